/** All that can be seen of a small registry, as a text; the policies show through same(). */
final class Snapshot {
    private Snapshot() {
    }

    static String of(PrefixRegistry x) {
        StringBuilder text = new StringBuilder();
        for (int what = 0; what < 4; what++) {
            text.append(x.told(what)).append(' ');
        }
        for (int r = 0; r < x.told(0); r++) {
            text.append("\nrecord ").append(r).append(':');
            for (int what = 0; what < 7; what++) {
                text.append(' ').append(x.field(r, what));
            }
            text.append(" blocks ").append(x.blocks(r)).append(" used ").append(x.used(r));
            text.append(" cuts ").append(x.cuts(r)).append(" free ").append(x.freeAt(r, 32));
        }
        for (int k = 0; k < x.told(3); k++) {
            text.append("\nentry ").append(k).append(':');
            for (int what = 0; what < 4; what++) {
                text.append(' ').append(x.log(k, what));
            }
        }
        text.append("\nas second: ").append(x.same());
        text.append("\nreplayed: ").append(x.replay(x.told(3))).append(' ').append(x.same());
        return text.toString();
    }
}
