/-! blocks as numbers -/
theorem bx_x0 (z : Nat) : (2 * z) ^^^ 1 = 2 * z + 1 := by
  apply Nat.eq_of_testBit_eq; intro i
  cases i with
  | zero => simp [Nat.testBit_zero]
  | succ i => rw [Nat.testBit_xor, Nat.testBit_succ, Nat.testBit_succ, Nat.testBit_succ, show 2 * z / 2 = z by omega, show (2 * z + 1) / 2 = z by omega]; simp
theorem bx_x1 (z : Nat) : (2 * z + 1) ^^^ 1 = 2 * z := by
  apply Nat.eq_of_testBit_eq; intro i
  cases i with
  | zero => simp [Nat.testBit_zero]
  | succ i => rw [Nat.testBit_xor, Nat.testBit_succ, Nat.testBit_succ, Nat.testBit_succ, show 2 * z / 2 = z by omega, show (2 * z + 1) / 2 = z by omega]; simp
theorem bx_a (z : Nat) : (2 * z) &&& (2 * z + 1) = 2 * z := by
  apply Nat.eq_of_testBit_eq; intro i
  cases i with
  | zero => simp [Nat.testBit_zero]
  | succ i => rw [Nat.testBit_and, Nat.testBit_succ, Nat.testBit_succ, show 2 * z / 2 = z by omega, show (2 * z + 1) / 2 = z by omega]; simp
theorem bx_xor {k y : Nat} : (2 ^ k * y) ^^^ 2 ^ k = 2 ^ k * (y ^^^ 1) := by
  have e : ∀ u, 2 ^ k * u = u <<< k := fun u => by rw [Nat.shiftLeft_eq, Nat.mul_comm]
  rw [e, e, Nat.shiftLeft_xor_distrib, ← e 1, Nat.mul_one]
theorem bx_and {k y z : Nat} : (2 ^ k * y) &&& (2 ^ k * z) = 2 ^ k * (y &&& z) := by
  have e : ∀ u, 2 ^ k * u = u <<< k := fun u => by rw [Nat.shiftLeft_eq, Nat.mul_comm]
  rw [e, e, e, Nat.shiftLeft_and_distrib]
/-- a block, its sibling and both together -/
theorem bx_sib {x k : Nat} (h : x % 2 ^ k = 0) : (x = x / 2 ^ (k + 1) * 2 ^ (k + 1) ∧ x ^^^ 2 ^ k = x / 2 ^ (k + 1) * 2 ^ (k + 1) + 2 ^ k ∨ x = x / 2 ^ (k + 1) * 2 ^ (k + 1) + 2 ^ k ∧ x ^^^ 2 ^ k = x / 2 ^ (k + 1) * 2 ^ (k + 1)) ∧ x &&& (x ^^^ 2 ^ k) = x / 2 ^ (k + 1) * 2 ^ (k + 1) := by
  obtain ⟨y, hy⟩ : ∃ y, x = 2 ^ k * y := ⟨x / 2 ^ k, (Nat.mul_div_cancel' (Nat.dvd_of_mod_eq_zero h)).symm⟩
  have hp := Nat.two_pow_pos k
  have e1 : 2 ^ (k + 1) = 2 ^ k * 2 := Nat.pow_succ ..
  subst hy
  rw [e1, Nat.mul_div_mul_left _ _ hp, bx_xor, bx_and]
  have e2 : y / 2 * (2 ^ k * 2) = 2 ^ k * (2 * (y / 2)) := by rw [Nat.mul_comm (y / 2), Nat.mul_assoc]
  rw [e2]
  have c : y = 2 * (y / 2) ∨ y = 2 * (y / 2) + 1 := by omega
  generalize y / 2 = z at c
  cases c with
  | inl c => subst c; rw [bx_x0, bx_a]; exact ⟨Or.inl ⟨rfl, by rw [Nat.mul_add, Nat.mul_one]⟩, rfl⟩
  | inr c => subst c; rw [bx_x1, Nat.and_comm, bx_a]; exact ⟨Or.inr ⟨by rw [Nat.mul_add, Nat.mul_one], rfl⟩, rfl⟩
theorem bx_mask {x n : Nat} (hx : x < 4294967296) (hn : n < 33) : x &&& mskN n = x / 2 ^ (32 - n) * 2 ^ (32 - n) := by
  have e : mskN n = (2 ^ n - 1) <<< (32 - n) := by
    unfold mskN
    rw [Nat.shiftLeft_eq, Nat.sub_mul, ← Nat.pow_add, show n + (32 - n) = 32 by omega, Nat.one_mul]
  rw [e]
  apply Nat.eq_of_testBit_eq; intro i
  rw [Nat.testBit_and, Nat.testBit_shiftLeft, Nat.testBit_two_pow_sub_one, ← Nat.shiftLeft_eq, Nat.testBit_shiftLeft, Nat.testBit_div_two_pow]
  by_cases h : 32 - n ≤ i
  · by_cases h2 : i < 32
    · simp [h, show i - (32 - n) < n by omega, show i - (32 - n) + (32 - n) = i by omega]
    · have : x.testBit i = false := Nat.testBit_lt_two_pow (Nat.lt_of_lt_of_le hx (by rw [show (4294967296 : Nat) = 2 ^ 32 by rfl]; exact Nat.pow_le_pow_right (by decide) (by omega)))
      simp [h, this, show i - (32 - n) + (32 - n) = i by omega]
  · simp [h]
theorem bx_or {x k : Nat} (h : x % 2 ^ (k + 1) = 0) : x ||| 2 ^ k = x + 2 ^ k ∧ x ^^^ 2 ^ k = x + 2 ^ k := by
  obtain ⟨y, hy⟩ : ∃ y, x = 2 ^ (k + 1) * y := ⟨x / 2 ^ (k + 1), (Nat.mul_div_cancel' (Nat.dvd_of_mod_eq_zero h)).symm⟩
  have e1 : 2 ^ (k + 1) = 2 ^ k * 2 := Nat.pow_succ ..
  have hx : x = 2 ^ k * (2 * y) := by rw [hy, e1, Nat.mul_assoc]
  have o1 : (2 * y) ||| 1 = 2 * y + 1 := by
    apply Nat.eq_of_testBit_eq; intro i
    cases i with
    | zero => simp [Nat.testBit_zero]
    | succ i => rw [Nat.testBit_or, Nat.testBit_succ, Nat.testBit_succ, Nat.testBit_succ, show 2 * y / 2 = y by omega, show (2 * y + 1) / 2 = y by omega]; simp
  have e : ∀ u, 2 ^ k * u = u <<< k := fun u => by rw [Nat.shiftLeft_eq, Nat.mul_comm]
  constructor
  · rw [hx]
    have : 2 ^ k * (2 * y) ||| 2 ^ k = 2 ^ k * ((2 * y) ||| 1) := by rw [e, e, Nat.shiftLeft_or_distrib, ← e 1, Nat.mul_one]
    rw [this, o1, Nat.mul_add, Nat.mul_one]
  · rw [hx, bx_xor, bx_x0, Nat.mul_add, Nat.mul_one]
/-- sizes: the larger is a multiple of the smaller -/
theorem sz_mul {m n : Nat} (h : m ≤ n) (hn : n < 33) : 2 ^ (32 - m) = 2 ^ (32 - n) * 2 ^ (n - m) := by rw [← Nat.pow_add]; congr 1; omega
theorem sub_mt {a m p n : Nat} (h : m ≤ n) (hn : n < 33) (ha : a % 2 ^ (32 - m) = 0) (hp : p % 2 ^ (32 - n) = 0) : mt2 a m p n ↔ a ≤ p ∧ p + 2 ^ (32 - n) ≤ a + 2 ^ (32 - m) := by
  unfold mt2
  have e := sz_mul h hn
  have s0 := Nat.two_pow_pos (32 - n)
  have z0 := Nat.two_pow_pos (n - m)
  generalize 2 ^ (32 - m) = s at *
  generalize 2 ^ (32 - n) = t at *
  generalize 2 ^ (n - m) = w at *
  obtain ⟨y, hy⟩ : ∃ y, a = t * y := by
    obtain ⟨y, hy⟩ := Nat.dvd_of_mod_eq_zero ha
    exact ⟨w * y, by rw [hy, e, Nat.mul_assoc]⟩
  obtain ⟨z, hz⟩ : ∃ z, p = t * z := Nat.dvd_of_mod_eq_zero hp
  constructor
  · intro q
    obtain ⟨q1, q2⟩ := q
    subst hy; subst hz; subst e
    have u1 : t * y < t * (z + 1) := by rw [Nat.mul_add, Nat.mul_one]; exact q1
    have u2 : t * z < t * (y + w) := by rw [Nat.mul_add]; exact q2
    have v1 := Nat.lt_of_mul_lt_mul_left u1
    have v2 := Nat.lt_of_mul_lt_mul_left u2
    refine ⟨Nat.mul_le_mul_left t (by omega), ?_⟩
    have v3 : t * (z + 1) ≤ t * (y + w) := Nat.mul_le_mul_left t (by omega)
    rw [Nat.mul_add, Nat.mul_one, Nat.mul_add] at v3
    exact v3
  · intro q; exact ⟨by omega, by omega⟩
theorem mt_half {p n q k : Nat} (h : n ≤ k) (hk : k < 33) (ap : p % 2 ^ (32 - n) = 0) (aq : q % 2 ^ (32 - k) = 0) : mt2 p n q k ↔ p / 2 ^ (32 - n) = q / 2 ^ (32 - n) := by
  rw [sub_mt h hk ap aq]
  have e := sz_mul h hk
  have s0 := Nat.two_pow_pos (32 - k)
  have s1 := Nat.two_pow_pos (32 - n)
  obtain ⟨y, hy⟩ : ∃ y, p = 2 ^ (32 - n) * y := Nat.dvd_of_mod_eq_zero ap
  constructor
  · intro z
    have e1 : q / 2 ^ (32 - n) = p / 2 ^ (32 - n) := by
      rw [hy, Nat.mul_div_cancel_left _ s1, Nat.div_eq_iff s1]
      rw [hy] at z
      rw [Nat.mul_comm y]
      omega
    exact e1.symm
  · intro z
    have e2 : mt2 p n q k := by
      rw [hy, Nat.mul_div_cancel_left _ s1] at z
      have := (Nat.div_eq_iff s1).mp z.symm
      rw [Nat.mul_comm y] at this
      unfold mt2
      rw [hy]
      omega
    exact (sub_mt h hk ap aq).mp e2
theorem mt_iff {p n q k : Nat} (hn : n < 33) (hk : k < 33) (ap : p % 2 ^ (32 - n) = 0) (aq : q % 2 ^ (32 - k) = 0) : mt2 p n q k ↔ mtM p n q k := by
  unfold mtM
  by_cases h : n ≤ k
  · rw [Nat.min_eq_left h]; exact mt_half h hk ap aq
  · rw [Nat.min_eq_right (by omega), mt2_comm]
    exact (mt_half (by omega) hn aq ap).trans ⟨Eq.symm, Eq.symm⟩
/-! scans -/
theorem lastF_none {P : Nat → Bool} : ∀ (k i : Nat) (a : Option Nat), lastF P i k a = none ↔ a = none ∧ ∀ j, i ≤ j → j < i + k → P j = false
  | 0, i, a => by simp only [lastF]; exact ⟨fun h => ⟨h, fun j h1 h2 => by omega⟩, fun h => h.1⟩
  | k + 1, i, a => by
    simp only [lastF]
    rw [lastF_none k (i + 1)]
    constructor
    · intro ⟨h1, h2⟩
      cases e : P i with
      | true => rw [e] at h1; simp at h1
      | false =>
        rw [e] at h1
        refine ⟨by simpa using h1, fun j q1 q2 => ?_⟩
        by_cases z : j = i
        · rw [z]; exact e
        · exact h2 j (by omega) (by omega)
    · intro ⟨h1, h2⟩
      refine ⟨by rw [h2 i (by omega) (by omega), h1]; rfl, fun j q1 q2 => h2 j (by omega) (by omega)⟩
theorem lastF_some {P : Nat → Bool} : ∀ (k i : Nat) (a : Option Nat) (c : Nat), lastF P i k a = some c → a = some c ∨ i ≤ c ∧ c < i + k ∧ P c = true
  | 0, i, a, c, h => Or.inl h
  | k + 1, i, a, c, h => by
    simp only [lastF] at h
    cases lastF_some k (i + 1) _ c h with
    | inl q =>
      cases e : P i with
      | true => rw [e] at q; simp at q; right; rw [← q]; exact ⟨by omega, by omega, e⟩
      | false => rw [e] at q; left; simpa using q
    | inr q => right; exact ⟨by omega, by omega, q.2.2⟩
theorem anyF_iff {P : Nat → Bool} : ∀ (k i : Nat) (a : Bool), anyF P i k a = true ↔ a = true ∨ ∃ j, i ≤ j ∧ j < i + k ∧ P j = true
  | 0, i, a => by simp only [anyF]; exact ⟨Or.inl, fun h => h.elim id (fun ⟨j, h1, h2, _⟩ => by omega)⟩
  | k + 1, i, a => by
    simp only [anyF]
    rw [anyF_iff k (i + 1), Bool.or_eq_true]
    constructor
    · intro h
      rcases h with (h | h) | ⟨j, h1, h2, h3⟩
      · exact Or.inl h
      · exact Or.inr ⟨i, by omega, by omega, h⟩
      · exact Or.inr ⟨j, by omega, by omega, h3⟩
    · intro h
      rcases h with h | ⟨j, h1, h2, h3⟩
      · exact Or.inl (Or.inl h)
      · by_cases z : j = i
        · rw [z] at h3; exact Or.inl (Or.inr h3)
        · exact Or.inr ⟨j, by omega, by omega, h3⟩
theorem fst_none {P : Nat → Bool} : ∀ (k i : Nat), fst P i k = none ↔ ∀ j, i ≤ j → j < i + k → P j = false
  | 0, i => by simp only [fst]; exact ⟨fun h j h1 h2 => by omega, fun _ => trivial⟩
  | k + 1, i => by
    simp only [fst]
    cases e : P i with
    | true => simp only [if_true]; exact ⟨fun h => (nomatch h), fun h => by have := h i (by omega) (by omega); rw [e] at this; exact nomatch this⟩
    | false =>
      simp only [Bool.false_eq_true, if_false]
      rw [fst_none k (i + 1)]
      exact ⟨fun h j q1 q2 => by
        by_cases z : j = i
        · rw [z]; exact e
        · exact h j (by omega) (by omega), fun h j q1 q2 => h j (by omega) (by omega)⟩
theorem fst_some {P : Nat → Bool} : ∀ (k i c : Nat), fst P i k = some c → i ≤ c ∧ c < i + k ∧ P c = true
  | 0, i, c, h => by simp only [fst] at h; exact nomatch h
  | k + 1, i, c, h => by
    simp only [fst] at h
    cases e : P i with
    | true => rw [e] at h; simp at h; rw [← h]; exact ⟨by omega, by omega, e⟩
    | false =>
      rw [e] at h; simp at h
      have := fst_some k (i + 1) c h
      exact ⟨by omega, by omega, this.2.2⟩
theorem sumF_acc {f : Nat → Nat} : ∀ (k i a : Nat), sumF f i k a = a + sumF f i k 0
  | 0, i, a => by simp [sumF]
  | k + 1, i, a => by
    simp only [sumF]
    rw [sumF_acc k (i + 1) (a + f i), sumF_acc k (i + 1) (0 + f i)]
    omega
theorem sumF_congr {f g : Nat → Nat} : ∀ (k i b a : Nat), (∀ j, j < k → f (i + j) = g (b + j)) → sumF f i k a = sumF g b k a
  | 0, i, b, a, _ => rfl
  | k + 1, i, b, a, h => by
    simp only [sumF]
    have e := h 0 (by omega)
    rw [show i + 0 = i by rfl, show b + 0 = b by rfl] at e
    rw [e]
    exact sumF_congr k (i + 1) (b + 1) _ (fun j q => by
      have := h (j + 1) (by omega)
      rw [show i + 1 + j = i + (j + 1) by omega, show b + 1 + j = b + (j + 1) by omega]; exact this)
theorem sumF_zero : ∀ (k i a : Nat), sumF (fun _ => 0) i k a = a
  | 0, i, a => rfl
  | k + 1, i, a => by simp only [sumF, Nat.add_zero]; exact sumF_zero k (i + 1) a
theorem sumF_spike {f : Nat → Nat} {c v : Nat} : ∀ (k i a : Nat), i ≤ c → c < i + k → sumF (fun j => f j + if j = c then v else 0) i k a = v + sumF f i k a
  | 0, i, a, h1, h2 => by omega
  | k + 1, i, a, h1, h2 => by
    simp only [sumF]
    by_cases e : i = c
    · have q : sumF (fun j => f j + if j = c then v else 0) (i + 1) k (a + (f i + if i = c then v else 0)) = sumF f (i + 1) k (a + (f i + if i = c then v else 0)) :=
        sumF_congr k (i + 1) (i + 1) _ (fun j _ => by rw [if_neg (by omega)]; rfl)
      rw [q, if_pos e, sumF_acc k (i + 1) (a + (f i + v)), sumF_acc k (i + 1) (a + f i)]
      omega
    · rw [sumF_spike k (i + 1) _ (by omega) (by omega), if_neg e]; rfl
/-- a sum over a list -/
def sumL (g : Nat → Nat) : List Nat → Nat
  | [] => 0
  | j :: t => g j + sumL g t
theorem sumL_app {g : Nat → Nat} : ∀ (L M : List Nat), sumL g (L ++ M) = sumL g L + sumL g M
  | [], M => by simp [sumL]
  | j :: t, M => by simp only [List.cons_append, sumL]; rw [sumL_app t M]; omega
theorem sumF_list {g : Nat → Nat} : ∀ (L : List Nat) (n : Nat), L.Nodup → (∀ c ∈ L, c < n) → sumF (fun c => if c ∈ L then g c else 0) 0 n 0 = sumL g L
  | [], n, _, _ => by
    simp only [List.not_mem_nil, if_false, sumL]
    exact sumF_zero n 0 0
  | j :: t, n, h1, h2 => by
    have n1 := List.nodup_cons.mp h1
    have ih := sumF_list (g := g) t n n1.2 (fun c q => h2 c (List.mem_cons_of_mem _ q))
    have e : ∀ c, (if c ∈ j :: t then g c else 0) = (if c ∈ t then g c else 0) + if c = j then g j else 0 := fun c => by
      by_cases z : c = j
      · rw [if_pos (by rw [z]; exact List.mem_cons_self), if_neg (by rw [z]; exact n1.1), if_pos z, z]; omega
      · rw [if_neg z]
        by_cases y : c ∈ t
        · rw [if_pos (List.mem_cons_of_mem _ y), if_pos y]; omega
        · rw [if_neg (fun q => by cases List.mem_cons.mp q with | inl q => exact z q | inr q => exact y q), if_neg y]
    rw [sumF_congr (g := fun c => (if c ∈ t then g c else 0) + if c = j then g j else 0) n 0 0 0 (fun c _ => e (0 + c)), sumF_spike n 0 0 (by omega) (by have := h2 j List.mem_cons_self; omega), ih]
    rfl
/-! the class's ledger S and the reference's half d, which begins at b, hold the same -/
def SIM (S : LDS) (V : MS) (b d : Nat) : Prop := V.mn d = S.X.n ∧ (∀ j, j < S.X.n → V.pre (b + j) = S.X.pre j ∧ V.len (b + j) = S.X.len j ∧ V.lev (b + j) = S.X.lev j ∧ V.hol (b + j) = S.X.hol j ∧ V.sta (b + j) = S.X.sta j ∧ V.en (b + j) = S.X.en j ∧ V.par (b + j) = (S.X.par j).map (b + ·)) ∧ (∀ i, i < 4 → V.pol (4 * d + i) = S.pol i) ∧ V.tdy d = S.td ∧ V.dys d = S.qd
theorem SIM.mn {S : LDS} {V : MS} {b d : Nat} (h : SIM S V b d) : V.mn d = S.X.n := h.1
theorem SIM.pre {S : LDS} {V : MS} {b d : Nat} (h : SIM S V b d) {j : Nat} (q : j < S.X.n) : V.pre (b + j) = S.X.pre j := (h.2.1 j q).1
theorem SIM.len {S : LDS} {V : MS} {b d : Nat} (h : SIM S V b d) {j : Nat} (q : j < S.X.n) : V.len (b + j) = S.X.len j := (h.2.1 j q).2.1
theorem SIM.lev {S : LDS} {V : MS} {b d : Nat} (h : SIM S V b d) {j : Nat} (q : j < S.X.n) : V.lev (b + j) = S.X.lev j := (h.2.1 j q).2.2.1
theorem SIM.hol {S : LDS} {V : MS} {b d : Nat} (h : SIM S V b d) {j : Nat} (q : j < S.X.n) : V.hol (b + j) = S.X.hol j := (h.2.1 j q).2.2.2.1
theorem SIM.sta {S : LDS} {V : MS} {b d : Nat} (h : SIM S V b d) {j : Nat} (q : j < S.X.n) : V.sta (b + j) = S.X.sta j := (h.2.1 j q).2.2.2.2.1
theorem SIM.en {S : LDS} {V : MS} {b d : Nat} (h : SIM S V b d) {j : Nat} (q : j < S.X.n) : V.en (b + j) = S.X.en j := (h.2.1 j q).2.2.2.2.2.1
theorem SIM.par {S : LDS} {V : MS} {b d : Nat} (h : SIM S V b d) {j : Nat} (q : j < S.X.n) : V.par (b + j) = (S.X.par j).map (b + ·) := (h.2.1 j q).2.2.2.2.2.2
theorem SIM.parS {S : LDS} {V : MS} {b d : Nat} (h : SIM S V b d) {j r : Nat} (q : j < S.X.n) : V.par (b + j) = some (b + r) ↔ S.X.par j = some r := by
  rw [h.par q]
  cases S.X.par j with
  | none => simp
  | some p => simp
theorem SIM.parN {S : LDS} {V : MS} {b d : Nat} (h : SIM S V b d) {j : Nat} (q : j < S.X.n) : V.par (b + j) = none ↔ S.X.par j = none := by
  rw [h.par q]
  cases S.X.par j with
  | none => simp
  | some p => simp
theorem SIM.pol {S : LDS} {V : MS} {b d : Nat} (h : SIM S V b d) {i : Nat} (q : i < 4) : V.pol (4 * d + i) = S.pol i := h.2.2.1 i q
theorem SIM.td {S : LDS} {V : MS} {b d : Nat} (h : SIM S V b d) : V.tdy d = S.td := h.2.2.2.1
theorem SIM.qd {S : LDS} {V : MS} {b d : Nat} (h : SIM S V b d) : V.dys d = S.qd := h.2.2.2.2
theorem sb_of {b d : Nat} (hd : d < 2) (hb : b = 200 * d) {r : Nat} (hr : r < 200) : sbN (b + r) = b := by
  unfold sbN
  have : d = 0 ∨ d = 1 := by omega
  cases this with
  | inl q => subst q; subst hb; rw [if_pos (by omega)]
  | inr q => subst q; subst hb; rw [if_neg (by omega)]
theorem eb_of {V : MS} {b d : Nat} (hd : d < 2) (hb : b = 200 * d) {r : Nat} (hr : r < 200) : ebN V (b + r) = b + V.mn d := by
  unfold ebN
  have : d = 0 ∨ d = 1 := by omega
  cases this with
  | inl q => subst q; subst hb; rw [if_pos (by omega)]; omega
  | inr q => subst q; subst hb; rw [if_neg (by omega)]
theorem SIM.rng {S : LDS} {V : MS} {b d : Nat} (h : SIM S V b d) (hd : d < 2) (hb : b = 200 * d) {r : Nat} (hr : r < 200) : sbN (b + r) = b ∧ ebN V (b + r) - b = S.X.n := by
  rw [sb_of hd hb hr, eb_of hd hb hr, h.mn]
  exact ⟨rfl, by omega⟩
/-- who takes a block -/
theorem SIM.takP {S : LDS} {V : MS} {b d : Nat} (h : SIM S V b d) {r p n c : Nat} (hc : c < S.X.n) : tkP V (b + r) p n (b + c) = true ↔ S.X.par c = some r ∧ S.X.sta c ≠ 4 ∧ mtM (S.X.pre c) (S.X.len c) p n := by
  unfold tkP
  rw [h.pre hc, h.len hc, h.sta hc, Bool.and_eq_true, decide_eq_true_eq, decide_eq_true_eq, h.parS hc, and_assoc]
theorem SIM.takN {S : LDS} {V : MS} {b d : Nat} (h : SIM S V b d) (hL : LIV S.X) (hd : d < 2) (hb : b = 200 * d) {r p n : Nat} (hr : r < S.X.n) (hn : n < 33) (ha : p % 2 ^ (32 - n) = 0) : tkN V (b + r) p n = none ↔ ∀ c, c < S.X.n → S.X.par c = some r → S.X.sta c ≠ 4 → ¬ mt2 (S.X.pre c) (S.X.len c) p n := by
  have hn200 := hL.ok.n
  unfold tkN
  rw [(h.rng hd hb (show r < 200 by omega)).1, (h.rng hd hb (show r < 200 by omega)).2, lastF_none]
  constructor
  · intro ⟨_, q⟩ c hc q1 q2 q3
    have := q (b + c) (by omega) (by omega)
    rw [Bool.eq_false_iff] at this
    exact this ((h.takP hc).mpr ⟨q1, q2, (mt_iff (hL.ok.len c) hn (hL.al c) ha).mp q3⟩)
  · intro q
    refine ⟨rfl, fun j j1 j2 => ?_⟩
    obtain ⟨c, rfl⟩ : ∃ c, j = b + c := ⟨j - b, by omega⟩
    rw [Bool.eq_false_iff]
    intro z
    have hc : c < S.X.n := by omega
    have z := (h.takP hc).mp z
    exact q c hc z.1 z.2.1 ((mt_iff (hL.ok.len c) hn (hL.al c) ha).mpr z.2.2)
theorem SIM.tkS {S : LDS} {V : MS} {b d : Nat} (h : SIM S V b d) (hL : LIV S.X) (hd : d < 2) (hb : b = 200 * d) {r p n k : Nat} (hr : r < S.X.n) (hn : n < 33) (ha : p % 2 ^ (32 - n) = 0) (q : tkN V (b + r) p n = some k) : ∃ c, k = b + c ∧ c < S.X.n ∧ S.X.par c = some r ∧ S.X.sta c ≠ 4 ∧ mt2 (S.X.pre c) (S.X.len c) p n := by
  have hn200 := hL.ok.n
  unfold tkN at q
  rw [(h.rng hd hb (show r < 200 by omega)).1, (h.rng hd hb (show r < 200 by omega)).2] at q
  cases lastF_some _ _ _ _ q with
  | inl z => exact nomatch z
  | inr z =>
    obtain ⟨z1, z2, z3⟩ := z
    obtain ⟨c, rfl⟩ : ∃ c, k = b + c := ⟨k - b, by omega⟩
    have hc : c < S.X.n := by omega
    have z := (h.takP hc).mp z3
    exact ⟨c, rfl, hc, z.1, z.2.1, (mt_iff (hL.ok.len c) hn (hL.al c) ha).mpr z.2.2⟩
theorem usedL_sum (X : RS) : ∀ L, usedL X L = sumL (fun c => 2 ^ (32 - X.len c)) L
  | [] => rfl
  | j :: t => by simp only [usedL, sumL]; rw [usedL_sum X t]
theorem cutsL_sum (X : RS) : ∀ L, cutsL X L = sumL (cutN X) L
  | [] => rfl
  | j :: t => by simp only [cutsL, sumL]; rw [cutsL_sum X t]
theorem SIM.us {S : LDS} {V : MS} {b d : Nat} (h : SIM S V b d) (hL : LIV S.X) (hd : d < 2) (hb : b = 200 * d) {r : Nat} (hr : r < S.X.n) : usN V (b + r) = usedL S.X (cof S.X r) := by
  have hn200 := hL.ok.n
  have C := hL.ch hr
  unfold usN
  rw [(h.rng hd hb (show r < 200 by omega)).1, (h.rng hd hb (show r < 200 by omega)).2, usedL_sum, ← sumF_list (cof S.X r) S.X.n C.nd (fun c q => ((C.2.2 c).mp q).1)]
  refine sumF_congr _ _ _ _ (fun c hc => ?_)
  unfold usF
  simp only [Nat.zero_add]
  rw [h.len hc, h.sta hc]
  by_cases z : c ∈ cof S.X r
  · have y := (C.2.2 c).mp z
    rw [if_pos z, if_pos ⟨(h.parS hc).mpr y.2.1, y.2.2⟩]
  · rw [if_neg z, if_neg (fun y => z ((C.2.2 c).mpr ⟨hc, (h.parS hc).mp y.1, y.2⟩))]
theorem SIM.hl {S : LDS} {V : MS} {b d : Nat} (h : SIM S V b d) (hL : LIV S.X) (hd : d < 2) (hb : b = 200 * d) {r : Nat} (hr : r < S.X.n) : hlN V (b + r) = false ↔ S.X.fc r = none := by
  have hn200 := hL.ok.n
  have C := hL.ch hr
  have e : S.X.fc r = none ↔ cof S.X r = [] := by
    have := chn_head C.1
    rw [this]; cases cof S.X r with
    | nil => simp
    | cons j t => simp
  rw [e, Bool.eq_false_iff]
  unfold hlN
  rw [(h.rng hd hb (show r < 200 by omega)).1, (h.rng hd hb (show r < 200 by omega)).2]
  rw [Ne, anyF_iff]
  have hp : ∀ c, c < S.X.n → (chP V (b + r) (b + c) = true ↔ c ∈ cof S.X r) := fun c hc => by
    unfold chP
    rw [decide_eq_true_eq, h.parS hc, h.sta hc, C.2.2 c]
    exact ⟨fun q => ⟨hc, q⟩, fun q => q.2⟩
  constructor
  · intro q
    cases el : cof S.X r with
    | nil => rfl
    | cons j t =>
      exfalso
      have hj : j ∈ cof S.X r := by rw [el]; exact List.mem_cons_self
      have hjn := ((C.2.2 j).mp hj).1
      exact q (Or.inr ⟨b + j, by omega, by omega, (hp j hjn).mpr hj⟩)
  · intro q z
    rcases z with z | ⟨j, j1, j2, j3⟩
    · exact nomatch z
    · obtain ⟨c, rfl⟩ : ∃ c, j = b + c := ⟨j - b, by omega⟩
      have := (hp c (by omega)).mp j3
      rw [q] at this; exact nomatch this
