/-! the calls that change something: what comes out (k: 0 or which exception, v: the answer), and that the reference says the same -/
abbrev W0 (V : MS) (k0 k1 k2 k3 : Int32) : MS := vNote (mkV V.mn V.pre V.len V.lev V.hol V.sta V.en V.tdy V.dys V.pol V.par V.kd V.fi V.se V.th V.ne 0 V.fo V.fl) k0 k1 k2 k3
theorem INV.acc0 {S S2 : LDS} {pt : Nat → Int32} {jn : Nat} {V : MS} (h : INV (S, S2, pt, jn) V) {e : Nat × Nat × Nat × Nat} {k0 k1 k2 k3 : Int32} (hne : ¬ jn = 300) (a : acX S e) (e0 : k0 = nI e.1) (e1 : k1 = nI e.2.1) (e2 : k2 = nI e.2.2.1) (e3 : k3 = nI e.2.2.2) :
    INV (agX S e, S2, jPut pt jn k0 k1 k2 k3, jn + 1) (efV (W0 V k0 k1 k2 k3) 0 0 e) ∧ (efV (W0 V k0 k1 k2 k3) 0 0 e).tc = 0 := ⟨h.acc hne a e0 e1 e2 e3 0, (efV_log _ 0 0 e).2.2.2.2.2⟩
theorem INV.jn {S S2 : LDS} {pt : Nat → Int32} {jn : Nat} {V : MS} (h : INV (S, S2, pt, jn) V) : jn = V.ne := h.2.2.1.1
theorem INV.s1 {S S2 : LDS} {pt : Nat → Int32} {jn : Nat} {V : MS} (h : INV (S, S2, pt, jn) V) : SIM S V 0 0 := h.2.1.1
theorem INV.s2 {S S2 : LDS} {pt : Nat → Int32} {jn : Nat} {V : MS} (h : INV (S, S2, pt, jn) V) : SIM S2 V 200 1 := h.2.1.2
theorem INV.o1 {S S2 : LDS} {pt : Nat → Int32} {jn : Nat} {V : MS} (h : INV (S, S2, pt, jn) V) : LOK S := h.1.2.1
theorem INV.o2 {S S2 : LDS} {pt : Nat → Int32} {jn : Nat} {V : MS} (h : INV (S, S2, pt, jn) V) : LOK S2 := h.1.2.2
abbrev tbB (S : LDS) (p n : Nat) : Bool := (fst (tbP S.X p n) 0 S.X.n).isSome
abbrev okR (p n w : Nat) : Prop := (n < 32 ∧ p % 2 ^ (32 - n) = 0) ∧ w ≤ 9999
theorem SIM.rw {S : LDS} {V : MS} {b d : Nat} (h : SIM S V b d) (hL : LIV S.X) {p n w : Nat} : rwN V b d p n w = if okR p n w then (if tbB S p n = true then 2 else if S.X.n = 200 then 3 else 0) else 1 := by
  unfold rwN okR tbB
  by_cases q : (n < 32 ∧ p % 2 ^ (32 - n) = 0) ∧ w ≤ 9999
  · rw [if_pos q, if_pos ⟨⟨by omega, q.1.2⟩, q.2⟩, h.topB hL (by omega) q.1.2, h.mn]
  · rw [if_neg q, if_neg (fun z => q ⟨⟨by omega, z.1.2⟩, z.2⟩)]
def wRoot (S S2 : LDS) (pt : Nat → Int32) (jn p n w k : Nat) (v : Int64) (u : US) : Prop :=
  (k = 0 ∧ (okR p n w ∧ tbB S p n = false ∧ ¬ S.X.n = 200 ∧ ¬ jn = 300) ∧ v = (nI S.X.n).toInt64 ∧ u = ((rTop S.X p n w, S.pol, S.td, S.qd, S.wk), S2, jPut pt jn 1 (nI p) (nI n) (nI w), jn + 1))
  ∨ (k = 1 ∧ ¬ okR p n w ∧ u = (S, S2, pt, jn)) ∨ (k = 2 ∧ (okR p n w ∧ tbB S p n = true) ∧ u = (S, S2, pt, jn)) ∨ (k = 3 ∧ (okR p n w ∧ tbB S p n = false ∧ (S.X.n = 200 ∨ jn = 300)) ∧ u = (S, S2, pt, jn))
theorem iv_root {S S2 : LDS} {pt : Nat → Int32} {jn : Nat} {V : MS} (h : INV (S, S2, pt, jn) V) {p n w k : Nat} {v : Int64} {u : US} (hp : p < 4294967296) (q : wRoot S S2 pt jn p n w k v u) : k = (moRoo V p n w).tc ∧ (k = 0 → v = (nI (moRooR V p n w)).toInt64) ∧ INV u (moRoo V p n w) := by
  have hj := h.jn
  have e := h.s1.rw h.o1.2 (p := p) (n := n) (w := w)
  unfold moRoo moRooR
  rcases q with ⟨rfl, ⟨q1, q2, q3, q4⟩, rfl, rfl⟩ | ⟨rfl, q1, rfl⟩ | ⟨rfl, q1, rfl⟩ | ⟨rfl, ⟨q1, q2, q3⟩, rfl⟩
  · rw [if_pos q1, q2, if_neg (by decide), if_neg q3] at e
    have a : acX S (1, p, n, w) := ⟨by have := h.o1.2.ok.n; omega, q1, hp, tb_iff.mp q2⟩
    have z := h.acc0 q4 a (k0 := 1) (k1 := nI p) (k2 := nI n) (k3 := nI w) rfl rfl rfl rfl
    rw [e, if_pos rfl, if_neg (by omega), if_pos ⟨rfl, by omega⟩, h.s1.mn]
    exact ⟨z.2.symm, fun _ => rfl, z.1⟩
  · rw [if_neg q1] at e
    rw [e, if_neg (by decide)]
    exact ⟨rfl, fun q => absurd q (by decide), h.tc 1 V.fo V.fl⟩
  · rw [if_pos q1.1, if_pos q1.2] at e
    rw [e, if_neg (by decide)]
    exact ⟨rfl, fun q => absurd q (by decide), h.tc 2 V.fo V.fl⟩
  · rw [if_pos q1, q2, if_neg (by decide)] at e
    by_cases z : S.X.n = 200
    · rw [if_pos z] at e
      rw [e, if_neg (by decide)]
      exact ⟨rfl, fun q => absurd q (by decide), h.tc 3 V.fo V.fl⟩
    · rw [if_neg z] at e
      rw [e, if_pos rfl, if_pos (by omega)]
      exact ⟨rfl, fun q => absurd q (by decide), h.tc 3 V.fo V.fl⟩
/-! calls that answer a code -/
def wCode (S S2 : LDS) (pt : Nat → Int32) (jn : Nat) (c r : Int32) (S1 S' : LDS) (pt' : Nat → Int32) (k : Nat) (v : Int64) (u : US) : Prop :=
  (k = 0 ∧ ¬ c = 0 ∧ v = c.toInt64 ∧ u = (S1, S2, pt, jn)) ∨ (k = 0 ∧ (c = 0 ∧ ¬ jn = 300) ∧ v = r.toInt64 ∧ u = (S', S2, pt', jn + 1)) ∨ (k = 1 ∧ (c = 0 ∧ jn = 300) ∧ u = (S1, S2, pt, jn))
theorem ef0 (W : MS) (x : Nat) : vGro W (0 + x) = vGro W x ∧ (∀ u, vShr W (0 + x) u = vShr W x u) ∧ (∀ w, vHov W (0 + x) w = vHov W x w) ∧ (∀ v, vSta W (0 + x) v = vSta W x v) ∧ (∀ w, vPol W (4 * 0 + x) w = vPol W x w) ∧ ∀ p n v, vMake W 0 0 p n (some (0 + x)) (W.hol (0 + x)) v = vMake W 0 0 p n (some x) (W.hol x) v := by
  rw [Nat.zero_add]
  exact ⟨rfl, fun _ => rfl, fun _ => rfl, fun _ => rfl, fun _ => rfl, fun _ _ _ => rfl⟩
def wRes (S S2 : LDS) (pt : Nat → Int32) (jn x p n k : Nat) (v : Int64) (u : US) : Prop := wCode S S2 pt jn (rsvN S.X (cof S.X) x p n) (nI S.X.n) S (rChn (rBel S.X x p n 2) S.X.n x (cof S.X x), S.pol, S.td, S.qd, S.wk) (jPut pt jn 3 (nI x) (nI p) (nI n)) k v u
theorem iv_reserve {S S2 : LDS} {pt : Nat → Int32} {jn : Nat} {V : MS} (h : INV (S, S2, pt, jn) V) {x p n k : Nat} {v : Int64} {u : US} (hp : p < 4294967296) (q : wRes S S2 pt jn x p n k v u) : k = (moRes V x p n).tc ∧ (k = 0 → v = (moResR V x p n).toInt64) ∧ INV u (moRes V x p n) := by
  have hj := h.jn
  have e := h.s1.rsv h.o1.2 (by decide) rfl (x := x) (p := p) (n := n)
  unfold moRes moResR
  rw [e]
  rcases q with ⟨rfl, q1, rfl, rfl⟩ | ⟨rfl, ⟨q1, q2⟩, rfl, rfl⟩ | ⟨rfl, ⟨q1, q2⟩, rfl⟩
  · rw [if_neg q1, if_neg q1]
    exact ⟨rfl, fun _ => rfl, h.tc 0 V.fo V.fl⟩
  · have a : acX S (3, x, p, n) := ⟨q1, hp⟩
    have z := h.acc0 q2 a (k0 := 3) (k1 := nI x) (k2 := nI p) (k3 := nI n) rfl rfl rfl rfl
    have ez : efV (W0 V 3 (nI x) (nI p) (nI n)) 0 0 (3, x, p, n) = vMake (W0 V 3 (nI x) (nI p) (nI n)) 0 0 p n (some x) (V.hol x) 2 := (ef0 _ x).2.2.2.2.2 p n 2
    rw [ez] at z
    rw [if_pos q1, if_neg (by omega), if_pos q1, if_neg (by omega), h.s1.mn]
    exact ⟨z.2.symm, fun _ => rfl, z.1⟩
  · rw [if_pos q1, if_pos (by omega), if_pos q1, if_pos (by omega)]
    exact ⟨rfl, fun q => absurd q (by decide), h.tc 1 V.fo V.fl⟩
def wGro (S S2 : LDS) (pt : Nat → Int32) (jn x k : Nat) (v : Int64) (u : US) : Prop := wCode S S2 pt jn (groN S.X (cof S.X) x) (nI (S.X.len x - 1)) S (rDbl S.X x, S.pol, S.td, S.qd, S.wk) (jPut pt jn 6 (nI x) 0 0) k v u
theorem iv_grow {S S2 : LDS} {pt : Nat → Int32} {jn : Nat} {V : MS} (h : INV (S, S2, pt, jn) V) {x k : Nat} {v : Int64} {u : US} (q : wGro S S2 pt jn x k v u) : k = (moGro V x).tc ∧ (k = 0 → v = (moGroR V x).toInt64) ∧ INV u (moGro V x) := by
  have hj := h.jn
  have e := h.s1.gro h.o1.2 (by decide) rfl (x := x)
  unfold moGro moGroR
  rw [e]
  rcases q with ⟨rfl, q1, rfl, rfl⟩ | ⟨rfl, ⟨q1, q2⟩, rfl, rfl⟩ | ⟨rfl, ⟨q1, q2⟩, rfl⟩
  · rw [if_neg q1, if_neg q1]
    exact ⟨rfl, fun _ => rfl, h.tc 0 V.fo V.fl⟩
  · have a : acX S (6, x, 0, 0) := ⟨q1, rfl, rfl⟩
    have z := h.acc0 q2 a (k0 := 6) (k1 := nI x) (k2 := 0) (k3 := 0) rfl rfl rfl rfl
    have ez : efV (W0 V 6 (nI x) 0 0) 0 0 (6, x, 0, 0) = vGro (W0 V 6 (nI x) 0 0) x := (ef0 _ x).1
    have hx := (groN_1 q1).1.1
    have el : V.len x = S.X.len x := by have := h.s1.len hx; rwa [Nat.zero_add] at this
    rw [ez] at z
    rw [if_pos q1, if_neg (by omega), if_pos q1, if_neg (by omega), el]
    exact ⟨z.2.symm, fun _ => rfl, z.1⟩
  · rw [if_pos q1, if_pos (by omega), if_pos q1, if_pos (by omega)]
    exact ⟨rfl, fun q => absurd q (by decide), h.tc 1 V.fo V.fl⟩
def bN (u : Bool) : Nat := if u = true then 1 else 0
theorem bN_d (u : Bool) : decide (bN u = 1) = u := by cases u <;> rfl
theorem bN_lt (u : Bool) : bN u < 2 := by cases u <;> decide
theorem bi_bN (u : Bool) : bi u = nI (bN u) := by cases u <;> rfl
def wShk (S S2 : LDS) (pt : Nat → Int32) (jn x : Nat) (f : Bool) (k : Nat) (v : Int64) (u : US) : Prop := wCode S S2 pt jn (shrN S.X (cof S.X) x f) (nI (S.X.len x + 1)) S (rHlv S.X x f, S.pol, S.td, S.qd, S.wk) (jPut pt jn 7 (nI x) (bi f) 0) k v u
theorem iv_shrink {S S2 : LDS} {pt : Nat → Int32} {jn : Nat} {V : MS} (h : INV (S, S2, pt, jn) V) {x k : Nat} {f : Bool} {v : Int64} {u : US} (q : wShk S S2 pt jn x f k v u) : k = (moShk V x f).tc ∧ (k = 0 → v = (moShkR V x f).toInt64) ∧ INV u (moShk V x f) := by
  have hj := h.jn
  have e := h.s1.shr h.o1.2 (by decide) rfl (x := x) (u := f)
  unfold moShk moShkR
  rw [e]
  rcases q with ⟨rfl, q1, rfl, rfl⟩ | ⟨rfl, ⟨q1, q2⟩, rfl, rfl⟩ | ⟨rfl, ⟨q1, q2⟩, rfl⟩
  · rw [if_neg q1, if_neg q1]
    exact ⟨rfl, fun _ => rfl, h.tc 0 V.fo V.fl⟩
  · have a : acX S (7, x, bN f, 0) := ⟨by show shrN S.X (cof S.X) x (decide (bN f = 1)) = 0; rw [bN_d]; exact q1, bN_lt f, rfl⟩
    have z := h.acc0 q2 a (k0 := 7) (k1 := nI x) (k2 := bi f) (k3 := 0) rfl rfl (bi_bN f) rfl
    have ez : efV (W0 V 7 (nI x) (bi f) 0) 0 0 (7, x, bN f, 0) = vShr (W0 V 7 (nI x) (bi f) 0) x f := by
      show vShr _ (0 + x) (decide (bN f = 1)) = _
      rw [bN_d, Nat.zero_add]
    have eg : agX S (7, x, bN f, 0) = (rHlv S.X x f, S.pol, S.td, S.qd, S.wk) := by
      show (rHlv S.X x (decide (bN f = 1)), S.pol, S.td, S.qd, S.wk) = _
      rw [bN_d]
    have hx := (shrN_1 q1).1.1.1
    have el : V.len x = S.X.len x := by have := h.s1.len hx; rwa [Nat.zero_add] at this
    rw [ez, eg] at z
    rw [if_pos q1, if_neg (by omega), if_pos q1, if_neg (by omega), el]
    exact ⟨z.2.symm, fun _ => rfl, z.1⟩
  · rw [if_pos q1, if_pos (by omega), if_pos q1, if_pos (by omega)]
    exact ⟨rfl, fun q => absurd q (by decide), h.tc 1 V.fo V.fl⟩
def wAsk (S S2 : LDS) (pt : Nat → Int32) (jn x n : Nat) (f : Bool) (k : Nat) (v : Int64) (u : US) : Prop := wCode S S2 pt jn (askN S.X (cof S.X) S.pol (bkX S.X) x n) (nI S.X.n) (askS S (cof S.X) (bkX S.X) x n) (rChn (rBel S.X x (askY S (bkX S.X) x n f).1 n 1) S.X.n x (cof S.X x), S.pol, S.td, S.qd, wkL S.X (S.X.pre x + 2 ^ (32 - S.X.len x)) (cof S.X x) (S.X.pre x) (askS S (cof S.X) (bkX S.X) x n).wk.sa (askS S (cof S.X) (bkX S.X) x n).wk.le (bkX S.X x)) (jPut pt jn 2 (nI x) (nI n) (bi f)) k v u
theorem iv_ask {S S2 : LDS} {pt : Nat → Int32} {jn : Nat} {V : MS} (h : INV (S, S2, pt, jn) V) {x n k : Nat} {f : Bool} {v : Int64} {u : US} (q : wAsk S S2 pt jn x n f k v u) : k = (moAskA (vAw V 0 0 x n f) (asW V 0 0 x n f) (chA V x n f) x n f).tc ∧ (k = 0 → v = (moAskR (vAw V 0 0 x n f) (asW V 0 0 x n f)).toInt64) ∧ INV u (moAskA (vAw V 0 0 x n f) (asW V 0 0 x n f) (chA V x n f) x n f) := by
  have hj := h.jn
  have e := h.s1.ask h.o1.2 (by decide) rfl (x := x) (n := n) (u := f)
  obtain ⟨fo, fl, ev⟩ : ∃ fo fl, vAw V 0 0 x n f = mkV V.mn V.pre V.len V.lev V.hol V.sta V.en V.tdy V.dys V.pol V.par V.kd V.fi V.se V.th V.ne (vAw V 0 0 x n f).tc fo fl ∧ (vAw V 0 0 x n f).ne = V.ne ∧ (vAw V 0 0 x n f).mn = V.mn ∨ vAw V 0 0 x n f = V := by
    unfold vAw
    split
    · exact ⟨_, _, Or.inl ⟨rfl, rfl, rfl⟩⟩
    · exact ⟨0, 0, Or.inr rfl⟩
  have hV2 : INV (S, S2, pt, jn) (vAw V 0 0 x n f) := by
    rcases ev with ⟨ev, _⟩ | ev
    · rw [ev]; exact h.tc _ _ _
    · rw [ev]; exact h
  have hj2 := hV2.jn
  have s2 := hV2.s1
  rw [e]
  obtain ⟨V2, hV⟩ : ∃ V2, V2 = vAw V 0 0 x n f := ⟨_, rfl⟩
  rw [← hV] at hV2 hj2 s2 ⊢
  unfold moAskA moAskR
  rcases q with ⟨rfl, q1, rfl, rfl⟩ | ⟨rfl, ⟨q1, q2⟩, rfl, rfl⟩ | ⟨rfl, ⟨q1, q2⟩, rfl⟩
  · rw [if_neg q1, if_neg q1]
    exact ⟨rfl, fun _ => rfl, hV2.wk _ 0 V2.fo V2.fl⟩
  · have a : acX S (2, x, n, bN f) := ⟨q1, bN_lt f⟩
    have z := hV2.acc0 q2 a (k0 := 2) (k1 := nI x) (k2 := nI n) (k3 := bi f) rfl rfl rfl (bi_bN f)
    obtain ⟨p1, p2, p3, p4, p5, p6⟩ := askN_0 q1
    have ey := askY_eq (S := S) (u := f) p6
    have ec : chN V (0 + x) n f = some (askY S (bkX S.X) x n f) := (h.s1.chE h.o1.2 (by decide) rfl p1.1).trans ey
    have ec2 : chN (W0 V2 2 (nI x) (nI n) (bi f)) (0 + x) n f = some (askY S (bkX S.X) x n f) := (SIM.chE (V := W0 V2 2 (nI x) (nI n) (bi f)) s2 h.o1.2 (by decide) rfl p1.1).trans ey
    have ea : chA V x n f = (askY S (bkX S.X) x n f).1 := by unfold chA; rw [ec]; rfl
    have ez : ∃ fo fl, efV (W0 V2 2 (nI x) (nI n) (bi f)) 0 0 (2, x, n, bN f) = vMake (vFn (W0 V2 2 (nI x) (nI n) (bi f)) 0 fo fl) 0 0 (askY S (bkX S.X) x n f).1 n (some x) (V2.hol x) 1 := by
      refine ⟨boI (some (askY S (bkX S.X) x n f)), blI (some (askY S (bkX S.X) x n f)), ?_⟩
      show ef2 (W0 V2 2 (nI x) (nI n) (bi f)) 0 0 x n (decide (bN f = 1)) = _
      unfold ef2
      rw [bN_d, ec2]
      simp only [Nat.zero_add]
      rfl
    obtain ⟨fo2, fl2, ez⟩ := ez
    have eg : agX S (2, x, n, bN f) = (rChn (rBel S.X x (askY S (bkX S.X) x n f).1 n 1) S.X.n x (cof S.X x), S.pol, S.td, S.qd, wkL S.X (S.X.pre x + 2 ^ (32 - S.X.len x)) (cof S.X x) (S.X.pre x) S.wk.sa S.wk.le (bkX S.X x)) := by
      show (rChn (rBel S.X x (askY S (bkX S.X) x n (decide (bN f = 1))).1 n 1) S.X.n x (cof S.X x), S.pol, S.td, S.qd, _) = _
      rw [bN_d]
    rw [ez, eg] at z
    rw [if_pos q1, if_neg (by omega), if_pos q1, if_neg (by omega), s2.mn, ea]
    exact ⟨rfl, fun _ => rfl, z.1.wk _ 0 V2.fo V2.fl⟩
  · rw [if_pos q1, if_pos (by omega), if_pos q1, if_pos (by omega)]
    exact ⟨rfl, fun q => absurd q (by decide), hV2.wk _ 1 V2.fo V2.fl⟩
def wGiv (S S2 : LDS) (pt : Nat → Int32) (jn x k : Nat) (u : US) : Prop :=
  (k = 0 ∧ (x < S.X.n ∧ S.X.sta x = 2 ∧ ¬ jn = 300) ∧ u = ((rSta S.X x 1, S.pol, S.td, S.qd, S.wk), S2, jPut pt jn 4 (nI x) 0 0, jn + 1)) ∨ (k = 1 ∧ ¬ x < S.X.n ∧ u = (S, S2, pt, jn)) ∨ (k = 2 ∧ (x < S.X.n ∧ ¬ S.X.sta x = 2) ∧ u = (S, S2, pt, jn)) ∨ (k = 3 ∧ (x < S.X.n ∧ S.X.sta x = 2 ∧ jn = 300) ∧ u = (S, S2, pt, jn))
theorem iv_give {S S2 : LDS} {pt : Nat → Int32} {jn : Nat} {V : MS} (h : INV (S, S2, pt, jn) V) {x k : Nat} {u : US} (q : wGiv S S2 pt jn x k u) : k = (moGiv V x).tc ∧ INV u (moGiv V x) := by
  have hj := h.jn
  have em := h.s1.mn
  have es : x < S.X.n → V.sta x = S.X.sta x := fun hx => by have := h.s1.sta hx; rwa [Nat.zero_add] at this
  unfold moGiv
  rw [em]
  rcases q with ⟨rfl, ⟨q1, q2, q3⟩, rfl⟩ | ⟨rfl, q1, rfl⟩ | ⟨rfl, ⟨q1, q2⟩, rfl⟩ | ⟨rfl, ⟨q1, q2, q3⟩, rfl⟩
  · have a : acX S (4, x, 0, 0) := ⟨⟨q1, q2⟩, rfl, rfl⟩
    have z := h.acc0 q3 a (k0 := 4) (k1 := nI x) (k2 := 0) (k3 := 0) rfl rfl rfl rfl
    have ez : efV (W0 V 4 (nI x) 0 0) 0 0 (4, x, 0, 0) = vSta (W0 V 4 (nI x) 0 0) x 1 := (ef0 _ x).2.2.2.1 1
    rw [ez] at z
    rw [if_pos q1, if_pos (by rw [es q1]; exact q2), if_neg (by omega)]
    exact ⟨z.2.symm, z.1⟩
  · rw [if_neg q1]; exact ⟨rfl, h.tc 1 V.fo V.fl⟩
  · rw [if_pos q1, if_neg (by rw [es q1]; exact q2)]; exact ⟨rfl, h.tc 2 V.fo V.fl⟩
  · rw [if_pos q1, if_pos (by rw [es q1]; exact q2), if_pos (by omega)]; exact ⟨rfl, h.tc 3 V.fo V.fl⟩
abbrev mcB (S : LDS) (x : Nat) : Prop := (S.X.sta x = 1 ∨ S.X.sta x = 2) ∧ S.X.fc x = none
def wBak (S S2 : LDS) (pt : Nat → Int32) (jn x k : Nat) (v : Int64) (u : US) : Prop :=
  (k = 0 ∧ (x < S.X.n ∧ mcB S x ∧ ¬ jn = 300) ∧ v = (nI (S.td + S.qd)).toInt64 ∧ u = ((rBack S.X x S.td S.qd (chL S.X (cof S.X) x), S.pol, S.td, S.qd, S.wk), S2, jPut pt jn 5 (nI x) 0 0, jn + 1)) ∨ (k = 1 ∧ ¬ x < S.X.n ∧ u = (S, S2, pt, jn)) ∨ (k = 2 ∧ (x < S.X.n ∧ ¬ mcB S x) ∧ u = (S, S2, pt, jn)) ∨ (k = 3 ∧ (x < S.X.n ∧ mcB S x ∧ jn = 300) ∧ u = (S, S2, pt, jn))
theorem rBack_ch (X : RS) (x td qd : Nat) : rBack X x td qd (chL X (cof X) x) = rBack X x td qd (cof X ((X.par x).getD 0)) := by
  unfold rBack chL
  cases e : X.par x with
  | some p => rfl
  | none =>
    split
    · unfold rRet
      rw [show (rEn X x (td + qd)).par x = none from e]
    · rfl
theorem iv_back {S S2 : LDS} {pt : Nat → Int32} {jn : Nat} {V : MS} (h : INV (S, S2, pt, jn) V) {x k : Nat} {v : Int64} {u : US} (q : wBak S S2 pt jn x k v u) : k = (moBak V x).tc ∧ (k = 0 → v = (nI (moBakR V x)).toInt64) ∧ INV u (moBak V x) := by
  have hj := h.jn
  have e := h.s1.bak h.o1.2 (by decide) rfl (x := x)
  unfold moBak moBakR
  rcases q with ⟨rfl, ⟨q1, q2, q3⟩, rfl, rfl⟩ | ⟨rfl, q1, rfl⟩ | ⟨rfl, ⟨q1, q2⟩, rfl⟩ | ⟨rfl, ⟨q1, q2, q3⟩, rfl⟩
  · rw [if_pos q1, if_pos q2] at e
    have a : acX S (5, x, 0, 0) := ⟨⟨q1, q2⟩, rfl, rfl⟩
    have z := h.acc0 q3 a (k0 := 5) (k1 := nI x) (k2 := 0) (k3 := 0) rfl rfl rfl rfl
    rw [e, if_pos rfl, if_neg (by omega), if_pos ⟨rfl, by omega⟩, h.s1.td, h.s1.qd, rBack_ch]
    exact ⟨z.2.symm, fun _ => rfl, z.1⟩
  · rw [if_neg q1] at e
    rw [e, if_neg (by decide)]; exact ⟨rfl, fun q => absurd q (by decide), h.tc 1 V.fo V.fl⟩
  · rw [if_pos q1, if_neg q2] at e
    rw [e, if_neg (by decide)]; exact ⟨rfl, fun q => absurd q (by decide), h.tc 2 V.fo V.fl⟩
  · rw [if_pos q1, if_pos q2] at e
    rw [e, if_pos rfl, if_pos (by omega)]; exact ⟨rfl, fun q => absurd q (by decide), h.tc 3 V.fo V.fl⟩
def wTra (S S2 : LDS) (pt : Nat → Int32) (jn x w k : Nat) (v : Int64) (u : US) : Prop :=
  (k = 0 ∧ (x < S.X.n ∧ w ≤ 9999 ∧ S.X.sta x ≠ 4 ∧ ¬ jn = 300) ∧ v = (nI (hov S.X x w 0 S.X.n S.X.hol 0).2).toInt64 ∧ u = ((rHol S.X (hov S.X x w 0 S.X.n S.X.hol 0).1, S.pol, S.td, S.qd, S.wk), S2, jPut pt jn 8 (nI x) (nI w) 0, jn + 1)) ∨ (k = 1 ∧ ¬ x < S.X.n ∧ u = (S, S2, pt, jn)) ∨ (k = 2 ∧ (x < S.X.n ∧ ¬ w ≤ 9999) ∧ u = (S, S2, pt, jn)) ∨ (k = 3 ∧ (x < S.X.n ∧ w ≤ 9999 ∧ ¬ S.X.sta x ≠ 4) ∧ u = (S, S2, pt, jn)) ∨ (k = 4 ∧ (x < S.X.n ∧ w ≤ 9999 ∧ S.X.sta x ≠ 4 ∧ jn = 300) ∧ u = (S, S2, pt, jn))
theorem iv_transfer {S S2 : LDS} {pt : Nat → Int32} {jn : Nat} {V : MS} (h : INV (S, S2, pt, jn) V) {x w k : Nat} {v : Int64} {u : US} (q : wTra S S2 pt jn x w k v u) : k = (moTra V x w).tc ∧ (k = 0 → v = (nI (moTraR V x w)).toInt64) ∧ INV u (moTra V x w) := by
  have hj := h.jn
  have em := h.s1.mn
  have es : x < S.X.n → V.sta x = S.X.sta x := fun hx => by have := h.s1.sta hx; rwa [Nat.zero_add] at this
  unfold moTra moTraR
  rw [em]
  rcases q with ⟨rfl, ⟨q1, q2, q3, q4⟩, rfl, rfl⟩ | ⟨rfl, q1, rfl⟩ | ⟨rfl, ⟨q1, q2⟩, rfl⟩ | ⟨rfl, ⟨q1, q2, q3⟩, rfl⟩ | ⟨rfl, ⟨q1, q2, q3, q4⟩, rfl⟩
  · have a : acX S (8, x, w, 0) := ⟨⟨q1, q2, q3⟩, rfl⟩
    have z := h.acc0 q4 a (k0 := 8) (k1 := nI x) (k2 := nI w) (k3 := 0) rfl rfl rfl rfl
    have ez : efV (W0 V 8 (nI x) (nI w) 0) 0 0 (8, x, w, 0) = vHov (W0 V 8 (nI x) (nI w) 0) x w := (ef0 _ x).2.2.1 w
    rw [ez] at z
    have hn := h.o1.2.ok.n
    have sw : SIM S (W0 V 8 (nI x) (nI w) 0) 0 0 := h.s1
    have g := sw.rng (by decide) rfl (show x < 200 by omega)
    rw [Nat.zero_add] at g
    have hv := (sw.hovE h.o1.2 (w := w) q1 q3 S.X.n 0 S.X.hol (W0 V 8 (nI x) (nI w) 0).hol 0 (by omega) (fun j hj => sw.hol hj)).1
    rw [Nat.zero_add, Nat.zero_add] at hv
    rw [if_pos q1, if_pos q2, if_neg (by rw [es q1]; exact q3), if_neg (by omega), if_pos ⟨⟨⟨q1, q2⟩, by rw [es q1]; exact q3⟩, by omega⟩, g.1, g.2, hv]
    exact ⟨z.2.symm, fun _ => rfl, z.1⟩
  · rw [if_neg q1]; exact ⟨rfl, fun q => absurd q (by decide), h.tc 1 V.fo V.fl⟩
  · rw [if_pos q1, if_neg q2]; exact ⟨rfl, fun q => absurd q (by decide), h.tc 2 V.fo V.fl⟩
  · rw [if_pos q1, if_pos q2, if_pos (by rw [es q1]; omega)]; exact ⟨rfl, fun q => absurd q (by decide), h.tc 3 V.fo V.fl⟩
  · rw [if_pos q1, if_pos q2, if_neg (by rw [es q1]; exact q3), if_pos (by omega)]; exact ⟨rfl, fun q => absurd q (by decide), h.tc 4 V.fo V.fl⟩
def wPol (S S2 : LDS) (pt : Nat → Int32) (jn v w k : Nat) (u : US) : Prop :=
  (k = 0 ∧ (v < 4 ∧ w ≤ 1000 ∧ ¬ jn = 300) ∧ u = ((S.X, va_up S.pol v w, S.td, S.qd, S.wk), S2, jPut pt jn 9 (nI v) (nI w) 0, jn + 1)) ∨ (k = 1 ∧ ¬ (v < 4 ∧ w ≤ 1000) ∧ u = (S, S2, pt, jn)) ∨ (k = 2 ∧ (v < 4 ∧ w ≤ 1000 ∧ jn = 300) ∧ u = (S, S2, pt, jn))
theorem iv_policy {S S2 : LDS} {pt : Nat → Int32} {jn : Nat} {V : MS} (h : INV (S, S2, pt, jn) V) {v w k : Nat} {u : US} (q : wPol S S2 pt jn v w k u) : k = (moPol V v w).tc ∧ INV u (moPol V v w) := by
  have hj := h.jn
  unfold moPol
  rcases q with ⟨rfl, ⟨q1, q2, q3⟩, rfl⟩ | ⟨rfl, q1, rfl⟩ | ⟨rfl, ⟨q1, q2, q3⟩, rfl⟩
  · have a : acX S (9, v, w, 0) := ⟨⟨q1, q2⟩, rfl⟩
    have z := h.acc0 q3 a (k0 := 9) (k1 := nI v) (k2 := nI w) (k3 := 0) rfl rfl rfl rfl
    have ez : efV (W0 V 9 (nI v) (nI w) 0) 0 0 (9, v, w, 0) = vPol (W0 V 9 (nI v) (nI w) 0) v w := (ef0 _ v).2.2.2.2.1 w
    rw [ez] at z
    rw [if_pos ⟨by omega, q2⟩, if_neg (by omega)]
    exact ⟨z.2.symm, z.1⟩
  · rw [if_neg (fun z => q1 ⟨by omega, z.2⟩)]; exact ⟨rfl, h.tc 1 V.fo V.fl⟩
  · rw [if_pos ⟨by omega, q2⟩, if_pos (by omega)]; exact ⟨rfl, h.tc 2 V.fo V.fl⟩
def wQua (S S2 : LDS) (pt : Nat → Int32) (jn w k : Nat) (u : US) : Prop :=
  (k = 0 ∧ (w ≤ 1000 ∧ ¬ jn = 300) ∧ u = ((S.X, S.pol, S.td, w, S.wk), S2, jPut pt jn 11 (nI w) 0 0, jn + 1)) ∨ (k = 1 ∧ ¬ w ≤ 1000 ∧ u = (S, S2, pt, jn)) ∨ (k = 2 ∧ (w ≤ 1000 ∧ jn = 300) ∧ u = (S, S2, pt, jn))
theorem iv_quarantine {S S2 : LDS} {pt : Nat → Int32} {jn : Nat} {V : MS} (h : INV (S, S2, pt, jn) V) {w k : Nat} {u : US} (q : wQua S S2 pt jn w k u) : k = (moQua V w).tc ∧ INV u (moQua V w) := by
  have hj := h.jn
  unfold moQua
  rcases q with ⟨rfl, ⟨q1, q3⟩, rfl⟩ | ⟨rfl, q1, rfl⟩ | ⟨rfl, ⟨q1, q3⟩, rfl⟩
  · have a : acX S (11, w, 0, 0) := ⟨q1, rfl, rfl⟩
    have z := h.acc0 q3 a (k0 := 11) (k1 := nI w) (k2 := 0) (k3 := 0) rfl rfl rfl rfl
    rw [if_pos q1, if_neg (by omega)]
    exact ⟨z.2.symm, z.1⟩
  · rw [if_neg q1]; exact ⟨rfl, h.tc 1 V.fo V.fl⟩
  · rw [if_pos q1, if_pos (by omega)]; exact ⟨rfl, h.tc 2 V.fo V.fl⟩
def wDay (S S2 : LDS) (pt : Nat → Int32) (jn n k : Nat) (v : Int64) (u : US) : Prop :=
  (k = 0 ∧ ((S.td ≤ n ∧ n ≤ 100000) ∧ ¬ jn = 300) ∧ v = (nI (bgd n 0 S.X.n S.X 0).2).toInt64 ∧ u = (((bgd n 0 S.X.n S.X 0).1, S.pol, n, S.qd, S.wk), S2, jPut pt jn 10 (nI n) 0 0, jn + 1)) ∨ (k = 1 ∧ ¬ (S.td ≤ n ∧ n ≤ 100000) ∧ u = (S, S2, pt, jn)) ∨ (k = 2 ∧ ((S.td ≤ n ∧ n ≤ 100000) ∧ jn = 300) ∧ u = (S, S2, pt, jn))
theorem iv_day {S S2 : LDS} {pt : Nat → Int32} {jn : Nat} {V : MS} (h : INV (S, S2, pt, jn) V) {n k : Nat} {v : Int64} {u : US} (q : wDay S S2 pt jn n k v u) : k = (moDay V n).tc ∧ (k = 0 → v = (nI (moDayR V n)).toInt64) ∧ INV u (moDay V n) := by
  have hj := h.jn
  unfold moDay moDayR
  rw [h.s1.td, h.s1.mn]
  rcases q with ⟨rfl, ⟨q1, q3⟩, rfl, rfl⟩ | ⟨rfl, q1, rfl⟩ | ⟨rfl, ⟨q1, q3⟩, rfl⟩
  · have a : acX S (10, n, 0, 0) := ⟨q1, rfl, rfl⟩
    have z := h.acc0 q3 a (k0 := 10) (k1 := nI n) (k2 := 0) (k3 := 0) rfl rfl rfl rfl
    have ps := (ps_bgd (en := S.X.en) (en2 := V.en) (n := n) (b := 0) (N := S.X.n) (fun j hj => h.s1.en hj) S.X.n 0 S.X V.sta 0 (by omega) rfl (fun j hj => h.s1.sta hj)).1
    rw [Nat.zero_add] at ps
    rw [if_pos q1, if_neg (by omega), if_pos ⟨q1, by omega⟩, ps]
    exact ⟨z.2.symm, fun _ => rfl, z.1⟩
  · rw [if_neg q1]; exact ⟨rfl, fun q => absurd q (by decide), h.tc 1 V.fo V.fl⟩
  · rw [if_pos q1, if_pos (by omega)]; exact ⟨rfl, fun q => absurd q (by decide), h.tc 2 V.fo V.fl⟩
