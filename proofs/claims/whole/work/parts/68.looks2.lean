/-! the calls that look -/
theorem INV.ne {S S2 : LDS} {pt : Nat → Int32} {jn : Nat} {V : MS} (h : INV (S, S2, pt, jn) V) : V.ne ≤ 300 := h.1.1.1.ne
theorem fd_eq {S : LDS} {V : MS} {b d : Nat} (h : SIM S V b d) (hn : S.X.n ≤ 200) (hd : d < 2) (hb : b = 200 * d) {x : Nat} (hx : x < S.X.n) : ∀ w, fdN V (b + x) w = fct S.X x w
  | 0 => by show nI (V.pre (b + x)) = nI (S.X.pre x); rw [h.pre hx]
  | 1 => by show nI (V.len (b + x)) = nI (S.X.len x); rw [h.len hx]
  | 2 => by
    show fdP (V.par (b + x)) (sbN (b + x)) = pI (S.X.par x)
    rw [h.par hx, sb_of hd hb (show x < 200 by omega)]
    cases S.X.par x with
    | none => rfl
    | some p => show nI (b + p) - nI b = nI p; rw [pk_sub (by omega)]; congr 1; omega
  | 3 => by show nI (V.lev (b + x)) = nI (S.X.lev x); rw [h.lev hx]
  | 4 => by show nI (V.hol (b + x)) = nI (S.X.hol x); rw [h.hol hx]
  | 5 => by show nI (V.sta (b + x)) = nI (S.X.sta x); rw [h.sta hx]
  | _ + 6 => by show nI (V.en (b + x)) = nI (S.X.en x); rw [h.en hx]
def wFld (S S2 : LDS) (pt : Nat → Int32) (jn x w k : Nat) (v : Int64) (u : US) : Prop :=
  ((k = 0 ∧ (x < S.X.n ∧ w < 7) ∧ v = (fct S.X x w).toInt64) ∨ (k = 1 ∧ ¬ x < S.X.n) ∨ (k = 2 ∧ (x < S.X.n ∧ ¬ w < 7))) ∧ u = (S, S2, pt, jn)
theorem iv_field {S S2 : LDS} {pt : Nat → Int32} {jn : Nat} {V : MS} (h : INV (S, S2, pt, jn) V) {x w k : Nat} {v : Int64} {u : US} (q : wFld S S2 pt jn x w k v u) : k = mfdT V x w ∧ (k = 0 → v = (mfdR V x w).toInt64) ∧ INV u V := by
  obtain ⟨q, rfl⟩ := q
  unfold mfdT mfdR
  rw [h.s1.mn]
  rcases q with ⟨rfl, ⟨q1, q2⟩, rfl⟩ | ⟨rfl, q1⟩ | ⟨rfl, ⟨q1, q2⟩⟩
  · have e := fd_eq h.s1 h.o1.2.ok.n (by decide) rfl q1 w
    rw [Nat.zero_add] at e
    rw [if_pos q1, if_pos (by omega), if_pos ⟨q1, by omega⟩, e]
    exact ⟨rfl, fun _ => rfl, h⟩
  · rw [if_neg q1]; exact ⟨rfl, fun q => absurd q (by decide), h⟩
  · rw [if_pos q1, if_neg (by omega)]; exact ⟨rfl, fun q => absurd q (by decide), h⟩
theorem iv_told {S S2 : LDS} {pt : Nat → Int32} {jn : Nat} {V : MS} (h : INV (S, S2, pt, jn) V) : ∀ w, tldN S jn w = mtlN V w
  | 0 => by show nI S.X.n = nI (V.mn 0); rw [h.s1.mn]
  | 1 => by show nI S.td = nI (V.tdy 0); rw [h.s1.td]
  | 2 => by show nI S.qd = nI (V.dys 0); rw [h.s1.qd]
  | 3 => by show nI jn = nI V.ne; rw [h.jn]
  | _ + 4 => rfl
/-- one given record of a level has an address -/
theorem LIV.one {X : RS} (h : LIV X) {a : Nat} : ∀ (t i j : Nat), i < X.n → j < X.n → X.sta i = 1 → X.sta j = 1 → X.lev i = t → X.lev j = t → mt2 (X.pre i) (X.len i) a 32 → mt2 (X.pre j) (X.len j) a 32 → i = j
  | t, i, j, hi, hj, si, sj, li, lj, mi, mj => by
    have zi := Nat.two_pow_pos (32 - X.len i)
    have zj := Nat.two_pow_pos (32 - X.len j)
    simp only [mt2, Nat.sub_self, Nat.pow_zero] at mi mj
    have fin : X.par i = X.par j → i = j := fun e => by
      by_cases q : i = j
      · exact q
      · exact absurd (show mt2 (X.pre i) (X.len i) (X.pre j) (X.len j) by unfold mt2; omega) (h.dj hi hj q e (by omega) (by omega))
    cases ei : X.par i with
    | none =>
      have := h.top0 hi ei
      cases ej : X.par j with
      | none => exact fin (by rw [ei, ej])
      | some q => have := h.lv hj ej; omega
    | some p =>
      have l1 := h.lv hi ei
      have i1 := h.inn hi ei (by omega)
      have p1 := h.lt hi ei
      cases ej : X.par j with
      | none => have := h.top0 hj ej; omega
      | some q =>
        have l2 := h.lv hj ej
        have i2 := h.inn hj ej (by omega)
        have p2 := h.lt hj ej
        cases t with
        | zero => omega
        | succ t =>
          have := LIV.one h (a := a) t p q (by omega) (by omega) i1.1 i2.1 (by omega) (by omega) (by simp only [mt2, Nat.sub_self, Nat.pow_zero]; omega) (by simp only [mt2, Nat.sub_self, Nat.pow_zero]; omega)
          exact fin (by rw [ei, ej, this])
theorem iv_holder {S S2 : LDS} {pt : Nat → Int32} {jn : Nat} {V : MS} (h : INV (S, S2, pt, jn) V) (a t : Nat) : fst (gwP S.X a t) 0 S.X.n = hoN V a t := by
  have hL := h.o1.2
  have ha : a % 2 ^ (32 - 32) = 0 := by simp [Nat.mod_one]
  have g : ∀ c, gwP S.X a t c = true ↔ S.X.sta c = 1 ∧ S.X.lev c = t ∧ mt2 (S.X.pre c) (S.X.len c) a 32 := fun c => by
    unfold gwP
    rw [Bool.and_eq_true, Bool.and_eq_true, decide_eq_true_eq, decide_eq_true_eq, decide_eq_true_eq, and_assoc]
  have e : ∀ c, c < S.X.n → (hoP V a t c = true ↔ gwP S.X a t c = true) := fun c hc => by
    have e1 := h.s1.sta hc
    have e2 := h.s1.lev hc
    have e3 := h.s1.pre hc
    have e4 := h.s1.len hc
    rw [Nat.zero_add] at e1 e2 e3 e4
    rw [g]
    unfold hoP
    rw [Bool.and_eq_true, Bool.and_eq_true, decide_eq_true_eq, decide_eq_true_eq, decide_eq_true_eq, and_assoc, e1, e2, e3, e4, ← mt_iff (by decide) (hL.ok.len c) ha (hL.al c), mt2_comm]
  unfold hoN
  rw [h.s1.mn]
  cases e1 : fst (gwP S.X a t) 0 S.X.n with
  | none =>
    have f := (fst_none _ _).mp e1
    refine ((lastF_none _ _ _).mpr ⟨rfl, fun j j1 j2 => ?_⟩).symm
    have := f j j1 j2
    rw [Bool.eq_false_iff] at this ⊢
    exact fun z => this ((e j (by omega)).mp z)
  | some c =>
    have f := fst_some _ _ _ e1
    cases e2 : lastF (hoP V a t) 0 S.X.n none with
    | none =>
      have := ((lastF_none _ _ _).mp e2).2 c f.1 f.2.1
      rw [(e c (by omega)).mpr f.2.2] at this; exact nomatch this
    | some c2 =>
      cases lastF_some _ _ _ _ e2 with
      | inl z => exact nomatch z
      | inr z =>
        have g1 := (g c).mp f.2.2
        have g2 := (g c2).mp ((e c2 (by omega)).mp z.2.2)
        rw [hL.one t c c2 (by omega) (by omega) g1.1 g2.1 g1.2.1 g2.2.1 g1.2.2 g2.2.2]
abbrev wkX (S : LDS) (x : Nat) : LDS := (S.X, S.pol, S.td, S.qd, wkL S.X (S.X.pre x + 2 ^ (32 - S.X.len x)) (cof S.X x) (S.X.pre x) S.wk.sa S.wk.le (bkX S.X x))
def wFre (S S2 : LDS) (pt : Nat → Int32) (jn x n k : Nat) (v : Int64) (u : US) : Prop :=
  (k = 0 ∧ (x < S.X.n ∧ n ≤ 32) ∧ v = lN ((bkX S.X x).foldl (frS n) 0) ∧ u = (wkX S x, S2, pt, jn)) ∨ (k = 1 ∧ ¬ x < S.X.n ∧ u = (S, S2, pt, jn)) ∨ (k = 2 ∧ (x < S.X.n ∧ ¬ n ≤ 32) ∧ u = (S, S2, pt, jn))
theorem iv_freeAt {S S2 : LDS} {pt : Nat → Int32} {jn : Nat} {V : MS} (h : INV (S, S2, pt, jn) V) {x n k : Nat} {v : Int64} {u : US} (q : wFre S S2 pt jn x n k v u) : k = mfdT6 V x n ∧ (k = 0 → v = lN (mfrR V x n)) ∧ INV u V := by
  unfold mfdT6 mfrR
  rw [h.s1.mn]
  rcases q with ⟨rfl, ⟨q1, q2⟩, rfl, rfl⟩ | ⟨rfl, q1, rfl⟩ | ⟨rfl, ⟨q1, q2⟩, rfl⟩
  · have e := h.s1.blkE h.o1.2 (by decide) rfl q1
    rw [Nat.zero_add] at e
    rw [if_pos q1, if_pos q2, if_pos ⟨q1, q2⟩]
    unfold frN2
    rw [e]
    exact ⟨rfl, fun _ => rfl, h.wk _ V.tc V.fo V.fl⟩
  · rw [if_neg q1]; exact ⟨rfl, fun q => absurd q (by decide), h⟩
  · rw [if_pos q1, if_neg q2]; exact ⟨rfl, fun q => absurd q (by decide), h⟩
theorem wkF_none : ∀ (B : List (Nat × Nat)) (i : Nat) (fo : Int64) (fl : Int32), (wkF none B i fo fl).1 = false ∧ (wkF none B i fo fl).2.1 = i + B.length
  | [], i, fo, fl => ⟨rfl, rfl⟩
  | x :: t, i, fo, fl => by
    simp only [wkF]
    rw [if_neg (fun q => (nomatch q))]
    have := wkF_none t (i + 1) (lN x.1) (nI x.2)
    rw [List.length_cons]
    exact ⟨this.1, by rw [this.2]; omega⟩
def wBls (S S2 : LDS) (pt : Nat → Int32) (jn x k : Nat) (v : Int64) (u : US) : Prop :=
  (k = 0 ∧ x < S.X.n ∧ v = (nI (bkX S.X x).length).toInt64 ∧ u = (wkX S x, S2, pt, jn)) ∨ (k = 1 ∧ ¬ x < S.X.n ∧ u = (S, S2, pt, jn))
theorem iv_blocks {S S2 : LDS} {pt : Nat → Int32} {jn : Nat} {V : MS} (h : INV (S, S2, pt, jn) V) {x k : Nat} {v : Int64} {u : US} (q : wBls S S2 pt jn x k v u) : k = (moBls V x).tc ∧ (k = 0 → v = (moBlsR V x).toInt64) ∧ INV u (moBls V x) := by
  unfold moBls moBlsR
  rw [h.s1.mn]
  rcases q with ⟨rfl, q1, rfl, rfl⟩ | ⟨rfl, q1, rfl⟩
  · have e := h.s1.blkE h.o1.2 (by decide) rfl q1
    rw [Nat.zero_add] at e
    have w := wkF_none (blkL V x) 0 V.fo V.fl
    rw [if_pos q1, if_pos q1]
    refine ⟨rfl, fun _ => ?_, h.wk _ 0 _ _⟩
    unfold wkR
    rw [w.1, w.2, e, Nat.zero_add]
  · rw [if_neg q1]; exact ⟨rfl, fun q => absurd q (by decide), h.tc 1 V.fo V.fl⟩
theorem wkG_eq {X : RS} {e k : Nat} : ∀ (B : List (Nat × Nat)) (L : List Nat) (a i : Nat) (sa fo : Int64) (le fl : Int32), cbk X e L a B → (wkG X e k L a sa le B i).1 = (wkF (some k) B i fo fl).1 ∧ ((wkG X e k L a sa le B i).1 = true → (wkG X e k L a sa le B i).2.sa = (wkF (some k) B i fo fl).2.2.1 ∧ (wkG X e k L a sa le B i).2.le = (wkF (some k) B i fo fl).2.2.2)
  | [], L, a, i, sa, fo, le, fl, _ => ⟨rfl, fun q => (nomatch q)⟩
  | x :: t, L, a, i, sa, fo, le, fl, h => by
    simp only [wkG, wkF]
    obtain ⟨h1, h2, h3, h4, h5, h6⟩ := h
    by_cases q : i = k
    · rw [if_pos q, if_pos (by rw [q])]
      refine ⟨rfl, fun _ => ?_⟩
      show (wkS X L a e sa le).sa = _ ∧ (wkS X L a e sa le).le = _
      rw [wkS_pos h1 h2 h3]; exact ⟨rfl, rfl⟩
    · rw [if_neg q, if_neg (fun z => q (by cases z; rfl))]
      exact wkG_eq t _ _ _ _ _ _ _ h6
abbrev wkGX (S : LDS) (x k : Nat) : Bool × WK := wkG S.X (S.X.pre x + 2 ^ (32 - S.X.len x)) k (cof S.X x) (S.X.pre x) S.wk.sa S.wk.le (bkX S.X x) 0
def wBlk (S S2 : LDS) (pt : Nat → Int32) (jn x k9 : Nat) (f : Bool) (k : Nat) (v : Int64) (u : US) : Prop :=
  (k = 0 ∧ (x < S.X.n ∧ k9 < 2147483648 ∧ (wkGX S x k9).1 = true) ∧ v = (blV f (wkGX S x k9).2).toInt64 ∧ u = ((S.X, S.pol, S.td, S.qd, (wkGX S x k9).2), S2, pt, jn)) ∨ (k = 1 ∧ ¬ x < S.X.n ∧ u = (S, S2, pt, jn)) ∨ (k = 1 ∧ (x < S.X.n ∧ ¬ k9 < 2147483648) ∧ u = (S, S2, pt, jn)) ∨ (k = 1 ∧ (x < S.X.n ∧ k9 < 2147483648 ∧ (wkGX S x k9).1 = false) ∧ u = ((S.X, S.pol, S.td, S.qd, (wkGX S x k9).2), S2, pt, jn))
theorem iv_block {S S2 : LDS} {pt : Nat → Int32} {jn : Nat} {V : MS} (h : INV (S, S2, pt, jn) V) {x k9 k : Nat} {f : Bool} {v : Int64} {u : US} (q : wBlk S S2 pt jn x k9 f k v u) : k = (moBlk V x k9).tc ∧ (k = 0 → v = (moBlkR V x k9 f).toInt64) ∧ INV u (moBlk V x k9) := by
  unfold moBlk moBlkR
  rw [h.s1.mn]
  have e : x < S.X.n → blkL V x = bkX S.X x := fun q1 => by
    have e := h.s1.blkE h.o1.2 (by decide) rfl q1
    rwa [Nat.zero_add] at e
  have g : x < S.X.n → _ := fun q1 => wkG_eq (k := k9) _ _ _ 0 S.wk.sa V.fo S.wk.le V.fl (h.o1.2.bk q1)
  rcases q with ⟨rfl, ⟨q1, q2, q3⟩, rfl, rfl⟩ | ⟨rfl, q1, rfl⟩ | ⟨rfl, ⟨q1, q2⟩, rfl⟩ | ⟨rfl, ⟨q1, q2, q3⟩, rfl⟩
  · have g := g q1
    rw [e q1]
    have g1 := g.1.symm.trans q3
    have g2 := g.2 q3
    rw [if_pos ⟨q1, q2⟩, if_pos g1, if_pos ⟨⟨q1, q2⟩, g1⟩, ← g2.1, ← g2.2]
    refine ⟨rfl, fun _ => ?_, h.wk _ 0 _ _⟩
    cases f <;> rfl
  · rw [if_neg (fun z => q1 z.1)]; exact ⟨rfl, fun q => absurd q (by decide), h.tc 1 V.fo V.fl⟩
  · rw [if_neg (fun z => q2 z.2)]; exact ⟨rfl, fun q => absurd q (by decide), h.tc 1 V.fo V.fl⟩
  · have g := g q1
    rw [e q1]
    have g1 := g.1.symm.trans q3
    rw [if_pos ⟨q1, q2⟩, if_neg (by rw [g1]; decide)]
    exact ⟨rfl, fun q => absurd q (by decide), h.wk _ 1 _ _⟩
def wUsd (S S2 : LDS) (pt : Nat → Int32) (jn x k : Nat) (v : Int64) (u : US) : Prop :=
  ((k = 0 ∧ x < S.X.n ∧ v = lN (usedL S.X (cof S.X x))) ∨ (k = 1 ∧ ¬ x < S.X.n)) ∧ u = (S, S2, pt, jn)
theorem iv_used {S S2 : LDS} {pt : Nat → Int32} {jn : Nat} {V : MS} (h : INV (S, S2, pt, jn) V) {x k : Nat} {v : Int64} {u : US} (q : wUsd S S2 pt jn x k v u) : k = recT V x ∧ (k = 0 → v = lN (musR V x)) ∧ INV u V := by
  obtain ⟨q, rfl⟩ := q
  unfold recT musR
  rw [h.s1.mn]
  rcases q with ⟨rfl, q1, rfl⟩ | ⟨rfl, q1⟩
  · have e := h.s1.us h.o1.2 (by decide) rfl q1
    rw [Nat.zero_add] at e
    rw [if_pos q1, if_pos q1, e]; exact ⟨rfl, fun _ => rfl, h⟩
  · rw [if_neg q1]; exact ⟨rfl, fun q => absurd q (by decide), h⟩
theorem iv_cu {S S2 : LDS} {pt : Nat → Int32} {jn : Nat} {V : MS} (h : INV (S, S2, pt, jn) V) {x : Nat} (q1 : x < S.X.n) (P : Nat → Prop) [DecidablePred P] : sumF (fun o => if (V.par o = some x ∧ V.sta o = 1) ∧ P o then 2 ^ (cl4 (V.len o) - V.len o) else 0) 0 S.X.n 0 = sumL (fun o => if P o then cutN S.X o else 0) (cof S.X x) := by
  have C := h.o1.2.ch q1
  rw [← sumF_list (cof S.X x) S.X.n C.nd (fun c q => ((C.2.2 c).mp q).1)]
  refine sumF_congr _ _ _ _ (fun c hc => ?_)
  have e1 := h.s1.sta hc
  have e2 := h.s1.parS (r := x) hc
  have e3 := h.s1.len hc
  simp only [Nat.zero_add] at e1 e2 e3 ⊢
  rw [e3, e1]
  unfold cutN
  by_cases p : P c
  · by_cases z : c ∈ cof S.X x
    · have y := (C.2.2 c).mp z
      rw [if_pos z, if_pos p]
      by_cases w : S.X.sta c = 1
      · rw [if_pos w, if_pos ⟨⟨e2.mpr y.2.1, w⟩, p⟩]
      · rw [if_neg w, if_neg (fun q => w q.1.2)]
    · rw [if_neg z, if_neg (fun q => z ((C.2.2 c).mpr ⟨hc, e2.mp q.1.1, by rw [q.1.2]; decide⟩))]
  · rw [if_neg (fun q => p q.2)]
    split
    · rfl
    · rfl
def wCts (S S2 : LDS) (pt : Nat → Int32) (jn x k : Nat) (v : Int64) (u : US) : Prop :=
  ((k = 0 ∧ x < S.X.n ∧ v = (nI (cutsL S.X (cof S.X x))).toInt64) ∨ (k = 1 ∧ ¬ x < S.X.n)) ∧ u = (S, S2, pt, jn)
theorem iv_cuts {S S2 : LDS} {pt : Nat → Int32} {jn : Nat} {V : MS} (h : INV (S, S2, pt, jn) V) {x k : Nat} {v : Int64} {u : US} (q : wCts S S2 pt jn x k v u) : k = recT V x ∧ (k = 0 → v = (nI (mcuR V x)).toInt64) ∧ INV u V := by
  obtain ⟨q, rfl⟩ := q
  unfold recT mcuR
  rw [h.s1.mn]
  rcases q with ⟨rfl, q1, rfl⟩ | ⟨rfl, q1⟩
  · have e := iv_cu h q1 (fun _ => True)
    have e2 : cuN V x = cutsL S.X (cof S.X x) := by
      unfold cuN
      rw [h.s1.mn, cutsL_sum]
      refine Eq.trans (sumF_congr _ _ _ _ (fun c _ => ?_)) (e.trans ?_)
      · unfold cuF; simp
      · simp
    rw [if_pos q1, if_pos q1, e2]; exact ⟨rfl, fun _ => rfl, h⟩
  · rw [if_neg q1]; exact ⟨rfl, fun q => absurd q (by decide), h⟩
theorem cb_eq {S S2 : LDS} {pt : Nat → Int32} {jn : Nat} {V : MS} (h : INV (S, S2, pt, jn) V) {x c : Nat} {L1 L2 : List Nat} (q1 : x < S.X.n) (e : cof S.X x = L1 ++ c :: L2) : cbN V x c = cutsL S.X L1 := by
  have C := h.o1.2.ch q1
  have hc := (C.2.2 c).mp (by rw [e]; exact List.mem_append_right _ List.mem_cons_self)
  have z := iv_cu h q1 (fun o => V.pre o < V.pre c)
  have e2 : cbN V x c = sumL (fun o => if V.pre o < V.pre c then cutN S.X o else 0) (cof S.X x) := by
    unfold cbN
    rw [h.s1.mn, ← z]
    refine sumF_congr _ _ _ _ (fun o _ => ?_)
    unfold cbF
    simp only [Nat.zero_add, and_assoc]
  rw [e2, e, sumL_app, cutsL_sum]
  have hp := C.2.1
  rw [e, List.pairwise_append] at hp
  have mem : ∀ o, o ∈ L1 ++ c :: L2 → V.pre o = S.X.pre o := fun o ho => by
    have := h.s1.pre ((C.2.2 o).mp (by rw [e]; exact ho)).1
    rwa [Nat.zero_add] at this
  have mc := mem c (List.mem_append_right _ List.mem_cons_self)
  have congr1 : ∀ (M : List Nat) (f g : Nat → Nat), (∀ o ∈ M, f o = g o) → sumL f M = sumL g M := by
    intro M f g
    induction M with
    | nil => intro _; rfl
    | cons j t ih => intro hh; simp only [sumL]; rw [hh j List.mem_cons_self, ih (fun o ho => hh o (List.mem_cons_of_mem _ ho))]
  have zero : ∀ M : List Nat, sumL (fun _ => 0) M = 0 := by
    intro M
    induction M with
    | nil => rfl
    | cons j t ih => simp only [sumL]; omega
  rw [congr1 L1 _ (cutN S.X) (fun o ho => by
    rw [mem o (List.mem_append_left _ ho), mc, if_pos (hp.2.2 o ho c List.mem_cons_self)]),
    congr1 (c :: L2) _ (fun _ => 0) (fun o ho => by
      rw [mem o (List.mem_append_right _ ho), mc]
      refine if_neg ?_
      cases List.mem_cons.mp ho with
      | inl w => rw [w]; omega
      | inr w => have := (List.pairwise_cons.mp hp.2.1).1 o w; omega), zero]
  rfl
theorem cutA_split {X : RS} : ∀ (L : List Nat) (k : Nat), k < cutsL X L → ∃ L1 c L2, L = L1 ++ c :: L2 ∧ cutsL X L1 ≤ k ∧ k - cutsL X L1 < cutN X c ∧ cutA X L k = (X.pre c + (k - cutsL X L1) * 2 ^ (32 - cl4 (X.len c)), cl4 (X.len c))
  | [], k, h => absurd h (by simp [cutsL])
  | j :: t, k, h => by
    by_cases q : k < cutN X j
    · refine ⟨[], j, t, rfl, Nat.zero_le _, q, ?_⟩
      simp only [cutA]; rw [if_pos q]; rfl
    · simp only [cutsL] at h
      obtain ⟨L1, c, L2, e1, e2, e3, e4⟩ := cutA_split (X := X) t (k - cutN X j) (by omega)
      refine ⟨j :: L1, c, L2, by rw [e1]; rfl, by simp only [cutsL]; omega, by simp only [cutsL]; omega, ?_⟩
      simp only [cutA]
      rw [if_neg q, e4]
      simp only [cutsL]
      rw [show k - cutN X j - cutsL X L1 = k - (cutN X j + cutsL X L1) by omega]
theorem cutsL_app (X : RS) (L M : List Nat) : cutsL X (L ++ M) = cutsL X L + cutsL X M := by rw [cutsL_sum, cutsL_sum, cutsL_sum, sumL_app]
theorem ct_iff {S S2 : LDS} {pt : Nat → Int32} {jn : Nat} {V : MS} (h : INV (S, S2, pt, jn) V) {x k c : Nat} (q1 : x < S.X.n) (hc : c < S.X.n) : ctP V x k c = true ↔ c ∈ cof S.X x ∧ S.X.sta c = 1 ∧ cbN V x c ≤ k ∧ k - cbN V x c < cutN S.X c := by
  have C := h.o1.2.ch q1
  have e1 := h.s1.sta hc
  have e2 := h.s1.parS (r := x) hc
  have e3 := h.s1.len hc
  simp only [Nat.zero_add] at e1 e2 e3
  unfold ctP
  rw [decide_eq_true_eq, e2, e1, e3, C.2.2 c]
  unfold cutN
  constructor
  · intro ⟨a1, a2, a3, a4⟩
    rw [if_pos a2]
    exact ⟨⟨hc, a1, by omega⟩, a2, a3, a4⟩
  · intro ⟨⟨_, a1, _⟩, a2, a3, a4⟩
    rw [if_pos a2] at a4
    exact ⟨a1, a2, a3, a4⟩
theorem mem_split {c : Nat} : ∀ {L : List Nat}, c ∈ L → ∃ L1 L2, L = L1 ++ c :: L2
  | [], h => nomatch h
  | j :: t, h => by
    cases List.mem_cons.mp h with
    | inl e => exact ⟨[], t, by rw [e]; rfl⟩
    | inr e => obtain ⟨L1, L2, q⟩ := mem_split e; exact ⟨j :: L1, L2, by rw [q]; rfl⟩
/-- which child a cut falls into -/
theorem iv_ct {S S2 : LDS} {pt : Nat → Int32} {jn : Nat} {V : MS} (h : INV (S, S2, pt, jn) V) {x k : Nat} (q1 : x < S.X.n) : (k < cutsL S.X (cof S.X x) → ∃ c, fst (ctP V x k) 0 S.X.n = some c ∧ c < S.X.n ∧ cutA S.X (cof S.X x) k = (S.X.pre c + (k - cbN V x c) * 2 ^ (32 - cl4 (S.X.len c)), cl4 (S.X.len c))) ∧ (¬ k < cutsL S.X (cof S.X x) → fst (ctP V x k) 0 S.X.n = none) := by
  have C := h.o1.2.ch q1
  constructor
  · intro hk
    obtain ⟨L1, c, L2, e1, e2, e3, e4⟩ := cutA_split _ k hk
    have cb := cb_eq h q1 e1
    have mc : c ∈ cof S.X x := by rw [e1]; exact List.mem_append_right _ List.mem_cons_self
    have hc := ((C.2.2 c).mp mc).1
    have sc : S.X.sta c = 1 := by
      unfold cutN at e3
      by_cases w : S.X.sta c = 1
      · exact w
      · rw [if_neg w] at e3; omega
    refine ⟨c, ?_, hc, by rw [e4, cb]⟩
    cases ef : fst (ctP V x k) 0 S.X.n with
    | none =>
      have := (fst_none _ _).mp ef c (by omega) (by omega)
      rw [(ct_iff h q1 hc).mpr ⟨mc, sc, by omega, by omega⟩] at this; exact nomatch this
    | some d =>
      have fd := fst_some _ _ _ ef
      have hd : d < S.X.n := by omega
      obtain ⟨m1, m2, m3, m4⟩ := (ct_iff h q1 hd).mp fd.2.2
      congr 1
      obtain ⟨M1, M2, e5⟩ := mem_split m1
      have cb2 := cb_eq h q1 e5
      rw [cb2] at m3 m4
      have key : ∀ {A B D E : List Nat} {a b : Nat}, A ++ a :: B = D ++ b :: E → (a = b ∧ A = D) ∨ (∃ F, D = A ++ a :: F) ∨ (∃ F, A = D ++ b :: F) := by
        intro A
        induction A with
        | nil =>
          intro B D E a b hh
          cases D with
          | nil => left; simp at hh; exact ⟨hh.1, rfl⟩
          | cons y t => right; left; simp at hh; exact ⟨t, by rw [hh.1]; rfl⟩
        | cons z A ih =>
          intro B D E a b hh
          cases D with
          | nil => right; right; simp at hh; exact ⟨A, by rw [hh.1]; rfl⟩
          | cons y t =>
            simp at hh
            rcases ih hh.2 with ⟨i1, i2⟩ | ⟨F, i1⟩ | ⟨F, i1⟩
            · left; exact ⟨i1, by rw [hh.1, i2]⟩
            · right; left; exact ⟨F, by rw [hh.1, i1]; rfl⟩
            · right; right; exact ⟨F, by rw [hh.1, i1]; rfl⟩
      rcases key (e5.symm.trans e1) with ⟨i1, _⟩ | ⟨F, i1⟩ | ⟨F, i1⟩
      · exact i1
      · rw [i1, cutsL_app] at e2 e3
        simp only [cutsL] at e2 e3
        omega
      · rw [i1, cutsL_app] at m3 m4
        simp only [cutsL] at m3 m4
        omega
  · intro hk
    refine (fst_none _ _).mpr (fun d d1 d2 => ?_)
    rw [Bool.eq_false_iff]
    intro z
    have hd : d < S.X.n := by omega
    obtain ⟨m1, m2, m3, m4⟩ := (ct_iff h q1 hd).mp z
    obtain ⟨M1, M2, e5⟩ := mem_split m1
    have cb2 := cb_eq h q1 e5
    rw [e5, cutsL_app] at hk
    simp only [cutsL] at hk
    omega
def wCut (S S2 : LDS) (pt : Nat → Int32) (jn x k9 : Nat) (f : Bool) (k : Nat) (v : Int64) (u : US) : Prop :=
  ((k = 0 ∧ (x < S.X.n ∧ k9 < cutsL S.X (cof S.X x)) ∧ v = (cutV S.X (cof S.X x) k9 f).toInt64) ∨ (k = 1 ∧ ¬ (x < S.X.n ∧ k9 < cutsL S.X (cof S.X x)))) ∧ u = (S, S2, pt, jn)
theorem iv_cut {S S2 : LDS} {pt : Nat → Int32} {jn : Nat} {V : MS} (h : INV (S, S2, pt, jn) V) {x k9 k : Nat} {f : Bool} {v : Int64} {u : US} (q : wCut S S2 pt jn x k9 f k v u) : k = (match mctN V x k9 with | none => 1 | some _ => 0) ∧ (k = 0 → v = (mctR V x k9 f (mctN V x k9)).toInt64) ∧ INV u V := by
  obtain ⟨q, rfl⟩ := q
  unfold mctN
  rw [h.s1.mn]
  rcases q with ⟨rfl, ⟨q1, q2⟩, rfl⟩ | ⟨rfl, q1⟩
  · obtain ⟨c, e1, e2, e3⟩ := (iv_ct h q1).1 q2
    have b1 := cutsL_le h.o1.2.ok (cof S.X x)
    have b2 := (h.o1.2.ch q1).len h.o1.2.ok.n
    rw [if_pos ⟨q1, by omega⟩, e1]
    refine ⟨rfl, fun _ => ?_, h⟩
    have p := h.s1.pre e2
    have l := h.s1.len e2
    rw [Nat.zero_add] at p l
    unfold cutV
    cases f with
    | true => show (nI _).toInt64 = (nI (cl4 (V.len c))).toInt64; rw [e3, l]
    | false => show (nI _).toInt64 = (nI (V.pre c + (k9 - cbN V x c) * 2 ^ (32 - cl4 (V.len c)))).toInt64; rw [e3, l, p]
  · by_cases z : x < S.X.n ∧ k9 < 2147483648
    · rw [if_pos z, (iv_ct h z.1).2 (fun y => q1 ⟨z.1, y⟩)]
      exact ⟨rfl, fun q => absurd q (by decide), h⟩
    · rw [if_neg z]; exact ⟨rfl, fun q => absurd q (by decide), h⟩
def wLog (S S2 : LDS) (pt : Nat → Int32) (jn k9 w k : Nat) (v : Int64) (u : US) : Prop :=
  ((k = 0 ∧ (k9 < jn ∧ w < 4) ∧ v = (pt (k9 * 4 + w)).toInt64) ∨ (k = 1 ∧ ¬ k9 < jn) ∨ (k = 2 ∧ (k9 < jn ∧ ¬ w < 4))) ∧ u = (S, S2, pt, jn)
theorem iv_log {S S2 : LDS} {pt : Nat → Int32} {jn : Nat} {V : MS} (h : INV (S, S2, pt, jn) V) {k9 w k : Nat} {v : Int64} {u : US} (q : wLog S S2 pt jn k9 w k v u) : k = mlgT V k9 w ∧ (k = 0 → v = (mlgR V k9 w).toInt64) ∧ INV u V := by
  obtain ⟨q, rfl⟩ := q
  unfold mlgT mlgR
  rw [← h.jn]
  rcases q with ⟨rfl, ⟨q1, q2⟩, rfl⟩ | ⟨rfl, q1⟩ | ⟨rfl, ⟨q1, q2⟩⟩
  · rw [if_pos q1, if_pos (by omega), if_pos ⟨q1, by omega⟩]
    refine ⟨rfl, fun _ => ?_, h⟩
    have y := h.2.2.1.2 k9 (by have := h.jn; omega)
    have c : w = 0 ∨ w = 1 ∨ w = 2 ∨ w = 3 := by omega
    rcases c with rfl | rfl | rfl | rfl
    · exact congrArg Int32.toInt64 y.1
    · exact congrArg Int32.toInt64 y.2.1
    · exact congrArg Int32.toInt64 y.2.2.1
    · exact congrArg Int32.toInt64 y.2.2.2
  · rw [if_neg q1]; exact ⟨rfl, fun q => absurd q (by decide), h⟩
  · rw [if_pos q1, if_neg (by omega)]; exact ⟨rfl, fun q => absurd q (by decide), h⟩
theorem allF_iff {P : Nat → Bool} : ∀ (k i : Nat) (a : Bool), allF P i k a = true ↔ a = true ∧ ∀ j, i ≤ j → j < i + k → P j = true
  | 0, i, a => ⟨fun h => ⟨h, fun j h1 h2 => by omega⟩, fun h => h.1⟩
  | k + 1, i, a => by
    simp only [allF]
    rw [allF_iff k (i + 1), Bool.and_eq_true]
    constructor
    · intro ⟨⟨h1, h2⟩, h3⟩
      refine ⟨h1, fun j j1 j2 => ?_⟩
      by_cases e : j = i
      · rw [e]; exact h2
      · exact h3 j (by omega) (by omega)
    · intro ⟨h1, h2⟩
      exact ⟨⟨h1, h2 i (by omega) (by omega)⟩, fun j j1 j2 => h2 j (by omega) (by omega)⟩
theorem smB_iff {V : MS} : ∀ (k i : Nat) (a : Bool), smB V i k a = true ↔ a = true ∧ ∀ j, i ≤ j → j < i + k → ∀ w, w < 7 → fdQ V j w = true
  | 0, i, a => ⟨fun h => ⟨h, fun j h1 h2 => by omega⟩, fun h => h.1⟩
  | k + 1, i, a => by
    simp only [smB]
    cases a with
    | false => simp
    | true =>
      rw [if_pos rfl, smB_iff k (i + 1), allF_iff]
      constructor
      · intro ⟨⟨h1, h2⟩, h3⟩
        refine ⟨rfl, fun j j1 j2 w hw => ?_⟩
        by_cases e : j = i
        · rw [e]; exact h2 w (by omega) (by omega)
        · exact h3 j (by omega) (by omega) w hw
      · intro ⟨h1, h2⟩
        exact ⟨⟨rfl, fun w _ hw => h2 i (by omega) (by omega) w (by omega)⟩, fun j j1 j2 => h2 j (by omega) (by omega)⟩
theorem iv_same {S S2 : LDS} {pt : Nat → Int32} {jn : Nat} {V : MS} (h : INV (S, S2, pt, jn) V) : lkB S.X S2.X S.pol S2.pol S.td S2.td S.qd S2.qd = smN V := by
  rw [Bool.eq_iff_iff, lkB_iff]
  unfold smN
  rw [smB_iff, allF_iff]
  unfold smI plQ alB
  rw [decide_eq_true_eq, h.s1.mn, h.s2.mn, h.s1.td, h.s2.td, h.s1.qd, h.s2.qd]
  have o1 := h.o1.2.ok.n
  have o2 := h.o2.2.ok.n
  have pol : ∀ i, i < 4 → (V.pol i = V.pol (4 + i) ↔ S.pol i = S2.pol i) := fun i hi => by
    have p1 := h.s1.pol hi
    have p2 := h.s2.pol hi
    rw [show 4 * 0 + i = i by omega] at p1
    rw [show 4 * 1 + i = 4 + i by omega] at p2
    rw [p1, p2]
  have fd : S.X.n = S2.X.n → ∀ j, j < S.X.n → ∀ w, fdQ V j w = decide (fct S.X j w = fct S2.X j w) := fun en j hj w => by
    unfold fdQ
    have e1 := fd_eq h.s1 o1 (by decide) rfl hj w
    have e2 := fd_eq h.s2 o2 (by decide) rfl (show j < S2.X.n by omega) w
    rw [Nat.zero_add] at e1
    rw [e1, e2]
  constructor
  · intro ⟨a1, a2, a3, a4⟩
    rw [Bool.and_eq_true, decide_eq_true_eq, List.all_eq_true] at a4
    refine ⟨⟨⟨a4.1, a2, a3⟩, fun j _ hj => ?_⟩, fun j _ hj w hw => ?_⟩
    · rw [decide_eq_true_eq]; exact (pol j (by omega)).mpr (a1 j (by omega))
    · rw [fd a4.1 j (by omega)]
      have := a4.2 j (List.mem_range.mpr (by omega))
      rw [List.all_eq_true] at this
      exact this w (List.mem_range.mpr hw)
  · intro ⟨⟨⟨b1, b2, b3⟩, b4⟩, b5⟩
    refine ⟨fun q hq => ?_, b2, b3, ?_⟩
    · have := b4 q (by omega) (by omega)
      rw [decide_eq_true_eq] at this
      exact (pol q hq).mp this
    · rw [Bool.and_eq_true, decide_eq_true_eq, List.all_eq_true]
      refine ⟨b1, fun j hj => ?_⟩
      rw [List.all_eq_true]
      intro w hw
      have hj := List.mem_range.mp hj
      have := b5 j (by omega) (by omega) w (List.mem_range.mp hw)
      rw [fd b1 j hj] at this
      exact this
