/-! the codes of both sides are the same -/
theorem sib_in {X : RS} (h : LIV X) {x q : Nat} (hx : x < X.n) (hs : X.sta x ≠ 4) (hq : X.par x = some q) (hl : X.len q < X.len x) : (X.pre x ^^^ 2 ^ (32 - X.len x)) % 2 ^ (32 - X.len x) = 0 ∧ mt2 (X.pre q) (X.len q) (X.pre x ^^^ 2 ^ (32 - X.len x)) (X.len x) := by
  have ok := h.ok
  have l33 := ok.len x
  have b := bx_sib (h.al x)
  have i := h.inn hx hq hs
  have z := Nat.two_pow_pos (32 - X.len x)
  have e1 : 32 - (X.len x - 1) = 32 - X.len x + 1 := by omega
  have e2 : 2 ^ (32 - X.len x + 1) = 2 * 2 ^ (32 - X.len x) := by rw [Nat.pow_succ, Nat.mul_comm]
  have al : (X.pre x / 2 ^ (32 - X.len x + 1) * 2 ^ (32 - X.len x + 1)) % 2 ^ (32 - (X.len x - 1)) = 0 := by rw [e1]; exact Nat.mul_mod_left _ _
  have b1 := b.1
  generalize X.pre x / 2 ^ (32 - X.len x + 1) * 2 ^ (32 - X.len x + 1) = p at *
  have a2 : p % 2 ^ (32 - X.len x) = 0 := al_more (by omega) l33 al
  have mtw : mt2 (X.pre q) (X.len q) p (X.len x - 1) := by unfold mt2; rw [e1, e2]; omega
  have inn := (sub_mt (show X.len q ≤ X.len x - 1 by omega) (by omega) (h.al q) al).mp mtw
  rw [e1, e2] at inn
  constructor
  · rcases b1 with ⟨_, b⟩ | ⟨_, b⟩
    · rw [b, Nat.add_mod_right]; exact a2
    · rw [b]; exact a2
  · unfold mt2; omega
theorem meF_iff {V : MS} {r le : Nat} : ∀ (k i : Nat) (a : Bool), meF V r le i k a = true ↔ a = true ∧ ∀ j, i ≤ j → j < i + k → (V.par j = some r ∧ V.sta j = 1 ∧ V.hol j = V.hol r) → 2 ^ (32 - V.len j) * le ≤ usN V j * 1000
  | 0, i, a => ⟨fun h => ⟨h, fun j h1 h2 => by omega⟩, fun h => h.1⟩
  | k + 1, i, a => by
    simp only [meF]
    rw [meF_iff k (i + 1)]
    by_cases q : V.par i = some r ∧ V.sta i = 1 ∧ V.hol i = V.hol r
    · rw [if_pos q, Bool.and_eq_true, decide_eq_true_eq]
      constructor
      · intro ⟨⟨h1, h2⟩, h3⟩
        refine ⟨h1, fun j j1 j2 jq => ?_⟩
        by_cases e : j = i
        · rw [e]; exact h2
        · exact h3 j (by omega) (by omega) jq
      · intro ⟨h1, h2⟩
        exact ⟨⟨h1, h2 i (by omega) (by omega) q⟩, fun j j1 j2 jq => h2 j (by omega) (by omega) jq⟩
    · rw [if_neg q]
      constructor
      · intro ⟨h1, h3⟩
        refine ⟨h1, fun j j1 j2 jq => ?_⟩
        by_cases e : j = i
        · rw [e] at jq; exact absurd jq q
        · exact h3 j (by omega) (by omega) jq
      · intro ⟨h1, h2⟩
        exact ⟨h1, fun j j1 j2 jq => h2 j (by omega) (by omega) jq⟩
theorem SIM.me {S : LDS} {V : MS} {b d : Nat} (h : SIM S V b d) (hL : LIV S.X) (hd : d < 2) (hb : b = 200 * d) {x : Nat} (hx : x < S.X.n) (hlv : S.X.lev x < 4) : meN V b d (b + x) = true ↔ pmN S.X (cof S.X) S.pol x := by
  unfold meN
  rw [meF_iff, h.lev hx, h.pol hlv, h.mn, h.hol hx]
  have C := hL.ch hx
  constructor
  · intro ⟨_, q⟩ c hc hq
    have m := (C.2.2 c).mp hc
    have := q (b + c) (by omega) (by omega) ⟨(h.parS m.1).mpr m.2.1, by rw [h.sta m.1]; exact hq.1, by rw [h.hol m.1]; exact hq.2⟩
    rw [h.len m.1, h.us hL hd hb m.1] at this
    exact this
  · intro q
    refine ⟨rfl, fun j j1 j2 jq => ?_⟩
    obtain ⟨c, rfl⟩ : ∃ c, j = b + c := ⟨j - b, by omega⟩
    have hc : c < S.X.n := by omega
    rw [h.sta hc, h.hol hc, h.parS hc] at jq
    rw [h.len hc, h.us hL hd hb hc]
    exact q c ((C.2.2 c).mpr ⟨hc, jq.1, by rw [jq.2.1]; decide⟩) jq.2
theorem SIM.bw {S : LDS} {V : MS} {b d : Nat} (h : SIM S V b d) (hL : LIV S.X) {x : Nat} {f : Bool} : bwN V b d x f = if x < S.X.n ∧ S.X.sta x = 1 then (if f = true then omN S.X x else -2) else -5 := by
  unfold bwN
  rw [h.mn]
  by_cases q : x < S.X.n
  · rw [h.sta q, h.lev q]
    by_cases q2 : S.X.sta x = 1
    · have q3 : x < S.X.n ∧ S.X.sta x = 1 := ⟨q, q2⟩
      rw [if_pos q3, if_pos q3]
      cases f with
      | false => rfl
      | true =>
        rw [if_pos rfl, if_pos rfl]
        unfold omN
        have := hL.ok.lev x
        by_cases q3 : S.X.lev x < 4
        · rw [if_pos q3, if_neg (by omega)]
        · rw [if_neg q3, if_pos (by omega)]
    · rw [if_neg (fun z => q2 z.2), if_neg (fun z => q2 z.2)]
  · rw [if_neg (fun z => q z.1), if_neg (fun z => q z.1)]
theorem om_cases (X : RS) (x : Nat) : omN X x = 0 ∨ omN X x < 0 := by
  unfold omN
  split
  · split
    · right; decide
    · left; rfl
  · right; decide
theorem SIM.rsv {S : LDS} {V : MS} {b d : Nat} (h : SIM S V b d) (hL : LIV S.X) (hd : d < 2) (hb : b = 200 * d) {x p n : Nat} : rsW V b d x p n = rsvN S.X (cof S.X) x p n := by
  unfold rsW rsvN
  rw [h.bw hL]
  by_cases q : x < S.X.n ∧ S.X.sta x = 1
  · rw [if_pos q, if_pos q]
    have C := hL.ch q.1
    have es : rsS V b d x p n = true ↔ (S.X.len x < n ∧ n ≤ 32) ∧ p % 2 ^ (32 - n) = 0 ∧ mt2 (S.X.pre x) (S.X.len x) p n := by
      unfold rsS
      rw [decide_eq_true_eq, h.mn, h.len q.1, h.pre q.1]
      constructor
      · intro ⟨_, z2, z3, z4, z5⟩
        exact ⟨⟨z2, z3⟩, z4, mt2_comm.mp ((mt_iff (by omega) (hL.ok.len x) z4 (hL.al x)).mpr z5)⟩
      · intro ⟨⟨z2, z3⟩, z4, z5⟩
        exact ⟨q.1, z2, z3, z4, (mt_iff (by omega) (hL.ok.len x) z4 (hL.al x)).mp (mt2_comm.mp z5)⟩
    by_cases e : rsS V b d x p n = true
    · have z := es.mp e
      rw [if_pos e, if_pos z]
      rcases om_cases S.X x with o | o
      · rw [o, if_neg (by decide), if_pos rfl, h.len q.1, h.pre q.1]
        have t := h.takN hL hd hb q.1 (show n < 33 by omega) z.2.1
        by_cases w : ∀ c9 ∈ cof S.X x, ¬ mt2 (S.X.pre c9) (S.X.len c9) p n
        · rw [if_pos w, if_pos ⟨by omega, (mt_iff (by omega) (hL.ok.len x) z.2.1 (hL.al x)).mp (mt2_comm.mp z.2.2), t.mpr (fun c c1 c2 c3 => w c ((C.2.2 c).mpr ⟨c1, c2, c3⟩))⟩]
        · rw [if_neg w, if_neg (fun v => w (fun c hc => by have m := (C.2.2 c).mp hc; exact t.mp v.2.2 c m.1 m.2.1 m.2.2))]
      · rw [if_pos o, if_neg (fun v => by rw [v] at o; exact absurd o (by decide))]
    · rw [if_neg e, if_neg (fun z => e (es.mpr z)), if_pos (by decide)]
  · rw [if_neg q, if_neg q, if_pos (by decide)]
theorem SIM.ask {S : LDS} {V : MS} {b d : Nat} (h : SIM S V b d) (hL : LIV S.X) (hd : d < 2) (hb : b = 200 * d) {x n : Nat} {u : Bool} : asW V b d x n u = askN S.X (cof S.X) S.pol (bkX S.X) x n := by
  unfold asW askN
  rw [h.bw hL]
  by_cases q : x < S.X.n ∧ S.X.sta x = 1
  · rw [if_pos q, if_pos q]
    have es : asS V b d x n = true ↔ S.X.len x < n ∧ n ≤ 32 := by
      unfold asS
      rw [decide_eq_true_eq, h.mn, h.len q.1]
      exact ⟨fun z => z.2, fun z => ⟨q.1, z⟩⟩
    by_cases e : asS V b d x n = true
    · have z := es.mp e
      rw [if_pos e, if_pos z]
      rcases om_cases S.X x with o | o
      · rw [o, if_neg (by decide), if_pos rfl]
        have m := h.me hL hd hb q.1 (omN_0 o).1
        by_cases w : pmN S.X (cof S.X) S.pol x
        · rw [if_pos w, if_pos (m.mpr w)]
          have ec : chN V (b + x) n u = (bkX S.X x).foldl (chS u n) none := by unfold chN; rw [h.blkE hL hd hb q.1]
          rw [ec]
          cases e1 : (bkX S.X x).foldl (chS false n) none with
          | none =>
            have := (foldB_none (u := u) (n := n) (bkX S.X x) none).mpr ⟨rfl, ((foldB_none (bkX S.X x) none).mp e1).2⟩
            rw [this]; rfl
          | some y =>
            cases e2 : (bkX S.X x).foldl (chS u n) none with
            | none =>
              have := (foldB_none (u := false) (n := n) (bkX S.X x) none).mpr ⟨rfl, ((foldB_none (bkX S.X x) none).mp e2).2⟩
              rw [this] at e1; exact nomatch e1
            | some y2 => rfl
        · rw [if_neg w, if_neg (fun v => w (m.mp v))]
      · rw [if_pos o, if_neg (fun v => by rw [v] at o; exact absurd o (by decide))]
    · rw [if_neg e, if_neg (fun z => e (es.mpr z)), if_pos (by decide)]
  · rw [if_neg q, if_neg q, if_pos (by decide)]
theorem SIM.gro {S : LDS} {V : MS} {b d : Nat} (h : SIM S V b d) (hL : LIV S.X) (hd : d < 2) (hb : b = 200 * d) {x : Nat} : gwN V b d x = groN S.X (cof S.X) x := by
  unfold gwN groN
  rw [h.mn]
  by_cases q : x < S.X.n
  · have ec : ((x < S.X.n ∧ V.sta (b + x) = 1) ∧ ¬ V.par (b + x) = none) ↔ (x < S.X.n ∧ S.X.sta x = 1) ∧ S.X.par x ≠ none := by rw [h.sta q, h.parN q]
    by_cases q2 : (x < S.X.n ∧ S.X.sta x = 1) ∧ S.X.par x ≠ none
    · obtain ⟨p, e⟩ : ∃ p, S.X.par x = some p := by
        cases e9 : S.X.par x with
        | none => exact absurd e9 q2.2
        | some p => exact ⟨p, rfl⟩
      have eg : (V.par (b + x)).getD 0 = b + p := by rw [h.par q, e]; rfl
      have ep : (S.X.par x).getD 0 = p := by rw [e]; rfl
      have hp : p < S.X.n := Nat.lt_trans (hL.lt q e) q
      have C := hL.ch hp
      have i := hL.inn q e (by omega)
      rw [if_pos (ec.mpr q2), if_pos q2, eg, ep, h.len q, h.pre q, h.len hp, h.pre hp]
      by_cases q3 : S.X.len x = S.X.len p
      · rw [if_pos q3, if_neg (show ¬ S.X.len p < S.X.len x by omega)]
      · have lt : S.X.len p < S.X.len x := by omega
        rw [if_neg q3, if_pos lt]
        have sb := sib_in hL q (by omega) e lt
        have t := h.takN hL hd hb hp (hL.ok.len x) sb.1
        have mm := (mt_iff (hL.ok.len x) (hL.ok.len p) sb.1 (hL.al p)).mp (mt2_comm.mp sb.2)
        by_cases w : ∀ c9 ∈ cof S.X p, ¬ mt2 (S.X.pre c9) (S.X.len c9) (S.X.pre x ^^^ 2 ^ (32 - S.X.len x)) (S.X.len x)
        · rw [if_pos w, if_pos ⟨by omega, mm, t.mpr (fun c c1 c2 c3 => w c ((C.2.2 c).mpr ⟨c1, c2, c3⟩))⟩]
        · rw [if_neg w, if_neg (fun v => w (fun c hc => by have m := (C.2.2 c).mp hc; exact t.mp v.2.2 c m.1 m.2.1 m.2.2))]
    · rw [if_neg (fun z => q2 (ec.mp z)), if_neg q2]
  · rw [if_neg (fun z => q z.1.1), if_neg (fun z => q z.1.1)]
theorem SIM.shr {S : LDS} {V : MS} {b d : Nat} (h : SIM S V b d) (hL : LIV S.X) (hd : d < 2) (hb : b = 200 * d) {x : Nat} {u : Bool} : swN V b d x u = shrN S.X (cof S.X) x u := by
  unfold swN shrN
  rw [h.mn]
  by_cases q : x < S.X.n
  · have ec : ((x < S.X.n ∧ V.sta (b + x) = 1) ∧ ¬ V.par (b + x) = none) ↔ (x < S.X.n ∧ S.X.sta x = 1) ∧ S.X.par x ≠ none := by rw [h.sta q, h.parN q]
    by_cases q2 : (x < S.X.n ∧ S.X.sta x = 1) ∧ S.X.par x ≠ none
    · rw [if_pos (ec.mpr q2), if_pos q2, h.len q]
      have l33 := hL.ok.len x
      by_cases q3 : S.X.len x = 32
      · rw [if_pos q3, if_neg (show ¬ S.X.len x < 32 by omega)]
      · rw [if_neg q3, if_pos (show S.X.len x < 32 by omega)]
        have C := hL.ch q
        have el : lstN V (b + x) u = hafN S.X x (!u) := by
          cases u with
          | true => exact h.pre q
          | false => show V.pre (b + x) ^^^ 2 ^ (32 - (V.len (b + x) + 1)) = _; rw [h.pre q, h.len q]; rfl
        have al : hafN S.X x (!u) % 2 ^ (32 - (S.X.len x + 1)) = 0 := by
          have a1 : S.X.pre x % 2 ^ (32 - (S.X.len x + 1)) = 0 := al_more (by omega) (by omega) (hL.al x)
          rw [haf_eq hL (by omega)]
          cases u with
          | true => simpa using a1
          | false => rw [if_pos (show (!false) = true from rfl), Nat.add_mod_right]; exact a1
        rw [el]
        have t := h.takN hL hd hb q (show S.X.len x + 1 < 33 by omega) al
        by_cases w : ∀ c9 ∈ cof S.X x, ¬ mt2 (S.X.pre c9) (S.X.len c9) (hafN S.X x (!u)) (S.X.len x + 1)
        · rw [if_pos w, if_pos (t.mpr (fun c c1 c2 c3 => w c ((C.2.2 c).mpr ⟨c1, c2, c3⟩)))]
        · rw [if_neg w, if_neg (fun v => w (fun c hc => by have m := (C.2.2 c).mp hc; exact t.mp v c m.1 m.2.1 m.2.2))]
    · rw [if_neg (fun z => q2 (ec.mp z)), if_neg q2]
  · rw [if_neg (fun z => q z.1.1), if_neg (fun z => q z.1.1)]
theorem SIM.bak {S : LDS} {V : MS} {b d : Nat} (h : SIM S V b d) (hL : LIV S.X) (hd : d < 2) (hb : b = 200 * d) {x : Nat} : bkN V b d x = if x < S.X.n then (if (S.X.sta x = 1 ∨ S.X.sta x = 2) ∧ S.X.fc x = none then 0 else 2) else 1 := by
  unfold bkN
  rw [h.mn]
  by_cases q : x < S.X.n
  · rw [if_pos q, if_pos q, h.sta q]
    by_cases z : (S.X.sta x = 1 ∨ S.X.sta x = 2) ∧ S.X.fc x = none
    · rw [if_pos z, if_pos ⟨z.1, (h.hl hL hd hb q).mpr z.2⟩]
    · rw [if_neg z, if_neg (fun y => z ⟨y.1, (h.hl hL hd hb q).mp y.2⟩)]
  · rw [if_neg q, if_neg q]
theorem SIM.topB {S : LDS} {V : MS} {b d : Nat} (h : SIM S V b d) (hL : LIV S.X) {p n : Nat} (hn : n < 33) (ha : p % 2 ^ (32 - n) = 0) : (fst (trP V p n) b (V.mn d)).isSome = (fst (tbP S.X p n) 0 S.X.n).isSome := by
  have e : ∀ c, c < S.X.n → trP V p n (b + c) = tbP S.X p n (0 + c) := fun c hc => by
    unfold trP tbP
    rw [Nat.zero_add, h.sta hc, h.pre hc, h.len hc]
    congr 1
    · congr 1
      exact decide_eq_decide.mpr (h.parN hc)
    · exact decide_eq_decide.mpr (mt_iff (hL.ok.len c) hn (hL.al c) ha).symm
  rw [h.mn]
  have k : ∀ (k i : Nat), i + k = S.X.n → (fst (trP V p n) (b + i) k).isSome = (fst (tbP S.X p n) (0 + i) k).isSome := by
    intro k
    induction k with
    | zero => intro i _; rfl
    | succ k ih =>
      intro i hi
      simp only [fst]
      rw [e i (by omega)]
      split
      · rfl
      · exact ih (i + 1) (by omega)
  exact k S.X.n 0 (by omega)
theorem tb_iff {X : RS} {p n : Nat} : (fst (tbP X p n) 0 X.n).isSome = false ↔ ∀ r, r < X.n → X.par r = none → X.sta r ≠ 4 → ¬ mt2 (X.pre r) (X.len r) p n := by
  rw [Option.isSome_eq_false_iff, Option.isNone_iff_eq_none, fst_none]
  constructor
  · intro h r hr h1 h2 h3
    have := h r (by omega) (by omega)
    unfold tbP at this
    simp [h1, h2, h3] at this
  · intro h r _ hr
    unfold tbP
    by_cases q1 : X.par r = none
    · by_cases q2 : X.sta r ≠ 4
      · have := h r (by omega) q1 q2
        simp [q1, q2]; unfold mt2 at this; omega
      · simp [q2]
    · simp [q1]
