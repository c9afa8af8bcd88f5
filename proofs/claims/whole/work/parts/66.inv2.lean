/-! what holds between the calls: the registry u and the reference V -/
def EQV (S T : LDS) : Prop := ∃ V, SIM S V 0 0 ∧ SIM T V 0 0
def acAll : LDS → List (Nat × Nat × Nat × Nat) → Prop
  | _, [] => True
  | T, e :: t => acX T e ∧ acAll (agX T e) t
def agAll : LDS → List (Nat × Nat × Nat × Nat) → LDS
  | T, [] => T
  | T, e :: t => agAll (agX T e) t
theorem acAll_app : ∀ (E : List (Nat × Nat × Nat × Nat)) (T : LDS) (e : Nat × Nat × Nat × Nat), acAll T E → acX (agAll T E) e → acAll T (E ++ [e])
  | [], T, e, _, h => ⟨h, trivial⟩
  | x :: t, T, e, h1, h2 => ⟨h1.1, acAll_app t _ e h1.2 h2⟩
theorem agAll_app : ∀ (E : List (Nat × Nat × Nat × Nat)) (T : LDS) (e : Nat × Nat × Nat × Nat), agAll T (E ++ [e]) = agX (agAll T E) e
  | [], T, e => rfl
  | x :: t, T, e => agAll_app t _ e
theorem acAll_take : ∀ (E : List (Nat × Nat × Nat × Nat)) (T : LDS) (k : Nat), acAll T E → acAll T (E.take k)
  | [], T, k, _ => by rw [List.take_nil]; trivial
  | x :: t, T, 0, _ => trivial
  | x :: t, T, k + 1, h => ⟨h.1, acAll_take t _ k h.2⟩
theorem LOK.all : ∀ {E : List (Nat × Nat × Nat × Nat)} {T : LDS}, LOK T → acAll T E → LOK (agAll T E)
  | [], _, h, _ => h
  | x :: t, T, h, a => show LOK (agAll (agX T x) t) from LOK.all (h.step a.1) a.2
theorem X00_ok : LIV X00 := LIV.clr (X := X00) (RSok.mk (by decide) (fun _ => by decide) (fun _ => by decide) (fun _ => by decide) (fun _ => by decide) (fun _ => by decide) (fun _ => by decide) (fun _ k q => by cases q; decide) (fun _ k q => by cases q; decide) (fun _ k q => by cases q; decide)) (fun _ => Nat.zero_mod _)
theorem S00_ok : LOK S00 := ⟨⟨X00_ok.ok, fun _ => Nat.zero_le _, Nat.zero_le _, Nat.zero_le _⟩, X00_ok⟩
/-- which calls are accepted hangs on the rows alone -/
theorem acX_sim {S T : LDS} {V : MS} {b d : Nat} (hS : SIM S V b d) (hT : SIM T V b d) (oS : LOK S) (oT : LOK T) (hd : d < 2) (hb : b = 200 * d) : ∀ {e : Nat × Nat × Nat × Nat}, acX S e → acX T e
  | (0, e1, e2, e3), a => a.elim
  | (1, e1, e2, e3), a => by
    have en : T.X.n = S.X.n := hT.mn.symm.trans hS.mn
    obtain ⟨a1, a2, a3, a4⟩ := a
    refine ⟨by rw [en]; exact a1, a2, a3, fun r hr h1 h2 h3 => ?_⟩
    have hr2 : r < S.X.n := by rw [← en]; exact hr
    refine a4 r hr2 ((hS.parN hr2).mp ((hT.parN hr).mpr h1)) (by rw [← hS.sta hr2, hT.sta hr]; exact h2) ?_
    rw [← hS.pre hr2, ← hS.len hr2, hT.pre hr, hT.len hr]; exact h3
  | (2, e1, e2, e3), a => ⟨by
    have h1 := hS.ask oS.2 hd hb (x := e1) (n := e2) (u := true)
    have h2 := hT.ask oT.2 hd hb (x := e1) (n := e2) (u := true)
    exact (h2.symm.trans h1).trans a.1, a.2⟩
  | (3, e1, e2, e3), a => ⟨by
    have h1 := hS.rsv oS.2 hd hb (x := e1) (p := e2) (n := e3)
    have h2 := hT.rsv oT.2 hd hb (x := e1) (p := e2) (n := e3)
    exact (h2.symm.trans h1).trans a.1, a.2⟩
  | (4, e1, e2, e3), a => by
    have en : T.X.n = S.X.n := hT.mn.symm.trans hS.mn
    have hx : e1 < S.X.n := a.1.1
    exact ⟨⟨by rw [en]; exact hx, (hT.sta (by rw [en]; exact hx)).symm.trans ((hS.sta hx).trans a.1.2)⟩, a.2⟩
  | (5, e1, e2, e3), a => by
    have h1 := hS.bak oS.2 hd hb (x := e1)
    have h2 := hT.bak oT.2 hd hb (x := e1)
    have a1 : e1 < S.X.n ∧ (S.X.sta e1 = 1 ∨ S.X.sta e1 = 2) ∧ S.X.fc e1 = none := a.1
    rw [if_pos a1.1, if_pos a1.2] at h1
    rw [h1] at h2
    refine ⟨?_, a.2⟩
    by_cases q : e1 < T.X.n
    · rw [if_pos q] at h2
      by_cases q2 : (T.X.sta e1 = 1 ∨ T.X.sta e1 = 2) ∧ T.X.fc e1 = none
      · exact ⟨q, q2⟩
      · rw [if_neg q2] at h2; exact absurd h2 (by decide)
    · rw [if_neg q] at h2; exact absurd h2 (by decide)
  | (6, e1, e2, e3), a => ⟨by
    have h1 := hS.gro oS.2 hd hb (x := e1)
    have h2 := hT.gro oT.2 hd hb (x := e1)
    exact (h2.symm.trans h1).trans a.1, a.2⟩
  | (7, e1, e2, e3), a => ⟨by
    have h1 := hS.shr oS.2 hd hb (x := e1) (u := decide (e2 = 1))
    have h2 := hT.shr oT.2 hd hb (x := e1) (u := decide (e2 = 1))
    exact (h2.symm.trans h1).trans a.1, a.2⟩
  | (8, e1, e2, e3), a => by
    have en : T.X.n = S.X.n := hT.mn.symm.trans hS.mn
    have hx : e1 < S.X.n := a.1.1
    exact ⟨⟨by rw [en]; exact hx, a.1.2.1, fun q => a.1.2.2 ((hS.sta hx).symm.trans ((hT.sta (by rw [en]; exact hx)).trans q))⟩, a.2⟩
  | (9, e1, e2, e3), a => a
  | (10, e1, e2, e3), a => ⟨⟨Nat.le_trans (Nat.le_of_eq (hT.td.symm.trans hS.td)) a.1.1, a.1.2⟩, a.2⟩
  | (11, e1, e2, e3), a => a
  | (_ + 12, e1, e2, e3), a => a.elim
theorem EQV.step {S T : LDS} (h : EQV S T) (oS : LOK S) (oT : LOK T) {e : Nat × Nat × Nat × Nat} (a : acX S e) : acX T e ∧ EQV (agX S e) (agX T e) := by
  obtain ⟨V, h1, h2⟩ := h
  have a2 := acX_sim h1 h2 oS oT (by decide) rfl a
  exact ⟨a2, efV V 0 0 e, h1.efE oS (by decide) rfl a, h2.efE oT (by decide) rfl a2⟩
theorem EQV.symm {S T : LDS} (h : EQV S T) : EQV T S := by
  obtain ⟨V, h1, h2⟩ := h
  exact ⟨V, h2, h1⟩
def INV (u : US) (V : MS) : Prop := (VOK V ∧ LOK u.1 ∧ LOK u.2.1) ∧ (SIM u.1 V 0 0 ∧ SIM u.2.1 V 200 1) ∧ (u.2.2.2 = V.ne ∧ ∀ k, k < V.ne → u.2.2.1 (k * 4) = V.kd k ∧ u.2.2.1 (k * 4 + 1) = V.fi k ∧ u.2.2.1 (k * 4 + 2) = V.se k ∧ u.2.2.1 (k * 4 + 3) = V.th k) ∧ ∃ E : List (Nat × Nat × Nat × Nat), E.length = V.ne ∧ (∀ j x, E[j]? = some x → entOK V j x) ∧ acAll S00 E ∧ EQV u.1 (agAll S00 E)
/-- the walk and the reference's scratch don't count -/
theorem INV.wk {S S2 : LDS} {pt : Nat → Int32} {jn : Nat} {V : MS} (h : INV (S, S2, pt, jn) V) (wk : WK) (tc : Nat) (fo : Int64) (fl : Int32) : INV ((S.X, S.pol, S.td, S.qd, wk), S2, pt, jn) (mkV V.mn V.pre V.len V.lev V.hol V.sta V.en V.tdy V.dys V.pol V.par V.kd V.fi V.se V.th V.ne tc fo fl) := h
theorem INV.tc {u : US} {V : MS} (h : INV u V) (tc : Nat) (fo : Int64) (fl : Int32) : INV u (mkV V.mn V.pre V.len V.lev V.hol V.sta V.en V.tdy V.dys V.pol V.par V.kd V.fi V.se V.th V.ne tc fo fl) := h
theorem efV_log (V : MS) (b d : Nat) : ∀ e : Nat × Nat × Nat × Nat, (efV V b d e).kd = V.kd ∧ (efV V b d e).fi = V.fi ∧ (efV V b d e).se = V.se ∧ (efV V b d e).th = V.th ∧ (efV V b d e).ne = V.ne ∧ (efV V b d e).tc = V.tc
  | (0, _, _, _) => ⟨rfl, rfl, rfl, rfl, rfl, rfl⟩
  | (1, _, _, _) => ⟨rfl, rfl, rfl, rfl, rfl, rfl⟩
  | (2, e1, e2, e3) => by
    show (ef2 V b d e1 e2 (decide (e3 = 1))).kd = V.kd ∧ (ef2 V b d e1 e2 (decide (e3 = 1))).fi = V.fi ∧ (ef2 V b d e1 e2 (decide (e3 = 1))).se = V.se ∧ (ef2 V b d e1 e2 (decide (e3 = 1))).th = V.th ∧ (ef2 V b d e1 e2 (decide (e3 = 1))).ne = V.ne ∧ (ef2 V b d e1 e2 (decide (e3 = 1))).tc = V.tc
    unfold ef2
    split <;> exact ⟨rfl, rfl, rfl, rfl, rfl, rfl⟩
  | (3, _, _, _) => ⟨rfl, rfl, rfl, rfl, rfl, rfl⟩
  | (4, _, _, _) => ⟨rfl, rfl, rfl, rfl, rfl, rfl⟩
  | (5, e1, _, _) => by
    show (vRet V b d e1).kd = V.kd ∧ (vRet V b d e1).fi = V.fi ∧ (vRet V b d e1).se = V.se ∧ (vRet V b d e1).th = V.th ∧ (vRet V b d e1).ne = V.ne ∧ (vRet V b d e1).tc = V.tc
    unfold vRet
    split <;> exact ⟨rfl, rfl, rfl, rfl, rfl, rfl⟩
  | (6, _, _, _) => ⟨rfl, rfl, rfl, rfl, rfl, rfl⟩
  | (7, e1, e2, _) => by
    show (vShr V (b + e1) (decide (e2 = 1))).kd = V.kd ∧ (vShr V (b + e1) (decide (e2 = 1))).fi = V.fi ∧ (vShr V (b + e1) (decide (e2 = 1))).se = V.se ∧ (vShr V (b + e1) (decide (e2 = 1))).th = V.th ∧ (vShr V (b + e1) (decide (e2 = 1))).ne = V.ne ∧ (vShr V (b + e1) (decide (e2 = 1))).tc = V.tc
    cases decide (e2 = 1) <;> exact ⟨rfl, rfl, rfl, rfl, rfl, rfl⟩
  | (8, _, _, _) => ⟨rfl, rfl, rfl, rfl, rfl, rfl⟩
  | (9, _, _, _) => ⟨rfl, rfl, rfl, rfl, rfl, rfl⟩
  | (10, _, _, _) => ⟨rfl, rfl, rfl, rfl, rfl, rfl⟩
  | (11, _, _, _) => ⟨rfl, rfl, rfl, rfl, rfl, rfl⟩
  | (_ + 12, _, _, _) => ⟨rfl, rfl, rfl, rfl, rfl, rfl⟩
theorem updS (f : Nat → Int32) (k : Nat) (x : Int32) : upd f k x k = x := if_pos rfl
theorem updN (f : Nat → Int32) {k j : Nat} (x : Int32) (h : j ≠ k) : upd f k x j = f j := if_neg h
theorem jPut_at (pt : Nat → Int32) (n : Nat) (k0 k1 k2 k3 : Int32) : jPut pt n k0 k1 k2 k3 (n * 4) = k0 ∧ jPut pt n k0 k1 k2 k3 (n * 4 + 1) = k1 ∧ jPut pt n k0 k1 k2 k3 (n * 4 + 2) = k2 ∧ jPut pt n k0 k1 k2 k3 (n * 4 + 3) = k3 := by
  unfold jPut
  refine ⟨?_, ?_, ?_, updS _ _ _⟩
  · rw [updN _ _ (by omega), updN _ _ (by omega), updN _ _ (by omega), updS]
  · rw [updN _ _ (by omega), updN _ _ (by omega), updS]
  · rw [updN _ _ (by omega), updS]
theorem jPut_lt (pt : Nat → Int32) {n k i : Nat} (k0 k1 k2 k3 : Int32) (h : k < n) (hi : i < 4) : jPut pt n k0 k1 k2 k3 (k * 4 + i) = pt (k * 4 + i) := by
  show upd (upd (upd (upd pt (n * 4) k0) (n * 4 + 1) k1) (n * 4 + 2) k2) (n * 4 + 3) k3 (k * 4 + i) = _
  rw [updN _ _ (by omega), updN _ _ (by omega), updN _ _ (by omega), updN _ _ (by omega)]
/-- an accepted call -/
theorem INV.acc {S S2 : LDS} {pt : Nat → Int32} {jn : Nat} {V : MS} (h : INV (S, S2, pt, jn) V) {e : Nat × Nat × Nat × Nat} {k0 k1 k2 k3 : Int32} (hne : ¬ jn = 300) (a : acX S e) (e0 : k0 = nI e.1) (e1 : k1 = nI e.2.1) (e2 : k2 = nI e.2.2.1) (e3 : k3 = nI e.2.2.2) (tc : Nat) :
    INV (agX S e, S2, jPut pt jn k0 k1 k2 k3, jn + 1) (efV (vNote (mkV V.mn V.pre V.len V.lev V.hol V.sta V.en V.tdy V.dys V.pol V.par V.kd V.fi V.se V.th V.ne tc V.fo V.fl) k0 k1 k2 k3) 0 0 e) := by
  obtain ⟨⟨hv, oS, oS2⟩, ⟨s1, s2⟩, ⟨hj, hl⟩, E, hE, hen, hac, heq⟩ := h
  simp only at hj hl oS oS2 s1 s2 heq
  subst hj
  have hn3 := hv.1.ne
  obtain ⟨Zv, hZv⟩ : ∃ Zv, Zv = vNote (mkV V.mn V.pre V.len V.lev V.hol V.sta V.en V.tdy V.dys V.pol V.par V.kd V.fi V.se V.th V.ne tc V.fo V.fl) k0 k1 k2 k3 := ⟨_, rfl⟩
  have w1 : SIM S Zv 0 0 := by rw [hZv]; exact s1
  have w2 : SIM S2 Zv 200 1 := by rw [hZv]; exact s2
  have wv : VOK Zv := by rw [hZv]; exact ⟨⟨by show V.ne + 1 ≤ 300; omega, hv.1.2⟩, hv.2⟩
  have wk : Zv.kd = upd V.kd V.ne k0 ∧ Zv.fi = upd V.fi V.ne k1 ∧ Zv.se = upd V.se V.ne k2 ∧ Zv.th = upd V.th V.ne k3 ∧ Zv.ne = V.ne + 1 := by rw [hZv]; exact ⟨rfl, rfl, rfl, rfl, rfl⟩
  rw [← hZv]
  obtain ⟨l1, l2, l3, l4, l5, _⟩ := efV_log Zv 0 0 e
  obtain ⟨p1, p2, p3, p4, p5⟩ := wk
  have st := heq.step oS (S00_ok.all hac) a
  refine ⟨⟨wv.ef w1 oS (by decide) rfl a, oS.step a, oS2⟩, ⟨w1.efE oS (by decide) rfl a, w2.half (HALF.ef w1 oS (by decide) rfl rfl (by decide) (by decide) a) oS2.2.ok.n⟩, ⟨by rw [l5, p5], fun k hk => ?_⟩, E ++ [e], by rw [List.length_append, hE, l5, p5]; rfl, fun j x q => ?_, acAll_app E S00 e hac st.1, by rw [agAll_app]; exact st.2⟩
  · rw [l5, p5] at hk
    rw [l1, l2, l3, l4, p1, p2, p3, p4]
    by_cases z : k = V.ne
    · rw [z, updS, updS, updS, updS]
      exact jPut_at pt V.ne k0 k1 k2 k3
    · rw [updN _ _ z, updN _ _ z, updN _ _ z, updN _ _ z]
      have hk2 : k < V.ne := by omega
      have y := hl k hk2
      refine ⟨(jPut_lt pt (i := 0) k0 k1 k2 k3 hk2 (by decide)).trans y.1, (jPut_lt pt (i := 1) k0 k1 k2 k3 hk2 (by decide)).trans y.2.1, (jPut_lt pt (i := 2) k0 k1 k2 k3 hk2 (by decide)).trans y.2.2.1, (jPut_lt pt (i := 3) k0 k1 k2 k3 hk2 (by decide)).trans y.2.2.2⟩
  · show (efV Zv 0 0 e).kd j = _ ∧ (efV Zv 0 0 e).fi j = _ ∧ (efV Zv 0 0 e).se j = _ ∧ (efV Zv 0 0 e).th j = _
    rw [l1, l2, l3, l4, p1, p2, p3, p4]
    by_cases z : j < E.length
    · rw [List.getElem?_append_left z] at q
      have y := hen j x q
      rw [updN _ _ (by omega), updN _ _ (by omega), updN _ _ (by omega), updN _ _ (by omega)]
      exact y
    · rw [List.getElem?_append_right (by omega)] at q
      have zj : j = V.ne := by
        by_cases y : j - E.length = 0
        · omega
        · rw [List.getElem?_eq_none (by simp; omega)] at q; exact nomatch q
      rw [show j - E.length = 0 by omega] at q
      cases q
      rw [zj, updS, updS, updS, updS]
      exact ⟨e0, e1, e2, e3⟩
