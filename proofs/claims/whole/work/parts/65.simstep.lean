/-! the reference's half moves as the class's ledger does -/
def HALF (V V' : MS) (b d : Nat) : Prop := V'.mn d = V.mn d ∧ (∀ j, j < 200 → V'.pre (b + j) = V.pre (b + j) ∧ V'.len (b + j) = V.len (b + j) ∧ V'.lev (b + j) = V.lev (b + j) ∧ V'.hol (b + j) = V.hol (b + j) ∧ V'.sta (b + j) = V.sta (b + j) ∧ V'.en (b + j) = V.en (b + j) ∧ V'.par (b + j) = V.par (b + j)) ∧ (∀ i, i < 4 → V'.pol (4 * d + i) = V.pol (4 * d + i)) ∧ V'.tdy d = V.tdy d ∧ V'.dys d = V.dys d
theorem SIM.half {S : LDS} {V V' : MS} {b d : Nat} (h : SIM S V b d) (q : HALF V V' b d) (hn : S.X.n ≤ 200) : SIM S V' b d := by
  obtain ⟨q1, q2, q3, q4, q5⟩ := q
  refine ⟨q1.trans h.mn, fun j hj => ?_, fun i hi => (q3 i hi).trans (h.pol hi), q4.trans h.td, q5.trans h.qd⟩
  obtain ⟨p1, p2, p3, p4, p5, p6, p7⟩ := q2 j (by omega)
  exact ⟨p1.trans (h.pre hj), p2.trans (h.len hj), p3.trans (h.lev hj), p4.trans (h.hol hj), p5.trans (h.sta hj), p6.trans (h.en hj), p7.trans (h.par hj)⟩
def ef2 (V : MS) (b d e1 e2 : Nat) (u : Bool) : MS := match chN V (b + e1) e2 u with
  | none => vFn V V.tc (boI (chN V (b + e1) e2 u)) (blI (chN V (b + e1) e2 u))
  | some y => vMake (vFn V V.tc (boI (chN V (b + e1) e2 u)) (blI (chN V (b + e1) e2 u))) b d y.1 e2 (some (b + e1)) (V.hol (b + e1)) 1
def efV (V : MS) (b d : Nat) (e : Nat × Nat × Nat × Nat) : MS := match e.1 with
  | 0 => V
  | 1 => vMake V b d e.2.1 e.2.2.1 none e.2.2.2 1
  | 2 => ef2 V b d e.2.1 e.2.2.1 (decide (e.2.2.2 = 1))
  | 3 => vMake V b d e.2.2.1 e.2.2.2 (some (b + e.2.1)) (V.hol (b + e.2.1)) 2
  | 4 => vSta V (b + e.2.1) 1
  | 5 => vRet V b d e.2.1
  | 6 => vGro V (b + e.2.1)
  | 7 => vShr V (b + e.2.1) (decide (e.2.2.1 = 1))
  | 8 => vHov V (b + e.2.1) e.2.2.1
  | 9 => vPol V (4 * d + e.2.1) e.2.2.1
  | 10 => vPas V b d e.2.1
  | 11 => (mkV V.mn V.pre V.len V.lev V.hol V.sta V.en V.tdy (va_up V.dys d e.2.1) V.pol V.par V.kd V.fi V.se V.th V.ne V.tc V.fo V.fl)
  | _ + 12 => V
theorem agV_ef (V : MS) : ∀ e : Nat × Nat × Nat × Nat, agV V e = efV V 200 1 e
  | (0, _, _, _) => rfl
  | (1, _, _, _) => rfl
  | (2, _, _, _) => rfl
  | (3, _, _, _) => rfl
  | (4, _, _, _) => rfl
  | (5, _, _, _) => rfl
  | (6, _, _, _) => rfl
  | (7, _, _, _) => rfl
  | (8, _, _, _) => rfl
  | (9, _, _, _) => rfl
  | (10, _, _, _) => rfl
  | (11, _, _, _) => rfl
  | (_ + 12, _, _, _) => rfl
theorem vb {α : Type} {f g : Nat → α} {b k j : Nat} {v w : α} (hv : v = w) (h : j ≠ k → f (b + j) = g j) : va_up f (b + k) v (b + j) = va_up g k w j := by
  by_cases e : j = k
  · rw [e, va_up_self, va_up_self]; exact hv
  · rw [va_up_ne _ _ e, va_up_ne _ _ (by omega)]; exact h e
theorem vbo {f g : Nat → Option Nat} {b k j : Nat} {v w : Option Nat} (hv : v = w.map (b + ·)) (h : j ≠ k → f (b + j) = (g j).map (b + ·)) : va_up f (b + k) v (b + j) = (va_up g k w j).map (b + ·) := by
  by_cases e : j = k
  · rw [e, va_up_self, va_up_self]; exact hv
  · rw [va_up_ne _ _ e, va_up_ne _ _ (by omega)]; exact h e
theorem SIM.addR {S : LDS} {V : MS} {b d : Nat} (h : SIM S V b d) {p n w v t : Nat} {q0 : Option Nat} {fc nx : Nat → Option Nat} {wk : WK} (ht : t = match q0 with
  | none => 0
  | some a => S.X.lev a + 1) (hq : ∀ a, q0 = some a → a < S.X.n) : SIM (mkR (va_up S.X.pre S.X.n p) (va_up S.X.len S.X.n n) (va_up S.X.lev S.X.n t) (va_up S.X.hol S.X.n w) (va_up S.X.sta S.X.n v) (va_up S.X.en S.X.n 0) (va_up S.X.par S.X.n q0) fc nx (S.X.n + 1), S.pol, S.td, S.qd, wk) (vMake V b d p n (q0.map (b + ·)) w v) b d := by
  have em := h.mn
  refine ⟨?_, fun j hj => ?_, h.2.2.1, h.td, h.qd⟩
  · show va_up V.mn d (V.mn d + 1) d = S.X.n + 1
    rw [va_up_self, em]
  · have hj2 : j ≠ S.X.n → j < S.X.n := fun e => by
      have : j < S.X.n + 1 := hj
      omega
    show va_up V.pre (b + V.mn d) p (b + j) = va_up S.X.pre S.X.n p j ∧ va_up V.len (b + V.mn d) n (b + j) = va_up S.X.len S.X.n n j ∧ va_up V.lev (b + V.mn d) _ (b + j) = va_up S.X.lev S.X.n t j ∧ va_up V.hol (b + V.mn d) w (b + j) = va_up S.X.hol S.X.n w j ∧ va_up V.sta (b + V.mn d) v (b + j) = va_up S.X.sta S.X.n v j ∧ va_up V.en (b + V.mn d) 0 (b + j) = va_up S.X.en S.X.n 0 j ∧ va_up V.par (b + V.mn d) (q0.map (b + ·)) (b + j) = (va_up S.X.par S.X.n q0 j).map (b + ·)
    rw [em]
    refine ⟨vb rfl (fun e => h.pre (hj2 e)), vb rfl (fun e => h.len (hj2 e)), vb ?_ (fun e => h.lev (hj2 e)), vb rfl (fun e => h.hol (hj2 e)), vb rfl (fun e => h.sta (hj2 e)), vb rfl (fun e => h.en (hj2 e)), vbo rfl (fun e => h.par (hj2 e))⟩
    cases q0 with
    | none => exact ht.symm
    | some a => rw [ht]; show V.lev (b + a) + 1 = S.X.lev a + 1; rw [h.lev (hq a rfl)]
/-- the same rows but for holders, states and ends -/
theorem SIM.fld {S S' : LDS} {V V' : MS} {b d : Nat} (h : SIM S V b d) (a1 : S'.X.pre = S.X.pre ∧ S'.X.len = S.X.len ∧ S'.X.lev = S.X.lev ∧ S'.X.par = S.X.par ∧ S'.X.n = S.X.n ∧ S'.pol = S.pol ∧ S'.qd = S.qd) (a2 : V'.pre = V.pre ∧ V'.len = V.len ∧ V'.lev = V.lev ∧ V'.par = V.par ∧ V'.mn = V.mn ∧ V'.pol = V.pol ∧ V'.dys = V.dys) (ht : V'.tdy d = S'.td) (h1 : ∀ j, j < S.X.n → V'.hol (b + j) = S'.X.hol j) (h2 : ∀ j, j < S.X.n → V'.sta (b + j) = S'.X.sta j) (h3 : ∀ j, j < S.X.n → V'.en (b + j) = S'.X.en j) : SIM S' V' b d := by
  obtain ⟨p1, p2, p3, p4, p5, p6, p7⟩ := a1
  obtain ⟨q1, q2, q3, q4, q5, q6, q7⟩ := a2
  refine ⟨by rw [q5, p5]; exact h.mn, fun j hj => ?_, fun i hi => by rw [q6, p6]; exact h.pol hi, ht, by rw [q7, p7]; exact h.qd⟩
  rw [p5] at hj
  rw [p1, p2, p3, p4, q1, q2, q3, q4]
  exact ⟨h.pre hj, h.len hj, h.lev hj, h1 j hj, h2 j hj, h3 j hj, h.par hj⟩
theorem rRet_eq (X : RS) (r : Nat) (L : List Nat) : (rRet X r L).pre = X.pre ∧ (rRet X r L).len = X.len ∧ (rRet X r L).lev = X.lev ∧ (rRet X r L).hol = X.hol ∧ (rRet X r L).sta = va_up X.sta r 4 ∧ (rRet X r L).en = X.en ∧ (rRet X r L).par = X.par ∧ (rRet X r L).n = X.n := by
  unfold rRet
  cases X.par r with
  | none => exact ⟨rfl, rfl, rfl, rfl, rfl, rfl, rfl, rfl⟩
  | some p => exact ⟨rfl, rfl, rfl, rfl, rfl, rfl, rfl, rfl⟩
theorem bgd_eq (n : Nat) : ∀ (k i : Nat) (X : RS) (sm : Nat), (bgd n i k X sm).1.pre = X.pre ∧ (bgd n i k X sm).1.len = X.len ∧ (bgd n i k X sm).1.lev = X.lev ∧ (bgd n i k X sm).1.hol = X.hol ∧ (bgd n i k X sm).1.en = X.en ∧ (bgd n i k X sm).1.par = X.par ∧ (bgd n i k X sm).1.n = X.n
  | 0, i, X, sm => ⟨rfl, rfl, rfl, rfl, rfl, rfl, rfl⟩
  | k + 1, i, X, sm => by
    simp only [bgd]
    split
    · obtain ⟨e1, e2, e3, e4, e5, e6, e7, e8⟩ := rRet_eq X i (cof X ((X.par i).getD 0))
      obtain ⟨q1, q2, q3, q4, q5, q6, q7⟩ := bgd_eq n k (i + 1) (rRet X i (cof X ((X.par i).getD 0))) (sm + 1)
      exact ⟨q1.trans e1, q2.trans e2, q3.trans e3, q4.trans e4, q5.trans e6, q6.trans e7, q7.trans e8⟩
    · exact bgd_eq n k (i + 1) X sm
theorem ps_bgd {en en2 : Nat → Nat} {n b N : Nat} (he : ∀ j, j < N → en2 (b + j) = en j) : ∀ (k i : Nat) (Y : RS) (g : Nat → Nat) (sm : Nat), i + k = N → Y.en = en → (∀ j, j < N → g (b + j) = Y.sta j) → (psF en2 n (b + i) k g sm).2 = (bgd n i k Y sm).2 ∧ ∀ j, j < N → (psF en2 n (b + i) k g sm).1 (b + j) = (bgd n i k Y sm).1.sta j
  | 0, i, Y, g, sm, _, _, h => ⟨rfl, h⟩
  | k + 1, i, Y, g, sm, hi, hY, h => by
    simp only [psF, bgd]
    rw [h i (by omega), he i (by omega), hY]
    split
    · obtain ⟨e1, e2, e3, e4, e5, e6, e7, e8⟩ := rRet_eq Y i (cof Y ((Y.par i).getD 0))
      rw [show b + i + 1 = b + (i + 1) by omega]
      refine ps_bgd he k (i + 1) _ _ _ (by omega) (e6.trans hY) (fun j hj => ?_)
      rw [e5]; exact vb rfl (fun _ => h j hj)
    · rw [show b + i + 1 = b + (i + 1) by omega]
      refine ps_bgd he k (i + 1) _ _ _ (by omega) hY (fun j hj => ?_)
      by_cases e : j = i
      · rw [e, va_up_self]
      · rw [va_up_ne _ _ (by omega)]; exact h j hj
theorem SIM.upA {S : LDS} {V : MS} {b d : Nat} (h : SIM S V b d) (hL : LIV S.X) {r : Nat} (hr : r < S.X.n) : ∀ (k k' i : Nat), i < S.X.n → S.X.sta i ≠ 4 → S.X.lev i < k → S.X.lev i < k' → (upF V (b + r) k (some (b + i)) = some (b + r) ↔ aob S.X.par r k' (some i) = true)
  | 0, _, i, _, _, h1, _ => by omega
  | _, 0, i, _, _, _, h1 => by omega
  | k + 1, k' + 1, i, hi, hs, h1, h2 => by
    simp only [upF, aob]
    rw [h.sta hi]
    by_cases e : i = r
    · rw [if_pos e, if_pos (Or.inl (by rw [e])), e]; simp
    · rw [if_neg e, if_neg (by omega), h.par hi]
      cases ep : S.X.par i with
      | none =>
        have e1 : upF V (b + r) k (Option.map (b + ·) none) = none := by cases k <;> rfl
        have e2 : aob S.X.par r k' none = false := by cases k' <;> rfl
        rw [e1, e2]; simp
      | some p =>
        have hp := hL.lt hi ep
        have hl := hL.lv hi ep
        have hin := hL.inn hi ep hs
        exact SIM.upA h hL hr k k' p (by omega) (by omega) (by omega) (by omega)
theorem SIM.upB {S : LDS} {V : MS} {b d : Nat} (h : SIM S V b d) (hL : LIV S.X) {r i : Nat} (hr : r < S.X.n) (hs : S.X.sta r ≠ 4) (hi : i < S.X.n) : upF V (b + r) 400 (some (b + i)) = some (b + r) ↔ S.X.sta i ≠ 4 ∧ aob S.X.par r 5 (some i) = true := by
  have l5 := hL.ok.lev i
  by_cases e : S.X.sta i = 4
  · have : upF V (b + r) 400 (some (b + i)) = some (b + i) := by
      show (if b + i = b + r ∨ V.sta (b + i) = 4 then some (b + i) else _) = _
      rw [if_pos (Or.inr (by rw [h.sta hi]; exact e))]
    rw [this]
    constructor
    · intro q
      have : i = r := by simpa using q
      rw [this] at e; exact absurd e hs
    · intro q; exact absurd e q.1
  · rw [h.upA hL hr 400 5 i hi e (by omega) (by omega)]
    exact ⟨fun q => ⟨e, q⟩, fun q => q.2⟩
theorem SIM.hovE {S : LDS} {V : MS} {b d : Nat} (h : SIM S V b d) (hL : LIV S.X) {r w : Nat} (hr : r < S.X.n) (hs : S.X.sta r ≠ 4) : ∀ (k i : Nat) (hf hv : Nat → Nat) (sm : Nat), i + k = S.X.n → (∀ j, j < S.X.n → hv (b + j) = hf j) → (hoF V (b + r) w (b + i) k hv sm).2 = (hov S.X r w i k hf sm).2 ∧ ∀ j, j < S.X.n → (hoF V (b + r) w (b + i) k hv sm).1 (b + j) = (hov S.X r w i k hf sm).1 j
  | 0, i, hf, hv, sm, _, h1 => ⟨rfl, h1⟩
  | k + 1, i, hf, hv, sm, hi, h1 => by
    simp only [hoF, hov]
    have c := h.upB hL (i := i) hr hs (by omega)
    rw [show b + i + 1 = b + (i + 1) by omega]
    by_cases q : S.X.sta i ≠ 4 ∧ aob S.X.par r 5 (some i) = true
    · rw [if_pos q, if_pos (c.mpr q)]
      exact SIM.hovE h hL hr hs k (i + 1) _ _ _ (by omega) (fun j hj => vb rfl (fun _ => h1 j hj))
    · rw [if_neg q, if_neg (fun z => q (c.mp z))]
      exact SIM.hovE h hL hr hs k (i + 1) _ _ _ (by omega) h1
theorem SIM.chE {S : LDS} {V : MS} {b d : Nat} (h : SIM S V b d) (hL : LIV S.X) (hd : d < 2) (hb : b = 200 * d) {x n : Nat} {u : Bool} (hx : x < S.X.n) : chN V (b + x) n u = (bkX S.X x).foldl (chS u n) none := by unfold chN; rw [h.blkE hL hd hb hx]
/-- a half after an accepted call -/
theorem SIM.efE {S : LDS} {V : MS} {b d : Nat} (h : SIM S V b d) (hO : LOK S) (hd : d < 2) (hb : b = 200 * d) : ∀ {e : Nat × Nat × Nat × Nat}, acX S e → SIM (agX S e) (efV V b d e) b d
  | (0, e1, e2, e3), a => a.elim
  | (1, e1, e2, e3), a => h.addR (q0 := none) rfl (fun a q => (nomatch q))
  | (2, e1, e2, e3), a => by
    obtain ⟨q1, q2, q3, q4, q5, q6⟩ := askN_0 a.1
    have ey := askY_eq (S := S) (u := decide (e3 = 1)) q6
    have ec := h.chE (u := decide (e3 = 1)) (n := e2) hO.2 hd hb q1.1
    show SIM _ (ef2 V b d e1 e2 (decide (e3 = 1))) b d
    unfold ef2
    rw [ec.trans ey]
    have h9 : V.hol (b + e1) = S.X.hol e1 := h.hol q1.1
    rw [h9]
    exact SIM.addR (S := S) (V := vFn V V.tc (boI (some (askY S (bkX S.X) e1 e2 (decide (e3 = 1))))) (blI (some (askY S (bkX S.X) e1 e2 (decide (e3 = 1)))))) h (q0 := some e1) rfl (fun a q => by cases q; exact q1.1)
  | (3, e1, e2, e3), a => by
    obtain ⟨q1, q2⟩ := rsvN_0 a.1
    show SIM _ (vMake V b d e2 e3 (some (b + e1)) (V.hol (b + e1)) 2) b d
    rw [h.hol q1.1]
    exact h.addR (q0 := some e1) rfl (fun a q => by cases q; exact q1.1)
  | (4, e1, e2, e3), a => h.fld ⟨rfl, rfl, rfl, rfl, rfl, rfl, rfl⟩ ⟨rfl, rfl, rfl, rfl, rfl, rfl, rfl⟩ h.td (fun j hj => h.hol hj) (fun j hj => vb rfl (fun _ => h.sta hj)) (fun j hj => h.en hj)
  | (5, e1, e2, e3), a => by
    show SIM (rBack S.X e1 S.td S.qd (cof S.X ((S.X.par e1).getD 0)), S.pol, S.td, S.qd, S.wk) (vRet V b d e1) b d
    have e9 : V.tdy d + V.dys d = S.td + S.qd := by rw [h.td, h.qd]
    unfold rBack vRet
    rw [h.qd]
    split
    · obtain ⟨r1, r2, r3, r4, r5, r6, r7, r8⟩ := rRet_eq (rEn S.X e1 (S.td + S.qd)) e1 (cof S.X ((S.X.par e1).getD 0))
      refine h.fld ⟨r1, r2, r3, r7, r8, rfl, rfl⟩ ⟨rfl, rfl, rfl, rfl, rfl, rfl, rfl⟩ h.td (fun j hj => ?_) (fun j hj => ?_) (fun j hj => ?_)
      · show V.hol (b + j) = (rRet _ _ _).hol j
        rw [r4]; exact h.hol hj
      · show va_up V.sta (b + e1) 4 (b + j) = (rRet _ _ _).sta j
        rw [r5]; exact vb rfl (fun _ => h.sta hj)
      · show va_up V.en (b + e1) (V.tdy d + V.dys d) (b + j) = (rRet _ _ _).en j
        rw [r6]; exact vb e9 (fun _ => h.en hj)
    · exact h.fld ⟨rfl, rfl, rfl, rfl, rfl, rfl, rfl⟩ ⟨rfl, rfl, rfl, rfl, rfl, rfl, rfl⟩ h.td (fun j hj => h.hol hj) (fun j hj => vb rfl (fun _ => h.sta hj)) (fun j hj => vb e9 (fun _ => h.en hj))
  | (6, e1, e2, e3), a => by
    have g9 : groN S.X (cof S.X) e1 = 0 := a.1
    obtain ⟨⟨hx, hs⟩, q, hq, hl, hf⟩ := groN_1 g9
    have l33 := hO.2.ok.len e1
    refine ⟨h.mn, fun j hj => ⟨vb ?_ (fun _ => h.pre hj), vb ?_ (fun _ => h.len hj), h.lev hj, h.hol hj, h.sta hj, h.en hj, h.par hj⟩, h.2.2.1, h.td, h.qd⟩
    · show V.pre (b + e1) &&& mskN (V.len (b + e1) - 1) = S.X.pre e1 &&& (S.X.pre e1 ^^^ 2 ^ (32 - S.X.len e1))
      rw [h.pre hx, h.len hx, bx_mask (hO.2.ok.pre e1) (by omega), (bx_sib (hO.2.al e1)).2]
      rw [show 32 - (S.X.len e1 - 1) = 32 - S.X.len e1 + 1 by omega]
    · rw [h.len hx]
  | (7, e1, e2, e3), a => by
    have g9 : shrN S.X (cof S.X) e1 (decide (e2 = 1)) = 0 := a.1
    obtain ⟨⟨⟨hx, hs⟩, hq⟩, hl, hf⟩ := shrN_1 g9
    show SIM (rHlv S.X e1 (decide (e2 = 1)), S.pol, S.td, S.qd, S.wk) (vShr V (b + e1) (decide (e2 = 1))) b d
    have eh := haf_eq hO.2 hl (decide (e2 = 1))
    have ea := hO.2.al e1
    rw [show 32 - S.X.len e1 = 32 - (S.X.len e1 + 1) + 1 by omega] at ea
    cases eu : decide (e2 = 1) with
    | true =>
      rw [eu, if_pos rfl] at eh
      refine ⟨h.mn, fun j hj => ⟨vb ?_ (fun _ => h.pre hj), vb ?_ (fun _ => h.len hj), h.lev hj, h.hol hj, h.sta hj, h.en hj, h.par hj⟩, h.2.2.1, h.td, h.qd⟩
      · rw [h.pre hx, h.len hx, eh, (bx_or ea).1]
      · rw [h.len hx]
    | false =>
      refine ⟨h.mn, fun j hj => ⟨vb ?_ (fun _ => h.pre hj), vb ?_ (fun _ => h.len hj), h.lev hj, h.hol hj, h.sta hj, h.en hj, h.par hj⟩, h.2.2.1, h.td, h.qd⟩
      · rw [h.pre hx]; rfl
      · rw [h.len hx]
  | (8, e1, e2, e3), a => by
    have hx : e1 < S.X.n := a.1.1
    have hn := hO.2.ok.n
    have g := h.rng hd hb (show e1 < 200 by omega)
    have q := h.hovE hO.2 (w := e2) hx a.1.2.2 S.X.n 0 S.X.hol V.hol 0 (by omega) (fun j hj => h.hol hj)
    refine h.fld ⟨rfl, rfl, rfl, rfl, rfl, rfl, rfl⟩ ⟨rfl, rfl, rfl, rfl, rfl, rfl, rfl⟩ h.td (fun j hj => ?_) (fun j hj => h.sta hj) (fun j hj => h.en hj)
    show (hoF V (b + e1) e2 (sbN (b + e1)) (ebN V (b + e1) - sbN (b + e1)) V.hol 0).1 (b + j) = _
    rw [g.1, g.2]
    exact q.2 j hj
  | (9, e1, e2, e3), a => ⟨h.mn, h.2.1, fun i hi => vb rfl (fun _ => h.pol hi), h.td, h.qd⟩
  | (10, e1, e2, e3), a => by
    obtain ⟨r1, r2, r3, r4, r6, r7, r8⟩ := bgd_eq e1 S.X.n 0 S.X 0
    have q := ps_bgd (en := S.X.en) (en2 := V.en) (n := e1) (b := b) (N := S.X.n) (fun j hj => h.en hj) S.X.n 0 S.X V.sta 0 (by omega) rfl (fun j hj => h.sta hj)
    refine SIM.fld h ⟨r1, r2, r3, r7, r8, rfl, rfl⟩ ⟨rfl, rfl, rfl, rfl, rfl, rfl, rfl⟩ (va_up_self _ _ _) (fun j hj => ?_) (fun j hj => ?_) (fun j hj => ?_)
    · show V.hol (b + j) = (bgd e1 0 S.X.n S.X 0).1.hol j
      rw [r4]; exact h.hol hj
    · show (psF V.en e1 b (V.mn d) V.sta 0).1 (b + j) = (bgd e1 0 S.X.n S.X 0).1.sta j
      rw [h.mn]; exact q.2 j hj
    · show V.en (b + j) = (bgd e1 0 S.X.n S.X 0).1.en j
      rw [r6]; exact h.en hj
  | (11, e1, e2, e3), a => ⟨h.mn, h.2.1, h.2.2.1, h.td, va_up_self _ _ _⟩
  | (_ + 12, e1, e2, e3), a => a.elim
def VOK (V : MS) : Prop := MSok V ∧ ∀ r, V.pre r % 2 ^ (32 - V.len r) = 0
theorem VOK.mk {mn pre len lev hol sta en tdy dys pol : Nat → Nat} {par : Nat → Option Nat} {kd fi se th : Nat → Int32} {ne tc : Nat} {fo : Int64} {fl : Int32} (h0 : ne ≤ 300) (h1 : ∀ j, mn j ≤ 200) (h2 : ∀ j, pre j < 4294967296) (h3 : ∀ j, len j < 33) (h4 : ∀ j, lev j < 5) (h5 : ∀ j, hol j < 10000) (h6 : ∀ j, sta j < 5) (h7 : ∀ j, en j < 200000) (h8 : ∀ j, tdy j ≤ 100000) (h9 : ∀ j, dys j ≤ 1000) (h10 : ∀ j, pol j ≤ 1000) (h11 : ∀ j k, par j = some k → k < 400) (h12 : ∀ j, pre j % 2 ^ (32 - len j) = 0) : VOK (mkV mn pre len lev hol sta en tdy dys pol par kd fi se th ne tc fo fl) :=
  ⟨⟨h0, fun j => ⟨h1 j, h2 j, h3 j, h4 j, h5 j, h6 j, h7 j, h8 j, h9 j, h10 j, fun k q => h11 j k q⟩⟩, h12⟩
theorem up_al {pre len : Nat → Nat} {k p n : Nat} (h : ∀ j, pre j % 2 ^ (32 - len j) = 0) (hp : p % 2 ^ (32 - n) = 0) : ∀ j, va_up pre k p j % 2 ^ (32 - va_up len k n j) = 0 := fun j => by
  by_cases e : j = k
  · rw [e, va_up_self, va_up_self]; exact hp
  · rw [va_up_ne _ _ e, va_up_ne _ _ e]; exact h j
theorem VOK.make {V : MS} (h : VOK V) {b d p n w v : Nat} {q0 : Option Nat} (hm : V.mn d < 200) (hp : p < 4294967296) (hn : n < 33) (hw : w < 10000) (hv : v < 5) (ha : p % 2 ^ (32 - n) = 0) (hq : ∀ a, q0 = some a → a < 400 ∧ V.lev a < 4) : VOK (vMake V b d p n q0 w v) := by
  obtain ⟨m, a⟩ := h
  refine VOK.mk m.ne (up_all (P := (· ≤ 200)) m.mn (by omega)) (up_all (P := (· < 4294967296)) m.pre hp) (up_all (P := (· < 33)) m.len hn) (up_all (P := (· < 5)) m.lev ?_) (up_all (P := (· < 10000)) m.hol hw) (up_all (P := (· < 5)) m.sta hv) (up_all (P := (· < 200000)) m.en (by decide)) m.tdy m.dys m.pol (up_all (P := fun z => ∀ k, z = some k → k < 400) (fun j k q => m.par q) (fun k q => (hq k q).1)) (up_al a ha)
  cases q0 with
  | none => exact (by decide : 0 < 5)
  | some q => have := (hq q rfl).2; show V.lev q + 1 < 5; omega
theorem ps_lt {en : Nat → Nat} {n : Nat} : ∀ (k i : Nat) (g : Nat → Nat) (a : Nat), (∀ j, g j < 5) → ∀ j, (psF en n i k g a).1 j < 5
  | 0, _, _, _, h => h
  | k + 1, i, g, a, h => by
    simp only [psF]
    split
    · exact ps_lt k (i + 1) _ _ (up_all (P := (· < 5)) h (by decide))
    · exact ps_lt k (i + 1) _ _ (up_all (P := (· < 5)) h (h i))
theorem hoF_lt {V : MS} {r w : Nat} (hw : w < 10000) : ∀ (k i : Nat) (g : Nat → Nat) (a : Nat), (∀ j, g j < 10000) → ∀ j, (hoF V r w i k g a).1 j < 10000
  | 0, _, _, _, h => h
  | k + 1, i, g, a, h => by
    simp only [hoF]
    split
    · exact hoF_lt hw k (i + 1) _ _ (up_all (P := (· < 10000)) h hw)
    · exact hoF_lt hw k (i + 1) _ _ h
theorem VOK.ef {S : LDS} {V : MS} {b d : Nat} (v : VOK V) (h : SIM S V b d) (hO : LOK S) (hd : d < 2) (hb : b = 200 * d) : ∀ {e : Nat × Nat × Nat × Nat}, acX S e → VOK (efV V b d e)
  | (0, e1, e2, e3), a => a.elim
  | (1, e1, e2, e3), a => by
    obtain ⟨a1, ⟨⟨a2, a3⟩, a4⟩, a5, a6⟩ := a
    simp only at a2 a3 a4 a5
    exact v.make (by rw [h.mn]; exact a1) a5 (show e2 < 33 by omega) (show e3 < 10000 by omega) (by decide) a3 (fun a q => (nomatch q))
  | (2, e1, e2, e3), a => by
    obtain ⟨q1, q2, q3, q4, q5, q6⟩ := askN_0 (show askN S.X (cof S.X) S.pol (bkX S.X) e1 e2 = 0 from a.1)
    have y := askY_ok (u := decide (e3 = 1)) hO.2 q1.1 (show e2 < 33 by omega) q6
    have ey := askY_eq (S := S) (u := decide (e3 = 1)) q6
    have ec := h.chE (u := decide (e3 = 1)) (n := e2) hO.2 hd hb q1.1
    have hn := hO.2.ok.n
    show VOK (ef2 V b d e1 e2 (decide (e3 = 1)))
    unfold ef2
    rw [ec.trans ey]
    exact VOK.make (V := vFn V V.tc (boI (some (askY S (bkX S.X) e1 e2 (decide (e3 = 1))))) (blI (some (askY S (bkX S.X) e1 e2 (decide (e3 = 1)))))) v (show V.mn d < 200 by rw [h.mn]; omega) y.2.2.1 (by omega) (v.1.hol _) (by decide) y.2.1 (fun a q => by cases q; exact ⟨by omega, by show V.lev (b + e1) < 4; rw [h.lev q1.1]; exact q3⟩)
  | (3, e1, e2, e3), a => by
    obtain ⟨q1, q2, q3, q4⟩ := rsvN_1 (show rsvN S.X (cof S.X) e1 e2 e3 = 0 from a.1)
    have om := omN_0 q3
    have hn := hO.2.ok.n
    exact v.make (by rw [h.mn]; omega) a.2 (show e3 < 33 by omega) (v.1.hol _) (by decide) q2.2.1 (fun a q => by cases q; exact ⟨show b + e1 < 400 by omega, by rw [h.lev q1.1]; exact om.1⟩)
  | (4, e1, e2, e3), a => VOK.mk v.1.ne v.1.mn v.1.pre v.1.len v.1.lev v.1.hol (up_all (P := (· < 5)) v.1.sta (by decide)) v.1.en v.1.tdy v.1.dys v.1.pol (fun j k q => v.1.par q) v.2
  | (5, e1, e2, e3), a => by
    have e9 : V.tdy d + V.dys d < 200000 := by have := v.1.tdy d; have := v.1.dys d; omega
    show VOK (vRet V b d e1)
    unfold vRet
    split
    · exact VOK.mk v.1.ne v.1.mn v.1.pre v.1.len v.1.lev v.1.hol (up_all (P := (· < 5)) v.1.sta (by decide)) (up_all (P := (· < 200000)) v.1.en e9) v.1.tdy v.1.dys v.1.pol (fun j k q => v.1.par q) v.2
    · exact VOK.mk v.1.ne v.1.mn v.1.pre v.1.len v.1.lev v.1.hol (up_all (P := (· < 5)) v.1.sta (by decide)) (up_all (P := (· < 200000)) v.1.en e9) v.1.tdy v.1.dys v.1.pol (fun j k q => v.1.par q) v.2
  | (6, e1, e2, e3), a => by
    obtain ⟨⟨hx, hs⟩, q, hq, hl, hf⟩ := groN_1 (show groN S.X (cof S.X) e1 = 0 from a.1)
    have l33 := v.1.len (b + e1)
    have p32 := v.1.pre (b + e1)
    have lx : V.len (b + e1) = S.X.len e1 := h.len hx
    refine VOK.mk v.1.ne v.1.mn (up_all (P := (· < 4294967296)) v.1.pre (Nat.lt_of_le_of_lt Nat.and_le_left p32)) (up_all (P := (· < 33)) v.1.len (show V.len (b + e1) - 1 < 33 by omega)) v.1.lev v.1.hol v.1.sta v.1.en v.1.tdy v.1.dys v.1.pol (fun j k q => v.1.par q) (up_al v.2 ?_)
    show (V.pre (b + e1) &&& mskN (V.len (b + e1) - 1)) % 2 ^ (32 - (V.len (b + e1) - 1)) = 0
    rw [bx_mask p32 (by omega)]
    exact Nat.mul_mod_left _ _
  | (7, e1, e2, e3), a => by
    obtain ⟨⟨⟨hx, hs⟩, hq⟩, hl, hf⟩ := shrN_1 (show shrN S.X (cof S.X) e1 (decide (e2 = 1)) = 0 from a.1)
    have lx : V.len (b + e1) = S.X.len e1 := h.len hx
    have p32 := v.1.pre (b + e1)
    have ea := v.2 (b + e1)
    have a1 : V.pre (b + e1) % 2 ^ (32 - (V.len (b + e1) + 1)) = 0 := al_more (by omega) (by omega) ea
    have tp := al_top (v.1.len (b + e1)) p32 ea
    have z := Nat.two_pow_pos (32 - (V.len (b + e1) + 1))
    have e0 : 32 - V.len (b + e1) = 32 - (V.len (b + e1) + 1) + 1 := by omega
    rw [e0] at ea
    have e2p : 2 ^ (32 - V.len (b + e1)) = 2 * 2 ^ (32 - (V.len (b + e1) + 1)) := by rw [e0, Nat.pow_succ, Nat.mul_comm]
    show VOK (vShr V (b + e1) (decide (e2 = 1)))
    cases decide (e2 = 1) with
    | true =>
      have o := (bx_or ea).1
      refine VOK.mk v.1.ne v.1.mn (up_all (P := (· < 4294967296)) v.1.pre (by rw [o]; omega)) (up_all (P := (· < 33)) v.1.len (by omega)) v.1.lev v.1.hol v.1.sta v.1.en v.1.tdy v.1.dys v.1.pol (fun j k q => v.1.par q) (up_al v.2 ?_)
      rw [o, Nat.add_mod_right]; exact a1
    | false => exact VOK.mk v.1.ne v.1.mn (up_all (P := (· < 4294967296)) v.1.pre p32) (up_all (P := (· < 33)) v.1.len (by omega)) v.1.lev v.1.hol v.1.sta v.1.en v.1.tdy v.1.dys v.1.pol (fun j k q => v.1.par q) (up_al v.2 a1)
  | (8, e1, e2, e3), a => VOK.mk v.1.ne v.1.mn v.1.pre v.1.len v.1.lev (hoF_lt (show e2 < 10000 by have := a.1.2.1; simp only at this; omega) _ _ _ _ v.1.hol) v.1.sta v.1.en v.1.tdy v.1.dys v.1.pol (fun j k q => v.1.par q) v.2
  | (9, e1, e2, e3), a => VOK.mk v.1.ne v.1.mn v.1.pre v.1.len v.1.lev v.1.hol v.1.sta v.1.en v.1.tdy v.1.dys (up_all (P := (· ≤ 1000)) v.1.pol a.1.2) (fun j k q => v.1.par q) v.2
  | (10, e1, e2, e3), a => VOK.mk v.1.ne v.1.mn v.1.pre v.1.len v.1.lev v.1.hol (ps_lt _ _ _ _ v.1.sta) v.1.en (up_all (P := (· ≤ 100000)) v.1.tdy a.1.2) v.1.dys v.1.pol (fun j k q => v.1.par q) v.2
  | (11, e1, e2, e3), a => VOK.mk v.1.ne v.1.mn v.1.pre v.1.len v.1.lev v.1.hol v.1.sta v.1.en v.1.tdy (up_all (P := (· ≤ 1000)) v.1.dys a.1) v.1.pol (fun j k q => v.1.par q) v.2
  | (_ + 12, e1, e2, e3), a => a.elim
/-- the other half stays -/
theorem half_rows {V V' : MS} {b2 d2 : Nat} (h1 : V'.mn d2 = V.mn d2) (h2 : ∀ j, j < 200 → V'.pre (b2 + j) = V.pre (b2 + j)) (h3 : ∀ j, j < 200 → V'.len (b2 + j) = V.len (b2 + j)) (h4 : ∀ j, j < 200 → V'.lev (b2 + j) = V.lev (b2 + j)) (h5 : ∀ j, j < 200 → V'.hol (b2 + j) = V.hol (b2 + j)) (h6 : ∀ j, j < 200 → V'.sta (b2 + j) = V.sta (b2 + j)) (h7 : ∀ j, j < 200 → V'.en (b2 + j) = V.en (b2 + j)) (h8 : ∀ j, j < 200 → V'.par (b2 + j) = V.par (b2 + j)) (h9 : ∀ i, i < 4 → V'.pol (4 * d2 + i) = V.pol (4 * d2 + i)) (h10 : V'.tdy d2 = V.tdy d2) (h11 : V'.dys d2 = V.dys d2) : HALF V V' b2 d2 :=
  ⟨h1, fun j hj => ⟨h2 j hj, h3 j hj, h4 j hj, h5 j hj, h6 j hj, h7 j hj, h8 j hj⟩, h9, h10, h11⟩
theorem vo {α : Type} {f : Nat → α} {b b2 d d2 k j : Nat} {v : α} (hb : b = 200 * d) (hb2 : b2 = 200 * d2) (hd : d ≠ d2) (hk : k < 200) (hj : j < 200) : va_up f (b + k) v (b2 + j) = f (b2 + j) := va_up_ne _ _ (by omega)
theorem ps_oth {en : Nat → Nat} {n z : Nat} : ∀ (k i : Nat) (g : Nat → Nat) (a : Nat), (z < i ∨ i + k ≤ z) → (psF en n i k g a).1 z = g z
  | 0, _, _, _, _ => rfl
  | k + 1, i, g, a, h => by
    simp only [psF]
    split
    · rw [ps_oth k (i + 1) _ _ (by omega), va_up_ne _ _ (by omega)]
    · rw [ps_oth k (i + 1) _ _ (by omega), va_up_ne _ _ (by omega)]
theorem hoF_oth {V : MS} {r w z : Nat} : ∀ (k i : Nat) (g : Nat → Nat) (a : Nat), (z < i ∨ i + k ≤ z) → (hoF V r w i k g a).1 z = g z
  | 0, _, _, _, _ => rfl
  | k + 1, i, g, a, h => by
    simp only [hoF]
    split
    · rw [hoF_oth k (i + 1) _ _ (by omega), va_up_ne _ _ (by omega)]
    · rw [hoF_oth k (i + 1) _ _ (by omega)]
theorem HALF.make {V : MS} {b d b2 d2 p n w v : Nat} {q0 : Option Nat} (hb : b = 200 * d) (hb2 : b2 = 200 * d2) (hd : d2 ≠ d) (hm : V.mn d < 200) : HALF V (vMake V b d p n q0 w v) b2 d2 := by
  have hd' : d ≠ d2 := fun e => hd e.symm
  exact half_rows (va_up_ne _ _ hd) (fun j hj => vo hb hb2 hd' hm hj) (fun j hj => vo hb hb2 hd' hm hj) (fun j hj => vo hb hb2 hd' hm hj) (fun j hj => vo hb hb2 hd' hm hj) (fun j hj => vo hb hb2 hd' hm hj) (fun j hj => vo hb hb2 hd' hm hj) (fun j hj => vo hb hb2 hd' hm hj) (fun _ _ => rfl) rfl rfl
theorem HALF.ef {S : LDS} {V : MS} {b d b2 d2 : Nat} (h : SIM S V b d) (hO : LOK S) (hd : d < 2) (hb : b = 200 * d) (hb2 : b2 = 200 * d2) (hd2 : d2 ≠ d) (hdd : d2 < 2) : ∀ {e : Nat × Nat × Nat × Nat}, acX S e → HALF V (efV V b d e) b2 d2
  | (0, e1, e2, e3), a => a.elim
  | (1, e1, e2, e3), a => by
    show HALF V (vMake V b d e1 e2 none e3 1) b2 d2
    exact HALF.make hb hb2 hd2 (by rw [h.mn]; exact a.1)
  | (2, e1, e2, e3), a => by
    obtain ⟨q1, q2, q3, q4, q5, q6⟩ := askN_0 (show askN S.X (cof S.X) S.pol (bkX S.X) e1 e2 = 0 from a.1)
    have ey := askY_eq (S := S) (u := decide (e3 = 1)) q6
    have ec := h.chE (u := decide (e3 = 1)) (n := e2) hO.2 hd hb q1.1
    have hn := hO.2.ok.n
    show HALF V (ef2 V b d e1 e2 (decide (e3 = 1))) b2 d2
    unfold ef2
    rw [ec.trans ey]
    exact HALF.make (V := vFn V V.tc (boI (some (askY S (bkX S.X) e1 e2 (decide (e3 = 1))))) (blI (some (askY S (bkX S.X) e1 e2 (decide (e3 = 1)))))) hb hb2 hd2 (show V.mn d < 200 by rw [h.mn]; omega)
  | (3, e1, e2, e3), a => by
    obtain ⟨q1, q2⟩ := rsvN_0 (show rsvN S.X (cof S.X) e1 e2 e3 = 0 from a.1)
    have hn := hO.2.ok.n
    show HALF V (vMake V b d e2 e3 (some (b + e1)) (V.hol (b + e1)) 2) b2 d2
    exact HALF.make hb hb2 hd2 (by rw [h.mn]; omega)
  | (4, e1, e2, e3), a => by
    have hn := hO.2.ok.n
    have hx : e1 < S.X.n := a.1.1
    exact half_rows rfl (fun _ _ => rfl) (fun _ _ => rfl) (fun _ _ => rfl) (fun _ _ => rfl) (fun j hj => vo hb hb2 (Ne.symm hd2) (show e1 < 200 by omega) hj) (fun _ _ => rfl) (fun _ _ => rfl) (fun _ _ => rfl) rfl rfl
  | (5, e1, e2, e3), a => by
    have hn := hO.2.ok.n
    have hx : e1 < S.X.n := a.1.1
    show HALF V (vRet V b d e1) b2 d2
    unfold vRet
    split
    · exact half_rows rfl (fun _ _ => rfl) (fun _ _ => rfl) (fun _ _ => rfl) (fun _ _ => rfl) (fun j hj => vo hb hb2 (Ne.symm hd2) (show e1 < 200 by omega) hj) (fun j hj => vo hb hb2 (Ne.symm hd2) (show e1 < 200 by omega) hj) (fun _ _ => rfl) (fun _ _ => rfl) rfl rfl
    · exact half_rows rfl (fun _ _ => rfl) (fun _ _ => rfl) (fun _ _ => rfl) (fun _ _ => rfl) (fun j hj => vo hb hb2 (Ne.symm hd2) (show e1 < 200 by omega) hj) (fun j hj => vo hb hb2 (Ne.symm hd2) (show e1 < 200 by omega) hj) (fun _ _ => rfl) (fun _ _ => rfl) rfl rfl
  | (6, e1, e2, e3), a => by
    obtain ⟨⟨hx, hs⟩, q, hq, hl, hf⟩ := groN_1 (show groN S.X (cof S.X) e1 = 0 from a.1)
    have hn := hO.2.ok.n
    exact half_rows rfl (fun j hj => vo hb hb2 (Ne.symm hd2) (show e1 < 200 by omega) hj) (fun j hj => vo hb hb2 (Ne.symm hd2) (show e1 < 200 by omega) hj) (fun _ _ => rfl) (fun _ _ => rfl) (fun _ _ => rfl) (fun _ _ => rfl) (fun _ _ => rfl) (fun _ _ => rfl) rfl rfl
  | (7, e1, e2, e3), a => by
    obtain ⟨⟨⟨hx, hs⟩, hq⟩, hl, hf⟩ := shrN_1 (show shrN S.X (cof S.X) e1 (decide (e2 = 1)) = 0 from a.1)
    have hn := hO.2.ok.n
    show HALF V (vShr V (b + e1) (decide (e2 = 1))) b2 d2
    cases decide (e2 = 1) with
    | true => exact half_rows rfl (fun j hj => vo hb hb2 (Ne.symm hd2) (show e1 < 200 by omega) hj) (fun j hj => vo hb hb2 (Ne.symm hd2) (show e1 < 200 by omega) hj) (fun _ _ => rfl) (fun _ _ => rfl) (fun _ _ => rfl) (fun _ _ => rfl) (fun _ _ => rfl) (fun _ _ => rfl) rfl rfl
    | false => exact half_rows rfl (fun j hj => vo hb hb2 (Ne.symm hd2) (show e1 < 200 by omega) hj) (fun j hj => vo hb hb2 (Ne.symm hd2) (show e1 < 200 by omega) hj) (fun _ _ => rfl) (fun _ _ => rfl) (fun _ _ => rfl) (fun _ _ => rfl) (fun _ _ => rfl) (fun _ _ => rfl) rfl rfl
  | (8, e1, e2, e3), a => by
    have hn := hO.2.ok.n
    have hx : e1 < S.X.n := a.1.1
    have g := h.rng hd hb (show e1 < 200 by omega)
    refine half_rows rfl (fun _ _ => rfl) (fun _ _ => rfl) (fun _ _ => rfl) (fun j hj => ?_) (fun _ _ => rfl) (fun _ _ => rfl) (fun _ _ => rfl) (fun _ _ => rfl) rfl rfl
    show (hoF V (b + e1) e2 (sbN (b + e1)) (ebN V (b + e1) - sbN (b + e1)) V.hol 0).1 (b2 + j) = _
    rw [g.1, g.2]
    exact hoF_oth _ _ _ _ (by omega)
  | (9, e1, e2, e3), a => by
    have : e1 < 4 := a.1.1
    exact half_rows rfl (fun _ _ => rfl) (fun _ _ => rfl) (fun _ _ => rfl) (fun _ _ => rfl) (fun _ _ => rfl) (fun _ _ => rfl) (fun _ _ => rfl) (fun i hi => va_up_ne _ _ (show 4 * d2 + i ≠ 4 * d + e1 by omega)) rfl rfl
  | (10, e1, e2, e3), a => by
    have hn := hO.2.ok.n
    refine half_rows rfl (fun _ _ => rfl) (fun _ _ => rfl) (fun _ _ => rfl) (fun _ _ => rfl) (fun j hj => ?_) (fun _ _ => rfl) (fun _ _ => rfl) (fun _ _ => rfl) (va_up_ne _ _ hd2) rfl
    show (psF V.en e1 b (V.mn d) V.sta 0).1 (b2 + j) = _
    rw [h.mn]
    exact ps_oth _ _ _ _ (by omega)
  | (11, e1, e2, e3), a => half_rows rfl (fun _ _ => rfl) (fun _ _ => rfl) (fun _ _ => rfl) (fun _ _ => rfl) (fun _ _ => rfl) (fun _ _ => rfl) (fun _ _ => rfl) (fun _ _ => rfl) rfl (va_up_ne _ _ hd2)
  | (_ + 12, e1, e2, e3), a => a.elim
