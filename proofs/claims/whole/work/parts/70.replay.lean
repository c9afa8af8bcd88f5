/-! one contract of carryOut, whatever the entry -/
def agR (S : LDS) (e : Nat × Nat × Nat × Nat) : Int32 := match e.1 with
  | 1 => nI S.X.n
  | 2 => nI S.X.n
  | 3 => nI S.X.n
  | 5 => nI (S.td + S.qd)
  | 6 => nI (S.X.len e.2.1 - 1)
  | 7 => nI (S.X.len e.2.1 + 1)
  | 8 => nI (hov S.X e.2.1 e.2.2.1 0 S.X.n S.X.hol 0).2
  | 10 => nI (bgd e.2.1 0 S.X.n S.X 0).2
  | _ => 0
theorem c_Le_carryOut (l : Launch) (dC : Nat → ClassId) (dI : Nat → Nat → Nat) (sz : Nat) (cI : ClassId) (g : Nat → Nat) (S : LDS) (hO : LOK S) : ∀ (e : Nat × Nat × Nat × Nat) (ha : acX S e), Met l y_Le_carryOut (.code y_Le_carryOut b_Le_carryOut 5 (some .int) :: wG) ({ frames := 5, cells := 0, slots := 0, locals := 140 }) (PcM (dC, dI) [(cI, .int)] (wLs cI g S) [.ref (g 0), .int (nI e.1), .int (nI e.2.1), .int (nI e.2.2.1), .int (nI e.2.2.2)] sz) (QmI (dC, dI) [(cI, .int)] (wLs cI g S) (wLs cI g (agX S e)) sz (agR S e)) 0 0 (va_A (wLs cI g S) sz)
  | (0, e1, e2, e3), ha => ha.elim
  | (1, e1, e2, e3), ha => c_Le_carryOut_1 l dC dI sz cI g S.X S.pol S.td S.qd S.wk ha.1 e1 e2 e3
  | (2, e1, e2, e3), ha => by
    obtain ⟨q1, q2, q3, q4, q5, q6⟩ := askN_0 (show askN S.X (cof S.X) S.pol (bkX S.X) e1 e2 = 0 from ha.1)
    have hn := hO.2.ok.n
    have h3 : e3 < 2 := ha.2
    have C := hO.2.ch q1.1
    have z := c_Le_carryOut_2 l dC dI sz cI g S.X S.pol S.td S.qd S.wk hO.1.1 (by omega) e1 e2 q1.1 (by omega) q3 (cof S.X) C.1 (C.len hn) (fun c q => ((C.2.2 c).mp q).1) (bkX S.X) (hO.2.bk q1.1) (hO.2.bkl q1.1) (hO.2.hst e1) (hO.2.bkb q1.1) (decide (e3 = 1)) _ (askY_eq (S := S) q6)
    have eb : bi (decide (e3 = 1)) = nI e3 := by
      rcases (show e3 = 0 ∨ e3 = 1 by omega) with rfl | rfl <;> rfl
    rw [eb] at z
    exact z
  | (3, e1, e2, e3), ha => by
    obtain ⟨q1, q2, q3, q4⟩ := rsvN_0 (show rsvN S.X (cof S.X) e1 e2 e3 = 0 from ha.1)
    have hn := hO.2.ok.n
    have C := hO.2.ch q1.1
    exact c_Le_carryOut_3 l dC dI sz cI g S.X S.pol S.td S.qd S.wk hO.1.1 (by omega) e1 e2 e3 q1.1 ha.2 (by omega) q3 (cof S.X) C.1 (C.len hn) (fun c q => ((C.2.2 c).mp q).1)
  | (4, e1, e2, e3), ha => by
    have hn := hO.2.ok.n
    obtain ⟨⟨q1, q2⟩, q3, q4⟩ := ha
    simp only at q1 q3 q4
    subst q3; subst q4
    exact c_Le_carryOut_4 l dC dI sz cI g S.X S.pol S.td S.qd S.wk e1 (by omega)
  | (5, e1, e2, e3), ha => by
    have hn := hO.2.ok.n
    obtain ⟨⟨q1, q2⟩, q3, q4⟩ := ha
    simp only at q1 q3 q4
    subst q3; subst q4
    exact c_Le_carryOut_5 l dC dI sz cI g S.X S.pol S.td S.qd S.wk hO.1.1 ⟨hO.1.2.2.1, hO.1.2.2.2⟩ e1 (by omega) (cof S.X ((S.X.par e1).getD 0)) (hO.2.mrC q1) (hO.2.mrL q1)
  | (6, e1, e2, e3), ha => by
    have hn := hO.2.ok.n
    obtain ⟨q1, q3, q4⟩ := ha
    simp only at q1 q3 q4
    subst q3; subst q4
    have q2 := groN_0 q1
    exact c_Le_carryOut_6 l dC dI sz cI g S.X S.pol S.td S.qd S.wk hO.1.1 e1 (by omega) (by omega)
  | (7, e1, e2, e3), ha => by
    have hn := hO.2.ok.n
    obtain ⟨q1, q3, q4⟩ := ha
    simp only at q1 q3 q4
    subst q4
    have q2 := shrN_0 q1
    have z := c_Le_carryOut_7 l dC dI sz cI g S.X S.pol S.td S.qd S.wk hO.1.1 e1 (by omega) (by omega) (decide (e2 = 1))
    have eb : bi (decide (e2 = 1)) = nI e2 := by
      rcases (show e2 = 0 ∨ e2 = 1 by omega) with rfl | rfl <;> rfl
    rw [eb] at z
    exact z
  | (8, e1, e2, e3), ha => by
    have hn := hO.2.ok.n
    obtain ⟨⟨q1, q2, q3⟩, q4⟩ := ha
    simp only at q1 q2 q4
    subst q4
    exact c_Le_carryOut_8 l dC dI sz cI g S.X S.pol S.td S.qd S.wk hO.1.1 e1 (by omega) e2 (by omega)
  | (9, e1, e2, e3), ha => by
    obtain ⟨⟨q1, q2⟩, q4⟩ := ha
    simp only at q1 q4
    subst q4
    exact c_Le_carryOut_9 l dC dI sz cI g S.X S.pol S.td S.qd S.wk e1 e2 q1
  | (10, e1, e2, e3), ha => by
    obtain ⟨⟨q1, q2⟩, q3, q4⟩ := ha
    simp only at q2 q3 q4
    subst q3; subst q4
    exact c_Le_carryOut_10 l dC dI sz cI g S.X S.pol S.td S.qd S.wk hO.2 e1 q2
  | (11, e1, e2, e3), ha => by
    obtain ⟨q1, q3, q4⟩ := ha
    simp only at q3 q4
    subst q3; subst q4
    exact c_Le_carryOut_11 l dC dI sz cI g S.X S.pol S.td S.qd S.wk e1
  | (_ + 12, e1, e2, e3), ha => ha.elim
set_option maxHeartbeats 4000000 in
set_option maxRecDepth 100000 in
theorem c_PR_replay (l : Launch) (hlt : l.stackTraces = false) (dC : Nat → ClassId) (dI : Nat → Nat → Nat) (sz : Nat) (cI : ClassId) (o : Nat) (g : Nat → Nat) (S : LDS) (g2 : Nat → Nat) (S2 : LDS) (jh ja : Nat) (pt : Nat → Int32) (jn : Nat) (hS9 : LDok S) (hjn : jn ≤ 300) (hS2 : LOK S2) (k : Nat) (hk0 : k < 4294967296) (es : List (Nat × Nat × Nat × Nat)) (hes : k ≤ jn → es.length = k ∧ acAll (lClr S2) es ∧ ∀ j x, es[j]? = some x → ptOK pt j x) : vx_Met l y_PR_replay (.code y_PR_replay b_PR_replay 3 (some .int) :: wG) ({ frames := 8, cells := 1, slots := 6, locals := 200 }) (PcX (dC, dI) [(cI, .int)] (wPR cI o g S g2 S2 jh ja pt jn) [.ref o, .int (nI k)] sz) (QpI (dC, dI) cI o g g2 jh ja (wPR cI o g S g2 S2 jh ja pt jn) sz (fun r9 u9 => k ≤ jn ∧ r9 = nI (agAll (lClr S2) es).X.n ∧ u9 = (S, agAll (lClr S2) es, pt, jn))) (XCu (dC, dI) cI o g g2 jh ja (wPR cI o g S g2 S2 jh ja pt jn) sz (fun E9 u9 => E9 = "java/lang/IllegalArgumentException" ∧ ¬ k ≤ jn ∧ u9 = (S, S2, pt, jn))) 1 6 (va_A (wPR cI o g S g2 S2 jh ja pt jn) sz) := by
  refine vx_ofW (cc := b_PR_replay) (maxL := 3) (ret := (some .int)) (by decide) rfl ?_
  intro pg eg s mg ag bg meth cg s₁ B hml hne hv
  obtain ⟨rfl, hsz, hP, hK, hD0, hN, hX0⟩ := hv
  have hx := B.exec
  have hb := B.bytes
  have hr := B.returns
  have hlocks := B.notSynchronized
  have hts : ∀ w9 ∈ wG, w9.before ([.ref o, .int (nI k)] : List Value).toArray s = true := fun w9 h9 => atoms_spec (ws := (.code y_PR_replay b_PR_replay 3 (some .int) :: wG)) B.pre w9 (List.mem_cons_of_mem _ h9)
  have hown : s.vm.findClass "PrefixRegistry" = some mg.cls := findClass_of_methodNamed B.named
  subst hsz
  have hD := hD0.self (sz := s.heap.size)
  unfold QpI XCu
  generalize hAe : va_A (wPR cI o g S g2 S2 jh ja pt jn) s.heap.size = A at hD hX0 ⊢
  have hA : ∀ q : Nat, s.heap.size ≤ q → A q := fun q h => by rw [← hAe]; exact Or.inr h
  have hS : va_S A s.heap s.heap [] := va_S.rf
  have hU : ∀ q : Nat, q < s.heap.size → s.heap[q]? = s.heap[q]? := fun q _ => rfl
  have hl := lv_entry ([.ref o, .int (nI k)]) (n := 3) (Nat.le_of_ble_eq_true rfl)
  rw [lg_entry_eq]
  generalize (lg_sl ([.ref o, .int (nI k)]) ++ List.replicate (3 - (lg_sl ([.ref o, .int (nI k)])).length) Slot.unset).toArray = ls at hl ⊢
  replace hl : lv_has ls 3 [(0, .ref o), (1, .int (nI k))] := hl
  replace hP : va_P (dC, dI) classes (wPR cI o g S g2 S2 jh ja pt jn) s.heap := hP
  replace hD : va_D A (wPR cI o g S g2 S2 jh ja pt jn) := hD
  refine lv_iload_n hx hb d_PR_replay_0 rfl (lv_at hl 1 rfl) ?_
  refine lv_if_lt hx hb d_PR_replay_1 rfl (fun h1 => ?_) (fun h1 => ?_)
  · have h1 := (k_lt0 hk0).mp h1
    exact vx_throw0 (cls := "java/lang/IllegalArgumentException") (names := nmX) (mc := 1) (ms := 6) hx hb hlt hown (by decide +kernel) (by decide +kernel) (hts _ kw_221) (hts _ kw_10) (x_hat hts hX0 xg_36 xb_36) xo_36 hX0.1 hX0.2.1 hS (hl.1.trans hml.symm) d_PR_replay_15 d_PR_replay_18 d_PR_replay_19 d_PR_replay_22 (fun x h => (hne x h).elim) (Nat.le_of_ble_eq_true rfl) (Nat.le_of_ble_eq_true rfl) (Nat.le_of_ble_eq_true rfl) (Nat.le_of_ble_eq_true rfl) hlocks (fun t hv9 hz9 hk9 => ⟨(S, S2, pt, jn), trivial, ⟨⟨rfl, by omega, rfl⟩, (show va_P (dC, dI) classes (wUS cI o g g2 jh ja (S, S2, pt, jn)) t.heap from hP.kept (fun k q hq => hk9 q.1 ((hP k q hq).lt))), va_K.moved hv9 hK, (show va_D A (wUS cI o g g2 jh ja (S, S2, pt, jn)) from hD)⟩, Nat.le_trans hS.1 hz9, fun q h1 h2 => (hk9 q (Nat.lt_of_lt_of_le h1 hS.1)).trans (hS.2.1 q h1 h2)⟩) hS.2.2 (Nat.le_of_ble_eq_true rfl) (Nat.le_of_ble_eq_true rfl)
  have h1 := mt (k_lt0 hk0).mpr h1
  refine lv_iload_n hx hb d_PR_replay_4 rfl (lv_at hl 1 rfl) ?_
  refine lv_aload_n hx hb d_PR_replay_5 rfl (lv_at hl 0 rfl) ?_
  refine va_get (D := (dC, dI)) (ci := 4) (v := .ref jh) (C := R_PR) (T := F_PR) (N := 3) hx hb hts u_PR hown hK hP 0 rfl rfl 2 (by decide) (hts _ kw_148) (fun _ h9 => h9) rfl d_PR_replay_6 ?_
  refine va_getN (D := (dC, dI)) (ci := 1) (v := .int (nI jn)) (C := R_Jn) (T := F_Jn) (N := 2) hx hb hts u_Jn hown hK hP 27 rfl rfl 1 (by decide) (va_Nw.use rfl (hN.at 140 nw_140 rfl)) (fun _ h9 => h9) rfl d_PR_replay_9 ?_
  refine lv_icmp_le hx hb d_PR_replay_12 rfl (fun h12 => ?_) (fun h12 => ?_)
  · have h12 := (k_le hk0 (by omega)).mp h12
    refine lv_aload_n hx hb d_PR_replay_23 rfl (lv_at hl 0 rfl) ?_
    refine va_get (D := (dC, dI)) (ci := 4) (v := .ref (g2 0)) (C := R_PR) (T := F_PR) (N := 3) hx hb hts u_PR hown hK hP 0 rfl rfl 1 (by decide) (hts _ kw_147) (fun _ h9 => h9) rfl d_PR_replay_24 ?_
    have hPc := hP.sub (ws' := (wLe cI g2 S2.X S2.pol S2.td S2.qd S2.wk)) [14, 15, 16, 17, 18, 19, 20, 21, 22, 23, 24, 25, 26] rfl
    have hDc := hD.sub (ws' := (wLe cI g2 S2.X S2.pol S2.td S2.qd S2.wk)) [14, 15, 16, 17, 18, 19, 20, 21, 22, 23, 24, 25, 26] (by decide) rfl
    have hFc := va_free (wc := (wLe cI g2 S2.X S2.pol S2.td S2.qd S2.wk)) hD hS hA [14, 15, 16, 17, 18, 19, 20, 21, 22, 23, 24, 25, 26] rfl
    refine va_callv (va_runV (b := (g2 0)) (As := []) (rest := []) ⟨hx, hb, hml, hown, hts⟩ (c_Le_forgetAll l dC dI s.heap.size cI g2 S2.X S2.pol S2.td S2.qd S2.wk) (cwV 0 hts (gV kw_704 kw_705 kw_706 kw_2 kw_707) rfl rfl rfl (by decide +kernel) ⟨Nat.le_of_ble_eq_true rfl, Nat.le_of_ble_eq_true rfl⟩) ⟨PcM.blind, va_recv (q0 := 0) hK hPc rfl rfl, PcM.use hPc hK hN hDc⟩ rfl rfl hl.1 rfl (lv_room (Nat.le_of_ble_eq_true rfl)) d_PR_replay_27 ⟨Nat.le_of_ble_eq_true rfl, Nat.le_of_ble_eq_true rfl⟩) hS (fun q _ h => hFc q h) hFc (fun u9 H9 H1 locs hH9 hv9 hp9 hB hz1 hk1 hS => ?_)
    obtain ⟨hP1, hK1, hD1⟩ := hB
    rw [hH9] at hP1
    obtain ⟨hP, hD⟩ := va_join (wr := [(o, .inr (4, [.ref (g 0), .ref (g2 0), .ref jh])), ((g 0), .inr (2, [.ref (g 3), .ref (g 1), .ref (g 2), .int (nI S.td), .int (nI S.qd)])), ((g 1), .inr (0, [.ref (g 3), .long S.wk.at, .long S.wk.en, .int S.wk.ch, .long S.wk.sa, .int S.wk.le])), ((g 2), .inl (cI, 4, .inl (fun z9 => nI (S.pol z9)))), ((g 3), .inr (3, [.ref (g 4), .ref (g 5), .ref (g 6), .ref (g 7), .ref (g 8), .ref (g 9), .ref (g 10), .ref (g 11), .ref (g 12), .int (nI S.X.n)])), ((g 4), .inl (cI, 200, .inl (fun z9 => nI (S.X.pre z9)))), ((g 5), .inl (cI, 200, .inl (fun z9 => nI (S.X.len z9)))), ((g 6), .inl (cI, 200, .inl (fun z9 => pI (S.X.par z9)))), ((g 7), .inl (cI, 200, .inl (fun z9 => nI (S.X.lev z9)))), ((g 8), .inl (cI, 200, .inl (fun z9 => nI (S.X.hol z9)))), ((g 9), .inl (cI, 200, .inl (fun z9 => nI (S.X.sta z9)))), ((g 10), .inl (cI, 200, .inl (fun z9 => nI (S.X.en z9)))), ((g 11), .inl (cI, 200, .inl (fun z9 => pI (S.X.fc z9)))), ((g 12), .inl (cI, 200, .inl (fun z9 => pI (S.X.nx z9)))), (jh, .inr (1, [.ref ja, .int (nI jn)])), (ja, .inl (cI, 1200, .inl pt))]) (w1 := (wLe cI g2 (rClr S2.X) (pol0 S2.pol) 0 0 S2.wk)) hP hD [14, 15, 16, 17, 18, 19, 20, 21, 22, 23, 24, 25, 26] [0, 1, 2, 3, 4, 5, 6, 7, 8, 9, 10, 11, 12, 13, 27, 28] rfl rfl (by decide) (by decide) hk1 hFc hP1 hD1
    clear hPc hDc hFc hP1 hD1 hK1 hk1 hz1 hv9 hH9
    generalize H1 = H at hP hS ⊢
    replace hP : va_P (dC, dI) classes [(o, .inr (4, [.ref (g 0), .ref (g2 0), .ref jh])), ((g 0), .inr (2, [.ref (g 3), .ref (g 1), .ref (g 2), .int (nI S.td), .int (nI S.qd)])), ((g 1), .inr (0, [.ref (g 3), .long S.wk.at, .long S.wk.en, .int S.wk.ch, .long S.wk.sa, .int S.wk.le])), ((g 2), .inl (cI, 4, .inl (fun z9 => nI (S.pol z9)))), ((g 3), .inr (3, [.ref (g 4), .ref (g 5), .ref (g 6), .ref (g 7), .ref (g 8), .ref (g 9), .ref (g 10), .ref (g 11), .ref (g 12), .int (nI S.X.n)])), ((g 4), .inl (cI, 200, .inl (fun z9 => nI (S.X.pre z9)))), ((g 5), .inl (cI, 200, .inl (fun z9 => nI (S.X.len z9)))), ((g 6), .inl (cI, 200, .inl (fun z9 => pI (S.X.par z9)))), ((g 7), .inl (cI, 200, .inl (fun z9 => nI (S.X.lev z9)))), ((g 8), .inl (cI, 200, .inl (fun z9 => nI (S.X.hol z9)))), ((g 9), .inl (cI, 200, .inl (fun z9 => nI (S.X.sta z9)))), ((g 10), .inl (cI, 200, .inl (fun z9 => nI (S.X.en z9)))), ((g 11), .inl (cI, 200, .inl (fun z9 => pI (S.X.fc z9)))), ((g 12), .inl (cI, 200, .inl (fun z9 => pI (S.X.nx z9)))), ((g2 0), .inr (2, [.ref (g2 3), .ref (g2 1), .ref (g2 2), .int (nI 0), .int (nI 0)])), ((g2 1), .inr (0, [.ref (g2 3), .long S2.wk.at, .long S2.wk.en, .int S2.wk.ch, .long S2.wk.sa, .int S2.wk.le])), ((g2 2), .inl (cI, 4, .inl (fun z9 => nI ((pol0 S2.pol) z9)))), ((g2 3), .inr (3, [.ref (g2 4), .ref (g2 5), .ref (g2 6), .ref (g2 7), .ref (g2 8), .ref (g2 9), .ref (g2 10), .ref (g2 11), .ref (g2 12), .int (nI (rClr S2.X).n)])), ((g2 4), .inl (cI, 200, .inl (fun z9 => nI ((rClr S2.X).pre z9)))), ((g2 5), .inl (cI, 200, .inl (fun z9 => nI ((rClr S2.X).len z9)))), ((g2 6), .inl (cI, 200, .inl (fun z9 => pI ((rClr S2.X).par z9)))), ((g2 7), .inl (cI, 200, .inl (fun z9 => nI ((rClr S2.X).lev z9)))), ((g2 8), .inl (cI, 200, .inl (fun z9 => nI ((rClr S2.X).hol z9)))), ((g2 9), .inl (cI, 200, .inl (fun z9 => nI ((rClr S2.X).sta z9)))), ((g2 10), .inl (cI, 200, .inl (fun z9 => nI ((rClr S2.X).en z9)))), ((g2 11), .inl (cI, 200, .inl (fun z9 => pI ((rClr S2.X).fc z9)))), ((g2 12), .inl (cI, 200, .inl (fun z9 => pI ((rClr S2.X).nx z9)))), (jh, .inr (1, [.ref ja, .int (nI jn)])), (ja, .inl (cI, 1200, .inl pt))] H := hP.sub (ws' := [(o, .inr (4, [.ref (g 0), .ref (g2 0), .ref jh])), ((g 0), .inr (2, [.ref (g 3), .ref (g 1), .ref (g 2), .int (nI S.td), .int (nI S.qd)])), ((g 1), .inr (0, [.ref (g 3), .long S.wk.at, .long S.wk.en, .int S.wk.ch, .long S.wk.sa, .int S.wk.le])), ((g 2), .inl (cI, 4, .inl (fun z9 => nI (S.pol z9)))), ((g 3), .inr (3, [.ref (g 4), .ref (g 5), .ref (g 6), .ref (g 7), .ref (g 8), .ref (g 9), .ref (g 10), .ref (g 11), .ref (g 12), .int (nI S.X.n)])), ((g 4), .inl (cI, 200, .inl (fun z9 => nI (S.X.pre z9)))), ((g 5), .inl (cI, 200, .inl (fun z9 => nI (S.X.len z9)))), ((g 6), .inl (cI, 200, .inl (fun z9 => pI (S.X.par z9)))), ((g 7), .inl (cI, 200, .inl (fun z9 => nI (S.X.lev z9)))), ((g 8), .inl (cI, 200, .inl (fun z9 => nI (S.X.hol z9)))), ((g 9), .inl (cI, 200, .inl (fun z9 => nI (S.X.sta z9)))), ((g 10), .inl (cI, 200, .inl (fun z9 => nI (S.X.en z9)))), ((g 11), .inl (cI, 200, .inl (fun z9 => pI (S.X.fc z9)))), ((g 12), .inl (cI, 200, .inl (fun z9 => pI (S.X.nx z9)))), ((g2 0), .inr (2, [.ref (g2 3), .ref (g2 1), .ref (g2 2), .int (nI 0), .int (nI 0)])), ((g2 1), .inr (0, [.ref (g2 3), .long S2.wk.at, .long S2.wk.en, .int S2.wk.ch, .long S2.wk.sa, .int S2.wk.le])), ((g2 2), .inl (cI, 4, .inl (fun z9 => nI ((pol0 S2.pol) z9)))), ((g2 3), .inr (3, [.ref (g2 4), .ref (g2 5), .ref (g2 6), .ref (g2 7), .ref (g2 8), .ref (g2 9), .ref (g2 10), .ref (g2 11), .ref (g2 12), .int (nI (rClr S2.X).n)])), ((g2 4), .inl (cI, 200, .inl (fun z9 => nI ((rClr S2.X).pre z9)))), ((g2 5), .inl (cI, 200, .inl (fun z9 => nI ((rClr S2.X).len z9)))), ((g2 6), .inl (cI, 200, .inl (fun z9 => pI ((rClr S2.X).par z9)))), ((g2 7), .inl (cI, 200, .inl (fun z9 => nI ((rClr S2.X).lev z9)))), ((g2 8), .inl (cI, 200, .inl (fun z9 => nI ((rClr S2.X).hol z9)))), ((g2 9), .inl (cI, 200, .inl (fun z9 => nI ((rClr S2.X).sta z9)))), ((g2 10), .inl (cI, 200, .inl (fun z9 => nI ((rClr S2.X).en z9)))), ((g2 11), .inl (cI, 200, .inl (fun z9 => pI ((rClr S2.X).fc z9)))), ((g2 12), .inl (cI, 200, .inl (fun z9 => pI ((rClr S2.X).nx z9)))), (jh, .inr (1, [.ref ja, .int (nI jn)])), (ja, .inl (cI, 1200, .inl pt))]) [0, 1, 2, 3, 4, 5, 6, 7, 8, 9, 10, 11, 12, 13, 16, 17, 18, 19, 20, 21, 22, 23, 24, 25, 26, 27, 28, 14, 15] rfl
    replace hD : va_D A [(o, .inr (4, [.ref (g 0), .ref (g2 0), .ref jh])), ((g 0), .inr (2, [.ref (g 3), .ref (g 1), .ref (g 2), .int (nI S.td), .int (nI S.qd)])), ((g 1), .inr (0, [.ref (g 3), .long S.wk.at, .long S.wk.en, .int S.wk.ch, .long S.wk.sa, .int S.wk.le])), ((g 2), .inl (cI, 4, .inl (fun z9 => nI (S.pol z9)))), ((g 3), .inr (3, [.ref (g 4), .ref (g 5), .ref (g 6), .ref (g 7), .ref (g 8), .ref (g 9), .ref (g 10), .ref (g 11), .ref (g 12), .int (nI S.X.n)])), ((g 4), .inl (cI, 200, .inl (fun z9 => nI (S.X.pre z9)))), ((g 5), .inl (cI, 200, .inl (fun z9 => nI (S.X.len z9)))), ((g 6), .inl (cI, 200, .inl (fun z9 => pI (S.X.par z9)))), ((g 7), .inl (cI, 200, .inl (fun z9 => nI (S.X.lev z9)))), ((g 8), .inl (cI, 200, .inl (fun z9 => nI (S.X.hol z9)))), ((g 9), .inl (cI, 200, .inl (fun z9 => nI (S.X.sta z9)))), ((g 10), .inl (cI, 200, .inl (fun z9 => nI (S.X.en z9)))), ((g 11), .inl (cI, 200, .inl (fun z9 => pI (S.X.fc z9)))), ((g 12), .inl (cI, 200, .inl (fun z9 => pI (S.X.nx z9)))), ((g2 0), .inr (2, [.ref (g2 3), .ref (g2 1), .ref (g2 2), .int (nI 0), .int (nI 0)])), ((g2 1), .inr (0, [.ref (g2 3), .long S2.wk.at, .long S2.wk.en, .int S2.wk.ch, .long S2.wk.sa, .int S2.wk.le])), ((g2 2), .inl (cI, 4, .inl (fun z9 => nI ((pol0 S2.pol) z9)))), ((g2 3), .inr (3, [.ref (g2 4), .ref (g2 5), .ref (g2 6), .ref (g2 7), .ref (g2 8), .ref (g2 9), .ref (g2 10), .ref (g2 11), .ref (g2 12), .int (nI (rClr S2.X).n)])), ((g2 4), .inl (cI, 200, .inl (fun z9 => nI ((rClr S2.X).pre z9)))), ((g2 5), .inl (cI, 200, .inl (fun z9 => nI ((rClr S2.X).len z9)))), ((g2 6), .inl (cI, 200, .inl (fun z9 => pI ((rClr S2.X).par z9)))), ((g2 7), .inl (cI, 200, .inl (fun z9 => nI ((rClr S2.X).lev z9)))), ((g2 8), .inl (cI, 200, .inl (fun z9 => nI ((rClr S2.X).hol z9)))), ((g2 9), .inl (cI, 200, .inl (fun z9 => nI ((rClr S2.X).sta z9)))), ((g2 10), .inl (cI, 200, .inl (fun z9 => nI ((rClr S2.X).en z9)))), ((g2 11), .inl (cI, 200, .inl (fun z9 => pI ((rClr S2.X).fc z9)))), ((g2 12), .inl (cI, 200, .inl (fun z9 => pI ((rClr S2.X).nx z9)))), (jh, .inr (1, [.ref ja, .int (nI jn)])), (ja, .inl (cI, 1200, .inl pt))] := hD.sub (ws' := [(o, .inr (4, [.ref (g 0), .ref (g2 0), .ref jh])), ((g 0), .inr (2, [.ref (g 3), .ref (g 1), .ref (g 2), .int (nI S.td), .int (nI S.qd)])), ((g 1), .inr (0, [.ref (g 3), .long S.wk.at, .long S.wk.en, .int S.wk.ch, .long S.wk.sa, .int S.wk.le])), ((g 2), .inl (cI, 4, .inl (fun z9 => nI (S.pol z9)))), ((g 3), .inr (3, [.ref (g 4), .ref (g 5), .ref (g 6), .ref (g 7), .ref (g 8), .ref (g 9), .ref (g 10), .ref (g 11), .ref (g 12), .int (nI S.X.n)])), ((g 4), .inl (cI, 200, .inl (fun z9 => nI (S.X.pre z9)))), ((g 5), .inl (cI, 200, .inl (fun z9 => nI (S.X.len z9)))), ((g 6), .inl (cI, 200, .inl (fun z9 => pI (S.X.par z9)))), ((g 7), .inl (cI, 200, .inl (fun z9 => nI (S.X.lev z9)))), ((g 8), .inl (cI, 200, .inl (fun z9 => nI (S.X.hol z9)))), ((g 9), .inl (cI, 200, .inl (fun z9 => nI (S.X.sta z9)))), ((g 10), .inl (cI, 200, .inl (fun z9 => nI (S.X.en z9)))), ((g 11), .inl (cI, 200, .inl (fun z9 => pI (S.X.fc z9)))), ((g 12), .inl (cI, 200, .inl (fun z9 => pI (S.X.nx z9)))), ((g2 0), .inr (2, [.ref (g2 3), .ref (g2 1), .ref (g2 2), .int (nI 0), .int (nI 0)])), ((g2 1), .inr (0, [.ref (g2 3), .long S2.wk.at, .long S2.wk.en, .int S2.wk.ch, .long S2.wk.sa, .int S2.wk.le])), ((g2 2), .inl (cI, 4, .inl (fun z9 => nI ((pol0 S2.pol) z9)))), ((g2 3), .inr (3, [.ref (g2 4), .ref (g2 5), .ref (g2 6), .ref (g2 7), .ref (g2 8), .ref (g2 9), .ref (g2 10), .ref (g2 11), .ref (g2 12), .int (nI (rClr S2.X).n)])), ((g2 4), .inl (cI, 200, .inl (fun z9 => nI ((rClr S2.X).pre z9)))), ((g2 5), .inl (cI, 200, .inl (fun z9 => nI ((rClr S2.X).len z9)))), ((g2 6), .inl (cI, 200, .inl (fun z9 => pI ((rClr S2.X).par z9)))), ((g2 7), .inl (cI, 200, .inl (fun z9 => nI ((rClr S2.X).lev z9)))), ((g2 8), .inl (cI, 200, .inl (fun z9 => nI ((rClr S2.X).hol z9)))), ((g2 9), .inl (cI, 200, .inl (fun z9 => nI ((rClr S2.X).sta z9)))), ((g2 10), .inl (cI, 200, .inl (fun z9 => nI ((rClr S2.X).en z9)))), ((g2 11), .inl (cI, 200, .inl (fun z9 => pI ((rClr S2.X).fc z9)))), ((g2 12), .inl (cI, 200, .inl (fun z9 => pI ((rClr S2.X).nx z9)))), (jh, .inr (1, [.ref ja, .int (nI jn)])), (ja, .inl (cI, 1200, .inl pt))]) [0, 1, 2, 3, 4, 5, 6, 7, 8, 9, 10, 11, 12, 13, 16, 17, 18, 19, 20, 21, 22, 23, 24, 25, 26, 27, 28, 14, 15] (by decide) rfl
    refine lv_iconst (v := 0) hx hb d_PR_replay_30 (by decide) ?_
    refine lv_istore_n hx hb d_PR_replay_31 rfl hl (by decide) rfl (fun ls hl => ?_)
    replace hl : lv_has ls 3 [(2, .int 0), (0, .ref o), (1, .int (nI k))] := hl
    obtain ⟨T9, hTe⟩ : ∃ T9 : LDS, T9 = lClr S2 := ⟨_, rfl⟩
    obtain ⟨es9, hes0⟩ : ∃ es9 : List (Nat × Nat × Nat × Nat), es9 = es := ⟨_, rfl⟩
    obtain ⟨i, hi0⟩ : ∃ i : Nat, i = 0 := ⟨_, rfl⟩
    have hkn : k ≤ jn := by omega
    have hrp : agAll T9 es9 = agAll (lClr S2) es := by rw [hTe, hes0]
    have hT9 : LOK T9 := by rw [hTe]; exact hS2.clr
    have hac9 : acAll T9 es9 := by rw [hTe, hes0]; exact (hes hkn).2.1
    have hen9 : ∀ j x, es9[j]? = some x → ptOK pt (i + j) x := by intro j x q; rw [hi0, Nat.zero_add]; rw [hes0] at q; exact (hes hkn).2.2 j x q
    have hik : i + es9.length = k := by rw [hi0, hes0, Nat.zero_add]; exact (hes hkn).1
    replace hP : va_P (dC, dI) classes (wPR cI o g S g2 T9 jh ja pt jn) H := by rw [hTe]; exact hP
    replace hD : va_D A (wPR cI o g S g2 T9 jh ja pt jn) := by rw [hTe]; exact hD
    replace hl : lv_has ls 3 [(2, .int (nI i)), (0, .ref o), (1, .int (nI k))] := by subst hi0; exact hl
    clear hTe hes0 hi0
    replace hrp := hrp
    replace hT9 := hT9
    replace hac9 := hac9
    replace hen9 := hen9
    replace hik := hik
    replace hP := hP
    replace hD := hD
    replace hS := hS
    replace hl : lv_has ls 3 [(2, .int (nI i)), (0, .ref o), (1, .int (nI k))] := hl
    induction es9 generalizing i T9 ls H locs with
    | nil =>
      replace hik : i + 0 = k := hik
      refine lv_iload_n hx hb d_PR_replay_32 rfl (lv_at hl 0 rfl) ?_
      refine lv_iload_n hx hb d_PR_replay_33 rfl (lv_at hl 2 rfl) ?_
      refine lv_icmp_ge hx hb d_PR_replay_34 rfl (fun _ => ?_) (fun h9 => absurd (nI_le (by omega) (by omega)) h9)
      refine lv_aload_n hx hb d_PR_replay_87 rfl (lv_at hl 1 rfl) ?_
      refine va_get (D := (dC, dI)) (ci := 4) (v := .ref (g2 0)) (C := R_PR) (T := F_PR) (N := 3) hx hb hts u_PR hown hK hP 0 rfl rfl 1 (by decide) (hts _ kw_147) (fun _ h9 => h9) rfl d_PR_replay_88 ?_
      refine va_getN (D := (dC, dI)) (ci := 2) (v := .ref (g2 3)) (C := R_Le) (T := F_Le) (N := 5) hx hb hts u_Le hown hK hP 14 rfl rfl 0 (by decide) (va_Nw.use rfl (hN.at 113 nw_113 rfl)) (fun _ h9 => h9) rfl d_PR_replay_91 ?_
      refine va_getN (D := (dC, dI)) (ci := 3) (v := .int (nI T9.X.n)) (C := R_Re) (T := F_Re) (N := 10) hx hb hts u_Re hown hK hP 17 rfl rfl 9 (by decide) (va_Nw.use rfl (hN.at 60 nw_60 rfl)) (fun _ h9 => h9) rfl d_PR_replay_94 ?_
      refine vx_ret ?_
      refine W.widen (k := 1) (n := 6) (Nat.le_of_ble_eq_true rfl) (Nat.le_of_ble_eq_true rfl) ?_
      have hP9 : va_P (dC, dI) classes (wUS cI o g g2 jh ja (S, T9, pt, jn)) H := hP
      have hD9 : va_D A (wUS cI o g g2 jh ja (S, T9, pt, jn)) := hD
      exact W.iret (v := (nI T9.X.n)) hx hb hr (fun t ht hW => ⟨⟨(nI T9.X.n), (S, T9, pt, jn), rfl, ⟨by omega, by rw [← hrp]; rfl, by rw [← hrp]; rfl⟩, by rw [ht]; exact hP9, va_K.moved hW.alike hK, hD9⟩, hS.F ht⟩) hS.2.2 d_PR_replay_97
    | cons e9 es9 ih =>
      replace hik : i + (es9.length + 1) = k := hik
      have hp9 := hen9 0 e9 rfl
      replace hp9 : ptOK pt i e9 := hp9
      refine lv_iload_n hx hb d_PR_replay_32 rfl (lv_at hl 0 rfl) ?_
      refine lv_iload_n hx hb d_PR_replay_33 rfl (lv_at hl 2 rfl) ?_
      refine lv_icmp_ge hx hb d_PR_replay_34 rfl (fun h9 => absurd h9 (nI_ge (by omega) (by omega))) (fun _ => ?_)
      refine lv_aload_n hx hb d_PR_replay_37 rfl (lv_at hl 1 rfl) ?_
      refine va_get (D := (dC, dI)) (ci := 4) (v := .ref (g2 0)) (C := R_PR) (T := F_PR) (N := 3) hx hb hts u_PR hown hK hP 0 rfl rfl 1 (by decide) (hts _ kw_147) (fun _ h9 => h9) rfl d_PR_replay_38 ?_
      refine lv_aload_n hx hb d_PR_replay_41 rfl (lv_at hl 1 rfl) ?_
      refine va_get (D := (dC, dI)) (ci := 4) (v := .ref jh) (C := R_PR) (T := F_PR) (N := 3) hx hb hts u_PR hown hK hP 0 rfl rfl 2 (by decide) (hts _ kw_148) (fun _ h9 => h9) rfl d_PR_replay_42 ?_
      refine lv_iload_n hx hb d_PR_replay_45 rfl (lv_at hl 0 rfl) ?_
      refine lv_iconst (v := 0) hx hb d_PR_replay_46 (by decide) ?_
      refine vp_callSi (W.runV (b := jh) (As := [.int (nI i), .int 0]) (rest := [.ref (g2 0)]) ⟨hx, hb, hml, hown, hts⟩ (c_Jn_part l dC dI cI jh ja pt jn hjn i 0 (by omega) (by decide)) (cwV 2 hts (gV kw_693 kw_694 kw_695 kw_5 kw_696) rfl rfl rfl (by decide +kernel) ⟨Nat.le_of_ble_eq_true rfl, Nat.le_of_ble_eq_true rfl⟩) ⟨PcS.blind, va_recv (q0 := 0) hK (hP.sub (ws' := wJn cI jh ja pt jn) [27, 28] rfl) rfl rfl, PcS.use (hP.sub (ws' := wJn cI jh ja pt jn) [27, 28] rfl) hK hN⟩ rfl rfl hl.1 rfl (lv_room (Nat.le_of_ble_eq_true rfl)) d_PR_replay_47 ⟨Nat.zero_le _, Nat.zero_le _⟩) (fun r47 hr47 => ?_)
      obtain rfl : r47 = pt (i * 4 + 0) := hr47
      refine x_topi (y := (nI e9.1)) hp9.1 ?_
      refine lv_aload_n hx hb d_PR_replay_50 rfl (lv_at hl 1 rfl) ?_
      refine va_get (D := (dC, dI)) (ci := 4) (v := .ref jh) (C := R_PR) (T := F_PR) (N := 3) hx hb hts u_PR hown hK hP 0 rfl rfl 2 (by decide) (hts _ kw_148) (fun _ h9 => h9) rfl d_PR_replay_51 ?_
      refine lv_iload_n hx hb d_PR_replay_54 rfl (lv_at hl 0 rfl) ?_
      refine lv_iconst (v := 1) hx hb d_PR_replay_55 (by decide) ?_
      refine vp_callSi (W.runV (b := jh) (As := [.int (nI i), .int 1]) (rest := [.int (nI e9.1), .ref (g2 0)]) ⟨hx, hb, hml, hown, hts⟩ (c_Jn_part l dC dI cI jh ja pt jn hjn i 1 (by omega) (by decide)) (cwV 2 hts (gV kw_693 kw_694 kw_695 kw_5 kw_696) rfl rfl rfl (by decide +kernel) ⟨Nat.le_of_ble_eq_true rfl, Nat.le_of_ble_eq_true rfl⟩) ⟨PcS.blind, va_recv (q0 := 0) hK (hP.sub (ws' := wJn cI jh ja pt jn) [27, 28] rfl) rfl rfl, PcS.use (hP.sub (ws' := wJn cI jh ja pt jn) [27, 28] rfl) hK hN⟩ rfl rfl hl.1 rfl (lv_room (Nat.le_of_ble_eq_true rfl)) d_PR_replay_56 ⟨Nat.zero_le _, Nat.zero_le _⟩) (fun r56 hr56 => ?_)
      obtain rfl : r56 = pt (i * 4 + 1) := hr56
      refine x_topi (y := (nI e9.2.1)) hp9.2.1 ?_
      refine lv_aload_n hx hb d_PR_replay_59 rfl (lv_at hl 1 rfl) ?_
      refine va_get (D := (dC, dI)) (ci := 4) (v := .ref jh) (C := R_PR) (T := F_PR) (N := 3) hx hb hts u_PR hown hK hP 0 rfl rfl 2 (by decide) (hts _ kw_148) (fun _ h9 => h9) rfl d_PR_replay_60 ?_
      refine lv_iload_n hx hb d_PR_replay_63 rfl (lv_at hl 0 rfl) ?_
      refine lv_iconst (v := 2) hx hb d_PR_replay_64 (by decide) ?_
      refine vp_callSi (W.runV (b := jh) (As := [.int (nI i), .int 2]) (rest := [.int (nI e9.2.1), .int (nI e9.1), .ref (g2 0)]) ⟨hx, hb, hml, hown, hts⟩ (c_Jn_part l dC dI cI jh ja pt jn hjn i 2 (by omega) (by decide)) (cwV 2 hts (gV kw_693 kw_694 kw_695 kw_5 kw_696) rfl rfl rfl (by decide +kernel) ⟨Nat.le_of_ble_eq_true rfl, Nat.le_of_ble_eq_true rfl⟩) ⟨PcS.blind, va_recv (q0 := 0) hK (hP.sub (ws' := wJn cI jh ja pt jn) [27, 28] rfl) rfl rfl, PcS.use (hP.sub (ws' := wJn cI jh ja pt jn) [27, 28] rfl) hK hN⟩ rfl rfl hl.1 rfl (lv_room (Nat.le_of_ble_eq_true rfl)) d_PR_replay_65 ⟨Nat.zero_le _, Nat.zero_le _⟩) (fun r65 hr65 => ?_)
      obtain rfl : r65 = pt (i * 4 + 2) := hr65
      refine x_topi (y := (nI e9.2.2.1)) hp9.2.2.1 ?_
      refine lv_aload_n hx hb d_PR_replay_68 rfl (lv_at hl 1 rfl) ?_
      refine va_get (D := (dC, dI)) (ci := 4) (v := .ref jh) (C := R_PR) (T := F_PR) (N := 3) hx hb hts u_PR hown hK hP 0 rfl rfl 2 (by decide) (hts _ kw_148) (fun _ h9 => h9) rfl d_PR_replay_69 ?_
      refine lv_iload_n hx hb d_PR_replay_72 rfl (lv_at hl 0 rfl) ?_
      refine lv_iconst (v := 3) hx hb d_PR_replay_73 (by decide) ?_
      refine vp_callSi (W.runV (b := jh) (As := [.int (nI i), .int 3]) (rest := [.int (nI e9.2.2.1), .int (nI e9.2.1), .int (nI e9.1), .ref (g2 0)]) ⟨hx, hb, hml, hown, hts⟩ (c_Jn_part l dC dI cI jh ja pt jn hjn i 3 (by omega) (by decide)) (cwV 2 hts (gV kw_693 kw_694 kw_695 kw_5 kw_696) rfl rfl rfl (by decide +kernel) ⟨Nat.le_of_ble_eq_true rfl, Nat.le_of_ble_eq_true rfl⟩) ⟨PcS.blind, va_recv (q0 := 0) hK (hP.sub (ws' := wJn cI jh ja pt jn) [27, 28] rfl) rfl rfl, PcS.use (hP.sub (ws' := wJn cI jh ja pt jn) [27, 28] rfl) hK hN⟩ rfl rfl hl.1 rfl (lv_room (Nat.le_of_ble_eq_true rfl)) d_PR_replay_74 ⟨Nat.zero_le _, Nat.zero_le _⟩) (fun r74 hr74 => ?_)
      obtain rfl : r74 = pt (i * 4 + 3) := hr74
      refine x_topi (y := (nI e9.2.2.2)) hp9.2.2.2 ?_
      have hPc := hP.sub (ws' := (wLs cI g2 T9)) [14, 15, 16, 17, 18, 19, 20, 21, 22, 23, 24, 25, 26] rfl
      have hDc := hD.sub (ws' := (wLs cI g2 T9)) [14, 15, 16, 17, 18, 19, 20, 21, 22, 23, 24, 25, 26] (by decide) rfl
      have hFc := va_free (wc := (wLs cI g2 T9)) hD hS hA [14, 15, 16, 17, 18, 19, 20, 21, 22, 23, 24, 25, 26] rfl
      refine va_calli (va_runV (b := (g2 0)) (As := [.int (nI e9.1), .int (nI e9.2.1), .int (nI e9.2.2.1), .int (nI e9.2.2.2)]) (rest := []) ⟨hx, hb, hml, hown, hts⟩ (c_Le_carryOut l dC dI H.size cI g2 T9 hT9 e9 hac9.1) (cwV 4 hts (gV kw_344 kw_345 kw_346 kw_2 kw_347) rfl rfl rfl (by decide +kernel) ⟨Nat.le_of_ble_eq_true rfl, Nat.le_of_ble_eq_true rfl⟩) ⟨PcM.blind, va_recv (q0 := 0) hK hPc rfl rfl, PcM.use hPc hK hN hDc⟩ rfl rfl hl.1 rfl (lv_room (Nat.le_of_ble_eq_true rfl)) d_PR_replay_77 ⟨Nat.le_of_ble_eq_true rfl, Nat.le_of_ble_eq_true rfl⟩) hS (fun q _ h => hFc q h) hFc (fun r77 u9 H9 H1 locs hH9 hv9 hp9 hB hz1 hk1 hS => ?_)
      obtain rfl : r77 = (agR T9 e9) := hp9
      obtain ⟨hP1, hK1, hD1⟩ := hB
      rw [hH9] at hP1
      obtain ⟨hP, hD⟩ := va_join (wr := [(o, .inr (4, [.ref (g 0), .ref (g2 0), .ref jh])), ((g 0), .inr (2, [.ref (g 3), .ref (g 1), .ref (g 2), .int (nI S.td), .int (nI S.qd)])), ((g 1), .inr (0, [.ref (g 3), .long S.wk.at, .long S.wk.en, .int S.wk.ch, .long S.wk.sa, .int S.wk.le])), ((g 2), .inl (cI, 4, .inl (fun z9 => nI (S.pol z9)))), ((g 3), .inr (3, [.ref (g 4), .ref (g 5), .ref (g 6), .ref (g 7), .ref (g 8), .ref (g 9), .ref (g 10), .ref (g 11), .ref (g 12), .int (nI S.X.n)])), ((g 4), .inl (cI, 200, .inl (fun z9 => nI (S.X.pre z9)))), ((g 5), .inl (cI, 200, .inl (fun z9 => nI (S.X.len z9)))), ((g 6), .inl (cI, 200, .inl (fun z9 => pI (S.X.par z9)))), ((g 7), .inl (cI, 200, .inl (fun z9 => nI (S.X.lev z9)))), ((g 8), .inl (cI, 200, .inl (fun z9 => nI (S.X.hol z9)))), ((g 9), .inl (cI, 200, .inl (fun z9 => nI (S.X.sta z9)))), ((g 10), .inl (cI, 200, .inl (fun z9 => nI (S.X.en z9)))), ((g 11), .inl (cI, 200, .inl (fun z9 => pI (S.X.fc z9)))), ((g 12), .inl (cI, 200, .inl (fun z9 => pI (S.X.nx z9)))), (jh, .inr (1, [.ref ja, .int (nI jn)])), (ja, .inl (cI, 1200, .inl pt))]) (w1 := (wLs cI g2 (agX T9 e9))) hP hD [14, 15, 16, 17, 18, 19, 20, 21, 22, 23, 24, 25, 26] [0, 1, 2, 3, 4, 5, 6, 7, 8, 9, 10, 11, 12, 13, 27, 28] rfl rfl (by decide) (by decide) hk1 hFc hP1 hD1
      clear hPc hDc hFc hP1 hD1 hK1 hk1 hz1 hv9 hH9
      generalize H1 = H at hP hS ⊢
      replace hP : va_P (dC, dI) classes [(o, .inr (4, [.ref (g 0), .ref (g2 0), .ref jh])), ((g 0), .inr (2, [.ref (g 3), .ref (g 1), .ref (g 2), .int (nI S.td), .int (nI S.qd)])), ((g 1), .inr (0, [.ref (g 3), .long S.wk.at, .long S.wk.en, .int S.wk.ch, .long S.wk.sa, .int S.wk.le])), ((g 2), .inl (cI, 4, .inl (fun z9 => nI (S.pol z9)))), ((g 3), .inr (3, [.ref (g 4), .ref (g 5), .ref (g 6), .ref (g 7), .ref (g 8), .ref (g 9), .ref (g 10), .ref (g 11), .ref (g 12), .int (nI S.X.n)])), ((g 4), .inl (cI, 200, .inl (fun z9 => nI (S.X.pre z9)))), ((g 5), .inl (cI, 200, .inl (fun z9 => nI (S.X.len z9)))), ((g 6), .inl (cI, 200, .inl (fun z9 => pI (S.X.par z9)))), ((g 7), .inl (cI, 200, .inl (fun z9 => nI (S.X.lev z9)))), ((g 8), .inl (cI, 200, .inl (fun z9 => nI (S.X.hol z9)))), ((g 9), .inl (cI, 200, .inl (fun z9 => nI (S.X.sta z9)))), ((g 10), .inl (cI, 200, .inl (fun z9 => nI (S.X.en z9)))), ((g 11), .inl (cI, 200, .inl (fun z9 => pI (S.X.fc z9)))), ((g 12), .inl (cI, 200, .inl (fun z9 => pI (S.X.nx z9)))), ((g2 0), .inr (2, [.ref (g2 3), .ref (g2 1), .ref (g2 2), .int (nI (agX T9 e9).td), .int (nI (agX T9 e9).qd)])), ((g2 1), .inr (0, [.ref (g2 3), .long ((agX T9 e9).wk.at), .long ((agX T9 e9).wk.en), .int ((agX T9 e9).wk.ch), .long ((agX T9 e9).wk.sa), .int ((agX T9 e9).wk.le)])), ((g2 2), .inl (cI, 4, .inl (fun z9 => nI ((agX T9 e9).pol z9)))), ((g2 3), .inr (3, [.ref (g2 4), .ref (g2 5), .ref (g2 6), .ref (g2 7), .ref (g2 8), .ref (g2 9), .ref (g2 10), .ref (g2 11), .ref (g2 12), .int (nI (agX T9 e9).X.n)])), ((g2 4), .inl (cI, 200, .inl (fun z9 => nI ((agX T9 e9).X.pre z9)))), ((g2 5), .inl (cI, 200, .inl (fun z9 => nI ((agX T9 e9).X.len z9)))), ((g2 6), .inl (cI, 200, .inl (fun z9 => pI ((agX T9 e9).X.par z9)))), ((g2 7), .inl (cI, 200, .inl (fun z9 => nI ((agX T9 e9).X.lev z9)))), ((g2 8), .inl (cI, 200, .inl (fun z9 => nI ((agX T9 e9).X.hol z9)))), ((g2 9), .inl (cI, 200, .inl (fun z9 => nI ((agX T9 e9).X.sta z9)))), ((g2 10), .inl (cI, 200, .inl (fun z9 => nI ((agX T9 e9).X.en z9)))), ((g2 11), .inl (cI, 200, .inl (fun z9 => pI ((agX T9 e9).X.fc z9)))), ((g2 12), .inl (cI, 200, .inl (fun z9 => pI ((agX T9 e9).X.nx z9)))), (jh, .inr (1, [.ref ja, .int (nI jn)])), (ja, .inl (cI, 1200, .inl pt))] H := hP.sub (ws' := [(o, .inr (4, [.ref (g 0), .ref (g2 0), .ref jh])), ((g 0), .inr (2, [.ref (g 3), .ref (g 1), .ref (g 2), .int (nI S.td), .int (nI S.qd)])), ((g 1), .inr (0, [.ref (g 3), .long S.wk.at, .long S.wk.en, .int S.wk.ch, .long S.wk.sa, .int S.wk.le])), ((g 2), .inl (cI, 4, .inl (fun z9 => nI (S.pol z9)))), ((g 3), .inr (3, [.ref (g 4), .ref (g 5), .ref (g 6), .ref (g 7), .ref (g 8), .ref (g 9), .ref (g 10), .ref (g 11), .ref (g 12), .int (nI S.X.n)])), ((g 4), .inl (cI, 200, .inl (fun z9 => nI (S.X.pre z9)))), ((g 5), .inl (cI, 200, .inl (fun z9 => nI (S.X.len z9)))), ((g 6), .inl (cI, 200, .inl (fun z9 => pI (S.X.par z9)))), ((g 7), .inl (cI, 200, .inl (fun z9 => nI (S.X.lev z9)))), ((g 8), .inl (cI, 200, .inl (fun z9 => nI (S.X.hol z9)))), ((g 9), .inl (cI, 200, .inl (fun z9 => nI (S.X.sta z9)))), ((g 10), .inl (cI, 200, .inl (fun z9 => nI (S.X.en z9)))), ((g 11), .inl (cI, 200, .inl (fun z9 => pI (S.X.fc z9)))), ((g 12), .inl (cI, 200, .inl (fun z9 => pI (S.X.nx z9)))), ((g2 0), .inr (2, [.ref (g2 3), .ref (g2 1), .ref (g2 2), .int (nI (agX T9 e9).td), .int (nI (agX T9 e9).qd)])), ((g2 1), .inr (0, [.ref (g2 3), .long ((agX T9 e9).wk.at), .long ((agX T9 e9).wk.en), .int ((agX T9 e9).wk.ch), .long ((agX T9 e9).wk.sa), .int ((agX T9 e9).wk.le)])), ((g2 2), .inl (cI, 4, .inl (fun z9 => nI ((agX T9 e9).pol z9)))), ((g2 3), .inr (3, [.ref (g2 4), .ref (g2 5), .ref (g2 6), .ref (g2 7), .ref (g2 8), .ref (g2 9), .ref (g2 10), .ref (g2 11), .ref (g2 12), .int (nI (agX T9 e9).X.n)])), ((g2 4), .inl (cI, 200, .inl (fun z9 => nI ((agX T9 e9).X.pre z9)))), ((g2 5), .inl (cI, 200, .inl (fun z9 => nI ((agX T9 e9).X.len z9)))), ((g2 6), .inl (cI, 200, .inl (fun z9 => pI ((agX T9 e9).X.par z9)))), ((g2 7), .inl (cI, 200, .inl (fun z9 => nI ((agX T9 e9).X.lev z9)))), ((g2 8), .inl (cI, 200, .inl (fun z9 => nI ((agX T9 e9).X.hol z9)))), ((g2 9), .inl (cI, 200, .inl (fun z9 => nI ((agX T9 e9).X.sta z9)))), ((g2 10), .inl (cI, 200, .inl (fun z9 => nI ((agX T9 e9).X.en z9)))), ((g2 11), .inl (cI, 200, .inl (fun z9 => pI ((agX T9 e9).X.fc z9)))), ((g2 12), .inl (cI, 200, .inl (fun z9 => pI ((agX T9 e9).X.nx z9)))), (jh, .inr (1, [.ref ja, .int (nI jn)])), (ja, .inl (cI, 1200, .inl pt))]) [0, 1, 2, 3, 4, 5, 6, 7, 8, 9, 10, 11, 12, 13, 16, 17, 18, 19, 20, 21, 22, 23, 24, 25, 26, 27, 28, 14, 15] rfl
      replace hD : va_D A [(o, .inr (4, [.ref (g 0), .ref (g2 0), .ref jh])), ((g 0), .inr (2, [.ref (g 3), .ref (g 1), .ref (g 2), .int (nI S.td), .int (nI S.qd)])), ((g 1), .inr (0, [.ref (g 3), .long S.wk.at, .long S.wk.en, .int S.wk.ch, .long S.wk.sa, .int S.wk.le])), ((g 2), .inl (cI, 4, .inl (fun z9 => nI (S.pol z9)))), ((g 3), .inr (3, [.ref (g 4), .ref (g 5), .ref (g 6), .ref (g 7), .ref (g 8), .ref (g 9), .ref (g 10), .ref (g 11), .ref (g 12), .int (nI S.X.n)])), ((g 4), .inl (cI, 200, .inl (fun z9 => nI (S.X.pre z9)))), ((g 5), .inl (cI, 200, .inl (fun z9 => nI (S.X.len z9)))), ((g 6), .inl (cI, 200, .inl (fun z9 => pI (S.X.par z9)))), ((g 7), .inl (cI, 200, .inl (fun z9 => nI (S.X.lev z9)))), ((g 8), .inl (cI, 200, .inl (fun z9 => nI (S.X.hol z9)))), ((g 9), .inl (cI, 200, .inl (fun z9 => nI (S.X.sta z9)))), ((g 10), .inl (cI, 200, .inl (fun z9 => nI (S.X.en z9)))), ((g 11), .inl (cI, 200, .inl (fun z9 => pI (S.X.fc z9)))), ((g 12), .inl (cI, 200, .inl (fun z9 => pI (S.X.nx z9)))), ((g2 0), .inr (2, [.ref (g2 3), .ref (g2 1), .ref (g2 2), .int (nI (agX T9 e9).td), .int (nI (agX T9 e9).qd)])), ((g2 1), .inr (0, [.ref (g2 3), .long ((agX T9 e9).wk.at), .long ((agX T9 e9).wk.en), .int ((agX T9 e9).wk.ch), .long ((agX T9 e9).wk.sa), .int ((agX T9 e9).wk.le)])), ((g2 2), .inl (cI, 4, .inl (fun z9 => nI ((agX T9 e9).pol z9)))), ((g2 3), .inr (3, [.ref (g2 4), .ref (g2 5), .ref (g2 6), .ref (g2 7), .ref (g2 8), .ref (g2 9), .ref (g2 10), .ref (g2 11), .ref (g2 12), .int (nI (agX T9 e9).X.n)])), ((g2 4), .inl (cI, 200, .inl (fun z9 => nI ((agX T9 e9).X.pre z9)))), ((g2 5), .inl (cI, 200, .inl (fun z9 => nI ((agX T9 e9).X.len z9)))), ((g2 6), .inl (cI, 200, .inl (fun z9 => pI ((agX T9 e9).X.par z9)))), ((g2 7), .inl (cI, 200, .inl (fun z9 => nI ((agX T9 e9).X.lev z9)))), ((g2 8), .inl (cI, 200, .inl (fun z9 => nI ((agX T9 e9).X.hol z9)))), ((g2 9), .inl (cI, 200, .inl (fun z9 => nI ((agX T9 e9).X.sta z9)))), ((g2 10), .inl (cI, 200, .inl (fun z9 => nI ((agX T9 e9).X.en z9)))), ((g2 11), .inl (cI, 200, .inl (fun z9 => pI ((agX T9 e9).X.fc z9)))), ((g2 12), .inl (cI, 200, .inl (fun z9 => pI ((agX T9 e9).X.nx z9)))), (jh, .inr (1, [.ref ja, .int (nI jn)])), (ja, .inl (cI, 1200, .inl pt))] := hD.sub (ws' := [(o, .inr (4, [.ref (g 0), .ref (g2 0), .ref jh])), ((g 0), .inr (2, [.ref (g 3), .ref (g 1), .ref (g 2), .int (nI S.td), .int (nI S.qd)])), ((g 1), .inr (0, [.ref (g 3), .long S.wk.at, .long S.wk.en, .int S.wk.ch, .long S.wk.sa, .int S.wk.le])), ((g 2), .inl (cI, 4, .inl (fun z9 => nI (S.pol z9)))), ((g 3), .inr (3, [.ref (g 4), .ref (g 5), .ref (g 6), .ref (g 7), .ref (g 8), .ref (g 9), .ref (g 10), .ref (g 11), .ref (g 12), .int (nI S.X.n)])), ((g 4), .inl (cI, 200, .inl (fun z9 => nI (S.X.pre z9)))), ((g 5), .inl (cI, 200, .inl (fun z9 => nI (S.X.len z9)))), ((g 6), .inl (cI, 200, .inl (fun z9 => pI (S.X.par z9)))), ((g 7), .inl (cI, 200, .inl (fun z9 => nI (S.X.lev z9)))), ((g 8), .inl (cI, 200, .inl (fun z9 => nI (S.X.hol z9)))), ((g 9), .inl (cI, 200, .inl (fun z9 => nI (S.X.sta z9)))), ((g 10), .inl (cI, 200, .inl (fun z9 => nI (S.X.en z9)))), ((g 11), .inl (cI, 200, .inl (fun z9 => pI (S.X.fc z9)))), ((g 12), .inl (cI, 200, .inl (fun z9 => pI (S.X.nx z9)))), ((g2 0), .inr (2, [.ref (g2 3), .ref (g2 1), .ref (g2 2), .int (nI (agX T9 e9).td), .int (nI (agX T9 e9).qd)])), ((g2 1), .inr (0, [.ref (g2 3), .long ((agX T9 e9).wk.at), .long ((agX T9 e9).wk.en), .int ((agX T9 e9).wk.ch), .long ((agX T9 e9).wk.sa), .int ((agX T9 e9).wk.le)])), ((g2 2), .inl (cI, 4, .inl (fun z9 => nI ((agX T9 e9).pol z9)))), ((g2 3), .inr (3, [.ref (g2 4), .ref (g2 5), .ref (g2 6), .ref (g2 7), .ref (g2 8), .ref (g2 9), .ref (g2 10), .ref (g2 11), .ref (g2 12), .int (nI (agX T9 e9).X.n)])), ((g2 4), .inl (cI, 200, .inl (fun z9 => nI ((agX T9 e9).X.pre z9)))), ((g2 5), .inl (cI, 200, .inl (fun z9 => nI ((agX T9 e9).X.len z9)))), ((g2 6), .inl (cI, 200, .inl (fun z9 => pI ((agX T9 e9).X.par z9)))), ((g2 7), .inl (cI, 200, .inl (fun z9 => nI ((agX T9 e9).X.lev z9)))), ((g2 8), .inl (cI, 200, .inl (fun z9 => nI ((agX T9 e9).X.hol z9)))), ((g2 9), .inl (cI, 200, .inl (fun z9 => nI ((agX T9 e9).X.sta z9)))), ((g2 10), .inl (cI, 200, .inl (fun z9 => nI ((agX T9 e9).X.en z9)))), ((g2 11), .inl (cI, 200, .inl (fun z9 => pI ((agX T9 e9).X.fc z9)))), ((g2 12), .inl (cI, 200, .inl (fun z9 => pI ((agX T9 e9).X.nx z9)))), (jh, .inr (1, [.ref ja, .int (nI jn)])), (ja, .inl (cI, 1200, .inl pt))]) [0, 1, 2, 3, 4, 5, 6, 7, 8, 9, 10, 11, 12, 13, 16, 17, 18, 19, 20, 21, 22, 23, 24, 25, 26, 27, 28, 14, 15] (by decide) rfl
      refine lv_pop hx hb d_PR_replay_80 rfl ?_
      refine lv_iinc hx hb d_PR_replay_81 hl (k := 0) (v := (nI (i + 1))) rfl (nI_1 i) (by decide) rfl (fun ls hl => ?_)
      replace hl : lv_has ls 3 [(2, .int (nI (i + 1))), (0, .ref o), (1, .int (nI k))] := hl
      refine lv_goto hx hb d_PR_replay_84 rfl ?_
      replace hP : va_P (dC, dI) classes (wPR cI o g S g2 (agX T9 e9) jh ja pt jn) H := hP
      replace hD : va_D A (wPR cI o g S g2 (agX T9 e9) jh ja pt jn) := hD
      refine ih _ _ _ _ _ hrp (hT9.step hac9.1) hac9.2 ?_ ?_ hP hD hS hl
      · intro j x q; have h9 := hen9 (j + 1) x q; rw [show i + 1 + j = i + (j + 1) by omega]; exact h9
      · omega
  have h12 := mt (k_le hk0 (by omega)).mpr h12
  exact vx_throw0 (cls := "java/lang/IllegalArgumentException") (names := nmX) (mc := 1) (ms := 6) hx hb hlt hown (by decide +kernel) (by decide +kernel) (hts _ kw_221) (hts _ kw_10) (x_hat hts hX0 xg_36 xb_36) xo_36 hX0.1 hX0.2.1 hS (hl.1.trans hml.symm) d_PR_replay_15 d_PR_replay_18 d_PR_replay_19 d_PR_replay_22 (fun x h => (hne x h).elim) (Nat.le_of_ble_eq_true rfl) (Nat.le_of_ble_eq_true rfl) (Nat.le_of_ble_eq_true rfl) (Nat.le_of_ble_eq_true rfl) hlocks (fun t hv9 hz9 hk9 => ⟨(S, S2, pt, jn), trivial, ⟨⟨rfl, by omega, rfl⟩, (show va_P (dC, dI) classes (wUS cI o g g2 jh ja (S, S2, pt, jn)) t.heap from hP.kept (fun k q hq => hk9 q.1 ((hP k q hq).lt))), va_K.moved hv9 hK, (show va_D A (wUS cI o g g2 jh ja (S, S2, pt, jn)) from hD)⟩, Nat.le_trans hS.1 hz9, fun q h1 h2 => (hk9 q (Nat.lt_of_lt_of_le h1 hS.1)).trans (hS.2.1 q h1 h2)⟩) hS.2.2 (Nat.le_of_ble_eq_true rfl) (Nat.le_of_ble_eq_true rfl)
