set_option maxHeartbeats 4000000 in
set_option maxRecDepth 100000 in
theorem c_PR_policy (l : Launch) (hlt : l.stackTraces = false) (dC : Nat → ClassId) (dI : Nat → Nat → Nat) (sz : Nat) (cI : ClassId) (o : Nat) (g : Nat → Nat) (S : LDS) (g2 : Nat → Nat) (S2 : LDS) (jh ja : Nat) (pt : Nat → Int32) (jn : Nat) (hS9 : LDok S) (hjn : jn ≤ 300) (v w : Nat) (hv0 : v < 4294967296) (hw0 : w < 4294967296) : vx_Met l y_PR_policy (.code y_PR_policy b_PR_policy 3 none :: wG) ({ frames := 8, cells := 1, slots := 6, locals := 200 }) (PcX (dC, dI) [(cI, .int)] (wPR cI o g S g2 S2 jh ja pt jn) [.ref o, .int (nI v), .int (nI w)] sz) (QpV (dC, dI) cI o g g2 jh ja (wPR cI o g S g2 S2 jh ja pt jn) sz (fun u => v < 4 ∧ w ≤ 1000 ∧ ¬ jn = 300 ∧ u = ((S.X, (va_up S.pol v w), S.td, S.qd, S.wk), S2, (jPut pt jn 9 (nI v) (nI w) 0), jn + 1))) (XCx (fun E9 => (E9 = "java/lang/IllegalArgumentException" ∧ ¬ (v < 4 ∧ w ≤ 1000)) ∨ (E9 = "java/lang/UnsupportedOperationException" ∧ v < 4 ∧ w ≤ 1000 ∧ jn = 300)) sz) 1 6 (va_A (wPR cI o g S g2 S2 jh ja pt jn) sz) := by
  refine vx_ofW (cc := b_PR_policy) (maxL := 3) (ret := none) (by decide) rfl ?_
  intro pg eg s mg ag bg meth cg s₁ B hml hne hv
  obtain ⟨rfl, hsz, hP, hK, hD0, hN, hX0⟩ := hv
  have hx := B.exec
  have hb := B.bytes
  have hr := B.returns
  have hlocks := B.notSynchronized
  have hts : ∀ w9 ∈ wG, w9.before ([.ref o, .int (nI v), .int (nI w)] : List Value).toArray s = true := fun w9 h9 => atoms_spec (ws := (.code y_PR_policy b_PR_policy 3 none :: wG)) B.pre w9 (List.mem_cons_of_mem _ h9)
  have hown : s.vm.findClass "PrefixRegistry" = some mg.cls := findClass_of_methodNamed B.named
  subst hsz
  have hD := hD0.self (sz := s.heap.size)
  unfold QpV
  generalize hAe : va_A (wPR cI o g S g2 S2 jh ja pt jn) s.heap.size = A at hD hX0 ⊢
  have hA : ∀ q : Nat, s.heap.size ≤ q → A q := fun q h => by rw [← hAe]; exact Or.inr h
  have hS : va_S A s.heap s.heap [] := va_S.rf
  have hU : ∀ q : Nat, q < s.heap.size → s.heap[q]? = s.heap[q]? := fun q _ => rfl
  have hl := lv_entry ([.ref o, .int (nI v), .int (nI w)]) (n := 3) (Nat.le_of_ble_eq_true rfl)
  rw [lg_entry_eq]
  generalize (lg_sl ([.ref o, .int (nI v), .int (nI w)]) ++ List.replicate (3 - (lg_sl ([.ref o, .int (nI v), .int (nI w)])).length) Slot.unset).toArray = ls at hl ⊢
  replace hl : lv_has ls 3 [(0, .ref o), (1, .int (nI v)), (2, .int (nI w))] := hl
  replace hP : va_P (dC, dI) classes (wPR cI o g S g2 S2 jh ja pt jn) s.heap := hP
  replace hD : va_D A (wPR cI o g S g2 S2 jh ja pt jn) := hD
  refine lv_iload_n hx hb d_PR_policy_0 rfl (lv_at hl 1 rfl) ?_
  refine lv_if_lt hx hb d_PR_policy_1 rfl (fun h1 => ?_) (fun h1 => ?_)
  · have h1 := (k_lt0 hv0).mp h1
    exact vx_throw0 (cls := "java/lang/IllegalArgumentException") (names := nmX) (mc := 1) (ms := 6) hx hb hlt hown (by decide +kernel) (by decide +kernel) (hts _ kw_221) (hts _ kw_10) (x_hat hts hX0 xg_36 xb_36) xo_36 hX0.1 hX0.2.1 hS (hl.1.trans hml.symm) d_PR_policy_20 d_PR_policy_23 d_PR_policy_24 d_PR_policy_27 (fun x h => (hne x h).elim) (Nat.le_of_ble_eq_true rfl) (Nat.le_of_ble_eq_true rfl) (Nat.le_of_ble_eq_true rfl) (Nat.le_of_ble_eq_true rfl) hlocks (fun t hv9 hz9 hk9 => ⟨(), trivial, Or.inl ⟨rfl, by omega⟩, ⟨Nat.le_trans hS.1 hz9, fun q h1 h2 => (hk9 q (Nat.lt_of_lt_of_le h1 hS.1)).trans (hU q h1)⟩⟩) hS.2.2 (Nat.le_of_ble_eq_true rfl) (Nat.le_of_ble_eq_true rfl)
  have h1 := mt (k_lt0 hv0).mpr h1
  refine lv_iload_n hx hb d_PR_policy_4 rfl (lv_at hl 1 rfl) ?_
  refine lv_iconst (v := 4) hx hb d_PR_policy_5 (by decide) ?_
  refine lv_icmp_ge hx hb d_PR_policy_6 rfl (fun h6 => ?_) (fun h6 => ?_)
  · have h6 := (k_le' (a := 4) (by decide) hv0).mp h6
    exact vx_throw0 (cls := "java/lang/IllegalArgumentException") (names := nmX) (mc := 1) (ms := 6) hx hb hlt hown (by decide +kernel) (by decide +kernel) (hts _ kw_221) (hts _ kw_10) (x_hat hts hX0 xg_36 xb_36) xo_36 hX0.1 hX0.2.1 hS (hl.1.trans hml.symm) d_PR_policy_20 d_PR_policy_23 d_PR_policy_24 d_PR_policy_27 (fun x h => (hne x h).elim) (Nat.le_of_ble_eq_true rfl) (Nat.le_of_ble_eq_true rfl) (Nat.le_of_ble_eq_true rfl) (Nat.le_of_ble_eq_true rfl) hlocks (fun t hv9 hz9 hk9 => ⟨(), trivial, Or.inl ⟨rfl, by omega⟩, ⟨Nat.le_trans hS.1 hz9, fun q h1 h2 => (hk9 q (Nat.lt_of_lt_of_le h1 hS.1)).trans (hU q h1)⟩⟩) hS.2.2 (Nat.le_of_ble_eq_true rfl) (Nat.le_of_ble_eq_true rfl)
  have h6 := mt (k_le' (a := 4) (by decide) hv0).mpr h6
  refine lv_iload_n hx hb d_PR_policy_9 rfl (lv_at hl 2 rfl) ?_
  refine lv_if_lt hx hb d_PR_policy_10 rfl (fun h10 => ?_) (fun h10 => ?_)
  · have h10 := (k_lt0 hw0).mp h10
    exact vx_throw0 (cls := "java/lang/IllegalArgumentException") (names := nmX) (mc := 1) (ms := 6) hx hb hlt hown (by decide +kernel) (by decide +kernel) (hts _ kw_221) (hts _ kw_10) (x_hat hts hX0 xg_36 xb_36) xo_36 hX0.1 hX0.2.1 hS (hl.1.trans hml.symm) d_PR_policy_20 d_PR_policy_23 d_PR_policy_24 d_PR_policy_27 (fun x h => (hne x h).elim) (Nat.le_of_ble_eq_true rfl) (Nat.le_of_ble_eq_true rfl) (Nat.le_of_ble_eq_true rfl) (Nat.le_of_ble_eq_true rfl) hlocks (fun t hv9 hz9 hk9 => ⟨(), trivial, Or.inl ⟨rfl, by omega⟩, ⟨Nat.le_trans hS.1 hz9, fun q h1 h2 => (hk9 q (Nat.lt_of_lt_of_le h1 hS.1)).trans (hU q h1)⟩⟩) hS.2.2 (Nat.le_of_ble_eq_true rfl) (Nat.le_of_ble_eq_true rfl)
  have h10 := mt (k_lt0 hw0).mpr h10
  refine lv_iload_n hx hb d_PR_policy_13 rfl (lv_at hl 2 rfl) ?_
  refine lv_sipush (v := 1000) hx hb d_PR_policy_14 (by decide) ?_
  refine lv_icmp_le hx hb d_PR_policy_17 rfl (fun h17 => ?_) (fun h17 => ?_)
  · have h17 := (k_le (b := 1000) hw0 (by decide)).mp h17
    refine lv_aload_n hx hb d_PR_policy_28 rfl (lv_at hl 0 rfl) ?_
    refine lv_bipush (v := 9) hx hb d_PR_policy_29 (by decide) ?_
    refine lv_iload_n hx hb d_PR_policy_31 rfl (lv_at hl 1 rfl) ?_
    refine lv_iload_n hx hb d_PR_policy_32 rfl (lv_at hl 2 rfl) ?_
    refine lv_iconst (v := 0) hx hb d_PR_policy_33 (by decide) ?_
    have hPc := hP.sub (ws' := (wPR cI o g S g2 S2 jh ja pt jn)) [0, 1, 2, 3, 4, 5, 6, 7, 8, 9, 10, 11, 12, 13, 14, 15, 16, 17, 18, 19, 20, 21, 22, 23, 24, 25, 26, 27, 28] rfl
    have hDc := hD.sub (ws' := (wPR cI o g S g2 S2 jh ja pt jn)) [0, 1, 2, 3, 4, 5, 6, 7, 8, 9, 10, 11, 12, 13, 14, 15, 16, 17, 18, 19, 20, 21, 22, 23, 24, 25, 26, 27, 28] (by decide) rfl
    have hFc := va_free (wc := (wPR cI o g S g2 S2 jh ja pt jn)) hD hS hA [0, 1, 2, 3, 4, 5, 6, 7, 8, 9, 10, 11, 12, 13, 14, 15, 16, 17, 18, 19, 20, 21, 22, 23, 24, 25, 26, 27, 28] rfl
    have hS0 := hS.1
    refine vx_calli (vx_runV (b := o) (As := [.int 9, .int (nI v), .int (nI w), .int 0]) (rest := []) ⟨hx, hb, hml, hown, hts⟩ (c_PR_accept_9 l hlt dC dI s.heap.size cI o g S g2 S2 jh ja pt jn hjn v w (by omega)) (cwV 4 hts (gV kw_332 kw_334 ks_1 kw_1 kw_335) rfl rfl rfl (by decide +kernel) ⟨Nat.le_of_ble_eq_true rfl, Nat.le_of_ble_eq_true rfl⟩) ⟨PcX.blind, va_recv (q0 := 0) hK hPc rfl rfl, PcX.use hPc hK hN hDc hX0 hS hFc⟩ rfl rfl hl.1 rfl (lv_room (Nat.le_of_ble_eq_true rfl)) d_PR_policy_34 ⟨Nat.le_of_ble_eq_true rfl, Nat.le_of_ble_eq_true rfl⟩) hS (fun q _ h => hFc q h) hFc (fun q h1 h2 => absurd h2 (Nat.not_le.mpr h1)) (fun E9 ce q9 u9 H9 H1 locs hH9 hv9 _ hB hz1 hk1 hS hce hcv hcl => ?_) (fun r34 u9 H9 H1 locs hH9 hv9 hp9 hB hz1 hk1 hS => ?_)
    · exact vx_out (E := E9) (fun x h => (hne x h).elim) hlocks hce hcv hcl (fun t ht hv => ⟨(), trivial, Or.inr ⟨hB.1, by omega, by omega, hB.2⟩, Nat.le_trans hS.1 (Nat.le_of_eq (congrArg Array.size ht.symm)), fun q h1 h2 => (congrArg (fun h9 : Heap => h9[q]?) ht).trans ((hk1 q (Nat.lt_of_lt_of_le h1 hS0) (Nat.not_le.mpr (Nat.lt_of_lt_of_le h1 hS0))).trans (hU q h1))⟩) hS.2.2 (Nat.le_of_ble_eq_true rfl) (Nat.le_of_ble_eq_true rfl)
    obtain ⟨hr9, hj9⟩ : r34 = 0 ∧ ¬ jn = 300 := hp9
    subst hr9
    obtain ⟨hP1, hK1, hD1⟩ := hB
    rw [hH9] at hP1
    obtain ⟨hP, hD⟩ := va_join (wr := []) (w1 := (wPR cI o g (S.X, (va_up S.pol v w), S.td, S.qd, S.wk) g2 S2 jh ja (jPut pt jn 9 (nI v) (nI w) 0) (jn + 1))) hP hD [0, 1, 2, 3, 4, 5, 6, 7, 8, 9, 10, 11, 12, 13, 14, 15, 16, 17, 18, 19, 20, 21, 22, 23, 24, 25, 26, 27, 28] [] rfl rfl (by decide) (by decide) hk1 hFc hP1 hD1
    clear hPc hDc hFc hP1 hD1 hK1 hk1 hz1 hv9 hH9 hU hS0
    generalize H1 = H at hP hS ⊢
    replace hP : va_P (dC, dI) classes (wPR cI o g (S.X, (va_up S.pol v w), S.td, S.qd, S.wk) g2 S2 jh ja (jPut pt jn 9 (nI v) (nI w) 0) (jn + 1)) H := hP
    replace hD : va_D A (wPR cI o g (S.X, (va_up S.pol v w), S.td, S.qd, S.wk) g2 S2 jh ja (jPut pt jn 9 (nI v) (nI w) 0) (jn + 1)) := hD
    refine lv_pop hx hb d_PR_policy_37 rfl ?_
    refine vx_ret ?_
    refine W.widen (k := 1) (n := 6) (Nat.le_of_ble_eq_true rfl) (Nat.le_of_ble_eq_true rfl) ?_
    have hP9 : va_P (dC, dI) classes (wUS cI o g g2 jh ja ((S.X, (va_up S.pol v w), S.td, S.qd, S.wk), S2, (jPut pt jn 9 (nI v) (nI w) 0), jn + 1)) H := hP
    have hD9 : va_D A (wUS cI o g g2 jh ja ((S.X, (va_up S.pol v w), S.td, S.qd, S.wk), S2, (jPut pt jn 9 (nI v) (nI w) 0), jn + 1)) := hD
    exact W.vret hx hb hr (fun t ht hW => ⟨⟨((S.X, (va_up S.pol v w), S.td, S.qd, S.wk), S2, (jPut pt jn 9 (nI v) (nI w) 0), jn + 1), rfl, ⟨by omega, by omega, hj9, rfl⟩, by rw [ht]; exact hP9, va_K.moved hW.alike hK, hD9⟩, hS.F ht⟩) hS.2.2 d_PR_policy_38
  have h17 := mt (k_le (b := 1000) hw0 (by decide)).mpr h17
  exact vx_throw0 (cls := "java/lang/IllegalArgumentException") (names := nmX) (mc := 1) (ms := 6) hx hb hlt hown (by decide +kernel) (by decide +kernel) (hts _ kw_221) (hts _ kw_10) (x_hat hts hX0 xg_36 xb_36) xo_36 hX0.1 hX0.2.1 hS (hl.1.trans hml.symm) d_PR_policy_20 d_PR_policy_23 d_PR_policy_24 d_PR_policy_27 (fun x h => (hne x h).elim) (Nat.le_of_ble_eq_true rfl) (Nat.le_of_ble_eq_true rfl) (Nat.le_of_ble_eq_true rfl) (Nat.le_of_ble_eq_true rfl) hlocks (fun t hv9 hz9 hk9 => ⟨(), trivial, Or.inl ⟨rfl, by omega⟩, ⟨Nat.le_trans hS.1 hz9, fun q h1 h2 => (hk9 q (Nat.lt_of_lt_of_le h1 hS.1)).trans (hU q h1)⟩⟩) hS.2.2 (Nat.le_of_ble_eq_true rfl) (Nat.le_of_ble_eq_true rfl)
set_option maxHeartbeats 4000000 in
set_option maxRecDepth 100000 in
theorem c_PR_quarantine (l : Launch) (hlt : l.stackTraces = false) (dC : Nat → ClassId) (dI : Nat → Nat → Nat) (sz : Nat) (cI : ClassId) (o : Nat) (g : Nat → Nat) (S : LDS) (g2 : Nat → Nat) (S2 : LDS) (jh ja : Nat) (pt : Nat → Int32) (jn : Nat) (hS9 : LDok S) (hjn : jn ≤ 300) (w : Nat) (hw0 : w < 4294967296) : vx_Met l y_PR_quarantine (.code y_PR_quarantine b_PR_quarantine 2 none :: wG) ({ frames := 8, cells := 1, slots := 6, locals := 200 }) (PcX (dC, dI) [(cI, .int)] (wPR cI o g S g2 S2 jh ja pt jn) [.ref o, .int (nI w)] sz) (QpV (dC, dI) cI o g g2 jh ja (wPR cI o g S g2 S2 jh ja pt jn) sz (fun u => w ≤ 1000 ∧ ¬ jn = 300 ∧ u = ((S.X, S.pol, S.td, w, S.wk), S2, (jPut pt jn 11 (nI w) 0 0), jn + 1))) (XCx (fun E9 => (E9 = "java/lang/IllegalArgumentException" ∧ ¬ w ≤ 1000) ∨ (E9 = "java/lang/UnsupportedOperationException" ∧ w ≤ 1000 ∧ jn = 300)) sz) 1 6 (va_A (wPR cI o g S g2 S2 jh ja pt jn) sz) := by
  refine vx_ofW (cc := b_PR_quarantine) (maxL := 2) (ret := none) (by decide) rfl ?_
  intro pg eg s mg ag bg meth cg s₁ B hml hne hv
  obtain ⟨rfl, hsz, hP, hK, hD0, hN, hX0⟩ := hv
  have hx := B.exec
  have hb := B.bytes
  have hr := B.returns
  have hlocks := B.notSynchronized
  have hts : ∀ w9 ∈ wG, w9.before ([.ref o, .int (nI w)] : List Value).toArray s = true := fun w9 h9 => atoms_spec (ws := (.code y_PR_quarantine b_PR_quarantine 2 none :: wG)) B.pre w9 (List.mem_cons_of_mem _ h9)
  have hown : s.vm.findClass "PrefixRegistry" = some mg.cls := findClass_of_methodNamed B.named
  subst hsz
  have hD := hD0.self (sz := s.heap.size)
  unfold QpV
  generalize hAe : va_A (wPR cI o g S g2 S2 jh ja pt jn) s.heap.size = A at hD hX0 ⊢
  have hA : ∀ q : Nat, s.heap.size ≤ q → A q := fun q h => by rw [← hAe]; exact Or.inr h
  have hS : va_S A s.heap s.heap [] := va_S.rf
  have hU : ∀ q : Nat, q < s.heap.size → s.heap[q]? = s.heap[q]? := fun q _ => rfl
  have hl := lv_entry ([.ref o, .int (nI w)]) (n := 2) (Nat.le_of_ble_eq_true rfl)
  rw [lg_entry_eq]
  generalize (lg_sl ([.ref o, .int (nI w)]) ++ List.replicate (2 - (lg_sl ([.ref o, .int (nI w)])).length) Slot.unset).toArray = ls at hl ⊢
  replace hl : lv_has ls 2 [(0, .ref o), (1, .int (nI w))] := hl
  replace hP : va_P (dC, dI) classes (wPR cI o g S g2 S2 jh ja pt jn) s.heap := hP
  replace hD : va_D A (wPR cI o g S g2 S2 jh ja pt jn) := hD
  refine lv_iload_n hx hb d_PR_quarantine_0 rfl (lv_at hl 1 rfl) ?_
  refine lv_if_lt hx hb d_PR_quarantine_1 rfl (fun h1 => ?_) (fun h1 => ?_)
  · have h1 := (k_lt0 hw0).mp h1
    exact vx_throw0 (cls := "java/lang/IllegalArgumentException") (names := nmX) (mc := 1) (ms := 6) hx hb hlt hown (by decide +kernel) (by decide +kernel) (hts _ kw_221) (hts _ kw_10) (x_hat hts hX0 xg_36 xb_36) xo_36 hX0.1 hX0.2.1 hS (hl.1.trans hml.symm) d_PR_quarantine_11 d_PR_quarantine_14 d_PR_quarantine_15 d_PR_quarantine_18 (fun x h => (hne x h).elim) (Nat.le_of_ble_eq_true rfl) (Nat.le_of_ble_eq_true rfl) (Nat.le_of_ble_eq_true rfl) (Nat.le_of_ble_eq_true rfl) hlocks (fun t hv9 hz9 hk9 => ⟨(), trivial, Or.inl ⟨rfl, by omega⟩, ⟨Nat.le_trans hS.1 hz9, fun q h1 h2 => (hk9 q (Nat.lt_of_lt_of_le h1 hS.1)).trans (hU q h1)⟩⟩) hS.2.2 (Nat.le_of_ble_eq_true rfl) (Nat.le_of_ble_eq_true rfl)
  have h1 := mt (k_lt0 hw0).mpr h1
  refine lv_iload_n hx hb d_PR_quarantine_4 rfl (lv_at hl 1 rfl) ?_
  refine lv_sipush (v := 1000) hx hb d_PR_quarantine_5 (by decide) ?_
  refine lv_icmp_le hx hb d_PR_quarantine_8 rfl (fun h8 => ?_) (fun h8 => ?_)
  · have h8 := (k_le (b := 1000) hw0 (by decide)).mp h8
    refine lv_aload_n hx hb d_PR_quarantine_19 rfl (lv_at hl 0 rfl) ?_
    refine lv_bipush (v := 11) hx hb d_PR_quarantine_20 (by decide) ?_
    refine lv_iload_n hx hb d_PR_quarantine_22 rfl (lv_at hl 1 rfl) ?_
    refine lv_iconst (v := 0) hx hb d_PR_quarantine_23 (by decide) ?_
    refine lv_iconst (v := 0) hx hb d_PR_quarantine_24 (by decide) ?_
    have hPc := hP.sub (ws' := (wPR cI o g S g2 S2 jh ja pt jn)) [0, 1, 2, 3, 4, 5, 6, 7, 8, 9, 10, 11, 12, 13, 14, 15, 16, 17, 18, 19, 20, 21, 22, 23, 24, 25, 26, 27, 28] rfl
    have hDc := hD.sub (ws' := (wPR cI o g S g2 S2 jh ja pt jn)) [0, 1, 2, 3, 4, 5, 6, 7, 8, 9, 10, 11, 12, 13, 14, 15, 16, 17, 18, 19, 20, 21, 22, 23, 24, 25, 26, 27, 28] (by decide) rfl
    have hFc := va_free (wc := (wPR cI o g S g2 S2 jh ja pt jn)) hD hS hA [0, 1, 2, 3, 4, 5, 6, 7, 8, 9, 10, 11, 12, 13, 14, 15, 16, 17, 18, 19, 20, 21, 22, 23, 24, 25, 26, 27, 28] rfl
    have hS0 := hS.1
    refine vx_calli (vx_runV (b := o) (As := [.int 11, .int (nI w), .int 0, .int 0]) (rest := []) ⟨hx, hb, hml, hown, hts⟩ (c_PR_accept_11 l hlt dC dI s.heap.size cI o g S g2 S2 jh ja pt jn hjn w) (cwV 4 hts (gV kw_332 kw_334 ks_1 kw_1 kw_335) rfl rfl rfl (by decide +kernel) ⟨Nat.le_of_ble_eq_true rfl, Nat.le_of_ble_eq_true rfl⟩) ⟨PcX.blind, va_recv (q0 := 0) hK hPc rfl rfl, PcX.use hPc hK hN hDc hX0 hS hFc⟩ rfl rfl hl.1 rfl (lv_room (Nat.le_of_ble_eq_true rfl)) d_PR_quarantine_25 ⟨Nat.le_of_ble_eq_true rfl, Nat.le_of_ble_eq_true rfl⟩) hS (fun q _ h => hFc q h) hFc (fun q h1 h2 => absurd h2 (Nat.not_le.mpr h1)) (fun E9 ce q9 u9 H9 H1 locs hH9 hv9 _ hB hz1 hk1 hS hce hcv hcl => ?_) (fun r25 u9 H9 H1 locs hH9 hv9 hp9 hB hz1 hk1 hS => ?_)
    · exact vx_out (E := E9) (fun x h => (hne x h).elim) hlocks hce hcv hcl (fun t ht hv => ⟨(), trivial, Or.inr ⟨hB.1, by omega, hB.2⟩, Nat.le_trans hS.1 (Nat.le_of_eq (congrArg Array.size ht.symm)), fun q h1 h2 => (congrArg (fun h9 : Heap => h9[q]?) ht).trans ((hk1 q (Nat.lt_of_lt_of_le h1 hS0) (Nat.not_le.mpr (Nat.lt_of_lt_of_le h1 hS0))).trans (hU q h1))⟩) hS.2.2 (Nat.le_of_ble_eq_true rfl) (Nat.le_of_ble_eq_true rfl)
    obtain ⟨hr9, hj9⟩ : r25 = 0 ∧ ¬ jn = 300 := hp9
    subst hr9
    obtain ⟨hP1, hK1, hD1⟩ := hB
    rw [hH9] at hP1
    obtain ⟨hP, hD⟩ := va_join (wr := []) (w1 := (wPR cI o g (S.X, S.pol, S.td, w, S.wk) g2 S2 jh ja (jPut pt jn 11 (nI w) 0 0) (jn + 1))) hP hD [0, 1, 2, 3, 4, 5, 6, 7, 8, 9, 10, 11, 12, 13, 14, 15, 16, 17, 18, 19, 20, 21, 22, 23, 24, 25, 26, 27, 28] [] rfl rfl (by decide) (by decide) hk1 hFc hP1 hD1
    clear hPc hDc hFc hP1 hD1 hK1 hk1 hz1 hv9 hH9 hU hS0
    generalize H1 = H at hP hS ⊢
    replace hP : va_P (dC, dI) classes (wPR cI o g (S.X, S.pol, S.td, w, S.wk) g2 S2 jh ja (jPut pt jn 11 (nI w) 0 0) (jn + 1)) H := hP
    replace hD : va_D A (wPR cI o g (S.X, S.pol, S.td, w, S.wk) g2 S2 jh ja (jPut pt jn 11 (nI w) 0 0) (jn + 1)) := hD
    refine lv_pop hx hb d_PR_quarantine_28 rfl ?_
    refine vx_ret ?_
    refine W.widen (k := 1) (n := 6) (Nat.le_of_ble_eq_true rfl) (Nat.le_of_ble_eq_true rfl) ?_
    have hP9 : va_P (dC, dI) classes (wUS cI o g g2 jh ja ((S.X, S.pol, S.td, w, S.wk), S2, (jPut pt jn 11 (nI w) 0 0), jn + 1)) H := hP
    have hD9 : va_D A (wUS cI o g g2 jh ja ((S.X, S.pol, S.td, w, S.wk), S2, (jPut pt jn 11 (nI w) 0 0), jn + 1)) := hD
    exact W.vret hx hb hr (fun t ht hW => ⟨⟨((S.X, S.pol, S.td, w, S.wk), S2, (jPut pt jn 11 (nI w) 0 0), jn + 1), rfl, ⟨by omega, hj9, rfl⟩, by rw [ht]; exact hP9, va_K.moved hW.alike hK, hD9⟩, hS.F ht⟩) hS.2.2 d_PR_quarantine_29
  have h8 := mt (k_le (b := 1000) hw0 (by decide)).mpr h8
  exact vx_throw0 (cls := "java/lang/IllegalArgumentException") (names := nmX) (mc := 1) (ms := 6) hx hb hlt hown (by decide +kernel) (by decide +kernel) (hts _ kw_221) (hts _ kw_10) (x_hat hts hX0 xg_36 xb_36) xo_36 hX0.1 hX0.2.1 hS (hl.1.trans hml.symm) d_PR_quarantine_11 d_PR_quarantine_14 d_PR_quarantine_15 d_PR_quarantine_18 (fun x h => (hne x h).elim) (Nat.le_of_ble_eq_true rfl) (Nat.le_of_ble_eq_true rfl) (Nat.le_of_ble_eq_true rfl) (Nat.le_of_ble_eq_true rfl) hlocks (fun t hv9 hz9 hk9 => ⟨(), trivial, Or.inl ⟨rfl, by omega⟩, ⟨Nat.le_trans hS.1 hz9, fun q h1 h2 => (hk9 q (Nat.lt_of_lt_of_le h1 hS.1)).trans (hU q h1)⟩⟩) hS.2.2 (Nat.le_of_ble_eq_true rfl) (Nat.le_of_ble_eq_true rfl)
set_option maxHeartbeats 4000000 in
set_option maxRecDepth 100000 in
theorem c_PR_root (l : Launch) (hlt : l.stackTraces = false) (dC : Nat → ClassId) (dI : Nat → Nat → Nat) (sz : Nat) (cI : ClassId) (o : Nat) (g : Nat → Nat) (S : LDS) (g2 : Nat → Nat) (S2 : LDS) (jh ja : Nat) (pt : Nat → Int32) (jn : Nat) (hS9 : LDok S) (hjn : jn ≤ 300) (p n w : Nat) (hp0 : p < 4294967296) (hn0 : n < 4294967296) (hw0 : w < 4294967296) : vx_Met l y_PR_root (.code y_PR_root b_PR_root 4 (some .int) :: wG) ({ frames := 8, cells := 1, slots := 6, locals := 200 }) (PcX (dC, dI) [(cI, .int)] (wPR cI o g S g2 S2 jh ja pt jn) [.ref o, .int (nI p), .int (nI n), .int (nI w)] sz) (QpI (dC, dI) cI o g g2 jh ja (wPR cI o g S g2 S2 jh ja pt jn) sz (fun r9 u => ((n < 32 ∧ p % 2 ^ (32 - n) = 0) ∧ w ≤ 9999) ∧ (fst (tbP S.X p n) 0 S.X.n).isSome = false ∧ ¬ S.X.n = 200 ∧ ¬ jn = 300 ∧ r9 = nI S.X.n ∧ u = (((rTop S.X p n w), S.pol, S.td, S.qd, S.wk), S2, (jPut pt jn 1 (nI p) (nI n) (nI w)), jn + 1))) (XCx (fun E9 => (E9 = "java/lang/IllegalArgumentException" ∧ ¬ ((n < 32 ∧ p % 2 ^ (32 - n) = 0) ∧ w ≤ 9999)) ∨ (E9 = "java/lang/IllegalStateException" ∧ ((n < 32 ∧ p % 2 ^ (32 - n) = 0) ∧ w ≤ 9999) ∧ (fst (tbP S.X p n) 0 S.X.n).isSome = true) ∨ (E9 = "java/lang/UnsupportedOperationException" ∧ ((n < 32 ∧ p % 2 ^ (32 - n) = 0) ∧ w ≤ 9999) ∧ (fst (tbP S.X p n) 0 S.X.n).isSome = false ∧ (S.X.n = 200 ∨ jn = 300))) sz) 1 6 (va_A (wPR cI o g S g2 S2 jh ja pt jn) sz) := by
  refine vx_ofW (cc := b_PR_root) (maxL := 4) (ret := (some .int)) (by decide) rfl ?_
  intro pg eg s mg ag bg meth cg s₁ B hml hne hv
  obtain ⟨rfl, hsz, hP, hK, hD0, hN, hX0⟩ := hv
  have hx := B.exec
  have hb := B.bytes
  have hr := B.returns
  have hlocks := B.notSynchronized
  have hts : ∀ w9 ∈ wG, w9.before ([.ref o, .int (nI p), .int (nI n), .int (nI w)] : List Value).toArray s = true := fun w9 h9 => atoms_spec (ws := (.code y_PR_root b_PR_root 4 (some .int) :: wG)) B.pre w9 (List.mem_cons_of_mem _ h9)
  have hown : s.vm.findClass "PrefixRegistry" = some mg.cls := findClass_of_methodNamed B.named
  subst hsz
  have hD := hD0.self (sz := s.heap.size)
  unfold QpI
  generalize hAe : va_A (wPR cI o g S g2 S2 jh ja pt jn) s.heap.size = A at hD hX0 ⊢
  have hA : ∀ q : Nat, s.heap.size ≤ q → A q := fun q h => by rw [← hAe]; exact Or.inr h
  have hS : va_S A s.heap s.heap [] := va_S.rf
  have hU : ∀ q : Nat, q < s.heap.size → s.heap[q]? = s.heap[q]? := fun q _ => rfl
  have hl := lv_entry ([.ref o, .int (nI p), .int (nI n), .int (nI w)]) (n := 4) (Nat.le_of_ble_eq_true rfl)
  rw [lg_entry_eq]
  generalize (lg_sl ([.ref o, .int (nI p), .int (nI n), .int (nI w)]) ++ List.replicate (4 - (lg_sl ([.ref o, .int (nI p), .int (nI n), .int (nI w)])).length) Slot.unset).toArray = ls at hl ⊢
  replace hl : lv_has ls 4 [(0, .ref o), (1, .int (nI p)), (2, .int (nI n)), (3, .int (nI w))] := hl
  replace hP : va_P (dC, dI) classes (wPR cI o g S g2 S2 jh ja pt jn) s.heap := hP
  replace hD : va_D A (wPR cI o g S g2 S2 jh ja pt jn) := hD
  refine lv_iload_n hx hb d_PR_root_0 rfl (lv_at hl 2 rfl) ?_
  refine lv_if_lt hx hb d_PR_root_1 rfl (fun h1 => ?_) (fun h1 => ?_)
  · have h1 := (k_lt0 hn0).mp h1
    exact vx_throw0 (cls := "java/lang/IllegalArgumentException") (names := nmX) (mc := 1) (ms := 6) hx hb hlt hown (by decide +kernel) (by decide +kernel) (hts _ kw_221) (hts _ kw_10) (x_hat hts hX0 xg_36 xb_36) xo_36 hX0.1 hX0.2.1 hS (hl.1.trans hml.symm) d_PR_root_25 d_PR_root_28 d_PR_root_29 d_PR_root_32 (fun x h => (hne x h).elim) (Nat.le_of_ble_eq_true rfl) (Nat.le_of_ble_eq_true rfl) (Nat.le_of_ble_eq_true rfl) (Nat.le_of_ble_eq_true rfl) hlocks (fun t hv9 hz9 hk9 => ⟨(), trivial, Or.inl ⟨rfl, fun q => by omega⟩, ⟨Nat.le_trans hS.1 hz9, fun q h1 h2 => (hk9 q (Nat.lt_of_lt_of_le h1 hS.1)).trans (hU q h1)⟩⟩) hS.2.2 (Nat.le_of_ble_eq_true rfl) (Nat.le_of_ble_eq_true rfl)
  have h1 := mt (k_lt0 hn0).mpr h1
  refine lv_iload_n hx hb d_PR_root_4 rfl (lv_at hl 2 rfl) ?_
  refine lv_bipush (v := 32) hx hb d_PR_root_5 (by decide) ?_
  refine lv_icmp_ge hx hb d_PR_root_7 rfl (fun h7 => ?_) (fun h7 => ?_)
  · have h7 := (k_le' (a := 32) (by decide) hn0).mp h7
    exact vx_throw0 (cls := "java/lang/IllegalArgumentException") (names := nmX) (mc := 1) (ms := 6) hx hb hlt hown (by decide +kernel) (by decide +kernel) (hts _ kw_221) (hts _ kw_10) (x_hat hts hX0 xg_36 xb_36) xo_36 hX0.1 hX0.2.1 hS (hl.1.trans hml.symm) d_PR_root_25 d_PR_root_28 d_PR_root_29 d_PR_root_32 (fun x h => (hne x h).elim) (Nat.le_of_ble_eq_true rfl) (Nat.le_of_ble_eq_true rfl) (Nat.le_of_ble_eq_true rfl) (Nat.le_of_ble_eq_true rfl) hlocks (fun t hv9 hz9 hk9 => ⟨(), trivial, Or.inl ⟨rfl, fun q => by omega⟩, ⟨Nat.le_trans hS.1 hz9, fun q h1 h2 => (hk9 q (Nat.lt_of_lt_of_le h1 hS.1)).trans (hU q h1)⟩⟩) hS.2.2 (Nat.le_of_ble_eq_true rfl) (Nat.le_of_ble_eq_true rfl)
  have h7 := mt (k_le' (a := 32) (by decide) hn0).mpr h7
  refine lv_iload_n hx hb d_PR_root_10 rfl (lv_at hl 1 rfl) ?_
  refine lv_iload_n hx hb d_PR_root_11 rfl (lv_at hl 2 rfl) ?_
  refine vp_callSi (W.runS (As := [.int (nI p), .int (nI n)]) (rest := []) ⟨hx, hb, hml, hown, hts⟩ (c_PR_isAligned l dC dI p n hp0 (by omega)) (cwS 2 hts (gS kw_213 kw_214 kw_1 kw_215) rfl rfl rfl (by decide +kernel) ⟨Nat.le_of_ble_eq_true rfl, Nat.le_of_ble_eq_true rfl⟩) ⟨PcS.blind, PcS.use hP hK hN⟩ rfl rfl hl.1 rfl (lv_room (Nat.le_of_ble_eq_true rfl)) d_PR_root_12 ⟨Nat.zero_le _, Nat.zero_le _⟩) (fun r12 hr12 => ?_)
  obtain rfl : r12 = bi (decide (p % 2 ^ (32 - n) = 0)) := hr12
  refine lv_if_eq hx hb d_PR_root_15 rfl (fun h15 => ?_) (fun h15 => ?_)
  · have h15 := bi_d.mp h15
    exact vx_throw0 (cls := "java/lang/IllegalArgumentException") (names := nmX) (mc := 1) (ms := 6) hx hb hlt hown (by decide +kernel) (by decide +kernel) (hts _ kw_221) (hts _ kw_10) (x_hat hts hX0 xg_36 xb_36) xo_36 hX0.1 hX0.2.1 hS (hl.1.trans hml.symm) d_PR_root_25 d_PR_root_28 d_PR_root_29 d_PR_root_32 (fun x h => (hne x h).elim) (Nat.le_of_ble_eq_true rfl) (Nat.le_of_ble_eq_true rfl) (Nat.le_of_ble_eq_true rfl) (Nat.le_of_ble_eq_true rfl) hlocks (fun t hv9 hz9 hk9 => ⟨(), trivial, Or.inl ⟨rfl, fun q => h15 q.1.2⟩, ⟨Nat.le_trans hS.1 hz9, fun q h1 h2 => (hk9 q (Nat.lt_of_lt_of_le h1 hS.1)).trans (hU q h1)⟩⟩) hS.2.2 (Nat.le_of_ble_eq_true rfl) (Nat.le_of_ble_eq_true rfl)
  have h15 := Decidable.not_not.mp (mt bi_d.mpr h15)
  refine lv_iload_n hx hb d_PR_root_18 rfl (lv_at hl 3 rfl) ?_
  refine vp_callSi (W.runS (As := [.int (nI w)]) (rest := []) ⟨hx, hb, hml, hown, hts⟩ (c_PR_isHolder l dC dI w hw0) (cwS 1 hts (gS kw_218 kw_219 kw_1 kw_220) rfl rfl rfl (by decide +kernel) ⟨Nat.le_of_ble_eq_true rfl, Nat.le_of_ble_eq_true rfl⟩) ⟨PcS.blind, PcS.use hP hK hN⟩ rfl rfl hl.1 rfl (lv_room (Nat.le_of_ble_eq_true rfl)) d_PR_root_19 ⟨Nat.zero_le _, Nat.zero_le _⟩) (fun r19 hr19 => ?_)
  obtain rfl : r19 = bi (decide (w ≤ 9999)) := hr19
  refine lv_if_ne hx hb d_PR_root_22 rfl (fun h22 => ?_) (fun h22 => ?_)
  · have h22 := Decidable.not_not.mp (mt bi_d.mpr h22)
    refine lv_aload_n hx hb d_PR_root_33 rfl (lv_at hl 0 rfl) ?_
    refine va_get (D := (dC, dI)) (ci := 4) (v := .ref (g 0)) (C := R_PR) (T := F_PR) (N := 3) hx hb hts u_PR hown hK hP 0 rfl rfl 0 (by decide) (hts _ kw_146) (fun _ h9 => h9) rfl d_PR_root_34 ?_
    refine lv_iload_n hx hb d_PR_root_37 rfl (lv_at hl 1 rfl) ?_
    refine lv_iload_n hx hb d_PR_root_38 rfl (lv_at hl 2 rfl) ?_
    refine vp_callSi (W.runV (b := (g 0)) (As := [.int (nI p), .int (nI n)]) (rest := []) ⟨hx, hb, hml, hown, hts⟩ (c_Le_topBlockMeets l dC dI cI g S.X hS9.1 S.pol S.td S.qd S.wk p n hp0 (by omega)) (cwV 2 hts (gV kw_285 kw_286 kw_287 kw_2 kw_288) rfl rfl rfl (by decide +kernel) ⟨Nat.le_of_ble_eq_true rfl, Nat.le_of_ble_eq_true rfl⟩) ⟨PcS.blind, va_recv (q0 := 0) hK (hP.sub (ws' := wLe cI g S.X S.pol S.td S.qd S.wk) [1, 2, 3, 4, 5, 6, 7, 8, 9, 10, 11, 12, 13] rfl) rfl rfl, PcS.use (hP.sub (ws' := wLe cI g S.X S.pol S.td S.qd S.wk) [1, 2, 3, 4, 5, 6, 7, 8, 9, 10, 11, 12, 13] rfl) hK hN⟩ rfl rfl hl.1 rfl (lv_room (Nat.le_of_ble_eq_true rfl)) d_PR_root_39 ⟨Nat.zero_le _, Nat.zero_le _⟩) (fun r39 hr39 => ?_)
    obtain rfl : r39 = bi (fst (tbP S.X p n) 0 S.X.n).isSome := hr39
    refine lv_if_eq hx hb d_PR_root_42 rfl (fun h42 => ?_) (fun h42 => ?_)
    · have h42 : (fst (tbP S.X p n) 0 S.X.n).isSome = false := bi_eq0.mp h42
      refine lv_aload_n hx hb d_PR_root_53 rfl (lv_at hl 0 rfl) ?_
      refine va_get (D := (dC, dI)) (ci := 4) (v := .ref (g 0)) (C := R_PR) (T := F_PR) (N := 3) hx hb hts u_PR hown hK hP 0 rfl rfl 0 (by decide) (hts _ kw_146) (fun _ h9 => h9) rfl d_PR_root_54 ?_
      refine va_getN (D := (dC, dI)) (ci := 2) (v := .ref (g 3)) (C := R_Le) (T := F_Le) (N := 5) hx hb hts u_Le hown hK hP 1 rfl rfl 0 (by decide) (va_Nw.use rfl (hN.at 113 nw_113 rfl)) (fun _ h9 => h9) rfl d_PR_root_57 ?_
      refine vp_callSi (W.runV (b := (g 3)) (As := []) (rest := []) ⟨hx, hb, hml, hown, hts⟩ (c_Re_areFull l dC dI cI (g 3) (fun k => g (4 + k)) S.X hS9.1 ) (cwV 0 hts (gV kw_313 kw_314 kw_315 kw_3 kw_316) rfl rfl rfl (by decide +kernel) ⟨Nat.le_of_ble_eq_true rfl, Nat.le_of_ble_eq_true rfl⟩) ⟨PcS.blind, va_recv (q0 := 0) hK (hP.sub (ws' := wRe cI (g 3) (fun k => g (4 + k)) S.X) [4, 5, 6, 7, 8, 9, 10, 11, 12, 13] rfl) rfl rfl, PcS.use (hP.sub (ws' := wRe cI (g 3) (fun k => g (4 + k)) S.X) [4, 5, 6, 7, 8, 9, 10, 11, 12, 13] rfl) hK hN⟩ rfl rfl hl.1 rfl (lv_room (Nat.le_of_ble_eq_true rfl)) d_PR_root_60 ⟨Nat.zero_le _, Nat.zero_le _⟩) (fun r60 hr60 => ?_)
      obtain rfl : r60 = bi (decide (S.X.n = 200)) := hr60
      refine lv_if_eq hx hb d_PR_root_63 rfl (fun h63 => ?_) (fun h63 => ?_)
      · have h63 := bi_d.mp h63
        refine lv_aload_n hx hb d_PR_root_74 rfl (lv_at hl 0 rfl) ?_
        refine lv_iconst (v := 1) hx hb d_PR_root_75 (by decide) ?_
        refine lv_iload_n hx hb d_PR_root_76 rfl (lv_at hl 1 rfl) ?_
        refine lv_iload_n hx hb d_PR_root_77 rfl (lv_at hl 2 rfl) ?_
        refine lv_iload_n hx hb d_PR_root_78 rfl (lv_at hl 3 rfl) ?_
        have hPc := hP.sub (ws' := (wPR cI o g S g2 S2 jh ja pt jn)) [0, 1, 2, 3, 4, 5, 6, 7, 8, 9, 10, 11, 12, 13, 14, 15, 16, 17, 18, 19, 20, 21, 22, 23, 24, 25, 26, 27, 28] rfl
        have hDc := hD.sub (ws' := (wPR cI o g S g2 S2 jh ja pt jn)) [0, 1, 2, 3, 4, 5, 6, 7, 8, 9, 10, 11, 12, 13, 14, 15, 16, 17, 18, 19, 20, 21, 22, 23, 24, 25, 26, 27, 28] (by decide) rfl
        have hFc := va_free (wc := (wPR cI o g S g2 S2 jh ja pt jn)) hD hS hA [0, 1, 2, 3, 4, 5, 6, 7, 8, 9, 10, 11, 12, 13, 14, 15, 16, 17, 18, 19, 20, 21, 22, 23, 24, 25, 26, 27, 28] rfl
        have hS0 := hS.1
        refine vx_calli (vx_runV (b := o) (As := [.int 1, .int (nI p), .int (nI n), .int (nI w)]) (rest := []) ⟨hx, hb, hml, hown, hts⟩ (c_PR_accept_1 l hlt dC dI s.heap.size cI o g S g2 S2 jh ja pt jn hjn (by have := hS9.1.n; omega) p n w) (cwV 4 hts (gV kw_332 kw_334 ks_1 kw_1 kw_335) rfl rfl rfl (by decide +kernel) ⟨Nat.le_of_ble_eq_true rfl, Nat.le_of_ble_eq_true rfl⟩) ⟨PcX.blind, va_recv (q0 := 0) hK hPc rfl rfl, PcX.use hPc hK hN hDc hX0 hS hFc⟩ rfl rfl hl.1 rfl (lv_room (Nat.le_of_ble_eq_true rfl)) d_PR_root_79 ⟨Nat.le_of_ble_eq_true rfl, Nat.le_of_ble_eq_true rfl⟩) hS (fun q _ h => hFc q h) hFc (fun q h1 h2 => absurd h2 (Nat.not_le.mpr h1)) (fun E9 ce q9 u9 H9 H1 locs hH9 hv9 _ hB hz1 hk1 hS hce hcv hcl => ?_) (fun r79 u9 H9 H1 locs hH9 hv9 hp9 hB hz1 hk1 hS => ?_)
        · exact vx_out (E := E9) (fun x h => (hne x h).elim) hlocks hce hcv hcl (fun t ht hv => ⟨(), trivial, Or.inr (Or.inr ⟨hB.1, ⟨⟨by omega, h15⟩, h22⟩, h42, Or.inr hB.2⟩), Nat.le_trans hS.1 (Nat.le_of_eq (congrArg Array.size ht.symm)), fun q h1 h2 => (congrArg (fun h9 : Heap => h9[q]?) ht).trans ((hk1 q (Nat.lt_of_lt_of_le h1 hS0) (Nat.not_le.mpr (Nat.lt_of_lt_of_le h1 hS0))).trans (hU q h1))⟩) hS.2.2 (Nat.le_of_ble_eq_true rfl) (Nat.le_of_ble_eq_true rfl)
        obtain ⟨hr9, hj9⟩ : r79 = nI S.X.n ∧ ¬ jn = 300 := hp9
        subst hr9
        obtain ⟨hP1, hK1, hD1⟩ := hB
        rw [hH9] at hP1
        obtain ⟨hP, hD⟩ := va_join (wr := []) (w1 := (wPR cI o g ((rTop S.X p n w), S.pol, S.td, S.qd, S.wk) g2 S2 jh ja (jPut pt jn 1 (nI p) (nI n) (nI w)) (jn + 1))) hP hD [0, 1, 2, 3, 4, 5, 6, 7, 8, 9, 10, 11, 12, 13, 14, 15, 16, 17, 18, 19, 20, 21, 22, 23, 24, 25, 26, 27, 28] [] rfl rfl (by decide) (by decide) hk1 hFc hP1 hD1
        clear hPc hDc hFc hP1 hD1 hK1 hk1 hz1 hv9 hH9 hU hS0
        generalize H1 = H at hP hS ⊢
        replace hP : va_P (dC, dI) classes (wPR cI o g ((rTop S.X p n w), S.pol, S.td, S.qd, S.wk) g2 S2 jh ja (jPut pt jn 1 (nI p) (nI n) (nI w)) (jn + 1)) H := hP
        replace hD : va_D A (wPR cI o g ((rTop S.X p n w), S.pol, S.td, S.qd, S.wk) g2 S2 jh ja (jPut pt jn 1 (nI p) (nI n) (nI w)) (jn + 1)) := hD
        refine vx_ret ?_
        refine W.widen (k := 1) (n := 6) (Nat.le_of_ble_eq_true rfl) (Nat.le_of_ble_eq_true rfl) ?_
        have hP9 : va_P (dC, dI) classes (wUS cI o g g2 jh ja (((rTop S.X p n w), S.pol, S.td, S.qd, S.wk), S2, (jPut pt jn 1 (nI p) (nI n) (nI w)), jn + 1)) H := hP
        have hD9 : va_D A (wUS cI o g g2 jh ja (((rTop S.X p n w), S.pol, S.td, S.qd, S.wk), S2, (jPut pt jn 1 (nI p) (nI n) (nI w)), jn + 1)) := hD
        exact W.iret (v := nI S.X.n) hx hb hr (fun t ht hW => ⟨⟨nI S.X.n, (((rTop S.X p n w), S.pol, S.td, S.qd, S.wk), S2, (jPut pt jn 1 (nI p) (nI n) (nI w)), jn + 1), rfl, ⟨⟨⟨by omega, h15⟩, h22⟩, h42, h63, hj9, rfl, rfl⟩, by rw [ht]; exact hP9, va_K.moved hW.alike hK, hD9⟩, hS.F ht⟩) hS.2.2 d_PR_root_82
      have h63 := Decidable.not_not.mp (mt bi_d.mpr h63)
      exact vx_throw0 (cls := "java/lang/UnsupportedOperationException") (names := nmX) (mc := 1) (ms := 6) hx hb hlt hown (by decide +kernel) (by decide +kernel) (hts _ kw_317) (hts _ kw_12) (x_hat hts hX0 xg_55 xb_55) xo_55 hX0.1 hX0.2.1 hS (hl.1.trans hml.symm) d_PR_root_66 d_PR_root_69 d_PR_root_70 d_PR_root_73 (fun x h => (hne x h).elim) (Nat.le_of_ble_eq_true rfl) (Nat.le_of_ble_eq_true rfl) (Nat.le_of_ble_eq_true rfl) (Nat.le_of_ble_eq_true rfl) hlocks (fun t hv9 hz9 hk9 => ⟨(), trivial, Or.inr (Or.inr ⟨rfl, ⟨⟨by omega, h15⟩, h22⟩, h42, Or.inl h63⟩), ⟨Nat.le_trans hS.1 hz9, fun q h1 h2 => (hk9 q (Nat.lt_of_lt_of_le h1 hS.1)).trans (hU q h1)⟩⟩) hS.2.2 (Nat.le_of_ble_eq_true rfl) (Nat.le_of_ble_eq_true rfl)
    have h42 : (fst (tbP S.X p n) 0 S.X.n).isSome = true := bi_n0 h42
    exact vx_throw0 (cls := "java/lang/IllegalStateException") (names := nmX) (mc := 1) (ms := 6) hx hb hlt hown (by decide +kernel) (by decide +kernel) (hts _ kw_298) (hts _ kw_11) (x_hat hts hX0 xg_42 xb_42) xo_42 hX0.1 hX0.2.1 hS (hl.1.trans hml.symm) d_PR_root_45 d_PR_root_48 d_PR_root_49 d_PR_root_52 (fun x h => (hne x h).elim) (Nat.le_of_ble_eq_true rfl) (Nat.le_of_ble_eq_true rfl) (Nat.le_of_ble_eq_true rfl) (Nat.le_of_ble_eq_true rfl) hlocks (fun t hv9 hz9 hk9 => ⟨(), trivial, Or.inr (Or.inl ⟨rfl, ⟨⟨by omega, h15⟩, h22⟩, h42⟩), ⟨Nat.le_trans hS.1 hz9, fun q h1 h2 => (hk9 q (Nat.lt_of_lt_of_le h1 hS.1)).trans (hU q h1)⟩⟩) hS.2.2 (Nat.le_of_ble_eq_true rfl) (Nat.le_of_ble_eq_true rfl)
  have h22 := bi_d.mp h22
  exact vx_throw0 (cls := "java/lang/IllegalArgumentException") (names := nmX) (mc := 1) (ms := 6) hx hb hlt hown (by decide +kernel) (by decide +kernel) (hts _ kw_221) (hts _ kw_10) (x_hat hts hX0 xg_36 xb_36) xo_36 hX0.1 hX0.2.1 hS (hl.1.trans hml.symm) d_PR_root_25 d_PR_root_28 d_PR_root_29 d_PR_root_32 (fun x h => (hne x h).elim) (Nat.le_of_ble_eq_true rfl) (Nat.le_of_ble_eq_true rfl) (Nat.le_of_ble_eq_true rfl) (Nat.le_of_ble_eq_true rfl) hlocks (fun t hv9 hz9 hk9 => ⟨(), trivial, Or.inl ⟨rfl, fun q => h22 q.2⟩, ⟨Nat.le_trans hS.1 hz9, fun q h1 h2 => (hk9 q (Nat.lt_of_lt_of_le h1 hS.1)).trans (hU q h1)⟩⟩) hS.2.2 (Nat.le_of_ble_eq_true rfl) (Nat.le_of_ble_eq_true rfl)
set_option maxHeartbeats 4000000 in
set_option maxRecDepth 100000 in
theorem c_PR_give (l : Launch) (hlt : l.stackTraces = false) (dC : Nat → ClassId) (dI : Nat → Nat → Nat) (sz : Nat) (cI : ClassId) (o : Nat) (g : Nat → Nat) (S : LDS) (g2 : Nat → Nat) (S2 : LDS) (jh ja : Nat) (pt : Nat → Int32) (jn : Nat) (hS9 : LDok S) (hjn : jn ≤ 300) (x : Nat) (hx0 : x < 4294967296) : vx_Met l y_PR_give (.code y_PR_give b_PR_give 2 none :: wG) ({ frames := 8, cells := 2, slots := 12, locals := 200 }) (PcX (dC, dI) [(cI, .int)] (wPR cI o g S g2 S2 jh ja pt jn) [.ref o, .int (nI x)] sz) (QpV (dC, dI) cI o g g2 jh ja (wPR cI o g S g2 S2 jh ja pt jn) sz (fun u => x < S.X.n ∧ S.X.sta x = 2 ∧ ¬ jn = 300 ∧ u = (((rSta S.X x 1), S.pol, S.td, S.qd, S.wk), S2, (jPut pt jn 4 (nI x) 0 0), jn + 1))) (XCx (fun E9 => (E9 = "java/lang/IndexOutOfBoundsException" ∧ ¬ x < S.X.n) ∨ (E9 = "java/lang/IllegalStateException" ∧ x < S.X.n ∧ ¬ S.X.sta x = 2) ∨ (E9 = "java/lang/UnsupportedOperationException" ∧ x < S.X.n ∧ S.X.sta x = 2 ∧ jn = 300)) sz) 2 12 (va_A (wPR cI o g S g2 S2 jh ja pt jn) sz) := by
  refine vx_ofW (cc := b_PR_give) (maxL := 2) (ret := none) (by decide) rfl ?_
  intro pg eg s mg ag bg meth cg s₁ B hml hne hv
  obtain ⟨rfl, hsz, hP, hK, hD0, hN, hX0⟩ := hv
  have hx := B.exec
  have hb := B.bytes
  have hr := B.returns
  have hlocks := B.notSynchronized
  have hts : ∀ w9 ∈ wG, w9.before ([.ref o, .int (nI x)] : List Value).toArray s = true := fun w9 h9 => atoms_spec (ws := (.code y_PR_give b_PR_give 2 none :: wG)) B.pre w9 (List.mem_cons_of_mem _ h9)
  have hown : s.vm.findClass "PrefixRegistry" = some mg.cls := findClass_of_methodNamed B.named
  subst hsz
  have hD := hD0.self (sz := s.heap.size)
  unfold QpV
  generalize hAe : va_A (wPR cI o g S g2 S2 jh ja pt jn) s.heap.size = A at hD hX0 ⊢
  have hA : ∀ q : Nat, s.heap.size ≤ q → A q := fun q h => by rw [← hAe]; exact Or.inr h
  have hS : va_S A s.heap s.heap [] := va_S.rf
  have hU : ∀ q : Nat, q < s.heap.size → s.heap[q]? = s.heap[q]? := fun q _ => rfl
  have hl := lv_entry ([.ref o, .int (nI x)]) (n := 2) (Nat.le_of_ble_eq_true rfl)
  rw [lg_entry_eq]
  generalize (lg_sl ([.ref o, .int (nI x)]) ++ List.replicate (2 - (lg_sl ([.ref o, .int (nI x)])).length) Slot.unset).toArray = ls at hl ⊢
  replace hl : lv_has ls 2 [(0, .ref o), (1, .int (nI x))] := hl
  replace hP : va_P (dC, dI) classes (wPR cI o g S g2 S2 jh ja pt jn) s.heap := hP
  replace hD : va_D A (wPR cI o g S g2 S2 jh ja pt jn) := hD
  refine lv_aload_n hx hb d_PR_give_0 rfl (lv_at hl 0 rfl) ?_
  refine lv_iload_n hx hb d_PR_give_1 rfl (lv_at hl 1 rfl) ?_
  have hS0 := hS.1
  refine vx_callv (vx_runV (b := o) (As := [.int (nI x)]) (rest := []) ⟨hx, hb, hml, hown, hts⟩ (c_PR_refuseUnknown l hlt dC dI s.heap.size cI o g S g2 S2 jh ja pt jn hS9 hjn x hx0) (cwV 1 hts (gV kw_518 kw_520 ks_19 kw_1 kw_521) rfl rfl rfl (by decide +kernel) ⟨Nat.le_of_ble_eq_true rfl, Nat.le_of_ble_eq_true rfl⟩) ⟨PcR.blind, va_recv (q0 := 0) hK hP rfl rfl, PcR.use hP hK hN hX0 hS hA⟩ rfl rfl hl.1 rfl (lv_room (Nat.le_of_ble_eq_true rfl)) d_PR_give_2 ⟨Nat.le_of_ble_eq_true rfl, Nat.le_of_ble_eq_true rfl⟩) hS (fun q h1 h2 => absurd h2 (Nat.not_le.mpr h1)) (fun q h => hA q (Nat.le_trans hS.1 h)) (fun q h1 h2 => absurd h2 (Nat.not_le.mpr h1)) (fun E9 ce q9 u9 H9 H1 locs hH9 hv9 _ hB hz1 hk1 hS hce hcv hcl => ?_) (fun u9 H9 H1 locs hH9 hv9 hp9 _ hz1 hk1 hS => ?_)
  · exact vx_out (E := E9) (fun x h => (hne x h).elim) hlocks hce hcv hcl (fun t ht hv => ⟨(), trivial, Or.inl hB, by rw [ht]; exact hS.1, fun q h1 h2 => by rw [ht]; exact (hk1 q (Nat.lt_of_lt_of_le h1 hS0) (Nat.not_le.mpr (Nat.lt_of_lt_of_le h1 hS0))).trans (hU q h1)⟩) hS.2.2 (Nat.le_of_ble_eq_true rfl) (Nat.le_of_ble_eq_true rfl)
  replace hU : ∀ q : Nat, q < s.heap.size → H1[q]? = s.heap[q]? := fun q h1 => (hk1 q (Nat.lt_of_lt_of_le h1 hS0) (Nat.not_le.mpr (Nat.lt_of_lt_of_le h1 hS0))).trans (hU q h1)
  replace hP := x_keep hP hk1
  clear hk1 hz1 hv9 hH9 hS0
  generalize H1 = H at hP hS hU ⊢
  have h2 := hp9
  refine lv_aload_n hx hb d_PR_give_5 rfl (lv_at hl 0 rfl) ?_
  refine va_get (D := (dC, dI)) (ci := 4) (v := .ref (g 0)) (C := R_PR) (T := F_PR) (N := 3) hx hb hts u_PR hown hK hP 0 rfl rfl 0 (by decide) (hts _ kw_146) (fun _ h9 => h9) rfl d_PR_give_6 ?_
  refine va_getN (D := (dC, dI)) (ci := 2) (v := .ref (g 3)) (C := R_Le) (T := F_Le) (N := 5) hx hb hts u_Le hown hK hP 1 rfl rfl 0 (by decide) (va_Nw.use rfl (hN.at 113 nw_113 rfl)) (fun _ h9 => h9) rfl d_PR_give_9 ?_
  refine va_getN (D := (dC, dI)) (ci := 3) (v := .ref (g 9)) (C := R_Re) (T := F_Re) (N := 10) hx hb hts u_Re hown hK hP 4 rfl rfl 5 (by decide) (va_Nw.use rfl (hN.at 48 nw_48 rfl)) (fun _ h9 => h9) rfl d_PR_give_12 ?_
  refine lv_iload_n hx hb d_PR_give_15 rfl (lv_at hl 1 rfl) ?_
  refine x_iald (j := x) (v := (nI (S.X.sta x))) hx hb hK hP 10 0 rfl rfl (by have := hS9.1.n; omega) (by decide) rfl rfl d_PR_give_16 ?_
  refine lv_iconst (v := 2) hx hb d_PR_give_17 (by decide) ?_
  refine lv_icmp_eq hx hb d_PR_give_18 rfl (fun h18 => ?_) (fun h18 => ?_)
  · have h18 := (k_eq (b := 2) (by have := hS9.1.sta x; omega) (by decide)).mp h18
    refine lv_aload_n hx hb d_PR_give_29 rfl (lv_at hl 0 rfl) ?_
    refine lv_iconst (v := 4) hx hb d_PR_give_30 (by decide) ?_
    refine lv_iload_n hx hb d_PR_give_31 rfl (lv_at hl 1 rfl) ?_
    refine lv_iconst (v := 0) hx hb d_PR_give_32 (by decide) ?_
    refine lv_iconst (v := 0) hx hb d_PR_give_33 (by decide) ?_
    have hPc := hP.sub (ws' := (wPR cI o g S g2 S2 jh ja pt jn)) [0, 1, 2, 3, 4, 5, 6, 7, 8, 9, 10, 11, 12, 13, 14, 15, 16, 17, 18, 19, 20, 21, 22, 23, 24, 25, 26, 27, 28] rfl
    have hDc := hD.sub (ws' := (wPR cI o g S g2 S2 jh ja pt jn)) [0, 1, 2, 3, 4, 5, 6, 7, 8, 9, 10, 11, 12, 13, 14, 15, 16, 17, 18, 19, 20, 21, 22, 23, 24, 25, 26, 27, 28] (by decide) rfl
    have hFc := va_free (wc := (wPR cI o g S g2 S2 jh ja pt jn)) hD hS hA [0, 1, 2, 3, 4, 5, 6, 7, 8, 9, 10, 11, 12, 13, 14, 15, 16, 17, 18, 19, 20, 21, 22, 23, 24, 25, 26, 27, 28] rfl
    have hS0 := hS.1
    refine vx_calli (vx_runV (b := o) (As := [.int 4, .int (nI x), .int 0, .int 0]) (rest := []) ⟨hx, hb, hml, hown, hts⟩ (c_PR_accept_4 l hlt dC dI H.size cI o g S g2 S2 jh ja pt jn hjn x (by have := hS9.1.n; omega)) (cwV 4 hts (gV kw_332 kw_334 ks_1 kw_1 kw_335) rfl rfl rfl (by decide +kernel) ⟨Nat.le_of_ble_eq_true rfl, Nat.le_of_ble_eq_true rfl⟩) ⟨PcX.blind, va_recv (q0 := 0) hK hPc rfl rfl, PcX.use hPc hK hN hDc hX0 hS hFc⟩ rfl rfl hl.1 rfl (lv_room (Nat.le_of_ble_eq_true rfl)) d_PR_give_34 ⟨Nat.le_of_ble_eq_true rfl, Nat.le_of_ble_eq_true rfl⟩) hS (fun q _ h => hFc q h) hFc (fun q h1 h2 => absurd h2 (Nat.not_le.mpr h1)) (fun E9 ce q9 u9 H9 H1 locs hH9 hv9 _ hB hz1 hk1 hS hce hcv hcl => ?_) (fun r34 u9 H9 H1 locs hH9 hv9 hp9 hB hz1 hk1 hS => ?_)
    · exact vx_out (E := E9) (fun x h => (hne x h).elim) hlocks hce hcv hcl (fun t ht hv => ⟨(), trivial, Or.inr (Or.inr ⟨hB.1, h2, h18, hB.2⟩), Nat.le_trans hS.1 (Nat.le_of_eq (congrArg Array.size ht.symm)), fun q h1 h2 => (congrArg (fun h9 : Heap => h9[q]?) ht).trans ((hk1 q (Nat.lt_of_lt_of_le h1 hS0) (Nat.not_le.mpr (Nat.lt_of_lt_of_le h1 hS0))).trans (hU q h1))⟩) hS.2.2 (Nat.le_of_ble_eq_true rfl) (Nat.le_of_ble_eq_true rfl)
    obtain ⟨hr9, hj9⟩ : r34 = 0 ∧ ¬ jn = 300 := hp9
    subst hr9
    obtain ⟨hP1, hK1, hD1⟩ := hB
    rw [hH9] at hP1
    obtain ⟨hP, hD⟩ := va_join (wr := []) (w1 := (wPR cI o g ((rSta S.X x 1), S.pol, S.td, S.qd, S.wk) g2 S2 jh ja (jPut pt jn 4 (nI x) 0 0) (jn + 1))) hP hD [0, 1, 2, 3, 4, 5, 6, 7, 8, 9, 10, 11, 12, 13, 14, 15, 16, 17, 18, 19, 20, 21, 22, 23, 24, 25, 26, 27, 28] [] rfl rfl (by decide) (by decide) hk1 hFc hP1 hD1
    clear hPc hDc hFc hP1 hD1 hK1 hk1 hz1 hv9 hH9 hU hS0
    generalize H1 = H at hP hS ⊢
    replace hP : va_P (dC, dI) classes (wPR cI o g ((rSta S.X x 1), S.pol, S.td, S.qd, S.wk) g2 S2 jh ja (jPut pt jn 4 (nI x) 0 0) (jn + 1)) H := hP
    replace hD : va_D A (wPR cI o g ((rSta S.X x 1), S.pol, S.td, S.qd, S.wk) g2 S2 jh ja (jPut pt jn 4 (nI x) 0 0) (jn + 1)) := hD
    refine lv_pop hx hb d_PR_give_37 rfl ?_
    refine vx_ret ?_
    refine W.widen (k := 2) (n := 12) (Nat.le_of_ble_eq_true rfl) (Nat.le_of_ble_eq_true rfl) ?_
    have hP9 : va_P (dC, dI) classes (wUS cI o g g2 jh ja (((rSta S.X x 1), S.pol, S.td, S.qd, S.wk), S2, (jPut pt jn 4 (nI x) 0 0), jn + 1)) H := hP
    have hD9 : va_D A (wUS cI o g g2 jh ja (((rSta S.X x 1), S.pol, S.td, S.qd, S.wk), S2, (jPut pt jn 4 (nI x) 0 0), jn + 1)) := hD
    exact W.vret hx hb hr (fun t ht hW => ⟨⟨(((rSta S.X x 1), S.pol, S.td, S.qd, S.wk), S2, (jPut pt jn 4 (nI x) 0 0), jn + 1), rfl, ⟨h2, h18, hj9, rfl⟩, by rw [ht]; exact hP9, va_K.moved hW.alike hK, hD9⟩, hS.F ht⟩) hS.2.2 d_PR_give_38
  have h18 := mt (k_eq (b := 2) (by have := hS9.1.sta x; omega) (by decide)).mpr h18
  exact vx_throw0 (cls := "java/lang/IllegalStateException") (names := nmX) (mc := 2) (ms := 12) hx hb hlt hown (by decide +kernel) (by decide +kernel) (hts _ kw_298) (hts _ kw_11) (x_hat hts hX0 xg_42 xb_42) xo_42 hX0.1 hX0.2.1 hS (hl.1.trans hml.symm) d_PR_give_21 d_PR_give_24 d_PR_give_25 d_PR_give_28 (fun x h => (hne x h).elim) (Nat.le_of_ble_eq_true rfl) (Nat.le_of_ble_eq_true rfl) (Nat.le_of_ble_eq_true rfl) (Nat.le_of_ble_eq_true rfl) hlocks (fun t hv9 hz9 hk9 => ⟨(), trivial, Or.inr (Or.inl ⟨rfl, h2, h18⟩), ⟨Nat.le_trans hS.1 hz9, fun q h1 h2 => (hk9 q (Nat.lt_of_lt_of_le h1 hS.1)).trans (hU q h1)⟩⟩) hS.2.2 (Nat.le_of_ble_eq_true rfl) (Nat.le_of_ble_eq_true rfl)
set_option maxHeartbeats 4000000 in
set_option maxRecDepth 100000 in
theorem c_PR_transfer (l : Launch) (hlt : l.stackTraces = false) (dC : Nat → ClassId) (dI : Nat → Nat → Nat) (sz : Nat) (cI : ClassId) (o : Nat) (g : Nat → Nat) (S : LDS) (g2 : Nat → Nat) (S2 : LDS) (jh ja : Nat) (pt : Nat → Int32) (jn : Nat) (hS9 : LDok S) (hjn : jn ≤ 300) (x w : Nat) (hx0 : x < 4294967296) (hw0 : w < 4294967296) : vx_Met l y_PR_transfer (.code y_PR_transfer b_PR_transfer 3 (some .int) :: wG) ({ frames := 8, cells := 2, slots := 12, locals := 200 }) (PcX (dC, dI) [(cI, .int)] (wPR cI o g S g2 S2 jh ja pt jn) [.ref o, .int (nI x), .int (nI w)] sz) (QpI (dC, dI) cI o g g2 jh ja (wPR cI o g S g2 S2 jh ja pt jn) sz (fun r9 u => x < S.X.n ∧ w ≤ 9999 ∧ S.X.sta x ≠ 4 ∧ ¬ jn = 300 ∧ r9 = nI (hov S.X x w 0 S.X.n S.X.hol 0).2 ∧ u = (((rHol S.X (hov S.X x w 0 S.X.n S.X.hol 0).1), S.pol, S.td, S.qd, S.wk), S2, (jPut pt jn 8 (nI x) (nI w) 0), jn + 1))) (XCx (fun E9 => (E9 = "java/lang/IndexOutOfBoundsException" ∧ ¬ x < S.X.n) ∨ (E9 = "java/lang/IllegalArgumentException" ∧ x < S.X.n ∧ ¬ w ≤ 9999) ∨ (E9 = "java/lang/IllegalStateException" ∧ x < S.X.n ∧ w ≤ 9999 ∧ ¬ S.X.sta x ≠ 4) ∨ (E9 = "java/lang/UnsupportedOperationException" ∧ x < S.X.n ∧ w ≤ 9999 ∧ S.X.sta x ≠ 4 ∧ jn = 300)) sz) 2 12 (va_A (wPR cI o g S g2 S2 jh ja pt jn) sz) := by
  refine vx_ofW (cc := b_PR_transfer) (maxL := 3) (ret := (some .int)) (by decide) rfl ?_
  intro pg eg s mg ag bg meth cg s₁ B hml hne hv
  obtain ⟨rfl, hsz, hP, hK, hD0, hN, hX0⟩ := hv
  have hx := B.exec
  have hb := B.bytes
  have hr := B.returns
  have hlocks := B.notSynchronized
  have hts : ∀ w9 ∈ wG, w9.before ([.ref o, .int (nI x), .int (nI w)] : List Value).toArray s = true := fun w9 h9 => atoms_spec (ws := (.code y_PR_transfer b_PR_transfer 3 (some .int) :: wG)) B.pre w9 (List.mem_cons_of_mem _ h9)
  have hown : s.vm.findClass "PrefixRegistry" = some mg.cls := findClass_of_methodNamed B.named
  subst hsz
  have hD := hD0.self (sz := s.heap.size)
  unfold QpI
  generalize hAe : va_A (wPR cI o g S g2 S2 jh ja pt jn) s.heap.size = A at hD hX0 ⊢
  have hA : ∀ q : Nat, s.heap.size ≤ q → A q := fun q h => by rw [← hAe]; exact Or.inr h
  have hS : va_S A s.heap s.heap [] := va_S.rf
  have hU : ∀ q : Nat, q < s.heap.size → s.heap[q]? = s.heap[q]? := fun q _ => rfl
  have hl := lv_entry ([.ref o, .int (nI x), .int (nI w)]) (n := 3) (Nat.le_of_ble_eq_true rfl)
  rw [lg_entry_eq]
  generalize (lg_sl ([.ref o, .int (nI x), .int (nI w)]) ++ List.replicate (3 - (lg_sl ([.ref o, .int (nI x), .int (nI w)])).length) Slot.unset).toArray = ls at hl ⊢
  replace hl : lv_has ls 3 [(0, .ref o), (1, .int (nI x)), (2, .int (nI w))] := hl
  replace hP : va_P (dC, dI) classes (wPR cI o g S g2 S2 jh ja pt jn) s.heap := hP
  replace hD : va_D A (wPR cI o g S g2 S2 jh ja pt jn) := hD
  refine lv_aload_n hx hb d_PR_transfer_0 rfl (lv_at hl 0 rfl) ?_
  refine lv_iload_n hx hb d_PR_transfer_1 rfl (lv_at hl 1 rfl) ?_
  have hS0 := hS.1
  refine vx_callv (vx_runV (b := o) (As := [.int (nI x)]) (rest := []) ⟨hx, hb, hml, hown, hts⟩ (c_PR_refuseUnknown l hlt dC dI s.heap.size cI o g S g2 S2 jh ja pt jn hS9 hjn x hx0) (cwV 1 hts (gV kw_518 kw_520 ks_19 kw_1 kw_521) rfl rfl rfl (by decide +kernel) ⟨Nat.le_of_ble_eq_true rfl, Nat.le_of_ble_eq_true rfl⟩) ⟨PcR.blind, va_recv (q0 := 0) hK hP rfl rfl, PcR.use hP hK hN hX0 hS hA⟩ rfl rfl hl.1 rfl (lv_room (Nat.le_of_ble_eq_true rfl)) d_PR_transfer_2 ⟨Nat.le_of_ble_eq_true rfl, Nat.le_of_ble_eq_true rfl⟩) hS (fun q h1 h2 => absurd h2 (Nat.not_le.mpr h1)) (fun q h => hA q (Nat.le_trans hS.1 h)) (fun q h1 h2 => absurd h2 (Nat.not_le.mpr h1)) (fun E9 ce q9 u9 H9 H1 locs hH9 hv9 _ hB hz1 hk1 hS hce hcv hcl => ?_) (fun u9 H9 H1 locs hH9 hv9 hp9 _ hz1 hk1 hS => ?_)
  · exact vx_out (E := E9) (fun x h => (hne x h).elim) hlocks hce hcv hcl (fun t ht hv => ⟨(), trivial, Or.inl hB, by rw [ht]; exact hS.1, fun q h1 h2 => by rw [ht]; exact (hk1 q (Nat.lt_of_lt_of_le h1 hS0) (Nat.not_le.mpr (Nat.lt_of_lt_of_le h1 hS0))).trans (hU q h1)⟩) hS.2.2 (Nat.le_of_ble_eq_true rfl) (Nat.le_of_ble_eq_true rfl)
  replace hU : ∀ q : Nat, q < s.heap.size → H1[q]? = s.heap[q]? := fun q h1 => (hk1 q (Nat.lt_of_lt_of_le h1 hS0) (Nat.not_le.mpr (Nat.lt_of_lt_of_le h1 hS0))).trans (hU q h1)
  replace hP := x_keep hP hk1
  clear hk1 hz1 hv9 hH9 hS0
  generalize H1 = H at hP hS hU ⊢
  have h2 := hp9
  refine lv_iload_n hx hb d_PR_transfer_5 rfl (lv_at hl 2 rfl) ?_
  refine vp_callSi (W.runS (As := [.int (nI w)]) (rest := []) ⟨hx, hb, hml, hown, hts⟩ (c_PR_isHolder l dC dI w hw0) (cwS 1 hts (gS kw_218 kw_219 kw_1 kw_220) rfl rfl rfl (by decide +kernel) ⟨Nat.le_of_ble_eq_true rfl, Nat.le_of_ble_eq_true rfl⟩) ⟨PcS.blind, PcS.use hP hK hN⟩ rfl rfl hl.1 rfl (lv_room (Nat.le_of_ble_eq_true rfl)) d_PR_transfer_6 ⟨Nat.le_of_ble_eq_true rfl, Nat.le_of_ble_eq_true rfl⟩) (fun r6 hr6 => ?_)
  obtain rfl : r6 = bi (decide (w ≤ 9999)) := hr6
  refine lv_if_ne hx hb d_PR_transfer_9 rfl (fun h9 => ?_) (fun h9 => ?_)
  · have h9 := Decidable.not_not.mp (mt bi_d.mpr h9)
    refine lv_aload_n hx hb d_PR_transfer_20 rfl (lv_at hl 0 rfl) ?_
    refine va_get (D := (dC, dI)) (ci := 4) (v := .ref (g 0)) (C := R_PR) (T := F_PR) (N := 3) hx hb hts u_PR hown hK hP 0 rfl rfl 0 (by decide) (hts _ kw_146) (fun _ h9 => h9) rfl d_PR_transfer_21 ?_
    refine va_getN (D := (dC, dI)) (ci := 2) (v := .ref (g 3)) (C := R_Le) (T := F_Le) (N := 5) hx hb hts u_Le hown hK hP 1 rfl rfl 0 (by decide) (va_Nw.use rfl (hN.at 113 nw_113 rfl)) (fun _ h9 => h9) rfl d_PR_transfer_24 ?_
    refine lv_iload_n hx hb d_PR_transfer_27 rfl (lv_at hl 1 rfl) ?_
    refine vp_callSi (W.runV (b := (g 3)) (As := [.int (nI x)]) (rest := []) ⟨hx, hb, hml, hown, hts⟩ (c_Re_isLive l dC dI cI (g 3) (fun k => g (4 + k)) S.X hS9.1 x (by have := hS9.1.n; omega)) (cwV 1 hts (gV kw_582 kw_294 kw_295 kw_3 kw_296) rfl rfl rfl (by decide +kernel) ⟨Nat.le_of_ble_eq_true rfl, Nat.le_of_ble_eq_true rfl⟩) ⟨PcS.blind, va_recv (q0 := 0) hK (hP.sub (ws' := wRe cI (g 3) (fun k => g (4 + k)) S.X) [4, 5, 6, 7, 8, 9, 10, 11, 12, 13] rfl) rfl rfl, PcS.use (hP.sub (ws' := wRe cI (g 3) (fun k => g (4 + k)) S.X) [4, 5, 6, 7, 8, 9, 10, 11, 12, 13] rfl) hK hN⟩ rfl rfl hl.1 rfl (lv_room (Nat.le_of_ble_eq_true rfl)) d_PR_transfer_28 ⟨Nat.le_of_ble_eq_true rfl, Nat.le_of_ble_eq_true rfl⟩) (fun r28 hr28 => ?_)
    obtain rfl : r28 = bi (decide (S.X.sta x ≠ 4)) := hr28
    refine lv_if_ne hx hb d_PR_transfer_31 rfl (fun h31 => ?_) (fun h31 => ?_)
    · have h31 := Decidable.not_not.mp (mt bi_d.mpr h31)
      refine lv_aload_n hx hb d_PR_transfer_42 rfl (lv_at hl 0 rfl) ?_
      refine lv_bipush (v := 8) hx hb d_PR_transfer_43 (by decide) ?_
      refine lv_iload_n hx hb d_PR_transfer_45 rfl (lv_at hl 1 rfl) ?_
      refine lv_iload_n hx hb d_PR_transfer_46 rfl (lv_at hl 2 rfl) ?_
      refine lv_iconst (v := 0) hx hb d_PR_transfer_47 (by decide) ?_
      have hPc := hP.sub (ws' := (wPR cI o g S g2 S2 jh ja pt jn)) [0, 1, 2, 3, 4, 5, 6, 7, 8, 9, 10, 11, 12, 13, 14, 15, 16, 17, 18, 19, 20, 21, 22, 23, 24, 25, 26, 27, 28] rfl
      have hDc := hD.sub (ws' := (wPR cI o g S g2 S2 jh ja pt jn)) [0, 1, 2, 3, 4, 5, 6, 7, 8, 9, 10, 11, 12, 13, 14, 15, 16, 17, 18, 19, 20, 21, 22, 23, 24, 25, 26, 27, 28] (by decide) rfl
      have hFc := va_free (wc := (wPR cI o g S g2 S2 jh ja pt jn)) hD hS hA [0, 1, 2, 3, 4, 5, 6, 7, 8, 9, 10, 11, 12, 13, 14, 15, 16, 17, 18, 19, 20, 21, 22, 23, 24, 25, 26, 27, 28] rfl
      have hS0 := hS.1
      refine vx_calli (vx_runV (b := o) (As := [.int 8, .int (nI x), .int (nI w), .int 0]) (rest := []) ⟨hx, hb, hml, hown, hts⟩ (c_PR_accept_8 l hlt dC dI H.size cI o g S g2 S2 jh ja pt jn hjn hS9.1 x (by have := hS9.1.n; omega) w (by omega)) (cwV 4 hts (gV kw_332 kw_334 ks_1 kw_1 kw_335) rfl rfl rfl (by decide +kernel) ⟨Nat.le_of_ble_eq_true rfl, Nat.le_of_ble_eq_true rfl⟩) ⟨PcX.blind, va_recv (q0 := 0) hK hPc rfl rfl, PcX.use hPc hK hN hDc hX0 hS hFc⟩ rfl rfl hl.1 rfl (lv_room (Nat.le_of_ble_eq_true rfl)) d_PR_transfer_48 ⟨Nat.le_of_ble_eq_true rfl, Nat.le_of_ble_eq_true rfl⟩) hS (fun q _ h => hFc q h) hFc (fun q h1 h2 => absurd h2 (Nat.not_le.mpr h1)) (fun E9 ce q9 u9 H9 H1 locs hH9 hv9 _ hB hz1 hk1 hS hce hcv hcl => ?_) (fun r48 u9 H9 H1 locs hH9 hv9 hp9 hB hz1 hk1 hS => ?_)
      · exact vx_out (E := E9) (fun x h => (hne x h).elim) hlocks hce hcv hcl (fun t ht hv => ⟨(), trivial, Or.inr (Or.inr (Or.inr ⟨hB.1, h2, h9, h31, hB.2⟩)), Nat.le_trans hS.1 (Nat.le_of_eq (congrArg Array.size ht.symm)), fun q h1 h2 => (congrArg (fun h9 : Heap => h9[q]?) ht).trans ((hk1 q (Nat.lt_of_lt_of_le h1 hS0) (Nat.not_le.mpr (Nat.lt_of_lt_of_le h1 hS0))).trans (hU q h1))⟩) hS.2.2 (Nat.le_of_ble_eq_true rfl) (Nat.le_of_ble_eq_true rfl)
      obtain ⟨hr9, hj9⟩ : r48 = nI (hov S.X x w 0 S.X.n S.X.hol 0).2 ∧ ¬ jn = 300 := hp9
      subst hr9
      obtain ⟨hP1, hK1, hD1⟩ := hB
      rw [hH9] at hP1
      obtain ⟨hP, hD⟩ := va_join (wr := []) (w1 := (wPR cI o g ((rHol S.X (hov S.X x w 0 S.X.n S.X.hol 0).1), S.pol, S.td, S.qd, S.wk) g2 S2 jh ja (jPut pt jn 8 (nI x) (nI w) 0) (jn + 1))) hP hD [0, 1, 2, 3, 4, 5, 6, 7, 8, 9, 10, 11, 12, 13, 14, 15, 16, 17, 18, 19, 20, 21, 22, 23, 24, 25, 26, 27, 28] [] rfl rfl (by decide) (by decide) hk1 hFc hP1 hD1
      clear hPc hDc hFc hP1 hD1 hK1 hk1 hz1 hv9 hH9 hU hS0
      generalize H1 = H at hP hS ⊢
      replace hP : va_P (dC, dI) classes (wPR cI o g ((rHol S.X (hov S.X x w 0 S.X.n S.X.hol 0).1), S.pol, S.td, S.qd, S.wk) g2 S2 jh ja (jPut pt jn 8 (nI x) (nI w) 0) (jn + 1)) H := hP
      replace hD : va_D A (wPR cI o g ((rHol S.X (hov S.X x w 0 S.X.n S.X.hol 0).1), S.pol, S.td, S.qd, S.wk) g2 S2 jh ja (jPut pt jn 8 (nI x) (nI w) 0) (jn + 1)) := hD
      refine vx_ret ?_
      refine W.widen (k := 2) (n := 12) (Nat.le_of_ble_eq_true rfl) (Nat.le_of_ble_eq_true rfl) ?_
      have hP9 : va_P (dC, dI) classes (wUS cI o g g2 jh ja (((rHol S.X (hov S.X x w 0 S.X.n S.X.hol 0).1), S.pol, S.td, S.qd, S.wk), S2, (jPut pt jn 8 (nI x) (nI w) 0), jn + 1)) H := hP
      have hD9 : va_D A (wUS cI o g g2 jh ja (((rHol S.X (hov S.X x w 0 S.X.n S.X.hol 0).1), S.pol, S.td, S.qd, S.wk), S2, (jPut pt jn 8 (nI x) (nI w) 0), jn + 1)) := hD
      exact W.iret (v := nI (hov S.X x w 0 S.X.n S.X.hol 0).2) hx hb hr (fun t ht hW => ⟨⟨nI (hov S.X x w 0 S.X.n S.X.hol 0).2, (((rHol S.X (hov S.X x w 0 S.X.n S.X.hol 0).1), S.pol, S.td, S.qd, S.wk), S2, (jPut pt jn 8 (nI x) (nI w) 0), jn + 1), rfl, ⟨h2, h9, h31, hj9, rfl, rfl⟩, by rw [ht]; exact hP9, va_K.moved hW.alike hK, hD9⟩, hS.F ht⟩) hS.2.2 d_PR_transfer_51
    have h31 := bi_d.mp h31
    exact vx_throw0 (cls := "java/lang/IllegalStateException") (names := nmX) (mc := 2) (ms := 12) hx hb hlt hown (by decide +kernel) (by decide +kernel) (hts _ kw_298) (hts _ kw_11) (x_hat hts hX0 xg_42 xb_42) xo_42 hX0.1 hX0.2.1 hS (hl.1.trans hml.symm) d_PR_transfer_34 d_PR_transfer_37 d_PR_transfer_38 d_PR_transfer_41 (fun x h => (hne x h).elim) (Nat.le_of_ble_eq_true rfl) (Nat.le_of_ble_eq_true rfl) (Nat.le_of_ble_eq_true rfl) (Nat.le_of_ble_eq_true rfl) hlocks (fun t hv9 hz9 hk9 => ⟨(), trivial, Or.inr (Or.inr (Or.inl ⟨rfl, h2, h9, h31⟩)), ⟨Nat.le_trans hS.1 hz9, fun q h1 h2 => (hk9 q (Nat.lt_of_lt_of_le h1 hS.1)).trans (hU q h1)⟩⟩) hS.2.2 (Nat.le_of_ble_eq_true rfl) (Nat.le_of_ble_eq_true rfl)
  have h9 := bi_d.mp h9
  exact vx_throw0 (cls := "java/lang/IllegalArgumentException") (names := nmX) (mc := 2) (ms := 12) hx hb hlt hown (by decide +kernel) (by decide +kernel) (hts _ kw_221) (hts _ kw_10) (x_hat hts hX0 xg_36 xb_36) xo_36 hX0.1 hX0.2.1 hS (hl.1.trans hml.symm) d_PR_transfer_12 d_PR_transfer_15 d_PR_transfer_16 d_PR_transfer_19 (fun x h => (hne x h).elim) (Nat.le_of_ble_eq_true rfl) (Nat.le_of_ble_eq_true rfl) (Nat.le_of_ble_eq_true rfl) (Nat.le_of_ble_eq_true rfl) hlocks (fun t hv9 hz9 hk9 => ⟨(), trivial, Or.inr (Or.inl ⟨rfl, h2, h9⟩), ⟨Nat.le_trans hS.1 hz9, fun q h1 h2 => (hk9 q (Nat.lt_of_lt_of_le h1 hS.1)).trans (hU q h1)⟩⟩) hS.2.2 (Nat.le_of_ble_eq_true rfl) (Nat.le_of_ble_eq_true rfl)
