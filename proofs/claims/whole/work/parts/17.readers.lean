set_option maxHeartbeats 4000000 in
set_option maxRecDepth 100000 in
theorem c_PR_refuseUnknown (l : Launch) (hlt : l.stackTraces = false) (dC : Nat → ClassId) (dI : Nat → Nat → Nat) (sz : Nat) (cI : ClassId) (o : Nat) (g : Nat → Nat) (S : LDS) (g2 : Nat → Nat) (S2 : LDS) (jh ja : Nat) (pt : Nat → Int32) (jn : Nat) (hS9 : LDok S) (hjn : jn ≤ 300) (x : Nat) (hx0 : x < 4294967296) : vx_Met l y_PR_refuseUnknown (.code y_PR_refuseUnknown b_PR_refuseUnknown 2 none :: wG) ({ frames := 6, cells := 1, slots := 6, locals := 81 }) (PcR (dC, dI) [(cI, .int)] (wPR cI o g S g2 S2 jh ja pt jn) [.ref o, .int (nI x)] sz) (QrV (x < S.X.n) sz) (XCx (fun E9 => E9 = "java/lang/IndexOutOfBoundsException" ∧ ¬ x < S.X.n) sz) 1 6 (fun q => sz ≤ q) := by
  refine vx_ofW (cc := b_PR_refuseUnknown) (maxL := 2) (ret := none) (by decide) rfl ?_
  intro pg eg s mg ag bg meth cg s₁ B hml hne hv
  obtain ⟨rfl, hsz, hP, hK, hN, hX0⟩ := hv
  have hx := B.exec
  have hb := B.bytes
  have hr := B.returns
  have hlocks := B.notSynchronized
  have hts : ∀ w9 ∈ wG, w9.before ([.ref o, .int (nI x)] : List Value).toArray s = true := fun w9 h9 => atoms_spec (ws := (.code y_PR_refuseUnknown b_PR_refuseUnknown 2 none :: wG)) B.pre w9 (List.mem_cons_of_mem _ h9)
  have hown : s.vm.findClass "PrefixRegistry" = some mg.cls := findClass_of_methodNamed B.named
  subst hsz
  have hA : ∀ q : Nat, s.heap.size ≤ q → (fun q : Nat => s.heap.size ≤ q) q := fun q h => h
  have hS : va_S (fun q : Nat => s.heap.size ≤ q) s.heap s.heap [] := va_S.rf
  have hU : ∀ q : Nat, q < s.heap.size → s.heap[q]? = s.heap[q]? := fun q _ => rfl
  have hl := lv_entry ([.ref o, .int (nI x)]) (n := 2) (Nat.le_of_ble_eq_true rfl)
  rw [lg_entry_eq]
  generalize (lg_sl ([.ref o, .int (nI x)]) ++ List.replicate (2 - (lg_sl ([.ref o, .int (nI x)])).length) Slot.unset).toArray = ls at hl ⊢
  replace hl : lv_has ls 2 [(0, .ref o), (1, .int (nI x))] := hl
  replace hP : va_P (dC, dI) classes (wPR cI o g S g2 S2 jh ja pt jn) s.heap := hP
  refine lv_aload_n hx hb d_PR_refuseUnknown_0 rfl (lv_at hl 0 rfl) ?_
  refine va_get (D := (dC, dI)) (ci := 4) (v := .ref (g 0)) (C := R_PR) (T := F_PR) (N := 3) hx hb hts u_PR hown hK hP 0 rfl rfl 0 (by decide) (hts _ kw_146) (fun _ h9 => h9) rfl d_PR_refuseUnknown_1 ?_
  refine va_getN (D := (dC, dI)) (ci := 2) (v := .ref (g 3)) (C := R_Le) (T := F_Le) (N := 5) hx hb hts u_Le hown hK hP 1 rfl rfl 0 (by decide) (va_Nw.use rfl (hN.at 113 nw_113 rfl)) (fun _ h9 => h9) rfl d_PR_refuseUnknown_4 ?_
  refine lv_iload_n hx hb d_PR_refuseUnknown_7 rfl (lv_at hl 1 rfl) ?_
  refine vp_callSi (W.runV (b := (g 3)) (As := [.int (nI x)]) (rest := []) ⟨hx, hb, hml, hown, hts⟩ (c_Re_has l dC dI cI (g 3) (fun k => g (4 + k)) S.X hS9.1 x hx0) (cwV 1 hts (gV kw_522 kw_469 kw_470 kw_3 kw_471) rfl rfl rfl (by decide +kernel) ⟨Nat.le_of_ble_eq_true rfl, Nat.le_of_ble_eq_true rfl⟩) ⟨PcS.blind, va_recv (q0 := 0) hK (hP.sub (ws' := wRe cI (g 3) (fun k => g (4 + k)) S.X) [4, 5, 6, 7, 8, 9, 10, 11, 12, 13] rfl) rfl rfl, PcS.use (hP.sub (ws' := wRe cI (g 3) (fun k => g (4 + k)) S.X) [4, 5, 6, 7, 8, 9, 10, 11, 12, 13] rfl) hK hN⟩ rfl rfl hl.1 rfl (lv_room (Nat.le_of_ble_eq_true rfl)) d_PR_refuseUnknown_8 ⟨Nat.zero_le _, Nat.zero_le _⟩) (fun r8 hr8 => ?_)
  obtain rfl : r8 = bi (decide (x < S.X.n)) := hr8
  refine lv_if_ne hx hb d_PR_refuseUnknown_11 rfl (fun h11 => ?_) (fun h11 => ?_)
  · have h11 := Decidable.not_not.mp (mt bi_d.mpr h11)
    refine vx_ret ?_
    refine W.widen (k := 1) (n := 6) (Nat.le_of_ble_eq_true rfl) (Nat.le_of_ble_eq_true rfl) ?_
    exact W.vret hx hb hr (fun t ht hW => ⟨⟨(), rfl, h11, trivial⟩, ⟨Nat.le_trans hS.1 (Nat.le_of_eq (congrArg Array.size ht.symm)), fun q h1 h2 => (congrArg (fun h9 : Heap => h9[q]?) ht).trans (hU q h1)⟩⟩) hS.2.2 d_PR_refuseUnknown_22
  have h11 := bi_d.mp h11
  exact vx_throw0 (cls := "java/lang/IndexOutOfBoundsException") (names := nmX) (mc := 1) (ms := 6) hx hb hlt hown (by decide +kernel) (by decide +kernel) (hts _ kw_523) (hts _ kw_16) (x_hat hts hX0 xg_130 xb_130) xo_130 hX0.1 hX0.2.1 hS (hl.1.trans hml.symm) d_PR_refuseUnknown_14 d_PR_refuseUnknown_17 d_PR_refuseUnknown_18 d_PR_refuseUnknown_21 (fun x h => (hne x h).elim) (Nat.le_of_ble_eq_true rfl) (Nat.le_of_ble_eq_true rfl) (Nat.le_of_ble_eq_true rfl) (Nat.le_of_ble_eq_true rfl) hlocks (fun t hv9 hz9 hk9 => ⟨(), trivial, ⟨rfl, h11⟩, ⟨Nat.le_trans hS.1 hz9, fun q h1 h2 => (hk9 q (Nat.lt_of_lt_of_le h1 hS.1)).trans (hU q h1)⟩⟩) hS.2.2 (Nat.le_of_ble_eq_true rfl) (Nat.le_of_ble_eq_true rfl)
set_option maxHeartbeats 4000000 in
set_option maxRecDepth 100000 in
theorem c_PR_field (l : Launch) (hlt : l.stackTraces = false) (dC : Nat → ClassId) (dI : Nat → Nat → Nat) (sz : Nat) (cI : ClassId) (o : Nat) (g : Nat → Nat) (S : LDS) (g2 : Nat → Nat) (S2 : LDS) (jh ja : Nat) (pt : Nat → Int32) (jn : Nat) (hS9 : LDok S) (hjn : jn ≤ 300) (x w : Nat) (hx0 : x < 4294967296) (hw0 : w < 4294967296) : vx_Met l y_PR_field (.code y_PR_field b_PR_field 3 (some .int) :: wG) ({ frames := 7, cells := 2, slots := 12, locals := 102 }) (PcR (dC, dI) [(cI, .int)] (wPR cI o g S g2 S2 jh ja pt jn) [.ref o, .int (nI x), .int (nI w)] sz) (QrI (fun r9 => x < S.X.n ∧ w < 7 ∧ r9 = fct S.X x w) sz) (XCx (fun E9 => (E9 = "java/lang/IndexOutOfBoundsException" ∧ ¬ x < S.X.n) ∨ (E9 = "java/lang/IllegalArgumentException" ∧ x < S.X.n ∧ ¬ w < 7)) sz) 2 12 (fun q => sz ≤ q) := by
  refine vx_ofW (cc := b_PR_field) (maxL := 3) (ret := (some .int)) (by decide) rfl ?_
  intro pg eg s mg ag bg meth cg s₁ B hml hne hv
  obtain ⟨rfl, hsz, hP, hK, hN, hX0⟩ := hv
  have hx := B.exec
  have hb := B.bytes
  have hr := B.returns
  have hlocks := B.notSynchronized
  have hts : ∀ w9 ∈ wG, w9.before ([.ref o, .int (nI x), .int (nI w)] : List Value).toArray s = true := fun w9 h9 => atoms_spec (ws := (.code y_PR_field b_PR_field 3 (some .int) :: wG)) B.pre w9 (List.mem_cons_of_mem _ h9)
  have hown : s.vm.findClass "PrefixRegistry" = some mg.cls := findClass_of_methodNamed B.named
  subst hsz
  have hA : ∀ q : Nat, s.heap.size ≤ q → (fun q : Nat => s.heap.size ≤ q) q := fun q h => h
  have hS : va_S (fun q : Nat => s.heap.size ≤ q) s.heap s.heap [] := va_S.rf
  have hU : ∀ q : Nat, q < s.heap.size → s.heap[q]? = s.heap[q]? := fun q _ => rfl
  have hl := lv_entry ([.ref o, .int (nI x), .int (nI w)]) (n := 3) (Nat.le_of_ble_eq_true rfl)
  rw [lg_entry_eq]
  generalize (lg_sl ([.ref o, .int (nI x), .int (nI w)]) ++ List.replicate (3 - (lg_sl ([.ref o, .int (nI x), .int (nI w)])).length) Slot.unset).toArray = ls at hl ⊢
  replace hl : lv_has ls 3 [(0, .ref o), (1, .int (nI x)), (2, .int (nI w))] := hl
  replace hP : va_P (dC, dI) classes (wPR cI o g S g2 S2 jh ja pt jn) s.heap := hP
  refine lv_aload_n hx hb d_PR_field_0 rfl (lv_at hl 0 rfl) ?_
  refine lv_iload_n hx hb d_PR_field_1 rfl (lv_at hl 1 rfl) ?_
  have hS0 := hS.1
  refine vx_callv (vx_runV (b := o) (As := [.int (nI x)]) (rest := []) ⟨hx, hb, hml, hown, hts⟩ (c_PR_refuseUnknown l hlt dC dI s.heap.size cI o g S g2 S2 jh ja pt jn hS9 hjn x hx0) (cwV 1 hts (gV kw_518 kw_520 ks_19 kw_1 kw_521) rfl rfl rfl (by decide +kernel) ⟨Nat.le_of_ble_eq_true rfl, Nat.le_of_ble_eq_true rfl⟩) ⟨PcR.blind, va_recv (q0 := 0) hK hP rfl rfl, PcR.use hP hK hN hX0 hS hA⟩ rfl rfl hl.1 rfl (lv_room (Nat.le_of_ble_eq_true rfl)) d_PR_field_2 ⟨Nat.le_of_ble_eq_true rfl, Nat.le_of_ble_eq_true rfl⟩) hS (fun q h1 h2 => absurd h2 (Nat.not_le.mpr h1)) (fun q h => hA q (Nat.le_trans hS.1 h)) (fun q h1 h2 => absurd h2 (Nat.not_le.mpr h1)) (fun E9 ce q9 u9 H9 H1 locs hH9 hv9 _ hB hz1 hk1 hS hce hcv hcl => ?_) (fun u9 H9 H1 locs hH9 hv9 hp9 _ hz1 hk1 hS => ?_)
  · exact vx_out (E := E9) (fun x h => (hne x h).elim) hlocks hce hcv hcl (fun t ht hv => ⟨(), trivial, Or.inl hB, by rw [ht]; exact hS.1, fun q h1 h2 => by rw [ht]; exact (hk1 q (Nat.lt_of_lt_of_le h1 hS0) (Nat.not_le.mpr (Nat.lt_of_lt_of_le h1 hS0))).trans (hU q h1)⟩) hS.2.2 (Nat.le_of_ble_eq_true rfl) (Nat.le_of_ble_eq_true rfl)
  replace hU : ∀ q : Nat, q < s.heap.size → H1[q]? = s.heap[q]? := fun q h1 => (hk1 q (Nat.lt_of_lt_of_le h1 hS0) (Nat.not_le.mpr (Nat.lt_of_lt_of_le h1 hS0))).trans (hU q h1)
  replace hP := x_keep hP hk1
  clear hk1 hz1 hv9 hH9 hS0
  generalize H1 = H at hP hS hU ⊢
  have h2 := hp9
  refine lv_iload_n hx hb d_PR_field_5 rfl (lv_at hl 2 rfl) ?_
  refine lv_if_lt hx hb d_PR_field_6 rfl (fun h6 => ?_) (fun h6 => ?_)
  · have h6 := (k_lt0 hw0).mp h6
    exact vx_throw0 (cls := "java/lang/IllegalArgumentException") (names := nmX) (mc := 2) (ms := 12) hx hb hlt hown (by decide +kernel) (by decide +kernel) (hts _ kw_221) (hts _ kw_10) (x_hat hts hX0 xg_36 xb_36) xo_36 hX0.1 hX0.2.1 hS (hl.1.trans hml.symm) d_PR_field_15 d_PR_field_18 d_PR_field_19 d_PR_field_22 (fun x h => (hne x h).elim) (Nat.le_of_ble_eq_true rfl) (Nat.le_of_ble_eq_true rfl) (Nat.le_of_ble_eq_true rfl) (Nat.le_of_ble_eq_true rfl) hlocks (fun t hv9 hz9 hk9 => ⟨(), trivial, Or.inr ⟨rfl, h2, by omega⟩, ⟨Nat.le_trans hS.1 hz9, fun q h1 h2 => (hk9 q (Nat.lt_of_lt_of_le h1 hS.1)).trans (hU q h1)⟩⟩) hS.2.2 (Nat.le_of_ble_eq_true rfl) (Nat.le_of_ble_eq_true rfl)
  have h6 := mt (k_lt0 hw0).mpr h6
  refine lv_iload_n hx hb d_PR_field_9 rfl (lv_at hl 2 rfl) ?_
  refine lv_bipush (v := 7) hx hb d_PR_field_10 (by decide) ?_
  refine lv_icmp_lt hx hb d_PR_field_12 rfl (fun h12 => ?_) (fun h12 => ?_)
  · have h12 := (k_lt (b := 7) hw0 (by decide)).mp h12
    refine lv_aload_n hx hb d_PR_field_23 rfl (lv_at hl 0 rfl) ?_
    refine va_get (D := (dC, dI)) (ci := 4) (v := .ref (g 0)) (C := R_PR) (T := F_PR) (N := 3) hx hb hts u_PR hown hK hP 0 rfl rfl 0 (by decide) (hts _ kw_146) (fun _ h9 => h9) rfl d_PR_field_24 ?_
    refine va_getN (D := (dC, dI)) (ci := 2) (v := .ref (g 3)) (C := R_Le) (T := F_Le) (N := 5) hx hb hts u_Le hown hK hP 1 rfl rfl 0 (by decide) (va_Nw.use rfl (hN.at 113 nw_113 rfl)) (fun _ h9 => h9) rfl d_PR_field_27 ?_
    refine lv_iload_n hx hb d_PR_field_30 rfl (lv_at hl 1 rfl) ?_
    refine lv_iload_n hx hb d_PR_field_31 rfl (lv_at hl 2 rfl) ?_
    refine vp_callSi (W.runV (b := (g 3)) (As := [.int (nI x), .int (nI w)]) (rest := []) ⟨hx, hb, hml, hown, hts⟩ (c_Re_fact l dC dI cI (g 3) (fun k => g (4 + k)) S.X hS9.1 x (by have := hS9.1.n; omega) w (by omega)) (cwV 2 hts (gV kw_612 kw_200 kw_201 kw_3 kw_202) rfl rfl rfl (by decide +kernel) ⟨Nat.le_of_ble_eq_true rfl, Nat.le_of_ble_eq_true rfl⟩) ⟨PcS.blind, va_recv (q0 := 0) hK (hP.sub (ws' := wRe cI (g 3) (fun k => g (4 + k)) S.X) [4, 5, 6, 7, 8, 9, 10, 11, 12, 13] rfl) rfl rfl, PcS.use (hP.sub (ws' := wRe cI (g 3) (fun k => g (4 + k)) S.X) [4, 5, 6, 7, 8, 9, 10, 11, 12, 13] rfl) hK hN⟩ rfl rfl hl.1 rfl (lv_room (Nat.le_of_ble_eq_true rfl)) d_PR_field_32 ⟨Nat.le_of_ble_eq_true rfl, Nat.le_of_ble_eq_true rfl⟩) (fun r32 hr32 => ?_)
    obtain rfl : r32 = fct S.X x w := hr32
    refine vx_ret ?_
    refine W.widen (k := 2) (n := 12) (Nat.le_of_ble_eq_true rfl) (Nat.le_of_ble_eq_true rfl) ?_
    exact W.iret (v := fct S.X x w) hx hb hr (fun t ht hW => ⟨⟨fct S.X x w, (), rfl, ⟨h2, by omega, rfl⟩, trivial⟩, ⟨Nat.le_trans hS.1 (Nat.le_of_eq (congrArg Array.size ht.symm)), fun q h1 h2 => (congrArg (fun h9 : Heap => h9[q]?) ht).trans (hU q h1)⟩⟩) hS.2.2 d_PR_field_35
  have h12 := mt (k_lt (b := 7) hw0 (by decide)).mpr h12
  exact vx_throw0 (cls := "java/lang/IllegalArgumentException") (names := nmX) (mc := 2) (ms := 12) hx hb hlt hown (by decide +kernel) (by decide +kernel) (hts _ kw_221) (hts _ kw_10) (x_hat hts hX0 xg_36 xb_36) xo_36 hX0.1 hX0.2.1 hS (hl.1.trans hml.symm) d_PR_field_15 d_PR_field_18 d_PR_field_19 d_PR_field_22 (fun x h => (hne x h).elim) (Nat.le_of_ble_eq_true rfl) (Nat.le_of_ble_eq_true rfl) (Nat.le_of_ble_eq_true rfl) (Nat.le_of_ble_eq_true rfl) hlocks (fun t hv9 hz9 hk9 => ⟨(), trivial, Or.inr ⟨rfl, h2, by omega⟩, ⟨Nat.le_trans hS.1 hz9, fun q h1 h2 => (hk9 q (Nat.lt_of_lt_of_le h1 hS.1)).trans (hU q h1)⟩⟩) hS.2.2 (Nat.le_of_ble_eq_true rfl) (Nat.le_of_ble_eq_true rfl)
