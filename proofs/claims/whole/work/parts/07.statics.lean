set_option maxHeartbeats 4000000 in
set_option maxRecDepth 100000 in
theorem c_PR_startOf (l : Launch) (dC : Nat → ClassId) (dI : Nat → Nat → Nat) {tys : List (ClassId × FieldType)} {ws : va_W} (p : Nat) (hp : p < 4294967296) : Met l y_PR_startOf (.code y_PR_startOf b_PR_startOf 1 (some .long) :: wG) ({ frames := 0, cells := 0, slots := 0, locals := 0 }) (PcS (dC, dI) tys ws [.int (nI p)]) (vp_Sl (fun r9 => r9 = lN p)) 0 0 (fun _ => False) := by
  refine Met.ofW (cc := b_PR_startOf) (maxL := 1) (ret := (some .long)) (by decide) rfl ?_
  intro pg eg s mg ag bg meth cg s₁ B hml hv
  obtain ⟨rfl, hP, hK, hN⟩ := hv
  have hx := B.exec
  have hb := B.bytes
  have hr := B.returns
  have hlocks := B.notSynchronized
  have hts : ∀ w9 ∈ wG, w9.before ([.int (nI p)] : List Value).toArray s = true := fun w9 h9 => atoms_spec (ws := (.code y_PR_startOf b_PR_startOf 1 (some .long) :: wG)) B.pre w9 (List.mem_cons_of_mem _ h9)
  have hown : s.vm.findClass "PrefixRegistry" = some mg.cls := findClass_of_methodNamed B.named
  have hP : va_P (dC, dI) classes ws s.heap := hP
  have hl := lv_entry ([.int (nI p)]) (n := 1) (Nat.le_of_ble_eq_true rfl)
  rw [lg_entry_eq]
  generalize (lg_sl ([.int (nI p)]) ++ List.replicate (1 - (lg_sl ([.int (nI p)])).length) Slot.unset).toArray = ls at hl ⊢
  replace hl : lv_has ls 1 [(0, .int (nI p))] := hl
  refine lv_iload_n hx hb d_PR_startOf_0 rfl (lv_at hl 0 rfl) ?_
  refine lv_i2l hx hb d_PR_startOf_1 rfl ?_
  refine lv_ldc2 hx hb hown (hts _ kw_171) d_PR_startOf_2 ?_
  refine lv_land hx hb d_PR_startOf_5 ?_
  exact W.lret (v := ((nI p).toInt64 &&& 4294967295)) hx hb hr (fun t ht hW => ⟨((nI p).toInt64 &&& 4294967295), rfl, (by exact k_start hp), ht⟩) (fun q h => nomatch h) d_PR_startOf_6
set_option maxHeartbeats 4000000 in
set_option maxRecDepth 100000 in
theorem c_PR_sizeOf (l : Launch) (dC : Nat → ClassId) (dI : Nat → Nat → Nat) {tys : List (ClassId × FieldType)} {ws : va_W} (n : Nat) (hn : n < 33) : Met l y_PR_sizeOf (.code y_PR_sizeOf b_PR_sizeOf 1 (some .long) :: wG) ({ frames := 0, cells := 0, slots := 0, locals := 0 }) (PcS (dC, dI) tys ws [.int (nI n)]) (vp_Sl (fun r9 => r9 = lN (2 ^ (32 - n)))) 0 0 (fun _ => False) := by
  refine Met.ofW (cc := b_PR_sizeOf) (maxL := 1) (ret := (some .long)) (by decide) rfl ?_
  intro pg eg s mg ag bg meth cg s₁ B hml hv
  obtain ⟨rfl, hP, hK, hN⟩ := hv
  have hx := B.exec
  have hb := B.bytes
  have hr := B.returns
  have hlocks := B.notSynchronized
  have hts : ∀ w9 ∈ wG, w9.before ([.int (nI n)] : List Value).toArray s = true := fun w9 h9 => atoms_spec (ws := (.code y_PR_sizeOf b_PR_sizeOf 1 (some .long) :: wG)) B.pre w9 (List.mem_cons_of_mem _ h9)
  have hown : s.vm.findClass "PrefixRegistry" = some mg.cls := findClass_of_methodNamed B.named
  have hP : va_P (dC, dI) classes ws s.heap := hP
  have hl := lv_entry ([.int (nI n)]) (n := 1) (Nat.le_of_ble_eq_true rfl)
  rw [lg_entry_eq]
  generalize (lg_sl ([.int (nI n)]) ++ List.replicate (1 - (lg_sl ([.int (nI n)])).length) Slot.unset).toArray = ls at hl ⊢
  replace hl : lv_has ls 1 [(0, .int (nI n))] := hl
  refine lv_lconst (v := 1) hx hb d_PR_sizeOf_0 (by decide) ?_
  refine lv_bipush (v := 32) hx hb d_PR_sizeOf_1 (by decide) ?_
  refine lv_iload_n hx hb d_PR_sizeOf_3 rfl (lv_at hl 0 rfl) ?_
  refine lv_isub hx hb d_PR_sizeOf_4 ?_
  refine lv_lshl hx hb d_PR_sizeOf_5 rfl ?_
  exact W.lret (v := (1 <<< ((32 - nI n).toInt64 &&& 63))) hx hb hr (fun t ht hW => ⟨(1 <<< ((32 - nI n).toInt64 &&& 63)), rfl, (by exact k_size n hn), ht⟩) (fun q h => nomatch h) d_PR_sizeOf_6
set_option maxHeartbeats 4000000 in
set_option maxRecDepth 100000 in
theorem c_PR_isAligned (l : Launch) (dC : Nat → ClassId) (dI : Nat → Nat → Nat) {tys : List (ClassId × FieldType)} {ws : va_W} (p n : Nat) (hp : p < 4294967296) (hn : n < 33) : Met l y_PR_isAligned (.code y_PR_isAligned b_PR_isAligned 2 (some .boolean) :: wG) ({ frames := 1, cells := 0, slots := 0, locals := 20 }) (PcS (dC, dI) tys ws [.int (nI p), .int (nI n)]) (vp_Si (fun r9 => r9 = bi (decide (p % 2 ^ (32 - n) = 0)))) 0 0 (fun _ => False) := by
  refine Met.ofW (cc := b_PR_isAligned) (maxL := 2) (ret := (some .boolean)) (by decide) rfl ?_
  intro pg eg s mg ag bg meth cg s₁ B hml hv
  obtain ⟨rfl, hP, hK, hN⟩ := hv
  have hx := B.exec
  have hb := B.bytes
  have hr := B.returns
  have hlocks := B.notSynchronized
  have hts : ∀ w9 ∈ wG, w9.before ([.int (nI p), .int (nI n)] : List Value).toArray s = true := fun w9 h9 => atoms_spec (ws := (.code y_PR_isAligned b_PR_isAligned 2 (some .boolean) :: wG)) B.pre w9 (List.mem_cons_of_mem _ h9)
  have hown : s.vm.findClass "PrefixRegistry" = some mg.cls := findClass_of_methodNamed B.named
  have hP : va_P (dC, dI) classes ws s.heap := hP
  have hl := lv_entry ([.int (nI p), .int (nI n)]) (n := 2) (Nat.le_of_ble_eq_true rfl)
  rw [lg_entry_eq]
  generalize (lg_sl ([.int (nI p), .int (nI n)]) ++ List.replicate (2 - (lg_sl ([.int (nI p), .int (nI n)])).length) Slot.unset).toArray = ls at hl ⊢
  replace hl : lv_has ls 2 [(0, .int (nI p)), (1, .int (nI n))] := hl
  refine lv_iload_n hx hb d_PR_isAligned_0 rfl (lv_at hl 0 rfl) ?_
  refine vp_callSl (W.runS (As := [.int (nI p)]) (rest := []) ⟨hx, hb, hml, hown, hts⟩ (c_PR_startOf l dC dI p hp) (cwS 1 hts (gS kw_216 kw_169 kw_1 kw_170) rfl rfl rfl (by decide +kernel) ⟨Nat.le_of_ble_eq_true rfl, Nat.le_of_ble_eq_true rfl⟩) ⟨PcS.blind, PcS.use hP hK hN⟩ rfl rfl hl.1 rfl (lv_room (Nat.le_of_ble_eq_true rfl)) d_PR_isAligned_1 ⟨Nat.zero_le _, Nat.zero_le _⟩) (fun r1 hr1 => ?_)
  obtain rfl : r1 = lN p := hr1
  refine lv_iload_n hx hb d_PR_isAligned_4 rfl (lv_at hl 1 rfl) ?_
  refine vp_callSl (W.runS (As := [.int (nI n)]) (rest := [.long (lN p)]) ⟨hx, hb, hml, hown, hts⟩ (c_PR_sizeOf l dC dI n hn) (cwS 1 hts (gS kw_217 kw_177 kw_1 kw_178) rfl rfl rfl (by decide +kernel) ⟨Nat.le_of_ble_eq_true rfl, Nat.le_of_ble_eq_true rfl⟩) ⟨PcS.blind, PcS.use hP hK hN⟩ rfl rfl hl.1 rfl (lv_room (Nat.le_of_ble_eq_true rfl)) d_PR_isAligned_5 ⟨Nat.zero_le _, Nat.zero_le _⟩) (fun r5 hr5 => ?_)
  obtain rfl : r5 = lN (2 ^ (32 - n)) := hr5
  refine lv_lconst (v := 1) hx hb d_PR_isAligned_8 (by decide) ?_
  refine lv_lsub hx hb d_PR_isAligned_9 ?_
  refine lv_land hx hb d_PR_isAligned_10 ?_
  refine x_topl (y := lN (p % 2 ^ (32 - n))) (by rw [k_size1 (32 - n) (by omega)]; exact wb_mask (by omega) (by omega)) ?_
  refine lv_lconst (v := 0) hx hb d_PR_isAligned_11 (by decide) ?_
  refine W.lcmp hx hb d_PR_isAligned_12 ?_
  refine lv_if_ne hx hb d_PR_isAligned_13 rfl (fun h13 => ?_) (fun h13 => ?_)
  · have h13 : ¬ (p % 2 ^ (32 - n) = 0) := fun q => h13 ((k_c0 (b := 0) (by have := Nat.mod_le p (2 ^ (32 - n)); omega) (by decide)).mpr q)
    refine lv_iconst (v := 0) hx hb d_PR_isAligned_20 (by decide) ?_
    exact W.zret (v := 0) hx hb hr (by decide) (fun t ht hW => ⟨0, rfl, (by rw [show decide (p % 2 ^ (32 - n) = 0) = _ from by simp only [h13]; rfl]; rfl), ht⟩) (fun q h => nomatch h) d_PR_isAligned_21
  have h13 : p % 2 ^ (32 - n) = 0 := (k_c0 (b := 0) (by have := Nat.mod_le p (2 ^ (32 - n)); omega) (by decide)).mp h13
  refine lv_iconst (v := 1) hx hb d_PR_isAligned_16 (by decide) ?_
  refine lv_goto hx hb d_PR_isAligned_17 rfl ?_
  exact W.zret (v := 1) hx hb hr (by decide) (fun t ht hW => ⟨1, rfl, (by rw [show decide (p % 2 ^ (32 - n) = 0) = _ from by simp only [h13]; rfl]; rfl), ht⟩) (fun q h => nomatch h) d_PR_isAligned_21
set_option maxHeartbeats 4000000 in
set_option maxRecDepth 100000 in
theorem c_PR_isHolder (l : Launch) (dC : Nat → ClassId) (dI : Nat → Nat → Nat) {tys : List (ClassId × FieldType)} {ws : va_W} (w : Nat) (hw : w < 4294967296) : Met l y_PR_isHolder (.code y_PR_isHolder b_PR_isHolder 1 (some .boolean) :: wG) ({ frames := 0, cells := 0, slots := 0, locals := 0 }) (PcS (dC, dI) tys ws [.int (nI w)]) (vp_Si (fun r9 => r9 = bi (decide (w ≤ 9999)))) 0 0 (fun _ => False) := by
  refine Met.ofW (cc := b_PR_isHolder) (maxL := 1) (ret := (some .boolean)) (by decide) rfl ?_
  intro pg eg s mg ag bg meth cg s₁ B hml hv
  obtain ⟨rfl, hP, hK, hN⟩ := hv
  have hx := B.exec
  have hb := B.bytes
  have hr := B.returns
  have hlocks := B.notSynchronized
  have hts : ∀ w9 ∈ wG, w9.before ([.int (nI w)] : List Value).toArray s = true := fun w9 h9 => atoms_spec (ws := (.code y_PR_isHolder b_PR_isHolder 1 (some .boolean) :: wG)) B.pre w9 (List.mem_cons_of_mem _ h9)
  have hown : s.vm.findClass "PrefixRegistry" = some mg.cls := findClass_of_methodNamed B.named
  have hP : va_P (dC, dI) classes ws s.heap := hP
  have hl := lv_entry ([.int (nI w)]) (n := 1) (Nat.le_of_ble_eq_true rfl)
  rw [lg_entry_eq]
  generalize (lg_sl ([.int (nI w)]) ++ List.replicate (1 - (lg_sl ([.int (nI w)])).length) Slot.unset).toArray = ls at hl ⊢
  replace hl : lv_has ls 1 [(0, .int (nI w))] := hl
  refine lv_iload_n hx hb d_PR_isHolder_0 rfl (lv_at hl 0 rfl) ?_
  refine lv_if_lt hx hb d_PR_isHolder_1 rfl (fun h1 => ?_) (fun h1 => ?_)
  · have h1 := (k_lt0 hw).mp h1
    refine lv_iconst (v := 0) hx hb d_PR_isHolder_15 (by decide) ?_
    exact W.zret (v := 0) hx hb hr (by decide) (fun t ht hW => ⟨0, rfl, (bF (by omega)), ht⟩) (fun q h => nomatch h) d_PR_isHolder_16
  have h1 := mt (k_lt0 hw).mpr h1
  refine lv_iload_n hx hb d_PR_isHolder_4 rfl (lv_at hl 0 rfl) ?_
  refine lv_sipush (v := 9999) hx hb d_PR_isHolder_5 (by decide) ?_
  refine lv_icmp_gt hx hb d_PR_isHolder_8 rfl (fun h8 => ?_) (fun h8 => ?_)
  · have h8 := (k_lt' (a := 9999) (by decide) hw).mp h8
    refine lv_iconst (v := 0) hx hb d_PR_isHolder_15 (by decide) ?_
    exact W.zret (v := 0) hx hb hr (by decide) (fun t ht hW => ⟨0, rfl, (bF (by omega)), ht⟩) (fun q h => nomatch h) d_PR_isHolder_16
  have h8 := mt (k_lt' (a := 9999) (by decide) hw).mpr h8
  refine lv_iconst (v := 1) hx hb d_PR_isHolder_11 (by decide) ?_
  refine lv_goto hx hb d_PR_isHolder_12 rfl ?_
  exact W.zret (v := 1) hx hb hr (by decide) (fun t ht hW => ⟨1, rfl, (bT (by omega)), ht⟩) (fun q h => nomatch h) d_PR_isHolder_16
set_option maxHeartbeats 4000000 in
set_option maxRecDepth 100000 in
theorem c_PR_asNumber (l : Launch) (dC : Nat → ClassId) (dI : Nat → Nat → Nat) {tys : List (ClassId × FieldType)} {ws : va_W} (b : Bool) : Met l y_PR_asNumber (.code y_PR_asNumber b_PR_asNumber 1 (some .int) :: wG) ({ frames := 0, cells := 0, slots := 0, locals := 0 }) (PcS (dC, dI) tys ws [.int (bi b)]) (vp_Si (fun r9 => r9 = bi b)) 0 0 (fun _ => False) := by
  refine Met.ofW (cc := b_PR_asNumber) (maxL := 1) (ret := (some .int)) (by decide) rfl ?_
  intro pg eg s mg ag bg meth cg s₁ B hml hv
  obtain ⟨rfl, hP, hK, hN⟩ := hv
  have hx := B.exec
  have hb := B.bytes
  have hr := B.returns
  have hlocks := B.notSynchronized
  have hts : ∀ w9 ∈ wG, w9.before ([.int (bi b)] : List Value).toArray s = true := fun w9 h9 => atoms_spec (ws := (.code y_PR_asNumber b_PR_asNumber 1 (some .int) :: wG)) B.pre w9 (List.mem_cons_of_mem _ h9)
  have hown : s.vm.findClass "PrefixRegistry" = some mg.cls := findClass_of_methodNamed B.named
  have hP : va_P (dC, dI) classes ws s.heap := hP
  have hl := lv_entry ([.int (bi b)]) (n := 1) (Nat.le_of_ble_eq_true rfl)
  rw [lg_entry_eq]
  generalize (lg_sl ([.int (bi b)]) ++ List.replicate (1 - (lg_sl ([.int (bi b)])).length) Slot.unset).toArray = ls at hl ⊢
  replace hl : lv_has ls 1 [(0, .int (bi b))] := hl
  refine lv_iload_n hx hb d_PR_asNumber_0 rfl (lv_at hl 0 rfl) ?_
  refine lv_if_eq hx hb d_PR_asNumber_1 rfl (fun h1 => ?_) (fun h1 => ?_)
  · have h1 := bi_eq0.mp h1
    refine lv_iconst (v := 0) hx hb d_PR_asNumber_8 (by decide) ?_
    exact W.iret (v := 0) hx hb hr (fun t ht hW => ⟨0, rfl, (by cases b <;> simp_all <;> rfl), ht⟩) (fun q h => nomatch h) d_PR_asNumber_9
  have h1 := mt bi_eq0.mpr h1
  refine lv_iconst (v := 1) hx hb d_PR_asNumber_4 (by decide) ?_
  refine lv_goto hx hb d_PR_asNumber_5 rfl ?_
  exact W.iret (v := 1) hx hb hr (fun t ht hW => ⟨1, rfl, (by cases b <;> simp_all <;> rfl), ht⟩) (fun q h => nomatch h) d_PR_asNumber_9
set_option maxHeartbeats 4000000 in
set_option maxRecDepth 100000 in
theorem c_PR_siblingOf (l : Launch) (dC : Nat → ClassId) (dI : Nat → Nat → Nat) {tys : List (ClassId × FieldType)} {ws : va_W} (a n : Nat) (hn : n < 33) : Met l y_PR_siblingOf (.code y_PR_siblingOf b_PR_siblingOf 2 (some .int) :: wG) ({ frames := 1, cells := 0, slots := 0, locals := 20 }) (PcS (dC, dI) tys ws [.int (nI a), .int (nI n)]) (vp_Si (fun r9 => r9 = nI (a ^^^ 2 ^ (32 - n)))) 0 0 (fun _ => False) := by
  refine Met.ofW (cc := b_PR_siblingOf) (maxL := 2) (ret := (some .int)) (by decide) rfl ?_
  intro pg eg s mg ag bg meth cg s₁ B hml hv
  obtain ⟨rfl, hP, hK, hN⟩ := hv
  have hx := B.exec
  have hb := B.bytes
  have hr := B.returns
  have hlocks := B.notSynchronized
  have hts : ∀ w9 ∈ wG, w9.before ([.int (nI a), .int (nI n)] : List Value).toArray s = true := fun w9 h9 => atoms_spec (ws := (.code y_PR_siblingOf b_PR_siblingOf 2 (some .int) :: wG)) B.pre w9 (List.mem_cons_of_mem _ h9)
  have hown : s.vm.findClass "PrefixRegistry" = some mg.cls := findClass_of_methodNamed B.named
  have hP : va_P (dC, dI) classes ws s.heap := hP
  have hl := lv_entry ([.int (nI a), .int (nI n)]) (n := 2) (Nat.le_of_ble_eq_true rfl)
  rw [lg_entry_eq]
  generalize (lg_sl ([.int (nI a), .int (nI n)]) ++ List.replicate (2 - (lg_sl ([.int (nI a), .int (nI n)])).length) Slot.unset).toArray = ls at hl ⊢
  replace hl : lv_has ls 2 [(0, .int (nI a)), (1, .int (nI n))] := hl
  refine lv_iload_n hx hb d_PR_siblingOf_0 rfl (lv_at hl 0 rfl) ?_
  refine lv_iload_n hx hb d_PR_siblingOf_1 rfl (lv_at hl 1 rfl) ?_
  refine vp_callSl (W.runS (As := [.int (nI n)]) (rest := [.int (nI a)]) ⟨hx, hb, hml, hown, hts⟩ (c_PR_sizeOf l dC dI n hn) (cwS 1 hts (gS kw_217 kw_177 kw_1 kw_178) rfl rfl rfl (by decide +kernel) ⟨Nat.le_of_ble_eq_true rfl, Nat.le_of_ble_eq_true rfl⟩) ⟨PcS.blind, PcS.use hP hK hN⟩ rfl rfl hl.1 rfl (lv_room (Nat.le_of_ble_eq_true rfl)) d_PR_siblingOf_2 ⟨Nat.zero_le _, Nat.zero_le _⟩) (fun r2 hr2 => ?_)
  obtain rfl : r2 = lN (2 ^ (32 - n)) := hr2
  refine lv_l2i hx hb d_PR_siblingOf_5 rfl ?_
  refine x_topi (y := nI (2 ^ (32 - n))) (k_size32 (32 - n) (by omega)) ?_
  refine lv_ixor hx hb d_PR_siblingOf_6 ?_
  exact W.iret (v := (nI a ^^^ nI (2 ^ (32 - n)))) hx hb hr (fun t ht hW => ⟨(nI a ^^^ nI (2 ^ (32 - n))), rfl, (by exact nx_xor _ _), ht⟩) (fun q h => nomatch h) d_PR_siblingOf_7
set_option maxHeartbeats 4000000 in
set_option maxRecDepth 100000 in
theorem c_PR_lengthOfCuts (l : Launch) (dC : Nat → ClassId) (dI : Nat → Nat → Nat) {tys : List (ClassId × FieldType)} {ws : va_W} (n : Nat) (hn : n < 33) : Met l y_PR_lengthOfCuts (.code y_PR_lengthOfCuts b_PR_lengthOfCuts 1 (some .int) :: wG) ({ frames := 0, cells := 0, slots := 0, locals := 0 }) (PcS (dC, dI) tys ws [.int (nI n)]) (vp_Si (fun r9 => r9 = nI (cl4 n))) 0 0 (fun _ => False) := by
  refine Met.ofW (cc := b_PR_lengthOfCuts) (maxL := 1) (ret := (some .int)) (by decide) rfl ?_
  intro pg eg s mg ag bg meth cg s₁ B hml hv
  obtain ⟨rfl, hP, hK, hN⟩ := hv
  have hx := B.exec
  have hb := B.bytes
  have hr := B.returns
  have hlocks := B.notSynchronized
  have hts : ∀ w9 ∈ wG, w9.before ([.int (nI n)] : List Value).toArray s = true := fun w9 h9 => atoms_spec (ws := (.code y_PR_lengthOfCuts b_PR_lengthOfCuts 1 (some .int) :: wG)) B.pre w9 (List.mem_cons_of_mem _ h9)
  have hown : s.vm.findClass "PrefixRegistry" = some mg.cls := findClass_of_methodNamed B.named
  have hP : va_P (dC, dI) classes ws s.heap := hP
  have hl := lv_entry ([.int (nI n)]) (n := 1) (Nat.le_of_ble_eq_true rfl)
  rw [lg_entry_eq]
  generalize (lg_sl ([.int (nI n)]) ++ List.replicate (1 - (lg_sl ([.int (nI n)])).length) Slot.unset).toArray = ls at hl ⊢
  replace hl : lv_has ls 1 [(0, .int (nI n))] := hl
  refine lv_iload_n hx hb d_PR_lengthOfCuts_0 rfl (lv_at hl 0 rfl) ?_
  refine lv_iconst (v := 4) hx hb d_PR_lengthOfCuts_1 (by decide) ?_
  refine lv_iadd hx hb d_PR_lengthOfCuts_2 ?_
  refine lv_iconst (v := 1) hx hb d_PR_lengthOfCuts_3 (by decide) ?_
  refine lv_isub hx hb d_PR_lengthOfCuts_4 ?_
  refine lv_iconst (v := 4) hx hb d_PR_lengthOfCuts_5 (by decide) ?_
  refine lv_idiv hx hb d_PR_lengthOfCuts_6 (by decide) ?_
  refine lv_iconst (v := 4) hx hb d_PR_lengthOfCuts_7 (by decide) ?_
  refine lv_imul hx hb d_PR_lengthOfCuts_8 ?_
  exact W.iret (v := ((((nI n + 4) - 1) / 4) * 4)) hx hb hr (fun t ht hW => ⟨((((nI n + 4) - 1) / 4) * 4), rfl, (by exact k_cl4 n hn), ht⟩) (fun q h => nomatch h) d_PR_lengthOfCuts_9
set_option maxHeartbeats 4000000 in
set_option maxRecDepth 100000 in
theorem c_Re_areFull (l : Launch) (dC : Nat → ClassId) (dI : Nat → Nat → Nat) (cI : ClassId) (h : Nat) (b : Nat → Nat) (X : RS) (hX : RSok X) : Met l y_Re_areFull (.code y_Re_areFull b_Re_areFull 1 (some .boolean) :: wG) ({ frames := 0, cells := 0, slots := 0, locals := 0 }) (PcS (dC, dI) [(cI, .int)] (wRe cI h b X) [.ref h]) (vp_Si (fun r9 => r9 = bi (decide (X.n = 200)))) 0 0 (fun _ => False) := by
  refine Met.ofW (cc := b_Re_areFull) (maxL := 1) (ret := (some .boolean)) (by decide) rfl ?_
  intro pg eg s mg ag bg meth cg s₁ B hml hv
  obtain ⟨rfl, hP, hK, hN⟩ := hv
  have hx := B.exec
  have hb := B.bytes
  have hr := B.returns
  have hlocks := B.notSynchronized
  have hts : ∀ w9 ∈ wG, w9.before ([.ref h] : List Value).toArray s = true := fun w9 h9 => atoms_spec (ws := (.code y_Re_areFull b_Re_areFull 1 (some .boolean) :: wG)) B.pre w9 (List.mem_cons_of_mem _ h9)
  have hown : s.vm.findClass "PrefixRegistry$Records" = some mg.cls := findClass_of_methodNamed B.named
  have hP : va_P (dC, dI) classes (wRe cI h b X) s.heap := hP
  have hl := lv_entry ([.ref h]) (n := 1) (Nat.le_of_ble_eq_true rfl)
  rw [lg_entry_eq]
  generalize (lg_sl ([.ref h]) ++ List.replicate (1 - (lg_sl ([.ref h])).length) Slot.unset).toArray = ls at hl ⊢
  replace hl : lv_has ls 1 [(0, .ref h)] := hl
  refine lv_aload_n hx hb d_Re_areFull_0 rfl (lv_at hl 0 rfl) ?_
  refine va_get (D := (dC, dI)) (ci := 3) (v := .int (nI X.n)) (C := R_Re) (T := F_Re) (N := 10) hx hb hts u_Re hown hK hP 0 rfl rfl 9 (by decide) (hts _ kw_58) (fun _ h9 => h9) rfl d_Re_areFull_1 ?_
  refine lv_sipush (v := 200) hx hb d_Re_areFull_4 (by decide) ?_
  refine lv_icmp_lt hx hb d_Re_areFull_7 rfl (fun h7 => ?_) (fun h7 => ?_)
  · have h7 := (k_lt (b := 200) (by have := hX.n; omega) (by decide)).mp h7
    refine lv_iconst (v := 0) hx hb d_Re_areFull_14 (by decide) ?_
    exact W.zret (v := 0) hx hb hr (by decide) (fun t ht hW => ⟨0, rfl, (bF (by have := hX.n; omega)), ht⟩) (fun q h => nomatch h) d_Re_areFull_15
  have h7 := mt (k_lt (b := 200) (by have := hX.n; omega) (by decide)).mpr h7
  refine lv_iconst (v := 1) hx hb d_Re_areFull_10 (by decide) ?_
  refine lv_goto hx hb d_Re_areFull_11 rfl ?_
  exact W.zret (v := 1) hx hb hr (by decide) (fun t ht hW => ⟨1, rfl, (bT (by have := hX.n; omega)), ht⟩) (fun q h => nomatch h) d_Re_areFull_15
set_option maxHeartbeats 4000000 in
set_option maxRecDepth 100000 in
theorem c_Re_has (l : Launch) (dC : Nat → ClassId) (dI : Nat → Nat → Nat) (cI : ClassId) (h : Nat) (b : Nat → Nat) (X : RS) (hX : RSok X) (x : Nat) (hx0 : x < 4294967296) : Met l y_Re_has (.code y_Re_has b_Re_has 2 (some .boolean) :: wG) ({ frames := 0, cells := 0, slots := 0, locals := 0 }) (PcS (dC, dI) [(cI, .int)] (wRe cI h b X) [.ref h, .int (nI x)]) (vp_Si (fun r9 => r9 = bi (decide (x < X.n)))) 0 0 (fun _ => False) := by
  refine Met.ofW (cc := b_Re_has) (maxL := 2) (ret := (some .boolean)) (by decide) rfl ?_
  intro pg eg s mg ag bg meth cg s₁ B hml hv
  obtain ⟨rfl, hP, hK, hN⟩ := hv
  have hx := B.exec
  have hb := B.bytes
  have hr := B.returns
  have hlocks := B.notSynchronized
  have hts : ∀ w9 ∈ wG, w9.before ([.ref h, .int (nI x)] : List Value).toArray s = true := fun w9 h9 => atoms_spec (ws := (.code y_Re_has b_Re_has 2 (some .boolean) :: wG)) B.pre w9 (List.mem_cons_of_mem _ h9)
  have hown : s.vm.findClass "PrefixRegistry$Records" = some mg.cls := findClass_of_methodNamed B.named
  have hP : va_P (dC, dI) classes (wRe cI h b X) s.heap := hP
  have hl := lv_entry ([.ref h, .int (nI x)]) (n := 2) (Nat.le_of_ble_eq_true rfl)
  rw [lg_entry_eq]
  generalize (lg_sl ([.ref h, .int (nI x)]) ++ List.replicate (2 - (lg_sl ([.ref h, .int (nI x)])).length) Slot.unset).toArray = ls at hl ⊢
  replace hl : lv_has ls 2 [(0, .ref h), (1, .int (nI x))] := hl
  refine lv_iload_n hx hb d_Re_has_0 rfl (lv_at hl 1 rfl) ?_
  refine lv_if_lt hx hb d_Re_has_1 rfl (fun h1 => ?_) (fun h1 => ?_)
  · have h1 := (k_lt0 hx0).mp h1
    refine lv_iconst (v := 0) hx hb d_Re_has_16 (by decide) ?_
    exact W.zret (v := 0) hx hb hr (by decide) (fun t ht hW => ⟨0, rfl, (bF (by have := hX.n; omega)), ht⟩) (fun q h => nomatch h) d_Re_has_17
  have h1 := mt (k_lt0 hx0).mpr h1
  refine lv_iload_n hx hb d_Re_has_4 rfl (lv_at hl 1 rfl) ?_
  refine lv_aload_n hx hb d_Re_has_5 rfl (lv_at hl 0 rfl) ?_
  refine va_get (D := (dC, dI)) (ci := 3) (v := .int (nI X.n)) (C := R_Re) (T := F_Re) (N := 10) hx hb hts u_Re hown hK hP 0 rfl rfl 9 (by decide) (hts _ kw_58) (fun _ h9 => h9) rfl d_Re_has_6 ?_
  refine lv_icmp_ge hx hb d_Re_has_9 rfl (fun h9 => ?_) (fun h9 => ?_)
  · have h9 := (k_le' (by have := hX.n; omega) hx0).mp h9
    refine lv_iconst (v := 0) hx hb d_Re_has_16 (by decide) ?_
    exact W.zret (v := 0) hx hb hr (by decide) (fun t ht hW => ⟨0, rfl, (bF (by have := hX.n; omega)), ht⟩) (fun q h => nomatch h) d_Re_has_17
  have h9 := mt (k_le' (by have := hX.n; omega) hx0).mpr h9
  refine lv_iconst (v := 1) hx hb d_Re_has_12 (by decide) ?_
  refine lv_goto hx hb d_Re_has_13 rfl ?_
  exact W.zret (v := 1) hx hb hr (by decide) (fun t ht hW => ⟨1, rfl, (bT (by have := hX.n; omega)), ht⟩) (fun q h => nomatch h) d_Re_has_17
set_option maxHeartbeats 4000000 in
set_option maxRecDepth 100000 in
theorem c_Re_isLive (l : Launch) (dC : Nat → ClassId) (dI : Nat → Nat → Nat) (cI : ClassId) (h : Nat) (b : Nat → Nat) (X : RS) (hX : RSok X) (j : Nat) (hj : j < 200) : Met l y_Re_isLive (.code y_Re_isLive b_Re_isLive 2 (some .boolean) :: wG) ({ frames := 0, cells := 0, slots := 0, locals := 0 }) (PcS (dC, dI) [(cI, .int)] (wRe cI h b X) [.ref h, .int (nI j)]) (vp_Si (fun r9 => r9 = bi (decide (X.sta j ≠ 4)))) 0 0 (fun _ => False) := by
  refine Met.ofW (cc := b_Re_isLive) (maxL := 2) (ret := (some .boolean)) (by decide) rfl ?_
  intro pg eg s mg ag bg meth cg s₁ B hml hv
  obtain ⟨rfl, hP, hK, hN⟩ := hv
  have hx := B.exec
  have hb := B.bytes
  have hr := B.returns
  have hlocks := B.notSynchronized
  have hts : ∀ w9 ∈ wG, w9.before ([.ref h, .int (nI j)] : List Value).toArray s = true := fun w9 h9 => atoms_spec (ws := (.code y_Re_isLive b_Re_isLive 2 (some .boolean) :: wG)) B.pre w9 (List.mem_cons_of_mem _ h9)
  have hown : s.vm.findClass "PrefixRegistry$Records" = some mg.cls := findClass_of_methodNamed B.named
  have hP : va_P (dC, dI) classes (wRe cI h b X) s.heap := hP
  have hl := lv_entry ([.ref h, .int (nI j)]) (n := 2) (Nat.le_of_ble_eq_true rfl)
  rw [lg_entry_eq]
  generalize (lg_sl ([.ref h, .int (nI j)]) ++ List.replicate (2 - (lg_sl ([.ref h, .int (nI j)])).length) Slot.unset).toArray = ls at hl ⊢
  replace hl : lv_has ls 2 [(0, .ref h), (1, .int (nI j))] := hl
  refine lv_aload_n hx hb d_Re_isLive_0 rfl (lv_at hl 0 rfl) ?_
  refine va_get (D := (dC, dI)) (ci := 3) (v := .ref (b 5)) (C := R_Re) (T := F_Re) (N := 10) hx hb hts u_Re hown hK hP 0 rfl rfl 5 (by decide) (hts _ kw_47) (fun _ h9 => h9) rfl d_Re_isLive_1 ?_
  refine lv_iload_n hx hb d_Re_isLive_4 rfl (lv_at hl 1 rfl) ?_
  refine x_iald (j := j) (v := (nI (X.sta j))) hx hb hK hP 6 0 rfl rfl hj (by decide) rfl rfl d_Re_isLive_5 ?_
  refine lv_iconst (v := 4) hx hb d_Re_isLive_6 (by decide) ?_
  refine lv_icmp_eq hx hb d_Re_isLive_7 rfl (fun h7 => ?_) (fun h7 => ?_)
  · have h7 := (k_eq (b := 4) (by have := hX.sta j; omega) (by decide)).mp h7
    refine lv_iconst (v := 0) hx hb d_Re_isLive_14 (by decide) ?_
    exact W.zret (v := 0) hx hb hr (by decide) (fun t ht hW => ⟨0, rfl, (bF (by omega)), ht⟩) (fun q h => nomatch h) d_Re_isLive_15
  have h7 := mt (k_eq (b := 4) (by have := hX.sta j; omega) (by decide)).mpr h7
  refine lv_iconst (v := 1) hx hb d_Re_isLive_10 (by decide) ?_
  refine lv_goto hx hb d_Re_isLive_11 rfl ?_
  exact W.zret (v := 1) hx hb hr (by decide) (fun t ht hW => ⟨1, rfl, (bT (by omega)), ht⟩) (fun q h => nomatch h) d_Re_isLive_15
set_option maxHeartbeats 4000000 in
set_option maxRecDepth 100000 in
theorem c_Re_isTop (l : Launch) (dC : Nat → ClassId) (dI : Nat → Nat → Nat) (cI : ClassId) (h : Nat) (b : Nat → Nat) (X : RS) (hX : RSok X) (j : Nat) (hj : j < 200) : Met l y_Re_isTop (.code y_Re_isTop b_Re_isTop 2 (some .boolean) :: wG) ({ frames := 0, cells := 0, slots := 0, locals := 0 }) (PcS (dC, dI) [(cI, .int)] (wRe cI h b X) [.ref h, .int (nI j)]) (vp_Si (fun r9 => r9 = bi (decide (X.par j = none)))) 0 0 (fun _ => False) := by
  refine Met.ofW (cc := b_Re_isTop) (maxL := 2) (ret := (some .boolean)) (by decide) rfl ?_
  intro pg eg s mg ag bg meth cg s₁ B hml hv
  obtain ⟨rfl, hP, hK, hN⟩ := hv
  have hx := B.exec
  have hb := B.bytes
  have hr := B.returns
  have hlocks := B.notSynchronized
  have hts : ∀ w9 ∈ wG, w9.before ([.ref h, .int (nI j)] : List Value).toArray s = true := fun w9 h9 => atoms_spec (ws := (.code y_Re_isTop b_Re_isTop 2 (some .boolean) :: wG)) B.pre w9 (List.mem_cons_of_mem _ h9)
  have hown : s.vm.findClass "PrefixRegistry$Records" = some mg.cls := findClass_of_methodNamed B.named
  have hP : va_P (dC, dI) classes (wRe cI h b X) s.heap := hP
  have hl := lv_entry ([.ref h, .int (nI j)]) (n := 2) (Nat.le_of_ble_eq_true rfl)
  rw [lg_entry_eq]
  generalize (lg_sl ([.ref h, .int (nI j)]) ++ List.replicate (2 - (lg_sl ([.ref h, .int (nI j)])).length) Slot.unset).toArray = ls at hl ⊢
  replace hl : lv_has ls 2 [(0, .ref h), (1, .int (nI j))] := hl
  refine lv_aload_n hx hb d_Re_isTop_0 rfl (lv_at hl 0 rfl) ?_
  refine va_get (D := (dC, dI)) (ci := 3) (v := .ref (b 2)) (C := R_Re) (T := F_Re) (N := 10) hx hb hts u_Re hown hK hP 0 rfl rfl 2 (by decide) (hts _ kw_41) (fun _ h9 => h9) rfl d_Re_isTop_1 ?_
  refine lv_iload_n hx hb d_Re_isTop_4 rfl (lv_at hl 1 rfl) ?_
  refine x_iald (j := j) (v := (pI (X.par j))) hx hb hK hP 3 0 rfl rfl hj (by decide) rfl rfl d_Re_isTop_5 ?_
  refine lv_iconst (v := (-1)) hx hb d_Re_isTop_6 (by decide) ?_
  refine lv_icmp_ne hx hb d_Re_isTop_7 rfl (fun h7 => ?_) (fun h7 => ?_)
  · have h7 := mt (pI_m1 (fun k q => by have := hX.par q; omega)).mpr h7
    refine lv_iconst (v := 0) hx hb d_Re_isTop_14 (by decide) ?_
    exact W.zret (v := 0) hx hb hr (by decide) (fun t ht hW => ⟨0, rfl, (bF (by simpa using h7)), ht⟩) (fun q h => nomatch h) d_Re_isTop_15
  have h7 := (pI_m1 (fun k q => by have := hX.par q; omega)).mp h7
  refine lv_iconst (v := 1) hx hb d_Re_isTop_10 (by decide) ?_
  refine lv_goto hx hb d_Re_isTop_11 rfl ?_
  exact W.zret (v := 1) hx hb hr (by decide) (fun t ht hW => ⟨1, rfl, (bT (by simpa using h7)), ht⟩) (fun q h => nomatch h) d_Re_isTop_15
set_option maxHeartbeats 4000000 in
set_option maxRecDepth 100000 in
theorem c_Re_isGiven (l : Launch) (dC : Nat → ClassId) (dI : Nat → Nat → Nat) (cI : ClassId) (h : Nat) (b : Nat → Nat) (X : RS) (hX : RSok X) (x : Nat) (hx0 : x < 4294967296) : Met l y_Re_isGiven (.code y_Re_isGiven b_Re_isGiven 2 (some .boolean) :: wG) ({ frames := 1, cells := 0, slots := 0, locals := 21 }) (PcS (dC, dI) [(cI, .int)] (wRe cI h b X) [.ref h, .int (nI x)]) (vp_Si (fun r9 => r9 = bi (decide (x < X.n ∧ X.sta x = 1)))) 0 0 (fun _ => False) := by
  refine Met.ofW (cc := b_Re_isGiven) (maxL := 2) (ret := (some .boolean)) (by decide) rfl ?_
  intro pg eg s mg ag bg meth cg s₁ B hml hv
  obtain ⟨rfl, hP, hK, hN⟩ := hv
  have hx := B.exec
  have hb := B.bytes
  have hr := B.returns
  have hlocks := B.notSynchronized
  have hts : ∀ w9 ∈ wG, w9.before ([.ref h, .int (nI x)] : List Value).toArray s = true := fun w9 h9 => atoms_spec (ws := (.code y_Re_isGiven b_Re_isGiven 2 (some .boolean) :: wG)) B.pre w9 (List.mem_cons_of_mem _ h9)
  have hown : s.vm.findClass "PrefixRegistry$Records" = some mg.cls := findClass_of_methodNamed B.named
  have hP : va_P (dC, dI) classes (wRe cI h b X) s.heap := hP
  have hl := lv_entry ([.ref h, .int (nI x)]) (n := 2) (Nat.le_of_ble_eq_true rfl)
  rw [lg_entry_eq]
  generalize (lg_sl ([.ref h, .int (nI x)]) ++ List.replicate (2 - (lg_sl ([.ref h, .int (nI x)])).length) Slot.unset).toArray = ls at hl ⊢
  replace hl : lv_has ls 2 [(0, .ref h), (1, .int (nI x))] := hl
  refine lv_aload_n hx hb d_Re_isGiven_0 rfl (lv_at hl 0 rfl) ?_
  refine lv_iload_n hx hb d_Re_isGiven_1 rfl (lv_at hl 1 rfl) ?_
  refine vp_callSi (W.runV (b := h) (As := [.int (nI x)]) (rest := []) ⟨hx, hb, hml, hown, hts⟩ (c_Re_has l dC dI cI h b X hX x hx0) (cwV 1 hts (gV kw_468 kw_469 kw_470 kw_3 kw_471) rfl rfl rfl (by decide +kernel) ⟨Nat.le_of_ble_eq_true rfl, Nat.le_of_ble_eq_true rfl⟩) ⟨PcS.blind, va_recv (q0 := 0) hK hP rfl rfl, PcS.use hP hK hN⟩ rfl rfl hl.1 rfl (lv_room (Nat.le_of_ble_eq_true rfl)) d_Re_isGiven_2 ⟨Nat.zero_le _, Nat.zero_le _⟩) (fun r2 hr2 => ?_)
  obtain rfl : r2 = bi (decide (x < X.n)) := hr2
  refine lv_if_eq hx hb d_Re_isGiven_5 rfl (fun h5 => ?_) (fun h5 => ?_)
  · have h5 := (bi_d).mp h5
    refine lv_iconst (v := 0) hx hb d_Re_isGiven_22 (by decide) ?_
    exact W.zret (v := 0) hx hb hr (by decide) (fun t ht hW => ⟨0, rfl, (bF (by omega)), ht⟩) (fun q h => nomatch h) d_Re_isGiven_23
  have h5 := Decidable.not_not.mp (mt bi_d.mpr h5)
  refine lv_aload_n hx hb d_Re_isGiven_8 rfl (lv_at hl 0 rfl) ?_
  refine va_get (D := (dC, dI)) (ci := 3) (v := .ref (b 5)) (C := R_Re) (T := F_Re) (N := 10) hx hb hts u_Re hown hK hP 0 rfl rfl 5 (by decide) (hts _ kw_47) (fun _ h9 => h9) rfl d_Re_isGiven_9 ?_
  refine lv_iload_n hx hb d_Re_isGiven_12 rfl (lv_at hl 1 rfl) ?_
  refine x_iald (j := x) (v := (nI (X.sta x))) hx hb hK hP 6 0 rfl rfl (by have := hX.n; omega) (by decide) rfl rfl d_Re_isGiven_13 ?_
  refine lv_iconst (v := 1) hx hb d_Re_isGiven_14 (by decide) ?_
  refine lv_icmp_ne hx hb d_Re_isGiven_15 rfl (fun h15 => ?_) (fun h15 => ?_)
  · have h15 := mt (k_eq (b := 1) (by have := hX.sta x; omega) (by decide)).mpr h15
    refine lv_iconst (v := 0) hx hb d_Re_isGiven_22 (by decide) ?_
    exact W.zret (v := 0) hx hb hr (by decide) (fun t ht hW => ⟨0, rfl, (bF (by omega)), ht⟩) (fun q h => nomatch h) d_Re_isGiven_23
  have h15 := (k_eq (b := 1) (by have := hX.sta x; omega) (by decide)).mp h15
  refine lv_iconst (v := 1) hx hb d_Re_isGiven_18 (by decide) ?_
  refine lv_goto hx hb d_Re_isGiven_19 rfl ?_
  exact W.zret (v := 1) hx hb hr (by decide) (fun t ht hW => ⟨1, rfl, (bT (by omega)), ht⟩) (fun q h => nomatch h) d_Re_isGiven_23
set_option maxHeartbeats 4000000 in
set_option maxRecDepth 100000 in
theorem c_Re_start (l : Launch) (dC : Nat → ClassId) (dI : Nat → Nat → Nat) (cI : ClassId) (h : Nat) (b : Nat → Nat) (X : RS) (hX : RSok X) (j : Nat) (hj : j < 200) : Met l y_Re_start (.code y_Re_start b_Re_start 2 (some .long) :: wG) ({ frames := 1, cells := 0, slots := 0, locals := 20 }) (PcS (dC, dI) [(cI, .int)] (wRe cI h b X) [.ref h, .int (nI j)]) (vp_Sl (fun r9 => r9 = lN (X.pre j))) 0 0 (fun _ => False) := by
  refine Met.ofW (cc := b_Re_start) (maxL := 2) (ret := (some .long)) (by decide) rfl ?_
  intro pg eg s mg ag bg meth cg s₁ B hml hv
  obtain ⟨rfl, hP, hK, hN⟩ := hv
  have hx := B.exec
  have hb := B.bytes
  have hr := B.returns
  have hlocks := B.notSynchronized
  have hts : ∀ w9 ∈ wG, w9.before ([.ref h, .int (nI j)] : List Value).toArray s = true := fun w9 h9 => atoms_spec (ws := (.code y_Re_start b_Re_start 2 (some .long) :: wG)) B.pre w9 (List.mem_cons_of_mem _ h9)
  have hown : s.vm.findClass "PrefixRegistry$Records" = some mg.cls := findClass_of_methodNamed B.named
  have hP : va_P (dC, dI) classes (wRe cI h b X) s.heap := hP
  have hl := lv_entry ([.ref h, .int (nI j)]) (n := 2) (Nat.le_of_ble_eq_true rfl)
  rw [lg_entry_eq]
  generalize (lg_sl ([.ref h, .int (nI j)]) ++ List.replicate (2 - (lg_sl ([.ref h, .int (nI j)])).length) Slot.unset).toArray = ls at hl ⊢
  replace hl : lv_has ls 2 [(0, .ref h), (1, .int (nI j))] := hl
  refine lv_aload_n hx hb d_Re_start_0 rfl (lv_at hl 0 rfl) ?_
  refine va_get (D := (dC, dI)) (ci := 3) (v := .ref (b 0)) (C := R_Re) (T := F_Re) (N := 10) hx hb hts u_Re hown hK hP 0 rfl rfl 0 (by decide) (hts _ kw_37) (fun _ h9 => h9) rfl d_Re_start_1 ?_
  refine lv_iload_n hx hb d_Re_start_4 rfl (lv_at hl 1 rfl) ?_
  refine x_iald (j := j) (v := (nI (X.pre j))) hx hb hK hP 1 0 rfl rfl hj (by decide) rfl rfl d_Re_start_5 ?_
  refine vp_callSl (va_Run.run (va_runSN (As := [.int (nI (X.pre j))]) (rest := []) ⟨hx, hb, hml, hown, hts⟩ (c_PR_startOf l dC dI (X.pre j) (hX.pre j)) ⟨va_cnB 1 hts (gI kw_170) rfl rfl rfl (hN.at 168 nw_168 rfl) (hts _ kw_1) (by decide +kernel) ⟨Nat.le_of_ble_eq_true rfl, Nat.le_of_ble_eq_true rfl⟩, hts _ kw_169, trivial⟩ ⟨PcS.blind, PcS.use hP hK hN⟩ rfl rfl hl.1 rfl (lv_room (Nat.le_of_ble_eq_true rfl)) d_Re_start_6 ⟨Nat.zero_le _, Nat.zero_le _⟩)) (fun r6 hr6 => ?_)
  obtain rfl : r6 = lN (X.pre j) := hr6
  exact W.lret (v := lN (X.pre j)) hx hb hr (fun t ht hW => ⟨lN (X.pre j), rfl, (by rfl), ht⟩) (fun q h => nomatch h) d_Re_start_9
set_option maxHeartbeats 4000000 in
set_option maxRecDepth 100000 in
theorem c_Re_size (l : Launch) (dC : Nat → ClassId) (dI : Nat → Nat → Nat) (cI : ClassId) (h : Nat) (b : Nat → Nat) (X : RS) (hX : RSok X) (j : Nat) (hj : j < 200) : Met l y_Re_size (.code y_Re_size b_Re_size 2 (some .long) :: wG) ({ frames := 1, cells := 0, slots := 0, locals := 20 }) (PcS (dC, dI) [(cI, .int)] (wRe cI h b X) [.ref h, .int (nI j)]) (vp_Sl (fun r9 => r9 = lN (2 ^ (32 - X.len j)))) 0 0 (fun _ => False) := by
  refine Met.ofW (cc := b_Re_size) (maxL := 2) (ret := (some .long)) (by decide) rfl ?_
  intro pg eg s mg ag bg meth cg s₁ B hml hv
  obtain ⟨rfl, hP, hK, hN⟩ := hv
  have hx := B.exec
  have hb := B.bytes
  have hr := B.returns
  have hlocks := B.notSynchronized
  have hts : ∀ w9 ∈ wG, w9.before ([.ref h, .int (nI j)] : List Value).toArray s = true := fun w9 h9 => atoms_spec (ws := (.code y_Re_size b_Re_size 2 (some .long) :: wG)) B.pre w9 (List.mem_cons_of_mem _ h9)
  have hown : s.vm.findClass "PrefixRegistry$Records" = some mg.cls := findClass_of_methodNamed B.named
  have hP : va_P (dC, dI) classes (wRe cI h b X) s.heap := hP
  have hl := lv_entry ([.ref h, .int (nI j)]) (n := 2) (Nat.le_of_ble_eq_true rfl)
  rw [lg_entry_eq]
  generalize (lg_sl ([.ref h, .int (nI j)]) ++ List.replicate (2 - (lg_sl ([.ref h, .int (nI j)])).length) Slot.unset).toArray = ls at hl ⊢
  replace hl : lv_has ls 2 [(0, .ref h), (1, .int (nI j))] := hl
  refine lv_aload_n hx hb d_Re_size_0 rfl (lv_at hl 0 rfl) ?_
  refine va_get (D := (dC, dI)) (ci := 3) (v := .ref (b 1)) (C := R_Re) (T := F_Re) (N := 10) hx hb hts u_Re hown hK hP 0 rfl rfl 1 (by decide) (hts _ kw_39) (fun _ h9 => h9) rfl d_Re_size_1 ?_
  refine lv_iload_n hx hb d_Re_size_4 rfl (lv_at hl 1 rfl) ?_
  refine x_iald (j := j) (v := (nI (X.len j))) hx hb hK hP 2 0 rfl rfl hj (by decide) rfl rfl d_Re_size_5 ?_
  refine vp_callSl (va_Run.run (va_runSN (As := [.int (nI (X.len j))]) (rest := []) ⟨hx, hb, hml, hown, hts⟩ (c_PR_sizeOf l dC dI (X.len j) (hX.len j)) ⟨va_cnB 1 hts (gI kw_178) rfl rfl rfl (hN.at 176 nw_176 rfl) (hts _ kw_1) (by decide +kernel) ⟨Nat.le_of_ble_eq_true rfl, Nat.le_of_ble_eq_true rfl⟩, hts _ kw_177, trivial⟩ ⟨PcS.blind, PcS.use hP hK hN⟩ rfl rfl hl.1 rfl (lv_room (Nat.le_of_ble_eq_true rfl)) d_Re_size_6 ⟨Nat.zero_le _, Nat.zero_le _⟩)) (fun r6 hr6 => ?_)
  obtain rfl : r6 = lN (2 ^ (32 - (X.len j))) := hr6
  exact W.lret (v := lN (2 ^ (32 - (X.len j)))) hx hb hr (fun t ht hW => ⟨lN (2 ^ (32 - (X.len j))), rfl, (by rfl), ht⟩) (fun q h => nomatch h) d_Re_size_9
set_option maxHeartbeats 4000000 in
set_option maxRecDepth 100000 in
theorem c_Re_meets (l : Launch) (dC : Nat → ClassId) (dI : Nat → Nat → Nat) (cI : ClassId) (h : Nat) (b : Nat → Nat) (X : RS) (hX : RSok X) (j : Nat) (hj : j < 200) (a n : Nat) (ha : a < 4294967296) (hn : n < 33) : Met l y_Re_meets (.code y_Re_meets b_Re_meets 6 (some .boolean) :: wG) ({ frames := 2, cells := 0, slots := 0, locals := 41 }) (PcS (dC, dI) [(cI, .int)] (wRe cI h b X) [.ref h, .int (nI j), .int (nI a), .int (nI n)]) (vp_Si (fun r9 => r9 = bi (decide (mt2 (X.pre j) (X.len j) a n)))) 0 0 (fun _ => False) := by
  refine Met.ofW (cc := b_Re_meets) (maxL := 6) (ret := (some .boolean)) (by decide) rfl ?_
  intro pg eg s mg ag bg meth cg s₁ B hml hv
  obtain ⟨rfl, hP, hK, hN⟩ := hv
  have hx := B.exec
  have hb := B.bytes
  have hr := B.returns
  have hlocks := B.notSynchronized
  have hts : ∀ w9 ∈ wG, w9.before ([.ref h, .int (nI j), .int (nI a), .int (nI n)] : List Value).toArray s = true := fun w9 h9 => atoms_spec (ws := (.code y_Re_meets b_Re_meets 6 (some .boolean) :: wG)) B.pre w9 (List.mem_cons_of_mem _ h9)
  have hown : s.vm.findClass "PrefixRegistry$Records" = some mg.cls := findClass_of_methodNamed B.named
  have hP : va_P (dC, dI) classes (wRe cI h b X) s.heap := hP
  have hl := lv_entry ([.ref h, .int (nI j), .int (nI a), .int (nI n)]) (n := 6) (Nat.le_of_ble_eq_true rfl)
  rw [lg_entry_eq]
  generalize (lg_sl ([.ref h, .int (nI j), .int (nI a), .int (nI n)]) ++ List.replicate (6 - (lg_sl ([.ref h, .int (nI j), .int (nI a), .int (nI n)])).length) Slot.unset).toArray = ls at hl ⊢
  replace hl : lv_has ls 6 [(0, .ref h), (1, .int (nI j)), (2, .int (nI a)), (3, .int (nI n))] := hl
  refine lv_iload_n hx hb d_Re_meets_0 rfl (lv_at hl 2 rfl) ?_
  refine vp_callSl (va_Run.run (va_runSN (As := [.int (nI a)]) (rest := []) ⟨hx, hb, hml, hown, hts⟩ (c_PR_startOf l dC dI a ha) ⟨va_cnB 1 hts (gI kw_170) rfl rfl rfl (hN.at 168 nw_168 rfl) (hts _ kw_1) (by decide +kernel) ⟨Nat.le_of_ble_eq_true rfl, Nat.le_of_ble_eq_true rfl⟩, hts _ kw_169, trivial⟩ ⟨PcS.blind, PcS.use hP hK hN⟩ rfl rfl hl.1 rfl (lv_room (Nat.le_of_ble_eq_true rfl)) d_Re_meets_1 ⟨Nat.zero_le _, Nat.zero_le _⟩)) (fun r1 hr1 => ?_)
  obtain rfl : r1 = lN a := hr1
  refine lv_lstore hx hb d_Re_meets_4 hl (by decide) rfl (fun ls hl => ?_)
  replace hl : lv_has ls 6 [(4, .long (lN a)), (0, .ref h), (1, .int (nI j)), (2, .int (nI a)), (3, .int (nI n))] := hl
  refine lv_aload_n hx hb d_Re_meets_6 rfl (lv_at hl 1 rfl) ?_
  refine lv_iload_n hx hb d_Re_meets_7 rfl (lv_at hl 2 rfl) ?_
  refine vp_callSl (W.runV (b := h) (As := [.int (nI j)]) (rest := []) ⟨hx, hb, hml, hown, hts⟩ (c_Re_start l dC dI cI h b X hX j hj) (cwV 1 hts (gV kw_172 kw_173 kw_174 kw_3 kw_175) rfl rfl rfl (by decide +kernel) ⟨Nat.le_of_ble_eq_true rfl, Nat.le_of_ble_eq_true rfl⟩) ⟨PcS.blind, va_recv (q0 := 0) hK hP rfl rfl, PcS.use hP hK hN⟩ rfl rfl hl.1 rfl (lv_room (Nat.le_of_ble_eq_true rfl)) d_Re_meets_8 ⟨Nat.zero_le _, Nat.zero_le _⟩) (fun r8 hr8 => ?_)
  obtain rfl : r8 = lN (X.pre j) := hr8
  refine lv_lload hx hb d_Re_meets_11 (lv_at hl 0 rfl) ?_
  refine lv_iload_n hx hb d_Re_meets_13 rfl (lv_at hl 4 rfl) ?_
  refine vp_callSl (va_Run.run (va_runSN (As := [.int (nI n)]) (rest := [.long (lN a), .long (lN (X.pre j))]) ⟨hx, hb, hml, hown, hts⟩ (c_PR_sizeOf l dC dI n hn) ⟨va_cnB 1 hts (gI kw_178) rfl rfl rfl (hN.at 176 nw_176 rfl) (hts _ kw_1) (by decide +kernel) ⟨Nat.le_of_ble_eq_true rfl, Nat.le_of_ble_eq_true rfl⟩, hts _ kw_177, trivial⟩ ⟨PcS.blind, PcS.use hP hK hN⟩ rfl rfl hl.1 rfl (lv_room (Nat.le_of_ble_eq_true rfl)) d_Re_meets_14 ⟨Nat.zero_le _, Nat.zero_le _⟩)) (fun r14 hr14 => ?_)
  obtain rfl : r14 = lN (2 ^ (32 - n)) := hr14
  refine lv_ladd hx hb d_Re_meets_17 ?_
  refine x_topl (y := lN (a + 2 ^ (32 - n))) (lN_add _ _) ?_
  refine W.lcmp hx hb d_Re_meets_18 ?_
  refine lv_if_ge hx hb d_Re_meets_19 rfl (fun h19 => ?_) (fun h19 => ?_)
  · have h19 := (k_cge (by have := hX.pre j; have := @k_pow n; have := @k_pow (X.len j); omega) (by have := hX.pre j; have := @k_pow n; have := @k_pow (X.len j); omega)).mp h19
    refine lv_iconst (v := 0) hx hb d_Re_meets_43 (by decide) ?_
    exact W.zret (v := 0) hx hb hr (by decide) (fun t ht hW => ⟨0, rfl, (bF (by unfold mt2; omega)), ht⟩) (fun q h => nomatch h) d_Re_meets_44
  have h19 := mt (k_cge (by have := hX.pre j; have := @k_pow n; have := @k_pow (X.len j); omega) (by have := hX.pre j; have := @k_pow n; have := @k_pow (X.len j); omega)).mpr h19
  refine lv_lload hx hb d_Re_meets_22 (lv_at hl 0 rfl) ?_
  refine lv_aload_n hx hb d_Re_meets_24 rfl (lv_at hl 1 rfl) ?_
  refine lv_iload_n hx hb d_Re_meets_25 rfl (lv_at hl 2 rfl) ?_
  refine vp_callSl (W.runV (b := h) (As := [.int (nI j)]) (rest := [.long (lN a)]) ⟨hx, hb, hml, hown, hts⟩ (c_Re_start l dC dI cI h b X hX j hj) (cwV 1 hts (gV kw_172 kw_173 kw_174 kw_3 kw_175) rfl rfl rfl (by decide +kernel) ⟨Nat.le_of_ble_eq_true rfl, Nat.le_of_ble_eq_true rfl⟩) ⟨PcS.blind, va_recv (q0 := 0) hK hP rfl rfl, PcS.use hP hK hN⟩ rfl rfl hl.1 rfl (lv_room (Nat.le_of_ble_eq_true rfl)) d_Re_meets_26 ⟨Nat.zero_le _, Nat.zero_le _⟩) (fun r26 hr26 => ?_)
  obtain rfl : r26 = lN (X.pre j) := hr26
  refine lv_aload_n hx hb d_Re_meets_29 rfl (lv_at hl 1 rfl) ?_
  refine lv_iload_n hx hb d_Re_meets_30 rfl (lv_at hl 2 rfl) ?_
  refine vp_callSl (W.runV (b := h) (As := [.int (nI j)]) (rest := [.long (lN (X.pre j)), .long (lN a)]) ⟨hx, hb, hml, hown, hts⟩ (c_Re_size l dC dI cI h b X hX j hj) (cwV 1 hts (gV kw_179 kw_180 kw_181 kw_3 kw_182) rfl rfl rfl (by decide +kernel) ⟨Nat.le_of_ble_eq_true rfl, Nat.le_of_ble_eq_true rfl⟩) ⟨PcS.blind, va_recv (q0 := 0) hK hP rfl rfl, PcS.use hP hK hN⟩ rfl rfl hl.1 rfl (lv_room (Nat.le_of_ble_eq_true rfl)) d_Re_meets_31 ⟨Nat.zero_le _, Nat.zero_le _⟩) (fun r31 hr31 => ?_)
  obtain rfl : r31 = lN (2 ^ (32 - X.len j)) := hr31
  refine lv_ladd hx hb d_Re_meets_34 ?_
  refine x_topl (y := lN (X.pre j + 2 ^ (32 - X.len j))) (lN_add _ _) ?_
  refine W.lcmp hx hb d_Re_meets_35 ?_
  refine lv_if_ge hx hb d_Re_meets_36 rfl (fun h36 => ?_) (fun h36 => ?_)
  · have h36 := (k_cge (by have := hX.pre j; have := @k_pow n; have := @k_pow (X.len j); omega) (by have := hX.pre j; have := @k_pow n; have := @k_pow (X.len j); omega)).mp h36
    refine lv_iconst (v := 0) hx hb d_Re_meets_43 (by decide) ?_
    exact W.zret (v := 0) hx hb hr (by decide) (fun t ht hW => ⟨0, rfl, (bF (by unfold mt2; omega)), ht⟩) (fun q h => nomatch h) d_Re_meets_44
  have h36 := mt (k_cge (by have := hX.pre j; have := @k_pow n; have := @k_pow (X.len j); omega) (by have := hX.pre j; have := @k_pow n; have := @k_pow (X.len j); omega)).mpr h36
  refine lv_iconst (v := 1) hx hb d_Re_meets_39 (by decide) ?_
  refine lv_goto hx hb d_Re_meets_40 rfl ?_
  exact W.zret (v := 1) hx hb hr (by decide) (fun t ht hW => ⟨1, rfl, (bT (by unfold mt2; omega)), ht⟩) (fun q h => nomatch h) d_Re_meets_44
