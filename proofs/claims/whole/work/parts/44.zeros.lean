/-! counts of zeros -/
theorem t_gt0 : ∀ k, k < 32 → ((0 : Int32) < nI (2 ^ k - 1) ↔ 1 ≤ k) := by decide +kernel
theorem t_gt16 : ∀ k, k < 32 → ((65536 : Int32) < nI (2 ^ k - 1) ↔ 17 ≤ k) := by decide +kernel
theorem t_gt8 : ∀ k, k < 32 → ((256 : Int32) < nI (2 ^ k - 1) ↔ 9 ≤ k) := by decide +kernel
theorem t_gt4 : ∀ k, k < 32 → ((16 : Int32) < nI (2 ^ k - 1) ↔ 5 ≤ k) := by decide +kernel
theorem t_gt2 : ∀ k, k < 32 → ((4 : Int32) < nI (2 ^ k - 1) ↔ 3 ≤ k) := by decide +kernel
theorem t_sh16 : ∀ k, k < 32 → 16 ≤ k → ((nI (2 ^ k - 1)).toUInt32 >>> ((16 : Int32).toUInt32 &&& Int32.toUInt32 31)).toInt32 = nI (2 ^ (k - 16) - 1) := by decide +kernel
theorem t_sh8 : ∀ k, k < 32 → 8 ≤ k → ((nI (2 ^ k - 1)).toUInt32 >>> ((8 : Int32).toUInt32 &&& Int32.toUInt32 31)).toInt32 = nI (2 ^ (k - 8) - 1) := by decide +kernel
theorem t_sh4 : ∀ k, k < 32 → 4 ≤ k → ((nI (2 ^ k - 1)).toUInt32 >>> ((4 : Int32).toUInt32 &&& Int32.toUInt32 31)).toInt32 = nI (2 ^ (k - 4) - 1) := by decide +kernel
theorem t_sh2 : ∀ k, k < 32 → 2 ≤ k → ((nI (2 ^ k - 1)).toUInt32 >>> ((2 : Int32).toUInt32 &&& Int32.toUInt32 31)).toInt32 = nI (2 ^ (k - 2) - 1) := by decide +kernel
theorem t_sh1 : ∀ k, k < 3 → 1 ≤ k → ((nI (2 ^ k - 1)).toUInt32 >>> ((1 : Int32).toUInt32 &&& Int32.toUInt32 31)).toInt32 = nI (k - 1) := by decide +kernel
set_option maxHeartbeats 4000000 in
set_option maxRecDepth 100000 in
theorem c_Ma_max (l : Launch) (dC : Nat → ClassId) (dI : Nat → Nat → Nat) {tys : List (ClassId × FieldType)} {ws : va_W} (x y : Int32) : Met l y_Ma_max (.code y_Ma_max b_Ma_max 2 (some .int) :: wG) ({ frames := 0, cells := 0, slots := 0, locals := 0 }) (PcS (dC, dI) tys ws [.int x, .int y]) (vp_Si (fun r9 => r9 = (if x < y then y else x))) 0 0 (fun _ => False) := by
  refine Met.ofW (cc := b_Ma_max) (maxL := 2) (ret := (some .int)) (by decide) rfl ?_
  intro pg eg s mg ag bg meth cg s₁ B hml hv
  obtain ⟨rfl, hP, hK, hN⟩ := hv
  have hx := B.exec
  have hb := B.bytes
  have hr := B.returns
  have hlocks := B.notSynchronized
  have hts : ∀ w9 ∈ wG, w9.before ([.int x, .int y] : List Value).toArray s = true := fun w9 h9 => atoms_spec (ws := (.code y_Ma_max b_Ma_max 2 (some .int) :: wG)) B.pre w9 (List.mem_cons_of_mem _ h9)
  have hown : s.vm.findClass "java/lang/Math" = some mg.cls := findClass_of_methodNamed B.named
  have hP : va_P (dC, dI) classes ws s.heap := hP
  have hl := lv_entry ([.int x, .int y]) (n := 2) (Nat.le_of_ble_eq_true rfl)
  rw [lg_entry_eq]
  generalize (lg_sl ([.int x, .int y]) ++ List.replicate (2 - (lg_sl ([.int x, .int y])).length) Slot.unset).toArray = ls at hl ⊢
  replace hl : lv_has ls 2 [(0, .int x), (1, .int y)] := hl
  refine lv_iload_n hx hb d_Ma_max_0 rfl (lv_at hl 0 rfl) ?_
  refine lv_iload_n hx hb d_Ma_max_1 rfl (lv_at hl 1 rfl) ?_
  refine lv_icmp_lt hx hb d_Ma_max_2 rfl (fun h2 => ?_) (fun h2 => ?_)
  · refine lv_iload_n hx hb d_Ma_max_9 rfl (lv_at hl 1 rfl) ?_
    exact W.iret (v := y) hx hb hr (fun t ht hW => ⟨y, rfl, (by rw [if_pos h2]), ht⟩) (fun q h => nomatch h) d_Ma_max_10
  refine lv_iload_n hx hb d_Ma_max_5 rfl (lv_at hl 0 rfl) ?_
  refine lv_goto hx hb d_Ma_max_6 rfl ?_
  exact W.iret (v := x) hx hb hr (fun t ht hW => ⟨x, rfl, (by rw [if_neg h2]), ht⟩) (fun q h => nomatch h) d_Ma_max_10
set_option maxHeartbeats 4000000 in
set_option maxRecDepth 100000 in
theorem c_In_numberOfTrailingZeros (l : Launch) (dC : Nat → ClassId) (dI : Nat → Nat → Nat) {tys : List (ClassId × FieldType)} {ws : va_W} (x : Int32) (k : Nat) (hk : k < 32) (hlow : (x ^^^ (-1)) &&& (x - 1) = nI (2 ^ k - 1)) : Met l y_In_numberOfTrailingZeros (.code y_In_numberOfTrailingZeros b_In_numberOfTrailingZeros 2 (some .int) :: wG) ({ frames := 0, cells := 0, slots := 0, locals := 0 }) (PcS (dC, dI) tys ws [.int x]) (vp_Si (fun r9 => r9 = nI k)) 0 0 (fun _ => False) := by
  refine Met.ofW (cc := b_In_numberOfTrailingZeros) (maxL := 2) (ret := (some .int)) (by decide) rfl ?_
  intro pg eg s mg ag bg meth cg s₁ B hml hv
  obtain ⟨rfl, hP, hK, hN⟩ := hv
  have hx := B.exec
  have hb := B.bytes
  have hr := B.returns
  have hlocks := B.notSynchronized
  have hts : ∀ w9 ∈ wG, w9.before ([.int x] : List Value).toArray s = true := fun w9 h9 => atoms_spec (ws := (.code y_In_numberOfTrailingZeros b_In_numberOfTrailingZeros 2 (some .int) :: wG)) B.pre w9 (List.mem_cons_of_mem _ h9)
  have hown : s.vm.findClass "java/lang/Integer" = some mg.cls := findClass_of_methodNamed B.named
  have hP : va_P (dC, dI) classes ws s.heap := hP
  have hl := lv_entry ([.int x]) (n := 2) (Nat.le_of_ble_eq_true rfl)
  rw [lg_entry_eq]
  generalize (lg_sl ([.int x]) ++ List.replicate (2 - (lg_sl ([.int x])).length) Slot.unset).toArray = ls at hl ⊢
  replace hl : lv_has ls 2 [(0, .int x)] := hl
  refine lv_iload_n hx hb d_In_numberOfTrailingZeros_0 rfl (lv_at hl 0 rfl) ?_
  refine lv_iconst (v := (-1)) hx hb d_In_numberOfTrailingZeros_1 (by decide) ?_
  refine lv_ixor hx hb d_In_numberOfTrailingZeros_2 ?_
  refine lv_iload_n hx hb d_In_numberOfTrailingZeros_3 rfl (lv_at hl 0 rfl) ?_
  refine lv_iconst (v := 1) hx hb d_In_numberOfTrailingZeros_4 (by decide) ?_
  refine lv_isub hx hb d_In_numberOfTrailingZeros_5 ?_
  refine lv_iand hx hb d_In_numberOfTrailingZeros_6 ?_
  refine x_topi (y := (nI (2 ^ k - 1))) hlow ?_
  refine lv_istore_n hx hb d_In_numberOfTrailingZeros_7 rfl hl (by decide) rfl (fun ls hl => ?_)
  replace hl : lv_has ls 2 [(0, .int (nI (2 ^ k - 1)))] := hl
  refine lv_iload_n hx hb d_In_numberOfTrailingZeros_8 rfl (lv_at hl 0 rfl) ?_
  refine lv_if_gt hx hb d_In_numberOfTrailingZeros_9 rfl (fun h9 => ?_) (fun h9 => ?_)
  · have h9 := (t_gt0 k hk).mp h9
    refine lv_iconst (v := 1) hx hb d_In_numberOfTrailingZeros_17 (by decide) ?_
    refine lv_istore_n hx hb d_In_numberOfTrailingZeros_18 rfl hl (by decide) rfl (fun ls hl => ?_)
    replace hl : lv_has ls 2 [(1, .int 1), (0, .int (nI (2 ^ k - 1)))] := hl
    refine lv_iload_n hx hb d_In_numberOfTrailingZeros_19 rfl (lv_at hl 1 rfl) ?_
    refine lv_ldcw hx hb hown (hts _ kw_378) d_In_numberOfTrailingZeros_20 ?_
    refine lv_icmp_le hx hb d_In_numberOfTrailingZeros_23 rfl (fun h23 => ?_) (fun h23 => ?_)
    · have h23 : k < 17 := by have := mt (t_gt16 (k) (by omega)).mpr (Int32.not_lt.mpr h23); omega
      refine lv_iload_n hx hb d_In_numberOfTrailingZeros_34 rfl (lv_at hl 1 rfl) ?_
      refine lv_sipush (v := 256) hx hb d_In_numberOfTrailingZeros_35 (by decide) ?_
      refine lv_icmp_le hx hb d_In_numberOfTrailingZeros_38 rfl (fun h38 => ?_) (fun h38 => ?_)
      · have h38 : k < 9 := by have := mt (t_gt8 (k) (by omega)).mpr (Int32.not_lt.mpr h38); omega
        refine lv_iload_n hx hb d_In_numberOfTrailingZeros_49 rfl (lv_at hl 1 rfl) ?_
        refine lv_bipush (v := 16) hx hb d_In_numberOfTrailingZeros_50 (by decide) ?_
        refine lv_icmp_le hx hb d_In_numberOfTrailingZeros_52 rfl (fun h52 => ?_) (fun h52 => ?_)
        · have h52 : k < 5 := by have := mt (t_gt4 (k) (by omega)).mpr (Int32.not_lt.mpr h52); omega
          refine lv_iload_n hx hb d_In_numberOfTrailingZeros_62 rfl (lv_at hl 1 rfl) ?_
          refine lv_iconst (v := 4) hx hb d_In_numberOfTrailingZeros_63 (by decide) ?_
          refine lv_icmp_le hx hb d_In_numberOfTrailingZeros_64 rfl (fun h64 => ?_) (fun h64 => ?_)
          · have h64 : k < 3 := by have := mt (t_gt2 (k) (by omega)).mpr (Int32.not_lt.mpr h64); omega
            refine lv_iload_n hx hb d_In_numberOfTrailingZeros_74 rfl (lv_at hl 0 rfl) ?_
            refine lv_iload_n hx hb d_In_numberOfTrailingZeros_75 rfl (lv_at hl 1 rfl) ?_
            refine lv_iconst (v := 1) hx hb d_In_numberOfTrailingZeros_76 (by decide) ?_
            refine lv_iushr (v := (nI (k - 1))) hx hb d_In_numberOfTrailingZeros_77 (t_sh1 (k) (by omega) (by omega)) ?_
            refine lv_iadd hx hb d_In_numberOfTrailingZeros_78 ?_
            exact W.iret (v := (1 + (nI (k - 1)))) hx hb hr (fun t ht hW => ⟨(1 + (nI (k - 1))), rfl, ((nI_add 1 _).trans (congrArg nI (by omega))), ht⟩) (fun q h => nomatch h) d_In_numberOfTrailingZeros_79
          have h64 : 3 ≤ k := (t_gt2 (k) (by omega)).mp (Int32.not_le.mp h64)
          refine lv_iinc hx hb d_In_numberOfTrailingZeros_67 hl (k := 0) (v := (nI 3)) rfl rfl (by decide) rfl (fun ls hl => ?_)
          replace hl : lv_has ls 2 [(1, .int (nI 3)), (0, .int (nI (2 ^ k - 1)))] := hl
          refine lv_iload_n hx hb d_In_numberOfTrailingZeros_70 rfl (lv_at hl 1 rfl) ?_
          refine lv_iconst (v := 2) hx hb d_In_numberOfTrailingZeros_71 (by decide) ?_
          refine lv_iushr (v := (nI (2 ^ (k - 2) - 1))) hx hb d_In_numberOfTrailingZeros_72 (t_sh2 (k) (by omega) (by omega)) ?_
          refine lv_istore_n hx hb d_In_numberOfTrailingZeros_73 rfl hl (by decide) rfl (fun ls hl => ?_)
          replace hl : lv_has ls 2 [(0, .int (nI (2 ^ (k - 2) - 1))), (1, .int (nI 3))] := hl
          refine lv_iload_n hx hb d_In_numberOfTrailingZeros_74 rfl (lv_at hl 1 rfl) ?_
          refine lv_iload_n hx hb d_In_numberOfTrailingZeros_75 rfl (lv_at hl 0 rfl) ?_
          refine lv_iconst (v := 1) hx hb d_In_numberOfTrailingZeros_76 (by decide) ?_
          refine lv_iushr (v := (nI ((k - 2) - 1))) hx hb d_In_numberOfTrailingZeros_77 (t_sh1 ((k - 2)) (by omega) (by omega)) ?_
          refine lv_iadd hx hb d_In_numberOfTrailingZeros_78 ?_
          exact W.iret (v := ((nI 3) + (nI ((k - 2) - 1)))) hx hb hr (fun t ht hW => ⟨((nI 3) + (nI ((k - 2) - 1))), rfl, ((nI_add 3 _).trans (congrArg nI (by omega))), ht⟩) (fun q h => nomatch h) d_In_numberOfTrailingZeros_79
        have h52 : 5 ≤ k := (t_gt4 (k) (by omega)).mp (Int32.not_le.mp h52)
        refine lv_iinc hx hb d_In_numberOfTrailingZeros_55 hl (k := 0) (v := (nI 5)) rfl rfl (by decide) rfl (fun ls hl => ?_)
        replace hl : lv_has ls 2 [(1, .int (nI 5)), (0, .int (nI (2 ^ k - 1)))] := hl
        refine lv_iload_n hx hb d_In_numberOfTrailingZeros_58 rfl (lv_at hl 1 rfl) ?_
        refine lv_iconst (v := 4) hx hb d_In_numberOfTrailingZeros_59 (by decide) ?_
        refine lv_iushr (v := (nI (2 ^ (k - 4) - 1))) hx hb d_In_numberOfTrailingZeros_60 (t_sh4 (k) (by omega) (by omega)) ?_
        refine lv_istore_n hx hb d_In_numberOfTrailingZeros_61 rfl hl (by decide) rfl (fun ls hl => ?_)
        replace hl : lv_has ls 2 [(0, .int (nI (2 ^ (k - 4) - 1))), (1, .int (nI 5))] := hl
        refine lv_iload_n hx hb d_In_numberOfTrailingZeros_62 rfl (lv_at hl 0 rfl) ?_
        refine lv_iconst (v := 4) hx hb d_In_numberOfTrailingZeros_63 (by decide) ?_
        refine lv_icmp_le hx hb d_In_numberOfTrailingZeros_64 rfl (fun h64 => ?_) (fun h64 => ?_)
        · have h64 : (k - 4) < 3 := by have := mt (t_gt2 ((k - 4)) (by omega)).mpr (Int32.not_lt.mpr h64); omega
          refine lv_iload_n hx hb d_In_numberOfTrailingZeros_74 rfl (lv_at hl 1 rfl) ?_
          refine lv_iload_n hx hb d_In_numberOfTrailingZeros_75 rfl (lv_at hl 0 rfl) ?_
          refine lv_iconst (v := 1) hx hb d_In_numberOfTrailingZeros_76 (by decide) ?_
          refine lv_iushr (v := (nI ((k - 4) - 1))) hx hb d_In_numberOfTrailingZeros_77 (t_sh1 ((k - 4)) (by omega) (by omega)) ?_
          refine lv_iadd hx hb d_In_numberOfTrailingZeros_78 ?_
          exact W.iret (v := ((nI 5) + (nI ((k - 4) - 1)))) hx hb hr (fun t ht hW => ⟨((nI 5) + (nI ((k - 4) - 1))), rfl, ((nI_add 5 _).trans (congrArg nI (by omega))), ht⟩) (fun q h => nomatch h) d_In_numberOfTrailingZeros_79
        have h64 : 3 ≤ (k - 4) := (t_gt2 ((k - 4)) (by omega)).mp (Int32.not_le.mp h64)
        refine lv_iinc hx hb d_In_numberOfTrailingZeros_67 hl (k := 1) (v := (nI 7)) rfl rfl (by decide) rfl (fun ls hl => ?_)
        replace hl : lv_has ls 2 [(1, .int (nI 7)), (0, .int (nI (2 ^ (k - 4) - 1)))] := hl
        refine lv_iload_n hx hb d_In_numberOfTrailingZeros_70 rfl (lv_at hl 1 rfl) ?_
        refine lv_iconst (v := 2) hx hb d_In_numberOfTrailingZeros_71 (by decide) ?_
        refine lv_iushr (v := (nI (2 ^ ((k - 4) - 2) - 1))) hx hb d_In_numberOfTrailingZeros_72 (t_sh2 ((k - 4)) (by omega) (by omega)) ?_
        refine lv_istore_n hx hb d_In_numberOfTrailingZeros_73 rfl hl (by decide) rfl (fun ls hl => ?_)
        replace hl : lv_has ls 2 [(0, .int (nI (2 ^ ((k - 4) - 2) - 1))), (1, .int (nI 7))] := hl
        refine lv_iload_n hx hb d_In_numberOfTrailingZeros_74 rfl (lv_at hl 1 rfl) ?_
        refine lv_iload_n hx hb d_In_numberOfTrailingZeros_75 rfl (lv_at hl 0 rfl) ?_
        refine lv_iconst (v := 1) hx hb d_In_numberOfTrailingZeros_76 (by decide) ?_
        refine lv_iushr (v := (nI (((k - 4) - 2) - 1))) hx hb d_In_numberOfTrailingZeros_77 (t_sh1 (((k - 4) - 2)) (by omega) (by omega)) ?_
        refine lv_iadd hx hb d_In_numberOfTrailingZeros_78 ?_
        exact W.iret (v := ((nI 7) + (nI (((k - 4) - 2) - 1)))) hx hb hr (fun t ht hW => ⟨((nI 7) + (nI (((k - 4) - 2) - 1))), rfl, ((nI_add 7 _).trans (congrArg nI (by omega))), ht⟩) (fun q h => nomatch h) d_In_numberOfTrailingZeros_79
      have h38 : 9 ≤ k := (t_gt8 (k) (by omega)).mp (Int32.not_le.mp h38)
      refine lv_iinc hx hb d_In_numberOfTrailingZeros_41 hl (k := 0) (v := (nI 9)) rfl rfl (by decide) rfl (fun ls hl => ?_)
      replace hl : lv_has ls 2 [(1, .int (nI 9)), (0, .int (nI (2 ^ k - 1)))] := hl
      refine lv_iload_n hx hb d_In_numberOfTrailingZeros_44 rfl (lv_at hl 1 rfl) ?_
      refine lv_bipush (v := 8) hx hb d_In_numberOfTrailingZeros_45 (by decide) ?_
      refine lv_iushr (v := (nI (2 ^ (k - 8) - 1))) hx hb d_In_numberOfTrailingZeros_47 (t_sh8 (k) (by omega) (by omega)) ?_
      refine lv_istore_n hx hb d_In_numberOfTrailingZeros_48 rfl hl (by decide) rfl (fun ls hl => ?_)
      replace hl : lv_has ls 2 [(0, .int (nI (2 ^ (k - 8) - 1))), (1, .int (nI 9))] := hl
      refine lv_iload_n hx hb d_In_numberOfTrailingZeros_49 rfl (lv_at hl 0 rfl) ?_
      refine lv_bipush (v := 16) hx hb d_In_numberOfTrailingZeros_50 (by decide) ?_
      refine lv_icmp_le hx hb d_In_numberOfTrailingZeros_52 rfl (fun h52 => ?_) (fun h52 => ?_)
      · have h52 : (k - 8) < 5 := by have := mt (t_gt4 ((k - 8)) (by omega)).mpr (Int32.not_lt.mpr h52); omega
        refine lv_iload_n hx hb d_In_numberOfTrailingZeros_62 rfl (lv_at hl 0 rfl) ?_
        refine lv_iconst (v := 4) hx hb d_In_numberOfTrailingZeros_63 (by decide) ?_
        refine lv_icmp_le hx hb d_In_numberOfTrailingZeros_64 rfl (fun h64 => ?_) (fun h64 => ?_)
        · have h64 : (k - 8) < 3 := by have := mt (t_gt2 ((k - 8)) (by omega)).mpr (Int32.not_lt.mpr h64); omega
          refine lv_iload_n hx hb d_In_numberOfTrailingZeros_74 rfl (lv_at hl 1 rfl) ?_
          refine lv_iload_n hx hb d_In_numberOfTrailingZeros_75 rfl (lv_at hl 0 rfl) ?_
          refine lv_iconst (v := 1) hx hb d_In_numberOfTrailingZeros_76 (by decide) ?_
          refine lv_iushr (v := (nI ((k - 8) - 1))) hx hb d_In_numberOfTrailingZeros_77 (t_sh1 ((k - 8)) (by omega) (by omega)) ?_
          refine lv_iadd hx hb d_In_numberOfTrailingZeros_78 ?_
          exact W.iret (v := ((nI 9) + (nI ((k - 8) - 1)))) hx hb hr (fun t ht hW => ⟨((nI 9) + (nI ((k - 8) - 1))), rfl, ((nI_add 9 _).trans (congrArg nI (by omega))), ht⟩) (fun q h => nomatch h) d_In_numberOfTrailingZeros_79
        have h64 : 3 ≤ (k - 8) := (t_gt2 ((k - 8)) (by omega)).mp (Int32.not_le.mp h64)
        refine lv_iinc hx hb d_In_numberOfTrailingZeros_67 hl (k := 1) (v := (nI 11)) rfl rfl (by decide) rfl (fun ls hl => ?_)
        replace hl : lv_has ls 2 [(1, .int (nI 11)), (0, .int (nI (2 ^ (k - 8) - 1)))] := hl
        refine lv_iload_n hx hb d_In_numberOfTrailingZeros_70 rfl (lv_at hl 1 rfl) ?_
        refine lv_iconst (v := 2) hx hb d_In_numberOfTrailingZeros_71 (by decide) ?_
        refine lv_iushr (v := (nI (2 ^ ((k - 8) - 2) - 1))) hx hb d_In_numberOfTrailingZeros_72 (t_sh2 ((k - 8)) (by omega) (by omega)) ?_
        refine lv_istore_n hx hb d_In_numberOfTrailingZeros_73 rfl hl (by decide) rfl (fun ls hl => ?_)
        replace hl : lv_has ls 2 [(0, .int (nI (2 ^ ((k - 8) - 2) - 1))), (1, .int (nI 11))] := hl
        refine lv_iload_n hx hb d_In_numberOfTrailingZeros_74 rfl (lv_at hl 1 rfl) ?_
        refine lv_iload_n hx hb d_In_numberOfTrailingZeros_75 rfl (lv_at hl 0 rfl) ?_
        refine lv_iconst (v := 1) hx hb d_In_numberOfTrailingZeros_76 (by decide) ?_
        refine lv_iushr (v := (nI (((k - 8) - 2) - 1))) hx hb d_In_numberOfTrailingZeros_77 (t_sh1 (((k - 8) - 2)) (by omega) (by omega)) ?_
        refine lv_iadd hx hb d_In_numberOfTrailingZeros_78 ?_
        exact W.iret (v := ((nI 11) + (nI (((k - 8) - 2) - 1)))) hx hb hr (fun t ht hW => ⟨((nI 11) + (nI (((k - 8) - 2) - 1))), rfl, ((nI_add 11 _).trans (congrArg nI (by omega))), ht⟩) (fun q h => nomatch h) d_In_numberOfTrailingZeros_79
      have h52 : 5 ≤ (k - 8) := (t_gt4 ((k - 8)) (by omega)).mp (Int32.not_le.mp h52)
      refine lv_iinc hx hb d_In_numberOfTrailingZeros_55 hl (k := 1) (v := (nI 13)) rfl rfl (by decide) rfl (fun ls hl => ?_)
      replace hl : lv_has ls 2 [(1, .int (nI 13)), (0, .int (nI (2 ^ (k - 8) - 1)))] := hl
      refine lv_iload_n hx hb d_In_numberOfTrailingZeros_58 rfl (lv_at hl 1 rfl) ?_
      refine lv_iconst (v := 4) hx hb d_In_numberOfTrailingZeros_59 (by decide) ?_
      refine lv_iushr (v := (nI (2 ^ ((k - 8) - 4) - 1))) hx hb d_In_numberOfTrailingZeros_60 (t_sh4 ((k - 8)) (by omega) (by omega)) ?_
      refine lv_istore_n hx hb d_In_numberOfTrailingZeros_61 rfl hl (by decide) rfl (fun ls hl => ?_)
      replace hl : lv_has ls 2 [(0, .int (nI (2 ^ ((k - 8) - 4) - 1))), (1, .int (nI 13))] := hl
      refine lv_iload_n hx hb d_In_numberOfTrailingZeros_62 rfl (lv_at hl 0 rfl) ?_
      refine lv_iconst (v := 4) hx hb d_In_numberOfTrailingZeros_63 (by decide) ?_
      refine lv_icmp_le hx hb d_In_numberOfTrailingZeros_64 rfl (fun h64 => ?_) (fun h64 => ?_)
      · have h64 : ((k - 8) - 4) < 3 := by have := mt (t_gt2 (((k - 8) - 4)) (by omega)).mpr (Int32.not_lt.mpr h64); omega
        refine lv_iload_n hx hb d_In_numberOfTrailingZeros_74 rfl (lv_at hl 1 rfl) ?_
        refine lv_iload_n hx hb d_In_numberOfTrailingZeros_75 rfl (lv_at hl 0 rfl) ?_
        refine lv_iconst (v := 1) hx hb d_In_numberOfTrailingZeros_76 (by decide) ?_
        refine lv_iushr (v := (nI (((k - 8) - 4) - 1))) hx hb d_In_numberOfTrailingZeros_77 (t_sh1 (((k - 8) - 4)) (by omega) (by omega)) ?_
        refine lv_iadd hx hb d_In_numberOfTrailingZeros_78 ?_
        exact W.iret (v := ((nI 13) + (nI (((k - 8) - 4) - 1)))) hx hb hr (fun t ht hW => ⟨((nI 13) + (nI (((k - 8) - 4) - 1))), rfl, ((nI_add 13 _).trans (congrArg nI (by omega))), ht⟩) (fun q h => nomatch h) d_In_numberOfTrailingZeros_79
      have h64 : 3 ≤ ((k - 8) - 4) := (t_gt2 (((k - 8) - 4)) (by omega)).mp (Int32.not_le.mp h64)
      refine lv_iinc hx hb d_In_numberOfTrailingZeros_67 hl (k := 1) (v := (nI 15)) rfl rfl (by decide) rfl (fun ls hl => ?_)
      replace hl : lv_has ls 2 [(1, .int (nI 15)), (0, .int (nI (2 ^ ((k - 8) - 4) - 1)))] := hl
      refine lv_iload_n hx hb d_In_numberOfTrailingZeros_70 rfl (lv_at hl 1 rfl) ?_
      refine lv_iconst (v := 2) hx hb d_In_numberOfTrailingZeros_71 (by decide) ?_
      refine lv_iushr (v := (nI (2 ^ (((k - 8) - 4) - 2) - 1))) hx hb d_In_numberOfTrailingZeros_72 (t_sh2 (((k - 8) - 4)) (by omega) (by omega)) ?_
      refine lv_istore_n hx hb d_In_numberOfTrailingZeros_73 rfl hl (by decide) rfl (fun ls hl => ?_)
      replace hl : lv_has ls 2 [(0, .int (nI (2 ^ (((k - 8) - 4) - 2) - 1))), (1, .int (nI 15))] := hl
      refine lv_iload_n hx hb d_In_numberOfTrailingZeros_74 rfl (lv_at hl 1 rfl) ?_
      refine lv_iload_n hx hb d_In_numberOfTrailingZeros_75 rfl (lv_at hl 0 rfl) ?_
      refine lv_iconst (v := 1) hx hb d_In_numberOfTrailingZeros_76 (by decide) ?_
      refine lv_iushr (v := (nI ((((k - 8) - 4) - 2) - 1))) hx hb d_In_numberOfTrailingZeros_77 (t_sh1 ((((k - 8) - 4) - 2)) (by omega) (by omega)) ?_
      refine lv_iadd hx hb d_In_numberOfTrailingZeros_78 ?_
      exact W.iret (v := ((nI 15) + (nI ((((k - 8) - 4) - 2) - 1)))) hx hb hr (fun t ht hW => ⟨((nI 15) + (nI ((((k - 8) - 4) - 2) - 1))), rfl, ((nI_add 15 _).trans (congrArg nI (by omega))), ht⟩) (fun q h => nomatch h) d_In_numberOfTrailingZeros_79
    have h23 : 17 ≤ k := (t_gt16 (k) (by omega)).mp (Int32.not_le.mp h23)
    refine lv_iinc hx hb d_In_numberOfTrailingZeros_26 hl (k := 0) (v := (nI 17)) rfl rfl (by decide) rfl (fun ls hl => ?_)
    replace hl : lv_has ls 2 [(1, .int (nI 17)), (0, .int (nI (2 ^ k - 1)))] := hl
    refine lv_iload_n hx hb d_In_numberOfTrailingZeros_29 rfl (lv_at hl 1 rfl) ?_
    refine lv_bipush (v := 16) hx hb d_In_numberOfTrailingZeros_30 (by decide) ?_
    refine lv_iushr (v := (nI (2 ^ (k - 16) - 1))) hx hb d_In_numberOfTrailingZeros_32 (t_sh16 (k) (by omega) (by omega)) ?_
    refine lv_istore_n hx hb d_In_numberOfTrailingZeros_33 rfl hl (by decide) rfl (fun ls hl => ?_)
    replace hl : lv_has ls 2 [(0, .int (nI (2 ^ (k - 16) - 1))), (1, .int (nI 17))] := hl
    refine lv_iload_n hx hb d_In_numberOfTrailingZeros_34 rfl (lv_at hl 0 rfl) ?_
    refine lv_sipush (v := 256) hx hb d_In_numberOfTrailingZeros_35 (by decide) ?_
    refine lv_icmp_le hx hb d_In_numberOfTrailingZeros_38 rfl (fun h38 => ?_) (fun h38 => ?_)
    · have h38 : (k - 16) < 9 := by have := mt (t_gt8 ((k - 16)) (by omega)).mpr (Int32.not_lt.mpr h38); omega
      refine lv_iload_n hx hb d_In_numberOfTrailingZeros_49 rfl (lv_at hl 0 rfl) ?_
      refine lv_bipush (v := 16) hx hb d_In_numberOfTrailingZeros_50 (by decide) ?_
      refine lv_icmp_le hx hb d_In_numberOfTrailingZeros_52 rfl (fun h52 => ?_) (fun h52 => ?_)
      · have h52 : (k - 16) < 5 := by have := mt (t_gt4 ((k - 16)) (by omega)).mpr (Int32.not_lt.mpr h52); omega
        refine lv_iload_n hx hb d_In_numberOfTrailingZeros_62 rfl (lv_at hl 0 rfl) ?_
        refine lv_iconst (v := 4) hx hb d_In_numberOfTrailingZeros_63 (by decide) ?_
        refine lv_icmp_le hx hb d_In_numberOfTrailingZeros_64 rfl (fun h64 => ?_) (fun h64 => ?_)
        · have h64 : (k - 16) < 3 := by have := mt (t_gt2 ((k - 16)) (by omega)).mpr (Int32.not_lt.mpr h64); omega
          refine lv_iload_n hx hb d_In_numberOfTrailingZeros_74 rfl (lv_at hl 1 rfl) ?_
          refine lv_iload_n hx hb d_In_numberOfTrailingZeros_75 rfl (lv_at hl 0 rfl) ?_
          refine lv_iconst (v := 1) hx hb d_In_numberOfTrailingZeros_76 (by decide) ?_
          refine lv_iushr (v := (nI ((k - 16) - 1))) hx hb d_In_numberOfTrailingZeros_77 (t_sh1 ((k - 16)) (by omega) (by omega)) ?_
          refine lv_iadd hx hb d_In_numberOfTrailingZeros_78 ?_
          exact W.iret (v := ((nI 17) + (nI ((k - 16) - 1)))) hx hb hr (fun t ht hW => ⟨((nI 17) + (nI ((k - 16) - 1))), rfl, ((nI_add 17 _).trans (congrArg nI (by omega))), ht⟩) (fun q h => nomatch h) d_In_numberOfTrailingZeros_79
        have h64 : 3 ≤ (k - 16) := (t_gt2 ((k - 16)) (by omega)).mp (Int32.not_le.mp h64)
        refine lv_iinc hx hb d_In_numberOfTrailingZeros_67 hl (k := 1) (v := (nI 19)) rfl rfl (by decide) rfl (fun ls hl => ?_)
        replace hl : lv_has ls 2 [(1, .int (nI 19)), (0, .int (nI (2 ^ (k - 16) - 1)))] := hl
        refine lv_iload_n hx hb d_In_numberOfTrailingZeros_70 rfl (lv_at hl 1 rfl) ?_
        refine lv_iconst (v := 2) hx hb d_In_numberOfTrailingZeros_71 (by decide) ?_
        refine lv_iushr (v := (nI (2 ^ ((k - 16) - 2) - 1))) hx hb d_In_numberOfTrailingZeros_72 (t_sh2 ((k - 16)) (by omega) (by omega)) ?_
        refine lv_istore_n hx hb d_In_numberOfTrailingZeros_73 rfl hl (by decide) rfl (fun ls hl => ?_)
        replace hl : lv_has ls 2 [(0, .int (nI (2 ^ ((k - 16) - 2) - 1))), (1, .int (nI 19))] := hl
        refine lv_iload_n hx hb d_In_numberOfTrailingZeros_74 rfl (lv_at hl 1 rfl) ?_
        refine lv_iload_n hx hb d_In_numberOfTrailingZeros_75 rfl (lv_at hl 0 rfl) ?_
        refine lv_iconst (v := 1) hx hb d_In_numberOfTrailingZeros_76 (by decide) ?_
        refine lv_iushr (v := (nI (((k - 16) - 2) - 1))) hx hb d_In_numberOfTrailingZeros_77 (t_sh1 (((k - 16) - 2)) (by omega) (by omega)) ?_
        refine lv_iadd hx hb d_In_numberOfTrailingZeros_78 ?_
        exact W.iret (v := ((nI 19) + (nI (((k - 16) - 2) - 1)))) hx hb hr (fun t ht hW => ⟨((nI 19) + (nI (((k - 16) - 2) - 1))), rfl, ((nI_add 19 _).trans (congrArg nI (by omega))), ht⟩) (fun q h => nomatch h) d_In_numberOfTrailingZeros_79
      have h52 : 5 ≤ (k - 16) := (t_gt4 ((k - 16)) (by omega)).mp (Int32.not_le.mp h52)
      refine lv_iinc hx hb d_In_numberOfTrailingZeros_55 hl (k := 1) (v := (nI 21)) rfl rfl (by decide) rfl (fun ls hl => ?_)
      replace hl : lv_has ls 2 [(1, .int (nI 21)), (0, .int (nI (2 ^ (k - 16) - 1)))] := hl
      refine lv_iload_n hx hb d_In_numberOfTrailingZeros_58 rfl (lv_at hl 1 rfl) ?_
      refine lv_iconst (v := 4) hx hb d_In_numberOfTrailingZeros_59 (by decide) ?_
      refine lv_iushr (v := (nI (2 ^ ((k - 16) - 4) - 1))) hx hb d_In_numberOfTrailingZeros_60 (t_sh4 ((k - 16)) (by omega) (by omega)) ?_
      refine lv_istore_n hx hb d_In_numberOfTrailingZeros_61 rfl hl (by decide) rfl (fun ls hl => ?_)
      replace hl : lv_has ls 2 [(0, .int (nI (2 ^ ((k - 16) - 4) - 1))), (1, .int (nI 21))] := hl
      refine lv_iload_n hx hb d_In_numberOfTrailingZeros_62 rfl (lv_at hl 0 rfl) ?_
      refine lv_iconst (v := 4) hx hb d_In_numberOfTrailingZeros_63 (by decide) ?_
      refine lv_icmp_le hx hb d_In_numberOfTrailingZeros_64 rfl (fun h64 => ?_) (fun h64 => ?_)
      · have h64 : ((k - 16) - 4) < 3 := by have := mt (t_gt2 (((k - 16) - 4)) (by omega)).mpr (Int32.not_lt.mpr h64); omega
        refine lv_iload_n hx hb d_In_numberOfTrailingZeros_74 rfl (lv_at hl 1 rfl) ?_
        refine lv_iload_n hx hb d_In_numberOfTrailingZeros_75 rfl (lv_at hl 0 rfl) ?_
        refine lv_iconst (v := 1) hx hb d_In_numberOfTrailingZeros_76 (by decide) ?_
        refine lv_iushr (v := (nI (((k - 16) - 4) - 1))) hx hb d_In_numberOfTrailingZeros_77 (t_sh1 (((k - 16) - 4)) (by omega) (by omega)) ?_
        refine lv_iadd hx hb d_In_numberOfTrailingZeros_78 ?_
        exact W.iret (v := ((nI 21) + (nI (((k - 16) - 4) - 1)))) hx hb hr (fun t ht hW => ⟨((nI 21) + (nI (((k - 16) - 4) - 1))), rfl, ((nI_add 21 _).trans (congrArg nI (by omega))), ht⟩) (fun q h => nomatch h) d_In_numberOfTrailingZeros_79
      have h64 : 3 ≤ ((k - 16) - 4) := (t_gt2 (((k - 16) - 4)) (by omega)).mp (Int32.not_le.mp h64)
      refine lv_iinc hx hb d_In_numberOfTrailingZeros_67 hl (k := 1) (v := (nI 23)) rfl rfl (by decide) rfl (fun ls hl => ?_)
      replace hl : lv_has ls 2 [(1, .int (nI 23)), (0, .int (nI (2 ^ ((k - 16) - 4) - 1)))] := hl
      refine lv_iload_n hx hb d_In_numberOfTrailingZeros_70 rfl (lv_at hl 1 rfl) ?_
      refine lv_iconst (v := 2) hx hb d_In_numberOfTrailingZeros_71 (by decide) ?_
      refine lv_iushr (v := (nI (2 ^ (((k - 16) - 4) - 2) - 1))) hx hb d_In_numberOfTrailingZeros_72 (t_sh2 (((k - 16) - 4)) (by omega) (by omega)) ?_
      refine lv_istore_n hx hb d_In_numberOfTrailingZeros_73 rfl hl (by decide) rfl (fun ls hl => ?_)
      replace hl : lv_has ls 2 [(0, .int (nI (2 ^ (((k - 16) - 4) - 2) - 1))), (1, .int (nI 23))] := hl
      refine lv_iload_n hx hb d_In_numberOfTrailingZeros_74 rfl (lv_at hl 1 rfl) ?_
      refine lv_iload_n hx hb d_In_numberOfTrailingZeros_75 rfl (lv_at hl 0 rfl) ?_
      refine lv_iconst (v := 1) hx hb d_In_numberOfTrailingZeros_76 (by decide) ?_
      refine lv_iushr (v := (nI ((((k - 16) - 4) - 2) - 1))) hx hb d_In_numberOfTrailingZeros_77 (t_sh1 ((((k - 16) - 4) - 2)) (by omega) (by omega)) ?_
      refine lv_iadd hx hb d_In_numberOfTrailingZeros_78 ?_
      exact W.iret (v := ((nI 23) + (nI ((((k - 16) - 4) - 2) - 1)))) hx hb hr (fun t ht hW => ⟨((nI 23) + (nI ((((k - 16) - 4) - 2) - 1))), rfl, ((nI_add 23 _).trans (congrArg nI (by omega))), ht⟩) (fun q h => nomatch h) d_In_numberOfTrailingZeros_79
    have h38 : 9 ≤ (k - 16) := (t_gt8 ((k - 16)) (by omega)).mp (Int32.not_le.mp h38)
    refine lv_iinc hx hb d_In_numberOfTrailingZeros_41 hl (k := 1) (v := (nI 25)) rfl rfl (by decide) rfl (fun ls hl => ?_)
    replace hl : lv_has ls 2 [(1, .int (nI 25)), (0, .int (nI (2 ^ (k - 16) - 1)))] := hl
    refine lv_iload_n hx hb d_In_numberOfTrailingZeros_44 rfl (lv_at hl 1 rfl) ?_
    refine lv_bipush (v := 8) hx hb d_In_numberOfTrailingZeros_45 (by decide) ?_
    refine lv_iushr (v := (nI (2 ^ ((k - 16) - 8) - 1))) hx hb d_In_numberOfTrailingZeros_47 (t_sh8 ((k - 16)) (by omega) (by omega)) ?_
    refine lv_istore_n hx hb d_In_numberOfTrailingZeros_48 rfl hl (by decide) rfl (fun ls hl => ?_)
    replace hl : lv_has ls 2 [(0, .int (nI (2 ^ ((k - 16) - 8) - 1))), (1, .int (nI 25))] := hl
    refine lv_iload_n hx hb d_In_numberOfTrailingZeros_49 rfl (lv_at hl 0 rfl) ?_
    refine lv_bipush (v := 16) hx hb d_In_numberOfTrailingZeros_50 (by decide) ?_
    refine lv_icmp_le hx hb d_In_numberOfTrailingZeros_52 rfl (fun h52 => ?_) (fun h52 => ?_)
    · have h52 : ((k - 16) - 8) < 5 := by have := mt (t_gt4 (((k - 16) - 8)) (by omega)).mpr (Int32.not_lt.mpr h52); omega
      refine lv_iload_n hx hb d_In_numberOfTrailingZeros_62 rfl (lv_at hl 0 rfl) ?_
      refine lv_iconst (v := 4) hx hb d_In_numberOfTrailingZeros_63 (by decide) ?_
      refine lv_icmp_le hx hb d_In_numberOfTrailingZeros_64 rfl (fun h64 => ?_) (fun h64 => ?_)
      · have h64 : ((k - 16) - 8) < 3 := by have := mt (t_gt2 (((k - 16) - 8)) (by omega)).mpr (Int32.not_lt.mpr h64); omega
        refine lv_iload_n hx hb d_In_numberOfTrailingZeros_74 rfl (lv_at hl 1 rfl) ?_
        refine lv_iload_n hx hb d_In_numberOfTrailingZeros_75 rfl (lv_at hl 0 rfl) ?_
        refine lv_iconst (v := 1) hx hb d_In_numberOfTrailingZeros_76 (by decide) ?_
        refine lv_iushr (v := (nI (((k - 16) - 8) - 1))) hx hb d_In_numberOfTrailingZeros_77 (t_sh1 (((k - 16) - 8)) (by omega) (by omega)) ?_
        refine lv_iadd hx hb d_In_numberOfTrailingZeros_78 ?_
        exact W.iret (v := ((nI 25) + (nI (((k - 16) - 8) - 1)))) hx hb hr (fun t ht hW => ⟨((nI 25) + (nI (((k - 16) - 8) - 1))), rfl, ((nI_add 25 _).trans (congrArg nI (by omega))), ht⟩) (fun q h => nomatch h) d_In_numberOfTrailingZeros_79
      have h64 : 3 ≤ ((k - 16) - 8) := (t_gt2 (((k - 16) - 8)) (by omega)).mp (Int32.not_le.mp h64)
      refine lv_iinc hx hb d_In_numberOfTrailingZeros_67 hl (k := 1) (v := (nI 27)) rfl rfl (by decide) rfl (fun ls hl => ?_)
      replace hl : lv_has ls 2 [(1, .int (nI 27)), (0, .int (nI (2 ^ ((k - 16) - 8) - 1)))] := hl
      refine lv_iload_n hx hb d_In_numberOfTrailingZeros_70 rfl (lv_at hl 1 rfl) ?_
      refine lv_iconst (v := 2) hx hb d_In_numberOfTrailingZeros_71 (by decide) ?_
      refine lv_iushr (v := (nI (2 ^ (((k - 16) - 8) - 2) - 1))) hx hb d_In_numberOfTrailingZeros_72 (t_sh2 (((k - 16) - 8)) (by omega) (by omega)) ?_
      refine lv_istore_n hx hb d_In_numberOfTrailingZeros_73 rfl hl (by decide) rfl (fun ls hl => ?_)
      replace hl : lv_has ls 2 [(0, .int (nI (2 ^ (((k - 16) - 8) - 2) - 1))), (1, .int (nI 27))] := hl
      refine lv_iload_n hx hb d_In_numberOfTrailingZeros_74 rfl (lv_at hl 1 rfl) ?_
      refine lv_iload_n hx hb d_In_numberOfTrailingZeros_75 rfl (lv_at hl 0 rfl) ?_
      refine lv_iconst (v := 1) hx hb d_In_numberOfTrailingZeros_76 (by decide) ?_
      refine lv_iushr (v := (nI ((((k - 16) - 8) - 2) - 1))) hx hb d_In_numberOfTrailingZeros_77 (t_sh1 ((((k - 16) - 8) - 2)) (by omega) (by omega)) ?_
      refine lv_iadd hx hb d_In_numberOfTrailingZeros_78 ?_
      exact W.iret (v := ((nI 27) + (nI ((((k - 16) - 8) - 2) - 1)))) hx hb hr (fun t ht hW => ⟨((nI 27) + (nI ((((k - 16) - 8) - 2) - 1))), rfl, ((nI_add 27 _).trans (congrArg nI (by omega))), ht⟩) (fun q h => nomatch h) d_In_numberOfTrailingZeros_79
    have h52 : 5 ≤ ((k - 16) - 8) := (t_gt4 (((k - 16) - 8)) (by omega)).mp (Int32.not_le.mp h52)
    refine lv_iinc hx hb d_In_numberOfTrailingZeros_55 hl (k := 1) (v := (nI 29)) rfl rfl (by decide) rfl (fun ls hl => ?_)
    replace hl : lv_has ls 2 [(1, .int (nI 29)), (0, .int (nI (2 ^ ((k - 16) - 8) - 1)))] := hl
    refine lv_iload_n hx hb d_In_numberOfTrailingZeros_58 rfl (lv_at hl 1 rfl) ?_
    refine lv_iconst (v := 4) hx hb d_In_numberOfTrailingZeros_59 (by decide) ?_
    refine lv_iushr (v := (nI (2 ^ (((k - 16) - 8) - 4) - 1))) hx hb d_In_numberOfTrailingZeros_60 (t_sh4 (((k - 16) - 8)) (by omega) (by omega)) ?_
    refine lv_istore_n hx hb d_In_numberOfTrailingZeros_61 rfl hl (by decide) rfl (fun ls hl => ?_)
    replace hl : lv_has ls 2 [(0, .int (nI (2 ^ (((k - 16) - 8) - 4) - 1))), (1, .int (nI 29))] := hl
    refine lv_iload_n hx hb d_In_numberOfTrailingZeros_62 rfl (lv_at hl 0 rfl) ?_
    refine lv_iconst (v := 4) hx hb d_In_numberOfTrailingZeros_63 (by decide) ?_
    refine lv_icmp_le hx hb d_In_numberOfTrailingZeros_64 rfl (fun h64 => ?_) (fun h64 => ?_)
    · have h64 : (((k - 16) - 8) - 4) < 3 := by have := mt (t_gt2 ((((k - 16) - 8) - 4)) (by omega)).mpr (Int32.not_lt.mpr h64); omega
      refine lv_iload_n hx hb d_In_numberOfTrailingZeros_74 rfl (lv_at hl 1 rfl) ?_
      refine lv_iload_n hx hb d_In_numberOfTrailingZeros_75 rfl (lv_at hl 0 rfl) ?_
      refine lv_iconst (v := 1) hx hb d_In_numberOfTrailingZeros_76 (by decide) ?_
      refine lv_iushr (v := (nI ((((k - 16) - 8) - 4) - 1))) hx hb d_In_numberOfTrailingZeros_77 (t_sh1 ((((k - 16) - 8) - 4)) (by omega) (by omega)) ?_
      refine lv_iadd hx hb d_In_numberOfTrailingZeros_78 ?_
      exact W.iret (v := ((nI 29) + (nI ((((k - 16) - 8) - 4) - 1)))) hx hb hr (fun t ht hW => ⟨((nI 29) + (nI ((((k - 16) - 8) - 4) - 1))), rfl, ((nI_add 29 _).trans (congrArg nI (by omega))), ht⟩) (fun q h => nomatch h) d_In_numberOfTrailingZeros_79
    have h64 : 3 ≤ (((k - 16) - 8) - 4) := (t_gt2 ((((k - 16) - 8) - 4)) (by omega)).mp (Int32.not_le.mp h64)
    refine lv_iinc hx hb d_In_numberOfTrailingZeros_67 hl (k := 1) (v := (nI 31)) rfl rfl (by decide) rfl (fun ls hl => ?_)
    replace hl : lv_has ls 2 [(1, .int (nI 31)), (0, .int (nI (2 ^ (((k - 16) - 8) - 4) - 1)))] := hl
    refine lv_iload_n hx hb d_In_numberOfTrailingZeros_70 rfl (lv_at hl 1 rfl) ?_
    refine lv_iconst (v := 2) hx hb d_In_numberOfTrailingZeros_71 (by decide) ?_
    refine lv_iushr (v := (nI (2 ^ ((((k - 16) - 8) - 4) - 2) - 1))) hx hb d_In_numberOfTrailingZeros_72 (t_sh2 ((((k - 16) - 8) - 4)) (by omega) (by omega)) ?_
    refine lv_istore_n hx hb d_In_numberOfTrailingZeros_73 rfl hl (by decide) rfl (fun ls hl => ?_)
    replace hl : lv_has ls 2 [(0, .int (nI (2 ^ ((((k - 16) - 8) - 4) - 2) - 1))), (1, .int (nI 31))] := hl
    refine lv_iload_n hx hb d_In_numberOfTrailingZeros_74 rfl (lv_at hl 1 rfl) ?_
    refine lv_iload_n hx hb d_In_numberOfTrailingZeros_75 rfl (lv_at hl 0 rfl) ?_
    refine lv_iconst (v := 1) hx hb d_In_numberOfTrailingZeros_76 (by decide) ?_
    refine lv_iushr (v := (nI (((((k - 16) - 8) - 4) - 2) - 1))) hx hb d_In_numberOfTrailingZeros_77 (t_sh1 (((((k - 16) - 8) - 4) - 2)) (by omega) (by omega)) ?_
    refine lv_iadd hx hb d_In_numberOfTrailingZeros_78 ?_
    exact W.iret (v := ((nI 31) + (nI (((((k - 16) - 8) - 4) - 2) - 1)))) hx hb hr (fun t ht hW => ⟨((nI 31) + (nI (((((k - 16) - 8) - 4) - 2) - 1))), rfl, ((nI_add 31 _).trans (congrArg nI (by omega))), ht⟩) (fun q h => nomatch h) d_In_numberOfTrailingZeros_79
  have h9 := mt (t_gt0 k hk).mpr h9
  refine lv_iload_n hx hb d_In_numberOfTrailingZeros_12 rfl (lv_at hl 0 rfl) ?_
  refine lv_bipush (v := 32) hx hb d_In_numberOfTrailingZeros_13 (by decide) ?_
  refine lv_iand hx hb d_In_numberOfTrailingZeros_15 ?_
  exact W.iret (v := ((nI (2 ^ k - 1)) &&& 32)) hx hb hr (fun t ht hW => ⟨((nI (2 ^ k - 1)) &&& 32), rfl, (by rw [show k = 0 by omega]; decide), ht⟩) (fun q h => nomatch h) d_In_numberOfTrailingZeros_16
