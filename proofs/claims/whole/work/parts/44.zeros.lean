/-! counts of zeros -/
theorem x_gS {own : String} {idx : Nat} {y : MethodName} {q : Cond} (h1 : Cond.methodLink own idx y ∈ wG) (h2 : Cond.static y ∈ wG) (h3 : Cond.initialized y.cls ∈ wG) (h5 : q ∈ wG) : GoodIn wG (va_wsS own idx y (q :: wG)) := fun w hw => by
  have h6 : w ∈ wG := by
    simp only [va_wsS, List.mem_append, List.mem_cons, List.not_mem_nil, or_false] at hw
    rcases hw with (rfl | rfl | rfl) | rfl | h
    all_goals assumption
  exact ⟨h6, wG_good w h6⟩
theorem t_gt0 : ∀ k, k < 32 → ((0 : Int32) < nI (2 ^ k - 1) ↔ 1 ≤ k) := by decide +kernel
theorem t_gt16 : ∀ k, k < 32 → ((65536 : Int32) < nI (2 ^ k - 1) ↔ 17 ≤ k) := by decide +kernel
theorem t_gt8 : ∀ k, k < 32 → ((256 : Int32) < nI (2 ^ k - 1) ↔ 9 ≤ k) := by decide +kernel
theorem t_gt4 : ∀ k, k < 32 → ((16 : Int32) < nI (2 ^ k - 1) ↔ 5 ≤ k) := by decide +kernel
theorem t_gt2 : ∀ k, k < 32 → ((4 : Int32) < nI (2 ^ k - 1) ↔ 3 ≤ k) := by decide +kernel
theorem t_sh16 : ∀ k, k < 32 → 16 ≤ k → ((nI (2 ^ k - 1)).toUInt32 >>> ((16 : Int32).toUInt32 &&& Int32.toUInt32 31)).toInt32 = nI (2 ^ (k - 16) - 1) := by decide +kernel
theorem t_sh8 : ∀ k, k < 32 → 8 ≤ k → ((nI (2 ^ k - 1)).toUInt32 >>> ((8 : Int32).toUInt32 &&& Int32.toUInt32 31)).toInt32 = nI (2 ^ (k - 8) - 1) := by decide +kernel
theorem t_sh4 : ∀ k, k < 32 → 4 ≤ k → ((nI (2 ^ k - 1)).toUInt32 >>> ((4 : Int32).toUInt32 &&& Int32.toUInt32 31)).toInt32 = nI (2 ^ (k - 4) - 1) := by decide +kernel
theorem t_sh2 : ∀ k, k < 32 → 2 ≤ k → ((nI (2 ^ k - 1)).toUInt32 >>> ((2 : Int32).toUInt32 &&& Int32.toUInt32 31)).toInt32 = nI (2 ^ (k - 2) - 1) := by decide +kernel
theorem pw {a b m : Nat} (h1 : 2 ^ a ≤ m) (h2 : m < 2 ^ (b + 1)) : a ≤ b := by
  have h := (Nat.pow_lt_pow_iff_right (show 1 < 2 by decide)).mp (Nat.lt_of_le_of_lt h1 h2)
  omega
theorem nlz_end {m k s d n : Nat} (h1 : 2 ^ k ≤ m) (h2 : m < 2 ^ (k + 1)) (hd : d = m / 2 ^ s) (hd1 : 1 ≤ d) (hd4 : d < 4) (hn : n = 31 - s) (hs : s ≤ 30) : n - d / 2 = 31 - k := by
  have hP := Nat.pow_pos (n := s) (show 0 < 2 by decide)
  have e1 := Nat.div_add_mod m (2 ^ s)
  have e2 := Nat.mod_lt m hP
  rw [← hd] at e1
  have a1 : 2 ^ s ≤ m := by have := Nat.mul_le_mul_left (2 ^ s) hd1; omega
  have a2 : m < 2 ^ (s + 1 + 1) := by
    rw [Nat.pow_succ, Nat.pow_succ]; have := Nat.mul_le_mul_left (2 ^ s) (show d ≤ 3 by omega); omega
  have b1 : s ≤ k := pw a1 h2
  have b2 : k ≤ s + 1 := pw h1 a2
  rcases (by omega : k = s ∨ k = s + 1) with rfl | rfl
  · have : d < 2 := by
      rw [Nat.pow_succ] at h2; apply Nat.lt_of_not_le; intro q; have := Nat.mul_le_mul_left (2 ^ k) q; omega
    omega
  · have : 2 ≤ d := by
      rw [Nat.pow_succ] at h1; apply Nat.le_of_not_lt; intro q; have := Nat.mul_le_mul_left (2 ^ s) (show d ≤ 1 by omega); omega
    omega
theorem u_sh16 {d : Nat} (h : d < 4294967296) : ((nI d).toUInt32 >>> ((16 : Int32).toUInt32 &&& Int32.toUInt32 31)).toInt32 = nI (d / 65536) := by
  apply Int32.toBitVec_inj.1
  apply BitVec.eq_of_toNat_eq
  show ((BitVec.ofNat 32 d) >>> ((16#32 &&& 31#32) % 32#32)).toNat = (BitVec.ofNat 32 (d / 65536)).toNat
  rw [show ((16#32 &&& 31#32) % 32#32) = 16#32 by decide, BitVec.ushiftRight_eq', BitVec.toNat_ushiftRight, Nat.shiftRight_eq_div_pow, BitVec.toNat_ofNat, BitVec.toNat_ofNat, BitVec.toNat_ofNat]
  show d % 4294967296 / 65536 = d / 65536 % 4294967296
  omega
theorem u_sh8 {d : Nat} (h : d < 4294967296) : ((nI d).toUInt32 >>> ((8 : Int32).toUInt32 &&& Int32.toUInt32 31)).toInt32 = nI (d / 256) := by
  apply Int32.toBitVec_inj.1
  apply BitVec.eq_of_toNat_eq
  show ((BitVec.ofNat 32 d) >>> ((8#32 &&& 31#32) % 32#32)).toNat = (BitVec.ofNat 32 (d / 256)).toNat
  rw [show ((8#32 &&& 31#32) % 32#32) = 8#32 by decide, BitVec.ushiftRight_eq', BitVec.toNat_ushiftRight, Nat.shiftRight_eq_div_pow, BitVec.toNat_ofNat, BitVec.toNat_ofNat, BitVec.toNat_ofNat]
  show d % 4294967296 / 256 = d / 256 % 4294967296
  omega
theorem u_sh4 {d : Nat} (h : d < 4294967296) : ((nI d).toUInt32 >>> ((4 : Int32).toUInt32 &&& Int32.toUInt32 31)).toInt32 = nI (d / 16) := by
  apply Int32.toBitVec_inj.1
  apply BitVec.eq_of_toNat_eq
  show ((BitVec.ofNat 32 d) >>> ((4#32 &&& 31#32) % 32#32)).toNat = (BitVec.ofNat 32 (d / 16)).toNat
  rw [show ((4#32 &&& 31#32) % 32#32) = 4#32 by decide, BitVec.ushiftRight_eq', BitVec.toNat_ushiftRight, Nat.shiftRight_eq_div_pow, BitVec.toNat_ofNat, BitVec.toNat_ofNat, BitVec.toNat_ofNat]
  show d % 4294967296 / 16 = d / 16 % 4294967296
  omega
theorem u_sh2 {d : Nat} (h : d < 4294967296) : ((nI d).toUInt32 >>> ((2 : Int32).toUInt32 &&& Int32.toUInt32 31)).toInt32 = nI (d / 4) := by
  apply Int32.toBitVec_inj.1
  apply BitVec.eq_of_toNat_eq
  show ((BitVec.ofNat 32 d) >>> ((2#32 &&& 31#32) % 32#32)).toNat = (BitVec.ofNat 32 (d / 4)).toNat
  rw [show ((2#32 &&& 31#32) % 32#32) = 2#32 by decide, BitVec.ushiftRight_eq', BitVec.toNat_ushiftRight, Nat.shiftRight_eq_div_pow, BitVec.toNat_ofNat, BitVec.toNat_ofNat, BitVec.toNat_ofNat]
  show d % 4294967296 / 4 = d / 4 % 4294967296
  omega
theorem u_sh1 {d : Nat} (h : d < 4294967296) : ((nI d).toUInt32 >>> ((1 : Int32).toUInt32 &&& Int32.toUInt32 31)).toInt32 = nI (d / 2) := by
  apply Int32.toBitVec_inj.1
  apply BitVec.eq_of_toNat_eq
  show ((BitVec.ofNat 32 d) >>> ((1#32 &&& 31#32) % 32#32)).toNat = (BitVec.ofNat 32 (d / 2)).toNat
  rw [show ((1#32 &&& 31#32) % 32#32) = 1#32 by decide, BitVec.ushiftRight_eq', BitVec.toNat_ushiftRight, Nat.shiftRight_eq_div_pow, BitVec.toNat_ofNat, BitVec.toNat_ofNat, BitVec.toNat_ofNat]
  show d % 4294967296 / 2 = d / 2 % 4294967296
  omega
theorem u_sh32 {d : Nat} (h : d < 18446744073709551616) : ((lN d).toUInt64 >>> ((32 : Int32).toInt64.toUInt64 &&& Int64.toUInt64 63)).toInt64 = lN (d / 4294967296) := by
  apply Int64.toBitVec_inj.1
  apply BitVec.eq_of_toNat_eq
  show ((BitVec.ofNat 64 d) >>> ((32#64 &&& 63#64) % 64#64)).toNat = (BitVec.ofNat 64 (d / 4294967296)).toNat
  rw [show ((32#64 &&& 63#64) % 64#64) = 32#64 by decide, BitVec.ushiftRight_eq', BitVec.toNat_ushiftRight, Nat.shiftRight_eq_div_pow, BitVec.toNat_ofNat, BitVec.toNat_ofNat, BitVec.toNat_ofNat]
  show d % 18446744073709551616 / 4294967296 = d / 4294967296 % 18446744073709551616
  omega
theorem t_sh1 : ∀ k, k < 3 → 1 ≤ k → ((nI (2 ^ k - 1)).toUInt32 >>> ((1 : Int32).toUInt32 &&& Int32.toUInt32 31)).toInt32 = nI (k - 1) := by decide +kernel
set_option maxHeartbeats 4000000 in
set_option maxRecDepth 100000 in
theorem c_In_numberOfTrailingZeros (l : Launch) (dC : Nat → ClassId) (dI : Nat → Nat → Nat) {tys : List (ClassId × FieldType)} {ws : va_W} (x : Int32) (k : Nat) (hk : k < 32) (hlow : (x ^^^ (-1)) &&& (x - 1) = nI (2 ^ k - 1)) : Met l y_In_numberOfTrailingZeros (.code y_In_numberOfTrailingZeros b_In_numberOfTrailingZeros 2 (some .int) :: wG) ({ frames := 0, cells := 0, slots := 0, locals := 0 }) (PcS (dC, dI) tys ws [.int x]) (vp_Si (fun r9 => r9 = nI k)) 0 0 (fun _ => False) := by
  refine Met.ofW (cc := b_In_numberOfTrailingZeros) (maxL := 2) (ret := (some .int)) (by decide) rfl ?_
  intro pg eg s mg ag bg meth cg s₁ B hml hv
  obtain ⟨rfl, hP, hK, hN⟩ := hv
  have hx := B.exec
  have hb := B.bytes
  have hr := B.returns
  have hlocks := B.notSynchronized
  have hts : ∀ w9 ∈ wG, w9.before ([.int x] : List Value).toArray s = true := fun w9 h9 => atoms_spec (ws := (.code y_In_numberOfTrailingZeros b_In_numberOfTrailingZeros 2 (some .int) :: wG)) B.pre w9 (List.mem_cons_of_mem _ h9)
  have hown : s.vm.findClass "java/lang/Integer" = some mg.cls := findClass_of_methodNamed B.named
  have hP : va_P (dC, dI) classes ws s.heap := hP
  have hl := lv_entry ([.int x]) (n := 2) (Nat.le_of_ble_eq_true rfl)
  rw [lg_entry_eq]
  generalize (lg_sl ([.int x]) ++ List.replicate (2 - (lg_sl ([.int x])).length) Slot.unset).toArray = ls at hl ⊢
  replace hl : lv_has ls 2 [(0, .int x)] := hl
  refine lv_iload_n hx hb d_In_numberOfTrailingZeros_0 rfl (lv_at hl 0 rfl) ?_
  refine lv_iconst (v := (-1)) hx hb d_In_numberOfTrailingZeros_1 (by decide) ?_
  refine lv_ixor hx hb d_In_numberOfTrailingZeros_2 ?_
  refine lv_iload_n hx hb d_In_numberOfTrailingZeros_3 rfl (lv_at hl 0 rfl) ?_
  refine lv_iconst (v := 1) hx hb d_In_numberOfTrailingZeros_4 (by decide) ?_
  refine lv_isub hx hb d_In_numberOfTrailingZeros_5 ?_
  refine lv_iand hx hb d_In_numberOfTrailingZeros_6 ?_
  refine x_topi (y := (nI (2 ^ k - 1))) hlow ?_
  refine lv_istore_n hx hb d_In_numberOfTrailingZeros_7 rfl hl (by decide) rfl (fun ls hl => ?_)
  replace hl : lv_has ls 2 [(0, .int (nI (2 ^ k - 1)))] := hl
  refine lv_iload_n hx hb d_In_numberOfTrailingZeros_8 rfl (lv_at hl 0 rfl) ?_
  refine lv_if_gt hx hb d_In_numberOfTrailingZeros_9 rfl (fun h9 => ?_) (fun h9 => ?_)
  · have h9 := (t_gt0 k hk).mp h9
    refine lv_iconst (v := 1) hx hb d_In_numberOfTrailingZeros_17 (by decide) ?_
    refine lv_istore_n hx hb d_In_numberOfTrailingZeros_18 rfl hl (by decide) rfl (fun ls hl => ?_)
    replace hl : lv_has ls 2 [(1, .int 1), (0, .int (nI (2 ^ k - 1)))] := hl
    refine lv_iload_n hx hb d_In_numberOfTrailingZeros_19 rfl (lv_at hl 1 rfl) ?_
    refine lv_ldcw hx hb hown (hts _ kw_378) d_In_numberOfTrailingZeros_20 ?_
    refine lv_icmp_le hx hb d_In_numberOfTrailingZeros_23 rfl (fun h23 => ?_) (fun h23 => ?_)
    · have h23 : k < 17 := by have := mt (t_gt16 (k) (by omega)).mpr (Int32.not_lt.mpr h23); omega
      refine lv_iload_n hx hb d_In_numberOfTrailingZeros_34 rfl (lv_at hl 1 rfl) ?_
      refine lv_sipush (v := 256) hx hb d_In_numberOfTrailingZeros_35 (by decide) ?_
      refine lv_icmp_le hx hb d_In_numberOfTrailingZeros_38 rfl (fun h38 => ?_) (fun h38 => ?_)
      · have h38 : k < 9 := by have := mt (t_gt8 (k) (by omega)).mpr (Int32.not_lt.mpr h38); omega
        refine lv_iload_n hx hb d_In_numberOfTrailingZeros_49 rfl (lv_at hl 1 rfl) ?_
        refine lv_bipush (v := 16) hx hb d_In_numberOfTrailingZeros_50 (by decide) ?_
        refine lv_icmp_le hx hb d_In_numberOfTrailingZeros_52 rfl (fun h52 => ?_) (fun h52 => ?_)
        · have h52 : k < 5 := by have := mt (t_gt4 (k) (by omega)).mpr (Int32.not_lt.mpr h52); omega
          refine lv_iload_n hx hb d_In_numberOfTrailingZeros_62 rfl (lv_at hl 1 rfl) ?_
          refine lv_iconst (v := 4) hx hb d_In_numberOfTrailingZeros_63 (by decide) ?_
          refine lv_icmp_le hx hb d_In_numberOfTrailingZeros_64 rfl (fun h64 => ?_) (fun h64 => ?_)
          · have h64 : k < 3 := by have := mt (t_gt2 (k) (by omega)).mpr (Int32.not_lt.mpr h64); omega
            refine lv_iload_n hx hb d_In_numberOfTrailingZeros_74 rfl (lv_at hl 0 rfl) ?_
            refine lv_iload_n hx hb d_In_numberOfTrailingZeros_75 rfl (lv_at hl 1 rfl) ?_
            refine lv_iconst (v := 1) hx hb d_In_numberOfTrailingZeros_76 (by decide) ?_
            refine lv_iushr (v := (nI (k - 1))) hx hb d_In_numberOfTrailingZeros_77 (t_sh1 (k) (by omega) (by omega)) ?_
            refine lv_iadd hx hb d_In_numberOfTrailingZeros_78 ?_
            exact W.iret (v := (1 + (nI (k - 1)))) hx hb hr (fun t ht hW => ⟨(1 + (nI (k - 1))), rfl, ((nI_add 1 _).trans (congrArg nI (by omega))), ht⟩) (fun q h => nomatch h) d_In_numberOfTrailingZeros_79
          have h64 : 3 ≤ k := (t_gt2 (k) (by omega)).mp (Int32.not_le.mp h64)
          refine lv_iinc hx hb d_In_numberOfTrailingZeros_67 hl (k := 0) (v := (nI 3)) rfl rfl (by decide) rfl (fun ls hl => ?_)
          replace hl : lv_has ls 2 [(1, .int (nI 3)), (0, .int (nI (2 ^ k - 1)))] := hl
          refine lv_iload_n hx hb d_In_numberOfTrailingZeros_70 rfl (lv_at hl 1 rfl) ?_
          refine lv_iconst (v := 2) hx hb d_In_numberOfTrailingZeros_71 (by decide) ?_
          refine lv_iushr (v := (nI (2 ^ (k - 2) - 1))) hx hb d_In_numberOfTrailingZeros_72 (t_sh2 (k) (by omega) (by omega)) ?_
          refine lv_istore_n hx hb d_In_numberOfTrailingZeros_73 rfl hl (by decide) rfl (fun ls hl => ?_)
          replace hl : lv_has ls 2 [(0, .int (nI (2 ^ (k - 2) - 1))), (1, .int (nI 3))] := hl
          refine lv_iload_n hx hb d_In_numberOfTrailingZeros_74 rfl (lv_at hl 1 rfl) ?_
          refine lv_iload_n hx hb d_In_numberOfTrailingZeros_75 rfl (lv_at hl 0 rfl) ?_
          refine lv_iconst (v := 1) hx hb d_In_numberOfTrailingZeros_76 (by decide) ?_
          refine lv_iushr (v := (nI ((k - 2) - 1))) hx hb d_In_numberOfTrailingZeros_77 (t_sh1 ((k - 2)) (by omega) (by omega)) ?_
          refine lv_iadd hx hb d_In_numberOfTrailingZeros_78 ?_
          exact W.iret (v := ((nI 3) + (nI ((k - 2) - 1)))) hx hb hr (fun t ht hW => ⟨((nI 3) + (nI ((k - 2) - 1))), rfl, ((nI_add 3 _).trans (congrArg nI (by omega))), ht⟩) (fun q h => nomatch h) d_In_numberOfTrailingZeros_79
        have h52 : 5 ≤ k := (t_gt4 (k) (by omega)).mp (Int32.not_le.mp h52)
        refine lv_iinc hx hb d_In_numberOfTrailingZeros_55 hl (k := 0) (v := (nI 5)) rfl rfl (by decide) rfl (fun ls hl => ?_)
        replace hl : lv_has ls 2 [(1, .int (nI 5)), (0, .int (nI (2 ^ k - 1)))] := hl
        refine lv_iload_n hx hb d_In_numberOfTrailingZeros_58 rfl (lv_at hl 1 rfl) ?_
        refine lv_iconst (v := 4) hx hb d_In_numberOfTrailingZeros_59 (by decide) ?_
        refine lv_iushr (v := (nI (2 ^ (k - 4) - 1))) hx hb d_In_numberOfTrailingZeros_60 (t_sh4 (k) (by omega) (by omega)) ?_
        refine lv_istore_n hx hb d_In_numberOfTrailingZeros_61 rfl hl (by decide) rfl (fun ls hl => ?_)
        replace hl : lv_has ls 2 [(0, .int (nI (2 ^ (k - 4) - 1))), (1, .int (nI 5))] := hl
        refine lv_iload_n hx hb d_In_numberOfTrailingZeros_62 rfl (lv_at hl 0 rfl) ?_
        refine lv_iconst (v := 4) hx hb d_In_numberOfTrailingZeros_63 (by decide) ?_
        refine lv_icmp_le hx hb d_In_numberOfTrailingZeros_64 rfl (fun h64 => ?_) (fun h64 => ?_)
        · have h64 : (k - 4) < 3 := by have := mt (t_gt2 ((k - 4)) (by omega)).mpr (Int32.not_lt.mpr h64); omega
          refine lv_iload_n hx hb d_In_numberOfTrailingZeros_74 rfl (lv_at hl 1 rfl) ?_
          refine lv_iload_n hx hb d_In_numberOfTrailingZeros_75 rfl (lv_at hl 0 rfl) ?_
          refine lv_iconst (v := 1) hx hb d_In_numberOfTrailingZeros_76 (by decide) ?_
          refine lv_iushr (v := (nI ((k - 4) - 1))) hx hb d_In_numberOfTrailingZeros_77 (t_sh1 ((k - 4)) (by omega) (by omega)) ?_
          refine lv_iadd hx hb d_In_numberOfTrailingZeros_78 ?_
          exact W.iret (v := ((nI 5) + (nI ((k - 4) - 1)))) hx hb hr (fun t ht hW => ⟨((nI 5) + (nI ((k - 4) - 1))), rfl, ((nI_add 5 _).trans (congrArg nI (by omega))), ht⟩) (fun q h => nomatch h) d_In_numberOfTrailingZeros_79
        have h64 : 3 ≤ (k - 4) := (t_gt2 ((k - 4)) (by omega)).mp (Int32.not_le.mp h64)
        refine lv_iinc hx hb d_In_numberOfTrailingZeros_67 hl (k := 1) (v := (nI 7)) rfl rfl (by decide) rfl (fun ls hl => ?_)
        replace hl : lv_has ls 2 [(1, .int (nI 7)), (0, .int (nI (2 ^ (k - 4) - 1)))] := hl
        refine lv_iload_n hx hb d_In_numberOfTrailingZeros_70 rfl (lv_at hl 1 rfl) ?_
        refine lv_iconst (v := 2) hx hb d_In_numberOfTrailingZeros_71 (by decide) ?_
        refine lv_iushr (v := (nI (2 ^ ((k - 4) - 2) - 1))) hx hb d_In_numberOfTrailingZeros_72 (t_sh2 ((k - 4)) (by omega) (by omega)) ?_
        refine lv_istore_n hx hb d_In_numberOfTrailingZeros_73 rfl hl (by decide) rfl (fun ls hl => ?_)
        replace hl : lv_has ls 2 [(0, .int (nI (2 ^ ((k - 4) - 2) - 1))), (1, .int (nI 7))] := hl
        refine lv_iload_n hx hb d_In_numberOfTrailingZeros_74 rfl (lv_at hl 1 rfl) ?_
        refine lv_iload_n hx hb d_In_numberOfTrailingZeros_75 rfl (lv_at hl 0 rfl) ?_
        refine lv_iconst (v := 1) hx hb d_In_numberOfTrailingZeros_76 (by decide) ?_
        refine lv_iushr (v := (nI (((k - 4) - 2) - 1))) hx hb d_In_numberOfTrailingZeros_77 (t_sh1 (((k - 4) - 2)) (by omega) (by omega)) ?_
        refine lv_iadd hx hb d_In_numberOfTrailingZeros_78 ?_
        exact W.iret (v := ((nI 7) + (nI (((k - 4) - 2) - 1)))) hx hb hr (fun t ht hW => ⟨((nI 7) + (nI (((k - 4) - 2) - 1))), rfl, ((nI_add 7 _).trans (congrArg nI (by omega))), ht⟩) (fun q h => nomatch h) d_In_numberOfTrailingZeros_79
      have h38 : 9 ≤ k := (t_gt8 (k) (by omega)).mp (Int32.not_le.mp h38)
      refine lv_iinc hx hb d_In_numberOfTrailingZeros_41 hl (k := 0) (v := (nI 9)) rfl rfl (by decide) rfl (fun ls hl => ?_)
      replace hl : lv_has ls 2 [(1, .int (nI 9)), (0, .int (nI (2 ^ k - 1)))] := hl
      refine lv_iload_n hx hb d_In_numberOfTrailingZeros_44 rfl (lv_at hl 1 rfl) ?_
      refine lv_bipush (v := 8) hx hb d_In_numberOfTrailingZeros_45 (by decide) ?_
      refine lv_iushr (v := (nI (2 ^ (k - 8) - 1))) hx hb d_In_numberOfTrailingZeros_47 (t_sh8 (k) (by omega) (by omega)) ?_
      refine lv_istore_n hx hb d_In_numberOfTrailingZeros_48 rfl hl (by decide) rfl (fun ls hl => ?_)
      replace hl : lv_has ls 2 [(0, .int (nI (2 ^ (k - 8) - 1))), (1, .int (nI 9))] := hl
      refine lv_iload_n hx hb d_In_numberOfTrailingZeros_49 rfl (lv_at hl 0 rfl) ?_
      refine lv_bipush (v := 16) hx hb d_In_numberOfTrailingZeros_50 (by decide) ?_
      refine lv_icmp_le hx hb d_In_numberOfTrailingZeros_52 rfl (fun h52 => ?_) (fun h52 => ?_)
      · have h52 : (k - 8) < 5 := by have := mt (t_gt4 ((k - 8)) (by omega)).mpr (Int32.not_lt.mpr h52); omega
        refine lv_iload_n hx hb d_In_numberOfTrailingZeros_62 rfl (lv_at hl 0 rfl) ?_
        refine lv_iconst (v := 4) hx hb d_In_numberOfTrailingZeros_63 (by decide) ?_
        refine lv_icmp_le hx hb d_In_numberOfTrailingZeros_64 rfl (fun h64 => ?_) (fun h64 => ?_)
        · have h64 : (k - 8) < 3 := by have := mt (t_gt2 ((k - 8)) (by omega)).mpr (Int32.not_lt.mpr h64); omega
          refine lv_iload_n hx hb d_In_numberOfTrailingZeros_74 rfl (lv_at hl 1 rfl) ?_
          refine lv_iload_n hx hb d_In_numberOfTrailingZeros_75 rfl (lv_at hl 0 rfl) ?_
          refine lv_iconst (v := 1) hx hb d_In_numberOfTrailingZeros_76 (by decide) ?_
          refine lv_iushr (v := (nI ((k - 8) - 1))) hx hb d_In_numberOfTrailingZeros_77 (t_sh1 ((k - 8)) (by omega) (by omega)) ?_
          refine lv_iadd hx hb d_In_numberOfTrailingZeros_78 ?_
          exact W.iret (v := ((nI 9) + (nI ((k - 8) - 1)))) hx hb hr (fun t ht hW => ⟨((nI 9) + (nI ((k - 8) - 1))), rfl, ((nI_add 9 _).trans (congrArg nI (by omega))), ht⟩) (fun q h => nomatch h) d_In_numberOfTrailingZeros_79
        have h64 : 3 ≤ (k - 8) := (t_gt2 ((k - 8)) (by omega)).mp (Int32.not_le.mp h64)
        refine lv_iinc hx hb d_In_numberOfTrailingZeros_67 hl (k := 1) (v := (nI 11)) rfl rfl (by decide) rfl (fun ls hl => ?_)
        replace hl : lv_has ls 2 [(1, .int (nI 11)), (0, .int (nI (2 ^ (k - 8) - 1)))] := hl
        refine lv_iload_n hx hb d_In_numberOfTrailingZeros_70 rfl (lv_at hl 1 rfl) ?_
        refine lv_iconst (v := 2) hx hb d_In_numberOfTrailingZeros_71 (by decide) ?_
        refine lv_iushr (v := (nI (2 ^ ((k - 8) - 2) - 1))) hx hb d_In_numberOfTrailingZeros_72 (t_sh2 ((k - 8)) (by omega) (by omega)) ?_
        refine lv_istore_n hx hb d_In_numberOfTrailingZeros_73 rfl hl (by decide) rfl (fun ls hl => ?_)
        replace hl : lv_has ls 2 [(0, .int (nI (2 ^ ((k - 8) - 2) - 1))), (1, .int (nI 11))] := hl
        refine lv_iload_n hx hb d_In_numberOfTrailingZeros_74 rfl (lv_at hl 1 rfl) ?_
        refine lv_iload_n hx hb d_In_numberOfTrailingZeros_75 rfl (lv_at hl 0 rfl) ?_
        refine lv_iconst (v := 1) hx hb d_In_numberOfTrailingZeros_76 (by decide) ?_
        refine lv_iushr (v := (nI (((k - 8) - 2) - 1))) hx hb d_In_numberOfTrailingZeros_77 (t_sh1 (((k - 8) - 2)) (by omega) (by omega)) ?_
        refine lv_iadd hx hb d_In_numberOfTrailingZeros_78 ?_
        exact W.iret (v := ((nI 11) + (nI (((k - 8) - 2) - 1)))) hx hb hr (fun t ht hW => ⟨((nI 11) + (nI (((k - 8) - 2) - 1))), rfl, ((nI_add 11 _).trans (congrArg nI (by omega))), ht⟩) (fun q h => nomatch h) d_In_numberOfTrailingZeros_79
      have h52 : 5 ≤ (k - 8) := (t_gt4 ((k - 8)) (by omega)).mp (Int32.not_le.mp h52)
      refine lv_iinc hx hb d_In_numberOfTrailingZeros_55 hl (k := 1) (v := (nI 13)) rfl rfl (by decide) rfl (fun ls hl => ?_)
      replace hl : lv_has ls 2 [(1, .int (nI 13)), (0, .int (nI (2 ^ (k - 8) - 1)))] := hl
      refine lv_iload_n hx hb d_In_numberOfTrailingZeros_58 rfl (lv_at hl 1 rfl) ?_
      refine lv_iconst (v := 4) hx hb d_In_numberOfTrailingZeros_59 (by decide) ?_
      refine lv_iushr (v := (nI (2 ^ ((k - 8) - 4) - 1))) hx hb d_In_numberOfTrailingZeros_60 (t_sh4 ((k - 8)) (by omega) (by omega)) ?_
      refine lv_istore_n hx hb d_In_numberOfTrailingZeros_61 rfl hl (by decide) rfl (fun ls hl => ?_)
      replace hl : lv_has ls 2 [(0, .int (nI (2 ^ ((k - 8) - 4) - 1))), (1, .int (nI 13))] := hl
      refine lv_iload_n hx hb d_In_numberOfTrailingZeros_62 rfl (lv_at hl 0 rfl) ?_
      refine lv_iconst (v := 4) hx hb d_In_numberOfTrailingZeros_63 (by decide) ?_
      refine lv_icmp_le hx hb d_In_numberOfTrailingZeros_64 rfl (fun h64 => ?_) (fun h64 => ?_)
      · have h64 : ((k - 8) - 4) < 3 := by have := mt (t_gt2 (((k - 8) - 4)) (by omega)).mpr (Int32.not_lt.mpr h64); omega
        refine lv_iload_n hx hb d_In_numberOfTrailingZeros_74 rfl (lv_at hl 1 rfl) ?_
        refine lv_iload_n hx hb d_In_numberOfTrailingZeros_75 rfl (lv_at hl 0 rfl) ?_
        refine lv_iconst (v := 1) hx hb d_In_numberOfTrailingZeros_76 (by decide) ?_
        refine lv_iushr (v := (nI (((k - 8) - 4) - 1))) hx hb d_In_numberOfTrailingZeros_77 (t_sh1 (((k - 8) - 4)) (by omega) (by omega)) ?_
        refine lv_iadd hx hb d_In_numberOfTrailingZeros_78 ?_
        exact W.iret (v := ((nI 13) + (nI (((k - 8) - 4) - 1)))) hx hb hr (fun t ht hW => ⟨((nI 13) + (nI (((k - 8) - 4) - 1))), rfl, ((nI_add 13 _).trans (congrArg nI (by omega))), ht⟩) (fun q h => nomatch h) d_In_numberOfTrailingZeros_79
      have h64 : 3 ≤ ((k - 8) - 4) := (t_gt2 (((k - 8) - 4)) (by omega)).mp (Int32.not_le.mp h64)
      refine lv_iinc hx hb d_In_numberOfTrailingZeros_67 hl (k := 1) (v := (nI 15)) rfl rfl (by decide) rfl (fun ls hl => ?_)
      replace hl : lv_has ls 2 [(1, .int (nI 15)), (0, .int (nI (2 ^ ((k - 8) - 4) - 1)))] := hl
      refine lv_iload_n hx hb d_In_numberOfTrailingZeros_70 rfl (lv_at hl 1 rfl) ?_
      refine lv_iconst (v := 2) hx hb d_In_numberOfTrailingZeros_71 (by decide) ?_
      refine lv_iushr (v := (nI (2 ^ (((k - 8) - 4) - 2) - 1))) hx hb d_In_numberOfTrailingZeros_72 (t_sh2 (((k - 8) - 4)) (by omega) (by omega)) ?_
      refine lv_istore_n hx hb d_In_numberOfTrailingZeros_73 rfl hl (by decide) rfl (fun ls hl => ?_)
      replace hl : lv_has ls 2 [(0, .int (nI (2 ^ (((k - 8) - 4) - 2) - 1))), (1, .int (nI 15))] := hl
      refine lv_iload_n hx hb d_In_numberOfTrailingZeros_74 rfl (lv_at hl 1 rfl) ?_
      refine lv_iload_n hx hb d_In_numberOfTrailingZeros_75 rfl (lv_at hl 0 rfl) ?_
      refine lv_iconst (v := 1) hx hb d_In_numberOfTrailingZeros_76 (by decide) ?_
      refine lv_iushr (v := (nI ((((k - 8) - 4) - 2) - 1))) hx hb d_In_numberOfTrailingZeros_77 (t_sh1 ((((k - 8) - 4) - 2)) (by omega) (by omega)) ?_
      refine lv_iadd hx hb d_In_numberOfTrailingZeros_78 ?_
      exact W.iret (v := ((nI 15) + (nI ((((k - 8) - 4) - 2) - 1)))) hx hb hr (fun t ht hW => ⟨((nI 15) + (nI ((((k - 8) - 4) - 2) - 1))), rfl, ((nI_add 15 _).trans (congrArg nI (by omega))), ht⟩) (fun q h => nomatch h) d_In_numberOfTrailingZeros_79
    have h23 : 17 ≤ k := (t_gt16 (k) (by omega)).mp (Int32.not_le.mp h23)
    refine lv_iinc hx hb d_In_numberOfTrailingZeros_26 hl (k := 0) (v := (nI 17)) rfl rfl (by decide) rfl (fun ls hl => ?_)
    replace hl : lv_has ls 2 [(1, .int (nI 17)), (0, .int (nI (2 ^ k - 1)))] := hl
    refine lv_iload_n hx hb d_In_numberOfTrailingZeros_29 rfl (lv_at hl 1 rfl) ?_
    refine lv_bipush (v := 16) hx hb d_In_numberOfTrailingZeros_30 (by decide) ?_
    refine lv_iushr (v := (nI (2 ^ (k - 16) - 1))) hx hb d_In_numberOfTrailingZeros_32 (t_sh16 (k) (by omega) (by omega)) ?_
    refine lv_istore_n hx hb d_In_numberOfTrailingZeros_33 rfl hl (by decide) rfl (fun ls hl => ?_)
    replace hl : lv_has ls 2 [(0, .int (nI (2 ^ (k - 16) - 1))), (1, .int (nI 17))] := hl
    refine lv_iload_n hx hb d_In_numberOfTrailingZeros_34 rfl (lv_at hl 0 rfl) ?_
    refine lv_sipush (v := 256) hx hb d_In_numberOfTrailingZeros_35 (by decide) ?_
    refine lv_icmp_le hx hb d_In_numberOfTrailingZeros_38 rfl (fun h38 => ?_) (fun h38 => ?_)
    · have h38 : (k - 16) < 9 := by have := mt (t_gt8 ((k - 16)) (by omega)).mpr (Int32.not_lt.mpr h38); omega
      refine lv_iload_n hx hb d_In_numberOfTrailingZeros_49 rfl (lv_at hl 0 rfl) ?_
      refine lv_bipush (v := 16) hx hb d_In_numberOfTrailingZeros_50 (by decide) ?_
      refine lv_icmp_le hx hb d_In_numberOfTrailingZeros_52 rfl (fun h52 => ?_) (fun h52 => ?_)
      · have h52 : (k - 16) < 5 := by have := mt (t_gt4 ((k - 16)) (by omega)).mpr (Int32.not_lt.mpr h52); omega
        refine lv_iload_n hx hb d_In_numberOfTrailingZeros_62 rfl (lv_at hl 0 rfl) ?_
        refine lv_iconst (v := 4) hx hb d_In_numberOfTrailingZeros_63 (by decide) ?_
        refine lv_icmp_le hx hb d_In_numberOfTrailingZeros_64 rfl (fun h64 => ?_) (fun h64 => ?_)
        · have h64 : (k - 16) < 3 := by have := mt (t_gt2 ((k - 16)) (by omega)).mpr (Int32.not_lt.mpr h64); omega
          refine lv_iload_n hx hb d_In_numberOfTrailingZeros_74 rfl (lv_at hl 1 rfl) ?_
          refine lv_iload_n hx hb d_In_numberOfTrailingZeros_75 rfl (lv_at hl 0 rfl) ?_
          refine lv_iconst (v := 1) hx hb d_In_numberOfTrailingZeros_76 (by decide) ?_
          refine lv_iushr (v := (nI ((k - 16) - 1))) hx hb d_In_numberOfTrailingZeros_77 (t_sh1 ((k - 16)) (by omega) (by omega)) ?_
          refine lv_iadd hx hb d_In_numberOfTrailingZeros_78 ?_
          exact W.iret (v := ((nI 17) + (nI ((k - 16) - 1)))) hx hb hr (fun t ht hW => ⟨((nI 17) + (nI ((k - 16) - 1))), rfl, ((nI_add 17 _).trans (congrArg nI (by omega))), ht⟩) (fun q h => nomatch h) d_In_numberOfTrailingZeros_79
        have h64 : 3 ≤ (k - 16) := (t_gt2 ((k - 16)) (by omega)).mp (Int32.not_le.mp h64)
        refine lv_iinc hx hb d_In_numberOfTrailingZeros_67 hl (k := 1) (v := (nI 19)) rfl rfl (by decide) rfl (fun ls hl => ?_)
        replace hl : lv_has ls 2 [(1, .int (nI 19)), (0, .int (nI (2 ^ (k - 16) - 1)))] := hl
        refine lv_iload_n hx hb d_In_numberOfTrailingZeros_70 rfl (lv_at hl 1 rfl) ?_
        refine lv_iconst (v := 2) hx hb d_In_numberOfTrailingZeros_71 (by decide) ?_
        refine lv_iushr (v := (nI (2 ^ ((k - 16) - 2) - 1))) hx hb d_In_numberOfTrailingZeros_72 (t_sh2 ((k - 16)) (by omega) (by omega)) ?_
        refine lv_istore_n hx hb d_In_numberOfTrailingZeros_73 rfl hl (by decide) rfl (fun ls hl => ?_)
        replace hl : lv_has ls 2 [(0, .int (nI (2 ^ ((k - 16) - 2) - 1))), (1, .int (nI 19))] := hl
        refine lv_iload_n hx hb d_In_numberOfTrailingZeros_74 rfl (lv_at hl 1 rfl) ?_
        refine lv_iload_n hx hb d_In_numberOfTrailingZeros_75 rfl (lv_at hl 0 rfl) ?_
        refine lv_iconst (v := 1) hx hb d_In_numberOfTrailingZeros_76 (by decide) ?_
        refine lv_iushr (v := (nI (((k - 16) - 2) - 1))) hx hb d_In_numberOfTrailingZeros_77 (t_sh1 (((k - 16) - 2)) (by omega) (by omega)) ?_
        refine lv_iadd hx hb d_In_numberOfTrailingZeros_78 ?_
        exact W.iret (v := ((nI 19) + (nI (((k - 16) - 2) - 1)))) hx hb hr (fun t ht hW => ⟨((nI 19) + (nI (((k - 16) - 2) - 1))), rfl, ((nI_add 19 _).trans (congrArg nI (by omega))), ht⟩) (fun q h => nomatch h) d_In_numberOfTrailingZeros_79
      have h52 : 5 ≤ (k - 16) := (t_gt4 ((k - 16)) (by omega)).mp (Int32.not_le.mp h52)
      refine lv_iinc hx hb d_In_numberOfTrailingZeros_55 hl (k := 1) (v := (nI 21)) rfl rfl (by decide) rfl (fun ls hl => ?_)
      replace hl : lv_has ls 2 [(1, .int (nI 21)), (0, .int (nI (2 ^ (k - 16) - 1)))] := hl
      refine lv_iload_n hx hb d_In_numberOfTrailingZeros_58 rfl (lv_at hl 1 rfl) ?_
      refine lv_iconst (v := 4) hx hb d_In_numberOfTrailingZeros_59 (by decide) ?_
      refine lv_iushr (v := (nI (2 ^ ((k - 16) - 4) - 1))) hx hb d_In_numberOfTrailingZeros_60 (t_sh4 ((k - 16)) (by omega) (by omega)) ?_
      refine lv_istore_n hx hb d_In_numberOfTrailingZeros_61 rfl hl (by decide) rfl (fun ls hl => ?_)
      replace hl : lv_has ls 2 [(0, .int (nI (2 ^ ((k - 16) - 4) - 1))), (1, .int (nI 21))] := hl
      refine lv_iload_n hx hb d_In_numberOfTrailingZeros_62 rfl (lv_at hl 0 rfl) ?_
      refine lv_iconst (v := 4) hx hb d_In_numberOfTrailingZeros_63 (by decide) ?_
      refine lv_icmp_le hx hb d_In_numberOfTrailingZeros_64 rfl (fun h64 => ?_) (fun h64 => ?_)
      · have h64 : ((k - 16) - 4) < 3 := by have := mt (t_gt2 (((k - 16) - 4)) (by omega)).mpr (Int32.not_lt.mpr h64); omega
        refine lv_iload_n hx hb d_In_numberOfTrailingZeros_74 rfl (lv_at hl 1 rfl) ?_
        refine lv_iload_n hx hb d_In_numberOfTrailingZeros_75 rfl (lv_at hl 0 rfl) ?_
        refine lv_iconst (v := 1) hx hb d_In_numberOfTrailingZeros_76 (by decide) ?_
        refine lv_iushr (v := (nI (((k - 16) - 4) - 1))) hx hb d_In_numberOfTrailingZeros_77 (t_sh1 (((k - 16) - 4)) (by omega) (by omega)) ?_
        refine lv_iadd hx hb d_In_numberOfTrailingZeros_78 ?_
        exact W.iret (v := ((nI 21) + (nI (((k - 16) - 4) - 1)))) hx hb hr (fun t ht hW => ⟨((nI 21) + (nI (((k - 16) - 4) - 1))), rfl, ((nI_add 21 _).trans (congrArg nI (by omega))), ht⟩) (fun q h => nomatch h) d_In_numberOfTrailingZeros_79
      have h64 : 3 ≤ ((k - 16) - 4) := (t_gt2 (((k - 16) - 4)) (by omega)).mp (Int32.not_le.mp h64)
      refine lv_iinc hx hb d_In_numberOfTrailingZeros_67 hl (k := 1) (v := (nI 23)) rfl rfl (by decide) rfl (fun ls hl => ?_)
      replace hl : lv_has ls 2 [(1, .int (nI 23)), (0, .int (nI (2 ^ ((k - 16) - 4) - 1)))] := hl
      refine lv_iload_n hx hb d_In_numberOfTrailingZeros_70 rfl (lv_at hl 1 rfl) ?_
      refine lv_iconst (v := 2) hx hb d_In_numberOfTrailingZeros_71 (by decide) ?_
      refine lv_iushr (v := (nI (2 ^ (((k - 16) - 4) - 2) - 1))) hx hb d_In_numberOfTrailingZeros_72 (t_sh2 (((k - 16) - 4)) (by omega) (by omega)) ?_
      refine lv_istore_n hx hb d_In_numberOfTrailingZeros_73 rfl hl (by decide) rfl (fun ls hl => ?_)
      replace hl : lv_has ls 2 [(0, .int (nI (2 ^ (((k - 16) - 4) - 2) - 1))), (1, .int (nI 23))] := hl
      refine lv_iload_n hx hb d_In_numberOfTrailingZeros_74 rfl (lv_at hl 1 rfl) ?_
      refine lv_iload_n hx hb d_In_numberOfTrailingZeros_75 rfl (lv_at hl 0 rfl) ?_
      refine lv_iconst (v := 1) hx hb d_In_numberOfTrailingZeros_76 (by decide) ?_
      refine lv_iushr (v := (nI ((((k - 16) - 4) - 2) - 1))) hx hb d_In_numberOfTrailingZeros_77 (t_sh1 ((((k - 16) - 4) - 2)) (by omega) (by omega)) ?_
      refine lv_iadd hx hb d_In_numberOfTrailingZeros_78 ?_
      exact W.iret (v := ((nI 23) + (nI ((((k - 16) - 4) - 2) - 1)))) hx hb hr (fun t ht hW => ⟨((nI 23) + (nI ((((k - 16) - 4) - 2) - 1))), rfl, ((nI_add 23 _).trans (congrArg nI (by omega))), ht⟩) (fun q h => nomatch h) d_In_numberOfTrailingZeros_79
    have h38 : 9 ≤ (k - 16) := (t_gt8 ((k - 16)) (by omega)).mp (Int32.not_le.mp h38)
    refine lv_iinc hx hb d_In_numberOfTrailingZeros_41 hl (k := 1) (v := (nI 25)) rfl rfl (by decide) rfl (fun ls hl => ?_)
    replace hl : lv_has ls 2 [(1, .int (nI 25)), (0, .int (nI (2 ^ (k - 16) - 1)))] := hl
    refine lv_iload_n hx hb d_In_numberOfTrailingZeros_44 rfl (lv_at hl 1 rfl) ?_
    refine lv_bipush (v := 8) hx hb d_In_numberOfTrailingZeros_45 (by decide) ?_
    refine lv_iushr (v := (nI (2 ^ ((k - 16) - 8) - 1))) hx hb d_In_numberOfTrailingZeros_47 (t_sh8 ((k - 16)) (by omega) (by omega)) ?_
    refine lv_istore_n hx hb d_In_numberOfTrailingZeros_48 rfl hl (by decide) rfl (fun ls hl => ?_)
    replace hl : lv_has ls 2 [(0, .int (nI (2 ^ ((k - 16) - 8) - 1))), (1, .int (nI 25))] := hl
    refine lv_iload_n hx hb d_In_numberOfTrailingZeros_49 rfl (lv_at hl 0 rfl) ?_
    refine lv_bipush (v := 16) hx hb d_In_numberOfTrailingZeros_50 (by decide) ?_
    refine lv_icmp_le hx hb d_In_numberOfTrailingZeros_52 rfl (fun h52 => ?_) (fun h52 => ?_)
    · have h52 : ((k - 16) - 8) < 5 := by have := mt (t_gt4 (((k - 16) - 8)) (by omega)).mpr (Int32.not_lt.mpr h52); omega
      refine lv_iload_n hx hb d_In_numberOfTrailingZeros_62 rfl (lv_at hl 0 rfl) ?_
      refine lv_iconst (v := 4) hx hb d_In_numberOfTrailingZeros_63 (by decide) ?_
      refine lv_icmp_le hx hb d_In_numberOfTrailingZeros_64 rfl (fun h64 => ?_) (fun h64 => ?_)
      · have h64 : ((k - 16) - 8) < 3 := by have := mt (t_gt2 (((k - 16) - 8)) (by omega)).mpr (Int32.not_lt.mpr h64); omega
        refine lv_iload_n hx hb d_In_numberOfTrailingZeros_74 rfl (lv_at hl 1 rfl) ?_
        refine lv_iload_n hx hb d_In_numberOfTrailingZeros_75 rfl (lv_at hl 0 rfl) ?_
        refine lv_iconst (v := 1) hx hb d_In_numberOfTrailingZeros_76 (by decide) ?_
        refine lv_iushr (v := (nI (((k - 16) - 8) - 1))) hx hb d_In_numberOfTrailingZeros_77 (t_sh1 (((k - 16) - 8)) (by omega) (by omega)) ?_
        refine lv_iadd hx hb d_In_numberOfTrailingZeros_78 ?_
        exact W.iret (v := ((nI 25) + (nI (((k - 16) - 8) - 1)))) hx hb hr (fun t ht hW => ⟨((nI 25) + (nI (((k - 16) - 8) - 1))), rfl, ((nI_add 25 _).trans (congrArg nI (by omega))), ht⟩) (fun q h => nomatch h) d_In_numberOfTrailingZeros_79
      have h64 : 3 ≤ ((k - 16) - 8) := (t_gt2 (((k - 16) - 8)) (by omega)).mp (Int32.not_le.mp h64)
      refine lv_iinc hx hb d_In_numberOfTrailingZeros_67 hl (k := 1) (v := (nI 27)) rfl rfl (by decide) rfl (fun ls hl => ?_)
      replace hl : lv_has ls 2 [(1, .int (nI 27)), (0, .int (nI (2 ^ ((k - 16) - 8) - 1)))] := hl
      refine lv_iload_n hx hb d_In_numberOfTrailingZeros_70 rfl (lv_at hl 1 rfl) ?_
      refine lv_iconst (v := 2) hx hb d_In_numberOfTrailingZeros_71 (by decide) ?_
      refine lv_iushr (v := (nI (2 ^ (((k - 16) - 8) - 2) - 1))) hx hb d_In_numberOfTrailingZeros_72 (t_sh2 (((k - 16) - 8)) (by omega) (by omega)) ?_
      refine lv_istore_n hx hb d_In_numberOfTrailingZeros_73 rfl hl (by decide) rfl (fun ls hl => ?_)
      replace hl : lv_has ls 2 [(0, .int (nI (2 ^ (((k - 16) - 8) - 2) - 1))), (1, .int (nI 27))] := hl
      refine lv_iload_n hx hb d_In_numberOfTrailingZeros_74 rfl (lv_at hl 1 rfl) ?_
      refine lv_iload_n hx hb d_In_numberOfTrailingZeros_75 rfl (lv_at hl 0 rfl) ?_
      refine lv_iconst (v := 1) hx hb d_In_numberOfTrailingZeros_76 (by decide) ?_
      refine lv_iushr (v := (nI ((((k - 16) - 8) - 2) - 1))) hx hb d_In_numberOfTrailingZeros_77 (t_sh1 ((((k - 16) - 8) - 2)) (by omega) (by omega)) ?_
      refine lv_iadd hx hb d_In_numberOfTrailingZeros_78 ?_
      exact W.iret (v := ((nI 27) + (nI ((((k - 16) - 8) - 2) - 1)))) hx hb hr (fun t ht hW => ⟨((nI 27) + (nI ((((k - 16) - 8) - 2) - 1))), rfl, ((nI_add 27 _).trans (congrArg nI (by omega))), ht⟩) (fun q h => nomatch h) d_In_numberOfTrailingZeros_79
    have h52 : 5 ≤ ((k - 16) - 8) := (t_gt4 (((k - 16) - 8)) (by omega)).mp (Int32.not_le.mp h52)
    refine lv_iinc hx hb d_In_numberOfTrailingZeros_55 hl (k := 1) (v := (nI 29)) rfl rfl (by decide) rfl (fun ls hl => ?_)
    replace hl : lv_has ls 2 [(1, .int (nI 29)), (0, .int (nI (2 ^ ((k - 16) - 8) - 1)))] := hl
    refine lv_iload_n hx hb d_In_numberOfTrailingZeros_58 rfl (lv_at hl 1 rfl) ?_
    refine lv_iconst (v := 4) hx hb d_In_numberOfTrailingZeros_59 (by decide) ?_
    refine lv_iushr (v := (nI (2 ^ (((k - 16) - 8) - 4) - 1))) hx hb d_In_numberOfTrailingZeros_60 (t_sh4 (((k - 16) - 8)) (by omega) (by omega)) ?_
    refine lv_istore_n hx hb d_In_numberOfTrailingZeros_61 rfl hl (by decide) rfl (fun ls hl => ?_)
    replace hl : lv_has ls 2 [(0, .int (nI (2 ^ (((k - 16) - 8) - 4) - 1))), (1, .int (nI 29))] := hl
    refine lv_iload_n hx hb d_In_numberOfTrailingZeros_62 rfl (lv_at hl 0 rfl) ?_
    refine lv_iconst (v := 4) hx hb d_In_numberOfTrailingZeros_63 (by decide) ?_
    refine lv_icmp_le hx hb d_In_numberOfTrailingZeros_64 rfl (fun h64 => ?_) (fun h64 => ?_)
    · have h64 : (((k - 16) - 8) - 4) < 3 := by have := mt (t_gt2 ((((k - 16) - 8) - 4)) (by omega)).mpr (Int32.not_lt.mpr h64); omega
      refine lv_iload_n hx hb d_In_numberOfTrailingZeros_74 rfl (lv_at hl 1 rfl) ?_
      refine lv_iload_n hx hb d_In_numberOfTrailingZeros_75 rfl (lv_at hl 0 rfl) ?_
      refine lv_iconst (v := 1) hx hb d_In_numberOfTrailingZeros_76 (by decide) ?_
      refine lv_iushr (v := (nI ((((k - 16) - 8) - 4) - 1))) hx hb d_In_numberOfTrailingZeros_77 (t_sh1 ((((k - 16) - 8) - 4)) (by omega) (by omega)) ?_
      refine lv_iadd hx hb d_In_numberOfTrailingZeros_78 ?_
      exact W.iret (v := ((nI 29) + (nI ((((k - 16) - 8) - 4) - 1)))) hx hb hr (fun t ht hW => ⟨((nI 29) + (nI ((((k - 16) - 8) - 4) - 1))), rfl, ((nI_add 29 _).trans (congrArg nI (by omega))), ht⟩) (fun q h => nomatch h) d_In_numberOfTrailingZeros_79
    have h64 : 3 ≤ (((k - 16) - 8) - 4) := (t_gt2 ((((k - 16) - 8) - 4)) (by omega)).mp (Int32.not_le.mp h64)
    refine lv_iinc hx hb d_In_numberOfTrailingZeros_67 hl (k := 1) (v := (nI 31)) rfl rfl (by decide) rfl (fun ls hl => ?_)
    replace hl : lv_has ls 2 [(1, .int (nI 31)), (0, .int (nI (2 ^ (((k - 16) - 8) - 4) - 1)))] := hl
    refine lv_iload_n hx hb d_In_numberOfTrailingZeros_70 rfl (lv_at hl 1 rfl) ?_
    refine lv_iconst (v := 2) hx hb d_In_numberOfTrailingZeros_71 (by decide) ?_
    refine lv_iushr (v := (nI (2 ^ ((((k - 16) - 8) - 4) - 2) - 1))) hx hb d_In_numberOfTrailingZeros_72 (t_sh2 ((((k - 16) - 8) - 4)) (by omega) (by omega)) ?_
    refine lv_istore_n hx hb d_In_numberOfTrailingZeros_73 rfl hl (by decide) rfl (fun ls hl => ?_)
    replace hl : lv_has ls 2 [(0, .int (nI (2 ^ ((((k - 16) - 8) - 4) - 2) - 1))), (1, .int (nI 31))] := hl
    refine lv_iload_n hx hb d_In_numberOfTrailingZeros_74 rfl (lv_at hl 1 rfl) ?_
    refine lv_iload_n hx hb d_In_numberOfTrailingZeros_75 rfl (lv_at hl 0 rfl) ?_
    refine lv_iconst (v := 1) hx hb d_In_numberOfTrailingZeros_76 (by decide) ?_
    refine lv_iushr (v := (nI (((((k - 16) - 8) - 4) - 2) - 1))) hx hb d_In_numberOfTrailingZeros_77 (t_sh1 (((((k - 16) - 8) - 4) - 2)) (by omega) (by omega)) ?_
    refine lv_iadd hx hb d_In_numberOfTrailingZeros_78 ?_
    exact W.iret (v := ((nI 31) + (nI (((((k - 16) - 8) - 4) - 2) - 1)))) hx hb hr (fun t ht hW => ⟨((nI 31) + (nI (((((k - 16) - 8) - 4) - 2) - 1))), rfl, ((nI_add 31 _).trans (congrArg nI (by omega))), ht⟩) (fun q h => nomatch h) d_In_numberOfTrailingZeros_79
  have h9 := mt (t_gt0 k hk).mpr h9
  refine lv_iload_n hx hb d_In_numberOfTrailingZeros_12 rfl (lv_at hl 0 rfl) ?_
  refine lv_bipush (v := 32) hx hb d_In_numberOfTrailingZeros_13 (by decide) ?_
  refine lv_iand hx hb d_In_numberOfTrailingZeros_15 ?_
  exact W.iret (v := ((nI (2 ^ k - 1)) &&& 32)) hx hb hr (fun t ht hW => ⟨((nI (2 ^ k - 1)) &&& 32), rfl, (by rw [show k = 0 by omega]; decide), ht⟩) (fun q h => nomatch h) d_In_numberOfTrailingZeros_16
set_option maxHeartbeats 4000000 in
set_option maxRecDepth 100000 in
theorem c_In_ntz0 (l : Launch) (dC : Nat → ClassId) (dI : Nat → Nat → Nat) {tys : List (ClassId × FieldType)} {ws : va_W} : Met l y_In_numberOfTrailingZeros (.code y_In_numberOfTrailingZeros b_In_numberOfTrailingZeros 2 (some .int) :: wG) ({ frames := 0, cells := 0, slots := 0, locals := 0 }) (PcS (dC, dI) tys ws [.int 0]) (vp_Si (fun r9 => r9 = 32)) 0 0 (fun _ => False) := by
  refine Met.ofW (cc := b_In_numberOfTrailingZeros) (maxL := 2) (ret := (some .int)) (by decide) rfl ?_
  intro pg eg s mg ag bg meth cg s₁ B hml hv
  obtain ⟨rfl, hP, hK, hN⟩ := hv
  have hx := B.exec
  have hb := B.bytes
  have hr := B.returns
  have hlocks := B.notSynchronized
  have hts : ∀ w9 ∈ wG, w9.before ([.int 0] : List Value).toArray s = true := fun w9 h9 => atoms_spec (ws := (.code y_In_numberOfTrailingZeros b_In_numberOfTrailingZeros 2 (some .int) :: wG)) B.pre w9 (List.mem_cons_of_mem _ h9)
  have hown : s.vm.findClass "java/lang/Integer" = some mg.cls := findClass_of_methodNamed B.named
  have hP : va_P (dC, dI) classes ws s.heap := hP
  have hl := lv_entry ([.int 0]) (n := 2) (Nat.le_of_ble_eq_true rfl)
  rw [lg_entry_eq]
  generalize (lg_sl ([.int 0]) ++ List.replicate (2 - (lg_sl ([.int 0])).length) Slot.unset).toArray = ls at hl ⊢
  replace hl : lv_has ls 2 [(0, .int 0)] := hl
  refine lv_iload_n hx hb d_In_numberOfTrailingZeros_0 rfl (lv_at hl 0 rfl) ?_
  refine lv_iconst (v := (-1)) hx hb d_In_numberOfTrailingZeros_1 (by decide) ?_
  refine lv_ixor hx hb d_In_numberOfTrailingZeros_2 ?_
  refine lv_iload_n hx hb d_In_numberOfTrailingZeros_3 rfl (lv_at hl 0 rfl) ?_
  refine lv_iconst (v := 1) hx hb d_In_numberOfTrailingZeros_4 (by decide) ?_
  refine lv_isub hx hb d_In_numberOfTrailingZeros_5 ?_
  refine lv_iand hx hb d_In_numberOfTrailingZeros_6 ?_
  refine lv_istore_n hx hb d_In_numberOfTrailingZeros_7 rfl hl (by decide) rfl (fun ls hl => ?_)
  replace hl : lv_has ls 2 [(0, .int ((0 ^^^ (-1)) &&& (0 - 1)))] := hl
  refine lv_iload_n hx hb d_In_numberOfTrailingZeros_8 rfl (lv_at hl 0 rfl) ?_
  refine lv_if_gt hx hb d_In_numberOfTrailingZeros_9 rfl (fun h9 => absurd h9 (by decide)) (fun _ => ?_)
  refine lv_iload_n hx hb d_In_numberOfTrailingZeros_12 rfl (lv_at hl 0 rfl) ?_
  refine lv_bipush (v := 32) hx hb d_In_numberOfTrailingZeros_13 (by decide) ?_
  refine lv_iand hx hb d_In_numberOfTrailingZeros_15 ?_
  exact W.iret (v := (((0 ^^^ (-1)) &&& (0 - 1)) &&& 32)) hx hb hr (fun t ht hW => ⟨(((0 ^^^ (-1)) &&& (0 - 1)) &&& 32), rfl, (by decide), ht⟩) (fun q h => nomatch h) d_In_numberOfTrailingZeros_16
set_option maxHeartbeats 4000000 in
set_option maxRecDepth 100000 in
theorem c_Lo_numberOfTrailingZeros (l : Launch) (dC : Nat → ClassId) (dI : Nat → Nat → Nat) {tys : List (ClassId × FieldType)} {ws : va_W} (m k : Nat) (hm : m < 4294967296) (hk : k < 32) (hlow : ¬ m = 0 → (nI m ^^^ (-1)) &&& (nI m - 1) = nI (2 ^ k - 1)) : Met l y_Lo_numberOfTrailingZeros (.code y_Lo_numberOfTrailingZeros b_Lo_numberOfTrailingZeros 3 (some .int) :: wG) ({ frames := 1, cells := 0, slots := 0, locals := 21 }) (PcS (dC, dI) tys ws [.long (lN m)]) (vp_Si (fun r9 => r9 = (if m = 0 then 64 else nI k))) 0 0 (fun _ => False) := by
  refine Met.ofW (cc := b_Lo_numberOfTrailingZeros) (maxL := 3) (ret := (some .int)) (by decide) rfl ?_
  intro pg eg s mg ag bg meth cg s₁ B hml hv
  obtain ⟨rfl, hP, hK, hN⟩ := hv
  have hx := B.exec
  have hb := B.bytes
  have hr := B.returns
  have hlocks := B.notSynchronized
  have hts : ∀ w9 ∈ wG, w9.before ([.long (lN m)] : List Value).toArray s = true := fun w9 h9 => atoms_spec (ws := (.code y_Lo_numberOfTrailingZeros b_Lo_numberOfTrailingZeros 3 (some .int) :: wG)) B.pre w9 (List.mem_cons_of_mem _ h9)
  have hown : s.vm.findClass "java/lang/Long" = some mg.cls := findClass_of_methodNamed B.named
  have hP : va_P (dC, dI) classes ws s.heap := hP
  have hl := lv_entry ([.long (lN m)]) (n := 3) (Nat.le_of_ble_eq_true rfl)
  rw [lg_entry_eq]
  generalize (lg_sl ([.long (lN m)]) ++ List.replicate (3 - (lg_sl ([.long (lN m)])).length) Slot.unset).toArray = ls at hl ⊢
  replace hl : lv_has ls 3 [(0, .long (lN m))] := hl
  refine lv_lload_n hx hb d_Lo_numberOfTrailingZeros_0 rfl (lv_at hl 0 rfl) ?_
  refine lv_l2i hx hb d_Lo_numberOfTrailingZeros_1 rfl ?_
  refine x_topi (y := (nI m)) (lN_i _) ?_
  refine lv_istore_n hx hb d_Lo_numberOfTrailingZeros_2 rfl hl (by decide) rfl (fun ls hl => ?_)
  replace hl : lv_has ls 3 [(2, .int (nI m)), (0, .long (lN m))] := hl
  refine lv_iload_n hx hb d_Lo_numberOfTrailingZeros_3 rfl (lv_at hl 0 rfl) ?_
  refine lv_if_ne hx hb d_Lo_numberOfTrailingZeros_4 rfl (fun h4 => ?_) (fun h4 => ?_)
  · have h4 := mt (k_eq (b := 0) hm (by decide)).mpr h4
    refine lv_iload_n hx hb d_Lo_numberOfTrailingZeros_21 rfl (lv_at hl 0 rfl) ?_
    refine vp_callSi (W.runS (As := [.int (nI m)]) (rest := []) ⟨hx, hb, hml, hown, hts⟩ (c_In_numberOfTrailingZeros l dC dI (nI m) k hk (hlow (by omega))) (va_cwS 1 hts (x_gS kw_375 kw_376 kw_14 kw_377) rfl rfl rfl (by decide +kernel) ⟨Nat.le_of_ble_eq_true rfl, Nat.le_of_ble_eq_true rfl⟩) ⟨PcS.blind, PcS.use hP hK hN⟩ rfl rfl hl.1 rfl (lv_room (Nat.le_of_ble_eq_true rfl)) d_Lo_numberOfTrailingZeros_22 ⟨Nat.zero_le _, Nat.zero_le _⟩) (fun r22 hr22 => ?_)
    obtain rfl : r22 = (nI k) := hr22
    exact W.iret (v := (nI k)) hx hb hr (fun t ht hW => ⟨(nI k), rfl, (by rw [if_neg h4]), ht⟩) (fun q h => nomatch h) d_Lo_numberOfTrailingZeros_25
  have h4 := (k_eq (b := 0) hm (by decide)).mp h4
  refine lv_bipush (v := 32) hx hb d_Lo_numberOfTrailingZeros_7 (by decide) ?_
  refine lv_lload_n hx hb d_Lo_numberOfTrailingZeros_9 rfl (lv_at hl 1 rfl) ?_
  refine lv_bipush (v := 32) hx hb d_Lo_numberOfTrailingZeros_10 (by decide) ?_
  refine lv_lushr (v := (lN 0)) hx hb d_Lo_numberOfTrailingZeros_12 (by rw [h4]; decide) ?_
  refine lv_l2i hx hb d_Lo_numberOfTrailingZeros_13 rfl ?_
  refine x_topi (y := 0) rfl ?_
  refine vp_callSi (W.runS (As := [.int 0]) (rest := [.int 32]) ⟨hx, hb, hml, hown, hts⟩ (c_In_ntz0 l dC dI) (va_cwS 1 hts (x_gS kw_375 kw_376 kw_14 kw_377) rfl rfl rfl (by decide +kernel) ⟨Nat.le_of_ble_eq_true rfl, Nat.le_of_ble_eq_true rfl⟩) ⟨PcS.blind, PcS.use hP hK hN⟩ rfl rfl hl.1 rfl (lv_room (Nat.le_of_ble_eq_true rfl)) d_Lo_numberOfTrailingZeros_14 ⟨Nat.zero_le _, Nat.zero_le _⟩) (fun r14 hr14 => ?_)
  obtain rfl : r14 = 32 := hr14
  refine lv_iadd hx hb d_Lo_numberOfTrailingZeros_17 ?_
  refine lv_goto hx hb d_Lo_numberOfTrailingZeros_18 rfl ?_
  exact W.iret (v := (32 + 32)) hx hb hr (fun t ht hW => ⟨(32 + 32), rfl, (by rw [if_pos h4]; decide), ht⟩) (fun q h => nomatch h) d_Lo_numberOfTrailingZeros_25
set_option maxHeartbeats 4000000 in
set_option maxRecDepth 100000 in
theorem c_In_numberOfLeadingZeros (l : Launch) (dC : Nat → ClassId) (dI : Nat → Nat → Nat) {tys : List (ClassId × FieldType)} {ws : va_W} (m k : Nat) (hm : m < 4294967296) (hm0 : 1 ≤ m) (hp1 : 2 ^ k ≤ m) (hp2 : m < 2 ^ (k + 1)) : Met l y_In_numberOfLeadingZeros (.code y_In_numberOfLeadingZeros b_In_numberOfLeadingZeros 2 (some .int) :: wG) ({ frames := 0, cells := 0, slots := 0, locals := 0 }) (PcS (dC, dI) tys ws [.int (nI m)]) (vp_Si (fun r9 => r9 = nI (31 - k))) 0 0 (fun _ => False) := by
  refine Met.ofW (cc := b_In_numberOfLeadingZeros) (maxL := 2) (ret := (some .int)) (by decide) rfl ?_
  intro pg eg s mg ag bg meth cg s₁ B hml hv
  obtain ⟨rfl, hP, hK, hN⟩ := hv
  have hx := B.exec
  have hb := B.bytes
  have hr := B.returns
  have hlocks := B.notSynchronized
  have hts : ∀ w9 ∈ wG, w9.before ([.int (nI m)] : List Value).toArray s = true := fun w9 h9 => atoms_spec (ws := (.code y_In_numberOfLeadingZeros b_In_numberOfLeadingZeros 2 (some .int) :: wG)) B.pre w9 (List.mem_cons_of_mem _ h9)
  have hown : s.vm.findClass "java/lang/Integer" = some mg.cls := findClass_of_methodNamed B.named
  have hP : va_P (dC, dI) classes ws s.heap := hP
  have hl := lv_entry ([.int (nI m)]) (n := 2) (Nat.le_of_ble_eq_true rfl)
  rw [lg_entry_eq]
  generalize (lg_sl ([.int (nI m)]) ++ List.replicate (2 - (lg_sl ([.int (nI m)])).length) Slot.unset).toArray = ls at hl ⊢
  replace hl : lv_has ls 2 [(0, .int (nI m))] := hl
  refine lv_iload_n hx hb d_In_numberOfLeadingZeros_0 rfl (lv_at hl 0 rfl) ?_
  refine lv_if_gt hx hb d_In_numberOfLeadingZeros_1 rfl (fun h1 => ?_) (fun h1 => ?_)
  · have h1 := (k_lt' (a := 0) (by decide) hm).mp h1
    refine lv_bipush (v := 31) hx hb d_In_numberOfLeadingZeros_15 (by decide) ?_
    refine lv_istore_n hx hb d_In_numberOfLeadingZeros_17 rfl hl (by decide) rfl (fun ls hl => ?_)
    replace hl : lv_has ls 2 [(1, .int 31), (0, .int (nI m))] := hl
    refine lv_iload_n hx hb d_In_numberOfLeadingZeros_18 rfl (lv_at hl 1 rfl) ?_
    refine lv_ldcw hx hb hown (hts _ kw_378) d_In_numberOfLeadingZeros_19 ?_
    refine lv_icmp_lt hx hb d_In_numberOfLeadingZeros_22 rfl (fun h22 => ?_) (fun h22 => ?_)
    · have h22 := (nI_ltI (b := 65536) (by omega) (by decide)).mp h22
      refine lv_iload_n hx hb d_In_numberOfLeadingZeros_33 rfl (lv_at hl 1 rfl) ?_
      refine lv_sipush (v := 256) hx hb d_In_numberOfLeadingZeros_34 (by decide) ?_
      refine lv_icmp_lt hx hb d_In_numberOfLeadingZeros_37 rfl (fun h37 => ?_) (fun h37 => ?_)
      · have h37 := (nI_ltI (b := 256) (by omega) (by decide)).mp h37
        refine lv_iload_n hx hb d_In_numberOfLeadingZeros_48 rfl (lv_at hl 1 rfl) ?_
        refine lv_bipush (v := 16) hx hb d_In_numberOfLeadingZeros_49 (by decide) ?_
        refine lv_icmp_lt hx hb d_In_numberOfLeadingZeros_51 rfl (fun h51 => ?_) (fun h51 => ?_)
        · have h51 := (nI_ltI (b := 16) (by omega) (by decide)).mp h51
          refine lv_iload_n hx hb d_In_numberOfLeadingZeros_61 rfl (lv_at hl 1 rfl) ?_
          refine lv_iconst (v := 4) hx hb d_In_numberOfLeadingZeros_62 (by decide) ?_
          refine lv_icmp_lt hx hb d_In_numberOfLeadingZeros_63 rfl (fun h63 => ?_) (fun h63 => ?_)
          · have h63 := (nI_ltI (b := 4) (by omega) (by decide)).mp h63
            refine lv_iload_n hx hb d_In_numberOfLeadingZeros_73 rfl (lv_at hl 0 rfl) ?_
            refine lv_iload_n hx hb d_In_numberOfLeadingZeros_74 rfl (lv_at hl 1 rfl) ?_
            refine lv_iconst (v := 1) hx hb d_In_numberOfLeadingZeros_75 (by decide) ?_
            refine lv_iushr (v := (nI (m / 2))) hx hb d_In_numberOfLeadingZeros_76 (u_sh1 (by omega)) ?_
            refine lv_isub hx hb d_In_numberOfLeadingZeros_77 ?_
            exact W.iret (v := (31 - (nI (m / 2)))) hx hb hr (fun t ht hW => ⟨(31 - (nI (m / 2))), rfl, ((pk_sub (a := 31) (by omega)).trans (congrArg nI (nlz_end (s := 0) hp1 hp2 (show m = m / 2 ^ 0 by omega) (by omega) (by omega) rfl (by decide)))), ht⟩) (fun q h => nomatch h) d_In_numberOfLeadingZeros_78
          have h63 := mt (nI_ltI (a := m) (b := 4) (by omega) (by decide)).mpr h63
          refine lv_iinc hx hb d_In_numberOfLeadingZeros_66 hl (k := 0) (v := (nI 29)) rfl (by decide) (by decide) rfl (fun ls hl => ?_)
          replace hl : lv_has ls 2 [(1, .int (nI 29)), (0, .int (nI m))] := hl
          refine lv_iload_n hx hb d_In_numberOfLeadingZeros_69 rfl (lv_at hl 1 rfl) ?_
          refine lv_iconst (v := 2) hx hb d_In_numberOfLeadingZeros_70 (by decide) ?_
          refine lv_iushr (v := (nI (m / 4))) hx hb d_In_numberOfLeadingZeros_71 (u_sh2 (by omega)) ?_
          refine lv_istore_n hx hb d_In_numberOfLeadingZeros_72 rfl hl (by decide) rfl (fun ls hl => ?_)
          replace hl : lv_has ls 2 [(0, .int (nI (m / 4))), (1, .int (nI 29))] := hl
          refine lv_iload_n hx hb d_In_numberOfLeadingZeros_73 rfl (lv_at hl 1 rfl) ?_
          refine lv_iload_n hx hb d_In_numberOfLeadingZeros_74 rfl (lv_at hl 0 rfl) ?_
          refine lv_iconst (v := 1) hx hb d_In_numberOfLeadingZeros_75 (by decide) ?_
          refine lv_iushr (v := (nI ((m / 4) / 2))) hx hb d_In_numberOfLeadingZeros_76 (u_sh1 (by omega)) ?_
          refine lv_isub hx hb d_In_numberOfLeadingZeros_77 ?_
          exact W.iret (v := ((nI 29) - (nI ((m / 4) / 2)))) hx hb hr (fun t ht hW => ⟨((nI 29) - (nI ((m / 4) / 2))), rfl, ((pk_sub (a := 29) (by omega)).trans (congrArg nI (nlz_end (s := 2) hp1 hp2 (show (m / 4) = m / 2 ^ 2 by omega) (by omega) (by omega) rfl (by decide)))), ht⟩) (fun q h => nomatch h) d_In_numberOfLeadingZeros_78
        have h51 := mt (nI_ltI (a := m) (b := 16) (by omega) (by decide)).mpr h51
        refine lv_iinc hx hb d_In_numberOfLeadingZeros_54 hl (k := 0) (v := (nI 27)) rfl (by decide) (by decide) rfl (fun ls hl => ?_)
        replace hl : lv_has ls 2 [(1, .int (nI 27)), (0, .int (nI m))] := hl
        refine lv_iload_n hx hb d_In_numberOfLeadingZeros_57 rfl (lv_at hl 1 rfl) ?_
        refine lv_iconst (v := 4) hx hb d_In_numberOfLeadingZeros_58 (by decide) ?_
        refine lv_iushr (v := (nI (m / 16))) hx hb d_In_numberOfLeadingZeros_59 (u_sh4 (by omega)) ?_
        refine lv_istore_n hx hb d_In_numberOfLeadingZeros_60 rfl hl (by decide) rfl (fun ls hl => ?_)
        replace hl : lv_has ls 2 [(0, .int (nI (m / 16))), (1, .int (nI 27))] := hl
        refine lv_iload_n hx hb d_In_numberOfLeadingZeros_61 rfl (lv_at hl 0 rfl) ?_
        refine lv_iconst (v := 4) hx hb d_In_numberOfLeadingZeros_62 (by decide) ?_
        refine lv_icmp_lt hx hb d_In_numberOfLeadingZeros_63 rfl (fun h63 => ?_) (fun h63 => ?_)
        · have h63 := (nI_ltI (b := 4) (by omega) (by decide)).mp h63
          refine lv_iload_n hx hb d_In_numberOfLeadingZeros_73 rfl (lv_at hl 1 rfl) ?_
          refine lv_iload_n hx hb d_In_numberOfLeadingZeros_74 rfl (lv_at hl 0 rfl) ?_
          refine lv_iconst (v := 1) hx hb d_In_numberOfLeadingZeros_75 (by decide) ?_
          refine lv_iushr (v := (nI ((m / 16) / 2))) hx hb d_In_numberOfLeadingZeros_76 (u_sh1 (by omega)) ?_
          refine lv_isub hx hb d_In_numberOfLeadingZeros_77 ?_
          exact W.iret (v := ((nI 27) - (nI ((m / 16) / 2)))) hx hb hr (fun t ht hW => ⟨((nI 27) - (nI ((m / 16) / 2))), rfl, ((pk_sub (a := 27) (by omega)).trans (congrArg nI (nlz_end (s := 4) hp1 hp2 (show (m / 16) = m / 2 ^ 4 by omega) (by omega) (by omega) rfl (by decide)))), ht⟩) (fun q h => nomatch h) d_In_numberOfLeadingZeros_78
        have h63 := mt (nI_ltI (a := (m / 16)) (b := 4) (by omega) (by decide)).mpr h63
        refine lv_iinc hx hb d_In_numberOfLeadingZeros_66 hl (k := 1) (v := (nI 25)) rfl (by decide) (by decide) rfl (fun ls hl => ?_)
        replace hl : lv_has ls 2 [(1, .int (nI 25)), (0, .int (nI (m / 16)))] := hl
        refine lv_iload_n hx hb d_In_numberOfLeadingZeros_69 rfl (lv_at hl 1 rfl) ?_
        refine lv_iconst (v := 2) hx hb d_In_numberOfLeadingZeros_70 (by decide) ?_
        refine lv_iushr (v := (nI ((m / 16) / 4))) hx hb d_In_numberOfLeadingZeros_71 (u_sh2 (by omega)) ?_
        refine lv_istore_n hx hb d_In_numberOfLeadingZeros_72 rfl hl (by decide) rfl (fun ls hl => ?_)
        replace hl : lv_has ls 2 [(0, .int (nI ((m / 16) / 4))), (1, .int (nI 25))] := hl
        refine lv_iload_n hx hb d_In_numberOfLeadingZeros_73 rfl (lv_at hl 1 rfl) ?_
        refine lv_iload_n hx hb d_In_numberOfLeadingZeros_74 rfl (lv_at hl 0 rfl) ?_
        refine lv_iconst (v := 1) hx hb d_In_numberOfLeadingZeros_75 (by decide) ?_
        refine lv_iushr (v := (nI (((m / 16) / 4) / 2))) hx hb d_In_numberOfLeadingZeros_76 (u_sh1 (by omega)) ?_
        refine lv_isub hx hb d_In_numberOfLeadingZeros_77 ?_
        exact W.iret (v := ((nI 25) - (nI (((m / 16) / 4) / 2)))) hx hb hr (fun t ht hW => ⟨((nI 25) - (nI (((m / 16) / 4) / 2))), rfl, ((pk_sub (a := 25) (by omega)).trans (congrArg nI (nlz_end (s := 6) hp1 hp2 (show ((m / 16) / 4) = m / 2 ^ 6 by omega) (by omega) (by omega) rfl (by decide)))), ht⟩) (fun q h => nomatch h) d_In_numberOfLeadingZeros_78
      have h37 := mt (nI_ltI (a := m) (b := 256) (by omega) (by decide)).mpr h37
      refine lv_iinc hx hb d_In_numberOfLeadingZeros_40 hl (k := 0) (v := (nI 23)) rfl (by decide) (by decide) rfl (fun ls hl => ?_)
      replace hl : lv_has ls 2 [(1, .int (nI 23)), (0, .int (nI m))] := hl
      refine lv_iload_n hx hb d_In_numberOfLeadingZeros_43 rfl (lv_at hl 1 rfl) ?_
      refine lv_bipush (v := 8) hx hb d_In_numberOfLeadingZeros_44 (by decide) ?_
      refine lv_iushr (v := (nI (m / 256))) hx hb d_In_numberOfLeadingZeros_46 (u_sh8 (by omega)) ?_
      refine lv_istore_n hx hb d_In_numberOfLeadingZeros_47 rfl hl (by decide) rfl (fun ls hl => ?_)
      replace hl : lv_has ls 2 [(0, .int (nI (m / 256))), (1, .int (nI 23))] := hl
      refine lv_iload_n hx hb d_In_numberOfLeadingZeros_48 rfl (lv_at hl 0 rfl) ?_
      refine lv_bipush (v := 16) hx hb d_In_numberOfLeadingZeros_49 (by decide) ?_
      refine lv_icmp_lt hx hb d_In_numberOfLeadingZeros_51 rfl (fun h51 => ?_) (fun h51 => ?_)
      · have h51 := (nI_ltI (b := 16) (by omega) (by decide)).mp h51
        refine lv_iload_n hx hb d_In_numberOfLeadingZeros_61 rfl (lv_at hl 0 rfl) ?_
        refine lv_iconst (v := 4) hx hb d_In_numberOfLeadingZeros_62 (by decide) ?_
        refine lv_icmp_lt hx hb d_In_numberOfLeadingZeros_63 rfl (fun h63 => ?_) (fun h63 => ?_)
        · have h63 := (nI_ltI (b := 4) (by omega) (by decide)).mp h63
          refine lv_iload_n hx hb d_In_numberOfLeadingZeros_73 rfl (lv_at hl 1 rfl) ?_
          refine lv_iload_n hx hb d_In_numberOfLeadingZeros_74 rfl (lv_at hl 0 rfl) ?_
          refine lv_iconst (v := 1) hx hb d_In_numberOfLeadingZeros_75 (by decide) ?_
          refine lv_iushr (v := (nI ((m / 256) / 2))) hx hb d_In_numberOfLeadingZeros_76 (u_sh1 (by omega)) ?_
          refine lv_isub hx hb d_In_numberOfLeadingZeros_77 ?_
          exact W.iret (v := ((nI 23) - (nI ((m / 256) / 2)))) hx hb hr (fun t ht hW => ⟨((nI 23) - (nI ((m / 256) / 2))), rfl, ((pk_sub (a := 23) (by omega)).trans (congrArg nI (nlz_end (s := 8) hp1 hp2 (show (m / 256) = m / 2 ^ 8 by omega) (by omega) (by omega) rfl (by decide)))), ht⟩) (fun q h => nomatch h) d_In_numberOfLeadingZeros_78
        have h63 := mt (nI_ltI (a := (m / 256)) (b := 4) (by omega) (by decide)).mpr h63
        refine lv_iinc hx hb d_In_numberOfLeadingZeros_66 hl (k := 1) (v := (nI 21)) rfl (by decide) (by decide) rfl (fun ls hl => ?_)
        replace hl : lv_has ls 2 [(1, .int (nI 21)), (0, .int (nI (m / 256)))] := hl
        refine lv_iload_n hx hb d_In_numberOfLeadingZeros_69 rfl (lv_at hl 1 rfl) ?_
        refine lv_iconst (v := 2) hx hb d_In_numberOfLeadingZeros_70 (by decide) ?_
        refine lv_iushr (v := (nI ((m / 256) / 4))) hx hb d_In_numberOfLeadingZeros_71 (u_sh2 (by omega)) ?_
        refine lv_istore_n hx hb d_In_numberOfLeadingZeros_72 rfl hl (by decide) rfl (fun ls hl => ?_)
        replace hl : lv_has ls 2 [(0, .int (nI ((m / 256) / 4))), (1, .int (nI 21))] := hl
        refine lv_iload_n hx hb d_In_numberOfLeadingZeros_73 rfl (lv_at hl 1 rfl) ?_
        refine lv_iload_n hx hb d_In_numberOfLeadingZeros_74 rfl (lv_at hl 0 rfl) ?_
        refine lv_iconst (v := 1) hx hb d_In_numberOfLeadingZeros_75 (by decide) ?_
        refine lv_iushr (v := (nI (((m / 256) / 4) / 2))) hx hb d_In_numberOfLeadingZeros_76 (u_sh1 (by omega)) ?_
        refine lv_isub hx hb d_In_numberOfLeadingZeros_77 ?_
        exact W.iret (v := ((nI 21) - (nI (((m / 256) / 4) / 2)))) hx hb hr (fun t ht hW => ⟨((nI 21) - (nI (((m / 256) / 4) / 2))), rfl, ((pk_sub (a := 21) (by omega)).trans (congrArg nI (nlz_end (s := 10) hp1 hp2 (show ((m / 256) / 4) = m / 2 ^ 10 by omega) (by omega) (by omega) rfl (by decide)))), ht⟩) (fun q h => nomatch h) d_In_numberOfLeadingZeros_78
      have h51 := mt (nI_ltI (a := (m / 256)) (b := 16) (by omega) (by decide)).mpr h51
      refine lv_iinc hx hb d_In_numberOfLeadingZeros_54 hl (k := 1) (v := (nI 19)) rfl (by decide) (by decide) rfl (fun ls hl => ?_)
      replace hl : lv_has ls 2 [(1, .int (nI 19)), (0, .int (nI (m / 256)))] := hl
      refine lv_iload_n hx hb d_In_numberOfLeadingZeros_57 rfl (lv_at hl 1 rfl) ?_
      refine lv_iconst (v := 4) hx hb d_In_numberOfLeadingZeros_58 (by decide) ?_
      refine lv_iushr (v := (nI ((m / 256) / 16))) hx hb d_In_numberOfLeadingZeros_59 (u_sh4 (by omega)) ?_
      refine lv_istore_n hx hb d_In_numberOfLeadingZeros_60 rfl hl (by decide) rfl (fun ls hl => ?_)
      replace hl : lv_has ls 2 [(0, .int (nI ((m / 256) / 16))), (1, .int (nI 19))] := hl
      refine lv_iload_n hx hb d_In_numberOfLeadingZeros_61 rfl (lv_at hl 0 rfl) ?_
      refine lv_iconst (v := 4) hx hb d_In_numberOfLeadingZeros_62 (by decide) ?_
      refine lv_icmp_lt hx hb d_In_numberOfLeadingZeros_63 rfl (fun h63 => ?_) (fun h63 => ?_)
      · have h63 := (nI_ltI (b := 4) (by omega) (by decide)).mp h63
        refine lv_iload_n hx hb d_In_numberOfLeadingZeros_73 rfl (lv_at hl 1 rfl) ?_
        refine lv_iload_n hx hb d_In_numberOfLeadingZeros_74 rfl (lv_at hl 0 rfl) ?_
        refine lv_iconst (v := 1) hx hb d_In_numberOfLeadingZeros_75 (by decide) ?_
        refine lv_iushr (v := (nI (((m / 256) / 16) / 2))) hx hb d_In_numberOfLeadingZeros_76 (u_sh1 (by omega)) ?_
        refine lv_isub hx hb d_In_numberOfLeadingZeros_77 ?_
        exact W.iret (v := ((nI 19) - (nI (((m / 256) / 16) / 2)))) hx hb hr (fun t ht hW => ⟨((nI 19) - (nI (((m / 256) / 16) / 2))), rfl, ((pk_sub (a := 19) (by omega)).trans (congrArg nI (nlz_end (s := 12) hp1 hp2 (show ((m / 256) / 16) = m / 2 ^ 12 by omega) (by omega) (by omega) rfl (by decide)))), ht⟩) (fun q h => nomatch h) d_In_numberOfLeadingZeros_78
      have h63 := mt (nI_ltI (a := ((m / 256) / 16)) (b := 4) (by omega) (by decide)).mpr h63
      refine lv_iinc hx hb d_In_numberOfLeadingZeros_66 hl (k := 1) (v := (nI 17)) rfl (by decide) (by decide) rfl (fun ls hl => ?_)
      replace hl : lv_has ls 2 [(1, .int (nI 17)), (0, .int (nI ((m / 256) / 16)))] := hl
      refine lv_iload_n hx hb d_In_numberOfLeadingZeros_69 rfl (lv_at hl 1 rfl) ?_
      refine lv_iconst (v := 2) hx hb d_In_numberOfLeadingZeros_70 (by decide) ?_
      refine lv_iushr (v := (nI (((m / 256) / 16) / 4))) hx hb d_In_numberOfLeadingZeros_71 (u_sh2 (by omega)) ?_
      refine lv_istore_n hx hb d_In_numberOfLeadingZeros_72 rfl hl (by decide) rfl (fun ls hl => ?_)
      replace hl : lv_has ls 2 [(0, .int (nI (((m / 256) / 16) / 4))), (1, .int (nI 17))] := hl
      refine lv_iload_n hx hb d_In_numberOfLeadingZeros_73 rfl (lv_at hl 1 rfl) ?_
      refine lv_iload_n hx hb d_In_numberOfLeadingZeros_74 rfl (lv_at hl 0 rfl) ?_
      refine lv_iconst (v := 1) hx hb d_In_numberOfLeadingZeros_75 (by decide) ?_
      refine lv_iushr (v := (nI ((((m / 256) / 16) / 4) / 2))) hx hb d_In_numberOfLeadingZeros_76 (u_sh1 (by omega)) ?_
      refine lv_isub hx hb d_In_numberOfLeadingZeros_77 ?_
      exact W.iret (v := ((nI 17) - (nI ((((m / 256) / 16) / 4) / 2)))) hx hb hr (fun t ht hW => ⟨((nI 17) - (nI ((((m / 256) / 16) / 4) / 2))), rfl, ((pk_sub (a := 17) (by omega)).trans (congrArg nI (nlz_end (s := 14) hp1 hp2 (show (((m / 256) / 16) / 4) = m / 2 ^ 14 by omega) (by omega) (by omega) rfl (by decide)))), ht⟩) (fun q h => nomatch h) d_In_numberOfLeadingZeros_78
    have h22 := mt (nI_ltI (a := m) (b := 65536) (by omega) (by decide)).mpr h22
    refine lv_iinc hx hb d_In_numberOfLeadingZeros_25 hl (k := 0) (v := (nI 15)) rfl (by decide) (by decide) rfl (fun ls hl => ?_)
    replace hl : lv_has ls 2 [(1, .int (nI 15)), (0, .int (nI m))] := hl
    refine lv_iload_n hx hb d_In_numberOfLeadingZeros_28 rfl (lv_at hl 1 rfl) ?_
    refine lv_bipush (v := 16) hx hb d_In_numberOfLeadingZeros_29 (by decide) ?_
    refine lv_iushr (v := (nI (m / 65536))) hx hb d_In_numberOfLeadingZeros_31 (u_sh16 (by omega)) ?_
    refine lv_istore_n hx hb d_In_numberOfLeadingZeros_32 rfl hl (by decide) rfl (fun ls hl => ?_)
    replace hl : lv_has ls 2 [(0, .int (nI (m / 65536))), (1, .int (nI 15))] := hl
    refine lv_iload_n hx hb d_In_numberOfLeadingZeros_33 rfl (lv_at hl 0 rfl) ?_
    refine lv_sipush (v := 256) hx hb d_In_numberOfLeadingZeros_34 (by decide) ?_
    refine lv_icmp_lt hx hb d_In_numberOfLeadingZeros_37 rfl (fun h37 => ?_) (fun h37 => ?_)
    · have h37 := (nI_ltI (b := 256) (by omega) (by decide)).mp h37
      refine lv_iload_n hx hb d_In_numberOfLeadingZeros_48 rfl (lv_at hl 0 rfl) ?_
      refine lv_bipush (v := 16) hx hb d_In_numberOfLeadingZeros_49 (by decide) ?_
      refine lv_icmp_lt hx hb d_In_numberOfLeadingZeros_51 rfl (fun h51 => ?_) (fun h51 => ?_)
      · have h51 := (nI_ltI (b := 16) (by omega) (by decide)).mp h51
        refine lv_iload_n hx hb d_In_numberOfLeadingZeros_61 rfl (lv_at hl 0 rfl) ?_
        refine lv_iconst (v := 4) hx hb d_In_numberOfLeadingZeros_62 (by decide) ?_
        refine lv_icmp_lt hx hb d_In_numberOfLeadingZeros_63 rfl (fun h63 => ?_) (fun h63 => ?_)
        · have h63 := (nI_ltI (b := 4) (by omega) (by decide)).mp h63
          refine lv_iload_n hx hb d_In_numberOfLeadingZeros_73 rfl (lv_at hl 1 rfl) ?_
          refine lv_iload_n hx hb d_In_numberOfLeadingZeros_74 rfl (lv_at hl 0 rfl) ?_
          refine lv_iconst (v := 1) hx hb d_In_numberOfLeadingZeros_75 (by decide) ?_
          refine lv_iushr (v := (nI ((m / 65536) / 2))) hx hb d_In_numberOfLeadingZeros_76 (u_sh1 (by omega)) ?_
          refine lv_isub hx hb d_In_numberOfLeadingZeros_77 ?_
          exact W.iret (v := ((nI 15) - (nI ((m / 65536) / 2)))) hx hb hr (fun t ht hW => ⟨((nI 15) - (nI ((m / 65536) / 2))), rfl, ((pk_sub (a := 15) (by omega)).trans (congrArg nI (nlz_end (s := 16) hp1 hp2 (show (m / 65536) = m / 2 ^ 16 by omega) (by omega) (by omega) rfl (by decide)))), ht⟩) (fun q h => nomatch h) d_In_numberOfLeadingZeros_78
        have h63 := mt (nI_ltI (a := (m / 65536)) (b := 4) (by omega) (by decide)).mpr h63
        refine lv_iinc hx hb d_In_numberOfLeadingZeros_66 hl (k := 1) (v := (nI 13)) rfl (by decide) (by decide) rfl (fun ls hl => ?_)
        replace hl : lv_has ls 2 [(1, .int (nI 13)), (0, .int (nI (m / 65536)))] := hl
        refine lv_iload_n hx hb d_In_numberOfLeadingZeros_69 rfl (lv_at hl 1 rfl) ?_
        refine lv_iconst (v := 2) hx hb d_In_numberOfLeadingZeros_70 (by decide) ?_
        refine lv_iushr (v := (nI ((m / 65536) / 4))) hx hb d_In_numberOfLeadingZeros_71 (u_sh2 (by omega)) ?_
        refine lv_istore_n hx hb d_In_numberOfLeadingZeros_72 rfl hl (by decide) rfl (fun ls hl => ?_)
        replace hl : lv_has ls 2 [(0, .int (nI ((m / 65536) / 4))), (1, .int (nI 13))] := hl
        refine lv_iload_n hx hb d_In_numberOfLeadingZeros_73 rfl (lv_at hl 1 rfl) ?_
        refine lv_iload_n hx hb d_In_numberOfLeadingZeros_74 rfl (lv_at hl 0 rfl) ?_
        refine lv_iconst (v := 1) hx hb d_In_numberOfLeadingZeros_75 (by decide) ?_
        refine lv_iushr (v := (nI (((m / 65536) / 4) / 2))) hx hb d_In_numberOfLeadingZeros_76 (u_sh1 (by omega)) ?_
        refine lv_isub hx hb d_In_numberOfLeadingZeros_77 ?_
        exact W.iret (v := ((nI 13) - (nI (((m / 65536) / 4) / 2)))) hx hb hr (fun t ht hW => ⟨((nI 13) - (nI (((m / 65536) / 4) / 2))), rfl, ((pk_sub (a := 13) (by omega)).trans (congrArg nI (nlz_end (s := 18) hp1 hp2 (show ((m / 65536) / 4) = m / 2 ^ 18 by omega) (by omega) (by omega) rfl (by decide)))), ht⟩) (fun q h => nomatch h) d_In_numberOfLeadingZeros_78
      have h51 := mt (nI_ltI (a := (m / 65536)) (b := 16) (by omega) (by decide)).mpr h51
      refine lv_iinc hx hb d_In_numberOfLeadingZeros_54 hl (k := 1) (v := (nI 11)) rfl (by decide) (by decide) rfl (fun ls hl => ?_)
      replace hl : lv_has ls 2 [(1, .int (nI 11)), (0, .int (nI (m / 65536)))] := hl
      refine lv_iload_n hx hb d_In_numberOfLeadingZeros_57 rfl (lv_at hl 1 rfl) ?_
      refine lv_iconst (v := 4) hx hb d_In_numberOfLeadingZeros_58 (by decide) ?_
      refine lv_iushr (v := (nI ((m / 65536) / 16))) hx hb d_In_numberOfLeadingZeros_59 (u_sh4 (by omega)) ?_
      refine lv_istore_n hx hb d_In_numberOfLeadingZeros_60 rfl hl (by decide) rfl (fun ls hl => ?_)
      replace hl : lv_has ls 2 [(0, .int (nI ((m / 65536) / 16))), (1, .int (nI 11))] := hl
      refine lv_iload_n hx hb d_In_numberOfLeadingZeros_61 rfl (lv_at hl 0 rfl) ?_
      refine lv_iconst (v := 4) hx hb d_In_numberOfLeadingZeros_62 (by decide) ?_
      refine lv_icmp_lt hx hb d_In_numberOfLeadingZeros_63 rfl (fun h63 => ?_) (fun h63 => ?_)
      · have h63 := (nI_ltI (b := 4) (by omega) (by decide)).mp h63
        refine lv_iload_n hx hb d_In_numberOfLeadingZeros_73 rfl (lv_at hl 1 rfl) ?_
        refine lv_iload_n hx hb d_In_numberOfLeadingZeros_74 rfl (lv_at hl 0 rfl) ?_
        refine lv_iconst (v := 1) hx hb d_In_numberOfLeadingZeros_75 (by decide) ?_
        refine lv_iushr (v := (nI (((m / 65536) / 16) / 2))) hx hb d_In_numberOfLeadingZeros_76 (u_sh1 (by omega)) ?_
        refine lv_isub hx hb d_In_numberOfLeadingZeros_77 ?_
        exact W.iret (v := ((nI 11) - (nI (((m / 65536) / 16) / 2)))) hx hb hr (fun t ht hW => ⟨((nI 11) - (nI (((m / 65536) / 16) / 2))), rfl, ((pk_sub (a := 11) (by omega)).trans (congrArg nI (nlz_end (s := 20) hp1 hp2 (show ((m / 65536) / 16) = m / 2 ^ 20 by omega) (by omega) (by omega) rfl (by decide)))), ht⟩) (fun q h => nomatch h) d_In_numberOfLeadingZeros_78
      have h63 := mt (nI_ltI (a := ((m / 65536) / 16)) (b := 4) (by omega) (by decide)).mpr h63
      refine lv_iinc hx hb d_In_numberOfLeadingZeros_66 hl (k := 1) (v := (nI 9)) rfl (by decide) (by decide) rfl (fun ls hl => ?_)
      replace hl : lv_has ls 2 [(1, .int (nI 9)), (0, .int (nI ((m / 65536) / 16)))] := hl
      refine lv_iload_n hx hb d_In_numberOfLeadingZeros_69 rfl (lv_at hl 1 rfl) ?_
      refine lv_iconst (v := 2) hx hb d_In_numberOfLeadingZeros_70 (by decide) ?_
      refine lv_iushr (v := (nI (((m / 65536) / 16) / 4))) hx hb d_In_numberOfLeadingZeros_71 (u_sh2 (by omega)) ?_
      refine lv_istore_n hx hb d_In_numberOfLeadingZeros_72 rfl hl (by decide) rfl (fun ls hl => ?_)
      replace hl : lv_has ls 2 [(0, .int (nI (((m / 65536) / 16) / 4))), (1, .int (nI 9))] := hl
      refine lv_iload_n hx hb d_In_numberOfLeadingZeros_73 rfl (lv_at hl 1 rfl) ?_
      refine lv_iload_n hx hb d_In_numberOfLeadingZeros_74 rfl (lv_at hl 0 rfl) ?_
      refine lv_iconst (v := 1) hx hb d_In_numberOfLeadingZeros_75 (by decide) ?_
      refine lv_iushr (v := (nI ((((m / 65536) / 16) / 4) / 2))) hx hb d_In_numberOfLeadingZeros_76 (u_sh1 (by omega)) ?_
      refine lv_isub hx hb d_In_numberOfLeadingZeros_77 ?_
      exact W.iret (v := ((nI 9) - (nI ((((m / 65536) / 16) / 4) / 2)))) hx hb hr (fun t ht hW => ⟨((nI 9) - (nI ((((m / 65536) / 16) / 4) / 2))), rfl, ((pk_sub (a := 9) (by omega)).trans (congrArg nI (nlz_end (s := 22) hp1 hp2 (show (((m / 65536) / 16) / 4) = m / 2 ^ 22 by omega) (by omega) (by omega) rfl (by decide)))), ht⟩) (fun q h => nomatch h) d_In_numberOfLeadingZeros_78
    have h37 := mt (nI_ltI (a := (m / 65536)) (b := 256) (by omega) (by decide)).mpr h37
    refine lv_iinc hx hb d_In_numberOfLeadingZeros_40 hl (k := 1) (v := (nI 7)) rfl (by decide) (by decide) rfl (fun ls hl => ?_)
    replace hl : lv_has ls 2 [(1, .int (nI 7)), (0, .int (nI (m / 65536)))] := hl
    refine lv_iload_n hx hb d_In_numberOfLeadingZeros_43 rfl (lv_at hl 1 rfl) ?_
    refine lv_bipush (v := 8) hx hb d_In_numberOfLeadingZeros_44 (by decide) ?_
    refine lv_iushr (v := (nI ((m / 65536) / 256))) hx hb d_In_numberOfLeadingZeros_46 (u_sh8 (by omega)) ?_
    refine lv_istore_n hx hb d_In_numberOfLeadingZeros_47 rfl hl (by decide) rfl (fun ls hl => ?_)
    replace hl : lv_has ls 2 [(0, .int (nI ((m / 65536) / 256))), (1, .int (nI 7))] := hl
    refine lv_iload_n hx hb d_In_numberOfLeadingZeros_48 rfl (lv_at hl 0 rfl) ?_
    refine lv_bipush (v := 16) hx hb d_In_numberOfLeadingZeros_49 (by decide) ?_
    refine lv_icmp_lt hx hb d_In_numberOfLeadingZeros_51 rfl (fun h51 => ?_) (fun h51 => ?_)
    · have h51 := (nI_ltI (b := 16) (by omega) (by decide)).mp h51
      refine lv_iload_n hx hb d_In_numberOfLeadingZeros_61 rfl (lv_at hl 0 rfl) ?_
      refine lv_iconst (v := 4) hx hb d_In_numberOfLeadingZeros_62 (by decide) ?_
      refine lv_icmp_lt hx hb d_In_numberOfLeadingZeros_63 rfl (fun h63 => ?_) (fun h63 => ?_)
      · have h63 := (nI_ltI (b := 4) (by omega) (by decide)).mp h63
        refine lv_iload_n hx hb d_In_numberOfLeadingZeros_73 rfl (lv_at hl 1 rfl) ?_
        refine lv_iload_n hx hb d_In_numberOfLeadingZeros_74 rfl (lv_at hl 0 rfl) ?_
        refine lv_iconst (v := 1) hx hb d_In_numberOfLeadingZeros_75 (by decide) ?_
        refine lv_iushr (v := (nI (((m / 65536) / 256) / 2))) hx hb d_In_numberOfLeadingZeros_76 (u_sh1 (by omega)) ?_
        refine lv_isub hx hb d_In_numberOfLeadingZeros_77 ?_
        exact W.iret (v := ((nI 7) - (nI (((m / 65536) / 256) / 2)))) hx hb hr (fun t ht hW => ⟨((nI 7) - (nI (((m / 65536) / 256) / 2))), rfl, ((pk_sub (a := 7) (by omega)).trans (congrArg nI (nlz_end (s := 24) hp1 hp2 (show ((m / 65536) / 256) = m / 2 ^ 24 by omega) (by omega) (by omega) rfl (by decide)))), ht⟩) (fun q h => nomatch h) d_In_numberOfLeadingZeros_78
      have h63 := mt (nI_ltI (a := ((m / 65536) / 256)) (b := 4) (by omega) (by decide)).mpr h63
      refine lv_iinc hx hb d_In_numberOfLeadingZeros_66 hl (k := 1) (v := (nI 5)) rfl (by decide) (by decide) rfl (fun ls hl => ?_)
      replace hl : lv_has ls 2 [(1, .int (nI 5)), (0, .int (nI ((m / 65536) / 256)))] := hl
      refine lv_iload_n hx hb d_In_numberOfLeadingZeros_69 rfl (lv_at hl 1 rfl) ?_
      refine lv_iconst (v := 2) hx hb d_In_numberOfLeadingZeros_70 (by decide) ?_
      refine lv_iushr (v := (nI (((m / 65536) / 256) / 4))) hx hb d_In_numberOfLeadingZeros_71 (u_sh2 (by omega)) ?_
      refine lv_istore_n hx hb d_In_numberOfLeadingZeros_72 rfl hl (by decide) rfl (fun ls hl => ?_)
      replace hl : lv_has ls 2 [(0, .int (nI (((m / 65536) / 256) / 4))), (1, .int (nI 5))] := hl
      refine lv_iload_n hx hb d_In_numberOfLeadingZeros_73 rfl (lv_at hl 1 rfl) ?_
      refine lv_iload_n hx hb d_In_numberOfLeadingZeros_74 rfl (lv_at hl 0 rfl) ?_
      refine lv_iconst (v := 1) hx hb d_In_numberOfLeadingZeros_75 (by decide) ?_
      refine lv_iushr (v := (nI ((((m / 65536) / 256) / 4) / 2))) hx hb d_In_numberOfLeadingZeros_76 (u_sh1 (by omega)) ?_
      refine lv_isub hx hb d_In_numberOfLeadingZeros_77 ?_
      exact W.iret (v := ((nI 5) - (nI ((((m / 65536) / 256) / 4) / 2)))) hx hb hr (fun t ht hW => ⟨((nI 5) - (nI ((((m / 65536) / 256) / 4) / 2))), rfl, ((pk_sub (a := 5) (by omega)).trans (congrArg nI (nlz_end (s := 26) hp1 hp2 (show (((m / 65536) / 256) / 4) = m / 2 ^ 26 by omega) (by omega) (by omega) rfl (by decide)))), ht⟩) (fun q h => nomatch h) d_In_numberOfLeadingZeros_78
    have h51 := mt (nI_ltI (a := ((m / 65536) / 256)) (b := 16) (by omega) (by decide)).mpr h51
    refine lv_iinc hx hb d_In_numberOfLeadingZeros_54 hl (k := 1) (v := (nI 3)) rfl (by decide) (by decide) rfl (fun ls hl => ?_)
    replace hl : lv_has ls 2 [(1, .int (nI 3)), (0, .int (nI ((m / 65536) / 256)))] := hl
    refine lv_iload_n hx hb d_In_numberOfLeadingZeros_57 rfl (lv_at hl 1 rfl) ?_
    refine lv_iconst (v := 4) hx hb d_In_numberOfLeadingZeros_58 (by decide) ?_
    refine lv_iushr (v := (nI (((m / 65536) / 256) / 16))) hx hb d_In_numberOfLeadingZeros_59 (u_sh4 (by omega)) ?_
    refine lv_istore_n hx hb d_In_numberOfLeadingZeros_60 rfl hl (by decide) rfl (fun ls hl => ?_)
    replace hl : lv_has ls 2 [(0, .int (nI (((m / 65536) / 256) / 16))), (1, .int (nI 3))] := hl
    refine lv_iload_n hx hb d_In_numberOfLeadingZeros_61 rfl (lv_at hl 0 rfl) ?_
    refine lv_iconst (v := 4) hx hb d_In_numberOfLeadingZeros_62 (by decide) ?_
    refine lv_icmp_lt hx hb d_In_numberOfLeadingZeros_63 rfl (fun h63 => ?_) (fun h63 => ?_)
    · have h63 := (nI_ltI (b := 4) (by omega) (by decide)).mp h63
      refine lv_iload_n hx hb d_In_numberOfLeadingZeros_73 rfl (lv_at hl 1 rfl) ?_
      refine lv_iload_n hx hb d_In_numberOfLeadingZeros_74 rfl (lv_at hl 0 rfl) ?_
      refine lv_iconst (v := 1) hx hb d_In_numberOfLeadingZeros_75 (by decide) ?_
      refine lv_iushr (v := (nI ((((m / 65536) / 256) / 16) / 2))) hx hb d_In_numberOfLeadingZeros_76 (u_sh1 (by omega)) ?_
      refine lv_isub hx hb d_In_numberOfLeadingZeros_77 ?_
      exact W.iret (v := ((nI 3) - (nI ((((m / 65536) / 256) / 16) / 2)))) hx hb hr (fun t ht hW => ⟨((nI 3) - (nI ((((m / 65536) / 256) / 16) / 2))), rfl, ((pk_sub (a := 3) (by omega)).trans (congrArg nI (nlz_end (s := 28) hp1 hp2 (show (((m / 65536) / 256) / 16) = m / 2 ^ 28 by omega) (by omega) (by omega) rfl (by decide)))), ht⟩) (fun q h => nomatch h) d_In_numberOfLeadingZeros_78
    have h63 := mt (nI_ltI (a := (((m / 65536) / 256) / 16)) (b := 4) (by omega) (by decide)).mpr h63
    refine lv_iinc hx hb d_In_numberOfLeadingZeros_66 hl (k := 1) (v := (nI 1)) rfl (by decide) (by decide) rfl (fun ls hl => ?_)
    replace hl : lv_has ls 2 [(1, .int (nI 1)), (0, .int (nI (((m / 65536) / 256) / 16)))] := hl
    refine lv_iload_n hx hb d_In_numberOfLeadingZeros_69 rfl (lv_at hl 1 rfl) ?_
    refine lv_iconst (v := 2) hx hb d_In_numberOfLeadingZeros_70 (by decide) ?_
    refine lv_iushr (v := (nI ((((m / 65536) / 256) / 16) / 4))) hx hb d_In_numberOfLeadingZeros_71 (u_sh2 (by omega)) ?_
    refine lv_istore_n hx hb d_In_numberOfLeadingZeros_72 rfl hl (by decide) rfl (fun ls hl => ?_)
    replace hl : lv_has ls 2 [(0, .int (nI ((((m / 65536) / 256) / 16) / 4))), (1, .int (nI 1))] := hl
    refine lv_iload_n hx hb d_In_numberOfLeadingZeros_73 rfl (lv_at hl 1 rfl) ?_
    refine lv_iload_n hx hb d_In_numberOfLeadingZeros_74 rfl (lv_at hl 0 rfl) ?_
    refine lv_iconst (v := 1) hx hb d_In_numberOfLeadingZeros_75 (by decide) ?_
    refine lv_iushr (v := (nI (((((m / 65536) / 256) / 16) / 4) / 2))) hx hb d_In_numberOfLeadingZeros_76 (u_sh1 (by omega)) ?_
    refine lv_isub hx hb d_In_numberOfLeadingZeros_77 ?_
    exact W.iret (v := ((nI 1) - (nI (((((m / 65536) / 256) / 16) / 4) / 2)))) hx hb hr (fun t ht hW => ⟨((nI 1) - (nI (((((m / 65536) / 256) / 16) / 4) / 2))), rfl, ((pk_sub (a := 1) (by omega)).trans (congrArg nI (nlz_end (s := 30) hp1 hp2 (show ((((m / 65536) / 256) / 16) / 4) = m / 2 ^ 30 by omega) (by omega) (by omega) rfl (by decide)))), ht⟩) (fun q h => nomatch h) d_In_numberOfLeadingZeros_78
  have h1 := mt (k_lt' (a := 0) (by decide) hm).mpr h1
  refine lv_iload_n hx hb d_In_numberOfLeadingZeros_4 rfl (lv_at hl 0 rfl) ?_
  refine lv_if_ne hx hb d_In_numberOfLeadingZeros_5 rfl (fun h5 => ?_) (fun h9 => absurd ((k_eq (b := 0) hm (by decide)).mp h9) (by omega))
  refine lv_iconst (v := 0) hx hb d_In_numberOfLeadingZeros_13 (by decide) ?_
  exact W.iret (v := 0) hx hb hr (fun t ht hW => ⟨0, rfl, (by rw [show k = 31 by have := pw (a := 31) (by omega) hp2; have := pw (b := 31) hp1 (by omega); omega]; rfl), ht⟩) (fun q h => nomatch h) d_In_numberOfLeadingZeros_14
set_option maxHeartbeats 4000000 in
set_option maxRecDepth 100000 in
theorem c_Lo_numberOfLeadingZeros (l : Launch) (dC : Nat → ClassId) (dI : Nat → Nat → Nat) {tys : List (ClassId × FieldType)} {ws : va_W} (w k : Nat) (hw : w ≤ 4294967296) (hw0 : 1 ≤ w) (hp1 : 2 ^ k ≤ w) (hp2 : w < 2 ^ (k + 1)) : Met l y_Lo_numberOfLeadingZeros (.code y_Lo_numberOfLeadingZeros b_Lo_numberOfLeadingZeros 3 (some .int) :: wG) ({ frames := 1, cells := 0, slots := 0, locals := 21 }) (PcS (dC, dI) tys ws [.long (lN w)]) (vp_Si (fun r9 => r9 = nI (63 - k))) 0 0 (fun _ => False) := by
  refine Met.ofW (cc := b_Lo_numberOfLeadingZeros) (maxL := 3) (ret := (some .int)) (by decide) rfl ?_
  intro pg eg s mg ag bg meth cg s₁ B hml hv
  obtain ⟨rfl, hP, hK, hN⟩ := hv
  have hx := B.exec
  have hb := B.bytes
  have hr := B.returns
  have hlocks := B.notSynchronized
  have hts : ∀ w9 ∈ wG, w9.before ([.long (lN w)] : List Value).toArray s = true := fun w9 h9 => atoms_spec (ws := (.code y_Lo_numberOfLeadingZeros b_Lo_numberOfLeadingZeros 3 (some .int) :: wG)) B.pre w9 (List.mem_cons_of_mem _ h9)
  have hown : s.vm.findClass "java/lang/Long" = some mg.cls := findClass_of_methodNamed B.named
  have hP : va_P (dC, dI) classes ws s.heap := hP
  have hl := lv_entry ([.long (lN w)]) (n := 3) (Nat.le_of_ble_eq_true rfl)
  rw [lg_entry_eq]
  generalize (lg_sl ([.long (lN w)]) ++ List.replicate (3 - (lg_sl ([.long (lN w)])).length) Slot.unset).toArray = ls at hl ⊢
  replace hl : lv_has ls 3 [(0, .long (lN w))] := hl
  refine lv_lload_n hx hb d_Lo_numberOfLeadingZeros_0 rfl (lv_at hl 0 rfl) ?_
  refine lv_bipush (v := 32) hx hb d_Lo_numberOfLeadingZeros_1 (by decide) ?_
  refine lv_lushr (v := (lN (w / 4294967296))) hx hb d_Lo_numberOfLeadingZeros_3 (u_sh32 (by omega)) ?_
  refine lv_l2i hx hb d_Lo_numberOfLeadingZeros_4 rfl ?_
  refine x_topi (y := (nI (w / 4294967296))) (lN_i _) ?_
  refine lv_istore_n hx hb d_Lo_numberOfLeadingZeros_5 rfl hl (by decide) rfl (fun ls hl => ?_)
  replace hl : lv_has ls 3 [(2, .int (nI (w / 4294967296))), (0, .long (lN w))] := hl
  refine lv_iload_n hx hb d_Lo_numberOfLeadingZeros_6 rfl (lv_at hl 0 rfl) ?_
  refine lv_if_ne hx hb d_Lo_numberOfLeadingZeros_7 rfl (fun h7 => ?_) (fun h7 => ?_)
  · have h7 := mt (k_eq (b := 0) (by omega) (by decide)).mpr h7
    refine lv_iload_n hx hb d_Lo_numberOfLeadingZeros_21 rfl (lv_at hl 0 rfl) ?_
    refine vp_callSi (W.runS (As := [.int (nI (w / 4294967296))]) (rest := []) ⟨hx, hb, hml, hown, hts⟩ (c_In_numberOfLeadingZeros l dC dI (w / 4294967296) 0 (by omega) (by omega) (by omega) (by omega)) (va_cwS 1 hts (x_gS kw_382 kw_383 kw_14 kw_384) rfl rfl rfl (by decide +kernel) ⟨Nat.le_of_ble_eq_true rfl, Nat.le_of_ble_eq_true rfl⟩) ⟨PcS.blind, PcS.use hP hK hN⟩ rfl rfl hl.1 rfl (lv_room (Nat.le_of_ble_eq_true rfl)) d_Lo_numberOfLeadingZeros_22 ⟨Nat.zero_le _, Nat.zero_le _⟩) (fun r22 hr22 => ?_)
    obtain rfl : r22 = (nI (31 - 0)) := hr22
    exact W.iret (v := (nI (31 - 0))) hx hb hr (fun t ht hW => ⟨(nI (31 - 0)), rfl, (by rw [show k = 32 by have := pw (a := 32) (by omega) hp2; have := pw (b := 32) hp1 (by omega); omega]), ht⟩) (fun q h => nomatch h) d_Lo_numberOfLeadingZeros_25
  have h7 := (k_eq (b := 0) (by omega) (by decide)).mp h7
  refine lv_bipush (v := 32) hx hb d_Lo_numberOfLeadingZeros_10 (by decide) ?_
  refine lv_lload_n hx hb d_Lo_numberOfLeadingZeros_12 rfl (lv_at hl 1 rfl) ?_
  refine lv_l2i hx hb d_Lo_numberOfLeadingZeros_13 rfl ?_
  refine x_topi (y := (nI w)) (lN_i _) ?_
  refine vp_callSi (W.runS (As := [.int (nI w)]) (rest := [.int 32]) ⟨hx, hb, hml, hown, hts⟩ (c_In_numberOfLeadingZeros l dC dI w k (by omega) hw0 hp1 hp2) (va_cwS 1 hts (x_gS kw_382 kw_383 kw_14 kw_384) rfl rfl rfl (by decide +kernel) ⟨Nat.le_of_ble_eq_true rfl, Nat.le_of_ble_eq_true rfl⟩) ⟨PcS.blind, PcS.use hP hK hN⟩ rfl rfl hl.1 rfl (lv_room (Nat.le_of_ble_eq_true rfl)) d_Lo_numberOfLeadingZeros_14 ⟨Nat.zero_le _, Nat.zero_le _⟩) (fun r14 hr14 => ?_)
  obtain rfl : r14 = (nI (31 - k)) := hr14
  refine lv_iadd hx hb d_Lo_numberOfLeadingZeros_17 ?_
  refine lv_goto hx hb d_Lo_numberOfLeadingZeros_18 rfl ?_
  exact W.iret (v := (32 + (nI (31 - k)))) hx hb hr (fun t ht hW => ⟨(32 + (nI (31 - k))), rfl, ((nI_add 32 _).trans (congrArg nI (by have := pw (b := 31) hp1 (by omega); omega))), ht⟩) (fun q h => nomatch h) d_Lo_numberOfLeadingZeros_25
