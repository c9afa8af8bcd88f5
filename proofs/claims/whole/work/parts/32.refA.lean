/-! the reference's object -/
abbrev MS : Type := (Nat → Nat → Nat) × (Nat → Option Nat) × (Nat → Nat → Int32) × Nat × Nat × Int64 × Int32
abbrev MS.mn (V : MS) : Nat → Nat := V.1 0
abbrev MS.pre (V : MS) : Nat → Nat := V.1 1
abbrev MS.len (V : MS) : Nat → Nat := V.1 2
abbrev MS.lev (V : MS) : Nat → Nat := V.1 3
abbrev MS.hol (V : MS) : Nat → Nat := V.1 4
abbrev MS.sta (V : MS) : Nat → Nat := V.1 5
abbrev MS.en (V : MS) : Nat → Nat := V.1 6
abbrev MS.tdy (V : MS) : Nat → Nat := V.1 7
abbrev MS.dys (V : MS) : Nat → Nat := V.1 8
abbrev MS.pol (V : MS) : Nat → Nat := V.1 9
abbrev MS.par (V : MS) : Nat → Option Nat := V.2.1
abbrev MS.kd (V : MS) : Nat → Int32 := V.2.2.1 0
abbrev MS.fi (V : MS) : Nat → Int32 := V.2.2.1 1
abbrev MS.se (V : MS) : Nat → Int32 := V.2.2.1 2
abbrev MS.th (V : MS) : Nat → Int32 := V.2.2.1 3
abbrev MS.ne (V : MS) : Nat := V.2.2.2.1
abbrev MS.tc (V : MS) : Nat := V.2.2.2.2.1
abbrev MS.fo (V : MS) : Int64 := V.2.2.2.2.2.1
abbrev MS.fl (V : MS) : Int32 := V.2.2.2.2.2.2
def MSok (V : MS) : Prop := V.ne ≤ 300 ∧ ∀ j, V.mn j ≤ 200 ∧ V.pre j < 4294967296 ∧ V.len j < 33 ∧ V.lev j < 5 ∧ V.hol j < 10000 ∧ V.sta j < 5 ∧ V.en j < 200000 ∧ V.tdy j ≤ 100000 ∧ V.dys j ≤ 1000 ∧ V.pol j ≤ 1000 ∧ ∀ k, V.par j = some k → k < 400
theorem MSok.ne {V : MS} (h : MSok V) : V.ne ≤ 300 := h.1
theorem MSok.mn {V : MS} (h : MSok V) (j : Nat) : V.mn j ≤ 200 := (h.2 j).1
theorem MSok.pre {V : MS} (h : MSok V) (j : Nat) : V.pre j < 4294967296 := (h.2 j).2.1
theorem MSok.len {V : MS} (h : MSok V) (j : Nat) : V.len j < 33 := (h.2 j).2.2.1
theorem MSok.lev {V : MS} (h : MSok V) (j : Nat) : V.lev j < 5 := (h.2 j).2.2.2.1
theorem MSok.hol {V : MS} (h : MSok V) (j : Nat) : V.hol j < 10000 := (h.2 j).2.2.2.2.1
theorem MSok.sta {V : MS} (h : MSok V) (j : Nat) : V.sta j < 5 := (h.2 j).2.2.2.2.2.1
theorem MSok.en {V : MS} (h : MSok V) (j : Nat) : V.en j < 200000 := (h.2 j).2.2.2.2.2.2.1
theorem MSok.tdy {V : MS} (h : MSok V) (j : Nat) : V.tdy j ≤ 100000 := (h.2 j).2.2.2.2.2.2.2.1
theorem MSok.dys {V : MS} (h : MSok V) (j : Nat) : V.dys j ≤ 1000 := (h.2 j).2.2.2.2.2.2.2.2.1
theorem MSok.pol {V : MS} (h : MSok V) (j : Nat) : V.pol j ≤ 1000 := (h.2 j).2.2.2.2.2.2.2.2.2.1
theorem MSok.par {V : MS} (h : MSok V) {j k : Nat} (q : V.par j = some k) : k < 400 := (h.2 j).2.2.2.2.2.2.2.2.2.2 k q
abbrev wMo (cI : ClassId) (o : Nat) (a : Nat → Nat) (V : MS) : va_W := [(o, .inr (5, [.int (nI V.tc), .ref (a 0), .ref (a 1), .ref (a 2), .ref (a 3), .ref (a 4), .ref (a 5), .ref (a 6), .ref (a 7), .ref (a 8), .ref (a 9), .ref (a 10), .int (nI V.ne), .ref (a 11), .ref (a 12), .ref (a 13), .ref (a 14), .long V.fo, .int V.fl])), ((a 0), .inl (cI, 2, .inl (fun z9 => nI (V.mn z9)))), ((a 1), .inl (cI, 400, .inl (fun z9 => nI (V.pre z9)))), ((a 2), .inl (cI, 400, .inl (fun z9 => nI (V.len z9)))), ((a 3), .inl (cI, 400, .inl (fun z9 => pI (V.par z9)))), ((a 4), .inl (cI, 400, .inl (fun z9 => nI (V.lev z9)))), ((a 5), .inl (cI, 400, .inl (fun z9 => nI (V.hol z9)))), ((a 6), .inl (cI, 400, .inl (fun z9 => nI (V.sta z9)))), ((a 7), .inl (cI, 400, .inl (fun z9 => nI (V.en z9)))), ((a 8), .inl (cI, 2, .inl (fun z9 => nI (V.tdy z9)))), ((a 9), .inl (cI, 2, .inl (fun z9 => nI (V.dys z9)))), ((a 10), .inl (cI, 8, .inl (fun z9 => nI (V.pol z9)))), ((a 11), .inl (cI, 300, .inl V.kd)), ((a 12), .inl (cI, 300, .inl V.fi)), ((a 13), .inl (cI, 300, .inl V.se)), ((a 14), .inl (cI, 300, .inl V.th))]
def mskN (n : Nat) : Nat := 4294967296 - 2 ^ (32 - n)
theorem k_mask : ∀ n, n < 33 → ¬ n = 0 → (-1 : Int32) <<< (((32 : Int32) - nI n) &&& 31) = nI (mskN n) := by decide +kernel
theorem k_sib : ∀ n, n < 33 → 1 ≤ n → (1 : Int32) <<< (((32 : Int32) - nI n) &&& 31) = nI (2 ^ (32 - n)) := by decide +kernel
theorem k_cl4m : ∀ n, n < 33 → (nI n + 3) / 4 * 4 = nI (cl4 n) := by decide +kernel
theorem k_d200 : ∀ d, d < 2 → nI (200 * d) / 200 = nI d := by decide +kernel
/-- the first bits of the shorter of two prefixes are the same -/
abbrev mtM (p n q k : Nat) : Prop := p / 2 ^ (32 - min n k) = q / 2 ^ (32 - min n k)
theorem msk_bit {n i : Nat} (hn : n ≤ 32) : (mskN n).testBit i = (decide (32 - n ≤ i) && decide (i < 32)) := by
  have e : mskN n = 2 ^ (32 - n) * (2 ^ n - 1) := by
    unfold mskN
    rw [Nat.mul_sub, ← Nat.pow_add, Nat.mul_one, show 32 - n + n = 32 by omega]
  rw [e, Nat.testBit_two_pow_mul, Nat.testBit_two_pow_sub_one]
  by_cases h : 32 - n ≤ i
  · simp only [h, decide_true, Bool.true_and, decide_eq_decide]; omega
  · simp [h]
theorem msk_iff {p q n : Nat} (hp : p < 4294967296) (hq : q < 4294967296) (hn : n ≤ 32) : (p ^^^ q) &&& mskN n = 0 ↔ p / 2 ^ (32 - n) = q / 2 ^ (32 - n) := by
  constructor
  · intro h
    apply Nat.eq_of_testBit_eq
    intro i
    rw [Nat.testBit_div_two_pow, Nat.testBit_div_two_pow]
    have h1 := congrArg (fun z => z.testBit (i + (32 - n))) h
    simp only [Nat.testBit_and, Nat.testBit_xor, Nat.zero_testBit, msk_bit hn] at h1
    by_cases h2 : i + (32 - n) < 32
    · simp only [h2, decide_true, Bool.and_true, show 32 - n ≤ i + (32 - n) by omega] at h1
      revert h1
      cases p.testBit (i + (32 - n)) <;> cases q.testBit (i + (32 - n)) <;> simp
    · have e : 2 ^ 32 ≤ 2 ^ (i + (32 - n)) := Nat.pow_le_pow_right (by decide) (by omega)
      rw [Nat.testBit_lt_two_pow (Nat.lt_of_lt_of_le hp e), Nat.testBit_lt_two_pow (Nat.lt_of_lt_of_le hq e)]
  · intro h
    apply Nat.eq_of_testBit_eq
    intro i
    rw [Nat.testBit_and, Nat.testBit_xor, msk_bit hn, Nat.zero_testBit]
    by_cases h2 : 32 - n ≤ i
    · have h1 := congrArg (fun z => z.testBit (i - (32 - n))) h
      simp only [Nat.testBit_div_two_pow, show i - (32 - n) + (32 - n) = i by omega] at h1
      rw [h1]; simp
    · simp [h2]
theorem pI_eq {o : Option Nat} {r : Nat} (h : ∀ j, o = some j → j < 4294967295) (hr : r < 2147483648) : pI o = nI r ↔ o = some r := by
  cases o with
  | none =>
    simp only [pI, reduceCtorEq, iff_false]
    rw [k_m1, k_eq (by decide) (by omega)]; omega
  | some j =>
    have := h j rfl
    simp only [pI, Option.some.injEq]
    exact k_eq (by omega) (by omega)
def sbN (r : Nat) : Nat := if r < 200 then 0 else 200
def ebN (V : MS) (r : Nat) : Nat := if r < 200 then V.mn 0 else 200 + V.mn 1
theorem isr_bi {V : MS} (hV : MSok V) {d x : Nat} (hd : d < 2) (hx : x < 4294967296) : bi (decide ((0 : Int32) ≤ nI x ∧ nI x ≤ nI (V.mn d) - 1)) = bi (decide (x < V.mn d)) := by
  have hm := hV.mn d
  have e : ((0 : Int32) ≤ nI x ∧ nI x ≤ nI (V.mn d) - 1) ↔ x < V.mn d := by
    rw [k_0le hx]
    by_cases h0 : V.mn d = 0
    · rw [h0, show nI 0 - 1 = (-1 : Int32) by decide, Int32.le_iff_toInt_le, k_toInt hx, show (-1 : Int32).toInt = -1 from rfl]
      constructor
      · rintro ⟨h1, h2⟩; rw [if_pos h1] at h2; omega
      · intro h; omega
    · rw [show nI (V.mn d) - 1 = nI (V.mn d - 1) from pk_sub (b := 1) (by omega), k_le hx (by omega)]
      omega
  simp only [e]
set_option maxHeartbeats 4000000 in
set_option maxRecDepth 100000 in
theorem c_Mo_in (l : Launch) (dC : Nat → ClassId) (dI : Nat → Nat → Nat) {tys : List (ClassId × FieldType)} {ws : va_W} (x y z : Int32) : Met l y_Mo_in (.code y_Mo_in b_Mo_in 3 (some .boolean) :: wG) ({ frames := 0, cells := 0, slots := 0, locals := 0 }) (PcS (dC, dI) tys ws [.int x, .int y, .int z]) (vp_Si (fun r9 => r9 = bi (decide (y ≤ x ∧ x ≤ z)))) 0 0 (fun _ => False) := by
  refine Met.ofW (cc := b_Mo_in) (maxL := 3) (ret := (some .boolean)) (by decide) rfl ?_
  intro pg eg s mg ag bg meth cg s₁ B hml hv
  obtain ⟨rfl, hP, hK, hN⟩ := hv
  have hx := B.exec
  have hb := B.bytes
  have hr := B.returns
  have hlocks := B.notSynchronized
  have hts : ∀ w9 ∈ wG, w9.before ([.int x, .int y, .int z] : List Value).toArray s = true := fun w9 h9 => atoms_spec (ws := (.code y_Mo_in b_Mo_in 3 (some .boolean) :: wG)) B.pre w9 (List.mem_cons_of_mem _ h9)
  have hown : s.vm.findClass "PrefixRegistryModel" = some mg.cls := findClass_of_methodNamed B.named
  have hP : va_P (dC, dI) classes ws s.heap := hP
  have hl := lv_entry ([.int x, .int y, .int z]) (n := 3) (Nat.le_of_ble_eq_true rfl)
  rw [lg_entry_eq]
  generalize (lg_sl ([.int x, .int y, .int z]) ++ List.replicate (3 - (lg_sl ([.int x, .int y, .int z])).length) Slot.unset).toArray = ls at hl ⊢
  replace hl : lv_has ls 3 [(0, .int x), (1, .int y), (2, .int z)] := hl
  refine lv_iload_n hx hb d_Mo_in_0 rfl (lv_at hl 0 rfl) ?_
  refine lv_iload_n hx hb d_Mo_in_1 rfl (lv_at hl 1 rfl) ?_
  refine lv_icmp_lt hx hb d_Mo_in_2 rfl (fun h2 => ?_) (fun h2 => ?_)
  · refine lv_iconst (v := 0) hx hb d_Mo_in_14 (by decide) ?_
    exact W.zret (v := 0) hx hb hr (by decide) (fun t ht hW => ⟨0, rfl, (bF (by first | exact ⟨Int32.not_lt.mp h2, Int32.not_lt.mp h7⟩ | (intro q; first | exact absurd h2 (Int32.not_lt.mpr q.1) | exact absurd h7 (Int32.not_lt.mpr q.2)))), ht⟩) (fun q h => nomatch h) d_Mo_in_15
  refine lv_iload_n hx hb d_Mo_in_5 rfl (lv_at hl 0 rfl) ?_
  refine lv_iload_n hx hb d_Mo_in_6 rfl (lv_at hl 2 rfl) ?_
  refine lv_icmp_gt hx hb d_Mo_in_7 rfl (fun h7 => ?_) (fun h7 => ?_)
  · refine lv_iconst (v := 0) hx hb d_Mo_in_14 (by decide) ?_
    exact W.zret (v := 0) hx hb hr (by decide) (fun t ht hW => ⟨0, rfl, (bF (by first | exact ⟨Int32.not_lt.mp h2, Int32.not_lt.mp h7⟩ | (intro q; first | exact absurd h2 (Int32.not_lt.mpr q.1) | exact absurd h7 (Int32.not_lt.mpr q.2)))), ht⟩) (fun q h => nomatch h) d_Mo_in_15
  refine lv_iconst (v := 1) hx hb d_Mo_in_10 (by decide) ?_
  refine lv_goto hx hb d_Mo_in_11 rfl ?_
  exact W.zret (v := 1) hx hb hr (by decide) (fun t ht hW => ⟨1, rfl, (bT (by first | exact ⟨Int32.not_lt.mp h2, Int32.not_lt.mp h7⟩ | (intro q; first | exact absurd h2 (Int32.not_lt.mpr q.1) | exact absurd h7 (Int32.not_lt.mpr q.2)))), ht⟩) (fun q h => nomatch h) d_Mo_in_15
set_option maxHeartbeats 4000000 in
set_option maxRecDepth 100000 in
theorem c_Mo_mask (l : Launch) (dC : Nat → ClassId) (dI : Nat → Nat → Nat) {tys : List (ClassId × FieldType)} {ws : va_W} (n : Nat) (hn : n < 33) : Met l y_Mo_mask (.code y_Mo_mask b_Mo_mask 1 (some .int) :: wG) ({ frames := 0, cells := 0, slots := 0, locals := 0 }) (PcS (dC, dI) tys ws [.int (nI n)]) (vp_Si (fun r9 => r9 = nI (mskN n))) 0 0 (fun _ => False) := by
  refine Met.ofW (cc := b_Mo_mask) (maxL := 1) (ret := (some .int)) (by decide) rfl ?_
  intro pg eg s mg ag bg meth cg s₁ B hml hv
  obtain ⟨rfl, hP, hK, hN⟩ := hv
  have hx := B.exec
  have hb := B.bytes
  have hr := B.returns
  have hlocks := B.notSynchronized
  have hts : ∀ w9 ∈ wG, w9.before ([.int (nI n)] : List Value).toArray s = true := fun w9 h9 => atoms_spec (ws := (.code y_Mo_mask b_Mo_mask 1 (some .int) :: wG)) B.pre w9 (List.mem_cons_of_mem _ h9)
  have hown : s.vm.findClass "PrefixRegistryModel" = some mg.cls := findClass_of_methodNamed B.named
  have hP : va_P (dC, dI) classes ws s.heap := hP
  have hl := lv_entry ([.int (nI n)]) (n := 1) (Nat.le_of_ble_eq_true rfl)
  rw [lg_entry_eq]
  generalize (lg_sl ([.int (nI n)]) ++ List.replicate (1 - (lg_sl ([.int (nI n)])).length) Slot.unset).toArray = ls at hl ⊢
  replace hl : lv_has ls 1 [(0, .int (nI n))] := hl
  refine lv_iload_n hx hb d_Mo_mask_0 rfl (lv_at hl 0 rfl) ?_
  refine lv_if_ne hx hb d_Mo_mask_1 rfl (fun h1 => ?_) (fun h1 => ?_)
  · have h1 := mt (k_eq (b := 0) (by omega) (by decide)).mpr h1
    refine lv_iconst (v := (-1)) hx hb d_Mo_mask_8 (by decide) ?_
    refine lv_bipush (v := 32) hx hb d_Mo_mask_9 (by decide) ?_
    refine lv_iload_n hx hb d_Mo_mask_11 rfl (lv_at hl 0 rfl) ?_
    refine lv_isub hx hb d_Mo_mask_12 ?_
    refine lv_ishl hx hb d_Mo_mask_13 ?_
    exact W.iret (v := ((-1) <<< ((32 - nI n) &&& 31))) hx hb hr (fun t ht hW => ⟨((-1) <<< ((32 - nI n) &&& 31)), rfl, (k_mask n hn h1), ht⟩) (fun q h => nomatch h) d_Mo_mask_14
  have h1 := (k_eq (b := 0) (by omega) (by decide)).mp h1
  refine lv_iconst (v := 0) hx hb d_Mo_mask_4 (by decide) ?_
  refine lv_goto hx hb d_Mo_mask_5 rfl ?_
  exact W.iret (v := 0) hx hb hr (fun t ht hW => ⟨0, rfl, (by subst h1; rfl), ht⟩) (fun q h => nomatch h) d_Mo_mask_14
set_option maxHeartbeats 4000000 in
set_option maxRecDepth 100000 in
theorem c_Mo_sizeOf (l : Launch) (dC : Nat → ClassId) (dI : Nat → Nat → Nat) {tys : List (ClassId × FieldType)} {ws : va_W} (n : Nat) (hn : n < 33) : Met l y_Mo_sizeOf (.code y_Mo_sizeOf b_Mo_sizeOf 1 (some .long) :: wG) ({ frames := 0, cells := 0, slots := 0, locals := 0 }) (PcS (dC, dI) tys ws [.int (nI n)]) (vp_Sl (fun r9 => r9 = lN (2 ^ (32 - n)))) 0 0 (fun _ => False) := by
  refine Met.ofW (cc := b_Mo_sizeOf) (maxL := 1) (ret := (some .long)) (by decide) rfl ?_
  intro pg eg s mg ag bg meth cg s₁ B hml hv
  obtain ⟨rfl, hP, hK, hN⟩ := hv
  have hx := B.exec
  have hb := B.bytes
  have hr := B.returns
  have hlocks := B.notSynchronized
  have hts : ∀ w9 ∈ wG, w9.before ([.int (nI n)] : List Value).toArray s = true := fun w9 h9 => atoms_spec (ws := (.code y_Mo_sizeOf b_Mo_sizeOf 1 (some .long) :: wG)) B.pre w9 (List.mem_cons_of_mem _ h9)
  have hown : s.vm.findClass "PrefixRegistryModel" = some mg.cls := findClass_of_methodNamed B.named
  have hP : va_P (dC, dI) classes ws s.heap := hP
  have hl := lv_entry ([.int (nI n)]) (n := 1) (Nat.le_of_ble_eq_true rfl)
  rw [lg_entry_eq]
  generalize (lg_sl ([.int (nI n)]) ++ List.replicate (1 - (lg_sl ([.int (nI n)])).length) Slot.unset).toArray = ls at hl ⊢
  replace hl : lv_has ls 1 [(0, .int (nI n))] := hl
  refine lv_lconst (v := 1) hx hb d_Mo_sizeOf_0 (by decide) ?_
  refine lv_bipush (v := 32) hx hb d_Mo_sizeOf_1 (by decide) ?_
  refine lv_iload_n hx hb d_Mo_sizeOf_3 rfl (lv_at hl 0 rfl) ?_
  refine lv_isub hx hb d_Mo_sizeOf_4 ?_
  refine lv_lshl hx hb d_Mo_sizeOf_5 rfl ?_
  exact W.lret (v := (1 <<< ((32 - nI n).toInt64 &&& 63))) hx hb hr (fun t ht hW => ⟨(1 <<< ((32 - nI n).toInt64 &&& 63)), rfl, (by exact k_size n hn), ht⟩) (fun q h => nomatch h) d_Mo_sizeOf_6
set_option maxHeartbeats 4000000 in
set_option maxRecDepth 100000 in
theorem c_Mo_meets (l : Launch) (dC : Nat → ClassId) (dI : Nat → Nat → Nat) {tys : List (ClassId × FieldType)} {ws : va_W} (p n q k : Nat) (hp : p < 4294967296) (hn : n < 33) (hq : q < 4294967296) (hk : k < 33) : Met l y_Mo_meets (.code y_Mo_meets b_Mo_meets 4 (some .boolean) :: wG) ({ frames := 1, cells := 0, slots := 0, locals := 20 }) (PcS (dC, dI) tys ws [.int (nI p), .int (nI n), .int (nI q), .int (nI k)]) (vp_Si (fun r9 => r9 = bi (decide (mtM p n q k)))) 0 0 (fun _ => False) := by
  refine Met.ofW (cc := b_Mo_meets) (maxL := 4) (ret := (some .boolean)) (by decide) rfl ?_
  intro pg eg s mg ag bg meth cg s₁ B hml hv
  obtain ⟨rfl, hP, hK, hN⟩ := hv
  have hx := B.exec
  have hb := B.bytes
  have hr := B.returns
  have hlocks := B.notSynchronized
  have hts : ∀ w9 ∈ wG, w9.before ([.int (nI p), .int (nI n), .int (nI q), .int (nI k)] : List Value).toArray s = true := fun w9 h9 => atoms_spec (ws := (.code y_Mo_meets b_Mo_meets 4 (some .boolean) :: wG)) B.pre w9 (List.mem_cons_of_mem _ h9)
  have hown : s.vm.findClass "PrefixRegistryModel" = some mg.cls := findClass_of_methodNamed B.named
  have hP : va_P (dC, dI) classes ws s.heap := hP
  have hl := lv_entry ([.int (nI p), .int (nI n), .int (nI q), .int (nI k)]) (n := 4) (Nat.le_of_ble_eq_true rfl)
  rw [lg_entry_eq]
  generalize (lg_sl ([.int (nI p), .int (nI n), .int (nI q), .int (nI k)]) ++ List.replicate (4 - (lg_sl ([.int (nI p), .int (nI n), .int (nI q), .int (nI k)])).length) Slot.unset).toArray = ls at hl ⊢
  replace hl : lv_has ls 4 [(0, .int (nI p)), (1, .int (nI n)), (2, .int (nI q)), (3, .int (nI k))] := hl
  refine lv_iload_n hx hb d_Mo_meets_0 rfl (lv_at hl 0 rfl) ?_
  refine lv_iload_n hx hb d_Mo_meets_1 rfl (lv_at hl 2 rfl) ?_
  refine lv_ixor hx hb d_Mo_meets_2 ?_
  refine x_topi (y := (nI (p ^^^ q))) (nx_xor _ _) ?_
  refine lv_iload_n hx hb d_Mo_meets_3 rfl (lv_at hl 1 rfl) ?_
  refine lv_iload_n hx hb d_Mo_meets_4 rfl (lv_at hl 3 rfl) ?_
  refine lv_icmp_ge hx hb d_Mo_meets_5 rfl (fun h5 => ?_) (fun h5 => ?_)
  · have h5 := (nI_leI (by omega) (by omega)).mp h5
    refine lv_iload_n hx hb d_Mo_meets_12 rfl (lv_at hl 3 rfl) ?_
    refine vp_callSi (W.runS (As := [.int (nI k)]) (rest := [.int (nI (p ^^^ q))]) ⟨hx, hb, hml, hown, hts⟩ (c_Mo_mask l dC dI k hk) (cwS 1 hts (gS kw_787 kw_788 kw_6 kw_789) rfl rfl rfl (by decide +kernel) ⟨Nat.le_of_ble_eq_true rfl, Nat.le_of_ble_eq_true rfl⟩) ⟨PcS.blind, PcS.use hP hK hN⟩ rfl rfl hl.1 rfl (lv_room (Nat.le_of_ble_eq_true rfl)) d_Mo_meets_13 ⟨Nat.zero_le _, Nat.zero_le _⟩) (fun r13 hr13 => ?_)
    obtain rfl : r13 = (nI (mskN k)) := hr13
    refine lv_iand hx hb d_Mo_meets_16 ?_
    refine x_topi (y := (nI ((p ^^^ q) &&& mskN k))) (nx_and _ _) ?_
    refine lv_if_ne hx hb d_Mo_meets_17 rfl (fun h17 => ?_) (fun h17 => ?_)
    · have h17 := mt ((k_eq (b := 0) (Nat.lt_of_le_of_lt Nat.and_le_left (Nat.xor_lt_two_pow (n := 32) hp hq)) (by decide)).trans (msk_iff hp hq (n := k) (by omega))).mpr h17
      refine lv_iconst (v := 0) hx hb d_Mo_meets_24 (by decide) ?_
      exact W.zret (v := 0) hx hb hr (by decide) (fun t ht hW => ⟨0, rfl, (bF (by show ¬ (p / 2 ^ (32 - min n k) = q / 2 ^ (32 - min n k)); rw [(show min n k = k by omega)]; exact h17)), ht⟩) (fun q h => nomatch h) d_Mo_meets_25
    have h17 := ((k_eq (b := 0) (Nat.lt_of_le_of_lt Nat.and_le_left (Nat.xor_lt_two_pow (n := 32) hp hq)) (by decide)).trans (msk_iff hp hq (n := k) (by omega))).mp h17
    refine lv_iconst (v := 1) hx hb d_Mo_meets_20 (by decide) ?_
    refine lv_goto hx hb d_Mo_meets_21 rfl ?_
    exact W.zret (v := 1) hx hb hr (by decide) (fun t ht hW => ⟨1, rfl, (bT (by show p / 2 ^ (32 - min n k) = q / 2 ^ (32 - min n k); rw [(show min n k = k by omega)]; exact h17)), ht⟩) (fun q h => nomatch h) d_Mo_meets_25
  have h5 := mt (nI_leI (by omega) (by omega)).mpr h5
  refine lv_iload_n hx hb d_Mo_meets_8 rfl (lv_at hl 1 rfl) ?_
  refine lv_goto hx hb d_Mo_meets_9 rfl ?_
  refine vp_callSi (W.runS (As := [.int (nI n)]) (rest := [.int (nI (p ^^^ q))]) ⟨hx, hb, hml, hown, hts⟩ (c_Mo_mask l dC dI n hn) (cwS 1 hts (gS kw_787 kw_788 kw_6 kw_789) rfl rfl rfl (by decide +kernel) ⟨Nat.le_of_ble_eq_true rfl, Nat.le_of_ble_eq_true rfl⟩) ⟨PcS.blind, PcS.use hP hK hN⟩ rfl rfl hl.1 rfl (lv_room (Nat.le_of_ble_eq_true rfl)) d_Mo_meets_13 ⟨Nat.zero_le _, Nat.zero_le _⟩) (fun r13 hr13 => ?_)
  obtain rfl : r13 = (nI (mskN n)) := hr13
  refine lv_iand hx hb d_Mo_meets_16 ?_
  refine x_topi (y := (nI ((p ^^^ q) &&& mskN n))) (nx_and _ _) ?_
  refine lv_if_ne hx hb d_Mo_meets_17 rfl (fun h17 => ?_) (fun h17 => ?_)
  · have h17 := mt ((k_eq (b := 0) (Nat.lt_of_le_of_lt Nat.and_le_left (Nat.xor_lt_two_pow (n := 32) hp hq)) (by decide)).trans (msk_iff hp hq (n := n) (by omega))).mpr h17
    refine lv_iconst (v := 0) hx hb d_Mo_meets_24 (by decide) ?_
    exact W.zret (v := 0) hx hb hr (by decide) (fun t ht hW => ⟨0, rfl, (bF (by show ¬ (p / 2 ^ (32 - min n k) = q / 2 ^ (32 - min n k)); rw [(show min n k = n by omega)]; exact h17)), ht⟩) (fun q h => nomatch h) d_Mo_meets_25
  have h17 := ((k_eq (b := 0) (Nat.lt_of_le_of_lt Nat.and_le_left (Nat.xor_lt_two_pow (n := 32) hp hq)) (by decide)).trans (msk_iff hp hq (n := n) (by omega))).mp h17
  refine lv_iconst (v := 1) hx hb d_Mo_meets_20 (by decide) ?_
  refine lv_goto hx hb d_Mo_meets_21 rfl ?_
  exact W.zret (v := 1) hx hb hr (by decide) (fun t ht hW => ⟨1, rfl, (bT (by show p / 2 ^ (32 - min n k) = q / 2 ^ (32 - min n k); rw [(show min n k = n by omega)]; exact h17)), ht⟩) (fun q h => nomatch h) d_Mo_meets_25
set_option maxHeartbeats 4000000 in
set_option maxRecDepth 100000 in
theorem c_Mo_sibling (l : Launch) (dC : Nat → ClassId) (dI : Nat → Nat → Nat) {tys : List (ClassId × FieldType)} {ws : va_W} (p n : Nat) (hn : n < 33) (h0 : 1 ≤ n) : Met l y_Mo_sibling (.code y_Mo_sibling b_Mo_sibling 2 (some .int) :: wG) ({ frames := 0, cells := 0, slots := 0, locals := 0 }) (PcS (dC, dI) tys ws [.int (nI p), .int (nI n)]) (vp_Si (fun r9 => r9 = nI (p ^^^ 2 ^ (32 - n)))) 0 0 (fun _ => False) := by
  refine Met.ofW (cc := b_Mo_sibling) (maxL := 2) (ret := (some .int)) (by decide) rfl ?_
  intro pg eg s mg ag bg meth cg s₁ B hml hv
  obtain ⟨rfl, hP, hK, hN⟩ := hv
  have hx := B.exec
  have hb := B.bytes
  have hr := B.returns
  have hlocks := B.notSynchronized
  have hts : ∀ w9 ∈ wG, w9.before ([.int (nI p), .int (nI n)] : List Value).toArray s = true := fun w9 h9 => atoms_spec (ws := (.code y_Mo_sibling b_Mo_sibling 2 (some .int) :: wG)) B.pre w9 (List.mem_cons_of_mem _ h9)
  have hown : s.vm.findClass "PrefixRegistryModel" = some mg.cls := findClass_of_methodNamed B.named
  have hP : va_P (dC, dI) classes ws s.heap := hP
  have hl := lv_entry ([.int (nI p), .int (nI n)]) (n := 2) (Nat.le_of_ble_eq_true rfl)
  rw [lg_entry_eq]
  generalize (lg_sl ([.int (nI p), .int (nI n)]) ++ List.replicate (2 - (lg_sl ([.int (nI p), .int (nI n)])).length) Slot.unset).toArray = ls at hl ⊢
  replace hl : lv_has ls 2 [(0, .int (nI p)), (1, .int (nI n))] := hl
  refine lv_iload_n hx hb d_Mo_sibling_0 rfl (lv_at hl 0 rfl) ?_
  refine lv_iconst (v := 1) hx hb d_Mo_sibling_1 (by decide) ?_
  refine lv_bipush (v := 32) hx hb d_Mo_sibling_2 (by decide) ?_
  refine lv_iload_n hx hb d_Mo_sibling_4 rfl (lv_at hl 1 rfl) ?_
  refine lv_isub hx hb d_Mo_sibling_5 ?_
  refine lv_ishl hx hb d_Mo_sibling_6 ?_
  refine lv_ixor hx hb d_Mo_sibling_7 ?_
  exact W.iret (v := (nI p ^^^ (1 <<< ((32 - nI n) &&& 31)))) hx hb hr (fun t ht hW => ⟨(nI p ^^^ (1 <<< ((32 - nI n) &&& 31))), rfl, (by rw [k_sib n hn h0]; exact nx_xor _ _), ht⟩) (fun q h => nomatch h) d_Mo_sibling_8
set_option maxHeartbeats 4000000 in
set_option maxRecDepth 100000 in
theorem c_Mo_cutLength (l : Launch) (dC : Nat → ClassId) (dI : Nat → Nat → Nat) {tys : List (ClassId × FieldType)} {ws : va_W} (n : Nat) (hn : n < 33) : Met l y_Mo_cutLength (.code y_Mo_cutLength b_Mo_cutLength 1 (some .int) :: wG) ({ frames := 0, cells := 0, slots := 0, locals := 0 }) (PcS (dC, dI) tys ws [.int (nI n)]) (vp_Si (fun r9 => r9 = nI (cl4 n))) 0 0 (fun _ => False) := by
  refine Met.ofW (cc := b_Mo_cutLength) (maxL := 1) (ret := (some .int)) (by decide) rfl ?_
  intro pg eg s mg ag bg meth cg s₁ B hml hv
  obtain ⟨rfl, hP, hK, hN⟩ := hv
  have hx := B.exec
  have hb := B.bytes
  have hr := B.returns
  have hlocks := B.notSynchronized
  have hts : ∀ w9 ∈ wG, w9.before ([.int (nI n)] : List Value).toArray s = true := fun w9 h9 => atoms_spec (ws := (.code y_Mo_cutLength b_Mo_cutLength 1 (some .int) :: wG)) B.pre w9 (List.mem_cons_of_mem _ h9)
  have hown : s.vm.findClass "PrefixRegistryModel" = some mg.cls := findClass_of_methodNamed B.named
  have hP : va_P (dC, dI) classes ws s.heap := hP
  have hl := lv_entry ([.int (nI n)]) (n := 1) (Nat.le_of_ble_eq_true rfl)
  rw [lg_entry_eq]
  generalize (lg_sl ([.int (nI n)]) ++ List.replicate (1 - (lg_sl ([.int (nI n)])).length) Slot.unset).toArray = ls at hl ⊢
  replace hl : lv_has ls 1 [(0, .int (nI n))] := hl
  refine lv_iload_n hx hb d_Mo_cutLength_0 rfl (lv_at hl 0 rfl) ?_
  refine lv_iconst (v := 3) hx hb d_Mo_cutLength_1 (by decide) ?_
  refine lv_iadd hx hb d_Mo_cutLength_2 ?_
  refine lv_iconst (v := 4) hx hb d_Mo_cutLength_3 (by decide) ?_
  refine lv_idiv hx hb d_Mo_cutLength_4 (by decide) ?_
  refine lv_iconst (v := 4) hx hb d_Mo_cutLength_5 (by decide) ?_
  refine lv_imul hx hb d_Mo_cutLength_6 ?_
  exact W.iret (v := (((nI n + 3) / 4) * 4)) hx hb hr (fun t ht hW => ⟨(((nI n + 3) / 4) * 4), rfl, (by exact k_cl4m n hn), ht⟩) (fun q h => nomatch h) d_Mo_cutLength_7
set_option maxHeartbeats 4000000 in
set_option maxRecDepth 100000 in
theorem c_Mo_cutsOf (l : Launch) (dC : Nat → ClassId) (dI : Nat → Nat → Nat) {tys : List (ClassId × FieldType)} {ws : va_W} (n : Nat) (hn : n < 33) : Met l y_Mo_cutsOf (.code y_Mo_cutsOf b_Mo_cutsOf 1 (some .int) :: wG) ({ frames := 1, cells := 0, slots := 0, locals := 20 }) (PcS (dC, dI) tys ws [.int (nI n)]) (vp_Si (fun r9 => r9 = nI (2 ^ (cl4 n - n)))) 0 0 (fun _ => False) := by
  refine Met.ofW (cc := b_Mo_cutsOf) (maxL := 1) (ret := (some .int)) (by decide) rfl ?_
  intro pg eg s mg ag bg meth cg s₁ B hml hv
  obtain ⟨rfl, hP, hK, hN⟩ := hv
  have hx := B.exec
  have hb := B.bytes
  have hr := B.returns
  have hlocks := B.notSynchronized
  have hts : ∀ w9 ∈ wG, w9.before ([.int (nI n)] : List Value).toArray s = true := fun w9 h9 => atoms_spec (ws := (.code y_Mo_cutsOf b_Mo_cutsOf 1 (some .int) :: wG)) B.pre w9 (List.mem_cons_of_mem _ h9)
  have hown : s.vm.findClass "PrefixRegistryModel" = some mg.cls := findClass_of_methodNamed B.named
  have hP : va_P (dC, dI) classes ws s.heap := hP
  have hl := lv_entry ([.int (nI n)]) (n := 1) (Nat.le_of_ble_eq_true rfl)
  rw [lg_entry_eq]
  generalize (lg_sl ([.int (nI n)]) ++ List.replicate (1 - (lg_sl ([.int (nI n)])).length) Slot.unset).toArray = ls at hl ⊢
  replace hl : lv_has ls 1 [(0, .int (nI n))] := hl
  refine lv_iconst (v := 1) hx hb d_Mo_cutsOf_0 (by decide) ?_
  refine lv_iload_n hx hb d_Mo_cutsOf_1 rfl (lv_at hl 0 rfl) ?_
  refine vp_callSi (W.runS (As := [.int (nI n)]) (rest := [.int 1]) ⟨hx, hb, hml, hown, hts⟩ (c_Mo_cutLength l dC dI n hn) (cwS 1 hts (gS kw_998 kw_999 kw_6 kw_1000) rfl rfl rfl (by decide +kernel) ⟨Nat.le_of_ble_eq_true rfl, Nat.le_of_ble_eq_true rfl⟩) ⟨PcS.blind, PcS.use hP hK hN⟩ rfl rfl hl.1 rfl (lv_room (Nat.le_of_ble_eq_true rfl)) d_Mo_cutsOf_2 ⟨Nat.zero_le _, Nat.zero_le _⟩) (fun r2 hr2 => ?_)
  obtain rfl : r2 = (nI (cl4 n)) := hr2
  refine lv_iload_n hx hb d_Mo_cutsOf_5 rfl (lv_at hl 0 rfl) ?_
  refine lv_isub hx hb d_Mo_cutsOf_6 ?_
  refine lv_ishl hx hb d_Mo_cutsOf_7 ?_
  exact W.iret (v := (1 <<< (((nI (cl4 n)) - nI n) &&& 31))) hx hb hr (fun t ht hW => ⟨(1 <<< (((nI (cl4 n)) - nI n) &&& 31)), rfl, (by exact k_cut n hn), ht⟩) (fun q h => nomatch h) d_Mo_cutsOf_8
set_option maxHeartbeats 4000000 in
set_option maxRecDepth 100000 in
theorem c_Mo_thrown (l : Launch) (dC : Nat → ClassId) (dI : Nat → Nat → Nat) (cI : ClassId) (o : Nat) (a : Nat → Nat) (V : MS) (hV : MSok V) : Met l y_Mo_thrown (.code y_Mo_thrown b_Mo_thrown 1 (some .int) :: wG) ({ frames := 0, cells := 0, slots := 0, locals := 0 }) (PcS (dC, dI) [(cI, .int)] (wMo cI o a V) [.ref o]) (vp_Si (fun r9 => r9 = nI V.tc)) 0 0 (fun _ => False) := by
  refine Met.ofW (cc := b_Mo_thrown) (maxL := 1) (ret := (some .int)) (by decide) rfl ?_
  intro pg eg s mg ag bg meth cg s₁ B hml hv
  obtain ⟨rfl, hP, hK, hN⟩ := hv
  have hx := B.exec
  have hb := B.bytes
  have hr := B.returns
  have hlocks := B.notSynchronized
  have hts : ∀ w9 ∈ wG, w9.before ([.ref o] : List Value).toArray s = true := fun w9 h9 => atoms_spec (ws := (.code y_Mo_thrown b_Mo_thrown 1 (some .int) :: wG)) B.pre w9 (List.mem_cons_of_mem _ h9)
  have hown : s.vm.findClass "PrefixRegistryModel" = some mg.cls := findClass_of_methodNamed B.named
  have hP : va_P (dC, dI) classes (wMo cI o a V) s.heap := hP
  have hl := lv_entry ([.ref o]) (n := 1) (Nat.le_of_ble_eq_true rfl)
  rw [lg_entry_eq]
  generalize (lg_sl ([.ref o]) ++ List.replicate (1 - (lg_sl ([.ref o])).length) Slot.unset).toArray = ls at hl ⊢
  replace hl : lv_has ls 1 [(0, .ref o)] := hl
  refine lv_aload_n hx hb d_Mo_thrown_0 rfl (lv_at hl 0 rfl) ?_
  refine va_get (D := (dC, dI)) (ci := 5) (v := .int (nI V.tc)) (C := R_Mo) (T := F_Mo) (N := 19) hx hb hts u_Mo hown hK hP 0 rfl rfl 0 (by decide) (hts _ kw_714) (fun _ h9 => h9) rfl d_Mo_thrown_1 ?_
  exact W.iret (v := (nI V.tc)) hx hb hr (fun t ht hW => ⟨(nI V.tc), rfl, (by rfl), ht⟩) (fun q h => nomatch h) d_Mo_thrown_4
set_option maxHeartbeats 4000000 in
set_option maxRecDepth 100000 in
theorem c_Mo_isLive (l : Launch) (dC : Nat → ClassId) (dI : Nat → Nat → Nat) (cI : ClassId) (o : Nat) (a : Nat → Nat) (V : MS) (hV : MSok V) (r : Nat) (hr0 : r < 400) : Met l y_Mo_isLive (.code y_Mo_isLive b_Mo_isLive 2 (some .boolean) :: wG) ({ frames := 0, cells := 0, slots := 0, locals := 0 }) (PcS (dC, dI) [(cI, .int)] (wMo cI o a V) [.ref o, .int (nI r)]) (vp_Si (fun r9 => r9 = bi (decide (V.sta r ≠ 4)))) 0 0 (fun _ => False) := by
  refine Met.ofW (cc := b_Mo_isLive) (maxL := 2) (ret := (some .boolean)) (by decide) rfl ?_
  intro pg eg s mg ag bg meth cg s₁ B hml hv
  obtain ⟨rfl, hP, hK, hN⟩ := hv
  have hx := B.exec
  have hb := B.bytes
  have hr := B.returns
  have hlocks := B.notSynchronized
  have hts : ∀ w9 ∈ wG, w9.before ([.ref o, .int (nI r)] : List Value).toArray s = true := fun w9 h9 => atoms_spec (ws := (.code y_Mo_isLive b_Mo_isLive 2 (some .boolean) :: wG)) B.pre w9 (List.mem_cons_of_mem _ h9)
  have hown : s.vm.findClass "PrefixRegistryModel" = some mg.cls := findClass_of_methodNamed B.named
  have hP : va_P (dC, dI) classes (wMo cI o a V) s.heap := hP
  have hl := lv_entry ([.ref o, .int (nI r)]) (n := 2) (Nat.le_of_ble_eq_true rfl)
  rw [lg_entry_eq]
  generalize (lg_sl ([.ref o, .int (nI r)]) ++ List.replicate (2 - (lg_sl ([.ref o, .int (nI r)])).length) Slot.unset).toArray = ls at hl ⊢
  replace hl : lv_has ls 2 [(0, .ref o), (1, .int (nI r))] := hl
  refine lv_aload_n hx hb d_Mo_isLive_0 rfl (lv_at hl 0 rfl) ?_
  refine va_get (D := (dC, dI)) (ci := 5) (v := .ref (a 6)) (C := R_Mo) (T := F_Mo) (N := 19) hx hb hts u_Mo hown hK hP 0 rfl rfl 7 (by decide) (hts _ kw_721) (fun _ h9 => h9) rfl d_Mo_isLive_1 ?_
  refine lv_iload_n hx hb d_Mo_isLive_4 rfl (lv_at hl 1 rfl) ?_
  refine x_iald (j := r) (v := (nI (V.sta r))) hx hb hK hP 7 0 rfl rfl hr0 (by decide) rfl rfl d_Mo_isLive_5 ?_
  refine lv_iconst (v := 4) hx hb d_Mo_isLive_6 (by decide) ?_
  refine lv_icmp_eq hx hb d_Mo_isLive_7 rfl (fun h7 => ?_) (fun h7 => ?_)
  · have h7 := (k_eq (b := 4) (by have := hV.sta r; omega) (by decide)).mp h7
    refine lv_iconst (v := 0) hx hb d_Mo_isLive_14 (by decide) ?_
    exact W.zret (v := 0) hx hb hr (by decide) (fun t ht hW => ⟨0, rfl, (bF (by omega)), ht⟩) (fun q h => nomatch h) d_Mo_isLive_15
  have h7 := mt (k_eq (b := 4) (by have := hV.sta r; omega) (by decide)).mpr h7
  refine lv_iconst (v := 1) hx hb d_Mo_isLive_10 (by decide) ?_
  refine lv_goto hx hb d_Mo_isLive_11 rfl ?_
  exact W.zret (v := 1) hx hb hr (by decide) (fun t ht hW => ⟨1, rfl, (bT (by omega)), ht⟩) (fun q h => nomatch h) d_Mo_isLive_15
set_option maxHeartbeats 4000000 in
set_option maxRecDepth 100000 in
theorem c_Mo_isChild (l : Launch) (dC : Nat → ClassId) (dI : Nat → Nat → Nat) (cI : ClassId) (o : Nat) (a : Nat → Nat) (V : MS) (hV : MSok V) (c9 r : Nat) (hc9 : c9 < 400) (hr0 : r < 400) : Met l y_Mo_isChild (.code y_Mo_isChild b_Mo_isChild 3 (some .boolean) :: wG) ({ frames := 1, cells := 0, slots := 0, locals := 21 }) (PcS (dC, dI) [(cI, .int)] (wMo cI o a V) [.ref o, .int (nI c9), .int (nI r)]) (vp_Si (fun r9 => r9 = bi (decide (V.par c9 = some r ∧ V.sta c9 ≠ 4)))) 0 0 (fun _ => False) := by
  refine Met.ofW (cc := b_Mo_isChild) (maxL := 3) (ret := (some .boolean)) (by decide) rfl ?_
  intro pg eg s mg ag bg meth cg s₁ B hml hv
  obtain ⟨rfl, hP, hK, hN⟩ := hv
  have hx := B.exec
  have hb := B.bytes
  have hr := B.returns
  have hlocks := B.notSynchronized
  have hts : ∀ w9 ∈ wG, w9.before ([.ref o, .int (nI c9), .int (nI r)] : List Value).toArray s = true := fun w9 h9 => atoms_spec (ws := (.code y_Mo_isChild b_Mo_isChild 3 (some .boolean) :: wG)) B.pre w9 (List.mem_cons_of_mem _ h9)
  have hown : s.vm.findClass "PrefixRegistryModel" = some mg.cls := findClass_of_methodNamed B.named
  have hP : va_P (dC, dI) classes (wMo cI o a V) s.heap := hP
  have hl := lv_entry ([.ref o, .int (nI c9), .int (nI r)]) (n := 3) (Nat.le_of_ble_eq_true rfl)
  rw [lg_entry_eq]
  generalize (lg_sl ([.ref o, .int (nI c9), .int (nI r)]) ++ List.replicate (3 - (lg_sl ([.ref o, .int (nI c9), .int (nI r)])).length) Slot.unset).toArray = ls at hl ⊢
  replace hl : lv_has ls 3 [(0, .ref o), (1, .int (nI c9)), (2, .int (nI r))] := hl
  refine lv_aload_n hx hb d_Mo_isChild_0 rfl (lv_at hl 0 rfl) ?_
  refine va_get (D := (dC, dI)) (ci := 5) (v := .ref (a 3)) (C := R_Mo) (T := F_Mo) (N := 19) hx hb hts u_Mo hown hK hP 0 rfl rfl 4 (by decide) (hts _ kw_718) (fun _ h9 => h9) rfl d_Mo_isChild_1 ?_
  refine lv_iload_n hx hb d_Mo_isChild_4 rfl (lv_at hl 1 rfl) ?_
  refine x_iald (j := c9) (v := (pI (V.par c9))) hx hb hK hP 4 0 rfl rfl hc9 (by decide) rfl rfl d_Mo_isChild_5 ?_
  refine lv_iload_n hx hb d_Mo_isChild_6 rfl (lv_at hl 2 rfl) ?_
  refine lv_icmp_ne hx hb d_Mo_isChild_7 rfl (fun h7 => ?_) (fun h7 => ?_)
  · have h7 := mt (pI_eq (fun k q => by have := hV.par q; omega) (by omega)).mpr h7
    refine lv_iconst (v := 0) hx hb d_Mo_isChild_22 (by decide) ?_
    exact W.zret (v := 0) hx hb hr (by decide) (fun t ht hW => ⟨0, rfl, (bF (by simp_all)), ht⟩) (fun q h => nomatch h) d_Mo_isChild_23
  have h7 := (pI_eq (fun k q => by have := hV.par q; omega) (by omega)).mp h7
  refine lv_aload_n hx hb d_Mo_isChild_10 rfl (lv_at hl 0 rfl) ?_
  refine lv_iload_n hx hb d_Mo_isChild_11 rfl (lv_at hl 1 rfl) ?_
  refine vp_callSi (W.runV (b := o) (As := [.int (nI c9)]) (rest := []) ⟨hx, hb, hml, hown, hts⟩ (c_Mo_isLive l dC dI cI o a V hV c9 hc9) (cwV 1 hts (gV kw_790 kw_792 ks_23 kw_6 kw_793) rfl rfl rfl (by decide +kernel) ⟨Nat.le_of_ble_eq_true rfl, Nat.le_of_ble_eq_true rfl⟩) ⟨PcS.blind, va_recv (q0 := 0) hK hP rfl rfl, PcS.use hP hK hN⟩ rfl rfl hl.1 rfl (lv_room (Nat.le_of_ble_eq_true rfl)) d_Mo_isChild_12 ⟨Nat.zero_le _, Nat.zero_le _⟩) (fun r12 hr12 => ?_)
  obtain rfl : r12 = bi (decide (V.sta c9 ≠ 4)) := hr12
  refine lv_if_eq hx hb d_Mo_isChild_15 rfl (fun h15 => ?_) (fun h15 => ?_)
  · have h15 := bi_d.mp h15
    refine lv_iconst (v := 0) hx hb d_Mo_isChild_22 (by decide) ?_
    exact W.zret (v := 0) hx hb hr (by decide) (fun t ht hW => ⟨0, rfl, (bF (by simp_all)), ht⟩) (fun q h => nomatch h) d_Mo_isChild_23
  have h15 := Decidable.not_not.mp (mt bi_d.mpr h15)
  refine lv_iconst (v := 1) hx hb d_Mo_isChild_18 (by decide) ?_
  refine lv_goto hx hb d_Mo_isChild_19 rfl ?_
  exact W.zret (v := 1) hx hb hr (by decide) (fun t ht hW => ⟨1, rfl, (bT (by simp_all)), ht⟩) (fun q h => nomatch h) d_Mo_isChild_23
set_option maxHeartbeats 4000000 in
set_option maxRecDepth 100000 in
theorem c_Mo_startOf (l : Launch) (dC : Nat → ClassId) (dI : Nat → Nat → Nat) (cI : ClassId) (o : Nat) (a : Nat → Nat) (V : MS) (hV : MSok V) (r : Nat) (hr0 : r < 400) : Met l y_Mo_startOf (.code y_Mo_startOf b_Mo_startOf 2 (some .int) :: wG) ({ frames := 0, cells := 0, slots := 0, locals := 0 }) (PcS (dC, dI) [(cI, .int)] (wMo cI o a V) [.ref o, .int (nI r)]) (vp_Si (fun r9 => r9 = nI (sbN r))) 0 0 (fun _ => False) := by
  refine Met.ofW (cc := b_Mo_startOf) (maxL := 2) (ret := (some .int)) (by decide) rfl ?_
  intro pg eg s mg ag bg meth cg s₁ B hml hv
  obtain ⟨rfl, hP, hK, hN⟩ := hv
  have hx := B.exec
  have hb := B.bytes
  have hr := B.returns
  have hlocks := B.notSynchronized
  have hts : ∀ w9 ∈ wG, w9.before ([.ref o, .int (nI r)] : List Value).toArray s = true := fun w9 h9 => atoms_spec (ws := (.code y_Mo_startOf b_Mo_startOf 2 (some .int) :: wG)) B.pre w9 (List.mem_cons_of_mem _ h9)
  have hown : s.vm.findClass "PrefixRegistryModel" = some mg.cls := findClass_of_methodNamed B.named
  have hP : va_P (dC, dI) classes (wMo cI o a V) s.heap := hP
  have hl := lv_entry ([.ref o, .int (nI r)]) (n := 2) (Nat.le_of_ble_eq_true rfl)
  rw [lg_entry_eq]
  generalize (lg_sl ([.ref o, .int (nI r)]) ++ List.replicate (2 - (lg_sl ([.ref o, .int (nI r)])).length) Slot.unset).toArray = ls at hl ⊢
  replace hl : lv_has ls 2 [(0, .ref o), (1, .int (nI r))] := hl
  refine lv_iload_n hx hb d_Mo_startOf_0 rfl (lv_at hl 1 rfl) ?_
  refine lv_sipush (v := 200) hx hb d_Mo_startOf_1 (by decide) ?_
  refine lv_icmp_ge hx hb d_Mo_startOf_4 rfl (fun h4 => ?_) (fun h4 => ?_)
  · have h4 := (nI_leI (a := 200) (by decide) (by omega)).mp h4
    refine lv_sipush (v := 200) hx hb d_Mo_startOf_11 (by decide) ?_
    exact W.iret (v := 200) hx hb hr (fun t ht hW => ⟨200, rfl, (by unfold sbN; rw [if_neg (by omega)]; rfl), ht⟩) (fun q h => nomatch h) d_Mo_startOf_14
  have h4 := mt (nI_leI (a := 200) (by decide) (by omega)).mpr h4
  refine lv_iconst (v := 0) hx hb d_Mo_startOf_7 (by decide) ?_
  refine lv_goto hx hb d_Mo_startOf_8 rfl ?_
  exact W.iret (v := 0) hx hb hr (fun t ht hW => ⟨0, rfl, (by unfold sbN; rw [if_pos (by omega)]; rfl), ht⟩) (fun q h => nomatch h) d_Mo_startOf_14
set_option maxHeartbeats 4000000 in
set_option maxRecDepth 100000 in
theorem c_Mo_endOf (l : Launch) (dC : Nat → ClassId) (dI : Nat → Nat → Nat) (cI : ClassId) (o : Nat) (a : Nat → Nat) (V : MS) (hV : MSok V) (r : Nat) (hr0 : r < 400) : Met l y_Mo_endOf (.code y_Mo_endOf b_Mo_endOf 2 (some .int) :: wG) ({ frames := 0, cells := 0, slots := 0, locals := 0 }) (PcS (dC, dI) [(cI, .int)] (wMo cI o a V) [.ref o, .int (nI r)]) (vp_Si (fun r9 => r9 = nI (ebN V r))) 0 0 (fun _ => False) := by
  refine Met.ofW (cc := b_Mo_endOf) (maxL := 2) (ret := (some .int)) (by decide) rfl ?_
  intro pg eg s mg ag bg meth cg s₁ B hml hv
  obtain ⟨rfl, hP, hK, hN⟩ := hv
  have hx := B.exec
  have hb := B.bytes
  have hr := B.returns
  have hlocks := B.notSynchronized
  have hts : ∀ w9 ∈ wG, w9.before ([.ref o, .int (nI r)] : List Value).toArray s = true := fun w9 h9 => atoms_spec (ws := (.code y_Mo_endOf b_Mo_endOf 2 (some .int) :: wG)) B.pre w9 (List.mem_cons_of_mem _ h9)
  have hown : s.vm.findClass "PrefixRegistryModel" = some mg.cls := findClass_of_methodNamed B.named
  have hP : va_P (dC, dI) classes (wMo cI o a V) s.heap := hP
  have hl := lv_entry ([.ref o, .int (nI r)]) (n := 2) (Nat.le_of_ble_eq_true rfl)
  rw [lg_entry_eq]
  generalize (lg_sl ([.ref o, .int (nI r)]) ++ List.replicate (2 - (lg_sl ([.ref o, .int (nI r)])).length) Slot.unset).toArray = ls at hl ⊢
  replace hl : lv_has ls 2 [(0, .ref o), (1, .int (nI r))] := hl
  refine lv_iload_n hx hb d_Mo_endOf_0 rfl (lv_at hl 1 rfl) ?_
  refine lv_sipush (v := 200) hx hb d_Mo_endOf_1 (by decide) ?_
  refine lv_icmp_ge hx hb d_Mo_endOf_4 rfl (fun h4 => ?_) (fun h4 => ?_)
  · have h4 := (nI_leI (a := 200) (by decide) (by omega)).mp h4
    refine lv_sipush (v := 200) hx hb d_Mo_endOf_16 (by decide) ?_
    refine lv_aload_n hx hb d_Mo_endOf_19 rfl (lv_at hl 0 rfl) ?_
    refine va_get (D := (dC, dI)) (ci := 5) (v := .ref (a 0)) (C := R_Mo) (T := F_Mo) (N := 19) hx hb hts u_Mo hown hK hP 0 rfl rfl 1 (by decide) (hts _ kw_715) (fun _ h9 => h9) rfl d_Mo_endOf_20 ?_
    refine lv_iconst (v := 1) hx hb d_Mo_endOf_23 (by decide) ?_
    refine x_iald (j := 1) (v := (nI (V.mn 1))) hx hb hK hP 1 0 rfl rfl (by decide) (by decide) rfl rfl d_Mo_endOf_24 ?_
    refine lv_iadd hx hb d_Mo_endOf_25 ?_
    refine x_topi (y := (nI (200 + V.mn 1))) (nI_add 200 _) ?_
    exact W.iret (v := (nI (200 + V.mn 1))) hx hb hr (fun t ht hW => ⟨(nI (200 + V.mn 1)), rfl, (by unfold ebN; rw [if_neg (by omega)]), ht⟩) (fun q h => nomatch h) d_Mo_endOf_26
  have h4 := mt (nI_leI (a := 200) (by decide) (by omega)).mpr h4
  refine lv_aload_n hx hb d_Mo_endOf_7 rfl (lv_at hl 0 rfl) ?_
  refine va_get (D := (dC, dI)) (ci := 5) (v := .ref (a 0)) (C := R_Mo) (T := F_Mo) (N := 19) hx hb hts u_Mo hown hK hP 0 rfl rfl 1 (by decide) (hts _ kw_715) (fun _ h9 => h9) rfl d_Mo_endOf_8 ?_
  refine lv_iconst (v := 0) hx hb d_Mo_endOf_11 (by decide) ?_
  refine x_iald (j := 0) (v := (nI (V.mn 0))) hx hb hK hP 1 0 rfl rfl (by decide) (by decide) rfl rfl d_Mo_endOf_12 ?_
  refine lv_goto hx hb d_Mo_endOf_13 rfl ?_
  exact W.iret (v := (nI (V.mn 0))) hx hb hr (fun t ht hW => ⟨(nI (V.mn 0)), rfl, (by unfold ebN; rw [if_pos (by omega)]), ht⟩) (fun q h => nomatch h) d_Mo_endOf_26
set_option maxHeartbeats 4000000 in
set_option maxRecDepth 100000 in
theorem c_Mo_isFullLog (l : Launch) (dC : Nat → ClassId) (dI : Nat → Nat → Nat) (cI : ClassId) (o : Nat) (a : Nat → Nat) (V : MS) (hV : MSok V) : Met l y_Mo_isFullLog (.code y_Mo_isFullLog b_Mo_isFullLog 1 (some .boolean) :: wG) ({ frames := 0, cells := 0, slots := 0, locals := 0 }) (PcS (dC, dI) [(cI, .int)] (wMo cI o a V) [.ref o]) (vp_Si (fun r9 => r9 = bi (decide (V.ne = 300)))) 0 0 (fun _ => False) := by
  refine Met.ofW (cc := b_Mo_isFullLog) (maxL := 1) (ret := (some .boolean)) (by decide) rfl ?_
  intro pg eg s mg ag bg meth cg s₁ B hml hv
  obtain ⟨rfl, hP, hK, hN⟩ := hv
  have hx := B.exec
  have hb := B.bytes
  have hr := B.returns
  have hlocks := B.notSynchronized
  have hts : ∀ w9 ∈ wG, w9.before ([.ref o] : List Value).toArray s = true := fun w9 h9 => atoms_spec (ws := (.code y_Mo_isFullLog b_Mo_isFullLog 1 (some .boolean) :: wG)) B.pre w9 (List.mem_cons_of_mem _ h9)
  have hown : s.vm.findClass "PrefixRegistryModel" = some mg.cls := findClass_of_methodNamed B.named
  have hP : va_P (dC, dI) classes (wMo cI o a V) s.heap := hP
  have hl := lv_entry ([.ref o]) (n := 1) (Nat.le_of_ble_eq_true rfl)
  rw [lg_entry_eq]
  generalize (lg_sl ([.ref o]) ++ List.replicate (1 - (lg_sl ([.ref o])).length) Slot.unset).toArray = ls at hl ⊢
  replace hl : lv_has ls 1 [(0, .ref o)] := hl
  refine lv_aload_n hx hb d_Mo_isFullLog_0 rfl (lv_at hl 0 rfl) ?_
  refine va_get (D := (dC, dI)) (ci := 5) (v := .int (nI V.ne)) (C := R_Mo) (T := F_Mo) (N := 19) hx hb hts u_Mo hown hK hP 0 rfl rfl 12 (by decide) (hts _ kw_726) (fun _ h9 => h9) rfl d_Mo_isFullLog_1 ?_
  refine lv_sipush (v := 300) hx hb d_Mo_isFullLog_4 (by decide) ?_
  refine lv_icmp_ne hx hb d_Mo_isFullLog_7 rfl (fun h7 => ?_) (fun h7 => ?_)
  · have h7 := mt (nI_eq (b := 300) (by have := hV.ne; omega) (by decide)).mpr h7
    refine lv_iconst (v := 0) hx hb d_Mo_isFullLog_14 (by decide) ?_
    exact W.zret (v := 0) hx hb hr (by decide) (fun t ht hW => ⟨0, rfl, (bF (by omega)), ht⟩) (fun q h => nomatch h) d_Mo_isFullLog_15
  have h7 := (nI_eq (b := 300) (by have := hV.ne; omega) (by decide)).mp h7
  refine lv_iconst (v := 1) hx hb d_Mo_isFullLog_10 (by decide) ?_
  refine lv_goto hx hb d_Mo_isFullLog_11 rfl ?_
  exact W.zret (v := 1) hx hb hr (by decide) (fun t ht hW => ⟨1, rfl, (bT (by omega)), ht⟩) (fun q h => nomatch h) d_Mo_isFullLog_15
set_option maxHeartbeats 4000000 in
set_option maxRecDepth 100000 in
theorem c_Mo_beginOf (l : Launch) (dC : Nat → ClassId) (dI : Nat → Nat → Nat) (cI : ClassId) (o : Nat) (a : Nat → Nat) (V : MS) (hV : MSok V) (r : Nat) (hr0 : r < 400) : Met l y_Mo_beginOf (.code y_Mo_beginOf b_Mo_beginOf 2 (some .long) :: wG) ({ frames := 0, cells := 0, slots := 0, locals := 0 }) (PcS (dC, dI) [(cI, .int)] (wMo cI o a V) [.ref o, .int (nI r)]) (vp_Sl (fun r9 => r9 = lN (V.pre r))) 0 0 (fun _ => False) := by
  refine Met.ofW (cc := b_Mo_beginOf) (maxL := 2) (ret := (some .long)) (by decide) rfl ?_
  intro pg eg s mg ag bg meth cg s₁ B hml hv
  obtain ⟨rfl, hP, hK, hN⟩ := hv
  have hx := B.exec
  have hb := B.bytes
  have hr := B.returns
  have hlocks := B.notSynchronized
  have hts : ∀ w9 ∈ wG, w9.before ([.ref o, .int (nI r)] : List Value).toArray s = true := fun w9 h9 => atoms_spec (ws := (.code y_Mo_beginOf b_Mo_beginOf 2 (some .long) :: wG)) B.pre w9 (List.mem_cons_of_mem _ h9)
  have hown : s.vm.findClass "PrefixRegistryModel" = some mg.cls := findClass_of_methodNamed B.named
  have hP : va_P (dC, dI) classes (wMo cI o a V) s.heap := hP
  have hl := lv_entry ([.ref o, .int (nI r)]) (n := 2) (Nat.le_of_ble_eq_true rfl)
  rw [lg_entry_eq]
  generalize (lg_sl ([.ref o, .int (nI r)]) ++ List.replicate (2 - (lg_sl ([.ref o, .int (nI r)])).length) Slot.unset).toArray = ls at hl ⊢
  replace hl : lv_has ls 2 [(0, .ref o), (1, .int (nI r))] := hl
  refine lv_aload_n hx hb d_Mo_beginOf_0 rfl (lv_at hl 0 rfl) ?_
  refine va_get (D := (dC, dI)) (ci := 5) (v := .ref (a 1)) (C := R_Mo) (T := F_Mo) (N := 19) hx hb hts u_Mo hown hK hP 0 rfl rfl 2 (by decide) (hts _ kw_716) (fun _ h9 => h9) rfl d_Mo_beginOf_1 ?_
  refine lv_iload_n hx hb d_Mo_beginOf_4 rfl (lv_at hl 1 rfl) ?_
  refine x_iald (j := r) (v := (nI (V.pre r))) hx hb hK hP 2 0 rfl rfl hr0 (by decide) rfl rfl d_Mo_beginOf_5 ?_
  refine lv_i2l hx hb d_Mo_beginOf_6 rfl ?_
  refine lv_ldc2 hx hb hown (hts _ kw_858) d_Mo_beginOf_7 ?_
  refine lv_land hx hb d_Mo_beginOf_10 ?_
  exact W.lret (v := ((nI (V.pre r)).toInt64 &&& 4294967295)) hx hb hr (fun t ht hW => ⟨((nI (V.pre r)).toInt64 &&& 4294967295), rfl, (by exact k_start (hV.pre r)), ht⟩) (fun q h => nomatch h) d_Mo_beginOf_11
set_option maxHeartbeats 4000000 in
set_option maxRecDepth 100000 in
theorem c_Mo_isRecord (l : Launch) (dC : Nat → ClassId) (dI : Nat → Nat → Nat) (cI : ClassId) (o : Nat) (a : Nat → Nat) (V : MS) (hV : MSok V) (b d x : Nat) (hd : d < 2) (hod : b = 200 * d) (hx0 : x < 4294967296) : Met l y_Mo_isRecord (.code y_Mo_isRecord b_Mo_isRecord 3 (some .boolean) :: wG) ({ frames := 1, cells := 0, slots := 0, locals := 22 }) (PcS (dC, dI) [(cI, .int)] (wMo cI o a V) [.ref o, .int (nI b), .int (nI x)]) (vp_Si (fun r9 => r9 = bi (decide (x < V.mn d)))) 0 0 (fun _ => False) := by
  refine Met.ofW (cc := b_Mo_isRecord) (maxL := 3) (ret := (some .boolean)) (by decide) rfl ?_
  intro pg eg s mg ag bg meth cg s₁ B hml hv
  obtain ⟨rfl, hP, hK, hN⟩ := hv
  have hx := B.exec
  have hb := B.bytes
  have hr := B.returns
  have hlocks := B.notSynchronized
  have hts : ∀ w9 ∈ wG, w9.before ([.ref o, .int (nI b), .int (nI x)] : List Value).toArray s = true := fun w9 h9 => atoms_spec (ws := (.code y_Mo_isRecord b_Mo_isRecord 3 (some .boolean) :: wG)) B.pre w9 (List.mem_cons_of_mem _ h9)
  have hown : s.vm.findClass "PrefixRegistryModel" = some mg.cls := findClass_of_methodNamed B.named
  have hP : va_P (dC, dI) classes (wMo cI o a V) s.heap := hP
  have hl := lv_entry ([.ref o, .int (nI b), .int (nI x)]) (n := 3) (Nat.le_of_ble_eq_true rfl)
  rw [lg_entry_eq]
  generalize (lg_sl ([.ref o, .int (nI b), .int (nI x)]) ++ List.replicate (3 - (lg_sl ([.ref o, .int (nI b), .int (nI x)])).length) Slot.unset).toArray = ls at hl ⊢
  replace hl : lv_has ls 3 [(0, .ref o), (1, .int (nI b)), (2, .int (nI x))] := hl
  refine lv_iload_n hx hb d_Mo_isRecord_0 rfl (lv_at hl 2 rfl) ?_
  refine lv_iconst (v := 0) hx hb d_Mo_isRecord_1 (by decide) ?_
  refine lv_aload_n hx hb d_Mo_isRecord_2 rfl (lv_at hl 0 rfl) ?_
  refine va_get (D := (dC, dI)) (ci := 5) (v := .ref (a 0)) (C := R_Mo) (T := F_Mo) (N := 19) hx hb hts u_Mo hown hK hP 0 rfl rfl 1 (by decide) (hts _ kw_715) (fun _ h9 => h9) rfl d_Mo_isRecord_3 ?_
  refine lv_iload_n hx hb d_Mo_isRecord_6 rfl (lv_at hl 1 rfl) ?_
  refine lv_sipush (v := 200) hx hb d_Mo_isRecord_7 (by decide) ?_
  refine lv_idiv hx hb d_Mo_isRecord_10 (by decide) ?_
  refine x_topi (y := (nI d)) (by rw [hod]; exact k_d200 d hd) ?_
  refine x_iald (j := d) (v := (nI (V.mn d))) hx hb hK hP 1 0 rfl rfl hd (by decide) rfl rfl d_Mo_isRecord_11 ?_
  refine lv_iconst (v := 1) hx hb d_Mo_isRecord_12 (by decide) ?_
  refine lv_isub hx hb d_Mo_isRecord_13 ?_
  refine vp_callSi (W.runS (As := [.int (nI x), .int 0, .int ((nI (V.mn d)) - 1)]) (rest := []) ⟨hx, hb, hml, hown, hts⟩ (c_Mo_in l dC dI (nI x) 0 ((nI (V.mn d)) - 1)) (cwS 3 hts (gS kw_784 kw_785 kw_6 kw_786) rfl rfl rfl (by decide +kernel) ⟨Nat.le_of_ble_eq_true rfl, Nat.le_of_ble_eq_true rfl⟩) ⟨PcS.blind, PcS.use hP hK hN⟩ rfl rfl hl.1 rfl (lv_room (Nat.le_of_ble_eq_true rfl)) d_Mo_isRecord_14 ⟨Nat.zero_le _, Nat.zero_le _⟩) (fun r14 hr14 => ?_)
  obtain rfl : r14 = bi (decide (0 ≤ nI x ∧ nI x ≤ ((nI (V.mn d)) - 1))) := hr14
  exact W.zret (v := bi (decide (0 ≤ nI x ∧ nI x ≤ ((nI (V.mn d)) - 1)))) hx hb hr (bi_nar _) (fun t ht hW => ⟨bi (decide (0 ≤ nI x ∧ nI x ≤ ((nI (V.mn d)) - 1))), rfl, (by exact (isr_bi hV hd hx0).symm ▸ rfl), ht⟩) (fun q h => nomatch h) d_Mo_isRecord_17
