/-! cuts, first places, descent -/
def cutA (X : RS) : List Nat → Nat → Nat × Nat
  | [], _ => (0, 0)
  | j :: t, k => if k < cutN X j then (X.pre j + k * 2 ^ (32 - cl4 (X.len j)), cl4 (X.len j)) else cutA X t (k - cutN X j)
def cutV (X : RS) (L : List Nat) (k : Nat) (f : Bool) : Int32 := match f with
  | true => nI (cutA X L k).2
  | false => nI (cutA X L k).1
theorem cutN_le {X : RS} (hX : RSok X) (j : Nat) : cutN X j ≤ 8 := by
  unfold cutN
  have h := (cl4_lt _ (hX.len j)).2.2
  split
  · exact Nat.pow_le_pow_right (n := 2) (by decide) (show _ ≤ 3 by omega)
  · omega
theorem cutsL_le {X : RS} (hX : RSok X) : ∀ L : List Nat, cutsL X L ≤ 8 * L.length
  | [] => Nat.le_refl _
  | j :: t => by
    have h1 := cutsL_le hX t
    have h2 := cutN_le hX j
    simp only [cutsL, List.length_cons]
    omega
def fst (P : Nat → Bool) : Nat → Nat → Option Nat
  | _, 0 => none
  | i, k + 1 => if P i = true then some i else fst P (i + 1) k
def gwP (X : RS) (a v : Nat) (r : Nat) : Bool := decide (X.sta r = 1) && decide (X.lev r = v) && decide (mt2 (X.pre r) (X.len r) a 32)
def aob (pr : Nat → Option Nat) (a : Nat) : Nat → Option Nat → Bool
  | 0, _ => false
  | _ + 1, none => false
  | k + 1, some q => if q = a then true else aob pr a k (pr q)
set_option maxHeartbeats 4000000 in
set_option maxRecDepth 100000 in
theorem c_Re_cutAt (l : Launch) (dC : Nat → ClassId) (dI : Nat → Nat → Nat) (cI : ClassId) (h : Nat) (b : Nat → Nat) (X : RS) (hX : RSok X) (r : Nat) (hr0 : r < 200) (L : List Nat) (hC : chn X.nx (X.fc r) L) (hL : L.length ≤ 200) (k : Nat) (hk : k < cutsL X L) (f : Bool) : Met l y_Re_cutAt (.code y_Re_cutAt b_Re_cutAt 8 (some .int) :: wG) ({ frames := 2, cells := 0, slots := 0, locals := 41 }) (PcS (dC, dI) [(cI, .int)] (wRe cI h b X) [.ref h, .int (nI r), .int (nI k), .int (bi f)]) (vp_Si (fun r9 => r9 = cutV X L k f)) 0 0 (fun _ => False) := by
  refine Met.ofW (cc := b_Re_cutAt) (maxL := 8) (ret := (some .int)) (by decide) rfl ?_
  intro pg eg s mg ag bg meth cg s₁ B hml hv
  obtain ⟨rfl, hP, hK, hN⟩ := hv
  have hx := B.exec
  have hb := B.bytes
  have hr := B.returns
  have hlocks := B.notSynchronized
  have hts : ∀ w9 ∈ wG, w9.before ([.ref h, .int (nI r), .int (nI k), .int (bi f)] : List Value).toArray s = true := fun w9 h9 => atoms_spec (ws := (.code y_Re_cutAt b_Re_cutAt 8 (some .int) :: wG)) B.pre w9 (List.mem_cons_of_mem _ h9)
  have hown : s.vm.findClass "PrefixRegistry$Records" = some mg.cls := findClass_of_methodNamed B.named
  have hP : va_P (dC, dI) classes (wRe cI h b X) s.heap := hP
  have hl := lv_entry ([.ref h, .int (nI r), .int (nI k), .int (bi f)]) (n := 8) (Nat.le_of_ble_eq_true rfl)
  rw [lg_entry_eq]
  generalize (lg_sl ([.ref h, .int (nI r), .int (nI k), .int (bi f)]) ++ List.replicate (8 - (lg_sl ([.ref h, .int (nI r), .int (nI k), .int (bi f)])).length) Slot.unset).toArray = ls at hl ⊢
  replace hl : lv_has ls 8 [(0, .ref h), (1, .int (nI r)), (2, .int (nI k)), (3, .int (bi f))] := hl
  refine lv_iload_n hx hb d_Re_cutAt_0 rfl (lv_at hl 2 rfl) ?_
  refine lv_istore hx hb d_Re_cutAt_1 hl (by decide) rfl (fun ls hl => ?_)
  replace hl : lv_has ls 8 [(4, .int (nI k)), (0, .ref h), (1, .int (nI r)), (2, .int (nI k)), (3, .int (bi f))] := hl
  refine lv_aload_n hx hb d_Re_cutAt_3 rfl (lv_at hl 1 rfl) ?_
  refine va_get (D := (dC, dI)) (ci := 3) (v := .ref (b 7)) (C := R_Re) (T := F_Re) (N := 10) hx hb hts u_Re hown hK hP 0 rfl rfl 7 (by decide) (hts _ kw_52) (fun _ h9 => h9) rfl d_Re_cutAt_4 ?_
  refine lv_iload_n hx hb d_Re_cutAt_7 rfl (lv_at hl 2 rfl) ?_
  refine x_iald (j := r) (v := (pI (X.fc r))) hx hb hK hP 8 0 rfl rfl hr0 (by decide) rfl rfl d_Re_cutAt_8 ?_
  refine lv_istore hx hb d_Re_cutAt_9 hl (by decide) rfl (fun ls hl => ?_)
  replace hl : lv_has ls 8 [(5, .int (pI (X.fc r))), (4, .int (nI k)), (0, .ref h), (1, .int (nI r)), (2, .int (nI k)), (3, .int (bi f))] := hl
  refine lv_iconst (v := 0) hx hb d_Re_cutAt_11 (by decide) ?_
  refine lv_istore hx hb d_Re_cutAt_12 hl (by decide) rfl (fun ls hl => ?_)
  replace hl : lv_has ls 8 [(6, .int 0), (5, .int (pI (X.fc r))), (4, .int (nI k)), (0, .ref h), (1, .int (nI r)), (2, .int (nI k)), (3, .int (bi f))] := hl
  obtain ⟨Kl, hK0⟩ : ∃ Kl : List Nat, Kl = L := ⟨L, rfl⟩
  obtain ⟨i, hi⟩ : ∃ i : Nat, i = 0 := ⟨0, rfl⟩
  obtain ⟨lf, hlf⟩ : ∃ lf : Nat, lf = k := ⟨_, rfl⟩
  have hval : cutA X Kl lf = cutA X L k := by rw [hK0, hlf]
  have hlt : lf < cutsL X Kl := by rw [hK0, hlf]; exact hk
  replace hl : lv_has ls 8 [(6, .int (nI i)), (5, .int (pI (X.fc r))), (4, .int (nI lf)), (0, .ref h), (1, .int (nI r)), (2, .int (nI k)), (3, .int (bi f))] := by subst hi; subst hlf; exact hl
  clear hlf
  have ho : ∀ k, X.fc r = some k → k < 200 := fun k q => hX.fc q
  replace hC := hK0 ▸ hC
  replace hi : i + Kl.length ≤ 200 := by rw [hi, hK0]; omega
  clear hK0
  generalize X.fc r = o at hC ho hl
  replace hC : chn X.nx o Kl := hC
  replace ho := ho
  replace hi := hi
  replace hval := hval
  replace hlt := hlt
  replace hl : lv_has ls 8 [(6, .int (nI i)), (5, .int (pI o)), (4, .int (nI lf)), (0, .ref h), (1, .int (nI r)), (2, .int (nI k)), (3, .int (bi f))] := hl
  induction Kl generalizing o i ls lf with
  | nil =>
    exact absurd hlt (by simp [cutsL])
  | cons j t ih =>
    obtain ⟨rfl, hC⟩ := hC
    have hj : j < 200 := ho j rfl
    replace hi : i + (t.length + 1) ≤ 200 := hi
    replace hl : lv_has ls 8 [(6, .int (nI i)), (5, .int (nI j)), (4, .int (nI lf)), (0, .ref h), (1, .int (nI r)), (2, .int (nI k)), (3, .int (bi f))] := hl
    refine lv_iload hx hb d_Re_cutAt_14 (lv_at hl 0 rfl) ?_
    refine lv_sipush (v := 200) hx hb d_Re_cutAt_16 (by decide) ?_
    refine lv_icmp_ge hx hb d_Re_cutAt_19 rfl (fun h9 => absurd h9 (nI_ge (b := 200) (by omega) (by decide))) (fun _ => ?_)
    refine lv_iload hx hb d_Re_cutAt_22 (lv_at hl 1 rfl) ?_
    refine lv_iconst (v := (-1)) hx hb d_Re_cutAt_24 (by decide) ?_
    refine lv_icmp_eq hx hb d_Re_cutAt_25 rfl (fun h9 => absurd h9 (k_nm1 hj)) (fun _ => ?_)
    refine lv_iload hx hb d_Re_cutAt_28 (lv_at hl 2 rfl) ?_
    refine lv_aload_n hx hb d_Re_cutAt_30 rfl (lv_at hl 3 rfl) ?_
    refine lv_iload hx hb d_Re_cutAt_31 (lv_at hl 1 rfl) ?_
    refine vp_callSi (W.runV (b := h) (As := [.int (nI j)]) (rest := [.int (nI lf)]) ⟨hx, hb, hml, hown, hts⟩ (c_Re_cutsOf l dC dI cI h b X hX j hj) (cwV 1 hts (gV kw_668 kw_670 ks_21 kw_3 kw_671) rfl rfl rfl (by decide +kernel) ⟨Nat.le_of_ble_eq_true rfl, Nat.le_of_ble_eq_true rfl⟩) ⟨PcS.blind, va_recv (q0 := 0) hK hP rfl rfl, PcS.use hP hK hN⟩ rfl rfl hl.1 rfl (lv_room (Nat.le_of_ble_eq_true rfl)) d_Re_cutAt_33 ⟨Nat.zero_le _, Nat.zero_le _⟩) (fun r33 hr33 => ?_)
    obtain rfl : r33 = nI (cutN X j) := hr33
    refine lv_icmp_ge hx hb d_Re_cutAt_36 rfl (fun h36 => ?_) (fun h36 => ?_)
    · have h36 := (nI_leI (by have := cutN_le hX j; omega) (by have := cutsL_le hX (j :: t); simp only [List.length_cons] at this; omega)).mp h36
      refine lv_iload hx hb d_Re_cutAt_78 (lv_at hl 2 rfl) ?_
      refine lv_aload_n hx hb d_Re_cutAt_80 rfl (lv_at hl 3 rfl) ?_
      refine lv_iload hx hb d_Re_cutAt_81 (lv_at hl 1 rfl) ?_
      refine vp_callSi (W.runV (b := h) (As := [.int (nI j)]) (rest := [.int (nI lf)]) ⟨hx, hb, hml, hown, hts⟩ (c_Re_cutsOf l dC dI cI h b X hX j hj) (cwV 1 hts (gV kw_668 kw_670 ks_21 kw_3 kw_671) rfl rfl rfl (by decide +kernel) ⟨Nat.le_of_ble_eq_true rfl, Nat.le_of_ble_eq_true rfl⟩) ⟨PcS.blind, va_recv (q0 := 0) hK hP rfl rfl, PcS.use hP hK hN⟩ rfl rfl hl.1 rfl (lv_room (Nat.le_of_ble_eq_true rfl)) d_Re_cutAt_83 ⟨Nat.zero_le _, Nat.zero_le _⟩) (fun r83 hr83 => ?_)
      obtain rfl : r83 = nI (cutN X j) := hr83
      refine lv_isub hx hb d_Re_cutAt_86 ?_
      refine x_topi (y := (nI (lf - cutN X j))) (pk_sub h36) ?_
      refine lv_istore hx hb d_Re_cutAt_87 hl (by decide) rfl (fun ls hl => ?_)
      replace hl : lv_has ls 8 [(4, .int (nI (lf - cutN X j))), (6, .int (nI i)), (5, .int (nI j)), (0, .ref h), (1, .int (nI r)), (2, .int (nI k)), (3, .int (bi f))] := hl
      refine lv_aload_n hx hb d_Re_cutAt_89 rfl (lv_at hl 3 rfl) ?_
      refine va_get (D := (dC, dI)) (ci := 3) (v := .ref (b 8)) (C := R_Re) (T := F_Re) (N := 10) hx hb hts u_Re hown hK hP 0 rfl rfl 8 (by decide) (hts _ kw_55) (fun _ h9 => h9) rfl d_Re_cutAt_90 ?_
      refine lv_iload hx hb d_Re_cutAt_93 (lv_at hl 2 rfl) ?_
      refine x_iald (j := j) (v := (pI (X.nx j))) hx hb hK hP 9 0 rfl rfl hj (by decide) rfl rfl d_Re_cutAt_95 ?_
      refine lv_istore hx hb d_Re_cutAt_96 hl (by decide) rfl (fun ls hl => ?_)
      replace hl : lv_has ls 8 [(5, .int (pI (X.nx j))), (4, .int (nI (lf - cutN X j))), (6, .int (nI i)), (0, .ref h), (1, .int (nI r)), (2, .int (nI k)), (3, .int (bi f))] := hl
      refine lv_iinc hx hb d_Re_cutAt_98 hl (k := 2) (v := (nI (i + 1))) rfl (nI_1 i) (by decide) rfl (fun ls hl => ?_)
      replace hl : lv_has ls 8 [(6, .int (nI (i + 1))), (5, .int (pI (X.nx j))), (4, .int (nI (lf - cutN X j))), (0, .ref h), (1, .int (nI r)), (2, .int (nI k)), (3, .int (bi f))] := hl
      refine lv_goto hx hb d_Re_cutAt_101 rfl ?_
      refine ih _ _ _ _ hC (fun k q => hX.nx q) ?_ ?_ ?_ hl
      · omega
      · exact (by rw [← hval]; simp only [cutA]; rw [if_neg (by omega)])
      · exact (by simp only [cutsL] at hlt; omega)
    have h36 := mt (nI_leI (by have := cutN_le hX j; omega) (by have := cutsL_le hX (j :: t); simp only [List.length_cons] at this; omega)).mpr h36
    refine lv_aload_n hx hb d_Re_cutAt_39 rfl (lv_at hl 3 rfl) ?_
    refine va_get (D := (dC, dI)) (ci := 3) (v := .ref (b 1)) (C := R_Re) (T := F_Re) (N := 10) hx hb hts u_Re hown hK hP 0 rfl rfl 1 (by decide) (hts _ kw_39) (fun _ h9 => h9) rfl d_Re_cutAt_40 ?_
    refine lv_iload hx hb d_Re_cutAt_43 (lv_at hl 1 rfl) ?_
    refine x_iald (j := j) (v := (nI (X.len j))) hx hb hK hP 2 0 rfl rfl hj (by decide) rfl rfl d_Re_cutAt_45 ?_
    refine vp_callSi (va_Run.run (va_runSN (As := [.int (nI (X.len j))]) (rest := []) ⟨hx, hb, hml, hown, hts⟩ (c_PR_lengthOfCuts l dC dI (X.len j) (hX.len j)) ⟨va_cnB 1 hts (gI kw_674) rfl rfl rfl (hN.at 672 nw_672 rfl) (hts _ kw_1) (by decide +kernel) ⟨Nat.le_of_ble_eq_true rfl, Nat.le_of_ble_eq_true rfl⟩, hts _ kw_673, trivial⟩ ⟨PcS.blind, PcS.use hP hK hN⟩ rfl rfl hl.1 rfl (lv_room (Nat.le_of_ble_eq_true rfl)) d_Re_cutAt_46 ⟨Nat.zero_le _, Nat.zero_le _⟩)) (fun r46 hr46 => ?_)
    obtain rfl : r46 = nI (cl4 (X.len j)) := hr46
    refine lv_istore hx hb d_Re_cutAt_49 hl (by decide) rfl (fun ls hl => ?_)
    replace hl : lv_has ls 8 [(7, .int (nI (cl4 (X.len j)))), (6, .int (nI i)), (5, .int (nI j)), (4, .int (nI lf)), (0, .ref h), (1, .int (nI r)), (2, .int (nI k)), (3, .int (bi f))] := hl
    refine lv_iload_n hx hb d_Re_cutAt_51 rfl (lv_at hl 7 rfl) ?_
    refine lv_if_eq hx hb d_Re_cutAt_52 rfl (fun h52 => ?_) (fun h52 => ?_)
    · have h52 := (bi_eq0).mp h52
      refine lv_aload_n hx hb d_Re_cutAt_60 rfl (lv_at hl 4 rfl) ?_
      refine lv_iload hx hb d_Re_cutAt_61 (lv_at hl 2 rfl) ?_
      refine vp_callSl (W.runV (b := h) (As := [.int (nI j)]) (rest := []) ⟨hx, hb, hml, hown, hts⟩ (c_Re_start l dC dI cI h b X hX j hj) (cwV 1 hts (gV kw_172 kw_173 kw_174 kw_3 kw_175) rfl rfl rfl (by decide +kernel) ⟨Nat.le_of_ble_eq_true rfl, Nat.le_of_ble_eq_true rfl⟩) ⟨PcS.blind, va_recv (q0 := 0) hK hP rfl rfl, PcS.use hP hK hN⟩ rfl rfl hl.1 rfl (lv_room (Nat.le_of_ble_eq_true rfl)) d_Re_cutAt_63 ⟨Nat.zero_le _, Nat.zero_le _⟩) (fun r63 hr63 => ?_)
      obtain rfl : r63 = lN (X.pre j) := hr63
      refine lv_iload hx hb d_Re_cutAt_66 (lv_at hl 3 rfl) ?_
      refine lv_i2l hx hb d_Re_cutAt_68 rfl ?_
      refine x_topl (y := (lN lf)) (nI_l (by have := cutsL_le hX (j :: t); simp only [List.length_cons] at this; omega)) ?_
      refine lv_iload hx hb d_Re_cutAt_69 (lv_at hl 0 rfl) ?_
      refine vp_callSl (va_Run.run (va_runSN (As := [.int (nI (cl4 (X.len j)))]) (rest := [.long (lN lf), .long (lN (X.pre j))]) ⟨hx, hb, hml, hown, hts⟩ (c_PR_sizeOf l dC dI (cl4 (X.len j)) (cl4_lt _ (hX.len j)).1) ⟨va_cnB 1 hts (gI kw_178) rfl rfl rfl (hN.at 176 nw_176 rfl) (hts _ kw_1) (by decide +kernel) ⟨Nat.le_of_ble_eq_true rfl, Nat.le_of_ble_eq_true rfl⟩, hts _ kw_177, trivial⟩ ⟨PcS.blind, PcS.use hP hK hN⟩ rfl rfl hl.1 rfl (lv_room (Nat.le_of_ble_eq_true rfl)) d_Re_cutAt_71 ⟨Nat.zero_le _, Nat.zero_le _⟩)) (fun r71 hr71 => ?_)
      obtain rfl : r71 = lN (2 ^ (32 - (cl4 (X.len j)))) := hr71
      refine lv_lmul hx hb d_Re_cutAt_74 ?_
      refine x_topl (y := (lN (lf * 2 ^ (32 - cl4 (X.len j))))) (lN_mul _ _) ?_
      refine lv_ladd hx hb d_Re_cutAt_75 ?_
      refine x_topl (y := (lN (X.pre j + lf * 2 ^ (32 - cl4 (X.len j))))) (lN_add _ _) ?_
      refine lv_l2i hx hb d_Re_cutAt_76 rfl ?_
      refine x_topi (y := (nI (X.pre j + lf * 2 ^ (32 - cl4 (X.len j))))) (lN_i _) ?_
      exact W.iret (v := (nI (X.pre j + lf * 2 ^ (32 - cl4 (X.len j))))) hx hb hr (fun t ht hW => ⟨(nI (X.pre j + lf * 2 ^ (32 - cl4 (X.len j)))), rfl, (by unfold cutV; rw [← hval]; simp only [cutA]; rw [if_pos (by omega), h52]), ht⟩) (fun q h => nomatch h) d_Re_cutAt_77
    have h52 : f = true := by cases f with | false => exact absurd rfl h52 | true => rfl
    refine lv_iload hx hb d_Re_cutAt_55 (lv_at hl 0 rfl) ?_
    refine lv_goto hx hb d_Re_cutAt_57 rfl ?_
    exact W.iret (v := nI (cl4 (X.len j))) hx hb hr (fun t ht hW => ⟨nI (cl4 (X.len j)), rfl, (by unfold cutV; rw [← hval]; simp only [cutA]; rw [if_pos (by omega), h52]), ht⟩) (fun q h => nomatch h) d_Re_cutAt_77
set_option maxHeartbeats 4000000 in
set_option maxRecDepth 100000 in
theorem c_Re_givenWith (l : Launch) (dC : Nat → ClassId) (dI : Nat → Nat → Nat) (cI : ClassId) (h : Nat) (b : Nat → Nat) (X : RS) (hX : RSok X) (a v : Nat) (ha : a < 4294967296) (hv : v < 4294967296) : Met l y_Re_givenWith (.code y_Re_givenWith b_Re_givenWith 4 (some .int) :: wG) ({ frames := 3, cells := 0, slots := 0, locals := 66 }) (PcS (dC, dI) [(cI, .int)] (wRe cI h b X) [.ref h, .int (nI a), .int (nI v)]) (vp_Si (fun r9 => r9 = pI (fst (gwP X a v) 0 X.n))) 0 0 (fun _ => False) := by
  refine Met.ofW (cc := b_Re_givenWith) (maxL := 4) (ret := (some .int)) (by decide) rfl ?_
  intro pg eg s mg ag bg meth cg s₁ B hml hv
  obtain ⟨rfl, hP, hK, hN⟩ := hv
  have hx := B.exec
  have hb := B.bytes
  have hr := B.returns
  have hlocks := B.notSynchronized
  have hts : ∀ w9 ∈ wG, w9.before ([.ref h, .int (nI a), .int (nI v)] : List Value).toArray s = true := fun w9 h9 => atoms_spec (ws := (.code y_Re_givenWith b_Re_givenWith 4 (some .int) :: wG)) B.pre w9 (List.mem_cons_of_mem _ h9)
  have hown : s.vm.findClass "PrefixRegistry$Records" = some mg.cls := findClass_of_methodNamed B.named
  have hP : va_P (dC, dI) classes (wRe cI h b X) s.heap := hP
  have hl := lv_entry ([.ref h, .int (nI a), .int (nI v)]) (n := 4) (Nat.le_of_ble_eq_true rfl)
  rw [lg_entry_eq]
  generalize (lg_sl ([.ref h, .int (nI a), .int (nI v)]) ++ List.replicate (4 - (lg_sl ([.ref h, .int (nI a), .int (nI v)])).length) Slot.unset).toArray = ls at hl ⊢
  replace hl : lv_has ls 4 [(0, .ref h), (1, .int (nI a)), (2, .int (nI v))] := hl
  refine lv_iconst (v := 0) hx hb d_Re_givenWith_0 (by decide) ?_
  refine lv_istore_n hx hb d_Re_givenWith_1 rfl hl (by decide) rfl (fun ls hl => ?_)
  replace hl : lv_has ls 4 [(3, .int 0), (0, .ref h), (1, .int (nI a)), (2, .int (nI v))] := hl
  obtain ⟨i, hi0⟩ : ∃ i : Nat, i = 0 := ⟨_, rfl⟩
  obtain ⟨k, hk0⟩ : ∃ k : Nat, k = X.n - 0 := ⟨_, rfl⟩
  have hres : fst (gwP X a v) i k = fst (gwP X a v) 0 X.n := by rw [hi0, hk0]; rfl
  replace hl : lv_has ls 4 [(3, .int (nI i)), (0, .ref h), (1, .int (nI a)), (2, .int (nI v))] := by subst hi0; exact hl
  have hik : i + k = X.n := by omega
  clear hi0 hk0 
  replace hres := hres
  replace hl : lv_has ls 4 [(3, .int (nI i)), (0, .ref h), (1, .int (nI a)), (2, .int (nI v))] := hl
  induction k generalizing i ls  with
  | zero =>
    refine lv_iload_n hx hb d_Re_givenWith_2 rfl (lv_at hl 0 rfl) ?_
    refine lv_aload_n hx hb d_Re_givenWith_3 rfl (lv_at hl 1 rfl) ?_
    refine va_get (D := (dC, dI)) (ci := 3) (v := .int (nI X.n)) (C := R_Re) (T := F_Re) (N := 10) hx hb hts u_Re hown hK hP 0 rfl rfl 9 (by decide) (hts _ kw_58) (fun _ h9 => h9) rfl d_Re_givenWith_4 ?_
    refine lv_icmp_ge hx hb d_Re_givenWith_7 rfl (fun _ => ?_) (fun h9 => absurd (nI_le (by omega) (by have := hX.n; omega)) h9)
    refine lv_iconst (v := (-1)) hx hb d_Re_givenWith_49 (by decide) ?_
    exact W.iret (v := (-1)) hx hb hr (fun t ht hW => ⟨(-1), rfl, (by rw [← hres]; rfl), ht⟩) (fun q h => nomatch h) d_Re_givenWith_50
  | succ k ih =>
    refine lv_iload_n hx hb d_Re_givenWith_2 rfl (lv_at hl 0 rfl) ?_
    refine lv_aload_n hx hb d_Re_givenWith_3 rfl (lv_at hl 1 rfl) ?_
    refine va_get (D := (dC, dI)) (ci := 3) (v := .int (nI X.n)) (C := R_Re) (T := F_Re) (N := 10) hx hb hts u_Re hown hK hP 0 rfl rfl 9 (by decide) (hts _ kw_58) (fun _ h9 => h9) rfl d_Re_givenWith_4 ?_
    refine lv_icmp_ge hx hb d_Re_givenWith_7 rfl (fun h9 => absurd h9 (nI_ge (by omega) (by have := hX.n; omega))) (fun _ => ?_)
    refine lv_aload_n hx hb d_Re_givenWith_10 rfl (lv_at hl 1 rfl) ?_
    refine va_get (D := (dC, dI)) (ci := 3) (v := .ref (b 5)) (C := R_Re) (T := F_Re) (N := 10) hx hb hts u_Re hown hK hP 0 rfl rfl 5 (by decide) (hts _ kw_47) (fun _ h9 => h9) rfl d_Re_givenWith_11 ?_
    refine lv_iload_n hx hb d_Re_givenWith_14 rfl (lv_at hl 0 rfl) ?_
    refine x_iald (j := i) (v := (nI (X.sta i))) hx hb hK hP 6 0 rfl rfl (by have := hX.n; omega) (by decide) rfl rfl d_Re_givenWith_15 ?_
    refine lv_iconst (v := 1) hx hb d_Re_givenWith_16 (by decide) ?_
    refine lv_icmp_ne hx hb d_Re_givenWith_17 rfl (fun h17 => ?_) (fun h17 => ?_)
    · have h17 := mt (k_eq (b := 1) (by have := hX.sta i; omega) (by decide)).mpr h17
      refine lv_iinc hx hb d_Re_givenWith_43 hl (k := 0) (v := (nI (i + 1))) rfl (nI_1 i) (by decide) rfl (fun ls hl => ?_)
      replace hl : lv_has ls 4 [(3, .int (nI (i + 1))), (0, .ref h), (1, .int (nI a)), (2, .int (nI v))] := hl
      refine lv_goto hx hb d_Re_givenWith_46 rfl ?_
      refine ih _ _ ?_ ?_ hl
      · omega
      · exact (by rw [← hres]; simp only [fst]; rw [if_neg (by unfold gwP; simp only [Bool.and_eq_true, decide_eq_true_eq]; omega)])
    have h17 := (k_eq (b := 1) (by have := hX.sta i; omega) (by decide)).mp h17
    refine lv_aload_n hx hb d_Re_givenWith_20 rfl (lv_at hl 1 rfl) ?_
    refine va_get (D := (dC, dI)) (ci := 3) (v := .ref (b 3)) (C := R_Re) (T := F_Re) (N := 10) hx hb hts u_Re hown hK hP 0 rfl rfl 3 (by decide) (hts _ kw_43) (fun _ h9 => h9) rfl d_Re_givenWith_21 ?_
    refine lv_iload_n hx hb d_Re_givenWith_24 rfl (lv_at hl 0 rfl) ?_
    refine x_iald (j := i) (v := (nI (X.lev i))) hx hb hK hP 4 0 rfl rfl (by have := hX.n; omega) (by decide) rfl rfl d_Re_givenWith_25 ?_
    refine lv_iload_n hx hb d_Re_givenWith_26 rfl (lv_at hl 3 rfl) ?_
    refine lv_icmp_ne hx hb d_Re_givenWith_27 rfl (fun h27 => ?_) (fun h27 => ?_)
    · have h27 := mt (k_eq (by have := hX.lev i; omega) hv).mpr h27
      refine lv_iinc hx hb d_Re_givenWith_43 hl (k := 0) (v := (nI (i + 1))) rfl (nI_1 i) (by decide) rfl (fun ls hl => ?_)
      replace hl : lv_has ls 4 [(3, .int (nI (i + 1))), (0, .ref h), (1, .int (nI a)), (2, .int (nI v))] := hl
      refine lv_goto hx hb d_Re_givenWith_46 rfl ?_
      refine ih _ _ ?_ ?_ hl
      · omega
      · exact (by rw [← hres]; simp only [fst]; rw [if_neg (by unfold gwP; simp only [Bool.and_eq_true, decide_eq_true_eq]; omega)])
    have h27 := (k_eq (by have := hX.lev i; omega) hv).mp h27
    refine lv_aload_n hx hb d_Re_givenWith_30 rfl (lv_at hl 1 rfl) ?_
    refine lv_iload_n hx hb d_Re_givenWith_31 rfl (lv_at hl 0 rfl) ?_
    refine lv_iload_n hx hb d_Re_givenWith_32 rfl (lv_at hl 2 rfl) ?_
    refine lv_bipush (v := 32) hx hb d_Re_givenWith_33 (by decide) ?_
    refine vp_callSi (W.runV (b := h) (As := [.int (nI i), .int (nI a), .int 32]) (rest := []) ⟨hx, hb, hml, hown, hts⟩ (c_Re_meets l dC dI cI h b X hX i (by have := hX.n; omega) a 32 ha (by decide)) (cwV 3 hts (gV kw_164 kw_165 kw_166 kw_3 kw_167) rfl rfl rfl (by decide +kernel) ⟨Nat.le_of_ble_eq_true rfl, Nat.le_of_ble_eq_true rfl⟩) ⟨PcS.blind, va_recv (q0 := 0) hK hP rfl rfl, PcS.use hP hK hN⟩ rfl rfl hl.1 rfl (lv_room (Nat.le_of_ble_eq_true rfl)) d_Re_givenWith_35 ⟨Nat.zero_le _, Nat.zero_le _⟩) (fun r35 hr35 => ?_)
    obtain rfl : r35 = bi (decide (mt2 (X.pre i) (X.len i) a 32)) := hr35
    refine lv_if_eq hx hb d_Re_givenWith_38 rfl (fun h38 => ?_) (fun h38 => ?_)
    · have h38 := (bi_d).mp h38
      refine lv_iinc hx hb d_Re_givenWith_43 hl (k := 0) (v := (nI (i + 1))) rfl (nI_1 i) (by decide) rfl (fun ls hl => ?_)
      replace hl : lv_has ls 4 [(3, .int (nI (i + 1))), (0, .ref h), (1, .int (nI a)), (2, .int (nI v))] := hl
      refine lv_goto hx hb d_Re_givenWith_46 rfl ?_
      refine ih _ _ ?_ ?_ hl
      · omega
      · exact (by rw [← hres]; simp only [fst]; rw [if_neg (by unfold gwP; simp only [Bool.and_eq_true, decide_eq_true_eq]; omega)])
    have h38 := Decidable.not_not.mp (mt bi_d.mpr h38)
    refine lv_iload_n hx hb d_Re_givenWith_41 rfl (lv_at hl 0 rfl) ?_
    exact W.iret (v := (nI i)) hx hb hr (fun t ht hW => ⟨(nI i), rfl, (by rw [← hres]; simp only [fst]; rw [if_pos (by unfold gwP; simp only [Bool.and_eq_true, decide_eq_true_eq]; exact ⟨⟨h17, h27⟩, h38⟩)]; rfl), ht⟩) (fun q h => nomatch h) d_Re_givenWith_42
set_option maxHeartbeats 4000000 in
set_option maxRecDepth 100000 in
theorem c_Re_isAtOrBelow (l : Launch) (dC : Nat → ClassId) (dI : Nat → Nat → Nat) (cI : ClassId) (h : Nat) (b : Nat → Nat) (X : RS) (hX : RSok X) (j : Nat) (hj : j < 200) (a : Nat) (ha : a < 200) : Met l y_Re_isAtOrBelow (.code y_Re_isAtOrBelow b_Re_isAtOrBelow 5 (some .boolean) :: wG) ({ frames := 0, cells := 0, slots := 0, locals := 0 }) (PcS (dC, dI) [(cI, .int)] (wRe cI h b X) [.ref h, .int (nI j), .int (nI a)]) (vp_Si (fun r9 => r9 = bi (aob X.par a 5 (some j)))) 0 0 (fun _ => False) := by
  refine Met.ofW (cc := b_Re_isAtOrBelow) (maxL := 5) (ret := (some .boolean)) (by decide) rfl ?_
  intro pg eg s mg ag bg meth cg s₁ B hml hv
  obtain ⟨rfl, hP, hK, hN⟩ := hv
  have hx := B.exec
  have hb := B.bytes
  have hr := B.returns
  have hlocks := B.notSynchronized
  have hts : ∀ w9 ∈ wG, w9.before ([.ref h, .int (nI j), .int (nI a)] : List Value).toArray s = true := fun w9 h9 => atoms_spec (ws := (.code y_Re_isAtOrBelow b_Re_isAtOrBelow 5 (some .boolean) :: wG)) B.pre w9 (List.mem_cons_of_mem _ h9)
  have hown : s.vm.findClass "PrefixRegistry$Records" = some mg.cls := findClass_of_methodNamed B.named
  have hP : va_P (dC, dI) classes (wRe cI h b X) s.heap := hP
  have hl := lv_entry ([.ref h, .int (nI j), .int (nI a)]) (n := 5) (Nat.le_of_ble_eq_true rfl)
  rw [lg_entry_eq]
  generalize (lg_sl ([.ref h, .int (nI j), .int (nI a)]) ++ List.replicate (5 - (lg_sl ([.ref h, .int (nI j), .int (nI a)])).length) Slot.unset).toArray = ls at hl ⊢
  replace hl : lv_has ls 5 [(0, .ref h), (1, .int (nI j)), (2, .int (nI a))] := hl
  refine lv_iload_n hx hb d_Re_isAtOrBelow_0 rfl (lv_at hl 1 rfl) ?_
  refine lv_istore_n hx hb d_Re_isAtOrBelow_1 rfl hl (by decide) rfl (fun ls hl => ?_)
  replace hl : lv_has ls 5 [(3, .int (nI j)), (0, .ref h), (1, .int (nI j)), (2, .int (nI a))] := hl
  refine lv_iconst (v := 0) hx hb d_Re_isAtOrBelow_2 (by decide) ?_
  refine lv_istore hx hb d_Re_isAtOrBelow_3 hl (by decide) rfl (fun ls hl => ?_)
  replace hl : lv_has ls 5 [(4, .int 0), (3, .int (nI j)), (0, .ref h), (1, .int (nI j)), (2, .int (nI a))] := hl
  obtain ⟨i, hi0⟩ : ∃ i : Nat, i = 0 := ⟨_, rfl⟩
  obtain ⟨k, hk0⟩ : ∃ k : Nat, k = 5 - 0 := ⟨_, rfl⟩
  obtain ⟨o, ho⟩ : ∃ o : Option Nat, o = some j := ⟨_, rfl⟩
  have hres : aob X.par a k o = aob X.par a 5 (some j) := by rw [hk0, ho]
  have hob : ∀ z, o = some z → z < 200 := by intro z q; rw [ho] at q; cases q; exact hj
  replace hl : lv_has ls 5 [(4, .int (nI i)), (3, .int (pI o)), (0, .ref h), (1, .int (nI j)), (2, .int (nI a))] := by subst hi0; subst ho; exact hl
  have hik : i + k = 5 := by omega
  clear hi0 hk0 ho
  replace hres := hres
  replace hob := hob
  replace hl : lv_has ls 5 [(4, .int (nI i)), (3, .int (pI o)), (0, .ref h), (1, .int (nI j)), (2, .int (nI a))] := hl
  induction k generalizing i ls o with
  | zero =>
    refine lv_iload hx hb d_Re_isAtOrBelow_5 (lv_at hl 0 rfl) ?_
    refine lv_iconst (v := 4) hx hb d_Re_isAtOrBelow_7 (by decide) ?_
    refine lv_icmp_gt hx hb d_Re_isAtOrBelow_8 rfl (fun _ => ?_) (fun h9 => absurd (nI_lt (a := 4) (by omega) (by omega)) h9)
    refine lv_iconst (v := 0) hx hb d_Re_isAtOrBelow_36 (by decide) ?_
    exact W.zret (v := 0) hx hb hr (by decide) (fun t ht hW => ⟨0, rfl, (by rw [← hres]; rfl), ht⟩) (fun q h => nomatch h) d_Re_isAtOrBelow_37
  | succ k ih =>
    refine lv_iload hx hb d_Re_isAtOrBelow_5 (lv_at hl 0 rfl) ?_
    refine lv_iconst (v := 4) hx hb d_Re_isAtOrBelow_7 (by decide) ?_
    refine lv_icmp_gt hx hb d_Re_isAtOrBelow_8 rfl (fun h9 => absurd h9 (nI_nlt (a := 4) (by omega) (by omega))) (fun _ => ?_)
    refine lv_iload_n hx hb d_Re_isAtOrBelow_11 rfl (lv_at hl 1 rfl) ?_
    refine lv_iconst (v := (-1)) hx hb d_Re_isAtOrBelow_12 (by decide) ?_
    refine lv_icmp_eq hx hb d_Re_isAtOrBelow_13 rfl (fun h13 => ?_) (fun h13 => ?_)
    · have h13 : o = none := (pI_m1 (fun z q => by have := hob z q; omega)).mp h13
      subst h13
      refine lv_iconst (v := 0) hx hb d_Re_isAtOrBelow_36 (by decide) ?_
      exact W.zret (v := 0) hx hb hr (by decide) (fun t ht hW => ⟨0, rfl, (by rw [← hres]; rfl), ht⟩) (fun q h => nomatch h) d_Re_isAtOrBelow_37
    obtain ⟨q, rfl⟩ : ∃ q, o = some q := by cases o with | none => exact absurd rfl h13 | some q => exact ⟨q, rfl⟩
    have hq : q < 200 := hob q rfl
    replace hl : lv_has ls 5 [(4, .int (nI i)), (3, .int (nI q)), (0, .ref h), (1, .int (nI j)), (2, .int (nI a))] := hl
    refine lv_iload_n hx hb d_Re_isAtOrBelow_16 rfl (lv_at hl 1 rfl) ?_
    refine lv_iload_n hx hb d_Re_isAtOrBelow_17 rfl (lv_at hl 4 rfl) ?_
    refine lv_icmp_ne hx hb d_Re_isAtOrBelow_18 rfl (fun h18 => ?_) (fun h18 => ?_)
    · have h18 := mt (nI_eq (by omega) (by omega)).mpr h18
      refine lv_aload_n hx hb d_Re_isAtOrBelow_23 rfl (lv_at hl 2 rfl) ?_
      refine va_get (D := (dC, dI)) (ci := 3) (v := .ref (b 2)) (C := R_Re) (T := F_Re) (N := 10) hx hb hts u_Re hown hK hP 0 rfl rfl 2 (by decide) (hts _ kw_41) (fun _ h9 => h9) rfl d_Re_isAtOrBelow_24 ?_
      refine lv_iload_n hx hb d_Re_isAtOrBelow_27 rfl (lv_at hl 1 rfl) ?_
      refine x_iald (j := q) (v := (pI (X.par q))) hx hb hK hP 3 0 rfl rfl hq (by decide) rfl rfl d_Re_isAtOrBelow_28 ?_
      refine lv_istore_n hx hb d_Re_isAtOrBelow_29 rfl hl (by decide) rfl (fun ls hl => ?_)
      replace hl : lv_has ls 5 [(3, .int (pI (X.par q))), (4, .int (nI i)), (0, .ref h), (1, .int (nI j)), (2, .int (nI a))] := hl
      refine lv_iinc hx hb d_Re_isAtOrBelow_30 hl (k := 1) (v := (nI (i + 1))) rfl (nI_1 i) (by decide) rfl (fun ls hl => ?_)
      replace hl : lv_has ls 5 [(4, .int (nI (i + 1))), (3, .int (pI (X.par q))), (0, .ref h), (1, .int (nI j)), (2, .int (nI a))] := hl
      refine lv_goto hx hb d_Re_isAtOrBelow_33 rfl ?_
      refine ih _ _ _ ?_ ?_ ?_ hl
      · omega
      · exact (by rw [← hres]; simp only [aob]; rw [if_neg h18])
      · exact (fun z q => hX.par q)
    have h18 := (nI_eq (by omega) (by omega)).mp h18
    refine lv_iconst (v := 1) hx hb d_Re_isAtOrBelow_21 (by decide) ?_
    exact W.zret (v := 1) hx hb hr (by decide) (fun t ht hW => ⟨1, rfl, (by rw [← hres]; simp only [aob]; rw [if_pos h18]; rfl), ht⟩) (fun q h => nomatch h) d_Re_isAtOrBelow_22
