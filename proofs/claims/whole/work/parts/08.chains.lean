/-! chains of children -/
def chn (nx : Nat → Option Nat) : Option Nat → List Nat → Prop
  | o, [] => o = none
  | o, j :: t => o = some j ∧ chn nx (nx j) t
theorem k_nm1 {j : Nat} (h : j < 200) : ¬ nI j = -1 := by
  rw [k_m1, k_eq (by omega) (by decide)]; omega
def cutN (X : RS) (j : Nat) : Nat := if X.sta j = 1 then 2 ^ (cl4 (X.len j) - X.len j) else 0
def usedL (X : RS) : List Nat → Nat
  | [] => 0
  | j :: t => 2 ^ (32 - X.len j) + usedL X t
def cutsL (X : RS) : List Nat → Nat
  | [] => 0
  | j :: t => cutN X j + cutsL X t
set_option maxHeartbeats 4000000 in
set_option maxRecDepth 100000 in
theorem c_Re_fact (l : Launch) (dC : Nat → ClassId) (dI : Nat → Nat → Nat) (cI : ClassId) (h : Nat) (b : Nat → Nat) (X : RS) (hX : RSok X) (j : Nat) (hj : j < 200) (w : Nat) (hw : w < 7) : Met l y_Re_fact (.code y_Re_fact b_Re_fact 3 (some .int) :: wG) ({ frames := 0, cells := 0, slots := 0, locals := 0 }) (PcS (dC, dI) [(cI, .int)] (wRe cI h b X) [.ref h, .int (nI j), .int (nI w)]) (vp_Si (fun r9 => r9 = fct X j w)) 0 0 (fun _ => False) := by
  refine Met.ofW (cc := b_Re_fact) (maxL := 3) (ret := (some .int)) (by decide) rfl ?_
  intro pg eg s mg ag bg meth cg s₁ B hml hv
  obtain ⟨rfl, hP, hK, hN⟩ := hv
  have hx := B.exec
  have hb := B.bytes
  have hr := B.returns
  have hlocks := B.notSynchronized
  have hts : ∀ w9 ∈ wG, w9.before ([.ref h, .int (nI j), .int (nI w)] : List Value).toArray s = true := fun w9 h9 => atoms_spec (ws := (.code y_Re_fact b_Re_fact 3 (some .int) :: wG)) B.pre w9 (List.mem_cons_of_mem _ h9)
  have hown : s.vm.findClass "PrefixRegistry$Records" = some mg.cls := findClass_of_methodNamed B.named
  have hP : va_P (dC, dI) classes (wRe cI h b X) s.heap := hP
  have hl := lv_entry ([.ref h, .int (nI j), .int (nI w)]) (n := 3) (Nat.le_of_ble_eq_true rfl)
  rw [lg_entry_eq]
  generalize (lg_sl ([.ref h, .int (nI j), .int (nI w)]) ++ List.replicate (3 - (lg_sl ([.ref h, .int (nI j), .int (nI w)])).length) Slot.unset).toArray = ls at hl ⊢
  replace hl : lv_has ls 3 [(0, .ref h), (1, .int (nI j)), (2, .int (nI w))] := hl
  obtain rfl | rfl | rfl | rfl | rfl | rfl | rfl : w = 0 ∨ w = 1 ∨ w = 2 ∨ w = 3 ∨ w = 4 ∨ w = 5 ∨ w = 6 := by omega
  · refine lv_iload_n hx hb d_Re_fact_0 rfl (lv_at hl 2 rfl) ?_
    refine lv_tableIn (tgt := 40) hx hb d_Re_fact_1 (by decide) (by decide) rfl rfl ?_
    refine lv_aload_n hx hb d_Re_fact_40 rfl (lv_at hl 0 rfl) ?_
    refine va_get (D := (dC, dI)) (ci := 3) (v := .ref (b 0)) (C := R_Re) (T := F_Re) (N := 10) hx hb hts u_Re hown hK hP 0 rfl rfl 0 (by decide) (hts _ kw_37) (fun _ h9 => h9) rfl d_Re_fact_41 ?_
    refine lv_iload_n hx hb d_Re_fact_44 rfl (lv_at hl 1 rfl) ?_
    refine x_iald (j := j) (v := (nI (X.pre j))) hx hb hK hP 1 0 rfl rfl hj (by decide) rfl rfl d_Re_fact_45 ?_
    exact W.iret (v := (nI (X.pre j))) hx hb hr (fun t ht hW => ⟨(nI (X.pre j)), rfl, (by rfl), ht⟩) (fun q h => nomatch h) d_Re_fact_46
  · refine lv_iload_n hx hb d_Re_fact_0 rfl (lv_at hl 2 rfl) ?_
    refine lv_tableIn (tgt := 47) hx hb d_Re_fact_1 (by decide) (by decide) rfl rfl ?_
    refine lv_aload_n hx hb d_Re_fact_47 rfl (lv_at hl 0 rfl) ?_
    refine va_get (D := (dC, dI)) (ci := 3) (v := .ref (b 1)) (C := R_Re) (T := F_Re) (N := 10) hx hb hts u_Re hown hK hP 0 rfl rfl 1 (by decide) (hts _ kw_39) (fun _ h9 => h9) rfl d_Re_fact_48 ?_
    refine lv_iload_n hx hb d_Re_fact_51 rfl (lv_at hl 1 rfl) ?_
    refine x_iald (j := j) (v := (nI (X.len j))) hx hb hK hP 2 0 rfl rfl hj (by decide) rfl rfl d_Re_fact_52 ?_
    exact W.iret (v := (nI (X.len j))) hx hb hr (fun t ht hW => ⟨(nI (X.len j)), rfl, (by rfl), ht⟩) (fun q h => nomatch h) d_Re_fact_53
  · refine lv_iload_n hx hb d_Re_fact_0 rfl (lv_at hl 2 rfl) ?_
    refine lv_tableIn (tgt := 54) hx hb d_Re_fact_1 (by decide) (by decide) rfl rfl ?_
    refine lv_aload_n hx hb d_Re_fact_54 rfl (lv_at hl 0 rfl) ?_
    refine va_get (D := (dC, dI)) (ci := 3) (v := .ref (b 2)) (C := R_Re) (T := F_Re) (N := 10) hx hb hts u_Re hown hK hP 0 rfl rfl 2 (by decide) (hts _ kw_41) (fun _ h9 => h9) rfl d_Re_fact_55 ?_
    refine lv_iload_n hx hb d_Re_fact_58 rfl (lv_at hl 1 rfl) ?_
    refine x_iald (j := j) (v := (pI (X.par j))) hx hb hK hP 3 0 rfl rfl hj (by decide) rfl rfl d_Re_fact_59 ?_
    exact W.iret (v := (pI (X.par j))) hx hb hr (fun t ht hW => ⟨(pI (X.par j)), rfl, (by rfl), ht⟩) (fun q h => nomatch h) d_Re_fact_60
  · refine lv_iload_n hx hb d_Re_fact_0 rfl (lv_at hl 2 rfl) ?_
    refine lv_tableIn (tgt := 61) hx hb d_Re_fact_1 (by decide) (by decide) rfl rfl ?_
    refine lv_aload_n hx hb d_Re_fact_61 rfl (lv_at hl 0 rfl) ?_
    refine va_get (D := (dC, dI)) (ci := 3) (v := .ref (b 3)) (C := R_Re) (T := F_Re) (N := 10) hx hb hts u_Re hown hK hP 0 rfl rfl 3 (by decide) (hts _ kw_43) (fun _ h9 => h9) rfl d_Re_fact_62 ?_
    refine lv_iload_n hx hb d_Re_fact_65 rfl (lv_at hl 1 rfl) ?_
    refine x_iald (j := j) (v := (nI (X.lev j))) hx hb hK hP 4 0 rfl rfl hj (by decide) rfl rfl d_Re_fact_66 ?_
    exact W.iret (v := (nI (X.lev j))) hx hb hr (fun t ht hW => ⟨(nI (X.lev j)), rfl, (by rfl), ht⟩) (fun q h => nomatch h) d_Re_fact_67
  · refine lv_iload_n hx hb d_Re_fact_0 rfl (lv_at hl 2 rfl) ?_
    refine lv_tableIn (tgt := 68) hx hb d_Re_fact_1 (by decide) (by decide) rfl rfl ?_
    refine lv_aload_n hx hb d_Re_fact_68 rfl (lv_at hl 0 rfl) ?_
    refine va_get (D := (dC, dI)) (ci := 3) (v := .ref (b 4)) (C := R_Re) (T := F_Re) (N := 10) hx hb hts u_Re hown hK hP 0 rfl rfl 4 (by decide) (hts _ kw_45) (fun _ h9 => h9) rfl d_Re_fact_69 ?_
    refine lv_iload_n hx hb d_Re_fact_72 rfl (lv_at hl 1 rfl) ?_
    refine x_iald (j := j) (v := (nI (X.hol j))) hx hb hK hP 5 0 rfl rfl hj (by decide) rfl rfl d_Re_fact_73 ?_
    exact W.iret (v := (nI (X.hol j))) hx hb hr (fun t ht hW => ⟨(nI (X.hol j)), rfl, (by rfl), ht⟩) (fun q h => nomatch h) d_Re_fact_74
  · refine lv_iload_n hx hb d_Re_fact_0 rfl (lv_at hl 2 rfl) ?_
    refine lv_tableIn (tgt := 75) hx hb d_Re_fact_1 (by decide) (by decide) rfl rfl ?_
    refine lv_aload_n hx hb d_Re_fact_75 rfl (lv_at hl 0 rfl) ?_
    refine va_get (D := (dC, dI)) (ci := 3) (v := .ref (b 5)) (C := R_Re) (T := F_Re) (N := 10) hx hb hts u_Re hown hK hP 0 rfl rfl 5 (by decide) (hts _ kw_47) (fun _ h9 => h9) rfl d_Re_fact_76 ?_
    refine lv_iload_n hx hb d_Re_fact_79 rfl (lv_at hl 1 rfl) ?_
    refine x_iald (j := j) (v := (nI (X.sta j))) hx hb hK hP 6 0 rfl rfl hj (by decide) rfl rfl d_Re_fact_80 ?_
    exact W.iret (v := (nI (X.sta j))) hx hb hr (fun t ht hW => ⟨(nI (X.sta j)), rfl, (by rfl), ht⟩) (fun q h => nomatch h) d_Re_fact_81
  · refine lv_iload_n hx hb d_Re_fact_0 rfl (lv_at hl 2 rfl) ?_
    refine lv_tableOut (tgt := 82) hx hb d_Re_fact_1 (by decide) rfl ?_
    refine lv_aload_n hx hb d_Re_fact_82 rfl (lv_at hl 0 rfl) ?_
    refine va_get (D := (dC, dI)) (ci := 3) (v := .ref (b 6)) (C := R_Re) (T := F_Re) (N := 10) hx hb hts u_Re hown hK hP 0 rfl rfl 6 (by decide) (hts _ kw_50) (fun _ h9 => h9) rfl d_Re_fact_83 ?_
    refine lv_iload_n hx hb d_Re_fact_86 rfl (lv_at hl 1 rfl) ?_
    refine x_iald (j := j) (v := (nI (X.en j))) hx hb hK hP 7 0 rfl rfl hj (by decide) rfl rfl d_Re_fact_87 ?_
    exact W.iret (v := (nI (X.en j))) hx hb hr (fun t ht hW => ⟨(nI (X.en j)), rfl, (by rfl), ht⟩) (fun q h => nomatch h) d_Re_fact_88
set_option maxHeartbeats 4000000 in
set_option maxRecDepth 100000 in
theorem c_Re_cutsOf (l : Launch) (dC : Nat → ClassId) (dI : Nat → Nat → Nat) (cI : ClassId) (h : Nat) (b : Nat → Nat) (X : RS) (hX : RSok X) (j : Nat) (hj : j < 200) : Met l y_Re_cutsOf (.code y_Re_cutsOf b_Re_cutsOf 2 (some .int) :: wG) ({ frames := 1, cells := 0, slots := 0, locals := 20 }) (PcS (dC, dI) [(cI, .int)] (wRe cI h b X) [.ref h, .int (nI j)]) (vp_Si (fun r9 => r9 = nI (cutN X j))) 0 0 (fun _ => False) := by
  refine Met.ofW (cc := b_Re_cutsOf) (maxL := 2) (ret := (some .int)) (by decide) rfl ?_
  intro pg eg s mg ag bg meth cg s₁ B hml hv
  obtain ⟨rfl, hP, hK, hN⟩ := hv
  have hx := B.exec
  have hb := B.bytes
  have hr := B.returns
  have hlocks := B.notSynchronized
  have hts : ∀ w9 ∈ wG, w9.before ([.ref h, .int (nI j)] : List Value).toArray s = true := fun w9 h9 => atoms_spec (ws := (.code y_Re_cutsOf b_Re_cutsOf 2 (some .int) :: wG)) B.pre w9 (List.mem_cons_of_mem _ h9)
  have hown : s.vm.findClass "PrefixRegistry$Records" = some mg.cls := findClass_of_methodNamed B.named
  have hP : va_P (dC, dI) classes (wRe cI h b X) s.heap := hP
  have hl := lv_entry ([.ref h, .int (nI j)]) (n := 2) (Nat.le_of_ble_eq_true rfl)
  rw [lg_entry_eq]
  generalize (lg_sl ([.ref h, .int (nI j)]) ++ List.replicate (2 - (lg_sl ([.ref h, .int (nI j)])).length) Slot.unset).toArray = ls at hl ⊢
  replace hl : lv_has ls 2 [(0, .ref h), (1, .int (nI j))] := hl
  refine lv_aload_n hx hb d_Re_cutsOf_0 rfl (lv_at hl 0 rfl) ?_
  refine va_get (D := (dC, dI)) (ci := 3) (v := .ref (b 5)) (C := R_Re) (T := F_Re) (N := 10) hx hb hts u_Re hown hK hP 0 rfl rfl 5 (by decide) (hts _ kw_47) (fun _ h9 => h9) rfl d_Re_cutsOf_1 ?_
  refine lv_iload_n hx hb d_Re_cutsOf_4 rfl (lv_at hl 1 rfl) ?_
  refine x_iald (j := j) (v := (nI (X.sta j))) hx hb hK hP 6 0 rfl rfl hj (by decide) rfl rfl d_Re_cutsOf_5 ?_
  refine lv_iconst (v := 1) hx hb d_Re_cutsOf_6 (by decide) ?_
  refine lv_icmp_ne hx hb d_Re_cutsOf_7 rfl (fun h7 => ?_) (fun h7 => ?_)
  · have h7 := mt (k_eq (b := 1) (by have := hX.sta j; omega) (by decide)).mpr h7
    refine lv_iconst (v := 0) hx hb d_Re_cutsOf_31 (by decide) ?_
    exact W.iret (v := 0) hx hb hr (fun t ht hW => ⟨0, rfl, (by unfold cutN; rw [if_neg h7]; rfl), ht⟩) (fun q h => nomatch h) d_Re_cutsOf_32
  have h7 := (k_eq (b := 1) (by have := hX.sta j; omega) (by decide)).mp h7
  refine lv_iconst (v := 1) hx hb d_Re_cutsOf_10 (by decide) ?_
  refine lv_aload_n hx hb d_Re_cutsOf_11 rfl (lv_at hl 0 rfl) ?_
  refine va_get (D := (dC, dI)) (ci := 3) (v := .ref (b 1)) (C := R_Re) (T := F_Re) (N := 10) hx hb hts u_Re hown hK hP 0 rfl rfl 1 (by decide) (hts _ kw_39) (fun _ h9 => h9) rfl d_Re_cutsOf_12 ?_
  refine lv_iload_n hx hb d_Re_cutsOf_15 rfl (lv_at hl 1 rfl) ?_
  refine x_iald (j := j) (v := (nI (X.len j))) hx hb hK hP 2 0 rfl rfl hj (by decide) rfl rfl d_Re_cutsOf_16 ?_
  refine vp_callSi (va_Run.run (va_runSN (As := [.int (nI (X.len j))]) (rest := [.int 1]) ⟨hx, hb, hml, hown, hts⟩ (c_PR_lengthOfCuts l dC dI (X.len j) (hX.len j)) ⟨va_cnB 1 hts (gI kw_674) rfl rfl rfl (hN.at 672 nw_672 rfl) (hts _ kw_1) (by decide +kernel) ⟨Nat.le_of_ble_eq_true rfl, Nat.le_of_ble_eq_true rfl⟩, hts _ kw_673, trivial⟩ ⟨PcS.blind, PcS.use hP hK hN⟩ rfl rfl hl.1 rfl (lv_room (Nat.le_of_ble_eq_true rfl)) d_Re_cutsOf_17 ⟨Nat.zero_le _, Nat.zero_le _⟩)) (fun r17 hr17 => ?_)
  obtain rfl : r17 = nI (cl4 (X.len j)) := hr17
  refine lv_aload_n hx hb d_Re_cutsOf_20 rfl (lv_at hl 0 rfl) ?_
  refine va_get (D := (dC, dI)) (ci := 3) (v := .ref (b 1)) (C := R_Re) (T := F_Re) (N := 10) hx hb hts u_Re hown hK hP 0 rfl rfl 1 (by decide) (hts _ kw_39) (fun _ h9 => h9) rfl d_Re_cutsOf_21 ?_
  refine lv_iload_n hx hb d_Re_cutsOf_24 rfl (lv_at hl 1 rfl) ?_
  refine x_iald (j := j) (v := (nI (X.len j))) hx hb hK hP 2 0 rfl rfl hj (by decide) rfl rfl d_Re_cutsOf_25 ?_
  refine lv_isub hx hb d_Re_cutsOf_26 ?_
  refine lv_ishl hx hb d_Re_cutsOf_27 ?_
  refine lv_goto hx hb d_Re_cutsOf_28 rfl ?_
  exact W.iret (v := (1 <<< ((nI (cl4 (X.len j)) - (nI (X.len j))) &&& 31))) hx hb hr (fun t ht hW => ⟨(1 <<< ((nI (cl4 (X.len j)) - (nI (X.len j))) &&& 31)), rfl, (by unfold cutN; rw [if_pos h7]; exact k_cut _ (hX.len j)), ht⟩) (fun q h => nomatch h) d_Re_cutsOf_32
set_option maxHeartbeats 4000000 in
set_option maxRecDepth 100000 in
theorem c_Re_isFree (l : Launch) (dC : Nat → ClassId) (dI : Nat → Nat → Nat) (cI : ClassId) (h : Nat) (b : Nat → Nat) (X : RS) (hX : RSok X) (r : Nat) (hr0 : r < 200) (L : List Nat) (hC : chn X.nx (X.fc r) L) (hL : L.length ≤ 200) (a n : Nat) (ha : a < 4294967296) (hn : n < 33) : Met l y_Re_isFree (.code y_Re_isFree b_Re_isFree 6 (some .boolean) :: wG) ({ frames := 3, cells := 0, slots := 0, locals := 66 }) (PcS (dC, dI) [(cI, .int)] (wRe cI h b X) [.ref h, .int (nI r), .int (nI a), .int (nI n)]) (vp_Si (fun r9 => r9 = bi (decide (∀ c9 ∈ L, ¬ mt2 (X.pre c9) (X.len c9) a n)))) 0 0 (fun _ => False) := by
  refine Met.ofW (cc := b_Re_isFree) (maxL := 6) (ret := (some .boolean)) (by decide) rfl ?_
  intro pg eg s mg ag bg meth cg s₁ B hml hv
  obtain ⟨rfl, hP, hK, hN⟩ := hv
  have hx := B.exec
  have hb := B.bytes
  have hr := B.returns
  have hlocks := B.notSynchronized
  have hts : ∀ w9 ∈ wG, w9.before ([.ref h, .int (nI r), .int (nI a), .int (nI n)] : List Value).toArray s = true := fun w9 h9 => atoms_spec (ws := (.code y_Re_isFree b_Re_isFree 6 (some .boolean) :: wG)) B.pre w9 (List.mem_cons_of_mem _ h9)
  have hown : s.vm.findClass "PrefixRegistry$Records" = some mg.cls := findClass_of_methodNamed B.named
  have hP : va_P (dC, dI) classes (wRe cI h b X) s.heap := hP
  have hl := lv_entry ([.ref h, .int (nI r), .int (nI a), .int (nI n)]) (n := 6) (Nat.le_of_ble_eq_true rfl)
  rw [lg_entry_eq]
  generalize (lg_sl ([.ref h, .int (nI r), .int (nI a), .int (nI n)]) ++ List.replicate (6 - (lg_sl ([.ref h, .int (nI r), .int (nI a), .int (nI n)])).length) Slot.unset).toArray = ls at hl ⊢
  replace hl : lv_has ls 6 [(0, .ref h), (1, .int (nI r)), (2, .int (nI a)), (3, .int (nI n))] := hl
  refine lv_aload_n hx hb d_Re_isFree_0 rfl (lv_at hl 0 rfl) ?_
  refine va_get (D := (dC, dI)) (ci := 3) (v := .ref (b 7)) (C := R_Re) (T := F_Re) (N := 10) hx hb hts u_Re hown hK hP 0 rfl rfl 7 (by decide) (hts _ kw_52) (fun _ h9 => h9) rfl d_Re_isFree_1 ?_
  refine lv_iload_n hx hb d_Re_isFree_4 rfl (lv_at hl 1 rfl) ?_
  refine x_iald (j := r) (v := (pI (X.fc r))) hx hb hK hP 8 0 rfl rfl hr0 (by decide) rfl rfl d_Re_isFree_5 ?_
  refine lv_istore hx hb d_Re_isFree_6 hl (by decide) rfl (fun ls hl => ?_)
  replace hl : lv_has ls 6 [(4, .int (pI (X.fc r))), (0, .ref h), (1, .int (nI r)), (2, .int (nI a)), (3, .int (nI n))] := hl
  refine lv_iconst (v := 0) hx hb d_Re_isFree_8 (by decide) ?_
  refine lv_istore hx hb d_Re_isFree_9 hl (by decide) rfl (fun ls hl => ?_)
  replace hl : lv_has ls 6 [(5, .int 0), (4, .int (pI (X.fc r))), (0, .ref h), (1, .int (nI r)), (2, .int (nI a)), (3, .int (nI n))] := hl
  obtain ⟨Kl, hK0⟩ : ∃ Kl : List Nat, Kl = L := ⟨L, rfl⟩
  obtain ⟨i, hi⟩ : ∃ i : Nat, i = 0 := ⟨0, rfl⟩
  have hres : (∀ c9 ∈ L, ¬ mt2 (X.pre c9) (X.len c9) a n) ↔ (∀ c9 ∈ Kl, ¬ mt2 (X.pre c9) (X.len c9) a n) := by rw [hK0]
  replace hl : lv_has ls 6 [(5, .int (nI i)), (4, .int (pI (X.fc r))), (0, .ref h), (1, .int (nI r)), (2, .int (nI a)), (3, .int (nI n))] := by subst hi; exact hl
  have ho : ∀ k, X.fc r = some k → k < 200 := fun k q => hX.fc q
  replace hC := hK0 ▸ hC
  replace hi : i + Kl.length ≤ 200 := by rw [hi, hK0]; omega
  clear hK0
  generalize X.fc r = o at hC ho hl
  replace hC : chn X.nx o Kl := hC
  replace ho := ho
  replace hi := hi
  replace hres := hres
  replace hl : lv_has ls 6 [(5, .int (nI i)), (4, .int (pI o)), (0, .ref h), (1, .int (nI r)), (2, .int (nI a)), (3, .int (nI n))] := hl
  induction Kl generalizing o i ls  with
  | nil =>
    obtain rfl : o = none := hC
    replace hl : lv_has ls 6 [(5, .int (nI i)), (4, .int (pI none)), (0, .ref h), (1, .int (nI r)), (2, .int (nI a)), (3, .int (nI n))] := hl
    refine lv_iload hx hb d_Re_isFree_11 (lv_at hl 0 rfl) ?_
    refine lv_sipush (v := 200) hx hb d_Re_isFree_13 (by decide) ?_
    refine lv_icmp_ge hx hb d_Re_isFree_16 rfl (fun h16 => ?_) (fun h16 => ?_)
    · refine lv_iconst (v := 1) hx hb d_Re_isFree_53 (by decide) ?_
      exact W.zret (v := 1) hx hb hr (by decide) (fun t ht hW => ⟨1, rfl, (bT (hres.mpr (fun _ q => nomatch q))), ht⟩) (fun q h => nomatch h) d_Re_isFree_54
    refine lv_iload hx hb d_Re_isFree_19 (lv_at hl 1 rfl) ?_
    refine lv_iconst (v := (-1)) hx hb d_Re_isFree_21 (by decide) ?_
    refine lv_icmp_eq hx hb d_Re_isFree_22 rfl (fun _ => ?_) (fun h9 => absurd rfl h9)
    refine lv_iconst (v := 1) hx hb d_Re_isFree_53 (by decide) ?_
    exact W.zret (v := 1) hx hb hr (by decide) (fun t ht hW => ⟨1, rfl, (bT (hres.mpr (fun _ q => nomatch q))), ht⟩) (fun q h => nomatch h) d_Re_isFree_54
  | cons j t ih =>
    obtain ⟨rfl, hC⟩ := hC
    have hj : j < 200 := ho j rfl
    replace hi : i + (t.length + 1) ≤ 200 := hi
    replace hl : lv_has ls 6 [(5, .int (nI i)), (4, .int (nI j)), (0, .ref h), (1, .int (nI r)), (2, .int (nI a)), (3, .int (nI n))] := hl
    refine lv_iload hx hb d_Re_isFree_11 (lv_at hl 0 rfl) ?_
    refine lv_sipush (v := 200) hx hb d_Re_isFree_13 (by decide) ?_
    refine lv_icmp_ge hx hb d_Re_isFree_16 rfl (fun h9 => absurd h9 (nI_ge (b := 200) (by omega) (by decide))) (fun _ => ?_)
    refine lv_iload hx hb d_Re_isFree_19 (lv_at hl 1 rfl) ?_
    refine lv_iconst (v := (-1)) hx hb d_Re_isFree_21 (by decide) ?_
    refine lv_icmp_eq hx hb d_Re_isFree_22 rfl (fun h9 => absurd h9 (k_nm1 hj)) (fun _ => ?_)
    refine lv_aload_n hx hb d_Re_isFree_25 rfl (lv_at hl 2 rfl) ?_
    refine lv_iload hx hb d_Re_isFree_26 (lv_at hl 1 rfl) ?_
    refine lv_iload_n hx hb d_Re_isFree_28 rfl (lv_at hl 4 rfl) ?_
    refine lv_iload_n hx hb d_Re_isFree_29 rfl (lv_at hl 5 rfl) ?_
    refine vp_callSi (W.runV (b := h) (As := [.int (nI j), .int (nI a), .int (nI n)]) (rest := []) ⟨hx, hb, hml, hown, hts⟩ (c_Re_meets l dC dI cI h b X hX j hj a n ha hn) (cwV 3 hts (gV kw_164 kw_165 kw_166 kw_3 kw_167) rfl rfl rfl (by decide +kernel) ⟨Nat.le_of_ble_eq_true rfl, Nat.le_of_ble_eq_true rfl⟩) ⟨PcS.blind, va_recv (q0 := 0) hK hP rfl rfl, PcS.use hP hK hN⟩ rfl rfl hl.1 rfl (lv_room (Nat.le_of_ble_eq_true rfl)) d_Re_isFree_30 ⟨Nat.zero_le _, Nat.zero_le _⟩) (fun r30 hr30 => ?_)
    obtain rfl : r30 = bi (decide (mt2 (X.pre j) (X.len j) a n)) := hr30
    refine lv_if_eq hx hb d_Re_isFree_33 rfl (fun h33 => ?_) (fun h33 => ?_)
    · have h33 := (bi_d).mp h33
      refine lv_aload_n hx hb d_Re_isFree_38 rfl (lv_at hl 2 rfl) ?_
      refine va_get (D := (dC, dI)) (ci := 3) (v := .ref (b 8)) (C := R_Re) (T := F_Re) (N := 10) hx hb hts u_Re hown hK hP 0 rfl rfl 8 (by decide) (hts _ kw_55) (fun _ h9 => h9) rfl d_Re_isFree_39 ?_
      refine lv_iload hx hb d_Re_isFree_42 (lv_at hl 1 rfl) ?_
      refine x_iald (j := j) (v := (pI (X.nx j))) hx hb hK hP 9 0 rfl rfl hj (by decide) rfl rfl d_Re_isFree_44 ?_
      refine lv_istore hx hb d_Re_isFree_45 hl (by decide) rfl (fun ls hl => ?_)
      replace hl : lv_has ls 6 [(4, .int (pI (X.nx j))), (5, .int (nI i)), (0, .ref h), (1, .int (nI r)), (2, .int (nI a)), (3, .int (nI n))] := hl
      refine lv_iinc hx hb d_Re_isFree_47 hl (k := 1) (v := (nI (i + 1))) rfl (nI_1 i) (by decide) rfl (fun ls hl => ?_)
      replace hl : lv_has ls 6 [(5, .int (nI (i + 1))), (4, .int (pI (X.nx j))), (0, .ref h), (1, .int (nI r)), (2, .int (nI a)), (3, .int (nI n))] := hl
      refine lv_goto hx hb d_Re_isFree_50 rfl ?_
      refine ih _ _ _ hC (fun k q => hX.nx q) ?_ ?_ hl
      · omega
      · exact (hres.trans (by simp only [List.forall_mem_cons]; exact ⟨fun q => q.2, fun q => ⟨h33, q⟩⟩))
    have h33 := Decidable.not_not.mp (mt bi_d.mpr h33)
    refine lv_iconst (v := 0) hx hb d_Re_isFree_36 (by decide) ?_
    exact W.zret (v := 0) hx hb hr (by decide) (fun t ht hW => ⟨0, rfl, (bF (fun q => hres.mp q j List.mem_cons_self h33)), ht⟩) (fun q h => nomatch h) d_Re_isFree_37
set_option maxHeartbeats 4000000 in
set_option maxRecDepth 100000 in
theorem c_Re_usedBelow (l : Launch) (dC : Nat → ClassId) (dI : Nat → Nat → Nat) (cI : ClassId) (h : Nat) (b : Nat → Nat) (X : RS) (hX : RSok X) (r : Nat) (hr0 : r < 200) (L : List Nat) (hC : chn X.nx (X.fc r) L) (hL : L.length ≤ 200) : Met l y_Re_usedBelow (.code y_Re_usedBelow b_Re_usedBelow 6 (some .long) :: wG) ({ frames := 2, cells := 0, slots := 0, locals := 41 }) (PcS (dC, dI) [(cI, .int)] (wRe cI h b X) [.ref h, .int (nI r)]) (vp_Sl (fun r9 => r9 = lN (usedL X L))) 0 0 (fun _ => False) := by
  refine Met.ofW (cc := b_Re_usedBelow) (maxL := 6) (ret := (some .long)) (by decide) rfl ?_
  intro pg eg s mg ag bg meth cg s₁ B hml hv
  obtain ⟨rfl, hP, hK, hN⟩ := hv
  have hx := B.exec
  have hb := B.bytes
  have hr := B.returns
  have hlocks := B.notSynchronized
  have hts : ∀ w9 ∈ wG, w9.before ([.ref h, .int (nI r)] : List Value).toArray s = true := fun w9 h9 => atoms_spec (ws := (.code y_Re_usedBelow b_Re_usedBelow 6 (some .long) :: wG)) B.pre w9 (List.mem_cons_of_mem _ h9)
  have hown : s.vm.findClass "PrefixRegistry$Records" = some mg.cls := findClass_of_methodNamed B.named
  have hP : va_P (dC, dI) classes (wRe cI h b X) s.heap := hP
  have hl := lv_entry ([.ref h, .int (nI r)]) (n := 6) (Nat.le_of_ble_eq_true rfl)
  rw [lg_entry_eq]
  generalize (lg_sl ([.ref h, .int (nI r)]) ++ List.replicate (6 - (lg_sl ([.ref h, .int (nI r)])).length) Slot.unset).toArray = ls at hl ⊢
  replace hl : lv_has ls 6 [(0, .ref h), (1, .int (nI r))] := hl
  refine lv_lconst (v := 0) hx hb d_Re_usedBelow_0 (by decide) ?_
  refine lv_lstore_n hx hb d_Re_usedBelow_1 rfl hl (by decide) rfl (fun ls hl => ?_)
  replace hl : lv_has ls 6 [(2, .long 0), (0, .ref h), (1, .int (nI r))] := hl
  refine lv_aload_n hx hb d_Re_usedBelow_2 rfl (lv_at hl 1 rfl) ?_
  refine va_get (D := (dC, dI)) (ci := 3) (v := .ref (b 7)) (C := R_Re) (T := F_Re) (N := 10) hx hb hts u_Re hown hK hP 0 rfl rfl 7 (by decide) (hts _ kw_52) (fun _ h9 => h9) rfl d_Re_usedBelow_3 ?_
  refine lv_iload_n hx hb d_Re_usedBelow_6 rfl (lv_at hl 2 rfl) ?_
  refine x_iald (j := r) (v := (pI (X.fc r))) hx hb hK hP 8 0 rfl rfl hr0 (by decide) rfl rfl d_Re_usedBelow_7 ?_
  refine lv_istore hx hb d_Re_usedBelow_8 hl (by decide) rfl (fun ls hl => ?_)
  replace hl : lv_has ls 6 [(4, .int (pI (X.fc r))), (2, .long 0), (0, .ref h), (1, .int (nI r))] := hl
  refine lv_iconst (v := 0) hx hb d_Re_usedBelow_10 (by decide) ?_
  refine lv_istore hx hb d_Re_usedBelow_11 hl (by decide) rfl (fun ls hl => ?_)
  replace hl : lv_has ls 6 [(5, .int 0), (4, .int (pI (X.fc r))), (2, .long 0), (0, .ref h), (1, .int (nI r))] := hl
  obtain ⟨Kl, hK0⟩ : ∃ Kl : List Nat, Kl = L := ⟨L, rfl⟩
  obtain ⟨i, hi⟩ : ∃ i : Nat, i = 0 := ⟨0, rfl⟩
  obtain ⟨acc, hacc⟩ : ∃ acc : Nat, acc = 0 := ⟨_, rfl⟩
  have hsum : acc + usedL X Kl = usedL X L := by rw [hK0, hacc]; exact Nat.zero_add _
  replace hl : lv_has ls 6 [(5, .int (nI i)), (4, .int (pI (X.fc r))), (2, .long (lN acc)), (0, .ref h), (1, .int (nI r))] := by subst hi; subst hacc; exact hl
  clear hacc
  have ho : ∀ k, X.fc r = some k → k < 200 := fun k q => hX.fc q
  replace hC := hK0 ▸ hC
  replace hi : i + Kl.length ≤ 200 := by rw [hi, hK0]; omega
  clear hK0
  generalize X.fc r = o at hC ho hl
  replace hC : chn X.nx o Kl := hC
  replace ho := ho
  replace hi := hi
  replace hsum := hsum
  replace hl : lv_has ls 6 [(5, .int (nI i)), (4, .int (pI o)), (2, .long (lN acc)), (0, .ref h), (1, .int (nI r))] := hl
  induction Kl generalizing o i ls acc with
  | nil =>
    obtain rfl : o = none := hC
    replace hl : lv_has ls 6 [(5, .int (nI i)), (4, .int (pI none)), (2, .long (lN acc)), (0, .ref h), (1, .int (nI r))] := hl
    refine lv_iload hx hb d_Re_usedBelow_13 (lv_at hl 0 rfl) ?_
    refine lv_sipush (v := 200) hx hb d_Re_usedBelow_15 (by decide) ?_
    refine lv_icmp_ge hx hb d_Re_usedBelow_18 rfl (fun h18 => ?_) (fun h18 => ?_)
    · refine lv_lload_n hx hb d_Re_usedBelow_51 rfl (lv_at hl 2 rfl) ?_
      exact W.lret (v := (lN acc)) hx hb hr (fun t ht hW => ⟨(lN acc), rfl, (by rw [← hsum]; simp [usedL]), ht⟩) (fun q h => nomatch h) d_Re_usedBelow_52
    refine lv_iload hx hb d_Re_usedBelow_21 (lv_at hl 1 rfl) ?_
    refine lv_iconst (v := (-1)) hx hb d_Re_usedBelow_23 (by decide) ?_
    refine lv_icmp_eq hx hb d_Re_usedBelow_24 rfl (fun _ => ?_) (fun h9 => absurd rfl h9)
    refine lv_lload_n hx hb d_Re_usedBelow_51 rfl (lv_at hl 2 rfl) ?_
    exact W.lret (v := (lN acc)) hx hb hr (fun t ht hW => ⟨(lN acc), rfl, (by rw [← hsum]; simp [usedL]), ht⟩) (fun q h => nomatch h) d_Re_usedBelow_52
  | cons j t ih =>
    obtain ⟨rfl, hC⟩ := hC
    have hj : j < 200 := ho j rfl
    replace hi : i + (t.length + 1) ≤ 200 := hi
    replace hl : lv_has ls 6 [(5, .int (nI i)), (4, .int (nI j)), (2, .long (lN acc)), (0, .ref h), (1, .int (nI r))] := hl
    refine lv_iload hx hb d_Re_usedBelow_13 (lv_at hl 0 rfl) ?_
    refine lv_sipush (v := 200) hx hb d_Re_usedBelow_15 (by decide) ?_
    refine lv_icmp_ge hx hb d_Re_usedBelow_18 rfl (fun h9 => absurd h9 (nI_ge (b := 200) (by omega) (by decide))) (fun _ => ?_)
    refine lv_iload hx hb d_Re_usedBelow_21 (lv_at hl 1 rfl) ?_
    refine lv_iconst (v := (-1)) hx hb d_Re_usedBelow_23 (by decide) ?_
    refine lv_icmp_eq hx hb d_Re_usedBelow_24 rfl (fun h9 => absurd h9 (k_nm1 hj)) (fun _ => ?_)
    refine lv_lload_n hx hb d_Re_usedBelow_27 rfl (lv_at hl 2 rfl) ?_
    refine lv_aload_n hx hb d_Re_usedBelow_28 rfl (lv_at hl 3 rfl) ?_
    refine lv_iload hx hb d_Re_usedBelow_29 (lv_at hl 1 rfl) ?_
    refine vp_callSl (W.runV (b := h) (As := [.int (nI j)]) (rest := [.long (lN acc)]) ⟨hx, hb, hml, hown, hts⟩ (c_Re_size l dC dI cI h b X hX j hj) (cwV 1 hts (gV kw_179 kw_180 kw_181 kw_3 kw_182) rfl rfl rfl (by decide +kernel) ⟨Nat.le_of_ble_eq_true rfl, Nat.le_of_ble_eq_true rfl⟩) ⟨PcS.blind, va_recv (q0 := 0) hK hP rfl rfl, PcS.use hP hK hN⟩ rfl rfl hl.1 rfl (lv_room (Nat.le_of_ble_eq_true rfl)) d_Re_usedBelow_31 ⟨Nat.zero_le _, Nat.zero_le _⟩) (fun r31 hr31 => ?_)
    obtain rfl : r31 = lN (2 ^ (32 - X.len j)) := hr31
    refine lv_ladd hx hb d_Re_usedBelow_34 ?_
    refine x_topl (y := (lN (acc + 2 ^ (32 - X.len j)))) (lN_add _ _) ?_
    refine lv_lstore_n hx hb d_Re_usedBelow_35 rfl hl (by decide) rfl (fun ls hl => ?_)
    replace hl : lv_has ls 6 [(2, .long (lN (acc + 2 ^ (32 - X.len j)))), (5, .int (nI i)), (4, .int (nI j)), (0, .ref h), (1, .int (nI r))] := hl
    refine lv_aload_n hx hb d_Re_usedBelow_36 rfl (lv_at hl 3 rfl) ?_
    refine va_get (D := (dC, dI)) (ci := 3) (v := .ref (b 8)) (C := R_Re) (T := F_Re) (N := 10) hx hb hts u_Re hown hK hP 0 rfl rfl 8 (by decide) (hts _ kw_55) (fun _ h9 => h9) rfl d_Re_usedBelow_37 ?_
    refine lv_iload hx hb d_Re_usedBelow_40 (lv_at hl 2 rfl) ?_
    refine x_iald (j := j) (v := (pI (X.nx j))) hx hb hK hP 9 0 rfl rfl hj (by decide) rfl rfl d_Re_usedBelow_42 ?_
    refine lv_istore hx hb d_Re_usedBelow_43 hl (by decide) rfl (fun ls hl => ?_)
    replace hl : lv_has ls 6 [(4, .int (pI (X.nx j))), (2, .long (lN (acc + 2 ^ (32 - X.len j)))), (5, .int (nI i)), (0, .ref h), (1, .int (nI r))] := hl
    refine lv_iinc hx hb d_Re_usedBelow_45 hl (k := 2) (v := (nI (i + 1))) rfl (nI_1 i) (by decide) rfl (fun ls hl => ?_)
    replace hl : lv_has ls 6 [(5, .int (nI (i + 1))), (4, .int (pI (X.nx j))), (2, .long (lN (acc + 2 ^ (32 - X.len j)))), (0, .ref h), (1, .int (nI r))] := hl
    refine lv_goto hx hb d_Re_usedBelow_48 rfl ?_
    refine ih _ _ _ _ hC (fun k q => hX.nx q) ?_ ?_ hl
    · omega
    · exact (by rw [← hsum]; simp only [usedL]; omega)
set_option maxHeartbeats 4000000 in
set_option maxRecDepth 100000 in
theorem c_Re_countCuts (l : Launch) (dC : Nat → ClassId) (dI : Nat → Nat → Nat) (cI : ClassId) (h : Nat) (b : Nat → Nat) (X : RS) (hX : RSok X) (r : Nat) (hr0 : r < 200) (L : List Nat) (hC : chn X.nx (X.fc r) L) (hL : L.length ≤ 200) : Met l y_Re_countCuts (.code y_Re_countCuts b_Re_countCuts 5 (some .int) :: wG) ({ frames := 2, cells := 0, slots := 0, locals := 41 }) (PcS (dC, dI) [(cI, .int)] (wRe cI h b X) [.ref h, .int (nI r)]) (vp_Si (fun r9 => r9 = nI (cutsL X L))) 0 0 (fun _ => False) := by
  refine Met.ofW (cc := b_Re_countCuts) (maxL := 5) (ret := (some .int)) (by decide) rfl ?_
  intro pg eg s mg ag bg meth cg s₁ B hml hv
  obtain ⟨rfl, hP, hK, hN⟩ := hv
  have hx := B.exec
  have hb := B.bytes
  have hr := B.returns
  have hlocks := B.notSynchronized
  have hts : ∀ w9 ∈ wG, w9.before ([.ref h, .int (nI r)] : List Value).toArray s = true := fun w9 h9 => atoms_spec (ws := (.code y_Re_countCuts b_Re_countCuts 5 (some .int) :: wG)) B.pre w9 (List.mem_cons_of_mem _ h9)
  have hown : s.vm.findClass "PrefixRegistry$Records" = some mg.cls := findClass_of_methodNamed B.named
  have hP : va_P (dC, dI) classes (wRe cI h b X) s.heap := hP
  have hl := lv_entry ([.ref h, .int (nI r)]) (n := 5) (Nat.le_of_ble_eq_true rfl)
  rw [lg_entry_eq]
  generalize (lg_sl ([.ref h, .int (nI r)]) ++ List.replicate (5 - (lg_sl ([.ref h, .int (nI r)])).length) Slot.unset).toArray = ls at hl ⊢
  replace hl : lv_has ls 5 [(0, .ref h), (1, .int (nI r))] := hl
  refine lv_iconst (v := 0) hx hb d_Re_countCuts_0 (by decide) ?_
  refine lv_istore_n hx hb d_Re_countCuts_1 rfl hl (by decide) rfl (fun ls hl => ?_)
  replace hl : lv_has ls 5 [(2, .int 0), (0, .ref h), (1, .int (nI r))] := hl
  refine lv_aload_n hx hb d_Re_countCuts_2 rfl (lv_at hl 1 rfl) ?_
  refine va_get (D := (dC, dI)) (ci := 3) (v := .ref (b 7)) (C := R_Re) (T := F_Re) (N := 10) hx hb hts u_Re hown hK hP 0 rfl rfl 7 (by decide) (hts _ kw_52) (fun _ h9 => h9) rfl d_Re_countCuts_3 ?_
  refine lv_iload_n hx hb d_Re_countCuts_6 rfl (lv_at hl 2 rfl) ?_
  refine x_iald (j := r) (v := (pI (X.fc r))) hx hb hK hP 8 0 rfl rfl hr0 (by decide) rfl rfl d_Re_countCuts_7 ?_
  refine lv_istore_n hx hb d_Re_countCuts_8 rfl hl (by decide) rfl (fun ls hl => ?_)
  replace hl : lv_has ls 5 [(3, .int (pI (X.fc r))), (2, .int 0), (0, .ref h), (1, .int (nI r))] := hl
  refine lv_iconst (v := 0) hx hb d_Re_countCuts_9 (by decide) ?_
  refine lv_istore hx hb d_Re_countCuts_10 hl (by decide) rfl (fun ls hl => ?_)
  replace hl : lv_has ls 5 [(4, .int 0), (3, .int (pI (X.fc r))), (2, .int 0), (0, .ref h), (1, .int (nI r))] := hl
  obtain ⟨Kl, hK0⟩ : ∃ Kl : List Nat, Kl = L := ⟨L, rfl⟩
  obtain ⟨i, hi⟩ : ∃ i : Nat, i = 0 := ⟨0, rfl⟩
  obtain ⟨acc, hacc⟩ : ∃ acc : Nat, acc = 0 := ⟨_, rfl⟩
  have hsum : acc + cutsL X Kl = cutsL X L := by rw [hK0, hacc]; exact Nat.zero_add _
  replace hl : lv_has ls 5 [(4, .int (nI i)), (3, .int (pI (X.fc r))), (2, .int (nI acc)), (0, .ref h), (1, .int (nI r))] := by subst hi; subst hacc; exact hl
  clear hacc
  have ho : ∀ k, X.fc r = some k → k < 200 := fun k q => hX.fc q
  replace hC := hK0 ▸ hC
  replace hi : i + Kl.length ≤ 200 := by rw [hi, hK0]; omega
  clear hK0
  generalize X.fc r = o at hC ho hl
  replace hC : chn X.nx o Kl := hC
  replace ho := ho
  replace hi := hi
  replace hsum := hsum
  replace hl : lv_has ls 5 [(4, .int (nI i)), (3, .int (pI o)), (2, .int (nI acc)), (0, .ref h), (1, .int (nI r))] := hl
  induction Kl generalizing o i ls acc with
  | nil =>
    obtain rfl : o = none := hC
    replace hl : lv_has ls 5 [(4, .int (nI i)), (3, .int (pI none)), (2, .int (nI acc)), (0, .ref h), (1, .int (nI r))] := hl
    refine lv_iload hx hb d_Re_countCuts_12 (lv_at hl 0 rfl) ?_
    refine lv_sipush (v := 200) hx hb d_Re_countCuts_14 (by decide) ?_
    refine lv_icmp_ge hx hb d_Re_countCuts_17 rfl (fun h17 => ?_) (fun h17 => ?_)
    · refine lv_iload_n hx hb d_Re_countCuts_46 rfl (lv_at hl 2 rfl) ?_
      exact W.iret (v := (nI acc)) hx hb hr (fun t ht hW => ⟨(nI acc), rfl, (by rw [← hsum]; simp [cutsL]), ht⟩) (fun q h => nomatch h) d_Re_countCuts_47
    refine lv_iload_n hx hb d_Re_countCuts_20 rfl (lv_at hl 1 rfl) ?_
    refine lv_iconst (v := (-1)) hx hb d_Re_countCuts_21 (by decide) ?_
    refine lv_icmp_eq hx hb d_Re_countCuts_22 rfl (fun _ => ?_) (fun h9 => absurd rfl h9)
    refine lv_iload_n hx hb d_Re_countCuts_46 rfl (lv_at hl 2 rfl) ?_
    exact W.iret (v := (nI acc)) hx hb hr (fun t ht hW => ⟨(nI acc), rfl, (by rw [← hsum]; simp [cutsL]), ht⟩) (fun q h => nomatch h) d_Re_countCuts_47
  | cons j t ih =>
    obtain ⟨rfl, hC⟩ := hC
    have hj : j < 200 := ho j rfl
    replace hi : i + (t.length + 1) ≤ 200 := hi
    replace hl : lv_has ls 5 [(4, .int (nI i)), (3, .int (nI j)), (2, .int (nI acc)), (0, .ref h), (1, .int (nI r))] := hl
    refine lv_iload hx hb d_Re_countCuts_12 (lv_at hl 0 rfl) ?_
    refine lv_sipush (v := 200) hx hb d_Re_countCuts_14 (by decide) ?_
    refine lv_icmp_ge hx hb d_Re_countCuts_17 rfl (fun h9 => absurd h9 (nI_ge (b := 200) (by omega) (by decide))) (fun _ => ?_)
    refine lv_iload_n hx hb d_Re_countCuts_20 rfl (lv_at hl 1 rfl) ?_
    refine lv_iconst (v := (-1)) hx hb d_Re_countCuts_21 (by decide) ?_
    refine lv_icmp_eq hx hb d_Re_countCuts_22 rfl (fun h9 => absurd h9 (k_nm1 hj)) (fun _ => ?_)
    refine lv_iload_n hx hb d_Re_countCuts_25 rfl (lv_at hl 2 rfl) ?_
    refine lv_aload_n hx hb d_Re_countCuts_26 rfl (lv_at hl 3 rfl) ?_
    refine lv_iload_n hx hb d_Re_countCuts_27 rfl (lv_at hl 1 rfl) ?_
    refine vp_callSi (W.runV (b := h) (As := [.int (nI j)]) (rest := [.int (nI acc)]) ⟨hx, hb, hml, hown, hts⟩ (c_Re_cutsOf l dC dI cI h b X hX j hj) (cwV 1 hts (gV kw_668 kw_670 ks_21 kw_3 kw_671) rfl rfl rfl (by decide +kernel) ⟨Nat.le_of_ble_eq_true rfl, Nat.le_of_ble_eq_true rfl⟩) ⟨PcS.blind, va_recv (q0 := 0) hK hP rfl rfl, PcS.use hP hK hN⟩ rfl rfl hl.1 rfl (lv_room (Nat.le_of_ble_eq_true rfl)) d_Re_countCuts_28 ⟨Nat.zero_le _, Nat.zero_le _⟩) (fun r28 hr28 => ?_)
    obtain rfl : r28 = nI (cutN X j) := hr28
    refine lv_iadd hx hb d_Re_countCuts_31 ?_
    refine x_topi (y := (nI (acc + cutN X j))) (nI_add _ _) ?_
    refine lv_istore_n hx hb d_Re_countCuts_32 rfl hl (by decide) rfl (fun ls hl => ?_)
    replace hl : lv_has ls 5 [(2, .int (nI (acc + cutN X j))), (4, .int (nI i)), (3, .int (nI j)), (0, .ref h), (1, .int (nI r))] := hl
    refine lv_aload_n hx hb d_Re_countCuts_33 rfl (lv_at hl 3 rfl) ?_
    refine va_get (D := (dC, dI)) (ci := 3) (v := .ref (b 8)) (C := R_Re) (T := F_Re) (N := 10) hx hb hts u_Re hown hK hP 0 rfl rfl 8 (by decide) (hts _ kw_55) (fun _ h9 => h9) rfl d_Re_countCuts_34 ?_
    refine lv_iload_n hx hb d_Re_countCuts_37 rfl (lv_at hl 2 rfl) ?_
    refine x_iald (j := j) (v := (pI (X.nx j))) hx hb hK hP 9 0 rfl rfl hj (by decide) rfl rfl d_Re_countCuts_38 ?_
    refine lv_istore_n hx hb d_Re_countCuts_39 rfl hl (by decide) rfl (fun ls hl => ?_)
    replace hl : lv_has ls 5 [(3, .int (pI (X.nx j))), (2, .int (nI (acc + cutN X j))), (4, .int (nI i)), (0, .ref h), (1, .int (nI r))] := hl
    refine lv_iinc hx hb d_Re_countCuts_40 hl (k := 2) (v := (nI (i + 1))) rfl (nI_1 i) (by decide) rfl (fun ls hl => ?_)
    replace hl : lv_has ls 5 [(4, .int (nI (i + 1))), (3, .int (pI (X.nx j))), (2, .int (nI (acc + cutN X j))), (0, .ref h), (1, .int (nI r))] := hl
    refine lv_goto hx hb d_Re_countCuts_43 rfl ?_
    refine ih _ _ _ _ hC (fun k q => hX.nx q) ?_ ?_ hl
    · omega
    · exact (by rw [← hsum]; simp only [cutsL]; omega)
