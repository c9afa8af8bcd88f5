def tldN (S : LDS) (jn w : Nat) : Int32 := match w with
  | 0 => nI S.X.n
  | 1 => nI S.td
  | 2 => nI S.qd
  | 3 => nI jn
  | _ => -1
set_option maxHeartbeats 4000000 in
set_option maxRecDepth 100000 in
theorem c_PR_told (l : Launch) (dC : Nat → ClassId) (dI : Nat → Nat → Nat) (cI : ClassId) (o : Nat) (g : Nat → Nat) (S : LDS) (g2 : Nat → Nat) (S2 : LDS) (jh ja : Nat) (pt : Nat → Int32) (jn : Nat) (hS9 : LDok S) (hjn : jn ≤ 300) (w : Nat) (hw0 : w < 4294967296) : Met l y_PR_told (.code y_PR_told b_PR_told 2 (some .int) :: wG) ({ frames := 0, cells := 0, slots := 0, locals := 0 }) (PcS (dC, dI) [(cI, .int)] (wPR cI o g S g2 S2 jh ja pt jn) [.ref o, .int (nI w)]) (vp_Si (fun r9 => r9 = tldN S jn w)) 0 0 (fun _ => False) := by
  refine Met.ofW (cc := b_PR_told) (maxL := 2) (ret := (some .int)) (by decide) rfl ?_
  intro pg eg s mg ag bg meth cg s₁ B hml hv
  obtain ⟨rfl, hP, hK, hN⟩ := hv
  have hx := B.exec
  have hb := B.bytes
  have hr := B.returns
  have hlocks := B.notSynchronized
  have hts : ∀ w9 ∈ wG, w9.before ([.ref o, .int (nI w)] : List Value).toArray s = true := fun w9 h9 => atoms_spec (ws := (.code y_PR_told b_PR_told 2 (some .int) :: wG)) B.pre w9 (List.mem_cons_of_mem _ h9)
  have hown : s.vm.findClass "PrefixRegistry" = some mg.cls := findClass_of_methodNamed B.named
  have hP : va_P (dC, dI) classes (wPR cI o g S g2 S2 jh ja pt jn) s.heap := hP
  have hl := lv_entry ([.ref o, .int (nI w)]) (n := 2) (Nat.le_of_ble_eq_true rfl)
  rw [lg_entry_eq]
  generalize (lg_sl ([.ref o, .int (nI w)]) ++ List.replicate (2 - (lg_sl ([.ref o, .int (nI w)])).length) Slot.unset).toArray = ls at hl ⊢
  replace hl : lv_has ls 2 [(0, .ref o), (1, .int (nI w))] := hl
  obtain rfl | rfl | rfl | rfl | hw4 : w = 0 ∨ w = 1 ∨ w = 2 ∨ w = 3 ∨ 4 ≤ w := by omega
  · refine lv_iload_n hx hb d_PR_told_0 rfl (lv_at hl 1 rfl) ?_
    refine lv_tableIn (tgt := 32) hx hb d_PR_told_1 (by decide) (by decide) rfl rfl ?_
    refine lv_aload_n hx hb d_PR_told_32 rfl (lv_at hl 0 rfl) ?_
    refine va_get (D := (dC, dI)) (ci := 4) (v := .ref (g 0)) (C := R_PR) (T := F_PR) (N := 3) hx hb hts u_PR hown hK hP 0 rfl rfl 0 (by decide) (hts _ kw_146) (fun _ h9 => h9) rfl d_PR_told_33 ?_
    refine va_getN (D := (dC, dI)) (ci := 2) (v := .ref (g 3)) (C := R_Le) (T := F_Le) (N := 5) hx hb hts u_Le hown hK hP 1 rfl rfl 0 (by decide) (va_Nw.use rfl (hN.at 113 nw_113 rfl)) (fun _ h9 => h9) rfl d_PR_told_36 ?_
    refine va_getN (D := (dC, dI)) (ci := 3) (v := .int (nI S.X.n)) (C := R_Re) (T := F_Re) (N := 10) hx hb hts u_Re hown hK hP 4 rfl rfl 9 (by decide) (va_Nw.use rfl (hN.at 60 nw_60 rfl)) (fun _ h9 => h9) rfl d_PR_told_39 ?_
    exact W.iret (v := (nI S.X.n)) hx hb hr (fun t ht hW => ⟨(nI S.X.n), rfl, (by rfl), ht⟩) (fun q h => nomatch h) d_PR_told_42
  · refine lv_iload_n hx hb d_PR_told_0 rfl (lv_at hl 1 rfl) ?_
    refine lv_tableIn (tgt := 43) hx hb d_PR_told_1 (by decide) (by decide) rfl rfl ?_
    refine lv_aload_n hx hb d_PR_told_43 rfl (lv_at hl 0 rfl) ?_
    refine va_get (D := (dC, dI)) (ci := 4) (v := .ref (g 0)) (C := R_PR) (T := F_PR) (N := 3) hx hb hts u_PR hown hK hP 0 rfl rfl 0 (by decide) (hts _ kw_146) (fun _ h9 => h9) rfl d_PR_told_44 ?_
    refine va_getN (D := (dC, dI)) (ci := 2) (v := .int (nI S.td)) (C := R_Le) (T := F_Le) (N := 5) hx hb hts u_Le hown hK hP 1 rfl rfl 3 (by decide) (va_Nw.use rfl (hN.at 118 nw_118 rfl)) (fun _ h9 => h9) rfl d_PR_told_47 ?_
    exact W.iret (v := (nI S.td)) hx hb hr (fun t ht hW => ⟨(nI S.td), rfl, (by rfl), ht⟩) (fun q h => nomatch h) d_PR_told_50
  · refine lv_iload_n hx hb d_PR_told_0 rfl (lv_at hl 1 rfl) ?_
    refine lv_tableIn (tgt := 51) hx hb d_PR_told_1 (by decide) (by decide) rfl rfl ?_
    refine lv_aload_n hx hb d_PR_told_51 rfl (lv_at hl 0 rfl) ?_
    refine va_get (D := (dC, dI)) (ci := 4) (v := .ref (g 0)) (C := R_PR) (T := F_PR) (N := 3) hx hb hts u_PR hown hK hP 0 rfl rfl 0 (by decide) (hts _ kw_146) (fun _ h9 => h9) rfl d_PR_told_52 ?_
    refine va_getN (D := (dC, dI)) (ci := 2) (v := .int (nI S.qd)) (C := R_Le) (T := F_Le) (N := 5) hx hb hts u_Le hown hK hP 1 rfl rfl 4 (by decide) (va_Nw.use rfl (hN.at 120 nw_120 rfl)) (fun _ h9 => h9) rfl d_PR_told_55 ?_
    exact W.iret (v := (nI S.qd)) hx hb hr (fun t ht hW => ⟨(nI S.qd), rfl, (by rfl), ht⟩) (fun q h => nomatch h) d_PR_told_58
  · refine lv_iload_n hx hb d_PR_told_0 rfl (lv_at hl 1 rfl) ?_
    refine lv_tableIn (tgt := 59) hx hb d_PR_told_1 (by decide) (by decide) rfl rfl ?_
    refine lv_aload_n hx hb d_PR_told_59 rfl (lv_at hl 0 rfl) ?_
    refine va_get (D := (dC, dI)) (ci := 4) (v := .ref jh) (C := R_PR) (T := F_PR) (N := 3) hx hb hts u_PR hown hK hP 0 rfl rfl 2 (by decide) (hts _ kw_148) (fun _ h9 => h9) rfl d_PR_told_60 ?_
    refine va_getN (D := (dC, dI)) (ci := 1) (v := .int (nI jn)) (C := R_Jn) (T := F_Jn) (N := 2) hx hb hts u_Jn hown hK hP 27 rfl rfl 1 (by decide) (va_Nw.use rfl (hN.at 140 nw_140 rfl)) (fun _ h9 => h9) rfl d_PR_told_63 ?_
    exact W.iret (v := (nI jn)) hx hb hr (fun t ht hW => ⟨(nI jn), rfl, (by rfl), ht⟩) (fun q h => nomatch h) d_PR_told_66
  · refine lv_iload_n hx hb d_PR_told_0 rfl (lv_at hl 1 rfl) ?_
    refine lv_tableOut (tgt := 67) hx hb d_PR_told_1 (by rw [k_toInt hw0]; split <;> omega) rfl ?_
    refine lv_iconst (v := (-1)) hx hb d_PR_told_67 (by decide) ?_
    exact W.iret (v := (-1)) hx hb hr (fun t ht hW => ⟨(-1), rfl, (by unfold tldN; split <;> first | omega | rfl), ht⟩) (fun q h => nomatch h) d_PR_told_68
set_option maxHeartbeats 4000000 in
set_option maxRecDepth 100000 in
theorem c_PR_holderOf (l : Launch) (dC : Nat → ClassId) (dI : Nat → Nat → Nat) (cI : ClassId) (o : Nat) (g : Nat → Nat) (S : LDS) (g2 : Nat → Nat) (S2 : LDS) (jh ja : Nat) (pt : Nat → Int32) (jn : Nat) (hS9 : LDok S) (hjn : jn ≤ 300) (a v : Nat) (ha : a < 4294967296) (hv : v < 4294967296) : Met l y_PR_holderOf (.code y_PR_holderOf b_PR_holderOf 3 (some .int) :: wG) ({ frames := 4, cells := 0, slots := 0, locals := 89 }) (PcS (dC, dI) [(cI, .int)] (wPR cI o g S g2 S2 jh ja pt jn) [.ref o, .int (nI a), .int (nI v)]) (vp_Si (fun r9 => r9 = pI (fst (gwP S.X a v) 0 S.X.n))) 0 0 (fun _ => False) := by
  refine Met.ofW (cc := b_PR_holderOf) (maxL := 3) (ret := (some .int)) (by decide) rfl ?_
  intro pg eg s mg ag bg meth cg s₁ B hml hv
  obtain ⟨rfl, hP, hK, hN⟩ := hv
  have hx := B.exec
  have hb := B.bytes
  have hr := B.returns
  have hlocks := B.notSynchronized
  have hts : ∀ w9 ∈ wG, w9.before ([.ref o, .int (nI a), .int (nI v)] : List Value).toArray s = true := fun w9 h9 => atoms_spec (ws := (.code y_PR_holderOf b_PR_holderOf 3 (some .int) :: wG)) B.pre w9 (List.mem_cons_of_mem _ h9)
  have hown : s.vm.findClass "PrefixRegistry" = some mg.cls := findClass_of_methodNamed B.named
  have hP : va_P (dC, dI) classes (wPR cI o g S g2 S2 jh ja pt jn) s.heap := hP
  have hl := lv_entry ([.ref o, .int (nI a), .int (nI v)]) (n := 3) (Nat.le_of_ble_eq_true rfl)
  rw [lg_entry_eq]
  generalize (lg_sl ([.ref o, .int (nI a), .int (nI v)]) ++ List.replicate (3 - (lg_sl ([.ref o, .int (nI a), .int (nI v)])).length) Slot.unset).toArray = ls at hl ⊢
  replace hl : lv_has ls 3 [(0, .ref o), (1, .int (nI a)), (2, .int (nI v))] := hl
  refine lv_aload_n hx hb d_PR_holderOf_0 rfl (lv_at hl 0 rfl) ?_
  refine va_get (D := (dC, dI)) (ci := 4) (v := .ref (g 0)) (C := R_PR) (T := F_PR) (N := 3) hx hb hts u_PR hown hK hP 0 rfl rfl 0 (by decide) (hts _ kw_146) (fun _ h9 => h9) rfl d_PR_holderOf_1 ?_
  refine va_getN (D := (dC, dI)) (ci := 2) (v := .ref (g 3)) (C := R_Le) (T := F_Le) (N := 5) hx hb hts u_Le hown hK hP 1 rfl rfl 0 (by decide) (va_Nw.use rfl (hN.at 113 nw_113 rfl)) (fun _ h9 => h9) rfl d_PR_holderOf_4 ?_
  refine lv_iload_n hx hb d_PR_holderOf_7 rfl (lv_at hl 1 rfl) ?_
  refine lv_iload_n hx hb d_PR_holderOf_8 rfl (lv_at hl 2 rfl) ?_
  refine vp_callSi (W.runV (b := (g 3)) (As := [.int (nI a), .int (nI v)]) (rest := []) ⟨hx, hb, hml, hown, hts⟩ (c_Re_givenWith l dC dI cI (g 3) (fun k => g (4 + k)) S.X hS9.1 a v ha hv) (cwV 2 hts (gV kw_160 kw_161 kw_162 kw_3 kw_163) rfl rfl rfl (by decide +kernel) ⟨Nat.le_of_ble_eq_true rfl, Nat.le_of_ble_eq_true rfl⟩) ⟨PcS.blind, va_recv (q0 := 0) hK (hP.sub (ws' := wRe cI (g 3) (fun k => g (4 + k)) S.X) [4, 5, 6, 7, 8, 9, 10, 11, 12, 13] rfl) rfl rfl, PcS.use (hP.sub (ws' := wRe cI (g 3) (fun k => g (4 + k)) S.X) [4, 5, 6, 7, 8, 9, 10, 11, 12, 13] rfl) hK hN⟩ rfl rfl hl.1 rfl (lv_room (Nat.le_of_ble_eq_true rfl)) d_PR_holderOf_9 ⟨Nat.zero_le _, Nat.zero_le _⟩) (fun r9 hr9 => ?_)
  obtain rfl : r9 = pI (fst (gwP S.X a v) 0 S.X.n) := hr9
  exact W.iret (v := pI (fst (gwP S.X a v) 0 S.X.n)) hx hb hr (fun t ht hW => ⟨pI (fst (gwP S.X a v) 0 S.X.n), rfl, (by rfl), ht⟩) (fun q h => nomatch h) d_PR_holderOf_12
set_option maxHeartbeats 4000000 in
set_option maxRecDepth 100000 in
theorem c_PR_same (l : Launch) (dC : Nat → ClassId) (dI : Nat → Nat → Nat) (cI : ClassId) (o : Nat) (g : Nat → Nat) (S : LDS) (g2 : Nat → Nat) (S2 : LDS) (jh ja : Nat) (pt : Nat → Int32) (jn : Nat) (hS9 : LDok S) (hjn : jn ≤ 300) (hS29 : LDok S2) : Met l y_PR_same (.code y_PR_same b_PR_same 1 (some .boolean) :: wG) ({ frames := 3, cells := 0, slots := 0, locals := 67 }) (PcS (dC, dI) [(cI, .int)] (wPR cI o g S g2 S2 jh ja pt jn) [.ref o]) (vp_Si (fun r9 => r9 = bi (lkB S.X S2.X S.pol S2.pol S.td S2.td S.qd S2.qd))) 0 0 (fun _ => False) := by
  refine Met.ofW (cc := b_PR_same) (maxL := 1) (ret := (some .boolean)) (by decide) rfl ?_
  intro pg eg s mg ag bg meth cg s₁ B hml hv
  obtain ⟨rfl, hP, hK, hN⟩ := hv
  have hx := B.exec
  have hb := B.bytes
  have hr := B.returns
  have hlocks := B.notSynchronized
  have hts : ∀ w9 ∈ wG, w9.before ([.ref o] : List Value).toArray s = true := fun w9 h9 => atoms_spec (ws := (.code y_PR_same b_PR_same 1 (some .boolean) :: wG)) B.pre w9 (List.mem_cons_of_mem _ h9)
  have hown : s.vm.findClass "PrefixRegistry" = some mg.cls := findClass_of_methodNamed B.named
  have hP : va_P (dC, dI) classes (wPR cI o g S g2 S2 jh ja pt jn) s.heap := hP
  have hl := lv_entry ([.ref o]) (n := 1) (Nat.le_of_ble_eq_true rfl)
  rw [lg_entry_eq]
  generalize (lg_sl ([.ref o]) ++ List.replicate (1 - (lg_sl ([.ref o])).length) Slot.unset).toArray = ls at hl ⊢
  replace hl : lv_has ls 1 [(0, .ref o)] := hl
  refine lv_aload_n hx hb d_PR_same_0 rfl (lv_at hl 0 rfl) ?_
  refine va_get (D := (dC, dI)) (ci := 4) (v := .ref (g 0)) (C := R_PR) (T := F_PR) (N := 3) hx hb hts u_PR hown hK hP 0 rfl rfl 0 (by decide) (hts _ kw_146) (fun _ h9 => h9) rfl d_PR_same_1 ?_
  refine lv_aload_n hx hb d_PR_same_4 rfl (lv_at hl 0 rfl) ?_
  refine va_get (D := (dC, dI)) (ci := 4) (v := .ref (g2 0)) (C := R_PR) (T := F_PR) (N := 3) hx hb hts u_PR hown hK hP 0 rfl rfl 1 (by decide) (hts _ kw_147) (fun _ h9 => h9) rfl d_PR_same_5 ?_
  refine vp_callSi (W.runV (b := (g 0)) (As := [.ref (g2 0)]) (rest := []) ⟨hx, hb, hml, hown, hts⟩ (c_Le_isLike l dC dI cI g S.X hS9.1 S.pol S.td S.qd S.wk g2 S2.X hS29.1 S2.pol S2.td S2.qd S2.wk (fun v => ⟨hS9.2.1 v, hS29.2.1 v⟩) (by have := hS9.2.2; have := hS29.2.2; omega)) (cwV 1 hts (gV kw_191 kw_192 kw_193 kw_2 kw_194) rfl rfl rfl (by decide +kernel) ⟨Nat.le_of_ble_eq_true rfl, Nat.le_of_ble_eq_true rfl⟩) ⟨PcS.blind, va_recv (q0 := 0) hK (hP.sub (ws' := wLe cI g S.X S.pol S.td S.qd S.wk ++ wLe cI g2 S2.X S2.pol S2.td S2.qd S2.wk) [1, 2, 3, 4, 5, 6, 7, 8, 9, 10, 11, 12, 13, 14, 15, 16, 17, 18, 19, 20, 21, 22, 23, 24, 25, 26] rfl) rfl rfl, PcS.use (hP.sub (ws' := wLe cI g S.X S.pol S.td S.qd S.wk ++ wLe cI g2 S2.X S2.pol S2.td S2.qd S2.wk) [1, 2, 3, 4, 5, 6, 7, 8, 9, 10, 11, 12, 13, 14, 15, 16, 17, 18, 19, 20, 21, 22, 23, 24, 25, 26] rfl) hK hN⟩ rfl rfl hl.1 rfl (lv_room (Nat.le_of_ble_eq_true rfl)) d_PR_same_8 ⟨Nat.zero_le _, Nat.zero_le _⟩) (fun r8 hr8 => ?_)
  obtain rfl : r8 = bi (lkB S.X S2.X S.pol S2.pol S.td S2.td S.qd S2.qd) := hr8
  exact W.zret (v := bi (lkB S.X S2.X S.pol S2.pol S.td S2.td S.qd S2.qd)) hx hb hr (bi_nar _) (fun t ht hW => ⟨bi (lkB S.X S2.X S.pol S2.pol S.td S2.td S.qd S2.qd), rfl, (by rfl), ht⟩) (fun q h => nomatch h) d_PR_same_11
set_option maxHeartbeats 4000000 in
set_option maxRecDepth 100000 in
theorem c_PR_used (l : Launch) (hlt : l.stackTraces = false) (dC : Nat → ClassId) (dI : Nat → Nat → Nat) (sz : Nat) (cI : ClassId) (o : Nat) (g : Nat → Nat) (S : LDS) (g2 : Nat → Nat) (S2 : LDS) (jh ja : Nat) (pt : Nat → Int32) (jn : Nat) (hS9 : LDok S) (hjn : jn ≤ 300) (C : Nat → List Nat) (hCh : ∀ r, r < S.X.n → chn S.X.nx (S.X.fc r) (C r) ∧ (C r).length ≤ 200) (x : Nat) (hx0 : x < 4294967296) : vx_Met l y_PR_used (.code y_PR_used b_PR_used 2 (some .long) :: wG) ({ frames := 7, cells := 1, slots := 6, locals := 102 }) (PcR (dC, dI) [(cI, .int)] (wPR cI o g S g2 S2 jh ja pt jn) [.ref o, .int (nI x)] sz) (QrL (fun r9 => x < S.X.n ∧ r9 = lN (usedL S.X (C x))) sz) (XCx (fun E9 => E9 = "java/lang/IndexOutOfBoundsException" ∧ ¬ x < S.X.n) sz) 1 6 (fun q => sz ≤ q) := by
  refine vx_ofW (cc := b_PR_used) (maxL := 2) (ret := (some .long)) (by decide) rfl ?_
  intro pg eg s mg ag bg meth cg s₁ B hml hne hv
  obtain ⟨rfl, hsz, hP, hK, hN, hX0⟩ := hv
  have hx := B.exec
  have hb := B.bytes
  have hr := B.returns
  have hlocks := B.notSynchronized
  have hts : ∀ w9 ∈ wG, w9.before ([.ref o, .int (nI x)] : List Value).toArray s = true := fun w9 h9 => atoms_spec (ws := (.code y_PR_used b_PR_used 2 (some .long) :: wG)) B.pre w9 (List.mem_cons_of_mem _ h9)
  have hown : s.vm.findClass "PrefixRegistry" = some mg.cls := findClass_of_methodNamed B.named
  subst hsz
  have hA : ∀ q : Nat, s.heap.size ≤ q → (fun q : Nat => s.heap.size ≤ q) q := fun q h => h
  have hS : va_S (fun q : Nat => s.heap.size ≤ q) s.heap s.heap [] := va_S.rf
  have hU : ∀ q : Nat, q < s.heap.size → s.heap[q]? = s.heap[q]? := fun q _ => rfl
  have hl := lv_entry ([.ref o, .int (nI x)]) (n := 2) (Nat.le_of_ble_eq_true rfl)
  rw [lg_entry_eq]
  generalize (lg_sl ([.ref o, .int (nI x)]) ++ List.replicate (2 - (lg_sl ([.ref o, .int (nI x)])).length) Slot.unset).toArray = ls at hl ⊢
  replace hl : lv_has ls 2 [(0, .ref o), (1, .int (nI x))] := hl
  replace hP : va_P (dC, dI) classes (wPR cI o g S g2 S2 jh ja pt jn) s.heap := hP
  refine lv_aload_n hx hb d_PR_used_0 rfl (lv_at hl 0 rfl) ?_
  refine lv_iload_n hx hb d_PR_used_1 rfl (lv_at hl 1 rfl) ?_
  have hS0 := hS.1
  refine vx_callv (vx_runV (b := o) (As := [.int (nI x)]) (rest := []) ⟨hx, hb, hml, hown, hts⟩ (c_PR_refuseUnknown l hlt dC dI s.heap.size cI o g S g2 S2 jh ja pt jn hS9 hjn x hx0) (cwV 1 hts (gV kw_518 kw_520 ks_19 kw_1 kw_521) rfl rfl rfl (by decide +kernel) ⟨Nat.le_of_ble_eq_true rfl, Nat.le_of_ble_eq_true rfl⟩) ⟨PcR.blind, va_recv (q0 := 0) hK hP rfl rfl, PcR.use hP hK hN hX0 hS hA⟩ rfl rfl hl.1 rfl (lv_room (Nat.le_of_ble_eq_true rfl)) d_PR_used_2 ⟨Nat.le_of_ble_eq_true rfl, Nat.le_of_ble_eq_true rfl⟩) hS (fun q h1 h2 => absurd h2 (Nat.not_le.mpr h1)) (fun q h => hA q (Nat.le_trans hS.1 h)) (fun q h1 h2 => absurd h2 (Nat.not_le.mpr h1)) (fun E9 ce q9 u9 H9 H1 locs hH9 hv9 _ hB hz1 hk1 hS hce hcv hcl => ?_) (fun u9 H9 H1 locs hH9 hv9 hp9 _ hz1 hk1 hS => ?_)
  · exact vx_out (E := E9) (fun x h => (hne x h).elim) hlocks hce hcv hcl (fun t ht hv => ⟨(), trivial, hB, by rw [ht]; exact hS.1, fun q h1 h2 => by rw [ht]; exact (hk1 q (Nat.lt_of_lt_of_le h1 hS0) (Nat.not_le.mpr (Nat.lt_of_lt_of_le h1 hS0))).trans (hU q h1)⟩) hS.2.2 (Nat.le_of_ble_eq_true rfl) (Nat.le_of_ble_eq_true rfl)
  replace hU : ∀ q : Nat, q < s.heap.size → H1[q]? = s.heap[q]? := fun q h1 => (hk1 q (Nat.lt_of_lt_of_le h1 hS0) (Nat.not_le.mpr (Nat.lt_of_lt_of_le h1 hS0))).trans (hU q h1)
  replace hP := x_keep hP hk1
  clear hk1 hz1 hv9 hH9 hS0
  generalize H1 = H at hP hS hU ⊢
  have h2 := hp9
  refine lv_aload_n hx hb d_PR_used_5 rfl (lv_at hl 0 rfl) ?_
  refine va_get (D := (dC, dI)) (ci := 4) (v := .ref (g 0)) (C := R_PR) (T := F_PR) (N := 3) hx hb hts u_PR hown hK hP 0 rfl rfl 0 (by decide) (hts _ kw_146) (fun _ h9 => h9) rfl d_PR_used_6 ?_
  refine va_getN (D := (dC, dI)) (ci := 2) (v := .ref (g 3)) (C := R_Le) (T := F_Le) (N := 5) hx hb hts u_Le hown hK hP 1 rfl rfl 0 (by decide) (va_Nw.use rfl (hN.at 113 nw_113 rfl)) (fun _ h9 => h9) rfl d_PR_used_9 ?_
  refine lv_iload_n hx hb d_PR_used_12 rfl (lv_at hl 1 rfl) ?_
  refine vp_callSl (W.runV (b := (g 3)) (As := [.int (nI x)]) (rest := []) ⟨hx, hb, hml, hown, hts⟩ (c_Re_usedBelow l dC dI cI (g 3) (fun k => g (4 + k)) S.X hS9.1 x (by have := hS9.1.n; omega) (C x) (hCh x h2).1 (hCh x h2).2) (cwV 1 hts (gV kw_656 kw_486 kw_487 kw_3 kw_488) rfl rfl rfl (by decide +kernel) ⟨Nat.le_of_ble_eq_true rfl, Nat.le_of_ble_eq_true rfl⟩) ⟨PcS.blind, va_recv (q0 := 0) hK (hP.sub (ws' := wRe cI (g 3) (fun k => g (4 + k)) S.X) [4, 5, 6, 7, 8, 9, 10, 11, 12, 13] rfl) rfl rfl, PcS.use (hP.sub (ws' := wRe cI (g 3) (fun k => g (4 + k)) S.X) [4, 5, 6, 7, 8, 9, 10, 11, 12, 13] rfl) hK hN⟩ rfl rfl hl.1 rfl (lv_room (Nat.le_of_ble_eq_true rfl)) d_PR_used_13 ⟨Nat.le_of_ble_eq_true rfl, Nat.le_of_ble_eq_true rfl⟩) (fun r13 hr13 => ?_)
  obtain rfl : r13 = lN (usedL S.X (C x)) := hr13
  refine vx_ret ?_
  refine W.widen (k := 1) (n := 6) (Nat.le_of_ble_eq_true rfl) (Nat.le_of_ble_eq_true rfl) ?_
  exact W.lret (v := lN (usedL S.X (C x))) hx hb hr (fun t ht hW => ⟨⟨lN (usedL S.X (C x)), (), rfl, ⟨h2, rfl⟩, trivial⟩, ⟨Nat.le_trans hS.1 (Nat.le_of_eq (congrArg Array.size ht.symm)), fun q h1 h2 => (congrArg (fun h9 : Heap => h9[q]?) ht).trans (hU q h1)⟩⟩) hS.2.2 d_PR_used_16
set_option maxHeartbeats 4000000 in
set_option maxRecDepth 100000 in
theorem c_PR_cuts (l : Launch) (hlt : l.stackTraces = false) (dC : Nat → ClassId) (dI : Nat → Nat → Nat) (sz : Nat) (cI : ClassId) (o : Nat) (g : Nat → Nat) (S : LDS) (g2 : Nat → Nat) (S2 : LDS) (jh ja : Nat) (pt : Nat → Int32) (jn : Nat) (hS9 : LDok S) (hjn : jn ≤ 300) (C : Nat → List Nat) (hCh : ∀ r, r < S.X.n → chn S.X.nx (S.X.fc r) (C r) ∧ (C r).length ≤ 200) (x : Nat) (hx0 : x < 4294967296) : vx_Met l y_PR_cuts (.code y_PR_cuts b_PR_cuts 2 (some .int) :: wG) ({ frames := 7, cells := 1, slots := 6, locals := 102 }) (PcR (dC, dI) [(cI, .int)] (wPR cI o g S g2 S2 jh ja pt jn) [.ref o, .int (nI x)] sz) (QrI (fun r9 => x < S.X.n ∧ r9 = nI (cutsL S.X (C x))) sz) (XCx (fun E9 => E9 = "java/lang/IndexOutOfBoundsException" ∧ ¬ x < S.X.n) sz) 1 6 (fun q => sz ≤ q) := by
  refine vx_ofW (cc := b_PR_cuts) (maxL := 2) (ret := (some .int)) (by decide) rfl ?_
  intro pg eg s mg ag bg meth cg s₁ B hml hne hv
  obtain ⟨rfl, hsz, hP, hK, hN, hX0⟩ := hv
  have hx := B.exec
  have hb := B.bytes
  have hr := B.returns
  have hlocks := B.notSynchronized
  have hts : ∀ w9 ∈ wG, w9.before ([.ref o, .int (nI x)] : List Value).toArray s = true := fun w9 h9 => atoms_spec (ws := (.code y_PR_cuts b_PR_cuts 2 (some .int) :: wG)) B.pre w9 (List.mem_cons_of_mem _ h9)
  have hown : s.vm.findClass "PrefixRegistry" = some mg.cls := findClass_of_methodNamed B.named
  subst hsz
  have hA : ∀ q : Nat, s.heap.size ≤ q → (fun q : Nat => s.heap.size ≤ q) q := fun q h => h
  have hS : va_S (fun q : Nat => s.heap.size ≤ q) s.heap s.heap [] := va_S.rf
  have hU : ∀ q : Nat, q < s.heap.size → s.heap[q]? = s.heap[q]? := fun q _ => rfl
  have hl := lv_entry ([.ref o, .int (nI x)]) (n := 2) (Nat.le_of_ble_eq_true rfl)
  rw [lg_entry_eq]
  generalize (lg_sl ([.ref o, .int (nI x)]) ++ List.replicate (2 - (lg_sl ([.ref o, .int (nI x)])).length) Slot.unset).toArray = ls at hl ⊢
  replace hl : lv_has ls 2 [(0, .ref o), (1, .int (nI x))] := hl
  replace hP : va_P (dC, dI) classes (wPR cI o g S g2 S2 jh ja pt jn) s.heap := hP
  refine lv_aload_n hx hb d_PR_cuts_0 rfl (lv_at hl 0 rfl) ?_
  refine lv_iload_n hx hb d_PR_cuts_1 rfl (lv_at hl 1 rfl) ?_
  have hS0 := hS.1
  refine vx_callv (vx_runV (b := o) (As := [.int (nI x)]) (rest := []) ⟨hx, hb, hml, hown, hts⟩ (c_PR_refuseUnknown l hlt dC dI s.heap.size cI o g S g2 S2 jh ja pt jn hS9 hjn x hx0) (cwV 1 hts (gV kw_518 kw_520 ks_19 kw_1 kw_521) rfl rfl rfl (by decide +kernel) ⟨Nat.le_of_ble_eq_true rfl, Nat.le_of_ble_eq_true rfl⟩) ⟨PcR.blind, va_recv (q0 := 0) hK hP rfl rfl, PcR.use hP hK hN hX0 hS hA⟩ rfl rfl hl.1 rfl (lv_room (Nat.le_of_ble_eq_true rfl)) d_PR_cuts_2 ⟨Nat.le_of_ble_eq_true rfl, Nat.le_of_ble_eq_true rfl⟩) hS (fun q h1 h2 => absurd h2 (Nat.not_le.mpr h1)) (fun q h => hA q (Nat.le_trans hS.1 h)) (fun q h1 h2 => absurd h2 (Nat.not_le.mpr h1)) (fun E9 ce q9 u9 H9 H1 locs hH9 hv9 _ hB hz1 hk1 hS hce hcv hcl => ?_) (fun u9 H9 H1 locs hH9 hv9 hp9 _ hz1 hk1 hS => ?_)
  · exact vx_out (E := E9) (fun x h => (hne x h).elim) hlocks hce hcv hcl (fun t ht hv => ⟨(), trivial, hB, by rw [ht]; exact hS.1, fun q h1 h2 => by rw [ht]; exact (hk1 q (Nat.lt_of_lt_of_le h1 hS0) (Nat.not_le.mpr (Nat.lt_of_lt_of_le h1 hS0))).trans (hU q h1)⟩) hS.2.2 (Nat.le_of_ble_eq_true rfl) (Nat.le_of_ble_eq_true rfl)
  replace hU : ∀ q : Nat, q < s.heap.size → H1[q]? = s.heap[q]? := fun q h1 => (hk1 q (Nat.lt_of_lt_of_le h1 hS0) (Nat.not_le.mpr (Nat.lt_of_lt_of_le h1 hS0))).trans (hU q h1)
  replace hP := x_keep hP hk1
  clear hk1 hz1 hv9 hH9 hS0
  generalize H1 = H at hP hS hU ⊢
  have h2 := hp9
  refine lv_aload_n hx hb d_PR_cuts_5 rfl (lv_at hl 0 rfl) ?_
  refine va_get (D := (dC, dI)) (ci := 4) (v := .ref (g 0)) (C := R_PR) (T := F_PR) (N := 3) hx hb hts u_PR hown hK hP 0 rfl rfl 0 (by decide) (hts _ kw_146) (fun _ h9 => h9) rfl d_PR_cuts_6 ?_
  refine va_getN (D := (dC, dI)) (ci := 2) (v := .ref (g 3)) (C := R_Le) (T := F_Le) (N := 5) hx hb hts u_Le hown hK hP 1 rfl rfl 0 (by decide) (va_Nw.use rfl (hN.at 113 nw_113 rfl)) (fun _ h9 => h9) rfl d_PR_cuts_9 ?_
  refine lv_iload_n hx hb d_PR_cuts_12 rfl (lv_at hl 1 rfl) ?_
  refine vp_callSi (W.runV (b := (g 3)) (As := [.int (nI x)]) (rest := []) ⟨hx, hb, hml, hown, hts⟩ (c_Re_countCuts l dC dI cI (g 3) (fun k => g (4 + k)) S.X hS9.1 x (by have := hS9.1.n; omega) (C x) (hCh x h2).1 (hCh x h2).2) (cwV 1 hts (gV kw_664 kw_665 kw_666 kw_3 kw_667) rfl rfl rfl (by decide +kernel) ⟨Nat.le_of_ble_eq_true rfl, Nat.le_of_ble_eq_true rfl⟩) ⟨PcS.blind, va_recv (q0 := 0) hK (hP.sub (ws' := wRe cI (g 3) (fun k => g (4 + k)) S.X) [4, 5, 6, 7, 8, 9, 10, 11, 12, 13] rfl) rfl rfl, PcS.use (hP.sub (ws' := wRe cI (g 3) (fun k => g (4 + k)) S.X) [4, 5, 6, 7, 8, 9, 10, 11, 12, 13] rfl) hK hN⟩ rfl rfl hl.1 rfl (lv_room (Nat.le_of_ble_eq_true rfl)) d_PR_cuts_13 ⟨Nat.le_of_ble_eq_true rfl, Nat.le_of_ble_eq_true rfl⟩) (fun r13 hr13 => ?_)
  obtain rfl : r13 = nI (cutsL S.X (C x)) := hr13
  refine vx_ret ?_
  refine W.widen (k := 1) (n := 6) (Nat.le_of_ble_eq_true rfl) (Nat.le_of_ble_eq_true rfl) ?_
  exact W.iret (v := nI (cutsL S.X (C x))) hx hb hr (fun t ht hW => ⟨⟨nI (cutsL S.X (C x)), (), rfl, ⟨h2, rfl⟩, trivial⟩, ⟨Nat.le_trans hS.1 (Nat.le_of_eq (congrArg Array.size ht.symm)), fun q h1 h2 => (congrArg (fun h9 : Heap => h9[q]?) ht).trans (hU q h1)⟩⟩) hS.2.2 d_PR_cuts_16
set_option maxHeartbeats 4000000 in
set_option maxRecDepth 100000 in
theorem c_PR_cut (l : Launch) (hlt : l.stackTraces = false) (dC : Nat → ClassId) (dI : Nat → Nat → Nat) (sz : Nat) (cI : ClassId) (o : Nat) (g : Nat → Nat) (S : LDS) (g2 : Nat → Nat) (S2 : LDS) (jh ja : Nat) (pt : Nat → Int32) (jn : Nat) (hS9 : LDok S) (hjn : jn ≤ 300) (C : Nat → List Nat) (hCh : ∀ r, r < S.X.n → chn S.X.nx (S.X.fc r) (C r) ∧ (C r).length ≤ 200) (x k : Nat) (hx0 : x < 4294967296) (hk0 : k < 4294967296) (f : Bool) : vx_Met l y_PR_cut (.code y_PR_cut b_PR_cut 4 (some .int) :: wG) ({ frames := 7, cells := 2, slots := 12, locals := 102 }) (PcR (dC, dI) [(cI, .int)] (wPR cI o g S g2 S2 jh ja pt jn) [.ref o, .int (nI x), .int (nI k), .int (bi f)] sz) (QrI (fun r9 => x < S.X.n ∧ k < cutsL S.X (C x) ∧ r9 = cutV S.X (C x) k f) sz) (XCx (fun E9 => E9 = "java/lang/IndexOutOfBoundsException" ∧ ¬ (x < S.X.n ∧ k < cutsL S.X (C x))) sz) 2 12 (fun q => sz ≤ q) := by
  refine vx_ofW (cc := b_PR_cut) (maxL := 4) (ret := (some .int)) (by decide) rfl ?_
  intro pg eg s mg ag bg meth cg s₁ B hml hne hv
  obtain ⟨rfl, hsz, hP, hK, hN, hX0⟩ := hv
  have hx := B.exec
  have hb := B.bytes
  have hr := B.returns
  have hlocks := B.notSynchronized
  have hts : ∀ w9 ∈ wG, w9.before ([.ref o, .int (nI x), .int (nI k), .int (bi f)] : List Value).toArray s = true := fun w9 h9 => atoms_spec (ws := (.code y_PR_cut b_PR_cut 4 (some .int) :: wG)) B.pre w9 (List.mem_cons_of_mem _ h9)
  have hown : s.vm.findClass "PrefixRegistry" = some mg.cls := findClass_of_methodNamed B.named
  subst hsz
  have hA : ∀ q : Nat, s.heap.size ≤ q → (fun q : Nat => s.heap.size ≤ q) q := fun q h => h
  have hS : va_S (fun q : Nat => s.heap.size ≤ q) s.heap s.heap [] := va_S.rf
  have hU : ∀ q : Nat, q < s.heap.size → s.heap[q]? = s.heap[q]? := fun q _ => rfl
  have hl := lv_entry ([.ref o, .int (nI x), .int (nI k), .int (bi f)]) (n := 4) (Nat.le_of_ble_eq_true rfl)
  rw [lg_entry_eq]
  generalize (lg_sl ([.ref o, .int (nI x), .int (nI k), .int (bi f)]) ++ List.replicate (4 - (lg_sl ([.ref o, .int (nI x), .int (nI k), .int (bi f)])).length) Slot.unset).toArray = ls at hl ⊢
  replace hl : lv_has ls 4 [(0, .ref o), (1, .int (nI x)), (2, .int (nI k)), (3, .int (bi f))] := hl
  replace hP : va_P (dC, dI) classes (wPR cI o g S g2 S2 jh ja pt jn) s.heap := hP
  refine lv_aload_n hx hb d_PR_cut_0 rfl (lv_at hl 0 rfl) ?_
  refine lv_iload_n hx hb d_PR_cut_1 rfl (lv_at hl 1 rfl) ?_
  have hS0 := hS.1
  refine vx_callv (vx_runV (b := o) (As := [.int (nI x)]) (rest := []) ⟨hx, hb, hml, hown, hts⟩ (c_PR_refuseUnknown l hlt dC dI s.heap.size cI o g S g2 S2 jh ja pt jn hS9 hjn x hx0) (cwV 1 hts (gV kw_518 kw_520 ks_19 kw_1 kw_521) rfl rfl rfl (by decide +kernel) ⟨Nat.le_of_ble_eq_true rfl, Nat.le_of_ble_eq_true rfl⟩) ⟨PcR.blind, va_recv (q0 := 0) hK hP rfl rfl, PcR.use hP hK hN hX0 hS hA⟩ rfl rfl hl.1 rfl (lv_room (Nat.le_of_ble_eq_true rfl)) d_PR_cut_2 ⟨Nat.le_of_ble_eq_true rfl, Nat.le_of_ble_eq_true rfl⟩) hS (fun q h1 h2 => absurd h2 (Nat.not_le.mpr h1)) (fun q h => hA q (Nat.le_trans hS.1 h)) (fun q h1 h2 => absurd h2 (Nat.not_le.mpr h1)) (fun E9 ce q9 u9 H9 H1 locs hH9 hv9 _ hB hz1 hk1 hS hce hcv hcl => ?_) (fun u9 H9 H1 locs hH9 hv9 hp9 _ hz1 hk1 hS => ?_)
  · exact vx_out (E := E9) (fun x h => (hne x h).elim) hlocks hce hcv hcl (fun t ht hv => ⟨(), trivial, ⟨hB.1, fun q => hB.2 q.1⟩, by rw [ht]; exact hS.1, fun q h1 h2 => by rw [ht]; exact (hk1 q (Nat.lt_of_lt_of_le h1 hS0) (Nat.not_le.mpr (Nat.lt_of_lt_of_le h1 hS0))).trans (hU q h1)⟩) hS.2.2 (Nat.le_of_ble_eq_true rfl) (Nat.le_of_ble_eq_true rfl)
  replace hU : ∀ q : Nat, q < s.heap.size → H1[q]? = s.heap[q]? := fun q h1 => (hk1 q (Nat.lt_of_lt_of_le h1 hS0) (Nat.not_le.mpr (Nat.lt_of_lt_of_le h1 hS0))).trans (hU q h1)
  replace hP := x_keep hP hk1
  clear hk1 hz1 hv9 hH9 hS0
  generalize H1 = H at hP hS hU ⊢
  have h2 := hp9
  refine lv_iload_n hx hb d_PR_cut_5 rfl (lv_at hl 2 rfl) ?_
  refine lv_if_lt hx hb d_PR_cut_6 rfl (fun h6 => ?_) (fun h6 => ?_)
  · have h6 := (k_lt0 hk0).mp h6
    exact vx_throw0 (cls := "java/lang/IndexOutOfBoundsException") (names := nmX) (mc := 2) (ms := 12) hx hb hlt hown (by decide +kernel) (by decide +kernel) (hts _ kw_523) (hts _ kw_16) (x_hat hts hX0 xg_130 xb_130) xo_130 hX0.1 hX0.2.1 hS (hl.1.trans hml.symm) d_PR_cut_24 d_PR_cut_27 d_PR_cut_28 d_PR_cut_31 (fun x h => (hne x h).elim) (Nat.le_of_ble_eq_true rfl) (Nat.le_of_ble_eq_true rfl) (Nat.le_of_ble_eq_true rfl) (Nat.le_of_ble_eq_true rfl) hlocks (fun t hv9 hz9 hk9 => ⟨(), trivial, ⟨rfl, fun q => by have := cutsL_le hS9.1 (C x); have := (hCh x h2).2; omega⟩, ⟨Nat.le_trans hS.1 hz9, fun q h1 h2 => (hk9 q (Nat.lt_of_lt_of_le h1 hS.1)).trans (hU q h1)⟩⟩) hS.2.2 (Nat.le_of_ble_eq_true rfl) (Nat.le_of_ble_eq_true rfl)
  have h6 := mt (k_lt0 hk0).mpr h6
  refine lv_iload_n hx hb d_PR_cut_9 rfl (lv_at hl 2 rfl) ?_
  refine lv_aload_n hx hb d_PR_cut_10 rfl (lv_at hl 0 rfl) ?_
  refine va_get (D := (dC, dI)) (ci := 4) (v := .ref (g 0)) (C := R_PR) (T := F_PR) (N := 3) hx hb hts u_PR hown hK hP 0 rfl rfl 0 (by decide) (hts _ kw_146) (fun _ h9 => h9) rfl d_PR_cut_11 ?_
  refine va_getN (D := (dC, dI)) (ci := 2) (v := .ref (g 3)) (C := R_Le) (T := F_Le) (N := 5) hx hb hts u_Le hown hK hP 1 rfl rfl 0 (by decide) (va_Nw.use rfl (hN.at 113 nw_113 rfl)) (fun _ h9 => h9) rfl d_PR_cut_14 ?_
  refine lv_iload_n hx hb d_PR_cut_17 rfl (lv_at hl 1 rfl) ?_
  refine vp_callSi (W.runV (b := (g 3)) (As := [.int (nI x)]) (rest := [.int (nI k)]) ⟨hx, hb, hml, hown, hts⟩ (c_Re_countCuts l dC dI cI (g 3) (fun k => g (4 + k)) S.X hS9.1 x (by have := hS9.1.n; omega) (C x) (hCh x h2).1 (hCh x h2).2) (cwV 1 hts (gV kw_664 kw_665 kw_666 kw_3 kw_667) rfl rfl rfl (by decide +kernel) ⟨Nat.le_of_ble_eq_true rfl, Nat.le_of_ble_eq_true rfl⟩) ⟨PcS.blind, va_recv (q0 := 0) hK (hP.sub (ws' := wRe cI (g 3) (fun k => g (4 + k)) S.X) [4, 5, 6, 7, 8, 9, 10, 11, 12, 13] rfl) rfl rfl, PcS.use (hP.sub (ws' := wRe cI (g 3) (fun k => g (4 + k)) S.X) [4, 5, 6, 7, 8, 9, 10, 11, 12, 13] rfl) hK hN⟩ rfl rfl hl.1 rfl (lv_room (Nat.le_of_ble_eq_true rfl)) d_PR_cut_18 ⟨Nat.le_of_ble_eq_true rfl, Nat.le_of_ble_eq_true rfl⟩) (fun r18 hr18 => ?_)
  obtain rfl : r18 = nI (cutsL S.X (C x)) := hr18
  refine lv_icmp_lt hx hb d_PR_cut_21 rfl (fun h21 => ?_) (fun h21 => ?_)
  · have h21 := (k_lt hk0 (by have := cutsL_le hS9.1 (C x); have := (hCh x h2).2; omega)).mp h21
    refine lv_aload_n hx hb d_PR_cut_32 rfl (lv_at hl 0 rfl) ?_
    refine va_get (D := (dC, dI)) (ci := 4) (v := .ref (g 0)) (C := R_PR) (T := F_PR) (N := 3) hx hb hts u_PR hown hK hP 0 rfl rfl 0 (by decide) (hts _ kw_146) (fun _ h9 => h9) rfl d_PR_cut_33 ?_
    refine va_getN (D := (dC, dI)) (ci := 2) (v := .ref (g 3)) (C := R_Le) (T := F_Le) (N := 5) hx hb hts u_Le hown hK hP 1 rfl rfl 0 (by decide) (va_Nw.use rfl (hN.at 113 nw_113 rfl)) (fun _ h9 => h9) rfl d_PR_cut_36 ?_
    refine lv_iload_n hx hb d_PR_cut_39 rfl (lv_at hl 1 rfl) ?_
    refine lv_iload_n hx hb d_PR_cut_40 rfl (lv_at hl 2 rfl) ?_
    refine lv_iload_n hx hb d_PR_cut_41 rfl (lv_at hl 3 rfl) ?_
    refine vp_callSi (W.runV (b := (g 3)) (As := [.int (nI x), .int (nI k), .int (bi f)]) (rest := []) ⟨hx, hb, hml, hown, hts⟩ (c_Re_cutAt l dC dI cI (g 3) (fun k => g (4 + k)) S.X hS9.1 x (by have := hS9.1.n; omega) (C x) (hCh x h2).1 (hCh x h2).2 k (by omega) f) (cwV 3 hts (gV kw_682 kw_683 kw_684 kw_3 kw_685) rfl rfl rfl (by decide +kernel) ⟨Nat.le_of_ble_eq_true rfl, Nat.le_of_ble_eq_true rfl⟩) ⟨PcS.blind, va_recv (q0 := 0) hK (hP.sub (ws' := wRe cI (g 3) (fun k => g (4 + k)) S.X) [4, 5, 6, 7, 8, 9, 10, 11, 12, 13] rfl) rfl rfl, PcS.use (hP.sub (ws' := wRe cI (g 3) (fun k => g (4 + k)) S.X) [4, 5, 6, 7, 8, 9, 10, 11, 12, 13] rfl) hK hN⟩ rfl rfl hl.1 rfl (lv_room (Nat.le_of_ble_eq_true rfl)) d_PR_cut_42 ⟨Nat.le_of_ble_eq_true rfl, Nat.le_of_ble_eq_true rfl⟩) (fun r42 hr42 => ?_)
    obtain rfl : r42 = (cutV S.X (C x) k f) := hr42
    refine vx_ret ?_
    refine W.widen (k := 2) (n := 12) (Nat.le_of_ble_eq_true rfl) (Nat.le_of_ble_eq_true rfl) ?_
    exact W.iret (v := (cutV S.X (C x) k f)) hx hb hr (fun t ht hW => ⟨⟨(cutV S.X (C x) k f), (), rfl, ⟨h2, by omega, rfl⟩, trivial⟩, ⟨Nat.le_trans hS.1 (Nat.le_of_eq (congrArg Array.size ht.symm)), fun q h1 h2 => (congrArg (fun h9 : Heap => h9[q]?) ht).trans (hU q h1)⟩⟩) hS.2.2 d_PR_cut_45
  have h21 := mt (k_lt hk0 (by have := cutsL_le hS9.1 (C x); have := (hCh x h2).2; omega)).mpr h21
  exact vx_throw0 (cls := "java/lang/IndexOutOfBoundsException") (names := nmX) (mc := 2) (ms := 12) hx hb hlt hown (by decide +kernel) (by decide +kernel) (hts _ kw_523) (hts _ kw_16) (x_hat hts hX0 xg_130 xb_130) xo_130 hX0.1 hX0.2.1 hS (hl.1.trans hml.symm) d_PR_cut_24 d_PR_cut_27 d_PR_cut_28 d_PR_cut_31 (fun x h => (hne x h).elim) (Nat.le_of_ble_eq_true rfl) (Nat.le_of_ble_eq_true rfl) (Nat.le_of_ble_eq_true rfl) (Nat.le_of_ble_eq_true rfl) hlocks (fun t hv9 hz9 hk9 => ⟨(), trivial, ⟨rfl, fun q => by have := cutsL_le hS9.1 (C x); have := (hCh x h2).2; omega⟩, ⟨Nat.le_trans hS.1 hz9, fun q h1 h2 => (hk9 q (Nat.lt_of_lt_of_le h1 hS.1)).trans (hU q h1)⟩⟩) hS.2.2 (Nat.le_of_ble_eq_true rfl) (Nat.le_of_ble_eq_true rfl)
set_option maxHeartbeats 4000000 in
set_option maxRecDepth 100000 in
theorem c_PR_log (l : Launch) (hlt : l.stackTraces = false) (dC : Nat → ClassId) (dI : Nat → Nat → Nat) (sz : Nat) (cI : ClassId) (o : Nat) (g : Nat → Nat) (S : LDS) (g2 : Nat → Nat) (S2 : LDS) (jh ja : Nat) (pt : Nat → Int32) (jn : Nat) (hS9 : LDok S) (hjn : jn ≤ 300) (k w : Nat) (hk0 : k < 4294967296) (hw0 : w < 4294967296) : vx_Met l y_PR_log (.code y_PR_log b_PR_log 3 (some .int) :: wG) ({ frames := 6, cells := 1, slots := 6, locals := 81 }) (PcR (dC, dI) [(cI, .int)] (wPR cI o g S g2 S2 jh ja pt jn) [.ref o, .int (nI k), .int (nI w)] sz) (QrI (fun r9 => k < jn ∧ w < 4 ∧ r9 = pt (k * 4 + w)) sz) (XCx (fun E9 => (E9 = "java/lang/IndexOutOfBoundsException" ∧ ¬ k < jn) ∨ (E9 = "java/lang/IllegalArgumentException" ∧ k < jn ∧ ¬ w < 4)) sz) 1 6 (fun q => sz ≤ q) := by
  refine vx_ofW (cc := b_PR_log) (maxL := 3) (ret := (some .int)) (by decide) rfl ?_
  intro pg eg s mg ag bg meth cg s₁ B hml hne hv
  obtain ⟨rfl, hsz, hP, hK, hN, hX0⟩ := hv
  have hx := B.exec
  have hb := B.bytes
  have hr := B.returns
  have hlocks := B.notSynchronized
  have hts : ∀ w9 ∈ wG, w9.before ([.ref o, .int (nI k), .int (nI w)] : List Value).toArray s = true := fun w9 h9 => atoms_spec (ws := (.code y_PR_log b_PR_log 3 (some .int) :: wG)) B.pre w9 (List.mem_cons_of_mem _ h9)
  have hown : s.vm.findClass "PrefixRegistry" = some mg.cls := findClass_of_methodNamed B.named
  subst hsz
  have hA : ∀ q : Nat, s.heap.size ≤ q → (fun q : Nat => s.heap.size ≤ q) q := fun q h => h
  have hS : va_S (fun q : Nat => s.heap.size ≤ q) s.heap s.heap [] := va_S.rf
  have hU : ∀ q : Nat, q < s.heap.size → s.heap[q]? = s.heap[q]? := fun q _ => rfl
  have hl := lv_entry ([.ref o, .int (nI k), .int (nI w)]) (n := 3) (Nat.le_of_ble_eq_true rfl)
  rw [lg_entry_eq]
  generalize (lg_sl ([.ref o, .int (nI k), .int (nI w)]) ++ List.replicate (3 - (lg_sl ([.ref o, .int (nI k), .int (nI w)])).length) Slot.unset).toArray = ls at hl ⊢
  replace hl : lv_has ls 3 [(0, .ref o), (1, .int (nI k)), (2, .int (nI w))] := hl
  replace hP : va_P (dC, dI) classes (wPR cI o g S g2 S2 jh ja pt jn) s.heap := hP
  refine lv_iload_n hx hb d_PR_log_0 rfl (lv_at hl 1 rfl) ?_
  refine lv_if_lt hx hb d_PR_log_1 rfl (fun h1 => ?_) (fun h1 => ?_)
  · have h1 := (k_lt0 hk0).mp h1
    exact vx_throw0 (cls := "java/lang/IndexOutOfBoundsException") (names := nmX) (mc := 1) (ms := 6) hx hb hlt hown (by decide +kernel) (by decide +kernel) (hts _ kw_523) (hts _ kw_16) (x_hat hts hX0 xg_130 xb_130) xo_130 hX0.1 hX0.2.1 hS (hl.1.trans hml.symm) d_PR_log_15 d_PR_log_18 d_PR_log_19 d_PR_log_22 (fun x h => (hne x h).elim) (Nat.le_of_ble_eq_true rfl) (Nat.le_of_ble_eq_true rfl) (Nat.le_of_ble_eq_true rfl) (Nat.le_of_ble_eq_true rfl) hlocks (fun t hv9 hz9 hk9 => ⟨(), trivial, Or.inl ⟨rfl, by omega⟩, ⟨Nat.le_trans hS.1 hz9, fun q h1 h2 => (hk9 q (Nat.lt_of_lt_of_le h1 hS.1)).trans (hU q h1)⟩⟩) hS.2.2 (Nat.le_of_ble_eq_true rfl) (Nat.le_of_ble_eq_true rfl)
  have h1 := mt (k_lt0 hk0).mpr h1
  refine lv_iload_n hx hb d_PR_log_4 rfl (lv_at hl 1 rfl) ?_
  refine lv_aload_n hx hb d_PR_log_5 rfl (lv_at hl 0 rfl) ?_
  refine va_get (D := (dC, dI)) (ci := 4) (v := .ref jh) (C := R_PR) (T := F_PR) (N := 3) hx hb hts u_PR hown hK hP 0 rfl rfl 2 (by decide) (hts _ kw_148) (fun _ h9 => h9) rfl d_PR_log_6 ?_
  refine va_getN (D := (dC, dI)) (ci := 1) (v := .int (nI jn)) (C := R_Jn) (T := F_Jn) (N := 2) hx hb hts u_Jn hown hK hP 27 rfl rfl 1 (by decide) (va_Nw.use rfl (hN.at 140 nw_140 rfl)) (fun _ h9 => h9) rfl d_PR_log_9 ?_
  refine lv_icmp_lt hx hb d_PR_log_12 rfl (fun h12 => ?_) (fun h12 => ?_)
  · have h12 := (k_lt hk0 (by omega)).mp h12
    refine lv_iload_n hx hb d_PR_log_23 rfl (lv_at hl 2 rfl) ?_
    refine lv_if_lt hx hb d_PR_log_24 rfl (fun h24 => ?_) (fun h24 => ?_)
    · have h24 := (k_lt0 hw0).mp h24
      exact vx_throw0 (cls := "java/lang/IllegalArgumentException") (names := nmX) (mc := 1) (ms := 6) hx hb hlt hown (by decide +kernel) (by decide +kernel) (hts _ kw_221) (hts _ kw_10) (x_hat hts hX0 xg_36 xb_36) xo_36 hX0.1 hX0.2.1 hS (hl.1.trans hml.symm) d_PR_log_32 d_PR_log_35 d_PR_log_36 d_PR_log_39 (fun x h => (hne x h).elim) (Nat.le_of_ble_eq_true rfl) (Nat.le_of_ble_eq_true rfl) (Nat.le_of_ble_eq_true rfl) (Nat.le_of_ble_eq_true rfl) hlocks (fun t hv9 hz9 hk9 => ⟨(), trivial, Or.inr ⟨rfl, by omega, by omega⟩, ⟨Nat.le_trans hS.1 hz9, fun q h1 h2 => (hk9 q (Nat.lt_of_lt_of_le h1 hS.1)).trans (hU q h1)⟩⟩) hS.2.2 (Nat.le_of_ble_eq_true rfl) (Nat.le_of_ble_eq_true rfl)
    have h24 := mt (k_lt0 hw0).mpr h24
    refine lv_iload_n hx hb d_PR_log_27 rfl (lv_at hl 2 rfl) ?_
    refine lv_iconst (v := 4) hx hb d_PR_log_28 (by decide) ?_
    refine lv_icmp_lt hx hb d_PR_log_29 rfl (fun h29 => ?_) (fun h29 => ?_)
    · have h29 := (k_lt (b := 4) hw0 (by decide)).mp h29
      refine lv_aload_n hx hb d_PR_log_40 rfl (lv_at hl 0 rfl) ?_
      refine va_get (D := (dC, dI)) (ci := 4) (v := .ref jh) (C := R_PR) (T := F_PR) (N := 3) hx hb hts u_PR hown hK hP 0 rfl rfl 2 (by decide) (hts _ kw_148) (fun _ h9 => h9) rfl d_PR_log_41 ?_
      refine lv_iload_n hx hb d_PR_log_44 rfl (lv_at hl 1 rfl) ?_
      refine lv_iload_n hx hb d_PR_log_45 rfl (lv_at hl 2 rfl) ?_
      refine vp_callSi (W.runV (b := jh) (As := [.int (nI k), .int (nI w)]) (rest := []) ⟨hx, hb, hml, hown, hts⟩ (c_Jn_part l dC dI cI jh ja pt jn hjn k w (by omega) (by omega)) (cwV 2 hts (gV kw_693 kw_694 kw_695 kw_5 kw_696) rfl rfl rfl (by decide +kernel) ⟨Nat.le_of_ble_eq_true rfl, Nat.le_of_ble_eq_true rfl⟩) ⟨PcS.blind, va_recv (q0 := 0) hK (hP.sub (ws' := wJn cI jh ja pt jn) [27, 28] rfl) rfl rfl, PcS.use (hP.sub (ws' := wJn cI jh ja pt jn) [27, 28] rfl) hK hN⟩ rfl rfl hl.1 rfl (lv_room (Nat.le_of_ble_eq_true rfl)) d_PR_log_46 ⟨Nat.zero_le _, Nat.zero_le _⟩) (fun r46 hr46 => ?_)
      obtain rfl : r46 = pt (k * 4 + w) := hr46
      refine vx_ret ?_
      refine W.widen (k := 1) (n := 6) (Nat.le_of_ble_eq_true rfl) (Nat.le_of_ble_eq_true rfl) ?_
      exact W.iret (v := pt (k * 4 + w)) hx hb hr (fun t ht hW => ⟨⟨pt (k * 4 + w), (), rfl, ⟨by omega, by omega, rfl⟩, trivial⟩, ⟨Nat.le_trans hS.1 (Nat.le_of_eq (congrArg Array.size ht.symm)), fun q h1 h2 => (congrArg (fun h9 : Heap => h9[q]?) ht).trans (hU q h1)⟩⟩) hS.2.2 d_PR_log_49
    have h29 := mt (k_lt (b := 4) hw0 (by decide)).mpr h29
    exact vx_throw0 (cls := "java/lang/IllegalArgumentException") (names := nmX) (mc := 1) (ms := 6) hx hb hlt hown (by decide +kernel) (by decide +kernel) (hts _ kw_221) (hts _ kw_10) (x_hat hts hX0 xg_36 xb_36) xo_36 hX0.1 hX0.2.1 hS (hl.1.trans hml.symm) d_PR_log_32 d_PR_log_35 d_PR_log_36 d_PR_log_39 (fun x h => (hne x h).elim) (Nat.le_of_ble_eq_true rfl) (Nat.le_of_ble_eq_true rfl) (Nat.le_of_ble_eq_true rfl) (Nat.le_of_ble_eq_true rfl) hlocks (fun t hv9 hz9 hk9 => ⟨(), trivial, Or.inr ⟨rfl, by omega, by omega⟩, ⟨Nat.le_trans hS.1 hz9, fun q h1 h2 => (hk9 q (Nat.lt_of_lt_of_le h1 hS.1)).trans (hU q h1)⟩⟩) hS.2.2 (Nat.le_of_ble_eq_true rfl) (Nat.le_of_ble_eq_true rfl)
  have h12 := mt (k_lt hk0 (by omega)).mpr h12
  exact vx_throw0 (cls := "java/lang/IndexOutOfBoundsException") (names := nmX) (mc := 1) (ms := 6) hx hb hlt hown (by decide +kernel) (by decide +kernel) (hts _ kw_523) (hts _ kw_16) (x_hat hts hX0 xg_130 xb_130) xo_130 hX0.1 hX0.2.1 hS (hl.1.trans hml.symm) d_PR_log_15 d_PR_log_18 d_PR_log_19 d_PR_log_22 (fun x h => (hne x h).elim) (Nat.le_of_ble_eq_true rfl) (Nat.le_of_ble_eq_true rfl) (Nat.le_of_ble_eq_true rfl) (Nat.le_of_ble_eq_true rfl) hlocks (fun t hv9 hz9 hk9 => ⟨(), trivial, Or.inl ⟨rfl, by omega⟩, ⟨Nat.le_trans hS.1 hz9, fun q h1 h2 => (hk9 q (Nat.lt_of_lt_of_le h1 hS.1)).trans (hU q h1)⟩⟩) hS.2.2 (Nat.le_of_ble_eq_true rfl) (Nat.le_of_ble_eq_true rfl)
