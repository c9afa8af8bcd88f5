/-! forms of contracts that write -/
def PcM (D : va_G) (tys : List (ClassId × FieldType)) (ws : va_W) (av : List Value) (sz : Nat) : Array Value → State → Prop := va_Pc av (fun U => U.heap.size = sz ∧ va_P D classes ws U.heap ∧ va_K D classes tys U ∧ va_D (fun _ => True) ws ∧ NW U)
theorem PcM.blind {D : va_G} {tys : List (ClassId × FieldType)} {ws : va_W} {av : List Value} {sz : Nat} : FrameBlind (PcM D tys ws av sz) := fun a U g mk q => by
  obtain ⟨q0, qz, qP, qK, qD, qN⟩ := q
  exact ⟨q0, qz, qP, va_K.moved (u := U) (U := U.calling g mk a) (Vm.Alike.refl U.vm) qK, qD, NW.same (u := U) (U := U.calling g mk a) rfl qN⟩
theorem PcM.use {D : va_G} {tys : List (ClassId × FieldType)} {ws : va_W} {av : List Value} {s : State} {H : Heap} {A : Nat → Prop} (hP : va_P D classes ws H) (hK : va_K D classes tys s) (hN : NW s) (hD : va_D A ws) : ∀ U : State, U.heap = H → s.WarmedH U.vm → PcM D tys ws av H.size av.toArray U := fun U hU hW => ⟨rfl, by rw [hU], by rw [hU]; exact hP, va_K.moved hW.alike hK, hD.weaken (fun _ _ _ _ => trivial), hN.warm hW⟩
def QmI (D : va_G) (tys : List (ClassId × FieldType)) (ws ws' : va_W) (sz : Nat) (r : Int32) : Array Value → State → Outcome → State → Prop := va_Qi (S := Unit) (fun r9 _ => r9 = r) (fun _ t => va_P D classes ws' t.heap ∧ va_K D classes tys t ∧ va_D (va_A ws sz) ws') (va_A ws sz)
def QmL (D : va_G) (tys : List (ClassId × FieldType)) (ws ws' : va_W) (sz : Nat) (r : Int64) : Array Value → State → Outcome → State → Prop := va_Ql (S := Unit) (fun r9 _ => r9 = r) (fun _ t => va_P D classes ws' t.heap ∧ va_K D classes tys t ∧ va_D (va_A ws sz) ws') (va_A ws sz)
def QmV (D : va_G) (tys : List (ClassId × FieldType)) (ws ws' : va_W) (sz : Nat) : Array Value → State → Outcome → State → Prop := va_Qv (S := Unit) (fun _ => True) (fun _ t => va_P D classes ws' t.heap ∧ va_K D classes tys t ∧ va_D (va_A ws sz) ws') (va_A ws sz)
abbrev mkR (pre len lev hol sta en : Nat → Nat) (par fc nx : Nat → Option Nat) (n : Nat) : RS := (fun k => match k with
  | 0 => pre
  | 1 => len
  | 2 => lev
  | 3 => hol
  | 4 => sta
  | _ => en, fun k => match k with
  | 0 => par
  | 1 => fc
  | _ => nx, n)
/-- a new row at the end: what addRow lays -/
abbrev rAdd (X : RS) (p n s : Nat) : RS := mkR (va_up X.pre X.n p) (va_up X.len X.n n) X.lev X.hol (va_up X.sta X.n s) (va_up X.en X.n 0) X.par (va_up X.fc X.n none) (va_up X.nx X.n none) (X.n + 1)
abbrev rTop (X : RS) (p n w : Nat) : RS := mkR (va_up X.pre X.n p) (va_up X.len X.n n) (va_up X.lev X.n 0) (va_up X.hol X.n w) (va_up X.sta X.n 1) (va_up X.en X.n 0) (va_up X.par X.n none) (va_up X.fc X.n none) (va_up X.nx X.n none) (X.n + 1)
abbrev jPut (pt : Nat → Int32) (n : Nat) (kd a4 b4 c4 : Int32) : Nat → Int32 := upd (upd (upd (upd pt (n * 4) kd) (n * 4 + 1) a4) (n * 4 + 2) b4) (n * 4 + 3) c4
set_option maxHeartbeats 4000000 in
set_option maxRecDepth 100000 in
theorem c_Jn_write (l : Launch) (dC : Nat → ClassId) (dI : Nat → Nat → Nat) (sz : Nat) (cI : ClassId) (h a : Nat) (pt : Nat → Int32) (n : Nat) (hn : n < 300) (kd a4 b4 c4 : Int32) : Met l y_Jn_write (.code y_Jn_write b_Jn_write 6 none :: wG) ({ frames := 0, cells := 0, slots := 0, locals := 0 }) (PcM (dC, dI) [(cI, .int)] (wJn cI h a pt n) [.ref h, .int kd, .int a4, .int b4, .int c4] sz) (QmV (dC, dI) [(cI, .int)] (wJn cI h a pt n) (wJn cI h a (jPut pt n kd a4 b4 c4) (n + 1)) sz) 0 0 (va_A (wJn cI h a pt n) sz) := by
  refine Met.ofW (cc := b_Jn_write) (maxL := 6) (ret := none) (by decide) rfl ?_
  intro pg eg s mg ag bg meth cg s₁ B hml hv
  obtain ⟨rfl, hsz, hP, hK, hD0, hN⟩ := hv
  have hx := B.exec
  have hb := B.bytes
  have hr := B.returns
  have hlocks := B.notSynchronized
  have hts : ∀ w9 ∈ wG, w9.before ([.ref h, .int kd, .int a4, .int b4, .int c4] : List Value).toArray s = true := fun w9 h9 => atoms_spec (ws := (.code y_Jn_write b_Jn_write 6 none :: wG)) B.pre w9 (List.mem_cons_of_mem _ h9)
  have hown : s.vm.findClass "PrefixRegistry$Journal" = some mg.cls := findClass_of_methodNamed B.named
  subst hsz
  have hD := hD0.self (sz := s.heap.size)
  unfold QmV
  generalize hAe : va_A (wJn cI h a pt n) s.heap.size = A at hD ⊢
  have hA : ∀ q : Nat, s.heap.size ≤ q → A q := fun q h => by rw [← hAe]; exact Or.inr h
  have hS : va_S A s.heap s.heap [] := va_S.rf
  have hl := lv_entry ([.ref h, .int kd, .int a4, .int b4, .int c4]) (n := 6) (Nat.le_of_ble_eq_true rfl)
  rw [lg_entry_eq]
  generalize (lg_sl ([.ref h, .int kd, .int a4, .int b4, .int c4]) ++ List.replicate (6 - (lg_sl ([.ref h, .int kd, .int a4, .int b4, .int c4])).length) Slot.unset).toArray = ls at hl ⊢
  replace hl : lv_has ls 6 [(0, .ref h), (1, .int kd), (2, .int a4), (3, .int b4), (4, .int c4)] := hl
  replace hP : va_P (dC, dI) classes (wJn cI h a pt n) s.heap := hP
  replace hD : va_D A (wJn cI h a pt n) := hD
  refine lv_aload_n hx hb d_Jn_write_0 rfl (lv_at hl 0 rfl) ?_
  refine va_get (D := (dC, dI)) (ci := 1) (v := .int (nI n)) (C := R_Jn) (T := F_Jn) (N := 2) hx hb hts u_Jn hown hK hP 0 rfl rfl 1 (by decide) (hts _ kw_139) (fun _ h9 => h9) rfl d_Jn_write_1 ?_
  refine lv_iconst (v := 4) hx hb d_Jn_write_4 (by decide) ?_
  refine lv_imul hx hb d_Jn_write_5 ?_
  refine x_topi (y := (nI (n * 4))) (pk_mul n 4) ?_
  refine lv_istore hx hb d_Jn_write_6 hl (by decide) rfl (fun ls hl => ?_)
  replace hl : lv_has ls 6 [(5, .int (nI (n * 4))), (0, .ref h), (1, .int kd), (2, .int a4), (3, .int b4), (4, .int c4)] := hl
  refine lv_aload_n hx hb d_Jn_write_8 rfl (lv_at hl 1 rfl) ?_
  refine va_get (D := (dC, dI)) (ci := 1) (v := .ref a) (C := R_Jn) (T := F_Jn) (N := 2) hx hb hts u_Jn hown hK hP 0 rfl rfl 0 (by decide) (hts _ kw_138) (fun _ h9 => h9) rfl d_Jn_write_9 ?_
  refine lv_iload hx hb d_Jn_write_12 (lv_at hl 0 rfl) ?_
  refine lv_iload_n hx hb d_Jn_write_14 rfl (lv_at hl 2 rfl) ?_
  refine x_iast (j := (n * 4)) (g := (upd pt (n * 4) kd)) hx hb hK hP hD hS 1 0 rfl rfl (by omega) (by decide) rfl rfl rfl d_Jn_write_15 (fun H locs hP hD hS => ?_)
  replace hP : va_P (dC, dI) classes [(h, .inr (1, [.ref a, .int (nI n)])), (a, .inl (cI, 1200, .inl (upd pt (n * 4) kd)))] H := hP
  replace hD : va_D A [(h, .inr (1, [.ref a, .int (nI n)])), (a, .inl (cI, 1200, .inl (upd pt (n * 4) kd)))] := hD
  refine lv_aload_n hx hb d_Jn_write_16 rfl (lv_at hl 1 rfl) ?_
  refine va_get (D := (dC, dI)) (ci := 1) (v := .ref a) (C := R_Jn) (T := F_Jn) (N := 2) hx hb hts u_Jn hown hK hP 0 rfl rfl 0 (by decide) (hts _ kw_138) (fun _ h9 => h9) rfl d_Jn_write_17 ?_
  refine lv_iload hx hb d_Jn_write_20 (lv_at hl 0 rfl) ?_
  refine lv_iconst (v := 1) hx hb d_Jn_write_22 (by decide) ?_
  refine lv_iadd hx hb d_Jn_write_23 ?_
  refine x_topi (y := (nI (n * 4 + 1))) (nI_add _ 1) ?_
  refine lv_iload_n hx hb d_Jn_write_24 rfl (lv_at hl 3 rfl) ?_
  refine x_iast (j := (n * 4 + 1)) (g := (upd (upd pt (n * 4) kd) (n * 4 + 1) a4)) hx hb hK hP hD hS 1 0 rfl rfl (by omega) (by decide) rfl rfl rfl d_Jn_write_25 (fun H locs hP hD hS => ?_)
  replace hP : va_P (dC, dI) classes [(h, .inr (1, [.ref a, .int (nI n)])), (a, .inl (cI, 1200, .inl (upd (upd pt (n * 4) kd) (n * 4 + 1) a4)))] H := hP
  replace hD : va_D A [(h, .inr (1, [.ref a, .int (nI n)])), (a, .inl (cI, 1200, .inl (upd (upd pt (n * 4) kd) (n * 4 + 1) a4)))] := hD
  refine lv_aload_n hx hb d_Jn_write_26 rfl (lv_at hl 1 rfl) ?_
  refine va_get (D := (dC, dI)) (ci := 1) (v := .ref a) (C := R_Jn) (T := F_Jn) (N := 2) hx hb hts u_Jn hown hK hP 0 rfl rfl 0 (by decide) (hts _ kw_138) (fun _ h9 => h9) rfl d_Jn_write_27 ?_
  refine lv_iload hx hb d_Jn_write_30 (lv_at hl 0 rfl) ?_
  refine lv_iconst (v := 2) hx hb d_Jn_write_32 (by decide) ?_
  refine lv_iadd hx hb d_Jn_write_33 ?_
  refine x_topi (y := (nI (n * 4 + 2))) (nI_add _ 2) ?_
  refine lv_iload_n hx hb d_Jn_write_34 rfl (lv_at hl 4 rfl) ?_
  refine x_iast (j := (n * 4 + 2)) (g := (upd (upd (upd pt (n * 4) kd) (n * 4 + 1) a4) (n * 4 + 2) b4)) hx hb hK hP hD hS 1 0 rfl rfl (by omega) (by decide) rfl rfl rfl d_Jn_write_35 (fun H locs hP hD hS => ?_)
  replace hP : va_P (dC, dI) classes [(h, .inr (1, [.ref a, .int (nI n)])), (a, .inl (cI, 1200, .inl (upd (upd (upd pt (n * 4) kd) (n * 4 + 1) a4) (n * 4 + 2) b4)))] H := hP
  replace hD : va_D A [(h, .inr (1, [.ref a, .int (nI n)])), (a, .inl (cI, 1200, .inl (upd (upd (upd pt (n * 4) kd) (n * 4 + 1) a4) (n * 4 + 2) b4)))] := hD
  refine lv_aload_n hx hb d_Jn_write_36 rfl (lv_at hl 1 rfl) ?_
  refine va_get (D := (dC, dI)) (ci := 1) (v := .ref a) (C := R_Jn) (T := F_Jn) (N := 2) hx hb hts u_Jn hown hK hP 0 rfl rfl 0 (by decide) (hts _ kw_138) (fun _ h9 => h9) rfl d_Jn_write_37 ?_
  refine lv_iload hx hb d_Jn_write_40 (lv_at hl 0 rfl) ?_
  refine lv_iconst (v := 3) hx hb d_Jn_write_42 (by decide) ?_
  refine lv_iadd hx hb d_Jn_write_43 ?_
  refine x_topi (y := (nI (n * 4 + 3))) (nI_add _ 3) ?_
  refine lv_iload hx hb d_Jn_write_44 (lv_at hl 5 rfl) ?_
  refine x_iast (j := (n * 4 + 3)) (g := (upd (upd (upd (upd pt (n * 4) kd) (n * 4 + 1) a4) (n * 4 + 2) b4) (n * 4 + 3) c4)) hx hb hK hP hD hS 1 0 rfl rfl (by omega) (by decide) rfl rfl rfl d_Jn_write_46 (fun H locs hP hD hS => ?_)
  replace hP : va_P (dC, dI) classes [(h, .inr (1, [.ref a, .int (nI n)])), (a, .inl (cI, 1200, .inl (upd (upd (upd (upd pt (n * 4) kd) (n * 4 + 1) a4) (n * 4 + 2) b4) (n * 4 + 3) c4)))] H := hP
  replace hD : va_D A [(h, .inr (1, [.ref a, .int (nI n)])), (a, .inl (cI, 1200, .inl (upd (upd (upd (upd pt (n * 4) kd) (n * 4 + 1) a4) (n * 4 + 2) b4) (n * 4 + 3) c4)))] := hD
  refine lv_aload_n hx hb d_Jn_write_47 rfl (lv_at hl 1 rfl) ?_
  refine lv_dup hx hb d_Jn_write_48 rfl ?_
  refine va_get (D := (dC, dI)) (ci := 1) (v := .int (nI n)) (C := R_Jn) (T := F_Jn) (N := 2) hx hb hts u_Jn hown hK hP 0 rfl rfl 1 (by decide) (hts _ kw_139) (fun _ h9 => h9) rfl d_Jn_write_49 ?_
  refine lv_iconst (v := 1) hx hb d_Jn_write_52 (by decide) ?_
  refine lv_iadd hx hb d_Jn_write_53 ?_
  refine x_topi (y := (nI (n + 1))) (nI_1 n) ?_
  refine va_put (D := (dC, dI)) (ci := 1) (v := .int (nI (n + 1))) (ty := .int) (C := R_Jn) (T := F_Jn) (N := 2) hx hb hts u_Jn t_Jn t_Jn_ok n_Jn hown hK hP hD hS 0 rfl rfl 1 (by decide) (hts _ kw_139) (fun _ h9 => h9) rfl (by decide +kernel) rfl rfl (Nat.le_of_ble_eq_true rfl) d_Jn_write_54 (fun H locs hP hD hS => ?_)
  replace hP : va_P (dC, dI) classes [(h, .inr (1, [.ref a, .int (nI (n + 1))])), (a, .inl (cI, 1200, .inl (upd (upd (upd (upd pt (n * 4) kd) (n * 4 + 1) a4) (n * 4 + 2) b4) (n * 4 + 3) c4)))] H := hP
  replace hD : va_D A [(h, .inr (1, [.ref a, .int (nI (n + 1))])), (a, .inl (cI, 1200, .inl (upd (upd (upd (upd pt (n * 4) kd) (n * 4 + 1) a4) (n * 4 + 2) b4) (n * 4 + 3) c4)))] := hD
  have hP9 : va_P (dC, dI) classes (wJn cI h a (jPut pt n kd a4 b4 c4) (n + 1)) H := hP
  have hD9 : va_D A (wJn cI h a (jPut pt n kd a4 b4 c4) (n + 1)) := hD
  exact W.vret hx hb hr (fun t ht hW => ⟨⟨(), rfl, trivial, by rw [ht]; exact hP9, va_K.moved hW.alike hK, hD9⟩, hS.F ht⟩) hS.2.2 d_Jn_write_57
set_option maxHeartbeats 4000000 in
set_option maxRecDepth 100000 in
theorem c_Re_addRow (l : Launch) (dC : Nat → ClassId) (dI : Nat → Nat → Nat) (sz : Nat) (cI : ClassId) (h : Nat) (b : Nat → Nat) (X : RS) (hXn : X.n < 200) (p n v : Nat) : Met l y_Re_addRow (.code y_Re_addRow b_Re_addRow 5 (some .int) :: wG) ({ frames := 0, cells := 0, slots := 0, locals := 0 }) (PcM (dC, dI) [(cI, .int)] (wRe cI h b X) [.ref h, .int (nI p), .int (nI n), .int (nI v)] sz) (QmI (dC, dI) [(cI, .int)] (wRe cI h b X) (wRe cI h b (rAdd X p n v)) sz (nI X.n)) 0 0 (va_A (wRe cI h b X) sz) := by
  refine Met.ofW (cc := b_Re_addRow) (maxL := 5) (ret := (some .int)) (by decide) rfl ?_
  intro pg eg s mg ag bg meth cg s₁ B hml hv
  obtain ⟨rfl, hsz, hP, hK, hD0, hN⟩ := hv
  have hx := B.exec
  have hb := B.bytes
  have hr := B.returns
  have hlocks := B.notSynchronized
  have hts : ∀ w9 ∈ wG, w9.before ([.ref h, .int (nI p), .int (nI n), .int (nI v)] : List Value).toArray s = true := fun w9 h9 => atoms_spec (ws := (.code y_Re_addRow b_Re_addRow 5 (some .int) :: wG)) B.pre w9 (List.mem_cons_of_mem _ h9)
  have hown : s.vm.findClass "PrefixRegistry$Records" = some mg.cls := findClass_of_methodNamed B.named
  subst hsz
  have hD := hD0.self (sz := s.heap.size)
  unfold QmI
  generalize hAe : va_A (wRe cI h b X) s.heap.size = A at hD ⊢
  have hA : ∀ q : Nat, s.heap.size ≤ q → A q := fun q h => by rw [← hAe]; exact Or.inr h
  have hS : va_S A s.heap s.heap [] := va_S.rf
  have hl := lv_entry ([.ref h, .int (nI p), .int (nI n), .int (nI v)]) (n := 5) (Nat.le_of_ble_eq_true rfl)
  rw [lg_entry_eq]
  generalize (lg_sl ([.ref h, .int (nI p), .int (nI n), .int (nI v)]) ++ List.replicate (5 - (lg_sl ([.ref h, .int (nI p), .int (nI n), .int (nI v)])).length) Slot.unset).toArray = ls at hl ⊢
  replace hl : lv_has ls 5 [(0, .ref h), (1, .int (nI p)), (2, .int (nI n)), (3, .int (nI v))] := hl
  replace hP : va_P (dC, dI) classes (wRe cI h b X) s.heap := hP
  replace hD : va_D A (wRe cI h b X) := hD
  refine lv_aload_n hx hb d_Re_addRow_0 rfl (lv_at hl 0 rfl) ?_
  refine va_get (D := (dC, dI)) (ci := 3) (v := .int (nI X.n)) (C := R_Re) (T := F_Re) (N := 10) hx hb hts u_Re hown hK hP 0 rfl rfl 9 (by decide) (hts _ kw_58) (fun _ h9 => h9) rfl d_Re_addRow_1 ?_
  refine lv_istore hx hb d_Re_addRow_4 hl (by decide) rfl (fun ls hl => ?_)
  replace hl : lv_has ls 5 [(4, .int (nI X.n)), (0, .ref h), (1, .int (nI p)), (2, .int (nI n)), (3, .int (nI v))] := hl
  refine lv_aload_n hx hb d_Re_addRow_6 rfl (lv_at hl 1 rfl) ?_
  refine va_get (D := (dC, dI)) (ci := 3) (v := .ref (b 0)) (C := R_Re) (T := F_Re) (N := 10) hx hb hts u_Re hown hK hP 0 rfl rfl 0 (by decide) (hts _ kw_37) (fun _ h9 => h9) rfl d_Re_addRow_7 ?_
  refine lv_iload hx hb d_Re_addRow_10 (lv_at hl 0 rfl) ?_
  refine lv_iload_n hx hb d_Re_addRow_12 rfl (lv_at hl 2 rfl) ?_
  refine x_iast (j := X.n) (g := (fun z9 => nI (va_up X.pre X.n p z9))) hx hb hK hP hD hS 1 0 rfl rfl hXn (by decide) rfl (up_nI _ _ p) rfl d_Re_addRow_13 (fun H locs hP hD hS => ?_)
  replace hP : va_P (dC, dI) classes [(h, .inr (3, [.ref (b 0), .ref (b 1), .ref (b 2), .ref (b 3), .ref (b 4), .ref (b 5), .ref (b 6), .ref (b 7), .ref (b 8), .int (nI X.n)])), ((b 0), .inl (cI, 200, .inl (fun z9 => nI (va_up X.pre X.n p z9)))), ((b 1), .inl (cI, 200, .inl (fun z9 => nI (X.len z9)))), ((b 2), .inl (cI, 200, .inl (fun z9 => pI (X.par z9)))), ((b 3), .inl (cI, 200, .inl (fun z9 => nI (X.lev z9)))), ((b 4), .inl (cI, 200, .inl (fun z9 => nI (X.hol z9)))), ((b 5), .inl (cI, 200, .inl (fun z9 => nI (X.sta z9)))), ((b 6), .inl (cI, 200, .inl (fun z9 => nI (X.en z9)))), ((b 7), .inl (cI, 200, .inl (fun z9 => pI (X.fc z9)))), ((b 8), .inl (cI, 200, .inl (fun z9 => pI (X.nx z9))))] H := hP
  replace hD : va_D A [(h, .inr (3, [.ref (b 0), .ref (b 1), .ref (b 2), .ref (b 3), .ref (b 4), .ref (b 5), .ref (b 6), .ref (b 7), .ref (b 8), .int (nI X.n)])), ((b 0), .inl (cI, 200, .inl (fun z9 => nI (va_up X.pre X.n p z9)))), ((b 1), .inl (cI, 200, .inl (fun z9 => nI (X.len z9)))), ((b 2), .inl (cI, 200, .inl (fun z9 => pI (X.par z9)))), ((b 3), .inl (cI, 200, .inl (fun z9 => nI (X.lev z9)))), ((b 4), .inl (cI, 200, .inl (fun z9 => nI (X.hol z9)))), ((b 5), .inl (cI, 200, .inl (fun z9 => nI (X.sta z9)))), ((b 6), .inl (cI, 200, .inl (fun z9 => nI (X.en z9)))), ((b 7), .inl (cI, 200, .inl (fun z9 => pI (X.fc z9)))), ((b 8), .inl (cI, 200, .inl (fun z9 => pI (X.nx z9))))] := hD
  refine lv_aload_n hx hb d_Re_addRow_14 rfl (lv_at hl 1 rfl) ?_
  refine va_get (D := (dC, dI)) (ci := 3) (v := .ref (b 1)) (C := R_Re) (T := F_Re) (N := 10) hx hb hts u_Re hown hK hP 0 rfl rfl 1 (by decide) (hts _ kw_39) (fun _ h9 => h9) rfl d_Re_addRow_15 ?_
  refine lv_iload hx hb d_Re_addRow_18 (lv_at hl 0 rfl) ?_
  refine lv_iload_n hx hb d_Re_addRow_20 rfl (lv_at hl 3 rfl) ?_
  refine x_iast (j := X.n) (g := (fun z9 => nI (va_up X.len X.n n z9))) hx hb hK hP hD hS 2 0 rfl rfl hXn (by decide) rfl (up_nI _ _ n) rfl d_Re_addRow_21 (fun H locs hP hD hS => ?_)
  replace hP : va_P (dC, dI) classes [(h, .inr (3, [.ref (b 0), .ref (b 1), .ref (b 2), .ref (b 3), .ref (b 4), .ref (b 5), .ref (b 6), .ref (b 7), .ref (b 8), .int (nI X.n)])), ((b 0), .inl (cI, 200, .inl (fun z9 => nI (va_up X.pre X.n p z9)))), ((b 1), .inl (cI, 200, .inl (fun z9 => nI (va_up X.len X.n n z9)))), ((b 2), .inl (cI, 200, .inl (fun z9 => pI (X.par z9)))), ((b 3), .inl (cI, 200, .inl (fun z9 => nI (X.lev z9)))), ((b 4), .inl (cI, 200, .inl (fun z9 => nI (X.hol z9)))), ((b 5), .inl (cI, 200, .inl (fun z9 => nI (X.sta z9)))), ((b 6), .inl (cI, 200, .inl (fun z9 => nI (X.en z9)))), ((b 7), .inl (cI, 200, .inl (fun z9 => pI (X.fc z9)))), ((b 8), .inl (cI, 200, .inl (fun z9 => pI (X.nx z9))))] H := hP
  replace hD : va_D A [(h, .inr (3, [.ref (b 0), .ref (b 1), .ref (b 2), .ref (b 3), .ref (b 4), .ref (b 5), .ref (b 6), .ref (b 7), .ref (b 8), .int (nI X.n)])), ((b 0), .inl (cI, 200, .inl (fun z9 => nI (va_up X.pre X.n p z9)))), ((b 1), .inl (cI, 200, .inl (fun z9 => nI (va_up X.len X.n n z9)))), ((b 2), .inl (cI, 200, .inl (fun z9 => pI (X.par z9)))), ((b 3), .inl (cI, 200, .inl (fun z9 => nI (X.lev z9)))), ((b 4), .inl (cI, 200, .inl (fun z9 => nI (X.hol z9)))), ((b 5), .inl (cI, 200, .inl (fun z9 => nI (X.sta z9)))), ((b 6), .inl (cI, 200, .inl (fun z9 => nI (X.en z9)))), ((b 7), .inl (cI, 200, .inl (fun z9 => pI (X.fc z9)))), ((b 8), .inl (cI, 200, .inl (fun z9 => pI (X.nx z9))))] := hD
  refine lv_aload_n hx hb d_Re_addRow_22 rfl (lv_at hl 1 rfl) ?_
  refine va_get (D := (dC, dI)) (ci := 3) (v := .ref (b 5)) (C := R_Re) (T := F_Re) (N := 10) hx hb hts u_Re hown hK hP 0 rfl rfl 5 (by decide) (hts _ kw_47) (fun _ h9 => h9) rfl d_Re_addRow_23 ?_
  refine lv_iload hx hb d_Re_addRow_26 (lv_at hl 0 rfl) ?_
  refine lv_iload_n hx hb d_Re_addRow_28 rfl (lv_at hl 4 rfl) ?_
  refine x_iast (j := X.n) (g := (fun z9 => nI (va_up X.sta X.n v z9))) hx hb hK hP hD hS 6 0 rfl rfl hXn (by decide) rfl (up_nI _ _ v) rfl d_Re_addRow_29 (fun H locs hP hD hS => ?_)
  replace hP : va_P (dC, dI) classes [(h, .inr (3, [.ref (b 0), .ref (b 1), .ref (b 2), .ref (b 3), .ref (b 4), .ref (b 5), .ref (b 6), .ref (b 7), .ref (b 8), .int (nI X.n)])), ((b 0), .inl (cI, 200, .inl (fun z9 => nI (va_up X.pre X.n p z9)))), ((b 1), .inl (cI, 200, .inl (fun z9 => nI (va_up X.len X.n n z9)))), ((b 2), .inl (cI, 200, .inl (fun z9 => pI (X.par z9)))), ((b 3), .inl (cI, 200, .inl (fun z9 => nI (X.lev z9)))), ((b 4), .inl (cI, 200, .inl (fun z9 => nI (X.hol z9)))), ((b 5), .inl (cI, 200, .inl (fun z9 => nI (va_up X.sta X.n v z9)))), ((b 6), .inl (cI, 200, .inl (fun z9 => nI (X.en z9)))), ((b 7), .inl (cI, 200, .inl (fun z9 => pI (X.fc z9)))), ((b 8), .inl (cI, 200, .inl (fun z9 => pI (X.nx z9))))] H := hP
  replace hD : va_D A [(h, .inr (3, [.ref (b 0), .ref (b 1), .ref (b 2), .ref (b 3), .ref (b 4), .ref (b 5), .ref (b 6), .ref (b 7), .ref (b 8), .int (nI X.n)])), ((b 0), .inl (cI, 200, .inl (fun z9 => nI (va_up X.pre X.n p z9)))), ((b 1), .inl (cI, 200, .inl (fun z9 => nI (va_up X.len X.n n z9)))), ((b 2), .inl (cI, 200, .inl (fun z9 => pI (X.par z9)))), ((b 3), .inl (cI, 200, .inl (fun z9 => nI (X.lev z9)))), ((b 4), .inl (cI, 200, .inl (fun z9 => nI (X.hol z9)))), ((b 5), .inl (cI, 200, .inl (fun z9 => nI (va_up X.sta X.n v z9)))), ((b 6), .inl (cI, 200, .inl (fun z9 => nI (X.en z9)))), ((b 7), .inl (cI, 200, .inl (fun z9 => pI (X.fc z9)))), ((b 8), .inl (cI, 200, .inl (fun z9 => pI (X.nx z9))))] := hD
  refine lv_aload_n hx hb d_Re_addRow_30 rfl (lv_at hl 1 rfl) ?_
  refine va_get (D := (dC, dI)) (ci := 3) (v := .ref (b 6)) (C := R_Re) (T := F_Re) (N := 10) hx hb hts u_Re hown hK hP 0 rfl rfl 6 (by decide) (hts _ kw_50) (fun _ h9 => h9) rfl d_Re_addRow_31 ?_
  refine lv_iload hx hb d_Re_addRow_34 (lv_at hl 0 rfl) ?_
  refine lv_iconst (v := 0) hx hb d_Re_addRow_36 (by decide) ?_
  refine x_iast (j := X.n) (g := (fun z9 => nI (va_up X.en X.n 0 z9))) hx hb hK hP hD hS 7 0 rfl rfl hXn (by decide) rfl (up_nI _ _ 0) rfl d_Re_addRow_37 (fun H locs hP hD hS => ?_)
  replace hP : va_P (dC, dI) classes [(h, .inr (3, [.ref (b 0), .ref (b 1), .ref (b 2), .ref (b 3), .ref (b 4), .ref (b 5), .ref (b 6), .ref (b 7), .ref (b 8), .int (nI X.n)])), ((b 0), .inl (cI, 200, .inl (fun z9 => nI (va_up X.pre X.n p z9)))), ((b 1), .inl (cI, 200, .inl (fun z9 => nI (va_up X.len X.n n z9)))), ((b 2), .inl (cI, 200, .inl (fun z9 => pI (X.par z9)))), ((b 3), .inl (cI, 200, .inl (fun z9 => nI (X.lev z9)))), ((b 4), .inl (cI, 200, .inl (fun z9 => nI (X.hol z9)))), ((b 5), .inl (cI, 200, .inl (fun z9 => nI (va_up X.sta X.n v z9)))), ((b 6), .inl (cI, 200, .inl (fun z9 => nI (va_up X.en X.n 0 z9)))), ((b 7), .inl (cI, 200, .inl (fun z9 => pI (X.fc z9)))), ((b 8), .inl (cI, 200, .inl (fun z9 => pI (X.nx z9))))] H := hP
  replace hD : va_D A [(h, .inr (3, [.ref (b 0), .ref (b 1), .ref (b 2), .ref (b 3), .ref (b 4), .ref (b 5), .ref (b 6), .ref (b 7), .ref (b 8), .int (nI X.n)])), ((b 0), .inl (cI, 200, .inl (fun z9 => nI (va_up X.pre X.n p z9)))), ((b 1), .inl (cI, 200, .inl (fun z9 => nI (va_up X.len X.n n z9)))), ((b 2), .inl (cI, 200, .inl (fun z9 => pI (X.par z9)))), ((b 3), .inl (cI, 200, .inl (fun z9 => nI (X.lev z9)))), ((b 4), .inl (cI, 200, .inl (fun z9 => nI (X.hol z9)))), ((b 5), .inl (cI, 200, .inl (fun z9 => nI (va_up X.sta X.n v z9)))), ((b 6), .inl (cI, 200, .inl (fun z9 => nI (va_up X.en X.n 0 z9)))), ((b 7), .inl (cI, 200, .inl (fun z9 => pI (X.fc z9)))), ((b 8), .inl (cI, 200, .inl (fun z9 => pI (X.nx z9))))] := hD
  refine lv_aload_n hx hb d_Re_addRow_38 rfl (lv_at hl 1 rfl) ?_
  refine va_get (D := (dC, dI)) (ci := 3) (v := .ref (b 7)) (C := R_Re) (T := F_Re) (N := 10) hx hb hts u_Re hown hK hP 0 rfl rfl 7 (by decide) (hts _ kw_52) (fun _ h9 => h9) rfl d_Re_addRow_39 ?_
  refine lv_iload hx hb d_Re_addRow_42 (lv_at hl 0 rfl) ?_
  refine lv_iconst (v := (-1)) hx hb d_Re_addRow_44 (by decide) ?_
  refine x_iast (j := X.n) (g := (fun z9 => pI (va_up X.fc X.n none z9))) hx hb hK hP hD hS 8 0 rfl rfl hXn (by decide) rfl (up_pI _ _ none) rfl d_Re_addRow_45 (fun H locs hP hD hS => ?_)
  replace hP : va_P (dC, dI) classes [(h, .inr (3, [.ref (b 0), .ref (b 1), .ref (b 2), .ref (b 3), .ref (b 4), .ref (b 5), .ref (b 6), .ref (b 7), .ref (b 8), .int (nI X.n)])), ((b 0), .inl (cI, 200, .inl (fun z9 => nI (va_up X.pre X.n p z9)))), ((b 1), .inl (cI, 200, .inl (fun z9 => nI (va_up X.len X.n n z9)))), ((b 2), .inl (cI, 200, .inl (fun z9 => pI (X.par z9)))), ((b 3), .inl (cI, 200, .inl (fun z9 => nI (X.lev z9)))), ((b 4), .inl (cI, 200, .inl (fun z9 => nI (X.hol z9)))), ((b 5), .inl (cI, 200, .inl (fun z9 => nI (va_up X.sta X.n v z9)))), ((b 6), .inl (cI, 200, .inl (fun z9 => nI (va_up X.en X.n 0 z9)))), ((b 7), .inl (cI, 200, .inl (fun z9 => pI (va_up X.fc X.n none z9)))), ((b 8), .inl (cI, 200, .inl (fun z9 => pI (X.nx z9))))] H := hP
  replace hD : va_D A [(h, .inr (3, [.ref (b 0), .ref (b 1), .ref (b 2), .ref (b 3), .ref (b 4), .ref (b 5), .ref (b 6), .ref (b 7), .ref (b 8), .int (nI X.n)])), ((b 0), .inl (cI, 200, .inl (fun z9 => nI (va_up X.pre X.n p z9)))), ((b 1), .inl (cI, 200, .inl (fun z9 => nI (va_up X.len X.n n z9)))), ((b 2), .inl (cI, 200, .inl (fun z9 => pI (X.par z9)))), ((b 3), .inl (cI, 200, .inl (fun z9 => nI (X.lev z9)))), ((b 4), .inl (cI, 200, .inl (fun z9 => nI (X.hol z9)))), ((b 5), .inl (cI, 200, .inl (fun z9 => nI (va_up X.sta X.n v z9)))), ((b 6), .inl (cI, 200, .inl (fun z9 => nI (va_up X.en X.n 0 z9)))), ((b 7), .inl (cI, 200, .inl (fun z9 => pI (va_up X.fc X.n none z9)))), ((b 8), .inl (cI, 200, .inl (fun z9 => pI (X.nx z9))))] := hD
  refine lv_aload_n hx hb d_Re_addRow_46 rfl (lv_at hl 1 rfl) ?_
  refine va_get (D := (dC, dI)) (ci := 3) (v := .ref (b 8)) (C := R_Re) (T := F_Re) (N := 10) hx hb hts u_Re hown hK hP 0 rfl rfl 8 (by decide) (hts _ kw_55) (fun _ h9 => h9) rfl d_Re_addRow_47 ?_
  refine lv_iload hx hb d_Re_addRow_50 (lv_at hl 0 rfl) ?_
  refine lv_iconst (v := (-1)) hx hb d_Re_addRow_52 (by decide) ?_
  refine x_iast (j := X.n) (g := (fun z9 => pI (va_up X.nx X.n none z9))) hx hb hK hP hD hS 9 0 rfl rfl hXn (by decide) rfl (up_pI _ _ none) rfl d_Re_addRow_53 (fun H locs hP hD hS => ?_)
  replace hP : va_P (dC, dI) classes [(h, .inr (3, [.ref (b 0), .ref (b 1), .ref (b 2), .ref (b 3), .ref (b 4), .ref (b 5), .ref (b 6), .ref (b 7), .ref (b 8), .int (nI X.n)])), ((b 0), .inl (cI, 200, .inl (fun z9 => nI (va_up X.pre X.n p z9)))), ((b 1), .inl (cI, 200, .inl (fun z9 => nI (va_up X.len X.n n z9)))), ((b 2), .inl (cI, 200, .inl (fun z9 => pI (X.par z9)))), ((b 3), .inl (cI, 200, .inl (fun z9 => nI (X.lev z9)))), ((b 4), .inl (cI, 200, .inl (fun z9 => nI (X.hol z9)))), ((b 5), .inl (cI, 200, .inl (fun z9 => nI (va_up X.sta X.n v z9)))), ((b 6), .inl (cI, 200, .inl (fun z9 => nI (va_up X.en X.n 0 z9)))), ((b 7), .inl (cI, 200, .inl (fun z9 => pI (va_up X.fc X.n none z9)))), ((b 8), .inl (cI, 200, .inl (fun z9 => pI (va_up X.nx X.n none z9))))] H := hP
  replace hD : va_D A [(h, .inr (3, [.ref (b 0), .ref (b 1), .ref (b 2), .ref (b 3), .ref (b 4), .ref (b 5), .ref (b 6), .ref (b 7), .ref (b 8), .int (nI X.n)])), ((b 0), .inl (cI, 200, .inl (fun z9 => nI (va_up X.pre X.n p z9)))), ((b 1), .inl (cI, 200, .inl (fun z9 => nI (va_up X.len X.n n z9)))), ((b 2), .inl (cI, 200, .inl (fun z9 => pI (X.par z9)))), ((b 3), .inl (cI, 200, .inl (fun z9 => nI (X.lev z9)))), ((b 4), .inl (cI, 200, .inl (fun z9 => nI (X.hol z9)))), ((b 5), .inl (cI, 200, .inl (fun z9 => nI (va_up X.sta X.n v z9)))), ((b 6), .inl (cI, 200, .inl (fun z9 => nI (va_up X.en X.n 0 z9)))), ((b 7), .inl (cI, 200, .inl (fun z9 => pI (va_up X.fc X.n none z9)))), ((b 8), .inl (cI, 200, .inl (fun z9 => pI (va_up X.nx X.n none z9))))] := hD
  refine lv_aload_n hx hb d_Re_addRow_54 rfl (lv_at hl 1 rfl) ?_
  refine lv_dup hx hb d_Re_addRow_55 rfl ?_
  refine va_get (D := (dC, dI)) (ci := 3) (v := .int (nI X.n)) (C := R_Re) (T := F_Re) (N := 10) hx hb hts u_Re hown hK hP 0 rfl rfl 9 (by decide) (hts _ kw_58) (fun _ h9 => h9) rfl d_Re_addRow_56 ?_
  refine lv_iconst (v := 1) hx hb d_Re_addRow_59 (by decide) ?_
  refine lv_iadd hx hb d_Re_addRow_60 ?_
  refine x_topi (y := (nI (X.n + 1))) (nI_1 _) ?_
  refine va_put (D := (dC, dI)) (ci := 3) (v := .int (nI (X.n + 1))) (ty := .int) (C := R_Re) (T := F_Re) (N := 10) hx hb hts u_Re t_Re t_Re_ok n_Re hown hK hP hD hS 0 rfl rfl 9 (by decide) (hts _ kw_58) (fun _ h9 => h9) rfl (by decide +kernel) rfl rfl (Nat.le_of_ble_eq_true rfl) d_Re_addRow_61 (fun H locs hP hD hS => ?_)
  replace hP : va_P (dC, dI) classes [(h, .inr (3, [.ref (b 0), .ref (b 1), .ref (b 2), .ref (b 3), .ref (b 4), .ref (b 5), .ref (b 6), .ref (b 7), .ref (b 8), .int (nI (X.n + 1))])), ((b 0), .inl (cI, 200, .inl (fun z9 => nI (va_up X.pre X.n p z9)))), ((b 1), .inl (cI, 200, .inl (fun z9 => nI (va_up X.len X.n n z9)))), ((b 2), .inl (cI, 200, .inl (fun z9 => pI (X.par z9)))), ((b 3), .inl (cI, 200, .inl (fun z9 => nI (X.lev z9)))), ((b 4), .inl (cI, 200, .inl (fun z9 => nI (X.hol z9)))), ((b 5), .inl (cI, 200, .inl (fun z9 => nI (va_up X.sta X.n v z9)))), ((b 6), .inl (cI, 200, .inl (fun z9 => nI (va_up X.en X.n 0 z9)))), ((b 7), .inl (cI, 200, .inl (fun z9 => pI (va_up X.fc X.n none z9)))), ((b 8), .inl (cI, 200, .inl (fun z9 => pI (va_up X.nx X.n none z9))))] H := hP
  replace hD : va_D A [(h, .inr (3, [.ref (b 0), .ref (b 1), .ref (b 2), .ref (b 3), .ref (b 4), .ref (b 5), .ref (b 6), .ref (b 7), .ref (b 8), .int (nI (X.n + 1))])), ((b 0), .inl (cI, 200, .inl (fun z9 => nI (va_up X.pre X.n p z9)))), ((b 1), .inl (cI, 200, .inl (fun z9 => nI (va_up X.len X.n n z9)))), ((b 2), .inl (cI, 200, .inl (fun z9 => pI (X.par z9)))), ((b 3), .inl (cI, 200, .inl (fun z9 => nI (X.lev z9)))), ((b 4), .inl (cI, 200, .inl (fun z9 => nI (X.hol z9)))), ((b 5), .inl (cI, 200, .inl (fun z9 => nI (va_up X.sta X.n v z9)))), ((b 6), .inl (cI, 200, .inl (fun z9 => nI (va_up X.en X.n 0 z9)))), ((b 7), .inl (cI, 200, .inl (fun z9 => pI (va_up X.fc X.n none z9)))), ((b 8), .inl (cI, 200, .inl (fun z9 => pI (va_up X.nx X.n none z9))))] := hD
  refine lv_iload hx hb d_Re_addRow_64 (lv_at hl 0 rfl) ?_
  have hP9 : va_P (dC, dI) classes (wRe cI h b (rAdd X p n v)) H := hP
  have hD9 : va_D A (wRe cI h b (rAdd X p n v)) := hD
  exact W.iret (v := (nI X.n)) hx hb hr (fun t ht hW => ⟨⟨(nI X.n), (), rfl, (by rfl), by rw [ht]; exact hP9, va_K.moved hW.alike hK, hD9⟩, hS.F ht⟩) hS.2.2 d_Re_addRow_66
set_option maxHeartbeats 4000000 in
set_option maxRecDepth 100000 in
theorem c_Re_addTop (l : Launch) (dC : Nat → ClassId) (dI : Nat → Nat → Nat) (sz : Nat) (cI : ClassId) (h : Nat) (b : Nat → Nat) (X : RS) (hXn : X.n < 200) (p n w : Nat) : Met l y_Re_addTop (.code y_Re_addTop b_Re_addTop 5 (some .int) :: wG) ({ frames := 1, cells := 0, slots := 0, locals := 24 }) (PcM (dC, dI) [(cI, .int)] (wRe cI h b X) [.ref h, .int (nI p), .int (nI n), .int (nI w)] sz) (QmI (dC, dI) [(cI, .int)] (wRe cI h b X) (wRe cI h b (rTop X p n w)) sz (nI X.n)) 0 0 (va_A (wRe cI h b X) sz) := by
  refine Met.ofW (cc := b_Re_addTop) (maxL := 5) (ret := (some .int)) (by decide) rfl ?_
  intro pg eg s mg ag bg meth cg s₁ B hml hv
  obtain ⟨rfl, hsz, hP, hK, hD0, hN⟩ := hv
  have hx := B.exec
  have hb := B.bytes
  have hr := B.returns
  have hlocks := B.notSynchronized
  have hts : ∀ w9 ∈ wG, w9.before ([.ref h, .int (nI p), .int (nI n), .int (nI w)] : List Value).toArray s = true := fun w9 h9 => atoms_spec (ws := (.code y_Re_addTop b_Re_addTop 5 (some .int) :: wG)) B.pre w9 (List.mem_cons_of_mem _ h9)
  have hown : s.vm.findClass "PrefixRegistry$Records" = some mg.cls := findClass_of_methodNamed B.named
  subst hsz
  have hD := hD0.self (sz := s.heap.size)
  unfold QmI
  generalize hAe : va_A (wRe cI h b X) s.heap.size = A at hD ⊢
  have hA : ∀ q : Nat, s.heap.size ≤ q → A q := fun q h => by rw [← hAe]; exact Or.inr h
  have hS : va_S A s.heap s.heap [] := va_S.rf
  have hl := lv_entry ([.ref h, .int (nI p), .int (nI n), .int (nI w)]) (n := 5) (Nat.le_of_ble_eq_true rfl)
  rw [lg_entry_eq]
  generalize (lg_sl ([.ref h, .int (nI p), .int (nI n), .int (nI w)]) ++ List.replicate (5 - (lg_sl ([.ref h, .int (nI p), .int (nI n), .int (nI w)])).length) Slot.unset).toArray = ls at hl ⊢
  replace hl : lv_has ls 5 [(0, .ref h), (1, .int (nI p)), (2, .int (nI n)), (3, .int (nI w))] := hl
  replace hP : va_P (dC, dI) classes (wRe cI h b X) s.heap := hP
  replace hD : va_D A (wRe cI h b X) := hD
  refine lv_aload_n hx hb d_Re_addTop_0 rfl (lv_at hl 0 rfl) ?_
  refine lv_iload_n hx hb d_Re_addTop_1 rfl (lv_at hl 1 rfl) ?_
  refine lv_iload_n hx hb d_Re_addTop_2 rfl (lv_at hl 2 rfl) ?_
  refine lv_iconst (v := 1) hx hb d_Re_addTop_3 (by decide) ?_
  have hPc := hP.sub (ws' := (wRe cI h b X)) [0, 1, 2, 3, 4, 5, 6, 7, 8, 9] rfl
  have hDc := hD.sub (ws' := (wRe cI h b X)) [0, 1, 2, 3, 4, 5, 6, 7, 8, 9] (by decide) rfl
  have hFc := va_free (wc := (wRe cI h b X)) hD hS hA [0, 1, 2, 3, 4, 5, 6, 7, 8, 9] rfl
  refine va_calli (va_runV (b := h) (As := [.int (nI p), .int (nI n), .int 1]) (rest := []) ⟨hx, hb, hml, hown, hts⟩ (c_Re_addRow l dC dI s.heap.size cI h b X hXn p n 1) (cwV 3 hts (gV kw_352 kw_354 ks_2 kw_3 kw_355) rfl rfl rfl (by decide +kernel) ⟨Nat.le_of_ble_eq_true rfl, Nat.le_of_ble_eq_true rfl⟩) ⟨PcM.blind, va_recv (q0 := 0) hK hPc rfl rfl, PcM.use hPc hK hN hDc⟩ rfl rfl hl.1 rfl (lv_room (Nat.le_of_ble_eq_true rfl)) d_Re_addTop_4 ⟨Nat.le_of_ble_eq_true rfl, Nat.le_of_ble_eq_true rfl⟩) hS (fun q _ h => hFc q h) hFc (fun r4 u9 H9 H1 locs hH9 hv9 hp9 hB hz1 hk1 hS => ?_)
  obtain rfl : r4 = (nI X.n) := hp9
  obtain ⟨hP1, hK1, hD1⟩ := hB
  rw [hH9] at hP1
  obtain ⟨hP, hD⟩ := va_join (wr := []) (w1 := (wRe cI h b (rAdd X p n 1))) hP hD [0, 1, 2, 3, 4, 5, 6, 7, 8, 9] [] rfl rfl (by decide) (by decide) hk1 hFc hP1 hD1
  clear hPc hDc hFc hP1 hD1 hK1 hk1 hz1 hv9 hH9
  generalize H1 = H at hP hS ⊢
  replace hP : va_P (dC, dI) classes [(h, .inr (3, [.ref (b 0), .ref (b 1), .ref (b 2), .ref (b 3), .ref (b 4), .ref (b 5), .ref (b 6), .ref (b 7), .ref (b 8), .int (nI (rAdd X p n 1).n)])), ((b 0), .inl (cI, 200, .inl (fun z9 => nI ((rAdd X p n 1).pre z9)))), ((b 1), .inl (cI, 200, .inl (fun z9 => nI ((rAdd X p n 1).len z9)))), ((b 2), .inl (cI, 200, .inl (fun z9 => pI ((rAdd X p n 1).par z9)))), ((b 3), .inl (cI, 200, .inl (fun z9 => nI ((rAdd X p n 1).lev z9)))), ((b 4), .inl (cI, 200, .inl (fun z9 => nI ((rAdd X p n 1).hol z9)))), ((b 5), .inl (cI, 200, .inl (fun z9 => nI ((rAdd X p n 1).sta z9)))), ((b 6), .inl (cI, 200, .inl (fun z9 => nI ((rAdd X p n 1).en z9)))), ((b 7), .inl (cI, 200, .inl (fun z9 => pI ((rAdd X p n 1).fc z9)))), ((b 8), .inl (cI, 200, .inl (fun z9 => pI ((rAdd X p n 1).nx z9))))] H := hP.sub (ws' := [(h, .inr (3, [.ref (b 0), .ref (b 1), .ref (b 2), .ref (b 3), .ref (b 4), .ref (b 5), .ref (b 6), .ref (b 7), .ref (b 8), .int (nI (rAdd X p n 1).n)])), ((b 0), .inl (cI, 200, .inl (fun z9 => nI ((rAdd X p n 1).pre z9)))), ((b 1), .inl (cI, 200, .inl (fun z9 => nI ((rAdd X p n 1).len z9)))), ((b 2), .inl (cI, 200, .inl (fun z9 => pI ((rAdd X p n 1).par z9)))), ((b 3), .inl (cI, 200, .inl (fun z9 => nI ((rAdd X p n 1).lev z9)))), ((b 4), .inl (cI, 200, .inl (fun z9 => nI ((rAdd X p n 1).hol z9)))), ((b 5), .inl (cI, 200, .inl (fun z9 => nI ((rAdd X p n 1).sta z9)))), ((b 6), .inl (cI, 200, .inl (fun z9 => nI ((rAdd X p n 1).en z9)))), ((b 7), .inl (cI, 200, .inl (fun z9 => pI ((rAdd X p n 1).fc z9)))), ((b 8), .inl (cI, 200, .inl (fun z9 => pI ((rAdd X p n 1).nx z9))))]) [0, 1, 2, 3, 4, 5, 6, 7, 8, 9] rfl
  replace hD : va_D A [(h, .inr (3, [.ref (b 0), .ref (b 1), .ref (b 2), .ref (b 3), .ref (b 4), .ref (b 5), .ref (b 6), .ref (b 7), .ref (b 8), .int (nI (rAdd X p n 1).n)])), ((b 0), .inl (cI, 200, .inl (fun z9 => nI ((rAdd X p n 1).pre z9)))), ((b 1), .inl (cI, 200, .inl (fun z9 => nI ((rAdd X p n 1).len z9)))), ((b 2), .inl (cI, 200, .inl (fun z9 => pI ((rAdd X p n 1).par z9)))), ((b 3), .inl (cI, 200, .inl (fun z9 => nI ((rAdd X p n 1).lev z9)))), ((b 4), .inl (cI, 200, .inl (fun z9 => nI ((rAdd X p n 1).hol z9)))), ((b 5), .inl (cI, 200, .inl (fun z9 => nI ((rAdd X p n 1).sta z9)))), ((b 6), .inl (cI, 200, .inl (fun z9 => nI ((rAdd X p n 1).en z9)))), ((b 7), .inl (cI, 200, .inl (fun z9 => pI ((rAdd X p n 1).fc z9)))), ((b 8), .inl (cI, 200, .inl (fun z9 => pI ((rAdd X p n 1).nx z9))))] := hD.sub (ws' := [(h, .inr (3, [.ref (b 0), .ref (b 1), .ref (b 2), .ref (b 3), .ref (b 4), .ref (b 5), .ref (b 6), .ref (b 7), .ref (b 8), .int (nI (rAdd X p n 1).n)])), ((b 0), .inl (cI, 200, .inl (fun z9 => nI ((rAdd X p n 1).pre z9)))), ((b 1), .inl (cI, 200, .inl (fun z9 => nI ((rAdd X p n 1).len z9)))), ((b 2), .inl (cI, 200, .inl (fun z9 => pI ((rAdd X p n 1).par z9)))), ((b 3), .inl (cI, 200, .inl (fun z9 => nI ((rAdd X p n 1).lev z9)))), ((b 4), .inl (cI, 200, .inl (fun z9 => nI ((rAdd X p n 1).hol z9)))), ((b 5), .inl (cI, 200, .inl (fun z9 => nI ((rAdd X p n 1).sta z9)))), ((b 6), .inl (cI, 200, .inl (fun z9 => nI ((rAdd X p n 1).en z9)))), ((b 7), .inl (cI, 200, .inl (fun z9 => pI ((rAdd X p n 1).fc z9)))), ((b 8), .inl (cI, 200, .inl (fun z9 => pI ((rAdd X p n 1).nx z9))))]) [0, 1, 2, 3, 4, 5, 6, 7, 8, 9] (by decide) rfl
  refine lv_istore hx hb d_Re_addTop_7 hl (by decide) rfl (fun ls hl => ?_)
  replace hl : lv_has ls 5 [(4, .int (nI X.n)), (0, .ref h), (1, .int (nI p)), (2, .int (nI n)), (3, .int (nI w))] := hl
  refine lv_aload_n hx hb d_Re_addTop_9 rfl (lv_at hl 1 rfl) ?_
  refine va_get (D := (dC, dI)) (ci := 3) (v := .ref (b 2)) (C := R_Re) (T := F_Re) (N := 10) hx hb hts u_Re hown hK hP 0 rfl rfl 2 (by decide) (hts _ kw_41) (fun _ h9 => h9) rfl d_Re_addTop_10 ?_
  refine lv_iload hx hb d_Re_addTop_13 (lv_at hl 0 rfl) ?_
  refine lv_iconst (v := (-1)) hx hb d_Re_addTop_15 (by decide) ?_
  refine x_iast (j := X.n) (g := (fun z9 => pI (va_up ((rAdd X p n 1).par) X.n none z9))) hx hb hK hP hD hS 3 0 rfl rfl hXn (by decide) rfl (up_pI _ _ none) rfl d_Re_addTop_16 (fun H locs hP hD hS => ?_)
  replace hP : va_P (dC, dI) classes [(h, .inr (3, [.ref (b 0), .ref (b 1), .ref (b 2), .ref (b 3), .ref (b 4), .ref (b 5), .ref (b 6), .ref (b 7), .ref (b 8), .int (nI (rAdd X p n 1).n)])), ((b 0), .inl (cI, 200, .inl (fun z9 => nI ((rAdd X p n 1).pre z9)))), ((b 1), .inl (cI, 200, .inl (fun z9 => nI ((rAdd X p n 1).len z9)))), ((b 2), .inl (cI, 200, .inl (fun z9 => pI (va_up ((rAdd X p n 1).par) X.n none z9)))), ((b 3), .inl (cI, 200, .inl (fun z9 => nI ((rAdd X p n 1).lev z9)))), ((b 4), .inl (cI, 200, .inl (fun z9 => nI ((rAdd X p n 1).hol z9)))), ((b 5), .inl (cI, 200, .inl (fun z9 => nI ((rAdd X p n 1).sta z9)))), ((b 6), .inl (cI, 200, .inl (fun z9 => nI ((rAdd X p n 1).en z9)))), ((b 7), .inl (cI, 200, .inl (fun z9 => pI ((rAdd X p n 1).fc z9)))), ((b 8), .inl (cI, 200, .inl (fun z9 => pI ((rAdd X p n 1).nx z9))))] H := hP
  replace hD : va_D A [(h, .inr (3, [.ref (b 0), .ref (b 1), .ref (b 2), .ref (b 3), .ref (b 4), .ref (b 5), .ref (b 6), .ref (b 7), .ref (b 8), .int (nI (rAdd X p n 1).n)])), ((b 0), .inl (cI, 200, .inl (fun z9 => nI ((rAdd X p n 1).pre z9)))), ((b 1), .inl (cI, 200, .inl (fun z9 => nI ((rAdd X p n 1).len z9)))), ((b 2), .inl (cI, 200, .inl (fun z9 => pI (va_up ((rAdd X p n 1).par) X.n none z9)))), ((b 3), .inl (cI, 200, .inl (fun z9 => nI ((rAdd X p n 1).lev z9)))), ((b 4), .inl (cI, 200, .inl (fun z9 => nI ((rAdd X p n 1).hol z9)))), ((b 5), .inl (cI, 200, .inl (fun z9 => nI ((rAdd X p n 1).sta z9)))), ((b 6), .inl (cI, 200, .inl (fun z9 => nI ((rAdd X p n 1).en z9)))), ((b 7), .inl (cI, 200, .inl (fun z9 => pI ((rAdd X p n 1).fc z9)))), ((b 8), .inl (cI, 200, .inl (fun z9 => pI ((rAdd X p n 1).nx z9))))] := hD
  refine lv_aload_n hx hb d_Re_addTop_17 rfl (lv_at hl 1 rfl) ?_
  refine va_get (D := (dC, dI)) (ci := 3) (v := .ref (b 3)) (C := R_Re) (T := F_Re) (N := 10) hx hb hts u_Re hown hK hP 0 rfl rfl 3 (by decide) (hts _ kw_43) (fun _ h9 => h9) rfl d_Re_addTop_18 ?_
  refine lv_iload hx hb d_Re_addTop_21 (lv_at hl 0 rfl) ?_
  refine lv_iconst (v := 0) hx hb d_Re_addTop_23 (by decide) ?_
  refine x_iast (j := X.n) (g := (fun z9 => nI (va_up ((rAdd X p n 1).lev) X.n 0 z9))) hx hb hK hP hD hS 4 0 rfl rfl hXn (by decide) rfl (up_nI _ _ 0) rfl d_Re_addTop_24 (fun H locs hP hD hS => ?_)
  replace hP : va_P (dC, dI) classes [(h, .inr (3, [.ref (b 0), .ref (b 1), .ref (b 2), .ref (b 3), .ref (b 4), .ref (b 5), .ref (b 6), .ref (b 7), .ref (b 8), .int (nI (rAdd X p n 1).n)])), ((b 0), .inl (cI, 200, .inl (fun z9 => nI ((rAdd X p n 1).pre z9)))), ((b 1), .inl (cI, 200, .inl (fun z9 => nI ((rAdd X p n 1).len z9)))), ((b 2), .inl (cI, 200, .inl (fun z9 => pI (va_up ((rAdd X p n 1).par) X.n none z9)))), ((b 3), .inl (cI, 200, .inl (fun z9 => nI (va_up ((rAdd X p n 1).lev) X.n 0 z9)))), ((b 4), .inl (cI, 200, .inl (fun z9 => nI ((rAdd X p n 1).hol z9)))), ((b 5), .inl (cI, 200, .inl (fun z9 => nI ((rAdd X p n 1).sta z9)))), ((b 6), .inl (cI, 200, .inl (fun z9 => nI ((rAdd X p n 1).en z9)))), ((b 7), .inl (cI, 200, .inl (fun z9 => pI ((rAdd X p n 1).fc z9)))), ((b 8), .inl (cI, 200, .inl (fun z9 => pI ((rAdd X p n 1).nx z9))))] H := hP
  replace hD : va_D A [(h, .inr (3, [.ref (b 0), .ref (b 1), .ref (b 2), .ref (b 3), .ref (b 4), .ref (b 5), .ref (b 6), .ref (b 7), .ref (b 8), .int (nI (rAdd X p n 1).n)])), ((b 0), .inl (cI, 200, .inl (fun z9 => nI ((rAdd X p n 1).pre z9)))), ((b 1), .inl (cI, 200, .inl (fun z9 => nI ((rAdd X p n 1).len z9)))), ((b 2), .inl (cI, 200, .inl (fun z9 => pI (va_up ((rAdd X p n 1).par) X.n none z9)))), ((b 3), .inl (cI, 200, .inl (fun z9 => nI (va_up ((rAdd X p n 1).lev) X.n 0 z9)))), ((b 4), .inl (cI, 200, .inl (fun z9 => nI ((rAdd X p n 1).hol z9)))), ((b 5), .inl (cI, 200, .inl (fun z9 => nI ((rAdd X p n 1).sta z9)))), ((b 6), .inl (cI, 200, .inl (fun z9 => nI ((rAdd X p n 1).en z9)))), ((b 7), .inl (cI, 200, .inl (fun z9 => pI ((rAdd X p n 1).fc z9)))), ((b 8), .inl (cI, 200, .inl (fun z9 => pI ((rAdd X p n 1).nx z9))))] := hD
  refine lv_aload_n hx hb d_Re_addTop_25 rfl (lv_at hl 1 rfl) ?_
  refine va_get (D := (dC, dI)) (ci := 3) (v := .ref (b 4)) (C := R_Re) (T := F_Re) (N := 10) hx hb hts u_Re hown hK hP 0 rfl rfl 4 (by decide) (hts _ kw_45) (fun _ h9 => h9) rfl d_Re_addTop_26 ?_
  refine lv_iload hx hb d_Re_addTop_29 (lv_at hl 0 rfl) ?_
  refine lv_iload_n hx hb d_Re_addTop_31 rfl (lv_at hl 4 rfl) ?_
  refine x_iast (j := X.n) (g := (fun z9 => nI (va_up ((rAdd X p n 1).hol) X.n w z9))) hx hb hK hP hD hS 5 0 rfl rfl hXn (by decide) rfl (up_nI _ _ w) rfl d_Re_addTop_32 (fun H locs hP hD hS => ?_)
  replace hP : va_P (dC, dI) classes [(h, .inr (3, [.ref (b 0), .ref (b 1), .ref (b 2), .ref (b 3), .ref (b 4), .ref (b 5), .ref (b 6), .ref (b 7), .ref (b 8), .int (nI (rAdd X p n 1).n)])), ((b 0), .inl (cI, 200, .inl (fun z9 => nI ((rAdd X p n 1).pre z9)))), ((b 1), .inl (cI, 200, .inl (fun z9 => nI ((rAdd X p n 1).len z9)))), ((b 2), .inl (cI, 200, .inl (fun z9 => pI (va_up ((rAdd X p n 1).par) X.n none z9)))), ((b 3), .inl (cI, 200, .inl (fun z9 => nI (va_up ((rAdd X p n 1).lev) X.n 0 z9)))), ((b 4), .inl (cI, 200, .inl (fun z9 => nI (va_up ((rAdd X p n 1).hol) X.n w z9)))), ((b 5), .inl (cI, 200, .inl (fun z9 => nI ((rAdd X p n 1).sta z9)))), ((b 6), .inl (cI, 200, .inl (fun z9 => nI ((rAdd X p n 1).en z9)))), ((b 7), .inl (cI, 200, .inl (fun z9 => pI ((rAdd X p n 1).fc z9)))), ((b 8), .inl (cI, 200, .inl (fun z9 => pI ((rAdd X p n 1).nx z9))))] H := hP
  replace hD : va_D A [(h, .inr (3, [.ref (b 0), .ref (b 1), .ref (b 2), .ref (b 3), .ref (b 4), .ref (b 5), .ref (b 6), .ref (b 7), .ref (b 8), .int (nI (rAdd X p n 1).n)])), ((b 0), .inl (cI, 200, .inl (fun z9 => nI ((rAdd X p n 1).pre z9)))), ((b 1), .inl (cI, 200, .inl (fun z9 => nI ((rAdd X p n 1).len z9)))), ((b 2), .inl (cI, 200, .inl (fun z9 => pI (va_up ((rAdd X p n 1).par) X.n none z9)))), ((b 3), .inl (cI, 200, .inl (fun z9 => nI (va_up ((rAdd X p n 1).lev) X.n 0 z9)))), ((b 4), .inl (cI, 200, .inl (fun z9 => nI (va_up ((rAdd X p n 1).hol) X.n w z9)))), ((b 5), .inl (cI, 200, .inl (fun z9 => nI ((rAdd X p n 1).sta z9)))), ((b 6), .inl (cI, 200, .inl (fun z9 => nI ((rAdd X p n 1).en z9)))), ((b 7), .inl (cI, 200, .inl (fun z9 => pI ((rAdd X p n 1).fc z9)))), ((b 8), .inl (cI, 200, .inl (fun z9 => pI ((rAdd X p n 1).nx z9))))] := hD
  refine lv_iload hx hb d_Re_addTop_33 (lv_at hl 0 rfl) ?_
  have hP9 : va_P (dC, dI) classes (wRe cI h b (rTop X p n w)) H := hP
  have hD9 : va_D A (wRe cI h b (rTop X p n w)) := hD
  exact W.iret (v := (nI X.n)) hx hb hr (fun t ht hW => ⟨⟨(nI X.n), (), rfl, (by rfl), by rw [ht]; exact hP9, va_K.moved hW.alike hK, hD9⟩, hS.F ht⟩) hS.2.2 d_Re_addTop_35
