/-! what the ledger's writers do -/
abbrev rEn (X : RS) (r v : Nat) : RS := mkR X.pre X.len X.lev X.hol X.sta (va_up X.en r v) X.par X.fc X.nx X.n
abbrev rDbl (X : RS) (r : Nat) : RS := mkR (va_up X.pre r (X.pre r &&& (X.pre r ^^^ 2 ^ (32 - X.len r)))) (va_up X.len r (X.len r - 1)) X.lev X.hol X.sta X.en X.par X.fc X.nx X.n
abbrev rHlv (X : RS) (r : Nat) (u : Bool) : RS := mkR (va_up X.pre r (hafN X r u)) (va_up X.len r (X.len r + 1)) X.lev X.hol X.sta X.en X.par X.fc X.nx X.n
abbrev rHol (X : RS) (hf : Nat → Nat) : RS := mkR X.pre X.len X.lev hf X.sta X.en X.par X.fc X.nx X.n
abbrev rClr (X : RS) : RS := mkR X.pre X.len X.lev X.hol X.sta X.en X.par X.fc X.nx 0
abbrev pol0 (pol : Nat → Nat) : Nat → Nat := va_up (va_up (va_up (va_up pol 0 0) 1 0) 2 0) 3 0
def rBack (X : RS) (r td qd : Nat) (L : List Nat) : RS := if qd = 0 then rRet (rEn X r (td + qd)) r L else rSta (rEn X r (td + qd)) r 3
theorem rRet_en (X : RS) (r : Nat) (L : List Nat) : (rRet X r L).en = X.en := by
  unfold rRet
  cases X.par r with
  | none => rfl
  | some p => rfl
theorem RSok.enU {X : RS} (hX : RSok X) {r v : Nat} (hv : v < 200000) : RSok (rEn X r v) :=
  RSok.mk hX.n hX.pre hX.len hX.lev hX.hol hX.sta (up_all (P := (· < 200000)) hX.en hv) (fun j k q => hX.par q) (fun j k q => hX.fc q) (fun j k q => hX.nx q)
theorem RSok.holf {X : RS} (hX : RSok X) {hf : Nat → Nat} (hv : ∀ j, hf j < 10000) : RSok (rHol X hf) :=
  RSok.mk hX.n hX.pre hX.len hX.lev hv hX.sta hX.en (fun j k q => hX.par q) (fun j k q => hX.fc q) (fun j k q => hX.nx q)
/-- holders and how many, from row i on, k rows -/
def hov (X : RS) (a w : Nat) : Nat → Nat → (Nat → Nat) → Nat → (Nat → Nat) × Nat
  | _, 0, hf, sm => (hf, sm)
  | i, k + 1, hf, sm => if X.sta i ≠ 4 ∧ aob X.par a 5 (some i) = true then hov X a w (i + 1) k (va_up hf i w) (sm + 1) else hov X a w (i + 1) k hf sm
set_option maxHeartbeats 4000000 in
set_option maxRecDepth 100000 in
theorem c_Le_handOut (l : Launch) (dC : Nat → ClassId) (dI : Nat → Nat → Nat) (sz : Nat) (cI : ClassId) (g : Nat → Nat) (X : RS) (pol : Nat → Nat) (td qd : Nat) (wk : WK) (r : Nat) (hr0 : r < 200) : Met l y_Le_handOut (.code y_Le_handOut b_Le_handOut 2 (some .int) :: wG) ({ frames := 0, cells := 0, slots := 0, locals := 0 }) (PcM (dC, dI) [(cI, .int)] (wLe cI g X pol td qd wk) [.ref (g 0), .int (nI r)] sz) (QmI (dC, dI) [(cI, .int)] (wLe cI g X pol td qd wk) (wLe cI g (rSta X r 1) pol td qd wk) sz 0) 0 0 (va_A (wLe cI g X pol td qd wk) sz) := by
  refine Met.ofW (cc := b_Le_handOut) (maxL := 2) (ret := (some .int)) (by decide) rfl ?_
  intro pg eg s mg ag bg meth cg s₁ B hml hv
  obtain ⟨rfl, hsz, hP, hK, hD0, hN⟩ := hv
  have hx := B.exec
  have hb := B.bytes
  have hr := B.returns
  have hlocks := B.notSynchronized
  have hts : ∀ w9 ∈ wG, w9.before ([.ref (g 0), .int (nI r)] : List Value).toArray s = true := fun w9 h9 => atoms_spec (ws := (.code y_Le_handOut b_Le_handOut 2 (some .int) :: wG)) B.pre w9 (List.mem_cons_of_mem _ h9)
  have hown : s.vm.findClass "PrefixRegistry$Ledger" = some mg.cls := findClass_of_methodNamed B.named
  subst hsz
  have hD := hD0.self (sz := s.heap.size)
  unfold QmI
  generalize hAe : va_A (wLe cI g X pol td qd wk) s.heap.size = A at hD ⊢
  have hA : ∀ q : Nat, s.heap.size ≤ q → A q := fun q h => by rw [← hAe]; exact Or.inr h
  have hS : va_S A s.heap s.heap [] := va_S.rf
  have hl := lv_entry ([.ref (g 0), .int (nI r)]) (n := 2) (Nat.le_of_ble_eq_true rfl)
  rw [lg_entry_eq]
  generalize (lg_sl ([.ref (g 0), .int (nI r)]) ++ List.replicate (2 - (lg_sl ([.ref (g 0), .int (nI r)])).length) Slot.unset).toArray = ls at hl ⊢
  replace hl : lv_has ls 2 [(0, .ref (g 0)), (1, .int (nI r))] := hl
  replace hP : va_P (dC, dI) classes (wLe cI g X pol td qd wk) s.heap := hP
  replace hD : va_D A (wLe cI g X pol td qd wk) := hD
  refine lv_aload_n hx hb d_Le_handOut_0 rfl (lv_at hl 0 rfl) ?_
  refine va_get (D := (dC, dI)) (ci := 2) (v := .ref (g 3)) (C := R_Le) (T := F_Le) (N := 5) hx hb hts u_Le hown hK hP 0 rfl rfl 0 (by decide) (hts _ kw_112) (fun _ h9 => h9) rfl d_Le_handOut_1 ?_
  refine va_getN (D := (dC, dI)) (ci := 3) (v := .ref (g 9)) (C := R_Re) (T := F_Re) (N := 10) hx hb hts u_Re hown hK hP 3 rfl rfl 5 (by decide) (va_Nw.use rfl (hN.at 49 nw_49 rfl)) (fun _ h9 => h9) rfl d_Le_handOut_4 ?_
  refine lv_iload_n hx hb d_Le_handOut_7 rfl (lv_at hl 1 rfl) ?_
  refine lv_iconst (v := 1) hx hb d_Le_handOut_8 (by decide) ?_
  refine x_iast (j := r) (g := (fun z9 => nI (va_up X.sta r 1 z9))) hx hb hK hP hD hS 9 0 rfl rfl hr0 (by decide) rfl (up_nI _ _ 1) rfl d_Le_handOut_9 (fun H locs hP hD hS => ?_)
  replace hP : va_P (dC, dI) classes [((g 0), .inr (2, [.ref (g 3), .ref (g 1), .ref (g 2), .int (nI td), .int (nI qd)])), ((g 1), .inr (0, [.ref (g 3), .long wk.at, .long wk.en, .int wk.ch, .long wk.sa, .int wk.le])), ((g 2), .inl (cI, 4, .inl (fun z9 => nI (pol z9)))), ((g 3), .inr (3, [.ref (g 4), .ref (g 5), .ref (g 6), .ref (g 7), .ref (g 8), .ref (g 9), .ref (g 10), .ref (g 11), .ref (g 12), .int (nI X.n)])), ((g 4), .inl (cI, 200, .inl (fun z9 => nI (X.pre z9)))), ((g 5), .inl (cI, 200, .inl (fun z9 => nI (X.len z9)))), ((g 6), .inl (cI, 200, .inl (fun z9 => pI (X.par z9)))), ((g 7), .inl (cI, 200, .inl (fun z9 => nI (X.lev z9)))), ((g 8), .inl (cI, 200, .inl (fun z9 => nI (X.hol z9)))), ((g 9), .inl (cI, 200, .inl (fun z9 => nI (va_up X.sta r 1 z9)))), ((g 10), .inl (cI, 200, .inl (fun z9 => nI (X.en z9)))), ((g 11), .inl (cI, 200, .inl (fun z9 => pI (X.fc z9)))), ((g 12), .inl (cI, 200, .inl (fun z9 => pI (X.nx z9))))] H := hP
  replace hD : va_D A [((g 0), .inr (2, [.ref (g 3), .ref (g 1), .ref (g 2), .int (nI td), .int (nI qd)])), ((g 1), .inr (0, [.ref (g 3), .long wk.at, .long wk.en, .int wk.ch, .long wk.sa, .int wk.le])), ((g 2), .inl (cI, 4, .inl (fun z9 => nI (pol z9)))), ((g 3), .inr (3, [.ref (g 4), .ref (g 5), .ref (g 6), .ref (g 7), .ref (g 8), .ref (g 9), .ref (g 10), .ref (g 11), .ref (g 12), .int (nI X.n)])), ((g 4), .inl (cI, 200, .inl (fun z9 => nI (X.pre z9)))), ((g 5), .inl (cI, 200, .inl (fun z9 => nI (X.len z9)))), ((g 6), .inl (cI, 200, .inl (fun z9 => pI (X.par z9)))), ((g 7), .inl (cI, 200, .inl (fun z9 => nI (X.lev z9)))), ((g 8), .inl (cI, 200, .inl (fun z9 => nI (X.hol z9)))), ((g 9), .inl (cI, 200, .inl (fun z9 => nI (va_up X.sta r 1 z9)))), ((g 10), .inl (cI, 200, .inl (fun z9 => nI (X.en z9)))), ((g 11), .inl (cI, 200, .inl (fun z9 => pI (X.fc z9)))), ((g 12), .inl (cI, 200, .inl (fun z9 => pI (X.nx z9))))] := hD
  refine lv_iconst (v := 0) hx hb d_Le_handOut_10 (by decide) ?_
  have hP9 : va_P (dC, dI) classes (wLe cI g (rSta X r 1) pol td qd wk) H := hP
  have hD9 : va_D A (wLe cI g (rSta X r 1) pol td qd wk) := hD
  exact W.iret (v := 0) hx hb hr (fun t ht hW => ⟨⟨0, (), rfl, (by rfl), by rw [ht]; exact hP9, va_K.moved hW.alike hK, hD9⟩, hS.F ht⟩) hS.2.2 d_Le_handOut_11
set_option maxHeartbeats 4000000 in
set_option maxRecDepth 100000 in
theorem c_Le_setPolicy (l : Launch) (dC : Nat → ClassId) (dI : Nat → Nat → Nat) (sz : Nat) (cI : ClassId) (g : Nat → Nat) (X : RS) (pol : Nat → Nat) (td qd : Nat) (wk : WK) (v w : Nat) (hv4 : v < 4) : Met l y_Le_setPolicy (.code y_Le_setPolicy b_Le_setPolicy 3 (some .int) :: wG) ({ frames := 0, cells := 0, slots := 0, locals := 0 }) (PcM (dC, dI) [(cI, .int)] (wLe cI g X pol td qd wk) [.ref (g 0), .int (nI v), .int (nI w)] sz) (QmI (dC, dI) [(cI, .int)] (wLe cI g X pol td qd wk) (wLe cI g X (va_up pol v w) td qd wk) sz 0) 0 0 (va_A (wLe cI g X pol td qd wk) sz) := by
  refine Met.ofW (cc := b_Le_setPolicy) (maxL := 3) (ret := (some .int)) (by decide) rfl ?_
  intro pg eg s mg ag bg meth cg s₁ B hml hv
  obtain ⟨rfl, hsz, hP, hK, hD0, hN⟩ := hv
  have hx := B.exec
  have hb := B.bytes
  have hr := B.returns
  have hlocks := B.notSynchronized
  have hts : ∀ w9 ∈ wG, w9.before ([.ref (g 0), .int (nI v), .int (nI w)] : List Value).toArray s = true := fun w9 h9 => atoms_spec (ws := (.code y_Le_setPolicy b_Le_setPolicy 3 (some .int) :: wG)) B.pre w9 (List.mem_cons_of_mem _ h9)
  have hown : s.vm.findClass "PrefixRegistry$Ledger" = some mg.cls := findClass_of_methodNamed B.named
  subst hsz
  have hD := hD0.self (sz := s.heap.size)
  unfold QmI
  generalize hAe : va_A (wLe cI g X pol td qd wk) s.heap.size = A at hD ⊢
  have hA : ∀ q : Nat, s.heap.size ≤ q → A q := fun q h => by rw [← hAe]; exact Or.inr h
  have hS : va_S A s.heap s.heap [] := va_S.rf
  have hl := lv_entry ([.ref (g 0), .int (nI v), .int (nI w)]) (n := 3) (Nat.le_of_ble_eq_true rfl)
  rw [lg_entry_eq]
  generalize (lg_sl ([.ref (g 0), .int (nI v), .int (nI w)]) ++ List.replicate (3 - (lg_sl ([.ref (g 0), .int (nI v), .int (nI w)])).length) Slot.unset).toArray = ls at hl ⊢
  replace hl : lv_has ls 3 [(0, .ref (g 0)), (1, .int (nI v)), (2, .int (nI w))] := hl
  replace hP : va_P (dC, dI) classes (wLe cI g X pol td qd wk) s.heap := hP
  replace hD : va_D A (wLe cI g X pol td qd wk) := hD
  refine lv_aload_n hx hb d_Le_setPolicy_0 rfl (lv_at hl 0 rfl) ?_
  refine va_get (D := (dC, dI)) (ci := 2) (v := .ref (g 2)) (C := R_Le) (T := F_Le) (N := 5) hx hb hts u_Le hown hK hP 0 rfl rfl 2 (by decide) (hts _ kw_116) (fun _ h9 => h9) rfl d_Le_setPolicy_1 ?_
  refine lv_iload_n hx hb d_Le_setPolicy_4 rfl (lv_at hl 1 rfl) ?_
  refine lv_iload_n hx hb d_Le_setPolicy_5 rfl (lv_at hl 2 rfl) ?_
  refine x_iast (j := v) (g := (fun z9 => nI (va_up pol v w z9))) hx hb hK hP hD hS 2 0 rfl rfl hv4 (by decide) rfl (up_nI _ _ w) rfl d_Le_setPolicy_6 (fun H locs hP hD hS => ?_)
  replace hP : va_P (dC, dI) classes [((g 0), .inr (2, [.ref (g 3), .ref (g 1), .ref (g 2), .int (nI td), .int (nI qd)])), ((g 1), .inr (0, [.ref (g 3), .long wk.at, .long wk.en, .int wk.ch, .long wk.sa, .int wk.le])), ((g 2), .inl (cI, 4, .inl (fun z9 => nI (va_up pol v w z9)))), ((g 3), .inr (3, [.ref (g 4), .ref (g 5), .ref (g 6), .ref (g 7), .ref (g 8), .ref (g 9), .ref (g 10), .ref (g 11), .ref (g 12), .int (nI X.n)])), ((g 4), .inl (cI, 200, .inl (fun z9 => nI (X.pre z9)))), ((g 5), .inl (cI, 200, .inl (fun z9 => nI (X.len z9)))), ((g 6), .inl (cI, 200, .inl (fun z9 => pI (X.par z9)))), ((g 7), .inl (cI, 200, .inl (fun z9 => nI (X.lev z9)))), ((g 8), .inl (cI, 200, .inl (fun z9 => nI (X.hol z9)))), ((g 9), .inl (cI, 200, .inl (fun z9 => nI (X.sta z9)))), ((g 10), .inl (cI, 200, .inl (fun z9 => nI (X.en z9)))), ((g 11), .inl (cI, 200, .inl (fun z9 => pI (X.fc z9)))), ((g 12), .inl (cI, 200, .inl (fun z9 => pI (X.nx z9))))] H := hP
  replace hD : va_D A [((g 0), .inr (2, [.ref (g 3), .ref (g 1), .ref (g 2), .int (nI td), .int (nI qd)])), ((g 1), .inr (0, [.ref (g 3), .long wk.at, .long wk.en, .int wk.ch, .long wk.sa, .int wk.le])), ((g 2), .inl (cI, 4, .inl (fun z9 => nI (va_up pol v w z9)))), ((g 3), .inr (3, [.ref (g 4), .ref (g 5), .ref (g 6), .ref (g 7), .ref (g 8), .ref (g 9), .ref (g 10), .ref (g 11), .ref (g 12), .int (nI X.n)])), ((g 4), .inl (cI, 200, .inl (fun z9 => nI (X.pre z9)))), ((g 5), .inl (cI, 200, .inl (fun z9 => nI (X.len z9)))), ((g 6), .inl (cI, 200, .inl (fun z9 => pI (X.par z9)))), ((g 7), .inl (cI, 200, .inl (fun z9 => nI (X.lev z9)))), ((g 8), .inl (cI, 200, .inl (fun z9 => nI (X.hol z9)))), ((g 9), .inl (cI, 200, .inl (fun z9 => nI (X.sta z9)))), ((g 10), .inl (cI, 200, .inl (fun z9 => nI (X.en z9)))), ((g 11), .inl (cI, 200, .inl (fun z9 => pI (X.fc z9)))), ((g 12), .inl (cI, 200, .inl (fun z9 => pI (X.nx z9))))] := hD
  refine lv_iconst (v := 0) hx hb d_Le_setPolicy_7 (by decide) ?_
  have hP9 : va_P (dC, dI) classes (wLe cI g X (va_up pol v w) td qd wk) H := hP
  have hD9 : va_D A (wLe cI g X (va_up pol v w) td qd wk) := hD
  exact W.iret (v := 0) hx hb hr (fun t ht hW => ⟨⟨0, (), rfl, (by rfl), by rw [ht]; exact hP9, va_K.moved hW.alike hK, hD9⟩, hS.F ht⟩) hS.2.2 d_Le_setPolicy_8
set_option maxHeartbeats 4000000 in
set_option maxRecDepth 100000 in
theorem c_Le_setQuarantine (l : Launch) (dC : Nat → ClassId) (dI : Nat → Nat → Nat) (sz : Nat) (cI : ClassId) (g : Nat → Nat) (X : RS) (pol : Nat → Nat) (td qd : Nat) (wk : WK) (w : Nat) : Met l y_Le_setQuarantine (.code y_Le_setQuarantine b_Le_setQuarantine 2 (some .int) :: wG) ({ frames := 0, cells := 0, slots := 0, locals := 0 }) (PcM (dC, dI) [(cI, .int)] (wLe cI g X pol td qd wk) [.ref (g 0), .int (nI w)] sz) (QmI (dC, dI) [(cI, .int)] (wLe cI g X pol td qd wk) (wLe cI g X pol td w wk) sz 0) 0 0 (va_A (wLe cI g X pol td qd wk) sz) := by
  refine Met.ofW (cc := b_Le_setQuarantine) (maxL := 2) (ret := (some .int)) (by decide) rfl ?_
  intro pg eg s mg ag bg meth cg s₁ B hml hv
  obtain ⟨rfl, hsz, hP, hK, hD0, hN⟩ := hv
  have hx := B.exec
  have hb := B.bytes
  have hr := B.returns
  have hlocks := B.notSynchronized
  have hts : ∀ w9 ∈ wG, w9.before ([.ref (g 0), .int (nI w)] : List Value).toArray s = true := fun w9 h9 => atoms_spec (ws := (.code y_Le_setQuarantine b_Le_setQuarantine 2 (some .int) :: wG)) B.pre w9 (List.mem_cons_of_mem _ h9)
  have hown : s.vm.findClass "PrefixRegistry$Ledger" = some mg.cls := findClass_of_methodNamed B.named
  subst hsz
  have hD := hD0.self (sz := s.heap.size)
  unfold QmI
  generalize hAe : va_A (wLe cI g X pol td qd wk) s.heap.size = A at hD ⊢
  have hA : ∀ q : Nat, s.heap.size ≤ q → A q := fun q h => by rw [← hAe]; exact Or.inr h
  have hS : va_S A s.heap s.heap [] := va_S.rf
  have hl := lv_entry ([.ref (g 0), .int (nI w)]) (n := 2) (Nat.le_of_ble_eq_true rfl)
  rw [lg_entry_eq]
  generalize (lg_sl ([.ref (g 0), .int (nI w)]) ++ List.replicate (2 - (lg_sl ([.ref (g 0), .int (nI w)])).length) Slot.unset).toArray = ls at hl ⊢
  replace hl : lv_has ls 2 [(0, .ref (g 0)), (1, .int (nI w))] := hl
  replace hP : va_P (dC, dI) classes (wLe cI g X pol td qd wk) s.heap := hP
  replace hD : va_D A (wLe cI g X pol td qd wk) := hD
  refine lv_aload_n hx hb d_Le_setQuarantine_0 rfl (lv_at hl 0 rfl) ?_
  refine lv_iload_n hx hb d_Le_setQuarantine_1 rfl (lv_at hl 1 rfl) ?_
  refine va_put (D := (dC, dI)) (ci := 2) (v := .int (nI w)) (ty := .int) (C := R_Le) (T := F_Le) (N := 5) hx hb hts u_Le t_Le t_Le_ok n_Le hown hK hP hD hS 0 rfl rfl 4 (by decide) (hts _ kw_119) (fun _ h9 => h9) rfl (by decide +kernel) rfl rfl (Nat.le_of_ble_eq_true rfl) d_Le_setQuarantine_2 (fun H locs hP hD hS => ?_)
  replace hP : va_P (dC, dI) classes [((g 0), .inr (2, [.ref (g 3), .ref (g 1), .ref (g 2), .int (nI td), .int (nI w)])), ((g 1), .inr (0, [.ref (g 3), .long wk.at, .long wk.en, .int wk.ch, .long wk.sa, .int wk.le])), ((g 2), .inl (cI, 4, .inl (fun z9 => nI (pol z9)))), ((g 3), .inr (3, [.ref (g 4), .ref (g 5), .ref (g 6), .ref (g 7), .ref (g 8), .ref (g 9), .ref (g 10), .ref (g 11), .ref (g 12), .int (nI X.n)])), ((g 4), .inl (cI, 200, .inl (fun z9 => nI (X.pre z9)))), ((g 5), .inl (cI, 200, .inl (fun z9 => nI (X.len z9)))), ((g 6), .inl (cI, 200, .inl (fun z9 => pI (X.par z9)))), ((g 7), .inl (cI, 200, .inl (fun z9 => nI (X.lev z9)))), ((g 8), .inl (cI, 200, .inl (fun z9 => nI (X.hol z9)))), ((g 9), .inl (cI, 200, .inl (fun z9 => nI (X.sta z9)))), ((g 10), .inl (cI, 200, .inl (fun z9 => nI (X.en z9)))), ((g 11), .inl (cI, 200, .inl (fun z9 => pI (X.fc z9)))), ((g 12), .inl (cI, 200, .inl (fun z9 => pI (X.nx z9))))] H := hP
  replace hD : va_D A [((g 0), .inr (2, [.ref (g 3), .ref (g 1), .ref (g 2), .int (nI td), .int (nI w)])), ((g 1), .inr (0, [.ref (g 3), .long wk.at, .long wk.en, .int wk.ch, .long wk.sa, .int wk.le])), ((g 2), .inl (cI, 4, .inl (fun z9 => nI (pol z9)))), ((g 3), .inr (3, [.ref (g 4), .ref (g 5), .ref (g 6), .ref (g 7), .ref (g 8), .ref (g 9), .ref (g 10), .ref (g 11), .ref (g 12), .int (nI X.n)])), ((g 4), .inl (cI, 200, .inl (fun z9 => nI (X.pre z9)))), ((g 5), .inl (cI, 200, .inl (fun z9 => nI (X.len z9)))), ((g 6), .inl (cI, 200, .inl (fun z9 => pI (X.par z9)))), ((g 7), .inl (cI, 200, .inl (fun z9 => nI (X.lev z9)))), ((g 8), .inl (cI, 200, .inl (fun z9 => nI (X.hol z9)))), ((g 9), .inl (cI, 200, .inl (fun z9 => nI (X.sta z9)))), ((g 10), .inl (cI, 200, .inl (fun z9 => nI (X.en z9)))), ((g 11), .inl (cI, 200, .inl (fun z9 => pI (X.fc z9)))), ((g 12), .inl (cI, 200, .inl (fun z9 => pI (X.nx z9))))] := hD
  refine lv_iconst (v := 0) hx hb d_Le_setQuarantine_5 (by decide) ?_
  have hP9 : va_P (dC, dI) classes (wLe cI g X pol td w wk) H := hP
  have hD9 : va_D A (wLe cI g X pol td w wk) := hD
  exact W.iret (v := 0) hx hb hr (fun t ht hW => ⟨⟨0, (), rfl, (by rfl), by rw [ht]; exact hP9, va_K.moved hW.alike hK, hD9⟩, hS.F ht⟩) hS.2.2 d_Le_setQuarantine_6
set_option maxHeartbeats 4000000 in
set_option maxRecDepth 100000 in
theorem c_Le_doubled (l : Launch) (dC : Nat → ClassId) (dI : Nat → Nat → Nat) (sz : Nat) (cI : ClassId) (g : Nat → Nat) (X : RS) (pol : Nat → Nat) (td qd : Nat) (wk : WK) (hX : RSok X) (r : Nat) (hr0 : r < 200) (h1 : 1 ≤ X.len r) : Met l y_Le_doubled (.code y_Le_doubled b_Le_doubled 3 (some .int) :: wG) ({ frames := 2, cells := 0, slots := 0, locals := 41 }) (PcM (dC, dI) [(cI, .int)] (wLe cI g X pol td qd wk) [.ref (g 0), .int (nI r)] sz) (QmI (dC, dI) [(cI, .int)] (wLe cI g X pol td qd wk) (wLe cI g (rDbl X r) pol td qd wk) sz (nI (X.len r - 1))) 0 0 (va_A (wLe cI g X pol td qd wk) sz) := by
  refine Met.ofW (cc := b_Le_doubled) (maxL := 3) (ret := (some .int)) (by decide) rfl ?_
  intro pg eg s mg ag bg meth cg s₁ B hml hv
  obtain ⟨rfl, hsz, hP, hK, hD0, hN⟩ := hv
  have hx := B.exec
  have hb := B.bytes
  have hr := B.returns
  have hlocks := B.notSynchronized
  have hts : ∀ w9 ∈ wG, w9.before ([.ref (g 0), .int (nI r)] : List Value).toArray s = true := fun w9 h9 => atoms_spec (ws := (.code y_Le_doubled b_Le_doubled 3 (some .int) :: wG)) B.pre w9 (List.mem_cons_of_mem _ h9)
  have hown : s.vm.findClass "PrefixRegistry$Ledger" = some mg.cls := findClass_of_methodNamed B.named
  subst hsz
  have hD := hD0.self (sz := s.heap.size)
  unfold QmI
  generalize hAe : va_A (wLe cI g X pol td qd wk) s.heap.size = A at hD ⊢
  have hA : ∀ q : Nat, s.heap.size ≤ q → A q := fun q h => by rw [← hAe]; exact Or.inr h
  have hS : va_S A s.heap s.heap [] := va_S.rf
  have hl := lv_entry ([.ref (g 0), .int (nI r)]) (n := 3) (Nat.le_of_ble_eq_true rfl)
  rw [lg_entry_eq]
  generalize (lg_sl ([.ref (g 0), .int (nI r)]) ++ List.replicate (3 - (lg_sl ([.ref (g 0), .int (nI r)])).length) Slot.unset).toArray = ls at hl ⊢
  replace hl : lv_has ls 3 [(0, .ref (g 0)), (1, .int (nI r))] := hl
  replace hP : va_P (dC, dI) classes (wLe cI g X pol td qd wk) s.heap := hP
  replace hD : va_D A (wLe cI g X pol td qd wk) := hD
  refine lv_aload_n hx hb d_Le_doubled_0 rfl (lv_at hl 0 rfl) ?_
  refine va_get (D := (dC, dI)) (ci := 2) (v := .ref (g 3)) (C := R_Le) (T := F_Le) (N := 5) hx hb hts u_Le hown hK hP 0 rfl rfl 0 (by decide) (hts _ kw_112) (fun _ h9 => h9) rfl d_Le_doubled_1 ?_
  refine va_getN (D := (dC, dI)) (ci := 3) (v := .ref (g 4)) (C := R_Re) (T := F_Re) (N := 10) hx hb hts u_Re hown hK hP 3 rfl rfl 0 (by decide) (va_Nw.use rfl (hN.at 38 nw_38 rfl)) (fun _ h9 => h9) rfl d_Le_doubled_4 ?_
  refine lv_iload_n hx hb d_Le_doubled_7 rfl (lv_at hl 1 rfl) ?_
  refine x_iald (j := r) (v := (nI (X.pre r))) hx hb hK hP 4 0 rfl rfl hr0 (by decide) rfl rfl d_Le_doubled_8 ?_
  refine lv_istore_n hx hb d_Le_doubled_9 rfl hl (by decide) rfl (fun ls hl => ?_)
  replace hl : lv_has ls 3 [(2, .int (nI (X.pre r))), (0, .ref (g 0)), (1, .int (nI r))] := hl
  refine lv_aload_n hx hb d_Le_doubled_10 rfl (lv_at hl 1 rfl) ?_
  refine va_get (D := (dC, dI)) (ci := 2) (v := .ref (g 3)) (C := R_Le) (T := F_Le) (N := 5) hx hb hts u_Le hown hK hP 0 rfl rfl 0 (by decide) (hts _ kw_112) (fun _ h9 => h9) rfl d_Le_doubled_11 ?_
  refine va_getN (D := (dC, dI)) (ci := 3) (v := .ref (g 4)) (C := R_Re) (T := F_Re) (N := 10) hx hb hts u_Re hown hK hP 3 rfl rfl 0 (by decide) (va_Nw.use rfl (hN.at 38 nw_38 rfl)) (fun _ h9 => h9) rfl d_Le_doubled_14 ?_
  refine lv_iload_n hx hb d_Le_doubled_17 rfl (lv_at hl 2 rfl) ?_
  refine lv_iload_n hx hb d_Le_doubled_18 rfl (lv_at hl 0 rfl) ?_
  refine lv_iload_n hx hb d_Le_doubled_19 rfl (lv_at hl 0 rfl) ?_
  refine lv_aload_n hx hb d_Le_doubled_20 rfl (lv_at hl 1 rfl) ?_
  refine va_get (D := (dC, dI)) (ci := 2) (v := .ref (g 3)) (C := R_Le) (T := F_Le) (N := 5) hx hb hts u_Le hown hK hP 0 rfl rfl 0 (by decide) (hts _ kw_112) (fun _ h9 => h9) rfl d_Le_doubled_21 ?_
  refine va_getN (D := (dC, dI)) (ci := 3) (v := .ref (g 5)) (C := R_Re) (T := F_Re) (N := 10) hx hb hts u_Re hown hK hP 3 rfl rfl 1 (by decide) (va_Nw.use rfl (hN.at 40 nw_40 rfl)) (fun _ h9 => h9) rfl d_Le_doubled_24 ?_
  refine lv_iload_n hx hb d_Le_doubled_27 rfl (lv_at hl 2 rfl) ?_
  refine x_iald (j := r) (v := (nI (X.len r))) hx hb hK hP 5 0 rfl rfl hr0 (by decide) rfl rfl d_Le_doubled_28 ?_
  refine vp_callSi (va_Run.run (va_runSN (As := [.int (nI (X.pre r)), .int (nI (X.len r))]) (rest := [.int (nI (X.pre r)), .int (nI r), .ref (g 4)]) ⟨hx, hb, hml, hown, hts⟩ (c_PR_siblingOf l dC dI (X.pre r) (X.len r) (hX.len r)) ⟨va_cnB 2 hts (gI kw_424) rfl rfl rfl (hN.at 422 nw_422 rfl) (hts _ kw_1) (by decide +kernel) ⟨Nat.le_of_ble_eq_true rfl, Nat.le_of_ble_eq_true rfl⟩, hts _ kw_423, trivial⟩ ⟨PcS.blind, PcS.use hP hK hN⟩ rfl rfl hl.1 rfl (lv_room (Nat.le_of_ble_eq_true rfl)) d_Le_doubled_29 ⟨Nat.zero_le _, Nat.zero_le _⟩)) (fun r29 hr29 => ?_)
  obtain rfl : r29 = nI ((X.pre r) ^^^ 2 ^ (32 - (X.len r))) := hr29
  refine lv_iand hx hb d_Le_doubled_32 ?_
  refine x_topi (y := (nI (X.pre r &&& (X.pre r ^^^ 2 ^ (32 - X.len r))))) (nx_and _ _) ?_
  refine x_iast (j := r) (g := (fun z9 => nI (va_up X.pre r (X.pre r &&& (X.pre r ^^^ 2 ^ (32 - X.len r))) z9))) hx hb hK hP hD hS 4 0 rfl rfl hr0 (by decide) rfl (up_nI _ _ (X.pre r &&& (X.pre r ^^^ 2 ^ (32 - X.len r)))) rfl d_Le_doubled_33 (fun H locs hP hD hS => ?_)
  replace hP : va_P (dC, dI) classes [((g 0), .inr (2, [.ref (g 3), .ref (g 1), .ref (g 2), .int (nI td), .int (nI qd)])), ((g 1), .inr (0, [.ref (g 3), .long wk.at, .long wk.en, .int wk.ch, .long wk.sa, .int wk.le])), ((g 2), .inl (cI, 4, .inl (fun z9 => nI (pol z9)))), ((g 3), .inr (3, [.ref (g 4), .ref (g 5), .ref (g 6), .ref (g 7), .ref (g 8), .ref (g 9), .ref (g 10), .ref (g 11), .ref (g 12), .int (nI X.n)])), ((g 4), .inl (cI, 200, .inl (fun z9 => nI (va_up X.pre r (X.pre r &&& (X.pre r ^^^ 2 ^ (32 - X.len r))) z9)))), ((g 5), .inl (cI, 200, .inl (fun z9 => nI (X.len z9)))), ((g 6), .inl (cI, 200, .inl (fun z9 => pI (X.par z9)))), ((g 7), .inl (cI, 200, .inl (fun z9 => nI (X.lev z9)))), ((g 8), .inl (cI, 200, .inl (fun z9 => nI (X.hol z9)))), ((g 9), .inl (cI, 200, .inl (fun z9 => nI (X.sta z9)))), ((g 10), .inl (cI, 200, .inl (fun z9 => nI (X.en z9)))), ((g 11), .inl (cI, 200, .inl (fun z9 => pI (X.fc z9)))), ((g 12), .inl (cI, 200, .inl (fun z9 => pI (X.nx z9))))] H := hP
  replace hD : va_D A [((g 0), .inr (2, [.ref (g 3), .ref (g 1), .ref (g 2), .int (nI td), .int (nI qd)])), ((g 1), .inr (0, [.ref (g 3), .long wk.at, .long wk.en, .int wk.ch, .long wk.sa, .int wk.le])), ((g 2), .inl (cI, 4, .inl (fun z9 => nI (pol z9)))), ((g 3), .inr (3, [.ref (g 4), .ref (g 5), .ref (g 6), .ref (g 7), .ref (g 8), .ref (g 9), .ref (g 10), .ref (g 11), .ref (g 12), .int (nI X.n)])), ((g 4), .inl (cI, 200, .inl (fun z9 => nI (va_up X.pre r (X.pre r &&& (X.pre r ^^^ 2 ^ (32 - X.len r))) z9)))), ((g 5), .inl (cI, 200, .inl (fun z9 => nI (X.len z9)))), ((g 6), .inl (cI, 200, .inl (fun z9 => pI (X.par z9)))), ((g 7), .inl (cI, 200, .inl (fun z9 => nI (X.lev z9)))), ((g 8), .inl (cI, 200, .inl (fun z9 => nI (X.hol z9)))), ((g 9), .inl (cI, 200, .inl (fun z9 => nI (X.sta z9)))), ((g 10), .inl (cI, 200, .inl (fun z9 => nI (X.en z9)))), ((g 11), .inl (cI, 200, .inl (fun z9 => pI (X.fc z9)))), ((g 12), .inl (cI, 200, .inl (fun z9 => pI (X.nx z9))))] := hD
  refine lv_aload_n hx hb d_Le_doubled_34 rfl (lv_at hl 1 rfl) ?_
  refine va_get (D := (dC, dI)) (ci := 2) (v := .ref (g 3)) (C := R_Le) (T := F_Le) (N := 5) hx hb hts u_Le hown hK hP 0 rfl rfl 0 (by decide) (hts _ kw_112) (fun _ h9 => h9) rfl d_Le_doubled_35 ?_
  refine va_getN (D := (dC, dI)) (ci := 3) (v := .ref (g 5)) (C := R_Re) (T := F_Re) (N := 10) hx hb hts u_Re hown hK hP 3 rfl rfl 1 (by decide) (va_Nw.use rfl (hN.at 40 nw_40 rfl)) (fun _ h9 => h9) rfl d_Le_doubled_38 ?_
  refine lv_iload_n hx hb d_Le_doubled_41 rfl (lv_at hl 2 rfl) ?_
  refine lv_dup2_11 hx hb d_Le_doubled_42 rfl rfl ?_
  refine x_iald (j := r) (v := (nI (X.len r))) hx hb hK hP 5 0 rfl rfl hr0 (by decide) rfl rfl d_Le_doubled_43 ?_
  refine lv_iconst (v := 1) hx hb d_Le_doubled_44 (by decide) ?_
  refine lv_isub hx hb d_Le_doubled_45 ?_
  refine x_topi (y := (nI (X.len r - 1))) (pk_sub (b := 1) h1) ?_
  refine x_iast (j := r) (g := (fun z9 => nI (va_up X.len r (X.len r - 1) z9))) hx hb hK hP hD hS 5 0 rfl rfl hr0 (by decide) rfl (up_nI _ _ (X.len r - 1)) rfl d_Le_doubled_46 (fun H locs hP hD hS => ?_)
  replace hP : va_P (dC, dI) classes [((g 0), .inr (2, [.ref (g 3), .ref (g 1), .ref (g 2), .int (nI td), .int (nI qd)])), ((g 1), .inr (0, [.ref (g 3), .long wk.at, .long wk.en, .int wk.ch, .long wk.sa, .int wk.le])), ((g 2), .inl (cI, 4, .inl (fun z9 => nI (pol z9)))), ((g 3), .inr (3, [.ref (g 4), .ref (g 5), .ref (g 6), .ref (g 7), .ref (g 8), .ref (g 9), .ref (g 10), .ref (g 11), .ref (g 12), .int (nI X.n)])), ((g 4), .inl (cI, 200, .inl (fun z9 => nI (va_up X.pre r (X.pre r &&& (X.pre r ^^^ 2 ^ (32 - X.len r))) z9)))), ((g 5), .inl (cI, 200, .inl (fun z9 => nI (va_up X.len r (X.len r - 1) z9)))), ((g 6), .inl (cI, 200, .inl (fun z9 => pI (X.par z9)))), ((g 7), .inl (cI, 200, .inl (fun z9 => nI (X.lev z9)))), ((g 8), .inl (cI, 200, .inl (fun z9 => nI (X.hol z9)))), ((g 9), .inl (cI, 200, .inl (fun z9 => nI (X.sta z9)))), ((g 10), .inl (cI, 200, .inl (fun z9 => nI (X.en z9)))), ((g 11), .inl (cI, 200, .inl (fun z9 => pI (X.fc z9)))), ((g 12), .inl (cI, 200, .inl (fun z9 => pI (X.nx z9))))] H := hP
  replace hD : va_D A [((g 0), .inr (2, [.ref (g 3), .ref (g 1), .ref (g 2), .int (nI td), .int (nI qd)])), ((g 1), .inr (0, [.ref (g 3), .long wk.at, .long wk.en, .int wk.ch, .long wk.sa, .int wk.le])), ((g 2), .inl (cI, 4, .inl (fun z9 => nI (pol z9)))), ((g 3), .inr (3, [.ref (g 4), .ref (g 5), .ref (g 6), .ref (g 7), .ref (g 8), .ref (g 9), .ref (g 10), .ref (g 11), .ref (g 12), .int (nI X.n)])), ((g 4), .inl (cI, 200, .inl (fun z9 => nI (va_up X.pre r (X.pre r &&& (X.pre r ^^^ 2 ^ (32 - X.len r))) z9)))), ((g 5), .inl (cI, 200, .inl (fun z9 => nI (va_up X.len r (X.len r - 1) z9)))), ((g 6), .inl (cI, 200, .inl (fun z9 => pI (X.par z9)))), ((g 7), .inl (cI, 200, .inl (fun z9 => nI (X.lev z9)))), ((g 8), .inl (cI, 200, .inl (fun z9 => nI (X.hol z9)))), ((g 9), .inl (cI, 200, .inl (fun z9 => nI (X.sta z9)))), ((g 10), .inl (cI, 200, .inl (fun z9 => nI (X.en z9)))), ((g 11), .inl (cI, 200, .inl (fun z9 => pI (X.fc z9)))), ((g 12), .inl (cI, 200, .inl (fun z9 => pI (X.nx z9))))] := hD
  refine lv_aload_n hx hb d_Le_doubled_47 rfl (lv_at hl 1 rfl) ?_
  refine va_get (D := (dC, dI)) (ci := 2) (v := .ref (g 3)) (C := R_Le) (T := F_Le) (N := 5) hx hb hts u_Le hown hK hP 0 rfl rfl 0 (by decide) (hts _ kw_112) (fun _ h9 => h9) rfl d_Le_doubled_48 ?_
  refine va_getN (D := (dC, dI)) (ci := 3) (v := .ref (g 5)) (C := R_Re) (T := F_Re) (N := 10) hx hb hts u_Re hown hK hP 3 rfl rfl 1 (by decide) (va_Nw.use rfl (hN.at 40 nw_40 rfl)) (fun _ h9 => h9) rfl d_Le_doubled_51 ?_
  refine lv_iload_n hx hb d_Le_doubled_54 rfl (lv_at hl 2 rfl) ?_
  refine x_iald (j := r) (v := (nI (va_up X.len r (X.len r - 1) r))) hx hb hK hP 5 0 rfl rfl hr0 (by decide) rfl rfl d_Le_doubled_55 ?_
  have hP9 : va_P (dC, dI) classes (wLe cI g (rDbl X r) pol td qd wk) H := hP
  have hD9 : va_D A (wLe cI g (rDbl X r) pol td qd wk) := hD
  exact W.iret (v := (nI (va_up X.len r (X.len r - 1) r))) hx hb hr (fun t ht hW => ⟨⟨(nI (va_up X.len r (X.len r - 1) r)), (), rfl, (by unfold va_up; rw [if_pos rfl]), by rw [ht]; exact hP9, va_K.moved hW.alike hK, hD9⟩, hS.F ht⟩) hS.2.2 d_Le_doubled_56
set_option maxHeartbeats 4000000 in
set_option maxRecDepth 100000 in
theorem c_Le_halved (l : Launch) (dC : Nat → ClassId) (dI : Nat → Nat → Nat) (sz : Nat) (cI : ClassId) (g : Nat → Nat) (X : RS) (pol : Nat → Nat) (td qd : Nat) (wk : WK) (hX : RSok X) (r : Nat) (hr0 : r < 200) (hl33 : X.len r + 1 < 33) (u : Bool) : Met l y_Le_halved (.code y_Le_halved b_Le_halved 3 (some .int) :: wG) ({ frames := 3, cells := 0, slots := 0, locals := 64 }) (PcM (dC, dI) [(cI, .int)] (wLe cI g X pol td qd wk) [.ref (g 0), .int (nI r), .int (bi u)] sz) (QmI (dC, dI) [(cI, .int)] (wLe cI g X pol td qd wk) (wLe cI g (rHlv X r u) pol td qd wk) sz (nI (X.len r + 1))) 0 0 (va_A (wLe cI g X pol td qd wk) sz) := by
  refine Met.ofW (cc := b_Le_halved) (maxL := 3) (ret := (some .int)) (by decide) rfl ?_
  intro pg eg s mg ag bg meth cg s₁ B hml hv
  obtain ⟨rfl, hsz, hP, hK, hD0, hN⟩ := hv
  have hx := B.exec
  have hb := B.bytes
  have hr := B.returns
  have hlocks := B.notSynchronized
  have hts : ∀ w9 ∈ wG, w9.before ([.ref (g 0), .int (nI r), .int (bi u)] : List Value).toArray s = true := fun w9 h9 => atoms_spec (ws := (.code y_Le_halved b_Le_halved 3 (some .int) :: wG)) B.pre w9 (List.mem_cons_of_mem _ h9)
  have hown : s.vm.findClass "PrefixRegistry$Ledger" = some mg.cls := findClass_of_methodNamed B.named
  subst hsz
  have hD := hD0.self (sz := s.heap.size)
  unfold QmI
  generalize hAe : va_A (wLe cI g X pol td qd wk) s.heap.size = A at hD ⊢
  have hA : ∀ q : Nat, s.heap.size ≤ q → A q := fun q h => by rw [← hAe]; exact Or.inr h
  have hS : va_S A s.heap s.heap [] := va_S.rf
  have hl := lv_entry ([.ref (g 0), .int (nI r), .int (bi u)]) (n := 3) (Nat.le_of_ble_eq_true rfl)
  rw [lg_entry_eq]
  generalize (lg_sl ([.ref (g 0), .int (nI r), .int (bi u)]) ++ List.replicate (3 - (lg_sl ([.ref (g 0), .int (nI r), .int (bi u)])).length) Slot.unset).toArray = ls at hl ⊢
  replace hl : lv_has ls 3 [(0, .ref (g 0)), (1, .int (nI r)), (2, .int (bi u))] := hl
  replace hP : va_P (dC, dI) classes (wLe cI g X pol td qd wk) s.heap := hP
  replace hD : va_D A (wLe cI g X pol td qd wk) := hD
  refine lv_aload_n hx hb d_Le_halved_0 rfl (lv_at hl 0 rfl) ?_
  refine va_get (D := (dC, dI)) (ci := 2) (v := .ref (g 3)) (C := R_Le) (T := F_Le) (N := 5) hx hb hts u_Le hown hK hP 0 rfl rfl 0 (by decide) (hts _ kw_112) (fun _ h9 => h9) rfl d_Le_halved_1 ?_
  refine va_getN (D := (dC, dI)) (ci := 3) (v := .ref (g 4)) (C := R_Re) (T := F_Re) (N := 10) hx hb hts u_Re hown hK hP 3 rfl rfl 0 (by decide) (va_Nw.use rfl (hN.at 38 nw_38 rfl)) (fun _ h9 => h9) rfl d_Le_halved_4 ?_
  refine lv_iload_n hx hb d_Le_halved_7 rfl (lv_at hl 1 rfl) ?_
  refine lv_aload_n hx hb d_Le_halved_8 rfl (lv_at hl 0 rfl) ?_
  refine lv_iload_n hx hb d_Le_halved_9 rfl (lv_at hl 1 rfl) ?_
  refine lv_iload_n hx hb d_Le_halved_10 rfl (lv_at hl 2 rfl) ?_
  refine vp_callSi (W.runV (b := (g 0)) (As := [.int (nI r), .int (bi u)]) (rest := [.int (nI r), .ref (g 4)]) ⟨hx, hb, hml, hown, hts⟩ (c_Le_halfOf l dC dI cI g X hX pol td qd wk r hr0 hl33 u) (cwV 2 hts (gV kw_429 kw_431 ks_11 kw_2 kw_432) rfl rfl rfl (by decide +kernel) ⟨Nat.le_of_ble_eq_true rfl, Nat.le_of_ble_eq_true rfl⟩) ⟨PcS.blind, va_recv (q0 := 0) hK hP rfl rfl, PcS.use hP hK hN⟩ rfl rfl hl.1 rfl (lv_room (Nat.le_of_ble_eq_true rfl)) d_Le_halved_11 ⟨Nat.zero_le _, Nat.zero_le _⟩) (fun r11 hr11 => ?_)
  obtain rfl : r11 = nI (hafN X r u) := hr11
  refine x_iast (j := r) (g := (fun z9 => nI (va_up X.pre r (hafN X r u) z9))) hx hb hK hP hD hS 4 0 rfl rfl hr0 (by decide) rfl (up_nI _ _ (hafN X r u)) rfl d_Le_halved_14 (fun H locs hP hD hS => ?_)
  replace hP : va_P (dC, dI) classes [((g 0), .inr (2, [.ref (g 3), .ref (g 1), .ref (g 2), .int (nI td), .int (nI qd)])), ((g 1), .inr (0, [.ref (g 3), .long wk.at, .long wk.en, .int wk.ch, .long wk.sa, .int wk.le])), ((g 2), .inl (cI, 4, .inl (fun z9 => nI (pol z9)))), ((g 3), .inr (3, [.ref (g 4), .ref (g 5), .ref (g 6), .ref (g 7), .ref (g 8), .ref (g 9), .ref (g 10), .ref (g 11), .ref (g 12), .int (nI X.n)])), ((g 4), .inl (cI, 200, .inl (fun z9 => nI (va_up X.pre r (hafN X r u) z9)))), ((g 5), .inl (cI, 200, .inl (fun z9 => nI (X.len z9)))), ((g 6), .inl (cI, 200, .inl (fun z9 => pI (X.par z9)))), ((g 7), .inl (cI, 200, .inl (fun z9 => nI (X.lev z9)))), ((g 8), .inl (cI, 200, .inl (fun z9 => nI (X.hol z9)))), ((g 9), .inl (cI, 200, .inl (fun z9 => nI (X.sta z9)))), ((g 10), .inl (cI, 200, .inl (fun z9 => nI (X.en z9)))), ((g 11), .inl (cI, 200, .inl (fun z9 => pI (X.fc z9)))), ((g 12), .inl (cI, 200, .inl (fun z9 => pI (X.nx z9))))] H := hP
  replace hD : va_D A [((g 0), .inr (2, [.ref (g 3), .ref (g 1), .ref (g 2), .int (nI td), .int (nI qd)])), ((g 1), .inr (0, [.ref (g 3), .long wk.at, .long wk.en, .int wk.ch, .long wk.sa, .int wk.le])), ((g 2), .inl (cI, 4, .inl (fun z9 => nI (pol z9)))), ((g 3), .inr (3, [.ref (g 4), .ref (g 5), .ref (g 6), .ref (g 7), .ref (g 8), .ref (g 9), .ref (g 10), .ref (g 11), .ref (g 12), .int (nI X.n)])), ((g 4), .inl (cI, 200, .inl (fun z9 => nI (va_up X.pre r (hafN X r u) z9)))), ((g 5), .inl (cI, 200, .inl (fun z9 => nI (X.len z9)))), ((g 6), .inl (cI, 200, .inl (fun z9 => pI (X.par z9)))), ((g 7), .inl (cI, 200, .inl (fun z9 => nI (X.lev z9)))), ((g 8), .inl (cI, 200, .inl (fun z9 => nI (X.hol z9)))), ((g 9), .inl (cI, 200, .inl (fun z9 => nI (X.sta z9)))), ((g 10), .inl (cI, 200, .inl (fun z9 => nI (X.en z9)))), ((g 11), .inl (cI, 200, .inl (fun z9 => pI (X.fc z9)))), ((g 12), .inl (cI, 200, .inl (fun z9 => pI (X.nx z9))))] := hD
  refine lv_aload_n hx hb d_Le_halved_15 rfl (lv_at hl 0 rfl) ?_
  refine va_get (D := (dC, dI)) (ci := 2) (v := .ref (g 3)) (C := R_Le) (T := F_Le) (N := 5) hx hb hts u_Le hown hK hP 0 rfl rfl 0 (by decide) (hts _ kw_112) (fun _ h9 => h9) rfl d_Le_halved_16 ?_
  refine va_getN (D := (dC, dI)) (ci := 3) (v := .ref (g 5)) (C := R_Re) (T := F_Re) (N := 10) hx hb hts u_Re hown hK hP 3 rfl rfl 1 (by decide) (va_Nw.use rfl (hN.at 40 nw_40 rfl)) (fun _ h9 => h9) rfl d_Le_halved_19 ?_
  refine lv_iload_n hx hb d_Le_halved_22 rfl (lv_at hl 1 rfl) ?_
  refine lv_dup2_11 hx hb d_Le_halved_23 rfl rfl ?_
  refine x_iald (j := r) (v := (nI (X.len r))) hx hb hK hP 5 0 rfl rfl hr0 (by decide) rfl rfl d_Le_halved_24 ?_
  refine lv_iconst (v := 1) hx hb d_Le_halved_25 (by decide) ?_
  refine lv_iadd hx hb d_Le_halved_26 ?_
  refine x_topi (y := (nI (X.len r + 1))) (nI_1 _) ?_
  refine x_iast (j := r) (g := (fun z9 => nI (va_up X.len r (X.len r + 1) z9))) hx hb hK hP hD hS 5 0 rfl rfl hr0 (by decide) rfl (up_nI _ _ (X.len r + 1)) rfl d_Le_halved_27 (fun H locs hP hD hS => ?_)
  replace hP : va_P (dC, dI) classes [((g 0), .inr (2, [.ref (g 3), .ref (g 1), .ref (g 2), .int (nI td), .int (nI qd)])), ((g 1), .inr (0, [.ref (g 3), .long wk.at, .long wk.en, .int wk.ch, .long wk.sa, .int wk.le])), ((g 2), .inl (cI, 4, .inl (fun z9 => nI (pol z9)))), ((g 3), .inr (3, [.ref (g 4), .ref (g 5), .ref (g 6), .ref (g 7), .ref (g 8), .ref (g 9), .ref (g 10), .ref (g 11), .ref (g 12), .int (nI X.n)])), ((g 4), .inl (cI, 200, .inl (fun z9 => nI (va_up X.pre r (hafN X r u) z9)))), ((g 5), .inl (cI, 200, .inl (fun z9 => nI (va_up X.len r (X.len r + 1) z9)))), ((g 6), .inl (cI, 200, .inl (fun z9 => pI (X.par z9)))), ((g 7), .inl (cI, 200, .inl (fun z9 => nI (X.lev z9)))), ((g 8), .inl (cI, 200, .inl (fun z9 => nI (X.hol z9)))), ((g 9), .inl (cI, 200, .inl (fun z9 => nI (X.sta z9)))), ((g 10), .inl (cI, 200, .inl (fun z9 => nI (X.en z9)))), ((g 11), .inl (cI, 200, .inl (fun z9 => pI (X.fc z9)))), ((g 12), .inl (cI, 200, .inl (fun z9 => pI (X.nx z9))))] H := hP
  replace hD : va_D A [((g 0), .inr (2, [.ref (g 3), .ref (g 1), .ref (g 2), .int (nI td), .int (nI qd)])), ((g 1), .inr (0, [.ref (g 3), .long wk.at, .long wk.en, .int wk.ch, .long wk.sa, .int wk.le])), ((g 2), .inl (cI, 4, .inl (fun z9 => nI (pol z9)))), ((g 3), .inr (3, [.ref (g 4), .ref (g 5), .ref (g 6), .ref (g 7), .ref (g 8), .ref (g 9), .ref (g 10), .ref (g 11), .ref (g 12), .int (nI X.n)])), ((g 4), .inl (cI, 200, .inl (fun z9 => nI (va_up X.pre r (hafN X r u) z9)))), ((g 5), .inl (cI, 200, .inl (fun z9 => nI (va_up X.len r (X.len r + 1) z9)))), ((g 6), .inl (cI, 200, .inl (fun z9 => pI (X.par z9)))), ((g 7), .inl (cI, 200, .inl (fun z9 => nI (X.lev z9)))), ((g 8), .inl (cI, 200, .inl (fun z9 => nI (X.hol z9)))), ((g 9), .inl (cI, 200, .inl (fun z9 => nI (X.sta z9)))), ((g 10), .inl (cI, 200, .inl (fun z9 => nI (X.en z9)))), ((g 11), .inl (cI, 200, .inl (fun z9 => pI (X.fc z9)))), ((g 12), .inl (cI, 200, .inl (fun z9 => pI (X.nx z9))))] := hD
  refine lv_aload_n hx hb d_Le_halved_28 rfl (lv_at hl 0 rfl) ?_
  refine va_get (D := (dC, dI)) (ci := 2) (v := .ref (g 3)) (C := R_Le) (T := F_Le) (N := 5) hx hb hts u_Le hown hK hP 0 rfl rfl 0 (by decide) (hts _ kw_112) (fun _ h9 => h9) rfl d_Le_halved_29 ?_
  refine va_getN (D := (dC, dI)) (ci := 3) (v := .ref (g 5)) (C := R_Re) (T := F_Re) (N := 10) hx hb hts u_Re hown hK hP 3 rfl rfl 1 (by decide) (va_Nw.use rfl (hN.at 40 nw_40 rfl)) (fun _ h9 => h9) rfl d_Le_halved_32 ?_
  refine lv_iload_n hx hb d_Le_halved_35 rfl (lv_at hl 1 rfl) ?_
  refine x_iald (j := r) (v := (nI (va_up X.len r (X.len r + 1) r))) hx hb hK hP 5 0 rfl rfl hr0 (by decide) rfl rfl d_Le_halved_36 ?_
  have hP9 : va_P (dC, dI) classes (wLe cI g (rHlv X r u) pol td qd wk) H := hP
  have hD9 : va_D A (wLe cI g (rHlv X r u) pol td qd wk) := hD
  exact W.iret (v := (nI (va_up X.len r (X.len r + 1) r))) hx hb hr (fun t ht hW => ⟨⟨(nI (va_up X.len r (X.len r + 1) r)), (), rfl, (by unfold va_up; rw [if_pos rfl]), by rw [ht]; exact hP9, va_K.moved hW.alike hK, hD9⟩, hS.F ht⟩) hS.2.2 d_Le_halved_37
set_option maxHeartbeats 4000000 in
set_option maxRecDepth 100000 in
theorem c_Le_takeBack (l : Launch) (dC : Nat → ClassId) (dI : Nat → Nat → Nat) (sz : Nat) (cI : ClassId) (g : Nat → Nat) (X : RS) (pol : Nat → Nat) (td qd : Nat) (wk : WK) (hX : RSok X) (htd : td ≤ 100000 ∧ qd ≤ 1000) (r : Nat) (hr0 : r < 200) (L : List Nat) (hC : ∀ p, X.par r = some p → p < 200 ∧ chn X.nx (X.fc p) L) (hL : L.length ≤ 200) : Met l y_Le_takeBack (.code y_Le_takeBack b_Le_takeBack 2 (some .int) :: wG) ({ frames := 3, cells := 0, slots := 0, locals := 68 }) (PcM (dC, dI) [(cI, .int)] (wLe cI g X pol td qd wk) [.ref (g 0), .int (nI r)] sz) (QmI (dC, dI) [(cI, .int)] (wLe cI g X pol td qd wk) (wLe cI g (rBack X r td qd L) pol td qd wk) sz (nI (td + qd))) 0 0 (va_A (wLe cI g X pol td qd wk) sz) := by
  refine Met.ofW (cc := b_Le_takeBack) (maxL := 2) (ret := (some .int)) (by decide) rfl ?_
  intro pg eg s mg ag bg meth cg s₁ B hml hv
  obtain ⟨rfl, hsz, hP, hK, hD0, hN⟩ := hv
  have hx := B.exec
  have hb := B.bytes
  have hr := B.returns
  have hlocks := B.notSynchronized
  have hts : ∀ w9 ∈ wG, w9.before ([.ref (g 0), .int (nI r)] : List Value).toArray s = true := fun w9 h9 => atoms_spec (ws := (.code y_Le_takeBack b_Le_takeBack 2 (some .int) :: wG)) B.pre w9 (List.mem_cons_of_mem _ h9)
  have hown : s.vm.findClass "PrefixRegistry$Ledger" = some mg.cls := findClass_of_methodNamed B.named
  subst hsz
  have hD := hD0.self (sz := s.heap.size)
  unfold QmI
  generalize hAe : va_A (wLe cI g X pol td qd wk) s.heap.size = A at hD ⊢
  have hA : ∀ q : Nat, s.heap.size ≤ q → A q := fun q h => by rw [← hAe]; exact Or.inr h
  have hS : va_S A s.heap s.heap [] := va_S.rf
  have hl := lv_entry ([.ref (g 0), .int (nI r)]) (n := 2) (Nat.le_of_ble_eq_true rfl)
  rw [lg_entry_eq]
  generalize (lg_sl ([.ref (g 0), .int (nI r)]) ++ List.replicate (2 - (lg_sl ([.ref (g 0), .int (nI r)])).length) Slot.unset).toArray = ls at hl ⊢
  replace hl : lv_has ls 2 [(0, .ref (g 0)), (1, .int (nI r))] := hl
  replace hP : va_P (dC, dI) classes (wLe cI g X pol td qd wk) s.heap := hP
  replace hD : va_D A (wLe cI g X pol td qd wk) := hD
  refine lv_aload_n hx hb d_Le_takeBack_0 rfl (lv_at hl 0 rfl) ?_
  refine va_get (D := (dC, dI)) (ci := 2) (v := .ref (g 3)) (C := R_Le) (T := F_Le) (N := 5) hx hb hts u_Le hown hK hP 0 rfl rfl 0 (by decide) (hts _ kw_112) (fun _ h9 => h9) rfl d_Le_takeBack_1 ?_
  refine va_getN (D := (dC, dI)) (ci := 3) (v := .ref (g 10)) (C := R_Re) (T := F_Re) (N := 10) hx hb hts u_Re hown hK hP 3 rfl rfl 6 (by decide) (va_Nw.use rfl (hN.at 51 nw_51 rfl)) (fun _ h9 => h9) rfl d_Le_takeBack_4 ?_
  refine lv_iload_n hx hb d_Le_takeBack_7 rfl (lv_at hl 1 rfl) ?_
  refine lv_aload_n hx hb d_Le_takeBack_8 rfl (lv_at hl 0 rfl) ?_
  refine va_get (D := (dC, dI)) (ci := 2) (v := .int (nI td)) (C := R_Le) (T := F_Le) (N := 5) hx hb hts u_Le hown hK hP 0 rfl rfl 3 (by decide) (hts _ kw_117) (fun _ h9 => h9) rfl d_Le_takeBack_9 ?_
  refine lv_aload_n hx hb d_Le_takeBack_12 rfl (lv_at hl 0 rfl) ?_
  refine va_get (D := (dC, dI)) (ci := 2) (v := .int (nI qd)) (C := R_Le) (T := F_Le) (N := 5) hx hb hts u_Le hown hK hP 0 rfl rfl 4 (by decide) (hts _ kw_119) (fun _ h9 => h9) rfl d_Le_takeBack_13 ?_
  refine lv_iadd hx hb d_Le_takeBack_16 ?_
  refine x_topi (y := (nI (td + qd))) (nI_add _ _) ?_
  refine x_iast (j := r) (g := (fun z9 => nI (va_up X.en r (td + qd) z9))) hx hb hK hP hD hS 10 0 rfl rfl hr0 (by decide) rfl (up_nI _ _ (td + qd)) rfl d_Le_takeBack_17 (fun H locs hP hD hS => ?_)
  replace hP : va_P (dC, dI) classes [((g 0), .inr (2, [.ref (g 3), .ref (g 1), .ref (g 2), .int (nI td), .int (nI qd)])), ((g 1), .inr (0, [.ref (g 3), .long wk.at, .long wk.en, .int wk.ch, .long wk.sa, .int wk.le])), ((g 2), .inl (cI, 4, .inl (fun z9 => nI (pol z9)))), ((g 3), .inr (3, [.ref (g 4), .ref (g 5), .ref (g 6), .ref (g 7), .ref (g 8), .ref (g 9), .ref (g 10), .ref (g 11), .ref (g 12), .int (nI X.n)])), ((g 4), .inl (cI, 200, .inl (fun z9 => nI (X.pre z9)))), ((g 5), .inl (cI, 200, .inl (fun z9 => nI (X.len z9)))), ((g 6), .inl (cI, 200, .inl (fun z9 => pI (X.par z9)))), ((g 7), .inl (cI, 200, .inl (fun z9 => nI (X.lev z9)))), ((g 8), .inl (cI, 200, .inl (fun z9 => nI (X.hol z9)))), ((g 9), .inl (cI, 200, .inl (fun z9 => nI (X.sta z9)))), ((g 10), .inl (cI, 200, .inl (fun z9 => nI (va_up X.en r (td + qd) z9)))), ((g 11), .inl (cI, 200, .inl (fun z9 => pI (X.fc z9)))), ((g 12), .inl (cI, 200, .inl (fun z9 => pI (X.nx z9))))] H := hP
  replace hD : va_D A [((g 0), .inr (2, [.ref (g 3), .ref (g 1), .ref (g 2), .int (nI td), .int (nI qd)])), ((g 1), .inr (0, [.ref (g 3), .long wk.at, .long wk.en, .int wk.ch, .long wk.sa, .int wk.le])), ((g 2), .inl (cI, 4, .inl (fun z9 => nI (pol z9)))), ((g 3), .inr (3, [.ref (g 4), .ref (g 5), .ref (g 6), .ref (g 7), .ref (g 8), .ref (g 9), .ref (g 10), .ref (g 11), .ref (g 12), .int (nI X.n)])), ((g 4), .inl (cI, 200, .inl (fun z9 => nI (X.pre z9)))), ((g 5), .inl (cI, 200, .inl (fun z9 => nI (X.len z9)))), ((g 6), .inl (cI, 200, .inl (fun z9 => pI (X.par z9)))), ((g 7), .inl (cI, 200, .inl (fun z9 => nI (X.lev z9)))), ((g 8), .inl (cI, 200, .inl (fun z9 => nI (X.hol z9)))), ((g 9), .inl (cI, 200, .inl (fun z9 => nI (X.sta z9)))), ((g 10), .inl (cI, 200, .inl (fun z9 => nI (va_up X.en r (td + qd) z9)))), ((g 11), .inl (cI, 200, .inl (fun z9 => pI (X.fc z9)))), ((g 12), .inl (cI, 200, .inl (fun z9 => pI (X.nx z9))))] := hD
  refine lv_aload_n hx hb d_Le_takeBack_18 rfl (lv_at hl 0 rfl) ?_
  refine va_get (D := (dC, dI)) (ci := 2) (v := .int (nI qd)) (C := R_Le) (T := F_Le) (N := 5) hx hb hts u_Le hown hK hP 0 rfl rfl 4 (by decide) (hts _ kw_119) (fun _ h9 => h9) rfl d_Le_takeBack_19 ?_
  refine lv_if_le hx hb d_Le_takeBack_22 rfl (fun h22 => ?_) (fun h22 => ?_)
  · have h22 := (nI_leI (b := 0) (by omega) (by decide)).mp h22
    refine lv_aload_n hx hb d_Le_takeBack_38 rfl (lv_at hl 0 rfl) ?_
    refine va_get (D := (dC, dI)) (ci := 2) (v := .ref (g 3)) (C := R_Le) (T := F_Le) (N := 5) hx hb hts u_Le hown hK hP 0 rfl rfl 0 (by decide) (hts _ kw_112) (fun _ h9 => h9) rfl d_Le_takeBack_39 ?_
    refine lv_iload_n hx hb d_Le_takeBack_42 rfl (lv_at hl 1 rfl) ?_
    have hPc := hP.sub (ws' := (wRe cI (g 3) (fun k => g (4 + k)) (rEn X r (td + qd)))) [3, 4, 5, 6, 7, 8, 9, 10, 11, 12] rfl
    have hDc := hD.sub (ws' := (wRe cI (g 3) (fun k => g (4 + k)) (rEn X r (td + qd)))) [3, 4, 5, 6, 7, 8, 9, 10, 11, 12] (by decide) rfl
    have hFc := va_free (wc := (wRe cI (g 3) (fun k => g (4 + k)) (rEn X r (td + qd)))) hD hS hA [3, 4, 5, 6, 7, 8, 9, 10, 11, 12] rfl
    refine va_callv (va_runV (b := (g 3)) (As := [.int (nI r)]) (rest := []) ⟨hx, hb, hml, hown, hts⟩ (c_Re_markReturned l dC dI H.size cI (g 3) (fun k => g (4 + k)) (rEn X r (td + qd)) (RSok.enU hX (by omega)) r hr0 L hC hL) (cwV 1 hts (gV kw_409 kw_410 kw_411 kw_3 kw_412) rfl rfl rfl (by decide +kernel) ⟨Nat.le_of_ble_eq_true rfl, Nat.le_of_ble_eq_true rfl⟩) ⟨PcM.blind, va_recv (q0 := 0) hK hPc rfl rfl, PcM.use hPc hK hN hDc⟩ rfl rfl hl.1 rfl (lv_room (Nat.le_of_ble_eq_true rfl)) d_Le_takeBack_43 ⟨Nat.le_of_ble_eq_true rfl, Nat.le_of_ble_eq_true rfl⟩) hS (fun q _ h => hFc q h) hFc (fun u9 H9 H1 locs hH9 hv9 hp9 hB hz1 hk1 hS => ?_)
    obtain ⟨hP1, hK1, hD1⟩ := hB
    rw [hH9] at hP1
    obtain ⟨hP, hD⟩ := va_join (wr := [((g 0), .inr (2, [.ref (g 3), .ref (g 1), .ref (g 2), .int (nI td), .int (nI qd)])), ((g 1), .inr (0, [.ref (g 3), .long wk.at, .long wk.en, .int wk.ch, .long wk.sa, .int wk.le])), ((g 2), .inl (cI, 4, .inl (fun z9 => nI (pol z9))))]) (w1 := (wRe cI (g 3) (fun k => g (4 + k)) (rRet (rEn X r (td + qd)) r L))) hP hD [3, 4, 5, 6, 7, 8, 9, 10, 11, 12] [0, 1, 2] rfl rfl (by decide) (by decide) hk1 hFc hP1 hD1
    clear hPc hDc hFc hP1 hD1 hK1 hk1 hz1 hv9 hH9
    generalize H1 = H at hP hS ⊢
    replace hP : va_P (dC, dI) classes [((g 0), .inr (2, [.ref (g 3), .ref (g 1), .ref (g 2), .int (nI td), .int (nI qd)])), ((g 1), .inr (0, [.ref (g 3), .long wk.at, .long wk.en, .int wk.ch, .long wk.sa, .int wk.le])), ((g 2), .inl (cI, 4, .inl (fun z9 => nI (pol z9)))), ((g 3), .inr (3, [.ref (g 4), .ref (g 5), .ref (g 6), .ref (g 7), .ref (g 8), .ref (g 9), .ref (g 10), .ref (g 11), .ref (g 12), .int (nI (rRet (rEn X r (td + qd)) r L).n)])), ((g 4), .inl (cI, 200, .inl (fun z9 => nI ((rRet (rEn X r (td + qd)) r L).pre z9)))), ((g 5), .inl (cI, 200, .inl (fun z9 => nI ((rRet (rEn X r (td + qd)) r L).len z9)))), ((g 6), .inl (cI, 200, .inl (fun z9 => pI ((rRet (rEn X r (td + qd)) r L).par z9)))), ((g 7), .inl (cI, 200, .inl (fun z9 => nI ((rRet (rEn X r (td + qd)) r L).lev z9)))), ((g 8), .inl (cI, 200, .inl (fun z9 => nI ((rRet (rEn X r (td + qd)) r L).hol z9)))), ((g 9), .inl (cI, 200, .inl (fun z9 => nI ((rRet (rEn X r (td + qd)) r L).sta z9)))), ((g 10), .inl (cI, 200, .inl (fun z9 => nI ((rRet (rEn X r (td + qd)) r L).en z9)))), ((g 11), .inl (cI, 200, .inl (fun z9 => pI ((rRet (rEn X r (td + qd)) r L).fc z9)))), ((g 12), .inl (cI, 200, .inl (fun z9 => pI ((rRet (rEn X r (td + qd)) r L).nx z9))))] H := hP.sub (ws' := [((g 0), .inr (2, [.ref (g 3), .ref (g 1), .ref (g 2), .int (nI td), .int (nI qd)])), ((g 1), .inr (0, [.ref (g 3), .long wk.at, .long wk.en, .int wk.ch, .long wk.sa, .int wk.le])), ((g 2), .inl (cI, 4, .inl (fun z9 => nI (pol z9)))), ((g 3), .inr (3, [.ref (g 4), .ref (g 5), .ref (g 6), .ref (g 7), .ref (g 8), .ref (g 9), .ref (g 10), .ref (g 11), .ref (g 12), .int (nI (rRet (rEn X r (td + qd)) r L).n)])), ((g 4), .inl (cI, 200, .inl (fun z9 => nI ((rRet (rEn X r (td + qd)) r L).pre z9)))), ((g 5), .inl (cI, 200, .inl (fun z9 => nI ((rRet (rEn X r (td + qd)) r L).len z9)))), ((g 6), .inl (cI, 200, .inl (fun z9 => pI ((rRet (rEn X r (td + qd)) r L).par z9)))), ((g 7), .inl (cI, 200, .inl (fun z9 => nI ((rRet (rEn X r (td + qd)) r L).lev z9)))), ((g 8), .inl (cI, 200, .inl (fun z9 => nI ((rRet (rEn X r (td + qd)) r L).hol z9)))), ((g 9), .inl (cI, 200, .inl (fun z9 => nI ((rRet (rEn X r (td + qd)) r L).sta z9)))), ((g 10), .inl (cI, 200, .inl (fun z9 => nI ((rRet (rEn X r (td + qd)) r L).en z9)))), ((g 11), .inl (cI, 200, .inl (fun z9 => pI ((rRet (rEn X r (td + qd)) r L).fc z9)))), ((g 12), .inl (cI, 200, .inl (fun z9 => pI ((rRet (rEn X r (td + qd)) r L).nx z9))))]) [0, 1, 2, 3, 4, 5, 6, 7, 8, 9, 10, 11, 12] rfl
    replace hD : va_D A [((g 0), .inr (2, [.ref (g 3), .ref (g 1), .ref (g 2), .int (nI td), .int (nI qd)])), ((g 1), .inr (0, [.ref (g 3), .long wk.at, .long wk.en, .int wk.ch, .long wk.sa, .int wk.le])), ((g 2), .inl (cI, 4, .inl (fun z9 => nI (pol z9)))), ((g 3), .inr (3, [.ref (g 4), .ref (g 5), .ref (g 6), .ref (g 7), .ref (g 8), .ref (g 9), .ref (g 10), .ref (g 11), .ref (g 12), .int (nI (rRet (rEn X r (td + qd)) r L).n)])), ((g 4), .inl (cI, 200, .inl (fun z9 => nI ((rRet (rEn X r (td + qd)) r L).pre z9)))), ((g 5), .inl (cI, 200, .inl (fun z9 => nI ((rRet (rEn X r (td + qd)) r L).len z9)))), ((g 6), .inl (cI, 200, .inl (fun z9 => pI ((rRet (rEn X r (td + qd)) r L).par z9)))), ((g 7), .inl (cI, 200, .inl (fun z9 => nI ((rRet (rEn X r (td + qd)) r L).lev z9)))), ((g 8), .inl (cI, 200, .inl (fun z9 => nI ((rRet (rEn X r (td + qd)) r L).hol z9)))), ((g 9), .inl (cI, 200, .inl (fun z9 => nI ((rRet (rEn X r (td + qd)) r L).sta z9)))), ((g 10), .inl (cI, 200, .inl (fun z9 => nI ((rRet (rEn X r (td + qd)) r L).en z9)))), ((g 11), .inl (cI, 200, .inl (fun z9 => pI ((rRet (rEn X r (td + qd)) r L).fc z9)))), ((g 12), .inl (cI, 200, .inl (fun z9 => pI ((rRet (rEn X r (td + qd)) r L).nx z9))))] := hD.sub (ws' := [((g 0), .inr (2, [.ref (g 3), .ref (g 1), .ref (g 2), .int (nI td), .int (nI qd)])), ((g 1), .inr (0, [.ref (g 3), .long wk.at, .long wk.en, .int wk.ch, .long wk.sa, .int wk.le])), ((g 2), .inl (cI, 4, .inl (fun z9 => nI (pol z9)))), ((g 3), .inr (3, [.ref (g 4), .ref (g 5), .ref (g 6), .ref (g 7), .ref (g 8), .ref (g 9), .ref (g 10), .ref (g 11), .ref (g 12), .int (nI (rRet (rEn X r (td + qd)) r L).n)])), ((g 4), .inl (cI, 200, .inl (fun z9 => nI ((rRet (rEn X r (td + qd)) r L).pre z9)))), ((g 5), .inl (cI, 200, .inl (fun z9 => nI ((rRet (rEn X r (td + qd)) r L).len z9)))), ((g 6), .inl (cI, 200, .inl (fun z9 => pI ((rRet (rEn X r (td + qd)) r L).par z9)))), ((g 7), .inl (cI, 200, .inl (fun z9 => nI ((rRet (rEn X r (td + qd)) r L).lev z9)))), ((g 8), .inl (cI, 200, .inl (fun z9 => nI ((rRet (rEn X r (td + qd)) r L).hol z9)))), ((g 9), .inl (cI, 200, .inl (fun z9 => nI ((rRet (rEn X r (td + qd)) r L).sta z9)))), ((g 10), .inl (cI, 200, .inl (fun z9 => nI ((rRet (rEn X r (td + qd)) r L).en z9)))), ((g 11), .inl (cI, 200, .inl (fun z9 => pI ((rRet (rEn X r (td + qd)) r L).fc z9)))), ((g 12), .inl (cI, 200, .inl (fun z9 => pI ((rRet (rEn X r (td + qd)) r L).nx z9))))]) [0, 1, 2, 3, 4, 5, 6, 7, 8, 9, 10, 11, 12] (by decide) rfl
    refine lv_aload_n hx hb d_Le_takeBack_46 rfl (lv_at hl 0 rfl) ?_
    refine va_get (D := (dC, dI)) (ci := 2) (v := .ref (g 3)) (C := R_Le) (T := F_Le) (N := 5) hx hb hts u_Le hown hK hP 0 rfl rfl 0 (by decide) (hts _ kw_112) (fun _ h9 => h9) rfl d_Le_takeBack_47 ?_
    refine va_getN (D := (dC, dI)) (ci := 3) (v := .ref (g 10)) (C := R_Re) (T := F_Re) (N := 10) hx hb hts u_Re hown hK hP 3 rfl rfl 6 (by decide) (va_Nw.use rfl (hN.at 51 nw_51 rfl)) (fun _ h9 => h9) rfl d_Le_takeBack_50 ?_
    refine lv_iload_n hx hb d_Le_takeBack_53 rfl (lv_at hl 1 rfl) ?_
    refine x_iald (j := r) (v := (nI ((rRet (rEn X r (td + qd)) r L).en r))) hx hb hK hP 10 0 rfl rfl hr0 (by decide) rfl rfl d_Le_takeBack_54 ?_
    have e9 : rBack X r td qd L = rRet (rEn X r (td + qd)) r L := by unfold rBack; rw [if_pos (by omega)]
    have hP9 : va_P (dC, dI) classes (wLe cI g (rBack X r td qd L) pol td qd wk) H := by rw [e9]; exact hP
    have hD9 : va_D A (wLe cI g (rBack X r td qd L) pol td qd wk) := by rw [e9]; exact hD
    exact W.iret (v := (nI ((rRet (rEn X r (td + qd)) r L).en r))) hx hb hr (fun t ht hW => ⟨⟨(nI ((rRet (rEn X r (td + qd)) r L).en r)), (), rfl, (by rw [show (rRet (rEn X r (td + qd)) r L).en = (rEn X r (td + qd)).en from rRet_en _ _ _]; show nI (va_up X.en r (td + qd) r) = _; unfold va_up; rw [if_pos rfl]), by rw [ht]; exact hP9, va_K.moved hW.alike hK, hD9⟩, hS.F ht⟩) hS.2.2 d_Le_takeBack_55
  have h22 := mt (nI_leI (b := 0) (by omega) (by decide)).mpr h22
  refine lv_aload_n hx hb d_Le_takeBack_25 rfl (lv_at hl 0 rfl) ?_
  refine va_get (D := (dC, dI)) (ci := 2) (v := .ref (g 3)) (C := R_Le) (T := F_Le) (N := 5) hx hb hts u_Le hown hK hP 0 rfl rfl 0 (by decide) (hts _ kw_112) (fun _ h9 => h9) rfl d_Le_takeBack_26 ?_
  refine va_getN (D := (dC, dI)) (ci := 3) (v := .ref (g 9)) (C := R_Re) (T := F_Re) (N := 10) hx hb hts u_Re hown hK hP 3 rfl rfl 5 (by decide) (va_Nw.use rfl (hN.at 49 nw_49 rfl)) (fun _ h9 => h9) rfl d_Le_takeBack_29 ?_
  refine lv_iload_n hx hb d_Le_takeBack_32 rfl (lv_at hl 1 rfl) ?_
  refine lv_iconst (v := 3) hx hb d_Le_takeBack_33 (by decide) ?_
  refine x_iast (j := r) (g := (fun z9 => nI (va_up X.sta r 3 z9))) hx hb hK hP hD hS 9 0 rfl rfl hr0 (by decide) rfl (up_nI _ _ 3) rfl d_Le_takeBack_34 (fun H locs hP hD hS => ?_)
  replace hP : va_P (dC, dI) classes [((g 0), .inr (2, [.ref (g 3), .ref (g 1), .ref (g 2), .int (nI td), .int (nI qd)])), ((g 1), .inr (0, [.ref (g 3), .long wk.at, .long wk.en, .int wk.ch, .long wk.sa, .int wk.le])), ((g 2), .inl (cI, 4, .inl (fun z9 => nI (pol z9)))), ((g 3), .inr (3, [.ref (g 4), .ref (g 5), .ref (g 6), .ref (g 7), .ref (g 8), .ref (g 9), .ref (g 10), .ref (g 11), .ref (g 12), .int (nI X.n)])), ((g 4), .inl (cI, 200, .inl (fun z9 => nI (X.pre z9)))), ((g 5), .inl (cI, 200, .inl (fun z9 => nI (X.len z9)))), ((g 6), .inl (cI, 200, .inl (fun z9 => pI (X.par z9)))), ((g 7), .inl (cI, 200, .inl (fun z9 => nI (X.lev z9)))), ((g 8), .inl (cI, 200, .inl (fun z9 => nI (X.hol z9)))), ((g 9), .inl (cI, 200, .inl (fun z9 => nI (va_up X.sta r 3 z9)))), ((g 10), .inl (cI, 200, .inl (fun z9 => nI (va_up X.en r (td + qd) z9)))), ((g 11), .inl (cI, 200, .inl (fun z9 => pI (X.fc z9)))), ((g 12), .inl (cI, 200, .inl (fun z9 => pI (X.nx z9))))] H := hP
  replace hD : va_D A [((g 0), .inr (2, [.ref (g 3), .ref (g 1), .ref (g 2), .int (nI td), .int (nI qd)])), ((g 1), .inr (0, [.ref (g 3), .long wk.at, .long wk.en, .int wk.ch, .long wk.sa, .int wk.le])), ((g 2), .inl (cI, 4, .inl (fun z9 => nI (pol z9)))), ((g 3), .inr (3, [.ref (g 4), .ref (g 5), .ref (g 6), .ref (g 7), .ref (g 8), .ref (g 9), .ref (g 10), .ref (g 11), .ref (g 12), .int (nI X.n)])), ((g 4), .inl (cI, 200, .inl (fun z9 => nI (X.pre z9)))), ((g 5), .inl (cI, 200, .inl (fun z9 => nI (X.len z9)))), ((g 6), .inl (cI, 200, .inl (fun z9 => pI (X.par z9)))), ((g 7), .inl (cI, 200, .inl (fun z9 => nI (X.lev z9)))), ((g 8), .inl (cI, 200, .inl (fun z9 => nI (X.hol z9)))), ((g 9), .inl (cI, 200, .inl (fun z9 => nI (va_up X.sta r 3 z9)))), ((g 10), .inl (cI, 200, .inl (fun z9 => nI (va_up X.en r (td + qd) z9)))), ((g 11), .inl (cI, 200, .inl (fun z9 => pI (X.fc z9)))), ((g 12), .inl (cI, 200, .inl (fun z9 => pI (X.nx z9))))] := hD
  refine lv_goto hx hb d_Le_takeBack_35 rfl ?_
  refine lv_aload_n hx hb d_Le_takeBack_46 rfl (lv_at hl 0 rfl) ?_
  refine va_get (D := (dC, dI)) (ci := 2) (v := .ref (g 3)) (C := R_Le) (T := F_Le) (N := 5) hx hb hts u_Le hown hK hP 0 rfl rfl 0 (by decide) (hts _ kw_112) (fun _ h9 => h9) rfl d_Le_takeBack_47 ?_
  refine va_getN (D := (dC, dI)) (ci := 3) (v := .ref (g 10)) (C := R_Re) (T := F_Re) (N := 10) hx hb hts u_Re hown hK hP 3 rfl rfl 6 (by decide) (va_Nw.use rfl (hN.at 51 nw_51 rfl)) (fun _ h9 => h9) rfl d_Le_takeBack_50 ?_
  refine lv_iload_n hx hb d_Le_takeBack_53 rfl (lv_at hl 1 rfl) ?_
  refine x_iald (j := r) (v := (nI (va_up X.en r (td + qd) r))) hx hb hK hP 10 0 rfl rfl hr0 (by decide) rfl rfl d_Le_takeBack_54 ?_
  have e9 : rBack X r td qd L = rSta (rEn X r (td + qd)) r 3 := by unfold rBack; rw [if_neg (by omega)]
  have hP9 : va_P (dC, dI) classes (wLe cI g (rBack X r td qd L) pol td qd wk) H := by rw [e9]; exact hP
  have hD9 : va_D A (wLe cI g (rBack X r td qd L) pol td qd wk) := by rw [e9]; exact hD
  exact W.iret (v := (nI (va_up X.en r (td + qd) r))) hx hb hr (fun t ht hW => ⟨⟨(nI (va_up X.en r (td + qd) r)), (), rfl, (by unfold va_up; rw [if_pos rfl]), by rw [ht]; exact hP9, va_K.moved hW.alike hK, hD9⟩, hS.F ht⟩) hS.2.2 d_Le_takeBack_55
set_option maxHeartbeats 4000000 in
set_option maxRecDepth 100000 in
theorem c_Le_forgetAll (l : Launch) (dC : Nat → ClassId) (dI : Nat → Nat → Nat) (sz : Nat) (cI : ClassId) (g : Nat → Nat) (X : RS) (pol : Nat → Nat) (td qd : Nat) (wk : WK) : Met l y_Le_forgetAll (.code y_Le_forgetAll b_Le_forgetAll 2 none :: wG) ({ frames := 0, cells := 0, slots := 0, locals := 0 }) (PcM (dC, dI) [(cI, .int)] (wLe cI g X pol td qd wk) [.ref (g 0)] sz) (QmV (dC, dI) [(cI, .int)] (wLe cI g X pol td qd wk) (wLe cI g (rClr X) (pol0 pol) 0 0 wk) sz) 0 0 (va_A (wLe cI g X pol td qd wk) sz) := by
  refine Met.ofW (cc := b_Le_forgetAll) (maxL := 2) (ret := none) (by decide) rfl ?_
  intro pg eg s mg ag bg meth cg s₁ B hml hv
  obtain ⟨rfl, hsz, hP, hK, hD0, hN⟩ := hv
  have hx := B.exec
  have hb := B.bytes
  have hr := B.returns
  have hlocks := B.notSynchronized
  have hts : ∀ w9 ∈ wG, w9.before ([.ref (g 0)] : List Value).toArray s = true := fun w9 h9 => atoms_spec (ws := (.code y_Le_forgetAll b_Le_forgetAll 2 none :: wG)) B.pre w9 (List.mem_cons_of_mem _ h9)
  have hown : s.vm.findClass "PrefixRegistry$Ledger" = some mg.cls := findClass_of_methodNamed B.named
  subst hsz
  have hD := hD0.self (sz := s.heap.size)
  unfold QmV
  generalize hAe : va_A (wLe cI g X pol td qd wk) s.heap.size = A at hD ⊢
  have hA : ∀ q : Nat, s.heap.size ≤ q → A q := fun q h => by rw [← hAe]; exact Or.inr h
  have hS : va_S A s.heap s.heap [] := va_S.rf
  have hl := lv_entry ([.ref (g 0)]) (n := 2) (Nat.le_of_ble_eq_true rfl)
  rw [lg_entry_eq]
  generalize (lg_sl ([.ref (g 0)]) ++ List.replicate (2 - (lg_sl ([.ref (g 0)])).length) Slot.unset).toArray = ls at hl ⊢
  replace hl : lv_has ls 2 [(0, .ref (g 0))] := hl
  replace hP : va_P (dC, dI) classes (wLe cI g X pol td qd wk) s.heap := hP
  replace hD : va_D A (wLe cI g X pol td qd wk) := hD
  refine lv_aload_n hx hb d_Le_forgetAll_0 rfl (lv_at hl 0 rfl) ?_
  refine va_get (D := (dC, dI)) (ci := 2) (v := .ref (g 3)) (C := R_Le) (T := F_Le) (N := 5) hx hb hts u_Le hown hK hP 0 rfl rfl 0 (by decide) (hts _ kw_112) (fun _ h9 => h9) rfl d_Le_forgetAll_1 ?_
  refine lv_iconst (v := 0) hx hb d_Le_forgetAll_4 (by decide) ?_
  refine va_putN (D := (dC, dI)) (ci := 3) (v := .int 0) (ty := .int) (C := R_Re) (T := F_Re) (N := 10) hx hb hts u_Re t_Re t_Re_ok n_Re hown hK hP hD hS 3 rfl rfl 9 (by decide) (va_Nw.use rfl (hN.at 59 nw_59 rfl)) (fun _ h9 => h9) rfl (by decide +kernel) rfl rfl (Nat.le_of_ble_eq_true rfl) d_Le_forgetAll_5 (fun H locs hP hD hS => ?_)
  replace hP : va_P (dC, dI) classes [((g 0), .inr (2, [.ref (g 3), .ref (g 1), .ref (g 2), .int (nI td), .int (nI qd)])), ((g 1), .inr (0, [.ref (g 3), .long wk.at, .long wk.en, .int wk.ch, .long wk.sa, .int wk.le])), ((g 2), .inl (cI, 4, .inl (fun z9 => nI (pol z9)))), ((g 3), .inr (3, [.ref (g 4), .ref (g 5), .ref (g 6), .ref (g 7), .ref (g 8), .ref (g 9), .ref (g 10), .ref (g 11), .ref (g 12), .int 0])), ((g 4), .inl (cI, 200, .inl (fun z9 => nI (X.pre z9)))), ((g 5), .inl (cI, 200, .inl (fun z9 => nI (X.len z9)))), ((g 6), .inl (cI, 200, .inl (fun z9 => pI (X.par z9)))), ((g 7), .inl (cI, 200, .inl (fun z9 => nI (X.lev z9)))), ((g 8), .inl (cI, 200, .inl (fun z9 => nI (X.hol z9)))), ((g 9), .inl (cI, 200, .inl (fun z9 => nI (X.sta z9)))), ((g 10), .inl (cI, 200, .inl (fun z9 => nI (X.en z9)))), ((g 11), .inl (cI, 200, .inl (fun z9 => pI (X.fc z9)))), ((g 12), .inl (cI, 200, .inl (fun z9 => pI (X.nx z9))))] H := hP
  replace hD : va_D A [((g 0), .inr (2, [.ref (g 3), .ref (g 1), .ref (g 2), .int (nI td), .int (nI qd)])), ((g 1), .inr (0, [.ref (g 3), .long wk.at, .long wk.en, .int wk.ch, .long wk.sa, .int wk.le])), ((g 2), .inl (cI, 4, .inl (fun z9 => nI (pol z9)))), ((g 3), .inr (3, [.ref (g 4), .ref (g 5), .ref (g 6), .ref (g 7), .ref (g 8), .ref (g 9), .ref (g 10), .ref (g 11), .ref (g 12), .int 0])), ((g 4), .inl (cI, 200, .inl (fun z9 => nI (X.pre z9)))), ((g 5), .inl (cI, 200, .inl (fun z9 => nI (X.len z9)))), ((g 6), .inl (cI, 200, .inl (fun z9 => pI (X.par z9)))), ((g 7), .inl (cI, 200, .inl (fun z9 => nI (X.lev z9)))), ((g 8), .inl (cI, 200, .inl (fun z9 => nI (X.hol z9)))), ((g 9), .inl (cI, 200, .inl (fun z9 => nI (X.sta z9)))), ((g 10), .inl (cI, 200, .inl (fun z9 => nI (X.en z9)))), ((g 11), .inl (cI, 200, .inl (fun z9 => pI (X.fc z9)))), ((g 12), .inl (cI, 200, .inl (fun z9 => pI (X.nx z9))))] := hD
  refine lv_aload_n hx hb d_Le_forgetAll_8 rfl (lv_at hl 0 rfl) ?_
  refine lv_iconst (v := 0) hx hb d_Le_forgetAll_9 (by decide) ?_
  refine va_put (D := (dC, dI)) (ci := 2) (v := .int 0) (ty := .int) (C := R_Le) (T := F_Le) (N := 5) hx hb hts u_Le t_Le t_Le_ok n_Le hown hK hP hD hS 0 rfl rfl 3 (by decide) (hts _ kw_117) (fun _ h9 => h9) rfl (by decide +kernel) rfl rfl (Nat.le_of_ble_eq_true rfl) d_Le_forgetAll_10 (fun H locs hP hD hS => ?_)
  replace hP : va_P (dC, dI) classes [((g 0), .inr (2, [.ref (g 3), .ref (g 1), .ref (g 2), .int 0, .int (nI qd)])), ((g 1), .inr (0, [.ref (g 3), .long wk.at, .long wk.en, .int wk.ch, .long wk.sa, .int wk.le])), ((g 2), .inl (cI, 4, .inl (fun z9 => nI (pol z9)))), ((g 3), .inr (3, [.ref (g 4), .ref (g 5), .ref (g 6), .ref (g 7), .ref (g 8), .ref (g 9), .ref (g 10), .ref (g 11), .ref (g 12), .int 0])), ((g 4), .inl (cI, 200, .inl (fun z9 => nI (X.pre z9)))), ((g 5), .inl (cI, 200, .inl (fun z9 => nI (X.len z9)))), ((g 6), .inl (cI, 200, .inl (fun z9 => pI (X.par z9)))), ((g 7), .inl (cI, 200, .inl (fun z9 => nI (X.lev z9)))), ((g 8), .inl (cI, 200, .inl (fun z9 => nI (X.hol z9)))), ((g 9), .inl (cI, 200, .inl (fun z9 => nI (X.sta z9)))), ((g 10), .inl (cI, 200, .inl (fun z9 => nI (X.en z9)))), ((g 11), .inl (cI, 200, .inl (fun z9 => pI (X.fc z9)))), ((g 12), .inl (cI, 200, .inl (fun z9 => pI (X.nx z9))))] H := hP
  replace hD : va_D A [((g 0), .inr (2, [.ref (g 3), .ref (g 1), .ref (g 2), .int 0, .int (nI qd)])), ((g 1), .inr (0, [.ref (g 3), .long wk.at, .long wk.en, .int wk.ch, .long wk.sa, .int wk.le])), ((g 2), .inl (cI, 4, .inl (fun z9 => nI (pol z9)))), ((g 3), .inr (3, [.ref (g 4), .ref (g 5), .ref (g 6), .ref (g 7), .ref (g 8), .ref (g 9), .ref (g 10), .ref (g 11), .ref (g 12), .int 0])), ((g 4), .inl (cI, 200, .inl (fun z9 => nI (X.pre z9)))), ((g 5), .inl (cI, 200, .inl (fun z9 => nI (X.len z9)))), ((g 6), .inl (cI, 200, .inl (fun z9 => pI (X.par z9)))), ((g 7), .inl (cI, 200, .inl (fun z9 => nI (X.lev z9)))), ((g 8), .inl (cI, 200, .inl (fun z9 => nI (X.hol z9)))), ((g 9), .inl (cI, 200, .inl (fun z9 => nI (X.sta z9)))), ((g 10), .inl (cI, 200, .inl (fun z9 => nI (X.en z9)))), ((g 11), .inl (cI, 200, .inl (fun z9 => pI (X.fc z9)))), ((g 12), .inl (cI, 200, .inl (fun z9 => pI (X.nx z9))))] := hD
  refine lv_aload_n hx hb d_Le_forgetAll_13 rfl (lv_at hl 0 rfl) ?_
  refine lv_iconst (v := 0) hx hb d_Le_forgetAll_14 (by decide) ?_
  refine va_put (D := (dC, dI)) (ci := 2) (v := .int 0) (ty := .int) (C := R_Le) (T := F_Le) (N := 5) hx hb hts u_Le t_Le t_Le_ok n_Le hown hK hP hD hS 0 rfl rfl 4 (by decide) (hts _ kw_119) (fun _ h9 => h9) rfl (by decide +kernel) rfl rfl (Nat.le_of_ble_eq_true rfl) d_Le_forgetAll_15 (fun H locs hP hD hS => ?_)
  replace hP : va_P (dC, dI) classes [((g 0), .inr (2, [.ref (g 3), .ref (g 1), .ref (g 2), .int 0, .int 0])), ((g 1), .inr (0, [.ref (g 3), .long wk.at, .long wk.en, .int wk.ch, .long wk.sa, .int wk.le])), ((g 2), .inl (cI, 4, .inl (fun z9 => nI (pol z9)))), ((g 3), .inr (3, [.ref (g 4), .ref (g 5), .ref (g 6), .ref (g 7), .ref (g 8), .ref (g 9), .ref (g 10), .ref (g 11), .ref (g 12), .int 0])), ((g 4), .inl (cI, 200, .inl (fun z9 => nI (X.pre z9)))), ((g 5), .inl (cI, 200, .inl (fun z9 => nI (X.len z9)))), ((g 6), .inl (cI, 200, .inl (fun z9 => pI (X.par z9)))), ((g 7), .inl (cI, 200, .inl (fun z9 => nI (X.lev z9)))), ((g 8), .inl (cI, 200, .inl (fun z9 => nI (X.hol z9)))), ((g 9), .inl (cI, 200, .inl (fun z9 => nI (X.sta z9)))), ((g 10), .inl (cI, 200, .inl (fun z9 => nI (X.en z9)))), ((g 11), .inl (cI, 200, .inl (fun z9 => pI (X.fc z9)))), ((g 12), .inl (cI, 200, .inl (fun z9 => pI (X.nx z9))))] H := hP
  replace hD : va_D A [((g 0), .inr (2, [.ref (g 3), .ref (g 1), .ref (g 2), .int 0, .int 0])), ((g 1), .inr (0, [.ref (g 3), .long wk.at, .long wk.en, .int wk.ch, .long wk.sa, .int wk.le])), ((g 2), .inl (cI, 4, .inl (fun z9 => nI (pol z9)))), ((g 3), .inr (3, [.ref (g 4), .ref (g 5), .ref (g 6), .ref (g 7), .ref (g 8), .ref (g 9), .ref (g 10), .ref (g 11), .ref (g 12), .int 0])), ((g 4), .inl (cI, 200, .inl (fun z9 => nI (X.pre z9)))), ((g 5), .inl (cI, 200, .inl (fun z9 => nI (X.len z9)))), ((g 6), .inl (cI, 200, .inl (fun z9 => pI (X.par z9)))), ((g 7), .inl (cI, 200, .inl (fun z9 => nI (X.lev z9)))), ((g 8), .inl (cI, 200, .inl (fun z9 => nI (X.hol z9)))), ((g 9), .inl (cI, 200, .inl (fun z9 => nI (X.sta z9)))), ((g 10), .inl (cI, 200, .inl (fun z9 => nI (X.en z9)))), ((g 11), .inl (cI, 200, .inl (fun z9 => pI (X.fc z9)))), ((g 12), .inl (cI, 200, .inl (fun z9 => pI (X.nx z9))))] := hD
  refine lv_iconst (v := 0) hx hb d_Le_forgetAll_18 (by decide) ?_
  refine lv_istore_n hx hb d_Le_forgetAll_19 rfl hl (by decide) rfl (fun ls hl => ?_)
  replace hl : lv_has ls 2 [(1, .int 0), (0, .ref (g 0))] := hl
  refine lv_iload_n hx hb d_Le_forgetAll_20 rfl (lv_at hl 0 rfl) ?_
  refine lv_iconst (v := 4) hx hb d_Le_forgetAll_21 (by decide) ?_
  refine lv_icmp_ge hx hb d_Le_forgetAll_22 rfl (fun h9 => absurd h9 (by decide)) (fun _ => ?_)
  refine lv_aload_n hx hb d_Le_forgetAll_25 rfl (lv_at hl 1 rfl) ?_
  refine va_get (D := (dC, dI)) (ci := 2) (v := .ref (g 2)) (C := R_Le) (T := F_Le) (N := 5) hx hb hts u_Le hown hK hP 0 rfl rfl 2 (by decide) (hts _ kw_116) (fun _ h9 => h9) rfl d_Le_forgetAll_26 ?_
  refine lv_iload_n hx hb d_Le_forgetAll_29 rfl (lv_at hl 0 rfl) ?_
  refine lv_iconst (v := 0) hx hb d_Le_forgetAll_30 (by decide) ?_
  refine x_iast (j := 0) (g := (fun z9 => nI (va_up pol 0 0 z9))) hx hb hK hP hD hS 2 0 rfl rfl (by decide) (by decide) rfl (up_nI _ _ 0) rfl d_Le_forgetAll_31 (fun H locs hP hD hS => ?_)
  replace hP : va_P (dC, dI) classes [((g 0), .inr (2, [.ref (g 3), .ref (g 1), .ref (g 2), .int 0, .int 0])), ((g 1), .inr (0, [.ref (g 3), .long wk.at, .long wk.en, .int wk.ch, .long wk.sa, .int wk.le])), ((g 2), .inl (cI, 4, .inl (fun z9 => nI (va_up pol 0 0 z9)))), ((g 3), .inr (3, [.ref (g 4), .ref (g 5), .ref (g 6), .ref (g 7), .ref (g 8), .ref (g 9), .ref (g 10), .ref (g 11), .ref (g 12), .int 0])), ((g 4), .inl (cI, 200, .inl (fun z9 => nI (X.pre z9)))), ((g 5), .inl (cI, 200, .inl (fun z9 => nI (X.len z9)))), ((g 6), .inl (cI, 200, .inl (fun z9 => pI (X.par z9)))), ((g 7), .inl (cI, 200, .inl (fun z9 => nI (X.lev z9)))), ((g 8), .inl (cI, 200, .inl (fun z9 => nI (X.hol z9)))), ((g 9), .inl (cI, 200, .inl (fun z9 => nI (X.sta z9)))), ((g 10), .inl (cI, 200, .inl (fun z9 => nI (X.en z9)))), ((g 11), .inl (cI, 200, .inl (fun z9 => pI (X.fc z9)))), ((g 12), .inl (cI, 200, .inl (fun z9 => pI (X.nx z9))))] H := hP
  replace hD : va_D A [((g 0), .inr (2, [.ref (g 3), .ref (g 1), .ref (g 2), .int 0, .int 0])), ((g 1), .inr (0, [.ref (g 3), .long wk.at, .long wk.en, .int wk.ch, .long wk.sa, .int wk.le])), ((g 2), .inl (cI, 4, .inl (fun z9 => nI (va_up pol 0 0 z9)))), ((g 3), .inr (3, [.ref (g 4), .ref (g 5), .ref (g 6), .ref (g 7), .ref (g 8), .ref (g 9), .ref (g 10), .ref (g 11), .ref (g 12), .int 0])), ((g 4), .inl (cI, 200, .inl (fun z9 => nI (X.pre z9)))), ((g 5), .inl (cI, 200, .inl (fun z9 => nI (X.len z9)))), ((g 6), .inl (cI, 200, .inl (fun z9 => pI (X.par z9)))), ((g 7), .inl (cI, 200, .inl (fun z9 => nI (X.lev z9)))), ((g 8), .inl (cI, 200, .inl (fun z9 => nI (X.hol z9)))), ((g 9), .inl (cI, 200, .inl (fun z9 => nI (X.sta z9)))), ((g 10), .inl (cI, 200, .inl (fun z9 => nI (X.en z9)))), ((g 11), .inl (cI, 200, .inl (fun z9 => pI (X.fc z9)))), ((g 12), .inl (cI, 200, .inl (fun z9 => pI (X.nx z9))))] := hD
  refine lv_iinc hx hb d_Le_forgetAll_32 hl (k := 0) (v := 1) rfl (by decide) (by decide) rfl (fun ls hl => ?_)
  replace hl : lv_has ls 2 [(1, .int 1), (0, .ref (g 0))] := hl
  refine lv_goto hx hb d_Le_forgetAll_35 rfl ?_
  refine lv_iload_n hx hb d_Le_forgetAll_20 rfl (lv_at hl 0 rfl) ?_
  refine lv_iconst (v := 4) hx hb d_Le_forgetAll_21 (by decide) ?_
  refine lv_icmp_ge hx hb d_Le_forgetAll_22 rfl (fun h9 => absurd h9 (by decide)) (fun _ => ?_)
  refine lv_aload_n hx hb d_Le_forgetAll_25 rfl (lv_at hl 1 rfl) ?_
  refine va_get (D := (dC, dI)) (ci := 2) (v := .ref (g 2)) (C := R_Le) (T := F_Le) (N := 5) hx hb hts u_Le hown hK hP 0 rfl rfl 2 (by decide) (hts _ kw_116) (fun _ h9 => h9) rfl d_Le_forgetAll_26 ?_
  refine lv_iload_n hx hb d_Le_forgetAll_29 rfl (lv_at hl 0 rfl) ?_
  refine lv_iconst (v := 0) hx hb d_Le_forgetAll_30 (by decide) ?_
  refine x_iast (j := 1) (g := (fun z9 => nI (va_up (va_up pol 0 0) 1 0 z9))) hx hb hK hP hD hS 2 0 rfl rfl (by decide) (by decide) rfl (up_nI _ _ 0) rfl d_Le_forgetAll_31 (fun H locs hP hD hS => ?_)
  replace hP : va_P (dC, dI) classes [((g 0), .inr (2, [.ref (g 3), .ref (g 1), .ref (g 2), .int 0, .int 0])), ((g 1), .inr (0, [.ref (g 3), .long wk.at, .long wk.en, .int wk.ch, .long wk.sa, .int wk.le])), ((g 2), .inl (cI, 4, .inl (fun z9 => nI (va_up (va_up pol 0 0) 1 0 z9)))), ((g 3), .inr (3, [.ref (g 4), .ref (g 5), .ref (g 6), .ref (g 7), .ref (g 8), .ref (g 9), .ref (g 10), .ref (g 11), .ref (g 12), .int 0])), ((g 4), .inl (cI, 200, .inl (fun z9 => nI (X.pre z9)))), ((g 5), .inl (cI, 200, .inl (fun z9 => nI (X.len z9)))), ((g 6), .inl (cI, 200, .inl (fun z9 => pI (X.par z9)))), ((g 7), .inl (cI, 200, .inl (fun z9 => nI (X.lev z9)))), ((g 8), .inl (cI, 200, .inl (fun z9 => nI (X.hol z9)))), ((g 9), .inl (cI, 200, .inl (fun z9 => nI (X.sta z9)))), ((g 10), .inl (cI, 200, .inl (fun z9 => nI (X.en z9)))), ((g 11), .inl (cI, 200, .inl (fun z9 => pI (X.fc z9)))), ((g 12), .inl (cI, 200, .inl (fun z9 => pI (X.nx z9))))] H := hP
  replace hD : va_D A [((g 0), .inr (2, [.ref (g 3), .ref (g 1), .ref (g 2), .int 0, .int 0])), ((g 1), .inr (0, [.ref (g 3), .long wk.at, .long wk.en, .int wk.ch, .long wk.sa, .int wk.le])), ((g 2), .inl (cI, 4, .inl (fun z9 => nI (va_up (va_up pol 0 0) 1 0 z9)))), ((g 3), .inr (3, [.ref (g 4), .ref (g 5), .ref (g 6), .ref (g 7), .ref (g 8), .ref (g 9), .ref (g 10), .ref (g 11), .ref (g 12), .int 0])), ((g 4), .inl (cI, 200, .inl (fun z9 => nI (X.pre z9)))), ((g 5), .inl (cI, 200, .inl (fun z9 => nI (X.len z9)))), ((g 6), .inl (cI, 200, .inl (fun z9 => pI (X.par z9)))), ((g 7), .inl (cI, 200, .inl (fun z9 => nI (X.lev z9)))), ((g 8), .inl (cI, 200, .inl (fun z9 => nI (X.hol z9)))), ((g 9), .inl (cI, 200, .inl (fun z9 => nI (X.sta z9)))), ((g 10), .inl (cI, 200, .inl (fun z9 => nI (X.en z9)))), ((g 11), .inl (cI, 200, .inl (fun z9 => pI (X.fc z9)))), ((g 12), .inl (cI, 200, .inl (fun z9 => pI (X.nx z9))))] := hD
  refine lv_iinc hx hb d_Le_forgetAll_32 hl (k := 0) (v := 2) rfl (by decide) (by decide) rfl (fun ls hl => ?_)
  replace hl : lv_has ls 2 [(1, .int 2), (0, .ref (g 0))] := hl
  refine lv_goto hx hb d_Le_forgetAll_35 rfl ?_
  refine lv_iload_n hx hb d_Le_forgetAll_20 rfl (lv_at hl 0 rfl) ?_
  refine lv_iconst (v := 4) hx hb d_Le_forgetAll_21 (by decide) ?_
  refine lv_icmp_ge hx hb d_Le_forgetAll_22 rfl (fun h9 => absurd h9 (by decide)) (fun _ => ?_)
  refine lv_aload_n hx hb d_Le_forgetAll_25 rfl (lv_at hl 1 rfl) ?_
  refine va_get (D := (dC, dI)) (ci := 2) (v := .ref (g 2)) (C := R_Le) (T := F_Le) (N := 5) hx hb hts u_Le hown hK hP 0 rfl rfl 2 (by decide) (hts _ kw_116) (fun _ h9 => h9) rfl d_Le_forgetAll_26 ?_
  refine lv_iload_n hx hb d_Le_forgetAll_29 rfl (lv_at hl 0 rfl) ?_
  refine lv_iconst (v := 0) hx hb d_Le_forgetAll_30 (by decide) ?_
  refine x_iast (j := 2) (g := (fun z9 => nI (va_up (va_up (va_up pol 0 0) 1 0) 2 0 z9))) hx hb hK hP hD hS 2 0 rfl rfl (by decide) (by decide) rfl (up_nI _ _ 0) rfl d_Le_forgetAll_31 (fun H locs hP hD hS => ?_)
  replace hP : va_P (dC, dI) classes [((g 0), .inr (2, [.ref (g 3), .ref (g 1), .ref (g 2), .int 0, .int 0])), ((g 1), .inr (0, [.ref (g 3), .long wk.at, .long wk.en, .int wk.ch, .long wk.sa, .int wk.le])), ((g 2), .inl (cI, 4, .inl (fun z9 => nI (va_up (va_up (va_up pol 0 0) 1 0) 2 0 z9)))), ((g 3), .inr (3, [.ref (g 4), .ref (g 5), .ref (g 6), .ref (g 7), .ref (g 8), .ref (g 9), .ref (g 10), .ref (g 11), .ref (g 12), .int 0])), ((g 4), .inl (cI, 200, .inl (fun z9 => nI (X.pre z9)))), ((g 5), .inl (cI, 200, .inl (fun z9 => nI (X.len z9)))), ((g 6), .inl (cI, 200, .inl (fun z9 => pI (X.par z9)))), ((g 7), .inl (cI, 200, .inl (fun z9 => nI (X.lev z9)))), ((g 8), .inl (cI, 200, .inl (fun z9 => nI (X.hol z9)))), ((g 9), .inl (cI, 200, .inl (fun z9 => nI (X.sta z9)))), ((g 10), .inl (cI, 200, .inl (fun z9 => nI (X.en z9)))), ((g 11), .inl (cI, 200, .inl (fun z9 => pI (X.fc z9)))), ((g 12), .inl (cI, 200, .inl (fun z9 => pI (X.nx z9))))] H := hP
  replace hD : va_D A [((g 0), .inr (2, [.ref (g 3), .ref (g 1), .ref (g 2), .int 0, .int 0])), ((g 1), .inr (0, [.ref (g 3), .long wk.at, .long wk.en, .int wk.ch, .long wk.sa, .int wk.le])), ((g 2), .inl (cI, 4, .inl (fun z9 => nI (va_up (va_up (va_up pol 0 0) 1 0) 2 0 z9)))), ((g 3), .inr (3, [.ref (g 4), .ref (g 5), .ref (g 6), .ref (g 7), .ref (g 8), .ref (g 9), .ref (g 10), .ref (g 11), .ref (g 12), .int 0])), ((g 4), .inl (cI, 200, .inl (fun z9 => nI (X.pre z9)))), ((g 5), .inl (cI, 200, .inl (fun z9 => nI (X.len z9)))), ((g 6), .inl (cI, 200, .inl (fun z9 => pI (X.par z9)))), ((g 7), .inl (cI, 200, .inl (fun z9 => nI (X.lev z9)))), ((g 8), .inl (cI, 200, .inl (fun z9 => nI (X.hol z9)))), ((g 9), .inl (cI, 200, .inl (fun z9 => nI (X.sta z9)))), ((g 10), .inl (cI, 200, .inl (fun z9 => nI (X.en z9)))), ((g 11), .inl (cI, 200, .inl (fun z9 => pI (X.fc z9)))), ((g 12), .inl (cI, 200, .inl (fun z9 => pI (X.nx z9))))] := hD
  refine lv_iinc hx hb d_Le_forgetAll_32 hl (k := 0) (v := 3) rfl (by decide) (by decide) rfl (fun ls hl => ?_)
  replace hl : lv_has ls 2 [(1, .int 3), (0, .ref (g 0))] := hl
  refine lv_goto hx hb d_Le_forgetAll_35 rfl ?_
  refine lv_iload_n hx hb d_Le_forgetAll_20 rfl (lv_at hl 0 rfl) ?_
  refine lv_iconst (v := 4) hx hb d_Le_forgetAll_21 (by decide) ?_
  refine lv_icmp_ge hx hb d_Le_forgetAll_22 rfl (fun h9 => absurd h9 (by decide)) (fun _ => ?_)
  refine lv_aload_n hx hb d_Le_forgetAll_25 rfl (lv_at hl 1 rfl) ?_
  refine va_get (D := (dC, dI)) (ci := 2) (v := .ref (g 2)) (C := R_Le) (T := F_Le) (N := 5) hx hb hts u_Le hown hK hP 0 rfl rfl 2 (by decide) (hts _ kw_116) (fun _ h9 => h9) rfl d_Le_forgetAll_26 ?_
  refine lv_iload_n hx hb d_Le_forgetAll_29 rfl (lv_at hl 0 rfl) ?_
  refine lv_iconst (v := 0) hx hb d_Le_forgetAll_30 (by decide) ?_
  refine x_iast (j := 3) (g := (fun z9 => nI (va_up (va_up (va_up (va_up pol 0 0) 1 0) 2 0) 3 0 z9))) hx hb hK hP hD hS 2 0 rfl rfl (by decide) (by decide) rfl (up_nI _ _ 0) rfl d_Le_forgetAll_31 (fun H locs hP hD hS => ?_)
  replace hP : va_P (dC, dI) classes [((g 0), .inr (2, [.ref (g 3), .ref (g 1), .ref (g 2), .int 0, .int 0])), ((g 1), .inr (0, [.ref (g 3), .long wk.at, .long wk.en, .int wk.ch, .long wk.sa, .int wk.le])), ((g 2), .inl (cI, 4, .inl (fun z9 => nI (va_up (va_up (va_up (va_up pol 0 0) 1 0) 2 0) 3 0 z9)))), ((g 3), .inr (3, [.ref (g 4), .ref (g 5), .ref (g 6), .ref (g 7), .ref (g 8), .ref (g 9), .ref (g 10), .ref (g 11), .ref (g 12), .int 0])), ((g 4), .inl (cI, 200, .inl (fun z9 => nI (X.pre z9)))), ((g 5), .inl (cI, 200, .inl (fun z9 => nI (X.len z9)))), ((g 6), .inl (cI, 200, .inl (fun z9 => pI (X.par z9)))), ((g 7), .inl (cI, 200, .inl (fun z9 => nI (X.lev z9)))), ((g 8), .inl (cI, 200, .inl (fun z9 => nI (X.hol z9)))), ((g 9), .inl (cI, 200, .inl (fun z9 => nI (X.sta z9)))), ((g 10), .inl (cI, 200, .inl (fun z9 => nI (X.en z9)))), ((g 11), .inl (cI, 200, .inl (fun z9 => pI (X.fc z9)))), ((g 12), .inl (cI, 200, .inl (fun z9 => pI (X.nx z9))))] H := hP
  replace hD : va_D A [((g 0), .inr (2, [.ref (g 3), .ref (g 1), .ref (g 2), .int 0, .int 0])), ((g 1), .inr (0, [.ref (g 3), .long wk.at, .long wk.en, .int wk.ch, .long wk.sa, .int wk.le])), ((g 2), .inl (cI, 4, .inl (fun z9 => nI (va_up (va_up (va_up (va_up pol 0 0) 1 0) 2 0) 3 0 z9)))), ((g 3), .inr (3, [.ref (g 4), .ref (g 5), .ref (g 6), .ref (g 7), .ref (g 8), .ref (g 9), .ref (g 10), .ref (g 11), .ref (g 12), .int 0])), ((g 4), .inl (cI, 200, .inl (fun z9 => nI (X.pre z9)))), ((g 5), .inl (cI, 200, .inl (fun z9 => nI (X.len z9)))), ((g 6), .inl (cI, 200, .inl (fun z9 => pI (X.par z9)))), ((g 7), .inl (cI, 200, .inl (fun z9 => nI (X.lev z9)))), ((g 8), .inl (cI, 200, .inl (fun z9 => nI (X.hol z9)))), ((g 9), .inl (cI, 200, .inl (fun z9 => nI (X.sta z9)))), ((g 10), .inl (cI, 200, .inl (fun z9 => nI (X.en z9)))), ((g 11), .inl (cI, 200, .inl (fun z9 => pI (X.fc z9)))), ((g 12), .inl (cI, 200, .inl (fun z9 => pI (X.nx z9))))] := hD
  refine lv_iinc hx hb d_Le_forgetAll_32 hl (k := 0) (v := 4) rfl (by decide) (by decide) rfl (fun ls hl => ?_)
  replace hl : lv_has ls 2 [(1, .int 4), (0, .ref (g 0))] := hl
  refine lv_goto hx hb d_Le_forgetAll_35 rfl ?_
  refine lv_iload_n hx hb d_Le_forgetAll_20 rfl (lv_at hl 0 rfl) ?_
  refine lv_iconst (v := 4) hx hb d_Le_forgetAll_21 (by decide) ?_
  refine lv_icmp_ge hx hb d_Le_forgetAll_22 rfl (fun _ => ?_) (fun h9 => absurd (by decide) h9)
  have hP9 : va_P (dC, dI) classes (wLe cI g (rClr X) (pol0 pol) 0 0 wk) H := hP
  have hD9 : va_D A (wLe cI g (rClr X) (pol0 pol) 0 0 wk) := hD
  exact W.vret hx hb hr (fun t ht hW => ⟨⟨(), rfl, trivial, by rw [ht]; exact hP9, va_K.moved hW.alike hK, hD9⟩, hS.F ht⟩) hS.2.2 d_Le_forgetAll_38
set_option maxHeartbeats 4000000 in
set_option maxRecDepth 100000 in
theorem c_Le_handOver (l : Launch) (dC : Nat → ClassId) (dI : Nat → Nat → Nat) (sz : Nat) (cI : ClassId) (g : Nat → Nat) (X : RS) (pol : Nat → Nat) (td qd : Nat) (wk : WK) (hX : RSok X) (a : Nat) (ha : a < 200) (w : Nat) (hw : w < 10000) : Met l y_Le_handOver (.code y_Le_handOver b_Le_handOver 5 (some .int) :: wG) ({ frames := 1, cells := 0, slots := 0, locals := 24 }) (PcM (dC, dI) [(cI, .int)] (wLe cI g X pol td qd wk) [.ref (g 0), .int (nI a), .int (nI w)] sz) (QmI (dC, dI) [(cI, .int)] (wLe cI g X pol td qd wk) (wLe cI g (rHol X (hov X a w 0 X.n X.hol 0).1) pol td qd wk) sz (nI (hov X a w 0 X.n X.hol 0).2)) 0 0 (va_A (wLe cI g X pol td qd wk) sz) := by
  refine Met.ofW (cc := b_Le_handOver) (maxL := 5) (ret := (some .int)) (by decide) rfl ?_
  intro pg eg s mg ag bg meth cg s₁ B hml hv
  obtain ⟨rfl, hsz, hP, hK, hD0, hN⟩ := hv
  have hx := B.exec
  have hb := B.bytes
  have hr := B.returns
  have hlocks := B.notSynchronized
  have hts : ∀ w9 ∈ wG, w9.before ([.ref (g 0), .int (nI a), .int (nI w)] : List Value).toArray s = true := fun w9 h9 => atoms_spec (ws := (.code y_Le_handOver b_Le_handOver 5 (some .int) :: wG)) B.pre w9 (List.mem_cons_of_mem _ h9)
  have hown : s.vm.findClass "PrefixRegistry$Ledger" = some mg.cls := findClass_of_methodNamed B.named
  subst hsz
  have hD := hD0.self (sz := s.heap.size)
  unfold QmI
  generalize hAe : va_A (wLe cI g X pol td qd wk) s.heap.size = A at hD ⊢
  have hA : ∀ q : Nat, s.heap.size ≤ q → A q := fun q h => by rw [← hAe]; exact Or.inr h
  have hS : va_S A s.heap s.heap [] := va_S.rf
  have hl := lv_entry ([.ref (g 0), .int (nI a), .int (nI w)]) (n := 5) (Nat.le_of_ble_eq_true rfl)
  rw [lg_entry_eq]
  generalize (lg_sl ([.ref (g 0), .int (nI a), .int (nI w)]) ++ List.replicate (5 - (lg_sl ([.ref (g 0), .int (nI a), .int (nI w)])).length) Slot.unset).toArray = ls at hl ⊢
  replace hl : lv_has ls 5 [(0, .ref (g 0)), (1, .int (nI a)), (2, .int (nI w))] := hl
  replace hP : va_P (dC, dI) classes (wLe cI g X pol td qd wk) s.heap := hP
  replace hD : va_D A (wLe cI g X pol td qd wk) := hD
  refine lv_iconst (v := 0) hx hb d_Le_handOver_0 (by decide) ?_
  refine lv_istore_n hx hb d_Le_handOver_1 rfl hl (by decide) rfl (fun ls hl => ?_)
  replace hl : lv_has ls 5 [(3, .int 0), (0, .ref (g 0)), (1, .int (nI a)), (2, .int (nI w))] := hl
  refine lv_iconst (v := 0) hx hb d_Le_handOver_2 (by decide) ?_
  refine lv_istore hx hb d_Le_handOver_3 hl (by decide) rfl (fun ls hl => ?_)
  replace hl : lv_has ls 5 [(4, .int 0), (3, .int 0), (0, .ref (g 0)), (1, .int (nI a)), (2, .int (nI w))] := hl
  obtain ⟨H, hH⟩ : ∃ H, H = s.heap := ⟨_, rfl⟩
  rw [← hH]
  rw [← hH] at hP
  have hS : va_S A s.heap H [] := by rw [hH]; exact va_S.rf
  clear hH
  obtain ⟨locs, hlo⟩ : ∃ locs : List Loc, locs = [] := ⟨_, rfl⟩
  rw [← hlo] at hS ⊢
  clear hlo
  obtain ⟨hf, hhf⟩ : ∃ hf : Nat → Nat, hf = X.hol := ⟨_, rfl⟩
  obtain ⟨i, hi0⟩ : ∃ i : Nat, i = 0 := ⟨_, rfl⟩
  obtain ⟨k, hk0⟩ : ∃ k : Nat, k = X.n - 0 := ⟨_, rfl⟩
  obtain ⟨sm, hsm⟩ : ∃ sm : Nat, sm = 0 := ⟨_, rfl⟩
  have hres : hov X a w i k hf sm = hov X a w 0 X.n X.hol 0 := by rw [hi0, hk0, hhf, hsm]; rfl
  have hhb : ∀ j, hf j < 10000 := by rw [hhf]; exact hX.hol
  replace hP : va_P (dC, dI) classes (wLe cI g (rHol X hf) pol td qd wk) H := by subst hhf; exact hP
  replace hD : va_D A (wLe cI g (rHol X hf) pol td qd wk) := by subst hhf; exact hD
  replace hl : lv_has ls 5 [(4, .int (nI i)), (3, .int (nI sm)), (0, .ref (g 0)), (1, .int (nI a)), (2, .int (nI w))] := by subst hi0; subst hsm; exact hl
  have hik : i + k = X.n := by omega
  clear hi0 hk0 hsm hhf
  replace hres := hres
  replace hhb := hhb
  replace hP := hP
  replace hD := hD
  replace hS := hS
  replace hl : lv_has ls 5 [(4, .int (nI i)), (3, .int (nI sm)), (0, .ref (g 0)), (1, .int (nI a)), (2, .int (nI w))] := hl
  induction k generalizing i ls H locs sm hf with
  | zero =>
    refine lv_iload hx hb d_Le_handOver_5 (lv_at hl 0 rfl) ?_
    refine lv_aload_n hx hb d_Le_handOver_7 rfl (lv_at hl 2 rfl) ?_
    refine va_get (D := (dC, dI)) (ci := 2) (v := .ref (g 3)) (C := R_Le) (T := F_Le) (N := 5) hx hb hts u_Le hown hK hP 0 rfl rfl 0 (by decide) (hts _ kw_112) (fun _ h9 => h9) rfl d_Le_handOver_8 ?_
    refine va_getN (D := (dC, dI)) (ci := 3) (v := .int (nI (rHol X hf).n)) (C := R_Re) (T := F_Re) (N := 10) hx hb hts u_Re hown hK hP 3 rfl rfl 9 (by decide) (va_Nw.use rfl (hN.at 59 nw_59 rfl)) (fun _ h9 => h9) rfl d_Le_handOver_11 ?_
    refine x_topi (y := (nI X.n)) rfl ?_
    refine lv_icmp_ge hx hb d_Le_handOver_14 rfl (fun _ => ?_) (fun h9 => absurd (nI_le (by omega) (by have := hX.n; omega)) h9)
    refine lv_iload_n hx hb d_Le_handOver_62 rfl (lv_at hl 1 rfl) ?_
    have e9 : hov X a w 0 X.n X.hol 0 = (hf, sm) := hres.symm
    have hP9 : va_P (dC, dI) classes (wLe cI g (rHol X (hov X a w 0 X.n X.hol 0).1) pol td qd wk) H := by rw [e9]; exact hP
    have hD9 : va_D A (wLe cI g (rHol X (hov X a w 0 X.n X.hol 0).1) pol td qd wk) := by rw [e9]; exact hD
    exact W.iret (v := (nI sm)) hx hb hr (fun t ht hW => ⟨⟨(nI sm), (), rfl, (by rw [← hres]; rfl), by rw [ht]; exact hP9, va_K.moved hW.alike hK, hD9⟩, hS.F ht⟩) hS.2.2 d_Le_handOver_63
  | succ k ih =>
    refine lv_iload hx hb d_Le_handOver_5 (lv_at hl 0 rfl) ?_
    refine lv_aload_n hx hb d_Le_handOver_7 rfl (lv_at hl 2 rfl) ?_
    refine va_get (D := (dC, dI)) (ci := 2) (v := .ref (g 3)) (C := R_Le) (T := F_Le) (N := 5) hx hb hts u_Le hown hK hP 0 rfl rfl 0 (by decide) (hts _ kw_112) (fun _ h9 => h9) rfl d_Le_handOver_8 ?_
    refine va_getN (D := (dC, dI)) (ci := 3) (v := .int (nI (rHol X hf).n)) (C := R_Re) (T := F_Re) (N := 10) hx hb hts u_Re hown hK hP 3 rfl rfl 9 (by decide) (va_Nw.use rfl (hN.at 59 nw_59 rfl)) (fun _ h9 => h9) rfl d_Le_handOver_11 ?_
    refine x_topi (y := (nI X.n)) rfl ?_
    refine lv_icmp_ge hx hb d_Le_handOver_14 rfl (fun h9 => absurd h9 (nI_ge (by omega) (by have := hX.n; omega))) (fun _ => ?_)
    refine lv_aload_n hx hb d_Le_handOver_17 rfl (lv_at hl 2 rfl) ?_
    refine va_get (D := (dC, dI)) (ci := 2) (v := .ref (g 3)) (C := R_Le) (T := F_Le) (N := 5) hx hb hts u_Le hown hK hP 0 rfl rfl 0 (by decide) (hts _ kw_112) (fun _ h9 => h9) rfl d_Le_handOver_18 ?_
    refine lv_iload hx hb d_Le_handOver_21 (lv_at hl 0 rfl) ?_
    refine vp_callSi (W.runV (b := (g 3)) (As := [.int (nI i)]) (rest := []) ⟨hx, hb, hml, hown, hts⟩ (c_Re_isLive l dC dI cI (g 3) (fun k => g (4 + k)) (rHol X hf) (RSok.holf hX hhb) i (by have := hX.n; omega)) (cwV 1 hts (gV kw_293 kw_294 kw_295 kw_3 kw_296) rfl rfl rfl (by decide +kernel) ⟨Nat.le_of_ble_eq_true rfl, Nat.le_of_ble_eq_true rfl⟩) ⟨PcS.blind, va_recv (q0 := 0) hK (hP.sub (ws' := wRe cI (g 3) (fun k => g (4 + k)) (rHol X hf)) [3, 4, 5, 6, 7, 8, 9, 10, 11, 12] rfl) rfl rfl, PcS.use (hP.sub (ws' := wRe cI (g 3) (fun k => g (4 + k)) (rHol X hf)) [3, 4, 5, 6, 7, 8, 9, 10, 11, 12] rfl) hK hN⟩ rfl rfl hl.1 rfl (lv_room (Nat.le_of_ble_eq_true rfl)) d_Le_handOver_23 ⟨Nat.zero_le _, Nat.zero_le _⟩) (fun r23 hr23 => ?_)
    obtain rfl : r23 = bi (decide (X.sta i ≠ 4)) := hr23
    refine lv_if_eq hx hb d_Le_handOver_26 rfl (fun h26 => ?_) (fun h26 => ?_)
    · have h26 := bi_d.mp h26
      refine lv_iinc hx hb d_Le_handOver_56 hl (k := 0) (v := (nI (i + 1))) rfl (nI_1 i) (by decide) rfl (fun ls hl => ?_)
      replace hl : lv_has ls 5 [(4, .int (nI (i + 1))), (3, .int (nI sm)), (0, .ref (g 0)), (1, .int (nI a)), (2, .int (nI w))] := hl
      refine lv_goto hx hb d_Le_handOver_59 rfl ?_
      replace hP : va_P (dC, dI) classes (wLe cI g (rHol X hf) pol td qd wk) H := hP
      replace hD : va_D A (wLe cI g (rHol X hf) pol td qd wk) := hD
      refine ih _ _ _ _ _ _ ?_ ?_ ?_ hP hD hS hl
      · omega
      · exact (by rw [← hres]; simp only [hov]; rw [if_neg (fun q => h26 q.1)])
      · exact hhb
    have h26 := Decidable.not_not.mp (mt bi_d.mpr h26)
    refine lv_aload_n hx hb d_Le_handOver_29 rfl (lv_at hl 2 rfl) ?_
    refine va_get (D := (dC, dI)) (ci := 2) (v := .ref (g 3)) (C := R_Le) (T := F_Le) (N := 5) hx hb hts u_Le hown hK hP 0 rfl rfl 0 (by decide) (hts _ kw_112) (fun _ h9 => h9) rfl d_Le_handOver_30 ?_
    refine lv_iload hx hb d_Le_handOver_33 (lv_at hl 0 rfl) ?_
    refine lv_iload_n hx hb d_Le_handOver_35 rfl (lv_at hl 3 rfl) ?_
    refine vp_callSi (W.runV (b := (g 3)) (As := [.int (nI i), .int (nI a)]) (rest := []) ⟨hx, hb, hml, hown, hts⟩ (c_Re_isAtOrBelow l dC dI cI (g 3) (fun k => g (4 + k)) (rHol X hf) (RSok.holf hX hhb) i (by have := hX.n; omega) a ha) (cwV 2 hts (gV kw_437 kw_438 kw_439 kw_3 kw_440) rfl rfl rfl (by decide +kernel) ⟨Nat.le_of_ble_eq_true rfl, Nat.le_of_ble_eq_true rfl⟩) ⟨PcS.blind, va_recv (q0 := 0) hK (hP.sub (ws' := wRe cI (g 3) (fun k => g (4 + k)) (rHol X hf)) [3, 4, 5, 6, 7, 8, 9, 10, 11, 12] rfl) rfl rfl, PcS.use (hP.sub (ws' := wRe cI (g 3) (fun k => g (4 + k)) (rHol X hf)) [3, 4, 5, 6, 7, 8, 9, 10, 11, 12] rfl) hK hN⟩ rfl rfl hl.1 rfl (lv_room (Nat.le_of_ble_eq_true rfl)) d_Le_handOver_36 ⟨Nat.zero_le _, Nat.zero_le _⟩) (fun r36 hr36 => ?_)
    obtain rfl : r36 = bi (aob X.par a 5 (some i)) := hr36
    refine lv_if_eq hx hb d_Le_handOver_39 rfl (fun h39 => ?_) (fun h39 => ?_)
    · have h39 : aob X.par a 5 (some i) = false := bi_eq0.mp h39
      refine lv_iinc hx hb d_Le_handOver_56 hl (k := 0) (v := (nI (i + 1))) rfl (nI_1 i) (by decide) rfl (fun ls hl => ?_)
      replace hl : lv_has ls 5 [(4, .int (nI (i + 1))), (3, .int (nI sm)), (0, .ref (g 0)), (1, .int (nI a)), (2, .int (nI w))] := hl
      refine lv_goto hx hb d_Le_handOver_59 rfl ?_
      replace hP : va_P (dC, dI) classes (wLe cI g (rHol X hf) pol td qd wk) H := hP
      replace hD : va_D A (wLe cI g (rHol X hf) pol td qd wk) := hD
      refine ih _ _ _ _ _ _ ?_ ?_ ?_ hP hD hS hl
      · omega
      · exact (by rw [← hres]; simp only [hov]; rw [if_neg (fun q => absurd (h39.symm.trans q.2) (by decide))])
      · exact hhb
    have h39 : aob X.par a 5 (some i) = true := bi_n0 h39
    refine lv_aload_n hx hb d_Le_handOver_42 rfl (lv_at hl 2 rfl) ?_
    refine va_get (D := (dC, dI)) (ci := 2) (v := .ref (g 3)) (C := R_Le) (T := F_Le) (N := 5) hx hb hts u_Le hown hK hP 0 rfl rfl 0 (by decide) (hts _ kw_112) (fun _ h9 => h9) rfl d_Le_handOver_43 ?_
    refine va_getN (D := (dC, dI)) (ci := 3) (v := .ref (g 8)) (C := R_Re) (T := F_Re) (N := 10) hx hb hts u_Re hown hK hP 3 rfl rfl 4 (by decide) (va_Nw.use rfl (hN.at 46 nw_46 rfl)) (fun _ h9 => h9) rfl d_Le_handOver_46 ?_
    refine lv_iload hx hb d_Le_handOver_49 (lv_at hl 0 rfl) ?_
    refine lv_iload_n hx hb d_Le_handOver_51 rfl (lv_at hl 4 rfl) ?_
    refine x_iast (j := i) (g := (fun z9 => nI (va_up ((rHol X hf).hol) i w z9))) hx hb hK hP hD hS 8 0 rfl rfl (by have := hX.n; omega) (by decide) rfl (up_nI _ _ w) rfl d_Le_handOver_52 (fun H locs hP hD hS => ?_)
    replace hP : va_P (dC, dI) classes [((g 0), .inr (2, [.ref (g 3), .ref (g 1), .ref (g 2), .int (nI td), .int (nI qd)])), ((g 1), .inr (0, [.ref (g 3), .long wk.at, .long wk.en, .int wk.ch, .long wk.sa, .int wk.le])), ((g 2), .inl (cI, 4, .inl (fun z9 => nI (pol z9)))), ((g 3), .inr (3, [.ref (g 4), .ref (g 5), .ref (g 6), .ref (g 7), .ref (g 8), .ref (g 9), .ref (g 10), .ref (g 11), .ref (g 12), .int (nI (rHol X hf).n)])), ((g 4), .inl (cI, 200, .inl (fun z9 => nI ((rHol X hf).pre z9)))), ((g 5), .inl (cI, 200, .inl (fun z9 => nI ((rHol X hf).len z9)))), ((g 6), .inl (cI, 200, .inl (fun z9 => pI ((rHol X hf).par z9)))), ((g 7), .inl (cI, 200, .inl (fun z9 => nI ((rHol X hf).lev z9)))), ((g 8), .inl (cI, 200, .inl (fun z9 => nI (va_up ((rHol X hf).hol) i w z9)))), ((g 9), .inl (cI, 200, .inl (fun z9 => nI ((rHol X hf).sta z9)))), ((g 10), .inl (cI, 200, .inl (fun z9 => nI ((rHol X hf).en z9)))), ((g 11), .inl (cI, 200, .inl (fun z9 => pI ((rHol X hf).fc z9)))), ((g 12), .inl (cI, 200, .inl (fun z9 => pI ((rHol X hf).nx z9))))] H := hP
    replace hD : va_D A [((g 0), .inr (2, [.ref (g 3), .ref (g 1), .ref (g 2), .int (nI td), .int (nI qd)])), ((g 1), .inr (0, [.ref (g 3), .long wk.at, .long wk.en, .int wk.ch, .long wk.sa, .int wk.le])), ((g 2), .inl (cI, 4, .inl (fun z9 => nI (pol z9)))), ((g 3), .inr (3, [.ref (g 4), .ref (g 5), .ref (g 6), .ref (g 7), .ref (g 8), .ref (g 9), .ref (g 10), .ref (g 11), .ref (g 12), .int (nI (rHol X hf).n)])), ((g 4), .inl (cI, 200, .inl (fun z9 => nI ((rHol X hf).pre z9)))), ((g 5), .inl (cI, 200, .inl (fun z9 => nI ((rHol X hf).len z9)))), ((g 6), .inl (cI, 200, .inl (fun z9 => pI ((rHol X hf).par z9)))), ((g 7), .inl (cI, 200, .inl (fun z9 => nI ((rHol X hf).lev z9)))), ((g 8), .inl (cI, 200, .inl (fun z9 => nI (va_up ((rHol X hf).hol) i w z9)))), ((g 9), .inl (cI, 200, .inl (fun z9 => nI ((rHol X hf).sta z9)))), ((g 10), .inl (cI, 200, .inl (fun z9 => nI ((rHol X hf).en z9)))), ((g 11), .inl (cI, 200, .inl (fun z9 => pI ((rHol X hf).fc z9)))), ((g 12), .inl (cI, 200, .inl (fun z9 => pI ((rHol X hf).nx z9))))] := hD
    refine lv_iinc hx hb d_Le_handOver_53 hl (k := 1) (v := (nI (sm + 1))) rfl (nI_1 sm) (by decide) rfl (fun ls hl => ?_)
    replace hl : lv_has ls 5 [(3, .int (nI (sm + 1))), (4, .int (nI i)), (0, .ref (g 0)), (1, .int (nI a)), (2, .int (nI w))] := hl
    refine lv_iinc hx hb d_Le_handOver_56 hl (k := 1) (v := (nI (i + 1))) rfl (nI_1 i) (by decide) rfl (fun ls hl => ?_)
    replace hl : lv_has ls 5 [(4, .int (nI (i + 1))), (3, .int (nI (sm + 1))), (0, .ref (g 0)), (1, .int (nI a)), (2, .int (nI w))] := hl
    refine lv_goto hx hb d_Le_handOver_59 rfl ?_
    replace hP : va_P (dC, dI) classes (wLe cI g (rHol X (va_up hf i w)) pol td qd wk) H := hP
    replace hD : va_D A (wLe cI g (rHol X (va_up hf i w)) pol td qd wk) := hD
    refine ih _ _ _ _ _ _ ?_ ?_ ?_ hP hD hS hl
    · omega
    · exact (by rw [← hres]; simp only [hov]; rw [if_pos ⟨h26, h39⟩])
    · exact up_all (P := (· < 10000)) hhb hw
