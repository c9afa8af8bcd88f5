/-! the law's own methods -/
abbrev xnP : List (String × String) := [("java/lang/IllegalStateException", "java/lang/IllegalArgumentException"), ("java/lang/UnsupportedOperationException", "java/lang/IllegalArgumentException"), ("java/lang/IndexOutOfBoundsException", "java/lang/IllegalArgumentException"), ("java/lang/IllegalArgumentException", "java/lang/IllegalStateException"), ("java/lang/UnsupportedOperationException", "java/lang/IllegalStateException"), ("java/lang/IndexOutOfBoundsException", "java/lang/IllegalStateException"), ("java/lang/IllegalArgumentException", "java/lang/UnsupportedOperationException"), ("java/lang/IllegalStateException", "java/lang/UnsupportedOperationException"), ("java/lang/IndexOutOfBoundsException", "java/lang/UnsupportedOperationException"), ("java/lang/IllegalArgumentException", "java/lang/IndexOutOfBoundsException"), ("java/lang/IllegalStateException", "java/lang/IndexOutOfBoundsException"), ("java/lang/UnsupportedOperationException", "java/lang/IndexOutOfBoundsException")]
def XN (U : State) : Prop := ∀ p ∈ xnP, va_Nc p.1 p.2 U
theorem XN.moved {u U : State} (hvm : u.vm.Alike U.vm) (h : XN u) : XN U := fun p hp => va_Nc.moved hvm (h p hp)
abbrev wLw (cI cJ : ClassId) (o : Nat) (g g2 : Nat → Nat) (jh ja : Nat) (u : US) (oa : Nat) (f : Nat → Int64) : va_W := wUS cI o g g2 jh ja u ++ [(oa, .inl (cJ, 1, .inr (.inl f)))]
def PcL (D : va_G) (tys : List (ClassId × FieldType)) (ws : va_W) (av : List Value) (sz : Nat) : Array Value → State → Prop := va_Pc av (fun U => U.heap.size = sz ∧ va_P D classes ws U.heap ∧ va_K D classes tys U ∧ va_D (fun _ => True) ws ∧ NW U ∧ SX (va_A ws sz) U ∧ XN U)
theorem PcL.blind {D : va_G} {tys : List (ClassId × FieldType)} {ws : va_W} {av : List Value} {sz : Nat} : FrameBlind (PcL D tys ws av sz) := fun a U g mk q => by
  obtain ⟨q0, qz, qP, qK, qD, qN, qS, qX⟩ := q
  exact ⟨q0, qz, qP, va_K.moved (u := U) (U := U.calling g mk a) (Vm.Alike.refl U.vm) qK, qD, NW.same (u := U) (U := U.calling g mk a) rfl qN, qS.blind, XN.moved (u := U) (U := U.calling g mk a) (Vm.Alike.refl U.vm) qX⟩
theorem PcL.use {D : va_G} {tys : List (ClassId × FieldType)} {ws : va_W} {av : List Value} {s : State} {H : Heap} {A : Nat → Prop} {locs : List Loc} (hP : va_P D classes ws H) (hK : va_K D classes tys s) (hN : NW s) (hD : va_D A ws) (hX : SX A s) (hXN : XN s) (hS : va_S A s.heap H locs) (hF : ∀ q, va_A ws H.size q → A q) : ∀ U : State, U.heap = H → s.WarmedH U.vm → PcL D tys ws av H.size av.toArray U := fun U hU hW => ⟨rfl, by rw [hU], by rw [hU]; exact hP, va_K.moved hW.alike hK, hD.weaken (fun _ _ _ _ => trivial), hN.warm hW, hX.use hS.2.1 hF hU hW, hXN.moved hW.alike⟩
abbrev XCf : String → State → State → Prop := vx_X (S := Unit) (fun _ => False) (fun _ _ _ => True) (fun _ => False)
def QlI (D : va_G) (cI cJ : ClassId) (o : Nat) (g g2 : Nat → Nat) (jh ja oa : Nat) (ws : va_W) (sz : Nat) (WR : Nat → Int64 → US → Prop) : Array Value → State → Outcome → State → Prop := va_Qi (S := Nat × Int64 × US × (Nat → Int64)) (fun r9 z => r9 = nI z.1 ∧ WR z.1 z.2.1 z.2.2.1 ∧ (z.1 = 0 → z.2.2.2 0 = z.2.1) ∧ z.1 < 5) (fun z t => va_P D classes (wLw cI cJ o g g2 jh ja z.2.2.1 oa z.2.2.2) t.heap ∧ va_K D classes [(cI, .int), (cJ, .long)] t ∧ va_D (va_A ws sz) (wLw cI cJ o g g2 jh ja z.2.2.1 oa z.2.2.2)) (va_A ws sz)
def QlV (D : va_G) (cI : ClassId) (o : Nat) (g g2 : Nat → Nat) (jh ja : Nat) (ws : va_W) (sz : Nat) (WR : Nat → US → Prop) : Array Value → State → Outcome → State → Prop := va_Qi (S := Nat × US) (fun r9 z => r9 = nI z.1 ∧ WR z.1 z.2) (fun z t => va_P D classes (wUS cI o g g2 jh ja z.2) t.heap ∧ va_K D classes [(cI, .int)] t ∧ va_D (va_A ws sz) (wUS cI o g g2 jh ja z.2)) (va_A ws sz)
set_option maxHeartbeats 4000000 in
set_option maxRecDepth 100000 in
theorem c_Lw_root (l : Launch) (hlt : l.stackTraces = false) (dC : Nat → ClassId) (dI : Nat → Nat → Nat) (sz : Nat) (cI : ClassId) (o : Nat) (g : Nat → Nat) (S : LDS) (g2 : Nat → Nat) (S2 : LDS) (jh ja : Nat) (pt : Nat → Int32) (jn : Nat) (hS9 : LDok S) (hjn : jn ≤ 300) (cJ : ClassId) (oa : Nat) (f0 : Nat → Int64) (hL9 : LIV S.X) (p n w : Nat) (hp0 : p < 4294967296) (hn0 : n < 4294967296) (hw0 : w < 4294967296) : vx_Met l y_Lw_root (.codeWith y_Lw_root b_Lw_root 6 (some .int) [(0, 12, 15, 13), (0, 12, 19, 15), (0, 12, 23, 17)] :: wG) ({ frames := 9, cells := 1, slots := 6, locals := 223 }) (PcL (dC, dI) [(cI, .int), (cJ, .long)] (wLw cI cJ o g g2 jh ja (S, S2, pt, jn) oa f0) [.ref o, .int (nI p), .int (nI n), .int (nI w), .ref oa] sz) (QlI (dC, dI) cI cJ o g g2 jh ja oa (wLw cI cJ o g g2 jh ja (S, S2, pt, jn) oa f0) sz (wRoot S S2 pt jn p n w)) XCf 1 6 (va_A (wLw cI cJ o g g2 jh ja (S, S2, pt, jn) oa f0) sz) := by
  refine vx_ofWH (cc := b_Lw_root) (maxL := 6) (ret := (some .int)) (hh := [(0, 12, 15, 13), (0, 12, 19, 15), (0, 12, 23, 17)]) (by decide) rfl ?_
  intro pg eg s mg ag bg meth cg s₁ B hml hv
  obtain ⟨rfl, hsz, hP, hK, hD0, hN, hX0, hXN⟩ := hv
  have hx := B.exec
  have hb := B.bytes
  have hr := B.returns
  have hts : ∀ w9 ∈ wG, w9.before ([.ref o, .int (nI p), .int (nI n), .int (nI w), .ref oa] : List Value).toArray s = true := fun w9 h9 => atoms_spec (ws := (.codeWith y_Lw_root b_Lw_root 6 (some .int) [(0, 12, 15, 13), (0, 12, 19, 15), (0, 12, 23, 17)] :: wG)) B.pre w9 (List.mem_cons_of_mem _ h9)
  have htab : cg.exceptionTable.toList = tableOf [(0, 12, 15, 13), (0, 12, 19, 15), (0, 12, 23, 17)] := vx_table (x := y_Lw_root) B (atoms_spec (ws := (.codeWith y_Lw_root b_Lw_root 6 (some .int) [(0, 12, 15, 13), (0, 12, 19, 15), (0, 12, 23, 17)] :: wG)) B.pre _ List.mem_cons_self)
  have hown : s.vm.findClass "PrefixRegistryLaw" = some mg.cls := findClass_of_methodNamed B.named
  subst hsz
  have hD := hD0.self (sz := s.heap.size)
  unfold QlI
  generalize hAe : va_A (wLw cI cJ o g g2 jh ja (S, S2, pt, jn) oa f0) s.heap.size = A at hD hX0 ⊢
  have hA : ∀ q : Nat, s.heap.size ≤ q → A q := fun q h => by rw [← hAe]; exact Or.inr h
  have hS : va_S A s.heap s.heap [] := va_S.rf
  have hl := lv_entry ([.ref o, .int (nI p), .int (nI n), .int (nI w), .ref oa]) (n := 6) (Nat.le_of_ble_eq_true rfl)
  rw [lg_entry_eq]
  generalize (lg_sl ([.ref o, .int (nI p), .int (nI n), .int (nI w), .ref oa]) ++ List.replicate (6 - (lg_sl ([.ref o, .int (nI p), .int (nI n), .int (nI w), .ref oa])).length) Slot.unset).toArray = ls at hl ⊢
  replace hl : lv_has ls 6 [(0, .ref o), (1, .int (nI p)), (2, .int (nI n)), (3, .int (nI w)), (4, .ref oa)] := hl
  replace hP : va_P (dC, dI) classes (wLw cI cJ o g g2 jh ja (S, S2, pt, jn) oa f0) s.heap := hP
  replace hD : va_D A (wLw cI cJ o g g2 jh ja (S, S2, pt, jn) oa f0) := hD
  refine lv_aload hx hb d_Lw_root_0 (lv_at hl 4 rfl) ?_
  refine lv_iconst (v := 0) hx hb d_Lw_root_2 (by decide) ?_
  refine lv_aload_n hx hb d_Lw_root_3 rfl (lv_at hl 0 rfl) ?_
  refine lv_iload_n hx hb d_Lw_root_4 rfl (lv_at hl 1 rfl) ?_
  refine lv_iload_n hx hb d_Lw_root_5 rfl (lv_at hl 2 rfl) ?_
  refine lv_iload_n hx hb d_Lw_root_6 rfl (lv_at hl 3 rfl) ?_
  have hPc := hP.sub (ws' := (wPR cI o g S g2 S2 jh ja pt jn)) [0, 1, 2, 3, 4, 5, 6, 7, 8, 9, 10, 11, 12, 13, 14, 15, 16, 17, 18, 19, 20, 21, 22, 23, 24, 25, 26, 27, 28] rfl
  have hDc := hD.sub (ws' := (wPR cI o g S g2 S2 jh ja pt jn)) [0, 1, 2, 3, 4, 5, 6, 7, 8, 9, 10, 11, 12, 13, 14, 15, 16, 17, 18, 19, 20, 21, 22, 23, 24, 25, 26, 27, 28] (by decide) rfl
  have hFc := va_free (wc := (wPR cI o g S g2 S2 jh ja pt jn)) hD hS hA [0, 1, 2, 3, 4, 5, 6, 7, 8, 9, 10, 11, 12, 13, 14, 15, 16, 17, 18, 19, 20, 21, 22, 23, 24, 25, 26, 27, 28] rfl
  refine vx_calli (vx_runV (b := o) (As := [.int (nI p), .int (nI n), .int (nI w)]) (rest := [.int 0, .ref oa]) ⟨hx, hb, hml, hown, hts⟩ (c_PR_root l hlt dC dI s.heap.size cI o g S g2 S2 jh ja pt jn hS9 hjn p n w hp0 hn0 hw0) (cwV 3 hts (gV kw_209 kw_210 kw_211 kw_1 kw_212) rfl rfl rfl (by decide +kernel) ⟨Nat.le_of_ble_eq_true rfl, Nat.le_of_ble_eq_true rfl⟩) ⟨PcX.blind, va_recv (q0 := 0) (hK.sub (tys' := [(cI, .int)]) [0] rfl) hPc rfl rfl, PcX.use hPc (hK.sub (tys' := [(cI, .int)]) [0] rfl) hN hDc hX0 hS hFc⟩ rfl rfl hl.1 rfl (lv_room (Nat.le_of_ble_eq_true rfl)) d_Lw_root_7 ⟨Nat.le_of_ble_eq_true rfl, Nat.le_of_ble_eq_true rfl⟩) hS (fun q _ h => hFc q h) hFc (fun q h1 h2 => absurd h2 (Nat.not_le.mpr h1)) (fun E9 ce q9 u9 H9 H1 locs hH9 hv9 _ hB hz1 hk1 hS => ?_) (fun r9 u9 H9 H1 locs hH9 hv9 hp9 hB hz1 hk1 hS => ?_)
  · intro hce hcv hcl
    replace hP : va_P (dC, dI) classes (wLw cI cJ o g g2 jh ja (S, S2, pt, jn) oa f0) H1 := x_keep hP hk1
    rcases hB with ⟨rfl, h1⟩ | ⟨rfl, h1⟩ | ⟨rfl, h1⟩
    · skip
      refine vx_catch (name := "java/lang/IllegalArgumentException") hown [] ⟨0, 12, 15, 13⟩ [⟨0, 12, 19, 15⟩, ⟨0, 12, 23, 17⟩] htab (fun _ h9 => nomatch h9) (by decide) (by decide) (hts _ kw_206) (va_Nw.use rfl (hX0.2.2 _ (List.mem_append_right _ (List.mem_of_getElem? (i := 223) (by decide +kernel))) rfl)) hce hcv hcl ?_
      refine lv_astore hx hb d_Lw_root_15 hl (by decide) rfl (fun ls hl => ?_)
      refine lv_iconst (v := 1) hx hb d_Lw_root_17 (by decide) ?_
      refine vx_ret ?_
      refine W.widen (k := 1) (n := 6) (Nat.le_of_ble_eq_true rfl) (Nat.le_of_ble_eq_true rfl) ?_
      exact W.iret (v := 1) hx hb hr (fun t ht hW => ⟨⟨1, (1, (0, ((S, S2, pt, jn), f0))), rfl, ⟨rfl, Or.inr (Or.inl ⟨rfl, h1, rfl⟩), fun h9 => absurd h9 (show ¬ (1 : Nat) = 0 by decide), (show (1 : Nat) < 5 by decide)⟩, by rw [ht]; exact hP, va_K.moved hW.alike hK, hD⟩, hS.F ht⟩) hS.2.2 d_Lw_root_18
    · skip
      refine vx_catch (name := "java/lang/IllegalStateException") hown [⟨0, 12, 15, 13⟩] ⟨0, 12, 19, 15⟩ [⟨0, 12, 23, 17⟩] htab (List.forall_mem_cons.mpr ⟨Or.inr ⟨by decide, "java/lang/IllegalArgumentException", hts _ kw_206, hXN ("java/lang/IllegalStateException", "java/lang/IllegalArgumentException") (by decide)⟩, (fun _ h9 => nomatch h9)⟩) (by decide) (by decide) (hts _ kw_207) (va_Nw.use rfl (hX0.2.2 _ (List.mem_append_right _ (List.mem_of_getElem? (i := 300) (by decide +kernel))) rfl)) hce hcv hcl ?_
      refine lv_astore hx hb d_Lw_root_19 hl (by decide) rfl (fun ls hl => ?_)
      refine lv_iconst (v := 2) hx hb d_Lw_root_21 (by decide) ?_
      refine vx_ret ?_
      refine W.widen (k := 1) (n := 6) (Nat.le_of_ble_eq_true rfl) (Nat.le_of_ble_eq_true rfl) ?_
      exact W.iret (v := 2) hx hb hr (fun t ht hW => ⟨⟨2, (2, (0, ((S, S2, pt, jn), f0))), rfl, ⟨rfl, Or.inr (Or.inr (Or.inl ⟨rfl, h1, rfl⟩)), fun h9 => absurd h9 (show ¬ (2 : Nat) = 0 by decide), (show (2 : Nat) < 5 by decide)⟩, by rw [ht]; exact hP, va_K.moved hW.alike hK, hD⟩, hS.F ht⟩) hS.2.2 d_Lw_root_22
    · skip
      refine vx_catch (name := "java/lang/UnsupportedOperationException") hown [⟨0, 12, 15, 13⟩, ⟨0, 12, 19, 15⟩] ⟨0, 12, 23, 17⟩ [] htab (List.forall_mem_cons.mpr ⟨Or.inr ⟨by decide, "java/lang/IllegalArgumentException", hts _ kw_206, hXN ("java/lang/UnsupportedOperationException", "java/lang/IllegalArgumentException") (by decide)⟩, (List.forall_mem_cons.mpr ⟨Or.inr ⟨by decide, "java/lang/IllegalStateException", hts _ kw_207, hXN ("java/lang/UnsupportedOperationException", "java/lang/IllegalStateException") (by decide)⟩, (fun _ h9 => nomatch h9)⟩)⟩) (by decide) (by decide) (hts _ kw_208) (va_Nw.use rfl (hX0.2.2 _ (List.mem_append_right _ (List.mem_of_getElem? (i := 319) (by decide +kernel))) rfl)) hce hcv hcl ?_
      refine lv_astore hx hb d_Lw_root_23 hl (by decide) rfl (fun ls hl => ?_)
      refine lv_iconst (v := 3) hx hb d_Lw_root_25 (by decide) ?_
      refine vx_ret ?_
      refine W.widen (k := 1) (n := 6) (Nat.le_of_ble_eq_true rfl) (Nat.le_of_ble_eq_true rfl) ?_
      exact W.iret (v := 3) hx hb hr (fun t ht hW => ⟨⟨3, (3, (0, ((S, S2, pt, jn), f0))), rfl, ⟨rfl, Or.inr (Or.inr (Or.inr ⟨rfl, h1, rfl⟩)), fun h9 => absurd h9 (show ¬ (3 : Nat) = 0 by decide), (show (3 : Nat) < 5 by decide)⟩, by rw [ht]; exact hP, va_K.moved hW.alike hK, hD⟩, hS.F ht⟩) hS.2.2 d_Lw_root_26
  obtain ⟨hP1, hK1, hD1⟩ := hB
  rw [hH9] at hP1
  obtain ⟨hP, hD⟩ := va_join (wr := [(oa, .inl (cJ, 1, .inr (.inl f0)))]) (w1 := (wUS cI o g g2 jh ja u9)) hP hD [0, 1, 2, 3, 4, 5, 6, 7, 8, 9, 10, 11, 12, 13, 14, 15, 16, 17, 18, 19, 20, 21, 22, 23, 24, 25, 26, 27, 28] [29] rfl rfl (by decide) (by decide) hk1 hFc hP1 hD1
  replace hP : va_P (dC, dI) classes (wLw cI cJ o g g2 jh ja u9 oa f0) H1 := hP.sub (ws' := (wLw cI cJ o g g2 jh ja u9 oa f0)) [1, 2, 3, 4, 5, 6, 7, 8, 9, 10, 11, 12, 13, 14, 15, 16, 17, 18, 19, 20, 21, 22, 23, 24, 25, 26, 27, 28, 29, 0] rfl
  replace hD : va_D A (wLw cI cJ o g g2 jh ja u9 oa f0) := hD.sub (ws' := (wLw cI cJ o g g2 jh ja u9 oa f0)) [1, 2, 3, 4, 5, 6, 7, 8, 9, 10, 11, 12, 13, 14, 15, 16, 17, 18, 19, 20, 21, 22, 23, 24, 25, 26, 27, 28, 29, 0] (by decide) rfl
  refine lv_i2l hx hb d_Lw_root_10 rfl ?_
  refine va_last (i := 0) (x := r9.toInt64) hx hb hK hP hD hS 29 1 rfl rfl (by unfold vp_in; decide) d_Lw_root_11 (fun H1 locs hP hD hS => ?_)
  replace hP : va_P (dC, dI) classes (wLw cI cJ o g g2 jh ja u9 oa (vp_updL f0 0 r9.toInt64)) H1 := hP
  replace hD : va_D A (wLw cI cJ o g g2 jh ja u9 oa (vp_updL f0 0 r9.toInt64)) := hD
  refine lv_goto hx hb d_Lw_root_12 rfl ?_
  refine lv_iconst (v := 0) hx hb d_Lw_root_27 (by decide) ?_
  refine vx_ret ?_
  refine W.widen (k := 1) (n := 6) (Nat.le_of_ble_eq_true rfl) (Nat.le_of_ble_eq_true rfl) ?_
  exact W.iret (v := 0) hx hb hr (fun t ht hW => ⟨⟨0, (0, (r9.toInt64, (u9, (vp_updL f0 0 r9.toInt64)))), rfl, ⟨rfl, Or.inl ⟨rfl, ⟨hp9.1, hp9.2.1, hp9.2.2.1, hp9.2.2.2.1⟩, congrArg Int32.toInt64 hp9.2.2.2.2.1, hp9.2.2.2.2.2⟩, fun _ => rfl, (show (0 : Nat) < 5 by decide)⟩, by rw [ht]; exact hP, va_K.moved hW.alike hK, hD⟩, hS.F ht⟩) hS.2.2 d_Lw_root_28
set_option maxHeartbeats 4000000 in
set_option maxRecDepth 100000 in
theorem c_Lw_reserve (l : Launch) (hlt : l.stackTraces = false) (dC : Nat → ClassId) (dI : Nat → Nat → Nat) (sz : Nat) (cI : ClassId) (o : Nat) (g : Nat → Nat) (S : LDS) (g2 : Nat → Nat) (S2 : LDS) (jh ja : Nat) (pt : Nat → Int32) (jn : Nat) (hS9 : LDok S) (hjn : jn ≤ 300) (cJ : ClassId) (oa : Nat) (f0 : Nat → Int64) (hL9 : LIV S.X) (x p n : Nat) (hx0 : x < 4294967296) (hp0 : p < 4294967296) (hn0 : n < 4294967296) : vx_Met l y_Lw_reserve (.codeWith y_Lw_reserve b_Lw_reserve 6 (some .int) [(0, 12, 15, 17)] :: wG) ({ frames := 9, cells := 1, slots := 6, locals := 224 }) (PcL (dC, dI) [(cI, .int), (cJ, .long)] (wLw cI cJ o g g2 jh ja (S, S2, pt, jn) oa f0) [.ref o, .int (nI x), .int (nI p), .int (nI n), .ref oa] sz) (QlI (dC, dI) cI cJ o g g2 jh ja oa (wLw cI cJ o g g2 jh ja (S, S2, pt, jn) oa f0) sz (wRes S S2 pt jn x p n)) XCf 1 6 (va_A (wLw cI cJ o g g2 jh ja (S, S2, pt, jn) oa f0) sz) := by
  refine vx_ofWH (cc := b_Lw_reserve) (maxL := 6) (ret := (some .int)) (hh := [(0, 12, 15, 17)]) (by decide) rfl ?_
  intro pg eg s mg ag bg meth cg s₁ B hml hv
  obtain ⟨rfl, hsz, hP, hK, hD0, hN, hX0, hXN⟩ := hv
  have hx := B.exec
  have hb := B.bytes
  have hr := B.returns
  have hts : ∀ w9 ∈ wG, w9.before ([.ref o, .int (nI x), .int (nI p), .int (nI n), .ref oa] : List Value).toArray s = true := fun w9 h9 => atoms_spec (ws := (.codeWith y_Lw_reserve b_Lw_reserve 6 (some .int) [(0, 12, 15, 17)] :: wG)) B.pre w9 (List.mem_cons_of_mem _ h9)
  have htab : cg.exceptionTable.toList = tableOf [(0, 12, 15, 17)] := vx_table (x := y_Lw_reserve) B (atoms_spec (ws := (.codeWith y_Lw_reserve b_Lw_reserve 6 (some .int) [(0, 12, 15, 17)] :: wG)) B.pre _ List.mem_cons_self)
  have hown : s.vm.findClass "PrefixRegistryLaw" = some mg.cls := findClass_of_methodNamed B.named
  subst hsz
  have hD := hD0.self (sz := s.heap.size)
  unfold QlI
  generalize hAe : va_A (wLw cI cJ o g g2 jh ja (S, S2, pt, jn) oa f0) s.heap.size = A at hD hX0 ⊢
  have hA : ∀ q : Nat, s.heap.size ≤ q → A q := fun q h => by rw [← hAe]; exact Or.inr h
  have hS : va_S A s.heap s.heap [] := va_S.rf
  have hl := lv_entry ([.ref o, .int (nI x), .int (nI p), .int (nI n), .ref oa]) (n := 6) (Nat.le_of_ble_eq_true rfl)
  rw [lg_entry_eq]
  generalize (lg_sl ([.ref o, .int (nI x), .int (nI p), .int (nI n), .ref oa]) ++ List.replicate (6 - (lg_sl ([.ref o, .int (nI x), .int (nI p), .int (nI n), .ref oa])).length) Slot.unset).toArray = ls at hl ⊢
  replace hl : lv_has ls 6 [(0, .ref o), (1, .int (nI x)), (2, .int (nI p)), (3, .int (nI n)), (4, .ref oa)] := hl
  replace hP : va_P (dC, dI) classes (wLw cI cJ o g g2 jh ja (S, S2, pt, jn) oa f0) s.heap := hP
  replace hD : va_D A (wLw cI cJ o g g2 jh ja (S, S2, pt, jn) oa f0) := hD
  refine lv_aload hx hb d_Lw_reserve_0 (lv_at hl 4 rfl) ?_
  refine lv_iconst (v := 0) hx hb d_Lw_reserve_2 (by decide) ?_
  refine lv_aload_n hx hb d_Lw_reserve_3 rfl (lv_at hl 0 rfl) ?_
  refine lv_iload_n hx hb d_Lw_reserve_4 rfl (lv_at hl 1 rfl) ?_
  refine lv_iload_n hx hb d_Lw_reserve_5 rfl (lv_at hl 2 rfl) ?_
  refine lv_iload_n hx hb d_Lw_reserve_6 rfl (lv_at hl 3 rfl) ?_
  have hPc := hP.sub (ws' := (wPR cI o g S g2 S2 jh ja pt jn)) [0, 1, 2, 3, 4, 5, 6, 7, 8, 9, 10, 11, 12, 13, 14, 15, 16, 17, 18, 19, 20, 21, 22, 23, 24, 25, 26, 27, 28] rfl
  have hDc := hD.sub (ws' := (wPR cI o g S g2 S2 jh ja pt jn)) [0, 1, 2, 3, 4, 5, 6, 7, 8, 9, 10, 11, 12, 13, 14, 15, 16, 17, 18, 19, 20, 21, 22, 23, 24, 25, 26, 27, 28] (by decide) rfl
  have hFc := va_free (wc := (wPR cI o g S g2 S2 jh ja pt jn)) hD hS hA [0, 1, 2, 3, 4, 5, 6, 7, 8, 9, 10, 11, 12, 13, 14, 15, 16, 17, 18, 19, 20, 21, 22, 23, 24, 25, 26, 27, 28] rfl
  refine vx_calli (vx_runV (b := o) (As := [.int (nI x), .int (nI p), .int (nI n)]) (rest := [.int 0, .ref oa]) ⟨hx, hb, hml, hown, hts⟩ (c_PR_reserve l hlt dC dI s.heap.size cI o g S g2 S2 jh ja pt jn hS9 hjn (cof S.X) (fun r hr => ⟨(hL9.ch hr).1, (hL9.ch hr).len hL9.ok.n⟩) (fun r hr c q => (((hL9.ch hr).2.2 c).mp q).1) (fun x q hx hq => Nat.lt_trans (hL9.lt hx hq) hx) x p n hx0 hp0 hn0) (cwV 3 hts (gV kw_497 kw_498 kw_499 kw_1 kw_500) rfl rfl rfl (by decide +kernel) ⟨Nat.le_of_ble_eq_true rfl, Nat.le_of_ble_eq_true rfl⟩) ⟨PcX.blind, va_recv (q0 := 0) (hK.sub (tys' := [(cI, .int)]) [0] rfl) hPc rfl rfl, PcX.use hPc (hK.sub (tys' := [(cI, .int)]) [0] rfl) hN hDc hX0 hS hFc⟩ rfl rfl hl.1 rfl (lv_room (Nat.le_of_ble_eq_true rfl)) d_Lw_reserve_7 ⟨Nat.le_of_ble_eq_true rfl, Nat.le_of_ble_eq_true rfl⟩) hS (fun q _ h => hFc q h) hFc (fun q h1 h2 => absurd h2 (Nat.not_le.mpr h1)) (fun E9 ce q9 u9 H9 H1 locs hH9 hv9 _ hB hz1 hk1 hS => ?_) (fun r9 u9 H9 H1 locs hH9 hv9 hp9 hB hz1 hk1 hS => ?_)
  · intro hce hcv hcl
    replace hP : va_P (dC, dI) classes (wLw cI cJ o g g2 jh ja (S, S2, pt, jn) oa f0) H1 := x_keep hP hk1
    rcases hB with ⟨rfl, h1⟩
    · skip
      refine vx_catch (name := "java/lang/UnsupportedOperationException") hown [] ⟨0, 12, 15, 17⟩ [] htab (fun _ h9 => nomatch h9) (by decide) (by decide) (hts _ kw_208) (va_Nw.use rfl (hX0.2.2 _ (List.mem_append_right _ (List.mem_of_getElem? (i := 319) (by decide +kernel))) rfl)) hce hcv hcl ?_
      refine lv_astore hx hb d_Lw_reserve_15 hl (by decide) rfl (fun ls hl => ?_)
      refine lv_iconst (v := 1) hx hb d_Lw_reserve_17 (by decide) ?_
      refine vx_ret ?_
      refine W.widen (k := 1) (n := 6) (Nat.le_of_ble_eq_true rfl) (Nat.le_of_ble_eq_true rfl) ?_
      exact W.iret (v := 1) hx hb hr (fun t ht hW => ⟨⟨1, (1, (0, ((S, S2, pt, jn), f0))), rfl, ⟨rfl, Or.inr (Or.inr ⟨rfl, h1, rfl⟩), fun h9 => absurd h9 (show ¬ (1 : Nat) = 0 by decide), (show (1 : Nat) < 5 by decide)⟩, by rw [ht]; exact hP, va_K.moved hW.alike hK, hD⟩, hS.F ht⟩) hS.2.2 d_Lw_reserve_18
  obtain ⟨hP1, hK1, hD1⟩ := hB
  rw [hH9] at hP1
  obtain ⟨hP, hD⟩ := va_join (wr := [(oa, .inl (cJ, 1, .inr (.inl f0)))]) (w1 := (wUS cI o g g2 jh ja u9)) hP hD [0, 1, 2, 3, 4, 5, 6, 7, 8, 9, 10, 11, 12, 13, 14, 15, 16, 17, 18, 19, 20, 21, 22, 23, 24, 25, 26, 27, 28] [29] rfl rfl (by decide) (by decide) hk1 hFc hP1 hD1
  replace hP : va_P (dC, dI) classes (wLw cI cJ o g g2 jh ja u9 oa f0) H1 := hP.sub (ws' := (wLw cI cJ o g g2 jh ja u9 oa f0)) [1, 2, 3, 4, 5, 6, 7, 8, 9, 10, 11, 12, 13, 14, 15, 16, 17, 18, 19, 20, 21, 22, 23, 24, 25, 26, 27, 28, 29, 0] rfl
  replace hD : va_D A (wLw cI cJ o g g2 jh ja u9 oa f0) := hD.sub (ws' := (wLw cI cJ o g g2 jh ja u9 oa f0)) [1, 2, 3, 4, 5, 6, 7, 8, 9, 10, 11, 12, 13, 14, 15, 16, 17, 18, 19, 20, 21, 22, 23, 24, 25, 26, 27, 28, 29, 0] (by decide) rfl
  refine lv_i2l hx hb d_Lw_reserve_10 rfl ?_
  refine va_last (i := 0) (x := r9.toInt64) hx hb hK hP hD hS 29 1 rfl rfl (by unfold vp_in; decide) d_Lw_reserve_11 (fun H1 locs hP hD hS => ?_)
  replace hP : va_P (dC, dI) classes (wLw cI cJ o g g2 jh ja u9 oa (vp_updL f0 0 r9.toInt64)) H1 := hP
  replace hD : va_D A (wLw cI cJ o g g2 jh ja u9 oa (vp_updL f0 0 r9.toInt64)) := hD
  refine lv_goto hx hb d_Lw_reserve_12 rfl ?_
  refine lv_iconst (v := 0) hx hb d_Lw_reserve_19 (by decide) ?_
  refine vx_ret ?_
  refine W.widen (k := 1) (n := 6) (Nat.le_of_ble_eq_true rfl) (Nat.le_of_ble_eq_true rfl) ?_
  exact W.iret (v := 0) hx hb hr (fun t ht hW => ⟨⟨0, (0, (r9.toInt64, (u9, (vp_updL f0 0 r9.toInt64)))), rfl, ⟨rfl, hp9.elim (fun q => Or.inl ⟨rfl, q.1, congrArg Int32.toInt64 q.2.1, q.2.2⟩) (fun q => Or.inr (Or.inl ⟨rfl, ⟨q.1, q.2.1⟩, congrArg Int32.toInt64 q.2.2.1, q.2.2.2⟩)), fun _ => rfl, (show (0 : Nat) < 5 by decide)⟩, by rw [ht]; exact hP, va_K.moved hW.alike hK, hD⟩, hS.F ht⟩) hS.2.2 d_Lw_reserve_20
set_option maxHeartbeats 4000000 in
set_option maxRecDepth 100000 in
theorem c_Lw_grow (l : Launch) (hlt : l.stackTraces = false) (dC : Nat → ClassId) (dI : Nat → Nat → Nat) (sz : Nat) (cI : ClassId) (o : Nat) (g : Nat → Nat) (S : LDS) (g2 : Nat → Nat) (S2 : LDS) (jh ja : Nat) (pt : Nat → Int32) (jn : Nat) (hS9 : LDok S) (hjn : jn ≤ 300) (cJ : ClassId) (oa : Nat) (f0 : Nat → Int64) (hL9 : LIV S.X) (x : Nat) (hx0 : x < 4294967296) : vx_Met l y_Lw_grow (.codeWith y_Lw_grow b_Lw_grow 4 (some .int) [(0, 9, 12, 17)] :: wG) ({ frames := 9, cells := 1, slots := 6, locals := 222 }) (PcL (dC, dI) [(cI, .int), (cJ, .long)] (wLw cI cJ o g g2 jh ja (S, S2, pt, jn) oa f0) [.ref o, .int (nI x), .ref oa] sz) (QlI (dC, dI) cI cJ o g g2 jh ja oa (wLw cI cJ o g g2 jh ja (S, S2, pt, jn) oa f0) sz (wGro S S2 pt jn x)) XCf 1 6 (va_A (wLw cI cJ o g g2 jh ja (S, S2, pt, jn) oa f0) sz) := by
  refine vx_ofWH (cc := b_Lw_grow) (maxL := 4) (ret := (some .int)) (hh := [(0, 9, 12, 17)]) (by decide) rfl ?_
  intro pg eg s mg ag bg meth cg s₁ B hml hv
  obtain ⟨rfl, hsz, hP, hK, hD0, hN, hX0, hXN⟩ := hv
  have hx := B.exec
  have hb := B.bytes
  have hr := B.returns
  have hts : ∀ w9 ∈ wG, w9.before ([.ref o, .int (nI x), .ref oa] : List Value).toArray s = true := fun w9 h9 => atoms_spec (ws := (.codeWith y_Lw_grow b_Lw_grow 4 (some .int) [(0, 9, 12, 17)] :: wG)) B.pre w9 (List.mem_cons_of_mem _ h9)
  have htab : cg.exceptionTable.toList = tableOf [(0, 9, 12, 17)] := vx_table (x := y_Lw_grow) B (atoms_spec (ws := (.codeWith y_Lw_grow b_Lw_grow 4 (some .int) [(0, 9, 12, 17)] :: wG)) B.pre _ List.mem_cons_self)
  have hown : s.vm.findClass "PrefixRegistryLaw" = some mg.cls := findClass_of_methodNamed B.named
  subst hsz
  have hD := hD0.self (sz := s.heap.size)
  unfold QlI
  generalize hAe : va_A (wLw cI cJ o g g2 jh ja (S, S2, pt, jn) oa f0) s.heap.size = A at hD hX0 ⊢
  have hA : ∀ q : Nat, s.heap.size ≤ q → A q := fun q h => by rw [← hAe]; exact Or.inr h
  have hS : va_S A s.heap s.heap [] := va_S.rf
  have hl := lv_entry ([.ref o, .int (nI x), .ref oa]) (n := 4) (Nat.le_of_ble_eq_true rfl)
  rw [lg_entry_eq]
  generalize (lg_sl ([.ref o, .int (nI x), .ref oa]) ++ List.replicate (4 - (lg_sl ([.ref o, .int (nI x), .ref oa])).length) Slot.unset).toArray = ls at hl ⊢
  replace hl : lv_has ls 4 [(0, .ref o), (1, .int (nI x)), (2, .ref oa)] := hl
  replace hP : va_P (dC, dI) classes (wLw cI cJ o g g2 jh ja (S, S2, pt, jn) oa f0) s.heap := hP
  replace hD : va_D A (wLw cI cJ o g g2 jh ja (S, S2, pt, jn) oa f0) := hD
  refine lv_aload_n hx hb d_Lw_grow_0 rfl (lv_at hl 2 rfl) ?_
  refine lv_iconst (v := 0) hx hb d_Lw_grow_1 (by decide) ?_
  refine lv_aload_n hx hb d_Lw_grow_2 rfl (lv_at hl 0 rfl) ?_
  refine lv_iload_n hx hb d_Lw_grow_3 rfl (lv_at hl 1 rfl) ?_
  have hPc := hP.sub (ws' := (wPR cI o g S g2 S2 jh ja pt jn)) [0, 1, 2, 3, 4, 5, 6, 7, 8, 9, 10, 11, 12, 13, 14, 15, 16, 17, 18, 19, 20, 21, 22, 23, 24, 25, 26, 27, 28] rfl
  have hDc := hD.sub (ws' := (wPR cI o g S g2 S2 jh ja pt jn)) [0, 1, 2, 3, 4, 5, 6, 7, 8, 9, 10, 11, 12, 13, 14, 15, 16, 17, 18, 19, 20, 21, 22, 23, 24, 25, 26, 27, 28] (by decide) rfl
  have hFc := va_free (wc := (wPR cI o g S g2 S2 jh ja pt jn)) hD hS hA [0, 1, 2, 3, 4, 5, 6, 7, 8, 9, 10, 11, 12, 13, 14, 15, 16, 17, 18, 19, 20, 21, 22, 23, 24, 25, 26, 27, 28] rfl
  refine vx_calli (vx_runV (b := o) (As := [.int (nI x)]) (rest := [.int 0, .ref oa]) ⟨hx, hb, hml, hown, hts⟩ (c_PR_grow l hlt dC dI s.heap.size cI o g S g2 S2 jh ja pt jn hS9 hjn (cof S.X) (fun r hr => ⟨(hL9.ch hr).1, (hL9.ch hr).len hL9.ok.n⟩) (fun r hr c q => (((hL9.ch hr).2.2 c).mp q).1) (fun x q hx hq => Nat.lt_trans (hL9.lt hx hq) hx) x hx0) (cwV 1 hts (gV kw_552 kw_553 kw_554 kw_1 kw_555) rfl rfl rfl (by decide +kernel) ⟨Nat.le_of_ble_eq_true rfl, Nat.le_of_ble_eq_true rfl⟩) ⟨PcX.blind, va_recv (q0 := 0) (hK.sub (tys' := [(cI, .int)]) [0] rfl) hPc rfl rfl, PcX.use hPc (hK.sub (tys' := [(cI, .int)]) [0] rfl) hN hDc hX0 hS hFc⟩ rfl rfl hl.1 rfl (lv_room (Nat.le_of_ble_eq_true rfl)) d_Lw_grow_4 ⟨Nat.le_of_ble_eq_true rfl, Nat.le_of_ble_eq_true rfl⟩) hS (fun q _ h => hFc q h) hFc (fun q h1 h2 => absurd h2 (Nat.not_le.mpr h1)) (fun E9 ce q9 u9 H9 H1 locs hH9 hv9 _ hB hz1 hk1 hS => ?_) (fun r9 u9 H9 H1 locs hH9 hv9 hp9 hB hz1 hk1 hS => ?_)
  · intro hce hcv hcl
    replace hP : va_P (dC, dI) classes (wLw cI cJ o g g2 jh ja (S, S2, pt, jn) oa f0) H1 := x_keep hP hk1
    rcases hB with ⟨rfl, h1⟩
    · skip
      refine vx_catch (name := "java/lang/UnsupportedOperationException") hown [] ⟨0, 9, 12, 17⟩ [] htab (fun _ h9 => nomatch h9) (by decide) (by decide) (hts _ kw_208) (va_Nw.use rfl (hX0.2.2 _ (List.mem_append_right _ (List.mem_of_getElem? (i := 319) (by decide +kernel))) rfl)) hce hcv hcl ?_
      refine lv_astore_n hx hb d_Lw_grow_12 rfl hl (by decide) rfl (fun ls hl => ?_)
      refine lv_iconst (v := 1) hx hb d_Lw_grow_13 (by decide) ?_
      refine vx_ret ?_
      refine W.widen (k := 1) (n := 6) (Nat.le_of_ble_eq_true rfl) (Nat.le_of_ble_eq_true rfl) ?_
      exact W.iret (v := 1) hx hb hr (fun t ht hW => ⟨⟨1, (1, (0, ((S, S2, pt, jn), f0))), rfl, ⟨rfl, Or.inr (Or.inr ⟨rfl, h1, rfl⟩), fun h9 => absurd h9 (show ¬ (1 : Nat) = 0 by decide), (show (1 : Nat) < 5 by decide)⟩, by rw [ht]; exact hP, va_K.moved hW.alike hK, hD⟩, hS.F ht⟩) hS.2.2 d_Lw_grow_14
  obtain ⟨hP1, hK1, hD1⟩ := hB
  rw [hH9] at hP1
  obtain ⟨hP, hD⟩ := va_join (wr := [(oa, .inl (cJ, 1, .inr (.inl f0)))]) (w1 := (wUS cI o g g2 jh ja u9)) hP hD [0, 1, 2, 3, 4, 5, 6, 7, 8, 9, 10, 11, 12, 13, 14, 15, 16, 17, 18, 19, 20, 21, 22, 23, 24, 25, 26, 27, 28] [29] rfl rfl (by decide) (by decide) hk1 hFc hP1 hD1
  replace hP : va_P (dC, dI) classes (wLw cI cJ o g g2 jh ja u9 oa f0) H1 := hP.sub (ws' := (wLw cI cJ o g g2 jh ja u9 oa f0)) [1, 2, 3, 4, 5, 6, 7, 8, 9, 10, 11, 12, 13, 14, 15, 16, 17, 18, 19, 20, 21, 22, 23, 24, 25, 26, 27, 28, 29, 0] rfl
  replace hD : va_D A (wLw cI cJ o g g2 jh ja u9 oa f0) := hD.sub (ws' := (wLw cI cJ o g g2 jh ja u9 oa f0)) [1, 2, 3, 4, 5, 6, 7, 8, 9, 10, 11, 12, 13, 14, 15, 16, 17, 18, 19, 20, 21, 22, 23, 24, 25, 26, 27, 28, 29, 0] (by decide) rfl
  refine lv_i2l hx hb d_Lw_grow_7 rfl ?_
  refine va_last (i := 0) (x := r9.toInt64) hx hb hK hP hD hS 29 1 rfl rfl (by unfold vp_in; decide) d_Lw_grow_8 (fun H1 locs hP hD hS => ?_)
  replace hP : va_P (dC, dI) classes (wLw cI cJ o g g2 jh ja u9 oa (vp_updL f0 0 r9.toInt64)) H1 := hP
  replace hD : va_D A (wLw cI cJ o g g2 jh ja u9 oa (vp_updL f0 0 r9.toInt64)) := hD
  refine lv_goto hx hb d_Lw_grow_9 rfl ?_
  refine lv_iconst (v := 0) hx hb d_Lw_grow_15 (by decide) ?_
  refine vx_ret ?_
  refine W.widen (k := 1) (n := 6) (Nat.le_of_ble_eq_true rfl) (Nat.le_of_ble_eq_true rfl) ?_
  exact W.iret (v := 0) hx hb hr (fun t ht hW => ⟨⟨0, (0, (r9.toInt64, (u9, (vp_updL f0 0 r9.toInt64)))), rfl, ⟨rfl, hp9.elim (fun q => Or.inl ⟨rfl, q.1, congrArg Int32.toInt64 q.2.1, q.2.2⟩) (fun q => Or.inr (Or.inl ⟨rfl, ⟨q.1, q.2.1⟩, congrArg Int32.toInt64 q.2.2.1, q.2.2.2⟩)), fun _ => rfl, (show (0 : Nat) < 5 by decide)⟩, by rw [ht]; exact hP, va_K.moved hW.alike hK, hD⟩, hS.F ht⟩) hS.2.2 d_Lw_grow_16
set_option maxHeartbeats 4000000 in
set_option maxRecDepth 100000 in
theorem c_Lw_shrink (l : Launch) (hlt : l.stackTraces = false) (dC : Nat → ClassId) (dI : Nat → Nat → Nat) (sz : Nat) (cI : ClassId) (o : Nat) (g : Nat → Nat) (S : LDS) (g2 : Nat → Nat) (S2 : LDS) (jh ja : Nat) (pt : Nat → Int32) (jn : Nat) (hS9 : LDok S) (hjn : jn ≤ 300) (cJ : ClassId) (oa : Nat) (f0 : Nat → Int64) (hL9 : LIV S.X) (x : Nat) (hx0 : x < 4294967296) (f : Bool) : vx_Met l y_Lw_shrink (.codeWith y_Lw_shrink b_Lw_shrink 5 (some .int) [(0, 10, 13, 17)] :: wG) ({ frames := 9, cells := 1, slots := 6, locals := 223 }) (PcL (dC, dI) [(cI, .int), (cJ, .long)] (wLw cI cJ o g g2 jh ja (S, S2, pt, jn) oa f0) [.ref o, .int (nI x), .int (bi f), .ref oa] sz) (QlI (dC, dI) cI cJ o g g2 jh ja oa (wLw cI cJ o g g2 jh ja (S, S2, pt, jn) oa f0) sz (wShk S S2 pt jn x f)) XCf 1 6 (va_A (wLw cI cJ o g g2 jh ja (S, S2, pt, jn) oa f0) sz) := by
  refine vx_ofWH (cc := b_Lw_shrink) (maxL := 5) (ret := (some .int)) (hh := [(0, 10, 13, 17)]) (by decide) rfl ?_
  intro pg eg s mg ag bg meth cg s₁ B hml hv
  obtain ⟨rfl, hsz, hP, hK, hD0, hN, hX0, hXN⟩ := hv
  have hx := B.exec
  have hb := B.bytes
  have hr := B.returns
  have hts : ∀ w9 ∈ wG, w9.before ([.ref o, .int (nI x), .int (bi f), .ref oa] : List Value).toArray s = true := fun w9 h9 => atoms_spec (ws := (.codeWith y_Lw_shrink b_Lw_shrink 5 (some .int) [(0, 10, 13, 17)] :: wG)) B.pre w9 (List.mem_cons_of_mem _ h9)
  have htab : cg.exceptionTable.toList = tableOf [(0, 10, 13, 17)] := vx_table (x := y_Lw_shrink) B (atoms_spec (ws := (.codeWith y_Lw_shrink b_Lw_shrink 5 (some .int) [(0, 10, 13, 17)] :: wG)) B.pre _ List.mem_cons_self)
  have hown : s.vm.findClass "PrefixRegistryLaw" = some mg.cls := findClass_of_methodNamed B.named
  subst hsz
  have hD := hD0.self (sz := s.heap.size)
  unfold QlI
  generalize hAe : va_A (wLw cI cJ o g g2 jh ja (S, S2, pt, jn) oa f0) s.heap.size = A at hD hX0 ⊢
  have hA : ∀ q : Nat, s.heap.size ≤ q → A q := fun q h => by rw [← hAe]; exact Or.inr h
  have hS : va_S A s.heap s.heap [] := va_S.rf
  have hl := lv_entry ([.ref o, .int (nI x), .int (bi f), .ref oa]) (n := 5) (Nat.le_of_ble_eq_true rfl)
  rw [lg_entry_eq]
  generalize (lg_sl ([.ref o, .int (nI x), .int (bi f), .ref oa]) ++ List.replicate (5 - (lg_sl ([.ref o, .int (nI x), .int (bi f), .ref oa])).length) Slot.unset).toArray = ls at hl ⊢
  replace hl : lv_has ls 5 [(0, .ref o), (1, .int (nI x)), (2, .int (bi f)), (3, .ref oa)] := hl
  replace hP : va_P (dC, dI) classes (wLw cI cJ o g g2 jh ja (S, S2, pt, jn) oa f0) s.heap := hP
  replace hD : va_D A (wLw cI cJ o g g2 jh ja (S, S2, pt, jn) oa f0) := hD
  refine lv_aload_n hx hb d_Lw_shrink_0 rfl (lv_at hl 3 rfl) ?_
  refine lv_iconst (v := 0) hx hb d_Lw_shrink_1 (by decide) ?_
  refine lv_aload_n hx hb d_Lw_shrink_2 rfl (lv_at hl 0 rfl) ?_
  refine lv_iload_n hx hb d_Lw_shrink_3 rfl (lv_at hl 1 rfl) ?_
  refine lv_iload_n hx hb d_Lw_shrink_4 rfl (lv_at hl 2 rfl) ?_
  have hPc := hP.sub (ws' := (wPR cI o g S g2 S2 jh ja pt jn)) [0, 1, 2, 3, 4, 5, 6, 7, 8, 9, 10, 11, 12, 13, 14, 15, 16, 17, 18, 19, 20, 21, 22, 23, 24, 25, 26, 27, 28] rfl
  have hDc := hD.sub (ws' := (wPR cI o g S g2 S2 jh ja pt jn)) [0, 1, 2, 3, 4, 5, 6, 7, 8, 9, 10, 11, 12, 13, 14, 15, 16, 17, 18, 19, 20, 21, 22, 23, 24, 25, 26, 27, 28] (by decide) rfl
  have hFc := va_free (wc := (wPR cI o g S g2 S2 jh ja pt jn)) hD hS hA [0, 1, 2, 3, 4, 5, 6, 7, 8, 9, 10, 11, 12, 13, 14, 15, 16, 17, 18, 19, 20, 21, 22, 23, 24, 25, 26, 27, 28] rfl
  refine vx_calli (vx_runV (b := o) (As := [.int (nI x), .int (bi f)]) (rest := [.int 0, .ref oa]) ⟨hx, hb, hml, hown, hts⟩ (c_PR_shrink l hlt dC dI s.heap.size cI o g S g2 S2 jh ja pt jn hS9 hjn (cof S.X) (fun r hr => ⟨(hL9.ch hr).1, (hL9.ch hr).len hL9.ok.n⟩) (fun r hr c q => (((hL9.ch hr).2.2 c).mp q).1) (fun x q hx hq => Nat.lt_trans (hL9.lt hx hq) hx) x hx0 f) (cwV 2 hts (gV kw_567 kw_568 kw_569 kw_1 kw_570) rfl rfl rfl (by decide +kernel) ⟨Nat.le_of_ble_eq_true rfl, Nat.le_of_ble_eq_true rfl⟩) ⟨PcX.blind, va_recv (q0 := 0) (hK.sub (tys' := [(cI, .int)]) [0] rfl) hPc rfl rfl, PcX.use hPc (hK.sub (tys' := [(cI, .int)]) [0] rfl) hN hDc hX0 hS hFc⟩ rfl rfl hl.1 rfl (lv_room (Nat.le_of_ble_eq_true rfl)) d_Lw_shrink_5 ⟨Nat.le_of_ble_eq_true rfl, Nat.le_of_ble_eq_true rfl⟩) hS (fun q _ h => hFc q h) hFc (fun q h1 h2 => absurd h2 (Nat.not_le.mpr h1)) (fun E9 ce q9 u9 H9 H1 locs hH9 hv9 _ hB hz1 hk1 hS => ?_) (fun r9 u9 H9 H1 locs hH9 hv9 hp9 hB hz1 hk1 hS => ?_)
  · intro hce hcv hcl
    replace hP : va_P (dC, dI) classes (wLw cI cJ o g g2 jh ja (S, S2, pt, jn) oa f0) H1 := x_keep hP hk1
    rcases hB with ⟨rfl, h1⟩
    · skip
      refine vx_catch (name := "java/lang/UnsupportedOperationException") hown [] ⟨0, 10, 13, 17⟩ [] htab (fun _ h9 => nomatch h9) (by decide) (by decide) (hts _ kw_208) (va_Nw.use rfl (hX0.2.2 _ (List.mem_append_right _ (List.mem_of_getElem? (i := 319) (by decide +kernel))) rfl)) hce hcv hcl ?_
      refine lv_astore hx hb d_Lw_shrink_13 hl (by decide) rfl (fun ls hl => ?_)
      refine lv_iconst (v := 1) hx hb d_Lw_shrink_15 (by decide) ?_
      refine vx_ret ?_
      refine W.widen (k := 1) (n := 6) (Nat.le_of_ble_eq_true rfl) (Nat.le_of_ble_eq_true rfl) ?_
      exact W.iret (v := 1) hx hb hr (fun t ht hW => ⟨⟨1, (1, (0, ((S, S2, pt, jn), f0))), rfl, ⟨rfl, Or.inr (Or.inr ⟨rfl, h1, rfl⟩), fun h9 => absurd h9 (show ¬ (1 : Nat) = 0 by decide), (show (1 : Nat) < 5 by decide)⟩, by rw [ht]; exact hP, va_K.moved hW.alike hK, hD⟩, hS.F ht⟩) hS.2.2 d_Lw_shrink_16
  obtain ⟨hP1, hK1, hD1⟩ := hB
  rw [hH9] at hP1
  obtain ⟨hP, hD⟩ := va_join (wr := [(oa, .inl (cJ, 1, .inr (.inl f0)))]) (w1 := (wUS cI o g g2 jh ja u9)) hP hD [0, 1, 2, 3, 4, 5, 6, 7, 8, 9, 10, 11, 12, 13, 14, 15, 16, 17, 18, 19, 20, 21, 22, 23, 24, 25, 26, 27, 28] [29] rfl rfl (by decide) (by decide) hk1 hFc hP1 hD1
  replace hP : va_P (dC, dI) classes (wLw cI cJ o g g2 jh ja u9 oa f0) H1 := hP.sub (ws' := (wLw cI cJ o g g2 jh ja u9 oa f0)) [1, 2, 3, 4, 5, 6, 7, 8, 9, 10, 11, 12, 13, 14, 15, 16, 17, 18, 19, 20, 21, 22, 23, 24, 25, 26, 27, 28, 29, 0] rfl
  replace hD : va_D A (wLw cI cJ o g g2 jh ja u9 oa f0) := hD.sub (ws' := (wLw cI cJ o g g2 jh ja u9 oa f0)) [1, 2, 3, 4, 5, 6, 7, 8, 9, 10, 11, 12, 13, 14, 15, 16, 17, 18, 19, 20, 21, 22, 23, 24, 25, 26, 27, 28, 29, 0] (by decide) rfl
  refine lv_i2l hx hb d_Lw_shrink_8 rfl ?_
  refine va_last (i := 0) (x := r9.toInt64) hx hb hK hP hD hS 29 1 rfl rfl (by unfold vp_in; decide) d_Lw_shrink_9 (fun H1 locs hP hD hS => ?_)
  replace hP : va_P (dC, dI) classes (wLw cI cJ o g g2 jh ja u9 oa (vp_updL f0 0 r9.toInt64)) H1 := hP
  replace hD : va_D A (wLw cI cJ o g g2 jh ja u9 oa (vp_updL f0 0 r9.toInt64)) := hD
  refine lv_goto hx hb d_Lw_shrink_10 rfl ?_
  refine lv_iconst (v := 0) hx hb d_Lw_shrink_17 (by decide) ?_
  refine vx_ret ?_
  refine W.widen (k := 1) (n := 6) (Nat.le_of_ble_eq_true rfl) (Nat.le_of_ble_eq_true rfl) ?_
  exact W.iret (v := 0) hx hb hr (fun t ht hW => ⟨⟨0, (0, (r9.toInt64, (u9, (vp_updL f0 0 r9.toInt64)))), rfl, ⟨rfl, hp9.elim (fun q => Or.inl ⟨rfl, q.1, congrArg Int32.toInt64 q.2.1, q.2.2⟩) (fun q => Or.inr (Or.inl ⟨rfl, ⟨q.1, q.2.1⟩, congrArg Int32.toInt64 q.2.2.1, q.2.2.2⟩)), fun _ => rfl, (show (0 : Nat) < 5 by decide)⟩, by rw [ht]; exact hP, va_K.moved hW.alike hK, hD⟩, hS.F ht⟩) hS.2.2 d_Lw_shrink_18
set_option maxHeartbeats 4000000 in
set_option maxRecDepth 100000 in
theorem c_Lw_ask (l : Launch) (hlt : l.stackTraces = false) (dC : Nat → ClassId) (dI : Nat → Nat → Nat) (sz : Nat) (cI : ClassId) (o : Nat) (g : Nat → Nat) (S : LDS) (g2 : Nat → Nat) (S2 : LDS) (jh ja : Nat) (pt : Nat → Int32) (jn : Nat) (hS9 : LDok S) (hjn : jn ≤ 300) (cJ : ClassId) (oa : Nat) (f0 : Nat → Int64) (hL9 : LIV S.X) (x n : Nat) (hx0 : x < 4294967296) (hn0 : n < 4294967296) (f : Bool) : vx_Met l y_Lw_ask (.codeWith y_Lw_ask b_Lw_ask 6 (some .int) [(0, 12, 15, 17)] :: wG) ({ frames := 9, cells := 1, slots := 6, locals := 224 }) (PcL (dC, dI) [(cI, .int), (cJ, .long)] (wLw cI cJ o g g2 jh ja (S, S2, pt, jn) oa f0) [.ref o, .int (nI x), .int (nI n), .int (bi f), .ref oa] sz) (QlI (dC, dI) cI cJ o g g2 jh ja oa (wLw cI cJ o g g2 jh ja (S, S2, pt, jn) oa f0) sz (wAsk S S2 pt jn x n f)) XCf 1 6 (va_A (wLw cI cJ o g g2 jh ja (S, S2, pt, jn) oa f0) sz) := by
  refine vx_ofWH (cc := b_Lw_ask) (maxL := 6) (ret := (some .int)) (hh := [(0, 12, 15, 17)]) (by decide) rfl ?_
  intro pg eg s mg ag bg meth cg s₁ B hml hv
  obtain ⟨rfl, hsz, hP, hK, hD0, hN, hX0, hXN⟩ := hv
  have hx := B.exec
  have hb := B.bytes
  have hr := B.returns
  have hts : ∀ w9 ∈ wG, w9.before ([.ref o, .int (nI x), .int (nI n), .int (bi f), .ref oa] : List Value).toArray s = true := fun w9 h9 => atoms_spec (ws := (.codeWith y_Lw_ask b_Lw_ask 6 (some .int) [(0, 12, 15, 17)] :: wG)) B.pre w9 (List.mem_cons_of_mem _ h9)
  have htab : cg.exceptionTable.toList = tableOf [(0, 12, 15, 17)] := vx_table (x := y_Lw_ask) B (atoms_spec (ws := (.codeWith y_Lw_ask b_Lw_ask 6 (some .int) [(0, 12, 15, 17)] :: wG)) B.pre _ List.mem_cons_self)
  have hown : s.vm.findClass "PrefixRegistryLaw" = some mg.cls := findClass_of_methodNamed B.named
  subst hsz
  have hD := hD0.self (sz := s.heap.size)
  unfold QlI
  generalize hAe : va_A (wLw cI cJ o g g2 jh ja (S, S2, pt, jn) oa f0) s.heap.size = A at hD hX0 ⊢
  have hA : ∀ q : Nat, s.heap.size ≤ q → A q := fun q h => by rw [← hAe]; exact Or.inr h
  have hS : va_S A s.heap s.heap [] := va_S.rf
  have hl := lv_entry ([.ref o, .int (nI x), .int (nI n), .int (bi f), .ref oa]) (n := 6) (Nat.le_of_ble_eq_true rfl)
  rw [lg_entry_eq]
  generalize (lg_sl ([.ref o, .int (nI x), .int (nI n), .int (bi f), .ref oa]) ++ List.replicate (6 - (lg_sl ([.ref o, .int (nI x), .int (nI n), .int (bi f), .ref oa])).length) Slot.unset).toArray = ls at hl ⊢
  replace hl : lv_has ls 6 [(0, .ref o), (1, .int (nI x)), (2, .int (nI n)), (3, .int (bi f)), (4, .ref oa)] := hl
  replace hP : va_P (dC, dI) classes (wLw cI cJ o g g2 jh ja (S, S2, pt, jn) oa f0) s.heap := hP
  replace hD : va_D A (wLw cI cJ o g g2 jh ja (S, S2, pt, jn) oa f0) := hD
  refine lv_aload hx hb d_Lw_ask_0 (lv_at hl 4 rfl) ?_
  refine lv_iconst (v := 0) hx hb d_Lw_ask_2 (by decide) ?_
  refine lv_aload_n hx hb d_Lw_ask_3 rfl (lv_at hl 0 rfl) ?_
  refine lv_iload_n hx hb d_Lw_ask_4 rfl (lv_at hl 1 rfl) ?_
  refine lv_iload_n hx hb d_Lw_ask_5 rfl (lv_at hl 2 rfl) ?_
  refine lv_iload_n hx hb d_Lw_ask_6 rfl (lv_at hl 3 rfl) ?_
  have hPc := hP.sub (ws' := (wPR cI o g S g2 S2 jh ja pt jn)) [0, 1, 2, 3, 4, 5, 6, 7, 8, 9, 10, 11, 12, 13, 14, 15, 16, 17, 18, 19, 20, 21, 22, 23, 24, 25, 26, 27, 28] rfl
  have hDc := hD.sub (ws' := (wPR cI o g S g2 S2 jh ja pt jn)) [0, 1, 2, 3, 4, 5, 6, 7, 8, 9, 10, 11, 12, 13, 14, 15, 16, 17, 18, 19, 20, 21, 22, 23, 24, 25, 26, 27, 28] (by decide) rfl
  have hFc := va_free (wc := (wPR cI o g S g2 S2 jh ja pt jn)) hD hS hA [0, 1, 2, 3, 4, 5, 6, 7, 8, 9, 10, 11, 12, 13, 14, 15, 16, 17, 18, 19, 20, 21, 22, 23, 24, 25, 26, 27, 28] rfl
  refine vx_calli (vx_runV (b := o) (As := [.int (nI x), .int (nI n), .int (bi f)]) (rest := [.int 0, .ref oa]) ⟨hx, hb, hml, hown, hts⟩ (c_PR_ask l hlt dC dI s.heap.size cI o g S g2 S2 jh ja pt jn hS9 hjn (cof S.X) (fun r hr => ⟨(hL9.ch hr).1, (hL9.ch hr).len hL9.ok.n⟩) (fun r hr c q => (((hL9.ch hr).2.2 c).mp q).1) (fun x q hx hq => Nat.lt_trans (hL9.lt hx hq) hx) (bkX S.X) (fun r hr => ⟨hL9.bk hr, hL9.bkl hr⟩) hL9.hst (fun r hr => hL9.bkb hr) x n hx0 hn0 f) (cwV 3 hts (gV kw_456 kw_457 kw_458 kw_1 kw_459) rfl rfl rfl (by decide +kernel) ⟨Nat.le_of_ble_eq_true rfl, Nat.le_of_ble_eq_true rfl⟩) ⟨PcX.blind, va_recv (q0 := 0) (hK.sub (tys' := [(cI, .int)]) [0] rfl) hPc rfl rfl, PcX.use hPc (hK.sub (tys' := [(cI, .int)]) [0] rfl) hN hDc hX0 hS hFc⟩ rfl rfl hl.1 rfl (lv_room (Nat.le_of_ble_eq_true rfl)) d_Lw_ask_7 ⟨Nat.le_of_ble_eq_true rfl, Nat.le_of_ble_eq_true rfl⟩) hS (fun q _ h => hFc q h) hFc (fun q _ h => hFc q h) (fun E9 ce q9 u9 H9 H1 locs hH9 hv9 _ hB hz1 hk1 hS => ?_) (fun r9 u9 H9 H1 locs hH9 hv9 hp9 hB hz1 hk1 hS => ?_)
  · intro hce hcv hcl
    obtain ⟨hB, hP1, hK1, hD1⟩ := hB
    rw [hH9] at hP1
    obtain ⟨hP, hD⟩ := va_join (wr := [(oa, .inl (cJ, 1, .inr (.inl f0)))]) (w1 := (wUS cI o g g2 jh ja u9)) hP hD [0, 1, 2, 3, 4, 5, 6, 7, 8, 9, 10, 11, 12, 13, 14, 15, 16, 17, 18, 19, 20, 21, 22, 23, 24, 25, 26, 27, 28] [29] rfl rfl (by decide) (by decide) hk1 hFc hP1 hD1
    replace hP : va_P (dC, dI) classes (wLw cI cJ o g g2 jh ja u9 oa f0) H1 := hP.sub (ws' := (wLw cI cJ o g g2 jh ja u9 oa f0)) [1, 2, 3, 4, 5, 6, 7, 8, 9, 10, 11, 12, 13, 14, 15, 16, 17, 18, 19, 20, 21, 22, 23, 24, 25, 26, 27, 28, 29, 0] rfl
    replace hD : va_D A (wLw cI cJ o g g2 jh ja u9 oa f0) := hD.sub (ws' := (wLw cI cJ o g g2 jh ja u9 oa f0)) [1, 2, 3, 4, 5, 6, 7, 8, 9, 10, 11, 12, 13, 14, 15, 16, 17, 18, 19, 20, 21, 22, 23, 24, 25, 26, 27, 28, 29, 0] (by decide) rfl
    rcases hB with ⟨rfl, h1⟩
    · skip
      refine vx_catch (name := "java/lang/UnsupportedOperationException") hown [] ⟨0, 12, 15, 17⟩ [] htab (fun _ h9 => nomatch h9) (by decide) (by decide) (hts _ kw_208) (va_Nw.use rfl (hX0.2.2 _ (List.mem_append_right _ (List.mem_of_getElem? (i := 319) (by decide +kernel))) rfl)) hce hcv hcl ?_
      refine lv_astore hx hb d_Lw_ask_15 hl (by decide) rfl (fun ls hl => ?_)
      refine lv_iconst (v := 1) hx hb d_Lw_ask_17 (by decide) ?_
      refine vx_ret ?_
      refine W.widen (k := 1) (n := 6) (Nat.le_of_ble_eq_true rfl) (Nat.le_of_ble_eq_true rfl) ?_
      exact W.iret (v := 1) hx hb hr (fun t ht hW => ⟨⟨1, (1, (0, (u9, f0))), rfl, ⟨rfl, Or.inr (Or.inr ⟨rfl, ⟨h1.1, h1.2.1⟩, h1.2.2⟩), fun h9 => absurd h9 (show ¬ (1 : Nat) = 0 by decide), (show (1 : Nat) < 5 by decide)⟩, by rw [ht]; exact hP, va_K.moved hW.alike hK, hD⟩, hS.F ht⟩) hS.2.2 d_Lw_ask_18
  obtain ⟨hP1, hK1, hD1⟩ := hB
  rw [hH9] at hP1
  obtain ⟨hP, hD⟩ := va_join (wr := [(oa, .inl (cJ, 1, .inr (.inl f0)))]) (w1 := (wUS cI o g g2 jh ja u9)) hP hD [0, 1, 2, 3, 4, 5, 6, 7, 8, 9, 10, 11, 12, 13, 14, 15, 16, 17, 18, 19, 20, 21, 22, 23, 24, 25, 26, 27, 28] [29] rfl rfl (by decide) (by decide) hk1 hFc hP1 hD1
  replace hP : va_P (dC, dI) classes (wLw cI cJ o g g2 jh ja u9 oa f0) H1 := hP.sub (ws' := (wLw cI cJ o g g2 jh ja u9 oa f0)) [1, 2, 3, 4, 5, 6, 7, 8, 9, 10, 11, 12, 13, 14, 15, 16, 17, 18, 19, 20, 21, 22, 23, 24, 25, 26, 27, 28, 29, 0] rfl
  replace hD : va_D A (wLw cI cJ o g g2 jh ja u9 oa f0) := hD.sub (ws' := (wLw cI cJ o g g2 jh ja u9 oa f0)) [1, 2, 3, 4, 5, 6, 7, 8, 9, 10, 11, 12, 13, 14, 15, 16, 17, 18, 19, 20, 21, 22, 23, 24, 25, 26, 27, 28, 29, 0] (by decide) rfl
  refine lv_i2l hx hb d_Lw_ask_10 rfl ?_
  refine va_last (i := 0) (x := r9.toInt64) hx hb hK hP hD hS 29 1 rfl rfl (by unfold vp_in; decide) d_Lw_ask_11 (fun H1 locs hP hD hS => ?_)
  replace hP : va_P (dC, dI) classes (wLw cI cJ o g g2 jh ja u9 oa (vp_updL f0 0 r9.toInt64)) H1 := hP
  replace hD : va_D A (wLw cI cJ o g g2 jh ja u9 oa (vp_updL f0 0 r9.toInt64)) := hD
  refine lv_goto hx hb d_Lw_ask_12 rfl ?_
  refine lv_iconst (v := 0) hx hb d_Lw_ask_19 (by decide) ?_
  refine vx_ret ?_
  refine W.widen (k := 1) (n := 6) (Nat.le_of_ble_eq_true rfl) (Nat.le_of_ble_eq_true rfl) ?_
  exact W.iret (v := 0) hx hb hr (fun t ht hW => ⟨⟨0, (0, (r9.toInt64, (u9, (vp_updL f0 0 r9.toInt64)))), rfl, ⟨rfl, hp9.elim (fun q => Or.inl ⟨rfl, q.1, congrArg Int32.toInt64 q.2.1, q.2.2⟩) (fun q => Or.inr (Or.inl ⟨rfl, ⟨q.1, q.2.1⟩, congrArg Int32.toInt64 q.2.2.1, q.2.2.2⟩)), fun _ => rfl, (show (0 : Nat) < 5 by decide)⟩, by rw [ht]; exact hP, va_K.moved hW.alike hK, hD⟩, hS.F ht⟩) hS.2.2 d_Lw_ask_20
set_option maxHeartbeats 4000000 in
set_option maxRecDepth 100000 in
theorem c_Lw_give (l : Launch) (hlt : l.stackTraces = false) (dC : Nat → ClassId) (dI : Nat → Nat → Nat) (sz : Nat) (cI : ClassId) (o : Nat) (g : Nat → Nat) (S : LDS) (g2 : Nat → Nat) (S2 : LDS) (jh ja : Nat) (pt : Nat → Int32) (jn : Nat) (hS9 : LDok S) (hjn : jn ≤ 300) (hL9 : LIV S.X) (x : Nat) (hx0 : x < 4294967296) : vx_Met l y_Lw_give (.codeWith y_Lw_give b_Lw_give 3 (some .int) [(0, 5, 8, 30), (0, 5, 11, 15), (0, 5, 14, 17)] :: wG) ({ frames := 9, cells := 2, slots := 12, locals := 221 }) (PcL (dC, dI) [(cI, .int)] (wUS cI o g g2 jh ja (S, S2, pt, jn)) [.ref o, .int (nI x)] sz) (QlV (dC, dI) cI o g g2 jh ja (wUS cI o g g2 jh ja (S, S2, pt, jn)) sz (wGiv S S2 pt jn x)) XCf 2 12 (va_A (wUS cI o g g2 jh ja (S, S2, pt, jn)) sz) := by
  refine vx_ofWH (cc := b_Lw_give) (maxL := 3) (ret := (some .int)) (hh := [(0, 5, 8, 30), (0, 5, 11, 15), (0, 5, 14, 17)]) (by decide) rfl ?_
  intro pg eg s mg ag bg meth cg s₁ B hml hv
  obtain ⟨rfl, hsz, hP, hK, hD0, hN, hX0, hXN⟩ := hv
  have hx := B.exec
  have hb := B.bytes
  have hr := B.returns
  have hts : ∀ w9 ∈ wG, w9.before ([.ref o, .int (nI x)] : List Value).toArray s = true := fun w9 h9 => atoms_spec (ws := (.codeWith y_Lw_give b_Lw_give 3 (some .int) [(0, 5, 8, 30), (0, 5, 11, 15), (0, 5, 14, 17)] :: wG)) B.pre w9 (List.mem_cons_of_mem _ h9)
  have htab : cg.exceptionTable.toList = tableOf [(0, 5, 8, 30), (0, 5, 11, 15), (0, 5, 14, 17)] := vx_table (x := y_Lw_give) B (atoms_spec (ws := (.codeWith y_Lw_give b_Lw_give 3 (some .int) [(0, 5, 8, 30), (0, 5, 11, 15), (0, 5, 14, 17)] :: wG)) B.pre _ List.mem_cons_self)
  have hown : s.vm.findClass "PrefixRegistryLaw" = some mg.cls := findClass_of_methodNamed B.named
  subst hsz
  have hD := hD0.self (sz := s.heap.size)
  unfold QlV
  generalize hAe : va_A (wUS cI o g g2 jh ja (S, S2, pt, jn)) s.heap.size = A at hD hX0 ⊢
  have hA : ∀ q : Nat, s.heap.size ≤ q → A q := fun q h => by rw [← hAe]; exact Or.inr h
  have hS : va_S A s.heap s.heap [] := va_S.rf
  have hl := lv_entry ([.ref o, .int (nI x)]) (n := 3) (Nat.le_of_ble_eq_true rfl)
  rw [lg_entry_eq]
  generalize (lg_sl ([.ref o, .int (nI x)]) ++ List.replicate (3 - (lg_sl ([.ref o, .int (nI x)])).length) Slot.unset).toArray = ls at hl ⊢
  replace hl : lv_has ls 3 [(0, .ref o), (1, .int (nI x))] := hl
  replace hP : va_P (dC, dI) classes (wUS cI o g g2 jh ja (S, S2, pt, jn)) s.heap := hP
  replace hD : va_D A (wUS cI o g g2 jh ja (S, S2, pt, jn)) := hD
  refine lv_aload_n hx hb d_Lw_give_0 rfl (lv_at hl 0 rfl) ?_
  refine lv_iload_n hx hb d_Lw_give_1 rfl (lv_at hl 1 rfl) ?_
  have hPc := hP.sub (ws' := (wPR cI o g S g2 S2 jh ja pt jn)) [0, 1, 2, 3, 4, 5, 6, 7, 8, 9, 10, 11, 12, 13, 14, 15, 16, 17, 18, 19, 20, 21, 22, 23, 24, 25, 26, 27, 28] rfl
  have hDc := hD.sub (ws' := (wPR cI o g S g2 S2 jh ja pt jn)) [0, 1, 2, 3, 4, 5, 6, 7, 8, 9, 10, 11, 12, 13, 14, 15, 16, 17, 18, 19, 20, 21, 22, 23, 24, 25, 26, 27, 28] (by decide) rfl
  have hFc := va_free (wc := (wPR cI o g S g2 S2 jh ja pt jn)) hD hS hA [0, 1, 2, 3, 4, 5, 6, 7, 8, 9, 10, 11, 12, 13, 14, 15, 16, 17, 18, 19, 20, 21, 22, 23, 24, 25, 26, 27, 28] rfl
  refine vx_callv (vx_runV (b := o) (As := [.int (nI x)]) (rest := []) ⟨hx, hb, hml, hown, hts⟩ (c_PR_give l hlt dC dI s.heap.size cI o g S g2 S2 jh ja pt jn hS9 hjn x hx0) (cwV 1 hts (gV kw_514 kw_515 kw_516 kw_1 kw_517) rfl rfl rfl (by decide +kernel) ⟨Nat.le_of_ble_eq_true rfl, Nat.le_of_ble_eq_true rfl⟩) ⟨PcX.blind, va_recv (q0 := 0) hK hPc rfl rfl, PcX.use hPc hK hN hDc hX0 hS hFc⟩ rfl rfl hl.1 rfl (lv_room (Nat.le_of_ble_eq_true rfl)) d_Lw_give_2 ⟨Nat.le_of_ble_eq_true rfl, Nat.le_of_ble_eq_true rfl⟩) hS (fun q _ h => hFc q h) hFc (fun q h1 h2 => absurd h2 (Nat.not_le.mpr h1)) (fun E9 ce q9 u9 H9 H1 locs hH9 hv9 _ hB hz1 hk1 hS => ?_) (fun u9 H9 H1 locs hH9 hv9 hp9 hB hz1 hk1 hS => ?_)
  · intro hce hcv hcl
    replace hP : va_P (dC, dI) classes (wUS cI o g g2 jh ja (S, S2, pt, jn)) H1 := x_keep hP hk1
    rcases hB with ⟨rfl, h1⟩ | ⟨rfl, h1⟩ | ⟨rfl, h1⟩
    · skip
      refine vx_catch (name := "java/lang/IndexOutOfBoundsException") hown [] ⟨0, 5, 8, 30⟩ [⟨0, 5, 11, 15⟩, ⟨0, 5, 14, 17⟩] htab (fun _ h9 => nomatch h9) (by decide) (by decide) (hts _ kw_513) (va_Nw.use rfl (hX0.2.2 _ (List.mem_append_right _ (List.mem_of_getElem? (i := 525) (by decide +kernel))) rfl)) hce hcv hcl ?_
      refine lv_astore_n hx hb d_Lw_give_8 rfl hl (by decide) rfl (fun ls hl => ?_)
      refine lv_iconst (v := 1) hx hb d_Lw_give_9 (by decide) ?_
      refine vx_ret ?_
      refine W.widen (k := 2) (n := 12) (Nat.le_of_ble_eq_true rfl) (Nat.le_of_ble_eq_true rfl) ?_
      exact W.iret (v := 1) hx hb hr (fun t ht hW => ⟨⟨1, (1, (S, S2, pt, jn)), rfl, ⟨rfl, Or.inr (Or.inl ⟨rfl, h1, rfl⟩)⟩, by rw [ht]; exact hP, va_K.moved hW.alike hK, hD⟩, hS.F ht⟩) hS.2.2 d_Lw_give_10
    · skip
      refine vx_catch (name := "java/lang/IllegalStateException") hown [⟨0, 5, 8, 30⟩] ⟨0, 5, 11, 15⟩ [⟨0, 5, 14, 17⟩] htab (List.forall_mem_cons.mpr ⟨Or.inr ⟨by decide, "java/lang/IndexOutOfBoundsException", hts _ kw_513, hXN ("java/lang/IllegalStateException", "java/lang/IndexOutOfBoundsException") (by decide)⟩, (fun _ h9 => nomatch h9)⟩) (by decide) (by decide) (hts _ kw_207) (va_Nw.use rfl (hX0.2.2 _ (List.mem_append_right _ (List.mem_of_getElem? (i := 300) (by decide +kernel))) rfl)) hce hcv hcl ?_
      refine lv_astore_n hx hb d_Lw_give_11 rfl hl (by decide) rfl (fun ls hl => ?_)
      refine lv_iconst (v := 2) hx hb d_Lw_give_12 (by decide) ?_
      refine vx_ret ?_
      refine W.widen (k := 2) (n := 12) (Nat.le_of_ble_eq_true rfl) (Nat.le_of_ble_eq_true rfl) ?_
      exact W.iret (v := 2) hx hb hr (fun t ht hW => ⟨⟨2, (2, (S, S2, pt, jn)), rfl, ⟨rfl, Or.inr (Or.inr (Or.inl ⟨rfl, h1, rfl⟩))⟩, by rw [ht]; exact hP, va_K.moved hW.alike hK, hD⟩, hS.F ht⟩) hS.2.2 d_Lw_give_13
    · skip
      refine vx_catch (name := "java/lang/UnsupportedOperationException") hown [⟨0, 5, 8, 30⟩, ⟨0, 5, 11, 15⟩] ⟨0, 5, 14, 17⟩ [] htab (List.forall_mem_cons.mpr ⟨Or.inr ⟨by decide, "java/lang/IndexOutOfBoundsException", hts _ kw_513, hXN ("java/lang/UnsupportedOperationException", "java/lang/IndexOutOfBoundsException") (by decide)⟩, (List.forall_mem_cons.mpr ⟨Or.inr ⟨by decide, "java/lang/IllegalStateException", hts _ kw_207, hXN ("java/lang/UnsupportedOperationException", "java/lang/IllegalStateException") (by decide)⟩, (fun _ h9 => nomatch h9)⟩)⟩) (by decide) (by decide) (hts _ kw_208) (va_Nw.use rfl (hX0.2.2 _ (List.mem_append_right _ (List.mem_of_getElem? (i := 319) (by decide +kernel))) rfl)) hce hcv hcl ?_
      refine lv_astore_n hx hb d_Lw_give_14 rfl hl (by decide) rfl (fun ls hl => ?_)
      refine lv_iconst (v := 3) hx hb d_Lw_give_15 (by decide) ?_
      refine vx_ret ?_
      refine W.widen (k := 2) (n := 12) (Nat.le_of_ble_eq_true rfl) (Nat.le_of_ble_eq_true rfl) ?_
      exact W.iret (v := 3) hx hb hr (fun t ht hW => ⟨⟨3, (3, (S, S2, pt, jn)), rfl, ⟨rfl, Or.inr (Or.inr (Or.inr ⟨rfl, h1, rfl⟩))⟩, by rw [ht]; exact hP, va_K.moved hW.alike hK, hD⟩, hS.F ht⟩) hS.2.2 d_Lw_give_16
  obtain ⟨hP1, hK1, hD1⟩ := hB
  rw [hH9] at hP1
  obtain ⟨hP, hD⟩ := va_join (wr := []) (w1 := (wUS cI o g g2 jh ja u9)) hP hD [0, 1, 2, 3, 4, 5, 6, 7, 8, 9, 10, 11, 12, 13, 14, 15, 16, 17, 18, 19, 20, 21, 22, 23, 24, 25, 26, 27, 28] [] rfl rfl (by decide) (by decide) hk1 hFc hP1 hD1
  replace hP : va_P (dC, dI) classes (wUS cI o g g2 jh ja u9) H1 := hP
  replace hD : va_D A (wUS cI o g g2 jh ja u9) := hD
  refine lv_goto hx hb d_Lw_give_5 rfl ?_
  refine lv_iconst (v := 0) hx hb d_Lw_give_17 (by decide) ?_
  refine vx_ret ?_
  refine W.widen (k := 2) (n := 12) (Nat.le_of_ble_eq_true rfl) (Nat.le_of_ble_eq_true rfl) ?_
  exact W.iret (v := 0) hx hb hr (fun t ht hW => ⟨⟨0, (0, u9), rfl, ⟨rfl, Or.inl ⟨rfl, ⟨hp9.1, hp9.2.1, hp9.2.2.1⟩, hp9.2.2.2⟩⟩, by rw [ht]; exact hP, va_K.moved hW.alike hK, hD⟩, hS.F ht⟩) hS.2.2 d_Lw_give_18
set_option maxHeartbeats 4000000 in
set_option maxRecDepth 100000 in
theorem c_Lw_back (l : Launch) (hlt : l.stackTraces = false) (dC : Nat → ClassId) (dI : Nat → Nat → Nat) (sz : Nat) (cI : ClassId) (o : Nat) (g : Nat → Nat) (S : LDS) (g2 : Nat → Nat) (S2 : LDS) (jh ja : Nat) (pt : Nat → Int32) (jn : Nat) (hS9 : LDok S) (hjn : jn ≤ 300) (cJ : ClassId) (oa : Nat) (f0 : Nat → Int64) (hL9 : LIV S.X) (x : Nat) (hx0 : x < 4294967296) : vx_Met l y_Lw_back (.codeWith y_Lw_back b_Lw_back 4 (some .int) [(0, 9, 12, 30), (0, 9, 15, 15), (0, 9, 18, 17)] :: wG) ({ frames := 9, cells := 2, slots := 12, locals := 221 }) (PcL (dC, dI) [(cI, .int), (cJ, .long)] (wLw cI cJ o g g2 jh ja (S, S2, pt, jn) oa f0) [.ref o, .int (nI x), .ref oa] sz) (QlI (dC, dI) cI cJ o g g2 jh ja oa (wLw cI cJ o g g2 jh ja (S, S2, pt, jn) oa f0) sz (wBak S S2 pt jn x)) XCf 2 12 (va_A (wLw cI cJ o g g2 jh ja (S, S2, pt, jn) oa f0) sz) := by
  refine vx_ofWH (cc := b_Lw_back) (maxL := 4) (ret := (some .int)) (hh := [(0, 9, 12, 30), (0, 9, 15, 15), (0, 9, 18, 17)]) (by decide) rfl ?_
  intro pg eg s mg ag bg meth cg s₁ B hml hv
  obtain ⟨rfl, hsz, hP, hK, hD0, hN, hX0, hXN⟩ := hv
  have hx := B.exec
  have hb := B.bytes
  have hr := B.returns
  have hts : ∀ w9 ∈ wG, w9.before ([.ref o, .int (nI x), .ref oa] : List Value).toArray s = true := fun w9 h9 => atoms_spec (ws := (.codeWith y_Lw_back b_Lw_back 4 (some .int) [(0, 9, 12, 30), (0, 9, 15, 15), (0, 9, 18, 17)] :: wG)) B.pre w9 (List.mem_cons_of_mem _ h9)
  have htab : cg.exceptionTable.toList = tableOf [(0, 9, 12, 30), (0, 9, 15, 15), (0, 9, 18, 17)] := vx_table (x := y_Lw_back) B (atoms_spec (ws := (.codeWith y_Lw_back b_Lw_back 4 (some .int) [(0, 9, 12, 30), (0, 9, 15, 15), (0, 9, 18, 17)] :: wG)) B.pre _ List.mem_cons_self)
  have hown : s.vm.findClass "PrefixRegistryLaw" = some mg.cls := findClass_of_methodNamed B.named
  subst hsz
  have hD := hD0.self (sz := s.heap.size)
  unfold QlI
  generalize hAe : va_A (wLw cI cJ o g g2 jh ja (S, S2, pt, jn) oa f0) s.heap.size = A at hD hX0 ⊢
  have hA : ∀ q : Nat, s.heap.size ≤ q → A q := fun q h => by rw [← hAe]; exact Or.inr h
  have hS : va_S A s.heap s.heap [] := va_S.rf
  have hl := lv_entry ([.ref o, .int (nI x), .ref oa]) (n := 4) (Nat.le_of_ble_eq_true rfl)
  rw [lg_entry_eq]
  generalize (lg_sl ([.ref o, .int (nI x), .ref oa]) ++ List.replicate (4 - (lg_sl ([.ref o, .int (nI x), .ref oa])).length) Slot.unset).toArray = ls at hl ⊢
  replace hl : lv_has ls 4 [(0, .ref o), (1, .int (nI x)), (2, .ref oa)] := hl
  replace hP : va_P (dC, dI) classes (wLw cI cJ o g g2 jh ja (S, S2, pt, jn) oa f0) s.heap := hP
  replace hD : va_D A (wLw cI cJ o g g2 jh ja (S, S2, pt, jn) oa f0) := hD
  refine lv_aload_n hx hb d_Lw_back_0 rfl (lv_at hl 2 rfl) ?_
  refine lv_iconst (v := 0) hx hb d_Lw_back_1 (by decide) ?_
  refine lv_aload_n hx hb d_Lw_back_2 rfl (lv_at hl 0 rfl) ?_
  refine lv_iload_n hx hb d_Lw_back_3 rfl (lv_at hl 1 rfl) ?_
  have hPc := hP.sub (ws' := (wPR cI o g S g2 S2 jh ja pt jn)) [0, 1, 2, 3, 4, 5, 6, 7, 8, 9, 10, 11, 12, 13, 14, 15, 16, 17, 18, 19, 20, 21, 22, 23, 24, 25, 26, 27, 28] rfl
  have hDc := hD.sub (ws' := (wPR cI o g S g2 S2 jh ja pt jn)) [0, 1, 2, 3, 4, 5, 6, 7, 8, 9, 10, 11, 12, 13, 14, 15, 16, 17, 18, 19, 20, 21, 22, 23, 24, 25, 26, 27, 28] (by decide) rfl
  have hFc := va_free (wc := (wPR cI o g S g2 S2 jh ja pt jn)) hD hS hA [0, 1, 2, 3, 4, 5, 6, 7, 8, 9, 10, 11, 12, 13, 14, 15, 16, 17, 18, 19, 20, 21, 22, 23, 24, 25, 26, 27, 28] rfl
  refine vx_calli (vx_runV (b := o) (As := [.int (nI x)]) (rest := [.int 0, .ref oa]) ⟨hx, hb, hml, hown, hts⟩ (c_PR_back l hlt dC dI s.heap.size cI o g S g2 S2 jh ja pt jn hS9 hjn (cof S.X) (fun r hr => ⟨(hL9.ch hr).1, (hL9.ch hr).len hL9.ok.n⟩) (fun r hr c q => (((hL9.ch hr).2.2 c).mp q).1) (fun x q hx hq => Nat.lt_trans (hL9.lt hx hq) hx) x hx0) (cwV 1 hts (gV kw_541 kw_542 kw_543 kw_1 kw_544) rfl rfl rfl (by decide +kernel) ⟨Nat.le_of_ble_eq_true rfl, Nat.le_of_ble_eq_true rfl⟩) ⟨PcX.blind, va_recv (q0 := 0) (hK.sub (tys' := [(cI, .int)]) [0] rfl) hPc rfl rfl, PcX.use hPc (hK.sub (tys' := [(cI, .int)]) [0] rfl) hN hDc hX0 hS hFc⟩ rfl rfl hl.1 rfl (lv_room (Nat.le_of_ble_eq_true rfl)) d_Lw_back_4 ⟨Nat.le_of_ble_eq_true rfl, Nat.le_of_ble_eq_true rfl⟩) hS (fun q _ h => hFc q h) hFc (fun q h1 h2 => absurd h2 (Nat.not_le.mpr h1)) (fun E9 ce q9 u9 H9 H1 locs hH9 hv9 _ hB hz1 hk1 hS => ?_) (fun r9 u9 H9 H1 locs hH9 hv9 hp9 hB hz1 hk1 hS => ?_)
  · intro hce hcv hcl
    replace hP : va_P (dC, dI) classes (wLw cI cJ o g g2 jh ja (S, S2, pt, jn) oa f0) H1 := x_keep hP hk1
    rcases hB with ⟨rfl, h1⟩ | ⟨rfl, h1⟩ | ⟨rfl, h1⟩
    · skip
      refine vx_catch (name := "java/lang/IndexOutOfBoundsException") hown [] ⟨0, 9, 12, 30⟩ [⟨0, 9, 15, 15⟩, ⟨0, 9, 18, 17⟩] htab (fun _ h9 => nomatch h9) (by decide) (by decide) (hts _ kw_513) (va_Nw.use rfl (hX0.2.2 _ (List.mem_append_right _ (List.mem_of_getElem? (i := 525) (by decide +kernel))) rfl)) hce hcv hcl ?_
      refine lv_astore_n hx hb d_Lw_back_12 rfl hl (by decide) rfl (fun ls hl => ?_)
      refine lv_iconst (v := 1) hx hb d_Lw_back_13 (by decide) ?_
      refine vx_ret ?_
      refine W.widen (k := 2) (n := 12) (Nat.le_of_ble_eq_true rfl) (Nat.le_of_ble_eq_true rfl) ?_
      exact W.iret (v := 1) hx hb hr (fun t ht hW => ⟨⟨1, (1, (0, ((S, S2, pt, jn), f0))), rfl, ⟨rfl, Or.inr (Or.inl ⟨rfl, h1, rfl⟩), fun h9 => absurd h9 (show ¬ (1 : Nat) = 0 by decide), (show (1 : Nat) < 5 by decide)⟩, by rw [ht]; exact hP, va_K.moved hW.alike hK, hD⟩, hS.F ht⟩) hS.2.2 d_Lw_back_14
    · skip
      refine vx_catch (name := "java/lang/IllegalStateException") hown [⟨0, 9, 12, 30⟩] ⟨0, 9, 15, 15⟩ [⟨0, 9, 18, 17⟩] htab (List.forall_mem_cons.mpr ⟨Or.inr ⟨by decide, "java/lang/IndexOutOfBoundsException", hts _ kw_513, hXN ("java/lang/IllegalStateException", "java/lang/IndexOutOfBoundsException") (by decide)⟩, (fun _ h9 => nomatch h9)⟩) (by decide) (by decide) (hts _ kw_207) (va_Nw.use rfl (hX0.2.2 _ (List.mem_append_right _ (List.mem_of_getElem? (i := 300) (by decide +kernel))) rfl)) hce hcv hcl ?_
      refine lv_astore_n hx hb d_Lw_back_15 rfl hl (by decide) rfl (fun ls hl => ?_)
      refine lv_iconst (v := 2) hx hb d_Lw_back_16 (by decide) ?_
      refine vx_ret ?_
      refine W.widen (k := 2) (n := 12) (Nat.le_of_ble_eq_true rfl) (Nat.le_of_ble_eq_true rfl) ?_
      exact W.iret (v := 2) hx hb hr (fun t ht hW => ⟨⟨2, (2, (0, ((S, S2, pt, jn), f0))), rfl, ⟨rfl, Or.inr (Or.inr (Or.inl ⟨rfl, h1, rfl⟩)), fun h9 => absurd h9 (show ¬ (2 : Nat) = 0 by decide), (show (2 : Nat) < 5 by decide)⟩, by rw [ht]; exact hP, va_K.moved hW.alike hK, hD⟩, hS.F ht⟩) hS.2.2 d_Lw_back_17
    · skip
      refine vx_catch (name := "java/lang/UnsupportedOperationException") hown [⟨0, 9, 12, 30⟩, ⟨0, 9, 15, 15⟩] ⟨0, 9, 18, 17⟩ [] htab (List.forall_mem_cons.mpr ⟨Or.inr ⟨by decide, "java/lang/IndexOutOfBoundsException", hts _ kw_513, hXN ("java/lang/UnsupportedOperationException", "java/lang/IndexOutOfBoundsException") (by decide)⟩, (List.forall_mem_cons.mpr ⟨Or.inr ⟨by decide, "java/lang/IllegalStateException", hts _ kw_207, hXN ("java/lang/UnsupportedOperationException", "java/lang/IllegalStateException") (by decide)⟩, (fun _ h9 => nomatch h9)⟩)⟩) (by decide) (by decide) (hts _ kw_208) (va_Nw.use rfl (hX0.2.2 _ (List.mem_append_right _ (List.mem_of_getElem? (i := 319) (by decide +kernel))) rfl)) hce hcv hcl ?_
      refine lv_astore_n hx hb d_Lw_back_18 rfl hl (by decide) rfl (fun ls hl => ?_)
      refine lv_iconst (v := 3) hx hb d_Lw_back_19 (by decide) ?_
      refine vx_ret ?_
      refine W.widen (k := 2) (n := 12) (Nat.le_of_ble_eq_true rfl) (Nat.le_of_ble_eq_true rfl) ?_
      exact W.iret (v := 3) hx hb hr (fun t ht hW => ⟨⟨3, (3, (0, ((S, S2, pt, jn), f0))), rfl, ⟨rfl, Or.inr (Or.inr (Or.inr ⟨rfl, h1, rfl⟩)), fun h9 => absurd h9 (show ¬ (3 : Nat) = 0 by decide), (show (3 : Nat) < 5 by decide)⟩, by rw [ht]; exact hP, va_K.moved hW.alike hK, hD⟩, hS.F ht⟩) hS.2.2 d_Lw_back_20
  obtain ⟨hP1, hK1, hD1⟩ := hB
  rw [hH9] at hP1
  obtain ⟨hP, hD⟩ := va_join (wr := [(oa, .inl (cJ, 1, .inr (.inl f0)))]) (w1 := (wUS cI o g g2 jh ja u9)) hP hD [0, 1, 2, 3, 4, 5, 6, 7, 8, 9, 10, 11, 12, 13, 14, 15, 16, 17, 18, 19, 20, 21, 22, 23, 24, 25, 26, 27, 28] [29] rfl rfl (by decide) (by decide) hk1 hFc hP1 hD1
  replace hP : va_P (dC, dI) classes (wLw cI cJ o g g2 jh ja u9 oa f0) H1 := hP.sub (ws' := (wLw cI cJ o g g2 jh ja u9 oa f0)) [1, 2, 3, 4, 5, 6, 7, 8, 9, 10, 11, 12, 13, 14, 15, 16, 17, 18, 19, 20, 21, 22, 23, 24, 25, 26, 27, 28, 29, 0] rfl
  replace hD : va_D A (wLw cI cJ o g g2 jh ja u9 oa f0) := hD.sub (ws' := (wLw cI cJ o g g2 jh ja u9 oa f0)) [1, 2, 3, 4, 5, 6, 7, 8, 9, 10, 11, 12, 13, 14, 15, 16, 17, 18, 19, 20, 21, 22, 23, 24, 25, 26, 27, 28, 29, 0] (by decide) rfl
  refine lv_i2l hx hb d_Lw_back_7 rfl ?_
  refine va_last (i := 0) (x := r9.toInt64) hx hb hK hP hD hS 29 1 rfl rfl (by unfold vp_in; decide) d_Lw_back_8 (fun H1 locs hP hD hS => ?_)
  replace hP : va_P (dC, dI) classes (wLw cI cJ o g g2 jh ja u9 oa (vp_updL f0 0 r9.toInt64)) H1 := hP
  replace hD : va_D A (wLw cI cJ o g g2 jh ja u9 oa (vp_updL f0 0 r9.toInt64)) := hD
  refine lv_goto hx hb d_Lw_back_9 rfl ?_
  refine lv_iconst (v := 0) hx hb d_Lw_back_21 (by decide) ?_
  refine vx_ret ?_
  refine W.widen (k := 2) (n := 12) (Nat.le_of_ble_eq_true rfl) (Nat.le_of_ble_eq_true rfl) ?_
  exact W.iret (v := 0) hx hb hr (fun t ht hW => ⟨⟨0, (0, (r9.toInt64, (u9, (vp_updL f0 0 r9.toInt64)))), rfl, ⟨rfl, Or.inl ⟨rfl, ⟨hp9.1, hp9.2.1, hp9.2.2.1⟩, congrArg Int32.toInt64 hp9.2.2.2.1, hp9.2.2.2.2⟩, fun _ => rfl, (show (0 : Nat) < 5 by decide)⟩, by rw [ht]; exact hP, va_K.moved hW.alike hK, hD⟩, hS.F ht⟩) hS.2.2 d_Lw_back_22
set_option maxHeartbeats 4000000 in
set_option maxRecDepth 100000 in
theorem c_Lw_transfer (l : Launch) (hlt : l.stackTraces = false) (dC : Nat → ClassId) (dI : Nat → Nat → Nat) (sz : Nat) (cI : ClassId) (o : Nat) (g : Nat → Nat) (S : LDS) (g2 : Nat → Nat) (S2 : LDS) (jh ja : Nat) (pt : Nat → Int32) (jn : Nat) (hS9 : LDok S) (hjn : jn ≤ 300) (cJ : ClassId) (oa : Nat) (f0 : Nat → Int64) (hL9 : LIV S.X) (x w : Nat) (hx0 : x < 4294967296) (hw0 : w < 4294967296) : vx_Met l y_Lw_transfer (.codeWith y_Lw_transfer b_Lw_transfer 5 (some .int) [(0, 10, 13, 30), (0, 10, 17, 13), (0, 10, 21, 15), (0, 10, 25, 17)] :: wG) ({ frames := 9, cells := 2, slots := 12, locals := 222 }) (PcL (dC, dI) [(cI, .int), (cJ, .long)] (wLw cI cJ o g g2 jh ja (S, S2, pt, jn) oa f0) [.ref o, .int (nI x), .int (nI w), .ref oa] sz) (QlI (dC, dI) cI cJ o g g2 jh ja oa (wLw cI cJ o g g2 jh ja (S, S2, pt, jn) oa f0) sz (wTra S S2 pt jn x w)) XCf 2 12 (va_A (wLw cI cJ o g g2 jh ja (S, S2, pt, jn) oa f0) sz) := by
  refine vx_ofWH (cc := b_Lw_transfer) (maxL := 5) (ret := (some .int)) (hh := [(0, 10, 13, 30), (0, 10, 17, 13), (0, 10, 21, 15), (0, 10, 25, 17)]) (by decide) rfl ?_
  intro pg eg s mg ag bg meth cg s₁ B hml hv
  obtain ⟨rfl, hsz, hP, hK, hD0, hN, hX0, hXN⟩ := hv
  have hx := B.exec
  have hb := B.bytes
  have hr := B.returns
  have hts : ∀ w9 ∈ wG, w9.before ([.ref o, .int (nI x), .int (nI w), .ref oa] : List Value).toArray s = true := fun w9 h9 => atoms_spec (ws := (.codeWith y_Lw_transfer b_Lw_transfer 5 (some .int) [(0, 10, 13, 30), (0, 10, 17, 13), (0, 10, 21, 15), (0, 10, 25, 17)] :: wG)) B.pre w9 (List.mem_cons_of_mem _ h9)
  have htab : cg.exceptionTable.toList = tableOf [(0, 10, 13, 30), (0, 10, 17, 13), (0, 10, 21, 15), (0, 10, 25, 17)] := vx_table (x := y_Lw_transfer) B (atoms_spec (ws := (.codeWith y_Lw_transfer b_Lw_transfer 5 (some .int) [(0, 10, 13, 30), (0, 10, 17, 13), (0, 10, 21, 15), (0, 10, 25, 17)] :: wG)) B.pre _ List.mem_cons_self)
  have hown : s.vm.findClass "PrefixRegistryLaw" = some mg.cls := findClass_of_methodNamed B.named
  subst hsz
  have hD := hD0.self (sz := s.heap.size)
  unfold QlI
  generalize hAe : va_A (wLw cI cJ o g g2 jh ja (S, S2, pt, jn) oa f0) s.heap.size = A at hD hX0 ⊢
  have hA : ∀ q : Nat, s.heap.size ≤ q → A q := fun q h => by rw [← hAe]; exact Or.inr h
  have hS : va_S A s.heap s.heap [] := va_S.rf
  have hl := lv_entry ([.ref o, .int (nI x), .int (nI w), .ref oa]) (n := 5) (Nat.le_of_ble_eq_true rfl)
  rw [lg_entry_eq]
  generalize (lg_sl ([.ref o, .int (nI x), .int (nI w), .ref oa]) ++ List.replicate (5 - (lg_sl ([.ref o, .int (nI x), .int (nI w), .ref oa])).length) Slot.unset).toArray = ls at hl ⊢
  replace hl : lv_has ls 5 [(0, .ref o), (1, .int (nI x)), (2, .int (nI w)), (3, .ref oa)] := hl
  replace hP : va_P (dC, dI) classes (wLw cI cJ o g g2 jh ja (S, S2, pt, jn) oa f0) s.heap := hP
  replace hD : va_D A (wLw cI cJ o g g2 jh ja (S, S2, pt, jn) oa f0) := hD
  refine lv_aload_n hx hb d_Lw_transfer_0 rfl (lv_at hl 3 rfl) ?_
  refine lv_iconst (v := 0) hx hb d_Lw_transfer_1 (by decide) ?_
  refine lv_aload_n hx hb d_Lw_transfer_2 rfl (lv_at hl 0 rfl) ?_
  refine lv_iload_n hx hb d_Lw_transfer_3 rfl (lv_at hl 1 rfl) ?_
  refine lv_iload_n hx hb d_Lw_transfer_4 rfl (lv_at hl 2 rfl) ?_
  have hPc := hP.sub (ws' := (wPR cI o g S g2 S2 jh ja pt jn)) [0, 1, 2, 3, 4, 5, 6, 7, 8, 9, 10, 11, 12, 13, 14, 15, 16, 17, 18, 19, 20, 21, 22, 23, 24, 25, 26, 27, 28] rfl
  have hDc := hD.sub (ws' := (wPR cI o g S g2 S2 jh ja pt jn)) [0, 1, 2, 3, 4, 5, 6, 7, 8, 9, 10, 11, 12, 13, 14, 15, 16, 17, 18, 19, 20, 21, 22, 23, 24, 25, 26, 27, 28] (by decide) rfl
  have hFc := va_free (wc := (wPR cI o g S g2 S2 jh ja pt jn)) hD hS hA [0, 1, 2, 3, 4, 5, 6, 7, 8, 9, 10, 11, 12, 13, 14, 15, 16, 17, 18, 19, 20, 21, 22, 23, 24, 25, 26, 27, 28] rfl
  refine vx_calli (vx_runV (b := o) (As := [.int (nI x), .int (nI w)]) (rest := [.int 0, .ref oa]) ⟨hx, hb, hml, hown, hts⟩ (c_PR_transfer l hlt dC dI s.heap.size cI o g S g2 S2 jh ja pt jn hS9 hjn x w hx0 hw0) (cwV 2 hts (gV kw_578 kw_579 kw_580 kw_1 kw_581) rfl rfl rfl (by decide +kernel) ⟨Nat.le_of_ble_eq_true rfl, Nat.le_of_ble_eq_true rfl⟩) ⟨PcX.blind, va_recv (q0 := 0) (hK.sub (tys' := [(cI, .int)]) [0] rfl) hPc rfl rfl, PcX.use hPc (hK.sub (tys' := [(cI, .int)]) [0] rfl) hN hDc hX0 hS hFc⟩ rfl rfl hl.1 rfl (lv_room (Nat.le_of_ble_eq_true rfl)) d_Lw_transfer_5 ⟨Nat.le_of_ble_eq_true rfl, Nat.le_of_ble_eq_true rfl⟩) hS (fun q _ h => hFc q h) hFc (fun q h1 h2 => absurd h2 (Nat.not_le.mpr h1)) (fun E9 ce q9 u9 H9 H1 locs hH9 hv9 _ hB hz1 hk1 hS => ?_) (fun r9 u9 H9 H1 locs hH9 hv9 hp9 hB hz1 hk1 hS => ?_)
  · intro hce hcv hcl
    replace hP : va_P (dC, dI) classes (wLw cI cJ o g g2 jh ja (S, S2, pt, jn) oa f0) H1 := x_keep hP hk1
    rcases hB with ⟨rfl, h1⟩ | ⟨rfl, h1⟩ | ⟨rfl, h1⟩ | ⟨rfl, h1⟩
    · skip
      refine vx_catch (name := "java/lang/IndexOutOfBoundsException") hown [] ⟨0, 10, 13, 30⟩ [⟨0, 10, 17, 13⟩, ⟨0, 10, 21, 15⟩, ⟨0, 10, 25, 17⟩] htab (fun _ h9 => nomatch h9) (by decide) (by decide) (hts _ kw_513) (va_Nw.use rfl (hX0.2.2 _ (List.mem_append_right _ (List.mem_of_getElem? (i := 525) (by decide +kernel))) rfl)) hce hcv hcl ?_
      refine lv_astore hx hb d_Lw_transfer_13 hl (by decide) rfl (fun ls hl => ?_)
      refine lv_iconst (v := 1) hx hb d_Lw_transfer_15 (by decide) ?_
      refine vx_ret ?_
      refine W.widen (k := 2) (n := 12) (Nat.le_of_ble_eq_true rfl) (Nat.le_of_ble_eq_true rfl) ?_
      exact W.iret (v := 1) hx hb hr (fun t ht hW => ⟨⟨1, (1, (0, ((S, S2, pt, jn), f0))), rfl, ⟨rfl, Or.inr (Or.inl ⟨rfl, h1, rfl⟩), fun h9 => absurd h9 (show ¬ (1 : Nat) = 0 by decide), (show (1 : Nat) < 5 by decide)⟩, by rw [ht]; exact hP, va_K.moved hW.alike hK, hD⟩, hS.F ht⟩) hS.2.2 d_Lw_transfer_16
    · skip
      refine vx_catch (name := "java/lang/IllegalArgumentException") hown [⟨0, 10, 13, 30⟩] ⟨0, 10, 17, 13⟩ [⟨0, 10, 21, 15⟩, ⟨0, 10, 25, 17⟩] htab (List.forall_mem_cons.mpr ⟨Or.inr ⟨by decide, "java/lang/IndexOutOfBoundsException", hts _ kw_513, hXN ("java/lang/IllegalArgumentException", "java/lang/IndexOutOfBoundsException") (by decide)⟩, (fun _ h9 => nomatch h9)⟩) (by decide) (by decide) (hts _ kw_206) (va_Nw.use rfl (hX0.2.2 _ (List.mem_append_right _ (List.mem_of_getElem? (i := 223) (by decide +kernel))) rfl)) hce hcv hcl ?_
      refine lv_astore hx hb d_Lw_transfer_17 hl (by decide) rfl (fun ls hl => ?_)
      refine lv_iconst (v := 2) hx hb d_Lw_transfer_19 (by decide) ?_
      refine vx_ret ?_
      refine W.widen (k := 2) (n := 12) (Nat.le_of_ble_eq_true rfl) (Nat.le_of_ble_eq_true rfl) ?_
      exact W.iret (v := 2) hx hb hr (fun t ht hW => ⟨⟨2, (2, (0, ((S, S2, pt, jn), f0))), rfl, ⟨rfl, Or.inr (Or.inr (Or.inl ⟨rfl, h1, rfl⟩)), fun h9 => absurd h9 (show ¬ (2 : Nat) = 0 by decide), (show (2 : Nat) < 5 by decide)⟩, by rw [ht]; exact hP, va_K.moved hW.alike hK, hD⟩, hS.F ht⟩) hS.2.2 d_Lw_transfer_20
    · skip
      refine vx_catch (name := "java/lang/IllegalStateException") hown [⟨0, 10, 13, 30⟩, ⟨0, 10, 17, 13⟩] ⟨0, 10, 21, 15⟩ [⟨0, 10, 25, 17⟩] htab (List.forall_mem_cons.mpr ⟨Or.inr ⟨by decide, "java/lang/IndexOutOfBoundsException", hts _ kw_513, hXN ("java/lang/IllegalStateException", "java/lang/IndexOutOfBoundsException") (by decide)⟩, (List.forall_mem_cons.mpr ⟨Or.inr ⟨by decide, "java/lang/IllegalArgumentException", hts _ kw_206, hXN ("java/lang/IllegalStateException", "java/lang/IllegalArgumentException") (by decide)⟩, (fun _ h9 => nomatch h9)⟩)⟩) (by decide) (by decide) (hts _ kw_207) (va_Nw.use rfl (hX0.2.2 _ (List.mem_append_right _ (List.mem_of_getElem? (i := 300) (by decide +kernel))) rfl)) hce hcv hcl ?_
      refine lv_astore hx hb d_Lw_transfer_21 hl (by decide) rfl (fun ls hl => ?_)
      refine lv_iconst (v := 3) hx hb d_Lw_transfer_23 (by decide) ?_
      refine vx_ret ?_
      refine W.widen (k := 2) (n := 12) (Nat.le_of_ble_eq_true rfl) (Nat.le_of_ble_eq_true rfl) ?_
      exact W.iret (v := 3) hx hb hr (fun t ht hW => ⟨⟨3, (3, (0, ((S, S2, pt, jn), f0))), rfl, ⟨rfl, Or.inr (Or.inr (Or.inr (Or.inl ⟨rfl, h1, rfl⟩))), fun h9 => absurd h9 (show ¬ (3 : Nat) = 0 by decide), (show (3 : Nat) < 5 by decide)⟩, by rw [ht]; exact hP, va_K.moved hW.alike hK, hD⟩, hS.F ht⟩) hS.2.2 d_Lw_transfer_24
    · skip
      refine vx_catch (name := "java/lang/UnsupportedOperationException") hown [⟨0, 10, 13, 30⟩, ⟨0, 10, 17, 13⟩, ⟨0, 10, 21, 15⟩] ⟨0, 10, 25, 17⟩ [] htab (List.forall_mem_cons.mpr ⟨Or.inr ⟨by decide, "java/lang/IndexOutOfBoundsException", hts _ kw_513, hXN ("java/lang/UnsupportedOperationException", "java/lang/IndexOutOfBoundsException") (by decide)⟩, (List.forall_mem_cons.mpr ⟨Or.inr ⟨by decide, "java/lang/IllegalArgumentException", hts _ kw_206, hXN ("java/lang/UnsupportedOperationException", "java/lang/IllegalArgumentException") (by decide)⟩, (List.forall_mem_cons.mpr ⟨Or.inr ⟨by decide, "java/lang/IllegalStateException", hts _ kw_207, hXN ("java/lang/UnsupportedOperationException", "java/lang/IllegalStateException") (by decide)⟩, (fun _ h9 => nomatch h9)⟩)⟩)⟩) (by decide) (by decide) (hts _ kw_208) (va_Nw.use rfl (hX0.2.2 _ (List.mem_append_right _ (List.mem_of_getElem? (i := 319) (by decide +kernel))) rfl)) hce hcv hcl ?_
      refine lv_astore hx hb d_Lw_transfer_25 hl (by decide) rfl (fun ls hl => ?_)
      refine lv_iconst (v := 4) hx hb d_Lw_transfer_27 (by decide) ?_
      refine vx_ret ?_
      refine W.widen (k := 2) (n := 12) (Nat.le_of_ble_eq_true rfl) (Nat.le_of_ble_eq_true rfl) ?_
      exact W.iret (v := 4) hx hb hr (fun t ht hW => ⟨⟨4, (4, (0, ((S, S2, pt, jn), f0))), rfl, ⟨rfl, Or.inr (Or.inr (Or.inr (Or.inr ⟨rfl, h1, rfl⟩))), fun h9 => absurd h9 (show ¬ (4 : Nat) = 0 by decide), (show (4 : Nat) < 5 by decide)⟩, by rw [ht]; exact hP, va_K.moved hW.alike hK, hD⟩, hS.F ht⟩) hS.2.2 d_Lw_transfer_28
  obtain ⟨hP1, hK1, hD1⟩ := hB
  rw [hH9] at hP1
  obtain ⟨hP, hD⟩ := va_join (wr := [(oa, .inl (cJ, 1, .inr (.inl f0)))]) (w1 := (wUS cI o g g2 jh ja u9)) hP hD [0, 1, 2, 3, 4, 5, 6, 7, 8, 9, 10, 11, 12, 13, 14, 15, 16, 17, 18, 19, 20, 21, 22, 23, 24, 25, 26, 27, 28] [29] rfl rfl (by decide) (by decide) hk1 hFc hP1 hD1
  replace hP : va_P (dC, dI) classes (wLw cI cJ o g g2 jh ja u9 oa f0) H1 := hP.sub (ws' := (wLw cI cJ o g g2 jh ja u9 oa f0)) [1, 2, 3, 4, 5, 6, 7, 8, 9, 10, 11, 12, 13, 14, 15, 16, 17, 18, 19, 20, 21, 22, 23, 24, 25, 26, 27, 28, 29, 0] rfl
  replace hD : va_D A (wLw cI cJ o g g2 jh ja u9 oa f0) := hD.sub (ws' := (wLw cI cJ o g g2 jh ja u9 oa f0)) [1, 2, 3, 4, 5, 6, 7, 8, 9, 10, 11, 12, 13, 14, 15, 16, 17, 18, 19, 20, 21, 22, 23, 24, 25, 26, 27, 28, 29, 0] (by decide) rfl
  refine lv_i2l hx hb d_Lw_transfer_8 rfl ?_
  refine va_last (i := 0) (x := r9.toInt64) hx hb hK hP hD hS 29 1 rfl rfl (by unfold vp_in; decide) d_Lw_transfer_9 (fun H1 locs hP hD hS => ?_)
  replace hP : va_P (dC, dI) classes (wLw cI cJ o g g2 jh ja u9 oa (vp_updL f0 0 r9.toInt64)) H1 := hP
  replace hD : va_D A (wLw cI cJ o g g2 jh ja u9 oa (vp_updL f0 0 r9.toInt64)) := hD
  refine lv_goto hx hb d_Lw_transfer_10 rfl ?_
  refine lv_iconst (v := 0) hx hb d_Lw_transfer_29 (by decide) ?_
  refine vx_ret ?_
  refine W.widen (k := 2) (n := 12) (Nat.le_of_ble_eq_true rfl) (Nat.le_of_ble_eq_true rfl) ?_
  exact W.iret (v := 0) hx hb hr (fun t ht hW => ⟨⟨0, (0, (r9.toInt64, (u9, (vp_updL f0 0 r9.toInt64)))), rfl, ⟨rfl, Or.inl ⟨rfl, ⟨hp9.1, hp9.2.1, hp9.2.2.1, hp9.2.2.2.1⟩, congrArg Int32.toInt64 hp9.2.2.2.2.1, hp9.2.2.2.2.2⟩, fun _ => rfl, (show (0 : Nat) < 5 by decide)⟩, by rw [ht]; exact hP, va_K.moved hW.alike hK, hD⟩, hS.F ht⟩) hS.2.2 d_Lw_transfer_30
set_option maxHeartbeats 4000000 in
set_option maxRecDepth 100000 in
theorem c_Lw_policy (l : Launch) (hlt : l.stackTraces = false) (dC : Nat → ClassId) (dI : Nat → Nat → Nat) (sz : Nat) (cI : ClassId) (o : Nat) (g : Nat → Nat) (S : LDS) (g2 : Nat → Nat) (S2 : LDS) (jh ja : Nat) (pt : Nat → Int32) (jn : Nat) (hS9 : LDok S) (hjn : jn ≤ 300) (hL9 : LIV S.X) (v w : Nat) (hv0 : v < 4294967296) (hw0 : w < 4294967296) : vx_Met l y_Lw_policy (.codeWith y_Lw_policy b_Lw_policy 4 (some .int) [(0, 6, 9, 13), (0, 6, 12, 17)] :: wG) ({ frames := 9, cells := 1, slots := 6, locals := 222 }) (PcL (dC, dI) [(cI, .int)] (wUS cI o g g2 jh ja (S, S2, pt, jn)) [.ref o, .int (nI v), .int (nI w)] sz) (QlV (dC, dI) cI o g g2 jh ja (wUS cI o g g2 jh ja (S, S2, pt, jn)) sz (wPol S S2 pt jn v w)) XCf 1 6 (va_A (wUS cI o g g2 jh ja (S, S2, pt, jn)) sz) := by
  refine vx_ofWH (cc := b_Lw_policy) (maxL := 4) (ret := (some .int)) (hh := [(0, 6, 9, 13), (0, 6, 12, 17)]) (by decide) rfl ?_
  intro pg eg s mg ag bg meth cg s₁ B hml hv
  obtain ⟨rfl, hsz, hP, hK, hD0, hN, hX0, hXN⟩ := hv
  have hx := B.exec
  have hb := B.bytes
  have hr := B.returns
  have hts : ∀ w9 ∈ wG, w9.before ([.ref o, .int (nI v), .int (nI w)] : List Value).toArray s = true := fun w9 h9 => atoms_spec (ws := (.codeWith y_Lw_policy b_Lw_policy 4 (some .int) [(0, 6, 9, 13), (0, 6, 12, 17)] :: wG)) B.pre w9 (List.mem_cons_of_mem _ h9)
  have htab : cg.exceptionTable.toList = tableOf [(0, 6, 9, 13), (0, 6, 12, 17)] := vx_table (x := y_Lw_policy) B (atoms_spec (ws := (.codeWith y_Lw_policy b_Lw_policy 4 (some .int) [(0, 6, 9, 13), (0, 6, 12, 17)] :: wG)) B.pre _ List.mem_cons_self)
  have hown : s.vm.findClass "PrefixRegistryLaw" = some mg.cls := findClass_of_methodNamed B.named
  subst hsz
  have hD := hD0.self (sz := s.heap.size)
  unfold QlV
  generalize hAe : va_A (wUS cI o g g2 jh ja (S, S2, pt, jn)) s.heap.size = A at hD hX0 ⊢
  have hA : ∀ q : Nat, s.heap.size ≤ q → A q := fun q h => by rw [← hAe]; exact Or.inr h
  have hS : va_S A s.heap s.heap [] := va_S.rf
  have hl := lv_entry ([.ref o, .int (nI v), .int (nI w)]) (n := 4) (Nat.le_of_ble_eq_true rfl)
  rw [lg_entry_eq]
  generalize (lg_sl ([.ref o, .int (nI v), .int (nI w)]) ++ List.replicate (4 - (lg_sl ([.ref o, .int (nI v), .int (nI w)])).length) Slot.unset).toArray = ls at hl ⊢
  replace hl : lv_has ls 4 [(0, .ref o), (1, .int (nI v)), (2, .int (nI w))] := hl
  replace hP : va_P (dC, dI) classes (wUS cI o g g2 jh ja (S, S2, pt, jn)) s.heap := hP
  replace hD : va_D A (wUS cI o g g2 jh ja (S, S2, pt, jn)) := hD
  refine lv_aload_n hx hb d_Lw_policy_0 rfl (lv_at hl 0 rfl) ?_
  refine lv_iload_n hx hb d_Lw_policy_1 rfl (lv_at hl 1 rfl) ?_
  refine lv_iload_n hx hb d_Lw_policy_2 rfl (lv_at hl 2 rfl) ?_
  have hPc := hP.sub (ws' := (wPR cI o g S g2 S2 jh ja pt jn)) [0, 1, 2, 3, 4, 5, 6, 7, 8, 9, 10, 11, 12, 13, 14, 15, 16, 17, 18, 19, 20, 21, 22, 23, 24, 25, 26, 27, 28] rfl
  have hDc := hD.sub (ws' := (wPR cI o g S g2 S2 jh ja pt jn)) [0, 1, 2, 3, 4, 5, 6, 7, 8, 9, 10, 11, 12, 13, 14, 15, 16, 17, 18, 19, 20, 21, 22, 23, 24, 25, 26, 27, 28] (by decide) rfl
  have hFc := va_free (wc := (wPR cI o g S g2 S2 jh ja pt jn)) hD hS hA [0, 1, 2, 3, 4, 5, 6, 7, 8, 9, 10, 11, 12, 13, 14, 15, 16, 17, 18, 19, 20, 21, 22, 23, 24, 25, 26, 27, 28] rfl
  refine vx_callv (vx_runV (b := o) (As := [.int (nI v), .int (nI w)]) (rest := []) ⟨hx, hb, hml, hown, hts⟩ (c_PR_policy l hlt dC dI s.heap.size cI o g S g2 S2 jh ja pt jn hS9 hjn v w hv0 hw0) (cwV 2 hts (gV kw_586 kw_587 kw_588 kw_1 kw_589) rfl rfl rfl (by decide +kernel) ⟨Nat.le_of_ble_eq_true rfl, Nat.le_of_ble_eq_true rfl⟩) ⟨PcX.blind, va_recv (q0 := 0) hK hPc rfl rfl, PcX.use hPc hK hN hDc hX0 hS hFc⟩ rfl rfl hl.1 rfl (lv_room (Nat.le_of_ble_eq_true rfl)) d_Lw_policy_3 ⟨Nat.le_of_ble_eq_true rfl, Nat.le_of_ble_eq_true rfl⟩) hS (fun q _ h => hFc q h) hFc (fun q h1 h2 => absurd h2 (Nat.not_le.mpr h1)) (fun E9 ce q9 u9 H9 H1 locs hH9 hv9 _ hB hz1 hk1 hS => ?_) (fun u9 H9 H1 locs hH9 hv9 hp9 hB hz1 hk1 hS => ?_)
  · intro hce hcv hcl
    replace hP : va_P (dC, dI) classes (wUS cI o g g2 jh ja (S, S2, pt, jn)) H1 := x_keep hP hk1
    rcases hB with ⟨rfl, h1⟩ | ⟨rfl, h1⟩
    · skip
      refine vx_catch (name := "java/lang/IllegalArgumentException") hown [] ⟨0, 6, 9, 13⟩ [⟨0, 6, 12, 17⟩] htab (fun _ h9 => nomatch h9) (by decide) (by decide) (hts _ kw_206) (va_Nw.use rfl (hX0.2.2 _ (List.mem_append_right _ (List.mem_of_getElem? (i := 223) (by decide +kernel))) rfl)) hce hcv hcl ?_
      refine lv_astore_n hx hb d_Lw_policy_9 rfl hl (by decide) rfl (fun ls hl => ?_)
      refine lv_iconst (v := 1) hx hb d_Lw_policy_10 (by decide) ?_
      refine vx_ret ?_
      refine W.widen (k := 1) (n := 6) (Nat.le_of_ble_eq_true rfl) (Nat.le_of_ble_eq_true rfl) ?_
      exact W.iret (v := 1) hx hb hr (fun t ht hW => ⟨⟨1, (1, (S, S2, pt, jn)), rfl, ⟨rfl, Or.inr (Or.inl ⟨rfl, h1, rfl⟩)⟩, by rw [ht]; exact hP, va_K.moved hW.alike hK, hD⟩, hS.F ht⟩) hS.2.2 d_Lw_policy_11
    · skip
      refine vx_catch (name := "java/lang/UnsupportedOperationException") hown [⟨0, 6, 9, 13⟩] ⟨0, 6, 12, 17⟩ [] htab (List.forall_mem_cons.mpr ⟨Or.inr ⟨by decide, "java/lang/IllegalArgumentException", hts _ kw_206, hXN ("java/lang/UnsupportedOperationException", "java/lang/IllegalArgumentException") (by decide)⟩, (fun _ h9 => nomatch h9)⟩) (by decide) (by decide) (hts _ kw_208) (va_Nw.use rfl (hX0.2.2 _ (List.mem_append_right _ (List.mem_of_getElem? (i := 319) (by decide +kernel))) rfl)) hce hcv hcl ?_
      refine lv_astore_n hx hb d_Lw_policy_12 rfl hl (by decide) rfl (fun ls hl => ?_)
      refine lv_iconst (v := 2) hx hb d_Lw_policy_13 (by decide) ?_
      refine vx_ret ?_
      refine W.widen (k := 1) (n := 6) (Nat.le_of_ble_eq_true rfl) (Nat.le_of_ble_eq_true rfl) ?_
      exact W.iret (v := 2) hx hb hr (fun t ht hW => ⟨⟨2, (2, (S, S2, pt, jn)), rfl, ⟨rfl, Or.inr (Or.inr ⟨rfl, h1, rfl⟩)⟩, by rw [ht]; exact hP, va_K.moved hW.alike hK, hD⟩, hS.F ht⟩) hS.2.2 d_Lw_policy_14
  obtain ⟨hP1, hK1, hD1⟩ := hB
  rw [hH9] at hP1
  obtain ⟨hP, hD⟩ := va_join (wr := []) (w1 := (wUS cI o g g2 jh ja u9)) hP hD [0, 1, 2, 3, 4, 5, 6, 7, 8, 9, 10, 11, 12, 13, 14, 15, 16, 17, 18, 19, 20, 21, 22, 23, 24, 25, 26, 27, 28] [] rfl rfl (by decide) (by decide) hk1 hFc hP1 hD1
  replace hP : va_P (dC, dI) classes (wUS cI o g g2 jh ja u9) H1 := hP
  replace hD : va_D A (wUS cI o g g2 jh ja u9) := hD
  refine lv_goto hx hb d_Lw_policy_6 rfl ?_
  refine lv_iconst (v := 0) hx hb d_Lw_policy_15 (by decide) ?_
  refine vx_ret ?_
  refine W.widen (k := 1) (n := 6) (Nat.le_of_ble_eq_true rfl) (Nat.le_of_ble_eq_true rfl) ?_
  exact W.iret (v := 0) hx hb hr (fun t ht hW => ⟨⟨0, (0, u9), rfl, ⟨rfl, Or.inl ⟨rfl, ⟨hp9.1, hp9.2.1, hp9.2.2.1⟩, hp9.2.2.2⟩⟩, by rw [ht]; exact hP, va_K.moved hW.alike hK, hD⟩, hS.F ht⟩) hS.2.2 d_Lw_policy_16
set_option maxHeartbeats 4000000 in
set_option maxRecDepth 100000 in
theorem c_Lw_quarantine (l : Launch) (hlt : l.stackTraces = false) (dC : Nat → ClassId) (dI : Nat → Nat → Nat) (sz : Nat) (cI : ClassId) (o : Nat) (g : Nat → Nat) (S : LDS) (g2 : Nat → Nat) (S2 : LDS) (jh ja : Nat) (pt : Nat → Int32) (jn : Nat) (hS9 : LDok S) (hjn : jn ≤ 300) (hL9 : LIV S.X) (w : Nat) (hw0 : w < 4294967296) : vx_Met l y_Lw_quarantine (.codeWith y_Lw_quarantine b_Lw_quarantine 3 (some .int) [(0, 5, 8, 13), (0, 5, 11, 17)] :: wG) ({ frames := 9, cells := 1, slots := 6, locals := 221 }) (PcL (dC, dI) [(cI, .int)] (wUS cI o g g2 jh ja (S, S2, pt, jn)) [.ref o, .int (nI w)] sz) (QlV (dC, dI) cI o g g2 jh ja (wUS cI o g g2 jh ja (S, S2, pt, jn)) sz (wQua S S2 pt jn w)) XCf 1 6 (va_A (wUS cI o g g2 jh ja (S, S2, pt, jn)) sz) := by
  refine vx_ofWH (cc := b_Lw_quarantine) (maxL := 3) (ret := (some .int)) (hh := [(0, 5, 8, 13), (0, 5, 11, 17)]) (by decide) rfl ?_
  intro pg eg s mg ag bg meth cg s₁ B hml hv
  obtain ⟨rfl, hsz, hP, hK, hD0, hN, hX0, hXN⟩ := hv
  have hx := B.exec
  have hb := B.bytes
  have hr := B.returns
  have hts : ∀ w9 ∈ wG, w9.before ([.ref o, .int (nI w)] : List Value).toArray s = true := fun w9 h9 => atoms_spec (ws := (.codeWith y_Lw_quarantine b_Lw_quarantine 3 (some .int) [(0, 5, 8, 13), (0, 5, 11, 17)] :: wG)) B.pre w9 (List.mem_cons_of_mem _ h9)
  have htab : cg.exceptionTable.toList = tableOf [(0, 5, 8, 13), (0, 5, 11, 17)] := vx_table (x := y_Lw_quarantine) B (atoms_spec (ws := (.codeWith y_Lw_quarantine b_Lw_quarantine 3 (some .int) [(0, 5, 8, 13), (0, 5, 11, 17)] :: wG)) B.pre _ List.mem_cons_self)
  have hown : s.vm.findClass "PrefixRegistryLaw" = some mg.cls := findClass_of_methodNamed B.named
  subst hsz
  have hD := hD0.self (sz := s.heap.size)
  unfold QlV
  generalize hAe : va_A (wUS cI o g g2 jh ja (S, S2, pt, jn)) s.heap.size = A at hD hX0 ⊢
  have hA : ∀ q : Nat, s.heap.size ≤ q → A q := fun q h => by rw [← hAe]; exact Or.inr h
  have hS : va_S A s.heap s.heap [] := va_S.rf
  have hl := lv_entry ([.ref o, .int (nI w)]) (n := 3) (Nat.le_of_ble_eq_true rfl)
  rw [lg_entry_eq]
  generalize (lg_sl ([.ref o, .int (nI w)]) ++ List.replicate (3 - (lg_sl ([.ref o, .int (nI w)])).length) Slot.unset).toArray = ls at hl ⊢
  replace hl : lv_has ls 3 [(0, .ref o), (1, .int (nI w))] := hl
  replace hP : va_P (dC, dI) classes (wUS cI o g g2 jh ja (S, S2, pt, jn)) s.heap := hP
  replace hD : va_D A (wUS cI o g g2 jh ja (S, S2, pt, jn)) := hD
  refine lv_aload_n hx hb d_Lw_quarantine_0 rfl (lv_at hl 0 rfl) ?_
  refine lv_iload_n hx hb d_Lw_quarantine_1 rfl (lv_at hl 1 rfl) ?_
  have hPc := hP.sub (ws' := (wPR cI o g S g2 S2 jh ja pt jn)) [0, 1, 2, 3, 4, 5, 6, 7, 8, 9, 10, 11, 12, 13, 14, 15, 16, 17, 18, 19, 20, 21, 22, 23, 24, 25, 26, 27, 28] rfl
  have hDc := hD.sub (ws' := (wPR cI o g S g2 S2 jh ja pt jn)) [0, 1, 2, 3, 4, 5, 6, 7, 8, 9, 10, 11, 12, 13, 14, 15, 16, 17, 18, 19, 20, 21, 22, 23, 24, 25, 26, 27, 28] (by decide) rfl
  have hFc := va_free (wc := (wPR cI o g S g2 S2 jh ja pt jn)) hD hS hA [0, 1, 2, 3, 4, 5, 6, 7, 8, 9, 10, 11, 12, 13, 14, 15, 16, 17, 18, 19, 20, 21, 22, 23, 24, 25, 26, 27, 28] rfl
  refine vx_callv (vx_runV (b := o) (As := [.int (nI w)]) (rest := []) ⟨hx, hb, hml, hown, hts⟩ (c_PR_quarantine l hlt dC dI s.heap.size cI o g S g2 S2 jh ja pt jn hS9 hjn w hw0) (cwV 1 hts (gV kw_601 kw_602 kw_603 kw_1 kw_604) rfl rfl rfl (by decide +kernel) ⟨Nat.le_of_ble_eq_true rfl, Nat.le_of_ble_eq_true rfl⟩) ⟨PcX.blind, va_recv (q0 := 0) hK hPc rfl rfl, PcX.use hPc hK hN hDc hX0 hS hFc⟩ rfl rfl hl.1 rfl (lv_room (Nat.le_of_ble_eq_true rfl)) d_Lw_quarantine_2 ⟨Nat.le_of_ble_eq_true rfl, Nat.le_of_ble_eq_true rfl⟩) hS (fun q _ h => hFc q h) hFc (fun q h1 h2 => absurd h2 (Nat.not_le.mpr h1)) (fun E9 ce q9 u9 H9 H1 locs hH9 hv9 _ hB hz1 hk1 hS => ?_) (fun u9 H9 H1 locs hH9 hv9 hp9 hB hz1 hk1 hS => ?_)
  · intro hce hcv hcl
    replace hP : va_P (dC, dI) classes (wUS cI o g g2 jh ja (S, S2, pt, jn)) H1 := x_keep hP hk1
    rcases hB with ⟨rfl, h1⟩ | ⟨rfl, h1⟩
    · skip
      refine vx_catch (name := "java/lang/IllegalArgumentException") hown [] ⟨0, 5, 8, 13⟩ [⟨0, 5, 11, 17⟩] htab (fun _ h9 => nomatch h9) (by decide) (by decide) (hts _ kw_206) (va_Nw.use rfl (hX0.2.2 _ (List.mem_append_right _ (List.mem_of_getElem? (i := 223) (by decide +kernel))) rfl)) hce hcv hcl ?_
      refine lv_astore_n hx hb d_Lw_quarantine_8 rfl hl (by decide) rfl (fun ls hl => ?_)
      refine lv_iconst (v := 1) hx hb d_Lw_quarantine_9 (by decide) ?_
      refine vx_ret ?_
      refine W.widen (k := 1) (n := 6) (Nat.le_of_ble_eq_true rfl) (Nat.le_of_ble_eq_true rfl) ?_
      exact W.iret (v := 1) hx hb hr (fun t ht hW => ⟨⟨1, (1, (S, S2, pt, jn)), rfl, ⟨rfl, Or.inr (Or.inl ⟨rfl, h1, rfl⟩)⟩, by rw [ht]; exact hP, va_K.moved hW.alike hK, hD⟩, hS.F ht⟩) hS.2.2 d_Lw_quarantine_10
    · skip
      refine vx_catch (name := "java/lang/UnsupportedOperationException") hown [⟨0, 5, 8, 13⟩] ⟨0, 5, 11, 17⟩ [] htab (List.forall_mem_cons.mpr ⟨Or.inr ⟨by decide, "java/lang/IllegalArgumentException", hts _ kw_206, hXN ("java/lang/UnsupportedOperationException", "java/lang/IllegalArgumentException") (by decide)⟩, (fun _ h9 => nomatch h9)⟩) (by decide) (by decide) (hts _ kw_208) (va_Nw.use rfl (hX0.2.2 _ (List.mem_append_right _ (List.mem_of_getElem? (i := 319) (by decide +kernel))) rfl)) hce hcv hcl ?_
      refine lv_astore_n hx hb d_Lw_quarantine_11 rfl hl (by decide) rfl (fun ls hl => ?_)
      refine lv_iconst (v := 2) hx hb d_Lw_quarantine_12 (by decide) ?_
      refine vx_ret ?_
      refine W.widen (k := 1) (n := 6) (Nat.le_of_ble_eq_true rfl) (Nat.le_of_ble_eq_true rfl) ?_
      exact W.iret (v := 2) hx hb hr (fun t ht hW => ⟨⟨2, (2, (S, S2, pt, jn)), rfl, ⟨rfl, Or.inr (Or.inr ⟨rfl, h1, rfl⟩)⟩, by rw [ht]; exact hP, va_K.moved hW.alike hK, hD⟩, hS.F ht⟩) hS.2.2 d_Lw_quarantine_13
  obtain ⟨hP1, hK1, hD1⟩ := hB
  rw [hH9] at hP1
  obtain ⟨hP, hD⟩ := va_join (wr := []) (w1 := (wUS cI o g g2 jh ja u9)) hP hD [0, 1, 2, 3, 4, 5, 6, 7, 8, 9, 10, 11, 12, 13, 14, 15, 16, 17, 18, 19, 20, 21, 22, 23, 24, 25, 26, 27, 28] [] rfl rfl (by decide) (by decide) hk1 hFc hP1 hD1
  replace hP : va_P (dC, dI) classes (wUS cI o g g2 jh ja u9) H1 := hP
  replace hD : va_D A (wUS cI o g g2 jh ja u9) := hD
  refine lv_goto hx hb d_Lw_quarantine_5 rfl ?_
  refine lv_iconst (v := 0) hx hb d_Lw_quarantine_14 (by decide) ?_
  refine vx_ret ?_
  refine W.widen (k := 1) (n := 6) (Nat.le_of_ble_eq_true rfl) (Nat.le_of_ble_eq_true rfl) ?_
  exact W.iret (v := 0) hx hb hr (fun t ht hW => ⟨⟨0, (0, u9), rfl, ⟨rfl, Or.inl ⟨rfl, ⟨hp9.1, hp9.2.1⟩, hp9.2.2⟩⟩, by rw [ht]; exact hP, va_K.moved hW.alike hK, hD⟩, hS.F ht⟩) hS.2.2 d_Lw_quarantine_15
set_option maxHeartbeats 4000000 in
set_option maxRecDepth 100000 in
theorem c_Lw_day (l : Launch) (hlt : l.stackTraces = false) (dC : Nat → ClassId) (dI : Nat → Nat → Nat) (sz : Nat) (cI : ClassId) (o : Nat) (g : Nat → Nat) (S : LDS) (g2 : Nat → Nat) (S2 : LDS) (jh ja : Nat) (pt : Nat → Int32) (jn : Nat) (hS9 : LDok S) (hjn : jn ≤ 300) (cJ : ClassId) (oa : Nat) (f0 : Nat → Int64) (hL9 : LIV S.X) (n : Nat) (hn0 : n < 4294967296) : vx_Met l y_Lw_day (.codeWith y_Lw_day b_Lw_day 4 (some .int) [(0, 9, 12, 13), (0, 9, 15, 17)] :: wG) ({ frames := 9, cells := 1, slots := 6, locals := 221 }) (PcL (dC, dI) [(cI, .int), (cJ, .long)] (wLw cI cJ o g g2 jh ja (S, S2, pt, jn) oa f0) [.ref o, .int (nI n), .ref oa] sz) (QlI (dC, dI) cI cJ o g g2 jh ja oa (wLw cI cJ o g g2 jh ja (S, S2, pt, jn) oa f0) sz (wDay S S2 pt jn n)) XCf 1 6 (va_A (wLw cI cJ o g g2 jh ja (S, S2, pt, jn) oa f0) sz) := by
  refine vx_ofWH (cc := b_Lw_day) (maxL := 4) (ret := (some .int)) (hh := [(0, 9, 12, 13), (0, 9, 15, 17)]) (by decide) rfl ?_
  intro pg eg s mg ag bg meth cg s₁ B hml hv
  obtain ⟨rfl, hsz, hP, hK, hD0, hN, hX0, hXN⟩ := hv
  have hx := B.exec
  have hb := B.bytes
  have hr := B.returns
  have hts : ∀ w9 ∈ wG, w9.before ([.ref o, .int (nI n), .ref oa] : List Value).toArray s = true := fun w9 h9 => atoms_spec (ws := (.codeWith y_Lw_day b_Lw_day 4 (some .int) [(0, 9, 12, 13), (0, 9, 15, 17)] :: wG)) B.pre w9 (List.mem_cons_of_mem _ h9)
  have htab : cg.exceptionTable.toList = tableOf [(0, 9, 12, 13), (0, 9, 15, 17)] := vx_table (x := y_Lw_day) B (atoms_spec (ws := (.codeWith y_Lw_day b_Lw_day 4 (some .int) [(0, 9, 12, 13), (0, 9, 15, 17)] :: wG)) B.pre _ List.mem_cons_self)
  have hown : s.vm.findClass "PrefixRegistryLaw" = some mg.cls := findClass_of_methodNamed B.named
  subst hsz
  have hD := hD0.self (sz := s.heap.size)
  unfold QlI
  generalize hAe : va_A (wLw cI cJ o g g2 jh ja (S, S2, pt, jn) oa f0) s.heap.size = A at hD hX0 ⊢
  have hA : ∀ q : Nat, s.heap.size ≤ q → A q := fun q h => by rw [← hAe]; exact Or.inr h
  have hS : va_S A s.heap s.heap [] := va_S.rf
  have hl := lv_entry ([.ref o, .int (nI n), .ref oa]) (n := 4) (Nat.le_of_ble_eq_true rfl)
  rw [lg_entry_eq]
  generalize (lg_sl ([.ref o, .int (nI n), .ref oa]) ++ List.replicate (4 - (lg_sl ([.ref o, .int (nI n), .ref oa])).length) Slot.unset).toArray = ls at hl ⊢
  replace hl : lv_has ls 4 [(0, .ref o), (1, .int (nI n)), (2, .ref oa)] := hl
  replace hP : va_P (dC, dI) classes (wLw cI cJ o g g2 jh ja (S, S2, pt, jn) oa f0) s.heap := hP
  replace hD : va_D A (wLw cI cJ o g g2 jh ja (S, S2, pt, jn) oa f0) := hD
  refine lv_aload_n hx hb d_Lw_day_0 rfl (lv_at hl 2 rfl) ?_
  refine lv_iconst (v := 0) hx hb d_Lw_day_1 (by decide) ?_
  refine lv_aload_n hx hb d_Lw_day_2 rfl (lv_at hl 0 rfl) ?_
  refine lv_iload_n hx hb d_Lw_day_3 rfl (lv_at hl 1 rfl) ?_
  have hPc := hP.sub (ws' := (wPR cI o g S g2 S2 jh ja pt jn)) [0, 1, 2, 3, 4, 5, 6, 7, 8, 9, 10, 11, 12, 13, 14, 15, 16, 17, 18, 19, 20, 21, 22, 23, 24, 25, 26, 27, 28] rfl
  have hDc := hD.sub (ws' := (wPR cI o g S g2 S2 jh ja pt jn)) [0, 1, 2, 3, 4, 5, 6, 7, 8, 9, 10, 11, 12, 13, 14, 15, 16, 17, 18, 19, 20, 21, 22, 23, 24, 25, 26, 27, 28] (by decide) rfl
  have hFc := va_free (wc := (wPR cI o g S g2 S2 jh ja pt jn)) hD hS hA [0, 1, 2, 3, 4, 5, 6, 7, 8, 9, 10, 11, 12, 13, 14, 15, 16, 17, 18, 19, 20, 21, 22, 23, 24, 25, 26, 27, 28] rfl
  refine vx_calli (vx_runV (b := o) (As := [.int (nI n)]) (rest := [.int 0, .ref oa]) ⟨hx, hb, hml, hown, hts⟩ (c_PR_day l hlt dC dI s.heap.size cI o g S g2 S2 jh ja pt jn hS9 hjn hL9 n hn0) (cwV 1 hts (gV kw_593 kw_594 kw_595 kw_1 kw_596) rfl rfl rfl (by decide +kernel) ⟨Nat.le_of_ble_eq_true rfl, Nat.le_of_ble_eq_true rfl⟩) ⟨PcX.blind, va_recv (q0 := 0) (hK.sub (tys' := [(cI, .int)]) [0] rfl) hPc rfl rfl, PcX.use hPc (hK.sub (tys' := [(cI, .int)]) [0] rfl) hN hDc hX0 hS hFc⟩ rfl rfl hl.1 rfl (lv_room (Nat.le_of_ble_eq_true rfl)) d_Lw_day_4 ⟨Nat.le_of_ble_eq_true rfl, Nat.le_of_ble_eq_true rfl⟩) hS (fun q _ h => hFc q h) hFc (fun q h1 h2 => absurd h2 (Nat.not_le.mpr h1)) (fun E9 ce q9 u9 H9 H1 locs hH9 hv9 _ hB hz1 hk1 hS => ?_) (fun r9 u9 H9 H1 locs hH9 hv9 hp9 hB hz1 hk1 hS => ?_)
  · intro hce hcv hcl
    replace hP : va_P (dC, dI) classes (wLw cI cJ o g g2 jh ja (S, S2, pt, jn) oa f0) H1 := x_keep hP hk1
    rcases hB with ⟨rfl, h1⟩ | ⟨rfl, h1⟩
    · skip
      refine vx_catch (name := "java/lang/IllegalArgumentException") hown [] ⟨0, 9, 12, 13⟩ [⟨0, 9, 15, 17⟩] htab (fun _ h9 => nomatch h9) (by decide) (by decide) (hts _ kw_206) (va_Nw.use rfl (hX0.2.2 _ (List.mem_append_right _ (List.mem_of_getElem? (i := 223) (by decide +kernel))) rfl)) hce hcv hcl ?_
      refine lv_astore_n hx hb d_Lw_day_12 rfl hl (by decide) rfl (fun ls hl => ?_)
      refine lv_iconst (v := 1) hx hb d_Lw_day_13 (by decide) ?_
      refine vx_ret ?_
      refine W.widen (k := 1) (n := 6) (Nat.le_of_ble_eq_true rfl) (Nat.le_of_ble_eq_true rfl) ?_
      exact W.iret (v := 1) hx hb hr (fun t ht hW => ⟨⟨1, (1, (0, ((S, S2, pt, jn), f0))), rfl, ⟨rfl, Or.inr (Or.inl ⟨rfl, h1, rfl⟩), fun h9 => absurd h9 (show ¬ (1 : Nat) = 0 by decide), (show (1 : Nat) < 5 by decide)⟩, by rw [ht]; exact hP, va_K.moved hW.alike hK, hD⟩, hS.F ht⟩) hS.2.2 d_Lw_day_14
    · skip
      refine vx_catch (name := "java/lang/UnsupportedOperationException") hown [⟨0, 9, 12, 13⟩] ⟨0, 9, 15, 17⟩ [] htab (List.forall_mem_cons.mpr ⟨Or.inr ⟨by decide, "java/lang/IllegalArgumentException", hts _ kw_206, hXN ("java/lang/UnsupportedOperationException", "java/lang/IllegalArgumentException") (by decide)⟩, (fun _ h9 => nomatch h9)⟩) (by decide) (by decide) (hts _ kw_208) (va_Nw.use rfl (hX0.2.2 _ (List.mem_append_right _ (List.mem_of_getElem? (i := 319) (by decide +kernel))) rfl)) hce hcv hcl ?_
      refine lv_astore_n hx hb d_Lw_day_15 rfl hl (by decide) rfl (fun ls hl => ?_)
      refine lv_iconst (v := 2) hx hb d_Lw_day_16 (by decide) ?_
      refine vx_ret ?_
      refine W.widen (k := 1) (n := 6) (Nat.le_of_ble_eq_true rfl) (Nat.le_of_ble_eq_true rfl) ?_
      exact W.iret (v := 2) hx hb hr (fun t ht hW => ⟨⟨2, (2, (0, ((S, S2, pt, jn), f0))), rfl, ⟨rfl, Or.inr (Or.inr ⟨rfl, h1, rfl⟩), fun h9 => absurd h9 (show ¬ (2 : Nat) = 0 by decide), (show (2 : Nat) < 5 by decide)⟩, by rw [ht]; exact hP, va_K.moved hW.alike hK, hD⟩, hS.F ht⟩) hS.2.2 d_Lw_day_17
  obtain ⟨hP1, hK1, hD1⟩ := hB
  rw [hH9] at hP1
  obtain ⟨hP, hD⟩ := va_join (wr := [(oa, .inl (cJ, 1, .inr (.inl f0)))]) (w1 := (wUS cI o g g2 jh ja u9)) hP hD [0, 1, 2, 3, 4, 5, 6, 7, 8, 9, 10, 11, 12, 13, 14, 15, 16, 17, 18, 19, 20, 21, 22, 23, 24, 25, 26, 27, 28] [29] rfl rfl (by decide) (by decide) hk1 hFc hP1 hD1
  replace hP : va_P (dC, dI) classes (wLw cI cJ o g g2 jh ja u9 oa f0) H1 := hP.sub (ws' := (wLw cI cJ o g g2 jh ja u9 oa f0)) [1, 2, 3, 4, 5, 6, 7, 8, 9, 10, 11, 12, 13, 14, 15, 16, 17, 18, 19, 20, 21, 22, 23, 24, 25, 26, 27, 28, 29, 0] rfl
  replace hD : va_D A (wLw cI cJ o g g2 jh ja u9 oa f0) := hD.sub (ws' := (wLw cI cJ o g g2 jh ja u9 oa f0)) [1, 2, 3, 4, 5, 6, 7, 8, 9, 10, 11, 12, 13, 14, 15, 16, 17, 18, 19, 20, 21, 22, 23, 24, 25, 26, 27, 28, 29, 0] (by decide) rfl
  refine lv_i2l hx hb d_Lw_day_7 rfl ?_
  refine va_last (i := 0) (x := r9.toInt64) hx hb hK hP hD hS 29 1 rfl rfl (by unfold vp_in; decide) d_Lw_day_8 (fun H1 locs hP hD hS => ?_)
  replace hP : va_P (dC, dI) classes (wLw cI cJ o g g2 jh ja u9 oa (vp_updL f0 0 r9.toInt64)) H1 := hP
  replace hD : va_D A (wLw cI cJ o g g2 jh ja u9 oa (vp_updL f0 0 r9.toInt64)) := hD
  refine lv_goto hx hb d_Lw_day_9 rfl ?_
  refine lv_iconst (v := 0) hx hb d_Lw_day_18 (by decide) ?_
  refine vx_ret ?_
  refine W.widen (k := 1) (n := 6) (Nat.le_of_ble_eq_true rfl) (Nat.le_of_ble_eq_true rfl) ?_
  exact W.iret (v := 0) hx hb hr (fun t ht hW => ⟨⟨0, (0, (r9.toInt64, (u9, (vp_updL f0 0 r9.toInt64)))), rfl, ⟨rfl, Or.inl ⟨rfl, ⟨hp9.1, hp9.2.1⟩, congrArg Int32.toInt64 hp9.2.2.1, hp9.2.2.2⟩, fun _ => rfl, (show (0 : Nat) < 5 by decide)⟩, by rw [ht]; exact hP, va_K.moved hW.alike hK, hD⟩, hS.F ht⟩) hS.2.2 d_Lw_day_19
set_option maxHeartbeats 4000000 in
set_option maxRecDepth 100000 in
theorem c_Lw_field (l : Launch) (hlt : l.stackTraces = false) (dC : Nat → ClassId) (dI : Nat → Nat → Nat) (sz : Nat) (cI : ClassId) (o : Nat) (g : Nat → Nat) (S : LDS) (g2 : Nat → Nat) (S2 : LDS) (jh ja : Nat) (pt : Nat → Int32) (jn : Nat) (hS9 : LDok S) (hjn : jn ≤ 300) (cJ : ClassId) (oa : Nat) (f0 : Nat → Int64) (hL9 : LIV S.X) (x w : Nat) (hx0 : x < 4294967296) (hw0 : w < 4294967296) : vx_Met l y_Lw_field (.codeWith y_Lw_field b_Lw_field 5 (some .int) [(0, 10, 13, 30), (0, 10, 17, 13)] :: wG) ({ frames := 8, cells := 2, slots := 12, locals := 124 }) (PcL (dC, dI) [(cI, .int), (cJ, .long)] (wLw cI cJ o g g2 jh ja (S, S2, pt, jn) oa f0) [.ref o, .int (nI x), .int (nI w), .ref oa] sz) (QlI (dC, dI) cI cJ o g g2 jh ja oa (wLw cI cJ o g g2 jh ja (S, S2, pt, jn) oa f0) sz (wFld S S2 pt jn x w)) XCf 2 12 (va_A (wLw cI cJ o g g2 jh ja (S, S2, pt, jn) oa f0) sz) := by
  refine vx_ofWH (cc := b_Lw_field) (maxL := 5) (ret := (some .int)) (hh := [(0, 10, 13, 30), (0, 10, 17, 13)]) (by decide) rfl ?_
  intro pg eg s mg ag bg meth cg s₁ B hml hv
  obtain ⟨rfl, hsz, hP, hK, hD0, hN, hX0, hXN⟩ := hv
  have hx := B.exec
  have hb := B.bytes
  have hr := B.returns
  have hts : ∀ w9 ∈ wG, w9.before ([.ref o, .int (nI x), .int (nI w), .ref oa] : List Value).toArray s = true := fun w9 h9 => atoms_spec (ws := (.codeWith y_Lw_field b_Lw_field 5 (some .int) [(0, 10, 13, 30), (0, 10, 17, 13)] :: wG)) B.pre w9 (List.mem_cons_of_mem _ h9)
  have htab : cg.exceptionTable.toList = tableOf [(0, 10, 13, 30), (0, 10, 17, 13)] := vx_table (x := y_Lw_field) B (atoms_spec (ws := (.codeWith y_Lw_field b_Lw_field 5 (some .int) [(0, 10, 13, 30), (0, 10, 17, 13)] :: wG)) B.pre _ List.mem_cons_self)
  have hown : s.vm.findClass "PrefixRegistryLaw" = some mg.cls := findClass_of_methodNamed B.named
  subst hsz
  have hD := hD0.self (sz := s.heap.size)
  unfold QlI
  generalize hAe : va_A (wLw cI cJ o g g2 jh ja (S, S2, pt, jn) oa f0) s.heap.size = A at hD hX0 ⊢
  have hA : ∀ q : Nat, s.heap.size ≤ q → A q := fun q h => by rw [← hAe]; exact Or.inr h
  have hS : va_S A s.heap s.heap [] := va_S.rf
  have hl := lv_entry ([.ref o, .int (nI x), .int (nI w), .ref oa]) (n := 5) (Nat.le_of_ble_eq_true rfl)
  rw [lg_entry_eq]
  generalize (lg_sl ([.ref o, .int (nI x), .int (nI w), .ref oa]) ++ List.replicate (5 - (lg_sl ([.ref o, .int (nI x), .int (nI w), .ref oa])).length) Slot.unset).toArray = ls at hl ⊢
  replace hl : lv_has ls 5 [(0, .ref o), (1, .int (nI x)), (2, .int (nI w)), (3, .ref oa)] := hl
  replace hP : va_P (dC, dI) classes (wLw cI cJ o g g2 jh ja (S, S2, pt, jn) oa f0) s.heap := hP
  replace hD : va_D A (wLw cI cJ o g g2 jh ja (S, S2, pt, jn) oa f0) := hD
  refine lv_aload_n hx hb d_Lw_field_0 rfl (lv_at hl 3 rfl) ?_
  refine lv_iconst (v := 0) hx hb d_Lw_field_1 (by decide) ?_
  refine lv_aload_n hx hb d_Lw_field_2 rfl (lv_at hl 0 rfl) ?_
  refine lv_iload_n hx hb d_Lw_field_3 rfl (lv_at hl 1 rfl) ?_
  refine lv_iload_n hx hb d_Lw_field_4 rfl (lv_at hl 2 rfl) ?_
  have hPc := hP.sub (ws' := (wPR cI o g S g2 S2 jh ja pt jn)) [0, 1, 2, 3, 4, 5, 6, 7, 8, 9, 10, 11, 12, 13, 14, 15, 16, 17, 18, 19, 20, 21, 22, 23, 24, 25, 26, 27, 28] rfl
  refine vx_calli (vx_runV (b := o) (As := [.int (nI x), .int (nI w)]) (rest := [.int 0, .ref oa]) ⟨hx, hb, hml, hown, hts⟩ (c_PR_field l hlt dC dI s.heap.size cI o g S g2 S2 jh ja pt jn hS9 hjn x w hx0 hw0) (cwV 2 hts (gV kw_608 kw_609 kw_610 kw_1 kw_611) rfl rfl rfl (by decide +kernel) ⟨Nat.le_of_ble_eq_true rfl, Nat.le_of_ble_eq_true rfl⟩) ⟨PcR.blind, va_recv (q0 := 0) (hK.sub (tys' := [(cI, .int)]) [0] rfl) hPc rfl rfl, PcR.use hPc (hK.sub (tys' := [(cI, .int)]) [0] rfl) hN hX0 hS hA⟩ rfl rfl hl.1 rfl (lv_room (Nat.le_of_ble_eq_true rfl)) d_Lw_field_5 ⟨Nat.le_of_ble_eq_true rfl, Nat.le_of_ble_eq_true rfl⟩) hS (fun q h1 h2 => absurd h2 (Nat.not_le.mpr h1)) (fun q h => hA q (Nat.le_trans hS.1 h)) (fun q h1 h2 => absurd h2 (Nat.not_le.mpr h1)) (fun E9 ce q9 u9 H9 H1 locs hH9 hv9 _ hB hz1 hk1 hS => ?_) (fun r9 u9 H9 H1 locs hH9 hv9 hp9 _ hz1 hk1 hS => ?_)
  · intro hce hcv hcl
    replace hP : va_P (dC, dI) classes (wLw cI cJ o g g2 jh ja (S, S2, pt, jn) oa f0) H1 := x_keep hP hk1
    rcases hB with ⟨rfl, h1⟩ | ⟨rfl, h1⟩
    · skip
      refine vx_catch (name := "java/lang/IndexOutOfBoundsException") hown [] ⟨0, 10, 13, 30⟩ [⟨0, 10, 17, 13⟩] htab (fun _ h9 => nomatch h9) (by decide) (by decide) (hts _ kw_513) (va_Nw.use rfl (hX0.2.2 _ (List.mem_append_right _ (List.mem_of_getElem? (i := 525) (by decide +kernel))) rfl)) hce hcv hcl ?_
      refine lv_astore hx hb d_Lw_field_13 hl (by decide) rfl (fun ls hl => ?_)
      refine lv_iconst (v := 1) hx hb d_Lw_field_15 (by decide) ?_
      refine vx_ret ?_
      refine W.widen (k := 2) (n := 12) (Nat.le_of_ble_eq_true rfl) (Nat.le_of_ble_eq_true rfl) ?_
      exact W.iret (v := 1) hx hb hr (fun t ht hW => ⟨⟨1, (1, (0, ((S, S2, pt, jn), f0))), rfl, ⟨rfl, ⟨Or.inr (Or.inl ⟨rfl, h1⟩), rfl⟩, fun h9 => absurd h9 (show ¬ (1 : Nat) = 0 by decide), (show (1 : Nat) < 5 by decide)⟩, by rw [ht]; exact hP, va_K.moved hW.alike hK, hD⟩, hS.F ht⟩) hS.2.2 d_Lw_field_16
    · skip
      refine vx_catch (name := "java/lang/IllegalArgumentException") hown [⟨0, 10, 13, 30⟩] ⟨0, 10, 17, 13⟩ [] htab (List.forall_mem_cons.mpr ⟨Or.inr ⟨by decide, "java/lang/IndexOutOfBoundsException", hts _ kw_513, hXN ("java/lang/IllegalArgumentException", "java/lang/IndexOutOfBoundsException") (by decide)⟩, (fun _ h9 => nomatch h9)⟩) (by decide) (by decide) (hts _ kw_206) (va_Nw.use rfl (hX0.2.2 _ (List.mem_append_right _ (List.mem_of_getElem? (i := 223) (by decide +kernel))) rfl)) hce hcv hcl ?_
      refine lv_astore hx hb d_Lw_field_17 hl (by decide) rfl (fun ls hl => ?_)
      refine lv_iconst (v := 2) hx hb d_Lw_field_19 (by decide) ?_
      refine vx_ret ?_
      refine W.widen (k := 2) (n := 12) (Nat.le_of_ble_eq_true rfl) (Nat.le_of_ble_eq_true rfl) ?_
      exact W.iret (v := 2) hx hb hr (fun t ht hW => ⟨⟨2, (2, (0, ((S, S2, pt, jn), f0))), rfl, ⟨rfl, ⟨Or.inr (Or.inr ⟨rfl, h1⟩), rfl⟩, fun h9 => absurd h9 (show ¬ (2 : Nat) = 0 by decide), (show (2 : Nat) < 5 by decide)⟩, by rw [ht]; exact hP, va_K.moved hW.alike hK, hD⟩, hS.F ht⟩) hS.2.2 d_Lw_field_20
  replace hP : va_P (dC, dI) classes (wLw cI cJ o g g2 jh ja (S, S2, pt, jn) oa f0) H1 := x_keep hP hk1
  refine lv_i2l hx hb d_Lw_field_8 rfl ?_
  refine va_last (i := 0) (x := r9.toInt64) hx hb hK hP hD hS 29 1 rfl rfl (by unfold vp_in; decide) d_Lw_field_9 (fun H1 locs hP hD hS => ?_)
  replace hP : va_P (dC, dI) classes (wLw cI cJ o g g2 jh ja (S, S2, pt, jn) oa (vp_updL f0 0 r9.toInt64)) H1 := hP
  replace hD : va_D A (wLw cI cJ o g g2 jh ja (S, S2, pt, jn) oa (vp_updL f0 0 r9.toInt64)) := hD
  refine lv_goto hx hb d_Lw_field_10 rfl ?_
  refine lv_iconst (v := 0) hx hb d_Lw_field_21 (by decide) ?_
  refine vx_ret ?_
  refine W.widen (k := 2) (n := 12) (Nat.le_of_ble_eq_true rfl) (Nat.le_of_ble_eq_true rfl) ?_
  exact W.iret (v := 0) hx hb hr (fun t ht hW => ⟨⟨0, (0, (r9.toInt64, ((S, S2, pt, jn), (vp_updL f0 0 r9.toInt64)))), rfl, ⟨rfl, ⟨Or.inl ⟨rfl, ⟨hp9.1, hp9.2.1⟩, congrArg Int32.toInt64 hp9.2.2⟩, rfl⟩, fun _ => rfl, (show (0 : Nat) < 5 by decide)⟩, by rw [ht]; exact hP, va_K.moved hW.alike hK, hD⟩, hS.F ht⟩) hS.2.2 d_Lw_field_22
set_option maxHeartbeats 4000000 in
set_option maxRecDepth 100000 in
theorem c_Lw_freeAt (l : Launch) (hlt : l.stackTraces = false) (dC : Nat → ClassId) (dI : Nat → Nat → Nat) (sz : Nat) (cI : ClassId) (o : Nat) (g : Nat → Nat) (S : LDS) (g2 : Nat → Nat) (S2 : LDS) (jh ja : Nat) (pt : Nat → Int32) (jn : Nat) (hS9 : LDok S) (hjn : jn ≤ 300) (cJ : ClassId) (oa : Nat) (f0 : Nat → Int64) (hL9 : LIV S.X) (x n : Nat) (hx0 : x < 4294967296) (hn0 : n < 4294967296) : vx_Met l y_Lw_freeAt (.codeWith y_Lw_freeAt b_Lw_freeAt 5 (some .int) [(0, 9, 12, 30), (0, 9, 16, 13)] :: wG) ({ frames := 9, cells := 2, slots := 12, locals := 222 }) (PcL (dC, dI) [(cI, .int), (cJ, .long)] (wLw cI cJ o g g2 jh ja (S, S2, pt, jn) oa f0) [.ref o, .int (nI x), .int (nI n), .ref oa] sz) (QlI (dC, dI) cI cJ o g g2 jh ja oa (wLw cI cJ o g g2 jh ja (S, S2, pt, jn) oa f0) sz (wFre S S2 pt jn x n)) XCf 2 12 (va_A (wLw cI cJ o g g2 jh ja (S, S2, pt, jn) oa f0) sz) := by
  refine vx_ofWH (cc := b_Lw_freeAt) (maxL := 5) (ret := (some .int)) (hh := [(0, 9, 12, 30), (0, 9, 16, 13)]) (by decide) rfl ?_
  intro pg eg s mg ag bg meth cg s₁ B hml hv
  obtain ⟨rfl, hsz, hP, hK, hD0, hN, hX0, hXN⟩ := hv
  have hx := B.exec
  have hb := B.bytes
  have hr := B.returns
  have hts : ∀ w9 ∈ wG, w9.before ([.ref o, .int (nI x), .int (nI n), .ref oa] : List Value).toArray s = true := fun w9 h9 => atoms_spec (ws := (.codeWith y_Lw_freeAt b_Lw_freeAt 5 (some .int) [(0, 9, 12, 30), (0, 9, 16, 13)] :: wG)) B.pre w9 (List.mem_cons_of_mem _ h9)
  have htab : cg.exceptionTable.toList = tableOf [(0, 9, 12, 30), (0, 9, 16, 13)] := vx_table (x := y_Lw_freeAt) B (atoms_spec (ws := (.codeWith y_Lw_freeAt b_Lw_freeAt 5 (some .int) [(0, 9, 12, 30), (0, 9, 16, 13)] :: wG)) B.pre _ List.mem_cons_self)
  have hown : s.vm.findClass "PrefixRegistryLaw" = some mg.cls := findClass_of_methodNamed B.named
  subst hsz
  have hD := hD0.self (sz := s.heap.size)
  unfold QlI
  generalize hAe : va_A (wLw cI cJ o g g2 jh ja (S, S2, pt, jn) oa f0) s.heap.size = A at hD hX0 ⊢
  have hA : ∀ q : Nat, s.heap.size ≤ q → A q := fun q h => by rw [← hAe]; exact Or.inr h
  have hS : va_S A s.heap s.heap [] := va_S.rf
  have hl := lv_entry ([.ref o, .int (nI x), .int (nI n), .ref oa]) (n := 5) (Nat.le_of_ble_eq_true rfl)
  rw [lg_entry_eq]
  generalize (lg_sl ([.ref o, .int (nI x), .int (nI n), .ref oa]) ++ List.replicate (5 - (lg_sl ([.ref o, .int (nI x), .int (nI n), .ref oa])).length) Slot.unset).toArray = ls at hl ⊢
  replace hl : lv_has ls 5 [(0, .ref o), (1, .int (nI x)), (2, .int (nI n)), (3, .ref oa)] := hl
  replace hP : va_P (dC, dI) classes (wLw cI cJ o g g2 jh ja (S, S2, pt, jn) oa f0) s.heap := hP
  replace hD : va_D A (wLw cI cJ o g g2 jh ja (S, S2, pt, jn) oa f0) := hD
  refine lv_aload_n hx hb d_Lw_freeAt_0 rfl (lv_at hl 3 rfl) ?_
  refine lv_iconst (v := 0) hx hb d_Lw_freeAt_1 (by decide) ?_
  refine lv_aload_n hx hb d_Lw_freeAt_2 rfl (lv_at hl 0 rfl) ?_
  refine lv_iload_n hx hb d_Lw_freeAt_3 rfl (lv_at hl 1 rfl) ?_
  refine lv_iload_n hx hb d_Lw_freeAt_4 rfl (lv_at hl 2 rfl) ?_
  have hPc := hP.sub (ws' := (wPR cI o g S g2 S2 jh ja pt jn)) [0, 1, 2, 3, 4, 5, 6, 7, 8, 9, 10, 11, 12, 13, 14, 15, 16, 17, 18, 19, 20, 21, 22, 23, 24, 25, 26, 27, 28] rfl
  have hDc := hD.sub (ws' := (wPR cI o g S g2 S2 jh ja pt jn)) [0, 1, 2, 3, 4, 5, 6, 7, 8, 9, 10, 11, 12, 13, 14, 15, 16, 17, 18, 19, 20, 21, 22, 23, 24, 25, 26, 27, 28] (by decide) rfl
  have hFc := va_free (wc := (wPR cI o g S g2 S2 jh ja pt jn)) hD hS hA [0, 1, 2, 3, 4, 5, 6, 7, 8, 9, 10, 11, 12, 13, 14, 15, 16, 17, 18, 19, 20, 21, 22, 23, 24, 25, 26, 27, 28] rfl
  refine vx_calll (vx_runV (b := o) (As := [.int (nI x), .int (nI n)]) (rest := [.int 0, .ref oa]) ⟨hx, hb, hml, hown, hts⟩ (c_PR_freeAt l hlt dC dI s.heap.size cI o g S g2 S2 jh ja pt jn hS9 hjn (cof S.X) (fun r hr => ⟨(hL9.ch hr).1, (hL9.ch hr).len hL9.ok.n⟩) (fun r hr c q => (((hL9.ch hr).2.2 c).mp q).1) (fun x q hx hq => Nat.lt_trans (hL9.lt hx hq) hx) (bkX S.X) (fun r hr => ⟨hL9.bk hr, hL9.bkl hr⟩) hL9.hst (fun r hr => hL9.bkb hr) x n hx0 hn0) (cwV 2 hts (gV kw_616 kw_617 kw_618 kw_1 kw_619) rfl rfl rfl (by decide +kernel) ⟨Nat.le_of_ble_eq_true rfl, Nat.le_of_ble_eq_true rfl⟩) ⟨PcX.blind, va_recv (q0 := 0) (hK.sub (tys' := [(cI, .int)]) [0] rfl) hPc rfl rfl, PcX.use hPc (hK.sub (tys' := [(cI, .int)]) [0] rfl) hN hDc hX0 hS hFc⟩ rfl rfl hl.1 rfl (lv_room (Nat.le_of_ble_eq_true rfl)) d_Lw_freeAt_5 ⟨Nat.le_of_ble_eq_true rfl, Nat.le_of_ble_eq_true rfl⟩) hS (fun q _ h => hFc q h) hFc (fun q _ h => hFc q h) (fun E9 ce q9 u9 H9 H1 locs hH9 hv9 _ hB hz1 hk1 hS => ?_) (fun r9 u9 H9 H1 locs hH9 hv9 hp9 hB hz1 hk1 hS => ?_)
  · intro hce hcv hcl
    obtain ⟨hB, hP1, hK1, hD1⟩ := hB
    rw [hH9] at hP1
    obtain ⟨hP, hD⟩ := va_join (wr := [(oa, .inl (cJ, 1, .inr (.inl f0)))]) (w1 := (wUS cI o g g2 jh ja u9)) hP hD [0, 1, 2, 3, 4, 5, 6, 7, 8, 9, 10, 11, 12, 13, 14, 15, 16, 17, 18, 19, 20, 21, 22, 23, 24, 25, 26, 27, 28] [29] rfl rfl (by decide) (by decide) hk1 hFc hP1 hD1
    replace hP : va_P (dC, dI) classes (wLw cI cJ o g g2 jh ja u9 oa f0) H1 := hP.sub (ws' := (wLw cI cJ o g g2 jh ja u9 oa f0)) [1, 2, 3, 4, 5, 6, 7, 8, 9, 10, 11, 12, 13, 14, 15, 16, 17, 18, 19, 20, 21, 22, 23, 24, 25, 26, 27, 28, 29, 0] rfl
    replace hD : va_D A (wLw cI cJ o g g2 jh ja u9 oa f0) := hD.sub (ws' := (wLw cI cJ o g g2 jh ja u9 oa f0)) [1, 2, 3, 4, 5, 6, 7, 8, 9, 10, 11, 12, 13, 14, 15, 16, 17, 18, 19, 20, 21, 22, 23, 24, 25, 26, 27, 28, 29, 0] (by decide) rfl
    rcases hB with ⟨⟨rfl, h1⟩ | ⟨rfl, h1⟩, h2⟩
    · skip
      refine vx_catch (name := "java/lang/IndexOutOfBoundsException") hown [] ⟨0, 9, 12, 30⟩ [⟨0, 9, 16, 13⟩] htab (fun _ h9 => nomatch h9) (by decide) (by decide) (hts _ kw_513) (va_Nw.use rfl (hX0.2.2 _ (List.mem_append_right _ (List.mem_of_getElem? (i := 525) (by decide +kernel))) rfl)) hce hcv hcl ?_
      refine lv_astore hx hb d_Lw_freeAt_12 hl (by decide) rfl (fun ls hl => ?_)
      refine lv_iconst (v := 1) hx hb d_Lw_freeAt_14 (by decide) ?_
      refine vx_ret ?_
      refine W.widen (k := 2) (n := 12) (Nat.le_of_ble_eq_true rfl) (Nat.le_of_ble_eq_true rfl) ?_
      exact W.iret (v := 1) hx hb hr (fun t ht hW => ⟨⟨1, (1, (0, (u9, f0))), rfl, ⟨rfl, Or.inr (Or.inl ⟨rfl, h1, h2⟩), fun h9 => absurd h9 (show ¬ (1 : Nat) = 0 by decide), (show (1 : Nat) < 5 by decide)⟩, by rw [ht]; exact hP, va_K.moved hW.alike hK, hD⟩, hS.F ht⟩) hS.2.2 d_Lw_freeAt_15
    · skip
      refine vx_catch (name := "java/lang/IllegalArgumentException") hown [⟨0, 9, 12, 30⟩] ⟨0, 9, 16, 13⟩ [] htab (List.forall_mem_cons.mpr ⟨Or.inr ⟨by decide, "java/lang/IndexOutOfBoundsException", hts _ kw_513, hXN ("java/lang/IllegalArgumentException", "java/lang/IndexOutOfBoundsException") (by decide)⟩, (fun _ h9 => nomatch h9)⟩) (by decide) (by decide) (hts _ kw_206) (va_Nw.use rfl (hX0.2.2 _ (List.mem_append_right _ (List.mem_of_getElem? (i := 223) (by decide +kernel))) rfl)) hce hcv hcl ?_
      refine lv_astore hx hb d_Lw_freeAt_16 hl (by decide) rfl (fun ls hl => ?_)
      refine lv_iconst (v := 2) hx hb d_Lw_freeAt_18 (by decide) ?_
      refine vx_ret ?_
      refine W.widen (k := 2) (n := 12) (Nat.le_of_ble_eq_true rfl) (Nat.le_of_ble_eq_true rfl) ?_
      exact W.iret (v := 2) hx hb hr (fun t ht hW => ⟨⟨2, (2, (0, (u9, f0))), rfl, ⟨rfl, Or.inr (Or.inr ⟨rfl, h1, h2⟩), fun h9 => absurd h9 (show ¬ (2 : Nat) = 0 by decide), (show (2 : Nat) < 5 by decide)⟩, by rw [ht]; exact hP, va_K.moved hW.alike hK, hD⟩, hS.F ht⟩) hS.2.2 d_Lw_freeAt_19
  obtain ⟨hP1, hK1, hD1⟩ := hB
  rw [hH9] at hP1
  obtain ⟨hP, hD⟩ := va_join (wr := [(oa, .inl (cJ, 1, .inr (.inl f0)))]) (w1 := (wUS cI o g g2 jh ja u9)) hP hD [0, 1, 2, 3, 4, 5, 6, 7, 8, 9, 10, 11, 12, 13, 14, 15, 16, 17, 18, 19, 20, 21, 22, 23, 24, 25, 26, 27, 28] [29] rfl rfl (by decide) (by decide) hk1 hFc hP1 hD1
  replace hP : va_P (dC, dI) classes (wLw cI cJ o g g2 jh ja u9 oa f0) H1 := hP.sub (ws' := (wLw cI cJ o g g2 jh ja u9 oa f0)) [1, 2, 3, 4, 5, 6, 7, 8, 9, 10, 11, 12, 13, 14, 15, 16, 17, 18, 19, 20, 21, 22, 23, 24, 25, 26, 27, 28, 29, 0] rfl
  replace hD : va_D A (wLw cI cJ o g g2 jh ja u9 oa f0) := hD.sub (ws' := (wLw cI cJ o g g2 jh ja u9 oa f0)) [1, 2, 3, 4, 5, 6, 7, 8, 9, 10, 11, 12, 13, 14, 15, 16, 17, 18, 19, 20, 21, 22, 23, 24, 25, 26, 27, 28, 29, 0] (by decide) rfl
  refine va_last (i := 0) (x := r9) hx hb hK hP hD hS 29 1 rfl rfl (by unfold vp_in; decide) d_Lw_freeAt_8 (fun H1 locs hP hD hS => ?_)
  replace hP : va_P (dC, dI) classes (wLw cI cJ o g g2 jh ja u9 oa (vp_updL f0 0 r9)) H1 := hP
  replace hD : va_D A (wLw cI cJ o g g2 jh ja u9 oa (vp_updL f0 0 r9)) := hD
  refine lv_goto hx hb d_Lw_freeAt_9 rfl ?_
  refine lv_iconst (v := 0) hx hb d_Lw_freeAt_20 (by decide) ?_
  refine vx_ret ?_
  refine W.widen (k := 2) (n := 12) (Nat.le_of_ble_eq_true rfl) (Nat.le_of_ble_eq_true rfl) ?_
  exact W.iret (v := 0) hx hb hr (fun t ht hW => ⟨⟨0, (0, (r9, (u9, (vp_updL f0 0 r9)))), rfl, ⟨rfl, Or.inl ⟨rfl, ⟨hp9.1, hp9.2.1⟩, hp9.2.2.1, hp9.2.2.2⟩, fun _ => rfl, (show (0 : Nat) < 5 by decide)⟩, by rw [ht]; exact hP, va_K.moved hW.alike hK, hD⟩, hS.F ht⟩) hS.2.2 d_Lw_freeAt_21
set_option maxHeartbeats 4000000 in
set_option maxRecDepth 100000 in
theorem c_Lw_blocks (l : Launch) (hlt : l.stackTraces = false) (dC : Nat → ClassId) (dI : Nat → Nat → Nat) (sz : Nat) (cI : ClassId) (o : Nat) (g : Nat → Nat) (S : LDS) (g2 : Nat → Nat) (S2 : LDS) (jh ja : Nat) (pt : Nat → Int32) (jn : Nat) (hS9 : LDok S) (hjn : jn ≤ 300) (cJ : ClassId) (oa : Nat) (f0 : Nat → Int64) (hL9 : LIV S.X) (x : Nat) (hx0 : x < 4294967296) : vx_Met l y_Lw_blocks (.codeWith y_Lw_blocks b_Lw_blocks 4 (some .int) [(0, 9, 12, 30)] :: wG) ({ frames := 9, cells := 1, slots := 6, locals := 221 }) (PcL (dC, dI) [(cI, .int), (cJ, .long)] (wLw cI cJ o g g2 jh ja (S, S2, pt, jn) oa f0) [.ref o, .int (nI x), .ref oa] sz) (QlI (dC, dI) cI cJ o g g2 jh ja oa (wLw cI cJ o g g2 jh ja (S, S2, pt, jn) oa f0) sz (wBls S S2 pt jn x)) XCf 1 6 (va_A (wLw cI cJ o g g2 jh ja (S, S2, pt, jn) oa f0) sz) := by
  refine vx_ofWH (cc := b_Lw_blocks) (maxL := 4) (ret := (some .int)) (hh := [(0, 9, 12, 30)]) (by decide) rfl ?_
  intro pg eg s mg ag bg meth cg s₁ B hml hv
  obtain ⟨rfl, hsz, hP, hK, hD0, hN, hX0, hXN⟩ := hv
  have hx := B.exec
  have hb := B.bytes
  have hr := B.returns
  have hts : ∀ w9 ∈ wG, w9.before ([.ref o, .int (nI x), .ref oa] : List Value).toArray s = true := fun w9 h9 => atoms_spec (ws := (.codeWith y_Lw_blocks b_Lw_blocks 4 (some .int) [(0, 9, 12, 30)] :: wG)) B.pre w9 (List.mem_cons_of_mem _ h9)
  have htab : cg.exceptionTable.toList = tableOf [(0, 9, 12, 30)] := vx_table (x := y_Lw_blocks) B (atoms_spec (ws := (.codeWith y_Lw_blocks b_Lw_blocks 4 (some .int) [(0, 9, 12, 30)] :: wG)) B.pre _ List.mem_cons_self)
  have hown : s.vm.findClass "PrefixRegistryLaw" = some mg.cls := findClass_of_methodNamed B.named
  subst hsz
  have hD := hD0.self (sz := s.heap.size)
  unfold QlI
  generalize hAe : va_A (wLw cI cJ o g g2 jh ja (S, S2, pt, jn) oa f0) s.heap.size = A at hD hX0 ⊢
  have hA : ∀ q : Nat, s.heap.size ≤ q → A q := fun q h => by rw [← hAe]; exact Or.inr h
  have hS : va_S A s.heap s.heap [] := va_S.rf
  have hl := lv_entry ([.ref o, .int (nI x), .ref oa]) (n := 4) (Nat.le_of_ble_eq_true rfl)
  rw [lg_entry_eq]
  generalize (lg_sl ([.ref o, .int (nI x), .ref oa]) ++ List.replicate (4 - (lg_sl ([.ref o, .int (nI x), .ref oa])).length) Slot.unset).toArray = ls at hl ⊢
  replace hl : lv_has ls 4 [(0, .ref o), (1, .int (nI x)), (2, .ref oa)] := hl
  replace hP : va_P (dC, dI) classes (wLw cI cJ o g g2 jh ja (S, S2, pt, jn) oa f0) s.heap := hP
  replace hD : va_D A (wLw cI cJ o g g2 jh ja (S, S2, pt, jn) oa f0) := hD
  refine lv_aload_n hx hb d_Lw_blocks_0 rfl (lv_at hl 2 rfl) ?_
  refine lv_iconst (v := 0) hx hb d_Lw_blocks_1 (by decide) ?_
  refine lv_aload_n hx hb d_Lw_blocks_2 rfl (lv_at hl 0 rfl) ?_
  refine lv_iload_n hx hb d_Lw_blocks_3 rfl (lv_at hl 1 rfl) ?_
  have hPc := hP.sub (ws' := (wPR cI o g S g2 S2 jh ja pt jn)) [0, 1, 2, 3, 4, 5, 6, 7, 8, 9, 10, 11, 12, 13, 14, 15, 16, 17, 18, 19, 20, 21, 22, 23, 24, 25, 26, 27, 28] rfl
  have hDc := hD.sub (ws' := (wPR cI o g S g2 S2 jh ja pt jn)) [0, 1, 2, 3, 4, 5, 6, 7, 8, 9, 10, 11, 12, 13, 14, 15, 16, 17, 18, 19, 20, 21, 22, 23, 24, 25, 26, 27, 28] (by decide) rfl
  have hFc := va_free (wc := (wPR cI o g S g2 S2 jh ja pt jn)) hD hS hA [0, 1, 2, 3, 4, 5, 6, 7, 8, 9, 10, 11, 12, 13, 14, 15, 16, 17, 18, 19, 20, 21, 22, 23, 24, 25, 26, 27, 28] rfl
  refine vx_calli (vx_runV (b := o) (As := [.int (nI x)]) (rest := [.int 0, .ref oa]) ⟨hx, hb, hml, hown, hts⟩ (c_PR_blocks l hlt dC dI s.heap.size cI o g S g2 S2 jh ja pt jn hS9 hjn (cof S.X) (fun r hr => ⟨(hL9.ch hr).1, (hL9.ch hr).len hL9.ok.n⟩) (fun r hr c q => (((hL9.ch hr).2.2 c).mp q).1) (fun x q hx hq => Nat.lt_trans (hL9.lt hx hq) hx) (bkX S.X) (fun r hr => ⟨hL9.bk hr, hL9.bkl hr⟩) hL9.hst (fun r hr => hL9.bkb hr) x hx0) (cwV 1 hts (gV kw_627 kw_628 kw_629 kw_1 kw_630) rfl rfl rfl (by decide +kernel) ⟨Nat.le_of_ble_eq_true rfl, Nat.le_of_ble_eq_true rfl⟩) ⟨PcX.blind, va_recv (q0 := 0) (hK.sub (tys' := [(cI, .int)]) [0] rfl) hPc rfl rfl, PcX.use hPc (hK.sub (tys' := [(cI, .int)]) [0] rfl) hN hDc hX0 hS hFc⟩ rfl rfl hl.1 rfl (lv_room (Nat.le_of_ble_eq_true rfl)) d_Lw_blocks_4 ⟨Nat.le_of_ble_eq_true rfl, Nat.le_of_ble_eq_true rfl⟩) hS (fun q _ h => hFc q h) hFc (fun q _ h => hFc q h) (fun E9 ce q9 u9 H9 H1 locs hH9 hv9 _ hB hz1 hk1 hS => ?_) (fun r9 u9 H9 H1 locs hH9 hv9 hp9 hB hz1 hk1 hS => ?_)
  · intro hce hcv hcl
    obtain ⟨hB, hP1, hK1, hD1⟩ := hB
    rw [hH9] at hP1
    obtain ⟨hP, hD⟩ := va_join (wr := [(oa, .inl (cJ, 1, .inr (.inl f0)))]) (w1 := (wUS cI o g g2 jh ja u9)) hP hD [0, 1, 2, 3, 4, 5, 6, 7, 8, 9, 10, 11, 12, 13, 14, 15, 16, 17, 18, 19, 20, 21, 22, 23, 24, 25, 26, 27, 28] [29] rfl rfl (by decide) (by decide) hk1 hFc hP1 hD1
    replace hP : va_P (dC, dI) classes (wLw cI cJ o g g2 jh ja u9 oa f0) H1 := hP.sub (ws' := (wLw cI cJ o g g2 jh ja u9 oa f0)) [1, 2, 3, 4, 5, 6, 7, 8, 9, 10, 11, 12, 13, 14, 15, 16, 17, 18, 19, 20, 21, 22, 23, 24, 25, 26, 27, 28, 29, 0] rfl
    replace hD : va_D A (wLw cI cJ o g g2 jh ja u9 oa f0) := hD.sub (ws' := (wLw cI cJ o g g2 jh ja u9 oa f0)) [1, 2, 3, 4, 5, 6, 7, 8, 9, 10, 11, 12, 13, 14, 15, 16, 17, 18, 19, 20, 21, 22, 23, 24, 25, 26, 27, 28, 29, 0] (by decide) rfl
    rcases hB with ⟨⟨rfl, h1⟩, h2⟩
    · skip
      refine vx_catch (name := "java/lang/IndexOutOfBoundsException") hown [] ⟨0, 9, 12, 30⟩ [] htab (fun _ h9 => nomatch h9) (by decide) (by decide) (hts _ kw_513) (va_Nw.use rfl (hX0.2.2 _ (List.mem_append_right _ (List.mem_of_getElem? (i := 525) (by decide +kernel))) rfl)) hce hcv hcl ?_
      refine lv_astore_n hx hb d_Lw_blocks_12 rfl hl (by decide) rfl (fun ls hl => ?_)
      refine lv_iconst (v := 1) hx hb d_Lw_blocks_13 (by decide) ?_
      refine vx_ret ?_
      refine W.widen (k := 1) (n := 6) (Nat.le_of_ble_eq_true rfl) (Nat.le_of_ble_eq_true rfl) ?_
      exact W.iret (v := 1) hx hb hr (fun t ht hW => ⟨⟨1, (1, (0, (u9, f0))), rfl, ⟨rfl, Or.inr ⟨rfl, h1, h2⟩, fun h9 => absurd h9 (show ¬ (1 : Nat) = 0 by decide), (show (1 : Nat) < 5 by decide)⟩, by rw [ht]; exact hP, va_K.moved hW.alike hK, hD⟩, hS.F ht⟩) hS.2.2 d_Lw_blocks_14
  obtain ⟨hP1, hK1, hD1⟩ := hB
  rw [hH9] at hP1
  obtain ⟨hP, hD⟩ := va_join (wr := [(oa, .inl (cJ, 1, .inr (.inl f0)))]) (w1 := (wUS cI o g g2 jh ja u9)) hP hD [0, 1, 2, 3, 4, 5, 6, 7, 8, 9, 10, 11, 12, 13, 14, 15, 16, 17, 18, 19, 20, 21, 22, 23, 24, 25, 26, 27, 28] [29] rfl rfl (by decide) (by decide) hk1 hFc hP1 hD1
  replace hP : va_P (dC, dI) classes (wLw cI cJ o g g2 jh ja u9 oa f0) H1 := hP.sub (ws' := (wLw cI cJ o g g2 jh ja u9 oa f0)) [1, 2, 3, 4, 5, 6, 7, 8, 9, 10, 11, 12, 13, 14, 15, 16, 17, 18, 19, 20, 21, 22, 23, 24, 25, 26, 27, 28, 29, 0] rfl
  replace hD : va_D A (wLw cI cJ o g g2 jh ja u9 oa f0) := hD.sub (ws' := (wLw cI cJ o g g2 jh ja u9 oa f0)) [1, 2, 3, 4, 5, 6, 7, 8, 9, 10, 11, 12, 13, 14, 15, 16, 17, 18, 19, 20, 21, 22, 23, 24, 25, 26, 27, 28, 29, 0] (by decide) rfl
  refine lv_i2l hx hb d_Lw_blocks_7 rfl ?_
  refine va_last (i := 0) (x := r9.toInt64) hx hb hK hP hD hS 29 1 rfl rfl (by unfold vp_in; decide) d_Lw_blocks_8 (fun H1 locs hP hD hS => ?_)
  replace hP : va_P (dC, dI) classes (wLw cI cJ o g g2 jh ja u9 oa (vp_updL f0 0 r9.toInt64)) H1 := hP
  replace hD : va_D A (wLw cI cJ o g g2 jh ja u9 oa (vp_updL f0 0 r9.toInt64)) := hD
  refine lv_goto hx hb d_Lw_blocks_9 rfl ?_
  refine lv_iconst (v := 0) hx hb d_Lw_blocks_15 (by decide) ?_
  refine vx_ret ?_
  refine W.widen (k := 1) (n := 6) (Nat.le_of_ble_eq_true rfl) (Nat.le_of_ble_eq_true rfl) ?_
  exact W.iret (v := 0) hx hb hr (fun t ht hW => ⟨⟨0, (0, (r9.toInt64, (u9, (vp_updL f0 0 r9.toInt64)))), rfl, ⟨rfl, Or.inl ⟨rfl, hp9.1, congrArg Int32.toInt64 hp9.2.1, hp9.2.2⟩, fun _ => rfl, (show (0 : Nat) < 5 by decide)⟩, by rw [ht]; exact hP, va_K.moved hW.alike hK, hD⟩, hS.F ht⟩) hS.2.2 d_Lw_blocks_16
set_option maxHeartbeats 4000000 in
set_option maxRecDepth 100000 in
theorem c_Lw_block (l : Launch) (hlt : l.stackTraces = false) (dC : Nat → ClassId) (dI : Nat → Nat → Nat) (sz : Nat) (cI : ClassId) (o : Nat) (g : Nat → Nat) (S : LDS) (g2 : Nat → Nat) (S2 : LDS) (jh ja : Nat) (pt : Nat → Int32) (jn : Nat) (hS9 : LDok S) (hjn : jn ≤ 300) (cJ : ClassId) (oa : Nat) (f0 : Nat → Int64) (hL9 : LIV S.X) (x k : Nat) (hx0 : x < 4294967296) (hk0 : k < 4294967296) (f : Bool) : vx_Met l y_Lw_block (.codeWith y_Lw_block b_Lw_block 6 (some .int) [(0, 12, 15, 30)] :: wG) ({ frames := 9, cells := 2, slots := 12, locals := 223 }) (PcL (dC, dI) [(cI, .int), (cJ, .long)] (wLw cI cJ o g g2 jh ja (S, S2, pt, jn) oa f0) [.ref o, .int (nI x), .int (nI k), .int (bi f), .ref oa] sz) (QlI (dC, dI) cI cJ o g g2 jh ja oa (wLw cI cJ o g g2 jh ja (S, S2, pt, jn) oa f0) sz (wBlk S S2 pt jn x k f)) XCf 2 12 (va_A (wLw cI cJ o g g2 jh ja (S, S2, pt, jn) oa f0) sz) := by
  refine vx_ofWH (cc := b_Lw_block) (maxL := 6) (ret := (some .int)) (hh := [(0, 12, 15, 30)]) (by decide) rfl ?_
  intro pg eg s mg ag bg meth cg s₁ B hml hv
  obtain ⟨rfl, hsz, hP, hK, hD0, hN, hX0, hXN⟩ := hv
  have hx := B.exec
  have hb := B.bytes
  have hr := B.returns
  have hts : ∀ w9 ∈ wG, w9.before ([.ref o, .int (nI x), .int (nI k), .int (bi f), .ref oa] : List Value).toArray s = true := fun w9 h9 => atoms_spec (ws := (.codeWith y_Lw_block b_Lw_block 6 (some .int) [(0, 12, 15, 30)] :: wG)) B.pre w9 (List.mem_cons_of_mem _ h9)
  have htab : cg.exceptionTable.toList = tableOf [(0, 12, 15, 30)] := vx_table (x := y_Lw_block) B (atoms_spec (ws := (.codeWith y_Lw_block b_Lw_block 6 (some .int) [(0, 12, 15, 30)] :: wG)) B.pre _ List.mem_cons_self)
  have hown : s.vm.findClass "PrefixRegistryLaw" = some mg.cls := findClass_of_methodNamed B.named
  subst hsz
  have hD := hD0.self (sz := s.heap.size)
  unfold QlI
  generalize hAe : va_A (wLw cI cJ o g g2 jh ja (S, S2, pt, jn) oa f0) s.heap.size = A at hD hX0 ⊢
  have hA : ∀ q : Nat, s.heap.size ≤ q → A q := fun q h => by rw [← hAe]; exact Or.inr h
  have hS : va_S A s.heap s.heap [] := va_S.rf
  have hl := lv_entry ([.ref o, .int (nI x), .int (nI k), .int (bi f), .ref oa]) (n := 6) (Nat.le_of_ble_eq_true rfl)
  rw [lg_entry_eq]
  generalize (lg_sl ([.ref o, .int (nI x), .int (nI k), .int (bi f), .ref oa]) ++ List.replicate (6 - (lg_sl ([.ref o, .int (nI x), .int (nI k), .int (bi f), .ref oa])).length) Slot.unset).toArray = ls at hl ⊢
  replace hl : lv_has ls 6 [(0, .ref o), (1, .int (nI x)), (2, .int (nI k)), (3, .int (bi f)), (4, .ref oa)] := hl
  replace hP : va_P (dC, dI) classes (wLw cI cJ o g g2 jh ja (S, S2, pt, jn) oa f0) s.heap := hP
  replace hD : va_D A (wLw cI cJ o g g2 jh ja (S, S2, pt, jn) oa f0) := hD
  refine lv_aload hx hb d_Lw_block_0 (lv_at hl 4 rfl) ?_
  refine lv_iconst (v := 0) hx hb d_Lw_block_2 (by decide) ?_
  refine lv_aload_n hx hb d_Lw_block_3 rfl (lv_at hl 0 rfl) ?_
  refine lv_iload_n hx hb d_Lw_block_4 rfl (lv_at hl 1 rfl) ?_
  refine lv_iload_n hx hb d_Lw_block_5 rfl (lv_at hl 2 rfl) ?_
  refine lv_iload_n hx hb d_Lw_block_6 rfl (lv_at hl 3 rfl) ?_
  have hPc := hP.sub (ws' := (wPR cI o g S g2 S2 jh ja pt jn)) [0, 1, 2, 3, 4, 5, 6, 7, 8, 9, 10, 11, 12, 13, 14, 15, 16, 17, 18, 19, 20, 21, 22, 23, 24, 25, 26, 27, 28] rfl
  have hDc := hD.sub (ws' := (wPR cI o g S g2 S2 jh ja pt jn)) [0, 1, 2, 3, 4, 5, 6, 7, 8, 9, 10, 11, 12, 13, 14, 15, 16, 17, 18, 19, 20, 21, 22, 23, 24, 25, 26, 27, 28] (by decide) rfl
  have hFc := va_free (wc := (wPR cI o g S g2 S2 jh ja pt jn)) hD hS hA [0, 1, 2, 3, 4, 5, 6, 7, 8, 9, 10, 11, 12, 13, 14, 15, 16, 17, 18, 19, 20, 21, 22, 23, 24, 25, 26, 27, 28] rfl
  refine vx_calli (vx_runV (b := o) (As := [.int (nI x), .int (nI k), .int (bi f)]) (rest := [.int 0, .ref oa]) ⟨hx, hb, hml, hown, hts⟩ (c_PR_block l hlt dC dI s.heap.size cI o g S g2 S2 jh ja pt jn hS9 hjn (cof S.X) (fun r hr => ⟨(hL9.ch hr).1, (hL9.ch hr).len hL9.ok.n⟩) (fun r hr c q => (((hL9.ch hr).2.2 c).mp q).1) (fun x q hx hq => Nat.lt_trans (hL9.lt hx hq) hx) (bkX S.X) (fun r hr => ⟨hL9.bk hr, hL9.bkl hr⟩) hL9.hst (fun r hr => hL9.bkb hr) x k hx0 hk0 f) (cwV 3 hts (gV kw_638 kw_639 kw_640 kw_1 kw_641) rfl rfl rfl (by decide +kernel) ⟨Nat.le_of_ble_eq_true rfl, Nat.le_of_ble_eq_true rfl⟩) ⟨PcX.blind, va_recv (q0 := 0) (hK.sub (tys' := [(cI, .int)]) [0] rfl) hPc rfl rfl, PcX.use hPc (hK.sub (tys' := [(cI, .int)]) [0] rfl) hN hDc hX0 hS hFc⟩ rfl rfl hl.1 rfl (lv_room (Nat.le_of_ble_eq_true rfl)) d_Lw_block_7 ⟨Nat.le_of_ble_eq_true rfl, Nat.le_of_ble_eq_true rfl⟩) hS (fun q _ h => hFc q h) hFc (fun q _ h => hFc q h) (fun E9 ce q9 u9 H9 H1 locs hH9 hv9 _ hB hz1 hk1 hS => ?_) (fun r9 u9 H9 H1 locs hH9 hv9 hp9 hB hz1 hk1 hS => ?_)
  · intro hce hcv hcl
    obtain ⟨hB, hP1, hK1, hD1⟩ := hB
    rw [hH9] at hP1
    obtain ⟨hP, hD⟩ := va_join (wr := [(oa, .inl (cJ, 1, .inr (.inl f0)))]) (w1 := (wUS cI o g g2 jh ja u9)) hP hD [0, 1, 2, 3, 4, 5, 6, 7, 8, 9, 10, 11, 12, 13, 14, 15, 16, 17, 18, 19, 20, 21, 22, 23, 24, 25, 26, 27, 28] [29] rfl rfl (by decide) (by decide) hk1 hFc hP1 hD1
    replace hP : va_P (dC, dI) classes (wLw cI cJ o g g2 jh ja u9 oa f0) H1 := hP.sub (ws' := (wLw cI cJ o g g2 jh ja u9 oa f0)) [1, 2, 3, 4, 5, 6, 7, 8, 9, 10, 11, 12, 13, 14, 15, 16, 17, 18, 19, 20, 21, 22, 23, 24, 25, 26, 27, 28, 29, 0] rfl
    replace hD : va_D A (wLw cI cJ o g g2 jh ja u9 oa f0) := hD.sub (ws' := (wLw cI cJ o g g2 jh ja u9 oa f0)) [1, 2, 3, 4, 5, 6, 7, 8, 9, 10, 11, 12, 13, 14, 15, 16, 17, 18, 19, 20, 21, 22, 23, 24, 25, 26, 27, 28, 29, 0] (by decide) rfl
    rcases hB with ⟨⟨rfl, h1⟩, h2⟩ | ⟨rfl, h1⟩ | ⟨rfl, h1⟩
    · skip
      refine vx_catch (name := "java/lang/IndexOutOfBoundsException") hown [] ⟨0, 12, 15, 30⟩ [] htab (fun _ h9 => nomatch h9) (by decide) (by decide) (hts _ kw_513) (va_Nw.use rfl (hX0.2.2 _ (List.mem_append_right _ (List.mem_of_getElem? (i := 525) (by decide +kernel))) rfl)) hce hcv hcl ?_
      refine lv_astore hx hb d_Lw_block_15 hl (by decide) rfl (fun ls hl => ?_)
      refine lv_iconst (v := 1) hx hb d_Lw_block_17 (by decide) ?_
      refine vx_ret ?_
      refine W.widen (k := 2) (n := 12) (Nat.le_of_ble_eq_true rfl) (Nat.le_of_ble_eq_true rfl) ?_
      exact W.iret (v := 1) hx hb hr (fun t ht hW => ⟨⟨1, (1, (0, (u9, f0))), rfl, ⟨rfl, Or.inr (Or.inl ⟨rfl, h1, h2⟩), fun h9 => absurd h9 (show ¬ (1 : Nat) = 0 by decide), (show (1 : Nat) < 5 by decide)⟩, by rw [ht]; exact hP, va_K.moved hW.alike hK, hD⟩, hS.F ht⟩) hS.2.2 d_Lw_block_18
    · skip
      refine vx_catch (name := "java/lang/IndexOutOfBoundsException") hown [] ⟨0, 12, 15, 30⟩ [] htab (fun _ h9 => nomatch h9) (by decide) (by decide) (hts _ kw_513) (va_Nw.use rfl (hX0.2.2 _ (List.mem_append_right _ (List.mem_of_getElem? (i := 525) (by decide +kernel))) rfl)) hce hcv hcl ?_
      refine lv_astore hx hb d_Lw_block_15 hl (by decide) rfl (fun ls hl => ?_)
      refine lv_iconst (v := 1) hx hb d_Lw_block_17 (by decide) ?_
      refine vx_ret ?_
      refine W.widen (k := 2) (n := 12) (Nat.le_of_ble_eq_true rfl) (Nat.le_of_ble_eq_true rfl) ?_
      exact W.iret (v := 1) hx hb hr (fun t ht hW => ⟨⟨1, (1, (0, (u9, f0))), rfl, ⟨rfl, Or.inr (Or.inr (Or.inl ⟨rfl, ⟨h1.1, h1.2.1⟩, h1.2.2⟩)), fun h9 => absurd h9 (show ¬ (1 : Nat) = 0 by decide), (show (1 : Nat) < 5 by decide)⟩, by rw [ht]; exact hP, va_K.moved hW.alike hK, hD⟩, hS.F ht⟩) hS.2.2 d_Lw_block_18
    · skip
      refine vx_catch (name := "java/lang/IndexOutOfBoundsException") hown [] ⟨0, 12, 15, 30⟩ [] htab (fun _ h9 => nomatch h9) (by decide) (by decide) (hts _ kw_513) (va_Nw.use rfl (hX0.2.2 _ (List.mem_append_right _ (List.mem_of_getElem? (i := 525) (by decide +kernel))) rfl)) hce hcv hcl ?_
      refine lv_astore hx hb d_Lw_block_15 hl (by decide) rfl (fun ls hl => ?_)
      refine lv_iconst (v := 1) hx hb d_Lw_block_17 (by decide) ?_
      refine vx_ret ?_
      refine W.widen (k := 2) (n := 12) (Nat.le_of_ble_eq_true rfl) (Nat.le_of_ble_eq_true rfl) ?_
      exact W.iret (v := 1) hx hb hr (fun t ht hW => ⟨⟨1, (1, (0, (u9, f0))), rfl, ⟨rfl, Or.inr (Or.inr (Or.inr ⟨rfl, ⟨h1.1, h1.2.1, h1.2.2.1⟩, h1.2.2.2⟩)), fun h9 => absurd h9 (show ¬ (1 : Nat) = 0 by decide), (show (1 : Nat) < 5 by decide)⟩, by rw [ht]; exact hP, va_K.moved hW.alike hK, hD⟩, hS.F ht⟩) hS.2.2 d_Lw_block_18
  obtain ⟨hP1, hK1, hD1⟩ := hB
  rw [hH9] at hP1
  obtain ⟨hP, hD⟩ := va_join (wr := [(oa, .inl (cJ, 1, .inr (.inl f0)))]) (w1 := (wUS cI o g g2 jh ja u9)) hP hD [0, 1, 2, 3, 4, 5, 6, 7, 8, 9, 10, 11, 12, 13, 14, 15, 16, 17, 18, 19, 20, 21, 22, 23, 24, 25, 26, 27, 28] [29] rfl rfl (by decide) (by decide) hk1 hFc hP1 hD1
  replace hP : va_P (dC, dI) classes (wLw cI cJ o g g2 jh ja u9 oa f0) H1 := hP.sub (ws' := (wLw cI cJ o g g2 jh ja u9 oa f0)) [1, 2, 3, 4, 5, 6, 7, 8, 9, 10, 11, 12, 13, 14, 15, 16, 17, 18, 19, 20, 21, 22, 23, 24, 25, 26, 27, 28, 29, 0] rfl
  replace hD : va_D A (wLw cI cJ o g g2 jh ja u9 oa f0) := hD.sub (ws' := (wLw cI cJ o g g2 jh ja u9 oa f0)) [1, 2, 3, 4, 5, 6, 7, 8, 9, 10, 11, 12, 13, 14, 15, 16, 17, 18, 19, 20, 21, 22, 23, 24, 25, 26, 27, 28, 29, 0] (by decide) rfl
  refine lv_i2l hx hb d_Lw_block_10 rfl ?_
  refine va_last (i := 0) (x := r9.toInt64) hx hb hK hP hD hS 29 1 rfl rfl (by unfold vp_in; decide) d_Lw_block_11 (fun H1 locs hP hD hS => ?_)
  replace hP : va_P (dC, dI) classes (wLw cI cJ o g g2 jh ja u9 oa (vp_updL f0 0 r9.toInt64)) H1 := hP
  replace hD : va_D A (wLw cI cJ o g g2 jh ja u9 oa (vp_updL f0 0 r9.toInt64)) := hD
  refine lv_goto hx hb d_Lw_block_12 rfl ?_
  refine lv_iconst (v := 0) hx hb d_Lw_block_19 (by decide) ?_
  refine vx_ret ?_
  refine W.widen (k := 2) (n := 12) (Nat.le_of_ble_eq_true rfl) (Nat.le_of_ble_eq_true rfl) ?_
  exact W.iret (v := 0) hx hb hr (fun t ht hW => ⟨⟨0, (0, (r9.toInt64, (u9, (vp_updL f0 0 r9.toInt64)))), rfl, ⟨rfl, Or.inl ⟨rfl, ⟨hp9.1, hp9.2.1, hp9.2.2.1⟩, congrArg Int32.toInt64 hp9.2.2.2.1, hp9.2.2.2.2⟩, fun _ => rfl, (show (0 : Nat) < 5 by decide)⟩, by rw [ht]; exact hP, va_K.moved hW.alike hK, hD⟩, hS.F ht⟩) hS.2.2 d_Lw_block_20
set_option maxHeartbeats 4000000 in
set_option maxRecDepth 100000 in
theorem c_Lw_used (l : Launch) (hlt : l.stackTraces = false) (dC : Nat → ClassId) (dI : Nat → Nat → Nat) (sz : Nat) (cI : ClassId) (o : Nat) (g : Nat → Nat) (S : LDS) (g2 : Nat → Nat) (S2 : LDS) (jh ja : Nat) (pt : Nat → Int32) (jn : Nat) (hS9 : LDok S) (hjn : jn ≤ 300) (cJ : ClassId) (oa : Nat) (f0 : Nat → Int64) (hL9 : LIV S.X) (x : Nat) (hx0 : x < 4294967296) : vx_Met l y_Lw_used (.codeWith y_Lw_used b_Lw_used 4 (some .int) [(0, 8, 11, 30)] :: wG) ({ frames := 8, cells := 1, slots := 6, locals := 123 }) (PcL (dC, dI) [(cI, .int), (cJ, .long)] (wLw cI cJ o g g2 jh ja (S, S2, pt, jn) oa f0) [.ref o, .int (nI x), .ref oa] sz) (QlI (dC, dI) cI cJ o g g2 jh ja oa (wLw cI cJ o g g2 jh ja (S, S2, pt, jn) oa f0) sz (wUsd S S2 pt jn x)) XCf 1 6 (va_A (wLw cI cJ o g g2 jh ja (S, S2, pt, jn) oa f0) sz) := by
  refine vx_ofWH (cc := b_Lw_used) (maxL := 4) (ret := (some .int)) (hh := [(0, 8, 11, 30)]) (by decide) rfl ?_
  intro pg eg s mg ag bg meth cg s₁ B hml hv
  obtain ⟨rfl, hsz, hP, hK, hD0, hN, hX0, hXN⟩ := hv
  have hx := B.exec
  have hb := B.bytes
  have hr := B.returns
  have hts : ∀ w9 ∈ wG, w9.before ([.ref o, .int (nI x), .ref oa] : List Value).toArray s = true := fun w9 h9 => atoms_spec (ws := (.codeWith y_Lw_used b_Lw_used 4 (some .int) [(0, 8, 11, 30)] :: wG)) B.pre w9 (List.mem_cons_of_mem _ h9)
  have htab : cg.exceptionTable.toList = tableOf [(0, 8, 11, 30)] := vx_table (x := y_Lw_used) B (atoms_spec (ws := (.codeWith y_Lw_used b_Lw_used 4 (some .int) [(0, 8, 11, 30)] :: wG)) B.pre _ List.mem_cons_self)
  have hown : s.vm.findClass "PrefixRegistryLaw" = some mg.cls := findClass_of_methodNamed B.named
  subst hsz
  have hD := hD0.self (sz := s.heap.size)
  unfold QlI
  generalize hAe : va_A (wLw cI cJ o g g2 jh ja (S, S2, pt, jn) oa f0) s.heap.size = A at hD hX0 ⊢
  have hA : ∀ q : Nat, s.heap.size ≤ q → A q := fun q h => by rw [← hAe]; exact Or.inr h
  have hS : va_S A s.heap s.heap [] := va_S.rf
  have hl := lv_entry ([.ref o, .int (nI x), .ref oa]) (n := 4) (Nat.le_of_ble_eq_true rfl)
  rw [lg_entry_eq]
  generalize (lg_sl ([.ref o, .int (nI x), .ref oa]) ++ List.replicate (4 - (lg_sl ([.ref o, .int (nI x), .ref oa])).length) Slot.unset).toArray = ls at hl ⊢
  replace hl : lv_has ls 4 [(0, .ref o), (1, .int (nI x)), (2, .ref oa)] := hl
  replace hP : va_P (dC, dI) classes (wLw cI cJ o g g2 jh ja (S, S2, pt, jn) oa f0) s.heap := hP
  replace hD : va_D A (wLw cI cJ o g g2 jh ja (S, S2, pt, jn) oa f0) := hD
  refine lv_aload_n hx hb d_Lw_used_0 rfl (lv_at hl 2 rfl) ?_
  refine lv_iconst (v := 0) hx hb d_Lw_used_1 (by decide) ?_
  refine lv_aload_n hx hb d_Lw_used_2 rfl (lv_at hl 0 rfl) ?_
  refine lv_iload_n hx hb d_Lw_used_3 rfl (lv_at hl 1 rfl) ?_
  have hPc := hP.sub (ws' := (wPR cI o g S g2 S2 jh ja pt jn)) [0, 1, 2, 3, 4, 5, 6, 7, 8, 9, 10, 11, 12, 13, 14, 15, 16, 17, 18, 19, 20, 21, 22, 23, 24, 25, 26, 27, 28] rfl
  refine vx_calll (vx_runV (b := o) (As := [.int (nI x)]) (rest := [.int 0, .ref oa]) ⟨hx, hb, hml, hown, hts⟩ (c_PR_used l hlt dC dI s.heap.size cI o g S g2 S2 jh ja pt jn hS9 hjn (cof S.X) (fun r hr => ⟨(hL9.ch hr).1, (hL9.ch hr).len hL9.ok.n⟩) x hx0) (cwV 1 hts (gV kw_652 kw_653 kw_654 kw_1 kw_655) rfl rfl rfl (by decide +kernel) ⟨Nat.le_of_ble_eq_true rfl, Nat.le_of_ble_eq_true rfl⟩) ⟨PcR.blind, va_recv (q0 := 0) (hK.sub (tys' := [(cI, .int)]) [0] rfl) hPc rfl rfl, PcR.use hPc (hK.sub (tys' := [(cI, .int)]) [0] rfl) hN hX0 hS hA⟩ rfl rfl hl.1 rfl (lv_room (Nat.le_of_ble_eq_true rfl)) d_Lw_used_4 ⟨Nat.le_of_ble_eq_true rfl, Nat.le_of_ble_eq_true rfl⟩) hS (fun q h1 h2 => absurd h2 (Nat.not_le.mpr h1)) (fun q h => hA q (Nat.le_trans hS.1 h)) (fun q h1 h2 => absurd h2 (Nat.not_le.mpr h1)) (fun E9 ce q9 u9 H9 H1 locs hH9 hv9 _ hB hz1 hk1 hS => ?_) (fun r9 u9 H9 H1 locs hH9 hv9 hp9 _ hz1 hk1 hS => ?_)
  · intro hce hcv hcl
    replace hP : va_P (dC, dI) classes (wLw cI cJ o g g2 jh ja (S, S2, pt, jn) oa f0) H1 := x_keep hP hk1
    rcases hB with ⟨rfl, h1⟩
    · skip
      refine vx_catch (name := "java/lang/IndexOutOfBoundsException") hown [] ⟨0, 8, 11, 30⟩ [] htab (fun _ h9 => nomatch h9) (by decide) (by decide) (hts _ kw_513) (va_Nw.use rfl (hX0.2.2 _ (List.mem_append_right _ (List.mem_of_getElem? (i := 525) (by decide +kernel))) rfl)) hce hcv hcl ?_
      refine lv_astore_n hx hb d_Lw_used_11 rfl hl (by decide) rfl (fun ls hl => ?_)
      refine lv_iconst (v := 1) hx hb d_Lw_used_12 (by decide) ?_
      refine vx_ret ?_
      refine W.widen (k := 1) (n := 6) (Nat.le_of_ble_eq_true rfl) (Nat.le_of_ble_eq_true rfl) ?_
      exact W.iret (v := 1) hx hb hr (fun t ht hW => ⟨⟨1, (1, (0, ((S, S2, pt, jn), f0))), rfl, ⟨rfl, ⟨Or.inr ⟨rfl, h1⟩, rfl⟩, fun h9 => absurd h9 (show ¬ (1 : Nat) = 0 by decide), (show (1 : Nat) < 5 by decide)⟩, by rw [ht]; exact hP, va_K.moved hW.alike hK, hD⟩, hS.F ht⟩) hS.2.2 d_Lw_used_13
  replace hP : va_P (dC, dI) classes (wLw cI cJ o g g2 jh ja (S, S2, pt, jn) oa f0) H1 := x_keep hP hk1
  refine va_last (i := 0) (x := r9) hx hb hK hP hD hS 29 1 rfl rfl (by unfold vp_in; decide) d_Lw_used_7 (fun H1 locs hP hD hS => ?_)
  replace hP : va_P (dC, dI) classes (wLw cI cJ o g g2 jh ja (S, S2, pt, jn) oa (vp_updL f0 0 r9)) H1 := hP
  replace hD : va_D A (wLw cI cJ o g g2 jh ja (S, S2, pt, jn) oa (vp_updL f0 0 r9)) := hD
  refine lv_goto hx hb d_Lw_used_8 rfl ?_
  refine lv_iconst (v := 0) hx hb d_Lw_used_14 (by decide) ?_
  refine vx_ret ?_
  refine W.widen (k := 1) (n := 6) (Nat.le_of_ble_eq_true rfl) (Nat.le_of_ble_eq_true rfl) ?_
  exact W.iret (v := 0) hx hb hr (fun t ht hW => ⟨⟨0, (0, (r9, ((S, S2, pt, jn), (vp_updL f0 0 r9)))), rfl, ⟨rfl, ⟨Or.inl ⟨rfl, hp9.1, hp9.2⟩, rfl⟩, fun _ => rfl, (show (0 : Nat) < 5 by decide)⟩, by rw [ht]; exact hP, va_K.moved hW.alike hK, hD⟩, hS.F ht⟩) hS.2.2 d_Lw_used_15
set_option maxHeartbeats 4000000 in
set_option maxRecDepth 100000 in
theorem c_Lw_cuts (l : Launch) (hlt : l.stackTraces = false) (dC : Nat → ClassId) (dI : Nat → Nat → Nat) (sz : Nat) (cI : ClassId) (o : Nat) (g : Nat → Nat) (S : LDS) (g2 : Nat → Nat) (S2 : LDS) (jh ja : Nat) (pt : Nat → Int32) (jn : Nat) (hS9 : LDok S) (hjn : jn ≤ 300) (cJ : ClassId) (oa : Nat) (f0 : Nat → Int64) (hL9 : LIV S.X) (x : Nat) (hx0 : x < 4294967296) : vx_Met l y_Lw_cuts (.codeWith y_Lw_cuts b_Lw_cuts 4 (some .int) [(0, 9, 12, 30)] :: wG) ({ frames := 8, cells := 1, slots := 6, locals := 123 }) (PcL (dC, dI) [(cI, .int), (cJ, .long)] (wLw cI cJ o g g2 jh ja (S, S2, pt, jn) oa f0) [.ref o, .int (nI x), .ref oa] sz) (QlI (dC, dI) cI cJ o g g2 jh ja oa (wLw cI cJ o g g2 jh ja (S, S2, pt, jn) oa f0) sz (wCts S S2 pt jn x)) XCf 1 6 (va_A (wLw cI cJ o g g2 jh ja (S, S2, pt, jn) oa f0) sz) := by
  refine vx_ofWH (cc := b_Lw_cuts) (maxL := 4) (ret := (some .int)) (hh := [(0, 9, 12, 30)]) (by decide) rfl ?_
  intro pg eg s mg ag bg meth cg s₁ B hml hv
  obtain ⟨rfl, hsz, hP, hK, hD0, hN, hX0, hXN⟩ := hv
  have hx := B.exec
  have hb := B.bytes
  have hr := B.returns
  have hts : ∀ w9 ∈ wG, w9.before ([.ref o, .int (nI x), .ref oa] : List Value).toArray s = true := fun w9 h9 => atoms_spec (ws := (.codeWith y_Lw_cuts b_Lw_cuts 4 (some .int) [(0, 9, 12, 30)] :: wG)) B.pre w9 (List.mem_cons_of_mem _ h9)
  have htab : cg.exceptionTable.toList = tableOf [(0, 9, 12, 30)] := vx_table (x := y_Lw_cuts) B (atoms_spec (ws := (.codeWith y_Lw_cuts b_Lw_cuts 4 (some .int) [(0, 9, 12, 30)] :: wG)) B.pre _ List.mem_cons_self)
  have hown : s.vm.findClass "PrefixRegistryLaw" = some mg.cls := findClass_of_methodNamed B.named
  subst hsz
  have hD := hD0.self (sz := s.heap.size)
  unfold QlI
  generalize hAe : va_A (wLw cI cJ o g g2 jh ja (S, S2, pt, jn) oa f0) s.heap.size = A at hD hX0 ⊢
  have hA : ∀ q : Nat, s.heap.size ≤ q → A q := fun q h => by rw [← hAe]; exact Or.inr h
  have hS : va_S A s.heap s.heap [] := va_S.rf
  have hl := lv_entry ([.ref o, .int (nI x), .ref oa]) (n := 4) (Nat.le_of_ble_eq_true rfl)
  rw [lg_entry_eq]
  generalize (lg_sl ([.ref o, .int (nI x), .ref oa]) ++ List.replicate (4 - (lg_sl ([.ref o, .int (nI x), .ref oa])).length) Slot.unset).toArray = ls at hl ⊢
  replace hl : lv_has ls 4 [(0, .ref o), (1, .int (nI x)), (2, .ref oa)] := hl
  replace hP : va_P (dC, dI) classes (wLw cI cJ o g g2 jh ja (S, S2, pt, jn) oa f0) s.heap := hP
  replace hD : va_D A (wLw cI cJ o g g2 jh ja (S, S2, pt, jn) oa f0) := hD
  refine lv_aload_n hx hb d_Lw_cuts_0 rfl (lv_at hl 2 rfl) ?_
  refine lv_iconst (v := 0) hx hb d_Lw_cuts_1 (by decide) ?_
  refine lv_aload_n hx hb d_Lw_cuts_2 rfl (lv_at hl 0 rfl) ?_
  refine lv_iload_n hx hb d_Lw_cuts_3 rfl (lv_at hl 1 rfl) ?_
  have hPc := hP.sub (ws' := (wPR cI o g S g2 S2 jh ja pt jn)) [0, 1, 2, 3, 4, 5, 6, 7, 8, 9, 10, 11, 12, 13, 14, 15, 16, 17, 18, 19, 20, 21, 22, 23, 24, 25, 26, 27, 28] rfl
  refine vx_calli (vx_runV (b := o) (As := [.int (nI x)]) (rest := [.int 0, .ref oa]) ⟨hx, hb, hml, hown, hts⟩ (c_PR_cuts l hlt dC dI s.heap.size cI o g S g2 S2 jh ja pt jn hS9 hjn (cof S.X) (fun r hr => ⟨(hL9.ch hr).1, (hL9.ch hr).len hL9.ok.n⟩) x hx0) (cwV 1 hts (gV kw_660 kw_661 kw_662 kw_1 kw_663) rfl rfl rfl (by decide +kernel) ⟨Nat.le_of_ble_eq_true rfl, Nat.le_of_ble_eq_true rfl⟩) ⟨PcR.blind, va_recv (q0 := 0) (hK.sub (tys' := [(cI, .int)]) [0] rfl) hPc rfl rfl, PcR.use hPc (hK.sub (tys' := [(cI, .int)]) [0] rfl) hN hX0 hS hA⟩ rfl rfl hl.1 rfl (lv_room (Nat.le_of_ble_eq_true rfl)) d_Lw_cuts_4 ⟨Nat.le_of_ble_eq_true rfl, Nat.le_of_ble_eq_true rfl⟩) hS (fun q h1 h2 => absurd h2 (Nat.not_le.mpr h1)) (fun q h => hA q (Nat.le_trans hS.1 h)) (fun q h1 h2 => absurd h2 (Nat.not_le.mpr h1)) (fun E9 ce q9 u9 H9 H1 locs hH9 hv9 _ hB hz1 hk1 hS => ?_) (fun r9 u9 H9 H1 locs hH9 hv9 hp9 _ hz1 hk1 hS => ?_)
  · intro hce hcv hcl
    replace hP : va_P (dC, dI) classes (wLw cI cJ o g g2 jh ja (S, S2, pt, jn) oa f0) H1 := x_keep hP hk1
    rcases hB with ⟨rfl, h1⟩
    · skip
      refine vx_catch (name := "java/lang/IndexOutOfBoundsException") hown [] ⟨0, 9, 12, 30⟩ [] htab (fun _ h9 => nomatch h9) (by decide) (by decide) (hts _ kw_513) (va_Nw.use rfl (hX0.2.2 _ (List.mem_append_right _ (List.mem_of_getElem? (i := 525) (by decide +kernel))) rfl)) hce hcv hcl ?_
      refine lv_astore_n hx hb d_Lw_cuts_12 rfl hl (by decide) rfl (fun ls hl => ?_)
      refine lv_iconst (v := 1) hx hb d_Lw_cuts_13 (by decide) ?_
      refine vx_ret ?_
      refine W.widen (k := 1) (n := 6) (Nat.le_of_ble_eq_true rfl) (Nat.le_of_ble_eq_true rfl) ?_
      exact W.iret (v := 1) hx hb hr (fun t ht hW => ⟨⟨1, (1, (0, ((S, S2, pt, jn), f0))), rfl, ⟨rfl, ⟨Or.inr ⟨rfl, h1⟩, rfl⟩, fun h9 => absurd h9 (show ¬ (1 : Nat) = 0 by decide), (show (1 : Nat) < 5 by decide)⟩, by rw [ht]; exact hP, va_K.moved hW.alike hK, hD⟩, hS.F ht⟩) hS.2.2 d_Lw_cuts_14
  replace hP : va_P (dC, dI) classes (wLw cI cJ o g g2 jh ja (S, S2, pt, jn) oa f0) H1 := x_keep hP hk1
  refine lv_i2l hx hb d_Lw_cuts_7 rfl ?_
  refine va_last (i := 0) (x := r9.toInt64) hx hb hK hP hD hS 29 1 rfl rfl (by unfold vp_in; decide) d_Lw_cuts_8 (fun H1 locs hP hD hS => ?_)
  replace hP : va_P (dC, dI) classes (wLw cI cJ o g g2 jh ja (S, S2, pt, jn) oa (vp_updL f0 0 r9.toInt64)) H1 := hP
  replace hD : va_D A (wLw cI cJ o g g2 jh ja (S, S2, pt, jn) oa (vp_updL f0 0 r9.toInt64)) := hD
  refine lv_goto hx hb d_Lw_cuts_9 rfl ?_
  refine lv_iconst (v := 0) hx hb d_Lw_cuts_15 (by decide) ?_
  refine vx_ret ?_
  refine W.widen (k := 1) (n := 6) (Nat.le_of_ble_eq_true rfl) (Nat.le_of_ble_eq_true rfl) ?_
  exact W.iret (v := 0) hx hb hr (fun t ht hW => ⟨⟨0, (0, (r9.toInt64, ((S, S2, pt, jn), (vp_updL f0 0 r9.toInt64)))), rfl, ⟨rfl, ⟨Or.inl ⟨rfl, hp9.1, congrArg Int32.toInt64 hp9.2⟩, rfl⟩, fun _ => rfl, (show (0 : Nat) < 5 by decide)⟩, by rw [ht]; exact hP, va_K.moved hW.alike hK, hD⟩, hS.F ht⟩) hS.2.2 d_Lw_cuts_16
set_option maxHeartbeats 4000000 in
set_option maxRecDepth 100000 in
theorem c_Lw_cut (l : Launch) (hlt : l.stackTraces = false) (dC : Nat → ClassId) (dI : Nat → Nat → Nat) (sz : Nat) (cI : ClassId) (o : Nat) (g : Nat → Nat) (S : LDS) (g2 : Nat → Nat) (S2 : LDS) (jh ja : Nat) (pt : Nat → Int32) (jn : Nat) (hS9 : LDok S) (hjn : jn ≤ 300) (cJ : ClassId) (oa : Nat) (f0 : Nat → Int64) (hL9 : LIV S.X) (x k : Nat) (hx0 : x < 4294967296) (hk0 : k < 4294967296) (f : Bool) : vx_Met l y_Lw_cut (.codeWith y_Lw_cut b_Lw_cut 6 (some .int) [(0, 12, 15, 30)] :: wG) ({ frames := 8, cells := 2, slots := 12, locals := 125 }) (PcL (dC, dI) [(cI, .int), (cJ, .long)] (wLw cI cJ o g g2 jh ja (S, S2, pt, jn) oa f0) [.ref o, .int (nI x), .int (nI k), .int (bi f), .ref oa] sz) (QlI (dC, dI) cI cJ o g g2 jh ja oa (wLw cI cJ o g g2 jh ja (S, S2, pt, jn) oa f0) sz (wCut S S2 pt jn x k f)) XCf 2 12 (va_A (wLw cI cJ o g g2 jh ja (S, S2, pt, jn) oa f0) sz) := by
  refine vx_ofWH (cc := b_Lw_cut) (maxL := 6) (ret := (some .int)) (hh := [(0, 12, 15, 30)]) (by decide) rfl ?_
  intro pg eg s mg ag bg meth cg s₁ B hml hv
  obtain ⟨rfl, hsz, hP, hK, hD0, hN, hX0, hXN⟩ := hv
  have hx := B.exec
  have hb := B.bytes
  have hr := B.returns
  have hts : ∀ w9 ∈ wG, w9.before ([.ref o, .int (nI x), .int (nI k), .int (bi f), .ref oa] : List Value).toArray s = true := fun w9 h9 => atoms_spec (ws := (.codeWith y_Lw_cut b_Lw_cut 6 (some .int) [(0, 12, 15, 30)] :: wG)) B.pre w9 (List.mem_cons_of_mem _ h9)
  have htab : cg.exceptionTable.toList = tableOf [(0, 12, 15, 30)] := vx_table (x := y_Lw_cut) B (atoms_spec (ws := (.codeWith y_Lw_cut b_Lw_cut 6 (some .int) [(0, 12, 15, 30)] :: wG)) B.pre _ List.mem_cons_self)
  have hown : s.vm.findClass "PrefixRegistryLaw" = some mg.cls := findClass_of_methodNamed B.named
  subst hsz
  have hD := hD0.self (sz := s.heap.size)
  unfold QlI
  generalize hAe : va_A (wLw cI cJ o g g2 jh ja (S, S2, pt, jn) oa f0) s.heap.size = A at hD hX0 ⊢
  have hA : ∀ q : Nat, s.heap.size ≤ q → A q := fun q h => by rw [← hAe]; exact Or.inr h
  have hS : va_S A s.heap s.heap [] := va_S.rf
  have hl := lv_entry ([.ref o, .int (nI x), .int (nI k), .int (bi f), .ref oa]) (n := 6) (Nat.le_of_ble_eq_true rfl)
  rw [lg_entry_eq]
  generalize (lg_sl ([.ref o, .int (nI x), .int (nI k), .int (bi f), .ref oa]) ++ List.replicate (6 - (lg_sl ([.ref o, .int (nI x), .int (nI k), .int (bi f), .ref oa])).length) Slot.unset).toArray = ls at hl ⊢
  replace hl : lv_has ls 6 [(0, .ref o), (1, .int (nI x)), (2, .int (nI k)), (3, .int (bi f)), (4, .ref oa)] := hl
  replace hP : va_P (dC, dI) classes (wLw cI cJ o g g2 jh ja (S, S2, pt, jn) oa f0) s.heap := hP
  replace hD : va_D A (wLw cI cJ o g g2 jh ja (S, S2, pt, jn) oa f0) := hD
  refine lv_aload hx hb d_Lw_cut_0 (lv_at hl 4 rfl) ?_
  refine lv_iconst (v := 0) hx hb d_Lw_cut_2 (by decide) ?_
  refine lv_aload_n hx hb d_Lw_cut_3 rfl (lv_at hl 0 rfl) ?_
  refine lv_iload_n hx hb d_Lw_cut_4 rfl (lv_at hl 1 rfl) ?_
  refine lv_iload_n hx hb d_Lw_cut_5 rfl (lv_at hl 2 rfl) ?_
  refine lv_iload_n hx hb d_Lw_cut_6 rfl (lv_at hl 3 rfl) ?_
  have hPc := hP.sub (ws' := (wPR cI o g S g2 S2 jh ja pt jn)) [0, 1, 2, 3, 4, 5, 6, 7, 8, 9, 10, 11, 12, 13, 14, 15, 16, 17, 18, 19, 20, 21, 22, 23, 24, 25, 26, 27, 28] rfl
  refine vx_calli (vx_runV (b := o) (As := [.int (nI x), .int (nI k), .int (bi f)]) (rest := [.int 0, .ref oa]) ⟨hx, hb, hml, hown, hts⟩ (c_PR_cut l hlt dC dI s.heap.size cI o g S g2 S2 jh ja pt jn hS9 hjn (cof S.X) (fun r hr => ⟨(hL9.ch hr).1, (hL9.ch hr).len hL9.ok.n⟩) x k hx0 hk0 f) (cwV 3 hts (gV kw_678 kw_679 kw_680 kw_1 kw_681) rfl rfl rfl (by decide +kernel) ⟨Nat.le_of_ble_eq_true rfl, Nat.le_of_ble_eq_true rfl⟩) ⟨PcR.blind, va_recv (q0 := 0) (hK.sub (tys' := [(cI, .int)]) [0] rfl) hPc rfl rfl, PcR.use hPc (hK.sub (tys' := [(cI, .int)]) [0] rfl) hN hX0 hS hA⟩ rfl rfl hl.1 rfl (lv_room (Nat.le_of_ble_eq_true rfl)) d_Lw_cut_7 ⟨Nat.le_of_ble_eq_true rfl, Nat.le_of_ble_eq_true rfl⟩) hS (fun q h1 h2 => absurd h2 (Nat.not_le.mpr h1)) (fun q h => hA q (Nat.le_trans hS.1 h)) (fun q h1 h2 => absurd h2 (Nat.not_le.mpr h1)) (fun E9 ce q9 u9 H9 H1 locs hH9 hv9 _ hB hz1 hk1 hS => ?_) (fun r9 u9 H9 H1 locs hH9 hv9 hp9 _ hz1 hk1 hS => ?_)
  · intro hce hcv hcl
    replace hP : va_P (dC, dI) classes (wLw cI cJ o g g2 jh ja (S, S2, pt, jn) oa f0) H1 := x_keep hP hk1
    rcases hB with ⟨rfl, h1⟩
    · skip
      refine vx_catch (name := "java/lang/IndexOutOfBoundsException") hown [] ⟨0, 12, 15, 30⟩ [] htab (fun _ h9 => nomatch h9) (by decide) (by decide) (hts _ kw_513) (va_Nw.use rfl (hX0.2.2 _ (List.mem_append_right _ (List.mem_of_getElem? (i := 525) (by decide +kernel))) rfl)) hce hcv hcl ?_
      refine lv_astore hx hb d_Lw_cut_15 hl (by decide) rfl (fun ls hl => ?_)
      refine lv_iconst (v := 1) hx hb d_Lw_cut_17 (by decide) ?_
      refine vx_ret ?_
      refine W.widen (k := 2) (n := 12) (Nat.le_of_ble_eq_true rfl) (Nat.le_of_ble_eq_true rfl) ?_
      exact W.iret (v := 1) hx hb hr (fun t ht hW => ⟨⟨1, (1, (0, ((S, S2, pt, jn), f0))), rfl, ⟨rfl, ⟨Or.inr ⟨rfl, h1⟩, rfl⟩, fun h9 => absurd h9 (show ¬ (1 : Nat) = 0 by decide), (show (1 : Nat) < 5 by decide)⟩, by rw [ht]; exact hP, va_K.moved hW.alike hK, hD⟩, hS.F ht⟩) hS.2.2 d_Lw_cut_18
  replace hP : va_P (dC, dI) classes (wLw cI cJ o g g2 jh ja (S, S2, pt, jn) oa f0) H1 := x_keep hP hk1
  refine lv_i2l hx hb d_Lw_cut_10 rfl ?_
  refine va_last (i := 0) (x := r9.toInt64) hx hb hK hP hD hS 29 1 rfl rfl (by unfold vp_in; decide) d_Lw_cut_11 (fun H1 locs hP hD hS => ?_)
  replace hP : va_P (dC, dI) classes (wLw cI cJ o g g2 jh ja (S, S2, pt, jn) oa (vp_updL f0 0 r9.toInt64)) H1 := hP
  replace hD : va_D A (wLw cI cJ o g g2 jh ja (S, S2, pt, jn) oa (vp_updL f0 0 r9.toInt64)) := hD
  refine lv_goto hx hb d_Lw_cut_12 rfl ?_
  refine lv_iconst (v := 0) hx hb d_Lw_cut_19 (by decide) ?_
  refine vx_ret ?_
  refine W.widen (k := 2) (n := 12) (Nat.le_of_ble_eq_true rfl) (Nat.le_of_ble_eq_true rfl) ?_
  exact W.iret (v := 0) hx hb hr (fun t ht hW => ⟨⟨0, (0, (r9.toInt64, ((S, S2, pt, jn), (vp_updL f0 0 r9.toInt64)))), rfl, ⟨rfl, ⟨Or.inl ⟨rfl, ⟨hp9.1, hp9.2.1⟩, congrArg Int32.toInt64 hp9.2.2⟩, rfl⟩, fun _ => rfl, (show (0 : Nat) < 5 by decide)⟩, by rw [ht]; exact hP, va_K.moved hW.alike hK, hD⟩, hS.F ht⟩) hS.2.2 d_Lw_cut_20
set_option maxHeartbeats 4000000 in
set_option maxRecDepth 100000 in
theorem c_Lw_log (l : Launch) (hlt : l.stackTraces = false) (dC : Nat → ClassId) (dI : Nat → Nat → Nat) (sz : Nat) (cI : ClassId) (o : Nat) (g : Nat → Nat) (S : LDS) (g2 : Nat → Nat) (S2 : LDS) (jh ja : Nat) (pt : Nat → Int32) (jn : Nat) (hS9 : LDok S) (hjn : jn ≤ 300) (cJ : ClassId) (oa : Nat) (f0 : Nat → Int64) (hL9 : LIV S.X) (k w : Nat) (hk0 : k < 4294967296) (hw0 : w < 4294967296) : vx_Met l y_Lw_log (.codeWith y_Lw_log b_Lw_log 5 (some .int) [(0, 10, 13, 30), (0, 10, 17, 13)] :: wG) ({ frames := 7, cells := 1, slots := 6, locals := 103 }) (PcL (dC, dI) [(cI, .int), (cJ, .long)] (wLw cI cJ o g g2 jh ja (S, S2, pt, jn) oa f0) [.ref o, .int (nI k), .int (nI w), .ref oa] sz) (QlI (dC, dI) cI cJ o g g2 jh ja oa (wLw cI cJ o g g2 jh ja (S, S2, pt, jn) oa f0) sz (wLog S S2 pt jn k w)) XCf 1 6 (va_A (wLw cI cJ o g g2 jh ja (S, S2, pt, jn) oa f0) sz) := by
  refine vx_ofWH (cc := b_Lw_log) (maxL := 5) (ret := (some .int)) (hh := [(0, 10, 13, 30), (0, 10, 17, 13)]) (by decide) rfl ?_
  intro pg eg s mg ag bg meth cg s₁ B hml hv
  obtain ⟨rfl, hsz, hP, hK, hD0, hN, hX0, hXN⟩ := hv
  have hx := B.exec
  have hb := B.bytes
  have hr := B.returns
  have hts : ∀ w9 ∈ wG, w9.before ([.ref o, .int (nI k), .int (nI w), .ref oa] : List Value).toArray s = true := fun w9 h9 => atoms_spec (ws := (.codeWith y_Lw_log b_Lw_log 5 (some .int) [(0, 10, 13, 30), (0, 10, 17, 13)] :: wG)) B.pre w9 (List.mem_cons_of_mem _ h9)
  have htab : cg.exceptionTable.toList = tableOf [(0, 10, 13, 30), (0, 10, 17, 13)] := vx_table (x := y_Lw_log) B (atoms_spec (ws := (.codeWith y_Lw_log b_Lw_log 5 (some .int) [(0, 10, 13, 30), (0, 10, 17, 13)] :: wG)) B.pre _ List.mem_cons_self)
  have hown : s.vm.findClass "PrefixRegistryLaw" = some mg.cls := findClass_of_methodNamed B.named
  subst hsz
  have hD := hD0.self (sz := s.heap.size)
  unfold QlI
  generalize hAe : va_A (wLw cI cJ o g g2 jh ja (S, S2, pt, jn) oa f0) s.heap.size = A at hD hX0 ⊢
  have hA : ∀ q : Nat, s.heap.size ≤ q → A q := fun q h => by rw [← hAe]; exact Or.inr h
  have hS : va_S A s.heap s.heap [] := va_S.rf
  have hl := lv_entry ([.ref o, .int (nI k), .int (nI w), .ref oa]) (n := 5) (Nat.le_of_ble_eq_true rfl)
  rw [lg_entry_eq]
  generalize (lg_sl ([.ref o, .int (nI k), .int (nI w), .ref oa]) ++ List.replicate (5 - (lg_sl ([.ref o, .int (nI k), .int (nI w), .ref oa])).length) Slot.unset).toArray = ls at hl ⊢
  replace hl : lv_has ls 5 [(0, .ref o), (1, .int (nI k)), (2, .int (nI w)), (3, .ref oa)] := hl
  replace hP : va_P (dC, dI) classes (wLw cI cJ o g g2 jh ja (S, S2, pt, jn) oa f0) s.heap := hP
  replace hD : va_D A (wLw cI cJ o g g2 jh ja (S, S2, pt, jn) oa f0) := hD
  refine lv_aload_n hx hb d_Lw_log_0 rfl (lv_at hl 3 rfl) ?_
  refine lv_iconst (v := 0) hx hb d_Lw_log_1 (by decide) ?_
  refine lv_aload_n hx hb d_Lw_log_2 rfl (lv_at hl 0 rfl) ?_
  refine lv_iload_n hx hb d_Lw_log_3 rfl (lv_at hl 1 rfl) ?_
  refine lv_iload_n hx hb d_Lw_log_4 rfl (lv_at hl 2 rfl) ?_
  have hPc := hP.sub (ws' := (wPR cI o g S g2 S2 jh ja pt jn)) [0, 1, 2, 3, 4, 5, 6, 7, 8, 9, 10, 11, 12, 13, 14, 15, 16, 17, 18, 19, 20, 21, 22, 23, 24, 25, 26, 27, 28] rfl
  refine vx_calli (vx_runV (b := o) (As := [.int (nI k), .int (nI w)]) (rest := [.int 0, .ref oa]) ⟨hx, hb, hml, hown, hts⟩ (c_PR_log l hlt dC dI s.heap.size cI o g S g2 S2 jh ja pt jn hS9 hjn k w hk0 hw0) (cwV 2 hts (gV kw_689 kw_690 kw_691 kw_1 kw_692) rfl rfl rfl (by decide +kernel) ⟨Nat.le_of_ble_eq_true rfl, Nat.le_of_ble_eq_true rfl⟩) ⟨PcR.blind, va_recv (q0 := 0) (hK.sub (tys' := [(cI, .int)]) [0] rfl) hPc rfl rfl, PcR.use hPc (hK.sub (tys' := [(cI, .int)]) [0] rfl) hN hX0 hS hA⟩ rfl rfl hl.1 rfl (lv_room (Nat.le_of_ble_eq_true rfl)) d_Lw_log_5 ⟨Nat.le_of_ble_eq_true rfl, Nat.le_of_ble_eq_true rfl⟩) hS (fun q h1 h2 => absurd h2 (Nat.not_le.mpr h1)) (fun q h => hA q (Nat.le_trans hS.1 h)) (fun q h1 h2 => absurd h2 (Nat.not_le.mpr h1)) (fun E9 ce q9 u9 H9 H1 locs hH9 hv9 _ hB hz1 hk1 hS => ?_) (fun r9 u9 H9 H1 locs hH9 hv9 hp9 _ hz1 hk1 hS => ?_)
  · intro hce hcv hcl
    replace hP : va_P (dC, dI) classes (wLw cI cJ o g g2 jh ja (S, S2, pt, jn) oa f0) H1 := x_keep hP hk1
    rcases hB with ⟨rfl, h1⟩ | ⟨rfl, h1⟩
    · skip
      refine vx_catch (name := "java/lang/IndexOutOfBoundsException") hown [] ⟨0, 10, 13, 30⟩ [⟨0, 10, 17, 13⟩] htab (fun _ h9 => nomatch h9) (by decide) (by decide) (hts _ kw_513) (va_Nw.use rfl (hX0.2.2 _ (List.mem_append_right _ (List.mem_of_getElem? (i := 525) (by decide +kernel))) rfl)) hce hcv hcl ?_
      refine lv_astore hx hb d_Lw_log_13 hl (by decide) rfl (fun ls hl => ?_)
      refine lv_iconst (v := 1) hx hb d_Lw_log_15 (by decide) ?_
      refine vx_ret ?_
      refine W.widen (k := 1) (n := 6) (Nat.le_of_ble_eq_true rfl) (Nat.le_of_ble_eq_true rfl) ?_
      exact W.iret (v := 1) hx hb hr (fun t ht hW => ⟨⟨1, (1, (0, ((S, S2, pt, jn), f0))), rfl, ⟨rfl, ⟨Or.inr (Or.inl ⟨rfl, h1⟩), rfl⟩, fun h9 => absurd h9 (show ¬ (1 : Nat) = 0 by decide), (show (1 : Nat) < 5 by decide)⟩, by rw [ht]; exact hP, va_K.moved hW.alike hK, hD⟩, hS.F ht⟩) hS.2.2 d_Lw_log_16
    · skip
      refine vx_catch (name := "java/lang/IllegalArgumentException") hown [⟨0, 10, 13, 30⟩] ⟨0, 10, 17, 13⟩ [] htab (List.forall_mem_cons.mpr ⟨Or.inr ⟨by decide, "java/lang/IndexOutOfBoundsException", hts _ kw_513, hXN ("java/lang/IllegalArgumentException", "java/lang/IndexOutOfBoundsException") (by decide)⟩, (fun _ h9 => nomatch h9)⟩) (by decide) (by decide) (hts _ kw_206) (va_Nw.use rfl (hX0.2.2 _ (List.mem_append_right _ (List.mem_of_getElem? (i := 223) (by decide +kernel))) rfl)) hce hcv hcl ?_
      refine lv_astore hx hb d_Lw_log_17 hl (by decide) rfl (fun ls hl => ?_)
      refine lv_iconst (v := 2) hx hb d_Lw_log_19 (by decide) ?_
      refine vx_ret ?_
      refine W.widen (k := 1) (n := 6) (Nat.le_of_ble_eq_true rfl) (Nat.le_of_ble_eq_true rfl) ?_
      exact W.iret (v := 2) hx hb hr (fun t ht hW => ⟨⟨2, (2, (0, ((S, S2, pt, jn), f0))), rfl, ⟨rfl, ⟨Or.inr (Or.inr ⟨rfl, h1⟩), rfl⟩, fun h9 => absurd h9 (show ¬ (2 : Nat) = 0 by decide), (show (2 : Nat) < 5 by decide)⟩, by rw [ht]; exact hP, va_K.moved hW.alike hK, hD⟩, hS.F ht⟩) hS.2.2 d_Lw_log_20
  replace hP : va_P (dC, dI) classes (wLw cI cJ o g g2 jh ja (S, S2, pt, jn) oa f0) H1 := x_keep hP hk1
  refine lv_i2l hx hb d_Lw_log_8 rfl ?_
  refine va_last (i := 0) (x := r9.toInt64) hx hb hK hP hD hS 29 1 rfl rfl (by unfold vp_in; decide) d_Lw_log_9 (fun H1 locs hP hD hS => ?_)
  replace hP : va_P (dC, dI) classes (wLw cI cJ o g g2 jh ja (S, S2, pt, jn) oa (vp_updL f0 0 r9.toInt64)) H1 := hP
  replace hD : va_D A (wLw cI cJ o g g2 jh ja (S, S2, pt, jn) oa (vp_updL f0 0 r9.toInt64)) := hD
  refine lv_goto hx hb d_Lw_log_10 rfl ?_
  refine lv_iconst (v := 0) hx hb d_Lw_log_21 (by decide) ?_
  refine vx_ret ?_
  refine W.widen (k := 1) (n := 6) (Nat.le_of_ble_eq_true rfl) (Nat.le_of_ble_eq_true rfl) ?_
  exact W.iret (v := 0) hx hb hr (fun t ht hW => ⟨⟨0, (0, (r9.toInt64, ((S, S2, pt, jn), (vp_updL f0 0 r9.toInt64)))), rfl, ⟨rfl, ⟨Or.inl ⟨rfl, ⟨hp9.1, hp9.2.1⟩, congrArg Int32.toInt64 hp9.2.2⟩, rfl⟩, fun _ => rfl, (show (0 : Nat) < 5 by decide)⟩, by rw [ht]; exact hP, va_K.moved hW.alike hK, hD⟩, hS.F ht⟩) hS.2.2 d_Lw_log_22
set_option maxHeartbeats 4000000 in
set_option maxRecDepth 100000 in
theorem c_Lw_replay (l : Launch) (hlt : l.stackTraces = false) (dC : Nat → ClassId) (dI : Nat → Nat → Nat) (sz : Nat) (cI : ClassId) (o : Nat) (g : Nat → Nat) (S : LDS) (g2 : Nat → Nat) (S2 : LDS) (jh ja : Nat) (pt : Nat → Int32) (jn : Nat) (hS9 : LDok S) (hjn : jn ≤ 300) (cJ : ClassId) (oa : Nat) (f0 : Nat → Int64) (hL9 : LIV S.X) (hO2 : LOK S2) (k : Nat) (hk0 : k < 4294967296) (es : List (Nat × Nat × Nat × Nat)) (hes : k ≤ jn → es.length = k ∧ acAll (lClr S2) es ∧ ∀ j x, es[j]? = some x → ptOK pt j x) : vx_Met l y_Lw_replay (.codeWith y_Lw_replay b_Lw_replay 4 (some .int) [(0, 9, 12, 13)] :: wG) ({ frames := 9, cells := 1, slots := 6, locals := 222 }) (PcL (dC, dI) [(cI, .int), (cJ, .long)] (wLw cI cJ o g g2 jh ja (S, S2, pt, jn) oa f0) [.ref o, .int (nI k), .ref oa] sz) (QlI (dC, dI) cI cJ o g g2 jh ja oa (wLw cI cJ o g g2 jh ja (S, S2, pt, jn) oa f0) sz (wRep S S2 pt jn k es)) XCf 1 6 (va_A (wLw cI cJ o g g2 jh ja (S, S2, pt, jn) oa f0) sz) := by
  refine vx_ofWH (cc := b_Lw_replay) (maxL := 4) (ret := (some .int)) (hh := [(0, 9, 12, 13)]) (by decide) rfl ?_
  intro pg eg s mg ag bg meth cg s₁ B hml hv
  obtain ⟨rfl, hsz, hP, hK, hD0, hN, hX0, hXN⟩ := hv
  have hx := B.exec
  have hb := B.bytes
  have hr := B.returns
  have hts : ∀ w9 ∈ wG, w9.before ([.ref o, .int (nI k), .ref oa] : List Value).toArray s = true := fun w9 h9 => atoms_spec (ws := (.codeWith y_Lw_replay b_Lw_replay 4 (some .int) [(0, 9, 12, 13)] :: wG)) B.pre w9 (List.mem_cons_of_mem _ h9)
  have htab : cg.exceptionTable.toList = tableOf [(0, 9, 12, 13)] := vx_table (x := y_Lw_replay) B (atoms_spec (ws := (.codeWith y_Lw_replay b_Lw_replay 4 (some .int) [(0, 9, 12, 13)] :: wG)) B.pre _ List.mem_cons_self)
  have hown : s.vm.findClass "PrefixRegistryLaw" = some mg.cls := findClass_of_methodNamed B.named
  subst hsz
  have hD := hD0.self (sz := s.heap.size)
  unfold QlI
  generalize hAe : va_A (wLw cI cJ o g g2 jh ja (S, S2, pt, jn) oa f0) s.heap.size = A at hD hX0 ⊢
  have hA : ∀ q : Nat, s.heap.size ≤ q → A q := fun q h => by rw [← hAe]; exact Or.inr h
  have hS : va_S A s.heap s.heap [] := va_S.rf
  have hl := lv_entry ([.ref o, .int (nI k), .ref oa]) (n := 4) (Nat.le_of_ble_eq_true rfl)
  rw [lg_entry_eq]
  generalize (lg_sl ([.ref o, .int (nI k), .ref oa]) ++ List.replicate (4 - (lg_sl ([.ref o, .int (nI k), .ref oa])).length) Slot.unset).toArray = ls at hl ⊢
  replace hl : lv_has ls 4 [(0, .ref o), (1, .int (nI k)), (2, .ref oa)] := hl
  replace hP : va_P (dC, dI) classes (wLw cI cJ o g g2 jh ja (S, S2, pt, jn) oa f0) s.heap := hP
  replace hD : va_D A (wLw cI cJ o g g2 jh ja (S, S2, pt, jn) oa f0) := hD
  refine lv_aload_n hx hb d_Lw_replay_0 rfl (lv_at hl 2 rfl) ?_
  refine lv_iconst (v := 0) hx hb d_Lw_replay_1 (by decide) ?_
  refine lv_aload_n hx hb d_Lw_replay_2 rfl (lv_at hl 0 rfl) ?_
  refine lv_iload_n hx hb d_Lw_replay_3 rfl (lv_at hl 1 rfl) ?_
  have hPc := hP.sub (ws' := (wPR cI o g S g2 S2 jh ja pt jn)) [0, 1, 2, 3, 4, 5, 6, 7, 8, 9, 10, 11, 12, 13, 14, 15, 16, 17, 18, 19, 20, 21, 22, 23, 24, 25, 26, 27, 28] rfl
  have hDc := hD.sub (ws' := (wPR cI o g S g2 S2 jh ja pt jn)) [0, 1, 2, 3, 4, 5, 6, 7, 8, 9, 10, 11, 12, 13, 14, 15, 16, 17, 18, 19, 20, 21, 22, 23, 24, 25, 26, 27, 28] (by decide) rfl
  have hFc := va_free (wc := (wPR cI o g S g2 S2 jh ja pt jn)) hD hS hA [0, 1, 2, 3, 4, 5, 6, 7, 8, 9, 10, 11, 12, 13, 14, 15, 16, 17, 18, 19, 20, 21, 22, 23, 24, 25, 26, 27, 28] rfl
  refine vx_calli (vx_runV (b := o) (As := [.int (nI k)]) (rest := [.int 0, .ref oa]) ⟨hx, hb, hml, hown, hts⟩ (c_PR_replay l hlt dC dI s.heap.size cI o g S g2 S2 jh ja pt jn hS9 hjn hO2 k hk0 es hes) (cwV 1 hts (gV kw_700 kw_701 kw_702 kw_1 kw_703) rfl rfl rfl (by decide +kernel) ⟨Nat.le_of_ble_eq_true rfl, Nat.le_of_ble_eq_true rfl⟩) ⟨PcX.blind, va_recv (q0 := 0) (hK.sub (tys' := [(cI, .int)]) [0] rfl) hPc rfl rfl, PcX.use hPc (hK.sub (tys' := [(cI, .int)]) [0] rfl) hN hDc hX0 hS hFc⟩ rfl rfl hl.1 rfl (lv_room (Nat.le_of_ble_eq_true rfl)) d_Lw_replay_4 ⟨Nat.le_of_ble_eq_true rfl, Nat.le_of_ble_eq_true rfl⟩) hS (fun q _ h => hFc q h) hFc (fun q _ h => hFc q h) (fun E9 ce q9 u9 H9 H1 locs hH9 hv9 _ hB hz1 hk1 hS => ?_) (fun r9 u9 H9 H1 locs hH9 hv9 hp9 hB hz1 hk1 hS => ?_)
  · intro hce hcv hcl
    obtain ⟨hB, hP1, hK1, hD1⟩ := hB
    rw [hH9] at hP1
    obtain ⟨hP, hD⟩ := va_join (wr := [(oa, .inl (cJ, 1, .inr (.inl f0)))]) (w1 := (wUS cI o g g2 jh ja u9)) hP hD [0, 1, 2, 3, 4, 5, 6, 7, 8, 9, 10, 11, 12, 13, 14, 15, 16, 17, 18, 19, 20, 21, 22, 23, 24, 25, 26, 27, 28] [29] rfl rfl (by decide) (by decide) hk1 hFc hP1 hD1
    replace hP : va_P (dC, dI) classes (wLw cI cJ o g g2 jh ja u9 oa f0) H1 := hP.sub (ws' := (wLw cI cJ o g g2 jh ja u9 oa f0)) [1, 2, 3, 4, 5, 6, 7, 8, 9, 10, 11, 12, 13, 14, 15, 16, 17, 18, 19, 20, 21, 22, 23, 24, 25, 26, 27, 28, 29, 0] rfl
    replace hD : va_D A (wLw cI cJ o g g2 jh ja u9 oa f0) := hD.sub (ws' := (wLw cI cJ o g g2 jh ja u9 oa f0)) [1, 2, 3, 4, 5, 6, 7, 8, 9, 10, 11, 12, 13, 14, 15, 16, 17, 18, 19, 20, 21, 22, 23, 24, 25, 26, 27, 28, 29, 0] (by decide) rfl
    rcases hB with ⟨rfl, h1⟩
    · skip
      refine vx_catch (name := "java/lang/IllegalArgumentException") hown [] ⟨0, 9, 12, 13⟩ [] htab (fun _ h9 => nomatch h9) (by decide) (by decide) (hts _ kw_206) (va_Nw.use rfl (hX0.2.2 _ (List.mem_append_right _ (List.mem_of_getElem? (i := 223) (by decide +kernel))) rfl)) hce hcv hcl ?_
      refine lv_astore_n hx hb d_Lw_replay_12 rfl hl (by decide) rfl (fun ls hl => ?_)
      refine lv_iconst (v := 1) hx hb d_Lw_replay_13 (by decide) ?_
      refine vx_ret ?_
      refine W.widen (k := 1) (n := 6) (Nat.le_of_ble_eq_true rfl) (Nat.le_of_ble_eq_true rfl) ?_
      exact W.iret (v := 1) hx hb hr (fun t ht hW => ⟨⟨1, (1, (0, (u9, f0))), rfl, ⟨rfl, Or.inr ⟨rfl, h1.1, h1.2⟩, fun h9 => absurd h9 (show ¬ (1 : Nat) = 0 by decide), (show (1 : Nat) < 5 by decide)⟩, by rw [ht]; exact hP, va_K.moved hW.alike hK, hD⟩, hS.F ht⟩) hS.2.2 d_Lw_replay_14
  obtain ⟨hP1, hK1, hD1⟩ := hB
  rw [hH9] at hP1
  obtain ⟨hP, hD⟩ := va_join (wr := [(oa, .inl (cJ, 1, .inr (.inl f0)))]) (w1 := (wUS cI o g g2 jh ja u9)) hP hD [0, 1, 2, 3, 4, 5, 6, 7, 8, 9, 10, 11, 12, 13, 14, 15, 16, 17, 18, 19, 20, 21, 22, 23, 24, 25, 26, 27, 28] [29] rfl rfl (by decide) (by decide) hk1 hFc hP1 hD1
  replace hP : va_P (dC, dI) classes (wLw cI cJ o g g2 jh ja u9 oa f0) H1 := hP.sub (ws' := (wLw cI cJ o g g2 jh ja u9 oa f0)) [1, 2, 3, 4, 5, 6, 7, 8, 9, 10, 11, 12, 13, 14, 15, 16, 17, 18, 19, 20, 21, 22, 23, 24, 25, 26, 27, 28, 29, 0] rfl
  replace hD : va_D A (wLw cI cJ o g g2 jh ja u9 oa f0) := hD.sub (ws' := (wLw cI cJ o g g2 jh ja u9 oa f0)) [1, 2, 3, 4, 5, 6, 7, 8, 9, 10, 11, 12, 13, 14, 15, 16, 17, 18, 19, 20, 21, 22, 23, 24, 25, 26, 27, 28, 29, 0] (by decide) rfl
  refine lv_i2l hx hb d_Lw_replay_7 rfl ?_
  refine va_last (i := 0) (x := r9.toInt64) hx hb hK hP hD hS 29 1 rfl rfl (by unfold vp_in; decide) d_Lw_replay_8 (fun H1 locs hP hD hS => ?_)
  replace hP : va_P (dC, dI) classes (wLw cI cJ o g g2 jh ja u9 oa (vp_updL f0 0 r9.toInt64)) H1 := hP
  replace hD : va_D A (wLw cI cJ o g g2 jh ja u9 oa (vp_updL f0 0 r9.toInt64)) := hD
  refine lv_goto hx hb d_Lw_replay_9 rfl ?_
  refine lv_iconst (v := 0) hx hb d_Lw_replay_15 (by decide) ?_
  refine vx_ret ?_
  refine W.widen (k := 1) (n := 6) (Nat.le_of_ble_eq_true rfl) (Nat.le_of_ble_eq_true rfl) ?_
  exact W.iret (v := 0) hx hb hr (fun t ht hW => ⟨⟨0, (0, (r9.toInt64, (u9, (vp_updL f0 0 r9.toInt64)))), rfl, ⟨rfl, Or.inl ⟨rfl, hp9.1, congrArg Int32.toInt64 hp9.2.1, hp9.2.2⟩, fun _ => rfl, (show (0 : Nat) < 5 by decide)⟩, by rw [ht]; exact hP, va_K.moved hW.alike hK, hD⟩, hS.F ht⟩) hS.2.2 d_Lw_replay_16
