/-! contracts that may throw -/
def isCast : Cond → Bool
  | .castable .. => true
  | .declares .. => true
  | _ => false
/-- what throwing rests on: two statics of Throwable that nobody writes, and which class an exception is of -/
def SX (A : Nat → Prop) (U : State) : Prop := vx_Zq Bundle.tN "UNASSIGNED_STACK" Bundle.steD A U U.heap ∧ vx_Zq Bundle.tN "SUPPRESSED_SENTINEL" Bundle.listD A U U.heap ∧ ∀ w ∈ lw_tbl, isCast w = true → va_Nw w U
theorem SX.use {A A' : Nat → Prop} {s U : State} {H : Heap} (h : SX A s) (hk : ∀ a : Nat, a < s.heap.size → ¬ A a → H[a]? = s.heap[a]?) (hAB : ∀ q, A' q → A q) (hU : U.heap = H) (hW : s.WarmedH U.vm) : SX A' U := by
  obtain ⟨h1, h2, h3⟩ := h
  refine ⟨?_, ?_, fun w hw hc => ?_⟩
  · rw [hU]; exact vx_Zq.moved hW.alike ((h1.kept hk).narrow hAB)
  · rw [hU]; exact vx_Zq.moved hW.alike ((h2.kept hk).narrow hAB)
  · have h4 := h3 w hw hc
    cases w with
    | castable a b => exact va_Nw.warmC hW h4
    | declares a => exact va_Nw.warmD hW h4
    | _ => cases hc
theorem SX.blind {A : Nat → Prop} {U : State} {g : JFrame} {mk : MethodId} {a : Array Value} (h : SX A U) : SX A (U.calling g mk a) := by
  obtain ⟨h1, h2, h3⟩ := h
  refine ⟨vx_Zq.moved (Vm.Alike.refl U.vm) h1, vx_Zq.moved (Vm.Alike.refl U.vm) h2, fun w hw hc => ?_⟩
  have h4 := h3 w hw hc
  cases w with
  | castable a b => exact va_Nw.same (u := U) (U := U.calling g mk _) rfl rfl h4
  | declares a => exact va_Nw.same (u := U) (U := U.calling g mk _) rfl rfl h4
  | _ => cases hc
def PcX (D : va_G) (tys : List (ClassId × FieldType)) (ws : va_W) (av : List Value) (sz : Nat) : Array Value → State → Prop := va_Pc av (fun U => U.heap.size = sz ∧ va_P D classes ws U.heap ∧ va_K D classes tys U ∧ va_D (fun _ => True) ws ∧ NW U ∧ SX (va_A ws sz) U)
theorem PcX.blind {D : va_G} {tys : List (ClassId × FieldType)} {ws : va_W} {av : List Value} {sz : Nat} : FrameBlind (PcX D tys ws av sz) := fun a U g mk q => by
  obtain ⟨q0, qz, qP, qK, qD, qN, qS⟩ := q
  exact ⟨q0, qz, qP, va_K.moved (u := U) (U := U.calling g mk a) (Vm.Alike.refl U.vm) qK, qD, NW.same (u := U) (U := U.calling g mk a) rfl qN, qS.blind⟩
theorem PcX.use {D : va_G} {tys : List (ClassId × FieldType)} {ws : va_W} {av : List Value} {s : State} {H : Heap} {A : Nat → Prop} {locs : List Loc} (hP : va_P D classes ws H) (hK : va_K D classes tys s) (hN : NW s) (hD : va_D A ws) (hX : SX A s) (hS : va_S A s.heap H locs) (hF : ∀ q, va_A ws H.size q → A q) : ∀ U : State, U.heap = H → s.WarmedH U.vm → PcX D tys ws av H.size av.toArray U := fun U hU hW => ⟨rfl, by rw [hU], by rw [hU]; exact hP, va_K.moved hW.alike hK, hD.weaken (fun _ _ _ _ => trivial), hN.warm hW, hX.use hS.2.1 hF hU hW⟩
/-- what a thrown exception says: its class and why; nothing that was there has changed -/
abbrev XCx (XE : String → Prop) (sz : Nat) : String → State → State → Prop := vx_X (S := Unit) (fun _ => True) (fun E _ _ => XE E) (fun q => sz ≤ q)
abbrev nmX : List String := ["java/lang/RuntimeException", "java/lang/Exception"]
theorem x_hat {own cls : String} {ic : Nat} {args : Array Value} {s : State} {A : Nat → Prop} (hts : ∀ w ∈ wG, w.before args s = true) (hX : SX A s) (h1 : ∀ w ∈ (vx_at0 own ic cls nmX).filter goodWord, w ∈ wG) (h2 : ∀ w ∈ (vx_at0 own ic cls nmX).filter (fun w => !goodWord w), w ∈ lw_tbl ∧ isCast w = true) : ∀ w ∈ vx_at0 own ic cls nmX, w.before args s = true :=
  vx_hat (B := (vx_at0 own ic cls nmX).filter (fun w => !goodWord w)) (fun w h => hts w (h1 w h)) (fun w h => h) (fun w h => by
    have h3 := hX.2.2 w (h2 w h).1 (h2 w h).2
    have h4 := (h2 w h).2
    cases w with
    | castable a b => exact va_Nw.use rfl h3
    | declares a => exact va_Nw.use rfl h3
    | _ => cases h4)
/-! readers that may throw -/
def PcR (D : va_G) (tys : List (ClassId × FieldType)) (ws : va_W) (av : List Value) (sz : Nat) : Array Value → State → Prop := va_Pc av (fun U => U.heap.size = sz ∧ va_P D classes ws U.heap ∧ va_K D classes tys U ∧ NW U ∧ SX (fun q => sz ≤ q) U)
theorem PcR.blind {D : va_G} {tys : List (ClassId × FieldType)} {ws : va_W} {av : List Value} {sz : Nat} : FrameBlind (PcR D tys ws av sz) := fun a U g mk q => by
  obtain ⟨q0, qz, qP, qK, qN, qS⟩ := q
  exact ⟨q0, qz, qP, va_K.moved (u := U) (U := U.calling g mk a) (Vm.Alike.refl U.vm) qK, NW.same (u := U) (U := U.calling g mk a) rfl qN, qS.blind⟩
theorem PcR.use {D : va_G} {tys : List (ClassId × FieldType)} {ws : va_W} {av : List Value} {s : State} {H : Heap} {A : Nat → Prop} {locs : List Loc} (hP : va_P D classes ws H) (hK : va_K D classes tys s) (hN : NW s) (hX : SX A s) (hS : va_S A s.heap H locs) (hA : ∀ q : Nat, s.heap.size ≤ q → A q) : ∀ U : State, U.heap = H → s.WarmedH U.vm → PcR D tys ws av H.size av.toArray U := fun U hU hW => ⟨rfl, by rw [hU], by rw [hU]; exact hP, va_K.moved hW.alike hK, hN.warm hW, hX.use hS.2.1 (fun q h => hA q (Nat.le_trans hS.1 h)) hU hW⟩
abbrev QrI (P : Int32 → Prop) (sz : Nat) : Array Value → State → Outcome → State → Prop := va_Qi (S := Unit) (fun r9 _ => P r9) (fun _ _ => True) (fun q => sz ≤ q)
abbrev QrL (P : Int64 → Prop) (sz : Nat) : Array Value → State → Outcome → State → Prop := va_Ql (S := Unit) (fun r9 _ => P r9) (fun _ _ => True) (fun q => sz ≤ q)
abbrev QrV (P : Prop) (sz : Nat) : Array Value → State → Outcome → State → Prop := va_Qv (S := Unit) (fun _ => P) (fun _ _ => True) (fun q => sz ≤ q)
theorem x_keep {D : va_G} {ws : va_W} {H H1 : Heap} (h : va_P D classes ws H) (hk : ∀ q : Nat, q < H.size → ¬ (H.size ≤ q) → H1[q]? = H[q]?) : va_P D classes ws H1 := h.kept (fun k q hq => hk q.1 ((h k q hq).lt) (Nat.not_le.mpr ((h k q hq).lt)))
/-! the registry: two ledgers and the journal -/
abbrev LDS : Type := RS × (Nat → Nat) × Nat × Nat × WK
abbrev LDS.X (S : LDS) : RS := S.1
abbrev LDS.pol (S : LDS) : Nat → Nat := S.2.1
abbrev LDS.td (S : LDS) : Nat := S.2.2.1
abbrev LDS.qd (S : LDS) : Nat := S.2.2.2.1
abbrev LDS.wk (S : LDS) : WK := S.2.2.2.2
abbrev wLs (cI : ClassId) (g : Nat → Nat) (S : LDS) : va_W := wLe cI g S.X S.pol S.td S.qd S.wk
abbrev wPR (cI : ClassId) (o : Nat) (g : Nat → Nat) (S : LDS) (g2 : Nat → Nat) (S2 : LDS) (jh ja : Nat) (pt : Nat → Int32) (jn : Nat) : va_W := (o, .inr (4, [.ref (g 0), .ref (g2 0), .ref jh])) :: (wLs cI g S ++ (wLs cI g2 S2 ++ wJn cI jh ja pt jn))
def LDok (S : LDS) : Prop := RSok S.X ∧ (∀ v, S.pol v ≤ 1000) ∧ S.td ≤ 100000 ∧ S.qd ≤ 1000
set_option maxRecDepth 20000 in
theorem xg_36 : ∀ w ∈ (vx_at0 "PrefixRegistry" 36 "java/lang/IllegalArgumentException" nmX).filter goodWord, w ∈ wG := by decide +kernel
set_option maxRecDepth 20000 in
theorem xe_36 : (vx_at0 "PrefixRegistry" 36 "java/lang/IllegalArgumentException" nmX).filter (fun w => !goodWord w) = [Cond.declares ⟨"java/lang/RuntimeException", "<init>", "()V"⟩, Cond.declares ⟨"java/lang/Exception", "<init>", "()V"⟩, Cond.declares ⟨"java/lang/Throwable", "<init>", "()V"⟩, Cond.castable "java/lang/IllegalArgumentException" "java/lang/IllegalArgumentException"] := by decide +kernel
theorem xb_36 : ∀ w ∈ (vx_at0 "PrefixRegistry" 36 "java/lang/IllegalArgumentException" nmX).filter (fun w => !goodWord w), w ∈ lw_tbl ∧ isCast w = true := by
  rw [xe_36]
  exact List.forall_mem_cons.mpr ⟨⟨List.mem_append_right _ (List.mem_of_getElem? (i := 224) (by decide +kernel)), rfl⟩, List.forall_mem_cons.mpr ⟨⟨List.mem_append_right _ (List.mem_of_getElem? (i := 226) (by decide +kernel)), rfl⟩, List.forall_mem_cons.mpr ⟨⟨List.mem_append_right _ (List.mem_of_getElem? (i := 228) (by decide +kernel)), rfl⟩, List.forall_mem_cons.mpr ⟨⟨List.mem_append_right _ (List.mem_of_getElem? (i := 223) (by decide +kernel)), rfl⟩, fun _ h => nomatch h⟩⟩⟩⟩
set_option maxRecDepth 20000 in
theorem xo_36 : ∀ w ∈ Cond.classLink "PrefixRegistry" 34 "java/lang/IllegalArgumentException" :: Cond.initialized "java/lang/IllegalArgumentException" :: vx_at0 "PrefixRegistry" 36 "java/lang/IllegalArgumentException" nmX, vx_ot w = true := by decide +kernel
set_option maxRecDepth 20000 in
theorem xg_42 : ∀ w ∈ (vx_at0 "PrefixRegistry" 42 "java/lang/IllegalStateException" nmX).filter goodWord, w ∈ wG := by decide +kernel
set_option maxRecDepth 20000 in
theorem xe_42 : (vx_at0 "PrefixRegistry" 42 "java/lang/IllegalStateException" nmX).filter (fun w => !goodWord w) = [Cond.declares ⟨"java/lang/RuntimeException", "<init>", "()V"⟩, Cond.declares ⟨"java/lang/Exception", "<init>", "()V"⟩, Cond.declares ⟨"java/lang/Throwable", "<init>", "()V"⟩, Cond.castable "java/lang/IllegalStateException" "java/lang/IllegalStateException"] := by decide +kernel
theorem xb_42 : ∀ w ∈ (vx_at0 "PrefixRegistry" 42 "java/lang/IllegalStateException" nmX).filter (fun w => !goodWord w), w ∈ lw_tbl ∧ isCast w = true := by
  rw [xe_42]
  exact List.forall_mem_cons.mpr ⟨⟨List.mem_append_right _ (List.mem_of_getElem? (i := 224) (by decide +kernel)), rfl⟩, List.forall_mem_cons.mpr ⟨⟨List.mem_append_right _ (List.mem_of_getElem? (i := 226) (by decide +kernel)), rfl⟩, List.forall_mem_cons.mpr ⟨⟨List.mem_append_right _ (List.mem_of_getElem? (i := 228) (by decide +kernel)), rfl⟩, List.forall_mem_cons.mpr ⟨⟨List.mem_append_right _ (List.mem_of_getElem? (i := 300) (by decide +kernel)), rfl⟩, fun _ h => nomatch h⟩⟩⟩⟩
set_option maxRecDepth 20000 in
theorem xo_42 : ∀ w ∈ Cond.classLink "PrefixRegistry" 40 "java/lang/IllegalStateException" :: Cond.initialized "java/lang/IllegalStateException" :: vx_at0 "PrefixRegistry" 42 "java/lang/IllegalStateException" nmX, vx_ot w = true := by decide +kernel
set_option maxRecDepth 20000 in
theorem xg_55 : ∀ w ∈ (vx_at0 "PrefixRegistry" 55 "java/lang/UnsupportedOperationException" nmX).filter goodWord, w ∈ wG := by decide +kernel
set_option maxRecDepth 20000 in
theorem xe_55 : (vx_at0 "PrefixRegistry" 55 "java/lang/UnsupportedOperationException" nmX).filter (fun w => !goodWord w) = [Cond.declares ⟨"java/lang/RuntimeException", "<init>", "()V"⟩, Cond.declares ⟨"java/lang/Exception", "<init>", "()V"⟩, Cond.declares ⟨"java/lang/Throwable", "<init>", "()V"⟩, Cond.castable "java/lang/UnsupportedOperationException" "java/lang/UnsupportedOperationException"] := by decide +kernel
theorem xb_55 : ∀ w ∈ (vx_at0 "PrefixRegistry" 55 "java/lang/UnsupportedOperationException" nmX).filter (fun w => !goodWord w), w ∈ lw_tbl ∧ isCast w = true := by
  rw [xe_55]
  exact List.forall_mem_cons.mpr ⟨⟨List.mem_append_right _ (List.mem_of_getElem? (i := 224) (by decide +kernel)), rfl⟩, List.forall_mem_cons.mpr ⟨⟨List.mem_append_right _ (List.mem_of_getElem? (i := 226) (by decide +kernel)), rfl⟩, List.forall_mem_cons.mpr ⟨⟨List.mem_append_right _ (List.mem_of_getElem? (i := 228) (by decide +kernel)), rfl⟩, List.forall_mem_cons.mpr ⟨⟨List.mem_append_right _ (List.mem_of_getElem? (i := 319) (by decide +kernel)), rfl⟩, fun _ h => nomatch h⟩⟩⟩⟩
set_option maxRecDepth 20000 in
theorem xo_55 : ∀ w ∈ Cond.classLink "PrefixRegistry" 53 "java/lang/UnsupportedOperationException" :: Cond.initialized "java/lang/UnsupportedOperationException" :: vx_at0 "PrefixRegistry" 55 "java/lang/UnsupportedOperationException" nmX, vx_ot w = true := by decide +kernel
set_option maxRecDepth 20000 in
theorem xg_130 : ∀ w ∈ (vx_at0 "PrefixRegistry" 130 "java/lang/IndexOutOfBoundsException" nmX).filter goodWord, w ∈ wG := by decide +kernel
set_option maxRecDepth 20000 in
theorem xe_130 : (vx_at0 "PrefixRegistry" 130 "java/lang/IndexOutOfBoundsException" nmX).filter (fun w => !goodWord w) = [Cond.declares ⟨"java/lang/RuntimeException", "<init>", "()V"⟩, Cond.declares ⟨"java/lang/Exception", "<init>", "()V"⟩, Cond.declares ⟨"java/lang/Throwable", "<init>", "()V"⟩, Cond.castable "java/lang/IndexOutOfBoundsException" "java/lang/IndexOutOfBoundsException"] := by decide +kernel
theorem xb_130 : ∀ w ∈ (vx_at0 "PrefixRegistry" 130 "java/lang/IndexOutOfBoundsException" nmX).filter (fun w => !goodWord w), w ∈ lw_tbl ∧ isCast w = true := by
  rw [xe_130]
  exact List.forall_mem_cons.mpr ⟨⟨List.mem_append_right _ (List.mem_of_getElem? (i := 224) (by decide +kernel)), rfl⟩, List.forall_mem_cons.mpr ⟨⟨List.mem_append_right _ (List.mem_of_getElem? (i := 226) (by decide +kernel)), rfl⟩, List.forall_mem_cons.mpr ⟨⟨List.mem_append_right _ (List.mem_of_getElem? (i := 228) (by decide +kernel)), rfl⟩, List.forall_mem_cons.mpr ⟨⟨List.mem_append_right _ (List.mem_of_getElem? (i := 525) (by decide +kernel)), rfl⟩, fun _ h => nomatch h⟩⟩⟩⟩
set_option maxRecDepth 20000 in
theorem xo_130 : ∀ w ∈ Cond.classLink "PrefixRegistry" 128 "java/lang/IndexOutOfBoundsException" :: Cond.initialized "java/lang/IndexOutOfBoundsException" :: vx_at0 "PrefixRegistry" 130 "java/lang/IndexOutOfBoundsException" nmX, vx_ot w = true := by decide +kernel
