theorem k_cm1 {a : Nat} (ha : a < 4294967296) : ¬ lg_cmp (lN a) (-1) = 0 := by
  intro q
  unfold lg_cmp at q
  have e : (-1 : Int64) < lN a := by
    rw [Int64.lt_iff_toInt_lt, show (-1 : Int64).toInt = -1 from rfl]
    have : (lN a).toInt = (a : Int) := by
      show (BitVec.ofNat 64 a).toInt = (a : Int)
      rw [BitVec.toInt_eq_toNat_of_lt (by rw [BitVec.toNat_ofNat]; omega), BitVec.toNat_ofNat, Nat.mod_eq_of_lt (by omega)]
    rw [this]; omega
  rw [if_pos e] at q
  exact absurd q (by decide)
def wkG (X : RS) (e k : Nat) : List Nat → Nat → Int64 → Int32 → List (Nat × Nat) → Nat → Bool × WK
  | L, a, sa, le, [], _ => (false, wkS X L a e sa le)
  | L, a, sa, le, x :: t, i => if i = k then (true, wkS X L a e sa le) else wkG X e k (stp X L a).1 (x.1 + 2 ^ (32 - x.2)) (lN x.1) (nI x.2) t (i + 1)
set_option maxHeartbeats 4000000 in
set_option maxRecDepth 100000 in
theorem c_Le_placeFor (l : Launch) (dC : Nat → ClassId) (dI : Nat → Nat → Nat) (sz : Nat) (cI : ClassId) (g : Nat → Nat) (X : RS) (hX : RSok X) (pol : Nat → Nat) (td qd : Nat) (wk : WK) (r : Nat) (hr0 : r < 200) (L : List Nat) (Bk : List (Nat × Nat)) (hC : chn X.nx (X.fc r) L) (hLm : ∀ j ∈ L, j < 200) (hL : L.length ≤ 200) (hcb : cbk X (X.pre r + 2 ^ (32 - X.len r)) L (X.pre r) Bk) (hBl : Bk.length < 1000000) (he : (X.pre r + 2 ^ (32 - X.len r)) ≤ 4294967296) (n : Nat) (hn : n < 33) (u : Bool) : Met l y_Le_placeFor (.code y_Le_placeFor b_Le_placeFor 9 (some .long) :: wG) ({ frames := 3, cells := 0, slots := 0, locals := 67 }) (PcM (dC, dI) [(cI, .int)] (wLe cI g X pol td qd wk) [.ref (g 0), .int (nI r), .int (nI n), .int (bi u)] sz) (QmL (dC, dI) [(cI, .int)] (wLe cI g X pol td qd wk) (wLe cI g X pol td qd (wkL X (X.pre r + 2 ^ (32 - X.len r)) L (X.pre r) wk.sa wk.le Bk)) sz (boI (Bk.foldl (chS u n) none))) 0 0 (va_A (wLe cI g X pol td qd wk) sz) := by
  refine Met.ofW (cc := b_Le_placeFor) (maxL := 9) (ret := (some .long)) (by decide) rfl ?_
  intro pg eg s mg ag bg meth cg s₁ B hml hv
  obtain ⟨rfl, hsz, hP, hK, hD0, hN⟩ := hv
  have hx := B.exec
  have hb := B.bytes
  have hr := B.returns
  have hlocks := B.notSynchronized
  have hts : ∀ w9 ∈ wG, w9.before ([.ref (g 0), .int (nI r), .int (nI n), .int (bi u)] : List Value).toArray s = true := fun w9 h9 => atoms_spec (ws := (.code y_Le_placeFor b_Le_placeFor 9 (some .long) :: wG)) B.pre w9 (List.mem_cons_of_mem _ h9)
  have hown : s.vm.findClass "PrefixRegistry$Ledger" = some mg.cls := findClass_of_methodNamed B.named
  subst hsz
  have hD := hD0.self (sz := s.heap.size)
  unfold QmL
  generalize hAe : va_A (wLe cI g X pol td qd wk) s.heap.size = A at hD ⊢
  have hA : ∀ q : Nat, s.heap.size ≤ q → A q := fun q h => by rw [← hAe]; exact Or.inr h
  have hS : va_S A s.heap s.heap [] := va_S.rf
  have hl := lv_entry ([.ref (g 0), .int (nI r), .int (nI n), .int (bi u)]) (n := 9) (Nat.le_of_ble_eq_true rfl)
  rw [lg_entry_eq]
  generalize (lg_sl ([.ref (g 0), .int (nI r), .int (nI n), .int (bi u)]) ++ List.replicate (9 - (lg_sl ([.ref (g 0), .int (nI r), .int (nI n), .int (bi u)])).length) Slot.unset).toArray = ls at hl ⊢
  replace hl : lv_has ls 9 [(0, .ref (g 0)), (1, .int (nI r)), (2, .int (nI n)), (3, .int (bi u))] := hl
  replace hP : va_P (dC, dI) classes (wLe cI g X pol td qd wk) s.heap := hP
  replace hD : va_D A (wLe cI g X pol td qd wk) := hD
  refine lv_ldc2 hx hb hown (hts _ kw_360) d_Le_placeFor_0 ?_
  refine lv_lstore hx hb d_Le_placeFor_3 hl (by decide) rfl (fun ls hl => ?_)
  replace hl : lv_has ls 9 [(4, .long (-1)), (0, .ref (g 0)), (1, .int (nI r)), (2, .int (nI n)), (3, .int (bi u))] := hl
  refine lv_iconst (v := (-1)) hx hb d_Le_placeFor_5 (by decide) ?_
  refine lv_istore hx hb d_Le_placeFor_6 hl (by decide) rfl (fun ls hl => ?_)
  replace hl : lv_has ls 9 [(6, .int (-1)), (4, .long (-1)), (0, .ref (g 0)), (1, .int (nI r)), (2, .int (nI n)), (3, .int (bi u))] := hl
  refine lv_aload_n hx hb d_Le_placeFor_8 rfl (lv_at hl 2 rfl) ?_
  refine va_get (D := (dC, dI)) (ci := 2) (v := .ref (g 1)) (C := R_Le) (T := F_Le) (N := 5) hx hb hts u_Le hown hK hP 0 rfl rfl 1 (by decide) (hts _ kw_114) (fun _ h9 => h9) rfl d_Le_placeFor_9 ?_
  refine lv_iload_n hx hb d_Le_placeFor_12 rfl (lv_at hl 3 rfl) ?_
  have hPc := hP.sub (ws' := (wBW cI (g 1) (g 3) (fun k => g (4 + k)) X wk)) [1, 3, 4, 5, 6, 7, 8, 9, 10, 11, 12] rfl
  have hDc := hD.sub (ws' := (wBW cI (g 1) (g 3) (fun k => g (4 + k)) X wk)) [1, 3, 4, 5, 6, 7, 8, 9, 10, 11, 12] (by decide) rfl
  have hFc := va_free (wc := (wBW cI (g 1) (g 3) (fun k => g (4 + k)) X wk)) hD hS hA [1, 3, 4, 5, 6, 7, 8, 9, 10, 11, 12] rfl
  refine va_callv (va_runV (b := (g 1)) (As := [.int (nI r)]) (rest := []) ⟨hx, hb, hml, hown, hts⟩ (c_BW_begin l dC dI s.heap.size cI (g 1) (g 3) (fun k => g (4 + k)) X hX wk r hr0) (cwV 1 hts (gV kw_361 kw_362 kw_363 kw_4 kw_364) rfl rfl rfl (by decide +kernel) ⟨Nat.le_of_ble_eq_true rfl, Nat.le_of_ble_eq_true rfl⟩) ⟨PcM.blind, va_recv (q0 := 0) hK hPc rfl rfl, PcM.use hPc hK hN hDc⟩ rfl rfl hl.1 rfl (lv_room (Nat.le_of_ble_eq_true rfl)) d_Le_placeFor_13 ⟨Nat.le_of_ble_eq_true rfl, Nat.le_of_ble_eq_true rfl⟩) hS (fun q _ h => hFc q h) hFc (fun u9 H9 H1 locs hH9 hv9 hp9 hB hz1 hk1 hS => ?_)
  obtain ⟨hP1, hK1, hD1⟩ := hB
  rw [hH9] at hP1
  obtain ⟨hP, hD⟩ := va_join (wr := [((g 0), .inr (2, [.ref (g 3), .ref (g 1), .ref (g 2), .int (nI td), .int (nI qd)])), ((g 2), .inl (cI, 4, .inl (fun z9 => nI (pol z9))))]) (w1 := (wBW cI (g 1) (g 3) (fun k => g (4 + k)) X (lN (X.pre r), lN (X.pre r + 2 ^ (32 - X.len r)), pI (X.fc r), wk.sa, wk.le))) hP hD [1, 3, 4, 5, 6, 7, 8, 9, 10, 11, 12] [0, 2] rfl rfl (by decide) (by decide) hk1 hFc hP1 hD1
  clear hPc hDc hFc hP1 hD1 hK1 hk1 hz1 hv9 hH9
  generalize H1 = H at hP hS ⊢
  replace hP : va_P (dC, dI) classes [((g 0), .inr (2, [.ref (g 3), .ref (g 1), .ref (g 2), .int (nI td), .int (nI qd)])), ((g 1), .inr (0, [.ref (g 3), .long (lN (X.pre r)), .long (lN (X.pre r + 2 ^ (32 - X.len r))), .int (pI (X.fc r)), .long wk.sa, .int wk.le])), ((g 2), .inl (cI, 4, .inl (fun z9 => nI (pol z9)))), ((g 3), .inr (3, [.ref (g 4), .ref (g 5), .ref (g 6), .ref (g 7), .ref (g 8), .ref (g 9), .ref (g 10), .ref (g 11), .ref (g 12), .int (nI X.n)])), ((g 4), .inl (cI, 200, .inl (fun z9 => nI (X.pre z9)))), ((g 5), .inl (cI, 200, .inl (fun z9 => nI (X.len z9)))), ((g 6), .inl (cI, 200, .inl (fun z9 => pI (X.par z9)))), ((g 7), .inl (cI, 200, .inl (fun z9 => nI (X.lev z9)))), ((g 8), .inl (cI, 200, .inl (fun z9 => nI (X.hol z9)))), ((g 9), .inl (cI, 200, .inl (fun z9 => nI (X.sta z9)))), ((g 10), .inl (cI, 200, .inl (fun z9 => nI (X.en z9)))), ((g 11), .inl (cI, 200, .inl (fun z9 => pI (X.fc z9)))), ((g 12), .inl (cI, 200, .inl (fun z9 => pI (X.nx z9))))] H := hP.sub (ws' := [((g 0), .inr (2, [.ref (g 3), .ref (g 1), .ref (g 2), .int (nI td), .int (nI qd)])), ((g 1), .inr (0, [.ref (g 3), .long (lN (X.pre r)), .long (lN (X.pre r + 2 ^ (32 - X.len r))), .int (pI (X.fc r)), .long wk.sa, .int wk.le])), ((g 2), .inl (cI, 4, .inl (fun z9 => nI (pol z9)))), ((g 3), .inr (3, [.ref (g 4), .ref (g 5), .ref (g 6), .ref (g 7), .ref (g 8), .ref (g 9), .ref (g 10), .ref (g 11), .ref (g 12), .int (nI X.n)])), ((g 4), .inl (cI, 200, .inl (fun z9 => nI (X.pre z9)))), ((g 5), .inl (cI, 200, .inl (fun z9 => nI (X.len z9)))), ((g 6), .inl (cI, 200, .inl (fun z9 => pI (X.par z9)))), ((g 7), .inl (cI, 200, .inl (fun z9 => nI (X.lev z9)))), ((g 8), .inl (cI, 200, .inl (fun z9 => nI (X.hol z9)))), ((g 9), .inl (cI, 200, .inl (fun z9 => nI (X.sta z9)))), ((g 10), .inl (cI, 200, .inl (fun z9 => nI (X.en z9)))), ((g 11), .inl (cI, 200, .inl (fun z9 => pI (X.fc z9)))), ((g 12), .inl (cI, 200, .inl (fun z9 => pI (X.nx z9))))]) [0, 2, 1, 3, 4, 5, 6, 7, 8, 9, 10, 11, 12] rfl
  replace hD : va_D A [((g 0), .inr (2, [.ref (g 3), .ref (g 1), .ref (g 2), .int (nI td), .int (nI qd)])), ((g 1), .inr (0, [.ref (g 3), .long (lN (X.pre r)), .long (lN (X.pre r + 2 ^ (32 - X.len r))), .int (pI (X.fc r)), .long wk.sa, .int wk.le])), ((g 2), .inl (cI, 4, .inl (fun z9 => nI (pol z9)))), ((g 3), .inr (3, [.ref (g 4), .ref (g 5), .ref (g 6), .ref (g 7), .ref (g 8), .ref (g 9), .ref (g 10), .ref (g 11), .ref (g 12), .int (nI X.n)])), ((g 4), .inl (cI, 200, .inl (fun z9 => nI (X.pre z9)))), ((g 5), .inl (cI, 200, .inl (fun z9 => nI (X.len z9)))), ((g 6), .inl (cI, 200, .inl (fun z9 => pI (X.par z9)))), ((g 7), .inl (cI, 200, .inl (fun z9 => nI (X.lev z9)))), ((g 8), .inl (cI, 200, .inl (fun z9 => nI (X.hol z9)))), ((g 9), .inl (cI, 200, .inl (fun z9 => nI (X.sta z9)))), ((g 10), .inl (cI, 200, .inl (fun z9 => nI (X.en z9)))), ((g 11), .inl (cI, 200, .inl (fun z9 => pI (X.fc z9)))), ((g 12), .inl (cI, 200, .inl (fun z9 => pI (X.nx z9))))] := hD.sub (ws' := [((g 0), .inr (2, [.ref (g 3), .ref (g 1), .ref (g 2), .int (nI td), .int (nI qd)])), ((g 1), .inr (0, [.ref (g 3), .long (lN (X.pre r)), .long (lN (X.pre r + 2 ^ (32 - X.len r))), .int (pI (X.fc r)), .long wk.sa, .int wk.le])), ((g 2), .inl (cI, 4, .inl (fun z9 => nI (pol z9)))), ((g 3), .inr (3, [.ref (g 4), .ref (g 5), .ref (g 6), .ref (g 7), .ref (g 8), .ref (g 9), .ref (g 10), .ref (g 11), .ref (g 12), .int (nI X.n)])), ((g 4), .inl (cI, 200, .inl (fun z9 => nI (X.pre z9)))), ((g 5), .inl (cI, 200, .inl (fun z9 => nI (X.len z9)))), ((g 6), .inl (cI, 200, .inl (fun z9 => pI (X.par z9)))), ((g 7), .inl (cI, 200, .inl (fun z9 => nI (X.lev z9)))), ((g 8), .inl (cI, 200, .inl (fun z9 => nI (X.hol z9)))), ((g 9), .inl (cI, 200, .inl (fun z9 => nI (X.sta z9)))), ((g 10), .inl (cI, 200, .inl (fun z9 => nI (X.en z9)))), ((g 11), .inl (cI, 200, .inl (fun z9 => pI (X.fc z9)))), ((g 12), .inl (cI, 200, .inl (fun z9 => pI (X.nx z9))))]) [0, 2, 1, 3, 4, 5, 6, 7, 8, 9, 10, 11, 12] (by decide) rfl
  refine lv_iconst (v := 0) hx hb d_Le_placeFor_16 (by decide) ?_
  refine lv_istore hx hb d_Le_placeFor_17 hl (by decide) rfl (fun ls hl => ?_)
  replace hl : lv_has ls 9 [(7, .int 0), (6, .int (-1)), (4, .long (-1)), (0, .ref (g 0)), (1, .int (nI r)), (2, .int (nI n)), (3, .int (bi u))] := hl
  obtain ⟨i, hi0⟩ : ∃ i : Nat, i = 0 := ⟨_, rfl⟩
  obtain ⟨B9, hB90⟩ : ∃ B9 : List (Nat × Nat), B9 = Bk := ⟨_, rfl⟩
  obtain ⟨L9, hL90⟩ : ∃ L9 : List Nat, L9 = L := ⟨_, rfl⟩
  obtain ⟨a9, ha90⟩ : ∃ a9 : Nat, a9 = X.pre r := ⟨_, rfl⟩
  obtain ⟨o9, ho90⟩ : ∃ o9 : Option Nat, o9 = X.fc r := ⟨_, rfl⟩
  obtain ⟨sa9, hsa90⟩ : ∃ sa9 : Int64, sa9 = wk.sa := ⟨_, rfl⟩
  obtain ⟨le9, hle90⟩ : ∃ le9 : Int32, le9 = wk.le := ⟨_, rfl⟩
  obtain ⟨C, hC0⟩ : ∃ C : Option (Nat × Nat), C = none := ⟨_, rfl⟩
  have hcb9 : cbk X (X.pre r + 2 ^ (32 - X.len r)) L9 a9 B9 := by rw [hL90, ha90, hB90]; exact hcb
  have hC9 : chn X.nx o9 L9 := by rw [ho90, hL90]; exact hC
  have hLm9 : ∀ j ∈ L9, j < 200 := by rw [hL90]; exact hLm
  have hL9 : L9.length ≤ 200 := by rw [hL90]; exact hL
  have ha9 : a9 ≤ 4294967296 := by have := hX.pre r; omega
  have hiB : i + B9.length < 1000000 := by rw [hi0, hB90]; omega
  have hres : B9.foldl (chS u n) C = Bk.foldl (chS u n) none := by rw [hC0, hB90]
  have hCb : ∀ y, C = some y → y.2 < 33 ∧ y.1 < 4294967296 := by intro y q; rw [hC0] at q; exact nomatch q
  have hwk : wkL X (X.pre r + 2 ^ (32 - X.len r)) L9 a9 sa9 le9 B9 = wkL X (X.pre r + 2 ^ (32 - X.len r)) L (X.pre r) wk.sa wk.le Bk := by rw [hL90, ha90, hsa90, hle90, hB90]
  replace hP : va_P (dC, dI) classes (wLe cI g X pol td qd (lN a9, lN (X.pre r + 2 ^ (32 - X.len r)), pI o9, sa9, le9)) H := by rw [ha90, ho90, hsa90, hle90]; exact hP
  replace hD : va_D A (wLe cI g X pol td qd (lN a9, lN (X.pre r + 2 ^ (32 - X.len r)), pI o9, sa9, le9)) := by rw [ha90, ho90, hsa90, hle90]; exact hD
  replace hl : lv_has ls 9 [(7, .int (nI i)), (6, .int (blI C)), (4, .long (boI C)), (0, .ref (g 0)), (1, .int (nI r)), (2, .int (nI n)), (3, .int (bi u))] := by subst hi0; subst hC0; exact hl
  clear hi0 hB90 hL90 ha90 ho90 hsa90 hle90 hC0
  replace hcb9 := hcb9
  replace hC9 := hC9
  replace hLm9 := hLm9
  replace hL9 := hL9
  replace ha9 := ha9
  replace hiB := hiB
  replace hres := hres
  replace hCb := hCb
  replace hwk := hwk
  replace hP := hP
  replace hD := hD
  replace hS := hS
  replace hl : lv_has ls 9 [(7, .int (nI i)), (6, .int (blI C)), (4, .long (boI C)), (0, .ref (g 0)), (1, .int (nI r)), (2, .int (nI n)), (3, .int (bi u))] := hl
  induction B9 generalizing i L9 a9 o9 sa9 le9 ls H locs C with
  | nil =>
    replace hiB : i + 0 < 1000000 := hiB
    replace hP : va_P (dC, dI) classes [((g 0), .inr (2, [.ref (g 3), .ref (g 1), .ref (g 2), .int (nI td), .int (nI qd)])), ((g 1), .inr (0, [.ref (g 3), .long (lN a9), .long (lN (X.pre r + 2 ^ (32 - X.len r))), .int (pI o9), .long sa9, .int le9])), ((g 2), .inl (cI, 4, .inl (fun z9 => nI (pol z9)))), ((g 3), .inr (3, [.ref (g 4), .ref (g 5), .ref (g 6), .ref (g 7), .ref (g 8), .ref (g 9), .ref (g 10), .ref (g 11), .ref (g 12), .int (nI X.n)])), ((g 4), .inl (cI, 200, .inl (fun z9 => nI (X.pre z9)))), ((g 5), .inl (cI, 200, .inl (fun z9 => nI (X.len z9)))), ((g 6), .inl (cI, 200, .inl (fun z9 => pI (X.par z9)))), ((g 7), .inl (cI, 200, .inl (fun z9 => nI (X.lev z9)))), ((g 8), .inl (cI, 200, .inl (fun z9 => nI (X.hol z9)))), ((g 9), .inl (cI, 200, .inl (fun z9 => nI (X.sta z9)))), ((g 10), .inl (cI, 200, .inl (fun z9 => nI (X.en z9)))), ((g 11), .inl (cI, 200, .inl (fun z9 => pI (X.fc z9)))), ((g 12), .inl (cI, 200, .inl (fun z9 => pI (X.nx z9))))] H := hP
    replace hD : va_D A [((g 0), .inr (2, [.ref (g 3), .ref (g 1), .ref (g 2), .int (nI td), .int (nI qd)])), ((g 1), .inr (0, [.ref (g 3), .long (lN a9), .long (lN (X.pre r + 2 ^ (32 - X.len r))), .int (pI o9), .long sa9, .int le9])), ((g 2), .inl (cI, 4, .inl (fun z9 => nI (pol z9)))), ((g 3), .inr (3, [.ref (g 4), .ref (g 5), .ref (g 6), .ref (g 7), .ref (g 8), .ref (g 9), .ref (g 10), .ref (g 11), .ref (g 12), .int (nI X.n)])), ((g 4), .inl (cI, 200, .inl (fun z9 => nI (X.pre z9)))), ((g 5), .inl (cI, 200, .inl (fun z9 => nI (X.len z9)))), ((g 6), .inl (cI, 200, .inl (fun z9 => pI (X.par z9)))), ((g 7), .inl (cI, 200, .inl (fun z9 => nI (X.lev z9)))), ((g 8), .inl (cI, 200, .inl (fun z9 => nI (X.hol z9)))), ((g 9), .inl (cI, 200, .inl (fun z9 => nI (X.sta z9)))), ((g 10), .inl (cI, 200, .inl (fun z9 => nI (X.en z9)))), ((g 11), .inl (cI, 200, .inl (fun z9 => pI (X.fc z9)))), ((g 12), .inl (cI, 200, .inl (fun z9 => pI (X.nx z9))))] := hD
    refine lv_iload hx hb d_Le_placeFor_19 (lv_at hl 0 rfl) ?_
    refine lv_ldc hx hb hown (hts _ kw_367) d_Le_placeFor_21 ?_
    refine lv_icmp_ge hx hb d_Le_placeFor_23 rfl (fun h9 => absurd h9 (nI_ge (b := 1000000) (by omega) (by decide))) (fun _ => ?_)
    refine lv_aload_n hx hb d_Le_placeFor_26 rfl (lv_at hl 3 rfl) ?_
    refine va_get (D := (dC, dI)) (ci := 2) (v := .ref (g 1)) (C := R_Le) (T := F_Le) (N := 5) hx hb hts u_Le hown hK hP 0 rfl rfl 1 (by decide) (hts _ kw_114) (fun _ h9 => h9) rfl d_Le_placeFor_27 ?_
    have hPc := hP.sub (ws' := (wBW cI (g 1) (g 3) (fun k => g (4 + k)) X (lN a9, lN (X.pre r + 2 ^ (32 - X.len r)), pI o9, sa9, le9))) [1, 3, 4, 5, 6, 7, 8, 9, 10, 11, 12] rfl
    have hDc := hD.sub (ws' := (wBW cI (g 1) (g 3) (fun k => g (4 + k)) X (lN a9, lN (X.pre r + 2 ^ (32 - X.len r)), pI o9, sa9, le9))) [1, 3, 4, 5, 6, 7, 8, 9, 10, 11, 12] (by decide) rfl
    have hFc := va_free (wc := (wBW cI (g 1) (g 3) (fun k => g (4 + k)) X (lN a9, lN (X.pre r + 2 ^ (32 - X.len r)), pI o9, sa9, le9))) hD hS hA [1, 3, 4, 5, 6, 7, 8, 9, 10, 11, 12] rfl
    refine va_calli (va_runV (b := (g 1)) (As := []) (rest := []) ⟨hx, hb, hml, hown, hts⟩ (c_BW_step l dC dI H.size cI (g 1) (g 3) (fun k => g (4 + k)) X hX a9 (X.pre r + 2 ^ (32 - X.len r)) o9 sa9 le9 L9 hC9 (fun k q => hLm9 k (chn_mem hC9 q)) hL9 ha9 he (fun K a8 q1 q2 => absurd (show (stp X L9 a9).2 < _ by rw [q1]; exact q2) hcb9)) (cwV 0 hts (gV kw_368 kw_369 kw_370 kw_4 kw_371) rfl rfl rfl (by decide +kernel) ⟨Nat.le_of_ble_eq_true rfl, Nat.le_of_ble_eq_true rfl⟩) ⟨PcM.blind, va_recv (q0 := 0) hK hPc rfl rfl, PcM.use hPc hK hN hDc⟩ rfl rfl hl.1 rfl (lv_room (Nat.le_of_ble_eq_true rfl)) d_Le_placeFor_30 ⟨Nat.le_of_ble_eq_true rfl, Nat.le_of_ble_eq_true rfl⟩) hS (fun q _ h => hFc q h) hFc (fun r30 u9 H9 H1 locs hH9 hv9 hp9 hB hz1 hk1 hS => ?_)
    obtain rfl : r30 = (bi (decide ((stp X L9 a9).2 < (X.pre r + 2 ^ (32 - X.len r))))) := hp9
    obtain ⟨hP1, hK1, hD1⟩ := hB
    rw [hH9] at hP1
    obtain ⟨hP, hD⟩ := va_join (wr := [((g 0), .inr (2, [.ref (g 3), .ref (g 1), .ref (g 2), .int (nI td), .int (nI qd)])), ((g 2), .inl (cI, 4, .inl (fun z9 => nI (pol z9))))]) (w1 := (wBW cI (g 1) (g 3) (fun k => g (4 + k)) X (wkS X L9 a9 (X.pre r + 2 ^ (32 - X.len r)) sa9 le9))) hP hD [1, 3, 4, 5, 6, 7, 8, 9, 10, 11, 12] [0, 2] rfl rfl (by decide) (by decide) hk1 hFc hP1 hD1
    clear hPc hDc hFc hP1 hD1 hK1 hk1 hz1 hv9 hH9
    generalize H1 = H at hP hS ⊢
    replace hP : va_P (dC, dI) classes [((g 0), .inr (2, [.ref (g 3), .ref (g 1), .ref (g 2), .int (nI td), .int (nI qd)])), ((g 1), .inr (0, [.ref (g 3), .long ((wkS X L9 a9 (X.pre r + 2 ^ (32 - X.len r)) sa9 le9).at), .long ((wkS X L9 a9 (X.pre r + 2 ^ (32 - X.len r)) sa9 le9).en), .int ((wkS X L9 a9 (X.pre r + 2 ^ (32 - X.len r)) sa9 le9).ch), .long ((wkS X L9 a9 (X.pre r + 2 ^ (32 - X.len r)) sa9 le9).sa), .int ((wkS X L9 a9 (X.pre r + 2 ^ (32 - X.len r)) sa9 le9).le)])), ((g 2), .inl (cI, 4, .inl (fun z9 => nI (pol z9)))), ((g 3), .inr (3, [.ref (g 4), .ref (g 5), .ref (g 6), .ref (g 7), .ref (g 8), .ref (g 9), .ref (g 10), .ref (g 11), .ref (g 12), .int (nI X.n)])), ((g 4), .inl (cI, 200, .inl (fun z9 => nI (X.pre z9)))), ((g 5), .inl (cI, 200, .inl (fun z9 => nI (X.len z9)))), ((g 6), .inl (cI, 200, .inl (fun z9 => pI (X.par z9)))), ((g 7), .inl (cI, 200, .inl (fun z9 => nI (X.lev z9)))), ((g 8), .inl (cI, 200, .inl (fun z9 => nI (X.hol z9)))), ((g 9), .inl (cI, 200, .inl (fun z9 => nI (X.sta z9)))), ((g 10), .inl (cI, 200, .inl (fun z9 => nI (X.en z9)))), ((g 11), .inl (cI, 200, .inl (fun z9 => pI (X.fc z9)))), ((g 12), .inl (cI, 200, .inl (fun z9 => pI (X.nx z9))))] H := hP.sub (ws' := [((g 0), .inr (2, [.ref (g 3), .ref (g 1), .ref (g 2), .int (nI td), .int (nI qd)])), ((g 1), .inr (0, [.ref (g 3), .long ((wkS X L9 a9 (X.pre r + 2 ^ (32 - X.len r)) sa9 le9).at), .long ((wkS X L9 a9 (X.pre r + 2 ^ (32 - X.len r)) sa9 le9).en), .int ((wkS X L9 a9 (X.pre r + 2 ^ (32 - X.len r)) sa9 le9).ch), .long ((wkS X L9 a9 (X.pre r + 2 ^ (32 - X.len r)) sa9 le9).sa), .int ((wkS X L9 a9 (X.pre r + 2 ^ (32 - X.len r)) sa9 le9).le)])), ((g 2), .inl (cI, 4, .inl (fun z9 => nI (pol z9)))), ((g 3), .inr (3, [.ref (g 4), .ref (g 5), .ref (g 6), .ref (g 7), .ref (g 8), .ref (g 9), .ref (g 10), .ref (g 11), .ref (g 12), .int (nI X.n)])), ((g 4), .inl (cI, 200, .inl (fun z9 => nI (X.pre z9)))), ((g 5), .inl (cI, 200, .inl (fun z9 => nI (X.len z9)))), ((g 6), .inl (cI, 200, .inl (fun z9 => pI (X.par z9)))), ((g 7), .inl (cI, 200, .inl (fun z9 => nI (X.lev z9)))), ((g 8), .inl (cI, 200, .inl (fun z9 => nI (X.hol z9)))), ((g 9), .inl (cI, 200, .inl (fun z9 => nI (X.sta z9)))), ((g 10), .inl (cI, 200, .inl (fun z9 => nI (X.en z9)))), ((g 11), .inl (cI, 200, .inl (fun z9 => pI (X.fc z9)))), ((g 12), .inl (cI, 200, .inl (fun z9 => pI (X.nx z9))))]) [0, 2, 1, 3, 4, 5, 6, 7, 8, 9, 10, 11, 12] rfl
    replace hD : va_D A [((g 0), .inr (2, [.ref (g 3), .ref (g 1), .ref (g 2), .int (nI td), .int (nI qd)])), ((g 1), .inr (0, [.ref (g 3), .long ((wkS X L9 a9 (X.pre r + 2 ^ (32 - X.len r)) sa9 le9).at), .long ((wkS X L9 a9 (X.pre r + 2 ^ (32 - X.len r)) sa9 le9).en), .int ((wkS X L9 a9 (X.pre r + 2 ^ (32 - X.len r)) sa9 le9).ch), .long ((wkS X L9 a9 (X.pre r + 2 ^ (32 - X.len r)) sa9 le9).sa), .int ((wkS X L9 a9 (X.pre r + 2 ^ (32 - X.len r)) sa9 le9).le)])), ((g 2), .inl (cI, 4, .inl (fun z9 => nI (pol z9)))), ((g 3), .inr (3, [.ref (g 4), .ref (g 5), .ref (g 6), .ref (g 7), .ref (g 8), .ref (g 9), .ref (g 10), .ref (g 11), .ref (g 12), .int (nI X.n)])), ((g 4), .inl (cI, 200, .inl (fun z9 => nI (X.pre z9)))), ((g 5), .inl (cI, 200, .inl (fun z9 => nI (X.len z9)))), ((g 6), .inl (cI, 200, .inl (fun z9 => pI (X.par z9)))), ((g 7), .inl (cI, 200, .inl (fun z9 => nI (X.lev z9)))), ((g 8), .inl (cI, 200, .inl (fun z9 => nI (X.hol z9)))), ((g 9), .inl (cI, 200, .inl (fun z9 => nI (X.sta z9)))), ((g 10), .inl (cI, 200, .inl (fun z9 => nI (X.en z9)))), ((g 11), .inl (cI, 200, .inl (fun z9 => pI (X.fc z9)))), ((g 12), .inl (cI, 200, .inl (fun z9 => pI (X.nx z9))))] := hD.sub (ws' := [((g 0), .inr (2, [.ref (g 3), .ref (g 1), .ref (g 2), .int (nI td), .int (nI qd)])), ((g 1), .inr (0, [.ref (g 3), .long ((wkS X L9 a9 (X.pre r + 2 ^ (32 - X.len r)) sa9 le9).at), .long ((wkS X L9 a9 (X.pre r + 2 ^ (32 - X.len r)) sa9 le9).en), .int ((wkS X L9 a9 (X.pre r + 2 ^ (32 - X.len r)) sa9 le9).ch), .long ((wkS X L9 a9 (X.pre r + 2 ^ (32 - X.len r)) sa9 le9).sa), .int ((wkS X L9 a9 (X.pre r + 2 ^ (32 - X.len r)) sa9 le9).le)])), ((g 2), .inl (cI, 4, .inl (fun z9 => nI (pol z9)))), ((g 3), .inr (3, [.ref (g 4), .ref (g 5), .ref (g 6), .ref (g 7), .ref (g 8), .ref (g 9), .ref (g 10), .ref (g 11), .ref (g 12), .int (nI X.n)])), ((g 4), .inl (cI, 200, .inl (fun z9 => nI (X.pre z9)))), ((g 5), .inl (cI, 200, .inl (fun z9 => nI (X.len z9)))), ((g 6), .inl (cI, 200, .inl (fun z9 => pI (X.par z9)))), ((g 7), .inl (cI, 200, .inl (fun z9 => nI (X.lev z9)))), ((g 8), .inl (cI, 200, .inl (fun z9 => nI (X.hol z9)))), ((g 9), .inl (cI, 200, .inl (fun z9 => nI (X.sta z9)))), ((g 10), .inl (cI, 200, .inl (fun z9 => nI (X.en z9)))), ((g 11), .inl (cI, 200, .inl (fun z9 => pI (X.fc z9)))), ((g 12), .inl (cI, 200, .inl (fun z9 => pI (X.nx z9))))]) [0, 2, 1, 3, 4, 5, 6, 7, 8, 9, 10, 11, 12] (by decide) rfl
    refine lv_if_eq hx hb d_Le_placeFor_33 rfl (fun _ => ?_) (fun h9 => absurd (bi_d.mpr hcb9) h9)
    refine lv_lload hx hb d_Le_placeFor_123 (lv_at hl 2 rfl) ?_
    have e9 : wkL X (X.pre r + 2 ^ (32 - X.len r)) L (X.pre r) wk.sa wk.le Bk = wkS X L9 a9 (X.pre r + 2 ^ (32 - X.len r)) sa9 le9 := hwk.symm
    have hP9 : va_P (dC, dI) classes (wLe cI g X pol td qd (wkL X (X.pre r + 2 ^ (32 - X.len r)) L (X.pre r) wk.sa wk.le Bk)) H := by rw [e9]; exact hP
    have hD9 : va_D A (wLe cI g X pol td qd (wkL X (X.pre r + 2 ^ (32 - X.len r)) L (X.pre r) wk.sa wk.le Bk)) := by rw [e9]; exact hD
    exact W.lret (v := (boI C)) hx hb hr (fun t ht hW => ⟨⟨(boI C), (), rfl, (by exact congrArg boI (show C = _ from hres)), by rw [ht]; exact hP9, va_K.moved hW.alike hK, hD9⟩, hS.F ht⟩) hS.2.2 d_Le_placeFor_125
  | cons x9 B9 ih =>
    obtain ⟨c1, c2, c3, c4, c5, hcb9⟩ := hcb9
    replace hiB : i + (B9.length + 1) < 1000000 := hiB
    have hx33 : x9.2 < 33 := by rw [c3]; exact bln_lt (by omega) (by omega) (by omega)
    replace hP : va_P (dC, dI) classes [((g 0), .inr (2, [.ref (g 3), .ref (g 1), .ref (g 2), .int (nI td), .int (nI qd)])), ((g 1), .inr (0, [.ref (g 3), .long (lN a9), .long (lN (X.pre r + 2 ^ (32 - X.len r))), .int (pI o9), .long sa9, .int le9])), ((g 2), .inl (cI, 4, .inl (fun z9 => nI (pol z9)))), ((g 3), .inr (3, [.ref (g 4), .ref (g 5), .ref (g 6), .ref (g 7), .ref (g 8), .ref (g 9), .ref (g 10), .ref (g 11), .ref (g 12), .int (nI X.n)])), ((g 4), .inl (cI, 200, .inl (fun z9 => nI (X.pre z9)))), ((g 5), .inl (cI, 200, .inl (fun z9 => nI (X.len z9)))), ((g 6), .inl (cI, 200, .inl (fun z9 => pI (X.par z9)))), ((g 7), .inl (cI, 200, .inl (fun z9 => nI (X.lev z9)))), ((g 8), .inl (cI, 200, .inl (fun z9 => nI (X.hol z9)))), ((g 9), .inl (cI, 200, .inl (fun z9 => nI (X.sta z9)))), ((g 10), .inl (cI, 200, .inl (fun z9 => nI (X.en z9)))), ((g 11), .inl (cI, 200, .inl (fun z9 => pI (X.fc z9)))), ((g 12), .inl (cI, 200, .inl (fun z9 => pI (X.nx z9))))] H := hP
    replace hD : va_D A [((g 0), .inr (2, [.ref (g 3), .ref (g 1), .ref (g 2), .int (nI td), .int (nI qd)])), ((g 1), .inr (0, [.ref (g 3), .long (lN a9), .long (lN (X.pre r + 2 ^ (32 - X.len r))), .int (pI o9), .long sa9, .int le9])), ((g 2), .inl (cI, 4, .inl (fun z9 => nI (pol z9)))), ((g 3), .inr (3, [.ref (g 4), .ref (g 5), .ref (g 6), .ref (g 7), .ref (g 8), .ref (g 9), .ref (g 10), .ref (g 11), .ref (g 12), .int (nI X.n)])), ((g 4), .inl (cI, 200, .inl (fun z9 => nI (X.pre z9)))), ((g 5), .inl (cI, 200, .inl (fun z9 => nI (X.len z9)))), ((g 6), .inl (cI, 200, .inl (fun z9 => pI (X.par z9)))), ((g 7), .inl (cI, 200, .inl (fun z9 => nI (X.lev z9)))), ((g 8), .inl (cI, 200, .inl (fun z9 => nI (X.hol z9)))), ((g 9), .inl (cI, 200, .inl (fun z9 => nI (X.sta z9)))), ((g 10), .inl (cI, 200, .inl (fun z9 => nI (X.en z9)))), ((g 11), .inl (cI, 200, .inl (fun z9 => pI (X.fc z9)))), ((g 12), .inl (cI, 200, .inl (fun z9 => pI (X.nx z9))))] := hD
    refine lv_iload hx hb d_Le_placeFor_19 (lv_at hl 0 rfl) ?_
    refine lv_ldc hx hb hown (hts _ kw_367) d_Le_placeFor_21 ?_
    refine lv_icmp_ge hx hb d_Le_placeFor_23 rfl (fun h9 => absurd h9 (nI_ge (b := 1000000) (by omega) (by decide))) (fun _ => ?_)
    refine lv_aload_n hx hb d_Le_placeFor_26 rfl (lv_at hl 3 rfl) ?_
    refine va_get (D := (dC, dI)) (ci := 2) (v := .ref (g 1)) (C := R_Le) (T := F_Le) (N := 5) hx hb hts u_Le hown hK hP 0 rfl rfl 1 (by decide) (hts _ kw_114) (fun _ h9 => h9) rfl d_Le_placeFor_27 ?_
    have hPc := hP.sub (ws' := (wBW cI (g 1) (g 3) (fun k => g (4 + k)) X (lN a9, lN (X.pre r + 2 ^ (32 - X.len r)), pI o9, sa9, le9))) [1, 3, 4, 5, 6, 7, 8, 9, 10, 11, 12] rfl
    have hDc := hD.sub (ws' := (wBW cI (g 1) (g 3) (fun k => g (4 + k)) X (lN a9, lN (X.pre r + 2 ^ (32 - X.len r)), pI o9, sa9, le9))) [1, 3, 4, 5, 6, 7, 8, 9, 10, 11, 12] (by decide) rfl
    have hFc := va_free (wc := (wBW cI (g 1) (g 3) (fun k => g (4 + k)) X (lN a9, lN (X.pre r + 2 ^ (32 - X.len r)), pI o9, sa9, le9))) hD hS hA [1, 3, 4, 5, 6, 7, 8, 9, 10, 11, 12] rfl
    refine va_calli (va_runV (b := (g 1)) (As := []) (rest := []) ⟨hx, hb, hml, hown, hts⟩ (c_BW_step l dC dI H.size cI (g 1) (g 3) (fun k => g (4 + k)) X hX a9 (X.pre r + 2 ^ (32 - X.len r)) o9 sa9 le9 L9 hC9 (fun k q => hLm9 k (chn_mem hC9 q)) hL9 ha9 he (fun K a8 q1 q2 => by rw [q1] at c4; rw [c2, q1] at c4; exact c4)) (cwV 0 hts (gV kw_368 kw_369 kw_370 kw_4 kw_371) rfl rfl rfl (by decide +kernel) ⟨Nat.le_of_ble_eq_true rfl, Nat.le_of_ble_eq_true rfl⟩) ⟨PcM.blind, va_recv (q0 := 0) hK hPc rfl rfl, PcM.use hPc hK hN hDc⟩ rfl rfl hl.1 rfl (lv_room (Nat.le_of_ble_eq_true rfl)) d_Le_placeFor_30 ⟨Nat.le_of_ble_eq_true rfl, Nat.le_of_ble_eq_true rfl⟩) hS (fun q _ h => hFc q h) hFc (fun r30 u9 H9 H1 locs hH9 hv9 hp9 hB hz1 hk1 hS => ?_)
    obtain rfl : r30 = (bi (decide ((stp X L9 a9).2 < (X.pre r + 2 ^ (32 - X.len r))))) := hp9
    obtain ⟨hP1, hK1, hD1⟩ := hB
    rw [hH9] at hP1
    obtain ⟨hP, hD⟩ := va_join (wr := [((g 0), .inr (2, [.ref (g 3), .ref (g 1), .ref (g 2), .int (nI td), .int (nI qd)])), ((g 2), .inl (cI, 4, .inl (fun z9 => nI (pol z9))))]) (w1 := (wBW cI (g 1) (g 3) (fun k => g (4 + k)) X (wkS X L9 a9 (X.pre r + 2 ^ (32 - X.len r)) sa9 le9))) hP hD [1, 3, 4, 5, 6, 7, 8, 9, 10, 11, 12] [0, 2] rfl rfl (by decide) (by decide) hk1 hFc hP1 hD1
    clear hPc hDc hFc hP1 hD1 hK1 hk1 hz1 hv9 hH9
    generalize H1 = H at hP hS ⊢
    replace hP : va_P (dC, dI) classes [((g 0), .inr (2, [.ref (g 3), .ref (g 1), .ref (g 2), .int (nI td), .int (nI qd)])), ((g 1), .inr (0, [.ref (g 3), .long ((wkS X L9 a9 (X.pre r + 2 ^ (32 - X.len r)) sa9 le9).at), .long ((wkS X L9 a9 (X.pre r + 2 ^ (32 - X.len r)) sa9 le9).en), .int ((wkS X L9 a9 (X.pre r + 2 ^ (32 - X.len r)) sa9 le9).ch), .long ((wkS X L9 a9 (X.pre r + 2 ^ (32 - X.len r)) sa9 le9).sa), .int ((wkS X L9 a9 (X.pre r + 2 ^ (32 - X.len r)) sa9 le9).le)])), ((g 2), .inl (cI, 4, .inl (fun z9 => nI (pol z9)))), ((g 3), .inr (3, [.ref (g 4), .ref (g 5), .ref (g 6), .ref (g 7), .ref (g 8), .ref (g 9), .ref (g 10), .ref (g 11), .ref (g 12), .int (nI X.n)])), ((g 4), .inl (cI, 200, .inl (fun z9 => nI (X.pre z9)))), ((g 5), .inl (cI, 200, .inl (fun z9 => nI (X.len z9)))), ((g 6), .inl (cI, 200, .inl (fun z9 => pI (X.par z9)))), ((g 7), .inl (cI, 200, .inl (fun z9 => nI (X.lev z9)))), ((g 8), .inl (cI, 200, .inl (fun z9 => nI (X.hol z9)))), ((g 9), .inl (cI, 200, .inl (fun z9 => nI (X.sta z9)))), ((g 10), .inl (cI, 200, .inl (fun z9 => nI (X.en z9)))), ((g 11), .inl (cI, 200, .inl (fun z9 => pI (X.fc z9)))), ((g 12), .inl (cI, 200, .inl (fun z9 => pI (X.nx z9))))] H := hP.sub (ws' := [((g 0), .inr (2, [.ref (g 3), .ref (g 1), .ref (g 2), .int (nI td), .int (nI qd)])), ((g 1), .inr (0, [.ref (g 3), .long ((wkS X L9 a9 (X.pre r + 2 ^ (32 - X.len r)) sa9 le9).at), .long ((wkS X L9 a9 (X.pre r + 2 ^ (32 - X.len r)) sa9 le9).en), .int ((wkS X L9 a9 (X.pre r + 2 ^ (32 - X.len r)) sa9 le9).ch), .long ((wkS X L9 a9 (X.pre r + 2 ^ (32 - X.len r)) sa9 le9).sa), .int ((wkS X L9 a9 (X.pre r + 2 ^ (32 - X.len r)) sa9 le9).le)])), ((g 2), .inl (cI, 4, .inl (fun z9 => nI (pol z9)))), ((g 3), .inr (3, [.ref (g 4), .ref (g 5), .ref (g 6), .ref (g 7), .ref (g 8), .ref (g 9), .ref (g 10), .ref (g 11), .ref (g 12), .int (nI X.n)])), ((g 4), .inl (cI, 200, .inl (fun z9 => nI (X.pre z9)))), ((g 5), .inl (cI, 200, .inl (fun z9 => nI (X.len z9)))), ((g 6), .inl (cI, 200, .inl (fun z9 => pI (X.par z9)))), ((g 7), .inl (cI, 200, .inl (fun z9 => nI (X.lev z9)))), ((g 8), .inl (cI, 200, .inl (fun z9 => nI (X.hol z9)))), ((g 9), .inl (cI, 200, .inl (fun z9 => nI (X.sta z9)))), ((g 10), .inl (cI, 200, .inl (fun z9 => nI (X.en z9)))), ((g 11), .inl (cI, 200, .inl (fun z9 => pI (X.fc z9)))), ((g 12), .inl (cI, 200, .inl (fun z9 => pI (X.nx z9))))]) [0, 2, 1, 3, 4, 5, 6, 7, 8, 9, 10, 11, 12] rfl
    replace hD : va_D A [((g 0), .inr (2, [.ref (g 3), .ref (g 1), .ref (g 2), .int (nI td), .int (nI qd)])), ((g 1), .inr (0, [.ref (g 3), .long ((wkS X L9 a9 (X.pre r + 2 ^ (32 - X.len r)) sa9 le9).at), .long ((wkS X L9 a9 (X.pre r + 2 ^ (32 - X.len r)) sa9 le9).en), .int ((wkS X L9 a9 (X.pre r + 2 ^ (32 - X.len r)) sa9 le9).ch), .long ((wkS X L9 a9 (X.pre r + 2 ^ (32 - X.len r)) sa9 le9).sa), .int ((wkS X L9 a9 (X.pre r + 2 ^ (32 - X.len r)) sa9 le9).le)])), ((g 2), .inl (cI, 4, .inl (fun z9 => nI (pol z9)))), ((g 3), .inr (3, [.ref (g 4), .ref (g 5), .ref (g 6), .ref (g 7), .ref (g 8), .ref (g 9), .ref (g 10), .ref (g 11), .ref (g 12), .int (nI X.n)])), ((g 4), .inl (cI, 200, .inl (fun z9 => nI (X.pre z9)))), ((g 5), .inl (cI, 200, .inl (fun z9 => nI (X.len z9)))), ((g 6), .inl (cI, 200, .inl (fun z9 => pI (X.par z9)))), ((g 7), .inl (cI, 200, .inl (fun z9 => nI (X.lev z9)))), ((g 8), .inl (cI, 200, .inl (fun z9 => nI (X.hol z9)))), ((g 9), .inl (cI, 200, .inl (fun z9 => nI (X.sta z9)))), ((g 10), .inl (cI, 200, .inl (fun z9 => nI (X.en z9)))), ((g 11), .inl (cI, 200, .inl (fun z9 => pI (X.fc z9)))), ((g 12), .inl (cI, 200, .inl (fun z9 => pI (X.nx z9))))] := hD.sub (ws' := [((g 0), .inr (2, [.ref (g 3), .ref (g 1), .ref (g 2), .int (nI td), .int (nI qd)])), ((g 1), .inr (0, [.ref (g 3), .long ((wkS X L9 a9 (X.pre r + 2 ^ (32 - X.len r)) sa9 le9).at), .long ((wkS X L9 a9 (X.pre r + 2 ^ (32 - X.len r)) sa9 le9).en), .int ((wkS X L9 a9 (X.pre r + 2 ^ (32 - X.len r)) sa9 le9).ch), .long ((wkS X L9 a9 (X.pre r + 2 ^ (32 - X.len r)) sa9 le9).sa), .int ((wkS X L9 a9 (X.pre r + 2 ^ (32 - X.len r)) sa9 le9).le)])), ((g 2), .inl (cI, 4, .inl (fun z9 => nI (pol z9)))), ((g 3), .inr (3, [.ref (g 4), .ref (g 5), .ref (g 6), .ref (g 7), .ref (g 8), .ref (g 9), .ref (g 10), .ref (g 11), .ref (g 12), .int (nI X.n)])), ((g 4), .inl (cI, 200, .inl (fun z9 => nI (X.pre z9)))), ((g 5), .inl (cI, 200, .inl (fun z9 => nI (X.len z9)))), ((g 6), .inl (cI, 200, .inl (fun z9 => pI (X.par z9)))), ((g 7), .inl (cI, 200, .inl (fun z9 => nI (X.lev z9)))), ((g 8), .inl (cI, 200, .inl (fun z9 => nI (X.hol z9)))), ((g 9), .inl (cI, 200, .inl (fun z9 => nI (X.sta z9)))), ((g 10), .inl (cI, 200, .inl (fun z9 => nI (X.en z9)))), ((g 11), .inl (cI, 200, .inl (fun z9 => pI (X.fc z9)))), ((g 12), .inl (cI, 200, .inl (fun z9 => pI (X.nx z9))))]) [0, 2, 1, 3, 4, 5, 6, 7, 8, 9, 10, 11, 12] (by decide) rfl
    replace hP : va_P (dC, dI) classes (wLe cI g X pol td qd (wkS X L9 a9 (X.pre r + 2 ^ (32 - X.len r)) sa9 le9)) H := hP
    replace hD : va_D A (wLe cI g X pol td qd (wkS X L9 a9 (X.pre r + 2 ^ (32 - X.len r)) sa9 le9)) := hD
    rw [wkS_pos c1 c2 c3] at hP hD
    replace hP : va_P (dC, dI) classes [((g 0), .inr (2, [.ref (g 3), .ref (g 1), .ref (g 2), .int (nI td), .int (nI qd)])), ((g 1), .inr (0, [.ref (g 3), .long (lN (x9.1 + 2 ^ (32 - x9.2))), .long (lN (X.pre r + 2 ^ (32 - X.len r))), .int (pI (stp X L9 a9).1.head?), .long (lN x9.1), .int (nI x9.2)])), ((g 2), .inl (cI, 4, .inl (fun z9 => nI (pol z9)))), ((g 3), .inr (3, [.ref (g 4), .ref (g 5), .ref (g 6), .ref (g 7), .ref (g 8), .ref (g 9), .ref (g 10), .ref (g 11), .ref (g 12), .int (nI X.n)])), ((g 4), .inl (cI, 200, .inl (fun z9 => nI (X.pre z9)))), ((g 5), .inl (cI, 200, .inl (fun z9 => nI (X.len z9)))), ((g 6), .inl (cI, 200, .inl (fun z9 => pI (X.par z9)))), ((g 7), .inl (cI, 200, .inl (fun z9 => nI (X.lev z9)))), ((g 8), .inl (cI, 200, .inl (fun z9 => nI (X.hol z9)))), ((g 9), .inl (cI, 200, .inl (fun z9 => nI (X.sta z9)))), ((g 10), .inl (cI, 200, .inl (fun z9 => nI (X.en z9)))), ((g 11), .inl (cI, 200, .inl (fun z9 => pI (X.fc z9)))), ((g 12), .inl (cI, 200, .inl (fun z9 => pI (X.nx z9))))] H := hP
    replace hD : va_D A [((g 0), .inr (2, [.ref (g 3), .ref (g 1), .ref (g 2), .int (nI td), .int (nI qd)])), ((g 1), .inr (0, [.ref (g 3), .long (lN (x9.1 + 2 ^ (32 - x9.2))), .long (lN (X.pre r + 2 ^ (32 - X.len r))), .int (pI (stp X L9 a9).1.head?), .long (lN x9.1), .int (nI x9.2)])), ((g 2), .inl (cI, 4, .inl (fun z9 => nI (pol z9)))), ((g 3), .inr (3, [.ref (g 4), .ref (g 5), .ref (g 6), .ref (g 7), .ref (g 8), .ref (g 9), .ref (g 10), .ref (g 11), .ref (g 12), .int (nI X.n)])), ((g 4), .inl (cI, 200, .inl (fun z9 => nI (X.pre z9)))), ((g 5), .inl (cI, 200, .inl (fun z9 => nI (X.len z9)))), ((g 6), .inl (cI, 200, .inl (fun z9 => pI (X.par z9)))), ((g 7), .inl (cI, 200, .inl (fun z9 => nI (X.lev z9)))), ((g 8), .inl (cI, 200, .inl (fun z9 => nI (X.hol z9)))), ((g 9), .inl (cI, 200, .inl (fun z9 => nI (X.sta z9)))), ((g 10), .inl (cI, 200, .inl (fun z9 => nI (X.en z9)))), ((g 11), .inl (cI, 200, .inl (fun z9 => pI (X.fc z9)))), ((g 12), .inl (cI, 200, .inl (fun z9 => pI (X.nx z9))))] := hD
    refine lv_if_eq hx hb d_Le_placeFor_33 rfl (fun h9 => absurd h9 (fun q => bi_d.mp q c1)) (fun _ => ?_)
    cases C with
    | none =>
      replace hl : lv_has ls 9 [(7, .int (nI i)), (6, .int (blI none)), (4, .long (boI none)), (0, .ref (g 0)), (1, .int (nI r)), (2, .int (nI n)), (3, .int (bi u))] := hl
      refine lv_lload hx hb d_Le_placeFor_36 (lv_at hl 2 rfl) ?_
      refine lv_ldc2 hx hb hown (hts _ kw_360) d_Le_placeFor_38 ?_
      refine W.lcmp hx hb d_Le_placeFor_41 ?_
      refine lv_if_eq hx hb d_Le_placeFor_42 rfl (fun _ => ?_) (fun h9 => absurd (by decide) h9)
      refine lv_iconst (v := 1) hx hb d_Le_placeFor_76 (by decide) ?_
      refine x_topi (y := (bi true)) rfl ?_
      refine lv_goto hx hb d_Le_placeFor_77 rfl ?_
      refine lv_istore hx hb d_Le_placeFor_81 hl (by decide) rfl (fun ls hl => ?_)
      replace hl : lv_has ls 9 [(8, .int (bi true)), (7, .int (nI i)), (6, .int (blI none)), (4, .long (boI none)), (0, .ref (g 0)), (1, .int (nI r)), (2, .int (nI n)), (3, .int (bi u))] := hl
      refine lv_aload_n hx hb d_Le_placeFor_83 rfl (lv_at hl 4 rfl) ?_
      refine va_get (D := (dC, dI)) (ci := 2) (v := .ref (g 1)) (C := R_Le) (T := F_Le) (N := 5) hx hb hts u_Le hown hK hP 0 rfl rfl 1 (by decide) (hts _ kw_114) (fun _ h9 => h9) rfl d_Le_placeFor_84 ?_
      refine va_getN (D := (dC, dI)) (ci := 0) (v := .int (nI x9.2)) (C := R_BW) (T := F_BW) (N := 6) hx hb hts u_BW hown hK hP 1 rfl rfl 5 (by decide) (va_Nw.use rfl (hN.at 97 nw_97 rfl)) (fun _ h9 => h9) rfl d_Le_placeFor_87 ?_
      refine lv_iload_n hx hb d_Le_placeFor_90 rfl (lv_at hl 6 rfl) ?_
      refine lv_icmp_gt hx hb d_Le_placeFor_91 rfl (fun h91 => ?_) (fun h91 => ?_)
      · have h91 := (nI_ltI (by omega) (by omega)).mp h91
        refine lv_iinc hx hb d_Le_placeFor_117 hl (k := 1) (v := (nI (i + 1))) rfl (nI_1 i) (by decide) rfl (fun ls hl => ?_)
        replace hl : lv_has ls 9 [(7, .int (nI (i + 1))), (8, .int (bi true)), (6, .int (blI none)), (4, .long (boI none)), (0, .ref (g 0)), (1, .int (nI r)), (2, .int (nI n)), (3, .int (bi u))] := hl
        refine lv_goto hx hb d_Le_placeFor_120 rfl ?_
        replace hP : va_P (dC, dI) classes (wLe cI g X pol td qd (lN (x9.1 + 2 ^ (32 - x9.2)), lN (X.pre r + 2 ^ (32 - X.len r)), pI (stp X L9 a9).1.head?, (lN x9.1), (nI x9.2))) H := hP
        replace hD : va_D A (wLe cI g X pol td qd (lN (x9.1 + 2 ^ (32 - x9.2)), lN (X.pre r + 2 ^ (32 - X.len r)), pI (stp X L9 a9).1.head?, (lN x9.1), (nI x9.2))) := hD
        replace hl : lv_has ls 9 [(7, .int (nI (i + 1))), (8, .int (bi true)), (6, .int (blI none)), (4, .long (boI none)), (0, .ref (g 0)), (1, .int (nI r)), (2, .int (nI n)), (3, .int (bi u))] := hl
        refine ih _ _ _ _ _ _ _ _ _ _ hcb9 (stp_chn hC9 a9) (fun j q => hLm9 j (stp_mem q)) (Nat.le_trans (stp_len _ _ _) hL9) c5 ?_ ?_ ?_ ?_ hP hD hS (lv_sub hl [0, 2, 3, 4, 5, 6, 7] rfl)
        · omega
        · exact (by rw [← hres]; exact congrArg (List.foldl (chS u n) · B9) (show _ = chS u n _ x9 by unfold chS; rw [if_neg (fun q => by omega)]))
        · exact hCb
        · exact hwk
      have h91 := mt (nI_ltI (by omega) (by omega)).mpr h91
      refine lv_iload hx hb d_Le_placeFor_94 (lv_at hl 0 rfl) ?_
      refine lv_if_eq hx hb d_Le_placeFor_96 rfl (fun h9 => absurd h9 (by decide)) (fun _ => ?_)
      refine lv_aload_n hx hb d_Le_placeFor_99 rfl (lv_at hl 4 rfl) ?_
      refine va_get (D := (dC, dI)) (ci := 2) (v := .ref (g 1)) (C := R_Le) (T := F_Le) (N := 5) hx hb hts u_Le hown hK hP 0 rfl rfl 1 (by decide) (hts _ kw_114) (fun _ h9 => h9) rfl d_Le_placeFor_100 ?_
      refine va_getN (D := (dC, dI)) (ci := 0) (v := .long (lN x9.1)) (C := R_BW) (T := F_BW) (N := 6) hx hb hts u_BW hown hK hP 1 rfl rfl 4 (by decide) (va_Nw.use rfl (hN.at 94 nw_94 rfl)) (fun _ h9 => h9) rfl d_Le_placeFor_103 ?_
      refine lv_lstore hx hb d_Le_placeFor_106 hl (by decide) rfl (fun ls hl => ?_)
      replace hl : lv_has ls 9 [(4, .long (lN x9.1)), (8, .int (bi true)), (7, .int (nI i)), (6, .int (blI none)), (0, .ref (g 0)), (1, .int (nI r)), (2, .int (nI n)), (3, .int (bi u))] := hl
      refine lv_aload_n hx hb d_Le_placeFor_108 rfl (lv_at hl 4 rfl) ?_
      refine va_get (D := (dC, dI)) (ci := 2) (v := .ref (g 1)) (C := R_Le) (T := F_Le) (N := 5) hx hb hts u_Le hown hK hP 0 rfl rfl 1 (by decide) (hts _ kw_114) (fun _ h9 => h9) rfl d_Le_placeFor_109 ?_
      refine va_getN (D := (dC, dI)) (ci := 0) (v := .int (nI x9.2)) (C := R_BW) (T := F_BW) (N := 6) hx hb hts u_BW hown hK hP 1 rfl rfl 5 (by decide) (va_Nw.use rfl (hN.at 97 nw_97 rfl)) (fun _ h9 => h9) rfl d_Le_placeFor_112 ?_
      refine lv_istore hx hb d_Le_placeFor_115 hl (by decide) rfl (fun ls hl => ?_)
      replace hl : lv_has ls 9 [(6, .int (nI x9.2)), (4, .long (lN x9.1)), (8, .int (bi true)), (7, .int (nI i)), (0, .ref (g 0)), (1, .int (nI r)), (2, .int (nI n)), (3, .int (bi u))] := hl
      refine lv_iinc hx hb d_Le_placeFor_117 hl (k := 3) (v := (nI (i + 1))) rfl (nI_1 i) (by decide) rfl (fun ls hl => ?_)
      replace hl : lv_has ls 9 [(7, .int (nI (i + 1))), (6, .int (nI x9.2)), (4, .long (lN x9.1)), (8, .int (bi true)), (0, .ref (g 0)), (1, .int (nI r)), (2, .int (nI n)), (3, .int (bi u))] := hl
      refine lv_goto hx hb d_Le_placeFor_120 rfl ?_
      replace hP : va_P (dC, dI) classes (wLe cI g X pol td qd (lN (x9.1 + 2 ^ (32 - x9.2)), lN (X.pre r + 2 ^ (32 - X.len r)), pI (stp X L9 a9).1.head?, (lN x9.1), (nI x9.2))) H := hP
      replace hD : va_D A (wLe cI g X pol td qd (lN (x9.1 + 2 ^ (32 - x9.2)), lN (X.pre r + 2 ^ (32 - X.len r)), pI (stp X L9 a9).1.head?, (lN x9.1), (nI x9.2))) := hD
      replace hl : lv_has ls 9 [(7, .int (nI (i + 1))), (6, .int (blI (some x9))), (4, .long (boI (some x9))), (8, .int (bi true)), (0, .ref (g 0)), (1, .int (nI r)), (2, .int (nI n)), (3, .int (bi u))] := hl
      refine ih _ _ _ _ _ _ _ _ _ _ hcb9 (stp_chn hC9 a9) (fun j q => hLm9 j (stp_mem q)) (Nat.le_trans (stp_len _ _ _) hL9) c5 ?_ ?_ ?_ ?_ hP hD hS (lv_sub hl [0, 1, 2, 4, 5, 6, 7] rfl)
      · omega
      · exact (by rw [← hres]; exact congrArg (List.foldl (chS u n) · B9) (show some x9 = chS u n _ x9 by unfold chS; rw [if_pos ⟨by omega, rfl⟩]))
      · exact (by intro y q; cases q; exact ⟨hx33, by omega⟩)
      · exact hwk
    | some y9 =>
      have hy9 := hCb y9 rfl
      replace hl : lv_has ls 9 [(7, .int (nI i)), (6, .int (nI y9.2)), (4, .long (lN y9.1)), (0, .ref (g 0)), (1, .int (nI r)), (2, .int (nI n)), (3, .int (bi u))] := hl
      refine lv_lload hx hb d_Le_placeFor_36 (lv_at hl 2 rfl) ?_
      refine lv_ldc2 hx hb hown (hts _ kw_360) d_Le_placeFor_38 ?_
      refine W.lcmp hx hb d_Le_placeFor_41 ?_
      refine lv_if_eq hx hb d_Le_placeFor_42 rfl (fun h9 => absurd h9 (k_cm1 (by omega))) (fun _ => ?_)
      refine lv_iload_n hx hb d_Le_placeFor_45 rfl (lv_at hl 6 rfl) ?_
      refine lv_if_eq hx hb d_Le_placeFor_46 rfl (fun h46 => ?_) (fun h46 => ?_)
      · have h46 : u = false := bi_eq0.mp h46
        refine lv_aload_n hx hb d_Le_placeFor_64 rfl (lv_at hl 3 rfl) ?_
        refine va_get (D := (dC, dI)) (ci := 2) (v := .ref (g 1)) (C := R_Le) (T := F_Le) (N := 5) hx hb hts u_Le hown hK hP 0 rfl rfl 1 (by decide) (hts _ kw_114) (fun _ h9 => h9) rfl d_Le_placeFor_65 ?_
        refine va_getN (D := (dC, dI)) (ci := 0) (v := .int (nI x9.2)) (C := R_BW) (T := F_BW) (N := 6) hx hb hts u_BW hown hK hP 1 rfl rfl 5 (by decide) (va_Nw.use rfl (hN.at 97 nw_97 rfl)) (fun _ h9 => h9) rfl d_Le_placeFor_68 ?_
        refine lv_iload hx hb d_Le_placeFor_71 (lv_at hl 1 rfl) ?_
        refine lv_icmp_le hx hb d_Le_placeFor_73 rfl (fun h73 => ?_) (fun h73 => ?_)
        · have h73 := (nI_leI (by omega) (by omega)).mp h73
          refine lv_iconst (v := 0) hx hb d_Le_placeFor_80 (by decide) ?_
          refine x_topi (y := (bi false)) rfl ?_
          refine lv_istore hx hb d_Le_placeFor_81 hl (by decide) rfl (fun ls hl => ?_)
          replace hl : lv_has ls 9 [(8, .int (bi false)), (7, .int (nI i)), (6, .int (nI y9.2)), (4, .long (lN y9.1)), (0, .ref (g 0)), (1, .int (nI r)), (2, .int (nI n)), (3, .int (bi u))] := hl
          refine lv_aload_n hx hb d_Le_placeFor_83 rfl (lv_at hl 4 rfl) ?_
          refine va_get (D := (dC, dI)) (ci := 2) (v := .ref (g 1)) (C := R_Le) (T := F_Le) (N := 5) hx hb hts u_Le hown hK hP 0 rfl rfl 1 (by decide) (hts _ kw_114) (fun _ h9 => h9) rfl d_Le_placeFor_84 ?_
          refine va_getN (D := (dC, dI)) (ci := 0) (v := .int (nI x9.2)) (C := R_BW) (T := F_BW) (N := 6) hx hb hts u_BW hown hK hP 1 rfl rfl 5 (by decide) (va_Nw.use rfl (hN.at 97 nw_97 rfl)) (fun _ h9 => h9) rfl d_Le_placeFor_87 ?_
          refine lv_iload_n hx hb d_Le_placeFor_90 rfl (lv_at hl 6 rfl) ?_
          refine lv_icmp_gt hx hb d_Le_placeFor_91 rfl (fun h91 => ?_) (fun h91 => ?_)
          · have h91 := (nI_ltI (by omega) (by omega)).mp h91
            refine lv_iinc hx hb d_Le_placeFor_117 hl (k := 1) (v := (nI (i + 1))) rfl (nI_1 i) (by decide) rfl (fun ls hl => ?_)
            replace hl : lv_has ls 9 [(7, .int (nI (i + 1))), (8, .int (bi false)), (6, .int (nI y9.2)), (4, .long (lN y9.1)), (0, .ref (g 0)), (1, .int (nI r)), (2, .int (nI n)), (3, .int (bi u))] := hl
            refine lv_goto hx hb d_Le_placeFor_120 rfl ?_
            replace hP : va_P (dC, dI) classes (wLe cI g X pol td qd (lN (x9.1 + 2 ^ (32 - x9.2)), lN (X.pre r + 2 ^ (32 - X.len r)), pI (stp X L9 a9).1.head?, (lN x9.1), (nI x9.2))) H := hP
            replace hD : va_D A (wLe cI g X pol td qd (lN (x9.1 + 2 ^ (32 - x9.2)), lN (X.pre r + 2 ^ (32 - X.len r)), pI (stp X L9 a9).1.head?, (lN x9.1), (nI x9.2))) := hD
            replace hl : lv_has ls 9 [(7, .int (nI (i + 1))), (8, .int (bi false)), (6, .int (blI (some y9))), (4, .long (boI (some y9))), (0, .ref (g 0)), (1, .int (nI r)), (2, .int (nI n)), (3, .int (bi u))] := hl
            refine ih _ _ _ _ _ _ _ _ _ _ hcb9 (stp_chn hC9 a9) (fun j q => hLm9 j (stp_mem q)) (Nat.le_trans (stp_len _ _ _) hL9) c5 ?_ ?_ ?_ ?_ hP hD hS (lv_sub hl [0, 2, 3, 4, 5, 6, 7] rfl)
            · omega
            · exact (by rw [← hres]; exact congrArg (List.foldl (chS u n) · B9) (show _ = chS u n _ x9 by unfold chS; rw [if_neg (fun q => by omega)]))
            · exact hCb
            · exact hwk
          have h91 := mt (nI_ltI (by omega) (by omega)).mpr h91
          refine lv_iload hx hb d_Le_placeFor_94 (lv_at hl 0 rfl) ?_
          refine lv_if_eq hx hb d_Le_placeFor_96 rfl (fun _ => ?_) (fun h9 => absurd rfl h9)
          refine lv_iinc hx hb d_Le_placeFor_117 hl (k := 1) (v := (nI (i + 1))) rfl (nI_1 i) (by decide) rfl (fun ls hl => ?_)
          replace hl : lv_has ls 9 [(7, .int (nI (i + 1))), (8, .int (bi false)), (6, .int (nI y9.2)), (4, .long (lN y9.1)), (0, .ref (g 0)), (1, .int (nI r)), (2, .int (nI n)), (3, .int (bi u))] := hl
          refine lv_goto hx hb d_Le_placeFor_120 rfl ?_
          replace hP : va_P (dC, dI) classes (wLe cI g X pol td qd (lN (x9.1 + 2 ^ (32 - x9.2)), lN (X.pre r + 2 ^ (32 - X.len r)), pI (stp X L9 a9).1.head?, (lN x9.1), (nI x9.2))) H := hP
          replace hD : va_D A (wLe cI g X pol td qd (lN (x9.1 + 2 ^ (32 - x9.2)), lN (X.pre r + 2 ^ (32 - X.len r)), pI (stp X L9 a9).1.head?, (lN x9.1), (nI x9.2))) := hD
          replace hl : lv_has ls 9 [(7, .int (nI (i + 1))), (8, .int (bi false)), (6, .int (blI (some y9))), (4, .long (boI (some y9))), (0, .ref (g 0)), (1, .int (nI r)), (2, .int (nI n)), (3, .int (bi u))] := hl
          refine ih _ _ _ _ _ _ _ _ _ _ hcb9 (stp_chn hC9 a9) (fun j q => hLm9 j (stp_mem q)) (Nat.le_trans (stp_len _ _ _) hL9) c5 ?_ ?_ ?_ ?_ hP hD hS (lv_sub hl [0, 2, 3, 4, 5, 6, 7] rfl)
          · omega
          · exact (by rw [← hres]; exact congrArg (List.foldl (chS u n) · B9) (show _ = chS u n _ x9 by unfold chS; rw [if_neg (fun q => absurd q.2 (by rw [(show btr u (some y9) x9 = false by rw [h46]; exact decide_eq_false (by omega))]; decide))]))
          · exact hCb
          · exact hwk
        have h73 := mt (nI_leI (by omega) (by omega)).mpr h73
        refine lv_iconst (v := 1) hx hb d_Le_placeFor_76 (by decide) ?_
        refine x_topi (y := (bi true)) rfl ?_
        refine lv_goto hx hb d_Le_placeFor_77 rfl ?_
        refine lv_istore hx hb d_Le_placeFor_81 hl (by decide) rfl (fun ls hl => ?_)
        replace hl : lv_has ls 9 [(8, .int (bi true)), (7, .int (nI i)), (6, .int (nI y9.2)), (4, .long (lN y9.1)), (0, .ref (g 0)), (1, .int (nI r)), (2, .int (nI n)), (3, .int (bi u))] := hl
        refine lv_aload_n hx hb d_Le_placeFor_83 rfl (lv_at hl 4 rfl) ?_
        refine va_get (D := (dC, dI)) (ci := 2) (v := .ref (g 1)) (C := R_Le) (T := F_Le) (N := 5) hx hb hts u_Le hown hK hP 0 rfl rfl 1 (by decide) (hts _ kw_114) (fun _ h9 => h9) rfl d_Le_placeFor_84 ?_
        refine va_getN (D := (dC, dI)) (ci := 0) (v := .int (nI x9.2)) (C := R_BW) (T := F_BW) (N := 6) hx hb hts u_BW hown hK hP 1 rfl rfl 5 (by decide) (va_Nw.use rfl (hN.at 97 nw_97 rfl)) (fun _ h9 => h9) rfl d_Le_placeFor_87 ?_
        refine lv_iload_n hx hb d_Le_placeFor_90 rfl (lv_at hl 6 rfl) ?_
        refine lv_icmp_gt hx hb d_Le_placeFor_91 rfl (fun h91 => ?_) (fun h91 => ?_)
        · have h91 := (nI_ltI (by omega) (by omega)).mp h91
          refine lv_iinc hx hb d_Le_placeFor_117 hl (k := 1) (v := (nI (i + 1))) rfl (nI_1 i) (by decide) rfl (fun ls hl => ?_)
          replace hl : lv_has ls 9 [(7, .int (nI (i + 1))), (8, .int (bi true)), (6, .int (nI y9.2)), (4, .long (lN y9.1)), (0, .ref (g 0)), (1, .int (nI r)), (2, .int (nI n)), (3, .int (bi u))] := hl
          refine lv_goto hx hb d_Le_placeFor_120 rfl ?_
          replace hP : va_P (dC, dI) classes (wLe cI g X pol td qd (lN (x9.1 + 2 ^ (32 - x9.2)), lN (X.pre r + 2 ^ (32 - X.len r)), pI (stp X L9 a9).1.head?, (lN x9.1), (nI x9.2))) H := hP
          replace hD : va_D A (wLe cI g X pol td qd (lN (x9.1 + 2 ^ (32 - x9.2)), lN (X.pre r + 2 ^ (32 - X.len r)), pI (stp X L9 a9).1.head?, (lN x9.1), (nI x9.2))) := hD
          replace hl : lv_has ls 9 [(7, .int (nI (i + 1))), (8, .int (bi true)), (6, .int (blI (some y9))), (4, .long (boI (some y9))), (0, .ref (g 0)), (1, .int (nI r)), (2, .int (nI n)), (3, .int (bi u))] := hl
          refine ih _ _ _ _ _ _ _ _ _ _ hcb9 (stp_chn hC9 a9) (fun j q => hLm9 j (stp_mem q)) (Nat.le_trans (stp_len _ _ _) hL9) c5 ?_ ?_ ?_ ?_ hP hD hS (lv_sub hl [0, 2, 3, 4, 5, 6, 7] rfl)
          · omega
          · exact (by rw [← hres]; exact congrArg (List.foldl (chS u n) · B9) (show _ = chS u n _ x9 by unfold chS; rw [if_neg (fun q => by omega)]))
          · exact hCb
          · exact hwk
        have h91 := mt (nI_ltI (by omega) (by omega)).mpr h91
        refine lv_iload hx hb d_Le_placeFor_94 (lv_at hl 0 rfl) ?_
        refine lv_if_eq hx hb d_Le_placeFor_96 rfl (fun h9 => absurd h9 (by decide)) (fun _ => ?_)
        refine lv_aload_n hx hb d_Le_placeFor_99 rfl (lv_at hl 4 rfl) ?_
        refine va_get (D := (dC, dI)) (ci := 2) (v := .ref (g 1)) (C := R_Le) (T := F_Le) (N := 5) hx hb hts u_Le hown hK hP 0 rfl rfl 1 (by decide) (hts _ kw_114) (fun _ h9 => h9) rfl d_Le_placeFor_100 ?_
        refine va_getN (D := (dC, dI)) (ci := 0) (v := .long (lN x9.1)) (C := R_BW) (T := F_BW) (N := 6) hx hb hts u_BW hown hK hP 1 rfl rfl 4 (by decide) (va_Nw.use rfl (hN.at 94 nw_94 rfl)) (fun _ h9 => h9) rfl d_Le_placeFor_103 ?_
        refine lv_lstore hx hb d_Le_placeFor_106 hl (by decide) rfl (fun ls hl => ?_)
        replace hl : lv_has ls 9 [(4, .long (lN x9.1)), (8, .int (bi true)), (7, .int (nI i)), (6, .int (nI y9.2)), (0, .ref (g 0)), (1, .int (nI r)), (2, .int (nI n)), (3, .int (bi u))] := hl
        refine lv_aload_n hx hb d_Le_placeFor_108 rfl (lv_at hl 4 rfl) ?_
        refine va_get (D := (dC, dI)) (ci := 2) (v := .ref (g 1)) (C := R_Le) (T := F_Le) (N := 5) hx hb hts u_Le hown hK hP 0 rfl rfl 1 (by decide) (hts _ kw_114) (fun _ h9 => h9) rfl d_Le_placeFor_109 ?_
        refine va_getN (D := (dC, dI)) (ci := 0) (v := .int (nI x9.2)) (C := R_BW) (T := F_BW) (N := 6) hx hb hts u_BW hown hK hP 1 rfl rfl 5 (by decide) (va_Nw.use rfl (hN.at 97 nw_97 rfl)) (fun _ h9 => h9) rfl d_Le_placeFor_112 ?_
        refine lv_istore hx hb d_Le_placeFor_115 hl (by decide) rfl (fun ls hl => ?_)
        replace hl : lv_has ls 9 [(6, .int (nI x9.2)), (4, .long (lN x9.1)), (8, .int (bi true)), (7, .int (nI i)), (0, .ref (g 0)), (1, .int (nI r)), (2, .int (nI n)), (3, .int (bi u))] := hl
        refine lv_iinc hx hb d_Le_placeFor_117 hl (k := 3) (v := (nI (i + 1))) rfl (nI_1 i) (by decide) rfl (fun ls hl => ?_)
        replace hl : lv_has ls 9 [(7, .int (nI (i + 1))), (6, .int (nI x9.2)), (4, .long (lN x9.1)), (8, .int (bi true)), (0, .ref (g 0)), (1, .int (nI r)), (2, .int (nI n)), (3, .int (bi u))] := hl
        refine lv_goto hx hb d_Le_placeFor_120 rfl ?_
        replace hP : va_P (dC, dI) classes (wLe cI g X pol td qd (lN (x9.1 + 2 ^ (32 - x9.2)), lN (X.pre r + 2 ^ (32 - X.len r)), pI (stp X L9 a9).1.head?, (lN x9.1), (nI x9.2))) H := hP
        replace hD : va_D A (wLe cI g X pol td qd (lN (x9.1 + 2 ^ (32 - x9.2)), lN (X.pre r + 2 ^ (32 - X.len r)), pI (stp X L9 a9).1.head?, (lN x9.1), (nI x9.2))) := hD
        replace hl : lv_has ls 9 [(7, .int (nI (i + 1))), (6, .int (blI (some x9))), (4, .long (boI (some x9))), (8, .int (bi true)), (0, .ref (g 0)), (1, .int (nI r)), (2, .int (nI n)), (3, .int (bi u))] := hl
        refine ih _ _ _ _ _ _ _ _ _ _ hcb9 (stp_chn hC9 a9) (fun j q => hLm9 j (stp_mem q)) (Nat.le_trans (stp_len _ _ _) hL9) c5 ?_ ?_ ?_ ?_ hP hD hS (lv_sub hl [0, 1, 2, 4, 5, 6, 7] rfl)
        · omega
        · exact (by rw [← hres]; exact congrArg (List.foldl (chS u n) · B9) (show some x9 = chS u n _ x9 by unfold chS; rw [if_pos ⟨by omega, (show btr u (some y9) x9 = true by rw [h46]; exact decide_eq_true (by omega))⟩]))
        · exact (by intro y q; cases q; exact ⟨hx33, by omega⟩)
        · exact hwk
      have h46 : u = true := bi_n0 h46
      refine lv_aload_n hx hb d_Le_placeFor_49 rfl (lv_at hl 3 rfl) ?_
      refine va_get (D := (dC, dI)) (ci := 2) (v := .ref (g 1)) (C := R_Le) (T := F_Le) (N := 5) hx hb hts u_Le hown hK hP 0 rfl rfl 1 (by decide) (hts _ kw_114) (fun _ h9 => h9) rfl d_Le_placeFor_50 ?_
      refine va_getN (D := (dC, dI)) (ci := 0) (v := .int (nI x9.2)) (C := R_BW) (T := F_BW) (N := 6) hx hb hts u_BW hown hK hP 1 rfl rfl 5 (by decide) (va_Nw.use rfl (hN.at 97 nw_97 rfl)) (fun _ h9 => h9) rfl d_Le_placeFor_53 ?_
      refine lv_iload hx hb d_Le_placeFor_56 (lv_at hl 1 rfl) ?_
      refine lv_icmp_ge hx hb d_Le_placeFor_58 rfl (fun h58 => ?_) (fun h58 => ?_)
      · have h58 := (nI_leI (by omega) (by omega)).mp h58
        refine lv_iconst (v := 0) hx hb d_Le_placeFor_80 (by decide) ?_
        refine x_topi (y := (bi false)) rfl ?_
        refine lv_istore hx hb d_Le_placeFor_81 hl (by decide) rfl (fun ls hl => ?_)
        replace hl : lv_has ls 9 [(8, .int (bi false)), (7, .int (nI i)), (6, .int (nI y9.2)), (4, .long (lN y9.1)), (0, .ref (g 0)), (1, .int (nI r)), (2, .int (nI n)), (3, .int (bi u))] := hl
        refine lv_aload_n hx hb d_Le_placeFor_83 rfl (lv_at hl 4 rfl) ?_
        refine va_get (D := (dC, dI)) (ci := 2) (v := .ref (g 1)) (C := R_Le) (T := F_Le) (N := 5) hx hb hts u_Le hown hK hP 0 rfl rfl 1 (by decide) (hts _ kw_114) (fun _ h9 => h9) rfl d_Le_placeFor_84 ?_
        refine va_getN (D := (dC, dI)) (ci := 0) (v := .int (nI x9.2)) (C := R_BW) (T := F_BW) (N := 6) hx hb hts u_BW hown hK hP 1 rfl rfl 5 (by decide) (va_Nw.use rfl (hN.at 97 nw_97 rfl)) (fun _ h9 => h9) rfl d_Le_placeFor_87 ?_
        refine lv_iload_n hx hb d_Le_placeFor_90 rfl (lv_at hl 6 rfl) ?_
        refine lv_icmp_gt hx hb d_Le_placeFor_91 rfl (fun h91 => ?_) (fun h91 => ?_)
        · have h91 := (nI_ltI (by omega) (by omega)).mp h91
          refine lv_iinc hx hb d_Le_placeFor_117 hl (k := 1) (v := (nI (i + 1))) rfl (nI_1 i) (by decide) rfl (fun ls hl => ?_)
          replace hl : lv_has ls 9 [(7, .int (nI (i + 1))), (8, .int (bi false)), (6, .int (nI y9.2)), (4, .long (lN y9.1)), (0, .ref (g 0)), (1, .int (nI r)), (2, .int (nI n)), (3, .int (bi u))] := hl
          refine lv_goto hx hb d_Le_placeFor_120 rfl ?_
          replace hP : va_P (dC, dI) classes (wLe cI g X pol td qd (lN (x9.1 + 2 ^ (32 - x9.2)), lN (X.pre r + 2 ^ (32 - X.len r)), pI (stp X L9 a9).1.head?, (lN x9.1), (nI x9.2))) H := hP
          replace hD : va_D A (wLe cI g X pol td qd (lN (x9.1 + 2 ^ (32 - x9.2)), lN (X.pre r + 2 ^ (32 - X.len r)), pI (stp X L9 a9).1.head?, (lN x9.1), (nI x9.2))) := hD
          replace hl : lv_has ls 9 [(7, .int (nI (i + 1))), (8, .int (bi false)), (6, .int (blI (some y9))), (4, .long (boI (some y9))), (0, .ref (g 0)), (1, .int (nI r)), (2, .int (nI n)), (3, .int (bi u))] := hl
          refine ih _ _ _ _ _ _ _ _ _ _ hcb9 (stp_chn hC9 a9) (fun j q => hLm9 j (stp_mem q)) (Nat.le_trans (stp_len _ _ _) hL9) c5 ?_ ?_ ?_ ?_ hP hD hS (lv_sub hl [0, 2, 3, 4, 5, 6, 7] rfl)
          · omega
          · exact (by rw [← hres]; exact congrArg (List.foldl (chS u n) · B9) (show _ = chS u n _ x9 by unfold chS; rw [if_neg (fun q => by omega)]))
          · exact hCb
          · exact hwk
        have h91 := mt (nI_ltI (by omega) (by omega)).mpr h91
        refine lv_iload hx hb d_Le_placeFor_94 (lv_at hl 0 rfl) ?_
        refine lv_if_eq hx hb d_Le_placeFor_96 rfl (fun _ => ?_) (fun h9 => absurd rfl h9)
        refine lv_iinc hx hb d_Le_placeFor_117 hl (k := 1) (v := (nI (i + 1))) rfl (nI_1 i) (by decide) rfl (fun ls hl => ?_)
        replace hl : lv_has ls 9 [(7, .int (nI (i + 1))), (8, .int (bi false)), (6, .int (nI y9.2)), (4, .long (lN y9.1)), (0, .ref (g 0)), (1, .int (nI r)), (2, .int (nI n)), (3, .int (bi u))] := hl
        refine lv_goto hx hb d_Le_placeFor_120 rfl ?_
        replace hP : va_P (dC, dI) classes (wLe cI g X pol td qd (lN (x9.1 + 2 ^ (32 - x9.2)), lN (X.pre r + 2 ^ (32 - X.len r)), pI (stp X L9 a9).1.head?, (lN x9.1), (nI x9.2))) H := hP
        replace hD : va_D A (wLe cI g X pol td qd (lN (x9.1 + 2 ^ (32 - x9.2)), lN (X.pre r + 2 ^ (32 - X.len r)), pI (stp X L9 a9).1.head?, (lN x9.1), (nI x9.2))) := hD
        replace hl : lv_has ls 9 [(7, .int (nI (i + 1))), (8, .int (bi false)), (6, .int (blI (some y9))), (4, .long (boI (some y9))), (0, .ref (g 0)), (1, .int (nI r)), (2, .int (nI n)), (3, .int (bi u))] := hl
        refine ih _ _ _ _ _ _ _ _ _ _ hcb9 (stp_chn hC9 a9) (fun j q => hLm9 j (stp_mem q)) (Nat.le_trans (stp_len _ _ _) hL9) c5 ?_ ?_ ?_ ?_ hP hD hS (lv_sub hl [0, 2, 3, 4, 5, 6, 7] rfl)
        · omega
        · exact (by rw [← hres]; exact congrArg (List.foldl (chS u n) · B9) (show _ = chS u n _ x9 by unfold chS; rw [if_neg (fun q => absurd q.2 (by rw [(show btr u (some y9) x9 = false by rw [h46]; exact decide_eq_false (by omega))]; decide))]))
        · exact hCb
        · exact hwk
      have h58 := mt (nI_leI (by omega) (by omega)).mpr h58
      refine lv_goto hx hb d_Le_placeFor_61 rfl ?_
      refine lv_iconst (v := 1) hx hb d_Le_placeFor_76 (by decide) ?_
      refine x_topi (y := (bi true)) rfl ?_
      refine lv_goto hx hb d_Le_placeFor_77 rfl ?_
      refine lv_istore hx hb d_Le_placeFor_81 hl (by decide) rfl (fun ls hl => ?_)
      replace hl : lv_has ls 9 [(8, .int (bi true)), (7, .int (nI i)), (6, .int (nI y9.2)), (4, .long (lN y9.1)), (0, .ref (g 0)), (1, .int (nI r)), (2, .int (nI n)), (3, .int (bi u))] := hl
      refine lv_aload_n hx hb d_Le_placeFor_83 rfl (lv_at hl 4 rfl) ?_
      refine va_get (D := (dC, dI)) (ci := 2) (v := .ref (g 1)) (C := R_Le) (T := F_Le) (N := 5) hx hb hts u_Le hown hK hP 0 rfl rfl 1 (by decide) (hts _ kw_114) (fun _ h9 => h9) rfl d_Le_placeFor_84 ?_
      refine va_getN (D := (dC, dI)) (ci := 0) (v := .int (nI x9.2)) (C := R_BW) (T := F_BW) (N := 6) hx hb hts u_BW hown hK hP 1 rfl rfl 5 (by decide) (va_Nw.use rfl (hN.at 97 nw_97 rfl)) (fun _ h9 => h9) rfl d_Le_placeFor_87 ?_
      refine lv_iload_n hx hb d_Le_placeFor_90 rfl (lv_at hl 6 rfl) ?_
      refine lv_icmp_gt hx hb d_Le_placeFor_91 rfl (fun h91 => ?_) (fun h91 => ?_)
      · have h91 := (nI_ltI (by omega) (by omega)).mp h91
        refine lv_iinc hx hb d_Le_placeFor_117 hl (k := 1) (v := (nI (i + 1))) rfl (nI_1 i) (by decide) rfl (fun ls hl => ?_)
        replace hl : lv_has ls 9 [(7, .int (nI (i + 1))), (8, .int (bi true)), (6, .int (nI y9.2)), (4, .long (lN y9.1)), (0, .ref (g 0)), (1, .int (nI r)), (2, .int (nI n)), (3, .int (bi u))] := hl
        refine lv_goto hx hb d_Le_placeFor_120 rfl ?_
        replace hP : va_P (dC, dI) classes (wLe cI g X pol td qd (lN (x9.1 + 2 ^ (32 - x9.2)), lN (X.pre r + 2 ^ (32 - X.len r)), pI (stp X L9 a9).1.head?, (lN x9.1), (nI x9.2))) H := hP
        replace hD : va_D A (wLe cI g X pol td qd (lN (x9.1 + 2 ^ (32 - x9.2)), lN (X.pre r + 2 ^ (32 - X.len r)), pI (stp X L9 a9).1.head?, (lN x9.1), (nI x9.2))) := hD
        replace hl : lv_has ls 9 [(7, .int (nI (i + 1))), (8, .int (bi true)), (6, .int (blI (some y9))), (4, .long (boI (some y9))), (0, .ref (g 0)), (1, .int (nI r)), (2, .int (nI n)), (3, .int (bi u))] := hl
        refine ih _ _ _ _ _ _ _ _ _ _ hcb9 (stp_chn hC9 a9) (fun j q => hLm9 j (stp_mem q)) (Nat.le_trans (stp_len _ _ _) hL9) c5 ?_ ?_ ?_ ?_ hP hD hS (lv_sub hl [0, 2, 3, 4, 5, 6, 7] rfl)
        · omega
        · exact (by rw [← hres]; exact congrArg (List.foldl (chS u n) · B9) (show _ = chS u n _ x9 by unfold chS; rw [if_neg (fun q => by omega)]))
        · exact hCb
        · exact hwk
      have h91 := mt (nI_ltI (by omega) (by omega)).mpr h91
      refine lv_iload hx hb d_Le_placeFor_94 (lv_at hl 0 rfl) ?_
      refine lv_if_eq hx hb d_Le_placeFor_96 rfl (fun h9 => absurd h9 (by decide)) (fun _ => ?_)
      refine lv_aload_n hx hb d_Le_placeFor_99 rfl (lv_at hl 4 rfl) ?_
      refine va_get (D := (dC, dI)) (ci := 2) (v := .ref (g 1)) (C := R_Le) (T := F_Le) (N := 5) hx hb hts u_Le hown hK hP 0 rfl rfl 1 (by decide) (hts _ kw_114) (fun _ h9 => h9) rfl d_Le_placeFor_100 ?_
      refine va_getN (D := (dC, dI)) (ci := 0) (v := .long (lN x9.1)) (C := R_BW) (T := F_BW) (N := 6) hx hb hts u_BW hown hK hP 1 rfl rfl 4 (by decide) (va_Nw.use rfl (hN.at 94 nw_94 rfl)) (fun _ h9 => h9) rfl d_Le_placeFor_103 ?_
      refine lv_lstore hx hb d_Le_placeFor_106 hl (by decide) rfl (fun ls hl => ?_)
      replace hl : lv_has ls 9 [(4, .long (lN x9.1)), (8, .int (bi true)), (7, .int (nI i)), (6, .int (nI y9.2)), (0, .ref (g 0)), (1, .int (nI r)), (2, .int (nI n)), (3, .int (bi u))] := hl
      refine lv_aload_n hx hb d_Le_placeFor_108 rfl (lv_at hl 4 rfl) ?_
      refine va_get (D := (dC, dI)) (ci := 2) (v := .ref (g 1)) (C := R_Le) (T := F_Le) (N := 5) hx hb hts u_Le hown hK hP 0 rfl rfl 1 (by decide) (hts _ kw_114) (fun _ h9 => h9) rfl d_Le_placeFor_109 ?_
      refine va_getN (D := (dC, dI)) (ci := 0) (v := .int (nI x9.2)) (C := R_BW) (T := F_BW) (N := 6) hx hb hts u_BW hown hK hP 1 rfl rfl 5 (by decide) (va_Nw.use rfl (hN.at 97 nw_97 rfl)) (fun _ h9 => h9) rfl d_Le_placeFor_112 ?_
      refine lv_istore hx hb d_Le_placeFor_115 hl (by decide) rfl (fun ls hl => ?_)
      replace hl : lv_has ls 9 [(6, .int (nI x9.2)), (4, .long (lN x9.1)), (8, .int (bi true)), (7, .int (nI i)), (0, .ref (g 0)), (1, .int (nI r)), (2, .int (nI n)), (3, .int (bi u))] := hl
      refine lv_iinc hx hb d_Le_placeFor_117 hl (k := 3) (v := (nI (i + 1))) rfl (nI_1 i) (by decide) rfl (fun ls hl => ?_)
      replace hl : lv_has ls 9 [(7, .int (nI (i + 1))), (6, .int (nI x9.2)), (4, .long (lN x9.1)), (8, .int (bi true)), (0, .ref (g 0)), (1, .int (nI r)), (2, .int (nI n)), (3, .int (bi u))] := hl
      refine lv_goto hx hb d_Le_placeFor_120 rfl ?_
      replace hP : va_P (dC, dI) classes (wLe cI g X pol td qd (lN (x9.1 + 2 ^ (32 - x9.2)), lN (X.pre r + 2 ^ (32 - X.len r)), pI (stp X L9 a9).1.head?, (lN x9.1), (nI x9.2))) H := hP
      replace hD : va_D A (wLe cI g X pol td qd (lN (x9.1 + 2 ^ (32 - x9.2)), lN (X.pre r + 2 ^ (32 - X.len r)), pI (stp X L9 a9).1.head?, (lN x9.1), (nI x9.2))) := hD
      replace hl : lv_has ls 9 [(7, .int (nI (i + 1))), (6, .int (blI (some x9))), (4, .long (boI (some x9))), (8, .int (bi true)), (0, .ref (g 0)), (1, .int (nI r)), (2, .int (nI n)), (3, .int (bi u))] := hl
      refine ih _ _ _ _ _ _ _ _ _ _ hcb9 (stp_chn hC9 a9) (fun j q => hLm9 j (stp_mem q)) (Nat.le_trans (stp_len _ _ _) hL9) c5 ?_ ?_ ?_ ?_ hP hD hS (lv_sub hl [0, 1, 2, 4, 5, 6, 7] rfl)
      · omega
      · exact (by rw [← hres]; exact congrArg (List.foldl (chS u n) · B9) (show some x9 = chS u n _ x9 by unfold chS; rw [if_pos ⟨by omega, (show btr u (some y9) x9 = true by rw [h46]; exact decide_eq_true (by omega))⟩]))
      · exact (by intro y q; cases q; exact ⟨hx33, by omega⟩)
      · exact hwk
set_option maxHeartbeats 4000000 in
set_option maxRecDepth 100000 in
theorem c_BW_goTo (l : Launch) (dC : Nat → ClassId) (dI : Nat → Nat → Nat) (sz : Nat) (cI : ClassId) (h rr : Nat) (b : Nat → Nat) (X : RS) (hX : RSok X) (wk : WK) (r : Nat) (hr0 : r < 200) (L : List Nat) (Bk : List (Nat × Nat)) (hC : chn X.nx (X.fc r) L) (hLm : ∀ j ∈ L, j < 200) (hL : L.length ≤ 200) (hcb : cbk X (X.pre r + 2 ^ (32 - X.len r)) L (X.pre r) Bk) (hBl : Bk.length < 1000000) (he : (X.pre r + 2 ^ (32 - X.len r)) ≤ 4294967296) (k : Nat) (hk0 : k < 4294967296) : Met l y_BW_goTo (.code y_BW_goTo b_BW_goTo 4 (some .boolean) :: wG) ({ frames := 3, cells := 0, slots := 0, locals := 67 }) (PcM (dC, dI) [(cI, .int)] (wBW cI h rr b X wk) [.ref h, .int (nI r), .int (nI k)] sz) (QmI (dC, dI) [(cI, .int)] (wBW cI h rr b X wk) (wBW cI h rr b X (wkG X (X.pre r + 2 ^ (32 - X.len r)) k L (X.pre r) wk.sa wk.le Bk 0).2) sz (bi (wkG X (X.pre r + 2 ^ (32 - X.len r)) k L (X.pre r) wk.sa wk.le Bk 0).1)) 0 0 (va_A (wBW cI h rr b X wk) sz) := by
  refine Met.ofW (cc := b_BW_goTo) (maxL := 4) (ret := (some .boolean)) (by decide) rfl ?_
  intro pg eg s mg ag bg meth cg s₁ B hml hv
  obtain ⟨rfl, hsz, hP, hK, hD0, hN⟩ := hv
  have hx := B.exec
  have hb := B.bytes
  have hr := B.returns
  have hlocks := B.notSynchronized
  have hts : ∀ w9 ∈ wG, w9.before ([.ref h, .int (nI r), .int (nI k)] : List Value).toArray s = true := fun w9 h9 => atoms_spec (ws := (.code y_BW_goTo b_BW_goTo 4 (some .boolean) :: wG)) B.pre w9 (List.mem_cons_of_mem _ h9)
  have hown : s.vm.findClass "PrefixRegistry$BlockWalk" = some mg.cls := findClass_of_methodNamed B.named
  subst hsz
  have hD := hD0.self (sz := s.heap.size)
  unfold QmI
  generalize hAe : va_A (wBW cI h rr b X wk) s.heap.size = A at hD ⊢
  have hA : ∀ q : Nat, s.heap.size ≤ q → A q := fun q h => by rw [← hAe]; exact Or.inr h
  have hS : va_S A s.heap s.heap [] := va_S.rf
  have hl := lv_entry ([.ref h, .int (nI r), .int (nI k)]) (n := 4) (Nat.le_of_ble_eq_true rfl)
  rw [lg_entry_eq]
  generalize (lg_sl ([.ref h, .int (nI r), .int (nI k)]) ++ List.replicate (4 - (lg_sl ([.ref h, .int (nI r), .int (nI k)])).length) Slot.unset).toArray = ls at hl ⊢
  replace hl : lv_has ls 4 [(0, .ref h), (1, .int (nI r)), (2, .int (nI k))] := hl
  replace hP : va_P (dC, dI) classes (wBW cI h rr b X wk) s.heap := hP
  replace hD : va_D A (wBW cI h rr b X wk) := hD
  refine lv_aload_n hx hb d_BW_goTo_0 rfl (lv_at hl 0 rfl) ?_
  refine lv_iload_n hx hb d_BW_goTo_1 rfl (lv_at hl 1 rfl) ?_
  have hPc := hP.sub (ws' := (wBW cI h rr b X wk)) [0, 1, 2, 3, 4, 5, 6, 7, 8, 9, 10] rfl
  have hDc := hD.sub (ws' := (wBW cI h rr b X wk)) [0, 1, 2, 3, 4, 5, 6, 7, 8, 9, 10] (by decide) rfl
  have hFc := va_free (wc := (wBW cI h rr b X wk)) hD hS hA [0, 1, 2, 3, 4, 5, 6, 7, 8, 9, 10] rfl
  refine va_callv (va_runV (b := h) (As := [.int (nI r)]) (rest := []) ⟨hx, hb, hml, hown, hts⟩ (c_BW_begin l dC dI s.heap.size cI h rr b X hX wk r hr0) (cwV 1 hts (gV kw_646 kw_362 kw_363 kw_4 kw_364) rfl rfl rfl (by decide +kernel) ⟨Nat.le_of_ble_eq_true rfl, Nat.le_of_ble_eq_true rfl⟩) ⟨PcM.blind, va_recv (q0 := 0) hK hPc rfl rfl, PcM.use hPc hK hN hDc⟩ rfl rfl hl.1 rfl (lv_room (Nat.le_of_ble_eq_true rfl)) d_BW_goTo_2 ⟨Nat.le_of_ble_eq_true rfl, Nat.le_of_ble_eq_true rfl⟩) hS (fun q _ h => hFc q h) hFc (fun u9 H9 H1 locs hH9 hv9 hp9 hB hz1 hk1 hS => ?_)
  obtain ⟨hP1, hK1, hD1⟩ := hB
  rw [hH9] at hP1
  obtain ⟨hP, hD⟩ := va_join (wr := []) (w1 := (wBW cI h rr b X (lN (X.pre r), lN (X.pre r + 2 ^ (32 - X.len r)), pI (X.fc r), wk.sa, wk.le))) hP hD [0, 1, 2, 3, 4, 5, 6, 7, 8, 9, 10] [] rfl rfl (by decide) (by decide) hk1 hFc hP1 hD1
  clear hPc hDc hFc hP1 hD1 hK1 hk1 hz1 hv9 hH9
  generalize H1 = H at hP hS ⊢
  replace hP : va_P (dC, dI) classes [(h, .inr (0, [.ref rr, .long (lN (X.pre r)), .long (lN (X.pre r + 2 ^ (32 - X.len r))), .int (pI (X.fc r)), .long wk.sa, .int wk.le])), (rr, .inr (3, [.ref (b 0), .ref (b 1), .ref (b 2), .ref (b 3), .ref (b 4), .ref (b 5), .ref (b 6), .ref (b 7), .ref (b 8), .int (nI X.n)])), ((b 0), .inl (cI, 200, .inl (fun z9 => nI (X.pre z9)))), ((b 1), .inl (cI, 200, .inl (fun z9 => nI (X.len z9)))), ((b 2), .inl (cI, 200, .inl (fun z9 => pI (X.par z9)))), ((b 3), .inl (cI, 200, .inl (fun z9 => nI (X.lev z9)))), ((b 4), .inl (cI, 200, .inl (fun z9 => nI (X.hol z9)))), ((b 5), .inl (cI, 200, .inl (fun z9 => nI (X.sta z9)))), ((b 6), .inl (cI, 200, .inl (fun z9 => nI (X.en z9)))), ((b 7), .inl (cI, 200, .inl (fun z9 => pI (X.fc z9)))), ((b 8), .inl (cI, 200, .inl (fun z9 => pI (X.nx z9))))] H := hP.sub (ws' := [(h, .inr (0, [.ref rr, .long (lN (X.pre r)), .long (lN (X.pre r + 2 ^ (32 - X.len r))), .int (pI (X.fc r)), .long wk.sa, .int wk.le])), (rr, .inr (3, [.ref (b 0), .ref (b 1), .ref (b 2), .ref (b 3), .ref (b 4), .ref (b 5), .ref (b 6), .ref (b 7), .ref (b 8), .int (nI X.n)])), ((b 0), .inl (cI, 200, .inl (fun z9 => nI (X.pre z9)))), ((b 1), .inl (cI, 200, .inl (fun z9 => nI (X.len z9)))), ((b 2), .inl (cI, 200, .inl (fun z9 => pI (X.par z9)))), ((b 3), .inl (cI, 200, .inl (fun z9 => nI (X.lev z9)))), ((b 4), .inl (cI, 200, .inl (fun z9 => nI (X.hol z9)))), ((b 5), .inl (cI, 200, .inl (fun z9 => nI (X.sta z9)))), ((b 6), .inl (cI, 200, .inl (fun z9 => nI (X.en z9)))), ((b 7), .inl (cI, 200, .inl (fun z9 => pI (X.fc z9)))), ((b 8), .inl (cI, 200, .inl (fun z9 => pI (X.nx z9))))]) [0, 1, 2, 3, 4, 5, 6, 7, 8, 9, 10] rfl
  replace hD : va_D A [(h, .inr (0, [.ref rr, .long (lN (X.pre r)), .long (lN (X.pre r + 2 ^ (32 - X.len r))), .int (pI (X.fc r)), .long wk.sa, .int wk.le])), (rr, .inr (3, [.ref (b 0), .ref (b 1), .ref (b 2), .ref (b 3), .ref (b 4), .ref (b 5), .ref (b 6), .ref (b 7), .ref (b 8), .int (nI X.n)])), ((b 0), .inl (cI, 200, .inl (fun z9 => nI (X.pre z9)))), ((b 1), .inl (cI, 200, .inl (fun z9 => nI (X.len z9)))), ((b 2), .inl (cI, 200, .inl (fun z9 => pI (X.par z9)))), ((b 3), .inl (cI, 200, .inl (fun z9 => nI (X.lev z9)))), ((b 4), .inl (cI, 200, .inl (fun z9 => nI (X.hol z9)))), ((b 5), .inl (cI, 200, .inl (fun z9 => nI (X.sta z9)))), ((b 6), .inl (cI, 200, .inl (fun z9 => nI (X.en z9)))), ((b 7), .inl (cI, 200, .inl (fun z9 => pI (X.fc z9)))), ((b 8), .inl (cI, 200, .inl (fun z9 => pI (X.nx z9))))] := hD.sub (ws' := [(h, .inr (0, [.ref rr, .long (lN (X.pre r)), .long (lN (X.pre r + 2 ^ (32 - X.len r))), .int (pI (X.fc r)), .long wk.sa, .int wk.le])), (rr, .inr (3, [.ref (b 0), .ref (b 1), .ref (b 2), .ref (b 3), .ref (b 4), .ref (b 5), .ref (b 6), .ref (b 7), .ref (b 8), .int (nI X.n)])), ((b 0), .inl (cI, 200, .inl (fun z9 => nI (X.pre z9)))), ((b 1), .inl (cI, 200, .inl (fun z9 => nI (X.len z9)))), ((b 2), .inl (cI, 200, .inl (fun z9 => pI (X.par z9)))), ((b 3), .inl (cI, 200, .inl (fun z9 => nI (X.lev z9)))), ((b 4), .inl (cI, 200, .inl (fun z9 => nI (X.hol z9)))), ((b 5), .inl (cI, 200, .inl (fun z9 => nI (X.sta z9)))), ((b 6), .inl (cI, 200, .inl (fun z9 => nI (X.en z9)))), ((b 7), .inl (cI, 200, .inl (fun z9 => pI (X.fc z9)))), ((b 8), .inl (cI, 200, .inl (fun z9 => pI (X.nx z9))))]) [0, 1, 2, 3, 4, 5, 6, 7, 8, 9, 10] (by decide) rfl
  refine lv_iconst (v := 0) hx hb d_BW_goTo_5 (by decide) ?_
  refine lv_istore_n hx hb d_BW_goTo_6 rfl hl (by decide) rfl (fun ls hl => ?_)
  replace hl : lv_has ls 4 [(3, .int 0), (0, .ref h), (1, .int (nI r)), (2, .int (nI k))] := hl
  obtain ⟨i, hi0⟩ : ∃ i : Nat, i = 0 := ⟨_, rfl⟩
  obtain ⟨B9, hB90⟩ : ∃ B9 : List (Nat × Nat), B9 = Bk := ⟨_, rfl⟩
  obtain ⟨L9, hL90⟩ : ∃ L9 : List Nat, L9 = L := ⟨_, rfl⟩
  obtain ⟨a9, ha90⟩ : ∃ a9 : Nat, a9 = X.pre r := ⟨_, rfl⟩
  obtain ⟨o9, ho90⟩ : ∃ o9 : Option Nat, o9 = X.fc r := ⟨_, rfl⟩
  obtain ⟨sa9, hsa90⟩ : ∃ sa9 : Int64, sa9 = wk.sa := ⟨_, rfl⟩
  obtain ⟨le9, hle90⟩ : ∃ le9 : Int32, le9 = wk.le := ⟨_, rfl⟩
  have hcb9 : cbk X (X.pre r + 2 ^ (32 - X.len r)) L9 a9 B9 := by rw [hL90, ha90, hB90]; exact hcb
  have hC9 : chn X.nx o9 L9 := by rw [ho90, hL90]; exact hC
  have hLm9 : ∀ j ∈ L9, j < 200 := by rw [hL90]; exact hLm
  have hL9 : L9.length ≤ 200 := by rw [hL90]; exact hL
  have ha9 : a9 ≤ 4294967296 := by have := hX.pre r; omega
  have hiB : i + B9.length < 1000000 := by rw [hi0, hB90]; omega
  have hres : wkG X (X.pre r + 2 ^ (32 - X.len r)) k L9 a9 sa9 le9 B9 i = (wkG X (X.pre r + 2 ^ (32 - X.len r)) k L (X.pre r) wk.sa wk.le Bk 0) := by rw [hL90, ha90, hsa90, hle90, hB90, hi0]
  replace hP : va_P (dC, dI) classes (wBW cI h rr b X (lN a9, lN (X.pre r + 2 ^ (32 - X.len r)), pI o9, sa9, le9)) H := by rw [ha90, ho90, hsa90, hle90]; exact hP
  replace hD : va_D A (wBW cI h rr b X (lN a9, lN (X.pre r + 2 ^ (32 - X.len r)), pI o9, sa9, le9)) := by rw [ha90, ho90, hsa90, hle90]; exact hD
  replace hl : lv_has ls 4 [(3, .int (nI i)), (0, .ref h), (1, .int (nI r)), (2, .int (nI k))] := by subst hi0; exact hl
  clear hi0 hB90 hL90 ha90 ho90 hsa90 hle90 
  replace hcb9 := hcb9
  replace hC9 := hC9
  replace hLm9 := hLm9
  replace hL9 := hL9
  replace ha9 := ha9
  replace hiB := hiB
  replace hres := hres
  replace hP := hP
  replace hD := hD
  replace hS := hS
  replace hl : lv_has ls 4 [(3, .int (nI i)), (0, .ref h), (1, .int (nI r)), (2, .int (nI k))] := hl
  induction B9 generalizing i L9 a9 o9 sa9 le9 ls H locs  with
  | nil =>
    replace hiB : i + 0 < 1000000 := hiB
    replace hP : va_P (dC, dI) classes [(h, .inr (0, [.ref rr, .long (lN a9), .long (lN (X.pre r + 2 ^ (32 - X.len r))), .int (pI o9), .long sa9, .int le9])), (rr, .inr (3, [.ref (b 0), .ref (b 1), .ref (b 2), .ref (b 3), .ref (b 4), .ref (b 5), .ref (b 6), .ref (b 7), .ref (b 8), .int (nI X.n)])), ((b 0), .inl (cI, 200, .inl (fun z9 => nI (X.pre z9)))), ((b 1), .inl (cI, 200, .inl (fun z9 => nI (X.len z9)))), ((b 2), .inl (cI, 200, .inl (fun z9 => pI (X.par z9)))), ((b 3), .inl (cI, 200, .inl (fun z9 => nI (X.lev z9)))), ((b 4), .inl (cI, 200, .inl (fun z9 => nI (X.hol z9)))), ((b 5), .inl (cI, 200, .inl (fun z9 => nI (X.sta z9)))), ((b 6), .inl (cI, 200, .inl (fun z9 => nI (X.en z9)))), ((b 7), .inl (cI, 200, .inl (fun z9 => pI (X.fc z9)))), ((b 8), .inl (cI, 200, .inl (fun z9 => pI (X.nx z9))))] H := hP
    replace hD : va_D A [(h, .inr (0, [.ref rr, .long (lN a9), .long (lN (X.pre r + 2 ^ (32 - X.len r))), .int (pI o9), .long sa9, .int le9])), (rr, .inr (3, [.ref (b 0), .ref (b 1), .ref (b 2), .ref (b 3), .ref (b 4), .ref (b 5), .ref (b 6), .ref (b 7), .ref (b 8), .int (nI X.n)])), ((b 0), .inl (cI, 200, .inl (fun z9 => nI (X.pre z9)))), ((b 1), .inl (cI, 200, .inl (fun z9 => nI (X.len z9)))), ((b 2), .inl (cI, 200, .inl (fun z9 => pI (X.par z9)))), ((b 3), .inl (cI, 200, .inl (fun z9 => nI (X.lev z9)))), ((b 4), .inl (cI, 200, .inl (fun z9 => nI (X.hol z9)))), ((b 5), .inl (cI, 200, .inl (fun z9 => nI (X.sta z9)))), ((b 6), .inl (cI, 200, .inl (fun z9 => nI (X.en z9)))), ((b 7), .inl (cI, 200, .inl (fun z9 => pI (X.fc z9)))), ((b 8), .inl (cI, 200, .inl (fun z9 => pI (X.nx z9))))] := hD
    refine lv_iload_n hx hb d_BW_goTo_7 rfl (lv_at hl 0 rfl) ?_
    refine lv_ldc hx hb hown (hts _ kw_647) d_BW_goTo_8 ?_
    refine lv_icmp_ge hx hb d_BW_goTo_10 rfl (fun h9 => absurd h9 (nI_ge (b := 1000000) (by omega) (by decide))) (fun _ => ?_)
    refine lv_aload_n hx hb d_BW_goTo_13 rfl (lv_at hl 1 rfl) ?_
    have hPc := hP.sub (ws' := (wBW cI h rr b X (lN a9, lN (X.pre r + 2 ^ (32 - X.len r)), pI o9, sa9, le9))) [0, 1, 2, 3, 4, 5, 6, 7, 8, 9, 10] rfl
    have hDc := hD.sub (ws' := (wBW cI h rr b X (lN a9, lN (X.pre r + 2 ^ (32 - X.len r)), pI o9, sa9, le9))) [0, 1, 2, 3, 4, 5, 6, 7, 8, 9, 10] (by decide) rfl
    have hFc := va_free (wc := (wBW cI h rr b X (lN a9, lN (X.pre r + 2 ^ (32 - X.len r)), pI o9, sa9, le9))) hD hS hA [0, 1, 2, 3, 4, 5, 6, 7, 8, 9, 10] rfl
    refine va_calli (va_runV (b := h) (As := []) (rest := []) ⟨hx, hb, hml, hown, hts⟩ (c_BW_step l dC dI H.size cI h rr b X hX a9 (X.pre r + 2 ^ (32 - X.len r)) o9 sa9 le9 L9 hC9 (fun k q => hLm9 k (chn_mem hC9 q)) hL9 ha9 he (fun K a8 q1 q2 => absurd (show (stp X L9 a9).2 < _ by rw [q1]; exact q2) hcb9)) (cwV 0 hts (gV kw_648 kw_369 kw_370 kw_4 kw_371) rfl rfl rfl (by decide +kernel) ⟨Nat.le_of_ble_eq_true rfl, Nat.le_of_ble_eq_true rfl⟩) ⟨PcM.blind, va_recv (q0 := 0) hK hPc rfl rfl, PcM.use hPc hK hN hDc⟩ rfl rfl hl.1 rfl (lv_room (Nat.le_of_ble_eq_true rfl)) d_BW_goTo_14 ⟨Nat.le_of_ble_eq_true rfl, Nat.le_of_ble_eq_true rfl⟩) hS (fun q _ h => hFc q h) hFc (fun r14 u9 H9 H1 locs hH9 hv9 hp9 hB hz1 hk1 hS => ?_)
    obtain rfl : r14 = (bi (decide ((stp X L9 a9).2 < (X.pre r + 2 ^ (32 - X.len r))))) := hp9
    obtain ⟨hP1, hK1, hD1⟩ := hB
    rw [hH9] at hP1
    obtain ⟨hP, hD⟩ := va_join (wr := []) (w1 := (wBW cI h rr b X (wkS X L9 a9 (X.pre r + 2 ^ (32 - X.len r)) sa9 le9))) hP hD [0, 1, 2, 3, 4, 5, 6, 7, 8, 9, 10] [] rfl rfl (by decide) (by decide) hk1 hFc hP1 hD1
    clear hPc hDc hFc hP1 hD1 hK1 hk1 hz1 hv9 hH9
    generalize H1 = H at hP hS ⊢
    replace hP : va_P (dC, dI) classes [(h, .inr (0, [.ref rr, .long ((wkS X L9 a9 (X.pre r + 2 ^ (32 - X.len r)) sa9 le9).at), .long ((wkS X L9 a9 (X.pre r + 2 ^ (32 - X.len r)) sa9 le9).en), .int ((wkS X L9 a9 (X.pre r + 2 ^ (32 - X.len r)) sa9 le9).ch), .long ((wkS X L9 a9 (X.pre r + 2 ^ (32 - X.len r)) sa9 le9).sa), .int ((wkS X L9 a9 (X.pre r + 2 ^ (32 - X.len r)) sa9 le9).le)])), (rr, .inr (3, [.ref (b 0), .ref (b 1), .ref (b 2), .ref (b 3), .ref (b 4), .ref (b 5), .ref (b 6), .ref (b 7), .ref (b 8), .int (nI X.n)])), ((b 0), .inl (cI, 200, .inl (fun z9 => nI (X.pre z9)))), ((b 1), .inl (cI, 200, .inl (fun z9 => nI (X.len z9)))), ((b 2), .inl (cI, 200, .inl (fun z9 => pI (X.par z9)))), ((b 3), .inl (cI, 200, .inl (fun z9 => nI (X.lev z9)))), ((b 4), .inl (cI, 200, .inl (fun z9 => nI (X.hol z9)))), ((b 5), .inl (cI, 200, .inl (fun z9 => nI (X.sta z9)))), ((b 6), .inl (cI, 200, .inl (fun z9 => nI (X.en z9)))), ((b 7), .inl (cI, 200, .inl (fun z9 => pI (X.fc z9)))), ((b 8), .inl (cI, 200, .inl (fun z9 => pI (X.nx z9))))] H := hP.sub (ws' := [(h, .inr (0, [.ref rr, .long ((wkS X L9 a9 (X.pre r + 2 ^ (32 - X.len r)) sa9 le9).at), .long ((wkS X L9 a9 (X.pre r + 2 ^ (32 - X.len r)) sa9 le9).en), .int ((wkS X L9 a9 (X.pre r + 2 ^ (32 - X.len r)) sa9 le9).ch), .long ((wkS X L9 a9 (X.pre r + 2 ^ (32 - X.len r)) sa9 le9).sa), .int ((wkS X L9 a9 (X.pre r + 2 ^ (32 - X.len r)) sa9 le9).le)])), (rr, .inr (3, [.ref (b 0), .ref (b 1), .ref (b 2), .ref (b 3), .ref (b 4), .ref (b 5), .ref (b 6), .ref (b 7), .ref (b 8), .int (nI X.n)])), ((b 0), .inl (cI, 200, .inl (fun z9 => nI (X.pre z9)))), ((b 1), .inl (cI, 200, .inl (fun z9 => nI (X.len z9)))), ((b 2), .inl (cI, 200, .inl (fun z9 => pI (X.par z9)))), ((b 3), .inl (cI, 200, .inl (fun z9 => nI (X.lev z9)))), ((b 4), .inl (cI, 200, .inl (fun z9 => nI (X.hol z9)))), ((b 5), .inl (cI, 200, .inl (fun z9 => nI (X.sta z9)))), ((b 6), .inl (cI, 200, .inl (fun z9 => nI (X.en z9)))), ((b 7), .inl (cI, 200, .inl (fun z9 => pI (X.fc z9)))), ((b 8), .inl (cI, 200, .inl (fun z9 => pI (X.nx z9))))]) [0, 1, 2, 3, 4, 5, 6, 7, 8, 9, 10] rfl
    replace hD : va_D A [(h, .inr (0, [.ref rr, .long ((wkS X L9 a9 (X.pre r + 2 ^ (32 - X.len r)) sa9 le9).at), .long ((wkS X L9 a9 (X.pre r + 2 ^ (32 - X.len r)) sa9 le9).en), .int ((wkS X L9 a9 (X.pre r + 2 ^ (32 - X.len r)) sa9 le9).ch), .long ((wkS X L9 a9 (X.pre r + 2 ^ (32 - X.len r)) sa9 le9).sa), .int ((wkS X L9 a9 (X.pre r + 2 ^ (32 - X.len r)) sa9 le9).le)])), (rr, .inr (3, [.ref (b 0), .ref (b 1), .ref (b 2), .ref (b 3), .ref (b 4), .ref (b 5), .ref (b 6), .ref (b 7), .ref (b 8), .int (nI X.n)])), ((b 0), .inl (cI, 200, .inl (fun z9 => nI (X.pre z9)))), ((b 1), .inl (cI, 200, .inl (fun z9 => nI (X.len z9)))), ((b 2), .inl (cI, 200, .inl (fun z9 => pI (X.par z9)))), ((b 3), .inl (cI, 200, .inl (fun z9 => nI (X.lev z9)))), ((b 4), .inl (cI, 200, .inl (fun z9 => nI (X.hol z9)))), ((b 5), .inl (cI, 200, .inl (fun z9 => nI (X.sta z9)))), ((b 6), .inl (cI, 200, .inl (fun z9 => nI (X.en z9)))), ((b 7), .inl (cI, 200, .inl (fun z9 => pI (X.fc z9)))), ((b 8), .inl (cI, 200, .inl (fun z9 => pI (X.nx z9))))] := hD.sub (ws' := [(h, .inr (0, [.ref rr, .long ((wkS X L9 a9 (X.pre r + 2 ^ (32 - X.len r)) sa9 le9).at), .long ((wkS X L9 a9 (X.pre r + 2 ^ (32 - X.len r)) sa9 le9).en), .int ((wkS X L9 a9 (X.pre r + 2 ^ (32 - X.len r)) sa9 le9).ch), .long ((wkS X L9 a9 (X.pre r + 2 ^ (32 - X.len r)) sa9 le9).sa), .int ((wkS X L9 a9 (X.pre r + 2 ^ (32 - X.len r)) sa9 le9).le)])), (rr, .inr (3, [.ref (b 0), .ref (b 1), .ref (b 2), .ref (b 3), .ref (b 4), .ref (b 5), .ref (b 6), .ref (b 7), .ref (b 8), .int (nI X.n)])), ((b 0), .inl (cI, 200, .inl (fun z9 => nI (X.pre z9)))), ((b 1), .inl (cI, 200, .inl (fun z9 => nI (X.len z9)))), ((b 2), .inl (cI, 200, .inl (fun z9 => pI (X.par z9)))), ((b 3), .inl (cI, 200, .inl (fun z9 => nI (X.lev z9)))), ((b 4), .inl (cI, 200, .inl (fun z9 => nI (X.hol z9)))), ((b 5), .inl (cI, 200, .inl (fun z9 => nI (X.sta z9)))), ((b 6), .inl (cI, 200, .inl (fun z9 => nI (X.en z9)))), ((b 7), .inl (cI, 200, .inl (fun z9 => pI (X.fc z9)))), ((b 8), .inl (cI, 200, .inl (fun z9 => pI (X.nx z9))))]) [0, 1, 2, 3, 4, 5, 6, 7, 8, 9, 10] (by decide) rfl
    refine lv_if_eq hx hb d_BW_goTo_17 rfl (fun _ => ?_) (fun h9 => absurd (bi_d.mpr hcb9) h9)
    refine lv_iconst (v := 0) hx hb d_BW_goTo_33 (by decide) ?_
    have e9 : (wkG X (X.pre r + 2 ^ (32 - X.len r)) k L (X.pre r) wk.sa wk.le Bk 0) = (false, wkS X L9 a9 (X.pre r + 2 ^ (32 - X.len r)) sa9 le9) := hres.symm
    have hP9 : va_P (dC, dI) classes (wBW cI h rr b X (wkG X (X.pre r + 2 ^ (32 - X.len r)) k L (X.pre r) wk.sa wk.le Bk 0).2) H := by rw [e9]; exact hP
    have hD9 : va_D A (wBW cI h rr b X (wkG X (X.pre r + 2 ^ (32 - X.len r)) k L (X.pre r) wk.sa wk.le Bk 0).2) := by rw [e9]; exact hD
    exact W.zret (v := 0) hx hb hr (by decide) (fun t ht hW => ⟨⟨0, (), rfl, (by rw [e9]; rfl), by rw [ht]; exact hP9, va_K.moved hW.alike hK, hD9⟩, hS.F ht⟩) hS.2.2 d_BW_goTo_34
  | cons x9 B9 ih =>
    obtain ⟨c1, c2, c3, c4, c5, hcb9⟩ := hcb9
    replace hiB : i + (B9.length + 1) < 1000000 := hiB
    have hx33 : x9.2 < 33 := by rw [c3]; exact bln_lt (by omega) (by omega) (by omega)
    replace hP : va_P (dC, dI) classes [(h, .inr (0, [.ref rr, .long (lN a9), .long (lN (X.pre r + 2 ^ (32 - X.len r))), .int (pI o9), .long sa9, .int le9])), (rr, .inr (3, [.ref (b 0), .ref (b 1), .ref (b 2), .ref (b 3), .ref (b 4), .ref (b 5), .ref (b 6), .ref (b 7), .ref (b 8), .int (nI X.n)])), ((b 0), .inl (cI, 200, .inl (fun z9 => nI (X.pre z9)))), ((b 1), .inl (cI, 200, .inl (fun z9 => nI (X.len z9)))), ((b 2), .inl (cI, 200, .inl (fun z9 => pI (X.par z9)))), ((b 3), .inl (cI, 200, .inl (fun z9 => nI (X.lev z9)))), ((b 4), .inl (cI, 200, .inl (fun z9 => nI (X.hol z9)))), ((b 5), .inl (cI, 200, .inl (fun z9 => nI (X.sta z9)))), ((b 6), .inl (cI, 200, .inl (fun z9 => nI (X.en z9)))), ((b 7), .inl (cI, 200, .inl (fun z9 => pI (X.fc z9)))), ((b 8), .inl (cI, 200, .inl (fun z9 => pI (X.nx z9))))] H := hP
    replace hD : va_D A [(h, .inr (0, [.ref rr, .long (lN a9), .long (lN (X.pre r + 2 ^ (32 - X.len r))), .int (pI o9), .long sa9, .int le9])), (rr, .inr (3, [.ref (b 0), .ref (b 1), .ref (b 2), .ref (b 3), .ref (b 4), .ref (b 5), .ref (b 6), .ref (b 7), .ref (b 8), .int (nI X.n)])), ((b 0), .inl (cI, 200, .inl (fun z9 => nI (X.pre z9)))), ((b 1), .inl (cI, 200, .inl (fun z9 => nI (X.len z9)))), ((b 2), .inl (cI, 200, .inl (fun z9 => pI (X.par z9)))), ((b 3), .inl (cI, 200, .inl (fun z9 => nI (X.lev z9)))), ((b 4), .inl (cI, 200, .inl (fun z9 => nI (X.hol z9)))), ((b 5), .inl (cI, 200, .inl (fun z9 => nI (X.sta z9)))), ((b 6), .inl (cI, 200, .inl (fun z9 => nI (X.en z9)))), ((b 7), .inl (cI, 200, .inl (fun z9 => pI (X.fc z9)))), ((b 8), .inl (cI, 200, .inl (fun z9 => pI (X.nx z9))))] := hD
    refine lv_iload_n hx hb d_BW_goTo_7 rfl (lv_at hl 0 rfl) ?_
    refine lv_ldc hx hb hown (hts _ kw_647) d_BW_goTo_8 ?_
    refine lv_icmp_ge hx hb d_BW_goTo_10 rfl (fun h9 => absurd h9 (nI_ge (b := 1000000) (by omega) (by decide))) (fun _ => ?_)
    refine lv_aload_n hx hb d_BW_goTo_13 rfl (lv_at hl 1 rfl) ?_
    have hPc := hP.sub (ws' := (wBW cI h rr b X (lN a9, lN (X.pre r + 2 ^ (32 - X.len r)), pI o9, sa9, le9))) [0, 1, 2, 3, 4, 5, 6, 7, 8, 9, 10] rfl
    have hDc := hD.sub (ws' := (wBW cI h rr b X (lN a9, lN (X.pre r + 2 ^ (32 - X.len r)), pI o9, sa9, le9))) [0, 1, 2, 3, 4, 5, 6, 7, 8, 9, 10] (by decide) rfl
    have hFc := va_free (wc := (wBW cI h rr b X (lN a9, lN (X.pre r + 2 ^ (32 - X.len r)), pI o9, sa9, le9))) hD hS hA [0, 1, 2, 3, 4, 5, 6, 7, 8, 9, 10] rfl
    refine va_calli (va_runV (b := h) (As := []) (rest := []) ⟨hx, hb, hml, hown, hts⟩ (c_BW_step l dC dI H.size cI h rr b X hX a9 (X.pre r + 2 ^ (32 - X.len r)) o9 sa9 le9 L9 hC9 (fun k q => hLm9 k (chn_mem hC9 q)) hL9 ha9 he (fun K a8 q1 q2 => by rw [q1] at c4; rw [c2, q1] at c4; exact c4)) (cwV 0 hts (gV kw_648 kw_369 kw_370 kw_4 kw_371) rfl rfl rfl (by decide +kernel) ⟨Nat.le_of_ble_eq_true rfl, Nat.le_of_ble_eq_true rfl⟩) ⟨PcM.blind, va_recv (q0 := 0) hK hPc rfl rfl, PcM.use hPc hK hN hDc⟩ rfl rfl hl.1 rfl (lv_room (Nat.le_of_ble_eq_true rfl)) d_BW_goTo_14 ⟨Nat.le_of_ble_eq_true rfl, Nat.le_of_ble_eq_true rfl⟩) hS (fun q _ h => hFc q h) hFc (fun r14 u9 H9 H1 locs hH9 hv9 hp9 hB hz1 hk1 hS => ?_)
    obtain rfl : r14 = (bi (decide ((stp X L9 a9).2 < (X.pre r + 2 ^ (32 - X.len r))))) := hp9
    obtain ⟨hP1, hK1, hD1⟩ := hB
    rw [hH9] at hP1
    obtain ⟨hP, hD⟩ := va_join (wr := []) (w1 := (wBW cI h rr b X (wkS X L9 a9 (X.pre r + 2 ^ (32 - X.len r)) sa9 le9))) hP hD [0, 1, 2, 3, 4, 5, 6, 7, 8, 9, 10] [] rfl rfl (by decide) (by decide) hk1 hFc hP1 hD1
    clear hPc hDc hFc hP1 hD1 hK1 hk1 hz1 hv9 hH9
    generalize H1 = H at hP hS ⊢
    replace hP : va_P (dC, dI) classes [(h, .inr (0, [.ref rr, .long ((wkS X L9 a9 (X.pre r + 2 ^ (32 - X.len r)) sa9 le9).at), .long ((wkS X L9 a9 (X.pre r + 2 ^ (32 - X.len r)) sa9 le9).en), .int ((wkS X L9 a9 (X.pre r + 2 ^ (32 - X.len r)) sa9 le9).ch), .long ((wkS X L9 a9 (X.pre r + 2 ^ (32 - X.len r)) sa9 le9).sa), .int ((wkS X L9 a9 (X.pre r + 2 ^ (32 - X.len r)) sa9 le9).le)])), (rr, .inr (3, [.ref (b 0), .ref (b 1), .ref (b 2), .ref (b 3), .ref (b 4), .ref (b 5), .ref (b 6), .ref (b 7), .ref (b 8), .int (nI X.n)])), ((b 0), .inl (cI, 200, .inl (fun z9 => nI (X.pre z9)))), ((b 1), .inl (cI, 200, .inl (fun z9 => nI (X.len z9)))), ((b 2), .inl (cI, 200, .inl (fun z9 => pI (X.par z9)))), ((b 3), .inl (cI, 200, .inl (fun z9 => nI (X.lev z9)))), ((b 4), .inl (cI, 200, .inl (fun z9 => nI (X.hol z9)))), ((b 5), .inl (cI, 200, .inl (fun z9 => nI (X.sta z9)))), ((b 6), .inl (cI, 200, .inl (fun z9 => nI (X.en z9)))), ((b 7), .inl (cI, 200, .inl (fun z9 => pI (X.fc z9)))), ((b 8), .inl (cI, 200, .inl (fun z9 => pI (X.nx z9))))] H := hP.sub (ws' := [(h, .inr (0, [.ref rr, .long ((wkS X L9 a9 (X.pre r + 2 ^ (32 - X.len r)) sa9 le9).at), .long ((wkS X L9 a9 (X.pre r + 2 ^ (32 - X.len r)) sa9 le9).en), .int ((wkS X L9 a9 (X.pre r + 2 ^ (32 - X.len r)) sa9 le9).ch), .long ((wkS X L9 a9 (X.pre r + 2 ^ (32 - X.len r)) sa9 le9).sa), .int ((wkS X L9 a9 (X.pre r + 2 ^ (32 - X.len r)) sa9 le9).le)])), (rr, .inr (3, [.ref (b 0), .ref (b 1), .ref (b 2), .ref (b 3), .ref (b 4), .ref (b 5), .ref (b 6), .ref (b 7), .ref (b 8), .int (nI X.n)])), ((b 0), .inl (cI, 200, .inl (fun z9 => nI (X.pre z9)))), ((b 1), .inl (cI, 200, .inl (fun z9 => nI (X.len z9)))), ((b 2), .inl (cI, 200, .inl (fun z9 => pI (X.par z9)))), ((b 3), .inl (cI, 200, .inl (fun z9 => nI (X.lev z9)))), ((b 4), .inl (cI, 200, .inl (fun z9 => nI (X.hol z9)))), ((b 5), .inl (cI, 200, .inl (fun z9 => nI (X.sta z9)))), ((b 6), .inl (cI, 200, .inl (fun z9 => nI (X.en z9)))), ((b 7), .inl (cI, 200, .inl (fun z9 => pI (X.fc z9)))), ((b 8), .inl (cI, 200, .inl (fun z9 => pI (X.nx z9))))]) [0, 1, 2, 3, 4, 5, 6, 7, 8, 9, 10] rfl
    replace hD : va_D A [(h, .inr (0, [.ref rr, .long ((wkS X L9 a9 (X.pre r + 2 ^ (32 - X.len r)) sa9 le9).at), .long ((wkS X L9 a9 (X.pre r + 2 ^ (32 - X.len r)) sa9 le9).en), .int ((wkS X L9 a9 (X.pre r + 2 ^ (32 - X.len r)) sa9 le9).ch), .long ((wkS X L9 a9 (X.pre r + 2 ^ (32 - X.len r)) sa9 le9).sa), .int ((wkS X L9 a9 (X.pre r + 2 ^ (32 - X.len r)) sa9 le9).le)])), (rr, .inr (3, [.ref (b 0), .ref (b 1), .ref (b 2), .ref (b 3), .ref (b 4), .ref (b 5), .ref (b 6), .ref (b 7), .ref (b 8), .int (nI X.n)])), ((b 0), .inl (cI, 200, .inl (fun z9 => nI (X.pre z9)))), ((b 1), .inl (cI, 200, .inl (fun z9 => nI (X.len z9)))), ((b 2), .inl (cI, 200, .inl (fun z9 => pI (X.par z9)))), ((b 3), .inl (cI, 200, .inl (fun z9 => nI (X.lev z9)))), ((b 4), .inl (cI, 200, .inl (fun z9 => nI (X.hol z9)))), ((b 5), .inl (cI, 200, .inl (fun z9 => nI (X.sta z9)))), ((b 6), .inl (cI, 200, .inl (fun z9 => nI (X.en z9)))), ((b 7), .inl (cI, 200, .inl (fun z9 => pI (X.fc z9)))), ((b 8), .inl (cI, 200, .inl (fun z9 => pI (X.nx z9))))] := hD.sub (ws' := [(h, .inr (0, [.ref rr, .long ((wkS X L9 a9 (X.pre r + 2 ^ (32 - X.len r)) sa9 le9).at), .long ((wkS X L9 a9 (X.pre r + 2 ^ (32 - X.len r)) sa9 le9).en), .int ((wkS X L9 a9 (X.pre r + 2 ^ (32 - X.len r)) sa9 le9).ch), .long ((wkS X L9 a9 (X.pre r + 2 ^ (32 - X.len r)) sa9 le9).sa), .int ((wkS X L9 a9 (X.pre r + 2 ^ (32 - X.len r)) sa9 le9).le)])), (rr, .inr (3, [.ref (b 0), .ref (b 1), .ref (b 2), .ref (b 3), .ref (b 4), .ref (b 5), .ref (b 6), .ref (b 7), .ref (b 8), .int (nI X.n)])), ((b 0), .inl (cI, 200, .inl (fun z9 => nI (X.pre z9)))), ((b 1), .inl (cI, 200, .inl (fun z9 => nI (X.len z9)))), ((b 2), .inl (cI, 200, .inl (fun z9 => pI (X.par z9)))), ((b 3), .inl (cI, 200, .inl (fun z9 => nI (X.lev z9)))), ((b 4), .inl (cI, 200, .inl (fun z9 => nI (X.hol z9)))), ((b 5), .inl (cI, 200, .inl (fun z9 => nI (X.sta z9)))), ((b 6), .inl (cI, 200, .inl (fun z9 => nI (X.en z9)))), ((b 7), .inl (cI, 200, .inl (fun z9 => pI (X.fc z9)))), ((b 8), .inl (cI, 200, .inl (fun z9 => pI (X.nx z9))))]) [0, 1, 2, 3, 4, 5, 6, 7, 8, 9, 10] (by decide) rfl
    refine lv_if_eq hx hb d_BW_goTo_17 rfl (fun h9 => absurd h9 (fun q => bi_d.mp q c1)) (fun _ => ?_)
    refine lv_iload_n hx hb d_BW_goTo_20 rfl (lv_at hl 0 rfl) ?_
    refine lv_iload_n hx hb d_BW_goTo_21 rfl (lv_at hl 3 rfl) ?_
    refine lv_icmp_ne hx hb d_BW_goTo_22 rfl (fun h22 => ?_) (fun h22 => ?_)
    · have h22 := mt (k_eq (by omega) hk0).mpr h22
      replace hP : va_P (dC, dI) classes (wBW cI h rr b X (wkS X L9 a9 (X.pre r + 2 ^ (32 - X.len r)) sa9 le9)) H := hP
      replace hD : va_D A (wBW cI h rr b X (wkS X L9 a9 (X.pre r + 2 ^ (32 - X.len r)) sa9 le9)) := hD
      rw [wkS_pos c1 c2 c3] at hP hD
      refine lv_iinc hx hb d_BW_goTo_27 hl (k := 0) (v := (nI (i + 1))) rfl (nI_1 i) (by decide) rfl (fun ls hl => ?_)
      replace hl : lv_has ls 4 [(3, .int (nI (i + 1))), (0, .ref h), (1, .int (nI r)), (2, .int (nI k))] := hl
      refine lv_goto hx hb d_BW_goTo_30 rfl ?_
      replace hP : va_P (dC, dI) classes (wBW cI h rr b X (lN (x9.1 + 2 ^ (32 - x9.2)), lN (X.pre r + 2 ^ (32 - X.len r)), pI (stp X L9 a9).1.head?, (lN x9.1), (nI x9.2))) H := hP
      replace hD : va_D A (wBW cI h rr b X (lN (x9.1 + 2 ^ (32 - x9.2)), lN (X.pre r + 2 ^ (32 - X.len r)), pI (stp X L9 a9).1.head?, (lN x9.1), (nI x9.2))) := hD
      refine ih _ _ _ _ _ _ _ _ _ hcb9 (stp_chn hC9 a9) (fun j q => hLm9 j (stp_mem q)) (Nat.le_trans (stp_len _ _ _) hL9) c5 ?_ ?_ hP hD hS hl
      · omega
      · exact (by rw [← hres]; simp only [wkG]; rw [if_neg h22])
    have h22 := (k_eq (by omega) hk0).mp h22
    refine lv_iconst (v := 1) hx hb d_BW_goTo_25 (by decide) ?_
    have e9 : (wkG X (X.pre r + 2 ^ (32 - X.len r)) k L (X.pre r) wk.sa wk.le Bk 0) = (true, wkS X L9 a9 (X.pre r + 2 ^ (32 - X.len r)) sa9 le9) := by rw [← hres]; simp only [wkG]; rw [if_pos h22]
    have hP9 : va_P (dC, dI) classes (wBW cI h rr b X (wkG X (X.pre r + 2 ^ (32 - X.len r)) k L (X.pre r) wk.sa wk.le Bk 0).2) H := by rw [e9]; exact hP
    have hD9 : va_D A (wBW cI h rr b X (wkG X (X.pre r + 2 ^ (32 - X.len r)) k L (X.pre r) wk.sa wk.le Bk 0).2) := by rw [e9]; exact hD
    exact W.zret (v := 1) hx hb hr (by decide) (fun t ht hW => ⟨⟨1, (), rfl, (by rw [e9]; rfl), by rw [ht]; exact hP9, va_K.moved hW.alike hK, hD9⟩, hS.F ht⟩) hS.2.2 d_BW_goTo_26
