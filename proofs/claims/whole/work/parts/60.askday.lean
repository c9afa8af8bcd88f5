theorem omN_lev {X : RS} {j : Nat} (h : omN X j = 0) : X.lev j < 4 := by
  unfold omN at h
  by_cases q : X.lev j < 4
  · exact q
  · rw [if_neg q] at h; exact absurd h (by decide)
abbrev pmN (X : RS) (C : Nat → List Nat) (pol : Nat → Nat) (x : Nat) : Prop := ∀ c9 ∈ C x, X.sta c9 = 1 ∧ X.hol c9 = X.hol x → 2 ^ (32 - X.len c9) * pol (X.lev x) ≤ usedL X (C c9) * 1000
def askN (X : RS) (C : Nat → List Nat) (pol : Nat → Nat) (Bk : Nat → List (Nat × Nat)) (x n : Nat) : Int32 := if x < X.n ∧ X.sta x = 1 then (if X.len x < n ∧ n ≤ 32 then (if omN X x = 0 then (if pmN X C pol x then (match (Bk x).foldl (chS false n) none with
  | none => -1
  | some _ => 0) else -4) else omN X x) else -2) else -5
def wkA (X : RS) (C : Nat → List Nat) (pol : Nat → Nat) (Bk : Nat → List (Nat × Nat)) (x n : Nat) (wk : WK) : WK := if (x < X.n ∧ X.sta x = 1) ∧ (X.len x < n ∧ n ≤ 32) ∧ omN X x = 0 ∧ pmN X C pol x then wkL X (X.pre x + 2 ^ (32 - X.len x)) (C x) (X.pre x) wk.sa wk.le (Bk x) else wk
theorem foldB_mem {u : Bool} {n : Nat} : ∀ (L : List (Nat × Nat)) (D : Option (Nat × Nat)) (y : Nat × Nat), L.foldl (chS u n) D = some y → y ∈ L ∨ D = some y
  | [], D, y, h => Or.inr h
  | x :: t, D, y, h => by
    cases foldB_mem t (chS u n D x) y h with
    | inl q => exact Or.inl (List.mem_cons_of_mem _ q)
    | inr q =>
      unfold chS at q
      split at q
      · cases q; exact Or.inl List.mem_cons_self
      · exact Or.inr q
theorem foldB_lt {u : Bool} {n : Nat} {L : List (Nat × Nat)} {y : Nat × Nat} (hb : ∀ y ∈ L, y.1 < 4294967296) (h : L.foldl (chS u n) none = some y) : y.1 < 4294967296 := by
  cases foldB_mem L none y h with
  | inl q => exact hb y q
  | inr q => exact nomatch q
theorem LIV.mrC {X : RS} (h : LIV X) {r : Nat} (hr : r < X.n) : ∀ p, X.par r = some p → p < 200 ∧ chn X.nx (X.fc p) (cof X ((X.par r).getD 0)) := fun p q => by
  have hp := h.lt hr q
  have hn := h.ok.n
  rw [q]
  exact ⟨by omega, (h.ch (show p < X.n by omega)).1⟩
theorem chw_len (nx : Nat → Option Nat) : ∀ (k : Nat) (o : Option Nat), (chw nx k o).length ≤ k
  | 0, _ => Nat.le_refl _
  | k + 1, none => Nat.zero_le _
  | k + 1, some j => by simp only [chw, List.length_cons]; exact Nat.succ_le_succ (chw_len nx k (nx j))
theorem LIV.mrL {X : RS} (h : LIV X) {r : Nat} (hr : r < X.n) : (cof X ((X.par r).getD 0)).length ≤ 200 := chw_len _ _ _
set_option maxHeartbeats 4000000 in
set_option maxRecDepth 100000 in
theorem c_Le_codeForAsking (l : Launch) (dC : Nat → ClassId) (dI : Nat → Nat → Nat) (sz : Nat) (cI : ClassId) (g : Nat → Nat) (X : RS) (hX : RSok X) (pol : Nat → Nat) (td qd : Nat) (wk : WK) (C : Nat → List Nat) (hCh : ∀ r, r < X.n → chn X.nx (X.fc r) (C r) ∧ (C r).length ≤ 200) (hCn : ∀ r, r < X.n → ∀ c9 ∈ C r, c9 < X.n) (hpol : ∀ v, pol v ≤ 1000) (Bk : Nat → List (Nat × Nat)) (hBk : ∀ r, r < X.n → cbk X (X.pre r + 2 ^ (32 - X.len r)) (C r) (X.pre r) (Bk r) ∧ (Bk r).length < 1000000) (hst : ∀ r, X.pre r + 2 ^ (32 - X.len r) ≤ 4294967296) (x n : Nat) (hx0 : x < 4294967296) (hn0 : n < 4294967296) (hBb : x < X.n → ∀ y ∈ Bk x, y.1 < 4294967296) : Met l y_Le_codeForAsking (.code y_Le_codeForAsking b_Le_codeForAsking 4 (some .int) :: wG) ({ frames := 4, cells := 0, slots := 0, locals := 95 }) (PcM (dC, dI) [(cI, .int)] (wLe cI g X pol td qd wk) [.ref (g 0), .int (nI x), .int (nI n)] sz) (QmI (dC, dI) [(cI, .int)] (wLe cI g X pol td qd wk) (wLe cI g X pol td qd (wkA X C pol Bk x n wk)) sz (askN X C pol Bk x n)) 0 0 (va_A (wLe cI g X pol td qd wk) sz) := by
  refine Met.ofW (cc := b_Le_codeForAsking) (maxL := 4) (ret := (some .int)) (by decide) rfl ?_
  intro pg eg s mg ag bg meth cg s₁ B hml hv
  obtain ⟨rfl, hsz, hP, hK, hD0, hN⟩ := hv
  have hx := B.exec
  have hb := B.bytes
  have hr := B.returns
  have hlocks := B.notSynchronized
  have hts : ∀ w9 ∈ wG, w9.before ([.ref (g 0), .int (nI x), .int (nI n)] : List Value).toArray s = true := fun w9 h9 => atoms_spec (ws := (.code y_Le_codeForAsking b_Le_codeForAsking 4 (some .int) :: wG)) B.pre w9 (List.mem_cons_of_mem _ h9)
  have hown : s.vm.findClass "PrefixRegistry$Ledger" = some mg.cls := findClass_of_methodNamed B.named
  subst hsz
  have hD := hD0.self (sz := s.heap.size)
  unfold QmI
  generalize hAe : va_A (wLe cI g X pol td qd wk) s.heap.size = A at hD ⊢
  have hA : ∀ q : Nat, s.heap.size ≤ q → A q := fun q h => by rw [← hAe]; exact Or.inr h
  have hS : va_S A s.heap s.heap [] := va_S.rf
  have hl := lv_entry ([.ref (g 0), .int (nI x), .int (nI n)]) (n := 4) (Nat.le_of_ble_eq_true rfl)
  rw [lg_entry_eq]
  generalize (lg_sl ([.ref (g 0), .int (nI x), .int (nI n)]) ++ List.replicate (4 - (lg_sl ([.ref (g 0), .int (nI x), .int (nI n)])).length) Slot.unset).toArray = ls at hl ⊢
  replace hl : lv_has ls 4 [(0, .ref (g 0)), (1, .int (nI x)), (2, .int (nI n))] := hl
  replace hP : va_P (dC, dI) classes (wLe cI g X pol td qd wk) s.heap := hP
  replace hD : va_D A (wLe cI g X pol td qd wk) := hD
  refine lv_aload_n hx hb d_Le_codeForAsking_0 rfl (lv_at hl 0 rfl) ?_
  refine va_get (D := (dC, dI)) (ci := 2) (v := .ref (g 3)) (C := R_Le) (T := F_Le) (N := 5) hx hb hts u_Le hown hK hP 0 rfl rfl 0 (by decide) (hts _ kw_112) (fun _ h9 => h9) rfl d_Le_codeForAsking_1 ?_
  refine lv_iload_n hx hb d_Le_codeForAsking_4 rfl (lv_at hl 1 rfl) ?_
  refine vp_callSi (W.runV (b := (g 3)) (As := [.int (nI x)]) (rest := []) ⟨hx, hb, hml, hown, hts⟩ (c_Re_isGiven l dC dI cI (g 3) (fun k => g (4 + k)) X hX x hx0) (cwV 1 hts (gV kw_464 kw_465 kw_466 kw_3 kw_467) rfl rfl rfl (by decide +kernel) ⟨Nat.le_of_ble_eq_true rfl, Nat.le_of_ble_eq_true rfl⟩) ⟨PcS.blind, va_recv (q0 := 0) hK (hP.sub (ws' := wRe cI (g 3) (fun k => g (4 + k)) X) [3, 4, 5, 6, 7, 8, 9, 10, 11, 12] rfl) rfl rfl, PcS.use (hP.sub (ws' := wRe cI (g 3) (fun k => g (4 + k)) X) [3, 4, 5, 6, 7, 8, 9, 10, 11, 12] rfl) hK hN⟩ rfl rfl hl.1 rfl (lv_room (Nat.le_of_ble_eq_true rfl)) d_Le_codeForAsking_5 ⟨Nat.zero_le _, Nat.zero_le _⟩) (fun r5 hr5 => ?_)
  obtain rfl : r5 = bi (decide (x < X.n ∧ X.sta x = 1)) := hr5
  refine lv_if_ne hx hb d_Le_codeForAsking_8 rfl (fun h8 => ?_) (fun h8 => ?_)
  · have h8 := Decidable.not_not.mp (mt bi_d.mpr h8)
    refine lv_aload_n hx hb d_Le_codeForAsking_14 rfl (lv_at hl 0 rfl) ?_
    refine lv_iload_n hx hb d_Le_codeForAsking_15 rfl (lv_at hl 1 rfl) ?_
    refine lv_iload_n hx hb d_Le_codeForAsking_16 rfl (lv_at hl 2 rfl) ?_
    refine vp_callSi (W.runV (b := (g 0)) (As := [.int (nI x), .int (nI n)]) (rest := []) ⟨hx, hb, hml, hown, hts⟩ (c_Le_isLengthBelow l dC dI cI g X hX pol td qd wk x (by have := hX.n; omega) n hn0) (cwV 2 hts (gV kw_472 kw_474 ks_16 kw_2 kw_475) rfl rfl rfl (by decide +kernel) ⟨Nat.le_of_ble_eq_true rfl, Nat.le_of_ble_eq_true rfl⟩) ⟨PcS.blind, va_recv (q0 := 0) hK hP rfl rfl, PcS.use hP hK hN⟩ rfl rfl hl.1 rfl (lv_room (Nat.le_of_ble_eq_true rfl)) d_Le_codeForAsking_17 ⟨Nat.zero_le _, Nat.zero_le _⟩) (fun r17 hr17 => ?_)
    obtain rfl : r17 = bi (decide (X.len x < n ∧ n ≤ 32)) := hr17
    refine lv_if_ne hx hb d_Le_codeForAsking_20 rfl (fun h20 => ?_) (fun h20 => ?_)
    · have h20 := Decidable.not_not.mp (mt bi_d.mpr h20)
      refine lv_aload_n hx hb d_Le_codeForAsking_26 rfl (lv_at hl 0 rfl) ?_
      refine lv_iload_n hx hb d_Le_codeForAsking_27 rfl (lv_at hl 1 rfl) ?_
      refine vp_callSi (W.runV (b := (g 0)) (As := [.int (nI x)]) (rest := []) ⟨hx, hb, hml, hown, hts⟩ (c_Le_codeForOneMore l dC dI cI g X hX pol td qd wk x (by have := hX.n; omega)) (cwV 1 hts (gV kw_476 kw_478 ks_17 kw_2 kw_479) rfl rfl rfl (by decide +kernel) ⟨Nat.le_of_ble_eq_true rfl, Nat.le_of_ble_eq_true rfl⟩) ⟨PcS.blind, va_recv (q0 := 0) hK hP rfl rfl, PcS.use hP hK hN⟩ rfl rfl hl.1 rfl (lv_room (Nat.le_of_ble_eq_true rfl)) d_Le_codeForAsking_28 ⟨Nat.zero_le _, Nat.zero_le _⟩) (fun r28 hr28 => ?_)
      obtain rfl : r28 = (omN X x) := hr28
      refine lv_istore_n hx hb d_Le_codeForAsking_31 rfl hl (by decide) rfl (fun ls hl => ?_)
      replace hl : lv_has ls 4 [(3, .int (omN X x)), (0, .ref (g 0)), (1, .int (nI x)), (2, .int (nI n))] := hl
      refine lv_iload_n hx hb d_Le_codeForAsking_32 rfl (lv_at hl 0 rfl) ?_
      refine lv_if_eq hx hb d_Le_codeForAsking_33 rfl (fun h33 => ?_) (fun h33 => ?_)
      · have h33 := (Iff.rfl).mp h33
        refine lv_aload_n hx hb d_Le_codeForAsking_38 rfl (lv_at hl 1 rfl) ?_
        refine lv_iload_n hx hb d_Le_codeForAsking_39 rfl (lv_at hl 2 rfl) ?_
        refine vp_callSi (W.runV (b := (g 0)) (As := [.int (nI x)]) (rest := []) ⟨hx, hb, hml, hown, hts⟩ (c_Le_isPolicyMet l dC dI cI g X hX pol td qd wk C hCh x (by have := hX.n; omega) (omN_lev h33) hpol (C x) (hCh x h8.1).1 (hCh x h8.1).2 (hCn x h8.1)) (cwV 1 hts (gV kw_481 kw_483 ks_18 kw_2 kw_484) rfl rfl rfl (by decide +kernel) ⟨Nat.le_of_ble_eq_true rfl, Nat.le_of_ble_eq_true rfl⟩) ⟨PcS.blind, va_recv (q0 := 0) hK hP rfl rfl, PcS.use hP hK hN⟩ rfl rfl hl.1 rfl (lv_room (Nat.le_of_ble_eq_true rfl)) d_Le_codeForAsking_40 ⟨Nat.zero_le _, Nat.zero_le _⟩) (fun r40 hr40 => ?_)
        obtain rfl : r40 = bi (decide (∀ c9 ∈ C x, X.sta c9 = 1 ∧ X.hol c9 = X.hol x → 2 ^ (32 - X.len c9) * pol (X.lev x) ≤ usedL X (C c9) * 1000)) := hr40
        refine lv_if_ne hx hb d_Le_codeForAsking_43 rfl (fun h43 => ?_) (fun h43 => ?_)
        · have h43 := Decidable.not_not.mp (mt bi_d.mpr h43)
          refine lv_aload_n hx hb d_Le_codeForAsking_49 rfl (lv_at hl 1 rfl) ?_
          refine lv_iload_n hx hb d_Le_codeForAsking_50 rfl (lv_at hl 2 rfl) ?_
          refine lv_iload_n hx hb d_Le_codeForAsking_51 rfl (lv_at hl 3 rfl) ?_
          refine lv_iconst (v := 0) hx hb d_Le_codeForAsking_52 (by decide) ?_
          have hPc := hP.sub (ws' := (wLe cI g X pol td qd wk)) [0, 1, 2, 3, 4, 5, 6, 7, 8, 9, 10, 11, 12] rfl
          have hDc := hD.sub (ws' := (wLe cI g X pol td qd wk)) [0, 1, 2, 3, 4, 5, 6, 7, 8, 9, 10, 11, 12] (by decide) rfl
          have hFc := va_free (wc := (wLe cI g X pol td qd wk)) hD hS hA [0, 1, 2, 3, 4, 5, 6, 7, 8, 9, 10, 11, 12] rfl
          refine va_calll (va_runV (b := (g 0)) (As := [.int (nI x), .int (nI n), .int 0]) (rest := []) ⟨hx, hb, hml, hown, hts⟩ (c_Le_placeFor l dC dI s.heap.size cI g X hX pol td qd wk x (by have := hX.n; omega) (C x) (Bk x) (hCh x h8.1).1 (fun j q => by have := hCn x h8.1 j q; have := hX.n; omega) (hCh x h8.1).2 (hBk x h8.1).1 (hBk x h8.1).2 (hst x) n (by omega) false) (cwV 3 hts (gV kw_356 kw_358 ks_3 kw_2 kw_359) rfl rfl rfl (by decide +kernel) ⟨Nat.le_of_ble_eq_true rfl, Nat.le_of_ble_eq_true rfl⟩) ⟨PcM.blind, va_recv (q0 := 0) hK hPc rfl rfl, PcM.use hPc hK hN hDc⟩ rfl rfl hl.1 rfl (lv_room (Nat.le_of_ble_eq_true rfl)) d_Le_codeForAsking_53 ⟨Nat.le_of_ble_eq_true rfl, Nat.le_of_ble_eq_true rfl⟩) hS (fun q _ h => hFc q h) hFc (fun r53 u9 H9 H1 locs hH9 hv9 hp9 hB hz1 hk1 hS => ?_)
          obtain rfl : r53 = (boI ((Bk x).foldl (chS false n) none)) := hp9
          obtain ⟨hP1, hK1, hD1⟩ := hB
          rw [hH9] at hP1
          obtain ⟨hP, hD⟩ := va_join (wr := []) (w1 := (wLe cI g X pol td qd (wkL X (X.pre x + 2 ^ (32 - X.len x)) (C x) (X.pre x) wk.sa wk.le (Bk x)))) hP hD [0, 1, 2, 3, 4, 5, 6, 7, 8, 9, 10, 11, 12] [] rfl rfl (by decide) (by decide) hk1 hFc hP1 hD1
          clear hPc hDc hFc hP1 hD1 hK1 hk1 hz1 hv9 hH9
          generalize H1 = H at hP hS ⊢
          replace hP : va_P (dC, dI) classes [((g 0), .inr (2, [.ref (g 3), .ref (g 1), .ref (g 2), .int (nI td), .int (nI qd)])), ((g 1), .inr (0, [.ref (g 3), .long ((wkL X (X.pre x + 2 ^ (32 - X.len x)) (C x) (X.pre x) wk.sa wk.le (Bk x)).at), .long ((wkL X (X.pre x + 2 ^ (32 - X.len x)) (C x) (X.pre x) wk.sa wk.le (Bk x)).en), .int ((wkL X (X.pre x + 2 ^ (32 - X.len x)) (C x) (X.pre x) wk.sa wk.le (Bk x)).ch), .long ((wkL X (X.pre x + 2 ^ (32 - X.len x)) (C x) (X.pre x) wk.sa wk.le (Bk x)).sa), .int ((wkL X (X.pre x + 2 ^ (32 - X.len x)) (C x) (X.pre x) wk.sa wk.le (Bk x)).le)])), ((g 2), .inl (cI, 4, .inl (fun z9 => nI (pol z9)))), ((g 3), .inr (3, [.ref (g 4), .ref (g 5), .ref (g 6), .ref (g 7), .ref (g 8), .ref (g 9), .ref (g 10), .ref (g 11), .ref (g 12), .int (nI X.n)])), ((g 4), .inl (cI, 200, .inl (fun z9 => nI (X.pre z9)))), ((g 5), .inl (cI, 200, .inl (fun z9 => nI (X.len z9)))), ((g 6), .inl (cI, 200, .inl (fun z9 => pI (X.par z9)))), ((g 7), .inl (cI, 200, .inl (fun z9 => nI (X.lev z9)))), ((g 8), .inl (cI, 200, .inl (fun z9 => nI (X.hol z9)))), ((g 9), .inl (cI, 200, .inl (fun z9 => nI (X.sta z9)))), ((g 10), .inl (cI, 200, .inl (fun z9 => nI (X.en z9)))), ((g 11), .inl (cI, 200, .inl (fun z9 => pI (X.fc z9)))), ((g 12), .inl (cI, 200, .inl (fun z9 => pI (X.nx z9))))] H := hP.sub (ws' := [((g 0), .inr (2, [.ref (g 3), .ref (g 1), .ref (g 2), .int (nI td), .int (nI qd)])), ((g 1), .inr (0, [.ref (g 3), .long ((wkL X (X.pre x + 2 ^ (32 - X.len x)) (C x) (X.pre x) wk.sa wk.le (Bk x)).at), .long ((wkL X (X.pre x + 2 ^ (32 - X.len x)) (C x) (X.pre x) wk.sa wk.le (Bk x)).en), .int ((wkL X (X.pre x + 2 ^ (32 - X.len x)) (C x) (X.pre x) wk.sa wk.le (Bk x)).ch), .long ((wkL X (X.pre x + 2 ^ (32 - X.len x)) (C x) (X.pre x) wk.sa wk.le (Bk x)).sa), .int ((wkL X (X.pre x + 2 ^ (32 - X.len x)) (C x) (X.pre x) wk.sa wk.le (Bk x)).le)])), ((g 2), .inl (cI, 4, .inl (fun z9 => nI (pol z9)))), ((g 3), .inr (3, [.ref (g 4), .ref (g 5), .ref (g 6), .ref (g 7), .ref (g 8), .ref (g 9), .ref (g 10), .ref (g 11), .ref (g 12), .int (nI X.n)])), ((g 4), .inl (cI, 200, .inl (fun z9 => nI (X.pre z9)))), ((g 5), .inl (cI, 200, .inl (fun z9 => nI (X.len z9)))), ((g 6), .inl (cI, 200, .inl (fun z9 => pI (X.par z9)))), ((g 7), .inl (cI, 200, .inl (fun z9 => nI (X.lev z9)))), ((g 8), .inl (cI, 200, .inl (fun z9 => nI (X.hol z9)))), ((g 9), .inl (cI, 200, .inl (fun z9 => nI (X.sta z9)))), ((g 10), .inl (cI, 200, .inl (fun z9 => nI (X.en z9)))), ((g 11), .inl (cI, 200, .inl (fun z9 => pI (X.fc z9)))), ((g 12), .inl (cI, 200, .inl (fun z9 => pI (X.nx z9))))]) [0, 1, 2, 3, 4, 5, 6, 7, 8, 9, 10, 11, 12] rfl
          replace hD : va_D A [((g 0), .inr (2, [.ref (g 3), .ref (g 1), .ref (g 2), .int (nI td), .int (nI qd)])), ((g 1), .inr (0, [.ref (g 3), .long ((wkL X (X.pre x + 2 ^ (32 - X.len x)) (C x) (X.pre x) wk.sa wk.le (Bk x)).at), .long ((wkL X (X.pre x + 2 ^ (32 - X.len x)) (C x) (X.pre x) wk.sa wk.le (Bk x)).en), .int ((wkL X (X.pre x + 2 ^ (32 - X.len x)) (C x) (X.pre x) wk.sa wk.le (Bk x)).ch), .long ((wkL X (X.pre x + 2 ^ (32 - X.len x)) (C x) (X.pre x) wk.sa wk.le (Bk x)).sa), .int ((wkL X (X.pre x + 2 ^ (32 - X.len x)) (C x) (X.pre x) wk.sa wk.le (Bk x)).le)])), ((g 2), .inl (cI, 4, .inl (fun z9 => nI (pol z9)))), ((g 3), .inr (3, [.ref (g 4), .ref (g 5), .ref (g 6), .ref (g 7), .ref (g 8), .ref (g 9), .ref (g 10), .ref (g 11), .ref (g 12), .int (nI X.n)])), ((g 4), .inl (cI, 200, .inl (fun z9 => nI (X.pre z9)))), ((g 5), .inl (cI, 200, .inl (fun z9 => nI (X.len z9)))), ((g 6), .inl (cI, 200, .inl (fun z9 => pI (X.par z9)))), ((g 7), .inl (cI, 200, .inl (fun z9 => nI (X.lev z9)))), ((g 8), .inl (cI, 200, .inl (fun z9 => nI (X.hol z9)))), ((g 9), .inl (cI, 200, .inl (fun z9 => nI (X.sta z9)))), ((g 10), .inl (cI, 200, .inl (fun z9 => nI (X.en z9)))), ((g 11), .inl (cI, 200, .inl (fun z9 => pI (X.fc z9)))), ((g 12), .inl (cI, 200, .inl (fun z9 => pI (X.nx z9))))] := hD.sub (ws' := [((g 0), .inr (2, [.ref (g 3), .ref (g 1), .ref (g 2), .int (nI td), .int (nI qd)])), ((g 1), .inr (0, [.ref (g 3), .long ((wkL X (X.pre x + 2 ^ (32 - X.len x)) (C x) (X.pre x) wk.sa wk.le (Bk x)).at), .long ((wkL X (X.pre x + 2 ^ (32 - X.len x)) (C x) (X.pre x) wk.sa wk.le (Bk x)).en), .int ((wkL X (X.pre x + 2 ^ (32 - X.len x)) (C x) (X.pre x) wk.sa wk.le (Bk x)).ch), .long ((wkL X (X.pre x + 2 ^ (32 - X.len x)) (C x) (X.pre x) wk.sa wk.le (Bk x)).sa), .int ((wkL X (X.pre x + 2 ^ (32 - X.len x)) (C x) (X.pre x) wk.sa wk.le (Bk x)).le)])), ((g 2), .inl (cI, 4, .inl (fun z9 => nI (pol z9)))), ((g 3), .inr (3, [.ref (g 4), .ref (g 5), .ref (g 6), .ref (g 7), .ref (g 8), .ref (g 9), .ref (g 10), .ref (g 11), .ref (g 12), .int (nI X.n)])), ((g 4), .inl (cI, 200, .inl (fun z9 => nI (X.pre z9)))), ((g 5), .inl (cI, 200, .inl (fun z9 => nI (X.len z9)))), ((g 6), .inl (cI, 200, .inl (fun z9 => pI (X.par z9)))), ((g 7), .inl (cI, 200, .inl (fun z9 => nI (X.lev z9)))), ((g 8), .inl (cI, 200, .inl (fun z9 => nI (X.hol z9)))), ((g 9), .inl (cI, 200, .inl (fun z9 => nI (X.sta z9)))), ((g 10), .inl (cI, 200, .inl (fun z9 => nI (X.en z9)))), ((g 11), .inl (cI, 200, .inl (fun z9 => pI (X.fc z9)))), ((g 12), .inl (cI, 200, .inl (fun z9 => pI (X.nx z9))))]) [0, 1, 2, 3, 4, 5, 6, 7, 8, 9, 10, 11, 12] (by decide) rfl
          obtain ⟨D9, hDq⟩ : ∃ D9, D9 = (Bk x).foldl (chS false n) none := ⟨_, rfl⟩
          rw [← hDq]
          cases D9 with
          | none =>
            refine lv_ldc2 hx hb hown (hts _ kw_360) d_Le_codeForAsking_56 ?_
            refine W.lcmp hx hb d_Le_codeForAsking_59 ?_
            refine lv_if_ne hx hb d_Le_codeForAsking_60 rfl (fun h9 => absurd h9 (by decide)) (fun _ => ?_)
            refine lv_iconst (v := (-1)) hx hb d_Le_codeForAsking_63 (by decide) ?_
            refine lv_goto hx hb d_Le_codeForAsking_64 rfl ?_
            have e9 : wkA X C pol Bk x n wk = (wkL X (X.pre x + 2 ^ (32 - X.len x)) (C x) (X.pre x) wk.sa wk.le (Bk x)) := by unfold wkA; rw [if_pos ⟨h8, h20, h33, h43⟩]
            have hP9 : va_P (dC, dI) classes (wLe cI g X pol td qd (wkA X C pol Bk x n wk)) H := by rw [e9]; exact hP
            have hD9 : va_D A (wLe cI g X pol td qd (wkA X C pol Bk x n wk)) := by rw [e9]; exact hD
            exact W.iret (v := (-1)) hx hb hr (fun t ht hW => ⟨⟨(-1), (), rfl, (by unfold askN; rw [if_pos h8, if_pos h20, if_pos h33, if_pos h43, ← hDq]), by rw [ht]; exact hP9, va_K.moved hW.alike hK, hD9⟩, hS.F ht⟩) hS.2.2 d_Le_codeForAsking_68
          | some y9 =>
            refine lv_ldc2 hx hb hown (hts _ kw_360) d_Le_codeForAsking_56 ?_
            refine W.lcmp hx hb d_Le_codeForAsking_59 ?_
            refine lv_if_ne hx hb d_Le_codeForAsking_60 rfl (fun h60 => ?_) (fun h9 => absurd h9 (k_cm1 (foldB_lt (hBb h8.1) hDq.symm)))
            refine lv_iconst (v := 0) hx hb d_Le_codeForAsking_67 (by decide) ?_
            have e9 : wkA X C pol Bk x n wk = (wkL X (X.pre x + 2 ^ (32 - X.len x)) (C x) (X.pre x) wk.sa wk.le (Bk x)) := by unfold wkA; rw [if_pos ⟨h8, h20, h33, h43⟩]
            have hP9 : va_P (dC, dI) classes (wLe cI g X pol td qd (wkA X C pol Bk x n wk)) H := by rw [e9]; exact hP
            have hD9 : va_D A (wLe cI g X pol td qd (wkA X C pol Bk x n wk)) := by rw [e9]; exact hD
            exact W.iret (v := 0) hx hb hr (fun t ht hW => ⟨⟨0, (), rfl, (by unfold askN; rw [if_pos h8, if_pos h20, if_pos h33, if_pos h43, ← hDq]), by rw [ht]; exact hP9, va_K.moved hW.alike hK, hD9⟩, hS.F ht⟩) hS.2.2 d_Le_codeForAsking_68
        have h43 := bi_d.mp h43
        refine lv_bipush (v := (-4)) hx hb d_Le_codeForAsking_46 (by decide) ?_
        have e9 : wkA X C pol Bk x n wk = wk := by unfold wkA; rw [if_neg (fun q => h43 q.2.2.2)]
        have hP9 : va_P (dC, dI) classes (wLe cI g X pol td qd (wkA X C pol Bk x n wk)) s.heap := by rw [e9]; exact hP
        have hD9 : va_D A (wLe cI g X pol td qd (wkA X C pol Bk x n wk)) := by rw [e9]; exact hD
        exact W.iret (v := (-4)) hx hb hr (fun t ht hW => ⟨⟨(-4), (), rfl, (by unfold askN; rw [if_pos h8, if_pos h20, if_pos h33, if_neg h43]), by rw [ht]; exact hP9, va_K.moved hW.alike hK, hD9⟩, hS.F ht⟩) hS.2.2 d_Le_codeForAsking_48
      have h33 := mt (Iff.rfl).mpr h33
      refine lv_iload_n hx hb d_Le_codeForAsking_36 rfl (lv_at hl 0 rfl) ?_
      have e9 : wkA X C pol Bk x n wk = wk := by unfold wkA; rw [if_neg (fun q => h33 q.2.2.1)]
      have hP9 : va_P (dC, dI) classes (wLe cI g X pol td qd (wkA X C pol Bk x n wk)) s.heap := by rw [e9]; exact hP
      have hD9 : va_D A (wLe cI g X pol td qd (wkA X C pol Bk x n wk)) := by rw [e9]; exact hD
      exact W.iret (v := (omN X x)) hx hb hr (fun t ht hW => ⟨⟨(omN X x), (), rfl, (by unfold askN; rw [if_pos h8, if_pos h20, if_neg h33]), by rw [ht]; exact hP9, va_K.moved hW.alike hK, hD9⟩, hS.F ht⟩) hS.2.2 d_Le_codeForAsking_37
    have h20 := bi_d.mp h20
    refine lv_bipush (v := (-2)) hx hb d_Le_codeForAsking_23 (by decide) ?_
    have e9 : wkA X C pol Bk x n wk = wk := by unfold wkA; rw [if_neg (fun q => h20 q.2.1)]
    have hP9 : va_P (dC, dI) classes (wLe cI g X pol td qd (wkA X C pol Bk x n wk)) s.heap := by rw [e9]; exact hP
    have hD9 : va_D A (wLe cI g X pol td qd (wkA X C pol Bk x n wk)) := by rw [e9]; exact hD
    exact W.iret (v := (-2)) hx hb hr (fun t ht hW => ⟨⟨(-2), (), rfl, (by unfold askN; rw [if_pos h8, if_neg h20]), by rw [ht]; exact hP9, va_K.moved hW.alike hK, hD9⟩, hS.F ht⟩) hS.2.2 d_Le_codeForAsking_25
  have h8 := bi_d.mp h8
  refine lv_bipush (v := (-5)) hx hb d_Le_codeForAsking_11 (by decide) ?_
  have e9 : wkA X C pol Bk x n wk = wk := by unfold wkA; rw [if_neg (fun q => h8 q.1)]
  have hP9 : va_P (dC, dI) classes (wLe cI g X pol td qd (wkA X C pol Bk x n wk)) s.heap := by rw [e9]; exact hP
  have hD9 : va_D A (wLe cI g X pol td qd (wkA X C pol Bk x n wk)) := by rw [e9]; exact hD
  exact W.iret (v := (-5)) hx hb hr (fun t ht hW => ⟨⟨(-5), (), rfl, (by unfold askN; rw [if_neg h8]), by rw [ht]; exact hP9, va_K.moved hW.alike hK, hD9⟩, hS.F ht⟩) hS.2.2 d_Le_codeForAsking_13
set_option maxHeartbeats 4000000 in
set_option maxRecDepth 100000 in
theorem c_Le_beginDay (l : Launch) (dC : Nat → ClassId) (dI : Nat → Nat → Nat) (sz : Nat) (cI : ClassId) (g : Nat → Nat) (X : RS) (pol : Nat → Nat) (td qd : Nat) (wk : WK) (hX : LIV X) (n : Nat) (hn : n ≤ 100000) : Met l y_Le_beginDay (.code y_Le_beginDay b_Le_beginDay 4 (some .int) :: wG) ({ frames := 3, cells := 0, slots := 0, locals := 68 }) (PcM (dC, dI) [(cI, .int)] (wLe cI g X pol td qd wk) [.ref (g 0), .int (nI n)] sz) (QmI (dC, dI) [(cI, .int)] (wLe cI g X pol td qd wk) (wLe cI g (bgd n 0 X.n X 0).1 pol n qd wk) sz (nI (bgd n 0 X.n X 0).2)) 0 0 (va_A (wLe cI g X pol td qd wk) sz) := by
  refine Met.ofW (cc := b_Le_beginDay) (maxL := 4) (ret := (some .int)) (by decide) rfl ?_
  intro pg eg s mg ag bg meth cg s₁ B hml hv
  obtain ⟨rfl, hsz, hP, hK, hD0, hN⟩ := hv
  have hx := B.exec
  have hb := B.bytes
  have hr := B.returns
  have hlocks := B.notSynchronized
  have hts : ∀ w9 ∈ wG, w9.before ([.ref (g 0), .int (nI n)] : List Value).toArray s = true := fun w9 h9 => atoms_spec (ws := (.code y_Le_beginDay b_Le_beginDay 4 (some .int) :: wG)) B.pre w9 (List.mem_cons_of_mem _ h9)
  have hown : s.vm.findClass "PrefixRegistry$Ledger" = some mg.cls := findClass_of_methodNamed B.named
  subst hsz
  have hD := hD0.self (sz := s.heap.size)
  unfold QmI
  generalize hAe : va_A (wLe cI g X pol td qd wk) s.heap.size = A at hD ⊢
  have hA : ∀ q : Nat, s.heap.size ≤ q → A q := fun q h => by rw [← hAe]; exact Or.inr h
  have hS : va_S A s.heap s.heap [] := va_S.rf
  have hl := lv_entry ([.ref (g 0), .int (nI n)]) (n := 4) (Nat.le_of_ble_eq_true rfl)
  rw [lg_entry_eq]
  generalize (lg_sl ([.ref (g 0), .int (nI n)]) ++ List.replicate (4 - (lg_sl ([.ref (g 0), .int (nI n)])).length) Slot.unset).toArray = ls at hl ⊢
  replace hl : lv_has ls 4 [(0, .ref (g 0)), (1, .int (nI n))] := hl
  replace hP : va_P (dC, dI) classes (wLe cI g X pol td qd wk) s.heap := hP
  replace hD : va_D A (wLe cI g X pol td qd wk) := hD
  refine lv_aload_n hx hb d_Le_beginDay_0 rfl (lv_at hl 0 rfl) ?_
  refine lv_iload_n hx hb d_Le_beginDay_1 rfl (lv_at hl 1 rfl) ?_
  refine va_put (D := (dC, dI)) (ci := 2) (v := .int (nI n)) (ty := .int) (C := R_Le) (T := F_Le) (N := 5) hx hb hts u_Le t_Le t_Le_ok n_Le hown hK hP hD hS 0 rfl rfl 3 (by decide) (hts _ kw_117) (fun _ h9 => h9) rfl (by decide +kernel) rfl rfl (Nat.le_of_ble_eq_true rfl) d_Le_beginDay_2 (fun H locs hP hD hS => ?_)
  replace hP : va_P (dC, dI) classes [((g 0), .inr (2, [.ref (g 3), .ref (g 1), .ref (g 2), .int (nI n), .int (nI qd)])), ((g 1), .inr (0, [.ref (g 3), .long wk.at, .long wk.en, .int wk.ch, .long wk.sa, .int wk.le])), ((g 2), .inl (cI, 4, .inl (fun z9 => nI (pol z9)))), ((g 3), .inr (3, [.ref (g 4), .ref (g 5), .ref (g 6), .ref (g 7), .ref (g 8), .ref (g 9), .ref (g 10), .ref (g 11), .ref (g 12), .int (nI X.n)])), ((g 4), .inl (cI, 200, .inl (fun z9 => nI (X.pre z9)))), ((g 5), .inl (cI, 200, .inl (fun z9 => nI (X.len z9)))), ((g 6), .inl (cI, 200, .inl (fun z9 => pI (X.par z9)))), ((g 7), .inl (cI, 200, .inl (fun z9 => nI (X.lev z9)))), ((g 8), .inl (cI, 200, .inl (fun z9 => nI (X.hol z9)))), ((g 9), .inl (cI, 200, .inl (fun z9 => nI (X.sta z9)))), ((g 10), .inl (cI, 200, .inl (fun z9 => nI (X.en z9)))), ((g 11), .inl (cI, 200, .inl (fun z9 => pI (X.fc z9)))), ((g 12), .inl (cI, 200, .inl (fun z9 => pI (X.nx z9))))] H := hP
  replace hD : va_D A [((g 0), .inr (2, [.ref (g 3), .ref (g 1), .ref (g 2), .int (nI n), .int (nI qd)])), ((g 1), .inr (0, [.ref (g 3), .long wk.at, .long wk.en, .int wk.ch, .long wk.sa, .int wk.le])), ((g 2), .inl (cI, 4, .inl (fun z9 => nI (pol z9)))), ((g 3), .inr (3, [.ref (g 4), .ref (g 5), .ref (g 6), .ref (g 7), .ref (g 8), .ref (g 9), .ref (g 10), .ref (g 11), .ref (g 12), .int (nI X.n)])), ((g 4), .inl (cI, 200, .inl (fun z9 => nI (X.pre z9)))), ((g 5), .inl (cI, 200, .inl (fun z9 => nI (X.len z9)))), ((g 6), .inl (cI, 200, .inl (fun z9 => pI (X.par z9)))), ((g 7), .inl (cI, 200, .inl (fun z9 => nI (X.lev z9)))), ((g 8), .inl (cI, 200, .inl (fun z9 => nI (X.hol z9)))), ((g 9), .inl (cI, 200, .inl (fun z9 => nI (X.sta z9)))), ((g 10), .inl (cI, 200, .inl (fun z9 => nI (X.en z9)))), ((g 11), .inl (cI, 200, .inl (fun z9 => pI (X.fc z9)))), ((g 12), .inl (cI, 200, .inl (fun z9 => pI (X.nx z9))))] := hD
  refine lv_iconst (v := 0) hx hb d_Le_beginDay_5 (by decide) ?_
  refine lv_istore_n hx hb d_Le_beginDay_6 rfl hl (by decide) rfl (fun ls hl => ?_)
  replace hl : lv_has ls 4 [(2, .int 0), (0, .ref (g 0)), (1, .int (nI n))] := hl
  refine lv_iconst (v := 0) hx hb d_Le_beginDay_7 (by decide) ?_
  refine lv_istore_n hx hb d_Le_beginDay_8 rfl hl (by decide) rfl (fun ls hl => ?_)
  replace hl : lv_has ls 4 [(3, .int 0), (2, .int 0), (0, .ref (g 0)), (1, .int (nI n))] := hl
  obtain ⟨Y, hY⟩ : ∃ Y : RS, Y = X := ⟨_, rfl⟩
  obtain ⟨i, hi0⟩ : ∃ i : Nat, i = 0 := ⟨_, rfl⟩
  obtain ⟨k, hk0⟩ : ∃ k : Nat, k = X.n - 0 := ⟨_, rfl⟩
  obtain ⟨sm, hsm⟩ : ∃ sm : Nat, sm = 0 := ⟨_, rfl⟩
  have hres : bgd n i k Y sm = bgd n 0 X.n X 0 := by rw [hi0, hk0, hY, hsm]; rfl
  have hYL : LIV Y ∧ Y.n = X.n := by rw [hY]; exact ⟨hX, rfl⟩
  replace hP : va_P (dC, dI) classes (wLe cI g Y pol n qd wk) H := by subst hY; exact hP
  replace hD : va_D A (wLe cI g Y pol n qd wk) := by subst hY; exact hD
  replace hl : lv_has ls 4 [(3, .int (nI i)), (2, .int (nI sm)), (0, .ref (g 0)), (1, .int (nI n))] := by subst hi0; subst hsm; exact hl
  have hik : i + k = X.n := by omega
  clear hi0 hk0 hsm hY
  replace hres := hres
  replace hYL := hYL
  replace hP := hP
  replace hD := hD
  replace hS := hS
  replace hl : lv_has ls 4 [(3, .int (nI i)), (2, .int (nI sm)), (0, .ref (g 0)), (1, .int (nI n))] := hl
  induction k generalizing i ls H locs sm Y with
  | zero =>
    refine lv_iload_n hx hb d_Le_beginDay_9 rfl (lv_at hl 0 rfl) ?_
    refine lv_aload_n hx hb d_Le_beginDay_10 rfl (lv_at hl 2 rfl) ?_
    refine va_get (D := (dC, dI)) (ci := 2) (v := .ref (g 3)) (C := R_Le) (T := F_Le) (N := 5) hx hb hts u_Le hown hK hP 0 rfl rfl 0 (by decide) (hts _ kw_112) (fun _ h9 => h9) rfl d_Le_beginDay_11 ?_
    have hY := hYL.1
    have hYn := hYL.2
    refine va_getN (D := (dC, dI)) (ci := 3) (v := .int (nI Y.n)) (C := R_Re) (T := F_Re) (N := 10) hx hb hts u_Re hown hK hP 3 rfl rfl 9 (by decide) (va_Nw.use rfl (hN.at 59 nw_59 rfl)) (fun _ h9 => h9) rfl d_Le_beginDay_14 ?_
    refine x_topi (y := (nI X.n)) (by rw [← hYn]) ?_
    refine lv_icmp_ge hx hb d_Le_beginDay_17 rfl (fun _ => ?_) (fun h9 => absurd (nI_le (by omega) (by have := hX.ok.n; omega)) h9)
    refine lv_iload_n hx hb d_Le_beginDay_63 rfl (lv_at hl 1 rfl) ?_
    have e9 : bgd n 0 X.n X 0 = (Y, sm) := hres.symm
    have hP9 : va_P (dC, dI) classes (wLe cI g (bgd n 0 X.n X 0).1 pol n qd wk) H := by rw [e9]; exact hP
    have hD9 : va_D A (wLe cI g (bgd n 0 X.n X 0).1 pol n qd wk) := by rw [e9]; exact hD
    exact W.iret (v := (nI sm)) hx hb hr (fun t ht hW => ⟨⟨(nI sm), (), rfl, (by rw [← hres]; rfl), by rw [ht]; exact hP9, va_K.moved hW.alike hK, hD9⟩, hS.F ht⟩) hS.2.2 d_Le_beginDay_64
  | succ k ih =>
    refine lv_iload_n hx hb d_Le_beginDay_9 rfl (lv_at hl 0 rfl) ?_
    refine lv_aload_n hx hb d_Le_beginDay_10 rfl (lv_at hl 2 rfl) ?_
    refine va_get (D := (dC, dI)) (ci := 2) (v := .ref (g 3)) (C := R_Le) (T := F_Le) (N := 5) hx hb hts u_Le hown hK hP 0 rfl rfl 0 (by decide) (hts _ kw_112) (fun _ h9 => h9) rfl d_Le_beginDay_11 ?_
    have hY := hYL.1
    have hYn := hYL.2
    refine va_getN (D := (dC, dI)) (ci := 3) (v := .int (nI Y.n)) (C := R_Re) (T := F_Re) (N := 10) hx hb hts u_Re hown hK hP 3 rfl rfl 9 (by decide) (va_Nw.use rfl (hN.at 59 nw_59 rfl)) (fun _ h9 => h9) rfl d_Le_beginDay_14 ?_
    refine x_topi (y := (nI X.n)) (by rw [← hYn]) ?_
    refine lv_icmp_ge hx hb d_Le_beginDay_17 rfl (fun h9 => absurd h9 (nI_ge (by omega) (by have := hX.ok.n; omega))) (fun _ => ?_)
    refine lv_aload_n hx hb d_Le_beginDay_20 rfl (lv_at hl 2 rfl) ?_
    refine va_get (D := (dC, dI)) (ci := 2) (v := .ref (g 3)) (C := R_Le) (T := F_Le) (N := 5) hx hb hts u_Le hown hK hP 0 rfl rfl 0 (by decide) (hts _ kw_112) (fun _ h9 => h9) rfl d_Le_beginDay_21 ?_
    refine va_getN (D := (dC, dI)) (ci := 3) (v := .ref (g 9)) (C := R_Re) (T := F_Re) (N := 10) hx hb hts u_Re hown hK hP 3 rfl rfl 5 (by decide) (va_Nw.use rfl (hN.at 49 nw_49 rfl)) (fun _ h9 => h9) rfl d_Le_beginDay_24 ?_
    refine lv_iload_n hx hb d_Le_beginDay_27 rfl (lv_at hl 0 rfl) ?_
    refine x_iald (j := i) (v := (nI (Y.sta i))) hx hb hK hP 9 0 rfl rfl (by have := hX.ok.n; omega) (by decide) rfl rfl d_Le_beginDay_28 ?_
    refine lv_iconst (v := 3) hx hb d_Le_beginDay_29 (by decide) ?_
    refine lv_icmp_ne hx hb d_Le_beginDay_30 rfl (fun h30 => ?_) (fun h30 => ?_)
    · have h30 := mt (k_eq (b := 3) (by have := hY.ok.sta i; omega) (by decide)).mpr h30
      refine lv_iinc hx hb d_Le_beginDay_57 hl (k := 0) (v := (nI (i + 1))) rfl (nI_1 i) (by decide) rfl (fun ls hl => ?_)
      replace hl : lv_has ls 4 [(3, .int (nI (i + 1))), (2, .int (nI sm)), (0, .ref (g 0)), (1, .int (nI n))] := hl
      refine lv_goto hx hb d_Le_beginDay_60 rfl ?_
      replace hP : va_P (dC, dI) classes (wLe cI g Y pol n qd wk) H := hP
      replace hD : va_D A (wLe cI g Y pol n qd wk) := hD
      refine ih _ _ _ _ _ _ ?_ ?_ ?_ hP hD hS hl
      · omega
      · exact (by rw [← hres]; simp only [bgd]; rw [if_neg (fun q => h30 q.1)])
      · exact hYL
    have h30 := (k_eq (b := 3) (by have := hY.ok.sta i; omega) (by decide)).mp h30
    refine lv_aload_n hx hb d_Le_beginDay_33 rfl (lv_at hl 2 rfl) ?_
    refine va_get (D := (dC, dI)) (ci := 2) (v := .ref (g 3)) (C := R_Le) (T := F_Le) (N := 5) hx hb hts u_Le hown hK hP 0 rfl rfl 0 (by decide) (hts _ kw_112) (fun _ h9 => h9) rfl d_Le_beginDay_34 ?_
    refine va_getN (D := (dC, dI)) (ci := 3) (v := .ref (g 10)) (C := R_Re) (T := F_Re) (N := 10) hx hb hts u_Re hown hK hP 3 rfl rfl 6 (by decide) (va_Nw.use rfl (hN.at 51 nw_51 rfl)) (fun _ h9 => h9) rfl d_Le_beginDay_37 ?_
    refine lv_iload_n hx hb d_Le_beginDay_40 rfl (lv_at hl 0 rfl) ?_
    refine x_iald (j := i) (v := (nI (Y.en i))) hx hb hK hP 10 0 rfl rfl (by have := hX.ok.n; omega) (by decide) rfl rfl d_Le_beginDay_41 ?_
    refine lv_iload_n hx hb d_Le_beginDay_42 rfl (lv_at hl 3 rfl) ?_
    refine lv_icmp_gt hx hb d_Le_beginDay_43 rfl (fun h43 => ?_) (fun h43 => ?_)
    · have h43 := (nI_ltI (by omega) (by have := hY.ok.en i; omega)).mp h43
      refine lv_iinc hx hb d_Le_beginDay_57 hl (k := 0) (v := (nI (i + 1))) rfl (nI_1 i) (by decide) rfl (fun ls hl => ?_)
      replace hl : lv_has ls 4 [(3, .int (nI (i + 1))), (2, .int (nI sm)), (0, .ref (g 0)), (1, .int (nI n))] := hl
      refine lv_goto hx hb d_Le_beginDay_60 rfl ?_
      replace hP : va_P (dC, dI) classes (wLe cI g Y pol n qd wk) H := hP
      replace hD : va_D A (wLe cI g Y pol n qd wk) := hD
      refine ih _ _ _ _ _ _ ?_ ?_ ?_ hP hD hS hl
      · omega
      · exact (by rw [← hres]; simp only [bgd]; rw [if_neg (fun q => by omega)])
      · exact hYL
    have h43 := mt (nI_ltI (by omega) (by have := hY.ok.en i; omega)).mpr h43
    refine lv_aload_n hx hb d_Le_beginDay_46 rfl (lv_at hl 2 rfl) ?_
    refine va_get (D := (dC, dI)) (ci := 2) (v := .ref (g 3)) (C := R_Le) (T := F_Le) (N := 5) hx hb hts u_Le hown hK hP 0 rfl rfl 0 (by decide) (hts _ kw_112) (fun _ h9 => h9) rfl d_Le_beginDay_47 ?_
    refine lv_iload_n hx hb d_Le_beginDay_50 rfl (lv_at hl 0 rfl) ?_
    have hPc := hP.sub (ws' := (wRe cI (g 3) (fun k => g (4 + k)) Y)) [3, 4, 5, 6, 7, 8, 9, 10, 11, 12] rfl
    have hDc := hD.sub (ws' := (wRe cI (g 3) (fun k => g (4 + k)) Y)) [3, 4, 5, 6, 7, 8, 9, 10, 11, 12] (by decide) rfl
    have hFc := va_free (wc := (wRe cI (g 3) (fun k => g (4 + k)) Y)) hD hS hA [3, 4, 5, 6, 7, 8, 9, 10, 11, 12] rfl
    refine va_callv (va_runV (b := (g 3)) (As := [.int (nI i)]) (rest := []) ⟨hx, hb, hml, hown, hts⟩ (c_Re_markReturned l dC dI H.size cI (g 3) (fun k => g (4 + k)) Y hY.ok i (by have := hX.ok.n; omega) (cof Y ((Y.par i).getD 0)) (hY.mrC (by omega)) (hY.mrL (by omega))) (cwV 1 hts (gV kw_409 kw_410 kw_411 kw_3 kw_412) rfl rfl rfl (by decide +kernel) ⟨Nat.le_of_ble_eq_true rfl, Nat.le_of_ble_eq_true rfl⟩) ⟨PcM.blind, va_recv (q0 := 0) hK hPc rfl rfl, PcM.use hPc hK hN hDc⟩ rfl rfl hl.1 rfl (lv_room (Nat.le_of_ble_eq_true rfl)) d_Le_beginDay_51 ⟨Nat.le_of_ble_eq_true rfl, Nat.le_of_ble_eq_true rfl⟩) hS (fun q _ h => hFc q h) hFc (fun u9 H9 H1 locs hH9 hv9 hp9 hB hz1 hk1 hS => ?_)
    obtain ⟨hP1, hK1, hD1⟩ := hB
    rw [hH9] at hP1
    obtain ⟨hP, hD⟩ := va_join (wr := [((g 0), .inr (2, [.ref (g 3), .ref (g 1), .ref (g 2), .int (nI n), .int (nI qd)])), ((g 1), .inr (0, [.ref (g 3), .long wk.at, .long wk.en, .int wk.ch, .long wk.sa, .int wk.le])), ((g 2), .inl (cI, 4, .inl (fun z9 => nI (pol z9))))]) (w1 := (wRe cI (g 3) (fun k => g (4 + k)) (rRet Y i (cof Y ((Y.par i).getD 0))))) hP hD [3, 4, 5, 6, 7, 8, 9, 10, 11, 12] [0, 1, 2] rfl rfl (by decide) (by decide) hk1 hFc hP1 hD1
    clear hPc hDc hFc hP1 hD1 hK1 hk1 hz1 hv9 hH9
    generalize H1 = H at hP hS ⊢
    replace hP : va_P (dC, dI) classes [((g 0), .inr (2, [.ref (g 3), .ref (g 1), .ref (g 2), .int (nI n), .int (nI qd)])), ((g 1), .inr (0, [.ref (g 3), .long wk.at, .long wk.en, .int wk.ch, .long wk.sa, .int wk.le])), ((g 2), .inl (cI, 4, .inl (fun z9 => nI (pol z9)))), ((g 3), .inr (3, [.ref (g 4), .ref (g 5), .ref (g 6), .ref (g 7), .ref (g 8), .ref (g 9), .ref (g 10), .ref (g 11), .ref (g 12), .int (nI (rRet Y i (cof Y ((Y.par i).getD 0))).n)])), ((g 4), .inl (cI, 200, .inl (fun z9 => nI ((rRet Y i (cof Y ((Y.par i).getD 0))).pre z9)))), ((g 5), .inl (cI, 200, .inl (fun z9 => nI ((rRet Y i (cof Y ((Y.par i).getD 0))).len z9)))), ((g 6), .inl (cI, 200, .inl (fun z9 => pI ((rRet Y i (cof Y ((Y.par i).getD 0))).par z9)))), ((g 7), .inl (cI, 200, .inl (fun z9 => nI ((rRet Y i (cof Y ((Y.par i).getD 0))).lev z9)))), ((g 8), .inl (cI, 200, .inl (fun z9 => nI ((rRet Y i (cof Y ((Y.par i).getD 0))).hol z9)))), ((g 9), .inl (cI, 200, .inl (fun z9 => nI ((rRet Y i (cof Y ((Y.par i).getD 0))).sta z9)))), ((g 10), .inl (cI, 200, .inl (fun z9 => nI ((rRet Y i (cof Y ((Y.par i).getD 0))).en z9)))), ((g 11), .inl (cI, 200, .inl (fun z9 => pI ((rRet Y i (cof Y ((Y.par i).getD 0))).fc z9)))), ((g 12), .inl (cI, 200, .inl (fun z9 => pI ((rRet Y i (cof Y ((Y.par i).getD 0))).nx z9))))] H := hP.sub (ws' := [((g 0), .inr (2, [.ref (g 3), .ref (g 1), .ref (g 2), .int (nI n), .int (nI qd)])), ((g 1), .inr (0, [.ref (g 3), .long wk.at, .long wk.en, .int wk.ch, .long wk.sa, .int wk.le])), ((g 2), .inl (cI, 4, .inl (fun z9 => nI (pol z9)))), ((g 3), .inr (3, [.ref (g 4), .ref (g 5), .ref (g 6), .ref (g 7), .ref (g 8), .ref (g 9), .ref (g 10), .ref (g 11), .ref (g 12), .int (nI (rRet Y i (cof Y ((Y.par i).getD 0))).n)])), ((g 4), .inl (cI, 200, .inl (fun z9 => nI ((rRet Y i (cof Y ((Y.par i).getD 0))).pre z9)))), ((g 5), .inl (cI, 200, .inl (fun z9 => nI ((rRet Y i (cof Y ((Y.par i).getD 0))).len z9)))), ((g 6), .inl (cI, 200, .inl (fun z9 => pI ((rRet Y i (cof Y ((Y.par i).getD 0))).par z9)))), ((g 7), .inl (cI, 200, .inl (fun z9 => nI ((rRet Y i (cof Y ((Y.par i).getD 0))).lev z9)))), ((g 8), .inl (cI, 200, .inl (fun z9 => nI ((rRet Y i (cof Y ((Y.par i).getD 0))).hol z9)))), ((g 9), .inl (cI, 200, .inl (fun z9 => nI ((rRet Y i (cof Y ((Y.par i).getD 0))).sta z9)))), ((g 10), .inl (cI, 200, .inl (fun z9 => nI ((rRet Y i (cof Y ((Y.par i).getD 0))).en z9)))), ((g 11), .inl (cI, 200, .inl (fun z9 => pI ((rRet Y i (cof Y ((Y.par i).getD 0))).fc z9)))), ((g 12), .inl (cI, 200, .inl (fun z9 => pI ((rRet Y i (cof Y ((Y.par i).getD 0))).nx z9))))]) [0, 1, 2, 3, 4, 5, 6, 7, 8, 9, 10, 11, 12] rfl
    replace hD : va_D A [((g 0), .inr (2, [.ref (g 3), .ref (g 1), .ref (g 2), .int (nI n), .int (nI qd)])), ((g 1), .inr (0, [.ref (g 3), .long wk.at, .long wk.en, .int wk.ch, .long wk.sa, .int wk.le])), ((g 2), .inl (cI, 4, .inl (fun z9 => nI (pol z9)))), ((g 3), .inr (3, [.ref (g 4), .ref (g 5), .ref (g 6), .ref (g 7), .ref (g 8), .ref (g 9), .ref (g 10), .ref (g 11), .ref (g 12), .int (nI (rRet Y i (cof Y ((Y.par i).getD 0))).n)])), ((g 4), .inl (cI, 200, .inl (fun z9 => nI ((rRet Y i (cof Y ((Y.par i).getD 0))).pre z9)))), ((g 5), .inl (cI, 200, .inl (fun z9 => nI ((rRet Y i (cof Y ((Y.par i).getD 0))).len z9)))), ((g 6), .inl (cI, 200, .inl (fun z9 => pI ((rRet Y i (cof Y ((Y.par i).getD 0))).par z9)))), ((g 7), .inl (cI, 200, .inl (fun z9 => nI ((rRet Y i (cof Y ((Y.par i).getD 0))).lev z9)))), ((g 8), .inl (cI, 200, .inl (fun z9 => nI ((rRet Y i (cof Y ((Y.par i).getD 0))).hol z9)))), ((g 9), .inl (cI, 200, .inl (fun z9 => nI ((rRet Y i (cof Y ((Y.par i).getD 0))).sta z9)))), ((g 10), .inl (cI, 200, .inl (fun z9 => nI ((rRet Y i (cof Y ((Y.par i).getD 0))).en z9)))), ((g 11), .inl (cI, 200, .inl (fun z9 => pI ((rRet Y i (cof Y ((Y.par i).getD 0))).fc z9)))), ((g 12), .inl (cI, 200, .inl (fun z9 => pI ((rRet Y i (cof Y ((Y.par i).getD 0))).nx z9))))] := hD.sub (ws' := [((g 0), .inr (2, [.ref (g 3), .ref (g 1), .ref (g 2), .int (nI n), .int (nI qd)])), ((g 1), .inr (0, [.ref (g 3), .long wk.at, .long wk.en, .int wk.ch, .long wk.sa, .int wk.le])), ((g 2), .inl (cI, 4, .inl (fun z9 => nI (pol z9)))), ((g 3), .inr (3, [.ref (g 4), .ref (g 5), .ref (g 6), .ref (g 7), .ref (g 8), .ref (g 9), .ref (g 10), .ref (g 11), .ref (g 12), .int (nI (rRet Y i (cof Y ((Y.par i).getD 0))).n)])), ((g 4), .inl (cI, 200, .inl (fun z9 => nI ((rRet Y i (cof Y ((Y.par i).getD 0))).pre z9)))), ((g 5), .inl (cI, 200, .inl (fun z9 => nI ((rRet Y i (cof Y ((Y.par i).getD 0))).len z9)))), ((g 6), .inl (cI, 200, .inl (fun z9 => pI ((rRet Y i (cof Y ((Y.par i).getD 0))).par z9)))), ((g 7), .inl (cI, 200, .inl (fun z9 => nI ((rRet Y i (cof Y ((Y.par i).getD 0))).lev z9)))), ((g 8), .inl (cI, 200, .inl (fun z9 => nI ((rRet Y i (cof Y ((Y.par i).getD 0))).hol z9)))), ((g 9), .inl (cI, 200, .inl (fun z9 => nI ((rRet Y i (cof Y ((Y.par i).getD 0))).sta z9)))), ((g 10), .inl (cI, 200, .inl (fun z9 => nI ((rRet Y i (cof Y ((Y.par i).getD 0))).en z9)))), ((g 11), .inl (cI, 200, .inl (fun z9 => pI ((rRet Y i (cof Y ((Y.par i).getD 0))).fc z9)))), ((g 12), .inl (cI, 200, .inl (fun z9 => pI ((rRet Y i (cof Y ((Y.par i).getD 0))).nx z9))))]) [0, 1, 2, 3, 4, 5, 6, 7, 8, 9, 10, 11, 12] (by decide) rfl
    refine lv_iinc hx hb d_Le_beginDay_54 hl (k := 1) (v := (nI (sm + 1))) rfl (nI_1 sm) (by decide) rfl (fun ls hl => ?_)
    replace hl : lv_has ls 4 [(2, .int (nI (sm + 1))), (3, .int (nI i)), (0, .ref (g 0)), (1, .int (nI n))] := hl
    refine lv_iinc hx hb d_Le_beginDay_57 hl (k := 1) (v := (nI (i + 1))) rfl (nI_1 i) (by decide) rfl (fun ls hl => ?_)
    replace hl : lv_has ls 4 [(3, .int (nI (i + 1))), (2, .int (nI (sm + 1))), (0, .ref (g 0)), (1, .int (nI n))] := hl
    refine lv_goto hx hb d_Le_beginDay_60 rfl ?_
    replace hP : va_P (dC, dI) classes (wLe cI g (rRet Y i (cof Y ((Y.par i).getD 0))) pol n qd wk) H := hP
    replace hD : va_D A (wLe cI g (rRet Y i (cof Y ((Y.par i).getD 0))) pol n qd wk) := hD
    refine ih _ _ _ _ _ _ ?_ ?_ ?_ hP hD hS hl
    · omega
    · exact (by rw [← hres]; simp only [bgd]; rw [if_pos ⟨h30, by omega⟩])
    · exact ⟨hYL.1.bgd1 (by omega) h30, by rw [rRet_n]; exact hYL.2⟩
