/-! the walk over a record's blocks -/
abbrev wBW (cI : ClassId) (h rr : Nat) (b : Nat → Nat) (X : RS) (wk : WK) : va_W := (h, .inr (0, [.ref rr, .long wk.at, .long wk.en, .int wk.ch, .long wk.sa, .int wk.le])) :: wRe cI rr b X
/-- over the children that begin where the walk stands -/
def stp (X : RS) : List Nat → Nat → List Nat × Nat
  | [], a => ([], a)
  | c :: t, a => if X.pre c = a then stp X t (a + 2 ^ (32 - X.len c)) else (c :: t, a)
def limN (X : RS) (K : List Nat) (e : Nat) : Nat := match K with
  | [] => e
  | c :: _ => X.pre c
def tzF : Nat → Nat → Nat
  | 0, _ => 0
  | f + 1, a => if a % 2 = 1 then 0 else tzF f (a / 2) + 1
def tzN (a : Nat) : Nat := tzF 31 a
theorem tzF_le : ∀ f a, tzF f a ≤ f
  | 0, _ => Nat.le_refl _
  | f + 1, a => by
    simp only [tzF]; split
    · omega
    · have := tzF_le f (a / 2); omega
theorem tz_lt (a : Nat) : tzN a < 32 := Nat.lt_succ_of_le (tzF_le 31 a)
theorem tzF_ok : ∀ f a, 0 < a → a < 2 ^ (f + 1) → ∃ j, a = 2 ^ tzF f a * (2 * j + 1)
  | 0, a, h0, h1 => ⟨0, by simp only [tzF]; omega⟩
  | f + 1, a, h0, h1 => by
    simp only [tzF]; split
    · exact ⟨a / 2, by omega⟩
    · obtain ⟨j, hj⟩ := tzF_ok f (a / 2) (by omega) (by rw [Nat.pow_succ] at h1; omega)
      refine ⟨j, ?_⟩
      rw [Nat.pow_succ, Nat.mul_assoc, Nat.mul_comm 2, ← Nat.mul_assoc, ← hj]
      omega
theorem low_nat {m k j : Nat} (hm : m < 4294967296) (hk : k < 32) (h : m = 2 ^ k * (2 * j + 1)) : (m ^^^ 4294967295) &&& (m - 1) = 2 ^ k - 1 := by
  have hP := Nat.pow_pos (n := k) (show 0 < 2 by decide)
  have e1 : m - 1 = 2 ^ k * (2 * j) + (2 ^ k - 1) := by
    rw [h, Nat.mul_add, Nat.mul_one]; omega
  apply Nat.eq_of_testBit_eq
  intro i
  rw [Nat.testBit_and, Nat.testBit_xor, show (4294967295 : Nat) = 2 ^ 32 - 1 from rfl, Nat.testBit_two_pow_sub_one, Nat.testBit_two_pow_sub_one, e1, Nat.testBit_two_pow_mul_add _ (by omega), Nat.testBit_two_pow_sub_one]
  have e2 : m.testBit i = (decide (k ≤ i) && (2 * j + 1).testBit (i - k)) := by rw [h, Nat.testBit_two_pow_mul]
  have e3 : 32 ≤ i → m.testBit i = false := fun q => Nat.testBit_lt_two_pow (Nat.lt_of_lt_of_le hm (Nat.pow_le_pow_right (n := 2) (by decide) q))
  by_cases h1 : i < k
  · rw [e2, if_pos h1]
    simp only [h1, show ¬ k ≤ i by omega, show i < 32 by omega, decide_true, decide_false, Bool.false_and]; rfl
  · rw [if_neg h1]
    by_cases h2 : i = k
    · subst h2
      rw [e2]; simp [hk]
    · obtain ⟨q, hq⟩ : ∃ q, i - k = q + 1 := ⟨i - k - 1, by omega⟩
      have t1 : (2 * j).testBit (q + 1) = j.testBit q := by rw [Nat.testBit_succ]; congr 1; omega
      have t2 : (2 * j + 1).testBit (q + 1) = j.testBit q := by rw [Nat.testBit_succ]; congr 1; omega
      rw [hq, t1]
      rw [hq, t2, show decide (k ≤ i) = true from decide_eq_true (by omega), Bool.true_and] at e2
      by_cases h3 : i < 32
      · rw [e2]; simp only [h3, h1, decide_true, decide_false]; cases j.testBit q <;> rfl
      · have := e3 (by omega)
        rw [e2] at this
        rw [this]; simp [h1]
theorem low_ok {m : Nat} (h0 : 0 < m) (hm : m < 4294967296) : (nI m ^^^ (-1)) &&& (nI m - 1) = nI (2 ^ tzN m - 1) := by
  obtain ⟨j, hj⟩ := tzF_ok 31 m h0 hm
  rw [k_m1, nx_xor, show nI m - 1 = nI (m - 1) from pk_sub (b := 1) h0, nx_and, low_nat hm (tz_lt m) hj]
def blnN (a w : Nat) : Nat := if a = 0 then 32 - Nat.log2 w else max (32 - tzN a) (32 - Nat.log2 w)
theorem log_le {w : Nat} (h0 : 0 < w) (h : w ≤ 4294967296) : Nat.log2 w ≤ 32 := by
  have h1 := Nat.log2_self_le (n := w) (by omega)
  exact pw (b := 32) h1 (by omega)
theorem lg_31 {w : Nat} (h0 : 0 < w) (h : w ≤ 4294967296) : nI (63 - Nat.log2 w) - 31 = nI (32 - Nat.log2 w) := by
  have := log_le h0 h
  exact (pk_sub (b := 31) (by omega)).trans (congrArg nI (by omega))
theorem bln_lt {a w : Nat} (ha : a < 4294967296) (h0 : 0 < w) (h : w ≤ 4294967296) : blnN a w < 33 := by
  unfold blnN; split <;> omega
theorem bln_eq {a w : Nat} (ha : a < 4294967296) (h0 : 0 < w) (h : w ≤ 4294967296) : (if (32 - (if a = 0 then 64 else nI (tzN a))) < nI (32 - Nat.log2 w) then nI (32 - Nat.log2 w) else (32 - (if a = 0 then 64 else nI (tzN a)))) = nI (blnN a w) := by
  have h1 := log_le h0 h
  have h2 := tz_lt a
  unfold blnN
  by_cases q : a = 0
  · rw [if_pos q, if_pos q]
    have e : (32 : Int32) - 64 < nI (32 - Nat.log2 w) := Int32.lt_of_lt_of_le (show (32 : Int32) - 64 < 0 by decide) (nI_pos' (by omega))
    rw [if_pos e]
  · rw [if_neg q, if_neg q, show (32 : Int32) - nI (tzN a) = nI (32 - tzN a) from pk_sub (a := 32) (by omega)]
    by_cases r : 32 - tzN a < 32 - Nat.log2 w
    · rw [if_pos (nI_lt r (by omega)), Nat.max_eq_right (by omega)]
    · rw [if_neg (nI_nlt (by omega) (by omega)), Nat.max_eq_left (by omega)]
def wkS (X : RS) (L : List Nat) (a e : Nat) (sa : Int64) (le : Int32) : WK := if (stp X L a).2 < e then (lN ((stp X L a).2 + 2 ^ (32 - blnN (stp X L a).2 (limN X (stp X L a).1 e - (stp X L a).2))), lN e, pI (stp X L a).1.head?, lN (stp X L a).2, nI (blnN (stp X L a).2 (limN X (stp X L a).1 e - (stp X L a).2))) else (lN (stp X L a).2, lN e, pI (stp X L a).1.head?, sa, le)
set_option maxHeartbeats 4000000 in
set_option maxRecDepth 100000 in
theorem c_BW_begin (l : Launch) (dC : Nat → ClassId) (dI : Nat → Nat → Nat) (sz : Nat) (cI : ClassId) (h rr : Nat) (b : Nat → Nat) (X : RS) (hX : RSok X) (wk : WK) (r : Nat) (hr0 : r < 200) : Met l y_BW_begin (.code y_BW_begin b_BW_begin 2 none :: wG) ({ frames := 2, cells := 0, slots := 0, locals := 41 }) (PcM (dC, dI) [(cI, .int)] (wBW cI h rr b X wk) [.ref h, .int (nI r)] sz) (QmV (dC, dI) [(cI, .int)] (wBW cI h rr b X wk) (wBW cI h rr b X (lN (X.pre r), lN (X.pre r + 2 ^ (32 - X.len r)), pI (X.fc r), wk.sa, wk.le)) sz) 0 0 (va_A (wBW cI h rr b X wk) sz) := by
  refine Met.ofW (cc := b_BW_begin) (maxL := 2) (ret := none) (by decide) rfl ?_
  intro pg eg s mg ag bg meth cg s₁ B hml hv
  obtain ⟨rfl, hsz, hP, hK, hD0, hN⟩ := hv
  have hx := B.exec
  have hb := B.bytes
  have hr := B.returns
  have hlocks := B.notSynchronized
  have hts : ∀ w9 ∈ wG, w9.before ([.ref h, .int (nI r)] : List Value).toArray s = true := fun w9 h9 => atoms_spec (ws := (.code y_BW_begin b_BW_begin 2 none :: wG)) B.pre w9 (List.mem_cons_of_mem _ h9)
  have hown : s.vm.findClass "PrefixRegistry$BlockWalk" = some mg.cls := findClass_of_methodNamed B.named
  subst hsz
  have hD := hD0.self (sz := s.heap.size)
  unfold QmV
  generalize hAe : va_A (wBW cI h rr b X wk) s.heap.size = A at hD ⊢
  have hA : ∀ q : Nat, s.heap.size ≤ q → A q := fun q h => by rw [← hAe]; exact Or.inr h
  have hS : va_S A s.heap s.heap [] := va_S.rf
  have hl := lv_entry ([.ref h, .int (nI r)]) (n := 2) (Nat.le_of_ble_eq_true rfl)
  rw [lg_entry_eq]
  generalize (lg_sl ([.ref h, .int (nI r)]) ++ List.replicate (2 - (lg_sl ([.ref h, .int (nI r)])).length) Slot.unset).toArray = ls at hl ⊢
  replace hl : lv_has ls 2 [(0, .ref h), (1, .int (nI r))] := hl
  replace hP : va_P (dC, dI) classes (wBW cI h rr b X wk) s.heap := hP
  replace hD : va_D A (wBW cI h rr b X wk) := hD
  refine lv_aload_n hx hb d_BW_begin_0 rfl (lv_at hl 0 rfl) ?_
  refine lv_aload_n hx hb d_BW_begin_1 rfl (lv_at hl 0 rfl) ?_
  refine va_get (D := (dC, dI)) (ci := 0) (v := .ref rr) (C := R_BW) (T := F_BW) (N := 6) hx hb hts u_BW hown hK hP 0 rfl rfl 0 (by decide) (hts _ kw_89) (fun _ h9 => h9) rfl d_BW_begin_2 ?_
  refine lv_iload_n hx hb d_BW_begin_5 rfl (lv_at hl 1 rfl) ?_
  refine vp_callSl (W.runV (b := rr) (As := [.int (nI r)]) (rest := [.ref h]) ⟨hx, hb, hml, hown, hts⟩ (c_Re_start l dC dI cI rr b X hX r hr0) (cwV 1 hts (gV kw_365 kw_173 kw_174 kw_3 kw_175) rfl rfl rfl (by decide +kernel) ⟨Nat.le_of_ble_eq_true rfl, Nat.le_of_ble_eq_true rfl⟩) ⟨PcS.blind, va_recv (q0 := 0) hK (hP.sub (ws' := wRe cI rr b X) [1, 2, 3, 4, 5, 6, 7, 8, 9, 10] rfl) rfl rfl, PcS.use (hP.sub (ws' := wRe cI rr b X) [1, 2, 3, 4, 5, 6, 7, 8, 9, 10] rfl) hK hN⟩ rfl rfl hl.1 rfl (lv_room (Nat.le_of_ble_eq_true rfl)) d_BW_begin_6 ⟨Nat.zero_le _, Nat.zero_le _⟩) (fun r6 hr6 => ?_)
  obtain rfl : r6 = lN (X.pre r) := hr6
  refine va_put (D := (dC, dI)) (ci := 0) (v := .long (lN (X.pre r))) (ty := .long) (C := R_BW) (T := F_BW) (N := 6) hx hb hts u_BW t_BW t_BW_ok n_BW hown hK hP hD hS 0 rfl rfl 1 (by decide) (hts _ kw_90) (fun _ h9 => h9) rfl (by decide +kernel) rfl rfl (Nat.le_of_ble_eq_true rfl) d_BW_begin_9 (fun H locs hP hD hS => ?_)
  replace hP : va_P (dC, dI) classes [(h, .inr (0, [.ref rr, .long (lN (X.pre r)), .long wk.en, .int wk.ch, .long wk.sa, .int wk.le])), (rr, .inr (3, [.ref (b 0), .ref (b 1), .ref (b 2), .ref (b 3), .ref (b 4), .ref (b 5), .ref (b 6), .ref (b 7), .ref (b 8), .int (nI X.n)])), ((b 0), .inl (cI, 200, .inl (fun z9 => nI (X.pre z9)))), ((b 1), .inl (cI, 200, .inl (fun z9 => nI (X.len z9)))), ((b 2), .inl (cI, 200, .inl (fun z9 => pI (X.par z9)))), ((b 3), .inl (cI, 200, .inl (fun z9 => nI (X.lev z9)))), ((b 4), .inl (cI, 200, .inl (fun z9 => nI (X.hol z9)))), ((b 5), .inl (cI, 200, .inl (fun z9 => nI (X.sta z9)))), ((b 6), .inl (cI, 200, .inl (fun z9 => nI (X.en z9)))), ((b 7), .inl (cI, 200, .inl (fun z9 => pI (X.fc z9)))), ((b 8), .inl (cI, 200, .inl (fun z9 => pI (X.nx z9))))] H := hP
  replace hD : va_D A [(h, .inr (0, [.ref rr, .long (lN (X.pre r)), .long wk.en, .int wk.ch, .long wk.sa, .int wk.le])), (rr, .inr (3, [.ref (b 0), .ref (b 1), .ref (b 2), .ref (b 3), .ref (b 4), .ref (b 5), .ref (b 6), .ref (b 7), .ref (b 8), .int (nI X.n)])), ((b 0), .inl (cI, 200, .inl (fun z9 => nI (X.pre z9)))), ((b 1), .inl (cI, 200, .inl (fun z9 => nI (X.len z9)))), ((b 2), .inl (cI, 200, .inl (fun z9 => pI (X.par z9)))), ((b 3), .inl (cI, 200, .inl (fun z9 => nI (X.lev z9)))), ((b 4), .inl (cI, 200, .inl (fun z9 => nI (X.hol z9)))), ((b 5), .inl (cI, 200, .inl (fun z9 => nI (X.sta z9)))), ((b 6), .inl (cI, 200, .inl (fun z9 => nI (X.en z9)))), ((b 7), .inl (cI, 200, .inl (fun z9 => pI (X.fc z9)))), ((b 8), .inl (cI, 200, .inl (fun z9 => pI (X.nx z9))))] := hD
  refine lv_aload_n hx hb d_BW_begin_12 rfl (lv_at hl 0 rfl) ?_
  refine lv_aload_n hx hb d_BW_begin_13 rfl (lv_at hl 0 rfl) ?_
  refine va_get (D := (dC, dI)) (ci := 0) (v := .long (lN (X.pre r))) (C := R_BW) (T := F_BW) (N := 6) hx hb hts u_BW hown hK hP 0 rfl rfl 1 (by decide) (hts _ kw_90) (fun _ h9 => h9) rfl d_BW_begin_14 ?_
  refine lv_aload_n hx hb d_BW_begin_17 rfl (lv_at hl 0 rfl) ?_
  refine va_get (D := (dC, dI)) (ci := 0) (v := .ref rr) (C := R_BW) (T := F_BW) (N := 6) hx hb hts u_BW hown hK hP 0 rfl rfl 0 (by decide) (hts _ kw_89) (fun _ h9 => h9) rfl d_BW_begin_18 ?_
  refine lv_iload_n hx hb d_BW_begin_21 rfl (lv_at hl 1 rfl) ?_
  refine vp_callSl (W.runV (b := rr) (As := [.int (nI r)]) (rest := [.long (lN (X.pre r)), .ref h]) ⟨hx, hb, hml, hown, hts⟩ (c_Re_size l dC dI cI rr b X hX r hr0) (cwV 1 hts (gV kw_366 kw_180 kw_181 kw_3 kw_182) rfl rfl rfl (by decide +kernel) ⟨Nat.le_of_ble_eq_true rfl, Nat.le_of_ble_eq_true rfl⟩) ⟨PcS.blind, va_recv (q0 := 0) hK (hP.sub (ws' := wRe cI rr b X) [1, 2, 3, 4, 5, 6, 7, 8, 9, 10] rfl) rfl rfl, PcS.use (hP.sub (ws' := wRe cI rr b X) [1, 2, 3, 4, 5, 6, 7, 8, 9, 10] rfl) hK hN⟩ rfl rfl hl.1 rfl (lv_room (Nat.le_of_ble_eq_true rfl)) d_BW_begin_22 ⟨Nat.zero_le _, Nat.zero_le _⟩) (fun r22 hr22 => ?_)
  obtain rfl : r22 = lN (2 ^ (32 - X.len r)) := hr22
  refine lv_ladd hx hb d_BW_begin_25 ?_
  refine x_topl (y := (lN (X.pre r + 2 ^ (32 - X.len r)))) (lN_add _ _) ?_
  refine va_put (D := (dC, dI)) (ci := 0) (v := .long (lN (X.pre r + 2 ^ (32 - X.len r)))) (ty := .long) (C := R_BW) (T := F_BW) (N := 6) hx hb hts u_BW t_BW t_BW_ok n_BW hown hK hP hD hS 0 rfl rfl 2 (by decide) (hts _ kw_91) (fun _ h9 => h9) rfl (by decide +kernel) rfl rfl (Nat.le_of_ble_eq_true rfl) d_BW_begin_26 (fun H locs hP hD hS => ?_)
  replace hP : va_P (dC, dI) classes [(h, .inr (0, [.ref rr, .long (lN (X.pre r)), .long (lN (X.pre r + 2 ^ (32 - X.len r))), .int wk.ch, .long wk.sa, .int wk.le])), (rr, .inr (3, [.ref (b 0), .ref (b 1), .ref (b 2), .ref (b 3), .ref (b 4), .ref (b 5), .ref (b 6), .ref (b 7), .ref (b 8), .int (nI X.n)])), ((b 0), .inl (cI, 200, .inl (fun z9 => nI (X.pre z9)))), ((b 1), .inl (cI, 200, .inl (fun z9 => nI (X.len z9)))), ((b 2), .inl (cI, 200, .inl (fun z9 => pI (X.par z9)))), ((b 3), .inl (cI, 200, .inl (fun z9 => nI (X.lev z9)))), ((b 4), .inl (cI, 200, .inl (fun z9 => nI (X.hol z9)))), ((b 5), .inl (cI, 200, .inl (fun z9 => nI (X.sta z9)))), ((b 6), .inl (cI, 200, .inl (fun z9 => nI (X.en z9)))), ((b 7), .inl (cI, 200, .inl (fun z9 => pI (X.fc z9)))), ((b 8), .inl (cI, 200, .inl (fun z9 => pI (X.nx z9))))] H := hP
  replace hD : va_D A [(h, .inr (0, [.ref rr, .long (lN (X.pre r)), .long (lN (X.pre r + 2 ^ (32 - X.len r))), .int wk.ch, .long wk.sa, .int wk.le])), (rr, .inr (3, [.ref (b 0), .ref (b 1), .ref (b 2), .ref (b 3), .ref (b 4), .ref (b 5), .ref (b 6), .ref (b 7), .ref (b 8), .int (nI X.n)])), ((b 0), .inl (cI, 200, .inl (fun z9 => nI (X.pre z9)))), ((b 1), .inl (cI, 200, .inl (fun z9 => nI (X.len z9)))), ((b 2), .inl (cI, 200, .inl (fun z9 => pI (X.par z9)))), ((b 3), .inl (cI, 200, .inl (fun z9 => nI (X.lev z9)))), ((b 4), .inl (cI, 200, .inl (fun z9 => nI (X.hol z9)))), ((b 5), .inl (cI, 200, .inl (fun z9 => nI (X.sta z9)))), ((b 6), .inl (cI, 200, .inl (fun z9 => nI (X.en z9)))), ((b 7), .inl (cI, 200, .inl (fun z9 => pI (X.fc z9)))), ((b 8), .inl (cI, 200, .inl (fun z9 => pI (X.nx z9))))] := hD
  refine lv_aload_n hx hb d_BW_begin_29 rfl (lv_at hl 0 rfl) ?_
  refine lv_aload_n hx hb d_BW_begin_30 rfl (lv_at hl 0 rfl) ?_
  refine va_get (D := (dC, dI)) (ci := 0) (v := .ref rr) (C := R_BW) (T := F_BW) (N := 6) hx hb hts u_BW hown hK hP 0 rfl rfl 0 (by decide) (hts _ kw_89) (fun _ h9 => h9) rfl d_BW_begin_31 ?_
  refine va_getN (D := (dC, dI)) (ci := 3) (v := .ref (b 7)) (C := R_Re) (T := F_Re) (N := 10) hx hb hts u_Re hown hK hP 1 rfl rfl 7 (by decide) (va_Nw.use rfl (hN.at 53 nw_53 rfl)) (fun _ h9 => h9) rfl d_BW_begin_34 ?_
  refine lv_iload_n hx hb d_BW_begin_37 rfl (lv_at hl 1 rfl) ?_
  refine x_iald (j := r) (v := (pI (X.fc r))) hx hb hK hP 9 0 rfl rfl hr0 (by decide) rfl rfl d_BW_begin_38 ?_
  refine va_put (D := (dC, dI)) (ci := 0) (v := .int (pI (X.fc r))) (ty := .int) (C := R_BW) (T := F_BW) (N := 6) hx hb hts u_BW t_BW t_BW_ok n_BW hown hK hP hD hS 0 rfl rfl 3 (by decide) (hts _ kw_92) (fun _ h9 => h9) rfl (by decide +kernel) rfl rfl (Nat.le_of_ble_eq_true rfl) d_BW_begin_39 (fun H locs hP hD hS => ?_)
  replace hP : va_P (dC, dI) classes [(h, .inr (0, [.ref rr, .long (lN (X.pre r)), .long (lN (X.pre r + 2 ^ (32 - X.len r))), .int (pI (X.fc r)), .long wk.sa, .int wk.le])), (rr, .inr (3, [.ref (b 0), .ref (b 1), .ref (b 2), .ref (b 3), .ref (b 4), .ref (b 5), .ref (b 6), .ref (b 7), .ref (b 8), .int (nI X.n)])), ((b 0), .inl (cI, 200, .inl (fun z9 => nI (X.pre z9)))), ((b 1), .inl (cI, 200, .inl (fun z9 => nI (X.len z9)))), ((b 2), .inl (cI, 200, .inl (fun z9 => pI (X.par z9)))), ((b 3), .inl (cI, 200, .inl (fun z9 => nI (X.lev z9)))), ((b 4), .inl (cI, 200, .inl (fun z9 => nI (X.hol z9)))), ((b 5), .inl (cI, 200, .inl (fun z9 => nI (X.sta z9)))), ((b 6), .inl (cI, 200, .inl (fun z9 => nI (X.en z9)))), ((b 7), .inl (cI, 200, .inl (fun z9 => pI (X.fc z9)))), ((b 8), .inl (cI, 200, .inl (fun z9 => pI (X.nx z9))))] H := hP
  replace hD : va_D A [(h, .inr (0, [.ref rr, .long (lN (X.pre r)), .long (lN (X.pre r + 2 ^ (32 - X.len r))), .int (pI (X.fc r)), .long wk.sa, .int wk.le])), (rr, .inr (3, [.ref (b 0), .ref (b 1), .ref (b 2), .ref (b 3), .ref (b 4), .ref (b 5), .ref (b 6), .ref (b 7), .ref (b 8), .int (nI X.n)])), ((b 0), .inl (cI, 200, .inl (fun z9 => nI (X.pre z9)))), ((b 1), .inl (cI, 200, .inl (fun z9 => nI (X.len z9)))), ((b 2), .inl (cI, 200, .inl (fun z9 => pI (X.par z9)))), ((b 3), .inl (cI, 200, .inl (fun z9 => nI (X.lev z9)))), ((b 4), .inl (cI, 200, .inl (fun z9 => nI (X.hol z9)))), ((b 5), .inl (cI, 200, .inl (fun z9 => nI (X.sta z9)))), ((b 6), .inl (cI, 200, .inl (fun z9 => nI (X.en z9)))), ((b 7), .inl (cI, 200, .inl (fun z9 => pI (X.fc z9)))), ((b 8), .inl (cI, 200, .inl (fun z9 => pI (X.nx z9))))] := hD
  have hP9 : va_P (dC, dI) classes (wBW cI h rr b X (lN (X.pre r), lN (X.pre r + 2 ^ (32 - X.len r)), pI (X.fc r), wk.sa, wk.le)) H := hP
  have hD9 : va_D A (wBW cI h rr b X (lN (X.pre r), lN (X.pre r + 2 ^ (32 - X.len r)), pI (X.fc r), wk.sa, wk.le)) := hD
  exact W.vret hx hb hr (fun t ht hW => ⟨⟨(), rfl, trivial, by rw [ht]; exact hP9, va_K.moved hW.alike hK, hD9⟩, hS.F ht⟩) hS.2.2 d_BW_begin_42
set_option maxHeartbeats 4000000 in
set_option maxRecDepth 100000 in
theorem c_BW_step (l : Launch) (dC : Nat → ClassId) (dI : Nat → Nat → Nat) (sz : Nat) (cI : ClassId) (h rr : Nat) (b : Nat → Nat) (X : RS) (hX : RSok X) (a e : Nat) (o : Option Nat) (sa : Int64) (le : Int32) (L : List Nat) (hC : chn X.nx o L) (ho : ∀ k, o = some k → k < 200) (hL : L.length ≤ 200) (ha : a ≤ 4294967296) (he : e ≤ 4294967296) (hlim : ∀ K a9, stp X L a = (K, a9) → a9 < e → a9 < limN X K e ∧ limN X K e ≤ 4294967296) : Met l y_BW_step (.code y_BW_step b_BW_step 5 (some .boolean) :: wG) ({ frames := 2, cells := 0, slots := 0, locals := 43 }) (PcM (dC, dI) [(cI, .int)] (wBW cI h rr b X (lN a, lN e, pI o, sa, le)) [.ref h] sz) (QmI (dC, dI) [(cI, .int)] (wBW cI h rr b X (lN a, lN e, pI o, sa, le)) (wBW cI h rr b X (wkS X L a e sa le)) sz (bi (decide ((stp X L a).2 < e)))) 0 0 (va_A (wBW cI h rr b X (lN a, lN e, pI o, sa, le)) sz) := by
  refine Met.ofW (cc := b_BW_step) (maxL := 5) (ret := (some .boolean)) (by decide) rfl ?_
  intro pg eg s mg ag bg meth cg s₁ B hml hv
  obtain ⟨rfl, hsz, hP, hK, hD0, hN⟩ := hv
  have hx := B.exec
  have hb := B.bytes
  have hr := B.returns
  have hlocks := B.notSynchronized
  have hts : ∀ w9 ∈ wG, w9.before ([.ref h] : List Value).toArray s = true := fun w9 h9 => atoms_spec (ws := (.code y_BW_step b_BW_step 5 (some .boolean) :: wG)) B.pre w9 (List.mem_cons_of_mem _ h9)
  have hown : s.vm.findClass "PrefixRegistry$BlockWalk" = some mg.cls := findClass_of_methodNamed B.named
  subst hsz
  have hD := hD0.self (sz := s.heap.size)
  unfold QmI
  generalize hAe : va_A (wBW cI h rr b X (lN a, lN e, pI o, sa, le)) s.heap.size = A at hD ⊢
  have hA : ∀ q : Nat, s.heap.size ≤ q → A q := fun q h => by rw [← hAe]; exact Or.inr h
  have hS : va_S A s.heap s.heap [] := va_S.rf
  have hl := lv_entry ([.ref h]) (n := 5) (Nat.le_of_ble_eq_true rfl)
  rw [lg_entry_eq]
  generalize (lg_sl ([.ref h]) ++ List.replicate (5 - (lg_sl ([.ref h])).length) Slot.unset).toArray = ls at hl ⊢
  replace hl : lv_has ls 5 [(0, .ref h)] := hl
  replace hP : va_P (dC, dI) classes (wBW cI h rr b X (lN a, lN e, pI o, sa, le)) s.heap := hP
  replace hD : va_D A (wBW cI h rr b X (lN a, lN e, pI o, sa, le)) := hD
  refine lv_iconst (v := 0) hx hb d_BW_step_0 (by decide) ?_
  refine lv_istore_n hx hb d_BW_step_1 rfl hl (by decide) rfl (fun ls hl => ?_)
  replace hl : lv_has ls 5 [(1, .int 0), (0, .ref h)] := hl
  obtain ⟨H, hH⟩ : ∃ H, H = s.heap := ⟨_, rfl⟩
  rw [← hH]
  rw [← hH] at hP
  have hS : va_S A s.heap H [] := by rw [hH]; exact va_S.rf
  clear hH
  obtain ⟨locs, hlo⟩ : ∃ locs : List Loc, locs = [] := ⟨_, rfl⟩
  rw [← hlo] at hS ⊢
  clear hlo
  obtain ⟨Kl, hK0⟩ : ∃ Kl : List Nat, Kl = L := ⟨_, rfl⟩
  obtain ⟨i, hi0⟩ : ∃ i : Nat, i = 0 := ⟨_, rfl⟩
  obtain ⟨a9, ha9⟩ : ∃ a9 : Nat, a9 = a := ⟨_, rfl⟩
  obtain ⟨o9, ho9⟩ : ∃ o9 : Option Nat, o9 = o := ⟨_, rfl⟩
  have hC9 : chn X.nx o9 Kl := by rw [ho9, hK0]; exact hC
  have ho9b : ∀ k, o9 = some k → k < 200 := by rw [ho9]; exact ho
  have hi : i + Kl.length ≤ 200 := by rw [hi0, hK0]; omega
  have hab : a9 + Kl.length * 4294967296 ≤ 4611686018427387904 := by rw [ha9, hK0]; omega
  have hres : stp X Kl a9 = stp X L a := by rw [hK0, ha9]
  replace hP : va_P (dC, dI) classes (wBW cI h rr b X (lN a9, lN e, pI o9, sa, le)) H := by rw [ha9, ho9]; exact hP
  replace hD : va_D A (wBW cI h rr b X (lN a9, lN e, pI o9, sa, le)) := by rw [ha9, ho9]; exact hD
  replace hl : lv_has ls 5 [(1, .int (nI i)), (0, .ref h)] := by subst hi0; exact hl
  clear hC ho hK0 hi0 ha9 ho9
  have hC := hC9
  have ho := ho9b
  clear hC9 ho9b
  replace hi := hi
  replace hab := hab
  replace hres := hres
  replace hP := hP
  replace hD := hD
  replace hS := hS
  replace hl : lv_has ls 5 [(1, .int (nI i)), (0, .ref h)] := hl
  induction Kl generalizing i a9 o9 ls H locs with
  | nil =>
    obtain rfl : o9 = none := hC
    replace hP : va_P (dC, dI) classes [(h, .inr (0, [.ref rr, .long (lN a9), .long (lN e), .int (pI none), .long sa, .int le])), (rr, .inr (3, [.ref (b 0), .ref (b 1), .ref (b 2), .ref (b 3), .ref (b 4), .ref (b 5), .ref (b 6), .ref (b 7), .ref (b 8), .int (nI X.n)])), ((b 0), .inl (cI, 200, .inl (fun z9 => nI (X.pre z9)))), ((b 1), .inl (cI, 200, .inl (fun z9 => nI (X.len z9)))), ((b 2), .inl (cI, 200, .inl (fun z9 => pI (X.par z9)))), ((b 3), .inl (cI, 200, .inl (fun z9 => nI (X.lev z9)))), ((b 4), .inl (cI, 200, .inl (fun z9 => nI (X.hol z9)))), ((b 5), .inl (cI, 200, .inl (fun z9 => nI (X.sta z9)))), ((b 6), .inl (cI, 200, .inl (fun z9 => nI (X.en z9)))), ((b 7), .inl (cI, 200, .inl (fun z9 => pI (X.fc z9)))), ((b 8), .inl (cI, 200, .inl (fun z9 => pI (X.nx z9))))] H := hP
    replace hD : va_D A [(h, .inr (0, [.ref rr, .long (lN a9), .long (lN e), .int (pI none), .long sa, .int le])), (rr, .inr (3, [.ref (b 0), .ref (b 1), .ref (b 2), .ref (b 3), .ref (b 4), .ref (b 5), .ref (b 6), .ref (b 7), .ref (b 8), .int (nI X.n)])), ((b 0), .inl (cI, 200, .inl (fun z9 => nI (X.pre z9)))), ((b 1), .inl (cI, 200, .inl (fun z9 => nI (X.len z9)))), ((b 2), .inl (cI, 200, .inl (fun z9 => pI (X.par z9)))), ((b 3), .inl (cI, 200, .inl (fun z9 => nI (X.lev z9)))), ((b 4), .inl (cI, 200, .inl (fun z9 => nI (X.hol z9)))), ((b 5), .inl (cI, 200, .inl (fun z9 => nI (X.sta z9)))), ((b 6), .inl (cI, 200, .inl (fun z9 => nI (X.en z9)))), ((b 7), .inl (cI, 200, .inl (fun z9 => pI (X.fc z9)))), ((b 8), .inl (cI, 200, .inl (fun z9 => pI (X.nx z9))))] := hD
    refine lv_iload_n hx hb d_BW_step_2 rfl (lv_at hl 0 rfl) ?_
    refine lv_sipush (v := 200) hx hb d_BW_step_3 (by decide) ?_
    refine lv_icmp_ge hx hb d_BW_step_6 rfl (fun h6 => ?_) (fun h6 => ?_)
    · have hst : stp X L a = ([], a9) := by rw [← hres]; rfl
      refine lv_aload_n hx hb d_BW_step_78 rfl (lv_at hl 1 rfl) ?_
      refine va_get (D := (dC, dI)) (ci := 0) (v := .long (lN a9)) (C := R_BW) (T := F_BW) (N := 6) hx hb hts u_BW hown hK hP 0 rfl rfl 1 (by decide) (hts _ kw_90) (fun _ h9 => h9) rfl d_BW_step_79 ?_
      refine lv_aload_n hx hb d_BW_step_82 rfl (lv_at hl 1 rfl) ?_
      refine va_get (D := (dC, dI)) (ci := 0) (v := .long (lN e)) (C := R_BW) (T := F_BW) (N := 6) hx hb hts u_BW hown hK hP 0 rfl rfl 2 (by decide) (hts _ kw_91) (fun _ h9 => h9) rfl d_BW_step_83 ?_
      refine W.lcmp hx hb d_BW_step_86 ?_
      refine lv_if_lt hx hb d_BW_step_87 rfl (fun h87 => ?_) (fun h87 => ?_)
      · have h87 := (k_clt (by omega) (by omega)).mp h87
        obtain ⟨hl1, hl2⟩ : a9 < e ∧ e ≤ 4294967296 := hlim [] a9 hst h87
        refine lv_aload_n hx hb d_BW_step_92 rfl (lv_at hl 1 rfl) ?_
        refine va_get (D := (dC, dI)) (ci := 0) (v := .int (pI none)) (C := R_BW) (T := F_BW) (N := 6) hx hb hts u_BW hown hK hP 0 rfl rfl 3 (by decide) (hts _ kw_92) (fun _ h9 => h9) rfl d_BW_step_93 ?_
        refine lv_iconst (v := (-1)) hx hb d_BW_step_96 (by decide) ?_
        refine lv_icmp_ne hx hb d_BW_step_97 rfl (fun h9 => absurd h9 (fun q => q rfl)) (fun _ => ?_)
        refine lv_aload_n hx hb d_BW_step_100 rfl (lv_at hl 1 rfl) ?_
        refine va_get (D := (dC, dI)) (ci := 0) (v := .long (lN e)) (C := R_BW) (T := F_BW) (N := 6) hx hb hts u_BW hown hK hP 0 rfl rfl 2 (by decide) (hts _ kw_91) (fun _ h9 => h9) rfl d_BW_step_101 ?_
        refine lv_goto hx hb d_BW_step_104 rfl ?_
        refine lv_lstore_n hx hb d_BW_step_118 rfl hl (by decide) rfl (fun ls hl => ?_)
        replace hl : lv_has ls 5 [(1, .long (lN e)), (0, .ref h)] := hl
        refine lv_bipush (v := 32) hx hb d_BW_step_119 (by decide) ?_
        refine lv_aload_n hx hb d_BW_step_121 rfl (lv_at hl 1 rfl) ?_
        refine va_get (D := (dC, dI)) (ci := 0) (v := .long (lN a9)) (C := R_BW) (T := F_BW) (N := 6) hx hb hts u_BW hown hK hP 0 rfl rfl 1 (by decide) (hts _ kw_90) (fun _ h9 => h9) rfl d_BW_step_122 ?_
        refine vp_callSi (W.runS (As := [.long (lN a9)]) (rest := [.int 32]) ⟨hx, hb, hml, hown, hts⟩ (c_Lo_numberOfTrailingZeros l dC dI a9 (tzN a9) (by omega) (tz_lt a9) (fun q => low_ok (by omega) (by omega))) (va_cwS 1 hts (x_gS kw_372 kw_373 kw_13 kw_374) rfl rfl rfl (by decide +kernel) ⟨Nat.le_of_ble_eq_true rfl, Nat.le_of_ble_eq_true rfl⟩) ⟨PcS.blind, PcS.use hP hK hN⟩ rfl rfl hl.1 rfl (lv_room (Nat.le_of_ble_eq_true rfl)) d_BW_step_125 ⟨Nat.zero_le _, Nat.zero_le _⟩) (fun r125 hr125 => ?_)
        obtain rfl : r125 = (if a9 = 0 then 64 else nI (tzN a9)) := hr125
        refine lv_isub hx hb d_BW_step_128 ?_
        refine lv_istore_n hx hb d_BW_step_129 rfl hl (by decide) rfl (fun ls hl => ?_)
        replace hl : lv_has ls 5 [(3, .int (32 - (if a9 = 0 then 64 else nI (tzN a9)))), (1, .long (lN e)), (0, .ref h)] := hl
        refine lv_lload_n hx hb d_BW_step_130 rfl (lv_at hl 1 rfl) ?_
        refine lv_aload_n hx hb d_BW_step_131 rfl (lv_at hl 2 rfl) ?_
        refine va_get (D := (dC, dI)) (ci := 0) (v := .long (lN a9)) (C := R_BW) (T := F_BW) (N := 6) hx hb hts u_BW hown hK hP 0 rfl rfl 1 (by decide) (hts _ kw_90) (fun _ h9 => h9) rfl d_BW_step_132 ?_
        refine lv_lsub hx hb d_BW_step_135 ?_
        refine x_topl (y := (lN (e - a9))) (lN_sub (by omega)) ?_
        refine vp_callSi (W.runS (As := [.long (lN (e - a9))]) (rest := []) ⟨hx, hb, hml, hown, hts⟩ (c_Lo_numberOfLeadingZeros l dC dI (e - a9) (Nat.log2 (e - a9)) (by omega) (by omega) (Nat.log2_self_le (by omega)) Nat.lt_log2_self) (va_cwS 1 hts (x_gS kw_379 kw_380 kw_13 kw_381) rfl rfl rfl (by decide +kernel) ⟨Nat.le_of_ble_eq_true rfl, Nat.le_of_ble_eq_true rfl⟩) ⟨PcS.blind, PcS.use hP hK hN⟩ rfl rfl hl.1 rfl (lv_room (Nat.le_of_ble_eq_true rfl)) d_BW_step_136 ⟨Nat.zero_le _, Nat.zero_le _⟩) (fun r136 hr136 => ?_)
        obtain rfl : r136 = (nI (63 - Nat.log2 (e - a9))) := hr136
        refine lv_bipush (v := 31) hx hb d_BW_step_139 (by decide) ?_
        refine lv_isub hx hb d_BW_step_141 ?_
        refine x_topi (y := (nI (32 - Nat.log2 (e - a9)))) (lg_31 (by omega) (by omega)) ?_
        refine lv_istore hx hb d_BW_step_142 hl (by decide) rfl (fun ls hl => ?_)
        replace hl : lv_has ls 5 [(4, .int (nI (32 - Nat.log2 (e - a9)))), (3, .int (32 - (if a9 = 0 then 64 else nI (tzN a9)))), (1, .long (lN e)), (0, .ref h)] := hl
        refine lv_aload_n hx hb d_BW_step_144 rfl (lv_at hl 3 rfl) ?_
        refine lv_aload_n hx hb d_BW_step_145 rfl (lv_at hl 3 rfl) ?_
        refine va_get (D := (dC, dI)) (ci := 0) (v := .long (lN a9)) (C := R_BW) (T := F_BW) (N := 6) hx hb hts u_BW hown hK hP 0 rfl rfl 1 (by decide) (hts _ kw_90) (fun _ h9 => h9) rfl d_BW_step_146 ?_
        refine va_put (D := (dC, dI)) (ci := 0) (v := .long (lN a9)) (ty := .long) (C := R_BW) (T := F_BW) (N := 6) hx hb hts u_BW t_BW t_BW_ok n_BW hown hK hP hD hS 0 rfl rfl 4 (by decide) (hts _ kw_93) (fun _ h9 => h9) rfl (by decide +kernel) rfl rfl (Nat.le_of_ble_eq_true rfl) d_BW_step_149 (fun H locs hP hD hS => ?_)
        replace hP : va_P (dC, dI) classes [(h, .inr (0, [.ref rr, .long (lN a9), .long (lN e), .int (pI none), .long (lN a9), .int le])), (rr, .inr (3, [.ref (b 0), .ref (b 1), .ref (b 2), .ref (b 3), .ref (b 4), .ref (b 5), .ref (b 6), .ref (b 7), .ref (b 8), .int (nI X.n)])), ((b 0), .inl (cI, 200, .inl (fun z9 => nI (X.pre z9)))), ((b 1), .inl (cI, 200, .inl (fun z9 => nI (X.len z9)))), ((b 2), .inl (cI, 200, .inl (fun z9 => pI (X.par z9)))), ((b 3), .inl (cI, 200, .inl (fun z9 => nI (X.lev z9)))), ((b 4), .inl (cI, 200, .inl (fun z9 => nI (X.hol z9)))), ((b 5), .inl (cI, 200, .inl (fun z9 => nI (X.sta z9)))), ((b 6), .inl (cI, 200, .inl (fun z9 => nI (X.en z9)))), ((b 7), .inl (cI, 200, .inl (fun z9 => pI (X.fc z9)))), ((b 8), .inl (cI, 200, .inl (fun z9 => pI (X.nx z9))))] H := hP
        replace hD : va_D A [(h, .inr (0, [.ref rr, .long (lN a9), .long (lN e), .int (pI none), .long (lN a9), .int le])), (rr, .inr (3, [.ref (b 0), .ref (b 1), .ref (b 2), .ref (b 3), .ref (b 4), .ref (b 5), .ref (b 6), .ref (b 7), .ref (b 8), .int (nI X.n)])), ((b 0), .inl (cI, 200, .inl (fun z9 => nI (X.pre z9)))), ((b 1), .inl (cI, 200, .inl (fun z9 => nI (X.len z9)))), ((b 2), .inl (cI, 200, .inl (fun z9 => pI (X.par z9)))), ((b 3), .inl (cI, 200, .inl (fun z9 => nI (X.lev z9)))), ((b 4), .inl (cI, 200, .inl (fun z9 => nI (X.hol z9)))), ((b 5), .inl (cI, 200, .inl (fun z9 => nI (X.sta z9)))), ((b 6), .inl (cI, 200, .inl (fun z9 => nI (X.en z9)))), ((b 7), .inl (cI, 200, .inl (fun z9 => pI (X.fc z9)))), ((b 8), .inl (cI, 200, .inl (fun z9 => pI (X.nx z9))))] := hD
        refine lv_aload_n hx hb d_BW_step_152 rfl (lv_at hl 3 rfl) ?_
        refine lv_iload_n hx hb d_BW_step_153 rfl (lv_at hl 1 rfl) ?_
        refine lv_iload hx hb d_BW_step_154 (lv_at hl 0 rfl) ?_
        refine va_mmax hx hb (hml.trans hl.1.symm) hown (hts _ kw_385) (hts _ kw_386) (hts _ kw_15) (hts _ kw_387) (Nat.le_of_ble_eq_true rfl) (Nat.le_of_ble_eq_true rfl) (Nat.zero_le _) (Nat.zero_le _) d_BW_step_156 ?_
        refine x_topi (y := (nI (blnN a9 (e - a9)))) (bln_eq (by omega) (by omega) (by omega)) ?_
        refine va_put (D := (dC, dI)) (ci := 0) (v := .int (nI (blnN a9 (e - a9)))) (ty := .int) (C := R_BW) (T := F_BW) (N := 6) hx hb hts u_BW t_BW t_BW_ok n_BW hown hK hP hD hS 0 rfl rfl 5 (by decide) (hts _ kw_96) (fun _ h9 => h9) rfl (by decide +kernel) rfl rfl (Nat.le_of_ble_eq_true rfl) d_BW_step_159 (fun H locs hP hD hS => ?_)
        replace hP : va_P (dC, dI) classes [(h, .inr (0, [.ref rr, .long (lN a9), .long (lN e), .int (pI none), .long (lN a9), .int (nI (blnN a9 (e - a9)))])), (rr, .inr (3, [.ref (b 0), .ref (b 1), .ref (b 2), .ref (b 3), .ref (b 4), .ref (b 5), .ref (b 6), .ref (b 7), .ref (b 8), .int (nI X.n)])), ((b 0), .inl (cI, 200, .inl (fun z9 => nI (X.pre z9)))), ((b 1), .inl (cI, 200, .inl (fun z9 => nI (X.len z9)))), ((b 2), .inl (cI, 200, .inl (fun z9 => pI (X.par z9)))), ((b 3), .inl (cI, 200, .inl (fun z9 => nI (X.lev z9)))), ((b 4), .inl (cI, 200, .inl (fun z9 => nI (X.hol z9)))), ((b 5), .inl (cI, 200, .inl (fun z9 => nI (X.sta z9)))), ((b 6), .inl (cI, 200, .inl (fun z9 => nI (X.en z9)))), ((b 7), .inl (cI, 200, .inl (fun z9 => pI (X.fc z9)))), ((b 8), .inl (cI, 200, .inl (fun z9 => pI (X.nx z9))))] H := hP
        replace hD : va_D A [(h, .inr (0, [.ref rr, .long (lN a9), .long (lN e), .int (pI none), .long (lN a9), .int (nI (blnN a9 (e - a9)))])), (rr, .inr (3, [.ref (b 0), .ref (b 1), .ref (b 2), .ref (b 3), .ref (b 4), .ref (b 5), .ref (b 6), .ref (b 7), .ref (b 8), .int (nI X.n)])), ((b 0), .inl (cI, 200, .inl (fun z9 => nI (X.pre z9)))), ((b 1), .inl (cI, 200, .inl (fun z9 => nI (X.len z9)))), ((b 2), .inl (cI, 200, .inl (fun z9 => pI (X.par z9)))), ((b 3), .inl (cI, 200, .inl (fun z9 => nI (X.lev z9)))), ((b 4), .inl (cI, 200, .inl (fun z9 => nI (X.hol z9)))), ((b 5), .inl (cI, 200, .inl (fun z9 => nI (X.sta z9)))), ((b 6), .inl (cI, 200, .inl (fun z9 => nI (X.en z9)))), ((b 7), .inl (cI, 200, .inl (fun z9 => pI (X.fc z9)))), ((b 8), .inl (cI, 200, .inl (fun z9 => pI (X.nx z9))))] := hD
        refine lv_aload_n hx hb d_BW_step_162 rfl (lv_at hl 3 rfl) ?_
        refine lv_dup hx hb d_BW_step_163 rfl ?_
        refine va_get (D := (dC, dI)) (ci := 0) (v := .long (lN a9)) (C := R_BW) (T := F_BW) (N := 6) hx hb hts u_BW hown hK hP 0 rfl rfl 1 (by decide) (hts _ kw_90) (fun _ h9 => h9) rfl d_BW_step_164 ?_
        refine lv_aload_n hx hb d_BW_step_167 rfl (lv_at hl 3 rfl) ?_
        refine va_get (D := (dC, dI)) (ci := 0) (v := .int (nI (blnN a9 (e - a9)))) (C := R_BW) (T := F_BW) (N := 6) hx hb hts u_BW hown hK hP 0 rfl rfl 5 (by decide) (hts _ kw_96) (fun _ h9 => h9) rfl d_BW_step_168 ?_
        refine vp_callSl (va_Run.run (va_runSN (As := [.int (nI (blnN a9 (e - a9)))]) (rest := [.long (lN a9), .ref h]) ⟨hx, hb, hml, hown, hts⟩ (c_PR_sizeOf l dC dI (blnN a9 (e - a9)) (bln_lt (by omega) (by omega) (by omega))) ⟨va_cnB 1 hts (gI kw_178) rfl rfl rfl (hN.at 388 nw_388 rfl) (hts _ kw_1) (by decide +kernel) ⟨Nat.le_of_ble_eq_true rfl, Nat.le_of_ble_eq_true rfl⟩, hts _ kw_177, trivial⟩ ⟨PcS.blind, PcS.use hP hK hN⟩ rfl rfl hl.1 rfl (lv_room (Nat.le_of_ble_eq_true rfl)) d_BW_step_171 ⟨Nat.zero_le _, Nat.zero_le _⟩)) (fun r171 hr171 => ?_)
        obtain rfl : r171 = lN (2 ^ (32 - (blnN a9 (e - a9)))) := hr171
        refine lv_ladd hx hb d_BW_step_174 ?_
        refine x_topl (y := (lN (a9 + 2 ^ (32 - blnN a9 (e - a9))))) (lN_add _ _) ?_
        refine va_put (D := (dC, dI)) (ci := 0) (v := .long (lN (a9 + 2 ^ (32 - blnN a9 (e - a9))))) (ty := .long) (C := R_BW) (T := F_BW) (N := 6) hx hb hts u_BW t_BW t_BW_ok n_BW hown hK hP hD hS 0 rfl rfl 1 (by decide) (hts _ kw_90) (fun _ h9 => h9) rfl (by decide +kernel) rfl rfl (Nat.le_of_ble_eq_true rfl) d_BW_step_175 (fun H locs hP hD hS => ?_)
        replace hP : va_P (dC, dI) classes [(h, .inr (0, [.ref rr, .long (lN (a9 + 2 ^ (32 - blnN a9 (e - a9)))), .long (lN e), .int (pI none), .long (lN a9), .int (nI (blnN a9 (e - a9)))])), (rr, .inr (3, [.ref (b 0), .ref (b 1), .ref (b 2), .ref (b 3), .ref (b 4), .ref (b 5), .ref (b 6), .ref (b 7), .ref (b 8), .int (nI X.n)])), ((b 0), .inl (cI, 200, .inl (fun z9 => nI (X.pre z9)))), ((b 1), .inl (cI, 200, .inl (fun z9 => nI (X.len z9)))), ((b 2), .inl (cI, 200, .inl (fun z9 => pI (X.par z9)))), ((b 3), .inl (cI, 200, .inl (fun z9 => nI (X.lev z9)))), ((b 4), .inl (cI, 200, .inl (fun z9 => nI (X.hol z9)))), ((b 5), .inl (cI, 200, .inl (fun z9 => nI (X.sta z9)))), ((b 6), .inl (cI, 200, .inl (fun z9 => nI (X.en z9)))), ((b 7), .inl (cI, 200, .inl (fun z9 => pI (X.fc z9)))), ((b 8), .inl (cI, 200, .inl (fun z9 => pI (X.nx z9))))] H := hP
        replace hD : va_D A [(h, .inr (0, [.ref rr, .long (lN (a9 + 2 ^ (32 - blnN a9 (e - a9)))), .long (lN e), .int (pI none), .long (lN a9), .int (nI (blnN a9 (e - a9)))])), (rr, .inr (3, [.ref (b 0), .ref (b 1), .ref (b 2), .ref (b 3), .ref (b 4), .ref (b 5), .ref (b 6), .ref (b 7), .ref (b 8), .int (nI X.n)])), ((b 0), .inl (cI, 200, .inl (fun z9 => nI (X.pre z9)))), ((b 1), .inl (cI, 200, .inl (fun z9 => nI (X.len z9)))), ((b 2), .inl (cI, 200, .inl (fun z9 => pI (X.par z9)))), ((b 3), .inl (cI, 200, .inl (fun z9 => nI (X.lev z9)))), ((b 4), .inl (cI, 200, .inl (fun z9 => nI (X.hol z9)))), ((b 5), .inl (cI, 200, .inl (fun z9 => nI (X.sta z9)))), ((b 6), .inl (cI, 200, .inl (fun z9 => nI (X.en z9)))), ((b 7), .inl (cI, 200, .inl (fun z9 => pI (X.fc z9)))), ((b 8), .inl (cI, 200, .inl (fun z9 => pI (X.nx z9))))] := hD
        refine lv_iconst (v := 1) hx hb d_BW_step_178 (by decide) ?_
        have e9 : wkS X L a e sa le = (lN (a9 + 2 ^ (32 - blnN a9 (e - a9))), lN e, pI none, lN a9, nI (blnN a9 (e - a9))) := by unfold wkS; rw [hst]; exact if_pos (show a9 < e from h87)
        have e8 : bi (decide ((stp X L a).2 < e)) = 1 := by rw [hst, decide_eq_true (show a9 < e from h87)]; rfl
        have hP9 : va_P (dC, dI) classes (wBW cI h rr b X (wkS X L a e sa le)) H := by rw [e9]; exact hP
        have hD9 : va_D A (wBW cI h rr b X (wkS X L a e sa le)) := by rw [e9]; exact hD
        exact W.zret (v := 1) hx hb hr (by decide) (fun t ht hW => ⟨⟨1, (), rfl, e8.symm, by rw [ht]; exact hP9, va_K.moved hW.alike hK, hD9⟩, hS.F ht⟩) hS.2.2 d_BW_step_179
      have h87 := mt (k_clt (by omega) (by omega)).mpr h87
      refine lv_iconst (v := 0) hx hb d_BW_step_90 (by decide) ?_
      have e9 : wkS X L a e sa le = (lN a9, lN e, pI none, sa, le) := by unfold wkS; rw [hst]; exact if_neg (show ¬ a9 < e from h87)
      have e8 : bi (decide ((stp X L a).2 < e)) = 0 := by rw [hst]; exact bi_d.mpr h87
      have hP9 : va_P (dC, dI) classes (wBW cI h rr b X (wkS X L a e sa le)) H := by rw [e9]; exact hP
      have hD9 : va_D A (wBW cI h rr b X (wkS X L a e sa le)) := by rw [e9]; exact hD
      exact W.zret (v := 0) hx hb hr (by decide) (fun t ht hW => ⟨⟨0, (), rfl, e8.symm, by rw [ht]; exact hP9, va_K.moved hW.alike hK, hD9⟩, hS.F ht⟩) hS.2.2 d_BW_step_91
    refine lv_aload_n hx hb d_BW_step_9 rfl (lv_at hl 1 rfl) ?_
    refine va_get (D := (dC, dI)) (ci := 0) (v := .int (pI none)) (C := R_BW) (T := F_BW) (N := 6) hx hb hts u_BW hown hK hP 0 rfl rfl 3 (by decide) (hts _ kw_92) (fun _ h9 => h9) rfl d_BW_step_10 ?_
    refine lv_iconst (v := (-1)) hx hb d_BW_step_13 (by decide) ?_
    refine lv_icmp_eq hx hb d_BW_step_14 rfl (fun _ => ?_) (fun h9 => absurd rfl h9)
    have hst : stp X L a = ([], a9) := by rw [← hres]; rfl
    refine lv_aload_n hx hb d_BW_step_78 rfl (lv_at hl 1 rfl) ?_
    refine va_get (D := (dC, dI)) (ci := 0) (v := .long (lN a9)) (C := R_BW) (T := F_BW) (N := 6) hx hb hts u_BW hown hK hP 0 rfl rfl 1 (by decide) (hts _ kw_90) (fun _ h9 => h9) rfl d_BW_step_79 ?_
    refine lv_aload_n hx hb d_BW_step_82 rfl (lv_at hl 1 rfl) ?_
    refine va_get (D := (dC, dI)) (ci := 0) (v := .long (lN e)) (C := R_BW) (T := F_BW) (N := 6) hx hb hts u_BW hown hK hP 0 rfl rfl 2 (by decide) (hts _ kw_91) (fun _ h9 => h9) rfl d_BW_step_83 ?_
    refine W.lcmp hx hb d_BW_step_86 ?_
    refine lv_if_lt hx hb d_BW_step_87 rfl (fun h87 => ?_) (fun h87 => ?_)
    · have h87 := (k_clt (by omega) (by omega)).mp h87
      obtain ⟨hl1, hl2⟩ : a9 < e ∧ e ≤ 4294967296 := hlim [] a9 hst h87
      refine lv_aload_n hx hb d_BW_step_92 rfl (lv_at hl 1 rfl) ?_
      refine va_get (D := (dC, dI)) (ci := 0) (v := .int (pI none)) (C := R_BW) (T := F_BW) (N := 6) hx hb hts u_BW hown hK hP 0 rfl rfl 3 (by decide) (hts _ kw_92) (fun _ h9 => h9) rfl d_BW_step_93 ?_
      refine lv_iconst (v := (-1)) hx hb d_BW_step_96 (by decide) ?_
      refine lv_icmp_ne hx hb d_BW_step_97 rfl (fun h9 => absurd h9 (fun q => q rfl)) (fun _ => ?_)
      refine lv_aload_n hx hb d_BW_step_100 rfl (lv_at hl 1 rfl) ?_
      refine va_get (D := (dC, dI)) (ci := 0) (v := .long (lN e)) (C := R_BW) (T := F_BW) (N := 6) hx hb hts u_BW hown hK hP 0 rfl rfl 2 (by decide) (hts _ kw_91) (fun _ h9 => h9) rfl d_BW_step_101 ?_
      refine lv_goto hx hb d_BW_step_104 rfl ?_
      refine lv_lstore_n hx hb d_BW_step_118 rfl hl (by decide) rfl (fun ls hl => ?_)
      replace hl : lv_has ls 5 [(1, .long (lN e)), (0, .ref h)] := hl
      refine lv_bipush (v := 32) hx hb d_BW_step_119 (by decide) ?_
      refine lv_aload_n hx hb d_BW_step_121 rfl (lv_at hl 1 rfl) ?_
      refine va_get (D := (dC, dI)) (ci := 0) (v := .long (lN a9)) (C := R_BW) (T := F_BW) (N := 6) hx hb hts u_BW hown hK hP 0 rfl rfl 1 (by decide) (hts _ kw_90) (fun _ h9 => h9) rfl d_BW_step_122 ?_
      refine vp_callSi (W.runS (As := [.long (lN a9)]) (rest := [.int 32]) ⟨hx, hb, hml, hown, hts⟩ (c_Lo_numberOfTrailingZeros l dC dI a9 (tzN a9) (by omega) (tz_lt a9) (fun q => low_ok (by omega) (by omega))) (va_cwS 1 hts (x_gS kw_372 kw_373 kw_13 kw_374) rfl rfl rfl (by decide +kernel) ⟨Nat.le_of_ble_eq_true rfl, Nat.le_of_ble_eq_true rfl⟩) ⟨PcS.blind, PcS.use hP hK hN⟩ rfl rfl hl.1 rfl (lv_room (Nat.le_of_ble_eq_true rfl)) d_BW_step_125 ⟨Nat.zero_le _, Nat.zero_le _⟩) (fun r125 hr125 => ?_)
      obtain rfl : r125 = (if a9 = 0 then 64 else nI (tzN a9)) := hr125
      refine lv_isub hx hb d_BW_step_128 ?_
      refine lv_istore_n hx hb d_BW_step_129 rfl hl (by decide) rfl (fun ls hl => ?_)
      replace hl : lv_has ls 5 [(3, .int (32 - (if a9 = 0 then 64 else nI (tzN a9)))), (1, .long (lN e)), (0, .ref h)] := hl
      refine lv_lload_n hx hb d_BW_step_130 rfl (lv_at hl 1 rfl) ?_
      refine lv_aload_n hx hb d_BW_step_131 rfl (lv_at hl 2 rfl) ?_
      refine va_get (D := (dC, dI)) (ci := 0) (v := .long (lN a9)) (C := R_BW) (T := F_BW) (N := 6) hx hb hts u_BW hown hK hP 0 rfl rfl 1 (by decide) (hts _ kw_90) (fun _ h9 => h9) rfl d_BW_step_132 ?_
      refine lv_lsub hx hb d_BW_step_135 ?_
      refine x_topl (y := (lN (e - a9))) (lN_sub (by omega)) ?_
      refine vp_callSi (W.runS (As := [.long (lN (e - a9))]) (rest := []) ⟨hx, hb, hml, hown, hts⟩ (c_Lo_numberOfLeadingZeros l dC dI (e - a9) (Nat.log2 (e - a9)) (by omega) (by omega) (Nat.log2_self_le (by omega)) Nat.lt_log2_self) (va_cwS 1 hts (x_gS kw_379 kw_380 kw_13 kw_381) rfl rfl rfl (by decide +kernel) ⟨Nat.le_of_ble_eq_true rfl, Nat.le_of_ble_eq_true rfl⟩) ⟨PcS.blind, PcS.use hP hK hN⟩ rfl rfl hl.1 rfl (lv_room (Nat.le_of_ble_eq_true rfl)) d_BW_step_136 ⟨Nat.zero_le _, Nat.zero_le _⟩) (fun r136 hr136 => ?_)
      obtain rfl : r136 = (nI (63 - Nat.log2 (e - a9))) := hr136
      refine lv_bipush (v := 31) hx hb d_BW_step_139 (by decide) ?_
      refine lv_isub hx hb d_BW_step_141 ?_
      refine x_topi (y := (nI (32 - Nat.log2 (e - a9)))) (lg_31 (by omega) (by omega)) ?_
      refine lv_istore hx hb d_BW_step_142 hl (by decide) rfl (fun ls hl => ?_)
      replace hl : lv_has ls 5 [(4, .int (nI (32 - Nat.log2 (e - a9)))), (3, .int (32 - (if a9 = 0 then 64 else nI (tzN a9)))), (1, .long (lN e)), (0, .ref h)] := hl
      refine lv_aload_n hx hb d_BW_step_144 rfl (lv_at hl 3 rfl) ?_
      refine lv_aload_n hx hb d_BW_step_145 rfl (lv_at hl 3 rfl) ?_
      refine va_get (D := (dC, dI)) (ci := 0) (v := .long (lN a9)) (C := R_BW) (T := F_BW) (N := 6) hx hb hts u_BW hown hK hP 0 rfl rfl 1 (by decide) (hts _ kw_90) (fun _ h9 => h9) rfl d_BW_step_146 ?_
      refine va_put (D := (dC, dI)) (ci := 0) (v := .long (lN a9)) (ty := .long) (C := R_BW) (T := F_BW) (N := 6) hx hb hts u_BW t_BW t_BW_ok n_BW hown hK hP hD hS 0 rfl rfl 4 (by decide) (hts _ kw_93) (fun _ h9 => h9) rfl (by decide +kernel) rfl rfl (Nat.le_of_ble_eq_true rfl) d_BW_step_149 (fun H locs hP hD hS => ?_)
      replace hP : va_P (dC, dI) classes [(h, .inr (0, [.ref rr, .long (lN a9), .long (lN e), .int (pI none), .long (lN a9), .int le])), (rr, .inr (3, [.ref (b 0), .ref (b 1), .ref (b 2), .ref (b 3), .ref (b 4), .ref (b 5), .ref (b 6), .ref (b 7), .ref (b 8), .int (nI X.n)])), ((b 0), .inl (cI, 200, .inl (fun z9 => nI (X.pre z9)))), ((b 1), .inl (cI, 200, .inl (fun z9 => nI (X.len z9)))), ((b 2), .inl (cI, 200, .inl (fun z9 => pI (X.par z9)))), ((b 3), .inl (cI, 200, .inl (fun z9 => nI (X.lev z9)))), ((b 4), .inl (cI, 200, .inl (fun z9 => nI (X.hol z9)))), ((b 5), .inl (cI, 200, .inl (fun z9 => nI (X.sta z9)))), ((b 6), .inl (cI, 200, .inl (fun z9 => nI (X.en z9)))), ((b 7), .inl (cI, 200, .inl (fun z9 => pI (X.fc z9)))), ((b 8), .inl (cI, 200, .inl (fun z9 => pI (X.nx z9))))] H := hP
      replace hD : va_D A [(h, .inr (0, [.ref rr, .long (lN a9), .long (lN e), .int (pI none), .long (lN a9), .int le])), (rr, .inr (3, [.ref (b 0), .ref (b 1), .ref (b 2), .ref (b 3), .ref (b 4), .ref (b 5), .ref (b 6), .ref (b 7), .ref (b 8), .int (nI X.n)])), ((b 0), .inl (cI, 200, .inl (fun z9 => nI (X.pre z9)))), ((b 1), .inl (cI, 200, .inl (fun z9 => nI (X.len z9)))), ((b 2), .inl (cI, 200, .inl (fun z9 => pI (X.par z9)))), ((b 3), .inl (cI, 200, .inl (fun z9 => nI (X.lev z9)))), ((b 4), .inl (cI, 200, .inl (fun z9 => nI (X.hol z9)))), ((b 5), .inl (cI, 200, .inl (fun z9 => nI (X.sta z9)))), ((b 6), .inl (cI, 200, .inl (fun z9 => nI (X.en z9)))), ((b 7), .inl (cI, 200, .inl (fun z9 => pI (X.fc z9)))), ((b 8), .inl (cI, 200, .inl (fun z9 => pI (X.nx z9))))] := hD
      refine lv_aload_n hx hb d_BW_step_152 rfl (lv_at hl 3 rfl) ?_
      refine lv_iload_n hx hb d_BW_step_153 rfl (lv_at hl 1 rfl) ?_
      refine lv_iload hx hb d_BW_step_154 (lv_at hl 0 rfl) ?_
      refine va_mmax hx hb (hml.trans hl.1.symm) hown (hts _ kw_385) (hts _ kw_386) (hts _ kw_15) (hts _ kw_387) (Nat.le_of_ble_eq_true rfl) (Nat.le_of_ble_eq_true rfl) (Nat.zero_le _) (Nat.zero_le _) d_BW_step_156 ?_
      refine x_topi (y := (nI (blnN a9 (e - a9)))) (bln_eq (by omega) (by omega) (by omega)) ?_
      refine va_put (D := (dC, dI)) (ci := 0) (v := .int (nI (blnN a9 (e - a9)))) (ty := .int) (C := R_BW) (T := F_BW) (N := 6) hx hb hts u_BW t_BW t_BW_ok n_BW hown hK hP hD hS 0 rfl rfl 5 (by decide) (hts _ kw_96) (fun _ h9 => h9) rfl (by decide +kernel) rfl rfl (Nat.le_of_ble_eq_true rfl) d_BW_step_159 (fun H locs hP hD hS => ?_)
      replace hP : va_P (dC, dI) classes [(h, .inr (0, [.ref rr, .long (lN a9), .long (lN e), .int (pI none), .long (lN a9), .int (nI (blnN a9 (e - a9)))])), (rr, .inr (3, [.ref (b 0), .ref (b 1), .ref (b 2), .ref (b 3), .ref (b 4), .ref (b 5), .ref (b 6), .ref (b 7), .ref (b 8), .int (nI X.n)])), ((b 0), .inl (cI, 200, .inl (fun z9 => nI (X.pre z9)))), ((b 1), .inl (cI, 200, .inl (fun z9 => nI (X.len z9)))), ((b 2), .inl (cI, 200, .inl (fun z9 => pI (X.par z9)))), ((b 3), .inl (cI, 200, .inl (fun z9 => nI (X.lev z9)))), ((b 4), .inl (cI, 200, .inl (fun z9 => nI (X.hol z9)))), ((b 5), .inl (cI, 200, .inl (fun z9 => nI (X.sta z9)))), ((b 6), .inl (cI, 200, .inl (fun z9 => nI (X.en z9)))), ((b 7), .inl (cI, 200, .inl (fun z9 => pI (X.fc z9)))), ((b 8), .inl (cI, 200, .inl (fun z9 => pI (X.nx z9))))] H := hP
      replace hD : va_D A [(h, .inr (0, [.ref rr, .long (lN a9), .long (lN e), .int (pI none), .long (lN a9), .int (nI (blnN a9 (e - a9)))])), (rr, .inr (3, [.ref (b 0), .ref (b 1), .ref (b 2), .ref (b 3), .ref (b 4), .ref (b 5), .ref (b 6), .ref (b 7), .ref (b 8), .int (nI X.n)])), ((b 0), .inl (cI, 200, .inl (fun z9 => nI (X.pre z9)))), ((b 1), .inl (cI, 200, .inl (fun z9 => nI (X.len z9)))), ((b 2), .inl (cI, 200, .inl (fun z9 => pI (X.par z9)))), ((b 3), .inl (cI, 200, .inl (fun z9 => nI (X.lev z9)))), ((b 4), .inl (cI, 200, .inl (fun z9 => nI (X.hol z9)))), ((b 5), .inl (cI, 200, .inl (fun z9 => nI (X.sta z9)))), ((b 6), .inl (cI, 200, .inl (fun z9 => nI (X.en z9)))), ((b 7), .inl (cI, 200, .inl (fun z9 => pI (X.fc z9)))), ((b 8), .inl (cI, 200, .inl (fun z9 => pI (X.nx z9))))] := hD
      refine lv_aload_n hx hb d_BW_step_162 rfl (lv_at hl 3 rfl) ?_
      refine lv_dup hx hb d_BW_step_163 rfl ?_
      refine va_get (D := (dC, dI)) (ci := 0) (v := .long (lN a9)) (C := R_BW) (T := F_BW) (N := 6) hx hb hts u_BW hown hK hP 0 rfl rfl 1 (by decide) (hts _ kw_90) (fun _ h9 => h9) rfl d_BW_step_164 ?_
      refine lv_aload_n hx hb d_BW_step_167 rfl (lv_at hl 3 rfl) ?_
      refine va_get (D := (dC, dI)) (ci := 0) (v := .int (nI (blnN a9 (e - a9)))) (C := R_BW) (T := F_BW) (N := 6) hx hb hts u_BW hown hK hP 0 rfl rfl 5 (by decide) (hts _ kw_96) (fun _ h9 => h9) rfl d_BW_step_168 ?_
      refine vp_callSl (va_Run.run (va_runSN (As := [.int (nI (blnN a9 (e - a9)))]) (rest := [.long (lN a9), .ref h]) ⟨hx, hb, hml, hown, hts⟩ (c_PR_sizeOf l dC dI (blnN a9 (e - a9)) (bln_lt (by omega) (by omega) (by omega))) ⟨va_cnB 1 hts (gI kw_178) rfl rfl rfl (hN.at 388 nw_388 rfl) (hts _ kw_1) (by decide +kernel) ⟨Nat.le_of_ble_eq_true rfl, Nat.le_of_ble_eq_true rfl⟩, hts _ kw_177, trivial⟩ ⟨PcS.blind, PcS.use hP hK hN⟩ rfl rfl hl.1 rfl (lv_room (Nat.le_of_ble_eq_true rfl)) d_BW_step_171 ⟨Nat.zero_le _, Nat.zero_le _⟩)) (fun r171 hr171 => ?_)
      obtain rfl : r171 = lN (2 ^ (32 - (blnN a9 (e - a9)))) := hr171
      refine lv_ladd hx hb d_BW_step_174 ?_
      refine x_topl (y := (lN (a9 + 2 ^ (32 - blnN a9 (e - a9))))) (lN_add _ _) ?_
      refine va_put (D := (dC, dI)) (ci := 0) (v := .long (lN (a9 + 2 ^ (32 - blnN a9 (e - a9))))) (ty := .long) (C := R_BW) (T := F_BW) (N := 6) hx hb hts u_BW t_BW t_BW_ok n_BW hown hK hP hD hS 0 rfl rfl 1 (by decide) (hts _ kw_90) (fun _ h9 => h9) rfl (by decide +kernel) rfl rfl (Nat.le_of_ble_eq_true rfl) d_BW_step_175 (fun H locs hP hD hS => ?_)
      replace hP : va_P (dC, dI) classes [(h, .inr (0, [.ref rr, .long (lN (a9 + 2 ^ (32 - blnN a9 (e - a9)))), .long (lN e), .int (pI none), .long (lN a9), .int (nI (blnN a9 (e - a9)))])), (rr, .inr (3, [.ref (b 0), .ref (b 1), .ref (b 2), .ref (b 3), .ref (b 4), .ref (b 5), .ref (b 6), .ref (b 7), .ref (b 8), .int (nI X.n)])), ((b 0), .inl (cI, 200, .inl (fun z9 => nI (X.pre z9)))), ((b 1), .inl (cI, 200, .inl (fun z9 => nI (X.len z9)))), ((b 2), .inl (cI, 200, .inl (fun z9 => pI (X.par z9)))), ((b 3), .inl (cI, 200, .inl (fun z9 => nI (X.lev z9)))), ((b 4), .inl (cI, 200, .inl (fun z9 => nI (X.hol z9)))), ((b 5), .inl (cI, 200, .inl (fun z9 => nI (X.sta z9)))), ((b 6), .inl (cI, 200, .inl (fun z9 => nI (X.en z9)))), ((b 7), .inl (cI, 200, .inl (fun z9 => pI (X.fc z9)))), ((b 8), .inl (cI, 200, .inl (fun z9 => pI (X.nx z9))))] H := hP
      replace hD : va_D A [(h, .inr (0, [.ref rr, .long (lN (a9 + 2 ^ (32 - blnN a9 (e - a9)))), .long (lN e), .int (pI none), .long (lN a9), .int (nI (blnN a9 (e - a9)))])), (rr, .inr (3, [.ref (b 0), .ref (b 1), .ref (b 2), .ref (b 3), .ref (b 4), .ref (b 5), .ref (b 6), .ref (b 7), .ref (b 8), .int (nI X.n)])), ((b 0), .inl (cI, 200, .inl (fun z9 => nI (X.pre z9)))), ((b 1), .inl (cI, 200, .inl (fun z9 => nI (X.len z9)))), ((b 2), .inl (cI, 200, .inl (fun z9 => pI (X.par z9)))), ((b 3), .inl (cI, 200, .inl (fun z9 => nI (X.lev z9)))), ((b 4), .inl (cI, 200, .inl (fun z9 => nI (X.hol z9)))), ((b 5), .inl (cI, 200, .inl (fun z9 => nI (X.sta z9)))), ((b 6), .inl (cI, 200, .inl (fun z9 => nI (X.en z9)))), ((b 7), .inl (cI, 200, .inl (fun z9 => pI (X.fc z9)))), ((b 8), .inl (cI, 200, .inl (fun z9 => pI (X.nx z9))))] := hD
      refine lv_iconst (v := 1) hx hb d_BW_step_178 (by decide) ?_
      have e9 : wkS X L a e sa le = (lN (a9 + 2 ^ (32 - blnN a9 (e - a9))), lN e, pI none, lN a9, nI (blnN a9 (e - a9))) := by unfold wkS; rw [hst]; exact if_pos (show a9 < e from h87)
      have e8 : bi (decide ((stp X L a).2 < e)) = 1 := by rw [hst, decide_eq_true (show a9 < e from h87)]; rfl
      have hP9 : va_P (dC, dI) classes (wBW cI h rr b X (wkS X L a e sa le)) H := by rw [e9]; exact hP
      have hD9 : va_D A (wBW cI h rr b X (wkS X L a e sa le)) := by rw [e9]; exact hD
      exact W.zret (v := 1) hx hb hr (by decide) (fun t ht hW => ⟨⟨1, (), rfl, e8.symm, by rw [ht]; exact hP9, va_K.moved hW.alike hK, hD9⟩, hS.F ht⟩) hS.2.2 d_BW_step_179
    have h87 := mt (k_clt (by omega) (by omega)).mpr h87
    refine lv_iconst (v := 0) hx hb d_BW_step_90 (by decide) ?_
    have e9 : wkS X L a e sa le = (lN a9, lN e, pI none, sa, le) := by unfold wkS; rw [hst]; exact if_neg (show ¬ a9 < e from h87)
    have e8 : bi (decide ((stp X L a).2 < e)) = 0 := by rw [hst]; exact bi_d.mpr h87
    have hP9 : va_P (dC, dI) classes (wBW cI h rr b X (wkS X L a e sa le)) H := by rw [e9]; exact hP
    have hD9 : va_D A (wBW cI h rr b X (wkS X L a e sa le)) := by rw [e9]; exact hD
    exact W.zret (v := 0) hx hb hr (by decide) (fun t ht hW => ⟨⟨0, (), rfl, e8.symm, by rw [ht]; exact hP9, va_K.moved hW.alike hK, hD9⟩, hS.F ht⟩) hS.2.2 d_BW_step_91
  | cons j t ih =>
    obtain ⟨rfl, hC⟩ := hC
    have hj : j < 200 := ho j rfl
    replace hi : i + (t.length + 1) ≤ 200 := hi
    replace hab : a9 + (t.length + 1) * 4294967296 ≤ 4611686018427387904 := hab
    replace hP : va_P (dC, dI) classes [(h, .inr (0, [.ref rr, .long (lN a9), .long (lN e), .int (nI j), .long sa, .int le])), (rr, .inr (3, [.ref (b 0), .ref (b 1), .ref (b 2), .ref (b 3), .ref (b 4), .ref (b 5), .ref (b 6), .ref (b 7), .ref (b 8), .int (nI X.n)])), ((b 0), .inl (cI, 200, .inl (fun z9 => nI (X.pre z9)))), ((b 1), .inl (cI, 200, .inl (fun z9 => nI (X.len z9)))), ((b 2), .inl (cI, 200, .inl (fun z9 => pI (X.par z9)))), ((b 3), .inl (cI, 200, .inl (fun z9 => nI (X.lev z9)))), ((b 4), .inl (cI, 200, .inl (fun z9 => nI (X.hol z9)))), ((b 5), .inl (cI, 200, .inl (fun z9 => nI (X.sta z9)))), ((b 6), .inl (cI, 200, .inl (fun z9 => nI (X.en z9)))), ((b 7), .inl (cI, 200, .inl (fun z9 => pI (X.fc z9)))), ((b 8), .inl (cI, 200, .inl (fun z9 => pI (X.nx z9))))] H := hP
    replace hD : va_D A [(h, .inr (0, [.ref rr, .long (lN a9), .long (lN e), .int (nI j), .long sa, .int le])), (rr, .inr (3, [.ref (b 0), .ref (b 1), .ref (b 2), .ref (b 3), .ref (b 4), .ref (b 5), .ref (b 6), .ref (b 7), .ref (b 8), .int (nI X.n)])), ((b 0), .inl (cI, 200, .inl (fun z9 => nI (X.pre z9)))), ((b 1), .inl (cI, 200, .inl (fun z9 => nI (X.len z9)))), ((b 2), .inl (cI, 200, .inl (fun z9 => pI (X.par z9)))), ((b 3), .inl (cI, 200, .inl (fun z9 => nI (X.lev z9)))), ((b 4), .inl (cI, 200, .inl (fun z9 => nI (X.hol z9)))), ((b 5), .inl (cI, 200, .inl (fun z9 => nI (X.sta z9)))), ((b 6), .inl (cI, 200, .inl (fun z9 => nI (X.en z9)))), ((b 7), .inl (cI, 200, .inl (fun z9 => pI (X.fc z9)))), ((b 8), .inl (cI, 200, .inl (fun z9 => pI (X.nx z9))))] := hD
    refine lv_iload_n hx hb d_BW_step_2 rfl (lv_at hl 0 rfl) ?_
    refine lv_sipush (v := 200) hx hb d_BW_step_3 (by decide) ?_
    refine lv_icmp_ge hx hb d_BW_step_6 rfl (fun h9 => absurd h9 (nI_ge (b := 200) (by omega) (by decide))) (fun _ => ?_)
    refine lv_aload_n hx hb d_BW_step_9 rfl (lv_at hl 1 rfl) ?_
    refine va_get (D := (dC, dI)) (ci := 0) (v := .int (nI j)) (C := R_BW) (T := F_BW) (N := 6) hx hb hts u_BW hown hK hP 0 rfl rfl 3 (by decide) (hts _ kw_92) (fun _ h9 => h9) rfl d_BW_step_10 ?_
    refine lv_iconst (v := (-1)) hx hb d_BW_step_13 (by decide) ?_
    refine lv_icmp_eq hx hb d_BW_step_14 rfl (fun h9 => absurd h9 (k_nm1 hj)) (fun _ => ?_)
    refine lv_aload_n hx hb d_BW_step_17 rfl (lv_at hl 1 rfl) ?_
    refine va_get (D := (dC, dI)) (ci := 0) (v := .ref rr) (C := R_BW) (T := F_BW) (N := 6) hx hb hts u_BW hown hK hP 0 rfl rfl 0 (by decide) (hts _ kw_89) (fun _ h9 => h9) rfl d_BW_step_18 ?_
    refine lv_aload_n hx hb d_BW_step_21 rfl (lv_at hl 1 rfl) ?_
    refine va_get (D := (dC, dI)) (ci := 0) (v := .int (nI j)) (C := R_BW) (T := F_BW) (N := 6) hx hb hts u_BW hown hK hP 0 rfl rfl 3 (by decide) (hts _ kw_92) (fun _ h9 => h9) rfl d_BW_step_22 ?_
    refine vp_callSl (W.runV (b := rr) (As := [.int (nI j)]) (rest := []) ⟨hx, hb, hml, hown, hts⟩ (c_Re_start l dC dI cI rr b X hX j hj) (cwV 1 hts (gV kw_365 kw_173 kw_174 kw_3 kw_175) rfl rfl rfl (by decide +kernel) ⟨Nat.le_of_ble_eq_true rfl, Nat.le_of_ble_eq_true rfl⟩) ⟨PcS.blind, va_recv (q0 := 0) hK (hP.sub (ws' := wRe cI rr b X) [1, 2, 3, 4, 5, 6, 7, 8, 9, 10] rfl) rfl rfl, PcS.use (hP.sub (ws' := wRe cI rr b X) [1, 2, 3, 4, 5, 6, 7, 8, 9, 10] rfl) hK hN⟩ rfl rfl hl.1 rfl (lv_room (Nat.le_of_ble_eq_true rfl)) d_BW_step_25 ⟨Nat.zero_le _, Nat.zero_le _⟩) (fun r25 hr25 => ?_)
    obtain rfl : r25 = lN (X.pre j) := hr25
    refine lv_aload_n hx hb d_BW_step_28 rfl (lv_at hl 1 rfl) ?_
    refine va_get (D := (dC, dI)) (ci := 0) (v := .long (lN a9)) (C := R_BW) (T := F_BW) (N := 6) hx hb hts u_BW hown hK hP 0 rfl rfl 1 (by decide) (hts _ kw_90) (fun _ h9 => h9) rfl d_BW_step_29 ?_
    refine W.lcmp hx hb d_BW_step_32 ?_
    refine lv_if_ne hx hb d_BW_step_33 rfl (fun h33 => ?_) (fun h33 => ?_)
    · have h33 := mt (k_c0 (by have := hX.pre j; omega) (by omega)).mpr h33
      have hst : stp X L a = ((j :: t), a9) := by rw [← hres]; simp only [stp]; rw [if_neg h33]
      refine lv_aload_n hx hb d_BW_step_78 rfl (lv_at hl 1 rfl) ?_
      refine va_get (D := (dC, dI)) (ci := 0) (v := .long (lN a9)) (C := R_BW) (T := F_BW) (N := 6) hx hb hts u_BW hown hK hP 0 rfl rfl 1 (by decide) (hts _ kw_90) (fun _ h9 => h9) rfl d_BW_step_79 ?_
      refine lv_aload_n hx hb d_BW_step_82 rfl (lv_at hl 1 rfl) ?_
      refine va_get (D := (dC, dI)) (ci := 0) (v := .long (lN e)) (C := R_BW) (T := F_BW) (N := 6) hx hb hts u_BW hown hK hP 0 rfl rfl 2 (by decide) (hts _ kw_91) (fun _ h9 => h9) rfl d_BW_step_83 ?_
      refine W.lcmp hx hb d_BW_step_86 ?_
      refine lv_if_lt hx hb d_BW_step_87 rfl (fun h87 => ?_) (fun h87 => ?_)
      · have h87 := (k_clt (by omega) (by omega)).mp h87
        obtain ⟨hl1, hl2⟩ : a9 < X.pre j ∧ X.pre j ≤ 4294967296 := hlim (j :: t) a9 hst h87
        refine lv_aload_n hx hb d_BW_step_92 rfl (lv_at hl 1 rfl) ?_
        refine va_get (D := (dC, dI)) (ci := 0) (v := .int (nI j)) (C := R_BW) (T := F_BW) (N := 6) hx hb hts u_BW hown hK hP 0 rfl rfl 3 (by decide) (hts _ kw_92) (fun _ h9 => h9) rfl d_BW_step_93 ?_
        refine lv_iconst (v := (-1)) hx hb d_BW_step_96 (by decide) ?_
        refine lv_icmp_ne hx hb d_BW_step_97 rfl (fun h97 => ?_) (fun h9 => absurd h9 (k_nm1 hj))
        refine lv_aload_n hx hb d_BW_step_107 rfl (lv_at hl 1 rfl) ?_
        refine va_get (D := (dC, dI)) (ci := 0) (v := .ref rr) (C := R_BW) (T := F_BW) (N := 6) hx hb hts u_BW hown hK hP 0 rfl rfl 0 (by decide) (hts _ kw_89) (fun _ h9 => h9) rfl d_BW_step_108 ?_
        refine lv_aload_n hx hb d_BW_step_111 rfl (lv_at hl 1 rfl) ?_
        refine va_get (D := (dC, dI)) (ci := 0) (v := .int (nI j)) (C := R_BW) (T := F_BW) (N := 6) hx hb hts u_BW hown hK hP 0 rfl rfl 3 (by decide) (hts _ kw_92) (fun _ h9 => h9) rfl d_BW_step_112 ?_
        refine vp_callSl (W.runV (b := rr) (As := [.int (nI j)]) (rest := []) ⟨hx, hb, hml, hown, hts⟩ (c_Re_start l dC dI cI rr b X hX j hj) (cwV 1 hts (gV kw_365 kw_173 kw_174 kw_3 kw_175) rfl rfl rfl (by decide +kernel) ⟨Nat.le_of_ble_eq_true rfl, Nat.le_of_ble_eq_true rfl⟩) ⟨PcS.blind, va_recv (q0 := 0) hK (hP.sub (ws' := wRe cI rr b X) [1, 2, 3, 4, 5, 6, 7, 8, 9, 10] rfl) rfl rfl, PcS.use (hP.sub (ws' := wRe cI rr b X) [1, 2, 3, 4, 5, 6, 7, 8, 9, 10] rfl) hK hN⟩ rfl rfl hl.1 rfl (lv_room (Nat.le_of_ble_eq_true rfl)) d_BW_step_115 ⟨Nat.zero_le _, Nat.zero_le _⟩) (fun r115 hr115 => ?_)
        obtain rfl : r115 = lN (X.pre j) := hr115
        refine lv_lstore_n hx hb d_BW_step_118 rfl hl (by decide) rfl (fun ls hl => ?_)
        replace hl : lv_has ls 5 [(1, .long (lN (X.pre j))), (0, .ref h)] := hl
        refine lv_bipush (v := 32) hx hb d_BW_step_119 (by decide) ?_
        refine lv_aload_n hx hb d_BW_step_121 rfl (lv_at hl 1 rfl) ?_
        refine va_get (D := (dC, dI)) (ci := 0) (v := .long (lN a9)) (C := R_BW) (T := F_BW) (N := 6) hx hb hts u_BW hown hK hP 0 rfl rfl 1 (by decide) (hts _ kw_90) (fun _ h9 => h9) rfl d_BW_step_122 ?_
        refine vp_callSi (W.runS (As := [.long (lN a9)]) (rest := [.int 32]) ⟨hx, hb, hml, hown, hts⟩ (c_Lo_numberOfTrailingZeros l dC dI a9 (tzN a9) (by omega) (tz_lt a9) (fun q => low_ok (by omega) (by omega))) (va_cwS 1 hts (x_gS kw_372 kw_373 kw_13 kw_374) rfl rfl rfl (by decide +kernel) ⟨Nat.le_of_ble_eq_true rfl, Nat.le_of_ble_eq_true rfl⟩) ⟨PcS.blind, PcS.use hP hK hN⟩ rfl rfl hl.1 rfl (lv_room (Nat.le_of_ble_eq_true rfl)) d_BW_step_125 ⟨Nat.zero_le _, Nat.zero_le _⟩) (fun r125 hr125 => ?_)
        obtain rfl : r125 = (if a9 = 0 then 64 else nI (tzN a9)) := hr125
        refine lv_isub hx hb d_BW_step_128 ?_
        refine lv_istore_n hx hb d_BW_step_129 rfl hl (by decide) rfl (fun ls hl => ?_)
        replace hl : lv_has ls 5 [(3, .int (32 - (if a9 = 0 then 64 else nI (tzN a9)))), (1, .long (lN (X.pre j))), (0, .ref h)] := hl
        refine lv_lload_n hx hb d_BW_step_130 rfl (lv_at hl 1 rfl) ?_
        refine lv_aload_n hx hb d_BW_step_131 rfl (lv_at hl 2 rfl) ?_
        refine va_get (D := (dC, dI)) (ci := 0) (v := .long (lN a9)) (C := R_BW) (T := F_BW) (N := 6) hx hb hts u_BW hown hK hP 0 rfl rfl 1 (by decide) (hts _ kw_90) (fun _ h9 => h9) rfl d_BW_step_132 ?_
        refine lv_lsub hx hb d_BW_step_135 ?_
        refine x_topl (y := (lN (X.pre j - a9))) (lN_sub (by omega)) ?_
        refine vp_callSi (W.runS (As := [.long (lN (X.pre j - a9))]) (rest := []) ⟨hx, hb, hml, hown, hts⟩ (c_Lo_numberOfLeadingZeros l dC dI (X.pre j - a9) (Nat.log2 (X.pre j - a9)) (by omega) (by omega) (Nat.log2_self_le (by omega)) Nat.lt_log2_self) (va_cwS 1 hts (x_gS kw_379 kw_380 kw_13 kw_381) rfl rfl rfl (by decide +kernel) ⟨Nat.le_of_ble_eq_true rfl, Nat.le_of_ble_eq_true rfl⟩) ⟨PcS.blind, PcS.use hP hK hN⟩ rfl rfl hl.1 rfl (lv_room (Nat.le_of_ble_eq_true rfl)) d_BW_step_136 ⟨Nat.zero_le _, Nat.zero_le _⟩) (fun r136 hr136 => ?_)
        obtain rfl : r136 = (nI (63 - Nat.log2 (X.pre j - a9))) := hr136
        refine lv_bipush (v := 31) hx hb d_BW_step_139 (by decide) ?_
        refine lv_isub hx hb d_BW_step_141 ?_
        refine x_topi (y := (nI (32 - Nat.log2 (X.pre j - a9)))) (lg_31 (by omega) (by omega)) ?_
        refine lv_istore hx hb d_BW_step_142 hl (by decide) rfl (fun ls hl => ?_)
        replace hl : lv_has ls 5 [(4, .int (nI (32 - Nat.log2 (X.pre j - a9)))), (3, .int (32 - (if a9 = 0 then 64 else nI (tzN a9)))), (1, .long (lN (X.pre j))), (0, .ref h)] := hl
        refine lv_aload_n hx hb d_BW_step_144 rfl (lv_at hl 3 rfl) ?_
        refine lv_aload_n hx hb d_BW_step_145 rfl (lv_at hl 3 rfl) ?_
        refine va_get (D := (dC, dI)) (ci := 0) (v := .long (lN a9)) (C := R_BW) (T := F_BW) (N := 6) hx hb hts u_BW hown hK hP 0 rfl rfl 1 (by decide) (hts _ kw_90) (fun _ h9 => h9) rfl d_BW_step_146 ?_
        refine va_put (D := (dC, dI)) (ci := 0) (v := .long (lN a9)) (ty := .long) (C := R_BW) (T := F_BW) (N := 6) hx hb hts u_BW t_BW t_BW_ok n_BW hown hK hP hD hS 0 rfl rfl 4 (by decide) (hts _ kw_93) (fun _ h9 => h9) rfl (by decide +kernel) rfl rfl (Nat.le_of_ble_eq_true rfl) d_BW_step_149 (fun H locs hP hD hS => ?_)
        replace hP : va_P (dC, dI) classes [(h, .inr (0, [.ref rr, .long (lN a9), .long (lN e), .int (nI j), .long (lN a9), .int le])), (rr, .inr (3, [.ref (b 0), .ref (b 1), .ref (b 2), .ref (b 3), .ref (b 4), .ref (b 5), .ref (b 6), .ref (b 7), .ref (b 8), .int (nI X.n)])), ((b 0), .inl (cI, 200, .inl (fun z9 => nI (X.pre z9)))), ((b 1), .inl (cI, 200, .inl (fun z9 => nI (X.len z9)))), ((b 2), .inl (cI, 200, .inl (fun z9 => pI (X.par z9)))), ((b 3), .inl (cI, 200, .inl (fun z9 => nI (X.lev z9)))), ((b 4), .inl (cI, 200, .inl (fun z9 => nI (X.hol z9)))), ((b 5), .inl (cI, 200, .inl (fun z9 => nI (X.sta z9)))), ((b 6), .inl (cI, 200, .inl (fun z9 => nI (X.en z9)))), ((b 7), .inl (cI, 200, .inl (fun z9 => pI (X.fc z9)))), ((b 8), .inl (cI, 200, .inl (fun z9 => pI (X.nx z9))))] H := hP
        replace hD : va_D A [(h, .inr (0, [.ref rr, .long (lN a9), .long (lN e), .int (nI j), .long (lN a9), .int le])), (rr, .inr (3, [.ref (b 0), .ref (b 1), .ref (b 2), .ref (b 3), .ref (b 4), .ref (b 5), .ref (b 6), .ref (b 7), .ref (b 8), .int (nI X.n)])), ((b 0), .inl (cI, 200, .inl (fun z9 => nI (X.pre z9)))), ((b 1), .inl (cI, 200, .inl (fun z9 => nI (X.len z9)))), ((b 2), .inl (cI, 200, .inl (fun z9 => pI (X.par z9)))), ((b 3), .inl (cI, 200, .inl (fun z9 => nI (X.lev z9)))), ((b 4), .inl (cI, 200, .inl (fun z9 => nI (X.hol z9)))), ((b 5), .inl (cI, 200, .inl (fun z9 => nI (X.sta z9)))), ((b 6), .inl (cI, 200, .inl (fun z9 => nI (X.en z9)))), ((b 7), .inl (cI, 200, .inl (fun z9 => pI (X.fc z9)))), ((b 8), .inl (cI, 200, .inl (fun z9 => pI (X.nx z9))))] := hD
        refine lv_aload_n hx hb d_BW_step_152 rfl (lv_at hl 3 rfl) ?_
        refine lv_iload_n hx hb d_BW_step_153 rfl (lv_at hl 1 rfl) ?_
        refine lv_iload hx hb d_BW_step_154 (lv_at hl 0 rfl) ?_
        refine va_mmax hx hb (hml.trans hl.1.symm) hown (hts _ kw_385) (hts _ kw_386) (hts _ kw_15) (hts _ kw_387) (Nat.le_of_ble_eq_true rfl) (Nat.le_of_ble_eq_true rfl) (Nat.zero_le _) (Nat.zero_le _) d_BW_step_156 ?_
        refine x_topi (y := (nI (blnN a9 (X.pre j - a9)))) (bln_eq (by omega) (by omega) (by omega)) ?_
        refine va_put (D := (dC, dI)) (ci := 0) (v := .int (nI (blnN a9 (X.pre j - a9)))) (ty := .int) (C := R_BW) (T := F_BW) (N := 6) hx hb hts u_BW t_BW t_BW_ok n_BW hown hK hP hD hS 0 rfl rfl 5 (by decide) (hts _ kw_96) (fun _ h9 => h9) rfl (by decide +kernel) rfl rfl (Nat.le_of_ble_eq_true rfl) d_BW_step_159 (fun H locs hP hD hS => ?_)
        replace hP : va_P (dC, dI) classes [(h, .inr (0, [.ref rr, .long (lN a9), .long (lN e), .int (nI j), .long (lN a9), .int (nI (blnN a9 (X.pre j - a9)))])), (rr, .inr (3, [.ref (b 0), .ref (b 1), .ref (b 2), .ref (b 3), .ref (b 4), .ref (b 5), .ref (b 6), .ref (b 7), .ref (b 8), .int (nI X.n)])), ((b 0), .inl (cI, 200, .inl (fun z9 => nI (X.pre z9)))), ((b 1), .inl (cI, 200, .inl (fun z9 => nI (X.len z9)))), ((b 2), .inl (cI, 200, .inl (fun z9 => pI (X.par z9)))), ((b 3), .inl (cI, 200, .inl (fun z9 => nI (X.lev z9)))), ((b 4), .inl (cI, 200, .inl (fun z9 => nI (X.hol z9)))), ((b 5), .inl (cI, 200, .inl (fun z9 => nI (X.sta z9)))), ((b 6), .inl (cI, 200, .inl (fun z9 => nI (X.en z9)))), ((b 7), .inl (cI, 200, .inl (fun z9 => pI (X.fc z9)))), ((b 8), .inl (cI, 200, .inl (fun z9 => pI (X.nx z9))))] H := hP
        replace hD : va_D A [(h, .inr (0, [.ref rr, .long (lN a9), .long (lN e), .int (nI j), .long (lN a9), .int (nI (blnN a9 (X.pre j - a9)))])), (rr, .inr (3, [.ref (b 0), .ref (b 1), .ref (b 2), .ref (b 3), .ref (b 4), .ref (b 5), .ref (b 6), .ref (b 7), .ref (b 8), .int (nI X.n)])), ((b 0), .inl (cI, 200, .inl (fun z9 => nI (X.pre z9)))), ((b 1), .inl (cI, 200, .inl (fun z9 => nI (X.len z9)))), ((b 2), .inl (cI, 200, .inl (fun z9 => pI (X.par z9)))), ((b 3), .inl (cI, 200, .inl (fun z9 => nI (X.lev z9)))), ((b 4), .inl (cI, 200, .inl (fun z9 => nI (X.hol z9)))), ((b 5), .inl (cI, 200, .inl (fun z9 => nI (X.sta z9)))), ((b 6), .inl (cI, 200, .inl (fun z9 => nI (X.en z9)))), ((b 7), .inl (cI, 200, .inl (fun z9 => pI (X.fc z9)))), ((b 8), .inl (cI, 200, .inl (fun z9 => pI (X.nx z9))))] := hD
        refine lv_aload_n hx hb d_BW_step_162 rfl (lv_at hl 3 rfl) ?_
        refine lv_dup hx hb d_BW_step_163 rfl ?_
        refine va_get (D := (dC, dI)) (ci := 0) (v := .long (lN a9)) (C := R_BW) (T := F_BW) (N := 6) hx hb hts u_BW hown hK hP 0 rfl rfl 1 (by decide) (hts _ kw_90) (fun _ h9 => h9) rfl d_BW_step_164 ?_
        refine lv_aload_n hx hb d_BW_step_167 rfl (lv_at hl 3 rfl) ?_
        refine va_get (D := (dC, dI)) (ci := 0) (v := .int (nI (blnN a9 (X.pre j - a9)))) (C := R_BW) (T := F_BW) (N := 6) hx hb hts u_BW hown hK hP 0 rfl rfl 5 (by decide) (hts _ kw_96) (fun _ h9 => h9) rfl d_BW_step_168 ?_
        refine vp_callSl (va_Run.run (va_runSN (As := [.int (nI (blnN a9 (X.pre j - a9)))]) (rest := [.long (lN a9), .ref h]) ⟨hx, hb, hml, hown, hts⟩ (c_PR_sizeOf l dC dI (blnN a9 (X.pre j - a9)) (bln_lt (by omega) (by omega) (by omega))) ⟨va_cnB 1 hts (gI kw_178) rfl rfl rfl (hN.at 388 nw_388 rfl) (hts _ kw_1) (by decide +kernel) ⟨Nat.le_of_ble_eq_true rfl, Nat.le_of_ble_eq_true rfl⟩, hts _ kw_177, trivial⟩ ⟨PcS.blind, PcS.use hP hK hN⟩ rfl rfl hl.1 rfl (lv_room (Nat.le_of_ble_eq_true rfl)) d_BW_step_171 ⟨Nat.zero_le _, Nat.zero_le _⟩)) (fun r171 hr171 => ?_)
        obtain rfl : r171 = lN (2 ^ (32 - (blnN a9 (X.pre j - a9)))) := hr171
        refine lv_ladd hx hb d_BW_step_174 ?_
        refine x_topl (y := (lN (a9 + 2 ^ (32 - blnN a9 (X.pre j - a9))))) (lN_add _ _) ?_
        refine va_put (D := (dC, dI)) (ci := 0) (v := .long (lN (a9 + 2 ^ (32 - blnN a9 (X.pre j - a9))))) (ty := .long) (C := R_BW) (T := F_BW) (N := 6) hx hb hts u_BW t_BW t_BW_ok n_BW hown hK hP hD hS 0 rfl rfl 1 (by decide) (hts _ kw_90) (fun _ h9 => h9) rfl (by decide +kernel) rfl rfl (Nat.le_of_ble_eq_true rfl) d_BW_step_175 (fun H locs hP hD hS => ?_)
        replace hP : va_P (dC, dI) classes [(h, .inr (0, [.ref rr, .long (lN (a9 + 2 ^ (32 - blnN a9 (X.pre j - a9)))), .long (lN e), .int (nI j), .long (lN a9), .int (nI (blnN a9 (X.pre j - a9)))])), (rr, .inr (3, [.ref (b 0), .ref (b 1), .ref (b 2), .ref (b 3), .ref (b 4), .ref (b 5), .ref (b 6), .ref (b 7), .ref (b 8), .int (nI X.n)])), ((b 0), .inl (cI, 200, .inl (fun z9 => nI (X.pre z9)))), ((b 1), .inl (cI, 200, .inl (fun z9 => nI (X.len z9)))), ((b 2), .inl (cI, 200, .inl (fun z9 => pI (X.par z9)))), ((b 3), .inl (cI, 200, .inl (fun z9 => nI (X.lev z9)))), ((b 4), .inl (cI, 200, .inl (fun z9 => nI (X.hol z9)))), ((b 5), .inl (cI, 200, .inl (fun z9 => nI (X.sta z9)))), ((b 6), .inl (cI, 200, .inl (fun z9 => nI (X.en z9)))), ((b 7), .inl (cI, 200, .inl (fun z9 => pI (X.fc z9)))), ((b 8), .inl (cI, 200, .inl (fun z9 => pI (X.nx z9))))] H := hP
        replace hD : va_D A [(h, .inr (0, [.ref rr, .long (lN (a9 + 2 ^ (32 - blnN a9 (X.pre j - a9)))), .long (lN e), .int (nI j), .long (lN a9), .int (nI (blnN a9 (X.pre j - a9)))])), (rr, .inr (3, [.ref (b 0), .ref (b 1), .ref (b 2), .ref (b 3), .ref (b 4), .ref (b 5), .ref (b 6), .ref (b 7), .ref (b 8), .int (nI X.n)])), ((b 0), .inl (cI, 200, .inl (fun z9 => nI (X.pre z9)))), ((b 1), .inl (cI, 200, .inl (fun z9 => nI (X.len z9)))), ((b 2), .inl (cI, 200, .inl (fun z9 => pI (X.par z9)))), ((b 3), .inl (cI, 200, .inl (fun z9 => nI (X.lev z9)))), ((b 4), .inl (cI, 200, .inl (fun z9 => nI (X.hol z9)))), ((b 5), .inl (cI, 200, .inl (fun z9 => nI (X.sta z9)))), ((b 6), .inl (cI, 200, .inl (fun z9 => nI (X.en z9)))), ((b 7), .inl (cI, 200, .inl (fun z9 => pI (X.fc z9)))), ((b 8), .inl (cI, 200, .inl (fun z9 => pI (X.nx z9))))] := hD
        refine lv_iconst (v := 1) hx hb d_BW_step_178 (by decide) ?_
        have e9 : wkS X L a e sa le = (lN (a9 + 2 ^ (32 - blnN a9 (X.pre j - a9))), lN e, nI j, lN a9, nI (blnN a9 (X.pre j - a9))) := by unfold wkS; rw [hst]; exact if_pos (show a9 < e from h87)
        have e8 : bi (decide ((stp X L a).2 < e)) = 1 := by rw [hst, decide_eq_true (show a9 < e from h87)]; rfl
        have hP9 : va_P (dC, dI) classes (wBW cI h rr b X (wkS X L a e sa le)) H := by rw [e9]; exact hP
        have hD9 : va_D A (wBW cI h rr b X (wkS X L a e sa le)) := by rw [e9]; exact hD
        exact W.zret (v := 1) hx hb hr (by decide) (fun t ht hW => ⟨⟨1, (), rfl, e8.symm, by rw [ht]; exact hP9, va_K.moved hW.alike hK, hD9⟩, hS.F ht⟩) hS.2.2 d_BW_step_179
      have h87 := mt (k_clt (by omega) (by omega)).mpr h87
      refine lv_iconst (v := 0) hx hb d_BW_step_90 (by decide) ?_
      have e9 : wkS X L a e sa le = (lN a9, lN e, nI j, sa, le) := by unfold wkS; rw [hst]; exact if_neg (show ¬ a9 < e from h87)
      have e8 : bi (decide ((stp X L a).2 < e)) = 0 := by rw [hst]; exact bi_d.mpr h87
      have hP9 : va_P (dC, dI) classes (wBW cI h rr b X (wkS X L a e sa le)) H := by rw [e9]; exact hP
      have hD9 : va_D A (wBW cI h rr b X (wkS X L a e sa le)) := by rw [e9]; exact hD
      exact W.zret (v := 0) hx hb hr (by decide) (fun t ht hW => ⟨⟨0, (), rfl, e8.symm, by rw [ht]; exact hP9, va_K.moved hW.alike hK, hD9⟩, hS.F ht⟩) hS.2.2 d_BW_step_91
    have h33 := (k_c0 (by have := hX.pre j; omega) (by omega)).mp h33
    refine lv_aload_n hx hb d_BW_step_36 rfl (lv_at hl 1 rfl) ?_
    refine lv_dup hx hb d_BW_step_37 rfl ?_
    refine va_get (D := (dC, dI)) (ci := 0) (v := .long (lN a9)) (C := R_BW) (T := F_BW) (N := 6) hx hb hts u_BW hown hK hP 0 rfl rfl 1 (by decide) (hts _ kw_90) (fun _ h9 => h9) rfl d_BW_step_38 ?_
    refine lv_aload_n hx hb d_BW_step_41 rfl (lv_at hl 1 rfl) ?_
    refine va_get (D := (dC, dI)) (ci := 0) (v := .ref rr) (C := R_BW) (T := F_BW) (N := 6) hx hb hts u_BW hown hK hP 0 rfl rfl 0 (by decide) (hts _ kw_89) (fun _ h9 => h9) rfl d_BW_step_42 ?_
    refine lv_aload_n hx hb d_BW_step_45 rfl (lv_at hl 1 rfl) ?_
    refine va_get (D := (dC, dI)) (ci := 0) (v := .int (nI j)) (C := R_BW) (T := F_BW) (N := 6) hx hb hts u_BW hown hK hP 0 rfl rfl 3 (by decide) (hts _ kw_92) (fun _ h9 => h9) rfl d_BW_step_46 ?_
    refine vp_callSl (W.runV (b := rr) (As := [.int (nI j)]) (rest := [.long (lN a9), .ref h]) ⟨hx, hb, hml, hown, hts⟩ (c_Re_size l dC dI cI rr b X hX j hj) (cwV 1 hts (gV kw_366 kw_180 kw_181 kw_3 kw_182) rfl rfl rfl (by decide +kernel) ⟨Nat.le_of_ble_eq_true rfl, Nat.le_of_ble_eq_true rfl⟩) ⟨PcS.blind, va_recv (q0 := 0) hK (hP.sub (ws' := wRe cI rr b X) [1, 2, 3, 4, 5, 6, 7, 8, 9, 10] rfl) rfl rfl, PcS.use (hP.sub (ws' := wRe cI rr b X) [1, 2, 3, 4, 5, 6, 7, 8, 9, 10] rfl) hK hN⟩ rfl rfl hl.1 rfl (lv_room (Nat.le_of_ble_eq_true rfl)) d_BW_step_49 ⟨Nat.zero_le _, Nat.zero_le _⟩) (fun r49 hr49 => ?_)
    obtain rfl : r49 = lN (2 ^ (32 - X.len j)) := hr49
    refine lv_ladd hx hb d_BW_step_52 ?_
    refine x_topl (y := (lN (a9 + 2 ^ (32 - X.len j)))) (lN_add _ _) ?_
    refine va_put (D := (dC, dI)) (ci := 0) (v := .long (lN (a9 + 2 ^ (32 - X.len j)))) (ty := .long) (C := R_BW) (T := F_BW) (N := 6) hx hb hts u_BW t_BW t_BW_ok n_BW hown hK hP hD hS 0 rfl rfl 1 (by decide) (hts _ kw_90) (fun _ h9 => h9) rfl (by decide +kernel) rfl rfl (Nat.le_of_ble_eq_true rfl) d_BW_step_53 (fun H locs hP hD hS => ?_)
    replace hP : va_P (dC, dI) classes [(h, .inr (0, [.ref rr, .long (lN (a9 + 2 ^ (32 - X.len j))), .long (lN e), .int (nI j), .long sa, .int le])), (rr, .inr (3, [.ref (b 0), .ref (b 1), .ref (b 2), .ref (b 3), .ref (b 4), .ref (b 5), .ref (b 6), .ref (b 7), .ref (b 8), .int (nI X.n)])), ((b 0), .inl (cI, 200, .inl (fun z9 => nI (X.pre z9)))), ((b 1), .inl (cI, 200, .inl (fun z9 => nI (X.len z9)))), ((b 2), .inl (cI, 200, .inl (fun z9 => pI (X.par z9)))), ((b 3), .inl (cI, 200, .inl (fun z9 => nI (X.lev z9)))), ((b 4), .inl (cI, 200, .inl (fun z9 => nI (X.hol z9)))), ((b 5), .inl (cI, 200, .inl (fun z9 => nI (X.sta z9)))), ((b 6), .inl (cI, 200, .inl (fun z9 => nI (X.en z9)))), ((b 7), .inl (cI, 200, .inl (fun z9 => pI (X.fc z9)))), ((b 8), .inl (cI, 200, .inl (fun z9 => pI (X.nx z9))))] H := hP
    replace hD : va_D A [(h, .inr (0, [.ref rr, .long (lN (a9 + 2 ^ (32 - X.len j))), .long (lN e), .int (nI j), .long sa, .int le])), (rr, .inr (3, [.ref (b 0), .ref (b 1), .ref (b 2), .ref (b 3), .ref (b 4), .ref (b 5), .ref (b 6), .ref (b 7), .ref (b 8), .int (nI X.n)])), ((b 0), .inl (cI, 200, .inl (fun z9 => nI (X.pre z9)))), ((b 1), .inl (cI, 200, .inl (fun z9 => nI (X.len z9)))), ((b 2), .inl (cI, 200, .inl (fun z9 => pI (X.par z9)))), ((b 3), .inl (cI, 200, .inl (fun z9 => nI (X.lev z9)))), ((b 4), .inl (cI, 200, .inl (fun z9 => nI (X.hol z9)))), ((b 5), .inl (cI, 200, .inl (fun z9 => nI (X.sta z9)))), ((b 6), .inl (cI, 200, .inl (fun z9 => nI (X.en z9)))), ((b 7), .inl (cI, 200, .inl (fun z9 => pI (X.fc z9)))), ((b 8), .inl (cI, 200, .inl (fun z9 => pI (X.nx z9))))] := hD
    refine lv_aload_n hx hb d_BW_step_56 rfl (lv_at hl 1 rfl) ?_
    refine lv_aload_n hx hb d_BW_step_57 rfl (lv_at hl 1 rfl) ?_
    refine va_get (D := (dC, dI)) (ci := 0) (v := .ref rr) (C := R_BW) (T := F_BW) (N := 6) hx hb hts u_BW hown hK hP 0 rfl rfl 0 (by decide) (hts _ kw_89) (fun _ h9 => h9) rfl d_BW_step_58 ?_
    refine va_getN (D := (dC, dI)) (ci := 3) (v := .ref (b 8)) (C := R_Re) (T := F_Re) (N := 10) hx hb hts u_Re hown hK hP 1 rfl rfl 8 (by decide) (va_Nw.use rfl (hN.at 56 nw_56 rfl)) (fun _ h9 => h9) rfl d_BW_step_61 ?_
    refine lv_aload_n hx hb d_BW_step_64 rfl (lv_at hl 1 rfl) ?_
    refine va_get (D := (dC, dI)) (ci := 0) (v := .int (nI j)) (C := R_BW) (T := F_BW) (N := 6) hx hb hts u_BW hown hK hP 0 rfl rfl 3 (by decide) (hts _ kw_92) (fun _ h9 => h9) rfl d_BW_step_65 ?_
    refine x_iald (j := j) (v := (pI (X.nx j))) hx hb hK hP 10 0 rfl rfl hj (by decide) rfl rfl d_BW_step_68 ?_
    refine va_put (D := (dC, dI)) (ci := 0) (v := .int (pI (X.nx j))) (ty := .int) (C := R_BW) (T := F_BW) (N := 6) hx hb hts u_BW t_BW t_BW_ok n_BW hown hK hP hD hS 0 rfl rfl 3 (by decide) (hts _ kw_92) (fun _ h9 => h9) rfl (by decide +kernel) rfl rfl (Nat.le_of_ble_eq_true rfl) d_BW_step_69 (fun H locs hP hD hS => ?_)
    replace hP : va_P (dC, dI) classes [(h, .inr (0, [.ref rr, .long (lN (a9 + 2 ^ (32 - X.len j))), .long (lN e), .int (pI (X.nx j)), .long sa, .int le])), (rr, .inr (3, [.ref (b 0), .ref (b 1), .ref (b 2), .ref (b 3), .ref (b 4), .ref (b 5), .ref (b 6), .ref (b 7), .ref (b 8), .int (nI X.n)])), ((b 0), .inl (cI, 200, .inl (fun z9 => nI (X.pre z9)))), ((b 1), .inl (cI, 200, .inl (fun z9 => nI (X.len z9)))), ((b 2), .inl (cI, 200, .inl (fun z9 => pI (X.par z9)))), ((b 3), .inl (cI, 200, .inl (fun z9 => nI (X.lev z9)))), ((b 4), .inl (cI, 200, .inl (fun z9 => nI (X.hol z9)))), ((b 5), .inl (cI, 200, .inl (fun z9 => nI (X.sta z9)))), ((b 6), .inl (cI, 200, .inl (fun z9 => nI (X.en z9)))), ((b 7), .inl (cI, 200, .inl (fun z9 => pI (X.fc z9)))), ((b 8), .inl (cI, 200, .inl (fun z9 => pI (X.nx z9))))] H := hP
    replace hD : va_D A [(h, .inr (0, [.ref rr, .long (lN (a9 + 2 ^ (32 - X.len j))), .long (lN e), .int (pI (X.nx j)), .long sa, .int le])), (rr, .inr (3, [.ref (b 0), .ref (b 1), .ref (b 2), .ref (b 3), .ref (b 4), .ref (b 5), .ref (b 6), .ref (b 7), .ref (b 8), .int (nI X.n)])), ((b 0), .inl (cI, 200, .inl (fun z9 => nI (X.pre z9)))), ((b 1), .inl (cI, 200, .inl (fun z9 => nI (X.len z9)))), ((b 2), .inl (cI, 200, .inl (fun z9 => pI (X.par z9)))), ((b 3), .inl (cI, 200, .inl (fun z9 => nI (X.lev z9)))), ((b 4), .inl (cI, 200, .inl (fun z9 => nI (X.hol z9)))), ((b 5), .inl (cI, 200, .inl (fun z9 => nI (X.sta z9)))), ((b 6), .inl (cI, 200, .inl (fun z9 => nI (X.en z9)))), ((b 7), .inl (cI, 200, .inl (fun z9 => pI (X.fc z9)))), ((b 8), .inl (cI, 200, .inl (fun z9 => pI (X.nx z9))))] := hD
    refine lv_iinc hx hb d_BW_step_72 hl (k := 0) (v := (nI (i + 1))) rfl (nI_1 i) (by decide) rfl (fun ls hl => ?_)
    replace hl : lv_has ls 5 [(1, .int (nI (i + 1))), (0, .ref h)] := hl
    refine lv_goto hx hb d_BW_step_75 rfl ?_
    replace hP : va_P (dC, dI) classes (wBW cI h rr b X (lN (a9 + 2 ^ (32 - X.len j)), lN e, pI (X.nx j), sa, le)) H := hP
    replace hD : va_D A (wBW cI h rr b X (lN (a9 + 2 ^ (32 - X.len j)), lN e, pI (X.nx j), sa, le)) := hD
    refine ih _ _ _ _ _ _ hC (fun k q => hX.nx q) ?_ ?_ ?_ hP hD hS hl
    · omega
    · have := k_pow (n := X.len j); omega
    · rw [← hres]; simp only [stp]; rw [if_pos h33]
