/-! journal and ledger: worlds and what the readers answer -/
def alB (X Y : RS) : Bool := decide (X.n = Y.n) && (List.range X.n).all (fun i => (List.range 7).all (fun w => decide (fct X i w = fct Y i w)))
theorem alB_iff {X Y : RS} : alB X Y = true ↔ (X.n = Y.n ∧ ∀ i, i < X.n → ∀ w, w < 7 → fct X i w = fct Y i w) := by
  unfold alB
  simp only [Bool.and_eq_true, decide_eq_true_eq, List.all_eq_true, List.mem_range]
theorem alT {X Y : RS} (h : X.n = Y.n ∧ ∀ i, i < X.n → ∀ w, w < 7 → fct X i w = fct Y i w) : (1 : Int32) = bi (alB X Y) := by rw [alB_iff.mpr h]; rfl
theorem alF {X Y : RS} (h : ¬ (X.n = Y.n ∧ ∀ i, i < X.n → ∀ w, w < 7 → fct X i w = fct Y i w)) : (0 : Int32) = bi (alB X Y) := by
  cases q : alB X Y with
  | false => rfl
  | true => exact absurd (alB_iff.mp q) h
abbrev wJn (cI : ClassId) (h a : Nat) (pt : Nat → Int32) (n : Nat) : va_W := [(h, .inr (1, [.ref a, .int (nI n)])), (a, .inl (cI, 1200, .inl pt))]
abbrev WK : Type := Int64 × Int64 × Int32 × Int64 × Int32
abbrev WK.at (w : WK) : Int64 := w.1
abbrev WK.en (w : WK) : Int64 := w.2.1
abbrev WK.ch (w : WK) : Int32 := w.2.2.1
abbrev WK.sa (w : WK) : Int64 := w.2.2.2.1
abbrev WK.le (w : WK) : Int32 := w.2.2.2.2
abbrev wLe (cI : ClassId) (g : Nat → Nat) (X : RS) (pol : Nat → Nat) (td qd : Nat) (wk : WK) : va_W := [(g 0, .inr (2, [.ref (g 3), .ref (g 1), .ref (g 2), .int (nI td), .int (nI qd)])), (g 1, .inr (0, [.ref (g 3), .long wk.at, .long wk.en, .int wk.ch, .long wk.sa, .int wk.le])), (g 2, .inl (cI, 4, .inl (fun j => nI (pol j))))] ++ wRe cI (g 3) (fun k => g (4 + k)) X
def omN (X : RS) (j : Nat) : Int32 := if X.lev j < 4 then (if X.n = 200 then -3 else 0) else -6
def hafN (X : RS) (j : Nat) (u : Bool) : Nat := match u with
  | true => X.pre j ^^^ 2 ^ (32 - (X.len j + 1))
  | false => X.pre j
def tbP (X : RS) (a n : Nat) (r : Nat) : Bool := decide (X.par r = none) && decide (X.sta r ≠ 4) && decide (mt2 (X.pre r) (X.len r) a n)
set_option maxHeartbeats 4000000 in
set_option maxRecDepth 100000 in
theorem c_Re_areLike (l : Launch) (dC : Nat → ClassId) (dI : Nat → Nat → Nat) (cI : ClassId) (h : Nat) (b : Nat → Nat) (X : RS) (hX : RSok X) (h2 : Nat) (b2 : Nat → Nat) (Y : RS) (hY : RSok Y) : Met l y_Re_areLike (.code y_Re_areLike b_Re_areLike 4 (some .boolean) :: wG) ({ frames := 1, cells := 0, slots := 0, locals := 22 }) (PcS (dC, dI) [(cI, .int)] (wRe cI h b X ++ wRe cI h2 b2 Y) [.ref h, .ref h2]) (vp_Si (fun r9 => r9 = bi (alB X Y))) 0 0 (fun _ => False) := by
  refine Met.ofW (cc := b_Re_areLike) (maxL := 4) (ret := (some .boolean)) (by decide) rfl ?_
  intro pg eg s mg ag bg meth cg s₁ B hml hv
  obtain ⟨rfl, hP, hK, hN⟩ := hv
  have hx := B.exec
  have hb := B.bytes
  have hr := B.returns
  have hlocks := B.notSynchronized
  have hts : ∀ w9 ∈ wG, w9.before ([.ref h, .ref h2] : List Value).toArray s = true := fun w9 h9 => atoms_spec (ws := (.code y_Re_areLike b_Re_areLike 4 (some .boolean) :: wG)) B.pre w9 (List.mem_cons_of_mem _ h9)
  have hown : s.vm.findClass "PrefixRegistry$Records" = some mg.cls := findClass_of_methodNamed B.named
  have hP : va_P (dC, dI) classes (wRe cI h b X ++ wRe cI h2 b2 Y) s.heap := hP
  have hl := lv_entry ([.ref h, .ref h2]) (n := 4) (Nat.le_of_ble_eq_true rfl)
  rw [lg_entry_eq]
  generalize (lg_sl ([.ref h, .ref h2]) ++ List.replicate (4 - (lg_sl ([.ref h, .ref h2])).length) Slot.unset).toArray = ls at hl ⊢
  replace hl : lv_has ls 4 [(0, .ref h), (1, .ref h2)] := hl
  refine lv_aload_n hx hb d_Re_areLike_0 rfl (lv_at hl 0 rfl) ?_
  refine va_get (D := (dC, dI)) (ci := 3) (v := .int (nI X.n)) (C := R_Re) (T := F_Re) (N := 10) hx hb hts u_Re hown hK hP 0 rfl rfl 9 (by decide) (hts _ kw_58) (fun _ h9 => h9) rfl d_Re_areLike_1 ?_
  refine lv_aload_n hx hb d_Re_areLike_4 rfl (lv_at hl 1 rfl) ?_
  refine va_get (D := (dC, dI)) (ci := 3) (v := .int (nI Y.n)) (C := R_Re) (T := F_Re) (N := 10) hx hb hts u_Re hown hK hP 10 rfl rfl 9 (by decide) (hts _ kw_58) (fun _ h9 => h9) rfl d_Re_areLike_5 ?_
  refine lv_icmp_eq hx hb d_Re_areLike_8 rfl (fun h8 => ?_) (fun h8 => ?_)
  · have h8 := (nI_eq (by have := hX.n; omega) (by have := hY.n; omega)).mp h8
    refine lv_iconst (v := 0) hx hb d_Re_areLike_13 (by decide) ?_
    refine lv_istore_n hx hb d_Re_areLike_14 rfl hl (by decide) rfl (fun ls hl => ?_)
    replace hl : lv_has ls 4 [(2, .int 0), (0, .ref h), (1, .ref h2)] := hl
    obtain ⟨i, hi0⟩ : ∃ i : Nat, i = 0 := ⟨_, rfl⟩
    obtain ⟨k, hk0⟩ : ∃ k : Nat, k = X.n - 0 := ⟨_, rfl⟩
    have hres : ∀ q, q < i → ∀ w, w < 7 → fct X q w = fct Y q w := by intro q hq; omega
    replace hl : lv_has ls 4 [(2, .int (nI i)), (0, .ref h), (1, .ref h2)] := by subst hi0; exact hl
    have hik : i + k = X.n := by omega
    clear hi0 hk0 
    replace hres := hres
    replace hl : lv_has ls 4 [(2, .int (nI i)), (0, .ref h), (1, .ref h2)] := hl
    induction k generalizing i ls  with
    | zero =>
      refine lv_iload_n hx hb d_Re_areLike_15 rfl (lv_at hl 0 rfl) ?_
      refine lv_aload_n hx hb d_Re_areLike_16 rfl (lv_at hl 1 rfl) ?_
      refine va_get (D := (dC, dI)) (ci := 3) (v := .int (nI X.n)) (C := R_Re) (T := F_Re) (N := 10) hx hb hts u_Re hown hK hP 0 rfl rfl 9 (by decide) (hts _ kw_58) (fun _ h9 => h9) rfl d_Re_areLike_17 ?_
      refine lv_icmp_ge hx hb d_Re_areLike_20 rfl (fun _ => ?_) (fun h9 => absurd (nI_le (by omega) (by have := hX.n; omega)) h9)
      refine lv_iconst (v := 1) hx hb d_Re_areLike_60 (by decide) ?_
      exact W.zret (v := 1) hx hb hr (by decide) (fun t ht hW => ⟨1, rfl, (alT ⟨h8, fun q hq => hres q (by omega)⟩), ht⟩) (fun q h => nomatch h) d_Re_areLike_61
    | succ k ih =>
      refine lv_iload_n hx hb d_Re_areLike_15 rfl (lv_at hl 0 rfl) ?_
      refine lv_aload_n hx hb d_Re_areLike_16 rfl (lv_at hl 1 rfl) ?_
      refine va_get (D := (dC, dI)) (ci := 3) (v := .int (nI X.n)) (C := R_Re) (T := F_Re) (N := 10) hx hb hts u_Re hown hK hP 0 rfl rfl 9 (by decide) (hts _ kw_58) (fun _ h9 => h9) rfl d_Re_areLike_17 ?_
      refine lv_icmp_ge hx hb d_Re_areLike_20 rfl (fun h9 => absurd h9 (nI_ge (by omega) (by have := hX.n; omega))) (fun _ => ?_)
      refine lv_iconst (v := 0) hx hb d_Re_areLike_23 (by decide) ?_
      refine lv_istore_n hx hb d_Re_areLike_24 rfl hl (by decide) rfl (fun ls hl => ?_)
      replace hl : lv_has ls 4 [(3, .int 0), (2, .int (nI i)), (0, .ref h), (1, .ref h2)] := hl
      obtain ⟨w, hw0⟩ : ∃ w : Nat, w = 0 := ⟨_, rfl⟩
      obtain ⟨z, hz0⟩ : ∃ z : Nat, z = 7 - 0 := ⟨_, rfl⟩
      have hrow : ∀ q, q < w → fct X i q = fct Y i q := by intro q hq; omega
      replace hl : lv_has ls 4 [(3, .int (nI w)), (2, .int (nI i)), (0, .ref h), (1, .ref h2)] := by subst hw0; exact hl
      have hwz : w + z = 7 := by omega
      clear hw0 hz0 
      replace hrow := hrow
      replace hl : lv_has ls 4 [(3, .int (nI w)), (2, .int (nI i)), (0, .ref h), (1, .ref h2)] := hl
      induction z generalizing w ls  with
      | zero =>
        refine lv_iload_n hx hb d_Re_areLike_25 rfl (lv_at hl 0 rfl) ?_
        refine lv_bipush (v := 7) hx hb d_Re_areLike_26 (by decide) ?_
        refine lv_icmp_ge hx hb d_Re_areLike_28 rfl (fun _ => ?_) (fun h9 => absurd (nI_le (a := 7) (by omega) (by omega)) h9)
        refine lv_iinc hx hb d_Re_areLike_54 hl (k := 1) (v := (nI (i + 1))) rfl (nI_1 i) (by decide) rfl (fun ls hl => ?_)
        replace hl : lv_has ls 4 [(2, .int (nI (i + 1))), (3, .int (nI w)), (0, .ref h), (1, .ref h2)] := hl
        refine lv_goto hx hb d_Re_areLike_57 rfl ?_
        refine ih _ _ ?_ ?_ (lv_sub hl [0, 2, 3] rfl)
        · omega
        · exact (fun q hq w hw => if e9 : q < i then hres q e9 w hw else (show q = i by omega) ▸ hrow w (by omega))
      | succ z iz =>
        refine lv_iload_n hx hb d_Re_areLike_25 rfl (lv_at hl 0 rfl) ?_
        refine lv_bipush (v := 7) hx hb d_Re_areLike_26 (by decide) ?_
        refine lv_icmp_ge hx hb d_Re_areLike_28 rfl (fun h9 => absurd h9 (nI_ge (b := 7) (by omega) (by omega))) (fun _ => ?_)
        refine lv_aload_n hx hb d_Re_areLike_31 rfl (lv_at hl 2 rfl) ?_
        refine lv_iload_n hx hb d_Re_areLike_32 rfl (lv_at hl 1 rfl) ?_
        refine lv_iload_n hx hb d_Re_areLike_33 rfl (lv_at hl 0 rfl) ?_
        refine vp_callSi (W.runV (b := h) (As := [.int (nI i), .int (nI w)]) (rest := []) ⟨hx, hb, hml, hown, hts⟩ (c_Re_fact l dC dI cI h b X hX i (by have := hX.n; omega) w (by omega)) (cwV 2 hts (gV kw_199 kw_200 kw_201 kw_3 kw_202) rfl rfl rfl (by decide +kernel) ⟨Nat.le_of_ble_eq_true rfl, Nat.le_of_ble_eq_true rfl⟩) ⟨PcS.blind, va_recv (q0 := 0) hK (hP.sub (ws' := wRe cI h b X) [0, 1, 2, 3, 4, 5, 6, 7, 8, 9] rfl) rfl rfl, PcS.use (hP.sub (ws' := wRe cI h b X) [0, 1, 2, 3, 4, 5, 6, 7, 8, 9] rfl) hK hN⟩ rfl rfl hl.1 rfl (lv_room (Nat.le_of_ble_eq_true rfl)) d_Re_areLike_34 ⟨Nat.zero_le _, Nat.zero_le _⟩) (fun r34 hr34 => ?_)
        obtain rfl : r34 = fct X i w := hr34
        refine lv_aload_n hx hb d_Re_areLike_37 rfl (lv_at hl 3 rfl) ?_
        refine lv_iload_n hx hb d_Re_areLike_38 rfl (lv_at hl 1 rfl) ?_
        refine lv_iload_n hx hb d_Re_areLike_39 rfl (lv_at hl 0 rfl) ?_
        refine vp_callSi (W.runV (b := h2) (As := [.int (nI i), .int (nI w)]) (rest := [.int (fct X i w)]) ⟨hx, hb, hml, hown, hts⟩ (c_Re_fact l dC dI cI h2 b2 Y hY i (by have := hX.n; omega) w (by omega)) (cwV 2 hts (gV kw_199 kw_200 kw_201 kw_3 kw_202) rfl rfl rfl (by decide +kernel) ⟨Nat.le_of_ble_eq_true rfl, Nat.le_of_ble_eq_true rfl⟩) ⟨PcS.blind, va_recv (q0 := 0) hK (hP.sub (ws' := wRe cI h2 b2 Y) [10, 11, 12, 13, 14, 15, 16, 17, 18, 19] rfl) rfl rfl, PcS.use (hP.sub (ws' := wRe cI h2 b2 Y) [10, 11, 12, 13, 14, 15, 16, 17, 18, 19] rfl) hK hN⟩ rfl rfl hl.1 rfl (lv_room (Nat.le_of_ble_eq_true rfl)) d_Re_areLike_40 ⟨Nat.zero_le _, Nat.zero_le _⟩) (fun r40 hr40 => ?_)
        obtain rfl : r40 = fct Y i w := hr40
        refine lv_icmp_eq hx hb d_Re_areLike_43 rfl (fun h43 => ?_) (fun h43 => ?_)
        · refine lv_iinc hx hb d_Re_areLike_48 hl (k := 0) (v := (nI (w + 1))) rfl (nI_1 w) (by decide) rfl (fun ls hl => ?_)
          replace hl : lv_has ls 4 [(3, .int (nI (w + 1))), (2, .int (nI i)), (0, .ref h), (1, .ref h2)] := hl
          refine lv_goto hx hb d_Re_areLike_51 rfl ?_
          refine iz _ _ ?_ ?_ hl
          · omega
          · exact (fun q hq => if e9 : q < w then hrow q e9 else (show q = w by omega) ▸ h43)
        refine lv_iconst (v := 0) hx hb d_Re_areLike_46 (by decide) ?_
        exact W.zret (v := 0) hx hb hr (by decide) (fun t ht hW => ⟨0, rfl, (alF (fun q => h43 (q.2 i (by omega) w (by omega)))), ht⟩) (fun q h => nomatch h) d_Re_areLike_47
  have h8 := mt (nI_eq (by have := hX.n; omega) (by have := hY.n; omega)).mpr h8
  refine lv_iconst (v := 0) hx hb d_Re_areLike_11 (by decide) ?_
  exact W.zret (v := 0) hx hb hr (by decide) (fun t ht hW => ⟨0, rfl, (alF (fun q => h8 q.1)), ht⟩) (fun q h => nomatch h) d_Re_areLike_12
set_option maxHeartbeats 4000000 in
set_option maxRecDepth 100000 in
theorem c_Jn_isFull (l : Launch) (dC : Nat → ClassId) (dI : Nat → Nat → Nat) (cI : ClassId) (h a : Nat) (pt : Nat → Int32) (n : Nat) (hn : n ≤ 300) : Met l y_Jn_isFull (.code y_Jn_isFull b_Jn_isFull 1 (some .boolean) :: wG) ({ frames := 0, cells := 0, slots := 0, locals := 0 }) (PcS (dC, dI) [(cI, .int)] (wJn cI h a pt n) [.ref h]) (vp_Si (fun r9 => r9 = bi (decide (n = 300)))) 0 0 (fun _ => False) := by
  refine Met.ofW (cc := b_Jn_isFull) (maxL := 1) (ret := (some .boolean)) (by decide) rfl ?_
  intro pg eg s mg ag bg meth cg s₁ B hml hv
  obtain ⟨rfl, hP, hK, hN⟩ := hv
  have hx := B.exec
  have hb := B.bytes
  have hr := B.returns
  have hlocks := B.notSynchronized
  have hts : ∀ w9 ∈ wG, w9.before ([.ref h] : List Value).toArray s = true := fun w9 h9 => atoms_spec (ws := (.code y_Jn_isFull b_Jn_isFull 1 (some .boolean) :: wG)) B.pre w9 (List.mem_cons_of_mem _ h9)
  have hown : s.vm.findClass "PrefixRegistry$Journal" = some mg.cls := findClass_of_methodNamed B.named
  have hP : va_P (dC, dI) classes (wJn cI h a pt n) s.heap := hP
  have hl := lv_entry ([.ref h]) (n := 1) (Nat.le_of_ble_eq_true rfl)
  rw [lg_entry_eq]
  generalize (lg_sl ([.ref h]) ++ List.replicate (1 - (lg_sl ([.ref h])).length) Slot.unset).toArray = ls at hl ⊢
  replace hl : lv_has ls 1 [(0, .ref h)] := hl
  refine lv_aload_n hx hb d_Jn_isFull_0 rfl (lv_at hl 0 rfl) ?_
  refine va_get (D := (dC, dI)) (ci := 1) (v := .int (nI n)) (C := R_Jn) (T := F_Jn) (N := 2) hx hb hts u_Jn hown hK hP 0 rfl rfl 1 (by decide) (hts _ kw_139) (fun _ h9 => h9) rfl d_Jn_isFull_1 ?_
  refine lv_sipush (v := 300) hx hb d_Jn_isFull_4 (by decide) ?_
  refine lv_icmp_lt hx hb d_Jn_isFull_7 rfl (fun h7 => ?_) (fun h7 => ?_)
  · have h7 := (nI_ltI (b := 300) (by omega) (by decide)).mp h7
    refine lv_iconst (v := 0) hx hb d_Jn_isFull_14 (by decide) ?_
    exact W.zret (v := 0) hx hb hr (by decide) (fun t ht hW => ⟨0, rfl, (bF (by omega)), ht⟩) (fun q h => nomatch h) d_Jn_isFull_15
  have h7 := mt (nI_ltI (b := 300) (by omega) (by decide)).mpr h7
  refine lv_iconst (v := 1) hx hb d_Jn_isFull_10 (by decide) ?_
  refine lv_goto hx hb d_Jn_isFull_11 rfl ?_
  exact W.zret (v := 1) hx hb hr (by decide) (fun t ht hW => ⟨1, rfl, (bT (by omega)), ht⟩) (fun q h => nomatch h) d_Jn_isFull_15
set_option maxHeartbeats 4000000 in
set_option maxRecDepth 100000 in
theorem c_Jn_part (l : Launch) (dC : Nat → ClassId) (dI : Nat → Nat → Nat) (cI : ClassId) (h a : Nat) (pt : Nat → Int32) (n : Nat) (hn : n ≤ 300) (q w : Nat) (hq : q < 300) (hw : w < 4) : Met l y_Jn_part (.code y_Jn_part b_Jn_part 3 (some .int) :: wG) ({ frames := 0, cells := 0, slots := 0, locals := 0 }) (PcS (dC, dI) [(cI, .int)] (wJn cI h a pt n) [.ref h, .int (nI q), .int (nI w)]) (vp_Si (fun r9 => r9 = pt (q * 4 + w))) 0 0 (fun _ => False) := by
  refine Met.ofW (cc := b_Jn_part) (maxL := 3) (ret := (some .int)) (by decide) rfl ?_
  intro pg eg s mg ag bg meth cg s₁ B hml hv
  obtain ⟨rfl, hP, hK, hN⟩ := hv
  have hx := B.exec
  have hb := B.bytes
  have hr := B.returns
  have hlocks := B.notSynchronized
  have hts : ∀ w9 ∈ wG, w9.before ([.ref h, .int (nI q), .int (nI w)] : List Value).toArray s = true := fun w9 h9 => atoms_spec (ws := (.code y_Jn_part b_Jn_part 3 (some .int) :: wG)) B.pre w9 (List.mem_cons_of_mem _ h9)
  have hown : s.vm.findClass "PrefixRegistry$Journal" = some mg.cls := findClass_of_methodNamed B.named
  have hP : va_P (dC, dI) classes (wJn cI h a pt n) s.heap := hP
  have hl := lv_entry ([.ref h, .int (nI q), .int (nI w)]) (n := 3) (Nat.le_of_ble_eq_true rfl)
  rw [lg_entry_eq]
  generalize (lg_sl ([.ref h, .int (nI q), .int (nI w)]) ++ List.replicate (3 - (lg_sl ([.ref h, .int (nI q), .int (nI w)])).length) Slot.unset).toArray = ls at hl ⊢
  replace hl : lv_has ls 3 [(0, .ref h), (1, .int (nI q)), (2, .int (nI w))] := hl
  refine lv_aload_n hx hb d_Jn_part_0 rfl (lv_at hl 0 rfl) ?_
  refine va_get (D := (dC, dI)) (ci := 1) (v := .ref a) (C := R_Jn) (T := F_Jn) (N := 2) hx hb hts u_Jn hown hK hP 0 rfl rfl 0 (by decide) (hts _ kw_138) (fun _ h9 => h9) rfl d_Jn_part_1 ?_
  refine lv_iload_n hx hb d_Jn_part_4 rfl (lv_at hl 1 rfl) ?_
  refine lv_iconst (v := 4) hx hb d_Jn_part_5 (by decide) ?_
  refine lv_imul hx hb d_Jn_part_6 ?_
  refine x_topi (y := (nI (q * 4))) (pk_mul q 4) ?_
  refine lv_iload_n hx hb d_Jn_part_7 rfl (lv_at hl 2 rfl) ?_
  refine lv_iadd hx hb d_Jn_part_8 ?_
  refine x_topi (y := (nI (q * 4 + w))) (nI_add _ _) ?_
  refine x_iald (j := (q * 4 + w)) (v := (pt (q * 4 + w))) hx hb hK hP 1 0 rfl rfl (by omega) (by decide) rfl rfl d_Jn_part_9 ?_
  exact W.iret (v := (pt (q * 4 + w))) hx hb hr (fun t ht hW => ⟨(pt (q * 4 + w)), rfl, (by rfl), ht⟩) (fun q h => nomatch h) d_Jn_part_10
set_option maxHeartbeats 4000000 in
set_option maxRecDepth 100000 in
theorem c_Le_isLengthBelow (l : Launch) (dC : Nat → ClassId) (dI : Nat → Nat → Nat) (cI : ClassId) (g : Nat → Nat) (X : RS) (hX : RSok X) (pol : Nat → Nat) (td qd : Nat) (wk : WK) (j : Nat) (hj : j < 200) (n : Nat) (hn0 : n < 4294967296) : Met l y_Le_isLengthBelow (.code y_Le_isLengthBelow b_Le_isLengthBelow 3 (some .boolean) :: wG) ({ frames := 0, cells := 0, slots := 0, locals := 0 }) (PcS (dC, dI) [(cI, .int)] (wLe cI g X pol td qd wk) [.ref (g 0), .int (nI j), .int (nI n)]) (vp_Si (fun r9 => r9 = bi (decide (X.len j < n ∧ n ≤ 32)))) 0 0 (fun _ => False) := by
  refine Met.ofW (cc := b_Le_isLengthBelow) (maxL := 3) (ret := (some .boolean)) (by decide) rfl ?_
  intro pg eg s mg ag bg meth cg s₁ B hml hv
  obtain ⟨rfl, hP, hK, hN⟩ := hv
  have hx := B.exec
  have hb := B.bytes
  have hr := B.returns
  have hlocks := B.notSynchronized
  have hts : ∀ w9 ∈ wG, w9.before ([.ref (g 0), .int (nI j), .int (nI n)] : List Value).toArray s = true := fun w9 h9 => atoms_spec (ws := (.code y_Le_isLengthBelow b_Le_isLengthBelow 3 (some .boolean) :: wG)) B.pre w9 (List.mem_cons_of_mem _ h9)
  have hown : s.vm.findClass "PrefixRegistry$Ledger" = some mg.cls := findClass_of_methodNamed B.named
  have hP : va_P (dC, dI) classes (wLe cI g X pol td qd wk) s.heap := hP
  have hl := lv_entry ([.ref (g 0), .int (nI j), .int (nI n)]) (n := 3) (Nat.le_of_ble_eq_true rfl)
  rw [lg_entry_eq]
  generalize (lg_sl ([.ref (g 0), .int (nI j), .int (nI n)]) ++ List.replicate (3 - (lg_sl ([.ref (g 0), .int (nI j), .int (nI n)])).length) Slot.unset).toArray = ls at hl ⊢
  replace hl : lv_has ls 3 [(0, .ref (g 0)), (1, .int (nI j)), (2, .int (nI n))] := hl
  refine lv_iload_n hx hb d_Le_isLengthBelow_0 rfl (lv_at hl 2 rfl) ?_
  refine lv_aload_n hx hb d_Le_isLengthBelow_1 rfl (lv_at hl 0 rfl) ?_
  refine va_get (D := (dC, dI)) (ci := 2) (v := .ref (g 3)) (C := R_Le) (T := F_Le) (N := 5) hx hb hts u_Le hown hK hP 0 rfl rfl 0 (by decide) (hts _ kw_112) (fun _ h9 => h9) rfl d_Le_isLengthBelow_2 ?_
  refine va_getN (D := (dC, dI)) (ci := 3) (v := .ref (g 5)) (C := R_Re) (T := F_Re) (N := 10) hx hb hts u_Re hown hK hP 3 rfl rfl 1 (by decide) (va_Nw.use rfl (hN.at 40 nw_40 rfl)) (fun _ h9 => h9) rfl d_Le_isLengthBelow_5 ?_
  refine lv_iload_n hx hb d_Le_isLengthBelow_8 rfl (lv_at hl 1 rfl) ?_
  refine x_iald (j := j) (v := (nI (X.len j))) hx hb hK hP 5 0 rfl rfl hj (by decide) rfl rfl d_Le_isLengthBelow_9 ?_
  refine lv_icmp_le hx hb d_Le_isLengthBelow_10 rfl (fun h10 => ?_) (fun h10 => ?_)
  · have h10 := (k_le hn0 (by have := hX.len j; omega)).mp h10
    refine lv_iconst (v := 0) hx hb d_Le_isLengthBelow_23 (by decide) ?_
    exact W.zret (v := 0) hx hb hr (by decide) (fun t ht hW => ⟨0, rfl, (bF (by have := hX.len j; omega)), ht⟩) (fun q h => nomatch h) d_Le_isLengthBelow_24
  have h10 := mt (k_le hn0 (by have := hX.len j; omega)).mpr h10
  refine lv_iload_n hx hb d_Le_isLengthBelow_13 rfl (lv_at hl 2 rfl) ?_
  refine lv_bipush (v := 32) hx hb d_Le_isLengthBelow_14 (by decide) ?_
  refine lv_icmp_gt hx hb d_Le_isLengthBelow_16 rfl (fun h16 => ?_) (fun h16 => ?_)
  · have h16 := (k_lt' (a := 32) (by decide) hn0).mp h16
    refine lv_iconst (v := 0) hx hb d_Le_isLengthBelow_23 (by decide) ?_
    exact W.zret (v := 0) hx hb hr (by decide) (fun t ht hW => ⟨0, rfl, (bF (by have := hX.len j; omega)), ht⟩) (fun q h => nomatch h) d_Le_isLengthBelow_24
  have h16 := mt (k_lt' (a := 32) (by decide) hn0).mpr h16
  refine lv_iconst (v := 1) hx hb d_Le_isLengthBelow_19 (by decide) ?_
  refine lv_goto hx hb d_Le_isLengthBelow_20 rfl ?_
  exact W.zret (v := 1) hx hb hr (by decide) (fun t ht hW => ⟨1, rfl, (bT (by have := hX.len j; omega)), ht⟩) (fun q h => nomatch h) d_Le_isLengthBelow_24
set_option maxHeartbeats 4000000 in
set_option maxRecDepth 100000 in
theorem c_Le_codeForOneMore (l : Launch) (dC : Nat → ClassId) (dI : Nat → Nat → Nat) (cI : ClassId) (g : Nat → Nat) (X : RS) (hX : RSok X) (pol : Nat → Nat) (td qd : Nat) (wk : WK) (j : Nat) (hj : j < 200) : Met l y_Le_codeForOneMore (.code y_Le_codeForOneMore b_Le_codeForOneMore 2 (some .int) :: wG) ({ frames := 1, cells := 0, slots := 0, locals := 20 }) (PcS (dC, dI) [(cI, .int)] (wLe cI g X pol td qd wk) [.ref (g 0), .int (nI j)]) (vp_Si (fun r9 => r9 = omN X j)) 0 0 (fun _ => False) := by
  refine Met.ofW (cc := b_Le_codeForOneMore) (maxL := 2) (ret := (some .int)) (by decide) rfl ?_
  intro pg eg s mg ag bg meth cg s₁ B hml hv
  obtain ⟨rfl, hP, hK, hN⟩ := hv
  have hx := B.exec
  have hb := B.bytes
  have hr := B.returns
  have hlocks := B.notSynchronized
  have hts : ∀ w9 ∈ wG, w9.before ([.ref (g 0), .int (nI j)] : List Value).toArray s = true := fun w9 h9 => atoms_spec (ws := (.code y_Le_codeForOneMore b_Le_codeForOneMore 2 (some .int) :: wG)) B.pre w9 (List.mem_cons_of_mem _ h9)
  have hown : s.vm.findClass "PrefixRegistry$Ledger" = some mg.cls := findClass_of_methodNamed B.named
  have hP : va_P (dC, dI) classes (wLe cI g X pol td qd wk) s.heap := hP
  have hl := lv_entry ([.ref (g 0), .int (nI j)]) (n := 2) (Nat.le_of_ble_eq_true rfl)
  rw [lg_entry_eq]
  generalize (lg_sl ([.ref (g 0), .int (nI j)]) ++ List.replicate (2 - (lg_sl ([.ref (g 0), .int (nI j)])).length) Slot.unset).toArray = ls at hl ⊢
  replace hl : lv_has ls 2 [(0, .ref (g 0)), (1, .int (nI j))] := hl
  refine lv_aload_n hx hb d_Le_codeForOneMore_0 rfl (lv_at hl 0 rfl) ?_
  refine va_get (D := (dC, dI)) (ci := 2) (v := .ref (g 3)) (C := R_Le) (T := F_Le) (N := 5) hx hb hts u_Le hown hK hP 0 rfl rfl 0 (by decide) (hts _ kw_112) (fun _ h9 => h9) rfl d_Le_codeForOneMore_1 ?_
  refine va_getN (D := (dC, dI)) (ci := 3) (v := .ref (g 7)) (C := R_Re) (T := F_Re) (N := 10) hx hb hts u_Re hown hK hP 3 rfl rfl 3 (by decide) (va_Nw.use rfl (hN.at 44 nw_44 rfl)) (fun _ h9 => h9) rfl d_Le_codeForOneMore_4 ?_
  refine lv_iload_n hx hb d_Le_codeForOneMore_7 rfl (lv_at hl 1 rfl) ?_
  refine x_iald (j := j) (v := (nI (X.lev j))) hx hb hK hP 7 0 rfl rfl hj (by decide) rfl rfl d_Le_codeForOneMore_8 ?_
  refine lv_iconst (v := 4) hx hb d_Le_codeForOneMore_9 (by decide) ?_
  refine lv_icmp_lt hx hb d_Le_codeForOneMore_10 rfl (fun h10 => ?_) (fun h10 => ?_)
  · have h10 := (nI_ltI (b := 4) (by have := hX.lev j; omega) (by decide)).mp h10
    refine lv_aload_n hx hb d_Le_codeForOneMore_16 rfl (lv_at hl 0 rfl) ?_
    refine va_get (D := (dC, dI)) (ci := 2) (v := .ref (g 3)) (C := R_Le) (T := F_Le) (N := 5) hx hb hts u_Le hown hK hP 0 rfl rfl 0 (by decide) (hts _ kw_112) (fun _ h9 => h9) rfl d_Le_codeForOneMore_17 ?_
    refine vp_callSi (W.runV (b := (g 3)) (As := []) (rest := []) ⟨hx, hb, hml, hown, hts⟩ (c_Re_areFull l dC dI cI (g 3) (fun k => g (4 + k)) X hX ) (cwV 0 hts (gV kw_480 kw_314 kw_315 kw_3 kw_316) rfl rfl rfl (by decide +kernel) ⟨Nat.le_of_ble_eq_true rfl, Nat.le_of_ble_eq_true rfl⟩) ⟨PcS.blind, va_recv (q0 := 0) hK (hP.sub (ws' := wRe cI (g 3) (fun k => g (4 + k)) X) [3, 4, 5, 6, 7, 8, 9, 10, 11, 12] rfl) rfl rfl, PcS.use (hP.sub (ws' := wRe cI (g 3) (fun k => g (4 + k)) X) [3, 4, 5, 6, 7, 8, 9, 10, 11, 12] rfl) hK hN⟩ rfl rfl hl.1 rfl (lv_room (Nat.le_of_ble_eq_true rfl)) d_Le_codeForOneMore_20 ⟨Nat.zero_le _, Nat.zero_le _⟩) (fun r20 hr20 => ?_)
    obtain rfl : r20 = bi (decide (X.n = 200)) := hr20
    refine lv_if_eq hx hb d_Le_codeForOneMore_23 rfl (fun h23 => ?_) (fun h23 => ?_)
    · have h23 := (bi_d).mp h23
      refine lv_iconst (v := 0) hx hb d_Le_codeForOneMore_31 (by decide) ?_
      exact W.iret (v := 0) hx hb hr (fun t ht hW => ⟨0, rfl, (by unfold omN; rw [if_pos (by omega), if_neg h23]), ht⟩) (fun q h => nomatch h) d_Le_codeForOneMore_32
    have h23 := Decidable.not_not.mp (mt bi_d.mpr h23)
    refine lv_bipush (v := (-3)) hx hb d_Le_codeForOneMore_26 (by decide) ?_
    refine lv_goto hx hb d_Le_codeForOneMore_28 rfl ?_
    exact W.iret (v := (-3)) hx hb hr (fun t ht hW => ⟨(-3), rfl, (by unfold omN; rw [if_pos (by omega), if_pos h23]), ht⟩) (fun q h => nomatch h) d_Le_codeForOneMore_32
  have h10 := mt (nI_ltI (b := 4) (by have := hX.lev j; omega) (by decide)).mpr h10
  refine lv_bipush (v := (-6)) hx hb d_Le_codeForOneMore_13 (by decide) ?_
  exact W.iret (v := (-6)) hx hb hr (fun t ht hW => ⟨(-6), rfl, (by unfold omN; rw [if_neg (by omega)]), ht⟩) (fun q h => nomatch h) d_Le_codeForOneMore_15
set_option maxHeartbeats 4000000 in
set_option maxRecDepth 100000 in
theorem c_Le_isGivenBelow (l : Launch) (dC : Nat → ClassId) (dI : Nat → Nat → Nat) (cI : ClassId) (g : Nat → Nat) (X : RS) (hX : RSok X) (pol : Nat → Nat) (td qd : Nat) (wk : WK) (x : Nat) (hx0 : x < 4294967296) : Met l y_Le_isGivenBelow (.code y_Le_isGivenBelow b_Le_isGivenBelow 2 (some .boolean) :: wG) ({ frames := 2, cells := 0, slots := 0, locals := 42 }) (PcS (dC, dI) [(cI, .int)] (wLe cI g X pol td qd wk) [.ref (g 0), .int (nI x)]) (vp_Si (fun r9 => r9 = bi (decide ((x < X.n ∧ X.sta x = 1) ∧ X.par x ≠ none)))) 0 0 (fun _ => False) := by
  refine Met.ofW (cc := b_Le_isGivenBelow) (maxL := 2) (ret := (some .boolean)) (by decide) rfl ?_
  intro pg eg s mg ag bg meth cg s₁ B hml hv
  obtain ⟨rfl, hP, hK, hN⟩ := hv
  have hx := B.exec
  have hb := B.bytes
  have hr := B.returns
  have hlocks := B.notSynchronized
  have hts : ∀ w9 ∈ wG, w9.before ([.ref (g 0), .int (nI x)] : List Value).toArray s = true := fun w9 h9 => atoms_spec (ws := (.code y_Le_isGivenBelow b_Le_isGivenBelow 2 (some .boolean) :: wG)) B.pre w9 (List.mem_cons_of_mem _ h9)
  have hown : s.vm.findClass "PrefixRegistry$Ledger" = some mg.cls := findClass_of_methodNamed B.named
  have hP : va_P (dC, dI) classes (wLe cI g X pol td qd wk) s.heap := hP
  have hl := lv_entry ([.ref (g 0), .int (nI x)]) (n := 2) (Nat.le_of_ble_eq_true rfl)
  rw [lg_entry_eq]
  generalize (lg_sl ([.ref (g 0), .int (nI x)]) ++ List.replicate (2 - (lg_sl ([.ref (g 0), .int (nI x)])).length) Slot.unset).toArray = ls at hl ⊢
  replace hl : lv_has ls 2 [(0, .ref (g 0)), (1, .int (nI x))] := hl
  refine lv_aload_n hx hb d_Le_isGivenBelow_0 rfl (lv_at hl 0 rfl) ?_
  refine va_get (D := (dC, dI)) (ci := 2) (v := .ref (g 3)) (C := R_Le) (T := F_Le) (N := 5) hx hb hts u_Le hown hK hP 0 rfl rfl 0 (by decide) (hts _ kw_112) (fun _ h9 => h9) rfl d_Le_isGivenBelow_1 ?_
  refine lv_iload_n hx hb d_Le_isGivenBelow_4 rfl (lv_at hl 1 rfl) ?_
  refine vp_callSi (W.runV (b := (g 3)) (As := [.int (nI x)]) (rest := []) ⟨hx, hb, hml, hown, hts⟩ (c_Re_isGiven l dC dI cI (g 3) (fun k => g (4 + k)) X hX x hx0) (cwV 1 hts (gV kw_464 kw_465 kw_466 kw_3 kw_467) rfl rfl rfl (by decide +kernel) ⟨Nat.le_of_ble_eq_true rfl, Nat.le_of_ble_eq_true rfl⟩) ⟨PcS.blind, va_recv (q0 := 0) hK (hP.sub (ws' := wRe cI (g 3) (fun k => g (4 + k)) X) [3, 4, 5, 6, 7, 8, 9, 10, 11, 12] rfl) rfl rfl, PcS.use (hP.sub (ws' := wRe cI (g 3) (fun k => g (4 + k)) X) [3, 4, 5, 6, 7, 8, 9, 10, 11, 12] rfl) hK hN⟩ rfl rfl hl.1 rfl (lv_room (Nat.le_of_ble_eq_true rfl)) d_Le_isGivenBelow_5 ⟨Nat.zero_le _, Nat.zero_le _⟩) (fun r5 hr5 => ?_)
  obtain rfl : r5 = bi (decide (x < X.n ∧ X.sta x = 1)) := hr5
  refine lv_if_eq hx hb d_Le_isGivenBelow_8 rfl (fun h8 => ?_) (fun h8 => ?_)
  · have h8 := (bi_d).mp h8
    refine lv_iconst (v := 0) hx hb d_Le_isGivenBelow_26 (by decide) ?_
    exact W.zret (v := 0) hx hb hr (by decide) (fun t ht hW => ⟨0, rfl, (bF (by simp_all)), ht⟩) (fun q h => nomatch h) d_Le_isGivenBelow_27
  have h8 := Decidable.not_not.mp (mt bi_d.mpr h8)
  refine lv_aload_n hx hb d_Le_isGivenBelow_11 rfl (lv_at hl 0 rfl) ?_
  refine va_get (D := (dC, dI)) (ci := 2) (v := .ref (g 3)) (C := R_Le) (T := F_Le) (N := 5) hx hb hts u_Le hown hK hP 0 rfl rfl 0 (by decide) (hts _ kw_112) (fun _ h9 => h9) rfl d_Le_isGivenBelow_12 ?_
  refine lv_iload_n hx hb d_Le_isGivenBelow_15 rfl (lv_at hl 1 rfl) ?_
  refine vp_callSi (W.runV (b := (g 3)) (As := [.int (nI x)]) (rest := []) ⟨hx, hb, hml, hown, hts⟩ (c_Re_isTop l dC dI cI (g 3) (fun k => g (4 + k)) X hX x (by have := hX.n; omega)) (cwV 1 hts (gV kw_289 kw_290 kw_291 kw_3 kw_292) rfl rfl rfl (by decide +kernel) ⟨Nat.le_of_ble_eq_true rfl, Nat.le_of_ble_eq_true rfl⟩) ⟨PcS.blind, va_recv (q0 := 0) hK (hP.sub (ws' := wRe cI (g 3) (fun k => g (4 + k)) X) [3, 4, 5, 6, 7, 8, 9, 10, 11, 12] rfl) rfl rfl, PcS.use (hP.sub (ws' := wRe cI (g 3) (fun k => g (4 + k)) X) [3, 4, 5, 6, 7, 8, 9, 10, 11, 12] rfl) hK hN⟩ rfl rfl hl.1 rfl (lv_room (Nat.le_of_ble_eq_true rfl)) d_Le_isGivenBelow_16 ⟨Nat.zero_le _, Nat.zero_le _⟩) (fun r16 hr16 => ?_)
  obtain rfl : r16 = bi (decide (X.par x = none)) := hr16
  refine lv_if_ne hx hb d_Le_isGivenBelow_19 rfl (fun h19 => ?_) (fun h19 => ?_)
  · have h19 := Decidable.not_not.mp (mt bi_d.mpr h19)
    refine lv_iconst (v := 0) hx hb d_Le_isGivenBelow_26 (by decide) ?_
    exact W.zret (v := 0) hx hb hr (by decide) (fun t ht hW => ⟨0, rfl, (bF (by simp_all)), ht⟩) (fun q h => nomatch h) d_Le_isGivenBelow_27
  have h19 := (bi_d).mp h19
  refine lv_iconst (v := 1) hx hb d_Le_isGivenBelow_22 (by decide) ?_
  refine lv_goto hx hb d_Le_isGivenBelow_23 rfl ?_
  exact W.zret (v := 1) hx hb hr (by decide) (fun t ht hW => ⟨1, rfl, (bT (by simp_all)), ht⟩) (fun q h => nomatch h) d_Le_isGivenBelow_27
set_option maxHeartbeats 4000000 in
set_option maxRecDepth 100000 in
theorem c_Le_halfOf (l : Launch) (dC : Nat → ClassId) (dI : Nat → Nat → Nat) (cI : ClassId) (g : Nat → Nat) (X : RS) (hX : RSok X) (pol : Nat → Nat) (td qd : Nat) (wk : WK) (j : Nat) (hj : j < 200) (hl33 : X.len j + 1 < 33) (u : Bool) : Met l y_Le_halfOf (.code y_Le_halfOf b_Le_halfOf 4 (some .int) :: wG) ({ frames := 2, cells := 0, slots := 0, locals := 41 }) (PcS (dC, dI) [(cI, .int)] (wLe cI g X pol td qd wk) [.ref (g 0), .int (nI j), .int (bi u)]) (vp_Si (fun r9 => r9 = nI (hafN X j u))) 0 0 (fun _ => False) := by
  refine Met.ofW (cc := b_Le_halfOf) (maxL := 4) (ret := (some .int)) (by decide) rfl ?_
  intro pg eg s mg ag bg meth cg s₁ B hml hv
  obtain ⟨rfl, hP, hK, hN⟩ := hv
  have hx := B.exec
  have hb := B.bytes
  have hr := B.returns
  have hlocks := B.notSynchronized
  have hts : ∀ w9 ∈ wG, w9.before ([.ref (g 0), .int (nI j), .int (bi u)] : List Value).toArray s = true := fun w9 h9 => atoms_spec (ws := (.code y_Le_halfOf b_Le_halfOf 4 (some .int) :: wG)) B.pre w9 (List.mem_cons_of_mem _ h9)
  have hown : s.vm.findClass "PrefixRegistry$Ledger" = some mg.cls := findClass_of_methodNamed B.named
  have hP : va_P (dC, dI) classes (wLe cI g X pol td qd wk) s.heap := hP
  have hl := lv_entry ([.ref (g 0), .int (nI j), .int (bi u)]) (n := 4) (Nat.le_of_ble_eq_true rfl)
  rw [lg_entry_eq]
  generalize (lg_sl ([.ref (g 0), .int (nI j), .int (bi u)]) ++ List.replicate (4 - (lg_sl ([.ref (g 0), .int (nI j), .int (bi u)])).length) Slot.unset).toArray = ls at hl ⊢
  replace hl : lv_has ls 4 [(0, .ref (g 0)), (1, .int (nI j)), (2, .int (bi u))] := hl
  refine lv_aload_n hx hb d_Le_halfOf_0 rfl (lv_at hl 0 rfl) ?_
  refine va_get (D := (dC, dI)) (ci := 2) (v := .ref (g 3)) (C := R_Le) (T := F_Le) (N := 5) hx hb hts u_Le hown hK hP 0 rfl rfl 0 (by decide) (hts _ kw_112) (fun _ h9 => h9) rfl d_Le_halfOf_1 ?_
  refine va_getN (D := (dC, dI)) (ci := 3) (v := .ref (g 4)) (C := R_Re) (T := F_Re) (N := 10) hx hb hts u_Re hown hK hP 3 rfl rfl 0 (by decide) (va_Nw.use rfl (hN.at 38 nw_38 rfl)) (fun _ h9 => h9) rfl d_Le_halfOf_4 ?_
  refine lv_iload_n hx hb d_Le_halfOf_7 rfl (lv_at hl 1 rfl) ?_
  refine x_iald (j := j) (v := (nI (X.pre j))) hx hb hK hP 4 0 rfl rfl hj (by decide) rfl rfl d_Le_halfOf_8 ?_
  refine lv_istore_n hx hb d_Le_halfOf_9 rfl hl (by decide) rfl (fun ls hl => ?_)
  replace hl : lv_has ls 4 [(3, .int (nI (X.pre j))), (0, .ref (g 0)), (1, .int (nI j)), (2, .int (bi u))] := hl
  refine lv_iload_n hx hb d_Le_halfOf_10 rfl (lv_at hl 3 rfl) ?_
  refine lv_if_eq hx hb d_Le_halfOf_11 rfl (fun h11 => ?_) (fun h11 => ?_)
  · have h11 := (bi_eq0).mp h11
    refine lv_iload_n hx hb d_Le_halfOf_32 rfl (lv_at hl 0 rfl) ?_
    exact W.iret (v := (nI (X.pre j))) hx hb hr (fun t ht hW => ⟨(nI (X.pre j)), rfl, (by unfold hafN; rw [h11]), ht⟩) (fun q h => nomatch h) d_Le_halfOf_33
  have h11 : u = true := by cases u with | false => exact absurd rfl h11 | true => rfl
  refine lv_iload_n hx hb d_Le_halfOf_14 rfl (lv_at hl 0 rfl) ?_
  refine lv_aload_n hx hb d_Le_halfOf_15 rfl (lv_at hl 1 rfl) ?_
  refine va_get (D := (dC, dI)) (ci := 2) (v := .ref (g 3)) (C := R_Le) (T := F_Le) (N := 5) hx hb hts u_Le hown hK hP 0 rfl rfl 0 (by decide) (hts _ kw_112) (fun _ h9 => h9) rfl d_Le_halfOf_16 ?_
  refine va_getN (D := (dC, dI)) (ci := 3) (v := .ref (g 5)) (C := R_Re) (T := F_Re) (N := 10) hx hb hts u_Re hown hK hP 3 rfl rfl 1 (by decide) (va_Nw.use rfl (hN.at 40 nw_40 rfl)) (fun _ h9 => h9) rfl d_Le_halfOf_19 ?_
  refine lv_iload_n hx hb d_Le_halfOf_22 rfl (lv_at hl 2 rfl) ?_
  refine x_iald (j := j) (v := (nI (X.len j))) hx hb hK hP 5 0 rfl rfl hj (by decide) rfl rfl d_Le_halfOf_23 ?_
  refine lv_iconst (v := 1) hx hb d_Le_halfOf_24 (by decide) ?_
  refine lv_iadd hx hb d_Le_halfOf_25 ?_
  refine x_topi (y := (nI (X.len j + 1))) (nI_1 _) ?_
  refine vp_callSi (va_Run.run (va_runSN (As := [.int (nI (X.pre j)), .int (nI (X.len j + 1))]) (rest := []) ⟨hx, hb, hml, hown, hts⟩ (c_PR_siblingOf l dC dI (X.pre j) (X.len j + 1) hl33) ⟨va_cnB 2 hts (gI kw_424) rfl rfl rfl (hN.at 422 nw_422 rfl) (hts _ kw_1) (by decide +kernel) ⟨Nat.le_of_ble_eq_true rfl, Nat.le_of_ble_eq_true rfl⟩, hts _ kw_423, trivial⟩ ⟨PcS.blind, PcS.use hP hK hN⟩ rfl rfl hl.1 rfl (lv_room (Nat.le_of_ble_eq_true rfl)) d_Le_halfOf_26 ⟨Nat.zero_le _, Nat.zero_le _⟩)) (fun r26 hr26 => ?_)
  obtain rfl : r26 = nI ((X.pre j) ^^^ 2 ^ (32 - (X.len j + 1))) := hr26
  refine lv_goto hx hb d_Le_halfOf_29 rfl ?_
  exact W.iret (v := nI ((X.pre j) ^^^ 2 ^ (32 - (X.len j + 1)))) hx hb hr (fun t ht hW => ⟨nI ((X.pre j) ^^^ 2 ^ (32 - (X.len j + 1))), rfl, (by unfold hafN; rw [h11]), ht⟩) (fun q h => nomatch h) d_Le_halfOf_33
set_option maxHeartbeats 4000000 in
set_option maxRecDepth 100000 in
theorem c_Le_mayComeBack (l : Launch) (dC : Nat → ClassId) (dI : Nat → Nat → Nat) (cI : ClassId) (g : Nat → Nat) (X : RS) (hX : RSok X) (pol : Nat → Nat) (td qd : Nat) (wk : WK) (j : Nat) (hj : j < 200) : Met l y_Le_mayComeBack (.code y_Le_mayComeBack b_Le_mayComeBack 3 (some .boolean) :: wG) ({ frames := 0, cells := 0, slots := 0, locals := 0 }) (PcS (dC, dI) [(cI, .int)] (wLe cI g X pol td qd wk) [.ref (g 0), .int (nI j)]) (vp_Si (fun r9 => r9 = bi (decide ((X.sta j = 1 ∨ X.sta j = 2) ∧ X.fc j = none)))) 0 0 (fun _ => False) := by
  refine Met.ofW (cc := b_Le_mayComeBack) (maxL := 3) (ret := (some .boolean)) (by decide) rfl ?_
  intro pg eg s mg ag bg meth cg s₁ B hml hv
  obtain ⟨rfl, hP, hK, hN⟩ := hv
  have hx := B.exec
  have hb := B.bytes
  have hr := B.returns
  have hlocks := B.notSynchronized
  have hts : ∀ w9 ∈ wG, w9.before ([.ref (g 0), .int (nI j)] : List Value).toArray s = true := fun w9 h9 => atoms_spec (ws := (.code y_Le_mayComeBack b_Le_mayComeBack 3 (some .boolean) :: wG)) B.pre w9 (List.mem_cons_of_mem _ h9)
  have hown : s.vm.findClass "PrefixRegistry$Ledger" = some mg.cls := findClass_of_methodNamed B.named
  have hP : va_P (dC, dI) classes (wLe cI g X pol td qd wk) s.heap := hP
  have hl := lv_entry ([.ref (g 0), .int (nI j)]) (n := 3) (Nat.le_of_ble_eq_true rfl)
  rw [lg_entry_eq]
  generalize (lg_sl ([.ref (g 0), .int (nI j)]) ++ List.replicate (3 - (lg_sl ([.ref (g 0), .int (nI j)])).length) Slot.unset).toArray = ls at hl ⊢
  replace hl : lv_has ls 3 [(0, .ref (g 0)), (1, .int (nI j))] := hl
  refine lv_aload_n hx hb d_Le_mayComeBack_0 rfl (lv_at hl 0 rfl) ?_
  refine va_get (D := (dC, dI)) (ci := 2) (v := .ref (g 3)) (C := R_Le) (T := F_Le) (N := 5) hx hb hts u_Le hown hK hP 0 rfl rfl 0 (by decide) (hts _ kw_112) (fun _ h9 => h9) rfl d_Le_mayComeBack_1 ?_
  refine va_getN (D := (dC, dI)) (ci := 3) (v := .ref (g 9)) (C := R_Re) (T := F_Re) (N := 10) hx hb hts u_Re hown hK hP 3 rfl rfl 5 (by decide) (va_Nw.use rfl (hN.at 49 nw_49 rfl)) (fun _ h9 => h9) rfl d_Le_mayComeBack_4 ?_
  refine lv_iload_n hx hb d_Le_mayComeBack_7 rfl (lv_at hl 1 rfl) ?_
  refine x_iald (j := j) (v := (nI (X.sta j))) hx hb hK hP 9 0 rfl rfl hj (by decide) rfl rfl d_Le_mayComeBack_8 ?_
  refine lv_istore_n hx hb d_Le_mayComeBack_9 rfl hl (by decide) rfl (fun ls hl => ?_)
  replace hl : lv_has ls 3 [(2, .int (nI (X.sta j))), (0, .ref (g 0)), (1, .int (nI j))] := hl
  refine lv_iload_n hx hb d_Le_mayComeBack_10 rfl (lv_at hl 0 rfl) ?_
  refine lv_iconst (v := 1) hx hb d_Le_mayComeBack_11 (by decide) ?_
  refine lv_icmp_eq hx hb d_Le_mayComeBack_12 rfl (fun h12 => ?_) (fun h12 => ?_)
  · have h12 := (k_eq (b := 1) (by have := hX.sta j; omega) (by decide)).mp h12
    refine lv_aload_n hx hb d_Le_mayComeBack_20 rfl (lv_at hl 1 rfl) ?_
    refine va_get (D := (dC, dI)) (ci := 2) (v := .ref (g 3)) (C := R_Le) (T := F_Le) (N := 5) hx hb hts u_Le hown hK hP 0 rfl rfl 0 (by decide) (hts _ kw_112) (fun _ h9 => h9) rfl d_Le_mayComeBack_21 ?_
    refine va_getN (D := (dC, dI)) (ci := 3) (v := .ref (g 11)) (C := R_Re) (T := F_Re) (N := 10) hx hb hts u_Re hown hK hP 3 rfl rfl 7 (by decide) (va_Nw.use rfl (hN.at 54 nw_54 rfl)) (fun _ h9 => h9) rfl d_Le_mayComeBack_24 ?_
    refine lv_iload_n hx hb d_Le_mayComeBack_27 rfl (lv_at hl 2 rfl) ?_
    refine x_iald (j := j) (v := (pI (X.fc j))) hx hb hK hP 11 0 rfl rfl hj (by decide) rfl rfl d_Le_mayComeBack_28 ?_
    refine lv_iconst (v := (-1)) hx hb d_Le_mayComeBack_29 (by decide) ?_
    refine lv_icmp_ne hx hb d_Le_mayComeBack_30 rfl (fun h30 => ?_) (fun h30 => ?_)
    · have h30 := mt (pI_m1 (fun k q => by have := hX.fc q; omega)).mpr h30
      refine lv_iconst (v := 0) hx hb d_Le_mayComeBack_37 (by decide) ?_
      exact W.zret (v := 0) hx hb hr (by decide) (fun t ht hW => ⟨0, rfl, (bF (by simp_all)), ht⟩) (fun q h => nomatch h) d_Le_mayComeBack_38
    have h30 := (pI_m1 (fun k q => by have := hX.fc q; omega)).mp h30
    refine lv_iconst (v := 1) hx hb d_Le_mayComeBack_33 (by decide) ?_
    refine lv_goto hx hb d_Le_mayComeBack_34 rfl ?_
    exact W.zret (v := 1) hx hb hr (by decide) (fun t ht hW => ⟨1, rfl, (bT (by simp_all)), ht⟩) (fun q h => nomatch h) d_Le_mayComeBack_38
  have h12 := mt (k_eq (b := 1) (by have := hX.sta j; omega) (by decide)).mpr h12
  refine lv_iload_n hx hb d_Le_mayComeBack_15 rfl (lv_at hl 0 rfl) ?_
  refine lv_iconst (v := 2) hx hb d_Le_mayComeBack_16 (by decide) ?_
  refine lv_icmp_ne hx hb d_Le_mayComeBack_17 rfl (fun h17 => ?_) (fun h17 => ?_)
  · have h17 := mt (k_eq (b := 2) (by have := hX.sta j; omega) (by decide)).mpr h17
    refine lv_iconst (v := 0) hx hb d_Le_mayComeBack_37 (by decide) ?_
    exact W.zret (v := 0) hx hb hr (by decide) (fun t ht hW => ⟨0, rfl, (bF (by simp_all)), ht⟩) (fun q h => nomatch h) d_Le_mayComeBack_38
  have h17 := (k_eq (b := 2) (by have := hX.sta j; omega) (by decide)).mp h17
  refine lv_aload_n hx hb d_Le_mayComeBack_20 rfl (lv_at hl 1 rfl) ?_
  refine va_get (D := (dC, dI)) (ci := 2) (v := .ref (g 3)) (C := R_Le) (T := F_Le) (N := 5) hx hb hts u_Le hown hK hP 0 rfl rfl 0 (by decide) (hts _ kw_112) (fun _ h9 => h9) rfl d_Le_mayComeBack_21 ?_
  refine va_getN (D := (dC, dI)) (ci := 3) (v := .ref (g 11)) (C := R_Re) (T := F_Re) (N := 10) hx hb hts u_Re hown hK hP 3 rfl rfl 7 (by decide) (va_Nw.use rfl (hN.at 54 nw_54 rfl)) (fun _ h9 => h9) rfl d_Le_mayComeBack_24 ?_
  refine lv_iload_n hx hb d_Le_mayComeBack_27 rfl (lv_at hl 2 rfl) ?_
  refine x_iald (j := j) (v := (pI (X.fc j))) hx hb hK hP 11 0 rfl rfl hj (by decide) rfl rfl d_Le_mayComeBack_28 ?_
  refine lv_iconst (v := (-1)) hx hb d_Le_mayComeBack_29 (by decide) ?_
  refine lv_icmp_ne hx hb d_Le_mayComeBack_30 rfl (fun h30 => ?_) (fun h30 => ?_)
  · have h30 := mt (pI_m1 (fun k q => by have := hX.fc q; omega)).mpr h30
    refine lv_iconst (v := 0) hx hb d_Le_mayComeBack_37 (by decide) ?_
    exact W.zret (v := 0) hx hb hr (by decide) (fun t ht hW => ⟨0, rfl, (bF (by simp_all)), ht⟩) (fun q h => nomatch h) d_Le_mayComeBack_38
  have h30 := (pI_m1 (fun k q => by have := hX.fc q; omega)).mp h30
  refine lv_iconst (v := 1) hx hb d_Le_mayComeBack_33 (by decide) ?_
  refine lv_goto hx hb d_Le_mayComeBack_34 rfl ?_
  exact W.zret (v := 1) hx hb hr (by decide) (fun t ht hW => ⟨1, rfl, (bT (by simp_all)), ht⟩) (fun q h => nomatch h) d_Le_mayComeBack_38
set_option maxHeartbeats 4000000 in
set_option maxRecDepth 100000 in
theorem c_Le_topBlockMeets (l : Launch) (dC : Nat → ClassId) (dI : Nat → Nat → Nat) (cI : ClassId) (g : Nat → Nat) (X : RS) (hX : RSok X) (pol : Nat → Nat) (td qd : Nat) (wk : WK) (a n : Nat) (ha : a < 4294967296) (hn : n < 33) : Met l y_Le_topBlockMeets (.code y_Le_topBlockMeets b_Le_topBlockMeets 4 (some .boolean) :: wG) ({ frames := 3, cells := 0, slots := 0, locals := 66 }) (PcS (dC, dI) [(cI, .int)] (wLe cI g X pol td qd wk) [.ref (g 0), .int (nI a), .int (nI n)]) (vp_Si (fun r9 => r9 = bi (fst (tbP X a n) 0 X.n).isSome)) 0 0 (fun _ => False) := by
  refine Met.ofW (cc := b_Le_topBlockMeets) (maxL := 4) (ret := (some .boolean)) (by decide) rfl ?_
  intro pg eg s mg ag bg meth cg s₁ B hml hv
  obtain ⟨rfl, hP, hK, hN⟩ := hv
  have hx := B.exec
  have hb := B.bytes
  have hr := B.returns
  have hlocks := B.notSynchronized
  have hts : ∀ w9 ∈ wG, w9.before ([.ref (g 0), .int (nI a), .int (nI n)] : List Value).toArray s = true := fun w9 h9 => atoms_spec (ws := (.code y_Le_topBlockMeets b_Le_topBlockMeets 4 (some .boolean) :: wG)) B.pre w9 (List.mem_cons_of_mem _ h9)
  have hown : s.vm.findClass "PrefixRegistry$Ledger" = some mg.cls := findClass_of_methodNamed B.named
  have hP : va_P (dC, dI) classes (wLe cI g X pol td qd wk) s.heap := hP
  have hl := lv_entry ([.ref (g 0), .int (nI a), .int (nI n)]) (n := 4) (Nat.le_of_ble_eq_true rfl)
  rw [lg_entry_eq]
  generalize (lg_sl ([.ref (g 0), .int (nI a), .int (nI n)]) ++ List.replicate (4 - (lg_sl ([.ref (g 0), .int (nI a), .int (nI n)])).length) Slot.unset).toArray = ls at hl ⊢
  replace hl : lv_has ls 4 [(0, .ref (g 0)), (1, .int (nI a)), (2, .int (nI n))] := hl
  refine lv_iconst (v := 0) hx hb d_Le_topBlockMeets_0 (by decide) ?_
  refine lv_istore_n hx hb d_Le_topBlockMeets_1 rfl hl (by decide) rfl (fun ls hl => ?_)
  replace hl : lv_has ls 4 [(3, .int 0), (0, .ref (g 0)), (1, .int (nI a)), (2, .int (nI n))] := hl
  obtain ⟨i, hi0⟩ : ∃ i : Nat, i = 0 := ⟨_, rfl⟩
  obtain ⟨k, hk0⟩ : ∃ k : Nat, k = X.n - 0 := ⟨_, rfl⟩
  have hres : fst (tbP X a n) i k = fst (tbP X a n) 0 X.n := by rw [hi0, hk0]; rfl
  replace hl : lv_has ls 4 [(3, .int (nI i)), (0, .ref (g 0)), (1, .int (nI a)), (2, .int (nI n))] := by subst hi0; exact hl
  have hik : i + k = X.n := by omega
  clear hi0 hk0 
  replace hres := hres
  replace hl : lv_has ls 4 [(3, .int (nI i)), (0, .ref (g 0)), (1, .int (nI a)), (2, .int (nI n))] := hl
  induction k generalizing i ls  with
  | zero =>
    refine lv_iload_n hx hb d_Le_topBlockMeets_2 rfl (lv_at hl 0 rfl) ?_
    refine lv_aload_n hx hb d_Le_topBlockMeets_3 rfl (lv_at hl 1 rfl) ?_
    refine va_get (D := (dC, dI)) (ci := 2) (v := .ref (g 3)) (C := R_Le) (T := F_Le) (N := 5) hx hb hts u_Le hown hK hP 0 rfl rfl 0 (by decide) (hts _ kw_112) (fun _ h9 => h9) rfl d_Le_topBlockMeets_4 ?_
    refine va_getN (D := (dC, dI)) (ci := 3) (v := .int (nI X.n)) (C := R_Re) (T := F_Re) (N := 10) hx hb hts u_Re hown hK hP 3 rfl rfl 9 (by decide) (va_Nw.use rfl (hN.at 59 nw_59 rfl)) (fun _ h9 => h9) rfl d_Le_topBlockMeets_7 ?_
    refine lv_icmp_ge hx hb d_Le_topBlockMeets_10 rfl (fun _ => ?_) (fun h9 => absurd (nI_le (by omega) (by have := hX.n; omega)) h9)
    refine lv_iconst (v := 0) hx hb d_Le_topBlockMeets_56 (by decide) ?_
    exact W.zret (v := 0) hx hb hr (by decide) (fun t ht hW => ⟨0, rfl, (by rw [← hres]; rfl), ht⟩) (fun q h => nomatch h) d_Le_topBlockMeets_57
  | succ k ih =>
    refine lv_iload_n hx hb d_Le_topBlockMeets_2 rfl (lv_at hl 0 rfl) ?_
    refine lv_aload_n hx hb d_Le_topBlockMeets_3 rfl (lv_at hl 1 rfl) ?_
    refine va_get (D := (dC, dI)) (ci := 2) (v := .ref (g 3)) (C := R_Le) (T := F_Le) (N := 5) hx hb hts u_Le hown hK hP 0 rfl rfl 0 (by decide) (hts _ kw_112) (fun _ h9 => h9) rfl d_Le_topBlockMeets_4 ?_
    refine va_getN (D := (dC, dI)) (ci := 3) (v := .int (nI X.n)) (C := R_Re) (T := F_Re) (N := 10) hx hb hts u_Re hown hK hP 3 rfl rfl 9 (by decide) (va_Nw.use rfl (hN.at 59 nw_59 rfl)) (fun _ h9 => h9) rfl d_Le_topBlockMeets_7 ?_
    refine lv_icmp_ge hx hb d_Le_topBlockMeets_10 rfl (fun h9 => absurd h9 (nI_ge (by omega) (by have := hX.n; omega))) (fun _ => ?_)
    refine lv_aload_n hx hb d_Le_topBlockMeets_13 rfl (lv_at hl 1 rfl) ?_
    refine va_get (D := (dC, dI)) (ci := 2) (v := .ref (g 3)) (C := R_Le) (T := F_Le) (N := 5) hx hb hts u_Le hown hK hP 0 rfl rfl 0 (by decide) (hts _ kw_112) (fun _ h9 => h9) rfl d_Le_topBlockMeets_14 ?_
    refine lv_iload_n hx hb d_Le_topBlockMeets_17 rfl (lv_at hl 0 rfl) ?_
    refine vp_callSi (W.runV (b := (g 3)) (As := [.int (nI i)]) (rest := []) ⟨hx, hb, hml, hown, hts⟩ (c_Re_isTop l dC dI cI (g 3) (fun k => g (4 + k)) X hX i (by have := hX.n; omega)) (cwV 1 hts (gV kw_289 kw_290 kw_291 kw_3 kw_292) rfl rfl rfl (by decide +kernel) ⟨Nat.le_of_ble_eq_true rfl, Nat.le_of_ble_eq_true rfl⟩) ⟨PcS.blind, va_recv (q0 := 0) hK (hP.sub (ws' := wRe cI (g 3) (fun k => g (4 + k)) X) [3, 4, 5, 6, 7, 8, 9, 10, 11, 12] rfl) rfl rfl, PcS.use (hP.sub (ws' := wRe cI (g 3) (fun k => g (4 + k)) X) [3, 4, 5, 6, 7, 8, 9, 10, 11, 12] rfl) hK hN⟩ rfl rfl hl.1 rfl (lv_room (Nat.le_of_ble_eq_true rfl)) d_Le_topBlockMeets_18 ⟨Nat.zero_le _, Nat.zero_le _⟩) (fun r18 hr18 => ?_)
    obtain rfl : r18 = bi (decide (X.par i = none)) := hr18
    refine lv_if_eq hx hb d_Le_topBlockMeets_21 rfl (fun h21 => ?_) (fun h21 => ?_)
    · have h21 := (bi_d).mp h21
      refine lv_iinc hx hb d_Le_topBlockMeets_50 hl (k := 0) (v := (nI (i + 1))) rfl (nI_1 i) (by decide) rfl (fun ls hl => ?_)
      replace hl : lv_has ls 4 [(3, .int (nI (i + 1))), (0, .ref (g 0)), (1, .int (nI a)), (2, .int (nI n))] := hl
      refine lv_goto hx hb d_Le_topBlockMeets_53 rfl ?_
      refine ih _ _ ?_ ?_ hl
      · omega
      · exact (by rw [← hres]; simp only [fst]; rw [if_neg (by unfold tbP; simp_all)])
    have h21 := Decidable.not_not.mp (mt bi_d.mpr h21)
    refine lv_aload_n hx hb d_Le_topBlockMeets_24 rfl (lv_at hl 1 rfl) ?_
    refine va_get (D := (dC, dI)) (ci := 2) (v := .ref (g 3)) (C := R_Le) (T := F_Le) (N := 5) hx hb hts u_Le hown hK hP 0 rfl rfl 0 (by decide) (hts _ kw_112) (fun _ h9 => h9) rfl d_Le_topBlockMeets_25 ?_
    refine lv_iload_n hx hb d_Le_topBlockMeets_28 rfl (lv_at hl 0 rfl) ?_
    refine vp_callSi (W.runV (b := (g 3)) (As := [.int (nI i)]) (rest := []) ⟨hx, hb, hml, hown, hts⟩ (c_Re_isLive l dC dI cI (g 3) (fun k => g (4 + k)) X hX i (by have := hX.n; omega)) (cwV 1 hts (gV kw_293 kw_294 kw_295 kw_3 kw_296) rfl rfl rfl (by decide +kernel) ⟨Nat.le_of_ble_eq_true rfl, Nat.le_of_ble_eq_true rfl⟩) ⟨PcS.blind, va_recv (q0 := 0) hK (hP.sub (ws' := wRe cI (g 3) (fun k => g (4 + k)) X) [3, 4, 5, 6, 7, 8, 9, 10, 11, 12] rfl) rfl rfl, PcS.use (hP.sub (ws' := wRe cI (g 3) (fun k => g (4 + k)) X) [3, 4, 5, 6, 7, 8, 9, 10, 11, 12] rfl) hK hN⟩ rfl rfl hl.1 rfl (lv_room (Nat.le_of_ble_eq_true rfl)) d_Le_topBlockMeets_29 ⟨Nat.zero_le _, Nat.zero_le _⟩) (fun r29 hr29 => ?_)
    obtain rfl : r29 = bi (decide (X.sta i ≠ 4)) := hr29
    refine lv_if_eq hx hb d_Le_topBlockMeets_32 rfl (fun h32 => ?_) (fun h32 => ?_)
    · have h32 := (bi_d).mp h32
      refine lv_iinc hx hb d_Le_topBlockMeets_50 hl (k := 0) (v := (nI (i + 1))) rfl (nI_1 i) (by decide) rfl (fun ls hl => ?_)
      replace hl : lv_has ls 4 [(3, .int (nI (i + 1))), (0, .ref (g 0)), (1, .int (nI a)), (2, .int (nI n))] := hl
      refine lv_goto hx hb d_Le_topBlockMeets_53 rfl ?_
      refine ih _ _ ?_ ?_ hl
      · omega
      · exact (by rw [← hres]; simp only [fst]; rw [if_neg (by unfold tbP; simp_all)])
    have h32 := Decidable.not_not.mp (mt bi_d.mpr h32)
    refine lv_aload_n hx hb d_Le_topBlockMeets_35 rfl (lv_at hl 1 rfl) ?_
    refine va_get (D := (dC, dI)) (ci := 2) (v := .ref (g 3)) (C := R_Le) (T := F_Le) (N := 5) hx hb hts u_Le hown hK hP 0 rfl rfl 0 (by decide) (hts _ kw_112) (fun _ h9 => h9) rfl d_Le_topBlockMeets_36 ?_
    refine lv_iload_n hx hb d_Le_topBlockMeets_39 rfl (lv_at hl 0 rfl) ?_
    refine lv_iload_n hx hb d_Le_topBlockMeets_40 rfl (lv_at hl 2 rfl) ?_
    refine lv_iload_n hx hb d_Le_topBlockMeets_41 rfl (lv_at hl 3 rfl) ?_
    refine vp_callSi (W.runV (b := (g 3)) (As := [.int (nI i), .int (nI a), .int (nI n)]) (rest := []) ⟨hx, hb, hml, hown, hts⟩ (c_Re_meets l dC dI cI (g 3) (fun k => g (4 + k)) X hX i (by have := hX.n; omega) a n ha hn) (cwV 3 hts (gV kw_297 kw_165 kw_166 kw_3 kw_167) rfl rfl rfl (by decide +kernel) ⟨Nat.le_of_ble_eq_true rfl, Nat.le_of_ble_eq_true rfl⟩) ⟨PcS.blind, va_recv (q0 := 0) hK (hP.sub (ws' := wRe cI (g 3) (fun k => g (4 + k)) X) [3, 4, 5, 6, 7, 8, 9, 10, 11, 12] rfl) rfl rfl, PcS.use (hP.sub (ws' := wRe cI (g 3) (fun k => g (4 + k)) X) [3, 4, 5, 6, 7, 8, 9, 10, 11, 12] rfl) hK hN⟩ rfl rfl hl.1 rfl (lv_room (Nat.le_of_ble_eq_true rfl)) d_Le_topBlockMeets_42 ⟨Nat.zero_le _, Nat.zero_le _⟩) (fun r42 hr42 => ?_)
    obtain rfl : r42 = bi (decide (mt2 (X.pre i) (X.len i) a n)) := hr42
    refine lv_if_eq hx hb d_Le_topBlockMeets_45 rfl (fun h45 => ?_) (fun h45 => ?_)
    · have h45 := (bi_d).mp h45
      refine lv_iinc hx hb d_Le_topBlockMeets_50 hl (k := 0) (v := (nI (i + 1))) rfl (nI_1 i) (by decide) rfl (fun ls hl => ?_)
      replace hl : lv_has ls 4 [(3, .int (nI (i + 1))), (0, .ref (g 0)), (1, .int (nI a)), (2, .int (nI n))] := hl
      refine lv_goto hx hb d_Le_topBlockMeets_53 rfl ?_
      refine ih _ _ ?_ ?_ hl
      · omega
      · exact (by rw [← hres]; simp only [fst]; rw [if_neg (by unfold tbP; simp_all)])
    have h45 := Decidable.not_not.mp (mt bi_d.mpr h45)
    refine lv_iconst (v := 1) hx hb d_Le_topBlockMeets_48 (by decide) ?_
    exact W.zret (v := 1) hx hb hr (by decide) (fun t ht hW => ⟨1, rfl, (by rw [← hres]; simp only [fst]; rw [if_pos (by unfold tbP; simp_all)]; rfl), ht⟩) (fun q h => nomatch h) d_Le_topBlockMeets_49
