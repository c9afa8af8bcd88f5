theorem bi_n0 {b : Bool} (h : ¬ bi b = 0) : b = true := by cases b with | false => exact absurd rfl h | true => rfl
theorem xor_lt {a k : Nat} (ha : a < 4294967296) (hk : 1 ≤ k) : a ^^^ 2 ^ (32 - k) < 4294967296 := Nat.xor_lt_two_pow (n := 32) ha (Nat.pow_lt_pow_right (by decide) (by omega))
def rsvN (X : RS) (C : Nat → List Nat) (x a n : Nat) : Int32 := if x < X.n ∧ X.sta x = 1 then (if (X.len x < n ∧ n ≤ 32) ∧ a % 2 ^ (32 - n) = 0 ∧ mt2 (X.pre x) (X.len x) a n then (if omN X x = 0 then (if ∀ c9 ∈ C x, ¬ mt2 (X.pre c9) (X.len c9) a n then 0 else -1) else omN X x) else -2) else -5
def lkB (X Y : RS) (pol pol2 : Nat → Nat) (td td2 qd qd2 : Nat) : Bool := (List.range 4).all (fun q => decide (pol q = pol2 q)) && (decide (td = td2) && (decide (qd = qd2) && alB X Y))
theorem lkB_iff {X Y : RS} {pol pol2 : Nat → Nat} {td td2 qd qd2 : Nat} : lkB X Y pol pol2 td td2 qd qd2 = true ↔ ((∀ q, q < 4 → pol q = pol2 q) ∧ td = td2 ∧ qd = qd2 ∧ alB X Y = true) := by
  unfold lkB
  simp only [Bool.and_eq_true, decide_eq_true_eq, List.all_eq_true, List.mem_range]
theorem lkT {X Y : RS} {pol pol2 : Nat → Nat} {td td2 qd qd2 : Nat} (h : (∀ q, q < 4 → pol q = pol2 q) ∧ td = td2 ∧ qd = qd2 ∧ alB X Y = true) : (1 : Int32) = bi (lkB X Y pol pol2 td td2 qd qd2) := by rw [lkB_iff.mpr h]; rfl
theorem lkF {X Y : RS} {pol pol2 : Nat → Nat} {td td2 qd qd2 : Nat} (h : ¬ ((∀ q, q < 4 → pol q = pol2 q) ∧ td = td2 ∧ qd = qd2 ∧ alB X Y = true)) : (0 : Int32) = bi (lkB X Y pol pol2 td td2 qd qd2) := by
  cases q : lkB X Y pol pol2 td td2 qd qd2 with
  | false => rfl
  | true => exact absurd (lkB_iff.mp q) h
def groN (X : RS) (C : Nat → List Nat) (x : Nat) : Int32 := if (x < X.n ∧ X.sta x = 1) ∧ X.par x ≠ none then (if X.len ((X.par x).getD 0) < X.len x then (if ∀ c9 ∈ C ((X.par x).getD 0), ¬ mt2 (X.pre c9) (X.len c9) (X.pre x ^^^ 2 ^ (32 - X.len x)) (X.len x) then 0 else -1) else -2) else -5
def shrN (X : RS) (C : Nat → List Nat) (x : Nat) (u : Bool) : Int32 := if (x < X.n ∧ X.sta x = 1) ∧ X.par x ≠ none then (if X.len x < 32 then (if ∀ c9 ∈ C x, ¬ mt2 (X.pre c9) (X.len c9) (hafN X x (!u)) (X.len x + 1) then 0 else -1) else -2) else -5
theorem hafN_lt {X : RS} (hX : RSok X) (j : Nat) (h : X.len j < 32) (u : Bool) : hafN X j u < 4294967296 := by
  cases u with
  | true => exact xor_lt (hX.pre j) (by omega)
  | false => exact hX.pre j
theorem used_lt (X : RS) : ∀ L : List Nat, L.length ≤ 200 → usedL X L * 1000 < 2 ^ 63 := by
  have h : ∀ L : List Nat, usedL X L ≤ 4294967296 * L.length := by
    intro L
    induction L with
    | nil => exact Nat.le_refl _
    | cons j t ih =>
      have := @k_pow (X.len j)
      simp only [usedL, List.length_cons]
      omega
  intro L hL
  have := h L
  omega
set_option maxHeartbeats 4000000 in
set_option maxRecDepth 100000 in
theorem c_Le_codeForReserving (l : Launch) (dC : Nat → ClassId) (dI : Nat → Nat → Nat) (cI : ClassId) (g : Nat → Nat) (X : RS) (hX : RSok X) (pol : Nat → Nat) (td qd : Nat) (wk : WK) (C : Nat → List Nat) (hCh : ∀ r, r < X.n → chn X.nx (X.fc r) (C r) ∧ (C r).length ≤ 200) (x a n : Nat) (hx0 : x < 4294967296) (ha : a < 4294967296) (hn0 : n < 4294967296) : Met l y_Le_codeForReserving (.code y_Le_codeForReserving b_Le_codeForReserving 5 (some .int) :: wG) ({ frames := 4, cells := 0, slots := 0, locals := 91 }) (PcS (dC, dI) [(cI, .int)] (wLe cI g X pol td qd wk) [.ref (g 0), .int (nI x), .int (nI a), .int (nI n)]) (vp_Si (fun r9 => r9 = rsvN X C x a n)) 0 0 (fun _ => False) := by
  refine Met.ofW (cc := b_Le_codeForReserving) (maxL := 5) (ret := (some .int)) (by decide) rfl ?_
  intro pg eg s mg ag bg meth cg s₁ B hml hv
  obtain ⟨rfl, hP, hK, hN⟩ := hv
  have hx := B.exec
  have hb := B.bytes
  have hr := B.returns
  have hlocks := B.notSynchronized
  have hts : ∀ w9 ∈ wG, w9.before ([.ref (g 0), .int (nI x), .int (nI a), .int (nI n)] : List Value).toArray s = true := fun w9 h9 => atoms_spec (ws := (.code y_Le_codeForReserving b_Le_codeForReserving 5 (some .int) :: wG)) B.pre w9 (List.mem_cons_of_mem _ h9)
  have hown : s.vm.findClass "PrefixRegistry$Ledger" = some mg.cls := findClass_of_methodNamed B.named
  have hP : va_P (dC, dI) classes (wLe cI g X pol td qd wk) s.heap := hP
  have hl := lv_entry ([.ref (g 0), .int (nI x), .int (nI a), .int (nI n)]) (n := 5) (Nat.le_of_ble_eq_true rfl)
  rw [lg_entry_eq]
  generalize (lg_sl ([.ref (g 0), .int (nI x), .int (nI a), .int (nI n)]) ++ List.replicate (5 - (lg_sl ([.ref (g 0), .int (nI x), .int (nI a), .int (nI n)])).length) Slot.unset).toArray = ls at hl ⊢
  replace hl : lv_has ls 5 [(0, .ref (g 0)), (1, .int (nI x)), (2, .int (nI a)), (3, .int (nI n))] := hl
  refine lv_aload_n hx hb d_Le_codeForReserving_0 rfl (lv_at hl 0 rfl) ?_
  refine va_get (D := (dC, dI)) (ci := 2) (v := .ref (g 3)) (C := R_Le) (T := F_Le) (N := 5) hx hb hts u_Le hown hK hP 0 rfl rfl 0 (by decide) (hts _ kw_112) (fun _ h9 => h9) rfl d_Le_codeForReserving_1 ?_
  refine lv_iload_n hx hb d_Le_codeForReserving_4 rfl (lv_at hl 1 rfl) ?_
  refine vp_callSi (W.runV (b := (g 3)) (As := [.int (nI x)]) (rest := []) ⟨hx, hb, hml, hown, hts⟩ (c_Re_isGiven l dC dI cI (g 3) (fun k => g (4 + k)) X hX x hx0) (cwV 1 hts (gV kw_464 kw_465 kw_466 kw_3 kw_467) rfl rfl rfl (by decide +kernel) ⟨Nat.le_of_ble_eq_true rfl, Nat.le_of_ble_eq_true rfl⟩) ⟨PcS.blind, va_recv (q0 := 0) hK (hP.sub (ws' := wRe cI (g 3) (fun k => g (4 + k)) X) [3, 4, 5, 6, 7, 8, 9, 10, 11, 12] rfl) rfl rfl, PcS.use (hP.sub (ws' := wRe cI (g 3) (fun k => g (4 + k)) X) [3, 4, 5, 6, 7, 8, 9, 10, 11, 12] rfl) hK hN⟩ rfl rfl hl.1 rfl (lv_room (Nat.le_of_ble_eq_true rfl)) d_Le_codeForReserving_5 ⟨Nat.zero_le _, Nat.zero_le _⟩) (fun r5 hr5 => ?_)
  obtain rfl : r5 = bi (decide (x < X.n ∧ X.sta x = 1)) := hr5
  refine lv_if_ne hx hb d_Le_codeForReserving_8 rfl (fun h8 => ?_) (fun h8 => ?_)
  · have h8 := Decidable.not_not.mp (mt bi_d.mpr h8)
    refine lv_aload_n hx hb d_Le_codeForReserving_14 rfl (lv_at hl 0 rfl) ?_
    refine lv_iload_n hx hb d_Le_codeForReserving_15 rfl (lv_at hl 1 rfl) ?_
    refine lv_iload_n hx hb d_Le_codeForReserving_16 rfl (lv_at hl 3 rfl) ?_
    refine vp_callSi (W.runV (b := (g 0)) (As := [.int (nI x), .int (nI n)]) (rest := []) ⟨hx, hb, hml, hown, hts⟩ (c_Le_isLengthBelow l dC dI cI g X hX pol td qd wk x (by have := hX.n; omega) n hn0) (cwV 2 hts (gV kw_472 kw_474 ks_16 kw_2 kw_475) rfl rfl rfl (by decide +kernel) ⟨Nat.le_of_ble_eq_true rfl, Nat.le_of_ble_eq_true rfl⟩) ⟨PcS.blind, va_recv (q0 := 0) hK hP rfl rfl, PcS.use hP hK hN⟩ rfl rfl hl.1 rfl (lv_room (Nat.le_of_ble_eq_true rfl)) d_Le_codeForReserving_17 ⟨Nat.zero_le _, Nat.zero_le _⟩) (fun r17 hr17 => ?_)
    obtain rfl : r17 = bi (decide (X.len x < n ∧ n ≤ 32)) := hr17
    refine lv_if_eq hx hb d_Le_codeForReserving_20 rfl (fun h20 => ?_) (fun h20 => ?_)
    · have h20 := bi_d.mp h20
      refine lv_bipush (v := (-2)) hx hb d_Le_codeForReserving_44 (by decide) ?_
      exact W.iret (v := (-2)) hx hb hr (fun t ht hW => ⟨(-2), rfl, (by unfold rsvN; rw [if_pos h8, if_neg (fun q => h20 q.1)]), ht⟩) (fun q h => nomatch h) d_Le_codeForReserving_46
    have h20 := Decidable.not_not.mp (mt bi_d.mpr h20)
    refine lv_iload_n hx hb d_Le_codeForReserving_23 rfl (lv_at hl 2 rfl) ?_
    refine lv_iload_n hx hb d_Le_codeForReserving_24 rfl (lv_at hl 3 rfl) ?_
    refine vp_callSi (va_Run.run (va_runSN (As := [.int (nI a), .int (nI n)]) (rest := []) ⟨hx, hb, hml, hown, hts⟩ (c_PR_isAligned l dC dI a n ha (by omega)) ⟨va_cnB 2 hts (gI kw_215) rfl rfl rfl (hN.at 505 nw_505 rfl) (hts _ kw_1) (by decide +kernel) ⟨Nat.le_of_ble_eq_true rfl, Nat.le_of_ble_eq_true rfl⟩, hts _ kw_214, trivial⟩ ⟨PcS.blind, PcS.use hP hK hN⟩ rfl rfl hl.1 rfl (lv_room (Nat.le_of_ble_eq_true rfl)) d_Le_codeForReserving_25 ⟨Nat.zero_le _, Nat.zero_le _⟩)) (fun r25 hr25 => ?_)
    obtain rfl : r25 = bi (decide (a % 2 ^ (32 - n) = 0)) := hr25
    refine lv_if_eq hx hb d_Le_codeForReserving_28 rfl (fun h28 => ?_) (fun h28 => ?_)
    · have h28 := bi_d.mp h28
      refine lv_bipush (v := (-2)) hx hb d_Le_codeForReserving_44 (by decide) ?_
      exact W.iret (v := (-2)) hx hb hr (fun t ht hW => ⟨(-2), rfl, (by unfold rsvN; rw [if_pos h8, if_neg (fun q => h28 q.2.1)]), ht⟩) (fun q h => nomatch h) d_Le_codeForReserving_46
    have h28 := Decidable.not_not.mp (mt bi_d.mpr h28)
    refine lv_aload_n hx hb d_Le_codeForReserving_31 rfl (lv_at hl 0 rfl) ?_
    refine va_get (D := (dC, dI)) (ci := 2) (v := .ref (g 3)) (C := R_Le) (T := F_Le) (N := 5) hx hb hts u_Le hown hK hP 0 rfl rfl 0 (by decide) (hts _ kw_112) (fun _ h9 => h9) rfl d_Le_codeForReserving_32 ?_
    refine lv_iload_n hx hb d_Le_codeForReserving_35 rfl (lv_at hl 1 rfl) ?_
    refine lv_iload_n hx hb d_Le_codeForReserving_36 rfl (lv_at hl 2 rfl) ?_
    refine lv_iload_n hx hb d_Le_codeForReserving_37 rfl (lv_at hl 3 rfl) ?_
    refine vp_callSi (W.runV (b := (g 3)) (As := [.int (nI x), .int (nI a), .int (nI n)]) (rest := []) ⟨hx, hb, hml, hown, hts⟩ (c_Re_meets l dC dI cI (g 3) (fun k => g (4 + k)) X hX x (by have := hX.n; omega) a n ha (by omega)) (cwV 3 hts (gV kw_297 kw_165 kw_166 kw_3 kw_167) rfl rfl rfl (by decide +kernel) ⟨Nat.le_of_ble_eq_true rfl, Nat.le_of_ble_eq_true rfl⟩) ⟨PcS.blind, va_recv (q0 := 0) hK (hP.sub (ws' := wRe cI (g 3) (fun k => g (4 + k)) X) [3, 4, 5, 6, 7, 8, 9, 10, 11, 12] rfl) rfl rfl, PcS.use (hP.sub (ws' := wRe cI (g 3) (fun k => g (4 + k)) X) [3, 4, 5, 6, 7, 8, 9, 10, 11, 12] rfl) hK hN⟩ rfl rfl hl.1 rfl (lv_room (Nat.le_of_ble_eq_true rfl)) d_Le_codeForReserving_38 ⟨Nat.zero_le _, Nat.zero_le _⟩) (fun r38 hr38 => ?_)
    obtain rfl : r38 = bi (decide (mt2 (X.pre x) (X.len x) a n)) := hr38
    refine lv_if_ne hx hb d_Le_codeForReserving_41 rfl (fun h41 => ?_) (fun h41 => ?_)
    · have h41 := Decidable.not_not.mp (mt bi_d.mpr h41)
      refine lv_aload_n hx hb d_Le_codeForReserving_47 rfl (lv_at hl 0 rfl) ?_
      refine lv_iload_n hx hb d_Le_codeForReserving_48 rfl (lv_at hl 1 rfl) ?_
      refine vp_callSi (W.runV (b := (g 0)) (As := [.int (nI x)]) (rest := []) ⟨hx, hb, hml, hown, hts⟩ (c_Le_codeForOneMore l dC dI cI g X hX pol td qd wk x (by have := hX.n; omega)) (cwV 1 hts (gV kw_476 kw_478 ks_17 kw_2 kw_479) rfl rfl rfl (by decide +kernel) ⟨Nat.le_of_ble_eq_true rfl, Nat.le_of_ble_eq_true rfl⟩) ⟨PcS.blind, va_recv (q0 := 0) hK hP rfl rfl, PcS.use hP hK hN⟩ rfl rfl hl.1 rfl (lv_room (Nat.le_of_ble_eq_true rfl)) d_Le_codeForReserving_49 ⟨Nat.zero_le _, Nat.zero_le _⟩) (fun r49 hr49 => ?_)
      obtain rfl : r49 = (omN X x) := hr49
      refine lv_istore hx hb d_Le_codeForReserving_52 hl (by decide) rfl (fun ls hl => ?_)
      replace hl : lv_has ls 5 [(4, .int (omN X x)), (0, .ref (g 0)), (1, .int (nI x)), (2, .int (nI a)), (3, .int (nI n))] := hl
      refine lv_iload hx hb d_Le_codeForReserving_54 (lv_at hl 0 rfl) ?_
      refine lv_if_eq hx hb d_Le_codeForReserving_56 rfl (fun h56 => ?_) (fun h56 => ?_)
      · have h56 := (Iff.rfl).mp h56
        refine lv_aload_n hx hb d_Le_codeForReserving_62 rfl (lv_at hl 1 rfl) ?_
        refine va_get (D := (dC, dI)) (ci := 2) (v := .ref (g 3)) (C := R_Le) (T := F_Le) (N := 5) hx hb hts u_Le hown hK hP 0 rfl rfl 0 (by decide) (hts _ kw_112) (fun _ h9 => h9) rfl d_Le_codeForReserving_63 ?_
        refine lv_iload_n hx hb d_Le_codeForReserving_66 rfl (lv_at hl 2 rfl) ?_
        refine lv_iload_n hx hb d_Le_codeForReserving_67 rfl (lv_at hl 3 rfl) ?_
        refine lv_iload_n hx hb d_Le_codeForReserving_68 rfl (lv_at hl 4 rfl) ?_
        refine vp_callSi (W.runV (b := (g 3)) (As := [.int (nI x), .int (nI a), .int (nI n)]) (rest := []) ⟨hx, hb, hml, hown, hts⟩ (c_Re_isFree l dC dI cI (g 3) (fun k => g (4 + k)) X hX x (by have := hX.n; omega) (C x) (hCh x h8.1).1 (hCh x h8.1).2 a n ha (by omega)) (cwV 3 hts (gV kw_506 kw_507 kw_508 kw_3 kw_509) rfl rfl rfl (by decide +kernel) ⟨Nat.le_of_ble_eq_true rfl, Nat.le_of_ble_eq_true rfl⟩) ⟨PcS.blind, va_recv (q0 := 0) hK (hP.sub (ws' := wRe cI (g 3) (fun k => g (4 + k)) X) [3, 4, 5, 6, 7, 8, 9, 10, 11, 12] rfl) rfl rfl, PcS.use (hP.sub (ws' := wRe cI (g 3) (fun k => g (4 + k)) X) [3, 4, 5, 6, 7, 8, 9, 10, 11, 12] rfl) hK hN⟩ rfl rfl hl.1 rfl (lv_room (Nat.le_of_ble_eq_true rfl)) d_Le_codeForReserving_69 ⟨Nat.zero_le _, Nat.zero_le _⟩) (fun r69 hr69 => ?_)
        obtain rfl : r69 = bi (decide (∀ c9 ∈ C x, ¬ mt2 (X.pre c9) (X.len c9) a n)) := hr69
        refine lv_if_eq hx hb d_Le_codeForReserving_72 rfl (fun h72 => ?_) (fun h72 => ?_)
        · have h72 := bi_d.mp h72
          refine lv_iconst (v := (-1)) hx hb d_Le_codeForReserving_79 (by decide) ?_
          exact W.iret (v := (-1)) hx hb hr (fun t ht hW => ⟨(-1), rfl, (by unfold rsvN; rw [if_pos h8, if_pos ⟨h20, h28, h41⟩, if_pos h56, if_neg h72]), ht⟩) (fun q h => nomatch h) d_Le_codeForReserving_80
        have h72 := Decidable.not_not.mp (mt bi_d.mpr h72)
        refine lv_iconst (v := 0) hx hb d_Le_codeForReserving_75 (by decide) ?_
        refine lv_goto hx hb d_Le_codeForReserving_76 rfl ?_
        exact W.iret (v := 0) hx hb hr (fun t ht hW => ⟨0, rfl, (by unfold rsvN; rw [if_pos h8, if_pos ⟨h20, h28, h41⟩, if_pos h56, if_pos h72]), ht⟩) (fun q h => nomatch h) d_Le_codeForReserving_80
      have h56 := mt (Iff.rfl).mpr h56
      refine lv_iload hx hb d_Le_codeForReserving_59 (lv_at hl 0 rfl) ?_
      exact W.iret (v := (omN X x)) hx hb hr (fun t ht hW => ⟨(omN X x), rfl, (by unfold rsvN; rw [if_pos h8, if_pos ⟨h20, h28, h41⟩, if_neg h56]), ht⟩) (fun q h => nomatch h) d_Le_codeForReserving_61
    have h41 := bi_d.mp h41
    refine lv_bipush (v := (-2)) hx hb d_Le_codeForReserving_44 (by decide) ?_
    exact W.iret (v := (-2)) hx hb hr (fun t ht hW => ⟨(-2), rfl, (by unfold rsvN; rw [if_pos h8, if_neg (fun q => h41 q.2.2)]), ht⟩) (fun q h => nomatch h) d_Le_codeForReserving_46
  have h8 := bi_d.mp h8
  refine lv_bipush (v := (-5)) hx hb d_Le_codeForReserving_11 (by decide) ?_
  exact W.iret (v := (-5)) hx hb hr (fun t ht hW => ⟨(-5), rfl, (by unfold rsvN; rw [if_neg h8]), ht⟩) (fun q h => nomatch h) d_Le_codeForReserving_13
set_option maxHeartbeats 4000000 in
set_option maxRecDepth 100000 in
theorem c_Le_codeForGrowing (l : Launch) (dC : Nat → ClassId) (dI : Nat → Nat → Nat) (cI : ClassId) (g : Nat → Nat) (X : RS) (hX : RSok X) (pol : Nat → Nat) (td qd : Nat) (wk : WK) (C : Nat → List Nat) (hCh : ∀ r, r < X.n → chn X.nx (X.fc r) (C r) ∧ (C r).length ≤ 200) (hPn : ∀ x q, x < X.n → X.par x = some q → q < X.n) (x : Nat) (hx0 : x < 4294967296) : Met l y_Le_codeForGrowing (.code y_Le_codeForGrowing b_Le_codeForGrowing 5 (some .int) :: wG) ({ frames := 4, cells := 0, slots := 0, locals := 91 }) (PcS (dC, dI) [(cI, .int)] (wLe cI g X pol td qd wk) [.ref (g 0), .int (nI x)]) (vp_Si (fun r9 => r9 = groN X C x)) 0 0 (fun _ => False) := by
  refine Met.ofW (cc := b_Le_codeForGrowing) (maxL := 5) (ret := (some .int)) (by decide) rfl ?_
  intro pg eg s mg ag bg meth cg s₁ B hml hv
  obtain ⟨rfl, hP, hK, hN⟩ := hv
  have hx := B.exec
  have hb := B.bytes
  have hr := B.returns
  have hlocks := B.notSynchronized
  have hts : ∀ w9 ∈ wG, w9.before ([.ref (g 0), .int (nI x)] : List Value).toArray s = true := fun w9 h9 => atoms_spec (ws := (.code y_Le_codeForGrowing b_Le_codeForGrowing 5 (some .int) :: wG)) B.pre w9 (List.mem_cons_of_mem _ h9)
  have hown : s.vm.findClass "PrefixRegistry$Ledger" = some mg.cls := findClass_of_methodNamed B.named
  have hP : va_P (dC, dI) classes (wLe cI g X pol td qd wk) s.heap := hP
  have hl := lv_entry ([.ref (g 0), .int (nI x)]) (n := 5) (Nat.le_of_ble_eq_true rfl)
  rw [lg_entry_eq]
  generalize (lg_sl ([.ref (g 0), .int (nI x)]) ++ List.replicate (5 - (lg_sl ([.ref (g 0), .int (nI x)])).length) Slot.unset).toArray = ls at hl ⊢
  replace hl : lv_has ls 5 [(0, .ref (g 0)), (1, .int (nI x))] := hl
  refine lv_aload_n hx hb d_Le_codeForGrowing_0 rfl (lv_at hl 0 rfl) ?_
  refine lv_iload_n hx hb d_Le_codeForGrowing_1 rfl (lv_at hl 1 rfl) ?_
  refine vp_callSi (W.runV (b := (g 0)) (As := [.int (nI x)]) (rest := []) ⟨hx, hb, hml, hown, hts⟩ (c_Le_isGivenBelow l dC dI cI g X hX pol td qd wk x hx0) (cwV 1 hts (gV kw_560 kw_562 ks_20 kw_2 kw_563) rfl rfl rfl (by decide +kernel) ⟨Nat.le_of_ble_eq_true rfl, Nat.le_of_ble_eq_true rfl⟩) ⟨PcS.blind, va_recv (q0 := 0) hK hP rfl rfl, PcS.use hP hK hN⟩ rfl rfl hl.1 rfl (lv_room (Nat.le_of_ble_eq_true rfl)) d_Le_codeForGrowing_2 ⟨Nat.zero_le _, Nat.zero_le _⟩) (fun r2 hr2 => ?_)
  obtain rfl : r2 = bi (decide ((x < X.n ∧ X.sta x = 1) ∧ X.par x ≠ none)) := hr2
  refine lv_if_ne hx hb d_Le_codeForGrowing_5 rfl (fun h5 => ?_) (fun h5 => ?_)
  · have h5 := Decidable.not_not.mp (mt bi_d.mpr h5)
    refine lv_aload_n hx hb d_Le_codeForGrowing_11 rfl (lv_at hl 0 rfl) ?_
    refine va_get (D := (dC, dI)) (ci := 2) (v := .ref (g 3)) (C := R_Le) (T := F_Le) (N := 5) hx hb hts u_Le hown hK hP 0 rfl rfl 0 (by decide) (hts _ kw_112) (fun _ h9 => h9) rfl d_Le_codeForGrowing_12 ?_
    refine va_getN (D := (dC, dI)) (ci := 3) (v := .ref (g 6)) (C := R_Re) (T := F_Re) (N := 10) hx hb hts u_Re hown hK hP 3 rfl rfl 2 (by decide) (va_Nw.use rfl (hN.at 42 nw_42 rfl)) (fun _ h9 => h9) rfl d_Le_codeForGrowing_15 ?_
    refine lv_iload_n hx hb d_Le_codeForGrowing_18 rfl (lv_at hl 1 rfl) ?_
    refine x_iald (j := x) (v := (pI (X.par x))) hx hb hK hP 6 0 rfl rfl (by have := hX.n; omega) (by decide) rfl rfl d_Le_codeForGrowing_19 ?_
    obtain ⟨q, hq⟩ : ∃ q, X.par x = some q := by cases e9 : X.par x with | none => exact absurd e9 h5.2 | some q => exact ⟨q, rfl⟩
    have hq2 : q < 200 := hX.par hq
    have hqn : q < X.n := hPn x q h5.1.1 hq
    refine x_topi (y := (nI q)) (by rw [hq]; rfl) ?_
    refine lv_istore_n hx hb d_Le_codeForGrowing_20 rfl hl (by decide) rfl (fun ls hl => ?_)
    replace hl : lv_has ls 5 [(2, .int (nI q)), (0, .ref (g 0)), (1, .int (nI x))] := hl
    refine lv_aload_n hx hb d_Le_codeForGrowing_21 rfl (lv_at hl 1 rfl) ?_
    refine va_get (D := (dC, dI)) (ci := 2) (v := .ref (g 3)) (C := R_Le) (T := F_Le) (N := 5) hx hb hts u_Le hown hK hP 0 rfl rfl 0 (by decide) (hts _ kw_112) (fun _ h9 => h9) rfl d_Le_codeForGrowing_22 ?_
    refine va_getN (D := (dC, dI)) (ci := 3) (v := .ref (g 5)) (C := R_Re) (T := F_Re) (N := 10) hx hb hts u_Re hown hK hP 3 rfl rfl 1 (by decide) (va_Nw.use rfl (hN.at 40 nw_40 rfl)) (fun _ h9 => h9) rfl d_Le_codeForGrowing_25 ?_
    refine lv_iload_n hx hb d_Le_codeForGrowing_28 rfl (lv_at hl 2 rfl) ?_
    refine x_iald (j := x) (v := (nI (X.len x))) hx hb hK hP 5 0 rfl rfl (by have := hX.n; omega) (by decide) rfl rfl d_Le_codeForGrowing_29 ?_
    refine lv_istore_n hx hb d_Le_codeForGrowing_30 rfl hl (by decide) rfl (fun ls hl => ?_)
    replace hl : lv_has ls 5 [(3, .int (nI (X.len x))), (2, .int (nI q)), (0, .ref (g 0)), (1, .int (nI x))] := hl
    refine lv_iload_n hx hb d_Le_codeForGrowing_31 rfl (lv_at hl 0 rfl) ?_
    refine lv_aload_n hx hb d_Le_codeForGrowing_32 rfl (lv_at hl 2 rfl) ?_
    refine va_get (D := (dC, dI)) (ci := 2) (v := .ref (g 3)) (C := R_Le) (T := F_Le) (N := 5) hx hb hts u_Le hown hK hP 0 rfl rfl 0 (by decide) (hts _ kw_112) (fun _ h9 => h9) rfl d_Le_codeForGrowing_33 ?_
    refine va_getN (D := (dC, dI)) (ci := 3) (v := .ref (g 5)) (C := R_Re) (T := F_Re) (N := 10) hx hb hts u_Re hown hK hP 3 rfl rfl 1 (by decide) (va_Nw.use rfl (hN.at 40 nw_40 rfl)) (fun _ h9 => h9) rfl d_Le_codeForGrowing_36 ?_
    refine lv_iload_n hx hb d_Le_codeForGrowing_39 rfl (lv_at hl 1 rfl) ?_
    refine x_iald (j := q) (v := (nI (X.len q))) hx hb hK hP 5 0 rfl rfl hq2 (by decide) rfl rfl d_Le_codeForGrowing_40 ?_
    refine lv_icmp_gt hx hb d_Le_codeForGrowing_41 rfl (fun h41 => ?_) (fun h41 => ?_)
    · have h41 := (nI_ltI (by have := hX.len q; omega) (by have := hX.len x; omega)).mp h41
      refine lv_aload_n hx hb d_Le_codeForGrowing_47 rfl (lv_at hl 2 rfl) ?_
      refine va_get (D := (dC, dI)) (ci := 2) (v := .ref (g 3)) (C := R_Le) (T := F_Le) (N := 5) hx hb hts u_Le hown hK hP 0 rfl rfl 0 (by decide) (hts _ kw_112) (fun _ h9 => h9) rfl d_Le_codeForGrowing_48 ?_
      refine va_getN (D := (dC, dI)) (ci := 3) (v := .ref (g 4)) (C := R_Re) (T := F_Re) (N := 10) hx hb hts u_Re hown hK hP 3 rfl rfl 0 (by decide) (va_Nw.use rfl (hN.at 38 nw_38 rfl)) (fun _ h9 => h9) rfl d_Le_codeForGrowing_51 ?_
      refine lv_iload_n hx hb d_Le_codeForGrowing_54 rfl (lv_at hl 3 rfl) ?_
      refine x_iald (j := x) (v := (nI (X.pre x))) hx hb hK hP 4 0 rfl rfl (by have := hX.n; omega) (by decide) rfl rfl d_Le_codeForGrowing_55 ?_
      refine lv_iload_n hx hb d_Le_codeForGrowing_56 rfl (lv_at hl 0 rfl) ?_
      refine vp_callSi (va_Run.run (va_runSN (As := [.int (nI (X.pre x)), .int (nI (X.len x))]) (rest := []) ⟨hx, hb, hml, hown, hts⟩ (c_PR_siblingOf l dC dI (X.pre x) (X.len x) (hX.len x)) ⟨va_cnB 2 hts (gI kw_424) rfl rfl rfl (hN.at 422 nw_422 rfl) (hts _ kw_1) (by decide +kernel) ⟨Nat.le_of_ble_eq_true rfl, Nat.le_of_ble_eq_true rfl⟩, hts _ kw_423, trivial⟩ ⟨PcS.blind, PcS.use hP hK hN⟩ rfl rfl hl.1 rfl (lv_room (Nat.le_of_ble_eq_true rfl)) d_Le_codeForGrowing_57 ⟨Nat.zero_le _, Nat.zero_le _⟩)) (fun r57 hr57 => ?_)
      obtain rfl : r57 = nI ((X.pre x) ^^^ 2 ^ (32 - (X.len x))) := hr57
      refine lv_istore hx hb d_Le_codeForGrowing_60 hl (by decide) rfl (fun ls hl => ?_)
      replace hl : lv_has ls 5 [(4, .int (nI ((X.pre x) ^^^ 2 ^ (32 - (X.len x))))), (3, .int (nI (X.len x))), (2, .int (nI q)), (0, .ref (g 0)), (1, .int (nI x))] := hl
      refine lv_aload_n hx hb d_Le_codeForGrowing_62 rfl (lv_at hl 3 rfl) ?_
      refine va_get (D := (dC, dI)) (ci := 2) (v := .ref (g 3)) (C := R_Le) (T := F_Le) (N := 5) hx hb hts u_Le hown hK hP 0 rfl rfl 0 (by decide) (hts _ kw_112) (fun _ h9 => h9) rfl d_Le_codeForGrowing_63 ?_
      refine lv_iload_n hx hb d_Le_codeForGrowing_66 rfl (lv_at hl 2 rfl) ?_
      refine lv_iload hx hb d_Le_codeForGrowing_67 (lv_at hl 0 rfl) ?_
      refine lv_iload_n hx hb d_Le_codeForGrowing_69 rfl (lv_at hl 1 rfl) ?_
      refine vp_callSi (W.runV (b := (g 3)) (As := [.int (nI q), .int (nI ((X.pre x) ^^^ 2 ^ (32 - (X.len x)))), .int (nI (X.len x))]) (rest := []) ⟨hx, hb, hml, hown, hts⟩ (c_Re_isFree l dC dI cI (g 3) (fun k => g (4 + k)) X hX q hq2 (C q) (hCh q hqn).1 (hCh q hqn).2 ((X.pre x) ^^^ 2 ^ (32 - (X.len x))) (X.len x) (xor_lt (hX.pre x) (by have := hX.len x; omega)) (hX.len x)) (cwV 3 hts (gV kw_506 kw_507 kw_508 kw_3 kw_509) rfl rfl rfl (by decide +kernel) ⟨Nat.le_of_ble_eq_true rfl, Nat.le_of_ble_eq_true rfl⟩) ⟨PcS.blind, va_recv (q0 := 0) hK (hP.sub (ws' := wRe cI (g 3) (fun k => g (4 + k)) X) [3, 4, 5, 6, 7, 8, 9, 10, 11, 12] rfl) rfl rfl, PcS.use (hP.sub (ws' := wRe cI (g 3) (fun k => g (4 + k)) X) [3, 4, 5, 6, 7, 8, 9, 10, 11, 12] rfl) hK hN⟩ rfl rfl hl.1 rfl (lv_room (Nat.le_of_ble_eq_true rfl)) d_Le_codeForGrowing_70 ⟨Nat.zero_le _, Nat.zero_le _⟩) (fun r70 hr70 => ?_)
      obtain rfl : r70 = bi (decide (∀ c9 ∈ C q, ¬ mt2 (X.pre c9) (X.len c9) ((X.pre x) ^^^ 2 ^ (32 - (X.len x))) (X.len x))) := hr70
      refine lv_if_eq hx hb d_Le_codeForGrowing_73 rfl (fun h73 => ?_) (fun h73 => ?_)
      · have h73 := bi_d.mp h73
        refine lv_iconst (v := (-1)) hx hb d_Le_codeForGrowing_80 (by decide) ?_
        exact W.iret (v := (-1)) hx hb hr (fun t ht hW => ⟨(-1), rfl, (by unfold groN; rw [if_pos h5, hq]; simp only [Option.getD_some]; rw [if_pos h41, if_neg h73]), ht⟩) (fun q h => nomatch h) d_Le_codeForGrowing_81
      have h73 := Decidable.not_not.mp (mt bi_d.mpr h73)
      refine lv_iconst (v := 0) hx hb d_Le_codeForGrowing_76 (by decide) ?_
      refine lv_goto hx hb d_Le_codeForGrowing_77 rfl ?_
      exact W.iret (v := 0) hx hb hr (fun t ht hW => ⟨0, rfl, (by unfold groN; rw [if_pos h5, hq]; simp only [Option.getD_some]; rw [if_pos h41, if_pos h73]), ht⟩) (fun q h => nomatch h) d_Le_codeForGrowing_81
    have h41 := mt (nI_ltI (by have := hX.len q; omega) (by have := hX.len x; omega)).mpr h41
    refine lv_bipush (v := (-2)) hx hb d_Le_codeForGrowing_44 (by decide) ?_
    exact W.iret (v := (-2)) hx hb hr (fun t ht hW => ⟨(-2), rfl, (by unfold groN; rw [if_pos h5, hq]; simp only [Option.getD_some]; rw [if_neg h41]), ht⟩) (fun q h => nomatch h) d_Le_codeForGrowing_46
  have h5 := bi_d.mp h5
  refine lv_bipush (v := (-5)) hx hb d_Le_codeForGrowing_8 (by decide) ?_
  exact W.iret (v := (-5)) hx hb hr (fun t ht hW => ⟨(-5), rfl, (by unfold groN; rw [if_neg h5]), ht⟩) (fun q h => nomatch h) d_Le_codeForGrowing_10
set_option maxHeartbeats 4000000 in
set_option maxRecDepth 100000 in
theorem c_Le_codeForHalving (l : Launch) (dC : Nat → ClassId) (dI : Nat → Nat → Nat) (cI : ClassId) (g : Nat → Nat) (X : RS) (hX : RSok X) (pol : Nat → Nat) (td qd : Nat) (wk : WK) (C : Nat → List Nat) (hCh : ∀ r, r < X.n → chn X.nx (X.fc r) (C r) ∧ (C r).length ≤ 200) (x : Nat) (hx0 : x < 4294967296) (u : Bool) : Met l y_Le_codeForHalving (.code y_Le_codeForHalving b_Le_codeForHalving 4 (some .int) :: wG) ({ frames := 4, cells := 0, slots := 0, locals := 91 }) (PcS (dC, dI) [(cI, .int)] (wLe cI g X pol td qd wk) [.ref (g 0), .int (nI x), .int (bi u)]) (vp_Si (fun r9 => r9 = shrN X C x u)) 0 0 (fun _ => False) := by
  refine Met.ofW (cc := b_Le_codeForHalving) (maxL := 4) (ret := (some .int)) (by decide) rfl ?_
  intro pg eg s mg ag bg meth cg s₁ B hml hv
  obtain ⟨rfl, hP, hK, hN⟩ := hv
  have hx := B.exec
  have hb := B.bytes
  have hr := B.returns
  have hlocks := B.notSynchronized
  have hts : ∀ w9 ∈ wG, w9.before ([.ref (g 0), .int (nI x), .int (bi u)] : List Value).toArray s = true := fun w9 h9 => atoms_spec (ws := (.code y_Le_codeForHalving b_Le_codeForHalving 4 (some .int) :: wG)) B.pre w9 (List.mem_cons_of_mem _ h9)
  have hown : s.vm.findClass "PrefixRegistry$Ledger" = some mg.cls := findClass_of_methodNamed B.named
  have hP : va_P (dC, dI) classes (wLe cI g X pol td qd wk) s.heap := hP
  have hl := lv_entry ([.ref (g 0), .int (nI x), .int (bi u)]) (n := 4) (Nat.le_of_ble_eq_true rfl)
  rw [lg_entry_eq]
  generalize (lg_sl ([.ref (g 0), .int (nI x), .int (bi u)]) ++ List.replicate (4 - (lg_sl ([.ref (g 0), .int (nI x), .int (bi u)])).length) Slot.unset).toArray = ls at hl ⊢
  replace hl : lv_has ls 4 [(0, .ref (g 0)), (1, .int (nI x)), (2, .int (bi u))] := hl
  refine lv_aload_n hx hb d_Le_codeForHalving_0 rfl (lv_at hl 0 rfl) ?_
  refine lv_iload_n hx hb d_Le_codeForHalving_1 rfl (lv_at hl 1 rfl) ?_
  refine vp_callSi (W.runV (b := (g 0)) (As := [.int (nI x)]) (rest := []) ⟨hx, hb, hml, hown, hts⟩ (c_Le_isGivenBelow l dC dI cI g X hX pol td qd wk x hx0) (cwV 1 hts (gV kw_560 kw_562 ks_20 kw_2 kw_563) rfl rfl rfl (by decide +kernel) ⟨Nat.le_of_ble_eq_true rfl, Nat.le_of_ble_eq_true rfl⟩) ⟨PcS.blind, va_recv (q0 := 0) hK hP rfl rfl, PcS.use hP hK hN⟩ rfl rfl hl.1 rfl (lv_room (Nat.le_of_ble_eq_true rfl)) d_Le_codeForHalving_2 ⟨Nat.zero_le _, Nat.zero_le _⟩) (fun r2 hr2 => ?_)
  obtain rfl : r2 = bi (decide ((x < X.n ∧ X.sta x = 1) ∧ X.par x ≠ none)) := hr2
  refine lv_if_ne hx hb d_Le_codeForHalving_5 rfl (fun h5 => ?_) (fun h5 => ?_)
  · have h5 := Decidable.not_not.mp (mt bi_d.mpr h5)
    refine lv_aload_n hx hb d_Le_codeForHalving_11 rfl (lv_at hl 0 rfl) ?_
    refine va_get (D := (dC, dI)) (ci := 2) (v := .ref (g 3)) (C := R_Le) (T := F_Le) (N := 5) hx hb hts u_Le hown hK hP 0 rfl rfl 0 (by decide) (hts _ kw_112) (fun _ h9 => h9) rfl d_Le_codeForHalving_12 ?_
    refine va_getN (D := (dC, dI)) (ci := 3) (v := .ref (g 5)) (C := R_Re) (T := F_Re) (N := 10) hx hb hts u_Re hown hK hP 3 rfl rfl 1 (by decide) (va_Nw.use rfl (hN.at 40 nw_40 rfl)) (fun _ h9 => h9) rfl d_Le_codeForHalving_15 ?_
    refine lv_iload_n hx hb d_Le_codeForHalving_18 rfl (lv_at hl 1 rfl) ?_
    refine x_iald (j := x) (v := (nI (X.len x))) hx hb hK hP 5 0 rfl rfl (by have := hX.n; omega) (by decide) rfl rfl d_Le_codeForHalving_19 ?_
    refine lv_bipush (v := 32) hx hb d_Le_codeForHalving_20 (by decide) ?_
    refine lv_icmp_lt hx hb d_Le_codeForHalving_22 rfl (fun h22 => ?_) (fun h22 => ?_)
    · have h22 := (nI_ltI (b := 32) (by have := hX.len x; omega) (by decide)).mp h22
      refine lv_aload_n hx hb d_Le_codeForHalving_28 rfl (lv_at hl 0 rfl) ?_
      refine va_get (D := (dC, dI)) (ci := 2) (v := .ref (g 3)) (C := R_Le) (T := F_Le) (N := 5) hx hb hts u_Le hown hK hP 0 rfl rfl 0 (by decide) (hts _ kw_112) (fun _ h9 => h9) rfl d_Le_codeForHalving_29 ?_
      refine va_getN (D := (dC, dI)) (ci := 3) (v := .ref (g 5)) (C := R_Re) (T := F_Re) (N := 10) hx hb hts u_Re hown hK hP 3 rfl rfl 1 (by decide) (va_Nw.use rfl (hN.at 40 nw_40 rfl)) (fun _ h9 => h9) rfl d_Le_codeForHalving_32 ?_
      refine lv_iload_n hx hb d_Le_codeForHalving_35 rfl (lv_at hl 1 rfl) ?_
      refine x_iald (j := x) (v := (nI (X.len x))) hx hb hK hP 5 0 rfl rfl (by have := hX.n; omega) (by decide) rfl rfl d_Le_codeForHalving_36 ?_
      refine lv_iconst (v := 1) hx hb d_Le_codeForHalving_37 (by decide) ?_
      refine lv_iadd hx hb d_Le_codeForHalving_38 ?_
      refine x_topi (y := (nI (X.len x + 1))) (nI_1 _) ?_
      refine lv_istore_n hx hb d_Le_codeForHalving_39 rfl hl (by decide) rfl (fun ls hl => ?_)
      replace hl : lv_has ls 4 [(3, .int (nI (X.len x + 1))), (0, .ref (g 0)), (1, .int (nI x)), (2, .int (bi u))] := hl
      refine lv_aload_n hx hb d_Le_codeForHalving_40 rfl (lv_at hl 1 rfl) ?_
      refine va_get (D := (dC, dI)) (ci := 2) (v := .ref (g 3)) (C := R_Le) (T := F_Le) (N := 5) hx hb hts u_Le hown hK hP 0 rfl rfl 0 (by decide) (hts _ kw_112) (fun _ h9 => h9) rfl d_Le_codeForHalving_41 ?_
      refine lv_iload_n hx hb d_Le_codeForHalving_44 rfl (lv_at hl 2 rfl) ?_
      refine lv_aload_n hx hb d_Le_codeForHalving_45 rfl (lv_at hl 1 rfl) ?_
      refine lv_iload_n hx hb d_Le_codeForHalving_46 rfl (lv_at hl 2 rfl) ?_
      refine lv_iload_n hx hb d_Le_codeForHalving_47 rfl (lv_at hl 3 rfl) ?_
      refine lv_if_ne hx hb d_Le_codeForHalving_48 rfl (fun h48 => ?_) (fun h48 => ?_)
      · have h48 : u = true := bi_n0 h48
        refine lv_iconst (v := 0) hx hb d_Le_codeForHalving_55 (by decide) ?_
        refine x_topi (y := (bi (!u))) (by rw [h48]; rfl) ?_
        refine vp_callSi (W.runV (b := (g 0)) (As := [.int (nI x), .int (bi (!u))]) (rest := [.int (nI x), .ref (g 3)]) ⟨hx, hb, hml, hown, hts⟩ (c_Le_halfOf l dC dI cI g X hX pol td qd wk x (by have := hX.n; omega) (by omega) (!u)) (cwV 2 hts (gV kw_429 kw_431 ks_11 kw_2 kw_432) rfl rfl rfl (by decide +kernel) ⟨Nat.le_of_ble_eq_true rfl, Nat.le_of_ble_eq_true rfl⟩) ⟨PcS.blind, va_recv (q0 := 0) hK hP rfl rfl, PcS.use hP hK hN⟩ rfl rfl hl.1 rfl (lv_room (Nat.le_of_ble_eq_true rfl)) d_Le_codeForHalving_56 ⟨Nat.zero_le _, Nat.zero_le _⟩) (fun r56 hr56 => ?_)
        obtain rfl : r56 = nI (hafN X x (!u)) := hr56
        refine lv_iload_n hx hb d_Le_codeForHalving_59 rfl (lv_at hl 0 rfl) ?_
        refine vp_callSi (W.runV (b := (g 3)) (As := [.int (nI x), .int (nI (hafN X x (!u))), .int (nI (X.len x + 1))]) (rest := []) ⟨hx, hb, hml, hown, hts⟩ (c_Re_isFree l dC dI cI (g 3) (fun k => g (4 + k)) X hX x (by have := hX.n; omega) (C x) (hCh x h5.1.1).1 (hCh x h5.1.1).2 (hafN X x (!u)) (X.len x + 1) (hafN_lt hX x h22 (!u)) (by omega)) (cwV 3 hts (gV kw_506 kw_507 kw_508 kw_3 kw_509) rfl rfl rfl (by decide +kernel) ⟨Nat.le_of_ble_eq_true rfl, Nat.le_of_ble_eq_true rfl⟩) ⟨PcS.blind, va_recv (q0 := 0) hK (hP.sub (ws' := wRe cI (g 3) (fun k => g (4 + k)) X) [3, 4, 5, 6, 7, 8, 9, 10, 11, 12] rfl) rfl rfl, PcS.use (hP.sub (ws' := wRe cI (g 3) (fun k => g (4 + k)) X) [3, 4, 5, 6, 7, 8, 9, 10, 11, 12] rfl) hK hN⟩ rfl rfl hl.1 rfl (lv_room (Nat.le_of_ble_eq_true rfl)) d_Le_codeForHalving_60 ⟨Nat.zero_le _, Nat.zero_le _⟩) (fun r60 hr60 => ?_)
        obtain rfl : r60 = bi (decide (∀ c9 ∈ C x, ¬ mt2 (X.pre c9) (X.len c9) (hafN X x (!u)) (X.len x + 1))) := hr60
        refine lv_if_eq hx hb d_Le_codeForHalving_63 rfl (fun h63 => ?_) (fun h63 => ?_)
        · have h63 := bi_d.mp h63
          refine lv_iconst (v := (-1)) hx hb d_Le_codeForHalving_70 (by decide) ?_
          exact W.iret (v := (-1)) hx hb hr (fun t ht hW => ⟨(-1), rfl, (by unfold shrN; rw [if_pos h5, if_pos h22, if_neg h63]), ht⟩) (fun q h => nomatch h) d_Le_codeForHalving_71
        have h63 := Decidable.not_not.mp (mt bi_d.mpr h63)
        refine lv_iconst (v := 0) hx hb d_Le_codeForHalving_66 (by decide) ?_
        refine lv_goto hx hb d_Le_codeForHalving_67 rfl ?_
        exact W.iret (v := 0) hx hb hr (fun t ht hW => ⟨0, rfl, (by unfold shrN; rw [if_pos h5, if_pos h22, if_pos h63]), ht⟩) (fun q h => nomatch h) d_Le_codeForHalving_71
      have h48 : u = false := bi_eq0.mp h48
      refine lv_iconst (v := 1) hx hb d_Le_codeForHalving_51 (by decide) ?_
      refine x_topi (y := (bi (!u))) (by rw [h48]; rfl) ?_
      refine lv_goto hx hb d_Le_codeForHalving_52 rfl ?_
      refine vp_callSi (W.runV (b := (g 0)) (As := [.int (nI x), .int (bi (!u))]) (rest := [.int (nI x), .ref (g 3)]) ⟨hx, hb, hml, hown, hts⟩ (c_Le_halfOf l dC dI cI g X hX pol td qd wk x (by have := hX.n; omega) (by omega) (!u)) (cwV 2 hts (gV kw_429 kw_431 ks_11 kw_2 kw_432) rfl rfl rfl (by decide +kernel) ⟨Nat.le_of_ble_eq_true rfl, Nat.le_of_ble_eq_true rfl⟩) ⟨PcS.blind, va_recv (q0 := 0) hK hP rfl rfl, PcS.use hP hK hN⟩ rfl rfl hl.1 rfl (lv_room (Nat.le_of_ble_eq_true rfl)) d_Le_codeForHalving_56 ⟨Nat.zero_le _, Nat.zero_le _⟩) (fun r56 hr56 => ?_)
      obtain rfl : r56 = nI (hafN X x (!u)) := hr56
      refine lv_iload_n hx hb d_Le_codeForHalving_59 rfl (lv_at hl 0 rfl) ?_
      refine vp_callSi (W.runV (b := (g 3)) (As := [.int (nI x), .int (nI (hafN X x (!u))), .int (nI (X.len x + 1))]) (rest := []) ⟨hx, hb, hml, hown, hts⟩ (c_Re_isFree l dC dI cI (g 3) (fun k => g (4 + k)) X hX x (by have := hX.n; omega) (C x) (hCh x h5.1.1).1 (hCh x h5.1.1).2 (hafN X x (!u)) (X.len x + 1) (hafN_lt hX x h22 (!u)) (by omega)) (cwV 3 hts (gV kw_506 kw_507 kw_508 kw_3 kw_509) rfl rfl rfl (by decide +kernel) ⟨Nat.le_of_ble_eq_true rfl, Nat.le_of_ble_eq_true rfl⟩) ⟨PcS.blind, va_recv (q0 := 0) hK (hP.sub (ws' := wRe cI (g 3) (fun k => g (4 + k)) X) [3, 4, 5, 6, 7, 8, 9, 10, 11, 12] rfl) rfl rfl, PcS.use (hP.sub (ws' := wRe cI (g 3) (fun k => g (4 + k)) X) [3, 4, 5, 6, 7, 8, 9, 10, 11, 12] rfl) hK hN⟩ rfl rfl hl.1 rfl (lv_room (Nat.le_of_ble_eq_true rfl)) d_Le_codeForHalving_60 ⟨Nat.zero_le _, Nat.zero_le _⟩) (fun r60 hr60 => ?_)
      obtain rfl : r60 = bi (decide (∀ c9 ∈ C x, ¬ mt2 (X.pre c9) (X.len c9) (hafN X x (!u)) (X.len x + 1))) := hr60
      refine lv_if_eq hx hb d_Le_codeForHalving_63 rfl (fun h63 => ?_) (fun h63 => ?_)
      · have h63 := bi_d.mp h63
        refine lv_iconst (v := (-1)) hx hb d_Le_codeForHalving_70 (by decide) ?_
        exact W.iret (v := (-1)) hx hb hr (fun t ht hW => ⟨(-1), rfl, (by unfold shrN; rw [if_pos h5, if_pos h22, if_neg h63]), ht⟩) (fun q h => nomatch h) d_Le_codeForHalving_71
      have h63 := Decidable.not_not.mp (mt bi_d.mpr h63)
      refine lv_iconst (v := 0) hx hb d_Le_codeForHalving_66 (by decide) ?_
      refine lv_goto hx hb d_Le_codeForHalving_67 rfl ?_
      exact W.iret (v := 0) hx hb hr (fun t ht hW => ⟨0, rfl, (by unfold shrN; rw [if_pos h5, if_pos h22, if_pos h63]), ht⟩) (fun q h => nomatch h) d_Le_codeForHalving_71
    have h22 := mt (nI_ltI (b := 32) (by have := hX.len x; omega) (by decide)).mpr h22
    refine lv_bipush (v := (-2)) hx hb d_Le_codeForHalving_25 (by decide) ?_
    exact W.iret (v := (-2)) hx hb hr (fun t ht hW => ⟨(-2), rfl, (by unfold shrN; rw [if_pos h5, if_neg h22]), ht⟩) (fun q h => nomatch h) d_Le_codeForHalving_27
  have h5 := bi_d.mp h5
  refine lv_bipush (v := (-5)) hx hb d_Le_codeForHalving_8 (by decide) ?_
  exact W.iret (v := (-5)) hx hb hr (fun t ht hW => ⟨(-5), rfl, (by unfold shrN; rw [if_neg h5]), ht⟩) (fun q h => nomatch h) d_Le_codeForHalving_10
set_option maxHeartbeats 4000000 in
set_option maxRecDepth 100000 in
theorem c_Le_isPolicyMet (l : Launch) (dC : Nat → ClassId) (dI : Nat → Nat → Nat) (cI : ClassId) (g : Nat → Nat) (X : RS) (hX : RSok X) (pol : Nat → Nat) (td qd : Nat) (wk : WK) (C : Nat → List Nat) (hCh : ∀ r, r < X.n → chn X.nx (X.fc r) (C r) ∧ (C r).length ≤ 200) (r : Nat) (hr0 : r < 200) (hlv : X.lev r < 4) (hpol : ∀ v, pol v ≤ 1000) (L : List Nat) (hC : chn X.nx (X.fc r) L) (hL : L.length ≤ 200) (hLn : ∀ c9 ∈ L, c9 < X.n) : Met l y_Le_isPolicyMet (.code y_Le_isPolicyMet b_Le_isPolicyMet 6 (some .boolean) :: wG) ({ frames := 3, cells := 0, slots := 0, locals := 66 }) (PcS (dC, dI) [(cI, .int)] (wLe cI g X pol td qd wk) [.ref (g 0), .int (nI r)]) (vp_Si (fun r9 => r9 = bi (decide (∀ c9 ∈ L, X.sta c9 = 1 ∧ X.hol c9 = X.hol r → 2 ^ (32 - X.len c9) * pol (X.lev r) ≤ usedL X (C c9) * 1000)))) 0 0 (fun _ => False) := by
  refine Met.ofW (cc := b_Le_isPolicyMet) (maxL := 6) (ret := (some .boolean)) (by decide) rfl ?_
  intro pg eg s mg ag bg meth cg s₁ B hml hv
  obtain ⟨rfl, hP, hK, hN⟩ := hv
  have hx := B.exec
  have hb := B.bytes
  have hr := B.returns
  have hlocks := B.notSynchronized
  have hts : ∀ w9 ∈ wG, w9.before ([.ref (g 0), .int (nI r)] : List Value).toArray s = true := fun w9 h9 => atoms_spec (ws := (.code y_Le_isPolicyMet b_Le_isPolicyMet 6 (some .boolean) :: wG)) B.pre w9 (List.mem_cons_of_mem _ h9)
  have hown : s.vm.findClass "PrefixRegistry$Ledger" = some mg.cls := findClass_of_methodNamed B.named
  have hP : va_P (dC, dI) classes (wLe cI g X pol td qd wk) s.heap := hP
  have hl := lv_entry ([.ref (g 0), .int (nI r)]) (n := 6) (Nat.le_of_ble_eq_true rfl)
  rw [lg_entry_eq]
  generalize (lg_sl ([.ref (g 0), .int (nI r)]) ++ List.replicate (6 - (lg_sl ([.ref (g 0), .int (nI r)])).length) Slot.unset).toArray = ls at hl ⊢
  replace hl : lv_has ls 6 [(0, .ref (g 0)), (1, .int (nI r))] := hl
  refine lv_aload_n hx hb d_Le_isPolicyMet_0 rfl (lv_at hl 0 rfl) ?_
  refine va_get (D := (dC, dI)) (ci := 2) (v := .ref (g 2)) (C := R_Le) (T := F_Le) (N := 5) hx hb hts u_Le hown hK hP 0 rfl rfl 2 (by decide) (hts _ kw_116) (fun _ h9 => h9) rfl d_Le_isPolicyMet_1 ?_
  refine lv_aload_n hx hb d_Le_isPolicyMet_4 rfl (lv_at hl 0 rfl) ?_
  refine va_get (D := (dC, dI)) (ci := 2) (v := .ref (g 3)) (C := R_Le) (T := F_Le) (N := 5) hx hb hts u_Le hown hK hP 0 rfl rfl 0 (by decide) (hts _ kw_112) (fun _ h9 => h9) rfl d_Le_isPolicyMet_5 ?_
  refine va_getN (D := (dC, dI)) (ci := 3) (v := .ref (g 7)) (C := R_Re) (T := F_Re) (N := 10) hx hb hts u_Re hown hK hP 3 rfl rfl 3 (by decide) (va_Nw.use rfl (hN.at 44 nw_44 rfl)) (fun _ h9 => h9) rfl d_Le_isPolicyMet_8 ?_
  refine lv_iload_n hx hb d_Le_isPolicyMet_11 rfl (lv_at hl 1 rfl) ?_
  refine x_iald (j := r) (v := (nI (X.lev r))) hx hb hK hP 7 0 rfl rfl hr0 (by decide) rfl rfl d_Le_isPolicyMet_12 ?_
  refine x_iald (j := (X.lev r)) (v := (nI (pol (X.lev r)))) hx hb hK hP 2 0 rfl rfl hlv (by decide) rfl rfl d_Le_isPolicyMet_13 ?_
  refine lv_istore_n hx hb d_Le_isPolicyMet_14 rfl hl (by decide) rfl (fun ls hl => ?_)
  replace hl : lv_has ls 6 [(2, .int (nI (pol (X.lev r)))), (0, .ref (g 0)), (1, .int (nI r))] := hl
  refine lv_aload_n hx hb d_Le_isPolicyMet_15 rfl (lv_at hl 1 rfl) ?_
  refine va_get (D := (dC, dI)) (ci := 2) (v := .ref (g 3)) (C := R_Le) (T := F_Le) (N := 5) hx hb hts u_Le hown hK hP 0 rfl rfl 0 (by decide) (hts _ kw_112) (fun _ h9 => h9) rfl d_Le_isPolicyMet_16 ?_
  refine va_getN (D := (dC, dI)) (ci := 3) (v := .ref (g 11)) (C := R_Re) (T := F_Re) (N := 10) hx hb hts u_Re hown hK hP 3 rfl rfl 7 (by decide) (va_Nw.use rfl (hN.at 54 nw_54 rfl)) (fun _ h9 => h9) rfl d_Le_isPolicyMet_19 ?_
  refine lv_iload_n hx hb d_Le_isPolicyMet_22 rfl (lv_at hl 2 rfl) ?_
  refine x_iald (j := r) (v := (pI (X.fc r))) hx hb hK hP 11 0 rfl rfl hr0 (by decide) rfl rfl d_Le_isPolicyMet_23 ?_
  refine lv_istore_n hx hb d_Le_isPolicyMet_24 rfl hl (by decide) rfl (fun ls hl => ?_)
  replace hl : lv_has ls 6 [(3, .int (pI (X.fc r))), (2, .int (nI (pol (X.lev r)))), (0, .ref (g 0)), (1, .int (nI r))] := hl
  refine lv_iconst (v := 0) hx hb d_Le_isPolicyMet_25 (by decide) ?_
  refine lv_istore hx hb d_Le_isPolicyMet_26 hl (by decide) rfl (fun ls hl => ?_)
  replace hl : lv_has ls 6 [(4, .int 0), (3, .int (pI (X.fc r))), (2, .int (nI (pol (X.lev r)))), (0, .ref (g 0)), (1, .int (nI r))] := hl
  obtain ⟨Kl, hK0⟩ : ∃ Kl : List Nat, Kl = L := ⟨L, rfl⟩
  obtain ⟨i, hi⟩ : ∃ i : Nat, i = 0 := ⟨0, rfl⟩
  have hres : (∀ c9 ∈ L, X.sta c9 = 1 ∧ X.hol c9 = X.hol r → 2 ^ (32 - X.len c9) * pol (X.lev r) ≤ usedL X (C c9) * 1000) ↔ (∀ c9 ∈ Kl, X.sta c9 = 1 ∧ X.hol c9 = X.hol r → 2 ^ (32 - X.len c9) * pol (X.lev r) ≤ usedL X (C c9) * 1000) := by rw [hK0]
  have hel : ∀ c9 ∈ Kl, c9 < X.n := by rw [hK0]; exact hLn
  replace hl : lv_has ls 6 [(4, .int (nI i)), (3, .int (pI (X.fc r))), (2, .int (nI (pol (X.lev r)))), (0, .ref (g 0)), (1, .int (nI r))] := by subst hi; exact hl
  have ho : ∀ k, X.fc r = some k → k < 200 := fun k q => hX.fc q
  replace hC := hK0 ▸ hC
  replace hi : i + Kl.length ≤ 200 := by rw [hi, hK0]; omega
  clear hK0
  generalize X.fc r = o at hC ho hl
  replace hC : chn X.nx o Kl := hC
  replace ho := ho
  replace hi := hi
  replace hres := hres
  replace hel := hel
  replace hl : lv_has ls 6 [(4, .int (nI i)), (3, .int (pI o)), (2, .int (nI (pol (X.lev r)))), (0, .ref (g 0)), (1, .int (nI r))] := hl
  induction Kl generalizing o i ls  with
  | nil =>
    obtain rfl : o = none := hC
    replace hl : lv_has ls 6 [(4, .int (nI i)), (3, .int (pI none)), (2, .int (nI (pol (X.lev r)))), (0, .ref (g 0)), (1, .int (nI r))] := hl
    refine lv_iload hx hb d_Le_isPolicyMet_28 (lv_at hl 0 rfl) ?_
    refine lv_sipush (v := 200) hx hb d_Le_isPolicyMet_30 (by decide) ?_
    refine lv_icmp_ge hx hb d_Le_isPolicyMet_33 rfl (fun h33 => ?_) (fun h33 => ?_)
    · refine lv_iconst (v := 1) hx hb d_Le_isPolicyMet_132 (by decide) ?_
      exact W.zret (v := 1) hx hb hr (by decide) (fun t ht hW => ⟨1, rfl, (bT (hres.mpr (fun _ q => nomatch q))), ht⟩) (fun q h => nomatch h) d_Le_isPolicyMet_133
    refine lv_iload_n hx hb d_Le_isPolicyMet_36 rfl (lv_at hl 1 rfl) ?_
    refine lv_iconst (v := (-1)) hx hb d_Le_isPolicyMet_37 (by decide) ?_
    refine lv_icmp_eq hx hb d_Le_isPolicyMet_38 rfl (fun _ => ?_) (fun h9 => absurd rfl h9)
    refine lv_iconst (v := 1) hx hb d_Le_isPolicyMet_132 (by decide) ?_
    exact W.zret (v := 1) hx hb hr (by decide) (fun t ht hW => ⟨1, rfl, (bT (hres.mpr (fun _ q => nomatch q))), ht⟩) (fun q h => nomatch h) d_Le_isPolicyMet_133
  | cons j t ih =>
    obtain ⟨rfl, hC⟩ := hC
    have hj : j < 200 := ho j rfl
    replace hi : i + (t.length + 1) ≤ 200 := hi
    replace hl : lv_has ls 6 [(4, .int (nI i)), (3, .int (nI j)), (2, .int (nI (pol (X.lev r)))), (0, .ref (g 0)), (1, .int (nI r))] := hl
    refine lv_iload hx hb d_Le_isPolicyMet_28 (lv_at hl 0 rfl) ?_
    refine lv_sipush (v := 200) hx hb d_Le_isPolicyMet_30 (by decide) ?_
    refine lv_icmp_ge hx hb d_Le_isPolicyMet_33 rfl (fun h9 => absurd h9 (nI_ge (b := 200) (by omega) (by decide))) (fun _ => ?_)
    refine lv_iload_n hx hb d_Le_isPolicyMet_36 rfl (lv_at hl 1 rfl) ?_
    refine lv_iconst (v := (-1)) hx hb d_Le_isPolicyMet_37 (by decide) ?_
    refine lv_icmp_eq hx hb d_Le_isPolicyMet_38 rfl (fun h9 => absurd h9 (k_nm1 hj)) (fun _ => ?_)
    refine lv_aload_n hx hb d_Le_isPolicyMet_41 rfl (lv_at hl 3 rfl) ?_
    refine va_get (D := (dC, dI)) (ci := 2) (v := .ref (g 3)) (C := R_Le) (T := F_Le) (N := 5) hx hb hts u_Le hown hK hP 0 rfl rfl 0 (by decide) (hts _ kw_112) (fun _ h9 => h9) rfl d_Le_isPolicyMet_42 ?_
    refine va_getN (D := (dC, dI)) (ci := 3) (v := .ref (g 9)) (C := R_Re) (T := F_Re) (N := 10) hx hb hts u_Re hown hK hP 3 rfl rfl 5 (by decide) (va_Nw.use rfl (hN.at 49 nw_49 rfl)) (fun _ h9 => h9) rfl d_Le_isPolicyMet_45 ?_
    refine lv_iload_n hx hb d_Le_isPolicyMet_48 rfl (lv_at hl 1 rfl) ?_
    refine x_iald (j := j) (v := (nI (X.sta j))) hx hb hK hP 9 0 rfl rfl hj (by decide) rfl rfl d_Le_isPolicyMet_49 ?_
    refine lv_iconst (v := 1) hx hb d_Le_isPolicyMet_50 (by decide) ?_
    refine lv_icmp_ne hx hb d_Le_isPolicyMet_51 rfl (fun h51 => ?_) (fun h51 => ?_)
    · have h51 := mt (k_eq (b := 1) (by have := hX.sta j; omega) (by decide)).mpr h51
      refine lv_iconst (v := 0) hx hb d_Le_isPolicyMet_79 (by decide) ?_
      refine lv_istore hx hb d_Le_isPolicyMet_80 hl (by decide) rfl (fun ls hl => ?_)
      replace hl : lv_has ls 6 [(5, .int 0), (4, .int (nI i)), (3, .int (nI j)), (2, .int (nI (pol (X.lev r)))), (0, .ref (g 0)), (1, .int (nI r))] := hl
      refine lv_iload hx hb d_Le_isPolicyMet_82 (lv_at hl 0 rfl) ?_
      refine lv_if_eq hx hb d_Le_isPolicyMet_84 rfl (fun _ => ?_) (fun h9 => absurd rfl h9)
      have hthis : X.sta j = 1 ∧ X.hol j = X.hol r → 2 ^ (32 - X.len j) * pol (X.lev r) ≤ usedL X (C j) * 1000 := fun q => absurd q.1 h51
      refine lv_aload_n hx hb d_Le_isPolicyMet_116 rfl (lv_at hl 4 rfl) ?_
      refine va_get (D := (dC, dI)) (ci := 2) (v := .ref (g 3)) (C := R_Le) (T := F_Le) (N := 5) hx hb hts u_Le hown hK hP 0 rfl rfl 0 (by decide) (hts _ kw_112) (fun _ h9 => h9) rfl d_Le_isPolicyMet_117 ?_
      refine va_getN (D := (dC, dI)) (ci := 3) (v := .ref (g 12)) (C := R_Re) (T := F_Re) (N := 10) hx hb hts u_Re hown hK hP 3 rfl rfl 8 (by decide) (va_Nw.use rfl (hN.at 57 nw_57 rfl)) (fun _ h9 => h9) rfl d_Le_isPolicyMet_120 ?_
      refine lv_iload_n hx hb d_Le_isPolicyMet_123 rfl (lv_at hl 2 rfl) ?_
      refine x_iald (j := j) (v := (pI (X.nx j))) hx hb hK hP 12 0 rfl rfl hj (by decide) rfl rfl d_Le_isPolicyMet_124 ?_
      refine lv_istore_n hx hb d_Le_isPolicyMet_125 rfl hl (by decide) rfl (fun ls hl => ?_)
      replace hl : lv_has ls 6 [(3, .int (pI (X.nx j))), (5, .int 0), (4, .int (nI i)), (2, .int (nI (pol (X.lev r)))), (0, .ref (g 0)), (1, .int (nI r))] := hl
      refine lv_iinc hx hb d_Le_isPolicyMet_126 hl (k := 2) (v := (nI (i + 1))) rfl (nI_1 i) (by decide) rfl (fun ls hl => ?_)
      replace hl : lv_has ls 6 [(4, .int (nI (i + 1))), (3, .int (pI (X.nx j))), (5, .int 0), (2, .int (nI (pol (X.lev r)))), (0, .ref (g 0)), (1, .int (nI r))] := hl
      refine lv_goto hx hb d_Le_isPolicyMet_129 rfl ?_
      refine ih _ _ _ hC (fun k q => hX.nx q) ?_ ?_ ?_ (lv_sub hl [0, 1, 3, 4, 5] rfl)
      · omega
      · exact (hres.trans (by simp only [List.forall_mem_cons]; exact ⟨fun q => q.2, fun q => ⟨hthis, q⟩⟩))
      · exact (fun c9 q => hel c9 (List.mem_cons_of_mem _ q))
    have h51 := (k_eq (b := 1) (by have := hX.sta j; omega) (by decide)).mp h51
    refine lv_aload_n hx hb d_Le_isPolicyMet_54 rfl (lv_at hl 3 rfl) ?_
    refine va_get (D := (dC, dI)) (ci := 2) (v := .ref (g 3)) (C := R_Le) (T := F_Le) (N := 5) hx hb hts u_Le hown hK hP 0 rfl rfl 0 (by decide) (hts _ kw_112) (fun _ h9 => h9) rfl d_Le_isPolicyMet_55 ?_
    refine va_getN (D := (dC, dI)) (ci := 3) (v := .ref (g 8)) (C := R_Re) (T := F_Re) (N := 10) hx hb hts u_Re hown hK hP 3 rfl rfl 4 (by decide) (va_Nw.use rfl (hN.at 46 nw_46 rfl)) (fun _ h9 => h9) rfl d_Le_isPolicyMet_58 ?_
    refine lv_iload_n hx hb d_Le_isPolicyMet_61 rfl (lv_at hl 1 rfl) ?_
    refine x_iald (j := j) (v := (nI (X.hol j))) hx hb hK hP 8 0 rfl rfl hj (by decide) rfl rfl d_Le_isPolicyMet_62 ?_
    refine lv_aload_n hx hb d_Le_isPolicyMet_63 rfl (lv_at hl 3 rfl) ?_
    refine va_get (D := (dC, dI)) (ci := 2) (v := .ref (g 3)) (C := R_Le) (T := F_Le) (N := 5) hx hb hts u_Le hown hK hP 0 rfl rfl 0 (by decide) (hts _ kw_112) (fun _ h9 => h9) rfl d_Le_isPolicyMet_64 ?_
    refine va_getN (D := (dC, dI)) (ci := 3) (v := .ref (g 8)) (C := R_Re) (T := F_Re) (N := 10) hx hb hts u_Re hown hK hP 3 rfl rfl 4 (by decide) (va_Nw.use rfl (hN.at 46 nw_46 rfl)) (fun _ h9 => h9) rfl d_Le_isPolicyMet_67 ?_
    refine lv_iload_n hx hb d_Le_isPolicyMet_70 rfl (lv_at hl 4 rfl) ?_
    refine x_iald (j := r) (v := (nI (X.hol r))) hx hb hK hP 8 0 rfl rfl hr0 (by decide) rfl rfl d_Le_isPolicyMet_71 ?_
    refine lv_icmp_ne hx hb d_Le_isPolicyMet_72 rfl (fun h72 => ?_) (fun h72 => ?_)
    · have h72 := mt (k_eq (by have := hX.hol j; omega) (by have := hX.hol r; omega)).mpr h72
      refine lv_iconst (v := 0) hx hb d_Le_isPolicyMet_79 (by decide) ?_
      refine lv_istore hx hb d_Le_isPolicyMet_80 hl (by decide) rfl (fun ls hl => ?_)
      replace hl : lv_has ls 6 [(5, .int 0), (4, .int (nI i)), (3, .int (nI j)), (2, .int (nI (pol (X.lev r)))), (0, .ref (g 0)), (1, .int (nI r))] := hl
      refine lv_iload hx hb d_Le_isPolicyMet_82 (lv_at hl 0 rfl) ?_
      refine lv_if_eq hx hb d_Le_isPolicyMet_84 rfl (fun _ => ?_) (fun h9 => absurd rfl h9)
      have hthis : X.sta j = 1 ∧ X.hol j = X.hol r → 2 ^ (32 - X.len j) * pol (X.lev r) ≤ usedL X (C j) * 1000 := fun q => absurd q.2 h72
      refine lv_aload_n hx hb d_Le_isPolicyMet_116 rfl (lv_at hl 4 rfl) ?_
      refine va_get (D := (dC, dI)) (ci := 2) (v := .ref (g 3)) (C := R_Le) (T := F_Le) (N := 5) hx hb hts u_Le hown hK hP 0 rfl rfl 0 (by decide) (hts _ kw_112) (fun _ h9 => h9) rfl d_Le_isPolicyMet_117 ?_
      refine va_getN (D := (dC, dI)) (ci := 3) (v := .ref (g 12)) (C := R_Re) (T := F_Re) (N := 10) hx hb hts u_Re hown hK hP 3 rfl rfl 8 (by decide) (va_Nw.use rfl (hN.at 57 nw_57 rfl)) (fun _ h9 => h9) rfl d_Le_isPolicyMet_120 ?_
      refine lv_iload_n hx hb d_Le_isPolicyMet_123 rfl (lv_at hl 2 rfl) ?_
      refine x_iald (j := j) (v := (pI (X.nx j))) hx hb hK hP 12 0 rfl rfl hj (by decide) rfl rfl d_Le_isPolicyMet_124 ?_
      refine lv_istore_n hx hb d_Le_isPolicyMet_125 rfl hl (by decide) rfl (fun ls hl => ?_)
      replace hl : lv_has ls 6 [(3, .int (pI (X.nx j))), (5, .int 0), (4, .int (nI i)), (2, .int (nI (pol (X.lev r)))), (0, .ref (g 0)), (1, .int (nI r))] := hl
      refine lv_iinc hx hb d_Le_isPolicyMet_126 hl (k := 2) (v := (nI (i + 1))) rfl (nI_1 i) (by decide) rfl (fun ls hl => ?_)
      replace hl : lv_has ls 6 [(4, .int (nI (i + 1))), (3, .int (pI (X.nx j))), (5, .int 0), (2, .int (nI (pol (X.lev r)))), (0, .ref (g 0)), (1, .int (nI r))] := hl
      refine lv_goto hx hb d_Le_isPolicyMet_129 rfl ?_
      refine ih _ _ _ hC (fun k q => hX.nx q) ?_ ?_ ?_ (lv_sub hl [0, 1, 3, 4, 5] rfl)
      · omega
      · exact (hres.trans (by simp only [List.forall_mem_cons]; exact ⟨fun q => q.2, fun q => ⟨hthis, q⟩⟩))
      · exact (fun c9 q => hel c9 (List.mem_cons_of_mem _ q))
    have h72 := (k_eq (by have := hX.hol j; omega) (by have := hX.hol r; omega)).mp h72
    refine lv_iconst (v := 1) hx hb d_Le_isPolicyMet_75 (by decide) ?_
    refine lv_goto hx hb d_Le_isPolicyMet_76 rfl ?_
    refine lv_istore hx hb d_Le_isPolicyMet_80 hl (by decide) rfl (fun ls hl => ?_)
    replace hl : lv_has ls 6 [(5, .int 1), (4, .int (nI i)), (3, .int (nI j)), (2, .int (nI (pol (X.lev r)))), (0, .ref (g 0)), (1, .int (nI r))] := hl
    refine lv_iload hx hb d_Le_isPolicyMet_82 (lv_at hl 0 rfl) ?_
    refine lv_if_eq hx hb d_Le_isPolicyMet_84 rfl (fun h9 => absurd h9 (by decide)) (fun _ => ?_)
    refine lv_aload_n hx hb d_Le_isPolicyMet_87 rfl (lv_at hl 4 rfl) ?_
    refine va_get (D := (dC, dI)) (ci := 2) (v := .ref (g 3)) (C := R_Le) (T := F_Le) (N := 5) hx hb hts u_Le hown hK hP 0 rfl rfl 0 (by decide) (hts _ kw_112) (fun _ h9 => h9) rfl d_Le_isPolicyMet_88 ?_
    refine lv_iload_n hx hb d_Le_isPolicyMet_91 rfl (lv_at hl 2 rfl) ?_
    refine vp_callSl (W.runV (b := (g 3)) (As := [.int (nI j)]) (rest := []) ⟨hx, hb, hml, hown, hts⟩ (c_Re_usedBelow l dC dI cI (g 3) (fun k => g (4 + k)) X hX j hj (C j) (hCh j (hel j List.mem_cons_self)).1 (hCh j (hel j List.mem_cons_self)).2) (cwV 1 hts (gV kw_485 kw_486 kw_487 kw_3 kw_488) rfl rfl rfl (by decide +kernel) ⟨Nat.le_of_ble_eq_true rfl, Nat.le_of_ble_eq_true rfl⟩) ⟨PcS.blind, va_recv (q0 := 0) hK (hP.sub (ws' := wRe cI (g 3) (fun k => g (4 + k)) X) [3, 4, 5, 6, 7, 8, 9, 10, 11, 12] rfl) rfl rfl, PcS.use (hP.sub (ws' := wRe cI (g 3) (fun k => g (4 + k)) X) [3, 4, 5, 6, 7, 8, 9, 10, 11, 12] rfl) hK hN⟩ rfl rfl hl.1 rfl (lv_room (Nat.le_of_ble_eq_true rfl)) d_Le_isPolicyMet_92 ⟨Nat.zero_le _, Nat.zero_le _⟩) (fun r92 hr92 => ?_)
    obtain rfl : r92 = lN (usedL X (C j)) := hr92
    refine lv_ldc2 hx hb hown (hts _ kw_489) d_Le_isPolicyMet_95 ?_
    refine lv_lmul hx hb d_Le_isPolicyMet_98 ?_
    refine x_topl (y := (lN (usedL X (C j) * 1000))) (lN_mul _ 1000) ?_
    refine lv_aload_n hx hb d_Le_isPolicyMet_99 rfl (lv_at hl 4 rfl) ?_
    refine va_get (D := (dC, dI)) (ci := 2) (v := .ref (g 3)) (C := R_Le) (T := F_Le) (N := 5) hx hb hts u_Le hown hK hP 0 rfl rfl 0 (by decide) (hts _ kw_112) (fun _ h9 => h9) rfl d_Le_isPolicyMet_100 ?_
    refine lv_iload_n hx hb d_Le_isPolicyMet_103 rfl (lv_at hl 2 rfl) ?_
    refine vp_callSl (W.runV (b := (g 3)) (As := [.int (nI j)]) (rest := [.long (lN (usedL X (C j) * 1000))]) ⟨hx, hb, hml, hown, hts⟩ (c_Re_size l dC dI cI (g 3) (fun k => g (4 + k)) X hX j hj) (cwV 1 hts (gV kw_490 kw_180 kw_181 kw_3 kw_182) rfl rfl rfl (by decide +kernel) ⟨Nat.le_of_ble_eq_true rfl, Nat.le_of_ble_eq_true rfl⟩) ⟨PcS.blind, va_recv (q0 := 0) hK (hP.sub (ws' := wRe cI (g 3) (fun k => g (4 + k)) X) [3, 4, 5, 6, 7, 8, 9, 10, 11, 12] rfl) rfl rfl, PcS.use (hP.sub (ws' := wRe cI (g 3) (fun k => g (4 + k)) X) [3, 4, 5, 6, 7, 8, 9, 10, 11, 12] rfl) hK hN⟩ rfl rfl hl.1 rfl (lv_room (Nat.le_of_ble_eq_true rfl)) d_Le_isPolicyMet_104 ⟨Nat.zero_le _, Nat.zero_le _⟩) (fun r104 hr104 => ?_)
    obtain rfl : r104 = lN (2 ^ (32 - X.len j)) := hr104
    refine lv_iload_n hx hb d_Le_isPolicyMet_107 rfl (lv_at hl 3 rfl) ?_
    refine lv_i2l hx hb d_Le_isPolicyMet_108 rfl ?_
    refine x_topl (y := (lN (pol (X.lev r)))) (nI_l (by have := hpol (X.lev r); omega)) ?_
    refine lv_lmul hx hb d_Le_isPolicyMet_109 ?_
    refine x_topl (y := (lN (2 ^ (32 - X.len j) * pol (X.lev r)))) (lN_mul _ _) ?_
    refine W.lcmp hx hb d_Le_isPolicyMet_110 ?_
    refine lv_if_ge hx hb d_Le_isPolicyMet_111 rfl (fun h111 => ?_) (fun h111 => ?_)
    · have h111 := (k_cge (by have := used_lt X (C j) (hCh j (hel j List.mem_cons_self)).2; omega) (by have q1 := @k_pow (X.len j); have q2 := hpol (X.lev r); have q3 : 2 ^ (32 - X.len j) * pol (X.lev r) ≤ 4294967296 * 1000 := Nat.mul_le_mul q1 q2; omega)).mp h111
      have hthis : X.sta j = 1 ∧ X.hol j = X.hol r → 2 ^ (32 - X.len j) * pol (X.lev r) ≤ usedL X (C j) * 1000 := fun _ => h111
      refine lv_aload_n hx hb d_Le_isPolicyMet_116 rfl (lv_at hl 4 rfl) ?_
      refine va_get (D := (dC, dI)) (ci := 2) (v := .ref (g 3)) (C := R_Le) (T := F_Le) (N := 5) hx hb hts u_Le hown hK hP 0 rfl rfl 0 (by decide) (hts _ kw_112) (fun _ h9 => h9) rfl d_Le_isPolicyMet_117 ?_
      refine va_getN (D := (dC, dI)) (ci := 3) (v := .ref (g 12)) (C := R_Re) (T := F_Re) (N := 10) hx hb hts u_Re hown hK hP 3 rfl rfl 8 (by decide) (va_Nw.use rfl (hN.at 57 nw_57 rfl)) (fun _ h9 => h9) rfl d_Le_isPolicyMet_120 ?_
      refine lv_iload_n hx hb d_Le_isPolicyMet_123 rfl (lv_at hl 2 rfl) ?_
      refine x_iald (j := j) (v := (pI (X.nx j))) hx hb hK hP 12 0 rfl rfl hj (by decide) rfl rfl d_Le_isPolicyMet_124 ?_
      refine lv_istore_n hx hb d_Le_isPolicyMet_125 rfl hl (by decide) rfl (fun ls hl => ?_)
      replace hl : lv_has ls 6 [(3, .int (pI (X.nx j))), (5, .int 1), (4, .int (nI i)), (2, .int (nI (pol (X.lev r)))), (0, .ref (g 0)), (1, .int (nI r))] := hl
      refine lv_iinc hx hb d_Le_isPolicyMet_126 hl (k := 2) (v := (nI (i + 1))) rfl (nI_1 i) (by decide) rfl (fun ls hl => ?_)
      replace hl : lv_has ls 6 [(4, .int (nI (i + 1))), (3, .int (pI (X.nx j))), (5, .int 1), (2, .int (nI (pol (X.lev r)))), (0, .ref (g 0)), (1, .int (nI r))] := hl
      refine lv_goto hx hb d_Le_isPolicyMet_129 rfl ?_
      refine ih _ _ _ hC (fun k q => hX.nx q) ?_ ?_ ?_ (lv_sub hl [0, 1, 3, 4, 5] rfl)
      · omega
      · exact (hres.trans (by simp only [List.forall_mem_cons]; exact ⟨fun q => q.2, fun q => ⟨hthis, q⟩⟩))
      · exact (fun c9 q => hel c9 (List.mem_cons_of_mem _ q))
    have h111 := mt (k_cge (by have := used_lt X (C j) (hCh j (hel j List.mem_cons_self)).2; omega) (by have q1 := @k_pow (X.len j); have q2 := hpol (X.lev r); have q3 : 2 ^ (32 - X.len j) * pol (X.lev r) ≤ 4294967296 * 1000 := Nat.mul_le_mul q1 q2; omega)).mpr h111
    refine lv_iconst (v := 0) hx hb d_Le_isPolicyMet_114 (by decide) ?_
    exact W.zret (v := 0) hx hb hr (by decide) (fun t ht hW => ⟨0, rfl, (bF (fun q => h111 (hres.mp q j List.mem_cons_self ⟨h51, h72⟩))), ht⟩) (fun q h => nomatch h) d_Le_isPolicyMet_115
set_option maxHeartbeats 4000000 in
set_option maxRecDepth 100000 in
theorem c_Le_isLike (l : Launch) (dC : Nat → ClassId) (dI : Nat → Nat → Nat) (cI : ClassId) (g : Nat → Nat) (X : RS) (hX : RSok X) (pol : Nat → Nat) (td qd : Nat) (wk : WK) (g2 : Nat → Nat) (Y : RS) (hY : RSok Y) (pol2 : Nat → Nat) (td2 qd2 : Nat) (wk2 : WK) (hpb : ∀ v, pol v ≤ 1000 ∧ pol2 v ≤ 1000) (htd : td < 2147483648 ∧ td2 < 2147483648 ∧ qd < 2147483648 ∧ qd2 < 2147483648) : Met l y_Le_isLike (.code y_Le_isLike b_Le_isLike 3 (some .boolean) :: wG) ({ frames := 2, cells := 0, slots := 0, locals := 45 }) (PcS (dC, dI) [(cI, .int)] (wLe cI g X pol td qd wk ++ wLe cI g2 Y pol2 td2 qd2 wk2) [.ref (g 0), .ref (g2 0)]) (vp_Si (fun r9 => r9 = bi (lkB X Y pol pol2 td td2 qd qd2))) 0 0 (fun _ => False) := by
  refine Met.ofW (cc := b_Le_isLike) (maxL := 3) (ret := (some .boolean)) (by decide) rfl ?_
  intro pg eg s mg ag bg meth cg s₁ B hml hv
  obtain ⟨rfl, hP, hK, hN⟩ := hv
  have hx := B.exec
  have hb := B.bytes
  have hr := B.returns
  have hlocks := B.notSynchronized
  have hts : ∀ w9 ∈ wG, w9.before ([.ref (g 0), .ref (g2 0)] : List Value).toArray s = true := fun w9 h9 => atoms_spec (ws := (.code y_Le_isLike b_Le_isLike 3 (some .boolean) :: wG)) B.pre w9 (List.mem_cons_of_mem _ h9)
  have hown : s.vm.findClass "PrefixRegistry$Ledger" = some mg.cls := findClass_of_methodNamed B.named
  have hP : va_P (dC, dI) classes (wLe cI g X pol td qd wk ++ wLe cI g2 Y pol2 td2 qd2 wk2) s.heap := hP
  have hl := lv_entry ([.ref (g 0), .ref (g2 0)]) (n := 3) (Nat.le_of_ble_eq_true rfl)
  rw [lg_entry_eq]
  generalize (lg_sl ([.ref (g 0), .ref (g2 0)]) ++ List.replicate (3 - (lg_sl ([.ref (g 0), .ref (g2 0)])).length) Slot.unset).toArray = ls at hl ⊢
  replace hl : lv_has ls 3 [(0, .ref (g 0)), (1, .ref (g2 0))] := hl
  refine lv_iconst (v := 0) hx hb d_Le_isLike_0 (by decide) ?_
  refine lv_istore_n hx hb d_Le_isLike_1 rfl hl (by decide) rfl (fun ls hl => ?_)
  replace hl : lv_has ls 3 [(2, .int 0), (0, .ref (g 0)), (1, .ref (g2 0))] := hl
  obtain ⟨i, hi0⟩ : ∃ i : Nat, i = 0 := ⟨_, rfl⟩
  obtain ⟨k, hk0⟩ : ∃ k : Nat, k = 4 - 0 := ⟨_, rfl⟩
  have hres : ∀ q, q < i → pol q = pol2 q := by intro q hq; omega
  replace hl : lv_has ls 3 [(2, .int (nI i)), (0, .ref (g 0)), (1, .ref (g2 0))] := by subst hi0; exact hl
  have hik : i + k = 4 := by omega
  clear hi0 hk0 
  replace hres := hres
  replace hl : lv_has ls 3 [(2, .int (nI i)), (0, .ref (g 0)), (1, .ref (g2 0))] := hl
  induction k generalizing i ls  with
  | zero =>
    refine lv_iload_n hx hb d_Le_isLike_2 rfl (lv_at hl 0 rfl) ?_
    refine lv_iconst (v := 4) hx hb d_Le_isLike_3 (by decide) ?_
    refine lv_icmp_ge hx hb d_Le_isLike_4 rfl (fun _ => ?_) (fun h9 => absurd (nI_le (a := 4) (by omega) (by omega)) h9)
    refine lv_aload_n hx hb d_Le_isLike_30 rfl (lv_at hl 1 rfl) ?_
    refine va_get (D := (dC, dI)) (ci := 2) (v := .int (nI td)) (C := R_Le) (T := F_Le) (N := 5) hx hb hts u_Le hown hK hP 0 rfl rfl 3 (by decide) (hts _ kw_117) (fun _ h9 => h9) rfl d_Le_isLike_31 ?_
    refine lv_aload_n hx hb d_Le_isLike_34 rfl (lv_at hl 2 rfl) ?_
    refine va_get (D := (dC, dI)) (ci := 2) (v := .int (nI td2)) (C := R_Le) (T := F_Le) (N := 5) hx hb hts u_Le hown hK hP 13 rfl rfl 3 (by decide) (hts _ kw_117) (fun _ h9 => h9) rfl d_Le_isLike_35 ?_
    refine lv_icmp_ne hx hb d_Le_isLike_38 rfl (fun h38 => ?_) (fun h38 => ?_)
    · have h38 := mt (nI_eq (by omega) (by omega)).mpr h38
      refine lv_iconst (v := 0) hx hb d_Le_isLike_70 (by decide) ?_
      exact W.zret (v := 0) hx hb hr (by decide) (fun t ht hW => ⟨0, rfl, (lkF (fun q => h38 q.2.1)), ht⟩) (fun q h => nomatch h) d_Le_isLike_71
    have h38 := (nI_eq (by omega) (by omega)).mp h38
    refine lv_aload_n hx hb d_Le_isLike_41 rfl (lv_at hl 1 rfl) ?_
    refine va_get (D := (dC, dI)) (ci := 2) (v := .int (nI qd)) (C := R_Le) (T := F_Le) (N := 5) hx hb hts u_Le hown hK hP 0 rfl rfl 4 (by decide) (hts _ kw_119) (fun _ h9 => h9) rfl d_Le_isLike_42 ?_
    refine lv_aload_n hx hb d_Le_isLike_45 rfl (lv_at hl 2 rfl) ?_
    refine va_get (D := (dC, dI)) (ci := 2) (v := .int (nI qd2)) (C := R_Le) (T := F_Le) (N := 5) hx hb hts u_Le hown hK hP 13 rfl rfl 4 (by decide) (hts _ kw_119) (fun _ h9 => h9) rfl d_Le_isLike_46 ?_
    refine lv_icmp_ne hx hb d_Le_isLike_49 rfl (fun h49 => ?_) (fun h49 => ?_)
    · have h49 := mt (nI_eq (by omega) (by omega)).mpr h49
      refine lv_iconst (v := 0) hx hb d_Le_isLike_70 (by decide) ?_
      exact W.zret (v := 0) hx hb hr (by decide) (fun t ht hW => ⟨0, rfl, (lkF (fun q => h49 q.2.2.1)), ht⟩) (fun q h => nomatch h) d_Le_isLike_71
    have h49 := (nI_eq (by omega) (by omega)).mp h49
    refine lv_aload_n hx hb d_Le_isLike_52 rfl (lv_at hl 1 rfl) ?_
    refine va_get (D := (dC, dI)) (ci := 2) (v := .ref (g 3)) (C := R_Le) (T := F_Le) (N := 5) hx hb hts u_Le hown hK hP 0 rfl rfl 0 (by decide) (hts _ kw_112) (fun _ h9 => h9) rfl d_Le_isLike_53 ?_
    refine lv_aload_n hx hb d_Le_isLike_56 rfl (lv_at hl 2 rfl) ?_
    refine va_get (D := (dC, dI)) (ci := 2) (v := .ref (g2 3)) (C := R_Le) (T := F_Le) (N := 5) hx hb hts u_Le hown hK hP 13 rfl rfl 0 (by decide) (hts _ kw_112) (fun _ h9 => h9) rfl d_Le_isLike_57 ?_
    refine vp_callSi (W.runV (b := (g 3)) (As := [.ref (g2 3)]) (rest := []) ⟨hx, hb, hml, hown, hts⟩ (c_Re_areLike l dC dI cI (g 3) (fun k => g (4 + k)) X hX (g2 3) (fun k => g2 (4 + k)) Y hY) (cwV 1 hts (gV kw_195 kw_196 kw_197 kw_3 kw_198) rfl rfl rfl (by decide +kernel) ⟨Nat.le_of_ble_eq_true rfl, Nat.le_of_ble_eq_true rfl⟩) ⟨PcS.blind, va_recv (q0 := 0) hK (hP.sub (ws' := wRe cI (g 3) (fun k => g (4 + k)) X ++ wRe cI (g2 3) (fun k => g2 (4 + k)) Y) [3, 4, 5, 6, 7, 8, 9, 10, 11, 12, 16, 17, 18, 19, 20, 21, 22, 23, 24, 25] rfl) rfl rfl, PcS.use (hP.sub (ws' := wRe cI (g 3) (fun k => g (4 + k)) X ++ wRe cI (g2 3) (fun k => g2 (4 + k)) Y) [3, 4, 5, 6, 7, 8, 9, 10, 11, 12, 16, 17, 18, 19, 20, 21, 22, 23, 24, 25] rfl) hK hN⟩ rfl rfl hl.1 rfl (lv_room (Nat.le_of_ble_eq_true rfl)) d_Le_isLike_60 ⟨Nat.zero_le _, Nat.zero_le _⟩) (fun r60 hr60 => ?_)
    obtain rfl : r60 = bi (alB X Y) := hr60
    refine lv_if_eq hx hb d_Le_isLike_63 rfl (fun h63 => ?_) (fun h63 => ?_)
    · have h63 : alB X Y = false := bi_eq0.mp h63
      refine lv_iconst (v := 0) hx hb d_Le_isLike_70 (by decide) ?_
      exact W.zret (v := 0) hx hb hr (by decide) (fun t ht hW => ⟨0, rfl, (lkF (fun q => absurd (h63.symm.trans q.2.2.2) (by decide))), ht⟩) (fun q h => nomatch h) d_Le_isLike_71
    have h63 : alB X Y = true := bi_n0 h63
    refine lv_iconst (v := 1) hx hb d_Le_isLike_66 (by decide) ?_
    refine lv_goto hx hb d_Le_isLike_67 rfl ?_
    exact W.zret (v := 1) hx hb hr (by decide) (fun t ht hW => ⟨1, rfl, (lkT ⟨fun q hq => hres q (by omega), h38, h49, h63⟩), ht⟩) (fun q h => nomatch h) d_Le_isLike_71
  | succ k ih =>
    refine lv_iload_n hx hb d_Le_isLike_2 rfl (lv_at hl 0 rfl) ?_
    refine lv_iconst (v := 4) hx hb d_Le_isLike_3 (by decide) ?_
    refine lv_icmp_ge hx hb d_Le_isLike_4 rfl (fun h9 => absurd h9 (nI_ge (b := 4) (by omega) (by omega))) (fun _ => ?_)
    refine lv_aload_n hx hb d_Le_isLike_7 rfl (lv_at hl 1 rfl) ?_
    refine va_get (D := (dC, dI)) (ci := 2) (v := .ref (g 2)) (C := R_Le) (T := F_Le) (N := 5) hx hb hts u_Le hown hK hP 0 rfl rfl 2 (by decide) (hts _ kw_116) (fun _ h9 => h9) rfl d_Le_isLike_8 ?_
    refine lv_iload_n hx hb d_Le_isLike_11 rfl (lv_at hl 0 rfl) ?_
    refine x_iald (j := i) (v := (nI (pol i))) hx hb hK hP 2 0 rfl rfl (by omega) (by decide) rfl rfl d_Le_isLike_12 ?_
    refine lv_aload_n hx hb d_Le_isLike_13 rfl (lv_at hl 2 rfl) ?_
    refine va_get (D := (dC, dI)) (ci := 2) (v := .ref (g2 2)) (C := R_Le) (T := F_Le) (N := 5) hx hb hts u_Le hown hK hP 13 rfl rfl 2 (by decide) (hts _ kw_116) (fun _ h9 => h9) rfl d_Le_isLike_14 ?_
    refine lv_iload_n hx hb d_Le_isLike_17 rfl (lv_at hl 0 rfl) ?_
    refine x_iald (j := i) (v := (nI (pol2 i))) hx hb hK hP 15 0 rfl rfl (by omega) (by decide) rfl rfl d_Le_isLike_18 ?_
    refine lv_icmp_eq hx hb d_Le_isLike_19 rfl (fun h19 => ?_) (fun h19 => ?_)
    · have h19 := (nI_eq (by have := hpb i; omega) (by have := hpb i; omega)).mp h19
      refine lv_iinc hx hb d_Le_isLike_24 hl (k := 0) (v := (nI (i + 1))) rfl (nI_1 i) (by decide) rfl (fun ls hl => ?_)
      replace hl : lv_has ls 3 [(2, .int (nI (i + 1))), (0, .ref (g 0)), (1, .ref (g2 0))] := hl
      refine lv_goto hx hb d_Le_isLike_27 rfl ?_
      refine ih _ _ ?_ ?_ hl
      · omega
      · exact (fun q hq => if e9 : q < i then hres q e9 else (show q = i by omega) ▸ h19)
    have h19 := mt (nI_eq (by have := hpb i; omega) (by have := hpb i; omega)).mpr h19
    refine lv_iconst (v := 0) hx hb d_Le_isLike_22 (by decide) ?_
    exact W.zret (v := 0) hx hb hr (by decide) (fun t ht hW => ⟨0, rfl, (lkF (fun q => h19 (q.1 i (by omega)))), ht⟩) (fun q h => nomatch h) d_Le_isLike_23
