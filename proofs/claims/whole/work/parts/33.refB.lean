/-! scans -/
def lastF (P : Nat → Bool) : Nat → Nat → Option Nat → Option Nat
  | _, 0, a => a
  | i, k + 1, a => lastF P (i + 1) k (if P i = true then some i else a)
def sumF (f : Nat → Nat) : Nat → Nat → Nat → Nat
  | _, 0, a => a
  | i, k + 1, a => sumF f (i + 1) k (a + f i)
def anyF (P : Nat → Bool) : Nat → Nat → Bool → Bool
  | _, 0, a => a
  | i, k + 1, a => anyF P (i + 1) k (a || P i)
theorem sb_le (V : MS) (r : Nat) : sbN r ≤ ebN V r := by unfold sbN ebN; split <;> omega
theorem eb_le {V : MS} (hV : MSok V) (r : Nat) : ebN V r ≤ 400 := by
  have h0 := hV.mn 0
  have h1 := hV.mn 1
  unfold ebN; split <;> omega
def chP (V : MS) (r c : Nat) : Bool := decide (V.par c = some r ∧ V.sta c ≠ 4)
def tkP (V : MS) (r p n c : Nat) : Bool := decide (V.par c = some r ∧ V.sta c ≠ 4) && decide (mtM (V.pre c) (V.len c) p n)
def tkN (V : MS) (r p n : Nat) : Option Nat := lastF (tkP V r p n) (sbN r) (ebN V r - sbN r) none
theorem lastF_lt {P : Nat → Bool} {B : Nat} : ∀ (k i : Nat) (a : Option Nat), i + k ≤ B → (∀ j, a = some j → j < B) → ∀ j, lastF P i k a = some j → j < B
  | 0, _, _, _, ha, j, h => ha j h
  | k + 1, i, a, hk, ha, j, h => lastF_lt k (i + 1) _ (by omega) (fun z q => by
      by_cases hP : P i = true
      · rw [if_pos hP] at q; cases q; omega
      · rw [if_neg hP] at q; exact ha z q) j h
theorem tkN_lt {V : MS} (hV : MSok V) {r p n j : Nat} (h : tkN V r p n = some j) : j < 400 := by
  have h1 := sb_le V r
  have h2 := eb_le hV r
  exact lastF_lt _ _ _ (by omega) (fun z q => by cases q) j h
theorem pI_ge {o : Option Nat} (h : ∀ j, o = some j → j < 2147483648) : 0 ≤ pI o ↔ ¬ o = none := by
  cases o with
  | none => simp [pI]
  | some j =>
    have := h j rfl
    simp only [pI, reduceCtorEq, not_false_eq_true, iff_true]
    exact (k_0le (by omega)).mpr this
def usF (V : MS) (r c : Nat) : Nat := if V.par c = some r ∧ V.sta c ≠ 4 then 2 ^ (32 - V.len c) else 0
def usN (V : MS) (r : Nat) : Nat := sumF (usF V r) (sbN r) (ebN V r - sbN r) 0
def hlN (V : MS) (r : Nat) : Bool := anyF (chP V r) (sbN r) (ebN V r - sbN r) false
def bwN (V : MS) (b d x : Nat) (f : Bool) : Int32 := if x < V.mn d ∧ V.sta (b + x) = 1 then (if f = true then (if V.lev (b + x) = 4 then -6 else if V.mn d = 200 then -3 else 0) else -2) else -5
def bkN (V : MS) (b d x : Nat) : Nat := if x < V.mn d then (if (V.sta (b + x) = 1 ∨ V.sta (b + x) = 2) ∧ hlN V (b + x) = false then 0 else 2) else 1
set_option maxHeartbeats 4000000 in
set_option maxRecDepth 100000 in
theorem c_Mo_taker (l : Launch) (dC : Nat → ClassId) (dI : Nat → Nat → Nat) (cI : ClassId) (o : Nat) (a : Nat → Nat) (V : MS) (hV : MSok V) (r : Nat) (hr0 : r < 400) (p n : Nat) (hp : p < 4294967296) (hn : n < 33) : Met l y_Mo_taker (.code y_Mo_taker b_Mo_taker 6 (some .int) :: wG) ({ frames := 2, cells := 0, slots := 0, locals := 43 }) (PcS (dC, dI) [(cI, .int)] (wMo cI o a V) [.ref o, .int (nI r), .int (nI p), .int (nI n)]) (vp_Si (fun r9 => r9 = pI (tkN V r p n))) 0 0 (fun _ => False) := by
  refine Met.ofW (cc := b_Mo_taker) (maxL := 6) (ret := (some .int)) (by decide) rfl ?_
  intro pg eg s mg ag bg meth cg s₁ B hml hv
  obtain ⟨rfl, hP, hK, hN⟩ := hv
  have hx := B.exec
  have hb := B.bytes
  have hr := B.returns
  have hlocks := B.notSynchronized
  have hts : ∀ w9 ∈ wG, w9.before ([.ref o, .int (nI r), .int (nI p), .int (nI n)] : List Value).toArray s = true := fun w9 h9 => atoms_spec (ws := (.code y_Mo_taker b_Mo_taker 6 (some .int) :: wG)) B.pre w9 (List.mem_cons_of_mem _ h9)
  have hown : s.vm.findClass "PrefixRegistryModel" = some mg.cls := findClass_of_methodNamed B.named
  have hP : va_P (dC, dI) classes (wMo cI o a V) s.heap := hP
  have hl := lv_entry ([.ref o, .int (nI r), .int (nI p), .int (nI n)]) (n := 6) (Nat.le_of_ble_eq_true rfl)
  rw [lg_entry_eq]
  generalize (lg_sl ([.ref o, .int (nI r), .int (nI p), .int (nI n)]) ++ List.replicate (6 - (lg_sl ([.ref o, .int (nI r), .int (nI p), .int (nI n)])).length) Slot.unset).toArray = ls at hl ⊢
  replace hl : lv_has ls 6 [(0, .ref o), (1, .int (nI r)), (2, .int (nI p)), (3, .int (nI n))] := hl
  have hse := sb_le V r
  have hee := eb_le hV r
  refine lv_iconst (v := (-1)) hx hb d_Mo_taker_0 (by decide) ?_
  refine lv_istore hx hb d_Mo_taker_1 hl (by decide) rfl (fun ls hl => ?_)
  replace hl : lv_has ls 6 [(4, .int (-1)), (0, .ref o), (1, .int (nI r)), (2, .int (nI p)), (3, .int (nI n))] := hl
  refine lv_aload_n hx hb d_Mo_taker_3 rfl (lv_at hl 1 rfl) ?_
  refine lv_iload_n hx hb d_Mo_taker_4 rfl (lv_at hl 2 rfl) ?_
  refine vp_callSi (W.runV (b := o) (As := [.int (nI r)]) (rest := []) ⟨hx, hb, hml, hown, hts⟩ (c_Mo_startOf l dC dI cI o a V hV r hr0) (cwV 1 hts (gV kw_833 kw_835 ks_32 kw_6 kw_836) rfl rfl rfl (by decide +kernel) ⟨Nat.le_of_ble_eq_true rfl, Nat.le_of_ble_eq_true rfl⟩) ⟨PcS.blind, va_recv (q0 := 0) hK hP rfl rfl, PcS.use hP hK hN⟩ rfl rfl hl.1 rfl (lv_room (Nat.le_of_ble_eq_true rfl)) d_Mo_taker_5 ⟨Nat.zero_le _, Nat.zero_le _⟩) (fun r5 hr5 => ?_)
  obtain rfl : r5 = (nI (sbN r)) := hr5
  refine lv_istore hx hb d_Mo_taker_8 hl (by decide) rfl (fun ls hl => ?_)
  replace hl : lv_has ls 6 [(5, .int (nI (sbN r))), (4, .int (-1)), (0, .ref o), (1, .int (nI r)), (2, .int (nI p)), (3, .int (nI n))] := hl
  obtain ⟨i, hi0⟩ : ∃ i : Nat, i = sbN r := ⟨_, rfl⟩
  obtain ⟨k, hk0⟩ : ∃ k : Nat, k = ebN V r - sbN r := ⟨_, rfl⟩
  obtain ⟨ac, hac⟩ : ∃ ac : Option Nat, ac = none := ⟨_, rfl⟩
  have hres : lastF (tkP V r p n) i k ac = tkN V r p n := by rw [hi0, hk0, hac]; rfl
  replace hl : lv_has ls 6 [(5, .int (nI i)), (4, .int (pI ac)), (0, .ref o), (1, .int (nI r)), (2, .int (nI p)), (3, .int (nI n))] := by subst hi0; subst hac; exact hl
  have hik : i + k = ebN V r := by omega
  clear hi0 hk0 hac
  replace hres := hres
  replace hl : lv_has ls 6 [(5, .int (nI i)), (4, .int (pI ac)), (0, .ref o), (1, .int (nI r)), (2, .int (nI p)), (3, .int (nI n))] := hl
  induction k generalizing i ls ac with
  | zero =>
    refine lv_iload hx hb d_Mo_taker_10 (lv_at hl 0 rfl) ?_
    refine lv_aload_n hx hb d_Mo_taker_12 rfl (lv_at hl 2 rfl) ?_
    refine lv_iload_n hx hb d_Mo_taker_13 rfl (lv_at hl 3 rfl) ?_
    refine vp_callSi (W.runV (b := o) (As := [.int (nI r)]) (rest := [.int (nI i)]) ⟨hx, hb, hml, hown, hts⟩ (c_Mo_endOf l dC dI cI o a V hV r hr0) (cwV 1 hts (gV kw_837 kw_839 ks_33 kw_6 kw_840) rfl rfl rfl (by decide +kernel) ⟨Nat.le_of_ble_eq_true rfl, Nat.le_of_ble_eq_true rfl⟩) ⟨PcS.blind, va_recv (q0 := 0) hK hP rfl rfl, PcS.use hP hK hN⟩ rfl rfl hl.1 rfl (lv_room (Nat.le_of_ble_eq_true rfl)) d_Mo_taker_14 ⟨Nat.zero_le _, Nat.zero_le _⟩) (fun r14 hr14 => ?_)
    obtain rfl : r14 = (nI (ebN V r)) := hr14
    refine lv_icmp_ge hx hb d_Mo_taker_17 rfl (fun _ => ?_) (fun h9 => absurd (nI_le (by omega) (by omega)) h9)
    refine lv_iload hx hb d_Mo_taker_67 (lv_at hl 1 rfl) ?_
    exact W.iret (v := (pI ac)) hx hb hr (fun t ht hW => ⟨(pI ac), rfl, (by rw [← hres]; rfl), ht⟩) (fun q h => nomatch h) d_Mo_taker_69
  | succ k ih =>
    refine lv_iload hx hb d_Mo_taker_10 (lv_at hl 0 rfl) ?_
    refine lv_aload_n hx hb d_Mo_taker_12 rfl (lv_at hl 2 rfl) ?_
    refine lv_iload_n hx hb d_Mo_taker_13 rfl (lv_at hl 3 rfl) ?_
    refine vp_callSi (W.runV (b := o) (As := [.int (nI r)]) (rest := [.int (nI i)]) ⟨hx, hb, hml, hown, hts⟩ (c_Mo_endOf l dC dI cI o a V hV r hr0) (cwV 1 hts (gV kw_837 kw_839 ks_33 kw_6 kw_840) rfl rfl rfl (by decide +kernel) ⟨Nat.le_of_ble_eq_true rfl, Nat.le_of_ble_eq_true rfl⟩) ⟨PcS.blind, va_recv (q0 := 0) hK hP rfl rfl, PcS.use hP hK hN⟩ rfl rfl hl.1 rfl (lv_room (Nat.le_of_ble_eq_true rfl)) d_Mo_taker_14 ⟨Nat.zero_le _, Nat.zero_le _⟩) (fun r14 hr14 => ?_)
    obtain rfl : r14 = (nI (ebN V r)) := hr14
    refine lv_icmp_ge hx hb d_Mo_taker_17 rfl (fun h9 => absurd h9 (nI_ge (by omega) (by omega))) (fun _ => ?_)
    refine lv_aload_n hx hb d_Mo_taker_20 rfl (lv_at hl 2 rfl) ?_
    refine lv_iload hx hb d_Mo_taker_21 (lv_at hl 0 rfl) ?_
    refine lv_iload_n hx hb d_Mo_taker_23 rfl (lv_at hl 3 rfl) ?_
    refine vp_callSi (W.runV (b := o) (As := [.int (nI i), .int (nI r)]) (rest := []) ⟨hx, hb, hml, hown, hts⟩ (c_Mo_isChild l dC dI cI o a V hV i r (by omega) hr0) (cwV 2 hts (gV kw_841 kw_843 ks_34 kw_6 kw_844) rfl rfl rfl (by decide +kernel) ⟨Nat.le_of_ble_eq_true rfl, Nat.le_of_ble_eq_true rfl⟩) ⟨PcS.blind, va_recv (q0 := 0) hK hP rfl rfl, PcS.use hP hK hN⟩ rfl rfl hl.1 rfl (lv_room (Nat.le_of_ble_eq_true rfl)) d_Mo_taker_24 ⟨Nat.zero_le _, Nat.zero_le _⟩) (fun r24 hr24 => ?_)
    obtain rfl : r24 = bi (decide (V.par i = some r ∧ V.sta i ≠ 4)) := hr24
    refine lv_if_eq hx hb d_Mo_taker_27 rfl (fun h27 => ?_) (fun h27 => ?_)
    · have h27 := bi_d.mp h27
      refine lv_iload hx hb d_Mo_taker_57 (lv_at hl 1 rfl) ?_
      refine lv_istore hx hb d_Mo_taker_59 hl (by decide) rfl (fun ls hl => ?_)
      replace hl : lv_has ls 6 [(4, .int (pI ac)), (5, .int (nI i)), (0, .ref o), (1, .int (nI r)), (2, .int (nI p)), (3, .int (nI n))] := hl
      refine lv_iinc hx hb d_Mo_taker_61 hl (k := 1) (v := (nI (i + 1))) rfl (nI_1 i) (by decide) rfl (fun ls hl => ?_)
      replace hl : lv_has ls 6 [(5, .int (nI (i + 1))), (4, .int (pI ac)), (0, .ref o), (1, .int (nI r)), (2, .int (nI p)), (3, .int (nI n))] := hl
      refine lv_goto hx hb d_Mo_taker_64 rfl ?_
      refine ih _ _ _ ?_ ?_ hl
      · omega
      · exact (by rw [← hres]; simp only [lastF]; rw [if_neg (by unfold tkP; simp only [Bool.and_eq_true, decide_eq_true_eq]; exact fun q => h27 q.1)])
    have h27 := Decidable.not_not.mp (mt bi_d.mpr h27)
    refine lv_aload_n hx hb d_Mo_taker_30 rfl (lv_at hl 2 rfl) ?_
    refine va_get (D := (dC, dI)) (ci := 5) (v := .ref (a 1)) (C := R_Mo) (T := F_Mo) (N := 19) hx hb hts u_Mo hown hK hP 0 rfl rfl 2 (by decide) (hts _ kw_716) (fun _ h9 => h9) rfl d_Mo_taker_31 ?_
    refine lv_iload hx hb d_Mo_taker_34 (lv_at hl 0 rfl) ?_
    refine x_iald (j := i) (v := (nI (V.pre i))) hx hb hK hP 2 0 rfl rfl (by omega) (by decide) rfl rfl d_Mo_taker_36 ?_
    refine lv_aload_n hx hb d_Mo_taker_37 rfl (lv_at hl 2 rfl) ?_
    refine va_get (D := (dC, dI)) (ci := 5) (v := .ref (a 2)) (C := R_Mo) (T := F_Mo) (N := 19) hx hb hts u_Mo hown hK hP 0 rfl rfl 3 (by decide) (hts _ kw_717) (fun _ h9 => h9) rfl d_Mo_taker_38 ?_
    refine lv_iload hx hb d_Mo_taker_41 (lv_at hl 0 rfl) ?_
    refine x_iald (j := i) (v := (nI (V.len i))) hx hb hK hP 3 0 rfl rfl (by omega) (by decide) rfl rfl d_Mo_taker_43 ?_
    refine lv_iload_n hx hb d_Mo_taker_44 rfl (lv_at hl 4 rfl) ?_
    refine lv_iload_n hx hb d_Mo_taker_45 rfl (lv_at hl 5 rfl) ?_
    refine vp_callSi (W.runS (As := [.int (nI (V.pre i)), .int (nI (V.len i)), .int (nI p), .int (nI n)]) (rest := []) ⟨hx, hb, hml, hown, hts⟩ (c_Mo_meets l dC dI (V.pre i) (V.len i) p n (hV.pre i) (hV.len i) hp hn) (cwS 4 hts (gS kw_794 kw_795 kw_6 kw_796) rfl rfl rfl (by decide +kernel) ⟨Nat.le_of_ble_eq_true rfl, Nat.le_of_ble_eq_true rfl⟩) ⟨PcS.blind, PcS.use hP hK hN⟩ rfl rfl hl.1 rfl (lv_room (Nat.le_of_ble_eq_true rfl)) d_Mo_taker_46 ⟨Nat.zero_le _, Nat.zero_le _⟩) (fun r46 hr46 => ?_)
    obtain rfl : r46 = bi (decide (mtM (V.pre i) (V.len i) p n)) := hr46
    refine lv_if_eq hx hb d_Mo_taker_49 rfl (fun h49 => ?_) (fun h49 => ?_)
    · have h49 := bi_d.mp h49
      refine lv_iload hx hb d_Mo_taker_57 (lv_at hl 1 rfl) ?_
      refine lv_istore hx hb d_Mo_taker_59 hl (by decide) rfl (fun ls hl => ?_)
      replace hl : lv_has ls 6 [(4, .int (pI ac)), (5, .int (nI i)), (0, .ref o), (1, .int (nI r)), (2, .int (nI p)), (3, .int (nI n))] := hl
      refine lv_iinc hx hb d_Mo_taker_61 hl (k := 1) (v := (nI (i + 1))) rfl (nI_1 i) (by decide) rfl (fun ls hl => ?_)
      replace hl : lv_has ls 6 [(5, .int (nI (i + 1))), (4, .int (pI ac)), (0, .ref o), (1, .int (nI r)), (2, .int (nI p)), (3, .int (nI n))] := hl
      refine lv_goto hx hb d_Mo_taker_64 rfl ?_
      refine ih _ _ _ ?_ ?_ hl
      · omega
      · exact (by rw [← hres]; simp only [lastF]; rw [if_neg (by unfold tkP; simp only [Bool.and_eq_true, decide_eq_true_eq]; exact fun q => h49 q.2)])
    have h49 := Decidable.not_not.mp (mt bi_d.mpr h49)
    refine lv_iload hx hb d_Mo_taker_52 (lv_at hl 0 rfl) ?_
    refine x_topi (y := (pI (some i))) rfl ?_
    refine lv_goto hx hb d_Mo_taker_54 rfl ?_
    refine lv_istore hx hb d_Mo_taker_59 hl (by decide) rfl (fun ls hl => ?_)
    replace hl : lv_has ls 6 [(4, .int (pI (some i))), (5, .int (nI i)), (0, .ref o), (1, .int (nI r)), (2, .int (nI p)), (3, .int (nI n))] := hl
    refine lv_iinc hx hb d_Mo_taker_61 hl (k := 1) (v := (nI (i + 1))) rfl (nI_1 i) (by decide) rfl (fun ls hl => ?_)
    replace hl : lv_has ls 6 [(5, .int (nI (i + 1))), (4, .int (pI (some i))), (0, .ref o), (1, .int (nI r)), (2, .int (nI p)), (3, .int (nI n))] := hl
    refine lv_goto hx hb d_Mo_taker_64 rfl ?_
    refine ih _ _ _ ?_ ?_ hl
    · omega
    · exact (by rw [← hres]; simp only [lastF]; rw [if_pos (by unfold tkP; simp only [Bool.and_eq_true, decide_eq_true_eq]; exact ⟨h27, h49⟩)])
set_option maxHeartbeats 4000000 in
set_option maxRecDepth 100000 in
theorem c_Mo_isFree (l : Launch) (dC : Nat → ClassId) (dI : Nat → Nat → Nat) (cI : ClassId) (o : Nat) (a : Nat → Nat) (V : MS) (hV : MSok V) (r : Nat) (hr0 : r < 400) (p n : Nat) (hp : p < 4294967296) (hn : n < 33) : Met l y_Mo_isFree (.code y_Mo_isFree b_Mo_isFree 4 (some .boolean) :: wG) ({ frames := 3, cells := 0, slots := 0, locals := 68 }) (PcS (dC, dI) [(cI, .int)] (wMo cI o a V) [.ref o, .int (nI r), .int (nI p), .int (nI n)]) (vp_Si (fun r9 => r9 = bi (decide (V.len r ≤ n ∧ mtM p n (V.pre r) (V.len r) ∧ tkN V r p n = none)))) 0 0 (fun _ => False) := by
  refine Met.ofW (cc := b_Mo_isFree) (maxL := 4) (ret := (some .boolean)) (by decide) rfl ?_
  intro pg eg s mg ag bg meth cg s₁ B hml hv
  obtain ⟨rfl, hP, hK, hN⟩ := hv
  have hx := B.exec
  have hb := B.bytes
  have hr := B.returns
  have hlocks := B.notSynchronized
  have hts : ∀ w9 ∈ wG, w9.before ([.ref o, .int (nI r), .int (nI p), .int (nI n)] : List Value).toArray s = true := fun w9 h9 => atoms_spec (ws := (.code y_Mo_isFree b_Mo_isFree 4 (some .boolean) :: wG)) B.pre w9 (List.mem_cons_of_mem _ h9)
  have hown : s.vm.findClass "PrefixRegistryModel" = some mg.cls := findClass_of_methodNamed B.named
  have hP : va_P (dC, dI) classes (wMo cI o a V) s.heap := hP
  have hl := lv_entry ([.ref o, .int (nI r), .int (nI p), .int (nI n)]) (n := 4) (Nat.le_of_ble_eq_true rfl)
  rw [lg_entry_eq]
  generalize (lg_sl ([.ref o, .int (nI r), .int (nI p), .int (nI n)]) ++ List.replicate (4 - (lg_sl ([.ref o, .int (nI r), .int (nI p), .int (nI n)])).length) Slot.unset).toArray = ls at hl ⊢
  replace hl : lv_has ls 4 [(0, .ref o), (1, .int (nI r)), (2, .int (nI p)), (3, .int (nI n))] := hl
  refine lv_iload_n hx hb d_Mo_isFree_0 rfl (lv_at hl 3 rfl) ?_
  refine lv_aload_n hx hb d_Mo_isFree_1 rfl (lv_at hl 0 rfl) ?_
  refine va_get (D := (dC, dI)) (ci := 5) (v := .ref (a 2)) (C := R_Mo) (T := F_Mo) (N := 19) hx hb hts u_Mo hown hK hP 0 rfl rfl 3 (by decide) (hts _ kw_717) (fun _ h9 => h9) rfl d_Mo_isFree_2 ?_
  refine lv_iload_n hx hb d_Mo_isFree_5 rfl (lv_at hl 1 rfl) ?_
  refine x_iald (j := r) (v := (nI (V.len r))) hx hb hK hP 3 0 rfl rfl hr0 (by decide) rfl rfl d_Mo_isFree_6 ?_
  refine lv_icmp_lt hx hb d_Mo_isFree_7 rfl (fun h7 => ?_) (fun h7 => ?_)
  · have h7 := (nI_ltI (by omega) (by have := hV.len r; omega)).mp h7
    refine lv_iconst (v := 0) hx hb d_Mo_isFree_44 (by decide) ?_
    exact W.zret (v := 0) hx hb hr (by decide) (fun t ht hW => ⟨0, rfl, (bF (fun q => by omega)), ht⟩) (fun q h => nomatch h) d_Mo_isFree_45
  have h7 := mt (nI_ltI (by omega) (by have := hV.len r; omega)).mpr h7
  refine lv_iload_n hx hb d_Mo_isFree_10 rfl (lv_at hl 2 rfl) ?_
  refine lv_iload_n hx hb d_Mo_isFree_11 rfl (lv_at hl 3 rfl) ?_
  refine lv_aload_n hx hb d_Mo_isFree_12 rfl (lv_at hl 0 rfl) ?_
  refine va_get (D := (dC, dI)) (ci := 5) (v := .ref (a 1)) (C := R_Mo) (T := F_Mo) (N := 19) hx hb hts u_Mo hown hK hP 0 rfl rfl 2 (by decide) (hts _ kw_716) (fun _ h9 => h9) rfl d_Mo_isFree_13 ?_
  refine lv_iload_n hx hb d_Mo_isFree_16 rfl (lv_at hl 1 rfl) ?_
  refine x_iald (j := r) (v := (nI (V.pre r))) hx hb hK hP 2 0 rfl rfl hr0 (by decide) rfl rfl d_Mo_isFree_17 ?_
  refine lv_aload_n hx hb d_Mo_isFree_18 rfl (lv_at hl 0 rfl) ?_
  refine va_get (D := (dC, dI)) (ci := 5) (v := .ref (a 2)) (C := R_Mo) (T := F_Mo) (N := 19) hx hb hts u_Mo hown hK hP 0 rfl rfl 3 (by decide) (hts _ kw_717) (fun _ h9 => h9) rfl d_Mo_isFree_19 ?_
  refine lv_iload_n hx hb d_Mo_isFree_22 rfl (lv_at hl 1 rfl) ?_
  refine x_iald (j := r) (v := (nI (V.len r))) hx hb hK hP 3 0 rfl rfl hr0 (by decide) rfl rfl d_Mo_isFree_23 ?_
  refine vp_callSi (W.runS (As := [.int (nI p), .int (nI n), .int (nI (V.pre r)), .int (nI (V.len r))]) (rest := []) ⟨hx, hb, hml, hown, hts⟩ (c_Mo_meets l dC dI p n (V.pre r) (V.len r) hp hn (hV.pre r) (hV.len r)) (cwS 4 hts (gS kw_794 kw_795 kw_6 kw_796) rfl rfl rfl (by decide +kernel) ⟨Nat.le_of_ble_eq_true rfl, Nat.le_of_ble_eq_true rfl⟩) ⟨PcS.blind, PcS.use hP hK hN⟩ rfl rfl hl.1 rfl (lv_room (Nat.le_of_ble_eq_true rfl)) d_Mo_isFree_24 ⟨Nat.zero_le _, Nat.zero_le _⟩) (fun r24 hr24 => ?_)
  obtain rfl : r24 = bi (decide (mtM p n (V.pre r) (V.len r))) := hr24
  refine lv_if_eq hx hb d_Mo_isFree_27 rfl (fun h27 => ?_) (fun h27 => ?_)
  · have h27 := bi_d.mp h27
    refine lv_iconst (v := 0) hx hb d_Mo_isFree_44 (by decide) ?_
    exact W.zret (v := 0) hx hb hr (by decide) (fun t ht hW => ⟨0, rfl, (bF (fun q => h27 q.2.1)), ht⟩) (fun q h => nomatch h) d_Mo_isFree_45
  have h27 := Decidable.not_not.mp (mt bi_d.mpr h27)
  refine lv_aload_n hx hb d_Mo_isFree_30 rfl (lv_at hl 0 rfl) ?_
  refine lv_iload_n hx hb d_Mo_isFree_31 rfl (lv_at hl 1 rfl) ?_
  refine lv_iload_n hx hb d_Mo_isFree_32 rfl (lv_at hl 2 rfl) ?_
  refine lv_iload_n hx hb d_Mo_isFree_33 rfl (lv_at hl 3 rfl) ?_
  refine vp_callSi (W.runV (b := o) (As := [.int (nI r), .int (nI p), .int (nI n)]) (rest := []) ⟨hx, hb, hml, hown, hts⟩ (c_Mo_taker l dC dI cI o a V hV r hr0 p n hp hn) (cwV 3 hts (gV kw_863 kw_865 ks_38 kw_6 kw_866) rfl rfl rfl (by decide +kernel) ⟨Nat.le_of_ble_eq_true rfl, Nat.le_of_ble_eq_true rfl⟩) ⟨PcS.blind, va_recv (q0 := 0) hK hP rfl rfl, PcS.use hP hK hN⟩ rfl rfl hl.1 rfl (lv_room (Nat.le_of_ble_eq_true rfl)) d_Mo_isFree_34 ⟨Nat.zero_le _, Nat.zero_le _⟩) (fun r34 hr34 => ?_)
  obtain rfl : r34 = (pI (tkN V r p n)) := hr34
  refine lv_if_ge hx hb d_Mo_isFree_37 rfl (fun h37 => ?_) (fun h37 => ?_)
  · have h37 := (pI_ge (fun j q => by have := tkN_lt hV q; omega)).mp h37
    refine lv_iconst (v := 0) hx hb d_Mo_isFree_44 (by decide) ?_
    exact W.zret (v := 0) hx hb hr (by decide) (fun t ht hW => ⟨0, rfl, (bF (fun q => h37 q.2.2)), ht⟩) (fun q h => nomatch h) d_Mo_isFree_45
  have h37 := mt (pI_ge (fun j q => by have := tkN_lt hV q; omega)).mpr h37
  refine lv_iconst (v := 1) hx hb d_Mo_isFree_40 (by decide) ?_
  refine lv_goto hx hb d_Mo_isFree_41 rfl ?_
  exact W.zret (v := 1) hx hb hr (by decide) (fun t ht hW => ⟨1, rfl, (bT ⟨by omega, h27, Decidable.not_not.mp h37⟩), ht⟩) (fun q h => nomatch h) d_Mo_isFree_45
set_option maxHeartbeats 4000000 in
set_option maxRecDepth 100000 in
theorem c_Mo_usedOf (l : Launch) (dC : Nat → ClassId) (dI : Nat → Nat → Nat) (cI : ClassId) (o : Nat) (a : Nat → Nat) (V : MS) (hV : MSok V) (r : Nat) (hr0 : r < 400) : Met l y_Mo_usedOf (.code y_Mo_usedOf b_Mo_usedOf 5 (some .long) :: wG) ({ frames := 2, cells := 0, slots := 0, locals := 43 }) (PcS (dC, dI) [(cI, .int)] (wMo cI o a V) [.ref o, .int (nI r)]) (vp_Sl (fun r9 => r9 = lN (usN V r))) 0 0 (fun _ => False) := by
  refine Met.ofW (cc := b_Mo_usedOf) (maxL := 5) (ret := (some .long)) (by decide) rfl ?_
  intro pg eg s mg ag bg meth cg s₁ B hml hv
  obtain ⟨rfl, hP, hK, hN⟩ := hv
  have hx := B.exec
  have hb := B.bytes
  have hr := B.returns
  have hlocks := B.notSynchronized
  have hts : ∀ w9 ∈ wG, w9.before ([.ref o, .int (nI r)] : List Value).toArray s = true := fun w9 h9 => atoms_spec (ws := (.code y_Mo_usedOf b_Mo_usedOf 5 (some .long) :: wG)) B.pre w9 (List.mem_cons_of_mem _ h9)
  have hown : s.vm.findClass "PrefixRegistryModel" = some mg.cls := findClass_of_methodNamed B.named
  have hP : va_P (dC, dI) classes (wMo cI o a V) s.heap := hP
  have hl := lv_entry ([.ref o, .int (nI r)]) (n := 5) (Nat.le_of_ble_eq_true rfl)
  rw [lg_entry_eq]
  generalize (lg_sl ([.ref o, .int (nI r)]) ++ List.replicate (5 - (lg_sl ([.ref o, .int (nI r)])).length) Slot.unset).toArray = ls at hl ⊢
  replace hl : lv_has ls 5 [(0, .ref o), (1, .int (nI r))] := hl
  have hse := sb_le V r
  have hee := eb_le hV r
  refine lv_lconst (v := 0) hx hb d_Mo_usedOf_0 (by decide) ?_
  refine lv_lstore_n hx hb d_Mo_usedOf_1 rfl hl (by decide) rfl (fun ls hl => ?_)
  replace hl : lv_has ls 5 [(2, .long 0), (0, .ref o), (1, .int (nI r))] := hl
  refine lv_aload_n hx hb d_Mo_usedOf_2 rfl (lv_at hl 1 rfl) ?_
  refine lv_iload_n hx hb d_Mo_usedOf_3 rfl (lv_at hl 2 rfl) ?_
  refine vp_callSi (W.runV (b := o) (As := [.int (nI r)]) (rest := []) ⟨hx, hb, hml, hown, hts⟩ (c_Mo_startOf l dC dI cI o a V hV r hr0) (cwV 1 hts (gV kw_833 kw_835 ks_32 kw_6 kw_836) rfl rfl rfl (by decide +kernel) ⟨Nat.le_of_ble_eq_true rfl, Nat.le_of_ble_eq_true rfl⟩) ⟨PcS.blind, va_recv (q0 := 0) hK hP rfl rfl, PcS.use hP hK hN⟩ rfl rfl hl.1 rfl (lv_room (Nat.le_of_ble_eq_true rfl)) d_Mo_usedOf_4 ⟨Nat.zero_le _, Nat.zero_le _⟩) (fun r4 hr4 => ?_)
  obtain rfl : r4 = (nI (sbN r)) := hr4
  refine lv_istore hx hb d_Mo_usedOf_7 hl (by decide) rfl (fun ls hl => ?_)
  replace hl : lv_has ls 5 [(4, .int (nI (sbN r))), (2, .long 0), (0, .ref o), (1, .int (nI r))] := hl
  obtain ⟨i, hi0⟩ : ∃ i : Nat, i = sbN r := ⟨_, rfl⟩
  obtain ⟨k, hk0⟩ : ∃ k : Nat, k = ebN V r - sbN r := ⟨_, rfl⟩
  obtain ⟨ac, hac⟩ : ∃ ac : Nat, ac = 0 := ⟨_, rfl⟩
  have hres : sumF (usF V r) i k ac = usN V r := by rw [hi0, hk0, hac]; rfl
  replace hl : lv_has ls 5 [(4, .int (nI i)), (2, .long (lN ac)), (0, .ref o), (1, .int (nI r))] := by subst hi0; subst hac; exact hl
  have hik : i + k = ebN V r := by omega
  clear hi0 hk0 hac
  replace hres := hres
  replace hl : lv_has ls 5 [(4, .int (nI i)), (2, .long (lN ac)), (0, .ref o), (1, .int (nI r))] := hl
  induction k generalizing i ls ac with
  | zero =>
    refine lv_iload hx hb d_Mo_usedOf_9 (lv_at hl 0 rfl) ?_
    refine lv_aload_n hx hb d_Mo_usedOf_11 rfl (lv_at hl 2 rfl) ?_
    refine lv_iload_n hx hb d_Mo_usedOf_12 rfl (lv_at hl 3 rfl) ?_
    refine vp_callSi (W.runV (b := o) (As := [.int (nI r)]) (rest := [.int (nI i)]) ⟨hx, hb, hml, hown, hts⟩ (c_Mo_endOf l dC dI cI o a V hV r hr0) (cwV 1 hts (gV kw_837 kw_839 ks_33 kw_6 kw_840) rfl rfl rfl (by decide +kernel) ⟨Nat.le_of_ble_eq_true rfl, Nat.le_of_ble_eq_true rfl⟩) ⟨PcS.blind, va_recv (q0 := 0) hK hP rfl rfl, PcS.use hP hK hN⟩ rfl rfl hl.1 rfl (lv_room (Nat.le_of_ble_eq_true rfl)) d_Mo_usedOf_13 ⟨Nat.zero_le _, Nat.zero_le _⟩) (fun r13 hr13 => ?_)
    obtain rfl : r13 = (nI (ebN V r)) := hr13
    refine lv_icmp_ge hx hb d_Mo_usedOf_16 rfl (fun _ => ?_) (fun h9 => absurd (nI_le (by omega) (by omega)) h9)
    refine lv_lload_n hx hb d_Mo_usedOf_52 rfl (lv_at hl 1 rfl) ?_
    exact W.lret (v := (lN ac)) hx hb hr (fun t ht hW => ⟨(lN ac), rfl, (by rw [← hres]; rfl), ht⟩) (fun q h => nomatch h) d_Mo_usedOf_53
  | succ k ih =>
    refine lv_iload hx hb d_Mo_usedOf_9 (lv_at hl 0 rfl) ?_
    refine lv_aload_n hx hb d_Mo_usedOf_11 rfl (lv_at hl 2 rfl) ?_
    refine lv_iload_n hx hb d_Mo_usedOf_12 rfl (lv_at hl 3 rfl) ?_
    refine vp_callSi (W.runV (b := o) (As := [.int (nI r)]) (rest := [.int (nI i)]) ⟨hx, hb, hml, hown, hts⟩ (c_Mo_endOf l dC dI cI o a V hV r hr0) (cwV 1 hts (gV kw_837 kw_839 ks_33 kw_6 kw_840) rfl rfl rfl (by decide +kernel) ⟨Nat.le_of_ble_eq_true rfl, Nat.le_of_ble_eq_true rfl⟩) ⟨PcS.blind, va_recv (q0 := 0) hK hP rfl rfl, PcS.use hP hK hN⟩ rfl rfl hl.1 rfl (lv_room (Nat.le_of_ble_eq_true rfl)) d_Mo_usedOf_13 ⟨Nat.zero_le _, Nat.zero_le _⟩) (fun r13 hr13 => ?_)
    obtain rfl : r13 = (nI (ebN V r)) := hr13
    refine lv_icmp_ge hx hb d_Mo_usedOf_16 rfl (fun h9 => absurd h9 (nI_ge (by omega) (by omega))) (fun _ => ?_)
    refine lv_lload_n hx hb d_Mo_usedOf_19 rfl (lv_at hl 1 rfl) ?_
    refine lv_aload_n hx hb d_Mo_usedOf_20 rfl (lv_at hl 2 rfl) ?_
    refine lv_iload hx hb d_Mo_usedOf_21 (lv_at hl 0 rfl) ?_
    refine lv_iload_n hx hb d_Mo_usedOf_23 rfl (lv_at hl 3 rfl) ?_
    refine vp_callSi (W.runV (b := o) (As := [.int (nI i), .int (nI r)]) (rest := [.long (lN ac)]) ⟨hx, hb, hml, hown, hts⟩ (c_Mo_isChild l dC dI cI o a V hV i r (by omega) hr0) (cwV 2 hts (gV kw_841 kw_843 ks_34 kw_6 kw_844) rfl rfl rfl (by decide +kernel) ⟨Nat.le_of_ble_eq_true rfl, Nat.le_of_ble_eq_true rfl⟩) ⟨PcS.blind, va_recv (q0 := 0) hK hP rfl rfl, PcS.use hP hK hN⟩ rfl rfl hl.1 rfl (lv_room (Nat.le_of_ble_eq_true rfl)) d_Mo_usedOf_24 ⟨Nat.zero_le _, Nat.zero_le _⟩) (fun r24 hr24 => ?_)
    obtain rfl : r24 = bi (decide (V.par i = some r ∧ V.sta i ≠ 4)) := hr24
    refine lv_if_eq hx hb d_Mo_usedOf_27 rfl (fun h27 => ?_) (fun h27 => ?_)
    · have h27 := bi_d.mp h27
      refine lv_lconst (v := 0) hx hb d_Mo_usedOf_43 (by decide) ?_
      refine lv_ladd hx hb d_Mo_usedOf_44 ?_
      refine x_topl (y := (lN ac)) (lN_add _ 0) ?_
      refine lv_lstore_n hx hb d_Mo_usedOf_45 rfl hl (by decide) rfl (fun ls hl => ?_)
      replace hl : lv_has ls 5 [(2, .long (lN ac)), (4, .int (nI i)), (0, .ref o), (1, .int (nI r))] := hl
      refine lv_iinc hx hb d_Mo_usedOf_46 hl (k := 1) (v := (nI (i + 1))) rfl (nI_1 i) (by decide) rfl (fun ls hl => ?_)
      replace hl : lv_has ls 5 [(4, .int (nI (i + 1))), (2, .long (lN ac)), (0, .ref o), (1, .int (nI r))] := hl
      refine lv_goto hx hb d_Mo_usedOf_49 rfl ?_
      refine ih _ _ _ ?_ ?_ hl
      · omega
      · exact (by rw [← hres]; simp only [sumF, usF]; rw [if_neg h27]; rfl)
    have h27 := Decidable.not_not.mp (mt bi_d.mpr h27)
    refine lv_aload_n hx hb d_Mo_usedOf_30 rfl (lv_at hl 2 rfl) ?_
    refine va_get (D := (dC, dI)) (ci := 5) (v := .ref (a 2)) (C := R_Mo) (T := F_Mo) (N := 19) hx hb hts u_Mo hown hK hP 0 rfl rfl 3 (by decide) (hts _ kw_717) (fun _ h9 => h9) rfl d_Mo_usedOf_31 ?_
    refine lv_iload hx hb d_Mo_usedOf_34 (lv_at hl 0 rfl) ?_
    refine x_iald (j := i) (v := (nI (V.len i))) hx hb hK hP 3 0 rfl rfl (by omega) (by decide) rfl rfl d_Mo_usedOf_36 ?_
    refine vp_callSl (W.runS (As := [.int (nI (V.len i))]) (rest := [.long (lN ac)]) ⟨hx, hb, hml, hown, hts⟩ (c_Mo_sizeOf l dC dI (V.len i) (hV.len i)) (cwS 1 hts (gS kw_845 kw_846 kw_6 kw_847) rfl rfl rfl (by decide +kernel) ⟨Nat.le_of_ble_eq_true rfl, Nat.le_of_ble_eq_true rfl⟩) ⟨PcS.blind, PcS.use hP hK hN⟩ rfl rfl hl.1 rfl (lv_room (Nat.le_of_ble_eq_true rfl)) d_Mo_usedOf_37 ⟨Nat.zero_le _, Nat.zero_le _⟩) (fun r37 hr37 => ?_)
    obtain rfl : r37 = (lN (2 ^ (32 - (V.len i)))) := hr37
    refine lv_goto hx hb d_Mo_usedOf_40 rfl ?_
    refine lv_ladd hx hb d_Mo_usedOf_44 ?_
    refine x_topl (y := (lN (ac + 2 ^ (32 - V.len i)))) (lN_add _ _) ?_
    refine lv_lstore_n hx hb d_Mo_usedOf_45 rfl hl (by decide) rfl (fun ls hl => ?_)
    replace hl : lv_has ls 5 [(2, .long (lN (ac + 2 ^ (32 - V.len i)))), (4, .int (nI i)), (0, .ref o), (1, .int (nI r))] := hl
    refine lv_iinc hx hb d_Mo_usedOf_46 hl (k := 1) (v := (nI (i + 1))) rfl (nI_1 i) (by decide) rfl (fun ls hl => ?_)
    replace hl : lv_has ls 5 [(4, .int (nI (i + 1))), (2, .long (lN (ac + 2 ^ (32 - V.len i)))), (0, .ref o), (1, .int (nI r))] := hl
    refine lv_goto hx hb d_Mo_usedOf_49 rfl ?_
    refine ih _ _ _ ?_ ?_ hl
    · omega
    · exact (by rw [← hres]; simp only [sumF, usF]; rw [if_pos h27])
set_option maxHeartbeats 4000000 in
set_option maxRecDepth 100000 in
theorem c_Mo_hasLive (l : Launch) (dC : Nat → ClassId) (dI : Nat → Nat → Nat) (cI : ClassId) (o : Nat) (a : Nat → Nat) (V : MS) (hV : MSok V) (r : Nat) (hr0 : r < 400) : Met l y_Mo_hasLive (.code y_Mo_hasLive b_Mo_hasLive 4 (some .boolean) :: wG) ({ frames := 2, cells := 0, slots := 0, locals := 43 }) (PcS (dC, dI) [(cI, .int)] (wMo cI o a V) [.ref o, .int (nI r)]) (vp_Si (fun r9 => r9 = bi (hlN V r))) 0 0 (fun _ => False) := by
  refine Met.ofW (cc := b_Mo_hasLive) (maxL := 4) (ret := (some .boolean)) (by decide) rfl ?_
  intro pg eg s mg ag bg meth cg s₁ B hml hv
  obtain ⟨rfl, hP, hK, hN⟩ := hv
  have hx := B.exec
  have hb := B.bytes
  have hr := B.returns
  have hlocks := B.notSynchronized
  have hts : ∀ w9 ∈ wG, w9.before ([.ref o, .int (nI r)] : List Value).toArray s = true := fun w9 h9 => atoms_spec (ws := (.code y_Mo_hasLive b_Mo_hasLive 4 (some .boolean) :: wG)) B.pre w9 (List.mem_cons_of_mem _ h9)
  have hown : s.vm.findClass "PrefixRegistryModel" = some mg.cls := findClass_of_methodNamed B.named
  have hP : va_P (dC, dI) classes (wMo cI o a V) s.heap := hP
  have hl := lv_entry ([.ref o, .int (nI r)]) (n := 4) (Nat.le_of_ble_eq_true rfl)
  rw [lg_entry_eq]
  generalize (lg_sl ([.ref o, .int (nI r)]) ++ List.replicate (4 - (lg_sl ([.ref o, .int (nI r)])).length) Slot.unset).toArray = ls at hl ⊢
  replace hl : lv_has ls 4 [(0, .ref o), (1, .int (nI r))] := hl
  have hse := sb_le V r
  have hee := eb_le hV r
  refine lv_iconst (v := 0) hx hb d_Mo_hasLive_0 (by decide) ?_
  refine lv_istore_n hx hb d_Mo_hasLive_1 rfl hl (by decide) rfl (fun ls hl => ?_)
  replace hl : lv_has ls 4 [(2, .int 0), (0, .ref o), (1, .int (nI r))] := hl
  refine lv_aload_n hx hb d_Mo_hasLive_2 rfl (lv_at hl 1 rfl) ?_
  refine lv_iload_n hx hb d_Mo_hasLive_3 rfl (lv_at hl 2 rfl) ?_
  refine vp_callSi (W.runV (b := o) (As := [.int (nI r)]) (rest := []) ⟨hx, hb, hml, hown, hts⟩ (c_Mo_startOf l dC dI cI o a V hV r hr0) (cwV 1 hts (gV kw_833 kw_835 ks_32 kw_6 kw_836) rfl rfl rfl (by decide +kernel) ⟨Nat.le_of_ble_eq_true rfl, Nat.le_of_ble_eq_true rfl⟩) ⟨PcS.blind, va_recv (q0 := 0) hK hP rfl rfl, PcS.use hP hK hN⟩ rfl rfl hl.1 rfl (lv_room (Nat.le_of_ble_eq_true rfl)) d_Mo_hasLive_4 ⟨Nat.zero_le _, Nat.zero_le _⟩) (fun r4 hr4 => ?_)
  obtain rfl : r4 = (nI (sbN r)) := hr4
  refine lv_istore_n hx hb d_Mo_hasLive_7 rfl hl (by decide) rfl (fun ls hl => ?_)
  replace hl : lv_has ls 4 [(3, .int (nI (sbN r))), (2, .int 0), (0, .ref o), (1, .int (nI r))] := hl
  obtain ⟨i, hi0⟩ : ∃ i : Nat, i = sbN r := ⟨_, rfl⟩
  obtain ⟨k, hk0⟩ : ∃ k : Nat, k = ebN V r - sbN r := ⟨_, rfl⟩
  obtain ⟨ac, hac⟩ : ∃ ac : Bool, ac = false := ⟨_, rfl⟩
  have hres : anyF (chP V r) i k ac = hlN V r := by rw [hi0, hk0, hac]; rfl
  replace hl : lv_has ls 4 [(3, .int (nI i)), (2, .int (bi ac)), (0, .ref o), (1, .int (nI r))] := by subst hi0; subst hac; exact hl
  have hik : i + k = ebN V r := by omega
  clear hi0 hk0 hac
  replace hres := hres
  replace hl : lv_has ls 4 [(3, .int (nI i)), (2, .int (bi ac)), (0, .ref o), (1, .int (nI r))] := hl
  induction k generalizing i ls ac with
  | zero =>
    refine lv_iload_n hx hb d_Mo_hasLive_8 rfl (lv_at hl 0 rfl) ?_
    refine lv_aload_n hx hb d_Mo_hasLive_9 rfl (lv_at hl 2 rfl) ?_
    refine lv_iload_n hx hb d_Mo_hasLive_10 rfl (lv_at hl 3 rfl) ?_
    refine vp_callSi (W.runV (b := o) (As := [.int (nI r)]) (rest := [.int (nI i)]) ⟨hx, hb, hml, hown, hts⟩ (c_Mo_endOf l dC dI cI o a V hV r hr0) (cwV 1 hts (gV kw_837 kw_839 ks_33 kw_6 kw_840) rfl rfl rfl (by decide +kernel) ⟨Nat.le_of_ble_eq_true rfl, Nat.le_of_ble_eq_true rfl⟩) ⟨PcS.blind, va_recv (q0 := 0) hK hP rfl rfl, PcS.use hP hK hN⟩ rfl rfl hl.1 rfl (lv_room (Nat.le_of_ble_eq_true rfl)) d_Mo_hasLive_11 ⟨Nat.zero_le _, Nat.zero_le _⟩) (fun r11 hr11 => ?_)
    obtain rfl : r11 = (nI (ebN V r)) := hr11
    refine lv_icmp_ge hx hb d_Mo_hasLive_14 rfl (fun _ => ?_) (fun h9 => absurd (nI_le (by omega) (by omega)) h9)
    refine lv_iload_n hx hb d_Mo_hasLive_42 rfl (lv_at hl 1 rfl) ?_
    exact W.zret (v := (bi ac)) hx hb hr (bi_nar _) (fun t ht hW => ⟨(bi ac), rfl, (by rw [← hres]; rfl), ht⟩) (fun q h => nomatch h) d_Mo_hasLive_43
  | succ k ih =>
    refine lv_iload_n hx hb d_Mo_hasLive_8 rfl (lv_at hl 0 rfl) ?_
    refine lv_aload_n hx hb d_Mo_hasLive_9 rfl (lv_at hl 2 rfl) ?_
    refine lv_iload_n hx hb d_Mo_hasLive_10 rfl (lv_at hl 3 rfl) ?_
    refine vp_callSi (W.runV (b := o) (As := [.int (nI r)]) (rest := [.int (nI i)]) ⟨hx, hb, hml, hown, hts⟩ (c_Mo_endOf l dC dI cI o a V hV r hr0) (cwV 1 hts (gV kw_837 kw_839 ks_33 kw_6 kw_840) rfl rfl rfl (by decide +kernel) ⟨Nat.le_of_ble_eq_true rfl, Nat.le_of_ble_eq_true rfl⟩) ⟨PcS.blind, va_recv (q0 := 0) hK hP rfl rfl, PcS.use hP hK hN⟩ rfl rfl hl.1 rfl (lv_room (Nat.le_of_ble_eq_true rfl)) d_Mo_hasLive_11 ⟨Nat.zero_le _, Nat.zero_le _⟩) (fun r11 hr11 => ?_)
    obtain rfl : r11 = (nI (ebN V r)) := hr11
    refine lv_icmp_ge hx hb d_Mo_hasLive_14 rfl (fun h9 => absurd h9 (nI_ge (by omega) (by omega))) (fun _ => ?_)
    refine lv_iload_n hx hb d_Mo_hasLive_17 rfl (lv_at hl 1 rfl) ?_
    refine lv_if_ne hx hb d_Mo_hasLive_18 rfl (fun h18 => ?_) (fun h18 => ?_)
    · have h18 : ac = true := bi_n0 h18
      refine lv_iconst (v := 1) hx hb d_Mo_hasLive_30 (by decide) ?_
      refine x_topi (y := (bi true)) rfl ?_
      refine lv_goto hx hb d_Mo_hasLive_31 rfl ?_
      refine lv_istore_n hx hb d_Mo_hasLive_35 rfl hl (by decide) rfl (fun ls hl => ?_)
      replace hl : lv_has ls 4 [(2, .int (bi true)), (3, .int (nI i)), (0, .ref o), (1, .int (nI r))] := hl
      refine lv_iinc hx hb d_Mo_hasLive_36 hl (k := 1) (v := (nI (i + 1))) rfl (nI_1 i) (by decide) rfl (fun ls hl => ?_)
      replace hl : lv_has ls 4 [(3, .int (nI (i + 1))), (2, .int (bi true)), (0, .ref o), (1, .int (nI r))] := hl
      refine lv_goto hx hb d_Mo_hasLive_39 rfl ?_
      refine ih _ _ _ ?_ ?_ hl
      · omega
      · exact (by rw [← hres]; simp only [anyF]; rw [h18, Bool.true_or])
    have h18 : ac = false := bi_eq0.mp h18
    refine lv_aload_n hx hb d_Mo_hasLive_21 rfl (lv_at hl 2 rfl) ?_
    refine lv_iload_n hx hb d_Mo_hasLive_22 rfl (lv_at hl 0 rfl) ?_
    refine lv_iload_n hx hb d_Mo_hasLive_23 rfl (lv_at hl 3 rfl) ?_
    refine vp_callSi (W.runV (b := o) (As := [.int (nI i), .int (nI r)]) (rest := []) ⟨hx, hb, hml, hown, hts⟩ (c_Mo_isChild l dC dI cI o a V hV i r (by omega) hr0) (cwV 2 hts (gV kw_841 kw_843 ks_34 kw_6 kw_844) rfl rfl rfl (by decide +kernel) ⟨Nat.le_of_ble_eq_true rfl, Nat.le_of_ble_eq_true rfl⟩) ⟨PcS.blind, va_recv (q0 := 0) hK hP rfl rfl, PcS.use hP hK hN⟩ rfl rfl hl.1 rfl (lv_room (Nat.le_of_ble_eq_true rfl)) d_Mo_hasLive_24 ⟨Nat.zero_le _, Nat.zero_le _⟩) (fun r24 hr24 => ?_)
    obtain rfl : r24 = bi (decide (V.par i = some r ∧ V.sta i ≠ 4)) := hr24
    refine lv_if_eq hx hb d_Mo_hasLive_27 rfl (fun h27 => ?_) (fun h27 => ?_)
    · have h27 := bi_d.mp h27
      refine lv_iconst (v := 0) hx hb d_Mo_hasLive_34 (by decide) ?_
      refine x_topi (y := (bi false)) rfl ?_
      refine lv_istore_n hx hb d_Mo_hasLive_35 rfl hl (by decide) rfl (fun ls hl => ?_)
      replace hl : lv_has ls 4 [(2, .int (bi false)), (3, .int (nI i)), (0, .ref o), (1, .int (nI r))] := hl
      refine lv_iinc hx hb d_Mo_hasLive_36 hl (k := 1) (v := (nI (i + 1))) rfl (nI_1 i) (by decide) rfl (fun ls hl => ?_)
      replace hl : lv_has ls 4 [(3, .int (nI (i + 1))), (2, .int (bi false)), (0, .ref o), (1, .int (nI r))] := hl
      refine lv_goto hx hb d_Mo_hasLive_39 rfl ?_
      refine ih _ _ _ ?_ ?_ hl
      · omega
      · exact (by rw [← hres]; simp only [anyF]; rw [h18, show chP V r i = false from decide_eq_false h27]; rfl)
    have h27 := Decidable.not_not.mp (mt bi_d.mpr h27)
    refine lv_iconst (v := 1) hx hb d_Mo_hasLive_30 (by decide) ?_
    refine x_topi (y := (bi true)) rfl ?_
    refine lv_goto hx hb d_Mo_hasLive_31 rfl ?_
    refine lv_istore_n hx hb d_Mo_hasLive_35 rfl hl (by decide) rfl (fun ls hl => ?_)
    replace hl : lv_has ls 4 [(2, .int (bi true)), (3, .int (nI i)), (0, .ref o), (1, .int (nI r))] := hl
    refine lv_iinc hx hb d_Mo_hasLive_36 hl (k := 1) (v := (nI (i + 1))) rfl (nI_1 i) (by decide) rfl (fun ls hl => ?_)
    replace hl : lv_has ls 4 [(3, .int (nI (i + 1))), (2, .int (bi true)), (0, .ref o), (1, .int (nI r))] := hl
    refine lv_goto hx hb d_Mo_hasLive_39 rfl ?_
    refine ih _ _ _ ?_ ?_ hl
    · omega
    · exact (by rw [← hres]; simp only [anyF]; rw [h18, show chP V r i = true from decide_eq_true h27]; rfl)
set_option maxHeartbeats 4000000 in
set_option maxRecDepth 100000 in
theorem c_Mo_belowWrong (l : Launch) (dC : Nat → ClassId) (dI : Nat → Nat → Nat) (cI : ClassId) (o : Nat) (a : Nat → Nat) (V : MS) (hV : MSok V) (b d x : Nat) (hd : d < 2) (hod : b = 200 * d) (hx0 : x < 4294967296) (f : Bool) : Met l y_Mo_belowWrong (.code y_Mo_belowWrong b_Mo_belowWrong 4 (some .int) :: wG) ({ frames := 2, cells := 0, slots := 0, locals := 44 }) (PcS (dC, dI) [(cI, .int)] (wMo cI o a V) [.ref o, .int (nI b), .int (nI x), .int (bi f)]) (vp_Si (fun r9 => r9 = bwN V b d x f)) 0 0 (fun _ => False) := by
  refine Met.ofW (cc := b_Mo_belowWrong) (maxL := 4) (ret := (some .int)) (by decide) rfl ?_
  intro pg eg s mg ag bg meth cg s₁ B hml hv
  obtain ⟨rfl, hP, hK, hN⟩ := hv
  have hx := B.exec
  have hb := B.bytes
  have hr := B.returns
  have hlocks := B.notSynchronized
  have hts : ∀ w9 ∈ wG, w9.before ([.ref o, .int (nI b), .int (nI x), .int (bi f)] : List Value).toArray s = true := fun w9 h9 => atoms_spec (ws := (.code y_Mo_belowWrong b_Mo_belowWrong 4 (some .int) :: wG)) B.pre w9 (List.mem_cons_of_mem _ h9)
  have hown : s.vm.findClass "PrefixRegistryModel" = some mg.cls := findClass_of_methodNamed B.named
  have hP : va_P (dC, dI) classes (wMo cI o a V) s.heap := hP
  have hl := lv_entry ([.ref o, .int (nI b), .int (nI x), .int (bi f)]) (n := 4) (Nat.le_of_ble_eq_true rfl)
  rw [lg_entry_eq]
  generalize (lg_sl ([.ref o, .int (nI b), .int (nI x), .int (bi f)]) ++ List.replicate (4 - (lg_sl ([.ref o, .int (nI b), .int (nI x), .int (bi f)])).length) Slot.unset).toArray = ls at hl ⊢
  replace hl : lv_has ls 4 [(0, .ref o), (1, .int (nI b)), (2, .int (nI x)), (3, .int (bi f))] := hl
  refine lv_aload_n hx hb d_Mo_belowWrong_0 rfl (lv_at hl 0 rfl) ?_
  refine lv_iload_n hx hb d_Mo_belowWrong_1 rfl (lv_at hl 1 rfl) ?_
  refine lv_iload_n hx hb d_Mo_belowWrong_2 rfl (lv_at hl 2 rfl) ?_
  refine vp_callSi (W.runV (b := o) (As := [.int (nI b), .int (nI x)]) (rest := []) ⟨hx, hb, hml, hown, hts⟩ (c_Mo_isRecord l dC dI cI o a V hV b d x hd hod hx0 ) (cwV 2 hts (gV kw_817 kw_819 ks_28 kw_6 kw_820) rfl rfl rfl (by decide +kernel) ⟨Nat.le_of_ble_eq_true rfl, Nat.le_of_ble_eq_true rfl⟩) ⟨PcS.blind, va_recv (q0 := 0) hK hP rfl rfl, PcS.use hP hK hN⟩ rfl rfl hl.1 rfl (lv_room (Nat.le_of_ble_eq_true rfl)) d_Mo_belowWrong_3 ⟨Nat.zero_le _, Nat.zero_le _⟩) (fun r3 hr3 => ?_)
  obtain rfl : r3 = bi (decide (x < V.mn d)) := hr3
  refine lv_if_eq hx hb d_Mo_belowWrong_6 rfl (fun h6 => ?_) (fun h6 => ?_)
  · have h6 := bi_d.mp h6
    refine lv_bipush (v := (-5)) hx hb d_Mo_belowWrong_21 (by decide) ?_
    exact W.iret (v := (-5)) hx hb hr (fun t ht hW => ⟨(-5), rfl, (by unfold bwN; rw [if_neg (fun q => h6 q.1)]), ht⟩) (fun q h => nomatch h) d_Mo_belowWrong_23
  have h6 := Decidable.not_not.mp (mt bi_d.mpr h6)
  refine lv_aload_n hx hb d_Mo_belowWrong_9 rfl (lv_at hl 0 rfl) ?_
  refine va_get (D := (dC, dI)) (ci := 5) (v := .ref (a 6)) (C := R_Mo) (T := F_Mo) (N := 19) hx hb hts u_Mo hown hK hP 0 rfl rfl 7 (by decide) (hts _ kw_721) (fun _ h9 => h9) rfl d_Mo_belowWrong_10 ?_
  refine lv_iload_n hx hb d_Mo_belowWrong_13 rfl (lv_at hl 1 rfl) ?_
  refine lv_iload_n hx hb d_Mo_belowWrong_14 rfl (lv_at hl 2 rfl) ?_
  refine lv_iadd hx hb d_Mo_belowWrong_15 ?_
  refine x_topi (y := (nI (b + x))) (nI_add _ _) ?_
  refine x_iald (j := (b + x)) (v := (nI (V.sta (b + x)))) hx hb hK hP 7 0 rfl rfl (by have := hV.mn d; omega) (by decide) rfl rfl d_Mo_belowWrong_16 ?_
  refine lv_iconst (v := 1) hx hb d_Mo_belowWrong_17 (by decide) ?_
  refine lv_icmp_eq hx hb d_Mo_belowWrong_18 rfl (fun h18 => ?_) (fun h18 => ?_)
  · have h18 := (k_eq (b := 1) (by have := hV.sta (b + x); omega) (by decide)).mp h18
    refine lv_iload_n hx hb d_Mo_belowWrong_24 rfl (lv_at hl 3 rfl) ?_
    refine lv_if_ne hx hb d_Mo_belowWrong_25 rfl (fun h25 => ?_) (fun h25 => ?_)
    · have h25 : f = true := bi_n0 h25
      refine lv_aload_n hx hb d_Mo_belowWrong_33 rfl (lv_at hl 0 rfl) ?_
      refine va_get (D := (dC, dI)) (ci := 5) (v := .ref (a 4)) (C := R_Mo) (T := F_Mo) (N := 19) hx hb hts u_Mo hown hK hP 0 rfl rfl 5 (by decide) (hts _ kw_719) (fun _ h9 => h9) rfl d_Mo_belowWrong_34 ?_
      refine lv_iload_n hx hb d_Mo_belowWrong_37 rfl (lv_at hl 1 rfl) ?_
      refine lv_iload_n hx hb d_Mo_belowWrong_38 rfl (lv_at hl 2 rfl) ?_
      refine lv_iadd hx hb d_Mo_belowWrong_39 ?_
      refine x_topi (y := (nI (b + x))) (nI_add _ _) ?_
      refine x_iald (j := (b + x)) (v := (nI (V.lev (b + x)))) hx hb hK hP 5 0 rfl rfl (by have := hV.mn d; omega) (by decide) rfl rfl d_Mo_belowWrong_40 ?_
      refine lv_iconst (v := 4) hx hb d_Mo_belowWrong_41 (by decide) ?_
      refine lv_icmp_ne hx hb d_Mo_belowWrong_42 rfl (fun h42 => ?_) (fun h42 => ?_)
      · have h42 := mt (k_eq (b := 4) (by have := hV.lev (b + x); omega) (by decide)).mpr h42
        refine lv_aload_n hx hb d_Mo_belowWrong_50 rfl (lv_at hl 0 rfl) ?_
        refine va_get (D := (dC, dI)) (ci := 5) (v := .ref (a 0)) (C := R_Mo) (T := F_Mo) (N := 19) hx hb hts u_Mo hown hK hP 0 rfl rfl 1 (by decide) (hts _ kw_715) (fun _ h9 => h9) rfl d_Mo_belowWrong_51 ?_
        refine lv_iload_n hx hb d_Mo_belowWrong_54 rfl (lv_at hl 1 rfl) ?_
        refine lv_sipush (v := 200) hx hb d_Mo_belowWrong_55 (by decide) ?_
        refine lv_idiv hx hb d_Mo_belowWrong_58 (by decide) ?_
        refine x_topi (y := (nI d)) (by rw [hod]; exact k_d200 d hd) ?_
        refine x_iald (j := d) (v := (nI (V.mn d))) hx hb hK hP 1 0 rfl rfl hd (by decide) rfl rfl d_Mo_belowWrong_59 ?_
        refine lv_sipush (v := 200) hx hb d_Mo_belowWrong_60 (by decide) ?_
        refine lv_icmp_ne hx hb d_Mo_belowWrong_63 rfl (fun h63 => ?_) (fun h63 => ?_)
        · have h63 := mt (nI_eq (b := 200) (by have := hV.mn d; omega) (by decide)).mpr h63
          refine lv_iconst (v := 0) hx hb d_Mo_belowWrong_71 (by decide) ?_
          exact W.iret (v := 0) hx hb hr (fun t ht hW => ⟨0, rfl, (by unfold bwN; rw [if_pos ⟨h6, h18⟩, if_pos h25, if_neg h42, if_neg h63]), ht⟩) (fun q h => nomatch h) d_Mo_belowWrong_72
        have h63 := (nI_eq (b := 200) (by have := hV.mn d; omega) (by decide)).mp h63
        refine lv_bipush (v := (-3)) hx hb d_Mo_belowWrong_66 (by decide) ?_
        refine lv_goto hx hb d_Mo_belowWrong_68 rfl ?_
        exact W.iret (v := (-3)) hx hb hr (fun t ht hW => ⟨(-3), rfl, (by unfold bwN; rw [if_pos ⟨h6, h18⟩, if_pos h25, if_neg h42, if_pos h63]), ht⟩) (fun q h => nomatch h) d_Mo_belowWrong_72
      have h42 := (k_eq (b := 4) (by have := hV.lev (b + x); omega) (by decide)).mp h42
      refine lv_bipush (v := (-6)) hx hb d_Mo_belowWrong_45 (by decide) ?_
      refine lv_goto hx hb d_Mo_belowWrong_47 rfl ?_
      exact W.iret (v := (-6)) hx hb hr (fun t ht hW => ⟨(-6), rfl, (by unfold bwN; rw [if_pos ⟨h6, h18⟩, if_pos h25, if_pos h42]), ht⟩) (fun q h => nomatch h) d_Mo_belowWrong_72
    have h25 : f = false := bi_eq0.mp h25
    refine lv_bipush (v := (-2)) hx hb d_Mo_belowWrong_28 (by decide) ?_
    refine lv_goto hx hb d_Mo_belowWrong_30 rfl ?_
    exact W.iret (v := (-2)) hx hb hr (fun t ht hW => ⟨(-2), rfl, (by unfold bwN; rw [if_pos ⟨h6, h18⟩, h25]; rfl), ht⟩) (fun q h => nomatch h) d_Mo_belowWrong_72
  have h18 := mt (k_eq (b := 1) (by have := hV.sta (b + x); omega) (by decide)).mpr h18
  refine lv_bipush (v := (-5)) hx hb d_Mo_belowWrong_21 (by decide) ?_
  exact W.iret (v := (-5)) hx hb hr (fun t ht hW => ⟨(-5), rfl, (by unfold bwN; rw [if_neg (fun q => h18 q.2)]), ht⟩) (fun q h => nomatch h) d_Mo_belowWrong_23
set_option maxHeartbeats 4000000 in
set_option maxRecDepth 100000 in
theorem c_Mo_backWrong (l : Launch) (dC : Nat → ClassId) (dI : Nat → Nat → Nat) (cI : ClassId) (o : Nat) (a : Nat → Nat) (V : MS) (hV : MSok V) (b d x : Nat) (hd : d < 2) (hod : b = 200 * d) (hx0 : x < 4294967296) : Met l y_Mo_backWrong (.code y_Mo_backWrong b_Mo_backWrong 4 (some .int) :: wG) ({ frames := 3, cells := 0, slots := 0, locals := 66 }) (PcS (dC, dI) [(cI, .int)] (wMo cI o a V) [.ref o, .int (nI b), .int (nI x)]) (vp_Si (fun r9 => r9 = nI (bkN V b d x))) 0 0 (fun _ => False) := by
  refine Met.ofW (cc := b_Mo_backWrong) (maxL := 4) (ret := (some .int)) (by decide) rfl ?_
  intro pg eg s mg ag bg meth cg s₁ B hml hv
  obtain ⟨rfl, hP, hK, hN⟩ := hv
  have hx := B.exec
  have hb := B.bytes
  have hr := B.returns
  have hlocks := B.notSynchronized
  have hts : ∀ w9 ∈ wG, w9.before ([.ref o, .int (nI b), .int (nI x)] : List Value).toArray s = true := fun w9 h9 => atoms_spec (ws := (.code y_Mo_backWrong b_Mo_backWrong 4 (some .int) :: wG)) B.pre w9 (List.mem_cons_of_mem _ h9)
  have hown : s.vm.findClass "PrefixRegistryModel" = some mg.cls := findClass_of_methodNamed B.named
  have hP : va_P (dC, dI) classes (wMo cI o a V) s.heap := hP
  have hl := lv_entry ([.ref o, .int (nI b), .int (nI x)]) (n := 4) (Nat.le_of_ble_eq_true rfl)
  rw [lg_entry_eq]
  generalize (lg_sl ([.ref o, .int (nI b), .int (nI x)]) ++ List.replicate (4 - (lg_sl ([.ref o, .int (nI b), .int (nI x)])).length) Slot.unset).toArray = ls at hl ⊢
  replace hl : lv_has ls 4 [(0, .ref o), (1, .int (nI b)), (2, .int (nI x))] := hl
  refine lv_aload_n hx hb d_Mo_backWrong_0 rfl (lv_at hl 0 rfl) ?_
  refine lv_iload_n hx hb d_Mo_backWrong_1 rfl (lv_at hl 1 rfl) ?_
  refine lv_iload_n hx hb d_Mo_backWrong_2 rfl (lv_at hl 2 rfl) ?_
  refine vp_callSi (W.runV (b := o) (As := [.int (nI b), .int (nI x)]) (rest := []) ⟨hx, hb, hml, hown, hts⟩ (c_Mo_isRecord l dC dI cI o a V hV b d x hd hod hx0 ) (cwV 2 hts (gV kw_817 kw_819 ks_28 kw_6 kw_820) rfl rfl rfl (by decide +kernel) ⟨Nat.le_of_ble_eq_true rfl, Nat.le_of_ble_eq_true rfl⟩) ⟨PcS.blind, va_recv (q0 := 0) hK hP rfl rfl, PcS.use hP hK hN⟩ rfl rfl hl.1 rfl (lv_room (Nat.le_of_ble_eq_true rfl)) d_Mo_backWrong_3 ⟨Nat.zero_le _, Nat.zero_le _⟩) (fun r3 hr3 => ?_)
  obtain rfl : r3 = bi (decide (x < V.mn d)) := hr3
  refine lv_if_ne hx hb d_Mo_backWrong_6 rfl (fun h6 => ?_) (fun h6 => ?_)
  · have h6 := Decidable.not_not.mp (mt bi_d.mpr h6)
    refine lv_aload_n hx hb d_Mo_backWrong_11 rfl (lv_at hl 0 rfl) ?_
    refine va_get (D := (dC, dI)) (ci := 5) (v := .ref (a 6)) (C := R_Mo) (T := F_Mo) (N := 19) hx hb hts u_Mo hown hK hP 0 rfl rfl 7 (by decide) (hts _ kw_721) (fun _ h9 => h9) rfl d_Mo_backWrong_12 ?_
    refine lv_iload_n hx hb d_Mo_backWrong_15 rfl (lv_at hl 1 rfl) ?_
    refine lv_iload_n hx hb d_Mo_backWrong_16 rfl (lv_at hl 2 rfl) ?_
    refine lv_iadd hx hb d_Mo_backWrong_17 ?_
    refine x_topi (y := (nI (b + x))) (nI_add _ _) ?_
    refine x_iald (j := (b + x)) (v := (nI (V.sta (b + x)))) hx hb hK hP 7 0 rfl rfl (by have := hV.mn d; omega) (by decide) rfl rfl d_Mo_backWrong_18 ?_
    refine lv_istore_n hx hb d_Mo_backWrong_19 rfl hl (by decide) rfl (fun ls hl => ?_)
    replace hl : lv_has ls 4 [(3, .int (nI (V.sta (b + x)))), (0, .ref o), (1, .int (nI b)), (2, .int (nI x))] := hl
    refine lv_iload_n hx hb d_Mo_backWrong_20 rfl (lv_at hl 0 rfl) ?_
    refine lv_iconst (v := 1) hx hb d_Mo_backWrong_21 (by decide) ?_
    refine lv_icmp_eq hx hb d_Mo_backWrong_22 rfl (fun h22 => ?_) (fun h22 => ?_)
    · have h22 := (k_eq (b := 1) (by have := hV.sta (b + x); omega) (by decide)).mp h22
      refine lv_aload_n hx hb d_Mo_backWrong_30 rfl (lv_at hl 1 rfl) ?_
      refine lv_iload_n hx hb d_Mo_backWrong_31 rfl (lv_at hl 2 rfl) ?_
      refine lv_iload_n hx hb d_Mo_backWrong_32 rfl (lv_at hl 3 rfl) ?_
      refine lv_iadd hx hb d_Mo_backWrong_33 ?_
      refine x_topi (y := (nI (b + x))) (nI_add _ _) ?_
      refine vp_callSi (W.runV (b := o) (As := [.int (nI (b + x))]) (rest := []) ⟨hx, hb, hml, hown, hts⟩ (c_Mo_hasLive l dC dI cI o a V hV (b + x) (by have := hV.mn d; omega)) (cwV 1 hts (gV kw_895 kw_897 ks_43 kw_6 kw_898) rfl rfl rfl (by decide +kernel) ⟨Nat.le_of_ble_eq_true rfl, Nat.le_of_ble_eq_true rfl⟩) ⟨PcS.blind, va_recv (q0 := 0) hK hP rfl rfl, PcS.use hP hK hN⟩ rfl rfl hl.1 rfl (lv_room (Nat.le_of_ble_eq_true rfl)) d_Mo_backWrong_34 ⟨Nat.zero_le _, Nat.zero_le _⟩) (fun r34 hr34 => ?_)
      obtain rfl : r34 = bi (hlN V (b + x)) := hr34
      refine lv_if_eq hx hb d_Mo_backWrong_37 rfl (fun h37 => ?_) (fun h37 => ?_)
      · have h37 : hlN V (b + x) = false := bi_eq0.mp h37
        refine lv_iconst (v := 0) hx hb d_Mo_backWrong_44 (by decide) ?_
        exact W.iret (v := 0) hx hb hr (fun t ht hW => ⟨0, rfl, (by unfold bkN; rw [if_pos h6, if_pos ⟨Or.inl h22, h37⟩]; rfl), ht⟩) (fun q h => nomatch h) d_Mo_backWrong_45
      have h37 : hlN V (b + x) = true := bi_n0 h37
      refine lv_iconst (v := 2) hx hb d_Mo_backWrong_40 (by decide) ?_
      refine lv_goto hx hb d_Mo_backWrong_41 rfl ?_
      exact W.iret (v := 2) hx hb hr (fun t ht hW => ⟨2, rfl, (by unfold bkN; rw [if_pos h6, if_neg (fun q => absurd (h37.symm.trans q.2) (by decide))]; rfl), ht⟩) (fun q h => nomatch h) d_Mo_backWrong_45
    have h22 := mt (k_eq (b := 1) (by have := hV.sta (b + x); omega) (by decide)).mpr h22
    refine lv_iload_n hx hb d_Mo_backWrong_25 rfl (lv_at hl 0 rfl) ?_
    refine lv_iconst (v := 2) hx hb d_Mo_backWrong_26 (by decide) ?_
    refine lv_icmp_ne hx hb d_Mo_backWrong_27 rfl (fun h27 => ?_) (fun h27 => ?_)
    · have h27 := mt (k_eq (b := 2) (by have := hV.sta (b + x); omega) (by decide)).mpr h27
      refine lv_iconst (v := 2) hx hb d_Mo_backWrong_40 (by decide) ?_
      refine lv_goto hx hb d_Mo_backWrong_41 rfl ?_
      exact W.iret (v := 2) hx hb hr (fun t ht hW => ⟨2, rfl, (by unfold bkN; rw [if_pos h6, if_neg (fun q => q.1.elim h22 h27)]; rfl), ht⟩) (fun q h => nomatch h) d_Mo_backWrong_45
    have h27 := (k_eq (b := 2) (by have := hV.sta (b + x); omega) (by decide)).mp h27
    refine lv_aload_n hx hb d_Mo_backWrong_30 rfl (lv_at hl 1 rfl) ?_
    refine lv_iload_n hx hb d_Mo_backWrong_31 rfl (lv_at hl 2 rfl) ?_
    refine lv_iload_n hx hb d_Mo_backWrong_32 rfl (lv_at hl 3 rfl) ?_
    refine lv_iadd hx hb d_Mo_backWrong_33 ?_
    refine x_topi (y := (nI (b + x))) (nI_add _ _) ?_
    refine vp_callSi (W.runV (b := o) (As := [.int (nI (b + x))]) (rest := []) ⟨hx, hb, hml, hown, hts⟩ (c_Mo_hasLive l dC dI cI o a V hV (b + x) (by have := hV.mn d; omega)) (cwV 1 hts (gV kw_895 kw_897 ks_43 kw_6 kw_898) rfl rfl rfl (by decide +kernel) ⟨Nat.le_of_ble_eq_true rfl, Nat.le_of_ble_eq_true rfl⟩) ⟨PcS.blind, va_recv (q0 := 0) hK hP rfl rfl, PcS.use hP hK hN⟩ rfl rfl hl.1 rfl (lv_room (Nat.le_of_ble_eq_true rfl)) d_Mo_backWrong_34 ⟨Nat.zero_le _, Nat.zero_le _⟩) (fun r34 hr34 => ?_)
    obtain rfl : r34 = bi (hlN V (b + x)) := hr34
    refine lv_if_eq hx hb d_Mo_backWrong_37 rfl (fun h37 => ?_) (fun h37 => ?_)
    · have h37 : hlN V (b + x) = false := bi_eq0.mp h37
      refine lv_iconst (v := 0) hx hb d_Mo_backWrong_44 (by decide) ?_
      exact W.iret (v := 0) hx hb hr (fun t ht hW => ⟨0, rfl, (by unfold bkN; rw [if_pos h6, if_pos ⟨Or.inr h27, h37⟩]; rfl), ht⟩) (fun q h => nomatch h) d_Mo_backWrong_45
    have h37 : hlN V (b + x) = true := bi_n0 h37
    refine lv_iconst (v := 2) hx hb d_Mo_backWrong_40 (by decide) ?_
    refine lv_goto hx hb d_Mo_backWrong_41 rfl ?_
    exact W.iret (v := 2) hx hb hr (fun t ht hW => ⟨2, rfl, (by unfold bkN; rw [if_pos h6, if_neg (fun q => absurd (h37.symm.trans q.2) (by decide))]; rfl), ht⟩) (fun q h => nomatch h) d_Mo_backWrong_45
  have h6 := bi_d.mp h6
  refine lv_iconst (v := 1) hx hb d_Mo_backWrong_9 (by decide) ?_
  exact W.iret (v := 1) hx hb hr (fun t ht hW => ⟨1, rfl, (by unfold bkN; rw [if_neg h6]; rfl), ht⟩) (fun q h => nomatch h) d_Mo_backWrong_10
