/-! reserve, and what the reference tells -/
def rsS (V : MS) (b d x p n : Nat) : Bool := decide (x < V.mn d ∧ V.len (b + x) < n ∧ n ≤ 32 ∧ p % 2 ^ (32 - n) = 0 ∧ mtM p n (V.pre (b + x)) (V.len (b + x)))
def rsW (V : MS) (b d x p n : Nat) : Int32 := if bwN V b d x (rsS V b d x p n) < 0 then bwN V b d x (rsS V b d x p n) else if V.len (b + x) ≤ n ∧ mtM p n (V.pre (b + x)) (V.len (b + x)) ∧ tkN V (b + x) p n = none then 0 else -1
theorem bwN_f (V : MS) (b d x : Nat) : bwN V b d x false < 0 := by
  unfold bwN; rw [if_neg (show ¬ false = true by decide)]; split <;> decide
theorem bwN_0 {V : MS} {b d x : Nat} {f : Bool} (h : ¬ bwN V b d x f < 0) : x < V.mn d ∧ f = true ∧ ¬ V.mn d = 200 := by
  unfold bwN at h
  split at h
  · rename_i h1
    split at h
    · rename_i h2
      split at h
      · exact absurd (by decide) h
      · split at h
        · exact absurd (by decide) h
        · rename_i h3; exact ⟨h1.1, h2, h3⟩
    · exact absurd (by decide) h
  · exact absurd (by decide) h
theorem rsW_0 {V : MS} {b d x p n : Nat} (h : rsW V b d x p n = 0) : x < V.mn d ∧ ¬ V.mn d = 200 := by
  unfold rsW at h
  split at h
  · rename_i h1; rw [h] at h1; exact absurd h1 (by decide)
  · rename_i h1; exact ⟨(bwN_0 h1).1, (bwN_0 h1).2.2⟩
theorem rsW_neg {V : MS} {b d x p n : Nat} (h : ¬ rsW V b d x p n = 0) : rsW V b d x p n < 0 := by
  unfold rsW at h ⊢
  split
  · assumption
  · rename_i h1
    rw [if_neg h1] at h
    split
    · rename_i h2; rw [if_pos h2] at h; exact absurd rfl h
    · decide
def moRes (V : MS) (x p n : Nat) : MS := if rsW V 0 0 x p n = 0 then (if V.ne = 300 then (mkV V.mn V.pre V.len V.lev V.hol V.sta V.en V.tdy V.dys V.pol V.par V.kd V.fi V.se V.th V.ne 1 V.fo V.fl) else vMake (vNote (mkV V.mn V.pre V.len V.lev V.hol V.sta V.en V.tdy V.dys V.pol V.par V.kd V.fi V.se V.th V.ne 0 V.fo V.fl) 3 (nI x) (nI p) (nI n)) 0 0 p n (some x) (V.hol x) 2) else (mkV V.mn V.pre V.len V.lev V.hol V.sta V.en V.tdy V.dys V.pol V.par V.kd V.fi V.se V.th V.ne 0 V.fo V.fl)
def moResR (V : MS) (x p n : Nat) : Int32 := if rsW V 0 0 x p n = 0 then (if V.ne = 300 then 0 else nI (V.mn 0)) else rsW V 0 0 x p n
def fdP (q : Option Nat) (b : Nat) : Int32 := match q with
  | none => -1
  | some k => nI k - nI b
def fdN (V : MS) (r w : Nat) : Int32 := match w with
  | 0 => nI (V.pre r)
  | 1 => nI (V.len r)
  | 2 => fdP (V.par r) (sbN r)
  | 3 => nI (V.lev r)
  | 4 => nI (V.hol r)
  | 5 => nI (V.sta r)
  | _ => nI (V.en r)
def mfdT (V : MS) (x w : Nat) : Nat := if x < V.mn 0 then (if w ≤ 6 then 0 else 2) else 1
def mfdR (V : MS) (x w : Nat) : Int32 := if x < V.mn 0 ∧ w ≤ 6 then fdN V x w else 0
def recT (V : MS) (x : Nat) : Nat := if x < V.mn 0 then 0 else 1
def musR (V : MS) (x : Nat) : Nat := if x < V.mn 0 then usN V x else 0
def mlgT (V : MS) (k w : Nat) : Nat := if k < V.ne then (if w ≤ 3 then 0 else 2) else 1
def mlgR (V : MS) (k w : Nat) : Int32 := if k < V.ne ∧ w ≤ 3 then (match w with
  | 0 => V.kd k
  | 1 => V.fi k
  | 2 => V.se k
  | _ => V.th k) else 0
theorem in_ent {V : MS} (hV : MSok V) {k : Nat} (hk : k < 4294967296) : ((0 : Int32) ≤ nI k ∧ nI k ≤ nI V.ne - 1) ↔ k < V.ne := by
  have hm := hV.ne
  rw [k_0le hk]
  by_cases h0 : V.ne = 0
  · rw [h0, show nI 0 - 1 = (-1 : Int32) by decide, Int32.le_iff_toInt_le, k_toInt hk, show (-1 : Int32).toInt = -1 from rfl]
    constructor
    · rintro ⟨h1, h2⟩; rw [if_pos h1] at h2; omega
    · intro h; omega
  · rw [show nI V.ne - 1 = nI (V.ne - 1) from pk_sub (b := 1) (by omega), k_le hk (by omega)]
    omega
def hoP (V : MS) (p t c : Nat) : Bool := decide (V.sta c = 1) && decide (V.lev c = t) && decide (mtM p 32 (V.pre c) (V.len c))
def hoN (V : MS) (p t : Nat) : Option Nat := lastF (hoP V p t) 0 (V.mn 0) none
/-- the states after a day and the number of records whose quarantine ended -/
def psF (en : Nat → Nat) (n : Nat) : Nat → Nat → (Nat → Nat) → Nat → (Nat → Nat) × Nat
  | _, 0, g, a => (g, a)
  | i, k + 1, g, a => if g i = 3 ∧ en i ≤ n then psF en n (i + 1) k (va_up g i 4) (a + 1) else psF en n (i + 1) k (va_up g i (g i)) a
def vPas (V : MS) (b d n : Nat) : MS := (mkV V.mn V.pre V.len V.lev V.hol ((psF V.en n b (V.mn d) V.sta 0).1) V.en (va_up V.tdy d n) V.dys V.pol V.par V.kd V.fi V.se V.th V.ne V.tc V.fo V.fl)
theorem in_day {V : MS} (hV : MSok V) {n : Nat} (hn : n < 4294967296) : (nI (V.tdy 0) ≤ nI n ∧ nI n ≤ (100000 : Int32)) ↔ (V.tdy 0 ≤ n ∧ n ≤ 100000) := by
  have h := hV.tdy 0
  rw [show (100000 : Int32) = nI 100000 from rfl, k_le' (by omega) hn, k_le hn (by decide)]
  omega
def moDay (V : MS) (n : Nat) : MS := if V.tdy 0 ≤ n ∧ n ≤ 100000 then (if V.ne = 300 then (mkV V.mn V.pre V.len V.lev V.hol V.sta V.en V.tdy V.dys V.pol V.par V.kd V.fi V.se V.th V.ne 2 V.fo V.fl) else vPas (vNote (mkV V.mn V.pre V.len V.lev V.hol V.sta V.en V.tdy V.dys V.pol V.par V.kd V.fi V.se V.th V.ne 0 V.fo V.fl) 10 (nI n) 0 0) 0 0 n) else (mkV V.mn V.pre V.len V.lev V.hol V.sta V.en V.tdy V.dys V.pol V.par V.kd V.fi V.se V.th V.ne 1 V.fo V.fl)
def moDayR (V : MS) (n : Nat) : Nat := if (V.tdy 0 ≤ n ∧ n ≤ 100000) ∧ ¬ V.ne = 300 then (psF V.en n 0 (V.mn 0) V.sta 0).2 else 0
set_option maxHeartbeats 4000000 in
set_option maxRecDepth 100000 in
theorem c_Mo_reserveWrong (l : Launch) (dC : Nat → ClassId) (dI : Nat → Nat → Nat) (cI : ClassId) (o : Nat) (a : Nat → Nat) (V : MS) (hV : MSok V) (b d x : Nat) (hd : d < 2) (hod : b = 200 * d) (hx0 : x < 4294967296) (p n : Nat) (hp0 : p < 4294967296) (hn0 : n < 4294967296) : Met l y_Mo_reserveWrong (.code y_Mo_reserveWrong b_Mo_reserveWrong 7 (some .int) :: wG) ({ frames := 4, cells := 0, slots := 0, locals := 91 }) (PcS (dC, dI) [(cI, .int)] (wMo cI o a V) [.ref o, .int (nI b), .int (nI x), .int (nI p), .int (nI n)]) (vp_Si (fun r9 => r9 = rsW V b d x p n)) 0 0 (fun _ => False) := by
  refine Met.ofW (cc := b_Mo_reserveWrong) (maxL := 7) (ret := (some .int)) (by decide) rfl ?_
  intro pg eg s mg ag bg meth cg s₁ B hml hv
  obtain ⟨rfl, hP, hK, hN⟩ := hv
  have hx := B.exec
  have hb := B.bytes
  have hr := B.returns
  have hlocks := B.notSynchronized
  have hts : ∀ w9 ∈ wG, w9.before ([.ref o, .int (nI b), .int (nI x), .int (nI p), .int (nI n)] : List Value).toArray s = true := fun w9 h9 => atoms_spec (ws := (.code y_Mo_reserveWrong b_Mo_reserveWrong 7 (some .int) :: wG)) B.pre w9 (List.mem_cons_of_mem _ h9)
  have hown : s.vm.findClass "PrefixRegistryModel" = some mg.cls := findClass_of_methodNamed B.named
  have hP : va_P (dC, dI) classes (wMo cI o a V) s.heap := hP
  have hl := lv_entry ([.ref o, .int (nI b), .int (nI x), .int (nI p), .int (nI n)]) (n := 7) (Nat.le_of_ble_eq_true rfl)
  rw [lg_entry_eq]
  generalize (lg_sl ([.ref o, .int (nI b), .int (nI x), .int (nI p), .int (nI n)]) ++ List.replicate (7 - (lg_sl ([.ref o, .int (nI b), .int (nI x), .int (nI p), .int (nI n)])).length) Slot.unset).toArray = ls at hl ⊢
  replace hl : lv_has ls 7 [(0, .ref o), (1, .int (nI b)), (2, .int (nI x)), (3, .int (nI p)), (4, .int (nI n))] := hl
  refine lv_aload_n hx hb d_Mo_reserveWrong_0 rfl (lv_at hl 0 rfl) ?_
  refine lv_iload_n hx hb d_Mo_reserveWrong_1 rfl (lv_at hl 1 rfl) ?_
  refine lv_iload_n hx hb d_Mo_reserveWrong_2 rfl (lv_at hl 2 rfl) ?_
  refine vp_callSi (W.runV (b := o) (As := [.int (nI b), .int (nI x)]) (rest := []) ⟨hx, hb, hml, hown, hts⟩ (c_Mo_isRecord l dC dI cI o a V hV b d x hd hod hx0 ) (cwV 2 hts (gV kw_817 kw_819 ks_28 kw_6 kw_820) rfl rfl rfl (by decide +kernel) ⟨Nat.le_of_ble_eq_true rfl, Nat.le_of_ble_eq_true rfl⟩) ⟨PcS.blind, va_recv (q0 := 0) hK hP rfl rfl, PcS.use hP hK hN⟩ rfl rfl hl.1 rfl (lv_room (Nat.le_of_ble_eq_true rfl)) d_Mo_reserveWrong_3 ⟨Nat.zero_le _, Nat.zero_le _⟩) (fun r3 hr3 => ?_)
  obtain rfl : r3 = bi (decide (x < V.mn d)) := hr3
  refine lv_if_eq hx hb d_Mo_reserveWrong_6 rfl (fun h6 => ?_) (fun h6 => ?_)
  · have h6 := bi_d.mp h6
    refine lv_iconst (v := 0) hx hb d_Mo_reserveWrong_33 (by decide) ?_
    refine x_topi (y := (bi false)) rfl ?_
    refine lv_istore hx hb d_Mo_reserveWrong_34 hl (by decide) rfl (fun ls hl => ?_)
    replace hl : lv_has ls 7 [(5, .int (bi false)), (0, .ref o), (1, .int (nI b)), (2, .int (nI x)), (3, .int (nI p)), (4, .int (nI n))] := hl
    refine lv_iload hx hb d_Mo_reserveWrong_36 (lv_at hl 0 rfl) ?_
    refine lv_if_eq hx hb d_Mo_reserveWrong_38 rfl (fun _ => ?_) (fun h9 => absurd (rfl) h9)
    refine lv_iconst (v := 0) hx hb d_Mo_reserveWrong_82 (by decide) ?_
    refine x_topi (y := (bi false)) rfl ?_
    refine lv_istore hx hb d_Mo_reserveWrong_83 hl (by decide) rfl (fun ls hl => ?_)
    replace hl : lv_has ls 7 [(5, .int (bi false)), (0, .ref o), (1, .int (nI b)), (2, .int (nI x)), (3, .int (nI p)), (4, .int (nI n))] := hl
    refine lv_aload_n hx hb d_Mo_reserveWrong_85 rfl (lv_at hl 1 rfl) ?_
    refine lv_iload_n hx hb d_Mo_reserveWrong_86 rfl (lv_at hl 2 rfl) ?_
    refine lv_iload_n hx hb d_Mo_reserveWrong_87 rfl (lv_at hl 3 rfl) ?_
    refine lv_iload hx hb d_Mo_reserveWrong_88 (lv_at hl 0 rfl) ?_
    refine vp_callSi (W.runV (b := o) (As := [.int (nI b), .int (nI x), .int (bi false)]) (rest := []) ⟨hx, hb, hml, hown, hts⟩ (c_Mo_belowWrong l dC dI cI o a V hV b d x hd hod hx0 false) (cwV 3 hts (gV kw_821 kw_823 ks_29 kw_6 kw_824) rfl rfl rfl (by decide +kernel) ⟨Nat.le_of_ble_eq_true rfl, Nat.le_of_ble_eq_true rfl⟩) ⟨PcS.blind, va_recv (q0 := 0) hK hP rfl rfl, PcS.use hP hK hN⟩ rfl rfl hl.1 rfl (lv_room (Nat.le_of_ble_eq_true rfl)) d_Mo_reserveWrong_90 ⟨Nat.zero_le _, Nat.zero_le _⟩) (fun r90 hr90 => ?_)
    obtain rfl : r90 = (bwN V b d x false) := hr90
    have hsh : rsS V b d x p n = false := decide_eq_false (fun q => h6 q.1)
    refine lv_istore hx hb d_Mo_reserveWrong_93 hl (by decide) rfl (fun ls hl => ?_)
    replace hl : lv_has ls 7 [(6, .int (bwN V b d x false)), (5, .int (bi false)), (0, .ref o), (1, .int (nI b)), (2, .int (nI x)), (3, .int (nI p)), (4, .int (nI n))] := hl
    refine lv_iload hx hb d_Mo_reserveWrong_95 (lv_at hl 0 rfl) ?_
    refine lv_if_ge hx hb d_Mo_reserveWrong_97 rfl (fun h9 => absurd h9 (Int32.not_le.mpr (bwN_f _ _ _ _))) (fun h97 => ?_)
    refine lv_iload hx hb d_Mo_reserveWrong_100 (lv_at hl 0 rfl) ?_
    refine lv_goto hx hb d_Mo_reserveWrong_102 rfl ?_
    exact W.iret (v := (bwN V b d x false)) hx hb hr (fun t ht hW => ⟨(bwN V b d x false), rfl, (by unfold rsW; rw [hsh, if_pos (Int32.not_le.mp h97)]), ht⟩) (fun q h => nomatch h) d_Mo_reserveWrong_123
  have h6 := Decidable.not_not.mp (mt bi_d.mpr h6)
  refine lv_iload hx hb d_Mo_reserveWrong_9 (lv_at hl 4 rfl) ?_
  refine lv_aload_n hx hb d_Mo_reserveWrong_11 rfl (lv_at hl 0 rfl) ?_
  refine va_get (D := (dC, dI)) (ci := 5) (v := .ref (a 2)) (C := R_Mo) (T := F_Mo) (N := 19) hx hb hts u_Mo hown hK hP 0 rfl rfl 3 (by decide) (hts _ kw_717) (fun _ h9 => h9) rfl d_Mo_reserveWrong_12 ?_
  refine lv_iload_n hx hb d_Mo_reserveWrong_15 rfl (lv_at hl 1 rfl) ?_
  refine lv_iload_n hx hb d_Mo_reserveWrong_16 rfl (lv_at hl 2 rfl) ?_
  refine lv_iadd hx hb d_Mo_reserveWrong_17 ?_
  refine x_topi (y := (nI (b + x))) (nI_add _ _) ?_
  refine x_iald (j := (b + x)) (v := (nI (V.len (b + x)))) hx hb hK hP 3 0 rfl rfl (by have := hV.mn d; omega) (by decide) rfl rfl d_Mo_reserveWrong_18 ?_
  refine lv_icmp_le hx hb d_Mo_reserveWrong_19 rfl (fun h19 => ?_) (fun h19 => ?_)
  · have h19 := (k_le hn0 (by have := hV.len (b + x); omega)).mp h19
    refine lv_iconst (v := 0) hx hb d_Mo_reserveWrong_33 (by decide) ?_
    refine x_topi (y := (bi false)) rfl ?_
    refine lv_istore hx hb d_Mo_reserveWrong_34 hl (by decide) rfl (fun ls hl => ?_)
    replace hl : lv_has ls 7 [(5, .int (bi false)), (0, .ref o), (1, .int (nI b)), (2, .int (nI x)), (3, .int (nI p)), (4, .int (nI n))] := hl
    refine lv_iload hx hb d_Mo_reserveWrong_36 (lv_at hl 0 rfl) ?_
    refine lv_if_eq hx hb d_Mo_reserveWrong_38 rfl (fun _ => ?_) (fun h9 => absurd (rfl) h9)
    refine lv_iconst (v := 0) hx hb d_Mo_reserveWrong_82 (by decide) ?_
    refine x_topi (y := (bi false)) rfl ?_
    refine lv_istore hx hb d_Mo_reserveWrong_83 hl (by decide) rfl (fun ls hl => ?_)
    replace hl : lv_has ls 7 [(5, .int (bi false)), (0, .ref o), (1, .int (nI b)), (2, .int (nI x)), (3, .int (nI p)), (4, .int (nI n))] := hl
    refine lv_aload_n hx hb d_Mo_reserveWrong_85 rfl (lv_at hl 1 rfl) ?_
    refine lv_iload_n hx hb d_Mo_reserveWrong_86 rfl (lv_at hl 2 rfl) ?_
    refine lv_iload_n hx hb d_Mo_reserveWrong_87 rfl (lv_at hl 3 rfl) ?_
    refine lv_iload hx hb d_Mo_reserveWrong_88 (lv_at hl 0 rfl) ?_
    refine vp_callSi (W.runV (b := o) (As := [.int (nI b), .int (nI x), .int (bi false)]) (rest := []) ⟨hx, hb, hml, hown, hts⟩ (c_Mo_belowWrong l dC dI cI o a V hV b d x hd hod hx0 false) (cwV 3 hts (gV kw_821 kw_823 ks_29 kw_6 kw_824) rfl rfl rfl (by decide +kernel) ⟨Nat.le_of_ble_eq_true rfl, Nat.le_of_ble_eq_true rfl⟩) ⟨PcS.blind, va_recv (q0 := 0) hK hP rfl rfl, PcS.use hP hK hN⟩ rfl rfl hl.1 rfl (lv_room (Nat.le_of_ble_eq_true rfl)) d_Mo_reserveWrong_90 ⟨Nat.zero_le _, Nat.zero_le _⟩) (fun r90 hr90 => ?_)
    obtain rfl : r90 = (bwN V b d x false) := hr90
    have hsh : rsS V b d x p n = false := decide_eq_false (fun q => by omega)
    refine lv_istore hx hb d_Mo_reserveWrong_93 hl (by decide) rfl (fun ls hl => ?_)
    replace hl : lv_has ls 7 [(6, .int (bwN V b d x false)), (5, .int (bi false)), (0, .ref o), (1, .int (nI b)), (2, .int (nI x)), (3, .int (nI p)), (4, .int (nI n))] := hl
    refine lv_iload hx hb d_Mo_reserveWrong_95 (lv_at hl 0 rfl) ?_
    refine lv_if_ge hx hb d_Mo_reserveWrong_97 rfl (fun h9 => absurd h9 (Int32.not_le.mpr (bwN_f _ _ _ _))) (fun h97 => ?_)
    refine lv_iload hx hb d_Mo_reserveWrong_100 (lv_at hl 0 rfl) ?_
    refine lv_goto hx hb d_Mo_reserveWrong_102 rfl ?_
    exact W.iret (v := (bwN V b d x false)) hx hb hr (fun t ht hW => ⟨(bwN V b d x false), rfl, (by unfold rsW; rw [hsh, if_pos (Int32.not_le.mp h97)]), ht⟩) (fun q h => nomatch h) d_Mo_reserveWrong_123
  have h19 := mt (k_le hn0 (by have := hV.len (b + x); omega)).mpr h19
  refine lv_iload hx hb d_Mo_reserveWrong_22 (lv_at hl 4 rfl) ?_
  refine lv_bipush (v := 32) hx hb d_Mo_reserveWrong_24 (by decide) ?_
  refine lv_icmp_gt hx hb d_Mo_reserveWrong_26 rfl (fun h26 => ?_) (fun h26 => ?_)
  · have h26 := (k_lt' (a := 32) (by decide) hn0).mp h26
    refine lv_iconst (v := 0) hx hb d_Mo_reserveWrong_33 (by decide) ?_
    refine x_topi (y := (bi false)) rfl ?_
    refine lv_istore hx hb d_Mo_reserveWrong_34 hl (by decide) rfl (fun ls hl => ?_)
    replace hl : lv_has ls 7 [(5, .int (bi false)), (0, .ref o), (1, .int (nI b)), (2, .int (nI x)), (3, .int (nI p)), (4, .int (nI n))] := hl
    refine lv_iload hx hb d_Mo_reserveWrong_36 (lv_at hl 0 rfl) ?_
    refine lv_if_eq hx hb d_Mo_reserveWrong_38 rfl (fun _ => ?_) (fun h9 => absurd (rfl) h9)
    refine lv_iconst (v := 0) hx hb d_Mo_reserveWrong_82 (by decide) ?_
    refine x_topi (y := (bi false)) rfl ?_
    refine lv_istore hx hb d_Mo_reserveWrong_83 hl (by decide) rfl (fun ls hl => ?_)
    replace hl : lv_has ls 7 [(5, .int (bi false)), (0, .ref o), (1, .int (nI b)), (2, .int (nI x)), (3, .int (nI p)), (4, .int (nI n))] := hl
    refine lv_aload_n hx hb d_Mo_reserveWrong_85 rfl (lv_at hl 1 rfl) ?_
    refine lv_iload_n hx hb d_Mo_reserveWrong_86 rfl (lv_at hl 2 rfl) ?_
    refine lv_iload_n hx hb d_Mo_reserveWrong_87 rfl (lv_at hl 3 rfl) ?_
    refine lv_iload hx hb d_Mo_reserveWrong_88 (lv_at hl 0 rfl) ?_
    refine vp_callSi (W.runV (b := o) (As := [.int (nI b), .int (nI x), .int (bi false)]) (rest := []) ⟨hx, hb, hml, hown, hts⟩ (c_Mo_belowWrong l dC dI cI o a V hV b d x hd hod hx0 false) (cwV 3 hts (gV kw_821 kw_823 ks_29 kw_6 kw_824) rfl rfl rfl (by decide +kernel) ⟨Nat.le_of_ble_eq_true rfl, Nat.le_of_ble_eq_true rfl⟩) ⟨PcS.blind, va_recv (q0 := 0) hK hP rfl rfl, PcS.use hP hK hN⟩ rfl rfl hl.1 rfl (lv_room (Nat.le_of_ble_eq_true rfl)) d_Mo_reserveWrong_90 ⟨Nat.zero_le _, Nat.zero_le _⟩) (fun r90 hr90 => ?_)
    obtain rfl : r90 = (bwN V b d x false) := hr90
    have hsh : rsS V b d x p n = false := decide_eq_false (fun q => by omega)
    refine lv_istore hx hb d_Mo_reserveWrong_93 hl (by decide) rfl (fun ls hl => ?_)
    replace hl : lv_has ls 7 [(6, .int (bwN V b d x false)), (5, .int (bi false)), (0, .ref o), (1, .int (nI b)), (2, .int (nI x)), (3, .int (nI p)), (4, .int (nI n))] := hl
    refine lv_iload hx hb d_Mo_reserveWrong_95 (lv_at hl 0 rfl) ?_
    refine lv_if_ge hx hb d_Mo_reserveWrong_97 rfl (fun h9 => absurd h9 (Int32.not_le.mpr (bwN_f _ _ _ _))) (fun h97 => ?_)
    refine lv_iload hx hb d_Mo_reserveWrong_100 (lv_at hl 0 rfl) ?_
    refine lv_goto hx hb d_Mo_reserveWrong_102 rfl ?_
    exact W.iret (v := (bwN V b d x false)) hx hb hr (fun t ht hW => ⟨(bwN V b d x false), rfl, (by unfold rsW; rw [hsh, if_pos (Int32.not_le.mp h97)]), ht⟩) (fun q h => nomatch h) d_Mo_reserveWrong_123
  have h26 := mt (k_lt' (a := 32) (by decide) hn0).mpr h26
  refine lv_iconst (v := 1) hx hb d_Mo_reserveWrong_29 (by decide) ?_
  refine x_topi (y := (bi true)) rfl ?_
  refine lv_goto hx hb d_Mo_reserveWrong_30 rfl ?_
  refine lv_istore hx hb d_Mo_reserveWrong_34 hl (by decide) rfl (fun ls hl => ?_)
  replace hl : lv_has ls 7 [(5, .int (bi true)), (0, .ref o), (1, .int (nI b)), (2, .int (nI x)), (3, .int (nI p)), (4, .int (nI n))] := hl
  refine lv_iload hx hb d_Mo_reserveWrong_36 (lv_at hl 0 rfl) ?_
  refine lv_if_eq hx hb d_Mo_reserveWrong_38 rfl (fun h9 => absurd h9 (by decide)) (fun _ => ?_)
  refine lv_iload_n hx hb d_Mo_reserveWrong_41 rfl (lv_at hl 4 rfl) ?_
  refine lv_iload hx hb d_Mo_reserveWrong_42 (lv_at hl 5 rfl) ?_
  refine vp_callSi (W.runS (As := [.int (nI n)]) (rest := [.int (nI p)]) ⟨hx, hb, hml, hown, hts⟩ (c_Mo_mask l dC dI n (by omega)) (cwS 1 hts (gS kw_787 kw_788 kw_6 kw_789) rfl rfl rfl (by decide +kernel) ⟨Nat.le_of_ble_eq_true rfl, Nat.le_of_ble_eq_true rfl⟩) ⟨PcS.blind, PcS.use hP hK hN⟩ rfl rfl hl.1 rfl (lv_room (Nat.le_of_ble_eq_true rfl)) d_Mo_reserveWrong_44 ⟨Nat.zero_le _, Nat.zero_le _⟩) (fun r44 hr44 => ?_)
  obtain rfl : r44 = (nI (mskN n)) := hr44
  refine lv_iconst (v := (-1)) hx hb d_Mo_reserveWrong_47 (by decide) ?_
  refine lv_ixor hx hb d_Mo_reserveWrong_48 ?_
  refine lv_iand hx hb d_Mo_reserveWrong_49 ?_
  refine x_topi (y := (nI (p % 2 ^ (32 - n)))) (k_low hp0 (by omega)) ?_
  refine lv_if_ne hx hb d_Mo_reserveWrong_50 rfl (fun h50 => ?_) (fun h50 => ?_)
  · have h50 := mt (k_eq (b := 0) (by have := Nat.mod_le p (2 ^ (32 - n)); omega) (by decide)).mpr h50
    refine lv_iconst (v := 0) hx hb d_Mo_reserveWrong_82 (by decide) ?_
    refine x_topi (y := (bi false)) rfl ?_
    refine lv_istore hx hb d_Mo_reserveWrong_83 hl (by decide) rfl (fun ls hl => ?_)
    replace hl : lv_has ls 7 [(5, .int (bi false)), (0, .ref o), (1, .int (nI b)), (2, .int (nI x)), (3, .int (nI p)), (4, .int (nI n))] := hl
    refine lv_aload_n hx hb d_Mo_reserveWrong_85 rfl (lv_at hl 1 rfl) ?_
    refine lv_iload_n hx hb d_Mo_reserveWrong_86 rfl (lv_at hl 2 rfl) ?_
    refine lv_iload_n hx hb d_Mo_reserveWrong_87 rfl (lv_at hl 3 rfl) ?_
    refine lv_iload hx hb d_Mo_reserveWrong_88 (lv_at hl 0 rfl) ?_
    refine vp_callSi (W.runV (b := o) (As := [.int (nI b), .int (nI x), .int (bi false)]) (rest := []) ⟨hx, hb, hml, hown, hts⟩ (c_Mo_belowWrong l dC dI cI o a V hV b d x hd hod hx0 false) (cwV 3 hts (gV kw_821 kw_823 ks_29 kw_6 kw_824) rfl rfl rfl (by decide +kernel) ⟨Nat.le_of_ble_eq_true rfl, Nat.le_of_ble_eq_true rfl⟩) ⟨PcS.blind, va_recv (q0 := 0) hK hP rfl rfl, PcS.use hP hK hN⟩ rfl rfl hl.1 rfl (lv_room (Nat.le_of_ble_eq_true rfl)) d_Mo_reserveWrong_90 ⟨Nat.zero_le _, Nat.zero_le _⟩) (fun r90 hr90 => ?_)
    obtain rfl : r90 = (bwN V b d x false) := hr90
    have hsh : rsS V b d x p n = false := decide_eq_false (fun q => h50 q.2.2.2.1)
    refine lv_istore hx hb d_Mo_reserveWrong_93 hl (by decide) rfl (fun ls hl => ?_)
    replace hl : lv_has ls 7 [(6, .int (bwN V b d x false)), (5, .int (bi false)), (0, .ref o), (1, .int (nI b)), (2, .int (nI x)), (3, .int (nI p)), (4, .int (nI n))] := hl
    refine lv_iload hx hb d_Mo_reserveWrong_95 (lv_at hl 0 rfl) ?_
    refine lv_if_ge hx hb d_Mo_reserveWrong_97 rfl (fun h9 => absurd h9 (Int32.not_le.mpr (bwN_f _ _ _ _))) (fun h97 => ?_)
    refine lv_iload hx hb d_Mo_reserveWrong_100 (lv_at hl 0 rfl) ?_
    refine lv_goto hx hb d_Mo_reserveWrong_102 rfl ?_
    exact W.iret (v := (bwN V b d x false)) hx hb hr (fun t ht hW => ⟨(bwN V b d x false), rfl, (by unfold rsW; rw [hsh, if_pos (Int32.not_le.mp h97)]), ht⟩) (fun q h => nomatch h) d_Mo_reserveWrong_123
  have h50 := (k_eq (b := 0) (by have := Nat.mod_le p (2 ^ (32 - n)); omega) (by decide)).mp h50
  refine lv_iload_n hx hb d_Mo_reserveWrong_53 rfl (lv_at hl 4 rfl) ?_
  refine lv_iload hx hb d_Mo_reserveWrong_54 (lv_at hl 5 rfl) ?_
  refine lv_aload_n hx hb d_Mo_reserveWrong_56 rfl (lv_at hl 1 rfl) ?_
  refine va_get (D := (dC, dI)) (ci := 5) (v := .ref (a 1)) (C := R_Mo) (T := F_Mo) (N := 19) hx hb hts u_Mo hown hK hP 0 rfl rfl 2 (by decide) (hts _ kw_716) (fun _ h9 => h9) rfl d_Mo_reserveWrong_57 ?_
  refine lv_iload_n hx hb d_Mo_reserveWrong_60 rfl (lv_at hl 2 rfl) ?_
  refine lv_iload_n hx hb d_Mo_reserveWrong_61 rfl (lv_at hl 3 rfl) ?_
  refine lv_iadd hx hb d_Mo_reserveWrong_62 ?_
  refine x_topi (y := (nI (b + x))) (nI_add _ _) ?_
  refine x_iald (j := (b + x)) (v := (nI (V.pre (b + x)))) hx hb hK hP 2 0 rfl rfl (by have := hV.mn d; omega) (by decide) rfl rfl d_Mo_reserveWrong_63 ?_
  refine lv_aload_n hx hb d_Mo_reserveWrong_64 rfl (lv_at hl 1 rfl) ?_
  refine va_get (D := (dC, dI)) (ci := 5) (v := .ref (a 2)) (C := R_Mo) (T := F_Mo) (N := 19) hx hb hts u_Mo hown hK hP 0 rfl rfl 3 (by decide) (hts _ kw_717) (fun _ h9 => h9) rfl d_Mo_reserveWrong_65 ?_
  refine lv_iload_n hx hb d_Mo_reserveWrong_68 rfl (lv_at hl 2 rfl) ?_
  refine lv_iload_n hx hb d_Mo_reserveWrong_69 rfl (lv_at hl 3 rfl) ?_
  refine lv_iadd hx hb d_Mo_reserveWrong_70 ?_
  refine x_topi (y := (nI (b + x))) (nI_add _ _) ?_
  refine x_iald (j := (b + x)) (v := (nI (V.len (b + x)))) hx hb hK hP 3 0 rfl rfl (by have := hV.mn d; omega) (by decide) rfl rfl d_Mo_reserveWrong_71 ?_
  refine vp_callSi (W.runS (As := [.int (nI p), .int (nI n), .int (nI (V.pre (b + x))), .int (nI (V.len (b + x)))]) (rest := []) ⟨hx, hb, hml, hown, hts⟩ (c_Mo_meets l dC dI p n (V.pre (b + x)) (V.len (b + x)) hp0 (by omega) (hV.pre _) (hV.len _)) (cwS 4 hts (gS kw_794 kw_795 kw_6 kw_796) rfl rfl rfl (by decide +kernel) ⟨Nat.le_of_ble_eq_true rfl, Nat.le_of_ble_eq_true rfl⟩) ⟨PcS.blind, PcS.use hP hK hN⟩ rfl rfl hl.1 rfl (lv_room (Nat.le_of_ble_eq_true rfl)) d_Mo_reserveWrong_72 ⟨Nat.zero_le _, Nat.zero_le _⟩) (fun r72 hr72 => ?_)
  obtain rfl : r72 = bi (decide (mtM p n (V.pre (b + x)) (V.len (b + x)))) := hr72
  refine lv_if_eq hx hb d_Mo_reserveWrong_75 rfl (fun h75 => ?_) (fun h75 => ?_)
  · have h75 := bi_d.mp h75
    refine lv_iconst (v := 0) hx hb d_Mo_reserveWrong_82 (by decide) ?_
    refine x_topi (y := (bi false)) rfl ?_
    refine lv_istore hx hb d_Mo_reserveWrong_83 hl (by decide) rfl (fun ls hl => ?_)
    replace hl : lv_has ls 7 [(5, .int (bi false)), (0, .ref o), (1, .int (nI b)), (2, .int (nI x)), (3, .int (nI p)), (4, .int (nI n))] := hl
    refine lv_aload_n hx hb d_Mo_reserveWrong_85 rfl (lv_at hl 1 rfl) ?_
    refine lv_iload_n hx hb d_Mo_reserveWrong_86 rfl (lv_at hl 2 rfl) ?_
    refine lv_iload_n hx hb d_Mo_reserveWrong_87 rfl (lv_at hl 3 rfl) ?_
    refine lv_iload hx hb d_Mo_reserveWrong_88 (lv_at hl 0 rfl) ?_
    refine vp_callSi (W.runV (b := o) (As := [.int (nI b), .int (nI x), .int (bi false)]) (rest := []) ⟨hx, hb, hml, hown, hts⟩ (c_Mo_belowWrong l dC dI cI o a V hV b d x hd hod hx0 false) (cwV 3 hts (gV kw_821 kw_823 ks_29 kw_6 kw_824) rfl rfl rfl (by decide +kernel) ⟨Nat.le_of_ble_eq_true rfl, Nat.le_of_ble_eq_true rfl⟩) ⟨PcS.blind, va_recv (q0 := 0) hK hP rfl rfl, PcS.use hP hK hN⟩ rfl rfl hl.1 rfl (lv_room (Nat.le_of_ble_eq_true rfl)) d_Mo_reserveWrong_90 ⟨Nat.zero_le _, Nat.zero_le _⟩) (fun r90 hr90 => ?_)
    obtain rfl : r90 = (bwN V b d x false) := hr90
    have hsh : rsS V b d x p n = false := decide_eq_false (fun q => h75 q.2.2.2.2)
    refine lv_istore hx hb d_Mo_reserveWrong_93 hl (by decide) rfl (fun ls hl => ?_)
    replace hl : lv_has ls 7 [(6, .int (bwN V b d x false)), (5, .int (bi false)), (0, .ref o), (1, .int (nI b)), (2, .int (nI x)), (3, .int (nI p)), (4, .int (nI n))] := hl
    refine lv_iload hx hb d_Mo_reserveWrong_95 (lv_at hl 0 rfl) ?_
    refine lv_if_ge hx hb d_Mo_reserveWrong_97 rfl (fun h9 => absurd h9 (Int32.not_le.mpr (bwN_f _ _ _ _))) (fun h97 => ?_)
    refine lv_iload hx hb d_Mo_reserveWrong_100 (lv_at hl 0 rfl) ?_
    refine lv_goto hx hb d_Mo_reserveWrong_102 rfl ?_
    exact W.iret (v := (bwN V b d x false)) hx hb hr (fun t ht hW => ⟨(bwN V b d x false), rfl, (by unfold rsW; rw [hsh, if_pos (Int32.not_le.mp h97)]), ht⟩) (fun q h => nomatch h) d_Mo_reserveWrong_123
  have h75 := Decidable.not_not.mp (mt bi_d.mpr h75)
  refine lv_iconst (v := 1) hx hb d_Mo_reserveWrong_78 (by decide) ?_
  refine x_topi (y := (bi true)) rfl ?_
  refine lv_goto hx hb d_Mo_reserveWrong_79 rfl ?_
  refine lv_istore hx hb d_Mo_reserveWrong_83 hl (by decide) rfl (fun ls hl => ?_)
  replace hl : lv_has ls 7 [(5, .int (bi true)), (0, .ref o), (1, .int (nI b)), (2, .int (nI x)), (3, .int (nI p)), (4, .int (nI n))] := hl
  refine lv_aload_n hx hb d_Mo_reserveWrong_85 rfl (lv_at hl 1 rfl) ?_
  refine lv_iload_n hx hb d_Mo_reserveWrong_86 rfl (lv_at hl 2 rfl) ?_
  refine lv_iload_n hx hb d_Mo_reserveWrong_87 rfl (lv_at hl 3 rfl) ?_
  refine lv_iload hx hb d_Mo_reserveWrong_88 (lv_at hl 0 rfl) ?_
  refine vp_callSi (W.runV (b := o) (As := [.int (nI b), .int (nI x), .int (bi true)]) (rest := []) ⟨hx, hb, hml, hown, hts⟩ (c_Mo_belowWrong l dC dI cI o a V hV b d x hd hod hx0 true) (cwV 3 hts (gV kw_821 kw_823 ks_29 kw_6 kw_824) rfl rfl rfl (by decide +kernel) ⟨Nat.le_of_ble_eq_true rfl, Nat.le_of_ble_eq_true rfl⟩) ⟨PcS.blind, va_recv (q0 := 0) hK hP rfl rfl, PcS.use hP hK hN⟩ rfl rfl hl.1 rfl (lv_room (Nat.le_of_ble_eq_true rfl)) d_Mo_reserveWrong_90 ⟨Nat.zero_le _, Nat.zero_le _⟩) (fun r90 hr90 => ?_)
  obtain rfl : r90 = (bwN V b d x true) := hr90
  have hsh : rsS V b d x p n = true := decide_eq_true ⟨h6, by omega, by omega, h50, h75⟩
  refine lv_istore hx hb d_Mo_reserveWrong_93 hl (by decide) rfl (fun ls hl => ?_)
  replace hl : lv_has ls 7 [(6, .int (bwN V b d x true)), (5, .int (bi true)), (0, .ref o), (1, .int (nI b)), (2, .int (nI x)), (3, .int (nI p)), (4, .int (nI n))] := hl
  refine lv_iload hx hb d_Mo_reserveWrong_95 (lv_at hl 0 rfl) ?_
  refine lv_if_ge hx hb d_Mo_reserveWrong_97 rfl (fun h97 => ?_) (fun h97 => ?_)
  · have h97 := Int32.not_lt.mpr h97
    refine lv_aload_n hx hb d_Mo_reserveWrong_105 rfl (lv_at hl 2 rfl) ?_
    refine lv_iload_n hx hb d_Mo_reserveWrong_106 rfl (lv_at hl 3 rfl) ?_
    refine lv_iload_n hx hb d_Mo_reserveWrong_107 rfl (lv_at hl 4 rfl) ?_
    refine lv_iadd hx hb d_Mo_reserveWrong_108 ?_
    refine x_topi (y := (nI (b + x))) (nI_add _ _) ?_
    refine lv_iload_n hx hb d_Mo_reserveWrong_109 rfl (lv_at hl 5 rfl) ?_
    refine lv_iload hx hb d_Mo_reserveWrong_110 (lv_at hl 6 rfl) ?_
    refine vp_callSi (W.runV (b := o) (As := [.int (nI (b + x)), .int (nI p), .int (nI n)]) (rest := []) ⟨hx, hb, hml, hown, hts⟩ (c_Mo_isFree l dC dI cI o a V hV (b + x) (by have := hV.mn d; omega) p n hp0 (by omega)) (cwV 3 hts (gV kw_867 kw_869 ks_39 kw_6 kw_870) rfl rfl rfl (by decide +kernel) ⟨Nat.le_of_ble_eq_true rfl, Nat.le_of_ble_eq_true rfl⟩) ⟨PcS.blind, va_recv (q0 := 0) hK hP rfl rfl, PcS.use hP hK hN⟩ rfl rfl hl.1 rfl (lv_room (Nat.le_of_ble_eq_true rfl)) d_Mo_reserveWrong_112 ⟨Nat.zero_le _, Nat.zero_le _⟩) (fun r112 hr112 => ?_)
    obtain rfl : r112 = bi (decide (V.len (b + x) ≤ n ∧ mtM p n (V.pre (b + x)) (V.len (b + x)) ∧ tkN V (b + x) p n = none)) := hr112
    refine lv_if_eq hx hb d_Mo_reserveWrong_115 rfl (fun h115 => ?_) (fun h115 => ?_)
    · have h115 := bi_d.mp h115
      refine lv_iconst (v := (-1)) hx hb d_Mo_reserveWrong_122 (by decide) ?_
      exact W.iret (v := (-1)) hx hb hr (fun t ht hW => ⟨(-1), rfl, (by unfold rsW; rw [hsh, if_neg h97, if_neg h115]), ht⟩) (fun q h => nomatch h) d_Mo_reserveWrong_123
    have h115 := Decidable.not_not.mp (mt bi_d.mpr h115)
    refine lv_iconst (v := 0) hx hb d_Mo_reserveWrong_118 (by decide) ?_
    refine lv_goto hx hb d_Mo_reserveWrong_119 rfl ?_
    exact W.iret (v := 0) hx hb hr (fun t ht hW => ⟨0, rfl, (by unfold rsW; rw [hsh, if_neg h97, if_pos h115]), ht⟩) (fun q h => nomatch h) d_Mo_reserveWrong_123
  have h97 := Int32.not_le.mp h97
  refine lv_iload hx hb d_Mo_reserveWrong_100 (lv_at hl 0 rfl) ?_
  refine lv_goto hx hb d_Mo_reserveWrong_102 rfl ?_
  exact W.iret (v := (bwN V b d x true)) hx hb hr (fun t ht hW => ⟨(bwN V b d x true), rfl, (by unfold rsW; rw [hsh, if_pos h97]), ht⟩) (fun q h => nomatch h) d_Mo_reserveWrong_123
set_option maxHeartbeats 4000000 in
set_option maxRecDepth 100000 in
theorem c_Mo_reserve (l : Launch) (dC : Nat → ClassId) (dI : Nat → Nat → Nat) (sz : Nat) (cI : ClassId) (o : Nat) (a : Nat → Nat) (V : MS) (hV : MSok V) (x p n : Nat) (hx0 : x < 4294967296) (hp0 : p < 4294967296) (hn0 : n < 4294967296) : Met l y_Mo_reserve (.code y_Mo_reserve b_Mo_reserve 5 (some .int) :: wG) ({ frames := 5, cells := 0, slots := 0, locals := 117 }) (PcM (dC, dI) [(cI, .int)] (wMo cI o a V) [.ref o, .int (nI x), .int (nI p), .int (nI n)] sz) (QmI (dC, dI) [(cI, .int)] (wMo cI o a V) (wMo cI o a (moRes V x p n)) sz (moResR V x p n)) 0 0 (va_A (wMo cI o a V) sz) := by
  refine Met.ofW (cc := b_Mo_reserve) (maxL := 5) (ret := (some .int)) (by decide) rfl ?_
  intro pg eg s mg ag bg meth cg s₁ B hml hv
  obtain ⟨rfl, hsz, hP, hK, hD0, hN⟩ := hv
  have hx := B.exec
  have hb := B.bytes
  have hr := B.returns
  have hlocks := B.notSynchronized
  have hts : ∀ w9 ∈ wG, w9.before ([.ref o, .int (nI x), .int (nI p), .int (nI n)] : List Value).toArray s = true := fun w9 h9 => atoms_spec (ws := (.code y_Mo_reserve b_Mo_reserve 5 (some .int) :: wG)) B.pre w9 (List.mem_cons_of_mem _ h9)
  have hown : s.vm.findClass "PrefixRegistryModel" = some mg.cls := findClass_of_methodNamed B.named
  subst hsz
  have hD := hD0.self (sz := s.heap.size)
  unfold QmI
  generalize hAe : va_A (wMo cI o a V) s.heap.size = A at hD ⊢
  have hA : ∀ q : Nat, s.heap.size ≤ q → A q := fun q h => by rw [← hAe]; exact Or.inr h
  have hS : va_S A s.heap s.heap [] := va_S.rf
  have hl := lv_entry ([.ref o, .int (nI x), .int (nI p), .int (nI n)]) (n := 5) (Nat.le_of_ble_eq_true rfl)
  rw [lg_entry_eq]
  generalize (lg_sl ([.ref o, .int (nI x), .int (nI p), .int (nI n)]) ++ List.replicate (5 - (lg_sl ([.ref o, .int (nI x), .int (nI p), .int (nI n)])).length) Slot.unset).toArray = ls at hl ⊢
  replace hl : lv_has ls 5 [(0, .ref o), (1, .int (nI x)), (2, .int (nI p)), (3, .int (nI n))] := hl
  replace hP : va_P (dC, dI) classes (wMo cI o a V) s.heap := hP
  replace hD : va_D A (wMo cI o a V) := hD
  refine lv_aload_n hx hb d_Mo_reserve_0 rfl (lv_at hl 0 rfl) ?_
  refine lv_iconst (v := 0) hx hb d_Mo_reserve_1 (by decide) ?_
  refine lv_iload_n hx hb d_Mo_reserve_2 rfl (lv_at hl 1 rfl) ?_
  refine lv_iload_n hx hb d_Mo_reserve_3 rfl (lv_at hl 2 rfl) ?_
  refine lv_iload_n hx hb d_Mo_reserve_4 rfl (lv_at hl 3 rfl) ?_
  refine vp_callSi (W.runV (b := o) (As := [.int 0, .int (nI x), .int (nI p), .int (nI n)]) (rest := []) ⟨hx, hb, hml, hown, hts⟩ (c_Mo_reserveWrong l dC dI cI o a V hV 0 0 x (by decide) rfl hx0 p n hp0 hn0) (cwV 4 hts (gV kw_879 kw_881 ks_41 kw_6 kw_882) rfl rfl rfl (by decide +kernel) ⟨Nat.le_of_ble_eq_true rfl, Nat.le_of_ble_eq_true rfl⟩) ⟨PcS.blind, va_recv (q0 := 0) hK hP rfl rfl, PcS.use hP hK hN⟩ rfl rfl hl.1 rfl (lv_room (Nat.le_of_ble_eq_true rfl)) d_Mo_reserve_5 ⟨Nat.zero_le _, Nat.zero_le _⟩) (fun r5 hr5 => ?_)
  obtain rfl : r5 = (rsW V 0 0 x p n) := hr5
  refine lv_istore hx hb d_Mo_reserve_8 hl (by decide) rfl (fun ls hl => ?_)
  replace hl : lv_has ls 5 [(4, .int (rsW V 0 0 x p n)), (0, .ref o), (1, .int (nI x)), (2, .int (nI p)), (3, .int (nI n))] := hl
  refine lv_aload_n hx hb d_Mo_reserve_10 rfl (lv_at hl 1 rfl) ?_
  refine lv_iload hx hb d_Mo_reserve_11 (lv_at hl 0 rfl) ?_
  refine lv_if_ne hx hb d_Mo_reserve_13 rfl (fun h13 => ?_) (fun h13 => ?_)
  · refine lv_iconst (v := 0) hx hb d_Mo_reserve_27 (by decide) ?_
    refine va_put (D := (dC, dI)) (ci := 5) (v := .int 0) (ty := .int) (C := R_Mo) (T := F_Mo) (N := 19) hx hb hts u_Mo t_Mo t_Mo_ok n_Mo hown hK hP hD hS 0 rfl rfl 0 (by decide) (hts _ kw_714) (fun _ h9 => h9) rfl (by decide +kernel) rfl rfl (Nat.le_of_ble_eq_true rfl) d_Mo_reserve_28 (fun H locs hP hD hS => ?_)
    replace hP : va_P (dC, dI) classes [(o, .inr (5, [.int 0, .ref (a 0), .ref (a 1), .ref (a 2), .ref (a 3), .ref (a 4), .ref (a 5), .ref (a 6), .ref (a 7), .ref (a 8), .ref (a 9), .ref (a 10), .int (nI V.ne), .ref (a 11), .ref (a 12), .ref (a 13), .ref (a 14), .long V.fo, .int V.fl])), ((a 0), .inl (cI, 2, .inl (fun z9 => nI (V.mn z9)))), ((a 1), .inl (cI, 400, .inl (fun z9 => nI (V.pre z9)))), ((a 2), .inl (cI, 400, .inl (fun z9 => nI (V.len z9)))), ((a 3), .inl (cI, 400, .inl (fun z9 => pI (V.par z9)))), ((a 4), .inl (cI, 400, .inl (fun z9 => nI (V.lev z9)))), ((a 5), .inl (cI, 400, .inl (fun z9 => nI (V.hol z9)))), ((a 6), .inl (cI, 400, .inl (fun z9 => nI (V.sta z9)))), ((a 7), .inl (cI, 400, .inl (fun z9 => nI (V.en z9)))), ((a 8), .inl (cI, 2, .inl (fun z9 => nI (V.tdy z9)))), ((a 9), .inl (cI, 2, .inl (fun z9 => nI (V.dys z9)))), ((a 10), .inl (cI, 8, .inl (fun z9 => nI (V.pol z9)))), ((a 11), .inl (cI, 300, .inl V.kd)), ((a 12), .inl (cI, 300, .inl V.fi)), ((a 13), .inl (cI, 300, .inl V.se)), ((a 14), .inl (cI, 300, .inl V.th))] H := hP
    replace hD : va_D A [(o, .inr (5, [.int 0, .ref (a 0), .ref (a 1), .ref (a 2), .ref (a 3), .ref (a 4), .ref (a 5), .ref (a 6), .ref (a 7), .ref (a 8), .ref (a 9), .ref (a 10), .int (nI V.ne), .ref (a 11), .ref (a 12), .ref (a 13), .ref (a 14), .long V.fo, .int V.fl])), ((a 0), .inl (cI, 2, .inl (fun z9 => nI (V.mn z9)))), ((a 1), .inl (cI, 400, .inl (fun z9 => nI (V.pre z9)))), ((a 2), .inl (cI, 400, .inl (fun z9 => nI (V.len z9)))), ((a 3), .inl (cI, 400, .inl (fun z9 => pI (V.par z9)))), ((a 4), .inl (cI, 400, .inl (fun z9 => nI (V.lev z9)))), ((a 5), .inl (cI, 400, .inl (fun z9 => nI (V.hol z9)))), ((a 6), .inl (cI, 400, .inl (fun z9 => nI (V.sta z9)))), ((a 7), .inl (cI, 400, .inl (fun z9 => nI (V.en z9)))), ((a 8), .inl (cI, 2, .inl (fun z9 => nI (V.tdy z9)))), ((a 9), .inl (cI, 2, .inl (fun z9 => nI (V.dys z9)))), ((a 10), .inl (cI, 8, .inl (fun z9 => nI (V.pol z9)))), ((a 11), .inl (cI, 300, .inl V.kd)), ((a 12), .inl (cI, 300, .inl V.fi)), ((a 13), .inl (cI, 300, .inl V.se)), ((a 14), .inl (cI, 300, .inl V.th))] := hD
    refine lv_iload hx hb d_Mo_reserve_31 (lv_at hl 0 rfl) ?_
    refine lv_if_lt hx hb d_Mo_reserve_33 rfl (fun _ => ?_) (fun hF9 => absurd (rsW_neg h13) hF9)
    refine lv_aload_n hx hb d_Mo_reserve_43 rfl (lv_at hl 1 rfl) ?_
    refine va_get (D := (dC, dI)) (ci := 5) (v := .int 0) (C := R_Mo) (T := F_Mo) (N := 19) hx hb hts u_Mo hown hK hP 0 rfl rfl 0 (by decide) (hts _ kw_714) (fun _ h9 => h9) rfl d_Mo_reserve_44 ?_
    refine lv_if_le hx hb d_Mo_reserve_47 rfl (fun _ => ?_) (fun hF9 => absurd (by decide) hF9)
    refine lv_iload hx hb d_Mo_reserve_54 (lv_at hl 0 rfl) ?_
    have e9 : moRes V x p n = (mkV V.mn V.pre V.len V.lev V.hol V.sta V.en V.tdy V.dys V.pol V.par V.kd V.fi V.se V.th V.ne 0 V.fo V.fl) := by unfold moRes; rw [if_neg h13]
    have e8 : moResR V x p n = rsW V 0 0 x p n := by unfold moResR; rw [if_neg h13]
    have hP9 : va_P (dC, dI) classes (wMo cI o a (moRes V x p n)) H := by rw [e9]; exact hP
    have hD9 : va_D A (wMo cI o a (moRes V x p n)) := by rw [e9]; exact hD
    exact W.iret (v := (rsW V 0 0 x p n)) hx hb hr (fun t ht hW => ⟨⟨(rsW V 0 0 x p n), (), rfl, (by first | (rw [e8]; done) | (rw [e8]; rfl)), by rw [ht]; exact hP9, va_K.moved hW.alike hK, hD9⟩, hS.F ht⟩) hS.2.2 d_Mo_reserve_56
  refine lv_aload_n hx hb d_Mo_reserve_16 rfl (lv_at hl 1 rfl) ?_
  refine vp_callSi (W.runV (b := o) (As := []) (rest := [.ref o]) ⟨hx, hb, hml, hown, hts⟩ (c_Mo_isFullLog l dC dI cI o a V hV ) (cwV 0 hts (gV kw_797 kw_799 ks_24 kw_6 kw_800) rfl rfl rfl (by decide +kernel) ⟨Nat.le_of_ble_eq_true rfl, Nat.le_of_ble_eq_true rfl⟩) ⟨PcS.blind, va_recv (q0 := 0) hK hP rfl rfl, PcS.use hP hK hN⟩ rfl rfl hl.1 rfl (lv_room (Nat.le_of_ble_eq_true rfl)) d_Mo_reserve_17 ⟨Nat.zero_le _, Nat.zero_le _⟩) (fun r17 hr17 => ?_)
  obtain rfl : r17 = bi (decide (V.ne = 300)) := hr17
  refine lv_if_eq hx hb d_Mo_reserve_20 rfl (fun h20 => ?_) (fun h20 => ?_)
  · have h20 := bi_d.mp h20
    refine lv_iconst (v := 0) hx hb d_Mo_reserve_27 (by decide) ?_
    refine va_put (D := (dC, dI)) (ci := 5) (v := .int 0) (ty := .int) (C := R_Mo) (T := F_Mo) (N := 19) hx hb hts u_Mo t_Mo t_Mo_ok n_Mo hown hK hP hD hS 0 rfl rfl 0 (by decide) (hts _ kw_714) (fun _ h9 => h9) rfl (by decide +kernel) rfl rfl (Nat.le_of_ble_eq_true rfl) d_Mo_reserve_28 (fun H locs hP hD hS => ?_)
    replace hP : va_P (dC, dI) classes [(o, .inr (5, [.int 0, .ref (a 0), .ref (a 1), .ref (a 2), .ref (a 3), .ref (a 4), .ref (a 5), .ref (a 6), .ref (a 7), .ref (a 8), .ref (a 9), .ref (a 10), .int (nI V.ne), .ref (a 11), .ref (a 12), .ref (a 13), .ref (a 14), .long V.fo, .int V.fl])), ((a 0), .inl (cI, 2, .inl (fun z9 => nI (V.mn z9)))), ((a 1), .inl (cI, 400, .inl (fun z9 => nI (V.pre z9)))), ((a 2), .inl (cI, 400, .inl (fun z9 => nI (V.len z9)))), ((a 3), .inl (cI, 400, .inl (fun z9 => pI (V.par z9)))), ((a 4), .inl (cI, 400, .inl (fun z9 => nI (V.lev z9)))), ((a 5), .inl (cI, 400, .inl (fun z9 => nI (V.hol z9)))), ((a 6), .inl (cI, 400, .inl (fun z9 => nI (V.sta z9)))), ((a 7), .inl (cI, 400, .inl (fun z9 => nI (V.en z9)))), ((a 8), .inl (cI, 2, .inl (fun z9 => nI (V.tdy z9)))), ((a 9), .inl (cI, 2, .inl (fun z9 => nI (V.dys z9)))), ((a 10), .inl (cI, 8, .inl (fun z9 => nI (V.pol z9)))), ((a 11), .inl (cI, 300, .inl V.kd)), ((a 12), .inl (cI, 300, .inl V.fi)), ((a 13), .inl (cI, 300, .inl V.se)), ((a 14), .inl (cI, 300, .inl V.th))] H := hP
    replace hD : va_D A [(o, .inr (5, [.int 0, .ref (a 0), .ref (a 1), .ref (a 2), .ref (a 3), .ref (a 4), .ref (a 5), .ref (a 6), .ref (a 7), .ref (a 8), .ref (a 9), .ref (a 10), .int (nI V.ne), .ref (a 11), .ref (a 12), .ref (a 13), .ref (a 14), .long V.fo, .int V.fl])), ((a 0), .inl (cI, 2, .inl (fun z9 => nI (V.mn z9)))), ((a 1), .inl (cI, 400, .inl (fun z9 => nI (V.pre z9)))), ((a 2), .inl (cI, 400, .inl (fun z9 => nI (V.len z9)))), ((a 3), .inl (cI, 400, .inl (fun z9 => pI (V.par z9)))), ((a 4), .inl (cI, 400, .inl (fun z9 => nI (V.lev z9)))), ((a 5), .inl (cI, 400, .inl (fun z9 => nI (V.hol z9)))), ((a 6), .inl (cI, 400, .inl (fun z9 => nI (V.sta z9)))), ((a 7), .inl (cI, 400, .inl (fun z9 => nI (V.en z9)))), ((a 8), .inl (cI, 2, .inl (fun z9 => nI (V.tdy z9)))), ((a 9), .inl (cI, 2, .inl (fun z9 => nI (V.dys z9)))), ((a 10), .inl (cI, 8, .inl (fun z9 => nI (V.pol z9)))), ((a 11), .inl (cI, 300, .inl V.kd)), ((a 12), .inl (cI, 300, .inl V.fi)), ((a 13), .inl (cI, 300, .inl V.se)), ((a 14), .inl (cI, 300, .inl V.th))] := hD
    refine lv_iload hx hb d_Mo_reserve_31 (lv_at hl 0 rfl) ?_
    refine lv_if_lt hx hb d_Mo_reserve_33 rfl (fun hF9 => absurd hF9 (by rw [h13]; decide)) (fun _ => ?_)
    refine lv_aload_n hx hb d_Mo_reserve_36 rfl (lv_at hl 1 rfl) ?_
    refine va_get (D := (dC, dI)) (ci := 5) (v := .int 0) (C := R_Mo) (T := F_Mo) (N := 19) hx hb hts u_Mo hown hK hP 0 rfl rfl 0 (by decide) (hts _ kw_714) (fun _ h9 => h9) rfl d_Mo_reserve_37 ?_
    refine lv_if_le hx hb d_Mo_reserve_40 rfl (fun _ => ?_) (fun hF9 => absurd (by decide) hF9)
    refine lv_aload_n hx hb d_Mo_reserve_57 rfl (lv_at hl 1 rfl) ?_
    refine lv_iconst (v := 3) hx hb d_Mo_reserve_58 (by decide) ?_
    refine lv_iload_n hx hb d_Mo_reserve_59 rfl (lv_at hl 2 rfl) ?_
    refine lv_iload_n hx hb d_Mo_reserve_60 rfl (lv_at hl 3 rfl) ?_
    refine lv_iload_n hx hb d_Mo_reserve_61 rfl (lv_at hl 4 rfl) ?_
    have hPc := hP.sub (ws' := (wMo cI o a (mkV V.mn V.pre V.len V.lev V.hol V.sta V.en V.tdy V.dys V.pol V.par V.kd V.fi V.se V.th V.ne 0 V.fo V.fl))) [0, 1, 2, 3, 4, 5, 6, 7, 8, 9, 10, 11, 12, 13, 14, 15] rfl
    have hDc := hD.sub (ws' := (wMo cI o a (mkV V.mn V.pre V.len V.lev V.hol V.sta V.en V.tdy V.dys V.pol V.par V.kd V.fi V.se V.th V.ne 0 V.fo V.fl))) [0, 1, 2, 3, 4, 5, 6, 7, 8, 9, 10, 11, 12, 13, 14, 15] (by decide) rfl
    have hFc := va_free (wc := (wMo cI o a (mkV V.mn V.pre V.len V.lev V.hol V.sta V.en V.tdy V.dys V.pol V.par V.kd V.fi V.se V.th V.ne 0 V.fo V.fl))) hD hS hA [0, 1, 2, 3, 4, 5, 6, 7, 8, 9, 10, 11, 12, 13, 14, 15] rfl
    refine va_callv (va_runV (b := o) (As := [.int 3, .int (nI x), .int (nI p), .int (nI n)]) (rest := []) ⟨hx, hb, hml, hown, hts⟩ (c_Mo_note l dC dI H.size cI o a (mkV V.mn V.pre V.len V.lev V.hol V.sta V.en V.tdy V.dys V.pol V.par V.kd V.fi V.se V.th V.ne 0 V.fo V.fl) (show V.ne < 300 by have := hV.ne; omega) 3 (nI x) (nI p) (nI n)) (cwV 4 hts (gV kw_801 kw_803 ks_25 kw_6 kw_804) rfl rfl rfl (by decide +kernel) ⟨Nat.le_of_ble_eq_true rfl, Nat.le_of_ble_eq_true rfl⟩) ⟨PcM.blind, va_recv (q0 := 0) hK hPc rfl rfl, PcM.use hPc hK hN hDc⟩ rfl rfl hl.1 rfl (lv_room (Nat.le_of_ble_eq_true rfl)) d_Mo_reserve_62 ⟨Nat.le_of_ble_eq_true rfl, Nat.le_of_ble_eq_true rfl⟩) hS (fun q _ h => hFc q h) hFc (fun u9 H9 H1 locs hH9 hv9 hp9 hB hz1 hk1 hS => ?_)
    obtain ⟨hP1, hK1, hD1⟩ := hB
    rw [hH9] at hP1
    obtain ⟨hP, hD⟩ := va_join (wr := []) (w1 := (wMo cI o a (vNote (mkV V.mn V.pre V.len V.lev V.hol V.sta V.en V.tdy V.dys V.pol V.par V.kd V.fi V.se V.th V.ne 0 V.fo V.fl) 3 (nI x) (nI p) (nI n)))) hP hD [0, 1, 2, 3, 4, 5, 6, 7, 8, 9, 10, 11, 12, 13, 14, 15] [] rfl rfl (by decide) (by decide) hk1 hFc hP1 hD1
    clear hPc hDc hFc hP1 hD1 hK1 hk1 hz1 hv9 hH9
    generalize H1 = H at hP hS ⊢
    replace hP : va_P (dC, dI) classes [(o, .inr (5, [.int (nI (vNote (mkV V.mn V.pre V.len V.lev V.hol V.sta V.en V.tdy V.dys V.pol V.par V.kd V.fi V.se V.th V.ne 0 V.fo V.fl) 3 (nI x) (nI p) (nI n)).tc), .ref (a 0), .ref (a 1), .ref (a 2), .ref (a 3), .ref (a 4), .ref (a 5), .ref (a 6), .ref (a 7), .ref (a 8), .ref (a 9), .ref (a 10), .int (nI (vNote (mkV V.mn V.pre V.len V.lev V.hol V.sta V.en V.tdy V.dys V.pol V.par V.kd V.fi V.se V.th V.ne 0 V.fo V.fl) 3 (nI x) (nI p) (nI n)).ne), .ref (a 11), .ref (a 12), .ref (a 13), .ref (a 14), .long ((vNote (mkV V.mn V.pre V.len V.lev V.hol V.sta V.en V.tdy V.dys V.pol V.par V.kd V.fi V.se V.th V.ne 0 V.fo V.fl) 3 (nI x) (nI p) (nI n)).fo), .int ((vNote (mkV V.mn V.pre V.len V.lev V.hol V.sta V.en V.tdy V.dys V.pol V.par V.kd V.fi V.se V.th V.ne 0 V.fo V.fl) 3 (nI x) (nI p) (nI n)).fl)])), ((a 0), .inl (cI, 2, .inl (fun z9 => nI ((vNote (mkV V.mn V.pre V.len V.lev V.hol V.sta V.en V.tdy V.dys V.pol V.par V.kd V.fi V.se V.th V.ne 0 V.fo V.fl) 3 (nI x) (nI p) (nI n)).mn z9)))), ((a 1), .inl (cI, 400, .inl (fun z9 => nI ((vNote (mkV V.mn V.pre V.len V.lev V.hol V.sta V.en V.tdy V.dys V.pol V.par V.kd V.fi V.se V.th V.ne 0 V.fo V.fl) 3 (nI x) (nI p) (nI n)).pre z9)))), ((a 2), .inl (cI, 400, .inl (fun z9 => nI ((vNote (mkV V.mn V.pre V.len V.lev V.hol V.sta V.en V.tdy V.dys V.pol V.par V.kd V.fi V.se V.th V.ne 0 V.fo V.fl) 3 (nI x) (nI p) (nI n)).len z9)))), ((a 3), .inl (cI, 400, .inl (fun z9 => pI ((vNote (mkV V.mn V.pre V.len V.lev V.hol V.sta V.en V.tdy V.dys V.pol V.par V.kd V.fi V.se V.th V.ne 0 V.fo V.fl) 3 (nI x) (nI p) (nI n)).par z9)))), ((a 4), .inl (cI, 400, .inl (fun z9 => nI ((vNote (mkV V.mn V.pre V.len V.lev V.hol V.sta V.en V.tdy V.dys V.pol V.par V.kd V.fi V.se V.th V.ne 0 V.fo V.fl) 3 (nI x) (nI p) (nI n)).lev z9)))), ((a 5), .inl (cI, 400, .inl (fun z9 => nI ((vNote (mkV V.mn V.pre V.len V.lev V.hol V.sta V.en V.tdy V.dys V.pol V.par V.kd V.fi V.se V.th V.ne 0 V.fo V.fl) 3 (nI x) (nI p) (nI n)).hol z9)))), ((a 6), .inl (cI, 400, .inl (fun z9 => nI ((vNote (mkV V.mn V.pre V.len V.lev V.hol V.sta V.en V.tdy V.dys V.pol V.par V.kd V.fi V.se V.th V.ne 0 V.fo V.fl) 3 (nI x) (nI p) (nI n)).sta z9)))), ((a 7), .inl (cI, 400, .inl (fun z9 => nI ((vNote (mkV V.mn V.pre V.len V.lev V.hol V.sta V.en V.tdy V.dys V.pol V.par V.kd V.fi V.se V.th V.ne 0 V.fo V.fl) 3 (nI x) (nI p) (nI n)).en z9)))), ((a 8), .inl (cI, 2, .inl (fun z9 => nI ((vNote (mkV V.mn V.pre V.len V.lev V.hol V.sta V.en V.tdy V.dys V.pol V.par V.kd V.fi V.se V.th V.ne 0 V.fo V.fl) 3 (nI x) (nI p) (nI n)).tdy z9)))), ((a 9), .inl (cI, 2, .inl (fun z9 => nI ((vNote (mkV V.mn V.pre V.len V.lev V.hol V.sta V.en V.tdy V.dys V.pol V.par V.kd V.fi V.se V.th V.ne 0 V.fo V.fl) 3 (nI x) (nI p) (nI n)).dys z9)))), ((a 10), .inl (cI, 8, .inl (fun z9 => nI ((vNote (mkV V.mn V.pre V.len V.lev V.hol V.sta V.en V.tdy V.dys V.pol V.par V.kd V.fi V.se V.th V.ne 0 V.fo V.fl) 3 (nI x) (nI p) (nI n)).pol z9)))), ((a 11), .inl (cI, 300, .inl ((vNote (mkV V.mn V.pre V.len V.lev V.hol V.sta V.en V.tdy V.dys V.pol V.par V.kd V.fi V.se V.th V.ne 0 V.fo V.fl) 3 (nI x) (nI p) (nI n)).kd))), ((a 12), .inl (cI, 300, .inl ((vNote (mkV V.mn V.pre V.len V.lev V.hol V.sta V.en V.tdy V.dys V.pol V.par V.kd V.fi V.se V.th V.ne 0 V.fo V.fl) 3 (nI x) (nI p) (nI n)).fi))), ((a 13), .inl (cI, 300, .inl ((vNote (mkV V.mn V.pre V.len V.lev V.hol V.sta V.en V.tdy V.dys V.pol V.par V.kd V.fi V.se V.th V.ne 0 V.fo V.fl) 3 (nI x) (nI p) (nI n)).se))), ((a 14), .inl (cI, 300, .inl ((vNote (mkV V.mn V.pre V.len V.lev V.hol V.sta V.en V.tdy V.dys V.pol V.par V.kd V.fi V.se V.th V.ne 0 V.fo V.fl) 3 (nI x) (nI p) (nI n)).th)))] H := hP.sub (ws' := [(o, .inr (5, [.int (nI (vNote (mkV V.mn V.pre V.len V.lev V.hol V.sta V.en V.tdy V.dys V.pol V.par V.kd V.fi V.se V.th V.ne 0 V.fo V.fl) 3 (nI x) (nI p) (nI n)).tc), .ref (a 0), .ref (a 1), .ref (a 2), .ref (a 3), .ref (a 4), .ref (a 5), .ref (a 6), .ref (a 7), .ref (a 8), .ref (a 9), .ref (a 10), .int (nI (vNote (mkV V.mn V.pre V.len V.lev V.hol V.sta V.en V.tdy V.dys V.pol V.par V.kd V.fi V.se V.th V.ne 0 V.fo V.fl) 3 (nI x) (nI p) (nI n)).ne), .ref (a 11), .ref (a 12), .ref (a 13), .ref (a 14), .long ((vNote (mkV V.mn V.pre V.len V.lev V.hol V.sta V.en V.tdy V.dys V.pol V.par V.kd V.fi V.se V.th V.ne 0 V.fo V.fl) 3 (nI x) (nI p) (nI n)).fo), .int ((vNote (mkV V.mn V.pre V.len V.lev V.hol V.sta V.en V.tdy V.dys V.pol V.par V.kd V.fi V.se V.th V.ne 0 V.fo V.fl) 3 (nI x) (nI p) (nI n)).fl)])), ((a 0), .inl (cI, 2, .inl (fun z9 => nI ((vNote (mkV V.mn V.pre V.len V.lev V.hol V.sta V.en V.tdy V.dys V.pol V.par V.kd V.fi V.se V.th V.ne 0 V.fo V.fl) 3 (nI x) (nI p) (nI n)).mn z9)))), ((a 1), .inl (cI, 400, .inl (fun z9 => nI ((vNote (mkV V.mn V.pre V.len V.lev V.hol V.sta V.en V.tdy V.dys V.pol V.par V.kd V.fi V.se V.th V.ne 0 V.fo V.fl) 3 (nI x) (nI p) (nI n)).pre z9)))), ((a 2), .inl (cI, 400, .inl (fun z9 => nI ((vNote (mkV V.mn V.pre V.len V.lev V.hol V.sta V.en V.tdy V.dys V.pol V.par V.kd V.fi V.se V.th V.ne 0 V.fo V.fl) 3 (nI x) (nI p) (nI n)).len z9)))), ((a 3), .inl (cI, 400, .inl (fun z9 => pI ((vNote (mkV V.mn V.pre V.len V.lev V.hol V.sta V.en V.tdy V.dys V.pol V.par V.kd V.fi V.se V.th V.ne 0 V.fo V.fl) 3 (nI x) (nI p) (nI n)).par z9)))), ((a 4), .inl (cI, 400, .inl (fun z9 => nI ((vNote (mkV V.mn V.pre V.len V.lev V.hol V.sta V.en V.tdy V.dys V.pol V.par V.kd V.fi V.se V.th V.ne 0 V.fo V.fl) 3 (nI x) (nI p) (nI n)).lev z9)))), ((a 5), .inl (cI, 400, .inl (fun z9 => nI ((vNote (mkV V.mn V.pre V.len V.lev V.hol V.sta V.en V.tdy V.dys V.pol V.par V.kd V.fi V.se V.th V.ne 0 V.fo V.fl) 3 (nI x) (nI p) (nI n)).hol z9)))), ((a 6), .inl (cI, 400, .inl (fun z9 => nI ((vNote (mkV V.mn V.pre V.len V.lev V.hol V.sta V.en V.tdy V.dys V.pol V.par V.kd V.fi V.se V.th V.ne 0 V.fo V.fl) 3 (nI x) (nI p) (nI n)).sta z9)))), ((a 7), .inl (cI, 400, .inl (fun z9 => nI ((vNote (mkV V.mn V.pre V.len V.lev V.hol V.sta V.en V.tdy V.dys V.pol V.par V.kd V.fi V.se V.th V.ne 0 V.fo V.fl) 3 (nI x) (nI p) (nI n)).en z9)))), ((a 8), .inl (cI, 2, .inl (fun z9 => nI ((vNote (mkV V.mn V.pre V.len V.lev V.hol V.sta V.en V.tdy V.dys V.pol V.par V.kd V.fi V.se V.th V.ne 0 V.fo V.fl) 3 (nI x) (nI p) (nI n)).tdy z9)))), ((a 9), .inl (cI, 2, .inl (fun z9 => nI ((vNote (mkV V.mn V.pre V.len V.lev V.hol V.sta V.en V.tdy V.dys V.pol V.par V.kd V.fi V.se V.th V.ne 0 V.fo V.fl) 3 (nI x) (nI p) (nI n)).dys z9)))), ((a 10), .inl (cI, 8, .inl (fun z9 => nI ((vNote (mkV V.mn V.pre V.len V.lev V.hol V.sta V.en V.tdy V.dys V.pol V.par V.kd V.fi V.se V.th V.ne 0 V.fo V.fl) 3 (nI x) (nI p) (nI n)).pol z9)))), ((a 11), .inl (cI, 300, .inl ((vNote (mkV V.mn V.pre V.len V.lev V.hol V.sta V.en V.tdy V.dys V.pol V.par V.kd V.fi V.se V.th V.ne 0 V.fo V.fl) 3 (nI x) (nI p) (nI n)).kd))), ((a 12), .inl (cI, 300, .inl ((vNote (mkV V.mn V.pre V.len V.lev V.hol V.sta V.en V.tdy V.dys V.pol V.par V.kd V.fi V.se V.th V.ne 0 V.fo V.fl) 3 (nI x) (nI p) (nI n)).fi))), ((a 13), .inl (cI, 300, .inl ((vNote (mkV V.mn V.pre V.len V.lev V.hol V.sta V.en V.tdy V.dys V.pol V.par V.kd V.fi V.se V.th V.ne 0 V.fo V.fl) 3 (nI x) (nI p) (nI n)).se))), ((a 14), .inl (cI, 300, .inl ((vNote (mkV V.mn V.pre V.len V.lev V.hol V.sta V.en V.tdy V.dys V.pol V.par V.kd V.fi V.se V.th V.ne 0 V.fo V.fl) 3 (nI x) (nI p) (nI n)).th)))]) [0, 1, 2, 3, 4, 5, 6, 7, 8, 9, 10, 11, 12, 13, 14, 15] rfl
    replace hD : va_D A [(o, .inr (5, [.int (nI (vNote (mkV V.mn V.pre V.len V.lev V.hol V.sta V.en V.tdy V.dys V.pol V.par V.kd V.fi V.se V.th V.ne 0 V.fo V.fl) 3 (nI x) (nI p) (nI n)).tc), .ref (a 0), .ref (a 1), .ref (a 2), .ref (a 3), .ref (a 4), .ref (a 5), .ref (a 6), .ref (a 7), .ref (a 8), .ref (a 9), .ref (a 10), .int (nI (vNote (mkV V.mn V.pre V.len V.lev V.hol V.sta V.en V.tdy V.dys V.pol V.par V.kd V.fi V.se V.th V.ne 0 V.fo V.fl) 3 (nI x) (nI p) (nI n)).ne), .ref (a 11), .ref (a 12), .ref (a 13), .ref (a 14), .long ((vNote (mkV V.mn V.pre V.len V.lev V.hol V.sta V.en V.tdy V.dys V.pol V.par V.kd V.fi V.se V.th V.ne 0 V.fo V.fl) 3 (nI x) (nI p) (nI n)).fo), .int ((vNote (mkV V.mn V.pre V.len V.lev V.hol V.sta V.en V.tdy V.dys V.pol V.par V.kd V.fi V.se V.th V.ne 0 V.fo V.fl) 3 (nI x) (nI p) (nI n)).fl)])), ((a 0), .inl (cI, 2, .inl (fun z9 => nI ((vNote (mkV V.mn V.pre V.len V.lev V.hol V.sta V.en V.tdy V.dys V.pol V.par V.kd V.fi V.se V.th V.ne 0 V.fo V.fl) 3 (nI x) (nI p) (nI n)).mn z9)))), ((a 1), .inl (cI, 400, .inl (fun z9 => nI ((vNote (mkV V.mn V.pre V.len V.lev V.hol V.sta V.en V.tdy V.dys V.pol V.par V.kd V.fi V.se V.th V.ne 0 V.fo V.fl) 3 (nI x) (nI p) (nI n)).pre z9)))), ((a 2), .inl (cI, 400, .inl (fun z9 => nI ((vNote (mkV V.mn V.pre V.len V.lev V.hol V.sta V.en V.tdy V.dys V.pol V.par V.kd V.fi V.se V.th V.ne 0 V.fo V.fl) 3 (nI x) (nI p) (nI n)).len z9)))), ((a 3), .inl (cI, 400, .inl (fun z9 => pI ((vNote (mkV V.mn V.pre V.len V.lev V.hol V.sta V.en V.tdy V.dys V.pol V.par V.kd V.fi V.se V.th V.ne 0 V.fo V.fl) 3 (nI x) (nI p) (nI n)).par z9)))), ((a 4), .inl (cI, 400, .inl (fun z9 => nI ((vNote (mkV V.mn V.pre V.len V.lev V.hol V.sta V.en V.tdy V.dys V.pol V.par V.kd V.fi V.se V.th V.ne 0 V.fo V.fl) 3 (nI x) (nI p) (nI n)).lev z9)))), ((a 5), .inl (cI, 400, .inl (fun z9 => nI ((vNote (mkV V.mn V.pre V.len V.lev V.hol V.sta V.en V.tdy V.dys V.pol V.par V.kd V.fi V.se V.th V.ne 0 V.fo V.fl) 3 (nI x) (nI p) (nI n)).hol z9)))), ((a 6), .inl (cI, 400, .inl (fun z9 => nI ((vNote (mkV V.mn V.pre V.len V.lev V.hol V.sta V.en V.tdy V.dys V.pol V.par V.kd V.fi V.se V.th V.ne 0 V.fo V.fl) 3 (nI x) (nI p) (nI n)).sta z9)))), ((a 7), .inl (cI, 400, .inl (fun z9 => nI ((vNote (mkV V.mn V.pre V.len V.lev V.hol V.sta V.en V.tdy V.dys V.pol V.par V.kd V.fi V.se V.th V.ne 0 V.fo V.fl) 3 (nI x) (nI p) (nI n)).en z9)))), ((a 8), .inl (cI, 2, .inl (fun z9 => nI ((vNote (mkV V.mn V.pre V.len V.lev V.hol V.sta V.en V.tdy V.dys V.pol V.par V.kd V.fi V.se V.th V.ne 0 V.fo V.fl) 3 (nI x) (nI p) (nI n)).tdy z9)))), ((a 9), .inl (cI, 2, .inl (fun z9 => nI ((vNote (mkV V.mn V.pre V.len V.lev V.hol V.sta V.en V.tdy V.dys V.pol V.par V.kd V.fi V.se V.th V.ne 0 V.fo V.fl) 3 (nI x) (nI p) (nI n)).dys z9)))), ((a 10), .inl (cI, 8, .inl (fun z9 => nI ((vNote (mkV V.mn V.pre V.len V.lev V.hol V.sta V.en V.tdy V.dys V.pol V.par V.kd V.fi V.se V.th V.ne 0 V.fo V.fl) 3 (nI x) (nI p) (nI n)).pol z9)))), ((a 11), .inl (cI, 300, .inl ((vNote (mkV V.mn V.pre V.len V.lev V.hol V.sta V.en V.tdy V.dys V.pol V.par V.kd V.fi V.se V.th V.ne 0 V.fo V.fl) 3 (nI x) (nI p) (nI n)).kd))), ((a 12), .inl (cI, 300, .inl ((vNote (mkV V.mn V.pre V.len V.lev V.hol V.sta V.en V.tdy V.dys V.pol V.par V.kd V.fi V.se V.th V.ne 0 V.fo V.fl) 3 (nI x) (nI p) (nI n)).fi))), ((a 13), .inl (cI, 300, .inl ((vNote (mkV V.mn V.pre V.len V.lev V.hol V.sta V.en V.tdy V.dys V.pol V.par V.kd V.fi V.se V.th V.ne 0 V.fo V.fl) 3 (nI x) (nI p) (nI n)).se))), ((a 14), .inl (cI, 300, .inl ((vNote (mkV V.mn V.pre V.len V.lev V.hol V.sta V.en V.tdy V.dys V.pol V.par V.kd V.fi V.se V.th V.ne 0 V.fo V.fl) 3 (nI x) (nI p) (nI n)).th)))] := hD.sub (ws' := [(o, .inr (5, [.int (nI (vNote (mkV V.mn V.pre V.len V.lev V.hol V.sta V.en V.tdy V.dys V.pol V.par V.kd V.fi V.se V.th V.ne 0 V.fo V.fl) 3 (nI x) (nI p) (nI n)).tc), .ref (a 0), .ref (a 1), .ref (a 2), .ref (a 3), .ref (a 4), .ref (a 5), .ref (a 6), .ref (a 7), .ref (a 8), .ref (a 9), .ref (a 10), .int (nI (vNote (mkV V.mn V.pre V.len V.lev V.hol V.sta V.en V.tdy V.dys V.pol V.par V.kd V.fi V.se V.th V.ne 0 V.fo V.fl) 3 (nI x) (nI p) (nI n)).ne), .ref (a 11), .ref (a 12), .ref (a 13), .ref (a 14), .long ((vNote (mkV V.mn V.pre V.len V.lev V.hol V.sta V.en V.tdy V.dys V.pol V.par V.kd V.fi V.se V.th V.ne 0 V.fo V.fl) 3 (nI x) (nI p) (nI n)).fo), .int ((vNote (mkV V.mn V.pre V.len V.lev V.hol V.sta V.en V.tdy V.dys V.pol V.par V.kd V.fi V.se V.th V.ne 0 V.fo V.fl) 3 (nI x) (nI p) (nI n)).fl)])), ((a 0), .inl (cI, 2, .inl (fun z9 => nI ((vNote (mkV V.mn V.pre V.len V.lev V.hol V.sta V.en V.tdy V.dys V.pol V.par V.kd V.fi V.se V.th V.ne 0 V.fo V.fl) 3 (nI x) (nI p) (nI n)).mn z9)))), ((a 1), .inl (cI, 400, .inl (fun z9 => nI ((vNote (mkV V.mn V.pre V.len V.lev V.hol V.sta V.en V.tdy V.dys V.pol V.par V.kd V.fi V.se V.th V.ne 0 V.fo V.fl) 3 (nI x) (nI p) (nI n)).pre z9)))), ((a 2), .inl (cI, 400, .inl (fun z9 => nI ((vNote (mkV V.mn V.pre V.len V.lev V.hol V.sta V.en V.tdy V.dys V.pol V.par V.kd V.fi V.se V.th V.ne 0 V.fo V.fl) 3 (nI x) (nI p) (nI n)).len z9)))), ((a 3), .inl (cI, 400, .inl (fun z9 => pI ((vNote (mkV V.mn V.pre V.len V.lev V.hol V.sta V.en V.tdy V.dys V.pol V.par V.kd V.fi V.se V.th V.ne 0 V.fo V.fl) 3 (nI x) (nI p) (nI n)).par z9)))), ((a 4), .inl (cI, 400, .inl (fun z9 => nI ((vNote (mkV V.mn V.pre V.len V.lev V.hol V.sta V.en V.tdy V.dys V.pol V.par V.kd V.fi V.se V.th V.ne 0 V.fo V.fl) 3 (nI x) (nI p) (nI n)).lev z9)))), ((a 5), .inl (cI, 400, .inl (fun z9 => nI ((vNote (mkV V.mn V.pre V.len V.lev V.hol V.sta V.en V.tdy V.dys V.pol V.par V.kd V.fi V.se V.th V.ne 0 V.fo V.fl) 3 (nI x) (nI p) (nI n)).hol z9)))), ((a 6), .inl (cI, 400, .inl (fun z9 => nI ((vNote (mkV V.mn V.pre V.len V.lev V.hol V.sta V.en V.tdy V.dys V.pol V.par V.kd V.fi V.se V.th V.ne 0 V.fo V.fl) 3 (nI x) (nI p) (nI n)).sta z9)))), ((a 7), .inl (cI, 400, .inl (fun z9 => nI ((vNote (mkV V.mn V.pre V.len V.lev V.hol V.sta V.en V.tdy V.dys V.pol V.par V.kd V.fi V.se V.th V.ne 0 V.fo V.fl) 3 (nI x) (nI p) (nI n)).en z9)))), ((a 8), .inl (cI, 2, .inl (fun z9 => nI ((vNote (mkV V.mn V.pre V.len V.lev V.hol V.sta V.en V.tdy V.dys V.pol V.par V.kd V.fi V.se V.th V.ne 0 V.fo V.fl) 3 (nI x) (nI p) (nI n)).tdy z9)))), ((a 9), .inl (cI, 2, .inl (fun z9 => nI ((vNote (mkV V.mn V.pre V.len V.lev V.hol V.sta V.en V.tdy V.dys V.pol V.par V.kd V.fi V.se V.th V.ne 0 V.fo V.fl) 3 (nI x) (nI p) (nI n)).dys z9)))), ((a 10), .inl (cI, 8, .inl (fun z9 => nI ((vNote (mkV V.mn V.pre V.len V.lev V.hol V.sta V.en V.tdy V.dys V.pol V.par V.kd V.fi V.se V.th V.ne 0 V.fo V.fl) 3 (nI x) (nI p) (nI n)).pol z9)))), ((a 11), .inl (cI, 300, .inl ((vNote (mkV V.mn V.pre V.len V.lev V.hol V.sta V.en V.tdy V.dys V.pol V.par V.kd V.fi V.se V.th V.ne 0 V.fo V.fl) 3 (nI x) (nI p) (nI n)).kd))), ((a 12), .inl (cI, 300, .inl ((vNote (mkV V.mn V.pre V.len V.lev V.hol V.sta V.en V.tdy V.dys V.pol V.par V.kd V.fi V.se V.th V.ne 0 V.fo V.fl) 3 (nI x) (nI p) (nI n)).fi))), ((a 13), .inl (cI, 300, .inl ((vNote (mkV V.mn V.pre V.len V.lev V.hol V.sta V.en V.tdy V.dys V.pol V.par V.kd V.fi V.se V.th V.ne 0 V.fo V.fl) 3 (nI x) (nI p) (nI n)).se))), ((a 14), .inl (cI, 300, .inl ((vNote (mkV V.mn V.pre V.len V.lev V.hol V.sta V.en V.tdy V.dys V.pol V.par V.kd V.fi V.se V.th V.ne 0 V.fo V.fl) 3 (nI x) (nI p) (nI n)).th)))]) [0, 1, 2, 3, 4, 5, 6, 7, 8, 9, 10, 11, 12, 13, 14, 15] (by decide) rfl
    refine lv_aload_n hx hb d_Mo_reserve_65 rfl (lv_at hl 1 rfl) ?_
    refine lv_iconst (v := 0) hx hb d_Mo_reserve_66 (by decide) ?_
    refine lv_iload_n hx hb d_Mo_reserve_67 rfl (lv_at hl 3 rfl) ?_
    refine lv_iload_n hx hb d_Mo_reserve_68 rfl (lv_at hl 4 rfl) ?_
    refine lv_iload_n hx hb d_Mo_reserve_69 rfl (lv_at hl 2 rfl) ?_
    refine lv_aload_n hx hb d_Mo_reserve_70 rfl (lv_at hl 1 rfl) ?_
    refine va_get (D := (dC, dI)) (ci := 5) (v := .ref (a 5)) (C := R_Mo) (T := F_Mo) (N := 19) hx hb hts u_Mo hown hK hP 0 rfl rfl 6 (by decide) (hts _ kw_720) (fun _ h9 => h9) rfl d_Mo_reserve_71 ?_
    refine lv_iload_n hx hb d_Mo_reserve_74 rfl (lv_at hl 2 rfl) ?_
    refine x_iald (j := x) (v := (nI ((vNote (mkV V.mn V.pre V.len V.lev V.hol V.sta V.en V.tdy V.dys V.pol V.par V.kd V.fi V.se V.th V.ne 0 V.fo V.fl) 3 (nI x) (nI p) (nI n)).hol x))) hx hb hK hP 6 0 rfl rfl (by have := (rsW_0 h13).1; have := hV.mn 0; omega) (by decide) rfl rfl d_Mo_reserve_75 ?_
    refine lv_iconst (v := 2) hx hb d_Mo_reserve_76 (by decide) ?_
    have hPc := hP.sub (ws' := (wMo cI o a (vNote (mkV V.mn V.pre V.len V.lev V.hol V.sta V.en V.tdy V.dys V.pol V.par V.kd V.fi V.se V.th V.ne 0 V.fo V.fl) 3 (nI x) (nI p) (nI n)))) [0, 1, 2, 3, 4, 5, 6, 7, 8, 9, 10, 11, 12, 13, 14, 15] rfl
    have hDc := hD.sub (ws' := (wMo cI o a (vNote (mkV V.mn V.pre V.len V.lev V.hol V.sta V.en V.tdy V.dys V.pol V.par V.kd V.fi V.se V.th V.ne 0 V.fo V.fl) 3 (nI x) (nI p) (nI n)))) [0, 1, 2, 3, 4, 5, 6, 7, 8, 9, 10, 11, 12, 13, 14, 15] (by decide) rfl
    have hFc := va_free (wc := (wMo cI o a (vNote (mkV V.mn V.pre V.len V.lev V.hol V.sta V.en V.tdy V.dys V.pol V.par V.kd V.fi V.se V.th V.ne 0 V.fo V.fl) 3 (nI x) (nI p) (nI n)))) hD hS hA [0, 1, 2, 3, 4, 5, 6, 7, 8, 9, 10, 11, 12, 13, 14, 15] rfl
    refine va_calli (va_runV (b := o) (As := [.int 0, .int (nI p), .int (nI n), .int (nI x), .int (nI ((vNote (mkV V.mn V.pre V.len V.lev V.hol V.sta V.en V.tdy V.dys V.pol V.par V.kd V.fi V.se V.th V.ne 0 V.fo V.fl) 3 (nI x) (nI p) (nI n)).hol x)), .int 2]) (rest := []) ⟨hx, hb, hml, hown, hts⟩ (c_Mo_make l dC dI H.size cI o a (vNote (mkV V.mn V.pre V.len V.lev V.hol V.sta V.en V.tdy V.dys V.pol V.par V.kd V.fi V.se V.th V.ne 0 V.fo V.fl) 3 (nI x) (nI p) (nI n)) 0 0 p n (some x) ((vNote (mkV V.mn V.pre V.len V.lev V.hol V.sta V.en V.tdy V.dys V.pol V.par V.kd V.fi V.se V.th V.ne 0 V.fo V.fl) 3 (nI x) (nI p) (nI n)).hol x) 2 (by decide) rfl (show V.mn 0 < 200 by have := (rsW_0 h13).2; have := hV.mn 0; omega) (fun q e9 => by cases e9; exact (by have := (rsW_0 h13).1; have := hV.mn 0; omega))) (cwV 6 hts (gV kw_805 kw_807 ks_26 kw_6 kw_808) rfl rfl rfl (by decide +kernel) ⟨Nat.le_of_ble_eq_true rfl, Nat.le_of_ble_eq_true rfl⟩) ⟨PcM.blind, va_recv (q0 := 0) hK hPc rfl rfl, PcM.use hPc hK hN hDc⟩ rfl rfl hl.1 rfl (lv_room (Nat.le_of_ble_eq_true rfl)) d_Mo_reserve_77 ⟨Nat.le_of_ble_eq_true rfl, Nat.le_of_ble_eq_true rfl⟩) hS (fun q _ h => hFc q h) hFc (fun r77 u9 H9 H1 locs hH9 hv9 hp9 hB hz1 hk1 hS => ?_)
    obtain rfl : r77 = (nI (V.mn 0)) := hp9
    obtain ⟨hP1, hK1, hD1⟩ := hB
    rw [hH9] at hP1
    obtain ⟨hP, hD⟩ := va_join (wr := []) (w1 := (wMo cI o a (vMake (vNote (mkV V.mn V.pre V.len V.lev V.hol V.sta V.en V.tdy V.dys V.pol V.par V.kd V.fi V.se V.th V.ne 0 V.fo V.fl) 3 (nI x) (nI p) (nI n)) 0 0 p n (some x) ((vNote (mkV V.mn V.pre V.len V.lev V.hol V.sta V.en V.tdy V.dys V.pol V.par V.kd V.fi V.se V.th V.ne 0 V.fo V.fl) 3 (nI x) (nI p) (nI n)).hol x) 2))) hP hD [0, 1, 2, 3, 4, 5, 6, 7, 8, 9, 10, 11, 12, 13, 14, 15] [] rfl rfl (by decide) (by decide) hk1 hFc hP1 hD1
    clear hPc hDc hFc hP1 hD1 hK1 hk1 hz1 hv9 hH9
    generalize H1 = H at hP hS ⊢
    replace hP : va_P (dC, dI) classes [(o, .inr (5, [.int (nI (vMake (vNote (mkV V.mn V.pre V.len V.lev V.hol V.sta V.en V.tdy V.dys V.pol V.par V.kd V.fi V.se V.th V.ne 0 V.fo V.fl) 3 (nI x) (nI p) (nI n)) 0 0 p n (some x) ((vNote (mkV V.mn V.pre V.len V.lev V.hol V.sta V.en V.tdy V.dys V.pol V.par V.kd V.fi V.se V.th V.ne 0 V.fo V.fl) 3 (nI x) (nI p) (nI n)).hol x) 2).tc), .ref (a 0), .ref (a 1), .ref (a 2), .ref (a 3), .ref (a 4), .ref (a 5), .ref (a 6), .ref (a 7), .ref (a 8), .ref (a 9), .ref (a 10), .int (nI (vMake (vNote (mkV V.mn V.pre V.len V.lev V.hol V.sta V.en V.tdy V.dys V.pol V.par V.kd V.fi V.se V.th V.ne 0 V.fo V.fl) 3 (nI x) (nI p) (nI n)) 0 0 p n (some x) ((vNote (mkV V.mn V.pre V.len V.lev V.hol V.sta V.en V.tdy V.dys V.pol V.par V.kd V.fi V.se V.th V.ne 0 V.fo V.fl) 3 (nI x) (nI p) (nI n)).hol x) 2).ne), .ref (a 11), .ref (a 12), .ref (a 13), .ref (a 14), .long ((vMake (vNote (mkV V.mn V.pre V.len V.lev V.hol V.sta V.en V.tdy V.dys V.pol V.par V.kd V.fi V.se V.th V.ne 0 V.fo V.fl) 3 (nI x) (nI p) (nI n)) 0 0 p n (some x) ((vNote (mkV V.mn V.pre V.len V.lev V.hol V.sta V.en V.tdy V.dys V.pol V.par V.kd V.fi V.se V.th V.ne 0 V.fo V.fl) 3 (nI x) (nI p) (nI n)).hol x) 2).fo), .int ((vMake (vNote (mkV V.mn V.pre V.len V.lev V.hol V.sta V.en V.tdy V.dys V.pol V.par V.kd V.fi V.se V.th V.ne 0 V.fo V.fl) 3 (nI x) (nI p) (nI n)) 0 0 p n (some x) ((vNote (mkV V.mn V.pre V.len V.lev V.hol V.sta V.en V.tdy V.dys V.pol V.par V.kd V.fi V.se V.th V.ne 0 V.fo V.fl) 3 (nI x) (nI p) (nI n)).hol x) 2).fl)])), ((a 0), .inl (cI, 2, .inl (fun z9 => nI ((vMake (vNote (mkV V.mn V.pre V.len V.lev V.hol V.sta V.en V.tdy V.dys V.pol V.par V.kd V.fi V.se V.th V.ne 0 V.fo V.fl) 3 (nI x) (nI p) (nI n)) 0 0 p n (some x) ((vNote (mkV V.mn V.pre V.len V.lev V.hol V.sta V.en V.tdy V.dys V.pol V.par V.kd V.fi V.se V.th V.ne 0 V.fo V.fl) 3 (nI x) (nI p) (nI n)).hol x) 2).mn z9)))), ((a 1), .inl (cI, 400, .inl (fun z9 => nI ((vMake (vNote (mkV V.mn V.pre V.len V.lev V.hol V.sta V.en V.tdy V.dys V.pol V.par V.kd V.fi V.se V.th V.ne 0 V.fo V.fl) 3 (nI x) (nI p) (nI n)) 0 0 p n (some x) ((vNote (mkV V.mn V.pre V.len V.lev V.hol V.sta V.en V.tdy V.dys V.pol V.par V.kd V.fi V.se V.th V.ne 0 V.fo V.fl) 3 (nI x) (nI p) (nI n)).hol x) 2).pre z9)))), ((a 2), .inl (cI, 400, .inl (fun z9 => nI ((vMake (vNote (mkV V.mn V.pre V.len V.lev V.hol V.sta V.en V.tdy V.dys V.pol V.par V.kd V.fi V.se V.th V.ne 0 V.fo V.fl) 3 (nI x) (nI p) (nI n)) 0 0 p n (some x) ((vNote (mkV V.mn V.pre V.len V.lev V.hol V.sta V.en V.tdy V.dys V.pol V.par V.kd V.fi V.se V.th V.ne 0 V.fo V.fl) 3 (nI x) (nI p) (nI n)).hol x) 2).len z9)))), ((a 3), .inl (cI, 400, .inl (fun z9 => pI ((vMake (vNote (mkV V.mn V.pre V.len V.lev V.hol V.sta V.en V.tdy V.dys V.pol V.par V.kd V.fi V.se V.th V.ne 0 V.fo V.fl) 3 (nI x) (nI p) (nI n)) 0 0 p n (some x) ((vNote (mkV V.mn V.pre V.len V.lev V.hol V.sta V.en V.tdy V.dys V.pol V.par V.kd V.fi V.se V.th V.ne 0 V.fo V.fl) 3 (nI x) (nI p) (nI n)).hol x) 2).par z9)))), ((a 4), .inl (cI, 400, .inl (fun z9 => nI ((vMake (vNote (mkV V.mn V.pre V.len V.lev V.hol V.sta V.en V.tdy V.dys V.pol V.par V.kd V.fi V.se V.th V.ne 0 V.fo V.fl) 3 (nI x) (nI p) (nI n)) 0 0 p n (some x) ((vNote (mkV V.mn V.pre V.len V.lev V.hol V.sta V.en V.tdy V.dys V.pol V.par V.kd V.fi V.se V.th V.ne 0 V.fo V.fl) 3 (nI x) (nI p) (nI n)).hol x) 2).lev z9)))), ((a 5), .inl (cI, 400, .inl (fun z9 => nI ((vMake (vNote (mkV V.mn V.pre V.len V.lev V.hol V.sta V.en V.tdy V.dys V.pol V.par V.kd V.fi V.se V.th V.ne 0 V.fo V.fl) 3 (nI x) (nI p) (nI n)) 0 0 p n (some x) ((vNote (mkV V.mn V.pre V.len V.lev V.hol V.sta V.en V.tdy V.dys V.pol V.par V.kd V.fi V.se V.th V.ne 0 V.fo V.fl) 3 (nI x) (nI p) (nI n)).hol x) 2).hol z9)))), ((a 6), .inl (cI, 400, .inl (fun z9 => nI ((vMake (vNote (mkV V.mn V.pre V.len V.lev V.hol V.sta V.en V.tdy V.dys V.pol V.par V.kd V.fi V.se V.th V.ne 0 V.fo V.fl) 3 (nI x) (nI p) (nI n)) 0 0 p n (some x) ((vNote (mkV V.mn V.pre V.len V.lev V.hol V.sta V.en V.tdy V.dys V.pol V.par V.kd V.fi V.se V.th V.ne 0 V.fo V.fl) 3 (nI x) (nI p) (nI n)).hol x) 2).sta z9)))), ((a 7), .inl (cI, 400, .inl (fun z9 => nI ((vMake (vNote (mkV V.mn V.pre V.len V.lev V.hol V.sta V.en V.tdy V.dys V.pol V.par V.kd V.fi V.se V.th V.ne 0 V.fo V.fl) 3 (nI x) (nI p) (nI n)) 0 0 p n (some x) ((vNote (mkV V.mn V.pre V.len V.lev V.hol V.sta V.en V.tdy V.dys V.pol V.par V.kd V.fi V.se V.th V.ne 0 V.fo V.fl) 3 (nI x) (nI p) (nI n)).hol x) 2).en z9)))), ((a 8), .inl (cI, 2, .inl (fun z9 => nI ((vMake (vNote (mkV V.mn V.pre V.len V.lev V.hol V.sta V.en V.tdy V.dys V.pol V.par V.kd V.fi V.se V.th V.ne 0 V.fo V.fl) 3 (nI x) (nI p) (nI n)) 0 0 p n (some x) ((vNote (mkV V.mn V.pre V.len V.lev V.hol V.sta V.en V.tdy V.dys V.pol V.par V.kd V.fi V.se V.th V.ne 0 V.fo V.fl) 3 (nI x) (nI p) (nI n)).hol x) 2).tdy z9)))), ((a 9), .inl (cI, 2, .inl (fun z9 => nI ((vMake (vNote (mkV V.mn V.pre V.len V.lev V.hol V.sta V.en V.tdy V.dys V.pol V.par V.kd V.fi V.se V.th V.ne 0 V.fo V.fl) 3 (nI x) (nI p) (nI n)) 0 0 p n (some x) ((vNote (mkV V.mn V.pre V.len V.lev V.hol V.sta V.en V.tdy V.dys V.pol V.par V.kd V.fi V.se V.th V.ne 0 V.fo V.fl) 3 (nI x) (nI p) (nI n)).hol x) 2).dys z9)))), ((a 10), .inl (cI, 8, .inl (fun z9 => nI ((vMake (vNote (mkV V.mn V.pre V.len V.lev V.hol V.sta V.en V.tdy V.dys V.pol V.par V.kd V.fi V.se V.th V.ne 0 V.fo V.fl) 3 (nI x) (nI p) (nI n)) 0 0 p n (some x) ((vNote (mkV V.mn V.pre V.len V.lev V.hol V.sta V.en V.tdy V.dys V.pol V.par V.kd V.fi V.se V.th V.ne 0 V.fo V.fl) 3 (nI x) (nI p) (nI n)).hol x) 2).pol z9)))), ((a 11), .inl (cI, 300, .inl ((vMake (vNote (mkV V.mn V.pre V.len V.lev V.hol V.sta V.en V.tdy V.dys V.pol V.par V.kd V.fi V.se V.th V.ne 0 V.fo V.fl) 3 (nI x) (nI p) (nI n)) 0 0 p n (some x) ((vNote (mkV V.mn V.pre V.len V.lev V.hol V.sta V.en V.tdy V.dys V.pol V.par V.kd V.fi V.se V.th V.ne 0 V.fo V.fl) 3 (nI x) (nI p) (nI n)).hol x) 2).kd))), ((a 12), .inl (cI, 300, .inl ((vMake (vNote (mkV V.mn V.pre V.len V.lev V.hol V.sta V.en V.tdy V.dys V.pol V.par V.kd V.fi V.se V.th V.ne 0 V.fo V.fl) 3 (nI x) (nI p) (nI n)) 0 0 p n (some x) ((vNote (mkV V.mn V.pre V.len V.lev V.hol V.sta V.en V.tdy V.dys V.pol V.par V.kd V.fi V.se V.th V.ne 0 V.fo V.fl) 3 (nI x) (nI p) (nI n)).hol x) 2).fi))), ((a 13), .inl (cI, 300, .inl ((vMake (vNote (mkV V.mn V.pre V.len V.lev V.hol V.sta V.en V.tdy V.dys V.pol V.par V.kd V.fi V.se V.th V.ne 0 V.fo V.fl) 3 (nI x) (nI p) (nI n)) 0 0 p n (some x) ((vNote (mkV V.mn V.pre V.len V.lev V.hol V.sta V.en V.tdy V.dys V.pol V.par V.kd V.fi V.se V.th V.ne 0 V.fo V.fl) 3 (nI x) (nI p) (nI n)).hol x) 2).se))), ((a 14), .inl (cI, 300, .inl ((vMake (vNote (mkV V.mn V.pre V.len V.lev V.hol V.sta V.en V.tdy V.dys V.pol V.par V.kd V.fi V.se V.th V.ne 0 V.fo V.fl) 3 (nI x) (nI p) (nI n)) 0 0 p n (some x) ((vNote (mkV V.mn V.pre V.len V.lev V.hol V.sta V.en V.tdy V.dys V.pol V.par V.kd V.fi V.se V.th V.ne 0 V.fo V.fl) 3 (nI x) (nI p) (nI n)).hol x) 2).th)))] H := hP.sub (ws' := [(o, .inr (5, [.int (nI (vMake (vNote (mkV V.mn V.pre V.len V.lev V.hol V.sta V.en V.tdy V.dys V.pol V.par V.kd V.fi V.se V.th V.ne 0 V.fo V.fl) 3 (nI x) (nI p) (nI n)) 0 0 p n (some x) ((vNote (mkV V.mn V.pre V.len V.lev V.hol V.sta V.en V.tdy V.dys V.pol V.par V.kd V.fi V.se V.th V.ne 0 V.fo V.fl) 3 (nI x) (nI p) (nI n)).hol x) 2).tc), .ref (a 0), .ref (a 1), .ref (a 2), .ref (a 3), .ref (a 4), .ref (a 5), .ref (a 6), .ref (a 7), .ref (a 8), .ref (a 9), .ref (a 10), .int (nI (vMake (vNote (mkV V.mn V.pre V.len V.lev V.hol V.sta V.en V.tdy V.dys V.pol V.par V.kd V.fi V.se V.th V.ne 0 V.fo V.fl) 3 (nI x) (nI p) (nI n)) 0 0 p n (some x) ((vNote (mkV V.mn V.pre V.len V.lev V.hol V.sta V.en V.tdy V.dys V.pol V.par V.kd V.fi V.se V.th V.ne 0 V.fo V.fl) 3 (nI x) (nI p) (nI n)).hol x) 2).ne), .ref (a 11), .ref (a 12), .ref (a 13), .ref (a 14), .long ((vMake (vNote (mkV V.mn V.pre V.len V.lev V.hol V.sta V.en V.tdy V.dys V.pol V.par V.kd V.fi V.se V.th V.ne 0 V.fo V.fl) 3 (nI x) (nI p) (nI n)) 0 0 p n (some x) ((vNote (mkV V.mn V.pre V.len V.lev V.hol V.sta V.en V.tdy V.dys V.pol V.par V.kd V.fi V.se V.th V.ne 0 V.fo V.fl) 3 (nI x) (nI p) (nI n)).hol x) 2).fo), .int ((vMake (vNote (mkV V.mn V.pre V.len V.lev V.hol V.sta V.en V.tdy V.dys V.pol V.par V.kd V.fi V.se V.th V.ne 0 V.fo V.fl) 3 (nI x) (nI p) (nI n)) 0 0 p n (some x) ((vNote (mkV V.mn V.pre V.len V.lev V.hol V.sta V.en V.tdy V.dys V.pol V.par V.kd V.fi V.se V.th V.ne 0 V.fo V.fl) 3 (nI x) (nI p) (nI n)).hol x) 2).fl)])), ((a 0), .inl (cI, 2, .inl (fun z9 => nI ((vMake (vNote (mkV V.mn V.pre V.len V.lev V.hol V.sta V.en V.tdy V.dys V.pol V.par V.kd V.fi V.se V.th V.ne 0 V.fo V.fl) 3 (nI x) (nI p) (nI n)) 0 0 p n (some x) ((vNote (mkV V.mn V.pre V.len V.lev V.hol V.sta V.en V.tdy V.dys V.pol V.par V.kd V.fi V.se V.th V.ne 0 V.fo V.fl) 3 (nI x) (nI p) (nI n)).hol x) 2).mn z9)))), ((a 1), .inl (cI, 400, .inl (fun z9 => nI ((vMake (vNote (mkV V.mn V.pre V.len V.lev V.hol V.sta V.en V.tdy V.dys V.pol V.par V.kd V.fi V.se V.th V.ne 0 V.fo V.fl) 3 (nI x) (nI p) (nI n)) 0 0 p n (some x) ((vNote (mkV V.mn V.pre V.len V.lev V.hol V.sta V.en V.tdy V.dys V.pol V.par V.kd V.fi V.se V.th V.ne 0 V.fo V.fl) 3 (nI x) (nI p) (nI n)).hol x) 2).pre z9)))), ((a 2), .inl (cI, 400, .inl (fun z9 => nI ((vMake (vNote (mkV V.mn V.pre V.len V.lev V.hol V.sta V.en V.tdy V.dys V.pol V.par V.kd V.fi V.se V.th V.ne 0 V.fo V.fl) 3 (nI x) (nI p) (nI n)) 0 0 p n (some x) ((vNote (mkV V.mn V.pre V.len V.lev V.hol V.sta V.en V.tdy V.dys V.pol V.par V.kd V.fi V.se V.th V.ne 0 V.fo V.fl) 3 (nI x) (nI p) (nI n)).hol x) 2).len z9)))), ((a 3), .inl (cI, 400, .inl (fun z9 => pI ((vMake (vNote (mkV V.mn V.pre V.len V.lev V.hol V.sta V.en V.tdy V.dys V.pol V.par V.kd V.fi V.se V.th V.ne 0 V.fo V.fl) 3 (nI x) (nI p) (nI n)) 0 0 p n (some x) ((vNote (mkV V.mn V.pre V.len V.lev V.hol V.sta V.en V.tdy V.dys V.pol V.par V.kd V.fi V.se V.th V.ne 0 V.fo V.fl) 3 (nI x) (nI p) (nI n)).hol x) 2).par z9)))), ((a 4), .inl (cI, 400, .inl (fun z9 => nI ((vMake (vNote (mkV V.mn V.pre V.len V.lev V.hol V.sta V.en V.tdy V.dys V.pol V.par V.kd V.fi V.se V.th V.ne 0 V.fo V.fl) 3 (nI x) (nI p) (nI n)) 0 0 p n (some x) ((vNote (mkV V.mn V.pre V.len V.lev V.hol V.sta V.en V.tdy V.dys V.pol V.par V.kd V.fi V.se V.th V.ne 0 V.fo V.fl) 3 (nI x) (nI p) (nI n)).hol x) 2).lev z9)))), ((a 5), .inl (cI, 400, .inl (fun z9 => nI ((vMake (vNote (mkV V.mn V.pre V.len V.lev V.hol V.sta V.en V.tdy V.dys V.pol V.par V.kd V.fi V.se V.th V.ne 0 V.fo V.fl) 3 (nI x) (nI p) (nI n)) 0 0 p n (some x) ((vNote (mkV V.mn V.pre V.len V.lev V.hol V.sta V.en V.tdy V.dys V.pol V.par V.kd V.fi V.se V.th V.ne 0 V.fo V.fl) 3 (nI x) (nI p) (nI n)).hol x) 2).hol z9)))), ((a 6), .inl (cI, 400, .inl (fun z9 => nI ((vMake (vNote (mkV V.mn V.pre V.len V.lev V.hol V.sta V.en V.tdy V.dys V.pol V.par V.kd V.fi V.se V.th V.ne 0 V.fo V.fl) 3 (nI x) (nI p) (nI n)) 0 0 p n (some x) ((vNote (mkV V.mn V.pre V.len V.lev V.hol V.sta V.en V.tdy V.dys V.pol V.par V.kd V.fi V.se V.th V.ne 0 V.fo V.fl) 3 (nI x) (nI p) (nI n)).hol x) 2).sta z9)))), ((a 7), .inl (cI, 400, .inl (fun z9 => nI ((vMake (vNote (mkV V.mn V.pre V.len V.lev V.hol V.sta V.en V.tdy V.dys V.pol V.par V.kd V.fi V.se V.th V.ne 0 V.fo V.fl) 3 (nI x) (nI p) (nI n)) 0 0 p n (some x) ((vNote (mkV V.mn V.pre V.len V.lev V.hol V.sta V.en V.tdy V.dys V.pol V.par V.kd V.fi V.se V.th V.ne 0 V.fo V.fl) 3 (nI x) (nI p) (nI n)).hol x) 2).en z9)))), ((a 8), .inl (cI, 2, .inl (fun z9 => nI ((vMake (vNote (mkV V.mn V.pre V.len V.lev V.hol V.sta V.en V.tdy V.dys V.pol V.par V.kd V.fi V.se V.th V.ne 0 V.fo V.fl) 3 (nI x) (nI p) (nI n)) 0 0 p n (some x) ((vNote (mkV V.mn V.pre V.len V.lev V.hol V.sta V.en V.tdy V.dys V.pol V.par V.kd V.fi V.se V.th V.ne 0 V.fo V.fl) 3 (nI x) (nI p) (nI n)).hol x) 2).tdy z9)))), ((a 9), .inl (cI, 2, .inl (fun z9 => nI ((vMake (vNote (mkV V.mn V.pre V.len V.lev V.hol V.sta V.en V.tdy V.dys V.pol V.par V.kd V.fi V.se V.th V.ne 0 V.fo V.fl) 3 (nI x) (nI p) (nI n)) 0 0 p n (some x) ((vNote (mkV V.mn V.pre V.len V.lev V.hol V.sta V.en V.tdy V.dys V.pol V.par V.kd V.fi V.se V.th V.ne 0 V.fo V.fl) 3 (nI x) (nI p) (nI n)).hol x) 2).dys z9)))), ((a 10), .inl (cI, 8, .inl (fun z9 => nI ((vMake (vNote (mkV V.mn V.pre V.len V.lev V.hol V.sta V.en V.tdy V.dys V.pol V.par V.kd V.fi V.se V.th V.ne 0 V.fo V.fl) 3 (nI x) (nI p) (nI n)) 0 0 p n (some x) ((vNote (mkV V.mn V.pre V.len V.lev V.hol V.sta V.en V.tdy V.dys V.pol V.par V.kd V.fi V.se V.th V.ne 0 V.fo V.fl) 3 (nI x) (nI p) (nI n)).hol x) 2).pol z9)))), ((a 11), .inl (cI, 300, .inl ((vMake (vNote (mkV V.mn V.pre V.len V.lev V.hol V.sta V.en V.tdy V.dys V.pol V.par V.kd V.fi V.se V.th V.ne 0 V.fo V.fl) 3 (nI x) (nI p) (nI n)) 0 0 p n (some x) ((vNote (mkV V.mn V.pre V.len V.lev V.hol V.sta V.en V.tdy V.dys V.pol V.par V.kd V.fi V.se V.th V.ne 0 V.fo V.fl) 3 (nI x) (nI p) (nI n)).hol x) 2).kd))), ((a 12), .inl (cI, 300, .inl ((vMake (vNote (mkV V.mn V.pre V.len V.lev V.hol V.sta V.en V.tdy V.dys V.pol V.par V.kd V.fi V.se V.th V.ne 0 V.fo V.fl) 3 (nI x) (nI p) (nI n)) 0 0 p n (some x) ((vNote (mkV V.mn V.pre V.len V.lev V.hol V.sta V.en V.tdy V.dys V.pol V.par V.kd V.fi V.se V.th V.ne 0 V.fo V.fl) 3 (nI x) (nI p) (nI n)).hol x) 2).fi))), ((a 13), .inl (cI, 300, .inl ((vMake (vNote (mkV V.mn V.pre V.len V.lev V.hol V.sta V.en V.tdy V.dys V.pol V.par V.kd V.fi V.se V.th V.ne 0 V.fo V.fl) 3 (nI x) (nI p) (nI n)) 0 0 p n (some x) ((vNote (mkV V.mn V.pre V.len V.lev V.hol V.sta V.en V.tdy V.dys V.pol V.par V.kd V.fi V.se V.th V.ne 0 V.fo V.fl) 3 (nI x) (nI p) (nI n)).hol x) 2).se))), ((a 14), .inl (cI, 300, .inl ((vMake (vNote (mkV V.mn V.pre V.len V.lev V.hol V.sta V.en V.tdy V.dys V.pol V.par V.kd V.fi V.se V.th V.ne 0 V.fo V.fl) 3 (nI x) (nI p) (nI n)) 0 0 p n (some x) ((vNote (mkV V.mn V.pre V.len V.lev V.hol V.sta V.en V.tdy V.dys V.pol V.par V.kd V.fi V.se V.th V.ne 0 V.fo V.fl) 3 (nI x) (nI p) (nI n)).hol x) 2).th)))]) [0, 1, 2, 3, 4, 5, 6, 7, 8, 9, 10, 11, 12, 13, 14, 15] rfl
    replace hD : va_D A [(o, .inr (5, [.int (nI (vMake (vNote (mkV V.mn V.pre V.len V.lev V.hol V.sta V.en V.tdy V.dys V.pol V.par V.kd V.fi V.se V.th V.ne 0 V.fo V.fl) 3 (nI x) (nI p) (nI n)) 0 0 p n (some x) ((vNote (mkV V.mn V.pre V.len V.lev V.hol V.sta V.en V.tdy V.dys V.pol V.par V.kd V.fi V.se V.th V.ne 0 V.fo V.fl) 3 (nI x) (nI p) (nI n)).hol x) 2).tc), .ref (a 0), .ref (a 1), .ref (a 2), .ref (a 3), .ref (a 4), .ref (a 5), .ref (a 6), .ref (a 7), .ref (a 8), .ref (a 9), .ref (a 10), .int (nI (vMake (vNote (mkV V.mn V.pre V.len V.lev V.hol V.sta V.en V.tdy V.dys V.pol V.par V.kd V.fi V.se V.th V.ne 0 V.fo V.fl) 3 (nI x) (nI p) (nI n)) 0 0 p n (some x) ((vNote (mkV V.mn V.pre V.len V.lev V.hol V.sta V.en V.tdy V.dys V.pol V.par V.kd V.fi V.se V.th V.ne 0 V.fo V.fl) 3 (nI x) (nI p) (nI n)).hol x) 2).ne), .ref (a 11), .ref (a 12), .ref (a 13), .ref (a 14), .long ((vMake (vNote (mkV V.mn V.pre V.len V.lev V.hol V.sta V.en V.tdy V.dys V.pol V.par V.kd V.fi V.se V.th V.ne 0 V.fo V.fl) 3 (nI x) (nI p) (nI n)) 0 0 p n (some x) ((vNote (mkV V.mn V.pre V.len V.lev V.hol V.sta V.en V.tdy V.dys V.pol V.par V.kd V.fi V.se V.th V.ne 0 V.fo V.fl) 3 (nI x) (nI p) (nI n)).hol x) 2).fo), .int ((vMake (vNote (mkV V.mn V.pre V.len V.lev V.hol V.sta V.en V.tdy V.dys V.pol V.par V.kd V.fi V.se V.th V.ne 0 V.fo V.fl) 3 (nI x) (nI p) (nI n)) 0 0 p n (some x) ((vNote (mkV V.mn V.pre V.len V.lev V.hol V.sta V.en V.tdy V.dys V.pol V.par V.kd V.fi V.se V.th V.ne 0 V.fo V.fl) 3 (nI x) (nI p) (nI n)).hol x) 2).fl)])), ((a 0), .inl (cI, 2, .inl (fun z9 => nI ((vMake (vNote (mkV V.mn V.pre V.len V.lev V.hol V.sta V.en V.tdy V.dys V.pol V.par V.kd V.fi V.se V.th V.ne 0 V.fo V.fl) 3 (nI x) (nI p) (nI n)) 0 0 p n (some x) ((vNote (mkV V.mn V.pre V.len V.lev V.hol V.sta V.en V.tdy V.dys V.pol V.par V.kd V.fi V.se V.th V.ne 0 V.fo V.fl) 3 (nI x) (nI p) (nI n)).hol x) 2).mn z9)))), ((a 1), .inl (cI, 400, .inl (fun z9 => nI ((vMake (vNote (mkV V.mn V.pre V.len V.lev V.hol V.sta V.en V.tdy V.dys V.pol V.par V.kd V.fi V.se V.th V.ne 0 V.fo V.fl) 3 (nI x) (nI p) (nI n)) 0 0 p n (some x) ((vNote (mkV V.mn V.pre V.len V.lev V.hol V.sta V.en V.tdy V.dys V.pol V.par V.kd V.fi V.se V.th V.ne 0 V.fo V.fl) 3 (nI x) (nI p) (nI n)).hol x) 2).pre z9)))), ((a 2), .inl (cI, 400, .inl (fun z9 => nI ((vMake (vNote (mkV V.mn V.pre V.len V.lev V.hol V.sta V.en V.tdy V.dys V.pol V.par V.kd V.fi V.se V.th V.ne 0 V.fo V.fl) 3 (nI x) (nI p) (nI n)) 0 0 p n (some x) ((vNote (mkV V.mn V.pre V.len V.lev V.hol V.sta V.en V.tdy V.dys V.pol V.par V.kd V.fi V.se V.th V.ne 0 V.fo V.fl) 3 (nI x) (nI p) (nI n)).hol x) 2).len z9)))), ((a 3), .inl (cI, 400, .inl (fun z9 => pI ((vMake (vNote (mkV V.mn V.pre V.len V.lev V.hol V.sta V.en V.tdy V.dys V.pol V.par V.kd V.fi V.se V.th V.ne 0 V.fo V.fl) 3 (nI x) (nI p) (nI n)) 0 0 p n (some x) ((vNote (mkV V.mn V.pre V.len V.lev V.hol V.sta V.en V.tdy V.dys V.pol V.par V.kd V.fi V.se V.th V.ne 0 V.fo V.fl) 3 (nI x) (nI p) (nI n)).hol x) 2).par z9)))), ((a 4), .inl (cI, 400, .inl (fun z9 => nI ((vMake (vNote (mkV V.mn V.pre V.len V.lev V.hol V.sta V.en V.tdy V.dys V.pol V.par V.kd V.fi V.se V.th V.ne 0 V.fo V.fl) 3 (nI x) (nI p) (nI n)) 0 0 p n (some x) ((vNote (mkV V.mn V.pre V.len V.lev V.hol V.sta V.en V.tdy V.dys V.pol V.par V.kd V.fi V.se V.th V.ne 0 V.fo V.fl) 3 (nI x) (nI p) (nI n)).hol x) 2).lev z9)))), ((a 5), .inl (cI, 400, .inl (fun z9 => nI ((vMake (vNote (mkV V.mn V.pre V.len V.lev V.hol V.sta V.en V.tdy V.dys V.pol V.par V.kd V.fi V.se V.th V.ne 0 V.fo V.fl) 3 (nI x) (nI p) (nI n)) 0 0 p n (some x) ((vNote (mkV V.mn V.pre V.len V.lev V.hol V.sta V.en V.tdy V.dys V.pol V.par V.kd V.fi V.se V.th V.ne 0 V.fo V.fl) 3 (nI x) (nI p) (nI n)).hol x) 2).hol z9)))), ((a 6), .inl (cI, 400, .inl (fun z9 => nI ((vMake (vNote (mkV V.mn V.pre V.len V.lev V.hol V.sta V.en V.tdy V.dys V.pol V.par V.kd V.fi V.se V.th V.ne 0 V.fo V.fl) 3 (nI x) (nI p) (nI n)) 0 0 p n (some x) ((vNote (mkV V.mn V.pre V.len V.lev V.hol V.sta V.en V.tdy V.dys V.pol V.par V.kd V.fi V.se V.th V.ne 0 V.fo V.fl) 3 (nI x) (nI p) (nI n)).hol x) 2).sta z9)))), ((a 7), .inl (cI, 400, .inl (fun z9 => nI ((vMake (vNote (mkV V.mn V.pre V.len V.lev V.hol V.sta V.en V.tdy V.dys V.pol V.par V.kd V.fi V.se V.th V.ne 0 V.fo V.fl) 3 (nI x) (nI p) (nI n)) 0 0 p n (some x) ((vNote (mkV V.mn V.pre V.len V.lev V.hol V.sta V.en V.tdy V.dys V.pol V.par V.kd V.fi V.se V.th V.ne 0 V.fo V.fl) 3 (nI x) (nI p) (nI n)).hol x) 2).en z9)))), ((a 8), .inl (cI, 2, .inl (fun z9 => nI ((vMake (vNote (mkV V.mn V.pre V.len V.lev V.hol V.sta V.en V.tdy V.dys V.pol V.par V.kd V.fi V.se V.th V.ne 0 V.fo V.fl) 3 (nI x) (nI p) (nI n)) 0 0 p n (some x) ((vNote (mkV V.mn V.pre V.len V.lev V.hol V.sta V.en V.tdy V.dys V.pol V.par V.kd V.fi V.se V.th V.ne 0 V.fo V.fl) 3 (nI x) (nI p) (nI n)).hol x) 2).tdy z9)))), ((a 9), .inl (cI, 2, .inl (fun z9 => nI ((vMake (vNote (mkV V.mn V.pre V.len V.lev V.hol V.sta V.en V.tdy V.dys V.pol V.par V.kd V.fi V.se V.th V.ne 0 V.fo V.fl) 3 (nI x) (nI p) (nI n)) 0 0 p n (some x) ((vNote (mkV V.mn V.pre V.len V.lev V.hol V.sta V.en V.tdy V.dys V.pol V.par V.kd V.fi V.se V.th V.ne 0 V.fo V.fl) 3 (nI x) (nI p) (nI n)).hol x) 2).dys z9)))), ((a 10), .inl (cI, 8, .inl (fun z9 => nI ((vMake (vNote (mkV V.mn V.pre V.len V.lev V.hol V.sta V.en V.tdy V.dys V.pol V.par V.kd V.fi V.se V.th V.ne 0 V.fo V.fl) 3 (nI x) (nI p) (nI n)) 0 0 p n (some x) ((vNote (mkV V.mn V.pre V.len V.lev V.hol V.sta V.en V.tdy V.dys V.pol V.par V.kd V.fi V.se V.th V.ne 0 V.fo V.fl) 3 (nI x) (nI p) (nI n)).hol x) 2).pol z9)))), ((a 11), .inl (cI, 300, .inl ((vMake (vNote (mkV V.mn V.pre V.len V.lev V.hol V.sta V.en V.tdy V.dys V.pol V.par V.kd V.fi V.se V.th V.ne 0 V.fo V.fl) 3 (nI x) (nI p) (nI n)) 0 0 p n (some x) ((vNote (mkV V.mn V.pre V.len V.lev V.hol V.sta V.en V.tdy V.dys V.pol V.par V.kd V.fi V.se V.th V.ne 0 V.fo V.fl) 3 (nI x) (nI p) (nI n)).hol x) 2).kd))), ((a 12), .inl (cI, 300, .inl ((vMake (vNote (mkV V.mn V.pre V.len V.lev V.hol V.sta V.en V.tdy V.dys V.pol V.par V.kd V.fi V.se V.th V.ne 0 V.fo V.fl) 3 (nI x) (nI p) (nI n)) 0 0 p n (some x) ((vNote (mkV V.mn V.pre V.len V.lev V.hol V.sta V.en V.tdy V.dys V.pol V.par V.kd V.fi V.se V.th V.ne 0 V.fo V.fl) 3 (nI x) (nI p) (nI n)).hol x) 2).fi))), ((a 13), .inl (cI, 300, .inl ((vMake (vNote (mkV V.mn V.pre V.len V.lev V.hol V.sta V.en V.tdy V.dys V.pol V.par V.kd V.fi V.se V.th V.ne 0 V.fo V.fl) 3 (nI x) (nI p) (nI n)) 0 0 p n (some x) ((vNote (mkV V.mn V.pre V.len V.lev V.hol V.sta V.en V.tdy V.dys V.pol V.par V.kd V.fi V.se V.th V.ne 0 V.fo V.fl) 3 (nI x) (nI p) (nI n)).hol x) 2).se))), ((a 14), .inl (cI, 300, .inl ((vMake (vNote (mkV V.mn V.pre V.len V.lev V.hol V.sta V.en V.tdy V.dys V.pol V.par V.kd V.fi V.se V.th V.ne 0 V.fo V.fl) 3 (nI x) (nI p) (nI n)) 0 0 p n (some x) ((vNote (mkV V.mn V.pre V.len V.lev V.hol V.sta V.en V.tdy V.dys V.pol V.par V.kd V.fi V.se V.th V.ne 0 V.fo V.fl) 3 (nI x) (nI p) (nI n)).hol x) 2).th)))] := hD.sub (ws' := [(o, .inr (5, [.int (nI (vMake (vNote (mkV V.mn V.pre V.len V.lev V.hol V.sta V.en V.tdy V.dys V.pol V.par V.kd V.fi V.se V.th V.ne 0 V.fo V.fl) 3 (nI x) (nI p) (nI n)) 0 0 p n (some x) ((vNote (mkV V.mn V.pre V.len V.lev V.hol V.sta V.en V.tdy V.dys V.pol V.par V.kd V.fi V.se V.th V.ne 0 V.fo V.fl) 3 (nI x) (nI p) (nI n)).hol x) 2).tc), .ref (a 0), .ref (a 1), .ref (a 2), .ref (a 3), .ref (a 4), .ref (a 5), .ref (a 6), .ref (a 7), .ref (a 8), .ref (a 9), .ref (a 10), .int (nI (vMake (vNote (mkV V.mn V.pre V.len V.lev V.hol V.sta V.en V.tdy V.dys V.pol V.par V.kd V.fi V.se V.th V.ne 0 V.fo V.fl) 3 (nI x) (nI p) (nI n)) 0 0 p n (some x) ((vNote (mkV V.mn V.pre V.len V.lev V.hol V.sta V.en V.tdy V.dys V.pol V.par V.kd V.fi V.se V.th V.ne 0 V.fo V.fl) 3 (nI x) (nI p) (nI n)).hol x) 2).ne), .ref (a 11), .ref (a 12), .ref (a 13), .ref (a 14), .long ((vMake (vNote (mkV V.mn V.pre V.len V.lev V.hol V.sta V.en V.tdy V.dys V.pol V.par V.kd V.fi V.se V.th V.ne 0 V.fo V.fl) 3 (nI x) (nI p) (nI n)) 0 0 p n (some x) ((vNote (mkV V.mn V.pre V.len V.lev V.hol V.sta V.en V.tdy V.dys V.pol V.par V.kd V.fi V.se V.th V.ne 0 V.fo V.fl) 3 (nI x) (nI p) (nI n)).hol x) 2).fo), .int ((vMake (vNote (mkV V.mn V.pre V.len V.lev V.hol V.sta V.en V.tdy V.dys V.pol V.par V.kd V.fi V.se V.th V.ne 0 V.fo V.fl) 3 (nI x) (nI p) (nI n)) 0 0 p n (some x) ((vNote (mkV V.mn V.pre V.len V.lev V.hol V.sta V.en V.tdy V.dys V.pol V.par V.kd V.fi V.se V.th V.ne 0 V.fo V.fl) 3 (nI x) (nI p) (nI n)).hol x) 2).fl)])), ((a 0), .inl (cI, 2, .inl (fun z9 => nI ((vMake (vNote (mkV V.mn V.pre V.len V.lev V.hol V.sta V.en V.tdy V.dys V.pol V.par V.kd V.fi V.se V.th V.ne 0 V.fo V.fl) 3 (nI x) (nI p) (nI n)) 0 0 p n (some x) ((vNote (mkV V.mn V.pre V.len V.lev V.hol V.sta V.en V.tdy V.dys V.pol V.par V.kd V.fi V.se V.th V.ne 0 V.fo V.fl) 3 (nI x) (nI p) (nI n)).hol x) 2).mn z9)))), ((a 1), .inl (cI, 400, .inl (fun z9 => nI ((vMake (vNote (mkV V.mn V.pre V.len V.lev V.hol V.sta V.en V.tdy V.dys V.pol V.par V.kd V.fi V.se V.th V.ne 0 V.fo V.fl) 3 (nI x) (nI p) (nI n)) 0 0 p n (some x) ((vNote (mkV V.mn V.pre V.len V.lev V.hol V.sta V.en V.tdy V.dys V.pol V.par V.kd V.fi V.se V.th V.ne 0 V.fo V.fl) 3 (nI x) (nI p) (nI n)).hol x) 2).pre z9)))), ((a 2), .inl (cI, 400, .inl (fun z9 => nI ((vMake (vNote (mkV V.mn V.pre V.len V.lev V.hol V.sta V.en V.tdy V.dys V.pol V.par V.kd V.fi V.se V.th V.ne 0 V.fo V.fl) 3 (nI x) (nI p) (nI n)) 0 0 p n (some x) ((vNote (mkV V.mn V.pre V.len V.lev V.hol V.sta V.en V.tdy V.dys V.pol V.par V.kd V.fi V.se V.th V.ne 0 V.fo V.fl) 3 (nI x) (nI p) (nI n)).hol x) 2).len z9)))), ((a 3), .inl (cI, 400, .inl (fun z9 => pI ((vMake (vNote (mkV V.mn V.pre V.len V.lev V.hol V.sta V.en V.tdy V.dys V.pol V.par V.kd V.fi V.se V.th V.ne 0 V.fo V.fl) 3 (nI x) (nI p) (nI n)) 0 0 p n (some x) ((vNote (mkV V.mn V.pre V.len V.lev V.hol V.sta V.en V.tdy V.dys V.pol V.par V.kd V.fi V.se V.th V.ne 0 V.fo V.fl) 3 (nI x) (nI p) (nI n)).hol x) 2).par z9)))), ((a 4), .inl (cI, 400, .inl (fun z9 => nI ((vMake (vNote (mkV V.mn V.pre V.len V.lev V.hol V.sta V.en V.tdy V.dys V.pol V.par V.kd V.fi V.se V.th V.ne 0 V.fo V.fl) 3 (nI x) (nI p) (nI n)) 0 0 p n (some x) ((vNote (mkV V.mn V.pre V.len V.lev V.hol V.sta V.en V.tdy V.dys V.pol V.par V.kd V.fi V.se V.th V.ne 0 V.fo V.fl) 3 (nI x) (nI p) (nI n)).hol x) 2).lev z9)))), ((a 5), .inl (cI, 400, .inl (fun z9 => nI ((vMake (vNote (mkV V.mn V.pre V.len V.lev V.hol V.sta V.en V.tdy V.dys V.pol V.par V.kd V.fi V.se V.th V.ne 0 V.fo V.fl) 3 (nI x) (nI p) (nI n)) 0 0 p n (some x) ((vNote (mkV V.mn V.pre V.len V.lev V.hol V.sta V.en V.tdy V.dys V.pol V.par V.kd V.fi V.se V.th V.ne 0 V.fo V.fl) 3 (nI x) (nI p) (nI n)).hol x) 2).hol z9)))), ((a 6), .inl (cI, 400, .inl (fun z9 => nI ((vMake (vNote (mkV V.mn V.pre V.len V.lev V.hol V.sta V.en V.tdy V.dys V.pol V.par V.kd V.fi V.se V.th V.ne 0 V.fo V.fl) 3 (nI x) (nI p) (nI n)) 0 0 p n (some x) ((vNote (mkV V.mn V.pre V.len V.lev V.hol V.sta V.en V.tdy V.dys V.pol V.par V.kd V.fi V.se V.th V.ne 0 V.fo V.fl) 3 (nI x) (nI p) (nI n)).hol x) 2).sta z9)))), ((a 7), .inl (cI, 400, .inl (fun z9 => nI ((vMake (vNote (mkV V.mn V.pre V.len V.lev V.hol V.sta V.en V.tdy V.dys V.pol V.par V.kd V.fi V.se V.th V.ne 0 V.fo V.fl) 3 (nI x) (nI p) (nI n)) 0 0 p n (some x) ((vNote (mkV V.mn V.pre V.len V.lev V.hol V.sta V.en V.tdy V.dys V.pol V.par V.kd V.fi V.se V.th V.ne 0 V.fo V.fl) 3 (nI x) (nI p) (nI n)).hol x) 2).en z9)))), ((a 8), .inl (cI, 2, .inl (fun z9 => nI ((vMake (vNote (mkV V.mn V.pre V.len V.lev V.hol V.sta V.en V.tdy V.dys V.pol V.par V.kd V.fi V.se V.th V.ne 0 V.fo V.fl) 3 (nI x) (nI p) (nI n)) 0 0 p n (some x) ((vNote (mkV V.mn V.pre V.len V.lev V.hol V.sta V.en V.tdy V.dys V.pol V.par V.kd V.fi V.se V.th V.ne 0 V.fo V.fl) 3 (nI x) (nI p) (nI n)).hol x) 2).tdy z9)))), ((a 9), .inl (cI, 2, .inl (fun z9 => nI ((vMake (vNote (mkV V.mn V.pre V.len V.lev V.hol V.sta V.en V.tdy V.dys V.pol V.par V.kd V.fi V.se V.th V.ne 0 V.fo V.fl) 3 (nI x) (nI p) (nI n)) 0 0 p n (some x) ((vNote (mkV V.mn V.pre V.len V.lev V.hol V.sta V.en V.tdy V.dys V.pol V.par V.kd V.fi V.se V.th V.ne 0 V.fo V.fl) 3 (nI x) (nI p) (nI n)).hol x) 2).dys z9)))), ((a 10), .inl (cI, 8, .inl (fun z9 => nI ((vMake (vNote (mkV V.mn V.pre V.len V.lev V.hol V.sta V.en V.tdy V.dys V.pol V.par V.kd V.fi V.se V.th V.ne 0 V.fo V.fl) 3 (nI x) (nI p) (nI n)) 0 0 p n (some x) ((vNote (mkV V.mn V.pre V.len V.lev V.hol V.sta V.en V.tdy V.dys V.pol V.par V.kd V.fi V.se V.th V.ne 0 V.fo V.fl) 3 (nI x) (nI p) (nI n)).hol x) 2).pol z9)))), ((a 11), .inl (cI, 300, .inl ((vMake (vNote (mkV V.mn V.pre V.len V.lev V.hol V.sta V.en V.tdy V.dys V.pol V.par V.kd V.fi V.se V.th V.ne 0 V.fo V.fl) 3 (nI x) (nI p) (nI n)) 0 0 p n (some x) ((vNote (mkV V.mn V.pre V.len V.lev V.hol V.sta V.en V.tdy V.dys V.pol V.par V.kd V.fi V.se V.th V.ne 0 V.fo V.fl) 3 (nI x) (nI p) (nI n)).hol x) 2).kd))), ((a 12), .inl (cI, 300, .inl ((vMake (vNote (mkV V.mn V.pre V.len V.lev V.hol V.sta V.en V.tdy V.dys V.pol V.par V.kd V.fi V.se V.th V.ne 0 V.fo V.fl) 3 (nI x) (nI p) (nI n)) 0 0 p n (some x) ((vNote (mkV V.mn V.pre V.len V.lev V.hol V.sta V.en V.tdy V.dys V.pol V.par V.kd V.fi V.se V.th V.ne 0 V.fo V.fl) 3 (nI x) (nI p) (nI n)).hol x) 2).fi))), ((a 13), .inl (cI, 300, .inl ((vMake (vNote (mkV V.mn V.pre V.len V.lev V.hol V.sta V.en V.tdy V.dys V.pol V.par V.kd V.fi V.se V.th V.ne 0 V.fo V.fl) 3 (nI x) (nI p) (nI n)) 0 0 p n (some x) ((vNote (mkV V.mn V.pre V.len V.lev V.hol V.sta V.en V.tdy V.dys V.pol V.par V.kd V.fi V.se V.th V.ne 0 V.fo V.fl) 3 (nI x) (nI p) (nI n)).hol x) 2).se))), ((a 14), .inl (cI, 300, .inl ((vMake (vNote (mkV V.mn V.pre V.len V.lev V.hol V.sta V.en V.tdy V.dys V.pol V.par V.kd V.fi V.se V.th V.ne 0 V.fo V.fl) 3 (nI x) (nI p) (nI n)) 0 0 p n (some x) ((vNote (mkV V.mn V.pre V.len V.lev V.hol V.sta V.en V.tdy V.dys V.pol V.par V.kd V.fi V.se V.th V.ne 0 V.fo V.fl) 3 (nI x) (nI p) (nI n)).hol x) 2).th)))]) [0, 1, 2, 3, 4, 5, 6, 7, 8, 9, 10, 11, 12, 13, 14, 15] (by decide) rfl
    have e9 : moRes V x p n = vMake (vNote (mkV V.mn V.pre V.len V.lev V.hol V.sta V.en V.tdy V.dys V.pol V.par V.kd V.fi V.se V.th V.ne 0 V.fo V.fl) 3 (nI x) (nI p) (nI n)) 0 0 p n (some x) (V.hol x) 2 := by unfold moRes; rw [if_pos h13, if_neg h20]
    have e8 : moResR V x p n = nI (V.mn 0) := by unfold moResR; rw [if_pos h13, if_neg h20]
    have hP9 : va_P (dC, dI) classes (wMo cI o a (moRes V x p n)) H := by rw [e9]; exact hP
    have hD9 : va_D A (wMo cI o a (moRes V x p n)) := by rw [e9]; exact hD
    exact W.iret (v := (nI (V.mn 0))) hx hb hr (fun t ht hW => ⟨⟨(nI (V.mn 0)), (), rfl, (by first | (rw [e8]; done) | (rw [e8]; rfl)), by rw [ht]; exact hP9, va_K.moved hW.alike hK, hD9⟩, hS.F ht⟩) hS.2.2 d_Mo_reserve_80
  have h20 := Decidable.not_not.mp (mt bi_d.mpr h20)
  refine lv_iconst (v := 1) hx hb d_Mo_reserve_23 (by decide) ?_
  refine lv_goto hx hb d_Mo_reserve_24 rfl ?_
  refine va_put (D := (dC, dI)) (ci := 5) (v := .int 1) (ty := .int) (C := R_Mo) (T := F_Mo) (N := 19) hx hb hts u_Mo t_Mo t_Mo_ok n_Mo hown hK hP hD hS 0 rfl rfl 0 (by decide) (hts _ kw_714) (fun _ h9 => h9) rfl (by decide +kernel) rfl rfl (Nat.le_of_ble_eq_true rfl) d_Mo_reserve_28 (fun H locs hP hD hS => ?_)
  replace hP : va_P (dC, dI) classes [(o, .inr (5, [.int 1, .ref (a 0), .ref (a 1), .ref (a 2), .ref (a 3), .ref (a 4), .ref (a 5), .ref (a 6), .ref (a 7), .ref (a 8), .ref (a 9), .ref (a 10), .int (nI V.ne), .ref (a 11), .ref (a 12), .ref (a 13), .ref (a 14), .long V.fo, .int V.fl])), ((a 0), .inl (cI, 2, .inl (fun z9 => nI (V.mn z9)))), ((a 1), .inl (cI, 400, .inl (fun z9 => nI (V.pre z9)))), ((a 2), .inl (cI, 400, .inl (fun z9 => nI (V.len z9)))), ((a 3), .inl (cI, 400, .inl (fun z9 => pI (V.par z9)))), ((a 4), .inl (cI, 400, .inl (fun z9 => nI (V.lev z9)))), ((a 5), .inl (cI, 400, .inl (fun z9 => nI (V.hol z9)))), ((a 6), .inl (cI, 400, .inl (fun z9 => nI (V.sta z9)))), ((a 7), .inl (cI, 400, .inl (fun z9 => nI (V.en z9)))), ((a 8), .inl (cI, 2, .inl (fun z9 => nI (V.tdy z9)))), ((a 9), .inl (cI, 2, .inl (fun z9 => nI (V.dys z9)))), ((a 10), .inl (cI, 8, .inl (fun z9 => nI (V.pol z9)))), ((a 11), .inl (cI, 300, .inl V.kd)), ((a 12), .inl (cI, 300, .inl V.fi)), ((a 13), .inl (cI, 300, .inl V.se)), ((a 14), .inl (cI, 300, .inl V.th))] H := hP
  replace hD : va_D A [(o, .inr (5, [.int 1, .ref (a 0), .ref (a 1), .ref (a 2), .ref (a 3), .ref (a 4), .ref (a 5), .ref (a 6), .ref (a 7), .ref (a 8), .ref (a 9), .ref (a 10), .int (nI V.ne), .ref (a 11), .ref (a 12), .ref (a 13), .ref (a 14), .long V.fo, .int V.fl])), ((a 0), .inl (cI, 2, .inl (fun z9 => nI (V.mn z9)))), ((a 1), .inl (cI, 400, .inl (fun z9 => nI (V.pre z9)))), ((a 2), .inl (cI, 400, .inl (fun z9 => nI (V.len z9)))), ((a 3), .inl (cI, 400, .inl (fun z9 => pI (V.par z9)))), ((a 4), .inl (cI, 400, .inl (fun z9 => nI (V.lev z9)))), ((a 5), .inl (cI, 400, .inl (fun z9 => nI (V.hol z9)))), ((a 6), .inl (cI, 400, .inl (fun z9 => nI (V.sta z9)))), ((a 7), .inl (cI, 400, .inl (fun z9 => nI (V.en z9)))), ((a 8), .inl (cI, 2, .inl (fun z9 => nI (V.tdy z9)))), ((a 9), .inl (cI, 2, .inl (fun z9 => nI (V.dys z9)))), ((a 10), .inl (cI, 8, .inl (fun z9 => nI (V.pol z9)))), ((a 11), .inl (cI, 300, .inl V.kd)), ((a 12), .inl (cI, 300, .inl V.fi)), ((a 13), .inl (cI, 300, .inl V.se)), ((a 14), .inl (cI, 300, .inl V.th))] := hD
  refine lv_iload hx hb d_Mo_reserve_31 (lv_at hl 0 rfl) ?_
  refine lv_if_lt hx hb d_Mo_reserve_33 rfl (fun hF9 => absurd hF9 (by rw [h13]; decide)) (fun _ => ?_)
  refine lv_aload_n hx hb d_Mo_reserve_36 rfl (lv_at hl 1 rfl) ?_
  refine va_get (D := (dC, dI)) (ci := 5) (v := .int 1) (C := R_Mo) (T := F_Mo) (N := 19) hx hb hts u_Mo hown hK hP 0 rfl rfl 0 (by decide) (hts _ kw_714) (fun _ h9 => h9) rfl d_Mo_reserve_37 ?_
  refine lv_if_le hx hb d_Mo_reserve_40 rfl (fun hF9 => absurd hF9 (by decide)) (fun _ => ?_)
  refine lv_aload_n hx hb d_Mo_reserve_43 rfl (lv_at hl 1 rfl) ?_
  refine va_get (D := (dC, dI)) (ci := 5) (v := .int 1) (C := R_Mo) (T := F_Mo) (N := 19) hx hb hts u_Mo hown hK hP 0 rfl rfl 0 (by decide) (hts _ kw_714) (fun _ h9 => h9) rfl d_Mo_reserve_44 ?_
  refine lv_if_le hx hb d_Mo_reserve_47 rfl (fun hF9 => absurd hF9 (by decide)) (fun _ => ?_)
  refine lv_iconst (v := 0) hx hb d_Mo_reserve_50 (by decide) ?_
  refine lv_goto hx hb d_Mo_reserve_51 rfl ?_
  have e9 : moRes V x p n = (mkV V.mn V.pre V.len V.lev V.hol V.sta V.en V.tdy V.dys V.pol V.par V.kd V.fi V.se V.th V.ne 1 V.fo V.fl) := by unfold moRes; rw [if_pos h13, if_pos h20]
  have e8 : moResR V x p n = 0 := by unfold moResR; rw [if_pos h13, if_pos h20]
  have hP9 : va_P (dC, dI) classes (wMo cI o a (moRes V x p n)) H := by rw [e9]; exact hP
  have hD9 : va_D A (wMo cI o a (moRes V x p n)) := by rw [e9]; exact hD
  exact W.iret (v := 0) hx hb hr (fun t ht hW => ⟨⟨0, (), rfl, (by first | (rw [e8]; done) | (rw [e8]; rfl)), by rw [ht]; exact hP9, va_K.moved hW.alike hK, hD9⟩, hS.F ht⟩) hS.2.2 d_Mo_reserve_56
set_option maxHeartbeats 4000000 in
set_option maxRecDepth 100000 in
theorem c_Mo_fieldOf (l : Launch) (dC : Nat → ClassId) (dI : Nat → Nat → Nat) (cI : ClassId) (o : Nat) (a : Nat → Nat) (V : MS) (hV : MSok V) (r : Nat) (hr0 : r < 400) (w : Nat) (hw : w ≤ 6) : Met l y_Mo_fieldOf (.code y_Mo_fieldOf b_Mo_fieldOf 3 (some .int) :: wG) ({ frames := 1, cells := 0, slots := 0, locals := 21 }) (PcS (dC, dI) [(cI, .int)] (wMo cI o a V) [.ref o, .int (nI r), .int (nI w)]) (vp_Si (fun r9 => r9 = fdN V r w)) 0 0 (fun _ => False) := by
  refine Met.ofW (cc := b_Mo_fieldOf) (maxL := 3) (ret := (some .int)) (by decide) rfl ?_
  intro pg eg s mg ag bg meth cg s₁ B hml hv
  obtain ⟨rfl, hP, hK, hN⟩ := hv
  have hx := B.exec
  have hb := B.bytes
  have hr := B.returns
  have hlocks := B.notSynchronized
  have hts : ∀ w9 ∈ wG, w9.before ([.ref o, .int (nI r), .int (nI w)] : List Value).toArray s = true := fun w9 h9 => atoms_spec (ws := (.code y_Mo_fieldOf b_Mo_fieldOf 3 (some .int) :: wG)) B.pre w9 (List.mem_cons_of_mem _ h9)
  have hown : s.vm.findClass "PrefixRegistryModel" = some mg.cls := findClass_of_methodNamed B.named
  have hP : va_P (dC, dI) classes (wMo cI o a V) s.heap := hP
  have hl := lv_entry ([.ref o, .int (nI r), .int (nI w)]) (n := 3) (Nat.le_of_ble_eq_true rfl)
  rw [lg_entry_eq]
  generalize (lg_sl ([.ref o, .int (nI r), .int (nI w)]) ++ List.replicate (3 - (lg_sl ([.ref o, .int (nI r), .int (nI w)])).length) Slot.unset).toArray = ls at hl ⊢
  replace hl : lv_has ls 3 [(0, .ref o), (1, .int (nI r)), (2, .int (nI w))] := hl
  match w, hw with
  | 0, _ =>
    replace hl : lv_has ls 3 [(0, .ref o), (1, .int (nI r)), (2, .int 0)] := hl
    refine lv_iload_n hx hb d_Mo_fieldOf_0 rfl (lv_at hl 2 rfl) ?_
    refine lv_tableIn (tgt := 40) hx hb d_Mo_fieldOf_1 (by decide) (by decide) rfl rfl ?_
    refine lv_aload_n hx hb d_Mo_fieldOf_40 rfl (lv_at hl 0 rfl) ?_
    refine va_get (D := (dC, dI)) (ci := 5) (v := .ref (a 1)) (C := R_Mo) (T := F_Mo) (N := 19) hx hb hts u_Mo hown hK hP 0 rfl rfl 2 (by decide) (hts _ kw_716) (fun _ h9 => h9) rfl d_Mo_fieldOf_41 ?_
    refine lv_iload_n hx hb d_Mo_fieldOf_44 rfl (lv_at hl 1 rfl) ?_
    refine x_iald (j := r) (v := (nI (V.pre r))) hx hb hK hP 2 0 rfl rfl hr0 (by decide) rfl rfl d_Mo_fieldOf_45 ?_
    exact W.iret (v := (nI (V.pre r))) hx hb hr (fun t ht hW => ⟨(nI (V.pre r)), rfl, (by rfl), ht⟩) (fun q h => nomatch h) d_Mo_fieldOf_46
  | 1, _ =>
    replace hl : lv_has ls 3 [(0, .ref o), (1, .int (nI r)), (2, .int 1)] := hl
    refine lv_iload_n hx hb d_Mo_fieldOf_0 rfl (lv_at hl 2 rfl) ?_
    refine lv_tableIn (tgt := 47) hx hb d_Mo_fieldOf_1 (by decide) (by decide) rfl rfl ?_
    refine lv_aload_n hx hb d_Mo_fieldOf_47 rfl (lv_at hl 0 rfl) ?_
    refine va_get (D := (dC, dI)) (ci := 5) (v := .ref (a 2)) (C := R_Mo) (T := F_Mo) (N := 19) hx hb hts u_Mo hown hK hP 0 rfl rfl 3 (by decide) (hts _ kw_717) (fun _ h9 => h9) rfl d_Mo_fieldOf_48 ?_
    refine lv_iload_n hx hb d_Mo_fieldOf_51 rfl (lv_at hl 1 rfl) ?_
    refine x_iald (j := r) (v := (nI (V.len r))) hx hb hK hP 3 0 rfl rfl hr0 (by decide) rfl rfl d_Mo_fieldOf_52 ?_
    exact W.iret (v := (nI (V.len r))) hx hb hr (fun t ht hW => ⟨(nI (V.len r)), rfl, (by rfl), ht⟩) (fun q h => nomatch h) d_Mo_fieldOf_53
  | 2, _ =>
    replace hl : lv_has ls 3 [(0, .ref o), (1, .int (nI r)), (2, .int 2)] := hl
    refine lv_iload_n hx hb d_Mo_fieldOf_0 rfl (lv_at hl 2 rfl) ?_
    refine lv_tableIn (tgt := 54) hx hb d_Mo_fieldOf_1 (by decide) (by decide) rfl rfl ?_
    refine lv_aload_n hx hb d_Mo_fieldOf_54 rfl (lv_at hl 0 rfl) ?_
    refine va_get (D := (dC, dI)) (ci := 5) (v := .ref (a 3)) (C := R_Mo) (T := F_Mo) (N := 19) hx hb hts u_Mo hown hK hP 0 rfl rfl 4 (by decide) (hts _ kw_718) (fun _ h9 => h9) rfl d_Mo_fieldOf_55 ?_
    refine lv_iload_n hx hb d_Mo_fieldOf_58 rfl (lv_at hl 1 rfl) ?_
    refine x_iald (j := r) (v := (pI (V.par r))) hx hb hK hP 4 0 rfl rfl hr0 (by decide) rfl rfl d_Mo_fieldOf_59 ?_
    refine lv_if_ge hx hb d_Mo_fieldOf_60 rfl (fun h60 => ?_) (fun h60 => ?_)
    · have h60 := (pI_ge (fun j q => by have := hV.par q; omega)).mp h60
      refine lv_aload_n hx hb d_Mo_fieldOf_67 rfl (lv_at hl 0 rfl) ?_
      refine va_get (D := (dC, dI)) (ci := 5) (v := .ref (a 3)) (C := R_Mo) (T := F_Mo) (N := 19) hx hb hts u_Mo hown hK hP 0 rfl rfl 4 (by decide) (hts _ kw_718) (fun _ h9 => h9) rfl d_Mo_fieldOf_68 ?_
      refine lv_iload_n hx hb d_Mo_fieldOf_71 rfl (lv_at hl 1 rfl) ?_
      refine x_iald (j := r) (v := (pI (V.par r))) hx hb hK hP 4 0 rfl rfl hr0 (by decide) rfl rfl d_Mo_fieldOf_72 ?_
      refine lv_aload_n hx hb d_Mo_fieldOf_73 rfl (lv_at hl 0 rfl) ?_
      refine lv_iload_n hx hb d_Mo_fieldOf_74 rfl (lv_at hl 1 rfl) ?_
      refine vp_callSi (W.runV (b := o) (As := [.int (nI r)]) (rest := [.int (pI (V.par r))]) ⟨hx, hb, hml, hown, hts⟩ (c_Mo_startOf l dC dI cI o a V hV r hr0) (cwV 1 hts (gV kw_833 kw_835 ks_32 kw_6 kw_836) rfl rfl rfl (by decide +kernel) ⟨Nat.le_of_ble_eq_true rfl, Nat.le_of_ble_eq_true rfl⟩) ⟨PcS.blind, va_recv (q0 := 0) hK hP rfl rfl, PcS.use hP hK hN⟩ rfl rfl hl.1 rfl (lv_room (Nat.le_of_ble_eq_true rfl)) d_Mo_fieldOf_75 ⟨Nat.zero_le _, Nat.zero_le _⟩) (fun r75 hr75 => ?_)
      obtain rfl : r75 = (nI (sbN r)) := hr75
      refine lv_isub hx hb d_Mo_fieldOf_78 ?_
      exact W.iret (v := ((pI (V.par r)) - (nI (sbN r)))) hx hb hr (fun t ht hW => ⟨((pI (V.par r)) - (nI (sbN r))), rfl, (by show pI (V.par r) - nI (sbN r) = fdP (V.par r) (sbN r); cases hq : V.par r with | none => exact absurd hq h60 | some q => rfl), ht⟩) (fun q h => nomatch h) d_Mo_fieldOf_79
    have h60 := mt (pI_ge (fun j q => by have := hV.par q; omega)).mpr h60
    refine lv_iconst (v := (-1)) hx hb d_Mo_fieldOf_63 (by decide) ?_
    refine lv_goto hx hb d_Mo_fieldOf_64 rfl ?_
    exact W.iret (v := (-1)) hx hb hr (fun t ht hW => ⟨(-1), rfl, (by show (-1 : Int32) = fdP (V.par r) (sbN r); rw [Decidable.not_not.mp h60]; rfl), ht⟩) (fun q h => nomatch h) d_Mo_fieldOf_79
  | 3, _ =>
    replace hl : lv_has ls 3 [(0, .ref o), (1, .int (nI r)), (2, .int 3)] := hl
    refine lv_iload_n hx hb d_Mo_fieldOf_0 rfl (lv_at hl 2 rfl) ?_
    refine lv_tableIn (tgt := 80) hx hb d_Mo_fieldOf_1 (by decide) (by decide) rfl rfl ?_
    refine lv_aload_n hx hb d_Mo_fieldOf_80 rfl (lv_at hl 0 rfl) ?_
    refine va_get (D := (dC, dI)) (ci := 5) (v := .ref (a 4)) (C := R_Mo) (T := F_Mo) (N := 19) hx hb hts u_Mo hown hK hP 0 rfl rfl 5 (by decide) (hts _ kw_719) (fun _ h9 => h9) rfl d_Mo_fieldOf_81 ?_
    refine lv_iload_n hx hb d_Mo_fieldOf_84 rfl (lv_at hl 1 rfl) ?_
    refine x_iald (j := r) (v := (nI (V.lev r))) hx hb hK hP 5 0 rfl rfl hr0 (by decide) rfl rfl d_Mo_fieldOf_85 ?_
    exact W.iret (v := (nI (V.lev r))) hx hb hr (fun t ht hW => ⟨(nI (V.lev r)), rfl, (by rfl), ht⟩) (fun q h => nomatch h) d_Mo_fieldOf_86
  | 4, _ =>
    replace hl : lv_has ls 3 [(0, .ref o), (1, .int (nI r)), (2, .int 4)] := hl
    refine lv_iload_n hx hb d_Mo_fieldOf_0 rfl (lv_at hl 2 rfl) ?_
    refine lv_tableIn (tgt := 87) hx hb d_Mo_fieldOf_1 (by decide) (by decide) rfl rfl ?_
    refine lv_aload_n hx hb d_Mo_fieldOf_87 rfl (lv_at hl 0 rfl) ?_
    refine va_get (D := (dC, dI)) (ci := 5) (v := .ref (a 5)) (C := R_Mo) (T := F_Mo) (N := 19) hx hb hts u_Mo hown hK hP 0 rfl rfl 6 (by decide) (hts _ kw_720) (fun _ h9 => h9) rfl d_Mo_fieldOf_88 ?_
    refine lv_iload_n hx hb d_Mo_fieldOf_91 rfl (lv_at hl 1 rfl) ?_
    refine x_iald (j := r) (v := (nI (V.hol r))) hx hb hK hP 6 0 rfl rfl hr0 (by decide) rfl rfl d_Mo_fieldOf_92 ?_
    exact W.iret (v := (nI (V.hol r))) hx hb hr (fun t ht hW => ⟨(nI (V.hol r)), rfl, (by rfl), ht⟩) (fun q h => nomatch h) d_Mo_fieldOf_93
  | 5, _ =>
    replace hl : lv_has ls 3 [(0, .ref o), (1, .int (nI r)), (2, .int 5)] := hl
    refine lv_iload_n hx hb d_Mo_fieldOf_0 rfl (lv_at hl 2 rfl) ?_
    refine lv_tableIn (tgt := 94) hx hb d_Mo_fieldOf_1 (by decide) (by decide) rfl rfl ?_
    refine lv_aload_n hx hb d_Mo_fieldOf_94 rfl (lv_at hl 0 rfl) ?_
    refine va_get (D := (dC, dI)) (ci := 5) (v := .ref (a 6)) (C := R_Mo) (T := F_Mo) (N := 19) hx hb hts u_Mo hown hK hP 0 rfl rfl 7 (by decide) (hts _ kw_721) (fun _ h9 => h9) rfl d_Mo_fieldOf_95 ?_
    refine lv_iload_n hx hb d_Mo_fieldOf_98 rfl (lv_at hl 1 rfl) ?_
    refine x_iald (j := r) (v := (nI (V.sta r))) hx hb hK hP 7 0 rfl rfl hr0 (by decide) rfl rfl d_Mo_fieldOf_99 ?_
    exact W.iret (v := (nI (V.sta r))) hx hb hr (fun t ht hW => ⟨(nI (V.sta r)), rfl, (by rfl), ht⟩) (fun q h => nomatch h) d_Mo_fieldOf_100
  | w + 6, hw =>
    obtain rfl : w = 0 := by omega
    replace hl : lv_has ls 3 [(0, .ref o), (1, .int (nI r)), (2, .int 6)] := hl
    refine lv_iload_n hx hb d_Mo_fieldOf_0 rfl (lv_at hl 2 rfl) ?_
    refine lv_tableOut (tgt := 101) hx hb d_Mo_fieldOf_1 (by decide) rfl ?_
    refine lv_aload_n hx hb d_Mo_fieldOf_101 rfl (lv_at hl 0 rfl) ?_
    refine va_get (D := (dC, dI)) (ci := 5) (v := .ref (a 7)) (C := R_Mo) (T := F_Mo) (N := 19) hx hb hts u_Mo hown hK hP 0 rfl rfl 8 (by decide) (hts _ kw_722) (fun _ h9 => h9) rfl d_Mo_fieldOf_102 ?_
    refine lv_iload_n hx hb d_Mo_fieldOf_105 rfl (lv_at hl 1 rfl) ?_
    refine x_iald (j := r) (v := (nI (V.en r))) hx hb hK hP 8 0 rfl rfl hr0 (by decide) rfl rfl d_Mo_fieldOf_106 ?_
    exact W.iret (v := (nI (V.en r))) hx hb hr (fun t ht hW => ⟨(nI (V.en r)), rfl, (by rfl), ht⟩) (fun q h => nomatch h) d_Mo_fieldOf_107
set_option maxHeartbeats 4000000 in
set_option maxRecDepth 100000 in
theorem c_Mo_field (l : Launch) (dC : Nat → ClassId) (dI : Nat → Nat → Nat) (sz : Nat) (cI : ClassId) (o : Nat) (a : Nat → Nat) (V : MS) (hV : MSok V) (x w : Nat) (hx0 : x < 4294967296) (hw0 : w < 4294967296) : Met l y_Mo_field (.code y_Mo_field b_Mo_field 3 (some .int) :: wG) ({ frames := 2, cells := 0, slots := 0, locals := 44 }) (PcM (dC, dI) [(cI, .int)] (wMo cI o a V) [.ref o, .int (nI x), .int (nI w)] sz) (QmI (dC, dI) [(cI, .int)] (wMo cI o a V) (wMo cI o a (mkV V.mn V.pre V.len V.lev V.hol V.sta V.en V.tdy V.dys V.pol V.par V.kd V.fi V.se V.th V.ne (mfdT V x w) V.fo V.fl)) sz (mfdR V x w)) 0 0 (va_A (wMo cI o a V) sz) := by
  refine Met.ofW (cc := b_Mo_field) (maxL := 3) (ret := (some .int)) (by decide) rfl ?_
  intro pg eg s mg ag bg meth cg s₁ B hml hv
  obtain ⟨rfl, hsz, hP, hK, hD0, hN⟩ := hv
  have hx := B.exec
  have hb := B.bytes
  have hr := B.returns
  have hlocks := B.notSynchronized
  have hts : ∀ w9 ∈ wG, w9.before ([.ref o, .int (nI x), .int (nI w)] : List Value).toArray s = true := fun w9 h9 => atoms_spec (ws := (.code y_Mo_field b_Mo_field 3 (some .int) :: wG)) B.pre w9 (List.mem_cons_of_mem _ h9)
  have hown : s.vm.findClass "PrefixRegistryModel" = some mg.cls := findClass_of_methodNamed B.named
  subst hsz
  have hD := hD0.self (sz := s.heap.size)
  unfold QmI
  generalize hAe : va_A (wMo cI o a V) s.heap.size = A at hD ⊢
  have hA : ∀ q : Nat, s.heap.size ≤ q → A q := fun q h => by rw [← hAe]; exact Or.inr h
  have hS : va_S A s.heap s.heap [] := va_S.rf
  have hl := lv_entry ([.ref o, .int (nI x), .int (nI w)]) (n := 3) (Nat.le_of_ble_eq_true rfl)
  rw [lg_entry_eq]
  generalize (lg_sl ([.ref o, .int (nI x), .int (nI w)]) ++ List.replicate (3 - (lg_sl ([.ref o, .int (nI x), .int (nI w)])).length) Slot.unset).toArray = ls at hl ⊢
  replace hl : lv_has ls 3 [(0, .ref o), (1, .int (nI x)), (2, .int (nI w))] := hl
  replace hP : va_P (dC, dI) classes (wMo cI o a V) s.heap := hP
  replace hD : va_D A (wMo cI o a V) := hD
  refine lv_aload_n hx hb d_Mo_field_0 rfl (lv_at hl 0 rfl) ?_
  refine lv_aload_n hx hb d_Mo_field_1 rfl (lv_at hl 0 rfl) ?_
  refine lv_iconst (v := 0) hx hb d_Mo_field_2 (by decide) ?_
  refine lv_iload_n hx hb d_Mo_field_3 rfl (lv_at hl 1 rfl) ?_
  refine vp_callSi (W.runV (b := o) (As := [.int 0, .int (nI x)]) (rest := [.ref o]) ⟨hx, hb, hml, hown, hts⟩ (c_Mo_isRecord l dC dI cI o a V hV 0 0 x (by decide) rfl hx0 ) (cwV 2 hts (gV kw_817 kw_819 ks_28 kw_6 kw_820) rfl rfl rfl (by decide +kernel) ⟨Nat.le_of_ble_eq_true rfl, Nat.le_of_ble_eq_true rfl⟩) ⟨PcS.blind, va_recv (q0 := 0) hK hP rfl rfl, PcS.use hP hK hN⟩ rfl rfl hl.1 rfl (lv_room (Nat.le_of_ble_eq_true rfl)) d_Mo_field_4 ⟨Nat.zero_le _, Nat.zero_le _⟩) (fun r4 hr4 => ?_)
  obtain rfl : r4 = bi (decide (x < V.mn 0)) := hr4
  refine lv_if_ne hx hb d_Mo_field_7 rfl (fun h7 => ?_) (fun h7 => ?_)
  · have h7 := Decidable.not_not.mp (mt bi_d.mpr h7)
    refine lv_iload_n hx hb d_Mo_field_14 rfl (lv_at hl 2 rfl) ?_
    refine lv_iconst (v := 0) hx hb d_Mo_field_15 (by decide) ?_
    refine lv_bipush (v := 6) hx hb d_Mo_field_16 (by decide) ?_
    refine vp_callSi (W.runS (As := [.int (nI w), .int 0, .int 6]) (rest := [.ref o]) ⟨hx, hb, hml, hown, hts⟩ (c_Mo_in l dC dI (nI w) 0 6) (cwS 3 hts (gS kw_784 kw_785 kw_6 kw_786) rfl rfl rfl (by decide +kernel) ⟨Nat.le_of_ble_eq_true rfl, Nat.le_of_ble_eq_true rfl⟩) ⟨PcS.blind, PcS.use hP hK hN⟩ rfl rfl hl.1 rfl (lv_room (Nat.le_of_ble_eq_true rfl)) d_Mo_field_18 ⟨Nat.zero_le _, Nat.zero_le _⟩) (fun r18 hr18 => ?_)
    obtain rfl : r18 = bi (decide (0 ≤ nI w ∧ nI w ≤ 6)) := hr18
    refine lv_if_eq hx hb d_Mo_field_21 rfl (fun h21 => ?_) (fun h21 => ?_)
    · have h21 := mt (in_iff hw0 (h := 6) (by decide)).mpr (bi_d.mp h21)
      refine lv_iconst (v := 2) hx hb d_Mo_field_28 (by decide) ?_
      refine va_put (D := (dC, dI)) (ci := 5) (v := .int 2) (ty := .int) (C := R_Mo) (T := F_Mo) (N := 19) hx hb hts u_Mo t_Mo t_Mo_ok n_Mo hown hK hP hD hS 0 rfl rfl 0 (by decide) (hts _ kw_714) (fun _ h9 => h9) rfl (by decide +kernel) rfl rfl (Nat.le_of_ble_eq_true rfl) d_Mo_field_29 (fun H locs hP hD hS => ?_)
      replace hP : va_P (dC, dI) classes [(o, .inr (5, [.int 2, .ref (a 0), .ref (a 1), .ref (a 2), .ref (a 3), .ref (a 4), .ref (a 5), .ref (a 6), .ref (a 7), .ref (a 8), .ref (a 9), .ref (a 10), .int (nI V.ne), .ref (a 11), .ref (a 12), .ref (a 13), .ref (a 14), .long V.fo, .int V.fl])), ((a 0), .inl (cI, 2, .inl (fun z9 => nI (V.mn z9)))), ((a 1), .inl (cI, 400, .inl (fun z9 => nI (V.pre z9)))), ((a 2), .inl (cI, 400, .inl (fun z9 => nI (V.len z9)))), ((a 3), .inl (cI, 400, .inl (fun z9 => pI (V.par z9)))), ((a 4), .inl (cI, 400, .inl (fun z9 => nI (V.lev z9)))), ((a 5), .inl (cI, 400, .inl (fun z9 => nI (V.hol z9)))), ((a 6), .inl (cI, 400, .inl (fun z9 => nI (V.sta z9)))), ((a 7), .inl (cI, 400, .inl (fun z9 => nI (V.en z9)))), ((a 8), .inl (cI, 2, .inl (fun z9 => nI (V.tdy z9)))), ((a 9), .inl (cI, 2, .inl (fun z9 => nI (V.dys z9)))), ((a 10), .inl (cI, 8, .inl (fun z9 => nI (V.pol z9)))), ((a 11), .inl (cI, 300, .inl V.kd)), ((a 12), .inl (cI, 300, .inl V.fi)), ((a 13), .inl (cI, 300, .inl V.se)), ((a 14), .inl (cI, 300, .inl V.th))] H := hP
      replace hD : va_D A [(o, .inr (5, [.int 2, .ref (a 0), .ref (a 1), .ref (a 2), .ref (a 3), .ref (a 4), .ref (a 5), .ref (a 6), .ref (a 7), .ref (a 8), .ref (a 9), .ref (a 10), .int (nI V.ne), .ref (a 11), .ref (a 12), .ref (a 13), .ref (a 14), .long V.fo, .int V.fl])), ((a 0), .inl (cI, 2, .inl (fun z9 => nI (V.mn z9)))), ((a 1), .inl (cI, 400, .inl (fun z9 => nI (V.pre z9)))), ((a 2), .inl (cI, 400, .inl (fun z9 => nI (V.len z9)))), ((a 3), .inl (cI, 400, .inl (fun z9 => pI (V.par z9)))), ((a 4), .inl (cI, 400, .inl (fun z9 => nI (V.lev z9)))), ((a 5), .inl (cI, 400, .inl (fun z9 => nI (V.hol z9)))), ((a 6), .inl (cI, 400, .inl (fun z9 => nI (V.sta z9)))), ((a 7), .inl (cI, 400, .inl (fun z9 => nI (V.en z9)))), ((a 8), .inl (cI, 2, .inl (fun z9 => nI (V.tdy z9)))), ((a 9), .inl (cI, 2, .inl (fun z9 => nI (V.dys z9)))), ((a 10), .inl (cI, 8, .inl (fun z9 => nI (V.pol z9)))), ((a 11), .inl (cI, 300, .inl V.kd)), ((a 12), .inl (cI, 300, .inl V.fi)), ((a 13), .inl (cI, 300, .inl V.se)), ((a 14), .inl (cI, 300, .inl V.th))] := hD
      refine lv_aload_n hx hb d_Mo_field_32 rfl (lv_at hl 0 rfl) ?_
      refine va_get (D := (dC, dI)) (ci := 5) (v := .int 2) (C := R_Mo) (T := F_Mo) (N := 19) hx hb hts u_Mo hown hK hP 0 rfl rfl 0 (by decide) (hts _ kw_714) (fun _ h9 => h9) rfl d_Mo_field_33 ?_
      refine lv_if_le hx hb d_Mo_field_36 rfl (fun h9 => absurd h9 (by decide)) (fun _ => ?_)
      refine lv_iconst (v := 0) hx hb d_Mo_field_39 (by decide) ?_
      refine lv_goto hx hb d_Mo_field_40 rfl ?_
      have e9 : mfdT V x w = 2 := by unfold mfdT; rw [if_pos h7, if_neg h21]
      have e8 : mfdR V x w = 0 := by unfold mfdR; rw [if_neg (fun q => h21 q.2)]
      have hP9 : va_P (dC, dI) classes (wMo cI o a (mkV V.mn V.pre V.len V.lev V.hol V.sta V.en V.tdy V.dys V.pol V.par V.kd V.fi V.se V.th V.ne (mfdT V x w) V.fo V.fl)) H := by rw [e9]; exact hP
      have hD9 : va_D A (wMo cI o a (mkV V.mn V.pre V.len V.lev V.hol V.sta V.en V.tdy V.dys V.pol V.par V.kd V.fi V.se V.th V.ne (mfdT V x w) V.fo V.fl)) := by rw [e9]; exact hD
      exact W.iret (v := 0) hx hb hr (fun t ht hW => ⟨⟨0, (), rfl, (by first | (rw [e8]; done) | (rw [e8]; rfl)), by rw [ht]; exact hP9, va_K.moved hW.alike hK, hD9⟩, hS.F ht⟩) hS.2.2 d_Mo_field_49
    have h21 := (in_iff hw0 (h := 6) (by decide)).mp (Decidable.not_not.mp (mt bi_d.mpr h21))
    refine lv_iconst (v := 0) hx hb d_Mo_field_24 (by decide) ?_
    refine lv_goto hx hb d_Mo_field_25 rfl ?_
    refine va_put (D := (dC, dI)) (ci := 5) (v := .int 0) (ty := .int) (C := R_Mo) (T := F_Mo) (N := 19) hx hb hts u_Mo t_Mo t_Mo_ok n_Mo hown hK hP hD hS 0 rfl rfl 0 (by decide) (hts _ kw_714) (fun _ h9 => h9) rfl (by decide +kernel) rfl rfl (Nat.le_of_ble_eq_true rfl) d_Mo_field_29 (fun H locs hP hD hS => ?_)
    replace hP : va_P (dC, dI) classes [(o, .inr (5, [.int 0, .ref (a 0), .ref (a 1), .ref (a 2), .ref (a 3), .ref (a 4), .ref (a 5), .ref (a 6), .ref (a 7), .ref (a 8), .ref (a 9), .ref (a 10), .int (nI V.ne), .ref (a 11), .ref (a 12), .ref (a 13), .ref (a 14), .long V.fo, .int V.fl])), ((a 0), .inl (cI, 2, .inl (fun z9 => nI (V.mn z9)))), ((a 1), .inl (cI, 400, .inl (fun z9 => nI (V.pre z9)))), ((a 2), .inl (cI, 400, .inl (fun z9 => nI (V.len z9)))), ((a 3), .inl (cI, 400, .inl (fun z9 => pI (V.par z9)))), ((a 4), .inl (cI, 400, .inl (fun z9 => nI (V.lev z9)))), ((a 5), .inl (cI, 400, .inl (fun z9 => nI (V.hol z9)))), ((a 6), .inl (cI, 400, .inl (fun z9 => nI (V.sta z9)))), ((a 7), .inl (cI, 400, .inl (fun z9 => nI (V.en z9)))), ((a 8), .inl (cI, 2, .inl (fun z9 => nI (V.tdy z9)))), ((a 9), .inl (cI, 2, .inl (fun z9 => nI (V.dys z9)))), ((a 10), .inl (cI, 8, .inl (fun z9 => nI (V.pol z9)))), ((a 11), .inl (cI, 300, .inl V.kd)), ((a 12), .inl (cI, 300, .inl V.fi)), ((a 13), .inl (cI, 300, .inl V.se)), ((a 14), .inl (cI, 300, .inl V.th))] H := hP
    replace hD : va_D A [(o, .inr (5, [.int 0, .ref (a 0), .ref (a 1), .ref (a 2), .ref (a 3), .ref (a 4), .ref (a 5), .ref (a 6), .ref (a 7), .ref (a 8), .ref (a 9), .ref (a 10), .int (nI V.ne), .ref (a 11), .ref (a 12), .ref (a 13), .ref (a 14), .long V.fo, .int V.fl])), ((a 0), .inl (cI, 2, .inl (fun z9 => nI (V.mn z9)))), ((a 1), .inl (cI, 400, .inl (fun z9 => nI (V.pre z9)))), ((a 2), .inl (cI, 400, .inl (fun z9 => nI (V.len z9)))), ((a 3), .inl (cI, 400, .inl (fun z9 => pI (V.par z9)))), ((a 4), .inl (cI, 400, .inl (fun z9 => nI (V.lev z9)))), ((a 5), .inl (cI, 400, .inl (fun z9 => nI (V.hol z9)))), ((a 6), .inl (cI, 400, .inl (fun z9 => nI (V.sta z9)))), ((a 7), .inl (cI, 400, .inl (fun z9 => nI (V.en z9)))), ((a 8), .inl (cI, 2, .inl (fun z9 => nI (V.tdy z9)))), ((a 9), .inl (cI, 2, .inl (fun z9 => nI (V.dys z9)))), ((a 10), .inl (cI, 8, .inl (fun z9 => nI (V.pol z9)))), ((a 11), .inl (cI, 300, .inl V.kd)), ((a 12), .inl (cI, 300, .inl V.fi)), ((a 13), .inl (cI, 300, .inl V.se)), ((a 14), .inl (cI, 300, .inl V.th))] := hD
    refine lv_aload_n hx hb d_Mo_field_32 rfl (lv_at hl 0 rfl) ?_
    refine va_get (D := (dC, dI)) (ci := 5) (v := .int 0) (C := R_Mo) (T := F_Mo) (N := 19) hx hb hts u_Mo hown hK hP 0 rfl rfl 0 (by decide) (hts _ kw_714) (fun _ h9 => h9) rfl d_Mo_field_33 ?_
    refine lv_if_le hx hb d_Mo_field_36 rfl (fun _ => ?_) (fun h9 => absurd (by decide) h9)
    refine lv_aload_n hx hb d_Mo_field_43 rfl (lv_at hl 0 rfl) ?_
    refine lv_iload_n hx hb d_Mo_field_44 rfl (lv_at hl 1 rfl) ?_
    refine lv_iload_n hx hb d_Mo_field_45 rfl (lv_at hl 2 rfl) ?_
    refine vp_callSi (W.runV (b := o) (As := [.int (nI x), .int (nI w)]) (rest := []) ⟨hx, hb, hml, hown, hts⟩ (c_Mo_fieldOf l dC dI cI o a (mkV V.mn V.pre V.len V.lev V.hol V.sta V.en V.tdy V.dys V.pol V.par V.kd V.fi V.se V.th V.ne 0 V.fo V.fl) hV x (by have := hV.mn 0; omega) w h21) (cwV 2 hts (gV kw_963 kw_965 ks_51 kw_6 kw_966) rfl rfl rfl (by decide +kernel) ⟨Nat.le_of_ble_eq_true rfl, Nat.le_of_ble_eq_true rfl⟩) ⟨PcS.blind, va_recv (q0 := 0) hK hP rfl rfl, PcS.use hP hK hN⟩ rfl rfl hl.1 rfl (lv_room (Nat.le_of_ble_eq_true rfl)) d_Mo_field_46 ⟨Nat.zero_le _, Nat.zero_le _⟩) (fun r46 hr46 => ?_)
    obtain rfl : r46 = (fdN (mkV V.mn V.pre V.len V.lev V.hol V.sta V.en V.tdy V.dys V.pol V.par V.kd V.fi V.se V.th V.ne 0 V.fo V.fl) x w) := hr46
    have e9 : mfdT V x w = 0 := by unfold mfdT; rw [if_pos h7, if_pos h21]
    have e8 : mfdR V x w = fdN V x w := by unfold mfdR; rw [if_pos ⟨h7, h21⟩]
    have hP9 : va_P (dC, dI) classes (wMo cI o a (mkV V.mn V.pre V.len V.lev V.hol V.sta V.en V.tdy V.dys V.pol V.par V.kd V.fi V.se V.th V.ne (mfdT V x w) V.fo V.fl)) H := by rw [e9]; exact hP
    have hD9 : va_D A (wMo cI o a (mkV V.mn V.pre V.len V.lev V.hol V.sta V.en V.tdy V.dys V.pol V.par V.kd V.fi V.se V.th V.ne (mfdT V x w) V.fo V.fl)) := by rw [e9]; exact hD
    exact W.iret (v := (fdN (mkV V.mn V.pre V.len V.lev V.hol V.sta V.en V.tdy V.dys V.pol V.par V.kd V.fi V.se V.th V.ne 0 V.fo V.fl) x w)) hx hb hr (fun t ht hW => ⟨⟨(fdN (mkV V.mn V.pre V.len V.lev V.hol V.sta V.en V.tdy V.dys V.pol V.par V.kd V.fi V.se V.th V.ne 0 V.fo V.fl) x w), (), rfl, (by first | (rw [e8]; done) | (rw [e8]; rfl)), by rw [ht]; exact hP9, va_K.moved hW.alike hK, hD9⟩, hS.F ht⟩) hS.2.2 d_Mo_field_49
  have h7 := bi_d.mp h7
  refine lv_iconst (v := 1) hx hb d_Mo_field_10 (by decide) ?_
  refine lv_goto hx hb d_Mo_field_11 rfl ?_
  refine va_put (D := (dC, dI)) (ci := 5) (v := .int 1) (ty := .int) (C := R_Mo) (T := F_Mo) (N := 19) hx hb hts u_Mo t_Mo t_Mo_ok n_Mo hown hK hP hD hS 0 rfl rfl 0 (by decide) (hts _ kw_714) (fun _ h9 => h9) rfl (by decide +kernel) rfl rfl (Nat.le_of_ble_eq_true rfl) d_Mo_field_29 (fun H locs hP hD hS => ?_)
  replace hP : va_P (dC, dI) classes [(o, .inr (5, [.int 1, .ref (a 0), .ref (a 1), .ref (a 2), .ref (a 3), .ref (a 4), .ref (a 5), .ref (a 6), .ref (a 7), .ref (a 8), .ref (a 9), .ref (a 10), .int (nI V.ne), .ref (a 11), .ref (a 12), .ref (a 13), .ref (a 14), .long V.fo, .int V.fl])), ((a 0), .inl (cI, 2, .inl (fun z9 => nI (V.mn z9)))), ((a 1), .inl (cI, 400, .inl (fun z9 => nI (V.pre z9)))), ((a 2), .inl (cI, 400, .inl (fun z9 => nI (V.len z9)))), ((a 3), .inl (cI, 400, .inl (fun z9 => pI (V.par z9)))), ((a 4), .inl (cI, 400, .inl (fun z9 => nI (V.lev z9)))), ((a 5), .inl (cI, 400, .inl (fun z9 => nI (V.hol z9)))), ((a 6), .inl (cI, 400, .inl (fun z9 => nI (V.sta z9)))), ((a 7), .inl (cI, 400, .inl (fun z9 => nI (V.en z9)))), ((a 8), .inl (cI, 2, .inl (fun z9 => nI (V.tdy z9)))), ((a 9), .inl (cI, 2, .inl (fun z9 => nI (V.dys z9)))), ((a 10), .inl (cI, 8, .inl (fun z9 => nI (V.pol z9)))), ((a 11), .inl (cI, 300, .inl V.kd)), ((a 12), .inl (cI, 300, .inl V.fi)), ((a 13), .inl (cI, 300, .inl V.se)), ((a 14), .inl (cI, 300, .inl V.th))] H := hP
  replace hD : va_D A [(o, .inr (5, [.int 1, .ref (a 0), .ref (a 1), .ref (a 2), .ref (a 3), .ref (a 4), .ref (a 5), .ref (a 6), .ref (a 7), .ref (a 8), .ref (a 9), .ref (a 10), .int (nI V.ne), .ref (a 11), .ref (a 12), .ref (a 13), .ref (a 14), .long V.fo, .int V.fl])), ((a 0), .inl (cI, 2, .inl (fun z9 => nI (V.mn z9)))), ((a 1), .inl (cI, 400, .inl (fun z9 => nI (V.pre z9)))), ((a 2), .inl (cI, 400, .inl (fun z9 => nI (V.len z9)))), ((a 3), .inl (cI, 400, .inl (fun z9 => pI (V.par z9)))), ((a 4), .inl (cI, 400, .inl (fun z9 => nI (V.lev z9)))), ((a 5), .inl (cI, 400, .inl (fun z9 => nI (V.hol z9)))), ((a 6), .inl (cI, 400, .inl (fun z9 => nI (V.sta z9)))), ((a 7), .inl (cI, 400, .inl (fun z9 => nI (V.en z9)))), ((a 8), .inl (cI, 2, .inl (fun z9 => nI (V.tdy z9)))), ((a 9), .inl (cI, 2, .inl (fun z9 => nI (V.dys z9)))), ((a 10), .inl (cI, 8, .inl (fun z9 => nI (V.pol z9)))), ((a 11), .inl (cI, 300, .inl V.kd)), ((a 12), .inl (cI, 300, .inl V.fi)), ((a 13), .inl (cI, 300, .inl V.se)), ((a 14), .inl (cI, 300, .inl V.th))] := hD
  refine lv_aload_n hx hb d_Mo_field_32 rfl (lv_at hl 0 rfl) ?_
  refine va_get (D := (dC, dI)) (ci := 5) (v := .int 1) (C := R_Mo) (T := F_Mo) (N := 19) hx hb hts u_Mo hown hK hP 0 rfl rfl 0 (by decide) (hts _ kw_714) (fun _ h9 => h9) rfl d_Mo_field_33 ?_
  refine lv_if_le hx hb d_Mo_field_36 rfl (fun h9 => absurd h9 (by decide)) (fun _ => ?_)
  refine lv_iconst (v := 0) hx hb d_Mo_field_39 (by decide) ?_
  refine lv_goto hx hb d_Mo_field_40 rfl ?_
  have e9 : mfdT V x w = 1 := by unfold mfdT; rw [if_neg h7]
  have e8 : mfdR V x w = 0 := by unfold mfdR; rw [if_neg (fun q => h7 q.1)]
  have hP9 : va_P (dC, dI) classes (wMo cI o a (mkV V.mn V.pre V.len V.lev V.hol V.sta V.en V.tdy V.dys V.pol V.par V.kd V.fi V.se V.th V.ne (mfdT V x w) V.fo V.fl)) H := by rw [e9]; exact hP
  have hD9 : va_D A (wMo cI o a (mkV V.mn V.pre V.len V.lev V.hol V.sta V.en V.tdy V.dys V.pol V.par V.kd V.fi V.se V.th V.ne (mfdT V x w) V.fo V.fl)) := by rw [e9]; exact hD
  exact W.iret (v := 0) hx hb hr (fun t ht hW => ⟨⟨0, (), rfl, (by first | (rw [e8]; done) | (rw [e8]; rfl)), by rw [ht]; exact hP9, va_K.moved hW.alike hK, hD9⟩, hS.F ht⟩) hS.2.2 d_Mo_field_49
set_option maxHeartbeats 4000000 in
set_option maxRecDepth 100000 in
theorem c_Mo_used (l : Launch) (dC : Nat → ClassId) (dI : Nat → Nat → Nat) (sz : Nat) (cI : ClassId) (o : Nat) (a : Nat → Nat) (V : MS) (hV : MSok V) (x : Nat) (hx0 : x < 4294967296) : Met l y_Mo_used (.code y_Mo_used b_Mo_used 2 (some .long) :: wG) ({ frames := 3, cells := 0, slots := 0, locals := 67 }) (PcM (dC, dI) [(cI, .int)] (wMo cI o a V) [.ref o, .int (nI x)] sz) (QmL (dC, dI) [(cI, .int)] (wMo cI o a V) (wMo cI o a (mkV V.mn V.pre V.len V.lev V.hol V.sta V.en V.tdy V.dys V.pol V.par V.kd V.fi V.se V.th V.ne (recT V x) V.fo V.fl)) sz (lN (musR V x))) 0 0 (va_A (wMo cI o a V) sz) := by
  refine Met.ofW (cc := b_Mo_used) (maxL := 2) (ret := (some .long)) (by decide) rfl ?_
  intro pg eg s mg ag bg meth cg s₁ B hml hv
  obtain ⟨rfl, hsz, hP, hK, hD0, hN⟩ := hv
  have hx := B.exec
  have hb := B.bytes
  have hr := B.returns
  have hlocks := B.notSynchronized
  have hts : ∀ w9 ∈ wG, w9.before ([.ref o, .int (nI x)] : List Value).toArray s = true := fun w9 h9 => atoms_spec (ws := (.code y_Mo_used b_Mo_used 2 (some .long) :: wG)) B.pre w9 (List.mem_cons_of_mem _ h9)
  have hown : s.vm.findClass "PrefixRegistryModel" = some mg.cls := findClass_of_methodNamed B.named
  subst hsz
  have hD := hD0.self (sz := s.heap.size)
  unfold QmL
  generalize hAe : va_A (wMo cI o a V) s.heap.size = A at hD ⊢
  have hA : ∀ q : Nat, s.heap.size ≤ q → A q := fun q h => by rw [← hAe]; exact Or.inr h
  have hS : va_S A s.heap s.heap [] := va_S.rf
  have hl := lv_entry ([.ref o, .int (nI x)]) (n := 2) (Nat.le_of_ble_eq_true rfl)
  rw [lg_entry_eq]
  generalize (lg_sl ([.ref o, .int (nI x)]) ++ List.replicate (2 - (lg_sl ([.ref o, .int (nI x)])).length) Slot.unset).toArray = ls at hl ⊢
  replace hl : lv_has ls 2 [(0, .ref o), (1, .int (nI x))] := hl
  replace hP : va_P (dC, dI) classes (wMo cI o a V) s.heap := hP
  replace hD : va_D A (wMo cI o a V) := hD
  refine lv_aload_n hx hb d_Mo_used_0 rfl (lv_at hl 0 rfl) ?_
  refine lv_aload_n hx hb d_Mo_used_1 rfl (lv_at hl 0 rfl) ?_
  refine lv_iconst (v := 0) hx hb d_Mo_used_2 (by decide) ?_
  refine lv_iload_n hx hb d_Mo_used_3 rfl (lv_at hl 1 rfl) ?_
  refine vp_callSi (W.runV (b := o) (As := [.int 0, .int (nI x)]) (rest := [.ref o]) ⟨hx, hb, hml, hown, hts⟩ (c_Mo_isRecord l dC dI cI o a V hV 0 0 x (by decide) rfl hx0 ) (cwV 2 hts (gV kw_817 kw_819 ks_28 kw_6 kw_820) rfl rfl rfl (by decide +kernel) ⟨Nat.le_of_ble_eq_true rfl, Nat.le_of_ble_eq_true rfl⟩) ⟨PcS.blind, va_recv (q0 := 0) hK hP rfl rfl, PcS.use hP hK hN⟩ rfl rfl hl.1 rfl (lv_room (Nat.le_of_ble_eq_true rfl)) d_Mo_used_4 ⟨Nat.zero_le _, Nat.zero_le _⟩) (fun r4 hr4 => ?_)
  obtain rfl : r4 = bi (decide (x < V.mn 0)) := hr4
  refine lv_if_eq hx hb d_Mo_used_7 rfl (fun h7 => ?_) (fun h7 => ?_)
  · have h7 := bi_d.mp h7
    refine lv_iconst (v := 1) hx hb d_Mo_used_14 (by decide) ?_
    refine va_put (D := (dC, dI)) (ci := 5) (v := .int 1) (ty := .int) (C := R_Mo) (T := F_Mo) (N := 19) hx hb hts u_Mo t_Mo t_Mo_ok n_Mo hown hK hP hD hS 0 rfl rfl 0 (by decide) (hts _ kw_714) (fun _ h9 => h9) rfl (by decide +kernel) rfl rfl (Nat.le_of_ble_eq_true rfl) d_Mo_used_15 (fun H locs hP hD hS => ?_)
    replace hP : va_P (dC, dI) classes [(o, .inr (5, [.int 1, .ref (a 0), .ref (a 1), .ref (a 2), .ref (a 3), .ref (a 4), .ref (a 5), .ref (a 6), .ref (a 7), .ref (a 8), .ref (a 9), .ref (a 10), .int (nI V.ne), .ref (a 11), .ref (a 12), .ref (a 13), .ref (a 14), .long V.fo, .int V.fl])), ((a 0), .inl (cI, 2, .inl (fun z9 => nI (V.mn z9)))), ((a 1), .inl (cI, 400, .inl (fun z9 => nI (V.pre z9)))), ((a 2), .inl (cI, 400, .inl (fun z9 => nI (V.len z9)))), ((a 3), .inl (cI, 400, .inl (fun z9 => pI (V.par z9)))), ((a 4), .inl (cI, 400, .inl (fun z9 => nI (V.lev z9)))), ((a 5), .inl (cI, 400, .inl (fun z9 => nI (V.hol z9)))), ((a 6), .inl (cI, 400, .inl (fun z9 => nI (V.sta z9)))), ((a 7), .inl (cI, 400, .inl (fun z9 => nI (V.en z9)))), ((a 8), .inl (cI, 2, .inl (fun z9 => nI (V.tdy z9)))), ((a 9), .inl (cI, 2, .inl (fun z9 => nI (V.dys z9)))), ((a 10), .inl (cI, 8, .inl (fun z9 => nI (V.pol z9)))), ((a 11), .inl (cI, 300, .inl V.kd)), ((a 12), .inl (cI, 300, .inl V.fi)), ((a 13), .inl (cI, 300, .inl V.se)), ((a 14), .inl (cI, 300, .inl V.th))] H := hP
    replace hD : va_D A [(o, .inr (5, [.int 1, .ref (a 0), .ref (a 1), .ref (a 2), .ref (a 3), .ref (a 4), .ref (a 5), .ref (a 6), .ref (a 7), .ref (a 8), .ref (a 9), .ref (a 10), .int (nI V.ne), .ref (a 11), .ref (a 12), .ref (a 13), .ref (a 14), .long V.fo, .int V.fl])), ((a 0), .inl (cI, 2, .inl (fun z9 => nI (V.mn z9)))), ((a 1), .inl (cI, 400, .inl (fun z9 => nI (V.pre z9)))), ((a 2), .inl (cI, 400, .inl (fun z9 => nI (V.len z9)))), ((a 3), .inl (cI, 400, .inl (fun z9 => pI (V.par z9)))), ((a 4), .inl (cI, 400, .inl (fun z9 => nI (V.lev z9)))), ((a 5), .inl (cI, 400, .inl (fun z9 => nI (V.hol z9)))), ((a 6), .inl (cI, 400, .inl (fun z9 => nI (V.sta z9)))), ((a 7), .inl (cI, 400, .inl (fun z9 => nI (V.en z9)))), ((a 8), .inl (cI, 2, .inl (fun z9 => nI (V.tdy z9)))), ((a 9), .inl (cI, 2, .inl (fun z9 => nI (V.dys z9)))), ((a 10), .inl (cI, 8, .inl (fun z9 => nI (V.pol z9)))), ((a 11), .inl (cI, 300, .inl V.kd)), ((a 12), .inl (cI, 300, .inl V.fi)), ((a 13), .inl (cI, 300, .inl V.se)), ((a 14), .inl (cI, 300, .inl V.th))] := hD
    refine lv_aload_n hx hb d_Mo_used_18 rfl (lv_at hl 0 rfl) ?_
    refine va_get (D := (dC, dI)) (ci := 5) (v := .int 1) (C := R_Mo) (T := F_Mo) (N := 19) hx hb hts u_Mo hown hK hP 0 rfl rfl 0 (by decide) (hts _ kw_714) (fun _ h9 => h9) rfl d_Mo_used_19 ?_
    refine lv_if_le hx hb d_Mo_used_22 rfl (fun h9 => absurd h9 (by decide)) (fun _ => ?_)
    refine lv_lconst (v := 0) hx hb d_Mo_used_25 (by decide) ?_
    refine lv_goto hx hb d_Mo_used_26 rfl ?_
    have e9 : recT V x = 1 := by unfold recT; rw [if_neg h7]
    have e8 : musR V x = 0 := by unfold musR; rw [if_neg h7]
    have hP9 : va_P (dC, dI) classes (wMo cI o a (mkV V.mn V.pre V.len V.lev V.hol V.sta V.en V.tdy V.dys V.pol V.par V.kd V.fi V.se V.th V.ne (recT V x) V.fo V.fl)) H := by rw [e9]; exact hP
    have hD9 : va_D A (wMo cI o a (mkV V.mn V.pre V.len V.lev V.hol V.sta V.en V.tdy V.dys V.pol V.par V.kd V.fi V.se V.th V.ne (recT V x) V.fo V.fl)) := by rw [e9]; exact hD
    exact W.lret (v := 0) hx hb hr (fun t ht hW => ⟨⟨0, (), rfl, (by first | (rw [e8]; done) | (rw [e8]; rfl)), by rw [ht]; exact hP9, va_K.moved hW.alike hK, hD9⟩, hS.F ht⟩) hS.2.2 d_Mo_used_34
  have h7 := Decidable.not_not.mp (mt bi_d.mpr h7)
  refine lv_iconst (v := 0) hx hb d_Mo_used_10 (by decide) ?_
  refine lv_goto hx hb d_Mo_used_11 rfl ?_
  refine va_put (D := (dC, dI)) (ci := 5) (v := .int 0) (ty := .int) (C := R_Mo) (T := F_Mo) (N := 19) hx hb hts u_Mo t_Mo t_Mo_ok n_Mo hown hK hP hD hS 0 rfl rfl 0 (by decide) (hts _ kw_714) (fun _ h9 => h9) rfl (by decide +kernel) rfl rfl (Nat.le_of_ble_eq_true rfl) d_Mo_used_15 (fun H locs hP hD hS => ?_)
  replace hP : va_P (dC, dI) classes [(o, .inr (5, [.int 0, .ref (a 0), .ref (a 1), .ref (a 2), .ref (a 3), .ref (a 4), .ref (a 5), .ref (a 6), .ref (a 7), .ref (a 8), .ref (a 9), .ref (a 10), .int (nI V.ne), .ref (a 11), .ref (a 12), .ref (a 13), .ref (a 14), .long V.fo, .int V.fl])), ((a 0), .inl (cI, 2, .inl (fun z9 => nI (V.mn z9)))), ((a 1), .inl (cI, 400, .inl (fun z9 => nI (V.pre z9)))), ((a 2), .inl (cI, 400, .inl (fun z9 => nI (V.len z9)))), ((a 3), .inl (cI, 400, .inl (fun z9 => pI (V.par z9)))), ((a 4), .inl (cI, 400, .inl (fun z9 => nI (V.lev z9)))), ((a 5), .inl (cI, 400, .inl (fun z9 => nI (V.hol z9)))), ((a 6), .inl (cI, 400, .inl (fun z9 => nI (V.sta z9)))), ((a 7), .inl (cI, 400, .inl (fun z9 => nI (V.en z9)))), ((a 8), .inl (cI, 2, .inl (fun z9 => nI (V.tdy z9)))), ((a 9), .inl (cI, 2, .inl (fun z9 => nI (V.dys z9)))), ((a 10), .inl (cI, 8, .inl (fun z9 => nI (V.pol z9)))), ((a 11), .inl (cI, 300, .inl V.kd)), ((a 12), .inl (cI, 300, .inl V.fi)), ((a 13), .inl (cI, 300, .inl V.se)), ((a 14), .inl (cI, 300, .inl V.th))] H := hP
  replace hD : va_D A [(o, .inr (5, [.int 0, .ref (a 0), .ref (a 1), .ref (a 2), .ref (a 3), .ref (a 4), .ref (a 5), .ref (a 6), .ref (a 7), .ref (a 8), .ref (a 9), .ref (a 10), .int (nI V.ne), .ref (a 11), .ref (a 12), .ref (a 13), .ref (a 14), .long V.fo, .int V.fl])), ((a 0), .inl (cI, 2, .inl (fun z9 => nI (V.mn z9)))), ((a 1), .inl (cI, 400, .inl (fun z9 => nI (V.pre z9)))), ((a 2), .inl (cI, 400, .inl (fun z9 => nI (V.len z9)))), ((a 3), .inl (cI, 400, .inl (fun z9 => pI (V.par z9)))), ((a 4), .inl (cI, 400, .inl (fun z9 => nI (V.lev z9)))), ((a 5), .inl (cI, 400, .inl (fun z9 => nI (V.hol z9)))), ((a 6), .inl (cI, 400, .inl (fun z9 => nI (V.sta z9)))), ((a 7), .inl (cI, 400, .inl (fun z9 => nI (V.en z9)))), ((a 8), .inl (cI, 2, .inl (fun z9 => nI (V.tdy z9)))), ((a 9), .inl (cI, 2, .inl (fun z9 => nI (V.dys z9)))), ((a 10), .inl (cI, 8, .inl (fun z9 => nI (V.pol z9)))), ((a 11), .inl (cI, 300, .inl V.kd)), ((a 12), .inl (cI, 300, .inl V.fi)), ((a 13), .inl (cI, 300, .inl V.se)), ((a 14), .inl (cI, 300, .inl V.th))] := hD
  refine lv_aload_n hx hb d_Mo_used_18 rfl (lv_at hl 0 rfl) ?_
  refine va_get (D := (dC, dI)) (ci := 5) (v := .int 0) (C := R_Mo) (T := F_Mo) (N := 19) hx hb hts u_Mo hown hK hP 0 rfl rfl 0 (by decide) (hts _ kw_714) (fun _ h9 => h9) rfl d_Mo_used_19 ?_
  refine lv_if_le hx hb d_Mo_used_22 rfl (fun _ => ?_) (fun h9 => absurd (by decide) h9)
  refine lv_aload_n hx hb d_Mo_used_29 rfl (lv_at hl 0 rfl) ?_
  refine lv_iload_n hx hb d_Mo_used_30 rfl (lv_at hl 1 rfl) ?_
  refine vp_callSl (W.runV (b := o) (As := [.int (nI x)]) (rest := []) ⟨hx, hb, hml, hown, hts⟩ (c_Mo_usedOf l dC dI cI o a (mkV V.mn V.pre V.len V.lev V.hol V.sta V.en V.tdy V.dys V.pol V.par V.kd V.fi V.se V.th V.ne 0 V.fo V.fl) hV x (by have := hV.mn 0; omega)) (cwV 1 hts (gV kw_829 kw_831 ks_31 kw_6 kw_832) rfl rfl rfl (by decide +kernel) ⟨Nat.le_of_ble_eq_true rfl, Nat.le_of_ble_eq_true rfl⟩) ⟨PcS.blind, va_recv (q0 := 0) hK hP rfl rfl, PcS.use hP hK hN⟩ rfl rfl hl.1 rfl (lv_room (Nat.le_of_ble_eq_true rfl)) d_Mo_used_31 ⟨Nat.zero_le _, Nat.zero_le _⟩) (fun r31 hr31 => ?_)
  obtain rfl : r31 = (lN (usN (mkV V.mn V.pre V.len V.lev V.hol V.sta V.en V.tdy V.dys V.pol V.par V.kd V.fi V.se V.th V.ne 0 V.fo V.fl) x)) := hr31
  have e9 : recT V x = 0 := by unfold recT; rw [if_pos h7]
  have e8 : musR V x = usN V x := by unfold musR; rw [if_pos h7]
  have hP9 : va_P (dC, dI) classes (wMo cI o a (mkV V.mn V.pre V.len V.lev V.hol V.sta V.en V.tdy V.dys V.pol V.par V.kd V.fi V.se V.th V.ne (recT V x) V.fo V.fl)) H := by rw [e9]; exact hP
  have hD9 : va_D A (wMo cI o a (mkV V.mn V.pre V.len V.lev V.hol V.sta V.en V.tdy V.dys V.pol V.par V.kd V.fi V.se V.th V.ne (recT V x) V.fo V.fl)) := by rw [e9]; exact hD
  exact W.lret (v := (lN (usN (mkV V.mn V.pre V.len V.lev V.hol V.sta V.en V.tdy V.dys V.pol V.par V.kd V.fi V.se V.th V.ne 0 V.fo V.fl) x))) hx hb hr (fun t ht hW => ⟨⟨(lN (usN (mkV V.mn V.pre V.len V.lev V.hol V.sta V.en V.tdy V.dys V.pol V.par V.kd V.fi V.se V.th V.ne 0 V.fo V.fl) x)), (), rfl, (by first | (rw [e8]; done) | (rw [e8]; rfl)), by rw [ht]; exact hP9, va_K.moved hW.alike hK, hD9⟩, hS.F ht⟩) hS.2.2 d_Mo_used_34
set_option maxHeartbeats 4000000 in
set_option maxRecDepth 100000 in
theorem c_Mo_log (l : Launch) (dC : Nat → ClassId) (dI : Nat → Nat → Nat) (sz : Nat) (cI : ClassId) (o : Nat) (a : Nat → Nat) (V : MS) (hV : MSok V) (k w : Nat) (hk0 : k < 4294967296) (hw0 : w < 4294967296) : Met l y_Mo_log (.code y_Mo_log b_Mo_log 3 (some .int) :: wG) ({ frames := 1, cells := 0, slots := 0, locals := 22 }) (PcM (dC, dI) [(cI, .int)] (wMo cI o a V) [.ref o, .int (nI k), .int (nI w)] sz) (QmI (dC, dI) [(cI, .int)] (wMo cI o a V) (wMo cI o a (mkV V.mn V.pre V.len V.lev V.hol V.sta V.en V.tdy V.dys V.pol V.par V.kd V.fi V.se V.th V.ne (mlgT V k w) V.fo V.fl)) sz (mlgR V k w)) 0 0 (va_A (wMo cI o a V) sz) := by
  refine Met.ofW (cc := b_Mo_log) (maxL := 3) (ret := (some .int)) (by decide) rfl ?_
  intro pg eg s mg ag bg meth cg s₁ B hml hv
  obtain ⟨rfl, hsz, hP, hK, hD0, hN⟩ := hv
  have hx := B.exec
  have hb := B.bytes
  have hr := B.returns
  have hlocks := B.notSynchronized
  have hts : ∀ w9 ∈ wG, w9.before ([.ref o, .int (nI k), .int (nI w)] : List Value).toArray s = true := fun w9 h9 => atoms_spec (ws := (.code y_Mo_log b_Mo_log 3 (some .int) :: wG)) B.pre w9 (List.mem_cons_of_mem _ h9)
  have hown : s.vm.findClass "PrefixRegistryModel" = some mg.cls := findClass_of_methodNamed B.named
  subst hsz
  have hD := hD0.self (sz := s.heap.size)
  unfold QmI
  generalize hAe : va_A (wMo cI o a V) s.heap.size = A at hD ⊢
  have hA : ∀ q : Nat, s.heap.size ≤ q → A q := fun q h => by rw [← hAe]; exact Or.inr h
  have hS : va_S A s.heap s.heap [] := va_S.rf
  have hl := lv_entry ([.ref o, .int (nI k), .int (nI w)]) (n := 3) (Nat.le_of_ble_eq_true rfl)
  rw [lg_entry_eq]
  generalize (lg_sl ([.ref o, .int (nI k), .int (nI w)]) ++ List.replicate (3 - (lg_sl ([.ref o, .int (nI k), .int (nI w)])).length) Slot.unset).toArray = ls at hl ⊢
  replace hl : lv_has ls 3 [(0, .ref o), (1, .int (nI k)), (2, .int (nI w))] := hl
  replace hP : va_P (dC, dI) classes (wMo cI o a V) s.heap := hP
  replace hD : va_D A (wMo cI o a V) := hD
  refine lv_aload_n hx hb d_Mo_log_0 rfl (lv_at hl 0 rfl) ?_
  refine lv_iload_n hx hb d_Mo_log_1 rfl (lv_at hl 1 rfl) ?_
  refine lv_iconst (v := 0) hx hb d_Mo_log_2 (by decide) ?_
  refine lv_aload_n hx hb d_Mo_log_3 rfl (lv_at hl 0 rfl) ?_
  refine va_get (D := (dC, dI)) (ci := 5) (v := .int (nI V.ne)) (C := R_Mo) (T := F_Mo) (N := 19) hx hb hts u_Mo hown hK hP 0 rfl rfl 12 (by decide) (hts _ kw_726) (fun _ h9 => h9) rfl d_Mo_log_4 ?_
  refine lv_iconst (v := 1) hx hb d_Mo_log_7 (by decide) ?_
  refine lv_isub hx hb d_Mo_log_8 ?_
  refine vp_callSi (W.runS (As := [.int (nI k), .int 0, .int ((nI V.ne) - 1)]) (rest := [.ref o]) ⟨hx, hb, hml, hown, hts⟩ (c_Mo_in l dC dI (nI k) 0 ((nI V.ne) - 1)) (cwS 3 hts (gS kw_784 kw_785 kw_6 kw_786) rfl rfl rfl (by decide +kernel) ⟨Nat.le_of_ble_eq_true rfl, Nat.le_of_ble_eq_true rfl⟩) ⟨PcS.blind, PcS.use hP hK hN⟩ rfl rfl hl.1 rfl (lv_room (Nat.le_of_ble_eq_true rfl)) d_Mo_log_9 ⟨Nat.zero_le _, Nat.zero_le _⟩) (fun r9 hr9 => ?_)
  obtain rfl : r9 = bi (decide (0 ≤ nI k ∧ nI k ≤ ((nI V.ne) - 1))) := hr9
  refine lv_if_ne hx hb d_Mo_log_12 rfl (fun h12 => ?_) (fun h12 => ?_)
  · have h12 := (in_ent hV hk0).mp (Decidable.not_not.mp (mt bi_d.mpr h12))
    refine lv_iload_n hx hb d_Mo_log_19 rfl (lv_at hl 2 rfl) ?_
    refine lv_iconst (v := 0) hx hb d_Mo_log_20 (by decide) ?_
    refine lv_iconst (v := 3) hx hb d_Mo_log_21 (by decide) ?_
    refine vp_callSi (W.runS (As := [.int (nI w), .int 0, .int 3]) (rest := [.ref o]) ⟨hx, hb, hml, hown, hts⟩ (c_Mo_in l dC dI (nI w) 0 3) (cwS 3 hts (gS kw_784 kw_785 kw_6 kw_786) rfl rfl rfl (by decide +kernel) ⟨Nat.le_of_ble_eq_true rfl, Nat.le_of_ble_eq_true rfl⟩) ⟨PcS.blind, PcS.use hP hK hN⟩ rfl rfl hl.1 rfl (lv_room (Nat.le_of_ble_eq_true rfl)) d_Mo_log_22 ⟨Nat.zero_le _, Nat.zero_le _⟩) (fun r22 hr22 => ?_)
    obtain rfl : r22 = bi (decide (0 ≤ nI w ∧ nI w ≤ 3)) := hr22
    refine lv_if_eq hx hb d_Mo_log_25 rfl (fun h25 => ?_) (fun h25 => ?_)
    · have h25 := mt (in_iff hw0 (h := 3) (by decide)).mpr (bi_d.mp h25)
      refine lv_iconst (v := 2) hx hb d_Mo_log_32 (by decide) ?_
      refine va_put (D := (dC, dI)) (ci := 5) (v := .int 2) (ty := .int) (C := R_Mo) (T := F_Mo) (N := 19) hx hb hts u_Mo t_Mo t_Mo_ok n_Mo hown hK hP hD hS 0 rfl rfl 0 (by decide) (hts _ kw_714) (fun _ h9 => h9) rfl (by decide +kernel) rfl rfl (Nat.le_of_ble_eq_true rfl) d_Mo_log_33 (fun H locs hP hD hS => ?_)
      replace hP : va_P (dC, dI) classes [(o, .inr (5, [.int 2, .ref (a 0), .ref (a 1), .ref (a 2), .ref (a 3), .ref (a 4), .ref (a 5), .ref (a 6), .ref (a 7), .ref (a 8), .ref (a 9), .ref (a 10), .int (nI V.ne), .ref (a 11), .ref (a 12), .ref (a 13), .ref (a 14), .long V.fo, .int V.fl])), ((a 0), .inl (cI, 2, .inl (fun z9 => nI (V.mn z9)))), ((a 1), .inl (cI, 400, .inl (fun z9 => nI (V.pre z9)))), ((a 2), .inl (cI, 400, .inl (fun z9 => nI (V.len z9)))), ((a 3), .inl (cI, 400, .inl (fun z9 => pI (V.par z9)))), ((a 4), .inl (cI, 400, .inl (fun z9 => nI (V.lev z9)))), ((a 5), .inl (cI, 400, .inl (fun z9 => nI (V.hol z9)))), ((a 6), .inl (cI, 400, .inl (fun z9 => nI (V.sta z9)))), ((a 7), .inl (cI, 400, .inl (fun z9 => nI (V.en z9)))), ((a 8), .inl (cI, 2, .inl (fun z9 => nI (V.tdy z9)))), ((a 9), .inl (cI, 2, .inl (fun z9 => nI (V.dys z9)))), ((a 10), .inl (cI, 8, .inl (fun z9 => nI (V.pol z9)))), ((a 11), .inl (cI, 300, .inl V.kd)), ((a 12), .inl (cI, 300, .inl V.fi)), ((a 13), .inl (cI, 300, .inl V.se)), ((a 14), .inl (cI, 300, .inl V.th))] H := hP
      replace hD : va_D A [(o, .inr (5, [.int 2, .ref (a 0), .ref (a 1), .ref (a 2), .ref (a 3), .ref (a 4), .ref (a 5), .ref (a 6), .ref (a 7), .ref (a 8), .ref (a 9), .ref (a 10), .int (nI V.ne), .ref (a 11), .ref (a 12), .ref (a 13), .ref (a 14), .long V.fo, .int V.fl])), ((a 0), .inl (cI, 2, .inl (fun z9 => nI (V.mn z9)))), ((a 1), .inl (cI, 400, .inl (fun z9 => nI (V.pre z9)))), ((a 2), .inl (cI, 400, .inl (fun z9 => nI (V.len z9)))), ((a 3), .inl (cI, 400, .inl (fun z9 => pI (V.par z9)))), ((a 4), .inl (cI, 400, .inl (fun z9 => nI (V.lev z9)))), ((a 5), .inl (cI, 400, .inl (fun z9 => nI (V.hol z9)))), ((a 6), .inl (cI, 400, .inl (fun z9 => nI (V.sta z9)))), ((a 7), .inl (cI, 400, .inl (fun z9 => nI (V.en z9)))), ((a 8), .inl (cI, 2, .inl (fun z9 => nI (V.tdy z9)))), ((a 9), .inl (cI, 2, .inl (fun z9 => nI (V.dys z9)))), ((a 10), .inl (cI, 8, .inl (fun z9 => nI (V.pol z9)))), ((a 11), .inl (cI, 300, .inl V.kd)), ((a 12), .inl (cI, 300, .inl V.fi)), ((a 13), .inl (cI, 300, .inl V.se)), ((a 14), .inl (cI, 300, .inl V.th))] := hD
      refine lv_aload_n hx hb d_Mo_log_36 rfl (lv_at hl 0 rfl) ?_
      refine va_get (D := (dC, dI)) (ci := 5) (v := .int 2) (C := R_Mo) (T := F_Mo) (N := 19) hx hb hts u_Mo hown hK hP 0 rfl rfl 0 (by decide) (hts _ kw_714) (fun _ h9 => h9) rfl d_Mo_log_37 ?_
      refine lv_if_le hx hb d_Mo_log_40 rfl (fun h9 => absurd h9 (by decide)) (fun _ => ?_)
      refine lv_iconst (v := 0) hx hb d_Mo_log_43 (by decide) ?_
      refine lv_goto hx hb d_Mo_log_44 rfl ?_
      have e9 : mlgT V k w = 2 := by unfold mlgT; rw [if_pos h12, if_neg h25]
      have e8 : mlgR V k w = 0 := by unfold mlgR; rw [if_neg (fun q => h25 q.2)]
      have hP9 : va_P (dC, dI) classes (wMo cI o a (mkV V.mn V.pre V.len V.lev V.hol V.sta V.en V.tdy V.dys V.pol V.par V.kd V.fi V.se V.th V.ne (mlgT V k w) V.fo V.fl)) H := by rw [e9]; exact hP
      have hD9 : va_D A (wMo cI o a (mkV V.mn V.pre V.len V.lev V.hol V.sta V.en V.tdy V.dys V.pol V.par V.kd V.fi V.se V.th V.ne (mlgT V k w) V.fo V.fl)) := by rw [e9]; exact hD
      exact W.iret (v := 0) hx hb hr (fun t ht hW => ⟨⟨0, (), rfl, (by first | (rw [e8]; done) | (rw [e8]; rfl)), by rw [ht]; exact hP9, va_K.moved hW.alike hK, hD9⟩, hS.F ht⟩) hS.2.2 d_Mo_log_94
    have h25 := (in_iff hw0 (h := 3) (by decide)).mp (Decidable.not_not.mp (mt bi_d.mpr h25))
    refine lv_iconst (v := 0) hx hb d_Mo_log_28 (by decide) ?_
    refine lv_goto hx hb d_Mo_log_29 rfl ?_
    refine va_put (D := (dC, dI)) (ci := 5) (v := .int 0) (ty := .int) (C := R_Mo) (T := F_Mo) (N := 19) hx hb hts u_Mo t_Mo t_Mo_ok n_Mo hown hK hP hD hS 0 rfl rfl 0 (by decide) (hts _ kw_714) (fun _ h9 => h9) rfl (by decide +kernel) rfl rfl (Nat.le_of_ble_eq_true rfl) d_Mo_log_33 (fun H locs hP hD hS => ?_)
    replace hP : va_P (dC, dI) classes [(o, .inr (5, [.int 0, .ref (a 0), .ref (a 1), .ref (a 2), .ref (a 3), .ref (a 4), .ref (a 5), .ref (a 6), .ref (a 7), .ref (a 8), .ref (a 9), .ref (a 10), .int (nI V.ne), .ref (a 11), .ref (a 12), .ref (a 13), .ref (a 14), .long V.fo, .int V.fl])), ((a 0), .inl (cI, 2, .inl (fun z9 => nI (V.mn z9)))), ((a 1), .inl (cI, 400, .inl (fun z9 => nI (V.pre z9)))), ((a 2), .inl (cI, 400, .inl (fun z9 => nI (V.len z9)))), ((a 3), .inl (cI, 400, .inl (fun z9 => pI (V.par z9)))), ((a 4), .inl (cI, 400, .inl (fun z9 => nI (V.lev z9)))), ((a 5), .inl (cI, 400, .inl (fun z9 => nI (V.hol z9)))), ((a 6), .inl (cI, 400, .inl (fun z9 => nI (V.sta z9)))), ((a 7), .inl (cI, 400, .inl (fun z9 => nI (V.en z9)))), ((a 8), .inl (cI, 2, .inl (fun z9 => nI (V.tdy z9)))), ((a 9), .inl (cI, 2, .inl (fun z9 => nI (V.dys z9)))), ((a 10), .inl (cI, 8, .inl (fun z9 => nI (V.pol z9)))), ((a 11), .inl (cI, 300, .inl V.kd)), ((a 12), .inl (cI, 300, .inl V.fi)), ((a 13), .inl (cI, 300, .inl V.se)), ((a 14), .inl (cI, 300, .inl V.th))] H := hP
    replace hD : va_D A [(o, .inr (5, [.int 0, .ref (a 0), .ref (a 1), .ref (a 2), .ref (a 3), .ref (a 4), .ref (a 5), .ref (a 6), .ref (a 7), .ref (a 8), .ref (a 9), .ref (a 10), .int (nI V.ne), .ref (a 11), .ref (a 12), .ref (a 13), .ref (a 14), .long V.fo, .int V.fl])), ((a 0), .inl (cI, 2, .inl (fun z9 => nI (V.mn z9)))), ((a 1), .inl (cI, 400, .inl (fun z9 => nI (V.pre z9)))), ((a 2), .inl (cI, 400, .inl (fun z9 => nI (V.len z9)))), ((a 3), .inl (cI, 400, .inl (fun z9 => pI (V.par z9)))), ((a 4), .inl (cI, 400, .inl (fun z9 => nI (V.lev z9)))), ((a 5), .inl (cI, 400, .inl (fun z9 => nI (V.hol z9)))), ((a 6), .inl (cI, 400, .inl (fun z9 => nI (V.sta z9)))), ((a 7), .inl (cI, 400, .inl (fun z9 => nI (V.en z9)))), ((a 8), .inl (cI, 2, .inl (fun z9 => nI (V.tdy z9)))), ((a 9), .inl (cI, 2, .inl (fun z9 => nI (V.dys z9)))), ((a 10), .inl (cI, 8, .inl (fun z9 => nI (V.pol z9)))), ((a 11), .inl (cI, 300, .inl V.kd)), ((a 12), .inl (cI, 300, .inl V.fi)), ((a 13), .inl (cI, 300, .inl V.se)), ((a 14), .inl (cI, 300, .inl V.th))] := hD
    refine lv_aload_n hx hb d_Mo_log_36 rfl (lv_at hl 0 rfl) ?_
    refine va_get (D := (dC, dI)) (ci := 5) (v := .int 0) (C := R_Mo) (T := F_Mo) (N := 19) hx hb hts u_Mo hown hK hP 0 rfl rfl 0 (by decide) (hts _ kw_714) (fun _ h9 => h9) rfl d_Mo_log_37 ?_
    refine lv_if_le hx hb d_Mo_log_40 rfl (fun _ => ?_) (fun h9 => absurd (by decide) h9)
    refine lv_iload_n hx hb d_Mo_log_47 rfl (lv_at hl 2 rfl) ?_
    refine lv_if_ne hx hb d_Mo_log_48 rfl (fun h48 => ?_) (fun h48 => ?_)
    · have h48 := mt (k_eq (b := 0) hw0 (by decide)).mpr h48
      refine lv_iload_n hx hb d_Mo_log_60 rfl (lv_at hl 2 rfl) ?_
      refine lv_iconst (v := 1) hx hb d_Mo_log_61 (by decide) ?_
      refine lv_icmp_ne hx hb d_Mo_log_62 rfl (fun h62 => ?_) (fun h62 => ?_)
      · have h62 := mt (k_eq (b := 1) hw0 (by decide)).mpr h62
        refine lv_iload_n hx hb d_Mo_log_74 rfl (lv_at hl 2 rfl) ?_
        refine lv_iconst (v := 2) hx hb d_Mo_log_75 (by decide) ?_
        refine lv_icmp_ne hx hb d_Mo_log_76 rfl (fun h76 => ?_) (fun h76 => ?_)
        · have h76 := mt (k_eq (b := 2) hw0 (by decide)).mpr h76
          refine lv_aload_n hx hb d_Mo_log_88 rfl (lv_at hl 0 rfl) ?_
          refine va_get (D := (dC, dI)) (ci := 5) (v := .ref (a 14)) (C := R_Mo) (T := F_Mo) (N := 19) hx hb hts u_Mo hown hK hP 0 rfl rfl 16 (by decide) (hts _ kw_730) (fun _ h9 => h9) rfl d_Mo_log_89 ?_
          refine lv_iload_n hx hb d_Mo_log_92 rfl (lv_at hl 1 rfl) ?_
          refine x_iald (j := k) (v := (V.th k)) hx hb hK hP 15 0 rfl rfl (by have := hV.ne; omega) (by decide) rfl rfl d_Mo_log_93 ?_
          have ew : w = 3 := by omega
          have e9 : mlgT V k w = 0 := by unfold mlgT; rw [if_pos h12, if_pos h25]
          have e8 : mlgR V k w = V.th k := by unfold mlgR; rw [if_pos ⟨h12, h25⟩]; subst ew; rfl
          have hP9 : va_P (dC, dI) classes (wMo cI o a (mkV V.mn V.pre V.len V.lev V.hol V.sta V.en V.tdy V.dys V.pol V.par V.kd V.fi V.se V.th V.ne (mlgT V k w) V.fo V.fl)) H := by rw [e9]; exact hP
          have hD9 : va_D A (wMo cI o a (mkV V.mn V.pre V.len V.lev V.hol V.sta V.en V.tdy V.dys V.pol V.par V.kd V.fi V.se V.th V.ne (mlgT V k w) V.fo V.fl)) := by rw [e9]; exact hD
          exact W.iret (v := (V.th k)) hx hb hr (fun t ht hW => ⟨⟨(V.th k), (), rfl, (by first | (rw [e8]; done) | (rw [e8]; rfl)), by rw [ht]; exact hP9, va_K.moved hW.alike hK, hD9⟩, hS.F ht⟩) hS.2.2 d_Mo_log_94
        have h76 := (k_eq (b := 2) hw0 (by decide)).mp h76
        refine lv_aload_n hx hb d_Mo_log_79 rfl (lv_at hl 0 rfl) ?_
        refine va_get (D := (dC, dI)) (ci := 5) (v := .ref (a 13)) (C := R_Mo) (T := F_Mo) (N := 19) hx hb hts u_Mo hown hK hP 0 rfl rfl 15 (by decide) (hts _ kw_729) (fun _ h9 => h9) rfl d_Mo_log_80 ?_
        refine lv_iload_n hx hb d_Mo_log_83 rfl (lv_at hl 1 rfl) ?_
        refine x_iald (j := k) (v := (V.se k)) hx hb hK hP 14 0 rfl rfl (by have := hV.ne; omega) (by decide) rfl rfl d_Mo_log_84 ?_
        refine lv_goto hx hb d_Mo_log_85 rfl ?_
        have ew : w = 2 := by omega
        have e9 : mlgT V k w = 0 := by unfold mlgT; rw [if_pos h12, if_pos h25]
        have e8 : mlgR V k w = V.se k := by unfold mlgR; rw [if_pos ⟨h12, h25⟩]; subst ew; rfl
        have hP9 : va_P (dC, dI) classes (wMo cI o a (mkV V.mn V.pre V.len V.lev V.hol V.sta V.en V.tdy V.dys V.pol V.par V.kd V.fi V.se V.th V.ne (mlgT V k w) V.fo V.fl)) H := by rw [e9]; exact hP
        have hD9 : va_D A (wMo cI o a (mkV V.mn V.pre V.len V.lev V.hol V.sta V.en V.tdy V.dys V.pol V.par V.kd V.fi V.se V.th V.ne (mlgT V k w) V.fo V.fl)) := by rw [e9]; exact hD
        exact W.iret (v := (V.se k)) hx hb hr (fun t ht hW => ⟨⟨(V.se k), (), rfl, (by first | (rw [e8]; done) | (rw [e8]; rfl)), by rw [ht]; exact hP9, va_K.moved hW.alike hK, hD9⟩, hS.F ht⟩) hS.2.2 d_Mo_log_94
      have h62 := (k_eq (b := 1) hw0 (by decide)).mp h62
      refine lv_aload_n hx hb d_Mo_log_65 rfl (lv_at hl 0 rfl) ?_
      refine va_get (D := (dC, dI)) (ci := 5) (v := .ref (a 12)) (C := R_Mo) (T := F_Mo) (N := 19) hx hb hts u_Mo hown hK hP 0 rfl rfl 14 (by decide) (hts _ kw_728) (fun _ h9 => h9) rfl d_Mo_log_66 ?_
      refine lv_iload_n hx hb d_Mo_log_69 rfl (lv_at hl 1 rfl) ?_
      refine x_iald (j := k) (v := (V.fi k)) hx hb hK hP 13 0 rfl rfl (by have := hV.ne; omega) (by decide) rfl rfl d_Mo_log_70 ?_
      refine lv_goto hx hb d_Mo_log_71 rfl ?_
      have ew : w = 1 := by omega
      have e9 : mlgT V k w = 0 := by unfold mlgT; rw [if_pos h12, if_pos h25]
      have e8 : mlgR V k w = V.fi k := by unfold mlgR; rw [if_pos ⟨h12, h25⟩]; subst ew; rfl
      have hP9 : va_P (dC, dI) classes (wMo cI o a (mkV V.mn V.pre V.len V.lev V.hol V.sta V.en V.tdy V.dys V.pol V.par V.kd V.fi V.se V.th V.ne (mlgT V k w) V.fo V.fl)) H := by rw [e9]; exact hP
      have hD9 : va_D A (wMo cI o a (mkV V.mn V.pre V.len V.lev V.hol V.sta V.en V.tdy V.dys V.pol V.par V.kd V.fi V.se V.th V.ne (mlgT V k w) V.fo V.fl)) := by rw [e9]; exact hD
      exact W.iret (v := (V.fi k)) hx hb hr (fun t ht hW => ⟨⟨(V.fi k), (), rfl, (by first | (rw [e8]; done) | (rw [e8]; rfl)), by rw [ht]; exact hP9, va_K.moved hW.alike hK, hD9⟩, hS.F ht⟩) hS.2.2 d_Mo_log_94
    have h48 := (k_eq (b := 0) hw0 (by decide)).mp h48
    refine lv_aload_n hx hb d_Mo_log_51 rfl (lv_at hl 0 rfl) ?_
    refine va_get (D := (dC, dI)) (ci := 5) (v := .ref (a 11)) (C := R_Mo) (T := F_Mo) (N := 19) hx hb hts u_Mo hown hK hP 0 rfl rfl 13 (by decide) (hts _ kw_727) (fun _ h9 => h9) rfl d_Mo_log_52 ?_
    refine lv_iload_n hx hb d_Mo_log_55 rfl (lv_at hl 1 rfl) ?_
    refine x_iald (j := k) (v := (V.kd k)) hx hb hK hP 12 0 rfl rfl (by have := hV.ne; omega) (by decide) rfl rfl d_Mo_log_56 ?_
    refine lv_goto hx hb d_Mo_log_57 rfl ?_
    have ew : w = 0 := by omega
    have e9 : mlgT V k w = 0 := by unfold mlgT; rw [if_pos h12, if_pos h25]
    have e8 : mlgR V k w = V.kd k := by unfold mlgR; rw [if_pos ⟨h12, h25⟩]; subst ew; rfl
    have hP9 : va_P (dC, dI) classes (wMo cI o a (mkV V.mn V.pre V.len V.lev V.hol V.sta V.en V.tdy V.dys V.pol V.par V.kd V.fi V.se V.th V.ne (mlgT V k w) V.fo V.fl)) H := by rw [e9]; exact hP
    have hD9 : va_D A (wMo cI o a (mkV V.mn V.pre V.len V.lev V.hol V.sta V.en V.tdy V.dys V.pol V.par V.kd V.fi V.se V.th V.ne (mlgT V k w) V.fo V.fl)) := by rw [e9]; exact hD
    exact W.iret (v := (V.kd k)) hx hb hr (fun t ht hW => ⟨⟨(V.kd k), (), rfl, (by first | (rw [e8]; done) | (rw [e8]; rfl)), by rw [ht]; exact hP9, va_K.moved hW.alike hK, hD9⟩, hS.F ht⟩) hS.2.2 d_Mo_log_94
  have h12 := mt (in_ent hV hk0).mpr (bi_d.mp h12)
  refine lv_iconst (v := 1) hx hb d_Mo_log_15 (by decide) ?_
  refine lv_goto hx hb d_Mo_log_16 rfl ?_
  refine va_put (D := (dC, dI)) (ci := 5) (v := .int 1) (ty := .int) (C := R_Mo) (T := F_Mo) (N := 19) hx hb hts u_Mo t_Mo t_Mo_ok n_Mo hown hK hP hD hS 0 rfl rfl 0 (by decide) (hts _ kw_714) (fun _ h9 => h9) rfl (by decide +kernel) rfl rfl (Nat.le_of_ble_eq_true rfl) d_Mo_log_33 (fun H locs hP hD hS => ?_)
  replace hP : va_P (dC, dI) classes [(o, .inr (5, [.int 1, .ref (a 0), .ref (a 1), .ref (a 2), .ref (a 3), .ref (a 4), .ref (a 5), .ref (a 6), .ref (a 7), .ref (a 8), .ref (a 9), .ref (a 10), .int (nI V.ne), .ref (a 11), .ref (a 12), .ref (a 13), .ref (a 14), .long V.fo, .int V.fl])), ((a 0), .inl (cI, 2, .inl (fun z9 => nI (V.mn z9)))), ((a 1), .inl (cI, 400, .inl (fun z9 => nI (V.pre z9)))), ((a 2), .inl (cI, 400, .inl (fun z9 => nI (V.len z9)))), ((a 3), .inl (cI, 400, .inl (fun z9 => pI (V.par z9)))), ((a 4), .inl (cI, 400, .inl (fun z9 => nI (V.lev z9)))), ((a 5), .inl (cI, 400, .inl (fun z9 => nI (V.hol z9)))), ((a 6), .inl (cI, 400, .inl (fun z9 => nI (V.sta z9)))), ((a 7), .inl (cI, 400, .inl (fun z9 => nI (V.en z9)))), ((a 8), .inl (cI, 2, .inl (fun z9 => nI (V.tdy z9)))), ((a 9), .inl (cI, 2, .inl (fun z9 => nI (V.dys z9)))), ((a 10), .inl (cI, 8, .inl (fun z9 => nI (V.pol z9)))), ((a 11), .inl (cI, 300, .inl V.kd)), ((a 12), .inl (cI, 300, .inl V.fi)), ((a 13), .inl (cI, 300, .inl V.se)), ((a 14), .inl (cI, 300, .inl V.th))] H := hP
  replace hD : va_D A [(o, .inr (5, [.int 1, .ref (a 0), .ref (a 1), .ref (a 2), .ref (a 3), .ref (a 4), .ref (a 5), .ref (a 6), .ref (a 7), .ref (a 8), .ref (a 9), .ref (a 10), .int (nI V.ne), .ref (a 11), .ref (a 12), .ref (a 13), .ref (a 14), .long V.fo, .int V.fl])), ((a 0), .inl (cI, 2, .inl (fun z9 => nI (V.mn z9)))), ((a 1), .inl (cI, 400, .inl (fun z9 => nI (V.pre z9)))), ((a 2), .inl (cI, 400, .inl (fun z9 => nI (V.len z9)))), ((a 3), .inl (cI, 400, .inl (fun z9 => pI (V.par z9)))), ((a 4), .inl (cI, 400, .inl (fun z9 => nI (V.lev z9)))), ((a 5), .inl (cI, 400, .inl (fun z9 => nI (V.hol z9)))), ((a 6), .inl (cI, 400, .inl (fun z9 => nI (V.sta z9)))), ((a 7), .inl (cI, 400, .inl (fun z9 => nI (V.en z9)))), ((a 8), .inl (cI, 2, .inl (fun z9 => nI (V.tdy z9)))), ((a 9), .inl (cI, 2, .inl (fun z9 => nI (V.dys z9)))), ((a 10), .inl (cI, 8, .inl (fun z9 => nI (V.pol z9)))), ((a 11), .inl (cI, 300, .inl V.kd)), ((a 12), .inl (cI, 300, .inl V.fi)), ((a 13), .inl (cI, 300, .inl V.se)), ((a 14), .inl (cI, 300, .inl V.th))] := hD
  refine lv_aload_n hx hb d_Mo_log_36 rfl (lv_at hl 0 rfl) ?_
  refine va_get (D := (dC, dI)) (ci := 5) (v := .int 1) (C := R_Mo) (T := F_Mo) (N := 19) hx hb hts u_Mo hown hK hP 0 rfl rfl 0 (by decide) (hts _ kw_714) (fun _ h9 => h9) rfl d_Mo_log_37 ?_
  refine lv_if_le hx hb d_Mo_log_40 rfl (fun h9 => absurd h9 (by decide)) (fun _ => ?_)
  refine lv_iconst (v := 0) hx hb d_Mo_log_43 (by decide) ?_
  refine lv_goto hx hb d_Mo_log_44 rfl ?_
  have e9 : mlgT V k w = 1 := by unfold mlgT; rw [if_neg h12]
  have e8 : mlgR V k w = 0 := by unfold mlgR; rw [if_neg (fun q => h12 q.1)]
  have hP9 : va_P (dC, dI) classes (wMo cI o a (mkV V.mn V.pre V.len V.lev V.hol V.sta V.en V.tdy V.dys V.pol V.par V.kd V.fi V.se V.th V.ne (mlgT V k w) V.fo V.fl)) H := by rw [e9]; exact hP
  have hD9 : va_D A (wMo cI o a (mkV V.mn V.pre V.len V.lev V.hol V.sta V.en V.tdy V.dys V.pol V.par V.kd V.fi V.se V.th V.ne (mlgT V k w) V.fo V.fl)) := by rw [e9]; exact hD
  exact W.iret (v := 0) hx hb hr (fun t ht hW => ⟨⟨0, (), rfl, (by first | (rw [e8]; done) | (rw [e8]; rfl)), by rw [ht]; exact hP9, va_K.moved hW.alike hK, hD9⟩, hS.F ht⟩) hS.2.2 d_Mo_log_94
set_option maxHeartbeats 4000000 in
set_option maxRecDepth 100000 in
theorem c_Mo_holderOf (l : Launch) (dC : Nat → ClassId) (dI : Nat → Nat → Nat) (sz : Nat) (cI : ClassId) (o : Nat) (a : Nat → Nat) (V : MS) (hV : MSok V) (p t : Nat) (hp0 : p < 4294967296) (ht0 : t < 4294967296) : Met l y_Mo_holderOf (.code y_Mo_holderOf b_Mo_holderOf 5 (some .int) :: wG) ({ frames := 2, cells := 0, slots := 0, locals := 43 }) (PcM (dC, dI) [(cI, .int)] (wMo cI o a V) [.ref o, .int (nI p), .int (nI t)] sz) (QmI (dC, dI) [(cI, .int)] (wMo cI o a V) (wMo cI o a (mkV V.mn V.pre V.len V.lev V.hol V.sta V.en V.tdy V.dys V.pol V.par V.kd V.fi V.se V.th V.ne 0 V.fo V.fl)) sz (pI (hoN V p t))) 0 0 (va_A (wMo cI o a V) sz) := by
  refine Met.ofW (cc := b_Mo_holderOf) (maxL := 5) (ret := (some .int)) (by decide) rfl ?_
  intro pg eg s mg ag bg meth cg s₁ B hml hv
  obtain ⟨rfl, hsz, hP, hK, hD0, hN⟩ := hv
  have hx := B.exec
  have hb := B.bytes
  have hr := B.returns
  have hlocks := B.notSynchronized
  have hts : ∀ w9 ∈ wG, w9.before ([.ref o, .int (nI p), .int (nI t)] : List Value).toArray s = true := fun w9 h9 => atoms_spec (ws := (.code y_Mo_holderOf b_Mo_holderOf 5 (some .int) :: wG)) B.pre w9 (List.mem_cons_of_mem _ h9)
  have hown : s.vm.findClass "PrefixRegistryModel" = some mg.cls := findClass_of_methodNamed B.named
  subst hsz
  have hD := hD0.self (sz := s.heap.size)
  unfold QmI
  generalize hAe : va_A (wMo cI o a V) s.heap.size = A at hD ⊢
  have hA : ∀ q : Nat, s.heap.size ≤ q → A q := fun q h => by rw [← hAe]; exact Or.inr h
  have hS : va_S A s.heap s.heap [] := va_S.rf
  have hl := lv_entry ([.ref o, .int (nI p), .int (nI t)]) (n := 5) (Nat.le_of_ble_eq_true rfl)
  rw [lg_entry_eq]
  generalize (lg_sl ([.ref o, .int (nI p), .int (nI t)]) ++ List.replicate (5 - (lg_sl ([.ref o, .int (nI p), .int (nI t)])).length) Slot.unset).toArray = ls at hl ⊢
  replace hl : lv_has ls 5 [(0, .ref o), (1, .int (nI p)), (2, .int (nI t))] := hl
  replace hP : va_P (dC, dI) classes (wMo cI o a V) s.heap := hP
  replace hD : va_D A (wMo cI o a V) := hD
  refine lv_aload_n hx hb d_Mo_holderOf_0 rfl (lv_at hl 0 rfl) ?_
  refine lv_iconst (v := 0) hx hb d_Mo_holderOf_1 (by decide) ?_
  refine va_put (D := (dC, dI)) (ci := 5) (v := .int 0) (ty := .int) (C := R_Mo) (T := F_Mo) (N := 19) hx hb hts u_Mo t_Mo t_Mo_ok n_Mo hown hK hP hD hS 0 rfl rfl 0 (by decide) (hts _ kw_714) (fun _ h9 => h9) rfl (by decide +kernel) rfl rfl (Nat.le_of_ble_eq_true rfl) d_Mo_holderOf_2 (fun H locs hP hD hS => ?_)
  replace hP : va_P (dC, dI) classes [(o, .inr (5, [.int 0, .ref (a 0), .ref (a 1), .ref (a 2), .ref (a 3), .ref (a 4), .ref (a 5), .ref (a 6), .ref (a 7), .ref (a 8), .ref (a 9), .ref (a 10), .int (nI V.ne), .ref (a 11), .ref (a 12), .ref (a 13), .ref (a 14), .long V.fo, .int V.fl])), ((a 0), .inl (cI, 2, .inl (fun z9 => nI (V.mn z9)))), ((a 1), .inl (cI, 400, .inl (fun z9 => nI (V.pre z9)))), ((a 2), .inl (cI, 400, .inl (fun z9 => nI (V.len z9)))), ((a 3), .inl (cI, 400, .inl (fun z9 => pI (V.par z9)))), ((a 4), .inl (cI, 400, .inl (fun z9 => nI (V.lev z9)))), ((a 5), .inl (cI, 400, .inl (fun z9 => nI (V.hol z9)))), ((a 6), .inl (cI, 400, .inl (fun z9 => nI (V.sta z9)))), ((a 7), .inl (cI, 400, .inl (fun z9 => nI (V.en z9)))), ((a 8), .inl (cI, 2, .inl (fun z9 => nI (V.tdy z9)))), ((a 9), .inl (cI, 2, .inl (fun z9 => nI (V.dys z9)))), ((a 10), .inl (cI, 8, .inl (fun z9 => nI (V.pol z9)))), ((a 11), .inl (cI, 300, .inl V.kd)), ((a 12), .inl (cI, 300, .inl V.fi)), ((a 13), .inl (cI, 300, .inl V.se)), ((a 14), .inl (cI, 300, .inl V.th))] H := hP
  replace hD : va_D A [(o, .inr (5, [.int 0, .ref (a 0), .ref (a 1), .ref (a 2), .ref (a 3), .ref (a 4), .ref (a 5), .ref (a 6), .ref (a 7), .ref (a 8), .ref (a 9), .ref (a 10), .int (nI V.ne), .ref (a 11), .ref (a 12), .ref (a 13), .ref (a 14), .long V.fo, .int V.fl])), ((a 0), .inl (cI, 2, .inl (fun z9 => nI (V.mn z9)))), ((a 1), .inl (cI, 400, .inl (fun z9 => nI (V.pre z9)))), ((a 2), .inl (cI, 400, .inl (fun z9 => nI (V.len z9)))), ((a 3), .inl (cI, 400, .inl (fun z9 => pI (V.par z9)))), ((a 4), .inl (cI, 400, .inl (fun z9 => nI (V.lev z9)))), ((a 5), .inl (cI, 400, .inl (fun z9 => nI (V.hol z9)))), ((a 6), .inl (cI, 400, .inl (fun z9 => nI (V.sta z9)))), ((a 7), .inl (cI, 400, .inl (fun z9 => nI (V.en z9)))), ((a 8), .inl (cI, 2, .inl (fun z9 => nI (V.tdy z9)))), ((a 9), .inl (cI, 2, .inl (fun z9 => nI (V.dys z9)))), ((a 10), .inl (cI, 8, .inl (fun z9 => nI (V.pol z9)))), ((a 11), .inl (cI, 300, .inl V.kd)), ((a 12), .inl (cI, 300, .inl V.fi)), ((a 13), .inl (cI, 300, .inl V.se)), ((a 14), .inl (cI, 300, .inl V.th))] := hD
  refine lv_iconst (v := (-1)) hx hb d_Mo_holderOf_5 (by decide) ?_
  refine lv_istore_n hx hb d_Mo_holderOf_6 rfl hl (by decide) rfl (fun ls hl => ?_)
  replace hl : lv_has ls 5 [(3, .int (-1)), (0, .ref o), (1, .int (nI p)), (2, .int (nI t))] := hl
  refine lv_iconst (v := 0) hx hb d_Mo_holderOf_7 (by decide) ?_
  refine lv_istore hx hb d_Mo_holderOf_8 hl (by decide) rfl (fun ls hl => ?_)
  replace hl : lv_has ls 5 [(4, .int 0), (3, .int (-1)), (0, .ref o), (1, .int (nI p)), (2, .int (nI t))] := hl
  obtain ⟨i, hi0⟩ : ∃ i : Nat, i = 0 := ⟨_, rfl⟩
  obtain ⟨k, hk0⟩ : ∃ k : Nat, k = V.mn 0 - 0 := ⟨_, rfl⟩
  obtain ⟨ac, hac⟩ : ∃ ac : Option Nat, ac = none := ⟨_, rfl⟩
  have hres : lastF (hoP V p t) i k ac = hoN V p t := by rw [hi0, hk0, hac]; rfl
  replace hl : lv_has ls 5 [(4, .int (nI i)), (3, .int (pI ac)), (0, .ref o), (1, .int (nI p)), (2, .int (nI t))] := by subst hi0; subst hac; exact hl
  have hik : i + k = V.mn 0 := by omega
  clear hi0 hk0 hac
  replace hres := hres
  replace hl : lv_has ls 5 [(4, .int (nI i)), (3, .int (pI ac)), (0, .ref o), (1, .int (nI p)), (2, .int (nI t))] := hl
  induction k generalizing i ls ac with
  | zero =>
    refine lv_iload hx hb d_Mo_holderOf_10 (lv_at hl 0 rfl) ?_
    refine lv_aload_n hx hb d_Mo_holderOf_12 rfl (lv_at hl 2 rfl) ?_
    refine va_get (D := (dC, dI)) (ci := 5) (v := .ref (a 0)) (C := R_Mo) (T := F_Mo) (N := 19) hx hb hts u_Mo hown hK hP 0 rfl rfl 1 (by decide) (hts _ kw_715) (fun _ h9 => h9) rfl d_Mo_holderOf_13 ?_
    refine lv_iconst (v := 0) hx hb d_Mo_holderOf_16 (by decide) ?_
    refine x_iald (j := 0) (v := (nI (V.mn 0))) hx hb hK hP 1 0 rfl rfl (by decide) (by decide) rfl rfl d_Mo_holderOf_17 ?_
    refine lv_icmp_ge hx hb d_Mo_holderOf_18 rfl (fun _ => ?_) (fun h9 => absurd (nI_le (by omega) (by have := hV.mn 0; omega)) h9)
    refine lv_iload_n hx hb d_Mo_holderOf_79 rfl (lv_at hl 1 rfl) ?_
    have hP9 : va_P (dC, dI) classes (wMo cI o a (mkV V.mn V.pre V.len V.lev V.hol V.sta V.en V.tdy V.dys V.pol V.par V.kd V.fi V.se V.th V.ne 0 V.fo V.fl)) H := hP
    have hD9 : va_D A (wMo cI o a (mkV V.mn V.pre V.len V.lev V.hol V.sta V.en V.tdy V.dys V.pol V.par V.kd V.fi V.se V.th V.ne 0 V.fo V.fl)) := hD
    exact W.iret (v := (pI ac)) hx hb hr (fun t ht hW => ⟨⟨(pI ac), (), rfl, (by rw [← hres]; rfl), by rw [ht]; exact hP9, va_K.moved hW.alike hK, hD9⟩, hS.F ht⟩) hS.2.2 d_Mo_holderOf_80
  | succ k ih =>
    refine lv_iload hx hb d_Mo_holderOf_10 (lv_at hl 0 rfl) ?_
    refine lv_aload_n hx hb d_Mo_holderOf_12 rfl (lv_at hl 2 rfl) ?_
    refine va_get (D := (dC, dI)) (ci := 5) (v := .ref (a 0)) (C := R_Mo) (T := F_Mo) (N := 19) hx hb hts u_Mo hown hK hP 0 rfl rfl 1 (by decide) (hts _ kw_715) (fun _ h9 => h9) rfl d_Mo_holderOf_13 ?_
    refine lv_iconst (v := 0) hx hb d_Mo_holderOf_16 (by decide) ?_
    refine x_iald (j := 0) (v := (nI (V.mn 0))) hx hb hK hP 1 0 rfl rfl (by decide) (by decide) rfl rfl d_Mo_holderOf_17 ?_
    refine lv_icmp_ge hx hb d_Mo_holderOf_18 rfl (fun h9 => absurd h9 (nI_ge (by omega) (by have := hV.mn 0; omega))) (fun _ => ?_)
    refine lv_aload_n hx hb d_Mo_holderOf_21 rfl (lv_at hl 2 rfl) ?_
    refine va_get (D := (dC, dI)) (ci := 5) (v := .ref (a 6)) (C := R_Mo) (T := F_Mo) (N := 19) hx hb hts u_Mo hown hK hP 0 rfl rfl 7 (by decide) (hts _ kw_721) (fun _ h9 => h9) rfl d_Mo_holderOf_22 ?_
    refine lv_iload hx hb d_Mo_holderOf_25 (lv_at hl 0 rfl) ?_
    refine x_iald (j := i) (v := (nI (V.sta i))) hx hb hK hP 7 0 rfl rfl (by have := hV.mn 0; omega) (by decide) rfl rfl d_Mo_holderOf_27 ?_
    refine lv_iconst (v := 1) hx hb d_Mo_holderOf_28 (by decide) ?_
    refine lv_icmp_ne hx hb d_Mo_holderOf_29 rfl (fun h29 => ?_) (fun h29 => ?_)
    · have h29 := mt (k_eq (b := 1) (by have := hV.sta i; omega) (by decide)).mpr h29
      refine lv_iload_n hx hb d_Mo_holderOf_71 rfl (lv_at hl 1 rfl) ?_
      refine lv_istore_n hx hb d_Mo_holderOf_72 rfl hl (by decide) rfl (fun ls hl => ?_)
      replace hl : lv_has ls 5 [(3, .int (pI ac)), (4, .int (nI i)), (0, .ref o), (1, .int (nI p)), (2, .int (nI t))] := hl
      refine lv_iinc hx hb d_Mo_holderOf_73 hl (k := 1) (v := (nI (i + 1))) rfl (nI_1 i) (by decide) rfl (fun ls hl => ?_)
      replace hl : lv_has ls 5 [(4, .int (nI (i + 1))), (3, .int (pI ac)), (0, .ref o), (1, .int (nI p)), (2, .int (nI t))] := hl
      refine lv_goto hx hb d_Mo_holderOf_76 rfl ?_
      refine ih _ _ _ ?_ ?_ hl
      · omega
      · exact (by rw [← hres]; simp only [lastF]; rw [if_neg (by unfold hoP; simp only [Bool.and_eq_true, decide_eq_true_eq]; exact fun q => h29 q.1.1)])
    have h29 := (k_eq (b := 1) (by have := hV.sta i; omega) (by decide)).mp h29
    refine lv_aload_n hx hb d_Mo_holderOf_32 rfl (lv_at hl 2 rfl) ?_
    refine va_get (D := (dC, dI)) (ci := 5) (v := .ref (a 4)) (C := R_Mo) (T := F_Mo) (N := 19) hx hb hts u_Mo hown hK hP 0 rfl rfl 5 (by decide) (hts _ kw_719) (fun _ h9 => h9) rfl d_Mo_holderOf_33 ?_
    refine lv_iload hx hb d_Mo_holderOf_36 (lv_at hl 0 rfl) ?_
    refine x_iald (j := i) (v := (nI (V.lev i))) hx hb hK hP 5 0 rfl rfl (by have := hV.mn 0; omega) (by decide) rfl rfl d_Mo_holderOf_38 ?_
    refine lv_iload_n hx hb d_Mo_holderOf_39 rfl (lv_at hl 4 rfl) ?_
    refine lv_icmp_ne hx hb d_Mo_holderOf_40 rfl (fun h40 => ?_) (fun h40 => ?_)
    · have h40 := mt (k_eq (by have := hV.lev i; omega) ht0).mpr h40
      refine lv_iload_n hx hb d_Mo_holderOf_71 rfl (lv_at hl 1 rfl) ?_
      refine lv_istore_n hx hb d_Mo_holderOf_72 rfl hl (by decide) rfl (fun ls hl => ?_)
      replace hl : lv_has ls 5 [(3, .int (pI ac)), (4, .int (nI i)), (0, .ref o), (1, .int (nI p)), (2, .int (nI t))] := hl
      refine lv_iinc hx hb d_Mo_holderOf_73 hl (k := 1) (v := (nI (i + 1))) rfl (nI_1 i) (by decide) rfl (fun ls hl => ?_)
      replace hl : lv_has ls 5 [(4, .int (nI (i + 1))), (3, .int (pI ac)), (0, .ref o), (1, .int (nI p)), (2, .int (nI t))] := hl
      refine lv_goto hx hb d_Mo_holderOf_76 rfl ?_
      refine ih _ _ _ ?_ ?_ hl
      · omega
      · exact (by rw [← hres]; simp only [lastF]; rw [if_neg (by unfold hoP; simp only [Bool.and_eq_true, decide_eq_true_eq]; exact fun q => h40 q.1.2)])
    have h40 := (k_eq (by have := hV.lev i; omega) ht0).mp h40
    refine lv_iload_n hx hb d_Mo_holderOf_43 rfl (lv_at hl 3 rfl) ?_
    refine lv_bipush (v := 32) hx hb d_Mo_holderOf_44 (by decide) ?_
    refine lv_aload_n hx hb d_Mo_holderOf_46 rfl (lv_at hl 2 rfl) ?_
    refine va_get (D := (dC, dI)) (ci := 5) (v := .ref (a 1)) (C := R_Mo) (T := F_Mo) (N := 19) hx hb hts u_Mo hown hK hP 0 rfl rfl 2 (by decide) (hts _ kw_716) (fun _ h9 => h9) rfl d_Mo_holderOf_47 ?_
    refine lv_iload hx hb d_Mo_holderOf_50 (lv_at hl 0 rfl) ?_
    refine x_iald (j := i) (v := (nI (V.pre i))) hx hb hK hP 2 0 rfl rfl (by have := hV.mn 0; omega) (by decide) rfl rfl d_Mo_holderOf_52 ?_
    refine lv_aload_n hx hb d_Mo_holderOf_53 rfl (lv_at hl 2 rfl) ?_
    refine va_get (D := (dC, dI)) (ci := 5) (v := .ref (a 2)) (C := R_Mo) (T := F_Mo) (N := 19) hx hb hts u_Mo hown hK hP 0 rfl rfl 3 (by decide) (hts _ kw_717) (fun _ h9 => h9) rfl d_Mo_holderOf_54 ?_
    refine lv_iload hx hb d_Mo_holderOf_57 (lv_at hl 0 rfl) ?_
    refine x_iald (j := i) (v := (nI (V.len i))) hx hb hK hP 3 0 rfl rfl (by have := hV.mn 0; omega) (by decide) rfl rfl d_Mo_holderOf_59 ?_
    refine vp_callSi (W.runS (As := [.int (nI p), .int 32, .int (nI (V.pre i)), .int (nI (V.len i))]) (rest := []) ⟨hx, hb, hml, hown, hts⟩ (c_Mo_meets l dC dI p 32 (V.pre i) (V.len i) hp0 (by decide) (hV.pre _) (hV.len _)) (cwS 4 hts (gS kw_794 kw_795 kw_6 kw_796) rfl rfl rfl (by decide +kernel) ⟨Nat.le_of_ble_eq_true rfl, Nat.le_of_ble_eq_true rfl⟩) ⟨PcS.blind, PcS.use hP hK hN⟩ rfl rfl hl.1 rfl (lv_room (Nat.le_of_ble_eq_true rfl)) d_Mo_holderOf_60 ⟨Nat.zero_le _, Nat.zero_le _⟩) (fun r60 hr60 => ?_)
    obtain rfl : r60 = bi (decide (mtM p 32 (V.pre i) (V.len i))) := hr60
    refine lv_if_eq hx hb d_Mo_holderOf_63 rfl (fun h63 => ?_) (fun h63 => ?_)
    · have h63 := bi_d.mp h63
      refine lv_iload_n hx hb d_Mo_holderOf_71 rfl (lv_at hl 1 rfl) ?_
      refine lv_istore_n hx hb d_Mo_holderOf_72 rfl hl (by decide) rfl (fun ls hl => ?_)
      replace hl : lv_has ls 5 [(3, .int (pI ac)), (4, .int (nI i)), (0, .ref o), (1, .int (nI p)), (2, .int (nI t))] := hl
      refine lv_iinc hx hb d_Mo_holderOf_73 hl (k := 1) (v := (nI (i + 1))) rfl (nI_1 i) (by decide) rfl (fun ls hl => ?_)
      replace hl : lv_has ls 5 [(4, .int (nI (i + 1))), (3, .int (pI ac)), (0, .ref o), (1, .int (nI p)), (2, .int (nI t))] := hl
      refine lv_goto hx hb d_Mo_holderOf_76 rfl ?_
      refine ih _ _ _ ?_ ?_ hl
      · omega
      · exact (by rw [← hres]; simp only [lastF]; rw [if_neg (by unfold hoP; simp only [Bool.and_eq_true, decide_eq_true_eq]; exact fun q => h63 q.2)])
    have h63 := Decidable.not_not.mp (mt bi_d.mpr h63)
    refine lv_iload hx hb d_Mo_holderOf_66 (lv_at hl 0 rfl) ?_
    refine x_topi (y := (pI (some i))) rfl ?_
    refine lv_goto hx hb d_Mo_holderOf_68 rfl ?_
    refine lv_istore_n hx hb d_Mo_holderOf_72 rfl hl (by decide) rfl (fun ls hl => ?_)
    replace hl : lv_has ls 5 [(3, .int (pI (some i))), (4, .int (nI i)), (0, .ref o), (1, .int (nI p)), (2, .int (nI t))] := hl
    refine lv_iinc hx hb d_Mo_holderOf_73 hl (k := 1) (v := (nI (i + 1))) rfl (nI_1 i) (by decide) rfl (fun ls hl => ?_)
    replace hl : lv_has ls 5 [(4, .int (nI (i + 1))), (3, .int (pI (some i))), (0, .ref o), (1, .int (nI p)), (2, .int (nI t))] := hl
    refine lv_goto hx hb d_Mo_holderOf_76 rfl ?_
    refine ih _ _ _ ?_ ?_ hl
    · omega
    · exact (by rw [← hres]; simp only [lastF]; rw [if_pos (by unfold hoP; simp only [Bool.and_eq_true, decide_eq_true_eq]; exact ⟨⟨h29, h40⟩, h63⟩)])
set_option maxHeartbeats 4000000 in
set_option maxRecDepth 100000 in
theorem c_Mo_pass (l : Launch) (dC : Nat → ClassId) (dI : Nat → Nat → Nat) (sz : Nat) (cI : ClassId) (o : Nat) (a : Nat → Nat) (V : MS) (b d n : Nat) (hd : d < 2) (hod : b = 200 * d) (hV : MSok V) (hn : n ≤ 100000) : Met l y_Mo_pass (.code y_Mo_pass b_Mo_pass 6 (some .int) :: wG) ({ frames := 0, cells := 0, slots := 0, locals := 0 }) (PcM (dC, dI) [(cI, .int)] (wMo cI o a V) [.ref o, .int (nI b), .int (nI n)] sz) (QmI (dC, dI) [(cI, .int)] (wMo cI o a V) (wMo cI o a (vPas V b d n)) sz (nI (psF V.en n b (V.mn d) V.sta 0).2)) 0 0 (va_A (wMo cI o a V) sz) := by
  refine Met.ofW (cc := b_Mo_pass) (maxL := 6) (ret := (some .int)) (by decide) rfl ?_
  intro pg eg s mg ag bg meth cg s₁ B hml hv
  obtain ⟨rfl, hsz, hP, hK, hD0, hN⟩ := hv
  have hx := B.exec
  have hb := B.bytes
  have hr := B.returns
  have hlocks := B.notSynchronized
  have hts : ∀ w9 ∈ wG, w9.before ([.ref o, .int (nI b), .int (nI n)] : List Value).toArray s = true := fun w9 h9 => atoms_spec (ws := (.code y_Mo_pass b_Mo_pass 6 (some .int) :: wG)) B.pre w9 (List.mem_cons_of_mem _ h9)
  have hown : s.vm.findClass "PrefixRegistryModel" = some mg.cls := findClass_of_methodNamed B.named
  subst hsz
  have hD := hD0.self (sz := s.heap.size)
  unfold QmI
  generalize hAe : va_A (wMo cI o a V) s.heap.size = A at hD ⊢
  have hA : ∀ q : Nat, s.heap.size ≤ q → A q := fun q h => by rw [← hAe]; exact Or.inr h
  have hS : va_S A s.heap s.heap [] := va_S.rf
  have hl := lv_entry ([.ref o, .int (nI b), .int (nI n)]) (n := 6) (Nat.le_of_ble_eq_true rfl)
  rw [lg_entry_eq]
  generalize (lg_sl ([.ref o, .int (nI b), .int (nI n)]) ++ List.replicate (6 - (lg_sl ([.ref o, .int (nI b), .int (nI n)])).length) Slot.unset).toArray = ls at hl ⊢
  replace hl : lv_has ls 6 [(0, .ref o), (1, .int (nI b)), (2, .int (nI n))] := hl
  replace hP : va_P (dC, dI) classes (wMo cI o a V) s.heap := hP
  replace hD : va_D A (wMo cI o a V) := hD
  refine lv_aload_n hx hb d_Mo_pass_0 rfl (lv_at hl 0 rfl) ?_
  refine va_get (D := (dC, dI)) (ci := 5) (v := .ref (a 8)) (C := R_Mo) (T := F_Mo) (N := 19) hx hb hts u_Mo hown hK hP 0 rfl rfl 9 (by decide) (hts _ kw_723) (fun _ h9 => h9) rfl d_Mo_pass_1 ?_
  refine lv_iload_n hx hb d_Mo_pass_4 rfl (lv_at hl 1 rfl) ?_
  refine lv_sipush (v := 200) hx hb d_Mo_pass_5 (by decide) ?_
  refine lv_idiv hx hb d_Mo_pass_8 (by decide) ?_
  refine x_topi (y := (nI d)) (by rw [hod]; exact k_d200 d hd) ?_
  refine lv_iload_n hx hb d_Mo_pass_9 rfl (lv_at hl 2 rfl) ?_
  refine x_iast (j := d) (g := (fun z9 => nI (va_up V.tdy d n z9))) hx hb hK hP hD hS 9 0 rfl rfl hd (by decide) rfl (up_nI _ _ n) rfl d_Mo_pass_10 (fun H locs hP hD hS => ?_)
  replace hP : va_P (dC, dI) classes [(o, .inr (5, [.int (nI V.tc), .ref (a 0), .ref (a 1), .ref (a 2), .ref (a 3), .ref (a 4), .ref (a 5), .ref (a 6), .ref (a 7), .ref (a 8), .ref (a 9), .ref (a 10), .int (nI V.ne), .ref (a 11), .ref (a 12), .ref (a 13), .ref (a 14), .long V.fo, .int V.fl])), ((a 0), .inl (cI, 2, .inl (fun z9 => nI (V.mn z9)))), ((a 1), .inl (cI, 400, .inl (fun z9 => nI (V.pre z9)))), ((a 2), .inl (cI, 400, .inl (fun z9 => nI (V.len z9)))), ((a 3), .inl (cI, 400, .inl (fun z9 => pI (V.par z9)))), ((a 4), .inl (cI, 400, .inl (fun z9 => nI (V.lev z9)))), ((a 5), .inl (cI, 400, .inl (fun z9 => nI (V.hol z9)))), ((a 6), .inl (cI, 400, .inl (fun z9 => nI (V.sta z9)))), ((a 7), .inl (cI, 400, .inl (fun z9 => nI (V.en z9)))), ((a 8), .inl (cI, 2, .inl (fun z9 => nI (va_up V.tdy d n z9)))), ((a 9), .inl (cI, 2, .inl (fun z9 => nI (V.dys z9)))), ((a 10), .inl (cI, 8, .inl (fun z9 => nI (V.pol z9)))), ((a 11), .inl (cI, 300, .inl V.kd)), ((a 12), .inl (cI, 300, .inl V.fi)), ((a 13), .inl (cI, 300, .inl V.se)), ((a 14), .inl (cI, 300, .inl V.th))] H := hP
  replace hD : va_D A [(o, .inr (5, [.int (nI V.tc), .ref (a 0), .ref (a 1), .ref (a 2), .ref (a 3), .ref (a 4), .ref (a 5), .ref (a 6), .ref (a 7), .ref (a 8), .ref (a 9), .ref (a 10), .int (nI V.ne), .ref (a 11), .ref (a 12), .ref (a 13), .ref (a 14), .long V.fo, .int V.fl])), ((a 0), .inl (cI, 2, .inl (fun z9 => nI (V.mn z9)))), ((a 1), .inl (cI, 400, .inl (fun z9 => nI (V.pre z9)))), ((a 2), .inl (cI, 400, .inl (fun z9 => nI (V.len z9)))), ((a 3), .inl (cI, 400, .inl (fun z9 => pI (V.par z9)))), ((a 4), .inl (cI, 400, .inl (fun z9 => nI (V.lev z9)))), ((a 5), .inl (cI, 400, .inl (fun z9 => nI (V.hol z9)))), ((a 6), .inl (cI, 400, .inl (fun z9 => nI (V.sta z9)))), ((a 7), .inl (cI, 400, .inl (fun z9 => nI (V.en z9)))), ((a 8), .inl (cI, 2, .inl (fun z9 => nI (va_up V.tdy d n z9)))), ((a 9), .inl (cI, 2, .inl (fun z9 => nI (V.dys z9)))), ((a 10), .inl (cI, 8, .inl (fun z9 => nI (V.pol z9)))), ((a 11), .inl (cI, 300, .inl V.kd)), ((a 12), .inl (cI, 300, .inl V.fi)), ((a 13), .inl (cI, 300, .inl V.se)), ((a 14), .inl (cI, 300, .inl V.th))] := hD
  refine lv_iconst (v := 0) hx hb d_Mo_pass_11 (by decide) ?_
  refine lv_istore_n hx hb d_Mo_pass_12 rfl hl (by decide) rfl (fun ls hl => ?_)
  replace hl : lv_has ls 6 [(3, .int 0), (0, .ref o), (1, .int (nI b)), (2, .int (nI n))] := hl
  refine lv_iload_n hx hb d_Mo_pass_13 rfl (lv_at hl 2 rfl) ?_
  refine lv_istore hx hb d_Mo_pass_14 hl (by decide) rfl (fun ls hl => ?_)
  replace hl : lv_has ls 6 [(4, .int (nI b)), (3, .int 0), (0, .ref o), (1, .int (nI b)), (2, .int (nI n))] := hl
  obtain ⟨g, hg⟩ : ∃ g : Nat → Nat, g = V.sta := ⟨_, rfl⟩
  obtain ⟨i, hi0⟩ : ∃ i : Nat, i = b := ⟨_, rfl⟩
  obtain ⟨k, hk0⟩ : ∃ k : Nat, k = (b + V.mn d) - b := ⟨_, rfl⟩
  obtain ⟨sm, hsm⟩ : ∃ sm : Nat, sm = 0 := ⟨_, rfl⟩
  have hres : psF V.en n i k g sm = psF V.en n b (V.mn d) V.sta 0 := by rw [hi0, hk0, hg, hsm, Nat.add_sub_cancel_left]
  have hgb : ∀ j, g j < 5 := by rw [hg]; exact hV.sta
  replace hP : va_P (dC, dI) classes (wMo cI o a (mkV V.mn V.pre V.len V.lev V.hol g V.en (va_up V.tdy d n) V.dys V.pol V.par V.kd V.fi V.se V.th V.ne V.tc V.fo V.fl)) H := by subst hg; exact hP
  replace hD : va_D A (wMo cI o a (mkV V.mn V.pre V.len V.lev V.hol g V.en (va_up V.tdy d n) V.dys V.pol V.par V.kd V.fi V.se V.th V.ne V.tc V.fo V.fl)) := by subst hg; exact hD
  replace hl : lv_has ls 6 [(4, .int (nI i)), (3, .int (nI sm)), (0, .ref o), (1, .int (nI b)), (2, .int (nI n))] := by subst hi0; subst hsm; exact hl
  have hik : i + k = (b + V.mn d) := by omega
  clear hi0 hk0 hsm hg
  replace hres := hres
  replace hgb := hgb
  replace hP := hP
  replace hD := hD
  replace hS := hS
  replace hl : lv_has ls 6 [(4, .int (nI i)), (3, .int (nI sm)), (0, .ref o), (1, .int (nI b)), (2, .int (nI n))] := hl
  induction k generalizing i ls H locs sm g with
  | zero =>
    refine lv_iload hx hb d_Mo_pass_16 (lv_at hl 0 rfl) ?_
    refine lv_iload_n hx hb d_Mo_pass_18 rfl (lv_at hl 3 rfl) ?_
    refine lv_aload_n hx hb d_Mo_pass_19 rfl (lv_at hl 2 rfl) ?_
    refine va_get (D := (dC, dI)) (ci := 5) (v := .ref (a 0)) (C := R_Mo) (T := F_Mo) (N := 19) hx hb hts u_Mo hown hK hP 0 rfl rfl 1 (by decide) (hts _ kw_715) (fun _ h9 => h9) rfl d_Mo_pass_20 ?_
    refine lv_iload_n hx hb d_Mo_pass_23 rfl (lv_at hl 3 rfl) ?_
    refine lv_sipush (v := 200) hx hb d_Mo_pass_24 (by decide) ?_
    refine lv_idiv hx hb d_Mo_pass_27 (by decide) ?_
    refine x_topi (y := (nI d)) (by rw [hod]; exact k_d200 d hd) ?_
    refine x_iald (j := d) (v := (nI (V.mn d))) hx hb hK hP 1 0 rfl rfl hd (by decide) rfl rfl d_Mo_pass_28 ?_
    refine lv_iadd hx hb d_Mo_pass_29 ?_
    refine x_topi (y := (nI (b + V.mn d))) (nI_add _ _) ?_
    refine lv_icmp_ge hx hb d_Mo_pass_30 rfl (fun _ => ?_) (fun h9 => absurd (nI_le (by omega) (by have := hV.mn d; omega)) h9)
    refine lv_iload_n hx hb d_Mo_pass_104 rfl (lv_at hl 1 rfl) ?_
    have e9 : psF V.en n b (V.mn d) V.sta 0 = (g, sm) := hres.symm
    have hP9 : va_P (dC, dI) classes (wMo cI o a (vPas V b d n)) H := by unfold vPas; rw [e9]; exact hP
    have hD9 : va_D A (wMo cI o a (vPas V b d n)) := by unfold vPas; rw [e9]; exact hD
    exact W.iret (v := (nI sm)) hx hb hr (fun t ht hW => ⟨⟨(nI sm), (), rfl, (by rw [← hres]; rfl), by rw [ht]; exact hP9, va_K.moved hW.alike hK, hD9⟩, hS.F ht⟩) hS.2.2 d_Mo_pass_105
  | succ k ih =>
    refine lv_iload hx hb d_Mo_pass_16 (lv_at hl 0 rfl) ?_
    refine lv_iload_n hx hb d_Mo_pass_18 rfl (lv_at hl 3 rfl) ?_
    refine lv_aload_n hx hb d_Mo_pass_19 rfl (lv_at hl 2 rfl) ?_
    refine va_get (D := (dC, dI)) (ci := 5) (v := .ref (a 0)) (C := R_Mo) (T := F_Mo) (N := 19) hx hb hts u_Mo hown hK hP 0 rfl rfl 1 (by decide) (hts _ kw_715) (fun _ h9 => h9) rfl d_Mo_pass_20 ?_
    refine lv_iload_n hx hb d_Mo_pass_23 rfl (lv_at hl 3 rfl) ?_
    refine lv_sipush (v := 200) hx hb d_Mo_pass_24 (by decide) ?_
    refine lv_idiv hx hb d_Mo_pass_27 (by decide) ?_
    refine x_topi (y := (nI d)) (by rw [hod]; exact k_d200 d hd) ?_
    refine x_iald (j := d) (v := (nI (V.mn d))) hx hb hK hP 1 0 rfl rfl hd (by decide) rfl rfl d_Mo_pass_28 ?_
    refine lv_iadd hx hb d_Mo_pass_29 ?_
    refine x_topi (y := (nI (b + V.mn d))) (nI_add _ _) ?_
    refine lv_icmp_ge hx hb d_Mo_pass_30 rfl (fun h9 => absurd h9 (nI_ge (by omega) (by have := hV.mn d; omega))) (fun _ => ?_)
    refine lv_aload_n hx hb d_Mo_pass_33 rfl (lv_at hl 2 rfl) ?_
    refine va_get (D := (dC, dI)) (ci := 5) (v := .ref (a 6)) (C := R_Mo) (T := F_Mo) (N := 19) hx hb hts u_Mo hown hK hP 0 rfl rfl 7 (by decide) (hts _ kw_721) (fun _ h9 => h9) rfl d_Mo_pass_34 ?_
    refine lv_iload hx hb d_Mo_pass_37 (lv_at hl 0 rfl) ?_
    refine x_iald (j := i) (v := (nI (g i))) hx hb hK hP 7 0 rfl rfl (by have := hV.mn d; omega) (by decide) rfl rfl d_Mo_pass_39 ?_
    refine lv_iconst (v := 3) hx hb d_Mo_pass_40 (by decide) ?_
    refine lv_icmp_ne hx hb d_Mo_pass_41 rfl (fun h41 => ?_) (fun h41 => ?_)
    · have h41 := mt (k_eq (b := 3) (by have := hgb i; omega) (by decide)).mpr h41
      refine lv_iconst (v := 0) hx hb d_Mo_pass_59 (by decide) ?_
      refine x_topi (y := (bi false)) rfl ?_
      refine lv_istore hx hb d_Mo_pass_60 hl (by decide) rfl (fun ls hl => ?_)
      replace hl : lv_has ls 6 [(5, .int (bi false)), (4, .int (nI i)), (3, .int (nI sm)), (0, .ref o), (1, .int (nI b)), (2, .int (nI n))] := hl
      refine lv_iload_n hx hb d_Mo_pass_62 rfl (lv_at hl 2 rfl) ?_
      refine lv_iload hx hb d_Mo_pass_63 (lv_at hl 0 rfl) ?_
      refine lv_if_eq hx hb d_Mo_pass_65 rfl (fun _ => ?_) (fun h9 => absurd rfl h9)
      refine lv_iconst (v := 0) hx hb d_Mo_pass_72 (by decide) ?_
      refine lv_iadd hx hb d_Mo_pass_73 ?_
      refine x_topi (y := (nI sm)) (nI_add _ 0) ?_
      refine lv_istore_n hx hb d_Mo_pass_74 rfl hl (by decide) rfl (fun ls hl => ?_)
      replace hl : lv_has ls 6 [(3, .int (nI sm)), (5, .int (bi false)), (4, .int (nI i)), (0, .ref o), (1, .int (nI b)), (2, .int (nI n))] := hl
      refine lv_aload_n hx hb d_Mo_pass_75 rfl (lv_at hl 3 rfl) ?_
      refine va_get (D := (dC, dI)) (ci := 5) (v := .ref (a 6)) (C := R_Mo) (T := F_Mo) (N := 19) hx hb hts u_Mo hown hK hP 0 rfl rfl 7 (by decide) (hts _ kw_721) (fun _ h9 => h9) rfl d_Mo_pass_76 ?_
      refine lv_iload hx hb d_Mo_pass_79 (lv_at hl 2 rfl) ?_
      refine lv_iload hx hb d_Mo_pass_81 (lv_at hl 1 rfl) ?_
      refine lv_if_eq hx hb d_Mo_pass_83 rfl (fun _ => ?_) (fun h9 => absurd rfl h9)
      refine lv_aload_n hx hb d_Mo_pass_90 rfl (lv_at hl 3 rfl) ?_
      refine va_get (D := (dC, dI)) (ci := 5) (v := .ref (a 6)) (C := R_Mo) (T := F_Mo) (N := 19) hx hb hts u_Mo hown hK hP 0 rfl rfl 7 (by decide) (hts _ kw_721) (fun _ h9 => h9) rfl d_Mo_pass_91 ?_
      refine lv_iload hx hb d_Mo_pass_94 (lv_at hl 2 rfl) ?_
      refine x_iald (j := i) (v := (nI (g i))) hx hb hK hP 7 0 rfl rfl (by have := hV.mn d; omega) (by decide) rfl rfl d_Mo_pass_96 ?_
      refine x_iast (j := i) (g := (fun z9 => nI (va_up g i (g i) z9))) hx hb hK hP hD hS 7 0 rfl rfl (by have := hV.mn d; omega) (by decide) rfl (up_nI _ _ (g i)) rfl d_Mo_pass_97 (fun H locs hP hD hS => ?_)
      replace hP : va_P (dC, dI) classes [(o, .inr (5, [.int (nI V.tc), .ref (a 0), .ref (a 1), .ref (a 2), .ref (a 3), .ref (a 4), .ref (a 5), .ref (a 6), .ref (a 7), .ref (a 8), .ref (a 9), .ref (a 10), .int (nI V.ne), .ref (a 11), .ref (a 12), .ref (a 13), .ref (a 14), .long V.fo, .int V.fl])), ((a 0), .inl (cI, 2, .inl (fun z9 => nI (V.mn z9)))), ((a 1), .inl (cI, 400, .inl (fun z9 => nI (V.pre z9)))), ((a 2), .inl (cI, 400, .inl (fun z9 => nI (V.len z9)))), ((a 3), .inl (cI, 400, .inl (fun z9 => pI (V.par z9)))), ((a 4), .inl (cI, 400, .inl (fun z9 => nI (V.lev z9)))), ((a 5), .inl (cI, 400, .inl (fun z9 => nI (V.hol z9)))), ((a 6), .inl (cI, 400, .inl (fun z9 => nI (va_up g i (g i) z9)))), ((a 7), .inl (cI, 400, .inl (fun z9 => nI (V.en z9)))), ((a 8), .inl (cI, 2, .inl (fun z9 => nI ((va_up V.tdy d n) z9)))), ((a 9), .inl (cI, 2, .inl (fun z9 => nI (V.dys z9)))), ((a 10), .inl (cI, 8, .inl (fun z9 => nI (V.pol z9)))), ((a 11), .inl (cI, 300, .inl V.kd)), ((a 12), .inl (cI, 300, .inl V.fi)), ((a 13), .inl (cI, 300, .inl V.se)), ((a 14), .inl (cI, 300, .inl V.th))] H := hP
      replace hD : va_D A [(o, .inr (5, [.int (nI V.tc), .ref (a 0), .ref (a 1), .ref (a 2), .ref (a 3), .ref (a 4), .ref (a 5), .ref (a 6), .ref (a 7), .ref (a 8), .ref (a 9), .ref (a 10), .int (nI V.ne), .ref (a 11), .ref (a 12), .ref (a 13), .ref (a 14), .long V.fo, .int V.fl])), ((a 0), .inl (cI, 2, .inl (fun z9 => nI (V.mn z9)))), ((a 1), .inl (cI, 400, .inl (fun z9 => nI (V.pre z9)))), ((a 2), .inl (cI, 400, .inl (fun z9 => nI (V.len z9)))), ((a 3), .inl (cI, 400, .inl (fun z9 => pI (V.par z9)))), ((a 4), .inl (cI, 400, .inl (fun z9 => nI (V.lev z9)))), ((a 5), .inl (cI, 400, .inl (fun z9 => nI (V.hol z9)))), ((a 6), .inl (cI, 400, .inl (fun z9 => nI (va_up g i (g i) z9)))), ((a 7), .inl (cI, 400, .inl (fun z9 => nI (V.en z9)))), ((a 8), .inl (cI, 2, .inl (fun z9 => nI ((va_up V.tdy d n) z9)))), ((a 9), .inl (cI, 2, .inl (fun z9 => nI (V.dys z9)))), ((a 10), .inl (cI, 8, .inl (fun z9 => nI (V.pol z9)))), ((a 11), .inl (cI, 300, .inl V.kd)), ((a 12), .inl (cI, 300, .inl V.fi)), ((a 13), .inl (cI, 300, .inl V.se)), ((a 14), .inl (cI, 300, .inl V.th))] := hD
      refine lv_iinc hx hb d_Mo_pass_98 hl (k := 2) (v := (nI (i + 1))) rfl (nI_1 i) (by decide) rfl (fun ls hl => ?_)
      replace hl : lv_has ls 6 [(4, .int (nI (i + 1))), (3, .int (nI sm)), (5, .int (bi false)), (0, .ref o), (1, .int (nI b)), (2, .int (nI n))] := hl
      refine lv_goto hx hb d_Mo_pass_101 rfl ?_
      replace hP : va_P (dC, dI) classes (wMo cI o a (mkV V.mn V.pre V.len V.lev V.hol (va_up g i (g i)) V.en (va_up V.tdy d n) V.dys V.pol V.par V.kd V.fi V.se V.th V.ne V.tc V.fo V.fl)) H := hP
      replace hD : va_D A (wMo cI o a (mkV V.mn V.pre V.len V.lev V.hol (va_up g i (g i)) V.en (va_up V.tdy d n) V.dys V.pol V.par V.kd V.fi V.se V.th V.ne V.tc V.fo V.fl)) := hD
      refine ih _ _ _ _ _ _ ?_ ?_ ?_ hP hD hS (lv_sub hl [0, 1, 3, 4, 5] rfl)
      · omega
      · exact (by rw [← hres]; simp only [psF]; rw [if_neg (fun q => by omega)])
      · exact up_all (P := (· < 5)) hgb (hgb i)
    have h41 := (k_eq (b := 3) (by have := hgb i; omega) (by decide)).mp h41
    refine lv_aload_n hx hb d_Mo_pass_44 rfl (lv_at hl 2 rfl) ?_
    refine va_get (D := (dC, dI)) (ci := 5) (v := .ref (a 7)) (C := R_Mo) (T := F_Mo) (N := 19) hx hb hts u_Mo hown hK hP 0 rfl rfl 8 (by decide) (hts _ kw_722) (fun _ h9 => h9) rfl d_Mo_pass_45 ?_
    refine lv_iload hx hb d_Mo_pass_48 (lv_at hl 0 rfl) ?_
    refine x_iald (j := i) (v := (nI (V.en i))) hx hb hK hP 8 0 rfl rfl (by have := hV.mn d; omega) (by decide) rfl rfl d_Mo_pass_50 ?_
    refine lv_iload_n hx hb d_Mo_pass_51 rfl (lv_at hl 4 rfl) ?_
    refine lv_icmp_gt hx hb d_Mo_pass_52 rfl (fun h52 => ?_) (fun h52 => ?_)
    · have h52 := (nI_ltI (by omega) (by have := hV.en i; omega)).mp h52
      refine lv_iconst (v := 0) hx hb d_Mo_pass_59 (by decide) ?_
      refine x_topi (y := (bi false)) rfl ?_
      refine lv_istore hx hb d_Mo_pass_60 hl (by decide) rfl (fun ls hl => ?_)
      replace hl : lv_has ls 6 [(5, .int (bi false)), (4, .int (nI i)), (3, .int (nI sm)), (0, .ref o), (1, .int (nI b)), (2, .int (nI n))] := hl
      refine lv_iload_n hx hb d_Mo_pass_62 rfl (lv_at hl 2 rfl) ?_
      refine lv_iload hx hb d_Mo_pass_63 (lv_at hl 0 rfl) ?_
      refine lv_if_eq hx hb d_Mo_pass_65 rfl (fun _ => ?_) (fun h9 => absurd rfl h9)
      refine lv_iconst (v := 0) hx hb d_Mo_pass_72 (by decide) ?_
      refine lv_iadd hx hb d_Mo_pass_73 ?_
      refine x_topi (y := (nI sm)) (nI_add _ 0) ?_
      refine lv_istore_n hx hb d_Mo_pass_74 rfl hl (by decide) rfl (fun ls hl => ?_)
      replace hl : lv_has ls 6 [(3, .int (nI sm)), (5, .int (bi false)), (4, .int (nI i)), (0, .ref o), (1, .int (nI b)), (2, .int (nI n))] := hl
      refine lv_aload_n hx hb d_Mo_pass_75 rfl (lv_at hl 3 rfl) ?_
      refine va_get (D := (dC, dI)) (ci := 5) (v := .ref (a 6)) (C := R_Mo) (T := F_Mo) (N := 19) hx hb hts u_Mo hown hK hP 0 rfl rfl 7 (by decide) (hts _ kw_721) (fun _ h9 => h9) rfl d_Mo_pass_76 ?_
      refine lv_iload hx hb d_Mo_pass_79 (lv_at hl 2 rfl) ?_
      refine lv_iload hx hb d_Mo_pass_81 (lv_at hl 1 rfl) ?_
      refine lv_if_eq hx hb d_Mo_pass_83 rfl (fun _ => ?_) (fun h9 => absurd rfl h9)
      refine lv_aload_n hx hb d_Mo_pass_90 rfl (lv_at hl 3 rfl) ?_
      refine va_get (D := (dC, dI)) (ci := 5) (v := .ref (a 6)) (C := R_Mo) (T := F_Mo) (N := 19) hx hb hts u_Mo hown hK hP 0 rfl rfl 7 (by decide) (hts _ kw_721) (fun _ h9 => h9) rfl d_Mo_pass_91 ?_
      refine lv_iload hx hb d_Mo_pass_94 (lv_at hl 2 rfl) ?_
      refine x_iald (j := i) (v := (nI (g i))) hx hb hK hP 7 0 rfl rfl (by have := hV.mn d; omega) (by decide) rfl rfl d_Mo_pass_96 ?_
      refine x_iast (j := i) (g := (fun z9 => nI (va_up g i (g i) z9))) hx hb hK hP hD hS 7 0 rfl rfl (by have := hV.mn d; omega) (by decide) rfl (up_nI _ _ (g i)) rfl d_Mo_pass_97 (fun H locs hP hD hS => ?_)
      replace hP : va_P (dC, dI) classes [(o, .inr (5, [.int (nI V.tc), .ref (a 0), .ref (a 1), .ref (a 2), .ref (a 3), .ref (a 4), .ref (a 5), .ref (a 6), .ref (a 7), .ref (a 8), .ref (a 9), .ref (a 10), .int (nI V.ne), .ref (a 11), .ref (a 12), .ref (a 13), .ref (a 14), .long V.fo, .int V.fl])), ((a 0), .inl (cI, 2, .inl (fun z9 => nI (V.mn z9)))), ((a 1), .inl (cI, 400, .inl (fun z9 => nI (V.pre z9)))), ((a 2), .inl (cI, 400, .inl (fun z9 => nI (V.len z9)))), ((a 3), .inl (cI, 400, .inl (fun z9 => pI (V.par z9)))), ((a 4), .inl (cI, 400, .inl (fun z9 => nI (V.lev z9)))), ((a 5), .inl (cI, 400, .inl (fun z9 => nI (V.hol z9)))), ((a 6), .inl (cI, 400, .inl (fun z9 => nI (va_up g i (g i) z9)))), ((a 7), .inl (cI, 400, .inl (fun z9 => nI (V.en z9)))), ((a 8), .inl (cI, 2, .inl (fun z9 => nI ((va_up V.tdy d n) z9)))), ((a 9), .inl (cI, 2, .inl (fun z9 => nI (V.dys z9)))), ((a 10), .inl (cI, 8, .inl (fun z9 => nI (V.pol z9)))), ((a 11), .inl (cI, 300, .inl V.kd)), ((a 12), .inl (cI, 300, .inl V.fi)), ((a 13), .inl (cI, 300, .inl V.se)), ((a 14), .inl (cI, 300, .inl V.th))] H := hP
      replace hD : va_D A [(o, .inr (5, [.int (nI V.tc), .ref (a 0), .ref (a 1), .ref (a 2), .ref (a 3), .ref (a 4), .ref (a 5), .ref (a 6), .ref (a 7), .ref (a 8), .ref (a 9), .ref (a 10), .int (nI V.ne), .ref (a 11), .ref (a 12), .ref (a 13), .ref (a 14), .long V.fo, .int V.fl])), ((a 0), .inl (cI, 2, .inl (fun z9 => nI (V.mn z9)))), ((a 1), .inl (cI, 400, .inl (fun z9 => nI (V.pre z9)))), ((a 2), .inl (cI, 400, .inl (fun z9 => nI (V.len z9)))), ((a 3), .inl (cI, 400, .inl (fun z9 => pI (V.par z9)))), ((a 4), .inl (cI, 400, .inl (fun z9 => nI (V.lev z9)))), ((a 5), .inl (cI, 400, .inl (fun z9 => nI (V.hol z9)))), ((a 6), .inl (cI, 400, .inl (fun z9 => nI (va_up g i (g i) z9)))), ((a 7), .inl (cI, 400, .inl (fun z9 => nI (V.en z9)))), ((a 8), .inl (cI, 2, .inl (fun z9 => nI ((va_up V.tdy d n) z9)))), ((a 9), .inl (cI, 2, .inl (fun z9 => nI (V.dys z9)))), ((a 10), .inl (cI, 8, .inl (fun z9 => nI (V.pol z9)))), ((a 11), .inl (cI, 300, .inl V.kd)), ((a 12), .inl (cI, 300, .inl V.fi)), ((a 13), .inl (cI, 300, .inl V.se)), ((a 14), .inl (cI, 300, .inl V.th))] := hD
      refine lv_iinc hx hb d_Mo_pass_98 hl (k := 2) (v := (nI (i + 1))) rfl (nI_1 i) (by decide) rfl (fun ls hl => ?_)
      replace hl : lv_has ls 6 [(4, .int (nI (i + 1))), (3, .int (nI sm)), (5, .int (bi false)), (0, .ref o), (1, .int (nI b)), (2, .int (nI n))] := hl
      refine lv_goto hx hb d_Mo_pass_101 rfl ?_
      replace hP : va_P (dC, dI) classes (wMo cI o a (mkV V.mn V.pre V.len V.lev V.hol (va_up g i (g i)) V.en (va_up V.tdy d n) V.dys V.pol V.par V.kd V.fi V.se V.th V.ne V.tc V.fo V.fl)) H := hP
      replace hD : va_D A (wMo cI o a (mkV V.mn V.pre V.len V.lev V.hol (va_up g i (g i)) V.en (va_up V.tdy d n) V.dys V.pol V.par V.kd V.fi V.se V.th V.ne V.tc V.fo V.fl)) := hD
      refine ih _ _ _ _ _ _ ?_ ?_ ?_ hP hD hS (lv_sub hl [0, 1, 3, 4, 5] rfl)
      · omega
      · exact (by rw [← hres]; simp only [psF]; rw [if_neg (fun q => by omega)])
      · exact up_all (P := (· < 5)) hgb (hgb i)
    have h52 := Nat.not_lt.mp (mt (nI_ltI (by omega) (by have := hV.en i; omega)).mpr h52)
    refine lv_iconst (v := 1) hx hb d_Mo_pass_55 (by decide) ?_
    refine x_topi (y := (bi true)) rfl ?_
    refine lv_goto hx hb d_Mo_pass_56 rfl ?_
    refine lv_istore hx hb d_Mo_pass_60 hl (by decide) rfl (fun ls hl => ?_)
    replace hl : lv_has ls 6 [(5, .int (bi true)), (4, .int (nI i)), (3, .int (nI sm)), (0, .ref o), (1, .int (nI b)), (2, .int (nI n))] := hl
    refine lv_iload_n hx hb d_Mo_pass_62 rfl (lv_at hl 2 rfl) ?_
    refine lv_iload hx hb d_Mo_pass_63 (lv_at hl 0 rfl) ?_
    refine lv_if_eq hx hb d_Mo_pass_65 rfl (fun h9 => absurd h9 (by decide)) (fun _ => ?_)
    refine lv_iconst (v := 1) hx hb d_Mo_pass_68 (by decide) ?_
    refine lv_goto hx hb d_Mo_pass_69 rfl ?_
    refine lv_iadd hx hb d_Mo_pass_73 ?_
    refine x_topi (y := (nI (sm + 1))) (nI_1 _) ?_
    refine lv_istore_n hx hb d_Mo_pass_74 rfl hl (by decide) rfl (fun ls hl => ?_)
    replace hl : lv_has ls 6 [(3, .int (nI (sm + 1))), (5, .int (bi true)), (4, .int (nI i)), (0, .ref o), (1, .int (nI b)), (2, .int (nI n))] := hl
    refine lv_aload_n hx hb d_Mo_pass_75 rfl (lv_at hl 3 rfl) ?_
    refine va_get (D := (dC, dI)) (ci := 5) (v := .ref (a 6)) (C := R_Mo) (T := F_Mo) (N := 19) hx hb hts u_Mo hown hK hP 0 rfl rfl 7 (by decide) (hts _ kw_721) (fun _ h9 => h9) rfl d_Mo_pass_76 ?_
    refine lv_iload hx hb d_Mo_pass_79 (lv_at hl 2 rfl) ?_
    refine lv_iload hx hb d_Mo_pass_81 (lv_at hl 1 rfl) ?_
    refine lv_if_eq hx hb d_Mo_pass_83 rfl (fun h9 => absurd h9 (by decide)) (fun _ => ?_)
    refine lv_iconst (v := 4) hx hb d_Mo_pass_86 (by decide) ?_
    refine lv_goto hx hb d_Mo_pass_87 rfl ?_
    refine x_iast (j := i) (g := (fun z9 => nI (va_up g i 4 z9))) hx hb hK hP hD hS 7 0 rfl rfl (by have := hV.mn d; omega) (by decide) rfl (up_nI _ _ 4) rfl d_Mo_pass_97 (fun H locs hP hD hS => ?_)
    replace hP : va_P (dC, dI) classes [(o, .inr (5, [.int (nI V.tc), .ref (a 0), .ref (a 1), .ref (a 2), .ref (a 3), .ref (a 4), .ref (a 5), .ref (a 6), .ref (a 7), .ref (a 8), .ref (a 9), .ref (a 10), .int (nI V.ne), .ref (a 11), .ref (a 12), .ref (a 13), .ref (a 14), .long V.fo, .int V.fl])), ((a 0), .inl (cI, 2, .inl (fun z9 => nI (V.mn z9)))), ((a 1), .inl (cI, 400, .inl (fun z9 => nI (V.pre z9)))), ((a 2), .inl (cI, 400, .inl (fun z9 => nI (V.len z9)))), ((a 3), .inl (cI, 400, .inl (fun z9 => pI (V.par z9)))), ((a 4), .inl (cI, 400, .inl (fun z9 => nI (V.lev z9)))), ((a 5), .inl (cI, 400, .inl (fun z9 => nI (V.hol z9)))), ((a 6), .inl (cI, 400, .inl (fun z9 => nI (va_up g i 4 z9)))), ((a 7), .inl (cI, 400, .inl (fun z9 => nI (V.en z9)))), ((a 8), .inl (cI, 2, .inl (fun z9 => nI ((va_up V.tdy d n) z9)))), ((a 9), .inl (cI, 2, .inl (fun z9 => nI (V.dys z9)))), ((a 10), .inl (cI, 8, .inl (fun z9 => nI (V.pol z9)))), ((a 11), .inl (cI, 300, .inl V.kd)), ((a 12), .inl (cI, 300, .inl V.fi)), ((a 13), .inl (cI, 300, .inl V.se)), ((a 14), .inl (cI, 300, .inl V.th))] H := hP
    replace hD : va_D A [(o, .inr (5, [.int (nI V.tc), .ref (a 0), .ref (a 1), .ref (a 2), .ref (a 3), .ref (a 4), .ref (a 5), .ref (a 6), .ref (a 7), .ref (a 8), .ref (a 9), .ref (a 10), .int (nI V.ne), .ref (a 11), .ref (a 12), .ref (a 13), .ref (a 14), .long V.fo, .int V.fl])), ((a 0), .inl (cI, 2, .inl (fun z9 => nI (V.mn z9)))), ((a 1), .inl (cI, 400, .inl (fun z9 => nI (V.pre z9)))), ((a 2), .inl (cI, 400, .inl (fun z9 => nI (V.len z9)))), ((a 3), .inl (cI, 400, .inl (fun z9 => pI (V.par z9)))), ((a 4), .inl (cI, 400, .inl (fun z9 => nI (V.lev z9)))), ((a 5), .inl (cI, 400, .inl (fun z9 => nI (V.hol z9)))), ((a 6), .inl (cI, 400, .inl (fun z9 => nI (va_up g i 4 z9)))), ((a 7), .inl (cI, 400, .inl (fun z9 => nI (V.en z9)))), ((a 8), .inl (cI, 2, .inl (fun z9 => nI ((va_up V.tdy d n) z9)))), ((a 9), .inl (cI, 2, .inl (fun z9 => nI (V.dys z9)))), ((a 10), .inl (cI, 8, .inl (fun z9 => nI (V.pol z9)))), ((a 11), .inl (cI, 300, .inl V.kd)), ((a 12), .inl (cI, 300, .inl V.fi)), ((a 13), .inl (cI, 300, .inl V.se)), ((a 14), .inl (cI, 300, .inl V.th))] := hD
    refine lv_iinc hx hb d_Mo_pass_98 hl (k := 2) (v := (nI (i + 1))) rfl (nI_1 i) (by decide) rfl (fun ls hl => ?_)
    replace hl : lv_has ls 6 [(4, .int (nI (i + 1))), (3, .int (nI (sm + 1))), (5, .int (bi true)), (0, .ref o), (1, .int (nI b)), (2, .int (nI n))] := hl
    refine lv_goto hx hb d_Mo_pass_101 rfl ?_
    replace hP : va_P (dC, dI) classes (wMo cI o a (mkV V.mn V.pre V.len V.lev V.hol (va_up g i 4) V.en (va_up V.tdy d n) V.dys V.pol V.par V.kd V.fi V.se V.th V.ne V.tc V.fo V.fl)) H := hP
    replace hD : va_D A (wMo cI o a (mkV V.mn V.pre V.len V.lev V.hol (va_up g i 4) V.en (va_up V.tdy d n) V.dys V.pol V.par V.kd V.fi V.se V.th V.ne V.tc V.fo V.fl)) := hD
    refine ih _ _ _ _ _ _ ?_ ?_ ?_ hP hD hS (lv_sub hl [0, 1, 3, 4, 5] rfl)
    · omega
    · exact (by rw [← hres]; simp only [psF]; rw [if_pos ⟨h41, h52⟩])
    · exact up_all (P := (· < 5)) hgb (by decide)
set_option maxHeartbeats 4000000 in
set_option maxRecDepth 100000 in
theorem c_Mo_day (l : Launch) (dC : Nat → ClassId) (dI : Nat → Nat → Nat) (sz : Nat) (cI : ClassId) (o : Nat) (a : Nat → Nat) (V : MS) (hV : MSok V) (n : Nat) (hn0 : n < 4294967296) : Met l y_Mo_day (.code y_Mo_day b_Mo_day 2 (some .int) :: wG) ({ frames := 1, cells := 0, slots := 0, locals := 25 }) (PcM (dC, dI) [(cI, .int)] (wMo cI o a V) [.ref o, .int (nI n)] sz) (QmI (dC, dI) [(cI, .int)] (wMo cI o a V) (wMo cI o a (moDay V n)) sz (nI (moDayR V n))) 0 0 (va_A (wMo cI o a V) sz) := by
  refine Met.ofW (cc := b_Mo_day) (maxL := 2) (ret := (some .int)) (by decide) rfl ?_
  intro pg eg s mg ag bg meth cg s₁ B hml hv
  obtain ⟨rfl, hsz, hP, hK, hD0, hN⟩ := hv
  have hx := B.exec
  have hb := B.bytes
  have hr := B.returns
  have hlocks := B.notSynchronized
  have hts : ∀ w9 ∈ wG, w9.before ([.ref o, .int (nI n)] : List Value).toArray s = true := fun w9 h9 => atoms_spec (ws := (.code y_Mo_day b_Mo_day 2 (some .int) :: wG)) B.pre w9 (List.mem_cons_of_mem _ h9)
  have hown : s.vm.findClass "PrefixRegistryModel" = some mg.cls := findClass_of_methodNamed B.named
  subst hsz
  have hD := hD0.self (sz := s.heap.size)
  unfold QmI
  generalize hAe : va_A (wMo cI o a V) s.heap.size = A at hD ⊢
  have hA : ∀ q : Nat, s.heap.size ≤ q → A q := fun q h => by rw [← hAe]; exact Or.inr h
  have hS : va_S A s.heap s.heap [] := va_S.rf
  have hl := lv_entry ([.ref o, .int (nI n)]) (n := 2) (Nat.le_of_ble_eq_true rfl)
  rw [lg_entry_eq]
  generalize (lg_sl ([.ref o, .int (nI n)]) ++ List.replicate (2 - (lg_sl ([.ref o, .int (nI n)])).length) Slot.unset).toArray = ls at hl ⊢
  replace hl : lv_has ls 2 [(0, .ref o), (1, .int (nI n))] := hl
  replace hP : va_P (dC, dI) classes (wMo cI o a V) s.heap := hP
  replace hD : va_D A (wMo cI o a V) := hD
  refine lv_aload_n hx hb d_Mo_day_0 rfl (lv_at hl 0 rfl) ?_
  refine lv_iload_n hx hb d_Mo_day_1 rfl (lv_at hl 1 rfl) ?_
  refine lv_aload_n hx hb d_Mo_day_2 rfl (lv_at hl 0 rfl) ?_
  refine va_get (D := (dC, dI)) (ci := 5) (v := .ref (a 8)) (C := R_Mo) (T := F_Mo) (N := 19) hx hb hts u_Mo hown hK hP 0 rfl rfl 9 (by decide) (hts _ kw_723) (fun _ h9 => h9) rfl d_Mo_day_3 ?_
  refine lv_iconst (v := 0) hx hb d_Mo_day_6 (by decide) ?_
  refine x_iald (j := 0) (v := (nI (V.tdy 0))) hx hb hK hP 9 0 rfl rfl (by decide) (by decide) rfl rfl d_Mo_day_7 ?_
  refine lv_ldc hx hb hown (hts _ kw_946) d_Mo_day_8 ?_
  refine vp_callSi (W.runS (As := [.int (nI n), .int (nI (V.tdy 0)), .int 100000]) (rest := [.ref o]) ⟨hx, hb, hml, hown, hts⟩ (c_Mo_in l dC dI (nI n) (nI (V.tdy 0)) 100000) (cwS 3 hts (gS kw_784 kw_785 kw_6 kw_786) rfl rfl rfl (by decide +kernel) ⟨Nat.le_of_ble_eq_true rfl, Nat.le_of_ble_eq_true rfl⟩) ⟨PcS.blind, PcS.use hP hK hN⟩ rfl rfl hl.1 rfl (lv_room (Nat.le_of_ble_eq_true rfl)) d_Mo_day_10 ⟨Nat.zero_le _, Nat.zero_le _⟩) (fun r10 hr10 => ?_)
  obtain rfl : r10 = bi (decide ((nI (V.tdy 0)) ≤ nI n ∧ nI n ≤ 100000)) := hr10
  refine lv_if_ne hx hb d_Mo_day_13 rfl (fun h13 => ?_) (fun h13 => ?_)
  · have h13 := (in_day hV hn0).mp (Decidable.not_not.mp (mt bi_d.mpr h13))
    refine lv_aload_n hx hb d_Mo_day_20 rfl (lv_at hl 0 rfl) ?_
    refine vp_callSi (W.runV (b := o) (As := []) (rest := [.ref o]) ⟨hx, hb, hml, hown, hts⟩ (c_Mo_isFullLog l dC dI cI o a V hV ) (cwV 0 hts (gV kw_797 kw_799 ks_24 kw_6 kw_800) rfl rfl rfl (by decide +kernel) ⟨Nat.le_of_ble_eq_true rfl, Nat.le_of_ble_eq_true rfl⟩) ⟨PcS.blind, va_recv (q0 := 0) hK hP rfl rfl, PcS.use hP hK hN⟩ rfl rfl hl.1 rfl (lv_room (Nat.le_of_ble_eq_true rfl)) d_Mo_day_21 ⟨Nat.zero_le _, Nat.zero_le _⟩) (fun r21 hr21 => ?_)
    obtain rfl : r21 = bi (decide (V.ne = 300)) := hr21
    refine lv_if_eq hx hb d_Mo_day_24 rfl (fun h24 => ?_) (fun h24 => ?_)
    · have h24 := bi_d.mp h24
      refine lv_iconst (v := 0) hx hb d_Mo_day_31 (by decide) ?_
      refine va_put (D := (dC, dI)) (ci := 5) (v := .int 0) (ty := .int) (C := R_Mo) (T := F_Mo) (N := 19) hx hb hts u_Mo t_Mo t_Mo_ok n_Mo hown hK hP hD hS 0 rfl rfl 0 (by decide) (hts _ kw_714) (fun _ h9 => h9) rfl (by decide +kernel) rfl rfl (Nat.le_of_ble_eq_true rfl) d_Mo_day_32 (fun H locs hP hD hS => ?_)
      replace hP : va_P (dC, dI) classes [(o, .inr (5, [.int 0, .ref (a 0), .ref (a 1), .ref (a 2), .ref (a 3), .ref (a 4), .ref (a 5), .ref (a 6), .ref (a 7), .ref (a 8), .ref (a 9), .ref (a 10), .int (nI V.ne), .ref (a 11), .ref (a 12), .ref (a 13), .ref (a 14), .long V.fo, .int V.fl])), ((a 0), .inl (cI, 2, .inl (fun z9 => nI (V.mn z9)))), ((a 1), .inl (cI, 400, .inl (fun z9 => nI (V.pre z9)))), ((a 2), .inl (cI, 400, .inl (fun z9 => nI (V.len z9)))), ((a 3), .inl (cI, 400, .inl (fun z9 => pI (V.par z9)))), ((a 4), .inl (cI, 400, .inl (fun z9 => nI (V.lev z9)))), ((a 5), .inl (cI, 400, .inl (fun z9 => nI (V.hol z9)))), ((a 6), .inl (cI, 400, .inl (fun z9 => nI (V.sta z9)))), ((a 7), .inl (cI, 400, .inl (fun z9 => nI (V.en z9)))), ((a 8), .inl (cI, 2, .inl (fun z9 => nI (V.tdy z9)))), ((a 9), .inl (cI, 2, .inl (fun z9 => nI (V.dys z9)))), ((a 10), .inl (cI, 8, .inl (fun z9 => nI (V.pol z9)))), ((a 11), .inl (cI, 300, .inl V.kd)), ((a 12), .inl (cI, 300, .inl V.fi)), ((a 13), .inl (cI, 300, .inl V.se)), ((a 14), .inl (cI, 300, .inl V.th))] H := hP
      replace hD : va_D A [(o, .inr (5, [.int 0, .ref (a 0), .ref (a 1), .ref (a 2), .ref (a 3), .ref (a 4), .ref (a 5), .ref (a 6), .ref (a 7), .ref (a 8), .ref (a 9), .ref (a 10), .int (nI V.ne), .ref (a 11), .ref (a 12), .ref (a 13), .ref (a 14), .long V.fo, .int V.fl])), ((a 0), .inl (cI, 2, .inl (fun z9 => nI (V.mn z9)))), ((a 1), .inl (cI, 400, .inl (fun z9 => nI (V.pre z9)))), ((a 2), .inl (cI, 400, .inl (fun z9 => nI (V.len z9)))), ((a 3), .inl (cI, 400, .inl (fun z9 => pI (V.par z9)))), ((a 4), .inl (cI, 400, .inl (fun z9 => nI (V.lev z9)))), ((a 5), .inl (cI, 400, .inl (fun z9 => nI (V.hol z9)))), ((a 6), .inl (cI, 400, .inl (fun z9 => nI (V.sta z9)))), ((a 7), .inl (cI, 400, .inl (fun z9 => nI (V.en z9)))), ((a 8), .inl (cI, 2, .inl (fun z9 => nI (V.tdy z9)))), ((a 9), .inl (cI, 2, .inl (fun z9 => nI (V.dys z9)))), ((a 10), .inl (cI, 8, .inl (fun z9 => nI (V.pol z9)))), ((a 11), .inl (cI, 300, .inl V.kd)), ((a 12), .inl (cI, 300, .inl V.fi)), ((a 13), .inl (cI, 300, .inl V.se)), ((a 14), .inl (cI, 300, .inl V.th))] := hD
      refine lv_aload_n hx hb d_Mo_day_35 rfl (lv_at hl 0 rfl) ?_
      refine va_get (D := (dC, dI)) (ci := 5) (v := .int 0) (C := R_Mo) (T := F_Mo) (N := 19) hx hb hts u_Mo hown hK hP 0 rfl rfl 0 (by decide) (hts _ kw_714) (fun _ h9 => h9) rfl d_Mo_day_36 ?_
      refine lv_if_le hx hb d_Mo_day_39 rfl (fun _ => ?_) (fun h9 => absurd (by decide) h9)
      refine lv_aload_n hx hb d_Mo_day_44 rfl (lv_at hl 0 rfl) ?_
      refine lv_bipush (v := 10) hx hb d_Mo_day_45 (by decide) ?_
      refine lv_iload_n hx hb d_Mo_day_47 rfl (lv_at hl 1 rfl) ?_
      refine lv_iconst (v := 0) hx hb d_Mo_day_48 (by decide) ?_
      refine lv_iconst (v := 0) hx hb d_Mo_day_49 (by decide) ?_
      have hPc := hP.sub (ws' := (wMo cI o a (mkV V.mn V.pre V.len V.lev V.hol V.sta V.en V.tdy V.dys V.pol V.par V.kd V.fi V.se V.th V.ne 0 V.fo V.fl))) [0, 1, 2, 3, 4, 5, 6, 7, 8, 9, 10, 11, 12, 13, 14, 15] rfl
      have hDc := hD.sub (ws' := (wMo cI o a (mkV V.mn V.pre V.len V.lev V.hol V.sta V.en V.tdy V.dys V.pol V.par V.kd V.fi V.se V.th V.ne 0 V.fo V.fl))) [0, 1, 2, 3, 4, 5, 6, 7, 8, 9, 10, 11, 12, 13, 14, 15] (by decide) rfl
      have hFc := va_free (wc := (wMo cI o a (mkV V.mn V.pre V.len V.lev V.hol V.sta V.en V.tdy V.dys V.pol V.par V.kd V.fi V.se V.th V.ne 0 V.fo V.fl))) hD hS hA [0, 1, 2, 3, 4, 5, 6, 7, 8, 9, 10, 11, 12, 13, 14, 15] rfl
      refine va_callv (va_runV (b := o) (As := [.int 10, .int (nI n), .int 0, .int 0]) (rest := []) ⟨hx, hb, hml, hown, hts⟩ (c_Mo_note l dC dI H.size cI o a (mkV V.mn V.pre V.len V.lev V.hol V.sta V.en V.tdy V.dys V.pol V.par V.kd V.fi V.se V.th V.ne 0 V.fo V.fl) (show V.ne < 300 by have := hV.ne; omega) 10 (nI n) 0 0) (cwV 4 hts (gV kw_801 kw_803 ks_25 kw_6 kw_804) rfl rfl rfl (by decide +kernel) ⟨Nat.le_of_ble_eq_true rfl, Nat.le_of_ble_eq_true rfl⟩) ⟨PcM.blind, va_recv (q0 := 0) hK hPc rfl rfl, PcM.use hPc hK hN hDc⟩ rfl rfl hl.1 rfl (lv_room (Nat.le_of_ble_eq_true rfl)) d_Mo_day_50 ⟨Nat.le_of_ble_eq_true rfl, Nat.le_of_ble_eq_true rfl⟩) hS (fun q _ h => hFc q h) hFc (fun u9 H9 H1 locs hH9 hv9 hp9 hB hz1 hk1 hS => ?_)
      obtain ⟨hP1, hK1, hD1⟩ := hB
      rw [hH9] at hP1
      obtain ⟨hP, hD⟩ := va_join (wr := []) (w1 := (wMo cI o a (vNote (mkV V.mn V.pre V.len V.lev V.hol V.sta V.en V.tdy V.dys V.pol V.par V.kd V.fi V.se V.th V.ne 0 V.fo V.fl) 10 (nI n) 0 0))) hP hD [0, 1, 2, 3, 4, 5, 6, 7, 8, 9, 10, 11, 12, 13, 14, 15] [] rfl rfl (by decide) (by decide) hk1 hFc hP1 hD1
      clear hPc hDc hFc hP1 hD1 hK1 hk1 hz1 hv9 hH9
      generalize H1 = H at hP hS ⊢
      replace hP : va_P (dC, dI) classes [(o, .inr (5, [.int (nI (vNote (mkV V.mn V.pre V.len V.lev V.hol V.sta V.en V.tdy V.dys V.pol V.par V.kd V.fi V.se V.th V.ne 0 V.fo V.fl) 10 (nI n) 0 0).tc), .ref (a 0), .ref (a 1), .ref (a 2), .ref (a 3), .ref (a 4), .ref (a 5), .ref (a 6), .ref (a 7), .ref (a 8), .ref (a 9), .ref (a 10), .int (nI (vNote (mkV V.mn V.pre V.len V.lev V.hol V.sta V.en V.tdy V.dys V.pol V.par V.kd V.fi V.se V.th V.ne 0 V.fo V.fl) 10 (nI n) 0 0).ne), .ref (a 11), .ref (a 12), .ref (a 13), .ref (a 14), .long ((vNote (mkV V.mn V.pre V.len V.lev V.hol V.sta V.en V.tdy V.dys V.pol V.par V.kd V.fi V.se V.th V.ne 0 V.fo V.fl) 10 (nI n) 0 0).fo), .int ((vNote (mkV V.mn V.pre V.len V.lev V.hol V.sta V.en V.tdy V.dys V.pol V.par V.kd V.fi V.se V.th V.ne 0 V.fo V.fl) 10 (nI n) 0 0).fl)])), ((a 0), .inl (cI, 2, .inl (fun z9 => nI ((vNote (mkV V.mn V.pre V.len V.lev V.hol V.sta V.en V.tdy V.dys V.pol V.par V.kd V.fi V.se V.th V.ne 0 V.fo V.fl) 10 (nI n) 0 0).mn z9)))), ((a 1), .inl (cI, 400, .inl (fun z9 => nI ((vNote (mkV V.mn V.pre V.len V.lev V.hol V.sta V.en V.tdy V.dys V.pol V.par V.kd V.fi V.se V.th V.ne 0 V.fo V.fl) 10 (nI n) 0 0).pre z9)))), ((a 2), .inl (cI, 400, .inl (fun z9 => nI ((vNote (mkV V.mn V.pre V.len V.lev V.hol V.sta V.en V.tdy V.dys V.pol V.par V.kd V.fi V.se V.th V.ne 0 V.fo V.fl) 10 (nI n) 0 0).len z9)))), ((a 3), .inl (cI, 400, .inl (fun z9 => pI ((vNote (mkV V.mn V.pre V.len V.lev V.hol V.sta V.en V.tdy V.dys V.pol V.par V.kd V.fi V.se V.th V.ne 0 V.fo V.fl) 10 (nI n) 0 0).par z9)))), ((a 4), .inl (cI, 400, .inl (fun z9 => nI ((vNote (mkV V.mn V.pre V.len V.lev V.hol V.sta V.en V.tdy V.dys V.pol V.par V.kd V.fi V.se V.th V.ne 0 V.fo V.fl) 10 (nI n) 0 0).lev z9)))), ((a 5), .inl (cI, 400, .inl (fun z9 => nI ((vNote (mkV V.mn V.pre V.len V.lev V.hol V.sta V.en V.tdy V.dys V.pol V.par V.kd V.fi V.se V.th V.ne 0 V.fo V.fl) 10 (nI n) 0 0).hol z9)))), ((a 6), .inl (cI, 400, .inl (fun z9 => nI ((vNote (mkV V.mn V.pre V.len V.lev V.hol V.sta V.en V.tdy V.dys V.pol V.par V.kd V.fi V.se V.th V.ne 0 V.fo V.fl) 10 (nI n) 0 0).sta z9)))), ((a 7), .inl (cI, 400, .inl (fun z9 => nI ((vNote (mkV V.mn V.pre V.len V.lev V.hol V.sta V.en V.tdy V.dys V.pol V.par V.kd V.fi V.se V.th V.ne 0 V.fo V.fl) 10 (nI n) 0 0).en z9)))), ((a 8), .inl (cI, 2, .inl (fun z9 => nI ((vNote (mkV V.mn V.pre V.len V.lev V.hol V.sta V.en V.tdy V.dys V.pol V.par V.kd V.fi V.se V.th V.ne 0 V.fo V.fl) 10 (nI n) 0 0).tdy z9)))), ((a 9), .inl (cI, 2, .inl (fun z9 => nI ((vNote (mkV V.mn V.pre V.len V.lev V.hol V.sta V.en V.tdy V.dys V.pol V.par V.kd V.fi V.se V.th V.ne 0 V.fo V.fl) 10 (nI n) 0 0).dys z9)))), ((a 10), .inl (cI, 8, .inl (fun z9 => nI ((vNote (mkV V.mn V.pre V.len V.lev V.hol V.sta V.en V.tdy V.dys V.pol V.par V.kd V.fi V.se V.th V.ne 0 V.fo V.fl) 10 (nI n) 0 0).pol z9)))), ((a 11), .inl (cI, 300, .inl ((vNote (mkV V.mn V.pre V.len V.lev V.hol V.sta V.en V.tdy V.dys V.pol V.par V.kd V.fi V.se V.th V.ne 0 V.fo V.fl) 10 (nI n) 0 0).kd))), ((a 12), .inl (cI, 300, .inl ((vNote (mkV V.mn V.pre V.len V.lev V.hol V.sta V.en V.tdy V.dys V.pol V.par V.kd V.fi V.se V.th V.ne 0 V.fo V.fl) 10 (nI n) 0 0).fi))), ((a 13), .inl (cI, 300, .inl ((vNote (mkV V.mn V.pre V.len V.lev V.hol V.sta V.en V.tdy V.dys V.pol V.par V.kd V.fi V.se V.th V.ne 0 V.fo V.fl) 10 (nI n) 0 0).se))), ((a 14), .inl (cI, 300, .inl ((vNote (mkV V.mn V.pre V.len V.lev V.hol V.sta V.en V.tdy V.dys V.pol V.par V.kd V.fi V.se V.th V.ne 0 V.fo V.fl) 10 (nI n) 0 0).th)))] H := hP.sub (ws' := [(o, .inr (5, [.int (nI (vNote (mkV V.mn V.pre V.len V.lev V.hol V.sta V.en V.tdy V.dys V.pol V.par V.kd V.fi V.se V.th V.ne 0 V.fo V.fl) 10 (nI n) 0 0).tc), .ref (a 0), .ref (a 1), .ref (a 2), .ref (a 3), .ref (a 4), .ref (a 5), .ref (a 6), .ref (a 7), .ref (a 8), .ref (a 9), .ref (a 10), .int (nI (vNote (mkV V.mn V.pre V.len V.lev V.hol V.sta V.en V.tdy V.dys V.pol V.par V.kd V.fi V.se V.th V.ne 0 V.fo V.fl) 10 (nI n) 0 0).ne), .ref (a 11), .ref (a 12), .ref (a 13), .ref (a 14), .long ((vNote (mkV V.mn V.pre V.len V.lev V.hol V.sta V.en V.tdy V.dys V.pol V.par V.kd V.fi V.se V.th V.ne 0 V.fo V.fl) 10 (nI n) 0 0).fo), .int ((vNote (mkV V.mn V.pre V.len V.lev V.hol V.sta V.en V.tdy V.dys V.pol V.par V.kd V.fi V.se V.th V.ne 0 V.fo V.fl) 10 (nI n) 0 0).fl)])), ((a 0), .inl (cI, 2, .inl (fun z9 => nI ((vNote (mkV V.mn V.pre V.len V.lev V.hol V.sta V.en V.tdy V.dys V.pol V.par V.kd V.fi V.se V.th V.ne 0 V.fo V.fl) 10 (nI n) 0 0).mn z9)))), ((a 1), .inl (cI, 400, .inl (fun z9 => nI ((vNote (mkV V.mn V.pre V.len V.lev V.hol V.sta V.en V.tdy V.dys V.pol V.par V.kd V.fi V.se V.th V.ne 0 V.fo V.fl) 10 (nI n) 0 0).pre z9)))), ((a 2), .inl (cI, 400, .inl (fun z9 => nI ((vNote (mkV V.mn V.pre V.len V.lev V.hol V.sta V.en V.tdy V.dys V.pol V.par V.kd V.fi V.se V.th V.ne 0 V.fo V.fl) 10 (nI n) 0 0).len z9)))), ((a 3), .inl (cI, 400, .inl (fun z9 => pI ((vNote (mkV V.mn V.pre V.len V.lev V.hol V.sta V.en V.tdy V.dys V.pol V.par V.kd V.fi V.se V.th V.ne 0 V.fo V.fl) 10 (nI n) 0 0).par z9)))), ((a 4), .inl (cI, 400, .inl (fun z9 => nI ((vNote (mkV V.mn V.pre V.len V.lev V.hol V.sta V.en V.tdy V.dys V.pol V.par V.kd V.fi V.se V.th V.ne 0 V.fo V.fl) 10 (nI n) 0 0).lev z9)))), ((a 5), .inl (cI, 400, .inl (fun z9 => nI ((vNote (mkV V.mn V.pre V.len V.lev V.hol V.sta V.en V.tdy V.dys V.pol V.par V.kd V.fi V.se V.th V.ne 0 V.fo V.fl) 10 (nI n) 0 0).hol z9)))), ((a 6), .inl (cI, 400, .inl (fun z9 => nI ((vNote (mkV V.mn V.pre V.len V.lev V.hol V.sta V.en V.tdy V.dys V.pol V.par V.kd V.fi V.se V.th V.ne 0 V.fo V.fl) 10 (nI n) 0 0).sta z9)))), ((a 7), .inl (cI, 400, .inl (fun z9 => nI ((vNote (mkV V.mn V.pre V.len V.lev V.hol V.sta V.en V.tdy V.dys V.pol V.par V.kd V.fi V.se V.th V.ne 0 V.fo V.fl) 10 (nI n) 0 0).en z9)))), ((a 8), .inl (cI, 2, .inl (fun z9 => nI ((vNote (mkV V.mn V.pre V.len V.lev V.hol V.sta V.en V.tdy V.dys V.pol V.par V.kd V.fi V.se V.th V.ne 0 V.fo V.fl) 10 (nI n) 0 0).tdy z9)))), ((a 9), .inl (cI, 2, .inl (fun z9 => nI ((vNote (mkV V.mn V.pre V.len V.lev V.hol V.sta V.en V.tdy V.dys V.pol V.par V.kd V.fi V.se V.th V.ne 0 V.fo V.fl) 10 (nI n) 0 0).dys z9)))), ((a 10), .inl (cI, 8, .inl (fun z9 => nI ((vNote (mkV V.mn V.pre V.len V.lev V.hol V.sta V.en V.tdy V.dys V.pol V.par V.kd V.fi V.se V.th V.ne 0 V.fo V.fl) 10 (nI n) 0 0).pol z9)))), ((a 11), .inl (cI, 300, .inl ((vNote (mkV V.mn V.pre V.len V.lev V.hol V.sta V.en V.tdy V.dys V.pol V.par V.kd V.fi V.se V.th V.ne 0 V.fo V.fl) 10 (nI n) 0 0).kd))), ((a 12), .inl (cI, 300, .inl ((vNote (mkV V.mn V.pre V.len V.lev V.hol V.sta V.en V.tdy V.dys V.pol V.par V.kd V.fi V.se V.th V.ne 0 V.fo V.fl) 10 (nI n) 0 0).fi))), ((a 13), .inl (cI, 300, .inl ((vNote (mkV V.mn V.pre V.len V.lev V.hol V.sta V.en V.tdy V.dys V.pol V.par V.kd V.fi V.se V.th V.ne 0 V.fo V.fl) 10 (nI n) 0 0).se))), ((a 14), .inl (cI, 300, .inl ((vNote (mkV V.mn V.pre V.len V.lev V.hol V.sta V.en V.tdy V.dys V.pol V.par V.kd V.fi V.se V.th V.ne 0 V.fo V.fl) 10 (nI n) 0 0).th)))]) [0, 1, 2, 3, 4, 5, 6, 7, 8, 9, 10, 11, 12, 13, 14, 15] rfl
      replace hD : va_D A [(o, .inr (5, [.int (nI (vNote (mkV V.mn V.pre V.len V.lev V.hol V.sta V.en V.tdy V.dys V.pol V.par V.kd V.fi V.se V.th V.ne 0 V.fo V.fl) 10 (nI n) 0 0).tc), .ref (a 0), .ref (a 1), .ref (a 2), .ref (a 3), .ref (a 4), .ref (a 5), .ref (a 6), .ref (a 7), .ref (a 8), .ref (a 9), .ref (a 10), .int (nI (vNote (mkV V.mn V.pre V.len V.lev V.hol V.sta V.en V.tdy V.dys V.pol V.par V.kd V.fi V.se V.th V.ne 0 V.fo V.fl) 10 (nI n) 0 0).ne), .ref (a 11), .ref (a 12), .ref (a 13), .ref (a 14), .long ((vNote (mkV V.mn V.pre V.len V.lev V.hol V.sta V.en V.tdy V.dys V.pol V.par V.kd V.fi V.se V.th V.ne 0 V.fo V.fl) 10 (nI n) 0 0).fo), .int ((vNote (mkV V.mn V.pre V.len V.lev V.hol V.sta V.en V.tdy V.dys V.pol V.par V.kd V.fi V.se V.th V.ne 0 V.fo V.fl) 10 (nI n) 0 0).fl)])), ((a 0), .inl (cI, 2, .inl (fun z9 => nI ((vNote (mkV V.mn V.pre V.len V.lev V.hol V.sta V.en V.tdy V.dys V.pol V.par V.kd V.fi V.se V.th V.ne 0 V.fo V.fl) 10 (nI n) 0 0).mn z9)))), ((a 1), .inl (cI, 400, .inl (fun z9 => nI ((vNote (mkV V.mn V.pre V.len V.lev V.hol V.sta V.en V.tdy V.dys V.pol V.par V.kd V.fi V.se V.th V.ne 0 V.fo V.fl) 10 (nI n) 0 0).pre z9)))), ((a 2), .inl (cI, 400, .inl (fun z9 => nI ((vNote (mkV V.mn V.pre V.len V.lev V.hol V.sta V.en V.tdy V.dys V.pol V.par V.kd V.fi V.se V.th V.ne 0 V.fo V.fl) 10 (nI n) 0 0).len z9)))), ((a 3), .inl (cI, 400, .inl (fun z9 => pI ((vNote (mkV V.mn V.pre V.len V.lev V.hol V.sta V.en V.tdy V.dys V.pol V.par V.kd V.fi V.se V.th V.ne 0 V.fo V.fl) 10 (nI n) 0 0).par z9)))), ((a 4), .inl (cI, 400, .inl (fun z9 => nI ((vNote (mkV V.mn V.pre V.len V.lev V.hol V.sta V.en V.tdy V.dys V.pol V.par V.kd V.fi V.se V.th V.ne 0 V.fo V.fl) 10 (nI n) 0 0).lev z9)))), ((a 5), .inl (cI, 400, .inl (fun z9 => nI ((vNote (mkV V.mn V.pre V.len V.lev V.hol V.sta V.en V.tdy V.dys V.pol V.par V.kd V.fi V.se V.th V.ne 0 V.fo V.fl) 10 (nI n) 0 0).hol z9)))), ((a 6), .inl (cI, 400, .inl (fun z9 => nI ((vNote (mkV V.mn V.pre V.len V.lev V.hol V.sta V.en V.tdy V.dys V.pol V.par V.kd V.fi V.se V.th V.ne 0 V.fo V.fl) 10 (nI n) 0 0).sta z9)))), ((a 7), .inl (cI, 400, .inl (fun z9 => nI ((vNote (mkV V.mn V.pre V.len V.lev V.hol V.sta V.en V.tdy V.dys V.pol V.par V.kd V.fi V.se V.th V.ne 0 V.fo V.fl) 10 (nI n) 0 0).en z9)))), ((a 8), .inl (cI, 2, .inl (fun z9 => nI ((vNote (mkV V.mn V.pre V.len V.lev V.hol V.sta V.en V.tdy V.dys V.pol V.par V.kd V.fi V.se V.th V.ne 0 V.fo V.fl) 10 (nI n) 0 0).tdy z9)))), ((a 9), .inl (cI, 2, .inl (fun z9 => nI ((vNote (mkV V.mn V.pre V.len V.lev V.hol V.sta V.en V.tdy V.dys V.pol V.par V.kd V.fi V.se V.th V.ne 0 V.fo V.fl) 10 (nI n) 0 0).dys z9)))), ((a 10), .inl (cI, 8, .inl (fun z9 => nI ((vNote (mkV V.mn V.pre V.len V.lev V.hol V.sta V.en V.tdy V.dys V.pol V.par V.kd V.fi V.se V.th V.ne 0 V.fo V.fl) 10 (nI n) 0 0).pol z9)))), ((a 11), .inl (cI, 300, .inl ((vNote (mkV V.mn V.pre V.len V.lev V.hol V.sta V.en V.tdy V.dys V.pol V.par V.kd V.fi V.se V.th V.ne 0 V.fo V.fl) 10 (nI n) 0 0).kd))), ((a 12), .inl (cI, 300, .inl ((vNote (mkV V.mn V.pre V.len V.lev V.hol V.sta V.en V.tdy V.dys V.pol V.par V.kd V.fi V.se V.th V.ne 0 V.fo V.fl) 10 (nI n) 0 0).fi))), ((a 13), .inl (cI, 300, .inl ((vNote (mkV V.mn V.pre V.len V.lev V.hol V.sta V.en V.tdy V.dys V.pol V.par V.kd V.fi V.se V.th V.ne 0 V.fo V.fl) 10 (nI n) 0 0).se))), ((a 14), .inl (cI, 300, .inl ((vNote (mkV V.mn V.pre V.len V.lev V.hol V.sta V.en V.tdy V.dys V.pol V.par V.kd V.fi V.se V.th V.ne 0 V.fo V.fl) 10 (nI n) 0 0).th)))] := hD.sub (ws' := [(o, .inr (5, [.int (nI (vNote (mkV V.mn V.pre V.len V.lev V.hol V.sta V.en V.tdy V.dys V.pol V.par V.kd V.fi V.se V.th V.ne 0 V.fo V.fl) 10 (nI n) 0 0).tc), .ref (a 0), .ref (a 1), .ref (a 2), .ref (a 3), .ref (a 4), .ref (a 5), .ref (a 6), .ref (a 7), .ref (a 8), .ref (a 9), .ref (a 10), .int (nI (vNote (mkV V.mn V.pre V.len V.lev V.hol V.sta V.en V.tdy V.dys V.pol V.par V.kd V.fi V.se V.th V.ne 0 V.fo V.fl) 10 (nI n) 0 0).ne), .ref (a 11), .ref (a 12), .ref (a 13), .ref (a 14), .long ((vNote (mkV V.mn V.pre V.len V.lev V.hol V.sta V.en V.tdy V.dys V.pol V.par V.kd V.fi V.se V.th V.ne 0 V.fo V.fl) 10 (nI n) 0 0).fo), .int ((vNote (mkV V.mn V.pre V.len V.lev V.hol V.sta V.en V.tdy V.dys V.pol V.par V.kd V.fi V.se V.th V.ne 0 V.fo V.fl) 10 (nI n) 0 0).fl)])), ((a 0), .inl (cI, 2, .inl (fun z9 => nI ((vNote (mkV V.mn V.pre V.len V.lev V.hol V.sta V.en V.tdy V.dys V.pol V.par V.kd V.fi V.se V.th V.ne 0 V.fo V.fl) 10 (nI n) 0 0).mn z9)))), ((a 1), .inl (cI, 400, .inl (fun z9 => nI ((vNote (mkV V.mn V.pre V.len V.lev V.hol V.sta V.en V.tdy V.dys V.pol V.par V.kd V.fi V.se V.th V.ne 0 V.fo V.fl) 10 (nI n) 0 0).pre z9)))), ((a 2), .inl (cI, 400, .inl (fun z9 => nI ((vNote (mkV V.mn V.pre V.len V.lev V.hol V.sta V.en V.tdy V.dys V.pol V.par V.kd V.fi V.se V.th V.ne 0 V.fo V.fl) 10 (nI n) 0 0).len z9)))), ((a 3), .inl (cI, 400, .inl (fun z9 => pI ((vNote (mkV V.mn V.pre V.len V.lev V.hol V.sta V.en V.tdy V.dys V.pol V.par V.kd V.fi V.se V.th V.ne 0 V.fo V.fl) 10 (nI n) 0 0).par z9)))), ((a 4), .inl (cI, 400, .inl (fun z9 => nI ((vNote (mkV V.mn V.pre V.len V.lev V.hol V.sta V.en V.tdy V.dys V.pol V.par V.kd V.fi V.se V.th V.ne 0 V.fo V.fl) 10 (nI n) 0 0).lev z9)))), ((a 5), .inl (cI, 400, .inl (fun z9 => nI ((vNote (mkV V.mn V.pre V.len V.lev V.hol V.sta V.en V.tdy V.dys V.pol V.par V.kd V.fi V.se V.th V.ne 0 V.fo V.fl) 10 (nI n) 0 0).hol z9)))), ((a 6), .inl (cI, 400, .inl (fun z9 => nI ((vNote (mkV V.mn V.pre V.len V.lev V.hol V.sta V.en V.tdy V.dys V.pol V.par V.kd V.fi V.se V.th V.ne 0 V.fo V.fl) 10 (nI n) 0 0).sta z9)))), ((a 7), .inl (cI, 400, .inl (fun z9 => nI ((vNote (mkV V.mn V.pre V.len V.lev V.hol V.sta V.en V.tdy V.dys V.pol V.par V.kd V.fi V.se V.th V.ne 0 V.fo V.fl) 10 (nI n) 0 0).en z9)))), ((a 8), .inl (cI, 2, .inl (fun z9 => nI ((vNote (mkV V.mn V.pre V.len V.lev V.hol V.sta V.en V.tdy V.dys V.pol V.par V.kd V.fi V.se V.th V.ne 0 V.fo V.fl) 10 (nI n) 0 0).tdy z9)))), ((a 9), .inl (cI, 2, .inl (fun z9 => nI ((vNote (mkV V.mn V.pre V.len V.lev V.hol V.sta V.en V.tdy V.dys V.pol V.par V.kd V.fi V.se V.th V.ne 0 V.fo V.fl) 10 (nI n) 0 0).dys z9)))), ((a 10), .inl (cI, 8, .inl (fun z9 => nI ((vNote (mkV V.mn V.pre V.len V.lev V.hol V.sta V.en V.tdy V.dys V.pol V.par V.kd V.fi V.se V.th V.ne 0 V.fo V.fl) 10 (nI n) 0 0).pol z9)))), ((a 11), .inl (cI, 300, .inl ((vNote (mkV V.mn V.pre V.len V.lev V.hol V.sta V.en V.tdy V.dys V.pol V.par V.kd V.fi V.se V.th V.ne 0 V.fo V.fl) 10 (nI n) 0 0).kd))), ((a 12), .inl (cI, 300, .inl ((vNote (mkV V.mn V.pre V.len V.lev V.hol V.sta V.en V.tdy V.dys V.pol V.par V.kd V.fi V.se V.th V.ne 0 V.fo V.fl) 10 (nI n) 0 0).fi))), ((a 13), .inl (cI, 300, .inl ((vNote (mkV V.mn V.pre V.len V.lev V.hol V.sta V.en V.tdy V.dys V.pol V.par V.kd V.fi V.se V.th V.ne 0 V.fo V.fl) 10 (nI n) 0 0).se))), ((a 14), .inl (cI, 300, .inl ((vNote (mkV V.mn V.pre V.len V.lev V.hol V.sta V.en V.tdy V.dys V.pol V.par V.kd V.fi V.se V.th V.ne 0 V.fo V.fl) 10 (nI n) 0 0).th)))]) [0, 1, 2, 3, 4, 5, 6, 7, 8, 9, 10, 11, 12, 13, 14, 15] (by decide) rfl
      refine lv_aload_n hx hb d_Mo_day_53 rfl (lv_at hl 0 rfl) ?_
      refine lv_iconst (v := 0) hx hb d_Mo_day_54 (by decide) ?_
      refine lv_iload_n hx hb d_Mo_day_55 rfl (lv_at hl 1 rfl) ?_
      have hPc := hP.sub (ws' := (wMo cI o a (vNote (mkV V.mn V.pre V.len V.lev V.hol V.sta V.en V.tdy V.dys V.pol V.par V.kd V.fi V.se V.th V.ne 0 V.fo V.fl) 10 (nI n) 0 0))) [0, 1, 2, 3, 4, 5, 6, 7, 8, 9, 10, 11, 12, 13, 14, 15] rfl
      have hDc := hD.sub (ws' := (wMo cI o a (vNote (mkV V.mn V.pre V.len V.lev V.hol V.sta V.en V.tdy V.dys V.pol V.par V.kd V.fi V.se V.th V.ne 0 V.fo V.fl) 10 (nI n) 0 0))) [0, 1, 2, 3, 4, 5, 6, 7, 8, 9, 10, 11, 12, 13, 14, 15] (by decide) rfl
      have hFc := va_free (wc := (wMo cI o a (vNote (mkV V.mn V.pre V.len V.lev V.hol V.sta V.en V.tdy V.dys V.pol V.par V.kd V.fi V.se V.th V.ne 0 V.fo V.fl) 10 (nI n) 0 0))) hD hS hA [0, 1, 2, 3, 4, 5, 6, 7, 8, 9, 10, 11, 12, 13, 14, 15] rfl
      refine va_calli (va_runV (b := o) (As := [.int 0, .int (nI n)]) (rest := []) ⟨hx, hb, hml, hown, hts⟩ (c_Mo_pass l dC dI H.size cI o a (vNote (mkV V.mn V.pre V.len V.lev V.hol V.sta V.en V.tdy V.dys V.pol V.par V.kd V.fi V.se V.th V.ne 0 V.fo V.fl) 10 (nI n) 0 0) 0 0 n (by decide) rfl (by have h1 := hV.ne; exact ⟨by show V.ne + 1 ≤ 300; omega, hV.2⟩) h13.2) (cwV 2 hts (gV kw_947 kw_949 ks_50 kw_6 kw_950) rfl rfl rfl (by decide +kernel) ⟨Nat.le_of_ble_eq_true rfl, Nat.le_of_ble_eq_true rfl⟩) ⟨PcM.blind, va_recv (q0 := 0) hK hPc rfl rfl, PcM.use hPc hK hN hDc⟩ rfl rfl hl.1 rfl (lv_room (Nat.le_of_ble_eq_true rfl)) d_Mo_day_56 ⟨Nat.le_of_ble_eq_true rfl, Nat.le_of_ble_eq_true rfl⟩) hS (fun q _ h => hFc q h) hFc (fun r56 u9 H9 H1 locs hH9 hv9 hp9 hB hz1 hk1 hS => ?_)
      obtain rfl : r56 = (nI (psF V.en n 0 (V.mn 0) V.sta 0).2) := hp9
      obtain ⟨hP1, hK1, hD1⟩ := hB
      rw [hH9] at hP1
      obtain ⟨hP, hD⟩ := va_join (wr := []) (w1 := (wMo cI o a (vPas (vNote (mkV V.mn V.pre V.len V.lev V.hol V.sta V.en V.tdy V.dys V.pol V.par V.kd V.fi V.se V.th V.ne 0 V.fo V.fl) 10 (nI n) 0 0) 0 0 n))) hP hD [0, 1, 2, 3, 4, 5, 6, 7, 8, 9, 10, 11, 12, 13, 14, 15] [] rfl rfl (by decide) (by decide) hk1 hFc hP1 hD1
      clear hPc hDc hFc hP1 hD1 hK1 hk1 hz1 hv9 hH9
      generalize H1 = H at hP hS ⊢
      replace hP : va_P (dC, dI) classes [(o, .inr (5, [.int (nI (vPas (vNote (mkV V.mn V.pre V.len V.lev V.hol V.sta V.en V.tdy V.dys V.pol V.par V.kd V.fi V.se V.th V.ne 0 V.fo V.fl) 10 (nI n) 0 0) 0 0 n).tc), .ref (a 0), .ref (a 1), .ref (a 2), .ref (a 3), .ref (a 4), .ref (a 5), .ref (a 6), .ref (a 7), .ref (a 8), .ref (a 9), .ref (a 10), .int (nI (vPas (vNote (mkV V.mn V.pre V.len V.lev V.hol V.sta V.en V.tdy V.dys V.pol V.par V.kd V.fi V.se V.th V.ne 0 V.fo V.fl) 10 (nI n) 0 0) 0 0 n).ne), .ref (a 11), .ref (a 12), .ref (a 13), .ref (a 14), .long ((vPas (vNote (mkV V.mn V.pre V.len V.lev V.hol V.sta V.en V.tdy V.dys V.pol V.par V.kd V.fi V.se V.th V.ne 0 V.fo V.fl) 10 (nI n) 0 0) 0 0 n).fo), .int ((vPas (vNote (mkV V.mn V.pre V.len V.lev V.hol V.sta V.en V.tdy V.dys V.pol V.par V.kd V.fi V.se V.th V.ne 0 V.fo V.fl) 10 (nI n) 0 0) 0 0 n).fl)])), ((a 0), .inl (cI, 2, .inl (fun z9 => nI ((vPas (vNote (mkV V.mn V.pre V.len V.lev V.hol V.sta V.en V.tdy V.dys V.pol V.par V.kd V.fi V.se V.th V.ne 0 V.fo V.fl) 10 (nI n) 0 0) 0 0 n).mn z9)))), ((a 1), .inl (cI, 400, .inl (fun z9 => nI ((vPas (vNote (mkV V.mn V.pre V.len V.lev V.hol V.sta V.en V.tdy V.dys V.pol V.par V.kd V.fi V.se V.th V.ne 0 V.fo V.fl) 10 (nI n) 0 0) 0 0 n).pre z9)))), ((a 2), .inl (cI, 400, .inl (fun z9 => nI ((vPas (vNote (mkV V.mn V.pre V.len V.lev V.hol V.sta V.en V.tdy V.dys V.pol V.par V.kd V.fi V.se V.th V.ne 0 V.fo V.fl) 10 (nI n) 0 0) 0 0 n).len z9)))), ((a 3), .inl (cI, 400, .inl (fun z9 => pI ((vPas (vNote (mkV V.mn V.pre V.len V.lev V.hol V.sta V.en V.tdy V.dys V.pol V.par V.kd V.fi V.se V.th V.ne 0 V.fo V.fl) 10 (nI n) 0 0) 0 0 n).par z9)))), ((a 4), .inl (cI, 400, .inl (fun z9 => nI ((vPas (vNote (mkV V.mn V.pre V.len V.lev V.hol V.sta V.en V.tdy V.dys V.pol V.par V.kd V.fi V.se V.th V.ne 0 V.fo V.fl) 10 (nI n) 0 0) 0 0 n).lev z9)))), ((a 5), .inl (cI, 400, .inl (fun z9 => nI ((vPas (vNote (mkV V.mn V.pre V.len V.lev V.hol V.sta V.en V.tdy V.dys V.pol V.par V.kd V.fi V.se V.th V.ne 0 V.fo V.fl) 10 (nI n) 0 0) 0 0 n).hol z9)))), ((a 6), .inl (cI, 400, .inl (fun z9 => nI ((vPas (vNote (mkV V.mn V.pre V.len V.lev V.hol V.sta V.en V.tdy V.dys V.pol V.par V.kd V.fi V.se V.th V.ne 0 V.fo V.fl) 10 (nI n) 0 0) 0 0 n).sta z9)))), ((a 7), .inl (cI, 400, .inl (fun z9 => nI ((vPas (vNote (mkV V.mn V.pre V.len V.lev V.hol V.sta V.en V.tdy V.dys V.pol V.par V.kd V.fi V.se V.th V.ne 0 V.fo V.fl) 10 (nI n) 0 0) 0 0 n).en z9)))), ((a 8), .inl (cI, 2, .inl (fun z9 => nI ((vPas (vNote (mkV V.mn V.pre V.len V.lev V.hol V.sta V.en V.tdy V.dys V.pol V.par V.kd V.fi V.se V.th V.ne 0 V.fo V.fl) 10 (nI n) 0 0) 0 0 n).tdy z9)))), ((a 9), .inl (cI, 2, .inl (fun z9 => nI ((vPas (vNote (mkV V.mn V.pre V.len V.lev V.hol V.sta V.en V.tdy V.dys V.pol V.par V.kd V.fi V.se V.th V.ne 0 V.fo V.fl) 10 (nI n) 0 0) 0 0 n).dys z9)))), ((a 10), .inl (cI, 8, .inl (fun z9 => nI ((vPas (vNote (mkV V.mn V.pre V.len V.lev V.hol V.sta V.en V.tdy V.dys V.pol V.par V.kd V.fi V.se V.th V.ne 0 V.fo V.fl) 10 (nI n) 0 0) 0 0 n).pol z9)))), ((a 11), .inl (cI, 300, .inl ((vPas (vNote (mkV V.mn V.pre V.len V.lev V.hol V.sta V.en V.tdy V.dys V.pol V.par V.kd V.fi V.se V.th V.ne 0 V.fo V.fl) 10 (nI n) 0 0) 0 0 n).kd))), ((a 12), .inl (cI, 300, .inl ((vPas (vNote (mkV V.mn V.pre V.len V.lev V.hol V.sta V.en V.tdy V.dys V.pol V.par V.kd V.fi V.se V.th V.ne 0 V.fo V.fl) 10 (nI n) 0 0) 0 0 n).fi))), ((a 13), .inl (cI, 300, .inl ((vPas (vNote (mkV V.mn V.pre V.len V.lev V.hol V.sta V.en V.tdy V.dys V.pol V.par V.kd V.fi V.se V.th V.ne 0 V.fo V.fl) 10 (nI n) 0 0) 0 0 n).se))), ((a 14), .inl (cI, 300, .inl ((vPas (vNote (mkV V.mn V.pre V.len V.lev V.hol V.sta V.en V.tdy V.dys V.pol V.par V.kd V.fi V.se V.th V.ne 0 V.fo V.fl) 10 (nI n) 0 0) 0 0 n).th)))] H := hP.sub (ws' := [(o, .inr (5, [.int (nI (vPas (vNote (mkV V.mn V.pre V.len V.lev V.hol V.sta V.en V.tdy V.dys V.pol V.par V.kd V.fi V.se V.th V.ne 0 V.fo V.fl) 10 (nI n) 0 0) 0 0 n).tc), .ref (a 0), .ref (a 1), .ref (a 2), .ref (a 3), .ref (a 4), .ref (a 5), .ref (a 6), .ref (a 7), .ref (a 8), .ref (a 9), .ref (a 10), .int (nI (vPas (vNote (mkV V.mn V.pre V.len V.lev V.hol V.sta V.en V.tdy V.dys V.pol V.par V.kd V.fi V.se V.th V.ne 0 V.fo V.fl) 10 (nI n) 0 0) 0 0 n).ne), .ref (a 11), .ref (a 12), .ref (a 13), .ref (a 14), .long ((vPas (vNote (mkV V.mn V.pre V.len V.lev V.hol V.sta V.en V.tdy V.dys V.pol V.par V.kd V.fi V.se V.th V.ne 0 V.fo V.fl) 10 (nI n) 0 0) 0 0 n).fo), .int ((vPas (vNote (mkV V.mn V.pre V.len V.lev V.hol V.sta V.en V.tdy V.dys V.pol V.par V.kd V.fi V.se V.th V.ne 0 V.fo V.fl) 10 (nI n) 0 0) 0 0 n).fl)])), ((a 0), .inl (cI, 2, .inl (fun z9 => nI ((vPas (vNote (mkV V.mn V.pre V.len V.lev V.hol V.sta V.en V.tdy V.dys V.pol V.par V.kd V.fi V.se V.th V.ne 0 V.fo V.fl) 10 (nI n) 0 0) 0 0 n).mn z9)))), ((a 1), .inl (cI, 400, .inl (fun z9 => nI ((vPas (vNote (mkV V.mn V.pre V.len V.lev V.hol V.sta V.en V.tdy V.dys V.pol V.par V.kd V.fi V.se V.th V.ne 0 V.fo V.fl) 10 (nI n) 0 0) 0 0 n).pre z9)))), ((a 2), .inl (cI, 400, .inl (fun z9 => nI ((vPas (vNote (mkV V.mn V.pre V.len V.lev V.hol V.sta V.en V.tdy V.dys V.pol V.par V.kd V.fi V.se V.th V.ne 0 V.fo V.fl) 10 (nI n) 0 0) 0 0 n).len z9)))), ((a 3), .inl (cI, 400, .inl (fun z9 => pI ((vPas (vNote (mkV V.mn V.pre V.len V.lev V.hol V.sta V.en V.tdy V.dys V.pol V.par V.kd V.fi V.se V.th V.ne 0 V.fo V.fl) 10 (nI n) 0 0) 0 0 n).par z9)))), ((a 4), .inl (cI, 400, .inl (fun z9 => nI ((vPas (vNote (mkV V.mn V.pre V.len V.lev V.hol V.sta V.en V.tdy V.dys V.pol V.par V.kd V.fi V.se V.th V.ne 0 V.fo V.fl) 10 (nI n) 0 0) 0 0 n).lev z9)))), ((a 5), .inl (cI, 400, .inl (fun z9 => nI ((vPas (vNote (mkV V.mn V.pre V.len V.lev V.hol V.sta V.en V.tdy V.dys V.pol V.par V.kd V.fi V.se V.th V.ne 0 V.fo V.fl) 10 (nI n) 0 0) 0 0 n).hol z9)))), ((a 6), .inl (cI, 400, .inl (fun z9 => nI ((vPas (vNote (mkV V.mn V.pre V.len V.lev V.hol V.sta V.en V.tdy V.dys V.pol V.par V.kd V.fi V.se V.th V.ne 0 V.fo V.fl) 10 (nI n) 0 0) 0 0 n).sta z9)))), ((a 7), .inl (cI, 400, .inl (fun z9 => nI ((vPas (vNote (mkV V.mn V.pre V.len V.lev V.hol V.sta V.en V.tdy V.dys V.pol V.par V.kd V.fi V.se V.th V.ne 0 V.fo V.fl) 10 (nI n) 0 0) 0 0 n).en z9)))), ((a 8), .inl (cI, 2, .inl (fun z9 => nI ((vPas (vNote (mkV V.mn V.pre V.len V.lev V.hol V.sta V.en V.tdy V.dys V.pol V.par V.kd V.fi V.se V.th V.ne 0 V.fo V.fl) 10 (nI n) 0 0) 0 0 n).tdy z9)))), ((a 9), .inl (cI, 2, .inl (fun z9 => nI ((vPas (vNote (mkV V.mn V.pre V.len V.lev V.hol V.sta V.en V.tdy V.dys V.pol V.par V.kd V.fi V.se V.th V.ne 0 V.fo V.fl) 10 (nI n) 0 0) 0 0 n).dys z9)))), ((a 10), .inl (cI, 8, .inl (fun z9 => nI ((vPas (vNote (mkV V.mn V.pre V.len V.lev V.hol V.sta V.en V.tdy V.dys V.pol V.par V.kd V.fi V.se V.th V.ne 0 V.fo V.fl) 10 (nI n) 0 0) 0 0 n).pol z9)))), ((a 11), .inl (cI, 300, .inl ((vPas (vNote (mkV V.mn V.pre V.len V.lev V.hol V.sta V.en V.tdy V.dys V.pol V.par V.kd V.fi V.se V.th V.ne 0 V.fo V.fl) 10 (nI n) 0 0) 0 0 n).kd))), ((a 12), .inl (cI, 300, .inl ((vPas (vNote (mkV V.mn V.pre V.len V.lev V.hol V.sta V.en V.tdy V.dys V.pol V.par V.kd V.fi V.se V.th V.ne 0 V.fo V.fl) 10 (nI n) 0 0) 0 0 n).fi))), ((a 13), .inl (cI, 300, .inl ((vPas (vNote (mkV V.mn V.pre V.len V.lev V.hol V.sta V.en V.tdy V.dys V.pol V.par V.kd V.fi V.se V.th V.ne 0 V.fo V.fl) 10 (nI n) 0 0) 0 0 n).se))), ((a 14), .inl (cI, 300, .inl ((vPas (vNote (mkV V.mn V.pre V.len V.lev V.hol V.sta V.en V.tdy V.dys V.pol V.par V.kd V.fi V.se V.th V.ne 0 V.fo V.fl) 10 (nI n) 0 0) 0 0 n).th)))]) [0, 1, 2, 3, 4, 5, 6, 7, 8, 9, 10, 11, 12, 13, 14, 15] rfl
      replace hD : va_D A [(o, .inr (5, [.int (nI (vPas (vNote (mkV V.mn V.pre V.len V.lev V.hol V.sta V.en V.tdy V.dys V.pol V.par V.kd V.fi V.se V.th V.ne 0 V.fo V.fl) 10 (nI n) 0 0) 0 0 n).tc), .ref (a 0), .ref (a 1), .ref (a 2), .ref (a 3), .ref (a 4), .ref (a 5), .ref (a 6), .ref (a 7), .ref (a 8), .ref (a 9), .ref (a 10), .int (nI (vPas (vNote (mkV V.mn V.pre V.len V.lev V.hol V.sta V.en V.tdy V.dys V.pol V.par V.kd V.fi V.se V.th V.ne 0 V.fo V.fl) 10 (nI n) 0 0) 0 0 n).ne), .ref (a 11), .ref (a 12), .ref (a 13), .ref (a 14), .long ((vPas (vNote (mkV V.mn V.pre V.len V.lev V.hol V.sta V.en V.tdy V.dys V.pol V.par V.kd V.fi V.se V.th V.ne 0 V.fo V.fl) 10 (nI n) 0 0) 0 0 n).fo), .int ((vPas (vNote (mkV V.mn V.pre V.len V.lev V.hol V.sta V.en V.tdy V.dys V.pol V.par V.kd V.fi V.se V.th V.ne 0 V.fo V.fl) 10 (nI n) 0 0) 0 0 n).fl)])), ((a 0), .inl (cI, 2, .inl (fun z9 => nI ((vPas (vNote (mkV V.mn V.pre V.len V.lev V.hol V.sta V.en V.tdy V.dys V.pol V.par V.kd V.fi V.se V.th V.ne 0 V.fo V.fl) 10 (nI n) 0 0) 0 0 n).mn z9)))), ((a 1), .inl (cI, 400, .inl (fun z9 => nI ((vPas (vNote (mkV V.mn V.pre V.len V.lev V.hol V.sta V.en V.tdy V.dys V.pol V.par V.kd V.fi V.se V.th V.ne 0 V.fo V.fl) 10 (nI n) 0 0) 0 0 n).pre z9)))), ((a 2), .inl (cI, 400, .inl (fun z9 => nI ((vPas (vNote (mkV V.mn V.pre V.len V.lev V.hol V.sta V.en V.tdy V.dys V.pol V.par V.kd V.fi V.se V.th V.ne 0 V.fo V.fl) 10 (nI n) 0 0) 0 0 n).len z9)))), ((a 3), .inl (cI, 400, .inl (fun z9 => pI ((vPas (vNote (mkV V.mn V.pre V.len V.lev V.hol V.sta V.en V.tdy V.dys V.pol V.par V.kd V.fi V.se V.th V.ne 0 V.fo V.fl) 10 (nI n) 0 0) 0 0 n).par z9)))), ((a 4), .inl (cI, 400, .inl (fun z9 => nI ((vPas (vNote (mkV V.mn V.pre V.len V.lev V.hol V.sta V.en V.tdy V.dys V.pol V.par V.kd V.fi V.se V.th V.ne 0 V.fo V.fl) 10 (nI n) 0 0) 0 0 n).lev z9)))), ((a 5), .inl (cI, 400, .inl (fun z9 => nI ((vPas (vNote (mkV V.mn V.pre V.len V.lev V.hol V.sta V.en V.tdy V.dys V.pol V.par V.kd V.fi V.se V.th V.ne 0 V.fo V.fl) 10 (nI n) 0 0) 0 0 n).hol z9)))), ((a 6), .inl (cI, 400, .inl (fun z9 => nI ((vPas (vNote (mkV V.mn V.pre V.len V.lev V.hol V.sta V.en V.tdy V.dys V.pol V.par V.kd V.fi V.se V.th V.ne 0 V.fo V.fl) 10 (nI n) 0 0) 0 0 n).sta z9)))), ((a 7), .inl (cI, 400, .inl (fun z9 => nI ((vPas (vNote (mkV V.mn V.pre V.len V.lev V.hol V.sta V.en V.tdy V.dys V.pol V.par V.kd V.fi V.se V.th V.ne 0 V.fo V.fl) 10 (nI n) 0 0) 0 0 n).en z9)))), ((a 8), .inl (cI, 2, .inl (fun z9 => nI ((vPas (vNote (mkV V.mn V.pre V.len V.lev V.hol V.sta V.en V.tdy V.dys V.pol V.par V.kd V.fi V.se V.th V.ne 0 V.fo V.fl) 10 (nI n) 0 0) 0 0 n).tdy z9)))), ((a 9), .inl (cI, 2, .inl (fun z9 => nI ((vPas (vNote (mkV V.mn V.pre V.len V.lev V.hol V.sta V.en V.tdy V.dys V.pol V.par V.kd V.fi V.se V.th V.ne 0 V.fo V.fl) 10 (nI n) 0 0) 0 0 n).dys z9)))), ((a 10), .inl (cI, 8, .inl (fun z9 => nI ((vPas (vNote (mkV V.mn V.pre V.len V.lev V.hol V.sta V.en V.tdy V.dys V.pol V.par V.kd V.fi V.se V.th V.ne 0 V.fo V.fl) 10 (nI n) 0 0) 0 0 n).pol z9)))), ((a 11), .inl (cI, 300, .inl ((vPas (vNote (mkV V.mn V.pre V.len V.lev V.hol V.sta V.en V.tdy V.dys V.pol V.par V.kd V.fi V.se V.th V.ne 0 V.fo V.fl) 10 (nI n) 0 0) 0 0 n).kd))), ((a 12), .inl (cI, 300, .inl ((vPas (vNote (mkV V.mn V.pre V.len V.lev V.hol V.sta V.en V.tdy V.dys V.pol V.par V.kd V.fi V.se V.th V.ne 0 V.fo V.fl) 10 (nI n) 0 0) 0 0 n).fi))), ((a 13), .inl (cI, 300, .inl ((vPas (vNote (mkV V.mn V.pre V.len V.lev V.hol V.sta V.en V.tdy V.dys V.pol V.par V.kd V.fi V.se V.th V.ne 0 V.fo V.fl) 10 (nI n) 0 0) 0 0 n).se))), ((a 14), .inl (cI, 300, .inl ((vPas (vNote (mkV V.mn V.pre V.len V.lev V.hol V.sta V.en V.tdy V.dys V.pol V.par V.kd V.fi V.se V.th V.ne 0 V.fo V.fl) 10 (nI n) 0 0) 0 0 n).th)))] := hD.sub (ws' := [(o, .inr (5, [.int (nI (vPas (vNote (mkV V.mn V.pre V.len V.lev V.hol V.sta V.en V.tdy V.dys V.pol V.par V.kd V.fi V.se V.th V.ne 0 V.fo V.fl) 10 (nI n) 0 0) 0 0 n).tc), .ref (a 0), .ref (a 1), .ref (a 2), .ref (a 3), .ref (a 4), .ref (a 5), .ref (a 6), .ref (a 7), .ref (a 8), .ref (a 9), .ref (a 10), .int (nI (vPas (vNote (mkV V.mn V.pre V.len V.lev V.hol V.sta V.en V.tdy V.dys V.pol V.par V.kd V.fi V.se V.th V.ne 0 V.fo V.fl) 10 (nI n) 0 0) 0 0 n).ne), .ref (a 11), .ref (a 12), .ref (a 13), .ref (a 14), .long ((vPas (vNote (mkV V.mn V.pre V.len V.lev V.hol V.sta V.en V.tdy V.dys V.pol V.par V.kd V.fi V.se V.th V.ne 0 V.fo V.fl) 10 (nI n) 0 0) 0 0 n).fo), .int ((vPas (vNote (mkV V.mn V.pre V.len V.lev V.hol V.sta V.en V.tdy V.dys V.pol V.par V.kd V.fi V.se V.th V.ne 0 V.fo V.fl) 10 (nI n) 0 0) 0 0 n).fl)])), ((a 0), .inl (cI, 2, .inl (fun z9 => nI ((vPas (vNote (mkV V.mn V.pre V.len V.lev V.hol V.sta V.en V.tdy V.dys V.pol V.par V.kd V.fi V.se V.th V.ne 0 V.fo V.fl) 10 (nI n) 0 0) 0 0 n).mn z9)))), ((a 1), .inl (cI, 400, .inl (fun z9 => nI ((vPas (vNote (mkV V.mn V.pre V.len V.lev V.hol V.sta V.en V.tdy V.dys V.pol V.par V.kd V.fi V.se V.th V.ne 0 V.fo V.fl) 10 (nI n) 0 0) 0 0 n).pre z9)))), ((a 2), .inl (cI, 400, .inl (fun z9 => nI ((vPas (vNote (mkV V.mn V.pre V.len V.lev V.hol V.sta V.en V.tdy V.dys V.pol V.par V.kd V.fi V.se V.th V.ne 0 V.fo V.fl) 10 (nI n) 0 0) 0 0 n).len z9)))), ((a 3), .inl (cI, 400, .inl (fun z9 => pI ((vPas (vNote (mkV V.mn V.pre V.len V.lev V.hol V.sta V.en V.tdy V.dys V.pol V.par V.kd V.fi V.se V.th V.ne 0 V.fo V.fl) 10 (nI n) 0 0) 0 0 n).par z9)))), ((a 4), .inl (cI, 400, .inl (fun z9 => nI ((vPas (vNote (mkV V.mn V.pre V.len V.lev V.hol V.sta V.en V.tdy V.dys V.pol V.par V.kd V.fi V.se V.th V.ne 0 V.fo V.fl) 10 (nI n) 0 0) 0 0 n).lev z9)))), ((a 5), .inl (cI, 400, .inl (fun z9 => nI ((vPas (vNote (mkV V.mn V.pre V.len V.lev V.hol V.sta V.en V.tdy V.dys V.pol V.par V.kd V.fi V.se V.th V.ne 0 V.fo V.fl) 10 (nI n) 0 0) 0 0 n).hol z9)))), ((a 6), .inl (cI, 400, .inl (fun z9 => nI ((vPas (vNote (mkV V.mn V.pre V.len V.lev V.hol V.sta V.en V.tdy V.dys V.pol V.par V.kd V.fi V.se V.th V.ne 0 V.fo V.fl) 10 (nI n) 0 0) 0 0 n).sta z9)))), ((a 7), .inl (cI, 400, .inl (fun z9 => nI ((vPas (vNote (mkV V.mn V.pre V.len V.lev V.hol V.sta V.en V.tdy V.dys V.pol V.par V.kd V.fi V.se V.th V.ne 0 V.fo V.fl) 10 (nI n) 0 0) 0 0 n).en z9)))), ((a 8), .inl (cI, 2, .inl (fun z9 => nI ((vPas (vNote (mkV V.mn V.pre V.len V.lev V.hol V.sta V.en V.tdy V.dys V.pol V.par V.kd V.fi V.se V.th V.ne 0 V.fo V.fl) 10 (nI n) 0 0) 0 0 n).tdy z9)))), ((a 9), .inl (cI, 2, .inl (fun z9 => nI ((vPas (vNote (mkV V.mn V.pre V.len V.lev V.hol V.sta V.en V.tdy V.dys V.pol V.par V.kd V.fi V.se V.th V.ne 0 V.fo V.fl) 10 (nI n) 0 0) 0 0 n).dys z9)))), ((a 10), .inl (cI, 8, .inl (fun z9 => nI ((vPas (vNote (mkV V.mn V.pre V.len V.lev V.hol V.sta V.en V.tdy V.dys V.pol V.par V.kd V.fi V.se V.th V.ne 0 V.fo V.fl) 10 (nI n) 0 0) 0 0 n).pol z9)))), ((a 11), .inl (cI, 300, .inl ((vPas (vNote (mkV V.mn V.pre V.len V.lev V.hol V.sta V.en V.tdy V.dys V.pol V.par V.kd V.fi V.se V.th V.ne 0 V.fo V.fl) 10 (nI n) 0 0) 0 0 n).kd))), ((a 12), .inl (cI, 300, .inl ((vPas (vNote (mkV V.mn V.pre V.len V.lev V.hol V.sta V.en V.tdy V.dys V.pol V.par V.kd V.fi V.se V.th V.ne 0 V.fo V.fl) 10 (nI n) 0 0) 0 0 n).fi))), ((a 13), .inl (cI, 300, .inl ((vPas (vNote (mkV V.mn V.pre V.len V.lev V.hol V.sta V.en V.tdy V.dys V.pol V.par V.kd V.fi V.se V.th V.ne 0 V.fo V.fl) 10 (nI n) 0 0) 0 0 n).se))), ((a 14), .inl (cI, 300, .inl ((vPas (vNote (mkV V.mn V.pre V.len V.lev V.hol V.sta V.en V.tdy V.dys V.pol V.par V.kd V.fi V.se V.th V.ne 0 V.fo V.fl) 10 (nI n) 0 0) 0 0 n).th)))]) [0, 1, 2, 3, 4, 5, 6, 7, 8, 9, 10, 11, 12, 13, 14, 15] (by decide) rfl
      have e9 : moDay V n = vPas (vNote (mkV V.mn V.pre V.len V.lev V.hol V.sta V.en V.tdy V.dys V.pol V.par V.kd V.fi V.se V.th V.ne 0 V.fo V.fl) 10 (nI n) 0 0) 0 0 n := by unfold moDay; rw [if_pos h13, if_neg h24]
      have e8 : moDayR V n = (psF V.en n 0 (V.mn 0) V.sta 0).2 := by unfold moDayR; rw [if_pos ⟨h13, h24⟩]
      have hP9 : va_P (dC, dI) classes (wMo cI o a (moDay V n)) H := by rw [e9]; exact hP
      have hD9 : va_D A (wMo cI o a (moDay V n)) := by rw [e9]; exact hD
      exact W.iret (v := (nI (psF V.en n 0 (V.mn 0) V.sta 0).2)) hx hb hr (fun t ht hW => ⟨⟨(nI (psF V.en n 0 (V.mn 0) V.sta 0).2), (), rfl, (by first | (rw [e8]; done) | (rw [e8]; rfl)), by rw [ht]; exact hP9, va_K.moved hW.alike hK, hD9⟩, hS.F ht⟩) hS.2.2 d_Mo_day_59
    have h24 := Decidable.not_not.mp (mt bi_d.mpr h24)
    refine lv_iconst (v := 2) hx hb d_Mo_day_27 (by decide) ?_
    refine lv_goto hx hb d_Mo_day_28 rfl ?_
    refine va_put (D := (dC, dI)) (ci := 5) (v := .int 2) (ty := .int) (C := R_Mo) (T := F_Mo) (N := 19) hx hb hts u_Mo t_Mo t_Mo_ok n_Mo hown hK hP hD hS 0 rfl rfl 0 (by decide) (hts _ kw_714) (fun _ h9 => h9) rfl (by decide +kernel) rfl rfl (Nat.le_of_ble_eq_true rfl) d_Mo_day_32 (fun H locs hP hD hS => ?_)
    replace hP : va_P (dC, dI) classes [(o, .inr (5, [.int 2, .ref (a 0), .ref (a 1), .ref (a 2), .ref (a 3), .ref (a 4), .ref (a 5), .ref (a 6), .ref (a 7), .ref (a 8), .ref (a 9), .ref (a 10), .int (nI V.ne), .ref (a 11), .ref (a 12), .ref (a 13), .ref (a 14), .long V.fo, .int V.fl])), ((a 0), .inl (cI, 2, .inl (fun z9 => nI (V.mn z9)))), ((a 1), .inl (cI, 400, .inl (fun z9 => nI (V.pre z9)))), ((a 2), .inl (cI, 400, .inl (fun z9 => nI (V.len z9)))), ((a 3), .inl (cI, 400, .inl (fun z9 => pI (V.par z9)))), ((a 4), .inl (cI, 400, .inl (fun z9 => nI (V.lev z9)))), ((a 5), .inl (cI, 400, .inl (fun z9 => nI (V.hol z9)))), ((a 6), .inl (cI, 400, .inl (fun z9 => nI (V.sta z9)))), ((a 7), .inl (cI, 400, .inl (fun z9 => nI (V.en z9)))), ((a 8), .inl (cI, 2, .inl (fun z9 => nI (V.tdy z9)))), ((a 9), .inl (cI, 2, .inl (fun z9 => nI (V.dys z9)))), ((a 10), .inl (cI, 8, .inl (fun z9 => nI (V.pol z9)))), ((a 11), .inl (cI, 300, .inl V.kd)), ((a 12), .inl (cI, 300, .inl V.fi)), ((a 13), .inl (cI, 300, .inl V.se)), ((a 14), .inl (cI, 300, .inl V.th))] H := hP
    replace hD : va_D A [(o, .inr (5, [.int 2, .ref (a 0), .ref (a 1), .ref (a 2), .ref (a 3), .ref (a 4), .ref (a 5), .ref (a 6), .ref (a 7), .ref (a 8), .ref (a 9), .ref (a 10), .int (nI V.ne), .ref (a 11), .ref (a 12), .ref (a 13), .ref (a 14), .long V.fo, .int V.fl])), ((a 0), .inl (cI, 2, .inl (fun z9 => nI (V.mn z9)))), ((a 1), .inl (cI, 400, .inl (fun z9 => nI (V.pre z9)))), ((a 2), .inl (cI, 400, .inl (fun z9 => nI (V.len z9)))), ((a 3), .inl (cI, 400, .inl (fun z9 => pI (V.par z9)))), ((a 4), .inl (cI, 400, .inl (fun z9 => nI (V.lev z9)))), ((a 5), .inl (cI, 400, .inl (fun z9 => nI (V.hol z9)))), ((a 6), .inl (cI, 400, .inl (fun z9 => nI (V.sta z9)))), ((a 7), .inl (cI, 400, .inl (fun z9 => nI (V.en z9)))), ((a 8), .inl (cI, 2, .inl (fun z9 => nI (V.tdy z9)))), ((a 9), .inl (cI, 2, .inl (fun z9 => nI (V.dys z9)))), ((a 10), .inl (cI, 8, .inl (fun z9 => nI (V.pol z9)))), ((a 11), .inl (cI, 300, .inl V.kd)), ((a 12), .inl (cI, 300, .inl V.fi)), ((a 13), .inl (cI, 300, .inl V.se)), ((a 14), .inl (cI, 300, .inl V.th))] := hD
    refine lv_aload_n hx hb d_Mo_day_35 rfl (lv_at hl 0 rfl) ?_
    refine va_get (D := (dC, dI)) (ci := 5) (v := .int 2) (C := R_Mo) (T := F_Mo) (N := 19) hx hb hts u_Mo hown hK hP 0 rfl rfl 0 (by decide) (hts _ kw_714) (fun _ h9 => h9) rfl d_Mo_day_36 ?_
    refine lv_if_le hx hb d_Mo_day_39 rfl (fun h9 => absurd h9 (by decide)) (fun _ => ?_)
    refine lv_iconst (v := 0) hx hb d_Mo_day_42 (by decide) ?_
    have e9 : moDay V n = (mkV V.mn V.pre V.len V.lev V.hol V.sta V.en V.tdy V.dys V.pol V.par V.kd V.fi V.se V.th V.ne 2 V.fo V.fl) := by unfold moDay; rw [if_pos h13, if_pos h24]
    have e8 : moDayR V n = 0 := by unfold moDayR; rw [if_neg (fun q => q.2 h24)]
    have hP9 : va_P (dC, dI) classes (wMo cI o a (moDay V n)) H := by rw [e9]; exact hP
    have hD9 : va_D A (wMo cI o a (moDay V n)) := by rw [e9]; exact hD
    exact W.iret (v := 0) hx hb hr (fun t ht hW => ⟨⟨0, (), rfl, (by first | (rw [e8]; done) | (rw [e8]; rfl)), by rw [ht]; exact hP9, va_K.moved hW.alike hK, hD9⟩, hS.F ht⟩) hS.2.2 d_Mo_day_43
  have h13 := mt (in_day hV hn0).mpr (bi_d.mp h13)
  refine lv_iconst (v := 1) hx hb d_Mo_day_16 (by decide) ?_
  refine lv_goto hx hb d_Mo_day_17 rfl ?_
  refine va_put (D := (dC, dI)) (ci := 5) (v := .int 1) (ty := .int) (C := R_Mo) (T := F_Mo) (N := 19) hx hb hts u_Mo t_Mo t_Mo_ok n_Mo hown hK hP hD hS 0 rfl rfl 0 (by decide) (hts _ kw_714) (fun _ h9 => h9) rfl (by decide +kernel) rfl rfl (Nat.le_of_ble_eq_true rfl) d_Mo_day_32 (fun H locs hP hD hS => ?_)
  replace hP : va_P (dC, dI) classes [(o, .inr (5, [.int 1, .ref (a 0), .ref (a 1), .ref (a 2), .ref (a 3), .ref (a 4), .ref (a 5), .ref (a 6), .ref (a 7), .ref (a 8), .ref (a 9), .ref (a 10), .int (nI V.ne), .ref (a 11), .ref (a 12), .ref (a 13), .ref (a 14), .long V.fo, .int V.fl])), ((a 0), .inl (cI, 2, .inl (fun z9 => nI (V.mn z9)))), ((a 1), .inl (cI, 400, .inl (fun z9 => nI (V.pre z9)))), ((a 2), .inl (cI, 400, .inl (fun z9 => nI (V.len z9)))), ((a 3), .inl (cI, 400, .inl (fun z9 => pI (V.par z9)))), ((a 4), .inl (cI, 400, .inl (fun z9 => nI (V.lev z9)))), ((a 5), .inl (cI, 400, .inl (fun z9 => nI (V.hol z9)))), ((a 6), .inl (cI, 400, .inl (fun z9 => nI (V.sta z9)))), ((a 7), .inl (cI, 400, .inl (fun z9 => nI (V.en z9)))), ((a 8), .inl (cI, 2, .inl (fun z9 => nI (V.tdy z9)))), ((a 9), .inl (cI, 2, .inl (fun z9 => nI (V.dys z9)))), ((a 10), .inl (cI, 8, .inl (fun z9 => nI (V.pol z9)))), ((a 11), .inl (cI, 300, .inl V.kd)), ((a 12), .inl (cI, 300, .inl V.fi)), ((a 13), .inl (cI, 300, .inl V.se)), ((a 14), .inl (cI, 300, .inl V.th))] H := hP
  replace hD : va_D A [(o, .inr (5, [.int 1, .ref (a 0), .ref (a 1), .ref (a 2), .ref (a 3), .ref (a 4), .ref (a 5), .ref (a 6), .ref (a 7), .ref (a 8), .ref (a 9), .ref (a 10), .int (nI V.ne), .ref (a 11), .ref (a 12), .ref (a 13), .ref (a 14), .long V.fo, .int V.fl])), ((a 0), .inl (cI, 2, .inl (fun z9 => nI (V.mn z9)))), ((a 1), .inl (cI, 400, .inl (fun z9 => nI (V.pre z9)))), ((a 2), .inl (cI, 400, .inl (fun z9 => nI (V.len z9)))), ((a 3), .inl (cI, 400, .inl (fun z9 => pI (V.par z9)))), ((a 4), .inl (cI, 400, .inl (fun z9 => nI (V.lev z9)))), ((a 5), .inl (cI, 400, .inl (fun z9 => nI (V.hol z9)))), ((a 6), .inl (cI, 400, .inl (fun z9 => nI (V.sta z9)))), ((a 7), .inl (cI, 400, .inl (fun z9 => nI (V.en z9)))), ((a 8), .inl (cI, 2, .inl (fun z9 => nI (V.tdy z9)))), ((a 9), .inl (cI, 2, .inl (fun z9 => nI (V.dys z9)))), ((a 10), .inl (cI, 8, .inl (fun z9 => nI (V.pol z9)))), ((a 11), .inl (cI, 300, .inl V.kd)), ((a 12), .inl (cI, 300, .inl V.fi)), ((a 13), .inl (cI, 300, .inl V.se)), ((a 14), .inl (cI, 300, .inl V.th))] := hD
  refine lv_aload_n hx hb d_Mo_day_35 rfl (lv_at hl 0 rfl) ?_
  refine va_get (D := (dC, dI)) (ci := 5) (v := .int 1) (C := R_Mo) (T := F_Mo) (N := 19) hx hb hts u_Mo hown hK hP 0 rfl rfl 0 (by decide) (hts _ kw_714) (fun _ h9 => h9) rfl d_Mo_day_36 ?_
  refine lv_if_le hx hb d_Mo_day_39 rfl (fun h9 => absurd h9 (by decide)) (fun _ => ?_)
  refine lv_iconst (v := 0) hx hb d_Mo_day_42 (by decide) ?_
  have e9 : moDay V n = (mkV V.mn V.pre V.len V.lev V.hol V.sta V.en V.tdy V.dys V.pol V.par V.kd V.fi V.se V.th V.ne 1 V.fo V.fl) := by unfold moDay; rw [if_neg h13]
  have e8 : moDayR V n = 0 := by unfold moDayR; rw [if_neg (fun q => h13 q.1)]
  have hP9 : va_P (dC, dI) classes (wMo cI o a (moDay V n)) H := by rw [e9]; exact hP
  have hD9 : va_D A (wMo cI o a (moDay V n)) := by rw [e9]; exact hD
  exact W.iret (v := 0) hx hb hr (fun t ht hW => ⟨⟨0, (), rfl, (by first | (rw [e8]; done) | (rw [e8]; rfl)), by rw [ht]; exact hP9, va_K.moved hW.alike hK, hD9⟩, hS.F ht⟩) hS.2.2 d_Mo_day_43
