/-! the reference's replay and same -/
abbrev entOK (V : MS) (k : Nat) (e : Nat × Nat × Nat × Nat) : Prop := V.kd k = nI e.1 ∧ V.fi k = nI e.2.1 ∧ V.se k = nI e.2.2.1 ∧ V.th k = nI e.2.2.2
def agOK (V : MS) (e : Nat × Nat × Nat × Nat) : Prop := match e.1 with
  | 0 => False
  | 1 => V.mn 1 < 200
  | 2 => V.mn 1 < 200 ∧ 200 + e.2.1 < 400 ∧ e.2.2.2 < 4294967296 ∧ e.2.2.1 < 33 ∧ V.pre (200 + e.2.1) + 2 ^ (32 - V.len (200 + e.2.1)) ≤ 4294967296
  | 3 => V.mn 1 < 200 ∧ 200 + e.2.1 < 400
  | 4 => 200 + e.2.1 < 400
  | 5 => 200 + e.2.1 < 400
  | 6 => 200 + e.2.1 < 400 ∧ 1 ≤ V.len (200 + e.2.1)
  | 7 => 200 + e.2.1 < 400 ∧ V.len (200 + e.2.1) < 32 ∧ e.2.2.1 < 4294967296
  | 8 => 200 + e.2.1 < 400 ∧ (∀ c q, sbN (200 + e.2.1) ≤ c → c < ebN V (200 + e.2.1) → V.par c = some q → sbN (200 + e.2.1) ≤ q ∧ q < c) ∧ e.2.2.1 < 10000
  | 9 => e.2.1 ≤ 3
  | 10 => e.2.1 ≤ 100000
  | 11 => True
  | _ + 12 => False
def agV (V : MS) (e : Nat × Nat × Nat × Nat) : MS := match e.1 with
  | 0 => V
  | 1 => vMake V 200 1 e.2.1 e.2.2.1 none e.2.2.2 1
  | 2 => ag2 V e.2.1 e.2.2.1 (decide (e.2.2.2 = 1))
  | 3 => vMake V 200 1 e.2.2.1 e.2.2.2 (some (200 + e.2.1)) (V.hol (200 + e.2.1)) 2
  | 4 => vSta V (200 + e.2.1) 1
  | 5 => vRet V 200 1 e.2.1
  | 6 => vGro V (200 + e.2.1)
  | 7 => vShr V (200 + e.2.1) (decide (e.2.2.1 = 1))
  | 8 => vHov V (200 + e.2.1) e.2.2.1
  | 9 => vPol V (4 + e.2.1) e.2.2.1
  | 10 => vPas V 200 1 e.2.1
  | 11 => (mkV V.mn V.pre V.len V.lev V.hol V.sta V.en V.tdy (va_up V.dys 1 e.2.1) V.pol V.par V.kd V.fi V.se V.th V.ne V.tc V.fo V.fl)
  | _ + 12 => V
theorem agV_log (V : MS) (e : Nat × Nat × Nat × Nat) : (agV V e).kd = V.kd ∧ (agV V e).fi = V.fi ∧ (agV V e).se = V.se ∧ (agV V e).th = V.th := by
  obtain ⟨e0, e1, e2, e3⟩ := e
  unfold agV
  split
  case h_3 => unfold ag2; split <;> exact ⟨rfl, rfl, rfl, rfl⟩
  case h_6 => unfold vRet; split <;> exact ⟨rfl, rfl, rfl, rfl⟩
  case h_8 => unfold vShr; split <;> exact ⟨rfl, rfl, rfl, rfl⟩
  all_goals exact ⟨rfl, rfl, rfl, rfl⟩
theorem agV_ent {V : MS} {e x : Nat × Nat × Nat × Nat} {j : Nat} (h : entOK V j x) : entOK (agV V e) j x := by
  obtain ⟨h1, h2, h3, h4⟩ := agV_log V e
  unfold entOK
  rw [h1, h2, h3, h4]; exact h
def rpV : MS → List (Nat × Nat × Nat × Nat) → MS
  | V, [] => V
  | V, e :: t => rpV (agV V e) t
def rpOK : MS → List (Nat × Nat × Nat × Nat) → Prop
  | _, [] => True
  | V, e :: t => agOK V e ∧ MSok (agV V e) ∧ rpOK (agV V e) t
def vRst (V : MS) : MS := (mkV (va_up V.mn 1 0) V.pre V.len V.lev V.hol V.sta V.en (va_up V.tdy 1 0) (va_up V.dys 1 0) (va_up (va_up (va_up (va_up V.pol 4 0) 5 0) 6 0) 7 0) V.par V.kd V.fi V.se V.th V.ne 0 V.fo V.fl)
theorem vRst_ok {V : MS} (hV : MSok V) : MSok (vRst V) := by
  refine ⟨hV.1, fun j => ⟨?_, hV.pre j, hV.len j, hV.lev j, hV.hol j, hV.sta j, hV.en j, ?_, ?_, ?_, fun k q => hV.par q⟩⟩
  · exact up_all (P := (· ≤ 200)) hV.mn (by decide) j
  · exact up_all (P := (· ≤ 100000)) hV.tdy (by decide) j
  · exact up_all (P := (· ≤ 1000)) hV.dys (by decide) j
  · exact up_all (P := (· ≤ 1000)) (up_all (P := (· ≤ 1000)) (up_all (P := (· ≤ 1000)) (up_all (P := (· ≤ 1000)) hV.pol (by decide)) (by decide)) (by decide)) (by decide) j
def moRep (V : MS) (k : Nat) (es : List (Nat × Nat × Nat × Nat)) : MS := if k ≤ V.ne then rpV (vRst V) es else (mkV V.mn V.pre V.len V.lev V.hol V.sta V.en V.tdy V.dys V.pol V.par V.kd V.fi V.se V.th V.ne 1 V.fo V.fl)
def moRepR (V : MS) (k : Nat) (es : List (Nat × Nat × Nat × Nat)) : Nat := if k ≤ V.ne then (rpV (vRst V) es).mn 1 else 0
def allF (P : Nat → Bool) : Nat → Nat → Bool → Bool
  | _, 0, a => a
  | i, k + 1, a => allF P (i + 1) k (a && P i)
def smI (V : MS) : Bool := decide (V.mn 0 = V.mn 1 ∧ V.tdy 0 = V.tdy 1 ∧ V.dys 0 = V.dys 1)
def plQ (V : MS) (l : Nat) : Bool := decide (V.pol l = V.pol (4 + l))
def fdQ (V : MS) (r w : Nat) : Bool := decide (fdN V r w = fdN V (200 + r) w)
def smB (V : MS) : Nat → Nat → Bool → Bool
  | _, 0, a => a
  | i, k + 1, a => if a = true then smB V (i + 1) k (allF (fdQ V i) 0 7 a) else a
def smN (V : MS) : Bool := smB V 0 (V.mn 0) (allF (plQ V) 0 4 (smI V))
theorem c_Mo_again (l : Launch) (dC : Nat → ClassId) (dI : Nat → Nat → Nat) (sz : Nat) (cI : ClassId) (o : Nat) (a : Nat → Nat) (V : MS) (hV : MSok V) (k : Nat) (e : Nat × Nat × Nat × Nat) (hk : k < 300) (he : entOK V k e) (hok : agOK V e) : Met l y_Mo_again (.code y_Mo_again b_Mo_again 5 none :: wG) ({ frames := 7, cells := 0, slots := 0, locals := 170 }) (PcM (dC, dI) [(cI, .int)] (wMo cI o a V) [.ref o, .int (nI k)] sz) (QmV (dC, dI) [(cI, .int)] (wMo cI o a V) (wMo cI o a (agV V e)) sz) 0 0 (va_A (wMo cI o a V) sz) := by
  obtain ⟨e0, e1, e2, e3⟩ := e
  obtain ⟨hkd, hfi, hse, hth⟩ := he
  match e0, hok, hkd with
  | 0, h, _ => exact h.elim
  | 1, h, hkd => exact c_Mo_again_1 l dC dI sz cI o a V hV k e1 e2 e3 hk hfi hse hth hkd h
  | 2, h, hkd => exact c_Mo_again_2 l dC dI sz cI o a V hV k e1 e2 e3 hk hfi hse hth hkd h.1 h.2.1 h.2.2.1 h.2.2.2.1 h.2.2.2.2
  | 3, h, hkd => exact c_Mo_again_3 l dC dI sz cI o a V hV k e1 e2 e3 hk hfi hse hth hkd h.1 h.2
  | 4, h, hkd => exact c_Mo_again_4 l dC dI sz cI o a V hV k e1 e2 e3 hk hfi hse hth hkd h
  | 5, h, hkd => exact c_Mo_again_5 l dC dI sz cI o a V hV k e1 e2 e3 hk hfi hse hth hkd h
  | 6, h, hkd => exact c_Mo_again_6 l dC dI sz cI o a V hV k e1 e2 e3 hk hfi hse hth hkd h.1 h.2
  | 7, h, hkd => exact c_Mo_again_7 l dC dI sz cI o a V hV k e1 e2 e3 hk hfi hse hth hkd h.1 h.2.1 h.2.2
  | 8, h, hkd => exact c_Mo_again_8 l dC dI sz cI o a V hV k e1 e2 e3 hk hfi hse hth hkd h.1 h.2.1 h.2.2
  | 9, h, hkd => exact c_Mo_again_9 l dC dI sz cI o a V hV k e1 e2 e3 hk hfi hse hth hkd h
  | 10, h, hkd => exact c_Mo_again_10 l dC dI sz cI o a V hV k e1 e2 e3 hk hfi hse hth hkd h
  | 11, h, hkd => exact c_Mo_again_11 l dC dI sz cI o a V hV k e1 e2 e3 hk hfi hse hth hkd 
  | _ + 12, h, _ => exact h.elim
set_option maxHeartbeats 4000000 in
set_option maxRecDepth 100000 in
theorem c_Mo_replay (l : Launch) (dC : Nat → ClassId) (dI : Nat → Nat → Nat) (sz : Nat) (cI : ClassId) (o : Nat) (a : Nat → Nat) (V : MS) (hV : MSok V) (k : Nat) (hk0 : k < 4294967296) (es : List (Nat × Nat × Nat × Nat)) (hes : k ≤ V.ne → es.length = k ∧ rpOK (vRst V) es ∧ ∀ j x, es[j]? = some x → entOK V j x) : Met l y_Mo_replay (.code y_Mo_replay b_Mo_replay 3 (some .int) :: wG) ({ frames := 8, cells := 0, slots := 0, locals := 194 }) (PcM (dC, dI) [(cI, .int)] (wMo cI o a V) [.ref o, .int (nI k)] sz) (QmI (dC, dI) [(cI, .int)] (wMo cI o a V) (wMo cI o a (moRep V k es)) sz (nI (moRepR V k es))) 0 0 (va_A (wMo cI o a V) sz) := by
  refine Met.ofW (cc := b_Mo_replay) (maxL := 3) (ret := (some .int)) (by decide) rfl ?_
  intro pg eg s mg ag bg meth cg s₁ B hml hv
  obtain ⟨rfl, hsz, hP, hK, hD0, hN⟩ := hv
  have hx := B.exec
  have hb := B.bytes
  have hr := B.returns
  have hlocks := B.notSynchronized
  have hts : ∀ w9 ∈ wG, w9.before ([.ref o, .int (nI k)] : List Value).toArray s = true := fun w9 h9 => atoms_spec (ws := (.code y_Mo_replay b_Mo_replay 3 (some .int) :: wG)) B.pre w9 (List.mem_cons_of_mem _ h9)
  have hown : s.vm.findClass "PrefixRegistryModel" = some mg.cls := findClass_of_methodNamed B.named
  subst hsz
  have hD := hD0.self (sz := s.heap.size)
  unfold QmI
  generalize hAe : va_A (wMo cI o a V) s.heap.size = A at hD ⊢
  have hA : ∀ q : Nat, s.heap.size ≤ q → A q := fun q h => by rw [← hAe]; exact Or.inr h
  have hS : va_S A s.heap s.heap [] := va_S.rf
  have hl := lv_entry ([.ref o, .int (nI k)]) (n := 3) (Nat.le_of_ble_eq_true rfl)
  rw [lg_entry_eq]
  generalize (lg_sl ([.ref o, .int (nI k)]) ++ List.replicate (3 - (lg_sl ([.ref o, .int (nI k)])).length) Slot.unset).toArray = ls at hl ⊢
  replace hl : lv_has ls 3 [(0, .ref o), (1, .int (nI k))] := hl
  replace hP : va_P (dC, dI) classes (wMo cI o a V) s.heap := hP
  replace hD : va_D A (wMo cI o a V) := hD
  refine lv_aload_n hx hb d_Mo_replay_0 rfl (lv_at hl 0 rfl) ?_
  refine lv_iload_n hx hb d_Mo_replay_1 rfl (lv_at hl 1 rfl) ?_
  refine lv_iconst (v := 0) hx hb d_Mo_replay_2 (by decide) ?_
  refine lv_aload_n hx hb d_Mo_replay_3 rfl (lv_at hl 0 rfl) ?_
  refine va_get (D := (dC, dI)) (ci := 5) (v := .int (nI V.ne)) (C := R_Mo) (T := F_Mo) (N := 19) hx hb hts u_Mo hown hK hP 0 rfl rfl 12 (by decide) (hts _ kw_726) (fun _ h9 => h9) rfl d_Mo_replay_4 ?_
  refine vp_callSi (W.runS (As := [.int (nI k), .int 0, .int (nI V.ne)]) (rest := [.ref o]) ⟨hx, hb, hml, hown, hts⟩ (c_Mo_in l dC dI (nI k) 0 (nI V.ne)) (cwS 3 hts (gS kw_784 kw_785 kw_6 kw_786) rfl rfl rfl (by decide +kernel) ⟨Nat.le_of_ble_eq_true rfl, Nat.le_of_ble_eq_true rfl⟩) ⟨PcS.blind, PcS.use hP hK hN⟩ rfl rfl hl.1 rfl (lv_room (Nat.le_of_ble_eq_true rfl)) d_Mo_replay_7 ⟨Nat.zero_le _, Nat.zero_le _⟩) (fun r7 hr7 => ?_)
  obtain rfl : r7 = bi (decide (0 ≤ nI k ∧ nI k ≤ (nI V.ne))) := hr7
  refine lv_if_eq hx hb d_Mo_replay_10 rfl (fun h10 => ?_) (fun h10 => ?_)
  · have h10 := mt (in_iff hk0 (h := V.ne) (by have := hV.ne; omega)).mpr (bi_d.mp h10)
    refine lv_iconst (v := 1) hx hb d_Mo_replay_17 (by decide) ?_
    refine va_put (D := (dC, dI)) (ci := 5) (v := .int 1) (ty := .int) (C := R_Mo) (T := F_Mo) (N := 19) hx hb hts u_Mo t_Mo t_Mo_ok n_Mo hown hK hP hD hS 0 rfl rfl 0 (by decide) (hts _ kw_714) (fun _ h9 => h9) rfl (by decide +kernel) rfl rfl (Nat.le_of_ble_eq_true rfl) d_Mo_replay_18 (fun H locs hP hD hS => ?_)
    replace hP : va_P (dC, dI) classes [(o, .inr (5, [.int 1, .ref (a 0), .ref (a 1), .ref (a 2), .ref (a 3), .ref (a 4), .ref (a 5), .ref (a 6), .ref (a 7), .ref (a 8), .ref (a 9), .ref (a 10), .int (nI V.ne), .ref (a 11), .ref (a 12), .ref (a 13), .ref (a 14), .long V.fo, .int V.fl])), ((a 0), .inl (cI, 2, .inl (fun z9 => nI (V.mn z9)))), ((a 1), .inl (cI, 400, .inl (fun z9 => nI (V.pre z9)))), ((a 2), .inl (cI, 400, .inl (fun z9 => nI (V.len z9)))), ((a 3), .inl (cI, 400, .inl (fun z9 => pI (V.par z9)))), ((a 4), .inl (cI, 400, .inl (fun z9 => nI (V.lev z9)))), ((a 5), .inl (cI, 400, .inl (fun z9 => nI (V.hol z9)))), ((a 6), .inl (cI, 400, .inl (fun z9 => nI (V.sta z9)))), ((a 7), .inl (cI, 400, .inl (fun z9 => nI (V.en z9)))), ((a 8), .inl (cI, 2, .inl (fun z9 => nI (V.tdy z9)))), ((a 9), .inl (cI, 2, .inl (fun z9 => nI (V.dys z9)))), ((a 10), .inl (cI, 8, .inl (fun z9 => nI (V.pol z9)))), ((a 11), .inl (cI, 300, .inl V.kd)), ((a 12), .inl (cI, 300, .inl V.fi)), ((a 13), .inl (cI, 300, .inl V.se)), ((a 14), .inl (cI, 300, .inl V.th))] H := hP
    replace hD : va_D A [(o, .inr (5, [.int 1, .ref (a 0), .ref (a 1), .ref (a 2), .ref (a 3), .ref (a 4), .ref (a 5), .ref (a 6), .ref (a 7), .ref (a 8), .ref (a 9), .ref (a 10), .int (nI V.ne), .ref (a 11), .ref (a 12), .ref (a 13), .ref (a 14), .long V.fo, .int V.fl])), ((a 0), .inl (cI, 2, .inl (fun z9 => nI (V.mn z9)))), ((a 1), .inl (cI, 400, .inl (fun z9 => nI (V.pre z9)))), ((a 2), .inl (cI, 400, .inl (fun z9 => nI (V.len z9)))), ((a 3), .inl (cI, 400, .inl (fun z9 => pI (V.par z9)))), ((a 4), .inl (cI, 400, .inl (fun z9 => nI (V.lev z9)))), ((a 5), .inl (cI, 400, .inl (fun z9 => nI (V.hol z9)))), ((a 6), .inl (cI, 400, .inl (fun z9 => nI (V.sta z9)))), ((a 7), .inl (cI, 400, .inl (fun z9 => nI (V.en z9)))), ((a 8), .inl (cI, 2, .inl (fun z9 => nI (V.tdy z9)))), ((a 9), .inl (cI, 2, .inl (fun z9 => nI (V.dys z9)))), ((a 10), .inl (cI, 8, .inl (fun z9 => nI (V.pol z9)))), ((a 11), .inl (cI, 300, .inl V.kd)), ((a 12), .inl (cI, 300, .inl V.fi)), ((a 13), .inl (cI, 300, .inl V.se)), ((a 14), .inl (cI, 300, .inl V.th))] := hD
    refine lv_aload_n hx hb d_Mo_replay_21 rfl (lv_at hl 0 rfl) ?_
    refine va_get (D := (dC, dI)) (ci := 5) (v := .int 1) (C := R_Mo) (T := F_Mo) (N := 19) hx hb hts u_Mo hown hK hP 0 rfl rfl 0 (by decide) (hts _ kw_714) (fun _ h9 => h9) rfl d_Mo_replay_22 ?_
    refine lv_if_le hx hb d_Mo_replay_25 rfl (fun h9 => absurd h9 (by decide)) (fun _ => ?_)
    refine lv_iconst (v := 0) hx hb d_Mo_replay_28 (by decide) ?_
    have e9 : moRep V k es = (mkV V.mn V.pre V.len V.lev V.hol V.sta V.en V.tdy V.dys V.pol V.par V.kd V.fi V.se V.th V.ne 1 V.fo V.fl) := by unfold moRep; rw [if_neg h10]
    have e8 : moRepR V k es = 0 := by unfold moRepR; rw [if_neg h10]
    have hP9 : va_P (dC, dI) classes (wMo cI o a (moRep V k es)) H := by rw [e9]; exact hP
    have hD9 : va_D A (wMo cI o a (moRep V k es)) := by rw [e9]; exact hD
    exact W.iret (v := 0) hx hb hr (fun t ht hW => ⟨⟨0, (), rfl, (by first | (rw [e8]; done) | (rw [e8]; rfl)), by rw [ht]; exact hP9, va_K.moved hW.alike hK, hD9⟩, hS.F ht⟩) hS.2.2 d_Mo_replay_29
  have h10 := (in_iff hk0 (h := V.ne) (by have := hV.ne; omega)).mp (Decidable.not_not.mp (mt bi_d.mpr h10))
  refine lv_iconst (v := 0) hx hb d_Mo_replay_13 (by decide) ?_
  refine lv_goto hx hb d_Mo_replay_14 rfl ?_
  refine va_put (D := (dC, dI)) (ci := 5) (v := .int 0) (ty := .int) (C := R_Mo) (T := F_Mo) (N := 19) hx hb hts u_Mo t_Mo t_Mo_ok n_Mo hown hK hP hD hS 0 rfl rfl 0 (by decide) (hts _ kw_714) (fun _ h9 => h9) rfl (by decide +kernel) rfl rfl (Nat.le_of_ble_eq_true rfl) d_Mo_replay_18 (fun H locs hP hD hS => ?_)
  replace hP : va_P (dC, dI) classes [(o, .inr (5, [.int 0, .ref (a 0), .ref (a 1), .ref (a 2), .ref (a 3), .ref (a 4), .ref (a 5), .ref (a 6), .ref (a 7), .ref (a 8), .ref (a 9), .ref (a 10), .int (nI V.ne), .ref (a 11), .ref (a 12), .ref (a 13), .ref (a 14), .long V.fo, .int V.fl])), ((a 0), .inl (cI, 2, .inl (fun z9 => nI (V.mn z9)))), ((a 1), .inl (cI, 400, .inl (fun z9 => nI (V.pre z9)))), ((a 2), .inl (cI, 400, .inl (fun z9 => nI (V.len z9)))), ((a 3), .inl (cI, 400, .inl (fun z9 => pI (V.par z9)))), ((a 4), .inl (cI, 400, .inl (fun z9 => nI (V.lev z9)))), ((a 5), .inl (cI, 400, .inl (fun z9 => nI (V.hol z9)))), ((a 6), .inl (cI, 400, .inl (fun z9 => nI (V.sta z9)))), ((a 7), .inl (cI, 400, .inl (fun z9 => nI (V.en z9)))), ((a 8), .inl (cI, 2, .inl (fun z9 => nI (V.tdy z9)))), ((a 9), .inl (cI, 2, .inl (fun z9 => nI (V.dys z9)))), ((a 10), .inl (cI, 8, .inl (fun z9 => nI (V.pol z9)))), ((a 11), .inl (cI, 300, .inl V.kd)), ((a 12), .inl (cI, 300, .inl V.fi)), ((a 13), .inl (cI, 300, .inl V.se)), ((a 14), .inl (cI, 300, .inl V.th))] H := hP
  replace hD : va_D A [(o, .inr (5, [.int 0, .ref (a 0), .ref (a 1), .ref (a 2), .ref (a 3), .ref (a 4), .ref (a 5), .ref (a 6), .ref (a 7), .ref (a 8), .ref (a 9), .ref (a 10), .int (nI V.ne), .ref (a 11), .ref (a 12), .ref (a 13), .ref (a 14), .long V.fo, .int V.fl])), ((a 0), .inl (cI, 2, .inl (fun z9 => nI (V.mn z9)))), ((a 1), .inl (cI, 400, .inl (fun z9 => nI (V.pre z9)))), ((a 2), .inl (cI, 400, .inl (fun z9 => nI (V.len z9)))), ((a 3), .inl (cI, 400, .inl (fun z9 => pI (V.par z9)))), ((a 4), .inl (cI, 400, .inl (fun z9 => nI (V.lev z9)))), ((a 5), .inl (cI, 400, .inl (fun z9 => nI (V.hol z9)))), ((a 6), .inl (cI, 400, .inl (fun z9 => nI (V.sta z9)))), ((a 7), .inl (cI, 400, .inl (fun z9 => nI (V.en z9)))), ((a 8), .inl (cI, 2, .inl (fun z9 => nI (V.tdy z9)))), ((a 9), .inl (cI, 2, .inl (fun z9 => nI (V.dys z9)))), ((a 10), .inl (cI, 8, .inl (fun z9 => nI (V.pol z9)))), ((a 11), .inl (cI, 300, .inl V.kd)), ((a 12), .inl (cI, 300, .inl V.fi)), ((a 13), .inl (cI, 300, .inl V.se)), ((a 14), .inl (cI, 300, .inl V.th))] := hD
  refine lv_aload_n hx hb d_Mo_replay_21 rfl (lv_at hl 0 rfl) ?_
  refine va_get (D := (dC, dI)) (ci := 5) (v := .int 0) (C := R_Mo) (T := F_Mo) (N := 19) hx hb hts u_Mo hown hK hP 0 rfl rfl 0 (by decide) (hts _ kw_714) (fun _ h9 => h9) rfl d_Mo_replay_22 ?_
  refine lv_if_le hx hb d_Mo_replay_25 rfl (fun _ => ?_) (fun h9 => absurd (by decide) h9)
  refine lv_aload_n hx hb d_Mo_replay_30 rfl (lv_at hl 0 rfl) ?_
  refine va_get (D := (dC, dI)) (ci := 5) (v := .ref (a 0)) (C := R_Mo) (T := F_Mo) (N := 19) hx hb hts u_Mo hown hK hP 0 rfl rfl 1 (by decide) (hts _ kw_715) (fun _ h9 => h9) rfl d_Mo_replay_31 ?_
  refine lv_iconst (v := 1) hx hb d_Mo_replay_34 (by decide) ?_
  refine lv_iconst (v := 0) hx hb d_Mo_replay_35 (by decide) ?_
  refine x_iast (j := 1) (g := (fun z9 => nI (va_up V.mn 1 0 z9))) hx hb hK hP hD hS 1 0 rfl rfl (by decide) (by decide) rfl (up_nI _ _ 0) rfl d_Mo_replay_36 (fun H locs hP hD hS => ?_)
  replace hP : va_P (dC, dI) classes [(o, .inr (5, [.int 0, .ref (a 0), .ref (a 1), .ref (a 2), .ref (a 3), .ref (a 4), .ref (a 5), .ref (a 6), .ref (a 7), .ref (a 8), .ref (a 9), .ref (a 10), .int (nI V.ne), .ref (a 11), .ref (a 12), .ref (a 13), .ref (a 14), .long V.fo, .int V.fl])), ((a 0), .inl (cI, 2, .inl (fun z9 => nI (va_up V.mn 1 0 z9)))), ((a 1), .inl (cI, 400, .inl (fun z9 => nI (V.pre z9)))), ((a 2), .inl (cI, 400, .inl (fun z9 => nI (V.len z9)))), ((a 3), .inl (cI, 400, .inl (fun z9 => pI (V.par z9)))), ((a 4), .inl (cI, 400, .inl (fun z9 => nI (V.lev z9)))), ((a 5), .inl (cI, 400, .inl (fun z9 => nI (V.hol z9)))), ((a 6), .inl (cI, 400, .inl (fun z9 => nI (V.sta z9)))), ((a 7), .inl (cI, 400, .inl (fun z9 => nI (V.en z9)))), ((a 8), .inl (cI, 2, .inl (fun z9 => nI (V.tdy z9)))), ((a 9), .inl (cI, 2, .inl (fun z9 => nI (V.dys z9)))), ((a 10), .inl (cI, 8, .inl (fun z9 => nI (V.pol z9)))), ((a 11), .inl (cI, 300, .inl V.kd)), ((a 12), .inl (cI, 300, .inl V.fi)), ((a 13), .inl (cI, 300, .inl V.se)), ((a 14), .inl (cI, 300, .inl V.th))] H := hP
  replace hD : va_D A [(o, .inr (5, [.int 0, .ref (a 0), .ref (a 1), .ref (a 2), .ref (a 3), .ref (a 4), .ref (a 5), .ref (a 6), .ref (a 7), .ref (a 8), .ref (a 9), .ref (a 10), .int (nI V.ne), .ref (a 11), .ref (a 12), .ref (a 13), .ref (a 14), .long V.fo, .int V.fl])), ((a 0), .inl (cI, 2, .inl (fun z9 => nI (va_up V.mn 1 0 z9)))), ((a 1), .inl (cI, 400, .inl (fun z9 => nI (V.pre z9)))), ((a 2), .inl (cI, 400, .inl (fun z9 => nI (V.len z9)))), ((a 3), .inl (cI, 400, .inl (fun z9 => pI (V.par z9)))), ((a 4), .inl (cI, 400, .inl (fun z9 => nI (V.lev z9)))), ((a 5), .inl (cI, 400, .inl (fun z9 => nI (V.hol z9)))), ((a 6), .inl (cI, 400, .inl (fun z9 => nI (V.sta z9)))), ((a 7), .inl (cI, 400, .inl (fun z9 => nI (V.en z9)))), ((a 8), .inl (cI, 2, .inl (fun z9 => nI (V.tdy z9)))), ((a 9), .inl (cI, 2, .inl (fun z9 => nI (V.dys z9)))), ((a 10), .inl (cI, 8, .inl (fun z9 => nI (V.pol z9)))), ((a 11), .inl (cI, 300, .inl V.kd)), ((a 12), .inl (cI, 300, .inl V.fi)), ((a 13), .inl (cI, 300, .inl V.se)), ((a 14), .inl (cI, 300, .inl V.th))] := hD
  refine lv_aload_n hx hb d_Mo_replay_37 rfl (lv_at hl 0 rfl) ?_
  refine va_get (D := (dC, dI)) (ci := 5) (v := .ref (a 8)) (C := R_Mo) (T := F_Mo) (N := 19) hx hb hts u_Mo hown hK hP 0 rfl rfl 9 (by decide) (hts _ kw_723) (fun _ h9 => h9) rfl d_Mo_replay_38 ?_
  refine lv_iconst (v := 1) hx hb d_Mo_replay_41 (by decide) ?_
  refine lv_iconst (v := 0) hx hb d_Mo_replay_42 (by decide) ?_
  refine x_iast (j := 1) (g := (fun z9 => nI (va_up V.tdy 1 0 z9))) hx hb hK hP hD hS 9 0 rfl rfl (by decide) (by decide) rfl (up_nI _ _ 0) rfl d_Mo_replay_43 (fun H locs hP hD hS => ?_)
  replace hP : va_P (dC, dI) classes [(o, .inr (5, [.int 0, .ref (a 0), .ref (a 1), .ref (a 2), .ref (a 3), .ref (a 4), .ref (a 5), .ref (a 6), .ref (a 7), .ref (a 8), .ref (a 9), .ref (a 10), .int (nI V.ne), .ref (a 11), .ref (a 12), .ref (a 13), .ref (a 14), .long V.fo, .int V.fl])), ((a 0), .inl (cI, 2, .inl (fun z9 => nI (va_up V.mn 1 0 z9)))), ((a 1), .inl (cI, 400, .inl (fun z9 => nI (V.pre z9)))), ((a 2), .inl (cI, 400, .inl (fun z9 => nI (V.len z9)))), ((a 3), .inl (cI, 400, .inl (fun z9 => pI (V.par z9)))), ((a 4), .inl (cI, 400, .inl (fun z9 => nI (V.lev z9)))), ((a 5), .inl (cI, 400, .inl (fun z9 => nI (V.hol z9)))), ((a 6), .inl (cI, 400, .inl (fun z9 => nI (V.sta z9)))), ((a 7), .inl (cI, 400, .inl (fun z9 => nI (V.en z9)))), ((a 8), .inl (cI, 2, .inl (fun z9 => nI (va_up V.tdy 1 0 z9)))), ((a 9), .inl (cI, 2, .inl (fun z9 => nI (V.dys z9)))), ((a 10), .inl (cI, 8, .inl (fun z9 => nI (V.pol z9)))), ((a 11), .inl (cI, 300, .inl V.kd)), ((a 12), .inl (cI, 300, .inl V.fi)), ((a 13), .inl (cI, 300, .inl V.se)), ((a 14), .inl (cI, 300, .inl V.th))] H := hP
  replace hD : va_D A [(o, .inr (5, [.int 0, .ref (a 0), .ref (a 1), .ref (a 2), .ref (a 3), .ref (a 4), .ref (a 5), .ref (a 6), .ref (a 7), .ref (a 8), .ref (a 9), .ref (a 10), .int (nI V.ne), .ref (a 11), .ref (a 12), .ref (a 13), .ref (a 14), .long V.fo, .int V.fl])), ((a 0), .inl (cI, 2, .inl (fun z9 => nI (va_up V.mn 1 0 z9)))), ((a 1), .inl (cI, 400, .inl (fun z9 => nI (V.pre z9)))), ((a 2), .inl (cI, 400, .inl (fun z9 => nI (V.len z9)))), ((a 3), .inl (cI, 400, .inl (fun z9 => pI (V.par z9)))), ((a 4), .inl (cI, 400, .inl (fun z9 => nI (V.lev z9)))), ((a 5), .inl (cI, 400, .inl (fun z9 => nI (V.hol z9)))), ((a 6), .inl (cI, 400, .inl (fun z9 => nI (V.sta z9)))), ((a 7), .inl (cI, 400, .inl (fun z9 => nI (V.en z9)))), ((a 8), .inl (cI, 2, .inl (fun z9 => nI (va_up V.tdy 1 0 z9)))), ((a 9), .inl (cI, 2, .inl (fun z9 => nI (V.dys z9)))), ((a 10), .inl (cI, 8, .inl (fun z9 => nI (V.pol z9)))), ((a 11), .inl (cI, 300, .inl V.kd)), ((a 12), .inl (cI, 300, .inl V.fi)), ((a 13), .inl (cI, 300, .inl V.se)), ((a 14), .inl (cI, 300, .inl V.th))] := hD
  refine lv_aload_n hx hb d_Mo_replay_44 rfl (lv_at hl 0 rfl) ?_
  refine va_get (D := (dC, dI)) (ci := 5) (v := .ref (a 9)) (C := R_Mo) (T := F_Mo) (N := 19) hx hb hts u_Mo hown hK hP 0 rfl rfl 10 (by decide) (hts _ kw_724) (fun _ h9 => h9) rfl d_Mo_replay_45 ?_
  refine lv_iconst (v := 1) hx hb d_Mo_replay_48 (by decide) ?_
  refine lv_iconst (v := 0) hx hb d_Mo_replay_49 (by decide) ?_
  refine x_iast (j := 1) (g := (fun z9 => nI (va_up V.dys 1 0 z9))) hx hb hK hP hD hS 10 0 rfl rfl (by decide) (by decide) rfl (up_nI _ _ 0) rfl d_Mo_replay_50 (fun H locs hP hD hS => ?_)
  replace hP : va_P (dC, dI) classes [(o, .inr (5, [.int 0, .ref (a 0), .ref (a 1), .ref (a 2), .ref (a 3), .ref (a 4), .ref (a 5), .ref (a 6), .ref (a 7), .ref (a 8), .ref (a 9), .ref (a 10), .int (nI V.ne), .ref (a 11), .ref (a 12), .ref (a 13), .ref (a 14), .long V.fo, .int V.fl])), ((a 0), .inl (cI, 2, .inl (fun z9 => nI (va_up V.mn 1 0 z9)))), ((a 1), .inl (cI, 400, .inl (fun z9 => nI (V.pre z9)))), ((a 2), .inl (cI, 400, .inl (fun z9 => nI (V.len z9)))), ((a 3), .inl (cI, 400, .inl (fun z9 => pI (V.par z9)))), ((a 4), .inl (cI, 400, .inl (fun z9 => nI (V.lev z9)))), ((a 5), .inl (cI, 400, .inl (fun z9 => nI (V.hol z9)))), ((a 6), .inl (cI, 400, .inl (fun z9 => nI (V.sta z9)))), ((a 7), .inl (cI, 400, .inl (fun z9 => nI (V.en z9)))), ((a 8), .inl (cI, 2, .inl (fun z9 => nI (va_up V.tdy 1 0 z9)))), ((a 9), .inl (cI, 2, .inl (fun z9 => nI (va_up V.dys 1 0 z9)))), ((a 10), .inl (cI, 8, .inl (fun z9 => nI (V.pol z9)))), ((a 11), .inl (cI, 300, .inl V.kd)), ((a 12), .inl (cI, 300, .inl V.fi)), ((a 13), .inl (cI, 300, .inl V.se)), ((a 14), .inl (cI, 300, .inl V.th))] H := hP
  replace hD : va_D A [(o, .inr (5, [.int 0, .ref (a 0), .ref (a 1), .ref (a 2), .ref (a 3), .ref (a 4), .ref (a 5), .ref (a 6), .ref (a 7), .ref (a 8), .ref (a 9), .ref (a 10), .int (nI V.ne), .ref (a 11), .ref (a 12), .ref (a 13), .ref (a 14), .long V.fo, .int V.fl])), ((a 0), .inl (cI, 2, .inl (fun z9 => nI (va_up V.mn 1 0 z9)))), ((a 1), .inl (cI, 400, .inl (fun z9 => nI (V.pre z9)))), ((a 2), .inl (cI, 400, .inl (fun z9 => nI (V.len z9)))), ((a 3), .inl (cI, 400, .inl (fun z9 => pI (V.par z9)))), ((a 4), .inl (cI, 400, .inl (fun z9 => nI (V.lev z9)))), ((a 5), .inl (cI, 400, .inl (fun z9 => nI (V.hol z9)))), ((a 6), .inl (cI, 400, .inl (fun z9 => nI (V.sta z9)))), ((a 7), .inl (cI, 400, .inl (fun z9 => nI (V.en z9)))), ((a 8), .inl (cI, 2, .inl (fun z9 => nI (va_up V.tdy 1 0 z9)))), ((a 9), .inl (cI, 2, .inl (fun z9 => nI (va_up V.dys 1 0 z9)))), ((a 10), .inl (cI, 8, .inl (fun z9 => nI (V.pol z9)))), ((a 11), .inl (cI, 300, .inl V.kd)), ((a 12), .inl (cI, 300, .inl V.fi)), ((a 13), .inl (cI, 300, .inl V.se)), ((a 14), .inl (cI, 300, .inl V.th))] := hD
  refine lv_iconst (v := 4) hx hb d_Mo_replay_51 (by decide) ?_
  refine lv_istore_n hx hb d_Mo_replay_52 rfl hl (by decide) rfl (fun ls hl => ?_)
  replace hl : lv_has ls 3 [(2, .int 4), (0, .ref o), (1, .int (nI k))] := hl
  refine lv_iload_n hx hb d_Mo_replay_53 rfl (lv_at hl 0 rfl) ?_
  refine lv_bipush (v := 8) hx hb d_Mo_replay_54 (by decide) ?_
  refine lv_icmp_ge hx hb d_Mo_replay_56 rfl (fun h9 => absurd h9 (by decide)) (fun _ => ?_)
  refine lv_aload_n hx hb d_Mo_replay_59 rfl (lv_at hl 1 rfl) ?_
  refine va_get (D := (dC, dI)) (ci := 5) (v := .ref (a 10)) (C := R_Mo) (T := F_Mo) (N := 19) hx hb hts u_Mo hown hK hP 0 rfl rfl 11 (by decide) (hts _ kw_725) (fun _ h9 => h9) rfl d_Mo_replay_60 ?_
  refine lv_iload_n hx hb d_Mo_replay_63 rfl (lv_at hl 0 rfl) ?_
  refine lv_iconst (v := 0) hx hb d_Mo_replay_64 (by decide) ?_
  refine x_iast (j := 4) (g := (fun z9 => nI (va_up V.pol 4 0 z9))) hx hb hK hP hD hS 11 0 rfl rfl (by decide) (by decide) rfl (up_nI _ _ 0) rfl d_Mo_replay_65 (fun H locs hP hD hS => ?_)
  replace hP : va_P (dC, dI) classes [(o, .inr (5, [.int 0, .ref (a 0), .ref (a 1), .ref (a 2), .ref (a 3), .ref (a 4), .ref (a 5), .ref (a 6), .ref (a 7), .ref (a 8), .ref (a 9), .ref (a 10), .int (nI V.ne), .ref (a 11), .ref (a 12), .ref (a 13), .ref (a 14), .long V.fo, .int V.fl])), ((a 0), .inl (cI, 2, .inl (fun z9 => nI (va_up V.mn 1 0 z9)))), ((a 1), .inl (cI, 400, .inl (fun z9 => nI (V.pre z9)))), ((a 2), .inl (cI, 400, .inl (fun z9 => nI (V.len z9)))), ((a 3), .inl (cI, 400, .inl (fun z9 => pI (V.par z9)))), ((a 4), .inl (cI, 400, .inl (fun z9 => nI (V.lev z9)))), ((a 5), .inl (cI, 400, .inl (fun z9 => nI (V.hol z9)))), ((a 6), .inl (cI, 400, .inl (fun z9 => nI (V.sta z9)))), ((a 7), .inl (cI, 400, .inl (fun z9 => nI (V.en z9)))), ((a 8), .inl (cI, 2, .inl (fun z9 => nI (va_up V.tdy 1 0 z9)))), ((a 9), .inl (cI, 2, .inl (fun z9 => nI (va_up V.dys 1 0 z9)))), ((a 10), .inl (cI, 8, .inl (fun z9 => nI (va_up V.pol 4 0 z9)))), ((a 11), .inl (cI, 300, .inl V.kd)), ((a 12), .inl (cI, 300, .inl V.fi)), ((a 13), .inl (cI, 300, .inl V.se)), ((a 14), .inl (cI, 300, .inl V.th))] H := hP
  replace hD : va_D A [(o, .inr (5, [.int 0, .ref (a 0), .ref (a 1), .ref (a 2), .ref (a 3), .ref (a 4), .ref (a 5), .ref (a 6), .ref (a 7), .ref (a 8), .ref (a 9), .ref (a 10), .int (nI V.ne), .ref (a 11), .ref (a 12), .ref (a 13), .ref (a 14), .long V.fo, .int V.fl])), ((a 0), .inl (cI, 2, .inl (fun z9 => nI (va_up V.mn 1 0 z9)))), ((a 1), .inl (cI, 400, .inl (fun z9 => nI (V.pre z9)))), ((a 2), .inl (cI, 400, .inl (fun z9 => nI (V.len z9)))), ((a 3), .inl (cI, 400, .inl (fun z9 => pI (V.par z9)))), ((a 4), .inl (cI, 400, .inl (fun z9 => nI (V.lev z9)))), ((a 5), .inl (cI, 400, .inl (fun z9 => nI (V.hol z9)))), ((a 6), .inl (cI, 400, .inl (fun z9 => nI (V.sta z9)))), ((a 7), .inl (cI, 400, .inl (fun z9 => nI (V.en z9)))), ((a 8), .inl (cI, 2, .inl (fun z9 => nI (va_up V.tdy 1 0 z9)))), ((a 9), .inl (cI, 2, .inl (fun z9 => nI (va_up V.dys 1 0 z9)))), ((a 10), .inl (cI, 8, .inl (fun z9 => nI (va_up V.pol 4 0 z9)))), ((a 11), .inl (cI, 300, .inl V.kd)), ((a 12), .inl (cI, 300, .inl V.fi)), ((a 13), .inl (cI, 300, .inl V.se)), ((a 14), .inl (cI, 300, .inl V.th))] := hD
  refine lv_iinc hx hb d_Mo_replay_66 hl (k := 0) (v := 5) rfl (by decide) (by decide) rfl (fun ls hl => ?_)
  replace hl : lv_has ls 3 [(2, .int 5), (0, .ref o), (1, .int (nI k))] := hl
  refine lv_goto hx hb d_Mo_replay_69 rfl ?_
  refine lv_iload_n hx hb d_Mo_replay_53 rfl (lv_at hl 0 rfl) ?_
  refine lv_bipush (v := 8) hx hb d_Mo_replay_54 (by decide) ?_
  refine lv_icmp_ge hx hb d_Mo_replay_56 rfl (fun h9 => absurd h9 (by decide)) (fun _ => ?_)
  refine lv_aload_n hx hb d_Mo_replay_59 rfl (lv_at hl 1 rfl) ?_
  refine va_get (D := (dC, dI)) (ci := 5) (v := .ref (a 10)) (C := R_Mo) (T := F_Mo) (N := 19) hx hb hts u_Mo hown hK hP 0 rfl rfl 11 (by decide) (hts _ kw_725) (fun _ h9 => h9) rfl d_Mo_replay_60 ?_
  refine lv_iload_n hx hb d_Mo_replay_63 rfl (lv_at hl 0 rfl) ?_
  refine lv_iconst (v := 0) hx hb d_Mo_replay_64 (by decide) ?_
  refine x_iast (j := 5) (g := (fun z9 => nI (va_up (va_up V.pol 4 0) 5 0 z9))) hx hb hK hP hD hS 11 0 rfl rfl (by decide) (by decide) rfl (up_nI _ _ 0) rfl d_Mo_replay_65 (fun H locs hP hD hS => ?_)
  replace hP : va_P (dC, dI) classes [(o, .inr (5, [.int 0, .ref (a 0), .ref (a 1), .ref (a 2), .ref (a 3), .ref (a 4), .ref (a 5), .ref (a 6), .ref (a 7), .ref (a 8), .ref (a 9), .ref (a 10), .int (nI V.ne), .ref (a 11), .ref (a 12), .ref (a 13), .ref (a 14), .long V.fo, .int V.fl])), ((a 0), .inl (cI, 2, .inl (fun z9 => nI (va_up V.mn 1 0 z9)))), ((a 1), .inl (cI, 400, .inl (fun z9 => nI (V.pre z9)))), ((a 2), .inl (cI, 400, .inl (fun z9 => nI (V.len z9)))), ((a 3), .inl (cI, 400, .inl (fun z9 => pI (V.par z9)))), ((a 4), .inl (cI, 400, .inl (fun z9 => nI (V.lev z9)))), ((a 5), .inl (cI, 400, .inl (fun z9 => nI (V.hol z9)))), ((a 6), .inl (cI, 400, .inl (fun z9 => nI (V.sta z9)))), ((a 7), .inl (cI, 400, .inl (fun z9 => nI (V.en z9)))), ((a 8), .inl (cI, 2, .inl (fun z9 => nI (va_up V.tdy 1 0 z9)))), ((a 9), .inl (cI, 2, .inl (fun z9 => nI (va_up V.dys 1 0 z9)))), ((a 10), .inl (cI, 8, .inl (fun z9 => nI (va_up (va_up V.pol 4 0) 5 0 z9)))), ((a 11), .inl (cI, 300, .inl V.kd)), ((a 12), .inl (cI, 300, .inl V.fi)), ((a 13), .inl (cI, 300, .inl V.se)), ((a 14), .inl (cI, 300, .inl V.th))] H := hP
  replace hD : va_D A [(o, .inr (5, [.int 0, .ref (a 0), .ref (a 1), .ref (a 2), .ref (a 3), .ref (a 4), .ref (a 5), .ref (a 6), .ref (a 7), .ref (a 8), .ref (a 9), .ref (a 10), .int (nI V.ne), .ref (a 11), .ref (a 12), .ref (a 13), .ref (a 14), .long V.fo, .int V.fl])), ((a 0), .inl (cI, 2, .inl (fun z9 => nI (va_up V.mn 1 0 z9)))), ((a 1), .inl (cI, 400, .inl (fun z9 => nI (V.pre z9)))), ((a 2), .inl (cI, 400, .inl (fun z9 => nI (V.len z9)))), ((a 3), .inl (cI, 400, .inl (fun z9 => pI (V.par z9)))), ((a 4), .inl (cI, 400, .inl (fun z9 => nI (V.lev z9)))), ((a 5), .inl (cI, 400, .inl (fun z9 => nI (V.hol z9)))), ((a 6), .inl (cI, 400, .inl (fun z9 => nI (V.sta z9)))), ((a 7), .inl (cI, 400, .inl (fun z9 => nI (V.en z9)))), ((a 8), .inl (cI, 2, .inl (fun z9 => nI (va_up V.tdy 1 0 z9)))), ((a 9), .inl (cI, 2, .inl (fun z9 => nI (va_up V.dys 1 0 z9)))), ((a 10), .inl (cI, 8, .inl (fun z9 => nI (va_up (va_up V.pol 4 0) 5 0 z9)))), ((a 11), .inl (cI, 300, .inl V.kd)), ((a 12), .inl (cI, 300, .inl V.fi)), ((a 13), .inl (cI, 300, .inl V.se)), ((a 14), .inl (cI, 300, .inl V.th))] := hD
  refine lv_iinc hx hb d_Mo_replay_66 hl (k := 0) (v := 6) rfl (by decide) (by decide) rfl (fun ls hl => ?_)
  replace hl : lv_has ls 3 [(2, .int 6), (0, .ref o), (1, .int (nI k))] := hl
  refine lv_goto hx hb d_Mo_replay_69 rfl ?_
  refine lv_iload_n hx hb d_Mo_replay_53 rfl (lv_at hl 0 rfl) ?_
  refine lv_bipush (v := 8) hx hb d_Mo_replay_54 (by decide) ?_
  refine lv_icmp_ge hx hb d_Mo_replay_56 rfl (fun h9 => absurd h9 (by decide)) (fun _ => ?_)
  refine lv_aload_n hx hb d_Mo_replay_59 rfl (lv_at hl 1 rfl) ?_
  refine va_get (D := (dC, dI)) (ci := 5) (v := .ref (a 10)) (C := R_Mo) (T := F_Mo) (N := 19) hx hb hts u_Mo hown hK hP 0 rfl rfl 11 (by decide) (hts _ kw_725) (fun _ h9 => h9) rfl d_Mo_replay_60 ?_
  refine lv_iload_n hx hb d_Mo_replay_63 rfl (lv_at hl 0 rfl) ?_
  refine lv_iconst (v := 0) hx hb d_Mo_replay_64 (by decide) ?_
  refine x_iast (j := 6) (g := (fun z9 => nI (va_up (va_up (va_up V.pol 4 0) 5 0) 6 0 z9))) hx hb hK hP hD hS 11 0 rfl rfl (by decide) (by decide) rfl (up_nI _ _ 0) rfl d_Mo_replay_65 (fun H locs hP hD hS => ?_)
  replace hP : va_P (dC, dI) classes [(o, .inr (5, [.int 0, .ref (a 0), .ref (a 1), .ref (a 2), .ref (a 3), .ref (a 4), .ref (a 5), .ref (a 6), .ref (a 7), .ref (a 8), .ref (a 9), .ref (a 10), .int (nI V.ne), .ref (a 11), .ref (a 12), .ref (a 13), .ref (a 14), .long V.fo, .int V.fl])), ((a 0), .inl (cI, 2, .inl (fun z9 => nI (va_up V.mn 1 0 z9)))), ((a 1), .inl (cI, 400, .inl (fun z9 => nI (V.pre z9)))), ((a 2), .inl (cI, 400, .inl (fun z9 => nI (V.len z9)))), ((a 3), .inl (cI, 400, .inl (fun z9 => pI (V.par z9)))), ((a 4), .inl (cI, 400, .inl (fun z9 => nI (V.lev z9)))), ((a 5), .inl (cI, 400, .inl (fun z9 => nI (V.hol z9)))), ((a 6), .inl (cI, 400, .inl (fun z9 => nI (V.sta z9)))), ((a 7), .inl (cI, 400, .inl (fun z9 => nI (V.en z9)))), ((a 8), .inl (cI, 2, .inl (fun z9 => nI (va_up V.tdy 1 0 z9)))), ((a 9), .inl (cI, 2, .inl (fun z9 => nI (va_up V.dys 1 0 z9)))), ((a 10), .inl (cI, 8, .inl (fun z9 => nI (va_up (va_up (va_up V.pol 4 0) 5 0) 6 0 z9)))), ((a 11), .inl (cI, 300, .inl V.kd)), ((a 12), .inl (cI, 300, .inl V.fi)), ((a 13), .inl (cI, 300, .inl V.se)), ((a 14), .inl (cI, 300, .inl V.th))] H := hP
  replace hD : va_D A [(o, .inr (5, [.int 0, .ref (a 0), .ref (a 1), .ref (a 2), .ref (a 3), .ref (a 4), .ref (a 5), .ref (a 6), .ref (a 7), .ref (a 8), .ref (a 9), .ref (a 10), .int (nI V.ne), .ref (a 11), .ref (a 12), .ref (a 13), .ref (a 14), .long V.fo, .int V.fl])), ((a 0), .inl (cI, 2, .inl (fun z9 => nI (va_up V.mn 1 0 z9)))), ((a 1), .inl (cI, 400, .inl (fun z9 => nI (V.pre z9)))), ((a 2), .inl (cI, 400, .inl (fun z9 => nI (V.len z9)))), ((a 3), .inl (cI, 400, .inl (fun z9 => pI (V.par z9)))), ((a 4), .inl (cI, 400, .inl (fun z9 => nI (V.lev z9)))), ((a 5), .inl (cI, 400, .inl (fun z9 => nI (V.hol z9)))), ((a 6), .inl (cI, 400, .inl (fun z9 => nI (V.sta z9)))), ((a 7), .inl (cI, 400, .inl (fun z9 => nI (V.en z9)))), ((a 8), .inl (cI, 2, .inl (fun z9 => nI (va_up V.tdy 1 0 z9)))), ((a 9), .inl (cI, 2, .inl (fun z9 => nI (va_up V.dys 1 0 z9)))), ((a 10), .inl (cI, 8, .inl (fun z9 => nI (va_up (va_up (va_up V.pol 4 0) 5 0) 6 0 z9)))), ((a 11), .inl (cI, 300, .inl V.kd)), ((a 12), .inl (cI, 300, .inl V.fi)), ((a 13), .inl (cI, 300, .inl V.se)), ((a 14), .inl (cI, 300, .inl V.th))] := hD
  refine lv_iinc hx hb d_Mo_replay_66 hl (k := 0) (v := 7) rfl (by decide) (by decide) rfl (fun ls hl => ?_)
  replace hl : lv_has ls 3 [(2, .int 7), (0, .ref o), (1, .int (nI k))] := hl
  refine lv_goto hx hb d_Mo_replay_69 rfl ?_
  refine lv_iload_n hx hb d_Mo_replay_53 rfl (lv_at hl 0 rfl) ?_
  refine lv_bipush (v := 8) hx hb d_Mo_replay_54 (by decide) ?_
  refine lv_icmp_ge hx hb d_Mo_replay_56 rfl (fun h9 => absurd h9 (by decide)) (fun _ => ?_)
  refine lv_aload_n hx hb d_Mo_replay_59 rfl (lv_at hl 1 rfl) ?_
  refine va_get (D := (dC, dI)) (ci := 5) (v := .ref (a 10)) (C := R_Mo) (T := F_Mo) (N := 19) hx hb hts u_Mo hown hK hP 0 rfl rfl 11 (by decide) (hts _ kw_725) (fun _ h9 => h9) rfl d_Mo_replay_60 ?_
  refine lv_iload_n hx hb d_Mo_replay_63 rfl (lv_at hl 0 rfl) ?_
  refine lv_iconst (v := 0) hx hb d_Mo_replay_64 (by decide) ?_
  refine x_iast (j := 7) (g := (fun z9 => nI (va_up (va_up (va_up (va_up V.pol 4 0) 5 0) 6 0) 7 0 z9))) hx hb hK hP hD hS 11 0 rfl rfl (by decide) (by decide) rfl (up_nI _ _ 0) rfl d_Mo_replay_65 (fun H locs hP hD hS => ?_)
  replace hP : va_P (dC, dI) classes [(o, .inr (5, [.int 0, .ref (a 0), .ref (a 1), .ref (a 2), .ref (a 3), .ref (a 4), .ref (a 5), .ref (a 6), .ref (a 7), .ref (a 8), .ref (a 9), .ref (a 10), .int (nI V.ne), .ref (a 11), .ref (a 12), .ref (a 13), .ref (a 14), .long V.fo, .int V.fl])), ((a 0), .inl (cI, 2, .inl (fun z9 => nI (va_up V.mn 1 0 z9)))), ((a 1), .inl (cI, 400, .inl (fun z9 => nI (V.pre z9)))), ((a 2), .inl (cI, 400, .inl (fun z9 => nI (V.len z9)))), ((a 3), .inl (cI, 400, .inl (fun z9 => pI (V.par z9)))), ((a 4), .inl (cI, 400, .inl (fun z9 => nI (V.lev z9)))), ((a 5), .inl (cI, 400, .inl (fun z9 => nI (V.hol z9)))), ((a 6), .inl (cI, 400, .inl (fun z9 => nI (V.sta z9)))), ((a 7), .inl (cI, 400, .inl (fun z9 => nI (V.en z9)))), ((a 8), .inl (cI, 2, .inl (fun z9 => nI (va_up V.tdy 1 0 z9)))), ((a 9), .inl (cI, 2, .inl (fun z9 => nI (va_up V.dys 1 0 z9)))), ((a 10), .inl (cI, 8, .inl (fun z9 => nI (va_up (va_up (va_up (va_up V.pol 4 0) 5 0) 6 0) 7 0 z9)))), ((a 11), .inl (cI, 300, .inl V.kd)), ((a 12), .inl (cI, 300, .inl V.fi)), ((a 13), .inl (cI, 300, .inl V.se)), ((a 14), .inl (cI, 300, .inl V.th))] H := hP
  replace hD : va_D A [(o, .inr (5, [.int 0, .ref (a 0), .ref (a 1), .ref (a 2), .ref (a 3), .ref (a 4), .ref (a 5), .ref (a 6), .ref (a 7), .ref (a 8), .ref (a 9), .ref (a 10), .int (nI V.ne), .ref (a 11), .ref (a 12), .ref (a 13), .ref (a 14), .long V.fo, .int V.fl])), ((a 0), .inl (cI, 2, .inl (fun z9 => nI (va_up V.mn 1 0 z9)))), ((a 1), .inl (cI, 400, .inl (fun z9 => nI (V.pre z9)))), ((a 2), .inl (cI, 400, .inl (fun z9 => nI (V.len z9)))), ((a 3), .inl (cI, 400, .inl (fun z9 => pI (V.par z9)))), ((a 4), .inl (cI, 400, .inl (fun z9 => nI (V.lev z9)))), ((a 5), .inl (cI, 400, .inl (fun z9 => nI (V.hol z9)))), ((a 6), .inl (cI, 400, .inl (fun z9 => nI (V.sta z9)))), ((a 7), .inl (cI, 400, .inl (fun z9 => nI (V.en z9)))), ((a 8), .inl (cI, 2, .inl (fun z9 => nI (va_up V.tdy 1 0 z9)))), ((a 9), .inl (cI, 2, .inl (fun z9 => nI (va_up V.dys 1 0 z9)))), ((a 10), .inl (cI, 8, .inl (fun z9 => nI (va_up (va_up (va_up (va_up V.pol 4 0) 5 0) 6 0) 7 0 z9)))), ((a 11), .inl (cI, 300, .inl V.kd)), ((a 12), .inl (cI, 300, .inl V.fi)), ((a 13), .inl (cI, 300, .inl V.se)), ((a 14), .inl (cI, 300, .inl V.th))] := hD
  refine lv_iinc hx hb d_Mo_replay_66 hl (k := 0) (v := 8) rfl (by decide) (by decide) rfl (fun ls hl => ?_)
  replace hl : lv_has ls 3 [(2, .int 8), (0, .ref o), (1, .int (nI k))] := hl
  refine lv_goto hx hb d_Mo_replay_69 rfl ?_
  refine lv_iload_n hx hb d_Mo_replay_53 rfl (lv_at hl 0 rfl) ?_
  refine lv_bipush (v := 8) hx hb d_Mo_replay_54 (by decide) ?_
  refine lv_icmp_ge hx hb d_Mo_replay_56 rfl (fun _ => ?_) (fun h9 => absurd (by decide) h9)
  refine lv_iconst (v := 0) hx hb d_Mo_replay_72 (by decide) ?_
  refine lv_istore_n hx hb d_Mo_replay_73 rfl hl (by decide) rfl (fun ls hl => ?_)
  replace hl : lv_has ls 3 [(2, .int 0), (0, .ref o), (1, .int (nI k))] := hl
  obtain ⟨V9, hV9e⟩ : ∃ V9 : MS, V9 = vRst V := ⟨_, rfl⟩
  obtain ⟨es9, hes0⟩ : ∃ es9 : List (Nat × Nat × Nat × Nat), es9 = es := ⟨_, rfl⟩
  obtain ⟨i, hi0⟩ : ∃ i : Nat, i = 0 := ⟨_, rfl⟩
  have hrp : rpV V9 es9 = rpV (vRst V) es := by rw [hV9e, hes0]
  have hok9 : rpOK V9 es9 := by rw [hV9e, hes0]; exact (hes h10).2.1
  have hM9 : MSok V9 := by rw [hV9e]; exact vRst_ok hV
  have hen9 : ∀ j x, es9[j]? = some x → entOK V9 (i + j) x := by intro j x q; rw [hV9e, hi0, Nat.zero_add]; rw [hes0] at q; exact (hes h10).2.2 j x q
  have hik : i + es9.length = k := by rw [hi0, hes0, Nat.zero_add]; exact (hes h10).1
  replace hP : va_P (dC, dI) classes (wMo cI o a V9) H := by rw [hV9e]; exact hP
  replace hD : va_D A (wMo cI o a V9) := by rw [hV9e]; exact hD
  replace hl : lv_has ls 3 [(2, .int (nI i)), (0, .ref o), (1, .int (nI k))] := by subst hi0; exact hl
  clear hV9e hes0 hi0
  replace hrp := hrp
  replace hok9 := hok9
  replace hM9 := hM9
  replace hen9 := hen9
  replace hik := hik
  replace hP := hP
  replace hD := hD
  replace hS := hS
  replace hl : lv_has ls 3 [(2, .int (nI i)), (0, .ref o), (1, .int (nI k))] := hl
  induction es9 generalizing i V9 ls H locs with
  | nil =>
    replace hik : i + 0 = k := hik
    refine lv_iload_n hx hb d_Mo_replay_74 rfl (lv_at hl 0 rfl) ?_
    refine lv_iload_n hx hb d_Mo_replay_75 rfl (lv_at hl 2 rfl) ?_
    refine lv_icmp_ge hx hb d_Mo_replay_76 rfl (fun _ => ?_) (fun h9 => absurd (nI_le (by omega) (by have := hV.ne; omega)) h9)
    refine lv_aload_n hx hb d_Mo_replay_90 rfl (lv_at hl 1 rfl) ?_
    refine va_get (D := (dC, dI)) (ci := 5) (v := .ref (a 0)) (C := R_Mo) (T := F_Mo) (N := 19) hx hb hts u_Mo hown hK hP 0 rfl rfl 1 (by decide) (hts _ kw_715) (fun _ h9 => h9) rfl d_Mo_replay_91 ?_
    refine lv_iconst (v := 1) hx hb d_Mo_replay_94 (by decide) ?_
    refine x_iald (j := 1) (v := (nI (V9.mn 1))) hx hb hK hP 1 0 rfl rfl (by decide) (by decide) rfl rfl d_Mo_replay_95 ?_
    have e9 : moRep V k es = V9 := by unfold moRep; rw [if_pos h10]; exact hrp.symm
    have e8 : moRepR V k es = V9.mn 1 := by unfold moRepR; rw [if_pos h10, ← hrp]; rfl
    have hP9 : va_P (dC, dI) classes (wMo cI o a (moRep V k es)) H := by rw [e9]; exact hP
    have hD9 : va_D A (wMo cI o a (moRep V k es)) := by rw [e9]; exact hD
    exact W.iret (v := (nI (V9.mn 1))) hx hb hr (fun t ht hW => ⟨⟨(nI (V9.mn 1)), (), rfl, (by first | (rw [e8]; done) | (rw [e8]; rfl)), by rw [ht]; exact hP9, va_K.moved hW.alike hK, hD9⟩, hS.F ht⟩) hS.2.2 d_Mo_replay_96
  | cons e9 es9 ih =>
    replace hik : i + (es9.length + 1) = k := hik
    refine lv_iload_n hx hb d_Mo_replay_74 rfl (lv_at hl 0 rfl) ?_
    refine lv_iload_n hx hb d_Mo_replay_75 rfl (lv_at hl 2 rfl) ?_
    refine lv_icmp_ge hx hb d_Mo_replay_76 rfl (fun h9 => absurd h9 (nI_ge (by omega) (by have := hV.ne; omega))) (fun _ => ?_)
    refine lv_aload_n hx hb d_Mo_replay_79 rfl (lv_at hl 1 rfl) ?_
    refine lv_iload_n hx hb d_Mo_replay_80 rfl (lv_at hl 0 rfl) ?_
    have hPc := hP.sub (ws' := (wMo cI o a V9)) [0, 1, 2, 3, 4, 5, 6, 7, 8, 9, 10, 11, 12, 13, 14, 15] rfl
    have hDc := hD.sub (ws' := (wMo cI o a V9)) [0, 1, 2, 3, 4, 5, 6, 7, 8, 9, 10, 11, 12, 13, 14, 15] (by decide) rfl
    have hFc := va_free (wc := (wMo cI o a V9)) hD hS hA [0, 1, 2, 3, 4, 5, 6, 7, 8, 9, 10, 11, 12, 13, 14, 15] rfl
    refine va_callv (va_runV (b := o) (As := [.int (nI i)]) (rest := []) ⟨hx, hb, hml, hown, hts⟩ (c_Mo_again l dC dI H.size cI o a V9 hM9 i e9 (by have := hV.ne; omega) (hen9 0 e9 rfl) hok9.1) (cwV 1 hts (gV kw_1013 kw_1015 ks_53 kw_6 kw_1016) rfl rfl rfl (by decide +kernel) ⟨Nat.le_of_ble_eq_true rfl, Nat.le_of_ble_eq_true rfl⟩) ⟨PcM.blind, va_recv (q0 := 0) hK hPc rfl rfl, PcM.use hPc hK hN hDc⟩ rfl rfl hl.1 rfl (lv_room (Nat.le_of_ble_eq_true rfl)) d_Mo_replay_81 ⟨Nat.le_of_ble_eq_true rfl, Nat.le_of_ble_eq_true rfl⟩) hS (fun q _ h => hFc q h) hFc (fun u9 H9 H1 locs hH9 hv9 hp9 hB hz1 hk1 hS => ?_)
    obtain ⟨hP1, hK1, hD1⟩ := hB
    rw [hH9] at hP1
    obtain ⟨hP, hD⟩ := va_join (wr := []) (w1 := (wMo cI o a (agV V9 e9))) hP hD [0, 1, 2, 3, 4, 5, 6, 7, 8, 9, 10, 11, 12, 13, 14, 15] [] rfl rfl (by decide) (by decide) hk1 hFc hP1 hD1
    clear hPc hDc hFc hP1 hD1 hK1 hk1 hz1 hv9 hH9
    generalize H1 = H at hP hS ⊢
    replace hP : va_P (dC, dI) classes [(o, .inr (5, [.int (nI (agV V9 e9).tc), .ref (a 0), .ref (a 1), .ref (a 2), .ref (a 3), .ref (a 4), .ref (a 5), .ref (a 6), .ref (a 7), .ref (a 8), .ref (a 9), .ref (a 10), .int (nI (agV V9 e9).ne), .ref (a 11), .ref (a 12), .ref (a 13), .ref (a 14), .long ((agV V9 e9).fo), .int ((agV V9 e9).fl)])), ((a 0), .inl (cI, 2, .inl (fun z9 => nI ((agV V9 e9).mn z9)))), ((a 1), .inl (cI, 400, .inl (fun z9 => nI ((agV V9 e9).pre z9)))), ((a 2), .inl (cI, 400, .inl (fun z9 => nI ((agV V9 e9).len z9)))), ((a 3), .inl (cI, 400, .inl (fun z9 => pI ((agV V9 e9).par z9)))), ((a 4), .inl (cI, 400, .inl (fun z9 => nI ((agV V9 e9).lev z9)))), ((a 5), .inl (cI, 400, .inl (fun z9 => nI ((agV V9 e9).hol z9)))), ((a 6), .inl (cI, 400, .inl (fun z9 => nI ((agV V9 e9).sta z9)))), ((a 7), .inl (cI, 400, .inl (fun z9 => nI ((agV V9 e9).en z9)))), ((a 8), .inl (cI, 2, .inl (fun z9 => nI ((agV V9 e9).tdy z9)))), ((a 9), .inl (cI, 2, .inl (fun z9 => nI ((agV V9 e9).dys z9)))), ((a 10), .inl (cI, 8, .inl (fun z9 => nI ((agV V9 e9).pol z9)))), ((a 11), .inl (cI, 300, .inl ((agV V9 e9).kd))), ((a 12), .inl (cI, 300, .inl ((agV V9 e9).fi))), ((a 13), .inl (cI, 300, .inl ((agV V9 e9).se))), ((a 14), .inl (cI, 300, .inl ((agV V9 e9).th)))] H := hP.sub (ws' := [(o, .inr (5, [.int (nI (agV V9 e9).tc), .ref (a 0), .ref (a 1), .ref (a 2), .ref (a 3), .ref (a 4), .ref (a 5), .ref (a 6), .ref (a 7), .ref (a 8), .ref (a 9), .ref (a 10), .int (nI (agV V9 e9).ne), .ref (a 11), .ref (a 12), .ref (a 13), .ref (a 14), .long ((agV V9 e9).fo), .int ((agV V9 e9).fl)])), ((a 0), .inl (cI, 2, .inl (fun z9 => nI ((agV V9 e9).mn z9)))), ((a 1), .inl (cI, 400, .inl (fun z9 => nI ((agV V9 e9).pre z9)))), ((a 2), .inl (cI, 400, .inl (fun z9 => nI ((agV V9 e9).len z9)))), ((a 3), .inl (cI, 400, .inl (fun z9 => pI ((agV V9 e9).par z9)))), ((a 4), .inl (cI, 400, .inl (fun z9 => nI ((agV V9 e9).lev z9)))), ((a 5), .inl (cI, 400, .inl (fun z9 => nI ((agV V9 e9).hol z9)))), ((a 6), .inl (cI, 400, .inl (fun z9 => nI ((agV V9 e9).sta z9)))), ((a 7), .inl (cI, 400, .inl (fun z9 => nI ((agV V9 e9).en z9)))), ((a 8), .inl (cI, 2, .inl (fun z9 => nI ((agV V9 e9).tdy z9)))), ((a 9), .inl (cI, 2, .inl (fun z9 => nI ((agV V9 e9).dys z9)))), ((a 10), .inl (cI, 8, .inl (fun z9 => nI ((agV V9 e9).pol z9)))), ((a 11), .inl (cI, 300, .inl ((agV V9 e9).kd))), ((a 12), .inl (cI, 300, .inl ((agV V9 e9).fi))), ((a 13), .inl (cI, 300, .inl ((agV V9 e9).se))), ((a 14), .inl (cI, 300, .inl ((agV V9 e9).th)))]) [0, 1, 2, 3, 4, 5, 6, 7, 8, 9, 10, 11, 12, 13, 14, 15] rfl
    replace hD : va_D A [(o, .inr (5, [.int (nI (agV V9 e9).tc), .ref (a 0), .ref (a 1), .ref (a 2), .ref (a 3), .ref (a 4), .ref (a 5), .ref (a 6), .ref (a 7), .ref (a 8), .ref (a 9), .ref (a 10), .int (nI (agV V9 e9).ne), .ref (a 11), .ref (a 12), .ref (a 13), .ref (a 14), .long ((agV V9 e9).fo), .int ((agV V9 e9).fl)])), ((a 0), .inl (cI, 2, .inl (fun z9 => nI ((agV V9 e9).mn z9)))), ((a 1), .inl (cI, 400, .inl (fun z9 => nI ((agV V9 e9).pre z9)))), ((a 2), .inl (cI, 400, .inl (fun z9 => nI ((agV V9 e9).len z9)))), ((a 3), .inl (cI, 400, .inl (fun z9 => pI ((agV V9 e9).par z9)))), ((a 4), .inl (cI, 400, .inl (fun z9 => nI ((agV V9 e9).lev z9)))), ((a 5), .inl (cI, 400, .inl (fun z9 => nI ((agV V9 e9).hol z9)))), ((a 6), .inl (cI, 400, .inl (fun z9 => nI ((agV V9 e9).sta z9)))), ((a 7), .inl (cI, 400, .inl (fun z9 => nI ((agV V9 e9).en z9)))), ((a 8), .inl (cI, 2, .inl (fun z9 => nI ((agV V9 e9).tdy z9)))), ((a 9), .inl (cI, 2, .inl (fun z9 => nI ((agV V9 e9).dys z9)))), ((a 10), .inl (cI, 8, .inl (fun z9 => nI ((agV V9 e9).pol z9)))), ((a 11), .inl (cI, 300, .inl ((agV V9 e9).kd))), ((a 12), .inl (cI, 300, .inl ((agV V9 e9).fi))), ((a 13), .inl (cI, 300, .inl ((agV V9 e9).se))), ((a 14), .inl (cI, 300, .inl ((agV V9 e9).th)))] := hD.sub (ws' := [(o, .inr (5, [.int (nI (agV V9 e9).tc), .ref (a 0), .ref (a 1), .ref (a 2), .ref (a 3), .ref (a 4), .ref (a 5), .ref (a 6), .ref (a 7), .ref (a 8), .ref (a 9), .ref (a 10), .int (nI (agV V9 e9).ne), .ref (a 11), .ref (a 12), .ref (a 13), .ref (a 14), .long ((agV V9 e9).fo), .int ((agV V9 e9).fl)])), ((a 0), .inl (cI, 2, .inl (fun z9 => nI ((agV V9 e9).mn z9)))), ((a 1), .inl (cI, 400, .inl (fun z9 => nI ((agV V9 e9).pre z9)))), ((a 2), .inl (cI, 400, .inl (fun z9 => nI ((agV V9 e9).len z9)))), ((a 3), .inl (cI, 400, .inl (fun z9 => pI ((agV V9 e9).par z9)))), ((a 4), .inl (cI, 400, .inl (fun z9 => nI ((agV V9 e9).lev z9)))), ((a 5), .inl (cI, 400, .inl (fun z9 => nI ((agV V9 e9).hol z9)))), ((a 6), .inl (cI, 400, .inl (fun z9 => nI ((agV V9 e9).sta z9)))), ((a 7), .inl (cI, 400, .inl (fun z9 => nI ((agV V9 e9).en z9)))), ((a 8), .inl (cI, 2, .inl (fun z9 => nI ((agV V9 e9).tdy z9)))), ((a 9), .inl (cI, 2, .inl (fun z9 => nI ((agV V9 e9).dys z9)))), ((a 10), .inl (cI, 8, .inl (fun z9 => nI ((agV V9 e9).pol z9)))), ((a 11), .inl (cI, 300, .inl ((agV V9 e9).kd))), ((a 12), .inl (cI, 300, .inl ((agV V9 e9).fi))), ((a 13), .inl (cI, 300, .inl ((agV V9 e9).se))), ((a 14), .inl (cI, 300, .inl ((agV V9 e9).th)))]) [0, 1, 2, 3, 4, 5, 6, 7, 8, 9, 10, 11, 12, 13, 14, 15] (by decide) rfl
    refine lv_iinc hx hb d_Mo_replay_84 hl (k := 0) (v := (nI (i + 1))) rfl (nI_1 i) (by decide) rfl (fun ls hl => ?_)
    replace hl : lv_has ls 3 [(2, .int (nI (i + 1))), (0, .ref o), (1, .int (nI k))] := hl
    refine lv_goto hx hb d_Mo_replay_87 rfl ?_
    replace hP : va_P (dC, dI) classes (wMo cI o a (agV V9 e9)) H := hP
    replace hD : va_D A (wMo cI o a (agV V9 e9)) := hD
    refine ih _ _ _ _ _ hrp hok9.2.2 hok9.2.1 ?_ ?_ hP hD hS hl
    · intro j x q; have h9 := hen9 (j + 1) x q; rw [show i + 1 + j = i + (j + 1) by omega]; exact agV_ent h9
    · omega
set_option maxHeartbeats 4000000 in
set_option maxRecDepth 100000 in
theorem c_Mo_same (l : Launch) (dC : Nat → ClassId) (dI : Nat → Nat → Nat) (sz : Nat) (cI : ClassId) (o : Nat) (a : Nat → Nat) (V : MS) (hV : MSok V) : Met l y_Mo_same (.code y_Mo_same b_Mo_same 4 (some .boolean) :: wG) ({ frames := 2, cells := 0, slots := 0, locals := 43 }) (PcM (dC, dI) [(cI, .int)] (wMo cI o a V) [.ref o] sz) (QmI (dC, dI) [(cI, .int)] (wMo cI o a V) (wMo cI o a (mkV V.mn V.pre V.len V.lev V.hol V.sta V.en V.tdy V.dys V.pol V.par V.kd V.fi V.se V.th V.ne 0 V.fo V.fl)) sz (bi (smN V))) 0 0 (va_A (wMo cI o a V) sz) := by
  refine Met.ofW (cc := b_Mo_same) (maxL := 4) (ret := (some .boolean)) (by decide) rfl ?_
  intro pg eg s mg ag bg meth cg s₁ B hml hv
  obtain ⟨rfl, hsz, hP, hK, hD0, hN⟩ := hv
  have hx := B.exec
  have hb := B.bytes
  have hr := B.returns
  have hlocks := B.notSynchronized
  have hts : ∀ w9 ∈ wG, w9.before ([.ref o] : List Value).toArray s = true := fun w9 h9 => atoms_spec (ws := (.code y_Mo_same b_Mo_same 4 (some .boolean) :: wG)) B.pre w9 (List.mem_cons_of_mem _ h9)
  have hown : s.vm.findClass "PrefixRegistryModel" = some mg.cls := findClass_of_methodNamed B.named
  subst hsz
  have hD := hD0.self (sz := s.heap.size)
  unfold QmI
  generalize hAe : va_A (wMo cI o a V) s.heap.size = A at hD ⊢
  have hA : ∀ q : Nat, s.heap.size ≤ q → A q := fun q h => by rw [← hAe]; exact Or.inr h
  have hS : va_S A s.heap s.heap [] := va_S.rf
  have hl := lv_entry ([.ref o]) (n := 4) (Nat.le_of_ble_eq_true rfl)
  rw [lg_entry_eq]
  generalize (lg_sl ([.ref o]) ++ List.replicate (4 - (lg_sl ([.ref o])).length) Slot.unset).toArray = ls at hl ⊢
  replace hl : lv_has ls 4 [(0, .ref o)] := hl
  replace hP : va_P (dC, dI) classes (wMo cI o a V) s.heap := hP
  replace hD : va_D A (wMo cI o a V) := hD
  refine lv_aload_n hx hb d_Mo_same_0 rfl (lv_at hl 0 rfl) ?_
  refine lv_iconst (v := 0) hx hb d_Mo_same_1 (by decide) ?_
  refine va_put (D := (dC, dI)) (ci := 5) (v := .int 0) (ty := .int) (C := R_Mo) (T := F_Mo) (N := 19) hx hb hts u_Mo t_Mo t_Mo_ok n_Mo hown hK hP hD hS 0 rfl rfl 0 (by decide) (hts _ kw_714) (fun _ h9 => h9) rfl (by decide +kernel) rfl rfl (Nat.le_of_ble_eq_true rfl) d_Mo_same_2 (fun H locs hP hD hS => ?_)
  replace hP : va_P (dC, dI) classes [(o, .inr (5, [.int 0, .ref (a 0), .ref (a 1), .ref (a 2), .ref (a 3), .ref (a 4), .ref (a 5), .ref (a 6), .ref (a 7), .ref (a 8), .ref (a 9), .ref (a 10), .int (nI V.ne), .ref (a 11), .ref (a 12), .ref (a 13), .ref (a 14), .long V.fo, .int V.fl])), ((a 0), .inl (cI, 2, .inl (fun z9 => nI (V.mn z9)))), ((a 1), .inl (cI, 400, .inl (fun z9 => nI (V.pre z9)))), ((a 2), .inl (cI, 400, .inl (fun z9 => nI (V.len z9)))), ((a 3), .inl (cI, 400, .inl (fun z9 => pI (V.par z9)))), ((a 4), .inl (cI, 400, .inl (fun z9 => nI (V.lev z9)))), ((a 5), .inl (cI, 400, .inl (fun z9 => nI (V.hol z9)))), ((a 6), .inl (cI, 400, .inl (fun z9 => nI (V.sta z9)))), ((a 7), .inl (cI, 400, .inl (fun z9 => nI (V.en z9)))), ((a 8), .inl (cI, 2, .inl (fun z9 => nI (V.tdy z9)))), ((a 9), .inl (cI, 2, .inl (fun z9 => nI (V.dys z9)))), ((a 10), .inl (cI, 8, .inl (fun z9 => nI (V.pol z9)))), ((a 11), .inl (cI, 300, .inl V.kd)), ((a 12), .inl (cI, 300, .inl V.fi)), ((a 13), .inl (cI, 300, .inl V.se)), ((a 14), .inl (cI, 300, .inl V.th))] H := hP
  replace hD : va_D A [(o, .inr (5, [.int 0, .ref (a 0), .ref (a 1), .ref (a 2), .ref (a 3), .ref (a 4), .ref (a 5), .ref (a 6), .ref (a 7), .ref (a 8), .ref (a 9), .ref (a 10), .int (nI V.ne), .ref (a 11), .ref (a 12), .ref (a 13), .ref (a 14), .long V.fo, .int V.fl])), ((a 0), .inl (cI, 2, .inl (fun z9 => nI (V.mn z9)))), ((a 1), .inl (cI, 400, .inl (fun z9 => nI (V.pre z9)))), ((a 2), .inl (cI, 400, .inl (fun z9 => nI (V.len z9)))), ((a 3), .inl (cI, 400, .inl (fun z9 => pI (V.par z9)))), ((a 4), .inl (cI, 400, .inl (fun z9 => nI (V.lev z9)))), ((a 5), .inl (cI, 400, .inl (fun z9 => nI (V.hol z9)))), ((a 6), .inl (cI, 400, .inl (fun z9 => nI (V.sta z9)))), ((a 7), .inl (cI, 400, .inl (fun z9 => nI (V.en z9)))), ((a 8), .inl (cI, 2, .inl (fun z9 => nI (V.tdy z9)))), ((a 9), .inl (cI, 2, .inl (fun z9 => nI (V.dys z9)))), ((a 10), .inl (cI, 8, .inl (fun z9 => nI (V.pol z9)))), ((a 11), .inl (cI, 300, .inl V.kd)), ((a 12), .inl (cI, 300, .inl V.fi)), ((a 13), .inl (cI, 300, .inl V.se)), ((a 14), .inl (cI, 300, .inl V.th))] := hD
  refine lv_aload_n hx hb d_Mo_same_5 rfl (lv_at hl 0 rfl) ?_
  refine va_get (D := (dC, dI)) (ci := 5) (v := .ref (a 0)) (C := R_Mo) (T := F_Mo) (N := 19) hx hb hts u_Mo hown hK hP 0 rfl rfl 1 (by decide) (hts _ kw_715) (fun _ h9 => h9) rfl d_Mo_same_6 ?_
  refine lv_iconst (v := 0) hx hb d_Mo_same_9 (by decide) ?_
  refine x_iald (j := 0) (v := (nI (V.mn 0))) hx hb hK hP 1 0 rfl rfl (by decide) (by decide) rfl rfl d_Mo_same_10 ?_
  refine lv_aload_n hx hb d_Mo_same_11 rfl (lv_at hl 0 rfl) ?_
  refine va_get (D := (dC, dI)) (ci := 5) (v := .ref (a 0)) (C := R_Mo) (T := F_Mo) (N := 19) hx hb hts u_Mo hown hK hP 0 rfl rfl 1 (by decide) (hts _ kw_715) (fun _ h9 => h9) rfl d_Mo_same_12 ?_
  refine lv_iconst (v := 1) hx hb d_Mo_same_15 (by decide) ?_
  refine x_iald (j := 1) (v := (nI (V.mn 1))) hx hb hK hP 1 0 rfl rfl (by decide) (by decide) rfl rfl d_Mo_same_16 ?_
  refine lv_icmp_ne hx hb d_Mo_same_17 rfl (fun h17 => ?_) (fun h17 => ?_)
  · have h17 := mt (nI_eq (by have := hV.mn 0; omega) (by have := hV.mn 1; omega)).mpr h17
    refine lv_iconst (v := 0) hx hb d_Mo_same_54 (by decide) ?_
    refine x_topi (y := (bi false)) rfl ?_
    have hsm : false = smI V := (decide_eq_false (fun q => h17 q.1)).symm
    refine lv_istore_n hx hb d_Mo_same_55 rfl hl (by decide) rfl (fun ls hl => ?_)
    replace hl : lv_has ls 4 [(1, .int (bi false)), (0, .ref o)] := hl
    refine lv_iconst (v := 0) hx hb d_Mo_same_56 (by decide) ?_
    refine lv_istore_n hx hb d_Mo_same_57 rfl hl (by decide) rfl (fun ls hl => ?_)
    replace hl : lv_has ls 4 [(2, .int 0), (1, .int (bi false)), (0, .ref o)] := hl
    obtain ⟨i, hi0⟩ : ∃ i : Nat, i = 0 := ⟨_, rfl⟩
    obtain ⟨k, hk0⟩ : ∃ k : Nat, k = 4 - 0 := ⟨_, rfl⟩
    obtain ⟨ac, hac⟩ : ∃ ac : Bool, ac = false := ⟨_, rfl⟩
    have hres1 : allF (plQ V) i k ac = (allF (plQ V) 0 4 (smI V)) := (by first | (rw [hi0, hk0, hac, hsm]; done) | (rw [hi0, hk0, hac, hsm]; rfl))
    replace hl : lv_has ls 4 [(2, .int (nI i)), (1, .int (bi ac)), (0, .ref o)] := by subst hi0; subst hac; exact hl
    have hik : i + k = 4 := by omega
    clear hi0 hk0 hac
    replace hres1 := hres1
    replace hl : lv_has ls 4 [(2, .int (nI i)), (1, .int (bi ac)), (0, .ref o)] := hl
    induction k generalizing i ls ac with
    | zero =>
      refine lv_iload_n hx hb d_Mo_same_58 rfl (lv_at hl 0 rfl) ?_
      refine lv_iconst (v := 4) hx hb d_Mo_same_59 (by decide) ?_
      refine lv_icmp_ge hx hb d_Mo_same_60 rfl (fun _ => ?_) (fun h9 => absurd (nI_le (a := 4) (by omega) (by omega)) h9)
      refine lv_iconst (v := 0) hx hb d_Mo_same_96 (by decide) ?_
      refine lv_istore_n hx hb d_Mo_same_97 rfl hl (by decide) rfl (fun ls hl => ?_)
      replace hl : lv_has ls 4 [(2, .int 0), (1, .int (bi ac)), (0, .ref o)] := hl
      obtain ⟨i2, hi20⟩ : ∃ i2 : Nat, i2 = 0 := ⟨_, rfl⟩
      obtain ⟨k2, hk20⟩ : ∃ k2 : Nat, k2 = V.mn 0 - 0 := ⟨_, rfl⟩
      obtain ⟨a2, ha2⟩ : ∃ a2 : Bool, a2 = ac := ⟨_, rfl⟩
      have hres2 : smB V i2 k2 a2 = smB V 0 (V.mn 0) (allF (plQ V) 0 4 (smI V)) := (by rw [hi20, hk20, ha2, ← hres1]; rfl)
      replace hl : lv_has ls 4 [(2, .int (nI i2)), (1, .int (bi a2)), (0, .ref o)] := by subst hi20; subst ha2; exact hl
      have hi2k2 : i2 + k2 = V.mn 0 := by omega
      clear hi20 hk20 ha2
      replace hres2 := hres2
      replace hl : lv_has ls 4 [(2, .int (nI i2)), (1, .int (bi a2)), (0, .ref o)] := hl
      induction k2 generalizing i2 ls a2 with
      | zero =>
        refine lv_iload_n hx hb d_Mo_same_98 rfl (lv_at hl 0 rfl) ?_
        refine lv_aload_n hx hb d_Mo_same_99 rfl (lv_at hl 2 rfl) ?_
        refine va_get (D := (dC, dI)) (ci := 5) (v := .ref (a 0)) (C := R_Mo) (T := F_Mo) (N := 19) hx hb hts u_Mo hown hK hP 0 rfl rfl 1 (by decide) (hts _ kw_715) (fun _ h9 => h9) rfl d_Mo_same_100 ?_
        refine lv_iconst (v := 0) hx hb d_Mo_same_103 (by decide) ?_
        refine x_iald (j := 0) (v := (nI (V.mn 0))) hx hb hK hP 1 0 rfl rfl (by decide) (by decide) rfl rfl d_Mo_same_104 ?_
        refine lv_icmp_ge hx hb d_Mo_same_105 rfl (fun _ => ?_) (fun h9 => absurd (nI_le (by omega) (by have := hV.mn 0; omega)) h9)
        refine lv_iload_n hx hb d_Mo_same_161 rfl (lv_at hl 1 rfl) ?_
        have hP9 : va_P (dC, dI) classes (wMo cI o a (mkV V.mn V.pre V.len V.lev V.hol V.sta V.en V.tdy V.dys V.pol V.par V.kd V.fi V.se V.th V.ne 0 V.fo V.fl)) H := hP
        have hD9 : va_D A (wMo cI o a (mkV V.mn V.pre V.len V.lev V.hol V.sta V.en V.tdy V.dys V.pol V.par V.kd V.fi V.se V.th V.ne 0 V.fo V.fl)) := hD
        exact W.zret (v := (bi a2)) hx hb hr (bi_nar _) (fun t ht hW => ⟨⟨(bi a2), (), rfl, (by unfold smN; show bi a2 = bi _; rw [← hres2]; rfl), by rw [ht]; exact hP9, va_K.moved hW.alike hK, hD9⟩, hS.F ht⟩) hS.2.2 d_Mo_same_162
      | succ k2 ih2 =>
        refine lv_iload_n hx hb d_Mo_same_98 rfl (lv_at hl 0 rfl) ?_
        refine lv_aload_n hx hb d_Mo_same_99 rfl (lv_at hl 2 rfl) ?_
        refine va_get (D := (dC, dI)) (ci := 5) (v := .ref (a 0)) (C := R_Mo) (T := F_Mo) (N := 19) hx hb hts u_Mo hown hK hP 0 rfl rfl 1 (by decide) (hts _ kw_715) (fun _ h9 => h9) rfl d_Mo_same_100 ?_
        refine lv_iconst (v := 0) hx hb d_Mo_same_103 (by decide) ?_
        refine x_iald (j := 0) (v := (nI (V.mn 0))) hx hb hK hP 1 0 rfl rfl (by decide) (by decide) rfl rfl d_Mo_same_104 ?_
        refine lv_icmp_ge hx hb d_Mo_same_105 rfl (fun h9 => absurd h9 (nI_ge (by omega) (by have := hV.mn 0; omega))) (fun _ => ?_)
        refine lv_iload_n hx hb d_Mo_same_108 rfl (lv_at hl 1 rfl) ?_
        refine lv_if_eq hx hb d_Mo_same_109 rfl (fun h109 => ?_) (fun h109 => ?_)
        · have h109 : a2 = false := bi_eq0.mp h109
          refine lv_iload_n hx hb d_Mo_same_161 rfl (lv_at hl 1 rfl) ?_
          have hP9 : va_P (dC, dI) classes (wMo cI o a (mkV V.mn V.pre V.len V.lev V.hol V.sta V.en V.tdy V.dys V.pol V.par V.kd V.fi V.se V.th V.ne 0 V.fo V.fl)) H := hP
          have hD9 : va_D A (wMo cI o a (mkV V.mn V.pre V.len V.lev V.hol V.sta V.en V.tdy V.dys V.pol V.par V.kd V.fi V.se V.th V.ne 0 V.fo V.fl)) := hD
          exact W.zret (v := (bi a2)) hx hb hr (bi_nar _) (fun t ht hW => ⟨⟨(bi a2), (), rfl, (by unfold smN; show bi a2 = bi _; rw [← hres2]; simp only [smB]; rw [if_neg (by rw [h109]; decide)]), by rw [ht]; exact hP9, va_K.moved hW.alike hK, hD9⟩, hS.F ht⟩) hS.2.2 d_Mo_same_162
        have h109 : a2 = true := bi_n0 h109
        refine lv_iconst (v := 0) hx hb d_Mo_same_112 (by decide) ?_
        refine lv_istore_n hx hb d_Mo_same_113 rfl hl (by decide) rfl (fun ls hl => ?_)
        replace hl : lv_has ls 4 [(3, .int 0), (2, .int (nI i2)), (1, .int (bi a2)), (0, .ref o)] := hl
        obtain ⟨j, hj0⟩ : ∃ j : Nat, j = 0 := ⟨_, rfl⟩
        obtain ⟨k3, hk30⟩ : ∃ k3 : Nat, k3 = 7 - 0 := ⟨_, rfl⟩
        obtain ⟨a3, ha3⟩ : ∃ a3 : Bool, a3 = a2 := ⟨_, rfl⟩
        have hres3 : allF (fdQ V i2) j k3 a3 = allF (fdQ V i2) 0 7 a2 := (by first | (rw [hj0, hk30, ha3]; done) | (rw [hj0, hk30, ha3]; rfl))
        replace hl : lv_has ls 4 [(3, .int (nI j)), (2, .int (nI i2)), (1, .int (bi a3)), (0, .ref o)] := by subst hj0; subst ha3; exact hl
        have hjk3 : j + k3 = 7 := by omega
        clear hj0 hk30 ha3
        replace hres3 := hres3
        replace hl : lv_has ls 4 [(3, .int (nI j)), (2, .int (nI i2)), (1, .int (bi a3)), (0, .ref o)] := hl
        induction k3 generalizing j ls a3 with
        | zero =>
          refine lv_iload_n hx hb d_Mo_same_114 rfl (lv_at hl 0 rfl) ?_
          refine lv_bipush (v := 7) hx hb d_Mo_same_115 (by decide) ?_
          refine lv_icmp_ge hx hb d_Mo_same_117 rfl (fun _ => ?_) (fun h9 => absurd (nI_le (a := 7) (by omega) (by omega)) h9)
          refine lv_iinc hx hb d_Mo_same_155 hl (k := 1) (v := (nI (i2 + 1))) rfl (nI_1 i2) (by decide) rfl (fun ls hl => ?_)
          replace hl : lv_has ls 4 [(2, .int (nI (i2 + 1))), (3, .int (nI j)), (1, .int (bi a3)), (0, .ref o)] := hl
          refine lv_goto hx hb d_Mo_same_158 rfl ?_
          refine ih2 _ _ _ ?_ ?_ (lv_sub hl [0, 2, 3] rfl)
          · omega
          · exact (by rw [← hres2]; simp only [smB]; rw [if_pos h109, ← hres3]; rfl)
        | succ k3 ih3 =>
          refine lv_iload_n hx hb d_Mo_same_114 rfl (lv_at hl 0 rfl) ?_
          refine lv_bipush (v := 7) hx hb d_Mo_same_115 (by decide) ?_
          refine lv_icmp_ge hx hb d_Mo_same_117 rfl (fun h9 => absurd h9 (nI_ge (b := 7) (by omega) (by omega))) (fun _ => ?_)
          refine lv_iload_n hx hb d_Mo_same_120 rfl (lv_at hl 2 rfl) ?_
          refine lv_if_eq hx hb d_Mo_same_121 rfl (fun h121 => ?_) (fun h121 => ?_)
          · have h121 : a3 = false := bi_eq0.mp h121
            refine lv_iconst (v := 0) hx hb d_Mo_same_147 (by decide) ?_
            refine x_topi (y := (bi false)) rfl ?_
            refine lv_istore_n hx hb d_Mo_same_148 rfl hl (by decide) rfl (fun ls hl => ?_)
            replace hl : lv_has ls 4 [(1, .int (bi false)), (3, .int (nI j)), (2, .int (nI i2)), (0, .ref o)] := hl
            refine lv_iinc hx hb d_Mo_same_149 hl (k := 1) (v := (nI (j + 1))) rfl (nI_1 j) (by decide) rfl (fun ls hl => ?_)
            replace hl : lv_has ls 4 [(3, .int (nI (j + 1))), (1, .int (bi false)), (2, .int (nI i2)), (0, .ref o)] := hl
            refine lv_goto hx hb d_Mo_same_152 rfl ?_
            refine ih3 _ _ _ ?_ ?_ (lv_sub hl [0, 2, 1, 3] rfl)
            · omega
            · exact (by rw [← hres3]; simp only [allF]; rw [h121, Bool.false_and])
          have h121 : a3 = true := bi_n0 h121
          refine lv_aload_n hx hb d_Mo_same_124 rfl (lv_at hl 3 rfl) ?_
          refine lv_iload_n hx hb d_Mo_same_125 rfl (lv_at hl 1 rfl) ?_
          refine lv_iload_n hx hb d_Mo_same_126 rfl (lv_at hl 0 rfl) ?_
          refine vp_callSi (W.runV (b := o) (As := [.int (nI i2), .int (nI j)]) (rest := []) ⟨hx, hb, hml, hown, hts⟩ (c_Mo_fieldOf l dC dI cI o a (mkV V.mn V.pre V.len V.lev V.hol V.sta V.en V.tdy V.dys V.pol V.par V.kd V.fi V.se V.th V.ne 0 V.fo V.fl) hV i2 (by have := hV.mn 0; omega) j (by omega)) (cwV 2 hts (gV kw_963 kw_965 ks_51 kw_6 kw_966) rfl rfl rfl (by decide +kernel) ⟨Nat.le_of_ble_eq_true rfl, Nat.le_of_ble_eq_true rfl⟩) ⟨PcS.blind, va_recv (q0 := 0) hK hP rfl rfl, PcS.use hP hK hN⟩ rfl rfl hl.1 rfl (lv_room (Nat.le_of_ble_eq_true rfl)) d_Mo_same_127 ⟨Nat.zero_le _, Nat.zero_le _⟩) (fun r127 hr127 => ?_)
          obtain rfl : r127 = (fdN V i2 j) := hr127
          refine lv_aload_n hx hb d_Mo_same_130 rfl (lv_at hl 3 rfl) ?_
          refine lv_sipush (v := 200) hx hb d_Mo_same_131 (by decide) ?_
          refine lv_iload_n hx hb d_Mo_same_134 rfl (lv_at hl 1 rfl) ?_
          refine lv_iadd hx hb d_Mo_same_135 ?_
          refine x_topi (y := (nI (200 + i2))) (nI_add 200 _) ?_
          refine lv_iload_n hx hb d_Mo_same_136 rfl (lv_at hl 0 rfl) ?_
          refine vp_callSi (W.runV (b := o) (As := [.int (nI (200 + i2)), .int (nI j)]) (rest := [.int (fdN V i2 j)]) ⟨hx, hb, hml, hown, hts⟩ (c_Mo_fieldOf l dC dI cI o a (mkV V.mn V.pre V.len V.lev V.hol V.sta V.en V.tdy V.dys V.pol V.par V.kd V.fi V.se V.th V.ne 0 V.fo V.fl) hV (200 + i2) (by have := hV.mn 0; omega) j (by omega)) (cwV 2 hts (gV kw_963 kw_965 ks_51 kw_6 kw_966) rfl rfl rfl (by decide +kernel) ⟨Nat.le_of_ble_eq_true rfl, Nat.le_of_ble_eq_true rfl⟩) ⟨PcS.blind, va_recv (q0 := 0) hK hP rfl rfl, PcS.use hP hK hN⟩ rfl rfl hl.1 rfl (lv_room (Nat.le_of_ble_eq_true rfl)) d_Mo_same_137 ⟨Nat.zero_le _, Nat.zero_le _⟩) (fun r137 hr137 => ?_)
          obtain rfl : r137 = (fdN V (200 + i2) j) := hr137
          refine lv_icmp_ne hx hb d_Mo_same_140 rfl (fun h140 => ?_) (fun h140 => ?_)
          · refine lv_iconst (v := 0) hx hb d_Mo_same_147 (by decide) ?_
            refine x_topi (y := (bi false)) rfl ?_
            refine lv_istore_n hx hb d_Mo_same_148 rfl hl (by decide) rfl (fun ls hl => ?_)
            replace hl : lv_has ls 4 [(1, .int (bi false)), (3, .int (nI j)), (2, .int (nI i2)), (0, .ref o)] := hl
            refine lv_iinc hx hb d_Mo_same_149 hl (k := 1) (v := (nI (j + 1))) rfl (nI_1 j) (by decide) rfl (fun ls hl => ?_)
            replace hl : lv_has ls 4 [(3, .int (nI (j + 1))), (1, .int (bi false)), (2, .int (nI i2)), (0, .ref o)] := hl
            refine lv_goto hx hb d_Mo_same_152 rfl ?_
            refine ih3 _ _ _ ?_ ?_ (lv_sub hl [0, 2, 1, 3] rfl)
            · omega
            · exact (by rw [← hres3]; simp only [allF]; rw [h121, Bool.true_and, show fdQ V i2 j = false from decide_eq_false h140])
          refine lv_iconst (v := 1) hx hb d_Mo_same_143 (by decide) ?_
          refine x_topi (y := (bi true)) rfl ?_
          refine lv_goto hx hb d_Mo_same_144 rfl ?_
          refine lv_istore_n hx hb d_Mo_same_148 rfl hl (by decide) rfl (fun ls hl => ?_)
          replace hl : lv_has ls 4 [(1, .int (bi true)), (3, .int (nI j)), (2, .int (nI i2)), (0, .ref o)] := hl
          refine lv_iinc hx hb d_Mo_same_149 hl (k := 1) (v := (nI (j + 1))) rfl (nI_1 j) (by decide) rfl (fun ls hl => ?_)
          replace hl : lv_has ls 4 [(3, .int (nI (j + 1))), (1, .int (bi true)), (2, .int (nI i2)), (0, .ref o)] := hl
          refine lv_goto hx hb d_Mo_same_152 rfl ?_
          refine ih3 _ _ _ ?_ ?_ (lv_sub hl [0, 2, 1, 3] rfl)
          · omega
          · exact (by rw [← hres3]; simp only [allF]; rw [h121, Bool.true_and, show fdQ V i2 j = true from decide_eq_true h140])
    | succ k ih =>
      refine lv_iload_n hx hb d_Mo_same_58 rfl (lv_at hl 0 rfl) ?_
      refine lv_iconst (v := 4) hx hb d_Mo_same_59 (by decide) ?_
      refine lv_icmp_ge hx hb d_Mo_same_60 rfl (fun h9 => absurd h9 (nI_ge (b := 4) (by omega) (by omega))) (fun _ => ?_)
      refine lv_iload_n hx hb d_Mo_same_63 rfl (lv_at hl 1 rfl) ?_
      refine lv_if_eq hx hb d_Mo_same_64 rfl (fun h64 => ?_) (fun h64 => ?_)
      · have h64 : ac = false := bi_eq0.mp h64
        refine lv_iconst (v := 0) hx hb d_Mo_same_88 (by decide) ?_
        refine x_topi (y := (bi false)) rfl ?_
        refine lv_istore_n hx hb d_Mo_same_89 rfl hl (by decide) rfl (fun ls hl => ?_)
        replace hl : lv_has ls 4 [(1, .int (bi false)), (2, .int (nI i)), (0, .ref o)] := hl
        refine lv_iinc hx hb d_Mo_same_90 hl (k := 1) (v := (nI (i + 1))) rfl (nI_1 i) (by decide) rfl (fun ls hl => ?_)
        replace hl : lv_has ls 4 [(2, .int (nI (i + 1))), (1, .int (bi false)), (0, .ref o)] := hl
        refine lv_goto hx hb d_Mo_same_93 rfl ?_
        refine ih _ _ _ ?_ ?_ hl
        · omega
        · exact (by rw [← hres1]; simp only [allF]; rw [h64, Bool.false_and])
      have h64 : ac = true := bi_n0 h64
      refine lv_aload_n hx hb d_Mo_same_67 rfl (lv_at hl 2 rfl) ?_
      refine va_get (D := (dC, dI)) (ci := 5) (v := .ref (a 10)) (C := R_Mo) (T := F_Mo) (N := 19) hx hb hts u_Mo hown hK hP 0 rfl rfl 11 (by decide) (hts _ kw_725) (fun _ h9 => h9) rfl d_Mo_same_68 ?_
      refine lv_iload_n hx hb d_Mo_same_71 rfl (lv_at hl 0 rfl) ?_
      refine x_iald (j := i) (v := (nI (V.pol i))) hx hb hK hP 11 0 rfl rfl (by omega) (by decide) rfl rfl d_Mo_same_72 ?_
      refine lv_aload_n hx hb d_Mo_same_73 rfl (lv_at hl 2 rfl) ?_
      refine va_get (D := (dC, dI)) (ci := 5) (v := .ref (a 10)) (C := R_Mo) (T := F_Mo) (N := 19) hx hb hts u_Mo hown hK hP 0 rfl rfl 11 (by decide) (hts _ kw_725) (fun _ h9 => h9) rfl d_Mo_same_74 ?_
      refine lv_iconst (v := 4) hx hb d_Mo_same_77 (by decide) ?_
      refine lv_iload_n hx hb d_Mo_same_78 rfl (lv_at hl 0 rfl) ?_
      refine lv_iadd hx hb d_Mo_same_79 ?_
      refine x_topi (y := (nI (4 + i))) (nI_add 4 _) ?_
      refine x_iald (j := 4 + i) (v := (nI (V.pol (4 + i)))) hx hb hK hP 11 0 rfl rfl (by omega) (by decide) rfl rfl d_Mo_same_80 ?_
      refine lv_icmp_ne hx hb d_Mo_same_81 rfl (fun h81 => ?_) (fun h81 => ?_)
      · have h81 := mt (nI_eq (by have := hV.pol i; omega) (by have := hV.pol (4 + i); omega)).mpr h81
        refine lv_iconst (v := 0) hx hb d_Mo_same_88 (by decide) ?_
        refine x_topi (y := (bi false)) rfl ?_
        refine lv_istore_n hx hb d_Mo_same_89 rfl hl (by decide) rfl (fun ls hl => ?_)
        replace hl : lv_has ls 4 [(1, .int (bi false)), (2, .int (nI i)), (0, .ref o)] := hl
        refine lv_iinc hx hb d_Mo_same_90 hl (k := 1) (v := (nI (i + 1))) rfl (nI_1 i) (by decide) rfl (fun ls hl => ?_)
        replace hl : lv_has ls 4 [(2, .int (nI (i + 1))), (1, .int (bi false)), (0, .ref o)] := hl
        refine lv_goto hx hb d_Mo_same_93 rfl ?_
        refine ih _ _ _ ?_ ?_ hl
        · omega
        · exact (by rw [← hres1]; simp only [allF]; rw [h64, Bool.true_and, show plQ V i = false from decide_eq_false h81])
      have h81 := (nI_eq (by have := hV.pol i; omega) (by have := hV.pol (4 + i); omega)).mp h81
      refine lv_iconst (v := 1) hx hb d_Mo_same_84 (by decide) ?_
      refine x_topi (y := (bi true)) rfl ?_
      refine lv_goto hx hb d_Mo_same_85 rfl ?_
      refine lv_istore_n hx hb d_Mo_same_89 rfl hl (by decide) rfl (fun ls hl => ?_)
      replace hl : lv_has ls 4 [(1, .int (bi true)), (2, .int (nI i)), (0, .ref o)] := hl
      refine lv_iinc hx hb d_Mo_same_90 hl (k := 1) (v := (nI (i + 1))) rfl (nI_1 i) (by decide) rfl (fun ls hl => ?_)
      replace hl : lv_has ls 4 [(2, .int (nI (i + 1))), (1, .int (bi true)), (0, .ref o)] := hl
      refine lv_goto hx hb d_Mo_same_93 rfl ?_
      refine ih _ _ _ ?_ ?_ hl
      · omega
      · exact (by rw [← hres1]; simp only [allF]; rw [h64, Bool.true_and, show plQ V i = true from decide_eq_true h81])
  have h17 := (nI_eq (by have := hV.mn 0; omega) (by have := hV.mn 1; omega)).mp h17
  refine lv_aload_n hx hb d_Mo_same_20 rfl (lv_at hl 0 rfl) ?_
  refine va_get (D := (dC, dI)) (ci := 5) (v := .ref (a 8)) (C := R_Mo) (T := F_Mo) (N := 19) hx hb hts u_Mo hown hK hP 0 rfl rfl 9 (by decide) (hts _ kw_723) (fun _ h9 => h9) rfl d_Mo_same_21 ?_
  refine lv_iconst (v := 0) hx hb d_Mo_same_24 (by decide) ?_
  refine x_iald (j := 0) (v := (nI (V.tdy 0))) hx hb hK hP 9 0 rfl rfl (by decide) (by decide) rfl rfl d_Mo_same_25 ?_
  refine lv_aload_n hx hb d_Mo_same_26 rfl (lv_at hl 0 rfl) ?_
  refine va_get (D := (dC, dI)) (ci := 5) (v := .ref (a 8)) (C := R_Mo) (T := F_Mo) (N := 19) hx hb hts u_Mo hown hK hP 0 rfl rfl 9 (by decide) (hts _ kw_723) (fun _ h9 => h9) rfl d_Mo_same_27 ?_
  refine lv_iconst (v := 1) hx hb d_Mo_same_30 (by decide) ?_
  refine x_iald (j := 1) (v := (nI (V.tdy 1))) hx hb hK hP 9 0 rfl rfl (by decide) (by decide) rfl rfl d_Mo_same_31 ?_
  refine lv_icmp_ne hx hb d_Mo_same_32 rfl (fun h32 => ?_) (fun h32 => ?_)
  · have h32 := mt (nI_eq (by have := hV.tdy 0; omega) (by have := hV.tdy 1; omega)).mpr h32
    refine lv_iconst (v := 0) hx hb d_Mo_same_54 (by decide) ?_
    refine x_topi (y := (bi false)) rfl ?_
    have hsm : false = smI V := (decide_eq_false (fun q => h32 q.2.1)).symm
    refine lv_istore_n hx hb d_Mo_same_55 rfl hl (by decide) rfl (fun ls hl => ?_)
    replace hl : lv_has ls 4 [(1, .int (bi false)), (0, .ref o)] := hl
    refine lv_iconst (v := 0) hx hb d_Mo_same_56 (by decide) ?_
    refine lv_istore_n hx hb d_Mo_same_57 rfl hl (by decide) rfl (fun ls hl => ?_)
    replace hl : lv_has ls 4 [(2, .int 0), (1, .int (bi false)), (0, .ref o)] := hl
    obtain ⟨i, hi0⟩ : ∃ i : Nat, i = 0 := ⟨_, rfl⟩
    obtain ⟨k, hk0⟩ : ∃ k : Nat, k = 4 - 0 := ⟨_, rfl⟩
    obtain ⟨ac, hac⟩ : ∃ ac : Bool, ac = false := ⟨_, rfl⟩
    have hres1 : allF (plQ V) i k ac = (allF (plQ V) 0 4 (smI V)) := (by first | (rw [hi0, hk0, hac, hsm]; done) | (rw [hi0, hk0, hac, hsm]; rfl))
    replace hl : lv_has ls 4 [(2, .int (nI i)), (1, .int (bi ac)), (0, .ref o)] := by subst hi0; subst hac; exact hl
    have hik : i + k = 4 := by omega
    clear hi0 hk0 hac
    replace hres1 := hres1
    replace hl : lv_has ls 4 [(2, .int (nI i)), (1, .int (bi ac)), (0, .ref o)] := hl
    induction k generalizing i ls ac with
    | zero =>
      refine lv_iload_n hx hb d_Mo_same_58 rfl (lv_at hl 0 rfl) ?_
      refine lv_iconst (v := 4) hx hb d_Mo_same_59 (by decide) ?_
      refine lv_icmp_ge hx hb d_Mo_same_60 rfl (fun _ => ?_) (fun h9 => absurd (nI_le (a := 4) (by omega) (by omega)) h9)
      refine lv_iconst (v := 0) hx hb d_Mo_same_96 (by decide) ?_
      refine lv_istore_n hx hb d_Mo_same_97 rfl hl (by decide) rfl (fun ls hl => ?_)
      replace hl : lv_has ls 4 [(2, .int 0), (1, .int (bi ac)), (0, .ref o)] := hl
      obtain ⟨i2, hi20⟩ : ∃ i2 : Nat, i2 = 0 := ⟨_, rfl⟩
      obtain ⟨k2, hk20⟩ : ∃ k2 : Nat, k2 = V.mn 0 - 0 := ⟨_, rfl⟩
      obtain ⟨a2, ha2⟩ : ∃ a2 : Bool, a2 = ac := ⟨_, rfl⟩
      have hres2 : smB V i2 k2 a2 = smB V 0 (V.mn 0) (allF (plQ V) 0 4 (smI V)) := (by rw [hi20, hk20, ha2, ← hres1]; rfl)
      replace hl : lv_has ls 4 [(2, .int (nI i2)), (1, .int (bi a2)), (0, .ref o)] := by subst hi20; subst ha2; exact hl
      have hi2k2 : i2 + k2 = V.mn 0 := by omega
      clear hi20 hk20 ha2
      replace hres2 := hres2
      replace hl : lv_has ls 4 [(2, .int (nI i2)), (1, .int (bi a2)), (0, .ref o)] := hl
      induction k2 generalizing i2 ls a2 with
      | zero =>
        refine lv_iload_n hx hb d_Mo_same_98 rfl (lv_at hl 0 rfl) ?_
        refine lv_aload_n hx hb d_Mo_same_99 rfl (lv_at hl 2 rfl) ?_
        refine va_get (D := (dC, dI)) (ci := 5) (v := .ref (a 0)) (C := R_Mo) (T := F_Mo) (N := 19) hx hb hts u_Mo hown hK hP 0 rfl rfl 1 (by decide) (hts _ kw_715) (fun _ h9 => h9) rfl d_Mo_same_100 ?_
        refine lv_iconst (v := 0) hx hb d_Mo_same_103 (by decide) ?_
        refine x_iald (j := 0) (v := (nI (V.mn 0))) hx hb hK hP 1 0 rfl rfl (by decide) (by decide) rfl rfl d_Mo_same_104 ?_
        refine lv_icmp_ge hx hb d_Mo_same_105 rfl (fun _ => ?_) (fun h9 => absurd (nI_le (by omega) (by have := hV.mn 0; omega)) h9)
        refine lv_iload_n hx hb d_Mo_same_161 rfl (lv_at hl 1 rfl) ?_
        have hP9 : va_P (dC, dI) classes (wMo cI o a (mkV V.mn V.pre V.len V.lev V.hol V.sta V.en V.tdy V.dys V.pol V.par V.kd V.fi V.se V.th V.ne 0 V.fo V.fl)) H := hP
        have hD9 : va_D A (wMo cI o a (mkV V.mn V.pre V.len V.lev V.hol V.sta V.en V.tdy V.dys V.pol V.par V.kd V.fi V.se V.th V.ne 0 V.fo V.fl)) := hD
        exact W.zret (v := (bi a2)) hx hb hr (bi_nar _) (fun t ht hW => ⟨⟨(bi a2), (), rfl, (by unfold smN; show bi a2 = bi _; rw [← hres2]; rfl), by rw [ht]; exact hP9, va_K.moved hW.alike hK, hD9⟩, hS.F ht⟩) hS.2.2 d_Mo_same_162
      | succ k2 ih2 =>
        refine lv_iload_n hx hb d_Mo_same_98 rfl (lv_at hl 0 rfl) ?_
        refine lv_aload_n hx hb d_Mo_same_99 rfl (lv_at hl 2 rfl) ?_
        refine va_get (D := (dC, dI)) (ci := 5) (v := .ref (a 0)) (C := R_Mo) (T := F_Mo) (N := 19) hx hb hts u_Mo hown hK hP 0 rfl rfl 1 (by decide) (hts _ kw_715) (fun _ h9 => h9) rfl d_Mo_same_100 ?_
        refine lv_iconst (v := 0) hx hb d_Mo_same_103 (by decide) ?_
        refine x_iald (j := 0) (v := (nI (V.mn 0))) hx hb hK hP 1 0 rfl rfl (by decide) (by decide) rfl rfl d_Mo_same_104 ?_
        refine lv_icmp_ge hx hb d_Mo_same_105 rfl (fun h9 => absurd h9 (nI_ge (by omega) (by have := hV.mn 0; omega))) (fun _ => ?_)
        refine lv_iload_n hx hb d_Mo_same_108 rfl (lv_at hl 1 rfl) ?_
        refine lv_if_eq hx hb d_Mo_same_109 rfl (fun h109 => ?_) (fun h109 => ?_)
        · have h109 : a2 = false := bi_eq0.mp h109
          refine lv_iload_n hx hb d_Mo_same_161 rfl (lv_at hl 1 rfl) ?_
          have hP9 : va_P (dC, dI) classes (wMo cI o a (mkV V.mn V.pre V.len V.lev V.hol V.sta V.en V.tdy V.dys V.pol V.par V.kd V.fi V.se V.th V.ne 0 V.fo V.fl)) H := hP
          have hD9 : va_D A (wMo cI o a (mkV V.mn V.pre V.len V.lev V.hol V.sta V.en V.tdy V.dys V.pol V.par V.kd V.fi V.se V.th V.ne 0 V.fo V.fl)) := hD
          exact W.zret (v := (bi a2)) hx hb hr (bi_nar _) (fun t ht hW => ⟨⟨(bi a2), (), rfl, (by unfold smN; show bi a2 = bi _; rw [← hres2]; simp only [smB]; rw [if_neg (by rw [h109]; decide)]), by rw [ht]; exact hP9, va_K.moved hW.alike hK, hD9⟩, hS.F ht⟩) hS.2.2 d_Mo_same_162
        have h109 : a2 = true := bi_n0 h109
        refine lv_iconst (v := 0) hx hb d_Mo_same_112 (by decide) ?_
        refine lv_istore_n hx hb d_Mo_same_113 rfl hl (by decide) rfl (fun ls hl => ?_)
        replace hl : lv_has ls 4 [(3, .int 0), (2, .int (nI i2)), (1, .int (bi a2)), (0, .ref o)] := hl
        obtain ⟨j, hj0⟩ : ∃ j : Nat, j = 0 := ⟨_, rfl⟩
        obtain ⟨k3, hk30⟩ : ∃ k3 : Nat, k3 = 7 - 0 := ⟨_, rfl⟩
        obtain ⟨a3, ha3⟩ : ∃ a3 : Bool, a3 = a2 := ⟨_, rfl⟩
        have hres3 : allF (fdQ V i2) j k3 a3 = allF (fdQ V i2) 0 7 a2 := (by first | (rw [hj0, hk30, ha3]; done) | (rw [hj0, hk30, ha3]; rfl))
        replace hl : lv_has ls 4 [(3, .int (nI j)), (2, .int (nI i2)), (1, .int (bi a3)), (0, .ref o)] := by subst hj0; subst ha3; exact hl
        have hjk3 : j + k3 = 7 := by omega
        clear hj0 hk30 ha3
        replace hres3 := hres3
        replace hl : lv_has ls 4 [(3, .int (nI j)), (2, .int (nI i2)), (1, .int (bi a3)), (0, .ref o)] := hl
        induction k3 generalizing j ls a3 with
        | zero =>
          refine lv_iload_n hx hb d_Mo_same_114 rfl (lv_at hl 0 rfl) ?_
          refine lv_bipush (v := 7) hx hb d_Mo_same_115 (by decide) ?_
          refine lv_icmp_ge hx hb d_Mo_same_117 rfl (fun _ => ?_) (fun h9 => absurd (nI_le (a := 7) (by omega) (by omega)) h9)
          refine lv_iinc hx hb d_Mo_same_155 hl (k := 1) (v := (nI (i2 + 1))) rfl (nI_1 i2) (by decide) rfl (fun ls hl => ?_)
          replace hl : lv_has ls 4 [(2, .int (nI (i2 + 1))), (3, .int (nI j)), (1, .int (bi a3)), (0, .ref o)] := hl
          refine lv_goto hx hb d_Mo_same_158 rfl ?_
          refine ih2 _ _ _ ?_ ?_ (lv_sub hl [0, 2, 3] rfl)
          · omega
          · exact (by rw [← hres2]; simp only [smB]; rw [if_pos h109, ← hres3]; rfl)
        | succ k3 ih3 =>
          refine lv_iload_n hx hb d_Mo_same_114 rfl (lv_at hl 0 rfl) ?_
          refine lv_bipush (v := 7) hx hb d_Mo_same_115 (by decide) ?_
          refine lv_icmp_ge hx hb d_Mo_same_117 rfl (fun h9 => absurd h9 (nI_ge (b := 7) (by omega) (by omega))) (fun _ => ?_)
          refine lv_iload_n hx hb d_Mo_same_120 rfl (lv_at hl 2 rfl) ?_
          refine lv_if_eq hx hb d_Mo_same_121 rfl (fun h121 => ?_) (fun h121 => ?_)
          · have h121 : a3 = false := bi_eq0.mp h121
            refine lv_iconst (v := 0) hx hb d_Mo_same_147 (by decide) ?_
            refine x_topi (y := (bi false)) rfl ?_
            refine lv_istore_n hx hb d_Mo_same_148 rfl hl (by decide) rfl (fun ls hl => ?_)
            replace hl : lv_has ls 4 [(1, .int (bi false)), (3, .int (nI j)), (2, .int (nI i2)), (0, .ref o)] := hl
            refine lv_iinc hx hb d_Mo_same_149 hl (k := 1) (v := (nI (j + 1))) rfl (nI_1 j) (by decide) rfl (fun ls hl => ?_)
            replace hl : lv_has ls 4 [(3, .int (nI (j + 1))), (1, .int (bi false)), (2, .int (nI i2)), (0, .ref o)] := hl
            refine lv_goto hx hb d_Mo_same_152 rfl ?_
            refine ih3 _ _ _ ?_ ?_ (lv_sub hl [0, 2, 1, 3] rfl)
            · omega
            · exact (by rw [← hres3]; simp only [allF]; rw [h121, Bool.false_and])
          have h121 : a3 = true := bi_n0 h121
          refine lv_aload_n hx hb d_Mo_same_124 rfl (lv_at hl 3 rfl) ?_
          refine lv_iload_n hx hb d_Mo_same_125 rfl (lv_at hl 1 rfl) ?_
          refine lv_iload_n hx hb d_Mo_same_126 rfl (lv_at hl 0 rfl) ?_
          refine vp_callSi (W.runV (b := o) (As := [.int (nI i2), .int (nI j)]) (rest := []) ⟨hx, hb, hml, hown, hts⟩ (c_Mo_fieldOf l dC dI cI o a (mkV V.mn V.pre V.len V.lev V.hol V.sta V.en V.tdy V.dys V.pol V.par V.kd V.fi V.se V.th V.ne 0 V.fo V.fl) hV i2 (by have := hV.mn 0; omega) j (by omega)) (cwV 2 hts (gV kw_963 kw_965 ks_51 kw_6 kw_966) rfl rfl rfl (by decide +kernel) ⟨Nat.le_of_ble_eq_true rfl, Nat.le_of_ble_eq_true rfl⟩) ⟨PcS.blind, va_recv (q0 := 0) hK hP rfl rfl, PcS.use hP hK hN⟩ rfl rfl hl.1 rfl (lv_room (Nat.le_of_ble_eq_true rfl)) d_Mo_same_127 ⟨Nat.zero_le _, Nat.zero_le _⟩) (fun r127 hr127 => ?_)
          obtain rfl : r127 = (fdN V i2 j) := hr127
          refine lv_aload_n hx hb d_Mo_same_130 rfl (lv_at hl 3 rfl) ?_
          refine lv_sipush (v := 200) hx hb d_Mo_same_131 (by decide) ?_
          refine lv_iload_n hx hb d_Mo_same_134 rfl (lv_at hl 1 rfl) ?_
          refine lv_iadd hx hb d_Mo_same_135 ?_
          refine x_topi (y := (nI (200 + i2))) (nI_add 200 _) ?_
          refine lv_iload_n hx hb d_Mo_same_136 rfl (lv_at hl 0 rfl) ?_
          refine vp_callSi (W.runV (b := o) (As := [.int (nI (200 + i2)), .int (nI j)]) (rest := [.int (fdN V i2 j)]) ⟨hx, hb, hml, hown, hts⟩ (c_Mo_fieldOf l dC dI cI o a (mkV V.mn V.pre V.len V.lev V.hol V.sta V.en V.tdy V.dys V.pol V.par V.kd V.fi V.se V.th V.ne 0 V.fo V.fl) hV (200 + i2) (by have := hV.mn 0; omega) j (by omega)) (cwV 2 hts (gV kw_963 kw_965 ks_51 kw_6 kw_966) rfl rfl rfl (by decide +kernel) ⟨Nat.le_of_ble_eq_true rfl, Nat.le_of_ble_eq_true rfl⟩) ⟨PcS.blind, va_recv (q0 := 0) hK hP rfl rfl, PcS.use hP hK hN⟩ rfl rfl hl.1 rfl (lv_room (Nat.le_of_ble_eq_true rfl)) d_Mo_same_137 ⟨Nat.zero_le _, Nat.zero_le _⟩) (fun r137 hr137 => ?_)
          obtain rfl : r137 = (fdN V (200 + i2) j) := hr137
          refine lv_icmp_ne hx hb d_Mo_same_140 rfl (fun h140 => ?_) (fun h140 => ?_)
          · refine lv_iconst (v := 0) hx hb d_Mo_same_147 (by decide) ?_
            refine x_topi (y := (bi false)) rfl ?_
            refine lv_istore_n hx hb d_Mo_same_148 rfl hl (by decide) rfl (fun ls hl => ?_)
            replace hl : lv_has ls 4 [(1, .int (bi false)), (3, .int (nI j)), (2, .int (nI i2)), (0, .ref o)] := hl
            refine lv_iinc hx hb d_Mo_same_149 hl (k := 1) (v := (nI (j + 1))) rfl (nI_1 j) (by decide) rfl (fun ls hl => ?_)
            replace hl : lv_has ls 4 [(3, .int (nI (j + 1))), (1, .int (bi false)), (2, .int (nI i2)), (0, .ref o)] := hl
            refine lv_goto hx hb d_Mo_same_152 rfl ?_
            refine ih3 _ _ _ ?_ ?_ (lv_sub hl [0, 2, 1, 3] rfl)
            · omega
            · exact (by rw [← hres3]; simp only [allF]; rw [h121, Bool.true_and, show fdQ V i2 j = false from decide_eq_false h140])
          refine lv_iconst (v := 1) hx hb d_Mo_same_143 (by decide) ?_
          refine x_topi (y := (bi true)) rfl ?_
          refine lv_goto hx hb d_Mo_same_144 rfl ?_
          refine lv_istore_n hx hb d_Mo_same_148 rfl hl (by decide) rfl (fun ls hl => ?_)
          replace hl : lv_has ls 4 [(1, .int (bi true)), (3, .int (nI j)), (2, .int (nI i2)), (0, .ref o)] := hl
          refine lv_iinc hx hb d_Mo_same_149 hl (k := 1) (v := (nI (j + 1))) rfl (nI_1 j) (by decide) rfl (fun ls hl => ?_)
          replace hl : lv_has ls 4 [(3, .int (nI (j + 1))), (1, .int (bi true)), (2, .int (nI i2)), (0, .ref o)] := hl
          refine lv_goto hx hb d_Mo_same_152 rfl ?_
          refine ih3 _ _ _ ?_ ?_ (lv_sub hl [0, 2, 1, 3] rfl)
          · omega
          · exact (by rw [← hres3]; simp only [allF]; rw [h121, Bool.true_and, show fdQ V i2 j = true from decide_eq_true h140])
    | succ k ih =>
      refine lv_iload_n hx hb d_Mo_same_58 rfl (lv_at hl 0 rfl) ?_
      refine lv_iconst (v := 4) hx hb d_Mo_same_59 (by decide) ?_
      refine lv_icmp_ge hx hb d_Mo_same_60 rfl (fun h9 => absurd h9 (nI_ge (b := 4) (by omega) (by omega))) (fun _ => ?_)
      refine lv_iload_n hx hb d_Mo_same_63 rfl (lv_at hl 1 rfl) ?_
      refine lv_if_eq hx hb d_Mo_same_64 rfl (fun h64 => ?_) (fun h64 => ?_)
      · have h64 : ac = false := bi_eq0.mp h64
        refine lv_iconst (v := 0) hx hb d_Mo_same_88 (by decide) ?_
        refine x_topi (y := (bi false)) rfl ?_
        refine lv_istore_n hx hb d_Mo_same_89 rfl hl (by decide) rfl (fun ls hl => ?_)
        replace hl : lv_has ls 4 [(1, .int (bi false)), (2, .int (nI i)), (0, .ref o)] := hl
        refine lv_iinc hx hb d_Mo_same_90 hl (k := 1) (v := (nI (i + 1))) rfl (nI_1 i) (by decide) rfl (fun ls hl => ?_)
        replace hl : lv_has ls 4 [(2, .int (nI (i + 1))), (1, .int (bi false)), (0, .ref o)] := hl
        refine lv_goto hx hb d_Mo_same_93 rfl ?_
        refine ih _ _ _ ?_ ?_ hl
        · omega
        · exact (by rw [← hres1]; simp only [allF]; rw [h64, Bool.false_and])
      have h64 : ac = true := bi_n0 h64
      refine lv_aload_n hx hb d_Mo_same_67 rfl (lv_at hl 2 rfl) ?_
      refine va_get (D := (dC, dI)) (ci := 5) (v := .ref (a 10)) (C := R_Mo) (T := F_Mo) (N := 19) hx hb hts u_Mo hown hK hP 0 rfl rfl 11 (by decide) (hts _ kw_725) (fun _ h9 => h9) rfl d_Mo_same_68 ?_
      refine lv_iload_n hx hb d_Mo_same_71 rfl (lv_at hl 0 rfl) ?_
      refine x_iald (j := i) (v := (nI (V.pol i))) hx hb hK hP 11 0 rfl rfl (by omega) (by decide) rfl rfl d_Mo_same_72 ?_
      refine lv_aload_n hx hb d_Mo_same_73 rfl (lv_at hl 2 rfl) ?_
      refine va_get (D := (dC, dI)) (ci := 5) (v := .ref (a 10)) (C := R_Mo) (T := F_Mo) (N := 19) hx hb hts u_Mo hown hK hP 0 rfl rfl 11 (by decide) (hts _ kw_725) (fun _ h9 => h9) rfl d_Mo_same_74 ?_
      refine lv_iconst (v := 4) hx hb d_Mo_same_77 (by decide) ?_
      refine lv_iload_n hx hb d_Mo_same_78 rfl (lv_at hl 0 rfl) ?_
      refine lv_iadd hx hb d_Mo_same_79 ?_
      refine x_topi (y := (nI (4 + i))) (nI_add 4 _) ?_
      refine x_iald (j := 4 + i) (v := (nI (V.pol (4 + i)))) hx hb hK hP 11 0 rfl rfl (by omega) (by decide) rfl rfl d_Mo_same_80 ?_
      refine lv_icmp_ne hx hb d_Mo_same_81 rfl (fun h81 => ?_) (fun h81 => ?_)
      · have h81 := mt (nI_eq (by have := hV.pol i; omega) (by have := hV.pol (4 + i); omega)).mpr h81
        refine lv_iconst (v := 0) hx hb d_Mo_same_88 (by decide) ?_
        refine x_topi (y := (bi false)) rfl ?_
        refine lv_istore_n hx hb d_Mo_same_89 rfl hl (by decide) rfl (fun ls hl => ?_)
        replace hl : lv_has ls 4 [(1, .int (bi false)), (2, .int (nI i)), (0, .ref o)] := hl
        refine lv_iinc hx hb d_Mo_same_90 hl (k := 1) (v := (nI (i + 1))) rfl (nI_1 i) (by decide) rfl (fun ls hl => ?_)
        replace hl : lv_has ls 4 [(2, .int (nI (i + 1))), (1, .int (bi false)), (0, .ref o)] := hl
        refine lv_goto hx hb d_Mo_same_93 rfl ?_
        refine ih _ _ _ ?_ ?_ hl
        · omega
        · exact (by rw [← hres1]; simp only [allF]; rw [h64, Bool.true_and, show plQ V i = false from decide_eq_false h81])
      have h81 := (nI_eq (by have := hV.pol i; omega) (by have := hV.pol (4 + i); omega)).mp h81
      refine lv_iconst (v := 1) hx hb d_Mo_same_84 (by decide) ?_
      refine x_topi (y := (bi true)) rfl ?_
      refine lv_goto hx hb d_Mo_same_85 rfl ?_
      refine lv_istore_n hx hb d_Mo_same_89 rfl hl (by decide) rfl (fun ls hl => ?_)
      replace hl : lv_has ls 4 [(1, .int (bi true)), (2, .int (nI i)), (0, .ref o)] := hl
      refine lv_iinc hx hb d_Mo_same_90 hl (k := 1) (v := (nI (i + 1))) rfl (nI_1 i) (by decide) rfl (fun ls hl => ?_)
      replace hl : lv_has ls 4 [(2, .int (nI (i + 1))), (1, .int (bi true)), (0, .ref o)] := hl
      refine lv_goto hx hb d_Mo_same_93 rfl ?_
      refine ih _ _ _ ?_ ?_ hl
      · omega
      · exact (by rw [← hres1]; simp only [allF]; rw [h64, Bool.true_and, show plQ V i = true from decide_eq_true h81])
  have h32 := (nI_eq (by have := hV.tdy 0; omega) (by have := hV.tdy 1; omega)).mp h32
  refine lv_aload_n hx hb d_Mo_same_35 rfl (lv_at hl 0 rfl) ?_
  refine va_get (D := (dC, dI)) (ci := 5) (v := .ref (a 9)) (C := R_Mo) (T := F_Mo) (N := 19) hx hb hts u_Mo hown hK hP 0 rfl rfl 10 (by decide) (hts _ kw_724) (fun _ h9 => h9) rfl d_Mo_same_36 ?_
  refine lv_iconst (v := 0) hx hb d_Mo_same_39 (by decide) ?_
  refine x_iald (j := 0) (v := (nI (V.dys 0))) hx hb hK hP 10 0 rfl rfl (by decide) (by decide) rfl rfl d_Mo_same_40 ?_
  refine lv_aload_n hx hb d_Mo_same_41 rfl (lv_at hl 0 rfl) ?_
  refine va_get (D := (dC, dI)) (ci := 5) (v := .ref (a 9)) (C := R_Mo) (T := F_Mo) (N := 19) hx hb hts u_Mo hown hK hP 0 rfl rfl 10 (by decide) (hts _ kw_724) (fun _ h9 => h9) rfl d_Mo_same_42 ?_
  refine lv_iconst (v := 1) hx hb d_Mo_same_45 (by decide) ?_
  refine x_iald (j := 1) (v := (nI (V.dys 1))) hx hb hK hP 10 0 rfl rfl (by decide) (by decide) rfl rfl d_Mo_same_46 ?_
  refine lv_icmp_ne hx hb d_Mo_same_47 rfl (fun h47 => ?_) (fun h47 => ?_)
  · have h47 := mt (nI_eq (by have := hV.dys 0; omega) (by have := hV.dys 1; omega)).mpr h47
    refine lv_iconst (v := 0) hx hb d_Mo_same_54 (by decide) ?_
    refine x_topi (y := (bi false)) rfl ?_
    have hsm : false = smI V := (decide_eq_false (fun q => h47 q.2.2)).symm
    refine lv_istore_n hx hb d_Mo_same_55 rfl hl (by decide) rfl (fun ls hl => ?_)
    replace hl : lv_has ls 4 [(1, .int (bi false)), (0, .ref o)] := hl
    refine lv_iconst (v := 0) hx hb d_Mo_same_56 (by decide) ?_
    refine lv_istore_n hx hb d_Mo_same_57 rfl hl (by decide) rfl (fun ls hl => ?_)
    replace hl : lv_has ls 4 [(2, .int 0), (1, .int (bi false)), (0, .ref o)] := hl
    obtain ⟨i, hi0⟩ : ∃ i : Nat, i = 0 := ⟨_, rfl⟩
    obtain ⟨k, hk0⟩ : ∃ k : Nat, k = 4 - 0 := ⟨_, rfl⟩
    obtain ⟨ac, hac⟩ : ∃ ac : Bool, ac = false := ⟨_, rfl⟩
    have hres1 : allF (plQ V) i k ac = (allF (plQ V) 0 4 (smI V)) := (by first | (rw [hi0, hk0, hac, hsm]; done) | (rw [hi0, hk0, hac, hsm]; rfl))
    replace hl : lv_has ls 4 [(2, .int (nI i)), (1, .int (bi ac)), (0, .ref o)] := by subst hi0; subst hac; exact hl
    have hik : i + k = 4 := by omega
    clear hi0 hk0 hac
    replace hres1 := hres1
    replace hl : lv_has ls 4 [(2, .int (nI i)), (1, .int (bi ac)), (0, .ref o)] := hl
    induction k generalizing i ls ac with
    | zero =>
      refine lv_iload_n hx hb d_Mo_same_58 rfl (lv_at hl 0 rfl) ?_
      refine lv_iconst (v := 4) hx hb d_Mo_same_59 (by decide) ?_
      refine lv_icmp_ge hx hb d_Mo_same_60 rfl (fun _ => ?_) (fun h9 => absurd (nI_le (a := 4) (by omega) (by omega)) h9)
      refine lv_iconst (v := 0) hx hb d_Mo_same_96 (by decide) ?_
      refine lv_istore_n hx hb d_Mo_same_97 rfl hl (by decide) rfl (fun ls hl => ?_)
      replace hl : lv_has ls 4 [(2, .int 0), (1, .int (bi ac)), (0, .ref o)] := hl
      obtain ⟨i2, hi20⟩ : ∃ i2 : Nat, i2 = 0 := ⟨_, rfl⟩
      obtain ⟨k2, hk20⟩ : ∃ k2 : Nat, k2 = V.mn 0 - 0 := ⟨_, rfl⟩
      obtain ⟨a2, ha2⟩ : ∃ a2 : Bool, a2 = ac := ⟨_, rfl⟩
      have hres2 : smB V i2 k2 a2 = smB V 0 (V.mn 0) (allF (plQ V) 0 4 (smI V)) := (by rw [hi20, hk20, ha2, ← hres1]; rfl)
      replace hl : lv_has ls 4 [(2, .int (nI i2)), (1, .int (bi a2)), (0, .ref o)] := by subst hi20; subst ha2; exact hl
      have hi2k2 : i2 + k2 = V.mn 0 := by omega
      clear hi20 hk20 ha2
      replace hres2 := hres2
      replace hl : lv_has ls 4 [(2, .int (nI i2)), (1, .int (bi a2)), (0, .ref o)] := hl
      induction k2 generalizing i2 ls a2 with
      | zero =>
        refine lv_iload_n hx hb d_Mo_same_98 rfl (lv_at hl 0 rfl) ?_
        refine lv_aload_n hx hb d_Mo_same_99 rfl (lv_at hl 2 rfl) ?_
        refine va_get (D := (dC, dI)) (ci := 5) (v := .ref (a 0)) (C := R_Mo) (T := F_Mo) (N := 19) hx hb hts u_Mo hown hK hP 0 rfl rfl 1 (by decide) (hts _ kw_715) (fun _ h9 => h9) rfl d_Mo_same_100 ?_
        refine lv_iconst (v := 0) hx hb d_Mo_same_103 (by decide) ?_
        refine x_iald (j := 0) (v := (nI (V.mn 0))) hx hb hK hP 1 0 rfl rfl (by decide) (by decide) rfl rfl d_Mo_same_104 ?_
        refine lv_icmp_ge hx hb d_Mo_same_105 rfl (fun _ => ?_) (fun h9 => absurd (nI_le (by omega) (by have := hV.mn 0; omega)) h9)
        refine lv_iload_n hx hb d_Mo_same_161 rfl (lv_at hl 1 rfl) ?_
        have hP9 : va_P (dC, dI) classes (wMo cI o a (mkV V.mn V.pre V.len V.lev V.hol V.sta V.en V.tdy V.dys V.pol V.par V.kd V.fi V.se V.th V.ne 0 V.fo V.fl)) H := hP
        have hD9 : va_D A (wMo cI o a (mkV V.mn V.pre V.len V.lev V.hol V.sta V.en V.tdy V.dys V.pol V.par V.kd V.fi V.se V.th V.ne 0 V.fo V.fl)) := hD
        exact W.zret (v := (bi a2)) hx hb hr (bi_nar _) (fun t ht hW => ⟨⟨(bi a2), (), rfl, (by unfold smN; show bi a2 = bi _; rw [← hres2]; rfl), by rw [ht]; exact hP9, va_K.moved hW.alike hK, hD9⟩, hS.F ht⟩) hS.2.2 d_Mo_same_162
      | succ k2 ih2 =>
        refine lv_iload_n hx hb d_Mo_same_98 rfl (lv_at hl 0 rfl) ?_
        refine lv_aload_n hx hb d_Mo_same_99 rfl (lv_at hl 2 rfl) ?_
        refine va_get (D := (dC, dI)) (ci := 5) (v := .ref (a 0)) (C := R_Mo) (T := F_Mo) (N := 19) hx hb hts u_Mo hown hK hP 0 rfl rfl 1 (by decide) (hts _ kw_715) (fun _ h9 => h9) rfl d_Mo_same_100 ?_
        refine lv_iconst (v := 0) hx hb d_Mo_same_103 (by decide) ?_
        refine x_iald (j := 0) (v := (nI (V.mn 0))) hx hb hK hP 1 0 rfl rfl (by decide) (by decide) rfl rfl d_Mo_same_104 ?_
        refine lv_icmp_ge hx hb d_Mo_same_105 rfl (fun h9 => absurd h9 (nI_ge (by omega) (by have := hV.mn 0; omega))) (fun _ => ?_)
        refine lv_iload_n hx hb d_Mo_same_108 rfl (lv_at hl 1 rfl) ?_
        refine lv_if_eq hx hb d_Mo_same_109 rfl (fun h109 => ?_) (fun h109 => ?_)
        · have h109 : a2 = false := bi_eq0.mp h109
          refine lv_iload_n hx hb d_Mo_same_161 rfl (lv_at hl 1 rfl) ?_
          have hP9 : va_P (dC, dI) classes (wMo cI o a (mkV V.mn V.pre V.len V.lev V.hol V.sta V.en V.tdy V.dys V.pol V.par V.kd V.fi V.se V.th V.ne 0 V.fo V.fl)) H := hP
          have hD9 : va_D A (wMo cI o a (mkV V.mn V.pre V.len V.lev V.hol V.sta V.en V.tdy V.dys V.pol V.par V.kd V.fi V.se V.th V.ne 0 V.fo V.fl)) := hD
          exact W.zret (v := (bi a2)) hx hb hr (bi_nar _) (fun t ht hW => ⟨⟨(bi a2), (), rfl, (by unfold smN; show bi a2 = bi _; rw [← hres2]; simp only [smB]; rw [if_neg (by rw [h109]; decide)]), by rw [ht]; exact hP9, va_K.moved hW.alike hK, hD9⟩, hS.F ht⟩) hS.2.2 d_Mo_same_162
        have h109 : a2 = true := bi_n0 h109
        refine lv_iconst (v := 0) hx hb d_Mo_same_112 (by decide) ?_
        refine lv_istore_n hx hb d_Mo_same_113 rfl hl (by decide) rfl (fun ls hl => ?_)
        replace hl : lv_has ls 4 [(3, .int 0), (2, .int (nI i2)), (1, .int (bi a2)), (0, .ref o)] := hl
        obtain ⟨j, hj0⟩ : ∃ j : Nat, j = 0 := ⟨_, rfl⟩
        obtain ⟨k3, hk30⟩ : ∃ k3 : Nat, k3 = 7 - 0 := ⟨_, rfl⟩
        obtain ⟨a3, ha3⟩ : ∃ a3 : Bool, a3 = a2 := ⟨_, rfl⟩
        have hres3 : allF (fdQ V i2) j k3 a3 = allF (fdQ V i2) 0 7 a2 := (by first | (rw [hj0, hk30, ha3]; done) | (rw [hj0, hk30, ha3]; rfl))
        replace hl : lv_has ls 4 [(3, .int (nI j)), (2, .int (nI i2)), (1, .int (bi a3)), (0, .ref o)] := by subst hj0; subst ha3; exact hl
        have hjk3 : j + k3 = 7 := by omega
        clear hj0 hk30 ha3
        replace hres3 := hres3
        replace hl : lv_has ls 4 [(3, .int (nI j)), (2, .int (nI i2)), (1, .int (bi a3)), (0, .ref o)] := hl
        induction k3 generalizing j ls a3 with
        | zero =>
          refine lv_iload_n hx hb d_Mo_same_114 rfl (lv_at hl 0 rfl) ?_
          refine lv_bipush (v := 7) hx hb d_Mo_same_115 (by decide) ?_
          refine lv_icmp_ge hx hb d_Mo_same_117 rfl (fun _ => ?_) (fun h9 => absurd (nI_le (a := 7) (by omega) (by omega)) h9)
          refine lv_iinc hx hb d_Mo_same_155 hl (k := 1) (v := (nI (i2 + 1))) rfl (nI_1 i2) (by decide) rfl (fun ls hl => ?_)
          replace hl : lv_has ls 4 [(2, .int (nI (i2 + 1))), (3, .int (nI j)), (1, .int (bi a3)), (0, .ref o)] := hl
          refine lv_goto hx hb d_Mo_same_158 rfl ?_
          refine ih2 _ _ _ ?_ ?_ (lv_sub hl [0, 2, 3] rfl)
          · omega
          · exact (by rw [← hres2]; simp only [smB]; rw [if_pos h109, ← hres3]; rfl)
        | succ k3 ih3 =>
          refine lv_iload_n hx hb d_Mo_same_114 rfl (lv_at hl 0 rfl) ?_
          refine lv_bipush (v := 7) hx hb d_Mo_same_115 (by decide) ?_
          refine lv_icmp_ge hx hb d_Mo_same_117 rfl (fun h9 => absurd h9 (nI_ge (b := 7) (by omega) (by omega))) (fun _ => ?_)
          refine lv_iload_n hx hb d_Mo_same_120 rfl (lv_at hl 2 rfl) ?_
          refine lv_if_eq hx hb d_Mo_same_121 rfl (fun h121 => ?_) (fun h121 => ?_)
          · have h121 : a3 = false := bi_eq0.mp h121
            refine lv_iconst (v := 0) hx hb d_Mo_same_147 (by decide) ?_
            refine x_topi (y := (bi false)) rfl ?_
            refine lv_istore_n hx hb d_Mo_same_148 rfl hl (by decide) rfl (fun ls hl => ?_)
            replace hl : lv_has ls 4 [(1, .int (bi false)), (3, .int (nI j)), (2, .int (nI i2)), (0, .ref o)] := hl
            refine lv_iinc hx hb d_Mo_same_149 hl (k := 1) (v := (nI (j + 1))) rfl (nI_1 j) (by decide) rfl (fun ls hl => ?_)
            replace hl : lv_has ls 4 [(3, .int (nI (j + 1))), (1, .int (bi false)), (2, .int (nI i2)), (0, .ref o)] := hl
            refine lv_goto hx hb d_Mo_same_152 rfl ?_
            refine ih3 _ _ _ ?_ ?_ (lv_sub hl [0, 2, 1, 3] rfl)
            · omega
            · exact (by rw [← hres3]; simp only [allF]; rw [h121, Bool.false_and])
          have h121 : a3 = true := bi_n0 h121
          refine lv_aload_n hx hb d_Mo_same_124 rfl (lv_at hl 3 rfl) ?_
          refine lv_iload_n hx hb d_Mo_same_125 rfl (lv_at hl 1 rfl) ?_
          refine lv_iload_n hx hb d_Mo_same_126 rfl (lv_at hl 0 rfl) ?_
          refine vp_callSi (W.runV (b := o) (As := [.int (nI i2), .int (nI j)]) (rest := []) ⟨hx, hb, hml, hown, hts⟩ (c_Mo_fieldOf l dC dI cI o a (mkV V.mn V.pre V.len V.lev V.hol V.sta V.en V.tdy V.dys V.pol V.par V.kd V.fi V.se V.th V.ne 0 V.fo V.fl) hV i2 (by have := hV.mn 0; omega) j (by omega)) (cwV 2 hts (gV kw_963 kw_965 ks_51 kw_6 kw_966) rfl rfl rfl (by decide +kernel) ⟨Nat.le_of_ble_eq_true rfl, Nat.le_of_ble_eq_true rfl⟩) ⟨PcS.blind, va_recv (q0 := 0) hK hP rfl rfl, PcS.use hP hK hN⟩ rfl rfl hl.1 rfl (lv_room (Nat.le_of_ble_eq_true rfl)) d_Mo_same_127 ⟨Nat.zero_le _, Nat.zero_le _⟩) (fun r127 hr127 => ?_)
          obtain rfl : r127 = (fdN V i2 j) := hr127
          refine lv_aload_n hx hb d_Mo_same_130 rfl (lv_at hl 3 rfl) ?_
          refine lv_sipush (v := 200) hx hb d_Mo_same_131 (by decide) ?_
          refine lv_iload_n hx hb d_Mo_same_134 rfl (lv_at hl 1 rfl) ?_
          refine lv_iadd hx hb d_Mo_same_135 ?_
          refine x_topi (y := (nI (200 + i2))) (nI_add 200 _) ?_
          refine lv_iload_n hx hb d_Mo_same_136 rfl (lv_at hl 0 rfl) ?_
          refine vp_callSi (W.runV (b := o) (As := [.int (nI (200 + i2)), .int (nI j)]) (rest := [.int (fdN V i2 j)]) ⟨hx, hb, hml, hown, hts⟩ (c_Mo_fieldOf l dC dI cI o a (mkV V.mn V.pre V.len V.lev V.hol V.sta V.en V.tdy V.dys V.pol V.par V.kd V.fi V.se V.th V.ne 0 V.fo V.fl) hV (200 + i2) (by have := hV.mn 0; omega) j (by omega)) (cwV 2 hts (gV kw_963 kw_965 ks_51 kw_6 kw_966) rfl rfl rfl (by decide +kernel) ⟨Nat.le_of_ble_eq_true rfl, Nat.le_of_ble_eq_true rfl⟩) ⟨PcS.blind, va_recv (q0 := 0) hK hP rfl rfl, PcS.use hP hK hN⟩ rfl rfl hl.1 rfl (lv_room (Nat.le_of_ble_eq_true rfl)) d_Mo_same_137 ⟨Nat.zero_le _, Nat.zero_le _⟩) (fun r137 hr137 => ?_)
          obtain rfl : r137 = (fdN V (200 + i2) j) := hr137
          refine lv_icmp_ne hx hb d_Mo_same_140 rfl (fun h140 => ?_) (fun h140 => ?_)
          · refine lv_iconst (v := 0) hx hb d_Mo_same_147 (by decide) ?_
            refine x_topi (y := (bi false)) rfl ?_
            refine lv_istore_n hx hb d_Mo_same_148 rfl hl (by decide) rfl (fun ls hl => ?_)
            replace hl : lv_has ls 4 [(1, .int (bi false)), (3, .int (nI j)), (2, .int (nI i2)), (0, .ref o)] := hl
            refine lv_iinc hx hb d_Mo_same_149 hl (k := 1) (v := (nI (j + 1))) rfl (nI_1 j) (by decide) rfl (fun ls hl => ?_)
            replace hl : lv_has ls 4 [(3, .int (nI (j + 1))), (1, .int (bi false)), (2, .int (nI i2)), (0, .ref o)] := hl
            refine lv_goto hx hb d_Mo_same_152 rfl ?_
            refine ih3 _ _ _ ?_ ?_ (lv_sub hl [0, 2, 1, 3] rfl)
            · omega
            · exact (by rw [← hres3]; simp only [allF]; rw [h121, Bool.true_and, show fdQ V i2 j = false from decide_eq_false h140])
          refine lv_iconst (v := 1) hx hb d_Mo_same_143 (by decide) ?_
          refine x_topi (y := (bi true)) rfl ?_
          refine lv_goto hx hb d_Mo_same_144 rfl ?_
          refine lv_istore_n hx hb d_Mo_same_148 rfl hl (by decide) rfl (fun ls hl => ?_)
          replace hl : lv_has ls 4 [(1, .int (bi true)), (3, .int (nI j)), (2, .int (nI i2)), (0, .ref o)] := hl
          refine lv_iinc hx hb d_Mo_same_149 hl (k := 1) (v := (nI (j + 1))) rfl (nI_1 j) (by decide) rfl (fun ls hl => ?_)
          replace hl : lv_has ls 4 [(3, .int (nI (j + 1))), (1, .int (bi true)), (2, .int (nI i2)), (0, .ref o)] := hl
          refine lv_goto hx hb d_Mo_same_152 rfl ?_
          refine ih3 _ _ _ ?_ ?_ (lv_sub hl [0, 2, 1, 3] rfl)
          · omega
          · exact (by rw [← hres3]; simp only [allF]; rw [h121, Bool.true_and, show fdQ V i2 j = true from decide_eq_true h140])
    | succ k ih =>
      refine lv_iload_n hx hb d_Mo_same_58 rfl (lv_at hl 0 rfl) ?_
      refine lv_iconst (v := 4) hx hb d_Mo_same_59 (by decide) ?_
      refine lv_icmp_ge hx hb d_Mo_same_60 rfl (fun h9 => absurd h9 (nI_ge (b := 4) (by omega) (by omega))) (fun _ => ?_)
      refine lv_iload_n hx hb d_Mo_same_63 rfl (lv_at hl 1 rfl) ?_
      refine lv_if_eq hx hb d_Mo_same_64 rfl (fun h64 => ?_) (fun h64 => ?_)
      · have h64 : ac = false := bi_eq0.mp h64
        refine lv_iconst (v := 0) hx hb d_Mo_same_88 (by decide) ?_
        refine x_topi (y := (bi false)) rfl ?_
        refine lv_istore_n hx hb d_Mo_same_89 rfl hl (by decide) rfl (fun ls hl => ?_)
        replace hl : lv_has ls 4 [(1, .int (bi false)), (2, .int (nI i)), (0, .ref o)] := hl
        refine lv_iinc hx hb d_Mo_same_90 hl (k := 1) (v := (nI (i + 1))) rfl (nI_1 i) (by decide) rfl (fun ls hl => ?_)
        replace hl : lv_has ls 4 [(2, .int (nI (i + 1))), (1, .int (bi false)), (0, .ref o)] := hl
        refine lv_goto hx hb d_Mo_same_93 rfl ?_
        refine ih _ _ _ ?_ ?_ hl
        · omega
        · exact (by rw [← hres1]; simp only [allF]; rw [h64, Bool.false_and])
      have h64 : ac = true := bi_n0 h64
      refine lv_aload_n hx hb d_Mo_same_67 rfl (lv_at hl 2 rfl) ?_
      refine va_get (D := (dC, dI)) (ci := 5) (v := .ref (a 10)) (C := R_Mo) (T := F_Mo) (N := 19) hx hb hts u_Mo hown hK hP 0 rfl rfl 11 (by decide) (hts _ kw_725) (fun _ h9 => h9) rfl d_Mo_same_68 ?_
      refine lv_iload_n hx hb d_Mo_same_71 rfl (lv_at hl 0 rfl) ?_
      refine x_iald (j := i) (v := (nI (V.pol i))) hx hb hK hP 11 0 rfl rfl (by omega) (by decide) rfl rfl d_Mo_same_72 ?_
      refine lv_aload_n hx hb d_Mo_same_73 rfl (lv_at hl 2 rfl) ?_
      refine va_get (D := (dC, dI)) (ci := 5) (v := .ref (a 10)) (C := R_Mo) (T := F_Mo) (N := 19) hx hb hts u_Mo hown hK hP 0 rfl rfl 11 (by decide) (hts _ kw_725) (fun _ h9 => h9) rfl d_Mo_same_74 ?_
      refine lv_iconst (v := 4) hx hb d_Mo_same_77 (by decide) ?_
      refine lv_iload_n hx hb d_Mo_same_78 rfl (lv_at hl 0 rfl) ?_
      refine lv_iadd hx hb d_Mo_same_79 ?_
      refine x_topi (y := (nI (4 + i))) (nI_add 4 _) ?_
      refine x_iald (j := 4 + i) (v := (nI (V.pol (4 + i)))) hx hb hK hP 11 0 rfl rfl (by omega) (by decide) rfl rfl d_Mo_same_80 ?_
      refine lv_icmp_ne hx hb d_Mo_same_81 rfl (fun h81 => ?_) (fun h81 => ?_)
      · have h81 := mt (nI_eq (by have := hV.pol i; omega) (by have := hV.pol (4 + i); omega)).mpr h81
        refine lv_iconst (v := 0) hx hb d_Mo_same_88 (by decide) ?_
        refine x_topi (y := (bi false)) rfl ?_
        refine lv_istore_n hx hb d_Mo_same_89 rfl hl (by decide) rfl (fun ls hl => ?_)
        replace hl : lv_has ls 4 [(1, .int (bi false)), (2, .int (nI i)), (0, .ref o)] := hl
        refine lv_iinc hx hb d_Mo_same_90 hl (k := 1) (v := (nI (i + 1))) rfl (nI_1 i) (by decide) rfl (fun ls hl => ?_)
        replace hl : lv_has ls 4 [(2, .int (nI (i + 1))), (1, .int (bi false)), (0, .ref o)] := hl
        refine lv_goto hx hb d_Mo_same_93 rfl ?_
        refine ih _ _ _ ?_ ?_ hl
        · omega
        · exact (by rw [← hres1]; simp only [allF]; rw [h64, Bool.true_and, show plQ V i = false from decide_eq_false h81])
      have h81 := (nI_eq (by have := hV.pol i; omega) (by have := hV.pol (4 + i); omega)).mp h81
      refine lv_iconst (v := 1) hx hb d_Mo_same_84 (by decide) ?_
      refine x_topi (y := (bi true)) rfl ?_
      refine lv_goto hx hb d_Mo_same_85 rfl ?_
      refine lv_istore_n hx hb d_Mo_same_89 rfl hl (by decide) rfl (fun ls hl => ?_)
      replace hl : lv_has ls 4 [(1, .int (bi true)), (2, .int (nI i)), (0, .ref o)] := hl
      refine lv_iinc hx hb d_Mo_same_90 hl (k := 1) (v := (nI (i + 1))) rfl (nI_1 i) (by decide) rfl (fun ls hl => ?_)
      replace hl : lv_has ls 4 [(2, .int (nI (i + 1))), (1, .int (bi true)), (0, .ref o)] := hl
      refine lv_goto hx hb d_Mo_same_93 rfl ?_
      refine ih _ _ _ ?_ ?_ hl
      · omega
      · exact (by rw [← hres1]; simp only [allF]; rw [h64, Bool.true_and, show plQ V i = true from decide_eq_true h81])
  have h47 := (nI_eq (by have := hV.dys 0; omega) (by have := hV.dys 1; omega)).mp h47
  refine lv_iconst (v := 1) hx hb d_Mo_same_50 (by decide) ?_
  refine x_topi (y := (bi true)) rfl ?_
  refine lv_goto hx hb d_Mo_same_51 rfl ?_
  have hsm : true = smI V := (decide_eq_true ⟨h17, h32, h47⟩).symm
  refine lv_istore_n hx hb d_Mo_same_55 rfl hl (by decide) rfl (fun ls hl => ?_)
  replace hl : lv_has ls 4 [(1, .int (bi true)), (0, .ref o)] := hl
  refine lv_iconst (v := 0) hx hb d_Mo_same_56 (by decide) ?_
  refine lv_istore_n hx hb d_Mo_same_57 rfl hl (by decide) rfl (fun ls hl => ?_)
  replace hl : lv_has ls 4 [(2, .int 0), (1, .int (bi true)), (0, .ref o)] := hl
  obtain ⟨i, hi0⟩ : ∃ i : Nat, i = 0 := ⟨_, rfl⟩
  obtain ⟨k, hk0⟩ : ∃ k : Nat, k = 4 - 0 := ⟨_, rfl⟩
  obtain ⟨ac, hac⟩ : ∃ ac : Bool, ac = true := ⟨_, rfl⟩
  have hres1 : allF (plQ V) i k ac = (allF (plQ V) 0 4 (smI V)) := (by first | (rw [hi0, hk0, hac, hsm]; done) | (rw [hi0, hk0, hac, hsm]; rfl))
  replace hl : lv_has ls 4 [(2, .int (nI i)), (1, .int (bi ac)), (0, .ref o)] := by subst hi0; subst hac; exact hl
  have hik : i + k = 4 := by omega
  clear hi0 hk0 hac
  replace hres1 := hres1
  replace hl : lv_has ls 4 [(2, .int (nI i)), (1, .int (bi ac)), (0, .ref o)] := hl
  induction k generalizing i ls ac with
  | zero =>
    refine lv_iload_n hx hb d_Mo_same_58 rfl (lv_at hl 0 rfl) ?_
    refine lv_iconst (v := 4) hx hb d_Mo_same_59 (by decide) ?_
    refine lv_icmp_ge hx hb d_Mo_same_60 rfl (fun _ => ?_) (fun h9 => absurd (nI_le (a := 4) (by omega) (by omega)) h9)
    refine lv_iconst (v := 0) hx hb d_Mo_same_96 (by decide) ?_
    refine lv_istore_n hx hb d_Mo_same_97 rfl hl (by decide) rfl (fun ls hl => ?_)
    replace hl : lv_has ls 4 [(2, .int 0), (1, .int (bi ac)), (0, .ref o)] := hl
    obtain ⟨i2, hi20⟩ : ∃ i2 : Nat, i2 = 0 := ⟨_, rfl⟩
    obtain ⟨k2, hk20⟩ : ∃ k2 : Nat, k2 = V.mn 0 - 0 := ⟨_, rfl⟩
    obtain ⟨a2, ha2⟩ : ∃ a2 : Bool, a2 = ac := ⟨_, rfl⟩
    have hres2 : smB V i2 k2 a2 = smB V 0 (V.mn 0) (allF (plQ V) 0 4 (smI V)) := (by rw [hi20, hk20, ha2, ← hres1]; rfl)
    replace hl : lv_has ls 4 [(2, .int (nI i2)), (1, .int (bi a2)), (0, .ref o)] := by subst hi20; subst ha2; exact hl
    have hi2k2 : i2 + k2 = V.mn 0 := by omega
    clear hi20 hk20 ha2
    replace hres2 := hres2
    replace hl : lv_has ls 4 [(2, .int (nI i2)), (1, .int (bi a2)), (0, .ref o)] := hl
    induction k2 generalizing i2 ls a2 with
    | zero =>
      refine lv_iload_n hx hb d_Mo_same_98 rfl (lv_at hl 0 rfl) ?_
      refine lv_aload_n hx hb d_Mo_same_99 rfl (lv_at hl 2 rfl) ?_
      refine va_get (D := (dC, dI)) (ci := 5) (v := .ref (a 0)) (C := R_Mo) (T := F_Mo) (N := 19) hx hb hts u_Mo hown hK hP 0 rfl rfl 1 (by decide) (hts _ kw_715) (fun _ h9 => h9) rfl d_Mo_same_100 ?_
      refine lv_iconst (v := 0) hx hb d_Mo_same_103 (by decide) ?_
      refine x_iald (j := 0) (v := (nI (V.mn 0))) hx hb hK hP 1 0 rfl rfl (by decide) (by decide) rfl rfl d_Mo_same_104 ?_
      refine lv_icmp_ge hx hb d_Mo_same_105 rfl (fun _ => ?_) (fun h9 => absurd (nI_le (by omega) (by have := hV.mn 0; omega)) h9)
      refine lv_iload_n hx hb d_Mo_same_161 rfl (lv_at hl 1 rfl) ?_
      have hP9 : va_P (dC, dI) classes (wMo cI o a (mkV V.mn V.pre V.len V.lev V.hol V.sta V.en V.tdy V.dys V.pol V.par V.kd V.fi V.se V.th V.ne 0 V.fo V.fl)) H := hP
      have hD9 : va_D A (wMo cI o a (mkV V.mn V.pre V.len V.lev V.hol V.sta V.en V.tdy V.dys V.pol V.par V.kd V.fi V.se V.th V.ne 0 V.fo V.fl)) := hD
      exact W.zret (v := (bi a2)) hx hb hr (bi_nar _) (fun t ht hW => ⟨⟨(bi a2), (), rfl, (by unfold smN; show bi a2 = bi _; rw [← hres2]; rfl), by rw [ht]; exact hP9, va_K.moved hW.alike hK, hD9⟩, hS.F ht⟩) hS.2.2 d_Mo_same_162
    | succ k2 ih2 =>
      refine lv_iload_n hx hb d_Mo_same_98 rfl (lv_at hl 0 rfl) ?_
      refine lv_aload_n hx hb d_Mo_same_99 rfl (lv_at hl 2 rfl) ?_
      refine va_get (D := (dC, dI)) (ci := 5) (v := .ref (a 0)) (C := R_Mo) (T := F_Mo) (N := 19) hx hb hts u_Mo hown hK hP 0 rfl rfl 1 (by decide) (hts _ kw_715) (fun _ h9 => h9) rfl d_Mo_same_100 ?_
      refine lv_iconst (v := 0) hx hb d_Mo_same_103 (by decide) ?_
      refine x_iald (j := 0) (v := (nI (V.mn 0))) hx hb hK hP 1 0 rfl rfl (by decide) (by decide) rfl rfl d_Mo_same_104 ?_
      refine lv_icmp_ge hx hb d_Mo_same_105 rfl (fun h9 => absurd h9 (nI_ge (by omega) (by have := hV.mn 0; omega))) (fun _ => ?_)
      refine lv_iload_n hx hb d_Mo_same_108 rfl (lv_at hl 1 rfl) ?_
      refine lv_if_eq hx hb d_Mo_same_109 rfl (fun h109 => ?_) (fun h109 => ?_)
      · have h109 : a2 = false := bi_eq0.mp h109
        refine lv_iload_n hx hb d_Mo_same_161 rfl (lv_at hl 1 rfl) ?_
        have hP9 : va_P (dC, dI) classes (wMo cI o a (mkV V.mn V.pre V.len V.lev V.hol V.sta V.en V.tdy V.dys V.pol V.par V.kd V.fi V.se V.th V.ne 0 V.fo V.fl)) H := hP
        have hD9 : va_D A (wMo cI o a (mkV V.mn V.pre V.len V.lev V.hol V.sta V.en V.tdy V.dys V.pol V.par V.kd V.fi V.se V.th V.ne 0 V.fo V.fl)) := hD
        exact W.zret (v := (bi a2)) hx hb hr (bi_nar _) (fun t ht hW => ⟨⟨(bi a2), (), rfl, (by unfold smN; show bi a2 = bi _; rw [← hres2]; simp only [smB]; rw [if_neg (by rw [h109]; decide)]), by rw [ht]; exact hP9, va_K.moved hW.alike hK, hD9⟩, hS.F ht⟩) hS.2.2 d_Mo_same_162
      have h109 : a2 = true := bi_n0 h109
      refine lv_iconst (v := 0) hx hb d_Mo_same_112 (by decide) ?_
      refine lv_istore_n hx hb d_Mo_same_113 rfl hl (by decide) rfl (fun ls hl => ?_)
      replace hl : lv_has ls 4 [(3, .int 0), (2, .int (nI i2)), (1, .int (bi a2)), (0, .ref o)] := hl
      obtain ⟨j, hj0⟩ : ∃ j : Nat, j = 0 := ⟨_, rfl⟩
      obtain ⟨k3, hk30⟩ : ∃ k3 : Nat, k3 = 7 - 0 := ⟨_, rfl⟩
      obtain ⟨a3, ha3⟩ : ∃ a3 : Bool, a3 = a2 := ⟨_, rfl⟩
      have hres3 : allF (fdQ V i2) j k3 a3 = allF (fdQ V i2) 0 7 a2 := (by first | (rw [hj0, hk30, ha3]; done) | (rw [hj0, hk30, ha3]; rfl))
      replace hl : lv_has ls 4 [(3, .int (nI j)), (2, .int (nI i2)), (1, .int (bi a3)), (0, .ref o)] := by subst hj0; subst ha3; exact hl
      have hjk3 : j + k3 = 7 := by omega
      clear hj0 hk30 ha3
      replace hres3 := hres3
      replace hl : lv_has ls 4 [(3, .int (nI j)), (2, .int (nI i2)), (1, .int (bi a3)), (0, .ref o)] := hl
      induction k3 generalizing j ls a3 with
      | zero =>
        refine lv_iload_n hx hb d_Mo_same_114 rfl (lv_at hl 0 rfl) ?_
        refine lv_bipush (v := 7) hx hb d_Mo_same_115 (by decide) ?_
        refine lv_icmp_ge hx hb d_Mo_same_117 rfl (fun _ => ?_) (fun h9 => absurd (nI_le (a := 7) (by omega) (by omega)) h9)
        refine lv_iinc hx hb d_Mo_same_155 hl (k := 1) (v := (nI (i2 + 1))) rfl (nI_1 i2) (by decide) rfl (fun ls hl => ?_)
        replace hl : lv_has ls 4 [(2, .int (nI (i2 + 1))), (3, .int (nI j)), (1, .int (bi a3)), (0, .ref o)] := hl
        refine lv_goto hx hb d_Mo_same_158 rfl ?_
        refine ih2 _ _ _ ?_ ?_ (lv_sub hl [0, 2, 3] rfl)
        · omega
        · exact (by rw [← hres2]; simp only [smB]; rw [if_pos h109, ← hres3]; rfl)
      | succ k3 ih3 =>
        refine lv_iload_n hx hb d_Mo_same_114 rfl (lv_at hl 0 rfl) ?_
        refine lv_bipush (v := 7) hx hb d_Mo_same_115 (by decide) ?_
        refine lv_icmp_ge hx hb d_Mo_same_117 rfl (fun h9 => absurd h9 (nI_ge (b := 7) (by omega) (by omega))) (fun _ => ?_)
        refine lv_iload_n hx hb d_Mo_same_120 rfl (lv_at hl 2 rfl) ?_
        refine lv_if_eq hx hb d_Mo_same_121 rfl (fun h121 => ?_) (fun h121 => ?_)
        · have h121 : a3 = false := bi_eq0.mp h121
          refine lv_iconst (v := 0) hx hb d_Mo_same_147 (by decide) ?_
          refine x_topi (y := (bi false)) rfl ?_
          refine lv_istore_n hx hb d_Mo_same_148 rfl hl (by decide) rfl (fun ls hl => ?_)
          replace hl : lv_has ls 4 [(1, .int (bi false)), (3, .int (nI j)), (2, .int (nI i2)), (0, .ref o)] := hl
          refine lv_iinc hx hb d_Mo_same_149 hl (k := 1) (v := (nI (j + 1))) rfl (nI_1 j) (by decide) rfl (fun ls hl => ?_)
          replace hl : lv_has ls 4 [(3, .int (nI (j + 1))), (1, .int (bi false)), (2, .int (nI i2)), (0, .ref o)] := hl
          refine lv_goto hx hb d_Mo_same_152 rfl ?_
          refine ih3 _ _ _ ?_ ?_ (lv_sub hl [0, 2, 1, 3] rfl)
          · omega
          · exact (by rw [← hres3]; simp only [allF]; rw [h121, Bool.false_and])
        have h121 : a3 = true := bi_n0 h121
        refine lv_aload_n hx hb d_Mo_same_124 rfl (lv_at hl 3 rfl) ?_
        refine lv_iload_n hx hb d_Mo_same_125 rfl (lv_at hl 1 rfl) ?_
        refine lv_iload_n hx hb d_Mo_same_126 rfl (lv_at hl 0 rfl) ?_
        refine vp_callSi (W.runV (b := o) (As := [.int (nI i2), .int (nI j)]) (rest := []) ⟨hx, hb, hml, hown, hts⟩ (c_Mo_fieldOf l dC dI cI o a (mkV V.mn V.pre V.len V.lev V.hol V.sta V.en V.tdy V.dys V.pol V.par V.kd V.fi V.se V.th V.ne 0 V.fo V.fl) hV i2 (by have := hV.mn 0; omega) j (by omega)) (cwV 2 hts (gV kw_963 kw_965 ks_51 kw_6 kw_966) rfl rfl rfl (by decide +kernel) ⟨Nat.le_of_ble_eq_true rfl, Nat.le_of_ble_eq_true rfl⟩) ⟨PcS.blind, va_recv (q0 := 0) hK hP rfl rfl, PcS.use hP hK hN⟩ rfl rfl hl.1 rfl (lv_room (Nat.le_of_ble_eq_true rfl)) d_Mo_same_127 ⟨Nat.zero_le _, Nat.zero_le _⟩) (fun r127 hr127 => ?_)
        obtain rfl : r127 = (fdN V i2 j) := hr127
        refine lv_aload_n hx hb d_Mo_same_130 rfl (lv_at hl 3 rfl) ?_
        refine lv_sipush (v := 200) hx hb d_Mo_same_131 (by decide) ?_
        refine lv_iload_n hx hb d_Mo_same_134 rfl (lv_at hl 1 rfl) ?_
        refine lv_iadd hx hb d_Mo_same_135 ?_
        refine x_topi (y := (nI (200 + i2))) (nI_add 200 _) ?_
        refine lv_iload_n hx hb d_Mo_same_136 rfl (lv_at hl 0 rfl) ?_
        refine vp_callSi (W.runV (b := o) (As := [.int (nI (200 + i2)), .int (nI j)]) (rest := [.int (fdN V i2 j)]) ⟨hx, hb, hml, hown, hts⟩ (c_Mo_fieldOf l dC dI cI o a (mkV V.mn V.pre V.len V.lev V.hol V.sta V.en V.tdy V.dys V.pol V.par V.kd V.fi V.se V.th V.ne 0 V.fo V.fl) hV (200 + i2) (by have := hV.mn 0; omega) j (by omega)) (cwV 2 hts (gV kw_963 kw_965 ks_51 kw_6 kw_966) rfl rfl rfl (by decide +kernel) ⟨Nat.le_of_ble_eq_true rfl, Nat.le_of_ble_eq_true rfl⟩) ⟨PcS.blind, va_recv (q0 := 0) hK hP rfl rfl, PcS.use hP hK hN⟩ rfl rfl hl.1 rfl (lv_room (Nat.le_of_ble_eq_true rfl)) d_Mo_same_137 ⟨Nat.zero_le _, Nat.zero_le _⟩) (fun r137 hr137 => ?_)
        obtain rfl : r137 = (fdN V (200 + i2) j) := hr137
        refine lv_icmp_ne hx hb d_Mo_same_140 rfl (fun h140 => ?_) (fun h140 => ?_)
        · refine lv_iconst (v := 0) hx hb d_Mo_same_147 (by decide) ?_
          refine x_topi (y := (bi false)) rfl ?_
          refine lv_istore_n hx hb d_Mo_same_148 rfl hl (by decide) rfl (fun ls hl => ?_)
          replace hl : lv_has ls 4 [(1, .int (bi false)), (3, .int (nI j)), (2, .int (nI i2)), (0, .ref o)] := hl
          refine lv_iinc hx hb d_Mo_same_149 hl (k := 1) (v := (nI (j + 1))) rfl (nI_1 j) (by decide) rfl (fun ls hl => ?_)
          replace hl : lv_has ls 4 [(3, .int (nI (j + 1))), (1, .int (bi false)), (2, .int (nI i2)), (0, .ref o)] := hl
          refine lv_goto hx hb d_Mo_same_152 rfl ?_
          refine ih3 _ _ _ ?_ ?_ (lv_sub hl [0, 2, 1, 3] rfl)
          · omega
          · exact (by rw [← hres3]; simp only [allF]; rw [h121, Bool.true_and, show fdQ V i2 j = false from decide_eq_false h140])
        refine lv_iconst (v := 1) hx hb d_Mo_same_143 (by decide) ?_
        refine x_topi (y := (bi true)) rfl ?_
        refine lv_goto hx hb d_Mo_same_144 rfl ?_
        refine lv_istore_n hx hb d_Mo_same_148 rfl hl (by decide) rfl (fun ls hl => ?_)
        replace hl : lv_has ls 4 [(1, .int (bi true)), (3, .int (nI j)), (2, .int (nI i2)), (0, .ref o)] := hl
        refine lv_iinc hx hb d_Mo_same_149 hl (k := 1) (v := (nI (j + 1))) rfl (nI_1 j) (by decide) rfl (fun ls hl => ?_)
        replace hl : lv_has ls 4 [(3, .int (nI (j + 1))), (1, .int (bi true)), (2, .int (nI i2)), (0, .ref o)] := hl
        refine lv_goto hx hb d_Mo_same_152 rfl ?_
        refine ih3 _ _ _ ?_ ?_ (lv_sub hl [0, 2, 1, 3] rfl)
        · omega
        · exact (by rw [← hres3]; simp only [allF]; rw [h121, Bool.true_and, show fdQ V i2 j = true from decide_eq_true h140])
  | succ k ih =>
    refine lv_iload_n hx hb d_Mo_same_58 rfl (lv_at hl 0 rfl) ?_
    refine lv_iconst (v := 4) hx hb d_Mo_same_59 (by decide) ?_
    refine lv_icmp_ge hx hb d_Mo_same_60 rfl (fun h9 => absurd h9 (nI_ge (b := 4) (by omega) (by omega))) (fun _ => ?_)
    refine lv_iload_n hx hb d_Mo_same_63 rfl (lv_at hl 1 rfl) ?_
    refine lv_if_eq hx hb d_Mo_same_64 rfl (fun h64 => ?_) (fun h64 => ?_)
    · have h64 : ac = false := bi_eq0.mp h64
      refine lv_iconst (v := 0) hx hb d_Mo_same_88 (by decide) ?_
      refine x_topi (y := (bi false)) rfl ?_
      refine lv_istore_n hx hb d_Mo_same_89 rfl hl (by decide) rfl (fun ls hl => ?_)
      replace hl : lv_has ls 4 [(1, .int (bi false)), (2, .int (nI i)), (0, .ref o)] := hl
      refine lv_iinc hx hb d_Mo_same_90 hl (k := 1) (v := (nI (i + 1))) rfl (nI_1 i) (by decide) rfl (fun ls hl => ?_)
      replace hl : lv_has ls 4 [(2, .int (nI (i + 1))), (1, .int (bi false)), (0, .ref o)] := hl
      refine lv_goto hx hb d_Mo_same_93 rfl ?_
      refine ih _ _ _ ?_ ?_ hl
      · omega
      · exact (by rw [← hres1]; simp only [allF]; rw [h64, Bool.false_and])
    have h64 : ac = true := bi_n0 h64
    refine lv_aload_n hx hb d_Mo_same_67 rfl (lv_at hl 2 rfl) ?_
    refine va_get (D := (dC, dI)) (ci := 5) (v := .ref (a 10)) (C := R_Mo) (T := F_Mo) (N := 19) hx hb hts u_Mo hown hK hP 0 rfl rfl 11 (by decide) (hts _ kw_725) (fun _ h9 => h9) rfl d_Mo_same_68 ?_
    refine lv_iload_n hx hb d_Mo_same_71 rfl (lv_at hl 0 rfl) ?_
    refine x_iald (j := i) (v := (nI (V.pol i))) hx hb hK hP 11 0 rfl rfl (by omega) (by decide) rfl rfl d_Mo_same_72 ?_
    refine lv_aload_n hx hb d_Mo_same_73 rfl (lv_at hl 2 rfl) ?_
    refine va_get (D := (dC, dI)) (ci := 5) (v := .ref (a 10)) (C := R_Mo) (T := F_Mo) (N := 19) hx hb hts u_Mo hown hK hP 0 rfl rfl 11 (by decide) (hts _ kw_725) (fun _ h9 => h9) rfl d_Mo_same_74 ?_
    refine lv_iconst (v := 4) hx hb d_Mo_same_77 (by decide) ?_
    refine lv_iload_n hx hb d_Mo_same_78 rfl (lv_at hl 0 rfl) ?_
    refine lv_iadd hx hb d_Mo_same_79 ?_
    refine x_topi (y := (nI (4 + i))) (nI_add 4 _) ?_
    refine x_iald (j := 4 + i) (v := (nI (V.pol (4 + i)))) hx hb hK hP 11 0 rfl rfl (by omega) (by decide) rfl rfl d_Mo_same_80 ?_
    refine lv_icmp_ne hx hb d_Mo_same_81 rfl (fun h81 => ?_) (fun h81 => ?_)
    · have h81 := mt (nI_eq (by have := hV.pol i; omega) (by have := hV.pol (4 + i); omega)).mpr h81
      refine lv_iconst (v := 0) hx hb d_Mo_same_88 (by decide) ?_
      refine x_topi (y := (bi false)) rfl ?_
      refine lv_istore_n hx hb d_Mo_same_89 rfl hl (by decide) rfl (fun ls hl => ?_)
      replace hl : lv_has ls 4 [(1, .int (bi false)), (2, .int (nI i)), (0, .ref o)] := hl
      refine lv_iinc hx hb d_Mo_same_90 hl (k := 1) (v := (nI (i + 1))) rfl (nI_1 i) (by decide) rfl (fun ls hl => ?_)
      replace hl : lv_has ls 4 [(2, .int (nI (i + 1))), (1, .int (bi false)), (0, .ref o)] := hl
      refine lv_goto hx hb d_Mo_same_93 rfl ?_
      refine ih _ _ _ ?_ ?_ hl
      · omega
      · exact (by rw [← hres1]; simp only [allF]; rw [h64, Bool.true_and, show plQ V i = false from decide_eq_false h81])
    have h81 := (nI_eq (by have := hV.pol i; omega) (by have := hV.pol (4 + i); omega)).mp h81
    refine lv_iconst (v := 1) hx hb d_Mo_same_84 (by decide) ?_
    refine x_topi (y := (bi true)) rfl ?_
    refine lv_goto hx hb d_Mo_same_85 rfl ?_
    refine lv_istore_n hx hb d_Mo_same_89 rfl hl (by decide) rfl (fun ls hl => ?_)
    replace hl : lv_has ls 4 [(1, .int (bi true)), (2, .int (nI i)), (0, .ref o)] := hl
    refine lv_iinc hx hb d_Mo_same_90 hl (k := 1) (v := (nI (i + 1))) rfl (nI_1 i) (by decide) rfl (fun ls hl => ?_)
    replace hl : lv_has ls 4 [(2, .int (nI (i + 1))), (1, .int (bi true)), (0, .ref o)] := hl
    refine lv_goto hx hb d_Mo_same_93 rfl ?_
    refine ih _ _ _ ?_ ?_ hl
    · omega
    · exact (by rw [← hres1]; simp only [allF]; rw [h64, Bool.true_and, show plQ V i = true from decide_eq_true h81])
