/-! what the reference's writers do -/
abbrev mkV (mn pre len lev hol sta en tdy dys pol : Nat → Nat) (par : Nat → Option Nat) (kd fi se th : Nat → Int32) (ne tc : Nat) (fo : Int64) (fl : Int32) : MS := (fun k => match k with
  | 0 => mn
  | 1 => pre
  | 2 => len
  | 3 => lev
  | 4 => hol
  | 5 => sta
  | 6 => en
  | 7 => tdy
  | 8 => dys
  | _ => pol, par, fun k => match k with
  | 0 => kd
  | 1 => fi
  | 2 => se
  | _ => th, ne, tc, fo, fl)
abbrev vNote (V : MS) (k0 k1 k2 k3 : Int32) : MS := (mkV V.mn V.pre V.len V.lev V.hol V.sta V.en V.tdy V.dys V.pol V.par (upd V.kd V.ne k0) (upd V.fi V.ne k1) (upd V.se V.ne k2) (upd V.th V.ne k3) (V.ne + 1) V.tc V.fo V.fl)
abbrev vMake (V : MS) (b d p n : Nat) (q0 : Option Nat) (w v : Nat) : MS := (mkV (va_up V.mn d (V.mn d + 1)) (va_up V.pre (b + V.mn d) p) (va_up V.len (b + V.mn d) n) (va_up V.lev (b + V.mn d) (match q0 with
  | none => 0
  | some q => V.lev q + 1)) (va_up V.hol (b + V.mn d) w) (va_up V.sta (b + V.mn d) v) (va_up V.en (b + V.mn d) 0) V.tdy V.dys V.pol (va_up V.par (b + V.mn d) q0) V.kd V.fi V.se V.th V.ne V.tc V.fo V.fl)
abbrev vRet1 (V : MS) (b d x v : Nat) : MS := (mkV V.mn V.pre V.len V.lev V.hol (va_up V.sta (b + x) v) (va_up V.en (b + x) (V.tdy d + V.dys d)) V.tdy V.dys V.pol V.par V.kd V.fi V.se V.th V.ne V.tc V.fo V.fl)
def vRet (V : MS) (b d x : Nat) : MS := if V.dys d = 0 then vRet1 V b d x 4 else vRet1 V b d x 3
abbrev vGro (V : MS) (r : Nat) : MS := (mkV V.mn (va_up V.pre r (V.pre r &&& mskN (V.len r - 1))) (va_up V.len r (V.len r - 1)) V.lev V.hol V.sta V.en V.tdy V.dys V.pol V.par V.kd V.fi V.se V.th V.ne V.tc V.fo V.fl)
abbrev vShr1 (V : MS) (r p : Nat) : MS := (mkV V.mn (va_up V.pre r p) (va_up V.len r (V.len r + 1)) V.lev V.hol V.sta V.en V.tdy V.dys V.pol V.par V.kd V.fi V.se V.th V.ne V.tc V.fo V.fl)
def vShr (V : MS) (r : Nat) (u : Bool) : MS := match u with
  | true => vShr1 V r (V.pre r ||| 2 ^ (32 - (V.len r + 1)))
  | false => vShr1 V r (V.pre r)
theorem nx_or (a b : Nat) : nI a ||| nI b = nI (a ||| b) := by
  apply Int32.toBitVec_inj.1
  show BitVec.ofNat 32 a ||| BitVec.ofNat 32 b = BitVec.ofNat 32 (a ||| b)
  apply BitVec.eq_of_getLsbD_eq
  intro i hi
  simp [hi]
def frN (V : MS) (r p n : Nat) : Prop := V.len r ≤ n ∧ mtM p n (V.pre r) (V.len r) ∧ tkN V r p n = none
def gwN (V : MS) (b d x : Nat) : Int32 := if (x < V.mn d ∧ V.sta (b + x) = 1) ∧ ¬ V.par (b + x) = none then (if V.len (b + x) = V.len ((V.par (b + x)).getD 0) then -2 else if V.len ((V.par (b + x)).getD 0) ≤ V.len (b + x) ∧ mtM (V.pre (b + x) ^^^ 2 ^ (32 - V.len (b + x))) (V.len (b + x)) (V.pre ((V.par (b + x)).getD 0)) (V.len ((V.par (b + x)).getD 0)) ∧ tkN V ((V.par (b + x)).getD 0) (V.pre (b + x) ^^^ 2 ^ (32 - V.len (b + x))) (V.len (b + x)) = none then 0 else -1) else -5
def lstN (V : MS) (r : Nat) (u : Bool) : Nat := match u with
  | true => V.pre r
  | false => V.pre r ^^^ 2 ^ (32 - (V.len r + 1))
def swN (V : MS) (b d x : Nat) (u : Bool) : Int32 := if (x < V.mn d ∧ V.sta (b + x) = 1) ∧ ¬ V.par (b + x) = none then (if V.len (b + x) = 32 then -2 else if tkN V (b + x) (lstN V (b + x) u) (V.len (b + x) + 1) = none then 0 else -1) else -5
set_option maxHeartbeats 4000000 in
set_option maxRecDepth 100000 in
theorem c_Mo_note (l : Launch) (dC : Nat → ClassId) (dI : Nat → Nat → Nat) (sz : Nat) (cI : ClassId) (o : Nat) (a : Nat → Nat) (V : MS) (hne : V.ne < 300) (k0 k1 k2 k3 : Int32) : Met l y_Mo_note (.code y_Mo_note b_Mo_note 5 none :: wG) ({ frames := 0, cells := 0, slots := 0, locals := 0 }) (PcM (dC, dI) [(cI, .int)] (wMo cI o a V) [.ref o, .int k0, .int k1, .int k2, .int k3] sz) (QmV (dC, dI) [(cI, .int)] (wMo cI o a V) (wMo cI o a (vNote V k0 k1 k2 k3)) sz) 0 0 (va_A (wMo cI o a V) sz) := by
  refine Met.ofW (cc := b_Mo_note) (maxL := 5) (ret := none) (by decide) rfl ?_
  intro pg eg s mg ag bg meth cg s₁ B hml hv
  obtain ⟨rfl, hsz, hP, hK, hD0, hN⟩ := hv
  have hx := B.exec
  have hb := B.bytes
  have hr := B.returns
  have hlocks := B.notSynchronized
  have hts : ∀ w9 ∈ wG, w9.before ([.ref o, .int k0, .int k1, .int k2, .int k3] : List Value).toArray s = true := fun w9 h9 => atoms_spec (ws := (.code y_Mo_note b_Mo_note 5 none :: wG)) B.pre w9 (List.mem_cons_of_mem _ h9)
  have hown : s.vm.findClass "PrefixRegistryModel" = some mg.cls := findClass_of_methodNamed B.named
  subst hsz
  have hD := hD0.self (sz := s.heap.size)
  unfold QmV
  generalize hAe : va_A (wMo cI o a V) s.heap.size = A at hD ⊢
  have hA : ∀ q : Nat, s.heap.size ≤ q → A q := fun q h => by rw [← hAe]; exact Or.inr h
  have hS : va_S A s.heap s.heap [] := va_S.rf
  have hl := lv_entry ([.ref o, .int k0, .int k1, .int k2, .int k3]) (n := 5) (Nat.le_of_ble_eq_true rfl)
  rw [lg_entry_eq]
  generalize (lg_sl ([.ref o, .int k0, .int k1, .int k2, .int k3]) ++ List.replicate (5 - (lg_sl ([.ref o, .int k0, .int k1, .int k2, .int k3])).length) Slot.unset).toArray = ls at hl ⊢
  replace hl : lv_has ls 5 [(0, .ref o), (1, .int k0), (2, .int k1), (3, .int k2), (4, .int k3)] := hl
  replace hP : va_P (dC, dI) classes (wMo cI o a V) s.heap := hP
  replace hD : va_D A (wMo cI o a V) := hD
  refine lv_aload_n hx hb d_Mo_note_0 rfl (lv_at hl 0 rfl) ?_
  refine va_get (D := (dC, dI)) (ci := 5) (v := .ref (a 11)) (C := R_Mo) (T := F_Mo) (N := 19) hx hb hts u_Mo hown hK hP 0 rfl rfl 13 (by decide) (hts _ kw_727) (fun _ h9 => h9) rfl d_Mo_note_1 ?_
  refine lv_aload_n hx hb d_Mo_note_4 rfl (lv_at hl 0 rfl) ?_
  refine va_get (D := (dC, dI)) (ci := 5) (v := .int (nI V.ne)) (C := R_Mo) (T := F_Mo) (N := 19) hx hb hts u_Mo hown hK hP 0 rfl rfl 12 (by decide) (hts _ kw_726) (fun _ h9 => h9) rfl d_Mo_note_5 ?_
  refine lv_iload_n hx hb d_Mo_note_8 rfl (lv_at hl 1 rfl) ?_
  refine x_iast (j := V.ne) (g := (upd V.kd V.ne k0)) hx hb hK hP hD hS 12 0 rfl rfl hne (by decide) rfl rfl rfl d_Mo_note_9 (fun H locs hP hD hS => ?_)
  replace hP : va_P (dC, dI) classes [(o, .inr (5, [.int (nI V.tc), .ref (a 0), .ref (a 1), .ref (a 2), .ref (a 3), .ref (a 4), .ref (a 5), .ref (a 6), .ref (a 7), .ref (a 8), .ref (a 9), .ref (a 10), .int (nI V.ne), .ref (a 11), .ref (a 12), .ref (a 13), .ref (a 14), .long V.fo, .int V.fl])), ((a 0), .inl (cI, 2, .inl (fun z9 => nI (V.mn z9)))), ((a 1), .inl (cI, 400, .inl (fun z9 => nI (V.pre z9)))), ((a 2), .inl (cI, 400, .inl (fun z9 => nI (V.len z9)))), ((a 3), .inl (cI, 400, .inl (fun z9 => pI (V.par z9)))), ((a 4), .inl (cI, 400, .inl (fun z9 => nI (V.lev z9)))), ((a 5), .inl (cI, 400, .inl (fun z9 => nI (V.hol z9)))), ((a 6), .inl (cI, 400, .inl (fun z9 => nI (V.sta z9)))), ((a 7), .inl (cI, 400, .inl (fun z9 => nI (V.en z9)))), ((a 8), .inl (cI, 2, .inl (fun z9 => nI (V.tdy z9)))), ((a 9), .inl (cI, 2, .inl (fun z9 => nI (V.dys z9)))), ((a 10), .inl (cI, 8, .inl (fun z9 => nI (V.pol z9)))), ((a 11), .inl (cI, 300, .inl (upd V.kd V.ne k0))), ((a 12), .inl (cI, 300, .inl V.fi)), ((a 13), .inl (cI, 300, .inl V.se)), ((a 14), .inl (cI, 300, .inl V.th))] H := hP
  replace hD : va_D A [(o, .inr (5, [.int (nI V.tc), .ref (a 0), .ref (a 1), .ref (a 2), .ref (a 3), .ref (a 4), .ref (a 5), .ref (a 6), .ref (a 7), .ref (a 8), .ref (a 9), .ref (a 10), .int (nI V.ne), .ref (a 11), .ref (a 12), .ref (a 13), .ref (a 14), .long V.fo, .int V.fl])), ((a 0), .inl (cI, 2, .inl (fun z9 => nI (V.mn z9)))), ((a 1), .inl (cI, 400, .inl (fun z9 => nI (V.pre z9)))), ((a 2), .inl (cI, 400, .inl (fun z9 => nI (V.len z9)))), ((a 3), .inl (cI, 400, .inl (fun z9 => pI (V.par z9)))), ((a 4), .inl (cI, 400, .inl (fun z9 => nI (V.lev z9)))), ((a 5), .inl (cI, 400, .inl (fun z9 => nI (V.hol z9)))), ((a 6), .inl (cI, 400, .inl (fun z9 => nI (V.sta z9)))), ((a 7), .inl (cI, 400, .inl (fun z9 => nI (V.en z9)))), ((a 8), .inl (cI, 2, .inl (fun z9 => nI (V.tdy z9)))), ((a 9), .inl (cI, 2, .inl (fun z9 => nI (V.dys z9)))), ((a 10), .inl (cI, 8, .inl (fun z9 => nI (V.pol z9)))), ((a 11), .inl (cI, 300, .inl (upd V.kd V.ne k0))), ((a 12), .inl (cI, 300, .inl V.fi)), ((a 13), .inl (cI, 300, .inl V.se)), ((a 14), .inl (cI, 300, .inl V.th))] := hD
  refine lv_aload_n hx hb d_Mo_note_10 rfl (lv_at hl 0 rfl) ?_
  refine va_get (D := (dC, dI)) (ci := 5) (v := .ref (a 12)) (C := R_Mo) (T := F_Mo) (N := 19) hx hb hts u_Mo hown hK hP 0 rfl rfl 14 (by decide) (hts _ kw_728) (fun _ h9 => h9) rfl d_Mo_note_11 ?_
  refine lv_aload_n hx hb d_Mo_note_14 rfl (lv_at hl 0 rfl) ?_
  refine va_get (D := (dC, dI)) (ci := 5) (v := .int (nI V.ne)) (C := R_Mo) (T := F_Mo) (N := 19) hx hb hts u_Mo hown hK hP 0 rfl rfl 12 (by decide) (hts _ kw_726) (fun _ h9 => h9) rfl d_Mo_note_15 ?_
  refine lv_iload_n hx hb d_Mo_note_18 rfl (lv_at hl 2 rfl) ?_
  refine x_iast (j := V.ne) (g := (upd V.fi V.ne k1)) hx hb hK hP hD hS 13 0 rfl rfl hne (by decide) rfl rfl rfl d_Mo_note_19 (fun H locs hP hD hS => ?_)
  replace hP : va_P (dC, dI) classes [(o, .inr (5, [.int (nI V.tc), .ref (a 0), .ref (a 1), .ref (a 2), .ref (a 3), .ref (a 4), .ref (a 5), .ref (a 6), .ref (a 7), .ref (a 8), .ref (a 9), .ref (a 10), .int (nI V.ne), .ref (a 11), .ref (a 12), .ref (a 13), .ref (a 14), .long V.fo, .int V.fl])), ((a 0), .inl (cI, 2, .inl (fun z9 => nI (V.mn z9)))), ((a 1), .inl (cI, 400, .inl (fun z9 => nI (V.pre z9)))), ((a 2), .inl (cI, 400, .inl (fun z9 => nI (V.len z9)))), ((a 3), .inl (cI, 400, .inl (fun z9 => pI (V.par z9)))), ((a 4), .inl (cI, 400, .inl (fun z9 => nI (V.lev z9)))), ((a 5), .inl (cI, 400, .inl (fun z9 => nI (V.hol z9)))), ((a 6), .inl (cI, 400, .inl (fun z9 => nI (V.sta z9)))), ((a 7), .inl (cI, 400, .inl (fun z9 => nI (V.en z9)))), ((a 8), .inl (cI, 2, .inl (fun z9 => nI (V.tdy z9)))), ((a 9), .inl (cI, 2, .inl (fun z9 => nI (V.dys z9)))), ((a 10), .inl (cI, 8, .inl (fun z9 => nI (V.pol z9)))), ((a 11), .inl (cI, 300, .inl (upd V.kd V.ne k0))), ((a 12), .inl (cI, 300, .inl (upd V.fi V.ne k1))), ((a 13), .inl (cI, 300, .inl V.se)), ((a 14), .inl (cI, 300, .inl V.th))] H := hP
  replace hD : va_D A [(o, .inr (5, [.int (nI V.tc), .ref (a 0), .ref (a 1), .ref (a 2), .ref (a 3), .ref (a 4), .ref (a 5), .ref (a 6), .ref (a 7), .ref (a 8), .ref (a 9), .ref (a 10), .int (nI V.ne), .ref (a 11), .ref (a 12), .ref (a 13), .ref (a 14), .long V.fo, .int V.fl])), ((a 0), .inl (cI, 2, .inl (fun z9 => nI (V.mn z9)))), ((a 1), .inl (cI, 400, .inl (fun z9 => nI (V.pre z9)))), ((a 2), .inl (cI, 400, .inl (fun z9 => nI (V.len z9)))), ((a 3), .inl (cI, 400, .inl (fun z9 => pI (V.par z9)))), ((a 4), .inl (cI, 400, .inl (fun z9 => nI (V.lev z9)))), ((a 5), .inl (cI, 400, .inl (fun z9 => nI (V.hol z9)))), ((a 6), .inl (cI, 400, .inl (fun z9 => nI (V.sta z9)))), ((a 7), .inl (cI, 400, .inl (fun z9 => nI (V.en z9)))), ((a 8), .inl (cI, 2, .inl (fun z9 => nI (V.tdy z9)))), ((a 9), .inl (cI, 2, .inl (fun z9 => nI (V.dys z9)))), ((a 10), .inl (cI, 8, .inl (fun z9 => nI (V.pol z9)))), ((a 11), .inl (cI, 300, .inl (upd V.kd V.ne k0))), ((a 12), .inl (cI, 300, .inl (upd V.fi V.ne k1))), ((a 13), .inl (cI, 300, .inl V.se)), ((a 14), .inl (cI, 300, .inl V.th))] := hD
  refine lv_aload_n hx hb d_Mo_note_20 rfl (lv_at hl 0 rfl) ?_
  refine va_get (D := (dC, dI)) (ci := 5) (v := .ref (a 13)) (C := R_Mo) (T := F_Mo) (N := 19) hx hb hts u_Mo hown hK hP 0 rfl rfl 15 (by decide) (hts _ kw_729) (fun _ h9 => h9) rfl d_Mo_note_21 ?_
  refine lv_aload_n hx hb d_Mo_note_24 rfl (lv_at hl 0 rfl) ?_
  refine va_get (D := (dC, dI)) (ci := 5) (v := .int (nI V.ne)) (C := R_Mo) (T := F_Mo) (N := 19) hx hb hts u_Mo hown hK hP 0 rfl rfl 12 (by decide) (hts _ kw_726) (fun _ h9 => h9) rfl d_Mo_note_25 ?_
  refine lv_iload_n hx hb d_Mo_note_28 rfl (lv_at hl 3 rfl) ?_
  refine x_iast (j := V.ne) (g := (upd V.se V.ne k2)) hx hb hK hP hD hS 14 0 rfl rfl hne (by decide) rfl rfl rfl d_Mo_note_29 (fun H locs hP hD hS => ?_)
  replace hP : va_P (dC, dI) classes [(o, .inr (5, [.int (nI V.tc), .ref (a 0), .ref (a 1), .ref (a 2), .ref (a 3), .ref (a 4), .ref (a 5), .ref (a 6), .ref (a 7), .ref (a 8), .ref (a 9), .ref (a 10), .int (nI V.ne), .ref (a 11), .ref (a 12), .ref (a 13), .ref (a 14), .long V.fo, .int V.fl])), ((a 0), .inl (cI, 2, .inl (fun z9 => nI (V.mn z9)))), ((a 1), .inl (cI, 400, .inl (fun z9 => nI (V.pre z9)))), ((a 2), .inl (cI, 400, .inl (fun z9 => nI (V.len z9)))), ((a 3), .inl (cI, 400, .inl (fun z9 => pI (V.par z9)))), ((a 4), .inl (cI, 400, .inl (fun z9 => nI (V.lev z9)))), ((a 5), .inl (cI, 400, .inl (fun z9 => nI (V.hol z9)))), ((a 6), .inl (cI, 400, .inl (fun z9 => nI (V.sta z9)))), ((a 7), .inl (cI, 400, .inl (fun z9 => nI (V.en z9)))), ((a 8), .inl (cI, 2, .inl (fun z9 => nI (V.tdy z9)))), ((a 9), .inl (cI, 2, .inl (fun z9 => nI (V.dys z9)))), ((a 10), .inl (cI, 8, .inl (fun z9 => nI (V.pol z9)))), ((a 11), .inl (cI, 300, .inl (upd V.kd V.ne k0))), ((a 12), .inl (cI, 300, .inl (upd V.fi V.ne k1))), ((a 13), .inl (cI, 300, .inl (upd V.se V.ne k2))), ((a 14), .inl (cI, 300, .inl V.th))] H := hP
  replace hD : va_D A [(o, .inr (5, [.int (nI V.tc), .ref (a 0), .ref (a 1), .ref (a 2), .ref (a 3), .ref (a 4), .ref (a 5), .ref (a 6), .ref (a 7), .ref (a 8), .ref (a 9), .ref (a 10), .int (nI V.ne), .ref (a 11), .ref (a 12), .ref (a 13), .ref (a 14), .long V.fo, .int V.fl])), ((a 0), .inl (cI, 2, .inl (fun z9 => nI (V.mn z9)))), ((a 1), .inl (cI, 400, .inl (fun z9 => nI (V.pre z9)))), ((a 2), .inl (cI, 400, .inl (fun z9 => nI (V.len z9)))), ((a 3), .inl (cI, 400, .inl (fun z9 => pI (V.par z9)))), ((a 4), .inl (cI, 400, .inl (fun z9 => nI (V.lev z9)))), ((a 5), .inl (cI, 400, .inl (fun z9 => nI (V.hol z9)))), ((a 6), .inl (cI, 400, .inl (fun z9 => nI (V.sta z9)))), ((a 7), .inl (cI, 400, .inl (fun z9 => nI (V.en z9)))), ((a 8), .inl (cI, 2, .inl (fun z9 => nI (V.tdy z9)))), ((a 9), .inl (cI, 2, .inl (fun z9 => nI (V.dys z9)))), ((a 10), .inl (cI, 8, .inl (fun z9 => nI (V.pol z9)))), ((a 11), .inl (cI, 300, .inl (upd V.kd V.ne k0))), ((a 12), .inl (cI, 300, .inl (upd V.fi V.ne k1))), ((a 13), .inl (cI, 300, .inl (upd V.se V.ne k2))), ((a 14), .inl (cI, 300, .inl V.th))] := hD
  refine lv_aload_n hx hb d_Mo_note_30 rfl (lv_at hl 0 rfl) ?_
  refine va_get (D := (dC, dI)) (ci := 5) (v := .ref (a 14)) (C := R_Mo) (T := F_Mo) (N := 19) hx hb hts u_Mo hown hK hP 0 rfl rfl 16 (by decide) (hts _ kw_730) (fun _ h9 => h9) rfl d_Mo_note_31 ?_
  refine lv_aload_n hx hb d_Mo_note_34 rfl (lv_at hl 0 rfl) ?_
  refine va_get (D := (dC, dI)) (ci := 5) (v := .int (nI V.ne)) (C := R_Mo) (T := F_Mo) (N := 19) hx hb hts u_Mo hown hK hP 0 rfl rfl 12 (by decide) (hts _ kw_726) (fun _ h9 => h9) rfl d_Mo_note_35 ?_
  refine lv_iload hx hb d_Mo_note_38 (lv_at hl 4 rfl) ?_
  refine x_iast (j := V.ne) (g := (upd V.th V.ne k3)) hx hb hK hP hD hS 15 0 rfl rfl hne (by decide) rfl rfl rfl d_Mo_note_40 (fun H locs hP hD hS => ?_)
  replace hP : va_P (dC, dI) classes [(o, .inr (5, [.int (nI V.tc), .ref (a 0), .ref (a 1), .ref (a 2), .ref (a 3), .ref (a 4), .ref (a 5), .ref (a 6), .ref (a 7), .ref (a 8), .ref (a 9), .ref (a 10), .int (nI V.ne), .ref (a 11), .ref (a 12), .ref (a 13), .ref (a 14), .long V.fo, .int V.fl])), ((a 0), .inl (cI, 2, .inl (fun z9 => nI (V.mn z9)))), ((a 1), .inl (cI, 400, .inl (fun z9 => nI (V.pre z9)))), ((a 2), .inl (cI, 400, .inl (fun z9 => nI (V.len z9)))), ((a 3), .inl (cI, 400, .inl (fun z9 => pI (V.par z9)))), ((a 4), .inl (cI, 400, .inl (fun z9 => nI (V.lev z9)))), ((a 5), .inl (cI, 400, .inl (fun z9 => nI (V.hol z9)))), ((a 6), .inl (cI, 400, .inl (fun z9 => nI (V.sta z9)))), ((a 7), .inl (cI, 400, .inl (fun z9 => nI (V.en z9)))), ((a 8), .inl (cI, 2, .inl (fun z9 => nI (V.tdy z9)))), ((a 9), .inl (cI, 2, .inl (fun z9 => nI (V.dys z9)))), ((a 10), .inl (cI, 8, .inl (fun z9 => nI (V.pol z9)))), ((a 11), .inl (cI, 300, .inl (upd V.kd V.ne k0))), ((a 12), .inl (cI, 300, .inl (upd V.fi V.ne k1))), ((a 13), .inl (cI, 300, .inl (upd V.se V.ne k2))), ((a 14), .inl (cI, 300, .inl (upd V.th V.ne k3)))] H := hP
  replace hD : va_D A [(o, .inr (5, [.int (nI V.tc), .ref (a 0), .ref (a 1), .ref (a 2), .ref (a 3), .ref (a 4), .ref (a 5), .ref (a 6), .ref (a 7), .ref (a 8), .ref (a 9), .ref (a 10), .int (nI V.ne), .ref (a 11), .ref (a 12), .ref (a 13), .ref (a 14), .long V.fo, .int V.fl])), ((a 0), .inl (cI, 2, .inl (fun z9 => nI (V.mn z9)))), ((a 1), .inl (cI, 400, .inl (fun z9 => nI (V.pre z9)))), ((a 2), .inl (cI, 400, .inl (fun z9 => nI (V.len z9)))), ((a 3), .inl (cI, 400, .inl (fun z9 => pI (V.par z9)))), ((a 4), .inl (cI, 400, .inl (fun z9 => nI (V.lev z9)))), ((a 5), .inl (cI, 400, .inl (fun z9 => nI (V.hol z9)))), ((a 6), .inl (cI, 400, .inl (fun z9 => nI (V.sta z9)))), ((a 7), .inl (cI, 400, .inl (fun z9 => nI (V.en z9)))), ((a 8), .inl (cI, 2, .inl (fun z9 => nI (V.tdy z9)))), ((a 9), .inl (cI, 2, .inl (fun z9 => nI (V.dys z9)))), ((a 10), .inl (cI, 8, .inl (fun z9 => nI (V.pol z9)))), ((a 11), .inl (cI, 300, .inl (upd V.kd V.ne k0))), ((a 12), .inl (cI, 300, .inl (upd V.fi V.ne k1))), ((a 13), .inl (cI, 300, .inl (upd V.se V.ne k2))), ((a 14), .inl (cI, 300, .inl (upd V.th V.ne k3)))] := hD
  refine lv_aload_n hx hb d_Mo_note_41 rfl (lv_at hl 0 rfl) ?_
  refine lv_dup hx hb d_Mo_note_42 rfl ?_
  refine va_get (D := (dC, dI)) (ci := 5) (v := .int (nI V.ne)) (C := R_Mo) (T := F_Mo) (N := 19) hx hb hts u_Mo hown hK hP 0 rfl rfl 12 (by decide) (hts _ kw_726) (fun _ h9 => h9) rfl d_Mo_note_43 ?_
  refine lv_iconst (v := 1) hx hb d_Mo_note_46 (by decide) ?_
  refine lv_iadd hx hb d_Mo_note_47 ?_
  refine x_topi (y := (nI (V.ne + 1))) (nI_1 _) ?_
  refine va_put (D := (dC, dI)) (ci := 5) (v := .int (nI (V.ne + 1))) (ty := .int) (C := R_Mo) (T := F_Mo) (N := 19) hx hb hts u_Mo t_Mo t_Mo_ok n_Mo hown hK hP hD hS 0 rfl rfl 12 (by decide) (hts _ kw_726) (fun _ h9 => h9) rfl (by decide +kernel) rfl rfl (Nat.le_of_ble_eq_true rfl) d_Mo_note_48 (fun H locs hP hD hS => ?_)
  replace hP : va_P (dC, dI) classes [(o, .inr (5, [.int (nI V.tc), .ref (a 0), .ref (a 1), .ref (a 2), .ref (a 3), .ref (a 4), .ref (a 5), .ref (a 6), .ref (a 7), .ref (a 8), .ref (a 9), .ref (a 10), .int (nI (V.ne + 1)), .ref (a 11), .ref (a 12), .ref (a 13), .ref (a 14), .long V.fo, .int V.fl])), ((a 0), .inl (cI, 2, .inl (fun z9 => nI (V.mn z9)))), ((a 1), .inl (cI, 400, .inl (fun z9 => nI (V.pre z9)))), ((a 2), .inl (cI, 400, .inl (fun z9 => nI (V.len z9)))), ((a 3), .inl (cI, 400, .inl (fun z9 => pI (V.par z9)))), ((a 4), .inl (cI, 400, .inl (fun z9 => nI (V.lev z9)))), ((a 5), .inl (cI, 400, .inl (fun z9 => nI (V.hol z9)))), ((a 6), .inl (cI, 400, .inl (fun z9 => nI (V.sta z9)))), ((a 7), .inl (cI, 400, .inl (fun z9 => nI (V.en z9)))), ((a 8), .inl (cI, 2, .inl (fun z9 => nI (V.tdy z9)))), ((a 9), .inl (cI, 2, .inl (fun z9 => nI (V.dys z9)))), ((a 10), .inl (cI, 8, .inl (fun z9 => nI (V.pol z9)))), ((a 11), .inl (cI, 300, .inl (upd V.kd V.ne k0))), ((a 12), .inl (cI, 300, .inl (upd V.fi V.ne k1))), ((a 13), .inl (cI, 300, .inl (upd V.se V.ne k2))), ((a 14), .inl (cI, 300, .inl (upd V.th V.ne k3)))] H := hP
  replace hD : va_D A [(o, .inr (5, [.int (nI V.tc), .ref (a 0), .ref (a 1), .ref (a 2), .ref (a 3), .ref (a 4), .ref (a 5), .ref (a 6), .ref (a 7), .ref (a 8), .ref (a 9), .ref (a 10), .int (nI (V.ne + 1)), .ref (a 11), .ref (a 12), .ref (a 13), .ref (a 14), .long V.fo, .int V.fl])), ((a 0), .inl (cI, 2, .inl (fun z9 => nI (V.mn z9)))), ((a 1), .inl (cI, 400, .inl (fun z9 => nI (V.pre z9)))), ((a 2), .inl (cI, 400, .inl (fun z9 => nI (V.len z9)))), ((a 3), .inl (cI, 400, .inl (fun z9 => pI (V.par z9)))), ((a 4), .inl (cI, 400, .inl (fun z9 => nI (V.lev z9)))), ((a 5), .inl (cI, 400, .inl (fun z9 => nI (V.hol z9)))), ((a 6), .inl (cI, 400, .inl (fun z9 => nI (V.sta z9)))), ((a 7), .inl (cI, 400, .inl (fun z9 => nI (V.en z9)))), ((a 8), .inl (cI, 2, .inl (fun z9 => nI (V.tdy z9)))), ((a 9), .inl (cI, 2, .inl (fun z9 => nI (V.dys z9)))), ((a 10), .inl (cI, 8, .inl (fun z9 => nI (V.pol z9)))), ((a 11), .inl (cI, 300, .inl (upd V.kd V.ne k0))), ((a 12), .inl (cI, 300, .inl (upd V.fi V.ne k1))), ((a 13), .inl (cI, 300, .inl (upd V.se V.ne k2))), ((a 14), .inl (cI, 300, .inl (upd V.th V.ne k3)))] := hD
  have hP9 : va_P (dC, dI) classes (wMo cI o a (vNote V k0 k1 k2 k3)) H := hP
  have hD9 : va_D A (wMo cI o a (vNote V k0 k1 k2 k3)) := hD
  exact W.vret hx hb hr (fun t ht hW => ⟨⟨(), rfl, trivial, by rw [ht]; exact hP9, va_K.moved hW.alike hK, hD9⟩, hS.F ht⟩) hS.2.2 d_Mo_note_51
set_option maxHeartbeats 4000000 in
set_option maxRecDepth 100000 in
theorem c_Mo_make (l : Launch) (dC : Nat → ClassId) (dI : Nat → Nat → Nat) (sz : Nat) (cI : ClassId) (o : Nat) (a : Nat → Nat) (V : MS) (b d p n : Nat) (q0 : Option Nat) (w v : Nat) (hd : d < 2) (hod : b = 200 * d) (hmn : V.mn d < 200) (hq : ∀ q, q0 = some q → q < 400) : Met l y_Mo_make (.code y_Mo_make b_Mo_make 8 (some .int) :: wG) ({ frames := 0, cells := 0, slots := 0, locals := 0 }) (PcM (dC, dI) [(cI, .int)] (wMo cI o a V) [.ref o, .int (nI b), .int (nI p), .int (nI n), .int (pI q0), .int (nI w), .int (nI v)] sz) (QmI (dC, dI) [(cI, .int)] (wMo cI o a V) (wMo cI o a (vMake V b d p n q0 w v)) sz (nI (V.mn d))) 0 0 (va_A (wMo cI o a V) sz) := by
  refine Met.ofW (cc := b_Mo_make) (maxL := 8) (ret := (some .int)) (by decide) rfl ?_
  intro pg eg s mg ag bg meth cg s₁ B hml hv
  obtain ⟨rfl, hsz, hP, hK, hD0, hN⟩ := hv
  have hx := B.exec
  have hb := B.bytes
  have hr := B.returns
  have hlocks := B.notSynchronized
  have hts : ∀ w9 ∈ wG, w9.before ([.ref o, .int (nI b), .int (nI p), .int (nI n), .int (pI q0), .int (nI w), .int (nI v)] : List Value).toArray s = true := fun w9 h9 => atoms_spec (ws := (.code y_Mo_make b_Mo_make 8 (some .int) :: wG)) B.pre w9 (List.mem_cons_of_mem _ h9)
  have hown : s.vm.findClass "PrefixRegistryModel" = some mg.cls := findClass_of_methodNamed B.named
  subst hsz
  have hD := hD0.self (sz := s.heap.size)
  unfold QmI
  generalize hAe : va_A (wMo cI o a V) s.heap.size = A at hD ⊢
  have hA : ∀ q : Nat, s.heap.size ≤ q → A q := fun q h => by rw [← hAe]; exact Or.inr h
  have hS : va_S A s.heap s.heap [] := va_S.rf
  have hl := lv_entry ([.ref o, .int (nI b), .int (nI p), .int (nI n), .int (pI q0), .int (nI w), .int (nI v)]) (n := 8) (Nat.le_of_ble_eq_true rfl)
  rw [lg_entry_eq]
  generalize (lg_sl ([.ref o, .int (nI b), .int (nI p), .int (nI n), .int (pI q0), .int (nI w), .int (nI v)]) ++ List.replicate (8 - (lg_sl ([.ref o, .int (nI b), .int (nI p), .int (nI n), .int (pI q0), .int (nI w), .int (nI v)])).length) Slot.unset).toArray = ls at hl ⊢
  replace hl : lv_has ls 8 [(0, .ref o), (1, .int (nI b)), (2, .int (nI p)), (3, .int (nI n)), (4, .int (pI q0)), (5, .int (nI w)), (6, .int (nI v))] := hl
  replace hP : va_P (dC, dI) classes (wMo cI o a V) s.heap := hP
  replace hD : va_D A (wMo cI o a V) := hD
  cases q0 with
  | none =>
    replace hl : lv_has ls 8 [(0, .ref o), (1, .int (nI b)), (2, .int (nI p)), (3, .int (nI n)), (4, .int (pI none)), (5, .int (nI w)), (6, .int (nI v))] := hl
    refine lv_iload_n hx hb d_Mo_make_0 rfl (lv_at hl 1 rfl) ?_
    refine lv_aload_n hx hb d_Mo_make_1 rfl (lv_at hl 0 rfl) ?_
    refine va_get (D := (dC, dI)) (ci := 5) (v := .ref (a 0)) (C := R_Mo) (T := F_Mo) (N := 19) hx hb hts u_Mo hown hK hP 0 rfl rfl 1 (by decide) (hts _ kw_715) (fun _ h9 => h9) rfl d_Mo_make_2 ?_
    refine lv_iload_n hx hb d_Mo_make_5 rfl (lv_at hl 1 rfl) ?_
    refine lv_sipush (v := 200) hx hb d_Mo_make_6 (by decide) ?_
    refine lv_idiv hx hb d_Mo_make_9 (by decide) ?_
    refine x_topi (y := (nI d)) (by rw [hod]; exact k_d200 d hd) ?_
    refine x_iald (j := d) (v := (nI (V.mn d))) hx hb hK hP 1 0 rfl rfl hd (by decide) rfl rfl d_Mo_make_10 ?_
    refine lv_iadd hx hb d_Mo_make_11 ?_
    refine x_topi (y := (nI (b + V.mn d))) (nI_add _ _) ?_
    refine lv_istore hx hb d_Mo_make_12 hl (by decide) rfl (fun ls hl => ?_)
    replace hl : lv_has ls 8 [(7, .int (nI (b + V.mn d))), (0, .ref o), (1, .int (nI b)), (2, .int (nI p)), (3, .int (nI n)), (4, .int (pI none)), (5, .int (nI w)), (6, .int (nI v))] := hl
    refine lv_aload_n hx hb d_Mo_make_14 rfl (lv_at hl 1 rfl) ?_
    refine va_get (D := (dC, dI)) (ci := 5) (v := .ref (a 1)) (C := R_Mo) (T := F_Mo) (N := 19) hx hb hts u_Mo hown hK hP 0 rfl rfl 2 (by decide) (hts _ kw_716) (fun _ h9 => h9) rfl d_Mo_make_15 ?_
    refine lv_iload hx hb d_Mo_make_18 (lv_at hl 0 rfl) ?_
    refine lv_iload_n hx hb d_Mo_make_20 rfl (lv_at hl 3 rfl) ?_
    refine x_iast (j := (b + V.mn d)) (g := (fun z9 => nI (va_up V.pre (b + V.mn d) p z9))) hx hb hK hP hD hS 2 0 rfl rfl (by omega) (by decide) rfl (up_nI _ _ p) rfl d_Mo_make_21 (fun H locs hP hD hS => ?_)
    replace hP : va_P (dC, dI) classes [(o, .inr (5, [.int (nI V.tc), .ref (a 0), .ref (a 1), .ref (a 2), .ref (a 3), .ref (a 4), .ref (a 5), .ref (a 6), .ref (a 7), .ref (a 8), .ref (a 9), .ref (a 10), .int (nI V.ne), .ref (a 11), .ref (a 12), .ref (a 13), .ref (a 14), .long V.fo, .int V.fl])), ((a 0), .inl (cI, 2, .inl (fun z9 => nI (V.mn z9)))), ((a 1), .inl (cI, 400, .inl (fun z9 => nI (va_up V.pre (b + V.mn d) p z9)))), ((a 2), .inl (cI, 400, .inl (fun z9 => nI (V.len z9)))), ((a 3), .inl (cI, 400, .inl (fun z9 => pI (V.par z9)))), ((a 4), .inl (cI, 400, .inl (fun z9 => nI (V.lev z9)))), ((a 5), .inl (cI, 400, .inl (fun z9 => nI (V.hol z9)))), ((a 6), .inl (cI, 400, .inl (fun z9 => nI (V.sta z9)))), ((a 7), .inl (cI, 400, .inl (fun z9 => nI (V.en z9)))), ((a 8), .inl (cI, 2, .inl (fun z9 => nI (V.tdy z9)))), ((a 9), .inl (cI, 2, .inl (fun z9 => nI (V.dys z9)))), ((a 10), .inl (cI, 8, .inl (fun z9 => nI (V.pol z9)))), ((a 11), .inl (cI, 300, .inl V.kd)), ((a 12), .inl (cI, 300, .inl V.fi)), ((a 13), .inl (cI, 300, .inl V.se)), ((a 14), .inl (cI, 300, .inl V.th))] H := hP
    replace hD : va_D A [(o, .inr (5, [.int (nI V.tc), .ref (a 0), .ref (a 1), .ref (a 2), .ref (a 3), .ref (a 4), .ref (a 5), .ref (a 6), .ref (a 7), .ref (a 8), .ref (a 9), .ref (a 10), .int (nI V.ne), .ref (a 11), .ref (a 12), .ref (a 13), .ref (a 14), .long V.fo, .int V.fl])), ((a 0), .inl (cI, 2, .inl (fun z9 => nI (V.mn z9)))), ((a 1), .inl (cI, 400, .inl (fun z9 => nI (va_up V.pre (b + V.mn d) p z9)))), ((a 2), .inl (cI, 400, .inl (fun z9 => nI (V.len z9)))), ((a 3), .inl (cI, 400, .inl (fun z9 => pI (V.par z9)))), ((a 4), .inl (cI, 400, .inl (fun z9 => nI (V.lev z9)))), ((a 5), .inl (cI, 400, .inl (fun z9 => nI (V.hol z9)))), ((a 6), .inl (cI, 400, .inl (fun z9 => nI (V.sta z9)))), ((a 7), .inl (cI, 400, .inl (fun z9 => nI (V.en z9)))), ((a 8), .inl (cI, 2, .inl (fun z9 => nI (V.tdy z9)))), ((a 9), .inl (cI, 2, .inl (fun z9 => nI (V.dys z9)))), ((a 10), .inl (cI, 8, .inl (fun z9 => nI (V.pol z9)))), ((a 11), .inl (cI, 300, .inl V.kd)), ((a 12), .inl (cI, 300, .inl V.fi)), ((a 13), .inl (cI, 300, .inl V.se)), ((a 14), .inl (cI, 300, .inl V.th))] := hD
    refine lv_aload_n hx hb d_Mo_make_22 rfl (lv_at hl 1 rfl) ?_
    refine va_get (D := (dC, dI)) (ci := 5) (v := .ref (a 2)) (C := R_Mo) (T := F_Mo) (N := 19) hx hb hts u_Mo hown hK hP 0 rfl rfl 3 (by decide) (hts _ kw_717) (fun _ h9 => h9) rfl d_Mo_make_23 ?_
    refine lv_iload hx hb d_Mo_make_26 (lv_at hl 0 rfl) ?_
    refine lv_iload_n hx hb d_Mo_make_28 rfl (lv_at hl 4 rfl) ?_
    refine x_iast (j := (b + V.mn d)) (g := (fun z9 => nI (va_up V.len (b + V.mn d) n z9))) hx hb hK hP hD hS 3 0 rfl rfl (by omega) (by decide) rfl (up_nI _ _ n) rfl d_Mo_make_29 (fun H locs hP hD hS => ?_)
    replace hP : va_P (dC, dI) classes [(o, .inr (5, [.int (nI V.tc), .ref (a 0), .ref (a 1), .ref (a 2), .ref (a 3), .ref (a 4), .ref (a 5), .ref (a 6), .ref (a 7), .ref (a 8), .ref (a 9), .ref (a 10), .int (nI V.ne), .ref (a 11), .ref (a 12), .ref (a 13), .ref (a 14), .long V.fo, .int V.fl])), ((a 0), .inl (cI, 2, .inl (fun z9 => nI (V.mn z9)))), ((a 1), .inl (cI, 400, .inl (fun z9 => nI (va_up V.pre (b + V.mn d) p z9)))), ((a 2), .inl (cI, 400, .inl (fun z9 => nI (va_up V.len (b + V.mn d) n z9)))), ((a 3), .inl (cI, 400, .inl (fun z9 => pI (V.par z9)))), ((a 4), .inl (cI, 400, .inl (fun z9 => nI (V.lev z9)))), ((a 5), .inl (cI, 400, .inl (fun z9 => nI (V.hol z9)))), ((a 6), .inl (cI, 400, .inl (fun z9 => nI (V.sta z9)))), ((a 7), .inl (cI, 400, .inl (fun z9 => nI (V.en z9)))), ((a 8), .inl (cI, 2, .inl (fun z9 => nI (V.tdy z9)))), ((a 9), .inl (cI, 2, .inl (fun z9 => nI (V.dys z9)))), ((a 10), .inl (cI, 8, .inl (fun z9 => nI (V.pol z9)))), ((a 11), .inl (cI, 300, .inl V.kd)), ((a 12), .inl (cI, 300, .inl V.fi)), ((a 13), .inl (cI, 300, .inl V.se)), ((a 14), .inl (cI, 300, .inl V.th))] H := hP
    replace hD : va_D A [(o, .inr (5, [.int (nI V.tc), .ref (a 0), .ref (a 1), .ref (a 2), .ref (a 3), .ref (a 4), .ref (a 5), .ref (a 6), .ref (a 7), .ref (a 8), .ref (a 9), .ref (a 10), .int (nI V.ne), .ref (a 11), .ref (a 12), .ref (a 13), .ref (a 14), .long V.fo, .int V.fl])), ((a 0), .inl (cI, 2, .inl (fun z9 => nI (V.mn z9)))), ((a 1), .inl (cI, 400, .inl (fun z9 => nI (va_up V.pre (b + V.mn d) p z9)))), ((a 2), .inl (cI, 400, .inl (fun z9 => nI (va_up V.len (b + V.mn d) n z9)))), ((a 3), .inl (cI, 400, .inl (fun z9 => pI (V.par z9)))), ((a 4), .inl (cI, 400, .inl (fun z9 => nI (V.lev z9)))), ((a 5), .inl (cI, 400, .inl (fun z9 => nI (V.hol z9)))), ((a 6), .inl (cI, 400, .inl (fun z9 => nI (V.sta z9)))), ((a 7), .inl (cI, 400, .inl (fun z9 => nI (V.en z9)))), ((a 8), .inl (cI, 2, .inl (fun z9 => nI (V.tdy z9)))), ((a 9), .inl (cI, 2, .inl (fun z9 => nI (V.dys z9)))), ((a 10), .inl (cI, 8, .inl (fun z9 => nI (V.pol z9)))), ((a 11), .inl (cI, 300, .inl V.kd)), ((a 12), .inl (cI, 300, .inl V.fi)), ((a 13), .inl (cI, 300, .inl V.se)), ((a 14), .inl (cI, 300, .inl V.th))] := hD
    refine lv_aload_n hx hb d_Mo_make_30 rfl (lv_at hl 1 rfl) ?_
    refine va_get (D := (dC, dI)) (ci := 5) (v := .ref (a 3)) (C := R_Mo) (T := F_Mo) (N := 19) hx hb hts u_Mo hown hK hP 0 rfl rfl 4 (by decide) (hts _ kw_718) (fun _ h9 => h9) rfl d_Mo_make_31 ?_
    refine lv_iload hx hb d_Mo_make_34 (lv_at hl 0 rfl) ?_
    refine lv_iload hx hb d_Mo_make_36 (lv_at hl 5 rfl) ?_
    refine x_iast (j := (b + V.mn d)) (g := (fun z9 => pI (va_up V.par (b + V.mn d) none z9))) hx hb hK hP hD hS 4 0 rfl rfl (by omega) (by decide) rfl (up_pI _ _ none) rfl d_Mo_make_38 (fun H locs hP hD hS => ?_)
    replace hP : va_P (dC, dI) classes [(o, .inr (5, [.int (nI V.tc), .ref (a 0), .ref (a 1), .ref (a 2), .ref (a 3), .ref (a 4), .ref (a 5), .ref (a 6), .ref (a 7), .ref (a 8), .ref (a 9), .ref (a 10), .int (nI V.ne), .ref (a 11), .ref (a 12), .ref (a 13), .ref (a 14), .long V.fo, .int V.fl])), ((a 0), .inl (cI, 2, .inl (fun z9 => nI (V.mn z9)))), ((a 1), .inl (cI, 400, .inl (fun z9 => nI (va_up V.pre (b + V.mn d) p z9)))), ((a 2), .inl (cI, 400, .inl (fun z9 => nI (va_up V.len (b + V.mn d) n z9)))), ((a 3), .inl (cI, 400, .inl (fun z9 => pI (va_up V.par (b + V.mn d) none z9)))), ((a 4), .inl (cI, 400, .inl (fun z9 => nI (V.lev z9)))), ((a 5), .inl (cI, 400, .inl (fun z9 => nI (V.hol z9)))), ((a 6), .inl (cI, 400, .inl (fun z9 => nI (V.sta z9)))), ((a 7), .inl (cI, 400, .inl (fun z9 => nI (V.en z9)))), ((a 8), .inl (cI, 2, .inl (fun z9 => nI (V.tdy z9)))), ((a 9), .inl (cI, 2, .inl (fun z9 => nI (V.dys z9)))), ((a 10), .inl (cI, 8, .inl (fun z9 => nI (V.pol z9)))), ((a 11), .inl (cI, 300, .inl V.kd)), ((a 12), .inl (cI, 300, .inl V.fi)), ((a 13), .inl (cI, 300, .inl V.se)), ((a 14), .inl (cI, 300, .inl V.th))] H := hP
    replace hD : va_D A [(o, .inr (5, [.int (nI V.tc), .ref (a 0), .ref (a 1), .ref (a 2), .ref (a 3), .ref (a 4), .ref (a 5), .ref (a 6), .ref (a 7), .ref (a 8), .ref (a 9), .ref (a 10), .int (nI V.ne), .ref (a 11), .ref (a 12), .ref (a 13), .ref (a 14), .long V.fo, .int V.fl])), ((a 0), .inl (cI, 2, .inl (fun z9 => nI (V.mn z9)))), ((a 1), .inl (cI, 400, .inl (fun z9 => nI (va_up V.pre (b + V.mn d) p z9)))), ((a 2), .inl (cI, 400, .inl (fun z9 => nI (va_up V.len (b + V.mn d) n z9)))), ((a 3), .inl (cI, 400, .inl (fun z9 => pI (va_up V.par (b + V.mn d) none z9)))), ((a 4), .inl (cI, 400, .inl (fun z9 => nI (V.lev z9)))), ((a 5), .inl (cI, 400, .inl (fun z9 => nI (V.hol z9)))), ((a 6), .inl (cI, 400, .inl (fun z9 => nI (V.sta z9)))), ((a 7), .inl (cI, 400, .inl (fun z9 => nI (V.en z9)))), ((a 8), .inl (cI, 2, .inl (fun z9 => nI (V.tdy z9)))), ((a 9), .inl (cI, 2, .inl (fun z9 => nI (V.dys z9)))), ((a 10), .inl (cI, 8, .inl (fun z9 => nI (V.pol z9)))), ((a 11), .inl (cI, 300, .inl V.kd)), ((a 12), .inl (cI, 300, .inl V.fi)), ((a 13), .inl (cI, 300, .inl V.se)), ((a 14), .inl (cI, 300, .inl V.th))] := hD
    refine lv_aload_n hx hb d_Mo_make_39 rfl (lv_at hl 1 rfl) ?_
    refine va_get (D := (dC, dI)) (ci := 5) (v := .ref (a 4)) (C := R_Mo) (T := F_Mo) (N := 19) hx hb hts u_Mo hown hK hP 0 rfl rfl 5 (by decide) (hts _ kw_719) (fun _ h9 => h9) rfl d_Mo_make_40 ?_
    refine lv_iload hx hb d_Mo_make_43 (lv_at hl 0 rfl) ?_
    refine lv_iload hx hb d_Mo_make_45 (lv_at hl 5 rfl) ?_
    refine lv_if_ge hx hb d_Mo_make_47 rfl (fun h9 => absurd h9 (by decide)) (fun _ => ?_)
    refine lv_iconst (v := 0) hx hb d_Mo_make_50 (by decide) ?_
    refine lv_goto hx hb d_Mo_make_51 rfl ?_
    refine x_iast (j := (b + V.mn d)) (g := (fun z9 => nI (va_up V.lev (b + V.mn d) 0 z9))) hx hb hK hP hD hS 5 0 rfl rfl (by omega) (by decide) rfl (up_nI _ _ 0) rfl d_Mo_make_63 (fun H locs hP hD hS => ?_)
    replace hP : va_P (dC, dI) classes [(o, .inr (5, [.int (nI V.tc), .ref (a 0), .ref (a 1), .ref (a 2), .ref (a 3), .ref (a 4), .ref (a 5), .ref (a 6), .ref (a 7), .ref (a 8), .ref (a 9), .ref (a 10), .int (nI V.ne), .ref (a 11), .ref (a 12), .ref (a 13), .ref (a 14), .long V.fo, .int V.fl])), ((a 0), .inl (cI, 2, .inl (fun z9 => nI (V.mn z9)))), ((a 1), .inl (cI, 400, .inl (fun z9 => nI (va_up V.pre (b + V.mn d) p z9)))), ((a 2), .inl (cI, 400, .inl (fun z9 => nI (va_up V.len (b + V.mn d) n z9)))), ((a 3), .inl (cI, 400, .inl (fun z9 => pI (va_up V.par (b + V.mn d) none z9)))), ((a 4), .inl (cI, 400, .inl (fun z9 => nI (va_up V.lev (b + V.mn d) 0 z9)))), ((a 5), .inl (cI, 400, .inl (fun z9 => nI (V.hol z9)))), ((a 6), .inl (cI, 400, .inl (fun z9 => nI (V.sta z9)))), ((a 7), .inl (cI, 400, .inl (fun z9 => nI (V.en z9)))), ((a 8), .inl (cI, 2, .inl (fun z9 => nI (V.tdy z9)))), ((a 9), .inl (cI, 2, .inl (fun z9 => nI (V.dys z9)))), ((a 10), .inl (cI, 8, .inl (fun z9 => nI (V.pol z9)))), ((a 11), .inl (cI, 300, .inl V.kd)), ((a 12), .inl (cI, 300, .inl V.fi)), ((a 13), .inl (cI, 300, .inl V.se)), ((a 14), .inl (cI, 300, .inl V.th))] H := hP
    replace hD : va_D A [(o, .inr (5, [.int (nI V.tc), .ref (a 0), .ref (a 1), .ref (a 2), .ref (a 3), .ref (a 4), .ref (a 5), .ref (a 6), .ref (a 7), .ref (a 8), .ref (a 9), .ref (a 10), .int (nI V.ne), .ref (a 11), .ref (a 12), .ref (a 13), .ref (a 14), .long V.fo, .int V.fl])), ((a 0), .inl (cI, 2, .inl (fun z9 => nI (V.mn z9)))), ((a 1), .inl (cI, 400, .inl (fun z9 => nI (va_up V.pre (b + V.mn d) p z9)))), ((a 2), .inl (cI, 400, .inl (fun z9 => nI (va_up V.len (b + V.mn d) n z9)))), ((a 3), .inl (cI, 400, .inl (fun z9 => pI (va_up V.par (b + V.mn d) none z9)))), ((a 4), .inl (cI, 400, .inl (fun z9 => nI (va_up V.lev (b + V.mn d) 0 z9)))), ((a 5), .inl (cI, 400, .inl (fun z9 => nI (V.hol z9)))), ((a 6), .inl (cI, 400, .inl (fun z9 => nI (V.sta z9)))), ((a 7), .inl (cI, 400, .inl (fun z9 => nI (V.en z9)))), ((a 8), .inl (cI, 2, .inl (fun z9 => nI (V.tdy z9)))), ((a 9), .inl (cI, 2, .inl (fun z9 => nI (V.dys z9)))), ((a 10), .inl (cI, 8, .inl (fun z9 => nI (V.pol z9)))), ((a 11), .inl (cI, 300, .inl V.kd)), ((a 12), .inl (cI, 300, .inl V.fi)), ((a 13), .inl (cI, 300, .inl V.se)), ((a 14), .inl (cI, 300, .inl V.th))] := hD
    refine lv_aload_n hx hb d_Mo_make_64 rfl (lv_at hl 1 rfl) ?_
    refine va_get (D := (dC, dI)) (ci := 5) (v := .ref (a 5)) (C := R_Mo) (T := F_Mo) (N := 19) hx hb hts u_Mo hown hK hP 0 rfl rfl 6 (by decide) (hts _ kw_720) (fun _ h9 => h9) rfl d_Mo_make_65 ?_
    refine lv_iload hx hb d_Mo_make_68 (lv_at hl 0 rfl) ?_
    refine lv_iload hx hb d_Mo_make_70 (lv_at hl 6 rfl) ?_
    refine x_iast (j := (b + V.mn d)) (g := (fun z9 => nI (va_up V.hol (b + V.mn d) w z9))) hx hb hK hP hD hS 6 0 rfl rfl (by omega) (by decide) rfl (up_nI _ _ w) rfl d_Mo_make_72 (fun H locs hP hD hS => ?_)
    replace hP : va_P (dC, dI) classes [(o, .inr (5, [.int (nI V.tc), .ref (a 0), .ref (a 1), .ref (a 2), .ref (a 3), .ref (a 4), .ref (a 5), .ref (a 6), .ref (a 7), .ref (a 8), .ref (a 9), .ref (a 10), .int (nI V.ne), .ref (a 11), .ref (a 12), .ref (a 13), .ref (a 14), .long V.fo, .int V.fl])), ((a 0), .inl (cI, 2, .inl (fun z9 => nI (V.mn z9)))), ((a 1), .inl (cI, 400, .inl (fun z9 => nI (va_up V.pre (b + V.mn d) p z9)))), ((a 2), .inl (cI, 400, .inl (fun z9 => nI (va_up V.len (b + V.mn d) n z9)))), ((a 3), .inl (cI, 400, .inl (fun z9 => pI (va_up V.par (b + V.mn d) none z9)))), ((a 4), .inl (cI, 400, .inl (fun z9 => nI (va_up V.lev (b + V.mn d) 0 z9)))), ((a 5), .inl (cI, 400, .inl (fun z9 => nI (va_up V.hol (b + V.mn d) w z9)))), ((a 6), .inl (cI, 400, .inl (fun z9 => nI (V.sta z9)))), ((a 7), .inl (cI, 400, .inl (fun z9 => nI (V.en z9)))), ((a 8), .inl (cI, 2, .inl (fun z9 => nI (V.tdy z9)))), ((a 9), .inl (cI, 2, .inl (fun z9 => nI (V.dys z9)))), ((a 10), .inl (cI, 8, .inl (fun z9 => nI (V.pol z9)))), ((a 11), .inl (cI, 300, .inl V.kd)), ((a 12), .inl (cI, 300, .inl V.fi)), ((a 13), .inl (cI, 300, .inl V.se)), ((a 14), .inl (cI, 300, .inl V.th))] H := hP
    replace hD : va_D A [(o, .inr (5, [.int (nI V.tc), .ref (a 0), .ref (a 1), .ref (a 2), .ref (a 3), .ref (a 4), .ref (a 5), .ref (a 6), .ref (a 7), .ref (a 8), .ref (a 9), .ref (a 10), .int (nI V.ne), .ref (a 11), .ref (a 12), .ref (a 13), .ref (a 14), .long V.fo, .int V.fl])), ((a 0), .inl (cI, 2, .inl (fun z9 => nI (V.mn z9)))), ((a 1), .inl (cI, 400, .inl (fun z9 => nI (va_up V.pre (b + V.mn d) p z9)))), ((a 2), .inl (cI, 400, .inl (fun z9 => nI (va_up V.len (b + V.mn d) n z9)))), ((a 3), .inl (cI, 400, .inl (fun z9 => pI (va_up V.par (b + V.mn d) none z9)))), ((a 4), .inl (cI, 400, .inl (fun z9 => nI (va_up V.lev (b + V.mn d) 0 z9)))), ((a 5), .inl (cI, 400, .inl (fun z9 => nI (va_up V.hol (b + V.mn d) w z9)))), ((a 6), .inl (cI, 400, .inl (fun z9 => nI (V.sta z9)))), ((a 7), .inl (cI, 400, .inl (fun z9 => nI (V.en z9)))), ((a 8), .inl (cI, 2, .inl (fun z9 => nI (V.tdy z9)))), ((a 9), .inl (cI, 2, .inl (fun z9 => nI (V.dys z9)))), ((a 10), .inl (cI, 8, .inl (fun z9 => nI (V.pol z9)))), ((a 11), .inl (cI, 300, .inl V.kd)), ((a 12), .inl (cI, 300, .inl V.fi)), ((a 13), .inl (cI, 300, .inl V.se)), ((a 14), .inl (cI, 300, .inl V.th))] := hD
    refine lv_aload_n hx hb d_Mo_make_73 rfl (lv_at hl 1 rfl) ?_
    refine va_get (D := (dC, dI)) (ci := 5) (v := .ref (a 6)) (C := R_Mo) (T := F_Mo) (N := 19) hx hb hts u_Mo hown hK hP 0 rfl rfl 7 (by decide) (hts _ kw_721) (fun _ h9 => h9) rfl d_Mo_make_74 ?_
    refine lv_iload hx hb d_Mo_make_77 (lv_at hl 0 rfl) ?_
    refine lv_iload hx hb d_Mo_make_79 (lv_at hl 7 rfl) ?_
    refine x_iast (j := (b + V.mn d)) (g := (fun z9 => nI (va_up V.sta (b + V.mn d) v z9))) hx hb hK hP hD hS 7 0 rfl rfl (by omega) (by decide) rfl (up_nI _ _ v) rfl d_Mo_make_81 (fun H locs hP hD hS => ?_)
    replace hP : va_P (dC, dI) classes [(o, .inr (5, [.int (nI V.tc), .ref (a 0), .ref (a 1), .ref (a 2), .ref (a 3), .ref (a 4), .ref (a 5), .ref (a 6), .ref (a 7), .ref (a 8), .ref (a 9), .ref (a 10), .int (nI V.ne), .ref (a 11), .ref (a 12), .ref (a 13), .ref (a 14), .long V.fo, .int V.fl])), ((a 0), .inl (cI, 2, .inl (fun z9 => nI (V.mn z9)))), ((a 1), .inl (cI, 400, .inl (fun z9 => nI (va_up V.pre (b + V.mn d) p z9)))), ((a 2), .inl (cI, 400, .inl (fun z9 => nI (va_up V.len (b + V.mn d) n z9)))), ((a 3), .inl (cI, 400, .inl (fun z9 => pI (va_up V.par (b + V.mn d) none z9)))), ((a 4), .inl (cI, 400, .inl (fun z9 => nI (va_up V.lev (b + V.mn d) 0 z9)))), ((a 5), .inl (cI, 400, .inl (fun z9 => nI (va_up V.hol (b + V.mn d) w z9)))), ((a 6), .inl (cI, 400, .inl (fun z9 => nI (va_up V.sta (b + V.mn d) v z9)))), ((a 7), .inl (cI, 400, .inl (fun z9 => nI (V.en z9)))), ((a 8), .inl (cI, 2, .inl (fun z9 => nI (V.tdy z9)))), ((a 9), .inl (cI, 2, .inl (fun z9 => nI (V.dys z9)))), ((a 10), .inl (cI, 8, .inl (fun z9 => nI (V.pol z9)))), ((a 11), .inl (cI, 300, .inl V.kd)), ((a 12), .inl (cI, 300, .inl V.fi)), ((a 13), .inl (cI, 300, .inl V.se)), ((a 14), .inl (cI, 300, .inl V.th))] H := hP
    replace hD : va_D A [(o, .inr (5, [.int (nI V.tc), .ref (a 0), .ref (a 1), .ref (a 2), .ref (a 3), .ref (a 4), .ref (a 5), .ref (a 6), .ref (a 7), .ref (a 8), .ref (a 9), .ref (a 10), .int (nI V.ne), .ref (a 11), .ref (a 12), .ref (a 13), .ref (a 14), .long V.fo, .int V.fl])), ((a 0), .inl (cI, 2, .inl (fun z9 => nI (V.mn z9)))), ((a 1), .inl (cI, 400, .inl (fun z9 => nI (va_up V.pre (b + V.mn d) p z9)))), ((a 2), .inl (cI, 400, .inl (fun z9 => nI (va_up V.len (b + V.mn d) n z9)))), ((a 3), .inl (cI, 400, .inl (fun z9 => pI (va_up V.par (b + V.mn d) none z9)))), ((a 4), .inl (cI, 400, .inl (fun z9 => nI (va_up V.lev (b + V.mn d) 0 z9)))), ((a 5), .inl (cI, 400, .inl (fun z9 => nI (va_up V.hol (b + V.mn d) w z9)))), ((a 6), .inl (cI, 400, .inl (fun z9 => nI (va_up V.sta (b + V.mn d) v z9)))), ((a 7), .inl (cI, 400, .inl (fun z9 => nI (V.en z9)))), ((a 8), .inl (cI, 2, .inl (fun z9 => nI (V.tdy z9)))), ((a 9), .inl (cI, 2, .inl (fun z9 => nI (V.dys z9)))), ((a 10), .inl (cI, 8, .inl (fun z9 => nI (V.pol z9)))), ((a 11), .inl (cI, 300, .inl V.kd)), ((a 12), .inl (cI, 300, .inl V.fi)), ((a 13), .inl (cI, 300, .inl V.se)), ((a 14), .inl (cI, 300, .inl V.th))] := hD
    refine lv_aload_n hx hb d_Mo_make_82 rfl (lv_at hl 1 rfl) ?_
    refine va_get (D := (dC, dI)) (ci := 5) (v := .ref (a 7)) (C := R_Mo) (T := F_Mo) (N := 19) hx hb hts u_Mo hown hK hP 0 rfl rfl 8 (by decide) (hts _ kw_722) (fun _ h9 => h9) rfl d_Mo_make_83 ?_
    refine lv_iload hx hb d_Mo_make_86 (lv_at hl 0 rfl) ?_
    refine lv_iconst (v := 0) hx hb d_Mo_make_88 (by decide) ?_
    refine x_iast (j := (b + V.mn d)) (g := (fun z9 => nI (va_up V.en (b + V.mn d) 0 z9))) hx hb hK hP hD hS 8 0 rfl rfl (by omega) (by decide) rfl (up_nI _ _ 0) rfl d_Mo_make_89 (fun H locs hP hD hS => ?_)
    replace hP : va_P (dC, dI) classes [(o, .inr (5, [.int (nI V.tc), .ref (a 0), .ref (a 1), .ref (a 2), .ref (a 3), .ref (a 4), .ref (a 5), .ref (a 6), .ref (a 7), .ref (a 8), .ref (a 9), .ref (a 10), .int (nI V.ne), .ref (a 11), .ref (a 12), .ref (a 13), .ref (a 14), .long V.fo, .int V.fl])), ((a 0), .inl (cI, 2, .inl (fun z9 => nI (V.mn z9)))), ((a 1), .inl (cI, 400, .inl (fun z9 => nI (va_up V.pre (b + V.mn d) p z9)))), ((a 2), .inl (cI, 400, .inl (fun z9 => nI (va_up V.len (b + V.mn d) n z9)))), ((a 3), .inl (cI, 400, .inl (fun z9 => pI (va_up V.par (b + V.mn d) none z9)))), ((a 4), .inl (cI, 400, .inl (fun z9 => nI (va_up V.lev (b + V.mn d) 0 z9)))), ((a 5), .inl (cI, 400, .inl (fun z9 => nI (va_up V.hol (b + V.mn d) w z9)))), ((a 6), .inl (cI, 400, .inl (fun z9 => nI (va_up V.sta (b + V.mn d) v z9)))), ((a 7), .inl (cI, 400, .inl (fun z9 => nI (va_up V.en (b + V.mn d) 0 z9)))), ((a 8), .inl (cI, 2, .inl (fun z9 => nI (V.tdy z9)))), ((a 9), .inl (cI, 2, .inl (fun z9 => nI (V.dys z9)))), ((a 10), .inl (cI, 8, .inl (fun z9 => nI (V.pol z9)))), ((a 11), .inl (cI, 300, .inl V.kd)), ((a 12), .inl (cI, 300, .inl V.fi)), ((a 13), .inl (cI, 300, .inl V.se)), ((a 14), .inl (cI, 300, .inl V.th))] H := hP
    replace hD : va_D A [(o, .inr (5, [.int (nI V.tc), .ref (a 0), .ref (a 1), .ref (a 2), .ref (a 3), .ref (a 4), .ref (a 5), .ref (a 6), .ref (a 7), .ref (a 8), .ref (a 9), .ref (a 10), .int (nI V.ne), .ref (a 11), .ref (a 12), .ref (a 13), .ref (a 14), .long V.fo, .int V.fl])), ((a 0), .inl (cI, 2, .inl (fun z9 => nI (V.mn z9)))), ((a 1), .inl (cI, 400, .inl (fun z9 => nI (va_up V.pre (b + V.mn d) p z9)))), ((a 2), .inl (cI, 400, .inl (fun z9 => nI (va_up V.len (b + V.mn d) n z9)))), ((a 3), .inl (cI, 400, .inl (fun z9 => pI (va_up V.par (b + V.mn d) none z9)))), ((a 4), .inl (cI, 400, .inl (fun z9 => nI (va_up V.lev (b + V.mn d) 0 z9)))), ((a 5), .inl (cI, 400, .inl (fun z9 => nI (va_up V.hol (b + V.mn d) w z9)))), ((a 6), .inl (cI, 400, .inl (fun z9 => nI (va_up V.sta (b + V.mn d) v z9)))), ((a 7), .inl (cI, 400, .inl (fun z9 => nI (va_up V.en (b + V.mn d) 0 z9)))), ((a 8), .inl (cI, 2, .inl (fun z9 => nI (V.tdy z9)))), ((a 9), .inl (cI, 2, .inl (fun z9 => nI (V.dys z9)))), ((a 10), .inl (cI, 8, .inl (fun z9 => nI (V.pol z9)))), ((a 11), .inl (cI, 300, .inl V.kd)), ((a 12), .inl (cI, 300, .inl V.fi)), ((a 13), .inl (cI, 300, .inl V.se)), ((a 14), .inl (cI, 300, .inl V.th))] := hD
    refine lv_aload_n hx hb d_Mo_make_90 rfl (lv_at hl 1 rfl) ?_
    refine va_get (D := (dC, dI)) (ci := 5) (v := .ref (a 0)) (C := R_Mo) (T := F_Mo) (N := 19) hx hb hts u_Mo hown hK hP 0 rfl rfl 1 (by decide) (hts _ kw_715) (fun _ h9 => h9) rfl d_Mo_make_91 ?_
    refine lv_iload_n hx hb d_Mo_make_94 rfl (lv_at hl 2 rfl) ?_
    refine lv_sipush (v := 200) hx hb d_Mo_make_95 (by decide) ?_
    refine lv_idiv hx hb d_Mo_make_98 (by decide) ?_
    refine x_topi (y := (nI d)) (by rw [hod]; exact k_d200 d hd) ?_
    refine lv_dup2_11 hx hb d_Mo_make_99 rfl rfl ?_
    refine x_iald (j := d) (v := (nI (V.mn d))) hx hb hK hP 1 0 rfl rfl hd (by decide) rfl rfl d_Mo_make_100 ?_
    refine lv_iconst (v := 1) hx hb d_Mo_make_101 (by decide) ?_
    refine lv_iadd hx hb d_Mo_make_102 ?_
    refine x_topi (y := (nI (V.mn d + 1))) (nI_1 _) ?_
    refine x_iast (j := d) (g := (fun z9 => nI (va_up V.mn d (V.mn d + 1) z9))) hx hb hK hP hD hS 1 0 rfl rfl hd (by decide) rfl (up_nI _ _ (V.mn d + 1)) rfl d_Mo_make_103 (fun H locs hP hD hS => ?_)
    replace hP : va_P (dC, dI) classes [(o, .inr (5, [.int (nI V.tc), .ref (a 0), .ref (a 1), .ref (a 2), .ref (a 3), .ref (a 4), .ref (a 5), .ref (a 6), .ref (a 7), .ref (a 8), .ref (a 9), .ref (a 10), .int (nI V.ne), .ref (a 11), .ref (a 12), .ref (a 13), .ref (a 14), .long V.fo, .int V.fl])), ((a 0), .inl (cI, 2, .inl (fun z9 => nI (va_up V.mn d (V.mn d + 1) z9)))), ((a 1), .inl (cI, 400, .inl (fun z9 => nI (va_up V.pre (b + V.mn d) p z9)))), ((a 2), .inl (cI, 400, .inl (fun z9 => nI (va_up V.len (b + V.mn d) n z9)))), ((a 3), .inl (cI, 400, .inl (fun z9 => pI (va_up V.par (b + V.mn d) none z9)))), ((a 4), .inl (cI, 400, .inl (fun z9 => nI (va_up V.lev (b + V.mn d) 0 z9)))), ((a 5), .inl (cI, 400, .inl (fun z9 => nI (va_up V.hol (b + V.mn d) w z9)))), ((a 6), .inl (cI, 400, .inl (fun z9 => nI (va_up V.sta (b + V.mn d) v z9)))), ((a 7), .inl (cI, 400, .inl (fun z9 => nI (va_up V.en (b + V.mn d) 0 z9)))), ((a 8), .inl (cI, 2, .inl (fun z9 => nI (V.tdy z9)))), ((a 9), .inl (cI, 2, .inl (fun z9 => nI (V.dys z9)))), ((a 10), .inl (cI, 8, .inl (fun z9 => nI (V.pol z9)))), ((a 11), .inl (cI, 300, .inl V.kd)), ((a 12), .inl (cI, 300, .inl V.fi)), ((a 13), .inl (cI, 300, .inl V.se)), ((a 14), .inl (cI, 300, .inl V.th))] H := hP
    replace hD : va_D A [(o, .inr (5, [.int (nI V.tc), .ref (a 0), .ref (a 1), .ref (a 2), .ref (a 3), .ref (a 4), .ref (a 5), .ref (a 6), .ref (a 7), .ref (a 8), .ref (a 9), .ref (a 10), .int (nI V.ne), .ref (a 11), .ref (a 12), .ref (a 13), .ref (a 14), .long V.fo, .int V.fl])), ((a 0), .inl (cI, 2, .inl (fun z9 => nI (va_up V.mn d (V.mn d + 1) z9)))), ((a 1), .inl (cI, 400, .inl (fun z9 => nI (va_up V.pre (b + V.mn d) p z9)))), ((a 2), .inl (cI, 400, .inl (fun z9 => nI (va_up V.len (b + V.mn d) n z9)))), ((a 3), .inl (cI, 400, .inl (fun z9 => pI (va_up V.par (b + V.mn d) none z9)))), ((a 4), .inl (cI, 400, .inl (fun z9 => nI (va_up V.lev (b + V.mn d) 0 z9)))), ((a 5), .inl (cI, 400, .inl (fun z9 => nI (va_up V.hol (b + V.mn d) w z9)))), ((a 6), .inl (cI, 400, .inl (fun z9 => nI (va_up V.sta (b + V.mn d) v z9)))), ((a 7), .inl (cI, 400, .inl (fun z9 => nI (va_up V.en (b + V.mn d) 0 z9)))), ((a 8), .inl (cI, 2, .inl (fun z9 => nI (V.tdy z9)))), ((a 9), .inl (cI, 2, .inl (fun z9 => nI (V.dys z9)))), ((a 10), .inl (cI, 8, .inl (fun z9 => nI (V.pol z9)))), ((a 11), .inl (cI, 300, .inl V.kd)), ((a 12), .inl (cI, 300, .inl V.fi)), ((a 13), .inl (cI, 300, .inl V.se)), ((a 14), .inl (cI, 300, .inl V.th))] := hD
    refine lv_iload hx hb d_Mo_make_104 (lv_at hl 0 rfl) ?_
    refine lv_iload_n hx hb d_Mo_make_106 rfl (lv_at hl 2 rfl) ?_
    refine lv_isub hx hb d_Mo_make_107 ?_
    refine x_topi (y := (nI (V.mn d))) (by rw [pk_sub (Nat.le_add_right _ _), Nat.add_sub_cancel_left]) ?_
    have hP9 : va_P (dC, dI) classes (wMo cI o a (vMake V b d p n none w v)) H := hP
    have hD9 : va_D A (wMo cI o a (vMake V b d p n none w v)) := hD
    exact W.iret (v := (nI (V.mn d))) hx hb hr (fun t ht hW => ⟨⟨(nI (V.mn d)), (), rfl, (by rfl), by rw [ht]; exact hP9, va_K.moved hW.alike hK, hD9⟩, hS.F ht⟩) hS.2.2 d_Mo_make_108
  | some q =>
    replace hl : lv_has ls 8 [(0, .ref o), (1, .int (nI b)), (2, .int (nI p)), (3, .int (nI n)), (4, .int (nI q)), (5, .int (nI w)), (6, .int (nI v))] := hl
    refine lv_iload_n hx hb d_Mo_make_0 rfl (lv_at hl 1 rfl) ?_
    refine lv_aload_n hx hb d_Mo_make_1 rfl (lv_at hl 0 rfl) ?_
    refine va_get (D := (dC, dI)) (ci := 5) (v := .ref (a 0)) (C := R_Mo) (T := F_Mo) (N := 19) hx hb hts u_Mo hown hK hP 0 rfl rfl 1 (by decide) (hts _ kw_715) (fun _ h9 => h9) rfl d_Mo_make_2 ?_
    refine lv_iload_n hx hb d_Mo_make_5 rfl (lv_at hl 1 rfl) ?_
    refine lv_sipush (v := 200) hx hb d_Mo_make_6 (by decide) ?_
    refine lv_idiv hx hb d_Mo_make_9 (by decide) ?_
    refine x_topi (y := (nI d)) (by rw [hod]; exact k_d200 d hd) ?_
    refine x_iald (j := d) (v := (nI (V.mn d))) hx hb hK hP 1 0 rfl rfl hd (by decide) rfl rfl d_Mo_make_10 ?_
    refine lv_iadd hx hb d_Mo_make_11 ?_
    refine x_topi (y := (nI (b + V.mn d))) (nI_add _ _) ?_
    refine lv_istore hx hb d_Mo_make_12 hl (by decide) rfl (fun ls hl => ?_)
    replace hl : lv_has ls 8 [(7, .int (nI (b + V.mn d))), (0, .ref o), (1, .int (nI b)), (2, .int (nI p)), (3, .int (nI n)), (4, .int (nI q)), (5, .int (nI w)), (6, .int (nI v))] := hl
    refine lv_aload_n hx hb d_Mo_make_14 rfl (lv_at hl 1 rfl) ?_
    refine va_get (D := (dC, dI)) (ci := 5) (v := .ref (a 1)) (C := R_Mo) (T := F_Mo) (N := 19) hx hb hts u_Mo hown hK hP 0 rfl rfl 2 (by decide) (hts _ kw_716) (fun _ h9 => h9) rfl d_Mo_make_15 ?_
    refine lv_iload hx hb d_Mo_make_18 (lv_at hl 0 rfl) ?_
    refine lv_iload_n hx hb d_Mo_make_20 rfl (lv_at hl 3 rfl) ?_
    refine x_iast (j := (b + V.mn d)) (g := (fun z9 => nI (va_up V.pre (b + V.mn d) p z9))) hx hb hK hP hD hS 2 0 rfl rfl (by omega) (by decide) rfl (up_nI _ _ p) rfl d_Mo_make_21 (fun H locs hP hD hS => ?_)
    replace hP : va_P (dC, dI) classes [(o, .inr (5, [.int (nI V.tc), .ref (a 0), .ref (a 1), .ref (a 2), .ref (a 3), .ref (a 4), .ref (a 5), .ref (a 6), .ref (a 7), .ref (a 8), .ref (a 9), .ref (a 10), .int (nI V.ne), .ref (a 11), .ref (a 12), .ref (a 13), .ref (a 14), .long V.fo, .int V.fl])), ((a 0), .inl (cI, 2, .inl (fun z9 => nI (V.mn z9)))), ((a 1), .inl (cI, 400, .inl (fun z9 => nI (va_up V.pre (b + V.mn d) p z9)))), ((a 2), .inl (cI, 400, .inl (fun z9 => nI (V.len z9)))), ((a 3), .inl (cI, 400, .inl (fun z9 => pI (V.par z9)))), ((a 4), .inl (cI, 400, .inl (fun z9 => nI (V.lev z9)))), ((a 5), .inl (cI, 400, .inl (fun z9 => nI (V.hol z9)))), ((a 6), .inl (cI, 400, .inl (fun z9 => nI (V.sta z9)))), ((a 7), .inl (cI, 400, .inl (fun z9 => nI (V.en z9)))), ((a 8), .inl (cI, 2, .inl (fun z9 => nI (V.tdy z9)))), ((a 9), .inl (cI, 2, .inl (fun z9 => nI (V.dys z9)))), ((a 10), .inl (cI, 8, .inl (fun z9 => nI (V.pol z9)))), ((a 11), .inl (cI, 300, .inl V.kd)), ((a 12), .inl (cI, 300, .inl V.fi)), ((a 13), .inl (cI, 300, .inl V.se)), ((a 14), .inl (cI, 300, .inl V.th))] H := hP
    replace hD : va_D A [(o, .inr (5, [.int (nI V.tc), .ref (a 0), .ref (a 1), .ref (a 2), .ref (a 3), .ref (a 4), .ref (a 5), .ref (a 6), .ref (a 7), .ref (a 8), .ref (a 9), .ref (a 10), .int (nI V.ne), .ref (a 11), .ref (a 12), .ref (a 13), .ref (a 14), .long V.fo, .int V.fl])), ((a 0), .inl (cI, 2, .inl (fun z9 => nI (V.mn z9)))), ((a 1), .inl (cI, 400, .inl (fun z9 => nI (va_up V.pre (b + V.mn d) p z9)))), ((a 2), .inl (cI, 400, .inl (fun z9 => nI (V.len z9)))), ((a 3), .inl (cI, 400, .inl (fun z9 => pI (V.par z9)))), ((a 4), .inl (cI, 400, .inl (fun z9 => nI (V.lev z9)))), ((a 5), .inl (cI, 400, .inl (fun z9 => nI (V.hol z9)))), ((a 6), .inl (cI, 400, .inl (fun z9 => nI (V.sta z9)))), ((a 7), .inl (cI, 400, .inl (fun z9 => nI (V.en z9)))), ((a 8), .inl (cI, 2, .inl (fun z9 => nI (V.tdy z9)))), ((a 9), .inl (cI, 2, .inl (fun z9 => nI (V.dys z9)))), ((a 10), .inl (cI, 8, .inl (fun z9 => nI (V.pol z9)))), ((a 11), .inl (cI, 300, .inl V.kd)), ((a 12), .inl (cI, 300, .inl V.fi)), ((a 13), .inl (cI, 300, .inl V.se)), ((a 14), .inl (cI, 300, .inl V.th))] := hD
    refine lv_aload_n hx hb d_Mo_make_22 rfl (lv_at hl 1 rfl) ?_
    refine va_get (D := (dC, dI)) (ci := 5) (v := .ref (a 2)) (C := R_Mo) (T := F_Mo) (N := 19) hx hb hts u_Mo hown hK hP 0 rfl rfl 3 (by decide) (hts _ kw_717) (fun _ h9 => h9) rfl d_Mo_make_23 ?_
    refine lv_iload hx hb d_Mo_make_26 (lv_at hl 0 rfl) ?_
    refine lv_iload_n hx hb d_Mo_make_28 rfl (lv_at hl 4 rfl) ?_
    refine x_iast (j := (b + V.mn d)) (g := (fun z9 => nI (va_up V.len (b + V.mn d) n z9))) hx hb hK hP hD hS 3 0 rfl rfl (by omega) (by decide) rfl (up_nI _ _ n) rfl d_Mo_make_29 (fun H locs hP hD hS => ?_)
    replace hP : va_P (dC, dI) classes [(o, .inr (5, [.int (nI V.tc), .ref (a 0), .ref (a 1), .ref (a 2), .ref (a 3), .ref (a 4), .ref (a 5), .ref (a 6), .ref (a 7), .ref (a 8), .ref (a 9), .ref (a 10), .int (nI V.ne), .ref (a 11), .ref (a 12), .ref (a 13), .ref (a 14), .long V.fo, .int V.fl])), ((a 0), .inl (cI, 2, .inl (fun z9 => nI (V.mn z9)))), ((a 1), .inl (cI, 400, .inl (fun z9 => nI (va_up V.pre (b + V.mn d) p z9)))), ((a 2), .inl (cI, 400, .inl (fun z9 => nI (va_up V.len (b + V.mn d) n z9)))), ((a 3), .inl (cI, 400, .inl (fun z9 => pI (V.par z9)))), ((a 4), .inl (cI, 400, .inl (fun z9 => nI (V.lev z9)))), ((a 5), .inl (cI, 400, .inl (fun z9 => nI (V.hol z9)))), ((a 6), .inl (cI, 400, .inl (fun z9 => nI (V.sta z9)))), ((a 7), .inl (cI, 400, .inl (fun z9 => nI (V.en z9)))), ((a 8), .inl (cI, 2, .inl (fun z9 => nI (V.tdy z9)))), ((a 9), .inl (cI, 2, .inl (fun z9 => nI (V.dys z9)))), ((a 10), .inl (cI, 8, .inl (fun z9 => nI (V.pol z9)))), ((a 11), .inl (cI, 300, .inl V.kd)), ((a 12), .inl (cI, 300, .inl V.fi)), ((a 13), .inl (cI, 300, .inl V.se)), ((a 14), .inl (cI, 300, .inl V.th))] H := hP
    replace hD : va_D A [(o, .inr (5, [.int (nI V.tc), .ref (a 0), .ref (a 1), .ref (a 2), .ref (a 3), .ref (a 4), .ref (a 5), .ref (a 6), .ref (a 7), .ref (a 8), .ref (a 9), .ref (a 10), .int (nI V.ne), .ref (a 11), .ref (a 12), .ref (a 13), .ref (a 14), .long V.fo, .int V.fl])), ((a 0), .inl (cI, 2, .inl (fun z9 => nI (V.mn z9)))), ((a 1), .inl (cI, 400, .inl (fun z9 => nI (va_up V.pre (b + V.mn d) p z9)))), ((a 2), .inl (cI, 400, .inl (fun z9 => nI (va_up V.len (b + V.mn d) n z9)))), ((a 3), .inl (cI, 400, .inl (fun z9 => pI (V.par z9)))), ((a 4), .inl (cI, 400, .inl (fun z9 => nI (V.lev z9)))), ((a 5), .inl (cI, 400, .inl (fun z9 => nI (V.hol z9)))), ((a 6), .inl (cI, 400, .inl (fun z9 => nI (V.sta z9)))), ((a 7), .inl (cI, 400, .inl (fun z9 => nI (V.en z9)))), ((a 8), .inl (cI, 2, .inl (fun z9 => nI (V.tdy z9)))), ((a 9), .inl (cI, 2, .inl (fun z9 => nI (V.dys z9)))), ((a 10), .inl (cI, 8, .inl (fun z9 => nI (V.pol z9)))), ((a 11), .inl (cI, 300, .inl V.kd)), ((a 12), .inl (cI, 300, .inl V.fi)), ((a 13), .inl (cI, 300, .inl V.se)), ((a 14), .inl (cI, 300, .inl V.th))] := hD
    refine lv_aload_n hx hb d_Mo_make_30 rfl (lv_at hl 1 rfl) ?_
    refine va_get (D := (dC, dI)) (ci := 5) (v := .ref (a 3)) (C := R_Mo) (T := F_Mo) (N := 19) hx hb hts u_Mo hown hK hP 0 rfl rfl 4 (by decide) (hts _ kw_718) (fun _ h9 => h9) rfl d_Mo_make_31 ?_
    refine lv_iload hx hb d_Mo_make_34 (lv_at hl 0 rfl) ?_
    refine lv_iload hx hb d_Mo_make_36 (lv_at hl 5 rfl) ?_
    refine x_iast (j := (b + V.mn d)) (g := (fun z9 => pI (va_up V.par (b + V.mn d) (some q) z9))) hx hb hK hP hD hS 4 0 rfl rfl (by omega) (by decide) rfl (up_pI _ _ (some q)) rfl d_Mo_make_38 (fun H locs hP hD hS => ?_)
    replace hP : va_P (dC, dI) classes [(o, .inr (5, [.int (nI V.tc), .ref (a 0), .ref (a 1), .ref (a 2), .ref (a 3), .ref (a 4), .ref (a 5), .ref (a 6), .ref (a 7), .ref (a 8), .ref (a 9), .ref (a 10), .int (nI V.ne), .ref (a 11), .ref (a 12), .ref (a 13), .ref (a 14), .long V.fo, .int V.fl])), ((a 0), .inl (cI, 2, .inl (fun z9 => nI (V.mn z9)))), ((a 1), .inl (cI, 400, .inl (fun z9 => nI (va_up V.pre (b + V.mn d) p z9)))), ((a 2), .inl (cI, 400, .inl (fun z9 => nI (va_up V.len (b + V.mn d) n z9)))), ((a 3), .inl (cI, 400, .inl (fun z9 => pI (va_up V.par (b + V.mn d) (some q) z9)))), ((a 4), .inl (cI, 400, .inl (fun z9 => nI (V.lev z9)))), ((a 5), .inl (cI, 400, .inl (fun z9 => nI (V.hol z9)))), ((a 6), .inl (cI, 400, .inl (fun z9 => nI (V.sta z9)))), ((a 7), .inl (cI, 400, .inl (fun z9 => nI (V.en z9)))), ((a 8), .inl (cI, 2, .inl (fun z9 => nI (V.tdy z9)))), ((a 9), .inl (cI, 2, .inl (fun z9 => nI (V.dys z9)))), ((a 10), .inl (cI, 8, .inl (fun z9 => nI (V.pol z9)))), ((a 11), .inl (cI, 300, .inl V.kd)), ((a 12), .inl (cI, 300, .inl V.fi)), ((a 13), .inl (cI, 300, .inl V.se)), ((a 14), .inl (cI, 300, .inl V.th))] H := hP
    replace hD : va_D A [(o, .inr (5, [.int (nI V.tc), .ref (a 0), .ref (a 1), .ref (a 2), .ref (a 3), .ref (a 4), .ref (a 5), .ref (a 6), .ref (a 7), .ref (a 8), .ref (a 9), .ref (a 10), .int (nI V.ne), .ref (a 11), .ref (a 12), .ref (a 13), .ref (a 14), .long V.fo, .int V.fl])), ((a 0), .inl (cI, 2, .inl (fun z9 => nI (V.mn z9)))), ((a 1), .inl (cI, 400, .inl (fun z9 => nI (va_up V.pre (b + V.mn d) p z9)))), ((a 2), .inl (cI, 400, .inl (fun z9 => nI (va_up V.len (b + V.mn d) n z9)))), ((a 3), .inl (cI, 400, .inl (fun z9 => pI (va_up V.par (b + V.mn d) (some q) z9)))), ((a 4), .inl (cI, 400, .inl (fun z9 => nI (V.lev z9)))), ((a 5), .inl (cI, 400, .inl (fun z9 => nI (V.hol z9)))), ((a 6), .inl (cI, 400, .inl (fun z9 => nI (V.sta z9)))), ((a 7), .inl (cI, 400, .inl (fun z9 => nI (V.en z9)))), ((a 8), .inl (cI, 2, .inl (fun z9 => nI (V.tdy z9)))), ((a 9), .inl (cI, 2, .inl (fun z9 => nI (V.dys z9)))), ((a 10), .inl (cI, 8, .inl (fun z9 => nI (V.pol z9)))), ((a 11), .inl (cI, 300, .inl V.kd)), ((a 12), .inl (cI, 300, .inl V.fi)), ((a 13), .inl (cI, 300, .inl V.se)), ((a 14), .inl (cI, 300, .inl V.th))] := hD
    refine lv_aload_n hx hb d_Mo_make_39 rfl (lv_at hl 1 rfl) ?_
    refine va_get (D := (dC, dI)) (ci := 5) (v := .ref (a 4)) (C := R_Mo) (T := F_Mo) (N := 19) hx hb hts u_Mo hown hK hP 0 rfl rfl 5 (by decide) (hts _ kw_719) (fun _ h9 => h9) rfl d_Mo_make_40 ?_
    refine lv_iload hx hb d_Mo_make_43 (lv_at hl 0 rfl) ?_
    refine lv_iload hx hb d_Mo_make_45 (lv_at hl 5 rfl) ?_
    refine lv_if_ge hx hb d_Mo_make_47 rfl (fun _ => ?_) (fun h9 => absurd (nI_pos' (by have := hq q rfl; omega)) h9)
    refine lv_aload_n hx hb d_Mo_make_54 rfl (lv_at hl 1 rfl) ?_
    refine va_get (D := (dC, dI)) (ci := 5) (v := .ref (a 4)) (C := R_Mo) (T := F_Mo) (N := 19) hx hb hts u_Mo hown hK hP 0 rfl rfl 5 (by decide) (hts _ kw_719) (fun _ h9 => h9) rfl d_Mo_make_55 ?_
    refine lv_iload hx hb d_Mo_make_58 (lv_at hl 5 rfl) ?_
    refine x_iald (j := q) (v := (nI (V.lev q))) hx hb hK hP 5 0 rfl rfl (hq q rfl) (by decide) rfl rfl d_Mo_make_60 ?_
    refine lv_iconst (v := 1) hx hb d_Mo_make_61 (by decide) ?_
    refine lv_iadd hx hb d_Mo_make_62 ?_
    refine x_topi (y := (nI (V.lev q + 1))) (nI_1 _) ?_
    refine x_iast (j := (b + V.mn d)) (g := (fun z9 => nI (va_up V.lev (b + V.mn d) (V.lev q + 1) z9))) hx hb hK hP hD hS 5 0 rfl rfl (by omega) (by decide) rfl (up_nI _ _ (V.lev q + 1)) rfl d_Mo_make_63 (fun H locs hP hD hS => ?_)
    replace hP : va_P (dC, dI) classes [(o, .inr (5, [.int (nI V.tc), .ref (a 0), .ref (a 1), .ref (a 2), .ref (a 3), .ref (a 4), .ref (a 5), .ref (a 6), .ref (a 7), .ref (a 8), .ref (a 9), .ref (a 10), .int (nI V.ne), .ref (a 11), .ref (a 12), .ref (a 13), .ref (a 14), .long V.fo, .int V.fl])), ((a 0), .inl (cI, 2, .inl (fun z9 => nI (V.mn z9)))), ((a 1), .inl (cI, 400, .inl (fun z9 => nI (va_up V.pre (b + V.mn d) p z9)))), ((a 2), .inl (cI, 400, .inl (fun z9 => nI (va_up V.len (b + V.mn d) n z9)))), ((a 3), .inl (cI, 400, .inl (fun z9 => pI (va_up V.par (b + V.mn d) (some q) z9)))), ((a 4), .inl (cI, 400, .inl (fun z9 => nI (va_up V.lev (b + V.mn d) (V.lev q + 1) z9)))), ((a 5), .inl (cI, 400, .inl (fun z9 => nI (V.hol z9)))), ((a 6), .inl (cI, 400, .inl (fun z9 => nI (V.sta z9)))), ((a 7), .inl (cI, 400, .inl (fun z9 => nI (V.en z9)))), ((a 8), .inl (cI, 2, .inl (fun z9 => nI (V.tdy z9)))), ((a 9), .inl (cI, 2, .inl (fun z9 => nI (V.dys z9)))), ((a 10), .inl (cI, 8, .inl (fun z9 => nI (V.pol z9)))), ((a 11), .inl (cI, 300, .inl V.kd)), ((a 12), .inl (cI, 300, .inl V.fi)), ((a 13), .inl (cI, 300, .inl V.se)), ((a 14), .inl (cI, 300, .inl V.th))] H := hP
    replace hD : va_D A [(o, .inr (5, [.int (nI V.tc), .ref (a 0), .ref (a 1), .ref (a 2), .ref (a 3), .ref (a 4), .ref (a 5), .ref (a 6), .ref (a 7), .ref (a 8), .ref (a 9), .ref (a 10), .int (nI V.ne), .ref (a 11), .ref (a 12), .ref (a 13), .ref (a 14), .long V.fo, .int V.fl])), ((a 0), .inl (cI, 2, .inl (fun z9 => nI (V.mn z9)))), ((a 1), .inl (cI, 400, .inl (fun z9 => nI (va_up V.pre (b + V.mn d) p z9)))), ((a 2), .inl (cI, 400, .inl (fun z9 => nI (va_up V.len (b + V.mn d) n z9)))), ((a 3), .inl (cI, 400, .inl (fun z9 => pI (va_up V.par (b + V.mn d) (some q) z9)))), ((a 4), .inl (cI, 400, .inl (fun z9 => nI (va_up V.lev (b + V.mn d) (V.lev q + 1) z9)))), ((a 5), .inl (cI, 400, .inl (fun z9 => nI (V.hol z9)))), ((a 6), .inl (cI, 400, .inl (fun z9 => nI (V.sta z9)))), ((a 7), .inl (cI, 400, .inl (fun z9 => nI (V.en z9)))), ((a 8), .inl (cI, 2, .inl (fun z9 => nI (V.tdy z9)))), ((a 9), .inl (cI, 2, .inl (fun z9 => nI (V.dys z9)))), ((a 10), .inl (cI, 8, .inl (fun z9 => nI (V.pol z9)))), ((a 11), .inl (cI, 300, .inl V.kd)), ((a 12), .inl (cI, 300, .inl V.fi)), ((a 13), .inl (cI, 300, .inl V.se)), ((a 14), .inl (cI, 300, .inl V.th))] := hD
    refine lv_aload_n hx hb d_Mo_make_64 rfl (lv_at hl 1 rfl) ?_
    refine va_get (D := (dC, dI)) (ci := 5) (v := .ref (a 5)) (C := R_Mo) (T := F_Mo) (N := 19) hx hb hts u_Mo hown hK hP 0 rfl rfl 6 (by decide) (hts _ kw_720) (fun _ h9 => h9) rfl d_Mo_make_65 ?_
    refine lv_iload hx hb d_Mo_make_68 (lv_at hl 0 rfl) ?_
    refine lv_iload hx hb d_Mo_make_70 (lv_at hl 6 rfl) ?_
    refine x_iast (j := (b + V.mn d)) (g := (fun z9 => nI (va_up V.hol (b + V.mn d) w z9))) hx hb hK hP hD hS 6 0 rfl rfl (by omega) (by decide) rfl (up_nI _ _ w) rfl d_Mo_make_72 (fun H locs hP hD hS => ?_)
    replace hP : va_P (dC, dI) classes [(o, .inr (5, [.int (nI V.tc), .ref (a 0), .ref (a 1), .ref (a 2), .ref (a 3), .ref (a 4), .ref (a 5), .ref (a 6), .ref (a 7), .ref (a 8), .ref (a 9), .ref (a 10), .int (nI V.ne), .ref (a 11), .ref (a 12), .ref (a 13), .ref (a 14), .long V.fo, .int V.fl])), ((a 0), .inl (cI, 2, .inl (fun z9 => nI (V.mn z9)))), ((a 1), .inl (cI, 400, .inl (fun z9 => nI (va_up V.pre (b + V.mn d) p z9)))), ((a 2), .inl (cI, 400, .inl (fun z9 => nI (va_up V.len (b + V.mn d) n z9)))), ((a 3), .inl (cI, 400, .inl (fun z9 => pI (va_up V.par (b + V.mn d) (some q) z9)))), ((a 4), .inl (cI, 400, .inl (fun z9 => nI (va_up V.lev (b + V.mn d) (V.lev q + 1) z9)))), ((a 5), .inl (cI, 400, .inl (fun z9 => nI (va_up V.hol (b + V.mn d) w z9)))), ((a 6), .inl (cI, 400, .inl (fun z9 => nI (V.sta z9)))), ((a 7), .inl (cI, 400, .inl (fun z9 => nI (V.en z9)))), ((a 8), .inl (cI, 2, .inl (fun z9 => nI (V.tdy z9)))), ((a 9), .inl (cI, 2, .inl (fun z9 => nI (V.dys z9)))), ((a 10), .inl (cI, 8, .inl (fun z9 => nI (V.pol z9)))), ((a 11), .inl (cI, 300, .inl V.kd)), ((a 12), .inl (cI, 300, .inl V.fi)), ((a 13), .inl (cI, 300, .inl V.se)), ((a 14), .inl (cI, 300, .inl V.th))] H := hP
    replace hD : va_D A [(o, .inr (5, [.int (nI V.tc), .ref (a 0), .ref (a 1), .ref (a 2), .ref (a 3), .ref (a 4), .ref (a 5), .ref (a 6), .ref (a 7), .ref (a 8), .ref (a 9), .ref (a 10), .int (nI V.ne), .ref (a 11), .ref (a 12), .ref (a 13), .ref (a 14), .long V.fo, .int V.fl])), ((a 0), .inl (cI, 2, .inl (fun z9 => nI (V.mn z9)))), ((a 1), .inl (cI, 400, .inl (fun z9 => nI (va_up V.pre (b + V.mn d) p z9)))), ((a 2), .inl (cI, 400, .inl (fun z9 => nI (va_up V.len (b + V.mn d) n z9)))), ((a 3), .inl (cI, 400, .inl (fun z9 => pI (va_up V.par (b + V.mn d) (some q) z9)))), ((a 4), .inl (cI, 400, .inl (fun z9 => nI (va_up V.lev (b + V.mn d) (V.lev q + 1) z9)))), ((a 5), .inl (cI, 400, .inl (fun z9 => nI (va_up V.hol (b + V.mn d) w z9)))), ((a 6), .inl (cI, 400, .inl (fun z9 => nI (V.sta z9)))), ((a 7), .inl (cI, 400, .inl (fun z9 => nI (V.en z9)))), ((a 8), .inl (cI, 2, .inl (fun z9 => nI (V.tdy z9)))), ((a 9), .inl (cI, 2, .inl (fun z9 => nI (V.dys z9)))), ((a 10), .inl (cI, 8, .inl (fun z9 => nI (V.pol z9)))), ((a 11), .inl (cI, 300, .inl V.kd)), ((a 12), .inl (cI, 300, .inl V.fi)), ((a 13), .inl (cI, 300, .inl V.se)), ((a 14), .inl (cI, 300, .inl V.th))] := hD
    refine lv_aload_n hx hb d_Mo_make_73 rfl (lv_at hl 1 rfl) ?_
    refine va_get (D := (dC, dI)) (ci := 5) (v := .ref (a 6)) (C := R_Mo) (T := F_Mo) (N := 19) hx hb hts u_Mo hown hK hP 0 rfl rfl 7 (by decide) (hts _ kw_721) (fun _ h9 => h9) rfl d_Mo_make_74 ?_
    refine lv_iload hx hb d_Mo_make_77 (lv_at hl 0 rfl) ?_
    refine lv_iload hx hb d_Mo_make_79 (lv_at hl 7 rfl) ?_
    refine x_iast (j := (b + V.mn d)) (g := (fun z9 => nI (va_up V.sta (b + V.mn d) v z9))) hx hb hK hP hD hS 7 0 rfl rfl (by omega) (by decide) rfl (up_nI _ _ v) rfl d_Mo_make_81 (fun H locs hP hD hS => ?_)
    replace hP : va_P (dC, dI) classes [(o, .inr (5, [.int (nI V.tc), .ref (a 0), .ref (a 1), .ref (a 2), .ref (a 3), .ref (a 4), .ref (a 5), .ref (a 6), .ref (a 7), .ref (a 8), .ref (a 9), .ref (a 10), .int (nI V.ne), .ref (a 11), .ref (a 12), .ref (a 13), .ref (a 14), .long V.fo, .int V.fl])), ((a 0), .inl (cI, 2, .inl (fun z9 => nI (V.mn z9)))), ((a 1), .inl (cI, 400, .inl (fun z9 => nI (va_up V.pre (b + V.mn d) p z9)))), ((a 2), .inl (cI, 400, .inl (fun z9 => nI (va_up V.len (b + V.mn d) n z9)))), ((a 3), .inl (cI, 400, .inl (fun z9 => pI (va_up V.par (b + V.mn d) (some q) z9)))), ((a 4), .inl (cI, 400, .inl (fun z9 => nI (va_up V.lev (b + V.mn d) (V.lev q + 1) z9)))), ((a 5), .inl (cI, 400, .inl (fun z9 => nI (va_up V.hol (b + V.mn d) w z9)))), ((a 6), .inl (cI, 400, .inl (fun z9 => nI (va_up V.sta (b + V.mn d) v z9)))), ((a 7), .inl (cI, 400, .inl (fun z9 => nI (V.en z9)))), ((a 8), .inl (cI, 2, .inl (fun z9 => nI (V.tdy z9)))), ((a 9), .inl (cI, 2, .inl (fun z9 => nI (V.dys z9)))), ((a 10), .inl (cI, 8, .inl (fun z9 => nI (V.pol z9)))), ((a 11), .inl (cI, 300, .inl V.kd)), ((a 12), .inl (cI, 300, .inl V.fi)), ((a 13), .inl (cI, 300, .inl V.se)), ((a 14), .inl (cI, 300, .inl V.th))] H := hP
    replace hD : va_D A [(o, .inr (5, [.int (nI V.tc), .ref (a 0), .ref (a 1), .ref (a 2), .ref (a 3), .ref (a 4), .ref (a 5), .ref (a 6), .ref (a 7), .ref (a 8), .ref (a 9), .ref (a 10), .int (nI V.ne), .ref (a 11), .ref (a 12), .ref (a 13), .ref (a 14), .long V.fo, .int V.fl])), ((a 0), .inl (cI, 2, .inl (fun z9 => nI (V.mn z9)))), ((a 1), .inl (cI, 400, .inl (fun z9 => nI (va_up V.pre (b + V.mn d) p z9)))), ((a 2), .inl (cI, 400, .inl (fun z9 => nI (va_up V.len (b + V.mn d) n z9)))), ((a 3), .inl (cI, 400, .inl (fun z9 => pI (va_up V.par (b + V.mn d) (some q) z9)))), ((a 4), .inl (cI, 400, .inl (fun z9 => nI (va_up V.lev (b + V.mn d) (V.lev q + 1) z9)))), ((a 5), .inl (cI, 400, .inl (fun z9 => nI (va_up V.hol (b + V.mn d) w z9)))), ((a 6), .inl (cI, 400, .inl (fun z9 => nI (va_up V.sta (b + V.mn d) v z9)))), ((a 7), .inl (cI, 400, .inl (fun z9 => nI (V.en z9)))), ((a 8), .inl (cI, 2, .inl (fun z9 => nI (V.tdy z9)))), ((a 9), .inl (cI, 2, .inl (fun z9 => nI (V.dys z9)))), ((a 10), .inl (cI, 8, .inl (fun z9 => nI (V.pol z9)))), ((a 11), .inl (cI, 300, .inl V.kd)), ((a 12), .inl (cI, 300, .inl V.fi)), ((a 13), .inl (cI, 300, .inl V.se)), ((a 14), .inl (cI, 300, .inl V.th))] := hD
    refine lv_aload_n hx hb d_Mo_make_82 rfl (lv_at hl 1 rfl) ?_
    refine va_get (D := (dC, dI)) (ci := 5) (v := .ref (a 7)) (C := R_Mo) (T := F_Mo) (N := 19) hx hb hts u_Mo hown hK hP 0 rfl rfl 8 (by decide) (hts _ kw_722) (fun _ h9 => h9) rfl d_Mo_make_83 ?_
    refine lv_iload hx hb d_Mo_make_86 (lv_at hl 0 rfl) ?_
    refine lv_iconst (v := 0) hx hb d_Mo_make_88 (by decide) ?_
    refine x_iast (j := (b + V.mn d)) (g := (fun z9 => nI (va_up V.en (b + V.mn d) 0 z9))) hx hb hK hP hD hS 8 0 rfl rfl (by omega) (by decide) rfl (up_nI _ _ 0) rfl d_Mo_make_89 (fun H locs hP hD hS => ?_)
    replace hP : va_P (dC, dI) classes [(o, .inr (5, [.int (nI V.tc), .ref (a 0), .ref (a 1), .ref (a 2), .ref (a 3), .ref (a 4), .ref (a 5), .ref (a 6), .ref (a 7), .ref (a 8), .ref (a 9), .ref (a 10), .int (nI V.ne), .ref (a 11), .ref (a 12), .ref (a 13), .ref (a 14), .long V.fo, .int V.fl])), ((a 0), .inl (cI, 2, .inl (fun z9 => nI (V.mn z9)))), ((a 1), .inl (cI, 400, .inl (fun z9 => nI (va_up V.pre (b + V.mn d) p z9)))), ((a 2), .inl (cI, 400, .inl (fun z9 => nI (va_up V.len (b + V.mn d) n z9)))), ((a 3), .inl (cI, 400, .inl (fun z9 => pI (va_up V.par (b + V.mn d) (some q) z9)))), ((a 4), .inl (cI, 400, .inl (fun z9 => nI (va_up V.lev (b + V.mn d) (V.lev q + 1) z9)))), ((a 5), .inl (cI, 400, .inl (fun z9 => nI (va_up V.hol (b + V.mn d) w z9)))), ((a 6), .inl (cI, 400, .inl (fun z9 => nI (va_up V.sta (b + V.mn d) v z9)))), ((a 7), .inl (cI, 400, .inl (fun z9 => nI (va_up V.en (b + V.mn d) 0 z9)))), ((a 8), .inl (cI, 2, .inl (fun z9 => nI (V.tdy z9)))), ((a 9), .inl (cI, 2, .inl (fun z9 => nI (V.dys z9)))), ((a 10), .inl (cI, 8, .inl (fun z9 => nI (V.pol z9)))), ((a 11), .inl (cI, 300, .inl V.kd)), ((a 12), .inl (cI, 300, .inl V.fi)), ((a 13), .inl (cI, 300, .inl V.se)), ((a 14), .inl (cI, 300, .inl V.th))] H := hP
    replace hD : va_D A [(o, .inr (5, [.int (nI V.tc), .ref (a 0), .ref (a 1), .ref (a 2), .ref (a 3), .ref (a 4), .ref (a 5), .ref (a 6), .ref (a 7), .ref (a 8), .ref (a 9), .ref (a 10), .int (nI V.ne), .ref (a 11), .ref (a 12), .ref (a 13), .ref (a 14), .long V.fo, .int V.fl])), ((a 0), .inl (cI, 2, .inl (fun z9 => nI (V.mn z9)))), ((a 1), .inl (cI, 400, .inl (fun z9 => nI (va_up V.pre (b + V.mn d) p z9)))), ((a 2), .inl (cI, 400, .inl (fun z9 => nI (va_up V.len (b + V.mn d) n z9)))), ((a 3), .inl (cI, 400, .inl (fun z9 => pI (va_up V.par (b + V.mn d) (some q) z9)))), ((a 4), .inl (cI, 400, .inl (fun z9 => nI (va_up V.lev (b + V.mn d) (V.lev q + 1) z9)))), ((a 5), .inl (cI, 400, .inl (fun z9 => nI (va_up V.hol (b + V.mn d) w z9)))), ((a 6), .inl (cI, 400, .inl (fun z9 => nI (va_up V.sta (b + V.mn d) v z9)))), ((a 7), .inl (cI, 400, .inl (fun z9 => nI (va_up V.en (b + V.mn d) 0 z9)))), ((a 8), .inl (cI, 2, .inl (fun z9 => nI (V.tdy z9)))), ((a 9), .inl (cI, 2, .inl (fun z9 => nI (V.dys z9)))), ((a 10), .inl (cI, 8, .inl (fun z9 => nI (V.pol z9)))), ((a 11), .inl (cI, 300, .inl V.kd)), ((a 12), .inl (cI, 300, .inl V.fi)), ((a 13), .inl (cI, 300, .inl V.se)), ((a 14), .inl (cI, 300, .inl V.th))] := hD
    refine lv_aload_n hx hb d_Mo_make_90 rfl (lv_at hl 1 rfl) ?_
    refine va_get (D := (dC, dI)) (ci := 5) (v := .ref (a 0)) (C := R_Mo) (T := F_Mo) (N := 19) hx hb hts u_Mo hown hK hP 0 rfl rfl 1 (by decide) (hts _ kw_715) (fun _ h9 => h9) rfl d_Mo_make_91 ?_
    refine lv_iload_n hx hb d_Mo_make_94 rfl (lv_at hl 2 rfl) ?_
    refine lv_sipush (v := 200) hx hb d_Mo_make_95 (by decide) ?_
    refine lv_idiv hx hb d_Mo_make_98 (by decide) ?_
    refine x_topi (y := (nI d)) (by rw [hod]; exact k_d200 d hd) ?_
    refine lv_dup2_11 hx hb d_Mo_make_99 rfl rfl ?_
    refine x_iald (j := d) (v := (nI (V.mn d))) hx hb hK hP 1 0 rfl rfl hd (by decide) rfl rfl d_Mo_make_100 ?_
    refine lv_iconst (v := 1) hx hb d_Mo_make_101 (by decide) ?_
    refine lv_iadd hx hb d_Mo_make_102 ?_
    refine x_topi (y := (nI (V.mn d + 1))) (nI_1 _) ?_
    refine x_iast (j := d) (g := (fun z9 => nI (va_up V.mn d (V.mn d + 1) z9))) hx hb hK hP hD hS 1 0 rfl rfl hd (by decide) rfl (up_nI _ _ (V.mn d + 1)) rfl d_Mo_make_103 (fun H locs hP hD hS => ?_)
    replace hP : va_P (dC, dI) classes [(o, .inr (5, [.int (nI V.tc), .ref (a 0), .ref (a 1), .ref (a 2), .ref (a 3), .ref (a 4), .ref (a 5), .ref (a 6), .ref (a 7), .ref (a 8), .ref (a 9), .ref (a 10), .int (nI V.ne), .ref (a 11), .ref (a 12), .ref (a 13), .ref (a 14), .long V.fo, .int V.fl])), ((a 0), .inl (cI, 2, .inl (fun z9 => nI (va_up V.mn d (V.mn d + 1) z9)))), ((a 1), .inl (cI, 400, .inl (fun z9 => nI (va_up V.pre (b + V.mn d) p z9)))), ((a 2), .inl (cI, 400, .inl (fun z9 => nI (va_up V.len (b + V.mn d) n z9)))), ((a 3), .inl (cI, 400, .inl (fun z9 => pI (va_up V.par (b + V.mn d) (some q) z9)))), ((a 4), .inl (cI, 400, .inl (fun z9 => nI (va_up V.lev (b + V.mn d) (V.lev q + 1) z9)))), ((a 5), .inl (cI, 400, .inl (fun z9 => nI (va_up V.hol (b + V.mn d) w z9)))), ((a 6), .inl (cI, 400, .inl (fun z9 => nI (va_up V.sta (b + V.mn d) v z9)))), ((a 7), .inl (cI, 400, .inl (fun z9 => nI (va_up V.en (b + V.mn d) 0 z9)))), ((a 8), .inl (cI, 2, .inl (fun z9 => nI (V.tdy z9)))), ((a 9), .inl (cI, 2, .inl (fun z9 => nI (V.dys z9)))), ((a 10), .inl (cI, 8, .inl (fun z9 => nI (V.pol z9)))), ((a 11), .inl (cI, 300, .inl V.kd)), ((a 12), .inl (cI, 300, .inl V.fi)), ((a 13), .inl (cI, 300, .inl V.se)), ((a 14), .inl (cI, 300, .inl V.th))] H := hP
    replace hD : va_D A [(o, .inr (5, [.int (nI V.tc), .ref (a 0), .ref (a 1), .ref (a 2), .ref (a 3), .ref (a 4), .ref (a 5), .ref (a 6), .ref (a 7), .ref (a 8), .ref (a 9), .ref (a 10), .int (nI V.ne), .ref (a 11), .ref (a 12), .ref (a 13), .ref (a 14), .long V.fo, .int V.fl])), ((a 0), .inl (cI, 2, .inl (fun z9 => nI (va_up V.mn d (V.mn d + 1) z9)))), ((a 1), .inl (cI, 400, .inl (fun z9 => nI (va_up V.pre (b + V.mn d) p z9)))), ((a 2), .inl (cI, 400, .inl (fun z9 => nI (va_up V.len (b + V.mn d) n z9)))), ((a 3), .inl (cI, 400, .inl (fun z9 => pI (va_up V.par (b + V.mn d) (some q) z9)))), ((a 4), .inl (cI, 400, .inl (fun z9 => nI (va_up V.lev (b + V.mn d) (V.lev q + 1) z9)))), ((a 5), .inl (cI, 400, .inl (fun z9 => nI (va_up V.hol (b + V.mn d) w z9)))), ((a 6), .inl (cI, 400, .inl (fun z9 => nI (va_up V.sta (b + V.mn d) v z9)))), ((a 7), .inl (cI, 400, .inl (fun z9 => nI (va_up V.en (b + V.mn d) 0 z9)))), ((a 8), .inl (cI, 2, .inl (fun z9 => nI (V.tdy z9)))), ((a 9), .inl (cI, 2, .inl (fun z9 => nI (V.dys z9)))), ((a 10), .inl (cI, 8, .inl (fun z9 => nI (V.pol z9)))), ((a 11), .inl (cI, 300, .inl V.kd)), ((a 12), .inl (cI, 300, .inl V.fi)), ((a 13), .inl (cI, 300, .inl V.se)), ((a 14), .inl (cI, 300, .inl V.th))] := hD
    refine lv_iload hx hb d_Mo_make_104 (lv_at hl 0 rfl) ?_
    refine lv_iload_n hx hb d_Mo_make_106 rfl (lv_at hl 2 rfl) ?_
    refine lv_isub hx hb d_Mo_make_107 ?_
    refine x_topi (y := (nI (V.mn d))) (by rw [pk_sub (Nat.le_add_right _ _), Nat.add_sub_cancel_left]) ?_
    have hP9 : va_P (dC, dI) classes (wMo cI o a (vMake V b d p n (some q) w v)) H := hP
    have hD9 : va_D A (wMo cI o a (vMake V b d p n (some q) w v)) := hD
    exact W.iret (v := (nI (V.mn d))) hx hb hr (fun t ht hW => ⟨⟨(nI (V.mn d)), (), rfl, (by rfl), by rw [ht]; exact hP9, va_K.moved hW.alike hK, hD9⟩, hS.F ht⟩) hS.2.2 d_Mo_make_108
set_option maxHeartbeats 4000000 in
set_option maxRecDepth 100000 in
theorem c_Mo_returned (l : Launch) (dC : Nat → ClassId) (dI : Nat → Nat → Nat) (sz : Nat) (cI : ClassId) (o : Nat) (a : Nat → Nat) (V : MS) (b d x : Nat) (hd : d < 2) (hod : b = 200 * d) (hbx : b + x < 400) (hdy : V.dys d ≤ 1000) : Met l y_Mo_returned (.code y_Mo_returned b_Mo_returned 4 (some .int) :: wG) ({ frames := 0, cells := 0, slots := 0, locals := 0 }) (PcM (dC, dI) [(cI, .int)] (wMo cI o a V) [.ref o, .int (nI b), .int (nI x)] sz) (QmI (dC, dI) [(cI, .int)] (wMo cI o a V) (wMo cI o a (vRet V b d x)) sz (nI (V.tdy d + V.dys d))) 0 0 (va_A (wMo cI o a V) sz) := by
  refine Met.ofW (cc := b_Mo_returned) (maxL := 4) (ret := (some .int)) (by decide) rfl ?_
  intro pg eg s mg ag bg meth cg s₁ B hml hv
  obtain ⟨rfl, hsz, hP, hK, hD0, hN⟩ := hv
  have hx := B.exec
  have hb := B.bytes
  have hr := B.returns
  have hlocks := B.notSynchronized
  have hts : ∀ w9 ∈ wG, w9.before ([.ref o, .int (nI b), .int (nI x)] : List Value).toArray s = true := fun w9 h9 => atoms_spec (ws := (.code y_Mo_returned b_Mo_returned 4 (some .int) :: wG)) B.pre w9 (List.mem_cons_of_mem _ h9)
  have hown : s.vm.findClass "PrefixRegistryModel" = some mg.cls := findClass_of_methodNamed B.named
  subst hsz
  have hD := hD0.self (sz := s.heap.size)
  unfold QmI
  generalize hAe : va_A (wMo cI o a V) s.heap.size = A at hD ⊢
  have hA : ∀ q : Nat, s.heap.size ≤ q → A q := fun q h => by rw [← hAe]; exact Or.inr h
  have hS : va_S A s.heap s.heap [] := va_S.rf
  have hl := lv_entry ([.ref o, .int (nI b), .int (nI x)]) (n := 4) (Nat.le_of_ble_eq_true rfl)
  rw [lg_entry_eq]
  generalize (lg_sl ([.ref o, .int (nI b), .int (nI x)]) ++ List.replicate (4 - (lg_sl ([.ref o, .int (nI b), .int (nI x)])).length) Slot.unset).toArray = ls at hl ⊢
  replace hl : lv_has ls 4 [(0, .ref o), (1, .int (nI b)), (2, .int (nI x))] := hl
  replace hP : va_P (dC, dI) classes (wMo cI o a V) s.heap := hP
  replace hD : va_D A (wMo cI o a V) := hD
  refine lv_iload_n hx hb d_Mo_returned_0 rfl (lv_at hl 1 rfl) ?_
  refine lv_iload_n hx hb d_Mo_returned_1 rfl (lv_at hl 2 rfl) ?_
  refine lv_iadd hx hb d_Mo_returned_2 ?_
  refine x_topi (y := (nI (b + x))) (nI_add _ _) ?_
  refine lv_istore_n hx hb d_Mo_returned_3 rfl hl (by decide) rfl (fun ls hl => ?_)
  replace hl : lv_has ls 4 [(3, .int (nI (b + x))), (0, .ref o), (1, .int (nI b)), (2, .int (nI x))] := hl
  refine lv_aload_n hx hb d_Mo_returned_4 rfl (lv_at hl 1 rfl) ?_
  refine va_get (D := (dC, dI)) (ci := 5) (v := .ref (a 7)) (C := R_Mo) (T := F_Mo) (N := 19) hx hb hts u_Mo hown hK hP 0 rfl rfl 8 (by decide) (hts _ kw_722) (fun _ h9 => h9) rfl d_Mo_returned_5 ?_
  refine lv_iload_n hx hb d_Mo_returned_8 rfl (lv_at hl 0 rfl) ?_
  refine lv_aload_n hx hb d_Mo_returned_9 rfl (lv_at hl 1 rfl) ?_
  refine va_get (D := (dC, dI)) (ci := 5) (v := .ref (a 8)) (C := R_Mo) (T := F_Mo) (N := 19) hx hb hts u_Mo hown hK hP 0 rfl rfl 9 (by decide) (hts _ kw_723) (fun _ h9 => h9) rfl d_Mo_returned_10 ?_
  refine lv_iload_n hx hb d_Mo_returned_13 rfl (lv_at hl 2 rfl) ?_
  refine lv_sipush (v := 200) hx hb d_Mo_returned_14 (by decide) ?_
  refine lv_idiv hx hb d_Mo_returned_17 (by decide) ?_
  refine x_topi (y := (nI d)) (by rw [hod]; exact k_d200 d hd) ?_
  refine x_iald (j := d) (v := (nI (V.tdy d))) hx hb hK hP 9 0 rfl rfl hd (by decide) rfl rfl d_Mo_returned_18 ?_
  refine lv_aload_n hx hb d_Mo_returned_19 rfl (lv_at hl 1 rfl) ?_
  refine va_get (D := (dC, dI)) (ci := 5) (v := .ref (a 9)) (C := R_Mo) (T := F_Mo) (N := 19) hx hb hts u_Mo hown hK hP 0 rfl rfl 10 (by decide) (hts _ kw_724) (fun _ h9 => h9) rfl d_Mo_returned_20 ?_
  refine lv_iload_n hx hb d_Mo_returned_23 rfl (lv_at hl 2 rfl) ?_
  refine lv_sipush (v := 200) hx hb d_Mo_returned_24 (by decide) ?_
  refine lv_idiv hx hb d_Mo_returned_27 (by decide) ?_
  refine x_topi (y := (nI d)) (by rw [hod]; exact k_d200 d hd) ?_
  refine x_iald (j := d) (v := (nI (V.dys d))) hx hb hK hP 10 0 rfl rfl hd (by decide) rfl rfl d_Mo_returned_28 ?_
  refine lv_iadd hx hb d_Mo_returned_29 ?_
  refine x_topi (y := (nI (V.tdy d + V.dys d))) (nI_add _ _) ?_
  refine x_iast (j := (b + x)) (g := (fun z9 => nI (va_up V.en (b + x) (V.tdy d + V.dys d) z9))) hx hb hK hP hD hS 8 0 rfl rfl hbx (by decide) rfl (up_nI _ _ (V.tdy d + V.dys d)) rfl d_Mo_returned_30 (fun H locs hP hD hS => ?_)
  replace hP : va_P (dC, dI) classes [(o, .inr (5, [.int (nI V.tc), .ref (a 0), .ref (a 1), .ref (a 2), .ref (a 3), .ref (a 4), .ref (a 5), .ref (a 6), .ref (a 7), .ref (a 8), .ref (a 9), .ref (a 10), .int (nI V.ne), .ref (a 11), .ref (a 12), .ref (a 13), .ref (a 14), .long V.fo, .int V.fl])), ((a 0), .inl (cI, 2, .inl (fun z9 => nI (V.mn z9)))), ((a 1), .inl (cI, 400, .inl (fun z9 => nI (V.pre z9)))), ((a 2), .inl (cI, 400, .inl (fun z9 => nI (V.len z9)))), ((a 3), .inl (cI, 400, .inl (fun z9 => pI (V.par z9)))), ((a 4), .inl (cI, 400, .inl (fun z9 => nI (V.lev z9)))), ((a 5), .inl (cI, 400, .inl (fun z9 => nI (V.hol z9)))), ((a 6), .inl (cI, 400, .inl (fun z9 => nI (V.sta z9)))), ((a 7), .inl (cI, 400, .inl (fun z9 => nI (va_up V.en (b + x) (V.tdy d + V.dys d) z9)))), ((a 8), .inl (cI, 2, .inl (fun z9 => nI (V.tdy z9)))), ((a 9), .inl (cI, 2, .inl (fun z9 => nI (V.dys z9)))), ((a 10), .inl (cI, 8, .inl (fun z9 => nI (V.pol z9)))), ((a 11), .inl (cI, 300, .inl V.kd)), ((a 12), .inl (cI, 300, .inl V.fi)), ((a 13), .inl (cI, 300, .inl V.se)), ((a 14), .inl (cI, 300, .inl V.th))] H := hP
  replace hD : va_D A [(o, .inr (5, [.int (nI V.tc), .ref (a 0), .ref (a 1), .ref (a 2), .ref (a 3), .ref (a 4), .ref (a 5), .ref (a 6), .ref (a 7), .ref (a 8), .ref (a 9), .ref (a 10), .int (nI V.ne), .ref (a 11), .ref (a 12), .ref (a 13), .ref (a 14), .long V.fo, .int V.fl])), ((a 0), .inl (cI, 2, .inl (fun z9 => nI (V.mn z9)))), ((a 1), .inl (cI, 400, .inl (fun z9 => nI (V.pre z9)))), ((a 2), .inl (cI, 400, .inl (fun z9 => nI (V.len z9)))), ((a 3), .inl (cI, 400, .inl (fun z9 => pI (V.par z9)))), ((a 4), .inl (cI, 400, .inl (fun z9 => nI (V.lev z9)))), ((a 5), .inl (cI, 400, .inl (fun z9 => nI (V.hol z9)))), ((a 6), .inl (cI, 400, .inl (fun z9 => nI (V.sta z9)))), ((a 7), .inl (cI, 400, .inl (fun z9 => nI (va_up V.en (b + x) (V.tdy d + V.dys d) z9)))), ((a 8), .inl (cI, 2, .inl (fun z9 => nI (V.tdy z9)))), ((a 9), .inl (cI, 2, .inl (fun z9 => nI (V.dys z9)))), ((a 10), .inl (cI, 8, .inl (fun z9 => nI (V.pol z9)))), ((a 11), .inl (cI, 300, .inl V.kd)), ((a 12), .inl (cI, 300, .inl V.fi)), ((a 13), .inl (cI, 300, .inl V.se)), ((a 14), .inl (cI, 300, .inl V.th))] := hD
  refine lv_aload_n hx hb d_Mo_returned_31 rfl (lv_at hl 1 rfl) ?_
  refine va_get (D := (dC, dI)) (ci := 5) (v := .ref (a 6)) (C := R_Mo) (T := F_Mo) (N := 19) hx hb hts u_Mo hown hK hP 0 rfl rfl 7 (by decide) (hts _ kw_721) (fun _ h9 => h9) rfl d_Mo_returned_32 ?_
  refine lv_iload_n hx hb d_Mo_returned_35 rfl (lv_at hl 0 rfl) ?_
  refine lv_aload_n hx hb d_Mo_returned_36 rfl (lv_at hl 1 rfl) ?_
  refine va_get (D := (dC, dI)) (ci := 5) (v := .ref (a 9)) (C := R_Mo) (T := F_Mo) (N := 19) hx hb hts u_Mo hown hK hP 0 rfl rfl 10 (by decide) (hts _ kw_724) (fun _ h9 => h9) rfl d_Mo_returned_37 ?_
  refine lv_iload_n hx hb d_Mo_returned_40 rfl (lv_at hl 2 rfl) ?_
  refine lv_sipush (v := 200) hx hb d_Mo_returned_41 (by decide) ?_
  refine lv_idiv hx hb d_Mo_returned_44 (by decide) ?_
  refine x_topi (y := (nI d)) (by rw [hod]; exact k_d200 d hd) ?_
  refine x_iald (j := d) (v := (nI (V.dys d))) hx hb hK hP 10 0 rfl rfl hd (by decide) rfl rfl d_Mo_returned_45 ?_
  refine lv_if_ne hx hb d_Mo_returned_46 rfl (fun h46 => ?_) (fun h46 => ?_)
  · have h46 := mt (k_eq (b := 0) (by omega) (by decide)).mpr h46
    refine lv_iconst (v := 3) hx hb d_Mo_returned_53 (by decide) ?_
    refine x_iast (j := (b + x)) (g := (fun z9 => nI (va_up V.sta (b + x) 3 z9))) hx hb hK hP hD hS 7 0 rfl rfl hbx (by decide) rfl (up_nI _ _ 3) rfl d_Mo_returned_54 (fun H locs hP hD hS => ?_)
    replace hP : va_P (dC, dI) classes [(o, .inr (5, [.int (nI V.tc), .ref (a 0), .ref (a 1), .ref (a 2), .ref (a 3), .ref (a 4), .ref (a 5), .ref (a 6), .ref (a 7), .ref (a 8), .ref (a 9), .ref (a 10), .int (nI V.ne), .ref (a 11), .ref (a 12), .ref (a 13), .ref (a 14), .long V.fo, .int V.fl])), ((a 0), .inl (cI, 2, .inl (fun z9 => nI (V.mn z9)))), ((a 1), .inl (cI, 400, .inl (fun z9 => nI (V.pre z9)))), ((a 2), .inl (cI, 400, .inl (fun z9 => nI (V.len z9)))), ((a 3), .inl (cI, 400, .inl (fun z9 => pI (V.par z9)))), ((a 4), .inl (cI, 400, .inl (fun z9 => nI (V.lev z9)))), ((a 5), .inl (cI, 400, .inl (fun z9 => nI (V.hol z9)))), ((a 6), .inl (cI, 400, .inl (fun z9 => nI (va_up V.sta (b + x) 3 z9)))), ((a 7), .inl (cI, 400, .inl (fun z9 => nI (va_up V.en (b + x) (V.tdy d + V.dys d) z9)))), ((a 8), .inl (cI, 2, .inl (fun z9 => nI (V.tdy z9)))), ((a 9), .inl (cI, 2, .inl (fun z9 => nI (V.dys z9)))), ((a 10), .inl (cI, 8, .inl (fun z9 => nI (V.pol z9)))), ((a 11), .inl (cI, 300, .inl V.kd)), ((a 12), .inl (cI, 300, .inl V.fi)), ((a 13), .inl (cI, 300, .inl V.se)), ((a 14), .inl (cI, 300, .inl V.th))] H := hP
    replace hD : va_D A [(o, .inr (5, [.int (nI V.tc), .ref (a 0), .ref (a 1), .ref (a 2), .ref (a 3), .ref (a 4), .ref (a 5), .ref (a 6), .ref (a 7), .ref (a 8), .ref (a 9), .ref (a 10), .int (nI V.ne), .ref (a 11), .ref (a 12), .ref (a 13), .ref (a 14), .long V.fo, .int V.fl])), ((a 0), .inl (cI, 2, .inl (fun z9 => nI (V.mn z9)))), ((a 1), .inl (cI, 400, .inl (fun z9 => nI (V.pre z9)))), ((a 2), .inl (cI, 400, .inl (fun z9 => nI (V.len z9)))), ((a 3), .inl (cI, 400, .inl (fun z9 => pI (V.par z9)))), ((a 4), .inl (cI, 400, .inl (fun z9 => nI (V.lev z9)))), ((a 5), .inl (cI, 400, .inl (fun z9 => nI (V.hol z9)))), ((a 6), .inl (cI, 400, .inl (fun z9 => nI (va_up V.sta (b + x) 3 z9)))), ((a 7), .inl (cI, 400, .inl (fun z9 => nI (va_up V.en (b + x) (V.tdy d + V.dys d) z9)))), ((a 8), .inl (cI, 2, .inl (fun z9 => nI (V.tdy z9)))), ((a 9), .inl (cI, 2, .inl (fun z9 => nI (V.dys z9)))), ((a 10), .inl (cI, 8, .inl (fun z9 => nI (V.pol z9)))), ((a 11), .inl (cI, 300, .inl V.kd)), ((a 12), .inl (cI, 300, .inl V.fi)), ((a 13), .inl (cI, 300, .inl V.se)), ((a 14), .inl (cI, 300, .inl V.th))] := hD
    refine lv_aload_n hx hb d_Mo_returned_55 rfl (lv_at hl 1 rfl) ?_
    refine va_get (D := (dC, dI)) (ci := 5) (v := .ref (a 7)) (C := R_Mo) (T := F_Mo) (N := 19) hx hb hts u_Mo hown hK hP 0 rfl rfl 8 (by decide) (hts _ kw_722) (fun _ h9 => h9) rfl d_Mo_returned_56 ?_
    refine lv_iload_n hx hb d_Mo_returned_59 rfl (lv_at hl 0 rfl) ?_
    refine x_iald (j := (b + x)) (v := (nI (va_up V.en (b + x) (V.tdy d + V.dys d) (b + x)))) hx hb hK hP 8 0 rfl rfl hbx (by decide) rfl rfl d_Mo_returned_60 ?_
    have e9 : vRet V b d x = vRet1 V b d x 3 := by unfold vRet; rw [if_neg h46]
    have hP9 : va_P (dC, dI) classes (wMo cI o a (vRet V b d x)) H := by rw [e9]; exact hP
    have hD9 : va_D A (wMo cI o a (vRet V b d x)) := by rw [e9]; exact hD
    exact W.iret (v := (nI (va_up V.en (b + x) (V.tdy d + V.dys d) (b + x)))) hx hb hr (fun t ht hW => ⟨⟨(nI (va_up V.en (b + x) (V.tdy d + V.dys d) (b + x))), (), rfl, (by unfold va_up; rw [if_pos rfl]), by rw [ht]; exact hP9, va_K.moved hW.alike hK, hD9⟩, hS.F ht⟩) hS.2.2 d_Mo_returned_61
  have h46 := (k_eq (b := 0) (by omega) (by decide)).mp h46
  refine lv_iconst (v := 4) hx hb d_Mo_returned_49 (by decide) ?_
  refine lv_goto hx hb d_Mo_returned_50 rfl ?_
  refine x_iast (j := (b + x)) (g := (fun z9 => nI (va_up V.sta (b + x) 4 z9))) hx hb hK hP hD hS 7 0 rfl rfl hbx (by decide) rfl (up_nI _ _ 4) rfl d_Mo_returned_54 (fun H locs hP hD hS => ?_)
  replace hP : va_P (dC, dI) classes [(o, .inr (5, [.int (nI V.tc), .ref (a 0), .ref (a 1), .ref (a 2), .ref (a 3), .ref (a 4), .ref (a 5), .ref (a 6), .ref (a 7), .ref (a 8), .ref (a 9), .ref (a 10), .int (nI V.ne), .ref (a 11), .ref (a 12), .ref (a 13), .ref (a 14), .long V.fo, .int V.fl])), ((a 0), .inl (cI, 2, .inl (fun z9 => nI (V.mn z9)))), ((a 1), .inl (cI, 400, .inl (fun z9 => nI (V.pre z9)))), ((a 2), .inl (cI, 400, .inl (fun z9 => nI (V.len z9)))), ((a 3), .inl (cI, 400, .inl (fun z9 => pI (V.par z9)))), ((a 4), .inl (cI, 400, .inl (fun z9 => nI (V.lev z9)))), ((a 5), .inl (cI, 400, .inl (fun z9 => nI (V.hol z9)))), ((a 6), .inl (cI, 400, .inl (fun z9 => nI (va_up V.sta (b + x) 4 z9)))), ((a 7), .inl (cI, 400, .inl (fun z9 => nI (va_up V.en (b + x) (V.tdy d + V.dys d) z9)))), ((a 8), .inl (cI, 2, .inl (fun z9 => nI (V.tdy z9)))), ((a 9), .inl (cI, 2, .inl (fun z9 => nI (V.dys z9)))), ((a 10), .inl (cI, 8, .inl (fun z9 => nI (V.pol z9)))), ((a 11), .inl (cI, 300, .inl V.kd)), ((a 12), .inl (cI, 300, .inl V.fi)), ((a 13), .inl (cI, 300, .inl V.se)), ((a 14), .inl (cI, 300, .inl V.th))] H := hP
  replace hD : va_D A [(o, .inr (5, [.int (nI V.tc), .ref (a 0), .ref (a 1), .ref (a 2), .ref (a 3), .ref (a 4), .ref (a 5), .ref (a 6), .ref (a 7), .ref (a 8), .ref (a 9), .ref (a 10), .int (nI V.ne), .ref (a 11), .ref (a 12), .ref (a 13), .ref (a 14), .long V.fo, .int V.fl])), ((a 0), .inl (cI, 2, .inl (fun z9 => nI (V.mn z9)))), ((a 1), .inl (cI, 400, .inl (fun z9 => nI (V.pre z9)))), ((a 2), .inl (cI, 400, .inl (fun z9 => nI (V.len z9)))), ((a 3), .inl (cI, 400, .inl (fun z9 => pI (V.par z9)))), ((a 4), .inl (cI, 400, .inl (fun z9 => nI (V.lev z9)))), ((a 5), .inl (cI, 400, .inl (fun z9 => nI (V.hol z9)))), ((a 6), .inl (cI, 400, .inl (fun z9 => nI (va_up V.sta (b + x) 4 z9)))), ((a 7), .inl (cI, 400, .inl (fun z9 => nI (va_up V.en (b + x) (V.tdy d + V.dys d) z9)))), ((a 8), .inl (cI, 2, .inl (fun z9 => nI (V.tdy z9)))), ((a 9), .inl (cI, 2, .inl (fun z9 => nI (V.dys z9)))), ((a 10), .inl (cI, 8, .inl (fun z9 => nI (V.pol z9)))), ((a 11), .inl (cI, 300, .inl V.kd)), ((a 12), .inl (cI, 300, .inl V.fi)), ((a 13), .inl (cI, 300, .inl V.se)), ((a 14), .inl (cI, 300, .inl V.th))] := hD
  refine lv_aload_n hx hb d_Mo_returned_55 rfl (lv_at hl 1 rfl) ?_
  refine va_get (D := (dC, dI)) (ci := 5) (v := .ref (a 7)) (C := R_Mo) (T := F_Mo) (N := 19) hx hb hts u_Mo hown hK hP 0 rfl rfl 8 (by decide) (hts _ kw_722) (fun _ h9 => h9) rfl d_Mo_returned_56 ?_
  refine lv_iload_n hx hb d_Mo_returned_59 rfl (lv_at hl 0 rfl) ?_
  refine x_iald (j := (b + x)) (v := (nI (va_up V.en (b + x) (V.tdy d + V.dys d) (b + x)))) hx hb hK hP 8 0 rfl rfl hbx (by decide) rfl rfl d_Mo_returned_60 ?_
  have e9 : vRet V b d x = vRet1 V b d x 4 := by unfold vRet; rw [if_pos h46]
  have hP9 : va_P (dC, dI) classes (wMo cI o a (vRet V b d x)) H := by rw [e9]; exact hP
  have hD9 : va_D A (wMo cI o a (vRet V b d x)) := by rw [e9]; exact hD
  exact W.iret (v := (nI (va_up V.en (b + x) (V.tdy d + V.dys d) (b + x)))) hx hb hr (fun t ht hW => ⟨⟨(nI (va_up V.en (b + x) (V.tdy d + V.dys d) (b + x))), (), rfl, (by unfold va_up; rw [if_pos rfl]), by rw [ht]; exact hP9, va_K.moved hW.alike hK, hD9⟩, hS.F ht⟩) hS.2.2 d_Mo_returned_61
set_option maxHeartbeats 4000000 in
set_option maxRecDepth 100000 in
theorem c_Mo_grown (l : Launch) (dC : Nat → ClassId) (dI : Nat → Nat → Nat) (sz : Nat) (cI : ClassId) (o : Nat) (a : Nat → Nat) (V : MS) (r : Nat) (hr0 : r < 400) (h1 : 1 ≤ V.len r) (h33 : V.len r < 33) : Met l y_Mo_grown (.code y_Mo_grown b_Mo_grown 2 (some .int) :: wG) ({ frames := 1, cells := 0, slots := 0, locals := 20 }) (PcM (dC, dI) [(cI, .int)] (wMo cI o a V) [.ref o, .int (nI r)] sz) (QmI (dC, dI) [(cI, .int)] (wMo cI o a V) (wMo cI o a (vGro V r)) sz (nI (V.len r - 1))) 0 0 (va_A (wMo cI o a V) sz) := by
  refine Met.ofW (cc := b_Mo_grown) (maxL := 2) (ret := (some .int)) (by decide) rfl ?_
  intro pg eg s mg ag bg meth cg s₁ B hml hv
  obtain ⟨rfl, hsz, hP, hK, hD0, hN⟩ := hv
  have hx := B.exec
  have hb := B.bytes
  have hr := B.returns
  have hlocks := B.notSynchronized
  have hts : ∀ w9 ∈ wG, w9.before ([.ref o, .int (nI r)] : List Value).toArray s = true := fun w9 h9 => atoms_spec (ws := (.code y_Mo_grown b_Mo_grown 2 (some .int) :: wG)) B.pre w9 (List.mem_cons_of_mem _ h9)
  have hown : s.vm.findClass "PrefixRegistryModel" = some mg.cls := findClass_of_methodNamed B.named
  subst hsz
  have hD := hD0.self (sz := s.heap.size)
  unfold QmI
  generalize hAe : va_A (wMo cI o a V) s.heap.size = A at hD ⊢
  have hA : ∀ q : Nat, s.heap.size ≤ q → A q := fun q h => by rw [← hAe]; exact Or.inr h
  have hS : va_S A s.heap s.heap [] := va_S.rf
  have hl := lv_entry ([.ref o, .int (nI r)]) (n := 2) (Nat.le_of_ble_eq_true rfl)
  rw [lg_entry_eq]
  generalize (lg_sl ([.ref o, .int (nI r)]) ++ List.replicate (2 - (lg_sl ([.ref o, .int (nI r)])).length) Slot.unset).toArray = ls at hl ⊢
  replace hl : lv_has ls 2 [(0, .ref o), (1, .int (nI r))] := hl
  replace hP : va_P (dC, dI) classes (wMo cI o a V) s.heap := hP
  replace hD : va_D A (wMo cI o a V) := hD
  refine lv_aload_n hx hb d_Mo_grown_0 rfl (lv_at hl 0 rfl) ?_
  refine va_get (D := (dC, dI)) (ci := 5) (v := .ref (a 2)) (C := R_Mo) (T := F_Mo) (N := 19) hx hb hts u_Mo hown hK hP 0 rfl rfl 3 (by decide) (hts _ kw_717) (fun _ h9 => h9) rfl d_Mo_grown_1 ?_
  refine lv_iload_n hx hb d_Mo_grown_4 rfl (lv_at hl 1 rfl) ?_
  refine lv_dup2_11 hx hb d_Mo_grown_5 rfl rfl ?_
  refine x_iald (j := r) (v := (nI (V.len r))) hx hb hK hP 3 0 rfl rfl hr0 (by decide) rfl rfl d_Mo_grown_6 ?_
  refine lv_iconst (v := 1) hx hb d_Mo_grown_7 (by decide) ?_
  refine lv_isub hx hb d_Mo_grown_8 ?_
  refine x_topi (y := (nI (V.len r - 1))) (pk_sub (b := 1) h1) ?_
  refine x_iast (j := r) (g := (fun z9 => nI (va_up V.len r (V.len r - 1) z9))) hx hb hK hP hD hS 3 0 rfl rfl hr0 (by decide) rfl (up_nI _ _ (V.len r - 1)) rfl d_Mo_grown_9 (fun H locs hP hD hS => ?_)
  replace hP : va_P (dC, dI) classes [(o, .inr (5, [.int (nI V.tc), .ref (a 0), .ref (a 1), .ref (a 2), .ref (a 3), .ref (a 4), .ref (a 5), .ref (a 6), .ref (a 7), .ref (a 8), .ref (a 9), .ref (a 10), .int (nI V.ne), .ref (a 11), .ref (a 12), .ref (a 13), .ref (a 14), .long V.fo, .int V.fl])), ((a 0), .inl (cI, 2, .inl (fun z9 => nI (V.mn z9)))), ((a 1), .inl (cI, 400, .inl (fun z9 => nI (V.pre z9)))), ((a 2), .inl (cI, 400, .inl (fun z9 => nI (va_up V.len r (V.len r - 1) z9)))), ((a 3), .inl (cI, 400, .inl (fun z9 => pI (V.par z9)))), ((a 4), .inl (cI, 400, .inl (fun z9 => nI (V.lev z9)))), ((a 5), .inl (cI, 400, .inl (fun z9 => nI (V.hol z9)))), ((a 6), .inl (cI, 400, .inl (fun z9 => nI (V.sta z9)))), ((a 7), .inl (cI, 400, .inl (fun z9 => nI (V.en z9)))), ((a 8), .inl (cI, 2, .inl (fun z9 => nI (V.tdy z9)))), ((a 9), .inl (cI, 2, .inl (fun z9 => nI (V.dys z9)))), ((a 10), .inl (cI, 8, .inl (fun z9 => nI (V.pol z9)))), ((a 11), .inl (cI, 300, .inl V.kd)), ((a 12), .inl (cI, 300, .inl V.fi)), ((a 13), .inl (cI, 300, .inl V.se)), ((a 14), .inl (cI, 300, .inl V.th))] H := hP
  replace hD : va_D A [(o, .inr (5, [.int (nI V.tc), .ref (a 0), .ref (a 1), .ref (a 2), .ref (a 3), .ref (a 4), .ref (a 5), .ref (a 6), .ref (a 7), .ref (a 8), .ref (a 9), .ref (a 10), .int (nI V.ne), .ref (a 11), .ref (a 12), .ref (a 13), .ref (a 14), .long V.fo, .int V.fl])), ((a 0), .inl (cI, 2, .inl (fun z9 => nI (V.mn z9)))), ((a 1), .inl (cI, 400, .inl (fun z9 => nI (V.pre z9)))), ((a 2), .inl (cI, 400, .inl (fun z9 => nI (va_up V.len r (V.len r - 1) z9)))), ((a 3), .inl (cI, 400, .inl (fun z9 => pI (V.par z9)))), ((a 4), .inl (cI, 400, .inl (fun z9 => nI (V.lev z9)))), ((a 5), .inl (cI, 400, .inl (fun z9 => nI (V.hol z9)))), ((a 6), .inl (cI, 400, .inl (fun z9 => nI (V.sta z9)))), ((a 7), .inl (cI, 400, .inl (fun z9 => nI (V.en z9)))), ((a 8), .inl (cI, 2, .inl (fun z9 => nI (V.tdy z9)))), ((a 9), .inl (cI, 2, .inl (fun z9 => nI (V.dys z9)))), ((a 10), .inl (cI, 8, .inl (fun z9 => nI (V.pol z9)))), ((a 11), .inl (cI, 300, .inl V.kd)), ((a 12), .inl (cI, 300, .inl V.fi)), ((a 13), .inl (cI, 300, .inl V.se)), ((a 14), .inl (cI, 300, .inl V.th))] := hD
  refine lv_aload_n hx hb d_Mo_grown_10 rfl (lv_at hl 0 rfl) ?_
  refine va_get (D := (dC, dI)) (ci := 5) (v := .ref (a 1)) (C := R_Mo) (T := F_Mo) (N := 19) hx hb hts u_Mo hown hK hP 0 rfl rfl 2 (by decide) (hts _ kw_716) (fun _ h9 => h9) rfl d_Mo_grown_11 ?_
  refine lv_iload_n hx hb d_Mo_grown_14 rfl (lv_at hl 1 rfl) ?_
  refine lv_aload_n hx hb d_Mo_grown_15 rfl (lv_at hl 0 rfl) ?_
  refine va_get (D := (dC, dI)) (ci := 5) (v := .ref (a 1)) (C := R_Mo) (T := F_Mo) (N := 19) hx hb hts u_Mo hown hK hP 0 rfl rfl 2 (by decide) (hts _ kw_716) (fun _ h9 => h9) rfl d_Mo_grown_16 ?_
  refine lv_iload_n hx hb d_Mo_grown_19 rfl (lv_at hl 1 rfl) ?_
  refine x_iald (j := r) (v := (nI (V.pre r))) hx hb hK hP 2 0 rfl rfl hr0 (by decide) rfl rfl d_Mo_grown_20 ?_
  refine lv_aload_n hx hb d_Mo_grown_21 rfl (lv_at hl 0 rfl) ?_
  refine va_get (D := (dC, dI)) (ci := 5) (v := .ref (a 2)) (C := R_Mo) (T := F_Mo) (N := 19) hx hb hts u_Mo hown hK hP 0 rfl rfl 3 (by decide) (hts _ kw_717) (fun _ h9 => h9) rfl d_Mo_grown_22 ?_
  refine lv_iload_n hx hb d_Mo_grown_25 rfl (lv_at hl 1 rfl) ?_
  refine x_iald (j := r) (v := (nI (va_up V.len r (V.len r - 1) r))) hx hb hK hP 3 0 rfl rfl hr0 (by decide) rfl rfl d_Mo_grown_26 ?_
  refine x_topi (y := (nI (V.len r - 1))) (by unfold va_up; rw [if_pos rfl]) ?_
  refine vp_callSi (W.runS (As := [.int (nI (V.len r - 1))]) (rest := [.int (nI (V.pre r)), .int (nI r), .ref (a 1)]) ⟨hx, hb, hml, hown, hts⟩ (c_Mo_mask l dC dI (V.len r - 1) (by omega)) (cwS 1 hts (gS kw_787 kw_788 kw_6 kw_789) rfl rfl rfl (by decide +kernel) ⟨Nat.le_of_ble_eq_true rfl, Nat.le_of_ble_eq_true rfl⟩) ⟨PcS.blind, PcS.use hP hK hN⟩ rfl rfl hl.1 rfl (lv_room (Nat.le_of_ble_eq_true rfl)) d_Mo_grown_27 ⟨Nat.zero_le _, Nat.zero_le _⟩) (fun r27 hr27 => ?_)
  obtain rfl : r27 = (nI (mskN (V.len r - 1))) := hr27
  refine lv_iand hx hb d_Mo_grown_30 ?_
  refine x_topi (y := (nI (V.pre r &&& mskN (V.len r - 1)))) (nx_and _ _) ?_
  refine x_iast (j := r) (g := (fun z9 => nI (va_up V.pre r (V.pre r &&& mskN (V.len r - 1)) z9))) hx hb hK hP hD hS 2 0 rfl rfl hr0 (by decide) rfl (up_nI _ _ (V.pre r &&& mskN (V.len r - 1))) rfl d_Mo_grown_31 (fun H locs hP hD hS => ?_)
  replace hP : va_P (dC, dI) classes [(o, .inr (5, [.int (nI V.tc), .ref (a 0), .ref (a 1), .ref (a 2), .ref (a 3), .ref (a 4), .ref (a 5), .ref (a 6), .ref (a 7), .ref (a 8), .ref (a 9), .ref (a 10), .int (nI V.ne), .ref (a 11), .ref (a 12), .ref (a 13), .ref (a 14), .long V.fo, .int V.fl])), ((a 0), .inl (cI, 2, .inl (fun z9 => nI (V.mn z9)))), ((a 1), .inl (cI, 400, .inl (fun z9 => nI (va_up V.pre r (V.pre r &&& mskN (V.len r - 1)) z9)))), ((a 2), .inl (cI, 400, .inl (fun z9 => nI (va_up V.len r (V.len r - 1) z9)))), ((a 3), .inl (cI, 400, .inl (fun z9 => pI (V.par z9)))), ((a 4), .inl (cI, 400, .inl (fun z9 => nI (V.lev z9)))), ((a 5), .inl (cI, 400, .inl (fun z9 => nI (V.hol z9)))), ((a 6), .inl (cI, 400, .inl (fun z9 => nI (V.sta z9)))), ((a 7), .inl (cI, 400, .inl (fun z9 => nI (V.en z9)))), ((a 8), .inl (cI, 2, .inl (fun z9 => nI (V.tdy z9)))), ((a 9), .inl (cI, 2, .inl (fun z9 => nI (V.dys z9)))), ((a 10), .inl (cI, 8, .inl (fun z9 => nI (V.pol z9)))), ((a 11), .inl (cI, 300, .inl V.kd)), ((a 12), .inl (cI, 300, .inl V.fi)), ((a 13), .inl (cI, 300, .inl V.se)), ((a 14), .inl (cI, 300, .inl V.th))] H := hP
  replace hD : va_D A [(o, .inr (5, [.int (nI V.tc), .ref (a 0), .ref (a 1), .ref (a 2), .ref (a 3), .ref (a 4), .ref (a 5), .ref (a 6), .ref (a 7), .ref (a 8), .ref (a 9), .ref (a 10), .int (nI V.ne), .ref (a 11), .ref (a 12), .ref (a 13), .ref (a 14), .long V.fo, .int V.fl])), ((a 0), .inl (cI, 2, .inl (fun z9 => nI (V.mn z9)))), ((a 1), .inl (cI, 400, .inl (fun z9 => nI (va_up V.pre r (V.pre r &&& mskN (V.len r - 1)) z9)))), ((a 2), .inl (cI, 400, .inl (fun z9 => nI (va_up V.len r (V.len r - 1) z9)))), ((a 3), .inl (cI, 400, .inl (fun z9 => pI (V.par z9)))), ((a 4), .inl (cI, 400, .inl (fun z9 => nI (V.lev z9)))), ((a 5), .inl (cI, 400, .inl (fun z9 => nI (V.hol z9)))), ((a 6), .inl (cI, 400, .inl (fun z9 => nI (V.sta z9)))), ((a 7), .inl (cI, 400, .inl (fun z9 => nI (V.en z9)))), ((a 8), .inl (cI, 2, .inl (fun z9 => nI (V.tdy z9)))), ((a 9), .inl (cI, 2, .inl (fun z9 => nI (V.dys z9)))), ((a 10), .inl (cI, 8, .inl (fun z9 => nI (V.pol z9)))), ((a 11), .inl (cI, 300, .inl V.kd)), ((a 12), .inl (cI, 300, .inl V.fi)), ((a 13), .inl (cI, 300, .inl V.se)), ((a 14), .inl (cI, 300, .inl V.th))] := hD
  refine lv_aload_n hx hb d_Mo_grown_32 rfl (lv_at hl 0 rfl) ?_
  refine va_get (D := (dC, dI)) (ci := 5) (v := .ref (a 2)) (C := R_Mo) (T := F_Mo) (N := 19) hx hb hts u_Mo hown hK hP 0 rfl rfl 3 (by decide) (hts _ kw_717) (fun _ h9 => h9) rfl d_Mo_grown_33 ?_
  refine lv_iload_n hx hb d_Mo_grown_36 rfl (lv_at hl 1 rfl) ?_
  refine x_iald (j := r) (v := (nI (va_up V.len r (V.len r - 1) r))) hx hb hK hP 3 0 rfl rfl hr0 (by decide) rfl rfl d_Mo_grown_37 ?_
  have hP9 : va_P (dC, dI) classes (wMo cI o a (vGro V r)) H := hP
  have hD9 : va_D A (wMo cI o a (vGro V r)) := hD
  exact W.iret (v := (nI (va_up V.len r (V.len r - 1) r))) hx hb hr (fun t ht hW => ⟨⟨(nI (va_up V.len r (V.len r - 1) r)), (), rfl, (by unfold va_up; rw [if_pos rfl]), by rw [ht]; exact hP9, va_K.moved hW.alike hK, hD9⟩, hS.F ht⟩) hS.2.2 d_Mo_grown_38
set_option maxHeartbeats 4000000 in
set_option maxRecDepth 100000 in
theorem c_Mo_shrunk (l : Launch) (dC : Nat → ClassId) (dI : Nat → Nat → Nat) (sz : Nat) (cI : ClassId) (o : Nat) (a : Nat → Nat) (V : MS) (r : Nat) (hr0 : r < 400) (h32 : V.len r < 32) (u : Bool) : Met l y_Mo_shrunk (.code y_Mo_shrunk b_Mo_shrunk 3 (some .int) :: wG) ({ frames := 0, cells := 0, slots := 0, locals := 0 }) (PcM (dC, dI) [(cI, .int)] (wMo cI o a V) [.ref o, .int (nI r), .int (bi u)] sz) (QmI (dC, dI) [(cI, .int)] (wMo cI o a V) (wMo cI o a (vShr V r u)) sz (nI (V.len r + 1))) 0 0 (va_A (wMo cI o a V) sz) := by
  refine Met.ofW (cc := b_Mo_shrunk) (maxL := 3) (ret := (some .int)) (by decide) rfl ?_
  intro pg eg s mg ag bg meth cg s₁ B hml hv
  obtain ⟨rfl, hsz, hP, hK, hD0, hN⟩ := hv
  have hx := B.exec
  have hb := B.bytes
  have hr := B.returns
  have hlocks := B.notSynchronized
  have hts : ∀ w9 ∈ wG, w9.before ([.ref o, .int (nI r), .int (bi u)] : List Value).toArray s = true := fun w9 h9 => atoms_spec (ws := (.code y_Mo_shrunk b_Mo_shrunk 3 (some .int) :: wG)) B.pre w9 (List.mem_cons_of_mem _ h9)
  have hown : s.vm.findClass "PrefixRegistryModel" = some mg.cls := findClass_of_methodNamed B.named
  subst hsz
  have hD := hD0.self (sz := s.heap.size)
  unfold QmI
  generalize hAe : va_A (wMo cI o a V) s.heap.size = A at hD ⊢
  have hA : ∀ q : Nat, s.heap.size ≤ q → A q := fun q h => by rw [← hAe]; exact Or.inr h
  have hS : va_S A s.heap s.heap [] := va_S.rf
  have hl := lv_entry ([.ref o, .int (nI r), .int (bi u)]) (n := 3) (Nat.le_of_ble_eq_true rfl)
  rw [lg_entry_eq]
  generalize (lg_sl ([.ref o, .int (nI r), .int (bi u)]) ++ List.replicate (3 - (lg_sl ([.ref o, .int (nI r), .int (bi u)])).length) Slot.unset).toArray = ls at hl ⊢
  replace hl : lv_has ls 3 [(0, .ref o), (1, .int (nI r)), (2, .int (bi u))] := hl
  replace hP : va_P (dC, dI) classes (wMo cI o a V) s.heap := hP
  replace hD : va_D A (wMo cI o a V) := hD
  refine lv_aload_n hx hb d_Mo_shrunk_0 rfl (lv_at hl 0 rfl) ?_
  refine va_get (D := (dC, dI)) (ci := 5) (v := .ref (a 2)) (C := R_Mo) (T := F_Mo) (N := 19) hx hb hts u_Mo hown hK hP 0 rfl rfl 3 (by decide) (hts _ kw_717) (fun _ h9 => h9) rfl d_Mo_shrunk_1 ?_
  refine lv_iload_n hx hb d_Mo_shrunk_4 rfl (lv_at hl 1 rfl) ?_
  refine lv_dup2_11 hx hb d_Mo_shrunk_5 rfl rfl ?_
  refine x_iald (j := r) (v := (nI (V.len r))) hx hb hK hP 3 0 rfl rfl hr0 (by decide) rfl rfl d_Mo_shrunk_6 ?_
  refine lv_iconst (v := 1) hx hb d_Mo_shrunk_7 (by decide) ?_
  refine lv_iadd hx hb d_Mo_shrunk_8 ?_
  refine x_topi (y := (nI (V.len r + 1))) (nI_1 _) ?_
  refine x_iast (j := r) (g := (fun z9 => nI (va_up V.len r (V.len r + 1) z9))) hx hb hK hP hD hS 3 0 rfl rfl hr0 (by decide) rfl (up_nI _ _ (V.len r + 1)) rfl d_Mo_shrunk_9 (fun H locs hP hD hS => ?_)
  replace hP : va_P (dC, dI) classes [(o, .inr (5, [.int (nI V.tc), .ref (a 0), .ref (a 1), .ref (a 2), .ref (a 3), .ref (a 4), .ref (a 5), .ref (a 6), .ref (a 7), .ref (a 8), .ref (a 9), .ref (a 10), .int (nI V.ne), .ref (a 11), .ref (a 12), .ref (a 13), .ref (a 14), .long V.fo, .int V.fl])), ((a 0), .inl (cI, 2, .inl (fun z9 => nI (V.mn z9)))), ((a 1), .inl (cI, 400, .inl (fun z9 => nI (V.pre z9)))), ((a 2), .inl (cI, 400, .inl (fun z9 => nI (va_up V.len r (V.len r + 1) z9)))), ((a 3), .inl (cI, 400, .inl (fun z9 => pI (V.par z9)))), ((a 4), .inl (cI, 400, .inl (fun z9 => nI (V.lev z9)))), ((a 5), .inl (cI, 400, .inl (fun z9 => nI (V.hol z9)))), ((a 6), .inl (cI, 400, .inl (fun z9 => nI (V.sta z9)))), ((a 7), .inl (cI, 400, .inl (fun z9 => nI (V.en z9)))), ((a 8), .inl (cI, 2, .inl (fun z9 => nI (V.tdy z9)))), ((a 9), .inl (cI, 2, .inl (fun z9 => nI (V.dys z9)))), ((a 10), .inl (cI, 8, .inl (fun z9 => nI (V.pol z9)))), ((a 11), .inl (cI, 300, .inl V.kd)), ((a 12), .inl (cI, 300, .inl V.fi)), ((a 13), .inl (cI, 300, .inl V.se)), ((a 14), .inl (cI, 300, .inl V.th))] H := hP
  replace hD : va_D A [(o, .inr (5, [.int (nI V.tc), .ref (a 0), .ref (a 1), .ref (a 2), .ref (a 3), .ref (a 4), .ref (a 5), .ref (a 6), .ref (a 7), .ref (a 8), .ref (a 9), .ref (a 10), .int (nI V.ne), .ref (a 11), .ref (a 12), .ref (a 13), .ref (a 14), .long V.fo, .int V.fl])), ((a 0), .inl (cI, 2, .inl (fun z9 => nI (V.mn z9)))), ((a 1), .inl (cI, 400, .inl (fun z9 => nI (V.pre z9)))), ((a 2), .inl (cI, 400, .inl (fun z9 => nI (va_up V.len r (V.len r + 1) z9)))), ((a 3), .inl (cI, 400, .inl (fun z9 => pI (V.par z9)))), ((a 4), .inl (cI, 400, .inl (fun z9 => nI (V.lev z9)))), ((a 5), .inl (cI, 400, .inl (fun z9 => nI (V.hol z9)))), ((a 6), .inl (cI, 400, .inl (fun z9 => nI (V.sta z9)))), ((a 7), .inl (cI, 400, .inl (fun z9 => nI (V.en z9)))), ((a 8), .inl (cI, 2, .inl (fun z9 => nI (V.tdy z9)))), ((a 9), .inl (cI, 2, .inl (fun z9 => nI (V.dys z9)))), ((a 10), .inl (cI, 8, .inl (fun z9 => nI (V.pol z9)))), ((a 11), .inl (cI, 300, .inl V.kd)), ((a 12), .inl (cI, 300, .inl V.fi)), ((a 13), .inl (cI, 300, .inl V.se)), ((a 14), .inl (cI, 300, .inl V.th))] := hD
  refine lv_aload_n hx hb d_Mo_shrunk_10 rfl (lv_at hl 0 rfl) ?_
  refine va_get (D := (dC, dI)) (ci := 5) (v := .ref (a 1)) (C := R_Mo) (T := F_Mo) (N := 19) hx hb hts u_Mo hown hK hP 0 rfl rfl 2 (by decide) (hts _ kw_716) (fun _ h9 => h9) rfl d_Mo_shrunk_11 ?_
  refine lv_iload_n hx hb d_Mo_shrunk_14 rfl (lv_at hl 1 rfl) ?_
  refine lv_iload_n hx hb d_Mo_shrunk_15 rfl (lv_at hl 2 rfl) ?_
  refine lv_if_eq hx hb d_Mo_shrunk_16 rfl (fun h16 => ?_) (fun h16 => ?_)
  · have h16 : u = false := bi_eq0.mp h16
    refine lv_aload_n hx hb d_Mo_shrunk_40 rfl (lv_at hl 0 rfl) ?_
    refine va_get (D := (dC, dI)) (ci := 5) (v := .ref (a 1)) (C := R_Mo) (T := F_Mo) (N := 19) hx hb hts u_Mo hown hK hP 0 rfl rfl 2 (by decide) (hts _ kw_716) (fun _ h9 => h9) rfl d_Mo_shrunk_41 ?_
    refine lv_iload_n hx hb d_Mo_shrunk_44 rfl (lv_at hl 1 rfl) ?_
    refine x_iald (j := r) (v := (nI (V.pre r))) hx hb hK hP 2 0 rfl rfl hr0 (by decide) rfl rfl d_Mo_shrunk_45 ?_
    refine x_iast (j := r) (g := (fun z9 => nI (va_up V.pre r (V.pre r) z9))) hx hb hK hP hD hS 2 0 rfl rfl hr0 (by decide) rfl (up_nI _ _ (V.pre r)) rfl d_Mo_shrunk_46 (fun H locs hP hD hS => ?_)
    replace hP : va_P (dC, dI) classes [(o, .inr (5, [.int (nI V.tc), .ref (a 0), .ref (a 1), .ref (a 2), .ref (a 3), .ref (a 4), .ref (a 5), .ref (a 6), .ref (a 7), .ref (a 8), .ref (a 9), .ref (a 10), .int (nI V.ne), .ref (a 11), .ref (a 12), .ref (a 13), .ref (a 14), .long V.fo, .int V.fl])), ((a 0), .inl (cI, 2, .inl (fun z9 => nI (V.mn z9)))), ((a 1), .inl (cI, 400, .inl (fun z9 => nI (va_up V.pre r (V.pre r) z9)))), ((a 2), .inl (cI, 400, .inl (fun z9 => nI (va_up V.len r (V.len r + 1) z9)))), ((a 3), .inl (cI, 400, .inl (fun z9 => pI (V.par z9)))), ((a 4), .inl (cI, 400, .inl (fun z9 => nI (V.lev z9)))), ((a 5), .inl (cI, 400, .inl (fun z9 => nI (V.hol z9)))), ((a 6), .inl (cI, 400, .inl (fun z9 => nI (V.sta z9)))), ((a 7), .inl (cI, 400, .inl (fun z9 => nI (V.en z9)))), ((a 8), .inl (cI, 2, .inl (fun z9 => nI (V.tdy z9)))), ((a 9), .inl (cI, 2, .inl (fun z9 => nI (V.dys z9)))), ((a 10), .inl (cI, 8, .inl (fun z9 => nI (V.pol z9)))), ((a 11), .inl (cI, 300, .inl V.kd)), ((a 12), .inl (cI, 300, .inl V.fi)), ((a 13), .inl (cI, 300, .inl V.se)), ((a 14), .inl (cI, 300, .inl V.th))] H := hP
    replace hD : va_D A [(o, .inr (5, [.int (nI V.tc), .ref (a 0), .ref (a 1), .ref (a 2), .ref (a 3), .ref (a 4), .ref (a 5), .ref (a 6), .ref (a 7), .ref (a 8), .ref (a 9), .ref (a 10), .int (nI V.ne), .ref (a 11), .ref (a 12), .ref (a 13), .ref (a 14), .long V.fo, .int V.fl])), ((a 0), .inl (cI, 2, .inl (fun z9 => nI (V.mn z9)))), ((a 1), .inl (cI, 400, .inl (fun z9 => nI (va_up V.pre r (V.pre r) z9)))), ((a 2), .inl (cI, 400, .inl (fun z9 => nI (va_up V.len r (V.len r + 1) z9)))), ((a 3), .inl (cI, 400, .inl (fun z9 => pI (V.par z9)))), ((a 4), .inl (cI, 400, .inl (fun z9 => nI (V.lev z9)))), ((a 5), .inl (cI, 400, .inl (fun z9 => nI (V.hol z9)))), ((a 6), .inl (cI, 400, .inl (fun z9 => nI (V.sta z9)))), ((a 7), .inl (cI, 400, .inl (fun z9 => nI (V.en z9)))), ((a 8), .inl (cI, 2, .inl (fun z9 => nI (V.tdy z9)))), ((a 9), .inl (cI, 2, .inl (fun z9 => nI (V.dys z9)))), ((a 10), .inl (cI, 8, .inl (fun z9 => nI (V.pol z9)))), ((a 11), .inl (cI, 300, .inl V.kd)), ((a 12), .inl (cI, 300, .inl V.fi)), ((a 13), .inl (cI, 300, .inl V.se)), ((a 14), .inl (cI, 300, .inl V.th))] := hD
    refine lv_aload_n hx hb d_Mo_shrunk_47 rfl (lv_at hl 0 rfl) ?_
    refine va_get (D := (dC, dI)) (ci := 5) (v := .ref (a 2)) (C := R_Mo) (T := F_Mo) (N := 19) hx hb hts u_Mo hown hK hP 0 rfl rfl 3 (by decide) (hts _ kw_717) (fun _ h9 => h9) rfl d_Mo_shrunk_48 ?_
    refine lv_iload_n hx hb d_Mo_shrunk_51 rfl (lv_at hl 1 rfl) ?_
    refine x_iald (j := r) (v := (nI (va_up V.len r (V.len r + 1) r))) hx hb hK hP 3 0 rfl rfl hr0 (by decide) rfl rfl d_Mo_shrunk_52 ?_
    have e9 : vShr V r u = vShr1 V r (V.pre r) := by unfold vShr; rw [h16]
    have hP9 : va_P (dC, dI) classes (wMo cI o a (vShr V r u)) H := by rw [e9]; exact hP
    have hD9 : va_D A (wMo cI o a (vShr V r u)) := by rw [e9]; exact hD
    exact W.iret (v := (nI (va_up V.len r (V.len r + 1) r))) hx hb hr (fun t ht hW => ⟨⟨(nI (va_up V.len r (V.len r + 1) r)), (), rfl, (by unfold va_up; rw [if_pos rfl]), by rw [ht]; exact hP9, va_K.moved hW.alike hK, hD9⟩, hS.F ht⟩) hS.2.2 d_Mo_shrunk_53
  have h16 : u = true := bi_n0 h16
  refine lv_aload_n hx hb d_Mo_shrunk_19 rfl (lv_at hl 0 rfl) ?_
  refine va_get (D := (dC, dI)) (ci := 5) (v := .ref (a 1)) (C := R_Mo) (T := F_Mo) (N := 19) hx hb hts u_Mo hown hK hP 0 rfl rfl 2 (by decide) (hts _ kw_716) (fun _ h9 => h9) rfl d_Mo_shrunk_20 ?_
  refine lv_iload_n hx hb d_Mo_shrunk_23 rfl (lv_at hl 1 rfl) ?_
  refine x_iald (j := r) (v := (nI (V.pre r))) hx hb hK hP 2 0 rfl rfl hr0 (by decide) rfl rfl d_Mo_shrunk_24 ?_
  refine lv_iconst (v := 1) hx hb d_Mo_shrunk_25 (by decide) ?_
  refine lv_bipush (v := 32) hx hb d_Mo_shrunk_26 (by decide) ?_
  refine lv_aload_n hx hb d_Mo_shrunk_28 rfl (lv_at hl 0 rfl) ?_
  refine va_get (D := (dC, dI)) (ci := 5) (v := .ref (a 2)) (C := R_Mo) (T := F_Mo) (N := 19) hx hb hts u_Mo hown hK hP 0 rfl rfl 3 (by decide) (hts _ kw_717) (fun _ h9 => h9) rfl d_Mo_shrunk_29 ?_
  refine lv_iload_n hx hb d_Mo_shrunk_32 rfl (lv_at hl 1 rfl) ?_
  refine x_iald (j := r) (v := (nI (va_up V.len r (V.len r + 1) r))) hx hb hK hP 3 0 rfl rfl hr0 (by decide) rfl rfl d_Mo_shrunk_33 ?_
  refine x_topi (y := (nI (V.len r + 1))) (by unfold va_up; rw [if_pos rfl]) ?_
  refine lv_isub hx hb d_Mo_shrunk_34 ?_
  refine lv_ishl hx hb d_Mo_shrunk_35 ?_
  refine x_topi (y := (nI (2 ^ (32 - (V.len r + 1))))) (k_sib _ (by omega) (by omega)) ?_
  refine lv_ior hx hb d_Mo_shrunk_36 ?_
  refine x_topi (y := (nI (V.pre r ||| 2 ^ (32 - (V.len r + 1))))) (nx_or _ _) ?_
  refine lv_goto hx hb d_Mo_shrunk_37 rfl ?_
  refine x_iast (j := r) (g := (fun z9 => nI (va_up V.pre r (V.pre r ||| 2 ^ (32 - (V.len r + 1))) z9))) hx hb hK hP hD hS 2 0 rfl rfl hr0 (by decide) rfl (up_nI _ _ (V.pre r ||| 2 ^ (32 - (V.len r + 1)))) rfl d_Mo_shrunk_46 (fun H locs hP hD hS => ?_)
  replace hP : va_P (dC, dI) classes [(o, .inr (5, [.int (nI V.tc), .ref (a 0), .ref (a 1), .ref (a 2), .ref (a 3), .ref (a 4), .ref (a 5), .ref (a 6), .ref (a 7), .ref (a 8), .ref (a 9), .ref (a 10), .int (nI V.ne), .ref (a 11), .ref (a 12), .ref (a 13), .ref (a 14), .long V.fo, .int V.fl])), ((a 0), .inl (cI, 2, .inl (fun z9 => nI (V.mn z9)))), ((a 1), .inl (cI, 400, .inl (fun z9 => nI (va_up V.pre r (V.pre r ||| 2 ^ (32 - (V.len r + 1))) z9)))), ((a 2), .inl (cI, 400, .inl (fun z9 => nI (va_up V.len r (V.len r + 1) z9)))), ((a 3), .inl (cI, 400, .inl (fun z9 => pI (V.par z9)))), ((a 4), .inl (cI, 400, .inl (fun z9 => nI (V.lev z9)))), ((a 5), .inl (cI, 400, .inl (fun z9 => nI (V.hol z9)))), ((a 6), .inl (cI, 400, .inl (fun z9 => nI (V.sta z9)))), ((a 7), .inl (cI, 400, .inl (fun z9 => nI (V.en z9)))), ((a 8), .inl (cI, 2, .inl (fun z9 => nI (V.tdy z9)))), ((a 9), .inl (cI, 2, .inl (fun z9 => nI (V.dys z9)))), ((a 10), .inl (cI, 8, .inl (fun z9 => nI (V.pol z9)))), ((a 11), .inl (cI, 300, .inl V.kd)), ((a 12), .inl (cI, 300, .inl V.fi)), ((a 13), .inl (cI, 300, .inl V.se)), ((a 14), .inl (cI, 300, .inl V.th))] H := hP
  replace hD : va_D A [(o, .inr (5, [.int (nI V.tc), .ref (a 0), .ref (a 1), .ref (a 2), .ref (a 3), .ref (a 4), .ref (a 5), .ref (a 6), .ref (a 7), .ref (a 8), .ref (a 9), .ref (a 10), .int (nI V.ne), .ref (a 11), .ref (a 12), .ref (a 13), .ref (a 14), .long V.fo, .int V.fl])), ((a 0), .inl (cI, 2, .inl (fun z9 => nI (V.mn z9)))), ((a 1), .inl (cI, 400, .inl (fun z9 => nI (va_up V.pre r (V.pre r ||| 2 ^ (32 - (V.len r + 1))) z9)))), ((a 2), .inl (cI, 400, .inl (fun z9 => nI (va_up V.len r (V.len r + 1) z9)))), ((a 3), .inl (cI, 400, .inl (fun z9 => pI (V.par z9)))), ((a 4), .inl (cI, 400, .inl (fun z9 => nI (V.lev z9)))), ((a 5), .inl (cI, 400, .inl (fun z9 => nI (V.hol z9)))), ((a 6), .inl (cI, 400, .inl (fun z9 => nI (V.sta z9)))), ((a 7), .inl (cI, 400, .inl (fun z9 => nI (V.en z9)))), ((a 8), .inl (cI, 2, .inl (fun z9 => nI (V.tdy z9)))), ((a 9), .inl (cI, 2, .inl (fun z9 => nI (V.dys z9)))), ((a 10), .inl (cI, 8, .inl (fun z9 => nI (V.pol z9)))), ((a 11), .inl (cI, 300, .inl V.kd)), ((a 12), .inl (cI, 300, .inl V.fi)), ((a 13), .inl (cI, 300, .inl V.se)), ((a 14), .inl (cI, 300, .inl V.th))] := hD
  refine lv_aload_n hx hb d_Mo_shrunk_47 rfl (lv_at hl 0 rfl) ?_
  refine va_get (D := (dC, dI)) (ci := 5) (v := .ref (a 2)) (C := R_Mo) (T := F_Mo) (N := 19) hx hb hts u_Mo hown hK hP 0 rfl rfl 3 (by decide) (hts _ kw_717) (fun _ h9 => h9) rfl d_Mo_shrunk_48 ?_
  refine lv_iload_n hx hb d_Mo_shrunk_51 rfl (lv_at hl 1 rfl) ?_
  refine x_iald (j := r) (v := (nI (va_up V.len r (V.len r + 1) r))) hx hb hK hP 3 0 rfl rfl hr0 (by decide) rfl rfl d_Mo_shrunk_52 ?_
  have e9 : vShr V r u = vShr1 V r (V.pre r ||| 2 ^ (32 - (V.len r + 1))) := by unfold vShr; rw [h16]
  have hP9 : va_P (dC, dI) classes (wMo cI o a (vShr V r u)) H := by rw [e9]; exact hP
  have hD9 : va_D A (wMo cI o a (vShr V r u)) := by rw [e9]; exact hD
  exact W.iret (v := (nI (va_up V.len r (V.len r + 1) r))) hx hb hr (fun t ht hW => ⟨⟨(nI (va_up V.len r (V.len r + 1) r)), (), rfl, (by unfold va_up; rw [if_pos rfl]), by rw [ht]; exact hP9, va_K.moved hW.alike hK, hD9⟩, hS.F ht⟩) hS.2.2 d_Mo_shrunk_53
set_option maxHeartbeats 4000000 in
set_option maxRecDepth 100000 in
theorem c_Mo_growWrong (l : Launch) (dC : Nat → ClassId) (dI : Nat → Nat → Nat) (cI : ClassId) (o : Nat) (a : Nat → Nat) (V : MS) (hV : MSok V) (b d x : Nat) (hd : d < 2) (hod : b = 200 * d) (hx0 : x < 4294967296) (hlp : ∀ x q, x < V.mn d → V.sta (b + x) = 1 → V.par (b + x) = some q → ¬ V.len (b + x) = V.len q → 1 ≤ V.len (b + x)) : Met l y_Mo_growWrong (.code y_Mo_growWrong b_Mo_growWrong 4 (some .int) :: wG) ({ frames := 4, cells := 0, slots := 0, locals := 91 }) (PcS (dC, dI) [(cI, .int)] (wMo cI o a V) [.ref o, .int (nI b), .int (nI x)]) (vp_Si (fun r9 => r9 = gwN V b d x)) 0 0 (fun _ => False) := by
  refine Met.ofW (cc := b_Mo_growWrong) (maxL := 4) (ret := (some .int)) (by decide) rfl ?_
  intro pg eg s mg ag bg meth cg s₁ B hml hv
  obtain ⟨rfl, hP, hK, hN⟩ := hv
  have hx := B.exec
  have hb := B.bytes
  have hr := B.returns
  have hlocks := B.notSynchronized
  have hts : ∀ w9 ∈ wG, w9.before ([.ref o, .int (nI b), .int (nI x)] : List Value).toArray s = true := fun w9 h9 => atoms_spec (ws := (.code y_Mo_growWrong b_Mo_growWrong 4 (some .int) :: wG)) B.pre w9 (List.mem_cons_of_mem _ h9)
  have hown : s.vm.findClass "PrefixRegistryModel" = some mg.cls := findClass_of_methodNamed B.named
  have hP : va_P (dC, dI) classes (wMo cI o a V) s.heap := hP
  have hl := lv_entry ([.ref o, .int (nI b), .int (nI x)]) (n := 4) (Nat.le_of_ble_eq_true rfl)
  rw [lg_entry_eq]
  generalize (lg_sl ([.ref o, .int (nI b), .int (nI x)]) ++ List.replicate (4 - (lg_sl ([.ref o, .int (nI b), .int (nI x)])).length) Slot.unset).toArray = ls at hl ⊢
  replace hl : lv_has ls 4 [(0, .ref o), (1, .int (nI b)), (2, .int (nI x))] := hl
  refine lv_aload_n hx hb d_Mo_growWrong_0 rfl (lv_at hl 0 rfl) ?_
  refine lv_iload_n hx hb d_Mo_growWrong_1 rfl (lv_at hl 1 rfl) ?_
  refine lv_iload_n hx hb d_Mo_growWrong_2 rfl (lv_at hl 2 rfl) ?_
  refine vp_callSi (W.runV (b := o) (As := [.int (nI b), .int (nI x)]) (rest := []) ⟨hx, hb, hml, hown, hts⟩ (c_Mo_isRecord l dC dI cI o a V hV b d x hd hod hx0 ) (cwV 2 hts (gV kw_817 kw_819 ks_28 kw_6 kw_820) rfl rfl rfl (by decide +kernel) ⟨Nat.le_of_ble_eq_true rfl, Nat.le_of_ble_eq_true rfl⟩) ⟨PcS.blind, va_recv (q0 := 0) hK hP rfl rfl, PcS.use hP hK hN⟩ rfl rfl hl.1 rfl (lv_room (Nat.le_of_ble_eq_true rfl)) d_Mo_growWrong_3 ⟨Nat.zero_le _, Nat.zero_le _⟩) (fun r3 hr3 => ?_)
  obtain rfl : r3 = bi (decide (x < V.mn d)) := hr3
  refine lv_if_eq hx hb d_Mo_growWrong_6 rfl (fun h6 => ?_) (fun h6 => ?_)
  · have h6 := bi_d.mp h6
    refine lv_bipush (v := (-5)) hx hb d_Mo_growWrong_32 (by decide) ?_
    exact W.iret (v := (-5)) hx hb hr (fun t ht hW => ⟨(-5), rfl, (by unfold gwN; rw [if_neg (fun q => h6 q.1.1)]), ht⟩) (fun q h => nomatch h) d_Mo_growWrong_34
  have h6 := Decidable.not_not.mp (mt bi_d.mpr h6)
  refine lv_aload_n hx hb d_Mo_growWrong_9 rfl (lv_at hl 0 rfl) ?_
  refine va_get (D := (dC, dI)) (ci := 5) (v := .ref (a 6)) (C := R_Mo) (T := F_Mo) (N := 19) hx hb hts u_Mo hown hK hP 0 rfl rfl 7 (by decide) (hts _ kw_721) (fun _ h9 => h9) rfl d_Mo_growWrong_10 ?_
  refine lv_iload_n hx hb d_Mo_growWrong_13 rfl (lv_at hl 1 rfl) ?_
  refine lv_iload_n hx hb d_Mo_growWrong_14 rfl (lv_at hl 2 rfl) ?_
  refine lv_iadd hx hb d_Mo_growWrong_15 ?_
  refine x_topi (y := (nI (b + x))) (nI_add _ _) ?_
  refine x_iald (j := (b + x)) (v := (nI (V.sta (b + x)))) hx hb hK hP 7 0 rfl rfl (by have := hV.mn d; omega) (by decide) rfl rfl d_Mo_growWrong_16 ?_
  refine lv_iconst (v := 1) hx hb d_Mo_growWrong_17 (by decide) ?_
  refine lv_icmp_ne hx hb d_Mo_growWrong_18 rfl (fun h18 => ?_) (fun h18 => ?_)
  · have h18 := mt (k_eq (b := 1) (by have := hV.sta (b + x); omega) (by decide)).mpr h18
    refine lv_bipush (v := (-5)) hx hb d_Mo_growWrong_32 (by decide) ?_
    exact W.iret (v := (-5)) hx hb hr (fun t ht hW => ⟨(-5), rfl, (by unfold gwN; rw [if_neg (fun q => h18 q.1.2)]), ht⟩) (fun q h => nomatch h) d_Mo_growWrong_34
  have h18 := (k_eq (b := 1) (by have := hV.sta (b + x); omega) (by decide)).mp h18
  refine lv_aload_n hx hb d_Mo_growWrong_21 rfl (lv_at hl 0 rfl) ?_
  refine va_get (D := (dC, dI)) (ci := 5) (v := .ref (a 3)) (C := R_Mo) (T := F_Mo) (N := 19) hx hb hts u_Mo hown hK hP 0 rfl rfl 4 (by decide) (hts _ kw_718) (fun _ h9 => h9) rfl d_Mo_growWrong_22 ?_
  refine lv_iload_n hx hb d_Mo_growWrong_25 rfl (lv_at hl 1 rfl) ?_
  refine lv_iload_n hx hb d_Mo_growWrong_26 rfl (lv_at hl 2 rfl) ?_
  refine lv_iadd hx hb d_Mo_growWrong_27 ?_
  refine x_topi (y := (nI (b + x))) (nI_add _ _) ?_
  refine x_iald (j := (b + x)) (v := (pI (V.par (b + x)))) hx hb hK hP 4 0 rfl rfl (by have := hV.mn d; omega) (by decide) rfl rfl d_Mo_growWrong_28 ?_
  refine lv_if_ge hx hb d_Mo_growWrong_29 rfl (fun h29 => ?_) (fun h29 => ?_)
  · have h29 := (pI_ge (fun j q => by have := hV.par q; omega)).mp h29
    obtain ⟨q, hq⟩ : ∃ q, V.par (b + x) = some q := by cases e9 : V.par (b + x) with | none => exact absurd e9 h29 | some q => exact ⟨q, rfl⟩
    refine lv_iload_n hx hb d_Mo_growWrong_35 rfl (lv_at hl 1 rfl) ?_
    refine lv_iload_n hx hb d_Mo_growWrong_36 rfl (lv_at hl 2 rfl) ?_
    refine lv_iadd hx hb d_Mo_growWrong_37 ?_
    refine x_topi (y := (nI (b + x))) (nI_add _ _) ?_
    refine lv_istore_n hx hb d_Mo_growWrong_38 rfl hl (by decide) rfl (fun ls hl => ?_)
    replace hl : lv_has ls 4 [(3, .int (nI (b + x))), (0, .ref o), (1, .int (nI b)), (2, .int (nI x))] := hl
    refine lv_aload_n hx hb d_Mo_growWrong_39 rfl (lv_at hl 1 rfl) ?_
    refine va_get (D := (dC, dI)) (ci := 5) (v := .ref (a 2)) (C := R_Mo) (T := F_Mo) (N := 19) hx hb hts u_Mo hown hK hP 0 rfl rfl 3 (by decide) (hts _ kw_717) (fun _ h9 => h9) rfl d_Mo_growWrong_40 ?_
    refine lv_iload_n hx hb d_Mo_growWrong_43 rfl (lv_at hl 0 rfl) ?_
    refine x_iald (j := (b + x)) (v := (nI (V.len (b + x)))) hx hb hK hP 3 0 rfl rfl (by have := hV.mn d; omega) (by decide) rfl rfl d_Mo_growWrong_44 ?_
    refine lv_aload_n hx hb d_Mo_growWrong_45 rfl (lv_at hl 1 rfl) ?_
    refine va_get (D := (dC, dI)) (ci := 5) (v := .ref (a 2)) (C := R_Mo) (T := F_Mo) (N := 19) hx hb hts u_Mo hown hK hP 0 rfl rfl 3 (by decide) (hts _ kw_717) (fun _ h9 => h9) rfl d_Mo_growWrong_46 ?_
    refine lv_aload_n hx hb d_Mo_growWrong_49 rfl (lv_at hl 1 rfl) ?_
    refine va_get (D := (dC, dI)) (ci := 5) (v := .ref (a 3)) (C := R_Mo) (T := F_Mo) (N := 19) hx hb hts u_Mo hown hK hP 0 rfl rfl 4 (by decide) (hts _ kw_718) (fun _ h9 => h9) rfl d_Mo_growWrong_50 ?_
    refine lv_iload_n hx hb d_Mo_growWrong_53 rfl (lv_at hl 0 rfl) ?_
    refine x_iald (j := (b + x)) (v := (pI (V.par (b + x)))) hx hb hK hP 4 0 rfl rfl (by have := hV.mn d; omega) (by decide) rfl rfl d_Mo_growWrong_54 ?_
    refine x_topi (y := (nI q)) (by rw [hq]; rfl) ?_
    refine x_iald (j := q) (v := (nI (V.len q))) hx hb hK hP 3 0 rfl rfl (hV.par hq) (by decide) rfl rfl d_Mo_growWrong_55 ?_
    refine lv_icmp_ne hx hb d_Mo_growWrong_56 rfl (fun h56 => ?_) (fun h56 => ?_)
    · have h56 := mt (nI_eq (by have := hV.len (b + x); omega) (by have := hV.len q; omega)).mpr h56
      have hl1 : 1 ≤ V.len (b + x) := hlp x q h6 h18 hq h56
      refine lv_aload_n hx hb d_Mo_growWrong_62 rfl (lv_at hl 1 rfl) ?_
      refine lv_aload_n hx hb d_Mo_growWrong_63 rfl (lv_at hl 1 rfl) ?_
      refine va_get (D := (dC, dI)) (ci := 5) (v := .ref (a 3)) (C := R_Mo) (T := F_Mo) (N := 19) hx hb hts u_Mo hown hK hP 0 rfl rfl 4 (by decide) (hts _ kw_718) (fun _ h9 => h9) rfl d_Mo_growWrong_64 ?_
      refine lv_iload_n hx hb d_Mo_growWrong_67 rfl (lv_at hl 0 rfl) ?_
      refine x_iald (j := (b + x)) (v := (pI (V.par (b + x)))) hx hb hK hP 4 0 rfl rfl (by have := hV.mn d; omega) (by decide) rfl rfl d_Mo_growWrong_68 ?_
      refine x_topi (y := (nI q)) (by rw [hq]; rfl) ?_
      refine lv_aload_n hx hb d_Mo_growWrong_69 rfl (lv_at hl 1 rfl) ?_
      refine va_get (D := (dC, dI)) (ci := 5) (v := .ref (a 1)) (C := R_Mo) (T := F_Mo) (N := 19) hx hb hts u_Mo hown hK hP 0 rfl rfl 2 (by decide) (hts _ kw_716) (fun _ h9 => h9) rfl d_Mo_growWrong_70 ?_
      refine lv_iload_n hx hb d_Mo_growWrong_73 rfl (lv_at hl 0 rfl) ?_
      refine x_iald (j := (b + x)) (v := (nI (V.pre (b + x)))) hx hb hK hP 2 0 rfl rfl (by have := hV.mn d; omega) (by decide) rfl rfl d_Mo_growWrong_74 ?_
      refine lv_aload_n hx hb d_Mo_growWrong_75 rfl (lv_at hl 1 rfl) ?_
      refine va_get (D := (dC, dI)) (ci := 5) (v := .ref (a 2)) (C := R_Mo) (T := F_Mo) (N := 19) hx hb hts u_Mo hown hK hP 0 rfl rfl 3 (by decide) (hts _ kw_717) (fun _ h9 => h9) rfl d_Mo_growWrong_76 ?_
      refine lv_iload_n hx hb d_Mo_growWrong_79 rfl (lv_at hl 0 rfl) ?_
      refine x_iald (j := (b + x)) (v := (nI (V.len (b + x)))) hx hb hK hP 3 0 rfl rfl (by have := hV.mn d; omega) (by decide) rfl rfl d_Mo_growWrong_80 ?_
      refine vp_callSi (W.runS (As := [.int (nI (V.pre (b + x))), .int (nI (V.len (b + x)))]) (rest := [.int (nI q), .ref o]) ⟨hx, hb, hml, hown, hts⟩ (c_Mo_sibling l dC dI (V.pre (b + x)) (V.len (b + x)) (hV.len _) hl1) (cwS 2 hts (gS kw_911 kw_912 kw_6 kw_913) rfl rfl rfl (by decide +kernel) ⟨Nat.le_of_ble_eq_true rfl, Nat.le_of_ble_eq_true rfl⟩) ⟨PcS.blind, PcS.use hP hK hN⟩ rfl rfl hl.1 rfl (lv_room (Nat.le_of_ble_eq_true rfl)) d_Mo_growWrong_81 ⟨Nat.zero_le _, Nat.zero_le _⟩) (fun r81 hr81 => ?_)
      obtain rfl : r81 = (nI ((V.pre (b + x)) ^^^ 2 ^ (32 - (V.len (b + x))))) := hr81
      refine lv_aload_n hx hb d_Mo_growWrong_84 rfl (lv_at hl 1 rfl) ?_
      refine va_get (D := (dC, dI)) (ci := 5) (v := .ref (a 2)) (C := R_Mo) (T := F_Mo) (N := 19) hx hb hts u_Mo hown hK hP 0 rfl rfl 3 (by decide) (hts _ kw_717) (fun _ h9 => h9) rfl d_Mo_growWrong_85 ?_
      refine lv_iload_n hx hb d_Mo_growWrong_88 rfl (lv_at hl 0 rfl) ?_
      refine x_iald (j := (b + x)) (v := (nI (V.len (b + x)))) hx hb hK hP 3 0 rfl rfl (by have := hV.mn d; omega) (by decide) rfl rfl d_Mo_growWrong_89 ?_
      refine vp_callSi (W.runV (b := o) (As := [.int (nI q), .int (nI ((V.pre (b + x)) ^^^ 2 ^ (32 - (V.len (b + x))))), .int (nI (V.len (b + x)))]) (rest := []) ⟨hx, hb, hml, hown, hts⟩ (c_Mo_isFree l dC dI cI o a V hV q (hV.par hq) ((V.pre (b + x)) ^^^ 2 ^ (32 - (V.len (b + x)))) (V.len (b + x)) (xor_lt (hV.pre _) hl1) (hV.len _)) (cwV 3 hts (gV kw_867 kw_869 ks_39 kw_6 kw_870) rfl rfl rfl (by decide +kernel) ⟨Nat.le_of_ble_eq_true rfl, Nat.le_of_ble_eq_true rfl⟩) ⟨PcS.blind, va_recv (q0 := 0) hK hP rfl rfl, PcS.use hP hK hN⟩ rfl rfl hl.1 rfl (lv_room (Nat.le_of_ble_eq_true rfl)) d_Mo_growWrong_90 ⟨Nat.zero_le _, Nat.zero_le _⟩) (fun r90 hr90 => ?_)
      obtain rfl : r90 = bi (decide (V.len q ≤ (V.len (b + x)) ∧ mtM ((V.pre (b + x)) ^^^ 2 ^ (32 - (V.len (b + x)))) (V.len (b + x)) (V.pre q) (V.len q) ∧ tkN V q ((V.pre (b + x)) ^^^ 2 ^ (32 - (V.len (b + x)))) (V.len (b + x)) = none)) := hr90
      refine lv_if_eq hx hb d_Mo_growWrong_93 rfl (fun h93 => ?_) (fun h93 => ?_)
      · have h93 := bi_d.mp h93
        refine lv_iconst (v := (-1)) hx hb d_Mo_growWrong_100 (by decide) ?_
        exact W.iret (v := (-1)) hx hb hr (fun t ht hW => ⟨(-1), rfl, (by unfold gwN; rw [if_pos ⟨⟨h6, h18⟩, h29⟩, hq]; simp only [Option.getD_some]; rw [if_neg h56, if_neg h93]), ht⟩) (fun q h => nomatch h) d_Mo_growWrong_101
      have h93 := Decidable.not_not.mp (mt bi_d.mpr h93)
      refine lv_iconst (v := 0) hx hb d_Mo_growWrong_96 (by decide) ?_
      refine lv_goto hx hb d_Mo_growWrong_97 rfl ?_
      exact W.iret (v := 0) hx hb hr (fun t ht hW => ⟨0, rfl, (by unfold gwN; rw [if_pos ⟨⟨h6, h18⟩, h29⟩, hq]; simp only [Option.getD_some]; rw [if_neg h56, if_pos h93]), ht⟩) (fun q h => nomatch h) d_Mo_growWrong_101
    have h56 := (nI_eq (by have := hV.len (b + x); omega) (by have := hV.len q; omega)).mp h56
    refine lv_bipush (v := (-2)) hx hb d_Mo_growWrong_59 (by decide) ?_
    exact W.iret (v := (-2)) hx hb hr (fun t ht hW => ⟨(-2), rfl, (by unfold gwN; rw [if_pos ⟨⟨h6, h18⟩, h29⟩, hq]; simp only [Option.getD_some]; rw [if_pos h56]), ht⟩) (fun q h => nomatch h) d_Mo_growWrong_61
  have h29 := mt (pI_ge (fun j q => by have := hV.par q; omega)).mpr h29
  refine lv_bipush (v := (-5)) hx hb d_Mo_growWrong_32 (by decide) ?_
  exact W.iret (v := (-5)) hx hb hr (fun t ht hW => ⟨(-5), rfl, (by unfold gwN; rw [if_neg (fun q => h29 q.2)]), ht⟩) (fun q h => nomatch h) d_Mo_growWrong_34
set_option maxHeartbeats 4000000 in
set_option maxRecDepth 100000 in
theorem c_Mo_shrinkWrong (l : Launch) (dC : Nat → ClassId) (dI : Nat → Nat → Nat) (cI : ClassId) (o : Nat) (a : Nat → Nat) (V : MS) (hV : MSok V) (b d x : Nat) (hd : d < 2) (hod : b = 200 * d) (hx0 : x < 4294967296) (u : Bool) : Met l y_Mo_shrinkWrong (.code y_Mo_shrinkWrong b_Mo_shrinkWrong 6 (some .int) :: wG) ({ frames := 3, cells := 0, slots := 0, locals := 68 }) (PcS (dC, dI) [(cI, .int)] (wMo cI o a V) [.ref o, .int (nI b), .int (nI x), .int (bi u)]) (vp_Si (fun r9 => r9 = swN V b d x u)) 0 0 (fun _ => False) := by
  refine Met.ofW (cc := b_Mo_shrinkWrong) (maxL := 6) (ret := (some .int)) (by decide) rfl ?_
  intro pg eg s mg ag bg meth cg s₁ B hml hv
  obtain ⟨rfl, hP, hK, hN⟩ := hv
  have hx := B.exec
  have hb := B.bytes
  have hr := B.returns
  have hlocks := B.notSynchronized
  have hts : ∀ w9 ∈ wG, w9.before ([.ref o, .int (nI b), .int (nI x), .int (bi u)] : List Value).toArray s = true := fun w9 h9 => atoms_spec (ws := (.code y_Mo_shrinkWrong b_Mo_shrinkWrong 6 (some .int) :: wG)) B.pre w9 (List.mem_cons_of_mem _ h9)
  have hown : s.vm.findClass "PrefixRegistryModel" = some mg.cls := findClass_of_methodNamed B.named
  have hP : va_P (dC, dI) classes (wMo cI o a V) s.heap := hP
  have hl := lv_entry ([.ref o, .int (nI b), .int (nI x), .int (bi u)]) (n := 6) (Nat.le_of_ble_eq_true rfl)
  rw [lg_entry_eq]
  generalize (lg_sl ([.ref o, .int (nI b), .int (nI x), .int (bi u)]) ++ List.replicate (6 - (lg_sl ([.ref o, .int (nI b), .int (nI x), .int (bi u)])).length) Slot.unset).toArray = ls at hl ⊢
  replace hl : lv_has ls 6 [(0, .ref o), (1, .int (nI b)), (2, .int (nI x)), (3, .int (bi u))] := hl
  refine lv_aload_n hx hb d_Mo_shrinkWrong_0 rfl (lv_at hl 0 rfl) ?_
  refine lv_iload_n hx hb d_Mo_shrinkWrong_1 rfl (lv_at hl 1 rfl) ?_
  refine lv_iload_n hx hb d_Mo_shrinkWrong_2 rfl (lv_at hl 2 rfl) ?_
  refine vp_callSi (W.runV (b := o) (As := [.int (nI b), .int (nI x)]) (rest := []) ⟨hx, hb, hml, hown, hts⟩ (c_Mo_isRecord l dC dI cI o a V hV b d x hd hod hx0 ) (cwV 2 hts (gV kw_817 kw_819 ks_28 kw_6 kw_820) rfl rfl rfl (by decide +kernel) ⟨Nat.le_of_ble_eq_true rfl, Nat.le_of_ble_eq_true rfl⟩) ⟨PcS.blind, va_recv (q0 := 0) hK hP rfl rfl, PcS.use hP hK hN⟩ rfl rfl hl.1 rfl (lv_room (Nat.le_of_ble_eq_true rfl)) d_Mo_shrinkWrong_3 ⟨Nat.zero_le _, Nat.zero_le _⟩) (fun r3 hr3 => ?_)
  obtain rfl : r3 = bi (decide (x < V.mn d)) := hr3
  refine lv_if_eq hx hb d_Mo_shrinkWrong_6 rfl (fun h6 => ?_) (fun h6 => ?_)
  · have h6 := bi_d.mp h6
    refine lv_bipush (v := (-5)) hx hb d_Mo_shrinkWrong_32 (by decide) ?_
    exact W.iret (v := (-5)) hx hb hr (fun t ht hW => ⟨(-5), rfl, (by unfold swN; rw [if_neg (fun q => h6 q.1.1)]), ht⟩) (fun q h => nomatch h) d_Mo_shrinkWrong_34
  have h6 := Decidable.not_not.mp (mt bi_d.mpr h6)
  refine lv_aload_n hx hb d_Mo_shrinkWrong_9 rfl (lv_at hl 0 rfl) ?_
  refine va_get (D := (dC, dI)) (ci := 5) (v := .ref (a 6)) (C := R_Mo) (T := F_Mo) (N := 19) hx hb hts u_Mo hown hK hP 0 rfl rfl 7 (by decide) (hts _ kw_721) (fun _ h9 => h9) rfl d_Mo_shrinkWrong_10 ?_
  refine lv_iload_n hx hb d_Mo_shrinkWrong_13 rfl (lv_at hl 1 rfl) ?_
  refine lv_iload_n hx hb d_Mo_shrinkWrong_14 rfl (lv_at hl 2 rfl) ?_
  refine lv_iadd hx hb d_Mo_shrinkWrong_15 ?_
  refine x_topi (y := (nI (b + x))) (nI_add _ _) ?_
  refine x_iald (j := (b + x)) (v := (nI (V.sta (b + x)))) hx hb hK hP 7 0 rfl rfl (by have := hV.mn d; omega) (by decide) rfl rfl d_Mo_shrinkWrong_16 ?_
  refine lv_iconst (v := 1) hx hb d_Mo_shrinkWrong_17 (by decide) ?_
  refine lv_icmp_ne hx hb d_Mo_shrinkWrong_18 rfl (fun h18 => ?_) (fun h18 => ?_)
  · have h18 := mt (k_eq (b := 1) (by have := hV.sta (b + x); omega) (by decide)).mpr h18
    refine lv_bipush (v := (-5)) hx hb d_Mo_shrinkWrong_32 (by decide) ?_
    exact W.iret (v := (-5)) hx hb hr (fun t ht hW => ⟨(-5), rfl, (by unfold swN; rw [if_neg (fun q => h18 q.1.2)]), ht⟩) (fun q h => nomatch h) d_Mo_shrinkWrong_34
  have h18 := (k_eq (b := 1) (by have := hV.sta (b + x); omega) (by decide)).mp h18
  refine lv_aload_n hx hb d_Mo_shrinkWrong_21 rfl (lv_at hl 0 rfl) ?_
  refine va_get (D := (dC, dI)) (ci := 5) (v := .ref (a 3)) (C := R_Mo) (T := F_Mo) (N := 19) hx hb hts u_Mo hown hK hP 0 rfl rfl 4 (by decide) (hts _ kw_718) (fun _ h9 => h9) rfl d_Mo_shrinkWrong_22 ?_
  refine lv_iload_n hx hb d_Mo_shrinkWrong_25 rfl (lv_at hl 1 rfl) ?_
  refine lv_iload_n hx hb d_Mo_shrinkWrong_26 rfl (lv_at hl 2 rfl) ?_
  refine lv_iadd hx hb d_Mo_shrinkWrong_27 ?_
  refine x_topi (y := (nI (b + x))) (nI_add _ _) ?_
  refine x_iald (j := (b + x)) (v := (pI (V.par (b + x)))) hx hb hK hP 4 0 rfl rfl (by have := hV.mn d; omega) (by decide) rfl rfl d_Mo_shrinkWrong_28 ?_
  refine lv_if_ge hx hb d_Mo_shrinkWrong_29 rfl (fun h29 => ?_) (fun h29 => ?_)
  · have h29 := (pI_ge (fun j q => by have := hV.par q; omega)).mp h29
    refine lv_iload_n hx hb d_Mo_shrinkWrong_35 rfl (lv_at hl 1 rfl) ?_
    refine lv_iload_n hx hb d_Mo_shrinkWrong_36 rfl (lv_at hl 2 rfl) ?_
    refine lv_iadd hx hb d_Mo_shrinkWrong_37 ?_
    refine x_topi (y := (nI (b + x))) (nI_add _ _) ?_
    refine lv_istore hx hb d_Mo_shrinkWrong_38 hl (by decide) rfl (fun ls hl => ?_)
    replace hl : lv_has ls 6 [(4, .int (nI (b + x))), (0, .ref o), (1, .int (nI b)), (2, .int (nI x)), (3, .int (bi u))] := hl
    refine lv_aload_n hx hb d_Mo_shrinkWrong_40 rfl (lv_at hl 1 rfl) ?_
    refine va_get (D := (dC, dI)) (ci := 5) (v := .ref (a 2)) (C := R_Mo) (T := F_Mo) (N := 19) hx hb hts u_Mo hown hK hP 0 rfl rfl 3 (by decide) (hts _ kw_717) (fun _ h9 => h9) rfl d_Mo_shrinkWrong_41 ?_
    refine lv_iload hx hb d_Mo_shrinkWrong_44 (lv_at hl 0 rfl) ?_
    refine x_iald (j := (b + x)) (v := (nI (V.len (b + x)))) hx hb hK hP 3 0 rfl rfl (by have := hV.mn d; omega) (by decide) rfl rfl d_Mo_shrinkWrong_46 ?_
    refine lv_bipush (v := 32) hx hb d_Mo_shrinkWrong_47 (by decide) ?_
    refine lv_icmp_ne hx hb d_Mo_shrinkWrong_49 rfl (fun h49 => ?_) (fun h49 => ?_)
    · have h49 := mt (nI_eq (b := 32) (by have := hV.len (b + x); omega) (by decide)).mpr h49
      refine lv_iload_n hx hb d_Mo_shrinkWrong_55 rfl (lv_at hl 4 rfl) ?_
      refine lv_if_eq hx hb d_Mo_shrinkWrong_56 rfl (fun h56 => ?_) (fun h56 => ?_)
      · have h56 : u = false := bi_eq0.mp h56
        refine lv_aload_n hx hb d_Mo_shrinkWrong_69 rfl (lv_at hl 1 rfl) ?_
        refine va_get (D := (dC, dI)) (ci := 5) (v := .ref (a 1)) (C := R_Mo) (T := F_Mo) (N := 19) hx hb hts u_Mo hown hK hP 0 rfl rfl 2 (by decide) (hts _ kw_716) (fun _ h9 => h9) rfl d_Mo_shrinkWrong_70 ?_
        refine lv_iload hx hb d_Mo_shrinkWrong_73 (lv_at hl 0 rfl) ?_
        refine x_iald (j := (b + x)) (v := (nI (V.pre (b + x)))) hx hb hK hP 2 0 rfl rfl (by have := hV.mn d; omega) (by decide) rfl rfl d_Mo_shrinkWrong_75 ?_
        refine lv_aload_n hx hb d_Mo_shrinkWrong_76 rfl (lv_at hl 1 rfl) ?_
        refine va_get (D := (dC, dI)) (ci := 5) (v := .ref (a 2)) (C := R_Mo) (T := F_Mo) (N := 19) hx hb hts u_Mo hown hK hP 0 rfl rfl 3 (by decide) (hts _ kw_717) (fun _ h9 => h9) rfl d_Mo_shrinkWrong_77 ?_
        refine lv_iload hx hb d_Mo_shrinkWrong_80 (lv_at hl 0 rfl) ?_
        refine x_iald (j := (b + x)) (v := (nI (V.len (b + x)))) hx hb hK hP 3 0 rfl rfl (by have := hV.mn d; omega) (by decide) rfl rfl d_Mo_shrinkWrong_82 ?_
        refine lv_iconst (v := 1) hx hb d_Mo_shrinkWrong_83 (by decide) ?_
        refine lv_iadd hx hb d_Mo_shrinkWrong_84 ?_
        refine x_topi (y := (nI (V.len (b + x) + 1))) (nI_1 _) ?_
        refine vp_callSi (W.runS (As := [.int (nI (V.pre (b + x))), .int (nI (V.len (b + x) + 1))]) (rest := []) ⟨hx, hb, hml, hown, hts⟩ (c_Mo_sibling l dC dI (V.pre (b + x)) (V.len (b + x) + 1) (by have := hV.len (b + x); omega) (by omega)) (cwS 2 hts (gS kw_911 kw_912 kw_6 kw_913) rfl rfl rfl (by decide +kernel) ⟨Nat.le_of_ble_eq_true rfl, Nat.le_of_ble_eq_true rfl⟩) ⟨PcS.blind, PcS.use hP hK hN⟩ rfl rfl hl.1 rfl (lv_room (Nat.le_of_ble_eq_true rfl)) d_Mo_shrinkWrong_85 ⟨Nat.zero_le _, Nat.zero_le _⟩) (fun r85 hr85 => ?_)
        obtain rfl : r85 = (nI ((V.pre (b + x)) ^^^ 2 ^ (32 - (V.len (b + x) + 1)))) := hr85
        refine lv_istore hx hb d_Mo_shrinkWrong_88 hl (by decide) rfl (fun ls hl => ?_)
        replace hl : lv_has ls 6 [(5, .int (nI ((V.pre (b + x)) ^^^ 2 ^ (32 - (V.len (b + x) + 1))))), (4, .int (nI (b + x))), (0, .ref o), (1, .int (nI b)), (2, .int (nI x)), (3, .int (bi u))] := hl
        refine lv_aload_n hx hb d_Mo_shrinkWrong_90 rfl (lv_at hl 2 rfl) ?_
        refine lv_iload hx hb d_Mo_shrinkWrong_91 (lv_at hl 1 rfl) ?_
        refine lv_iload hx hb d_Mo_shrinkWrong_93 (lv_at hl 0 rfl) ?_
        refine lv_aload_n hx hb d_Mo_shrinkWrong_95 rfl (lv_at hl 2 rfl) ?_
        refine va_get (D := (dC, dI)) (ci := 5) (v := .ref (a 2)) (C := R_Mo) (T := F_Mo) (N := 19) hx hb hts u_Mo hown hK hP 0 rfl rfl 3 (by decide) (hts _ kw_717) (fun _ h9 => h9) rfl d_Mo_shrinkWrong_96 ?_
        refine lv_iload hx hb d_Mo_shrinkWrong_99 (lv_at hl 1 rfl) ?_
        refine x_iald (j := (b + x)) (v := (nI (V.len (b + x)))) hx hb hK hP 3 0 rfl rfl (by have := hV.mn d; omega) (by decide) rfl rfl d_Mo_shrinkWrong_101 ?_
        refine lv_iconst (v := 1) hx hb d_Mo_shrinkWrong_102 (by decide) ?_
        refine lv_iadd hx hb d_Mo_shrinkWrong_103 ?_
        refine x_topi (y := (nI (V.len (b + x) + 1))) (nI_1 _) ?_
        refine vp_callSi (W.runV (b := o) (As := [.int (nI (b + x)), .int (nI ((V.pre (b + x)) ^^^ 2 ^ (32 - (V.len (b + x) + 1)))), .int (nI (V.len (b + x) + 1))]) (rest := []) ⟨hx, hb, hml, hown, hts⟩ (c_Mo_taker l dC dI cI o a V hV (b + x) (by have := hV.mn d; omega) ((V.pre (b + x)) ^^^ 2 ^ (32 - (V.len (b + x) + 1))) (V.len (b + x) + 1) (xor_lt (hV.pre _) (by omega)) (by have := hV.len (b + x); omega)) (cwV 3 hts (gV kw_863 kw_865 ks_38 kw_6 kw_866) rfl rfl rfl (by decide +kernel) ⟨Nat.le_of_ble_eq_true rfl, Nat.le_of_ble_eq_true rfl⟩) ⟨PcS.blind, va_recv (q0 := 0) hK hP rfl rfl, PcS.use hP hK hN⟩ rfl rfl hl.1 rfl (lv_room (Nat.le_of_ble_eq_true rfl)) d_Mo_shrinkWrong_104 ⟨Nat.zero_le _, Nat.zero_le _⟩) (fun r104 hr104 => ?_)
        obtain rfl : r104 = (pI (tkN V (b + x) ((V.pre (b + x)) ^^^ 2 ^ (32 - (V.len (b + x) + 1))) (V.len (b + x) + 1))) := hr104
        refine lv_if_ge hx hb d_Mo_shrinkWrong_107 rfl (fun h107 => ?_) (fun h107 => ?_)
        · have h107 := (pI_ge (fun j q => by have := tkN_lt hV q; omega)).mp h107
          refine lv_iconst (v := (-1)) hx hb d_Mo_shrinkWrong_114 (by decide) ?_
          exact W.iret (v := (-1)) hx hb hr (fun t ht hW => ⟨(-1), rfl, (by unfold swN; rw [if_pos ⟨⟨h6, h18⟩, h29⟩, if_neg h49]; unfold lstN; rw [h56]; exact (if_neg h107).symm), ht⟩) (fun q h => nomatch h) d_Mo_shrinkWrong_115
        have h107 := mt (pI_ge (fun j q => by have := tkN_lt hV q; omega)).mpr h107
        refine lv_iconst (v := 0) hx hb d_Mo_shrinkWrong_110 (by decide) ?_
        refine lv_goto hx hb d_Mo_shrinkWrong_111 rfl ?_
        exact W.iret (v := 0) hx hb hr (fun t ht hW => ⟨0, rfl, (by unfold swN; rw [if_pos ⟨⟨h6, h18⟩, h29⟩, if_neg h49]; unfold lstN; rw [h56]; exact (if_pos (Decidable.not_not.mp h107)).symm), ht⟩) (fun q h => nomatch h) d_Mo_shrinkWrong_115
      have h56 : u = true := bi_n0 h56
      refine lv_aload_n hx hb d_Mo_shrinkWrong_59 rfl (lv_at hl 1 rfl) ?_
      refine va_get (D := (dC, dI)) (ci := 5) (v := .ref (a 1)) (C := R_Mo) (T := F_Mo) (N := 19) hx hb hts u_Mo hown hK hP 0 rfl rfl 2 (by decide) (hts _ kw_716) (fun _ h9 => h9) rfl d_Mo_shrinkWrong_60 ?_
      refine lv_iload hx hb d_Mo_shrinkWrong_63 (lv_at hl 0 rfl) ?_
      refine x_iald (j := (b + x)) (v := (nI (V.pre (b + x)))) hx hb hK hP 2 0 rfl rfl (by have := hV.mn d; omega) (by decide) rfl rfl d_Mo_shrinkWrong_65 ?_
      refine lv_goto hx hb d_Mo_shrinkWrong_66 rfl ?_
      refine lv_istore hx hb d_Mo_shrinkWrong_88 hl (by decide) rfl (fun ls hl => ?_)
      replace hl : lv_has ls 6 [(5, .int (nI (V.pre (b + x)))), (4, .int (nI (b + x))), (0, .ref o), (1, .int (nI b)), (2, .int (nI x)), (3, .int (bi u))] := hl
      refine lv_aload_n hx hb d_Mo_shrinkWrong_90 rfl (lv_at hl 2 rfl) ?_
      refine lv_iload hx hb d_Mo_shrinkWrong_91 (lv_at hl 1 rfl) ?_
      refine lv_iload hx hb d_Mo_shrinkWrong_93 (lv_at hl 0 rfl) ?_
      refine lv_aload_n hx hb d_Mo_shrinkWrong_95 rfl (lv_at hl 2 rfl) ?_
      refine va_get (D := (dC, dI)) (ci := 5) (v := .ref (a 2)) (C := R_Mo) (T := F_Mo) (N := 19) hx hb hts u_Mo hown hK hP 0 rfl rfl 3 (by decide) (hts _ kw_717) (fun _ h9 => h9) rfl d_Mo_shrinkWrong_96 ?_
      refine lv_iload hx hb d_Mo_shrinkWrong_99 (lv_at hl 1 rfl) ?_
      refine x_iald (j := (b + x)) (v := (nI (V.len (b + x)))) hx hb hK hP 3 0 rfl rfl (by have := hV.mn d; omega) (by decide) rfl rfl d_Mo_shrinkWrong_101 ?_
      refine lv_iconst (v := 1) hx hb d_Mo_shrinkWrong_102 (by decide) ?_
      refine lv_iadd hx hb d_Mo_shrinkWrong_103 ?_
      refine x_topi (y := (nI (V.len (b + x) + 1))) (nI_1 _) ?_
      refine vp_callSi (W.runV (b := o) (As := [.int (nI (b + x)), .int (nI (V.pre (b + x))), .int (nI (V.len (b + x) + 1))]) (rest := []) ⟨hx, hb, hml, hown, hts⟩ (c_Mo_taker l dC dI cI o a V hV (b + x) (by have := hV.mn d; omega) (V.pre (b + x)) (V.len (b + x) + 1) (hV.pre _) (by have := hV.len (b + x); omega)) (cwV 3 hts (gV kw_863 kw_865 ks_38 kw_6 kw_866) rfl rfl rfl (by decide +kernel) ⟨Nat.le_of_ble_eq_true rfl, Nat.le_of_ble_eq_true rfl⟩) ⟨PcS.blind, va_recv (q0 := 0) hK hP rfl rfl, PcS.use hP hK hN⟩ rfl rfl hl.1 rfl (lv_room (Nat.le_of_ble_eq_true rfl)) d_Mo_shrinkWrong_104 ⟨Nat.zero_le _, Nat.zero_le _⟩) (fun r104 hr104 => ?_)
      obtain rfl : r104 = (pI (tkN V (b + x) (V.pre (b + x)) (V.len (b + x) + 1))) := hr104
      refine lv_if_ge hx hb d_Mo_shrinkWrong_107 rfl (fun h107 => ?_) (fun h107 => ?_)
      · have h107 := (pI_ge (fun j q => by have := tkN_lt hV q; omega)).mp h107
        refine lv_iconst (v := (-1)) hx hb d_Mo_shrinkWrong_114 (by decide) ?_
        exact W.iret (v := (-1)) hx hb hr (fun t ht hW => ⟨(-1), rfl, (by unfold swN; rw [if_pos ⟨⟨h6, h18⟩, h29⟩, if_neg h49]; unfold lstN; rw [h56]; exact (if_neg h107).symm), ht⟩) (fun q h => nomatch h) d_Mo_shrinkWrong_115
      have h107 := mt (pI_ge (fun j q => by have := tkN_lt hV q; omega)).mpr h107
      refine lv_iconst (v := 0) hx hb d_Mo_shrinkWrong_110 (by decide) ?_
      refine lv_goto hx hb d_Mo_shrinkWrong_111 rfl ?_
      exact W.iret (v := 0) hx hb hr (fun t ht hW => ⟨0, rfl, (by unfold swN; rw [if_pos ⟨⟨h6, h18⟩, h29⟩, if_neg h49]; unfold lstN; rw [h56]; exact (if_pos (Decidable.not_not.mp h107)).symm), ht⟩) (fun q h => nomatch h) d_Mo_shrinkWrong_115
    have h49 := (nI_eq (b := 32) (by have := hV.len (b + x); omega) (by decide)).mp h49
    refine lv_bipush (v := (-2)) hx hb d_Mo_shrinkWrong_52 (by decide) ?_
    exact W.iret (v := (-2)) hx hb hr (fun t ht hW => ⟨(-2), rfl, (by unfold swN; rw [if_pos ⟨⟨h6, h18⟩, h29⟩, if_pos h49]), ht⟩) (fun q h => nomatch h) d_Mo_shrinkWrong_54
  have h29 := mt (pI_ge (fun j q => by have := hV.par q; omega)).mpr h29
  refine lv_bipush (v := (-5)) hx hb d_Mo_shrinkWrong_32 (by decide) ?_
  exact W.iret (v := (-5)) hx hb hr (fun t ht hW => ⟨(-5), rfl, (by unfold swN; rw [if_neg (fun q => h29 q.2)]), ht⟩) (fun q h => nomatch h) d_Mo_shrinkWrong_34
