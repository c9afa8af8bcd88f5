/-! what chaining does -/
abbrev rPut (X : RS) (o : Option Nat) (a : Nat) (q : Option Nat) : RS := mkR X.pre X.len X.lev X.hol X.sta X.en X.par (match o with
  | none => va_up X.fc a q
  | some _ => X.fc) (match o with
  | none => X.nx
  | some k => va_up X.nx k q) X.n
abbrev rNx (X : RS) (r : Nat) (q : Option Nat) : RS := mkR X.pre X.len X.lev X.hol X.sta X.en X.par X.fc (va_up X.nx r q) X.n
abbrev rSta (X : RS) (r v : Nat) : RS := mkR X.pre X.len X.lev X.hol (va_up X.sta r v) X.en X.par X.fc X.nx X.n
def walkI (X : RS) (v : Nat) : Option Nat → List Nat → Option Nat × Option Nat
  | b, [] => (b, none)
  | b, j :: t => if X.pre j < v then walkI X v (some j) t else (b, some j)
def walkU (r : Nat) : Option Nat → List Nat → Option Nat
  | b, [] => b
  | b, j :: t => if j = r then b else walkU r (some j) t
def rChn (X : RS) (r p : Nat) (L : List Nat) : RS := rPut (rNx X r (walkI X (X.pre r) none L).2) (walkI X (X.pre r) none L).1 p (some r)
def rUnc (X : RS) (r p : Nat) (L : List Nat) : RS := rPut X (walkU r none L) p (X.nx r)
def rRet (X : RS) (r : Nat) (L : List Nat) : RS := match X.par r with
  | none => rSta X r 4
  | some p => rUnc (rSta X r 4) r p L
abbrev rBel (X : RS) (a p n v : Nat) : RS := mkR (va_up X.pre X.n p) (va_up X.len X.n n) (va_up X.lev X.n (X.lev a + 1)) (va_up X.hol X.n (X.hol a)) (va_up X.sta X.n v) (va_up X.en X.n 0) (va_up X.par X.n (some a)) (va_up X.fc X.n none) (va_up X.nx X.n none) (X.n + 1)
theorem chn_congr {nx nx' : Nat → Option Nat} : ∀ {L : List Nat} {o : Option Nat}, chn nx o L → (∀ j ∈ L, nx' j = nx j) → chn nx' o L
  | [], _, h, _ => h
  | j :: t, _, h, e => ⟨h.1, by rw [e j List.mem_cons_self]; exact chn_congr h.2 (fun k q => e k (List.mem_cons_of_mem _ q))⟩
theorem chn_bel {X : RS} {L : List Nat} {a p n v : Nat} (h : chn X.nx (X.fc a) L) (hL : ∀ c9 ∈ L, c9 < X.n) (ha : a < X.n) : chn (rBel X a p n v).nx ((rBel X a p n v).fc a) L := by
  have e : (rBel X a p n v).fc a = X.fc a := va_up_ne _ _ (by omega)
  rw [e]
  exact chn_congr h (fun j q => va_up_ne _ _ (by have := hL j q; omega))
theorem up_all {α : Type} {P : α → Prop} {f : Nat → α} {k : Nat} {v : α} (h : ∀ j, P (f j)) (hv : P v) : ∀ j, P (va_up f k v j) := by
  intro j; unfold va_up; split
  · exact hv
  · exact h j
theorem RSok.mk {pre len lev hol sta en : Nat → Nat} {par fc nx : Nat → Option Nat} {n : Nat} (h0 : n ≤ 200) (h1 : ∀ j, pre j < 4294967296) (h2 : ∀ j, len j < 33) (h3 : ∀ j, lev j < 5) (h4 : ∀ j, hol j < 10000) (h5 : ∀ j, sta j < 5) (h6 : ∀ j, en j < 200000) (h7 : ∀ j, ∀ k, par j = some k → k < 200) (h8 : ∀ j, ∀ k, fc j = some k → k < 200) (h9 : ∀ j, ∀ k, nx j = some k → k < 200) : RSok (mkR pre len lev hol sta en par fc nx n) :=
  ⟨h0, fun j => ⟨h1 j, h2 j, h3 j, h4 j, h5 j, h6 j, h7 j, h8 j, h9 j⟩⟩
theorem RSok.sta4 {X : RS} (hX : RSok X) {r v : Nat} (hv : v < 5) : RSok (rSta X r v) :=
  RSok.mk hX.n hX.pre hX.len hX.lev hX.hol (up_all (P := (· < 5)) hX.sta hv) hX.en (fun j k q => hX.par q) (fun j k q => hX.fc q) (fun j k q => hX.nx q)
theorem RSok.bel {X : RS} (hX : RSok X) {a p n v : Nat} (hp : p < 4294967296) (hn : n < 33) (hv : v < 5) (hlv : X.lev a < 4) (ha : a < X.n) (hXn : X.n < 200) : RSok (rBel X a p n v) :=
  RSok.mk (by omega) (up_all (P := (· < 4294967296)) hX.pre hp) (up_all (P := (· < 33)) hX.len hn) (up_all (P := (· < 5)) hX.lev (by omega)) (up_all (P := (· < 10000)) hX.hol (hX.hol a)) (up_all (P := (· < 5)) hX.sta hv) (up_all (P := (· < 200000)) hX.en (by decide))
    (up_all (P := fun o => ∀ k, o = some k → k < 200) (fun j k q => hX.par q) (fun k q => by cases q; omega)) (up_all (P := fun o => ∀ k, o = some k → k < 200) (fun j k q => hX.fc q) (fun k q => nomatch q)) (up_all (P := fun o => ∀ k, o = some k → k < 200) (fun j k q => hX.nx q) (fun k q => nomatch q))
set_option maxHeartbeats 4000000 in
set_option maxRecDepth 100000 in
theorem c_Re_putBehind (l : Launch) (dC : Nat → ClassId) (dI : Nat → Nat → Nat) (sz : Nat) (cI : ClassId) (h : Nat) (b : Nat → Nat) (X : RS) (o : Option Nat) (a : Nat) (q : Option Nat) (ho : ∀ k, o = some k → k < 200) (ha : a < 200) : Met l y_Re_putBehind (.code y_Re_putBehind b_Re_putBehind 4 none :: wG) ({ frames := 0, cells := 0, slots := 0, locals := 0 }) (PcM (dC, dI) [(cI, .int)] (wRe cI h b X) [.ref h, .int (pI o), .int (nI a), .int (pI q)] sz) (QmV (dC, dI) [(cI, .int)] (wRe cI h b X) (wRe cI h b (rPut X o a q)) sz) 0 0 (va_A (wRe cI h b X) sz) := by
  refine Met.ofW (cc := b_Re_putBehind) (maxL := 4) (ret := none) (by decide) rfl ?_
  intro pg eg s mg ag bg meth cg s₁ B hml hv
  obtain ⟨rfl, hsz, hP, hK, hD0, hN⟩ := hv
  have hx := B.exec
  have hb := B.bytes
  have hr := B.returns
  have hlocks := B.notSynchronized
  have hts : ∀ w9 ∈ wG, w9.before ([.ref h, .int (pI o), .int (nI a), .int (pI q)] : List Value).toArray s = true := fun w9 h9 => atoms_spec (ws := (.code y_Re_putBehind b_Re_putBehind 4 none :: wG)) B.pre w9 (List.mem_cons_of_mem _ h9)
  have hown : s.vm.findClass "PrefixRegistry$Records" = some mg.cls := findClass_of_methodNamed B.named
  subst hsz
  have hD := hD0.self (sz := s.heap.size)
  unfold QmV
  generalize hAe : va_A (wRe cI h b X) s.heap.size = A at hD ⊢
  have hA : ∀ q : Nat, s.heap.size ≤ q → A q := fun q h => by rw [← hAe]; exact Or.inr h
  have hS : va_S A s.heap s.heap [] := va_S.rf
  have hl := lv_entry ([.ref h, .int (pI o), .int (nI a), .int (pI q)]) (n := 4) (Nat.le_of_ble_eq_true rfl)
  rw [lg_entry_eq]
  generalize (lg_sl ([.ref h, .int (pI o), .int (nI a), .int (pI q)]) ++ List.replicate (4 - (lg_sl ([.ref h, .int (pI o), .int (nI a), .int (pI q)])).length) Slot.unset).toArray = ls at hl ⊢
  replace hl : lv_has ls 4 [(0, .ref h), (1, .int (pI o)), (2, .int (nI a)), (3, .int (pI q))] := hl
  replace hP : va_P (dC, dI) classes (wRe cI h b X) s.heap := hP
  replace hD : va_D A (wRe cI h b X) := hD
  cases o with
  | none =>
    replace hl : lv_has ls 4 [(0, .ref h), (1, .int (pI none)), (2, .int (nI a)), (3, .int (pI q))] := hl
    refine lv_iload_n hx hb d_Re_putBehind_0 rfl (lv_at hl 1 rfl) ?_
    refine lv_iconst (v := (-1)) hx hb d_Re_putBehind_1 (by decide) ?_
    refine lv_icmp_ne hx hb d_Re_putBehind_2 rfl (fun h9 => absurd h9 (fun q => q rfl)) (fun _ => ?_)
    refine lv_aload_n hx hb d_Re_putBehind_5 rfl (lv_at hl 0 rfl) ?_
    refine va_get (D := (dC, dI)) (ci := 3) (v := .ref (b 7)) (C := R_Re) (T := F_Re) (N := 10) hx hb hts u_Re hown hK hP 0 rfl rfl 7 (by decide) (hts _ kw_52) (fun _ h9 => h9) rfl d_Re_putBehind_6 ?_
    refine lv_iload_n hx hb d_Re_putBehind_9 rfl (lv_at hl 2 rfl) ?_
    refine lv_iload_n hx hb d_Re_putBehind_10 rfl (lv_at hl 3 rfl) ?_
    refine x_iast (j := a) (g := (fun z9 => pI (va_up X.fc a q z9))) hx hb hK hP hD hS 8 0 rfl rfl ha (by decide) rfl (up_pI _ _ q) rfl d_Re_putBehind_11 (fun H locs hP hD hS => ?_)
    replace hP : va_P (dC, dI) classes [(h, .inr (3, [.ref (b 0), .ref (b 1), .ref (b 2), .ref (b 3), .ref (b 4), .ref (b 5), .ref (b 6), .ref (b 7), .ref (b 8), .int (nI X.n)])), ((b 0), .inl (cI, 200, .inl (fun z9 => nI (X.pre z9)))), ((b 1), .inl (cI, 200, .inl (fun z9 => nI (X.len z9)))), ((b 2), .inl (cI, 200, .inl (fun z9 => pI (X.par z9)))), ((b 3), .inl (cI, 200, .inl (fun z9 => nI (X.lev z9)))), ((b 4), .inl (cI, 200, .inl (fun z9 => nI (X.hol z9)))), ((b 5), .inl (cI, 200, .inl (fun z9 => nI (X.sta z9)))), ((b 6), .inl (cI, 200, .inl (fun z9 => nI (X.en z9)))), ((b 7), .inl (cI, 200, .inl (fun z9 => pI (va_up X.fc a q z9)))), ((b 8), .inl (cI, 200, .inl (fun z9 => pI (X.nx z9))))] H := hP
    replace hD : va_D A [(h, .inr (3, [.ref (b 0), .ref (b 1), .ref (b 2), .ref (b 3), .ref (b 4), .ref (b 5), .ref (b 6), .ref (b 7), .ref (b 8), .int (nI X.n)])), ((b 0), .inl (cI, 200, .inl (fun z9 => nI (X.pre z9)))), ((b 1), .inl (cI, 200, .inl (fun z9 => nI (X.len z9)))), ((b 2), .inl (cI, 200, .inl (fun z9 => pI (X.par z9)))), ((b 3), .inl (cI, 200, .inl (fun z9 => nI (X.lev z9)))), ((b 4), .inl (cI, 200, .inl (fun z9 => nI (X.hol z9)))), ((b 5), .inl (cI, 200, .inl (fun z9 => nI (X.sta z9)))), ((b 6), .inl (cI, 200, .inl (fun z9 => nI (X.en z9)))), ((b 7), .inl (cI, 200, .inl (fun z9 => pI (va_up X.fc a q z9)))), ((b 8), .inl (cI, 200, .inl (fun z9 => pI (X.nx z9))))] := hD
    refine lv_goto hx hb d_Re_putBehind_12 rfl ?_
    have hP9 : va_P (dC, dI) classes (wRe cI h b (rPut X none a q)) H := hP
    have hD9 : va_D A (wRe cI h b (rPut X none a q)) := hD
    exact W.vret hx hb hr (fun t ht hW => ⟨⟨(), rfl, trivial, by rw [ht]; exact hP9, va_K.moved hW.alike hK, hD9⟩, hS.F ht⟩) hS.2.2 d_Re_putBehind_22
  | some k =>
    replace hl : lv_has ls 4 [(0, .ref h), (1, .int (nI k)), (2, .int (nI a)), (3, .int (pI q))] := hl
    refine lv_iload_n hx hb d_Re_putBehind_0 rfl (lv_at hl 1 rfl) ?_
    refine lv_iconst (v := (-1)) hx hb d_Re_putBehind_1 (by decide) ?_
    refine lv_icmp_ne hx hb d_Re_putBehind_2 rfl (fun h2 => ?_) (fun h9 => absurd h9 (k_nm1 (ho k rfl)))
    refine lv_aload_n hx hb d_Re_putBehind_15 rfl (lv_at hl 0 rfl) ?_
    refine va_get (D := (dC, dI)) (ci := 3) (v := .ref (b 8)) (C := R_Re) (T := F_Re) (N := 10) hx hb hts u_Re hown hK hP 0 rfl rfl 8 (by decide) (hts _ kw_55) (fun _ h9 => h9) rfl d_Re_putBehind_16 ?_
    refine lv_iload_n hx hb d_Re_putBehind_19 rfl (lv_at hl 1 rfl) ?_
    refine lv_iload_n hx hb d_Re_putBehind_20 rfl (lv_at hl 3 rfl) ?_
    refine x_iast (j := k) (g := (fun z9 => pI (va_up X.nx k q z9))) hx hb hK hP hD hS 9 0 rfl rfl (ho k rfl) (by decide) rfl (up_pI _ _ q) rfl d_Re_putBehind_21 (fun H locs hP hD hS => ?_)
    replace hP : va_P (dC, dI) classes [(h, .inr (3, [.ref (b 0), .ref (b 1), .ref (b 2), .ref (b 3), .ref (b 4), .ref (b 5), .ref (b 6), .ref (b 7), .ref (b 8), .int (nI X.n)])), ((b 0), .inl (cI, 200, .inl (fun z9 => nI (X.pre z9)))), ((b 1), .inl (cI, 200, .inl (fun z9 => nI (X.len z9)))), ((b 2), .inl (cI, 200, .inl (fun z9 => pI (X.par z9)))), ((b 3), .inl (cI, 200, .inl (fun z9 => nI (X.lev z9)))), ((b 4), .inl (cI, 200, .inl (fun z9 => nI (X.hol z9)))), ((b 5), .inl (cI, 200, .inl (fun z9 => nI (X.sta z9)))), ((b 6), .inl (cI, 200, .inl (fun z9 => nI (X.en z9)))), ((b 7), .inl (cI, 200, .inl (fun z9 => pI (X.fc z9)))), ((b 8), .inl (cI, 200, .inl (fun z9 => pI (va_up X.nx k q z9))))] H := hP
    replace hD : va_D A [(h, .inr (3, [.ref (b 0), .ref (b 1), .ref (b 2), .ref (b 3), .ref (b 4), .ref (b 5), .ref (b 6), .ref (b 7), .ref (b 8), .int (nI X.n)])), ((b 0), .inl (cI, 200, .inl (fun z9 => nI (X.pre z9)))), ((b 1), .inl (cI, 200, .inl (fun z9 => nI (X.len z9)))), ((b 2), .inl (cI, 200, .inl (fun z9 => pI (X.par z9)))), ((b 3), .inl (cI, 200, .inl (fun z9 => nI (X.lev z9)))), ((b 4), .inl (cI, 200, .inl (fun z9 => nI (X.hol z9)))), ((b 5), .inl (cI, 200, .inl (fun z9 => nI (X.sta z9)))), ((b 6), .inl (cI, 200, .inl (fun z9 => nI (X.en z9)))), ((b 7), .inl (cI, 200, .inl (fun z9 => pI (X.fc z9)))), ((b 8), .inl (cI, 200, .inl (fun z9 => pI (va_up X.nx k q z9))))] := hD
    have hP9 : va_P (dC, dI) classes (wRe cI h b (rPut X (some k) a q)) H := hP
    have hD9 : va_D A (wRe cI h b (rPut X (some k) a q)) := hD
    exact W.vret hx hb hr (fun t ht hW => ⟨⟨(), rfl, trivial, by rw [ht]; exact hP9, va_K.moved hW.alike hK, hD9⟩, hS.F ht⟩) hS.2.2 d_Re_putBehind_22
set_option maxHeartbeats 4000000 in
set_option maxRecDepth 100000 in
theorem c_Re_chain (l : Launch) (dC : Nat → ClassId) (dI : Nat → Nat → Nat) (sz : Nat) (cI : ClassId) (h : Nat) (b : Nat → Nat) (X : RS) (hX : RSok X) (r : Nat) (hr0 : r < 200) (p : Nat) (hp : X.par r = some p) (hp0 : p < 200) (L : List Nat) (hC : chn X.nx (X.fc p) L) (hL : L.length ≤ 200) : Met l y_Re_chain (.code y_Re_chain b_Re_chain 5 none :: wG) ({ frames := 2, cells := 0, slots := 0, locals := 41 }) (PcM (dC, dI) [(cI, .int)] (wRe cI h b X) [.ref h, .int (nI r)] sz) (QmV (dC, dI) [(cI, .int)] (wRe cI h b X) (wRe cI h b (rChn X r p L)) sz) 0 0 (va_A (wRe cI h b X) sz) := by
  refine Met.ofW (cc := b_Re_chain) (maxL := 5) (ret := none) (by decide) rfl ?_
  intro pg eg s mg ag bg meth cg s₁ B hml hv
  obtain ⟨rfl, hsz, hP, hK, hD0, hN⟩ := hv
  have hx := B.exec
  have hb := B.bytes
  have hr := B.returns
  have hlocks := B.notSynchronized
  have hts : ∀ w9 ∈ wG, w9.before ([.ref h, .int (nI r)] : List Value).toArray s = true := fun w9 h9 => atoms_spec (ws := (.code y_Re_chain b_Re_chain 5 none :: wG)) B.pre w9 (List.mem_cons_of_mem _ h9)
  have hown : s.vm.findClass "PrefixRegistry$Records" = some mg.cls := findClass_of_methodNamed B.named
  subst hsz
  have hD := hD0.self (sz := s.heap.size)
  unfold QmV
  generalize hAe : va_A (wRe cI h b X) s.heap.size = A at hD ⊢
  have hA : ∀ q : Nat, s.heap.size ≤ q → A q := fun q h => by rw [← hAe]; exact Or.inr h
  have hS : va_S A s.heap s.heap [] := va_S.rf
  have hl := lv_entry ([.ref h, .int (nI r)]) (n := 5) (Nat.le_of_ble_eq_true rfl)
  rw [lg_entry_eq]
  generalize (lg_sl ([.ref h, .int (nI r)]) ++ List.replicate (5 - (lg_sl ([.ref h, .int (nI r)])).length) Slot.unset).toArray = ls at hl ⊢
  replace hl : lv_has ls 5 [(0, .ref h), (1, .int (nI r))] := hl
  replace hP : va_P (dC, dI) classes (wRe cI h b X) s.heap := hP
  replace hD : va_D A (wRe cI h b X) := hD
  refine lv_iconst (v := (-1)) hx hb d_Re_chain_0 (by decide) ?_
  refine lv_istore_n hx hb d_Re_chain_1 rfl hl (by decide) rfl (fun ls hl => ?_)
  replace hl : lv_has ls 5 [(2, .int (-1)), (0, .ref h), (1, .int (nI r))] := hl
  refine lv_aload_n hx hb d_Re_chain_2 rfl (lv_at hl 1 rfl) ?_
  refine va_get (D := (dC, dI)) (ci := 3) (v := .ref (b 7)) (C := R_Re) (T := F_Re) (N := 10) hx hb hts u_Re hown hK hP 0 rfl rfl 7 (by decide) (hts _ kw_52) (fun _ h9 => h9) rfl d_Re_chain_3 ?_
  refine lv_aload_n hx hb d_Re_chain_6 rfl (lv_at hl 1 rfl) ?_
  refine va_get (D := (dC, dI)) (ci := 3) (v := .ref (b 2)) (C := R_Re) (T := F_Re) (N := 10) hx hb hts u_Re hown hK hP 0 rfl rfl 2 (by decide) (hts _ kw_41) (fun _ h9 => h9) rfl d_Re_chain_7 ?_
  refine lv_iload_n hx hb d_Re_chain_10 rfl (lv_at hl 2 rfl) ?_
  refine x_iald (j := r) (v := (pI (X.par r))) hx hb hK hP 3 0 rfl rfl hr0 (by decide) rfl rfl d_Re_chain_11 ?_
  refine x_topi (y := (nI p)) (by rw [hp]; rfl) ?_
  refine x_iald (j := p) (v := (pI (X.fc p))) hx hb hK hP 8 0 rfl rfl hp0 (by decide) rfl rfl d_Re_chain_12 ?_
  refine lv_istore_n hx hb d_Re_chain_13 rfl hl (by decide) rfl (fun ls hl => ?_)
  replace hl : lv_has ls 5 [(3, .int (pI (X.fc p))), (2, .int (-1)), (0, .ref h), (1, .int (nI r))] := hl
  refine lv_iconst (v := 0) hx hb d_Re_chain_14 (by decide) ?_
  refine lv_istore hx hb d_Re_chain_15 hl (by decide) rfl (fun ls hl => ?_)
  replace hl : lv_has ls 5 [(4, .int 0), (3, .int (pI (X.fc p))), (2, .int (-1)), (0, .ref h), (1, .int (nI r))] := hl
  obtain ⟨Kl, hK0⟩ : ∃ Kl : List Nat, Kl = L := ⟨L, rfl⟩
  obtain ⟨i, hi⟩ : ∃ i : Nat, i = 0 := ⟨0, rfl⟩
  obtain ⟨bf, hbf⟩ : ∃ bf : Option Nat, bf = none := ⟨_, rfl⟩
  have hres : walkI X (X.pre r) bf Kl = walkI X (X.pre r) none L := by rw [hK0, hbf]
  have hbf2 : ∀ k, bf = some k → k < 200 := by intro k q; rw [hbf] at q; cases q
  replace hl : lv_has ls 5 [(4, .int (nI i)), (3, .int (pI (X.fc p))), (2, .int (pI bf)), (0, .ref h), (1, .int (nI r))] := by subst hi; subst hbf; exact hl
  clear hbf
  have ho : ∀ k, X.fc p = some k → k < 200 := fun k q => hX.fc q
  replace hC := hK0 ▸ hC
  replace hi : i + Kl.length ≤ 200 := by rw [hi, hK0]; omega
  clear hK0
  generalize X.fc p = o at hC ho hl
  replace hC : chn X.nx o Kl := hC
  replace ho := ho
  replace hi := hi
  replace hres := hres
  replace hbf2 := hbf2
  replace hl : lv_has ls 5 [(4, .int (nI i)), (3, .int (pI o)), (2, .int (pI bf)), (0, .ref h), (1, .int (nI r))] := hl
  induction Kl generalizing o i ls bf with
  | nil =>
    obtain rfl : o = none := hC
    replace hl : lv_has ls 5 [(4, .int (nI i)), (3, .int (pI none)), (2, .int (pI bf)), (0, .ref h), (1, .int (nI r))] := hl
    refine lv_iload hx hb d_Re_chain_17 (lv_at hl 0 rfl) ?_
    refine lv_sipush (v := 200) hx hb d_Re_chain_19 (by decide) ?_
    refine lv_icmp_ge hx hb d_Re_chain_22 rfl (fun h22 => ?_) (fun h22 => ?_)
    · refine lv_aload_n hx hb d_Re_chain_59 rfl (lv_at hl 3 rfl) ?_
      refine va_get (D := (dC, dI)) (ci := 3) (v := .ref (b 8)) (C := R_Re) (T := F_Re) (N := 10) hx hb hts u_Re hown hK hP 0 rfl rfl 8 (by decide) (hts _ kw_55) (fun _ h9 => h9) rfl d_Re_chain_60 ?_
      refine lv_iload_n hx hb d_Re_chain_63 rfl (lv_at hl 4 rfl) ?_
      refine lv_iload_n hx hb d_Re_chain_64 rfl (lv_at hl 1 rfl) ?_
      refine x_iast (j := r) (g := (fun z9 => pI (va_up X.nx r none z9))) hx hb hK hP hD hS 9 0 rfl rfl hr0 (by decide) rfl (up_pI _ _ none) rfl d_Re_chain_65 (fun H locs hP hD hS => ?_)
      replace hP : va_P (dC, dI) classes [(h, .inr (3, [.ref (b 0), .ref (b 1), .ref (b 2), .ref (b 3), .ref (b 4), .ref (b 5), .ref (b 6), .ref (b 7), .ref (b 8), .int (nI X.n)])), ((b 0), .inl (cI, 200, .inl (fun z9 => nI (X.pre z9)))), ((b 1), .inl (cI, 200, .inl (fun z9 => nI (X.len z9)))), ((b 2), .inl (cI, 200, .inl (fun z9 => pI (X.par z9)))), ((b 3), .inl (cI, 200, .inl (fun z9 => nI (X.lev z9)))), ((b 4), .inl (cI, 200, .inl (fun z9 => nI (X.hol z9)))), ((b 5), .inl (cI, 200, .inl (fun z9 => nI (X.sta z9)))), ((b 6), .inl (cI, 200, .inl (fun z9 => nI (X.en z9)))), ((b 7), .inl (cI, 200, .inl (fun z9 => pI (X.fc z9)))), ((b 8), .inl (cI, 200, .inl (fun z9 => pI (va_up X.nx r none z9))))] H := hP
      replace hD : va_D A [(h, .inr (3, [.ref (b 0), .ref (b 1), .ref (b 2), .ref (b 3), .ref (b 4), .ref (b 5), .ref (b 6), .ref (b 7), .ref (b 8), .int (nI X.n)])), ((b 0), .inl (cI, 200, .inl (fun z9 => nI (X.pre z9)))), ((b 1), .inl (cI, 200, .inl (fun z9 => nI (X.len z9)))), ((b 2), .inl (cI, 200, .inl (fun z9 => pI (X.par z9)))), ((b 3), .inl (cI, 200, .inl (fun z9 => nI (X.lev z9)))), ((b 4), .inl (cI, 200, .inl (fun z9 => nI (X.hol z9)))), ((b 5), .inl (cI, 200, .inl (fun z9 => nI (X.sta z9)))), ((b 6), .inl (cI, 200, .inl (fun z9 => nI (X.en z9)))), ((b 7), .inl (cI, 200, .inl (fun z9 => pI (X.fc z9)))), ((b 8), .inl (cI, 200, .inl (fun z9 => pI (va_up X.nx r none z9))))] := hD
      refine lv_aload_n hx hb d_Re_chain_66 rfl (lv_at hl 3 rfl) ?_
      refine lv_iload_n hx hb d_Re_chain_67 rfl (lv_at hl 2 rfl) ?_
      refine lv_aload_n hx hb d_Re_chain_68 rfl (lv_at hl 3 rfl) ?_
      refine va_get (D := (dC, dI)) (ci := 3) (v := .ref (b 2)) (C := R_Re) (T := F_Re) (N := 10) hx hb hts u_Re hown hK hP 0 rfl rfl 2 (by decide) (hts _ kw_41) (fun _ h9 => h9) rfl d_Re_chain_69 ?_
      refine lv_iload_n hx hb d_Re_chain_72 rfl (lv_at hl 4 rfl) ?_
      refine x_iald (j := r) (v := (pI (X.par r))) hx hb hK hP 3 0 rfl rfl hr0 (by decide) rfl rfl d_Re_chain_73 ?_
      refine x_topi (y := (nI p)) (by rw [hp]; rfl) ?_
      refine lv_iload_n hx hb d_Re_chain_74 rfl (lv_at hl 4 rfl) ?_
      refine x_topi (y := (pI (some r))) rfl ?_
      have hPc := hP.sub (ws' := (wRe cI h b (rNx X r none))) [0, 1, 2, 3, 4, 5, 6, 7, 8, 9] rfl
      have hDc := hD.sub (ws' := (wRe cI h b (rNx X r none))) [0, 1, 2, 3, 4, 5, 6, 7, 8, 9] (by decide) rfl
      have hFc := va_free (wc := (wRe cI h b (rNx X r none))) hD hS hA [0, 1, 2, 3, 4, 5, 6, 7, 8, 9] rfl
      refine va_callv (va_runV (b := h) (As := [.int (pI bf), .int (nI p), .int (pI (some r))]) (rest := []) ⟨hx, hb, hml, hown, hts⟩ (c_Re_putBehind l dC dI H.size cI h b (rNx X r none) bf p (some r) hbf2 hp0) (cwV 3 hts (gV kw_397 kw_399 ks_5 kw_3 kw_400) rfl rfl rfl (by decide +kernel) ⟨Nat.le_of_ble_eq_true rfl, Nat.le_of_ble_eq_true rfl⟩) ⟨PcM.blind, va_recv (q0 := 0) hK hPc rfl rfl, PcM.use hPc hK hN hDc⟩ rfl rfl hl.1 rfl (lv_room (Nat.le_of_ble_eq_true rfl)) d_Re_chain_75 ⟨Nat.le_of_ble_eq_true rfl, Nat.le_of_ble_eq_true rfl⟩) hS (fun q _ h => hFc q h) hFc (fun u9 H9 H1 locs hH9 hv9 hp9 hB hz1 hk1 hS => ?_)
      obtain ⟨hP1, hK1, hD1⟩ := hB
      rw [hH9] at hP1
      obtain ⟨hP, hD⟩ := va_join (wr := []) (w1 := (wRe cI h b (rPut (rNx X r none) bf p (some r)))) hP hD [0, 1, 2, 3, 4, 5, 6, 7, 8, 9] [] rfl rfl (by decide) (by decide) hk1 hFc hP1 hD1
      clear hPc hDc hFc hP1 hD1 hK1 hk1 hz1 hv9 hH9
      generalize H1 = H at hP hS ⊢
      replace hP : va_P (dC, dI) classes [(h, .inr (3, [.ref (b 0), .ref (b 1), .ref (b 2), .ref (b 3), .ref (b 4), .ref (b 5), .ref (b 6), .ref (b 7), .ref (b 8), .int (nI (rPut (rNx X r none) bf p (some r)).n)])), ((b 0), .inl (cI, 200, .inl (fun z9 => nI ((rPut (rNx X r none) bf p (some r)).pre z9)))), ((b 1), .inl (cI, 200, .inl (fun z9 => nI ((rPut (rNx X r none) bf p (some r)).len z9)))), ((b 2), .inl (cI, 200, .inl (fun z9 => pI ((rPut (rNx X r none) bf p (some r)).par z9)))), ((b 3), .inl (cI, 200, .inl (fun z9 => nI ((rPut (rNx X r none) bf p (some r)).lev z9)))), ((b 4), .inl (cI, 200, .inl (fun z9 => nI ((rPut (rNx X r none) bf p (some r)).hol z9)))), ((b 5), .inl (cI, 200, .inl (fun z9 => nI ((rPut (rNx X r none) bf p (some r)).sta z9)))), ((b 6), .inl (cI, 200, .inl (fun z9 => nI ((rPut (rNx X r none) bf p (some r)).en z9)))), ((b 7), .inl (cI, 200, .inl (fun z9 => pI ((rPut (rNx X r none) bf p (some r)).fc z9)))), ((b 8), .inl (cI, 200, .inl (fun z9 => pI ((rPut (rNx X r none) bf p (some r)).nx z9))))] H := hP.sub (ws' := [(h, .inr (3, [.ref (b 0), .ref (b 1), .ref (b 2), .ref (b 3), .ref (b 4), .ref (b 5), .ref (b 6), .ref (b 7), .ref (b 8), .int (nI (rPut (rNx X r none) bf p (some r)).n)])), ((b 0), .inl (cI, 200, .inl (fun z9 => nI ((rPut (rNx X r none) bf p (some r)).pre z9)))), ((b 1), .inl (cI, 200, .inl (fun z9 => nI ((rPut (rNx X r none) bf p (some r)).len z9)))), ((b 2), .inl (cI, 200, .inl (fun z9 => pI ((rPut (rNx X r none) bf p (some r)).par z9)))), ((b 3), .inl (cI, 200, .inl (fun z9 => nI ((rPut (rNx X r none) bf p (some r)).lev z9)))), ((b 4), .inl (cI, 200, .inl (fun z9 => nI ((rPut (rNx X r none) bf p (some r)).hol z9)))), ((b 5), .inl (cI, 200, .inl (fun z9 => nI ((rPut (rNx X r none) bf p (some r)).sta z9)))), ((b 6), .inl (cI, 200, .inl (fun z9 => nI ((rPut (rNx X r none) bf p (some r)).en z9)))), ((b 7), .inl (cI, 200, .inl (fun z9 => pI ((rPut (rNx X r none) bf p (some r)).fc z9)))), ((b 8), .inl (cI, 200, .inl (fun z9 => pI ((rPut (rNx X r none) bf p (some r)).nx z9))))]) [0, 1, 2, 3, 4, 5, 6, 7, 8, 9] rfl
      replace hD : va_D A [(h, .inr (3, [.ref (b 0), .ref (b 1), .ref (b 2), .ref (b 3), .ref (b 4), .ref (b 5), .ref (b 6), .ref (b 7), .ref (b 8), .int (nI (rPut (rNx X r none) bf p (some r)).n)])), ((b 0), .inl (cI, 200, .inl (fun z9 => nI ((rPut (rNx X r none) bf p (some r)).pre z9)))), ((b 1), .inl (cI, 200, .inl (fun z9 => nI ((rPut (rNx X r none) bf p (some r)).len z9)))), ((b 2), .inl (cI, 200, .inl (fun z9 => pI ((rPut (rNx X r none) bf p (some r)).par z9)))), ((b 3), .inl (cI, 200, .inl (fun z9 => nI ((rPut (rNx X r none) bf p (some r)).lev z9)))), ((b 4), .inl (cI, 200, .inl (fun z9 => nI ((rPut (rNx X r none) bf p (some r)).hol z9)))), ((b 5), .inl (cI, 200, .inl (fun z9 => nI ((rPut (rNx X r none) bf p (some r)).sta z9)))), ((b 6), .inl (cI, 200, .inl (fun z9 => nI ((rPut (rNx X r none) bf p (some r)).en z9)))), ((b 7), .inl (cI, 200, .inl (fun z9 => pI ((rPut (rNx X r none) bf p (some r)).fc z9)))), ((b 8), .inl (cI, 200, .inl (fun z9 => pI ((rPut (rNx X r none) bf p (some r)).nx z9))))] := hD.sub (ws' := [(h, .inr (3, [.ref (b 0), .ref (b 1), .ref (b 2), .ref (b 3), .ref (b 4), .ref (b 5), .ref (b 6), .ref (b 7), .ref (b 8), .int (nI (rPut (rNx X r none) bf p (some r)).n)])), ((b 0), .inl (cI, 200, .inl (fun z9 => nI ((rPut (rNx X r none) bf p (some r)).pre z9)))), ((b 1), .inl (cI, 200, .inl (fun z9 => nI ((rPut (rNx X r none) bf p (some r)).len z9)))), ((b 2), .inl (cI, 200, .inl (fun z9 => pI ((rPut (rNx X r none) bf p (some r)).par z9)))), ((b 3), .inl (cI, 200, .inl (fun z9 => nI ((rPut (rNx X r none) bf p (some r)).lev z9)))), ((b 4), .inl (cI, 200, .inl (fun z9 => nI ((rPut (rNx X r none) bf p (some r)).hol z9)))), ((b 5), .inl (cI, 200, .inl (fun z9 => nI ((rPut (rNx X r none) bf p (some r)).sta z9)))), ((b 6), .inl (cI, 200, .inl (fun z9 => nI ((rPut (rNx X r none) bf p (some r)).en z9)))), ((b 7), .inl (cI, 200, .inl (fun z9 => pI ((rPut (rNx X r none) bf p (some r)).fc z9)))), ((b 8), .inl (cI, 200, .inl (fun z9 => pI ((rPut (rNx X r none) bf p (some r)).nx z9))))]) [0, 1, 2, 3, 4, 5, 6, 7, 8, 9] (by decide) rfl
      have e9 : walkI X (X.pre r) none L = (bf, none) := hres.symm
      have hP9 : va_P (dC, dI) classes (wRe cI h b (rChn X r p L)) H := by unfold rChn; rw [e9]; exact hP
      have hD9 : va_D A (wRe cI h b (rChn X r p L)) := by unfold rChn; rw [e9]; exact hD
      exact W.vret hx hb hr (fun t ht hW => ⟨⟨(), rfl, trivial, by rw [ht]; exact hP9, va_K.moved hW.alike hK, hD9⟩, hS.F ht⟩) hS.2.2 d_Re_chain_78
    refine lv_iload_n hx hb d_Re_chain_25 rfl (lv_at hl 1 rfl) ?_
    refine lv_iconst (v := (-1)) hx hb d_Re_chain_26 (by decide) ?_
    refine lv_icmp_eq hx hb d_Re_chain_27 rfl (fun _ => ?_) (fun h9 => absurd rfl h9)
    refine lv_aload_n hx hb d_Re_chain_59 rfl (lv_at hl 3 rfl) ?_
    refine va_get (D := (dC, dI)) (ci := 3) (v := .ref (b 8)) (C := R_Re) (T := F_Re) (N := 10) hx hb hts u_Re hown hK hP 0 rfl rfl 8 (by decide) (hts _ kw_55) (fun _ h9 => h9) rfl d_Re_chain_60 ?_
    refine lv_iload_n hx hb d_Re_chain_63 rfl (lv_at hl 4 rfl) ?_
    refine lv_iload_n hx hb d_Re_chain_64 rfl (lv_at hl 1 rfl) ?_
    refine x_iast (j := r) (g := (fun z9 => pI (va_up X.nx r none z9))) hx hb hK hP hD hS 9 0 rfl rfl hr0 (by decide) rfl (up_pI _ _ none) rfl d_Re_chain_65 (fun H locs hP hD hS => ?_)
    replace hP : va_P (dC, dI) classes [(h, .inr (3, [.ref (b 0), .ref (b 1), .ref (b 2), .ref (b 3), .ref (b 4), .ref (b 5), .ref (b 6), .ref (b 7), .ref (b 8), .int (nI X.n)])), ((b 0), .inl (cI, 200, .inl (fun z9 => nI (X.pre z9)))), ((b 1), .inl (cI, 200, .inl (fun z9 => nI (X.len z9)))), ((b 2), .inl (cI, 200, .inl (fun z9 => pI (X.par z9)))), ((b 3), .inl (cI, 200, .inl (fun z9 => nI (X.lev z9)))), ((b 4), .inl (cI, 200, .inl (fun z9 => nI (X.hol z9)))), ((b 5), .inl (cI, 200, .inl (fun z9 => nI (X.sta z9)))), ((b 6), .inl (cI, 200, .inl (fun z9 => nI (X.en z9)))), ((b 7), .inl (cI, 200, .inl (fun z9 => pI (X.fc z9)))), ((b 8), .inl (cI, 200, .inl (fun z9 => pI (va_up X.nx r none z9))))] H := hP
    replace hD : va_D A [(h, .inr (3, [.ref (b 0), .ref (b 1), .ref (b 2), .ref (b 3), .ref (b 4), .ref (b 5), .ref (b 6), .ref (b 7), .ref (b 8), .int (nI X.n)])), ((b 0), .inl (cI, 200, .inl (fun z9 => nI (X.pre z9)))), ((b 1), .inl (cI, 200, .inl (fun z9 => nI (X.len z9)))), ((b 2), .inl (cI, 200, .inl (fun z9 => pI (X.par z9)))), ((b 3), .inl (cI, 200, .inl (fun z9 => nI (X.lev z9)))), ((b 4), .inl (cI, 200, .inl (fun z9 => nI (X.hol z9)))), ((b 5), .inl (cI, 200, .inl (fun z9 => nI (X.sta z9)))), ((b 6), .inl (cI, 200, .inl (fun z9 => nI (X.en z9)))), ((b 7), .inl (cI, 200, .inl (fun z9 => pI (X.fc z9)))), ((b 8), .inl (cI, 200, .inl (fun z9 => pI (va_up X.nx r none z9))))] := hD
    refine lv_aload_n hx hb d_Re_chain_66 rfl (lv_at hl 3 rfl) ?_
    refine lv_iload_n hx hb d_Re_chain_67 rfl (lv_at hl 2 rfl) ?_
    refine lv_aload_n hx hb d_Re_chain_68 rfl (lv_at hl 3 rfl) ?_
    refine va_get (D := (dC, dI)) (ci := 3) (v := .ref (b 2)) (C := R_Re) (T := F_Re) (N := 10) hx hb hts u_Re hown hK hP 0 rfl rfl 2 (by decide) (hts _ kw_41) (fun _ h9 => h9) rfl d_Re_chain_69 ?_
    refine lv_iload_n hx hb d_Re_chain_72 rfl (lv_at hl 4 rfl) ?_
    refine x_iald (j := r) (v := (pI (X.par r))) hx hb hK hP 3 0 rfl rfl hr0 (by decide) rfl rfl d_Re_chain_73 ?_
    refine x_topi (y := (nI p)) (by rw [hp]; rfl) ?_
    refine lv_iload_n hx hb d_Re_chain_74 rfl (lv_at hl 4 rfl) ?_
    refine x_topi (y := (pI (some r))) rfl ?_
    have hPc := hP.sub (ws' := (wRe cI h b (rNx X r none))) [0, 1, 2, 3, 4, 5, 6, 7, 8, 9] rfl
    have hDc := hD.sub (ws' := (wRe cI h b (rNx X r none))) [0, 1, 2, 3, 4, 5, 6, 7, 8, 9] (by decide) rfl
    have hFc := va_free (wc := (wRe cI h b (rNx X r none))) hD hS hA [0, 1, 2, 3, 4, 5, 6, 7, 8, 9] rfl
    refine va_callv (va_runV (b := h) (As := [.int (pI bf), .int (nI p), .int (pI (some r))]) (rest := []) ⟨hx, hb, hml, hown, hts⟩ (c_Re_putBehind l dC dI H.size cI h b (rNx X r none) bf p (some r) hbf2 hp0) (cwV 3 hts (gV kw_397 kw_399 ks_5 kw_3 kw_400) rfl rfl rfl (by decide +kernel) ⟨Nat.le_of_ble_eq_true rfl, Nat.le_of_ble_eq_true rfl⟩) ⟨PcM.blind, va_recv (q0 := 0) hK hPc rfl rfl, PcM.use hPc hK hN hDc⟩ rfl rfl hl.1 rfl (lv_room (Nat.le_of_ble_eq_true rfl)) d_Re_chain_75 ⟨Nat.le_of_ble_eq_true rfl, Nat.le_of_ble_eq_true rfl⟩) hS (fun q _ h => hFc q h) hFc (fun u9 H9 H1 locs hH9 hv9 hp9 hB hz1 hk1 hS => ?_)
    obtain ⟨hP1, hK1, hD1⟩ := hB
    rw [hH9] at hP1
    obtain ⟨hP, hD⟩ := va_join (wr := []) (w1 := (wRe cI h b (rPut (rNx X r none) bf p (some r)))) hP hD [0, 1, 2, 3, 4, 5, 6, 7, 8, 9] [] rfl rfl (by decide) (by decide) hk1 hFc hP1 hD1
    clear hPc hDc hFc hP1 hD1 hK1 hk1 hz1 hv9 hH9
    generalize H1 = H at hP hS ⊢
    replace hP : va_P (dC, dI) classes [(h, .inr (3, [.ref (b 0), .ref (b 1), .ref (b 2), .ref (b 3), .ref (b 4), .ref (b 5), .ref (b 6), .ref (b 7), .ref (b 8), .int (nI (rPut (rNx X r none) bf p (some r)).n)])), ((b 0), .inl (cI, 200, .inl (fun z9 => nI ((rPut (rNx X r none) bf p (some r)).pre z9)))), ((b 1), .inl (cI, 200, .inl (fun z9 => nI ((rPut (rNx X r none) bf p (some r)).len z9)))), ((b 2), .inl (cI, 200, .inl (fun z9 => pI ((rPut (rNx X r none) bf p (some r)).par z9)))), ((b 3), .inl (cI, 200, .inl (fun z9 => nI ((rPut (rNx X r none) bf p (some r)).lev z9)))), ((b 4), .inl (cI, 200, .inl (fun z9 => nI ((rPut (rNx X r none) bf p (some r)).hol z9)))), ((b 5), .inl (cI, 200, .inl (fun z9 => nI ((rPut (rNx X r none) bf p (some r)).sta z9)))), ((b 6), .inl (cI, 200, .inl (fun z9 => nI ((rPut (rNx X r none) bf p (some r)).en z9)))), ((b 7), .inl (cI, 200, .inl (fun z9 => pI ((rPut (rNx X r none) bf p (some r)).fc z9)))), ((b 8), .inl (cI, 200, .inl (fun z9 => pI ((rPut (rNx X r none) bf p (some r)).nx z9))))] H := hP.sub (ws' := [(h, .inr (3, [.ref (b 0), .ref (b 1), .ref (b 2), .ref (b 3), .ref (b 4), .ref (b 5), .ref (b 6), .ref (b 7), .ref (b 8), .int (nI (rPut (rNx X r none) bf p (some r)).n)])), ((b 0), .inl (cI, 200, .inl (fun z9 => nI ((rPut (rNx X r none) bf p (some r)).pre z9)))), ((b 1), .inl (cI, 200, .inl (fun z9 => nI ((rPut (rNx X r none) bf p (some r)).len z9)))), ((b 2), .inl (cI, 200, .inl (fun z9 => pI ((rPut (rNx X r none) bf p (some r)).par z9)))), ((b 3), .inl (cI, 200, .inl (fun z9 => nI ((rPut (rNx X r none) bf p (some r)).lev z9)))), ((b 4), .inl (cI, 200, .inl (fun z9 => nI ((rPut (rNx X r none) bf p (some r)).hol z9)))), ((b 5), .inl (cI, 200, .inl (fun z9 => nI ((rPut (rNx X r none) bf p (some r)).sta z9)))), ((b 6), .inl (cI, 200, .inl (fun z9 => nI ((rPut (rNx X r none) bf p (some r)).en z9)))), ((b 7), .inl (cI, 200, .inl (fun z9 => pI ((rPut (rNx X r none) bf p (some r)).fc z9)))), ((b 8), .inl (cI, 200, .inl (fun z9 => pI ((rPut (rNx X r none) bf p (some r)).nx z9))))]) [0, 1, 2, 3, 4, 5, 6, 7, 8, 9] rfl
    replace hD : va_D A [(h, .inr (3, [.ref (b 0), .ref (b 1), .ref (b 2), .ref (b 3), .ref (b 4), .ref (b 5), .ref (b 6), .ref (b 7), .ref (b 8), .int (nI (rPut (rNx X r none) bf p (some r)).n)])), ((b 0), .inl (cI, 200, .inl (fun z9 => nI ((rPut (rNx X r none) bf p (some r)).pre z9)))), ((b 1), .inl (cI, 200, .inl (fun z9 => nI ((rPut (rNx X r none) bf p (some r)).len z9)))), ((b 2), .inl (cI, 200, .inl (fun z9 => pI ((rPut (rNx X r none) bf p (some r)).par z9)))), ((b 3), .inl (cI, 200, .inl (fun z9 => nI ((rPut (rNx X r none) bf p (some r)).lev z9)))), ((b 4), .inl (cI, 200, .inl (fun z9 => nI ((rPut (rNx X r none) bf p (some r)).hol z9)))), ((b 5), .inl (cI, 200, .inl (fun z9 => nI ((rPut (rNx X r none) bf p (some r)).sta z9)))), ((b 6), .inl (cI, 200, .inl (fun z9 => nI ((rPut (rNx X r none) bf p (some r)).en z9)))), ((b 7), .inl (cI, 200, .inl (fun z9 => pI ((rPut (rNx X r none) bf p (some r)).fc z9)))), ((b 8), .inl (cI, 200, .inl (fun z9 => pI ((rPut (rNx X r none) bf p (some r)).nx z9))))] := hD.sub (ws' := [(h, .inr (3, [.ref (b 0), .ref (b 1), .ref (b 2), .ref (b 3), .ref (b 4), .ref (b 5), .ref (b 6), .ref (b 7), .ref (b 8), .int (nI (rPut (rNx X r none) bf p (some r)).n)])), ((b 0), .inl (cI, 200, .inl (fun z9 => nI ((rPut (rNx X r none) bf p (some r)).pre z9)))), ((b 1), .inl (cI, 200, .inl (fun z9 => nI ((rPut (rNx X r none) bf p (some r)).len z9)))), ((b 2), .inl (cI, 200, .inl (fun z9 => pI ((rPut (rNx X r none) bf p (some r)).par z9)))), ((b 3), .inl (cI, 200, .inl (fun z9 => nI ((rPut (rNx X r none) bf p (some r)).lev z9)))), ((b 4), .inl (cI, 200, .inl (fun z9 => nI ((rPut (rNx X r none) bf p (some r)).hol z9)))), ((b 5), .inl (cI, 200, .inl (fun z9 => nI ((rPut (rNx X r none) bf p (some r)).sta z9)))), ((b 6), .inl (cI, 200, .inl (fun z9 => nI ((rPut (rNx X r none) bf p (some r)).en z9)))), ((b 7), .inl (cI, 200, .inl (fun z9 => pI ((rPut (rNx X r none) bf p (some r)).fc z9)))), ((b 8), .inl (cI, 200, .inl (fun z9 => pI ((rPut (rNx X r none) bf p (some r)).nx z9))))]) [0, 1, 2, 3, 4, 5, 6, 7, 8, 9] (by decide) rfl
    have e9 : walkI X (X.pre r) none L = (bf, none) := hres.symm
    have hP9 : va_P (dC, dI) classes (wRe cI h b (rChn X r p L)) H := by unfold rChn; rw [e9]; exact hP
    have hD9 : va_D A (wRe cI h b (rChn X r p L)) := by unfold rChn; rw [e9]; exact hD
    exact W.vret hx hb hr (fun t ht hW => ⟨⟨(), rfl, trivial, by rw [ht]; exact hP9, va_K.moved hW.alike hK, hD9⟩, hS.F ht⟩) hS.2.2 d_Re_chain_78
  | cons j t ih =>
    obtain ⟨rfl, hC⟩ := hC
    have hj : j < 200 := ho j rfl
    replace hi : i + (t.length + 1) ≤ 200 := hi
    replace hl : lv_has ls 5 [(4, .int (nI i)), (3, .int (nI j)), (2, .int (pI bf)), (0, .ref h), (1, .int (nI r))] := hl
    refine lv_iload hx hb d_Re_chain_17 (lv_at hl 0 rfl) ?_
    refine lv_sipush (v := 200) hx hb d_Re_chain_19 (by decide) ?_
    refine lv_icmp_ge hx hb d_Re_chain_22 rfl (fun h9 => absurd h9 (nI_ge (b := 200) (by omega) (by decide))) (fun _ => ?_)
    refine lv_iload_n hx hb d_Re_chain_25 rfl (lv_at hl 1 rfl) ?_
    refine lv_iconst (v := (-1)) hx hb d_Re_chain_26 (by decide) ?_
    refine lv_icmp_eq hx hb d_Re_chain_27 rfl (fun h9 => absurd h9 (k_nm1 hj)) (fun _ => ?_)
    refine lv_aload_n hx hb d_Re_chain_30 rfl (lv_at hl 3 rfl) ?_
    refine lv_iload_n hx hb d_Re_chain_31 rfl (lv_at hl 1 rfl) ?_
    refine vp_callSl (W.runV (b := h) (As := [.int (nI j)]) (rest := []) ⟨hx, hb, hml, hown, hts⟩ (c_Re_start l dC dI cI h b X hX j hj) (cwV 1 hts (gV kw_172 kw_173 kw_174 kw_3 kw_175) rfl rfl rfl (by decide +kernel) ⟨Nat.le_of_ble_eq_true rfl, Nat.le_of_ble_eq_true rfl⟩) ⟨PcS.blind, va_recv (q0 := 0) hK hP rfl rfl, PcS.use hP hK hN⟩ rfl rfl hl.1 rfl (lv_room (Nat.le_of_ble_eq_true rfl)) d_Re_chain_32 ⟨Nat.zero_le _, Nat.zero_le _⟩) (fun r32 hr32 => ?_)
    obtain rfl : r32 = lN (X.pre j) := hr32
    refine lv_aload_n hx hb d_Re_chain_35 rfl (lv_at hl 3 rfl) ?_
    refine lv_iload_n hx hb d_Re_chain_36 rfl (lv_at hl 4 rfl) ?_
    refine vp_callSl (W.runV (b := h) (As := [.int (nI r)]) (rest := [.long (lN (X.pre j))]) ⟨hx, hb, hml, hown, hts⟩ (c_Re_start l dC dI cI h b X hX r hr0) (cwV 1 hts (gV kw_172 kw_173 kw_174 kw_3 kw_175) rfl rfl rfl (by decide +kernel) ⟨Nat.le_of_ble_eq_true rfl, Nat.le_of_ble_eq_true rfl⟩) ⟨PcS.blind, va_recv (q0 := 0) hK hP rfl rfl, PcS.use hP hK hN⟩ rfl rfl hl.1 rfl (lv_room (Nat.le_of_ble_eq_true rfl)) d_Re_chain_37 ⟨Nat.zero_le _, Nat.zero_le _⟩) (fun r37 hr37 => ?_)
    obtain rfl : r37 = lN (X.pre r) := hr37
    refine W.lcmp hx hb d_Re_chain_40 ?_
    refine lv_if_ge hx hb d_Re_chain_41 rfl (fun h41 => ?_) (fun h41 => ?_)
    · have h41 := (k_cge (by have := hX.pre j; omega) (by have := hX.pre r; omega)).mp h41
      refine lv_aload_n hx hb d_Re_chain_59 rfl (lv_at hl 3 rfl) ?_
      refine va_get (D := (dC, dI)) (ci := 3) (v := .ref (b 8)) (C := R_Re) (T := F_Re) (N := 10) hx hb hts u_Re hown hK hP 0 rfl rfl 8 (by decide) (hts _ kw_55) (fun _ h9 => h9) rfl d_Re_chain_60 ?_
      refine lv_iload_n hx hb d_Re_chain_63 rfl (lv_at hl 4 rfl) ?_
      refine lv_iload_n hx hb d_Re_chain_64 rfl (lv_at hl 1 rfl) ?_
      refine x_iast (j := r) (g := (fun z9 => pI (va_up X.nx r (some j) z9))) hx hb hK hP hD hS 9 0 rfl rfl hr0 (by decide) rfl (up_pI _ _ (some j)) rfl d_Re_chain_65 (fun H locs hP hD hS => ?_)
      replace hP : va_P (dC, dI) classes [(h, .inr (3, [.ref (b 0), .ref (b 1), .ref (b 2), .ref (b 3), .ref (b 4), .ref (b 5), .ref (b 6), .ref (b 7), .ref (b 8), .int (nI X.n)])), ((b 0), .inl (cI, 200, .inl (fun z9 => nI (X.pre z9)))), ((b 1), .inl (cI, 200, .inl (fun z9 => nI (X.len z9)))), ((b 2), .inl (cI, 200, .inl (fun z9 => pI (X.par z9)))), ((b 3), .inl (cI, 200, .inl (fun z9 => nI (X.lev z9)))), ((b 4), .inl (cI, 200, .inl (fun z9 => nI (X.hol z9)))), ((b 5), .inl (cI, 200, .inl (fun z9 => nI (X.sta z9)))), ((b 6), .inl (cI, 200, .inl (fun z9 => nI (X.en z9)))), ((b 7), .inl (cI, 200, .inl (fun z9 => pI (X.fc z9)))), ((b 8), .inl (cI, 200, .inl (fun z9 => pI (va_up X.nx r (some j) z9))))] H := hP
      replace hD : va_D A [(h, .inr (3, [.ref (b 0), .ref (b 1), .ref (b 2), .ref (b 3), .ref (b 4), .ref (b 5), .ref (b 6), .ref (b 7), .ref (b 8), .int (nI X.n)])), ((b 0), .inl (cI, 200, .inl (fun z9 => nI (X.pre z9)))), ((b 1), .inl (cI, 200, .inl (fun z9 => nI (X.len z9)))), ((b 2), .inl (cI, 200, .inl (fun z9 => pI (X.par z9)))), ((b 3), .inl (cI, 200, .inl (fun z9 => nI (X.lev z9)))), ((b 4), .inl (cI, 200, .inl (fun z9 => nI (X.hol z9)))), ((b 5), .inl (cI, 200, .inl (fun z9 => nI (X.sta z9)))), ((b 6), .inl (cI, 200, .inl (fun z9 => nI (X.en z9)))), ((b 7), .inl (cI, 200, .inl (fun z9 => pI (X.fc z9)))), ((b 8), .inl (cI, 200, .inl (fun z9 => pI (va_up X.nx r (some j) z9))))] := hD
      refine lv_aload_n hx hb d_Re_chain_66 rfl (lv_at hl 3 rfl) ?_
      refine lv_iload_n hx hb d_Re_chain_67 rfl (lv_at hl 2 rfl) ?_
      refine lv_aload_n hx hb d_Re_chain_68 rfl (lv_at hl 3 rfl) ?_
      refine va_get (D := (dC, dI)) (ci := 3) (v := .ref (b 2)) (C := R_Re) (T := F_Re) (N := 10) hx hb hts u_Re hown hK hP 0 rfl rfl 2 (by decide) (hts _ kw_41) (fun _ h9 => h9) rfl d_Re_chain_69 ?_
      refine lv_iload_n hx hb d_Re_chain_72 rfl (lv_at hl 4 rfl) ?_
      refine x_iald (j := r) (v := (pI (X.par r))) hx hb hK hP 3 0 rfl rfl hr0 (by decide) rfl rfl d_Re_chain_73 ?_
      refine x_topi (y := (nI p)) (by rw [hp]; rfl) ?_
      refine lv_iload_n hx hb d_Re_chain_74 rfl (lv_at hl 4 rfl) ?_
      refine x_topi (y := (pI (some r))) rfl ?_
      have hPc := hP.sub (ws' := (wRe cI h b (rNx X r (some j)))) [0, 1, 2, 3, 4, 5, 6, 7, 8, 9] rfl
      have hDc := hD.sub (ws' := (wRe cI h b (rNx X r (some j)))) [0, 1, 2, 3, 4, 5, 6, 7, 8, 9] (by decide) rfl
      have hFc := va_free (wc := (wRe cI h b (rNx X r (some j)))) hD hS hA [0, 1, 2, 3, 4, 5, 6, 7, 8, 9] rfl
      refine va_callv (va_runV (b := h) (As := [.int (pI bf), .int (nI p), .int (pI (some r))]) (rest := []) ⟨hx, hb, hml, hown, hts⟩ (c_Re_putBehind l dC dI H.size cI h b (rNx X r (some j)) bf p (some r) hbf2 hp0) (cwV 3 hts (gV kw_397 kw_399 ks_5 kw_3 kw_400) rfl rfl rfl (by decide +kernel) ⟨Nat.le_of_ble_eq_true rfl, Nat.le_of_ble_eq_true rfl⟩) ⟨PcM.blind, va_recv (q0 := 0) hK hPc rfl rfl, PcM.use hPc hK hN hDc⟩ rfl rfl hl.1 rfl (lv_room (Nat.le_of_ble_eq_true rfl)) d_Re_chain_75 ⟨Nat.le_of_ble_eq_true rfl, Nat.le_of_ble_eq_true rfl⟩) hS (fun q _ h => hFc q h) hFc (fun u9 H9 H1 locs hH9 hv9 hp9 hB hz1 hk1 hS => ?_)
      obtain ⟨hP1, hK1, hD1⟩ := hB
      rw [hH9] at hP1
      obtain ⟨hP, hD⟩ := va_join (wr := []) (w1 := (wRe cI h b (rPut (rNx X r (some j)) bf p (some r)))) hP hD [0, 1, 2, 3, 4, 5, 6, 7, 8, 9] [] rfl rfl (by decide) (by decide) hk1 hFc hP1 hD1
      clear hPc hDc hFc hP1 hD1 hK1 hk1 hz1 hv9 hH9
      generalize H1 = H at hP hS ⊢
      replace hP : va_P (dC, dI) classes [(h, .inr (3, [.ref (b 0), .ref (b 1), .ref (b 2), .ref (b 3), .ref (b 4), .ref (b 5), .ref (b 6), .ref (b 7), .ref (b 8), .int (nI (rPut (rNx X r (some j)) bf p (some r)).n)])), ((b 0), .inl (cI, 200, .inl (fun z9 => nI ((rPut (rNx X r (some j)) bf p (some r)).pre z9)))), ((b 1), .inl (cI, 200, .inl (fun z9 => nI ((rPut (rNx X r (some j)) bf p (some r)).len z9)))), ((b 2), .inl (cI, 200, .inl (fun z9 => pI ((rPut (rNx X r (some j)) bf p (some r)).par z9)))), ((b 3), .inl (cI, 200, .inl (fun z9 => nI ((rPut (rNx X r (some j)) bf p (some r)).lev z9)))), ((b 4), .inl (cI, 200, .inl (fun z9 => nI ((rPut (rNx X r (some j)) bf p (some r)).hol z9)))), ((b 5), .inl (cI, 200, .inl (fun z9 => nI ((rPut (rNx X r (some j)) bf p (some r)).sta z9)))), ((b 6), .inl (cI, 200, .inl (fun z9 => nI ((rPut (rNx X r (some j)) bf p (some r)).en z9)))), ((b 7), .inl (cI, 200, .inl (fun z9 => pI ((rPut (rNx X r (some j)) bf p (some r)).fc z9)))), ((b 8), .inl (cI, 200, .inl (fun z9 => pI ((rPut (rNx X r (some j)) bf p (some r)).nx z9))))] H := hP.sub (ws' := [(h, .inr (3, [.ref (b 0), .ref (b 1), .ref (b 2), .ref (b 3), .ref (b 4), .ref (b 5), .ref (b 6), .ref (b 7), .ref (b 8), .int (nI (rPut (rNx X r (some j)) bf p (some r)).n)])), ((b 0), .inl (cI, 200, .inl (fun z9 => nI ((rPut (rNx X r (some j)) bf p (some r)).pre z9)))), ((b 1), .inl (cI, 200, .inl (fun z9 => nI ((rPut (rNx X r (some j)) bf p (some r)).len z9)))), ((b 2), .inl (cI, 200, .inl (fun z9 => pI ((rPut (rNx X r (some j)) bf p (some r)).par z9)))), ((b 3), .inl (cI, 200, .inl (fun z9 => nI ((rPut (rNx X r (some j)) bf p (some r)).lev z9)))), ((b 4), .inl (cI, 200, .inl (fun z9 => nI ((rPut (rNx X r (some j)) bf p (some r)).hol z9)))), ((b 5), .inl (cI, 200, .inl (fun z9 => nI ((rPut (rNx X r (some j)) bf p (some r)).sta z9)))), ((b 6), .inl (cI, 200, .inl (fun z9 => nI ((rPut (rNx X r (some j)) bf p (some r)).en z9)))), ((b 7), .inl (cI, 200, .inl (fun z9 => pI ((rPut (rNx X r (some j)) bf p (some r)).fc z9)))), ((b 8), .inl (cI, 200, .inl (fun z9 => pI ((rPut (rNx X r (some j)) bf p (some r)).nx z9))))]) [0, 1, 2, 3, 4, 5, 6, 7, 8, 9] rfl
      replace hD : va_D A [(h, .inr (3, [.ref (b 0), .ref (b 1), .ref (b 2), .ref (b 3), .ref (b 4), .ref (b 5), .ref (b 6), .ref (b 7), .ref (b 8), .int (nI (rPut (rNx X r (some j)) bf p (some r)).n)])), ((b 0), .inl (cI, 200, .inl (fun z9 => nI ((rPut (rNx X r (some j)) bf p (some r)).pre z9)))), ((b 1), .inl (cI, 200, .inl (fun z9 => nI ((rPut (rNx X r (some j)) bf p (some r)).len z9)))), ((b 2), .inl (cI, 200, .inl (fun z9 => pI ((rPut (rNx X r (some j)) bf p (some r)).par z9)))), ((b 3), .inl (cI, 200, .inl (fun z9 => nI ((rPut (rNx X r (some j)) bf p (some r)).lev z9)))), ((b 4), .inl (cI, 200, .inl (fun z9 => nI ((rPut (rNx X r (some j)) bf p (some r)).hol z9)))), ((b 5), .inl (cI, 200, .inl (fun z9 => nI ((rPut (rNx X r (some j)) bf p (some r)).sta z9)))), ((b 6), .inl (cI, 200, .inl (fun z9 => nI ((rPut (rNx X r (some j)) bf p (some r)).en z9)))), ((b 7), .inl (cI, 200, .inl (fun z9 => pI ((rPut (rNx X r (some j)) bf p (some r)).fc z9)))), ((b 8), .inl (cI, 200, .inl (fun z9 => pI ((rPut (rNx X r (some j)) bf p (some r)).nx z9))))] := hD.sub (ws' := [(h, .inr (3, [.ref (b 0), .ref (b 1), .ref (b 2), .ref (b 3), .ref (b 4), .ref (b 5), .ref (b 6), .ref (b 7), .ref (b 8), .int (nI (rPut (rNx X r (some j)) bf p (some r)).n)])), ((b 0), .inl (cI, 200, .inl (fun z9 => nI ((rPut (rNx X r (some j)) bf p (some r)).pre z9)))), ((b 1), .inl (cI, 200, .inl (fun z9 => nI ((rPut (rNx X r (some j)) bf p (some r)).len z9)))), ((b 2), .inl (cI, 200, .inl (fun z9 => pI ((rPut (rNx X r (some j)) bf p (some r)).par z9)))), ((b 3), .inl (cI, 200, .inl (fun z9 => nI ((rPut (rNx X r (some j)) bf p (some r)).lev z9)))), ((b 4), .inl (cI, 200, .inl (fun z9 => nI ((rPut (rNx X r (some j)) bf p (some r)).hol z9)))), ((b 5), .inl (cI, 200, .inl (fun z9 => nI ((rPut (rNx X r (some j)) bf p (some r)).sta z9)))), ((b 6), .inl (cI, 200, .inl (fun z9 => nI ((rPut (rNx X r (some j)) bf p (some r)).en z9)))), ((b 7), .inl (cI, 200, .inl (fun z9 => pI ((rPut (rNx X r (some j)) bf p (some r)).fc z9)))), ((b 8), .inl (cI, 200, .inl (fun z9 => pI ((rPut (rNx X r (some j)) bf p (some r)).nx z9))))]) [0, 1, 2, 3, 4, 5, 6, 7, 8, 9] (by decide) rfl
      have e9 : walkI X (X.pre r) none L = (bf, some j) := by rw [← hres]; simp only [walkI]; rw [if_neg (by omega)]
      have hP9 : va_P (dC, dI) classes (wRe cI h b (rChn X r p L)) H := by unfold rChn; rw [e9]; exact hP
      have hD9 : va_D A (wRe cI h b (rChn X r p L)) := by unfold rChn; rw [e9]; exact hD
      exact W.vret hx hb hr (fun t ht hW => ⟨⟨(), rfl, trivial, by rw [ht]; exact hP9, va_K.moved hW.alike hK, hD9⟩, hS.F ht⟩) hS.2.2 d_Re_chain_78
    have h41 := mt (k_cge (by have := hX.pre j; omega) (by have := hX.pre r; omega)).mpr h41
    refine lv_iload_n hx hb d_Re_chain_44 rfl (lv_at hl 1 rfl) ?_
    refine x_topi (y := (pI (some j))) rfl ?_
    refine lv_istore_n hx hb d_Re_chain_45 rfl hl (by decide) rfl (fun ls hl => ?_)
    replace hl : lv_has ls 5 [(2, .int (pI (some j))), (4, .int (nI i)), (3, .int (nI j)), (0, .ref h), (1, .int (nI r))] := hl
    refine lv_aload_n hx hb d_Re_chain_46 rfl (lv_at hl 3 rfl) ?_
    refine va_get (D := (dC, dI)) (ci := 3) (v := .ref (b 8)) (C := R_Re) (T := F_Re) (N := 10) hx hb hts u_Re hown hK hP 0 rfl rfl 8 (by decide) (hts _ kw_55) (fun _ h9 => h9) rfl d_Re_chain_47 ?_
    refine lv_iload_n hx hb d_Re_chain_50 rfl (lv_at hl 2 rfl) ?_
    refine x_iald (j := j) (v := (pI (X.nx j))) hx hb hK hP 9 0 rfl rfl hj (by decide) rfl rfl d_Re_chain_51 ?_
    refine lv_istore_n hx hb d_Re_chain_52 rfl hl (by decide) rfl (fun ls hl => ?_)
    replace hl : lv_has ls 5 [(3, .int (pI (X.nx j))), (2, .int (pI (some j))), (4, .int (nI i)), (0, .ref h), (1, .int (nI r))] := hl
    refine lv_iinc hx hb d_Re_chain_53 hl (k := 2) (v := (nI (i + 1))) rfl (nI_1 i) (by decide) rfl (fun ls hl => ?_)
    replace hl : lv_has ls 5 [(4, .int (nI (i + 1))), (3, .int (pI (X.nx j))), (2, .int (pI (some j))), (0, .ref h), (1, .int (nI r))] := hl
    refine lv_goto hx hb d_Re_chain_56 rfl ?_
    refine ih _ _ _ _ hC (fun k q => hX.nx q) ?_ ?_ ?_ hl
    · omega
    · exact (by rw [← hres]; simp only [walkI]; rw [if_pos (by omega)])
    · exact (fun k q => by cases q; exact hj)
set_option maxHeartbeats 4000000 in
set_option maxRecDepth 100000 in
theorem c_Re_unchain (l : Launch) (dC : Nat → ClassId) (dI : Nat → Nat → Nat) (sz : Nat) (cI : ClassId) (h : Nat) (b : Nat → Nat) (X : RS) (hX : RSok X) (r : Nat) (hr0 : r < 200) (p : Nat) (hp : X.par r = some p) (hp0 : p < 200) (L : List Nat) (hC : chn X.nx (X.fc p) L) (hL : L.length ≤ 200) : Met l y_Re_unchain (.code y_Re_unchain b_Re_unchain 5 none :: wG) ({ frames := 1, cells := 0, slots := 0, locals := 23 }) (PcM (dC, dI) [(cI, .int)] (wRe cI h b X) [.ref h, .int (nI r)] sz) (QmV (dC, dI) [(cI, .int)] (wRe cI h b X) (wRe cI h b (rUnc X r p L)) sz) 0 0 (va_A (wRe cI h b X) sz) := by
  refine Met.ofW (cc := b_Re_unchain) (maxL := 5) (ret := none) (by decide) rfl ?_
  intro pg eg s mg ag bg meth cg s₁ B hml hv
  obtain ⟨rfl, hsz, hP, hK, hD0, hN⟩ := hv
  have hx := B.exec
  have hb := B.bytes
  have hr := B.returns
  have hlocks := B.notSynchronized
  have hts : ∀ w9 ∈ wG, w9.before ([.ref h, .int (nI r)] : List Value).toArray s = true := fun w9 h9 => atoms_spec (ws := (.code y_Re_unchain b_Re_unchain 5 none :: wG)) B.pre w9 (List.mem_cons_of_mem _ h9)
  have hown : s.vm.findClass "PrefixRegistry$Records" = some mg.cls := findClass_of_methodNamed B.named
  subst hsz
  have hD := hD0.self (sz := s.heap.size)
  unfold QmV
  generalize hAe : va_A (wRe cI h b X) s.heap.size = A at hD ⊢
  have hA : ∀ q : Nat, s.heap.size ≤ q → A q := fun q h => by rw [← hAe]; exact Or.inr h
  have hS : va_S A s.heap s.heap [] := va_S.rf
  have hl := lv_entry ([.ref h, .int (nI r)]) (n := 5) (Nat.le_of_ble_eq_true rfl)
  rw [lg_entry_eq]
  generalize (lg_sl ([.ref h, .int (nI r)]) ++ List.replicate (5 - (lg_sl ([.ref h, .int (nI r)])).length) Slot.unset).toArray = ls at hl ⊢
  replace hl : lv_has ls 5 [(0, .ref h), (1, .int (nI r))] := hl
  replace hP : va_P (dC, dI) classes (wRe cI h b X) s.heap := hP
  replace hD : va_D A (wRe cI h b X) := hD
  refine lv_iconst (v := (-1)) hx hb d_Re_unchain_0 (by decide) ?_
  refine lv_istore_n hx hb d_Re_unchain_1 rfl hl (by decide) rfl (fun ls hl => ?_)
  replace hl : lv_has ls 5 [(2, .int (-1)), (0, .ref h), (1, .int (nI r))] := hl
  refine lv_aload_n hx hb d_Re_unchain_2 rfl (lv_at hl 1 rfl) ?_
  refine va_get (D := (dC, dI)) (ci := 3) (v := .ref (b 7)) (C := R_Re) (T := F_Re) (N := 10) hx hb hts u_Re hown hK hP 0 rfl rfl 7 (by decide) (hts _ kw_52) (fun _ h9 => h9) rfl d_Re_unchain_3 ?_
  refine lv_aload_n hx hb d_Re_unchain_6 rfl (lv_at hl 1 rfl) ?_
  refine va_get (D := (dC, dI)) (ci := 3) (v := .ref (b 2)) (C := R_Re) (T := F_Re) (N := 10) hx hb hts u_Re hown hK hP 0 rfl rfl 2 (by decide) (hts _ kw_41) (fun _ h9 => h9) rfl d_Re_unchain_7 ?_
  refine lv_iload_n hx hb d_Re_unchain_10 rfl (lv_at hl 2 rfl) ?_
  refine x_iald (j := r) (v := (pI (X.par r))) hx hb hK hP 3 0 rfl rfl hr0 (by decide) rfl rfl d_Re_unchain_11 ?_
  refine x_topi (y := (nI p)) (by rw [hp]; rfl) ?_
  refine x_iald (j := p) (v := (pI (X.fc p))) hx hb hK hP 8 0 rfl rfl hp0 (by decide) rfl rfl d_Re_unchain_12 ?_
  refine lv_istore_n hx hb d_Re_unchain_13 rfl hl (by decide) rfl (fun ls hl => ?_)
  replace hl : lv_has ls 5 [(3, .int (pI (X.fc p))), (2, .int (-1)), (0, .ref h), (1, .int (nI r))] := hl
  refine lv_iconst (v := 0) hx hb d_Re_unchain_14 (by decide) ?_
  refine lv_istore hx hb d_Re_unchain_15 hl (by decide) rfl (fun ls hl => ?_)
  replace hl : lv_has ls 5 [(4, .int 0), (3, .int (pI (X.fc p))), (2, .int (-1)), (0, .ref h), (1, .int (nI r))] := hl
  obtain ⟨Kl, hK0⟩ : ∃ Kl : List Nat, Kl = L := ⟨L, rfl⟩
  obtain ⟨i, hi⟩ : ∃ i : Nat, i = 0 := ⟨0, rfl⟩
  obtain ⟨bf, hbf⟩ : ∃ bf : Option Nat, bf = none := ⟨_, rfl⟩
  have hres : walkU r bf Kl = walkU r none L := by rw [hK0, hbf]
  have hbf2 : ∀ k, bf = some k → k < 200 := by intro k q; rw [hbf] at q; cases q
  replace hl : lv_has ls 5 [(4, .int (nI i)), (3, .int (pI (X.fc p))), (2, .int (pI bf)), (0, .ref h), (1, .int (nI r))] := by subst hi; subst hbf; exact hl
  clear hbf
  have ho : ∀ k, X.fc p = some k → k < 200 := fun k q => hX.fc q
  replace hC := hK0 ▸ hC
  replace hi : i + Kl.length ≤ 200 := by rw [hi, hK0]; omega
  clear hK0
  generalize X.fc p = o at hC ho hl
  replace hC : chn X.nx o Kl := hC
  replace ho := ho
  replace hi := hi
  replace hres := hres
  replace hbf2 := hbf2
  replace hl : lv_has ls 5 [(4, .int (nI i)), (3, .int (pI o)), (2, .int (pI bf)), (0, .ref h), (1, .int (nI r))] := hl
  induction Kl generalizing o i ls bf with
  | nil =>
    obtain rfl : o = none := hC
    replace hl : lv_has ls 5 [(4, .int (nI i)), (3, .int (pI none)), (2, .int (pI bf)), (0, .ref h), (1, .int (nI r))] := hl
    refine lv_iload hx hb d_Re_unchain_17 (lv_at hl 0 rfl) ?_
    refine lv_sipush (v := 200) hx hb d_Re_unchain_19 (by decide) ?_
    refine lv_icmp_ge hx hb d_Re_unchain_22 rfl (fun h22 => ?_) (fun h22 => ?_)
    · refine lv_aload_n hx hb d_Re_unchain_50 rfl (lv_at hl 3 rfl) ?_
      refine lv_iload_n hx hb d_Re_unchain_51 rfl (lv_at hl 2 rfl) ?_
      refine lv_aload_n hx hb d_Re_unchain_52 rfl (lv_at hl 3 rfl) ?_
      refine va_get (D := (dC, dI)) (ci := 3) (v := .ref (b 2)) (C := R_Re) (T := F_Re) (N := 10) hx hb hts u_Re hown hK hP 0 rfl rfl 2 (by decide) (hts _ kw_41) (fun _ h9 => h9) rfl d_Re_unchain_53 ?_
      refine lv_iload_n hx hb d_Re_unchain_56 rfl (lv_at hl 4 rfl) ?_
      refine x_iald (j := r) (v := (pI (X.par r))) hx hb hK hP 3 0 rfl rfl hr0 (by decide) rfl rfl d_Re_unchain_57 ?_
      refine x_topi (y := (nI p)) (by rw [hp]; rfl) ?_
      refine lv_aload_n hx hb d_Re_unchain_58 rfl (lv_at hl 3 rfl) ?_
      refine va_get (D := (dC, dI)) (ci := 3) (v := .ref (b 8)) (C := R_Re) (T := F_Re) (N := 10) hx hb hts u_Re hown hK hP 0 rfl rfl 8 (by decide) (hts _ kw_55) (fun _ h9 => h9) rfl d_Re_unchain_59 ?_
      refine lv_iload_n hx hb d_Re_unchain_62 rfl (lv_at hl 4 rfl) ?_
      refine x_iald (j := r) (v := (pI (X.nx r))) hx hb hK hP 9 0 rfl rfl hr0 (by decide) rfl rfl d_Re_unchain_63 ?_
      have hPc := hP.sub (ws' := (wRe cI h b X)) [0, 1, 2, 3, 4, 5, 6, 7, 8, 9] rfl
      have hDc := hD.sub (ws' := (wRe cI h b X)) [0, 1, 2, 3, 4, 5, 6, 7, 8, 9] (by decide) rfl
      have hFc := va_free (wc := (wRe cI h b X)) hD hS hA [0, 1, 2, 3, 4, 5, 6, 7, 8, 9] rfl
      refine va_callv (va_runV (b := h) (As := [.int (pI bf), .int (nI p), .int (pI (X.nx r))]) (rest := []) ⟨hx, hb, hml, hown, hts⟩ (c_Re_putBehind l dC dI s.heap.size cI h b X bf p (X.nx r) hbf2 hp0) (cwV 3 hts (gV kw_397 kw_399 ks_5 kw_3 kw_400) rfl rfl rfl (by decide +kernel) ⟨Nat.le_of_ble_eq_true rfl, Nat.le_of_ble_eq_true rfl⟩) ⟨PcM.blind, va_recv (q0 := 0) hK hPc rfl rfl, PcM.use hPc hK hN hDc⟩ rfl rfl hl.1 rfl (lv_room (Nat.le_of_ble_eq_true rfl)) d_Re_unchain_64 ⟨Nat.le_of_ble_eq_true rfl, Nat.le_of_ble_eq_true rfl⟩) hS (fun q _ h => hFc q h) hFc (fun u9 H9 H1 locs hH9 hv9 hp9 hB hz1 hk1 hS => ?_)
      obtain ⟨hP1, hK1, hD1⟩ := hB
      rw [hH9] at hP1
      obtain ⟨hP, hD⟩ := va_join (wr := []) (w1 := (wRe cI h b (rPut X bf p (X.nx r)))) hP hD [0, 1, 2, 3, 4, 5, 6, 7, 8, 9] [] rfl rfl (by decide) (by decide) hk1 hFc hP1 hD1
      clear hPc hDc hFc hP1 hD1 hK1 hk1 hz1 hv9 hH9
      generalize H1 = H at hP hS ⊢
      replace hP : va_P (dC, dI) classes [(h, .inr (3, [.ref (b 0), .ref (b 1), .ref (b 2), .ref (b 3), .ref (b 4), .ref (b 5), .ref (b 6), .ref (b 7), .ref (b 8), .int (nI (rPut X bf p (X.nx r)).n)])), ((b 0), .inl (cI, 200, .inl (fun z9 => nI ((rPut X bf p (X.nx r)).pre z9)))), ((b 1), .inl (cI, 200, .inl (fun z9 => nI ((rPut X bf p (X.nx r)).len z9)))), ((b 2), .inl (cI, 200, .inl (fun z9 => pI ((rPut X bf p (X.nx r)).par z9)))), ((b 3), .inl (cI, 200, .inl (fun z9 => nI ((rPut X bf p (X.nx r)).lev z9)))), ((b 4), .inl (cI, 200, .inl (fun z9 => nI ((rPut X bf p (X.nx r)).hol z9)))), ((b 5), .inl (cI, 200, .inl (fun z9 => nI ((rPut X bf p (X.nx r)).sta z9)))), ((b 6), .inl (cI, 200, .inl (fun z9 => nI ((rPut X bf p (X.nx r)).en z9)))), ((b 7), .inl (cI, 200, .inl (fun z9 => pI ((rPut X bf p (X.nx r)).fc z9)))), ((b 8), .inl (cI, 200, .inl (fun z9 => pI ((rPut X bf p (X.nx r)).nx z9))))] H := hP.sub (ws' := [(h, .inr (3, [.ref (b 0), .ref (b 1), .ref (b 2), .ref (b 3), .ref (b 4), .ref (b 5), .ref (b 6), .ref (b 7), .ref (b 8), .int (nI (rPut X bf p (X.nx r)).n)])), ((b 0), .inl (cI, 200, .inl (fun z9 => nI ((rPut X bf p (X.nx r)).pre z9)))), ((b 1), .inl (cI, 200, .inl (fun z9 => nI ((rPut X bf p (X.nx r)).len z9)))), ((b 2), .inl (cI, 200, .inl (fun z9 => pI ((rPut X bf p (X.nx r)).par z9)))), ((b 3), .inl (cI, 200, .inl (fun z9 => nI ((rPut X bf p (X.nx r)).lev z9)))), ((b 4), .inl (cI, 200, .inl (fun z9 => nI ((rPut X bf p (X.nx r)).hol z9)))), ((b 5), .inl (cI, 200, .inl (fun z9 => nI ((rPut X bf p (X.nx r)).sta z9)))), ((b 6), .inl (cI, 200, .inl (fun z9 => nI ((rPut X bf p (X.nx r)).en z9)))), ((b 7), .inl (cI, 200, .inl (fun z9 => pI ((rPut X bf p (X.nx r)).fc z9)))), ((b 8), .inl (cI, 200, .inl (fun z9 => pI ((rPut X bf p (X.nx r)).nx z9))))]) [0, 1, 2, 3, 4, 5, 6, 7, 8, 9] rfl
      replace hD : va_D A [(h, .inr (3, [.ref (b 0), .ref (b 1), .ref (b 2), .ref (b 3), .ref (b 4), .ref (b 5), .ref (b 6), .ref (b 7), .ref (b 8), .int (nI (rPut X bf p (X.nx r)).n)])), ((b 0), .inl (cI, 200, .inl (fun z9 => nI ((rPut X bf p (X.nx r)).pre z9)))), ((b 1), .inl (cI, 200, .inl (fun z9 => nI ((rPut X bf p (X.nx r)).len z9)))), ((b 2), .inl (cI, 200, .inl (fun z9 => pI ((rPut X bf p (X.nx r)).par z9)))), ((b 3), .inl (cI, 200, .inl (fun z9 => nI ((rPut X bf p (X.nx r)).lev z9)))), ((b 4), .inl (cI, 200, .inl (fun z9 => nI ((rPut X bf p (X.nx r)).hol z9)))), ((b 5), .inl (cI, 200, .inl (fun z9 => nI ((rPut X bf p (X.nx r)).sta z9)))), ((b 6), .inl (cI, 200, .inl (fun z9 => nI ((rPut X bf p (X.nx r)).en z9)))), ((b 7), .inl (cI, 200, .inl (fun z9 => pI ((rPut X bf p (X.nx r)).fc z9)))), ((b 8), .inl (cI, 200, .inl (fun z9 => pI ((rPut X bf p (X.nx r)).nx z9))))] := hD.sub (ws' := [(h, .inr (3, [.ref (b 0), .ref (b 1), .ref (b 2), .ref (b 3), .ref (b 4), .ref (b 5), .ref (b 6), .ref (b 7), .ref (b 8), .int (nI (rPut X bf p (X.nx r)).n)])), ((b 0), .inl (cI, 200, .inl (fun z9 => nI ((rPut X bf p (X.nx r)).pre z9)))), ((b 1), .inl (cI, 200, .inl (fun z9 => nI ((rPut X bf p (X.nx r)).len z9)))), ((b 2), .inl (cI, 200, .inl (fun z9 => pI ((rPut X bf p (X.nx r)).par z9)))), ((b 3), .inl (cI, 200, .inl (fun z9 => nI ((rPut X bf p (X.nx r)).lev z9)))), ((b 4), .inl (cI, 200, .inl (fun z9 => nI ((rPut X bf p (X.nx r)).hol z9)))), ((b 5), .inl (cI, 200, .inl (fun z9 => nI ((rPut X bf p (X.nx r)).sta z9)))), ((b 6), .inl (cI, 200, .inl (fun z9 => nI ((rPut X bf p (X.nx r)).en z9)))), ((b 7), .inl (cI, 200, .inl (fun z9 => pI ((rPut X bf p (X.nx r)).fc z9)))), ((b 8), .inl (cI, 200, .inl (fun z9 => pI ((rPut X bf p (X.nx r)).nx z9))))]) [0, 1, 2, 3, 4, 5, 6, 7, 8, 9] (by decide) rfl
      have e9 : walkU r none L = bf := hres.symm
      have hP9 : va_P (dC, dI) classes (wRe cI h b (rUnc X r p L)) H := by unfold rUnc; rw [e9]; exact hP
      have hD9 : va_D A (wRe cI h b (rUnc X r p L)) := by unfold rUnc; rw [e9]; exact hD
      exact W.vret hx hb hr (fun t ht hW => ⟨⟨(), rfl, trivial, by rw [ht]; exact hP9, va_K.moved hW.alike hK, hD9⟩, hS.F ht⟩) hS.2.2 d_Re_unchain_67
    refine lv_iload_n hx hb d_Re_unchain_25 rfl (lv_at hl 1 rfl) ?_
    refine lv_iconst (v := (-1)) hx hb d_Re_unchain_26 (by decide) ?_
    refine lv_icmp_eq hx hb d_Re_unchain_27 rfl (fun _ => ?_) (fun h9 => absurd rfl h9)
    refine lv_aload_n hx hb d_Re_unchain_50 rfl (lv_at hl 3 rfl) ?_
    refine lv_iload_n hx hb d_Re_unchain_51 rfl (lv_at hl 2 rfl) ?_
    refine lv_aload_n hx hb d_Re_unchain_52 rfl (lv_at hl 3 rfl) ?_
    refine va_get (D := (dC, dI)) (ci := 3) (v := .ref (b 2)) (C := R_Re) (T := F_Re) (N := 10) hx hb hts u_Re hown hK hP 0 rfl rfl 2 (by decide) (hts _ kw_41) (fun _ h9 => h9) rfl d_Re_unchain_53 ?_
    refine lv_iload_n hx hb d_Re_unchain_56 rfl (lv_at hl 4 rfl) ?_
    refine x_iald (j := r) (v := (pI (X.par r))) hx hb hK hP 3 0 rfl rfl hr0 (by decide) rfl rfl d_Re_unchain_57 ?_
    refine x_topi (y := (nI p)) (by rw [hp]; rfl) ?_
    refine lv_aload_n hx hb d_Re_unchain_58 rfl (lv_at hl 3 rfl) ?_
    refine va_get (D := (dC, dI)) (ci := 3) (v := .ref (b 8)) (C := R_Re) (T := F_Re) (N := 10) hx hb hts u_Re hown hK hP 0 rfl rfl 8 (by decide) (hts _ kw_55) (fun _ h9 => h9) rfl d_Re_unchain_59 ?_
    refine lv_iload_n hx hb d_Re_unchain_62 rfl (lv_at hl 4 rfl) ?_
    refine x_iald (j := r) (v := (pI (X.nx r))) hx hb hK hP 9 0 rfl rfl hr0 (by decide) rfl rfl d_Re_unchain_63 ?_
    have hPc := hP.sub (ws' := (wRe cI h b X)) [0, 1, 2, 3, 4, 5, 6, 7, 8, 9] rfl
    have hDc := hD.sub (ws' := (wRe cI h b X)) [0, 1, 2, 3, 4, 5, 6, 7, 8, 9] (by decide) rfl
    have hFc := va_free (wc := (wRe cI h b X)) hD hS hA [0, 1, 2, 3, 4, 5, 6, 7, 8, 9] rfl
    refine va_callv (va_runV (b := h) (As := [.int (pI bf), .int (nI p), .int (pI (X.nx r))]) (rest := []) ⟨hx, hb, hml, hown, hts⟩ (c_Re_putBehind l dC dI s.heap.size cI h b X bf p (X.nx r) hbf2 hp0) (cwV 3 hts (gV kw_397 kw_399 ks_5 kw_3 kw_400) rfl rfl rfl (by decide +kernel) ⟨Nat.le_of_ble_eq_true rfl, Nat.le_of_ble_eq_true rfl⟩) ⟨PcM.blind, va_recv (q0 := 0) hK hPc rfl rfl, PcM.use hPc hK hN hDc⟩ rfl rfl hl.1 rfl (lv_room (Nat.le_of_ble_eq_true rfl)) d_Re_unchain_64 ⟨Nat.le_of_ble_eq_true rfl, Nat.le_of_ble_eq_true rfl⟩) hS (fun q _ h => hFc q h) hFc (fun u9 H9 H1 locs hH9 hv9 hp9 hB hz1 hk1 hS => ?_)
    obtain ⟨hP1, hK1, hD1⟩ := hB
    rw [hH9] at hP1
    obtain ⟨hP, hD⟩ := va_join (wr := []) (w1 := (wRe cI h b (rPut X bf p (X.nx r)))) hP hD [0, 1, 2, 3, 4, 5, 6, 7, 8, 9] [] rfl rfl (by decide) (by decide) hk1 hFc hP1 hD1
    clear hPc hDc hFc hP1 hD1 hK1 hk1 hz1 hv9 hH9
    generalize H1 = H at hP hS ⊢
    replace hP : va_P (dC, dI) classes [(h, .inr (3, [.ref (b 0), .ref (b 1), .ref (b 2), .ref (b 3), .ref (b 4), .ref (b 5), .ref (b 6), .ref (b 7), .ref (b 8), .int (nI (rPut X bf p (X.nx r)).n)])), ((b 0), .inl (cI, 200, .inl (fun z9 => nI ((rPut X bf p (X.nx r)).pre z9)))), ((b 1), .inl (cI, 200, .inl (fun z9 => nI ((rPut X bf p (X.nx r)).len z9)))), ((b 2), .inl (cI, 200, .inl (fun z9 => pI ((rPut X bf p (X.nx r)).par z9)))), ((b 3), .inl (cI, 200, .inl (fun z9 => nI ((rPut X bf p (X.nx r)).lev z9)))), ((b 4), .inl (cI, 200, .inl (fun z9 => nI ((rPut X bf p (X.nx r)).hol z9)))), ((b 5), .inl (cI, 200, .inl (fun z9 => nI ((rPut X bf p (X.nx r)).sta z9)))), ((b 6), .inl (cI, 200, .inl (fun z9 => nI ((rPut X bf p (X.nx r)).en z9)))), ((b 7), .inl (cI, 200, .inl (fun z9 => pI ((rPut X bf p (X.nx r)).fc z9)))), ((b 8), .inl (cI, 200, .inl (fun z9 => pI ((rPut X bf p (X.nx r)).nx z9))))] H := hP.sub (ws' := [(h, .inr (3, [.ref (b 0), .ref (b 1), .ref (b 2), .ref (b 3), .ref (b 4), .ref (b 5), .ref (b 6), .ref (b 7), .ref (b 8), .int (nI (rPut X bf p (X.nx r)).n)])), ((b 0), .inl (cI, 200, .inl (fun z9 => nI ((rPut X bf p (X.nx r)).pre z9)))), ((b 1), .inl (cI, 200, .inl (fun z9 => nI ((rPut X bf p (X.nx r)).len z9)))), ((b 2), .inl (cI, 200, .inl (fun z9 => pI ((rPut X bf p (X.nx r)).par z9)))), ((b 3), .inl (cI, 200, .inl (fun z9 => nI ((rPut X bf p (X.nx r)).lev z9)))), ((b 4), .inl (cI, 200, .inl (fun z9 => nI ((rPut X bf p (X.nx r)).hol z9)))), ((b 5), .inl (cI, 200, .inl (fun z9 => nI ((rPut X bf p (X.nx r)).sta z9)))), ((b 6), .inl (cI, 200, .inl (fun z9 => nI ((rPut X bf p (X.nx r)).en z9)))), ((b 7), .inl (cI, 200, .inl (fun z9 => pI ((rPut X bf p (X.nx r)).fc z9)))), ((b 8), .inl (cI, 200, .inl (fun z9 => pI ((rPut X bf p (X.nx r)).nx z9))))]) [0, 1, 2, 3, 4, 5, 6, 7, 8, 9] rfl
    replace hD : va_D A [(h, .inr (3, [.ref (b 0), .ref (b 1), .ref (b 2), .ref (b 3), .ref (b 4), .ref (b 5), .ref (b 6), .ref (b 7), .ref (b 8), .int (nI (rPut X bf p (X.nx r)).n)])), ((b 0), .inl (cI, 200, .inl (fun z9 => nI ((rPut X bf p (X.nx r)).pre z9)))), ((b 1), .inl (cI, 200, .inl (fun z9 => nI ((rPut X bf p (X.nx r)).len z9)))), ((b 2), .inl (cI, 200, .inl (fun z9 => pI ((rPut X bf p (X.nx r)).par z9)))), ((b 3), .inl (cI, 200, .inl (fun z9 => nI ((rPut X bf p (X.nx r)).lev z9)))), ((b 4), .inl (cI, 200, .inl (fun z9 => nI ((rPut X bf p (X.nx r)).hol z9)))), ((b 5), .inl (cI, 200, .inl (fun z9 => nI ((rPut X bf p (X.nx r)).sta z9)))), ((b 6), .inl (cI, 200, .inl (fun z9 => nI ((rPut X bf p (X.nx r)).en z9)))), ((b 7), .inl (cI, 200, .inl (fun z9 => pI ((rPut X bf p (X.nx r)).fc z9)))), ((b 8), .inl (cI, 200, .inl (fun z9 => pI ((rPut X bf p (X.nx r)).nx z9))))] := hD.sub (ws' := [(h, .inr (3, [.ref (b 0), .ref (b 1), .ref (b 2), .ref (b 3), .ref (b 4), .ref (b 5), .ref (b 6), .ref (b 7), .ref (b 8), .int (nI (rPut X bf p (X.nx r)).n)])), ((b 0), .inl (cI, 200, .inl (fun z9 => nI ((rPut X bf p (X.nx r)).pre z9)))), ((b 1), .inl (cI, 200, .inl (fun z9 => nI ((rPut X bf p (X.nx r)).len z9)))), ((b 2), .inl (cI, 200, .inl (fun z9 => pI ((rPut X bf p (X.nx r)).par z9)))), ((b 3), .inl (cI, 200, .inl (fun z9 => nI ((rPut X bf p (X.nx r)).lev z9)))), ((b 4), .inl (cI, 200, .inl (fun z9 => nI ((rPut X bf p (X.nx r)).hol z9)))), ((b 5), .inl (cI, 200, .inl (fun z9 => nI ((rPut X bf p (X.nx r)).sta z9)))), ((b 6), .inl (cI, 200, .inl (fun z9 => nI ((rPut X bf p (X.nx r)).en z9)))), ((b 7), .inl (cI, 200, .inl (fun z9 => pI ((rPut X bf p (X.nx r)).fc z9)))), ((b 8), .inl (cI, 200, .inl (fun z9 => pI ((rPut X bf p (X.nx r)).nx z9))))]) [0, 1, 2, 3, 4, 5, 6, 7, 8, 9] (by decide) rfl
    have e9 : walkU r none L = bf := hres.symm
    have hP9 : va_P (dC, dI) classes (wRe cI h b (rUnc X r p L)) H := by unfold rUnc; rw [e9]; exact hP
    have hD9 : va_D A (wRe cI h b (rUnc X r p L)) := by unfold rUnc; rw [e9]; exact hD
    exact W.vret hx hb hr (fun t ht hW => ⟨⟨(), rfl, trivial, by rw [ht]; exact hP9, va_K.moved hW.alike hK, hD9⟩, hS.F ht⟩) hS.2.2 d_Re_unchain_67
  | cons j t ih =>
    obtain ⟨rfl, hC⟩ := hC
    have hj : j < 200 := ho j rfl
    replace hi : i + (t.length + 1) ≤ 200 := hi
    replace hl : lv_has ls 5 [(4, .int (nI i)), (3, .int (nI j)), (2, .int (pI bf)), (0, .ref h), (1, .int (nI r))] := hl
    refine lv_iload hx hb d_Re_unchain_17 (lv_at hl 0 rfl) ?_
    refine lv_sipush (v := 200) hx hb d_Re_unchain_19 (by decide) ?_
    refine lv_icmp_ge hx hb d_Re_unchain_22 rfl (fun h9 => absurd h9 (nI_ge (b := 200) (by omega) (by decide))) (fun _ => ?_)
    refine lv_iload_n hx hb d_Re_unchain_25 rfl (lv_at hl 1 rfl) ?_
    refine lv_iconst (v := (-1)) hx hb d_Re_unchain_26 (by decide) ?_
    refine lv_icmp_eq hx hb d_Re_unchain_27 rfl (fun h9 => absurd h9 (k_nm1 hj)) (fun _ => ?_)
    refine lv_iload_n hx hb d_Re_unchain_30 rfl (lv_at hl 1 rfl) ?_
    refine lv_iload_n hx hb d_Re_unchain_31 rfl (lv_at hl 4 rfl) ?_
    refine lv_icmp_eq hx hb d_Re_unchain_32 rfl (fun h32 => ?_) (fun h32 => ?_)
    · have h32 := (nI_eq (by omega) (by omega)).mp h32
      refine lv_aload_n hx hb d_Re_unchain_50 rfl (lv_at hl 3 rfl) ?_
      refine lv_iload_n hx hb d_Re_unchain_51 rfl (lv_at hl 2 rfl) ?_
      refine lv_aload_n hx hb d_Re_unchain_52 rfl (lv_at hl 3 rfl) ?_
      refine va_get (D := (dC, dI)) (ci := 3) (v := .ref (b 2)) (C := R_Re) (T := F_Re) (N := 10) hx hb hts u_Re hown hK hP 0 rfl rfl 2 (by decide) (hts _ kw_41) (fun _ h9 => h9) rfl d_Re_unchain_53 ?_
      refine lv_iload_n hx hb d_Re_unchain_56 rfl (lv_at hl 4 rfl) ?_
      refine x_iald (j := r) (v := (pI (X.par r))) hx hb hK hP 3 0 rfl rfl hr0 (by decide) rfl rfl d_Re_unchain_57 ?_
      refine x_topi (y := (nI p)) (by rw [hp]; rfl) ?_
      refine lv_aload_n hx hb d_Re_unchain_58 rfl (lv_at hl 3 rfl) ?_
      refine va_get (D := (dC, dI)) (ci := 3) (v := .ref (b 8)) (C := R_Re) (T := F_Re) (N := 10) hx hb hts u_Re hown hK hP 0 rfl rfl 8 (by decide) (hts _ kw_55) (fun _ h9 => h9) rfl d_Re_unchain_59 ?_
      refine lv_iload_n hx hb d_Re_unchain_62 rfl (lv_at hl 4 rfl) ?_
      refine x_iald (j := r) (v := (pI (X.nx r))) hx hb hK hP 9 0 rfl rfl hr0 (by decide) rfl rfl d_Re_unchain_63 ?_
      have hPc := hP.sub (ws' := (wRe cI h b X)) [0, 1, 2, 3, 4, 5, 6, 7, 8, 9] rfl
      have hDc := hD.sub (ws' := (wRe cI h b X)) [0, 1, 2, 3, 4, 5, 6, 7, 8, 9] (by decide) rfl
      have hFc := va_free (wc := (wRe cI h b X)) hD hS hA [0, 1, 2, 3, 4, 5, 6, 7, 8, 9] rfl
      refine va_callv (va_runV (b := h) (As := [.int (pI bf), .int (nI p), .int (pI (X.nx r))]) (rest := []) ⟨hx, hb, hml, hown, hts⟩ (c_Re_putBehind l dC dI s.heap.size cI h b X bf p (X.nx r) hbf2 hp0) (cwV 3 hts (gV kw_397 kw_399 ks_5 kw_3 kw_400) rfl rfl rfl (by decide +kernel) ⟨Nat.le_of_ble_eq_true rfl, Nat.le_of_ble_eq_true rfl⟩) ⟨PcM.blind, va_recv (q0 := 0) hK hPc rfl rfl, PcM.use hPc hK hN hDc⟩ rfl rfl hl.1 rfl (lv_room (Nat.le_of_ble_eq_true rfl)) d_Re_unchain_64 ⟨Nat.le_of_ble_eq_true rfl, Nat.le_of_ble_eq_true rfl⟩) hS (fun q _ h => hFc q h) hFc (fun u9 H9 H1 locs hH9 hv9 hp9 hB hz1 hk1 hS => ?_)
      obtain ⟨hP1, hK1, hD1⟩ := hB
      rw [hH9] at hP1
      obtain ⟨hP, hD⟩ := va_join (wr := []) (w1 := (wRe cI h b (rPut X bf p (X.nx r)))) hP hD [0, 1, 2, 3, 4, 5, 6, 7, 8, 9] [] rfl rfl (by decide) (by decide) hk1 hFc hP1 hD1
      clear hPc hDc hFc hP1 hD1 hK1 hk1 hz1 hv9 hH9
      generalize H1 = H at hP hS ⊢
      replace hP : va_P (dC, dI) classes [(h, .inr (3, [.ref (b 0), .ref (b 1), .ref (b 2), .ref (b 3), .ref (b 4), .ref (b 5), .ref (b 6), .ref (b 7), .ref (b 8), .int (nI (rPut X bf p (X.nx r)).n)])), ((b 0), .inl (cI, 200, .inl (fun z9 => nI ((rPut X bf p (X.nx r)).pre z9)))), ((b 1), .inl (cI, 200, .inl (fun z9 => nI ((rPut X bf p (X.nx r)).len z9)))), ((b 2), .inl (cI, 200, .inl (fun z9 => pI ((rPut X bf p (X.nx r)).par z9)))), ((b 3), .inl (cI, 200, .inl (fun z9 => nI ((rPut X bf p (X.nx r)).lev z9)))), ((b 4), .inl (cI, 200, .inl (fun z9 => nI ((rPut X bf p (X.nx r)).hol z9)))), ((b 5), .inl (cI, 200, .inl (fun z9 => nI ((rPut X bf p (X.nx r)).sta z9)))), ((b 6), .inl (cI, 200, .inl (fun z9 => nI ((rPut X bf p (X.nx r)).en z9)))), ((b 7), .inl (cI, 200, .inl (fun z9 => pI ((rPut X bf p (X.nx r)).fc z9)))), ((b 8), .inl (cI, 200, .inl (fun z9 => pI ((rPut X bf p (X.nx r)).nx z9))))] H := hP.sub (ws' := [(h, .inr (3, [.ref (b 0), .ref (b 1), .ref (b 2), .ref (b 3), .ref (b 4), .ref (b 5), .ref (b 6), .ref (b 7), .ref (b 8), .int (nI (rPut X bf p (X.nx r)).n)])), ((b 0), .inl (cI, 200, .inl (fun z9 => nI ((rPut X bf p (X.nx r)).pre z9)))), ((b 1), .inl (cI, 200, .inl (fun z9 => nI ((rPut X bf p (X.nx r)).len z9)))), ((b 2), .inl (cI, 200, .inl (fun z9 => pI ((rPut X bf p (X.nx r)).par z9)))), ((b 3), .inl (cI, 200, .inl (fun z9 => nI ((rPut X bf p (X.nx r)).lev z9)))), ((b 4), .inl (cI, 200, .inl (fun z9 => nI ((rPut X bf p (X.nx r)).hol z9)))), ((b 5), .inl (cI, 200, .inl (fun z9 => nI ((rPut X bf p (X.nx r)).sta z9)))), ((b 6), .inl (cI, 200, .inl (fun z9 => nI ((rPut X bf p (X.nx r)).en z9)))), ((b 7), .inl (cI, 200, .inl (fun z9 => pI ((rPut X bf p (X.nx r)).fc z9)))), ((b 8), .inl (cI, 200, .inl (fun z9 => pI ((rPut X bf p (X.nx r)).nx z9))))]) [0, 1, 2, 3, 4, 5, 6, 7, 8, 9] rfl
      replace hD : va_D A [(h, .inr (3, [.ref (b 0), .ref (b 1), .ref (b 2), .ref (b 3), .ref (b 4), .ref (b 5), .ref (b 6), .ref (b 7), .ref (b 8), .int (nI (rPut X bf p (X.nx r)).n)])), ((b 0), .inl (cI, 200, .inl (fun z9 => nI ((rPut X bf p (X.nx r)).pre z9)))), ((b 1), .inl (cI, 200, .inl (fun z9 => nI ((rPut X bf p (X.nx r)).len z9)))), ((b 2), .inl (cI, 200, .inl (fun z9 => pI ((rPut X bf p (X.nx r)).par z9)))), ((b 3), .inl (cI, 200, .inl (fun z9 => nI ((rPut X bf p (X.nx r)).lev z9)))), ((b 4), .inl (cI, 200, .inl (fun z9 => nI ((rPut X bf p (X.nx r)).hol z9)))), ((b 5), .inl (cI, 200, .inl (fun z9 => nI ((rPut X bf p (X.nx r)).sta z9)))), ((b 6), .inl (cI, 200, .inl (fun z9 => nI ((rPut X bf p (X.nx r)).en z9)))), ((b 7), .inl (cI, 200, .inl (fun z9 => pI ((rPut X bf p (X.nx r)).fc z9)))), ((b 8), .inl (cI, 200, .inl (fun z9 => pI ((rPut X bf p (X.nx r)).nx z9))))] := hD.sub (ws' := [(h, .inr (3, [.ref (b 0), .ref (b 1), .ref (b 2), .ref (b 3), .ref (b 4), .ref (b 5), .ref (b 6), .ref (b 7), .ref (b 8), .int (nI (rPut X bf p (X.nx r)).n)])), ((b 0), .inl (cI, 200, .inl (fun z9 => nI ((rPut X bf p (X.nx r)).pre z9)))), ((b 1), .inl (cI, 200, .inl (fun z9 => nI ((rPut X bf p (X.nx r)).len z9)))), ((b 2), .inl (cI, 200, .inl (fun z9 => pI ((rPut X bf p (X.nx r)).par z9)))), ((b 3), .inl (cI, 200, .inl (fun z9 => nI ((rPut X bf p (X.nx r)).lev z9)))), ((b 4), .inl (cI, 200, .inl (fun z9 => nI ((rPut X bf p (X.nx r)).hol z9)))), ((b 5), .inl (cI, 200, .inl (fun z9 => nI ((rPut X bf p (X.nx r)).sta z9)))), ((b 6), .inl (cI, 200, .inl (fun z9 => nI ((rPut X bf p (X.nx r)).en z9)))), ((b 7), .inl (cI, 200, .inl (fun z9 => pI ((rPut X bf p (X.nx r)).fc z9)))), ((b 8), .inl (cI, 200, .inl (fun z9 => pI ((rPut X bf p (X.nx r)).nx z9))))]) [0, 1, 2, 3, 4, 5, 6, 7, 8, 9] (by decide) rfl
      have e9 : walkU r none L = bf := by rw [← hres]; simp only [walkU]; rw [if_pos h32]
      have hP9 : va_P (dC, dI) classes (wRe cI h b (rUnc X r p L)) H := by unfold rUnc; rw [e9]; exact hP
      have hD9 : va_D A (wRe cI h b (rUnc X r p L)) := by unfold rUnc; rw [e9]; exact hD
      exact W.vret hx hb hr (fun t ht hW => ⟨⟨(), rfl, trivial, by rw [ht]; exact hP9, va_K.moved hW.alike hK, hD9⟩, hS.F ht⟩) hS.2.2 d_Re_unchain_67
    have h32 := mt (nI_eq (by omega) (by omega)).mpr h32
    refine lv_iload_n hx hb d_Re_unchain_35 rfl (lv_at hl 1 rfl) ?_
    refine x_topi (y := (pI (some j))) rfl ?_
    refine lv_istore_n hx hb d_Re_unchain_36 rfl hl (by decide) rfl (fun ls hl => ?_)
    replace hl : lv_has ls 5 [(2, .int (pI (some j))), (4, .int (nI i)), (3, .int (nI j)), (0, .ref h), (1, .int (nI r))] := hl
    refine lv_aload_n hx hb d_Re_unchain_37 rfl (lv_at hl 3 rfl) ?_
    refine va_get (D := (dC, dI)) (ci := 3) (v := .ref (b 8)) (C := R_Re) (T := F_Re) (N := 10) hx hb hts u_Re hown hK hP 0 rfl rfl 8 (by decide) (hts _ kw_55) (fun _ h9 => h9) rfl d_Re_unchain_38 ?_
    refine lv_iload_n hx hb d_Re_unchain_41 rfl (lv_at hl 2 rfl) ?_
    refine x_iald (j := j) (v := (pI (X.nx j))) hx hb hK hP 9 0 rfl rfl hj (by decide) rfl rfl d_Re_unchain_42 ?_
    refine lv_istore_n hx hb d_Re_unchain_43 rfl hl (by decide) rfl (fun ls hl => ?_)
    replace hl : lv_has ls 5 [(3, .int (pI (X.nx j))), (2, .int (pI (some j))), (4, .int (nI i)), (0, .ref h), (1, .int (nI r))] := hl
    refine lv_iinc hx hb d_Re_unchain_44 hl (k := 2) (v := (nI (i + 1))) rfl (nI_1 i) (by decide) rfl (fun ls hl => ?_)
    replace hl : lv_has ls 5 [(4, .int (nI (i + 1))), (3, .int (pI (X.nx j))), (2, .int (pI (some j))), (0, .ref h), (1, .int (nI r))] := hl
    refine lv_goto hx hb d_Re_unchain_47 rfl ?_
    refine ih _ _ _ _ hC (fun k q => hX.nx q) ?_ ?_ ?_ hl
    · omega
    · exact (by rw [← hres]; simp only [walkU]; rw [if_neg h32])
    · exact (fun k q => by cases q; exact hj)
set_option maxHeartbeats 4000000 in
set_option maxRecDepth 100000 in
theorem c_Re_addBelow (l : Launch) (dC : Nat → ClassId) (dI : Nat → Nat → Nat) (sz : Nat) (cI : ClassId) (h : Nat) (b : Nat → Nat) (X : RS) (hX : RSok X) (hXn : X.n < 200) (a p n v : Nat) (ha : a < X.n) (hp : p < 4294967296) (hn : n < 33) (hv : v < 5) (hlv : X.lev a < 4) (L : List Nat) (hC : chn X.nx (X.fc a) L) (hL : L.length ≤ 200) (hLn : ∀ c9 ∈ L, c9 < X.n) : Met l y_Re_addBelow (.code y_Re_addBelow b_Re_addBelow 6 (some .int) :: wG) ({ frames := 3, cells := 0, slots := 0, locals := 65 }) (PcM (dC, dI) [(cI, .int)] (wRe cI h b X) [.ref h, .int (nI a), .int (nI p), .int (nI n), .int (nI v)] sz) (QmI (dC, dI) [(cI, .int)] (wRe cI h b X) (wRe cI h b (rChn (rBel X a p n v) X.n a L)) sz (nI X.n)) 0 0 (va_A (wRe cI h b X) sz) := by
  refine Met.ofW (cc := b_Re_addBelow) (maxL := 6) (ret := (some .int)) (by decide) rfl ?_
  intro pg eg s mg ag bg meth cg s₁ B hml hv
  obtain ⟨rfl, hsz, hP, hK, hD0, hN⟩ := hv
  have hx := B.exec
  have hb := B.bytes
  have hr := B.returns
  have hlocks := B.notSynchronized
  have hts : ∀ w9 ∈ wG, w9.before ([.ref h, .int (nI a), .int (nI p), .int (nI n), .int (nI v)] : List Value).toArray s = true := fun w9 h9 => atoms_spec (ws := (.code y_Re_addBelow b_Re_addBelow 6 (some .int) :: wG)) B.pre w9 (List.mem_cons_of_mem _ h9)
  have hown : s.vm.findClass "PrefixRegistry$Records" = some mg.cls := findClass_of_methodNamed B.named
  subst hsz
  have hD := hD0.self (sz := s.heap.size)
  unfold QmI
  generalize hAe : va_A (wRe cI h b X) s.heap.size = A at hD ⊢
  have hA : ∀ q : Nat, s.heap.size ≤ q → A q := fun q h => by rw [← hAe]; exact Or.inr h
  have hS : va_S A s.heap s.heap [] := va_S.rf
  have hl := lv_entry ([.ref h, .int (nI a), .int (nI p), .int (nI n), .int (nI v)]) (n := 6) (Nat.le_of_ble_eq_true rfl)
  rw [lg_entry_eq]
  generalize (lg_sl ([.ref h, .int (nI a), .int (nI p), .int (nI n), .int (nI v)]) ++ List.replicate (6 - (lg_sl ([.ref h, .int (nI a), .int (nI p), .int (nI n), .int (nI v)])).length) Slot.unset).toArray = ls at hl ⊢
  replace hl : lv_has ls 6 [(0, .ref h), (1, .int (nI a)), (2, .int (nI p)), (3, .int (nI n)), (4, .int (nI v))] := hl
  replace hP : va_P (dC, dI) classes (wRe cI h b X) s.heap := hP
  replace hD : va_D A (wRe cI h b X) := hD
  refine lv_aload_n hx hb d_Re_addBelow_0 rfl (lv_at hl 0 rfl) ?_
  refine lv_iload_n hx hb d_Re_addBelow_1 rfl (lv_at hl 2 rfl) ?_
  refine lv_iload_n hx hb d_Re_addBelow_2 rfl (lv_at hl 3 rfl) ?_
  refine lv_iload hx hb d_Re_addBelow_3 (lv_at hl 4 rfl) ?_
  have hPc := hP.sub (ws' := (wRe cI h b X)) [0, 1, 2, 3, 4, 5, 6, 7, 8, 9] rfl
  have hDc := hD.sub (ws' := (wRe cI h b X)) [0, 1, 2, 3, 4, 5, 6, 7, 8, 9] (by decide) rfl
  have hFc := va_free (wc := (wRe cI h b X)) hD hS hA [0, 1, 2, 3, 4, 5, 6, 7, 8, 9] rfl
  refine va_calli (va_runV (b := h) (As := [.int (nI p), .int (nI n), .int (nI v)]) (rest := []) ⟨hx, hb, hml, hown, hts⟩ (c_Re_addRow l dC dI s.heap.size cI h b X hXn p n v) (cwV 3 hts (gV kw_352 kw_354 ks_2 kw_3 kw_355) rfl rfl rfl (by decide +kernel) ⟨Nat.le_of_ble_eq_true rfl, Nat.le_of_ble_eq_true rfl⟩) ⟨PcM.blind, va_recv (q0 := 0) hK hPc rfl rfl, PcM.use hPc hK hN hDc⟩ rfl rfl hl.1 rfl (lv_room (Nat.le_of_ble_eq_true rfl)) d_Re_addBelow_5 ⟨Nat.le_of_ble_eq_true rfl, Nat.le_of_ble_eq_true rfl⟩) hS (fun q _ h => hFc q h) hFc (fun r5 u9 H9 H1 locs hH9 hv9 hp9 hB hz1 hk1 hS => ?_)
  obtain rfl : r5 = (nI X.n) := hp9
  obtain ⟨hP1, hK1, hD1⟩ := hB
  rw [hH9] at hP1
  obtain ⟨hP, hD⟩ := va_join (wr := []) (w1 := (wRe cI h b (rAdd X p n v))) hP hD [0, 1, 2, 3, 4, 5, 6, 7, 8, 9] [] rfl rfl (by decide) (by decide) hk1 hFc hP1 hD1
  clear hPc hDc hFc hP1 hD1 hK1 hk1 hz1 hv9 hH9
  generalize H1 = H at hP hS ⊢
  replace hP : va_P (dC, dI) classes [(h, .inr (3, [.ref (b 0), .ref (b 1), .ref (b 2), .ref (b 3), .ref (b 4), .ref (b 5), .ref (b 6), .ref (b 7), .ref (b 8), .int (nI (rAdd X p n v).n)])), ((b 0), .inl (cI, 200, .inl (fun z9 => nI ((rAdd X p n v).pre z9)))), ((b 1), .inl (cI, 200, .inl (fun z9 => nI ((rAdd X p n v).len z9)))), ((b 2), .inl (cI, 200, .inl (fun z9 => pI ((rAdd X p n v).par z9)))), ((b 3), .inl (cI, 200, .inl (fun z9 => nI ((rAdd X p n v).lev z9)))), ((b 4), .inl (cI, 200, .inl (fun z9 => nI ((rAdd X p n v).hol z9)))), ((b 5), .inl (cI, 200, .inl (fun z9 => nI ((rAdd X p n v).sta z9)))), ((b 6), .inl (cI, 200, .inl (fun z9 => nI ((rAdd X p n v).en z9)))), ((b 7), .inl (cI, 200, .inl (fun z9 => pI ((rAdd X p n v).fc z9)))), ((b 8), .inl (cI, 200, .inl (fun z9 => pI ((rAdd X p n v).nx z9))))] H := hP.sub (ws' := [(h, .inr (3, [.ref (b 0), .ref (b 1), .ref (b 2), .ref (b 3), .ref (b 4), .ref (b 5), .ref (b 6), .ref (b 7), .ref (b 8), .int (nI (rAdd X p n v).n)])), ((b 0), .inl (cI, 200, .inl (fun z9 => nI ((rAdd X p n v).pre z9)))), ((b 1), .inl (cI, 200, .inl (fun z9 => nI ((rAdd X p n v).len z9)))), ((b 2), .inl (cI, 200, .inl (fun z9 => pI ((rAdd X p n v).par z9)))), ((b 3), .inl (cI, 200, .inl (fun z9 => nI ((rAdd X p n v).lev z9)))), ((b 4), .inl (cI, 200, .inl (fun z9 => nI ((rAdd X p n v).hol z9)))), ((b 5), .inl (cI, 200, .inl (fun z9 => nI ((rAdd X p n v).sta z9)))), ((b 6), .inl (cI, 200, .inl (fun z9 => nI ((rAdd X p n v).en z9)))), ((b 7), .inl (cI, 200, .inl (fun z9 => pI ((rAdd X p n v).fc z9)))), ((b 8), .inl (cI, 200, .inl (fun z9 => pI ((rAdd X p n v).nx z9))))]) [0, 1, 2, 3, 4, 5, 6, 7, 8, 9] rfl
  replace hD : va_D A [(h, .inr (3, [.ref (b 0), .ref (b 1), .ref (b 2), .ref (b 3), .ref (b 4), .ref (b 5), .ref (b 6), .ref (b 7), .ref (b 8), .int (nI (rAdd X p n v).n)])), ((b 0), .inl (cI, 200, .inl (fun z9 => nI ((rAdd X p n v).pre z9)))), ((b 1), .inl (cI, 200, .inl (fun z9 => nI ((rAdd X p n v).len z9)))), ((b 2), .inl (cI, 200, .inl (fun z9 => pI ((rAdd X p n v).par z9)))), ((b 3), .inl (cI, 200, .inl (fun z9 => nI ((rAdd X p n v).lev z9)))), ((b 4), .inl (cI, 200, .inl (fun z9 => nI ((rAdd X p n v).hol z9)))), ((b 5), .inl (cI, 200, .inl (fun z9 => nI ((rAdd X p n v).sta z9)))), ((b 6), .inl (cI, 200, .inl (fun z9 => nI ((rAdd X p n v).en z9)))), ((b 7), .inl (cI, 200, .inl (fun z9 => pI ((rAdd X p n v).fc z9)))), ((b 8), .inl (cI, 200, .inl (fun z9 => pI ((rAdd X p n v).nx z9))))] := hD.sub (ws' := [(h, .inr (3, [.ref (b 0), .ref (b 1), .ref (b 2), .ref (b 3), .ref (b 4), .ref (b 5), .ref (b 6), .ref (b 7), .ref (b 8), .int (nI (rAdd X p n v).n)])), ((b 0), .inl (cI, 200, .inl (fun z9 => nI ((rAdd X p n v).pre z9)))), ((b 1), .inl (cI, 200, .inl (fun z9 => nI ((rAdd X p n v).len z9)))), ((b 2), .inl (cI, 200, .inl (fun z9 => pI ((rAdd X p n v).par z9)))), ((b 3), .inl (cI, 200, .inl (fun z9 => nI ((rAdd X p n v).lev z9)))), ((b 4), .inl (cI, 200, .inl (fun z9 => nI ((rAdd X p n v).hol z9)))), ((b 5), .inl (cI, 200, .inl (fun z9 => nI ((rAdd X p n v).sta z9)))), ((b 6), .inl (cI, 200, .inl (fun z9 => nI ((rAdd X p n v).en z9)))), ((b 7), .inl (cI, 200, .inl (fun z9 => pI ((rAdd X p n v).fc z9)))), ((b 8), .inl (cI, 200, .inl (fun z9 => pI ((rAdd X p n v).nx z9))))]) [0, 1, 2, 3, 4, 5, 6, 7, 8, 9] (by decide) rfl
  refine lv_istore hx hb d_Re_addBelow_8 hl (by decide) rfl (fun ls hl => ?_)
  replace hl : lv_has ls 6 [(5, .int (nI X.n)), (0, .ref h), (1, .int (nI a)), (2, .int (nI p)), (3, .int (nI n)), (4, .int (nI v))] := hl
  refine lv_aload_n hx hb d_Re_addBelow_10 rfl (lv_at hl 1 rfl) ?_
  refine va_get (D := (dC, dI)) (ci := 3) (v := .ref (b 2)) (C := R_Re) (T := F_Re) (N := 10) hx hb hts u_Re hown hK hP 0 rfl rfl 2 (by decide) (hts _ kw_41) (fun _ h9 => h9) rfl d_Re_addBelow_11 ?_
  refine lv_iload hx hb d_Re_addBelow_14 (lv_at hl 0 rfl) ?_
  refine lv_iload_n hx hb d_Re_addBelow_16 rfl (lv_at hl 2 rfl) ?_
  refine x_iast (j := X.n) (g := (fun z9 => pI (va_up ((rAdd X p n v).par) X.n (some a) z9))) hx hb hK hP hD hS 3 0 rfl rfl hXn (by decide) rfl (up_pI _ _ (some a)) rfl d_Re_addBelow_17 (fun H locs hP hD hS => ?_)
  replace hP : va_P (dC, dI) classes [(h, .inr (3, [.ref (b 0), .ref (b 1), .ref (b 2), .ref (b 3), .ref (b 4), .ref (b 5), .ref (b 6), .ref (b 7), .ref (b 8), .int (nI (rAdd X p n v).n)])), ((b 0), .inl (cI, 200, .inl (fun z9 => nI ((rAdd X p n v).pre z9)))), ((b 1), .inl (cI, 200, .inl (fun z9 => nI ((rAdd X p n v).len z9)))), ((b 2), .inl (cI, 200, .inl (fun z9 => pI (va_up ((rAdd X p n v).par) X.n (some a) z9)))), ((b 3), .inl (cI, 200, .inl (fun z9 => nI ((rAdd X p n v).lev z9)))), ((b 4), .inl (cI, 200, .inl (fun z9 => nI ((rAdd X p n v).hol z9)))), ((b 5), .inl (cI, 200, .inl (fun z9 => nI ((rAdd X p n v).sta z9)))), ((b 6), .inl (cI, 200, .inl (fun z9 => nI ((rAdd X p n v).en z9)))), ((b 7), .inl (cI, 200, .inl (fun z9 => pI ((rAdd X p n v).fc z9)))), ((b 8), .inl (cI, 200, .inl (fun z9 => pI ((rAdd X p n v).nx z9))))] H := hP
  replace hD : va_D A [(h, .inr (3, [.ref (b 0), .ref (b 1), .ref (b 2), .ref (b 3), .ref (b 4), .ref (b 5), .ref (b 6), .ref (b 7), .ref (b 8), .int (nI (rAdd X p n v).n)])), ((b 0), .inl (cI, 200, .inl (fun z9 => nI ((rAdd X p n v).pre z9)))), ((b 1), .inl (cI, 200, .inl (fun z9 => nI ((rAdd X p n v).len z9)))), ((b 2), .inl (cI, 200, .inl (fun z9 => pI (va_up ((rAdd X p n v).par) X.n (some a) z9)))), ((b 3), .inl (cI, 200, .inl (fun z9 => nI ((rAdd X p n v).lev z9)))), ((b 4), .inl (cI, 200, .inl (fun z9 => nI ((rAdd X p n v).hol z9)))), ((b 5), .inl (cI, 200, .inl (fun z9 => nI ((rAdd X p n v).sta z9)))), ((b 6), .inl (cI, 200, .inl (fun z9 => nI ((rAdd X p n v).en z9)))), ((b 7), .inl (cI, 200, .inl (fun z9 => pI ((rAdd X p n v).fc z9)))), ((b 8), .inl (cI, 200, .inl (fun z9 => pI ((rAdd X p n v).nx z9))))] := hD
  refine lv_aload_n hx hb d_Re_addBelow_18 rfl (lv_at hl 1 rfl) ?_
  refine va_get (D := (dC, dI)) (ci := 3) (v := .ref (b 3)) (C := R_Re) (T := F_Re) (N := 10) hx hb hts u_Re hown hK hP 0 rfl rfl 3 (by decide) (hts _ kw_43) (fun _ h9 => h9) rfl d_Re_addBelow_19 ?_
  refine lv_iload hx hb d_Re_addBelow_22 (lv_at hl 0 rfl) ?_
  refine lv_aload_n hx hb d_Re_addBelow_24 rfl (lv_at hl 1 rfl) ?_
  refine va_get (D := (dC, dI)) (ci := 3) (v := .ref (b 3)) (C := R_Re) (T := F_Re) (N := 10) hx hb hts u_Re hown hK hP 0 rfl rfl 3 (by decide) (hts _ kw_43) (fun _ h9 => h9) rfl d_Re_addBelow_25 ?_
  refine lv_iload_n hx hb d_Re_addBelow_28 rfl (lv_at hl 2 rfl) ?_
  refine x_iald (j := a) (v := (nI ((rAdd X p n v).lev a))) hx hb hK hP 4 0 rfl rfl (by omega) (by decide) rfl rfl d_Re_addBelow_29 ?_
  refine lv_iconst (v := 1) hx hb d_Re_addBelow_30 (by decide) ?_
  refine lv_iadd hx hb d_Re_addBelow_31 ?_
  refine x_topi (y := (nI (X.lev a + 1))) (nI_1 _) ?_
  refine x_iast (j := X.n) (g := (fun z9 => nI (va_up ((rAdd X p n v).lev) X.n (X.lev a + 1) z9))) hx hb hK hP hD hS 4 0 rfl rfl hXn (by decide) rfl (up_nI _ _ (X.lev a + 1)) rfl d_Re_addBelow_32 (fun H locs hP hD hS => ?_)
  replace hP : va_P (dC, dI) classes [(h, .inr (3, [.ref (b 0), .ref (b 1), .ref (b 2), .ref (b 3), .ref (b 4), .ref (b 5), .ref (b 6), .ref (b 7), .ref (b 8), .int (nI (rAdd X p n v).n)])), ((b 0), .inl (cI, 200, .inl (fun z9 => nI ((rAdd X p n v).pre z9)))), ((b 1), .inl (cI, 200, .inl (fun z9 => nI ((rAdd X p n v).len z9)))), ((b 2), .inl (cI, 200, .inl (fun z9 => pI (va_up ((rAdd X p n v).par) X.n (some a) z9)))), ((b 3), .inl (cI, 200, .inl (fun z9 => nI (va_up ((rAdd X p n v).lev) X.n (X.lev a + 1) z9)))), ((b 4), .inl (cI, 200, .inl (fun z9 => nI ((rAdd X p n v).hol z9)))), ((b 5), .inl (cI, 200, .inl (fun z9 => nI ((rAdd X p n v).sta z9)))), ((b 6), .inl (cI, 200, .inl (fun z9 => nI ((rAdd X p n v).en z9)))), ((b 7), .inl (cI, 200, .inl (fun z9 => pI ((rAdd X p n v).fc z9)))), ((b 8), .inl (cI, 200, .inl (fun z9 => pI ((rAdd X p n v).nx z9))))] H := hP
  replace hD : va_D A [(h, .inr (3, [.ref (b 0), .ref (b 1), .ref (b 2), .ref (b 3), .ref (b 4), .ref (b 5), .ref (b 6), .ref (b 7), .ref (b 8), .int (nI (rAdd X p n v).n)])), ((b 0), .inl (cI, 200, .inl (fun z9 => nI ((rAdd X p n v).pre z9)))), ((b 1), .inl (cI, 200, .inl (fun z9 => nI ((rAdd X p n v).len z9)))), ((b 2), .inl (cI, 200, .inl (fun z9 => pI (va_up ((rAdd X p n v).par) X.n (some a) z9)))), ((b 3), .inl (cI, 200, .inl (fun z9 => nI (va_up ((rAdd X p n v).lev) X.n (X.lev a + 1) z9)))), ((b 4), .inl (cI, 200, .inl (fun z9 => nI ((rAdd X p n v).hol z9)))), ((b 5), .inl (cI, 200, .inl (fun z9 => nI ((rAdd X p n v).sta z9)))), ((b 6), .inl (cI, 200, .inl (fun z9 => nI ((rAdd X p n v).en z9)))), ((b 7), .inl (cI, 200, .inl (fun z9 => pI ((rAdd X p n v).fc z9)))), ((b 8), .inl (cI, 200, .inl (fun z9 => pI ((rAdd X p n v).nx z9))))] := hD
  refine lv_aload_n hx hb d_Re_addBelow_33 rfl (lv_at hl 1 rfl) ?_
  refine va_get (D := (dC, dI)) (ci := 3) (v := .ref (b 4)) (C := R_Re) (T := F_Re) (N := 10) hx hb hts u_Re hown hK hP 0 rfl rfl 4 (by decide) (hts _ kw_45) (fun _ h9 => h9) rfl d_Re_addBelow_34 ?_
  refine lv_iload hx hb d_Re_addBelow_37 (lv_at hl 0 rfl) ?_
  refine lv_aload_n hx hb d_Re_addBelow_39 rfl (lv_at hl 1 rfl) ?_
  refine va_get (D := (dC, dI)) (ci := 3) (v := .ref (b 4)) (C := R_Re) (T := F_Re) (N := 10) hx hb hts u_Re hown hK hP 0 rfl rfl 4 (by decide) (hts _ kw_45) (fun _ h9 => h9) rfl d_Re_addBelow_40 ?_
  refine lv_iload_n hx hb d_Re_addBelow_43 rfl (lv_at hl 2 rfl) ?_
  refine x_iald (j := a) (v := (nI ((rAdd X p n v).hol a))) hx hb hK hP 5 0 rfl rfl (by omega) (by decide) rfl rfl d_Re_addBelow_44 ?_
  refine x_iast (j := X.n) (g := (fun z9 => nI (va_up ((rAdd X p n v).hol) X.n ((rAdd X p n v).hol a) z9))) hx hb hK hP hD hS 5 0 rfl rfl hXn (by decide) rfl (up_nI _ _ ((rAdd X p n v).hol a)) rfl d_Re_addBelow_45 (fun H locs hP hD hS => ?_)
  replace hP : va_P (dC, dI) classes [(h, .inr (3, [.ref (b 0), .ref (b 1), .ref (b 2), .ref (b 3), .ref (b 4), .ref (b 5), .ref (b 6), .ref (b 7), .ref (b 8), .int (nI (rAdd X p n v).n)])), ((b 0), .inl (cI, 200, .inl (fun z9 => nI ((rAdd X p n v).pre z9)))), ((b 1), .inl (cI, 200, .inl (fun z9 => nI ((rAdd X p n v).len z9)))), ((b 2), .inl (cI, 200, .inl (fun z9 => pI (va_up ((rAdd X p n v).par) X.n (some a) z9)))), ((b 3), .inl (cI, 200, .inl (fun z9 => nI (va_up ((rAdd X p n v).lev) X.n (X.lev a + 1) z9)))), ((b 4), .inl (cI, 200, .inl (fun z9 => nI (va_up ((rAdd X p n v).hol) X.n ((rAdd X p n v).hol a) z9)))), ((b 5), .inl (cI, 200, .inl (fun z9 => nI ((rAdd X p n v).sta z9)))), ((b 6), .inl (cI, 200, .inl (fun z9 => nI ((rAdd X p n v).en z9)))), ((b 7), .inl (cI, 200, .inl (fun z9 => pI ((rAdd X p n v).fc z9)))), ((b 8), .inl (cI, 200, .inl (fun z9 => pI ((rAdd X p n v).nx z9))))] H := hP
  replace hD : va_D A [(h, .inr (3, [.ref (b 0), .ref (b 1), .ref (b 2), .ref (b 3), .ref (b 4), .ref (b 5), .ref (b 6), .ref (b 7), .ref (b 8), .int (nI (rAdd X p n v).n)])), ((b 0), .inl (cI, 200, .inl (fun z9 => nI ((rAdd X p n v).pre z9)))), ((b 1), .inl (cI, 200, .inl (fun z9 => nI ((rAdd X p n v).len z9)))), ((b 2), .inl (cI, 200, .inl (fun z9 => pI (va_up ((rAdd X p n v).par) X.n (some a) z9)))), ((b 3), .inl (cI, 200, .inl (fun z9 => nI (va_up ((rAdd X p n v).lev) X.n (X.lev a + 1) z9)))), ((b 4), .inl (cI, 200, .inl (fun z9 => nI (va_up ((rAdd X p n v).hol) X.n ((rAdd X p n v).hol a) z9)))), ((b 5), .inl (cI, 200, .inl (fun z9 => nI ((rAdd X p n v).sta z9)))), ((b 6), .inl (cI, 200, .inl (fun z9 => nI ((rAdd X p n v).en z9)))), ((b 7), .inl (cI, 200, .inl (fun z9 => pI ((rAdd X p n v).fc z9)))), ((b 8), .inl (cI, 200, .inl (fun z9 => pI ((rAdd X p n v).nx z9))))] := hD
  refine lv_aload_n hx hb d_Re_addBelow_46 rfl (lv_at hl 1 rfl) ?_
  refine lv_iload hx hb d_Re_addBelow_47 (lv_at hl 0 rfl) ?_
  have hPc := hP.sub (ws' := (wRe cI h b (rBel X a p n v))) [0, 1, 2, 3, 4, 5, 6, 7, 8, 9] rfl
  have hDc := hD.sub (ws' := (wRe cI h b (rBel X a p n v))) [0, 1, 2, 3, 4, 5, 6, 7, 8, 9] (by decide) rfl
  have hFc := va_free (wc := (wRe cI h b (rBel X a p n v))) hD hS hA [0, 1, 2, 3, 4, 5, 6, 7, 8, 9] rfl
  refine va_callv (va_runV (b := h) (As := [.int (nI X.n)]) (rest := []) ⟨hx, hb, hml, hown, hts⟩ (c_Re_chain l dC dI H.size cI h b (rBel X a p n v) (RSok.bel hX hp hn hv hlv ha hXn) X.n hXn a (show va_up X.par X.n (some a) X.n = some a by unfold va_up; rw [if_pos rfl]) (by omega) L (chn_bel hC hLn ha) hL) (cwV 1 hts (gV kw_393 kw_395 ks_4 kw_3 kw_396) rfl rfl rfl (by decide +kernel) ⟨Nat.le_of_ble_eq_true rfl, Nat.le_of_ble_eq_true rfl⟩) ⟨PcM.blind, va_recv (q0 := 0) hK hPc rfl rfl, PcM.use hPc hK hN hDc⟩ rfl rfl hl.1 rfl (lv_room (Nat.le_of_ble_eq_true rfl)) d_Re_addBelow_49 ⟨Nat.le_of_ble_eq_true rfl, Nat.le_of_ble_eq_true rfl⟩) hS (fun q _ h => hFc q h) hFc (fun u9 H9 H1 locs hH9 hv9 hp9 hB hz1 hk1 hS => ?_)
  obtain ⟨hP1, hK1, hD1⟩ := hB
  rw [hH9] at hP1
  obtain ⟨hP, hD⟩ := va_join (wr := []) (w1 := (wRe cI h b (rChn (rBel X a p n v) X.n a L))) hP hD [0, 1, 2, 3, 4, 5, 6, 7, 8, 9] [] rfl rfl (by decide) (by decide) hk1 hFc hP1 hD1
  clear hPc hDc hFc hP1 hD1 hK1 hk1 hz1 hv9 hH9
  generalize H1 = H at hP hS ⊢
  replace hP : va_P (dC, dI) classes [(h, .inr (3, [.ref (b 0), .ref (b 1), .ref (b 2), .ref (b 3), .ref (b 4), .ref (b 5), .ref (b 6), .ref (b 7), .ref (b 8), .int (nI (rChn (rBel X a p n v) X.n a L).n)])), ((b 0), .inl (cI, 200, .inl (fun z9 => nI ((rChn (rBel X a p n v) X.n a L).pre z9)))), ((b 1), .inl (cI, 200, .inl (fun z9 => nI ((rChn (rBel X a p n v) X.n a L).len z9)))), ((b 2), .inl (cI, 200, .inl (fun z9 => pI ((rChn (rBel X a p n v) X.n a L).par z9)))), ((b 3), .inl (cI, 200, .inl (fun z9 => nI ((rChn (rBel X a p n v) X.n a L).lev z9)))), ((b 4), .inl (cI, 200, .inl (fun z9 => nI ((rChn (rBel X a p n v) X.n a L).hol z9)))), ((b 5), .inl (cI, 200, .inl (fun z9 => nI ((rChn (rBel X a p n v) X.n a L).sta z9)))), ((b 6), .inl (cI, 200, .inl (fun z9 => nI ((rChn (rBel X a p n v) X.n a L).en z9)))), ((b 7), .inl (cI, 200, .inl (fun z9 => pI ((rChn (rBel X a p n v) X.n a L).fc z9)))), ((b 8), .inl (cI, 200, .inl (fun z9 => pI ((rChn (rBel X a p n v) X.n a L).nx z9))))] H := hP.sub (ws' := [(h, .inr (3, [.ref (b 0), .ref (b 1), .ref (b 2), .ref (b 3), .ref (b 4), .ref (b 5), .ref (b 6), .ref (b 7), .ref (b 8), .int (nI (rChn (rBel X a p n v) X.n a L).n)])), ((b 0), .inl (cI, 200, .inl (fun z9 => nI ((rChn (rBel X a p n v) X.n a L).pre z9)))), ((b 1), .inl (cI, 200, .inl (fun z9 => nI ((rChn (rBel X a p n v) X.n a L).len z9)))), ((b 2), .inl (cI, 200, .inl (fun z9 => pI ((rChn (rBel X a p n v) X.n a L).par z9)))), ((b 3), .inl (cI, 200, .inl (fun z9 => nI ((rChn (rBel X a p n v) X.n a L).lev z9)))), ((b 4), .inl (cI, 200, .inl (fun z9 => nI ((rChn (rBel X a p n v) X.n a L).hol z9)))), ((b 5), .inl (cI, 200, .inl (fun z9 => nI ((rChn (rBel X a p n v) X.n a L).sta z9)))), ((b 6), .inl (cI, 200, .inl (fun z9 => nI ((rChn (rBel X a p n v) X.n a L).en z9)))), ((b 7), .inl (cI, 200, .inl (fun z9 => pI ((rChn (rBel X a p n v) X.n a L).fc z9)))), ((b 8), .inl (cI, 200, .inl (fun z9 => pI ((rChn (rBel X a p n v) X.n a L).nx z9))))]) [0, 1, 2, 3, 4, 5, 6, 7, 8, 9] rfl
  replace hD : va_D A [(h, .inr (3, [.ref (b 0), .ref (b 1), .ref (b 2), .ref (b 3), .ref (b 4), .ref (b 5), .ref (b 6), .ref (b 7), .ref (b 8), .int (nI (rChn (rBel X a p n v) X.n a L).n)])), ((b 0), .inl (cI, 200, .inl (fun z9 => nI ((rChn (rBel X a p n v) X.n a L).pre z9)))), ((b 1), .inl (cI, 200, .inl (fun z9 => nI ((rChn (rBel X a p n v) X.n a L).len z9)))), ((b 2), .inl (cI, 200, .inl (fun z9 => pI ((rChn (rBel X a p n v) X.n a L).par z9)))), ((b 3), .inl (cI, 200, .inl (fun z9 => nI ((rChn (rBel X a p n v) X.n a L).lev z9)))), ((b 4), .inl (cI, 200, .inl (fun z9 => nI ((rChn (rBel X a p n v) X.n a L).hol z9)))), ((b 5), .inl (cI, 200, .inl (fun z9 => nI ((rChn (rBel X a p n v) X.n a L).sta z9)))), ((b 6), .inl (cI, 200, .inl (fun z9 => nI ((rChn (rBel X a p n v) X.n a L).en z9)))), ((b 7), .inl (cI, 200, .inl (fun z9 => pI ((rChn (rBel X a p n v) X.n a L).fc z9)))), ((b 8), .inl (cI, 200, .inl (fun z9 => pI ((rChn (rBel X a p n v) X.n a L).nx z9))))] := hD.sub (ws' := [(h, .inr (3, [.ref (b 0), .ref (b 1), .ref (b 2), .ref (b 3), .ref (b 4), .ref (b 5), .ref (b 6), .ref (b 7), .ref (b 8), .int (nI (rChn (rBel X a p n v) X.n a L).n)])), ((b 0), .inl (cI, 200, .inl (fun z9 => nI ((rChn (rBel X a p n v) X.n a L).pre z9)))), ((b 1), .inl (cI, 200, .inl (fun z9 => nI ((rChn (rBel X a p n v) X.n a L).len z9)))), ((b 2), .inl (cI, 200, .inl (fun z9 => pI ((rChn (rBel X a p n v) X.n a L).par z9)))), ((b 3), .inl (cI, 200, .inl (fun z9 => nI ((rChn (rBel X a p n v) X.n a L).lev z9)))), ((b 4), .inl (cI, 200, .inl (fun z9 => nI ((rChn (rBel X a p n v) X.n a L).hol z9)))), ((b 5), .inl (cI, 200, .inl (fun z9 => nI ((rChn (rBel X a p n v) X.n a L).sta z9)))), ((b 6), .inl (cI, 200, .inl (fun z9 => nI ((rChn (rBel X a p n v) X.n a L).en z9)))), ((b 7), .inl (cI, 200, .inl (fun z9 => pI ((rChn (rBel X a p n v) X.n a L).fc z9)))), ((b 8), .inl (cI, 200, .inl (fun z9 => pI ((rChn (rBel X a p n v) X.n a L).nx z9))))]) [0, 1, 2, 3, 4, 5, 6, 7, 8, 9] (by decide) rfl
  refine lv_iload hx hb d_Re_addBelow_52 (lv_at hl 0 rfl) ?_
  have hP9 : va_P (dC, dI) classes (wRe cI h b (rChn (rBel X a p n v) X.n a L)) H := hP
  have hD9 : va_D A (wRe cI h b (rChn (rBel X a p n v) X.n a L)) := hD
  exact W.iret (v := (nI X.n)) hx hb hr (fun t ht hW => ⟨⟨(nI X.n), (), rfl, (by rfl), by rw [ht]; exact hP9, va_K.moved hW.alike hK, hD9⟩, hS.F ht⟩) hS.2.2 d_Re_addBelow_54
set_option maxHeartbeats 4000000 in
set_option maxRecDepth 100000 in
theorem c_Re_markReturned (l : Launch) (dC : Nat → ClassId) (dI : Nat → Nat → Nat) (sz : Nat) (cI : ClassId) (h : Nat) (b : Nat → Nat) (X : RS) (hX : RSok X) (r : Nat) (hr0 : r < 200) (L : List Nat) (hC : ∀ p, X.par r = some p → p < 200 ∧ chn X.nx (X.fc p) L) (hL : L.length ≤ 200) : Met l y_Re_markReturned (.code y_Re_markReturned b_Re_markReturned 2 none :: wG) ({ frames := 2, cells := 0, slots := 0, locals := 47 }) (PcM (dC, dI) [(cI, .int)] (wRe cI h b X) [.ref h, .int (nI r)] sz) (QmV (dC, dI) [(cI, .int)] (wRe cI h b X) (wRe cI h b (rRet X r L)) sz) 0 0 (va_A (wRe cI h b X) sz) := by
  refine Met.ofW (cc := b_Re_markReturned) (maxL := 2) (ret := none) (by decide) rfl ?_
  intro pg eg s mg ag bg meth cg s₁ B hml hv
  obtain ⟨rfl, hsz, hP, hK, hD0, hN⟩ := hv
  have hx := B.exec
  have hb := B.bytes
  have hr := B.returns
  have hlocks := B.notSynchronized
  have hts : ∀ w9 ∈ wG, w9.before ([.ref h, .int (nI r)] : List Value).toArray s = true := fun w9 h9 => atoms_spec (ws := (.code y_Re_markReturned b_Re_markReturned 2 none :: wG)) B.pre w9 (List.mem_cons_of_mem _ h9)
  have hown : s.vm.findClass "PrefixRegistry$Records" = some mg.cls := findClass_of_methodNamed B.named
  subst hsz
  have hD := hD0.self (sz := s.heap.size)
  unfold QmV
  generalize hAe : va_A (wRe cI h b X) s.heap.size = A at hD ⊢
  have hA : ∀ q : Nat, s.heap.size ≤ q → A q := fun q h => by rw [← hAe]; exact Or.inr h
  have hS : va_S A s.heap s.heap [] := va_S.rf
  have hl := lv_entry ([.ref h, .int (nI r)]) (n := 2) (Nat.le_of_ble_eq_true rfl)
  rw [lg_entry_eq]
  generalize (lg_sl ([.ref h, .int (nI r)]) ++ List.replicate (2 - (lg_sl ([.ref h, .int (nI r)])).length) Slot.unset).toArray = ls at hl ⊢
  replace hl : lv_has ls 2 [(0, .ref h), (1, .int (nI r))] := hl
  replace hP : va_P (dC, dI) classes (wRe cI h b X) s.heap := hP
  replace hD : va_D A (wRe cI h b X) := hD
  refine lv_aload_n hx hb d_Re_markReturned_0 rfl (lv_at hl 0 rfl) ?_
  refine va_get (D := (dC, dI)) (ci := 3) (v := .ref (b 5)) (C := R_Re) (T := F_Re) (N := 10) hx hb hts u_Re hown hK hP 0 rfl rfl 5 (by decide) (hts _ kw_47) (fun _ h9 => h9) rfl d_Re_markReturned_1 ?_
  refine lv_iload_n hx hb d_Re_markReturned_4 rfl (lv_at hl 1 rfl) ?_
  refine lv_iconst (v := 4) hx hb d_Re_markReturned_5 (by decide) ?_
  refine x_iast (j := r) (g := (fun z9 => nI (va_up X.sta r 4 z9))) hx hb hK hP hD hS 6 0 rfl rfl hr0 (by decide) rfl (up_nI _ _ 4) rfl d_Re_markReturned_6 (fun H locs hP hD hS => ?_)
  replace hP : va_P (dC, dI) classes [(h, .inr (3, [.ref (b 0), .ref (b 1), .ref (b 2), .ref (b 3), .ref (b 4), .ref (b 5), .ref (b 6), .ref (b 7), .ref (b 8), .int (nI X.n)])), ((b 0), .inl (cI, 200, .inl (fun z9 => nI (X.pre z9)))), ((b 1), .inl (cI, 200, .inl (fun z9 => nI (X.len z9)))), ((b 2), .inl (cI, 200, .inl (fun z9 => pI (X.par z9)))), ((b 3), .inl (cI, 200, .inl (fun z9 => nI (X.lev z9)))), ((b 4), .inl (cI, 200, .inl (fun z9 => nI (X.hol z9)))), ((b 5), .inl (cI, 200, .inl (fun z9 => nI (va_up X.sta r 4 z9)))), ((b 6), .inl (cI, 200, .inl (fun z9 => nI (X.en z9)))), ((b 7), .inl (cI, 200, .inl (fun z9 => pI (X.fc z9)))), ((b 8), .inl (cI, 200, .inl (fun z9 => pI (X.nx z9))))] H := hP
  replace hD : va_D A [(h, .inr (3, [.ref (b 0), .ref (b 1), .ref (b 2), .ref (b 3), .ref (b 4), .ref (b 5), .ref (b 6), .ref (b 7), .ref (b 8), .int (nI X.n)])), ((b 0), .inl (cI, 200, .inl (fun z9 => nI (X.pre z9)))), ((b 1), .inl (cI, 200, .inl (fun z9 => nI (X.len z9)))), ((b 2), .inl (cI, 200, .inl (fun z9 => pI (X.par z9)))), ((b 3), .inl (cI, 200, .inl (fun z9 => nI (X.lev z9)))), ((b 4), .inl (cI, 200, .inl (fun z9 => nI (X.hol z9)))), ((b 5), .inl (cI, 200, .inl (fun z9 => nI (va_up X.sta r 4 z9)))), ((b 6), .inl (cI, 200, .inl (fun z9 => nI (X.en z9)))), ((b 7), .inl (cI, 200, .inl (fun z9 => pI (X.fc z9)))), ((b 8), .inl (cI, 200, .inl (fun z9 => pI (X.nx z9))))] := hD
  refine lv_aload_n hx hb d_Re_markReturned_7 rfl (lv_at hl 0 rfl) ?_
  refine lv_iload_n hx hb d_Re_markReturned_8 rfl (lv_at hl 1 rfl) ?_
  refine vp_callSi (W.runV (b := h) (As := [.int (nI r)]) (rest := []) ⟨hx, hb, hml, hown, hts⟩ (c_Re_isTop l dC dI cI h b (rSta X r 4) (RSok.sta4 hX (v := 4) (by decide)) r hr0) (cwV 1 hts (gV kw_413 kw_290 kw_291 kw_3 kw_292) rfl rfl rfl (by decide +kernel) ⟨Nat.le_of_ble_eq_true rfl, Nat.le_of_ble_eq_true rfl⟩) ⟨PcS.blind, va_recv (q0 := 0) hK hP rfl rfl, PcS.use hP hK hN⟩ rfl rfl hl.1 rfl (lv_room (Nat.le_of_ble_eq_true rfl)) d_Re_markReturned_9 ⟨Nat.zero_le _, Nat.zero_le _⟩) (fun r9 hr9 => ?_)
  obtain rfl : r9 = bi (decide (X.par r = none)) := hr9
  refine lv_if_ne hx hb d_Re_markReturned_12 rfl (fun h12 => ?_) (fun h12 => ?_)
  · have h12 := Decidable.not_not.mp (mt bi_d.mpr h12)
    have e9 : rRet X r L = rSta X r 4 := by unfold rRet; rw [h12]
    have hP9 : va_P (dC, dI) classes (wRe cI h b (rRet X r L)) H := by rw [e9]; exact hP
    have hD9 : va_D A (wRe cI h b (rRet X r L)) := by rw [e9]; exact hD
    exact W.vret hx hb hr (fun t ht hW => ⟨⟨(), rfl, trivial, by rw [ht]; exact hP9, va_K.moved hW.alike hK, hD9⟩, hS.F ht⟩) hS.2.2 d_Re_markReturned_20
  have h12 := bi_d.mp h12
  obtain ⟨p, hp⟩ : ∃ p, X.par r = some p := by cases e9 : X.par r with | none => exact absurd e9 h12 | some q => exact ⟨q, rfl⟩
  refine lv_aload_n hx hb d_Re_markReturned_15 rfl (lv_at hl 0 rfl) ?_
  refine lv_iload_n hx hb d_Re_markReturned_16 rfl (lv_at hl 1 rfl) ?_
  have hPc := hP.sub (ws' := (wRe cI h b (rSta X r 4))) [0, 1, 2, 3, 4, 5, 6, 7, 8, 9] rfl
  have hDc := hD.sub (ws' := (wRe cI h b (rSta X r 4))) [0, 1, 2, 3, 4, 5, 6, 7, 8, 9] (by decide) rfl
  have hFc := va_free (wc := (wRe cI h b (rSta X r 4))) hD hS hA [0, 1, 2, 3, 4, 5, 6, 7, 8, 9] rfl
  refine va_callv (va_runV (b := h) (As := [.int (nI r)]) (rest := []) ⟨hx, hb, hml, hown, hts⟩ (c_Re_unchain l dC dI H.size cI h b (rSta X r 4) (RSok.sta4 hX (v := 4) (by decide)) r hr0 p hp (hC p hp).1 L (hC p hp).2 hL) (cwV 1 hts (gV kw_414 kw_416 ks_8 kw_3 kw_417) rfl rfl rfl (by decide +kernel) ⟨Nat.le_of_ble_eq_true rfl, Nat.le_of_ble_eq_true rfl⟩) ⟨PcM.blind, va_recv (q0 := 0) hK hPc rfl rfl, PcM.use hPc hK hN hDc⟩ rfl rfl hl.1 rfl (lv_room (Nat.le_of_ble_eq_true rfl)) d_Re_markReturned_17 ⟨Nat.le_of_ble_eq_true rfl, Nat.le_of_ble_eq_true rfl⟩) hS (fun q _ h => hFc q h) hFc (fun u9 H9 H1 locs hH9 hv9 hp9 hB hz1 hk1 hS => ?_)
  obtain ⟨hP1, hK1, hD1⟩ := hB
  rw [hH9] at hP1
  obtain ⟨hP, hD⟩ := va_join (wr := []) (w1 := (wRe cI h b (rUnc (rSta X r 4) r p L))) hP hD [0, 1, 2, 3, 4, 5, 6, 7, 8, 9] [] rfl rfl (by decide) (by decide) hk1 hFc hP1 hD1
  clear hPc hDc hFc hP1 hD1 hK1 hk1 hz1 hv9 hH9
  generalize H1 = H at hP hS ⊢
  replace hP : va_P (dC, dI) classes [(h, .inr (3, [.ref (b 0), .ref (b 1), .ref (b 2), .ref (b 3), .ref (b 4), .ref (b 5), .ref (b 6), .ref (b 7), .ref (b 8), .int (nI (rUnc (rSta X r 4) r p L).n)])), ((b 0), .inl (cI, 200, .inl (fun z9 => nI ((rUnc (rSta X r 4) r p L).pre z9)))), ((b 1), .inl (cI, 200, .inl (fun z9 => nI ((rUnc (rSta X r 4) r p L).len z9)))), ((b 2), .inl (cI, 200, .inl (fun z9 => pI ((rUnc (rSta X r 4) r p L).par z9)))), ((b 3), .inl (cI, 200, .inl (fun z9 => nI ((rUnc (rSta X r 4) r p L).lev z9)))), ((b 4), .inl (cI, 200, .inl (fun z9 => nI ((rUnc (rSta X r 4) r p L).hol z9)))), ((b 5), .inl (cI, 200, .inl (fun z9 => nI ((rUnc (rSta X r 4) r p L).sta z9)))), ((b 6), .inl (cI, 200, .inl (fun z9 => nI ((rUnc (rSta X r 4) r p L).en z9)))), ((b 7), .inl (cI, 200, .inl (fun z9 => pI ((rUnc (rSta X r 4) r p L).fc z9)))), ((b 8), .inl (cI, 200, .inl (fun z9 => pI ((rUnc (rSta X r 4) r p L).nx z9))))] H := hP.sub (ws' := [(h, .inr (3, [.ref (b 0), .ref (b 1), .ref (b 2), .ref (b 3), .ref (b 4), .ref (b 5), .ref (b 6), .ref (b 7), .ref (b 8), .int (nI (rUnc (rSta X r 4) r p L).n)])), ((b 0), .inl (cI, 200, .inl (fun z9 => nI ((rUnc (rSta X r 4) r p L).pre z9)))), ((b 1), .inl (cI, 200, .inl (fun z9 => nI ((rUnc (rSta X r 4) r p L).len z9)))), ((b 2), .inl (cI, 200, .inl (fun z9 => pI ((rUnc (rSta X r 4) r p L).par z9)))), ((b 3), .inl (cI, 200, .inl (fun z9 => nI ((rUnc (rSta X r 4) r p L).lev z9)))), ((b 4), .inl (cI, 200, .inl (fun z9 => nI ((rUnc (rSta X r 4) r p L).hol z9)))), ((b 5), .inl (cI, 200, .inl (fun z9 => nI ((rUnc (rSta X r 4) r p L).sta z9)))), ((b 6), .inl (cI, 200, .inl (fun z9 => nI ((rUnc (rSta X r 4) r p L).en z9)))), ((b 7), .inl (cI, 200, .inl (fun z9 => pI ((rUnc (rSta X r 4) r p L).fc z9)))), ((b 8), .inl (cI, 200, .inl (fun z9 => pI ((rUnc (rSta X r 4) r p L).nx z9))))]) [0, 1, 2, 3, 4, 5, 6, 7, 8, 9] rfl
  replace hD : va_D A [(h, .inr (3, [.ref (b 0), .ref (b 1), .ref (b 2), .ref (b 3), .ref (b 4), .ref (b 5), .ref (b 6), .ref (b 7), .ref (b 8), .int (nI (rUnc (rSta X r 4) r p L).n)])), ((b 0), .inl (cI, 200, .inl (fun z9 => nI ((rUnc (rSta X r 4) r p L).pre z9)))), ((b 1), .inl (cI, 200, .inl (fun z9 => nI ((rUnc (rSta X r 4) r p L).len z9)))), ((b 2), .inl (cI, 200, .inl (fun z9 => pI ((rUnc (rSta X r 4) r p L).par z9)))), ((b 3), .inl (cI, 200, .inl (fun z9 => nI ((rUnc (rSta X r 4) r p L).lev z9)))), ((b 4), .inl (cI, 200, .inl (fun z9 => nI ((rUnc (rSta X r 4) r p L).hol z9)))), ((b 5), .inl (cI, 200, .inl (fun z9 => nI ((rUnc (rSta X r 4) r p L).sta z9)))), ((b 6), .inl (cI, 200, .inl (fun z9 => nI ((rUnc (rSta X r 4) r p L).en z9)))), ((b 7), .inl (cI, 200, .inl (fun z9 => pI ((rUnc (rSta X r 4) r p L).fc z9)))), ((b 8), .inl (cI, 200, .inl (fun z9 => pI ((rUnc (rSta X r 4) r p L).nx z9))))] := hD.sub (ws' := [(h, .inr (3, [.ref (b 0), .ref (b 1), .ref (b 2), .ref (b 3), .ref (b 4), .ref (b 5), .ref (b 6), .ref (b 7), .ref (b 8), .int (nI (rUnc (rSta X r 4) r p L).n)])), ((b 0), .inl (cI, 200, .inl (fun z9 => nI ((rUnc (rSta X r 4) r p L).pre z9)))), ((b 1), .inl (cI, 200, .inl (fun z9 => nI ((rUnc (rSta X r 4) r p L).len z9)))), ((b 2), .inl (cI, 200, .inl (fun z9 => pI ((rUnc (rSta X r 4) r p L).par z9)))), ((b 3), .inl (cI, 200, .inl (fun z9 => nI ((rUnc (rSta X r 4) r p L).lev z9)))), ((b 4), .inl (cI, 200, .inl (fun z9 => nI ((rUnc (rSta X r 4) r p L).hol z9)))), ((b 5), .inl (cI, 200, .inl (fun z9 => nI ((rUnc (rSta X r 4) r p L).sta z9)))), ((b 6), .inl (cI, 200, .inl (fun z9 => nI ((rUnc (rSta X r 4) r p L).en z9)))), ((b 7), .inl (cI, 200, .inl (fun z9 => pI ((rUnc (rSta X r 4) r p L).fc z9)))), ((b 8), .inl (cI, 200, .inl (fun z9 => pI ((rUnc (rSta X r 4) r p L).nx z9))))]) [0, 1, 2, 3, 4, 5, 6, 7, 8, 9] (by decide) rfl
  have e9 : rRet X r L = rUnc (rSta X r 4) r p L := by unfold rRet; rw [hp]
  have hP9 : va_P (dC, dI) classes (wRe cI h b (rRet X r L)) H := by rw [e9]; exact hP
  have hD9 : va_D A (wRe cI h b (rRet X r L)) := by rw [e9]; exact hD
  exact W.vret hx hb hr (fun t ht hW => ⟨⟨(), rfl, trivial, by rw [ht]; exact hP9, va_K.moved hW.alike hK, hD9⟩, hS.F ht⟩) hS.2.2 d_Re_markReturned_20
