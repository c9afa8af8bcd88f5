def chL (X : RS) (C : Nat → List Nat) (r : Nat) : List Nat := match X.par r with
  | none => []
  | some p => C p
theorem chL_len {X : RS} {C : Nat → List Nat} {r : Nat} (hCh : ∀ r, r < X.n → chn X.nx (X.fc r) (C r) ∧ (C r).length ≤ 200) (hp : ∀ p, X.par r = some p → p < X.n) : (chL X C r).length ≤ 200 := by
  unfold chL
  cases h : X.par r with
  | none => simp
  | some p => exact (hCh p (hp p h)).2
theorem omN_0 {X : RS} {x : Nat} (h : omN X x = 0) : X.lev x < 4 ∧ ¬ X.n = 200 := by
  unfold omN at h
  by_cases h1 : X.lev x < 4
  · rw [if_pos h1] at h
    by_cases h2 : X.n = 200
    · rw [if_pos h2] at h; exact absurd h (by decide)
    · exact ⟨h1, h2⟩
  · rw [if_neg h1] at h; exact absurd h (by decide)
theorem rsvN_0 {X : RS} {C : Nat → List Nat} {x a n : Nat} (h : rsvN X C x a n = 0) : (x < X.n ∧ X.sta x = 1) ∧ (X.len x < n ∧ n ≤ 32) ∧ X.lev x < 4 ∧ ¬ X.n = 200 := by
  unfold rsvN at h
  by_cases h1 : x < X.n ∧ X.sta x = 1
  · rw [if_pos h1] at h
    by_cases h2 : (X.len x < n ∧ n ≤ 32) ∧ a % 2 ^ (32 - n) = 0 ∧ mt2 (X.pre x) (X.len x) a n
    · rw [if_pos h2] at h
      by_cases h3 : omN X x = 0
      · exact ⟨h1, h2.1, (omN_0 h3).1, (omN_0 h3).2⟩
      · rw [if_neg h3] at h; exact absurd h h3
    · rw [if_neg h2] at h; exact absurd h (by decide)
  · rw [if_neg h1] at h; exact absurd h (by decide)
theorem groN_0 {X : RS} {C : Nat → List Nat} {x : Nat} (h : groN X C x = 0) : x < X.n ∧ X.len ((X.par x).getD 0) < X.len x := by
  unfold groN at h
  by_cases h1 : (x < X.n ∧ X.sta x = 1) ∧ X.par x ≠ none
  · rw [if_pos h1] at h
    by_cases h2 : X.len ((X.par x).getD 0) < X.len x
    · exact ⟨h1.1.1, h2⟩
    · rw [if_neg h2] at h; exact absurd h (by decide)
  · rw [if_neg h1] at h; exact absurd h (by decide)
theorem shrN_0 {X : RS} {C : Nat → List Nat} {x : Nat} {u : Bool} (h : shrN X C x u = 0) : x < X.n ∧ X.len x < 32 := by
  unfold shrN at h
  by_cases h1 : (x < X.n ∧ X.sta x = 1) ∧ X.par x ≠ none
  · rw [if_pos h1] at h
    by_cases h2 : X.len x < 32
    · exact ⟨h1.1.1, h2⟩
    · rw [if_neg h2] at h; exact absurd h (by decide)
  · rw [if_neg h1] at h; exact absurd h (by decide)
set_option maxHeartbeats 4000000 in
set_option maxRecDepth 100000 in
theorem c_PR_reserve (l : Launch) (hlt : l.stackTraces = false) (dC : Nat → ClassId) (dI : Nat → Nat → Nat) (sz : Nat) (cI : ClassId) (o : Nat) (g : Nat → Nat) (S : LDS) (g2 : Nat → Nat) (S2 : LDS) (jh ja : Nat) (pt : Nat → Int32) (jn : Nat) (hS9 : LDok S) (hjn : jn ≤ 300) (C : Nat → List Nat) (hCh : ∀ r, r < S.X.n → chn S.X.nx (S.X.fc r) (C r) ∧ (C r).length ≤ 200) (hCn : ∀ r, r < S.X.n → ∀ c9 ∈ C r, c9 < S.X.n) (hPn : ∀ x q, x < S.X.n → S.X.par x = some q → q < S.X.n) (x p n : Nat) (hx0 : x < 4294967296) (hp0 : p < 4294967296) (hn0 : n < 4294967296) : vx_Met l y_PR_reserve (.code y_PR_reserve b_PR_reserve 5 (some .int) :: wG) ({ frames := 8, cells := 1, slots := 6, locals := 200 }) (PcX (dC, dI) [(cI, .int)] (wPR cI o g S g2 S2 jh ja pt jn) [.ref o, .int (nI x), .int (nI p), .int (nI n)] sz) (QpI (dC, dI) cI o g g2 jh ja (wPR cI o g S g2 S2 jh ja pt jn) sz (fun r9 u => (¬ rsvN S.X C x p n = 0 ∧ r9 = rsvN S.X C x p n ∧ u = (S, S2, pt, jn)) ∨ (rsvN S.X C x p n = 0 ∧ ¬ jn = 300 ∧ r9 = nI S.X.n ∧ u = (((rChn (rBel S.X x p n 2) S.X.n x (C x)), S.pol, S.td, S.qd, S.wk), S2, (jPut pt jn 3 (nI x) (nI p) (nI n)), jn + 1)))) (XCx (fun E9 => E9 = "java/lang/UnsupportedOperationException" ∧ rsvN S.X C x p n = 0 ∧ jn = 300) sz) 1 6 (va_A (wPR cI o g S g2 S2 jh ja pt jn) sz) := by
  refine vx_ofW (cc := b_PR_reserve) (maxL := 5) (ret := (some .int)) (by decide) rfl ?_
  intro pg eg s mg ag bg meth cg s₁ B hml hne hv
  obtain ⟨rfl, hsz, hP, hK, hD0, hN, hX0⟩ := hv
  have hx := B.exec
  have hb := B.bytes
  have hr := B.returns
  have hlocks := B.notSynchronized
  have hts : ∀ w9 ∈ wG, w9.before ([.ref o, .int (nI x), .int (nI p), .int (nI n)] : List Value).toArray s = true := fun w9 h9 => atoms_spec (ws := (.code y_PR_reserve b_PR_reserve 5 (some .int) :: wG)) B.pre w9 (List.mem_cons_of_mem _ h9)
  have hown : s.vm.findClass "PrefixRegistry" = some mg.cls := findClass_of_methodNamed B.named
  subst hsz
  have hD := hD0.self (sz := s.heap.size)
  unfold QpI
  generalize hAe : va_A (wPR cI o g S g2 S2 jh ja pt jn) s.heap.size = A at hD hX0 ⊢
  have hA : ∀ q : Nat, s.heap.size ≤ q → A q := fun q h => by rw [← hAe]; exact Or.inr h
  have hS : va_S A s.heap s.heap [] := va_S.rf
  have hU : ∀ q : Nat, q < s.heap.size → s.heap[q]? = s.heap[q]? := fun q _ => rfl
  have hl := lv_entry ([.ref o, .int (nI x), .int (nI p), .int (nI n)]) (n := 5) (Nat.le_of_ble_eq_true rfl)
  rw [lg_entry_eq]
  generalize (lg_sl ([.ref o, .int (nI x), .int (nI p), .int (nI n)]) ++ List.replicate (5 - (lg_sl ([.ref o, .int (nI x), .int (nI p), .int (nI n)])).length) Slot.unset).toArray = ls at hl ⊢
  replace hl : lv_has ls 5 [(0, .ref o), (1, .int (nI x)), (2, .int (nI p)), (3, .int (nI n))] := hl
  replace hP : va_P (dC, dI) classes (wPR cI o g S g2 S2 jh ja pt jn) s.heap := hP
  replace hD : va_D A (wPR cI o g S g2 S2 jh ja pt jn) := hD
  refine lv_aload_n hx hb d_PR_reserve_0 rfl (lv_at hl 0 rfl) ?_
  refine va_get (D := (dC, dI)) (ci := 4) (v := .ref (g 0)) (C := R_PR) (T := F_PR) (N := 3) hx hb hts u_PR hown hK hP 0 rfl rfl 0 (by decide) (hts _ kw_146) (fun _ h9 => h9) rfl d_PR_reserve_1 ?_
  refine lv_iload_n hx hb d_PR_reserve_4 rfl (lv_at hl 1 rfl) ?_
  refine lv_iload_n hx hb d_PR_reserve_5 rfl (lv_at hl 2 rfl) ?_
  refine lv_iload_n hx hb d_PR_reserve_6 rfl (lv_at hl 3 rfl) ?_
  refine vp_callSi (W.runV (b := (g 0)) (As := [.int (nI x), .int (nI p), .int (nI n)]) (rest := []) ⟨hx, hb, hml, hown, hts⟩ (c_Le_codeForReserving l dC dI cI g S.X hS9.1 S.pol S.td S.qd S.wk C hCh x p n hx0 hp0 hn0) (cwV 3 hts (gV kw_501 kw_502 kw_503 kw_2 kw_504) rfl rfl rfl (by decide +kernel) ⟨Nat.le_of_ble_eq_true rfl, Nat.le_of_ble_eq_true rfl⟩) ⟨PcS.blind, va_recv (q0 := 0) hK (hP.sub (ws' := wLe cI g S.X S.pol S.td S.qd S.wk) [1, 2, 3, 4, 5, 6, 7, 8, 9, 10, 11, 12, 13] rfl) rfl rfl, PcS.use (hP.sub (ws' := wLe cI g S.X S.pol S.td S.qd S.wk) [1, 2, 3, 4, 5, 6, 7, 8, 9, 10, 11, 12, 13] rfl) hK hN⟩ rfl rfl hl.1 rfl (lv_room (Nat.le_of_ble_eq_true rfl)) d_PR_reserve_7 ⟨Nat.zero_le _, Nat.zero_le _⟩) (fun r7 hr7 => ?_)
  obtain rfl : r7 = (rsvN S.X C x p n) := hr7
  refine lv_istore hx hb d_PR_reserve_10 hl (by decide) rfl (fun ls hl => ?_)
  replace hl : lv_has ls 5 [(4, .int (rsvN S.X C x p n)), (0, .ref o), (1, .int (nI x)), (2, .int (nI p)), (3, .int (nI n))] := hl
  refine lv_iload hx hb d_PR_reserve_12 (lv_at hl 0 rfl) ?_
  refine lv_if_ne hx hb d_PR_reserve_14 rfl (fun h14 => ?_) (fun h14 => ?_)
  · refine lv_iload hx hb d_PR_reserve_28 (lv_at hl 0 rfl) ?_
    refine vx_ret ?_
    refine W.widen (k := 1) (n := 6) (Nat.le_of_ble_eq_true rfl) (Nat.le_of_ble_eq_true rfl) ?_
    have hP9 : va_P (dC, dI) classes (wUS cI o g g2 jh ja (S, S2, pt, jn)) s.heap := hP
    have hD9 : va_D A (wUS cI o g g2 jh ja (S, S2, pt, jn)) := hD
    exact W.iret (v := (rsvN S.X C x p n)) hx hb hr (fun t ht hW => ⟨⟨(rsvN S.X C x p n), (S, S2, pt, jn), rfl, Or.inl ⟨h14, rfl, rfl⟩, by rw [ht]; exact hP9, va_K.moved hW.alike hK, hD9⟩, hS.F ht⟩) hS.2.2 d_PR_reserve_30
  have h9 := rsvN_0 h14
  refine lv_aload_n hx hb d_PR_reserve_17 rfl (lv_at hl 1 rfl) ?_
  refine lv_iconst (v := 3) hx hb d_PR_reserve_18 (by decide) ?_
  refine lv_iload_n hx hb d_PR_reserve_19 rfl (lv_at hl 2 rfl) ?_
  refine lv_iload_n hx hb d_PR_reserve_20 rfl (lv_at hl 3 rfl) ?_
  refine lv_iload_n hx hb d_PR_reserve_21 rfl (lv_at hl 4 rfl) ?_
  have hPc := hP.sub (ws' := (wPR cI o g S g2 S2 jh ja pt jn)) [0, 1, 2, 3, 4, 5, 6, 7, 8, 9, 10, 11, 12, 13, 14, 15, 16, 17, 18, 19, 20, 21, 22, 23, 24, 25, 26, 27, 28] rfl
  have hDc := hD.sub (ws' := (wPR cI o g S g2 S2 jh ja pt jn)) [0, 1, 2, 3, 4, 5, 6, 7, 8, 9, 10, 11, 12, 13, 14, 15, 16, 17, 18, 19, 20, 21, 22, 23, 24, 25, 26, 27, 28] (by decide) rfl
  have hFc := va_free (wc := (wPR cI o g S g2 S2 jh ja pt jn)) hD hS hA [0, 1, 2, 3, 4, 5, 6, 7, 8, 9, 10, 11, 12, 13, 14, 15, 16, 17, 18, 19, 20, 21, 22, 23, 24, 25, 26, 27, 28] rfl
  have hS0 := hS.1
  refine vx_calli (vx_runV (b := o) (As := [.int 3, .int (nI x), .int (nI p), .int (nI n)]) (rest := []) ⟨hx, hb, hml, hown, hts⟩ (c_PR_accept_3 l hlt dC dI s.heap.size cI o g S g2 S2 jh ja pt jn hjn hS9.1 (by have := hS9.1.n; have := h9.2.2.2; omega) x p n h9.1.1 hp0 (by have := h9.2.1; omega) h9.2.2.1 C (hCh x h9.1.1).1 (hCh x h9.1.1).2 (hCn x h9.1.1)) (cwV 4 hts (gV kw_332 kw_334 ks_1 kw_1 kw_335) rfl rfl rfl (by decide +kernel) ⟨Nat.le_of_ble_eq_true rfl, Nat.le_of_ble_eq_true rfl⟩) ⟨PcX.blind, va_recv (q0 := 0) hK hPc rfl rfl, PcX.use hPc hK hN hDc hX0 hS hFc⟩ rfl rfl hl.1 rfl (lv_room (Nat.le_of_ble_eq_true rfl)) d_PR_reserve_22 ⟨Nat.le_of_ble_eq_true rfl, Nat.le_of_ble_eq_true rfl⟩) hS (fun q _ h => hFc q h) hFc (fun q h1 h2 => absurd h2 (Nat.not_le.mpr h1)) (fun E9 ce q9 u9 H9 H1 locs hH9 hv9 _ hB hz1 hk1 hS hce hcv hcl => ?_) (fun r22 u9 H9 H1 locs hH9 hv9 hp9 hB hz1 hk1 hS => ?_)
  · exact vx_out (E := E9) (fun x h => (hne x h).elim) hlocks hce hcv hcl (fun t ht hv => ⟨(), trivial, ⟨hB.1, h14, hB.2⟩, Nat.le_trans hS.1 (Nat.le_of_eq (congrArg Array.size ht.symm)), fun q h1 h2 => (congrArg (fun h9 : Heap => h9[q]?) ht).trans ((hk1 q (Nat.lt_of_lt_of_le h1 hS0) (Nat.not_le.mpr (Nat.lt_of_lt_of_le h1 hS0))).trans (hU q h1))⟩) hS.2.2 (Nat.le_of_ble_eq_true rfl) (Nat.le_of_ble_eq_true rfl)
  obtain ⟨hr9, hj9⟩ : r22 = nI S.X.n ∧ ¬ jn = 300 := hp9
  subst hr9
  obtain ⟨hP1, hK1, hD1⟩ := hB
  rw [hH9] at hP1
  obtain ⟨hP, hD⟩ := va_join (wr := []) (w1 := (wPR cI o g ((rChn (rBel S.X x p n 2) S.X.n x (C x)), S.pol, S.td, S.qd, S.wk) g2 S2 jh ja (jPut pt jn 3 (nI x) (nI p) (nI n)) (jn + 1))) hP hD [0, 1, 2, 3, 4, 5, 6, 7, 8, 9, 10, 11, 12, 13, 14, 15, 16, 17, 18, 19, 20, 21, 22, 23, 24, 25, 26, 27, 28] [] rfl rfl (by decide) (by decide) hk1 hFc hP1 hD1
  clear hPc hDc hFc hP1 hD1 hK1 hk1 hz1 hv9 hH9 hU hS0
  generalize H1 = H at hP hS ⊢
  replace hP : va_P (dC, dI) classes (wPR cI o g ((rChn (rBel S.X x p n 2) S.X.n x (C x)), S.pol, S.td, S.qd, S.wk) g2 S2 jh ja (jPut pt jn 3 (nI x) (nI p) (nI n)) (jn + 1)) H := hP
  replace hD : va_D A (wPR cI o g ((rChn (rBel S.X x p n 2) S.X.n x (C x)), S.pol, S.td, S.qd, S.wk) g2 S2 jh ja (jPut pt jn 3 (nI x) (nI p) (nI n)) (jn + 1)) := hD
  refine lv_goto hx hb d_PR_reserve_25 rfl ?_
  refine vx_ret ?_
  refine W.widen (k := 1) (n := 6) (Nat.le_of_ble_eq_true rfl) (Nat.le_of_ble_eq_true rfl) ?_
  have hP9 : va_P (dC, dI) classes (wUS cI o g g2 jh ja (((rChn (rBel S.X x p n 2) S.X.n x (C x)), S.pol, S.td, S.qd, S.wk), S2, (jPut pt jn 3 (nI x) (nI p) (nI n)), jn + 1)) H := hP
  have hD9 : va_D A (wUS cI o g g2 jh ja (((rChn (rBel S.X x p n 2) S.X.n x (C x)), S.pol, S.td, S.qd, S.wk), S2, (jPut pt jn 3 (nI x) (nI p) (nI n)), jn + 1)) := hD
  exact W.iret (v := nI S.X.n) hx hb hr (fun t ht hW => ⟨⟨nI S.X.n, (((rChn (rBel S.X x p n 2) S.X.n x (C x)), S.pol, S.td, S.qd, S.wk), S2, (jPut pt jn 3 (nI x) (nI p) (nI n)), jn + 1), rfl, Or.inr ⟨h14, hj9, rfl, rfl⟩, by rw [ht]; exact hP9, va_K.moved hW.alike hK, hD9⟩, hS.F ht⟩) hS.2.2 d_PR_reserve_30
set_option maxHeartbeats 4000000 in
set_option maxRecDepth 100000 in
theorem c_PR_grow (l : Launch) (hlt : l.stackTraces = false) (dC : Nat → ClassId) (dI : Nat → Nat → Nat) (sz : Nat) (cI : ClassId) (o : Nat) (g : Nat → Nat) (S : LDS) (g2 : Nat → Nat) (S2 : LDS) (jh ja : Nat) (pt : Nat → Int32) (jn : Nat) (hS9 : LDok S) (hjn : jn ≤ 300) (C : Nat → List Nat) (hCh : ∀ r, r < S.X.n → chn S.X.nx (S.X.fc r) (C r) ∧ (C r).length ≤ 200) (hCn : ∀ r, r < S.X.n → ∀ c9 ∈ C r, c9 < S.X.n) (hPn : ∀ x q, x < S.X.n → S.X.par x = some q → q < S.X.n) (x : Nat) (hx0 : x < 4294967296) : vx_Met l y_PR_grow (.code y_PR_grow b_PR_grow 3 (some .int) :: wG) ({ frames := 8, cells := 1, slots := 6, locals := 200 }) (PcX (dC, dI) [(cI, .int)] (wPR cI o g S g2 S2 jh ja pt jn) [.ref o, .int (nI x)] sz) (QpI (dC, dI) cI o g g2 jh ja (wPR cI o g S g2 S2 jh ja pt jn) sz (fun r9 u => (¬ groN S.X C x = 0 ∧ r9 = groN S.X C x ∧ u = (S, S2, pt, jn)) ∨ (groN S.X C x = 0 ∧ ¬ jn = 300 ∧ r9 = nI (S.X.len x - 1) ∧ u = (((rDbl S.X x), S.pol, S.td, S.qd, S.wk), S2, (jPut pt jn 6 (nI x) 0 0), jn + 1)))) (XCx (fun E9 => E9 = "java/lang/UnsupportedOperationException" ∧ groN S.X C x = 0 ∧ jn = 300) sz) 1 6 (va_A (wPR cI o g S g2 S2 jh ja pt jn) sz) := by
  refine vx_ofW (cc := b_PR_grow) (maxL := 3) (ret := (some .int)) (by decide) rfl ?_
  intro pg eg s mg ag bg meth cg s₁ B hml hne hv
  obtain ⟨rfl, hsz, hP, hK, hD0, hN, hX0⟩ := hv
  have hx := B.exec
  have hb := B.bytes
  have hr := B.returns
  have hlocks := B.notSynchronized
  have hts : ∀ w9 ∈ wG, w9.before ([.ref o, .int (nI x)] : List Value).toArray s = true := fun w9 h9 => atoms_spec (ws := (.code y_PR_grow b_PR_grow 3 (some .int) :: wG)) B.pre w9 (List.mem_cons_of_mem _ h9)
  have hown : s.vm.findClass "PrefixRegistry" = some mg.cls := findClass_of_methodNamed B.named
  subst hsz
  have hD := hD0.self (sz := s.heap.size)
  unfold QpI
  generalize hAe : va_A (wPR cI o g S g2 S2 jh ja pt jn) s.heap.size = A at hD hX0 ⊢
  have hA : ∀ q : Nat, s.heap.size ≤ q → A q := fun q h => by rw [← hAe]; exact Or.inr h
  have hS : va_S A s.heap s.heap [] := va_S.rf
  have hU : ∀ q : Nat, q < s.heap.size → s.heap[q]? = s.heap[q]? := fun q _ => rfl
  have hl := lv_entry ([.ref o, .int (nI x)]) (n := 3) (Nat.le_of_ble_eq_true rfl)
  rw [lg_entry_eq]
  generalize (lg_sl ([.ref o, .int (nI x)]) ++ List.replicate (3 - (lg_sl ([.ref o, .int (nI x)])).length) Slot.unset).toArray = ls at hl ⊢
  replace hl : lv_has ls 3 [(0, .ref o), (1, .int (nI x))] := hl
  replace hP : va_P (dC, dI) classes (wPR cI o g S g2 S2 jh ja pt jn) s.heap := hP
  replace hD : va_D A (wPR cI o g S g2 S2 jh ja pt jn) := hD
  refine lv_aload_n hx hb d_PR_grow_0 rfl (lv_at hl 0 rfl) ?_
  refine va_get (D := (dC, dI)) (ci := 4) (v := .ref (g 0)) (C := R_PR) (T := F_PR) (N := 3) hx hb hts u_PR hown hK hP 0 rfl rfl 0 (by decide) (hts _ kw_146) (fun _ h9 => h9) rfl d_PR_grow_1 ?_
  refine lv_iload_n hx hb d_PR_grow_4 rfl (lv_at hl 1 rfl) ?_
  refine vp_callSi (W.runV (b := (g 0)) (As := [.int (nI x)]) (rest := []) ⟨hx, hb, hml, hown, hts⟩ (c_Le_codeForGrowing l dC dI cI g S.X hS9.1 S.pol S.td S.qd S.wk C hCh hPn x hx0) (cwV 1 hts (gV kw_556 kw_557 kw_558 kw_2 kw_559) rfl rfl rfl (by decide +kernel) ⟨Nat.le_of_ble_eq_true rfl, Nat.le_of_ble_eq_true rfl⟩) ⟨PcS.blind, va_recv (q0 := 0) hK (hP.sub (ws' := wLe cI g S.X S.pol S.td S.qd S.wk) [1, 2, 3, 4, 5, 6, 7, 8, 9, 10, 11, 12, 13] rfl) rfl rfl, PcS.use (hP.sub (ws' := wLe cI g S.X S.pol S.td S.qd S.wk) [1, 2, 3, 4, 5, 6, 7, 8, 9, 10, 11, 12, 13] rfl) hK hN⟩ rfl rfl hl.1 rfl (lv_room (Nat.le_of_ble_eq_true rfl)) d_PR_grow_5 ⟨Nat.zero_le _, Nat.zero_le _⟩) (fun r5 hr5 => ?_)
  obtain rfl : r5 = (groN S.X C x) := hr5
  refine lv_istore_n hx hb d_PR_grow_8 rfl hl (by decide) rfl (fun ls hl => ?_)
  replace hl : lv_has ls 3 [(2, .int (groN S.X C x)), (0, .ref o), (1, .int (nI x))] := hl
  refine lv_iload_n hx hb d_PR_grow_9 rfl (lv_at hl 0 rfl) ?_
  refine lv_if_ne hx hb d_PR_grow_10 rfl (fun h10 => ?_) (fun h10 => ?_)
  · refine lv_iload_n hx hb d_PR_grow_25 rfl (lv_at hl 0 rfl) ?_
    refine vx_ret ?_
    refine W.widen (k := 1) (n := 6) (Nat.le_of_ble_eq_true rfl) (Nat.le_of_ble_eq_true rfl) ?_
    have hP9 : va_P (dC, dI) classes (wUS cI o g g2 jh ja (S, S2, pt, jn)) s.heap := hP
    have hD9 : va_D A (wUS cI o g g2 jh ja (S, S2, pt, jn)) := hD
    exact W.iret (v := (groN S.X C x)) hx hb hr (fun t ht hW => ⟨⟨(groN S.X C x), (S, S2, pt, jn), rfl, Or.inl ⟨h10, rfl, rfl⟩, by rw [ht]; exact hP9, va_K.moved hW.alike hK, hD9⟩, hS.F ht⟩) hS.2.2 d_PR_grow_26
  have h9 := groN_0 h10
  refine lv_aload_n hx hb d_PR_grow_13 rfl (lv_at hl 1 rfl) ?_
  refine lv_bipush (v := 6) hx hb d_PR_grow_14 (by decide) ?_
  refine lv_iload_n hx hb d_PR_grow_16 rfl (lv_at hl 2 rfl) ?_
  refine lv_iconst (v := 0) hx hb d_PR_grow_17 (by decide) ?_
  refine lv_iconst (v := 0) hx hb d_PR_grow_18 (by decide) ?_
  have hPc := hP.sub (ws' := (wPR cI o g S g2 S2 jh ja pt jn)) [0, 1, 2, 3, 4, 5, 6, 7, 8, 9, 10, 11, 12, 13, 14, 15, 16, 17, 18, 19, 20, 21, 22, 23, 24, 25, 26, 27, 28] rfl
  have hDc := hD.sub (ws' := (wPR cI o g S g2 S2 jh ja pt jn)) [0, 1, 2, 3, 4, 5, 6, 7, 8, 9, 10, 11, 12, 13, 14, 15, 16, 17, 18, 19, 20, 21, 22, 23, 24, 25, 26, 27, 28] (by decide) rfl
  have hFc := va_free (wc := (wPR cI o g S g2 S2 jh ja pt jn)) hD hS hA [0, 1, 2, 3, 4, 5, 6, 7, 8, 9, 10, 11, 12, 13, 14, 15, 16, 17, 18, 19, 20, 21, 22, 23, 24, 25, 26, 27, 28] rfl
  have hS0 := hS.1
  refine vx_calli (vx_runV (b := o) (As := [.int 6, .int (nI x), .int 0, .int 0]) (rest := []) ⟨hx, hb, hml, hown, hts⟩ (c_PR_accept_6 l hlt dC dI s.heap.size cI o g S g2 S2 jh ja pt jn hjn hS9.1 x (by have := hS9.1.n; have := h9.1; omega) (by have := h9.2; omega)) (cwV 4 hts (gV kw_332 kw_334 ks_1 kw_1 kw_335) rfl rfl rfl (by decide +kernel) ⟨Nat.le_of_ble_eq_true rfl, Nat.le_of_ble_eq_true rfl⟩) ⟨PcX.blind, va_recv (q0 := 0) hK hPc rfl rfl, PcX.use hPc hK hN hDc hX0 hS hFc⟩ rfl rfl hl.1 rfl (lv_room (Nat.le_of_ble_eq_true rfl)) d_PR_grow_19 ⟨Nat.le_of_ble_eq_true rfl, Nat.le_of_ble_eq_true rfl⟩) hS (fun q _ h => hFc q h) hFc (fun q h1 h2 => absurd h2 (Nat.not_le.mpr h1)) (fun E9 ce q9 u9 H9 H1 locs hH9 hv9 _ hB hz1 hk1 hS hce hcv hcl => ?_) (fun r19 u9 H9 H1 locs hH9 hv9 hp9 hB hz1 hk1 hS => ?_)
  · exact vx_out (E := E9) (fun x h => (hne x h).elim) hlocks hce hcv hcl (fun t ht hv => ⟨(), trivial, ⟨hB.1, h10, hB.2⟩, Nat.le_trans hS.1 (Nat.le_of_eq (congrArg Array.size ht.symm)), fun q h1 h2 => (congrArg (fun h9 : Heap => h9[q]?) ht).trans ((hk1 q (Nat.lt_of_lt_of_le h1 hS0) (Nat.not_le.mpr (Nat.lt_of_lt_of_le h1 hS0))).trans (hU q h1))⟩) hS.2.2 (Nat.le_of_ble_eq_true rfl) (Nat.le_of_ble_eq_true rfl)
  obtain ⟨hr9, hj9⟩ : r19 = nI (S.X.len x - 1) ∧ ¬ jn = 300 := hp9
  subst hr9
  obtain ⟨hP1, hK1, hD1⟩ := hB
  rw [hH9] at hP1
  obtain ⟨hP, hD⟩ := va_join (wr := []) (w1 := (wPR cI o g ((rDbl S.X x), S.pol, S.td, S.qd, S.wk) g2 S2 jh ja (jPut pt jn 6 (nI x) 0 0) (jn + 1))) hP hD [0, 1, 2, 3, 4, 5, 6, 7, 8, 9, 10, 11, 12, 13, 14, 15, 16, 17, 18, 19, 20, 21, 22, 23, 24, 25, 26, 27, 28] [] rfl rfl (by decide) (by decide) hk1 hFc hP1 hD1
  clear hPc hDc hFc hP1 hD1 hK1 hk1 hz1 hv9 hH9 hU hS0
  generalize H1 = H at hP hS ⊢
  replace hP : va_P (dC, dI) classes (wPR cI o g ((rDbl S.X x), S.pol, S.td, S.qd, S.wk) g2 S2 jh ja (jPut pt jn 6 (nI x) 0 0) (jn + 1)) H := hP
  replace hD : va_D A (wPR cI o g ((rDbl S.X x), S.pol, S.td, S.qd, S.wk) g2 S2 jh ja (jPut pt jn 6 (nI x) 0 0) (jn + 1)) := hD
  refine lv_goto hx hb d_PR_grow_22 rfl ?_
  refine vx_ret ?_
  refine W.widen (k := 1) (n := 6) (Nat.le_of_ble_eq_true rfl) (Nat.le_of_ble_eq_true rfl) ?_
  have hP9 : va_P (dC, dI) classes (wUS cI o g g2 jh ja (((rDbl S.X x), S.pol, S.td, S.qd, S.wk), S2, (jPut pt jn 6 (nI x) 0 0), jn + 1)) H := hP
  have hD9 : va_D A (wUS cI o g g2 jh ja (((rDbl S.X x), S.pol, S.td, S.qd, S.wk), S2, (jPut pt jn 6 (nI x) 0 0), jn + 1)) := hD
  exact W.iret (v := nI (S.X.len x - 1)) hx hb hr (fun t ht hW => ⟨⟨nI (S.X.len x - 1), (((rDbl S.X x), S.pol, S.td, S.qd, S.wk), S2, (jPut pt jn 6 (nI x) 0 0), jn + 1), rfl, Or.inr ⟨h10, hj9, rfl, rfl⟩, by rw [ht]; exact hP9, va_K.moved hW.alike hK, hD9⟩, hS.F ht⟩) hS.2.2 d_PR_grow_26
set_option maxHeartbeats 4000000 in
set_option maxRecDepth 100000 in
theorem c_PR_shrink (l : Launch) (hlt : l.stackTraces = false) (dC : Nat → ClassId) (dI : Nat → Nat → Nat) (sz : Nat) (cI : ClassId) (o : Nat) (g : Nat → Nat) (S : LDS) (g2 : Nat → Nat) (S2 : LDS) (jh ja : Nat) (pt : Nat → Int32) (jn : Nat) (hS9 : LDok S) (hjn : jn ≤ 300) (C : Nat → List Nat) (hCh : ∀ r, r < S.X.n → chn S.X.nx (S.X.fc r) (C r) ∧ (C r).length ≤ 200) (hCn : ∀ r, r < S.X.n → ∀ c9 ∈ C r, c9 < S.X.n) (hPn : ∀ x q, x < S.X.n → S.X.par x = some q → q < S.X.n) (x : Nat) (hx0 : x < 4294967296) (u : Bool) : vx_Met l y_PR_shrink (.code y_PR_shrink b_PR_shrink 4 (some .int) :: wG) ({ frames := 8, cells := 1, slots := 6, locals := 200 }) (PcX (dC, dI) [(cI, .int)] (wPR cI o g S g2 S2 jh ja pt jn) [.ref o, .int (nI x), .int (bi u)] sz) (QpI (dC, dI) cI o g g2 jh ja (wPR cI o g S g2 S2 jh ja pt jn) sz (fun r9 u9 => (¬ shrN S.X C x u = 0 ∧ r9 = shrN S.X C x u ∧ u9 = (S, S2, pt, jn)) ∨ (shrN S.X C x u = 0 ∧ ¬ jn = 300 ∧ r9 = nI (S.X.len x + 1) ∧ u9 = (((rHlv S.X x u), S.pol, S.td, S.qd, S.wk), S2, (jPut pt jn 7 (nI x) (bi u) 0), jn + 1)))) (XCx (fun E9 => E9 = "java/lang/UnsupportedOperationException" ∧ shrN S.X C x u = 0 ∧ jn = 300) sz) 1 6 (va_A (wPR cI o g S g2 S2 jh ja pt jn) sz) := by
  refine vx_ofW (cc := b_PR_shrink) (maxL := 4) (ret := (some .int)) (by decide) rfl ?_
  intro pg eg s mg ag bg meth cg s₁ B hml hne hv
  obtain ⟨rfl, hsz, hP, hK, hD0, hN, hX0⟩ := hv
  have hx := B.exec
  have hb := B.bytes
  have hr := B.returns
  have hlocks := B.notSynchronized
  have hts : ∀ w9 ∈ wG, w9.before ([.ref o, .int (nI x), .int (bi u)] : List Value).toArray s = true := fun w9 h9 => atoms_spec (ws := (.code y_PR_shrink b_PR_shrink 4 (some .int) :: wG)) B.pre w9 (List.mem_cons_of_mem _ h9)
  have hown : s.vm.findClass "PrefixRegistry" = some mg.cls := findClass_of_methodNamed B.named
  subst hsz
  have hD := hD0.self (sz := s.heap.size)
  unfold QpI
  generalize hAe : va_A (wPR cI o g S g2 S2 jh ja pt jn) s.heap.size = A at hD hX0 ⊢
  have hA : ∀ q : Nat, s.heap.size ≤ q → A q := fun q h => by rw [← hAe]; exact Or.inr h
  have hS : va_S A s.heap s.heap [] := va_S.rf
  have hU : ∀ q : Nat, q < s.heap.size → s.heap[q]? = s.heap[q]? := fun q _ => rfl
  have hl := lv_entry ([.ref o, .int (nI x), .int (bi u)]) (n := 4) (Nat.le_of_ble_eq_true rfl)
  rw [lg_entry_eq]
  generalize (lg_sl ([.ref o, .int (nI x), .int (bi u)]) ++ List.replicate (4 - (lg_sl ([.ref o, .int (nI x), .int (bi u)])).length) Slot.unset).toArray = ls at hl ⊢
  replace hl : lv_has ls 4 [(0, .ref o), (1, .int (nI x)), (2, .int (bi u))] := hl
  replace hP : va_P (dC, dI) classes (wPR cI o g S g2 S2 jh ja pt jn) s.heap := hP
  replace hD : va_D A (wPR cI o g S g2 S2 jh ja pt jn) := hD
  refine lv_aload_n hx hb d_PR_shrink_0 rfl (lv_at hl 0 rfl) ?_
  refine va_get (D := (dC, dI)) (ci := 4) (v := .ref (g 0)) (C := R_PR) (T := F_PR) (N := 3) hx hb hts u_PR hown hK hP 0 rfl rfl 0 (by decide) (hts _ kw_146) (fun _ h9 => h9) rfl d_PR_shrink_1 ?_
  refine lv_iload_n hx hb d_PR_shrink_4 rfl (lv_at hl 1 rfl) ?_
  refine lv_iload_n hx hb d_PR_shrink_5 rfl (lv_at hl 2 rfl) ?_
  refine vp_callSi (W.runV (b := (g 0)) (As := [.int (nI x), .int (bi u)]) (rest := []) ⟨hx, hb, hml, hown, hts⟩ (c_Le_codeForHalving l dC dI cI g S.X hS9.1 S.pol S.td S.qd S.wk C hCh x hx0 u) (cwV 2 hts (gV kw_571 kw_572 kw_573 kw_2 kw_574) rfl rfl rfl (by decide +kernel) ⟨Nat.le_of_ble_eq_true rfl, Nat.le_of_ble_eq_true rfl⟩) ⟨PcS.blind, va_recv (q0 := 0) hK (hP.sub (ws' := wLe cI g S.X S.pol S.td S.qd S.wk) [1, 2, 3, 4, 5, 6, 7, 8, 9, 10, 11, 12, 13] rfl) rfl rfl, PcS.use (hP.sub (ws' := wLe cI g S.X S.pol S.td S.qd S.wk) [1, 2, 3, 4, 5, 6, 7, 8, 9, 10, 11, 12, 13] rfl) hK hN⟩ rfl rfl hl.1 rfl (lv_room (Nat.le_of_ble_eq_true rfl)) d_PR_shrink_6 ⟨Nat.zero_le _, Nat.zero_le _⟩) (fun r6 hr6 => ?_)
  obtain rfl : r6 = (shrN S.X C x u) := hr6
  refine lv_istore_n hx hb d_PR_shrink_9 rfl hl (by decide) rfl (fun ls hl => ?_)
  replace hl : lv_has ls 4 [(3, .int (shrN S.X C x u)), (0, .ref o), (1, .int (nI x)), (2, .int (bi u))] := hl
  refine lv_iload_n hx hb d_PR_shrink_10 rfl (lv_at hl 0 rfl) ?_
  refine lv_if_ne hx hb d_PR_shrink_11 rfl (fun h11 => ?_) (fun h11 => ?_)
  · refine lv_iload_n hx hb d_PR_shrink_29 rfl (lv_at hl 0 rfl) ?_
    refine vx_ret ?_
    refine W.widen (k := 1) (n := 6) (Nat.le_of_ble_eq_true rfl) (Nat.le_of_ble_eq_true rfl) ?_
    have hP9 : va_P (dC, dI) classes (wUS cI o g g2 jh ja (S, S2, pt, jn)) s.heap := hP
    have hD9 : va_D A (wUS cI o g g2 jh ja (S, S2, pt, jn)) := hD
    exact W.iret (v := (shrN S.X C x u)) hx hb hr (fun t ht hW => ⟨⟨(shrN S.X C x u), (S, S2, pt, jn), rfl, Or.inl ⟨h11, rfl, rfl⟩, by rw [ht]; exact hP9, va_K.moved hW.alike hK, hD9⟩, hS.F ht⟩) hS.2.2 d_PR_shrink_30
  have h9 := shrN_0 h11
  refine lv_aload_n hx hb d_PR_shrink_14 rfl (lv_at hl 1 rfl) ?_
  refine lv_bipush (v := 7) hx hb d_PR_shrink_15 (by decide) ?_
  refine lv_iload_n hx hb d_PR_shrink_17 rfl (lv_at hl 2 rfl) ?_
  refine lv_iload_n hx hb d_PR_shrink_18 rfl (lv_at hl 3 rfl) ?_
  refine vp_callSi (W.runS (As := [.int (bi u)]) (rest := [.int (nI x), .int 7, .ref o]) ⟨hx, hb, hml, hown, hts⟩ (c_PR_asNumber l dC dI u) (cwS 1 hts (gS kw_491 kw_492 kw_1 kw_493) rfl rfl rfl (by decide +kernel) ⟨Nat.le_of_ble_eq_true rfl, Nat.le_of_ble_eq_true rfl⟩) ⟨PcS.blind, PcS.use hP hK hN⟩ rfl rfl hl.1 rfl (lv_room (Nat.le_of_ble_eq_true rfl)) d_PR_shrink_19 ⟨Nat.zero_le _, Nat.zero_le _⟩) (fun r19 hr19 => ?_)
  obtain rfl : r19 = bi u := hr19
  refine lv_iconst (v := 0) hx hb d_PR_shrink_22 (by decide) ?_
  have hPc := hP.sub (ws' := (wPR cI o g S g2 S2 jh ja pt jn)) [0, 1, 2, 3, 4, 5, 6, 7, 8, 9, 10, 11, 12, 13, 14, 15, 16, 17, 18, 19, 20, 21, 22, 23, 24, 25, 26, 27, 28] rfl
  have hDc := hD.sub (ws' := (wPR cI o g S g2 S2 jh ja pt jn)) [0, 1, 2, 3, 4, 5, 6, 7, 8, 9, 10, 11, 12, 13, 14, 15, 16, 17, 18, 19, 20, 21, 22, 23, 24, 25, 26, 27, 28] (by decide) rfl
  have hFc := va_free (wc := (wPR cI o g S g2 S2 jh ja pt jn)) hD hS hA [0, 1, 2, 3, 4, 5, 6, 7, 8, 9, 10, 11, 12, 13, 14, 15, 16, 17, 18, 19, 20, 21, 22, 23, 24, 25, 26, 27, 28] rfl
  have hS0 := hS.1
  refine vx_calli (vx_runV (b := o) (As := [.int 7, .int (nI x), .int (bi u), .int 0]) (rest := []) ⟨hx, hb, hml, hown, hts⟩ (c_PR_accept_7 l hlt dC dI s.heap.size cI o g S g2 S2 jh ja pt jn hjn hS9.1 x (by have := hS9.1.n; have := h9.1; omega) (by have := h9.2; omega) u) (cwV 4 hts (gV kw_332 kw_334 ks_1 kw_1 kw_335) rfl rfl rfl (by decide +kernel) ⟨Nat.le_of_ble_eq_true rfl, Nat.le_of_ble_eq_true rfl⟩) ⟨PcX.blind, va_recv (q0 := 0) hK hPc rfl rfl, PcX.use hPc hK hN hDc hX0 hS hFc⟩ rfl rfl hl.1 rfl (lv_room (Nat.le_of_ble_eq_true rfl)) d_PR_shrink_23 ⟨Nat.le_of_ble_eq_true rfl, Nat.le_of_ble_eq_true rfl⟩) hS (fun q _ h => hFc q h) hFc (fun q h1 h2 => absurd h2 (Nat.not_le.mpr h1)) (fun E9 ce q9 u9 H9 H1 locs hH9 hv9 _ hB hz1 hk1 hS hce hcv hcl => ?_) (fun r23 u9 H9 H1 locs hH9 hv9 hp9 hB hz1 hk1 hS => ?_)
  · exact vx_out (E := E9) (fun x h => (hne x h).elim) hlocks hce hcv hcl (fun t ht hv => ⟨(), trivial, ⟨hB.1, h11, hB.2⟩, Nat.le_trans hS.1 (Nat.le_of_eq (congrArg Array.size ht.symm)), fun q h1 h2 => (congrArg (fun h9 : Heap => h9[q]?) ht).trans ((hk1 q (Nat.lt_of_lt_of_le h1 hS0) (Nat.not_le.mpr (Nat.lt_of_lt_of_le h1 hS0))).trans (hU q h1))⟩) hS.2.2 (Nat.le_of_ble_eq_true rfl) (Nat.le_of_ble_eq_true rfl)
  obtain ⟨hr9, hj9⟩ : r23 = nI (S.X.len x + 1) ∧ ¬ jn = 300 := hp9
  subst hr9
  obtain ⟨hP1, hK1, hD1⟩ := hB
  rw [hH9] at hP1
  obtain ⟨hP, hD⟩ := va_join (wr := []) (w1 := (wPR cI o g ((rHlv S.X x u), S.pol, S.td, S.qd, S.wk) g2 S2 jh ja (jPut pt jn 7 (nI x) (bi u) 0) (jn + 1))) hP hD [0, 1, 2, 3, 4, 5, 6, 7, 8, 9, 10, 11, 12, 13, 14, 15, 16, 17, 18, 19, 20, 21, 22, 23, 24, 25, 26, 27, 28] [] rfl rfl (by decide) (by decide) hk1 hFc hP1 hD1
  clear hPc hDc hFc hP1 hD1 hK1 hk1 hz1 hv9 hH9 hU hS0
  generalize H1 = H at hP hS ⊢
  replace hP : va_P (dC, dI) classes (wPR cI o g ((rHlv S.X x u), S.pol, S.td, S.qd, S.wk) g2 S2 jh ja (jPut pt jn 7 (nI x) (bi u) 0) (jn + 1)) H := hP
  replace hD : va_D A (wPR cI o g ((rHlv S.X x u), S.pol, S.td, S.qd, S.wk) g2 S2 jh ja (jPut pt jn 7 (nI x) (bi u) 0) (jn + 1)) := hD
  refine lv_goto hx hb d_PR_shrink_26 rfl ?_
  refine vx_ret ?_
  refine W.widen (k := 1) (n := 6) (Nat.le_of_ble_eq_true rfl) (Nat.le_of_ble_eq_true rfl) ?_
  have hP9 : va_P (dC, dI) classes (wUS cI o g g2 jh ja (((rHlv S.X x u), S.pol, S.td, S.qd, S.wk), S2, (jPut pt jn 7 (nI x) (bi u) 0), jn + 1)) H := hP
  have hD9 : va_D A (wUS cI o g g2 jh ja (((rHlv S.X x u), S.pol, S.td, S.qd, S.wk), S2, (jPut pt jn 7 (nI x) (bi u) 0), jn + 1)) := hD
  exact W.iret (v := nI (S.X.len x + 1)) hx hb hr (fun t ht hW => ⟨⟨nI (S.X.len x + 1), (((rHlv S.X x u), S.pol, S.td, S.qd, S.wk), S2, (jPut pt jn 7 (nI x) (bi u) 0), jn + 1), rfl, Or.inr ⟨h11, hj9, rfl, rfl⟩, by rw [ht]; exact hP9, va_K.moved hW.alike hK, hD9⟩, hS.F ht⟩) hS.2.2 d_PR_shrink_30
set_option maxHeartbeats 4000000 in
set_option maxRecDepth 100000 in
theorem c_PR_back (l : Launch) (hlt : l.stackTraces = false) (dC : Nat → ClassId) (dI : Nat → Nat → Nat) (sz : Nat) (cI : ClassId) (o : Nat) (g : Nat → Nat) (S : LDS) (g2 : Nat → Nat) (S2 : LDS) (jh ja : Nat) (pt : Nat → Int32) (jn : Nat) (hS9 : LDok S) (hjn : jn ≤ 300) (C : Nat → List Nat) (hCh : ∀ r, r < S.X.n → chn S.X.nx (S.X.fc r) (C r) ∧ (C r).length ≤ 200) (hCn : ∀ r, r < S.X.n → ∀ c9 ∈ C r, c9 < S.X.n) (hPn : ∀ x q, x < S.X.n → S.X.par x = some q → q < S.X.n) (x : Nat) (hx0 : x < 4294967296) : vx_Met l y_PR_back (.code y_PR_back b_PR_back 2 (some .int) :: wG) ({ frames := 8, cells := 2, slots := 12, locals := 200 }) (PcX (dC, dI) [(cI, .int)] (wPR cI o g S g2 S2 jh ja pt jn) [.ref o, .int (nI x)] sz) (QpI (dC, dI) cI o g g2 jh ja (wPR cI o g S g2 S2 jh ja pt jn) sz (fun r9 u => x < S.X.n ∧ ((S.X.sta x = 1 ∨ S.X.sta x = 2) ∧ S.X.fc x = none) ∧ ¬ jn = 300 ∧ r9 = nI (S.td + S.qd) ∧ u = (((rBack S.X x S.td S.qd (chL S.X C x)), S.pol, S.td, S.qd, S.wk), S2, (jPut pt jn 5 (nI x) 0 0), jn + 1))) (XCx (fun E9 => (E9 = "java/lang/IndexOutOfBoundsException" ∧ ¬ x < S.X.n) ∨ (E9 = "java/lang/IllegalStateException" ∧ x < S.X.n ∧ ¬ ((S.X.sta x = 1 ∨ S.X.sta x = 2) ∧ S.X.fc x = none)) ∨ (E9 = "java/lang/UnsupportedOperationException" ∧ x < S.X.n ∧ ((S.X.sta x = 1 ∨ S.X.sta x = 2) ∧ S.X.fc x = none) ∧ jn = 300)) sz) 2 12 (va_A (wPR cI o g S g2 S2 jh ja pt jn) sz) := by
  refine vx_ofW (cc := b_PR_back) (maxL := 2) (ret := (some .int)) (by decide) rfl ?_
  intro pg eg s mg ag bg meth cg s₁ B hml hne hv
  obtain ⟨rfl, hsz, hP, hK, hD0, hN, hX0⟩ := hv
  have hx := B.exec
  have hb := B.bytes
  have hr := B.returns
  have hlocks := B.notSynchronized
  have hts : ∀ w9 ∈ wG, w9.before ([.ref o, .int (nI x)] : List Value).toArray s = true := fun w9 h9 => atoms_spec (ws := (.code y_PR_back b_PR_back 2 (some .int) :: wG)) B.pre w9 (List.mem_cons_of_mem _ h9)
  have hown : s.vm.findClass "PrefixRegistry" = some mg.cls := findClass_of_methodNamed B.named
  subst hsz
  have hD := hD0.self (sz := s.heap.size)
  unfold QpI
  generalize hAe : va_A (wPR cI o g S g2 S2 jh ja pt jn) s.heap.size = A at hD hX0 ⊢
  have hA : ∀ q : Nat, s.heap.size ≤ q → A q := fun q h => by rw [← hAe]; exact Or.inr h
  have hS : va_S A s.heap s.heap [] := va_S.rf
  have hU : ∀ q : Nat, q < s.heap.size → s.heap[q]? = s.heap[q]? := fun q _ => rfl
  have hl := lv_entry ([.ref o, .int (nI x)]) (n := 2) (Nat.le_of_ble_eq_true rfl)
  rw [lg_entry_eq]
  generalize (lg_sl ([.ref o, .int (nI x)]) ++ List.replicate (2 - (lg_sl ([.ref o, .int (nI x)])).length) Slot.unset).toArray = ls at hl ⊢
  replace hl : lv_has ls 2 [(0, .ref o), (1, .int (nI x))] := hl
  replace hP : va_P (dC, dI) classes (wPR cI o g S g2 S2 jh ja pt jn) s.heap := hP
  replace hD : va_D A (wPR cI o g S g2 S2 jh ja pt jn) := hD
  refine lv_aload_n hx hb d_PR_back_0 rfl (lv_at hl 0 rfl) ?_
  refine lv_iload_n hx hb d_PR_back_1 rfl (lv_at hl 1 rfl) ?_
  have hS0 := hS.1
  refine vx_callv (vx_runV (b := o) (As := [.int (nI x)]) (rest := []) ⟨hx, hb, hml, hown, hts⟩ (c_PR_refuseUnknown l hlt dC dI s.heap.size cI o g S g2 S2 jh ja pt jn hS9 hjn x hx0) (cwV 1 hts (gV kw_518 kw_520 ks_19 kw_1 kw_521) rfl rfl rfl (by decide +kernel) ⟨Nat.le_of_ble_eq_true rfl, Nat.le_of_ble_eq_true rfl⟩) ⟨PcR.blind, va_recv (q0 := 0) hK hP rfl rfl, PcR.use hP hK hN hX0 hS hA⟩ rfl rfl hl.1 rfl (lv_room (Nat.le_of_ble_eq_true rfl)) d_PR_back_2 ⟨Nat.le_of_ble_eq_true rfl, Nat.le_of_ble_eq_true rfl⟩) hS (fun q h1 h2 => absurd h2 (Nat.not_le.mpr h1)) (fun q h => hA q (Nat.le_trans hS.1 h)) (fun q h1 h2 => absurd h2 (Nat.not_le.mpr h1)) (fun E9 ce q9 u9 H9 H1 locs hH9 hv9 _ hB hz1 hk1 hS hce hcv hcl => ?_) (fun u9 H9 H1 locs hH9 hv9 hp9 _ hz1 hk1 hS => ?_)
  · exact vx_out (E := E9) (fun x h => (hne x h).elim) hlocks hce hcv hcl (fun t ht hv => ⟨(), trivial, Or.inl hB, by rw [ht]; exact hS.1, fun q h1 h2 => by rw [ht]; exact (hk1 q (Nat.lt_of_lt_of_le h1 hS0) (Nat.not_le.mpr (Nat.lt_of_lt_of_le h1 hS0))).trans (hU q h1)⟩) hS.2.2 (Nat.le_of_ble_eq_true rfl) (Nat.le_of_ble_eq_true rfl)
  replace hU : ∀ q : Nat, q < s.heap.size → H1[q]? = s.heap[q]? := fun q h1 => (hk1 q (Nat.lt_of_lt_of_le h1 hS0) (Nat.not_le.mpr (Nat.lt_of_lt_of_le h1 hS0))).trans (hU q h1)
  replace hP := x_keep hP hk1
  clear hk1 hz1 hv9 hH9 hS0
  generalize H1 = H at hP hS hU ⊢
  have h2 := hp9
  refine lv_aload_n hx hb d_PR_back_5 rfl (lv_at hl 0 rfl) ?_
  refine va_get (D := (dC, dI)) (ci := 4) (v := .ref (g 0)) (C := R_PR) (T := F_PR) (N := 3) hx hb hts u_PR hown hK hP 0 rfl rfl 0 (by decide) (hts _ kw_146) (fun _ h9 => h9) rfl d_PR_back_6 ?_
  refine lv_iload_n hx hb d_PR_back_9 rfl (lv_at hl 1 rfl) ?_
  refine vp_callSi (W.runV (b := (g 0)) (As := [.int (nI x)]) (rest := []) ⟨hx, hb, hml, hown, hts⟩ (c_Le_mayComeBack l dC dI cI g S.X hS9.1 S.pol S.td S.qd S.wk x (by have := hS9.1.n; omega)) (cwV 1 hts (gV kw_545 kw_546 kw_547 kw_2 kw_548) rfl rfl rfl (by decide +kernel) ⟨Nat.le_of_ble_eq_true rfl, Nat.le_of_ble_eq_true rfl⟩) ⟨PcS.blind, va_recv (q0 := 0) hK (hP.sub (ws' := wLe cI g S.X S.pol S.td S.qd S.wk) [1, 2, 3, 4, 5, 6, 7, 8, 9, 10, 11, 12, 13] rfl) rfl rfl, PcS.use (hP.sub (ws' := wLe cI g S.X S.pol S.td S.qd S.wk) [1, 2, 3, 4, 5, 6, 7, 8, 9, 10, 11, 12, 13] rfl) hK hN⟩ rfl rfl hl.1 rfl (lv_room (Nat.le_of_ble_eq_true rfl)) d_PR_back_10 ⟨Nat.le_of_ble_eq_true rfl, Nat.le_of_ble_eq_true rfl⟩) (fun r10 hr10 => ?_)
  obtain rfl : r10 = bi (decide ((S.X.sta x = 1 ∨ S.X.sta x = 2) ∧ S.X.fc x = none)) := hr10
  refine lv_if_ne hx hb d_PR_back_13 rfl (fun h13 => ?_) (fun h13 => ?_)
  · have h13 := Decidable.not_not.mp (mt bi_d.mpr h13)
    refine lv_aload_n hx hb d_PR_back_24 rfl (lv_at hl 0 rfl) ?_
    refine lv_iconst (v := 5) hx hb d_PR_back_25 (by decide) ?_
    refine lv_iload_n hx hb d_PR_back_26 rfl (lv_at hl 1 rfl) ?_
    refine lv_iconst (v := 0) hx hb d_PR_back_27 (by decide) ?_
    refine lv_iconst (v := 0) hx hb d_PR_back_28 (by decide) ?_
    have hPc := hP.sub (ws' := (wPR cI o g S g2 S2 jh ja pt jn)) [0, 1, 2, 3, 4, 5, 6, 7, 8, 9, 10, 11, 12, 13, 14, 15, 16, 17, 18, 19, 20, 21, 22, 23, 24, 25, 26, 27, 28] rfl
    have hDc := hD.sub (ws' := (wPR cI o g S g2 S2 jh ja pt jn)) [0, 1, 2, 3, 4, 5, 6, 7, 8, 9, 10, 11, 12, 13, 14, 15, 16, 17, 18, 19, 20, 21, 22, 23, 24, 25, 26, 27, 28] (by decide) rfl
    have hFc := va_free (wc := (wPR cI o g S g2 S2 jh ja pt jn)) hD hS hA [0, 1, 2, 3, 4, 5, 6, 7, 8, 9, 10, 11, 12, 13, 14, 15, 16, 17, 18, 19, 20, 21, 22, 23, 24, 25, 26, 27, 28] rfl
    have hS0 := hS.1
    refine vx_calli (vx_runV (b := o) (As := [.int 5, .int (nI x), .int 0, .int 0]) (rest := []) ⟨hx, hb, hml, hown, hts⟩ (c_PR_accept_5 l hlt dC dI H.size cI o g S g2 S2 jh ja pt jn hjn hS9.1 ⟨hS9.2.2.1, hS9.2.2.2⟩ x (by have := hS9.1.n; omega) (chL S.X C x) (fun p hp => ⟨hS9.1.par hp, by unfold chL; rw [hp]; exact (hCh p (hPn x p h2 hp)).1⟩) (chL_len hCh (fun p hp => hPn x p h2 hp))) (cwV 4 hts (gV kw_332 kw_334 ks_1 kw_1 kw_335) rfl rfl rfl (by decide +kernel) ⟨Nat.le_of_ble_eq_true rfl, Nat.le_of_ble_eq_true rfl⟩) ⟨PcX.blind, va_recv (q0 := 0) hK hPc rfl rfl, PcX.use hPc hK hN hDc hX0 hS hFc⟩ rfl rfl hl.1 rfl (lv_room (Nat.le_of_ble_eq_true rfl)) d_PR_back_29 ⟨Nat.le_of_ble_eq_true rfl, Nat.le_of_ble_eq_true rfl⟩) hS (fun q _ h => hFc q h) hFc (fun q h1 h2 => absurd h2 (Nat.not_le.mpr h1)) (fun E9 ce q9 u9 H9 H1 locs hH9 hv9 _ hB hz1 hk1 hS hce hcv hcl => ?_) (fun r29 u9 H9 H1 locs hH9 hv9 hp9 hB hz1 hk1 hS => ?_)
    · exact vx_out (E := E9) (fun x h => (hne x h).elim) hlocks hce hcv hcl (fun t ht hv => ⟨(), trivial, Or.inr (Or.inr ⟨hB.1, h2, h13, hB.2⟩), Nat.le_trans hS.1 (Nat.le_of_eq (congrArg Array.size ht.symm)), fun q h1 h2 => (congrArg (fun h9 : Heap => h9[q]?) ht).trans ((hk1 q (Nat.lt_of_lt_of_le h1 hS0) (Nat.not_le.mpr (Nat.lt_of_lt_of_le h1 hS0))).trans (hU q h1))⟩) hS.2.2 (Nat.le_of_ble_eq_true rfl) (Nat.le_of_ble_eq_true rfl)
    obtain ⟨hr9, hj9⟩ : r29 = nI (S.td + S.qd) ∧ ¬ jn = 300 := hp9
    subst hr9
    obtain ⟨hP1, hK1, hD1⟩ := hB
    rw [hH9] at hP1
    obtain ⟨hP, hD⟩ := va_join (wr := []) (w1 := (wPR cI o g ((rBack S.X x S.td S.qd (chL S.X C x)), S.pol, S.td, S.qd, S.wk) g2 S2 jh ja (jPut pt jn 5 (nI x) 0 0) (jn + 1))) hP hD [0, 1, 2, 3, 4, 5, 6, 7, 8, 9, 10, 11, 12, 13, 14, 15, 16, 17, 18, 19, 20, 21, 22, 23, 24, 25, 26, 27, 28] [] rfl rfl (by decide) (by decide) hk1 hFc hP1 hD1
    clear hPc hDc hFc hP1 hD1 hK1 hk1 hz1 hv9 hH9 hU hS0
    generalize H1 = H at hP hS ⊢
    replace hP : va_P (dC, dI) classes (wPR cI o g ((rBack S.X x S.td S.qd (chL S.X C x)), S.pol, S.td, S.qd, S.wk) g2 S2 jh ja (jPut pt jn 5 (nI x) 0 0) (jn + 1)) H := hP
    replace hD : va_D A (wPR cI o g ((rBack S.X x S.td S.qd (chL S.X C x)), S.pol, S.td, S.qd, S.wk) g2 S2 jh ja (jPut pt jn 5 (nI x) 0 0) (jn + 1)) := hD
    refine vx_ret ?_
    refine W.widen (k := 2) (n := 12) (Nat.le_of_ble_eq_true rfl) (Nat.le_of_ble_eq_true rfl) ?_
    have hP9 : va_P (dC, dI) classes (wUS cI o g g2 jh ja (((rBack S.X x S.td S.qd (chL S.X C x)), S.pol, S.td, S.qd, S.wk), S2, (jPut pt jn 5 (nI x) 0 0), jn + 1)) H := hP
    have hD9 : va_D A (wUS cI o g g2 jh ja (((rBack S.X x S.td S.qd (chL S.X C x)), S.pol, S.td, S.qd, S.wk), S2, (jPut pt jn 5 (nI x) 0 0), jn + 1)) := hD
    exact W.iret (v := nI (S.td + S.qd)) hx hb hr (fun t ht hW => ⟨⟨nI (S.td + S.qd), (((rBack S.X x S.td S.qd (chL S.X C x)), S.pol, S.td, S.qd, S.wk), S2, (jPut pt jn 5 (nI x) 0 0), jn + 1), rfl, ⟨h2, h13, hj9, rfl, rfl⟩, by rw [ht]; exact hP9, va_K.moved hW.alike hK, hD9⟩, hS.F ht⟩) hS.2.2 d_PR_back_32
  have h13 := bi_d.mp h13
  exact vx_throw0 (cls := "java/lang/IllegalStateException") (names := nmX) (mc := 2) (ms := 12) hx hb hlt hown (by decide +kernel) (by decide +kernel) (hts _ kw_298) (hts _ kw_11) (x_hat hts hX0 xg_42 xb_42) xo_42 hX0.1 hX0.2.1 hS (hl.1.trans hml.symm) d_PR_back_16 d_PR_back_19 d_PR_back_20 d_PR_back_23 (fun x h => (hne x h).elim) (Nat.le_of_ble_eq_true rfl) (Nat.le_of_ble_eq_true rfl) (Nat.le_of_ble_eq_true rfl) (Nat.le_of_ble_eq_true rfl) hlocks (fun t hv9 hz9 hk9 => ⟨(), trivial, Or.inr (Or.inl ⟨rfl, h2, h13⟩), ⟨Nat.le_trans hS.1 hz9, fun q h1 h2 => (hk9 q (Nat.lt_of_lt_of_le h1 hS.1)).trans (hU q h1)⟩⟩) hS.2.2 (Nat.le_of_ble_eq_true rfl) (Nat.le_of_ble_eq_true rfl)
