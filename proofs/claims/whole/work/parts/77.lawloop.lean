set_option maxHeartbeats 4000000 in
set_option maxRecDepth 100000 in
theorem lw_loop {p : Program} {l : Launch} {e : Env} {s : State} {m : MethodId} {below : List Frame} {meth : Method} {c : Code} {b L : Nat} {xs : Nat → Int32} {A : Nat → Prop} (hlt : l.stackTraces = false) (dC : Nat → ClassId) (dI : Nat → Nat → Nat) (cI cJ : ClassId) (o om oa jh ja : Nat) (g g2 a : Nat → Nat) (hL : L ≤ 2048) (hx : p.tables.exec = Jvm.exec) (hb : c.code = code) (hml : c.maxLocals = 8) (hown : s.vm.findClass "PrefixRegistryLaw" = some m.cls) (hts : ∀ w ∈ wG, w.before #[Value.ref b] s = true) (hXs : va_X b L xs s s.heap) (hbl : b < s.heap.size) (hbA : ¬ A b) (hA : ∀ q, s.heap.size ≤ q → A q) (hN : NW s) (hX0 : SX A s) (hXN : XN s) (hK : va_K (dC, dI) classes [(cI, .int), (cJ, .long)] s) (hr : meth.sig.returnType = ret) (hlocks : meth.locks = false) (hAz : ∀ q, A q → s.heap.size ≤ q) : ∀ (n i : Nat) (H : Heap) (locs : List Loc) (ls : Array Slot) (cells slots : Nat) (u : US) (f : Nat → Int64) (V : MS), L < i + 4 * n + 4 → i ≤ 2048 → cells + 2 * n ≤ 1089 → slots + 12 * n ≤ 17195 → INV u V → va_P (dC, dI) classes (wLL cI cJ o g g2 jh ja u oa f om a V) H → va_D A (wLL cI cJ o g g2 jh ja u oa f om a V) → va_S A s.heap H locs → lv_has ls 8 [(4, .int (nI i)), (3, .ref oa), (2, .ref om), (1, .ref o), (0, .ref b)] → W p l e room_1 s m #[Value.ref b] below meth c H locs cells slots (lw_Z below #[Value.ref b] s) (F0 m 23 ls []) := by
  intro n
  induction n with
  | zero =>
    intro i H locs ls cells slots u f V h1 h2 h3 h4 hI hP hD hS hl
    refine lv_iload hx hb d_Lw_law_23 (lv_at hl 0 rfl) ?_
    refine lv_aload_n hx hb d_Lw_law_25 rfl (lv_at hl 4 rfl) ?_
    refine va_slen hx hb hXs hbl hbA hS d_Lw_law_26 ?_
    refine lv_iconst (v := 4) hx hb d_Lw_law_27 (by decide) ?_
    refine lv_isub hx hb d_Lw_law_28 ?_
    refine lv_icmp_gt hx hb d_Lw_law_29 rfl (fun _ => ?_) (fun h9 => absurd ((lw_gt hL h2).mpr (by omega)) h9)
    refine lv_iconst (v := 1) hx hb d_Lw_law_1539 (by decide) ?_
    refine va_forget (fun q hq => hAz _ (hS.2.2 q hq)) ?_
    refine W.widen (k := 1089) (n := 17195) (by omega) (by omega) ?_
    exact lw_ret hx hb hr hlocks d_Lw_law_1540
  | succ n ih =>
    intro i H locs ls cells slots u f V h1 h2 h3 h4 hI hP hD hS hl
    refine lv_iload hx hb d_Lw_law_23 (lv_at hl 0 rfl) ?_
    refine lv_aload_n hx hb d_Lw_law_25 rfl (lv_at hl 4 rfl) ?_
    refine va_slen hx hb hXs hbl hbA hS d_Lw_law_26 ?_
    refine lv_iconst (v := 4) hx hb d_Lw_law_27 (by decide) ?_
    refine lv_isub hx hb d_Lw_law_28 ?_
    refine lv_icmp_gt hx hb d_Lw_law_29 rfl (fun _ => ?_) (fun h29 => ?_)
    · refine lv_iconst (v := 1) hx hb d_Lw_law_1539 (by decide) ?_
      refine va_forget (fun q hq => hAz _ (hS.2.2 q hq)) ?_
      refine W.widen (k := 1089) (n := 17195) (by omega) (by omega) ?_
      exact lw_ret hx hb hr hlocks d_Lw_law_1540
    have hi4 : i + 4 ≤ L := by
      have := mt (lw_gt hL h2).mpr h29
      omega
    obtain ⟨x0, hx0, e0⟩ : ∃ n, n < 4294967296 ∧ xs i = nI n := wb_of32 (xs i)
    refine lv_aload_n hx hb d_Lw_law_32 rfl (lv_at hl 4 rfl) ?_
    refine lv_iload hx hb d_Lw_law_33 (lv_at hl 0 rfl) ?_
    refine va_sld (i := nI i) hx hb hXs hbl hbA hS (nI_in (by omega) (by omega)) d_Lw_law_35 ?_
    refine x_topi (y := nI x0) (by rw [nI_clamp (by omega)]; exact e0) ?_
    refine lv_bipush (v := 31) hx hb d_Lw_law_36 (by decide) ?_
    refine lv_iand hx hb d_Lw_law_38 ?_
    refine x_topi (y := nI (x0 % 32)) (lw_31 x0) ?_
    obtain ⟨S, S2, pt, jn⟩ := u
    have kk : ∀ (H : Heap) (locs : List Loc) (ls : Array Slot) (cells' slots' : Nat) (u : US) (f : Nat → Int64) (V : MS), cells' ≤ cells + 2 → slots' ≤ slots + 12 → INV u V → va_P (dC, dI) classes (wLL cI cJ o g g2 jh ja u oa f om a V) H → va_D A (wLL cI cJ o g g2 jh ja u oa f om a V) → va_S A s.heap H locs → lv_has ls 8 [(4, .int (nI i)), (3, .ref oa), (2, .ref om), (1, .ref o), (0, .ref b)] → W p l e room_1 s m #[Value.ref b] below meth c H locs cells' slots' (lw_Z below #[Value.ref b] s) (F0 m 1533 ls []) := by
      intro H locs ls cells' slots' u f V c1 c2 hI hP hD hS hl
      refine lv_iinc hx hb d_Lw_law_1533 hl (k := 0) (v := nI (i + 4)) rfl (nI_add i 4) (by decide) rfl (fun ls hl => ?_)
      refine lv_goto hx hb d_Lw_law_1536 rfl ?_
      exact ih (i + 4) H locs ls cells' slots' u f V (by omega) (by omega) (by omega) (by omega) hI hP hD hS (lv_sub hl [0, 1, 2, 3, 4] rfl)
    have hc : cells + 2 ≤ 1089 ∧ slots + 12 ≤ 17195 := by omega
    have ht : x0 % 32 < 32 := Nat.mod_lt _ (by decide)
    generalize x0 % 32 = t at ht ⊢
    by_cases h23 : t < 23
    · rcases (show t = 0 ∨ t = 1 ∨ t = 2 ∨ t = 3 ∨ t = 4 ∨ t = 5 ∨ t = 6 ∨ t = 7 ∨ t = 8 ∨ t = 9 ∨ t = 10 ∨ t = 11 ∨ t = 12 ∨ t = 13 ∨ t = 14 ∨ t = 15 ∨ t = 16 ∨ t = 17 ∨ t = 18 ∨ t = 19 ∨ t = 20 ∨ t = 21 ∨ t = 22 by omega) with rfl | rfl | rfl | rfl | rfl | rfl | rfl | rfl | rfl | rfl | rfl | rfl | rfl | rfl | rfl | rfl | rfl | rfl | rfl | rfl | rfl | rfl | rfl
      · refine lv_tableIn (tgt := 144) hx hb d_Lw_law_39 (by decide) (by decide) rfl rfl ?_
        exact lw_c0 hlt dC dI cI cJ o om oa jh ja g g2 a hL hx hb hml hown hts hXs hbl hbA hA hN hX0 hXN hK S S2 pt jn f V i hi4 hI hP hD hS hl hc kk
      · refine lv_tableIn (tgt := 224) hx hb d_Lw_law_39 (by decide) (by decide) rfl rfl ?_
        exact lw_c1 hlt dC dI cI cJ o om oa jh ja g g2 a hL hx hb hml hown hts hXs hbl hbA hA hN hX0 hXN hK S S2 pt jn f V i hi4 hI hP hD hS hl hc kk
      · refine lv_tableIn (tgt := 320) hx hb d_Lw_law_39 (by decide) (by decide) rfl rfl ?_
        exact lw_c2 hlt dC dI cI cJ o om oa jh ja g g2 a hL hx hb hml hown hts hXs hbl hbA hA hN hX0 hXN hK S S2 pt jn f V i hi4 hI hP hD hS hl hc kk
      · refine lv_tableIn (tgt := 400) hx hb d_Lw_law_39 (by decide) (by decide) rfl rfl ?_
        exact lw_c3 hlt dC dI cI cJ o om oa jh ja g g2 a hL hx hb hml hown hts hXs hbl hbA hA hN hX0 hXN hK S S2 pt jn f V i hi4 hI hP hD hS hl hc kk
      · refine lv_tableIn (tgt := 436) hx hb d_Lw_law_39 (by decide) (by decide) rfl rfl ?_
        exact lw_c4 hlt dC dI cI cJ o om oa jh ja g g2 a hL hx hb hml hown hts hXs hbl hbA hA hN hX0 hXN hK S S2 pt jn f V i hi4 hI hP hD hS hl hc kk
      · refine lv_tableIn (tgt := 492) hx hb d_Lw_law_39 (by decide) (by decide) rfl rfl ?_
        exact lw_c5 hlt dC dI cI cJ o om oa jh ja g g2 a hL hx hb hml hown hts hXs hbl hbA hA hN hX0 hXN hK S S2 pt jn f V i hi4 hI hP hD hS hl hc kk
      · refine lv_tableIn (tgt := 548) hx hb d_Lw_law_39 (by decide) (by decide) rfl rfl ?_
        exact lw_c6 hlt dC dI cI cJ o om oa jh ja g g2 a hL hx hb hml hown hts hXs hbl hbA hA hN hX0 hXN hK S S2 pt jn f V i hi4 hI hP hD hS hl hc kk
      · refine lv_tableIn (tgt := 632) hx hb d_Lw_law_39 (by decide) (by decide) rfl rfl ?_
        exact lw_c7 hlt dC dI cI cJ o om oa jh ja g g2 a hL hx hb hml hown hts hXs hbl hbA hA hN hX0 hXN hK S S2 pt jn f V i hi4 hI hP hD hS hl hc kk
      · refine lv_tableIn (tgt := 700) hx hb d_Lw_law_39 (by decide) (by decide) rfl rfl ?_
        exact lw_c8 hlt dC dI cI cJ o om oa jh ja g g2 a hL hx hb hml hown hts hXs hbl hbA hA hN hX0 hXN hK S S2 pt jn f V i hi4 hI hP hD hS hl hc kk
      · refine lv_tableIn (tgt := 748) hx hb d_Lw_law_39 (by decide) (by decide) rfl rfl ?_
        exact lw_c9 hlt dC dI cI cJ o om oa jh ja g g2 a hL hx hb hml hown hts hXs hbl hbA hA hN hX0 hXN hK S S2 pt jn f V i hi4 hI hP hD hS hl hc kk
      · refine lv_tableIn (tgt := 804) hx hb d_Lw_law_39 (by decide) (by decide) rfl rfl ?_
        exact lw_c10 hlt dC dI cI cJ o om oa jh ja g g2 a hL hx hb hml hown hts hXs hbl hbA hA hN hX0 hXN hK S S2 pt jn f V i hi4 hI hP hD hS hl hc kk
      · refine lv_tableIn (tgt := 840) hx hb d_Lw_law_39 (by decide) (by decide) rfl rfl ?_
        exact lw_c11 hlt dC dI cI cJ o om oa jh ja g g2 a hL hx hb hml hown hts hXs hbl hbA hA hN hX0 hXN hK S S2 pt jn f V i hi4 hI hP hD hS hl hc kk
      · refine lv_tableIn (tgt := 877) hx hb d_Lw_law_39 (by decide) (by decide) rfl rfl ?_
        exact lw_c12 hlt dC dI cI cJ o om oa jh ja g g2 a hL hx hb hml hown hts hXs hbl hbA hA hN hX0 hXN hK S S2 pt jn f V i hi4 hI hP hD hS hl hc kk
      · refine lv_tableIn (tgt := 945) hx hb d_Lw_law_39 (by decide) (by decide) rfl rfl ?_
        exact lw_c13 hlt dC dI cI cJ o om oa jh ja g g2 a hL hx hb hml hown hts hXs hbl hbA hA hN hX0 hXN hK S S2 pt jn f V i hi4 hI hP hD hS hl hc kk
      · refine lv_tableIn (tgt := 970) hx hb d_Lw_law_39 (by decide) (by decide) rfl rfl ?_
        exact lw_c14 hlt dC dI cI cJ o om oa jh ja g g2 a hL hx hb hml hown hts hXs hbl hbA hA hN hX0 hXN hK S S2 pt jn f V i hi4 hI hP hD hS hl hc kk
      · refine lv_tableIn (tgt := 1037) hx hb d_Lw_law_39 (by decide) (by decide) rfl rfl ?_
        exact lw_c15 hlt dC dI cI cJ o om oa jh ja g g2 a hL hx hb hml hown hts hXs hbl hbA hA hN hX0 hXN hK S S2 pt jn f V i hi4 hI hP hD hS hl hc kk
      · refine lv_tableIn (tgt := 1093) hx hb d_Lw_law_39 (by decide) (by decide) rfl rfl ?_
        exact lw_c16 hlt dC dI cI cJ o om oa jh ja g g2 a hL hx hb hml hown hts hXs hbl hbA hA hN hX0 hXN hK S S2 pt jn f V i hi4 hI hP hD hS hl hc kk
      · refine lv_tableIn (tgt := 1189) hx hb d_Lw_law_39 (by decide) (by decide) rfl rfl ?_
        exact lw_c17 hlt dC dI cI cJ o om oa jh ja g g2 a hL hx hb hml hown hts hXs hbl hbA hA hN hX0 hXN hK S S2 pt jn f V i hi4 hI hP hD hS hl hc kk
      · refine lv_tableIn (tgt := 1244) hx hb d_Lw_law_39 (by decide) (by decide) rfl rfl ?_
        exact lw_c18 hlt dC dI cI cJ o om oa jh ja g g2 a hL hx hb hml hown hts hXs hbl hbA hA hN hX0 hXN hK S S2 pt jn f V i hi4 hI hP hD hS hl hc kk
      · refine lv_tableIn (tgt := 1300) hx hb d_Lw_law_39 (by decide) (by decide) rfl rfl ?_
        exact lw_c19 hlt dC dI cI cJ o om oa jh ja g g2 a hL hx hb hml hown hts hXs hbl hbA hA hN hX0 hXN hK S S2 pt jn f V i hi4 hI hP hD hS hl hc kk
      · refine lv_tableIn (tgt := 1396) hx hb d_Lw_law_39 (by decide) (by decide) rfl rfl ?_
        exact lw_c20 hlt dC dI cI cJ o om oa jh ja g g2 a hL hx hb hml hown hts hXs hbl hbA hA hN hX0 hXN hK S S2 pt jn f V i hi4 hI hP hD hS hl hc kk
      · refine lv_tableIn (tgt := 1464) hx hb d_Lw_law_39 (by decide) (by decide) rfl rfl ?_
        exact lw_c21 hlt dC dI cI cJ o om oa jh ja g g2 a hL hx hb hml hown hts hXs hbl hbA hA hN hX0 hXN hK S S2 pt jn f V i hi4 hI hP hD hS hl hc kk
      · refine lv_tableIn (tgt := 1520) hx hb d_Lw_law_39 (by decide) (by decide) rfl rfl ?_
        exact lw_c22 hlt dC dI cI cJ o om oa jh ja g g2 a hL hx hb hml hown hts hXs hbl hbA hA hN hX0 hXN hK S S2 pt jn f V i hi4 hI hP hD hS hl hc kk
    · refine lv_tableOut (tgt := 1533) hx hb d_Lw_law_39 (by rw [k_toInt (show t < 4294967296 by omega)]; split <;> omega) rfl ?_
      exact kk H locs ls cells slots (S, S2, pt, jn) f V (by omega) (by omega) hI hP hD hS hl
