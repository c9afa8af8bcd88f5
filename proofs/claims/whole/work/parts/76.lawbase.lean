theorem lw_gt {L i : Nat} (hL : L ≤ 2048) (hi : i ≤ 2048) : nI L - 4 < nI i ↔ L < i + 4 := by
  rw [Int32.lt_iff_toInt_lt, k_toInt (show i < 4294967296 by omega), if_pos (show i < 2147483648 by omega)]
  by_cases h : 4 ≤ L
  · have e : nI L - 4 = nI (L - 4) := pk_sub (b := 4) h
    rw [e, k_toInt (show L - 4 < 4294967296 by omega), if_pos (show L - 4 < 2147483648 by omega)]
    omega
  · have c : (nI L - 4).toInt < 0 := by
      rcases (show L = 0 ∨ L = 1 ∨ L = 2 ∨ L = 3 by omega) with rfl | rfl | rfl | rfl <;> decide +kernel
    omega
theorem lw_31 (x : Nat) : nI x &&& 31 = nI (x % 32) := by
  have e : nI x &&& 31 = nI (x &&& 31) := nx_and x 31
  rw [e]
  exact congrArg nI (Nat.and_two_pow_sub_one_eq_mod x 5)
theorem x_newaL {p : Program} {l : Launch} {e : Env} {R : Room} {s : State} {m : MethodId} {args : Array Value} {below : List Frame} {meth : Method} {c : Code} {H : Heap} {locs : List Loc} {cells slots : Nat} {Q : State → Prop} {cc : ByteArray} {pc : Nat} {ls : Array Slot} {rest : List Value} {D : va_G} {cl : List vw_C} {A : Nat → Prop} {tys : List (ClassId × FieldType)} {ws : va_W} {H0 : Heap}
    (hexec : p.tables.exec = Jvm.exec) (hb : c.code = cc) (harr : (Cond.arrayClass .long).before args s = true) (hK : va_K D cl tys s) (t0 : Nat) {cI : ClassId} (ht : tys[t0]? = some (cI, .long)) (hP : va_P D cl ws H) (hD : va_D A ws) (hS : va_S A H0 H locs) (hA : ∀ q, H0.size ≤ q → A q)
    {n : Int32} {N : Nat} (hn : ¬ n < 0) (hN : n.toNatClampNeg = N) (hbytes : N * componentBytes .long ≤ 536870912) (hcells : cells + 1 ≤ R.cells) (hslots : slots + N ≤ R.slots) (hdg : decode cc pc = .ok (.newarray .long, 2))
    (kk : ∀ (q : Nat) (H1 : Heap), va_P D cl (ws ++ [(q, .inl (cI, N, .inr (.inl (fun _ => 0))))]) H1 → va_D A (ws ++ [(q, .inl (cI, N, .inr (.inl (fun _ => 0))))]) → va_S A H0 H1 locs →
      W p l e R s m args below meth c H1 locs (cells + 1) (slots + N) Q (F0 m (pc + 2) ls (.ref q :: rest))) : W p l e R s m args below meth c H locs cells slots Q (F0 m pc ls (.int n :: rest)) := by
  refine va_newa (a0 := (N, .inr (.inl (fun _ => 0)))) hexec hb (atype := .long) harr rfl hK hP hD hS hA (fun cA => rfl) hn hN hbytes hcells hslots hdg (fun q cA H1 hK1 hP1 hD1 hS1 => ?_)
  have h1 : s.vm.findClass ("[" ++ FieldType.long.toString) = some cI := (hK.2 t0 _ ht).2
  have h2 : s.vm.findClass ("[" ++ FieldType.long.toString) = some cA := (hK1.2 tys.length (cA, .long) (by simp; rfl)).2
  obtain rfl : cI = cA := Option.some.inj (h1.symm.trans h2)
  exact kk q H1 hP1 hD1 hS1
theorem lw_K {s : State} {args : Array Value} (hts : ∀ w ∈ wG, w.before args s = true) : ∃ (dC : Nat → ClassId) (dI : Nat → Nat → Nat) (cI cJ : ClassId), va_K (dC, dI) classes [(cI, .int), (cJ, .long)] s := by
  obtain ⟨c0, i0, h0⟩ := u_known hts u_BW (hts _ kw_84)
  obtain ⟨c1, i1, h1⟩ := u_known hts u_Jn (hts _ kw_133)
  obtain ⟨c2, i2, h2⟩ := u_known hts u_Le (hts _ kw_26)
  obtain ⟨c3, i3, h3⟩ := u_known hts u_Re (hts _ kw_32)
  obtain ⟨c4, i4, h4⟩ := u_known hts u_PR (hts _ kw_18)
  obtain ⟨c5, i5, h5⟩ := u_known hts u_Mo (hts _ kw_709)
  obtain ⟨cI, kI, oI, a1, a2, a3⟩ := Cond.arrayClass_spec (hts _ kw_82)
  obtain ⟨cJ, kJ, oJ, b1, b2, b3⟩ := Cond.arrayClass_spec (hts _ kw_1021)
  refine ⟨fun k => match k with
    | 0 => c0
    | 1 => c1
    | 2 => c2
    | 3 => c3
    | 4 => c4
    | _ => c5, fun k => match k with
    | 0 => i0
    | 1 => i1
    | 2 => i2
    | 3 => i3
    | 4 => i4
    | _ => i5, cI, cJ, fun c q hq => ?_, fun k q hq => ?_⟩
  · rcases c with _ | _ | _ | _ | _ | _ | c
    · cases hq; exact h0
    · cases hq; exact h1
    · cases hq; exact h2
    · cases hq; exact h3
    · cases hq; exact h4
    · cases hq; exact h5
    · cases hq
  · rcases k with _ | _ | k
    · cases hq; exact ⟨fun n z => ⟨fun k h => (by cases h), kI, a2, oI, a3⟩, a1⟩
    · cases hq; exact ⟨fun n z => ⟨fun k h => (by cases h), kJ, b2, oJ, b3⟩, b1⟩
    · cases hq
theorem nest_tab {w : Cond} (h : isNest w = true) : w.onTables = true := by
  cases w <;> first | rfl | cases h
theorem cast_tab {w : Cond} (h : isCast w = true) : w.onTables = true := by
  cases w <;> first | rfl | cases h
theorem lw_NW {s : State} {args : Array Value} (hts : ∀ w ∈ lw_tbl, w.before args s = true) : NW s := fun w hw hn => va_Nw.of (nest_tab hn) (hts w hw)
theorem lw_SX {s : State} {args : Array Value} {A : Nat → Prop} (hts : ∀ w ∈ lw_tbl, w.before args s = true) (hg : (Jvm.Cond.and given_1 narrow_1).before args s = true) (hA : ∀ a : Nat, a < s.heap.size → ¬ A a) : SX A s := by
  have hs := flat_of_before _ hg
  refine ⟨vx_Zqof (hts _ (List.mem_append_right _ (List.mem_of_getElem? (i := 248) (by decide +kernel)))) (hts _ (List.mem_append_right _ (List.mem_of_getElem? (i := 7) (by decide +kernel)))) (hs _ (by decide +kernel)) hA, vx_Zqof (hts _ (List.mem_append_right _ (List.mem_of_getElem? (i := 250) (by decide +kernel)))) (hts _ (List.mem_append_right _ (List.mem_of_getElem? (i := 7) (by decide +kernel)))) (hs _ (by decide +kernel)) hA, fun w hw hc => va_Nw.of (cast_tab hc) (hts w hw)⟩
theorem lw_XN {s : State} {args : Array Value} (hg : (Jvm.Cond.and given_1 narrow_1).before args s = true) : XN s := by
  have hs := flat_of_before _ hg
  exact List.forall_mem_cons.mpr ⟨va_Nc.of (hs (Cond.not (.castable "java/lang/IllegalStateException" "java/lang/IllegalArgumentException")) (by decide +kernel)), List.forall_mem_cons.mpr ⟨va_Nc.of (hs (Cond.not (.castable "java/lang/UnsupportedOperationException" "java/lang/IllegalArgumentException")) (by decide +kernel)), List.forall_mem_cons.mpr ⟨va_Nc.of (hs (Cond.not (.castable "java/lang/IndexOutOfBoundsException" "java/lang/IllegalArgumentException")) (by decide +kernel)), List.forall_mem_cons.mpr ⟨va_Nc.of (hs (Cond.not (.castable "java/lang/IllegalArgumentException" "java/lang/IllegalStateException")) (by decide +kernel)), List.forall_mem_cons.mpr ⟨va_Nc.of (hs (Cond.not (.castable "java/lang/UnsupportedOperationException" "java/lang/IllegalStateException")) (by decide +kernel)), List.forall_mem_cons.mpr ⟨va_Nc.of (hs (Cond.not (.castable "java/lang/IndexOutOfBoundsException" "java/lang/IllegalStateException")) (by decide +kernel)), List.forall_mem_cons.mpr ⟨va_Nc.of (hs (Cond.not (.castable "java/lang/IllegalArgumentException" "java/lang/UnsupportedOperationException")) (by decide +kernel)), List.forall_mem_cons.mpr ⟨va_Nc.of (hs (Cond.not (.castable "java/lang/IllegalStateException" "java/lang/UnsupportedOperationException")) (by decide +kernel)), List.forall_mem_cons.mpr ⟨va_Nc.of (hs (Cond.not (.castable "java/lang/IndexOutOfBoundsException" "java/lang/UnsupportedOperationException")) (by decide +kernel)), List.forall_mem_cons.mpr ⟨va_Nc.of (hs (Cond.not (.castable "java/lang/IllegalArgumentException" "java/lang/IndexOutOfBoundsException")) (by decide +kernel)), List.forall_mem_cons.mpr ⟨va_Nc.of (hs (Cond.not (.castable "java/lang/IllegalStateException" "java/lang/IndexOutOfBoundsException")) (by decide +kernel)), List.forall_mem_cons.mpr ⟨va_Nc.of (hs (Cond.not (.castable "java/lang/UnsupportedOperationException" "java/lang/IndexOutOfBoundsException")) (by decide +kernel)), fun _ h => (nomatch h)⟩⟩⟩⟩⟩⟩⟩⟩⟩⟩⟩⟩
