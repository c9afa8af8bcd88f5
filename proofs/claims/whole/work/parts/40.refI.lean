/-! what the reference tells of free blocks and cuts -/
theorem k_shl0 : ∀ j, j < 33 → (1 : Int64) <<< ((nI j).toInt64 &&& 63) = lN (2 ^ j) := by decide +kernel
theorem k_shl {n m : Nat} (hn : n < 33) (hm : m ≤ n) : (1 : Int64) <<< ((nI n - nI m).toInt64 &&& 63) = lN (2 ^ (n - m)) := by
  rw [pk_sub hm]; exact k_shl0 _ (by omega)
def frS (n : Nat) (s : Nat) (x : Nat × Nat) : Nat := if x.2 ≤ n then s + 2 ^ (n - x.2) else s
def frN2 (V : MS) (r n : Nat) : Nat := (blkL V r).foldl (frS n) 0
/-- what the last block leaves in the object -/
def lstB : List (Nat × Nat) → Int64 × Int32 → Int64 × Int32
  | [], z => z
  | x :: t, _ => lstB t (lN x.1, nI x.2)
def mfdT6 (V : MS) (x n : Nat) : Nat := if x < V.mn 0 then (if n ≤ 32 then 0 else 2) else 1
def mfrR (V : MS) (x n : Nat) : Nat := if x < V.mn 0 ∧ n ≤ 32 then frN2 V x n else 0
def mfrS (V : MS) (x n : Nat) : MS := if x < V.mn 0 ∧ n ≤ 32 then vFn V 0 (lstB (blkL V x) (V.fo, V.fl)).1 (lstB (blkL V x) (V.fo, V.fl)).2 else V
def wkF (kk : Option Nat) : List (Nat × Nat) → Nat → Int64 → Int32 → Bool × Nat × Int64 × Int32
  | [], i, fo, fl => (false, i, fo, fl)
  | x :: t, i, _, _ => if kk = some i then (true, i, lN x.1, nI x.2) else wkF kk t (i + 1) (lN x.1) (nI x.2)
def wkR (kk : Option Nat) (w : Bool × Nat × Int64 × Int32) : Int32 := match w.1 with
  | true => 1
  | false => match kk with
    | none => nI w.2.1
    | some _ => 0
theorem pI_eq' {o : Option Nat} {r : Nat} (hr : r < 2147483648) (h : ∀ j, o = some j → j < 2147483648) : nI r = pI o ↔ o = some r := by
  rw [eq_comm]; exact pI_eq (fun j q => by have := h j q; omega) hr
theorem wkR_1 {k : Nat} {w : Bool × Nat × Int64 × Int32} : wkR (some k) w = 1 ↔ w.1 = true := by
  unfold wkR
  cases w.1 with
  | true => simp
  | false => simp
def moBls (V : MS) (x : Nat) : MS := if x < V.mn 0 then vFn V 0 (wkF none (blkL V x) 0 V.fo V.fl).2.2.1 (wkF none (blkL V x) 0 V.fo V.fl).2.2.2 else vFn V 1 V.fo V.fl
def moBlsR (V : MS) (x : Nat) : Int32 := if x < V.mn 0 then wkR none (wkF none (blkL V x) 0 V.fo V.fl) else 0
def moBlk (V : MS) (x k : Nat) : MS := if x < V.mn 0 ∧ k < 2147483648 then (if (wkF (some k) (blkL V x) 0 V.fo V.fl).1 = true then vFn V 0 (wkF (some k) (blkL V x) 0 V.fo V.fl).2.2.1 (wkF (some k) (blkL V x) 0 V.fo V.fl).2.2.2 else vFn V 1 (wkF (some k) (blkL V x) 0 V.fo V.fl).2.2.1 (wkF (some k) (blkL V x) 0 V.fo V.fl).2.2.2) else vFn V 1 V.fo V.fl
def moBlkR (V : MS) (x k : Nat) (u : Bool) : Int32 := if (x < V.mn 0 ∧ k < 2147483648) ∧ (wkF (some k) (blkL V x) 0 V.fo V.fl).1 = true then (match u with
  | true => (wkF (some k) (blkL V x) 0 V.fo V.fl).2.2.2
  | false => (wkF (some k) (blkL V x) 0 V.fo V.fl).2.2.1.toInt32) else 0
def cuF (V : MS) (x c : Nat) : Nat := if V.par c = some x ∧ V.sta c = 1 then 2 ^ (cl4 (V.len c) - V.len c) else 0
def cuN (V : MS) (x : Nat) : Nat := sumF (cuF V x) 0 (V.mn 0) 0
def mcuR (V : MS) (x : Nat) : Nat := if x < V.mn 0 then cuN V x else 0
def cbF (V : MS) (x c o : Nat) : Nat := if V.par o = some x ∧ V.sta o = 1 ∧ V.pre o < V.pre c then 2 ^ (cl4 (V.len o) - V.len o) else 0
def cbN (V : MS) (x c : Nat) : Nat := sumF (cbF V x c) 0 (V.mn 0) 0
theorem cut_lt {n : Nat} (h : n < 33) : 2 ^ (cl4 n - n) ≤ 8 := by
  have : ∀ n, n < 33 → 2 ^ (cl4 n - n) ≤ 8 := by decide
  exact this n h
theorem cbN_lt {V : MS} (hV : MSok V) (x c : Nat) : cbN V x c < 2147483648 := by
  have h1 := hV.mn 0
  have h2 := sumF_le (f := cbF V x c) (B := 8) (fun j => by
    unfold cbF; split
    · exact cut_lt (hV.len j)
    · omega) (V.mn 0) 0 0
  unfold cbN
  omega
theorem k_sublt {a b : Nat} (ha : a < 2147483648) (hb : b < 2147483648) : nI a - nI b < 0 ↔ a < b := by
  by_cases h : b ≤ a
  · rw [pk_sub h]
    constructor
    · intro q; exact absurd q (nI_pos (by omega))
    · intro q; omega
  · have e : nI a - nI b = nI (4294967296 + a - b) := by
      apply Int32.toBitVec_inj.1
      show BitVec.ofNat 32 a - BitVec.ofNat 32 b = BitVec.ofNat 32 (4294967296 + a - b)
      apply BitVec.eq_of_toNat_eq
      simp only [BitVec.toNat_sub, BitVec.toNat_ofNat]
      omega
    rw [e, k_lt0 (by omega)]
    omega
def ctP (V : MS) (x k c : Nat) : Bool := decide (V.par c = some x ∧ V.sta c = 1 ∧ cbN V x c ≤ k ∧ k - cbN V x c < 2 ^ (cl4 (V.len c) - V.len c))
def mctN (V : MS) (x k : Nat) : Option Nat := if x < V.mn 0 ∧ k < 2147483648 then fst (ctP V x k) 0 (V.mn 0) else none
def mctR (V : MS) (x k : Nat) (u : Bool) (q : Option Nat) : Int32 := match q with
  | none => 0
  | some i => match u with
    | true => nI (cl4 (V.len i))
    | false => nI (V.pre i + (k - cbN V x i) * 2 ^ (32 - cl4 (V.len i)))
set_option maxHeartbeats 4000000 in
set_option maxRecDepth 100000 in
theorem c_Mo_freeAt (l : Launch) (dC : Nat → ClassId) (dI : Nat → Nat → Nat) (sz : Nat) (cI : ClassId) (o : Nat) (a : Nat → Nat) (V : MS) (hV : MSok V) (x n : Nat) (hx0 : x < 4294967296) (hw0 : n < 4294967296) (hst : ∀ r, V.pre r + 2 ^ (32 - V.len r) ≤ 4294967296) : Met l y_Mo_freeAt (.code y_Mo_freeAt b_Mo_freeAt 6 (some .long) :: wG) ({ frames := 5, cells := 0, slots := 0, locals := 120 }) (PcM (dC, dI) [(cI, .int)] (wMo cI o a V) [.ref o, .int (nI x), .int (nI n)] sz) (QmL (dC, dI) [(cI, .int)] (wMo cI o a V) (wMo cI o a (vFn V (mfdT6 V x n) (mfrS V x n).fo (mfrS V x n).fl)) sz (lN (mfrR V x n))) 0 0 (va_A (wMo cI o a V) sz) := by
  refine Met.ofW (cc := b_Mo_freeAt) (maxL := 6) (ret := (some .long)) (by decide) rfl ?_
  intro pg eg s mg ag bg meth cg s₁ B hml hv
  obtain ⟨rfl, hsz, hP, hK, hD0, hN⟩ := hv
  have hx := B.exec
  have hb := B.bytes
  have hr := B.returns
  have hlocks := B.notSynchronized
  have hts : ∀ w9 ∈ wG, w9.before ([.ref o, .int (nI x), .int (nI n)] : List Value).toArray s = true := fun w9 h9 => atoms_spec (ws := (.code y_Mo_freeAt b_Mo_freeAt 6 (some .long) :: wG)) B.pre w9 (List.mem_cons_of_mem _ h9)
  have hown : s.vm.findClass "PrefixRegistryModel" = some mg.cls := findClass_of_methodNamed B.named
  subst hsz
  have hD := hD0.self (sz := s.heap.size)
  unfold QmL
  generalize hAe : va_A (wMo cI o a V) s.heap.size = A at hD ⊢
  have hA : ∀ q : Nat, s.heap.size ≤ q → A q := fun q h => by rw [← hAe]; exact Or.inr h
  have hS : va_S A s.heap s.heap [] := va_S.rf
  have hl := lv_entry ([.ref o, .int (nI x), .int (nI n)]) (n := 6) (Nat.le_of_ble_eq_true rfl)
  rw [lg_entry_eq]
  generalize (lg_sl ([.ref o, .int (nI x), .int (nI n)]) ++ List.replicate (6 - (lg_sl ([.ref o, .int (nI x), .int (nI n)])).length) Slot.unset).toArray = ls at hl ⊢
  replace hl : lv_has ls 6 [(0, .ref o), (1, .int (nI x)), (2, .int (nI n))] := hl
  replace hP : va_P (dC, dI) classes (wMo cI o a V) s.heap := hP
  replace hD : va_D A (wMo cI o a V) := hD
  refine lv_aload_n hx hb d_Mo_freeAt_0 rfl (lv_at hl 0 rfl) ?_
  refine lv_aload_n hx hb d_Mo_freeAt_1 rfl (lv_at hl 0 rfl) ?_
  refine lv_iconst (v := 0) hx hb d_Mo_freeAt_2 (by decide) ?_
  refine lv_iload_n hx hb d_Mo_freeAt_3 rfl (lv_at hl 1 rfl) ?_
  refine vp_callSi (W.runV (b := o) (As := [.int 0, .int (nI x)]) (rest := [.ref o]) ⟨hx, hb, hml, hown, hts⟩ (c_Mo_isRecord l dC dI cI o a V hV 0 0 x (by decide) rfl hx0 ) (cwV 2 hts (gV kw_817 kw_819 ks_28 kw_6 kw_820) rfl rfl rfl (by decide +kernel) ⟨Nat.le_of_ble_eq_true rfl, Nat.le_of_ble_eq_true rfl⟩) ⟨PcS.blind, va_recv (q0 := 0) hK hP rfl rfl, PcS.use hP hK hN⟩ rfl rfl hl.1 rfl (lv_room (Nat.le_of_ble_eq_true rfl)) d_Mo_freeAt_4 ⟨Nat.zero_le _, Nat.zero_le _⟩) (fun r4 hr4 => ?_)
  obtain rfl : r4 = bi (decide (x < V.mn 0)) := hr4
  refine lv_if_ne hx hb d_Mo_freeAt_7 rfl (fun h7 => ?_) (fun h7 => ?_)
  · have h7 := Decidable.not_not.mp (mt bi_d.mpr h7)
    refine lv_iload_n hx hb d_Mo_freeAt_14 rfl (lv_at hl 2 rfl) ?_
    refine lv_iconst (v := 0) hx hb d_Mo_freeAt_15 (by decide) ?_
    refine lv_bipush (v := 32) hx hb d_Mo_freeAt_16 (by decide) ?_
    refine vp_callSi (W.runS (As := [.int (nI n), .int 0, .int 32]) (rest := [.ref o]) ⟨hx, hb, hml, hown, hts⟩ (c_Mo_in l dC dI (nI n) 0 32) (cwS 3 hts (gS kw_784 kw_785 kw_6 kw_786) rfl rfl rfl (by decide +kernel) ⟨Nat.le_of_ble_eq_true rfl, Nat.le_of_ble_eq_true rfl⟩) ⟨PcS.blind, PcS.use hP hK hN⟩ rfl rfl hl.1 rfl (lv_room (Nat.le_of_ble_eq_true rfl)) d_Mo_freeAt_18 ⟨Nat.zero_le _, Nat.zero_le _⟩) (fun r18 hr18 => ?_)
    obtain rfl : r18 = bi (decide (0 ≤ nI n ∧ nI n ≤ 32)) := hr18
    refine lv_if_eq hx hb d_Mo_freeAt_21 rfl (fun h21 => ?_) (fun h21 => ?_)
    · have h21 := mt (in_iff hw0 (h := 32) (by decide)).mpr (bi_d.mp h21)
      refine lv_iconst (v := 2) hx hb d_Mo_freeAt_28 (by decide) ?_
      refine va_put (D := (dC, dI)) (ci := 5) (v := .int 2) (ty := .int) (C := R_Mo) (T := F_Mo) (N := 19) hx hb hts u_Mo t_Mo t_Mo_ok n_Mo hown hK hP hD hS 0 rfl rfl 0 (by decide) (hts _ kw_714) (fun _ h9 => h9) rfl (by decide +kernel) rfl rfl (Nat.le_of_ble_eq_true rfl) d_Mo_freeAt_29 (fun H locs hP hD hS => ?_)
      replace hP : va_P (dC, dI) classes [(o, .inr (5, [.int 2, .ref (a 0), .ref (a 1), .ref (a 2), .ref (a 3), .ref (a 4), .ref (a 5), .ref (a 6), .ref (a 7), .ref (a 8), .ref (a 9), .ref (a 10), .int (nI V.ne), .ref (a 11), .ref (a 12), .ref (a 13), .ref (a 14), .long V.fo, .int V.fl])), ((a 0), .inl (cI, 2, .inl (fun z9 => nI (V.mn z9)))), ((a 1), .inl (cI, 400, .inl (fun z9 => nI (V.pre z9)))), ((a 2), .inl (cI, 400, .inl (fun z9 => nI (V.len z9)))), ((a 3), .inl (cI, 400, .inl (fun z9 => pI (V.par z9)))), ((a 4), .inl (cI, 400, .inl (fun z9 => nI (V.lev z9)))), ((a 5), .inl (cI, 400, .inl (fun z9 => nI (V.hol z9)))), ((a 6), .inl (cI, 400, .inl (fun z9 => nI (V.sta z9)))), ((a 7), .inl (cI, 400, .inl (fun z9 => nI (V.en z9)))), ((a 8), .inl (cI, 2, .inl (fun z9 => nI (V.tdy z9)))), ((a 9), .inl (cI, 2, .inl (fun z9 => nI (V.dys z9)))), ((a 10), .inl (cI, 8, .inl (fun z9 => nI (V.pol z9)))), ((a 11), .inl (cI, 300, .inl V.kd)), ((a 12), .inl (cI, 300, .inl V.fi)), ((a 13), .inl (cI, 300, .inl V.se)), ((a 14), .inl (cI, 300, .inl V.th))] H := hP
      replace hD : va_D A [(o, .inr (5, [.int 2, .ref (a 0), .ref (a 1), .ref (a 2), .ref (a 3), .ref (a 4), .ref (a 5), .ref (a 6), .ref (a 7), .ref (a 8), .ref (a 9), .ref (a 10), .int (nI V.ne), .ref (a 11), .ref (a 12), .ref (a 13), .ref (a 14), .long V.fo, .int V.fl])), ((a 0), .inl (cI, 2, .inl (fun z9 => nI (V.mn z9)))), ((a 1), .inl (cI, 400, .inl (fun z9 => nI (V.pre z9)))), ((a 2), .inl (cI, 400, .inl (fun z9 => nI (V.len z9)))), ((a 3), .inl (cI, 400, .inl (fun z9 => pI (V.par z9)))), ((a 4), .inl (cI, 400, .inl (fun z9 => nI (V.lev z9)))), ((a 5), .inl (cI, 400, .inl (fun z9 => nI (V.hol z9)))), ((a 6), .inl (cI, 400, .inl (fun z9 => nI (V.sta z9)))), ((a 7), .inl (cI, 400, .inl (fun z9 => nI (V.en z9)))), ((a 8), .inl (cI, 2, .inl (fun z9 => nI (V.tdy z9)))), ((a 9), .inl (cI, 2, .inl (fun z9 => nI (V.dys z9)))), ((a 10), .inl (cI, 8, .inl (fun z9 => nI (V.pol z9)))), ((a 11), .inl (cI, 300, .inl V.kd)), ((a 12), .inl (cI, 300, .inl V.fi)), ((a 13), .inl (cI, 300, .inl V.se)), ((a 14), .inl (cI, 300, .inl V.th))] := hD
      refine lv_aload_n hx hb d_Mo_freeAt_32 rfl (lv_at hl 0 rfl) ?_
      refine va_get (D := (dC, dI)) (ci := 5) (v := .int 2) (C := R_Mo) (T := F_Mo) (N := 19) hx hb hts u_Mo hown hK hP 0 rfl rfl 0 (by decide) (hts _ kw_714) (fun _ h9 => h9) rfl d_Mo_freeAt_33 ?_
      refine lv_if_le hx hb d_Mo_freeAt_36 rfl (fun h9 => absurd h9 (by decide)) (fun _ => ?_)
      refine lv_lconst (v := 0) hx hb d_Mo_freeAt_39 (by decide) ?_
      have e9 : mfdT6 V x n = 2 := by unfold mfdT6; rw [if_pos h7, if_neg h21]
      have e8 : mfrR V x n = 0 := by unfold mfrR; rw [if_neg (fun q => h21 q.2)]
      have e7 : mfrS V x n = V := by unfold mfrS; rw [if_neg (fun q => h21 q.2)]
      have hP9 : va_P (dC, dI) classes (wMo cI o a (vFn V (mfdT6 V x n) (mfrS V x n).fo (mfrS V x n).fl)) H := by rw [e9, e7]; exact hP
      have hD9 : va_D A (wMo cI o a (vFn V (mfdT6 V x n) (mfrS V x n).fo (mfrS V x n).fl)) := by rw [e9, e7]; exact hD
      exact W.lret (v := 0) hx hb hr (fun t ht hW => ⟨⟨0, (), rfl, (by first | (rw [e8]; done) | (rw [e8]; rfl)), by rw [ht]; exact hP9, va_K.moved hW.alike hK, hD9⟩, hS.F ht⟩) hS.2.2 d_Mo_freeAt_40
    have h21 := (in_iff hw0 (h := 32) (by decide)).mp (Decidable.not_not.mp (mt bi_d.mpr h21))
    refine lv_iconst (v := 0) hx hb d_Mo_freeAt_24 (by decide) ?_
    refine lv_goto hx hb d_Mo_freeAt_25 rfl ?_
    refine va_put (D := (dC, dI)) (ci := 5) (v := .int 0) (ty := .int) (C := R_Mo) (T := F_Mo) (N := 19) hx hb hts u_Mo t_Mo t_Mo_ok n_Mo hown hK hP hD hS 0 rfl rfl 0 (by decide) (hts _ kw_714) (fun _ h9 => h9) rfl (by decide +kernel) rfl rfl (Nat.le_of_ble_eq_true rfl) d_Mo_freeAt_29 (fun H locs hP hD hS => ?_)
    replace hP : va_P (dC, dI) classes [(o, .inr (5, [.int 0, .ref (a 0), .ref (a 1), .ref (a 2), .ref (a 3), .ref (a 4), .ref (a 5), .ref (a 6), .ref (a 7), .ref (a 8), .ref (a 9), .ref (a 10), .int (nI V.ne), .ref (a 11), .ref (a 12), .ref (a 13), .ref (a 14), .long V.fo, .int V.fl])), ((a 0), .inl (cI, 2, .inl (fun z9 => nI (V.mn z9)))), ((a 1), .inl (cI, 400, .inl (fun z9 => nI (V.pre z9)))), ((a 2), .inl (cI, 400, .inl (fun z9 => nI (V.len z9)))), ((a 3), .inl (cI, 400, .inl (fun z9 => pI (V.par z9)))), ((a 4), .inl (cI, 400, .inl (fun z9 => nI (V.lev z9)))), ((a 5), .inl (cI, 400, .inl (fun z9 => nI (V.hol z9)))), ((a 6), .inl (cI, 400, .inl (fun z9 => nI (V.sta z9)))), ((a 7), .inl (cI, 400, .inl (fun z9 => nI (V.en z9)))), ((a 8), .inl (cI, 2, .inl (fun z9 => nI (V.tdy z9)))), ((a 9), .inl (cI, 2, .inl (fun z9 => nI (V.dys z9)))), ((a 10), .inl (cI, 8, .inl (fun z9 => nI (V.pol z9)))), ((a 11), .inl (cI, 300, .inl V.kd)), ((a 12), .inl (cI, 300, .inl V.fi)), ((a 13), .inl (cI, 300, .inl V.se)), ((a 14), .inl (cI, 300, .inl V.th))] H := hP
    replace hD : va_D A [(o, .inr (5, [.int 0, .ref (a 0), .ref (a 1), .ref (a 2), .ref (a 3), .ref (a 4), .ref (a 5), .ref (a 6), .ref (a 7), .ref (a 8), .ref (a 9), .ref (a 10), .int (nI V.ne), .ref (a 11), .ref (a 12), .ref (a 13), .ref (a 14), .long V.fo, .int V.fl])), ((a 0), .inl (cI, 2, .inl (fun z9 => nI (V.mn z9)))), ((a 1), .inl (cI, 400, .inl (fun z9 => nI (V.pre z9)))), ((a 2), .inl (cI, 400, .inl (fun z9 => nI (V.len z9)))), ((a 3), .inl (cI, 400, .inl (fun z9 => pI (V.par z9)))), ((a 4), .inl (cI, 400, .inl (fun z9 => nI (V.lev z9)))), ((a 5), .inl (cI, 400, .inl (fun z9 => nI (V.hol z9)))), ((a 6), .inl (cI, 400, .inl (fun z9 => nI (V.sta z9)))), ((a 7), .inl (cI, 400, .inl (fun z9 => nI (V.en z9)))), ((a 8), .inl (cI, 2, .inl (fun z9 => nI (V.tdy z9)))), ((a 9), .inl (cI, 2, .inl (fun z9 => nI (V.dys z9)))), ((a 10), .inl (cI, 8, .inl (fun z9 => nI (V.pol z9)))), ((a 11), .inl (cI, 300, .inl V.kd)), ((a 12), .inl (cI, 300, .inl V.fi)), ((a 13), .inl (cI, 300, .inl V.se)), ((a 14), .inl (cI, 300, .inl V.th))] := hD
    refine lv_aload_n hx hb d_Mo_freeAt_32 rfl (lv_at hl 0 rfl) ?_
    refine va_get (D := (dC, dI)) (ci := 5) (v := .int 0) (C := R_Mo) (T := F_Mo) (N := 19) hx hb hts u_Mo hown hK hP 0 rfl rfl 0 (by decide) (hts _ kw_714) (fun _ h9 => h9) rfl d_Mo_freeAt_33 ?_
    refine lv_if_le hx hb d_Mo_freeAt_36 rfl (fun _ => ?_) (fun h9 => absurd (by decide) h9)
    refine lv_lconst (v := 0) hx hb d_Mo_freeAt_41 (by decide) ?_
    refine lv_lstore_n hx hb d_Mo_freeAt_42 rfl hl (by decide) rfl (fun ls hl => ?_)
    replace hl : lv_has ls 6 [(3, .long 0), (0, .ref o), (1, .int (nI x)), (2, .int (nI n))] := hl
    refine lv_aload_n hx hb d_Mo_freeAt_43 rfl (lv_at hl 1 rfl) ?_
    refine lv_iload_n hx hb d_Mo_freeAt_44 rfl (lv_at hl 2 rfl) ?_
    refine lv_aload_n hx hb d_Mo_freeAt_45 rfl (lv_at hl 1 rfl) ?_
    refine lv_iload_n hx hb d_Mo_freeAt_46 rfl (lv_at hl 2 rfl) ?_
    refine vp_callSl (W.runV (b := o) (As := [.int (nI x)]) (rest := [.int (nI x), .ref o]) ⟨hx, hb, hml, hown, hts⟩ (c_Mo_beginOf l dC dI cI o a (vFn V 0 V.fo V.fl) hV x (by have := hV.mn 0; omega)) (cwV 1 hts (gV kw_854 kw_856 ks_36 kw_6 kw_857) rfl rfl rfl (by decide +kernel) ⟨Nat.le_of_ble_eq_true rfl, Nat.le_of_ble_eq_true rfl⟩) ⟨PcS.blind, va_recv (q0 := 0) hK hP rfl rfl, PcS.use hP hK hN⟩ rfl rfl hl.1 rfl (lv_room (Nat.le_of_ble_eq_true rfl)) d_Mo_freeAt_47 ⟨Nat.zero_le _, Nat.zero_le _⟩) (fun r47 hr47 => ?_)
    obtain rfl : r47 = (lN (V.pre x)) := hr47
    have hPc := hP.sub (ws' := (wMo cI o a (vFn V 0 V.fo V.fl))) [0, 1, 2, 3, 4, 5, 6, 7, 8, 9, 10, 11, 12, 13, 14, 15] rfl
    have hDc := hD.sub (ws' := (wMo cI o a (vFn V 0 V.fo V.fl))) [0, 1, 2, 3, 4, 5, 6, 7, 8, 9, 10, 11, 12, 13, 14, 15] (by decide) rfl
    have hFc := va_free (wc := (wMo cI o a (vFn V 0 V.fo V.fl))) hD hS hA [0, 1, 2, 3, 4, 5, 6, 7, 8, 9, 10, 11, 12, 13, 14, 15] rfl
    refine va_calli (va_runV (b := o) (As := [.int (nI x), .long (lN (V.pre x))]) (rest := []) ⟨hx, hb, hml, hown, hts⟩ (c_Mo_nextBlock l dC dI H.size cI o a V hV 0 V.fo V.fl x (by have := hV.mn 0; omega) (V.pre x) (by have := hV.pre x; omega) (hst x)) (cwV 2 hts (gV kw_859 kw_861 ks_37 kw_6 kw_862) rfl rfl rfl (by decide +kernel) ⟨Nat.le_of_ble_eq_true rfl, Nat.le_of_ble_eq_true rfl⟩) ⟨PcM.blind, va_recv (q0 := 0) hK hPc rfl rfl, PcM.use hPc hK hN hDc⟩ rfl rfl hl.1 rfl (lv_room (Nat.le_of_ble_eq_true rfl)) d_Mo_freeAt_50 ⟨Nat.le_of_ble_eq_true rfl, Nat.le_of_ble_eq_true rfl⟩) hS (fun q _ h => hFc q h) hFc (fun r50 u9 H9 H1 locs hH9 hv9 hp9 hB hz1 hk1 hS => ?_)
    obtain rfl : r50 = (bi (decide (skN V x (V.pre x) < (V.pre x + 2 ^ (32 - V.len x))))) := hp9
    obtain ⟨hP1, hK1, hD1⟩ := hB
    rw [hH9] at hP1
    obtain ⟨hP, hD⟩ := va_join (wr := []) (w1 := (wMo cI o a (vNx V 0 V.fo V.fl x (V.pre x)))) hP hD [0, 1, 2, 3, 4, 5, 6, 7, 8, 9, 10, 11, 12, 13, 14, 15] [] rfl rfl (by decide) (by decide) hk1 hFc hP1 hD1
    clear hPc hDc hFc hP1 hD1 hK1 hk1 hz1 hv9 hH9
    generalize H1 = H at hP hS ⊢
    replace hP : va_P (dC, dI) classes [(o, .inr (5, [.int (nI (vNx V 0 V.fo V.fl x (V.pre x)).tc), .ref (a 0), .ref (a 1), .ref (a 2), .ref (a 3), .ref (a 4), .ref (a 5), .ref (a 6), .ref (a 7), .ref (a 8), .ref (a 9), .ref (a 10), .int (nI (vNx V 0 V.fo V.fl x (V.pre x)).ne), .ref (a 11), .ref (a 12), .ref (a 13), .ref (a 14), .long ((vNx V 0 V.fo V.fl x (V.pre x)).fo), .int ((vNx V 0 V.fo V.fl x (V.pre x)).fl)])), ((a 0), .inl (cI, 2, .inl (fun z9 => nI ((vNx V 0 V.fo V.fl x (V.pre x)).mn z9)))), ((a 1), .inl (cI, 400, .inl (fun z9 => nI ((vNx V 0 V.fo V.fl x (V.pre x)).pre z9)))), ((a 2), .inl (cI, 400, .inl (fun z9 => nI ((vNx V 0 V.fo V.fl x (V.pre x)).len z9)))), ((a 3), .inl (cI, 400, .inl (fun z9 => pI ((vNx V 0 V.fo V.fl x (V.pre x)).par z9)))), ((a 4), .inl (cI, 400, .inl (fun z9 => nI ((vNx V 0 V.fo V.fl x (V.pre x)).lev z9)))), ((a 5), .inl (cI, 400, .inl (fun z9 => nI ((vNx V 0 V.fo V.fl x (V.pre x)).hol z9)))), ((a 6), .inl (cI, 400, .inl (fun z9 => nI ((vNx V 0 V.fo V.fl x (V.pre x)).sta z9)))), ((a 7), .inl (cI, 400, .inl (fun z9 => nI ((vNx V 0 V.fo V.fl x (V.pre x)).en z9)))), ((a 8), .inl (cI, 2, .inl (fun z9 => nI ((vNx V 0 V.fo V.fl x (V.pre x)).tdy z9)))), ((a 9), .inl (cI, 2, .inl (fun z9 => nI ((vNx V 0 V.fo V.fl x (V.pre x)).dys z9)))), ((a 10), .inl (cI, 8, .inl (fun z9 => nI ((vNx V 0 V.fo V.fl x (V.pre x)).pol z9)))), ((a 11), .inl (cI, 300, .inl ((vNx V 0 V.fo V.fl x (V.pre x)).kd))), ((a 12), .inl (cI, 300, .inl ((vNx V 0 V.fo V.fl x (V.pre x)).fi))), ((a 13), .inl (cI, 300, .inl ((vNx V 0 V.fo V.fl x (V.pre x)).se))), ((a 14), .inl (cI, 300, .inl ((vNx V 0 V.fo V.fl x (V.pre x)).th)))] H := hP.sub (ws' := [(o, .inr (5, [.int (nI (vNx V 0 V.fo V.fl x (V.pre x)).tc), .ref (a 0), .ref (a 1), .ref (a 2), .ref (a 3), .ref (a 4), .ref (a 5), .ref (a 6), .ref (a 7), .ref (a 8), .ref (a 9), .ref (a 10), .int (nI (vNx V 0 V.fo V.fl x (V.pre x)).ne), .ref (a 11), .ref (a 12), .ref (a 13), .ref (a 14), .long ((vNx V 0 V.fo V.fl x (V.pre x)).fo), .int ((vNx V 0 V.fo V.fl x (V.pre x)).fl)])), ((a 0), .inl (cI, 2, .inl (fun z9 => nI ((vNx V 0 V.fo V.fl x (V.pre x)).mn z9)))), ((a 1), .inl (cI, 400, .inl (fun z9 => nI ((vNx V 0 V.fo V.fl x (V.pre x)).pre z9)))), ((a 2), .inl (cI, 400, .inl (fun z9 => nI ((vNx V 0 V.fo V.fl x (V.pre x)).len z9)))), ((a 3), .inl (cI, 400, .inl (fun z9 => pI ((vNx V 0 V.fo V.fl x (V.pre x)).par z9)))), ((a 4), .inl (cI, 400, .inl (fun z9 => nI ((vNx V 0 V.fo V.fl x (V.pre x)).lev z9)))), ((a 5), .inl (cI, 400, .inl (fun z9 => nI ((vNx V 0 V.fo V.fl x (V.pre x)).hol z9)))), ((a 6), .inl (cI, 400, .inl (fun z9 => nI ((vNx V 0 V.fo V.fl x (V.pre x)).sta z9)))), ((a 7), .inl (cI, 400, .inl (fun z9 => nI ((vNx V 0 V.fo V.fl x (V.pre x)).en z9)))), ((a 8), .inl (cI, 2, .inl (fun z9 => nI ((vNx V 0 V.fo V.fl x (V.pre x)).tdy z9)))), ((a 9), .inl (cI, 2, .inl (fun z9 => nI ((vNx V 0 V.fo V.fl x (V.pre x)).dys z9)))), ((a 10), .inl (cI, 8, .inl (fun z9 => nI ((vNx V 0 V.fo V.fl x (V.pre x)).pol z9)))), ((a 11), .inl (cI, 300, .inl ((vNx V 0 V.fo V.fl x (V.pre x)).kd))), ((a 12), .inl (cI, 300, .inl ((vNx V 0 V.fo V.fl x (V.pre x)).fi))), ((a 13), .inl (cI, 300, .inl ((vNx V 0 V.fo V.fl x (V.pre x)).se))), ((a 14), .inl (cI, 300, .inl ((vNx V 0 V.fo V.fl x (V.pre x)).th)))]) [0, 1, 2, 3, 4, 5, 6, 7, 8, 9, 10, 11, 12, 13, 14, 15] rfl
    replace hD : va_D A [(o, .inr (5, [.int (nI (vNx V 0 V.fo V.fl x (V.pre x)).tc), .ref (a 0), .ref (a 1), .ref (a 2), .ref (a 3), .ref (a 4), .ref (a 5), .ref (a 6), .ref (a 7), .ref (a 8), .ref (a 9), .ref (a 10), .int (nI (vNx V 0 V.fo V.fl x (V.pre x)).ne), .ref (a 11), .ref (a 12), .ref (a 13), .ref (a 14), .long ((vNx V 0 V.fo V.fl x (V.pre x)).fo), .int ((vNx V 0 V.fo V.fl x (V.pre x)).fl)])), ((a 0), .inl (cI, 2, .inl (fun z9 => nI ((vNx V 0 V.fo V.fl x (V.pre x)).mn z9)))), ((a 1), .inl (cI, 400, .inl (fun z9 => nI ((vNx V 0 V.fo V.fl x (V.pre x)).pre z9)))), ((a 2), .inl (cI, 400, .inl (fun z9 => nI ((vNx V 0 V.fo V.fl x (V.pre x)).len z9)))), ((a 3), .inl (cI, 400, .inl (fun z9 => pI ((vNx V 0 V.fo V.fl x (V.pre x)).par z9)))), ((a 4), .inl (cI, 400, .inl (fun z9 => nI ((vNx V 0 V.fo V.fl x (V.pre x)).lev z9)))), ((a 5), .inl (cI, 400, .inl (fun z9 => nI ((vNx V 0 V.fo V.fl x (V.pre x)).hol z9)))), ((a 6), .inl (cI, 400, .inl (fun z9 => nI ((vNx V 0 V.fo V.fl x (V.pre x)).sta z9)))), ((a 7), .inl (cI, 400, .inl (fun z9 => nI ((vNx V 0 V.fo V.fl x (V.pre x)).en z9)))), ((a 8), .inl (cI, 2, .inl (fun z9 => nI ((vNx V 0 V.fo V.fl x (V.pre x)).tdy z9)))), ((a 9), .inl (cI, 2, .inl (fun z9 => nI ((vNx V 0 V.fo V.fl x (V.pre x)).dys z9)))), ((a 10), .inl (cI, 8, .inl (fun z9 => nI ((vNx V 0 V.fo V.fl x (V.pre x)).pol z9)))), ((a 11), .inl (cI, 300, .inl ((vNx V 0 V.fo V.fl x (V.pre x)).kd))), ((a 12), .inl (cI, 300, .inl ((vNx V 0 V.fo V.fl x (V.pre x)).fi))), ((a 13), .inl (cI, 300, .inl ((vNx V 0 V.fo V.fl x (V.pre x)).se))), ((a 14), .inl (cI, 300, .inl ((vNx V 0 V.fo V.fl x (V.pre x)).th)))] := hD.sub (ws' := [(o, .inr (5, [.int (nI (vNx V 0 V.fo V.fl x (V.pre x)).tc), .ref (a 0), .ref (a 1), .ref (a 2), .ref (a 3), .ref (a 4), .ref (a 5), .ref (a 6), .ref (a 7), .ref (a 8), .ref (a 9), .ref (a 10), .int (nI (vNx V 0 V.fo V.fl x (V.pre x)).ne), .ref (a 11), .ref (a 12), .ref (a 13), .ref (a 14), .long ((vNx V 0 V.fo V.fl x (V.pre x)).fo), .int ((vNx V 0 V.fo V.fl x (V.pre x)).fl)])), ((a 0), .inl (cI, 2, .inl (fun z9 => nI ((vNx V 0 V.fo V.fl x (V.pre x)).mn z9)))), ((a 1), .inl (cI, 400, .inl (fun z9 => nI ((vNx V 0 V.fo V.fl x (V.pre x)).pre z9)))), ((a 2), .inl (cI, 400, .inl (fun z9 => nI ((vNx V 0 V.fo V.fl x (V.pre x)).len z9)))), ((a 3), .inl (cI, 400, .inl (fun z9 => pI ((vNx V 0 V.fo V.fl x (V.pre x)).par z9)))), ((a 4), .inl (cI, 400, .inl (fun z9 => nI ((vNx V 0 V.fo V.fl x (V.pre x)).lev z9)))), ((a 5), .inl (cI, 400, .inl (fun z9 => nI ((vNx V 0 V.fo V.fl x (V.pre x)).hol z9)))), ((a 6), .inl (cI, 400, .inl (fun z9 => nI ((vNx V 0 V.fo V.fl x (V.pre x)).sta z9)))), ((a 7), .inl (cI, 400, .inl (fun z9 => nI ((vNx V 0 V.fo V.fl x (V.pre x)).en z9)))), ((a 8), .inl (cI, 2, .inl (fun z9 => nI ((vNx V 0 V.fo V.fl x (V.pre x)).tdy z9)))), ((a 9), .inl (cI, 2, .inl (fun z9 => nI ((vNx V 0 V.fo V.fl x (V.pre x)).dys z9)))), ((a 10), .inl (cI, 8, .inl (fun z9 => nI ((vNx V 0 V.fo V.fl x (V.pre x)).pol z9)))), ((a 11), .inl (cI, 300, .inl ((vNx V 0 V.fo V.fl x (V.pre x)).kd))), ((a 12), .inl (cI, 300, .inl ((vNx V 0 V.fo V.fl x (V.pre x)).fi))), ((a 13), .inl (cI, 300, .inl ((vNx V 0 V.fo V.fl x (V.pre x)).se))), ((a 14), .inl (cI, 300, .inl ((vNx V 0 V.fo V.fl x (V.pre x)).th)))]) [0, 1, 2, 3, 4, 5, 6, 7, 8, 9, 10, 11, 12, 13, 14, 15] (by decide) rfl
    refine lv_istore hx hb d_Mo_freeAt_53 hl (by decide) rfl (fun ls hl => ?_)
    replace hl : lv_has ls 6 [(5, .int (bi (decide (skN V x (V.pre x) < (V.pre x + 2 ^ (32 - V.len x)))))), (3, .long 0), (0, .ref o), (1, .int (nI x)), (2, .int (nI n))] := hl
    obtain ⟨L, hL0⟩ : ∃ L : List (Nat × Nat), L = blkL V x := ⟨_, rfl⟩
    obtain ⟨f9, hf9⟩ : ∃ f9 : Nat, f9 = V.pre x := ⟨_, rfl⟩
    obtain ⟨fo9, hfo9⟩ : ∃ fo9 : Int64, fo9 = V.fo := ⟨_, rfl⟩
    obtain ⟨fl9, hfl9⟩ : ∃ fl9 : Int32, fl9 = V.fl := ⟨_, rfl⟩
    obtain ⟨sm, hsm⟩ : ∃ sm : Nat, sm = 0 := ⟨_, rfl⟩
    have hbk : blk V x f9 L := by rw [hL0, hf9]; exact blkL_ok V x
    have hfb : f9 ≤ 8589934592 := by have := hV.pre x; omega
    have hres : L.foldl (frS n) sm = frN2 V x n := by rw [hL0, hsm]; rfl
    have hlst : lstB L (fo9, fl9) = lstB (blkL V x) (V.fo, V.fl) := by rw [hL0, hfo9, hfl9]
    replace hP : va_P (dC, dI) classes (wMo cI o a (vNx V 0 fo9 fl9 x f9)) H := by rw [hfo9, hfl9, hf9]; exact hP
    replace hD : va_D A (wMo cI o a (vNx V 0 fo9 fl9 x f9)) := by rw [hfo9, hfl9, hf9]; exact hD
    replace hl : lv_has ls 6 [(5, .int (bi (decide (skN V x f9 < (V.pre x + 2 ^ (32 - V.len x)))))), (3, .long (lN sm)), (0, .ref o), (1, .int (nI x)), (2, .int (nI n))] := by rw [hf9]; subst hsm; exact hl
    clear hL0 hf9 hfo9 hfl9 hsm
    replace hbk := hbk
    replace hfb := hfb
    replace hres := hres
    replace hlst := hlst
    replace hP := hP
    replace hD := hD
    replace hS := hS
    replace hl : lv_has ls 6 [(5, .int (bi (decide (skN V x f9 < (V.pre x + 2 ^ (32 - V.len x)))))), (3, .long (lN sm)), (0, .ref o), (1, .int (nI x)), (2, .int (nI n))] := hl
    induction L generalizing f9 fo9 fl9 ls H locs sm with
    | nil =>
      rw [vNx_neg hbk] at hP hD
      replace hP : va_P (dC, dI) classes [(o, .inr (5, [.int (nI 0), .ref (a 0), .ref (a 1), .ref (a 2), .ref (a 3), .ref (a 4), .ref (a 5), .ref (a 6), .ref (a 7), .ref (a 8), .ref (a 9), .ref (a 10), .int (nI V.ne), .ref (a 11), .ref (a 12), .ref (a 13), .ref (a 14), .long fo9, .int fl9])), ((a 0), .inl (cI, 2, .inl (fun z9 => nI (V.mn z9)))), ((a 1), .inl (cI, 400, .inl (fun z9 => nI (V.pre z9)))), ((a 2), .inl (cI, 400, .inl (fun z9 => nI (V.len z9)))), ((a 3), .inl (cI, 400, .inl (fun z9 => pI (V.par z9)))), ((a 4), .inl (cI, 400, .inl (fun z9 => nI (V.lev z9)))), ((a 5), .inl (cI, 400, .inl (fun z9 => nI (V.hol z9)))), ((a 6), .inl (cI, 400, .inl (fun z9 => nI (V.sta z9)))), ((a 7), .inl (cI, 400, .inl (fun z9 => nI (V.en z9)))), ((a 8), .inl (cI, 2, .inl (fun z9 => nI (V.tdy z9)))), ((a 9), .inl (cI, 2, .inl (fun z9 => nI (V.dys z9)))), ((a 10), .inl (cI, 8, .inl (fun z9 => nI (V.pol z9)))), ((a 11), .inl (cI, 300, .inl V.kd)), ((a 12), .inl (cI, 300, .inl V.fi)), ((a 13), .inl (cI, 300, .inl V.se)), ((a 14), .inl (cI, 300, .inl V.th))] H := hP
      replace hD : va_D A [(o, .inr (5, [.int (nI 0), .ref (a 0), .ref (a 1), .ref (a 2), .ref (a 3), .ref (a 4), .ref (a 5), .ref (a 6), .ref (a 7), .ref (a 8), .ref (a 9), .ref (a 10), .int (nI V.ne), .ref (a 11), .ref (a 12), .ref (a 13), .ref (a 14), .long fo9, .int fl9])), ((a 0), .inl (cI, 2, .inl (fun z9 => nI (V.mn z9)))), ((a 1), .inl (cI, 400, .inl (fun z9 => nI (V.pre z9)))), ((a 2), .inl (cI, 400, .inl (fun z9 => nI (V.len z9)))), ((a 3), .inl (cI, 400, .inl (fun z9 => pI (V.par z9)))), ((a 4), .inl (cI, 400, .inl (fun z9 => nI (V.lev z9)))), ((a 5), .inl (cI, 400, .inl (fun z9 => nI (V.hol z9)))), ((a 6), .inl (cI, 400, .inl (fun z9 => nI (V.sta z9)))), ((a 7), .inl (cI, 400, .inl (fun z9 => nI (V.en z9)))), ((a 8), .inl (cI, 2, .inl (fun z9 => nI (V.tdy z9)))), ((a 9), .inl (cI, 2, .inl (fun z9 => nI (V.dys z9)))), ((a 10), .inl (cI, 8, .inl (fun z9 => nI (V.pol z9)))), ((a 11), .inl (cI, 300, .inl V.kd)), ((a 12), .inl (cI, 300, .inl V.fi)), ((a 13), .inl (cI, 300, .inl V.se)), ((a 14), .inl (cI, 300, .inl V.th))] := hD
      refine lv_iload hx hb d_Mo_freeAt_55 (lv_at hl 0 rfl) ?_
      refine lv_if_eq hx hb d_Mo_freeAt_57 rfl (fun _ => ?_) (fun h9 => absurd (bi_d.mpr hbk) h9)
      refine lv_lload_n hx hb d_Mo_freeAt_97 rfl (lv_at hl 1 rfl) ?_
      have e9 : mfdT6 V x n = 0 := by unfold mfdT6; rw [if_pos h7, if_pos h21]
      have e8 : mfrR V x n = sm := by unfold mfrR; rw [if_pos ⟨h7, h21⟩]; exact hres.symm
      have e7 : mfrS V x n = vFn V 0 fo9 fl9 := by unfold mfrS; rw [if_pos ⟨h7, h21⟩]; exact congrArg (fun z : Int64 × Int32 => vFn V 0 z.1 z.2) hlst.symm
      have hP9 : va_P (dC, dI) classes (wMo cI o a (vFn V (mfdT6 V x n) (mfrS V x n).fo (mfrS V x n).fl)) H := by rw [e9, e7]; exact hP
      have hD9 : va_D A (wMo cI o a (vFn V (mfdT6 V x n) (mfrS V x n).fo (mfrS V x n).fl)) := by rw [e9, e7]; exact hD
      exact W.lret (v := (lN sm)) hx hb hr (fun t ht hW => ⟨⟨(lN sm), (), rfl, (by first | (rw [e8]; done) | (rw [e8]; rfl)), by rw [ht]; exact hP9, va_K.moved hW.alike hK, hD9⟩, hS.F ht⟩) hS.2.2 d_Mo_freeAt_98
    | cons x9 L ih =>
      obtain ⟨hb1, hb2, hb3, hbk⟩ := hbk
      rw [vNx_pos hb1 hb2 hb3] at hP hD
      have hx33 : x9.2 < 33 := by rw [hb3]; exact Nat.lt_succ_of_le (blF_le _ _ _ _)
      have hx32 : x9.1 < 4294967296 := by have := (hst x); omega
      replace hP : va_P (dC, dI) classes [(o, .inr (5, [.int (nI 0), .ref (a 0), .ref (a 1), .ref (a 2), .ref (a 3), .ref (a 4), .ref (a 5), .ref (a 6), .ref (a 7), .ref (a 8), .ref (a 9), .ref (a 10), .int (nI V.ne), .ref (a 11), .ref (a 12), .ref (a 13), .ref (a 14), .long (lN x9.1), .int (nI x9.2)])), ((a 0), .inl (cI, 2, .inl (fun z9 => nI (V.mn z9)))), ((a 1), .inl (cI, 400, .inl (fun z9 => nI (V.pre z9)))), ((a 2), .inl (cI, 400, .inl (fun z9 => nI (V.len z9)))), ((a 3), .inl (cI, 400, .inl (fun z9 => pI (V.par z9)))), ((a 4), .inl (cI, 400, .inl (fun z9 => nI (V.lev z9)))), ((a 5), .inl (cI, 400, .inl (fun z9 => nI (V.hol z9)))), ((a 6), .inl (cI, 400, .inl (fun z9 => nI (V.sta z9)))), ((a 7), .inl (cI, 400, .inl (fun z9 => nI (V.en z9)))), ((a 8), .inl (cI, 2, .inl (fun z9 => nI (V.tdy z9)))), ((a 9), .inl (cI, 2, .inl (fun z9 => nI (V.dys z9)))), ((a 10), .inl (cI, 8, .inl (fun z9 => nI (V.pol z9)))), ((a 11), .inl (cI, 300, .inl V.kd)), ((a 12), .inl (cI, 300, .inl V.fi)), ((a 13), .inl (cI, 300, .inl V.se)), ((a 14), .inl (cI, 300, .inl V.th))] H := hP
      replace hD : va_D A [(o, .inr (5, [.int (nI 0), .ref (a 0), .ref (a 1), .ref (a 2), .ref (a 3), .ref (a 4), .ref (a 5), .ref (a 6), .ref (a 7), .ref (a 8), .ref (a 9), .ref (a 10), .int (nI V.ne), .ref (a 11), .ref (a 12), .ref (a 13), .ref (a 14), .long (lN x9.1), .int (nI x9.2)])), ((a 0), .inl (cI, 2, .inl (fun z9 => nI (V.mn z9)))), ((a 1), .inl (cI, 400, .inl (fun z9 => nI (V.pre z9)))), ((a 2), .inl (cI, 400, .inl (fun z9 => nI (V.len z9)))), ((a 3), .inl (cI, 400, .inl (fun z9 => pI (V.par z9)))), ((a 4), .inl (cI, 400, .inl (fun z9 => nI (V.lev z9)))), ((a 5), .inl (cI, 400, .inl (fun z9 => nI (V.hol z9)))), ((a 6), .inl (cI, 400, .inl (fun z9 => nI (V.sta z9)))), ((a 7), .inl (cI, 400, .inl (fun z9 => nI (V.en z9)))), ((a 8), .inl (cI, 2, .inl (fun z9 => nI (V.tdy z9)))), ((a 9), .inl (cI, 2, .inl (fun z9 => nI (V.dys z9)))), ((a 10), .inl (cI, 8, .inl (fun z9 => nI (V.pol z9)))), ((a 11), .inl (cI, 300, .inl V.kd)), ((a 12), .inl (cI, 300, .inl V.fi)), ((a 13), .inl (cI, 300, .inl V.se)), ((a 14), .inl (cI, 300, .inl V.th))] := hD
      refine lv_iload hx hb d_Mo_freeAt_55 (lv_at hl 0 rfl) ?_
      refine lv_if_eq hx hb d_Mo_freeAt_57 rfl (fun h9 => absurd h9 (fun q => bi_d.mp q hb1)) (fun _ => ?_)
      refine lv_lload_n hx hb d_Mo_freeAt_60 rfl (lv_at hl 1 rfl) ?_
      refine lv_aload_n hx hb d_Mo_freeAt_61 rfl (lv_at hl 2 rfl) ?_
      refine va_get (D := (dC, dI)) (ci := 5) (v := .int (nI x9.2)) (C := R_Mo) (T := F_Mo) (N := 19) hx hb hts u_Mo hown hK hP 0 rfl rfl 18 (by decide) (hts _ kw_732) (fun _ h9 => h9) rfl d_Mo_freeAt_62 ?_
      refine lv_iload_n hx hb d_Mo_freeAt_65 rfl (lv_at hl 4 rfl) ?_
      refine lv_icmp_gt hx hb d_Mo_freeAt_66 rfl (fun h66 => ?_) (fun h66 => ?_)
      · have h66 := (nI_ltI (by omega) (by omega)).mp h66
        refine lv_lconst (v := 0) hx hb d_Mo_freeAt_80 (by decide) ?_
        refine lv_ladd hx hb d_Mo_freeAt_81 ?_
        refine x_topl (y := (lN sm)) (lN_add _ 0) ?_
        refine lv_lstore_n hx hb d_Mo_freeAt_82 rfl hl (by decide) rfl (fun ls hl => ?_)
        replace hl : lv_has ls 6 [(3, .long (lN sm)), (5, .int (bi (decide (skN V x f9 < (V.pre x + 2 ^ (32 - V.len x)))))), (0, .ref o), (1, .int (nI x)), (2, .int (nI n))] := hl
        refine lv_aload_n hx hb d_Mo_freeAt_83 rfl (lv_at hl 2 rfl) ?_
        refine lv_iload_n hx hb d_Mo_freeAt_84 rfl (lv_at hl 3 rfl) ?_
        refine lv_aload_n hx hb d_Mo_freeAt_85 rfl (lv_at hl 2 rfl) ?_
        refine vp_callSl (W.runV (b := o) (As := []) (rest := [.int (nI x), .ref o]) ⟨hx, hb, hml, hown, hts⟩ (c_Mo_behind l dC dI cI o a V hV 0 x9.1 x9.2 hx33) (cwV 0 hts (gV kw_871 kw_873 ks_40 kw_6 kw_874) rfl rfl rfl (by decide +kernel) ⟨Nat.le_of_ble_eq_true rfl, Nat.le_of_ble_eq_true rfl⟩) ⟨PcS.blind, va_recv (q0 := 0) hK hP rfl rfl, PcS.use hP hK hN⟩ rfl rfl hl.1 rfl (lv_room (Nat.le_of_ble_eq_true rfl)) d_Mo_freeAt_86 ⟨Nat.zero_le _, Nat.zero_le _⟩) (fun r86 hr86 => ?_)
        obtain rfl : r86 = (lN (x9.1 + 2 ^ (32 - x9.2))) := hr86
        have hPc := hP.sub (ws' := (wMo cI o a (vFn V 0 (lN x9.1) (nI x9.2)))) [0, 1, 2, 3, 4, 5, 6, 7, 8, 9, 10, 11, 12, 13, 14, 15] rfl
        have hDc := hD.sub (ws' := (wMo cI o a (vFn V 0 (lN x9.1) (nI x9.2)))) [0, 1, 2, 3, 4, 5, 6, 7, 8, 9, 10, 11, 12, 13, 14, 15] (by decide) rfl
        have hFc := va_free (wc := (wMo cI o a (vFn V 0 (lN x9.1) (nI x9.2)))) hD hS hA [0, 1, 2, 3, 4, 5, 6, 7, 8, 9, 10, 11, 12, 13, 14, 15] rfl
        refine va_calli (va_runV (b := o) (As := [.int (nI x), .long (lN (x9.1 + 2 ^ (32 - x9.2)))]) (rest := []) ⟨hx, hb, hml, hown, hts⟩ (c_Mo_nextBlock l dC dI H.size cI o a V hV 0 (lN x9.1) (nI x9.2) x (by have := hV.mn 0; omega) (x9.1 + 2 ^ (32 - x9.2)) (by have := k_pow (n := x9.2); omega) (hst x)) (cwV 2 hts (gV kw_859 kw_861 ks_37 kw_6 kw_862) rfl rfl rfl (by decide +kernel) ⟨Nat.le_of_ble_eq_true rfl, Nat.le_of_ble_eq_true rfl⟩) ⟨PcM.blind, va_recv (q0 := 0) hK hPc rfl rfl, PcM.use hPc hK hN hDc⟩ rfl rfl hl.1 rfl (lv_room (Nat.le_of_ble_eq_true rfl)) d_Mo_freeAt_89 ⟨Nat.le_of_ble_eq_true rfl, Nat.le_of_ble_eq_true rfl⟩) hS (fun q _ h => hFc q h) hFc (fun r89 u9 H9 H1 locs hH9 hv9 hp9 hB hz1 hk1 hS => ?_)
        obtain rfl : r89 = (bi (decide (skN V x (x9.1 + 2 ^ (32 - x9.2)) < (V.pre x + 2 ^ (32 - V.len x))))) := hp9
        obtain ⟨hP1, hK1, hD1⟩ := hB
        rw [hH9] at hP1
        obtain ⟨hP, hD⟩ := va_join (wr := []) (w1 := (wMo cI o a (vNx V 0 (lN x9.1) (nI x9.2) x (x9.1 + 2 ^ (32 - x9.2))))) hP hD [0, 1, 2, 3, 4, 5, 6, 7, 8, 9, 10, 11, 12, 13, 14, 15] [] rfl rfl (by decide) (by decide) hk1 hFc hP1 hD1
        clear hPc hDc hFc hP1 hD1 hK1 hk1 hz1 hv9 hH9
        generalize H1 = H at hP hS ⊢
        replace hP : va_P (dC, dI) classes [(o, .inr (5, [.int (nI (vNx V 0 (lN x9.1) (nI x9.2) x (x9.1 + 2 ^ (32 - x9.2))).tc), .ref (a 0), .ref (a 1), .ref (a 2), .ref (a 3), .ref (a 4), .ref (a 5), .ref (a 6), .ref (a 7), .ref (a 8), .ref (a 9), .ref (a 10), .int (nI (vNx V 0 (lN x9.1) (nI x9.2) x (x9.1 + 2 ^ (32 - x9.2))).ne), .ref (a 11), .ref (a 12), .ref (a 13), .ref (a 14), .long ((vNx V 0 (lN x9.1) (nI x9.2) x (x9.1 + 2 ^ (32 - x9.2))).fo), .int ((vNx V 0 (lN x9.1) (nI x9.2) x (x9.1 + 2 ^ (32 - x9.2))).fl)])), ((a 0), .inl (cI, 2, .inl (fun z9 => nI ((vNx V 0 (lN x9.1) (nI x9.2) x (x9.1 + 2 ^ (32 - x9.2))).mn z9)))), ((a 1), .inl (cI, 400, .inl (fun z9 => nI ((vNx V 0 (lN x9.1) (nI x9.2) x (x9.1 + 2 ^ (32 - x9.2))).pre z9)))), ((a 2), .inl (cI, 400, .inl (fun z9 => nI ((vNx V 0 (lN x9.1) (nI x9.2) x (x9.1 + 2 ^ (32 - x9.2))).len z9)))), ((a 3), .inl (cI, 400, .inl (fun z9 => pI ((vNx V 0 (lN x9.1) (nI x9.2) x (x9.1 + 2 ^ (32 - x9.2))).par z9)))), ((a 4), .inl (cI, 400, .inl (fun z9 => nI ((vNx V 0 (lN x9.1) (nI x9.2) x (x9.1 + 2 ^ (32 - x9.2))).lev z9)))), ((a 5), .inl (cI, 400, .inl (fun z9 => nI ((vNx V 0 (lN x9.1) (nI x9.2) x (x9.1 + 2 ^ (32 - x9.2))).hol z9)))), ((a 6), .inl (cI, 400, .inl (fun z9 => nI ((vNx V 0 (lN x9.1) (nI x9.2) x (x9.1 + 2 ^ (32 - x9.2))).sta z9)))), ((a 7), .inl (cI, 400, .inl (fun z9 => nI ((vNx V 0 (lN x9.1) (nI x9.2) x (x9.1 + 2 ^ (32 - x9.2))).en z9)))), ((a 8), .inl (cI, 2, .inl (fun z9 => nI ((vNx V 0 (lN x9.1) (nI x9.2) x (x9.1 + 2 ^ (32 - x9.2))).tdy z9)))), ((a 9), .inl (cI, 2, .inl (fun z9 => nI ((vNx V 0 (lN x9.1) (nI x9.2) x (x9.1 + 2 ^ (32 - x9.2))).dys z9)))), ((a 10), .inl (cI, 8, .inl (fun z9 => nI ((vNx V 0 (lN x9.1) (nI x9.2) x (x9.1 + 2 ^ (32 - x9.2))).pol z9)))), ((a 11), .inl (cI, 300, .inl ((vNx V 0 (lN x9.1) (nI x9.2) x (x9.1 + 2 ^ (32 - x9.2))).kd))), ((a 12), .inl (cI, 300, .inl ((vNx V 0 (lN x9.1) (nI x9.2) x (x9.1 + 2 ^ (32 - x9.2))).fi))), ((a 13), .inl (cI, 300, .inl ((vNx V 0 (lN x9.1) (nI x9.2) x (x9.1 + 2 ^ (32 - x9.2))).se))), ((a 14), .inl (cI, 300, .inl ((vNx V 0 (lN x9.1) (nI x9.2) x (x9.1 + 2 ^ (32 - x9.2))).th)))] H := hP.sub (ws' := [(o, .inr (5, [.int (nI (vNx V 0 (lN x9.1) (nI x9.2) x (x9.1 + 2 ^ (32 - x9.2))).tc), .ref (a 0), .ref (a 1), .ref (a 2), .ref (a 3), .ref (a 4), .ref (a 5), .ref (a 6), .ref (a 7), .ref (a 8), .ref (a 9), .ref (a 10), .int (nI (vNx V 0 (lN x9.1) (nI x9.2) x (x9.1 + 2 ^ (32 - x9.2))).ne), .ref (a 11), .ref (a 12), .ref (a 13), .ref (a 14), .long ((vNx V 0 (lN x9.1) (nI x9.2) x (x9.1 + 2 ^ (32 - x9.2))).fo), .int ((vNx V 0 (lN x9.1) (nI x9.2) x (x9.1 + 2 ^ (32 - x9.2))).fl)])), ((a 0), .inl (cI, 2, .inl (fun z9 => nI ((vNx V 0 (lN x9.1) (nI x9.2) x (x9.1 + 2 ^ (32 - x9.2))).mn z9)))), ((a 1), .inl (cI, 400, .inl (fun z9 => nI ((vNx V 0 (lN x9.1) (nI x9.2) x (x9.1 + 2 ^ (32 - x9.2))).pre z9)))), ((a 2), .inl (cI, 400, .inl (fun z9 => nI ((vNx V 0 (lN x9.1) (nI x9.2) x (x9.1 + 2 ^ (32 - x9.2))).len z9)))), ((a 3), .inl (cI, 400, .inl (fun z9 => pI ((vNx V 0 (lN x9.1) (nI x9.2) x (x9.1 + 2 ^ (32 - x9.2))).par z9)))), ((a 4), .inl (cI, 400, .inl (fun z9 => nI ((vNx V 0 (lN x9.1) (nI x9.2) x (x9.1 + 2 ^ (32 - x9.2))).lev z9)))), ((a 5), .inl (cI, 400, .inl (fun z9 => nI ((vNx V 0 (lN x9.1) (nI x9.2) x (x9.1 + 2 ^ (32 - x9.2))).hol z9)))), ((a 6), .inl (cI, 400, .inl (fun z9 => nI ((vNx V 0 (lN x9.1) (nI x9.2) x (x9.1 + 2 ^ (32 - x9.2))).sta z9)))), ((a 7), .inl (cI, 400, .inl (fun z9 => nI ((vNx V 0 (lN x9.1) (nI x9.2) x (x9.1 + 2 ^ (32 - x9.2))).en z9)))), ((a 8), .inl (cI, 2, .inl (fun z9 => nI ((vNx V 0 (lN x9.1) (nI x9.2) x (x9.1 + 2 ^ (32 - x9.2))).tdy z9)))), ((a 9), .inl (cI, 2, .inl (fun z9 => nI ((vNx V 0 (lN x9.1) (nI x9.2) x (x9.1 + 2 ^ (32 - x9.2))).dys z9)))), ((a 10), .inl (cI, 8, .inl (fun z9 => nI ((vNx V 0 (lN x9.1) (nI x9.2) x (x9.1 + 2 ^ (32 - x9.2))).pol z9)))), ((a 11), .inl (cI, 300, .inl ((vNx V 0 (lN x9.1) (nI x9.2) x (x9.1 + 2 ^ (32 - x9.2))).kd))), ((a 12), .inl (cI, 300, .inl ((vNx V 0 (lN x9.1) (nI x9.2) x (x9.1 + 2 ^ (32 - x9.2))).fi))), ((a 13), .inl (cI, 300, .inl ((vNx V 0 (lN x9.1) (nI x9.2) x (x9.1 + 2 ^ (32 - x9.2))).se))), ((a 14), .inl (cI, 300, .inl ((vNx V 0 (lN x9.1) (nI x9.2) x (x9.1 + 2 ^ (32 - x9.2))).th)))]) [0, 1, 2, 3, 4, 5, 6, 7, 8, 9, 10, 11, 12, 13, 14, 15] rfl
        replace hD : va_D A [(o, .inr (5, [.int (nI (vNx V 0 (lN x9.1) (nI x9.2) x (x9.1 + 2 ^ (32 - x9.2))).tc), .ref (a 0), .ref (a 1), .ref (a 2), .ref (a 3), .ref (a 4), .ref (a 5), .ref (a 6), .ref (a 7), .ref (a 8), .ref (a 9), .ref (a 10), .int (nI (vNx V 0 (lN x9.1) (nI x9.2) x (x9.1 + 2 ^ (32 - x9.2))).ne), .ref (a 11), .ref (a 12), .ref (a 13), .ref (a 14), .long ((vNx V 0 (lN x9.1) (nI x9.2) x (x9.1 + 2 ^ (32 - x9.2))).fo), .int ((vNx V 0 (lN x9.1) (nI x9.2) x (x9.1 + 2 ^ (32 - x9.2))).fl)])), ((a 0), .inl (cI, 2, .inl (fun z9 => nI ((vNx V 0 (lN x9.1) (nI x9.2) x (x9.1 + 2 ^ (32 - x9.2))).mn z9)))), ((a 1), .inl (cI, 400, .inl (fun z9 => nI ((vNx V 0 (lN x9.1) (nI x9.2) x (x9.1 + 2 ^ (32 - x9.2))).pre z9)))), ((a 2), .inl (cI, 400, .inl (fun z9 => nI ((vNx V 0 (lN x9.1) (nI x9.2) x (x9.1 + 2 ^ (32 - x9.2))).len z9)))), ((a 3), .inl (cI, 400, .inl (fun z9 => pI ((vNx V 0 (lN x9.1) (nI x9.2) x (x9.1 + 2 ^ (32 - x9.2))).par z9)))), ((a 4), .inl (cI, 400, .inl (fun z9 => nI ((vNx V 0 (lN x9.1) (nI x9.2) x (x9.1 + 2 ^ (32 - x9.2))).lev z9)))), ((a 5), .inl (cI, 400, .inl (fun z9 => nI ((vNx V 0 (lN x9.1) (nI x9.2) x (x9.1 + 2 ^ (32 - x9.2))).hol z9)))), ((a 6), .inl (cI, 400, .inl (fun z9 => nI ((vNx V 0 (lN x9.1) (nI x9.2) x (x9.1 + 2 ^ (32 - x9.2))).sta z9)))), ((a 7), .inl (cI, 400, .inl (fun z9 => nI ((vNx V 0 (lN x9.1) (nI x9.2) x (x9.1 + 2 ^ (32 - x9.2))).en z9)))), ((a 8), .inl (cI, 2, .inl (fun z9 => nI ((vNx V 0 (lN x9.1) (nI x9.2) x (x9.1 + 2 ^ (32 - x9.2))).tdy z9)))), ((a 9), .inl (cI, 2, .inl (fun z9 => nI ((vNx V 0 (lN x9.1) (nI x9.2) x (x9.1 + 2 ^ (32 - x9.2))).dys z9)))), ((a 10), .inl (cI, 8, .inl (fun z9 => nI ((vNx V 0 (lN x9.1) (nI x9.2) x (x9.1 + 2 ^ (32 - x9.2))).pol z9)))), ((a 11), .inl (cI, 300, .inl ((vNx V 0 (lN x9.1) (nI x9.2) x (x9.1 + 2 ^ (32 - x9.2))).kd))), ((a 12), .inl (cI, 300, .inl ((vNx V 0 (lN x9.1) (nI x9.2) x (x9.1 + 2 ^ (32 - x9.2))).fi))), ((a 13), .inl (cI, 300, .inl ((vNx V 0 (lN x9.1) (nI x9.2) x (x9.1 + 2 ^ (32 - x9.2))).se))), ((a 14), .inl (cI, 300, .inl ((vNx V 0 (lN x9.1) (nI x9.2) x (x9.1 + 2 ^ (32 - x9.2))).th)))] := hD.sub (ws' := [(o, .inr (5, [.int (nI (vNx V 0 (lN x9.1) (nI x9.2) x (x9.1 + 2 ^ (32 - x9.2))).tc), .ref (a 0), .ref (a 1), .ref (a 2), .ref (a 3), .ref (a 4), .ref (a 5), .ref (a 6), .ref (a 7), .ref (a 8), .ref (a 9), .ref (a 10), .int (nI (vNx V 0 (lN x9.1) (nI x9.2) x (x9.1 + 2 ^ (32 - x9.2))).ne), .ref (a 11), .ref (a 12), .ref (a 13), .ref (a 14), .long ((vNx V 0 (lN x9.1) (nI x9.2) x (x9.1 + 2 ^ (32 - x9.2))).fo), .int ((vNx V 0 (lN x9.1) (nI x9.2) x (x9.1 + 2 ^ (32 - x9.2))).fl)])), ((a 0), .inl (cI, 2, .inl (fun z9 => nI ((vNx V 0 (lN x9.1) (nI x9.2) x (x9.1 + 2 ^ (32 - x9.2))).mn z9)))), ((a 1), .inl (cI, 400, .inl (fun z9 => nI ((vNx V 0 (lN x9.1) (nI x9.2) x (x9.1 + 2 ^ (32 - x9.2))).pre z9)))), ((a 2), .inl (cI, 400, .inl (fun z9 => nI ((vNx V 0 (lN x9.1) (nI x9.2) x (x9.1 + 2 ^ (32 - x9.2))).len z9)))), ((a 3), .inl (cI, 400, .inl (fun z9 => pI ((vNx V 0 (lN x9.1) (nI x9.2) x (x9.1 + 2 ^ (32 - x9.2))).par z9)))), ((a 4), .inl (cI, 400, .inl (fun z9 => nI ((vNx V 0 (lN x9.1) (nI x9.2) x (x9.1 + 2 ^ (32 - x9.2))).lev z9)))), ((a 5), .inl (cI, 400, .inl (fun z9 => nI ((vNx V 0 (lN x9.1) (nI x9.2) x (x9.1 + 2 ^ (32 - x9.2))).hol z9)))), ((a 6), .inl (cI, 400, .inl (fun z9 => nI ((vNx V 0 (lN x9.1) (nI x9.2) x (x9.1 + 2 ^ (32 - x9.2))).sta z9)))), ((a 7), .inl (cI, 400, .inl (fun z9 => nI ((vNx V 0 (lN x9.1) (nI x9.2) x (x9.1 + 2 ^ (32 - x9.2))).en z9)))), ((a 8), .inl (cI, 2, .inl (fun z9 => nI ((vNx V 0 (lN x9.1) (nI x9.2) x (x9.1 + 2 ^ (32 - x9.2))).tdy z9)))), ((a 9), .inl (cI, 2, .inl (fun z9 => nI ((vNx V 0 (lN x9.1) (nI x9.2) x (x9.1 + 2 ^ (32 - x9.2))).dys z9)))), ((a 10), .inl (cI, 8, .inl (fun z9 => nI ((vNx V 0 (lN x9.1) (nI x9.2) x (x9.1 + 2 ^ (32 - x9.2))).pol z9)))), ((a 11), .inl (cI, 300, .inl ((vNx V 0 (lN x9.1) (nI x9.2) x (x9.1 + 2 ^ (32 - x9.2))).kd))), ((a 12), .inl (cI, 300, .inl ((vNx V 0 (lN x9.1) (nI x9.2) x (x9.1 + 2 ^ (32 - x9.2))).fi))), ((a 13), .inl (cI, 300, .inl ((vNx V 0 (lN x9.1) (nI x9.2) x (x9.1 + 2 ^ (32 - x9.2))).se))), ((a 14), .inl (cI, 300, .inl ((vNx V 0 (lN x9.1) (nI x9.2) x (x9.1 + 2 ^ (32 - x9.2))).th)))]) [0, 1, 2, 3, 4, 5, 6, 7, 8, 9, 10, 11, 12, 13, 14, 15] (by decide) rfl
        refine lv_istore hx hb d_Mo_freeAt_92 hl (by decide) rfl (fun ls hl => ?_)
        replace hl : lv_has ls 6 [(5, .int (bi (decide (skN V x (x9.1 + 2 ^ (32 - x9.2)) < (V.pre x + 2 ^ (32 - V.len x)))))), (3, .long (lN sm)), (0, .ref o), (1, .int (nI x)), (2, .int (nI n))] := hl
        refine lv_goto hx hb d_Mo_freeAt_94 rfl ?_
        replace hP : va_P (dC, dI) classes (wMo cI o a (vNx V 0 (lN x9.1) (nI x9.2) x (x9.1 + 2 ^ (32 - x9.2)))) H := hP
        replace hD : va_D A (wMo cI o a (vNx V 0 (lN x9.1) (nI x9.2) x (x9.1 + 2 ^ (32 - x9.2)))) := hD
        refine ih _ _ _ _ _ _ _ hbk ?_ ?_ ?_ hP hD hS hl
        · have := k_pow (n := x9.2); omega
        · exact (by rw [← hres]; exact congrArg (List.foldl (frS n) · L) (show _ = frS n sm x9 by unfold frS; rw [if_neg (by omega)]))
        · exact hlst
      have h66 := mt (nI_ltI (by omega) (by omega)).mpr h66
      refine lv_lconst (v := 1) hx hb d_Mo_freeAt_69 (by decide) ?_
      refine lv_iload_n hx hb d_Mo_freeAt_70 rfl (lv_at hl 4 rfl) ?_
      refine lv_aload_n hx hb d_Mo_freeAt_71 rfl (lv_at hl 2 rfl) ?_
      refine va_get (D := (dC, dI)) (ci := 5) (v := .int (nI x9.2)) (C := R_Mo) (T := F_Mo) (N := 19) hx hb hts u_Mo hown hK hP 0 rfl rfl 18 (by decide) (hts _ kw_732) (fun _ h9 => h9) rfl d_Mo_freeAt_72 ?_
      refine lv_isub hx hb d_Mo_freeAt_75 ?_
      refine lv_lshl hx hb d_Mo_freeAt_76 rfl ?_
      refine x_topl (y := (lN (2 ^ (n - x9.2)))) (k_shl (by omega) (by omega)) ?_
      refine lv_goto hx hb d_Mo_freeAt_77 rfl ?_
      refine lv_ladd hx hb d_Mo_freeAt_81 ?_
      refine x_topl (y := (lN (sm + 2 ^ (n - x9.2)))) (lN_add _ _) ?_
      refine lv_lstore_n hx hb d_Mo_freeAt_82 rfl hl (by decide) rfl (fun ls hl => ?_)
      replace hl : lv_has ls 6 [(3, .long (lN (sm + 2 ^ (n - x9.2)))), (5, .int (bi (decide (skN V x f9 < (V.pre x + 2 ^ (32 - V.len x)))))), (0, .ref o), (1, .int (nI x)), (2, .int (nI n))] := hl
      refine lv_aload_n hx hb d_Mo_freeAt_83 rfl (lv_at hl 2 rfl) ?_
      refine lv_iload_n hx hb d_Mo_freeAt_84 rfl (lv_at hl 3 rfl) ?_
      refine lv_aload_n hx hb d_Mo_freeAt_85 rfl (lv_at hl 2 rfl) ?_
      refine vp_callSl (W.runV (b := o) (As := []) (rest := [.int (nI x), .ref o]) ⟨hx, hb, hml, hown, hts⟩ (c_Mo_behind l dC dI cI o a V hV 0 x9.1 x9.2 hx33) (cwV 0 hts (gV kw_871 kw_873 ks_40 kw_6 kw_874) rfl rfl rfl (by decide +kernel) ⟨Nat.le_of_ble_eq_true rfl, Nat.le_of_ble_eq_true rfl⟩) ⟨PcS.blind, va_recv (q0 := 0) hK hP rfl rfl, PcS.use hP hK hN⟩ rfl rfl hl.1 rfl (lv_room (Nat.le_of_ble_eq_true rfl)) d_Mo_freeAt_86 ⟨Nat.zero_le _, Nat.zero_le _⟩) (fun r86 hr86 => ?_)
      obtain rfl : r86 = (lN (x9.1 + 2 ^ (32 - x9.2))) := hr86
      have hPc := hP.sub (ws' := (wMo cI o a (vFn V 0 (lN x9.1) (nI x9.2)))) [0, 1, 2, 3, 4, 5, 6, 7, 8, 9, 10, 11, 12, 13, 14, 15] rfl
      have hDc := hD.sub (ws' := (wMo cI o a (vFn V 0 (lN x9.1) (nI x9.2)))) [0, 1, 2, 3, 4, 5, 6, 7, 8, 9, 10, 11, 12, 13, 14, 15] (by decide) rfl
      have hFc := va_free (wc := (wMo cI o a (vFn V 0 (lN x9.1) (nI x9.2)))) hD hS hA [0, 1, 2, 3, 4, 5, 6, 7, 8, 9, 10, 11, 12, 13, 14, 15] rfl
      refine va_calli (va_runV (b := o) (As := [.int (nI x), .long (lN (x9.1 + 2 ^ (32 - x9.2)))]) (rest := []) ⟨hx, hb, hml, hown, hts⟩ (c_Mo_nextBlock l dC dI H.size cI o a V hV 0 (lN x9.1) (nI x9.2) x (by have := hV.mn 0; omega) (x9.1 + 2 ^ (32 - x9.2)) (by have := k_pow (n := x9.2); omega) (hst x)) (cwV 2 hts (gV kw_859 kw_861 ks_37 kw_6 kw_862) rfl rfl rfl (by decide +kernel) ⟨Nat.le_of_ble_eq_true rfl, Nat.le_of_ble_eq_true rfl⟩) ⟨PcM.blind, va_recv (q0 := 0) hK hPc rfl rfl, PcM.use hPc hK hN hDc⟩ rfl rfl hl.1 rfl (lv_room (Nat.le_of_ble_eq_true rfl)) d_Mo_freeAt_89 ⟨Nat.le_of_ble_eq_true rfl, Nat.le_of_ble_eq_true rfl⟩) hS (fun q _ h => hFc q h) hFc (fun r89 u9 H9 H1 locs hH9 hv9 hp9 hB hz1 hk1 hS => ?_)
      obtain rfl : r89 = (bi (decide (skN V x (x9.1 + 2 ^ (32 - x9.2)) < (V.pre x + 2 ^ (32 - V.len x))))) := hp9
      obtain ⟨hP1, hK1, hD1⟩ := hB
      rw [hH9] at hP1
      obtain ⟨hP, hD⟩ := va_join (wr := []) (w1 := (wMo cI o a (vNx V 0 (lN x9.1) (nI x9.2) x (x9.1 + 2 ^ (32 - x9.2))))) hP hD [0, 1, 2, 3, 4, 5, 6, 7, 8, 9, 10, 11, 12, 13, 14, 15] [] rfl rfl (by decide) (by decide) hk1 hFc hP1 hD1
      clear hPc hDc hFc hP1 hD1 hK1 hk1 hz1 hv9 hH9
      generalize H1 = H at hP hS ⊢
      replace hP : va_P (dC, dI) classes [(o, .inr (5, [.int (nI (vNx V 0 (lN x9.1) (nI x9.2) x (x9.1 + 2 ^ (32 - x9.2))).tc), .ref (a 0), .ref (a 1), .ref (a 2), .ref (a 3), .ref (a 4), .ref (a 5), .ref (a 6), .ref (a 7), .ref (a 8), .ref (a 9), .ref (a 10), .int (nI (vNx V 0 (lN x9.1) (nI x9.2) x (x9.1 + 2 ^ (32 - x9.2))).ne), .ref (a 11), .ref (a 12), .ref (a 13), .ref (a 14), .long ((vNx V 0 (lN x9.1) (nI x9.2) x (x9.1 + 2 ^ (32 - x9.2))).fo), .int ((vNx V 0 (lN x9.1) (nI x9.2) x (x9.1 + 2 ^ (32 - x9.2))).fl)])), ((a 0), .inl (cI, 2, .inl (fun z9 => nI ((vNx V 0 (lN x9.1) (nI x9.2) x (x9.1 + 2 ^ (32 - x9.2))).mn z9)))), ((a 1), .inl (cI, 400, .inl (fun z9 => nI ((vNx V 0 (lN x9.1) (nI x9.2) x (x9.1 + 2 ^ (32 - x9.2))).pre z9)))), ((a 2), .inl (cI, 400, .inl (fun z9 => nI ((vNx V 0 (lN x9.1) (nI x9.2) x (x9.1 + 2 ^ (32 - x9.2))).len z9)))), ((a 3), .inl (cI, 400, .inl (fun z9 => pI ((vNx V 0 (lN x9.1) (nI x9.2) x (x9.1 + 2 ^ (32 - x9.2))).par z9)))), ((a 4), .inl (cI, 400, .inl (fun z9 => nI ((vNx V 0 (lN x9.1) (nI x9.2) x (x9.1 + 2 ^ (32 - x9.2))).lev z9)))), ((a 5), .inl (cI, 400, .inl (fun z9 => nI ((vNx V 0 (lN x9.1) (nI x9.2) x (x9.1 + 2 ^ (32 - x9.2))).hol z9)))), ((a 6), .inl (cI, 400, .inl (fun z9 => nI ((vNx V 0 (lN x9.1) (nI x9.2) x (x9.1 + 2 ^ (32 - x9.2))).sta z9)))), ((a 7), .inl (cI, 400, .inl (fun z9 => nI ((vNx V 0 (lN x9.1) (nI x9.2) x (x9.1 + 2 ^ (32 - x9.2))).en z9)))), ((a 8), .inl (cI, 2, .inl (fun z9 => nI ((vNx V 0 (lN x9.1) (nI x9.2) x (x9.1 + 2 ^ (32 - x9.2))).tdy z9)))), ((a 9), .inl (cI, 2, .inl (fun z9 => nI ((vNx V 0 (lN x9.1) (nI x9.2) x (x9.1 + 2 ^ (32 - x9.2))).dys z9)))), ((a 10), .inl (cI, 8, .inl (fun z9 => nI ((vNx V 0 (lN x9.1) (nI x9.2) x (x9.1 + 2 ^ (32 - x9.2))).pol z9)))), ((a 11), .inl (cI, 300, .inl ((vNx V 0 (lN x9.1) (nI x9.2) x (x9.1 + 2 ^ (32 - x9.2))).kd))), ((a 12), .inl (cI, 300, .inl ((vNx V 0 (lN x9.1) (nI x9.2) x (x9.1 + 2 ^ (32 - x9.2))).fi))), ((a 13), .inl (cI, 300, .inl ((vNx V 0 (lN x9.1) (nI x9.2) x (x9.1 + 2 ^ (32 - x9.2))).se))), ((a 14), .inl (cI, 300, .inl ((vNx V 0 (lN x9.1) (nI x9.2) x (x9.1 + 2 ^ (32 - x9.2))).th)))] H := hP.sub (ws' := [(o, .inr (5, [.int (nI (vNx V 0 (lN x9.1) (nI x9.2) x (x9.1 + 2 ^ (32 - x9.2))).tc), .ref (a 0), .ref (a 1), .ref (a 2), .ref (a 3), .ref (a 4), .ref (a 5), .ref (a 6), .ref (a 7), .ref (a 8), .ref (a 9), .ref (a 10), .int (nI (vNx V 0 (lN x9.1) (nI x9.2) x (x9.1 + 2 ^ (32 - x9.2))).ne), .ref (a 11), .ref (a 12), .ref (a 13), .ref (a 14), .long ((vNx V 0 (lN x9.1) (nI x9.2) x (x9.1 + 2 ^ (32 - x9.2))).fo), .int ((vNx V 0 (lN x9.1) (nI x9.2) x (x9.1 + 2 ^ (32 - x9.2))).fl)])), ((a 0), .inl (cI, 2, .inl (fun z9 => nI ((vNx V 0 (lN x9.1) (nI x9.2) x (x9.1 + 2 ^ (32 - x9.2))).mn z9)))), ((a 1), .inl (cI, 400, .inl (fun z9 => nI ((vNx V 0 (lN x9.1) (nI x9.2) x (x9.1 + 2 ^ (32 - x9.2))).pre z9)))), ((a 2), .inl (cI, 400, .inl (fun z9 => nI ((vNx V 0 (lN x9.1) (nI x9.2) x (x9.1 + 2 ^ (32 - x9.2))).len z9)))), ((a 3), .inl (cI, 400, .inl (fun z9 => pI ((vNx V 0 (lN x9.1) (nI x9.2) x (x9.1 + 2 ^ (32 - x9.2))).par z9)))), ((a 4), .inl (cI, 400, .inl (fun z9 => nI ((vNx V 0 (lN x9.1) (nI x9.2) x (x9.1 + 2 ^ (32 - x9.2))).lev z9)))), ((a 5), .inl (cI, 400, .inl (fun z9 => nI ((vNx V 0 (lN x9.1) (nI x9.2) x (x9.1 + 2 ^ (32 - x9.2))).hol z9)))), ((a 6), .inl (cI, 400, .inl (fun z9 => nI ((vNx V 0 (lN x9.1) (nI x9.2) x (x9.1 + 2 ^ (32 - x9.2))).sta z9)))), ((a 7), .inl (cI, 400, .inl (fun z9 => nI ((vNx V 0 (lN x9.1) (nI x9.2) x (x9.1 + 2 ^ (32 - x9.2))).en z9)))), ((a 8), .inl (cI, 2, .inl (fun z9 => nI ((vNx V 0 (lN x9.1) (nI x9.2) x (x9.1 + 2 ^ (32 - x9.2))).tdy z9)))), ((a 9), .inl (cI, 2, .inl (fun z9 => nI ((vNx V 0 (lN x9.1) (nI x9.2) x (x9.1 + 2 ^ (32 - x9.2))).dys z9)))), ((a 10), .inl (cI, 8, .inl (fun z9 => nI ((vNx V 0 (lN x9.1) (nI x9.2) x (x9.1 + 2 ^ (32 - x9.2))).pol z9)))), ((a 11), .inl (cI, 300, .inl ((vNx V 0 (lN x9.1) (nI x9.2) x (x9.1 + 2 ^ (32 - x9.2))).kd))), ((a 12), .inl (cI, 300, .inl ((vNx V 0 (lN x9.1) (nI x9.2) x (x9.1 + 2 ^ (32 - x9.2))).fi))), ((a 13), .inl (cI, 300, .inl ((vNx V 0 (lN x9.1) (nI x9.2) x (x9.1 + 2 ^ (32 - x9.2))).se))), ((a 14), .inl (cI, 300, .inl ((vNx V 0 (lN x9.1) (nI x9.2) x (x9.1 + 2 ^ (32 - x9.2))).th)))]) [0, 1, 2, 3, 4, 5, 6, 7, 8, 9, 10, 11, 12, 13, 14, 15] rfl
      replace hD : va_D A [(o, .inr (5, [.int (nI (vNx V 0 (lN x9.1) (nI x9.2) x (x9.1 + 2 ^ (32 - x9.2))).tc), .ref (a 0), .ref (a 1), .ref (a 2), .ref (a 3), .ref (a 4), .ref (a 5), .ref (a 6), .ref (a 7), .ref (a 8), .ref (a 9), .ref (a 10), .int (nI (vNx V 0 (lN x9.1) (nI x9.2) x (x9.1 + 2 ^ (32 - x9.2))).ne), .ref (a 11), .ref (a 12), .ref (a 13), .ref (a 14), .long ((vNx V 0 (lN x9.1) (nI x9.2) x (x9.1 + 2 ^ (32 - x9.2))).fo), .int ((vNx V 0 (lN x9.1) (nI x9.2) x (x9.1 + 2 ^ (32 - x9.2))).fl)])), ((a 0), .inl (cI, 2, .inl (fun z9 => nI ((vNx V 0 (lN x9.1) (nI x9.2) x (x9.1 + 2 ^ (32 - x9.2))).mn z9)))), ((a 1), .inl (cI, 400, .inl (fun z9 => nI ((vNx V 0 (lN x9.1) (nI x9.2) x (x9.1 + 2 ^ (32 - x9.2))).pre z9)))), ((a 2), .inl (cI, 400, .inl (fun z9 => nI ((vNx V 0 (lN x9.1) (nI x9.2) x (x9.1 + 2 ^ (32 - x9.2))).len z9)))), ((a 3), .inl (cI, 400, .inl (fun z9 => pI ((vNx V 0 (lN x9.1) (nI x9.2) x (x9.1 + 2 ^ (32 - x9.2))).par z9)))), ((a 4), .inl (cI, 400, .inl (fun z9 => nI ((vNx V 0 (lN x9.1) (nI x9.2) x (x9.1 + 2 ^ (32 - x9.2))).lev z9)))), ((a 5), .inl (cI, 400, .inl (fun z9 => nI ((vNx V 0 (lN x9.1) (nI x9.2) x (x9.1 + 2 ^ (32 - x9.2))).hol z9)))), ((a 6), .inl (cI, 400, .inl (fun z9 => nI ((vNx V 0 (lN x9.1) (nI x9.2) x (x9.1 + 2 ^ (32 - x9.2))).sta z9)))), ((a 7), .inl (cI, 400, .inl (fun z9 => nI ((vNx V 0 (lN x9.1) (nI x9.2) x (x9.1 + 2 ^ (32 - x9.2))).en z9)))), ((a 8), .inl (cI, 2, .inl (fun z9 => nI ((vNx V 0 (lN x9.1) (nI x9.2) x (x9.1 + 2 ^ (32 - x9.2))).tdy z9)))), ((a 9), .inl (cI, 2, .inl (fun z9 => nI ((vNx V 0 (lN x9.1) (nI x9.2) x (x9.1 + 2 ^ (32 - x9.2))).dys z9)))), ((a 10), .inl (cI, 8, .inl (fun z9 => nI ((vNx V 0 (lN x9.1) (nI x9.2) x (x9.1 + 2 ^ (32 - x9.2))).pol z9)))), ((a 11), .inl (cI, 300, .inl ((vNx V 0 (lN x9.1) (nI x9.2) x (x9.1 + 2 ^ (32 - x9.2))).kd))), ((a 12), .inl (cI, 300, .inl ((vNx V 0 (lN x9.1) (nI x9.2) x (x9.1 + 2 ^ (32 - x9.2))).fi))), ((a 13), .inl (cI, 300, .inl ((vNx V 0 (lN x9.1) (nI x9.2) x (x9.1 + 2 ^ (32 - x9.2))).se))), ((a 14), .inl (cI, 300, .inl ((vNx V 0 (lN x9.1) (nI x9.2) x (x9.1 + 2 ^ (32 - x9.2))).th)))] := hD.sub (ws' := [(o, .inr (5, [.int (nI (vNx V 0 (lN x9.1) (nI x9.2) x (x9.1 + 2 ^ (32 - x9.2))).tc), .ref (a 0), .ref (a 1), .ref (a 2), .ref (a 3), .ref (a 4), .ref (a 5), .ref (a 6), .ref (a 7), .ref (a 8), .ref (a 9), .ref (a 10), .int (nI (vNx V 0 (lN x9.1) (nI x9.2) x (x9.1 + 2 ^ (32 - x9.2))).ne), .ref (a 11), .ref (a 12), .ref (a 13), .ref (a 14), .long ((vNx V 0 (lN x9.1) (nI x9.2) x (x9.1 + 2 ^ (32 - x9.2))).fo), .int ((vNx V 0 (lN x9.1) (nI x9.2) x (x9.1 + 2 ^ (32 - x9.2))).fl)])), ((a 0), .inl (cI, 2, .inl (fun z9 => nI ((vNx V 0 (lN x9.1) (nI x9.2) x (x9.1 + 2 ^ (32 - x9.2))).mn z9)))), ((a 1), .inl (cI, 400, .inl (fun z9 => nI ((vNx V 0 (lN x9.1) (nI x9.2) x (x9.1 + 2 ^ (32 - x9.2))).pre z9)))), ((a 2), .inl (cI, 400, .inl (fun z9 => nI ((vNx V 0 (lN x9.1) (nI x9.2) x (x9.1 + 2 ^ (32 - x9.2))).len z9)))), ((a 3), .inl (cI, 400, .inl (fun z9 => pI ((vNx V 0 (lN x9.1) (nI x9.2) x (x9.1 + 2 ^ (32 - x9.2))).par z9)))), ((a 4), .inl (cI, 400, .inl (fun z9 => nI ((vNx V 0 (lN x9.1) (nI x9.2) x (x9.1 + 2 ^ (32 - x9.2))).lev z9)))), ((a 5), .inl (cI, 400, .inl (fun z9 => nI ((vNx V 0 (lN x9.1) (nI x9.2) x (x9.1 + 2 ^ (32 - x9.2))).hol z9)))), ((a 6), .inl (cI, 400, .inl (fun z9 => nI ((vNx V 0 (lN x9.1) (nI x9.2) x (x9.1 + 2 ^ (32 - x9.2))).sta z9)))), ((a 7), .inl (cI, 400, .inl (fun z9 => nI ((vNx V 0 (lN x9.1) (nI x9.2) x (x9.1 + 2 ^ (32 - x9.2))).en z9)))), ((a 8), .inl (cI, 2, .inl (fun z9 => nI ((vNx V 0 (lN x9.1) (nI x9.2) x (x9.1 + 2 ^ (32 - x9.2))).tdy z9)))), ((a 9), .inl (cI, 2, .inl (fun z9 => nI ((vNx V 0 (lN x9.1) (nI x9.2) x (x9.1 + 2 ^ (32 - x9.2))).dys z9)))), ((a 10), .inl (cI, 8, .inl (fun z9 => nI ((vNx V 0 (lN x9.1) (nI x9.2) x (x9.1 + 2 ^ (32 - x9.2))).pol z9)))), ((a 11), .inl (cI, 300, .inl ((vNx V 0 (lN x9.1) (nI x9.2) x (x9.1 + 2 ^ (32 - x9.2))).kd))), ((a 12), .inl (cI, 300, .inl ((vNx V 0 (lN x9.1) (nI x9.2) x (x9.1 + 2 ^ (32 - x9.2))).fi))), ((a 13), .inl (cI, 300, .inl ((vNx V 0 (lN x9.1) (nI x9.2) x (x9.1 + 2 ^ (32 - x9.2))).se))), ((a 14), .inl (cI, 300, .inl ((vNx V 0 (lN x9.1) (nI x9.2) x (x9.1 + 2 ^ (32 - x9.2))).th)))]) [0, 1, 2, 3, 4, 5, 6, 7, 8, 9, 10, 11, 12, 13, 14, 15] (by decide) rfl
      refine lv_istore hx hb d_Mo_freeAt_92 hl (by decide) rfl (fun ls hl => ?_)
      replace hl : lv_has ls 6 [(5, .int (bi (decide (skN V x (x9.1 + 2 ^ (32 - x9.2)) < (V.pre x + 2 ^ (32 - V.len x)))))), (3, .long (lN (sm + 2 ^ (n - x9.2)))), (0, .ref o), (1, .int (nI x)), (2, .int (nI n))] := hl
      refine lv_goto hx hb d_Mo_freeAt_94 rfl ?_
      replace hP : va_P (dC, dI) classes (wMo cI o a (vNx V 0 (lN x9.1) (nI x9.2) x (x9.1 + 2 ^ (32 - x9.2)))) H := hP
      replace hD : va_D A (wMo cI o a (vNx V 0 (lN x9.1) (nI x9.2) x (x9.1 + 2 ^ (32 - x9.2)))) := hD
      refine ih _ _ _ _ _ _ _ hbk ?_ ?_ ?_ hP hD hS hl
      · have := k_pow (n := x9.2); omega
      · exact (by rw [← hres]; exact congrArg (List.foldl (frS n) · L) (show _ = frS n sm x9 by unfold frS; rw [if_pos (by omega)]))
      · exact hlst
  have h7 := bi_d.mp h7
  refine lv_iconst (v := 1) hx hb d_Mo_freeAt_10 (by decide) ?_
  refine lv_goto hx hb d_Mo_freeAt_11 rfl ?_
  refine va_put (D := (dC, dI)) (ci := 5) (v := .int 1) (ty := .int) (C := R_Mo) (T := F_Mo) (N := 19) hx hb hts u_Mo t_Mo t_Mo_ok n_Mo hown hK hP hD hS 0 rfl rfl 0 (by decide) (hts _ kw_714) (fun _ h9 => h9) rfl (by decide +kernel) rfl rfl (Nat.le_of_ble_eq_true rfl) d_Mo_freeAt_29 (fun H locs hP hD hS => ?_)
  replace hP : va_P (dC, dI) classes [(o, .inr (5, [.int 1, .ref (a 0), .ref (a 1), .ref (a 2), .ref (a 3), .ref (a 4), .ref (a 5), .ref (a 6), .ref (a 7), .ref (a 8), .ref (a 9), .ref (a 10), .int (nI V.ne), .ref (a 11), .ref (a 12), .ref (a 13), .ref (a 14), .long V.fo, .int V.fl])), ((a 0), .inl (cI, 2, .inl (fun z9 => nI (V.mn z9)))), ((a 1), .inl (cI, 400, .inl (fun z9 => nI (V.pre z9)))), ((a 2), .inl (cI, 400, .inl (fun z9 => nI (V.len z9)))), ((a 3), .inl (cI, 400, .inl (fun z9 => pI (V.par z9)))), ((a 4), .inl (cI, 400, .inl (fun z9 => nI (V.lev z9)))), ((a 5), .inl (cI, 400, .inl (fun z9 => nI (V.hol z9)))), ((a 6), .inl (cI, 400, .inl (fun z9 => nI (V.sta z9)))), ((a 7), .inl (cI, 400, .inl (fun z9 => nI (V.en z9)))), ((a 8), .inl (cI, 2, .inl (fun z9 => nI (V.tdy z9)))), ((a 9), .inl (cI, 2, .inl (fun z9 => nI (V.dys z9)))), ((a 10), .inl (cI, 8, .inl (fun z9 => nI (V.pol z9)))), ((a 11), .inl (cI, 300, .inl V.kd)), ((a 12), .inl (cI, 300, .inl V.fi)), ((a 13), .inl (cI, 300, .inl V.se)), ((a 14), .inl (cI, 300, .inl V.th))] H := hP
  replace hD : va_D A [(o, .inr (5, [.int 1, .ref (a 0), .ref (a 1), .ref (a 2), .ref (a 3), .ref (a 4), .ref (a 5), .ref (a 6), .ref (a 7), .ref (a 8), .ref (a 9), .ref (a 10), .int (nI V.ne), .ref (a 11), .ref (a 12), .ref (a 13), .ref (a 14), .long V.fo, .int V.fl])), ((a 0), .inl (cI, 2, .inl (fun z9 => nI (V.mn z9)))), ((a 1), .inl (cI, 400, .inl (fun z9 => nI (V.pre z9)))), ((a 2), .inl (cI, 400, .inl (fun z9 => nI (V.len z9)))), ((a 3), .inl (cI, 400, .inl (fun z9 => pI (V.par z9)))), ((a 4), .inl (cI, 400, .inl (fun z9 => nI (V.lev z9)))), ((a 5), .inl (cI, 400, .inl (fun z9 => nI (V.hol z9)))), ((a 6), .inl (cI, 400, .inl (fun z9 => nI (V.sta z9)))), ((a 7), .inl (cI, 400, .inl (fun z9 => nI (V.en z9)))), ((a 8), .inl (cI, 2, .inl (fun z9 => nI (V.tdy z9)))), ((a 9), .inl (cI, 2, .inl (fun z9 => nI (V.dys z9)))), ((a 10), .inl (cI, 8, .inl (fun z9 => nI (V.pol z9)))), ((a 11), .inl (cI, 300, .inl V.kd)), ((a 12), .inl (cI, 300, .inl V.fi)), ((a 13), .inl (cI, 300, .inl V.se)), ((a 14), .inl (cI, 300, .inl V.th))] := hD
  refine lv_aload_n hx hb d_Mo_freeAt_32 rfl (lv_at hl 0 rfl) ?_
  refine va_get (D := (dC, dI)) (ci := 5) (v := .int 1) (C := R_Mo) (T := F_Mo) (N := 19) hx hb hts u_Mo hown hK hP 0 rfl rfl 0 (by decide) (hts _ kw_714) (fun _ h9 => h9) rfl d_Mo_freeAt_33 ?_
  refine lv_if_le hx hb d_Mo_freeAt_36 rfl (fun h9 => absurd h9 (by decide)) (fun _ => ?_)
  refine lv_lconst (v := 0) hx hb d_Mo_freeAt_39 (by decide) ?_
  have e9 : mfdT6 V x n = 1 := by unfold mfdT6; rw [if_neg h7]
  have e8 : mfrR V x n = 0 := by unfold mfrR; rw [if_neg (fun q => h7 q.1)]
  have e7 : mfrS V x n = V := by unfold mfrS; rw [if_neg (fun q => h7 q.1)]
  have hP9 : va_P (dC, dI) classes (wMo cI o a (vFn V (mfdT6 V x n) (mfrS V x n).fo (mfrS V x n).fl)) H := by rw [e9, e7]; exact hP
  have hD9 : va_D A (wMo cI o a (vFn V (mfdT6 V x n) (mfrS V x n).fo (mfrS V x n).fl)) := by rw [e9, e7]; exact hD
  exact W.lret (v := 0) hx hb hr (fun t ht hW => ⟨⟨0, (), rfl, (by first | (rw [e8]; done) | (rw [e8]; rfl)), by rw [ht]; exact hP9, va_K.moved hW.alike hK, hD9⟩, hS.F ht⟩) hS.2.2 d_Mo_freeAt_40
set_option maxHeartbeats 4000000 in
set_option maxRecDepth 100000 in
theorem c_Mo_walk (l : Launch) (dC : Nat → ClassId) (dI : Nat → Nat → Nat) (sz : Nat) (cI : ClassId) (o : Nat) (a : Nat → Nat) (V : MS) (hV : MSok V) (t : Nat) (fo : Int64) (fl : Int32) (r : Nat) (hr0 : r < 400) (kk : Option Nat) (hkk : ∀ j, kk = some j → j < 2147483648) (hln : (blkL V r).length < 2147483648) (hst : (V.pre r + 2 ^ (32 - V.len r)) ≤ 4294967296) : Met l y_Mo_walk (.code y_Mo_walk b_Mo_walk 5 (some .int) :: wG) ({ frames := 5, cells := 0, slots := 0, locals := 120 }) (PcM (dC, dI) [(cI, .int)] (wMo cI o a (vFn V t fo fl)) [.ref o, .int (nI r), .int (pI kk)] sz) (QmI (dC, dI) [(cI, .int)] (wMo cI o a (vFn V t fo fl)) (wMo cI o a (vFn V t (wkF kk (blkL V r) 0 fo fl).2.2.1 (wkF kk (blkL V r) 0 fo fl).2.2.2)) sz (wkR kk (wkF kk (blkL V r) 0 fo fl))) 0 0 (va_A (wMo cI o a (vFn V t fo fl)) sz) := by
  refine Met.ofW (cc := b_Mo_walk) (maxL := 5) (ret := (some .int)) (by decide) rfl ?_
  intro pg eg s mg ag bg meth cg s₁ B hml hv
  obtain ⟨rfl, hsz, hP, hK, hD0, hN⟩ := hv
  have hx := B.exec
  have hb := B.bytes
  have hr := B.returns
  have hlocks := B.notSynchronized
  have hts : ∀ w9 ∈ wG, w9.before ([.ref o, .int (nI r), .int (pI kk)] : List Value).toArray s = true := fun w9 h9 => atoms_spec (ws := (.code y_Mo_walk b_Mo_walk 5 (some .int) :: wG)) B.pre w9 (List.mem_cons_of_mem _ h9)
  have hown : s.vm.findClass "PrefixRegistryModel" = some mg.cls := findClass_of_methodNamed B.named
  subst hsz
  have hD := hD0.self (sz := s.heap.size)
  unfold QmI
  generalize hAe : va_A (wMo cI o a (vFn V t fo fl)) s.heap.size = A at hD ⊢
  have hA : ∀ q : Nat, s.heap.size ≤ q → A q := fun q h => by rw [← hAe]; exact Or.inr h
  have hS : va_S A s.heap s.heap [] := va_S.rf
  have hl := lv_entry ([.ref o, .int (nI r), .int (pI kk)]) (n := 5) (Nat.le_of_ble_eq_true rfl)
  rw [lg_entry_eq]
  generalize (lg_sl ([.ref o, .int (nI r), .int (pI kk)]) ++ List.replicate (5 - (lg_sl ([.ref o, .int (nI r), .int (pI kk)])).length) Slot.unset).toArray = ls at hl ⊢
  replace hl : lv_has ls 5 [(0, .ref o), (1, .int (nI r)), (2, .int (pI kk))] := hl
  replace hP : va_P (dC, dI) classes (wMo cI o a (vFn V t fo fl)) s.heap := hP
  replace hD : va_D A (wMo cI o a (vFn V t fo fl)) := hD
  refine lv_iconst (v := 0) hx hb d_Mo_walk_0 (by decide) ?_
  refine lv_istore_n hx hb d_Mo_walk_1 rfl hl (by decide) rfl (fun ls hl => ?_)
  replace hl : lv_has ls 5 [(3, .int 0), (0, .ref o), (1, .int (nI r)), (2, .int (pI kk))] := hl
  refine lv_aload_n hx hb d_Mo_walk_2 rfl (lv_at hl 1 rfl) ?_
  refine lv_iload_n hx hb d_Mo_walk_3 rfl (lv_at hl 2 rfl) ?_
  refine lv_aload_n hx hb d_Mo_walk_4 rfl (lv_at hl 1 rfl) ?_
  refine lv_iload_n hx hb d_Mo_walk_5 rfl (lv_at hl 2 rfl) ?_
  refine vp_callSl (W.runV (b := o) (As := [.int (nI r)]) (rest := [.int (nI r), .ref o]) ⟨hx, hb, hml, hown, hts⟩ (c_Mo_beginOf l dC dI cI o a (vFn V t fo fl) hV r hr0) (cwV 1 hts (gV kw_854 kw_856 ks_36 kw_6 kw_857) rfl rfl rfl (by decide +kernel) ⟨Nat.le_of_ble_eq_true rfl, Nat.le_of_ble_eq_true rfl⟩) ⟨PcS.blind, va_recv (q0 := 0) hK hP rfl rfl, PcS.use hP hK hN⟩ rfl rfl hl.1 rfl (lv_room (Nat.le_of_ble_eq_true rfl)) d_Mo_walk_6 ⟨Nat.zero_le _, Nat.zero_le _⟩) (fun r6 hr6 => ?_)
  obtain rfl : r6 = (lN (V.pre r)) := hr6
  have hPc := hP.sub (ws' := (wMo cI o a (vFn V t fo fl))) [0, 1, 2, 3, 4, 5, 6, 7, 8, 9, 10, 11, 12, 13, 14, 15] rfl
  have hDc := hD.sub (ws' := (wMo cI o a (vFn V t fo fl))) [0, 1, 2, 3, 4, 5, 6, 7, 8, 9, 10, 11, 12, 13, 14, 15] (by decide) rfl
  have hFc := va_free (wc := (wMo cI o a (vFn V t fo fl))) hD hS hA [0, 1, 2, 3, 4, 5, 6, 7, 8, 9, 10, 11, 12, 13, 14, 15] rfl
  refine va_calli (va_runV (b := o) (As := [.int (nI r), .long (lN (V.pre r))]) (rest := []) ⟨hx, hb, hml, hown, hts⟩ (c_Mo_nextBlock l dC dI s.heap.size cI o a V hV t fo fl r hr0 (V.pre r) (by have := hV.pre r; omega) hst) (cwV 2 hts (gV kw_859 kw_861 ks_37 kw_6 kw_862) rfl rfl rfl (by decide +kernel) ⟨Nat.le_of_ble_eq_true rfl, Nat.le_of_ble_eq_true rfl⟩) ⟨PcM.blind, va_recv (q0 := 0) hK hPc rfl rfl, PcM.use hPc hK hN hDc⟩ rfl rfl hl.1 rfl (lv_room (Nat.le_of_ble_eq_true rfl)) d_Mo_walk_9 ⟨Nat.le_of_ble_eq_true rfl, Nat.le_of_ble_eq_true rfl⟩) hS (fun q _ h => hFc q h) hFc (fun r9 u9 H9 H1 locs hH9 hv9 hp9 hB hz1 hk1 hS => ?_)
  obtain rfl : r9 = (bi (decide (skN V r (V.pre r) < (V.pre r + 2 ^ (32 - V.len r))))) := hp9
  obtain ⟨hP1, hK1, hD1⟩ := hB
  rw [hH9] at hP1
  obtain ⟨hP, hD⟩ := va_join (wr := []) (w1 := (wMo cI o a (vNx V t fo fl r (V.pre r)))) hP hD [0, 1, 2, 3, 4, 5, 6, 7, 8, 9, 10, 11, 12, 13, 14, 15] [] rfl rfl (by decide) (by decide) hk1 hFc hP1 hD1
  clear hPc hDc hFc hP1 hD1 hK1 hk1 hz1 hv9 hH9
  generalize H1 = H at hP hS ⊢
  replace hP : va_P (dC, dI) classes [(o, .inr (5, [.int (nI (vNx V t fo fl r (V.pre r)).tc), .ref (a 0), .ref (a 1), .ref (a 2), .ref (a 3), .ref (a 4), .ref (a 5), .ref (a 6), .ref (a 7), .ref (a 8), .ref (a 9), .ref (a 10), .int (nI (vNx V t fo fl r (V.pre r)).ne), .ref (a 11), .ref (a 12), .ref (a 13), .ref (a 14), .long ((vNx V t fo fl r (V.pre r)).fo), .int ((vNx V t fo fl r (V.pre r)).fl)])), ((a 0), .inl (cI, 2, .inl (fun z9 => nI ((vNx V t fo fl r (V.pre r)).mn z9)))), ((a 1), .inl (cI, 400, .inl (fun z9 => nI ((vNx V t fo fl r (V.pre r)).pre z9)))), ((a 2), .inl (cI, 400, .inl (fun z9 => nI ((vNx V t fo fl r (V.pre r)).len z9)))), ((a 3), .inl (cI, 400, .inl (fun z9 => pI ((vNx V t fo fl r (V.pre r)).par z9)))), ((a 4), .inl (cI, 400, .inl (fun z9 => nI ((vNx V t fo fl r (V.pre r)).lev z9)))), ((a 5), .inl (cI, 400, .inl (fun z9 => nI ((vNx V t fo fl r (V.pre r)).hol z9)))), ((a 6), .inl (cI, 400, .inl (fun z9 => nI ((vNx V t fo fl r (V.pre r)).sta z9)))), ((a 7), .inl (cI, 400, .inl (fun z9 => nI ((vNx V t fo fl r (V.pre r)).en z9)))), ((a 8), .inl (cI, 2, .inl (fun z9 => nI ((vNx V t fo fl r (V.pre r)).tdy z9)))), ((a 9), .inl (cI, 2, .inl (fun z9 => nI ((vNx V t fo fl r (V.pre r)).dys z9)))), ((a 10), .inl (cI, 8, .inl (fun z9 => nI ((vNx V t fo fl r (V.pre r)).pol z9)))), ((a 11), .inl (cI, 300, .inl ((vNx V t fo fl r (V.pre r)).kd))), ((a 12), .inl (cI, 300, .inl ((vNx V t fo fl r (V.pre r)).fi))), ((a 13), .inl (cI, 300, .inl ((vNx V t fo fl r (V.pre r)).se))), ((a 14), .inl (cI, 300, .inl ((vNx V t fo fl r (V.pre r)).th)))] H := hP.sub (ws' := [(o, .inr (5, [.int (nI (vNx V t fo fl r (V.pre r)).tc), .ref (a 0), .ref (a 1), .ref (a 2), .ref (a 3), .ref (a 4), .ref (a 5), .ref (a 6), .ref (a 7), .ref (a 8), .ref (a 9), .ref (a 10), .int (nI (vNx V t fo fl r (V.pre r)).ne), .ref (a 11), .ref (a 12), .ref (a 13), .ref (a 14), .long ((vNx V t fo fl r (V.pre r)).fo), .int ((vNx V t fo fl r (V.pre r)).fl)])), ((a 0), .inl (cI, 2, .inl (fun z9 => nI ((vNx V t fo fl r (V.pre r)).mn z9)))), ((a 1), .inl (cI, 400, .inl (fun z9 => nI ((vNx V t fo fl r (V.pre r)).pre z9)))), ((a 2), .inl (cI, 400, .inl (fun z9 => nI ((vNx V t fo fl r (V.pre r)).len z9)))), ((a 3), .inl (cI, 400, .inl (fun z9 => pI ((vNx V t fo fl r (V.pre r)).par z9)))), ((a 4), .inl (cI, 400, .inl (fun z9 => nI ((vNx V t fo fl r (V.pre r)).lev z9)))), ((a 5), .inl (cI, 400, .inl (fun z9 => nI ((vNx V t fo fl r (V.pre r)).hol z9)))), ((a 6), .inl (cI, 400, .inl (fun z9 => nI ((vNx V t fo fl r (V.pre r)).sta z9)))), ((a 7), .inl (cI, 400, .inl (fun z9 => nI ((vNx V t fo fl r (V.pre r)).en z9)))), ((a 8), .inl (cI, 2, .inl (fun z9 => nI ((vNx V t fo fl r (V.pre r)).tdy z9)))), ((a 9), .inl (cI, 2, .inl (fun z9 => nI ((vNx V t fo fl r (V.pre r)).dys z9)))), ((a 10), .inl (cI, 8, .inl (fun z9 => nI ((vNx V t fo fl r (V.pre r)).pol z9)))), ((a 11), .inl (cI, 300, .inl ((vNx V t fo fl r (V.pre r)).kd))), ((a 12), .inl (cI, 300, .inl ((vNx V t fo fl r (V.pre r)).fi))), ((a 13), .inl (cI, 300, .inl ((vNx V t fo fl r (V.pre r)).se))), ((a 14), .inl (cI, 300, .inl ((vNx V t fo fl r (V.pre r)).th)))]) [0, 1, 2, 3, 4, 5, 6, 7, 8, 9, 10, 11, 12, 13, 14, 15] rfl
  replace hD : va_D A [(o, .inr (5, [.int (nI (vNx V t fo fl r (V.pre r)).tc), .ref (a 0), .ref (a 1), .ref (a 2), .ref (a 3), .ref (a 4), .ref (a 5), .ref (a 6), .ref (a 7), .ref (a 8), .ref (a 9), .ref (a 10), .int (nI (vNx V t fo fl r (V.pre r)).ne), .ref (a 11), .ref (a 12), .ref (a 13), .ref (a 14), .long ((vNx V t fo fl r (V.pre r)).fo), .int ((vNx V t fo fl r (V.pre r)).fl)])), ((a 0), .inl (cI, 2, .inl (fun z9 => nI ((vNx V t fo fl r (V.pre r)).mn z9)))), ((a 1), .inl (cI, 400, .inl (fun z9 => nI ((vNx V t fo fl r (V.pre r)).pre z9)))), ((a 2), .inl (cI, 400, .inl (fun z9 => nI ((vNx V t fo fl r (V.pre r)).len z9)))), ((a 3), .inl (cI, 400, .inl (fun z9 => pI ((vNx V t fo fl r (V.pre r)).par z9)))), ((a 4), .inl (cI, 400, .inl (fun z9 => nI ((vNx V t fo fl r (V.pre r)).lev z9)))), ((a 5), .inl (cI, 400, .inl (fun z9 => nI ((vNx V t fo fl r (V.pre r)).hol z9)))), ((a 6), .inl (cI, 400, .inl (fun z9 => nI ((vNx V t fo fl r (V.pre r)).sta z9)))), ((a 7), .inl (cI, 400, .inl (fun z9 => nI ((vNx V t fo fl r (V.pre r)).en z9)))), ((a 8), .inl (cI, 2, .inl (fun z9 => nI ((vNx V t fo fl r (V.pre r)).tdy z9)))), ((a 9), .inl (cI, 2, .inl (fun z9 => nI ((vNx V t fo fl r (V.pre r)).dys z9)))), ((a 10), .inl (cI, 8, .inl (fun z9 => nI ((vNx V t fo fl r (V.pre r)).pol z9)))), ((a 11), .inl (cI, 300, .inl ((vNx V t fo fl r (V.pre r)).kd))), ((a 12), .inl (cI, 300, .inl ((vNx V t fo fl r (V.pre r)).fi))), ((a 13), .inl (cI, 300, .inl ((vNx V t fo fl r (V.pre r)).se))), ((a 14), .inl (cI, 300, .inl ((vNx V t fo fl r (V.pre r)).th)))] := hD.sub (ws' := [(o, .inr (5, [.int (nI (vNx V t fo fl r (V.pre r)).tc), .ref (a 0), .ref (a 1), .ref (a 2), .ref (a 3), .ref (a 4), .ref (a 5), .ref (a 6), .ref (a 7), .ref (a 8), .ref (a 9), .ref (a 10), .int (nI (vNx V t fo fl r (V.pre r)).ne), .ref (a 11), .ref (a 12), .ref (a 13), .ref (a 14), .long ((vNx V t fo fl r (V.pre r)).fo), .int ((vNx V t fo fl r (V.pre r)).fl)])), ((a 0), .inl (cI, 2, .inl (fun z9 => nI ((vNx V t fo fl r (V.pre r)).mn z9)))), ((a 1), .inl (cI, 400, .inl (fun z9 => nI ((vNx V t fo fl r (V.pre r)).pre z9)))), ((a 2), .inl (cI, 400, .inl (fun z9 => nI ((vNx V t fo fl r (V.pre r)).len z9)))), ((a 3), .inl (cI, 400, .inl (fun z9 => pI ((vNx V t fo fl r (V.pre r)).par z9)))), ((a 4), .inl (cI, 400, .inl (fun z9 => nI ((vNx V t fo fl r (V.pre r)).lev z9)))), ((a 5), .inl (cI, 400, .inl (fun z9 => nI ((vNx V t fo fl r (V.pre r)).hol z9)))), ((a 6), .inl (cI, 400, .inl (fun z9 => nI ((vNx V t fo fl r (V.pre r)).sta z9)))), ((a 7), .inl (cI, 400, .inl (fun z9 => nI ((vNx V t fo fl r (V.pre r)).en z9)))), ((a 8), .inl (cI, 2, .inl (fun z9 => nI ((vNx V t fo fl r (V.pre r)).tdy z9)))), ((a 9), .inl (cI, 2, .inl (fun z9 => nI ((vNx V t fo fl r (V.pre r)).dys z9)))), ((a 10), .inl (cI, 8, .inl (fun z9 => nI ((vNx V t fo fl r (V.pre r)).pol z9)))), ((a 11), .inl (cI, 300, .inl ((vNx V t fo fl r (V.pre r)).kd))), ((a 12), .inl (cI, 300, .inl ((vNx V t fo fl r (V.pre r)).fi))), ((a 13), .inl (cI, 300, .inl ((vNx V t fo fl r (V.pre r)).se))), ((a 14), .inl (cI, 300, .inl ((vNx V t fo fl r (V.pre r)).th)))]) [0, 1, 2, 3, 4, 5, 6, 7, 8, 9, 10, 11, 12, 13, 14, 15] (by decide) rfl
  refine lv_istore hx hb d_Mo_walk_12 hl (by decide) rfl (fun ls hl => ?_)
  replace hl : lv_has ls 5 [(4, .int (bi (decide (skN V r (V.pre r) < (V.pre r + 2 ^ (32 - V.len r)))))), (3, .int 0), (0, .ref o), (1, .int (nI r)), (2, .int (pI kk))] := hl
  obtain ⟨L, hL0⟩ : ∃ L : List (Nat × Nat), L = blkL V r := ⟨_, rfl⟩
  obtain ⟨f9, hf9⟩ : ∃ f9 : Nat, f9 = V.pre r := ⟨_, rfl⟩
  obtain ⟨fo9, hfo9⟩ : ∃ fo9 : Int64, fo9 = fo := ⟨_, rfl⟩
  obtain ⟨fl9, hfl9⟩ : ∃ fl9 : Int32, fl9 = fl := ⟨_, rfl⟩
  obtain ⟨i, hi⟩ : ∃ i : Nat, i = 0 := ⟨_, rfl⟩
  have hbk : blk V r f9 L := by rw [hL0, hf9]; exact blkL_ok V r
  have hfb : f9 ≤ 8589934592 := by have := hV.pre r; omega
  have hres : wkF kk L i fo9 fl9 = wkF kk (blkL V r) 0 fo fl := by rw [hL0, hi, hfo9, hfl9]
  have hiL : i + L.length < 2147483648 := by rw [hL0, hi]; omega
  replace hP : va_P (dC, dI) classes (wMo cI o a (vNx V t fo9 fl9 r f9)) H := by rw [hfo9, hfl9, hf9]; exact hP
  replace hD : va_D A (wMo cI o a (vNx V t fo9 fl9 r f9)) := by rw [hfo9, hfl9, hf9]; exact hD
  replace hl : lv_has ls 5 [(4, .int (bi (decide (skN V r f9 < (V.pre r + 2 ^ (32 - V.len r)))))), (3, .int (nI i)), (0, .ref o), (1, .int (nI r)), (2, .int (pI kk))] := by rw [hf9]; subst hi; exact hl
  clear hL0 hf9 hfo9 hfl9 hi
  replace hbk := hbk
  replace hfb := hfb
  replace hres := hres
  replace hiL := hiL
  replace hP := hP
  replace hD := hD
  replace hS := hS
  replace hl : lv_has ls 5 [(4, .int (bi (decide (skN V r f9 < (V.pre r + 2 ^ (32 - V.len r)))))), (3, .int (nI i)), (0, .ref o), (1, .int (nI r)), (2, .int (pI kk))] := hl
  induction L generalizing f9 fo9 fl9 ls H locs i with
  | nil =>
    rw [vNx_neg hbk] at hP hD
    replace hP : va_P (dC, dI) classes [(o, .inr (5, [.int (nI t), .ref (a 0), .ref (a 1), .ref (a 2), .ref (a 3), .ref (a 4), .ref (a 5), .ref (a 6), .ref (a 7), .ref (a 8), .ref (a 9), .ref (a 10), .int (nI V.ne), .ref (a 11), .ref (a 12), .ref (a 13), .ref (a 14), .long fo9, .int fl9])), ((a 0), .inl (cI, 2, .inl (fun z9 => nI (V.mn z9)))), ((a 1), .inl (cI, 400, .inl (fun z9 => nI (V.pre z9)))), ((a 2), .inl (cI, 400, .inl (fun z9 => nI (V.len z9)))), ((a 3), .inl (cI, 400, .inl (fun z9 => pI (V.par z9)))), ((a 4), .inl (cI, 400, .inl (fun z9 => nI (V.lev z9)))), ((a 5), .inl (cI, 400, .inl (fun z9 => nI (V.hol z9)))), ((a 6), .inl (cI, 400, .inl (fun z9 => nI (V.sta z9)))), ((a 7), .inl (cI, 400, .inl (fun z9 => nI (V.en z9)))), ((a 8), .inl (cI, 2, .inl (fun z9 => nI (V.tdy z9)))), ((a 9), .inl (cI, 2, .inl (fun z9 => nI (V.dys z9)))), ((a 10), .inl (cI, 8, .inl (fun z9 => nI (V.pol z9)))), ((a 11), .inl (cI, 300, .inl V.kd)), ((a 12), .inl (cI, 300, .inl V.fi)), ((a 13), .inl (cI, 300, .inl V.se)), ((a 14), .inl (cI, 300, .inl V.th))] H := hP
    replace hD : va_D A [(o, .inr (5, [.int (nI t), .ref (a 0), .ref (a 1), .ref (a 2), .ref (a 3), .ref (a 4), .ref (a 5), .ref (a 6), .ref (a 7), .ref (a 8), .ref (a 9), .ref (a 10), .int (nI V.ne), .ref (a 11), .ref (a 12), .ref (a 13), .ref (a 14), .long fo9, .int fl9])), ((a 0), .inl (cI, 2, .inl (fun z9 => nI (V.mn z9)))), ((a 1), .inl (cI, 400, .inl (fun z9 => nI (V.pre z9)))), ((a 2), .inl (cI, 400, .inl (fun z9 => nI (V.len z9)))), ((a 3), .inl (cI, 400, .inl (fun z9 => pI (V.par z9)))), ((a 4), .inl (cI, 400, .inl (fun z9 => nI (V.lev z9)))), ((a 5), .inl (cI, 400, .inl (fun z9 => nI (V.hol z9)))), ((a 6), .inl (cI, 400, .inl (fun z9 => nI (V.sta z9)))), ((a 7), .inl (cI, 400, .inl (fun z9 => nI (V.en z9)))), ((a 8), .inl (cI, 2, .inl (fun z9 => nI (V.tdy z9)))), ((a 9), .inl (cI, 2, .inl (fun z9 => nI (V.dys z9)))), ((a 10), .inl (cI, 8, .inl (fun z9 => nI (V.pol z9)))), ((a 11), .inl (cI, 300, .inl V.kd)), ((a 12), .inl (cI, 300, .inl V.fi)), ((a 13), .inl (cI, 300, .inl V.se)), ((a 14), .inl (cI, 300, .inl V.th))] := hD
    refine lv_iload hx hb d_Mo_walk_14 (lv_at hl 0 rfl) ?_
    refine lv_if_eq hx hb d_Mo_walk_16 rfl (fun _ => ?_) (fun h9 => absurd (bi_d.mpr hbk) h9)
    refine lv_iload_n hx hb d_Mo_walk_43 rfl (lv_at hl 4 rfl) ?_
    refine lv_if_ge hx hb d_Mo_walk_44 rfl (fun h44 => ?_) (fun h44 => ?_)
    · have h44 := (pI_ge hkk).mp h44
      refine lv_iconst (v := 0) hx hb d_Mo_walk_51 (by decide) ?_
      have e9 : wkF kk (blkL V r) 0 fo fl = (false, i, fo9, fl9) := hres.symm
      have hP9 : va_P (dC, dI) classes (wMo cI o a (vFn V t (wkF kk (blkL V r) 0 fo fl).2.2.1 (wkF kk (blkL V r) 0 fo fl).2.2.2)) H := by rw [e9]; exact hP
      have hD9 : va_D A (wMo cI o a (vFn V t (wkF kk (blkL V r) 0 fo fl).2.2.1 (wkF kk (blkL V r) 0 fo fl).2.2.2)) := by rw [e9]; exact hD
      exact W.iret (v := 0) hx hb hr (fun t ht hW => ⟨⟨0, (), rfl, (by rw [e9]; cases kk with | none => exact absurd rfl h44 | some j => rfl), by rw [ht]; exact hP9, va_K.moved hW.alike hK, hD9⟩, hS.F ht⟩) hS.2.2 d_Mo_walk_52
    have h44 := mt (pI_ge hkk).mpr h44
    refine lv_iload_n hx hb d_Mo_walk_47 rfl (lv_at hl 1 rfl) ?_
    refine lv_goto hx hb d_Mo_walk_48 rfl ?_
    have e9 : wkF kk (blkL V r) 0 fo fl = (false, i, fo9, fl9) := hres.symm
    have hP9 : va_P (dC, dI) classes (wMo cI o a (vFn V t (wkF kk (blkL V r) 0 fo fl).2.2.1 (wkF kk (blkL V r) 0 fo fl).2.2.2)) H := by rw [e9]; exact hP
    have hD9 : va_D A (wMo cI o a (vFn V t (wkF kk (blkL V r) 0 fo fl).2.2.1 (wkF kk (blkL V r) 0 fo fl).2.2.2)) := by rw [e9]; exact hD
    exact W.iret (v := (nI i)) hx hb hr (fun t ht hW => ⟨⟨(nI i), (), rfl, (by rw [e9, Decidable.not_not.mp h44]; rfl), by rw [ht]; exact hP9, va_K.moved hW.alike hK, hD9⟩, hS.F ht⟩) hS.2.2 d_Mo_walk_52
  | cons x9 L ih =>
    obtain ⟨hb1, hb2, hb3, hbk⟩ := hbk
    rw [vNx_pos hb1 hb2 hb3] at hP hD
    have hx33 : x9.2 < 33 := by rw [hb3]; exact Nat.lt_succ_of_le (blF_le _ _ _ _)
    have hx32 : x9.1 < 4294967296 := by have := hst; omega
    replace hP : va_P (dC, dI) classes [(o, .inr (5, [.int (nI t), .ref (a 0), .ref (a 1), .ref (a 2), .ref (a 3), .ref (a 4), .ref (a 5), .ref (a 6), .ref (a 7), .ref (a 8), .ref (a 9), .ref (a 10), .int (nI V.ne), .ref (a 11), .ref (a 12), .ref (a 13), .ref (a 14), .long (lN x9.1), .int (nI x9.2)])), ((a 0), .inl (cI, 2, .inl (fun z9 => nI (V.mn z9)))), ((a 1), .inl (cI, 400, .inl (fun z9 => nI (V.pre z9)))), ((a 2), .inl (cI, 400, .inl (fun z9 => nI (V.len z9)))), ((a 3), .inl (cI, 400, .inl (fun z9 => pI (V.par z9)))), ((a 4), .inl (cI, 400, .inl (fun z9 => nI (V.lev z9)))), ((a 5), .inl (cI, 400, .inl (fun z9 => nI (V.hol z9)))), ((a 6), .inl (cI, 400, .inl (fun z9 => nI (V.sta z9)))), ((a 7), .inl (cI, 400, .inl (fun z9 => nI (V.en z9)))), ((a 8), .inl (cI, 2, .inl (fun z9 => nI (V.tdy z9)))), ((a 9), .inl (cI, 2, .inl (fun z9 => nI (V.dys z9)))), ((a 10), .inl (cI, 8, .inl (fun z9 => nI (V.pol z9)))), ((a 11), .inl (cI, 300, .inl V.kd)), ((a 12), .inl (cI, 300, .inl V.fi)), ((a 13), .inl (cI, 300, .inl V.se)), ((a 14), .inl (cI, 300, .inl V.th))] H := hP
    replace hD : va_D A [(o, .inr (5, [.int (nI t), .ref (a 0), .ref (a 1), .ref (a 2), .ref (a 3), .ref (a 4), .ref (a 5), .ref (a 6), .ref (a 7), .ref (a 8), .ref (a 9), .ref (a 10), .int (nI V.ne), .ref (a 11), .ref (a 12), .ref (a 13), .ref (a 14), .long (lN x9.1), .int (nI x9.2)])), ((a 0), .inl (cI, 2, .inl (fun z9 => nI (V.mn z9)))), ((a 1), .inl (cI, 400, .inl (fun z9 => nI (V.pre z9)))), ((a 2), .inl (cI, 400, .inl (fun z9 => nI (V.len z9)))), ((a 3), .inl (cI, 400, .inl (fun z9 => pI (V.par z9)))), ((a 4), .inl (cI, 400, .inl (fun z9 => nI (V.lev z9)))), ((a 5), .inl (cI, 400, .inl (fun z9 => nI (V.hol z9)))), ((a 6), .inl (cI, 400, .inl (fun z9 => nI (V.sta z9)))), ((a 7), .inl (cI, 400, .inl (fun z9 => nI (V.en z9)))), ((a 8), .inl (cI, 2, .inl (fun z9 => nI (V.tdy z9)))), ((a 9), .inl (cI, 2, .inl (fun z9 => nI (V.dys z9)))), ((a 10), .inl (cI, 8, .inl (fun z9 => nI (V.pol z9)))), ((a 11), .inl (cI, 300, .inl V.kd)), ((a 12), .inl (cI, 300, .inl V.fi)), ((a 13), .inl (cI, 300, .inl V.se)), ((a 14), .inl (cI, 300, .inl V.th))] := hD
    refine lv_iload hx hb d_Mo_walk_14 (lv_at hl 0 rfl) ?_
    refine lv_if_eq hx hb d_Mo_walk_16 rfl (fun h9 => absurd h9 (fun q => bi_d.mp q hb1)) (fun _ => ?_)
    refine lv_iload_n hx hb d_Mo_walk_19 rfl (lv_at hl 1 rfl) ?_
    refine lv_iload_n hx hb d_Mo_walk_20 rfl (lv_at hl 4 rfl) ?_
    refine lv_icmp_ne hx hb d_Mo_walk_21 rfl (fun h21 => ?_) (fun h21 => ?_)
    · have h21 := mt (pI_eq' (by omega) (fun j q => hkk j q)).mpr h21
      refine lv_iinc hx hb d_Mo_walk_26 hl (k := 1) (v := (nI (i + 1))) rfl (nI_1 i) (by decide) rfl (fun ls hl => ?_)
      replace hl : lv_has ls 5 [(3, .int (nI (i + 1))), (4, .int (bi (decide (skN V r f9 < (V.pre r + 2 ^ (32 - V.len r)))))), (0, .ref o), (1, .int (nI r)), (2, .int (pI kk))] := hl
      refine lv_aload_n hx hb d_Mo_walk_29 rfl (lv_at hl 2 rfl) ?_
      refine lv_iload_n hx hb d_Mo_walk_30 rfl (lv_at hl 3 rfl) ?_
      refine lv_aload_n hx hb d_Mo_walk_31 rfl (lv_at hl 2 rfl) ?_
      refine vp_callSl (W.runV (b := o) (As := []) (rest := [.int (nI r), .ref o]) ⟨hx, hb, hml, hown, hts⟩ (c_Mo_behind l dC dI cI o a V hV t x9.1 x9.2 hx33) (cwV 0 hts (gV kw_871 kw_873 ks_40 kw_6 kw_874) rfl rfl rfl (by decide +kernel) ⟨Nat.le_of_ble_eq_true rfl, Nat.le_of_ble_eq_true rfl⟩) ⟨PcS.blind, va_recv (q0 := 0) hK hP rfl rfl, PcS.use hP hK hN⟩ rfl rfl hl.1 rfl (lv_room (Nat.le_of_ble_eq_true rfl)) d_Mo_walk_32 ⟨Nat.zero_le _, Nat.zero_le _⟩) (fun r32 hr32 => ?_)
      obtain rfl : r32 = (lN (x9.1 + 2 ^ (32 - x9.2))) := hr32
      have hPc := hP.sub (ws' := (wMo cI o a (vFn V t (lN x9.1) (nI x9.2)))) [0, 1, 2, 3, 4, 5, 6, 7, 8, 9, 10, 11, 12, 13, 14, 15] rfl
      have hDc := hD.sub (ws' := (wMo cI o a (vFn V t (lN x9.1) (nI x9.2)))) [0, 1, 2, 3, 4, 5, 6, 7, 8, 9, 10, 11, 12, 13, 14, 15] (by decide) rfl
      have hFc := va_free (wc := (wMo cI o a (vFn V t (lN x9.1) (nI x9.2)))) hD hS hA [0, 1, 2, 3, 4, 5, 6, 7, 8, 9, 10, 11, 12, 13, 14, 15] rfl
      refine va_calli (va_runV (b := o) (As := [.int (nI r), .long (lN (x9.1 + 2 ^ (32 - x9.2)))]) (rest := []) ⟨hx, hb, hml, hown, hts⟩ (c_Mo_nextBlock l dC dI H.size cI o a V hV t (lN x9.1) (nI x9.2) r hr0 (x9.1 + 2 ^ (32 - x9.2)) (by have := k_pow (n := x9.2); omega) hst) (cwV 2 hts (gV kw_859 kw_861 ks_37 kw_6 kw_862) rfl rfl rfl (by decide +kernel) ⟨Nat.le_of_ble_eq_true rfl, Nat.le_of_ble_eq_true rfl⟩) ⟨PcM.blind, va_recv (q0 := 0) hK hPc rfl rfl, PcM.use hPc hK hN hDc⟩ rfl rfl hl.1 rfl (lv_room (Nat.le_of_ble_eq_true rfl)) d_Mo_walk_35 ⟨Nat.le_of_ble_eq_true rfl, Nat.le_of_ble_eq_true rfl⟩) hS (fun q _ h => hFc q h) hFc (fun r35 u9 H9 H1 locs hH9 hv9 hp9 hB hz1 hk1 hS => ?_)
      obtain rfl : r35 = (bi (decide (skN V r (x9.1 + 2 ^ (32 - x9.2)) < (V.pre r + 2 ^ (32 - V.len r))))) := hp9
      obtain ⟨hP1, hK1, hD1⟩ := hB
      rw [hH9] at hP1
      obtain ⟨hP, hD⟩ := va_join (wr := []) (w1 := (wMo cI o a (vNx V t (lN x9.1) (nI x9.2) r (x9.1 + 2 ^ (32 - x9.2))))) hP hD [0, 1, 2, 3, 4, 5, 6, 7, 8, 9, 10, 11, 12, 13, 14, 15] [] rfl rfl (by decide) (by decide) hk1 hFc hP1 hD1
      clear hPc hDc hFc hP1 hD1 hK1 hk1 hz1 hv9 hH9
      generalize H1 = H at hP hS ⊢
      replace hP : va_P (dC, dI) classes [(o, .inr (5, [.int (nI (vNx V t (lN x9.1) (nI x9.2) r (x9.1 + 2 ^ (32 - x9.2))).tc), .ref (a 0), .ref (a 1), .ref (a 2), .ref (a 3), .ref (a 4), .ref (a 5), .ref (a 6), .ref (a 7), .ref (a 8), .ref (a 9), .ref (a 10), .int (nI (vNx V t (lN x9.1) (nI x9.2) r (x9.1 + 2 ^ (32 - x9.2))).ne), .ref (a 11), .ref (a 12), .ref (a 13), .ref (a 14), .long ((vNx V t (lN x9.1) (nI x9.2) r (x9.1 + 2 ^ (32 - x9.2))).fo), .int ((vNx V t (lN x9.1) (nI x9.2) r (x9.1 + 2 ^ (32 - x9.2))).fl)])), ((a 0), .inl (cI, 2, .inl (fun z9 => nI ((vNx V t (lN x9.1) (nI x9.2) r (x9.1 + 2 ^ (32 - x9.2))).mn z9)))), ((a 1), .inl (cI, 400, .inl (fun z9 => nI ((vNx V t (lN x9.1) (nI x9.2) r (x9.1 + 2 ^ (32 - x9.2))).pre z9)))), ((a 2), .inl (cI, 400, .inl (fun z9 => nI ((vNx V t (lN x9.1) (nI x9.2) r (x9.1 + 2 ^ (32 - x9.2))).len z9)))), ((a 3), .inl (cI, 400, .inl (fun z9 => pI ((vNx V t (lN x9.1) (nI x9.2) r (x9.1 + 2 ^ (32 - x9.2))).par z9)))), ((a 4), .inl (cI, 400, .inl (fun z9 => nI ((vNx V t (lN x9.1) (nI x9.2) r (x9.1 + 2 ^ (32 - x9.2))).lev z9)))), ((a 5), .inl (cI, 400, .inl (fun z9 => nI ((vNx V t (lN x9.1) (nI x9.2) r (x9.1 + 2 ^ (32 - x9.2))).hol z9)))), ((a 6), .inl (cI, 400, .inl (fun z9 => nI ((vNx V t (lN x9.1) (nI x9.2) r (x9.1 + 2 ^ (32 - x9.2))).sta z9)))), ((a 7), .inl (cI, 400, .inl (fun z9 => nI ((vNx V t (lN x9.1) (nI x9.2) r (x9.1 + 2 ^ (32 - x9.2))).en z9)))), ((a 8), .inl (cI, 2, .inl (fun z9 => nI ((vNx V t (lN x9.1) (nI x9.2) r (x9.1 + 2 ^ (32 - x9.2))).tdy z9)))), ((a 9), .inl (cI, 2, .inl (fun z9 => nI ((vNx V t (lN x9.1) (nI x9.2) r (x9.1 + 2 ^ (32 - x9.2))).dys z9)))), ((a 10), .inl (cI, 8, .inl (fun z9 => nI ((vNx V t (lN x9.1) (nI x9.2) r (x9.1 + 2 ^ (32 - x9.2))).pol z9)))), ((a 11), .inl (cI, 300, .inl ((vNx V t (lN x9.1) (nI x9.2) r (x9.1 + 2 ^ (32 - x9.2))).kd))), ((a 12), .inl (cI, 300, .inl ((vNx V t (lN x9.1) (nI x9.2) r (x9.1 + 2 ^ (32 - x9.2))).fi))), ((a 13), .inl (cI, 300, .inl ((vNx V t (lN x9.1) (nI x9.2) r (x9.1 + 2 ^ (32 - x9.2))).se))), ((a 14), .inl (cI, 300, .inl ((vNx V t (lN x9.1) (nI x9.2) r (x9.1 + 2 ^ (32 - x9.2))).th)))] H := hP.sub (ws' := [(o, .inr (5, [.int (nI (vNx V t (lN x9.1) (nI x9.2) r (x9.1 + 2 ^ (32 - x9.2))).tc), .ref (a 0), .ref (a 1), .ref (a 2), .ref (a 3), .ref (a 4), .ref (a 5), .ref (a 6), .ref (a 7), .ref (a 8), .ref (a 9), .ref (a 10), .int (nI (vNx V t (lN x9.1) (nI x9.2) r (x9.1 + 2 ^ (32 - x9.2))).ne), .ref (a 11), .ref (a 12), .ref (a 13), .ref (a 14), .long ((vNx V t (lN x9.1) (nI x9.2) r (x9.1 + 2 ^ (32 - x9.2))).fo), .int ((vNx V t (lN x9.1) (nI x9.2) r (x9.1 + 2 ^ (32 - x9.2))).fl)])), ((a 0), .inl (cI, 2, .inl (fun z9 => nI ((vNx V t (lN x9.1) (nI x9.2) r (x9.1 + 2 ^ (32 - x9.2))).mn z9)))), ((a 1), .inl (cI, 400, .inl (fun z9 => nI ((vNx V t (lN x9.1) (nI x9.2) r (x9.1 + 2 ^ (32 - x9.2))).pre z9)))), ((a 2), .inl (cI, 400, .inl (fun z9 => nI ((vNx V t (lN x9.1) (nI x9.2) r (x9.1 + 2 ^ (32 - x9.2))).len z9)))), ((a 3), .inl (cI, 400, .inl (fun z9 => pI ((vNx V t (lN x9.1) (nI x9.2) r (x9.1 + 2 ^ (32 - x9.2))).par z9)))), ((a 4), .inl (cI, 400, .inl (fun z9 => nI ((vNx V t (lN x9.1) (nI x9.2) r (x9.1 + 2 ^ (32 - x9.2))).lev z9)))), ((a 5), .inl (cI, 400, .inl (fun z9 => nI ((vNx V t (lN x9.1) (nI x9.2) r (x9.1 + 2 ^ (32 - x9.2))).hol z9)))), ((a 6), .inl (cI, 400, .inl (fun z9 => nI ((vNx V t (lN x9.1) (nI x9.2) r (x9.1 + 2 ^ (32 - x9.2))).sta z9)))), ((a 7), .inl (cI, 400, .inl (fun z9 => nI ((vNx V t (lN x9.1) (nI x9.2) r (x9.1 + 2 ^ (32 - x9.2))).en z9)))), ((a 8), .inl (cI, 2, .inl (fun z9 => nI ((vNx V t (lN x9.1) (nI x9.2) r (x9.1 + 2 ^ (32 - x9.2))).tdy z9)))), ((a 9), .inl (cI, 2, .inl (fun z9 => nI ((vNx V t (lN x9.1) (nI x9.2) r (x9.1 + 2 ^ (32 - x9.2))).dys z9)))), ((a 10), .inl (cI, 8, .inl (fun z9 => nI ((vNx V t (lN x9.1) (nI x9.2) r (x9.1 + 2 ^ (32 - x9.2))).pol z9)))), ((a 11), .inl (cI, 300, .inl ((vNx V t (lN x9.1) (nI x9.2) r (x9.1 + 2 ^ (32 - x9.2))).kd))), ((a 12), .inl (cI, 300, .inl ((vNx V t (lN x9.1) (nI x9.2) r (x9.1 + 2 ^ (32 - x9.2))).fi))), ((a 13), .inl (cI, 300, .inl ((vNx V t (lN x9.1) (nI x9.2) r (x9.1 + 2 ^ (32 - x9.2))).se))), ((a 14), .inl (cI, 300, .inl ((vNx V t (lN x9.1) (nI x9.2) r (x9.1 + 2 ^ (32 - x9.2))).th)))]) [0, 1, 2, 3, 4, 5, 6, 7, 8, 9, 10, 11, 12, 13, 14, 15] rfl
      replace hD : va_D A [(o, .inr (5, [.int (nI (vNx V t (lN x9.1) (nI x9.2) r (x9.1 + 2 ^ (32 - x9.2))).tc), .ref (a 0), .ref (a 1), .ref (a 2), .ref (a 3), .ref (a 4), .ref (a 5), .ref (a 6), .ref (a 7), .ref (a 8), .ref (a 9), .ref (a 10), .int (nI (vNx V t (lN x9.1) (nI x9.2) r (x9.1 + 2 ^ (32 - x9.2))).ne), .ref (a 11), .ref (a 12), .ref (a 13), .ref (a 14), .long ((vNx V t (lN x9.1) (nI x9.2) r (x9.1 + 2 ^ (32 - x9.2))).fo), .int ((vNx V t (lN x9.1) (nI x9.2) r (x9.1 + 2 ^ (32 - x9.2))).fl)])), ((a 0), .inl (cI, 2, .inl (fun z9 => nI ((vNx V t (lN x9.1) (nI x9.2) r (x9.1 + 2 ^ (32 - x9.2))).mn z9)))), ((a 1), .inl (cI, 400, .inl (fun z9 => nI ((vNx V t (lN x9.1) (nI x9.2) r (x9.1 + 2 ^ (32 - x9.2))).pre z9)))), ((a 2), .inl (cI, 400, .inl (fun z9 => nI ((vNx V t (lN x9.1) (nI x9.2) r (x9.1 + 2 ^ (32 - x9.2))).len z9)))), ((a 3), .inl (cI, 400, .inl (fun z9 => pI ((vNx V t (lN x9.1) (nI x9.2) r (x9.1 + 2 ^ (32 - x9.2))).par z9)))), ((a 4), .inl (cI, 400, .inl (fun z9 => nI ((vNx V t (lN x9.1) (nI x9.2) r (x9.1 + 2 ^ (32 - x9.2))).lev z9)))), ((a 5), .inl (cI, 400, .inl (fun z9 => nI ((vNx V t (lN x9.1) (nI x9.2) r (x9.1 + 2 ^ (32 - x9.2))).hol z9)))), ((a 6), .inl (cI, 400, .inl (fun z9 => nI ((vNx V t (lN x9.1) (nI x9.2) r (x9.1 + 2 ^ (32 - x9.2))).sta z9)))), ((a 7), .inl (cI, 400, .inl (fun z9 => nI ((vNx V t (lN x9.1) (nI x9.2) r (x9.1 + 2 ^ (32 - x9.2))).en z9)))), ((a 8), .inl (cI, 2, .inl (fun z9 => nI ((vNx V t (lN x9.1) (nI x9.2) r (x9.1 + 2 ^ (32 - x9.2))).tdy z9)))), ((a 9), .inl (cI, 2, .inl (fun z9 => nI ((vNx V t (lN x9.1) (nI x9.2) r (x9.1 + 2 ^ (32 - x9.2))).dys z9)))), ((a 10), .inl (cI, 8, .inl (fun z9 => nI ((vNx V t (lN x9.1) (nI x9.2) r (x9.1 + 2 ^ (32 - x9.2))).pol z9)))), ((a 11), .inl (cI, 300, .inl ((vNx V t (lN x9.1) (nI x9.2) r (x9.1 + 2 ^ (32 - x9.2))).kd))), ((a 12), .inl (cI, 300, .inl ((vNx V t (lN x9.1) (nI x9.2) r (x9.1 + 2 ^ (32 - x9.2))).fi))), ((a 13), .inl (cI, 300, .inl ((vNx V t (lN x9.1) (nI x9.2) r (x9.1 + 2 ^ (32 - x9.2))).se))), ((a 14), .inl (cI, 300, .inl ((vNx V t (lN x9.1) (nI x9.2) r (x9.1 + 2 ^ (32 - x9.2))).th)))] := hD.sub (ws' := [(o, .inr (5, [.int (nI (vNx V t (lN x9.1) (nI x9.2) r (x9.1 + 2 ^ (32 - x9.2))).tc), .ref (a 0), .ref (a 1), .ref (a 2), .ref (a 3), .ref (a 4), .ref (a 5), .ref (a 6), .ref (a 7), .ref (a 8), .ref (a 9), .ref (a 10), .int (nI (vNx V t (lN x9.1) (nI x9.2) r (x9.1 + 2 ^ (32 - x9.2))).ne), .ref (a 11), .ref (a 12), .ref (a 13), .ref (a 14), .long ((vNx V t (lN x9.1) (nI x9.2) r (x9.1 + 2 ^ (32 - x9.2))).fo), .int ((vNx V t (lN x9.1) (nI x9.2) r (x9.1 + 2 ^ (32 - x9.2))).fl)])), ((a 0), .inl (cI, 2, .inl (fun z9 => nI ((vNx V t (lN x9.1) (nI x9.2) r (x9.1 + 2 ^ (32 - x9.2))).mn z9)))), ((a 1), .inl (cI, 400, .inl (fun z9 => nI ((vNx V t (lN x9.1) (nI x9.2) r (x9.1 + 2 ^ (32 - x9.2))).pre z9)))), ((a 2), .inl (cI, 400, .inl (fun z9 => nI ((vNx V t (lN x9.1) (nI x9.2) r (x9.1 + 2 ^ (32 - x9.2))).len z9)))), ((a 3), .inl (cI, 400, .inl (fun z9 => pI ((vNx V t (lN x9.1) (nI x9.2) r (x9.1 + 2 ^ (32 - x9.2))).par z9)))), ((a 4), .inl (cI, 400, .inl (fun z9 => nI ((vNx V t (lN x9.1) (nI x9.2) r (x9.1 + 2 ^ (32 - x9.2))).lev z9)))), ((a 5), .inl (cI, 400, .inl (fun z9 => nI ((vNx V t (lN x9.1) (nI x9.2) r (x9.1 + 2 ^ (32 - x9.2))).hol z9)))), ((a 6), .inl (cI, 400, .inl (fun z9 => nI ((vNx V t (lN x9.1) (nI x9.2) r (x9.1 + 2 ^ (32 - x9.2))).sta z9)))), ((a 7), .inl (cI, 400, .inl (fun z9 => nI ((vNx V t (lN x9.1) (nI x9.2) r (x9.1 + 2 ^ (32 - x9.2))).en z9)))), ((a 8), .inl (cI, 2, .inl (fun z9 => nI ((vNx V t (lN x9.1) (nI x9.2) r (x9.1 + 2 ^ (32 - x9.2))).tdy z9)))), ((a 9), .inl (cI, 2, .inl (fun z9 => nI ((vNx V t (lN x9.1) (nI x9.2) r (x9.1 + 2 ^ (32 - x9.2))).dys z9)))), ((a 10), .inl (cI, 8, .inl (fun z9 => nI ((vNx V t (lN x9.1) (nI x9.2) r (x9.1 + 2 ^ (32 - x9.2))).pol z9)))), ((a 11), .inl (cI, 300, .inl ((vNx V t (lN x9.1) (nI x9.2) r (x9.1 + 2 ^ (32 - x9.2))).kd))), ((a 12), .inl (cI, 300, .inl ((vNx V t (lN x9.1) (nI x9.2) r (x9.1 + 2 ^ (32 - x9.2))).fi))), ((a 13), .inl (cI, 300, .inl ((vNx V t (lN x9.1) (nI x9.2) r (x9.1 + 2 ^ (32 - x9.2))).se))), ((a 14), .inl (cI, 300, .inl ((vNx V t (lN x9.1) (nI x9.2) r (x9.1 + 2 ^ (32 - x9.2))).th)))]) [0, 1, 2, 3, 4, 5, 6, 7, 8, 9, 10, 11, 12, 13, 14, 15] (by decide) rfl
      refine lv_istore hx hb d_Mo_walk_38 hl (by decide) rfl (fun ls hl => ?_)
      replace hl : lv_has ls 5 [(4, .int (bi (decide (skN V r (x9.1 + 2 ^ (32 - x9.2)) < (V.pre r + 2 ^ (32 - V.len r)))))), (3, .int (nI (i + 1))), (0, .ref o), (1, .int (nI r)), (2, .int (pI kk))] := hl
      refine lv_goto hx hb d_Mo_walk_40 rfl ?_
      replace hP : va_P (dC, dI) classes (wMo cI o a (vNx V t (lN x9.1) (nI x9.2) r (x9.1 + 2 ^ (32 - x9.2)))) H := hP
      replace hD : va_D A (wMo cI o a (vNx V t (lN x9.1) (nI x9.2) r (x9.1 + 2 ^ (32 - x9.2)))) := hD
      refine ih _ _ _ _ _ _ _ hbk ?_ ?_ ?_ hP hD hS hl
      · have := k_pow (n := x9.2); omega
      · exact (by rw [← hres]; simp only [wkF]; rw [if_neg h21])
      · exact (by simp only [List.length_cons] at hiL; omega)
    have h21 := (pI_eq' (by omega) (fun j q => hkk j q)).mp h21
    refine lv_iconst (v := 1) hx hb d_Mo_walk_24 (by decide) ?_
    have e9 : wkF kk (blkL V r) 0 fo fl = (true, i, lN x9.1, nI x9.2) := by rw [← hres]; simp only [wkF]; rw [if_pos h21]
    have hP9 : va_P (dC, dI) classes (wMo cI o a (vFn V t (wkF kk (blkL V r) 0 fo fl).2.2.1 (wkF kk (blkL V r) 0 fo fl).2.2.2)) H := by rw [e9]; exact hP
    have hD9 : va_D A (wMo cI o a (vFn V t (wkF kk (blkL V r) 0 fo fl).2.2.1 (wkF kk (blkL V r) 0 fo fl).2.2.2)) := by rw [e9]; exact hD
    exact W.iret (v := 1) hx hb hr (fun t ht hW => ⟨⟨1, (), rfl, (by rw [e9]; rfl), by rw [ht]; exact hP9, va_K.moved hW.alike hK, hD9⟩, hS.F ht⟩) hS.2.2 d_Mo_walk_25
set_option maxHeartbeats 4000000 in
set_option maxRecDepth 100000 in
theorem c_Mo_blocks (l : Launch) (dC : Nat → ClassId) (dI : Nat → Nat → Nat) (sz : Nat) (cI : ClassId) (o : Nat) (a : Nat → Nat) (V : MS) (hV : MSok V) (x : Nat) (hx0 : x < 4294967296) (hst : ∀ r, V.pre r + 2 ^ (32 - V.len r) ≤ 4294967296) (hln : ∀ r, (blkL V r).length < 2147483648) : Met l y_Mo_blocks (.code y_Mo_blocks b_Mo_blocks 2 (some .int) :: wG) ({ frames := 6, cells := 0, slots := 0, locals := 144 }) (PcM (dC, dI) [(cI, .int)] (wMo cI o a V) [.ref o, .int (nI x)] sz) (QmI (dC, dI) [(cI, .int)] (wMo cI o a V) (wMo cI o a (moBls V x)) sz (moBlsR V x)) 0 0 (va_A (wMo cI o a V) sz) := by
  refine Met.ofW (cc := b_Mo_blocks) (maxL := 2) (ret := (some .int)) (by decide) rfl ?_
  intro pg eg s mg ag bg meth cg s₁ B hml hv
  obtain ⟨rfl, hsz, hP, hK, hD0, hN⟩ := hv
  have hx := B.exec
  have hb := B.bytes
  have hr := B.returns
  have hlocks := B.notSynchronized
  have hts : ∀ w9 ∈ wG, w9.before ([.ref o, .int (nI x)] : List Value).toArray s = true := fun w9 h9 => atoms_spec (ws := (.code y_Mo_blocks b_Mo_blocks 2 (some .int) :: wG)) B.pre w9 (List.mem_cons_of_mem _ h9)
  have hown : s.vm.findClass "PrefixRegistryModel" = some mg.cls := findClass_of_methodNamed B.named
  subst hsz
  have hD := hD0.self (sz := s.heap.size)
  unfold QmI
  generalize hAe : va_A (wMo cI o a V) s.heap.size = A at hD ⊢
  have hA : ∀ q : Nat, s.heap.size ≤ q → A q := fun q h => by rw [← hAe]; exact Or.inr h
  have hS : va_S A s.heap s.heap [] := va_S.rf
  have hl := lv_entry ([.ref o, .int (nI x)]) (n := 2) (Nat.le_of_ble_eq_true rfl)
  rw [lg_entry_eq]
  generalize (lg_sl ([.ref o, .int (nI x)]) ++ List.replicate (2 - (lg_sl ([.ref o, .int (nI x)])).length) Slot.unset).toArray = ls at hl ⊢
  replace hl : lv_has ls 2 [(0, .ref o), (1, .int (nI x))] := hl
  replace hP : va_P (dC, dI) classes (wMo cI o a V) s.heap := hP
  replace hD : va_D A (wMo cI o a V) := hD
  refine lv_aload_n hx hb d_Mo_blocks_0 rfl (lv_at hl 0 rfl) ?_
  refine lv_aload_n hx hb d_Mo_blocks_1 rfl (lv_at hl 0 rfl) ?_
  refine lv_iconst (v := 0) hx hb d_Mo_blocks_2 (by decide) ?_
  refine lv_iload_n hx hb d_Mo_blocks_3 rfl (lv_at hl 1 rfl) ?_
  refine vp_callSi (W.runV (b := o) (As := [.int 0, .int (nI x)]) (rest := [.ref o]) ⟨hx, hb, hml, hown, hts⟩ (c_Mo_isRecord l dC dI cI o a V hV 0 0 x (by decide) rfl hx0 ) (cwV 2 hts (gV kw_817 kw_819 ks_28 kw_6 kw_820) rfl rfl rfl (by decide +kernel) ⟨Nat.le_of_ble_eq_true rfl, Nat.le_of_ble_eq_true rfl⟩) ⟨PcS.blind, va_recv (q0 := 0) hK hP rfl rfl, PcS.use hP hK hN⟩ rfl rfl hl.1 rfl (lv_room (Nat.le_of_ble_eq_true rfl)) d_Mo_blocks_4 ⟨Nat.zero_le _, Nat.zero_le _⟩) (fun r4 hr4 => ?_)
  obtain rfl : r4 = bi (decide (x < V.mn 0)) := hr4
  refine lv_if_eq hx hb d_Mo_blocks_7 rfl (fun h7 => ?_) (fun h7 => ?_)
  · have h7 := bi_d.mp h7
    refine lv_iconst (v := 1) hx hb d_Mo_blocks_14 (by decide) ?_
    refine va_put (D := (dC, dI)) (ci := 5) (v := .int 1) (ty := .int) (C := R_Mo) (T := F_Mo) (N := 19) hx hb hts u_Mo t_Mo t_Mo_ok n_Mo hown hK hP hD hS 0 rfl rfl 0 (by decide) (hts _ kw_714) (fun _ h9 => h9) rfl (by decide +kernel) rfl rfl (Nat.le_of_ble_eq_true rfl) d_Mo_blocks_15 (fun H locs hP hD hS => ?_)
    replace hP : va_P (dC, dI) classes [(o, .inr (5, [.int 1, .ref (a 0), .ref (a 1), .ref (a 2), .ref (a 3), .ref (a 4), .ref (a 5), .ref (a 6), .ref (a 7), .ref (a 8), .ref (a 9), .ref (a 10), .int (nI V.ne), .ref (a 11), .ref (a 12), .ref (a 13), .ref (a 14), .long V.fo, .int V.fl])), ((a 0), .inl (cI, 2, .inl (fun z9 => nI (V.mn z9)))), ((a 1), .inl (cI, 400, .inl (fun z9 => nI (V.pre z9)))), ((a 2), .inl (cI, 400, .inl (fun z9 => nI (V.len z9)))), ((a 3), .inl (cI, 400, .inl (fun z9 => pI (V.par z9)))), ((a 4), .inl (cI, 400, .inl (fun z9 => nI (V.lev z9)))), ((a 5), .inl (cI, 400, .inl (fun z9 => nI (V.hol z9)))), ((a 6), .inl (cI, 400, .inl (fun z9 => nI (V.sta z9)))), ((a 7), .inl (cI, 400, .inl (fun z9 => nI (V.en z9)))), ((a 8), .inl (cI, 2, .inl (fun z9 => nI (V.tdy z9)))), ((a 9), .inl (cI, 2, .inl (fun z9 => nI (V.dys z9)))), ((a 10), .inl (cI, 8, .inl (fun z9 => nI (V.pol z9)))), ((a 11), .inl (cI, 300, .inl V.kd)), ((a 12), .inl (cI, 300, .inl V.fi)), ((a 13), .inl (cI, 300, .inl V.se)), ((a 14), .inl (cI, 300, .inl V.th))] H := hP
    replace hD : va_D A [(o, .inr (5, [.int 1, .ref (a 0), .ref (a 1), .ref (a 2), .ref (a 3), .ref (a 4), .ref (a 5), .ref (a 6), .ref (a 7), .ref (a 8), .ref (a 9), .ref (a 10), .int (nI V.ne), .ref (a 11), .ref (a 12), .ref (a 13), .ref (a 14), .long V.fo, .int V.fl])), ((a 0), .inl (cI, 2, .inl (fun z9 => nI (V.mn z9)))), ((a 1), .inl (cI, 400, .inl (fun z9 => nI (V.pre z9)))), ((a 2), .inl (cI, 400, .inl (fun z9 => nI (V.len z9)))), ((a 3), .inl (cI, 400, .inl (fun z9 => pI (V.par z9)))), ((a 4), .inl (cI, 400, .inl (fun z9 => nI (V.lev z9)))), ((a 5), .inl (cI, 400, .inl (fun z9 => nI (V.hol z9)))), ((a 6), .inl (cI, 400, .inl (fun z9 => nI (V.sta z9)))), ((a 7), .inl (cI, 400, .inl (fun z9 => nI (V.en z9)))), ((a 8), .inl (cI, 2, .inl (fun z9 => nI (V.tdy z9)))), ((a 9), .inl (cI, 2, .inl (fun z9 => nI (V.dys z9)))), ((a 10), .inl (cI, 8, .inl (fun z9 => nI (V.pol z9)))), ((a 11), .inl (cI, 300, .inl V.kd)), ((a 12), .inl (cI, 300, .inl V.fi)), ((a 13), .inl (cI, 300, .inl V.se)), ((a 14), .inl (cI, 300, .inl V.th))] := hD
    refine lv_aload_n hx hb d_Mo_blocks_18 rfl (lv_at hl 0 rfl) ?_
    refine va_get (D := (dC, dI)) (ci := 5) (v := .int 1) (C := R_Mo) (T := F_Mo) (N := 19) hx hb hts u_Mo hown hK hP 0 rfl rfl 0 (by decide) (hts _ kw_714) (fun _ h9 => h9) rfl d_Mo_blocks_19 ?_
    refine lv_if_le hx hb d_Mo_blocks_22 rfl (fun h9 => absurd h9 (by decide)) (fun _ => ?_)
    refine lv_iconst (v := 0) hx hb d_Mo_blocks_25 (by decide) ?_
    refine lv_goto hx hb d_Mo_blocks_26 rfl ?_
    have e9 : moBls V x = vFn V 1 V.fo V.fl := by unfold moBls; rw [if_neg h7]
    have e8 : moBlsR V x = 0 := by unfold moBlsR; rw [if_neg h7]
    have hP9 : va_P (dC, dI) classes (wMo cI o a (moBls V x)) H := by rw [e9]; exact hP
    have hD9 : va_D A (wMo cI o a (moBls V x)) := by rw [e9]; exact hD
    exact W.iret (v := 0) hx hb hr (fun t ht hW => ⟨⟨0, (), rfl, (by first | (rw [e8]; done) | (rw [e8]; rfl)), by rw [ht]; exact hP9, va_K.moved hW.alike hK, hD9⟩, hS.F ht⟩) hS.2.2 d_Mo_blocks_35
  have h7 := Decidable.not_not.mp (mt bi_d.mpr h7)
  refine lv_iconst (v := 0) hx hb d_Mo_blocks_10 (by decide) ?_
  refine lv_goto hx hb d_Mo_blocks_11 rfl ?_
  refine va_put (D := (dC, dI)) (ci := 5) (v := .int 0) (ty := .int) (C := R_Mo) (T := F_Mo) (N := 19) hx hb hts u_Mo t_Mo t_Mo_ok n_Mo hown hK hP hD hS 0 rfl rfl 0 (by decide) (hts _ kw_714) (fun _ h9 => h9) rfl (by decide +kernel) rfl rfl (Nat.le_of_ble_eq_true rfl) d_Mo_blocks_15 (fun H locs hP hD hS => ?_)
  replace hP : va_P (dC, dI) classes [(o, .inr (5, [.int 0, .ref (a 0), .ref (a 1), .ref (a 2), .ref (a 3), .ref (a 4), .ref (a 5), .ref (a 6), .ref (a 7), .ref (a 8), .ref (a 9), .ref (a 10), .int (nI V.ne), .ref (a 11), .ref (a 12), .ref (a 13), .ref (a 14), .long V.fo, .int V.fl])), ((a 0), .inl (cI, 2, .inl (fun z9 => nI (V.mn z9)))), ((a 1), .inl (cI, 400, .inl (fun z9 => nI (V.pre z9)))), ((a 2), .inl (cI, 400, .inl (fun z9 => nI (V.len z9)))), ((a 3), .inl (cI, 400, .inl (fun z9 => pI (V.par z9)))), ((a 4), .inl (cI, 400, .inl (fun z9 => nI (V.lev z9)))), ((a 5), .inl (cI, 400, .inl (fun z9 => nI (V.hol z9)))), ((a 6), .inl (cI, 400, .inl (fun z9 => nI (V.sta z9)))), ((a 7), .inl (cI, 400, .inl (fun z9 => nI (V.en z9)))), ((a 8), .inl (cI, 2, .inl (fun z9 => nI (V.tdy z9)))), ((a 9), .inl (cI, 2, .inl (fun z9 => nI (V.dys z9)))), ((a 10), .inl (cI, 8, .inl (fun z9 => nI (V.pol z9)))), ((a 11), .inl (cI, 300, .inl V.kd)), ((a 12), .inl (cI, 300, .inl V.fi)), ((a 13), .inl (cI, 300, .inl V.se)), ((a 14), .inl (cI, 300, .inl V.th))] H := hP
  replace hD : va_D A [(o, .inr (5, [.int 0, .ref (a 0), .ref (a 1), .ref (a 2), .ref (a 3), .ref (a 4), .ref (a 5), .ref (a 6), .ref (a 7), .ref (a 8), .ref (a 9), .ref (a 10), .int (nI V.ne), .ref (a 11), .ref (a 12), .ref (a 13), .ref (a 14), .long V.fo, .int V.fl])), ((a 0), .inl (cI, 2, .inl (fun z9 => nI (V.mn z9)))), ((a 1), .inl (cI, 400, .inl (fun z9 => nI (V.pre z9)))), ((a 2), .inl (cI, 400, .inl (fun z9 => nI (V.len z9)))), ((a 3), .inl (cI, 400, .inl (fun z9 => pI (V.par z9)))), ((a 4), .inl (cI, 400, .inl (fun z9 => nI (V.lev z9)))), ((a 5), .inl (cI, 400, .inl (fun z9 => nI (V.hol z9)))), ((a 6), .inl (cI, 400, .inl (fun z9 => nI (V.sta z9)))), ((a 7), .inl (cI, 400, .inl (fun z9 => nI (V.en z9)))), ((a 8), .inl (cI, 2, .inl (fun z9 => nI (V.tdy z9)))), ((a 9), .inl (cI, 2, .inl (fun z9 => nI (V.dys z9)))), ((a 10), .inl (cI, 8, .inl (fun z9 => nI (V.pol z9)))), ((a 11), .inl (cI, 300, .inl V.kd)), ((a 12), .inl (cI, 300, .inl V.fi)), ((a 13), .inl (cI, 300, .inl V.se)), ((a 14), .inl (cI, 300, .inl V.th))] := hD
  refine lv_aload_n hx hb d_Mo_blocks_18 rfl (lv_at hl 0 rfl) ?_
  refine va_get (D := (dC, dI)) (ci := 5) (v := .int 0) (C := R_Mo) (T := F_Mo) (N := 19) hx hb hts u_Mo hown hK hP 0 rfl rfl 0 (by decide) (hts _ kw_714) (fun _ h9 => h9) rfl d_Mo_blocks_19 ?_
  refine lv_if_le hx hb d_Mo_blocks_22 rfl (fun _ => ?_) (fun h9 => absurd (by decide) h9)
  refine lv_aload_n hx hb d_Mo_blocks_29 rfl (lv_at hl 0 rfl) ?_
  refine lv_iload_n hx hb d_Mo_blocks_30 rfl (lv_at hl 1 rfl) ?_
  refine lv_iconst (v := (-1)) hx hb d_Mo_blocks_31 (by decide) ?_
  have hPc := hP.sub (ws' := (wMo cI o a (vFn V 0 V.fo V.fl))) [0, 1, 2, 3, 4, 5, 6, 7, 8, 9, 10, 11, 12, 13, 14, 15] rfl
  have hDc := hD.sub (ws' := (wMo cI o a (vFn V 0 V.fo V.fl))) [0, 1, 2, 3, 4, 5, 6, 7, 8, 9, 10, 11, 12, 13, 14, 15] (by decide) rfl
  have hFc := va_free (wc := (wMo cI o a (vFn V 0 V.fo V.fl))) hD hS hA [0, 1, 2, 3, 4, 5, 6, 7, 8, 9, 10, 11, 12, 13, 14, 15] rfl
  refine va_calli (va_runV (b := o) (As := [.int (nI x), .int (-1)]) (rest := []) ⟨hx, hb, hml, hown, hts⟩ (c_Mo_walk l dC dI H.size cI o a V hV 0 V.fo V.fl x (by have := hV.mn 0; omega) none (fun j q => nomatch q) (hln x) (hst x)) (cwV 2 hts (gV kw_979 kw_981 ks_52 kw_6 kw_982) rfl rfl rfl (by decide +kernel) ⟨Nat.le_of_ble_eq_true rfl, Nat.le_of_ble_eq_true rfl⟩) ⟨PcM.blind, va_recv (q0 := 0) hK hPc rfl rfl, PcM.use hPc hK hN hDc⟩ rfl rfl hl.1 rfl (lv_room (Nat.le_of_ble_eq_true rfl)) d_Mo_blocks_32 ⟨Nat.le_of_ble_eq_true rfl, Nat.le_of_ble_eq_true rfl⟩) hS (fun q _ h => hFc q h) hFc (fun r32 u9 H9 H1 locs hH9 hv9 hp9 hB hz1 hk1 hS => ?_)
  obtain rfl : r32 = (wkR none (wkF none (blkL V x) 0 V.fo V.fl)) := hp9
  obtain ⟨hP1, hK1, hD1⟩ := hB
  rw [hH9] at hP1
  obtain ⟨hP, hD⟩ := va_join (wr := []) (w1 := (wMo cI o a (vFn V 0 (wkF none (blkL V x) 0 V.fo V.fl).2.2.1 (wkF none (blkL V x) 0 V.fo V.fl).2.2.2))) hP hD [0, 1, 2, 3, 4, 5, 6, 7, 8, 9, 10, 11, 12, 13, 14, 15] [] rfl rfl (by decide) (by decide) hk1 hFc hP1 hD1
  clear hPc hDc hFc hP1 hD1 hK1 hk1 hz1 hv9 hH9
  generalize H1 = H at hP hS ⊢
  replace hP : va_P (dC, dI) classes [(o, .inr (5, [.int (nI 0), .ref (a 0), .ref (a 1), .ref (a 2), .ref (a 3), .ref (a 4), .ref (a 5), .ref (a 6), .ref (a 7), .ref (a 8), .ref (a 9), .ref (a 10), .int (nI V.ne), .ref (a 11), .ref (a 12), .ref (a 13), .ref (a 14), .long ((wkF none (blkL V x) 0 V.fo V.fl).2.2.1), .int ((wkF none (blkL V x) 0 V.fo V.fl).2.2.2)])), ((a 0), .inl (cI, 2, .inl (fun z9 => nI (V.mn z9)))), ((a 1), .inl (cI, 400, .inl (fun z9 => nI (V.pre z9)))), ((a 2), .inl (cI, 400, .inl (fun z9 => nI (V.len z9)))), ((a 3), .inl (cI, 400, .inl (fun z9 => pI (V.par z9)))), ((a 4), .inl (cI, 400, .inl (fun z9 => nI (V.lev z9)))), ((a 5), .inl (cI, 400, .inl (fun z9 => nI (V.hol z9)))), ((a 6), .inl (cI, 400, .inl (fun z9 => nI (V.sta z9)))), ((a 7), .inl (cI, 400, .inl (fun z9 => nI (V.en z9)))), ((a 8), .inl (cI, 2, .inl (fun z9 => nI (V.tdy z9)))), ((a 9), .inl (cI, 2, .inl (fun z9 => nI (V.dys z9)))), ((a 10), .inl (cI, 8, .inl (fun z9 => nI (V.pol z9)))), ((a 11), .inl (cI, 300, .inl V.kd)), ((a 12), .inl (cI, 300, .inl V.fi)), ((a 13), .inl (cI, 300, .inl V.se)), ((a 14), .inl (cI, 300, .inl V.th))] H := hP.sub (ws' := [(o, .inr (5, [.int (nI 0), .ref (a 0), .ref (a 1), .ref (a 2), .ref (a 3), .ref (a 4), .ref (a 5), .ref (a 6), .ref (a 7), .ref (a 8), .ref (a 9), .ref (a 10), .int (nI V.ne), .ref (a 11), .ref (a 12), .ref (a 13), .ref (a 14), .long ((wkF none (blkL V x) 0 V.fo V.fl).2.2.1), .int ((wkF none (blkL V x) 0 V.fo V.fl).2.2.2)])), ((a 0), .inl (cI, 2, .inl (fun z9 => nI (V.mn z9)))), ((a 1), .inl (cI, 400, .inl (fun z9 => nI (V.pre z9)))), ((a 2), .inl (cI, 400, .inl (fun z9 => nI (V.len z9)))), ((a 3), .inl (cI, 400, .inl (fun z9 => pI (V.par z9)))), ((a 4), .inl (cI, 400, .inl (fun z9 => nI (V.lev z9)))), ((a 5), .inl (cI, 400, .inl (fun z9 => nI (V.hol z9)))), ((a 6), .inl (cI, 400, .inl (fun z9 => nI (V.sta z9)))), ((a 7), .inl (cI, 400, .inl (fun z9 => nI (V.en z9)))), ((a 8), .inl (cI, 2, .inl (fun z9 => nI (V.tdy z9)))), ((a 9), .inl (cI, 2, .inl (fun z9 => nI (V.dys z9)))), ((a 10), .inl (cI, 8, .inl (fun z9 => nI (V.pol z9)))), ((a 11), .inl (cI, 300, .inl V.kd)), ((a 12), .inl (cI, 300, .inl V.fi)), ((a 13), .inl (cI, 300, .inl V.se)), ((a 14), .inl (cI, 300, .inl V.th))]) [0, 1, 2, 3, 4, 5, 6, 7, 8, 9, 10, 11, 12, 13, 14, 15] rfl
  replace hD : va_D A [(o, .inr (5, [.int (nI 0), .ref (a 0), .ref (a 1), .ref (a 2), .ref (a 3), .ref (a 4), .ref (a 5), .ref (a 6), .ref (a 7), .ref (a 8), .ref (a 9), .ref (a 10), .int (nI V.ne), .ref (a 11), .ref (a 12), .ref (a 13), .ref (a 14), .long ((wkF none (blkL V x) 0 V.fo V.fl).2.2.1), .int ((wkF none (blkL V x) 0 V.fo V.fl).2.2.2)])), ((a 0), .inl (cI, 2, .inl (fun z9 => nI (V.mn z9)))), ((a 1), .inl (cI, 400, .inl (fun z9 => nI (V.pre z9)))), ((a 2), .inl (cI, 400, .inl (fun z9 => nI (V.len z9)))), ((a 3), .inl (cI, 400, .inl (fun z9 => pI (V.par z9)))), ((a 4), .inl (cI, 400, .inl (fun z9 => nI (V.lev z9)))), ((a 5), .inl (cI, 400, .inl (fun z9 => nI (V.hol z9)))), ((a 6), .inl (cI, 400, .inl (fun z9 => nI (V.sta z9)))), ((a 7), .inl (cI, 400, .inl (fun z9 => nI (V.en z9)))), ((a 8), .inl (cI, 2, .inl (fun z9 => nI (V.tdy z9)))), ((a 9), .inl (cI, 2, .inl (fun z9 => nI (V.dys z9)))), ((a 10), .inl (cI, 8, .inl (fun z9 => nI (V.pol z9)))), ((a 11), .inl (cI, 300, .inl V.kd)), ((a 12), .inl (cI, 300, .inl V.fi)), ((a 13), .inl (cI, 300, .inl V.se)), ((a 14), .inl (cI, 300, .inl V.th))] := hD.sub (ws' := [(o, .inr (5, [.int (nI 0), .ref (a 0), .ref (a 1), .ref (a 2), .ref (a 3), .ref (a 4), .ref (a 5), .ref (a 6), .ref (a 7), .ref (a 8), .ref (a 9), .ref (a 10), .int (nI V.ne), .ref (a 11), .ref (a 12), .ref (a 13), .ref (a 14), .long ((wkF none (blkL V x) 0 V.fo V.fl).2.2.1), .int ((wkF none (blkL V x) 0 V.fo V.fl).2.2.2)])), ((a 0), .inl (cI, 2, .inl (fun z9 => nI (V.mn z9)))), ((a 1), .inl (cI, 400, .inl (fun z9 => nI (V.pre z9)))), ((a 2), .inl (cI, 400, .inl (fun z9 => nI (V.len z9)))), ((a 3), .inl (cI, 400, .inl (fun z9 => pI (V.par z9)))), ((a 4), .inl (cI, 400, .inl (fun z9 => nI (V.lev z9)))), ((a 5), .inl (cI, 400, .inl (fun z9 => nI (V.hol z9)))), ((a 6), .inl (cI, 400, .inl (fun z9 => nI (V.sta z9)))), ((a 7), .inl (cI, 400, .inl (fun z9 => nI (V.en z9)))), ((a 8), .inl (cI, 2, .inl (fun z9 => nI (V.tdy z9)))), ((a 9), .inl (cI, 2, .inl (fun z9 => nI (V.dys z9)))), ((a 10), .inl (cI, 8, .inl (fun z9 => nI (V.pol z9)))), ((a 11), .inl (cI, 300, .inl V.kd)), ((a 12), .inl (cI, 300, .inl V.fi)), ((a 13), .inl (cI, 300, .inl V.se)), ((a 14), .inl (cI, 300, .inl V.th))]) [0, 1, 2, 3, 4, 5, 6, 7, 8, 9, 10, 11, 12, 13, 14, 15] (by decide) rfl
  have e9 : moBls V x = vFn V 0 (wkF none (blkL V x) 0 V.fo V.fl).2.2.1 (wkF none (blkL V x) 0 V.fo V.fl).2.2.2 := by unfold moBls; rw [if_pos h7]
  have e8 : moBlsR V x = wkR none (wkF none (blkL V x) 0 V.fo V.fl) := by unfold moBlsR; rw [if_pos h7]
  have hP9 : va_P (dC, dI) classes (wMo cI o a (moBls V x)) H := by rw [e9]; exact hP
  have hD9 : va_D A (wMo cI o a (moBls V x)) := by rw [e9]; exact hD
  exact W.iret (v := (wkR none (wkF none (blkL V x) 0 V.fo V.fl))) hx hb hr (fun t ht hW => ⟨⟨(wkR none (wkF none (blkL V x) 0 V.fo V.fl)), (), rfl, (by first | (rw [e8]; done) | (rw [e8]; rfl)), by rw [ht]; exact hP9, va_K.moved hW.alike hK, hD9⟩, hS.F ht⟩) hS.2.2 d_Mo_blocks_35
set_option maxHeartbeats 4000000 in
set_option maxRecDepth 100000 in
theorem c_Mo_block (l : Launch) (dC : Nat → ClassId) (dI : Nat → Nat → Nat) (sz : Nat) (cI : ClassId) (o : Nat) (a : Nat → Nat) (V : MS) (hV : MSok V) (x k : Nat) (hx0 : x < 4294967296) (hk0 : k < 4294967296) (u : Bool) (hst : ∀ r, V.pre r + 2 ^ (32 - V.len r) ≤ 4294967296) (hln : ∀ r, (blkL V r).length < 2147483648) : Met l y_Mo_block (.code y_Mo_block b_Mo_block 4 (some .int) :: wG) ({ frames := 6, cells := 0, slots := 0, locals := 144 }) (PcM (dC, dI) [(cI, .int)] (wMo cI o a V) [.ref o, .int (nI x), .int (nI k), .int (bi u)] sz) (QmI (dC, dI) [(cI, .int)] (wMo cI o a V) (wMo cI o a (moBlk V x k)) sz (moBlkR V x k u)) 0 0 (va_A (wMo cI o a V) sz) := by
  refine Met.ofW (cc := b_Mo_block) (maxL := 4) (ret := (some .int)) (by decide) rfl ?_
  intro pg eg s mg ag bg meth cg s₁ B hml hv
  obtain ⟨rfl, hsz, hP, hK, hD0, hN⟩ := hv
  have hx := B.exec
  have hb := B.bytes
  have hr := B.returns
  have hlocks := B.notSynchronized
  have hts : ∀ w9 ∈ wG, w9.before ([.ref o, .int (nI x), .int (nI k), .int (bi u)] : List Value).toArray s = true := fun w9 h9 => atoms_spec (ws := (.code y_Mo_block b_Mo_block 4 (some .int) :: wG)) B.pre w9 (List.mem_cons_of_mem _ h9)
  have hown : s.vm.findClass "PrefixRegistryModel" = some mg.cls := findClass_of_methodNamed B.named
  subst hsz
  have hD := hD0.self (sz := s.heap.size)
  unfold QmI
  generalize hAe : va_A (wMo cI o a V) s.heap.size = A at hD ⊢
  have hA : ∀ q : Nat, s.heap.size ≤ q → A q := fun q h => by rw [← hAe]; exact Or.inr h
  have hS : va_S A s.heap s.heap [] := va_S.rf
  have hl := lv_entry ([.ref o, .int (nI x), .int (nI k), .int (bi u)]) (n := 4) (Nat.le_of_ble_eq_true rfl)
  rw [lg_entry_eq]
  generalize (lg_sl ([.ref o, .int (nI x), .int (nI k), .int (bi u)]) ++ List.replicate (4 - (lg_sl ([.ref o, .int (nI x), .int (nI k), .int (bi u)])).length) Slot.unset).toArray = ls at hl ⊢
  replace hl : lv_has ls 4 [(0, .ref o), (1, .int (nI x)), (2, .int (nI k)), (3, .int (bi u))] := hl
  replace hP : va_P (dC, dI) classes (wMo cI o a V) s.heap := hP
  replace hD : va_D A (wMo cI o a V) := hD
  refine lv_aload_n hx hb d_Mo_block_0 rfl (lv_at hl 0 rfl) ?_
  refine lv_aload_n hx hb d_Mo_block_1 rfl (lv_at hl 0 rfl) ?_
  refine lv_iconst (v := 0) hx hb d_Mo_block_2 (by decide) ?_
  refine lv_iload_n hx hb d_Mo_block_3 rfl (lv_at hl 1 rfl) ?_
  refine vp_callSi (W.runV (b := o) (As := [.int 0, .int (nI x)]) (rest := [.ref o]) ⟨hx, hb, hml, hown, hts⟩ (c_Mo_isRecord l dC dI cI o a V hV 0 0 x (by decide) rfl hx0 ) (cwV 2 hts (gV kw_817 kw_819 ks_28 kw_6 kw_820) rfl rfl rfl (by decide +kernel) ⟨Nat.le_of_ble_eq_true rfl, Nat.le_of_ble_eq_true rfl⟩) ⟨PcS.blind, va_recv (q0 := 0) hK hP rfl rfl, PcS.use hP hK hN⟩ rfl rfl hl.1 rfl (lv_room (Nat.le_of_ble_eq_true rfl)) d_Mo_block_4 ⟨Nat.zero_le _, Nat.zero_le _⟩) (fun r4 hr4 => ?_)
  obtain rfl : r4 = bi (decide (x < V.mn 0)) := hr4
  refine lv_if_eq hx hb d_Mo_block_7 rfl (fun h7 => ?_) (fun h7 => ?_)
  · have h7 := bi_d.mp h7
    refine lv_iconst (v := 1) hx hb d_Mo_block_28 (by decide) ?_
    refine va_put (D := (dC, dI)) (ci := 5) (v := .int 1) (ty := .int) (C := R_Mo) (T := F_Mo) (N := 19) hx hb hts u_Mo t_Mo t_Mo_ok n_Mo hown hK hP hD hS 0 rfl rfl 0 (by decide) (hts _ kw_714) (fun _ h9 => h9) rfl (by decide +kernel) rfl rfl (Nat.le_of_ble_eq_true rfl) d_Mo_block_29 (fun H locs hP hD hS => ?_)
    replace hP : va_P (dC, dI) classes [(o, .inr (5, [.int 1, .ref (a 0), .ref (a 1), .ref (a 2), .ref (a 3), .ref (a 4), .ref (a 5), .ref (a 6), .ref (a 7), .ref (a 8), .ref (a 9), .ref (a 10), .int (nI V.ne), .ref (a 11), .ref (a 12), .ref (a 13), .ref (a 14), .long V.fo, .int V.fl])), ((a 0), .inl (cI, 2, .inl (fun z9 => nI (V.mn z9)))), ((a 1), .inl (cI, 400, .inl (fun z9 => nI (V.pre z9)))), ((a 2), .inl (cI, 400, .inl (fun z9 => nI (V.len z9)))), ((a 3), .inl (cI, 400, .inl (fun z9 => pI (V.par z9)))), ((a 4), .inl (cI, 400, .inl (fun z9 => nI (V.lev z9)))), ((a 5), .inl (cI, 400, .inl (fun z9 => nI (V.hol z9)))), ((a 6), .inl (cI, 400, .inl (fun z9 => nI (V.sta z9)))), ((a 7), .inl (cI, 400, .inl (fun z9 => nI (V.en z9)))), ((a 8), .inl (cI, 2, .inl (fun z9 => nI (V.tdy z9)))), ((a 9), .inl (cI, 2, .inl (fun z9 => nI (V.dys z9)))), ((a 10), .inl (cI, 8, .inl (fun z9 => nI (V.pol z9)))), ((a 11), .inl (cI, 300, .inl V.kd)), ((a 12), .inl (cI, 300, .inl V.fi)), ((a 13), .inl (cI, 300, .inl V.se)), ((a 14), .inl (cI, 300, .inl V.th))] H := hP
    replace hD : va_D A [(o, .inr (5, [.int 1, .ref (a 0), .ref (a 1), .ref (a 2), .ref (a 3), .ref (a 4), .ref (a 5), .ref (a 6), .ref (a 7), .ref (a 8), .ref (a 9), .ref (a 10), .int (nI V.ne), .ref (a 11), .ref (a 12), .ref (a 13), .ref (a 14), .long V.fo, .int V.fl])), ((a 0), .inl (cI, 2, .inl (fun z9 => nI (V.mn z9)))), ((a 1), .inl (cI, 400, .inl (fun z9 => nI (V.pre z9)))), ((a 2), .inl (cI, 400, .inl (fun z9 => nI (V.len z9)))), ((a 3), .inl (cI, 400, .inl (fun z9 => pI (V.par z9)))), ((a 4), .inl (cI, 400, .inl (fun z9 => nI (V.lev z9)))), ((a 5), .inl (cI, 400, .inl (fun z9 => nI (V.hol z9)))), ((a 6), .inl (cI, 400, .inl (fun z9 => nI (V.sta z9)))), ((a 7), .inl (cI, 400, .inl (fun z9 => nI (V.en z9)))), ((a 8), .inl (cI, 2, .inl (fun z9 => nI (V.tdy z9)))), ((a 9), .inl (cI, 2, .inl (fun z9 => nI (V.dys z9)))), ((a 10), .inl (cI, 8, .inl (fun z9 => nI (V.pol z9)))), ((a 11), .inl (cI, 300, .inl V.kd)), ((a 12), .inl (cI, 300, .inl V.fi)), ((a 13), .inl (cI, 300, .inl V.se)), ((a 14), .inl (cI, 300, .inl V.th))] := hD
    refine lv_aload_n hx hb d_Mo_block_32 rfl (lv_at hl 0 rfl) ?_
    refine va_get (D := (dC, dI)) (ci := 5) (v := .int 1) (C := R_Mo) (T := F_Mo) (N := 19) hx hb hts u_Mo hown hK hP 0 rfl rfl 0 (by decide) (hts _ kw_714) (fun _ h9 => h9) rfl d_Mo_block_33 ?_
    refine lv_if_le hx hb d_Mo_block_36 rfl (fun h9 => absurd h9 (by decide)) (fun _ => ?_)
    refine lv_iconst (v := 0) hx hb d_Mo_block_39 (by decide) ?_
    refine lv_goto hx hb d_Mo_block_40 rfl ?_
    have e9 : moBlk V x k = vFn V 1 V.fo V.fl := by unfold moBlk; rw [if_neg (fun q => h7 q.1)]
    have e8 : moBlkR V x k u = 0 := by unfold moBlkR; rw [if_neg (fun q => h7 q.1.1)]
    have hP9 : va_P (dC, dI) classes (wMo cI o a (moBlk V x k)) H := by rw [e9]; exact hP
    have hD9 : va_D A (wMo cI o a (moBlk V x k)) := by rw [e9]; exact hD
    exact W.iret (v := 0) hx hb hr (fun t ht hW => ⟨⟨0, (), rfl, (by first | (rw [e8]; done) | (rw [e8]; rfl)), by rw [ht]; exact hP9, va_K.moved hW.alike hK, hD9⟩, hS.F ht⟩) hS.2.2 d_Mo_block_59
  have h7 := Decidable.not_not.mp (mt bi_d.mpr h7)
  refine lv_iload_n hx hb d_Mo_block_10 rfl (lv_at hl 2 rfl) ?_
  refine lv_if_lt hx hb d_Mo_block_11 rfl (fun h11 => ?_) (fun h11 => ?_)
  · have h11 := (k_lt0 hk0).mp h11
    refine lv_iconst (v := 1) hx hb d_Mo_block_28 (by decide) ?_
    refine va_put (D := (dC, dI)) (ci := 5) (v := .int 1) (ty := .int) (C := R_Mo) (T := F_Mo) (N := 19) hx hb hts u_Mo t_Mo t_Mo_ok n_Mo hown hK hP hD hS 0 rfl rfl 0 (by decide) (hts _ kw_714) (fun _ h9 => h9) rfl (by decide +kernel) rfl rfl (Nat.le_of_ble_eq_true rfl) d_Mo_block_29 (fun H locs hP hD hS => ?_)
    replace hP : va_P (dC, dI) classes [(o, .inr (5, [.int 1, .ref (a 0), .ref (a 1), .ref (a 2), .ref (a 3), .ref (a 4), .ref (a 5), .ref (a 6), .ref (a 7), .ref (a 8), .ref (a 9), .ref (a 10), .int (nI V.ne), .ref (a 11), .ref (a 12), .ref (a 13), .ref (a 14), .long V.fo, .int V.fl])), ((a 0), .inl (cI, 2, .inl (fun z9 => nI (V.mn z9)))), ((a 1), .inl (cI, 400, .inl (fun z9 => nI (V.pre z9)))), ((a 2), .inl (cI, 400, .inl (fun z9 => nI (V.len z9)))), ((a 3), .inl (cI, 400, .inl (fun z9 => pI (V.par z9)))), ((a 4), .inl (cI, 400, .inl (fun z9 => nI (V.lev z9)))), ((a 5), .inl (cI, 400, .inl (fun z9 => nI (V.hol z9)))), ((a 6), .inl (cI, 400, .inl (fun z9 => nI (V.sta z9)))), ((a 7), .inl (cI, 400, .inl (fun z9 => nI (V.en z9)))), ((a 8), .inl (cI, 2, .inl (fun z9 => nI (V.tdy z9)))), ((a 9), .inl (cI, 2, .inl (fun z9 => nI (V.dys z9)))), ((a 10), .inl (cI, 8, .inl (fun z9 => nI (V.pol z9)))), ((a 11), .inl (cI, 300, .inl V.kd)), ((a 12), .inl (cI, 300, .inl V.fi)), ((a 13), .inl (cI, 300, .inl V.se)), ((a 14), .inl (cI, 300, .inl V.th))] H := hP
    replace hD : va_D A [(o, .inr (5, [.int 1, .ref (a 0), .ref (a 1), .ref (a 2), .ref (a 3), .ref (a 4), .ref (a 5), .ref (a 6), .ref (a 7), .ref (a 8), .ref (a 9), .ref (a 10), .int (nI V.ne), .ref (a 11), .ref (a 12), .ref (a 13), .ref (a 14), .long V.fo, .int V.fl])), ((a 0), .inl (cI, 2, .inl (fun z9 => nI (V.mn z9)))), ((a 1), .inl (cI, 400, .inl (fun z9 => nI (V.pre z9)))), ((a 2), .inl (cI, 400, .inl (fun z9 => nI (V.len z9)))), ((a 3), .inl (cI, 400, .inl (fun z9 => pI (V.par z9)))), ((a 4), .inl (cI, 400, .inl (fun z9 => nI (V.lev z9)))), ((a 5), .inl (cI, 400, .inl (fun z9 => nI (V.hol z9)))), ((a 6), .inl (cI, 400, .inl (fun z9 => nI (V.sta z9)))), ((a 7), .inl (cI, 400, .inl (fun z9 => nI (V.en z9)))), ((a 8), .inl (cI, 2, .inl (fun z9 => nI (V.tdy z9)))), ((a 9), .inl (cI, 2, .inl (fun z9 => nI (V.dys z9)))), ((a 10), .inl (cI, 8, .inl (fun z9 => nI (V.pol z9)))), ((a 11), .inl (cI, 300, .inl V.kd)), ((a 12), .inl (cI, 300, .inl V.fi)), ((a 13), .inl (cI, 300, .inl V.se)), ((a 14), .inl (cI, 300, .inl V.th))] := hD
    refine lv_aload_n hx hb d_Mo_block_32 rfl (lv_at hl 0 rfl) ?_
    refine va_get (D := (dC, dI)) (ci := 5) (v := .int 1) (C := R_Mo) (T := F_Mo) (N := 19) hx hb hts u_Mo hown hK hP 0 rfl rfl 0 (by decide) (hts _ kw_714) (fun _ h9 => h9) rfl d_Mo_block_33 ?_
    refine lv_if_le hx hb d_Mo_block_36 rfl (fun h9 => absurd h9 (by decide)) (fun _ => ?_)
    refine lv_iconst (v := 0) hx hb d_Mo_block_39 (by decide) ?_
    refine lv_goto hx hb d_Mo_block_40 rfl ?_
    have e9 : moBlk V x k = vFn V 1 V.fo V.fl := by unfold moBlk; rw [if_neg (fun q => by omega)]
    have e8 : moBlkR V x k u = 0 := by unfold moBlkR; rw [if_neg (fun q => by omega)]
    have hP9 : va_P (dC, dI) classes (wMo cI o a (moBlk V x k)) H := by rw [e9]; exact hP
    have hD9 : va_D A (wMo cI o a (moBlk V x k)) := by rw [e9]; exact hD
    exact W.iret (v := 0) hx hb hr (fun t ht hW => ⟨⟨0, (), rfl, (by first | (rw [e8]; done) | (rw [e8]; rfl)), by rw [ht]; exact hP9, va_K.moved hW.alike hK, hD9⟩, hS.F ht⟩) hS.2.2 d_Mo_block_59
  have h11 := mt (k_lt0 hk0).mpr h11
  refine lv_aload_n hx hb d_Mo_block_14 rfl (lv_at hl 0 rfl) ?_
  refine lv_iload_n hx hb d_Mo_block_15 rfl (lv_at hl 1 rfl) ?_
  refine lv_iload_n hx hb d_Mo_block_16 rfl (lv_at hl 2 rfl) ?_
  have hPc := hP.sub (ws' := (wMo cI o a (vFn V V.tc V.fo V.fl))) [0, 1, 2, 3, 4, 5, 6, 7, 8, 9, 10, 11, 12, 13, 14, 15] rfl
  have hDc := hD.sub (ws' := (wMo cI o a (vFn V V.tc V.fo V.fl))) [0, 1, 2, 3, 4, 5, 6, 7, 8, 9, 10, 11, 12, 13, 14, 15] (by decide) rfl
  have hFc := va_free (wc := (wMo cI o a (vFn V V.tc V.fo V.fl))) hD hS hA [0, 1, 2, 3, 4, 5, 6, 7, 8, 9, 10, 11, 12, 13, 14, 15] rfl
  refine va_calli (va_runV (b := o) (As := [.int (nI x), .int (nI k)]) (rest := [.ref o]) ⟨hx, hb, hml, hown, hts⟩ (c_Mo_walk l dC dI s.heap.size cI o a V hV V.tc V.fo V.fl x (by have := hV.mn 0; omega) (some k) (fun j q => by cases q; omega) (hln x) (hst x)) (cwV 2 hts (gV kw_979 kw_981 ks_52 kw_6 kw_982) rfl rfl rfl (by decide +kernel) ⟨Nat.le_of_ble_eq_true rfl, Nat.le_of_ble_eq_true rfl⟩) ⟨PcM.blind, va_recv (q0 := 0) hK hPc rfl rfl, PcM.use hPc hK hN hDc⟩ rfl rfl hl.1 rfl (lv_room (Nat.le_of_ble_eq_true rfl)) d_Mo_block_17 ⟨Nat.le_of_ble_eq_true rfl, Nat.le_of_ble_eq_true rfl⟩) hS (fun q _ h => hFc q h) hFc (fun r17 u9 H9 H1 locs hH9 hv9 hp9 hB hz1 hk1 hS => ?_)
  obtain rfl : r17 = (wkR (some k) (wkF (some k) (blkL V x) 0 V.fo V.fl)) := hp9
  obtain ⟨hP1, hK1, hD1⟩ := hB
  rw [hH9] at hP1
  obtain ⟨hP, hD⟩ := va_join (wr := []) (w1 := (wMo cI o a (vFn V V.tc (wkF (some k) (blkL V x) 0 V.fo V.fl).2.2.1 (wkF (some k) (blkL V x) 0 V.fo V.fl).2.2.2))) hP hD [0, 1, 2, 3, 4, 5, 6, 7, 8, 9, 10, 11, 12, 13, 14, 15] [] rfl rfl (by decide) (by decide) hk1 hFc hP1 hD1
  clear hPc hDc hFc hP1 hD1 hK1 hk1 hz1 hv9 hH9
  generalize H1 = H at hP hS ⊢
  replace hP : va_P (dC, dI) classes [(o, .inr (5, [.int (nI V.tc), .ref (a 0), .ref (a 1), .ref (a 2), .ref (a 3), .ref (a 4), .ref (a 5), .ref (a 6), .ref (a 7), .ref (a 8), .ref (a 9), .ref (a 10), .int (nI V.ne), .ref (a 11), .ref (a 12), .ref (a 13), .ref (a 14), .long ((wkF (some k) (blkL V x) 0 V.fo V.fl).2.2.1), .int ((wkF (some k) (blkL V x) 0 V.fo V.fl).2.2.2)])), ((a 0), .inl (cI, 2, .inl (fun z9 => nI (V.mn z9)))), ((a 1), .inl (cI, 400, .inl (fun z9 => nI (V.pre z9)))), ((a 2), .inl (cI, 400, .inl (fun z9 => nI (V.len z9)))), ((a 3), .inl (cI, 400, .inl (fun z9 => pI (V.par z9)))), ((a 4), .inl (cI, 400, .inl (fun z9 => nI (V.lev z9)))), ((a 5), .inl (cI, 400, .inl (fun z9 => nI (V.hol z9)))), ((a 6), .inl (cI, 400, .inl (fun z9 => nI (V.sta z9)))), ((a 7), .inl (cI, 400, .inl (fun z9 => nI (V.en z9)))), ((a 8), .inl (cI, 2, .inl (fun z9 => nI (V.tdy z9)))), ((a 9), .inl (cI, 2, .inl (fun z9 => nI (V.dys z9)))), ((a 10), .inl (cI, 8, .inl (fun z9 => nI (V.pol z9)))), ((a 11), .inl (cI, 300, .inl V.kd)), ((a 12), .inl (cI, 300, .inl V.fi)), ((a 13), .inl (cI, 300, .inl V.se)), ((a 14), .inl (cI, 300, .inl V.th))] H := hP.sub (ws' := [(o, .inr (5, [.int (nI V.tc), .ref (a 0), .ref (a 1), .ref (a 2), .ref (a 3), .ref (a 4), .ref (a 5), .ref (a 6), .ref (a 7), .ref (a 8), .ref (a 9), .ref (a 10), .int (nI V.ne), .ref (a 11), .ref (a 12), .ref (a 13), .ref (a 14), .long ((wkF (some k) (blkL V x) 0 V.fo V.fl).2.2.1), .int ((wkF (some k) (blkL V x) 0 V.fo V.fl).2.2.2)])), ((a 0), .inl (cI, 2, .inl (fun z9 => nI (V.mn z9)))), ((a 1), .inl (cI, 400, .inl (fun z9 => nI (V.pre z9)))), ((a 2), .inl (cI, 400, .inl (fun z9 => nI (V.len z9)))), ((a 3), .inl (cI, 400, .inl (fun z9 => pI (V.par z9)))), ((a 4), .inl (cI, 400, .inl (fun z9 => nI (V.lev z9)))), ((a 5), .inl (cI, 400, .inl (fun z9 => nI (V.hol z9)))), ((a 6), .inl (cI, 400, .inl (fun z9 => nI (V.sta z9)))), ((a 7), .inl (cI, 400, .inl (fun z9 => nI (V.en z9)))), ((a 8), .inl (cI, 2, .inl (fun z9 => nI (V.tdy z9)))), ((a 9), .inl (cI, 2, .inl (fun z9 => nI (V.dys z9)))), ((a 10), .inl (cI, 8, .inl (fun z9 => nI (V.pol z9)))), ((a 11), .inl (cI, 300, .inl V.kd)), ((a 12), .inl (cI, 300, .inl V.fi)), ((a 13), .inl (cI, 300, .inl V.se)), ((a 14), .inl (cI, 300, .inl V.th))]) [0, 1, 2, 3, 4, 5, 6, 7, 8, 9, 10, 11, 12, 13, 14, 15] rfl
  replace hD : va_D A [(o, .inr (5, [.int (nI V.tc), .ref (a 0), .ref (a 1), .ref (a 2), .ref (a 3), .ref (a 4), .ref (a 5), .ref (a 6), .ref (a 7), .ref (a 8), .ref (a 9), .ref (a 10), .int (nI V.ne), .ref (a 11), .ref (a 12), .ref (a 13), .ref (a 14), .long ((wkF (some k) (blkL V x) 0 V.fo V.fl).2.2.1), .int ((wkF (some k) (blkL V x) 0 V.fo V.fl).2.2.2)])), ((a 0), .inl (cI, 2, .inl (fun z9 => nI (V.mn z9)))), ((a 1), .inl (cI, 400, .inl (fun z9 => nI (V.pre z9)))), ((a 2), .inl (cI, 400, .inl (fun z9 => nI (V.len z9)))), ((a 3), .inl (cI, 400, .inl (fun z9 => pI (V.par z9)))), ((a 4), .inl (cI, 400, .inl (fun z9 => nI (V.lev z9)))), ((a 5), .inl (cI, 400, .inl (fun z9 => nI (V.hol z9)))), ((a 6), .inl (cI, 400, .inl (fun z9 => nI (V.sta z9)))), ((a 7), .inl (cI, 400, .inl (fun z9 => nI (V.en z9)))), ((a 8), .inl (cI, 2, .inl (fun z9 => nI (V.tdy z9)))), ((a 9), .inl (cI, 2, .inl (fun z9 => nI (V.dys z9)))), ((a 10), .inl (cI, 8, .inl (fun z9 => nI (V.pol z9)))), ((a 11), .inl (cI, 300, .inl V.kd)), ((a 12), .inl (cI, 300, .inl V.fi)), ((a 13), .inl (cI, 300, .inl V.se)), ((a 14), .inl (cI, 300, .inl V.th))] := hD.sub (ws' := [(o, .inr (5, [.int (nI V.tc), .ref (a 0), .ref (a 1), .ref (a 2), .ref (a 3), .ref (a 4), .ref (a 5), .ref (a 6), .ref (a 7), .ref (a 8), .ref (a 9), .ref (a 10), .int (nI V.ne), .ref (a 11), .ref (a 12), .ref (a 13), .ref (a 14), .long ((wkF (some k) (blkL V x) 0 V.fo V.fl).2.2.1), .int ((wkF (some k) (blkL V x) 0 V.fo V.fl).2.2.2)])), ((a 0), .inl (cI, 2, .inl (fun z9 => nI (V.mn z9)))), ((a 1), .inl (cI, 400, .inl (fun z9 => nI (V.pre z9)))), ((a 2), .inl (cI, 400, .inl (fun z9 => nI (V.len z9)))), ((a 3), .inl (cI, 400, .inl (fun z9 => pI (V.par z9)))), ((a 4), .inl (cI, 400, .inl (fun z9 => nI (V.lev z9)))), ((a 5), .inl (cI, 400, .inl (fun z9 => nI (V.hol z9)))), ((a 6), .inl (cI, 400, .inl (fun z9 => nI (V.sta z9)))), ((a 7), .inl (cI, 400, .inl (fun z9 => nI (V.en z9)))), ((a 8), .inl (cI, 2, .inl (fun z9 => nI (V.tdy z9)))), ((a 9), .inl (cI, 2, .inl (fun z9 => nI (V.dys z9)))), ((a 10), .inl (cI, 8, .inl (fun z9 => nI (V.pol z9)))), ((a 11), .inl (cI, 300, .inl V.kd)), ((a 12), .inl (cI, 300, .inl V.fi)), ((a 13), .inl (cI, 300, .inl V.se)), ((a 14), .inl (cI, 300, .inl V.th))]) [0, 1, 2, 3, 4, 5, 6, 7, 8, 9, 10, 11, 12, 13, 14, 15] (by decide) rfl
  refine lv_iconst (v := 1) hx hb d_Mo_block_20 (by decide) ?_
  refine lv_icmp_ne hx hb d_Mo_block_21 rfl (fun h21 => ?_) (fun h21 => ?_)
  · have h21 := mt (wkR_1).mpr h21
    refine lv_iconst (v := 1) hx hb d_Mo_block_28 (by decide) ?_
    refine va_put (D := (dC, dI)) (ci := 5) (v := .int 1) (ty := .int) (C := R_Mo) (T := F_Mo) (N := 19) hx hb hts u_Mo t_Mo t_Mo_ok n_Mo hown hK hP hD hS 0 rfl rfl 0 (by decide) (hts _ kw_714) (fun _ h9 => h9) rfl (by decide +kernel) rfl rfl (Nat.le_of_ble_eq_true rfl) d_Mo_block_29 (fun H locs hP hD hS => ?_)
    replace hP : va_P (dC, dI) classes [(o, .inr (5, [.int 1, .ref (a 0), .ref (a 1), .ref (a 2), .ref (a 3), .ref (a 4), .ref (a 5), .ref (a 6), .ref (a 7), .ref (a 8), .ref (a 9), .ref (a 10), .int (nI V.ne), .ref (a 11), .ref (a 12), .ref (a 13), .ref (a 14), .long ((wkF (some k) (blkL V x) 0 V.fo V.fl).2.2.1), .int ((wkF (some k) (blkL V x) 0 V.fo V.fl).2.2.2)])), ((a 0), .inl (cI, 2, .inl (fun z9 => nI (V.mn z9)))), ((a 1), .inl (cI, 400, .inl (fun z9 => nI (V.pre z9)))), ((a 2), .inl (cI, 400, .inl (fun z9 => nI (V.len z9)))), ((a 3), .inl (cI, 400, .inl (fun z9 => pI (V.par z9)))), ((a 4), .inl (cI, 400, .inl (fun z9 => nI (V.lev z9)))), ((a 5), .inl (cI, 400, .inl (fun z9 => nI (V.hol z9)))), ((a 6), .inl (cI, 400, .inl (fun z9 => nI (V.sta z9)))), ((a 7), .inl (cI, 400, .inl (fun z9 => nI (V.en z9)))), ((a 8), .inl (cI, 2, .inl (fun z9 => nI (V.tdy z9)))), ((a 9), .inl (cI, 2, .inl (fun z9 => nI (V.dys z9)))), ((a 10), .inl (cI, 8, .inl (fun z9 => nI (V.pol z9)))), ((a 11), .inl (cI, 300, .inl V.kd)), ((a 12), .inl (cI, 300, .inl V.fi)), ((a 13), .inl (cI, 300, .inl V.se)), ((a 14), .inl (cI, 300, .inl V.th))] H := hP
    replace hD : va_D A [(o, .inr (5, [.int 1, .ref (a 0), .ref (a 1), .ref (a 2), .ref (a 3), .ref (a 4), .ref (a 5), .ref (a 6), .ref (a 7), .ref (a 8), .ref (a 9), .ref (a 10), .int (nI V.ne), .ref (a 11), .ref (a 12), .ref (a 13), .ref (a 14), .long ((wkF (some k) (blkL V x) 0 V.fo V.fl).2.2.1), .int ((wkF (some k) (blkL V x) 0 V.fo V.fl).2.2.2)])), ((a 0), .inl (cI, 2, .inl (fun z9 => nI (V.mn z9)))), ((a 1), .inl (cI, 400, .inl (fun z9 => nI (V.pre z9)))), ((a 2), .inl (cI, 400, .inl (fun z9 => nI (V.len z9)))), ((a 3), .inl (cI, 400, .inl (fun z9 => pI (V.par z9)))), ((a 4), .inl (cI, 400, .inl (fun z9 => nI (V.lev z9)))), ((a 5), .inl (cI, 400, .inl (fun z9 => nI (V.hol z9)))), ((a 6), .inl (cI, 400, .inl (fun z9 => nI (V.sta z9)))), ((a 7), .inl (cI, 400, .inl (fun z9 => nI (V.en z9)))), ((a 8), .inl (cI, 2, .inl (fun z9 => nI (V.tdy z9)))), ((a 9), .inl (cI, 2, .inl (fun z9 => nI (V.dys z9)))), ((a 10), .inl (cI, 8, .inl (fun z9 => nI (V.pol z9)))), ((a 11), .inl (cI, 300, .inl V.kd)), ((a 12), .inl (cI, 300, .inl V.fi)), ((a 13), .inl (cI, 300, .inl V.se)), ((a 14), .inl (cI, 300, .inl V.th))] := hD
    refine lv_aload_n hx hb d_Mo_block_32 rfl (lv_at hl 0 rfl) ?_
    refine va_get (D := (dC, dI)) (ci := 5) (v := .int 1) (C := R_Mo) (T := F_Mo) (N := 19) hx hb hts u_Mo hown hK hP 0 rfl rfl 0 (by decide) (hts _ kw_714) (fun _ h9 => h9) rfl d_Mo_block_33 ?_
    refine lv_if_le hx hb d_Mo_block_36 rfl (fun h9 => absurd h9 (by decide)) (fun _ => ?_)
    refine lv_iconst (v := 0) hx hb d_Mo_block_39 (by decide) ?_
    refine lv_goto hx hb d_Mo_block_40 rfl ?_
    have e9 : moBlk V x k = vFn V 1 (wkF (some k) (blkL V x) 0 V.fo V.fl).2.2.1 (wkF (some k) (blkL V x) 0 V.fo V.fl).2.2.2 := by unfold moBlk; rw [if_pos ⟨h7, by omega⟩, if_neg h21]
    have e8 : moBlkR V x k u = 0 := by unfold moBlkR; rw [if_neg (fun q => h21 q.2)]
    have hP9 : va_P (dC, dI) classes (wMo cI o a (moBlk V x k)) H := by rw [e9]; exact hP
    have hD9 : va_D A (wMo cI o a (moBlk V x k)) := by rw [e9]; exact hD
    exact W.iret (v := 0) hx hb hr (fun t ht hW => ⟨⟨0, (), rfl, (by first | (rw [e8]; done) | (rw [e8]; rfl)), by rw [ht]; exact hP9, va_K.moved hW.alike hK, hD9⟩, hS.F ht⟩) hS.2.2 d_Mo_block_59
  have h21 := (wkR_1).mp h21
  refine lv_iconst (v := 0) hx hb d_Mo_block_24 (by decide) ?_
  refine lv_goto hx hb d_Mo_block_25 rfl ?_
  refine va_put (D := (dC, dI)) (ci := 5) (v := .int 0) (ty := .int) (C := R_Mo) (T := F_Mo) (N := 19) hx hb hts u_Mo t_Mo t_Mo_ok n_Mo hown hK hP hD hS 0 rfl rfl 0 (by decide) (hts _ kw_714) (fun _ h9 => h9) rfl (by decide +kernel) rfl rfl (Nat.le_of_ble_eq_true rfl) d_Mo_block_29 (fun H locs hP hD hS => ?_)
  replace hP : va_P (dC, dI) classes [(o, .inr (5, [.int 0, .ref (a 0), .ref (a 1), .ref (a 2), .ref (a 3), .ref (a 4), .ref (a 5), .ref (a 6), .ref (a 7), .ref (a 8), .ref (a 9), .ref (a 10), .int (nI V.ne), .ref (a 11), .ref (a 12), .ref (a 13), .ref (a 14), .long ((wkF (some k) (blkL V x) 0 V.fo V.fl).2.2.1), .int ((wkF (some k) (blkL V x) 0 V.fo V.fl).2.2.2)])), ((a 0), .inl (cI, 2, .inl (fun z9 => nI (V.mn z9)))), ((a 1), .inl (cI, 400, .inl (fun z9 => nI (V.pre z9)))), ((a 2), .inl (cI, 400, .inl (fun z9 => nI (V.len z9)))), ((a 3), .inl (cI, 400, .inl (fun z9 => pI (V.par z9)))), ((a 4), .inl (cI, 400, .inl (fun z9 => nI (V.lev z9)))), ((a 5), .inl (cI, 400, .inl (fun z9 => nI (V.hol z9)))), ((a 6), .inl (cI, 400, .inl (fun z9 => nI (V.sta z9)))), ((a 7), .inl (cI, 400, .inl (fun z9 => nI (V.en z9)))), ((a 8), .inl (cI, 2, .inl (fun z9 => nI (V.tdy z9)))), ((a 9), .inl (cI, 2, .inl (fun z9 => nI (V.dys z9)))), ((a 10), .inl (cI, 8, .inl (fun z9 => nI (V.pol z9)))), ((a 11), .inl (cI, 300, .inl V.kd)), ((a 12), .inl (cI, 300, .inl V.fi)), ((a 13), .inl (cI, 300, .inl V.se)), ((a 14), .inl (cI, 300, .inl V.th))] H := hP
  replace hD : va_D A [(o, .inr (5, [.int 0, .ref (a 0), .ref (a 1), .ref (a 2), .ref (a 3), .ref (a 4), .ref (a 5), .ref (a 6), .ref (a 7), .ref (a 8), .ref (a 9), .ref (a 10), .int (nI V.ne), .ref (a 11), .ref (a 12), .ref (a 13), .ref (a 14), .long ((wkF (some k) (blkL V x) 0 V.fo V.fl).2.2.1), .int ((wkF (some k) (blkL V x) 0 V.fo V.fl).2.2.2)])), ((a 0), .inl (cI, 2, .inl (fun z9 => nI (V.mn z9)))), ((a 1), .inl (cI, 400, .inl (fun z9 => nI (V.pre z9)))), ((a 2), .inl (cI, 400, .inl (fun z9 => nI (V.len z9)))), ((a 3), .inl (cI, 400, .inl (fun z9 => pI (V.par z9)))), ((a 4), .inl (cI, 400, .inl (fun z9 => nI (V.lev z9)))), ((a 5), .inl (cI, 400, .inl (fun z9 => nI (V.hol z9)))), ((a 6), .inl (cI, 400, .inl (fun z9 => nI (V.sta z9)))), ((a 7), .inl (cI, 400, .inl (fun z9 => nI (V.en z9)))), ((a 8), .inl (cI, 2, .inl (fun z9 => nI (V.tdy z9)))), ((a 9), .inl (cI, 2, .inl (fun z9 => nI (V.dys z9)))), ((a 10), .inl (cI, 8, .inl (fun z9 => nI (V.pol z9)))), ((a 11), .inl (cI, 300, .inl V.kd)), ((a 12), .inl (cI, 300, .inl V.fi)), ((a 13), .inl (cI, 300, .inl V.se)), ((a 14), .inl (cI, 300, .inl V.th))] := hD
  refine lv_aload_n hx hb d_Mo_block_32 rfl (lv_at hl 0 rfl) ?_
  refine va_get (D := (dC, dI)) (ci := 5) (v := .int 0) (C := R_Mo) (T := F_Mo) (N := 19) hx hb hts u_Mo hown hK hP 0 rfl rfl 0 (by decide) (hts _ kw_714) (fun _ h9 => h9) rfl d_Mo_block_33 ?_
  refine lv_if_le hx hb d_Mo_block_36 rfl (fun _ => ?_) (fun h9 => absurd (by decide) h9)
  refine lv_iload_n hx hb d_Mo_block_43 rfl (lv_at hl 3 rfl) ?_
  refine lv_if_eq hx hb d_Mo_block_44 rfl (fun h44 => ?_) (fun h44 => ?_)
  · have h44 : u = false := bi_eq0.mp h44
    refine lv_aload_n hx hb d_Mo_block_54 rfl (lv_at hl 0 rfl) ?_
    refine va_get (D := (dC, dI)) (ci := 5) (v := .long ((wkF (some k) (blkL V x) 0 V.fo V.fl).2.2.1)) (C := R_Mo) (T := F_Mo) (N := 19) hx hb hts u_Mo hown hK hP 0 rfl rfl 17 (by decide) (hts _ kw_731) (fun _ h9 => h9) rfl d_Mo_block_55 ?_
    refine lv_l2i hx hb d_Mo_block_58 rfl ?_
    have e9 : moBlk V x k = vFn V 0 (wkF (some k) (blkL V x) 0 V.fo V.fl).2.2.1 (wkF (some k) (blkL V x) 0 V.fo V.fl).2.2.2 := by unfold moBlk; rw [if_pos ⟨h7, by omega⟩, if_pos h21]
    have e8 : moBlkR V x k u = (wkF (some k) (blkL V x) 0 V.fo V.fl).2.2.1.toInt32 := by unfold moBlkR; rw [if_pos ⟨⟨h7, by omega⟩, h21⟩, h44]
    have hP9 : va_P (dC, dI) classes (wMo cI o a (moBlk V x k)) H := by rw [e9]; exact hP
    have hD9 : va_D A (wMo cI o a (moBlk V x k)) := by rw [e9]; exact hD
    exact W.iret (v := ((wkF (some k) (blkL V x) 0 V.fo V.fl).2.2.1).toInt32) hx hb hr (fun t ht hW => ⟨⟨((wkF (some k) (blkL V x) 0 V.fo V.fl).2.2.1).toInt32, (), rfl, (by first | (rw [e8]; done) | (rw [e8]; rfl)), by rw [ht]; exact hP9, va_K.moved hW.alike hK, hD9⟩, hS.F ht⟩) hS.2.2 d_Mo_block_59
  have h44 : u = true := bi_n0 h44
  refine lv_aload_n hx hb d_Mo_block_47 rfl (lv_at hl 0 rfl) ?_
  refine va_get (D := (dC, dI)) (ci := 5) (v := .int ((wkF (some k) (blkL V x) 0 V.fo V.fl).2.2.2)) (C := R_Mo) (T := F_Mo) (N := 19) hx hb hts u_Mo hown hK hP 0 rfl rfl 18 (by decide) (hts _ kw_732) (fun _ h9 => h9) rfl d_Mo_block_48 ?_
  refine lv_goto hx hb d_Mo_block_51 rfl ?_
  have e9 : moBlk V x k = vFn V 0 (wkF (some k) (blkL V x) 0 V.fo V.fl).2.2.1 (wkF (some k) (blkL V x) 0 V.fo V.fl).2.2.2 := by unfold moBlk; rw [if_pos ⟨h7, by omega⟩, if_pos h21]
  have e8 : moBlkR V x k u = (wkF (some k) (blkL V x) 0 V.fo V.fl).2.2.2 := by unfold moBlkR; rw [if_pos ⟨⟨h7, by omega⟩, h21⟩, h44]
  have hP9 : va_P (dC, dI) classes (wMo cI o a (moBlk V x k)) H := by rw [e9]; exact hP
  have hD9 : va_D A (wMo cI o a (moBlk V x k)) := by rw [e9]; exact hD
  exact W.iret (v := (wkF (some k) (blkL V x) 0 V.fo V.fl).2.2.2) hx hb hr (fun t ht hW => ⟨⟨(wkF (some k) (blkL V x) 0 V.fo V.fl).2.2.2, (), rfl, (by first | (rw [e8]; done) | (rw [e8]; rfl)), by rw [ht]; exact hP9, va_K.moved hW.alike hK, hD9⟩, hS.F ht⟩) hS.2.2 d_Mo_block_59
set_option maxHeartbeats 4000000 in
set_option maxRecDepth 100000 in
theorem c_Mo_cuts (l : Launch) (dC : Nat → ClassId) (dI : Nat → Nat → Nat) (sz : Nat) (cI : ClassId) (o : Nat) (a : Nat → Nat) (V : MS) (hV : MSok V) (x : Nat) (hx0 : x < 4294967296) : Met l y_Mo_cuts (.code y_Mo_cuts b_Mo_cuts 4 (some .int) :: wG) ({ frames := 2, cells := 0, slots := 0, locals := 44 }) (PcM (dC, dI) [(cI, .int)] (wMo cI o a V) [.ref o, .int (nI x)] sz) (QmI (dC, dI) [(cI, .int)] (wMo cI o a V) (wMo cI o a (mkV V.mn V.pre V.len V.lev V.hol V.sta V.en V.tdy V.dys V.pol V.par V.kd V.fi V.se V.th V.ne (recT V x) V.fo V.fl)) sz (nI (mcuR V x))) 0 0 (va_A (wMo cI o a V) sz) := by
  refine Met.ofW (cc := b_Mo_cuts) (maxL := 4) (ret := (some .int)) (by decide) rfl ?_
  intro pg eg s mg ag bg meth cg s₁ B hml hv
  obtain ⟨rfl, hsz, hP, hK, hD0, hN⟩ := hv
  have hx := B.exec
  have hb := B.bytes
  have hr := B.returns
  have hlocks := B.notSynchronized
  have hts : ∀ w9 ∈ wG, w9.before ([.ref o, .int (nI x)] : List Value).toArray s = true := fun w9 h9 => atoms_spec (ws := (.code y_Mo_cuts b_Mo_cuts 4 (some .int) :: wG)) B.pre w9 (List.mem_cons_of_mem _ h9)
  have hown : s.vm.findClass "PrefixRegistryModel" = some mg.cls := findClass_of_methodNamed B.named
  subst hsz
  have hD := hD0.self (sz := s.heap.size)
  unfold QmI
  generalize hAe : va_A (wMo cI o a V) s.heap.size = A at hD ⊢
  have hA : ∀ q : Nat, s.heap.size ≤ q → A q := fun q h => by rw [← hAe]; exact Or.inr h
  have hS : va_S A s.heap s.heap [] := va_S.rf
  have hl := lv_entry ([.ref o, .int (nI x)]) (n := 4) (Nat.le_of_ble_eq_true rfl)
  rw [lg_entry_eq]
  generalize (lg_sl ([.ref o, .int (nI x)]) ++ List.replicate (4 - (lg_sl ([.ref o, .int (nI x)])).length) Slot.unset).toArray = ls at hl ⊢
  replace hl : lv_has ls 4 [(0, .ref o), (1, .int (nI x))] := hl
  replace hP : va_P (dC, dI) classes (wMo cI o a V) s.heap := hP
  replace hD : va_D A (wMo cI o a V) := hD
  refine lv_aload_n hx hb d_Mo_cuts_0 rfl (lv_at hl 0 rfl) ?_
  refine lv_aload_n hx hb d_Mo_cuts_1 rfl (lv_at hl 0 rfl) ?_
  refine lv_iconst (v := 0) hx hb d_Mo_cuts_2 (by decide) ?_
  refine lv_iload_n hx hb d_Mo_cuts_3 rfl (lv_at hl 1 rfl) ?_
  refine vp_callSi (W.runV (b := o) (As := [.int 0, .int (nI x)]) (rest := [.ref o]) ⟨hx, hb, hml, hown, hts⟩ (c_Mo_isRecord l dC dI cI o a V hV 0 0 x (by decide) rfl hx0 ) (cwV 2 hts (gV kw_817 kw_819 ks_28 kw_6 kw_820) rfl rfl rfl (by decide +kernel) ⟨Nat.le_of_ble_eq_true rfl, Nat.le_of_ble_eq_true rfl⟩) ⟨PcS.blind, va_recv (q0 := 0) hK hP rfl rfl, PcS.use hP hK hN⟩ rfl rfl hl.1 rfl (lv_room (Nat.le_of_ble_eq_true rfl)) d_Mo_cuts_4 ⟨Nat.zero_le _, Nat.zero_le _⟩) (fun r4 hr4 => ?_)
  obtain rfl : r4 = bi (decide (x < V.mn 0)) := hr4
  refine lv_if_eq hx hb d_Mo_cuts_7 rfl (fun h7 => ?_) (fun h7 => ?_)
  · have h7 := bi_d.mp h7
    refine lv_iconst (v := 1) hx hb d_Mo_cuts_14 (by decide) ?_
    refine va_put (D := (dC, dI)) (ci := 5) (v := .int 1) (ty := .int) (C := R_Mo) (T := F_Mo) (N := 19) hx hb hts u_Mo t_Mo t_Mo_ok n_Mo hown hK hP hD hS 0 rfl rfl 0 (by decide) (hts _ kw_714) (fun _ h9 => h9) rfl (by decide +kernel) rfl rfl (Nat.le_of_ble_eq_true rfl) d_Mo_cuts_15 (fun H locs hP hD hS => ?_)
    replace hP : va_P (dC, dI) classes [(o, .inr (5, [.int 1, .ref (a 0), .ref (a 1), .ref (a 2), .ref (a 3), .ref (a 4), .ref (a 5), .ref (a 6), .ref (a 7), .ref (a 8), .ref (a 9), .ref (a 10), .int (nI V.ne), .ref (a 11), .ref (a 12), .ref (a 13), .ref (a 14), .long V.fo, .int V.fl])), ((a 0), .inl (cI, 2, .inl (fun z9 => nI (V.mn z9)))), ((a 1), .inl (cI, 400, .inl (fun z9 => nI (V.pre z9)))), ((a 2), .inl (cI, 400, .inl (fun z9 => nI (V.len z9)))), ((a 3), .inl (cI, 400, .inl (fun z9 => pI (V.par z9)))), ((a 4), .inl (cI, 400, .inl (fun z9 => nI (V.lev z9)))), ((a 5), .inl (cI, 400, .inl (fun z9 => nI (V.hol z9)))), ((a 6), .inl (cI, 400, .inl (fun z9 => nI (V.sta z9)))), ((a 7), .inl (cI, 400, .inl (fun z9 => nI (V.en z9)))), ((a 8), .inl (cI, 2, .inl (fun z9 => nI (V.tdy z9)))), ((a 9), .inl (cI, 2, .inl (fun z9 => nI (V.dys z9)))), ((a 10), .inl (cI, 8, .inl (fun z9 => nI (V.pol z9)))), ((a 11), .inl (cI, 300, .inl V.kd)), ((a 12), .inl (cI, 300, .inl V.fi)), ((a 13), .inl (cI, 300, .inl V.se)), ((a 14), .inl (cI, 300, .inl V.th))] H := hP
    replace hD : va_D A [(o, .inr (5, [.int 1, .ref (a 0), .ref (a 1), .ref (a 2), .ref (a 3), .ref (a 4), .ref (a 5), .ref (a 6), .ref (a 7), .ref (a 8), .ref (a 9), .ref (a 10), .int (nI V.ne), .ref (a 11), .ref (a 12), .ref (a 13), .ref (a 14), .long V.fo, .int V.fl])), ((a 0), .inl (cI, 2, .inl (fun z9 => nI (V.mn z9)))), ((a 1), .inl (cI, 400, .inl (fun z9 => nI (V.pre z9)))), ((a 2), .inl (cI, 400, .inl (fun z9 => nI (V.len z9)))), ((a 3), .inl (cI, 400, .inl (fun z9 => pI (V.par z9)))), ((a 4), .inl (cI, 400, .inl (fun z9 => nI (V.lev z9)))), ((a 5), .inl (cI, 400, .inl (fun z9 => nI (V.hol z9)))), ((a 6), .inl (cI, 400, .inl (fun z9 => nI (V.sta z9)))), ((a 7), .inl (cI, 400, .inl (fun z9 => nI (V.en z9)))), ((a 8), .inl (cI, 2, .inl (fun z9 => nI (V.tdy z9)))), ((a 9), .inl (cI, 2, .inl (fun z9 => nI (V.dys z9)))), ((a 10), .inl (cI, 8, .inl (fun z9 => nI (V.pol z9)))), ((a 11), .inl (cI, 300, .inl V.kd)), ((a 12), .inl (cI, 300, .inl V.fi)), ((a 13), .inl (cI, 300, .inl V.se)), ((a 14), .inl (cI, 300, .inl V.th))] := hD
    refine lv_iconst (v := 0) hx hb d_Mo_cuts_18 (by decide) ?_
    refine lv_istore_n hx hb d_Mo_cuts_19 rfl hl (by decide) rfl (fun ls hl => ?_)
    replace hl : lv_has ls 4 [(2, .int 0), (0, .ref o), (1, .int (nI x))] := hl
    refine lv_iconst (v := 0) hx hb d_Mo_cuts_20 (by decide) ?_
    refine lv_istore_n hx hb d_Mo_cuts_21 rfl hl (by decide) rfl (fun ls hl => ?_)
    replace hl : lv_has ls 4 [(3, .int 0), (2, .int 0), (0, .ref o), (1, .int (nI x))] := hl
    refine lv_iload_n hx hb d_Mo_cuts_22 rfl (lv_at hl 0 rfl) ?_
    refine lv_aload_n hx hb d_Mo_cuts_23 rfl (lv_at hl 2 rfl) ?_
    refine va_get (D := (dC, dI)) (ci := 5) (v := .ref (a 0)) (C := R_Mo) (T := F_Mo) (N := 19) hx hb hts u_Mo hown hK hP 0 rfl rfl 1 (by decide) (hts _ kw_715) (fun _ h9 => h9) rfl d_Mo_cuts_24 ?_
    refine lv_iconst (v := 0) hx hb d_Mo_cuts_27 (by decide) ?_
    refine x_iald (j := 0) (v := (nI (V.mn 0))) hx hb hK hP 1 0 rfl rfl (by decide) (by decide) rfl rfl d_Mo_cuts_28 ?_
    refine lv_icmp_ge hx hb d_Mo_cuts_29 rfl (fun h29 => ?_) (fun h29 => ?_)
    · refine lv_iload_n hx hb d_Mo_cuts_81 rfl (lv_at hl 1 rfl) ?_
      have e9 : recT V x = 1 := by unfold recT; rw [if_neg h7]
      have e8 : mcuR V x = 0 := by unfold mcuR; rw [if_neg h7]
      have hP9 : va_P (dC, dI) classes (wMo cI o a (mkV V.mn V.pre V.len V.lev V.hol V.sta V.en V.tdy V.dys V.pol V.par V.kd V.fi V.se V.th V.ne (recT V x) V.fo V.fl)) H := by rw [e9]; exact hP
      have hD9 : va_D A (wMo cI o a (mkV V.mn V.pre V.len V.lev V.hol V.sta V.en V.tdy V.dys V.pol V.par V.kd V.fi V.se V.th V.ne (recT V x) V.fo V.fl)) := by rw [e9]; exact hD
      exact W.iret (v := 0) hx hb hr (fun t ht hW => ⟨⟨0, (), rfl, (by first | (rw [e8]; done) | (rw [e8]; rfl)), by rw [ht]; exact hP9, va_K.moved hW.alike hK, hD9⟩, hS.F ht⟩) hS.2.2 d_Mo_cuts_82
    refine lv_aload_n hx hb d_Mo_cuts_32 rfl (lv_at hl 2 rfl) ?_
    refine va_get (D := (dC, dI)) (ci := 5) (v := .int 1) (C := R_Mo) (T := F_Mo) (N := 19) hx hb hts u_Mo hown hK hP 0 rfl rfl 0 (by decide) (hts _ kw_714) (fun _ h9 => h9) rfl d_Mo_cuts_33 ?_
    refine lv_if_ne hx hb d_Mo_cuts_36 rfl (fun h36 => ?_) (fun h9 => absurd h9 (by decide))
    refine lv_iload_n hx hb d_Mo_cuts_81 rfl (lv_at hl 1 rfl) ?_
    have e9 : recT V x = 1 := by unfold recT; rw [if_neg h7]
    have e8 : mcuR V x = 0 := by unfold mcuR; rw [if_neg h7]
    have hP9 : va_P (dC, dI) classes (wMo cI o a (mkV V.mn V.pre V.len V.lev V.hol V.sta V.en V.tdy V.dys V.pol V.par V.kd V.fi V.se V.th V.ne (recT V x) V.fo V.fl)) H := by rw [e9]; exact hP
    have hD9 : va_D A (wMo cI o a (mkV V.mn V.pre V.len V.lev V.hol V.sta V.en V.tdy V.dys V.pol V.par V.kd V.fi V.se V.th V.ne (recT V x) V.fo V.fl)) := by rw [e9]; exact hD
    exact W.iret (v := 0) hx hb hr (fun t ht hW => ⟨⟨0, (), rfl, (by first | (rw [e8]; done) | (rw [e8]; rfl)), by rw [ht]; exact hP9, va_K.moved hW.alike hK, hD9⟩, hS.F ht⟩) hS.2.2 d_Mo_cuts_82
  have h7 := Decidable.not_not.mp (mt bi_d.mpr h7)
  refine lv_iconst (v := 0) hx hb d_Mo_cuts_10 (by decide) ?_
  refine lv_goto hx hb d_Mo_cuts_11 rfl ?_
  refine va_put (D := (dC, dI)) (ci := 5) (v := .int 0) (ty := .int) (C := R_Mo) (T := F_Mo) (N := 19) hx hb hts u_Mo t_Mo t_Mo_ok n_Mo hown hK hP hD hS 0 rfl rfl 0 (by decide) (hts _ kw_714) (fun _ h9 => h9) rfl (by decide +kernel) rfl rfl (Nat.le_of_ble_eq_true rfl) d_Mo_cuts_15 (fun H locs hP hD hS => ?_)
  replace hP : va_P (dC, dI) classes [(o, .inr (5, [.int 0, .ref (a 0), .ref (a 1), .ref (a 2), .ref (a 3), .ref (a 4), .ref (a 5), .ref (a 6), .ref (a 7), .ref (a 8), .ref (a 9), .ref (a 10), .int (nI V.ne), .ref (a 11), .ref (a 12), .ref (a 13), .ref (a 14), .long V.fo, .int V.fl])), ((a 0), .inl (cI, 2, .inl (fun z9 => nI (V.mn z9)))), ((a 1), .inl (cI, 400, .inl (fun z9 => nI (V.pre z9)))), ((a 2), .inl (cI, 400, .inl (fun z9 => nI (V.len z9)))), ((a 3), .inl (cI, 400, .inl (fun z9 => pI (V.par z9)))), ((a 4), .inl (cI, 400, .inl (fun z9 => nI (V.lev z9)))), ((a 5), .inl (cI, 400, .inl (fun z9 => nI (V.hol z9)))), ((a 6), .inl (cI, 400, .inl (fun z9 => nI (V.sta z9)))), ((a 7), .inl (cI, 400, .inl (fun z9 => nI (V.en z9)))), ((a 8), .inl (cI, 2, .inl (fun z9 => nI (V.tdy z9)))), ((a 9), .inl (cI, 2, .inl (fun z9 => nI (V.dys z9)))), ((a 10), .inl (cI, 8, .inl (fun z9 => nI (V.pol z9)))), ((a 11), .inl (cI, 300, .inl V.kd)), ((a 12), .inl (cI, 300, .inl V.fi)), ((a 13), .inl (cI, 300, .inl V.se)), ((a 14), .inl (cI, 300, .inl V.th))] H := hP
  replace hD : va_D A [(o, .inr (5, [.int 0, .ref (a 0), .ref (a 1), .ref (a 2), .ref (a 3), .ref (a 4), .ref (a 5), .ref (a 6), .ref (a 7), .ref (a 8), .ref (a 9), .ref (a 10), .int (nI V.ne), .ref (a 11), .ref (a 12), .ref (a 13), .ref (a 14), .long V.fo, .int V.fl])), ((a 0), .inl (cI, 2, .inl (fun z9 => nI (V.mn z9)))), ((a 1), .inl (cI, 400, .inl (fun z9 => nI (V.pre z9)))), ((a 2), .inl (cI, 400, .inl (fun z9 => nI (V.len z9)))), ((a 3), .inl (cI, 400, .inl (fun z9 => pI (V.par z9)))), ((a 4), .inl (cI, 400, .inl (fun z9 => nI (V.lev z9)))), ((a 5), .inl (cI, 400, .inl (fun z9 => nI (V.hol z9)))), ((a 6), .inl (cI, 400, .inl (fun z9 => nI (V.sta z9)))), ((a 7), .inl (cI, 400, .inl (fun z9 => nI (V.en z9)))), ((a 8), .inl (cI, 2, .inl (fun z9 => nI (V.tdy z9)))), ((a 9), .inl (cI, 2, .inl (fun z9 => nI (V.dys z9)))), ((a 10), .inl (cI, 8, .inl (fun z9 => nI (V.pol z9)))), ((a 11), .inl (cI, 300, .inl V.kd)), ((a 12), .inl (cI, 300, .inl V.fi)), ((a 13), .inl (cI, 300, .inl V.se)), ((a 14), .inl (cI, 300, .inl V.th))] := hD
  refine lv_iconst (v := 0) hx hb d_Mo_cuts_18 (by decide) ?_
  refine lv_istore_n hx hb d_Mo_cuts_19 rfl hl (by decide) rfl (fun ls hl => ?_)
  replace hl : lv_has ls 4 [(2, .int 0), (0, .ref o), (1, .int (nI x))] := hl
  refine lv_iconst (v := 0) hx hb d_Mo_cuts_20 (by decide) ?_
  refine lv_istore_n hx hb d_Mo_cuts_21 rfl hl (by decide) rfl (fun ls hl => ?_)
  replace hl : lv_has ls 4 [(3, .int 0), (2, .int 0), (0, .ref o), (1, .int (nI x))] := hl
  obtain ⟨i, hi0⟩ : ∃ i : Nat, i = 0 := ⟨_, rfl⟩
  obtain ⟨k, hk0⟩ : ∃ k : Nat, k = V.mn 0 - 0 := ⟨_, rfl⟩
  obtain ⟨sm, hsm⟩ : ∃ sm : Nat, sm = 0 := ⟨_, rfl⟩
  have hres : sumF (cuF V x) i k sm = cuN V x := by rw [hi0, hk0, hsm]; rfl
  replace hl : lv_has ls 4 [(3, .int (nI i)), (2, .int (nI sm)), (0, .ref o), (1, .int (nI x))] := by subst hi0; subst hsm; exact hl
  have hik : i + k = V.mn 0 := by omega
  clear hi0 hk0 hsm
  replace hres := hres
  replace hl : lv_has ls 4 [(3, .int (nI i)), (2, .int (nI sm)), (0, .ref o), (1, .int (nI x))] := hl
  induction k generalizing i ls sm with
  | zero =>
    refine lv_iload_n hx hb d_Mo_cuts_22 rfl (lv_at hl 0 rfl) ?_
    refine lv_aload_n hx hb d_Mo_cuts_23 rfl (lv_at hl 2 rfl) ?_
    refine va_get (D := (dC, dI)) (ci := 5) (v := .ref (a 0)) (C := R_Mo) (T := F_Mo) (N := 19) hx hb hts u_Mo hown hK hP 0 rfl rfl 1 (by decide) (hts _ kw_715) (fun _ h9 => h9) rfl d_Mo_cuts_24 ?_
    refine lv_iconst (v := 0) hx hb d_Mo_cuts_27 (by decide) ?_
    refine x_iald (j := 0) (v := (nI (V.mn 0))) hx hb hK hP 1 0 rfl rfl (by decide) (by decide) rfl rfl d_Mo_cuts_28 ?_
    refine lv_icmp_ge hx hb d_Mo_cuts_29 rfl (fun _ => ?_) (fun h9 => absurd (nI_le (by omega) (by have := hV.mn 0; omega)) h9)
    refine lv_iload_n hx hb d_Mo_cuts_81 rfl (lv_at hl 1 rfl) ?_
    have e9 : recT V x = 0 := by unfold recT; rw [if_pos h7]
    have e8 : mcuR V x = sm := by unfold mcuR; rw [if_pos h7]; exact hres.symm
    have hP9 : va_P (dC, dI) classes (wMo cI o a (mkV V.mn V.pre V.len V.lev V.hol V.sta V.en V.tdy V.dys V.pol V.par V.kd V.fi V.se V.th V.ne (recT V x) V.fo V.fl)) H := by rw [e9]; exact hP
    have hD9 : va_D A (wMo cI o a (mkV V.mn V.pre V.len V.lev V.hol V.sta V.en V.tdy V.dys V.pol V.par V.kd V.fi V.se V.th V.ne (recT V x) V.fo V.fl)) := by rw [e9]; exact hD
    exact W.iret (v := (nI sm)) hx hb hr (fun t ht hW => ⟨⟨(nI sm), (), rfl, (by first | (rw [e8]; done) | (rw [e8]; rfl)), by rw [ht]; exact hP9, va_K.moved hW.alike hK, hD9⟩, hS.F ht⟩) hS.2.2 d_Mo_cuts_82
  | succ k ih =>
    refine lv_iload_n hx hb d_Mo_cuts_22 rfl (lv_at hl 0 rfl) ?_
    refine lv_aload_n hx hb d_Mo_cuts_23 rfl (lv_at hl 2 rfl) ?_
    refine va_get (D := (dC, dI)) (ci := 5) (v := .ref (a 0)) (C := R_Mo) (T := F_Mo) (N := 19) hx hb hts u_Mo hown hK hP 0 rfl rfl 1 (by decide) (hts _ kw_715) (fun _ h9 => h9) rfl d_Mo_cuts_24 ?_
    refine lv_iconst (v := 0) hx hb d_Mo_cuts_27 (by decide) ?_
    refine x_iald (j := 0) (v := (nI (V.mn 0))) hx hb hK hP 1 0 rfl rfl (by decide) (by decide) rfl rfl d_Mo_cuts_28 ?_
    refine lv_icmp_ge hx hb d_Mo_cuts_29 rfl (fun h9 => absurd h9 (nI_ge (by omega) (by have := hV.mn 0; omega))) (fun _ => ?_)
    refine lv_aload_n hx hb d_Mo_cuts_32 rfl (lv_at hl 2 rfl) ?_
    refine va_get (D := (dC, dI)) (ci := 5) (v := .int 0) (C := R_Mo) (T := F_Mo) (N := 19) hx hb hts u_Mo hown hK hP 0 rfl rfl 0 (by decide) (hts _ kw_714) (fun _ h9 => h9) rfl d_Mo_cuts_33 ?_
    refine lv_if_ne hx hb d_Mo_cuts_36 rfl (fun h9 => absurd h9 (fun q => q rfl)) (fun _ => ?_)
    refine lv_iload_n hx hb d_Mo_cuts_39 rfl (lv_at hl 1 rfl) ?_
    refine lv_aload_n hx hb d_Mo_cuts_40 rfl (lv_at hl 2 rfl) ?_
    refine va_get (D := (dC, dI)) (ci := 5) (v := .ref (a 3)) (C := R_Mo) (T := F_Mo) (N := 19) hx hb hts u_Mo hown hK hP 0 rfl rfl 4 (by decide) (hts _ kw_718) (fun _ h9 => h9) rfl d_Mo_cuts_41 ?_
    refine lv_iload_n hx hb d_Mo_cuts_44 rfl (lv_at hl 0 rfl) ?_
    refine x_iald (j := i) (v := (pI (V.par i))) hx hb hK hP 4 0 rfl rfl (by have := hV.mn 0; omega) (by decide) rfl rfl d_Mo_cuts_45 ?_
    refine lv_iload_n hx hb d_Mo_cuts_46 rfl (lv_at hl 3 rfl) ?_
    refine lv_icmp_ne hx hb d_Mo_cuts_47 rfl (fun h47 => ?_) (fun h47 => ?_)
    · have h47 := mt (pI_eq (fun k q => by have := hV.par q; omega) (by have := hV.mn 0; omega)).mpr h47
      refine lv_iconst (v := 0) hx hb d_Mo_cuts_72 (by decide) ?_
      refine lv_iadd hx hb d_Mo_cuts_73 ?_
      refine x_topi (y := (nI sm)) (nI_add _ 0) ?_
      refine lv_istore_n hx hb d_Mo_cuts_74 rfl hl (by decide) rfl (fun ls hl => ?_)
      replace hl : lv_has ls 4 [(2, .int (nI sm)), (3, .int (nI i)), (0, .ref o), (1, .int (nI x))] := hl
      refine lv_iinc hx hb d_Mo_cuts_75 hl (k := 1) (v := (nI (i + 1))) rfl (nI_1 i) (by decide) rfl (fun ls hl => ?_)
      replace hl : lv_has ls 4 [(3, .int (nI (i + 1))), (2, .int (nI sm)), (0, .ref o), (1, .int (nI x))] := hl
      refine lv_goto hx hb d_Mo_cuts_78 rfl ?_
      refine ih _ _ _ ?_ ?_ hl
      · omega
      · exact (by rw [← hres]; simp only [sumF, cuF]; rw [if_neg (fun q => h47 q.1)]; rfl)
    have h47 := (pI_eq (fun k q => by have := hV.par q; omega) (by have := hV.mn 0; omega)).mp h47
    refine lv_aload_n hx hb d_Mo_cuts_50 rfl (lv_at hl 2 rfl) ?_
    refine va_get (D := (dC, dI)) (ci := 5) (v := .ref (a 6)) (C := R_Mo) (T := F_Mo) (N := 19) hx hb hts u_Mo hown hK hP 0 rfl rfl 7 (by decide) (hts _ kw_721) (fun _ h9 => h9) rfl d_Mo_cuts_51 ?_
    refine lv_iload_n hx hb d_Mo_cuts_54 rfl (lv_at hl 0 rfl) ?_
    refine x_iald (j := i) (v := (nI (V.sta i))) hx hb hK hP 7 0 rfl rfl (by have := hV.mn 0; omega) (by decide) rfl rfl d_Mo_cuts_55 ?_
    refine lv_iconst (v := 1) hx hb d_Mo_cuts_56 (by decide) ?_
    refine lv_icmp_ne hx hb d_Mo_cuts_57 rfl (fun h57 => ?_) (fun h57 => ?_)
    · have h57 := mt (k_eq (b := 1) (by have := hV.sta i; omega) (by decide)).mpr h57
      refine lv_iconst (v := 0) hx hb d_Mo_cuts_72 (by decide) ?_
      refine lv_iadd hx hb d_Mo_cuts_73 ?_
      refine x_topi (y := (nI sm)) (nI_add _ 0) ?_
      refine lv_istore_n hx hb d_Mo_cuts_74 rfl hl (by decide) rfl (fun ls hl => ?_)
      replace hl : lv_has ls 4 [(2, .int (nI sm)), (3, .int (nI i)), (0, .ref o), (1, .int (nI x))] := hl
      refine lv_iinc hx hb d_Mo_cuts_75 hl (k := 1) (v := (nI (i + 1))) rfl (nI_1 i) (by decide) rfl (fun ls hl => ?_)
      replace hl : lv_has ls 4 [(3, .int (nI (i + 1))), (2, .int (nI sm)), (0, .ref o), (1, .int (nI x))] := hl
      refine lv_goto hx hb d_Mo_cuts_78 rfl ?_
      refine ih _ _ _ ?_ ?_ hl
      · omega
      · exact (by rw [← hres]; simp only [sumF, cuF]; rw [if_neg (fun q => h57 q.2)]; rfl)
    have h57 := (k_eq (b := 1) (by have := hV.sta i; omega) (by decide)).mp h57
    refine lv_aload_n hx hb d_Mo_cuts_60 rfl (lv_at hl 2 rfl) ?_
    refine va_get (D := (dC, dI)) (ci := 5) (v := .ref (a 2)) (C := R_Mo) (T := F_Mo) (N := 19) hx hb hts u_Mo hown hK hP 0 rfl rfl 3 (by decide) (hts _ kw_717) (fun _ h9 => h9) rfl d_Mo_cuts_61 ?_
    refine lv_iload_n hx hb d_Mo_cuts_64 rfl (lv_at hl 0 rfl) ?_
    refine x_iald (j := i) (v := (nI (V.len i))) hx hb hK hP 3 0 rfl rfl (by have := hV.mn 0; omega) (by decide) rfl rfl d_Mo_cuts_65 ?_
    refine vp_callSi (W.runS (As := [.int (nI (V.len i))]) (rest := [.int (nI sm)]) ⟨hx, hb, hml, hown, hts⟩ (c_Mo_cutsOf l dC dI (V.len i) (hV.len _)) (cwS 1 hts (gS kw_995 kw_996 kw_6 kw_997) rfl rfl rfl (by decide +kernel) ⟨Nat.le_of_ble_eq_true rfl, Nat.le_of_ble_eq_true rfl⟩) ⟨PcS.blind, PcS.use hP hK hN⟩ rfl rfl hl.1 rfl (lv_room (Nat.le_of_ble_eq_true rfl)) d_Mo_cuts_66 ⟨Nat.zero_le _, Nat.zero_le _⟩) (fun r66 hr66 => ?_)
    obtain rfl : r66 = (nI (2 ^ (cl4 (V.len i) - (V.len i)))) := hr66
    refine lv_goto hx hb d_Mo_cuts_69 rfl ?_
    refine lv_iadd hx hb d_Mo_cuts_73 ?_
    refine x_topi (y := (nI (sm + 2 ^ (cl4 (V.len i) - V.len i)))) (nI_add _ _) ?_
    refine lv_istore_n hx hb d_Mo_cuts_74 rfl hl (by decide) rfl (fun ls hl => ?_)
    replace hl : lv_has ls 4 [(2, .int (nI (sm + 2 ^ (cl4 (V.len i) - V.len i)))), (3, .int (nI i)), (0, .ref o), (1, .int (nI x))] := hl
    refine lv_iinc hx hb d_Mo_cuts_75 hl (k := 1) (v := (nI (i + 1))) rfl (nI_1 i) (by decide) rfl (fun ls hl => ?_)
    replace hl : lv_has ls 4 [(3, .int (nI (i + 1))), (2, .int (nI (sm + 2 ^ (cl4 (V.len i) - V.len i)))), (0, .ref o), (1, .int (nI x))] := hl
    refine lv_goto hx hb d_Mo_cuts_78 rfl ?_
    refine ih _ _ _ ?_ ?_ hl
    · omega
    · exact (by rw [← hres]; simp only [sumF, cuF]; rw [if_pos ⟨h47, h57⟩])
set_option maxHeartbeats 4000000 in
set_option maxRecDepth 100000 in
theorem c_Mo_cut (l : Launch) (dC : Nat → ClassId) (dI : Nat → Nat → Nat) (sz : Nat) (cI : ClassId) (o : Nat) (a : Nat → Nat) (V : MS) (hV : MSok V) (x k9 : Nat) (hx0 : x < 4294967296) (hk0 : k9 < 4294967296) (u : Bool) : Met l y_Mo_cut (.code y_Mo_cut b_Mo_cut 8 (some .int) :: wG) ({ frames := 2, cells := 0, slots := 0, locals := 44 }) (PcM (dC, dI) [(cI, .int)] (wMo cI o a V) [.ref o, .int (nI x), .int (nI k9), .int (bi u)] sz) (QmI (dC, dI) [(cI, .int)] (wMo cI o a V) (wMo cI o a (mkV V.mn V.pre V.len V.lev V.hol V.sta V.en V.tdy V.dys V.pol V.par V.kd V.fi V.se V.th V.ne (match mctN V x k9 with | none => 1 | some _ => 0) V.fo V.fl)) sz (mctR V x k9 u (mctN V x k9))) 0 0 (va_A (wMo cI o a V) sz) := by
  refine Met.ofW (cc := b_Mo_cut) (maxL := 8) (ret := (some .int)) (by decide) rfl ?_
  intro pg eg s mg ag bg meth cg s₁ B hml hv
  obtain ⟨rfl, hsz, hP, hK, hD0, hN⟩ := hv
  have hx := B.exec
  have hb := B.bytes
  have hr := B.returns
  have hlocks := B.notSynchronized
  have hts : ∀ w9 ∈ wG, w9.before ([.ref o, .int (nI x), .int (nI k9), .int (bi u)] : List Value).toArray s = true := fun w9 h9 => atoms_spec (ws := (.code y_Mo_cut b_Mo_cut 8 (some .int) :: wG)) B.pre w9 (List.mem_cons_of_mem _ h9)
  have hown : s.vm.findClass "PrefixRegistryModel" = some mg.cls := findClass_of_methodNamed B.named
  subst hsz
  have hD := hD0.self (sz := s.heap.size)
  unfold QmI
  generalize hAe : va_A (wMo cI o a V) s.heap.size = A at hD ⊢
  have hA : ∀ q : Nat, s.heap.size ≤ q → A q := fun q h => by rw [← hAe]; exact Or.inr h
  have hS : va_S A s.heap s.heap [] := va_S.rf
  have hl := lv_entry ([.ref o, .int (nI x), .int (nI k9), .int (bi u)]) (n := 8) (Nat.le_of_ble_eq_true rfl)
  rw [lg_entry_eq]
  generalize (lg_sl ([.ref o, .int (nI x), .int (nI k9), .int (bi u)]) ++ List.replicate (8 - (lg_sl ([.ref o, .int (nI x), .int (nI k9), .int (bi u)])).length) Slot.unset).toArray = ls at hl ⊢
  replace hl : lv_has ls 8 [(0, .ref o), (1, .int (nI x)), (2, .int (nI k9)), (3, .int (bi u))] := hl
  replace hP : va_P (dC, dI) classes (wMo cI o a V) s.heap := hP
  replace hD : va_D A (wMo cI o a V) := hD
  refine lv_aload_n hx hb d_Mo_cut_0 rfl (lv_at hl 0 rfl) ?_
  refine lv_iconst (v := 1) hx hb d_Mo_cut_1 (by decide) ?_
  refine va_put (D := (dC, dI)) (ci := 5) (v := .int 1) (ty := .int) (C := R_Mo) (T := F_Mo) (N := 19) hx hb hts u_Mo t_Mo t_Mo_ok n_Mo hown hK hP hD hS 0 rfl rfl 0 (by decide) (hts _ kw_714) (fun _ h9 => h9) rfl (by decide +kernel) rfl rfl (Nat.le_of_ble_eq_true rfl) d_Mo_cut_2 (fun H locs hP hD hS => ?_)
  replace hP : va_P (dC, dI) classes [(o, .inr (5, [.int 1, .ref (a 0), .ref (a 1), .ref (a 2), .ref (a 3), .ref (a 4), .ref (a 5), .ref (a 6), .ref (a 7), .ref (a 8), .ref (a 9), .ref (a 10), .int (nI V.ne), .ref (a 11), .ref (a 12), .ref (a 13), .ref (a 14), .long V.fo, .int V.fl])), ((a 0), .inl (cI, 2, .inl (fun z9 => nI (V.mn z9)))), ((a 1), .inl (cI, 400, .inl (fun z9 => nI (V.pre z9)))), ((a 2), .inl (cI, 400, .inl (fun z9 => nI (V.len z9)))), ((a 3), .inl (cI, 400, .inl (fun z9 => pI (V.par z9)))), ((a 4), .inl (cI, 400, .inl (fun z9 => nI (V.lev z9)))), ((a 5), .inl (cI, 400, .inl (fun z9 => nI (V.hol z9)))), ((a 6), .inl (cI, 400, .inl (fun z9 => nI (V.sta z9)))), ((a 7), .inl (cI, 400, .inl (fun z9 => nI (V.en z9)))), ((a 8), .inl (cI, 2, .inl (fun z9 => nI (V.tdy z9)))), ((a 9), .inl (cI, 2, .inl (fun z9 => nI (V.dys z9)))), ((a 10), .inl (cI, 8, .inl (fun z9 => nI (V.pol z9)))), ((a 11), .inl (cI, 300, .inl V.kd)), ((a 12), .inl (cI, 300, .inl V.fi)), ((a 13), .inl (cI, 300, .inl V.se)), ((a 14), .inl (cI, 300, .inl V.th))] H := hP
  replace hD : va_D A [(o, .inr (5, [.int 1, .ref (a 0), .ref (a 1), .ref (a 2), .ref (a 3), .ref (a 4), .ref (a 5), .ref (a 6), .ref (a 7), .ref (a 8), .ref (a 9), .ref (a 10), .int (nI V.ne), .ref (a 11), .ref (a 12), .ref (a 13), .ref (a 14), .long V.fo, .int V.fl])), ((a 0), .inl (cI, 2, .inl (fun z9 => nI (V.mn z9)))), ((a 1), .inl (cI, 400, .inl (fun z9 => nI (V.pre z9)))), ((a 2), .inl (cI, 400, .inl (fun z9 => nI (V.len z9)))), ((a 3), .inl (cI, 400, .inl (fun z9 => pI (V.par z9)))), ((a 4), .inl (cI, 400, .inl (fun z9 => nI (V.lev z9)))), ((a 5), .inl (cI, 400, .inl (fun z9 => nI (V.hol z9)))), ((a 6), .inl (cI, 400, .inl (fun z9 => nI (V.sta z9)))), ((a 7), .inl (cI, 400, .inl (fun z9 => nI (V.en z9)))), ((a 8), .inl (cI, 2, .inl (fun z9 => nI (V.tdy z9)))), ((a 9), .inl (cI, 2, .inl (fun z9 => nI (V.dys z9)))), ((a 10), .inl (cI, 8, .inl (fun z9 => nI (V.pol z9)))), ((a 11), .inl (cI, 300, .inl V.kd)), ((a 12), .inl (cI, 300, .inl V.fi)), ((a 13), .inl (cI, 300, .inl V.se)), ((a 14), .inl (cI, 300, .inl V.th))] := hD
  refine lv_aload_n hx hb d_Mo_cut_5 rfl (lv_at hl 0 rfl) ?_
  refine lv_iconst (v := 0) hx hb d_Mo_cut_6 (by decide) ?_
  refine lv_iload_n hx hb d_Mo_cut_7 rfl (lv_at hl 1 rfl) ?_
  refine vp_callSi (W.runV (b := o) (As := [.int 0, .int (nI x)]) (rest := []) ⟨hx, hb, hml, hown, hts⟩ (c_Mo_isRecord l dC dI cI o a (mkV V.mn V.pre V.len V.lev V.hol V.sta V.en V.tdy V.dys V.pol V.par V.kd V.fi V.se V.th V.ne 1 V.fo V.fl) hV 0 0 x (by decide) rfl hx0 ) (cwV 2 hts (gV kw_817 kw_819 ks_28 kw_6 kw_820) rfl rfl rfl (by decide +kernel) ⟨Nat.le_of_ble_eq_true rfl, Nat.le_of_ble_eq_true rfl⟩) ⟨PcS.blind, va_recv (q0 := 0) hK hP rfl rfl, PcS.use hP hK hN⟩ rfl rfl hl.1 rfl (lv_room (Nat.le_of_ble_eq_true rfl)) d_Mo_cut_8 ⟨Nat.zero_le _, Nat.zero_le _⟩) (fun r8 hr8 => ?_)
  obtain rfl : r8 = bi (decide (x < V.mn 0)) := hr8
  refine lv_if_eq hx hb d_Mo_cut_11 rfl (fun h11 => ?_) (fun h11 => ?_)
  · have h11 := bi_d.mp h11
    refine lv_iconst (v := 0) hx hb d_Mo_cut_18 (by decide) ?_
    have e9 : mctN V x k9 = none := by unfold mctN; rw [if_neg (fun q => h11 q.1)]
    have hP9 : va_P (dC, dI) classes (wMo cI o a (mkV V.mn V.pre V.len V.lev V.hol V.sta V.en V.tdy V.dys V.pol V.par V.kd V.fi V.se V.th V.ne (match mctN V x k9 with | none => 1 | some _ => 0) V.fo V.fl)) H := by rw [e9]; exact hP
    have hD9 : va_D A (wMo cI o a (mkV V.mn V.pre V.len V.lev V.hol V.sta V.en V.tdy V.dys V.pol V.par V.kd V.fi V.se V.th V.ne (match mctN V x k9 with | none => 1 | some _ => 0) V.fo V.fl)) := by rw [e9]; exact hD
    exact W.iret (v := 0) hx hb hr (fun t ht hW => ⟨⟨0, (), rfl, (by rw [e9]; rfl), by rw [ht]; exact hP9, va_K.moved hW.alike hK, hD9⟩, hS.F ht⟩) hS.2.2 d_Mo_cut_19
  have h11 := Decidable.not_not.mp (mt bi_d.mpr h11)
  refine lv_iload_n hx hb d_Mo_cut_14 rfl (lv_at hl 2 rfl) ?_
  refine lv_if_ge hx hb d_Mo_cut_15 rfl (fun h15 => ?_) (fun h15 => ?_)
  · have h15 := (k_0le hk0).mp h15
    refine lv_iconst (v := 0) hx hb d_Mo_cut_20 (by decide) ?_
    refine lv_istore hx hb d_Mo_cut_21 hl (by decide) rfl (fun ls hl => ?_)
    replace hl : lv_has ls 8 [(4, .int 0), (0, .ref o), (1, .int (nI x)), (2, .int (nI k9)), (3, .int (bi u))] := hl
    obtain ⟨i, hi0⟩ : ∃ i : Nat, i = 0 := ⟨_, rfl⟩
    obtain ⟨k, hk0⟩ : ∃ k : Nat, k = V.mn 0 - 0 := ⟨_, rfl⟩
    have hres : fst (ctP V x k9) i k = fst (ctP V x k9) 0 (V.mn 0) := by rw [hi0, hk0]; rfl
    replace hl : lv_has ls 8 [(4, .int (nI i)), (0, .ref o), (1, .int (nI x)), (2, .int (nI k9)), (3, .int (bi u))] := by subst hi0; exact hl
    have hik : i + k = V.mn 0 := by omega
    clear hi0 hk0 
    replace hres := hres
    replace hl : lv_has ls 8 [(4, .int (nI i)), (0, .ref o), (1, .int (nI x)), (2, .int (nI k9)), (3, .int (bi u))] := hl
    induction k generalizing i ls  with
    | zero =>
      refine lv_iload hx hb d_Mo_cut_23 (lv_at hl 0 rfl) ?_
      refine lv_aload_n hx hb d_Mo_cut_25 rfl (lv_at hl 1 rfl) ?_
      refine va_get (D := (dC, dI)) (ci := 5) (v := .ref (a 0)) (C := R_Mo) (T := F_Mo) (N := 19) hx hb hts u_Mo hown hK hP 0 rfl rfl 1 (by decide) (hts _ kw_715) (fun _ h9 => h9) rfl d_Mo_cut_26 ?_
      refine lv_iconst (v := 0) hx hb d_Mo_cut_29 (by decide) ?_
      refine x_iald (j := 0) (v := (nI (V.mn 0))) hx hb hK hP 1 0 rfl rfl (by decide) (by decide) rfl rfl d_Mo_cut_30 ?_
      refine lv_icmp_ge hx hb d_Mo_cut_31 rfl (fun _ => ?_) (fun h9 => absurd (nI_le (by omega) (by have := hV.mn 0; omega)) h9)
      refine lv_iconst (v := 0) hx hb d_Mo_cut_212 (by decide) ?_
      have e9 : mctN V x k9 = none := by unfold mctN; rw [if_pos ⟨h11, h15⟩, ← hres]; rfl
      have hP9 : va_P (dC, dI) classes (wMo cI o a (mkV V.mn V.pre V.len V.lev V.hol V.sta V.en V.tdy V.dys V.pol V.par V.kd V.fi V.se V.th V.ne (match mctN V x k9 with | none => 1 | some _ => 0) V.fo V.fl)) H := by rw [e9]; exact hP
      have hD9 : va_D A (wMo cI o a (mkV V.mn V.pre V.len V.lev V.hol V.sta V.en V.tdy V.dys V.pol V.par V.kd V.fi V.se V.th V.ne (match mctN V x k9 with | none => 1 | some _ => 0) V.fo V.fl)) := by rw [e9]; exact hD
      exact W.iret (v := 0) hx hb hr (fun t ht hW => ⟨⟨0, (), rfl, (by rw [e9]; rfl), by rw [ht]; exact hP9, va_K.moved hW.alike hK, hD9⟩, hS.F ht⟩) hS.2.2 d_Mo_cut_213
    | succ k ih =>
      refine lv_iload hx hb d_Mo_cut_23 (lv_at hl 0 rfl) ?_
      refine lv_aload_n hx hb d_Mo_cut_25 rfl (lv_at hl 1 rfl) ?_
      refine va_get (D := (dC, dI)) (ci := 5) (v := .ref (a 0)) (C := R_Mo) (T := F_Mo) (N := 19) hx hb hts u_Mo hown hK hP 0 rfl rfl 1 (by decide) (hts _ kw_715) (fun _ h9 => h9) rfl d_Mo_cut_26 ?_
      refine lv_iconst (v := 0) hx hb d_Mo_cut_29 (by decide) ?_
      refine x_iald (j := 0) (v := (nI (V.mn 0))) hx hb hK hP 1 0 rfl rfl (by decide) (by decide) rfl rfl d_Mo_cut_30 ?_
      refine lv_icmp_ge hx hb d_Mo_cut_31 rfl (fun h9 => absurd h9 (nI_ge (by omega) (by have := hV.mn 0; omega))) (fun _ => ?_)
      refine lv_aload_n hx hb d_Mo_cut_34 rfl (lv_at hl 1 rfl) ?_
      refine va_get (D := (dC, dI)) (ci := 5) (v := .ref (a 3)) (C := R_Mo) (T := F_Mo) (N := 19) hx hb hts u_Mo hown hK hP 0 rfl rfl 4 (by decide) (hts _ kw_718) (fun _ h9 => h9) rfl d_Mo_cut_35 ?_
      refine lv_iload hx hb d_Mo_cut_38 (lv_at hl 0 rfl) ?_
      refine x_iald (j := i) (v := (pI (V.par i))) hx hb hK hP 4 0 rfl rfl (by have := hV.mn 0; omega) (by decide) rfl rfl d_Mo_cut_40 ?_
      refine lv_iload_n hx hb d_Mo_cut_41 rfl (lv_at hl 2 rfl) ?_
      refine lv_icmp_ne hx hb d_Mo_cut_42 rfl (fun h42 => ?_) (fun h42 => ?_)
      · have h42 := mt (pI_eq (fun k q => by have := hV.par q; omega) (by have := hV.mn 0; omega)).mpr h42
        refine lv_iinc hx hb d_Mo_cut_206 hl (k := 0) (v := (nI (i + 1))) rfl (nI_1 i) (by decide) rfl (fun ls hl => ?_)
        replace hl : lv_has ls 8 [(4, .int (nI (i + 1))), (0, .ref o), (1, .int (nI x)), (2, .int (nI k9)), (3, .int (bi u))] := hl
        refine lv_goto hx hb d_Mo_cut_209 rfl ?_
        refine ih _ _ ?_ ?_ hl
        · omega
        · exact (by rw [← hres]; simp only [fst]; rw [if_neg (by unfold ctP; simp only [decide_eq_true_eq]; exact fun q => h42 q.1)])
      have h42 := (pI_eq (fun k q => by have := hV.par q; omega) (by have := hV.mn 0; omega)).mp h42
      refine lv_aload_n hx hb d_Mo_cut_45 rfl (lv_at hl 1 rfl) ?_
      refine va_get (D := (dC, dI)) (ci := 5) (v := .ref (a 6)) (C := R_Mo) (T := F_Mo) (N := 19) hx hb hts u_Mo hown hK hP 0 rfl rfl 7 (by decide) (hts _ kw_721) (fun _ h9 => h9) rfl d_Mo_cut_46 ?_
      refine lv_iload hx hb d_Mo_cut_49 (lv_at hl 0 rfl) ?_
      refine x_iald (j := i) (v := (nI (V.sta i))) hx hb hK hP 7 0 rfl rfl (by have := hV.mn 0; omega) (by decide) rfl rfl d_Mo_cut_51 ?_
      refine lv_iconst (v := 1) hx hb d_Mo_cut_52 (by decide) ?_
      refine lv_icmp_ne hx hb d_Mo_cut_53 rfl (fun h53 => ?_) (fun h53 => ?_)
      · have h53 := mt (k_eq (b := 1) (by have := hV.sta i; omega) (by decide)).mpr h53
        refine lv_iinc hx hb d_Mo_cut_206 hl (k := 0) (v := (nI (i + 1))) rfl (nI_1 i) (by decide) rfl (fun ls hl => ?_)
        replace hl : lv_has ls 8 [(4, .int (nI (i + 1))), (0, .ref o), (1, .int (nI x)), (2, .int (nI k9)), (3, .int (bi u))] := hl
        refine lv_goto hx hb d_Mo_cut_209 rfl ?_
        refine ih _ _ ?_ ?_ hl
        · omega
        · exact (by rw [← hres]; simp only [fst]; rw [if_neg (by unfold ctP; simp only [decide_eq_true_eq]; exact fun q => h53 q.2.1)])
      have h53 := (k_eq (b := 1) (by have := hV.sta i; omega) (by decide)).mp h53
      refine lv_iconst (v := 0) hx hb d_Mo_cut_56 (by decide) ?_
      refine lv_istore hx hb d_Mo_cut_57 hl (by decide) rfl (fun ls hl => ?_)
      replace hl : lv_has ls 8 [(5, .int 0), (4, .int (nI i)), (0, .ref o), (1, .int (nI x)), (2, .int (nI k9)), (3, .int (bi u))] := hl
      refine lv_iconst (v := 0) hx hb d_Mo_cut_59 (by decide) ?_
      refine lv_istore hx hb d_Mo_cut_60 hl (by decide) rfl (fun ls hl => ?_)
      replace hl : lv_has ls 8 [(6, .int 0), (5, .int 0), (4, .int (nI i)), (0, .ref o), (1, .int (nI x)), (2, .int (nI k9)), (3, .int (bi u))] := hl
      obtain ⟨j, hj0⟩ : ∃ j : Nat, j = 0 := ⟨_, rfl⟩
      obtain ⟨k2, hk20⟩ : ∃ k2 : Nat, k2 = V.mn 0 - 0 := ⟨_, rfl⟩
      obtain ⟨bf, hbf⟩ : ∃ bf : Nat, bf = 0 := ⟨_, rfl⟩
      have hrs2 : sumF (cbF V x i) j k2 bf = cbN V x i := by rw [hj0, hk20, hbf]; rfl
      replace hl : lv_has ls 8 [(6, .int (nI j)), (5, .int (nI bf)), (4, .int (nI i)), (0, .ref o), (1, .int (nI x)), (2, .int (nI k9)), (3, .int (bi u))] := by subst hj0; subst hbf; exact hl
      have hjk2 : j + k2 = V.mn 0 := by omega
      clear hj0 hk20 hbf
      replace hrs2 := hrs2
      replace hl : lv_has ls 8 [(6, .int (nI j)), (5, .int (nI bf)), (4, .int (nI i)), (0, .ref o), (1, .int (nI x)), (2, .int (nI k9)), (3, .int (bi u))] := hl
      induction k2 generalizing j ls bf with
      | zero =>
        refine lv_iload hx hb d_Mo_cut_62 (lv_at hl 0 rfl) ?_
        refine lv_aload_n hx hb d_Mo_cut_64 rfl (lv_at hl 3 rfl) ?_
        refine va_get (D := (dC, dI)) (ci := 5) (v := .ref (a 0)) (C := R_Mo) (T := F_Mo) (N := 19) hx hb hts u_Mo hown hK hP 0 rfl rfl 1 (by decide) (hts _ kw_715) (fun _ h9 => h9) rfl d_Mo_cut_65 ?_
        refine lv_iconst (v := 0) hx hb d_Mo_cut_68 (by decide) ?_
        refine x_iald (j := 0) (v := (nI (V.mn 0))) hx hb hK hP 1 0 rfl rfl (by decide) (by decide) rfl rfl d_Mo_cut_69 ?_
        refine lv_icmp_ge hx hb d_Mo_cut_70 rfl (fun _ => ?_) (fun h9 => absurd (nI_le (by omega) (by have := hV.mn 0; omega)) h9)
        have hbf : bf = cbN V x i := hrs2
        have hb2 : bf < 2147483648 := by rw [hbf]; exact cbN_lt hV _ _
        refine lv_iload_n hx hb d_Mo_cut_136 rfl (lv_at hl 5 rfl) ?_
        refine lv_iload hx hb d_Mo_cut_137 (lv_at hl 1 rfl) ?_
        refine lv_isub hx hb d_Mo_cut_139 ?_
        refine lv_istore hx hb d_Mo_cut_140 hl (by decide) rfl (fun ls hl => ?_)
        replace hl : lv_has ls 8 [(6, .int (nI k9 - (nI bf))), (5, .int (nI bf)), (4, .int (nI i)), (0, .ref o), (1, .int (nI x)), (2, .int (nI k9)), (3, .int (bi u))] := hl
        refine lv_iload hx hb d_Mo_cut_142 (lv_at hl 0 rfl) ?_
        refine lv_if_lt hx hb d_Mo_cut_144 rfl (fun h144 => ?_) (fun h144 => ?_)
        · have h144 := (k_sublt (by omega) hb2).mp h144
          refine lv_iinc hx hb d_Mo_cut_206 hl (k := 2) (v := (nI (i + 1))) rfl (nI_1 i) (by decide) rfl (fun ls hl => ?_)
          replace hl : lv_has ls 8 [(4, .int (nI (i + 1))), (6, .int (nI k9 - (nI bf))), (5, .int (nI bf)), (0, .ref o), (1, .int (nI x)), (2, .int (nI k9)), (3, .int (bi u))] := hl
          refine lv_goto hx hb d_Mo_cut_209 rfl ?_
          refine ih _ _ ?_ ?_ (lv_sub hl [0, 3, 4, 5, 6] rfl)
          · omega
          · exact (by rw [← hres]; simp only [fst]; rw [if_neg (by unfold ctP; simp only [decide_eq_true_eq]; exact fun q => absurd q.2.2.1 (by omega))])
        have h144 := mt (k_sublt (by omega) hb2).mpr h144
        replace hl : lv_has ls 8 [(6, .int (nI (k9 - bf))), (5, .int (nI bf)), (4, .int (nI i)), (0, .ref o), (1, .int (nI x)), (2, .int (nI k9)), (3, .int (bi u))] := by rw [pk_sub (by omega)] at hl; exact hl
        refine lv_iload hx hb d_Mo_cut_147 (lv_at hl 0 rfl) ?_
        refine lv_aload_n hx hb d_Mo_cut_149 rfl (lv_at hl 3 rfl) ?_
        refine va_get (D := (dC, dI)) (ci := 5) (v := .ref (a 2)) (C := R_Mo) (T := F_Mo) (N := 19) hx hb hts u_Mo hown hK hP 0 rfl rfl 3 (by decide) (hts _ kw_717) (fun _ h9 => h9) rfl d_Mo_cut_150 ?_
        refine lv_iload hx hb d_Mo_cut_153 (lv_at hl 2 rfl) ?_
        refine x_iald (j := i) (v := (nI (V.len i))) hx hb hK hP 3 0 rfl rfl (by have := hV.mn 0; omega) (by decide) rfl rfl d_Mo_cut_155 ?_
        refine vp_callSi (W.runS (As := [.int (nI (V.len i))]) (rest := [.int (nI (k9 - bf))]) ⟨hx, hb, hml, hown, hts⟩ (c_Mo_cutsOf l dC dI (V.len i) (hV.len _)) (cwS 1 hts (gS kw_995 kw_996 kw_6 kw_997) rfl rfl rfl (by decide +kernel) ⟨Nat.le_of_ble_eq_true rfl, Nat.le_of_ble_eq_true rfl⟩) ⟨PcS.blind, PcS.use hP hK hN⟩ rfl rfl hl.1 rfl (lv_room (Nat.le_of_ble_eq_true rfl)) d_Mo_cut_156 ⟨Nat.zero_le _, Nat.zero_le _⟩) (fun r156 hr156 => ?_)
        obtain rfl : r156 = (nI (2 ^ (cl4 (V.len i) - (V.len i)))) := hr156
        refine lv_icmp_ge hx hb d_Mo_cut_159 rfl (fun h159 => ?_) (fun h159 => ?_)
        · have h159 := (nI_leI (by have := cut_lt (hV.len i); omega) (by omega)).mp h159
          refine lv_iinc hx hb d_Mo_cut_206 hl (k := 2) (v := (nI (i + 1))) rfl (nI_1 i) (by decide) rfl (fun ls hl => ?_)
          replace hl : lv_has ls 8 [(4, .int (nI (i + 1))), (6, .int (nI (k9 - bf))), (5, .int (nI bf)), (0, .ref o), (1, .int (nI x)), (2, .int (nI k9)), (3, .int (bi u))] := hl
          refine lv_goto hx hb d_Mo_cut_209 rfl ?_
          refine ih _ _ ?_ ?_ (lv_sub hl [0, 3, 4, 5, 6] rfl)
          · omega
          · exact (by rw [← hres]; simp only [fst]; rw [if_neg (by unfold ctP; simp only [decide_eq_true_eq]; exact fun q => absurd q.2.2.2 (by omega))])
        have h159 := mt (nI_leI (by have := cut_lt (hV.len i); omega) (by omega)).mpr h159
        refine lv_aload_n hx hb d_Mo_cut_162 rfl (lv_at hl 3 rfl) ?_
        refine lv_iconst (v := 0) hx hb d_Mo_cut_163 (by decide) ?_
        refine va_put (D := (dC, dI)) (ci := 5) (v := .int 0) (ty := .int) (C := R_Mo) (T := F_Mo) (N := 19) hx hb hts u_Mo t_Mo t_Mo_ok n_Mo hown hK hP hD hS 0 rfl rfl 0 (by decide) (hts _ kw_714) (fun _ h9 => h9) rfl (by decide +kernel) rfl rfl (Nat.le_of_ble_eq_true rfl) d_Mo_cut_164 (fun H locs hP hD hS => ?_)
        replace hP : va_P (dC, dI) classes [(o, .inr (5, [.int 0, .ref (a 0), .ref (a 1), .ref (a 2), .ref (a 3), .ref (a 4), .ref (a 5), .ref (a 6), .ref (a 7), .ref (a 8), .ref (a 9), .ref (a 10), .int (nI V.ne), .ref (a 11), .ref (a 12), .ref (a 13), .ref (a 14), .long V.fo, .int V.fl])), ((a 0), .inl (cI, 2, .inl (fun z9 => nI (V.mn z9)))), ((a 1), .inl (cI, 400, .inl (fun z9 => nI (V.pre z9)))), ((a 2), .inl (cI, 400, .inl (fun z9 => nI (V.len z9)))), ((a 3), .inl (cI, 400, .inl (fun z9 => pI (V.par z9)))), ((a 4), .inl (cI, 400, .inl (fun z9 => nI (V.lev z9)))), ((a 5), .inl (cI, 400, .inl (fun z9 => nI (V.hol z9)))), ((a 6), .inl (cI, 400, .inl (fun z9 => nI (V.sta z9)))), ((a 7), .inl (cI, 400, .inl (fun z9 => nI (V.en z9)))), ((a 8), .inl (cI, 2, .inl (fun z9 => nI (V.tdy z9)))), ((a 9), .inl (cI, 2, .inl (fun z9 => nI (V.dys z9)))), ((a 10), .inl (cI, 8, .inl (fun z9 => nI (V.pol z9)))), ((a 11), .inl (cI, 300, .inl V.kd)), ((a 12), .inl (cI, 300, .inl V.fi)), ((a 13), .inl (cI, 300, .inl V.se)), ((a 14), .inl (cI, 300, .inl V.th))] H := hP
        replace hD : va_D A [(o, .inr (5, [.int 0, .ref (a 0), .ref (a 1), .ref (a 2), .ref (a 3), .ref (a 4), .ref (a 5), .ref (a 6), .ref (a 7), .ref (a 8), .ref (a 9), .ref (a 10), .int (nI V.ne), .ref (a 11), .ref (a 12), .ref (a 13), .ref (a 14), .long V.fo, .int V.fl])), ((a 0), .inl (cI, 2, .inl (fun z9 => nI (V.mn z9)))), ((a 1), .inl (cI, 400, .inl (fun z9 => nI (V.pre z9)))), ((a 2), .inl (cI, 400, .inl (fun z9 => nI (V.len z9)))), ((a 3), .inl (cI, 400, .inl (fun z9 => pI (V.par z9)))), ((a 4), .inl (cI, 400, .inl (fun z9 => nI (V.lev z9)))), ((a 5), .inl (cI, 400, .inl (fun z9 => nI (V.hol z9)))), ((a 6), .inl (cI, 400, .inl (fun z9 => nI (V.sta z9)))), ((a 7), .inl (cI, 400, .inl (fun z9 => nI (V.en z9)))), ((a 8), .inl (cI, 2, .inl (fun z9 => nI (V.tdy z9)))), ((a 9), .inl (cI, 2, .inl (fun z9 => nI (V.dys z9)))), ((a 10), .inl (cI, 8, .inl (fun z9 => nI (V.pol z9)))), ((a 11), .inl (cI, 300, .inl V.kd)), ((a 12), .inl (cI, 300, .inl V.fi)), ((a 13), .inl (cI, 300, .inl V.se)), ((a 14), .inl (cI, 300, .inl V.th))] := hD
        refine lv_aload_n hx hb d_Mo_cut_167 rfl (lv_at hl 3 rfl) ?_
        refine va_get (D := (dC, dI)) (ci := 5) (v := .ref (a 2)) (C := R_Mo) (T := F_Mo) (N := 19) hx hb hts u_Mo hown hK hP 0 rfl rfl 3 (by decide) (hts _ kw_717) (fun _ h9 => h9) rfl d_Mo_cut_168 ?_
        refine lv_iload hx hb d_Mo_cut_171 (lv_at hl 2 rfl) ?_
        refine x_iald (j := i) (v := (nI (V.len i))) hx hb hK hP 3 0 rfl rfl (by have := hV.mn 0; omega) (by decide) rfl rfl d_Mo_cut_173 ?_
        refine vp_callSi (W.runS (As := [.int (nI (V.len i))]) (rest := []) ⟨hx, hb, hml, hown, hts⟩ (c_Mo_cutLength l dC dI (V.len i) (hV.len _)) (cwS 1 hts (gS kw_998 kw_999 kw_6 kw_1000) rfl rfl rfl (by decide +kernel) ⟨Nat.le_of_ble_eq_true rfl, Nat.le_of_ble_eq_true rfl⟩) ⟨PcS.blind, PcS.use hP hK hN⟩ rfl rfl hl.1 rfl (lv_room (Nat.le_of_ble_eq_true rfl)) d_Mo_cut_174 ⟨Nat.zero_le _, Nat.zero_le _⟩) (fun r174 hr174 => ?_)
        obtain rfl : r174 = (nI (cl4 (V.len i))) := hr174
        refine lv_istore hx hb d_Mo_cut_177 hl (by decide) rfl (fun ls hl => ?_)
        replace hl : lv_has ls 8 [(7, .int (nI (cl4 (V.len i)))), (6, .int (nI (k9 - bf))), (5, .int (nI bf)), (4, .int (nI i)), (0, .ref o), (1, .int (nI x)), (2, .int (nI k9)), (3, .int (bi u))] := hl
        refine lv_iload_n hx hb d_Mo_cut_179 rfl (lv_at hl 7 rfl) ?_
        refine lv_if_eq hx hb d_Mo_cut_180 rfl (fun h180 => ?_) (fun h180 => ?_)
        · have h180 : u = false := bi_eq0.mp h180
          refine lv_aload_n hx hb d_Mo_cut_188 rfl (lv_at hl 4 rfl) ?_
          refine lv_iload hx hb d_Mo_cut_189 (lv_at hl 3 rfl) ?_
          refine vp_callSl (W.runV (b := o) (As := [.int (nI i)]) (rest := []) ⟨hx, hb, hml, hown, hts⟩ (c_Mo_beginOf l dC dI cI o a (mkV V.mn V.pre V.len V.lev V.hol V.sta V.en V.tdy V.dys V.pol V.par V.kd V.fi V.se V.th V.ne 0 V.fo V.fl) hV i (by have := hV.mn 0; omega)) (cwV 1 hts (gV kw_854 kw_856 ks_36 kw_6 kw_857) rfl rfl rfl (by decide +kernel) ⟨Nat.le_of_ble_eq_true rfl, Nat.le_of_ble_eq_true rfl⟩) ⟨PcS.blind, va_recv (q0 := 0) hK hP rfl rfl, PcS.use hP hK hN⟩ rfl rfl hl.1 rfl (lv_room (Nat.le_of_ble_eq_true rfl)) d_Mo_cut_191 ⟨Nat.zero_le _, Nat.zero_le _⟩) (fun r191 hr191 => ?_)
          obtain rfl : r191 = (lN (V.pre i)) := hr191
          refine lv_iload hx hb d_Mo_cut_194 (lv_at hl 1 rfl) ?_
          refine lv_i2l hx hb d_Mo_cut_196 rfl ?_
          refine x_topl (y := (lN (k9 - bf))) (nI_l (by omega)) ?_
          refine lv_iload hx hb d_Mo_cut_197 (lv_at hl 0 rfl) ?_
          refine vp_callSl (W.runS (As := [.int (nI (cl4 (V.len i)))]) (rest := [.long (lN (k9 - bf)), .long (lN (V.pre i))]) ⟨hx, hb, hml, hown, hts⟩ (c_Mo_sizeOf l dC dI (cl4 (V.len i)) (cl4_lt _ (hV.len _)).1) (cwS 1 hts (gS kw_845 kw_846 kw_6 kw_847) rfl rfl rfl (by decide +kernel) ⟨Nat.le_of_ble_eq_true rfl, Nat.le_of_ble_eq_true rfl⟩) ⟨PcS.blind, PcS.use hP hK hN⟩ rfl rfl hl.1 rfl (lv_room (Nat.le_of_ble_eq_true rfl)) d_Mo_cut_199 ⟨Nat.zero_le _, Nat.zero_le _⟩) (fun r199 hr199 => ?_)
          obtain rfl : r199 = (lN (2 ^ (32 - (cl4 (V.len i))))) := hr199
          refine lv_lmul hx hb d_Mo_cut_202 ?_
          refine x_topl (y := (lN ((k9 - bf) * 2 ^ (32 - cl4 (V.len i))))) (lN_mul _ _) ?_
          refine lv_ladd hx hb d_Mo_cut_203 ?_
          refine x_topl (y := (lN (V.pre i + (k9 - bf) * 2 ^ (32 - cl4 (V.len i))))) (lN_add _ _) ?_
          refine lv_l2i hx hb d_Mo_cut_204 rfl ?_
          refine x_topi (y := (nI (V.pre i + (k9 - bf) * 2 ^ (32 - cl4 (V.len i))))) (lN_i _) ?_
          have e9 : mctN V x k9 = some i := by unfold mctN; rw [if_pos ⟨h11, h15⟩, ← hres]; simp only [fst]; rw [if_pos (show ctP V x k9 i = true by unfold ctP; simp only [decide_eq_true_eq]; exact ⟨h42, h53, by omega, by omega⟩)]
          have hP9 : va_P (dC, dI) classes (wMo cI o a (mkV V.mn V.pre V.len V.lev V.hol V.sta V.en V.tdy V.dys V.pol V.par V.kd V.fi V.se V.th V.ne (match mctN V x k9 with | none => 1 | some _ => 0) V.fo V.fl)) H := by rw [e9]; exact hP
          have hD9 : va_D A (wMo cI o a (mkV V.mn V.pre V.len V.lev V.hol V.sta V.en V.tdy V.dys V.pol V.par V.kd V.fi V.se V.th V.ne (match mctN V x k9 with | none => 1 | some _ => 0) V.fo V.fl)) := by rw [e9]; exact hD
          exact W.iret (v := (nI (V.pre i + (k9 - bf) * 2 ^ (32 - cl4 (V.len i))))) hx hb hr (fun t ht hW => ⟨⟨(nI (V.pre i + (k9 - bf) * 2 ^ (32 - cl4 (V.len i)))), (), rfl, (by rw [e9, h180, hbf]; rfl), by rw [ht]; exact hP9, va_K.moved hW.alike hK, hD9⟩, hS.F ht⟩) hS.2.2 d_Mo_cut_205
        have h180 : u = true := bi_n0 h180
        refine lv_iload hx hb d_Mo_cut_183 (lv_at hl 0 rfl) ?_
        refine lv_goto hx hb d_Mo_cut_185 rfl ?_
        have e9 : mctN V x k9 = some i := by unfold mctN; rw [if_pos ⟨h11, h15⟩, ← hres]; simp only [fst]; rw [if_pos (show ctP V x k9 i = true by unfold ctP; simp only [decide_eq_true_eq]; exact ⟨h42, h53, by omega, by omega⟩)]
        have hP9 : va_P (dC, dI) classes (wMo cI o a (mkV V.mn V.pre V.len V.lev V.hol V.sta V.en V.tdy V.dys V.pol V.par V.kd V.fi V.se V.th V.ne (match mctN V x k9 with | none => 1 | some _ => 0) V.fo V.fl)) H := by rw [e9]; exact hP
        have hD9 : va_D A (wMo cI o a (mkV V.mn V.pre V.len V.lev V.hol V.sta V.en V.tdy V.dys V.pol V.par V.kd V.fi V.se V.th V.ne (match mctN V x k9 with | none => 1 | some _ => 0) V.fo V.fl)) := by rw [e9]; exact hD
        exact W.iret (v := (nI (cl4 (V.len i)))) hx hb hr (fun t ht hW => ⟨⟨(nI (cl4 (V.len i))), (), rfl, (by rw [e9, h180]; rfl), by rw [ht]; exact hP9, va_K.moved hW.alike hK, hD9⟩, hS.F ht⟩) hS.2.2 d_Mo_cut_205
      | succ k2 ih2 =>
        refine lv_iload hx hb d_Mo_cut_62 (lv_at hl 0 rfl) ?_
        refine lv_aload_n hx hb d_Mo_cut_64 rfl (lv_at hl 3 rfl) ?_
        refine va_get (D := (dC, dI)) (ci := 5) (v := .ref (a 0)) (C := R_Mo) (T := F_Mo) (N := 19) hx hb hts u_Mo hown hK hP 0 rfl rfl 1 (by decide) (hts _ kw_715) (fun _ h9 => h9) rfl d_Mo_cut_65 ?_
        refine lv_iconst (v := 0) hx hb d_Mo_cut_68 (by decide) ?_
        refine x_iald (j := 0) (v := (nI (V.mn 0))) hx hb hK hP 1 0 rfl rfl (by decide) (by decide) rfl rfl d_Mo_cut_69 ?_
        refine lv_icmp_ge hx hb d_Mo_cut_70 rfl (fun h9 => absurd h9 (nI_ge (by omega) (by have := hV.mn 0; omega))) (fun _ => ?_)
        refine lv_iload hx hb d_Mo_cut_73 (lv_at hl 1 rfl) ?_
        refine lv_aload_n hx hb d_Mo_cut_75 rfl (lv_at hl 3 rfl) ?_
        refine va_get (D := (dC, dI)) (ci := 5) (v := .ref (a 3)) (C := R_Mo) (T := F_Mo) (N := 19) hx hb hts u_Mo hown hK hP 0 rfl rfl 4 (by decide) (hts _ kw_718) (fun _ h9 => h9) rfl d_Mo_cut_76 ?_
        refine lv_iload hx hb d_Mo_cut_79 (lv_at hl 0 rfl) ?_
        refine x_iald (j := j) (v := (pI (V.par j))) hx hb hK hP 4 0 rfl rfl (by have := hV.mn 0; omega) (by decide) rfl rfl d_Mo_cut_81 ?_
        refine lv_iload_n hx hb d_Mo_cut_82 rfl (lv_at hl 4 rfl) ?_
        refine lv_icmp_ne hx hb d_Mo_cut_83 rfl (fun h83 => ?_) (fun h83 => ?_)
        · have h83 := mt (pI_eq (fun k q => by have := hV.par q; omega) (by have := hV.mn 0; omega)).mpr h83
          refine lv_iconst (v := 0) hx hb d_Mo_cut_126 (by decide) ?_
          refine lv_iadd hx hb d_Mo_cut_127 ?_
          refine x_topi (y := (nI bf)) (nI_add _ 0) ?_
          refine lv_istore hx hb d_Mo_cut_128 hl (by decide) rfl (fun ls hl => ?_)
          replace hl : lv_has ls 8 [(5, .int (nI bf)), (6, .int (nI j)), (4, .int (nI i)), (0, .ref o), (1, .int (nI x)), (2, .int (nI k9)), (3, .int (bi u))] := hl
          refine lv_iinc hx hb d_Mo_cut_130 hl (k := 1) (v := (nI (j + 1))) rfl (nI_1 j) (by decide) rfl (fun ls hl => ?_)
          replace hl : lv_has ls 8 [(6, .int (nI (j + 1))), (5, .int (nI bf)), (4, .int (nI i)), (0, .ref o), (1, .int (nI x)), (2, .int (nI k9)), (3, .int (bi u))] := hl
          refine lv_goto hx hb d_Mo_cut_133 rfl ?_
          refine ih2 _ _ _ ?_ ?_ hl
          · omega
          · exact (by rw [← hrs2]; simp only [sumF, cbF]; rw [if_neg (fun q => h83 q.1)]; rfl)
        have h83 := (pI_eq (fun k q => by have := hV.par q; omega) (by have := hV.mn 0; omega)).mp h83
        refine lv_aload_n hx hb d_Mo_cut_86 rfl (lv_at hl 3 rfl) ?_
        refine va_get (D := (dC, dI)) (ci := 5) (v := .ref (a 6)) (C := R_Mo) (T := F_Mo) (N := 19) hx hb hts u_Mo hown hK hP 0 rfl rfl 7 (by decide) (hts _ kw_721) (fun _ h9 => h9) rfl d_Mo_cut_87 ?_
        refine lv_iload hx hb d_Mo_cut_90 (lv_at hl 0 rfl) ?_
        refine x_iald (j := j) (v := (nI (V.sta j))) hx hb hK hP 7 0 rfl rfl (by have := hV.mn 0; omega) (by decide) rfl rfl d_Mo_cut_92 ?_
        refine lv_iconst (v := 1) hx hb d_Mo_cut_93 (by decide) ?_
        refine lv_icmp_ne hx hb d_Mo_cut_94 rfl (fun h94 => ?_) (fun h94 => ?_)
        · have h94 := mt (k_eq (b := 1) (by have := hV.sta j; omega) (by decide)).mpr h94
          refine lv_iconst (v := 0) hx hb d_Mo_cut_126 (by decide) ?_
          refine lv_iadd hx hb d_Mo_cut_127 ?_
          refine x_topi (y := (nI bf)) (nI_add _ 0) ?_
          refine lv_istore hx hb d_Mo_cut_128 hl (by decide) rfl (fun ls hl => ?_)
          replace hl : lv_has ls 8 [(5, .int (nI bf)), (6, .int (nI j)), (4, .int (nI i)), (0, .ref o), (1, .int (nI x)), (2, .int (nI k9)), (3, .int (bi u))] := hl
          refine lv_iinc hx hb d_Mo_cut_130 hl (k := 1) (v := (nI (j + 1))) rfl (nI_1 j) (by decide) rfl (fun ls hl => ?_)
          replace hl : lv_has ls 8 [(6, .int (nI (j + 1))), (5, .int (nI bf)), (4, .int (nI i)), (0, .ref o), (1, .int (nI x)), (2, .int (nI k9)), (3, .int (bi u))] := hl
          refine lv_goto hx hb d_Mo_cut_133 rfl ?_
          refine ih2 _ _ _ ?_ ?_ hl
          · omega
          · exact (by rw [← hrs2]; simp only [sumF, cbF]; rw [if_neg (fun q => h94 q.2.1)]; rfl)
        have h94 := (k_eq (b := 1) (by have := hV.sta j; omega) (by decide)).mp h94
        refine lv_aload_n hx hb d_Mo_cut_97 rfl (lv_at hl 3 rfl) ?_
        refine lv_iload hx hb d_Mo_cut_98 (lv_at hl 0 rfl) ?_
        refine vp_callSl (W.runV (b := o) (As := [.int (nI j)]) (rest := [.int (nI bf)]) ⟨hx, hb, hml, hown, hts⟩ (c_Mo_beginOf l dC dI cI o a (mkV V.mn V.pre V.len V.lev V.hol V.sta V.en V.tdy V.dys V.pol V.par V.kd V.fi V.se V.th V.ne 1 V.fo V.fl) hV j (by have := hV.mn 0; omega)) (cwV 1 hts (gV kw_854 kw_856 ks_36 kw_6 kw_857) rfl rfl rfl (by decide +kernel) ⟨Nat.le_of_ble_eq_true rfl, Nat.le_of_ble_eq_true rfl⟩) ⟨PcS.blind, va_recv (q0 := 0) hK hP rfl rfl, PcS.use hP hK hN⟩ rfl rfl hl.1 rfl (lv_room (Nat.le_of_ble_eq_true rfl)) d_Mo_cut_100 ⟨Nat.zero_le _, Nat.zero_le _⟩) (fun r100 hr100 => ?_)
        obtain rfl : r100 = (lN (V.pre j)) := hr100
        refine lv_aload_n hx hb d_Mo_cut_103 rfl (lv_at hl 3 rfl) ?_
        refine lv_iload hx hb d_Mo_cut_104 (lv_at hl 2 rfl) ?_
        refine vp_callSl (W.runV (b := o) (As := [.int (nI i)]) (rest := [.long (lN (V.pre j)), .int (nI bf)]) ⟨hx, hb, hml, hown, hts⟩ (c_Mo_beginOf l dC dI cI o a (mkV V.mn V.pre V.len V.lev V.hol V.sta V.en V.tdy V.dys V.pol V.par V.kd V.fi V.se V.th V.ne 1 V.fo V.fl) hV i (by have := hV.mn 0; omega)) (cwV 1 hts (gV kw_854 kw_856 ks_36 kw_6 kw_857) rfl rfl rfl (by decide +kernel) ⟨Nat.le_of_ble_eq_true rfl, Nat.le_of_ble_eq_true rfl⟩) ⟨PcS.blind, va_recv (q0 := 0) hK hP rfl rfl, PcS.use hP hK hN⟩ rfl rfl hl.1 rfl (lv_room (Nat.le_of_ble_eq_true rfl)) d_Mo_cut_106 ⟨Nat.zero_le _, Nat.zero_le _⟩) (fun r106 hr106 => ?_)
        obtain rfl : r106 = (lN (V.pre i)) := hr106
        refine W.lcmp hx hb d_Mo_cut_109 ?_
        refine lv_if_ge hx hb d_Mo_cut_110 rfl (fun h110 => ?_) (fun h110 => ?_)
        · have h110 := (k_cge (by have := hV.pre j; omega) (by have := hV.pre i; omega)).mp h110
          refine lv_iconst (v := 0) hx hb d_Mo_cut_126 (by decide) ?_
          refine lv_iadd hx hb d_Mo_cut_127 ?_
          refine x_topi (y := (nI bf)) (nI_add _ 0) ?_
          refine lv_istore hx hb d_Mo_cut_128 hl (by decide) rfl (fun ls hl => ?_)
          replace hl : lv_has ls 8 [(5, .int (nI bf)), (6, .int (nI j)), (4, .int (nI i)), (0, .ref o), (1, .int (nI x)), (2, .int (nI k9)), (3, .int (bi u))] := hl
          refine lv_iinc hx hb d_Mo_cut_130 hl (k := 1) (v := (nI (j + 1))) rfl (nI_1 j) (by decide) rfl (fun ls hl => ?_)
          replace hl : lv_has ls 8 [(6, .int (nI (j + 1))), (5, .int (nI bf)), (4, .int (nI i)), (0, .ref o), (1, .int (nI x)), (2, .int (nI k9)), (3, .int (bi u))] := hl
          refine lv_goto hx hb d_Mo_cut_133 rfl ?_
          refine ih2 _ _ _ ?_ ?_ hl
          · omega
          · exact (by rw [← hrs2]; simp only [sumF, cbF]; rw [if_neg (fun q => by omega)]; rfl)
        have h110 := mt (k_cge (by have := hV.pre j; omega) (by have := hV.pre i; omega)).mpr h110
        refine lv_aload_n hx hb d_Mo_cut_113 rfl (lv_at hl 3 rfl) ?_
        refine va_get (D := (dC, dI)) (ci := 5) (v := .ref (a 2)) (C := R_Mo) (T := F_Mo) (N := 19) hx hb hts u_Mo hown hK hP 0 rfl rfl 3 (by decide) (hts _ kw_717) (fun _ h9 => h9) rfl d_Mo_cut_114 ?_
        refine lv_iload hx hb d_Mo_cut_117 (lv_at hl 0 rfl) ?_
        refine x_iald (j := j) (v := (nI (V.len j))) hx hb hK hP 3 0 rfl rfl (by have := hV.mn 0; omega) (by decide) rfl rfl d_Mo_cut_119 ?_
        refine vp_callSi (W.runS (As := [.int (nI (V.len j))]) (rest := [.int (nI bf)]) ⟨hx, hb, hml, hown, hts⟩ (c_Mo_cutsOf l dC dI (V.len j) (hV.len _)) (cwS 1 hts (gS kw_995 kw_996 kw_6 kw_997) rfl rfl rfl (by decide +kernel) ⟨Nat.le_of_ble_eq_true rfl, Nat.le_of_ble_eq_true rfl⟩) ⟨PcS.blind, PcS.use hP hK hN⟩ rfl rfl hl.1 rfl (lv_room (Nat.le_of_ble_eq_true rfl)) d_Mo_cut_120 ⟨Nat.zero_le _, Nat.zero_le _⟩) (fun r120 hr120 => ?_)
        obtain rfl : r120 = (nI (2 ^ (cl4 (V.len j) - (V.len j)))) := hr120
        refine lv_goto hx hb d_Mo_cut_123 rfl ?_
        refine lv_iadd hx hb d_Mo_cut_127 ?_
        refine x_topi (y := (nI (bf + 2 ^ (cl4 (V.len j) - V.len j)))) (nI_add _ _) ?_
        refine lv_istore hx hb d_Mo_cut_128 hl (by decide) rfl (fun ls hl => ?_)
        replace hl : lv_has ls 8 [(5, .int (nI (bf + 2 ^ (cl4 (V.len j) - V.len j)))), (6, .int (nI j)), (4, .int (nI i)), (0, .ref o), (1, .int (nI x)), (2, .int (nI k9)), (3, .int (bi u))] := hl
        refine lv_iinc hx hb d_Mo_cut_130 hl (k := 1) (v := (nI (j + 1))) rfl (nI_1 j) (by decide) rfl (fun ls hl => ?_)
        replace hl : lv_has ls 8 [(6, .int (nI (j + 1))), (5, .int (nI (bf + 2 ^ (cl4 (V.len j) - V.len j)))), (4, .int (nI i)), (0, .ref o), (1, .int (nI x)), (2, .int (nI k9)), (3, .int (bi u))] := hl
        refine lv_goto hx hb d_Mo_cut_133 rfl ?_
        refine ih2 _ _ _ ?_ ?_ hl
        · omega
        · exact (by rw [← hrs2]; simp only [sumF, cbF]; rw [if_pos ⟨h83, h94, by omega⟩])
  have h15 := mt (k_0le hk0).mpr h15
  refine lv_iconst (v := 0) hx hb d_Mo_cut_18 (by decide) ?_
  have e9 : mctN V x k9 = none := by unfold mctN; rw [if_neg (fun q => h15 q.2)]
  have hP9 : va_P (dC, dI) classes (wMo cI o a (mkV V.mn V.pre V.len V.lev V.hol V.sta V.en V.tdy V.dys V.pol V.par V.kd V.fi V.se V.th V.ne (match mctN V x k9 with | none => 1 | some _ => 0) V.fo V.fl)) H := by rw [e9]; exact hP
  have hD9 : va_D A (wMo cI o a (mkV V.mn V.pre V.len V.lev V.hol V.sta V.en V.tdy V.dys V.pol V.par V.kd V.fi V.se V.th V.ne (match mctN V x k9 with | none => 1 | some _ => 0) V.fo V.fl)) := by rw [e9]; exact hD
  exact W.iret (v := 0) hx hb hr (fun t ht hW => ⟨⟨0, (), rfl, (by rw [e9]; rfl), by rw [ht]; exact hP9, va_K.moved hW.alike hK, hD9⟩, hS.F ht⟩) hS.2.2 d_Mo_cut_19
