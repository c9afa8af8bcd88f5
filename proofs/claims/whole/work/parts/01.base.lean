theorem nx_and (a b : Nat) : nI a &&& nI b = nI (a &&& b) := by
  apply Int32.toBitVec_inj.1
  show BitVec.ofNat 32 a &&& BitVec.ofNat 32 b = BitVec.ofNat 32 (a &&& b)
  apply BitVec.eq_of_getLsbD_eq
  intro i hi
  simp [hi]
theorem nx_xor (a b : Nat) : nI a ^^^ nI b = nI (a ^^^ b) := by
  apply Int32.toBitVec_inj.1
  show BitVec.ofNat 32 a ^^^ BitVec.ofNat 32 b = BitVec.ofNat 32 (a ^^^ b)
  apply BitVec.eq_of_getLsbD_eq
  intro i hi
  simp [hi]
theorem wb_tb (n : Nat) : (lN n).toBitVec = BitVec.ofNat 64 n := rfl
theorem wb_inj {a b : Int64} (h : a.toBitVec = b.toBitVec) : a = b := Int64.toBitVec_inj.mp h
theorem wb_tn {n : Nat} (h : n < 2 ^ 64) : (lN n).toBitVec.toNat = n := by rw [wb_tb, BitVec.toNat_ofNat, Nat.mod_eq_of_lt h]
theorem wb_of (x : Int64) : ∃ n, n < 2 ^ 64 ∧ x = lN n := ⟨x.toBitVec.toNat, x.toBitVec.isLt, wb_inj (by rw [wb_tb]; simp)⟩
theorem wb_of32 (x : Int32) : ∃ n, n < 2 ^ 32 ∧ x = nI n := ⟨x.toBitVec.toNat, x.toBitVec.isLt, Int32.toBitVec_inj.mp (by show _ = BitVec.ofNat 32 _; simp)⟩
theorem wb_c : ∀ k, k < 64 → ((nI k).toInt64 &&& 63) = lN k := by decide +kernel
theorem wb_sm : ∀ k, k < 64 → (BitVec.ofNat 64 k).smod 64 = BitVec.ofNat 64 k := by decide +kernel
theorem wb_pw {a b : Nat} (h : a ≤ b) : 2 ^ b = 2 ^ a * 2 ^ (b - a) := by rw [← Nat.pow_add]; congr 1; omega
theorem wb_lt2 {a b : Nat} (h : a < b) : 2 ^ a < 2 ^ b := Nat.pow_lt_pow_right (by decide) h
theorem wb_mod (n : Nat) : lN n = lN (n % 2 ^ 64) := wb_inj (by rw [wb_tb, wb_tb]; apply BitVec.eq_of_toNat_eq; rw [BitVec.toNat_ofNat, BitVec.toNat_ofNat, Nat.mod_mod])
theorem wb_shl (n : Nat) {k : Nat} (hk : k < 64) : lN n <<< ((nI k).toInt64 &&& 63) = lN (n * 2 ^ k) := by
  rw [wb_c k hk]
  apply wb_inj
  rw [Int64.toBitVec_shiftLeft, wb_tb, wb_tb, wb_tb, wb_sm k hk]
  apply BitVec.eq_of_toNat_eq
  rw [BitVec.shiftLeft_eq', BitVec.toNat_shiftLeft, BitVec.toNat_ofNat, BitVec.toNat_ofNat, BitVec.toNat_ofNat, Nat.mod_eq_of_lt (show k < 2 ^ 64 by omega), Nat.shiftLeft_eq, Nat.mul_mod, Nat.mod_mod, ← Nat.mul_mod]
theorem wb_and {a b : Nat} (ha : a < 2 ^ 64) (hb : b < 2 ^ 64) : lN a &&& lN b = lN (a &&& b) := by
  apply wb_inj
  rw [Int64.toBitVec_and, wb_tb, wb_tb, wb_tb]
  apply BitVec.eq_of_toNat_eq
  rw [BitVec.toNat_and, BitVec.toNat_ofNat, BitVec.toNat_ofNat, BitVec.toNat_ofNat, Nat.mod_eq_of_lt ha, Nat.mod_eq_of_lt hb, Nat.mod_eq_of_lt (Nat.and_lt_two_pow _ hb)]
theorem wb_mask {n k : Nat} (hn : n < 2 ^ 64) (hk : k < 64) : lN n &&& lN (2 ^ k - 1) = lN (n % 2 ^ k) := by
  rw [wb_and hn (by have := wb_lt2 hk; omega), Nat.and_two_pow_sub_one_eq_mod]
/-! numbers: nI to 2^32, lN to 2^63 -/
def bi (b : Bool) : Int32 := if b = true then 1 else 0
theorem bi_eq0 {b : Bool} : bi b = 0 ↔ b = false := by cases b <;> decide
theorem bi_t : bi true = 1 := rfl
theorem bi_f : bi false = 0 := rfl
theorem bi_nar (b : Bool) : narrow .boolean (.int (bi b)) = .int (bi b) := by cases b <;> decide
def pI (o : Option Nat) : Int32 := match o with
  | none => -1
  | some j => nI j
theorem k_toInt {n : Nat} (h : n < 4294967296) : (nI n).toInt = if n < 2147483648 then (n : Int) else (n : Int) - 4294967296 := by
  have e : (nI n).toInt = (BitVec.ofNat 32 n).toInt := rfl
  rw [e, BitVec.toInt_eq_toNat_cond, BitVec.toNat_ofNat, Nat.mod_eq_of_lt (by omega)]
  by_cases q : n < 2147483648
  · rw [if_pos (by omega), if_pos q]
  · rw [if_neg (by omega), if_neg q]; rfl
theorem k_eq {a b : Nat} (ha : a < 4294967296) (hb : b < 4294967296) : nI a = nI b ↔ a = b := by
  constructor
  · intro h
    have h2 := congrArg (fun z : Int32 => z.toBitVec.toNat) h
    rwa [pk_tn ha, pk_tn hb] at h2
  · intro h; rw [h]
theorem k_lt0 {n : Nat} (h : n < 4294967296) : nI n < 0 ↔ 2147483648 ≤ n := by
  rw [Int32.lt_iff_toInt_lt, k_toInt h, show (0 : Int32).toInt = 0 from rfl]
  split <;> omega
theorem k_0le {n : Nat} (h : n < 4294967296) : 0 ≤ nI n ↔ n < 2147483648 := by
  rw [Int32.le_iff_toInt_le, k_toInt h, show (0 : Int32).toInt = 0 from rfl]
  split <;> omega
theorem k_le {a b : Nat} (ha : a < 4294967296) (hb : b < 2147483648) : nI a ≤ nI b ↔ (2147483648 ≤ a ∨ a ≤ b) := by
  rw [Int32.le_iff_toInt_le, k_toInt ha, nI_toInt (by omega)]
  split <;> omega
theorem k_lt {a b : Nat} (ha : a < 4294967296) (hb : b < 2147483648) : nI a < nI b ↔ (2147483648 ≤ a ∨ a < b) := by
  rw [Int32.lt_iff_toInt_lt, k_toInt ha, nI_toInt (by omega)]
  split <;> omega
theorem k_le' {a b : Nat} (ha : a < 2147483648) (hb : b < 4294967296) : nI a ≤ nI b ↔ (b < 2147483648 ∧ a ≤ b) := by
  rw [Int32.le_iff_toInt_le, k_toInt hb, nI_toInt (by omega)]
  split <;> omega
theorem k_lt' {a b : Nat} (ha : a < 2147483648) (hb : b < 4294967296) : nI a < nI b ↔ (b < 2147483648 ∧ a < b) := by
  rw [Int32.lt_iff_toInt_lt, k_toInt hb, nI_toInt (by omega)]
  split <;> omega
theorem k_m1 : (-1 : Int32) = nI 4294967295 := by decide +kernel
theorem pI_none : pI none = -1 := rfl
theorem pI_some (j : Nat) : pI (some j) = nI j := rfl
theorem pI_m1 {o : Option Nat} (h : ∀ j, o = some j → j < 4294967295) : pI o = -1 ↔ o = none := by
  cases o with
  | none => simp [pI]
  | some j =>
    have hj := h j rfl
    simp only [pI, reduceCtorEq, iff_false]
    rw [k_m1, k_eq (by omega) (by omega)]
    omega
theorem k_start {p : Nat} (h : p < 4294967296) : (nI p).toInt64 &&& 4294967295 = lN p := by
  apply wb_inj
  rw [Int64.toBitVec_and]
  show ((BitVec.ofNat 32 p).signExtend 64) &&& (BitVec.ofNat 64 (2 ^ 32 - 1)) = BitVec.ofNat 64 p
  apply BitVec.eq_of_getLsbD_eq
  intro i hi
  rw [BitVec.getLsbD_and, BitVec.getLsbD_signExtend, BitVec.getLsbD_ofNat, BitVec.getLsbD_ofNat, BitVec.getLsbD_ofNat, Nat.testBit_two_pow_sub_one]
  by_cases q : i < 32
  · simp [q, hi]
  · have : p.testBit i = false := Nat.testBit_lt_two_pow (Nat.lt_of_lt_of_le h (show 2 ^ 32 ≤ 2 ^ i from Nat.pow_le_pow_right (by decide) (by omega)))
    simp [q, this]
theorem k_size : ∀ n, n < 33 → (1 : Int64) <<< (((32 : Int32) - nI n).toInt64 &&& 63) = lN (2 ^ (32 - n)) := by decide +kernel
theorem k_size1 : ∀ n, n < 33 → lN (2 ^ n) - 1 = lN (2 ^ n - 1) := by decide +kernel
theorem k_size32 : ∀ n, n < 33 → (lN (2 ^ n)).toInt32 = nI (2 ^ n) := by decide +kernel
theorem k_pow {n : Nat} : 2 ^ (32 - n) ≤ 4294967296 := Nat.pow_le_pow_right (by decide) (by omega : 32 - n ≤ 32)
theorem k_pow0 (n : Nat) : 0 < 2 ^ n := Nat.pow_pos (by decide)
/-! lcmp -/
theorem k_c0 {a b : Nat} (ha : a < 2 ^ 63) (hb : b < 2 ^ 63) : lg_cmp (lN a) (lN b) = 0 ↔ a = b := by
  unfold lg_cmp
  by_cases h1 : lN a > lN b
  · have := (pk_lLT hb ha).mp h1
    rw [if_pos h1]; constructor
    · intro h; cases h
    · intro h; omega
  · rw [if_neg h1]
    by_cases h2 : lN a = lN b
    · rw [if_pos h2]; exact ⟨fun _ => (pk_lEQ ha hb).mp h2, fun _ => rfl⟩
    · rw [if_neg h2]; constructor
      · intro h; cases h
      · intro h; exact absurd ((pk_lEQ ha hb).mpr h) h2
theorem k_cge {a b : Nat} (ha : a < 2 ^ 63) (hb : b < 2 ^ 63) : 0 ≤ lg_cmp (lN a) (lN b) ↔ b ≤ a := by
  unfold lg_cmp
  by_cases h1 : lN a > lN b
  · have := (pk_lLT hb ha).mp h1
    rw [if_pos h1]; exact ⟨fun _ => by omega, fun _ => by decide⟩
  · have h1' := fun h => h1 ((pk_lLT hb ha).mpr h)
    rw [if_neg h1]
    by_cases h2 : lN a = lN b
    · have := (pk_lEQ ha hb).mp h2
      rw [if_pos h2]; exact ⟨fun _ => by omega, fun _ => by decide⟩
    · have h3 : a ≠ b := fun h => h2 ((pk_lEQ ha hb).mpr h)
      rw [if_neg h2]; exact ⟨fun h => absurd h (by decide), fun h => absurd (show b < a by omega) h1'⟩
theorem k_clt {a b : Nat} (ha : a < 2 ^ 63) (hb : b < 2 ^ 63) : lg_cmp (lN a) (lN b) < 0 ↔ a < b := by
  rw [← Int32.not_le, k_cge ha hb]; omega
/-! stores -/
theorem up_nI (f : Nat → Nat) (k x : Nat) : upd (fun j => nI (f j)) k (nI x) = fun j => nI (va_up f k x j) := by
  funext j; unfold upd va_up; split <;> rfl
theorem up_pI (f : Nat → Option Nat) (k : Nat) (x : Option Nat) : upd (fun j => pI (f j)) k (pI x) = fun j => pI (va_up f k x j) := by
  funext j; unfold upd va_up; split <;> rfl
section XR
variable {p : Program} {l : Launch} {e : Env} {R : Room} {s : State} {m : MethodId} {args : Array Value} {below : List Frame} {meth : Method} {c : Code} {H : Heap} {locs : List Loc} {cells slots : Nat} {Q : State → Prop}
variable {cc : ByteArray} {pc : Nat} {ls : Array Slot} {rest : List Value} {D : va_G} {cl : List vw_C} {A : Nat → Prop} {a : Nat} {tys : List (ClassId × FieldType)} {ws : va_W} {H0 : Heap}
theorem x_topi {x y : Int32} (h : x = y) (k : W p l e R s m args below meth c H locs cells slots Q (F0 m pc ls (.int y :: rest))) : W p l e R s m args below meth c H locs cells slots Q (F0 m pc ls (.int x :: rest)) := by subst h; exact k
theorem x_topl {x y : Int64} (h : x = y) (k : W p l e R s m args below meth c H locs cells slots Q (F0 m pc ls (.long y :: rest))) : W p l e R s m args below meth c H locs cells slots Q (F0 m pc ls (.long x :: rest)) := by subst h; exact k
theorem x_iald (hexec : p.tables.exec = Jvm.exec) (hb : c.code = cc) (hK : va_K D cl tys s) (hP : va_P D cl ws H) (q0 t0 : Nat) {cA : ClassId} {n : Nat} {f : Nat → Int32} (ha : ws[q0]? = some (a, .inl (cA, n, .inl f))) (ht : tys[t0]? = some (cA, .int)) {i : Int32} {j : Nat} (hj : j < n) (hn : n < 2 ^ 31) (hi : i = nI j) {v : Int32} (hv : f j = v) (hdg : decode cc pc = .ok (.iaload, 1))
    (kk : W p l e R s m args below meth c H locs cells slots Q (F0 m (pc + 1) ls (.int v :: rest))) : W p l e R s m args below meth c H locs cells slots Q (F0 m pc ls (.int i :: .ref a :: rest)) := by
  subst hi; subst hv
  refine va_iald hexec hb hK hP q0 t0 ha ht (vp_in_nI hj hn) hdg ?_
  rw [nI_clamp (Nat.lt_trans hj hn)]
  exact kk
theorem x_iast (hexec : p.tables.exec = Jvm.exec) (hb : c.code = cc) (hK : va_K D cl tys s) (hP : va_P D cl ws H) (hD : va_D A ws) (hS : va_S A H0 H locs) (q0 t0 : Nat) {cA : ClassId} {n : Nat} {f : Nat → Int32} (ha : ws[q0]? = some (a, .inl (cA, n, .inl f))) (ht : tys[t0]? = some (cA, .int)) {i : Int32} {x : Int32} {j : Nat} (hj : j < n) (hn : n < 2 ^ 31) (hi : i = nI j) {g : Nat → Int32} (hg : upd f j x = g) {ws' : va_W} (hw : ws.set q0 (a, .inl (cA, n, .inl g)) = ws') (hdg : decode cc pc = .ok (.iastore, 1))
    (kk : ∀ (H1 : Heap) (locs1 : List Loc), va_P D cl ws' H1 → va_D A ws' → va_S A H0 H1 locs1 → W p l e R s m args below meth c H1 locs1 cells slots Q (F0 m (pc + 1) ls rest)) : W p l e R s m args below meth c H locs cells slots Q (F0 m pc ls (.int x :: .int i :: .ref a :: rest)) := by
  subst hi; subst hg; subst hw
  refine va_iast hexec hb hK hP hD hS q0 t0 ha ht (vp_in_nI hj hn) hdg ?_
  rw [nI_clamp (Nat.lt_trans hj hn)]
  exact kk
end XR
