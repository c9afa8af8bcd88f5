/-! forms of contracts that leave the heap as it is -/
def PcS (D : va_G) (tys : List (ClassId × FieldType)) (ws : va_W) (av : List Value) : Array Value → State → Prop := va_Pc av (fun U => va_P D classes ws U.heap ∧ va_K D classes tys U ∧ NW U)
theorem PcS.blind {D : va_G} {tys : List (ClassId × FieldType)} {ws : va_W} {av : List Value} : FrameBlind (PcS D tys ws av) := fun a U g mk q => by
  obtain ⟨q0, qP, qK, qN⟩ := q
  exact ⟨q0, qP, va_K.moved (u := U) (U := U.calling g mk a) (Vm.Alike.refl U.vm) qK, NW.same (u := U) (U := U.calling g mk a) rfl qN⟩
theorem PcS.use {D : va_G} {tys : List (ClassId × FieldType)} {ws : va_W} {av : List Value} {s : State} {H : Heap} (hP : va_P D classes ws H) (hK : va_K D classes tys s) (hN : NW s) : ∀ U : State, U.heap = H → s.WarmedH U.vm → PcS D tys ws av av.toArray U := fun U hU hW => ⟨rfl, by rw [hU]; exact hP, va_K.moved hW.alike hK, hN.warm hW⟩
/-! the records of one ledger: numbers, places, how many -/
abbrev RS : Type := (Nat → Nat → Nat) × (Nat → Nat → Option Nat) × Nat
abbrev RS.pre (X : RS) : Nat → Nat := X.1 0
abbrev RS.len (X : RS) : Nat → Nat := X.1 1
abbrev RS.lev (X : RS) : Nat → Nat := X.1 2
abbrev RS.hol (X : RS) : Nat → Nat := X.1 3
abbrev RS.sta (X : RS) : Nat → Nat := X.1 4
abbrev RS.en (X : RS) : Nat → Nat := X.1 5
abbrev RS.par (X : RS) : Nat → Option Nat := X.2.1 0
abbrev RS.fc (X : RS) : Nat → Option Nat := X.2.1 1
abbrev RS.nx (X : RS) : Nat → Option Nat := X.2.1 2
abbrev RS.n (X : RS) : Nat := X.2.2
abbrev wRe (cI : ClassId) (h : Nat) (b : Nat → Nat) (X : RS) : va_W := [(h, .inr (3, [.ref (b 0), .ref (b 1), .ref (b 2), .ref (b 3), .ref (b 4), .ref (b 5), .ref (b 6), .ref (b 7), .ref (b 8), .int (nI X.n)])), (b 0, .inl (cI, 200, .inl (fun j => nI (X.pre j)))), (b 1, .inl (cI, 200, .inl (fun j => nI (X.len j)))), (b 2, .inl (cI, 200, .inl (fun j => pI (X.par j)))), (b 3, .inl (cI, 200, .inl (fun j => nI (X.lev j)))), (b 4, .inl (cI, 200, .inl (fun j => nI (X.hol j)))), (b 5, .inl (cI, 200, .inl (fun j => nI (X.sta j)))), (b 6, .inl (cI, 200, .inl (fun j => nI (X.en j)))), (b 7, .inl (cI, 200, .inl (fun j => pI (X.fc j)))), (b 8, .inl (cI, 200, .inl (fun j => pI (X.nx j))))]
theorem bT {P : Prop} [Decidable P] (h : P) : (1 : Int32) = bi (decide P) := by simp [bi, h]
theorem bF {P : Prop} [Decidable P] (h : ¬ P) : (0 : Int32) = bi (decide P) := by simp [bi, h]
theorem bi_d {P : Prop} [Decidable P] : bi (decide P) = 0 ↔ ¬ P := by by_cases h : P <;> simp [bi, h]
def RSok (X : RS) : Prop := X.n ≤ 200 ∧ ∀ j, X.pre j < 4294967296 ∧ X.len j < 33 ∧ X.lev j < 5 ∧ X.hol j < 10000 ∧ X.sta j < 5 ∧ X.en j < 200000 ∧ (∀ k, X.par j = some k → k < 200) ∧ (∀ k, X.fc j = some k → k < 200) ∧ ∀ k, X.nx j = some k → k < 200
theorem RSok.n {X : RS} (h : RSok X) : X.n ≤ 200 := h.1
theorem RSok.pre {X : RS} (h : RSok X) (j : Nat) : X.pre j < 4294967296 := (h.2 j).1
theorem RSok.len {X : RS} (h : RSok X) (j : Nat) : X.len j < 33 := (h.2 j).2.1
theorem RSok.lev {X : RS} (h : RSok X) (j : Nat) : X.lev j < 5 := (h.2 j).2.2.1
theorem RSok.hol {X : RS} (h : RSok X) (j : Nat) : X.hol j < 10000 := (h.2 j).2.2.2.1
theorem RSok.sta {X : RS} (h : RSok X) (j : Nat) : X.sta j < 5 := (h.2 j).2.2.2.2.1
theorem RSok.en {X : RS} (h : RSok X) (j : Nat) : X.en j < 200000 := (h.2 j).2.2.2.2.2.1
theorem RSok.par {X : RS} (h : RSok X) {j k : Nat} (q : X.par j = some k) : k < 200 := (h.2 j).2.2.2.2.2.2.1 k q
theorem RSok.fc {X : RS} (h : RSok X) {j k : Nat} (q : X.fc j = some k) : k < 200 := (h.2 j).2.2.2.2.2.2.2.1 k q
theorem RSok.nx {X : RS} (h : RSok X) {j k : Nat} (q : X.nx j = some k) : k < 200 := (h.2 j).2.2.2.2.2.2.2.2 k q
/-- two blocks have an address in common -/
abbrev mt2 (a m b n : Nat) : Prop := a < b + 2 ^ (32 - n) ∧ b < a + 2 ^ (32 - m)
theorem k_eqn {a b : Nat} (ha : a < 4294967296) (hb : b < 4294967296) : ¬ nI a = nI b ↔ ¬ a = b := not_congr (k_eq ha hb)
def cl4 (n : Nat) : Nat := (n + 3) / 4 * 4
theorem k_cl4 : ∀ n, n < 33 → (nI n + 4 - 1) / 4 * 4 = nI (cl4 n) := by decide +kernel
theorem cl4_lt : ∀ n, n < 33 → cl4 n < 33 ∧ n ≤ cl4 n ∧ cl4 n - n < 4 := by decide +kernel
theorem k_cut : ∀ n, n < 33 → (1 : Int32) <<< ((nI (cl4 n) - nI n) &&& 31) = nI (2 ^ (cl4 n - n)) := by decide +kernel
def fct (X : RS) (j w : Nat) : Int32 := match w with
  | 0 => nI (X.pre j)
  | 1 => nI (X.len j)
  | 2 => pI (X.par j)
  | 3 => nI (X.lev j)
  | 4 => nI (X.hol j)
  | 5 => nI (X.sta j)
  | _ => nI (X.en j)
