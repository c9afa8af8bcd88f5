/-! hand over, policies, the next free block of the reference -/
def upF (V : MS) (r : Nat) : Nat → Option Nat → Option Nat
  | 0, q => q
  | _ + 1, none => none
  | k + 1, some c => if c = r ∨ V.sta c = 4 then some c else upF V r k (V.par c)
def hoF (V : MS) (r w : Nat) : Nat → Nat → (Nat → Nat) → Nat → (Nat → Nat) × Nat
  | _, 0, h, a => (h, a)
  | i, k + 1, h, a => if upF V r 400 (some i) = some r then hoF V r w (i + 1) k (va_up h i w) (a + 1) else hoF V r w (i + 1) k h a
def vHov (V : MS) (r w : Nat) : MS := (mkV V.mn V.pre V.len V.lev ((hoF V r w (sbN r) (ebN V r - sbN r) V.hol 0).1) V.sta V.en V.tdy V.dys V.pol V.par V.kd V.fi V.se V.th V.ne V.tc V.fo V.fl)
def moTra (V : MS) (x w : Nat) : MS := if x < V.mn 0 then (if w ≤ 9999 then (if V.sta x = 4 then (mkV V.mn V.pre V.len V.lev V.hol V.sta V.en V.tdy V.dys V.pol V.par V.kd V.fi V.se V.th V.ne 3 V.fo V.fl) else if V.ne = 300 then (mkV V.mn V.pre V.len V.lev V.hol V.sta V.en V.tdy V.dys V.pol V.par V.kd V.fi V.se V.th V.ne 4 V.fo V.fl) else vHov (vNote (mkV V.mn V.pre V.len V.lev V.hol V.sta V.en V.tdy V.dys V.pol V.par V.kd V.fi V.se V.th V.ne 0 V.fo V.fl) 8 (nI x) (nI w) 0) x w) else (mkV V.mn V.pre V.len V.lev V.hol V.sta V.en V.tdy V.dys V.pol V.par V.kd V.fi V.se V.th V.ne 2 V.fo V.fl)) else (mkV V.mn V.pre V.len V.lev V.hol V.sta V.en V.tdy V.dys V.pol V.par V.kd V.fi V.se V.th V.ne 1 V.fo V.fl)
def moTraR (V : MS) (x w : Nat) : Nat := if ((x < V.mn 0 ∧ w ≤ 9999) ∧ ¬ V.sta x = 4) ∧ ¬ V.ne = 300 then (hoF (vNote (mkV V.mn V.pre V.len V.lev V.hol V.sta V.en V.tdy V.dys V.pol V.par V.kd V.fi V.se V.th V.ne 0 V.fo V.fl) 8 (nI x) (nI w) 0) x w (sbN x) (ebN (vNote (mkV V.mn V.pre V.len V.lev V.hol V.sta V.en V.tdy V.dys V.pol V.par V.kd V.fi V.se V.th V.ne 0 V.fo V.fl) 8 (nI x) (nI w) 0) x - sbN x) (vNote (mkV V.mn V.pre V.len V.lev V.hol V.sta V.en V.tdy V.dys V.pol V.par V.kd V.fi V.se V.th V.ne 0 V.fo V.fl) 8 (nI x) (nI w) 0).hol 0).2 else 0
theorem MSok_hol {V : MS} (hV : MSok V) {hf : Nat → Nat} (h : ∀ j, hf j < 10000) : MSok (mkV V.mn V.pre V.len V.lev hf V.sta V.en V.tdy V.dys V.pol V.par V.kd V.fi V.se V.th V.ne V.tc V.fo V.fl) :=
  ⟨hV.1, fun j => ⟨hV.mn j, hV.pre j, hV.len j, hV.lev j, h j, hV.sta j, hV.en j, hV.tdy j, hV.dys j, hV.pol j, fun k q => hV.par q⟩⟩
theorem hpp0 {V : MS} {x : Nat} (hx : x < 200) (h : ∀ c q, c < V.mn 0 → V.par c = some q → q < c) : ∀ c q, sbN x ≤ c → c < ebN V x → V.par c = some q → sbN x ≤ q ∧ q < c := by
  intro c q h1 h2 h3
  unfold ebN at h2
  rw [if_pos hx] at h2
  unfold sbN
  rw [if_pos hx]
  exact ⟨Nat.zero_le _, h c q h2 h3⟩
theorem k_4d : ∀ d, d < 2 → (4 : Int32) * nI d = nI (4 * d) := by decide +kernel
theorem k_dec (n : Nat) : nI (n + 1) + (-1) = nI n := by
  rw [← nI_pred n]; exact (Int32.sub_eq_add_neg _ _).symm
theorem sumF_le {f : Nat → Nat} {B : Nat} (h : ∀ j, f j ≤ B) : ∀ k i a, sumF f i k a ≤ a + k * B
  | 0, _, a => by simp [sumF]
  | k + 1, i, a => by
    have h1 := sumF_le h k (i + 1) (a + f i)
    have h2 := h i
    simp only [sumF]
    rw [Nat.add_mul]
    omega
theorem usN_le {V : MS} (hV : MSok V) (r : Nat) : usN V r ≤ 1717986918400 := by
  have h1 := eb_le hV r
  have h2 := sumF_le (f := usF V r) (B := 4294967296) (fun j => by
    unfold usF; split
    · exact k_pow
    · omega) (ebN V r - sbN r) (sbN r) 0
  have h3 : (ebN V r - sbN r) * 4294967296 ≤ 400 * 4294967296 := Nat.mul_le_mul_right _ (by omega)
  unfold usN
  omega
theorem sz_pol {V : MS} (hV : MSok V) (i j : Nat) : 2 ^ (32 - V.len i) * V.pol j < 2 ^ 63 := by
  have h1 := k_pow (n := V.len i)
  have h2 := hV.pol j
  have h3 := Nat.mul_le_mul h1 h2
  omega
def meF (V : MS) (r le : Nat) : Nat → Nat → Bool → Bool
  | _, 0, a => a
  | i, k + 1, a => meF V r le (i + 1) k (if V.par i = some r ∧ V.sta i = 1 ∧ V.hol i = V.hol r then (a && decide (2 ^ (32 - V.len i) * le ≤ usN V i * 1000)) else a)
def meN (V : MS) (b d r : Nat) : Bool := meF V r (V.pol (4 * d + V.lev r)) b (V.mn d) true
theorem pI_lt0 {o : Option Nat} (h : ∀ j, o = some j → j < 2147483648) : pI o < 0 ↔ o = none := by
  rw [← Int32.not_le, pI_ge h, Decidable.not_not]
abbrev vFn (V : MS) (t : Nat) (fo : Int64) (fl : Int32) : MS := (mkV V.mn V.pre V.len V.lev V.hol V.sta V.en V.tdy V.dys V.pol V.par V.kd V.fi V.se V.th V.ne t fo fl)
/-- the first address from a on that no live child takes, or one behind the end -/
def skF (V : MS) (r : Nat) : Nat → Nat → Nat
  | 0, a => a
  | k + 1, a => if a < V.pre r + 2 ^ (32 - V.len r) then (match tkN V r a 32 with
    | none => a
    | some c => skF V r k (V.pre c + 2 ^ (32 - V.len c))) else a
def skN (V : MS) (r a : Nat) : Nat := skF V r (V.pre r + 2 ^ (32 - V.len r)) a
abbrev frA (V : MS) (r p n : Nat) : Prop := V.len r ≤ n ∧ mtM p n (V.pre r) (V.len r) ∧ tkN V r p n = none
def blF (V : MS) (r a : Nat) : Nat → Nat
  | 0 => 0
  | n + 1 => if a % 2 ^ (32 - n) = 0 ∧ frA V r a n then blF V r a n else n + 1
def vNx (V : MS) (t : Nat) (fo : Int64) (fl : Int32) (r f : Nat) : MS := if skN V r f < V.pre r + 2 ^ (32 - V.len r) then vFn V t (lN (skN V r f)) (nI (blF V r (skN V r f) 32)) else vFn V t fo fl
theorem skF_ge {V : MS} {r a : Nat} (h : V.pre r + 2 ^ (32 - V.len r) ≤ a) : ∀ {k : Nat}, skF V r k a = a
  | 0 => rfl
  | k + 1 => by simp only [skF]; rw [if_neg (by omega)]
theorem skF_none {V : MS} {r a : Nat} (h : a < V.pre r + 2 ^ (32 - V.len r)) (hn : tkN V r a 32 = none) : ∀ {k : Nat}, skF V r k a = a
  | 0 => rfl
  | k + 1 => by simp only [skF]; rw [if_pos h, hn]
theorem lastF_P {P : Nat → Bool} : ∀ (k i : Nat) (a : Option Nat) (j : Nat), lastF P i k a = some j → a = some j ∨ (P j = true ∧ i ≤ j ∧ j < i + k)
  | 0, _, _, _, h => Or.inl h
  | k + 1, i, a, j, h => by
    rcases lastF_P k (i + 1) _ j h with q | q
    · by_cases hP : P i = true
      · rw [if_pos hP] at q; cases q; exact Or.inr ⟨hP, by omega, by omega⟩
      · rw [if_neg hP] at q; exact Or.inl q
    · exact Or.inr ⟨q.1, by omega, by omega⟩
theorem tkN_P {V : MS} {r p n c : Nat} (h : tkN V r p n = some c) : (V.par c = some r ∧ V.sta c ≠ 4) ∧ mtM (V.pre c) (V.len c) p n := by
  rcases lastF_P _ _ _ _ h with q | q
  · exact nomatch q
  · have := q.1
    unfold tkP at this
    simp only [Bool.and_eq_true, decide_eq_true_eq] at this
    exact this
theorem tk_gt {V : MS} {r a c : Nat} (h : tkN V r a 32 = some c) : a < V.pre c + 2 ^ (32 - V.len c) := by
  have h1 := (tkN_P h).2
  have e : 32 - min (V.len c) 32 = 32 - V.len c := by omega
  unfold mtM at h1
  rw [e] at h1
  have h3 := Nat.pow_pos (n := 32 - V.len c) (show 0 < 2 by decide)
  have h4 := Nat.div_add_mod a (2 ^ (32 - V.len c))
  have h5 := Nat.mod_lt a h3
  have h6 := Nat.div_mul_le_self (V.pre c) (2 ^ (32 - V.len c))
  rw [h1, Nat.mul_comm] at h6
  omega
set_option maxHeartbeats 4000000 in
set_option maxRecDepth 100000 in
theorem c_Mo_handOver (l : Launch) (dC : Nat → ClassId) (dI : Nat → Nat → Nat) (sz : Nat) (cI : ClassId) (o : Nat) (a : Nat → Nat) (V : MS) (hV : MSok V) (r : Nat) (hr0 : r < 400) (hpp : ∀ c q, sbN r ≤ c → c < ebN V r → V.par c = some q → sbN r ≤ q ∧ q < c) (w : Nat) (hw : w < 10000) : Met l y_Mo_handOver (.code y_Mo_handOver b_Mo_handOver 6 (some .int) :: wG) ({ frames := 1, cells := 0, slots := 0, locals := 21 }) (PcM (dC, dI) [(cI, .int)] (wMo cI o a V) [.ref o, .int (nI r), .int (nI w)] sz) (QmI (dC, dI) [(cI, .int)] (wMo cI o a V) (wMo cI o a (vHov V r w)) sz (nI (hoF V r w (sbN r) (ebN V r - sbN r) V.hol 0).2)) 0 0 (va_A (wMo cI o a V) sz) := by
  refine Met.ofW (cc := b_Mo_handOver) (maxL := 6) (ret := (some .int)) (by decide) rfl ?_
  intro pg eg s mg ag bg meth cg s₁ B hml hv
  obtain ⟨rfl, hsz, hP, hK, hD0, hN⟩ := hv
  have hx := B.exec
  have hb := B.bytes
  have hr := B.returns
  have hlocks := B.notSynchronized
  have hts : ∀ w9 ∈ wG, w9.before ([.ref o, .int (nI r), .int (nI w)] : List Value).toArray s = true := fun w9 h9 => atoms_spec (ws := (.code y_Mo_handOver b_Mo_handOver 6 (some .int) :: wG)) B.pre w9 (List.mem_cons_of_mem _ h9)
  have hown : s.vm.findClass "PrefixRegistryModel" = some mg.cls := findClass_of_methodNamed B.named
  subst hsz
  have hD := hD0.self (sz := s.heap.size)
  unfold QmI
  generalize hAe : va_A (wMo cI o a V) s.heap.size = A at hD ⊢
  have hA : ∀ q : Nat, s.heap.size ≤ q → A q := fun q h => by rw [← hAe]; exact Or.inr h
  have hS : va_S A s.heap s.heap [] := va_S.rf
  have hl := lv_entry ([.ref o, .int (nI r), .int (nI w)]) (n := 6) (Nat.le_of_ble_eq_true rfl)
  rw [lg_entry_eq]
  generalize (lg_sl ([.ref o, .int (nI r), .int (nI w)]) ++ List.replicate (6 - (lg_sl ([.ref o, .int (nI r), .int (nI w)])).length) Slot.unset).toArray = ls at hl ⊢
  replace hl : lv_has ls 6 [(0, .ref o), (1, .int (nI r)), (2, .int (nI w))] := hl
  replace hP : va_P (dC, dI) classes (wMo cI o a V) s.heap := hP
  replace hD : va_D A (wMo cI o a V) := hD
  have hse := sb_le V r
  have hee := eb_le hV r
  refine lv_iconst (v := 0) hx hb d_Mo_handOver_0 (by decide) ?_
  refine lv_istore_n hx hb d_Mo_handOver_1 rfl hl (by decide) rfl (fun ls hl => ?_)
  replace hl : lv_has ls 6 [(3, .int 0), (0, .ref o), (1, .int (nI r)), (2, .int (nI w))] := hl
  refine lv_aload_n hx hb d_Mo_handOver_2 rfl (lv_at hl 1 rfl) ?_
  refine lv_iload_n hx hb d_Mo_handOver_3 rfl (lv_at hl 2 rfl) ?_
  refine vp_callSi (W.runV (b := o) (As := [.int (nI r)]) (rest := []) ⟨hx, hb, hml, hown, hts⟩ (c_Mo_startOf l dC dI cI o a V hV r hr0) (cwV 1 hts (gV kw_833 kw_835 ks_32 kw_6 kw_836) rfl rfl rfl (by decide +kernel) ⟨Nat.le_of_ble_eq_true rfl, Nat.le_of_ble_eq_true rfl⟩) ⟨PcS.blind, va_recv (q0 := 0) hK hP rfl rfl, PcS.use hP hK hN⟩ rfl rfl hl.1 rfl (lv_room (Nat.le_of_ble_eq_true rfl)) d_Mo_handOver_4 ⟨Nat.zero_le _, Nat.zero_le _⟩) (fun r4 hr4 => ?_)
  obtain rfl : r4 = (nI (sbN r)) := hr4
  refine lv_istore hx hb d_Mo_handOver_7 hl (by decide) rfl (fun ls hl => ?_)
  replace hl : lv_has ls 6 [(4, .int (nI (sbN r))), (3, .int 0), (0, .ref o), (1, .int (nI r)), (2, .int (nI w))] := hl
  obtain ⟨H, hH⟩ : ∃ H, H = s.heap := ⟨_, rfl⟩
  rw [← hH]
  rw [← hH] at hP
  have hS : va_S A s.heap H [] := by rw [hH]; exact va_S.rf
  clear hH
  obtain ⟨locs, hlo⟩ : ∃ locs : List Loc, locs = [] := ⟨_, rfl⟩
  rw [← hlo] at hS ⊢
  clear hlo
  obtain ⟨hf, hhf⟩ : ∃ hf : Nat → Nat, hf = V.hol := ⟨_, rfl⟩
  obtain ⟨i, hi0⟩ : ∃ i : Nat, i = sbN r := ⟨_, rfl⟩
  obtain ⟨k, hk0⟩ : ∃ k : Nat, k = ebN V r - sbN r := ⟨_, rfl⟩
  obtain ⟨sm, hsm⟩ : ∃ sm : Nat, sm = 0 := ⟨_, rfl⟩
  have hres : hoF V r w i k hf sm = hoF V r w (sbN r) (ebN V r - sbN r) V.hol 0 := by rw [hi0, hk0, hhf, hsm]
  have his : sbN r ≤ i := by omega
  have hhb : ∀ j, hf j < 10000 := by rw [hhf]; exact hV.hol
  replace hP : va_P (dC, dI) classes (wMo cI o a (mkV V.mn V.pre V.len V.lev hf V.sta V.en V.tdy V.dys V.pol V.par V.kd V.fi V.se V.th V.ne V.tc V.fo V.fl)) H := by subst hhf; exact hP
  replace hD : va_D A (wMo cI o a (mkV V.mn V.pre V.len V.lev hf V.sta V.en V.tdy V.dys V.pol V.par V.kd V.fi V.se V.th V.ne V.tc V.fo V.fl)) := by subst hhf; exact hD
  replace hl : lv_has ls 6 [(4, .int (nI i)), (3, .int (nI sm)), (0, .ref o), (1, .int (nI r)), (2, .int (nI w))] := by subst hi0; subst hsm; exact hl
  have hik : i + k = ebN V r := by omega
  clear hi0 hk0 hsm hhf
  replace hres := hres
  replace his := his
  replace hhb := hhb
  replace hP := hP
  replace hD := hD
  replace hS := hS
  replace hl : lv_has ls 6 [(4, .int (nI i)), (3, .int (nI sm)), (0, .ref o), (1, .int (nI r)), (2, .int (nI w))] := hl
  induction k generalizing i ls H locs sm hf with
  | zero =>
    refine lv_iload hx hb d_Mo_handOver_9 (lv_at hl 0 rfl) ?_
    refine lv_aload_n hx hb d_Mo_handOver_11 rfl (lv_at hl 2 rfl) ?_
    refine lv_iload_n hx hb d_Mo_handOver_12 rfl (lv_at hl 3 rfl) ?_
    refine vp_callSi (W.runV (b := o) (As := [.int (nI r)]) (rest := [.int (nI i)]) ⟨hx, hb, hml, hown, hts⟩ (c_Mo_endOf l dC dI cI o a (mkV V.mn V.pre V.len V.lev hf V.sta V.en V.tdy V.dys V.pol V.par V.kd V.fi V.se V.th V.ne V.tc V.fo V.fl) (MSok_hol hV hhb) r hr0) (cwV 1 hts (gV kw_837 kw_839 ks_33 kw_6 kw_840) rfl rfl rfl (by decide +kernel) ⟨Nat.le_of_ble_eq_true rfl, Nat.le_of_ble_eq_true rfl⟩) ⟨PcS.blind, va_recv (q0 := 0) hK hP rfl rfl, PcS.use hP hK hN⟩ rfl rfl hl.1 rfl (lv_room (Nat.le_of_ble_eq_true rfl)) d_Mo_handOver_13 ⟨Nat.zero_le _, Nat.zero_le _⟩) (fun r13 hr13 => ?_)
    obtain rfl : r13 = (nI (ebN V r)) := hr13
    refine lv_icmp_ge hx hb d_Mo_handOver_16 rfl (fun _ => ?_) (fun h9 => absurd (nI_le (by omega) (by omega)) h9)
    refine lv_iload_n hx hb d_Mo_handOver_78 rfl (lv_at hl 1 rfl) ?_
    have e9 : hoF V r w (sbN r) (ebN V r - sbN r) V.hol 0 = (hf, sm) := hres.symm
    have hP9 : va_P (dC, dI) classes (wMo cI o a (vHov V r w)) H := by unfold vHov; rw [e9]; exact hP
    have hD9 : va_D A (wMo cI o a (vHov V r w)) := by unfold vHov; rw [e9]; exact hD
    exact W.iret (v := (nI sm)) hx hb hr (fun t ht hW => ⟨⟨(nI sm), (), rfl, (by rw [← hres]; rfl), by rw [ht]; exact hP9, va_K.moved hW.alike hK, hD9⟩, hS.F ht⟩) hS.2.2 d_Mo_handOver_79
  | succ k ih =>
    refine lv_iload hx hb d_Mo_handOver_9 (lv_at hl 0 rfl) ?_
    refine lv_aload_n hx hb d_Mo_handOver_11 rfl (lv_at hl 2 rfl) ?_
    refine lv_iload_n hx hb d_Mo_handOver_12 rfl (lv_at hl 3 rfl) ?_
    refine vp_callSi (W.runV (b := o) (As := [.int (nI r)]) (rest := [.int (nI i)]) ⟨hx, hb, hml, hown, hts⟩ (c_Mo_endOf l dC dI cI o a (mkV V.mn V.pre V.len V.lev hf V.sta V.en V.tdy V.dys V.pol V.par V.kd V.fi V.se V.th V.ne V.tc V.fo V.fl) (MSok_hol hV hhb) r hr0) (cwV 1 hts (gV kw_837 kw_839 ks_33 kw_6 kw_840) rfl rfl rfl (by decide +kernel) ⟨Nat.le_of_ble_eq_true rfl, Nat.le_of_ble_eq_true rfl⟩) ⟨PcS.blind, va_recv (q0 := 0) hK hP rfl rfl, PcS.use hP hK hN⟩ rfl rfl hl.1 rfl (lv_room (Nat.le_of_ble_eq_true rfl)) d_Mo_handOver_13 ⟨Nat.zero_le _, Nat.zero_le _⟩) (fun r13 hr13 => ?_)
    obtain rfl : r13 = (nI (ebN V r)) := hr13
    refine lv_icmp_ge hx hb d_Mo_handOver_16 rfl (fun h9 => absurd h9 (nI_ge (by omega) (by omega))) (fun _ => ?_)
    refine lv_iload hx hb d_Mo_handOver_19 (lv_at hl 0 rfl) ?_
    refine lv_istore hx hb d_Mo_handOver_21 hl (by decide) rfl (fun ls hl => ?_)
    replace hl : lv_has ls 6 [(5, .int (nI i)), (4, .int (nI i)), (3, .int (nI sm)), (0, .ref o), (1, .int (nI r)), (2, .int (nI w))] := hl
    obtain ⟨at9, hat⟩ : ∃ at9 : Option Nat, at9 = some i := ⟨_, rfl⟩
    obtain ⟨m9, hm9⟩ : ∃ m9 : Nat, m9 = 400 := ⟨_, rfl⟩
    have hup : upF V r m9 at9 = upF V r 400 (some i) := by rw [hat, hm9]
    have hlt9 : ∀ c, at9 = some c → c < m9 ∧ sbN r ≤ c ∧ c < ebN V r := by intro c q; rw [hat] at q; cases q; exact ⟨by omega, by omega, by omega⟩
    replace hl : lv_has ls 6 [(5, .int (pI at9)), (4, .int (nI i)), (3, .int (nI sm)), (0, .ref o), (1, .int (nI r)), (2, .int (nI w))] := by subst hat; exact hl
    clear hat hm9
    replace hup := hup
    replace hlt9 := hlt9
    replace hl : lv_has ls 6 [(5, .int (pI at9)), (4, .int (nI i)), (3, .int (nI sm)), (0, .ref o), (1, .int (nI r)), (2, .int (nI w))] := hl
    induction m9 generalizing at9 ls with
    | zero =>
      cases at9 with
      | none =>
        replace hl : lv_has ls 6 [(5, .int (pI none)), (4, .int (nI i)), (3, .int (nI sm)), (0, .ref o), (1, .int (nI r)), (2, .int (nI w))] := hl
        refine lv_iload hx hb d_Mo_handOver_23 (lv_at hl 0 rfl) ?_
        refine lv_if_lt hx hb d_Mo_handOver_25 rfl (fun _ => ?_) (fun h9 => absurd (by decide) h9)
        have hE : ¬ upF V r 400 (some i) = some r := by rw [← hup]; exact fun q => nomatch q
        refine lv_iload hx hb d_Mo_handOver_55 (lv_at hl 0 rfl) ?_
        refine lv_iload_n hx hb d_Mo_handOver_57 rfl (lv_at hl 4 rfl) ?_
        refine lv_icmp_ne hx hb d_Mo_handOver_58 rfl (fun h58 => ?_) (fun h9 => nomatch ((pI_eq (o := none) (fun j q => nomatch q) (by omega)).mp h9))
        refine lv_iinc hx hb d_Mo_handOver_72 hl (k := 1) (v := (nI (i + 1))) rfl (nI_1 i) (by decide) rfl (fun ls hl => ?_)
        replace hl : lv_has ls 6 [(4, .int (nI (i + 1))), (5, .int (pI none)), (3, .int (nI sm)), (0, .ref o), (1, .int (nI r)), (2, .int (nI w))] := hl
        refine lv_goto hx hb d_Mo_handOver_75 rfl ?_
        replace hP : va_P (dC, dI) classes (wMo cI o a (mkV V.mn V.pre V.len V.lev hf V.sta V.en V.tdy V.dys V.pol V.par V.kd V.fi V.se V.th V.ne V.tc V.fo V.fl)) H := hP
        replace hD : va_D A (wMo cI o a (mkV V.mn V.pre V.len V.lev hf V.sta V.en V.tdy V.dys V.pol V.par V.kd V.fi V.se V.th V.ne V.tc V.fo V.fl)) := hD
        refine ih _ _ _ _ _ _ ?_ ?_ ?_ ?_ hP hD hS (lv_sub hl [0, 2, 3, 4, 5] rfl)
        · omega
        · exact (by rw [← hres]; simp only [hoF]; rw [if_neg hE])
        · exact (by omega)
        · exact hhb
      | some c =>
        exact absurd (hlt9 c rfl).1 (Nat.not_lt_zero _)
    | succ m9 ih2 =>
      cases at9 with
      | none =>
        replace hl : lv_has ls 6 [(5, .int (pI none)), (4, .int (nI i)), (3, .int (nI sm)), (0, .ref o), (1, .int (nI r)), (2, .int (nI w))] := hl
        refine lv_iload hx hb d_Mo_handOver_23 (lv_at hl 0 rfl) ?_
        refine lv_if_lt hx hb d_Mo_handOver_25 rfl (fun _ => ?_) (fun h9 => absurd (by decide) h9)
        have hE : ¬ upF V r 400 (some i) = some r := by rw [← hup]; exact fun q => nomatch q
        refine lv_iload hx hb d_Mo_handOver_55 (lv_at hl 0 rfl) ?_
        refine lv_iload_n hx hb d_Mo_handOver_57 rfl (lv_at hl 4 rfl) ?_
        refine lv_icmp_ne hx hb d_Mo_handOver_58 rfl (fun h58 => ?_) (fun h9 => nomatch ((pI_eq (o := none) (fun j q => nomatch q) (by omega)).mp h9))
        refine lv_iinc hx hb d_Mo_handOver_72 hl (k := 1) (v := (nI (i + 1))) rfl (nI_1 i) (by decide) rfl (fun ls hl => ?_)
        replace hl : lv_has ls 6 [(4, .int (nI (i + 1))), (5, .int (pI none)), (3, .int (nI sm)), (0, .ref o), (1, .int (nI r)), (2, .int (nI w))] := hl
        refine lv_goto hx hb d_Mo_handOver_75 rfl ?_
        replace hP : va_P (dC, dI) classes (wMo cI o a (mkV V.mn V.pre V.len V.lev hf V.sta V.en V.tdy V.dys V.pol V.par V.kd V.fi V.se V.th V.ne V.tc V.fo V.fl)) H := hP
        replace hD : va_D A (wMo cI o a (mkV V.mn V.pre V.len V.lev hf V.sta V.en V.tdy V.dys V.pol V.par V.kd V.fi V.se V.th V.ne V.tc V.fo V.fl)) := hD
        refine ih _ _ _ _ _ _ ?_ ?_ ?_ ?_ hP hD hS (lv_sub hl [0, 2, 3, 4, 5] rfl)
        · omega
        · exact (by rw [← hres]; simp only [hoF]; rw [if_neg hE])
        · exact (by omega)
        · exact hhb
      | some c =>
        have hc4 : c < 400 := by have := (hlt9 c rfl).2.2; omega
        replace hl : lv_has ls 6 [(5, .int (nI c)), (4, .int (nI i)), (3, .int (nI sm)), (0, .ref o), (1, .int (nI r)), (2, .int (nI w))] := hl
        refine lv_iload hx hb d_Mo_handOver_23 (lv_at hl 0 rfl) ?_
        refine lv_if_lt hx hb d_Mo_handOver_25 rfl (fun h9 => absurd h9 (nI_pos (by omega))) (fun _ => ?_)
        refine lv_iload hx hb d_Mo_handOver_28 (lv_at hl 0 rfl) ?_
        refine lv_iload_n hx hb d_Mo_handOver_30 rfl (lv_at hl 4 rfl) ?_
        refine lv_icmp_eq hx hb d_Mo_handOver_31 rfl (fun h31 => ?_) (fun h31 => ?_)
        · have h31 := (k_eq (by omega) (by omega)).mp h31
          have hE : upF V r 400 (some i) = some r := by rw [← hup]; simp only [upF]; rw [if_pos (Or.inl h31), h31]
          refine lv_iload hx hb d_Mo_handOver_55 (lv_at hl 0 rfl) ?_
          refine lv_iload_n hx hb d_Mo_handOver_57 rfl (lv_at hl 4 rfl) ?_
          refine lv_icmp_ne hx hb d_Mo_handOver_58 rfl (fun h9 => absurd h9 (fun q => q (by rw [h31]))) (fun _ => ?_)
          refine lv_aload_n hx hb d_Mo_handOver_61 rfl (lv_at hl 3 rfl) ?_
          refine va_get (D := (dC, dI)) (ci := 5) (v := .ref (a 5)) (C := R_Mo) (T := F_Mo) (N := 19) hx hb hts u_Mo hown hK hP 0 rfl rfl 6 (by decide) (hts _ kw_720) (fun _ h9 => h9) rfl d_Mo_handOver_62 ?_
          refine lv_iload hx hb d_Mo_handOver_65 (lv_at hl 1 rfl) ?_
          refine lv_iload_n hx hb d_Mo_handOver_67 rfl (lv_at hl 5 rfl) ?_
          refine x_iast (j := i) (g := (fun z9 => nI (va_up hf i w z9))) hx hb hK hP hD hS 6 0 rfl rfl (by omega) (by decide) rfl (up_nI _ _ w) rfl d_Mo_handOver_68 (fun H locs hP hD hS => ?_)
          replace hP : va_P (dC, dI) classes [(o, .inr (5, [.int (nI V.tc), .ref (a 0), .ref (a 1), .ref (a 2), .ref (a 3), .ref (a 4), .ref (a 5), .ref (a 6), .ref (a 7), .ref (a 8), .ref (a 9), .ref (a 10), .int (nI V.ne), .ref (a 11), .ref (a 12), .ref (a 13), .ref (a 14), .long V.fo, .int V.fl])), ((a 0), .inl (cI, 2, .inl (fun z9 => nI (V.mn z9)))), ((a 1), .inl (cI, 400, .inl (fun z9 => nI (V.pre z9)))), ((a 2), .inl (cI, 400, .inl (fun z9 => nI (V.len z9)))), ((a 3), .inl (cI, 400, .inl (fun z9 => pI (V.par z9)))), ((a 4), .inl (cI, 400, .inl (fun z9 => nI (V.lev z9)))), ((a 5), .inl (cI, 400, .inl (fun z9 => nI (va_up hf i w z9)))), ((a 6), .inl (cI, 400, .inl (fun z9 => nI (V.sta z9)))), ((a 7), .inl (cI, 400, .inl (fun z9 => nI (V.en z9)))), ((a 8), .inl (cI, 2, .inl (fun z9 => nI (V.tdy z9)))), ((a 9), .inl (cI, 2, .inl (fun z9 => nI (V.dys z9)))), ((a 10), .inl (cI, 8, .inl (fun z9 => nI (V.pol z9)))), ((a 11), .inl (cI, 300, .inl V.kd)), ((a 12), .inl (cI, 300, .inl V.fi)), ((a 13), .inl (cI, 300, .inl V.se)), ((a 14), .inl (cI, 300, .inl V.th))] H := hP
          replace hD : va_D A [(o, .inr (5, [.int (nI V.tc), .ref (a 0), .ref (a 1), .ref (a 2), .ref (a 3), .ref (a 4), .ref (a 5), .ref (a 6), .ref (a 7), .ref (a 8), .ref (a 9), .ref (a 10), .int (nI V.ne), .ref (a 11), .ref (a 12), .ref (a 13), .ref (a 14), .long V.fo, .int V.fl])), ((a 0), .inl (cI, 2, .inl (fun z9 => nI (V.mn z9)))), ((a 1), .inl (cI, 400, .inl (fun z9 => nI (V.pre z9)))), ((a 2), .inl (cI, 400, .inl (fun z9 => nI (V.len z9)))), ((a 3), .inl (cI, 400, .inl (fun z9 => pI (V.par z9)))), ((a 4), .inl (cI, 400, .inl (fun z9 => nI (V.lev z9)))), ((a 5), .inl (cI, 400, .inl (fun z9 => nI (va_up hf i w z9)))), ((a 6), .inl (cI, 400, .inl (fun z9 => nI (V.sta z9)))), ((a 7), .inl (cI, 400, .inl (fun z9 => nI (V.en z9)))), ((a 8), .inl (cI, 2, .inl (fun z9 => nI (V.tdy z9)))), ((a 9), .inl (cI, 2, .inl (fun z9 => nI (V.dys z9)))), ((a 10), .inl (cI, 8, .inl (fun z9 => nI (V.pol z9)))), ((a 11), .inl (cI, 300, .inl V.kd)), ((a 12), .inl (cI, 300, .inl V.fi)), ((a 13), .inl (cI, 300, .inl V.se)), ((a 14), .inl (cI, 300, .inl V.th))] := hD
          refine lv_iinc hx hb d_Mo_handOver_69 hl (k := 2) (v := (nI (sm + 1))) rfl (nI_1 _) (by decide) rfl (fun ls hl => ?_)
          replace hl : lv_has ls 6 [(3, .int (nI (sm + 1))), (5, .int (nI c)), (4, .int (nI i)), (0, .ref o), (1, .int (nI r)), (2, .int (nI w))] := hl
          refine lv_iinc hx hb d_Mo_handOver_72 hl (k := 2) (v := (nI (i + 1))) rfl (nI_1 i) (by decide) rfl (fun ls hl => ?_)
          replace hl : lv_has ls 6 [(4, .int (nI (i + 1))), (3, .int (nI (sm + 1))), (5, .int (nI c)), (0, .ref o), (1, .int (nI r)), (2, .int (nI w))] := hl
          refine lv_goto hx hb d_Mo_handOver_75 rfl ?_
          replace hP : va_P (dC, dI) classes (wMo cI o a (mkV V.mn V.pre V.len V.lev (va_up hf i w) V.sta V.en V.tdy V.dys V.pol V.par V.kd V.fi V.se V.th V.ne V.tc V.fo V.fl)) H := hP
          replace hD : va_D A (wMo cI o a (mkV V.mn V.pre V.len V.lev (va_up hf i w) V.sta V.en V.tdy V.dys V.pol V.par V.kd V.fi V.se V.th V.ne V.tc V.fo V.fl)) := hD
          refine ih _ _ _ _ _ _ ?_ ?_ ?_ ?_ hP hD hS (lv_sub hl [0, 1, 3, 4, 5] rfl)
          · omega
          · exact (by rw [← hres]; simp only [hoF]; rw [if_pos hE])
          · exact (by omega)
          · exact up_all (P := (· < 10000)) hhb hw
        have h31 := mt (k_eq (by omega) (by omega)).mpr h31
        refine lv_aload_n hx hb d_Mo_handOver_34 rfl (lv_at hl 3 rfl) ?_
        refine lv_iload hx hb d_Mo_handOver_35 (lv_at hl 0 rfl) ?_
        refine vp_callSi (W.runV (b := o) (As := [.int (nI c)]) (rest := []) ⟨hx, hb, hml, hown, hts⟩ (c_Mo_isLive l dC dI cI o a (mkV V.mn V.pre V.len V.lev hf V.sta V.en V.tdy V.dys V.pol V.par V.kd V.fi V.se V.th V.ne V.tc V.fo V.fl) (MSok_hol hV hhb) c hc4) (cwV 1 hts (gV kw_790 kw_792 ks_23 kw_6 kw_793) rfl rfl rfl (by decide +kernel) ⟨Nat.le_of_ble_eq_true rfl, Nat.le_of_ble_eq_true rfl⟩) ⟨PcS.blind, va_recv (q0 := 0) hK hP rfl rfl, PcS.use hP hK hN⟩ rfl rfl hl.1 rfl (lv_room (Nat.le_of_ble_eq_true rfl)) d_Mo_handOver_37 ⟨Nat.zero_le _, Nat.zero_le _⟩) (fun r37 hr37 => ?_)
        obtain rfl : r37 = bi (decide (V.sta c ≠ 4)) := hr37
        refine lv_if_eq hx hb d_Mo_handOver_40 rfl (fun h40 => ?_) (fun h40 => ?_)
        · have h40 : V.sta c = 4 := Decidable.not_not.mp (bi_d.mp h40)
          have hE : ¬ upF V r 400 (some i) = some r := by rw [← hup]; simp only [upF]; rw [if_pos (Or.inr h40)]; exact fun q => h31 (Option.some.inj q)
          refine lv_iload hx hb d_Mo_handOver_55 (lv_at hl 0 rfl) ?_
          refine lv_iload_n hx hb d_Mo_handOver_57 rfl (lv_at hl 4 rfl) ?_
          refine lv_icmp_ne hx hb d_Mo_handOver_58 rfl (fun h58 => ?_) (fun h9 => absurd h9 (mt (k_eq (by omega) (by omega)).mp h31))
          refine lv_iinc hx hb d_Mo_handOver_72 hl (k := 1) (v := (nI (i + 1))) rfl (nI_1 i) (by decide) rfl (fun ls hl => ?_)
          replace hl : lv_has ls 6 [(4, .int (nI (i + 1))), (5, .int (nI c)), (3, .int (nI sm)), (0, .ref o), (1, .int (nI r)), (2, .int (nI w))] := hl
          refine lv_goto hx hb d_Mo_handOver_75 rfl ?_
          replace hP : va_P (dC, dI) classes (wMo cI o a (mkV V.mn V.pre V.len V.lev hf V.sta V.en V.tdy V.dys V.pol V.par V.kd V.fi V.se V.th V.ne V.tc V.fo V.fl)) H := hP
          replace hD : va_D A (wMo cI o a (mkV V.mn V.pre V.len V.lev hf V.sta V.en V.tdy V.dys V.pol V.par V.kd V.fi V.se V.th V.ne V.tc V.fo V.fl)) := hD
          refine ih _ _ _ _ _ _ ?_ ?_ ?_ ?_ hP hD hS (lv_sub hl [0, 2, 3, 4, 5] rfl)
          · omega
          · exact (by rw [← hres]; simp only [hoF]; rw [if_neg hE])
          · exact (by omega)
          · exact hhb
        have h40 : ¬ V.sta c = 4 := Decidable.not_not.mp (mt bi_d.mpr h40)
        refine lv_aload_n hx hb d_Mo_handOver_43 rfl (lv_at hl 3 rfl) ?_
        refine va_get (D := (dC, dI)) (ci := 5) (v := .ref (a 3)) (C := R_Mo) (T := F_Mo) (N := 19) hx hb hts u_Mo hown hK hP 0 rfl rfl 4 (by decide) (hts _ kw_718) (fun _ h9 => h9) rfl d_Mo_handOver_44 ?_
        refine lv_iload hx hb d_Mo_handOver_47 (lv_at hl 0 rfl) ?_
        refine x_iald (j := c) (v := (pI (V.par c))) hx hb hK hP 4 0 rfl rfl hc4 (by decide) rfl rfl d_Mo_handOver_49 ?_
        refine lv_istore hx hb d_Mo_handOver_50 hl (by decide) rfl (fun ls hl => ?_)
        replace hl : lv_has ls 6 [(5, .int (pI (V.par c))), (4, .int (nI i)), (3, .int (nI sm)), (0, .ref o), (1, .int (nI r)), (2, .int (nI w))] := hl
        refine lv_goto hx hb d_Mo_handOver_52 rfl ?_
        refine ih2 _ _ ?_ ?_ hl
        · rw [← hup]; simp only [upF]; rw [if_neg (fun q => q.elim h31 h40)]
        · intro c2 q; have h9 := hlt9 c rfl; have := hpp c c2 h9.2.1 h9.2.2 q; exact ⟨by omega, by omega, by omega⟩
set_option maxHeartbeats 4000000 in
set_option maxRecDepth 100000 in
theorem c_Mo_transfer (l : Launch) (dC : Nat → ClassId) (dI : Nat → Nat → Nat) (sz : Nat) (cI : ClassId) (o : Nat) (a : Nat → Nat) (V : MS) (hV : MSok V) (hpp : ∀ c q, c < V.mn 0 → V.par c = some q → q < c) (x w : Nat) (hx0 : x < 4294967296) (hw0 : w < 4294967296) : Met l y_Mo_transfer (.code y_Mo_transfer b_Mo_transfer 3 (some .int) :: wG) ({ frames := 2, cells := 0, slots := 0, locals := 46 }) (PcM (dC, dI) [(cI, .int)] (wMo cI o a V) [.ref o, .int (nI x), .int (nI w)] sz) (QmI (dC, dI) [(cI, .int)] (wMo cI o a V) (wMo cI o a (moTra V x w)) sz (nI (moTraR V x w))) 0 0 (va_A (wMo cI o a V) sz) := by
  refine Met.ofW (cc := b_Mo_transfer) (maxL := 3) (ret := (some .int)) (by decide) rfl ?_
  intro pg eg s mg ag bg meth cg s₁ B hml hv
  obtain ⟨rfl, hsz, hP, hK, hD0, hN⟩ := hv
  have hx := B.exec
  have hb := B.bytes
  have hr := B.returns
  have hlocks := B.notSynchronized
  have hts : ∀ w9 ∈ wG, w9.before ([.ref o, .int (nI x), .int (nI w)] : List Value).toArray s = true := fun w9 h9 => atoms_spec (ws := (.code y_Mo_transfer b_Mo_transfer 3 (some .int) :: wG)) B.pre w9 (List.mem_cons_of_mem _ h9)
  have hown : s.vm.findClass "PrefixRegistryModel" = some mg.cls := findClass_of_methodNamed B.named
  subst hsz
  have hD := hD0.self (sz := s.heap.size)
  unfold QmI
  generalize hAe : va_A (wMo cI o a V) s.heap.size = A at hD ⊢
  have hA : ∀ q : Nat, s.heap.size ≤ q → A q := fun q h => by rw [← hAe]; exact Or.inr h
  have hS : va_S A s.heap s.heap [] := va_S.rf
  have hl := lv_entry ([.ref o, .int (nI x), .int (nI w)]) (n := 3) (Nat.le_of_ble_eq_true rfl)
  rw [lg_entry_eq]
  generalize (lg_sl ([.ref o, .int (nI x), .int (nI w)]) ++ List.replicate (3 - (lg_sl ([.ref o, .int (nI x), .int (nI w)])).length) Slot.unset).toArray = ls at hl ⊢
  replace hl : lv_has ls 3 [(0, .ref o), (1, .int (nI x)), (2, .int (nI w))] := hl
  replace hP : va_P (dC, dI) classes (wMo cI o a V) s.heap := hP
  replace hD : va_D A (wMo cI o a V) := hD
  refine lv_aload_n hx hb d_Mo_transfer_0 rfl (lv_at hl 0 rfl) ?_
  refine lv_aload_n hx hb d_Mo_transfer_1 rfl (lv_at hl 0 rfl) ?_
  refine lv_iconst (v := 0) hx hb d_Mo_transfer_2 (by decide) ?_
  refine lv_iload_n hx hb d_Mo_transfer_3 rfl (lv_at hl 1 rfl) ?_
  refine vp_callSi (W.runV (b := o) (As := [.int 0, .int (nI x)]) (rest := [.ref o]) ⟨hx, hb, hml, hown, hts⟩ (c_Mo_isRecord l dC dI cI o a V hV 0 0 x (by decide) rfl hx0 ) (cwV 2 hts (gV kw_817 kw_819 ks_28 kw_6 kw_820) rfl rfl rfl (by decide +kernel) ⟨Nat.le_of_ble_eq_true rfl, Nat.le_of_ble_eq_true rfl⟩) ⟨PcS.blind, va_recv (q0 := 0) hK hP rfl rfl, PcS.use hP hK hN⟩ rfl rfl hl.1 rfl (lv_room (Nat.le_of_ble_eq_true rfl)) d_Mo_transfer_4 ⟨Nat.zero_le _, Nat.zero_le _⟩) (fun r4 hr4 => ?_)
  obtain rfl : r4 = bi (decide (x < V.mn 0)) := hr4
  refine lv_if_ne hx hb d_Mo_transfer_7 rfl (fun h7 => ?_) (fun h7 => ?_)
  · have h7 := Decidable.not_not.mp (mt bi_d.mpr h7)
    refine lv_iload_n hx hb d_Mo_transfer_14 rfl (lv_at hl 2 rfl) ?_
    refine lv_iconst (v := 0) hx hb d_Mo_transfer_15 (by decide) ?_
    refine lv_sipush (v := 9999) hx hb d_Mo_transfer_16 (by decide) ?_
    refine vp_callSi (W.runS (As := [.int (nI w), .int 0, .int 9999]) (rest := [.ref o]) ⟨hx, hb, hml, hown, hts⟩ (c_Mo_in l dC dI (nI w) 0 9999) (cwS 3 hts (gS kw_784 kw_785 kw_6 kw_786) rfl rfl rfl (by decide +kernel) ⟨Nat.le_of_ble_eq_true rfl, Nat.le_of_ble_eq_true rfl⟩) ⟨PcS.blind, PcS.use hP hK hN⟩ rfl rfl hl.1 rfl (lv_room (Nat.le_of_ble_eq_true rfl)) d_Mo_transfer_19 ⟨Nat.zero_le _, Nat.zero_le _⟩) (fun r19 hr19 => ?_)
    obtain rfl : r19 = bi (decide (0 ≤ nI w ∧ nI w ≤ 9999)) := hr19
    refine lv_if_ne hx hb d_Mo_transfer_22 rfl (fun h22 => ?_) (fun h22 => ?_)
    · have h22 := (in_iff hw0 (h := 9999) (by decide)).mp (Decidable.not_not.mp (mt bi_d.mpr h22))
      refine lv_aload_n hx hb d_Mo_transfer_29 rfl (lv_at hl 0 rfl) ?_
      refine va_get (D := (dC, dI)) (ci := 5) (v := .ref (a 6)) (C := R_Mo) (T := F_Mo) (N := 19) hx hb hts u_Mo hown hK hP 0 rfl rfl 7 (by decide) (hts _ kw_721) (fun _ h9 => h9) rfl d_Mo_transfer_30 ?_
      refine lv_iload_n hx hb d_Mo_transfer_33 rfl (lv_at hl 1 rfl) ?_
      refine x_iald (j := x) (v := (nI (V.sta x))) hx hb hK hP 7 0 rfl rfl (by have := hV.mn 0; omega) (by decide) rfl rfl d_Mo_transfer_34 ?_
      refine lv_iconst (v := 4) hx hb d_Mo_transfer_35 (by decide) ?_
      refine lv_icmp_ne hx hb d_Mo_transfer_36 rfl (fun h36 => ?_) (fun h36 => ?_)
      · have h36 := mt (k_eq (b := 4) (by have := hV.sta x; omega) (by decide)).mpr h36
        refine lv_aload_n hx hb d_Mo_transfer_43 rfl (lv_at hl 0 rfl) ?_
        refine vp_callSi (W.runV (b := o) (As := []) (rest := [.ref o]) ⟨hx, hb, hml, hown, hts⟩ (c_Mo_isFullLog l dC dI cI o a V hV ) (cwV 0 hts (gV kw_797 kw_799 ks_24 kw_6 kw_800) rfl rfl rfl (by decide +kernel) ⟨Nat.le_of_ble_eq_true rfl, Nat.le_of_ble_eq_true rfl⟩) ⟨PcS.blind, va_recv (q0 := 0) hK hP rfl rfl, PcS.use hP hK hN⟩ rfl rfl hl.1 rfl (lv_room (Nat.le_of_ble_eq_true rfl)) d_Mo_transfer_44 ⟨Nat.zero_le _, Nat.zero_le _⟩) (fun r44 hr44 => ?_)
        obtain rfl : r44 = bi (decide (V.ne = 300)) := hr44
        refine lv_if_eq hx hb d_Mo_transfer_47 rfl (fun h47 => ?_) (fun h47 => ?_)
        · have h47 := bi_d.mp h47
          refine lv_iconst (v := 0) hx hb d_Mo_transfer_54 (by decide) ?_
          refine va_put (D := (dC, dI)) (ci := 5) (v := .int 0) (ty := .int) (C := R_Mo) (T := F_Mo) (N := 19) hx hb hts u_Mo t_Mo t_Mo_ok n_Mo hown hK hP hD hS 0 rfl rfl 0 (by decide) (hts _ kw_714) (fun _ h9 => h9) rfl (by decide +kernel) rfl rfl (Nat.le_of_ble_eq_true rfl) d_Mo_transfer_55 (fun H locs hP hD hS => ?_)
          replace hP : va_P (dC, dI) classes [(o, .inr (5, [.int 0, .ref (a 0), .ref (a 1), .ref (a 2), .ref (a 3), .ref (a 4), .ref (a 5), .ref (a 6), .ref (a 7), .ref (a 8), .ref (a 9), .ref (a 10), .int (nI V.ne), .ref (a 11), .ref (a 12), .ref (a 13), .ref (a 14), .long V.fo, .int V.fl])), ((a 0), .inl (cI, 2, .inl (fun z9 => nI (V.mn z9)))), ((a 1), .inl (cI, 400, .inl (fun z9 => nI (V.pre z9)))), ((a 2), .inl (cI, 400, .inl (fun z9 => nI (V.len z9)))), ((a 3), .inl (cI, 400, .inl (fun z9 => pI (V.par z9)))), ((a 4), .inl (cI, 400, .inl (fun z9 => nI (V.lev z9)))), ((a 5), .inl (cI, 400, .inl (fun z9 => nI (V.hol z9)))), ((a 6), .inl (cI, 400, .inl (fun z9 => nI (V.sta z9)))), ((a 7), .inl (cI, 400, .inl (fun z9 => nI (V.en z9)))), ((a 8), .inl (cI, 2, .inl (fun z9 => nI (V.tdy z9)))), ((a 9), .inl (cI, 2, .inl (fun z9 => nI (V.dys z9)))), ((a 10), .inl (cI, 8, .inl (fun z9 => nI (V.pol z9)))), ((a 11), .inl (cI, 300, .inl V.kd)), ((a 12), .inl (cI, 300, .inl V.fi)), ((a 13), .inl (cI, 300, .inl V.se)), ((a 14), .inl (cI, 300, .inl V.th))] H := hP
          replace hD : va_D A [(o, .inr (5, [.int 0, .ref (a 0), .ref (a 1), .ref (a 2), .ref (a 3), .ref (a 4), .ref (a 5), .ref (a 6), .ref (a 7), .ref (a 8), .ref (a 9), .ref (a 10), .int (nI V.ne), .ref (a 11), .ref (a 12), .ref (a 13), .ref (a 14), .long V.fo, .int V.fl])), ((a 0), .inl (cI, 2, .inl (fun z9 => nI (V.mn z9)))), ((a 1), .inl (cI, 400, .inl (fun z9 => nI (V.pre z9)))), ((a 2), .inl (cI, 400, .inl (fun z9 => nI (V.len z9)))), ((a 3), .inl (cI, 400, .inl (fun z9 => pI (V.par z9)))), ((a 4), .inl (cI, 400, .inl (fun z9 => nI (V.lev z9)))), ((a 5), .inl (cI, 400, .inl (fun z9 => nI (V.hol z9)))), ((a 6), .inl (cI, 400, .inl (fun z9 => nI (V.sta z9)))), ((a 7), .inl (cI, 400, .inl (fun z9 => nI (V.en z9)))), ((a 8), .inl (cI, 2, .inl (fun z9 => nI (V.tdy z9)))), ((a 9), .inl (cI, 2, .inl (fun z9 => nI (V.dys z9)))), ((a 10), .inl (cI, 8, .inl (fun z9 => nI (V.pol z9)))), ((a 11), .inl (cI, 300, .inl V.kd)), ((a 12), .inl (cI, 300, .inl V.fi)), ((a 13), .inl (cI, 300, .inl V.se)), ((a 14), .inl (cI, 300, .inl V.th))] := hD
          refine lv_aload_n hx hb d_Mo_transfer_58 rfl (lv_at hl 0 rfl) ?_
          refine va_get (D := (dC, dI)) (ci := 5) (v := .int 0) (C := R_Mo) (T := F_Mo) (N := 19) hx hb hts u_Mo hown hK hP 0 rfl rfl 0 (by decide) (hts _ kw_714) (fun _ h9 => h9) rfl d_Mo_transfer_59 ?_
          refine lv_if_le hx hb d_Mo_transfer_62 rfl (fun _ => ?_) (fun h9 => absurd (by decide) h9)
          refine lv_aload_n hx hb d_Mo_transfer_67 rfl (lv_at hl 0 rfl) ?_
          refine lv_bipush (v := 8) hx hb d_Mo_transfer_68 (by decide) ?_
          refine lv_iload_n hx hb d_Mo_transfer_70 rfl (lv_at hl 1 rfl) ?_
          refine lv_iload_n hx hb d_Mo_transfer_71 rfl (lv_at hl 2 rfl) ?_
          refine lv_iconst (v := 0) hx hb d_Mo_transfer_72 (by decide) ?_
          have hPc := hP.sub (ws' := (wMo cI o a (mkV V.mn V.pre V.len V.lev V.hol V.sta V.en V.tdy V.dys V.pol V.par V.kd V.fi V.se V.th V.ne 0 V.fo V.fl))) [0, 1, 2, 3, 4, 5, 6, 7, 8, 9, 10, 11, 12, 13, 14, 15] rfl
          have hDc := hD.sub (ws' := (wMo cI o a (mkV V.mn V.pre V.len V.lev V.hol V.sta V.en V.tdy V.dys V.pol V.par V.kd V.fi V.se V.th V.ne 0 V.fo V.fl))) [0, 1, 2, 3, 4, 5, 6, 7, 8, 9, 10, 11, 12, 13, 14, 15] (by decide) rfl
          have hFc := va_free (wc := (wMo cI o a (mkV V.mn V.pre V.len V.lev V.hol V.sta V.en V.tdy V.dys V.pol V.par V.kd V.fi V.se V.th V.ne 0 V.fo V.fl))) hD hS hA [0, 1, 2, 3, 4, 5, 6, 7, 8, 9, 10, 11, 12, 13, 14, 15] rfl
          refine va_callv (va_runV (b := o) (As := [.int 8, .int (nI x), .int (nI w), .int 0]) (rest := []) ⟨hx, hb, hml, hown, hts⟩ (c_Mo_note l dC dI H.size cI o a (mkV V.mn V.pre V.len V.lev V.hol V.sta V.en V.tdy V.dys V.pol V.par V.kd V.fi V.se V.th V.ne 0 V.fo V.fl) (show V.ne < 300 by have := hV.ne; omega) 8 (nI x) (nI w) 0) (cwV 4 hts (gV kw_801 kw_803 ks_25 kw_6 kw_804) rfl rfl rfl (by decide +kernel) ⟨Nat.le_of_ble_eq_true rfl, Nat.le_of_ble_eq_true rfl⟩) ⟨PcM.blind, va_recv (q0 := 0) hK hPc rfl rfl, PcM.use hPc hK hN hDc⟩ rfl rfl hl.1 rfl (lv_room (Nat.le_of_ble_eq_true rfl)) d_Mo_transfer_73 ⟨Nat.le_of_ble_eq_true rfl, Nat.le_of_ble_eq_true rfl⟩) hS (fun q _ h => hFc q h) hFc (fun u9 H9 H1 locs hH9 hv9 hp9 hB hz1 hk1 hS => ?_)
          obtain ⟨hP1, hK1, hD1⟩ := hB
          rw [hH9] at hP1
          obtain ⟨hP, hD⟩ := va_join (wr := []) (w1 := (wMo cI o a (vNote (mkV V.mn V.pre V.len V.lev V.hol V.sta V.en V.tdy V.dys V.pol V.par V.kd V.fi V.se V.th V.ne 0 V.fo V.fl) 8 (nI x) (nI w) 0))) hP hD [0, 1, 2, 3, 4, 5, 6, 7, 8, 9, 10, 11, 12, 13, 14, 15] [] rfl rfl (by decide) (by decide) hk1 hFc hP1 hD1
          clear hPc hDc hFc hP1 hD1 hK1 hk1 hz1 hv9 hH9
          generalize H1 = H at hP hS ⊢
          replace hP : va_P (dC, dI) classes [(o, .inr (5, [.int (nI (vNote (mkV V.mn V.pre V.len V.lev V.hol V.sta V.en V.tdy V.dys V.pol V.par V.kd V.fi V.se V.th V.ne 0 V.fo V.fl) 8 (nI x) (nI w) 0).tc), .ref (a 0), .ref (a 1), .ref (a 2), .ref (a 3), .ref (a 4), .ref (a 5), .ref (a 6), .ref (a 7), .ref (a 8), .ref (a 9), .ref (a 10), .int (nI (vNote (mkV V.mn V.pre V.len V.lev V.hol V.sta V.en V.tdy V.dys V.pol V.par V.kd V.fi V.se V.th V.ne 0 V.fo V.fl) 8 (nI x) (nI w) 0).ne), .ref (a 11), .ref (a 12), .ref (a 13), .ref (a 14), .long ((vNote (mkV V.mn V.pre V.len V.lev V.hol V.sta V.en V.tdy V.dys V.pol V.par V.kd V.fi V.se V.th V.ne 0 V.fo V.fl) 8 (nI x) (nI w) 0).fo), .int ((vNote (mkV V.mn V.pre V.len V.lev V.hol V.sta V.en V.tdy V.dys V.pol V.par V.kd V.fi V.se V.th V.ne 0 V.fo V.fl) 8 (nI x) (nI w) 0).fl)])), ((a 0), .inl (cI, 2, .inl (fun z9 => nI ((vNote (mkV V.mn V.pre V.len V.lev V.hol V.sta V.en V.tdy V.dys V.pol V.par V.kd V.fi V.se V.th V.ne 0 V.fo V.fl) 8 (nI x) (nI w) 0).mn z9)))), ((a 1), .inl (cI, 400, .inl (fun z9 => nI ((vNote (mkV V.mn V.pre V.len V.lev V.hol V.sta V.en V.tdy V.dys V.pol V.par V.kd V.fi V.se V.th V.ne 0 V.fo V.fl) 8 (nI x) (nI w) 0).pre z9)))), ((a 2), .inl (cI, 400, .inl (fun z9 => nI ((vNote (mkV V.mn V.pre V.len V.lev V.hol V.sta V.en V.tdy V.dys V.pol V.par V.kd V.fi V.se V.th V.ne 0 V.fo V.fl) 8 (nI x) (nI w) 0).len z9)))), ((a 3), .inl (cI, 400, .inl (fun z9 => pI ((vNote (mkV V.mn V.pre V.len V.lev V.hol V.sta V.en V.tdy V.dys V.pol V.par V.kd V.fi V.se V.th V.ne 0 V.fo V.fl) 8 (nI x) (nI w) 0).par z9)))), ((a 4), .inl (cI, 400, .inl (fun z9 => nI ((vNote (mkV V.mn V.pre V.len V.lev V.hol V.sta V.en V.tdy V.dys V.pol V.par V.kd V.fi V.se V.th V.ne 0 V.fo V.fl) 8 (nI x) (nI w) 0).lev z9)))), ((a 5), .inl (cI, 400, .inl (fun z9 => nI ((vNote (mkV V.mn V.pre V.len V.lev V.hol V.sta V.en V.tdy V.dys V.pol V.par V.kd V.fi V.se V.th V.ne 0 V.fo V.fl) 8 (nI x) (nI w) 0).hol z9)))), ((a 6), .inl (cI, 400, .inl (fun z9 => nI ((vNote (mkV V.mn V.pre V.len V.lev V.hol V.sta V.en V.tdy V.dys V.pol V.par V.kd V.fi V.se V.th V.ne 0 V.fo V.fl) 8 (nI x) (nI w) 0).sta z9)))), ((a 7), .inl (cI, 400, .inl (fun z9 => nI ((vNote (mkV V.mn V.pre V.len V.lev V.hol V.sta V.en V.tdy V.dys V.pol V.par V.kd V.fi V.se V.th V.ne 0 V.fo V.fl) 8 (nI x) (nI w) 0).en z9)))), ((a 8), .inl (cI, 2, .inl (fun z9 => nI ((vNote (mkV V.mn V.pre V.len V.lev V.hol V.sta V.en V.tdy V.dys V.pol V.par V.kd V.fi V.se V.th V.ne 0 V.fo V.fl) 8 (nI x) (nI w) 0).tdy z9)))), ((a 9), .inl (cI, 2, .inl (fun z9 => nI ((vNote (mkV V.mn V.pre V.len V.lev V.hol V.sta V.en V.tdy V.dys V.pol V.par V.kd V.fi V.se V.th V.ne 0 V.fo V.fl) 8 (nI x) (nI w) 0).dys z9)))), ((a 10), .inl (cI, 8, .inl (fun z9 => nI ((vNote (mkV V.mn V.pre V.len V.lev V.hol V.sta V.en V.tdy V.dys V.pol V.par V.kd V.fi V.se V.th V.ne 0 V.fo V.fl) 8 (nI x) (nI w) 0).pol z9)))), ((a 11), .inl (cI, 300, .inl ((vNote (mkV V.mn V.pre V.len V.lev V.hol V.sta V.en V.tdy V.dys V.pol V.par V.kd V.fi V.se V.th V.ne 0 V.fo V.fl) 8 (nI x) (nI w) 0).kd))), ((a 12), .inl (cI, 300, .inl ((vNote (mkV V.mn V.pre V.len V.lev V.hol V.sta V.en V.tdy V.dys V.pol V.par V.kd V.fi V.se V.th V.ne 0 V.fo V.fl) 8 (nI x) (nI w) 0).fi))), ((a 13), .inl (cI, 300, .inl ((vNote (mkV V.mn V.pre V.len V.lev V.hol V.sta V.en V.tdy V.dys V.pol V.par V.kd V.fi V.se V.th V.ne 0 V.fo V.fl) 8 (nI x) (nI w) 0).se))), ((a 14), .inl (cI, 300, .inl ((vNote (mkV V.mn V.pre V.len V.lev V.hol V.sta V.en V.tdy V.dys V.pol V.par V.kd V.fi V.se V.th V.ne 0 V.fo V.fl) 8 (nI x) (nI w) 0).th)))] H := hP.sub (ws' := [(o, .inr (5, [.int (nI (vNote (mkV V.mn V.pre V.len V.lev V.hol V.sta V.en V.tdy V.dys V.pol V.par V.kd V.fi V.se V.th V.ne 0 V.fo V.fl) 8 (nI x) (nI w) 0).tc), .ref (a 0), .ref (a 1), .ref (a 2), .ref (a 3), .ref (a 4), .ref (a 5), .ref (a 6), .ref (a 7), .ref (a 8), .ref (a 9), .ref (a 10), .int (nI (vNote (mkV V.mn V.pre V.len V.lev V.hol V.sta V.en V.tdy V.dys V.pol V.par V.kd V.fi V.se V.th V.ne 0 V.fo V.fl) 8 (nI x) (nI w) 0).ne), .ref (a 11), .ref (a 12), .ref (a 13), .ref (a 14), .long ((vNote (mkV V.mn V.pre V.len V.lev V.hol V.sta V.en V.tdy V.dys V.pol V.par V.kd V.fi V.se V.th V.ne 0 V.fo V.fl) 8 (nI x) (nI w) 0).fo), .int ((vNote (mkV V.mn V.pre V.len V.lev V.hol V.sta V.en V.tdy V.dys V.pol V.par V.kd V.fi V.se V.th V.ne 0 V.fo V.fl) 8 (nI x) (nI w) 0).fl)])), ((a 0), .inl (cI, 2, .inl (fun z9 => nI ((vNote (mkV V.mn V.pre V.len V.lev V.hol V.sta V.en V.tdy V.dys V.pol V.par V.kd V.fi V.se V.th V.ne 0 V.fo V.fl) 8 (nI x) (nI w) 0).mn z9)))), ((a 1), .inl (cI, 400, .inl (fun z9 => nI ((vNote (mkV V.mn V.pre V.len V.lev V.hol V.sta V.en V.tdy V.dys V.pol V.par V.kd V.fi V.se V.th V.ne 0 V.fo V.fl) 8 (nI x) (nI w) 0).pre z9)))), ((a 2), .inl (cI, 400, .inl (fun z9 => nI ((vNote (mkV V.mn V.pre V.len V.lev V.hol V.sta V.en V.tdy V.dys V.pol V.par V.kd V.fi V.se V.th V.ne 0 V.fo V.fl) 8 (nI x) (nI w) 0).len z9)))), ((a 3), .inl (cI, 400, .inl (fun z9 => pI ((vNote (mkV V.mn V.pre V.len V.lev V.hol V.sta V.en V.tdy V.dys V.pol V.par V.kd V.fi V.se V.th V.ne 0 V.fo V.fl) 8 (nI x) (nI w) 0).par z9)))), ((a 4), .inl (cI, 400, .inl (fun z9 => nI ((vNote (mkV V.mn V.pre V.len V.lev V.hol V.sta V.en V.tdy V.dys V.pol V.par V.kd V.fi V.se V.th V.ne 0 V.fo V.fl) 8 (nI x) (nI w) 0).lev z9)))), ((a 5), .inl (cI, 400, .inl (fun z9 => nI ((vNote (mkV V.mn V.pre V.len V.lev V.hol V.sta V.en V.tdy V.dys V.pol V.par V.kd V.fi V.se V.th V.ne 0 V.fo V.fl) 8 (nI x) (nI w) 0).hol z9)))), ((a 6), .inl (cI, 400, .inl (fun z9 => nI ((vNote (mkV V.mn V.pre V.len V.lev V.hol V.sta V.en V.tdy V.dys V.pol V.par V.kd V.fi V.se V.th V.ne 0 V.fo V.fl) 8 (nI x) (nI w) 0).sta z9)))), ((a 7), .inl (cI, 400, .inl (fun z9 => nI ((vNote (mkV V.mn V.pre V.len V.lev V.hol V.sta V.en V.tdy V.dys V.pol V.par V.kd V.fi V.se V.th V.ne 0 V.fo V.fl) 8 (nI x) (nI w) 0).en z9)))), ((a 8), .inl (cI, 2, .inl (fun z9 => nI ((vNote (mkV V.mn V.pre V.len V.lev V.hol V.sta V.en V.tdy V.dys V.pol V.par V.kd V.fi V.se V.th V.ne 0 V.fo V.fl) 8 (nI x) (nI w) 0).tdy z9)))), ((a 9), .inl (cI, 2, .inl (fun z9 => nI ((vNote (mkV V.mn V.pre V.len V.lev V.hol V.sta V.en V.tdy V.dys V.pol V.par V.kd V.fi V.se V.th V.ne 0 V.fo V.fl) 8 (nI x) (nI w) 0).dys z9)))), ((a 10), .inl (cI, 8, .inl (fun z9 => nI ((vNote (mkV V.mn V.pre V.len V.lev V.hol V.sta V.en V.tdy V.dys V.pol V.par V.kd V.fi V.se V.th V.ne 0 V.fo V.fl) 8 (nI x) (nI w) 0).pol z9)))), ((a 11), .inl (cI, 300, .inl ((vNote (mkV V.mn V.pre V.len V.lev V.hol V.sta V.en V.tdy V.dys V.pol V.par V.kd V.fi V.se V.th V.ne 0 V.fo V.fl) 8 (nI x) (nI w) 0).kd))), ((a 12), .inl (cI, 300, .inl ((vNote (mkV V.mn V.pre V.len V.lev V.hol V.sta V.en V.tdy V.dys V.pol V.par V.kd V.fi V.se V.th V.ne 0 V.fo V.fl) 8 (nI x) (nI w) 0).fi))), ((a 13), .inl (cI, 300, .inl ((vNote (mkV V.mn V.pre V.len V.lev V.hol V.sta V.en V.tdy V.dys V.pol V.par V.kd V.fi V.se V.th V.ne 0 V.fo V.fl) 8 (nI x) (nI w) 0).se))), ((a 14), .inl (cI, 300, .inl ((vNote (mkV V.mn V.pre V.len V.lev V.hol V.sta V.en V.tdy V.dys V.pol V.par V.kd V.fi V.se V.th V.ne 0 V.fo V.fl) 8 (nI x) (nI w) 0).th)))]) [0, 1, 2, 3, 4, 5, 6, 7, 8, 9, 10, 11, 12, 13, 14, 15] rfl
          replace hD : va_D A [(o, .inr (5, [.int (nI (vNote (mkV V.mn V.pre V.len V.lev V.hol V.sta V.en V.tdy V.dys V.pol V.par V.kd V.fi V.se V.th V.ne 0 V.fo V.fl) 8 (nI x) (nI w) 0).tc), .ref (a 0), .ref (a 1), .ref (a 2), .ref (a 3), .ref (a 4), .ref (a 5), .ref (a 6), .ref (a 7), .ref (a 8), .ref (a 9), .ref (a 10), .int (nI (vNote (mkV V.mn V.pre V.len V.lev V.hol V.sta V.en V.tdy V.dys V.pol V.par V.kd V.fi V.se V.th V.ne 0 V.fo V.fl) 8 (nI x) (nI w) 0).ne), .ref (a 11), .ref (a 12), .ref (a 13), .ref (a 14), .long ((vNote (mkV V.mn V.pre V.len V.lev V.hol V.sta V.en V.tdy V.dys V.pol V.par V.kd V.fi V.se V.th V.ne 0 V.fo V.fl) 8 (nI x) (nI w) 0).fo), .int ((vNote (mkV V.mn V.pre V.len V.lev V.hol V.sta V.en V.tdy V.dys V.pol V.par V.kd V.fi V.se V.th V.ne 0 V.fo V.fl) 8 (nI x) (nI w) 0).fl)])), ((a 0), .inl (cI, 2, .inl (fun z9 => nI ((vNote (mkV V.mn V.pre V.len V.lev V.hol V.sta V.en V.tdy V.dys V.pol V.par V.kd V.fi V.se V.th V.ne 0 V.fo V.fl) 8 (nI x) (nI w) 0).mn z9)))), ((a 1), .inl (cI, 400, .inl (fun z9 => nI ((vNote (mkV V.mn V.pre V.len V.lev V.hol V.sta V.en V.tdy V.dys V.pol V.par V.kd V.fi V.se V.th V.ne 0 V.fo V.fl) 8 (nI x) (nI w) 0).pre z9)))), ((a 2), .inl (cI, 400, .inl (fun z9 => nI ((vNote (mkV V.mn V.pre V.len V.lev V.hol V.sta V.en V.tdy V.dys V.pol V.par V.kd V.fi V.se V.th V.ne 0 V.fo V.fl) 8 (nI x) (nI w) 0).len z9)))), ((a 3), .inl (cI, 400, .inl (fun z9 => pI ((vNote (mkV V.mn V.pre V.len V.lev V.hol V.sta V.en V.tdy V.dys V.pol V.par V.kd V.fi V.se V.th V.ne 0 V.fo V.fl) 8 (nI x) (nI w) 0).par z9)))), ((a 4), .inl (cI, 400, .inl (fun z9 => nI ((vNote (mkV V.mn V.pre V.len V.lev V.hol V.sta V.en V.tdy V.dys V.pol V.par V.kd V.fi V.se V.th V.ne 0 V.fo V.fl) 8 (nI x) (nI w) 0).lev z9)))), ((a 5), .inl (cI, 400, .inl (fun z9 => nI ((vNote (mkV V.mn V.pre V.len V.lev V.hol V.sta V.en V.tdy V.dys V.pol V.par V.kd V.fi V.se V.th V.ne 0 V.fo V.fl) 8 (nI x) (nI w) 0).hol z9)))), ((a 6), .inl (cI, 400, .inl (fun z9 => nI ((vNote (mkV V.mn V.pre V.len V.lev V.hol V.sta V.en V.tdy V.dys V.pol V.par V.kd V.fi V.se V.th V.ne 0 V.fo V.fl) 8 (nI x) (nI w) 0).sta z9)))), ((a 7), .inl (cI, 400, .inl (fun z9 => nI ((vNote (mkV V.mn V.pre V.len V.lev V.hol V.sta V.en V.tdy V.dys V.pol V.par V.kd V.fi V.se V.th V.ne 0 V.fo V.fl) 8 (nI x) (nI w) 0).en z9)))), ((a 8), .inl (cI, 2, .inl (fun z9 => nI ((vNote (mkV V.mn V.pre V.len V.lev V.hol V.sta V.en V.tdy V.dys V.pol V.par V.kd V.fi V.se V.th V.ne 0 V.fo V.fl) 8 (nI x) (nI w) 0).tdy z9)))), ((a 9), .inl (cI, 2, .inl (fun z9 => nI ((vNote (mkV V.mn V.pre V.len V.lev V.hol V.sta V.en V.tdy V.dys V.pol V.par V.kd V.fi V.se V.th V.ne 0 V.fo V.fl) 8 (nI x) (nI w) 0).dys z9)))), ((a 10), .inl (cI, 8, .inl (fun z9 => nI ((vNote (mkV V.mn V.pre V.len V.lev V.hol V.sta V.en V.tdy V.dys V.pol V.par V.kd V.fi V.se V.th V.ne 0 V.fo V.fl) 8 (nI x) (nI w) 0).pol z9)))), ((a 11), .inl (cI, 300, .inl ((vNote (mkV V.mn V.pre V.len V.lev V.hol V.sta V.en V.tdy V.dys V.pol V.par V.kd V.fi V.se V.th V.ne 0 V.fo V.fl) 8 (nI x) (nI w) 0).kd))), ((a 12), .inl (cI, 300, .inl ((vNote (mkV V.mn V.pre V.len V.lev V.hol V.sta V.en V.tdy V.dys V.pol V.par V.kd V.fi V.se V.th V.ne 0 V.fo V.fl) 8 (nI x) (nI w) 0).fi))), ((a 13), .inl (cI, 300, .inl ((vNote (mkV V.mn V.pre V.len V.lev V.hol V.sta V.en V.tdy V.dys V.pol V.par V.kd V.fi V.se V.th V.ne 0 V.fo V.fl) 8 (nI x) (nI w) 0).se))), ((a 14), .inl (cI, 300, .inl ((vNote (mkV V.mn V.pre V.len V.lev V.hol V.sta V.en V.tdy V.dys V.pol V.par V.kd V.fi V.se V.th V.ne 0 V.fo V.fl) 8 (nI x) (nI w) 0).th)))] := hD.sub (ws' := [(o, .inr (5, [.int (nI (vNote (mkV V.mn V.pre V.len V.lev V.hol V.sta V.en V.tdy V.dys V.pol V.par V.kd V.fi V.se V.th V.ne 0 V.fo V.fl) 8 (nI x) (nI w) 0).tc), .ref (a 0), .ref (a 1), .ref (a 2), .ref (a 3), .ref (a 4), .ref (a 5), .ref (a 6), .ref (a 7), .ref (a 8), .ref (a 9), .ref (a 10), .int (nI (vNote (mkV V.mn V.pre V.len V.lev V.hol V.sta V.en V.tdy V.dys V.pol V.par V.kd V.fi V.se V.th V.ne 0 V.fo V.fl) 8 (nI x) (nI w) 0).ne), .ref (a 11), .ref (a 12), .ref (a 13), .ref (a 14), .long ((vNote (mkV V.mn V.pre V.len V.lev V.hol V.sta V.en V.tdy V.dys V.pol V.par V.kd V.fi V.se V.th V.ne 0 V.fo V.fl) 8 (nI x) (nI w) 0).fo), .int ((vNote (mkV V.mn V.pre V.len V.lev V.hol V.sta V.en V.tdy V.dys V.pol V.par V.kd V.fi V.se V.th V.ne 0 V.fo V.fl) 8 (nI x) (nI w) 0).fl)])), ((a 0), .inl (cI, 2, .inl (fun z9 => nI ((vNote (mkV V.mn V.pre V.len V.lev V.hol V.sta V.en V.tdy V.dys V.pol V.par V.kd V.fi V.se V.th V.ne 0 V.fo V.fl) 8 (nI x) (nI w) 0).mn z9)))), ((a 1), .inl (cI, 400, .inl (fun z9 => nI ((vNote (mkV V.mn V.pre V.len V.lev V.hol V.sta V.en V.tdy V.dys V.pol V.par V.kd V.fi V.se V.th V.ne 0 V.fo V.fl) 8 (nI x) (nI w) 0).pre z9)))), ((a 2), .inl (cI, 400, .inl (fun z9 => nI ((vNote (mkV V.mn V.pre V.len V.lev V.hol V.sta V.en V.tdy V.dys V.pol V.par V.kd V.fi V.se V.th V.ne 0 V.fo V.fl) 8 (nI x) (nI w) 0).len z9)))), ((a 3), .inl (cI, 400, .inl (fun z9 => pI ((vNote (mkV V.mn V.pre V.len V.lev V.hol V.sta V.en V.tdy V.dys V.pol V.par V.kd V.fi V.se V.th V.ne 0 V.fo V.fl) 8 (nI x) (nI w) 0).par z9)))), ((a 4), .inl (cI, 400, .inl (fun z9 => nI ((vNote (mkV V.mn V.pre V.len V.lev V.hol V.sta V.en V.tdy V.dys V.pol V.par V.kd V.fi V.se V.th V.ne 0 V.fo V.fl) 8 (nI x) (nI w) 0).lev z9)))), ((a 5), .inl (cI, 400, .inl (fun z9 => nI ((vNote (mkV V.mn V.pre V.len V.lev V.hol V.sta V.en V.tdy V.dys V.pol V.par V.kd V.fi V.se V.th V.ne 0 V.fo V.fl) 8 (nI x) (nI w) 0).hol z9)))), ((a 6), .inl (cI, 400, .inl (fun z9 => nI ((vNote (mkV V.mn V.pre V.len V.lev V.hol V.sta V.en V.tdy V.dys V.pol V.par V.kd V.fi V.se V.th V.ne 0 V.fo V.fl) 8 (nI x) (nI w) 0).sta z9)))), ((a 7), .inl (cI, 400, .inl (fun z9 => nI ((vNote (mkV V.mn V.pre V.len V.lev V.hol V.sta V.en V.tdy V.dys V.pol V.par V.kd V.fi V.se V.th V.ne 0 V.fo V.fl) 8 (nI x) (nI w) 0).en z9)))), ((a 8), .inl (cI, 2, .inl (fun z9 => nI ((vNote (mkV V.mn V.pre V.len V.lev V.hol V.sta V.en V.tdy V.dys V.pol V.par V.kd V.fi V.se V.th V.ne 0 V.fo V.fl) 8 (nI x) (nI w) 0).tdy z9)))), ((a 9), .inl (cI, 2, .inl (fun z9 => nI ((vNote (mkV V.mn V.pre V.len V.lev V.hol V.sta V.en V.tdy V.dys V.pol V.par V.kd V.fi V.se V.th V.ne 0 V.fo V.fl) 8 (nI x) (nI w) 0).dys z9)))), ((a 10), .inl (cI, 8, .inl (fun z9 => nI ((vNote (mkV V.mn V.pre V.len V.lev V.hol V.sta V.en V.tdy V.dys V.pol V.par V.kd V.fi V.se V.th V.ne 0 V.fo V.fl) 8 (nI x) (nI w) 0).pol z9)))), ((a 11), .inl (cI, 300, .inl ((vNote (mkV V.mn V.pre V.len V.lev V.hol V.sta V.en V.tdy V.dys V.pol V.par V.kd V.fi V.se V.th V.ne 0 V.fo V.fl) 8 (nI x) (nI w) 0).kd))), ((a 12), .inl (cI, 300, .inl ((vNote (mkV V.mn V.pre V.len V.lev V.hol V.sta V.en V.tdy V.dys V.pol V.par V.kd V.fi V.se V.th V.ne 0 V.fo V.fl) 8 (nI x) (nI w) 0).fi))), ((a 13), .inl (cI, 300, .inl ((vNote (mkV V.mn V.pre V.len V.lev V.hol V.sta V.en V.tdy V.dys V.pol V.par V.kd V.fi V.se V.th V.ne 0 V.fo V.fl) 8 (nI x) (nI w) 0).se))), ((a 14), .inl (cI, 300, .inl ((vNote (mkV V.mn V.pre V.len V.lev V.hol V.sta V.en V.tdy V.dys V.pol V.par V.kd V.fi V.se V.th V.ne 0 V.fo V.fl) 8 (nI x) (nI w) 0).th)))]) [0, 1, 2, 3, 4, 5, 6, 7, 8, 9, 10, 11, 12, 13, 14, 15] (by decide) rfl
          refine lv_aload_n hx hb d_Mo_transfer_76 rfl (lv_at hl 0 rfl) ?_
          refine lv_iload_n hx hb d_Mo_transfer_77 rfl (lv_at hl 1 rfl) ?_
          refine lv_iload_n hx hb d_Mo_transfer_78 rfl (lv_at hl 2 rfl) ?_
          have hPc := hP.sub (ws' := (wMo cI o a (vNote (mkV V.mn V.pre V.len V.lev V.hol V.sta V.en V.tdy V.dys V.pol V.par V.kd V.fi V.se V.th V.ne 0 V.fo V.fl) 8 (nI x) (nI w) 0))) [0, 1, 2, 3, 4, 5, 6, 7, 8, 9, 10, 11, 12, 13, 14, 15] rfl
          have hDc := hD.sub (ws' := (wMo cI o a (vNote (mkV V.mn V.pre V.len V.lev V.hol V.sta V.en V.tdy V.dys V.pol V.par V.kd V.fi V.se V.th V.ne 0 V.fo V.fl) 8 (nI x) (nI w) 0))) [0, 1, 2, 3, 4, 5, 6, 7, 8, 9, 10, 11, 12, 13, 14, 15] (by decide) rfl
          have hFc := va_free (wc := (wMo cI o a (vNote (mkV V.mn V.pre V.len V.lev V.hol V.sta V.en V.tdy V.dys V.pol V.par V.kd V.fi V.se V.th V.ne 0 V.fo V.fl) 8 (nI x) (nI w) 0))) hD hS hA [0, 1, 2, 3, 4, 5, 6, 7, 8, 9, 10, 11, 12, 13, 14, 15] rfl
          refine va_calli (va_runV (b := o) (As := [.int (nI x), .int (nI w)]) (rest := []) ⟨hx, hb, hml, hown, hts⟩ (c_Mo_handOver l dC dI H.size cI o a (vNote (mkV V.mn V.pre V.len V.lev V.hol V.sta V.en V.tdy V.dys V.pol V.par V.kd V.fi V.se V.th V.ne 0 V.fo V.fl) 8 (nI x) (nI w) 0) (by have h1 := hV.ne; exact ⟨by show V.ne + 1 ≤ 300; omega, hV.2⟩) x (by have := hV.mn 0; omega) (hpp0 (V := V) (by have := hV.mn 0; omega) hpp) w (show w < 10000 by omega)) (cwV 2 hts (gV kw_934 kw_936 ks_49 kw_6 kw_937) rfl rfl rfl (by decide +kernel) ⟨Nat.le_of_ble_eq_true rfl, Nat.le_of_ble_eq_true rfl⟩) ⟨PcM.blind, va_recv (q0 := 0) hK hPc rfl rfl, PcM.use hPc hK hN hDc⟩ rfl rfl hl.1 rfl (lv_room (Nat.le_of_ble_eq_true rfl)) d_Mo_transfer_79 ⟨Nat.le_of_ble_eq_true rfl, Nat.le_of_ble_eq_true rfl⟩) hS (fun q _ h => hFc q h) hFc (fun r79 u9 H9 H1 locs hH9 hv9 hp9 hB hz1 hk1 hS => ?_)
          obtain rfl : r79 = (nI (hoF (vNote (mkV V.mn V.pre V.len V.lev V.hol V.sta V.en V.tdy V.dys V.pol V.par V.kd V.fi V.se V.th V.ne 0 V.fo V.fl) 8 (nI x) (nI w) 0) x w (sbN x) (ebN (vNote (mkV V.mn V.pre V.len V.lev V.hol V.sta V.en V.tdy V.dys V.pol V.par V.kd V.fi V.se V.th V.ne 0 V.fo V.fl) 8 (nI x) (nI w) 0) x - sbN x) (vNote (mkV V.mn V.pre V.len V.lev V.hol V.sta V.en V.tdy V.dys V.pol V.par V.kd V.fi V.se V.th V.ne 0 V.fo V.fl) 8 (nI x) (nI w) 0).hol 0).2) := hp9
          obtain ⟨hP1, hK1, hD1⟩ := hB
          rw [hH9] at hP1
          obtain ⟨hP, hD⟩ := va_join (wr := []) (w1 := (wMo cI o a (vHov (vNote (mkV V.mn V.pre V.len V.lev V.hol V.sta V.en V.tdy V.dys V.pol V.par V.kd V.fi V.se V.th V.ne 0 V.fo V.fl) 8 (nI x) (nI w) 0) x w))) hP hD [0, 1, 2, 3, 4, 5, 6, 7, 8, 9, 10, 11, 12, 13, 14, 15] [] rfl rfl (by decide) (by decide) hk1 hFc hP1 hD1
          clear hPc hDc hFc hP1 hD1 hK1 hk1 hz1 hv9 hH9
          generalize H1 = H at hP hS ⊢
          replace hP : va_P (dC, dI) classes [(o, .inr (5, [.int (nI (vHov (vNote (mkV V.mn V.pre V.len V.lev V.hol V.sta V.en V.tdy V.dys V.pol V.par V.kd V.fi V.se V.th V.ne 0 V.fo V.fl) 8 (nI x) (nI w) 0) x w).tc), .ref (a 0), .ref (a 1), .ref (a 2), .ref (a 3), .ref (a 4), .ref (a 5), .ref (a 6), .ref (a 7), .ref (a 8), .ref (a 9), .ref (a 10), .int (nI (vHov (vNote (mkV V.mn V.pre V.len V.lev V.hol V.sta V.en V.tdy V.dys V.pol V.par V.kd V.fi V.se V.th V.ne 0 V.fo V.fl) 8 (nI x) (nI w) 0) x w).ne), .ref (a 11), .ref (a 12), .ref (a 13), .ref (a 14), .long ((vHov (vNote (mkV V.mn V.pre V.len V.lev V.hol V.sta V.en V.tdy V.dys V.pol V.par V.kd V.fi V.se V.th V.ne 0 V.fo V.fl) 8 (nI x) (nI w) 0) x w).fo), .int ((vHov (vNote (mkV V.mn V.pre V.len V.lev V.hol V.sta V.en V.tdy V.dys V.pol V.par V.kd V.fi V.se V.th V.ne 0 V.fo V.fl) 8 (nI x) (nI w) 0) x w).fl)])), ((a 0), .inl (cI, 2, .inl (fun z9 => nI ((vHov (vNote (mkV V.mn V.pre V.len V.lev V.hol V.sta V.en V.tdy V.dys V.pol V.par V.kd V.fi V.se V.th V.ne 0 V.fo V.fl) 8 (nI x) (nI w) 0) x w).mn z9)))), ((a 1), .inl (cI, 400, .inl (fun z9 => nI ((vHov (vNote (mkV V.mn V.pre V.len V.lev V.hol V.sta V.en V.tdy V.dys V.pol V.par V.kd V.fi V.se V.th V.ne 0 V.fo V.fl) 8 (nI x) (nI w) 0) x w).pre z9)))), ((a 2), .inl (cI, 400, .inl (fun z9 => nI ((vHov (vNote (mkV V.mn V.pre V.len V.lev V.hol V.sta V.en V.tdy V.dys V.pol V.par V.kd V.fi V.se V.th V.ne 0 V.fo V.fl) 8 (nI x) (nI w) 0) x w).len z9)))), ((a 3), .inl (cI, 400, .inl (fun z9 => pI ((vHov (vNote (mkV V.mn V.pre V.len V.lev V.hol V.sta V.en V.tdy V.dys V.pol V.par V.kd V.fi V.se V.th V.ne 0 V.fo V.fl) 8 (nI x) (nI w) 0) x w).par z9)))), ((a 4), .inl (cI, 400, .inl (fun z9 => nI ((vHov (vNote (mkV V.mn V.pre V.len V.lev V.hol V.sta V.en V.tdy V.dys V.pol V.par V.kd V.fi V.se V.th V.ne 0 V.fo V.fl) 8 (nI x) (nI w) 0) x w).lev z9)))), ((a 5), .inl (cI, 400, .inl (fun z9 => nI ((vHov (vNote (mkV V.mn V.pre V.len V.lev V.hol V.sta V.en V.tdy V.dys V.pol V.par V.kd V.fi V.se V.th V.ne 0 V.fo V.fl) 8 (nI x) (nI w) 0) x w).hol z9)))), ((a 6), .inl (cI, 400, .inl (fun z9 => nI ((vHov (vNote (mkV V.mn V.pre V.len V.lev V.hol V.sta V.en V.tdy V.dys V.pol V.par V.kd V.fi V.se V.th V.ne 0 V.fo V.fl) 8 (nI x) (nI w) 0) x w).sta z9)))), ((a 7), .inl (cI, 400, .inl (fun z9 => nI ((vHov (vNote (mkV V.mn V.pre V.len V.lev V.hol V.sta V.en V.tdy V.dys V.pol V.par V.kd V.fi V.se V.th V.ne 0 V.fo V.fl) 8 (nI x) (nI w) 0) x w).en z9)))), ((a 8), .inl (cI, 2, .inl (fun z9 => nI ((vHov (vNote (mkV V.mn V.pre V.len V.lev V.hol V.sta V.en V.tdy V.dys V.pol V.par V.kd V.fi V.se V.th V.ne 0 V.fo V.fl) 8 (nI x) (nI w) 0) x w).tdy z9)))), ((a 9), .inl (cI, 2, .inl (fun z9 => nI ((vHov (vNote (mkV V.mn V.pre V.len V.lev V.hol V.sta V.en V.tdy V.dys V.pol V.par V.kd V.fi V.se V.th V.ne 0 V.fo V.fl) 8 (nI x) (nI w) 0) x w).dys z9)))), ((a 10), .inl (cI, 8, .inl (fun z9 => nI ((vHov (vNote (mkV V.mn V.pre V.len V.lev V.hol V.sta V.en V.tdy V.dys V.pol V.par V.kd V.fi V.se V.th V.ne 0 V.fo V.fl) 8 (nI x) (nI w) 0) x w).pol z9)))), ((a 11), .inl (cI, 300, .inl ((vHov (vNote (mkV V.mn V.pre V.len V.lev V.hol V.sta V.en V.tdy V.dys V.pol V.par V.kd V.fi V.se V.th V.ne 0 V.fo V.fl) 8 (nI x) (nI w) 0) x w).kd))), ((a 12), .inl (cI, 300, .inl ((vHov (vNote (mkV V.mn V.pre V.len V.lev V.hol V.sta V.en V.tdy V.dys V.pol V.par V.kd V.fi V.se V.th V.ne 0 V.fo V.fl) 8 (nI x) (nI w) 0) x w).fi))), ((a 13), .inl (cI, 300, .inl ((vHov (vNote (mkV V.mn V.pre V.len V.lev V.hol V.sta V.en V.tdy V.dys V.pol V.par V.kd V.fi V.se V.th V.ne 0 V.fo V.fl) 8 (nI x) (nI w) 0) x w).se))), ((a 14), .inl (cI, 300, .inl ((vHov (vNote (mkV V.mn V.pre V.len V.lev V.hol V.sta V.en V.tdy V.dys V.pol V.par V.kd V.fi V.se V.th V.ne 0 V.fo V.fl) 8 (nI x) (nI w) 0) x w).th)))] H := hP.sub (ws' := [(o, .inr (5, [.int (nI (vHov (vNote (mkV V.mn V.pre V.len V.lev V.hol V.sta V.en V.tdy V.dys V.pol V.par V.kd V.fi V.se V.th V.ne 0 V.fo V.fl) 8 (nI x) (nI w) 0) x w).tc), .ref (a 0), .ref (a 1), .ref (a 2), .ref (a 3), .ref (a 4), .ref (a 5), .ref (a 6), .ref (a 7), .ref (a 8), .ref (a 9), .ref (a 10), .int (nI (vHov (vNote (mkV V.mn V.pre V.len V.lev V.hol V.sta V.en V.tdy V.dys V.pol V.par V.kd V.fi V.se V.th V.ne 0 V.fo V.fl) 8 (nI x) (nI w) 0) x w).ne), .ref (a 11), .ref (a 12), .ref (a 13), .ref (a 14), .long ((vHov (vNote (mkV V.mn V.pre V.len V.lev V.hol V.sta V.en V.tdy V.dys V.pol V.par V.kd V.fi V.se V.th V.ne 0 V.fo V.fl) 8 (nI x) (nI w) 0) x w).fo), .int ((vHov (vNote (mkV V.mn V.pre V.len V.lev V.hol V.sta V.en V.tdy V.dys V.pol V.par V.kd V.fi V.se V.th V.ne 0 V.fo V.fl) 8 (nI x) (nI w) 0) x w).fl)])), ((a 0), .inl (cI, 2, .inl (fun z9 => nI ((vHov (vNote (mkV V.mn V.pre V.len V.lev V.hol V.sta V.en V.tdy V.dys V.pol V.par V.kd V.fi V.se V.th V.ne 0 V.fo V.fl) 8 (nI x) (nI w) 0) x w).mn z9)))), ((a 1), .inl (cI, 400, .inl (fun z9 => nI ((vHov (vNote (mkV V.mn V.pre V.len V.lev V.hol V.sta V.en V.tdy V.dys V.pol V.par V.kd V.fi V.se V.th V.ne 0 V.fo V.fl) 8 (nI x) (nI w) 0) x w).pre z9)))), ((a 2), .inl (cI, 400, .inl (fun z9 => nI ((vHov (vNote (mkV V.mn V.pre V.len V.lev V.hol V.sta V.en V.tdy V.dys V.pol V.par V.kd V.fi V.se V.th V.ne 0 V.fo V.fl) 8 (nI x) (nI w) 0) x w).len z9)))), ((a 3), .inl (cI, 400, .inl (fun z9 => pI ((vHov (vNote (mkV V.mn V.pre V.len V.lev V.hol V.sta V.en V.tdy V.dys V.pol V.par V.kd V.fi V.se V.th V.ne 0 V.fo V.fl) 8 (nI x) (nI w) 0) x w).par z9)))), ((a 4), .inl (cI, 400, .inl (fun z9 => nI ((vHov (vNote (mkV V.mn V.pre V.len V.lev V.hol V.sta V.en V.tdy V.dys V.pol V.par V.kd V.fi V.se V.th V.ne 0 V.fo V.fl) 8 (nI x) (nI w) 0) x w).lev z9)))), ((a 5), .inl (cI, 400, .inl (fun z9 => nI ((vHov (vNote (mkV V.mn V.pre V.len V.lev V.hol V.sta V.en V.tdy V.dys V.pol V.par V.kd V.fi V.se V.th V.ne 0 V.fo V.fl) 8 (nI x) (nI w) 0) x w).hol z9)))), ((a 6), .inl (cI, 400, .inl (fun z9 => nI ((vHov (vNote (mkV V.mn V.pre V.len V.lev V.hol V.sta V.en V.tdy V.dys V.pol V.par V.kd V.fi V.se V.th V.ne 0 V.fo V.fl) 8 (nI x) (nI w) 0) x w).sta z9)))), ((a 7), .inl (cI, 400, .inl (fun z9 => nI ((vHov (vNote (mkV V.mn V.pre V.len V.lev V.hol V.sta V.en V.tdy V.dys V.pol V.par V.kd V.fi V.se V.th V.ne 0 V.fo V.fl) 8 (nI x) (nI w) 0) x w).en z9)))), ((a 8), .inl (cI, 2, .inl (fun z9 => nI ((vHov (vNote (mkV V.mn V.pre V.len V.lev V.hol V.sta V.en V.tdy V.dys V.pol V.par V.kd V.fi V.se V.th V.ne 0 V.fo V.fl) 8 (nI x) (nI w) 0) x w).tdy z9)))), ((a 9), .inl (cI, 2, .inl (fun z9 => nI ((vHov (vNote (mkV V.mn V.pre V.len V.lev V.hol V.sta V.en V.tdy V.dys V.pol V.par V.kd V.fi V.se V.th V.ne 0 V.fo V.fl) 8 (nI x) (nI w) 0) x w).dys z9)))), ((a 10), .inl (cI, 8, .inl (fun z9 => nI ((vHov (vNote (mkV V.mn V.pre V.len V.lev V.hol V.sta V.en V.tdy V.dys V.pol V.par V.kd V.fi V.se V.th V.ne 0 V.fo V.fl) 8 (nI x) (nI w) 0) x w).pol z9)))), ((a 11), .inl (cI, 300, .inl ((vHov (vNote (mkV V.mn V.pre V.len V.lev V.hol V.sta V.en V.tdy V.dys V.pol V.par V.kd V.fi V.se V.th V.ne 0 V.fo V.fl) 8 (nI x) (nI w) 0) x w).kd))), ((a 12), .inl (cI, 300, .inl ((vHov (vNote (mkV V.mn V.pre V.len V.lev V.hol V.sta V.en V.tdy V.dys V.pol V.par V.kd V.fi V.se V.th V.ne 0 V.fo V.fl) 8 (nI x) (nI w) 0) x w).fi))), ((a 13), .inl (cI, 300, .inl ((vHov (vNote (mkV V.mn V.pre V.len V.lev V.hol V.sta V.en V.tdy V.dys V.pol V.par V.kd V.fi V.se V.th V.ne 0 V.fo V.fl) 8 (nI x) (nI w) 0) x w).se))), ((a 14), .inl (cI, 300, .inl ((vHov (vNote (mkV V.mn V.pre V.len V.lev V.hol V.sta V.en V.tdy V.dys V.pol V.par V.kd V.fi V.se V.th V.ne 0 V.fo V.fl) 8 (nI x) (nI w) 0) x w).th)))]) [0, 1, 2, 3, 4, 5, 6, 7, 8, 9, 10, 11, 12, 13, 14, 15] rfl
          replace hD : va_D A [(o, .inr (5, [.int (nI (vHov (vNote (mkV V.mn V.pre V.len V.lev V.hol V.sta V.en V.tdy V.dys V.pol V.par V.kd V.fi V.se V.th V.ne 0 V.fo V.fl) 8 (nI x) (nI w) 0) x w).tc), .ref (a 0), .ref (a 1), .ref (a 2), .ref (a 3), .ref (a 4), .ref (a 5), .ref (a 6), .ref (a 7), .ref (a 8), .ref (a 9), .ref (a 10), .int (nI (vHov (vNote (mkV V.mn V.pre V.len V.lev V.hol V.sta V.en V.tdy V.dys V.pol V.par V.kd V.fi V.se V.th V.ne 0 V.fo V.fl) 8 (nI x) (nI w) 0) x w).ne), .ref (a 11), .ref (a 12), .ref (a 13), .ref (a 14), .long ((vHov (vNote (mkV V.mn V.pre V.len V.lev V.hol V.sta V.en V.tdy V.dys V.pol V.par V.kd V.fi V.se V.th V.ne 0 V.fo V.fl) 8 (nI x) (nI w) 0) x w).fo), .int ((vHov (vNote (mkV V.mn V.pre V.len V.lev V.hol V.sta V.en V.tdy V.dys V.pol V.par V.kd V.fi V.se V.th V.ne 0 V.fo V.fl) 8 (nI x) (nI w) 0) x w).fl)])), ((a 0), .inl (cI, 2, .inl (fun z9 => nI ((vHov (vNote (mkV V.mn V.pre V.len V.lev V.hol V.sta V.en V.tdy V.dys V.pol V.par V.kd V.fi V.se V.th V.ne 0 V.fo V.fl) 8 (nI x) (nI w) 0) x w).mn z9)))), ((a 1), .inl (cI, 400, .inl (fun z9 => nI ((vHov (vNote (mkV V.mn V.pre V.len V.lev V.hol V.sta V.en V.tdy V.dys V.pol V.par V.kd V.fi V.se V.th V.ne 0 V.fo V.fl) 8 (nI x) (nI w) 0) x w).pre z9)))), ((a 2), .inl (cI, 400, .inl (fun z9 => nI ((vHov (vNote (mkV V.mn V.pre V.len V.lev V.hol V.sta V.en V.tdy V.dys V.pol V.par V.kd V.fi V.se V.th V.ne 0 V.fo V.fl) 8 (nI x) (nI w) 0) x w).len z9)))), ((a 3), .inl (cI, 400, .inl (fun z9 => pI ((vHov (vNote (mkV V.mn V.pre V.len V.lev V.hol V.sta V.en V.tdy V.dys V.pol V.par V.kd V.fi V.se V.th V.ne 0 V.fo V.fl) 8 (nI x) (nI w) 0) x w).par z9)))), ((a 4), .inl (cI, 400, .inl (fun z9 => nI ((vHov (vNote (mkV V.mn V.pre V.len V.lev V.hol V.sta V.en V.tdy V.dys V.pol V.par V.kd V.fi V.se V.th V.ne 0 V.fo V.fl) 8 (nI x) (nI w) 0) x w).lev z9)))), ((a 5), .inl (cI, 400, .inl (fun z9 => nI ((vHov (vNote (mkV V.mn V.pre V.len V.lev V.hol V.sta V.en V.tdy V.dys V.pol V.par V.kd V.fi V.se V.th V.ne 0 V.fo V.fl) 8 (nI x) (nI w) 0) x w).hol z9)))), ((a 6), .inl (cI, 400, .inl (fun z9 => nI ((vHov (vNote (mkV V.mn V.pre V.len V.lev V.hol V.sta V.en V.tdy V.dys V.pol V.par V.kd V.fi V.se V.th V.ne 0 V.fo V.fl) 8 (nI x) (nI w) 0) x w).sta z9)))), ((a 7), .inl (cI, 400, .inl (fun z9 => nI ((vHov (vNote (mkV V.mn V.pre V.len V.lev V.hol V.sta V.en V.tdy V.dys V.pol V.par V.kd V.fi V.se V.th V.ne 0 V.fo V.fl) 8 (nI x) (nI w) 0) x w).en z9)))), ((a 8), .inl (cI, 2, .inl (fun z9 => nI ((vHov (vNote (mkV V.mn V.pre V.len V.lev V.hol V.sta V.en V.tdy V.dys V.pol V.par V.kd V.fi V.se V.th V.ne 0 V.fo V.fl) 8 (nI x) (nI w) 0) x w).tdy z9)))), ((a 9), .inl (cI, 2, .inl (fun z9 => nI ((vHov (vNote (mkV V.mn V.pre V.len V.lev V.hol V.sta V.en V.tdy V.dys V.pol V.par V.kd V.fi V.se V.th V.ne 0 V.fo V.fl) 8 (nI x) (nI w) 0) x w).dys z9)))), ((a 10), .inl (cI, 8, .inl (fun z9 => nI ((vHov (vNote (mkV V.mn V.pre V.len V.lev V.hol V.sta V.en V.tdy V.dys V.pol V.par V.kd V.fi V.se V.th V.ne 0 V.fo V.fl) 8 (nI x) (nI w) 0) x w).pol z9)))), ((a 11), .inl (cI, 300, .inl ((vHov (vNote (mkV V.mn V.pre V.len V.lev V.hol V.sta V.en V.tdy V.dys V.pol V.par V.kd V.fi V.se V.th V.ne 0 V.fo V.fl) 8 (nI x) (nI w) 0) x w).kd))), ((a 12), .inl (cI, 300, .inl ((vHov (vNote (mkV V.mn V.pre V.len V.lev V.hol V.sta V.en V.tdy V.dys V.pol V.par V.kd V.fi V.se V.th V.ne 0 V.fo V.fl) 8 (nI x) (nI w) 0) x w).fi))), ((a 13), .inl (cI, 300, .inl ((vHov (vNote (mkV V.mn V.pre V.len V.lev V.hol V.sta V.en V.tdy V.dys V.pol V.par V.kd V.fi V.se V.th V.ne 0 V.fo V.fl) 8 (nI x) (nI w) 0) x w).se))), ((a 14), .inl (cI, 300, .inl ((vHov (vNote (mkV V.mn V.pre V.len V.lev V.hol V.sta V.en V.tdy V.dys V.pol V.par V.kd V.fi V.se V.th V.ne 0 V.fo V.fl) 8 (nI x) (nI w) 0) x w).th)))] := hD.sub (ws' := [(o, .inr (5, [.int (nI (vHov (vNote (mkV V.mn V.pre V.len V.lev V.hol V.sta V.en V.tdy V.dys V.pol V.par V.kd V.fi V.se V.th V.ne 0 V.fo V.fl) 8 (nI x) (nI w) 0) x w).tc), .ref (a 0), .ref (a 1), .ref (a 2), .ref (a 3), .ref (a 4), .ref (a 5), .ref (a 6), .ref (a 7), .ref (a 8), .ref (a 9), .ref (a 10), .int (nI (vHov (vNote (mkV V.mn V.pre V.len V.lev V.hol V.sta V.en V.tdy V.dys V.pol V.par V.kd V.fi V.se V.th V.ne 0 V.fo V.fl) 8 (nI x) (nI w) 0) x w).ne), .ref (a 11), .ref (a 12), .ref (a 13), .ref (a 14), .long ((vHov (vNote (mkV V.mn V.pre V.len V.lev V.hol V.sta V.en V.tdy V.dys V.pol V.par V.kd V.fi V.se V.th V.ne 0 V.fo V.fl) 8 (nI x) (nI w) 0) x w).fo), .int ((vHov (vNote (mkV V.mn V.pre V.len V.lev V.hol V.sta V.en V.tdy V.dys V.pol V.par V.kd V.fi V.se V.th V.ne 0 V.fo V.fl) 8 (nI x) (nI w) 0) x w).fl)])), ((a 0), .inl (cI, 2, .inl (fun z9 => nI ((vHov (vNote (mkV V.mn V.pre V.len V.lev V.hol V.sta V.en V.tdy V.dys V.pol V.par V.kd V.fi V.se V.th V.ne 0 V.fo V.fl) 8 (nI x) (nI w) 0) x w).mn z9)))), ((a 1), .inl (cI, 400, .inl (fun z9 => nI ((vHov (vNote (mkV V.mn V.pre V.len V.lev V.hol V.sta V.en V.tdy V.dys V.pol V.par V.kd V.fi V.se V.th V.ne 0 V.fo V.fl) 8 (nI x) (nI w) 0) x w).pre z9)))), ((a 2), .inl (cI, 400, .inl (fun z9 => nI ((vHov (vNote (mkV V.mn V.pre V.len V.lev V.hol V.sta V.en V.tdy V.dys V.pol V.par V.kd V.fi V.se V.th V.ne 0 V.fo V.fl) 8 (nI x) (nI w) 0) x w).len z9)))), ((a 3), .inl (cI, 400, .inl (fun z9 => pI ((vHov (vNote (mkV V.mn V.pre V.len V.lev V.hol V.sta V.en V.tdy V.dys V.pol V.par V.kd V.fi V.se V.th V.ne 0 V.fo V.fl) 8 (nI x) (nI w) 0) x w).par z9)))), ((a 4), .inl (cI, 400, .inl (fun z9 => nI ((vHov (vNote (mkV V.mn V.pre V.len V.lev V.hol V.sta V.en V.tdy V.dys V.pol V.par V.kd V.fi V.se V.th V.ne 0 V.fo V.fl) 8 (nI x) (nI w) 0) x w).lev z9)))), ((a 5), .inl (cI, 400, .inl (fun z9 => nI ((vHov (vNote (mkV V.mn V.pre V.len V.lev V.hol V.sta V.en V.tdy V.dys V.pol V.par V.kd V.fi V.se V.th V.ne 0 V.fo V.fl) 8 (nI x) (nI w) 0) x w).hol z9)))), ((a 6), .inl (cI, 400, .inl (fun z9 => nI ((vHov (vNote (mkV V.mn V.pre V.len V.lev V.hol V.sta V.en V.tdy V.dys V.pol V.par V.kd V.fi V.se V.th V.ne 0 V.fo V.fl) 8 (nI x) (nI w) 0) x w).sta z9)))), ((a 7), .inl (cI, 400, .inl (fun z9 => nI ((vHov (vNote (mkV V.mn V.pre V.len V.lev V.hol V.sta V.en V.tdy V.dys V.pol V.par V.kd V.fi V.se V.th V.ne 0 V.fo V.fl) 8 (nI x) (nI w) 0) x w).en z9)))), ((a 8), .inl (cI, 2, .inl (fun z9 => nI ((vHov (vNote (mkV V.mn V.pre V.len V.lev V.hol V.sta V.en V.tdy V.dys V.pol V.par V.kd V.fi V.se V.th V.ne 0 V.fo V.fl) 8 (nI x) (nI w) 0) x w).tdy z9)))), ((a 9), .inl (cI, 2, .inl (fun z9 => nI ((vHov (vNote (mkV V.mn V.pre V.len V.lev V.hol V.sta V.en V.tdy V.dys V.pol V.par V.kd V.fi V.se V.th V.ne 0 V.fo V.fl) 8 (nI x) (nI w) 0) x w).dys z9)))), ((a 10), .inl (cI, 8, .inl (fun z9 => nI ((vHov (vNote (mkV V.mn V.pre V.len V.lev V.hol V.sta V.en V.tdy V.dys V.pol V.par V.kd V.fi V.se V.th V.ne 0 V.fo V.fl) 8 (nI x) (nI w) 0) x w).pol z9)))), ((a 11), .inl (cI, 300, .inl ((vHov (vNote (mkV V.mn V.pre V.len V.lev V.hol V.sta V.en V.tdy V.dys V.pol V.par V.kd V.fi V.se V.th V.ne 0 V.fo V.fl) 8 (nI x) (nI w) 0) x w).kd))), ((a 12), .inl (cI, 300, .inl ((vHov (vNote (mkV V.mn V.pre V.len V.lev V.hol V.sta V.en V.tdy V.dys V.pol V.par V.kd V.fi V.se V.th V.ne 0 V.fo V.fl) 8 (nI x) (nI w) 0) x w).fi))), ((a 13), .inl (cI, 300, .inl ((vHov (vNote (mkV V.mn V.pre V.len V.lev V.hol V.sta V.en V.tdy V.dys V.pol V.par V.kd V.fi V.se V.th V.ne 0 V.fo V.fl) 8 (nI x) (nI w) 0) x w).se))), ((a 14), .inl (cI, 300, .inl ((vHov (vNote (mkV V.mn V.pre V.len V.lev V.hol V.sta V.en V.tdy V.dys V.pol V.par V.kd V.fi V.se V.th V.ne 0 V.fo V.fl) 8 (nI x) (nI w) 0) x w).th)))]) [0, 1, 2, 3, 4, 5, 6, 7, 8, 9, 10, 11, 12, 13, 14, 15] (by decide) rfl
          have e9 : moTra V x w = vHov (vNote (mkV V.mn V.pre V.len V.lev V.hol V.sta V.en V.tdy V.dys V.pol V.par V.kd V.fi V.se V.th V.ne 0 V.fo V.fl) 8 (nI x) (nI w) 0) x w := by unfold moTra; rw [if_pos h7, if_pos h22, if_neg h36, if_neg h47]
          have e8 : moTraR V x w = (hoF (vNote (mkV V.mn V.pre V.len V.lev V.hol V.sta V.en V.tdy V.dys V.pol V.par V.kd V.fi V.se V.th V.ne 0 V.fo V.fl) 8 (nI x) (nI w) 0) x w (sbN x) (ebN (vNote (mkV V.mn V.pre V.len V.lev V.hol V.sta V.en V.tdy V.dys V.pol V.par V.kd V.fi V.se V.th V.ne 0 V.fo V.fl) 8 (nI x) (nI w) 0) x - sbN x) (vNote (mkV V.mn V.pre V.len V.lev V.hol V.sta V.en V.tdy V.dys V.pol V.par V.kd V.fi V.se V.th V.ne 0 V.fo V.fl) 8 (nI x) (nI w) 0).hol 0).2 := by unfold moTraR; rw [if_pos ⟨⟨⟨h7, h22⟩, h36⟩, h47⟩]
          have hP9 : va_P (dC, dI) classes (wMo cI o a (moTra V x w)) H := by rw [e9]; exact hP
          have hD9 : va_D A (wMo cI o a (moTra V x w)) := by rw [e9]; exact hD
          exact W.iret (v := (nI (hoF (vNote (mkV V.mn V.pre V.len V.lev V.hol V.sta V.en V.tdy V.dys V.pol V.par V.kd V.fi V.se V.th V.ne 0 V.fo V.fl) 8 (nI x) (nI w) 0) x w (sbN x) (ebN (vNote (mkV V.mn V.pre V.len V.lev V.hol V.sta V.en V.tdy V.dys V.pol V.par V.kd V.fi V.se V.th V.ne 0 V.fo V.fl) 8 (nI x) (nI w) 0) x - sbN x) (vNote (mkV V.mn V.pre V.len V.lev V.hol V.sta V.en V.tdy V.dys V.pol V.par V.kd V.fi V.se V.th V.ne 0 V.fo V.fl) 8 (nI x) (nI w) 0).hol 0).2)) hx hb hr (fun t ht hW => ⟨⟨(nI (hoF (vNote (mkV V.mn V.pre V.len V.lev V.hol V.sta V.en V.tdy V.dys V.pol V.par V.kd V.fi V.se V.th V.ne 0 V.fo V.fl) 8 (nI x) (nI w) 0) x w (sbN x) (ebN (vNote (mkV V.mn V.pre V.len V.lev V.hol V.sta V.en V.tdy V.dys V.pol V.par V.kd V.fi V.se V.th V.ne 0 V.fo V.fl) 8 (nI x) (nI w) 0) x - sbN x) (vNote (mkV V.mn V.pre V.len V.lev V.hol V.sta V.en V.tdy V.dys V.pol V.par V.kd V.fi V.se V.th V.ne 0 V.fo V.fl) 8 (nI x) (nI w) 0).hol 0).2), (), rfl, (by first | (rw [e8]; done) | (rw [e8]; rfl)), by rw [ht]; exact hP9, va_K.moved hW.alike hK, hD9⟩, hS.F ht⟩) hS.2.2 d_Mo_transfer_82
        have h47 := Decidable.not_not.mp (mt bi_d.mpr h47)
        refine lv_iconst (v := 4) hx hb d_Mo_transfer_50 (by decide) ?_
        refine lv_goto hx hb d_Mo_transfer_51 rfl ?_
        refine va_put (D := (dC, dI)) (ci := 5) (v := .int 4) (ty := .int) (C := R_Mo) (T := F_Mo) (N := 19) hx hb hts u_Mo t_Mo t_Mo_ok n_Mo hown hK hP hD hS 0 rfl rfl 0 (by decide) (hts _ kw_714) (fun _ h9 => h9) rfl (by decide +kernel) rfl rfl (Nat.le_of_ble_eq_true rfl) d_Mo_transfer_55 (fun H locs hP hD hS => ?_)
        replace hP : va_P (dC, dI) classes [(o, .inr (5, [.int 4, .ref (a 0), .ref (a 1), .ref (a 2), .ref (a 3), .ref (a 4), .ref (a 5), .ref (a 6), .ref (a 7), .ref (a 8), .ref (a 9), .ref (a 10), .int (nI V.ne), .ref (a 11), .ref (a 12), .ref (a 13), .ref (a 14), .long V.fo, .int V.fl])), ((a 0), .inl (cI, 2, .inl (fun z9 => nI (V.mn z9)))), ((a 1), .inl (cI, 400, .inl (fun z9 => nI (V.pre z9)))), ((a 2), .inl (cI, 400, .inl (fun z9 => nI (V.len z9)))), ((a 3), .inl (cI, 400, .inl (fun z9 => pI (V.par z9)))), ((a 4), .inl (cI, 400, .inl (fun z9 => nI (V.lev z9)))), ((a 5), .inl (cI, 400, .inl (fun z9 => nI (V.hol z9)))), ((a 6), .inl (cI, 400, .inl (fun z9 => nI (V.sta z9)))), ((a 7), .inl (cI, 400, .inl (fun z9 => nI (V.en z9)))), ((a 8), .inl (cI, 2, .inl (fun z9 => nI (V.tdy z9)))), ((a 9), .inl (cI, 2, .inl (fun z9 => nI (V.dys z9)))), ((a 10), .inl (cI, 8, .inl (fun z9 => nI (V.pol z9)))), ((a 11), .inl (cI, 300, .inl V.kd)), ((a 12), .inl (cI, 300, .inl V.fi)), ((a 13), .inl (cI, 300, .inl V.se)), ((a 14), .inl (cI, 300, .inl V.th))] H := hP
        replace hD : va_D A [(o, .inr (5, [.int 4, .ref (a 0), .ref (a 1), .ref (a 2), .ref (a 3), .ref (a 4), .ref (a 5), .ref (a 6), .ref (a 7), .ref (a 8), .ref (a 9), .ref (a 10), .int (nI V.ne), .ref (a 11), .ref (a 12), .ref (a 13), .ref (a 14), .long V.fo, .int V.fl])), ((a 0), .inl (cI, 2, .inl (fun z9 => nI (V.mn z9)))), ((a 1), .inl (cI, 400, .inl (fun z9 => nI (V.pre z9)))), ((a 2), .inl (cI, 400, .inl (fun z9 => nI (V.len z9)))), ((a 3), .inl (cI, 400, .inl (fun z9 => pI (V.par z9)))), ((a 4), .inl (cI, 400, .inl (fun z9 => nI (V.lev z9)))), ((a 5), .inl (cI, 400, .inl (fun z9 => nI (V.hol z9)))), ((a 6), .inl (cI, 400, .inl (fun z9 => nI (V.sta z9)))), ((a 7), .inl (cI, 400, .inl (fun z9 => nI (V.en z9)))), ((a 8), .inl (cI, 2, .inl (fun z9 => nI (V.tdy z9)))), ((a 9), .inl (cI, 2, .inl (fun z9 => nI (V.dys z9)))), ((a 10), .inl (cI, 8, .inl (fun z9 => nI (V.pol z9)))), ((a 11), .inl (cI, 300, .inl V.kd)), ((a 12), .inl (cI, 300, .inl V.fi)), ((a 13), .inl (cI, 300, .inl V.se)), ((a 14), .inl (cI, 300, .inl V.th))] := hD
        refine lv_aload_n hx hb d_Mo_transfer_58 rfl (lv_at hl 0 rfl) ?_
        refine va_get (D := (dC, dI)) (ci := 5) (v := .int 4) (C := R_Mo) (T := F_Mo) (N := 19) hx hb hts u_Mo hown hK hP 0 rfl rfl 0 (by decide) (hts _ kw_714) (fun _ h9 => h9) rfl d_Mo_transfer_59 ?_
        refine lv_if_le hx hb d_Mo_transfer_62 rfl (fun h9 => absurd h9 (by decide)) (fun _ => ?_)
        refine lv_iconst (v := 0) hx hb d_Mo_transfer_65 (by decide) ?_
        have e9 : moTra V x w = (mkV V.mn V.pre V.len V.lev V.hol V.sta V.en V.tdy V.dys V.pol V.par V.kd V.fi V.se V.th V.ne 4 V.fo V.fl) := by unfold moTra; rw [if_pos h7, if_pos h22, if_neg h36, if_pos h47]
        have e8 : moTraR V x w = 0 := by unfold moTraR; rw [if_neg (fun q => q.2 h47)]
        have hP9 : va_P (dC, dI) classes (wMo cI o a (moTra V x w)) H := by rw [e9]; exact hP
        have hD9 : va_D A (wMo cI o a (moTra V x w)) := by rw [e9]; exact hD
        exact W.iret (v := 0) hx hb hr (fun t ht hW => ⟨⟨0, (), rfl, (by first | (rw [e8]; done) | (rw [e8]; rfl)), by rw [ht]; exact hP9, va_K.moved hW.alike hK, hD9⟩, hS.F ht⟩) hS.2.2 d_Mo_transfer_66
      have h36 := (k_eq (b := 4) (by have := hV.sta x; omega) (by decide)).mp h36
      refine lv_iconst (v := 3) hx hb d_Mo_transfer_39 (by decide) ?_
      refine lv_goto hx hb d_Mo_transfer_40 rfl ?_
      refine va_put (D := (dC, dI)) (ci := 5) (v := .int 3) (ty := .int) (C := R_Mo) (T := F_Mo) (N := 19) hx hb hts u_Mo t_Mo t_Mo_ok n_Mo hown hK hP hD hS 0 rfl rfl 0 (by decide) (hts _ kw_714) (fun _ h9 => h9) rfl (by decide +kernel) rfl rfl (Nat.le_of_ble_eq_true rfl) d_Mo_transfer_55 (fun H locs hP hD hS => ?_)
      replace hP : va_P (dC, dI) classes [(o, .inr (5, [.int 3, .ref (a 0), .ref (a 1), .ref (a 2), .ref (a 3), .ref (a 4), .ref (a 5), .ref (a 6), .ref (a 7), .ref (a 8), .ref (a 9), .ref (a 10), .int (nI V.ne), .ref (a 11), .ref (a 12), .ref (a 13), .ref (a 14), .long V.fo, .int V.fl])), ((a 0), .inl (cI, 2, .inl (fun z9 => nI (V.mn z9)))), ((a 1), .inl (cI, 400, .inl (fun z9 => nI (V.pre z9)))), ((a 2), .inl (cI, 400, .inl (fun z9 => nI (V.len z9)))), ((a 3), .inl (cI, 400, .inl (fun z9 => pI (V.par z9)))), ((a 4), .inl (cI, 400, .inl (fun z9 => nI (V.lev z9)))), ((a 5), .inl (cI, 400, .inl (fun z9 => nI (V.hol z9)))), ((a 6), .inl (cI, 400, .inl (fun z9 => nI (V.sta z9)))), ((a 7), .inl (cI, 400, .inl (fun z9 => nI (V.en z9)))), ((a 8), .inl (cI, 2, .inl (fun z9 => nI (V.tdy z9)))), ((a 9), .inl (cI, 2, .inl (fun z9 => nI (V.dys z9)))), ((a 10), .inl (cI, 8, .inl (fun z9 => nI (V.pol z9)))), ((a 11), .inl (cI, 300, .inl V.kd)), ((a 12), .inl (cI, 300, .inl V.fi)), ((a 13), .inl (cI, 300, .inl V.se)), ((a 14), .inl (cI, 300, .inl V.th))] H := hP
      replace hD : va_D A [(o, .inr (5, [.int 3, .ref (a 0), .ref (a 1), .ref (a 2), .ref (a 3), .ref (a 4), .ref (a 5), .ref (a 6), .ref (a 7), .ref (a 8), .ref (a 9), .ref (a 10), .int (nI V.ne), .ref (a 11), .ref (a 12), .ref (a 13), .ref (a 14), .long V.fo, .int V.fl])), ((a 0), .inl (cI, 2, .inl (fun z9 => nI (V.mn z9)))), ((a 1), .inl (cI, 400, .inl (fun z9 => nI (V.pre z9)))), ((a 2), .inl (cI, 400, .inl (fun z9 => nI (V.len z9)))), ((a 3), .inl (cI, 400, .inl (fun z9 => pI (V.par z9)))), ((a 4), .inl (cI, 400, .inl (fun z9 => nI (V.lev z9)))), ((a 5), .inl (cI, 400, .inl (fun z9 => nI (V.hol z9)))), ((a 6), .inl (cI, 400, .inl (fun z9 => nI (V.sta z9)))), ((a 7), .inl (cI, 400, .inl (fun z9 => nI (V.en z9)))), ((a 8), .inl (cI, 2, .inl (fun z9 => nI (V.tdy z9)))), ((a 9), .inl (cI, 2, .inl (fun z9 => nI (V.dys z9)))), ((a 10), .inl (cI, 8, .inl (fun z9 => nI (V.pol z9)))), ((a 11), .inl (cI, 300, .inl V.kd)), ((a 12), .inl (cI, 300, .inl V.fi)), ((a 13), .inl (cI, 300, .inl V.se)), ((a 14), .inl (cI, 300, .inl V.th))] := hD
      refine lv_aload_n hx hb d_Mo_transfer_58 rfl (lv_at hl 0 rfl) ?_
      refine va_get (D := (dC, dI)) (ci := 5) (v := .int 3) (C := R_Mo) (T := F_Mo) (N := 19) hx hb hts u_Mo hown hK hP 0 rfl rfl 0 (by decide) (hts _ kw_714) (fun _ h9 => h9) rfl d_Mo_transfer_59 ?_
      refine lv_if_le hx hb d_Mo_transfer_62 rfl (fun h9 => absurd h9 (by decide)) (fun _ => ?_)
      refine lv_iconst (v := 0) hx hb d_Mo_transfer_65 (by decide) ?_
      have e9 : moTra V x w = (mkV V.mn V.pre V.len V.lev V.hol V.sta V.en V.tdy V.dys V.pol V.par V.kd V.fi V.se V.th V.ne 3 V.fo V.fl) := by unfold moTra; rw [if_pos h7, if_pos h22, if_pos h36]
      have e8 : moTraR V x w = 0 := by unfold moTraR; rw [if_neg (fun q => q.1.2 h36)]
      have hP9 : va_P (dC, dI) classes (wMo cI o a (moTra V x w)) H := by rw [e9]; exact hP
      have hD9 : va_D A (wMo cI o a (moTra V x w)) := by rw [e9]; exact hD
      exact W.iret (v := 0) hx hb hr (fun t ht hW => ⟨⟨0, (), rfl, (by first | (rw [e8]; done) | (rw [e8]; rfl)), by rw [ht]; exact hP9, va_K.moved hW.alike hK, hD9⟩, hS.F ht⟩) hS.2.2 d_Mo_transfer_66
    have h22 := mt (in_iff hw0 (h := 9999) (by decide)).mpr (bi_d.mp h22)
    refine lv_iconst (v := 2) hx hb d_Mo_transfer_25 (by decide) ?_
    refine lv_goto hx hb d_Mo_transfer_26 rfl ?_
    refine va_put (D := (dC, dI)) (ci := 5) (v := .int 2) (ty := .int) (C := R_Mo) (T := F_Mo) (N := 19) hx hb hts u_Mo t_Mo t_Mo_ok n_Mo hown hK hP hD hS 0 rfl rfl 0 (by decide) (hts _ kw_714) (fun _ h9 => h9) rfl (by decide +kernel) rfl rfl (Nat.le_of_ble_eq_true rfl) d_Mo_transfer_55 (fun H locs hP hD hS => ?_)
    replace hP : va_P (dC, dI) classes [(o, .inr (5, [.int 2, .ref (a 0), .ref (a 1), .ref (a 2), .ref (a 3), .ref (a 4), .ref (a 5), .ref (a 6), .ref (a 7), .ref (a 8), .ref (a 9), .ref (a 10), .int (nI V.ne), .ref (a 11), .ref (a 12), .ref (a 13), .ref (a 14), .long V.fo, .int V.fl])), ((a 0), .inl (cI, 2, .inl (fun z9 => nI (V.mn z9)))), ((a 1), .inl (cI, 400, .inl (fun z9 => nI (V.pre z9)))), ((a 2), .inl (cI, 400, .inl (fun z9 => nI (V.len z9)))), ((a 3), .inl (cI, 400, .inl (fun z9 => pI (V.par z9)))), ((a 4), .inl (cI, 400, .inl (fun z9 => nI (V.lev z9)))), ((a 5), .inl (cI, 400, .inl (fun z9 => nI (V.hol z9)))), ((a 6), .inl (cI, 400, .inl (fun z9 => nI (V.sta z9)))), ((a 7), .inl (cI, 400, .inl (fun z9 => nI (V.en z9)))), ((a 8), .inl (cI, 2, .inl (fun z9 => nI (V.tdy z9)))), ((a 9), .inl (cI, 2, .inl (fun z9 => nI (V.dys z9)))), ((a 10), .inl (cI, 8, .inl (fun z9 => nI (V.pol z9)))), ((a 11), .inl (cI, 300, .inl V.kd)), ((a 12), .inl (cI, 300, .inl V.fi)), ((a 13), .inl (cI, 300, .inl V.se)), ((a 14), .inl (cI, 300, .inl V.th))] H := hP
    replace hD : va_D A [(o, .inr (5, [.int 2, .ref (a 0), .ref (a 1), .ref (a 2), .ref (a 3), .ref (a 4), .ref (a 5), .ref (a 6), .ref (a 7), .ref (a 8), .ref (a 9), .ref (a 10), .int (nI V.ne), .ref (a 11), .ref (a 12), .ref (a 13), .ref (a 14), .long V.fo, .int V.fl])), ((a 0), .inl (cI, 2, .inl (fun z9 => nI (V.mn z9)))), ((a 1), .inl (cI, 400, .inl (fun z9 => nI (V.pre z9)))), ((a 2), .inl (cI, 400, .inl (fun z9 => nI (V.len z9)))), ((a 3), .inl (cI, 400, .inl (fun z9 => pI (V.par z9)))), ((a 4), .inl (cI, 400, .inl (fun z9 => nI (V.lev z9)))), ((a 5), .inl (cI, 400, .inl (fun z9 => nI (V.hol z9)))), ((a 6), .inl (cI, 400, .inl (fun z9 => nI (V.sta z9)))), ((a 7), .inl (cI, 400, .inl (fun z9 => nI (V.en z9)))), ((a 8), .inl (cI, 2, .inl (fun z9 => nI (V.tdy z9)))), ((a 9), .inl (cI, 2, .inl (fun z9 => nI (V.dys z9)))), ((a 10), .inl (cI, 8, .inl (fun z9 => nI (V.pol z9)))), ((a 11), .inl (cI, 300, .inl V.kd)), ((a 12), .inl (cI, 300, .inl V.fi)), ((a 13), .inl (cI, 300, .inl V.se)), ((a 14), .inl (cI, 300, .inl V.th))] := hD
    refine lv_aload_n hx hb d_Mo_transfer_58 rfl (lv_at hl 0 rfl) ?_
    refine va_get (D := (dC, dI)) (ci := 5) (v := .int 2) (C := R_Mo) (T := F_Mo) (N := 19) hx hb hts u_Mo hown hK hP 0 rfl rfl 0 (by decide) (hts _ kw_714) (fun _ h9 => h9) rfl d_Mo_transfer_59 ?_
    refine lv_if_le hx hb d_Mo_transfer_62 rfl (fun h9 => absurd h9 (by decide)) (fun _ => ?_)
    refine lv_iconst (v := 0) hx hb d_Mo_transfer_65 (by decide) ?_
    have e9 : moTra V x w = (mkV V.mn V.pre V.len V.lev V.hol V.sta V.en V.tdy V.dys V.pol V.par V.kd V.fi V.se V.th V.ne 2 V.fo V.fl) := by unfold moTra; rw [if_pos h7, if_neg h22]
    have e8 : moTraR V x w = 0 := by unfold moTraR; rw [if_neg (fun q => h22 q.1.1.2)]
    have hP9 : va_P (dC, dI) classes (wMo cI o a (moTra V x w)) H := by rw [e9]; exact hP
    have hD9 : va_D A (wMo cI o a (moTra V x w)) := by rw [e9]; exact hD
    exact W.iret (v := 0) hx hb hr (fun t ht hW => ⟨⟨0, (), rfl, (by first | (rw [e8]; done) | (rw [e8]; rfl)), by rw [ht]; exact hP9, va_K.moved hW.alike hK, hD9⟩, hS.F ht⟩) hS.2.2 d_Mo_transfer_66
  have h7 := bi_d.mp h7
  refine lv_iconst (v := 1) hx hb d_Mo_transfer_10 (by decide) ?_
  refine lv_goto hx hb d_Mo_transfer_11 rfl ?_
  refine va_put (D := (dC, dI)) (ci := 5) (v := .int 1) (ty := .int) (C := R_Mo) (T := F_Mo) (N := 19) hx hb hts u_Mo t_Mo t_Mo_ok n_Mo hown hK hP hD hS 0 rfl rfl 0 (by decide) (hts _ kw_714) (fun _ h9 => h9) rfl (by decide +kernel) rfl rfl (Nat.le_of_ble_eq_true rfl) d_Mo_transfer_55 (fun H locs hP hD hS => ?_)
  replace hP : va_P (dC, dI) classes [(o, .inr (5, [.int 1, .ref (a 0), .ref (a 1), .ref (a 2), .ref (a 3), .ref (a 4), .ref (a 5), .ref (a 6), .ref (a 7), .ref (a 8), .ref (a 9), .ref (a 10), .int (nI V.ne), .ref (a 11), .ref (a 12), .ref (a 13), .ref (a 14), .long V.fo, .int V.fl])), ((a 0), .inl (cI, 2, .inl (fun z9 => nI (V.mn z9)))), ((a 1), .inl (cI, 400, .inl (fun z9 => nI (V.pre z9)))), ((a 2), .inl (cI, 400, .inl (fun z9 => nI (V.len z9)))), ((a 3), .inl (cI, 400, .inl (fun z9 => pI (V.par z9)))), ((a 4), .inl (cI, 400, .inl (fun z9 => nI (V.lev z9)))), ((a 5), .inl (cI, 400, .inl (fun z9 => nI (V.hol z9)))), ((a 6), .inl (cI, 400, .inl (fun z9 => nI (V.sta z9)))), ((a 7), .inl (cI, 400, .inl (fun z9 => nI (V.en z9)))), ((a 8), .inl (cI, 2, .inl (fun z9 => nI (V.tdy z9)))), ((a 9), .inl (cI, 2, .inl (fun z9 => nI (V.dys z9)))), ((a 10), .inl (cI, 8, .inl (fun z9 => nI (V.pol z9)))), ((a 11), .inl (cI, 300, .inl V.kd)), ((a 12), .inl (cI, 300, .inl V.fi)), ((a 13), .inl (cI, 300, .inl V.se)), ((a 14), .inl (cI, 300, .inl V.th))] H := hP
  replace hD : va_D A [(o, .inr (5, [.int 1, .ref (a 0), .ref (a 1), .ref (a 2), .ref (a 3), .ref (a 4), .ref (a 5), .ref (a 6), .ref (a 7), .ref (a 8), .ref (a 9), .ref (a 10), .int (nI V.ne), .ref (a 11), .ref (a 12), .ref (a 13), .ref (a 14), .long V.fo, .int V.fl])), ((a 0), .inl (cI, 2, .inl (fun z9 => nI (V.mn z9)))), ((a 1), .inl (cI, 400, .inl (fun z9 => nI (V.pre z9)))), ((a 2), .inl (cI, 400, .inl (fun z9 => nI (V.len z9)))), ((a 3), .inl (cI, 400, .inl (fun z9 => pI (V.par z9)))), ((a 4), .inl (cI, 400, .inl (fun z9 => nI (V.lev z9)))), ((a 5), .inl (cI, 400, .inl (fun z9 => nI (V.hol z9)))), ((a 6), .inl (cI, 400, .inl (fun z9 => nI (V.sta z9)))), ((a 7), .inl (cI, 400, .inl (fun z9 => nI (V.en z9)))), ((a 8), .inl (cI, 2, .inl (fun z9 => nI (V.tdy z9)))), ((a 9), .inl (cI, 2, .inl (fun z9 => nI (V.dys z9)))), ((a 10), .inl (cI, 8, .inl (fun z9 => nI (V.pol z9)))), ((a 11), .inl (cI, 300, .inl V.kd)), ((a 12), .inl (cI, 300, .inl V.fi)), ((a 13), .inl (cI, 300, .inl V.se)), ((a 14), .inl (cI, 300, .inl V.th))] := hD
  refine lv_aload_n hx hb d_Mo_transfer_58 rfl (lv_at hl 0 rfl) ?_
  refine va_get (D := (dC, dI)) (ci := 5) (v := .int 1) (C := R_Mo) (T := F_Mo) (N := 19) hx hb hts u_Mo hown hK hP 0 rfl rfl 0 (by decide) (hts _ kw_714) (fun _ h9 => h9) rfl d_Mo_transfer_59 ?_
  refine lv_if_le hx hb d_Mo_transfer_62 rfl (fun h9 => absurd h9 (by decide)) (fun _ => ?_)
  refine lv_iconst (v := 0) hx hb d_Mo_transfer_65 (by decide) ?_
  have e9 : moTra V x w = (mkV V.mn V.pre V.len V.lev V.hol V.sta V.en V.tdy V.dys V.pol V.par V.kd V.fi V.se V.th V.ne 1 V.fo V.fl) := by unfold moTra; rw [if_neg h7]
  have e8 : moTraR V x w = 0 := by unfold moTraR; rw [if_neg (fun q => h7 q.1.1.1)]
  have hP9 : va_P (dC, dI) classes (wMo cI o a (moTra V x w)) H := by rw [e9]; exact hP
  have hD9 : va_D A (wMo cI o a (moTra V x w)) := by rw [e9]; exact hD
  exact W.iret (v := 0) hx hb hr (fun t ht hW => ⟨⟨0, (), rfl, (by first | (rw [e8]; done) | (rw [e8]; rfl)), by rw [ht]; exact hP9, va_K.moved hW.alike hK, hD9⟩, hS.F ht⟩) hS.2.2 d_Mo_transfer_66
set_option maxHeartbeats 4000000 in
set_option maxRecDepth 100000 in
theorem c_Mo_isMet (l : Launch) (dC : Nat → ClassId) (dI : Nat → Nat → Nat) (cI : ClassId) (o : Nat) (a : Nat → Nat) (V : MS) (hV : MSok V) (b d : Nat) (hd : d < 2) (hod : b = 200 * d) (r : Nat) (hr0 : r < 400) (hlev : V.lev r < 4) : Met l y_Mo_isMet (.code y_Mo_isMet b_Mo_isMet 6 (some .boolean) :: wG) ({ frames := 3, cells := 0, slots := 0, locals := 67 }) (PcS (dC, dI) [(cI, .int)] (wMo cI o a V) [.ref o, .int (nI b), .int (nI r)]) (vp_Si (fun r9 => r9 = bi (meN V b d r))) 0 0 (fun _ => False) := by
  refine Met.ofW (cc := b_Mo_isMet) (maxL := 6) (ret := (some .boolean)) (by decide) rfl ?_
  intro pg eg s mg ag bg meth cg s₁ B hml hv
  obtain ⟨rfl, hP, hK, hN⟩ := hv
  have hx := B.exec
  have hb := B.bytes
  have hr := B.returns
  have hlocks := B.notSynchronized
  have hts : ∀ w9 ∈ wG, w9.before ([.ref o, .int (nI b), .int (nI r)] : List Value).toArray s = true := fun w9 h9 => atoms_spec (ws := (.code y_Mo_isMet b_Mo_isMet 6 (some .boolean) :: wG)) B.pre w9 (List.mem_cons_of_mem _ h9)
  have hown : s.vm.findClass "PrefixRegistryModel" = some mg.cls := findClass_of_methodNamed B.named
  have hP : va_P (dC, dI) classes (wMo cI o a V) s.heap := hP
  have hl := lv_entry ([.ref o, .int (nI b), .int (nI r)]) (n := 6) (Nat.le_of_ble_eq_true rfl)
  rw [lg_entry_eq]
  generalize (lg_sl ([.ref o, .int (nI b), .int (nI r)]) ++ List.replicate (6 - (lg_sl ([.ref o, .int (nI b), .int (nI r)])).length) Slot.unset).toArray = ls at hl ⊢
  replace hl : lv_has ls 6 [(0, .ref o), (1, .int (nI b)), (2, .int (nI r))] := hl
  refine lv_aload_n hx hb d_Mo_isMet_0 rfl (lv_at hl 0 rfl) ?_
  refine va_get (D := (dC, dI)) (ci := 5) (v := .ref (a 10)) (C := R_Mo) (T := F_Mo) (N := 19) hx hb hts u_Mo hown hK hP 0 rfl rfl 11 (by decide) (hts _ kw_725) (fun _ h9 => h9) rfl d_Mo_isMet_1 ?_
  refine lv_iconst (v := 4) hx hb d_Mo_isMet_4 (by decide) ?_
  refine lv_iload_n hx hb d_Mo_isMet_5 rfl (lv_at hl 1 rfl) ?_
  refine lv_sipush (v := 200) hx hb d_Mo_isMet_6 (by decide) ?_
  refine lv_idiv hx hb d_Mo_isMet_9 (by decide) ?_
  refine x_topi (y := (nI d)) (by rw [hod]; exact k_d200 d hd) ?_
  refine lv_imul hx hb d_Mo_isMet_10 ?_
  refine x_topi (y := (nI (4 * d))) (k_4d d hd) ?_
  refine lv_aload_n hx hb d_Mo_isMet_11 rfl (lv_at hl 0 rfl) ?_
  refine va_get (D := (dC, dI)) (ci := 5) (v := .ref (a 4)) (C := R_Mo) (T := F_Mo) (N := 19) hx hb hts u_Mo hown hK hP 0 rfl rfl 5 (by decide) (hts _ kw_719) (fun _ h9 => h9) rfl d_Mo_isMet_12 ?_
  refine lv_iload_n hx hb d_Mo_isMet_15 rfl (lv_at hl 2 rfl) ?_
  refine x_iald (j := r) (v := (nI (V.lev r))) hx hb hK hP 5 0 rfl rfl hr0 (by decide) rfl rfl d_Mo_isMet_16 ?_
  refine lv_iadd hx hb d_Mo_isMet_17 ?_
  refine x_topi (y := (nI (4 * d + V.lev r))) (nI_add _ _) ?_
  refine x_iald (j := 4 * d + V.lev r) (v := (nI (V.pol (4 * d + V.lev r)))) hx hb hK hP 11 0 rfl rfl (by omega) (by decide) rfl rfl d_Mo_isMet_18 ?_
  refine lv_istore_n hx hb d_Mo_isMet_19 rfl hl (by decide) rfl (fun ls hl => ?_)
  replace hl : lv_has ls 6 [(3, .int (nI (V.pol (4 * d + V.lev r)))), (0, .ref o), (1, .int (nI b)), (2, .int (nI r))] := hl
  refine lv_iconst (v := 1) hx hb d_Mo_isMet_20 (by decide) ?_
  refine lv_istore hx hb d_Mo_isMet_21 hl (by decide) rfl (fun ls hl => ?_)
  replace hl : lv_has ls 6 [(4, .int 1), (3, .int (nI (V.pol (4 * d + V.lev r)))), (0, .ref o), (1, .int (nI b)), (2, .int (nI r))] := hl
  refine lv_iload_n hx hb d_Mo_isMet_23 rfl (lv_at hl 3 rfl) ?_
  refine lv_istore hx hb d_Mo_isMet_24 hl (by decide) rfl (fun ls hl => ?_)
  replace hl : lv_has ls 6 [(5, .int (nI b)), (4, .int 1), (3, .int (nI (V.pol (4 * d + V.lev r)))), (0, .ref o), (1, .int (nI b)), (2, .int (nI r))] := hl
  obtain ⟨i, hi0⟩ : ∃ i : Nat, i = b := ⟨_, rfl⟩
  obtain ⟨k, hk0⟩ : ∃ k : Nat, k = (b + V.mn d) - b := ⟨_, rfl⟩
  obtain ⟨ac, hac⟩ : ∃ ac : Bool, ac = true := ⟨_, rfl⟩
  have hres : meF V r (V.pol (4 * d + V.lev r)) i k ac = meF V r (V.pol (4 * d + V.lev r)) b (V.mn d) true := by rw [hi0, hk0, hac, Nat.add_sub_cancel_left]
  replace hl : lv_has ls 6 [(5, .int (nI i)), (4, .int (bi ac)), (3, .int (nI (V.pol (4 * d + V.lev r)))), (0, .ref o), (1, .int (nI b)), (2, .int (nI r))] := by subst hi0; subst hac; exact hl
  have hik : i + k = (b + V.mn d) := by omega
  clear hi0 hk0 hac
  replace hres := hres
  replace hl : lv_has ls 6 [(5, .int (nI i)), (4, .int (bi ac)), (3, .int (nI (V.pol (4 * d + V.lev r)))), (0, .ref o), (1, .int (nI b)), (2, .int (nI r))] := hl
  induction k generalizing i ls ac with
  | zero =>
    refine lv_iload hx hb d_Mo_isMet_26 (lv_at hl 0 rfl) ?_
    refine lv_iload_n hx hb d_Mo_isMet_28 rfl (lv_at hl 4 rfl) ?_
    refine lv_aload_n hx hb d_Mo_isMet_29 rfl (lv_at hl 3 rfl) ?_
    refine va_get (D := (dC, dI)) (ci := 5) (v := .ref (a 0)) (C := R_Mo) (T := F_Mo) (N := 19) hx hb hts u_Mo hown hK hP 0 rfl rfl 1 (by decide) (hts _ kw_715) (fun _ h9 => h9) rfl d_Mo_isMet_30 ?_
    refine lv_iload_n hx hb d_Mo_isMet_33 rfl (lv_at hl 4 rfl) ?_
    refine lv_sipush (v := 200) hx hb d_Mo_isMet_34 (by decide) ?_
    refine lv_idiv hx hb d_Mo_isMet_37 (by decide) ?_
    refine x_topi (y := (nI d)) (by rw [hod]; exact k_d200 d hd) ?_
    refine x_iald (j := d) (v := (nI (V.mn d))) hx hb hK hP 1 0 rfl rfl hd (by decide) rfl rfl d_Mo_isMet_38 ?_
    refine lv_iadd hx hb d_Mo_isMet_39 ?_
    refine x_topi (y := (nI (b + V.mn d))) (nI_add _ _) ?_
    refine lv_icmp_ge hx hb d_Mo_isMet_40 rfl (fun _ => ?_) (fun h9 => absurd (nI_le (by omega) (by have := hV.mn d; omega)) h9)
    refine lv_iload hx hb d_Mo_isMet_126 (lv_at hl 1 rfl) ?_
    exact W.zret (v := (bi ac)) hx hb hr (bi_nar _) (fun t ht hW => ⟨(bi ac), rfl, (by unfold meN; show bi ac = bi _; rw [← hres]; rfl), ht⟩) (fun q h => nomatch h) d_Mo_isMet_128
  | succ k ih =>
    refine lv_iload hx hb d_Mo_isMet_26 (lv_at hl 0 rfl) ?_
    refine lv_iload_n hx hb d_Mo_isMet_28 rfl (lv_at hl 4 rfl) ?_
    refine lv_aload_n hx hb d_Mo_isMet_29 rfl (lv_at hl 3 rfl) ?_
    refine va_get (D := (dC, dI)) (ci := 5) (v := .ref (a 0)) (C := R_Mo) (T := F_Mo) (N := 19) hx hb hts u_Mo hown hK hP 0 rfl rfl 1 (by decide) (hts _ kw_715) (fun _ h9 => h9) rfl d_Mo_isMet_30 ?_
    refine lv_iload_n hx hb d_Mo_isMet_33 rfl (lv_at hl 4 rfl) ?_
    refine lv_sipush (v := 200) hx hb d_Mo_isMet_34 (by decide) ?_
    refine lv_idiv hx hb d_Mo_isMet_37 (by decide) ?_
    refine x_topi (y := (nI d)) (by rw [hod]; exact k_d200 d hd) ?_
    refine x_iald (j := d) (v := (nI (V.mn d))) hx hb hK hP 1 0 rfl rfl hd (by decide) rfl rfl d_Mo_isMet_38 ?_
    refine lv_iadd hx hb d_Mo_isMet_39 ?_
    refine x_topi (y := (nI (b + V.mn d))) (nI_add _ _) ?_
    refine lv_icmp_ge hx hb d_Mo_isMet_40 rfl (fun h9 => absurd h9 (nI_ge (by omega) (by have := hV.mn d; omega))) (fun _ => ?_)
    refine lv_aload_n hx hb d_Mo_isMet_43 rfl (lv_at hl 3 rfl) ?_
    refine va_get (D := (dC, dI)) (ci := 5) (v := .ref (a 3)) (C := R_Mo) (T := F_Mo) (N := 19) hx hb hts u_Mo hown hK hP 0 rfl rfl 4 (by decide) (hts _ kw_718) (fun _ h9 => h9) rfl d_Mo_isMet_44 ?_
    refine lv_iload hx hb d_Mo_isMet_47 (lv_at hl 0 rfl) ?_
    refine x_iald (j := i) (v := (pI (V.par i))) hx hb hK hP 4 0 rfl rfl (by have := hV.mn d; omega) (by decide) rfl rfl d_Mo_isMet_49 ?_
    refine lv_iload_n hx hb d_Mo_isMet_50 rfl (lv_at hl 5 rfl) ?_
    refine lv_icmp_ne hx hb d_Mo_isMet_51 rfl (fun h51 => ?_) (fun h51 => ?_)
    · have h51 := mt (pI_eq (fun k q => by have := hV.par q; omega) (by omega)).mpr h51
      refine lv_iinc hx hb d_Mo_isMet_120 hl (k := 0) (v := (nI (i + 1))) rfl (nI_1 i) (by decide) rfl (fun ls hl => ?_)
      replace hl : lv_has ls 6 [(5, .int (nI (i + 1))), (4, .int (bi ac)), (3, .int (nI (V.pol (4 * d + V.lev r)))), (0, .ref o), (1, .int (nI b)), (2, .int (nI r))] := hl
      refine lv_goto hx hb d_Mo_isMet_123 rfl ?_
      refine ih _ _ _ ?_ ?_ hl
      · omega
      · exact (by rw [← hres]; simp only [meF]; rw [if_neg (fun q => h51 q.1)])
    have h51 := (pI_eq (fun k q => by have := hV.par q; omega) (by omega)).mp h51
    refine lv_aload_n hx hb d_Mo_isMet_54 rfl (lv_at hl 3 rfl) ?_
    refine va_get (D := (dC, dI)) (ci := 5) (v := .ref (a 6)) (C := R_Mo) (T := F_Mo) (N := 19) hx hb hts u_Mo hown hK hP 0 rfl rfl 7 (by decide) (hts _ kw_721) (fun _ h9 => h9) rfl d_Mo_isMet_55 ?_
    refine lv_iload hx hb d_Mo_isMet_58 (lv_at hl 0 rfl) ?_
    refine x_iald (j := i) (v := (nI (V.sta i))) hx hb hK hP 7 0 rfl rfl (by have := hV.mn d; omega) (by decide) rfl rfl d_Mo_isMet_60 ?_
    refine lv_iconst (v := 1) hx hb d_Mo_isMet_61 (by decide) ?_
    refine lv_icmp_ne hx hb d_Mo_isMet_62 rfl (fun h62 => ?_) (fun h62 => ?_)
    · have h62 := mt (k_eq (b := 1) (by have := hV.sta i; omega) (by decide)).mpr h62
      refine lv_iinc hx hb d_Mo_isMet_120 hl (k := 0) (v := (nI (i + 1))) rfl (nI_1 i) (by decide) rfl (fun ls hl => ?_)
      replace hl : lv_has ls 6 [(5, .int (nI (i + 1))), (4, .int (bi ac)), (3, .int (nI (V.pol (4 * d + V.lev r)))), (0, .ref o), (1, .int (nI b)), (2, .int (nI r))] := hl
      refine lv_goto hx hb d_Mo_isMet_123 rfl ?_
      refine ih _ _ _ ?_ ?_ hl
      · omega
      · exact (by rw [← hres]; simp only [meF]; rw [if_neg (fun q => h62 q.2.1)])
    have h62 := (k_eq (b := 1) (by have := hV.sta i; omega) (by decide)).mp h62
    refine lv_aload_n hx hb d_Mo_isMet_65 rfl (lv_at hl 3 rfl) ?_
    refine va_get (D := (dC, dI)) (ci := 5) (v := .ref (a 5)) (C := R_Mo) (T := F_Mo) (N := 19) hx hb hts u_Mo hown hK hP 0 rfl rfl 6 (by decide) (hts _ kw_720) (fun _ h9 => h9) rfl d_Mo_isMet_66 ?_
    refine lv_iload hx hb d_Mo_isMet_69 (lv_at hl 0 rfl) ?_
    refine x_iald (j := i) (v := (nI (V.hol i))) hx hb hK hP 6 0 rfl rfl (by have := hV.mn d; omega) (by decide) rfl rfl d_Mo_isMet_71 ?_
    refine lv_aload_n hx hb d_Mo_isMet_72 rfl (lv_at hl 3 rfl) ?_
    refine va_get (D := (dC, dI)) (ci := 5) (v := .ref (a 5)) (C := R_Mo) (T := F_Mo) (N := 19) hx hb hts u_Mo hown hK hP 0 rfl rfl 6 (by decide) (hts _ kw_720) (fun _ h9 => h9) rfl d_Mo_isMet_73 ?_
    refine lv_iload_n hx hb d_Mo_isMet_76 rfl (lv_at hl 5 rfl) ?_
    refine x_iald (j := r) (v := (nI (V.hol r))) hx hb hK hP 6 0 rfl rfl hr0 (by decide) rfl rfl d_Mo_isMet_77 ?_
    refine lv_icmp_ne hx hb d_Mo_isMet_78 rfl (fun h78 => ?_) (fun h78 => ?_)
    · have h78 := mt (k_eq (by have := hV.hol i; omega) (by have := hV.hol r; omega)).mpr h78
      refine lv_iinc hx hb d_Mo_isMet_120 hl (k := 0) (v := (nI (i + 1))) rfl (nI_1 i) (by decide) rfl (fun ls hl => ?_)
      replace hl : lv_has ls 6 [(5, .int (nI (i + 1))), (4, .int (bi ac)), (3, .int (nI (V.pol (4 * d + V.lev r)))), (0, .ref o), (1, .int (nI b)), (2, .int (nI r))] := hl
      refine lv_goto hx hb d_Mo_isMet_123 rfl ?_
      refine ih _ _ _ ?_ ?_ hl
      · omega
      · exact (by rw [← hres]; simp only [meF]; rw [if_neg (fun q => h78 q.2.2)])
    have h78 := (k_eq (by have := hV.hol i; omega) (by have := hV.hol r; omega)).mp h78
    refine lv_iload hx hb d_Mo_isMet_81 (lv_at hl 1 rfl) ?_
    refine lv_if_eq hx hb d_Mo_isMet_83 rfl (fun h83 => ?_) (fun h83 => ?_)
    · have h83 : ac = false := bi_eq0.mp h83
      refine lv_iconst (v := 0) hx hb d_Mo_isMet_117 (by decide) ?_
      refine x_topi (y := (bi false)) rfl ?_
      refine lv_istore hx hb d_Mo_isMet_118 hl (by decide) rfl (fun ls hl => ?_)
      replace hl : lv_has ls 6 [(4, .int (bi false)), (5, .int (nI i)), (3, .int (nI (V.pol (4 * d + V.lev r)))), (0, .ref o), (1, .int (nI b)), (2, .int (nI r))] := hl
      refine lv_iinc hx hb d_Mo_isMet_120 hl (k := 1) (v := (nI (i + 1))) rfl (nI_1 i) (by decide) rfl (fun ls hl => ?_)
      replace hl : lv_has ls 6 [(5, .int (nI (i + 1))), (4, .int (bi false)), (3, .int (nI (V.pol (4 * d + V.lev r)))), (0, .ref o), (1, .int (nI b)), (2, .int (nI r))] := hl
      refine lv_goto hx hb d_Mo_isMet_123 rfl ?_
      refine ih _ _ _ ?_ ?_ hl
      · omega
      · exact (by rw [← hres]; simp only [meF]; rw [if_pos ⟨h51, h62, h78⟩, h83]; rfl)
    have h83 : ac = true := bi_n0 h83
    refine lv_aload_n hx hb d_Mo_isMet_86 rfl (lv_at hl 3 rfl) ?_
    refine lv_iload hx hb d_Mo_isMet_87 (lv_at hl 0 rfl) ?_
    refine vp_callSl (W.runV (b := o) (As := [.int (nI i)]) (rest := []) ⟨hx, hb, hml, hown, hts⟩ (c_Mo_usedOf l dC dI cI o a V hV i (by have := hV.mn d; omega)) (cwV 1 hts (gV kw_829 kw_831 ks_31 kw_6 kw_832) rfl rfl rfl (by decide +kernel) ⟨Nat.le_of_ble_eq_true rfl, Nat.le_of_ble_eq_true rfl⟩) ⟨PcS.blind, va_recv (q0 := 0) hK hP rfl rfl, PcS.use hP hK hN⟩ rfl rfl hl.1 rfl (lv_room (Nat.le_of_ble_eq_true rfl)) d_Mo_isMet_89 ⟨Nat.zero_le _, Nat.zero_le _⟩) (fun r89 hr89 => ?_)
    obtain rfl : r89 = (lN (usN V i)) := hr89
    refine lv_ldc2 hx hb hown (hts _ kw_848) d_Mo_isMet_92 ?_
    refine lv_lmul hx hb d_Mo_isMet_95 ?_
    refine x_topl (y := (lN (usN V i * 1000))) (lN_mul _ 1000) ?_
    refine lv_aload_n hx hb d_Mo_isMet_96 rfl (lv_at hl 3 rfl) ?_
    refine va_get (D := (dC, dI)) (ci := 5) (v := .ref (a 2)) (C := R_Mo) (T := F_Mo) (N := 19) hx hb hts u_Mo hown hK hP 0 rfl rfl 3 (by decide) (hts _ kw_717) (fun _ h9 => h9) rfl d_Mo_isMet_97 ?_
    refine lv_iload hx hb d_Mo_isMet_100 (lv_at hl 0 rfl) ?_
    refine x_iald (j := i) (v := (nI (V.len i))) hx hb hK hP 3 0 rfl rfl (by have := hV.mn d; omega) (by decide) rfl rfl d_Mo_isMet_102 ?_
    refine vp_callSl (W.runS (As := [.int (nI (V.len i))]) (rest := [.long (lN (usN V i * 1000))]) ⟨hx, hb, hml, hown, hts⟩ (c_Mo_sizeOf l dC dI (V.len i) (hV.len _)) (cwS 1 hts (gS kw_845 kw_846 kw_6 kw_847) rfl rfl rfl (by decide +kernel) ⟨Nat.le_of_ble_eq_true rfl, Nat.le_of_ble_eq_true rfl⟩) ⟨PcS.blind, PcS.use hP hK hN⟩ rfl rfl hl.1 rfl (lv_room (Nat.le_of_ble_eq_true rfl)) d_Mo_isMet_103 ⟨Nat.zero_le _, Nat.zero_le _⟩) (fun r103 hr103 => ?_)
    obtain rfl : r103 = (lN (2 ^ (32 - (V.len i)))) := hr103
    refine lv_iload_n hx hb d_Mo_isMet_106 rfl (lv_at hl 2 rfl) ?_
    refine lv_i2l hx hb d_Mo_isMet_107 rfl ?_
    refine x_topl (y := (lN (V.pol (4 * d + V.lev r)))) (nI_l (by have := hV.pol (4 * d + V.lev r); omega)) ?_
    refine lv_lmul hx hb d_Mo_isMet_108 ?_
    refine x_topl (y := (lN (2 ^ (32 - V.len i) * (V.pol (4 * d + V.lev r))))) (lN_mul _ _) ?_
    refine W.lcmp hx hb d_Mo_isMet_109 ?_
    refine lv_if_lt hx hb d_Mo_isMet_110 rfl (fun h110 => ?_) (fun h110 => ?_)
    · have h110 := (k_clt (by have := usN_le hV i; omega) (sz_pol hV _ _)).mp h110
      refine lv_iconst (v := 0) hx hb d_Mo_isMet_117 (by decide) ?_
      refine x_topi (y := (bi false)) rfl ?_
      refine lv_istore hx hb d_Mo_isMet_118 hl (by decide) rfl (fun ls hl => ?_)
      replace hl : lv_has ls 6 [(4, .int (bi false)), (5, .int (nI i)), (3, .int (nI (V.pol (4 * d + V.lev r)))), (0, .ref o), (1, .int (nI b)), (2, .int (nI r))] := hl
      refine lv_iinc hx hb d_Mo_isMet_120 hl (k := 1) (v := (nI (i + 1))) rfl (nI_1 i) (by decide) rfl (fun ls hl => ?_)
      replace hl : lv_has ls 6 [(5, .int (nI (i + 1))), (4, .int (bi false)), (3, .int (nI (V.pol (4 * d + V.lev r)))), (0, .ref o), (1, .int (nI b)), (2, .int (nI r))] := hl
      refine lv_goto hx hb d_Mo_isMet_123 rfl ?_
      refine ih _ _ _ ?_ ?_ hl
      · omega
      · exact (by rw [← hres]; simp only [meF]; rw [if_pos ⟨h51, h62, h78⟩, h83, decide_eq_false (by omega)]; rfl)
    have h110 := mt (k_clt (by have := usN_le hV i; omega) (sz_pol hV _ _)).mpr h110
    refine lv_iconst (v := 1) hx hb d_Mo_isMet_113 (by decide) ?_
    refine x_topi (y := (bi true)) rfl ?_
    refine lv_goto hx hb d_Mo_isMet_114 rfl ?_
    refine lv_istore hx hb d_Mo_isMet_118 hl (by decide) rfl (fun ls hl => ?_)
    replace hl : lv_has ls 6 [(4, .int (bi true)), (5, .int (nI i)), (3, .int (nI (V.pol (4 * d + V.lev r)))), (0, .ref o), (1, .int (nI b)), (2, .int (nI r))] := hl
    refine lv_iinc hx hb d_Mo_isMet_120 hl (k := 1) (v := (nI (i + 1))) rfl (nI_1 i) (by decide) rfl (fun ls hl => ?_)
    replace hl : lv_has ls 6 [(5, .int (nI (i + 1))), (4, .int (bi true)), (3, .int (nI (V.pol (4 * d + V.lev r)))), (0, .ref o), (1, .int (nI b)), (2, .int (nI r))] := hl
    refine lv_goto hx hb d_Mo_isMet_123 rfl ?_
    refine ih _ _ _ ?_ ?_ hl
    · omega
    · exact (by rw [← hres]; simp only [meF]; rw [if_pos ⟨h51, h62, h78⟩, h83, decide_eq_true (by omega)]; rfl)
set_option maxHeartbeats 4000000 in
set_option maxRecDepth 100000 in
theorem c_Mo_nextBlock (l : Launch) (dC : Nat → ClassId) (dI : Nat → Nat → Nat) (sz : Nat) (cI : ClassId) (o : Nat) (a : Nat → Nat) (V : MS) (hV : MSok V) (t : Nat) (fo : Int64) (fl : Int32) (r : Nat) (hr0 : r < 400) (f : Nat) (hf0 : f ≤ 8589934592) (hst : (V.pre r + 2 ^ (32 - V.len r)) ≤ 4294967296) : Met l y_Mo_nextBlock (.code y_Mo_nextBlock b_Mo_nextBlock 10 (some .boolean) :: wG) ({ frames := 4, cells := 0, slots := 0, locals := 91 }) (PcM (dC, dI) [(cI, .int)] (wMo cI o a (vFn V t fo fl)) [.ref o, .int (nI r), .long (lN f)] sz) (QmI (dC, dI) [(cI, .int)] (wMo cI o a (vFn V t fo fl)) (wMo cI o a (vNx V t fo fl r f)) sz (bi (decide (skN V r f < (V.pre r + 2 ^ (32 - V.len r)))))) 0 0 (va_A (wMo cI o a (vFn V t fo fl)) sz) := by
  refine Met.ofW (cc := b_Mo_nextBlock) (maxL := 10) (ret := (some .boolean)) (by decide) rfl ?_
  intro pg eg s mg ag bg meth cg s₁ B hml hv
  obtain ⟨rfl, hsz, hP, hK, hD0, hN⟩ := hv
  have hx := B.exec
  have hb := B.bytes
  have hr := B.returns
  have hlocks := B.notSynchronized
  have hts : ∀ w9 ∈ wG, w9.before ([.ref o, .int (nI r), .long (lN f)] : List Value).toArray s = true := fun w9 h9 => atoms_spec (ws := (.code y_Mo_nextBlock b_Mo_nextBlock 10 (some .boolean) :: wG)) B.pre w9 (List.mem_cons_of_mem _ h9)
  have hown : s.vm.findClass "PrefixRegistryModel" = some mg.cls := findClass_of_methodNamed B.named
  subst hsz
  have hD := hD0.self (sz := s.heap.size)
  unfold QmI
  generalize hAe : va_A (wMo cI o a (vFn V t fo fl)) s.heap.size = A at hD ⊢
  have hA : ∀ q : Nat, s.heap.size ≤ q → A q := fun q h => by rw [← hAe]; exact Or.inr h
  have hS : va_S A s.heap s.heap [] := va_S.rf
  have hl := lv_entry ([.ref o, .int (nI r), .long (lN f)]) (n := 10) (Nat.le_of_ble_eq_true rfl)
  rw [lg_entry_eq]
  generalize (lg_sl ([.ref o, .int (nI r), .long (lN f)]) ++ List.replicate (10 - (lg_sl ([.ref o, .int (nI r), .long (lN f)])).length) Slot.unset).toArray = ls at hl ⊢
  replace hl : lv_has ls 10 [(0, .ref o), (1, .int (nI r)), (2, .long (lN f))] := hl
  replace hP : va_P (dC, dI) classes (wMo cI o a (vFn V t fo fl)) s.heap := hP
  replace hD : va_D A (wMo cI o a (vFn V t fo fl)) := hD
  have hpw := k_pow (n := V.len r)
  refine lv_lload_n hx hb d_Mo_nextBlock_0 rfl (lv_at hl 2 rfl) ?_
  refine lv_lstore hx hb d_Mo_nextBlock_1 hl (by decide) rfl (fun ls hl => ?_)
  replace hl : lv_has ls 10 [(4, .long (lN f)), (0, .ref o), (1, .int (nI r)), (2, .long (lN f))] := hl
  refine lv_aload_n hx hb d_Mo_nextBlock_3 rfl (lv_at hl 1 rfl) ?_
  refine va_get (D := (dC, dI)) (ci := 5) (v := .ref (a 1)) (C := R_Mo) (T := F_Mo) (N := 19) hx hb hts u_Mo hown hK hP 0 rfl rfl 2 (by decide) (hts _ kw_716) (fun _ h9 => h9) rfl d_Mo_nextBlock_4 ?_
  refine lv_iload_n hx hb d_Mo_nextBlock_7 rfl (lv_at hl 2 rfl) ?_
  refine x_iald (j := r) (v := (nI (V.pre r))) hx hb hK hP 2 0 rfl rfl hr0 (by decide) rfl rfl d_Mo_nextBlock_8 ?_
  refine lv_i2l hx hb d_Mo_nextBlock_9 rfl ?_
  refine lv_ldc2 hx hb hown (hts _ kw_858) d_Mo_nextBlock_10 ?_
  refine lv_land hx hb d_Mo_nextBlock_13 ?_
  refine x_topl (y := (lN (V.pre r))) (k_start (hV.pre r)) ?_
  refine lv_aload_n hx hb d_Mo_nextBlock_14 rfl (lv_at hl 1 rfl) ?_
  refine va_get (D := (dC, dI)) (ci := 5) (v := .ref (a 2)) (C := R_Mo) (T := F_Mo) (N := 19) hx hb hts u_Mo hown hK hP 0 rfl rfl 3 (by decide) (hts _ kw_717) (fun _ h9 => h9) rfl d_Mo_nextBlock_15 ?_
  refine lv_iload_n hx hb d_Mo_nextBlock_18 rfl (lv_at hl 2 rfl) ?_
  refine x_iald (j := r) (v := (nI (V.len r))) hx hb hK hP 3 0 rfl rfl hr0 (by decide) rfl rfl d_Mo_nextBlock_19 ?_
  refine vp_callSl (W.runS (As := [.int (nI (V.len r))]) (rest := [.long (lN (V.pre r))]) ⟨hx, hb, hml, hown, hts⟩ (c_Mo_sizeOf l dC dI (V.len r) (hV.len _)) (cwS 1 hts (gS kw_845 kw_846 kw_6 kw_847) rfl rfl rfl (by decide +kernel) ⟨Nat.le_of_ble_eq_true rfl, Nat.le_of_ble_eq_true rfl⟩) ⟨PcS.blind, PcS.use hP hK hN⟩ rfl rfl hl.1 rfl (lv_room (Nat.le_of_ble_eq_true rfl)) d_Mo_nextBlock_20 ⟨Nat.zero_le _, Nat.zero_le _⟩) (fun r20 hr20 => ?_)
  obtain rfl : r20 = (lN (2 ^ (32 - (V.len r)))) := hr20
  refine lv_ladd hx hb d_Mo_nextBlock_23 ?_
  refine x_topl (y := (lN (V.pre r + 2 ^ (32 - V.len r)))) (lN_add _ _) ?_
  refine lv_lstore hx hb d_Mo_nextBlock_24 hl (by decide) rfl (fun ls hl => ?_)
  replace hl : lv_has ls 10 [(6, .long (lN (V.pre r + 2 ^ (32 - V.len r)))), (4, .long (lN f)), (0, .ref o), (1, .int (nI r)), (2, .long (lN f))] := hl
  refine lv_lload hx hb d_Mo_nextBlock_26 (lv_at hl 1 rfl) ?_
  refine lv_lload hx hb d_Mo_nextBlock_28 (lv_at hl 0 rfl) ?_
  refine W.lcmp hx hb d_Mo_nextBlock_30 ?_
  refine lv_if_ge hx hb d_Mo_nextBlock_31 rfl (fun h31 => ?_) (fun h31 => ?_)
  · have h31 := (k_cge (by omega) (by omega)).mp h31
    refine lv_iconst (v := (-1)) hx hb d_Mo_nextBlock_47 (by decide) ?_
    refine x_topi (y := (pI none)) rfl ?_
    refine lv_istore hx hb d_Mo_nextBlock_48 hl (by decide) rfl (fun ls hl => ?_)
    replace hl : lv_has ls 10 [(8, .int (pI none)), (6, .long (lN (V.pre r + 2 ^ (32 - V.len r)))), (4, .long (lN f)), (0, .ref o), (1, .int (nI r)), (2, .long (lN f))] := hl
    obtain ⟨tq, htq⟩ : ∃ tq : Option Nat, tq = none := ⟨_, rfl⟩
    obtain ⟨a9, ha9⟩ : ∃ a9 : Nat, a9 = f := ⟨_, rfl⟩
    obtain ⟨k, hk0⟩ : ∃ k : Nat, k = (V.pre r + 2 ^ (32 - V.len r)) := ⟨_, rfl⟩
    replace hl : lv_has ls 10 [(8, .int (pI tq)), (6, .long (lN (V.pre r + 2 ^ (32 - V.len r)))), (4, .long (lN a9)), (0, .ref o), (1, .int (nI r)), (2, .long (lN f))] := by subst htq; subst ha9; exact hl
    have htl : ∀ j, tq = some j → j < 400 := by intro j q; rw [htq] at q; exact nomatch q
    replace htq : a9 < (V.pre r + 2 ^ (32 - V.len r)) → tq = tkN V r a9 32 := by intro q; omega
    have hres : skF V r k a9 = skN V r f := by rw [hk0, ha9]; rfl
    have hak : (V.pre r + 2 ^ (32 - V.len r)) ≤ a9 + k := by omega
    have hab : a9 ≤ 8589934592 := by omega
    clear ha9 hk0
    replace hak := hak
    replace hab := hab
    replace hres := hres
    replace htq := htq
    replace htl := htl
    replace hl : lv_has ls 10 [(8, .int (pI tq)), (6, .long (lN (V.pre r + 2 ^ (32 - V.len r)))), (4, .long (lN a9)), (0, .ref o), (1, .int (nI r)), (2, .long (lN f))] := hl
    induction k generalizing a9 tq ls with
    | zero =>
      refine lv_lload hx hb d_Mo_nextBlock_50 (lv_at hl 2 rfl) ?_
      refine lv_lload hx hb d_Mo_nextBlock_52 (lv_at hl 1 rfl) ?_
      refine W.lcmp hx hb d_Mo_nextBlock_54 ?_
      refine lv_if_ge hx hb d_Mo_nextBlock_55 rfl (fun h55 => ?_) (fun h9 => absurd ((k_cge (by omega) (by omega)).mpr (by omega)) h9)
      refine lv_lload hx hb d_Mo_nextBlock_115 (lv_at hl 2 rfl) ?_
      refine lv_lload hx hb d_Mo_nextBlock_117 (lv_at hl 1 rfl) ?_
      refine W.lcmp hx hb d_Mo_nextBlock_119 ?_
      refine lv_if_lt hx hb d_Mo_nextBlock_120 rfl (fun h9 => absurd h9 (fun q => absurd ((k_clt (by omega) (by omega)).mp q) (by omega))) (fun _ => ?_)
      refine lv_iconst (v := 0) hx hb d_Mo_nextBlock_123 (by decide) ?_
      have hsk : skN V r f = a9 := hres.symm.trans (skF_ge (by omega))
      have e9 : vNx V t fo fl r f = vFn V t fo fl := by unfold vNx; rw [hsk, if_neg (by omega)]
      have e8 : bi (decide (skN V r f < (V.pre r + 2 ^ (32 - V.len r)))) = 0 := bi_d.mpr (by omega)
      have hP9 : va_P (dC, dI) classes (wMo cI o a (vNx V t fo fl r f)) s.heap := by rw [e9]; exact hP
      have hD9 : va_D A (wMo cI o a (vNx V t fo fl r f)) := by rw [e9]; exact hD
      exact W.zret (v := 0) hx hb hr (by decide) (fun t ht hW => ⟨⟨0, (), rfl, e8.symm, by rw [ht]; exact hP9, va_K.moved hW.alike hK, hD9⟩, hS.F ht⟩) hS.2.2 d_Mo_nextBlock_124
    | succ k ih =>
      refine lv_lload hx hb d_Mo_nextBlock_50 (lv_at hl 2 rfl) ?_
      refine lv_lload hx hb d_Mo_nextBlock_52 (lv_at hl 1 rfl) ?_
      refine W.lcmp hx hb d_Mo_nextBlock_54 ?_
      refine lv_if_ge hx hb d_Mo_nextBlock_55 rfl (fun h55 => ?_) (fun h55 => ?_)
      · have h55 := (k_cge (by omega) (by omega)).mp h55
        refine lv_lload hx hb d_Mo_nextBlock_115 (lv_at hl 2 rfl) ?_
        refine lv_lload hx hb d_Mo_nextBlock_117 (lv_at hl 1 rfl) ?_
        refine W.lcmp hx hb d_Mo_nextBlock_119 ?_
        refine lv_if_lt hx hb d_Mo_nextBlock_120 rfl (fun h9 => absurd h9 (fun q => absurd ((k_clt (by omega) (by omega)).mp q) (by omega))) (fun _ => ?_)
        refine lv_iconst (v := 0) hx hb d_Mo_nextBlock_123 (by decide) ?_
        have hsk : skN V r f = a9 := hres.symm.trans (skF_ge (by omega))
        have e9 : vNx V t fo fl r f = vFn V t fo fl := by unfold vNx; rw [hsk, if_neg (by omega)]
        have e8 : bi (decide (skN V r f < (V.pre r + 2 ^ (32 - V.len r)))) = 0 := bi_d.mpr (by omega)
        have hP9 : va_P (dC, dI) classes (wMo cI o a (vNx V t fo fl r f)) s.heap := by rw [e9]; exact hP
        have hD9 : va_D A (wMo cI o a (vNx V t fo fl r f)) := by rw [e9]; exact hD
        exact W.zret (v := 0) hx hb hr (by decide) (fun t ht hW => ⟨⟨0, (), rfl, e8.symm, by rw [ht]; exact hP9, va_K.moved hW.alike hK, hD9⟩, hS.F ht⟩) hS.2.2 d_Mo_nextBlock_124
      have h55 := mt (k_cge (by omega) (by omega)).mpr h55
      refine lv_iload hx hb d_Mo_nextBlock_58 (lv_at hl 0 rfl) ?_
      refine lv_if_lt hx hb d_Mo_nextBlock_60 rfl (fun h60 => ?_) (fun h60 => ?_)
      · have h60 := (pI_lt0 (fun j q => by have := htl j q; omega)).mp h60
        refine lv_lload hx hb d_Mo_nextBlock_115 (lv_at hl 2 rfl) ?_
        refine lv_lload hx hb d_Mo_nextBlock_117 (lv_at hl 1 rfl) ?_
        refine W.lcmp hx hb d_Mo_nextBlock_119 ?_
        refine lv_if_lt hx hb d_Mo_nextBlock_120 rfl (fun _ => ?_) (fun h9 => absurd ((k_clt (by omega) (by omega)).mpr (by omega)) h9)
        have hsk : skN V r f = a9 := by rw [← hres]; exact skF_none (by omega) ((htq (by omega)).symm.trans h60)
        refine lv_bipush (v := 32) hx hb d_Mo_nextBlock_125 (by decide) ?_
        refine lv_istore hx hb d_Mo_nextBlock_127 hl (by decide) rfl (fun ls hl => ?_)
        replace hl : lv_has ls 10 [(9, .int 32), (8, .int (pI tq)), (6, .long (lN (V.pre r + 2 ^ (32 - V.len r)))), (4, .long (lN a9)), (0, .ref o), (1, .int (nI r)), (2, .long (lN f))] := hl
        obtain ⟨n9, hn0⟩ : ∃ n9 : Nat, n9 = 32 := ⟨_, rfl⟩
        replace hl : lv_has ls 10 [(9, .int (nI n9)), (8, .int (pI tq)), (6, .long (lN (V.pre r + 2 ^ (32 - V.len r)))), (4, .long (lN a9)), (0, .ref o), (1, .int (nI r)), (2, .long (lN f))] := by subst hn0; exact hl
        have hbl : blF V r a9 n9 = blF V r a9 32 := by rw [hn0]
        have hn9 : n9 ≤ 32 := by omega
        clear hn0
        replace hn9 := hn9
        replace hbl := hbl
        replace hl : lv_has ls 10 [(9, .int (nI n9)), (8, .int (pI tq)), (6, .long (lN (V.pre r + 2 ^ (32 - V.len r)))), (4, .long (lN a9)), (0, .ref o), (1, .int (nI r)), (2, .long (lN f))] := hl
        induction n9 generalizing ls with
        | zero =>
          replace hl : lv_has ls 10 [(9, .int (nI 0)), (8, .int (pI tq)), (6, .long (lN (V.pre r + 2 ^ (32 - V.len r)))), (4, .long (lN a9)), (0, .ref o), (1, .int (nI r)), (2, .long (lN f))] := hl
          refine lv_iload hx hb d_Mo_nextBlock_129 (lv_at hl 0 rfl) ?_
          refine lv_if_le hx hb d_Mo_nextBlock_131 rfl (fun _ => ?_) (fun h9 => absurd (by decide) h9)
          refine lv_aload_n hx hb d_Mo_nextBlock_171 rfl (lv_at hl 4 rfl) ?_
          refine lv_lload hx hb d_Mo_nextBlock_172 (lv_at hl 3 rfl) ?_
          refine va_put (D := (dC, dI)) (ci := 5) (v := .long (lN a9)) (ty := .long) (C := R_Mo) (T := F_Mo) (N := 19) hx hb hts u_Mo t_Mo t_Mo_ok n_Mo hown hK hP hD hS 0 rfl rfl 17 (by decide) (hts _ kw_731) (fun _ h9 => h9) rfl (by decide +kernel) rfl rfl (Nat.le_of_ble_eq_true rfl) d_Mo_nextBlock_174 (fun H locs hP hD hS => ?_)
          replace hP : va_P (dC, dI) classes [(o, .inr (5, [.int (nI t), .ref (a 0), .ref (a 1), .ref (a 2), .ref (a 3), .ref (a 4), .ref (a 5), .ref (a 6), .ref (a 7), .ref (a 8), .ref (a 9), .ref (a 10), .int (nI V.ne), .ref (a 11), .ref (a 12), .ref (a 13), .ref (a 14), .long (lN a9), .int fl])), ((a 0), .inl (cI, 2, .inl (fun z9 => nI (V.mn z9)))), ((a 1), .inl (cI, 400, .inl (fun z9 => nI (V.pre z9)))), ((a 2), .inl (cI, 400, .inl (fun z9 => nI (V.len z9)))), ((a 3), .inl (cI, 400, .inl (fun z9 => pI (V.par z9)))), ((a 4), .inl (cI, 400, .inl (fun z9 => nI (V.lev z9)))), ((a 5), .inl (cI, 400, .inl (fun z9 => nI (V.hol z9)))), ((a 6), .inl (cI, 400, .inl (fun z9 => nI (V.sta z9)))), ((a 7), .inl (cI, 400, .inl (fun z9 => nI (V.en z9)))), ((a 8), .inl (cI, 2, .inl (fun z9 => nI (V.tdy z9)))), ((a 9), .inl (cI, 2, .inl (fun z9 => nI (V.dys z9)))), ((a 10), .inl (cI, 8, .inl (fun z9 => nI (V.pol z9)))), ((a 11), .inl (cI, 300, .inl V.kd)), ((a 12), .inl (cI, 300, .inl V.fi)), ((a 13), .inl (cI, 300, .inl V.se)), ((a 14), .inl (cI, 300, .inl V.th))] H := hP
          replace hD : va_D A [(o, .inr (5, [.int (nI t), .ref (a 0), .ref (a 1), .ref (a 2), .ref (a 3), .ref (a 4), .ref (a 5), .ref (a 6), .ref (a 7), .ref (a 8), .ref (a 9), .ref (a 10), .int (nI V.ne), .ref (a 11), .ref (a 12), .ref (a 13), .ref (a 14), .long (lN a9), .int fl])), ((a 0), .inl (cI, 2, .inl (fun z9 => nI (V.mn z9)))), ((a 1), .inl (cI, 400, .inl (fun z9 => nI (V.pre z9)))), ((a 2), .inl (cI, 400, .inl (fun z9 => nI (V.len z9)))), ((a 3), .inl (cI, 400, .inl (fun z9 => pI (V.par z9)))), ((a 4), .inl (cI, 400, .inl (fun z9 => nI (V.lev z9)))), ((a 5), .inl (cI, 400, .inl (fun z9 => nI (V.hol z9)))), ((a 6), .inl (cI, 400, .inl (fun z9 => nI (V.sta z9)))), ((a 7), .inl (cI, 400, .inl (fun z9 => nI (V.en z9)))), ((a 8), .inl (cI, 2, .inl (fun z9 => nI (V.tdy z9)))), ((a 9), .inl (cI, 2, .inl (fun z9 => nI (V.dys z9)))), ((a 10), .inl (cI, 8, .inl (fun z9 => nI (V.pol z9)))), ((a 11), .inl (cI, 300, .inl V.kd)), ((a 12), .inl (cI, 300, .inl V.fi)), ((a 13), .inl (cI, 300, .inl V.se)), ((a 14), .inl (cI, 300, .inl V.th))] := hD
          refine lv_aload_n hx hb d_Mo_nextBlock_177 rfl (lv_at hl 4 rfl) ?_
          refine lv_iload hx hb d_Mo_nextBlock_178 (lv_at hl 0 rfl) ?_
          refine va_put (D := (dC, dI)) (ci := 5) (v := .int (nI 0)) (ty := .int) (C := R_Mo) (T := F_Mo) (N := 19) hx hb hts u_Mo t_Mo t_Mo_ok n_Mo hown hK hP hD hS 0 rfl rfl 18 (by decide) (hts _ kw_732) (fun _ h9 => h9) rfl (by decide +kernel) rfl rfl (Nat.le_of_ble_eq_true rfl) d_Mo_nextBlock_180 (fun H locs hP hD hS => ?_)
          replace hP : va_P (dC, dI) classes [(o, .inr (5, [.int (nI t), .ref (a 0), .ref (a 1), .ref (a 2), .ref (a 3), .ref (a 4), .ref (a 5), .ref (a 6), .ref (a 7), .ref (a 8), .ref (a 9), .ref (a 10), .int (nI V.ne), .ref (a 11), .ref (a 12), .ref (a 13), .ref (a 14), .long (lN a9), .int (nI 0)])), ((a 0), .inl (cI, 2, .inl (fun z9 => nI (V.mn z9)))), ((a 1), .inl (cI, 400, .inl (fun z9 => nI (V.pre z9)))), ((a 2), .inl (cI, 400, .inl (fun z9 => nI (V.len z9)))), ((a 3), .inl (cI, 400, .inl (fun z9 => pI (V.par z9)))), ((a 4), .inl (cI, 400, .inl (fun z9 => nI (V.lev z9)))), ((a 5), .inl (cI, 400, .inl (fun z9 => nI (V.hol z9)))), ((a 6), .inl (cI, 400, .inl (fun z9 => nI (V.sta z9)))), ((a 7), .inl (cI, 400, .inl (fun z9 => nI (V.en z9)))), ((a 8), .inl (cI, 2, .inl (fun z9 => nI (V.tdy z9)))), ((a 9), .inl (cI, 2, .inl (fun z9 => nI (V.dys z9)))), ((a 10), .inl (cI, 8, .inl (fun z9 => nI (V.pol z9)))), ((a 11), .inl (cI, 300, .inl V.kd)), ((a 12), .inl (cI, 300, .inl V.fi)), ((a 13), .inl (cI, 300, .inl V.se)), ((a 14), .inl (cI, 300, .inl V.th))] H := hP
          replace hD : va_D A [(o, .inr (5, [.int (nI t), .ref (a 0), .ref (a 1), .ref (a 2), .ref (a 3), .ref (a 4), .ref (a 5), .ref (a 6), .ref (a 7), .ref (a 8), .ref (a 9), .ref (a 10), .int (nI V.ne), .ref (a 11), .ref (a 12), .ref (a 13), .ref (a 14), .long (lN a9), .int (nI 0)])), ((a 0), .inl (cI, 2, .inl (fun z9 => nI (V.mn z9)))), ((a 1), .inl (cI, 400, .inl (fun z9 => nI (V.pre z9)))), ((a 2), .inl (cI, 400, .inl (fun z9 => nI (V.len z9)))), ((a 3), .inl (cI, 400, .inl (fun z9 => pI (V.par z9)))), ((a 4), .inl (cI, 400, .inl (fun z9 => nI (V.lev z9)))), ((a 5), .inl (cI, 400, .inl (fun z9 => nI (V.hol z9)))), ((a 6), .inl (cI, 400, .inl (fun z9 => nI (V.sta z9)))), ((a 7), .inl (cI, 400, .inl (fun z9 => nI (V.en z9)))), ((a 8), .inl (cI, 2, .inl (fun z9 => nI (V.tdy z9)))), ((a 9), .inl (cI, 2, .inl (fun z9 => nI (V.dys z9)))), ((a 10), .inl (cI, 8, .inl (fun z9 => nI (V.pol z9)))), ((a 11), .inl (cI, 300, .inl V.kd)), ((a 12), .inl (cI, 300, .inl V.fi)), ((a 13), .inl (cI, 300, .inl V.se)), ((a 14), .inl (cI, 300, .inl V.th))] := hD
          refine lv_iconst (v := 1) hx hb d_Mo_nextBlock_183 (by decide) ?_
          have hb9 : blF V r a9 32 = 0 := by rw [← hbl]; rfl
          have e9 : vNx V t fo fl r f = vFn V t (lN a9) (nI 0) := by unfold vNx; rw [hsk, if_pos (by omega), hb9]
          have e8 : bi (decide (skN V r f < (V.pre r + 2 ^ (32 - V.len r)))) = 1 := by rw [decide_eq_true (show skN V r f < (V.pre r + 2 ^ (32 - V.len r)) by omega)]; rfl
          have hP9 : va_P (dC, dI) classes (wMo cI o a (vNx V t fo fl r f)) H := by rw [e9]; exact hP
          have hD9 : va_D A (wMo cI o a (vNx V t fo fl r f)) := by rw [e9]; exact hD
          exact W.zret (v := 1) hx hb hr (by decide) (fun t ht hW => ⟨⟨1, (), rfl, e8.symm, by rw [ht]; exact hP9, va_K.moved hW.alike hK, hD9⟩, hS.F ht⟩) hS.2.2 d_Mo_nextBlock_184
        | succ n9 ih9 =>
          replace hl : lv_has ls 10 [(9, .int (nI (n9 + 1))), (8, .int (pI tq)), (6, .long (lN (V.pre r + 2 ^ (32 - V.len r)))), (4, .long (lN a9)), (0, .ref o), (1, .int (nI r)), (2, .long (lN f))] := hl
          refine lv_iload hx hb d_Mo_nextBlock_129 (lv_at hl 0 rfl) ?_
          refine lv_if_le hx hb d_Mo_nextBlock_131 rfl (fun h9 => absurd h9 (nI_nle (by omega) (by omega))) (fun _ => ?_)
          refine lv_lload hx hb d_Mo_nextBlock_134 (lv_at hl 3 rfl) ?_
          refine lv_l2i hx hb d_Mo_nextBlock_136 rfl ?_
          refine x_topi (y := (nI a9)) (lN_i _) ?_
          refine lv_iload hx hb d_Mo_nextBlock_137 (lv_at hl 0 rfl) ?_
          refine lv_iconst (v := 1) hx hb d_Mo_nextBlock_139 (by decide) ?_
          refine lv_isub hx hb d_Mo_nextBlock_140 ?_
          refine x_topi (y := (nI n9)) (nI_pred n9) ?_
          refine vp_callSi (W.runS (As := [.int (nI n9)]) (rest := [.int (nI a9)]) ⟨hx, hb, hml, hown, hts⟩ (c_Mo_mask l dC dI n9 (by omega)) (cwS 1 hts (gS kw_787 kw_788 kw_6 kw_789) rfl rfl rfl (by decide +kernel) ⟨Nat.le_of_ble_eq_true rfl, Nat.le_of_ble_eq_true rfl⟩) ⟨PcS.blind, PcS.use hP hK hN⟩ rfl rfl hl.1 rfl (lv_room (Nat.le_of_ble_eq_true rfl)) d_Mo_nextBlock_141 ⟨Nat.zero_le _, Nat.zero_le _⟩) (fun r141 hr141 => ?_)
          obtain rfl : r141 = (nI (mskN n9)) := hr141
          refine lv_iconst (v := (-1)) hx hb d_Mo_nextBlock_144 (by decide) ?_
          refine lv_ixor hx hb d_Mo_nextBlock_145 ?_
          refine lv_iand hx hb d_Mo_nextBlock_146 ?_
          refine x_topi (y := (nI (a9 % 2 ^ (32 - n9)))) (k_low (by omega) (by omega)) ?_
          refine lv_if_ne hx hb d_Mo_nextBlock_147 rfl (fun h147 => ?_) (fun h147 => ?_)
          · have h147 := mt (k_eq (b := 0) (by have := Nat.mod_le a9 (2 ^ (32 - n9)); omega) (by decide)).mpr h147
            refine lv_aload_n hx hb d_Mo_nextBlock_171 rfl (lv_at hl 4 rfl) ?_
            refine lv_lload hx hb d_Mo_nextBlock_172 (lv_at hl 3 rfl) ?_
            refine va_put (D := (dC, dI)) (ci := 5) (v := .long (lN a9)) (ty := .long) (C := R_Mo) (T := F_Mo) (N := 19) hx hb hts u_Mo t_Mo t_Mo_ok n_Mo hown hK hP hD hS 0 rfl rfl 17 (by decide) (hts _ kw_731) (fun _ h9 => h9) rfl (by decide +kernel) rfl rfl (Nat.le_of_ble_eq_true rfl) d_Mo_nextBlock_174 (fun H locs hP hD hS => ?_)
            replace hP : va_P (dC, dI) classes [(o, .inr (5, [.int (nI t), .ref (a 0), .ref (a 1), .ref (a 2), .ref (a 3), .ref (a 4), .ref (a 5), .ref (a 6), .ref (a 7), .ref (a 8), .ref (a 9), .ref (a 10), .int (nI V.ne), .ref (a 11), .ref (a 12), .ref (a 13), .ref (a 14), .long (lN a9), .int fl])), ((a 0), .inl (cI, 2, .inl (fun z9 => nI (V.mn z9)))), ((a 1), .inl (cI, 400, .inl (fun z9 => nI (V.pre z9)))), ((a 2), .inl (cI, 400, .inl (fun z9 => nI (V.len z9)))), ((a 3), .inl (cI, 400, .inl (fun z9 => pI (V.par z9)))), ((a 4), .inl (cI, 400, .inl (fun z9 => nI (V.lev z9)))), ((a 5), .inl (cI, 400, .inl (fun z9 => nI (V.hol z9)))), ((a 6), .inl (cI, 400, .inl (fun z9 => nI (V.sta z9)))), ((a 7), .inl (cI, 400, .inl (fun z9 => nI (V.en z9)))), ((a 8), .inl (cI, 2, .inl (fun z9 => nI (V.tdy z9)))), ((a 9), .inl (cI, 2, .inl (fun z9 => nI (V.dys z9)))), ((a 10), .inl (cI, 8, .inl (fun z9 => nI (V.pol z9)))), ((a 11), .inl (cI, 300, .inl V.kd)), ((a 12), .inl (cI, 300, .inl V.fi)), ((a 13), .inl (cI, 300, .inl V.se)), ((a 14), .inl (cI, 300, .inl V.th))] H := hP
            replace hD : va_D A [(o, .inr (5, [.int (nI t), .ref (a 0), .ref (a 1), .ref (a 2), .ref (a 3), .ref (a 4), .ref (a 5), .ref (a 6), .ref (a 7), .ref (a 8), .ref (a 9), .ref (a 10), .int (nI V.ne), .ref (a 11), .ref (a 12), .ref (a 13), .ref (a 14), .long (lN a9), .int fl])), ((a 0), .inl (cI, 2, .inl (fun z9 => nI (V.mn z9)))), ((a 1), .inl (cI, 400, .inl (fun z9 => nI (V.pre z9)))), ((a 2), .inl (cI, 400, .inl (fun z9 => nI (V.len z9)))), ((a 3), .inl (cI, 400, .inl (fun z9 => pI (V.par z9)))), ((a 4), .inl (cI, 400, .inl (fun z9 => nI (V.lev z9)))), ((a 5), .inl (cI, 400, .inl (fun z9 => nI (V.hol z9)))), ((a 6), .inl (cI, 400, .inl (fun z9 => nI (V.sta z9)))), ((a 7), .inl (cI, 400, .inl (fun z9 => nI (V.en z9)))), ((a 8), .inl (cI, 2, .inl (fun z9 => nI (V.tdy z9)))), ((a 9), .inl (cI, 2, .inl (fun z9 => nI (V.dys z9)))), ((a 10), .inl (cI, 8, .inl (fun z9 => nI (V.pol z9)))), ((a 11), .inl (cI, 300, .inl V.kd)), ((a 12), .inl (cI, 300, .inl V.fi)), ((a 13), .inl (cI, 300, .inl V.se)), ((a 14), .inl (cI, 300, .inl V.th))] := hD
            refine lv_aload_n hx hb d_Mo_nextBlock_177 rfl (lv_at hl 4 rfl) ?_
            refine lv_iload hx hb d_Mo_nextBlock_178 (lv_at hl 0 rfl) ?_
            refine va_put (D := (dC, dI)) (ci := 5) (v := .int (nI (n9 + 1))) (ty := .int) (C := R_Mo) (T := F_Mo) (N := 19) hx hb hts u_Mo t_Mo t_Mo_ok n_Mo hown hK hP hD hS 0 rfl rfl 18 (by decide) (hts _ kw_732) (fun _ h9 => h9) rfl (by decide +kernel) rfl rfl (Nat.le_of_ble_eq_true rfl) d_Mo_nextBlock_180 (fun H locs hP hD hS => ?_)
            replace hP : va_P (dC, dI) classes [(o, .inr (5, [.int (nI t), .ref (a 0), .ref (a 1), .ref (a 2), .ref (a 3), .ref (a 4), .ref (a 5), .ref (a 6), .ref (a 7), .ref (a 8), .ref (a 9), .ref (a 10), .int (nI V.ne), .ref (a 11), .ref (a 12), .ref (a 13), .ref (a 14), .long (lN a9), .int (nI (n9 + 1))])), ((a 0), .inl (cI, 2, .inl (fun z9 => nI (V.mn z9)))), ((a 1), .inl (cI, 400, .inl (fun z9 => nI (V.pre z9)))), ((a 2), .inl (cI, 400, .inl (fun z9 => nI (V.len z9)))), ((a 3), .inl (cI, 400, .inl (fun z9 => pI (V.par z9)))), ((a 4), .inl (cI, 400, .inl (fun z9 => nI (V.lev z9)))), ((a 5), .inl (cI, 400, .inl (fun z9 => nI (V.hol z9)))), ((a 6), .inl (cI, 400, .inl (fun z9 => nI (V.sta z9)))), ((a 7), .inl (cI, 400, .inl (fun z9 => nI (V.en z9)))), ((a 8), .inl (cI, 2, .inl (fun z9 => nI (V.tdy z9)))), ((a 9), .inl (cI, 2, .inl (fun z9 => nI (V.dys z9)))), ((a 10), .inl (cI, 8, .inl (fun z9 => nI (V.pol z9)))), ((a 11), .inl (cI, 300, .inl V.kd)), ((a 12), .inl (cI, 300, .inl V.fi)), ((a 13), .inl (cI, 300, .inl V.se)), ((a 14), .inl (cI, 300, .inl V.th))] H := hP
            replace hD : va_D A [(o, .inr (5, [.int (nI t), .ref (a 0), .ref (a 1), .ref (a 2), .ref (a 3), .ref (a 4), .ref (a 5), .ref (a 6), .ref (a 7), .ref (a 8), .ref (a 9), .ref (a 10), .int (nI V.ne), .ref (a 11), .ref (a 12), .ref (a 13), .ref (a 14), .long (lN a9), .int (nI (n9 + 1))])), ((a 0), .inl (cI, 2, .inl (fun z9 => nI (V.mn z9)))), ((a 1), .inl (cI, 400, .inl (fun z9 => nI (V.pre z9)))), ((a 2), .inl (cI, 400, .inl (fun z9 => nI (V.len z9)))), ((a 3), .inl (cI, 400, .inl (fun z9 => pI (V.par z9)))), ((a 4), .inl (cI, 400, .inl (fun z9 => nI (V.lev z9)))), ((a 5), .inl (cI, 400, .inl (fun z9 => nI (V.hol z9)))), ((a 6), .inl (cI, 400, .inl (fun z9 => nI (V.sta z9)))), ((a 7), .inl (cI, 400, .inl (fun z9 => nI (V.en z9)))), ((a 8), .inl (cI, 2, .inl (fun z9 => nI (V.tdy z9)))), ((a 9), .inl (cI, 2, .inl (fun z9 => nI (V.dys z9)))), ((a 10), .inl (cI, 8, .inl (fun z9 => nI (V.pol z9)))), ((a 11), .inl (cI, 300, .inl V.kd)), ((a 12), .inl (cI, 300, .inl V.fi)), ((a 13), .inl (cI, 300, .inl V.se)), ((a 14), .inl (cI, 300, .inl V.th))] := hD
            refine lv_iconst (v := 1) hx hb d_Mo_nextBlock_183 (by decide) ?_
            have hb9 : blF V r a9 32 = (n9 + 1) := by rw [← hbl]; simp only [blF]; rw [if_neg (fun q => h147 q.1)]
            have e9 : vNx V t fo fl r f = vFn V t (lN a9) (nI (n9 + 1)) := by unfold vNx; rw [hsk, if_pos (by omega), hb9]
            have e8 : bi (decide (skN V r f < (V.pre r + 2 ^ (32 - V.len r)))) = 1 := by rw [decide_eq_true (show skN V r f < (V.pre r + 2 ^ (32 - V.len r)) by omega)]; rfl
            have hP9 : va_P (dC, dI) classes (wMo cI o a (vNx V t fo fl r f)) H := by rw [e9]; exact hP
            have hD9 : va_D A (wMo cI o a (vNx V t fo fl r f)) := by rw [e9]; exact hD
            exact W.zret (v := 1) hx hb hr (by decide) (fun t ht hW => ⟨⟨1, (), rfl, e8.symm, by rw [ht]; exact hP9, va_K.moved hW.alike hK, hD9⟩, hS.F ht⟩) hS.2.2 d_Mo_nextBlock_184
          have h147 := (k_eq (b := 0) (by have := Nat.mod_le a9 (2 ^ (32 - n9)); omega) (by decide)).mp h147
          refine lv_aload_n hx hb d_Mo_nextBlock_150 rfl (lv_at hl 4 rfl) ?_
          refine lv_iload_n hx hb d_Mo_nextBlock_151 rfl (lv_at hl 5 rfl) ?_
          refine lv_lload hx hb d_Mo_nextBlock_152 (lv_at hl 3 rfl) ?_
          refine lv_l2i hx hb d_Mo_nextBlock_154 rfl ?_
          refine x_topi (y := (nI a9)) (lN_i _) ?_
          refine lv_iload hx hb d_Mo_nextBlock_155 (lv_at hl 0 rfl) ?_
          refine lv_iconst (v := 1) hx hb d_Mo_nextBlock_157 (by decide) ?_
          refine lv_isub hx hb d_Mo_nextBlock_158 ?_
          refine x_topi (y := (nI n9)) (nI_pred n9) ?_
          refine vp_callSi (W.runV (b := o) (As := [.int (nI r), .int (nI a9), .int (nI n9)]) (rest := []) ⟨hx, hb, hml, hown, hts⟩ (c_Mo_isFree l dC dI cI o a (vFn V t fo fl) hV r hr0 a9 n9 (by omega) (by omega)) (cwV 3 hts (gV kw_867 kw_869 ks_39 kw_6 kw_870) rfl rfl rfl (by decide +kernel) ⟨Nat.le_of_ble_eq_true rfl, Nat.le_of_ble_eq_true rfl⟩) ⟨PcS.blind, va_recv (q0 := 0) hK hP rfl rfl, PcS.use hP hK hN⟩ rfl rfl hl.1 rfl (lv_room (Nat.le_of_ble_eq_true rfl)) d_Mo_nextBlock_159 ⟨Nat.zero_le _, Nat.zero_le _⟩) (fun r159 hr159 => ?_)
          obtain rfl : r159 = (bi (decide (frA V r a9 n9))) := hr159
          refine lv_if_eq hx hb d_Mo_nextBlock_162 rfl (fun h162 => ?_) (fun h162 => ?_)
          · have h162 := bi_d.mp h162
            refine lv_aload_n hx hb d_Mo_nextBlock_171 rfl (lv_at hl 4 rfl) ?_
            refine lv_lload hx hb d_Mo_nextBlock_172 (lv_at hl 3 rfl) ?_
            refine va_put (D := (dC, dI)) (ci := 5) (v := .long (lN a9)) (ty := .long) (C := R_Mo) (T := F_Mo) (N := 19) hx hb hts u_Mo t_Mo t_Mo_ok n_Mo hown hK hP hD hS 0 rfl rfl 17 (by decide) (hts _ kw_731) (fun _ h9 => h9) rfl (by decide +kernel) rfl rfl (Nat.le_of_ble_eq_true rfl) d_Mo_nextBlock_174 (fun H locs hP hD hS => ?_)
            replace hP : va_P (dC, dI) classes [(o, .inr (5, [.int (nI t), .ref (a 0), .ref (a 1), .ref (a 2), .ref (a 3), .ref (a 4), .ref (a 5), .ref (a 6), .ref (a 7), .ref (a 8), .ref (a 9), .ref (a 10), .int (nI V.ne), .ref (a 11), .ref (a 12), .ref (a 13), .ref (a 14), .long (lN a9), .int fl])), ((a 0), .inl (cI, 2, .inl (fun z9 => nI (V.mn z9)))), ((a 1), .inl (cI, 400, .inl (fun z9 => nI (V.pre z9)))), ((a 2), .inl (cI, 400, .inl (fun z9 => nI (V.len z9)))), ((a 3), .inl (cI, 400, .inl (fun z9 => pI (V.par z9)))), ((a 4), .inl (cI, 400, .inl (fun z9 => nI (V.lev z9)))), ((a 5), .inl (cI, 400, .inl (fun z9 => nI (V.hol z9)))), ((a 6), .inl (cI, 400, .inl (fun z9 => nI (V.sta z9)))), ((a 7), .inl (cI, 400, .inl (fun z9 => nI (V.en z9)))), ((a 8), .inl (cI, 2, .inl (fun z9 => nI (V.tdy z9)))), ((a 9), .inl (cI, 2, .inl (fun z9 => nI (V.dys z9)))), ((a 10), .inl (cI, 8, .inl (fun z9 => nI (V.pol z9)))), ((a 11), .inl (cI, 300, .inl V.kd)), ((a 12), .inl (cI, 300, .inl V.fi)), ((a 13), .inl (cI, 300, .inl V.se)), ((a 14), .inl (cI, 300, .inl V.th))] H := hP
            replace hD : va_D A [(o, .inr (5, [.int (nI t), .ref (a 0), .ref (a 1), .ref (a 2), .ref (a 3), .ref (a 4), .ref (a 5), .ref (a 6), .ref (a 7), .ref (a 8), .ref (a 9), .ref (a 10), .int (nI V.ne), .ref (a 11), .ref (a 12), .ref (a 13), .ref (a 14), .long (lN a9), .int fl])), ((a 0), .inl (cI, 2, .inl (fun z9 => nI (V.mn z9)))), ((a 1), .inl (cI, 400, .inl (fun z9 => nI (V.pre z9)))), ((a 2), .inl (cI, 400, .inl (fun z9 => nI (V.len z9)))), ((a 3), .inl (cI, 400, .inl (fun z9 => pI (V.par z9)))), ((a 4), .inl (cI, 400, .inl (fun z9 => nI (V.lev z9)))), ((a 5), .inl (cI, 400, .inl (fun z9 => nI (V.hol z9)))), ((a 6), .inl (cI, 400, .inl (fun z9 => nI (V.sta z9)))), ((a 7), .inl (cI, 400, .inl (fun z9 => nI (V.en z9)))), ((a 8), .inl (cI, 2, .inl (fun z9 => nI (V.tdy z9)))), ((a 9), .inl (cI, 2, .inl (fun z9 => nI (V.dys z9)))), ((a 10), .inl (cI, 8, .inl (fun z9 => nI (V.pol z9)))), ((a 11), .inl (cI, 300, .inl V.kd)), ((a 12), .inl (cI, 300, .inl V.fi)), ((a 13), .inl (cI, 300, .inl V.se)), ((a 14), .inl (cI, 300, .inl V.th))] := hD
            refine lv_aload_n hx hb d_Mo_nextBlock_177 rfl (lv_at hl 4 rfl) ?_
            refine lv_iload hx hb d_Mo_nextBlock_178 (lv_at hl 0 rfl) ?_
            refine va_put (D := (dC, dI)) (ci := 5) (v := .int (nI (n9 + 1))) (ty := .int) (C := R_Mo) (T := F_Mo) (N := 19) hx hb hts u_Mo t_Mo t_Mo_ok n_Mo hown hK hP hD hS 0 rfl rfl 18 (by decide) (hts _ kw_732) (fun _ h9 => h9) rfl (by decide +kernel) rfl rfl (Nat.le_of_ble_eq_true rfl) d_Mo_nextBlock_180 (fun H locs hP hD hS => ?_)
            replace hP : va_P (dC, dI) classes [(o, .inr (5, [.int (nI t), .ref (a 0), .ref (a 1), .ref (a 2), .ref (a 3), .ref (a 4), .ref (a 5), .ref (a 6), .ref (a 7), .ref (a 8), .ref (a 9), .ref (a 10), .int (nI V.ne), .ref (a 11), .ref (a 12), .ref (a 13), .ref (a 14), .long (lN a9), .int (nI (n9 + 1))])), ((a 0), .inl (cI, 2, .inl (fun z9 => nI (V.mn z9)))), ((a 1), .inl (cI, 400, .inl (fun z9 => nI (V.pre z9)))), ((a 2), .inl (cI, 400, .inl (fun z9 => nI (V.len z9)))), ((a 3), .inl (cI, 400, .inl (fun z9 => pI (V.par z9)))), ((a 4), .inl (cI, 400, .inl (fun z9 => nI (V.lev z9)))), ((a 5), .inl (cI, 400, .inl (fun z9 => nI (V.hol z9)))), ((a 6), .inl (cI, 400, .inl (fun z9 => nI (V.sta z9)))), ((a 7), .inl (cI, 400, .inl (fun z9 => nI (V.en z9)))), ((a 8), .inl (cI, 2, .inl (fun z9 => nI (V.tdy z9)))), ((a 9), .inl (cI, 2, .inl (fun z9 => nI (V.dys z9)))), ((a 10), .inl (cI, 8, .inl (fun z9 => nI (V.pol z9)))), ((a 11), .inl (cI, 300, .inl V.kd)), ((a 12), .inl (cI, 300, .inl V.fi)), ((a 13), .inl (cI, 300, .inl V.se)), ((a 14), .inl (cI, 300, .inl V.th))] H := hP
            replace hD : va_D A [(o, .inr (5, [.int (nI t), .ref (a 0), .ref (a 1), .ref (a 2), .ref (a 3), .ref (a 4), .ref (a 5), .ref (a 6), .ref (a 7), .ref (a 8), .ref (a 9), .ref (a 10), .int (nI V.ne), .ref (a 11), .ref (a 12), .ref (a 13), .ref (a 14), .long (lN a9), .int (nI (n9 + 1))])), ((a 0), .inl (cI, 2, .inl (fun z9 => nI (V.mn z9)))), ((a 1), .inl (cI, 400, .inl (fun z9 => nI (V.pre z9)))), ((a 2), .inl (cI, 400, .inl (fun z9 => nI (V.len z9)))), ((a 3), .inl (cI, 400, .inl (fun z9 => pI (V.par z9)))), ((a 4), .inl (cI, 400, .inl (fun z9 => nI (V.lev z9)))), ((a 5), .inl (cI, 400, .inl (fun z9 => nI (V.hol z9)))), ((a 6), .inl (cI, 400, .inl (fun z9 => nI (V.sta z9)))), ((a 7), .inl (cI, 400, .inl (fun z9 => nI (V.en z9)))), ((a 8), .inl (cI, 2, .inl (fun z9 => nI (V.tdy z9)))), ((a 9), .inl (cI, 2, .inl (fun z9 => nI (V.dys z9)))), ((a 10), .inl (cI, 8, .inl (fun z9 => nI (V.pol z9)))), ((a 11), .inl (cI, 300, .inl V.kd)), ((a 12), .inl (cI, 300, .inl V.fi)), ((a 13), .inl (cI, 300, .inl V.se)), ((a 14), .inl (cI, 300, .inl V.th))] := hD
            refine lv_iconst (v := 1) hx hb d_Mo_nextBlock_183 (by decide) ?_
            have hb9 : blF V r a9 32 = (n9 + 1) := by rw [← hbl]; simp only [blF]; rw [if_neg (fun q => h162 q.2)]
            have e9 : vNx V t fo fl r f = vFn V t (lN a9) (nI (n9 + 1)) := by unfold vNx; rw [hsk, if_pos (by omega), hb9]
            have e8 : bi (decide (skN V r f < (V.pre r + 2 ^ (32 - V.len r)))) = 1 := by rw [decide_eq_true (show skN V r f < (V.pre r + 2 ^ (32 - V.len r)) by omega)]; rfl
            have hP9 : va_P (dC, dI) classes (wMo cI o a (vNx V t fo fl r f)) H := by rw [e9]; exact hP
            have hD9 : va_D A (wMo cI o a (vNx V t fo fl r f)) := by rw [e9]; exact hD
            exact W.zret (v := 1) hx hb hr (by decide) (fun t ht hW => ⟨⟨1, (), rfl, e8.symm, by rw [ht]; exact hP9, va_K.moved hW.alike hK, hD9⟩, hS.F ht⟩) hS.2.2 d_Mo_nextBlock_184
          have h162 := Decidable.not_not.mp (mt bi_d.mpr h162)
          refine lv_iinc hx hb d_Mo_nextBlock_165 hl (k := 0) (v := (nI n9)) rfl (k_dec n9) (by decide) rfl (fun ls hl => ?_)
          replace hl : lv_has ls 10 [(9, .int (nI n9)), (8, .int (pI tq)), (6, .long (lN (V.pre r + 2 ^ (32 - V.len r)))), (4, .long (lN a9)), (0, .ref o), (1, .int (nI r)), (2, .long (lN f))] := hl
          refine lv_goto hx hb d_Mo_nextBlock_168 rfl ?_
          refine ih9 _ ?_ ?_ hl
          · omega
          · rw [← hbl]; simp only [blF]; rw [if_pos ⟨h147, h162⟩]
      have h60 := mt (pI_lt0 (fun j q => by have := htl j q; omega)).mpr h60
      obtain ⟨c, hc⟩ := Option.ne_none_iff_exists'.mp h60
      have hc4 : c < 400 := htl c hc
      replace hl : lv_has ls 10 [(8, .int (nI c)), (6, .long (lN (V.pre r + 2 ^ (32 - V.len r)))), (4, .long (lN a9)), (0, .ref o), (1, .int (nI r)), (2, .long (lN f))] := by rw [hc] at hl; exact hl
      have hgt : a9 < V.pre c + 2 ^ (32 - V.len c) := tk_gt ((htq (by omega)).symm.trans hc)
      have hp4 := hV.pre c
      have hpc := k_pow (n := V.len c)
      refine lv_aload_n hx hb d_Mo_nextBlock_63 rfl (lv_at hl 3 rfl) ?_
      refine va_get (D := (dC, dI)) (ci := 5) (v := .ref (a 1)) (C := R_Mo) (T := F_Mo) (N := 19) hx hb hts u_Mo hown hK hP 0 rfl rfl 2 (by decide) (hts _ kw_716) (fun _ h9 => h9) rfl d_Mo_nextBlock_64 ?_
      refine lv_iload hx hb d_Mo_nextBlock_67 (lv_at hl 0 rfl) ?_
      refine x_iald (j := c) (v := (nI (V.pre c))) hx hb hK hP 2 0 rfl rfl hc4 (by decide) rfl rfl d_Mo_nextBlock_69 ?_
      refine lv_i2l hx hb d_Mo_nextBlock_70 rfl ?_
      refine lv_ldc2 hx hb hown (hts _ kw_858) d_Mo_nextBlock_71 ?_
      refine lv_land hx hb d_Mo_nextBlock_74 ?_
      refine x_topl (y := (lN (V.pre c))) (k_start (hV.pre c)) ?_
      refine lv_aload_n hx hb d_Mo_nextBlock_75 rfl (lv_at hl 3 rfl) ?_
      refine va_get (D := (dC, dI)) (ci := 5) (v := .ref (a 2)) (C := R_Mo) (T := F_Mo) (N := 19) hx hb hts u_Mo hown hK hP 0 rfl rfl 3 (by decide) (hts _ kw_717) (fun _ h9 => h9) rfl d_Mo_nextBlock_76 ?_
      refine lv_iload hx hb d_Mo_nextBlock_79 (lv_at hl 0 rfl) ?_
      refine x_iald (j := c) (v := (nI (V.len c))) hx hb hK hP 3 0 rfl rfl hc4 (by decide) rfl rfl d_Mo_nextBlock_81 ?_
      refine vp_callSl (W.runS (As := [.int (nI (V.len c))]) (rest := [.long (lN (V.pre c))]) ⟨hx, hb, hml, hown, hts⟩ (c_Mo_sizeOf l dC dI (V.len c) (hV.len _)) (cwS 1 hts (gS kw_845 kw_846 kw_6 kw_847) rfl rfl rfl (by decide +kernel) ⟨Nat.le_of_ble_eq_true rfl, Nat.le_of_ble_eq_true rfl⟩) ⟨PcS.blind, PcS.use hP hK hN⟩ rfl rfl hl.1 rfl (lv_room (Nat.le_of_ble_eq_true rfl)) d_Mo_nextBlock_82 ⟨Nat.zero_le _, Nat.zero_le _⟩) (fun r82 hr82 => ?_)
      obtain rfl : r82 = (lN (2 ^ (32 - (V.len c)))) := hr82
      refine lv_ladd hx hb d_Mo_nextBlock_85 ?_
      refine x_topl (y := (lN (V.pre c + 2 ^ (32 - V.len c)))) (lN_add _ _) ?_
      refine lv_lstore hx hb d_Mo_nextBlock_86 hl (by decide) rfl (fun ls hl => ?_)
      replace hl : lv_has ls 10 [(4, .long (lN (V.pre c + 2 ^ (32 - V.len c)))), (8, .int (nI c)), (6, .long (lN (V.pre r + 2 ^ (32 - V.len r)))), (0, .ref o), (1, .int (nI r)), (2, .long (lN f))] := hl
      refine lv_lload hx hb d_Mo_nextBlock_88 (lv_at hl 0 rfl) ?_
      refine lv_lload hx hb d_Mo_nextBlock_90 (lv_at hl 2 rfl) ?_
      refine W.lcmp hx hb d_Mo_nextBlock_92 ?_
      refine lv_if_ge hx hb d_Mo_nextBlock_93 rfl (fun h93 => ?_) (fun h93 => ?_)
      · have h93 := (k_cge (by omega) (by omega)).mp h93
        refine lv_iconst (v := (-1)) hx hb d_Mo_nextBlock_109 (by decide) ?_
        refine x_topi (y := (pI none)) rfl ?_
        refine lv_istore hx hb d_Mo_nextBlock_110 hl (by decide) rfl (fun ls hl => ?_)
        replace hl : lv_has ls 10 [(8, .int (pI none)), (4, .long (lN (V.pre c + 2 ^ (32 - V.len c)))), (6, .long (lN (V.pre r + 2 ^ (32 - V.len r)))), (0, .ref o), (1, .int (nI r)), (2, .long (lN f))] := hl
        refine lv_goto hx hb d_Mo_nextBlock_112 rfl ?_
        refine ih _ none (V.pre c + 2 ^ (32 - V.len c)) ?_ ?_ ?_ ?_ ?_ (lv_sub hl [0, 2, 1, 3, 4, 5] rfl)
        · omega
        · omega
        · rw [← hres]; simp only [skF]; rw [if_pos (show a9 < (V.pre r + 2 ^ (32 - V.len r)) by omega), ← htq (by omega), hc]
        · intro q; exact absurd q (by omega)
        · intro j q; exact nomatch q
      have h93 := mt (k_cge (by omega) (by omega)).mpr h93
      refine lv_aload_n hx hb d_Mo_nextBlock_96 rfl (lv_at hl 3 rfl) ?_
      refine lv_iload_n hx hb d_Mo_nextBlock_97 rfl (lv_at hl 4 rfl) ?_
      refine lv_lload hx hb d_Mo_nextBlock_98 (lv_at hl 0 rfl) ?_
      refine lv_l2i hx hb d_Mo_nextBlock_100 rfl ?_
      refine x_topi (y := (nI (V.pre c + 2 ^ (32 - V.len c)))) (lN_i _) ?_
      refine lv_bipush (v := 32) hx hb d_Mo_nextBlock_101 (by decide) ?_
      refine vp_callSi (W.runV (b := o) (As := [.int (nI r), .int (nI (V.pre c + 2 ^ (32 - V.len c))), .int 32]) (rest := []) ⟨hx, hb, hml, hown, hts⟩ (c_Mo_taker l dC dI cI o a (vFn V t fo fl) hV r hr0 (V.pre c + 2 ^ (32 - V.len c)) 32 (by omega) (by decide)) (cwV 3 hts (gV kw_863 kw_865 ks_38 kw_6 kw_866) rfl rfl rfl (by decide +kernel) ⟨Nat.le_of_ble_eq_true rfl, Nat.le_of_ble_eq_true rfl⟩) ⟨PcS.blind, va_recv (q0 := 0) hK hP rfl rfl, PcS.use hP hK hN⟩ rfl rfl hl.1 rfl (lv_room (Nat.le_of_ble_eq_true rfl)) d_Mo_nextBlock_103 ⟨Nat.zero_le _, Nat.zero_le _⟩) (fun r103 hr103 => ?_)
      obtain rfl : r103 = (pI (tkN V r (V.pre c + 2 ^ (32 - V.len c)) 32)) := hr103
      refine lv_goto hx hb d_Mo_nextBlock_106 rfl ?_
      refine lv_istore hx hb d_Mo_nextBlock_110 hl (by decide) rfl (fun ls hl => ?_)
      replace hl : lv_has ls 10 [(8, .int (pI (tkN V r (V.pre c + 2 ^ (32 - V.len c)) 32))), (4, .long (lN (V.pre c + 2 ^ (32 - V.len c)))), (6, .long (lN (V.pre r + 2 ^ (32 - V.len r)))), (0, .ref o), (1, .int (nI r)), (2, .long (lN f))] := hl
      refine lv_goto hx hb d_Mo_nextBlock_112 rfl ?_
      refine ih _ (tkN V r (V.pre c + 2 ^ (32 - V.len c)) 32) (V.pre c + 2 ^ (32 - V.len c)) ?_ ?_ ?_ ?_ ?_ (lv_sub hl [0, 2, 1, 3, 4, 5] rfl)
      · omega
      · omega
      · rw [← hres]; simp only [skF]; rw [if_pos (show a9 < (V.pre r + 2 ^ (32 - V.len r)) by omega), ← htq (by omega), hc]
      · intro q; rfl
      · intro j q; exact tkN_lt hV q
  have h31 := mt (k_cge (by omega) (by omega)).mpr h31
  refine lv_aload_n hx hb d_Mo_nextBlock_34 rfl (lv_at hl 2 rfl) ?_
  refine lv_iload_n hx hb d_Mo_nextBlock_35 rfl (lv_at hl 3 rfl) ?_
  refine lv_lload hx hb d_Mo_nextBlock_36 (lv_at hl 1 rfl) ?_
  refine lv_l2i hx hb d_Mo_nextBlock_38 rfl ?_
  refine x_topi (y := (nI f)) (lN_i _) ?_
  refine lv_bipush (v := 32) hx hb d_Mo_nextBlock_39 (by decide) ?_
  refine vp_callSi (W.runV (b := o) (As := [.int (nI r), .int (nI f), .int 32]) (rest := []) ⟨hx, hb, hml, hown, hts⟩ (c_Mo_taker l dC dI cI o a (vFn V t fo fl) hV r hr0 f 32 (by omega) (by decide)) (cwV 3 hts (gV kw_863 kw_865 ks_38 kw_6 kw_866) rfl rfl rfl (by decide +kernel) ⟨Nat.le_of_ble_eq_true rfl, Nat.le_of_ble_eq_true rfl⟩) ⟨PcS.blind, va_recv (q0 := 0) hK hP rfl rfl, PcS.use hP hK hN⟩ rfl rfl hl.1 rfl (lv_room (Nat.le_of_ble_eq_true rfl)) d_Mo_nextBlock_41 ⟨Nat.zero_le _, Nat.zero_le _⟩) (fun r41 hr41 => ?_)
  obtain rfl : r41 = (pI (tkN V r f 32)) := hr41
  refine lv_goto hx hb d_Mo_nextBlock_44 rfl ?_
  refine lv_istore hx hb d_Mo_nextBlock_48 hl (by decide) rfl (fun ls hl => ?_)
  replace hl : lv_has ls 10 [(8, .int (pI (tkN V r f 32))), (6, .long (lN (V.pre r + 2 ^ (32 - V.len r)))), (4, .long (lN f)), (0, .ref o), (1, .int (nI r)), (2, .long (lN f))] := hl
  obtain ⟨tq, htq⟩ : ∃ tq : Option Nat, tq = tkN V r f 32 := ⟨_, rfl⟩
  obtain ⟨a9, ha9⟩ : ∃ a9 : Nat, a9 = f := ⟨_, rfl⟩
  obtain ⟨k, hk0⟩ : ∃ k : Nat, k = (V.pre r + 2 ^ (32 - V.len r)) := ⟨_, rfl⟩
  replace hl : lv_has ls 10 [(8, .int (pI tq)), (6, .long (lN (V.pre r + 2 ^ (32 - V.len r)))), (4, .long (lN a9)), (0, .ref o), (1, .int (nI r)), (2, .long (lN f))] := by subst htq; subst ha9; exact hl
  have htl : ∀ j, tq = some j → j < 400 := by intro j q; rw [htq] at q; exact tkN_lt hV q
  replace htq : a9 < (V.pre r + 2 ^ (32 - V.len r)) → tq = tkN V r a9 32 := by intro q; rw [htq, ha9]
  have hres : skF V r k a9 = skN V r f := by rw [hk0, ha9]; rfl
  have hak : (V.pre r + 2 ^ (32 - V.len r)) ≤ a9 + k := by omega
  have hab : a9 ≤ 8589934592 := by omega
  clear ha9 hk0
  replace hak := hak
  replace hab := hab
  replace hres := hres
  replace htq := htq
  replace htl := htl
  replace hl : lv_has ls 10 [(8, .int (pI tq)), (6, .long (lN (V.pre r + 2 ^ (32 - V.len r)))), (4, .long (lN a9)), (0, .ref o), (1, .int (nI r)), (2, .long (lN f))] := hl
  induction k generalizing a9 tq ls with
  | zero =>
    refine lv_lload hx hb d_Mo_nextBlock_50 (lv_at hl 2 rfl) ?_
    refine lv_lload hx hb d_Mo_nextBlock_52 (lv_at hl 1 rfl) ?_
    refine W.lcmp hx hb d_Mo_nextBlock_54 ?_
    refine lv_if_ge hx hb d_Mo_nextBlock_55 rfl (fun h55 => ?_) (fun h9 => absurd ((k_cge (by omega) (by omega)).mpr (by omega)) h9)
    refine lv_lload hx hb d_Mo_nextBlock_115 (lv_at hl 2 rfl) ?_
    refine lv_lload hx hb d_Mo_nextBlock_117 (lv_at hl 1 rfl) ?_
    refine W.lcmp hx hb d_Mo_nextBlock_119 ?_
    refine lv_if_lt hx hb d_Mo_nextBlock_120 rfl (fun h9 => absurd h9 (fun q => absurd ((k_clt (by omega) (by omega)).mp q) (by omega))) (fun _ => ?_)
    refine lv_iconst (v := 0) hx hb d_Mo_nextBlock_123 (by decide) ?_
    have hsk : skN V r f = a9 := hres.symm.trans (skF_ge (by omega))
    have e9 : vNx V t fo fl r f = vFn V t fo fl := by unfold vNx; rw [hsk, if_neg (by omega)]
    have e8 : bi (decide (skN V r f < (V.pre r + 2 ^ (32 - V.len r)))) = 0 := bi_d.mpr (by omega)
    have hP9 : va_P (dC, dI) classes (wMo cI o a (vNx V t fo fl r f)) s.heap := by rw [e9]; exact hP
    have hD9 : va_D A (wMo cI o a (vNx V t fo fl r f)) := by rw [e9]; exact hD
    exact W.zret (v := 0) hx hb hr (by decide) (fun t ht hW => ⟨⟨0, (), rfl, e8.symm, by rw [ht]; exact hP9, va_K.moved hW.alike hK, hD9⟩, hS.F ht⟩) hS.2.2 d_Mo_nextBlock_124
  | succ k ih =>
    refine lv_lload hx hb d_Mo_nextBlock_50 (lv_at hl 2 rfl) ?_
    refine lv_lload hx hb d_Mo_nextBlock_52 (lv_at hl 1 rfl) ?_
    refine W.lcmp hx hb d_Mo_nextBlock_54 ?_
    refine lv_if_ge hx hb d_Mo_nextBlock_55 rfl (fun h55 => ?_) (fun h55 => ?_)
    · have h55 := (k_cge (by omega) (by omega)).mp h55
      refine lv_lload hx hb d_Mo_nextBlock_115 (lv_at hl 2 rfl) ?_
      refine lv_lload hx hb d_Mo_nextBlock_117 (lv_at hl 1 rfl) ?_
      refine W.lcmp hx hb d_Mo_nextBlock_119 ?_
      refine lv_if_lt hx hb d_Mo_nextBlock_120 rfl (fun h9 => absurd h9 (fun q => absurd ((k_clt (by omega) (by omega)).mp q) (by omega))) (fun _ => ?_)
      refine lv_iconst (v := 0) hx hb d_Mo_nextBlock_123 (by decide) ?_
      have hsk : skN V r f = a9 := hres.symm.trans (skF_ge (by omega))
      have e9 : vNx V t fo fl r f = vFn V t fo fl := by unfold vNx; rw [hsk, if_neg (by omega)]
      have e8 : bi (decide (skN V r f < (V.pre r + 2 ^ (32 - V.len r)))) = 0 := bi_d.mpr (by omega)
      have hP9 : va_P (dC, dI) classes (wMo cI o a (vNx V t fo fl r f)) s.heap := by rw [e9]; exact hP
      have hD9 : va_D A (wMo cI o a (vNx V t fo fl r f)) := by rw [e9]; exact hD
      exact W.zret (v := 0) hx hb hr (by decide) (fun t ht hW => ⟨⟨0, (), rfl, e8.symm, by rw [ht]; exact hP9, va_K.moved hW.alike hK, hD9⟩, hS.F ht⟩) hS.2.2 d_Mo_nextBlock_124
    have h55 := mt (k_cge (by omega) (by omega)).mpr h55
    refine lv_iload hx hb d_Mo_nextBlock_58 (lv_at hl 0 rfl) ?_
    refine lv_if_lt hx hb d_Mo_nextBlock_60 rfl (fun h60 => ?_) (fun h60 => ?_)
    · have h60 := (pI_lt0 (fun j q => by have := htl j q; omega)).mp h60
      refine lv_lload hx hb d_Mo_nextBlock_115 (lv_at hl 2 rfl) ?_
      refine lv_lload hx hb d_Mo_nextBlock_117 (lv_at hl 1 rfl) ?_
      refine W.lcmp hx hb d_Mo_nextBlock_119 ?_
      refine lv_if_lt hx hb d_Mo_nextBlock_120 rfl (fun _ => ?_) (fun h9 => absurd ((k_clt (by omega) (by omega)).mpr (by omega)) h9)
      have hsk : skN V r f = a9 := by rw [← hres]; exact skF_none (by omega) ((htq (by omega)).symm.trans h60)
      refine lv_bipush (v := 32) hx hb d_Mo_nextBlock_125 (by decide) ?_
      refine lv_istore hx hb d_Mo_nextBlock_127 hl (by decide) rfl (fun ls hl => ?_)
      replace hl : lv_has ls 10 [(9, .int 32), (8, .int (pI tq)), (6, .long (lN (V.pre r + 2 ^ (32 - V.len r)))), (4, .long (lN a9)), (0, .ref o), (1, .int (nI r)), (2, .long (lN f))] := hl
      obtain ⟨n9, hn0⟩ : ∃ n9 : Nat, n9 = 32 := ⟨_, rfl⟩
      replace hl : lv_has ls 10 [(9, .int (nI n9)), (8, .int (pI tq)), (6, .long (lN (V.pre r + 2 ^ (32 - V.len r)))), (4, .long (lN a9)), (0, .ref o), (1, .int (nI r)), (2, .long (lN f))] := by subst hn0; exact hl
      have hbl : blF V r a9 n9 = blF V r a9 32 := by rw [hn0]
      have hn9 : n9 ≤ 32 := by omega
      clear hn0
      replace hn9 := hn9
      replace hbl := hbl
      replace hl : lv_has ls 10 [(9, .int (nI n9)), (8, .int (pI tq)), (6, .long (lN (V.pre r + 2 ^ (32 - V.len r)))), (4, .long (lN a9)), (0, .ref o), (1, .int (nI r)), (2, .long (lN f))] := hl
      induction n9 generalizing ls with
      | zero =>
        replace hl : lv_has ls 10 [(9, .int (nI 0)), (8, .int (pI tq)), (6, .long (lN (V.pre r + 2 ^ (32 - V.len r)))), (4, .long (lN a9)), (0, .ref o), (1, .int (nI r)), (2, .long (lN f))] := hl
        refine lv_iload hx hb d_Mo_nextBlock_129 (lv_at hl 0 rfl) ?_
        refine lv_if_le hx hb d_Mo_nextBlock_131 rfl (fun _ => ?_) (fun h9 => absurd (by decide) h9)
        refine lv_aload_n hx hb d_Mo_nextBlock_171 rfl (lv_at hl 4 rfl) ?_
        refine lv_lload hx hb d_Mo_nextBlock_172 (lv_at hl 3 rfl) ?_
        refine va_put (D := (dC, dI)) (ci := 5) (v := .long (lN a9)) (ty := .long) (C := R_Mo) (T := F_Mo) (N := 19) hx hb hts u_Mo t_Mo t_Mo_ok n_Mo hown hK hP hD hS 0 rfl rfl 17 (by decide) (hts _ kw_731) (fun _ h9 => h9) rfl (by decide +kernel) rfl rfl (Nat.le_of_ble_eq_true rfl) d_Mo_nextBlock_174 (fun H locs hP hD hS => ?_)
        replace hP : va_P (dC, dI) classes [(o, .inr (5, [.int (nI t), .ref (a 0), .ref (a 1), .ref (a 2), .ref (a 3), .ref (a 4), .ref (a 5), .ref (a 6), .ref (a 7), .ref (a 8), .ref (a 9), .ref (a 10), .int (nI V.ne), .ref (a 11), .ref (a 12), .ref (a 13), .ref (a 14), .long (lN a9), .int fl])), ((a 0), .inl (cI, 2, .inl (fun z9 => nI (V.mn z9)))), ((a 1), .inl (cI, 400, .inl (fun z9 => nI (V.pre z9)))), ((a 2), .inl (cI, 400, .inl (fun z9 => nI (V.len z9)))), ((a 3), .inl (cI, 400, .inl (fun z9 => pI (V.par z9)))), ((a 4), .inl (cI, 400, .inl (fun z9 => nI (V.lev z9)))), ((a 5), .inl (cI, 400, .inl (fun z9 => nI (V.hol z9)))), ((a 6), .inl (cI, 400, .inl (fun z9 => nI (V.sta z9)))), ((a 7), .inl (cI, 400, .inl (fun z9 => nI (V.en z9)))), ((a 8), .inl (cI, 2, .inl (fun z9 => nI (V.tdy z9)))), ((a 9), .inl (cI, 2, .inl (fun z9 => nI (V.dys z9)))), ((a 10), .inl (cI, 8, .inl (fun z9 => nI (V.pol z9)))), ((a 11), .inl (cI, 300, .inl V.kd)), ((a 12), .inl (cI, 300, .inl V.fi)), ((a 13), .inl (cI, 300, .inl V.se)), ((a 14), .inl (cI, 300, .inl V.th))] H := hP
        replace hD : va_D A [(o, .inr (5, [.int (nI t), .ref (a 0), .ref (a 1), .ref (a 2), .ref (a 3), .ref (a 4), .ref (a 5), .ref (a 6), .ref (a 7), .ref (a 8), .ref (a 9), .ref (a 10), .int (nI V.ne), .ref (a 11), .ref (a 12), .ref (a 13), .ref (a 14), .long (lN a9), .int fl])), ((a 0), .inl (cI, 2, .inl (fun z9 => nI (V.mn z9)))), ((a 1), .inl (cI, 400, .inl (fun z9 => nI (V.pre z9)))), ((a 2), .inl (cI, 400, .inl (fun z9 => nI (V.len z9)))), ((a 3), .inl (cI, 400, .inl (fun z9 => pI (V.par z9)))), ((a 4), .inl (cI, 400, .inl (fun z9 => nI (V.lev z9)))), ((a 5), .inl (cI, 400, .inl (fun z9 => nI (V.hol z9)))), ((a 6), .inl (cI, 400, .inl (fun z9 => nI (V.sta z9)))), ((a 7), .inl (cI, 400, .inl (fun z9 => nI (V.en z9)))), ((a 8), .inl (cI, 2, .inl (fun z9 => nI (V.tdy z9)))), ((a 9), .inl (cI, 2, .inl (fun z9 => nI (V.dys z9)))), ((a 10), .inl (cI, 8, .inl (fun z9 => nI (V.pol z9)))), ((a 11), .inl (cI, 300, .inl V.kd)), ((a 12), .inl (cI, 300, .inl V.fi)), ((a 13), .inl (cI, 300, .inl V.se)), ((a 14), .inl (cI, 300, .inl V.th))] := hD
        refine lv_aload_n hx hb d_Mo_nextBlock_177 rfl (lv_at hl 4 rfl) ?_
        refine lv_iload hx hb d_Mo_nextBlock_178 (lv_at hl 0 rfl) ?_
        refine va_put (D := (dC, dI)) (ci := 5) (v := .int (nI 0)) (ty := .int) (C := R_Mo) (T := F_Mo) (N := 19) hx hb hts u_Mo t_Mo t_Mo_ok n_Mo hown hK hP hD hS 0 rfl rfl 18 (by decide) (hts _ kw_732) (fun _ h9 => h9) rfl (by decide +kernel) rfl rfl (Nat.le_of_ble_eq_true rfl) d_Mo_nextBlock_180 (fun H locs hP hD hS => ?_)
        replace hP : va_P (dC, dI) classes [(o, .inr (5, [.int (nI t), .ref (a 0), .ref (a 1), .ref (a 2), .ref (a 3), .ref (a 4), .ref (a 5), .ref (a 6), .ref (a 7), .ref (a 8), .ref (a 9), .ref (a 10), .int (nI V.ne), .ref (a 11), .ref (a 12), .ref (a 13), .ref (a 14), .long (lN a9), .int (nI 0)])), ((a 0), .inl (cI, 2, .inl (fun z9 => nI (V.mn z9)))), ((a 1), .inl (cI, 400, .inl (fun z9 => nI (V.pre z9)))), ((a 2), .inl (cI, 400, .inl (fun z9 => nI (V.len z9)))), ((a 3), .inl (cI, 400, .inl (fun z9 => pI (V.par z9)))), ((a 4), .inl (cI, 400, .inl (fun z9 => nI (V.lev z9)))), ((a 5), .inl (cI, 400, .inl (fun z9 => nI (V.hol z9)))), ((a 6), .inl (cI, 400, .inl (fun z9 => nI (V.sta z9)))), ((a 7), .inl (cI, 400, .inl (fun z9 => nI (V.en z9)))), ((a 8), .inl (cI, 2, .inl (fun z9 => nI (V.tdy z9)))), ((a 9), .inl (cI, 2, .inl (fun z9 => nI (V.dys z9)))), ((a 10), .inl (cI, 8, .inl (fun z9 => nI (V.pol z9)))), ((a 11), .inl (cI, 300, .inl V.kd)), ((a 12), .inl (cI, 300, .inl V.fi)), ((a 13), .inl (cI, 300, .inl V.se)), ((a 14), .inl (cI, 300, .inl V.th))] H := hP
        replace hD : va_D A [(o, .inr (5, [.int (nI t), .ref (a 0), .ref (a 1), .ref (a 2), .ref (a 3), .ref (a 4), .ref (a 5), .ref (a 6), .ref (a 7), .ref (a 8), .ref (a 9), .ref (a 10), .int (nI V.ne), .ref (a 11), .ref (a 12), .ref (a 13), .ref (a 14), .long (lN a9), .int (nI 0)])), ((a 0), .inl (cI, 2, .inl (fun z9 => nI (V.mn z9)))), ((a 1), .inl (cI, 400, .inl (fun z9 => nI (V.pre z9)))), ((a 2), .inl (cI, 400, .inl (fun z9 => nI (V.len z9)))), ((a 3), .inl (cI, 400, .inl (fun z9 => pI (V.par z9)))), ((a 4), .inl (cI, 400, .inl (fun z9 => nI (V.lev z9)))), ((a 5), .inl (cI, 400, .inl (fun z9 => nI (V.hol z9)))), ((a 6), .inl (cI, 400, .inl (fun z9 => nI (V.sta z9)))), ((a 7), .inl (cI, 400, .inl (fun z9 => nI (V.en z9)))), ((a 8), .inl (cI, 2, .inl (fun z9 => nI (V.tdy z9)))), ((a 9), .inl (cI, 2, .inl (fun z9 => nI (V.dys z9)))), ((a 10), .inl (cI, 8, .inl (fun z9 => nI (V.pol z9)))), ((a 11), .inl (cI, 300, .inl V.kd)), ((a 12), .inl (cI, 300, .inl V.fi)), ((a 13), .inl (cI, 300, .inl V.se)), ((a 14), .inl (cI, 300, .inl V.th))] := hD
        refine lv_iconst (v := 1) hx hb d_Mo_nextBlock_183 (by decide) ?_
        have hb9 : blF V r a9 32 = 0 := by rw [← hbl]; rfl
        have e9 : vNx V t fo fl r f = vFn V t (lN a9) (nI 0) := by unfold vNx; rw [hsk, if_pos (by omega), hb9]
        have e8 : bi (decide (skN V r f < (V.pre r + 2 ^ (32 - V.len r)))) = 1 := by rw [decide_eq_true (show skN V r f < (V.pre r + 2 ^ (32 - V.len r)) by omega)]; rfl
        have hP9 : va_P (dC, dI) classes (wMo cI o a (vNx V t fo fl r f)) H := by rw [e9]; exact hP
        have hD9 : va_D A (wMo cI o a (vNx V t fo fl r f)) := by rw [e9]; exact hD
        exact W.zret (v := 1) hx hb hr (by decide) (fun t ht hW => ⟨⟨1, (), rfl, e8.symm, by rw [ht]; exact hP9, va_K.moved hW.alike hK, hD9⟩, hS.F ht⟩) hS.2.2 d_Mo_nextBlock_184
      | succ n9 ih9 =>
        replace hl : lv_has ls 10 [(9, .int (nI (n9 + 1))), (8, .int (pI tq)), (6, .long (lN (V.pre r + 2 ^ (32 - V.len r)))), (4, .long (lN a9)), (0, .ref o), (1, .int (nI r)), (2, .long (lN f))] := hl
        refine lv_iload hx hb d_Mo_nextBlock_129 (lv_at hl 0 rfl) ?_
        refine lv_if_le hx hb d_Mo_nextBlock_131 rfl (fun h9 => absurd h9 (nI_nle (by omega) (by omega))) (fun _ => ?_)
        refine lv_lload hx hb d_Mo_nextBlock_134 (lv_at hl 3 rfl) ?_
        refine lv_l2i hx hb d_Mo_nextBlock_136 rfl ?_
        refine x_topi (y := (nI a9)) (lN_i _) ?_
        refine lv_iload hx hb d_Mo_nextBlock_137 (lv_at hl 0 rfl) ?_
        refine lv_iconst (v := 1) hx hb d_Mo_nextBlock_139 (by decide) ?_
        refine lv_isub hx hb d_Mo_nextBlock_140 ?_
        refine x_topi (y := (nI n9)) (nI_pred n9) ?_
        refine vp_callSi (W.runS (As := [.int (nI n9)]) (rest := [.int (nI a9)]) ⟨hx, hb, hml, hown, hts⟩ (c_Mo_mask l dC dI n9 (by omega)) (cwS 1 hts (gS kw_787 kw_788 kw_6 kw_789) rfl rfl rfl (by decide +kernel) ⟨Nat.le_of_ble_eq_true rfl, Nat.le_of_ble_eq_true rfl⟩) ⟨PcS.blind, PcS.use hP hK hN⟩ rfl rfl hl.1 rfl (lv_room (Nat.le_of_ble_eq_true rfl)) d_Mo_nextBlock_141 ⟨Nat.zero_le _, Nat.zero_le _⟩) (fun r141 hr141 => ?_)
        obtain rfl : r141 = (nI (mskN n9)) := hr141
        refine lv_iconst (v := (-1)) hx hb d_Mo_nextBlock_144 (by decide) ?_
        refine lv_ixor hx hb d_Mo_nextBlock_145 ?_
        refine lv_iand hx hb d_Mo_nextBlock_146 ?_
        refine x_topi (y := (nI (a9 % 2 ^ (32 - n9)))) (k_low (by omega) (by omega)) ?_
        refine lv_if_ne hx hb d_Mo_nextBlock_147 rfl (fun h147 => ?_) (fun h147 => ?_)
        · have h147 := mt (k_eq (b := 0) (by have := Nat.mod_le a9 (2 ^ (32 - n9)); omega) (by decide)).mpr h147
          refine lv_aload_n hx hb d_Mo_nextBlock_171 rfl (lv_at hl 4 rfl) ?_
          refine lv_lload hx hb d_Mo_nextBlock_172 (lv_at hl 3 rfl) ?_
          refine va_put (D := (dC, dI)) (ci := 5) (v := .long (lN a9)) (ty := .long) (C := R_Mo) (T := F_Mo) (N := 19) hx hb hts u_Mo t_Mo t_Mo_ok n_Mo hown hK hP hD hS 0 rfl rfl 17 (by decide) (hts _ kw_731) (fun _ h9 => h9) rfl (by decide +kernel) rfl rfl (Nat.le_of_ble_eq_true rfl) d_Mo_nextBlock_174 (fun H locs hP hD hS => ?_)
          replace hP : va_P (dC, dI) classes [(o, .inr (5, [.int (nI t), .ref (a 0), .ref (a 1), .ref (a 2), .ref (a 3), .ref (a 4), .ref (a 5), .ref (a 6), .ref (a 7), .ref (a 8), .ref (a 9), .ref (a 10), .int (nI V.ne), .ref (a 11), .ref (a 12), .ref (a 13), .ref (a 14), .long (lN a9), .int fl])), ((a 0), .inl (cI, 2, .inl (fun z9 => nI (V.mn z9)))), ((a 1), .inl (cI, 400, .inl (fun z9 => nI (V.pre z9)))), ((a 2), .inl (cI, 400, .inl (fun z9 => nI (V.len z9)))), ((a 3), .inl (cI, 400, .inl (fun z9 => pI (V.par z9)))), ((a 4), .inl (cI, 400, .inl (fun z9 => nI (V.lev z9)))), ((a 5), .inl (cI, 400, .inl (fun z9 => nI (V.hol z9)))), ((a 6), .inl (cI, 400, .inl (fun z9 => nI (V.sta z9)))), ((a 7), .inl (cI, 400, .inl (fun z9 => nI (V.en z9)))), ((a 8), .inl (cI, 2, .inl (fun z9 => nI (V.tdy z9)))), ((a 9), .inl (cI, 2, .inl (fun z9 => nI (V.dys z9)))), ((a 10), .inl (cI, 8, .inl (fun z9 => nI (V.pol z9)))), ((a 11), .inl (cI, 300, .inl V.kd)), ((a 12), .inl (cI, 300, .inl V.fi)), ((a 13), .inl (cI, 300, .inl V.se)), ((a 14), .inl (cI, 300, .inl V.th))] H := hP
          replace hD : va_D A [(o, .inr (5, [.int (nI t), .ref (a 0), .ref (a 1), .ref (a 2), .ref (a 3), .ref (a 4), .ref (a 5), .ref (a 6), .ref (a 7), .ref (a 8), .ref (a 9), .ref (a 10), .int (nI V.ne), .ref (a 11), .ref (a 12), .ref (a 13), .ref (a 14), .long (lN a9), .int fl])), ((a 0), .inl (cI, 2, .inl (fun z9 => nI (V.mn z9)))), ((a 1), .inl (cI, 400, .inl (fun z9 => nI (V.pre z9)))), ((a 2), .inl (cI, 400, .inl (fun z9 => nI (V.len z9)))), ((a 3), .inl (cI, 400, .inl (fun z9 => pI (V.par z9)))), ((a 4), .inl (cI, 400, .inl (fun z9 => nI (V.lev z9)))), ((a 5), .inl (cI, 400, .inl (fun z9 => nI (V.hol z9)))), ((a 6), .inl (cI, 400, .inl (fun z9 => nI (V.sta z9)))), ((a 7), .inl (cI, 400, .inl (fun z9 => nI (V.en z9)))), ((a 8), .inl (cI, 2, .inl (fun z9 => nI (V.tdy z9)))), ((a 9), .inl (cI, 2, .inl (fun z9 => nI (V.dys z9)))), ((a 10), .inl (cI, 8, .inl (fun z9 => nI (V.pol z9)))), ((a 11), .inl (cI, 300, .inl V.kd)), ((a 12), .inl (cI, 300, .inl V.fi)), ((a 13), .inl (cI, 300, .inl V.se)), ((a 14), .inl (cI, 300, .inl V.th))] := hD
          refine lv_aload_n hx hb d_Mo_nextBlock_177 rfl (lv_at hl 4 rfl) ?_
          refine lv_iload hx hb d_Mo_nextBlock_178 (lv_at hl 0 rfl) ?_
          refine va_put (D := (dC, dI)) (ci := 5) (v := .int (nI (n9 + 1))) (ty := .int) (C := R_Mo) (T := F_Mo) (N := 19) hx hb hts u_Mo t_Mo t_Mo_ok n_Mo hown hK hP hD hS 0 rfl rfl 18 (by decide) (hts _ kw_732) (fun _ h9 => h9) rfl (by decide +kernel) rfl rfl (Nat.le_of_ble_eq_true rfl) d_Mo_nextBlock_180 (fun H locs hP hD hS => ?_)
          replace hP : va_P (dC, dI) classes [(o, .inr (5, [.int (nI t), .ref (a 0), .ref (a 1), .ref (a 2), .ref (a 3), .ref (a 4), .ref (a 5), .ref (a 6), .ref (a 7), .ref (a 8), .ref (a 9), .ref (a 10), .int (nI V.ne), .ref (a 11), .ref (a 12), .ref (a 13), .ref (a 14), .long (lN a9), .int (nI (n9 + 1))])), ((a 0), .inl (cI, 2, .inl (fun z9 => nI (V.mn z9)))), ((a 1), .inl (cI, 400, .inl (fun z9 => nI (V.pre z9)))), ((a 2), .inl (cI, 400, .inl (fun z9 => nI (V.len z9)))), ((a 3), .inl (cI, 400, .inl (fun z9 => pI (V.par z9)))), ((a 4), .inl (cI, 400, .inl (fun z9 => nI (V.lev z9)))), ((a 5), .inl (cI, 400, .inl (fun z9 => nI (V.hol z9)))), ((a 6), .inl (cI, 400, .inl (fun z9 => nI (V.sta z9)))), ((a 7), .inl (cI, 400, .inl (fun z9 => nI (V.en z9)))), ((a 8), .inl (cI, 2, .inl (fun z9 => nI (V.tdy z9)))), ((a 9), .inl (cI, 2, .inl (fun z9 => nI (V.dys z9)))), ((a 10), .inl (cI, 8, .inl (fun z9 => nI (V.pol z9)))), ((a 11), .inl (cI, 300, .inl V.kd)), ((a 12), .inl (cI, 300, .inl V.fi)), ((a 13), .inl (cI, 300, .inl V.se)), ((a 14), .inl (cI, 300, .inl V.th))] H := hP
          replace hD : va_D A [(o, .inr (5, [.int (nI t), .ref (a 0), .ref (a 1), .ref (a 2), .ref (a 3), .ref (a 4), .ref (a 5), .ref (a 6), .ref (a 7), .ref (a 8), .ref (a 9), .ref (a 10), .int (nI V.ne), .ref (a 11), .ref (a 12), .ref (a 13), .ref (a 14), .long (lN a9), .int (nI (n9 + 1))])), ((a 0), .inl (cI, 2, .inl (fun z9 => nI (V.mn z9)))), ((a 1), .inl (cI, 400, .inl (fun z9 => nI (V.pre z9)))), ((a 2), .inl (cI, 400, .inl (fun z9 => nI (V.len z9)))), ((a 3), .inl (cI, 400, .inl (fun z9 => pI (V.par z9)))), ((a 4), .inl (cI, 400, .inl (fun z9 => nI (V.lev z9)))), ((a 5), .inl (cI, 400, .inl (fun z9 => nI (V.hol z9)))), ((a 6), .inl (cI, 400, .inl (fun z9 => nI (V.sta z9)))), ((a 7), .inl (cI, 400, .inl (fun z9 => nI (V.en z9)))), ((a 8), .inl (cI, 2, .inl (fun z9 => nI (V.tdy z9)))), ((a 9), .inl (cI, 2, .inl (fun z9 => nI (V.dys z9)))), ((a 10), .inl (cI, 8, .inl (fun z9 => nI (V.pol z9)))), ((a 11), .inl (cI, 300, .inl V.kd)), ((a 12), .inl (cI, 300, .inl V.fi)), ((a 13), .inl (cI, 300, .inl V.se)), ((a 14), .inl (cI, 300, .inl V.th))] := hD
          refine lv_iconst (v := 1) hx hb d_Mo_nextBlock_183 (by decide) ?_
          have hb9 : blF V r a9 32 = (n9 + 1) := by rw [← hbl]; simp only [blF]; rw [if_neg (fun q => h147 q.1)]
          have e9 : vNx V t fo fl r f = vFn V t (lN a9) (nI (n9 + 1)) := by unfold vNx; rw [hsk, if_pos (by omega), hb9]
          have e8 : bi (decide (skN V r f < (V.pre r + 2 ^ (32 - V.len r)))) = 1 := by rw [decide_eq_true (show skN V r f < (V.pre r + 2 ^ (32 - V.len r)) by omega)]; rfl
          have hP9 : va_P (dC, dI) classes (wMo cI o a (vNx V t fo fl r f)) H := by rw [e9]; exact hP
          have hD9 : va_D A (wMo cI o a (vNx V t fo fl r f)) := by rw [e9]; exact hD
          exact W.zret (v := 1) hx hb hr (by decide) (fun t ht hW => ⟨⟨1, (), rfl, e8.symm, by rw [ht]; exact hP9, va_K.moved hW.alike hK, hD9⟩, hS.F ht⟩) hS.2.2 d_Mo_nextBlock_184
        have h147 := (k_eq (b := 0) (by have := Nat.mod_le a9 (2 ^ (32 - n9)); omega) (by decide)).mp h147
        refine lv_aload_n hx hb d_Mo_nextBlock_150 rfl (lv_at hl 4 rfl) ?_
        refine lv_iload_n hx hb d_Mo_nextBlock_151 rfl (lv_at hl 5 rfl) ?_
        refine lv_lload hx hb d_Mo_nextBlock_152 (lv_at hl 3 rfl) ?_
        refine lv_l2i hx hb d_Mo_nextBlock_154 rfl ?_
        refine x_topi (y := (nI a9)) (lN_i _) ?_
        refine lv_iload hx hb d_Mo_nextBlock_155 (lv_at hl 0 rfl) ?_
        refine lv_iconst (v := 1) hx hb d_Mo_nextBlock_157 (by decide) ?_
        refine lv_isub hx hb d_Mo_nextBlock_158 ?_
        refine x_topi (y := (nI n9)) (nI_pred n9) ?_
        refine vp_callSi (W.runV (b := o) (As := [.int (nI r), .int (nI a9), .int (nI n9)]) (rest := []) ⟨hx, hb, hml, hown, hts⟩ (c_Mo_isFree l dC dI cI o a (vFn V t fo fl) hV r hr0 a9 n9 (by omega) (by omega)) (cwV 3 hts (gV kw_867 kw_869 ks_39 kw_6 kw_870) rfl rfl rfl (by decide +kernel) ⟨Nat.le_of_ble_eq_true rfl, Nat.le_of_ble_eq_true rfl⟩) ⟨PcS.blind, va_recv (q0 := 0) hK hP rfl rfl, PcS.use hP hK hN⟩ rfl rfl hl.1 rfl (lv_room (Nat.le_of_ble_eq_true rfl)) d_Mo_nextBlock_159 ⟨Nat.zero_le _, Nat.zero_le _⟩) (fun r159 hr159 => ?_)
        obtain rfl : r159 = (bi (decide (frA V r a9 n9))) := hr159
        refine lv_if_eq hx hb d_Mo_nextBlock_162 rfl (fun h162 => ?_) (fun h162 => ?_)
        · have h162 := bi_d.mp h162
          refine lv_aload_n hx hb d_Mo_nextBlock_171 rfl (lv_at hl 4 rfl) ?_
          refine lv_lload hx hb d_Mo_nextBlock_172 (lv_at hl 3 rfl) ?_
          refine va_put (D := (dC, dI)) (ci := 5) (v := .long (lN a9)) (ty := .long) (C := R_Mo) (T := F_Mo) (N := 19) hx hb hts u_Mo t_Mo t_Mo_ok n_Mo hown hK hP hD hS 0 rfl rfl 17 (by decide) (hts _ kw_731) (fun _ h9 => h9) rfl (by decide +kernel) rfl rfl (Nat.le_of_ble_eq_true rfl) d_Mo_nextBlock_174 (fun H locs hP hD hS => ?_)
          replace hP : va_P (dC, dI) classes [(o, .inr (5, [.int (nI t), .ref (a 0), .ref (a 1), .ref (a 2), .ref (a 3), .ref (a 4), .ref (a 5), .ref (a 6), .ref (a 7), .ref (a 8), .ref (a 9), .ref (a 10), .int (nI V.ne), .ref (a 11), .ref (a 12), .ref (a 13), .ref (a 14), .long (lN a9), .int fl])), ((a 0), .inl (cI, 2, .inl (fun z9 => nI (V.mn z9)))), ((a 1), .inl (cI, 400, .inl (fun z9 => nI (V.pre z9)))), ((a 2), .inl (cI, 400, .inl (fun z9 => nI (V.len z9)))), ((a 3), .inl (cI, 400, .inl (fun z9 => pI (V.par z9)))), ((a 4), .inl (cI, 400, .inl (fun z9 => nI (V.lev z9)))), ((a 5), .inl (cI, 400, .inl (fun z9 => nI (V.hol z9)))), ((a 6), .inl (cI, 400, .inl (fun z9 => nI (V.sta z9)))), ((a 7), .inl (cI, 400, .inl (fun z9 => nI (V.en z9)))), ((a 8), .inl (cI, 2, .inl (fun z9 => nI (V.tdy z9)))), ((a 9), .inl (cI, 2, .inl (fun z9 => nI (V.dys z9)))), ((a 10), .inl (cI, 8, .inl (fun z9 => nI (V.pol z9)))), ((a 11), .inl (cI, 300, .inl V.kd)), ((a 12), .inl (cI, 300, .inl V.fi)), ((a 13), .inl (cI, 300, .inl V.se)), ((a 14), .inl (cI, 300, .inl V.th))] H := hP
          replace hD : va_D A [(o, .inr (5, [.int (nI t), .ref (a 0), .ref (a 1), .ref (a 2), .ref (a 3), .ref (a 4), .ref (a 5), .ref (a 6), .ref (a 7), .ref (a 8), .ref (a 9), .ref (a 10), .int (nI V.ne), .ref (a 11), .ref (a 12), .ref (a 13), .ref (a 14), .long (lN a9), .int fl])), ((a 0), .inl (cI, 2, .inl (fun z9 => nI (V.mn z9)))), ((a 1), .inl (cI, 400, .inl (fun z9 => nI (V.pre z9)))), ((a 2), .inl (cI, 400, .inl (fun z9 => nI (V.len z9)))), ((a 3), .inl (cI, 400, .inl (fun z9 => pI (V.par z9)))), ((a 4), .inl (cI, 400, .inl (fun z9 => nI (V.lev z9)))), ((a 5), .inl (cI, 400, .inl (fun z9 => nI (V.hol z9)))), ((a 6), .inl (cI, 400, .inl (fun z9 => nI (V.sta z9)))), ((a 7), .inl (cI, 400, .inl (fun z9 => nI (V.en z9)))), ((a 8), .inl (cI, 2, .inl (fun z9 => nI (V.tdy z9)))), ((a 9), .inl (cI, 2, .inl (fun z9 => nI (V.dys z9)))), ((a 10), .inl (cI, 8, .inl (fun z9 => nI (V.pol z9)))), ((a 11), .inl (cI, 300, .inl V.kd)), ((a 12), .inl (cI, 300, .inl V.fi)), ((a 13), .inl (cI, 300, .inl V.se)), ((a 14), .inl (cI, 300, .inl V.th))] := hD
          refine lv_aload_n hx hb d_Mo_nextBlock_177 rfl (lv_at hl 4 rfl) ?_
          refine lv_iload hx hb d_Mo_nextBlock_178 (lv_at hl 0 rfl) ?_
          refine va_put (D := (dC, dI)) (ci := 5) (v := .int (nI (n9 + 1))) (ty := .int) (C := R_Mo) (T := F_Mo) (N := 19) hx hb hts u_Mo t_Mo t_Mo_ok n_Mo hown hK hP hD hS 0 rfl rfl 18 (by decide) (hts _ kw_732) (fun _ h9 => h9) rfl (by decide +kernel) rfl rfl (Nat.le_of_ble_eq_true rfl) d_Mo_nextBlock_180 (fun H locs hP hD hS => ?_)
          replace hP : va_P (dC, dI) classes [(o, .inr (5, [.int (nI t), .ref (a 0), .ref (a 1), .ref (a 2), .ref (a 3), .ref (a 4), .ref (a 5), .ref (a 6), .ref (a 7), .ref (a 8), .ref (a 9), .ref (a 10), .int (nI V.ne), .ref (a 11), .ref (a 12), .ref (a 13), .ref (a 14), .long (lN a9), .int (nI (n9 + 1))])), ((a 0), .inl (cI, 2, .inl (fun z9 => nI (V.mn z9)))), ((a 1), .inl (cI, 400, .inl (fun z9 => nI (V.pre z9)))), ((a 2), .inl (cI, 400, .inl (fun z9 => nI (V.len z9)))), ((a 3), .inl (cI, 400, .inl (fun z9 => pI (V.par z9)))), ((a 4), .inl (cI, 400, .inl (fun z9 => nI (V.lev z9)))), ((a 5), .inl (cI, 400, .inl (fun z9 => nI (V.hol z9)))), ((a 6), .inl (cI, 400, .inl (fun z9 => nI (V.sta z9)))), ((a 7), .inl (cI, 400, .inl (fun z9 => nI (V.en z9)))), ((a 8), .inl (cI, 2, .inl (fun z9 => nI (V.tdy z9)))), ((a 9), .inl (cI, 2, .inl (fun z9 => nI (V.dys z9)))), ((a 10), .inl (cI, 8, .inl (fun z9 => nI (V.pol z9)))), ((a 11), .inl (cI, 300, .inl V.kd)), ((a 12), .inl (cI, 300, .inl V.fi)), ((a 13), .inl (cI, 300, .inl V.se)), ((a 14), .inl (cI, 300, .inl V.th))] H := hP
          replace hD : va_D A [(o, .inr (5, [.int (nI t), .ref (a 0), .ref (a 1), .ref (a 2), .ref (a 3), .ref (a 4), .ref (a 5), .ref (a 6), .ref (a 7), .ref (a 8), .ref (a 9), .ref (a 10), .int (nI V.ne), .ref (a 11), .ref (a 12), .ref (a 13), .ref (a 14), .long (lN a9), .int (nI (n9 + 1))])), ((a 0), .inl (cI, 2, .inl (fun z9 => nI (V.mn z9)))), ((a 1), .inl (cI, 400, .inl (fun z9 => nI (V.pre z9)))), ((a 2), .inl (cI, 400, .inl (fun z9 => nI (V.len z9)))), ((a 3), .inl (cI, 400, .inl (fun z9 => pI (V.par z9)))), ((a 4), .inl (cI, 400, .inl (fun z9 => nI (V.lev z9)))), ((a 5), .inl (cI, 400, .inl (fun z9 => nI (V.hol z9)))), ((a 6), .inl (cI, 400, .inl (fun z9 => nI (V.sta z9)))), ((a 7), .inl (cI, 400, .inl (fun z9 => nI (V.en z9)))), ((a 8), .inl (cI, 2, .inl (fun z9 => nI (V.tdy z9)))), ((a 9), .inl (cI, 2, .inl (fun z9 => nI (V.dys z9)))), ((a 10), .inl (cI, 8, .inl (fun z9 => nI (V.pol z9)))), ((a 11), .inl (cI, 300, .inl V.kd)), ((a 12), .inl (cI, 300, .inl V.fi)), ((a 13), .inl (cI, 300, .inl V.se)), ((a 14), .inl (cI, 300, .inl V.th))] := hD
          refine lv_iconst (v := 1) hx hb d_Mo_nextBlock_183 (by decide) ?_
          have hb9 : blF V r a9 32 = (n9 + 1) := by rw [← hbl]; simp only [blF]; rw [if_neg (fun q => h162 q.2)]
          have e9 : vNx V t fo fl r f = vFn V t (lN a9) (nI (n9 + 1)) := by unfold vNx; rw [hsk, if_pos (by omega), hb9]
          have e8 : bi (decide (skN V r f < (V.pre r + 2 ^ (32 - V.len r)))) = 1 := by rw [decide_eq_true (show skN V r f < (V.pre r + 2 ^ (32 - V.len r)) by omega)]; rfl
          have hP9 : va_P (dC, dI) classes (wMo cI o a (vNx V t fo fl r f)) H := by rw [e9]; exact hP
          have hD9 : va_D A (wMo cI o a (vNx V t fo fl r f)) := by rw [e9]; exact hD
          exact W.zret (v := 1) hx hb hr (by decide) (fun t ht hW => ⟨⟨1, (), rfl, e8.symm, by rw [ht]; exact hP9, va_K.moved hW.alike hK, hD9⟩, hS.F ht⟩) hS.2.2 d_Mo_nextBlock_184
        have h162 := Decidable.not_not.mp (mt bi_d.mpr h162)
        refine lv_iinc hx hb d_Mo_nextBlock_165 hl (k := 0) (v := (nI n9)) rfl (k_dec n9) (by decide) rfl (fun ls hl => ?_)
        replace hl : lv_has ls 10 [(9, .int (nI n9)), (8, .int (pI tq)), (6, .long (lN (V.pre r + 2 ^ (32 - V.len r)))), (4, .long (lN a9)), (0, .ref o), (1, .int (nI r)), (2, .long (lN f))] := hl
        refine lv_goto hx hb d_Mo_nextBlock_168 rfl ?_
        refine ih9 _ ?_ ?_ hl
        · omega
        · rw [← hbl]; simp only [blF]; rw [if_pos ⟨h147, h162⟩]
    have h60 := mt (pI_lt0 (fun j q => by have := htl j q; omega)).mpr h60
    obtain ⟨c, hc⟩ := Option.ne_none_iff_exists'.mp h60
    have hc4 : c < 400 := htl c hc
    replace hl : lv_has ls 10 [(8, .int (nI c)), (6, .long (lN (V.pre r + 2 ^ (32 - V.len r)))), (4, .long (lN a9)), (0, .ref o), (1, .int (nI r)), (2, .long (lN f))] := by rw [hc] at hl; exact hl
    have hgt : a9 < V.pre c + 2 ^ (32 - V.len c) := tk_gt ((htq (by omega)).symm.trans hc)
    have hp4 := hV.pre c
    have hpc := k_pow (n := V.len c)
    refine lv_aload_n hx hb d_Mo_nextBlock_63 rfl (lv_at hl 3 rfl) ?_
    refine va_get (D := (dC, dI)) (ci := 5) (v := .ref (a 1)) (C := R_Mo) (T := F_Mo) (N := 19) hx hb hts u_Mo hown hK hP 0 rfl rfl 2 (by decide) (hts _ kw_716) (fun _ h9 => h9) rfl d_Mo_nextBlock_64 ?_
    refine lv_iload hx hb d_Mo_nextBlock_67 (lv_at hl 0 rfl) ?_
    refine x_iald (j := c) (v := (nI (V.pre c))) hx hb hK hP 2 0 rfl rfl hc4 (by decide) rfl rfl d_Mo_nextBlock_69 ?_
    refine lv_i2l hx hb d_Mo_nextBlock_70 rfl ?_
    refine lv_ldc2 hx hb hown (hts _ kw_858) d_Mo_nextBlock_71 ?_
    refine lv_land hx hb d_Mo_nextBlock_74 ?_
    refine x_topl (y := (lN (V.pre c))) (k_start (hV.pre c)) ?_
    refine lv_aload_n hx hb d_Mo_nextBlock_75 rfl (lv_at hl 3 rfl) ?_
    refine va_get (D := (dC, dI)) (ci := 5) (v := .ref (a 2)) (C := R_Mo) (T := F_Mo) (N := 19) hx hb hts u_Mo hown hK hP 0 rfl rfl 3 (by decide) (hts _ kw_717) (fun _ h9 => h9) rfl d_Mo_nextBlock_76 ?_
    refine lv_iload hx hb d_Mo_nextBlock_79 (lv_at hl 0 rfl) ?_
    refine x_iald (j := c) (v := (nI (V.len c))) hx hb hK hP 3 0 rfl rfl hc4 (by decide) rfl rfl d_Mo_nextBlock_81 ?_
    refine vp_callSl (W.runS (As := [.int (nI (V.len c))]) (rest := [.long (lN (V.pre c))]) ⟨hx, hb, hml, hown, hts⟩ (c_Mo_sizeOf l dC dI (V.len c) (hV.len _)) (cwS 1 hts (gS kw_845 kw_846 kw_6 kw_847) rfl rfl rfl (by decide +kernel) ⟨Nat.le_of_ble_eq_true rfl, Nat.le_of_ble_eq_true rfl⟩) ⟨PcS.blind, PcS.use hP hK hN⟩ rfl rfl hl.1 rfl (lv_room (Nat.le_of_ble_eq_true rfl)) d_Mo_nextBlock_82 ⟨Nat.zero_le _, Nat.zero_le _⟩) (fun r82 hr82 => ?_)
    obtain rfl : r82 = (lN (2 ^ (32 - (V.len c)))) := hr82
    refine lv_ladd hx hb d_Mo_nextBlock_85 ?_
    refine x_topl (y := (lN (V.pre c + 2 ^ (32 - V.len c)))) (lN_add _ _) ?_
    refine lv_lstore hx hb d_Mo_nextBlock_86 hl (by decide) rfl (fun ls hl => ?_)
    replace hl : lv_has ls 10 [(4, .long (lN (V.pre c + 2 ^ (32 - V.len c)))), (8, .int (nI c)), (6, .long (lN (V.pre r + 2 ^ (32 - V.len r)))), (0, .ref o), (1, .int (nI r)), (2, .long (lN f))] := hl
    refine lv_lload hx hb d_Mo_nextBlock_88 (lv_at hl 0 rfl) ?_
    refine lv_lload hx hb d_Mo_nextBlock_90 (lv_at hl 2 rfl) ?_
    refine W.lcmp hx hb d_Mo_nextBlock_92 ?_
    refine lv_if_ge hx hb d_Mo_nextBlock_93 rfl (fun h93 => ?_) (fun h93 => ?_)
    · have h93 := (k_cge (by omega) (by omega)).mp h93
      refine lv_iconst (v := (-1)) hx hb d_Mo_nextBlock_109 (by decide) ?_
      refine x_topi (y := (pI none)) rfl ?_
      refine lv_istore hx hb d_Mo_nextBlock_110 hl (by decide) rfl (fun ls hl => ?_)
      replace hl : lv_has ls 10 [(8, .int (pI none)), (4, .long (lN (V.pre c + 2 ^ (32 - V.len c)))), (6, .long (lN (V.pre r + 2 ^ (32 - V.len r)))), (0, .ref o), (1, .int (nI r)), (2, .long (lN f))] := hl
      refine lv_goto hx hb d_Mo_nextBlock_112 rfl ?_
      refine ih _ none (V.pre c + 2 ^ (32 - V.len c)) ?_ ?_ ?_ ?_ ?_ (lv_sub hl [0, 2, 1, 3, 4, 5] rfl)
      · omega
      · omega
      · rw [← hres]; simp only [skF]; rw [if_pos (show a9 < (V.pre r + 2 ^ (32 - V.len r)) by omega), ← htq (by omega), hc]
      · intro q; exact absurd q (by omega)
      · intro j q; exact nomatch q
    have h93 := mt (k_cge (by omega) (by omega)).mpr h93
    refine lv_aload_n hx hb d_Mo_nextBlock_96 rfl (lv_at hl 3 rfl) ?_
    refine lv_iload_n hx hb d_Mo_nextBlock_97 rfl (lv_at hl 4 rfl) ?_
    refine lv_lload hx hb d_Mo_nextBlock_98 (lv_at hl 0 rfl) ?_
    refine lv_l2i hx hb d_Mo_nextBlock_100 rfl ?_
    refine x_topi (y := (nI (V.pre c + 2 ^ (32 - V.len c)))) (lN_i _) ?_
    refine lv_bipush (v := 32) hx hb d_Mo_nextBlock_101 (by decide) ?_
    refine vp_callSi (W.runV (b := o) (As := [.int (nI r), .int (nI (V.pre c + 2 ^ (32 - V.len c))), .int 32]) (rest := []) ⟨hx, hb, hml, hown, hts⟩ (c_Mo_taker l dC dI cI o a (vFn V t fo fl) hV r hr0 (V.pre c + 2 ^ (32 - V.len c)) 32 (by omega) (by decide)) (cwV 3 hts (gV kw_863 kw_865 ks_38 kw_6 kw_866) rfl rfl rfl (by decide +kernel) ⟨Nat.le_of_ble_eq_true rfl, Nat.le_of_ble_eq_true rfl⟩) ⟨PcS.blind, va_recv (q0 := 0) hK hP rfl rfl, PcS.use hP hK hN⟩ rfl rfl hl.1 rfl (lv_room (Nat.le_of_ble_eq_true rfl)) d_Mo_nextBlock_103 ⟨Nat.zero_le _, Nat.zero_le _⟩) (fun r103 hr103 => ?_)
    obtain rfl : r103 = (pI (tkN V r (V.pre c + 2 ^ (32 - V.len c)) 32)) := hr103
    refine lv_goto hx hb d_Mo_nextBlock_106 rfl ?_
    refine lv_istore hx hb d_Mo_nextBlock_110 hl (by decide) rfl (fun ls hl => ?_)
    replace hl : lv_has ls 10 [(8, .int (pI (tkN V r (V.pre c + 2 ^ (32 - V.len c)) 32))), (4, .long (lN (V.pre c + 2 ^ (32 - V.len c)))), (6, .long (lN (V.pre r + 2 ^ (32 - V.len r)))), (0, .ref o), (1, .int (nI r)), (2, .long (lN f))] := hl
    refine lv_goto hx hb d_Mo_nextBlock_112 rfl ?_
    refine ih _ (tkN V r (V.pre c + 2 ^ (32 - V.len c)) 32) (V.pre c + 2 ^ (32 - V.len c)) ?_ ?_ ?_ ?_ ?_ (lv_sub hl [0, 2, 1, 3, 4, 5] rfl)
    · omega
    · omega
    · rw [← hres]; simp only [skF]; rw [if_pos (show a9 < (V.pre r + 2 ^ (32 - V.len r)) by omega), ← htq (by omega), hc]
    · intro q; rfl
    · intro j q; exact tkN_lt hV q
set_option maxHeartbeats 4000000 in
set_option maxRecDepth 100000 in
theorem c_Mo_behind (l : Launch) (dC : Nat → ClassId) (dI : Nat → Nat → Nat) (cI : ClassId) (o : Nat) (a : Nat → Nat) (V : MS) (hV : MSok V) (t : Nat) (s9 n : Nat) (hn : n < 33) : Met l y_Mo_behind (.code y_Mo_behind b_Mo_behind 1 (some .long) :: wG) ({ frames := 1, cells := 0, slots := 0, locals := 20 }) (PcS (dC, dI) [(cI, .int)] (wMo cI o a (vFn V t (lN s9) (nI n))) [.ref o]) (vp_Sl (fun r9 => r9 = lN (s9 + 2 ^ (32 - n)))) 0 0 (fun _ => False) := by
  refine Met.ofW (cc := b_Mo_behind) (maxL := 1) (ret := (some .long)) (by decide) rfl ?_
  intro pg eg s mg ag bg meth cg s₁ B hml hv
  obtain ⟨rfl, hP, hK, hN⟩ := hv
  have hx := B.exec
  have hb := B.bytes
  have hr := B.returns
  have hlocks := B.notSynchronized
  have hts : ∀ w9 ∈ wG, w9.before ([.ref o] : List Value).toArray s = true := fun w9 h9 => atoms_spec (ws := (.code y_Mo_behind b_Mo_behind 1 (some .long) :: wG)) B.pre w9 (List.mem_cons_of_mem _ h9)
  have hown : s.vm.findClass "PrefixRegistryModel" = some mg.cls := findClass_of_methodNamed B.named
  have hP : va_P (dC, dI) classes (wMo cI o a (vFn V t (lN s9) (nI n))) s.heap := hP
  have hl := lv_entry ([.ref o]) (n := 1) (Nat.le_of_ble_eq_true rfl)
  rw [lg_entry_eq]
  generalize (lg_sl ([.ref o]) ++ List.replicate (1 - (lg_sl ([.ref o])).length) Slot.unset).toArray = ls at hl ⊢
  replace hl : lv_has ls 1 [(0, .ref o)] := hl
  refine lv_aload_n hx hb d_Mo_behind_0 rfl (lv_at hl 0 rfl) ?_
  refine va_get (D := (dC, dI)) (ci := 5) (v := .long (lN s9)) (C := R_Mo) (T := F_Mo) (N := 19) hx hb hts u_Mo hown hK hP 0 rfl rfl 17 (by decide) (hts _ kw_731) (fun _ h9 => h9) rfl d_Mo_behind_1 ?_
  refine lv_aload_n hx hb d_Mo_behind_4 rfl (lv_at hl 0 rfl) ?_
  refine va_get (D := (dC, dI)) (ci := 5) (v := .int (nI n)) (C := R_Mo) (T := F_Mo) (N := 19) hx hb hts u_Mo hown hK hP 0 rfl rfl 18 (by decide) (hts _ kw_732) (fun _ h9 => h9) rfl d_Mo_behind_5 ?_
  refine vp_callSl (W.runS (As := [.int (nI n)]) (rest := [.long (lN s9)]) ⟨hx, hb, hml, hown, hts⟩ (c_Mo_sizeOf l dC dI n hn) (cwS 1 hts (gS kw_845 kw_846 kw_6 kw_847) rfl rfl rfl (by decide +kernel) ⟨Nat.le_of_ble_eq_true rfl, Nat.le_of_ble_eq_true rfl⟩) ⟨PcS.blind, PcS.use hP hK hN⟩ rfl rfl hl.1 rfl (lv_room (Nat.le_of_ble_eq_true rfl)) d_Mo_behind_8 ⟨Nat.zero_le _, Nat.zero_le _⟩) (fun r8 hr8 => ?_)
  obtain rfl : r8 = (lN (2 ^ (32 - n))) := hr8
  refine lv_ladd hx hb d_Mo_behind_11 ?_
  exact W.lret (v := ((lN s9) + (lN (2 ^ (32 - n))))) hx hb hr (fun t ht hW => ⟨((lN s9) + (lN (2 ^ (32 - n)))), rfl, (by exact (lN_add _ _)), ht⟩) (fun q h => nomatch h) d_Mo_behind_12
