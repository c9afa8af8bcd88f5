/-! the blocks of a record -/
theorem tz_dvd : ∀ (f a k : Nat), 0 < a → a < 2 ^ (f + 1) → (a % 2 ^ k = 0 ↔ k ≤ tzF f a)
  | 0, a, k, h1, h2 => by
    have : a = 1 := by simp at h2; omega
    subst this
    simp only [tzF]
    cases k with
    | zero => simp
    | succ k =>
      have : 1 < 2 ^ (k + 1) := by rw [Nat.pow_succ]; have := Nat.two_pow_pos k; omega
      rw [Nat.mod_eq_of_lt this]; omega
  | f + 1, a, k, h1, h2 => by
    simp only [tzF]
    cases k with
    | zero => simp [Nat.mod_one]
    | succ k =>
      have e : 2 ^ (k + 1) = 2 * 2 ^ k := by rw [Nat.pow_succ, Nat.mul_comm]
      split
      · rename_i q
        constructor
        · intro z
          rw [e] at z
          have := Nat.mod_mul_right_mod a 2 (2 ^ k)
          rw [z] at this; omega
        · intro z; omega
      · rename_i q
        have ih := tz_dvd f (a / 2) k (by omega) (by rw [Nat.pow_succ] at h2; omega)
        rw [Nat.add_le_add_iff_right, ← ih, e, Nat.mod_mul]
        constructor
        · intro z
          have : 2 * (a / 2 % 2 ^ k) = 0 := by omega
          omega
        · intro z; rw [z]; omega
theorem bln_iff {a w n : Nat} (ha : a < 4294967296) (hw : 0 < w) (hw2 : w ≤ 4294967296) (hn : n < 33) : blnN a w ≤ n ↔ a % 2 ^ (32 - n) = 0 ∧ 2 ^ (32 - n) ≤ w := by
  have h1 : 2 ^ (32 - n) ≤ w ↔ 32 - Nat.log2 w ≤ n := by
    rw [← Nat.le_log2 (by omega)]; omega
  rw [h1]
  unfold blnN
  by_cases e : a = 0
  · rw [if_pos e, e, Nat.zero_mod]; simp
  · rw [if_neg e]
    have h2 := tz_dvd 31 a (32 - n) (by omega) ha
    unfold tzN
    rw [h2, Nat.max_le]
    omega
theorem bln_33 {a w : Nat} (ha : a < 4294967296) (hw : 0 < w) (hw2 : w ≤ 4294967296) : blnN a w ≤ 32 := (bln_iff ha hw hw2 (by decide)).mpr ⟨by simp [Nat.mod_one], by simp only [Nat.sub_self, Nat.pow_zero]; exact hw⟩
/-- a stands between the children that are over and those, L, that come -/
def GP (X : RS) (e : Nat) (L : List Nat) (a : Nat) : Prop := a ≤ e ∧ e ≤ 4294967296 ∧ (∀ c ∈ L, a ≤ X.pre c ∧ X.pre c + 2 ^ (32 - X.len c) ≤ e) ∧ L.Pairwise (fun c d => X.pre c + 2 ^ (32 - X.len c) ≤ X.pre d)
theorem GP.stpG {X : RS} {e : Nat} : ∀ {L : List Nat} {a : Nat}, GP X e L a → GP X e (stp X L a).1 (stp X L a).2 ∧ (∀ c t, (stp X L a).1 = c :: t → X.pre c ≠ (stp X L a).2) ∧ a ≤ (stp X L a).2
  | [], a, h => ⟨h, fun c t q => (nomatch q), Nat.le_refl _⟩
  | c :: t, a, h => by
    obtain ⟨h1, h2, h3, h4⟩ := h
    simp only [stp]
    have hp := List.pairwise_cons.mp h4
    have hc := h3 c List.mem_cons_self
    have z := Nat.two_pow_pos (32 - X.len c)
    split
    · rename_i q
      have := GP.stpG (X := X) (e := e) (L := t) (a := a + 2 ^ (32 - X.len c)) ⟨by omega, h2, fun d hd => ⟨by have := hp.1 d hd; omega, (h3 d (List.mem_cons_of_mem _ hd)).2⟩, hp.2⟩
      exact ⟨this.1, this.2.1, by have := this.2.2; omega⟩
    · rename_i q
      exact ⟨⟨h1, h2, h3, h4⟩, fun d t' e' => by cases e'; exact q, Nat.le_refl _⟩
theorem GP.lim {X : RS} {e : Nat} {L : List Nat} {a : Nat} (h : GP X e L a) (hn : ∀ c t, L = c :: t → X.pre c ≠ a) (ha : a < e) : a < limN X L e ∧ limN X L e ≤ e := by
  cases L with
  | nil => exact ⟨ha, Nat.le_refl _⟩
  | cons c t =>
    have := h.2.2.1 c List.mem_cons_self
    have := hn c t rfl
    have := Nat.two_pow_pos (32 - X.len c)
    simp only [limN]
    omega
theorem GP.adv {X : RS} {e : Nat} {L : List Nat} {a b : Nat} (h : GP X e L a) (hb : b ≤ limN X L e) (hab : a ≤ b) : GP X e L b := by
  obtain ⟨h1, h2, h3, h4⟩ := h
  cases L with
  | nil => exact ⟨hb, h2, fun c q => (nomatch q), h4⟩
  | cons c t =>
    have hb' : b ≤ X.pre c := hb
    have hc := h3 c List.mem_cons_self
    have hp := List.pairwise_cons.mp h4
    have z := Nat.two_pow_pos (32 - X.len c)
    refine ⟨by omega, h2, fun d hd => ?_, h4⟩
    cases List.mem_cons.mp hd with
    | inl q => rw [q]; exact ⟨hb', hc.2⟩
    | inr q => exact ⟨by have := hp.1 d q; omega, (h3 d hd).2⟩
/-- the class's blocks by a function -/
def bkF (X : RS) (e : Nat) : Nat → List Nat → Nat → List (Nat × Nat)
  | 0, _, _ => []
  | k + 1, L, a => if (stp X L a).2 < e then ((stp X L a).2, blnN (stp X L a).2 (limN X (stp X L a).1 e - (stp X L a).2)) :: bkF X e k (stp X L a).1 ((stp X L a).2 + 2 ^ (32 - blnN (stp X L a).2 (limN X (stp X L a).1 e - (stp X L a).2))) else []
def bkX (X : RS) (r : Nat) : List (Nat × Nat) := bkF X (X.pre r + 2 ^ (32 - X.len r)) (X.pre r + 2 ^ (32 - X.len r)) (cof X r) (X.pre r)
/-- one block: where it lies -/
theorem GP.blkG {X : RS} {e : Nat} {L : List Nat} {a : Nat} (h : GP X e L a) (hn : ∀ c t, L = c :: t → X.pre c ≠ a) (ha : a < e) : a % 2 ^ (32 - blnN a (limN X L e - a)) = 0 ∧ a + 2 ^ (32 - blnN a (limN X L e - a)) ≤ limN X L e := by
  have l := h.lim hn ha
  have h2 := h.2.1
  have b := bln_33 (a := a) (w := limN X L e - a) (by omega) (by omega) (by omega)
  have := (bln_iff (a := a) (w := limN X L e - a) (by omega) (by omega) (by omega) (show blnN a (limN X L e - a) < 33 by omega)).mp (Nat.le_refl _)
  exact ⟨this.1, by omega⟩
theorem cbk_bkF {X : RS} {e : Nat} : ∀ (k : Nat) (L : List Nat) (a : Nat), GP X e L a → e - a ≤ k → cbk X e L a (bkF X e k L a)
  | 0, L, a, h, hk => by
    have := (GP.stpG h).2.2
    simp only [bkF, cbk]; omega
  | k + 1, L, a, h, hk => by
    simp only [bkF]
    have s := GP.stpG h
    split
    · rename_i q
      have l := s.1.lim s.2.1 q
      have b := s.1.blkG s.2.1 q
      have z := Nat.two_pow_pos (32 - blnN (stp X L a).2 (limN X (stp X L a).1 e - (stp X L a).2))
      have h2 := h.2.1
      have h3 := s.2.2
      refine ⟨q, rfl, rfl, ⟨l.1, by omega⟩, Nat.le_trans b.2 (by omega), ?_⟩
      exact cbk_bkF k _ _ (s.1.adv b.2 (Nat.le_add_right _ _)) (show e - ((stp X L a).2 + 2 ^ (32 - blnN (stp X L a).2 (limN X (stp X L a).1 e - (stp X L a).2))) ≤ k by omega)
    · rename_i q; exact q
theorem cbk_det {X : RS} {e : Nat} : ∀ {B B' : List (Nat × Nat)} {L : List Nat} {a : Nat}, cbk X e L a B → cbk X e L a B' → B = B'
  | [], [], _, _, _, _ => rfl
  | [], x :: t, _, _, h1, h2 => absurd h2.1 h1
  | x :: t, [], _, _, h1, h2 => absurd h1.1 h2
  | x :: t, y :: u, L, a, h1, h2 => by
    obtain ⟨p1, p2, p3, p4, p5, p6⟩ := h1
    obtain ⟨q1, q2, q3, q4, q5, q6⟩ := h2
    have e1 : x.1 = y.1 := by rw [p2, q2]
    have e2 : x.2 = y.2 := by rw [p3, q3, e1]
    have e3 : x = y := Prod.ext e1 e2
    subst e3
    rw [cbk_det p6 q6]
theorem sib_up {x k : Nat} (h0 : x % 2 ^ k = 0) (h1 : ¬ x % 2 ^ (k + 1) = 0) : (x + 2 ^ k) % 2 ^ (k + 1) = 0 := by
  have y := (bx_sib h0).1
  rcases y with y | y
  · have y1 := y.1
    generalize x / 2 ^ (k + 1) = q at y1
    subst y1
    exact absurd (Nat.mul_mod_left _ _) h1
  · have y1 := y.1
    generalize x / 2 ^ (k + 1) = q at y1
    subst y1
    rw [Nat.add_assoc, ← Nat.two_mul, ← Nat.pow_succ', Nat.add_mod_right, Nat.mul_mod_left]
/-- how many blocks may come -/
def nuN (a w : Nat) : Nat := if w = 0 then 0 else if a = 0 ∨ Nat.log2 w < tzN a then Nat.log2 w + 1 else 66 - tzN a
theorem log2_le {w : Nat} (h : 0 < w) (h2 : w ≤ 4294967296) : Nat.log2 w ≤ 32 := by
  have := Nat.log2_self_le (n := w) (by omega)
  by_cases q : Nat.log2 w ≤ 32
  · exact q
  · exfalso
    have : 2 ^ 33 ≤ 2 ^ Nat.log2 w := Nat.pow_le_pow_right (by decide) (by omega)
    omega
theorem tz_31 {a : Nat} (h : 0 < a) (h2 : a < 4294967296) : tzN a ≤ 31 := by
  unfold tzN
  by_cases q : tzF 31 a ≤ 31
  · exact q
  · exfalso
    have := (tz_dvd 31 a 32 h h2).mpr (by omega)
    rw [Nat.mod_eq_of_lt (by omega)] at this; omega
theorem nu_le {a w : Nat} (h2 : a < 4294967296) (hw : w ≤ 4294967296) : nuN a w ≤ 66 ∧ (0 < w → 1 ≤ nuN a w) := by
  unfold nuN
  split
  · omega
  · rename_i q
    have := log2_le (w := w) (by omega) hw
    split
    · omega
    · rename_i z
      have := tz_31 (a := a) (by omega) h2
      omega
theorem nu_dec {a w : Nat} (ha : a < 4294967296) (hw : 0 < w) (hw2 : w ≤ 4294967296) (hs : 2 ^ (32 - blnN a w) < w) (ha2 : a + 2 ^ (32 - blnN a w) < 4294967296) : nuN (a + 2 ^ (32 - blnN a w)) (w - 2 ^ (32 - blnN a w)) + 1 ≤ nuN a w := by
  have l1 := Nat.log2_self_le (n := w) (by omega)
  have l2 := Nat.lt_log2_self (n := w)
  have l3 := log2_le hw hw2
  have lw : ∀ {v : Nat}, 0 < v → v < 2 ^ Nat.log2 w → Nat.log2 v < Nat.log2 w := fun {v} hv q => (Nat.log2_lt (by omega)).mpr q
  by_cases c : a = 0 ∨ Nat.log2 w < tzN a
  · have eb : 32 - blnN a w = Nat.log2 w := by
      unfold blnN
      rcases c with c | c
      · rw [if_pos c]; omega
      · by_cases e : a = 0
        · rw [if_pos e]; omega
        · rw [if_neg e]
          have := tz_31 (a := a) (by omega) ha
          rw [Nat.max_eq_right (by omega)]; omega
    rw [eb] at hs ha2 ⊢
    have d : (a + 2 ^ Nat.log2 w) % 2 ^ Nat.log2 w = 0 := by
      rw [Nat.add_mod_right]
      rcases c with c | c
      · rw [c, Nat.zero_mod]
      · by_cases e : a = 0
        · rw [e, Nat.zero_mod]
        · exact (tz_dvd 31 a (Nat.log2 w) (by omega) ha).mpr (Nat.le_of_lt c)
    have z := Nat.two_pow_pos (Nat.log2 w)
    have d2 : Nat.log2 w ≤ tzN (a + 2 ^ Nat.log2 w) := (tz_dvd 31 _ (Nat.log2 w) (by omega) ha2).mp d
    have v := lw (v := w - 2 ^ Nat.log2 w) (by omega) (by rw [Nat.pow_succ] at l2; omega)
    unfold nuN
    rw [if_neg (show ¬ w - 2 ^ Nat.log2 w = 0 by omega), if_neg (show ¬ w = 0 by omega), if_pos c, if_pos (Or.inr (by omega))]
    omega
  · have c1 : ¬ a = 0 := fun q => c (Or.inl q)
    have c2 : ¬ Nat.log2 w < tzN a := fun q => c (Or.inr q)
    have t1 := tz_31 (a := a) (by omega) ha
    have eb : 32 - blnN a w = tzN a := by
      unfold blnN
      rw [if_neg c1, Nat.max_eq_left (by omega)]; omega
    rw [eb] at hs ha2 ⊢
    have z := Nat.two_pow_pos (tzN a)
    have q0 := (tz_dvd 31 a (tzN a) (by omega) ha).mpr (Nat.le_refl _)
    have q1 : ¬ a % 2 ^ (tzN a + 1) = 0 := fun q => by
      have := (tz_dvd 31 a (tzN a + 1) (by omega) ha).mp q
      unfold tzN at this; omega
    have q2 : (a + 2 ^ tzN a) % 2 ^ (tzN a + 1) = 0 := sib_up q0 q1
    have d2 : tzN a + 1 ≤ tzN (a + 2 ^ tzN a) := (tz_dvd 31 _ (tzN a + 1) (by omega) ha2).mp q2
    have t2 := tz_31 (a := a + 2 ^ tzN a) (by omega) ha2
    have l4 := log2_le (w := w - 2 ^ tzN a) (by omega) (by omega)
    unfold nuN
    rw [if_neg (show ¬ w - 2 ^ tzN a = 0 by omega), if_neg (show ¬ w = 0 by omega), if_neg c]
    split <;> omega
theorem stp_self {X : RS} {L : List Nat} {a : Nat} (hn : ∀ c t, L = c :: t → X.pre c ≠ a) : stp X L a = (L, a) := by
  cases L with
  | nil => rfl
  | cons c t => simp only [stp]; rw [if_neg (hn c t rfl)]
theorem cbk_len {X : RS} {e : Nat} : ∀ (B : List (Nat × Nat)) (L : List Nat) (a : Nat), GP X e L a → cbk X e L a B → B.length ≤ 70 * (stp X L a).1.length + nuN (stp X L a).2 (limN X (stp X L a).1 e - (stp X L a).2)
  | [], L, a, _, _ => Nat.zero_le _
  | x :: t, L, a, h, hc => by
    obtain ⟨p1, p2, p3, p4, p5, p6⟩ := hc
    have s := GP.stpG h
    have h2 := h.2.1
    have l := s.1.lim s.2.1 p1
    have b := s.1.blkG s.2.1 p1
    rw [← p2] at p1 l b
    rw [← p2]
    generalize stp X L a = LA at *
    obtain ⟨M, a'⟩ := LA
    simp only at *
    subst p2
    rw [← p3] at b
    have z := Nat.two_pow_pos (32 - x.2)
    have g := s.1.adv b.2 (by omega)
    have ih := cbk_len t M (x.1 + 2 ^ (32 - x.2)) g p6
    have nl := nu_le (a := x.1) (w := limN X M e - x.1) (by omega) (by omega)
    rw [List.length_cons]
    by_cases q : x.1 + 2 ^ (32 - x.2) = limN X M e
    · cases M with
      | nil =>
        have q : x.1 + 2 ^ (32 - x.2) = e := q
        have : t = [] := by
          cases t with
          | nil => rfl
          | cons y u => have := p6.1; simp only [stp] at this; omega
        rw [this]
        have := nl.2 (by omega)
        simp only [List.length_nil]; omega
      | cons c u =>
        have q : x.1 + 2 ^ (32 - x.2) = X.pre c := q
        have es : stp X (c :: u) (x.1 + 2 ^ (32 - x.2)) = stp X u (x.1 + 2 ^ (32 - x.2) + 2 ^ (32 - X.len c)) := by simp only [stp]; rw [if_pos q.symm]
        rw [es] at ih
        have g2 := GP.stpG g
        rw [es] at g2
        have sl := stp_len X u (x.1 + 2 ^ (32 - x.2) + 2 ^ (32 - X.len c))
        have := nl.2 (by omega)
        rw [List.length_cons]
        by_cases y : limN X (stp X u (x.1 + 2 ^ (32 - x.2) + 2 ^ (32 - X.len c))).1 e - (stp X u (x.1 + 2 ^ (32 - x.2) + 2 ^ (32 - X.len c))).2 = 0
        · rw [y] at ih
          have : nuN (stp X u (x.1 + 2 ^ (32 - x.2) + 2 ^ (32 - X.len c))).2 0 = 0 := by unfold nuN; rw [if_pos rfl]
          rw [this] at ih
          omega
        · have ll : limN X (stp X u (x.1 + 2 ^ (32 - x.2) + 2 ^ (32 - X.len c))).1 e ≤ 4294967296 := by
            by_cases q9 : (stp X u (x.1 + 2 ^ (32 - x.2) + 2 ^ (32 - X.len c))).2 < e
            · have := (g2.1.lim g2.2.1 q9).2; omega
            · generalize stp X u (x.1 + 2 ^ (32 - x.2) + 2 ^ (32 - X.len c)) = G at *
              obtain ⟨G1, G2⟩ := G
              cases G1 with
              | nil => exact h2
              | cons d v => have := (g2.1.2.2.1 d List.mem_cons_self).2; have := Nat.two_pow_pos (32 - X.len d); simp only [limN]; omega
          have := (nu_le (a := (stp X u (x.1 + 2 ^ (32 - x.2) + 2 ^ (32 - X.len c))).2) (w := limN X (stp X u (x.1 + 2 ^ (32 - x.2) + 2 ^ (32 - X.len c))).1 e - (stp X u (x.1 + 2 ^ (32 - x.2) + 2 ^ (32 - X.len c))).2) (by omega) (by omega)).1
          omega
    · have hn : ∀ c u, M = c :: u → X.pre c ≠ x.1 + 2 ^ (32 - x.2) := fun c u hM z9 => by rw [hM] at q; exact q z9.symm
      rw [stp_self hn] at ih
      have nd := nu_dec (a := x.1) (w := limN X M e - x.1) (by omega) (by omega) (by omega) (by rw [← p3]; omega) (by rw [← p3]; omega)
      rw [← p3] at nd
      rw [show limN X M e - x.1 - 2 ^ (32 - x.2) = limN X M e - (x.1 + 2 ^ (32 - x.2)) by omega] at nd
      simp only at ih
      omega
theorem al_top {a n : Nat} (hn : n < 33) (ha : a < 4294967296) (h : a % 2 ^ (32 - n) = 0) : a + 2 ^ (32 - n) ≤ 4294967296 := by
  have e := sz_mul (m := 0) (n := n) (by omega) hn
  have e : (4294967296 : Nat) = 2 ^ (32 - n) * 2 ^ n := by simpa using e
  obtain ⟨y, hy⟩ : ∃ y, a = 2 ^ (32 - n) * y := Nat.dvd_of_mod_eq_zero h
  rw [hy, e] at ha
  have := Nat.lt_of_mul_lt_mul_left ha
  rw [hy, e, ← Nat.mul_succ]
  exact Nat.mul_le_mul_left _ this
theorem LIV.hst {X : RS} (h : LIV X) (j : Nat) : X.pre j + 2 ^ (32 - X.len j) ≤ 4294967296 := al_top (h.ok.len j) (h.ok.pre j) (h.al j)
theorem LIV.gp {X : RS} (h : LIV X) {r : Nat} (hr : r < X.n) : GP X (X.pre r + 2 ^ (32 - X.len r)) (cof X r) (X.pre r) := by
  have C := h.ch hr
  refine ⟨Nat.le_add_right _ _, h.hst r, fun c q => ?_, ?_⟩
  · have m := (C.2.2 c).mp q
    have i := h.inn m.1 m.2.1 m.2.2
    exact ⟨i.2.2.1, i.2.2.2⟩
  · refine List.Pairwise.imp_of_mem (fun {a b} qa qb q => ?_) C.2.1
    have ma := (C.2.2 a).mp qa
    have mb := (C.2.2 b).mp qb
    have := h.dj ma.1 mb.1 (fun e => by rw [e] at q; omega) (by rw [ma.2.1, mb.2.1]) ma.2.2 mb.2.2
    have := Nat.two_pow_pos (32 - X.len b)
    unfold mt2 at *
    omega
theorem stp_pop {X : RS} {e : Nat} : ∀ {L : List Nat} {a : Nat}, GP X e L a → ∀ c ∈ L, c ∈ (stp X L a).1 ∨ X.pre c + 2 ^ (32 - X.len c) ≤ (stp X L a).2
  | [], _, _, c, q => nomatch q
  | d :: t, a, h, c, q => by
    have g := GP.stpG h
    simp only [stp] at g ⊢
    split
    · rename_i z
      rw [if_pos z] at g
      obtain ⟨h1, h2, h3, h4⟩ := h
      have hp := List.pairwise_cons.mp h4
      have hc := h3 d List.mem_cons_self
      have hg : GP X e t (a + 2 ^ (32 - X.len d)) := ⟨by omega, h2, fun x hx => ⟨by have := hp.1 x hx; omega, (h3 x (List.mem_cons_of_mem _ hx)).2⟩, hp.2⟩
      cases List.mem_cons.mp q with
      | inl e => right; rw [e, z]; exact (GP.stpG hg).2.2
      | inr e => exact stp_pop hg c e
    · exact Or.inl q
theorem GP.head {X : RS} {e : Nat} {L : List Nat} {a c : Nat} (h : GP X e L a) (q : c ∈ L) : limN X L e ≤ X.pre c := by
  cases L with
  | nil => exact nomatch q
  | cons d t =>
    have hp := List.pairwise_cons.mp h.2.2.2
    cases List.mem_cons.mp q with
    | inl z => rw [z]; exact Nat.le_refl _
    | inr z => have := hp.1 c z; have := Nat.two_pow_pos (32 - X.len d); simp only [limN]; omega
/-- where the blocks lie -/
theorem cbk_mem {X : RS} {e : Nat} : ∀ (B : List (Nat × Nat)) (L : List Nat) (a : Nat), GP X e L a → cbk X e L a B → ∀ y ∈ B, a ≤ y.1 ∧ y.1 % 2 ^ (32 - y.2) = 0 ∧ y.2 < 33 ∧ y.1 + 2 ^ (32 - y.2) ≤ e ∧ ∀ c ∈ L, y.1 + 2 ^ (32 - y.2) ≤ X.pre c ∨ X.pre c + 2 ^ (32 - X.len c) ≤ y.1
  | [], _, _, _, _, y, q => nomatch q
  | x :: t, L, a, h, hc, y, q => by
    obtain ⟨p1, p2, p3, p4, p5, p6⟩ := hc
    have s := GP.stpG h
    have l := s.1.lim s.2.1 p1
    have b := s.1.blkG s.2.1 p1
    have pop := stp_pop h
    have h2 := h.2.1
    rw [← p2] at l b pop
    rw [← p3] at b
    have z := Nat.two_pow_pos (32 - x.2)
    have s22 := s.2.2
    have g := s.1.adv (b := x.1 + 2 ^ (32 - x.2)) b.2 (by omega)
    cases List.mem_cons.mp q with
    | inl w =>
      subst w
      have b33 : y.2 < 33 := by rw [p3]; exact Nat.lt_succ_of_le (bln_33 (by omega) (by omega) (by omega))
      refine ⟨by omega, b.1, b33, by omega, fun c hc => ?_⟩
      cases pop c hc with
      | inl v => left; have := s.1.head v; omega
      | inr v => exact Or.inr v
    | inr w =>
      obtain ⟨r1, r2, r3, r4, r5⟩ := cbk_mem t _ _ g p6 y w
      refine ⟨by omega, r2, r3, r4, fun c hc => ?_⟩
      cases pop c hc with
      | inl v => exact r5 c v
      | inr v => right; omega
theorem LIV.bk {X : RS} (h : LIV X) {r : Nat} (hr : r < X.n) : cbk X (X.pre r + 2 ^ (32 - X.len r)) (cof X r) (X.pre r) (bkX X r) := cbk_bkF _ _ _ (h.gp hr) (Nat.sub_le _ _)
theorem LIV.bkl {X : RS} (h : LIV X) {r : Nat} (hr : r < X.n) : (bkX X r).length < 1000000 := by
  have C := h.ch hr
  have e := cbk_len _ _ _ (h.gp hr) (h.bk hr)
  have s := GP.stpG (h.gp hr)
  have sl := stp_len X (cof X r) (X.pre r)
  have cl := C.len h.ok.n
  have hs := h.hst r
  generalize stp X (cof X r) (X.pre r) = G at *
  obtain ⟨G1, G2⟩ := G
  simp only at *
  have ll : limN X G1 (X.pre r + 2 ^ (32 - X.len r)) ≤ 4294967296 := by
    cases G1 with
    | nil => exact hs
    | cons d v => have := (s.1.2.2.1 d List.mem_cons_self).2; have := Nat.two_pow_pos (32 - X.len d); simp only [limN]; omega
  by_cases z : G2 < 4294967296
  · have := (nu_le (a := G2) (w := limN X G1 (X.pre r + 2 ^ (32 - X.len r)) - G2) z (by omega)).1
    omega
  · have : nuN G2 (limN X G1 (X.pre r + 2 ^ (32 - X.len r)) - G2) = 0 := by unfold nuN; rw [if_pos (by omega)]
    omega
theorem LIV.bkm {X : RS} (h : LIV X) {r : Nat} (hr : r < X.n) {y : Nat × Nat} (q : y ∈ bkX X r) : X.pre r ≤ y.1 ∧ y.1 % 2 ^ (32 - y.2) = 0 ∧ y.2 < 33 ∧ y.1 + 2 ^ (32 - y.2) ≤ X.pre r + 2 ^ (32 - X.len r) ∧ ∀ c, c < X.n → X.par c = some r → X.sta c ≠ 4 → y.1 + 2 ^ (32 - y.2) ≤ X.pre c ∨ X.pre c + 2 ^ (32 - X.len c) ≤ y.1 := by
  obtain ⟨r1, r2, r3, r4, r5⟩ := cbk_mem _ _ _ (h.gp hr) (h.bk hr) y q
  exact ⟨r1, r2, r3, r4, fun c h1 h2 h3 => r5 c (((h.ch hr).2.2 c).mpr ⟨h1, h2, h3⟩)⟩
theorem LIV.bkb {X : RS} (h : LIV X) {r : Nat} (hr : r < X.n) : ∀ y ∈ bkX X r, y.1 < 4294967296 := fun y q => by
  have m := h.bkm hr q
  have := h.hst r
  have := Nat.two_pow_pos (32 - y.2)
  omega
/-! the reference's blocks are the same -/
def GM (X : RS) (r : Nat) (L : List Nat) (a : Nat) : Prop := X.pre r ≤ a ∧ (∀ c ∈ L, c < X.n ∧ X.par c = some r ∧ X.sta c ≠ 4) ∧ ∀ c, c < X.n → X.par c = some r → X.sta c ≠ 4 → c ∈ L ∨ X.pre c + 2 ^ (32 - X.len c) ≤ a
theorem GM.adv {X : RS} {r : Nat} {L : List Nat} {a b : Nat} (h : GM X r L a) (hb : a ≤ b) : GM X r L b := ⟨Nat.le_trans h.1 hb, h.2.1, fun c h1 h2 h3 => (h.2.2 c h1 h2 h3).imp id (fun q => Nat.le_trans q hb)⟩
theorem GM.stpM {X : RS} {e r : Nat} {L : List Nat} {a : Nat} (g : GP X e L a) (h : GM X r L a) : GM X r (stp X L a).1 (stp X L a).2 := by
  have s := GP.stpG g
  refine ⟨Nat.le_trans h.1 s.2.2, fun c q => h.2.1 c (stp_mem q), fun c h1 h2 h3 => ?_⟩
  cases h.2.2 c h1 h2 h3 with
  | inl q => exact stp_pop g c q
  | inr q => right; exact Nat.le_trans q s.2.2
theorem SIM.skE {S : LDS} {V : MS} {b d : Nat} (h : SIM S V b d) (hL : LIV S.X) (hd : d < 2) (hb : b = 200 * d) {r : Nat} (hr : r < S.X.n) : ∀ (k : Nat) (L : List Nat) (a : Nat), GP S.X (S.X.pre r + 2 ^ (32 - S.X.len r)) L a → GM S.X r L a → S.X.pre r + 2 ^ (32 - S.X.len r) - a ≤ k → skF V (b + r) k a = (stp S.X L a).2
  | 0, L, a, g, m, hk => by
    have : L = [] := by
      cases L with
      | nil => rfl
      | cons c t => have := g.2.2.1 c List.mem_cons_self; have := Nat.two_pow_pos (32 - S.X.len c); omega
    rw [this]; rfl
  | k + 1, L, a, g, m, hk => by
    simp only [skF]
    rw [h.pre hr, h.len hr]
    split
    · rename_i q
      have hal : a % 2 ^ (32 - 32) = 0 := by simp [Nat.mod_one]
      cases et : tkN V (b + r) a 32 with
      | none =>
        have ht := (h.takN hL hd hb hr (by decide) hal).mp et
        show a = (stp S.X L a).2
        rw [stp_self (fun c t e z => ?_)]
        have mc := m.2.1 c (by rw [e]; exact List.mem_cons_self)
        have := Nat.two_pow_pos (32 - S.X.len c)
        have := ht c mc.1 mc.2.1 mc.2.2
        simp only [mt2, Nat.sub_self, Nat.pow_zero] at this
        omega
      | some j =>
        obtain ⟨c, rfl, c1, c2, c3, c4⟩ := h.tkS hL hd hb hr (by decide) hal et
        simp only [mt2, Nat.sub_self, Nat.pow_zero] at c4
        show skF V (b + r) k (V.pre (b + c) + 2 ^ (32 - V.len (b + c))) = _
        rw [h.pre c1, h.len c1]
        have cL : c ∈ L := by
          cases m.2.2 c c1 c2 c3 with
          | inl z => exact z
          | inr z => omega
        have ca := (g.2.2.1 c cL)
        obtain ⟨x, t, rfl⟩ : ∃ x t, L = x :: t := by
          cases L with
          | nil => exact nomatch cL
          | cons x t => exact ⟨x, t, rfl⟩
        have hp := List.pairwise_cons.mp g.2.2.2
        have ex : c = x := by
          cases List.mem_cons.mp cL with
          | inl z => exact z
          | inr z =>
            have := hp.1 c z
            have := (g.2.2.1 x List.mem_cons_self).1
            have := Nat.two_pow_pos (32 - S.X.len x)
            omega
        subst ex
        have ea : S.X.pre c = a := by omega
        have es : stp S.X (c :: t) a = stp S.X t (a + 2 ^ (32 - S.X.len c)) := by simp only [stp]; rw [if_pos ea]
        rw [es, ea]
        have z := Nat.two_pow_pos (32 - S.X.len c)
        refine SIM.skE h hL hd hb hr k t _ ⟨by omega, g.2.1, fun x hx => ⟨by have := hp.1 x hx; omega, (g.2.2.1 x (List.mem_cons_of_mem _ hx)).2⟩, hp.2⟩ ⟨by have := m.1; omega, fun x hx => m.2.1 x (List.mem_cons_of_mem _ hx), fun x h1 h2 h3 => ?_⟩ (by omega)
        cases m.2.2 x h1 h2 h3 with
        | inl w =>
          cases List.mem_cons.mp w with
          | inl w => right; rw [w]; omega
          | inr w => exact Or.inl w
        | inr w => right; omega
    · rename_i q
      have : L = [] := by
        cases L with
        | nil => rfl
        | cons c t => have := g.2.2.1 c List.mem_cons_self; have := Nat.two_pow_pos (32 - S.X.len c); omega
      rw [this]; rfl
theorem SIM.frE {S : LDS} {V : MS} {b d : Nat} (h : SIM S V b d) (hL : LIV S.X) (hd : d < 2) (hb : b = 200 * d) {r : Nat} (hr : r < S.X.n) {L : List Nat} {a n : Nat} (g : GP S.X (S.X.pre r + 2 ^ (32 - S.X.len r)) L a) (m : GM S.X r L a) (hn : ∀ c t, L = c :: t → S.X.pre c ≠ a) (ha : a < S.X.pre r + 2 ^ (32 - S.X.len r)) (hn33 : n < 33) : (a % 2 ^ (32 - n) = 0 ∧ frA V (b + r) a n) ↔ blnN a (limN S.X L (S.X.pre r + 2 ^ (32 - S.X.len r)) - a) ≤ n := by
  have l := g.lim hn ha
  have hs := hL.hst r
  rw [bln_iff (by omega) (by omega) (by omega) hn33]
  have lr := hL.ok.len r
  constructor
  · intro ⟨q1, q2, q3, q4⟩
    rw [h.len hr] at q2 q3
    rw [h.pre hr] at q3
    have q3 := (sub_mt q2 hn33 (hL.al r) q1).mp (mt2_comm.mp ((mt_iff hn33 lr q1 (hL.al r)).mpr q3))
    have q4 := (h.takN hL hd hb hr hn33 q1).mp q4
    refine ⟨q1, ?_⟩
    cases L with
    | nil => simp only [limN]; omega
    | cons c t =>
      have mc := m.2.1 c List.mem_cons_self
      have := q4 c mc.1 mc.2.1 mc.2.2
      have := (g.2.2.1 c List.mem_cons_self).1
      have := Nat.two_pow_pos (32 - S.X.len c)
      simp only [limN]
      unfold mt2 at *
      omega
  · intro ⟨q1, q2⟩
    have q3 : S.X.len r ≤ n := by
      have : 2 ^ (32 - n) ≤ 2 ^ (32 - S.X.len r) := by have := m.1; omega
      have := (Nat.pow_le_pow_iff_right (show 1 < 2 by decide)).mp this
      omega
    refine ⟨q1, by rw [h.len hr]; exact q3, ?_, ?_⟩
    · rw [h.len hr, h.pre hr]
      refine (mt_iff hn33 lr q1 (hL.al r)).mp (mt2_comm.mp ((sub_mt q3 hn33 (hL.al r) q1).mpr ⟨m.1, by omega⟩))
    · refine (h.takN hL hd hb hr hn33 q1).mpr (fun c c1 c2 c3 => ?_)
      have z := Nat.two_pow_pos (32 - S.X.len c)
      unfold mt2
      cases m.2.2 c c1 c2 c3 with
      | inl w => have := g.head w; omega
      | inr w => omega
theorem blF_eq {V : MS} {r a x : Nat} (h : ∀ n, n < 33 → ((a % 2 ^ (32 - n) = 0 ∧ frA V r a n) ↔ x ≤ n)) : ∀ m, x ≤ m → m < 33 → blF V r a m = x
  | 0, h1, _ => by simp only [blF]; omega
  | m + 1, h1, h2 => by
    simp only [blF]
    by_cases q : x ≤ m
    · rw [if_pos ((h m (by omega)).mpr q)]
      exact blF_eq h m q (by omega)
    · rw [if_neg (fun z => q ((h m (by omega)).mp z))]; omega
theorem SIM.blkS {S : LDS} {V : MS} {b d : Nat} (h : SIM S V b d) (hL : LIV S.X) (hd : d < 2) (hb : b = 200 * d) {r : Nat} (hr : r < S.X.n) : ∀ (k : Nat) (L : List Nat) (a : Nat), GP S.X (S.X.pre r + 2 ^ (32 - S.X.len r)) L a → GM S.X r L a → S.X.pre r + 2 ^ (32 - S.X.len r) - a ≤ k → cbk S.X (S.X.pre r + 2 ^ (32 - S.X.len r)) L a (blkF V (b + r) k a)
  | 0, L, a, g, m, hk => by
    have := (GP.stpG g).2.2
    simp only [blkF, cbk]; omega
  | k + 1, L, a, g, m, hk => by
    have esk : skN V (b + r) a = (stp S.X L a).2 := by
      unfold skN
      rw [h.pre hr, h.len hr]
      exact h.skE hL hd hb hr _ L a g m (Nat.sub_le _ _)
    simp only [blkF]
    rw [esk, h.pre hr, h.len hr]
    have s := GP.stpG g
    have sm := GM.stpM g m
    split
    · rename_i q
      have l := s.1.lim s.2.1 q
      have bb := s.1.blkG s.2.1 q
      have hs := hL.hst r
      have ebl : blF V (b + r) (stp S.X L a).2 32 = blnN (stp S.X L a).2 (limN S.X (stp S.X L a).1 (S.X.pre r + 2 ^ (32 - S.X.len r)) - (stp S.X L a).2) :=
        blF_eq (fun n hn => h.frE hL hd hb hr s.1 sm s.2.1 q hn) 32 (bln_33 (by omega) (by omega) (by omega)) (by decide)
      rw [ebl]
      have z := Nat.two_pow_pos (32 - blnN (stp S.X L a).2 (limN S.X (stp S.X L a).1 (S.X.pre r + 2 ^ (32 - S.X.len r)) - (stp S.X L a).2))
      have h3 := s.2.2
      refine ⟨q, rfl, rfl, ⟨l.1, by omega⟩, Nat.le_trans bb.2 (by omega), ?_⟩
      exact SIM.blkS h hL hd hb hr k _ _ (s.1.adv bb.2 (Nat.le_add_right _ _)) (sm.adv (Nat.le_add_right _ _)) (show S.X.pre r + 2 ^ (32 - S.X.len r) - ((stp S.X L a).2 + 2 ^ (32 - blnN (stp S.X L a).2 (limN S.X (stp S.X L a).1 (S.X.pre r + 2 ^ (32 - S.X.len r)) - (stp S.X L a).2))) ≤ k by omega)
    · rename_i q; exact q
theorem SIM.blkE {S : LDS} {V : MS} {b d : Nat} (h : SIM S V b d) (hL : LIV S.X) (hd : d < 2) (hb : b = 200 * d) {r : Nat} (hr : r < S.X.n) : blkL V (b + r) = bkX S.X r := by
  have C := hL.ch hr
  refine cbk_det ?_ (hL.bk hr)
  unfold blkL
  rw [h.pre hr, h.len hr]
  exact h.blkS hL hd hb hr _ _ _ (hL.gp hr) ⟨Nat.le_refl _, fun c q => (C.2.2 c).mp q, fun c h1 h2 h3 => Or.inl ((C.2.2 c).mpr ⟨h1, h2, h3⟩)⟩ (Nat.sub_le _ _)
