/-! what an accepted call does to a ledger; which calls are accepted -/
def LOK (S : LDS) : Prop := LDok S ∧ LIV S.X
def agX (S : LDS) (e : Nat × Nat × Nat × Nat) : LDS := match e.1 with
  | 0 => S
  | 1 => (rTop S.X e.2.1 e.2.2.1 e.2.2.2, S.pol, S.td, S.qd, S.wk)
  | 2 => (rChn (rBel S.X e.2.1 (askY S (bkX S.X) e.2.1 e.2.2.1 (decide (e.2.2.2 = 1))).1 e.2.2.1 1) S.X.n e.2.1 (cof S.X e.2.1), S.pol, S.td, S.qd, wkL S.X (S.X.pre e.2.1 + 2 ^ (32 - S.X.len e.2.1)) (cof S.X e.2.1) (S.X.pre e.2.1) S.wk.sa S.wk.le (bkX S.X e.2.1))
  | 3 => (rChn (rBel S.X e.2.1 e.2.2.1 e.2.2.2 2) S.X.n e.2.1 (cof S.X e.2.1), S.pol, S.td, S.qd, S.wk)
  | 4 => (rSta S.X e.2.1 1, S.pol, S.td, S.qd, S.wk)
  | 5 => (rBack S.X e.2.1 S.td S.qd (cof S.X ((S.X.par e.2.1).getD 0)), S.pol, S.td, S.qd, S.wk)
  | 6 => (rDbl S.X e.2.1, S.pol, S.td, S.qd, S.wk)
  | 7 => (rHlv S.X e.2.1 (decide (e.2.2.1 = 1)), S.pol, S.td, S.qd, S.wk)
  | 8 => (rHol S.X (hov S.X e.2.1 e.2.2.1 0 S.X.n S.X.hol 0).1, S.pol, S.td, S.qd, S.wk)
  | 9 => (S.X, va_up S.pol e.2.1 e.2.2.1, S.td, S.qd, S.wk)
  | 10 => ((bgd e.2.1 0 S.X.n S.X 0).1, S.pol, e.2.1, S.qd, S.wk)
  | 11 => (S.X, S.pol, S.td, e.2.1, S.wk)
  | _ + 12 => S
def acX (S : LDS) (e : Nat × Nat × Nat × Nat) : Prop := match e.1 with
  | 0 => False
  | 1 => S.X.n < 200 ∧ ((e.2.2.1 < 32 ∧ e.2.1 % 2 ^ (32 - e.2.2.1) = 0) ∧ e.2.2.2 ≤ 9999) ∧ e.2.1 < 4294967296 ∧ ∀ r, r < S.X.n → S.X.par r = none → S.X.sta r ≠ 4 → ¬ mt2 (S.X.pre r) (S.X.len r) e.2.1 e.2.2.1
  | 2 => askN S.X (cof S.X) S.pol (bkX S.X) e.2.1 e.2.2.1 = 0 ∧ e.2.2.2 < 2
  | 3 => rsvN S.X (cof S.X) e.2.1 e.2.2.1 e.2.2.2 = 0 ∧ e.2.2.1 < 4294967296
  | 4 => (e.2.1 < S.X.n ∧ S.X.sta e.2.1 = 2) ∧ e.2.2.1 = 0 ∧ e.2.2.2 = 0
  | 5 => (e.2.1 < S.X.n ∧ (S.X.sta e.2.1 = 1 ∨ S.X.sta e.2.1 = 2) ∧ S.X.fc e.2.1 = none) ∧ e.2.2.1 = 0 ∧ e.2.2.2 = 0
  | 6 => groN S.X (cof S.X) e.2.1 = 0 ∧ e.2.2.1 = 0 ∧ e.2.2.2 = 0
  | 7 => shrN S.X (cof S.X) e.2.1 (decide (e.2.2.1 = 1)) = 0 ∧ e.2.2.1 < 2 ∧ e.2.2.2 = 0
  | 8 => (e.2.1 < S.X.n ∧ e.2.2.1 ≤ 9999 ∧ S.X.sta e.2.1 ≠ 4) ∧ e.2.2.2 = 0
  | 9 => (e.2.1 < 4 ∧ e.2.2.1 ≤ 1000) ∧ e.2.2.2 = 0
  | 10 => (S.td ≤ e.2.1 ∧ e.2.1 ≤ 100000) ∧ e.2.2.1 = 0 ∧ e.2.2.2 = 0
  | 11 => e.2.1 ≤ 1000 ∧ e.2.2.1 = 0 ∧ e.2.2.2 = 0
  | _ + 12 => False
theorem foldB_le {u : Bool} {n : Nat} : ∀ (L : List (Nat × Nat)) (D : Option (Nat × Nat)) (y : Nat × Nat), (∀ z, D = some z → z.2 ≤ n) → L.foldl (chS u n) D = some y → y.2 ≤ n
  | [], D, y, hD, h => hD y h
  | x :: t, D, y, hD, h => by
    refine foldB_le t (chS u n D x) y (fun z q => ?_) h
    unfold chS at q
    split at q
    · rename_i w; cases q; exact w.1
    · exact hD z q
theorem al_more {a m n : Nat} (h : m ≤ n) (hn : n < 33) (ha : a % 2 ^ (32 - m) = 0) : a % 2 ^ (32 - n) = 0 := by
  rw [sz_mul h hn] at ha
  have := Nat.mod_mul_right_mod a (2 ^ (32 - n)) (2 ^ (n - m))
  rw [ha] at this
  rw [← this]; exact Nat.zero_mod _
theorem sz_le {m n : Nat} (h : m ≤ n) : 2 ^ (32 - n) ≤ 2 ^ (32 - m) := Nat.pow_le_pow_right (by decide) (by omega)
/-- where a new block of length n goes when asked for -/
theorem askY_ok {S : LDS} (h : LIV S.X) {x n : Nat} {u : Bool} (hx : x < S.X.n) (hn : n < 33) (q : ∃ y, (bkX S.X x).foldl (chS false n) none = some y) :
    S.X.pre x ≤ (askY S (bkX S.X) x n u).1 ∧ (askY S (bkX S.X) x n u).1 % 2 ^ (32 - n) = 0 ∧ (askY S (bkX S.X) x n u).1 < 4294967296 ∧ (askY S (bkX S.X) x n u).1 + 2 ^ (32 - n) ≤ S.X.pre x + 2 ^ (32 - S.X.len x) ∧ ∀ c, c < S.X.n → S.X.par c = some x → S.X.sta c ≠ 4 → ¬ mt2 (S.X.pre c) (S.X.len c) (askY S (bkX S.X) x n u).1 n := by
  have e := askY_eq (S := S) (u := u) q
  generalize askY S (bkX S.X) x n u = y at e
  have l := foldB_le (bkX S.X x) none y (fun z q => (nomatch q)) e
  have m : y ∈ bkX S.X x := (foldB_mem (bkX S.X x) none y e).elim id (fun q => (nomatch q))
  obtain ⟨m1, m2, m3, m4, m5⟩ := h.bkm hx m
  have sl := sz_le l
  have z := Nat.two_pow_pos (32 - n)
  refine ⟨m1, al_more l hn m2, h.bkb hx y m, by omega, fun c c1 c2 c3 => ?_⟩
  have := m5 c c1 c2 c3
  unfold mt2
  omega
theorem rsvN_1 {X : RS} {C : Nat → List Nat} {x a n : Nat} (h : rsvN X C x a n = 0) : (x < X.n ∧ X.sta x = 1) ∧ ((X.len x < n ∧ n ≤ 32) ∧ a % 2 ^ (32 - n) = 0 ∧ mt2 (X.pre x) (X.len x) a n) ∧ omN X x = 0 ∧ ∀ c9 ∈ C x, ¬ mt2 (X.pre c9) (X.len c9) a n := by
  unfold rsvN at h
  by_cases h1 : x < X.n ∧ X.sta x = 1
  · rw [if_pos h1] at h
    by_cases h2 : (X.len x < n ∧ n ≤ 32) ∧ a % 2 ^ (32 - n) = 0 ∧ mt2 (X.pre x) (X.len x) a n
    · rw [if_pos h2] at h
      by_cases h3 : omN X x = 0
      · rw [if_pos h3] at h
        by_cases h4 : ∀ c9 ∈ C x, ¬ mt2 (X.pre c9) (X.len c9) a n
        · exact ⟨h1, h2, h3, h4⟩
        · rw [if_neg h4] at h; exact absurd h (by decide)
      · rw [if_neg h3] at h; exact absurd h h3
    · rw [if_neg h2] at h; exact absurd h (by decide)
  · rw [if_neg h1] at h; exact absurd h (by decide)
theorem groN_1 {X : RS} {C : Nat → List Nat} {x : Nat} (h : groN X C x = 0) : (x < X.n ∧ X.sta x = 1) ∧ ∃ q, X.par x = some q ∧ X.len q < X.len x ∧ ∀ c9 ∈ C q, ¬ mt2 (X.pre c9) (X.len c9) (X.pre x ^^^ 2 ^ (32 - X.len x)) (X.len x) := by
  unfold groN at h
  by_cases h1 : (x < X.n ∧ X.sta x = 1) ∧ X.par x ≠ none
  · rw [if_pos h1] at h
    obtain ⟨h1, h0⟩ := h1
    cases e : X.par x with
    | none => exact absurd e h0
    | some q =>
      rw [e] at h
      simp only [Option.getD_some] at h
      by_cases h2 : X.len q < X.len x
      · rw [if_pos h2] at h
        by_cases h4 : ∀ c9 ∈ C q, ¬ mt2 (X.pre c9) (X.len c9) (X.pre x ^^^ 2 ^ (32 - X.len x)) (X.len x)
        · exact ⟨h1, q, rfl, h2, h4⟩
        · rw [if_neg h4] at h; exact absurd h (by decide)
      · rw [if_neg h2] at h; exact absurd h (by decide)
  · rw [if_neg h1] at h; exact absurd h (by decide)
theorem shrN_1 {X : RS} {C : Nat → List Nat} {x : Nat} {u : Bool} (h : shrN X C x u = 0) : ((x < X.n ∧ X.sta x = 1) ∧ X.par x ≠ none) ∧ X.len x < 32 ∧ ∀ c9 ∈ C x, ¬ mt2 (X.pre c9) (X.len c9) (hafN X x (!u)) (X.len x + 1) := by
  unfold shrN at h
  by_cases h1 : (x < X.n ∧ X.sta x = 1) ∧ X.par x ≠ none
  · rw [if_pos h1] at h
    by_cases h2 : X.len x < 32
    · rw [if_pos h2] at h
      by_cases h4 : ∀ c9 ∈ C x, ¬ mt2 (X.pre c9) (X.len c9) (hafN X x (!u)) (X.len x + 1)
      · exact ⟨h1, h2, h4⟩
      · rw [if_neg h4] at h; exact absurd h (by decide)
    · rw [if_neg h2] at h; exact absurd h (by decide)
  · rw [if_neg h1] at h; exact absurd h (by decide)
theorem LIV.dbl {X : RS} (h : LIV X) {x : Nat} (g : groN X (cof X) x = 0) : LIV (rDbl X x) := by
  obtain ⟨⟨hx, hs⟩, q, hq, hl, hf⟩ := groN_1 g
  have hqn : q < X.n := Nat.lt_trans (h.lt hx hq) hx
  have C := h.ch hqn
  have ok := h.ok
  have l33 := ok.len x
  have e1 : 32 - (X.len x - 1) = 32 - X.len x + 1 := by omega
  have b := bx_sib (h.al x)
  have i := h.inn hx hq (by omega)
  have z := Nat.two_pow_pos (32 - X.len x)
  have e2 : 2 ^ (32 - X.len x + 1) = 2 * 2 ^ (32 - X.len x) := by rw [Nat.pow_succ, Nat.mul_comm]
  have al : (X.pre x &&& (X.pre x ^^^ 2 ^ (32 - X.len x))) % 2 ^ (32 - (X.len x - 1)) = 0 := by rw [b.2, e1]; exact Nat.mul_mod_left _ _
  have b1 := b.1
  rw [← b.2] at b1
  have pl : (X.pre x &&& (X.pre x ^^^ 2 ^ (32 - X.len x))) ≤ X.pre x := Nat.and_le_left
  have p32 := ok.pre x
  unfold rDbl
  generalize X.pre x &&& (X.pre x ^^^ 2 ^ (32 - X.len x)) = p at *
  have mtw : mt2 (X.pre q) (X.len q) p (X.len x - 1) := by unfold mt2; rw [e1, e2]; omega
  have inn := (sub_mt (show X.len q ≤ X.len x - 1 by omega) (by omega) (h.al q) al).mp mtw
  refine LIV.rng h hx (by omega) (by omega) (by omega) al (fun a qa => ?_) (fun c c1 c2 c3 => ?_) (fun c c1 c2 c3 c4 => ?_) ?_
  · rw [hq] at qa; cases qa
    exact ⟨by omega, inn.1, inn.2⟩
  · have := h.inn c1 c2 c3
    rw [e1, e2]
    omega
  · have d1 := h.dj c1 hx c2 c3 c4 (by omega)
    have d2 := hf c ((C.2.2 c).mpr ⟨c1, by rw [c3, hq], c4⟩)
    have := Nat.two_pow_pos (32 - X.len c)
    unfold mt2 at d1 d2 ⊢
    rw [e1, e2]
    omega
  · unfold mt2; rw [e1, e2]; omega
theorem haf_eq {X : RS} (h : LIV X) {x : Nat} (hl : X.len x < 32) (u : Bool) : hafN X x u = X.pre x + (if u = true then 2 ^ (32 - (X.len x + 1)) else 0) := by
  have e : 32 - X.len x = 32 - (X.len x + 1) + 1 := by omega
  have a := h.al x
  rw [e] at a
  cases u with
  | false => rfl
  | true => exact (bx_or a).2
theorem LIV.hlv {X : RS} (h : LIV X) {x : Nat} {u : Bool} (g : shrN X (cof X) x u = 0) : LIV (rHlv X x u) := by
  obtain ⟨⟨⟨hx, hs⟩, hq⟩, hl, hf⟩ := shrN_1 g
  have C := h.ch hx
  have ok := h.ok
  have e : 32 - X.len x = 32 - (X.len x + 1) + 1 := by omega
  have e2 : 2 ^ (32 - X.len x) = 2 * 2 ^ (32 - (X.len x + 1)) := by rw [e, Nat.pow_succ, Nat.mul_comm]
  have z := Nat.two_pow_pos (32 - (X.len x + 1))
  have a := h.al x
  have hst := h.hst x
  have al : hafN X x u % 2 ^ (32 - (X.len x + 1)) = 0 := by
    have a1 : X.pre x % 2 ^ (32 - (X.len x + 1)) = 0 := al_more (by omega) (by omega) a
    rw [haf_eq h hl]
    cases u with
    | false => simpa using a1
    | true => rw [if_pos rfl, Nat.add_mod_right]; exact a1
  have eu := haf_eq h hl u
  have en := haf_eq h hl (!u)
  unfold rHlv
  generalize hafN X x u = p at *
  generalize hafN X x (!u) = o at *
  have hp : p = X.pre x ∧ o = X.pre x + 2 ^ (32 - (X.len x + 1)) ∨ p = X.pre x + 2 ^ (32 - (X.len x + 1)) ∧ o = X.pre x := by
    cases u with
    | false => rw [if_neg (by decide)] at eu; rw [if_pos (show (!false) = true from rfl)] at en; left; omega
    | true => rw [if_pos rfl] at eu; rw [if_neg (show ¬ (!true) = true by decide)] at en; right; omega
  clear eu en
  refine LIV.rng h hx (by omega) (by omega) (by omega) al (fun a qa => ?_) (fun c c1 c2 c3 => ?_) (fun c c1 c2 c3 c4 => ?_) ?_
  · have i := h.inn hx qa (by omega)
    omega
  · have i := h.inn c1 c2 c3
    have d := hf c ((C.2.2 c).mpr ⟨c1, c2, c3⟩)
    have zc := Nat.two_pow_pos (32 - X.len c)
    have d2 : X.len c ≠ X.len x := fun ec => by
      rw [ec] at d i
      unfold mt2 at d
      omega
    unfold mt2 at d
    omega
  · have d1 := h.dj c1 hx c2 c3 c4 (by omega)
    unfold mt2 at d1 ⊢
    omega
  · unfold mt2; omega
theorem hov_lt {X : RS} {a w : Nat} (hw : w < 10000) : ∀ (k i : Nat) (hf : Nat → Nat) (sm : Nat), (∀ j, hf j < 10000) → ∀ j, (hov X a w i k hf sm).1 j < 10000
  | 0, _, _, _, h => h
  | k + 1, i, hf, sm, h => by
    simp only [hov]
    split
    · exact hov_lt hw k (i + 1) _ _ (up_all (P := (· < 10000)) h hw)
    · exact hov_lt hw k (i + 1) _ _ h
theorem LIV.bak {X : RS} (h : LIV X) {r td qd : Nat} (htd : td ≤ 100000 ∧ qd ≤ 1000) (hr : r < X.n) (hs : X.sta r = 1 ∨ X.sta r = 2) (hf : X.fc r = none) : LIV (rBack X r td qd (cof X ((X.par r).getD 0))) := by
  have C := h.ch hr
  have hc : cof X r = [] := by
    have e := C.1
    cases q : cof X r with
    | nil => rfl
    | cons j t => rw [q] at e; rw [hf] at e; exact nomatch e.1
  have nc : ∀ c, c < X.n → X.par c = some r → X.sta c = 4 := fun c c1 c2 => by
    by_cases e : X.sta c = 4
    · exact e
    · have := (C.2.2 c).mpr ⟨c1, c2, e⟩
      rw [hc] at this; exact nomatch this
  have h2 : LIV (rEn X r (td + qd)) := LIV.enf h h.ok.hol (up_all (P := (· < 200000)) h.ok.en (by omega))
  unfold rBack
  split
  · exact LIV.ret h2 hr (show X.sta r ≠ 4 by omega) nc
  · exact LIV.sta h2 hr (show X.sta r ≠ 4 by omega) (by decide) (by decide) (Or.inr nc)
theorem LOK.step {S : LDS} (h : LOK S) {e : Nat × Nat × Nat × Nat} (a : acX S e) : LOK (agX S e) := by
  obtain ⟨⟨h1, h2, h3, h4⟩, hL⟩ := h
  obtain ⟨k, e1, e2, e3⟩ := e
  unfold acX at a
  unfold agX
  split at a
  · exact a.elim
  · have : LIV (rTop S.X e1 e2 e3) := hL.top a.1 a.2.2.1 (by have := a.2.1.1.1; simp only at this; omega) (by have := a.2.1.2; simp only at this; omega) a.2.1.1.2 a.2.2.2
    exact ⟨⟨this.ok, h2, h3, h4⟩, this⟩
  · obtain ⟨a1, a2⟩ := a
    obtain ⟨q1, q2, q3, q4, q5, q6⟩ := askN_0 a1
    simp only at q1 q2 q3 q4 q5 q6
    have y := askY_ok (u := decide (e3 = 1)) hL q1.1 (show e2 < 33 by omega) q6
    have := hL.bel (v := 1) (show S.X.n < 200 by have := h1.n; omega) q1.1 q1.2 q3 y.2.2.1 ⟨by omega, by omega⟩ y.2.1 ⟨y.1, y.2.2.2.1⟩ y.2.2.2.2 (Or.inl rfl)
    exact ⟨⟨this.ok, h2, h3, h4⟩, this⟩
  · obtain ⟨a1, a2⟩ := a
    obtain ⟨q1, q2, q3, q4⟩ := rsvN_1 a1
    simp only at q1 q2 q3 q4 a2
    have C := hL.ch q1.1
    have om := omN_0 q3
    have inn := (sub_mt (show S.X.len e1 ≤ e3 by omega) (by omega) (hL.al e1) q2.2.1).mp q2.2.2
    have := hL.bel (v := 2) (show S.X.n < 200 by have := h1.n; omega) q1.1 q1.2 om.1 a2 ⟨by omega, by omega⟩ q2.2.1 inn (fun c c1 c2 c3 => q4 c ((C.2.2 c).mpr ⟨c1, c2, c3⟩)) (Or.inr rfl)
    exact ⟨⟨this.ok, h2, h3, h4⟩, this⟩
  · obtain ⟨⟨a1, a2⟩, _⟩ := a
    simp only at a1 a2
    have := hL.sta (v := 1) a1 (by omega) (by decide) (by decide) (Or.inl rfl)
    exact ⟨⟨this.ok, h2, h3, h4⟩, this⟩
  · obtain ⟨⟨a1, a2, a3⟩, _⟩ := a
    have := hL.bak ⟨h3, h4⟩ a1 a2 a3
    exact ⟨⟨this.ok, h2, h3, h4⟩, this⟩
  · have := hL.dbl a.1
    exact ⟨⟨this.ok, h2, h3, h4⟩, this⟩
  · have := hL.hlv a.1
    exact ⟨⟨this.ok, h2, h3, h4⟩, this⟩
  · obtain ⟨⟨a1, a2, a3⟩, _⟩ := a
    simp only at a2
    have : LIV (rHol S.X (hov S.X e1 e2 0 S.X.n S.X.hol 0).1) := LIV.enf hL (hov_lt (by omega) _ _ _ _ h1.hol) h1.en
    exact ⟨⟨this.ok, h2, h3, h4⟩, this⟩
  · exact ⟨⟨h1, up_all (P := (· ≤ 1000)) h2 a.1.2, h3, h4⟩, hL⟩
  · have := (LIV.bgdF (n := e1) S.X.n 0 S.X 0 hL (by omega)).1
    exact ⟨⟨this.ok, h2, a.1.2, h4⟩, this⟩
  · exact ⟨⟨h1, h2, h3, a.1⟩, hL⟩
  · exact a.elim
