/-! the chain of a record, read from its pointers -/
def chw (nx : Nat → Option Nat) : Nat → Option Nat → List Nat
  | 0, _ => []
  | _ + 1, none => []
  | k + 1, some j => j :: chw nx k (nx j)
theorem chw_eq {nx : Nat → Option Nat} : ∀ {L : List Nat} {o : Option Nat} {k : Nat}, chn nx o L → L.length ≤ k → chw nx k o = L
  | [], o, k, h, _ => by
    cases (show o = none from h)
    cases k <;> rfl
  | j :: t, o, 0, _, h => absurd h (by simp)
  | j :: t, o, k + 1, h, hl => by
    rw [h.1]; simp only [chw]; rw [chw_eq h.2 (by simpa using hl)]
def cof (X : RS) (r : Nat) : List Nat := chw X.nx 200 (X.fc r)
theorem nd_len : ∀ (n : Nat) (L : List Nat), L.Nodup → (∀ c ∈ L, c < n) → L.length ≤ n
  | 0, [], _, _ => Nat.le_refl _
  | 0, c :: t, _, h => absurd (h c List.mem_cons_self) (by omega)
  | n + 1, L, h1, h2 => by
    have e1 := nd_len n (L.erase n) (h1.erase n) (fun c hc => by
      have q1 := h2 c (List.mem_of_mem_erase hc)
      have q2 : c ≠ n := fun e => by rw [e] at hc; exact absurd hc (List.Nodup.not_mem_erase h1)
      omega)
    have e2 : L.length ≤ (L.erase n).length + 1 := by
      rw [List.length_erase]; split <;> omega
    omega
/-- the chain of record r is L: its live children by address -/
def CH (X : RS) (r : Nat) (L : List Nat) : Prop := chn X.nx (X.fc r) L ∧ L.Pairwise (fun a b => X.pre a < X.pre b) ∧ ∀ c, c ∈ L ↔ c < X.n ∧ X.par c = some r ∧ X.sta c ≠ 4
theorem CH.nd {X : RS} {r : Nat} {L : List Nat} (h : CH X r L) : L.Nodup := h.2.1.imp (fun q e => by rw [e] at q; omega)
theorem CH.len {X : RS} {r : Nat} {L : List Nat} (h : CH X r L) (hn : X.n ≤ 200) : L.length ≤ 200 := Nat.le_trans (nd_len X.n L h.nd (fun c q => ((h.2.2 c).mp q).1)) hn
theorem CH.cof {X : RS} {r : Nat} {L : List Nat} (h : CH X r L) (hn : X.n ≤ 200) : cof X r = L := chw_eq h.1 (h.len hn)
/-- taking r out of a chain -/
theorem unch {nx : Nat → Option Nat} {r : Nat} : ∀ (L : List Nat) (b o : Option Nat), chn nx o L → r ∈ L → L.Nodup → (∀ k, b = some k → k ∉ L) →
    (walkU r b L = b ∧ L.erase r = L.tail ∧ chn nx (nx r) (L.erase r)) ∨ (∃ k, walkU r b L = some k ∧ k ∈ L ∧ k ≠ r ∧ chn (va_up nx k (nx r)) o (L.erase r))
  | [], _, _, _, h, _, _ => nomatch h
  | j :: t, b, o, hc, hm, hn, hb => by
    by_cases e : j = r
    · subst e
      refine Or.inl ⟨by simp [walkU], by simp, ?_⟩
      rw [List.erase_cons_head]; exact hc.2
    · have hr : r ∈ t := by
        cases List.mem_cons.mp hm with
        | inl q => exact absurd q.symm e
        | inr q => exact q
      have hn2 := List.nodup_cons.mp hn
      have ew : walkU r b (j :: t) = walkU r (some j) t := by simp [walkU, e]
      have ee : (j :: t).erase r = j :: t.erase r := List.erase_cons_tail (by simpa using e)
      rw [ew, ee]
      right
      cases unch t (some j) (nx j) hc.2 hr hn2.2 (fun k q => by cases q; exact hn2.1) with
      | inl q =>
        obtain ⟨q1, q2, q3⟩ := q
        refine ⟨j, q1, List.mem_cons_self, e, hc.1, ?_⟩
        rw [va_up_self]
        exact chn_congr q3 (fun i hi => va_up_ne _ _ (fun z => by rw [z] at hi; exact hn2.1 (List.mem_of_mem_erase hi)))
      | inr q =>
        obtain ⟨k, q1, q2, q3, q4⟩ := q
        refine ⟨k, q1, List.mem_cons_of_mem _ q2, q3, hc.1, ?_⟩
        rw [va_up_ne _ _ (fun z => by rw [z] at hn2; exact hn2.1 q2)]
        exact q4
/-- putting r into a chain -/
theorem inch {X : RS} {v : Nat} : ∀ (L : List Nat) (b : Option Nat), ∃ L1 L2, L = L1 ++ L2 ∧ (∀ c ∈ L1, X.pre c < v) ∧ (walkI X v b L).2 = L2.head? ∧ (∀ c, L2.head? = some c → ¬ X.pre c < v) ∧ ((walkI X v b L).1 = b ∧ L1 = [] ∨ ∃ k L0, (walkI X v b L).1 = some k ∧ L1 = L0 ++ [k])
  | [], b => ⟨[], [], rfl, fun _ q => (nomatch q), rfl, fun _ q => (nomatch q), Or.inl ⟨rfl, rfl⟩⟩
  | j :: t, b => by
    by_cases e : X.pre j < v
    · obtain ⟨L1, L2, h1, h2, h3, h4, h5⟩ := inch (X := X) (v := v) t (some j)
      have ew : walkI X v b (j :: t) = walkI X v (some j) t := by simp [walkI, e]
      rw [ew]
      refine ⟨j :: L1, L2, by rw [h1]; rfl, ?_, h3, h4, Or.inr ?_⟩
      · intro c q
        cases List.mem_cons.mp q with
        | inl z => rw [z]; exact e
        | inr z => exact h2 c z
      · cases h5 with
        | inl z => exact ⟨j, [], z.1, by rw [z.2]; rfl⟩
        | inr z => obtain ⟨k, L0, z1, z2⟩ := z; exact ⟨k, j :: L0, z1, by rw [z2]; rfl⟩
    · have ew : walkI X v b (j :: t) = (b, some j) := by simp [walkI, e]
      rw [ew]
      exact ⟨[], j :: t, rfl, fun _ q => (nomatch q), rfl, fun c q => by cases q; exact e, Or.inl ⟨rfl, rfl⟩⟩
theorem chn_head {nx : Nat → Option Nat} {o : Option Nat} {L : List Nat} (h : chn nx o L) : o = L.head? := by
  cases L with
  | nil => exact h
  | cons j t => exact h.1
theorem chn_app {nx nx' : Nat → Option Nat} {k r : Nat} {L2 : List Nat} (h2 : chn nx' (some r) (r :: L2)) (hk : nx' k = some r) : ∀ (L0 : List Nat) (o : Option Nat), chn nx o (L0 ++ [k] ++ L2) → (∀ c ∈ L0, nx' c = nx c) → chn nx' o (L0 ++ [k] ++ r :: L2)
  | [], o, h, _ => ⟨h.1, by rw [hk]; exact h2⟩
  | j :: t, o, h, e => ⟨h.1, by rw [e j List.mem_cons_self]; exact chn_app h2 hk t (nx j) h.2 (fun c q => e c (List.mem_cons_of_mem _ q))⟩
theorem chn_drop {nx : Nat → Option Nat} {L2 : List Nat} : ∀ (L1 : List Nat) (o : Option Nat), chn nx o (L1 ++ L2) → chn nx L2.head? L2
  | [], o, h => by
    have e := chn_head (L := L2) h
    rw [← e]; exact h
  | j :: t, o, h => chn_drop t (nx j) h.2
/-! what holds of a ledger's records between calls -/
def LIV (X : RS) : Prop := RSok X ∧ (∀ j, X.pre j % 2 ^ (32 - X.len j) = 0) ∧
  (∀ c, c < X.n → (X.par c = none → X.lev c = 0) ∧ ∀ p, X.par c = some p → p < c ∧ X.lev c = X.lev p + 1 ∧ (X.sta c ≠ 4 → X.sta p = 1 ∧ X.len p ≤ X.len c ∧ X.pre p ≤ X.pre c ∧ X.pre c + 2 ^ (32 - X.len c) ≤ X.pre p + 2 ^ (32 - X.len p))) ∧
  (∀ a b, a < X.n → b < X.n → a ≠ b → X.par a = X.par b → X.sta a ≠ 4 → X.sta b ≠ 4 → ¬ mt2 (X.pre a) (X.len a) (X.pre b) (X.len b)) ∧
  ∀ r, r < X.n → ∃ L, CH X r L
theorem LIV.ok {X : RS} (h : LIV X) : RSok X := h.1
theorem LIV.al {X : RS} (h : LIV X) (j : Nat) : X.pre j % 2 ^ (32 - X.len j) = 0 := h.2.1 j
theorem LIV.top0 {X : RS} (h : LIV X) {c : Nat} (hc : c < X.n) (q : X.par c = none) : X.lev c = 0 := (h.2.2.1 c hc).1 q
theorem LIV.lt {X : RS} (h : LIV X) {c p : Nat} (hc : c < X.n) (q : X.par c = some p) : p < c := ((h.2.2.1 c hc).2 p q).1
theorem LIV.lv {X : RS} (h : LIV X) {c p : Nat} (hc : c < X.n) (q : X.par c = some p) : X.lev c = X.lev p + 1 := ((h.2.2.1 c hc).2 p q).2.1
theorem LIV.inn {X : RS} (h : LIV X) {c p : Nat} (hc : c < X.n) (q : X.par c = some p) (hs : X.sta c ≠ 4) : X.sta p = 1 ∧ X.len p ≤ X.len c ∧ X.pre p ≤ X.pre c ∧ X.pre c + 2 ^ (32 - X.len c) ≤ X.pre p + 2 ^ (32 - X.len p) := ((h.2.2.1 c hc).2 p q).2.2 hs
theorem LIV.dj {X : RS} (h : LIV X) {a b : Nat} (ha : a < X.n) (hb : b < X.n) (hab : a ≠ b) (hp : X.par a = X.par b) (sa : X.sta a ≠ 4) (sb : X.sta b ≠ 4) : ¬ mt2 (X.pre a) (X.len a) (X.pre b) (X.len b) := h.2.2.2.1 a b ha hb hab hp sa sb
theorem LIV.ch {X : RS} (h : LIV X) {r : Nat} (hr : r < X.n) : CH X r (cof X r) := by
  obtain ⟨L, hL⟩ := h.2.2.2.2 r hr
  rw [hL.cof h.ok.n]; exact hL
theorem LIV.mk {pre len lev hol sta en : Nat → Nat} {par fc nx : Nat → Option Nat} {n : Nat} (h1 : RSok (mkR pre len lev hol sta en par fc nx n)) (h2 : ∀ j, pre j % 2 ^ (32 - len j) = 0)
    (h3 : ∀ c, c < n → (par c = none → lev c = 0) ∧ ∀ p, par c = some p → p < c ∧ lev c = lev p + 1 ∧ (sta c ≠ 4 → sta p = 1 ∧ len p ≤ len c ∧ pre p ≤ pre c ∧ pre c + 2 ^ (32 - len c) ≤ pre p + 2 ^ (32 - len p)))
    (h4 : ∀ a b, a < n → b < n → a ≠ b → par a = par b → sta a ≠ 4 → sta b ≠ 4 → ¬ mt2 (pre a) (len a) (pre b) (len b))
    (h5 : ∀ r, r < n → ∃ L, chn nx (fc r) L ∧ L.Pairwise (fun a b => pre a < pre b) ∧ ∀ c, c ∈ L ↔ c < n ∧ par c = some r ∧ sta c ≠ 4) : LIV (mkR pre len lev hol sta en par fc nx n) := ⟨h1, h2, h3, h4, h5⟩
theorem mt2_comm {a m b n : Nat} : mt2 a m b n ↔ mt2 b n a m := ⟨fun h => ⟨h.2, h.1⟩, fun h => ⟨h.2, h.1⟩⟩
theorem pw_congr {f g : Nat → Nat} {L : List Nat} (h : L.Pairwise (fun a b => f a < f b)) (e : ∀ c ∈ L, g c = f c) : L.Pairwise (fun a b => g a < g b) :=
  List.Pairwise.imp_of_mem (fun {a b} ha hb q => by rw [e a ha, e b hb]; exact q) h
/-- a row more: the fields of the old rows stay, the chains are as told -/
theorem LIV.add {X : RS} (h : LIV X) {p n w v t : Nat} {q0 : Option Nat} {fc nx : Nat → Option Nat} (hn : X.n < 200) (hp : p < 4294967296) (hl : n < 33) (hw : w < 10000) (hv : v = 1 ∨ v = 2) (ht : t < 5) (ha : p % 2 ^ (32 - n) = 0)
    (hq : (q0 = none → t = 0) ∧ ∀ a, q0 = some a → a < X.n ∧ t = X.lev a + 1 ∧ X.sta a = 1 ∧ X.len a ≤ n ∧ X.pre a ≤ p ∧ p + 2 ^ (32 - n) ≤ X.pre a + 2 ^ (32 - X.len a))
    (hd : ∀ r, r < X.n → X.par r = q0 → X.sta r ≠ 4 → ¬ mt2 (X.pre r) (X.len r) p n)
    (hf : ∀ j k, fc j = some k → k < 200) (hx : ∀ j k, nx j = some k → k < 200) (hN : fc X.n = none)
    (hc : ∀ r L, r < X.n → some r ≠ q0 → CH X r L → chn nx (fc r) L)
    (hc0 : ∀ a L, q0 = some a → CH X a L → ∃ L1 L2, L = L1 ++ L2 ∧ chn nx (fc a) (L1 ++ X.n :: L2) ∧ (∀ c ∈ L1, X.pre c < p) ∧ ∀ c, L2.head? = some c → p < X.pre c) :
    LIV (mkR (va_up X.pre X.n p) (va_up X.len X.n n) (va_up X.lev X.n t) (va_up X.hol X.n w) (va_up X.sta X.n v) (va_up X.en X.n 0) (va_up X.par X.n q0) fc nx (X.n + 1)) := by
  have ne : ∀ {c : Nat}, c < X.n → c ≠ X.n := fun q => by omega
  have o := h.ok
  refine LIV.mk (RSok.mk (by omega) (up_all (P := (· < 4294967296)) o.pre hp) (up_all (P := (· < 33)) o.len hl) (up_all (P := (· < 5)) o.lev ht) (up_all (P := (· < 10000)) o.hol hw) (up_all (P := (· < 5)) o.sta (by omega)) (up_all (P := (· < 200000)) o.en (by decide)) (up_all (P := fun z => ∀ k, z = some k → k < 200) (fun j k q => o.par q) (fun k q => by have := (hq.2 k q).1; omega)) hf hx) ?_ ?_ ?_ ?_
  · intro j
    by_cases e : j = X.n
    · rw [e, va_up_self, va_up_self]; exact ha
    · rw [va_up_ne _ _ e, va_up_ne _ _ e]; exact h.al j
  · intro c hc1
    by_cases e : c = X.n
    · subst e
      rw [va_up_self, va_up_self, va_up_self, va_up_self, va_up_self]
      refine ⟨hq.1, fun a q => ?_⟩
      obtain ⟨z1, z2, z3, z4, z5, z6⟩ := hq.2 a q
      rw [va_up_ne _ _ (ne z1), va_up_ne _ _ (ne z1), va_up_ne _ _ (ne z1), va_up_ne _ _ (ne z1)]
      exact ⟨z1, z2, fun _ => ⟨z3, z4, z5, z6⟩⟩
    · have hc2 : c < X.n := by omega
      rw [va_up_ne _ _ e, va_up_ne _ _ e, va_up_ne _ _ e, va_up_ne _ _ e, va_up_ne _ _ e]
      refine ⟨fun q => h.top0 hc2 q, fun a q => ?_⟩
      have z1 : a < X.n := Nat.lt_trans (h.lt hc2 q) hc2
      rw [va_up_ne _ _ (ne z1), va_up_ne _ _ (ne z1), va_up_ne _ _ (ne z1), va_up_ne _ _ (ne z1)]
      exact ⟨h.lt hc2 q, h.lv hc2 q, fun s => h.inn hc2 q s⟩
  · intro a b ha1 hb1 hab
    by_cases e : a = X.n
    · by_cases e2 : b = X.n
      · exact absurd (e.trans e2.symm) hab
      · rw [e, va_up_self, va_up_self, va_up_self, va_up_self, va_up_ne _ _ e2, va_up_ne _ _ e2, va_up_ne _ _ e2, va_up_ne _ _ e2]
        intro q _ s m
        exact hd b (by omega) q.symm s (mt2_comm.mp m)
    · rw [va_up_ne _ _ e, va_up_ne _ _ e, va_up_ne _ _ e, va_up_ne _ _ e]
      by_cases e2 : b = X.n
      · rw [e2, va_up_self, va_up_self, va_up_self, va_up_self]
        intro q s _ m
        exact hd a (by omega) q s m
      · rw [va_up_ne _ _ e2, va_up_ne _ _ e2, va_up_ne _ _ e2, va_up_ne _ _ e2]
        intro q s1 s2
        exact h.dj (by omega) (by omega) hab q s1 s2
  · intro r hr
    by_cases e : r = X.n
    · refine ⟨[], by rw [e]; exact hN, List.Pairwise.nil, fun c => ⟨fun q => (nomatch q), fun q => ?_⟩⟩
      exfalso
      obtain ⟨q1, q2, q3⟩ := q
      by_cases e2 : c = X.n
      · rw [e2, va_up_self] at q2
        have := (hq.2 r q2).1
        omega
      · rw [va_up_ne _ _ e2] at q2
        have := h.lt (show c < X.n by omega) q2
        omega
    · have hr2 : r < X.n := by omega
      have C := h.ch hr2
      by_cases e3 : some r = q0
      · obtain ⟨L1, L2, z1, z2, z3, z4⟩ := hc0 r _ e3.symm C
        have hm : ∀ c, c ∈ L1 ++ L2 ↔ c < X.n ∧ X.par c = some r ∧ X.sta c ≠ 4 := fun c => by rw [← z1]; exact C.2.2 c
        have hs : (L1 ++ L2).Pairwise (fun a b => X.pre a < X.pre b) := by rw [← z1]; exact C.2.1
        refine ⟨L1 ++ X.n :: L2, z2, ?_, fun c => ?_⟩
        · rw [List.pairwise_append] at hs ⊢
          obtain ⟨s1, s2, s3⟩ := hs
          have m1 : ∀ c ∈ L1, c ≠ X.n := fun c q => ne ((hm c).mp (List.mem_append_left _ q)).1
          have m2 : ∀ c ∈ L2, c ≠ X.n := fun c q => ne ((hm c).mp (List.mem_append_right _ q)).1
          have gt : ∀ c ∈ L2, p < X.pre c := by
            cases L2 with
            | nil => exact fun c q => (nomatch q)
            | cons j t =>
              have zj := z4 j rfl
              intro c q
              cases List.mem_cons.mp q with
              | inl q => rw [q]; exact zj
              | inr q => exact Nat.lt_trans zj ((List.pairwise_cons.mp s2).1 c q)
          refine ⟨pw_congr s1 (fun c q => va_up_ne _ _ (m1 c q)), List.pairwise_cons.mpr ⟨fun c q => ?_, pw_congr s2 (fun c q => va_up_ne _ _ (m2 c q))⟩, fun a qa b qb => ?_⟩
          · rw [va_up_self, va_up_ne _ _ (m2 c q)]; exact gt c q
          · rw [va_up_ne _ _ (m1 a qa)]
            cases List.mem_cons.mp qb with
            | inl q => rw [q, va_up_self]; exact z3 a qa
            | inr q => rw [va_up_ne _ _ (m2 b q)]; exact s3 a qa b q
        · rw [List.mem_append, List.mem_cons]
          by_cases e2 : c = X.n
          · rw [e2, va_up_self, va_up_self]
            exact ⟨fun _ => ⟨by omega, e3.symm, by omega⟩, fun _ => Or.inr (Or.inl rfl)⟩
          · rw [va_up_ne _ _ e2, va_up_ne _ _ e2]
            have q := hm c
            rw [List.mem_append] at q
            constructor
            · intro z
              have z : c ∈ L1 ∨ c ∈ L2 := by
                rcases z with z | z | z
                · exact Or.inl z
                · exact absurd z e2
                · exact Or.inr z
              have := q.mp z
              exact ⟨by omega, this.2⟩
            · intro z
              rcases q.mpr ⟨by omega, z.2⟩ with z | z
              · exact Or.inl z
              · exact Or.inr (Or.inr z)
      · refine ⟨cof X r, hc r _ hr2 e3 C, pw_congr C.2.1 (fun c q => va_up_ne _ _ (ne ((C.2.2 c).mp q).1)), fun c => ?_⟩
        by_cases e2 : c = X.n
        · rw [e2, va_up_self, va_up_self]
          exact ⟨fun q => absurd ((C.2.2 _).mp q).1 (by omega), fun q => absurd q.2.1.symm e3⟩
        · rw [va_up_ne _ _ e2, va_up_ne _ _ e2, C.2.2 c]
          exact ⟨fun q => ⟨by omega, q.2⟩, fun q => ⟨by omega, q.2⟩⟩
theorem LIV.top {X : RS} (h : LIV X) {p n w : Nat} (hn : X.n < 200) (hp : p < 4294967296) (hl : n < 33) (hw : w < 10000) (ha : p % 2 ^ (32 - n) = 0) (hd : ∀ r, r < X.n → X.par r = none → X.sta r ≠ 4 → ¬ mt2 (X.pre r) (X.len r) p n) : LIV (rTop X p n w) := by
  refine LIV.add h hn hp hl hw (Or.inl rfl) (by decide) ha ⟨fun _ => rfl, fun a q => (nomatch q)⟩ hd (up_all (P := fun z => ∀ k, z = some k → k < 200) (fun j k q => h.ok.fc q) (fun k q => (nomatch q))) (up_all (P := fun z => ∀ k, z = some k → k < 200) (fun j k q => h.ok.nx q) (fun k q => (nomatch q))) (va_up_self _ _ _) (fun r L hr _ C => ?_) (fun a L q => (nomatch q))
  rw [va_up_ne _ _ (by omega)]
  exact chn_congr C.1 (fun j q => va_up_ne _ _ (by have := ((C.2.2 j).mp q).1; omega))
theorem LIV.bel {X : RS} (h : LIV X) {a p n v : Nat} (hn : X.n < 200) (ha : a < X.n) (hs : X.sta a = 1) (hlv : X.lev a < 4) (hp : p < 4294967296) (hl : X.len a ≤ n ∧ n < 33) (hal : p % 2 ^ (32 - n) = 0) (hin : X.pre a ≤ p ∧ p + 2 ^ (32 - n) ≤ X.pre a + 2 ^ (32 - X.len a))
    (hd : ∀ r, r < X.n → X.par r = some a → X.sta r ≠ 4 → ¬ mt2 (X.pre r) (X.len r) p n) (hv : v = 1 ∨ v = 2) : LIV (rChn (rBel X a p n v) X.n a (cof X a)) := by
  have C := h.ch ha
  have mem : ∀ {r c : Nat} {L : List Nat}, CH X r L → c ∈ L → c < X.n := fun C q => ((C.2.2 _).mp q).1
  obtain ⟨L1, L2, z1, z2, z3, z4, z5⟩ := inch (X := rBel X a p n v) (v := p) (cof X a) none
  have e0 : (rBel X a p n v).pre X.n = p := va_up_self _ _ _
  have epre : ∀ c, c < X.n → (rBel X a p n v).pre c = X.pre c := fun c q => va_up_ne _ _ (by omega)
  have m1 : ∀ c ∈ L1, c < X.n := fun c q => mem C (by rw [z1]; exact List.mem_append_left _ q)
  have m2 : ∀ c ∈ L2, c < X.n := fun c q => mem C (by rw [z1]; exact List.mem_append_right _ q)
  have nd := C.nd
  rw [z1] at nd
  have hz2 : ∀ c ∈ L1, X.pre c < p := fun c q => by rw [← epre c (m1 c q)]; exact z2 c q
  have hz4 : ∀ c, L2.head? = some c → p < X.pre c := fun c q => by
    have hc : c ∈ L2 := List.mem_of_mem_head? q
    have e1 := z4 c q
    rw [epre c (m2 c hc)] at e1
    have e2 := (C.2.2 c).mp (by rw [z1]; exact List.mem_append_right _ hc)
    have e3 := hd c e2.1 e2.2.1 e2.2.2
    have s1 : 0 < 2 ^ (32 - n) := Nat.two_pow_pos _
    have s2 : 0 < 2 ^ (32 - X.len c) := Nat.two_pow_pos _
    unfold mt2 at e3
    omega
  have hfc : ∀ j k, (rBel X a p n v).fc j = some k → k < 200 := up_all (P := fun z => ∀ k, z = some k → k < 200) (fun j k q => h.ok.fc q) (fun k q => (nomatch q))
  have hh : ∀ k, L2.head? = some k → k < 200 := fun k q => by have := m2 k (List.mem_of_mem_head? q); omega
  have hnx : ∀ j k, (rNx (rBel X a p n v) X.n L2.head?).nx j = some k → k < 200 := up_all (P := fun z => ∀ k, z = some k → k < 200) (up_all (P := fun z => ∀ k, z = some k → k < 200) (fun j k q => h.ok.nx q) (fun k q => (nomatch q))) hh
  have enx : ∀ j, j < X.n → (rNx (rBel X a p n v) X.n L2.head?).nx j = X.nx j := fun j q => by
    show va_up (va_up X.nx X.n none) X.n L2.head? j = _
    rw [va_up_ne _ _ (by omega), va_up_ne _ _ (by omega)]
  have enN : (rNx (rBel X a p n v) X.n L2.head?).nx X.n = L2.head? := va_up_self _ _ _
  have ch2 : chn X.nx L2.head? L2 := chn_drop L1 _ (by rw [← z1]; exact C.1)
  unfold rChn
  rw [e0, z3]
  cases z5 with
  | inl z =>
    rw [z.1]
    have eL : L1 = [] := z.2
    subst eL
    refine LIV.add h hn hp hl.2 (h.ok.hol a) hv (by omega) hal ⟨fun q => (nomatch q), fun b q => by cases q; exact ⟨ha, rfl, hs, hl.1, hin.1, hin.2⟩⟩ (fun r hr q s => hd r hr q s) (up_all (P := fun z => ∀ k, z = some k → k < 200) hfc (fun k q => by cases q; exact hn)) hnx ?_ ?_ ?_
    · show va_up (va_up X.fc X.n none) a (some X.n) X.n = none
      rw [va_up_ne _ _ (by omega), va_up_self]
    · intro r L hr hra Cr
      show chn _ (va_up (va_up X.fc X.n none) a (some X.n) r) L
      rw [va_up_ne _ _ (fun e => hra (by rw [e])), va_up_ne _ _ (by omega)]
      exact chn_congr Cr.1 (fun j q => enx j (mem Cr q))
    · intro b L q Cb
      cases q
      have eL2 : L = L2 := by rw [← Cb.cof h.ok.n, z1]; rfl
      refine ⟨[], L2, eL2, ?_, fun c q => (nomatch q), hz4⟩
      show chn _ (va_up (va_up X.fc X.n none) a (some X.n) a) (X.n :: L2)
      rw [va_up_self]
      refine ⟨rfl, ?_⟩
      show chn (rNx (rBel X a p n v) X.n L2.head?).nx ((rNx (rBel X a p n v) X.n L2.head?).nx X.n) L2
      rw [enN]
      exact chn_congr ch2 (fun j q => enx j (m2 j q))
  | inr z =>
    obtain ⟨k, L0, y1, y2⟩ := z
    rw [y1]
    have hk1 : k ∈ L1 := by rw [y2]; exact List.mem_append_right _ List.mem_cons_self
    have hkn := m1 k hk1
    have hkC := (C.2.2 k).mp (by rw [z1]; exact List.mem_append_left _ hk1)
    refine LIV.add h hn hp hl.2 (h.ok.hol a) hv (by omega) hal ⟨fun q => (nomatch q), fun b q => by cases q; exact ⟨ha, rfl, hs, hl.1, hin.1, hin.2⟩⟩ (fun r hr q s => hd r hr q s) hfc (up_all (P := fun z => ∀ k, z = some k → k < 200) hnx (fun k q => by cases q; exact hn)) (va_up_self _ _ _) ?_ ?_
    · intro r L hr hra Cr
      show chn _ (va_up X.fc X.n none r) L
      rw [va_up_ne _ _ (by omega)]
      refine chn_congr Cr.1 (fun j q => ?_)
      show va_up (rNx (rBel X a p n v) X.n L2.head?).nx k (some X.n) j = _
      rw [va_up_ne _ _ (fun e => by rw [e] at q; exact hra (((Cr.2.2 k).mp q).2.1.symm.trans hkC.2.1)), enx j (mem Cr q)]
    · intro b L q Cb
      cases q
      have eL2 : L = L1 ++ L2 := by rw [← Cb.cof h.ok.n, z1]
      refine ⟨L1, L2, eL2, ?_, hz2, hz4⟩
      show chn _ (va_up X.fc X.n none a) (L1 ++ X.n :: L2)
      rw [va_up_ne _ _ (by omega), y2]
      have nd1 := nd
      rw [y2, List.nodup_append] at nd1
      obtain ⟨n1, n2, n3⟩ := nd1
      rw [List.nodup_append] at n1
      refine chn_app (nx := X.nx) ⟨rfl, ?_⟩ (va_up_self _ _ _) L0 _ (by rw [← y2, ← z1]; exact C.1) (fun c q => ?_)
      · show chn (va_up (rNx (rBel X a p n v) X.n L2.head?).nx k (some X.n)) ((va_up (rNx (rBel X a p n v) X.n L2.head?).nx k (some X.n)) X.n) L2
        rw [va_up_ne _ _ (by omega), enN]
        refine chn_congr ch2 (fun j q => ?_)
        rw [va_up_ne _ _ (fun e => n3 k (List.mem_append_right _ List.mem_cons_self) j q e.symm), enx j (m2 j q)]
      · show va_up (rNx (rBel X a p n v) X.n L2.head?).nx k (some X.n) c = _
        rw [va_up_ne _ _ (n1.2.2 c q k List.mem_cons_self), enx c (m1 c (by rw [y2]; exact List.mem_append_left _ q))]
/-- another state of a row; it isn't returned and was not -/
theorem LIV.sta {X : RS} (h : LIV X) {r v : Nat} (hr : r < X.n) (hs : X.sta r ≠ 4) (hv : v ≠ 4) (hv5 : v < 5) (hc : v = 1 ∨ ∀ c, c < X.n → X.par c = some r → X.sta c = 4) : LIV (rSta X r v) := by
  have e4 : ∀ c, va_up X.sta r v c ≠ 4 ↔ X.sta c ≠ 4 := fun c => by
    by_cases e : c = r
    · rw [e, va_up_self]; exact ⟨fun _ => hs, fun _ => hv⟩
    · rw [va_up_ne _ _ e]
  refine LIV.mk (h.ok.sta4 hv5) h.al ?_ ?_ ?_
  · intro c hc1
    refine ⟨fun q => h.top0 hc1 q, fun p q => ⟨h.lt hc1 q, h.lv hc1 q, fun s => ?_⟩⟩
    obtain ⟨z1, z2⟩ := h.inn hc1 q ((e4 c).mp s)
    refine ⟨?_, z2⟩
    by_cases e : p = r
    · rw [e, va_up_self]
      cases hc with
      | inl z => exact z
      | inr z => exact absurd (z c hc1 (by rw [q, e])) ((e4 c).mp s)
    · rw [va_up_ne _ _ e]; exact z1
  · intro a b ha hb hab q s1 s2
    exact h.dj ha hb hab q ((e4 a).mp s1) ((e4 b).mp s2)
  · intro r2 hr2
    have C := h.ch hr2
    exact ⟨cof X r2, C.1, C.2.1, fun c => by rw [C.2.2 c, e4 c]⟩
/-- other numbers that nothing hangs on -/
theorem LIV.enf {X : RS} (h : LIV X) {ho en : Nat → Nat} (h1 : ∀ j, ho j < 10000) (h2 : ∀ j, en j < 200000) : LIV (mkR X.pre X.len X.lev ho X.sta en X.par X.fc X.nx X.n) :=
  LIV.mk (RSok.mk h.ok.n h.ok.pre h.ok.len h.ok.lev h1 h.ok.sta h2 (fun j k q => h.ok.par q) (fun j k q => h.ok.fc q) (fun j k q => h.ok.nx q)) h.al h.2.2.1 h.2.2.2.1 (fun r hr => ⟨cof X r, h.ch hr⟩)
theorem LIV.clr {X : RS} (h1 : RSok X) (h2 : ∀ j, X.pre j % 2 ^ (32 - X.len j) = 0) : LIV (rClr X) :=
  LIV.mk (RSok.mk (by decide) h1.pre h1.len h1.lev h1.hol h1.sta h1.en (fun j k q => h1.par q) (fun j k q => h1.fc q) (fun j k q => h1.nx q)) h2 (fun c q => absurd q (by omega)) (fun a b q => absurd q (by omega)) (fun r q => absurd q (by omega))
/-- another block of a row -/
theorem LIV.rng {X : RS} (h : LIV X) {r p n : Nat} (hr : r < X.n) (hs : X.sta r ≠ 4) (hp : p < 4294967296) (hn : n < 33) (ha : p % 2 ^ (32 - n) = 0)
    (hq : ∀ a, X.par r = some a → X.len a ≤ n ∧ X.pre a ≤ p ∧ p + 2 ^ (32 - n) ≤ X.pre a + 2 ^ (32 - X.len a))
    (hc : ∀ c, c < X.n → X.par c = some r → X.sta c ≠ 4 → n ≤ X.len c ∧ p ≤ X.pre c ∧ X.pre c + 2 ^ (32 - X.len c) ≤ p + 2 ^ (32 - n))
    (hd : ∀ c, c < X.n → c ≠ r → X.par c = X.par r → X.sta c ≠ 4 → ¬ mt2 (X.pre c) (X.len c) p n)
    (hw : mt2 (X.pre r) (X.len r) p n) : LIV (mkR (va_up X.pre r p) (va_up X.len r n) X.lev X.hol X.sta X.en X.par X.fc X.nx X.n) := by
  have o := h.ok
  refine LIV.mk (RSok.mk o.n (up_all (P := (· < 4294967296)) o.pre hp) (up_all (P := (· < 33)) o.len hn) o.lev o.hol o.sta o.en (fun j k q => o.par q) (fun j k q => o.fc q) (fun j k q => o.nx q)) ?_ ?_ ?_ ?_
  · intro j
    by_cases e : j = r
    · rw [e, va_up_self, va_up_self]; exact ha
    · rw [va_up_ne _ _ e, va_up_ne _ _ e]; exact h.al j
  · intro c hc1
    refine ⟨fun q => h.top0 hc1 q, fun a q => ⟨h.lt hc1 q, h.lv hc1 q, fun s => ?_⟩⟩
    obtain ⟨z1, z2⟩ := h.inn hc1 q s
    refine ⟨z1, ?_⟩
    have hlt := h.lt hc1 q
    by_cases e : a = r
    · rw [e, va_up_self, va_up_self, va_up_ne _ _ (show c ≠ r by omega), va_up_ne _ _ (show c ≠ r by omega)]
      exact hc c hc1 (by rw [q, e]) s
    · rw [va_up_ne _ _ e, va_up_ne _ _ e]
      by_cases e2 : c = r
      · rw [e2, va_up_self, va_up_self]
        exact hq a (by rw [← e2]; exact q)
      · rw [va_up_ne _ _ e2, va_up_ne _ _ e2]; exact z2
  · intro a b ha1 hb1 hab q s1 s2
    by_cases e : a = r
    · have e2 : b ≠ r := fun z => hab (e.trans z.symm)
      rw [e, va_up_self, va_up_self, va_up_ne _ _ e2, va_up_ne _ _ e2]
      exact fun m => hd b hb1 e2 (by rw [← e]; exact q.symm) s2 (mt2_comm.mp m)
    · rw [va_up_ne _ _ e, va_up_ne _ _ e]
      by_cases e2 : b = r
      · rw [e2, va_up_self, va_up_self]
        exact hd a ha1 e (by rw [← e2]; exact q) s1
      · rw [va_up_ne _ _ e2, va_up_ne _ _ e2]
        exact h.dj ha1 hb1 hab q s1 s2
  · intro r2 hr2
    have C := h.ch hr2
    refine ⟨cof X r2, C.1, ?_, C.2.2⟩
    refine List.Pairwise.imp_of_mem (fun {a b} qa qb q => ?_) C.2.1
    have ma := (C.2.2 a).mp qa
    have mb := (C.2.2 b).mp qb
    have pz := Nat.two_pow_pos (32 - X.len a)
    have pz2 := Nat.two_pow_pos (32 - X.len b)
    have pz3 := Nat.two_pow_pos (32 - n)
    by_cases e : a = r
    · have e2 : b ≠ r := fun z => by rw [e, z] at q; omega
      rw [e, va_up_self, va_up_ne _ _ e2]
      have d1 := hd b mb.1 e2 (by rw [mb.2.1, ← e, ma.2.1]) mb.2.2
      have d2 := h.dj mb.1 ma.1 (fun z => by rw [z] at q; omega) (by rw [mb.2.1, ma.2.1]) mb.2.2 ma.2.2
      rw [e] at q d2 pz
      unfold mt2 at d1 d2 hw
      omega
    · rw [va_up_ne _ _ e]
      by_cases e2 : b = r
      · rw [e2, va_up_self]
        have d1 := hd a ma.1 e (by rw [ma.2.1, ← e2, mb.2.1]) ma.2.2
        have d2 := h.dj ma.1 mb.1 (fun z => by rw [z] at q; omega) (by rw [mb.2.1, ma.2.1]) ma.2.2 mb.2.2
        rw [e2] at q d2 pz2
        unfold mt2 at d1 d2 hw
        omega
      · rw [va_up_ne _ _ e2]; exact q
/-- a row that is returned goes out of its parent's chain -/
theorem LIV.ret {X : RS} (h : LIV X) {r : Nat} (hr : r < X.n) (hs : X.sta r ≠ 4) (hc : ∀ c, c < X.n → X.par c = some r → X.sta c = 4) : LIV (rRet X r (cof X ((X.par r).getD 0))) := by
  have o := h.ok
  have e4 : ∀ c, va_up X.sta r 4 c ≠ 4 ↔ X.sta c ≠ 4 ∧ c ≠ r := fun c => by
    by_cases e : c = r
    · rw [e, va_up_self]; exact ⟨fun q => absurd rfl q, fun q => absurd rfl q.2⟩
    · rw [va_up_ne _ _ e]; exact ⟨fun q => ⟨q, e⟩, fun q => q.1⟩
  have key : ∀ (fc nx : Nat → Option Nat), (∀ j k, fc j = some k → k < 200) → (∀ j k, nx j = some k → k < 200) → (∀ r2, r2 < X.n → some r2 ≠ X.par r → chn nx (fc r2) (cof X r2)) → (∀ p, X.par r = some p → chn nx (fc p) ((cof X p).erase r)) → LIV (mkR X.pre X.len X.lev X.hol (va_up X.sta r 4) X.en X.par fc nx X.n) := by
    intro fc nx hf hx h1 h2
    refine LIV.mk (RSok.mk o.n o.pre o.len o.lev o.hol (up_all (P := (· < 5)) o.sta (by decide)) o.en (fun j k q => o.par q) hf hx) h.al ?_ ?_ ?_
    · intro c hc1
      refine ⟨fun q => h.top0 hc1 q, fun p q => ⟨h.lt hc1 q, h.lv hc1 q, fun s => ?_⟩⟩
      have s1 := (e4 c).mp s
      obtain ⟨z1, z2⟩ := h.inn hc1 q s1.1
      refine ⟨?_, z2⟩
      rw [va_up_ne _ _ (fun e => s1.1 (hc c hc1 (by rw [q, e])))]; exact z1
    · intro a b ha hb hab q s1 s2
      exact h.dj ha hb hab q ((e4 a).mp s1).1 ((e4 b).mp s2).1
    · intro r2 hr2
      have C := h.ch hr2
      by_cases e : some r2 = X.par r
      · refine ⟨(cof X r2).erase r, h2 r2 e.symm, C.2.1.sublist List.erase_sublist, fun c => ?_⟩
        rw [C.nd.mem_erase_iff, C.2.2 c, e4 c]
        exact ⟨fun q => ⟨q.2.1, q.2.2.1, q.2.2.2, q.1⟩, fun q => ⟨q.2.2.2, q.1, q.2.1, q.2.2.1⟩⟩
      · refine ⟨cof X r2, h1 r2 hr2 e, C.2.1, fun c => ?_⟩
        rw [C.2.2 c, e4 c]
        exact ⟨fun q => ⟨q.1, q.2.1, q.2.2, fun z => e (by rw [← z]; exact q.2.1.symm)⟩, fun q => ⟨q.1, q.2.1, q.2.2.1⟩⟩
  unfold rRet
  cases ep : X.par r with
  | none => exact key X.fc X.nx (fun j k q => o.fc q) (fun j k q => o.nx q) (fun r2 hr2 _ => (h.ch hr2).1) (fun p q => by rw [ep] at q; exact nomatch q)
  | some p =>
    have hp : p < X.n := Nat.lt_trans (h.lt hr ep) hr
    have C := h.ch hp
    show LIV (rUnc (rSta X r 4) r p (cof X p))
    unfold rUnc
    have hm : r ∈ cof X p := (C.2.2 r).mpr ⟨hr, ep, hs⟩
    have hxr : ∀ k, X.nx r = some k → k < 200 := fun k q => o.nx q
    cases unch (cof X p) none (X.fc p) C.1 hm C.nd (fun k q => (nomatch q)) with
    | inl q =>
      obtain ⟨q1, q2, q3⟩ := q
      rw [q1]
      refine key (va_up X.fc p (X.nx r)) X.nx (up_all (P := fun z => ∀ k, z = some k → k < 200) (fun j k q => o.fc q) hxr) (fun j k q => o.nx q) (fun r2 hr2 e => ?_) (fun p2 e => ?_)
      · rw [va_up_ne _ _ (fun z => e (by rw [z, ep]))]; exact (h.ch hr2).1
      · rw [ep] at e; cases e; rw [va_up_self]; exact q3
    | inr q =>
      obtain ⟨k, q1, q2, q3, q4⟩ := q
      rw [q1]
      refine key X.fc (va_up X.nx k (X.nx r)) (fun j k q => o.fc q) (up_all (P := fun z => ∀ k, z = some k → k < 200) (fun j k q => o.nx q) hxr) (fun r2 hr2 e => ?_) (fun p2 e => ?_)
      · have C2 := h.ch hr2
        refine chn_congr C2.1 (fun j z => va_up_ne _ _ (fun z2 => ?_))
        rw [z2] at z
        have a1 := ((C2.2.2 k).mp z).2.1
        have a2 := ((C.2.2 k).mp q2).2.1
        exact e (by rw [← a1, a2, ep])
      · rw [ep] at e; cases e; exact q4
/-- a new day: row after row -/
def bgd (n : Nat) : Nat → Nat → RS → Nat → RS × Nat
  | _, 0, Y, sm => (Y, sm)
  | i, k + 1, Y, sm => if Y.sta i = 3 ∧ Y.en i ≤ n then bgd n (i + 1) k (rRet Y i (cof Y ((Y.par i).getD 0))) (sm + 1) else bgd n (i + 1) k Y sm
theorem rRet_n (X : RS) (r : Nat) (L : List Nat) : (rRet X r L).n = X.n := by
  unfold rRet
  cases X.par r with
  | none => rfl
  | some p => rfl
theorem LIV.noch {X : RS} (h : LIV X) {r : Nat} (hs : X.sta r ≠ 1) : ∀ c, c < X.n → X.par c = some r → X.sta c = 4 := fun c hc q => by
  by_cases e : X.sta c = 4
  · exact e
  · exact absurd (h.inn hc q e).1 hs
theorem LIV.bgd1 {X : RS} (h : LIV X) {i : Nat} (hi : i < X.n) (hs : X.sta i = 3) : LIV (rRet X i (cof X ((X.par i).getD 0))) := h.ret hi (by omega) (h.noch (by omega))
theorem LIV.bgdF {n : Nat} : ∀ (k i : Nat) (X : RS) (sm : Nat), LIV X → i + k = X.n → LIV (bgd n i k X sm).1 ∧ (bgd n i k X sm).1.n = X.n
  | 0, _, X, _, h, _ => ⟨h, rfl⟩
  | k + 1, i, X, sm, h, e => by
    simp only [bgd]
    split
    · rename_i q
      have z := LIV.bgdF (n := n) k (i + 1) _ (sm + 1) (h.bgd1 (by omega) q.1) (by rw [rRet_n]; omega)
      rw [rRet_n] at z
      exact z
    · exact LIV.bgdF k (i + 1) X sm h (by omega)
