/-! building all again from the log -/
abbrev lClr (S : LDS) : LDS := (rClr S.X, pol0 S.pol, 0, 0, S.wk)
abbrev ptOK (pt : Nat → Int32) (j : Nat) (x : Nat × Nat × Nat × Nat) : Prop := pt (j * 4) = nI x.1 ∧ pt (j * 4 + 1) = nI x.2.1 ∧ pt (j * 4 + 2) = nI x.2.2.1 ∧ pt (j * 4 + 3) = nI x.2.2.2
theorem pol0_le {pol : Nat → Nat} (h : ∀ v, pol v ≤ 1000) : ∀ v, pol0 pol v ≤ 1000 := up_all (P := (· ≤ 1000)) (up_all (P := (· ≤ 1000)) (up_all (P := (· ≤ 1000)) (up_all (P := (· ≤ 1000)) h (by decide)) (by decide)) (by decide)) (by decide)
theorem pol0_0 (pol : Nat → Nat) {i : Nat} (h : i < 4) : pol0 pol i = 0 := by
  have c : i = 0 ∨ i = 1 ∨ i = 2 ∨ i = 3 := by omega
  unfold pol0
  rcases c with rfl | rfl | rfl | rfl
  · rw [va_up_ne _ _ (by decide), va_up_ne _ _ (by decide), va_up_ne _ _ (by decide), va_up_self]
  · rw [va_up_ne _ _ (by decide), va_up_ne _ _ (by decide), va_up_self]
  · rw [va_up_ne _ _ (by decide), va_up_self]
  · rw [va_up_self]
theorem LOK.clr {S : LDS} (h : LOK S) : LOK (lClr S) := by
  have c := LIV.clr h.2.ok h.2.al
  exact ⟨⟨c.ok, pol0_le h.1.2.1, Nat.zero_le _, Nat.zero_le _⟩, c⟩
theorem EQV.clr (S : LDS) : EQV (lClr S) S00 := ⟨V00, ⟨rfl, fun j hj => absurd hj (by show ¬ j < 0; omega), fun i hi => (pol0_0 S.pol hi).symm, rfl, rfl⟩, ⟨rfl, fun j hj => absurd hj (by show ¬ j < 0; omega), fun _ _ => rfl, rfl, rfl⟩⟩
theorem acAll_eqv : ∀ {E : List (Nat × Nat × Nat × Nat)} {S T : LDS}, EQV S T → LOK S → LOK T → acAll T E → acAll S E
  | [], _, _, _, _, _, _ => trivial
  | e :: t, S, T, h, oS, oT, a => by
    have s := h.symm.step oT oS a.1
    exact ⟨s.1, acAll_eqv (E := t) s.2.symm (oS.step s.1) (oT.step a.1) a.2⟩
theorem acX_ag {S : LDS} {V : MS} (h : SIM S V 200 1) (v : VOK V) (hO : LOK S) : ∀ {e : Nat × Nat × Nat × Nat}, acX S e → agOK V e
  | (0, e1, e2, e3), a => a.elim
  | (1, e1, e2, e3), a => by show V.mn 1 < 200; rw [h.mn]; exact a.1
  | (2, e1, e2, e3), a => by
    obtain ⟨q1, q2, q3, q4, q5, q6⟩ := askN_0 (show askN S.X (cof S.X) S.pol (bkX S.X) e1 e2 = 0 from a.1)
    have hn := hO.2.ok.n
    have h3 : e3 < 2 := a.2
    show V.mn 1 < 200 ∧ 200 + e1 < 400 ∧ e3 < 4294967296 ∧ e2 < 33 ∧ V.pre (200 + e1) + 2 ^ (32 - V.len (200 + e1)) ≤ 4294967296
    rw [h.mn]
    exact ⟨by omega, by omega, by omega, by omega, al_top (v.1.len _) (v.1.pre _) (v.2 _)⟩
  | (3, e1, e2, e3), a => by
    obtain ⟨q1, q2⟩ := rsvN_0 (show rsvN S.X (cof S.X) e1 e2 e3 = 0 from a.1)
    have hn := hO.2.ok.n
    show V.mn 1 < 200 ∧ 200 + e1 < 400
    rw [h.mn]; omega
  | (4, e1, e2, e3), a => by
    have hn := hO.2.ok.n
    have hx : e1 < S.X.n := a.1.1
    show 200 + e1 < 400; omega
  | (5, e1, e2, e3), a => by
    have hn := hO.2.ok.n
    have hx : e1 < S.X.n := a.1.1
    show 200 + e1 < 400; omega
  | (6, e1, e2, e3), a => by
    obtain ⟨⟨hx, hs⟩, q, hq, hl, hf⟩ := groN_1 (show groN S.X (cof S.X) e1 = 0 from a.1)
    have hn := hO.2.ok.n
    show 200 + e1 < 400 ∧ 1 ≤ V.len (200 + e1)
    rw [h.len hx]; omega
  | (7, e1, e2, e3), a => by
    obtain ⟨⟨⟨hx, hs⟩, hq⟩, hl, hf⟩ := shrN_1 (show shrN S.X (cof S.X) e1 (decide (e2 = 1)) = 0 from a.1)
    have hn := hO.2.ok.n
    have h2 : e2 < 2 := a.2.1
    show 200 + e1 < 400 ∧ V.len (200 + e1) < 32 ∧ e2 < 4294967296
    rw [h.len hx]; omega
  | (8, e1, e2, e3), a => by
    have hn := hO.2.ok.n
    have hx : e1 < S.X.n := a.1.1
    have hw : e2 ≤ 9999 := a.1.2.1
    have g := h.rng (by decide) rfl (show e1 < 200 by omega)
    show 200 + e1 < 400 ∧ (∀ c q, sbN (200 + e1) ≤ c → c < ebN V (200 + e1) → V.par c = some q → sbN (200 + e1) ≤ q ∧ q < c) ∧ e2 < 10000
    refine ⟨by omega, fun c q c1 c2 c3 => ?_, by omega⟩
    rw [g.1] at c1 ⊢
    have g2 := g.2
    obtain ⟨j, rfl⟩ : ∃ j, c = 200 + j := ⟨c - 200, by omega⟩
    have hj : j < S.X.n := by omega
    rw [h.par hj] at c3
    cases ep : S.X.par j with
    | none => rw [ep] at c3; exact nomatch c3
    | some p =>
      rw [ep] at c3
      have : 200 + p = q := by simpa using c3
      have := hO.2.lt hj ep
      omega
  | (9, e1, e2, e3), a => by
    have : e1 < 4 := a.1.1
    show e1 ≤ 3; omega
  | (10, e1, e2, e3), a => a.1.2
  | (11, e1, e2, e3), a => trivial
  | (_ + 12, e1, e2, e3), a => a.elim
/-- both go through the log together -/
theorem rep_go {S : LDS} (oS : LOK S) : ∀ {E : List (Nat × Nat × Nat × Nat)} {T : LDS} {V : MS}, LOK T → VOK V → SIM T V 200 1 → SIM S V 0 0 → acAll T E → rpOK V E ∧ VOK (rpV V E) ∧ SIM (agAll T E) (rpV V E) 200 1 ∧ SIM S (rpV V E) 0 0 ∧ (rpV V E).kd = V.kd ∧ (rpV V E).fi = V.fi ∧ (rpV V E).se = V.se ∧ (rpV V E).th = V.th ∧ (rpV V E).ne = V.ne ∧ (rpV V E).tc = V.tc
  | [], T, V, _, v, h2, h1, _ => ⟨trivial, v, h2, h1, rfl, rfl, rfl, rfl, rfl, rfl⟩
  | e :: t, T, V, oT, v, h2, h1, a => by
    have v' := v.ef h2 oT (by decide) rfl a.1
    have s' := h2.efE oT (by decide) rfl a.1
    have s1 := h1.half (HALF.ef h2 oT (by decide) rfl (b2 := 0) (d2 := 0) rfl (by decide) (by decide) a.1) oS.2.ok.n
    obtain ⟨l1, l2, l3, l4, l5, l6⟩ := efV_log V 200 1 e
    rw [← agV_ef] at v' s' s1 l1 l2 l3 l4 l5 l6
    obtain ⟨r1, r2, r3, r4, r5, r6, r7, r8, r9, r10⟩ := rep_go oS (E := t) (oT.step a.1) v' s' s1 a.2
    exact ⟨⟨acX_ag h2 v oT a.1, v'.1, r1⟩, r2, r3, r4, r5.trans l1, r6.trans l2, r7.trans l3, r8.trans l4, r9.trans l5, r10.trans l6⟩
theorem VOK.rst {V : MS} (v : VOK V) : VOK (vRst V) := ⟨vRst_ok v.1, v.2⟩
theorem SIM.rst {S : LDS} {V : MS} (S2 : LDS) (h : SIM S V 0 0) (hn : S.X.n ≤ 200) : SIM S (vRst V) 0 0 ∧ SIM (lClr S2) (vRst V) 200 1 := by
  constructor
  · refine h.half ⟨(show va_up V.mn 1 0 0 = V.mn 0 from va_up_ne _ _ (by decide)), fun j hj => ⟨rfl, rfl, rfl, rfl, rfl, rfl, rfl⟩, fun i hi => ?_, (show va_up V.tdy 1 0 0 = V.tdy 0 from va_up_ne _ _ (by decide)), (show va_up V.dys 1 0 0 = V.dys 0 from va_up_ne _ _ (by decide))⟩ hn
    show va_up (va_up (va_up (va_up V.pol 4 0) 5 0) 6 0) 7 0 (4 * 0 + i) = _
    rw [va_up_ne _ _ (by omega), va_up_ne _ _ (by omega), va_up_ne _ _ (by omega), va_up_ne _ _ (by omega)]
  · refine ⟨(show va_up V.mn 1 0 1 = 0 from va_up_self _ _ _), fun j hj => absurd hj (by show ¬ j < 0; omega), fun i hi => ?_, (show va_up V.tdy 1 0 1 = 0 from va_up_self _ _ _), (show va_up V.dys 1 0 1 = 0 from va_up_self _ _ _)⟩
    show va_up (va_up (va_up (va_up V.pol 4 0) 5 0) 6 0) 7 0 (4 * 1 + i) = pol0 S2.pol i
    rw [pol0_0 _ hi]
    have c : i = 0 ∨ i = 1 ∨ i = 2 ∨ i = 3 := by omega
    rcases c with rfl | rfl | rfl | rfl
    · rw [va_up_ne _ _ (by decide), va_up_ne _ _ (by decide), va_up_ne _ _ (by decide)]; exact va_up_self _ _ _
    · rw [va_up_ne _ _ (by decide), va_up_ne _ _ (by decide)]; exact va_up_self _ _ _
    · rw [va_up_ne _ _ (by decide)]; exact va_up_self _ _ _
    · exact va_up_self _ _ _
def wRep (S S2 : LDS) (pt : Nat → Int32) (jn k9 : Nat) (es : List (Nat × Nat × Nat × Nat)) (k : Nat) (v : Int64) (u : US) : Prop :=
  (k = 0 ∧ k9 ≤ jn ∧ v = (nI (agAll (lClr S2) es).X.n).toInt64 ∧ u = (S, agAll (lClr S2) es, pt, jn)) ∨ (k = 1 ∧ ¬ k9 ≤ jn ∧ u = (S, S2, pt, jn))
theorem iv_replay {S S2 : LDS} {pt : Nat → Int32} {jn : Nat} {V : MS} (h : INV (S, S2, pt, jn) V) (k9 : Nat) : ∃ es : List (Nat × Nat × Nat × Nat), (k9 ≤ V.ne → es.length = k9 ∧ rpOK (vRst V) es ∧ ∀ j x, es[j]? = some x → entOK V j x) ∧ (k9 ≤ jn → es.length = k9 ∧ acAll (lClr S2) es ∧ ∀ j x, es[j]? = some x → ptOK pt j x) ∧ ∀ k v u, wRep S S2 pt jn k9 es k v u → k = (moRep V k9 es).tc ∧ (k = 0 → v = (nI (moRepR V k9 es)).toInt64) ∧ INV u (moRep V k9 es) := by
  have hj := h.jn
  obtain ⟨⟨hv, oS, oS2⟩, ⟨s1, s2⟩, ⟨hj2, hl⟩, E, hE, hen, hac, heq⟩ := id h
  simp only at oS oS2 s1 s2 hj2 hl heq
  have ac2 : acAll (lClr S2) (E.take k9) := acAll_eqv (EQV.clr S2) oS2.clr S00_ok (acAll_take E S00 k9 hac)
  have r0 := s1.rst S2 oS.2.ok.n
  obtain ⟨r1, r2, r3, r4, r5, r6, r7, r8, r9, r10⟩ := rep_go oS oS2.clr hv.rst r0.2 r0.1 ac2
  have len : k9 ≤ V.ne → (E.take k9).length = k9 := fun q => by rw [List.length_take]; omega
  have get : ∀ j x, (E.take k9)[j]? = some x → E[j]? = some x ∧ j < V.ne := fun j x q => by
    have q2 : j < (E.take k9).length := by
      by_cases z : j < (E.take k9).length
      · exact z
      · rw [List.getElem?_eq_none (by omega)] at q; exact nomatch q
    rw [List.length_take] at q2
    rw [List.getElem?_take_of_lt (by omega)] at q
    exact ⟨q, by omega⟩
  refine ⟨E.take k9, fun q => ⟨len q, r1, fun j x q => hen j x (get j x q).1⟩, fun q => ⟨len (by omega), ac2, fun j x q => ?_⟩, fun k v u q => ?_⟩
  · have g := get j x q
    have y := hen j x g.1
    have z := hl j g.2
    exact ⟨z.1.trans y.1, z.2.1.trans y.2.1, z.2.2.1.trans y.2.2.1, z.2.2.2.trans y.2.2.2⟩
  · unfold moRep moRepR
    rcases q with ⟨rfl, q1, rfl, rfl⟩ | ⟨rfl, q1, rfl⟩
    · rw [if_pos (by omega), if_pos (by omega), r3.mn]
      refine ⟨r10.symm, fun _ => rfl, ⟨r2, oS, oS2.clr.all ac2⟩, ⟨r4, r3⟩, ⟨by rw [r9]; exact hj, fun k hk => ?_⟩, E, by rw [r9]; exact hE, fun j x q => ?_, hac, heq⟩
      · rw [r9] at hk
        rw [r5, r6, r7, r8]
        exact hl k hk
      · have y := hen j x q
        show (rpV (vRst V) (E.take k9)).kd j = _ ∧ (rpV (vRst V) (E.take k9)).fi j = _ ∧ (rpV (vRst V) (E.take k9)).se j = _ ∧ (rpV (vRst V) (E.take k9)).th j = _
        rw [r5, r6, r7, r8]
        exact y
    · rw [if_neg (by omega)]
      exact ⟨rfl, fun q => absurd q (by decide), h.tc 1 V.fo V.fl⟩
/-! a record that isn't made has one block: itself -/
theorem blk_lone {V : MS} {r : Nat} (v : VOK V) (hn : ∀ c, sbN r ≤ c → c < ebN V r → V.par c ≠ some r) : (blkL V r).length ≤ 1 := by
  have ht : ∀ p n, tkN V r p n = none := fun p n => by
    unfold tkN
    refine (lastF_none _ _ _).mpr ⟨rfl, fun j j1 j2 => ?_⟩
    unfold tkP
    have := hn j j1 (by omega)
    simp [this]
  have hs := al_top (v.1.len r) (v.1.pre r) (v.2 r)
  have z := Nat.two_pow_pos (32 - V.len r)
  have sk : ∀ k a, skF V r k a = a := fun k a => by
    cases k with
    | zero => rfl
    | succ k =>
      simp only [skF]
      rw [ht]
      split <;> rfl
  have sk2 : ∀ a, skN V r a = a := fun a => sk _ a
  have hb : blF V r (V.pre r) 32 ≤ V.len r := by
    have l33 := v.1.len r
    have k2 : ∀ m, V.len r ≤ m → m < 33 → blF V r (V.pre r) m ≤ V.len r := by
      intro m
      induction m with
      | zero => intro h1 _; simp only [blF]; omega
      | succ m ih =>
        intro h1 h2
        simp only [blF]
        by_cases q : V.len r ≤ m
        · have a1 : V.pre r % 2 ^ (32 - m) = 0 := al_more q (by omega) (v.2 r)
          have m1 : mt2 (V.pre r) (V.len r) (V.pre r) m := (sub_mt q (by omega) (v.2 r) a1).mpr ⟨Nat.le_refl _, by have := sz_le q; omega⟩
          rw [if_pos ⟨a1, q, (mt_iff (by omega) l33 a1 (v.2 r)).mp (mt2_comm.mp m1), ht _ _⟩]
          exact ih q (by omega)
        · split
          · exfalso
            rename_i w
            exact q w.2.1
          · omega
    exact k2 32 (by omega) (by decide)
  have two : ∀ k a, V.pre r + 2 ^ (32 - V.len r) ≤ a → blkF V r k a = [] := fun k a ha => by
    cases k with
    | zero => rfl
    | succ k =>
      simp only [blkF]
      rw [sk2, if_neg (by omega)]
  obtain ⟨e, he⟩ : ∃ e, V.pre r + 2 ^ (32 - V.len r) = e + 1 := ⟨V.pre r + 2 ^ (32 - V.len r) - 1, by omega⟩
  have sl := sz_le hb
  have e1 : blkL V r = blkF V r (e + 1) (V.pre r) := by unfold blkL; rw [he]
  rw [e1]
  simp only [blkF]
  rw [sk2]
  split
  · rw [two _ _ (by omega)]; exact Nat.le_refl _
  · exact Nat.zero_le _
theorem INV.hln {S S2 : LDS} {pt : Nat → Int32} {jn : Nat} {V : MS} (h : INV (S, S2, pt, jn) V) (r : Nat) : (blkL V r).length < 2147483648 := by
  have v := h.1.1
  have part : ∀ {T : LDS} {b d : Nat}, SIM T V b d → LOK T → d < 2 → b = 200 * d → ∀ c q, b ≤ c → c < b + V.mn d → V.par c = some q → b ≤ q ∧ q < c := by
    intro T b d s o hd hb c q c1 c2 c3
    rw [s.mn] at c2
    obtain ⟨j, rfl⟩ : ∃ j, c = b + j := ⟨c - b, by omega⟩
    have hj : j < T.X.n := by omega
    rw [s.par hj] at c3
    cases ep : T.X.par j with
    | none => rw [ep] at c3; exact nomatch c3
    | some p =>
      rw [ep] at c3
      have : b + p = q := by simpa using c3
      have := o.2.lt hj ep
      omega
  have lone : ∀ (b d : Nat), sbN r = b → ebN V r = b + V.mn d → (∀ c q, b ≤ c → c < b + V.mn d → V.par c = some q → b ≤ q ∧ q < c) → ¬ r < b + V.mn d → (blkL V r).length < 2147483648 := by
    intro b d h1 h2 h3 h4
    have := blk_lone v (r := r) (fun c c1 c2 c3 => by
      rw [h1] at c1; rw [h2] at c2
      have := h3 c r c1 c2 c3
      omega)
    omega
  by_cases q : r < 200
  · by_cases q2 : r < S.X.n
    · have e := h.s1.blkE h.o1.2 (by decide) rfl q2
      rw [Nat.zero_add] at e
      rw [e]
      have := h.o1.2.bkl q2; omega
    · exact lone 0 0 (by unfold sbN; rw [if_pos q]) (by unfold ebN; rw [if_pos q]; omega) (part h.s1 h.o1 (by decide) rfl) (by rw [h.s1.mn]; omega)
  · by_cases q2 : r < 200 + S2.X.n
    · obtain ⟨j, rfl⟩ : ∃ j, r = 200 + j := ⟨r - 200, by omega⟩
      rw [h.s2.blkE h.o2.2 (by decide) rfl (show j < S2.X.n by omega)]
      have := h.o2.2.bkl (show j < S2.X.n by omega); omega
    · exact lone 200 1 (by unfold sbN; rw [if_neg q]) (by unfold ebN; rw [if_neg q]) (part h.s2 h.o2 (by decide) rfl) (by rw [h.s2.mn]; omega)
theorem INV.hst {u : US} {V : MS} (h : INV u V) (r : Nat) : V.pre r + 2 ^ (32 - V.len r) ≤ 4294967296 := al_top (h.1.1.1.len r) (h.1.1.1.pre r) (h.1.1.2 r)
theorem INV.hpp {S S2 : LDS} {pt : Nat → Int32} {jn : Nat} {V : MS} (h : INV (S, S2, pt, jn) V) : ∀ c q, c < V.mn 0 → V.par c = some q → q < c := fun c q c2 c3 => by
  rw [h.s1.mn] at c2
  have e := h.s1.par c2
  rw [Nat.zero_add] at e
  rw [e] at c3
  cases ep : S.X.par c with
  | none => rw [ep] at c3; exact nomatch c3
  | some p =>
    rw [ep] at c3
    have : 0 + p = q := by simpa using c3
    have := h.o1.2.lt c2 ep
    omega
theorem INV.hlp {S S2 : LDS} {pt : Nat → Int32} {jn : Nat} {V : MS} (h : INV (S, S2, pt, jn) V) : ∀ x q, x < V.mn 0 → V.sta (0 + x) = 1 → V.par (0 + x) = some q → ¬ V.len (0 + x) = V.len q → 1 ≤ V.len (0 + x) := fun x q c2 c1 c3 c4 => by
  rw [h.s1.mn] at c2
  rw [h.s1.par c2] at c3
  rw [h.s1.sta c2] at c1
  cases ep : S.X.par x with
  | none => rw [ep] at c3; exact nomatch c3
  | some p =>
    rw [ep] at c3
    have e : 0 + p = q := by simpa using c3
    have hp : p < S.X.n := Nat.lt_trans (h.o1.2.lt c2 ep) c2
    rw [← e, h.s1.len c2, h.s1.len hp] at c4
    rw [h.s1.len c2]
    have := h.o1.2.inn c2 ep (by omega)
    omega
theorem V00_inv : INV (S00, S00, fun _ => 0, 0) V00 := by
  have s : ∀ b d, SIM S00 V00 b d := fun b d => ⟨rfl, fun j hj => absurd hj (by show ¬ j < 0; omega), fun _ _ => rfl, rfl, rfl⟩
  refine ⟨⟨VOK.mk (by decide) (fun _ => by decide) (fun _ => by decide) (fun _ => by decide) (fun _ => by decide) (fun _ => by decide) (fun _ => by decide) (fun _ => by decide) (fun _ => by decide) (fun _ => by decide) (fun _ => by decide) (fun _ k q => by cases q; decide) (fun _ => Nat.zero_mod _), S00_ok, S00_ok⟩, ⟨s 0 0, s 200 1⟩, ⟨rfl, fun k hk => absurd hk (by show ¬ k < 0; omega)⟩, [], rfl, fun j x q => (nomatch q), trivial, V00, s 0 0, s 0 0⟩
