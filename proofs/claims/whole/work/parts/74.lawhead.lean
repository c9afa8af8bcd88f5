/-! THE CLAIM OUT OF ONE WALK OF THE LAW'S BODY. Your part is whole_start (and what it stands on); all else here is the same for every law, but numbers. -/
def R_law : String := "PrefixRegistryLaw"
def lw_P (b : Addr) (xs : List Int32) (args : Array Value) (s : State) : Prop := args = #[.ref b] ∧ s.IntsAt b xs ∧ xs.length ≤ 2048 ∧ (Jvm.Cond.and given_1 narrow_1).before args s = true
def lw_Q (_ : Array Value) (s : State) (o : Outcome) (t : State) : Prop := o = .returned (some (.int 1)) ∧ Framed s o t [] 1089 17195
def lw_Z (below : List Frame) (a : Array Value) (s : State) : State → Prop := fun t => ∃ o, t.status = .running ∧ Ended t below o ∧ lw_Q a s o t
/-- the law's own end, with 1 on the stack, nothing written that was there before, its room as the claim has it -/
theorem lw_ret {p : Program} {l : Launch} {e : Env} {s : State} {m : MethodId} {below : List Frame} {meth : Method} {c : Code} {b : Nat} (hx : p.tables.exec = Jvm.exec) (hb : c.code = code) (hr : meth.sig.returnType = ret) (hlocks : meth.locks = false) {pc : Nat} {H : Heap} {ls : Array Slot} (hdg : decode code pc = .ok (.ireturn, 1)) : W p l e room_1 s m #[Value.ref b] below meth c H [] 1089 17195 (lw_Z below #[Value.ref b] s) (F0 m pc ls [.int 1]) := by
  intro T hT X
  obtain ⟨fs, hret, hrun, hended, hW, hframe⟩ := X.leave (v := some (.int 1)) (hlocks := hlocks) (fun h => by rw [hr] at h; cases h)
  have hmeth' : T.vm.method? m = some meth := X.method'
  refine ⟨T.setFrames fs, ?_, .returned (some (.int 1)), hrun, hended, rfl, ⟨_, rfl⟩, hW, hframe⟩
  jvm_step X.here [X.here.top, hx, hb, hdg, hmeth', hr, ret, narrow_b1]
  (try refine ⟨rfl, ?_⟩); (try refine ⟨rfl, ?_⟩)
  first | (intro acts; rw [hret _ acts rfl rfl rfl]) | rw [hret _ _ rfl rfl rfl]
  exact Steps.refl _
/-- what holds at the law's entry: the machine, the code, the tables' words (any of lw_tbl by 'hts w (by decide +kernel)'), the script of L ints xs at the cell b, what the Statement gives of the start (any of its parts by flat_of_before) -/
def lw_At (p : Program) (s : State) (m : MethodId) (meth : Method) (c : Code) (b L : Nat) (xs : Nat → Int32) : Prop :=
  p.tables.exec = Jvm.exec ∧ c.code = code ∧ meth.sig.returnType = ret ∧ c.maxLocals = 8 ∧ s.vm.findClass R_law = some m.cls ∧ (∀ w ∈ lw_tbl, w.before #[Value.ref b] s = true) ∧ va_X b L xs s s.heap ∧ b < s.heap.size ∧ meth.locks = false ∧ (Jvm.Cond.and given_1 narrow_1).before #[Value.ref b] s = true
theorem kx_205 : Cond.codeWith ⟨"PrefixRegistryLaw", "root", "(LPrefixRegistry;III[J)I"⟩ method_3_code 6 (Option.some FieldType.int) [(0, 12, 15, 13), (0, 12, 19, 15), (0, 12, 23, 17)] ∈ wG := tw 205 (by decide +kernel) (by decide +kernel)
theorem kx_455 : Cond.codeWith ⟨"PrefixRegistryLaw", "ask", "(LPrefixRegistry;IIZ[J)I"⟩ method_4_code 6 (Option.some FieldType.int) [(0, 12, 15, 17)] ∈ wG := tw 455 (by decide +kernel) (by decide +kernel)
theorem kx_496 : Cond.codeWith ⟨"PrefixRegistryLaw", "reserve", "(LPrefixRegistry;III[J)I"⟩ method_5_code 6 (Option.some FieldType.int) [(0, 12, 15, 17)] ∈ wG := tw 496 (by decide +kernel) (by decide +kernel)
theorem kx_512 : Cond.codeWith ⟨"PrefixRegistryLaw", "give", "(LPrefixRegistry;I)I"⟩ method_6_code 3 (Option.some FieldType.int) [(0, 5, 8, 30), (0, 5, 11, 15), (0, 5, 14, 17)] ∈ wG := tw 512 (by decide +kernel) (by decide +kernel)
theorem kx_540 : Cond.codeWith ⟨"PrefixRegistryLaw", "back", "(LPrefixRegistry;I[J)I"⟩ method_7_code 4 (Option.some FieldType.int) [(0, 9, 12, 30), (0, 9, 15, 15), (0, 9, 18, 17)] ∈ wG := tw 540 (by decide +kernel) (by decide +kernel)
theorem kx_551 : Cond.codeWith ⟨"PrefixRegistryLaw", "grow", "(LPrefixRegistry;I[J)I"⟩ method_8_code 4 (Option.some FieldType.int) [(0, 9, 12, 17)] ∈ wG := tw 551 (by decide +kernel) (by decide +kernel)
theorem kx_566 : Cond.codeWith ⟨"PrefixRegistryLaw", "shrink", "(LPrefixRegistry;IZ[J)I"⟩ method_9_code 5 (Option.some FieldType.int) [(0, 10, 13, 17)] ∈ wG := tw 566 (by decide +kernel) (by decide +kernel)
theorem kx_577 : Cond.codeWith ⟨"PrefixRegistryLaw", "transfer", "(LPrefixRegistry;II[J)I"⟩ method_10_code 5 (Option.some FieldType.int) [(0, 10, 13, 30), (0, 10, 17, 13), (0, 10, 21, 15), (0, 10, 25, 17)] ∈ wG := tw 577 (by decide +kernel) (by decide +kernel)
theorem kx_585 : Cond.codeWith ⟨"PrefixRegistryLaw", "policy", "(LPrefixRegistry;II)I"⟩ method_11_code 4 (Option.some FieldType.int) [(0, 6, 9, 13), (0, 6, 12, 17)] ∈ wG := tw 585 (by decide +kernel) (by decide +kernel)
theorem kx_592 : Cond.codeWith ⟨"PrefixRegistryLaw", "day", "(LPrefixRegistry;I[J)I"⟩ method_12_code 4 (Option.some FieldType.int) [(0, 9, 12, 13), (0, 9, 15, 17)] ∈ wG := tw 592 (by decide +kernel) (by decide +kernel)
theorem kx_600 : Cond.codeWith ⟨"PrefixRegistryLaw", "quarantine", "(LPrefixRegistry;I)I"⟩ method_13_code 3 (Option.some FieldType.int) [(0, 5, 8, 13), (0, 5, 11, 17)] ∈ wG := tw 600 (by decide +kernel) (by decide +kernel)
theorem kx_607 : Cond.codeWith ⟨"PrefixRegistryLaw", "field", "(LPrefixRegistry;II[J)I"⟩ method_14_code 5 (Option.some FieldType.int) [(0, 10, 13, 30), (0, 10, 17, 13)] ∈ wG := tw 607 (by decide +kernel) (by decide +kernel)
theorem kx_615 : Cond.codeWith ⟨"PrefixRegistryLaw", "freeAt", "(LPrefixRegistry;II[J)I"⟩ method_15_code 5 (Option.some FieldType.int) [(0, 9, 12, 30), (0, 9, 16, 13)] ∈ wG := tw 615 (by decide +kernel) (by decide +kernel)
theorem kx_626 : Cond.codeWith ⟨"PrefixRegistryLaw", "blocks", "(LPrefixRegistry;I[J)I"⟩ method_16_code 4 (Option.some FieldType.int) [(0, 9, 12, 30)] ∈ wG := tw 626 (by decide +kernel) (by decide +kernel)
theorem kx_637 : Cond.codeWith ⟨"PrefixRegistryLaw", "block", "(LPrefixRegistry;IIZ[J)I"⟩ method_17_code 6 (Option.some FieldType.int) [(0, 12, 15, 30)] ∈ wG := tw 637 (by decide +kernel) (by decide +kernel)
theorem kx_651 : Cond.codeWith ⟨"PrefixRegistryLaw", "used", "(LPrefixRegistry;I[J)I"⟩ method_18_code 4 (Option.some FieldType.int) [(0, 8, 11, 30)] ∈ wG := tw 651 (by decide +kernel) (by decide +kernel)
theorem kx_659 : Cond.codeWith ⟨"PrefixRegistryLaw", "cuts", "(LPrefixRegistry;I[J)I"⟩ method_19_code 4 (Option.some FieldType.int) [(0, 9, 12, 30)] ∈ wG := tw 659 (by decide +kernel) (by decide +kernel)
theorem kx_677 : Cond.codeWith ⟨"PrefixRegistryLaw", "cut", "(LPrefixRegistry;IIZ[J)I"⟩ method_20_code 6 (Option.some FieldType.int) [(0, 12, 15, 30)] ∈ wG := tw 677 (by decide +kernel) (by decide +kernel)
theorem kx_688 : Cond.codeWith ⟨"PrefixRegistryLaw", "log", "(LPrefixRegistry;II[J)I"⟩ method_21_code 5 (Option.some FieldType.int) [(0, 10, 13, 30), (0, 10, 17, 13)] ∈ wG := tw 688 (by decide +kernel) (by decide +kernel)
theorem kx_699 : Cond.codeWith ⟨"PrefixRegistryLaw", "replay", "(LPrefixRegistry;I[J)I"⟩ method_22_code 4 (Option.some FieldType.int) [(0, 9, 12, 13)] ∈ wG := tw 699 (by decide +kernel) (by decide +kernel)
abbrev wLL (cI cJ : ClassId) (o : Nat) (g g2 : Nat → Nat) (jh ja : Nat) (u : US) (oa : Nat) (f : Nat → Int64) (om : Nat) (a : Nat → Nat) (V : MS) : va_W := wLw cI cJ o g g2 jh ja u oa f ++ wMo cI om a V
theorem lgc_self (a : Int64) : lg_cmp a a = 0 := by
  unfold lg_cmp
  rw [if_neg (Int64.lt_irrefl)]
  simp
theorem lgc_eq {a b : Int64} (h : a = b) : lg_cmp a b = 0 := by rw [h]; exact lgc_self _
