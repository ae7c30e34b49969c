/-! THE CLAIM OUT OF ONE WALK OF THE LAW'S BODY. Your part is whole_start (and what it stands on); all else here is the same for every law, but numbers. -/
def R_law : String := "SwipedStripeLaw"
def lw_P (b : Addr) (xs : List Int32) (args : Array Value) (s : State) : Prop := args = #[.ref b] ∧ s.IntsAt b xs ∧ xs.length ≤ 2560 ∧ (Jvm.Cond.and given_1 narrow_1).before args s = true
def lw_Q (_ : Array Value) (s : State) (o : Outcome) (t : State) : Prop := o = .returned (some (.int 1)) ∧ Framed s o t [] 600000 7302250
def lw_Z (below : List Frame) (a : Array Value) (s : State) : State → Prop := fun t => ∃ o, t.status = .running ∧ Ended t below o ∧ lw_Q a s o t
/-- the law's own end, with 1 on the stack, nothing written that was there before, its room as the claim has it -/
theorem lw_ret {p : Program} {l : Launch} {e : Env} {s : State} {m : MethodId} {below : List Frame} {meth : Method} {c : Code} {b : Nat} (hx : p.tables.exec = Jvm.exec) (hb : c.code = code) (hr : meth.sig.returnType = ret) (hlocks : meth.locks = false) {pc : Nat} {H : Heap} {ls : Array Slot} (hdg : decode code pc = .ok (.ireturn, 1)) : W p l e room_1 s m #[Value.ref b] below meth c H [] 600000 7302250 (lw_Z below #[Value.ref b] s) (F0 m pc ls [.int 1]) := by
  intro T hT X
  obtain ⟨fs, hret, hrun, hended, hW, hframe⟩ := X.leave (v := some (.int 1)) (hlocks := hlocks) (fun h => by rw [hr] at h; cases h)
  have hmeth' : T.vm.method? m = some meth := X.method'
  refine ⟨T.setFrames fs, ?_, .returned (some (.int 1)), hrun, hended, rfl, ⟨_, rfl⟩, hW, hframe⟩
  jvm_step X.here [X.here.top, hx, hb, hdg, hmeth', hr, ret, narrow_b1]
  (try refine ⟨rfl, ?_⟩); (try refine ⟨rfl, ?_⟩)
  first | (intro acts; rw [hret _ acts rfl rfl rfl]) | rw [hret _ _ rfl rfl rfl]
  exact Steps.refl _
/-- what holds at the law's entry: the machine, the code, the tables' words (any of lw_tbl by 'hts w (by decide +kernel)'), the script of L ints xs at the cell b, what the Statement gives of the start (any of its parts by flat_of_before) -/
def lw_At (p : Program) (s : State) (m : MethodId) (meth : Method) (c : Code) (b L : Nat) (xs : Nat → Int32) : Prop :=
  p.tables.exec = Jvm.exec ∧ c.code = code ∧ meth.sig.returnType = ret ∧ c.maxLocals = 4 ∧ s.vm.findClass R_law = some m.cls ∧ (∀ w ∈ lw_tbl, w.before #[Value.ref b] s = true) ∧ va_X b L xs s s.heap ∧ b < s.heap.size ∧ meth.locks = false ∧ (Jvm.Cond.and given_1 narrow_1).before #[Value.ref b] s = true ∧ meth.name = "law"
/-! the law's entry: what the Statement gives of the start, in the numbers' words -/
def st_nw : List Cond := flatC (Jvm.Cond.and given_1 narrow_1)
theorem st_kn {args : Array Value} {s : State} (hts : ∀ w ∈ jw_gd, w.before args s = true) : ∃ D : va_G, ∀ (c : Nat) (q : vw_C), jw_cl[c]? = some q → u_Kn s q.1 q.2.1 q.2.2 (D.1 c) (D.2 c) := by
  have go : ∀ {ci : Nat} {C : String} {T : u_T} {N : Nat} {ty : Nat → FieldType}, jw_F ci C T N ty → Cond.instantiable C N ∈ jw_gd → ∃ d : ClassId × (Nat → Nat), ∀ q, jw_cl[ci]? = some q → u_Kn s q.1 q.2.1 q.2.2 d.1 d.2 := by
    intro ci C T N ty hF hi
    obtain ⟨cC, iS, h⟩ := u_known hts hF.2.1 (hts _ hi)
    refine ⟨(cC, iS), fun q hq => ?_⟩
    have e := Option.some.inj (hF.1.symm.trans hq)
    subst e
    exact h
  have one : ∀ c : Nat, ∃ d : ClassId × (Nat → Nat), ∀ q, jw_cl[c]? = some q → u_Kn s q.1 q.2.1 q.2.2 d.1 d.2 := by
    intro c
    match c with
    | 0 => exact go jw_F0 (jw_in (i := 217) (by decide +kernel) (by decide +kernel))
    | 1 => exact go jw_F1 (jw_in (i := 210) (by decide +kernel) (by decide +kernel))
    | 2 => exact go jw_F2 (jw_in (i := 153) (by decide +kernel) (by decide +kernel))
    | 3 => exact go jw_F3 (jw_in (i := 123) (by decide +kernel) (by decide +kernel))
    | 4 => exact go jw_F4 (jw_in (i := 48) (by decide +kernel) (by decide +kernel))
    | 5 => exact go jw_F5 (jw_in (i := 28) (by decide +kernel) (by decide +kernel))
    | 6 => exact go jw_F6 (jw_in (i := 240) (by decide +kernel) (by decide +kernel))
    | 7 => exact go jw_F7 (jw_in (i := 189) (by decide +kernel) (by decide +kernel))
    | 8 => exact go jw_F8 (jw_in (i := 105) (by decide +kernel) (by decide +kernel))
    | 9 => exact go jw_F9 (jw_in (i := 64) (by decide +kernel) (by decide +kernel))
    | 10 => exact go jw_F10 (jw_in (i := 20) (by decide +kernel) (by decide +kernel))
    | 11 => exact go jw_F11 (jw_in (i := 1027) (by decide +kernel) (by decide +kernel))
    | c + 12 => exact ⟨(0, fun _ => 0), fun q hq => by simp at hq⟩
  obtain ⟨f, hf⟩ := Classical.axiomOfChoice one
  exact ⟨(fun c => (f c).1, fun c => (f c).2), hf⟩
theorem st_ty {args : Array Value} {s : State} (h0 : (Cond.arrayClass .int).before args s = true) (h1 : (Cond.arrayClass .boolean).before args s = true) (h2 : (Cond.arrayOver (.object "SwipedStripe$Draw")).before args s = true) (h3 : (Cond.arrayOver (.object "SwipedStripe$Sheet")).before args s = true) : ∃ aC : Nat → ClassId, ∀ (k : Nat) (q : ClassId × FieldType), (jw_ty aC)[k]? = some q → ArrOfT s q.1 q.2 ∧ va_RA s q.1 q.2 := by
  obtain ⟨c0, k0, m0, a1, a2, a3⟩ := Cond.arrayClass_spec h0
  obtain ⟨c1, k1, m1, b1, b2, b3⟩ := Cond.arrayClass_spec h1
  obtain ⟨m2, c2, k2, d4, -, d2, d3, d1⟩ := Cond.arrayOver_spec h2
  obtain ⟨m3, c3, k3, e4, -, e2, e3, e1⟩ := Cond.arrayOver_spec h3
  refine ⟨fun k => if k = 0 then c0 else if k = 1 then c1 else if k = 2 then c2 else c3, fun k q hq => ?_⟩
  match k, hq with
  | 0, hq =>
    cases hq
    exact ⟨fun n z => ⟨fun k h => (by cases h), k0, a2, m0, a3⟩, a1⟩
  | 1, hq =>
    cases hq
    exact ⟨fun n z => ⟨fun k h => (by cases h), k1, b2, m1, b3⟩, b1⟩
  | 2, hq =>
    cases hq
    exact ⟨fun n z => ⟨fun k h => (by cases h), k2, d2, m2, d3⟩, k2, m2, d2, d3, d4, d1⟩
  | 3, hq =>
    cases hq
    exact ⟨fun n z => ⟨fun k h => (by cases h), k3, e2, m3, e3⟩, k3, m3, e2, e3, e4, e1⟩
  | k + 4, hq => simp at hq
theorem st_tb {args : Array Value} {s : State} (hs : ∀ w ∈ st_nw, w.before args s = true) {tm : Term} {N : Nat} {tb : List Int32} {A : Nat → Prop} (hN : N < 2 ^ 31) (h1 : Cond.arrayOf tm .int ∈ st_nw) (h2 : Cond.eq (.length tm) (.int (Int32.ofNat N)) ∈ st_nw) (h3 : ∀ j : Nat, j < N → Cond.eq (.elem tm (.int (Int32.ofNat j))) (.int (tb.getD j 0)) ∈ st_nw) (hA : ∀ a : Nat, a < s.heap.size → ¬ A a) : ∃ t : Nat, tm.eval args s none [] s = some (.ref t) ∧ va_T .int t N (fun j => .int (tb.getD j 0)) A s s.heap :=
  va_Tof hN (hs _ h1) (va_eqt (hs _ h2)) (fun j hj => va_eqt (hs _ (h3 j hj))) hA
set_option maxRecDepth 100000 in
theorem st_t0 {args : Array Value} {s : State} (hs : ∀ w ∈ st_nw, w.before args s = true) {A : Nat → Prop} (hA : ∀ a : Nat, a < s.heap.size → ¬ A a) : ∃ t : Nat, (Term.static "SwipedStripe" "AT_FIRST" "[I").eval args s none [] s = some (.ref t) ∧ va_T .int t 9 (fun j => .int (jw_tb0.getD j 0)) A s s.heap :=
  st_tb hs (by decide) (by decide +kernel) (by decide +kernel) (by decide +kernel) hA
set_option maxRecDepth 100000 in
theorem st_t1 {args : Array Value} {s : State} (hs : ∀ w ∈ st_nw, w.before args s = true) {A : Nat → Prop} (hA : ∀ a : Nat, a < s.heap.size → ¬ A a) : ∃ t : Nat, (Term.static "SwipedStripe" "RULE_OF_WORD" "[I").eval args s none [] s = some (.ref t) ∧ va_T .int t 11 (fun j => .int (jw_tb1.getD j 0)) A s s.heap :=
  st_tb hs (by decide) (by decide +kernel) (by decide +kernel) (by decide +kernel) hA
set_option maxRecDepth 100000 in
theorem st_t2 {args : Array Value} {s : State} (hs : ∀ w ∈ st_nw, w.before args s = true) {A : Nat → Prop} (hA : ∀ a : Nat, a < s.heap.size → ¬ A a) : ∃ t : Nat, (Term.static "SwipedStripe" "SAID_BY_WORD" "[I").eval args s none [] s = some (.ref t) ∧ va_T .int t 11 (fun j => .int (jw_tb2.getD j 0)) A s s.heap :=
  st_tb hs (by decide) (by decide +kernel) (by decide +kernel) (by decide +kernel) hA
set_option maxRecDepth 100000 in
theorem st_t3 {args : Array Value} {s : State} (hs : ∀ w ∈ st_nw, w.before args s = true) {A : Nat → Prop} (hA : ∀ a : Nat, a < s.heap.size → ¬ A a) : ∃ t : Nat, (Term.static "SwipedStripe" "LEAST_TOLD" "[I").eval args s none [] s = some (.ref t) ∧ va_T .int t 9 (fun j => .int (jw_tb3.getD j 0)) A s s.heap :=
  st_tb hs (by decide) (by decide +kernel) (by decide +kernel) (by decide +kernel) hA
set_option maxRecDepth 100000 in
theorem st_t4 {args : Array Value} {s : State} (hs : ∀ w ∈ st_nw, w.before args s = true) {A : Nat → Prop} (hA : ∀ a : Nat, a < s.heap.size → ¬ A a) : ∃ t : Nat, (Term.static "SwipedStripe" "MOST_TOLD" "[I").eval args s none [] s = some (.ref t) ∧ va_T .int t 9 (fun j => .int (jw_tb4.getD j 0)) A s s.heap :=
  st_tb hs (by decide) (by decide +kernel) (by decide +kernel) (by decide +kernel) hA
def st_tm (i : Nat) : Term := .string "SwipedStripe$TextReader" (140 + 2 * i)
set_option maxRecDepth 100000 in
theorem st_m1 : ∀ i : Nat, i < 11 → Cond.exactly (st_tm i) "java/lang/String" ∈ st_nw := by decide +kernel
set_option maxRecDepth 100000 in
theorem st_m2 : ∀ i : Nat, i < 11 → Cond.eq (.field (st_tm i) "java/lang/String" "coder" "B") (.int 0) ∈ st_nw := by decide +kernel
set_option maxRecDepth 100000 in
theorem st_m3 : ∀ i : Nat, i < 11 → Cond.arrayOf (.field (st_tm i) "java/lang/String" "value" "[B") .byte ∈ st_nw := by decide +kernel
set_option maxRecDepth 100000 in
theorem st_m4 : ∀ i : Nat, i < 11 → Cond.eq (.length (.field (st_tm i) "java/lang/String" "value" "[B")) (.int (Int32.ofNat (jw_len.getD i 0))) ∈ st_nw := by decide +kernel
set_option maxRecDepth 100000 in
theorem st_m5 : ∀ i : Nat, i < 11 → ∀ j : Nat, j < jw_len.getD i 0 → Cond.eq (.elem (.field (st_tm i) "java/lang/String" "value" "[B") (.int (Int32.ofNat j))) (.int ((jw_byt.getD i []).getD j 0)) ∈ st_nw := by decide +kernel
set_option maxRecDepth 100000 in
theorem st_m6 : ∀ j : Nat, j < 11 → ∀ i : Nat, i < j → Cond.not (Cond.eq (st_tm i) (st_tm j)) ∈ st_nw := by decide +kernel
theorem st_m7 : ∀ i : Nat, i < 11 → jw_len.getD i 0 < 2 ^ 31 := by decide
theorem st_str {args : Array Value} {s : State} (hs : ∀ w ∈ st_nw, w.before args s = true) {A : Nat → Prop} (hA : ∀ a : Nat, a < s.heap.size → ¬ A a) : ∃ aK aV : Nat → Nat, vk_S 11 jw_len jw_byt aK aV A s s.heap ∧ ∀ i : Nat, i < 11 → (st_tm i).eval args s none [] s = some (.ref (aK i)) := by
  refine vk_Sof (tm := st_tm) st_m7 (fun i hi => hs _ (st_m1 i hi)) (fun i hi => hs _ (st_m2 i hi)) (fun i hi => hs _ (st_m3 i hi)) (fun i hi => hs _ (st_m4 i hi)) (fun i hi j hj => hs _ (st_m5 i hi j hj)) (fun i j hi hj hij => ?_) hA
  rcases Nat.lt_or_ge i j with h | h
  · exact Or.inl (hs _ (st_m6 j hj i h))
  · exact Or.inr (hs _ (st_m6 i hi j (by omega)))
/-- where the numbers stand -/
theorem st_ad (base b t0 t1 t2 t3 t4 : Nat) (aK aV : Nat → Nat) : ∃ ad : Nat → Nat, (∀ k, k < 1000 → ad k = base + k) ∧ ad 1000 = t0 ∧ ad 1001 = t1 ∧ ad 1002 = t2 ∧ ad 1003 = t3 ∧ ad 1004 = t4 ∧ ad 1005 = b ∧ (∀ i, i < 11 → ad (2000 + i) = aK i) ∧ ∀ i, i < 11 → ad (3000 + i) = aV i := by
  refine ⟨fun k => if k < 1000 then base + k else if k = 1000 then t0 else if k = 1001 then t1 else if k = 1002 then t2 else if k = 1003 then t3 else if k = 1004 then t4 else if k = 1005 then b else if k < 3000 then aK (k - 2000) else aV (k - 3000), fun k hk => if_pos hk, by simp, by simp, by simp, by simp, by simp, by simp, fun i hi => ?_, fun i hi => ?_⟩
  · show (if 2000 + i < 1000 then base + (2000 + i) else _) = _
    rw [if_neg (by omega), if_neg (by omega), if_neg (by omega), if_neg (by omega), if_neg (by omega), if_neg (by omega), if_neg (by omega), if_pos (by omega), show 2000 + i - 2000 = i by omega]
  · show (if 3000 + i < 1000 then base + (3000 + i) else _) = _
    rw [if_neg (by omega), if_neg (by omega), if_neg (by omega), if_neg (by omega), if_neg (by omega), if_neg (by omega), if_neg (by omega), if_neg (by omega), show 3000 + i - 3000 = i by omega]
set_option maxRecDepth 100000 in
theorem st_ns : ∀ w ∈ jw_ns, w ∈ tables_1 := by decide +kernel
theorem st_nt : ∀ w ∈ jw_ns, w.onTables = true := by decide +kernel
set_option maxRecDepth 100000 in
theorem st_sr : ∀ i : Nat, i < 11 → ∀ q, jw_strs[i]? = some q → q.1 = "SwipedStripe$TextReader" ∧ q.2.1 = 140 + 2 * i ∧ q.2.2.2 = 2000 + i := by
  intro i hi q hq
  rcases (show i = 0 ∨ i = 1 ∨ i = 2 ∨ i = 3 ∨ i = 4 ∨ i = 5 ∨ i = 6 ∨ i = 7 ∨ i = 8 ∨ i = 9 ∨ i = 10 by omega) with rfl | rfl | rfl | rfl | rfl | rfl | rfl | rfl | rfl | rfl | rfl <;> (cases hq; exact ⟨rfl, rfl, rfl⟩)
set_option maxRecDepth 100000 in
theorem st_st : ∀ q ∈ jw_strs, Cond.stringRef q.1 q.2.1 q.2.2.1 ∈ tables_1 := by decide +kernel
set_option maxHeartbeats 4000000 in
set_option maxRecDepth 100000 in
/-- what stands outside, at the start -/
theorem st_ST {s : State} {b L : Nat} {xs : Nat → Int32} (hts : ∀ w ∈ lw_tbl, w.before #[Value.ref b] s = true) (hX : va_X b L xs s s.heap) (hbl : b < s.heap.size) (hgv : (Jvm.Cond.and given_1 narrow_1).before #[Value.ref b] s = true) : ∃ ad : Nat → Nat, (∀ k, k < 1000 → ad k = s.heap.size + k) ∧ ad 1005 = b ∧ jw_ST (jw_roL L xs) ad s.heap.size s := by
  have hs : ∀ w ∈ st_nw, w.before #[Value.ref b] s = true := flat_of_before _ hgv
  have hA : ∀ a : Nat, a < s.heap.size → ¬ jw_A s.heap.size a := fun a h => Nat.not_le.mpr h
  obtain ⟨t0, h0, g0⟩ := st_t0 hs hA
  obtain ⟨t1, h1, g1⟩ := st_t1 hs hA
  obtain ⟨t2, h2, g2⟩ := st_t2 hs hA
  obtain ⟨t3, h3, g3⟩ := st_t3 hs hA
  obtain ⟨t4, h4, g4⟩ := st_t4 hs hA
  obtain ⟨aK, aV, hv, hvk⟩ := st_str hs hA
  obtain ⟨ad, had, e0, e1, e2, e3, e4, e5, eK, eV⟩ := st_ad s.heap.size b t0 t1 t2 t3 t4 aK aV
  have hini : (Cond.initialized "SwipedStripe").before #[Value.ref b] s = true := (hts _ (List.mem_append_right _ (List.mem_of_getElem? (i := 1) (by decide +kernel))))
  refine ⟨ad, had, e5, fun k n f hk => ?_, fun q hq => ?_, ?_, ?_, ?_, fun q hq => ?_, fun w hw => ?_, ?_, ?_⟩
  · unfold jw_roL at hk
    by_cases h5 : k = 1005
    · subst h5
      rw [if_pos rfl] at hk
      cases hk
      obtain ⟨scr, q1, q2, q3, q4, q5⟩ := hX
      refine ⟨by omega, scr, by rw [e5]; exact q1, q2, q3, by omega, by rw [q4], q5, by rw [e5]; exact hA b hbl⟩
    · rw [if_neg h5] at hk
      unfold jw_ro at hk
      split at hk
      · cases hk; exact ⟨by omega, by rw [e0]; exact g0⟩
      · cases hk; exact ⟨by omega, by rw [e1]; exact g1⟩
      · cases hk; exact ⟨by omega, by rw [e2]; exact g2⟩
      · cases hk; exact ⟨by omega, by rw [e3]; exact g3⟩
      · cases hk; exact ⟨by omega, by rw [e4]; exact g4⟩
      · cases hk
  · simp only [jw_sts, List.mem_cons, List.not_mem_nil, or_false] at hq
    rcases hq with rfl | rfl | rfl | rfl | rfl
    · exact e0 ▸ va_Zref (hts _ (List.mem_append_right _ (List.mem_of_getElem? (i := 38) (by decide +kernel)))) hini h0 hA
    · exact e1 ▸ va_Zref (hts _ (List.mem_append_right _ (List.mem_of_getElem? (i := 438) (by decide +kernel)))) hini h1 hA
    · exact e2 ▸ va_Zref (hts _ (List.mem_append_right _ (List.mem_of_getElem? (i := 441) (by decide +kernel)))) hini h2 hA
    · exact e3 ▸ va_Zref (hts _ (List.mem_append_right _ (List.mem_of_getElem? (i := 443) (by decide +kernel)))) hini h3 hA
    · exact e4 ▸ va_Zref (hts _ (List.mem_append_right _ (List.mem_of_getElem? (i := 445) (by decide +kernel)))) hini h4 hA
  · exact va_Zof (hts _ (List.mem_append_right _ (List.mem_of_getElem? (i := 382) (by decide +kernel)))) (hts _ (List.mem_append_right _ (List.mem_of_getElem? (i := 14) (by decide +kernel)))) (va_eqi (hs _ (by decide +kernel))) hA
  · exact va_Zqof (hts _ (List.mem_append_right _ (List.mem_of_getElem? (i := 398) (by decide +kernel)))) (hts _ (List.mem_append_right _ (List.mem_of_getElem? (i := 16) (by decide +kernel)))) (hs _ (by decide +kernel)) hA
  · refine ⟨fun i hi => ?_, fun i j hi hj e => ?_⟩
    · have r := hv.1 i hi
      rw [← eK i hi, ← eV i hi] at r
      exact r
    · have e : ad (2000 + i) = ad (2000 + j) := e
      rw [eK i hi, eK j hj] at e
      exact hv.2 i j hi hj e
  · obtain ⟨i, hi⟩ := List.getElem?_of_mem hq
    have hlt : i < 11 := (List.getElem?_eq_some_iff.mp hi).1
    obtain ⟨r1, r2, r3⟩ := st_sr i hlt q hi
    have r4 := hts _ (List.mem_append_right _ (st_st q hq))
    refine vk_R.of r4 ?_
    rw [r1, r2, r3, eK i hlt]
    exact hvk i hlt
  · exact va_Nw.of (st_nt w hw) (hts w (List.mem_append_right _ (st_ns w hw)))
  · exact va_AO.of (hts _ (List.mem_append_right _ (List.mem_of_getElem? (i := 216) (by decide +kernel))))
  · exact va_AO.of (hts _ (List.mem_append_right _ (List.mem_of_getElem? (i := 239) (by decide +kernel))))
set_option maxHeartbeats 4000000 in
set_option maxRecDepth 100000 in
/-- from the entry, for every script of at most 2560 ints, the law comes to its end with true -/
theorem whole_start {p : Program} {e : Env} {s : State} {m : MethodId} {below : List Frame} {meth : Method} {c : Code} (l : Launch) {b L : Nat} {xs : Nat → Int32} (hL : L ≤ 2560) (C0 : lw_At p s m meth c b L xs) : W p l e room_1 s m #[Value.ref b] below meth c s.heap [] 0 0 (lw_Z below #[Value.ref b] s) (entryFrame m ([Value.ref b] : List Value).toArray 4) := by
  obtain ⟨hx, hb, hr, hml, hown, hts, hX, hbl, hlocks, hgv, hnm⟩ := C0
  have hgd : ∀ w ∈ jw_gd, w.before #[Value.ref b] s = true := fun w hw => hts w (List.mem_filter.mp hw).1
  obtain ⟨D, hD⟩ := st_kn hgd
  obtain ⟨aC, haC⟩ := st_ty (args := #[Value.ref b]) (s := s) (hts _ (List.mem_append_right _ (List.mem_of_getElem? (i := 46) (by decide +kernel)))) (hts _ (List.mem_append_right _ (List.mem_of_getElem? (i := 1183) (by decide +kernel)))) (hts _ (List.mem_append_right _ (List.mem_of_getElem? (i := 216) (by decide +kernel)))) (hts _ (List.mem_append_right _ (List.mem_of_getElem? (i := 239) (by decide +kernel))))
  obtain ⟨ad, had, e5, hST⟩ := st_ST hts hX hbl hgv
  have X : jw_X p s m #[Value.ref b] meth c cb_W_law 4 "SwipedStripeLaw" "law" D aC ad s.heap.size (jw_roL L xs) := ⟨hx, hb, hml, hown, hgd, ⟨hD, haC⟩, Nat.le_refl _, had, hST, hnm⟩
  have RT : jw_R p l e room_1 s m #[Value.ref b] below meth c D aC ad s.heap.size cb_W_law (some .boolean) (lw_Z below #[Value.ref b] s) 600000 7302250 (fun v _ => v = some (.int 1)) := by
    intro v op pc H locs la h1 z hrt hd hP1 hz1 hl1 hS1 g1 g2 hK1
    have hK1 : v = some (.int 1) := hK1
    subst hK1
    have hop : op = .ireturn := by
      rcases hrt with ⟨r1, r2, -⟩ | ⟨r1, r2, -⟩ | ⟨r1, r2, -⟩ | ⟨r1, r2, -⟩ | ⟨r1, r2, -⟩ | ⟨⟨C, r1⟩, -⟩ | ⟨r1, -⟩
      · exact r2
      · exact r2
      · exact r2
      · exact r2
      · cases r1
      · cases r1
      · cases r1
    subst hop
    refine va_forget (fun q hq => hS1.2.2 q hq) ?_
    refine W.widen g1 g2 ?_
    exact lw_ret hx hb hr hlocks hd
  have hC := lw_C (L := L) (xs := xs) (K := fun v _ => v = some (.int 1)) hL (fun _ => rfl)
  obtain ⟨-, hC⟩ := hC
  have W0 := hC (fun q => jw_W p l e room_1 s m #[Value.ref b] below meth c (lw_Z below #[Value.ref b] s) D aC ad s.heap.size 4 q) (fun pc ls st h z hq => ss_W_law l L xs pc p e s m _ below meth c _ D aC ad s.heap.size _ X RT ls st h z hq)
  have ea : ([Value.ref 1005] : List Value).map (jw_v ad) = [Value.ref b] := by
    rw [List.map_cons, List.map_nil, jw_v, e5]
  have hP0 : va_P D jw_cl (jw_w aC ad []) s.heap := fun k q h => by simp [jw_w] at h
  rw [lg_entry_eq]
  exact W0 s.heap [] _ _ hP0 rfl (Nat.zero_le _) ⟨Nat.zero_le _, Nat.zero_le _⟩ va_S.rf (lv_entry [Value.ref b] (n := 4) (Nat.le_of_ble_eq_true rfl)) (fun i v h1 h2 => by
    have h3 := jw_en_args ad [Value.ref 1005] 4 0 i v h1 h2
    rw [ea] at h3
    simpa using h3)
set_option maxHeartbeats 4000000 in
theorem lw_walk (l : Launch) (b : Addr) (xs : List Int32) : MetFree l x (headSpec (Jvm.Cond.code x code maxLocals ret :: tables_1) room_1) (lw_P b xs) (fun _ _ _ _ _ => True) lw_Q := by
  refine MetFree.of_bodyS (code := code) (maxLocals := maxLocals) (ret := ret) (by decide) ?_ ?_
  · intro args s m h hn
    obtain ⟨meth, c, h1, h2, h3, h4, h5, h6, -, -⟩ := Cond.code_spec hn (atoms_spec (ws := Jvm.Cond.code x code maxLocals ret :: tables_1) h _ List.mem_cons_self)
    exact ⟨meth, c, h1, h2, h3, h4, h5, h6⟩
  · intro p e s m args below meth c s₁ B hml0 hP _
    obtain ⟨rfl, hx, hbd, hgv⟩ := hP
    obtain ⟨scr, harrAt, hlist, hof, hsmall⟩ := hx
    obtain ⟨hcb, hkn, -, -⟩ := State.arrayAt?_spec harrAt
    have hown : s.vm.findClass R_law = some m.cls := findClass_of_methodNamed B.named
    have hts0 : ∀ c ∈ (Jvm.Cond.code x code maxLocals ret :: tables_1), c.before #[Value.ref b] s = true := atoms_spec (ws := Jvm.Cond.code x code maxLocals ret :: tables_1) B.pre
    have hts : ∀ w ∈ lw_tbl, w.before #[Value.ref b] s = true := k2_hts_sels lw_privs (fun w hw => hts0 w (List.mem_cons_of_mem _ hw)) lw_privs_ok
    have hml : c.maxLocals = 4 := B.maxLocals_eq (hts0 _ List.mem_cons_self)
    have X₀ : Stand p l e room_1 s m #[Value.ref b] below meth c s₁ [] 0 0 := Stand.of_body B
    have hh0 : s₁.heap = s.heap := by rw [B.state]; rfl
    have hsz : scr.slots.size = xs.length := by rw [← Array.length_toList, hlist, List.length_map]
    have hval : ∀ j : Nat, j < xs.length → scr.slots[j]? = some (.int (xs.getD j 0)) := fun j hj => by
      rw [← Array.getElem?_toList, hlist]
      simp [hj]
    have hbl : b < s.heap.size := (Array.getElem?_eq_some_iff.mp hcb).1
    have hX : va_X b xs.length (fun j => xs.getD j 0) s s.heap := ⟨scr, hcb, hof, hkn, hsz, hval⟩
    have K : W p l e room_1 s m #[Value.ref b] below meth c s₁.heap [] 0 0 (lw_Z below #[Value.ref b] s) (entryFrame m ([Value.ref b] : List Value).toArray 4) := by
      rw [hh0]
      exact whole_start l hbd ⟨B.exec, B.bytes, B.returns, hml, hown, hts, hX, hbl, B.notSynchronized, hgv, (name_of_methodNamed B.named B.method).1⟩
    obtain ⟨t, a1, o, b1, b2, b3⟩ := K s₁ rfl X₀
    exact ⟨t, o, a1, b1, b2, b3⟩
theorem lw_pre_spec {args : Array Value} {s : State} (h : (Jvm.Cond.and given_1 narrow_1).before args s = true) (hr : rest_1_c.before args s = true) : ∃ (b : Addr) (xs : List Int32), lw_P b xs args s := by
  have hs := flat_of_before _ h
  have hq := flat_of_before _ hr
  have hc : (Cond.count 1).before args s = true := hs _ (by decide +kernel)
  have harr : (Cond.arrayOf (.arg 0) .int).before args s = true := hs _ (by decide +kernel)
  have hle : (Cond.le (.length (.arg 0)) (.int 2560)).before args s = true := hs _ (by decide +kernel)
  have hlen : (Cond.isInt (.length (.arg 0))).before args s = true := hq _ (by decide +kernel)
  have hall : (Cond.all (.arg 0) (.isInt (.elem (.arg 0) (.index 0)))).before args s = true := hq _ (by decide +kernel)
  obtain ⟨b, xs, hb, hx⟩ := State.ints_of_pre rfl harr hlen hall
  have hsm : xs.length < 2 ^ 31 := hx.choose_spec.2.2.2
  have hev : (Term.length (.arg 0)).eval args s none [] s = some (.int xs.length.toInt32) := hx.length_eval hb
  have hv := Cond.le_ints hev (show (Term.int 2560).eval args s none [] s = some (.int 2560) from rfl)
  have hd : xs.length.toInt32 ≤ 2560 := by
    simpa [Cond.before, Cond.holds, hv] using hle
  have hN : xs.length ≤ 2560 := (Int32.ofNat_le_ofNat hsm (by decide)).mp (show Int32.ofNat xs.length ≤ Int32.ofNat 2560 from hd)
  exact ⟨b, xs, Cond.one_arg hc (show args[0]? = some (.ref b) from hb), hx, hN, h⟩
theorem lw_comes (l : Launch) : Comes l x (Jvm.Cond.code x code maxLocals ret :: tables_1) room_1 (fun tb e args s => Calls_1 tb e args s ∧ rest_1 tb e args s ∧ Pre_1 tb e args s)
    (fun _ _ args s o t => lw_Q args s o t) := by
  intro p e ha hc hk s m args below hf hfit hheap happ hpre
  obtain ⟨b, xs, hP⟩ := lw_pre_spec hpre.2.2 hpre.2.1
  obtain ⟨k, o, h1, h2, h3, hQ⟩ := lw_walk l b xs p e ha hc hk s m args below hf ((Spec.applies_iff_loose hf).mp happ).1 hP trivial
  exact ⟨k, o, h1, h2, h3, hQ⟩
theorem lw_frame {s t : State} {o : Outcome} {args : Array Value} (h : Framed s o t [] 600000 7302250) :
    Framed s o t (fieldLocs frame_1_writes args s ++ arrayLocs frame_1_arrays args s ++ staticLocs frame_1_statics s) 600000 7302250 := h
theorem lw_limb (L : Cond) (hL : ∀ (args : Array Value) (s t : State), L.after args s (.returned (some (.int 1))) t = true) :
    ArmFor flags0 classFile x code maxLocals ret World_1 tables_1 room_1 Calls_1 rest_1 Pre_1
      (fun tb e a s o t => postC L tb e a s o t ∧ Framed s o t (fieldLocs frame_1_writes a s ++ arrayLocs frame_1_arrays a s ++ staticLocs frame_1_statics s) 600000 7302250) := by
  intro l _ _ _ p e ha hc hk s m args below hf hfit hheap happ hpre
  obtain ⟨k, o, h1, h2, h3, rfl, hF⟩ := lw_comes l p e ha hc hk s m args below hf hfit hheap happ hpre
  exact ⟨k, _, h1, h2, h3, hL args s _, lw_frame hF⟩
theorem i_vc : Claimed_1_1 ∧ Claimed_1_2 := ⟨lw_limb limb_1_1 (fun args s t => by simp [limb_1_1, Cond.after, Cond.holds, Cond.value]), lw_limb limb_1_2 (fun args s t => Cond.after_iff.mpr (by
  first | (rw [show limb_1_2 = Cond.eq .result (.int 1) from rfl, Cond.eq_ints (x := 1) (y := 1) rfl rfl]; simp; done) | (simp [limb_1_2, Cond.value, Term.eval]; done)))⟩
