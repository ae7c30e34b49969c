/-! the pieces of code: each a predicate of what stands before it, out of the predicate of what stands behind it -/
def jw_A (base : Nat) : Nat → Prop := fun q => base ≤ q
/-- what stands outside the cells that are made, and stays: tables, statics, texts, links of nest mates -/
def jw_ST (ro : Nat → Option (Nat × (Nat → Int32))) (ad : Nat → Nat) (base : Nat) (U : State) : Prop :=
  (∀ k n f, ro k = some (n, f) → 1000 ≤ k ∧ va_T .int (ad k) n (fun j => .int (f j)) (jw_A base) U U.heap) ∧
  (∀ q ∈ jw_sts, va_Z q.1 q.2.1 q.2.2.1 (.ref (ad q.2.2.2)) (jw_A base) U U.heap) ∧
  va_Z "java/lang/String" "COMPACT_STRINGS" "Z" (.int 1) (jw_A base) U U.heap ∧
  va_Zq "jdk/internal/util/Preconditions" "SIOOBE_FORMATTER" "Ljava/util/function/BiFunction;" (jw_A base) U U.heap ∧
  vk_S 11 jw_len jw_byt (fun i => ad (2000 + i)) (fun i => ad (3000 + i)) (jw_A base) U U.heap ∧
  (∀ q ∈ jw_strs, vk_R q.1 q.2.1 q.2.2.1 (ad q.2.2.2) U) ∧
  (∀ w ∈ jw_ns, va_Nw w U) ∧ va_AO "SwipedStripe$Draw" U ∧ va_AO "SwipedStripe$Sheet" U
theorem jw_ns_warm {s U : State} (hW : s.WarmedH U.vm) (h : ∀ w ∈ jw_ns, va_Nw w s) : ∀ w ∈ jw_ns, va_Nw w U := by
  intro w hw
  have h1 := h w hw
  simp only [jw_ns, List.mem_cons, List.not_mem_nil, or_false] at hw
  rcases hw with rfl | rfl | rfl | rfl | rfl | rfl | rfl | rfl | rfl | rfl | rfl | rfl | rfl | rfl <;> first | exact va_Nw.warmF hW h1 | exact va_Nw.warmM hW h1
theorem jw_ns_same {s U : State} (hv : s.vm = U.vm) (h : ∀ w ∈ jw_ns, va_Nw w s) : ∀ w ∈ jw_ns, va_Nw w U := by
  intro w hw
  have h1 := h w hw
  simp only [jw_ns, List.mem_cons, List.not_mem_nil, or_false] at hw
  rcases hw with rfl | rfl | rfl | rfl | rfl | rfl | rfl | rfl | rfl | rfl | rfl | rfl | rfl | rfl <;> exact va_Nw.same rfl hv h1
theorem jw_ST_go {ro : Nat → Option (Nat × (Nat → Int32))} {ad : Nat → Nat} {base : Nat} {s U : State} {H : Heap} {locs : List Loc} (h : jw_ST ro ad base s) (hS : va_S (jw_A base) s.heap H locs) (hU : U.heap = H) (hW : s.WarmedH U.vm) : jw_ST ro ad base U := by
  subst hU
  have kp := hS.2.1
  obtain ⟨h1, h2, h3, h4, h5, h6, h7⟩ := h
  exact ⟨fun k n f hk => ⟨(h1 k n f hk).1, ((h1 k n f hk).2.kept kp).moved hW.alike⟩, fun q hq => ((h2 q hq).kept kp).moved hW.alike, (h3.kept kp).moved hW.alike, (h4.kept kp).moved hW.alike, (h5.kept kp).moved hW.alike, fun q hq => (h6 q hq).warm hW, jw_ns_warm hW h7.1, h7.2.1.moved hW.alike, h7.2.2.moved hW.alike⟩
theorem jw_ST_same {ro : Nat → Option (Nat × (Nat → Int32))} {ad : Nat → Nat} {base : Nat} {s U : State} (h : jw_ST ro ad base s) (hv : U.vm = s.vm) (hh : U.heap = s.heap) : jw_ST ro ad base U := by
  have al : s.vm.Alike U.vm := by rw [hv]; exact Vm.Alike.refl _
  obtain ⟨h1, h2, h3, h4, h5, h6, h7⟩ := h
  refine ⟨fun k n f hk => ⟨(h1 k n f hk).1, ?_⟩, fun q hq => ?_, ?_, ?_, ?_, fun q hq => (h6 q hq).same hv, jw_ns_same hv.symm h7.1, h7.2.1.moved al, h7.2.2.moved al⟩
  · rw [hh]; exact (h1 k n f hk).2.moved al
  · rw [hh]; exact (h2 q hq).moved al
  · rw [hh]; exact h3.moved al
  · rw [hh]; exact h4.moved al
  · rw [hh]; exact h5.moved al
def jw_X (p : Program) (s : State) (m : MethodId) (args : Array Value) (meth : Method) (c : Code) (cc : ByteArray) (nL : Nat) (own nm : String) (D : va_G) (aC ad : Nat → Nat) (base : Nat) (ro : Nat → Option (Nat × (Nat → Int32))) : Prop :=
  p.tables.exec = Jvm.exec ∧ c.code = cc ∧ c.maxLocals = nL ∧ s.vm.findClass own = some m.cls ∧ (∀ w ∈ jw_gd, w.before args s = true) ∧ va_K D jw_cl (jw_ty aC) s ∧ base ≤ s.heap.size ∧ (∀ k, k < 1000 → ad k = base + k) ∧ jw_ST ro ad base s ∧ meth.name = nm
/-- the kit's W at pc, for every frame and heap that the numbers stand for -/
def jw_W (p : Program) (l : Launch) (e : Env) (R : Room) (s : State) (m : MethodId) (args : Array Value) (below : List Frame) (meth : Method) (c : Code) (Q : State → Prop) (D : va_G) (aC ad : Nat → Nat) (base nL pc : Nat) : jw_S := fun ls st h z =>
  ∀ (H : Heap) (locs : List Loc) (la : Array Slot) (lv : List (Nat × Value)), va_P D jw_cl (jw_w aC ad h) H → H.size = base + h.length → h.length ≤ 1000 → (z.1 ≤ R.cells ∧ z.2 ≤ R.slots) → va_S (jw_A base) s.heap H locs → lv_has la nL lv → (∀ i v, jw_ge ls i = some v → jw_set v = true → (i, jw_v ad v) ∈ lv) → W p l e R s m args below meth c H locs z.1 z.2 Q (F0 m pc la (st.map (jw_v ad)))
/-- which instruction returns what -/
def jw_rt (rt : Option FieldType) (op : Instr) (v : Option Value) : Prop :=
  (rt = some .int ∧ op = .ireturn ∧ ∃ x : Int32, v = some (.int x)) ∨ (rt = some .boolean ∧ op = .ireturn ∧ ∃ x : Int32, v = some (.int x) ∧ (x = 0 ∨ x = 1)) ∨ (rt = some .char ∧ op = .ireturn ∧ ∃ x : Int32, v = some (.int x) ∧ narrow .char (.int x) = .int x) ∨ (rt = some .byte ∧ op = .ireturn ∧ ∃ x : Int32, v = some (.int x) ∧ narrow .byte (.int x) = .int x) ∨ (rt = some .long ∧ op = .lreturn ∧ ∃ x : Int64, v = some (.long x)) ∨ ((∃ C, rt = some (.object C)) ∧ op = .areturn ∧ ∃ a, v = some (.ref a)) ∨ (rt = none ∧ op = .return_ ∧ v = none)
def jw_R (p : Program) (l : Launch) (e : Env) (R : Room) (s : State) (m : MethodId) (args : Array Value) (below : List Frame) (meth : Method) (c : Code) (D : va_G) (aC ad : Nat → Nat) (base : Nat) (cc : ByteArray) (rt : Option FieldType) (Q : State → Prop) (mc ms : Nat) (K : jw_K) : Prop :=
  ∀ (v : Option Value) (op : Instr) (pc : Nat) (H : Heap) (locs : List Loc) (la : Array Slot) (h : jw_H) (z : Nat × Nat), jw_rt rt op v → decode cc pc = .ok (op, 1) → va_P D jw_cl (jw_w aC ad h) H → H.size = base + h.length → h.length ≤ 1000 → va_S (jw_A base) s.heap H locs → z.1 ≤ mc → z.2 ≤ ms → K v h → W p l e R s m args below meth c H locs z.1 z.2 Q (F0 m pc la (v.map (jw_v ad)).toList)
def jo_Ok (l : Launch) (cc : ByteArray) (nL : Nat) (own nm : String) (ro : Nat → Option (Nat × (Nat → Int32))) (R : Room) (rt : Option FieldType) (mc ms : Nat) (φ : jw_K → (Nat → jw_S) → jw_S) (pc : Nat) : Prop :=
  ∀ (p : Program) (e : Env) (s : State) (m : MethodId) (args : Array Value) (below : List Frame) (meth : Method) (c : Code) (Q : State → Prop) (D : va_G) (aC ad : Nat → Nat) (base : Nat) (K : jw_K), jw_X p s m args meth c cc nL own nm D aC ad base ro → jw_R p l e R s m args below meth c D aC ad base cc rt Q mc ms K → ∀ ls st h z, φ K (fun q => jw_W p l e R s m args below meth c Q D aC ad base nL q) ls st h z → jw_W p l e R s m args below meth c Q D aC ad base nL pc ls st h z
section JO
variable {l : Launch} {cc : ByteArray} {nL : Nat} {own nm : String} {ro : Nat → Option (Nat × (Nat → Int32))} {R : Room} {rt : Option FieldType} {mc ms : Nat} {pc : Nat} {k t : jw_K → (Nat → jw_S) → jw_S}
def xo_il (i : Nat) (k : jw_S) (ls st : List Value) (h : jw_H) (z : Nat × Nat) : Prop := match jw_ge ls i with
  | some (.int x) => k ls (.int x :: st) h z
  | _ => False
theorem jo_il {i : Nat} (hd : decode cc pc = .ok (.iload i, 2)) (hk : jo_Ok l cc nL own nm ro R rt mc ms k (pc + 2)) : jo_Ok l cc nL own nm ro R rt mc ms (fun K J => xo_il i (k K J)) pc := by
  intro p e s m args below meth c Q D aC ad base K X RT ls st h z hf H locs la lv hP hz hl hR hS hla hlv
  unfold xo_il at hf
  split at hf
  · rename_i x hx
    exact lv_iload X.1 X.2.1 hd (hla.2.2 _ (hlv _ _ hx rfl)) (hk p e s m args below meth c Q D aC ad base K X RT _ _ _ _ hf H locs la lv hP hz hl hR hS hla hlv)
  · exact hf.elim
theorem jo_iln {i : Nat} {j : Fin 4} (hd : decode cc pc = .ok (.iload_n j, 1)) (hi : (j : Nat) = i) (hk : jo_Ok l cc nL own nm ro R rt mc ms k (pc + 1)) : jo_Ok l cc nL own nm ro R rt mc ms (fun K J => xo_il i (k K J)) pc := by
  intro p e s m args below meth c Q D aC ad base K X RT ls st h z hf H locs la lv hP hz hl hR hS hla hlv
  unfold xo_il at hf
  split at hf
  · rename_i x hx
    exact lv_iload_n X.1 X.2.1 hd hi (hla.2.2 _ (hlv _ _ hx rfl)) (hk p e s m args below meth c Q D aC ad base K X RT _ _ _ _ hf H locs la lv hP hz hl hR hS hla hlv)
  · exact hf.elim
def xo_ll (i : Nat) (k : jw_S) (ls st : List Value) (h : jw_H) (z : Nat × Nat) : Prop := match jw_ge ls i with
  | some (.long x) => k ls (.long x :: st) h z
  | _ => False
theorem jo_ll {i : Nat} (hd : decode cc pc = .ok (.lload i, 2)) (hk : jo_Ok l cc nL own nm ro R rt mc ms k (pc + 2)) : jo_Ok l cc nL own nm ro R rt mc ms (fun K J => xo_ll i (k K J)) pc := by
  intro p e s m args below meth c Q D aC ad base K X RT ls st h z hf H locs la lv hP hz hl hR hS hla hlv
  unfold xo_ll at hf
  split at hf
  · rename_i x hx
    exact lv_lload X.1 X.2.1 hd (hla.2.2 _ (hlv _ _ hx rfl)) (hk p e s m args below meth c Q D aC ad base K X RT _ _ _ _ hf H locs la lv hP hz hl hR hS hla hlv)
  · exact hf.elim
theorem jo_lln {i : Nat} {j : Fin 4} (hd : decode cc pc = .ok (.lload_n j, 1)) (hi : (j : Nat) = i) (hk : jo_Ok l cc nL own nm ro R rt mc ms k (pc + 1)) : jo_Ok l cc nL own nm ro R rt mc ms (fun K J => xo_ll i (k K J)) pc := by
  intro p e s m args below meth c Q D aC ad base K X RT ls st h z hf H locs la lv hP hz hl hR hS hla hlv
  unfold xo_ll at hf
  split at hf
  · rename_i x hx
    exact lv_lload_n X.1 X.2.1 hd hi (hla.2.2 _ (hlv _ _ hx rfl)) (hk p e s m args below meth c Q D aC ad base K X RT _ _ _ _ hf H locs la lv hP hz hl hR hS hla hlv)
  · exact hf.elim
def xo_al (i : Nat) (k : jw_S) (ls st : List Value) (h : jw_H) (z : Nat × Nat) : Prop := match jw_ge ls i with
  | some (.ref x) => k ls (.ref x :: st) h z
  | _ => False
theorem jo_al {i : Nat} (hd : decode cc pc = .ok (.aload i, 2)) (hk : jo_Ok l cc nL own nm ro R rt mc ms k (pc + 2)) : jo_Ok l cc nL own nm ro R rt mc ms (fun K J => xo_al i (k K J)) pc := by
  intro p e s m args below meth c Q D aC ad base K X RT ls st h z hf H locs la lv hP hz hl hR hS hla hlv
  unfold xo_al at hf
  split at hf
  · rename_i x hx
    exact lv_aload X.1 X.2.1 hd (hla.2.2 _ (hlv _ _ hx rfl)) (hk p e s m args below meth c Q D aC ad base K X RT _ _ _ _ hf H locs la lv hP hz hl hR hS hla hlv)
  · exact hf.elim
theorem jo_aln {i : Nat} {j : Fin 4} (hd : decode cc pc = .ok (.aload_n j, 1)) (hi : (j : Nat) = i) (hk : jo_Ok l cc nL own nm ro R rt mc ms k (pc + 1)) : jo_Ok l cc nL own nm ro R rt mc ms (fun K J => xo_al i (k K J)) pc := by
  intro p e s m args below meth c Q D aC ad base K X RT ls st h z hf H locs la lv hP hz hl hR hS hla hlv
  unfold xo_al at hf
  split at hf
  · rename_i x hx
    exact lv_aload_n X.1 X.2.1 hd hi (hla.2.2 _ (hlv _ _ hx rfl)) (hk p e s m args below meth c Q D aC ad base K X RT _ _ _ _ hf H locs la lv hP hz hl hR hS hla hlv)
  · exact hf.elim
theorem jw_lv1 {ad : Nat → Nat} {ls : List Value} {lv : List (Nat × Value)} {i : Nat} {v : Value} (hlv : ∀ i v, jw_ge ls i = some v → jw_set v = true → (i, jw_v ad v) ∈ lv) :
    ∀ j w, jw_ge (jw_st ls i v) j = some w → jw_set w = true → (j, jw_v ad w) ∈ (i, jw_v ad v) :: lv.filter (fun q => !(q.1 == i) && !(q.1 + 1 == i && q.2.category == 2)) := by
  intro j w hj hw
  rcases jw_st_ge ls i j v w hj hw with ⟨h1, h2⟩ | ⟨h1, h2, h3⟩
  · subst h1; subst h2; exact List.mem_cons_self
  · refine List.mem_cons_of_mem _ (List.mem_filter.mpr ⟨hlv j w h2 hw, ?_⟩)
    simp only [jw_v_cat, Bool.and_eq_true, Bool.not_eq_true', beq_eq_false_iff_ne, ne_eq, Bool.and_eq_false_imp, beq_iff_eq]
    exact ⟨h1, fun q1 q2 => h3 ⟨q1, q2⟩⟩
theorem jw_lv2 {ad : Nat → Nat} {ls : List Value} {lv : List (Nat × Value)} {i : Nat} {v : Value} (hlv : ∀ i v, jw_ge ls i = some v → jw_set v = true → (i, jw_v ad v) ∈ lv) :
    ∀ j w, jw_ge (jw_st2 ls i v) j = some w → jw_set w = true → (j, jw_v ad w) ∈ (i, jw_v ad v) :: lv.filter (fun q => !(q.1 == i) && (!(q.1 == i + 1) && !(q.1 + 1 == i && q.2.category == 2))) := by
  intro j w hj hw
  rcases jw_st_ge _ i j v w hj hw with ⟨h1, h2⟩ | ⟨h1, h2, h3⟩
  · subst h1; subst h2; exact List.mem_cons_self
  · rcases jw_se_ge ls (i + 1) j _ w h2 with ⟨h4, h5⟩ | ⟨h4, h5⟩
    · subst h5; cases hw
    · refine List.mem_cons_of_mem _ (List.mem_filter.mpr ⟨hlv j w h5 hw, ?_⟩)
      simp only [jw_v_cat, Bool.and_eq_true, Bool.not_eq_true', beq_eq_false_iff_ne, ne_eq, Bool.and_eq_false_imp, beq_iff_eq]
      exact ⟨h1, h4, fun q1 q2 => h3 ⟨q1, q2⟩⟩
def xo_is (i : Nat) (k : jw_S) (ls st : List Value) (h : jw_H) (z : Nat × Nat) : Prop := match st with
  | .int x :: st => k (jw_st ls i (.int x)) st h z
  | _ => False
theorem jo_is {i : Nat} (hd : decode cc pc = .ok (.istore i, 2)) (hn : i < nL) (hk : jo_Ok l cc nL own nm ro R rt mc ms k (pc + 2)) : jo_Ok l cc nL own nm ro R rt mc ms (fun K J => xo_is i (k K J)) pc := by
  intro p e s m args below meth c Q D aC ad base K X RT ls st h z hf H locs la lv hP hz hl hR hS hla hlv
  unfold xo_is at hf
  split at hf
  · exact lv_istore X.1 X.2.1 hd hla hn rfl (fun la2 hla2 => hk p e s m args below meth c Q D aC ad base K X RT _ _ _ _ hf H locs la2 _ hP hz hl hR hS hla2 (jw_lv1 hlv))
  · exact hf.elim
theorem jo_isn {i : Nat} {j : Fin 4} (hd : decode cc pc = .ok (.istore_n j, 1)) (hi : (j : Nat) = i) (hn : i < nL) (hk : jo_Ok l cc nL own nm ro R rt mc ms k (pc + 1)) : jo_Ok l cc nL own nm ro R rt mc ms (fun K J => xo_is i (k K J)) pc := by
  intro p e s m args below meth c Q D aC ad base K X RT ls st h z hf H locs la lv hP hz hl hR hS hla hlv
  unfold xo_is at hf
  split at hf
  · exact lv_istore_n X.1 X.2.1 hd hi hla hn rfl (fun la2 hla2 => hk p e s m args below meth c Q D aC ad base K X RT _ _ _ _ hf H locs la2 _ hP hz hl hR hS hla2 (jw_lv1 hlv))
  · exact hf.elim
def xo_ls (i : Nat) (k : jw_S) (ls st : List Value) (h : jw_H) (z : Nat × Nat) : Prop := match st with
  | .long x :: st => k (jw_st2 ls i (.long x)) st h z
  | _ => False
theorem jo_ls {i : Nat} (hd : decode cc pc = .ok (.lstore i, 2)) (hn : i + 1 < nL) (hk : jo_Ok l cc nL own nm ro R rt mc ms k (pc + 2)) : jo_Ok l cc nL own nm ro R rt mc ms (fun K J => xo_ls i (k K J)) pc := by
  intro p e s m args below meth c Q D aC ad base K X RT ls st h z hf H locs la lv hP hz hl hR hS hla hlv
  unfold xo_ls at hf
  split at hf
  · exact lv_lstore X.1 X.2.1 hd hla hn rfl (fun la2 hla2 => hk p e s m args below meth c Q D aC ad base K X RT _ _ _ _ hf H locs la2 _ hP hz hl hR hS hla2 (jw_lv2 hlv))
  · exact hf.elim
theorem jo_lsn {i : Nat} {j : Fin 4} (hd : decode cc pc = .ok (.lstore_n j, 1)) (hi : (j : Nat) = i) (hn : i + 1 < nL) (hk : jo_Ok l cc nL own nm ro R rt mc ms k (pc + 1)) : jo_Ok l cc nL own nm ro R rt mc ms (fun K J => xo_ls i (k K J)) pc := by
  intro p e s m args below meth c Q D aC ad base K X RT ls st h z hf H locs la lv hP hz hl hR hS hla hlv
  unfold xo_ls at hf
  split at hf
  · exact lv_lstore_n X.1 X.2.1 hd hi hla hn rfl (fun la2 hla2 => hk p e s m args below meth c Q D aC ad base K X RT _ _ _ _ hf H locs la2 _ hP hz hl hR hS hla2 (jw_lv2 hlv))
  · exact hf.elim
def xo_as (i : Nat) (k : jw_S) (ls st : List Value) (h : jw_H) (z : Nat × Nat) : Prop := match st with
  | .ref x :: st => k (jw_st ls i (.ref x)) st h z
  | _ => False
theorem jo_as {i : Nat} (hd : decode cc pc = .ok (.astore i, 2)) (hn : i < nL) (hk : jo_Ok l cc nL own nm ro R rt mc ms k (pc + 2)) : jo_Ok l cc nL own nm ro R rt mc ms (fun K J => xo_as i (k K J)) pc := by
  intro p e s m args below meth c Q D aC ad base K X RT ls st h z hf H locs la lv hP hz hl hR hS hla hlv
  unfold xo_as at hf
  split at hf
  · exact lv_astore X.1 X.2.1 hd hla hn rfl (fun la2 hla2 => hk p e s m args below meth c Q D aC ad base K X RT _ _ _ _ hf H locs la2 _ hP hz hl hR hS hla2 (jw_lv1 hlv))
  · exact hf.elim
theorem jo_asn {i : Nat} {j : Fin 4} (hd : decode cc pc = .ok (.astore_n j, 1)) (hi : (j : Nat) = i) (hn : i < nL) (hk : jo_Ok l cc nL own nm ro R rt mc ms k (pc + 1)) : jo_Ok l cc nL own nm ro R rt mc ms (fun K J => xo_as i (k K J)) pc := by
  intro p e s m args below meth c Q D aC ad base K X RT ls st h z hf H locs la lv hP hz hl hR hS hla hlv
  unfold xo_as at hf
  split at hf
  · exact lv_astore_n X.1 X.2.1 hd hi hla hn rfl (fun la2 hla2 => hk p e s m args below meth c Q D aC ad base K X RT _ _ _ _ hf H locs la2 _ hP hz hl hR hS hla2 (jw_lv1 hlv))
  · exact hf.elim
def xo_ic (i : Nat) (n : Int32) (k : jw_S) (ls st : List Value) (h : jw_H) (z : Nat × Nat) : Prop := match jw_ge ls i with
  | some (.int x) => k (jw_st ls i (.int (x + n))) st h z
  | _ => False
theorem jo_ic {i : Nat} {n : Int32} {n0 : Int} (hd : decode cc pc = .ok (.iinc i n0, 3)) (h0 : Int32.ofInt n0 = n) (hn : i < nL) (hk : jo_Ok l cc nL own nm ro R rt mc ms k (pc + 3)) : jo_Ok l cc nL own nm ro R rt mc ms (fun K J => xo_ic i n (k K J)) pc := by
  intro p e s m args below meth c Q D aC ad base K X RT ls st h z hf H locs la lv hP hz hl hR hS hla hlv
  unfold xo_ic at hf
  split at hf
  · rename_i x hx
    obtain ⟨q, hq⟩ := List.getElem?_of_mem (hlv _ _ hx rfl)
    exact lv_iinc X.1 X.2.1 hd hla hq (by rw [h0]) hn rfl (fun la2 hla2 => hk p e s m args below meth c Q D aC ad base K X RT _ _ _ _ hf H locs la2 _ hP hz hl hR hS hla2 (jw_lv1 hlv))
  · exact hf.elim
def xo_ci (v : Int32) (k : jw_S) (ls st : List Value) (h : jw_H) (z : Nat × Nat) : Prop := k ls (.int v :: st) h z
def xo_cl (v : Int64) (k : jw_S) (ls st : List Value) (h : jw_H) (z : Nat × Nat) : Prop := k ls (.long v :: st) h z
theorem jo_ici {n : Int} {v : Int32} (hd : decode cc pc = .ok (.iconst n, 1)) (hv : Int32.ofInt n = v) (hk : jo_Ok l cc nL own nm ro R rt mc ms k (pc + 1)) : jo_Ok l cc nL own nm ro R rt mc ms (fun K J => xo_ci v (k K J)) pc := by
  intro p e s m args below meth c Q D aC ad base K X RT ls st h z hf H locs la lv hP hz hl hR hS hla hlv
  exact lv_iconst X.1 X.2.1 hd hv (hk p e s m args below meth c Q D aC ad base K X RT _ _ _ _ hf H locs la lv hP hz hl hR hS hla hlv)
theorem jo_bpi {n : Int} {v : Int32} (hd : decode cc pc = .ok (.bipush n, 2)) (hv : (Int8.ofInt n).toInt32 = v) (hk : jo_Ok l cc nL own nm ro R rt mc ms k (pc + 2)) : jo_Ok l cc nL own nm ro R rt mc ms (fun K J => xo_ci v (k K J)) pc := by
  intro p e s m args below meth c Q D aC ad base K X RT ls st h z hf H locs la lv hP hz hl hR hS hla hlv
  exact lv_bipush X.1 X.2.1 hd hv (hk p e s m args below meth c Q D aC ad base K X RT _ _ _ _ hf H locs la lv hP hz hl hR hS hla hlv)
theorem jo_spi {n : Int} {v : Int32} (hd : decode cc pc = .ok (.sipush n, 3)) (hv : (Int16.ofInt n).toInt32 = v) (hk : jo_Ok l cc nL own nm ro R rt mc ms k (pc + 3)) : jo_Ok l cc nL own nm ro R rt mc ms (fun K J => xo_ci v (k K J)) pc := by
  intro p e s m args below meth c Q D aC ad base K X RT ls st h z hf H locs la lv hP hz hl hR hS hla hlv
  exact lv_sipush X.1 X.2.1 hd hv (hk p e s m args below meth c Q D aC ad base K X RT _ _ _ _ hf H locs la lv hP hz hl hR hS hla hlv)
theorem jo_ldc {i : Nat} {v : Int32} (hd : decode cc pc = .ok (.ldc i, 2)) (hw : Cond.constant own i v ∈ jw_gd) (hk : jo_Ok l cc nL own nm ro R rt mc ms k (pc + 2)) : jo_Ok l cc nL own nm ro R rt mc ms (fun K J => xo_ci v (k K J)) pc := by
  intro p e s m args below meth c Q D aC ad base K X RT ls st h z hf H locs la lv hP hz hl hR hS hla hlv
  exact lv_ldc X.1 X.2.1 X.2.2.2.1 (X.2.2.2.2.1 _ hw) hd (hk p e s m args below meth c Q D aC ad base K X RT _ _ _ _ hf H locs la lv hP hz hl hR hS hla hlv)
theorem jo_lco {n : Fin 2} {v : Int64} (hd : decode cc pc = .ok (.lconst n, 1)) (hv : Int64.ofNat (n : Nat) = v) (hk : jo_Ok l cc nL own nm ro R rt mc ms k (pc + 1)) : jo_Ok l cc nL own nm ro R rt mc ms (fun K J => xo_cl v (k K J)) pc := by
  intro p e s m args below meth c Q D aC ad base K X RT ls st h z hf H locs la lv hP hz hl hR hS hla hlv
  exact lv_lconst X.1 X.2.1 hd hv (hk p e s m args below meth c Q D aC ad base K X RT _ _ _ _ hf H locs la lv hP hz hl hR hS hla hlv)
theorem jo_ld2 {i : Nat} {v : Int64} (hd : decode cc pc = .ok (.ldc2_w i, 3)) (hw : Cond.constantLong own i v ∈ jw_gd) (hk : jo_Ok l cc nL own nm ro R rt mc ms k (pc + 3)) : jo_Ok l cc nL own nm ro R rt mc ms (fun K J => xo_cl v (k K J)) pc := by
  intro p e s m args below meth c Q D aC ad base K X RT ls st h z hf H locs la lv hP hz hl hR hS hla hlv
  exact lv_ldc2 X.1 X.2.1 X.2.2.2.1 (X.2.2.2.2.1 _ hw) hd (hk p e s m args below meth c Q D aC ad base K X RT _ _ _ _ hf H locs la lv hP hz hl hR hS hla hlv)
def xo_iadd (k : jw_S) (ls st : List Value) (h : jw_H) (z : Nat × Nat) : Prop := match st with
  | .int y :: .int x :: st => k ls (.int (x + y) :: st) h z
  | _ => False
theorem jo_iadd (hd : decode cc pc = .ok (.iadd, 1)) (hk : jo_Ok l cc nL own nm ro R rt mc ms k (pc + 1)) : jo_Ok l cc nL own nm ro R rt mc ms (fun K J => xo_iadd (k K J)) pc := by
  intro p e s m args below meth c Q D aC ad base K X RT ls st h z hf H locs la lv hP hz hl hR hS hla hlv
  unfold xo_iadd at hf
  split at hf
  · exact lv_iadd X.1 X.2.1 hd (hk p e s m args below meth c Q D aC ad base K X RT _ _ _ _ hf H locs la lv hP hz hl hR hS hla hlv)
  · exact hf.elim
def xo_isub (k : jw_S) (ls st : List Value) (h : jw_H) (z : Nat × Nat) : Prop := match st with
  | .int y :: .int x :: st => k ls (.int (x - y) :: st) h z
  | _ => False
theorem jo_isub (hd : decode cc pc = .ok (.isub, 1)) (hk : jo_Ok l cc nL own nm ro R rt mc ms k (pc + 1)) : jo_Ok l cc nL own nm ro R rt mc ms (fun K J => xo_isub (k K J)) pc := by
  intro p e s m args below meth c Q D aC ad base K X RT ls st h z hf H locs la lv hP hz hl hR hS hla hlv
  unfold xo_isub at hf
  split at hf
  · exact lv_isub X.1 X.2.1 hd (hk p e s m args below meth c Q D aC ad base K X RT _ _ _ _ hf H locs la lv hP hz hl hR hS hla hlv)
  · exact hf.elim
def xo_imul (k : jw_S) (ls st : List Value) (h : jw_H) (z : Nat × Nat) : Prop := match st with
  | .int y :: .int x :: st => k ls (.int (x * y) :: st) h z
  | _ => False
theorem jo_imul (hd : decode cc pc = .ok (.imul, 1)) (hk : jo_Ok l cc nL own nm ro R rt mc ms k (pc + 1)) : jo_Ok l cc nL own nm ro R rt mc ms (fun K J => xo_imul (k K J)) pc := by
  intro p e s m args below meth c Q D aC ad base K X RT ls st h z hf H locs la lv hP hz hl hR hS hla hlv
  unfold xo_imul at hf
  split at hf
  · exact lv_imul X.1 X.2.1 hd (hk p e s m args below meth c Q D aC ad base K X RT _ _ _ _ hf H locs la lv hP hz hl hR hS hla hlv)
  · exact hf.elim
def xo_iand (k : jw_S) (ls st : List Value) (h : jw_H) (z : Nat × Nat) : Prop := match st with
  | .int y :: .int x :: st => k ls (.int (x &&& y) :: st) h z
  | _ => False
theorem jo_iand (hd : decode cc pc = .ok (.iand, 1)) (hk : jo_Ok l cc nL own nm ro R rt mc ms k (pc + 1)) : jo_Ok l cc nL own nm ro R rt mc ms (fun K J => xo_iand (k K J)) pc := by
  intro p e s m args below meth c Q D aC ad base K X RT ls st h z hf H locs la lv hP hz hl hR hS hla hlv
  unfold xo_iand at hf
  split at hf
  · exact lv_iand X.1 X.2.1 hd (hk p e s m args below meth c Q D aC ad base K X RT _ _ _ _ hf H locs la lv hP hz hl hR hS hla hlv)
  · exact hf.elim
def xo_ior (k : jw_S) (ls st : List Value) (h : jw_H) (z : Nat × Nat) : Prop := match st with
  | .int y :: .int x :: st => k ls (.int (x ||| y) :: st) h z
  | _ => False
theorem jo_ior (hd : decode cc pc = .ok (.ior, 1)) (hk : jo_Ok l cc nL own nm ro R rt mc ms k (pc + 1)) : jo_Ok l cc nL own nm ro R rt mc ms (fun K J => xo_ior (k K J)) pc := by
  intro p e s m args below meth c Q D aC ad base K X RT ls st h z hf H locs la lv hP hz hl hR hS hla hlv
  unfold xo_ior at hf
  split at hf
  · exact lv_ior X.1 X.2.1 hd (hk p e s m args below meth c Q D aC ad base K X RT _ _ _ _ hf H locs la lv hP hz hl hR hS hla hlv)
  · exact hf.elim
def xo_ixor (k : jw_S) (ls st : List Value) (h : jw_H) (z : Nat × Nat) : Prop := match st with
  | .int y :: .int x :: st => k ls (.int (x ^^^ y) :: st) h z
  | _ => False
theorem jo_ixor (hd : decode cc pc = .ok (.ixor, 1)) (hk : jo_Ok l cc nL own nm ro R rt mc ms k (pc + 1)) : jo_Ok l cc nL own nm ro R rt mc ms (fun K J => xo_ixor (k K J)) pc := by
  intro p e s m args below meth c Q D aC ad base K X RT ls st h z hf H locs la lv hP hz hl hR hS hla hlv
  unfold xo_ixor at hf
  split at hf
  · exact lv_ixor X.1 X.2.1 hd (hk p e s m args below meth c Q D aC ad base K X RT _ _ _ _ hf H locs la lv hP hz hl hR hS hla hlv)
  · exact hf.elim
def xo_ishl (k : jw_S) (ls st : List Value) (h : jw_H) (z : Nat × Nat) : Prop := match st with
  | .int y :: .int x :: st => k ls (.int (x <<< (y &&& 31)) :: st) h z
  | _ => False
theorem jo_ishl (hd : decode cc pc = .ok (.ishl, 1)) (hk : jo_Ok l cc nL own nm ro R rt mc ms k (pc + 1)) : jo_Ok l cc nL own nm ro R rt mc ms (fun K J => xo_ishl (k K J)) pc := by
  intro p e s m args below meth c Q D aC ad base K X RT ls st h z hf H locs la lv hP hz hl hR hS hla hlv
  unfold xo_ishl at hf
  split at hf
  · exact lv_ishl X.1 X.2.1 hd (hk p e s m args below meth c Q D aC ad base K X RT _ _ _ _ hf H locs la lv hP hz hl hR hS hla hlv)
  · exact hf.elim
def xo_ishr (k : jw_S) (ls st : List Value) (h : jw_H) (z : Nat × Nat) : Prop := match st with
  | .int y :: .int x :: st => k ls (.int (x >>> (y &&& 31)) :: st) h z
  | _ => False
theorem jo_ishr (hd : decode cc pc = .ok (.ishr, 1)) (hk : jo_Ok l cc nL own nm ro R rt mc ms k (pc + 1)) : jo_Ok l cc nL own nm ro R rt mc ms (fun K J => xo_ishr (k K J)) pc := by
  intro p e s m args below meth c Q D aC ad base K X RT ls st h z hf H locs la lv hP hz hl hR hS hla hlv
  unfold xo_ishr at hf
  split at hf
  · exact lv_ishr X.1 X.2.1 hd (hk p e s m args below meth c Q D aC ad base K X RT _ _ _ _ hf H locs la lv hP hz hl hR hS hla hlv)
  · exact hf.elim
def xo_iushr (k : jw_S) (ls st : List Value) (h : jw_H) (z : Nat × Nat) : Prop := match st with
  | .int y :: .int x :: st => k ls (.int (x.toUInt32 >>> (y.toUInt32 &&& Int32.toUInt32 31)).toInt32 :: st) h z
  | _ => False
theorem jo_iushr (hd : decode cc pc = .ok (.iushr, 1)) (hk : jo_Ok l cc nL own nm ro R rt mc ms k (pc + 1)) : jo_Ok l cc nL own nm ro R rt mc ms (fun K J => xo_iushr (k K J)) pc := by
  intro p e s m args below meth c Q D aC ad base K X RT ls st h z hf H locs la lv hP hz hl hR hS hla hlv
  unfold xo_iushr at hf
  split at hf
  · exact lv_iushr X.1 X.2.1 hd rfl (hk p e s m args below meth c Q D aC ad base K X RT _ _ _ _ hf H locs la lv hP hz hl hR hS hla hlv)
  · exact hf.elim
def xo_idiv (k : jw_S) (ls st : List Value) (h : jw_H) (z : Nat × Nat) : Prop := match st with
  | .int y :: .int x :: st => ¬ y = 0 ∧ k ls (.int (x / y) :: st) h z
  | _ => False
theorem jo_idiv (hd : decode cc pc = .ok (.idiv, 1)) (hk : jo_Ok l cc nL own nm ro R rt mc ms k (pc + 1)) : jo_Ok l cc nL own nm ro R rt mc ms (fun K J => xo_idiv (k K J)) pc := by
  intro p e s m args below meth c Q D aC ad base K X RT ls st h z hf H locs la lv hP hz hl hR hS hla hlv
  unfold xo_idiv at hf
  split at hf
  · exact lv_idiv X.1 X.2.1 hd hf.1 (hk p e s m args below meth c Q D aC ad base K X RT _ _ _ _ hf.2 H locs la lv hP hz hl hR hS hla hlv)
  · exact hf.elim
def xo_irem (k : jw_S) (ls st : List Value) (h : jw_H) (z : Nat × Nat) : Prop := match st with
  | .int y :: .int x :: st => ¬ y = 0 ∧ k ls (.int (x - x / y * y) :: st) h z
  | _ => False
theorem jo_irem (hd : decode cc pc = .ok (.irem, 1)) (hk : jo_Ok l cc nL own nm ro R rt mc ms k (pc + 1)) : jo_Ok l cc nL own nm ro R rt mc ms (fun K J => xo_irem (k K J)) pc := by
  intro p e s m args below meth c Q D aC ad base K X RT ls st h z hf H locs la lv hP hz hl hR hS hla hlv
  unfold xo_irem at hf
  split at hf
  · exact lv_irem X.1 X.2.1 hd hf.1 (hk p e s m args below meth c Q D aC ad base K X RT _ _ _ _ hf.2 H locs la lv hP hz hl hR hS hla hlv)
  · exact hf.elim
def xo_ineg (k : jw_S) (ls st : List Value) (h : jw_H) (z : Nat × Nat) : Prop := match st with
  | .int x :: st => k ls (.int (-x) :: st) h z
  | _ => False
theorem jo_ineg (hd : decode cc pc = .ok (.ineg, 1)) (hk : jo_Ok l cc nL own nm ro R rt mc ms k (pc + 1)) : jo_Ok l cc nL own nm ro R rt mc ms (fun K J => xo_ineg (k K J)) pc := by
  intro p e s m args below meth c Q D aC ad base K X RT ls st h z hf H locs la lv hP hz hl hR hS hla hlv
  unfold xo_ineg at hf
  split at hf
  · exact lv_ineg X.1 X.2.1 hd (hk p e s m args below meth c Q D aC ad base K X RT _ _ _ _ hf H locs la lv hP hz hl hR hS hla hlv)
  · exact hf.elim
def xo_ladd (k : jw_S) (ls st : List Value) (h : jw_H) (z : Nat × Nat) : Prop := match st with
  | .long y :: .long x :: st => k ls (.long (x + y) :: st) h z
  | _ => False
theorem jo_ladd (hd : decode cc pc = .ok (.ladd, 1)) (hk : jo_Ok l cc nL own nm ro R rt mc ms k (pc + 1)) : jo_Ok l cc nL own nm ro R rt mc ms (fun K J => xo_ladd (k K J)) pc := by
  intro p e s m args below meth c Q D aC ad base K X RT ls st h z hf H locs la lv hP hz hl hR hS hla hlv
  unfold xo_ladd at hf
  split at hf
  · exact lv_ladd X.1 X.2.1 hd (hk p e s m args below meth c Q D aC ad base K X RT _ _ _ _ hf H locs la lv hP hz hl hR hS hla hlv)
  · exact hf.elim
def xo_lsub (k : jw_S) (ls st : List Value) (h : jw_H) (z : Nat × Nat) : Prop := match st with
  | .long y :: .long x :: st => k ls (.long (x - y) :: st) h z
  | _ => False
theorem jo_lsub (hd : decode cc pc = .ok (.lsub, 1)) (hk : jo_Ok l cc nL own nm ro R rt mc ms k (pc + 1)) : jo_Ok l cc nL own nm ro R rt mc ms (fun K J => xo_lsub (k K J)) pc := by
  intro p e s m args below meth c Q D aC ad base K X RT ls st h z hf H locs la lv hP hz hl hR hS hla hlv
  unfold xo_lsub at hf
  split at hf
  · exact lv_lsub X.1 X.2.1 hd (hk p e s m args below meth c Q D aC ad base K X RT _ _ _ _ hf H locs la lv hP hz hl hR hS hla hlv)
  · exact hf.elim
def xo_lmul (k : jw_S) (ls st : List Value) (h : jw_H) (z : Nat × Nat) : Prop := match st with
  | .long y :: .long x :: st => k ls (.long (x * y) :: st) h z
  | _ => False
theorem jo_lmul (hd : decode cc pc = .ok (.lmul, 1)) (hk : jo_Ok l cc nL own nm ro R rt mc ms k (pc + 1)) : jo_Ok l cc nL own nm ro R rt mc ms (fun K J => xo_lmul (k K J)) pc := by
  intro p e s m args below meth c Q D aC ad base K X RT ls st h z hf H locs la lv hP hz hl hR hS hla hlv
  unfold xo_lmul at hf
  split at hf
  · exact lv_lmul X.1 X.2.1 hd (hk p e s m args below meth c Q D aC ad base K X RT _ _ _ _ hf H locs la lv hP hz hl hR hS hla hlv)
  · exact hf.elim
def xo_land (k : jw_S) (ls st : List Value) (h : jw_H) (z : Nat × Nat) : Prop := match st with
  | .long y :: .long x :: st => k ls (.long (x &&& y) :: st) h z
  | _ => False
theorem jo_land (hd : decode cc pc = .ok (.land, 1)) (hk : jo_Ok l cc nL own nm ro R rt mc ms k (pc + 1)) : jo_Ok l cc nL own nm ro R rt mc ms (fun K J => xo_land (k K J)) pc := by
  intro p e s m args below meth c Q D aC ad base K X RT ls st h z hf H locs la lv hP hz hl hR hS hla hlv
  unfold xo_land at hf
  split at hf
  · exact lv_land X.1 X.2.1 hd (hk p e s m args below meth c Q D aC ad base K X RT _ _ _ _ hf H locs la lv hP hz hl hR hS hla hlv)
  · exact hf.elim
def xo_lor (k : jw_S) (ls st : List Value) (h : jw_H) (z : Nat × Nat) : Prop := match st with
  | .long y :: .long x :: st => k ls (.long (x ||| y) :: st) h z
  | _ => False
theorem jo_lor (hd : decode cc pc = .ok (.lor, 1)) (hk : jo_Ok l cc nL own nm ro R rt mc ms k (pc + 1)) : jo_Ok l cc nL own nm ro R rt mc ms (fun K J => xo_lor (k K J)) pc := by
  intro p e s m args below meth c Q D aC ad base K X RT ls st h z hf H locs la lv hP hz hl hR hS hla hlv
  unfold xo_lor at hf
  split at hf
  · exact lv_lor X.1 X.2.1 hd (hk p e s m args below meth c Q D aC ad base K X RT _ _ _ _ hf H locs la lv hP hz hl hR hS hla hlv)
  · exact hf.elim
def xo_lxor (k : jw_S) (ls st : List Value) (h : jw_H) (z : Nat × Nat) : Prop := match st with
  | .long y :: .long x :: st => k ls (.long (x ^^^ y) :: st) h z
  | _ => False
theorem jo_lxor (hd : decode cc pc = .ok (.lxor, 1)) (hk : jo_Ok l cc nL own nm ro R rt mc ms k (pc + 1)) : jo_Ok l cc nL own nm ro R rt mc ms (fun K J => xo_lxor (k K J)) pc := by
  intro p e s m args below meth c Q D aC ad base K X RT ls st h z hf H locs la lv hP hz hl hR hS hla hlv
  unfold xo_lxor at hf
  split at hf
  · exact lv_lxor X.1 X.2.1 hd (hk p e s m args below meth c Q D aC ad base K X RT _ _ _ _ hf H locs la lv hP hz hl hR hS hla hlv)
  · exact hf.elim
def xo_ldiv (k : jw_S) (ls st : List Value) (h : jw_H) (z : Nat × Nat) : Prop := match st with
  | .long y :: .long x :: st => ¬ y = 0 ∧ k ls (.long (x / y) :: st) h z
  | _ => False
theorem jo_ldiv (hd : decode cc pc = .ok (.ldiv, 1)) (hk : jo_Ok l cc nL own nm ro R rt mc ms k (pc + 1)) : jo_Ok l cc nL own nm ro R rt mc ms (fun K J => xo_ldiv (k K J)) pc := by
  intro p e s m args below meth c Q D aC ad base K X RT ls st h z hf H locs la lv hP hz hl hR hS hla hlv
  unfold xo_ldiv at hf
  split at hf
  · exact lv_ldiv X.1 X.2.1 hd hf.1 (hk p e s m args below meth c Q D aC ad base K X RT _ _ _ _ hf.2 H locs la lv hP hz hl hR hS hla hlv)
  · exact hf.elim
def xo_lrem (k : jw_S) (ls st : List Value) (h : jw_H) (z : Nat × Nat) : Prop := match st with
  | .long y :: .long x :: st => ¬ y = 0 ∧ k ls (.long (x - x / y * y) :: st) h z
  | _ => False
theorem jo_lrem (hd : decode cc pc = .ok (.lrem, 1)) (hk : jo_Ok l cc nL own nm ro R rt mc ms k (pc + 1)) : jo_Ok l cc nL own nm ro R rt mc ms (fun K J => xo_lrem (k K J)) pc := by
  intro p e s m args below meth c Q D aC ad base K X RT ls st h z hf H locs la lv hP hz hl hR hS hla hlv
  unfold xo_lrem at hf
  split at hf
  · exact lv_lrem X.1 X.2.1 hd hf.1 (hk p e s m args below meth c Q D aC ad base K X RT _ _ _ _ hf.2 H locs la lv hP hz hl hR hS hla hlv)
  · exact hf.elim
def xo_lneg (k : jw_S) (ls st : List Value) (h : jw_H) (z : Nat × Nat) : Prop := match st with
  | .long x :: st => k ls (.long (-x) :: st) h z
  | _ => False
theorem jo_lneg (hd : decode cc pc = .ok (.lneg, 1)) (hk : jo_Ok l cc nL own nm ro R rt mc ms k (pc + 1)) : jo_Ok l cc nL own nm ro R rt mc ms (fun K J => xo_lneg (k K J)) pc := by
  intro p e s m args below meth c Q D aC ad base K X RT ls st h z hf H locs la lv hP hz hl hR hS hla hlv
  unfold xo_lneg at hf
  split at hf
  · exact lv_lneg X.1 X.2.1 hd (hk p e s m args below meth c Q D aC ad base K X RT _ _ _ _ hf H locs la lv hP hz hl hR hS hla hlv)
  · exact hf.elim
def xo_lushr (k : jw_S) (ls st : List Value) (h : jw_H) (z : Nat × Nat) : Prop := match st with
  | .int y :: .long x :: st => k ls (.long ((x.toUInt64 >>> (y.toInt64.toUInt64 &&& Int64.toUInt64 63)).toInt64) :: st) h z
  | _ => False
theorem jo_lushr (hd : decode cc pc = .ok (.lushr, 1)) (hk : jo_Ok l cc nL own nm ro R rt mc ms k (pc + 1)) : jo_Ok l cc nL own nm ro R rt mc ms (fun K J => xo_lushr (k K J)) pc := by
  intro p e s m args below meth c Q D aC ad base K X RT ls st h z hf H locs la lv hP hz hl hR hS hla hlv
  unfold xo_lushr at hf
  split at hf
  · exact lv_lushr X.1 X.2.1 hd rfl (hk p e s m args below meth c Q D aC ad base K X RT _ _ _ _ hf H locs la lv hP hz hl hR hS hla hlv)
  · exact hf.elim
def xo_lshl (k : jw_S) (ls st : List Value) (h : jw_H) (z : Nat × Nat) : Prop := match st with
  | .int y :: .long x :: st => k ls (.long (x <<< (y.toInt64 &&& 63)) :: st) h z
  | _ => False
theorem jo_lshl (hd : decode cc pc = .ok (.lshl, 1)) (hk : jo_Ok l cc nL own nm ro R rt mc ms k (pc + 1)) : jo_Ok l cc nL own nm ro R rt mc ms (fun K J => xo_lshl (k K J)) pc := by
  intro p e s m args below meth c Q D aC ad base K X RT ls st h z hf H locs la lv hP hz hl hR hS hla hlv
  unfold xo_lshl at hf
  split at hf
  · exact lv_lshl X.1 X.2.1 hd rfl (hk p e s m args below meth c Q D aC ad base K X RT _ _ _ _ hf H locs la lv hP hz hl hR hS hla hlv)
  · exact hf.elim
def xo_lshr (k : jw_S) (ls st : List Value) (h : jw_H) (z : Nat × Nat) : Prop := match st with
  | .int y :: .long x :: st => k ls (.long (x >>> (y.toInt64 &&& 63)) :: st) h z
  | _ => False
theorem jo_lshr (hd : decode cc pc = .ok (.lshr, 1)) (hk : jo_Ok l cc nL own nm ro R rt mc ms k (pc + 1)) : jo_Ok l cc nL own nm ro R rt mc ms (fun K J => xo_lshr (k K J)) pc := by
  intro p e s m args below meth c Q D aC ad base K X RT ls st h z hf H locs la lv hP hz hl hR hS hla hlv
  unfold xo_lshr at hf
  split at hf
  · exact lv_lshr X.1 X.2.1 hd rfl (hk p e s m args below meth c Q D aC ad base K X RT _ _ _ _ hf H locs la lv hP hz hl hR hS hla hlv)
  · exact hf.elim
def xo_lcmp (k : jw_S) (ls st : List Value) (h : jw_H) (z : Nat × Nat) : Prop := match st with
  | .long y :: .long x :: st => k ls (.int (lg_cmp x y) :: st) h z
  | _ => False
theorem jo_lcmp (hd : decode cc pc = .ok (.lcmp, 1)) (hk : jo_Ok l cc nL own nm ro R rt mc ms k (pc + 1)) : jo_Ok l cc nL own nm ro R rt mc ms (fun K J => xo_lcmp (k K J)) pc := by
  intro p e s m args below meth c Q D aC ad base K X RT ls st h z hf H locs la lv hP hz hl hR hS hla hlv
  unfold xo_lcmp at hf
  split at hf
  · exact W.lcmp X.1 X.2.1 hd (hk p e s m args below meth c Q D aC ad base K X RT _ _ _ _ hf H locs la lv hP hz hl hR hS hla hlv)
  · exact hf.elim
def xo_i2l (k : jw_S) (ls st : List Value) (h : jw_H) (z : Nat × Nat) : Prop := match st with
  | .int x :: st => k ls (.long (x.toInt64) :: st) h z
  | _ => False
theorem jo_i2l (hd : decode cc pc = .ok (.i2l, 1)) (hk : jo_Ok l cc nL own nm ro R rt mc ms k (pc + 1)) : jo_Ok l cc nL own nm ro R rt mc ms (fun K J => xo_i2l (k K J)) pc := by
  intro p e s m args below meth c Q D aC ad base K X RT ls st h z hf H locs la lv hP hz hl hR hS hla hlv
  unfold xo_i2l at hf
  split at hf
  · exact lv_i2l X.1 X.2.1 hd rfl (hk p e s m args below meth c Q D aC ad base K X RT _ _ _ _ hf H locs la lv hP hz hl hR hS hla hlv)
  · exact hf.elim
def xo_l2i (k : jw_S) (ls st : List Value) (h : jw_H) (z : Nat × Nat) : Prop := match st with
  | .long x :: st => k ls (.int (x.toInt32) :: st) h z
  | _ => False
theorem jo_l2i (hd : decode cc pc = .ok (.l2i, 1)) (hk : jo_Ok l cc nL own nm ro R rt mc ms k (pc + 1)) : jo_Ok l cc nL own nm ro R rt mc ms (fun K J => xo_l2i (k K J)) pc := by
  intro p e s m args below meth c Q D aC ad base K X RT ls st h z hf H locs la lv hP hz hl hR hS hla hlv
  unfold xo_l2i at hf
  split at hf
  · exact lv_l2i X.1 X.2.1 hd rfl (hk p e s m args below meth c Q D aC ad base K X RT _ _ _ _ hf H locs la lv hP hz hl hR hS hla hlv)
  · exact hf.elim
def xo_i2b (k : jw_S) (ls st : List Value) (h : jw_H) (z : Nat × Nat) : Prop := match st with
  | .int x :: st => k ls (.int (x.toInt8.toInt32) :: st) h z
  | _ => False
theorem jo_i2b (hd : decode cc pc = .ok (.i2b, 1)) (hk : jo_Ok l cc nL own nm ro R rt mc ms k (pc + 1)) : jo_Ok l cc nL own nm ro R rt mc ms (fun K J => xo_i2b (k K J)) pc := by
  intro p e s m args below meth c Q D aC ad base K X RT ls st h z hf H locs la lv hP hz hl hR hS hla hlv
  unfold xo_i2b at hf
  split at hf
  · exact lv_i2b X.1 X.2.1 hd rfl (hk p e s m args below meth c Q D aC ad base K X RT _ _ _ _ hf H locs la lv hP hz hl hR hS hla hlv)
  · exact hf.elim
def xo_i2s (k : jw_S) (ls st : List Value) (h : jw_H) (z : Nat × Nat) : Prop := match st with
  | .int x :: st => k ls (.int (x.toInt16.toInt32) :: st) h z
  | _ => False
theorem jo_i2s (hd : decode cc pc = .ok (.i2s, 1)) (hk : jo_Ok l cc nL own nm ro R rt mc ms k (pc + 1)) : jo_Ok l cc nL own nm ro R rt mc ms (fun K J => xo_i2s (k K J)) pc := by
  intro p e s m args below meth c Q D aC ad base K X RT ls st h z hf H locs la lv hP hz hl hR hS hla hlv
  unfold xo_i2s at hf
  split at hf
  · exact lv_i2s X.1 X.2.1 hd rfl (hk p e s m args below meth c Q D aC ad base K X RT _ _ _ _ hf H locs la lv hP hz hl hR hS hla hlv)
  · exact hf.elim
def xo_i2c (k : jw_S) (ls st : List Value) (h : jw_H) (z : Nat × Nat) : Prop := match st with
  | .int x :: st => k ls (.int ((x.toUInt32 % 65536).toInt32) :: st) h z
  | _ => False
theorem jo_i2c (hd : decode cc pc = .ok (.i2c, 1)) (hk : jo_Ok l cc nL own nm ro R rt mc ms k (pc + 1)) : jo_Ok l cc nL own nm ro R rt mc ms (fun K J => xo_i2c (k K J)) pc := by
  intro p e s m args below meth c Q D aC ad base K X RT ls st h z hf H locs la lv hP hz hl hR hS hla hlv
  unfold xo_i2c at hf
  split at hf
  · exact lv_i2c X.1 X.2.1 hd rfl (hk p e s m args below meth c Q D aC ad base K X RT _ _ _ _ hf H locs la lv hP hz hl hR hS hla hlv)
  · exact hf.elim
def xo_dup (k : jw_S) (ls st : List Value) (h : jw_H) (z : Nat × Nat) : Prop := match st with
  | .ref x :: st => k ls (.ref x :: .ref x :: st) h z
  | .int x :: st => k ls (.int x :: .int x :: st) h z
  | _ => False
theorem jo_dup (hd : decode cc pc = .ok (.dup, 1)) (hk : jo_Ok l cc nL own nm ro R rt mc ms k (pc + 1)) : jo_Ok l cc nL own nm ro R rt mc ms (fun K J => xo_dup (k K J)) pc := by
  intro p e s m args below meth c Q D aC ad base K X RT ls st h z hf H locs la lv hP hz hl hR hS hla hlv
  unfold xo_dup at hf
  split at hf
  · exact lv_dup X.1 X.2.1 hd rfl (hk p e s m args below meth c Q D aC ad base K X RT _ _ _ _ hf H locs la lv hP hz hl hR hS hla hlv)
  · exact lv_dup X.1 X.2.1 hd rfl (hk p e s m args below meth c Q D aC ad base K X RT _ _ _ _ hf H locs la lv hP hz hl hR hS hla hlv)
  · exact hf.elim
def xo_pop (k : jw_S) (ls st : List Value) (h : jw_H) (z : Nat × Nat) : Prop := match st with
  | .int x :: st => k ls st h z
  | _ => False
theorem jo_pop (hd : decode cc pc = .ok (.pop, 1)) (hk : jo_Ok l cc nL own nm ro R rt mc ms k (pc + 1)) : jo_Ok l cc nL own nm ro R rt mc ms (fun K J => xo_pop (k K J)) pc := by
  intro p e s m args below meth c Q D aC ad base K X RT ls st h z hf H locs la lv hP hz hl hR hS hla hlv
  unfold xo_pop at hf
  split at hf
  · rename_i x st2
    exact lv_pop (va := .int x) X.1 X.2.1 hd rfl (hk p e s m args below meth c Q D aC ad base K X RT _ _ _ _ hf H locs la lv hP hz hl hR hS hla hlv)
  · exact hf.elim
def xo_zeq (t k : jw_S) (ls st : List Value) (h : jw_H) (z : Nat × Nat) : Prop := match st with
  | .int x :: st => (x = 0 → t ls st h z) ∧ (¬ x = 0 → k ls st h z)
  | _ => False
def xo_ceq (t k : jw_S) (ls st : List Value) (h : jw_H) (z : Nat × Nat) : Prop := match st with
  | .int y :: .int x :: st => (x = y → t ls st h z) ∧ (¬ x = y → k ls st h z)
  | _ => False
theorem jo_zeq {off : Int} {tgt : Nat} (hd : decode cc pc = .ok (.ifCond .eq off, 3)) (hg : (pc : Int) + off = (tgt : Int)) (ht : jo_Ok l cc nL own nm ro R rt mc ms t tgt) (hk : jo_Ok l cc nL own nm ro R rt mc ms k (pc + 3)) : jo_Ok l cc nL own nm ro R rt mc ms (fun K J => xo_zeq (t K J) (k K J)) pc := by
  intro p e s m args below meth c Q D aC ad base K X RT ls st h z hf H locs la lv hP hz hl hR hS hla hlv
  unfold xo_zeq at hf
  split at hf
  · exact lv_if_eq X.1 X.2.1 hd hg (fun q => ht p e s m args below meth c Q D aC ad base K X RT _ _ _ _ (hf.1 q) H locs la lv hP hz hl hR hS hla hlv) (fun q => hk p e s m args below meth c Q D aC ad base K X RT _ _ _ _ (hf.2 q) H locs la lv hP hz hl hR hS hla hlv)
  · exact hf.elim
theorem jo_ceq {off : Int} {tgt : Nat} (hd : decode cc pc = .ok (.if_icmp .eq off, 3)) (hg : (pc : Int) + off = (tgt : Int)) (ht : jo_Ok l cc nL own nm ro R rt mc ms t tgt) (hk : jo_Ok l cc nL own nm ro R rt mc ms k (pc + 3)) : jo_Ok l cc nL own nm ro R rt mc ms (fun K J => xo_ceq (t K J) (k K J)) pc := by
  intro p e s m args below meth c Q D aC ad base K X RT ls st h z hf H locs la lv hP hz hl hR hS hla hlv
  unfold xo_ceq at hf
  split at hf
  · exact lv_icmp_eq X.1 X.2.1 hd hg (fun q => ht p e s m args below meth c Q D aC ad base K X RT _ _ _ _ (hf.1 q) H locs la lv hP hz hl hR hS hla hlv) (fun q => hk p e s m args below meth c Q D aC ad base K X RT _ _ _ _ (hf.2 q) H locs la lv hP hz hl hR hS hla hlv)
  · exact hf.elim
def xo_zne (t k : jw_S) (ls st : List Value) (h : jw_H) (z : Nat × Nat) : Prop := match st with
  | .int x :: st => (¬ x = 0 → t ls st h z) ∧ (x = 0 → k ls st h z)
  | _ => False
def xo_cne (t k : jw_S) (ls st : List Value) (h : jw_H) (z : Nat × Nat) : Prop := match st with
  | .int y :: .int x :: st => (¬ x = y → t ls st h z) ∧ (x = y → k ls st h z)
  | _ => False
theorem jo_zne {off : Int} {tgt : Nat} (hd : decode cc pc = .ok (.ifCond .ne off, 3)) (hg : (pc : Int) + off = (tgt : Int)) (ht : jo_Ok l cc nL own nm ro R rt mc ms t tgt) (hk : jo_Ok l cc nL own nm ro R rt mc ms k (pc + 3)) : jo_Ok l cc nL own nm ro R rt mc ms (fun K J => xo_zne (t K J) (k K J)) pc := by
  intro p e s m args below meth c Q D aC ad base K X RT ls st h z hf H locs la lv hP hz hl hR hS hla hlv
  unfold xo_zne at hf
  split at hf
  · exact lv_if_ne X.1 X.2.1 hd hg (fun q => ht p e s m args below meth c Q D aC ad base K X RT _ _ _ _ (hf.1 q) H locs la lv hP hz hl hR hS hla hlv) (fun q => hk p e s m args below meth c Q D aC ad base K X RT _ _ _ _ (hf.2 q) H locs la lv hP hz hl hR hS hla hlv)
  · exact hf.elim
theorem jo_cne {off : Int} {tgt : Nat} (hd : decode cc pc = .ok (.if_icmp .ne off, 3)) (hg : (pc : Int) + off = (tgt : Int)) (ht : jo_Ok l cc nL own nm ro R rt mc ms t tgt) (hk : jo_Ok l cc nL own nm ro R rt mc ms k (pc + 3)) : jo_Ok l cc nL own nm ro R rt mc ms (fun K J => xo_cne (t K J) (k K J)) pc := by
  intro p e s m args below meth c Q D aC ad base K X RT ls st h z hf H locs la lv hP hz hl hR hS hla hlv
  unfold xo_cne at hf
  split at hf
  · exact lv_icmp_ne X.1 X.2.1 hd hg (fun q => ht p e s m args below meth c Q D aC ad base K X RT _ _ _ _ (hf.1 q) H locs la lv hP hz hl hR hS hla hlv) (fun q => hk p e s m args below meth c Q D aC ad base K X RT _ _ _ _ (hf.2 q) H locs la lv hP hz hl hR hS hla hlv)
  · exact hf.elim
def xo_zlt (t k : jw_S) (ls st : List Value) (h : jw_H) (z : Nat × Nat) : Prop := match st with
  | .int x :: st => (x < 0 → t ls st h z) ∧ (¬ x < 0 → k ls st h z)
  | _ => False
def xo_clt (t k : jw_S) (ls st : List Value) (h : jw_H) (z : Nat × Nat) : Prop := match st with
  | .int y :: .int x :: st => (x < y → t ls st h z) ∧ (¬ x < y → k ls st h z)
  | _ => False
theorem jo_zlt {off : Int} {tgt : Nat} (hd : decode cc pc = .ok (.ifCond .lt off, 3)) (hg : (pc : Int) + off = (tgt : Int)) (ht : jo_Ok l cc nL own nm ro R rt mc ms t tgt) (hk : jo_Ok l cc nL own nm ro R rt mc ms k (pc + 3)) : jo_Ok l cc nL own nm ro R rt mc ms (fun K J => xo_zlt (t K J) (k K J)) pc := by
  intro p e s m args below meth c Q D aC ad base K X RT ls st h z hf H locs la lv hP hz hl hR hS hla hlv
  unfold xo_zlt at hf
  split at hf
  · exact lv_if_lt X.1 X.2.1 hd hg (fun q => ht p e s m args below meth c Q D aC ad base K X RT _ _ _ _ (hf.1 q) H locs la lv hP hz hl hR hS hla hlv) (fun q => hk p e s m args below meth c Q D aC ad base K X RT _ _ _ _ (hf.2 q) H locs la lv hP hz hl hR hS hla hlv)
  · exact hf.elim
theorem jo_clt {off : Int} {tgt : Nat} (hd : decode cc pc = .ok (.if_icmp .lt off, 3)) (hg : (pc : Int) + off = (tgt : Int)) (ht : jo_Ok l cc nL own nm ro R rt mc ms t tgt) (hk : jo_Ok l cc nL own nm ro R rt mc ms k (pc + 3)) : jo_Ok l cc nL own nm ro R rt mc ms (fun K J => xo_clt (t K J) (k K J)) pc := by
  intro p e s m args below meth c Q D aC ad base K X RT ls st h z hf H locs la lv hP hz hl hR hS hla hlv
  unfold xo_clt at hf
  split at hf
  · exact lv_icmp_lt X.1 X.2.1 hd hg (fun q => ht p e s m args below meth c Q D aC ad base K X RT _ _ _ _ (hf.1 q) H locs la lv hP hz hl hR hS hla hlv) (fun q => hk p e s m args below meth c Q D aC ad base K X RT _ _ _ _ (hf.2 q) H locs la lv hP hz hl hR hS hla hlv)
  · exact hf.elim
def xo_zge (t k : jw_S) (ls st : List Value) (h : jw_H) (z : Nat × Nat) : Prop := match st with
  | .int x :: st => (0 ≤ x → t ls st h z) ∧ (¬ 0 ≤ x → k ls st h z)
  | _ => False
def xo_cge (t k : jw_S) (ls st : List Value) (h : jw_H) (z : Nat × Nat) : Prop := match st with
  | .int y :: .int x :: st => (y ≤ x → t ls st h z) ∧ (¬ y ≤ x → k ls st h z)
  | _ => False
theorem jo_zge {off : Int} {tgt : Nat} (hd : decode cc pc = .ok (.ifCond .ge off, 3)) (hg : (pc : Int) + off = (tgt : Int)) (ht : jo_Ok l cc nL own nm ro R rt mc ms t tgt) (hk : jo_Ok l cc nL own nm ro R rt mc ms k (pc + 3)) : jo_Ok l cc nL own nm ro R rt mc ms (fun K J => xo_zge (t K J) (k K J)) pc := by
  intro p e s m args below meth c Q D aC ad base K X RT ls st h z hf H locs la lv hP hz hl hR hS hla hlv
  unfold xo_zge at hf
  split at hf
  · exact lv_if_ge X.1 X.2.1 hd hg (fun q => ht p e s m args below meth c Q D aC ad base K X RT _ _ _ _ (hf.1 q) H locs la lv hP hz hl hR hS hla hlv) (fun q => hk p e s m args below meth c Q D aC ad base K X RT _ _ _ _ (hf.2 q) H locs la lv hP hz hl hR hS hla hlv)
  · exact hf.elim
theorem jo_cge {off : Int} {tgt : Nat} (hd : decode cc pc = .ok (.if_icmp .ge off, 3)) (hg : (pc : Int) + off = (tgt : Int)) (ht : jo_Ok l cc nL own nm ro R rt mc ms t tgt) (hk : jo_Ok l cc nL own nm ro R rt mc ms k (pc + 3)) : jo_Ok l cc nL own nm ro R rt mc ms (fun K J => xo_cge (t K J) (k K J)) pc := by
  intro p e s m args below meth c Q D aC ad base K X RT ls st h z hf H locs la lv hP hz hl hR hS hla hlv
  unfold xo_cge at hf
  split at hf
  · exact lv_icmp_ge X.1 X.2.1 hd hg (fun q => ht p e s m args below meth c Q D aC ad base K X RT _ _ _ _ (hf.1 q) H locs la lv hP hz hl hR hS hla hlv) (fun q => hk p e s m args below meth c Q D aC ad base K X RT _ _ _ _ (hf.2 q) H locs la lv hP hz hl hR hS hla hlv)
  · exact hf.elim
def xo_zgt (t k : jw_S) (ls st : List Value) (h : jw_H) (z : Nat × Nat) : Prop := match st with
  | .int x :: st => (0 < x → t ls st h z) ∧ (¬ 0 < x → k ls st h z)
  | _ => False
def xo_cgt (t k : jw_S) (ls st : List Value) (h : jw_H) (z : Nat × Nat) : Prop := match st with
  | .int y :: .int x :: st => (y < x → t ls st h z) ∧ (¬ y < x → k ls st h z)
  | _ => False
theorem jo_zgt {off : Int} {tgt : Nat} (hd : decode cc pc = .ok (.ifCond .gt off, 3)) (hg : (pc : Int) + off = (tgt : Int)) (ht : jo_Ok l cc nL own nm ro R rt mc ms t tgt) (hk : jo_Ok l cc nL own nm ro R rt mc ms k (pc + 3)) : jo_Ok l cc nL own nm ro R rt mc ms (fun K J => xo_zgt (t K J) (k K J)) pc := by
  intro p e s m args below meth c Q D aC ad base K X RT ls st h z hf H locs la lv hP hz hl hR hS hla hlv
  unfold xo_zgt at hf
  split at hf
  · exact lv_if_gt X.1 X.2.1 hd hg (fun q => ht p e s m args below meth c Q D aC ad base K X RT _ _ _ _ (hf.1 q) H locs la lv hP hz hl hR hS hla hlv) (fun q => hk p e s m args below meth c Q D aC ad base K X RT _ _ _ _ (hf.2 q) H locs la lv hP hz hl hR hS hla hlv)
  · exact hf.elim
theorem jo_cgt {off : Int} {tgt : Nat} (hd : decode cc pc = .ok (.if_icmp .gt off, 3)) (hg : (pc : Int) + off = (tgt : Int)) (ht : jo_Ok l cc nL own nm ro R rt mc ms t tgt) (hk : jo_Ok l cc nL own nm ro R rt mc ms k (pc + 3)) : jo_Ok l cc nL own nm ro R rt mc ms (fun K J => xo_cgt (t K J) (k K J)) pc := by
  intro p e s m args below meth c Q D aC ad base K X RT ls st h z hf H locs la lv hP hz hl hR hS hla hlv
  unfold xo_cgt at hf
  split at hf
  · exact lv_icmp_gt X.1 X.2.1 hd hg (fun q => ht p e s m args below meth c Q D aC ad base K X RT _ _ _ _ (hf.1 q) H locs la lv hP hz hl hR hS hla hlv) (fun q => hk p e s m args below meth c Q D aC ad base K X RT _ _ _ _ (hf.2 q) H locs la lv hP hz hl hR hS hla hlv)
  · exact hf.elim
def xo_zle (t k : jw_S) (ls st : List Value) (h : jw_H) (z : Nat × Nat) : Prop := match st with
  | .int x :: st => (x ≤ 0 → t ls st h z) ∧ (¬ x ≤ 0 → k ls st h z)
  | _ => False
def xo_cle (t k : jw_S) (ls st : List Value) (h : jw_H) (z : Nat × Nat) : Prop := match st with
  | .int y :: .int x :: st => (x ≤ y → t ls st h z) ∧ (¬ x ≤ y → k ls st h z)
  | _ => False
theorem jo_zle {off : Int} {tgt : Nat} (hd : decode cc pc = .ok (.ifCond .le off, 3)) (hg : (pc : Int) + off = (tgt : Int)) (ht : jo_Ok l cc nL own nm ro R rt mc ms t tgt) (hk : jo_Ok l cc nL own nm ro R rt mc ms k (pc + 3)) : jo_Ok l cc nL own nm ro R rt mc ms (fun K J => xo_zle (t K J) (k K J)) pc := by
  intro p e s m args below meth c Q D aC ad base K X RT ls st h z hf H locs la lv hP hz hl hR hS hla hlv
  unfold xo_zle at hf
  split at hf
  · exact lv_if_le X.1 X.2.1 hd hg (fun q => ht p e s m args below meth c Q D aC ad base K X RT _ _ _ _ (hf.1 q) H locs la lv hP hz hl hR hS hla hlv) (fun q => hk p e s m args below meth c Q D aC ad base K X RT _ _ _ _ (hf.2 q) H locs la lv hP hz hl hR hS hla hlv)
  · exact hf.elim
theorem jo_cle {off : Int} {tgt : Nat} (hd : decode cc pc = .ok (.if_icmp .le off, 3)) (hg : (pc : Int) + off = (tgt : Int)) (ht : jo_Ok l cc nL own nm ro R rt mc ms t tgt) (hk : jo_Ok l cc nL own nm ro R rt mc ms k (pc + 3)) : jo_Ok l cc nL own nm ro R rt mc ms (fun K J => xo_cle (t K J) (k K J)) pc := by
  intro p e s m args below meth c Q D aC ad base K X RT ls st h z hf H locs la lv hP hz hl hR hS hla hlv
  unfold xo_cle at hf
  split at hf
  · exact lv_icmp_le X.1 X.2.1 hd hg (fun q => ht p e s m args below meth c Q D aC ad base K X RT _ _ _ _ (hf.1 q) H locs la lv hP hz hl hR hS hla hlv) (fun q => hk p e s m args below meth c Q D aC ad base K X RT _ _ _ _ (hf.2 q) H locs la lv hP hz hl hR hS hla hlv)
  · exact hf.elim
theorem jo_goto {off : Int} {tgt : Nat} (hd : decode cc pc = .ok (.goto off, 3)) (hg : (pc : Int) + off = (tgt : Int)) (ht : jo_Ok l cc nL own nm ro R rt mc ms t tgt) : jo_Ok l cc nL own nm ro R rt mc ms (fun K J => t K J) pc := by
  intro p e s m args below meth c Q D aC ad base K X RT ls st h z hf H locs la lv hP hz hl hR hS hla hlv
  exact lv_goto X.1 X.2.1 hd hg (ht p e s m args below meth c Q D aC ad base K X RT _ _ _ _ hf H locs la lv hP hz hl hR hS hla hlv)
theorem jo_J : jo_Ok l cc nL own nm ro R rt mc ms (fun _ J => J pc) pc := fun _ _ _ _ _ _ _ _ _ _ _ _ _ _ _ _ _ _ _ _ hf => hf
def xo_sw (lo : Int) (ts : List jw_S) (x : Int32) (ls st : List Value) (h : jw_H) (z : Nat × Nat) : Prop := match ts with
  | [] => True
  | t :: ts => (x.toInt = lo → t ls st h z) ∧ xo_sw (lo + 1) ts x ls st h z
def xo_ts (lo hi : Int) (ts : List jw_S) (d : jw_S) (ls st : List Value) (h : jw_H) (z : Nat × Nat) : Prop := match st with
  | .int x :: st => (x.toInt < lo ∨ hi < x.toInt → d ls st h z) ∧ xo_sw lo ts x ls st h z
  | _ => False
theorem xo_sw_at {x : Int32} {ls st : List Value} {h : jw_H} {z : Nat × Nat} : ∀ (ts : List jw_S) (lo : Int) (i : Nat) (t : jw_S), xo_sw lo ts x ls st h z → ts[i]? = some t → x.toInt = lo + i → t ls st h z
  | [], lo, i, t, _, hi, _ => by simp at hi
  | u :: ts, lo, 0, t, hs, hi, hx => by
    simp at hi
    subst hi
    exact hs.1 (by simpa using hx)
  | u :: ts, lo, i + 1, t, hs, hi, hx => by
    refine xo_sw_at ts (lo + 1) i t hs.2 (by simpa using hi) ?_
    rw [hx]
    push_cast
    omega
theorem jo_ts {lo hi dflt : Int} {offs : Array Int} {len : Nat} {tg : List Nat} {dt : Nat} {ts : List (jw_K → (Nat → jw_S) → jw_S)} (hd : decode cc pc = .ok (.tableswitch dflt lo hi offs, len)) (hg : (pc : Int) + dflt = (dt : Int)) (hto : offs.toList.map (fun o => (pc : Int) + o) = tg.map (fun q : Nat => (q : Int))) (hlen : hi - lo + 1 = (ts.length : Int)) (hll : ts.length = tg.length) (ht : jo_Ok l cc nL own nm ro R rt mc ms t dt) (hts : ∀ (i q : Nat) (f : jw_K → (Nat → jw_S) → jw_S), tg[i]? = some q → ts[i]? = some f → jo_Ok l cc nL own nm ro R rt mc ms f q) : jo_Ok l cc nL own nm ro R rt mc ms (fun K J => xo_ts lo hi (ts.map (fun f => f K J)) (t K J)) pc := by
  intro p e s m args below meth c Q D aC ad base K X RT ls st h z hf H locs la lv hP hz hl hR hS hla hlv
  unfold xo_ts at hf
  split at hf
  · rename_i x st2
    by_cases hx : x.toInt < lo ∨ hi < x.toInt
    · exact lv_tableOut X.1 X.2.1 hd hx hg (ht p e s m args below meth c Q D aC ad base K X RT _ _ _ _ (hf.1 hx) H locs la lv hP hz hl hR hS hla hlv)
    · have h1 : ¬ x.toInt < lo := fun q => hx (Or.inl q)
      have h2 : ¬ hi < x.toInt := fun q => hx (Or.inr q)
      obtain ⟨i, hi'⟩ : ∃ i : Nat, x.toInt = lo + i := ⟨(x.toInt - lo).toNat, by omega⟩
      have hil : i < ts.length := by omega
      have e1 : ts[i]? = some ts[i] := List.getElem?_eq_getElem hil
      have e2 : tg[i]? = some (tg[i]'(by omega)) := List.getElem?_eq_getElem (by omega)
      have e3 : (offs.toList.map (fun o => (pc : Int) + o))[i]? = some (((tg[i]'(by omega)) : Nat) : Int) := by rw [hto, List.getElem?_map, e2]; rfl
      rw [List.getElem?_map] at e3
      cases ho : offs.toList[i]? with
      | none => rw [ho] at e3; cases e3
      | some off =>
        rw [ho] at e3
        have e4 : (pc : Int) + off = (((tg[i]'(by omega)) : Nat) : Int) := Option.some.inj e3
        have e5 : offs[(x.toInt - lo).toNat]? = some off := by
          rw [show (x.toInt - lo).toNat = i by omega, ← Array.getElem?_toList]; exact ho
        exact lv_tableIn X.1 X.2.1 hd h1 h2 e5 e4 (hts i _ _ e2 e1 p e s m args below meth c Q D aC ad base K X RT _ _ _ _ (xo_sw_at _ lo i _ hf.2 (by rw [List.getElem?_map, e1]; rfl) hi') H locs la lv hP hz hl hR hS hla hlv)
  · exact hf.elim
end JO
