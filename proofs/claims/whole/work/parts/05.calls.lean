/-! what is made; calls; ends; a method's contract -/
def jw_pp : Nat → List Value → List Value → Option (List Value × List Value)
  | 0, acc, st => some (acc, st)
  | n + 1, acc, v :: st => jw_pp n (v :: acc) st
  | _ + 1, _, [] => none
theorem jw_pp_eq : ∀ (n : Nat) (acc st as st2 : List Value), jw_pp n acc st = some (as, st2) → ∃ bs, as = bs ++ acc ∧ bs.length = n ∧ st = bs.reverse ++ st2
  | 0, acc, st, as, st2, h => by
    simp only [jw_pp, Option.some.injEq, Prod.mk.injEq] at h
    exact ⟨[], by simp [h.1], rfl, by simp [h.2]⟩
  | n + 1, acc, v :: st, as, st2, h => by
    simp only [jw_pp] at h
    obtain ⟨bs, h1, h2, h3⟩ := jw_pp_eq n (v :: acc) st as st2 h
    exact ⟨bs ++ [v], by simp [h1], by simp [h2], by simp [h3]⟩
  | n + 1, acc, [], as, st2, h => by simp [jw_pp] at h
theorem jw_pp_at {n : Nat} {st as st2 : List Value} (h : jw_pp n [] st = some (as, st2)) : as.length = n ∧ st = as.reverse ++ st2 := by
  obtain ⟨bs, h1, h2, h3⟩ := jw_pp_eq n [] st as st2 h
  rw [List.append_nil] at h1
  subst h1
  exact ⟨h2, h3⟩
def jw_l1 : Value → Prop
  | .int _ => True
  | .ref _ => True
  | _ => False
def jw_l4 : List Value → Prop
  | [] => True
  | [_] => True
  | [_, _] => True
  | [_, _, _] => True
  | [_, _, _, _] => True
  | [a, b, c, d, e] => jw_l1 a ∧ jw_l1 b ∧ jw_l1 c ∧ jw_l1 d ∧ jw_l1 e
  | [a, b, c, d, e, f] => jw_l1 a ∧ jw_l1 b ∧ jw_l1 c ∧ jw_l1 d ∧ jw_l1 e ∧ jw_l1 f
  | [a, b, c, d, e, f, g] => jw_l1 a ∧ jw_l1 b ∧ jw_l1 c ∧ jw_l1 d ∧ jw_l1 e ∧ jw_l1 f ∧ jw_l1 g
  | [a, b, c, d, e, f, g, h] => jw_l1 a ∧ jw_l1 b ∧ jw_l1 c ∧ jw_l1 d ∧ jw_l1 e ∧ jw_l1 f ∧ jw_l1 g ∧ jw_l1 h
  | _ => False
theorem jw_cat2 (v : Value) : v.category ≤ 2 := by cases v <;> simp [Value.category]
theorem jw_cat1 (ad : Nat → Nat) : ∀ (v : Value), jw_l1 v → (jw_v ad v).category = 1
  | .int _, _ => rfl
  | .ref _, _ => rfl
  | .long _, h => h.elim
  | .float _, h => h.elim
  | .double _, h => h.elim
  | .null, h => h.elim
theorem jw_l4_sum (ad : Nat → Nat) : ∀ (st : List Value), jw_l4 st → ((st.map (jw_v ad)).map fun v => v.category).sum ≤ 8
  | [], _ => by simp
  | [a], _ => by have := jw_cat2 (jw_v ad a); simp; omega
  | [a, b], _ => by have := jw_cat2 (jw_v ad a); have := jw_cat2 (jw_v ad b); simp; omega
  | [a, b, c], _ => by have := jw_cat2 (jw_v ad a); have := jw_cat2 (jw_v ad b); have := jw_cat2 (jw_v ad c); simp; omega
  | [a, b, c, d], _ => by have := jw_cat2 (jw_v ad a); have := jw_cat2 (jw_v ad b); have := jw_cat2 (jw_v ad c); have := jw_cat2 (jw_v ad d); simp; omega
  | [a, b, c, d, e], ⟨h1, h2, h3, h4, h5⟩ => by simp [jw_cat1 ad _ h1, jw_cat1 ad _ h2, jw_cat1 ad _ h3, jw_cat1 ad _ h4, jw_cat1 ad _ h5]
  | [a, b, c, d, e, f], ⟨h1, h2, h3, h4, h5, h6⟩ => by simp [jw_cat1 ad _ h1, jw_cat1 ad _ h2, jw_cat1 ad _ h3, jw_cat1 ad _ h4, jw_cat1 ad _ h5, jw_cat1 ad _ h6]
  | [a, b, c, d, e, f, g], ⟨h1, h2, h3, h4, h5, h6, h7⟩ => by simp [jw_cat1 ad _ h1, jw_cat1 ad _ h2, jw_cat1 ad _ h3, jw_cat1 ad _ h4, jw_cat1 ad _ h5, jw_cat1 ad _ h6, jw_cat1 ad _ h7]
  | [a, b, c, d, e, f, g, h], ⟨h1, h2, h3, h4, h5, h6, h7, h8⟩ => by simp [jw_cat1 ad _ h1, jw_cat1 ad _ h2, jw_cat1 ad _ h3, jw_cat1 ad _ h4, jw_cat1 ad _ h5, jw_cat1 ad _ h6, jw_cat1 ad _ h7, jw_cat1 ad _ h8]
  | _ :: _ :: _ :: _ :: _ :: _ :: _ :: _ :: _ :: _, h => h.elim
def jw_ps : Option Value → List Value → List Value
  | some v, st => v :: st
  | none, st => st
/-- how a caller goes on -/
def jw_kk (k : jw_S) (ls st : List Value) (z : Nat × Nat) (r : Option Value) (h : jw_H) : Prop := k ls (jw_ps r st) h z
theorem jw_ps_map (ad : Nat → Nat) (r : Option Value) (st : List Value) : (r.map (jw_v ad)).toList ++ st.map (jw_v ad) = (jw_ps r st).map (jw_v ad) := by cases r <;> rfl
/-- a method's start, its end, its contract -/
def jw_Pc (D : va_G) (aC ad : Nat → Nat) (base : Nat) (args : List Value) (h : jw_H) : Array Value → State → Prop := va_Pc (args.map (jw_v ad)) (fun U => (∀ k, k < 1000 → ad k = base + k) ∧ base ≤ U.heap.size ∧ U.heap.size = base + h.length ∧ h.length ≤ 1000 ∧ va_P D jw_cl (jw_w aC ad h) U.heap ∧ va_K D jw_cl (jw_ty aC) U ∧ jw_ST jw_ro ad base U)
def jw_Qc (D : va_G) (aC ad : Nat → Nat) (base : Nat) (K : jw_K) : Array Value → State → Outcome → State → Prop := fun _ st oc t => (∃ r h, K r h ∧ oc = .returned (r.map (jw_v ad)) ∧ t.heap.size = base + h.length ∧ h.length ≤ 1000 ∧ va_P D jw_cl (jw_w aC ad h) t.heap) ∧ va_F (jw_A base) st t
abbrev jw_T : Type := List Value → jw_H → jw_K → Prop
def jw_ws (y : MethodName) (cc : ByteArray) (maxL : Nat) (ret : Option FieldType) : List Cond := Cond.code y cc maxL ret :: jw_gd
def jw_Met (l : Launch) (y : MethodName) (cc : ByteArray) (maxL : Nat) (ret : Option FieldType) (rm : Room) (C : jw_T) : Prop :=
  ∀ (D : va_G) (aC ad : Nat → Nat) (base : Nat) (args : List Value) (h : jw_H) (K : jw_K), C args h K → Met l y (jw_ws y cc maxL ret) rm (jw_Pc D aC ad base args h) (jw_Qc D aC ad base K) rm.cells rm.slots (jw_A base)
theorem jw_blind {D : va_G} {aC ad : Nat → Nat} {base : Nat} {args : List Value} {h : jw_H} : FrameBlind (jw_Pc D aC ad base args h) := by
  intro a U g mk q
  obtain ⟨q0, q1, q2, q3, q4, q5, q6, q7⟩ := q
  exact ⟨q0, q1, q2, q3, q4, q5, va_K.moved (u := U) (U := U.calling g mk a) (Vm.Alike.refl U.vm) q6, jw_ST_same q7 rfl rfl⟩
theorem jw_goodIn {y : MethodName} {cc : ByteArray} {maxL : Nat} {ret : Option FieldType} (hc : Cond.code y cc maxL ret ∈ jw_gd) : GoodIn jw_gd (jw_ws y cc maxL ret) := by
  intro w hw
  rcases List.mem_cons.mp hw with rfl | hw
  · exact ⟨hc, jw_gd_good hc⟩
  · exact ⟨hw, jw_gd_good hw⟩
section JW
variable {p : Program} {l : Launch} {e : Env} {R : Room} {s : State} {m : MethodId} {args : Array Value} {below : List Frame} {meth : Method} {c : Code} {H : Heap} {locs : List Loc} {cells slots : Nat} {Q : State → Prop} {cc : ByteArray} {pc : Nat} {la : Array Slot} {rest : List Value} {D : va_G} {aC ad : Nat → Nat} {base : Nat} {h : jw_H}
theorem jw_go {mc ms : Nat} {K : jw_K} {a : Array Value} {st0 : List Value} (hr : va_Run p l e R s m args below meth c H locs cells slots mc ms (F0 m pc la st0) rest (jw_Qc D aC ad base K a) (jw_A base)) (hS : va_S (jw_A base) s.heap H locs)
    (kk : ∀ (r : Option Value) (h1 : jw_H) (H1 : Heap) (locs1 : List Loc), K r h1 → H1.size = base + h1.length → h1.length ≤ 1000 → va_P D jw_cl (jw_w aC ad h1) H1 → va_S (jw_A base) s.heap H1 locs1 → W p l e R s m args below meth c H1 locs1 (cells + mc) (slots + ms) Q (F0 m (pc + 3) la ((r.map (jw_v ad)).toList ++ rest))) : W p l e R s m args below meth c H locs cells slots Q (F0 m pc la st0) := by
  intro T hT X
  obtain ⟨v, st₀, t, T', L, h0, X', hL, e1, e2, ⟨⟨r, h1, hK, hv, hz1, hl1, hP1⟩, hzz, hk⟩, st⟩ := hr T hT X
  cases hv
  rw [h0] at hzz hk
  obtain ⟨t2, a1, b1⟩ := kk r h1 T'.heap (locs ++ L) hK (by rw [e1]; exact hz1) hl1 (by rw [e1]; exact hP1)
    ⟨Nat.le_trans hS.1 (by rw [e1]; exact hzz), fun q g1 g2 => by rw [e1, hk q (Nat.lt_of_lt_of_le g1 hS.1) g2]; exact hS.2.1 q g1 g2, fun q hq => by
      rcases List.mem_append.mp hq with g | g
      · exact hS.2.2 q g
      · exact hL q g⟩ T' rfl X'
  exact ⟨t2, st t2 a1, b1⟩
theorem jw_preU {own nm : String} {nL : Nat} {ro : Nat → Option (Nat × (Nat → Int32))} {as : List Value} (X : jw_X p s m args meth c cc nL own nm D aC ad base ro) (hro : ∀ k q, jw_ro k = some q → ro k = some q) (hP : va_P D jw_cl (jw_w aC ad h) H) (hz : H.size = base + h.length) (hl : h.length ≤ 1000) (hS : va_S (jw_A base) s.heap H locs) :
    ∀ U : State, U.heap = H → s.WarmedH U.vm → jw_Pc D aC ad base as h (as.map (jw_v ad)).toArray U := by
  intro U hU hW
  obtain ⟨x1, x2, x3, x4, x5, x6, x7, x8, x9, x10⟩ := X
  obtain ⟨y1, y2⟩ := jw_ST_go x9 hS hU hW
  exact ⟨rfl, x8, by rw [hU]; exact Nat.le_trans x7 hS.1, by rw [hU]; exact hz, hl, by rw [hU]; exact hP, va_K.moved hW.alike x6, fun k n f hk => y1 k n f (hro k _ hk), y2⟩
end JW
section JO
variable {l : Launch} {cc : ByteArray} {nL : Nat} {own nm : String} {ro : Nat → Option (Nat × (Nat → Int32))} {R : Room} {rt : Option FieldType} {mc ms : Nat} {pc : Nat} {k t : jw_K → (Nat → jw_S) → jw_S}
def xo_cv (ci : Nat) (C : jw_T) (n : Nat) (k : jw_S) (ls st : List Value) (h : jw_H) (z : Nat × Nat) : Prop := match jw_pp n [] st with
  | some (.ref o :: as, st) => jw_is h o ci ∧ jw_l4 st ∧ C (.ref o :: as) h (jw_kk k ls st z)
  | _ => False
def xo_cs (C : jw_T) (n : Nat) (k : jw_S) (ls st : List Value) (h : jw_H) (z : Nat × Nat) : Prop := match jw_pp n [] st with
  | some (as, st) => jw_l4 st ∧ C as h (jw_kk k ls st z)
  | none => False
def xo_ca (C : jw_T) (n c1 c2 r1 r2 : Nat) (k : jw_S) (ls st : List Value) (h : jw_H) (z : Nat × Nat) : Prop := match jw_pp n [] st with
  | some (.ref o :: as, st) => jw_l4 st ∧ z.1 + c1 ≤ r1 ∧ z.2 + c2 ≤ r2 ∧ C (.ref o :: as) h (jw_kk k ls st (z.1 + c1, z.2 + c2))
  | _ => False
theorem jo_cv {y : MethodName} {bytes : ByteArray} {maxL : Nat} {ret : Option FieldType} {rm : Room} {C : jw_T} {n idx : Nat} (hM : jw_Met l y bytes maxL ret rm C) (hcode : Cond.code y bytes maxL ret ∈ jw_gd) (hini : Cond.initialized y.cls ∈ jw_gd) (hl1 : Cond.methodLink own idx y ∈ jw_gd) (hin : Cond.instanceMethod y ∈ jw_gd) {ci : Nat} {T : u_T} {N : Nat} {ty : Nat → FieldType} (hF : jw_F ci y.cls T N ty) (hse : Cond.selects y.cls y y ∈ jw_gd) (hn : y.cls ≠ "java/lang/invoke/MethodHandle" ∧ y.cls ≠ "java/lang/invoke/VarHandle" ∧ (parseMethodDescriptor y.desc).map (fun d => d.parameters.length) = some n) (hRm : rm.frames + 1 ≤ R.frames ∧ 8 + (maxL + 11) + rm.locals ≤ R.locals) (hro : ∀ k q, jw_ro k = some q → ro k = some q) (hz0 : rm.cells = 0 ∧ rm.slots = 0) (hd : decode cc pc = .ok (.invokevirtual idx, 3)) (hk : jo_Ok l cc nL own nm ro R rt mc ms k (pc + 3)) : jo_Ok l cc nL own nm ro R rt mc ms (fun K J => xo_cv ci C (n + 1) (k K J)) pc := by
  intro p e s m args below meth c Q D aC ad base K X RT ls st h z hf H locs la lv hP hz hl hR hS hla hlv
  unfold xo_cv at hf
  split at hf
  · rename_i o as st2 hpp
    obtain ⟨⟨fs, ho⟩, h4, hC⟩ := hf
    obtain ⟨hlen, rfl⟩ := jw_pp_at hpp
    have z1 := hz0.1
    have z2 := hz0.2
    have hX := X
    obtain ⟨x1, x2, x3, x4, x5, x6, x7, x8, x9, x10⟩ := X
    have cb : CallB R s args own idx y bytes maxL ret (jw_ws y bytes maxL ret) rm rm.cells rm.slots n := callB_of n x5 (jw_goodIn hcode) rfl rfl rfl (x5 _ hini) (x5 _ hl1) hn hRm
    have hrun := va_runV (H := H) (locs := locs) (cells := z.1) (slots := z.2) (below := below) (meth := meth) (e := e) (g := F0 m pc la (((Value.ref o :: as).reverse ++ st2).map (jw_v ad))) (b := ad o) (As := as.map (jw_v ad)) (rest := st2.map (jw_v ad)) ⟨x1, x2, x3, x4, x5⟩ (hM D aC ad base _ h _ hC) ⟨cb, x5 _ hin, x5 _ hse⟩ ⟨jw_blind, va_recv x6 hP hF.1 (jw_w_at ho), jw_preU (as := Value.ref o :: as) hX hro hP hz hl hS⟩ rfl (by simpa using hlen) hla.1 (by simp [jw_v]) (lv_room (jw_l4_sum ad st2 h4)) hd (by rw [z1, z2]; exact hR)
    refine jw_go hrun hS (fun r h1 H1 locs1 hk1 hz1 hl1 hP1 hS1 => ?_)
    rw [z1, z2, jw_ps_map]
    exact hk p e s m args below meth c Q D aC ad base K hX RT _ _ _ _ hk1 H1 locs1 la lv hP1 hz1 hl1 hR hS1 hla hlv
  · exact hf.elim
theorem jo_cs {y : MethodName} {bytes : ByteArray} {maxL : Nat} {ret : Option FieldType} {rm : Room} {C : jw_T} {n idx : Nat} (hM : jw_Met l y bytes maxL ret rm C) (hcode : Cond.code y bytes maxL ret ∈ jw_gd) (hini : Cond.initialized y.cls ∈ jw_gd) (hl1 : Cond.methodLink own idx y ∈ jw_gd) (hst : Cond.static y ∈ jw_gd) (hn : y.cls ≠ "java/lang/invoke/MethodHandle" ∧ y.cls ≠ "java/lang/invoke/VarHandle" ∧ (parseMethodDescriptor y.desc).map (fun d => d.parameters.length) = some n) (hRm : rm.frames + 1 ≤ R.frames ∧ 8 + (maxL + 11) + rm.locals ≤ R.locals) (hro : ∀ k q, jw_ro k = some q → ro k = some q) (hz0 : rm.cells = 0 ∧ rm.slots = 0) (hd : decode cc pc = .ok (.invokestatic idx, 3)) (hk : jo_Ok l cc nL own nm ro R rt mc ms k (pc + 3)) : jo_Ok l cc nL own nm ro R rt mc ms (fun K J => xo_cs C n (k K J)) pc := by
  intro p e s m args below meth c Q D aC ad base K X RT ls st h z hf H locs la lv hP hz hl hR hS hla hlv
  unfold xo_cs at hf
  split at hf
  · rename_i as st2 hpp
    obtain ⟨h4, hC⟩ := hf
    obtain ⟨hlen, rfl⟩ := jw_pp_at hpp
    have z1 := hz0.1
    have z2 := hz0.2
    have hX := X
    obtain ⟨x1, x2, x3, x4, x5, x6, x7, x8, x9, x10⟩ := X
    have cb : CallB R s args own idx y bytes maxL ret (jw_ws y bytes maxL ret) rm rm.cells rm.slots n := callB_of n x5 (jw_goodIn hcode) rfl rfl rfl (x5 _ hini) (x5 _ hl1) hn hRm
    have hrun := va_runS (H := H) (locs := locs) (cells := z.1) (slots := z.2) (below := below) (meth := meth) (e := e) (g := F0 m pc la ((as.reverse ++ st2).map (jw_v ad))) (As := as.map (jw_v ad)) (rest := st2.map (jw_v ad)) ⟨x1, x2, x3, x4, x5⟩ (hM D aC ad base _ h _ hC) ⟨cb, x5 _ hst⟩ ⟨jw_blind, jw_preU (as := as) hX hro hP hz hl hS⟩ rfl (by simpa using hlen) hla.1 (by simp) (lv_room (jw_l4_sum ad st2 h4)) hd (by rw [z1, z2]; exact hR)
    refine jw_go hrun hS (fun r h1 H1 locs1 hk1 hz1 hl1 hP1 hS1 => ?_)
    rw [z1, z2, jw_ps_map]
    exact hk p e s m args below meth c Q D aC ad base K hX RT _ _ _ _ hk1 H1 locs1 la lv hP1 hz1 hl1 hR hS1 hla hlv
  · exact hf.elim
theorem jo_csN {y : MethodName} {bytes : ByteArray} {maxL : Nat} {ret : Option FieldType} {rm : Room} {C : jw_T} {n idx : Nat} (hM : jw_Met l y bytes maxL ret rm C) (hcode : Cond.code y bytes maxL ret ∈ jw_gd) (hini : Cond.initialized y.cls ∈ jw_gd) {host : String} (hl1 : Cond.methodLinkNest own idx y host ∈ jw_ns) (hst : Cond.static y ∈ jw_gd) (hn : y.cls ≠ "java/lang/invoke/MethodHandle" ∧ y.cls ≠ "java/lang/invoke/VarHandle" ∧ (parseMethodDescriptor y.desc).map (fun d => d.parameters.length) = some n) (hRm : rm.frames + 1 ≤ R.frames ∧ 8 + (maxL + 11) + rm.locals ≤ R.locals) (hro : ∀ k q, jw_ro k = some q → ro k = some q) (hz0 : rm.cells = 0 ∧ rm.slots = 0) (hd : decode cc pc = .ok (.invokestatic idx, 3)) (hk : jo_Ok l cc nL own nm ro R rt mc ms k (pc + 3)) : jo_Ok l cc nL own nm ro R rt mc ms (fun K J => xo_cs C n (k K J)) pc := by
  intro p e s m args below meth c Q D aC ad base K X RT ls st h z hf H locs la lv hP hz hl hR hS hla hlv
  unfold xo_cs at hf
  split at hf
  · rename_i as st2 hpp
    obtain ⟨h4, hC⟩ := hf
    obtain ⟨hlen, rfl⟩ := jw_pp_at hpp
    have z1 := hz0.1
    have z2 := hz0.2
    have hX := X
    obtain ⟨x1, x2, x3, x4, x5, x6, x7, x8, x9, x10⟩ := X
    have cb : va_CN R s args own idx y host bytes maxL ret (jw_ws y bytes maxL ret) rm rm.cells rm.slots n := va_cnB n x5 (jw_goodIn hcode) rfl rfl rfl (x9.2.2.2.2.2.2.1 _ hl1) (x5 _ hini) hn hRm
    have hrun := va_runSN (H := H) (locs := locs) (cells := z.1) (slots := z.2) (below := below) (meth := meth) (e := e) (g := F0 m pc la ((as.reverse ++ st2).map (jw_v ad))) (As := as.map (jw_v ad)) (rest := st2.map (jw_v ad)) ⟨x1, x2, x3, x4, x5⟩ (hM D aC ad base _ h _ hC) ⟨cb, x5 _ hst, trivial⟩ ⟨jw_blind, jw_preU (as := as) hX hro hP hz hl hS⟩ rfl (by simpa using hlen) hla.1 (by simp) (lv_room (jw_l4_sum ad st2 h4)) hd (by rw [z1, z2]; exact hR)
    refine jw_go hrun hS (fun r h1 H1 locs1 hk1 hz1 hl1 hP1 hS1 => ?_)
    rw [z1, z2, jw_ps_map]
    exact hk p e s m args below meth c Q D aC ad base K hX RT _ _ _ _ hk1 H1 locs1 la lv hP1 hz1 hl1 hR hS1 hla hlv
  · exact hf.elim
theorem jo_ca {y : MethodName} {bytes : ByteArray} {maxL : Nat} {rm : Room} {C : jw_T} {n idx : Nat} (hM : jw_Met l y bytes maxL none rm C) (hcode : Cond.code y bytes maxL none ∈ jw_gd) (hini : Cond.initialized y.cls ∈ jw_gd) (hl1 : Cond.methodLink own idx y ∈ jw_gd) (hin : Cond.instanceMethod y ∈ jw_gd) (hy1 : y.name = "<init>") {c1 c2 r1 r2 : Nat} (hc1 : rm.cells = c1) (hc2 : rm.slots = c2) (hr1 : R.cells = r1) (hr2 : R.slots = r2) (hn : y.cls ≠ "java/lang/invoke/MethodHandle" ∧ y.cls ≠ "java/lang/invoke/VarHandle" ∧ (parseMethodDescriptor y.desc).map (fun d => d.parameters.length) = some n) (hRm : rm.frames + 1 ≤ R.frames ∧ 8 + (maxL + 11) + rm.locals ≤ R.locals) (hro : ∀ k q, jw_ro k = some q → ro k = some q) (hd : decode cc pc = .ok (.invokespecial idx, 3)) (hk : jo_Ok l cc nL own nm ro R rt mc ms k (pc + 3)) : jo_Ok l cc nL own nm ro R rt mc ms (fun K J => xo_ca C (n + 1) c1 c2 r1 r2 (k K J)) pc := by
  intro p e s m args below meth c Q D aC ad base K X RT ls st h z hf H locs la lv hP hz hl hR hS hla hlv
  unfold xo_ca at hf
  split at hf
  · rename_i o as st2 hpp
    obtain ⟨h4, g1, g2, hC⟩ := hf
    obtain ⟨hlen, rfl⟩ := jw_pp_at hpp
    subst hc1; subst hc2; subst hr1; subst hr2
    have hX := X
    obtain ⟨x1, x2, x3, x4, x5, x6, x7, x8, x9, x10⟩ := X
    have cb : CallB R s args own idx y bytes maxL none (jw_ws y bytes maxL none) rm rm.cells rm.slots n := callB_of n x5 (jw_goodIn hcode) rfl rfl rfl (x5 _ hini) (x5 _ hl1) hn hRm
    have hrun := va_runI (H := H) (locs := locs) (cells := z.1) (slots := z.2) (below := below) (meth := meth) (e := e) (g := F0 m pc la (((Value.ref o :: as).reverse ++ st2).map (jw_v ad))) (b := ad o) (As := as.map (jw_v ad)) (rest := st2.map (jw_v ad)) ⟨x1, x2, x3, x4, x5⟩ (hM D aC ad base _ h _ hC) ⟨cb, hy1, x5 _ hin⟩ ⟨jw_blind, jw_preU (as := Value.ref o :: as) hX hro hP hz hl hS⟩ rfl (by simpa using hlen) hla.1 (by simp [jw_v]) (lv_room (jw_l4_sum ad st2 h4)) hd ⟨g1, g2⟩
    refine jw_go hrun hS (fun r h1 H1 locs1 hk1 hz1 hl1 hP1 hS1 => ?_)
    rw [jw_ps_map]
    exact hk p e s m args below meth c Q D aC ad base K hX RT _ _ _ _ hk1 H1 locs1 la lv hP1 hz1 hl1 ⟨g1, g2⟩ hS1 hla hlv
  · exact hf.elim
theorem jo_caN {y : MethodName} {bytes : ByteArray} {maxL : Nat} {rm : Room} {C : jw_T} {n idx : Nat} (hM : jw_Met l y bytes maxL none rm C) (hcode : Cond.code y bytes maxL none ∈ jw_gd) (hini : Cond.initialized y.cls ∈ jw_gd) {host : String} (hl1 : Cond.methodLinkNest own idx y host ∈ jw_ns) (hin : Cond.instanceMethod y ∈ jw_gd) (hy1 : y.name = "<init>") {c1 c2 r1 r2 : Nat} (hc1 : rm.cells = c1) (hc2 : rm.slots = c2) (hr1 : R.cells = r1) (hr2 : R.slots = r2) (hn : y.cls ≠ "java/lang/invoke/MethodHandle" ∧ y.cls ≠ "java/lang/invoke/VarHandle" ∧ (parseMethodDescriptor y.desc).map (fun d => d.parameters.length) = some n) (hRm : rm.frames + 1 ≤ R.frames ∧ 8 + (maxL + 11) + rm.locals ≤ R.locals) (hro : ∀ k q, jw_ro k = some q → ro k = some q) (hd : decode cc pc = .ok (.invokespecial idx, 3)) (hk : jo_Ok l cc nL own nm ro R rt mc ms k (pc + 3)) : jo_Ok l cc nL own nm ro R rt mc ms (fun K J => xo_ca C (n + 1) c1 c2 r1 r2 (k K J)) pc := by
  intro p e s m args below meth c Q D aC ad base K X RT ls st h z hf H locs la lv hP hz hl hR hS hla hlv
  unfold xo_ca at hf
  split at hf
  · rename_i o as st2 hpp
    obtain ⟨h4, g1, g2, hC⟩ := hf
    obtain ⟨hlen, rfl⟩ := jw_pp_at hpp
    subst hc1; subst hc2; subst hr1; subst hr2
    have hX := X
    obtain ⟨x1, x2, x3, x4, x5, x6, x7, x8, x9, x10⟩ := X
    have cb : va_CN R s args own idx y host bytes maxL none (jw_ws y bytes maxL none) rm rm.cells rm.slots n := va_cnB n x5 (jw_goodIn hcode) rfl rfl rfl (x9.2.2.2.2.2.2.1 _ hl1) (x5 _ hini) hn hRm
    have hrun := va_runIN (H := H) (locs := locs) (cells := z.1) (slots := z.2) (below := below) (meth := meth) (e := e) (g := F0 m pc la (((Value.ref o :: as).reverse ++ st2).map (jw_v ad))) (b := ad o) (As := as.map (jw_v ad)) (rest := st2.map (jw_v ad)) ⟨x1, x2, x3, x4, x5⟩ (hM D aC ad base _ h _ hC) ⟨cb, hy1, x5 _ hin⟩ ⟨jw_blind, jw_preU (as := Value.ref o :: as) hX hro hP hz hl hS⟩ rfl (by simpa using hlen) hla.1 (by simp [jw_v]) (lv_room (jw_l4_sum ad st2 h4)) hd ⟨g1, g2⟩
    refine jw_go hrun hS (fun r h1 H1 locs1 hk1 hz1 hl1 hP1 hS1 => ?_)
    rw [jw_ps_map]
    exact hk p e s m args below meth c Q D aC ad base K hX RT _ _ _ _ hk1 H1 locs1 la lv hP1 hz1 hl1 ⟨g1, g2⟩ hS1 hla hlv
  · exact hf.elim
def xo_obj (k : jw_S) (ls st : List Value) (h : jw_H) (z : Nat × Nat) : Prop := match st with
  | .ref o :: st => jw_l4 st ∧ k ls st h z
  | _ => False
theorem jo_obj {idx : Nat} (hl1 : Cond.methodLink own idx objectInit ∈ jw_gd) (hin : Cond.instanceMethod objectInit ∈ jw_gd) (hco : Cond.code objectInit ⟨#[0xb1]⟩ 1 none ∈ jw_gd) (hfr : 1 ≤ R.frames ∧ 20 ≤ R.locals) (hd : decode cc pc = .ok (.invokespecial idx, 3)) (hk : jo_Ok l cc nL own nm ro R rt mc ms k (pc + 3)) : jo_Ok l cc nL own nm ro R rt mc ms (fun K J => xo_obj (k K J)) pc := by
  intro p e s m args below meth c Q D aC ad base K X RT ls st h z hf H locs la lv hP hz hl hR hS hla hlv
  unfold xo_obj at hf
  split at hf
  · rename_i o st2
    have h8 := jw_l4_sum ad st2 hf.1
    exact W.objInit (a := ad o) (rest := st2.map (jw_v ad)) X.1 X.2.1 X.2.2.2.1 (X.2.2.2.2.1 _ hl1) (X.2.2.2.2.1 _ hin) (X.2.2.2.2.1 _ hco) rfl (hla.1.trans X.2.2.1.symm) rfl hd hfr.1 (by show 2 * 0 + _ + 12 ≤ _; have := hfr.2; omega) (hk p e s m args below meth c Q D aC ad base K X RT _ _ _ _ hf.2 H locs la lv hP hz hl hR hS hla hlv)
  · exact hf.elim
theorem jo_gsN {a idx : Nat} {C n d0 host : String} (hz0 : (C, n, d0, a) ∈ jw_sts) (hl1 : Cond.fieldLinkNest own idx C n d0 host ∈ jw_ns) (hd : decode cc pc = .ok (.getstatic idx, 3)) (hk : jo_Ok l cc nL own nm ro R rt mc ms k (pc + 3)) : jo_Ok l cc nL own nm ro R rt mc ms (fun K J => xo_gs a (k K J)) pc := by
  intro p e s m args below meth c Q D aC ad base K X RT ls st h z hf H locs la lv hP hz hl hR hS hla hlv
  exact va_getsN X.1 X.2.1 (X.2.2.2.2.2.2.2.2.1.2.1 _ hz0) hS X.2.2.2.1 (va_Nw.use rfl (X.2.2.2.2.2.2.2.2.1.2.2.2.2.2.2.1 _ hl1)) (fun _ q => q) hd (hk p e s m args below meth c Q D aC ad base K X RT _ _ _ _ hf H locs la lv hP hz hl hR hS hla hlv)
theorem jo_ldcS {a idx : Nat} {tx : String} (hz0 : (own, idx, tx, a) ∈ jw_strs) (hd : decode cc pc = .ok (.ldc idx, 2)) (hk : jo_Ok l cc nL own nm ro R rt mc ms k (pc + 2)) : jo_Ok l cc nL own nm ro R rt mc ms (fun K J => xo_gs a (k K J)) pc := by
  intro p e s m args below meth c Q D aC ad base K X RT ls st h z hf H locs la lv hP hz hl hR hS hla hlv
  exact va_ldcS X.1 X.2.1 X.2.2.2.1 (X.2.2.2.2.2.2.2.2.1.2.2.2.2.2.1 _ hz0) hd (hk p e s m args below meth c Q D aC ad base K X RT _ _ _ _ hf H locs la lv hP hz hl hR hS hla hlv)
def xo_ri (mc ms : Nat) (K : jw_K) (ls st : List Value) (h : jw_H) (z : Nat × Nat) : Prop := match st with
  | .int x :: [] => z.1 ≤ mc ∧ z.2 ≤ ms ∧ K (some (.int x)) h
  | _ => False
theorem jo_ri (hrt : rt = some .int) (hd : decode cc pc = .ok (.ireturn, 1)) : jo_Ok l cc nL own nm ro R rt mc ms (fun K J => xo_ri mc ms K) pc := by
  intro p e s m args below meth c Q D aC ad base K X RT ls st h z hf H locs la lv hP hz hl hR hS hla hlv
  unfold xo_ri at hf
  split at hf
  · rename_i x
    exact RT (some (.int x)) .ireturn pc H locs la h z (Or.inl ⟨hrt, rfl, x, rfl⟩) hd hP hz hl hS hf.1 hf.2.1 hf.2.2
  · exact hf.elim
def xo_rz (mc ms : Nat) (K : jw_K) (ls st : List Value) (h : jw_H) (z : Nat × Nat) : Prop := match st with
  | .int x :: [] => (x = 0 ∨ x = 1) ∧ z.1 ≤ mc ∧ z.2 ≤ ms ∧ K (some (.int x)) h
  | _ => False
theorem jo_rz (hrt : rt = some .boolean) (hd : decode cc pc = .ok (.ireturn, 1)) : jo_Ok l cc nL own nm ro R rt mc ms (fun K J => xo_rz mc ms K) pc := by
  intro p e s m args below meth c Q D aC ad base K X RT ls st h z hf H locs la lv hP hz hl hR hS hla hlv
  unfold xo_rz at hf
  split at hf
  · rename_i x
    exact RT (some (.int x)) .ireturn pc H locs la h z (Or.inr (Or.inl ⟨hrt, rfl, x, rfl, hf.1⟩)) hd hP hz hl hS hf.2.1 hf.2.2.1 hf.2.2.2
  · exact hf.elim
def xo_rl (mc ms : Nat) (K : jw_K) (ls st : List Value) (h : jw_H) (z : Nat × Nat) : Prop := match st with
  | .long x :: [] => z.1 ≤ mc ∧ z.2 ≤ ms ∧ K (some (.long x)) h
  | _ => False
theorem jo_rl (hrt : rt = some .long) (hd : decode cc pc = .ok (.lreturn, 1)) : jo_Ok l cc nL own nm ro R rt mc ms (fun K J => xo_rl mc ms K) pc := by
  intro p e s m args below meth c Q D aC ad base K X RT ls st h z hf H locs la lv hP hz hl hR hS hla hlv
  unfold xo_rl at hf
  split at hf
  · rename_i x
    exact RT (some (.long x)) .lreturn pc H locs la h z (Or.inr (Or.inr (Or.inr (Or.inr (Or.inl ⟨hrt, rfl, x, rfl⟩))))) hd hP hz hl hS hf.1 hf.2.1 hf.2.2
  · exact hf.elim
def xo_ra (mc ms : Nat) (K : jw_K) (ls st : List Value) (h : jw_H) (z : Nat × Nat) : Prop := match st with
  | .ref x :: [] => z.1 ≤ mc ∧ z.2 ≤ ms ∧ K (some (.ref x)) h
  | _ => False
theorem jo_ra (hrt : ∃ C, rt = some (.object C)) (hd : decode cc pc = .ok (.areturn, 1)) : jo_Ok l cc nL own nm ro R rt mc ms (fun K J => xo_ra mc ms K) pc := by
  intro p e s m args below meth c Q D aC ad base K X RT ls st h z hf H locs la lv hP hz hl hR hS hla hlv
  unfold xo_ra at hf
  split at hf
  · rename_i x
    exact RT (some (.ref x)) .areturn pc H locs la h z (Or.inr (Or.inr (Or.inr (Or.inr (Or.inr (Or.inl ⟨hrt, rfl, x, rfl⟩)))))) hd hP hz hl hS hf.1 hf.2.1 hf.2.2
  · exact hf.elim
def xo_rc (mc ms : Nat) (K : jw_K) (ls st : List Value) (h : jw_H) (z : Nat × Nat) : Prop := match st with
  | .int x :: [] => narrow .char (.int x) = .int x ∧ z.1 ≤ mc ∧ z.2 ≤ ms ∧ K (some (.int x)) h
  | _ => False
theorem jo_rc (hrt : rt = some .char) (hd : decode cc pc = .ok (.ireturn, 1)) : jo_Ok l cc nL own nm ro R rt mc ms (fun K J => xo_rc mc ms K) pc := by
  intro p e s m args below meth c Q D aC ad base K X RT ls st h z hf H locs la lv hP hz hl hR hS hla hlv
  unfold xo_rc at hf
  split at hf
  · rename_i x
    exact RT (some (.int x)) .ireturn pc H locs la h z (Or.inr (Or.inr (Or.inl ⟨hrt, rfl, x, rfl, hf.1⟩))) hd hP hz hl hS hf.2.1 hf.2.2.1 hf.2.2.2
  · exact hf.elim
def xo_rb (mc ms : Nat) (K : jw_K) (ls st : List Value) (h : jw_H) (z : Nat × Nat) : Prop := match st with
  | .int x :: [] => narrow .byte (.int x) = .int x ∧ z.1 ≤ mc ∧ z.2 ≤ ms ∧ K (some (.int x)) h
  | _ => False
theorem jo_rb (hrt : rt = some .byte) (hd : decode cc pc = .ok (.ireturn, 1)) : jo_Ok l cc nL own nm ro R rt mc ms (fun K J => xo_rb mc ms K) pc := by
  intro p e s m args below meth c Q D aC ad base K X RT ls st h z hf H locs la lv hP hz hl hR hS hla hlv
  unfold xo_rb at hf
  split at hf
  · rename_i x
    exact RT (some (.int x)) .ireturn pc H locs la h z (Or.inr (Or.inr (Or.inr (Or.inl ⟨hrt, rfl, x, rfl, hf.1⟩)))) hd hP hz hl hS hf.2.1 hf.2.2.1 hf.2.2.2
  · exact hf.elim
def xo_rv (mc ms : Nat) (K : jw_K) (ls st : List Value) (h : jw_H) (z : Nat × Nat) : Prop := match st with
  | [] => z.1 ≤ mc ∧ z.2 ≤ ms ∧ K none h
  | _ => False
theorem jo_rv (hrt : rt = none) (hd : decode cc pc = .ok (.return_, 1)) : jo_Ok l cc nL own nm ro R rt mc ms (fun K J => xo_rv mc ms K) pc := by
  intro p e s m args below meth c Q D aC ad base K X RT ls st h z hf H locs la lv hP hz hl hR hS hla hlv
  unfold xo_rv at hf
  split at hf
  · exact RT none .return_ pc H locs la h z (Or.inr (Or.inr (Or.inr (Or.inr (Or.inr (Or.inr ⟨hrt, rfl, rfl⟩)))))) hd hP hz hl hS hf.1 hf.2.1 hf.2.2
  · exact hf.elim
end JO
/-- the locals at a method's start -/
def jw_en : List Value → Nat → List Value
  | [], 0 => []
  | [], n + 1 => jw_N :: jw_en [] n
  | .long x :: a, n => .long x :: jw_N :: jw_en a (n - 2)
  | .double x :: a, n => .double x :: jw_N :: jw_en a (n - 2)
  | .int x :: a, n => .int x :: jw_en a (n - 1)
  | .ref x :: a, n => .ref x :: jw_en a (n - 1)
  | .null :: a, n => .null :: jw_en a (n - 1)
  | .float x :: a, n => .float x :: jw_en a (n - 1)
  | .retAddr x :: a, n => .retAddr x :: jw_en a (n - 1)
theorem jw_en_nil : ∀ (n i : Nat) (v : Value), jw_ge (jw_en [] n) i = some v → jw_set v = true → False
  | 0, i, v, h, _ => by simp [jw_en, jw_ge] at h
  | n + 1, 0, v, h, hs => by
    simp only [jw_en, jw_ge, Option.some.injEq] at h
    subst h
    cases hs
  | n + 1, i + 1, v, h, hs => by
    simp only [jw_en, jw_ge] at h
    exact jw_en_nil n i v h hs
theorem jw_en_args (ad : Nat → Nat) : ∀ (as : List Value) (n b i : Nat) (v : Value), jw_ge (jw_en as n) i = some v → jw_set v = true → (b + i, jw_v ad v) ∈ lv_args b (as.map (jw_v ad))
  | [], n, b, i, v, h, hs => (jw_en_nil n i v h hs).elim
  | a :: as, n, b, i, v, h, hs => by
    have two : ∀ (x : Value), x.category = 2 → jw_ge (x :: jw_N :: jw_en as (n - 2)) i = some v → (b + i, jw_v ad v) ∈ lv_args b ((x :: as).map (jw_v ad)) := by
      intro x hx h
      rw [List.map_cons, lv_args, if_pos (by rw [jw_v_cat]; exact hx)]
      match i, h with
      | 0, h => simp only [jw_ge, Option.some.injEq] at h; subst h; exact List.mem_cons_self
      | 1, h => simp only [jw_ge, Option.some.injEq] at h; subst h; cases hs
      | i + 2, h =>
        simp only [jw_ge] at h
        have h1 := jw_en_args ad as (n - 2) (b + 2) i v h hs
        rw [show b + (i + 2) = b + 2 + i by omega]
        exact List.mem_cons_of_mem _ h1
    have one : ∀ (x : Value), ¬ x.category = 2 → jw_ge (x :: jw_en as (n - 1)) i = some v → (b + i, jw_v ad v) ∈ lv_args b ((x :: as).map (jw_v ad)) := by
      intro x hx h
      rw [List.map_cons, lv_args, if_neg (by rw [jw_v_cat]; exact hx)]
      match i, h with
      | 0, h => simp only [jw_ge, Option.some.injEq] at h; subst h; exact List.mem_cons_self
      | i + 1, h =>
        simp only [jw_ge] at h
        have h1 := jw_en_args ad as (n - 1) (b + 1) i v h hs
        rw [show b + (i + 1) = b + 1 + i by omega]
        exact List.mem_cons_of_mem _ h1
    cases a with
    | long x => exact two _ rfl (by simpa only [jw_en] using h)
    | double x => exact two _ rfl (by simpa only [jw_en] using h)
    | int x => exact one _ (by simp [Value.category]) (by simpa only [jw_en] using h)
    | ref x => exact one _ (by simp [Value.category]) (by simpa only [jw_en] using h)
    | null => exact one _ (by simp [Value.category]) (by simpa only [jw_en] using h)
    | float x => exact one _ (by simp [Value.category]) (by simpa only [jw_en] using h)
    | retAddr x => exact one _ (by simp [Value.category]) (by simpa only [jw_en] using h)
def jw_ln : List Value → Nat
  | [] => 0
  | .long _ :: a => jw_ln a + 2
  | .double _ :: a => jw_ln a + 2
  | _ :: a => jw_ln a + 1
theorem jw_ln_eq (ad : Nat → Nat) : ∀ as : List Value, (lg_sl (as.map (jw_v ad))).length = jw_ln as
  | [] => rfl
  | a :: as => by
    have h1 := jw_ln_eq ad as
    have h2 : (lg_sl ((a :: as).map (jw_v ad))).length = (if (jw_v ad a).category = 2 then 2 else 1) + (lg_sl (as.map (jw_v ad))).length := by
      rw [List.map_cons, lg_sl, List.flatMap_cons, List.length_append]
      split <;> rfl
    rw [h2, h1, jw_v_cat]
    cases a <;> simp [jw_ln, Value.category] <;> omega
/-- what a method does: out of its blocks -/
def jw_C (maxL : Nat) (q : jw_K → Nat → (Nat → jw_S) → jw_S) : jw_T := fun args h K => jw_ln args ≤ maxL ∧ ∀ P : Nat → jw_S, (∀ pc ls st h z, q K pc P ls st h z → P pc ls st h z) → P 0 (jw_en args maxL) [] h (0, 0)
theorem jw_Cin {maxL : Nat} {q : jw_K → Nat → (Nat → jw_S) → jw_S} {args ls : List Value} {h : jw_H} {K : jw_K} (hl : jw_ln args ≤ maxL) (he : jw_en args maxL = ls) (hp : ∀ P : Nat → jw_S, (∀ pc ls st h z, q K pc P ls st h z → P pc ls st h z) → P 0 ls [] h (0, 0)) : jw_C maxL q args h K := ⟨hl, fun P hP => by rw [he]; exact hp P hP⟩
theorem jw_met {l : Launch} {y : MethodName} {cc : ByteArray} {maxL : Nat} {rt : Option FieldType} {rm : Room} {q : jw_K → Nat → (Nat → jw_S) → jw_S} (hy : plainName y.cls = true) (hok : ∀ pc, jo_Ok l cc maxL y.cls y.name jw_ro rm rt rm.cells rm.slots (fun K J => q K pc J) pc) : jw_Met l y cc maxL rt rm (jw_C maxL q) := by
  intro D aC ad base as h K hC
  obtain ⟨hln, hC⟩ := hC
  refine Met.ofW (cc := cc) (maxL := maxL) (ret := rt) hy rfl ?_
  intro p e s m args below meth c s₁ B hml hv
  obtain ⟨rfl, had, hb, hsz, hlen, hP, hK, hST⟩ := hv
  have hlocks := B.notSynchronized
  have hr := B.returns
  have hts := atoms_spec (ws := jw_ws y cc maxL rt) B.pre
  have X : jw_X p s m (as.map (jw_v ad)).toArray meth c cc maxL y.cls y.name D aC ad base jw_ro := ⟨B.exec, B.bytes, hml, findClass_of_methodNamed B.named, fun w hw => hts w (List.mem_cons_of_mem _ hw), hK, hb, had, hST, (name_of_methodNamed B.named B.method).1⟩
  have RT : jw_R p l e rm s m (as.map (jw_v ad)).toArray below meth c D aC ad base cc rt (MQ below (jw_Qc D aC ad base K) (as.map (jw_v ad)).toArray s rm.cells rm.slots (jw_A base)) rm.cells rm.slots K := by
    intro v op pc H locs la h1 z hrt hd hP1 hz1 hl1 hS1 g1 g2 hK1
    have hq : ∀ t : State, t.heap = H → s.WarmedH t.vm → jw_Qc D aC ad base K (as.map (jw_v ad)).toArray s (.returned (v.map (jw_v ad))) t := fun t ht hW => ⟨⟨v, h1, hK1, rfl, by rw [ht]; exact hz1, hl1, by rw [ht]; exact hP1⟩, hS1.F ht⟩
    refine W.widen g1 g2 ?_
    rcases hrt with ⟨r1, rfl, x, rfl⟩ | ⟨r1, rfl, x, rfl, hx⟩ | ⟨r1, rfl, x, rfl, hx⟩ | ⟨r1, rfl, x, rfl, hx⟩ | ⟨r1, rfl, x, rfl⟩ | ⟨⟨C, r1⟩, rfl, x, rfl⟩ | ⟨r1, rfl, rfl⟩
    · exact W.iret X.1 X.2.1 (hr.trans r1) hq hS1.2.2 hd hlocks
    · exact W.zret (ty := .boolean) X.1 X.2.1 (hr.trans r1) (by rcases hx with rfl | rfl <;> rfl) hq hS1.2.2 hd hlocks
    · exact W.zret (ty := .char) X.1 X.2.1 (hr.trans r1) hx hq hS1.2.2 hd hlocks
    · exact W.zret (ty := .byte) X.1 X.2.1 (hr.trans r1) hx hq hS1.2.2 hd hlocks
    · exact W.lret X.1 X.2.1 (hr.trans r1) hq hS1.2.2 hd hlocks
    · exact W.aret (rt := .object C) X.1 X.2.1 (hr.trans r1) (Or.inl ⟨C, rfl⟩) (Or.inr ⟨ad x, rfl⟩) hq hS1.2.2 hd hlocks
    · exact W.vret X.1 X.2.1 (hr.trans r1) hq hS1.2.2 hd hlocks
  have W0 := hC (fun q => jw_W p l e rm s m (as.map (jw_v ad)).toArray below meth c (MQ below (jw_Qc D aC ad base K) (as.map (jw_v ad)).toArray s rm.cells rm.slots (jw_A base)) D aC ad base maxL q) (fun pc ls st h z hq => hok pc p e s m _ below meth c _ D aC ad base K X RT ls st h z hq)
  rw [lg_entry_eq]
  exact W0 s.heap [] _ _ hP hsz hlen ⟨Nat.zero_le _, Nat.zero_le _⟩ va_S.rf (lv_entry (as.map (jw_v ad)) (n := maxL) (by rw [jw_ln_eq]; exact hln)) (fun i v h1 h2 => by have := jw_en_args ad as maxL 0 i v h1 h2; simpa using this)
