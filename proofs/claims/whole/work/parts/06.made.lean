/-! what is made -/
section JO
variable {l : Launch} {cc : ByteArray} {nL : Nat} {own nm : String} {ro : Nat → Option (Nat × (Nat → Int32))} {R : Room} {rt : Option FieldType} {mc ms : Nat} {pc : Nat} {k t : jw_K → (Nat → jw_S) → jw_S}
theorem jo_ldcw {i : Nat} {v : Int32} (hd : decode cc pc = .ok (.ldc_w i, 3)) (hw : Cond.constant own i v ∈ jw_gd) (hk : jo_Ok l cc nL own nm ro R rt mc ms k (pc + 3)) : jo_Ok l cc nL own nm ro R rt mc ms (fun K J => xo_ci v (k K J)) pc := by
  intro p e s m args below meth c Q D aC ad base K X RT ls st h z hf H locs la lv hP hz hl hR hS hla hlv
  exact lv_ldcw X.1 X.2.1 X.2.2.2.1 (X.2.2.2.2.1 _ hw) hd (hk p e s m args below meth c Q D aC ad base K X RT _ _ _ _ hf H locs la lv hP hz hl hR hS hla hlv)
theorem jw_grown {D : va_G} {aC ad : Nat → Nat} {base : Nat} {h : jw_H} {H H1 : Heap} {c1 : va_E} (hP : va_P D jw_cl (jw_w aC ad h) H) (o1 : ∀ q, q < H.size → H1[q]? = H[q]?) (he : va_at D jw_cl (ad h.length, jw_e aC ad c1) H1) : va_P D jw_cl (jw_w aC ad (h ++ [c1])) H1 := by
  rw [jw_w_push]
  refine (hP.kept (fun k q hq => o1 q.1 ((hP k q hq).lt))).app (fun k q hq => ?_)
  have hz0 : k < 1 := (List.getElem?_eq_some_iff.mp hq).1
  rw [show k = 0 by omega] at hq
  cases hq
  exact he
theorem jw_grownS {A : Nat → Prop} {H0 H H1 : Heap} {locs : List Loc} (hS : va_S A H0 H locs) (z1 : H1.size = H.size + 1) (o1 : ∀ q, q < H.size → H1[q]? = H[q]?) : va_S A H0 H1 locs :=
  ⟨Nat.le_trans hS.1 (by omega), fun q g1 g2 => (o1 q (Nat.lt_of_lt_of_le g1 hS.1)).trans (hS.2.1 q g1 g2), hS.2.2⟩
def xo_new (ci n : Nat) (fs : List Value) (r1 r2 : Nat) (k : jw_S) (ls st : List Value) (h : jw_H) (z : Nat × Nat) : Prop := h.length < 1000 ∧ z.1 + 1 ≤ r1 ∧ z.2 + n ≤ r2 ∧ k ls (.ref h.length :: st) (h ++ [.inr (ci, fs)]) (z.1 + 1, z.2 + n)
theorem jo_new {ci N idx r1 r2 : Nat} {C : String} {T : u_T} {ty : Nat → FieldType} {fs : List Value} (hF : jw_F ci C T N ty) (hcl : Cond.classLink own idx C ∈ jw_gd) (hins : Cond.instantiable C N ∈ jw_gd) (hini : Cond.initialized C ∈ jw_gd) (hr1 : R.cells = r1) (hr2 : R.slots = r2) (hfs : ∀ j, j < N → defaultValue (ty j) = vp_V fs j) (hfv : ∀ ad : Nat → Nat, fs.map (jw_v ad) = fs) (hd : decode cc pc = .ok (.new idx, 3)) (hk : jo_Ok l cc nL own nm ro R rt mc ms k (pc + 3)) : jo_Ok l cc nL own nm ro R rt mc ms (fun K J => xo_new ci N fs r1 r2 (k K J)) pc := by
  intro p e s m args below meth c Q D aC ad base K X RT ls st h z hf H locs la lv hP hz hl hR hS hla hlv
  obtain ⟨hl1, g1, g2, hf⟩ := hf
  subst hr1; subst hr2
  have hX := X
  obtain ⟨x1, x2, x3, x4, x5, x6, x7, x8, x9, x10⟩ := X
  have hKn := x6.1 ci _ hF.1
  refine W.newcK x1 x2 x4 (x5 _ hcl) (x5 _ hins) (x5 _ hini) (g := F0 m pc la (st.map (jw_v ad))) rfl hd g1 g2 hKn.2.1 rfl fun H1 kC hkC e1 z1 o1 => ?_
  have hP1 : va_P D jw_cl (jw_w aC ad (h ++ [.inr (ci, fs)])) H1 := by
    refine jw_grown (base := base) hP o1 ?_
    rw [x8 _ hl1, ← hz]
    refine ⟨_, hF.1, ?_⟩
    show t_OB _ _ _ _ _ (vp_V (fs.map (jw_v ad)))
    rw [hfv]
    exact (u_born ty x5 hF.2.1 hKn hkC e1 hF.2.2.1).to hfs
  have ea : ad h.length = H.size := by rw [x8 _ hl1, hz]
  have hk1 := hk p e s m args below meth c Q D aC ad base K hX RT _ _ _ _ hf H1 locs la lv hP1 (by rw [z1, hz, List.length_append]; rfl) (by rw [List.length_append]; exact hl1) ⟨g1, g2⟩ (jw_grownS hS z1 o1) hla hlv
  simp only [List.map_cons, jw_v, ea] at hk1
  exact hk1
def xo_newa (t r1 r2 : Nat) (k : jw_S) (ls st : List Value) (h : jw_H) (z : Nat × Nat) : Prop := match st with
  | .int n :: st => ¬ n < 0 ∧ n.toNatClampNeg ≤ 100000 ∧ h.length < 1000 ∧ z.1 + 1 ≤ r1 ∧ z.2 + n.toNatClampNeg ≤ r2 ∧ k ls (.ref h.length :: st) (h ++ [.inl (t, n.toNatClampNeg, .inl (fun _ => 0))]) (z.1 + 1, z.2 + n.toNatClampNeg)
  | _ => False
theorem jo_newa0 {r1 r2 : Nat} (har : Cond.arrayClass .int ∈ jw_gd) (hr1 : R.cells = r1) (hr2 : R.slots = r2) (hd : decode cc pc = .ok (.newarray .int, 2)) (hk : jo_Ok l cc nL own nm ro R rt mc ms k (pc + 2)) : jo_Ok l cc nL own nm ro R rt mc ms (fun K J => xo_newa 0 r1 r2 (k K J)) pc := by
  intro p e s m args below meth c Q D aC ad base K X RT ls st h z hf H locs la lv hP hz hl hR hS hla hlv
  unfold xo_newa at hf
  split at hf
  · rename_i n st2
    obtain ⟨hn, hn2, hl1, g1, g2, hf⟩ := hf
    subst hr1; subst hr2
    have hX := X
    obtain ⟨x1, x2, x3, x4, x5, x6, x7, x8, x9, x10⟩ := X
    refine va_newaK (atype := .int) x1 x2 (x5 _ har) (g := F0 m pc la ((Value.int n :: st2).map (jw_v ad))) rfl hd (n := n) (N := n.toNatClampNeg) (rest := st2.map (jw_v ad)) rfl hn rfl (by show _ * 4 ≤ _; omega) g1 g2 rfl fun H1 cA e1 z1 o1 hAr hNm => ?_
    have hcA : cA = aC 0 := Option.some.inj (hNm.symm.trans (x6.2 0 _ rfl).2)
    subst hcA
    have hP1 : va_P D jw_cl (jw_w aC ad (h ++ [.inl (0, n.toNatClampNeg, .inl (fun _ => 0))])) H1 := by
      refine jw_grown (base := base) hP o1 ?_
      rw [x8 _ hl1, ← hz]
      exact e1
    have ea : ad h.length = H.size := by rw [x8 _ hl1, hz]
    have hk1 := hk p e s m args below meth c Q D aC ad base K hX RT _ _ _ _ hf H1 locs la lv hP1 (by rw [z1, hz, List.length_append]; rfl) (by rw [List.length_append]; exact hl1) ⟨g1, g2⟩ (jw_grownS hS z1 o1) hla hlv
    simp only [List.map_cons, jw_v, ea] at hk1
    exact hk1
  · exact hf.elim
theorem jo_newa1 {r1 r2 : Nat} (har : Cond.arrayClass .boolean ∈ jw_gd) (hr1 : R.cells = r1) (hr2 : R.slots = r2) (hd : decode cc pc = .ok (.newarray .boolean, 2)) (hk : jo_Ok l cc nL own nm ro R rt mc ms k (pc + 2)) : jo_Ok l cc nL own nm ro R rt mc ms (fun K J => xo_newa 1 r1 r2 (k K J)) pc := by
  intro p e s m args below meth c Q D aC ad base K X RT ls st h z hf H locs la lv hP hz hl hR hS hla hlv
  unfold xo_newa at hf
  split at hf
  · rename_i n st2
    obtain ⟨hn, hn2, hl1, g1, g2, hf⟩ := hf
    subst hr1; subst hr2
    have hX := X
    obtain ⟨x1, x2, x3, x4, x5, x6, x7, x8, x9, x10⟩ := X
    refine va_newaK (atype := .boolean) x1 x2 (x5 _ har) (g := F0 m pc la ((Value.int n :: st2).map (jw_v ad))) rfl hd (n := n) (N := n.toNatClampNeg) (rest := st2.map (jw_v ad)) rfl hn rfl (by show _ * 1 ≤ _; omega) g1 g2 rfl fun H1 cA e1 z1 o1 hAr hNm => ?_
    have hcA : cA = aC 1 := Option.some.inj (hNm.symm.trans (x6.2 1 _ rfl).2)
    subst hcA
    have hP1 : va_P D jw_cl (jw_w aC ad (h ++ [.inl (1, n.toNatClampNeg, .inl (fun _ => 0))])) H1 := by
      refine jw_grown (base := base) hP o1 ?_
      rw [x8 _ hl1, ← hz]
      exact e1
    have ea : ad h.length = H.size := by rw [x8 _ hl1, hz]
    have hk1 := hk p e s m args below meth c Q D aC ad base K hX RT _ _ _ _ hf H1 locs la lv hP1 (by rw [z1, hz, List.length_append]; rfl) (by rw [List.length_append]; exact hl1) ⟨g1, g2⟩ (jw_grownS hS z1 o1) hla hlv
    simp only [List.map_cons, jw_v, ea] at hk1
    exact hk1
  · exact hf.elim
def xo_anew (t r1 r2 : Nat) (k : jw_S) (ls st : List Value) (h : jw_H) (z : Nat × Nat) : Prop := match st with
  | .int n :: st => ¬ n < 0 ∧ n.toNatClampNeg ≤ 100000 ∧ h.length < 1000 ∧ z.1 + 1 ≤ r1 ∧ z.2 + n.toNatClampNeg ≤ r2 ∧ k ls (.ref h.length :: st) (h ++ [.inl (t, n.toNatClampNeg, .inr (.inr (.inr (.inr (fun _ => none)))))]) (z.1 + 1, z.2 + n.toNatClampNeg)
  | _ => False
theorem jo_anew2 {idx r1 r2 : Nat} (hcl : Cond.classLink own idx "SwipedStripe$Draw" ∈ jw_gd) (hr1 : R.cells = r1) (hr2 : R.slots = r2) (hd : decode cc pc = .ok (.anewarray idx, 3)) (hk : jo_Ok l cc nL own nm ro R rt mc ms k (pc + 3)) : jo_Ok l cc nL own nm ro R rt mc ms (fun K J => xo_anew 2 r1 r2 (k K J)) pc := by
  intro p e s m args below meth c Q D aC ad base K X RT ls st h z hf H locs la lv hP hz hl hR hS hla hlv
  unfold xo_anew at hf
  split at hf
  · rename_i n st2
    obtain ⟨hn, hn2, hl1, g1, g2, hf⟩ := hf
    subst hr1; subst hr2
    have hX := X
    obtain ⟨x1, x2, x3, x4, x5, x6, x7, x8, x9, x10⟩ := X
    refine W.anew x1 x2 x4 (x5 _ hcl) (va_AO.use x9.2.2.2.2.2.2.2.1) (g := F0 m pc la ((Value.int n :: st2).map (jw_v ad))) rfl hd (n := n) (rest := st2.map (jw_v ad)) rfl hn (by omega) g1 g2 fun cA kA comp f1 f2 f3 f4 => ?_
    obtain ⟨_, _, _, _, _, hNm⟩ := (x6.2 2 _ rfl).2
    have hcA : cA = aC 2 := Option.some.inj (f1.symm.trans hNm)
    subst hcA
    generalize hH1 : H.push ({ cls := aC 2, slots := Array.replicate n.toNatClampNeg .null, vm := .none } : Cell) = H1
    have z1 : H1.size = H.size + 1 := by rw [← hH1, Array.size_push]
    have e1 : H1[H.size]? = some (arrV (aC 2) n.toNatClampNeg (fun _ => .null)) := by rw [← hH1, Array.getElem?_push_size, ← arrV_new]
    have o1 : ∀ q : Nat, q < H.size → H1[q]? = H[q]? := fun q hq => by rw [← hH1, Array.getElem?_push, if_neg (Nat.ne_of_lt hq)]
    have hP1 : va_P D jw_cl (jw_w aC ad (h ++ [.inl (2, n.toNatClampNeg, .inr (.inr (.inr (.inr (fun _ => none)))))])) H1 := by
      refine jw_grown (base := base) hP o1 ?_
      rw [x8 _ hl1, ← hz]
      exact e1
    have ea : ad h.length = H.size := by rw [x8 _ hl1, hz]
    have hk1 := hk p e s m args below meth c Q D aC ad base K hX RT _ _ _ _ hf H1 locs la lv hP1 (by rw [z1, hz, List.length_append]; rfl) (by rw [List.length_append]; exact hl1) ⟨g1, g2⟩ (jw_grownS hS z1 o1) hla hlv
    simp only [List.map_cons, jw_v, ea] at hk1
    exact hk1
  · exact hf.elim
theorem jo_anew3 {idx r1 r2 : Nat} (hcl : Cond.classLink own idx "SwipedStripe$Sheet" ∈ jw_gd) (hr1 : R.cells = r1) (hr2 : R.slots = r2) (hd : decode cc pc = .ok (.anewarray idx, 3)) (hk : jo_Ok l cc nL own nm ro R rt mc ms k (pc + 3)) : jo_Ok l cc nL own nm ro R rt mc ms (fun K J => xo_anew 3 r1 r2 (k K J)) pc := by
  intro p e s m args below meth c Q D aC ad base K X RT ls st h z hf H locs la lv hP hz hl hR hS hla hlv
  unfold xo_anew at hf
  split at hf
  · rename_i n st2
    obtain ⟨hn, hn2, hl1, g1, g2, hf⟩ := hf
    subst hr1; subst hr2
    have hX := X
    obtain ⟨x1, x2, x3, x4, x5, x6, x7, x8, x9, x10⟩ := X
    refine W.anew x1 x2 x4 (x5 _ hcl) (va_AO.use x9.2.2.2.2.2.2.2.2) (g := F0 m pc la ((Value.int n :: st2).map (jw_v ad))) rfl hd (n := n) (rest := st2.map (jw_v ad)) rfl hn (by omega) g1 g2 fun cA kA comp f1 f2 f3 f4 => ?_
    obtain ⟨_, _, _, _, _, hNm⟩ := (x6.2 3 _ rfl).2
    have hcA : cA = aC 3 := Option.some.inj (f1.symm.trans hNm)
    subst hcA
    generalize hH1 : H.push ({ cls := aC 3, slots := Array.replicate n.toNatClampNeg .null, vm := .none } : Cell) = H1
    have z1 : H1.size = H.size + 1 := by rw [← hH1, Array.size_push]
    have e1 : H1[H.size]? = some (arrV (aC 3) n.toNatClampNeg (fun _ => .null)) := by rw [← hH1, Array.getElem?_push_size, ← arrV_new]
    have o1 : ∀ q : Nat, q < H.size → H1[q]? = H[q]? := fun q hq => by rw [← hH1, Array.getElem?_push, if_neg (Nat.ne_of_lt hq)]
    have hP1 : va_P D jw_cl (jw_w aC ad (h ++ [.inl (3, n.toNatClampNeg, .inr (.inr (.inr (.inr (fun _ => none)))))])) H1 := by
      refine jw_grown (base := base) hP o1 ?_
      rw [x8 _ hl1, ← hz]
      exact e1
    have ea : ad h.length = H.size := by rw [x8 _ hl1, hz]
    have hk1 := hk p e s m args below meth c Q D aC ad base K hX RT _ _ _ _ hf H1 locs la lv hP1 (by rw [z1, hz, List.length_append]; rfl) (by rw [List.length_append]; exact hl1) ⟨g1, g2⟩ (jw_grownS hS z1 o1) hla hlv
    simp only [List.map_cons, jw_v, ea] at hk1
    exact hk1
  · exact hf.elim
def xo_aast (k : jw_S) (ls st : List Value) (h : jw_H) (z : Nat × Nat) : Prop := match st with
  | .ref v :: .int i :: .ref a :: st => (match h[a]? with
    | some (.inl (t, n, .inr (.inr (.inr (.inr g))))) => (t = 2 ∧ jw_is h v 0 ∨ t = 3 ∧ jw_is h v 6) ∧ vp_in i n ∧ k ls st (h.set a (.inl (t, n, .inr (.inr (.inr (.inr (va_up g i.toNatClampNeg (some v)))))))) z
    | _ => False)
  | _ => False
theorem jw_updR (ad : Nat → Nat) (g : Nat → Option Nat) (i v : Nat) : updV (fun j => va_rf ((g j).map ad)) i (.ref (ad v)) = fun j => va_rf ((va_up g i (some v) j).map ad) := by
  funext q
  by_cases hq : q = i
  · subst hq; simp [updV, va_up, va_rf]
  · simp [updV, va_up, hq]
section AST
variable {p : Program} {l : Launch} {e : Env} {R : Room} {s : State} {m : MethodId} {args : Array Value} {below : List Frame} {meth : Method} {c : Code} {H : Heap} {locs : List Loc} {cells slots : Nat} {Q : State → Prop} {cc : ByteArray} {pc : Nat} {la : Array Slot} {rest : List Value} {D : va_G} {aC ad : Nat → Nat} {base : Nat} {h : jw_H}
theorem jw_rst (hexec : p.tables.exec = Jvm.exec) (hb : c.code = cc) (had : ∀ k, k < 1000 → ad k = base + k) (hl : h.length ≤ 1000) (hK : va_K D jw_cl (jw_ty aC) s) (hP : va_P D jw_cl (jw_w aC ad h) H) (hS : va_S (jw_A base) s.heap H locs) {a n v ci t : Nat} {r : vw_C} {vs : List Value} {g : Nat → Option Nat} (ho : h[a]? = some (.inl (t, n, .inr (.inr (.inr (.inr g)))))) (ht : (jw_ty aC)[t]? = some (aC t, .object r.1)) (hv : h[v]? = some (.inr (ci, vs))) (hc : jw_cl[ci]? = some r) {i : Int32} (hin : vp_in i n) (hdg : decode cc pc = .ok (.aastore, 1))
    (kk : ∀ (H1 : Heap) (locs1 : List Loc), va_P D jw_cl (jw_w aC ad (h.set a (.inl (t, n, .inr (.inr (.inr (.inr (va_up g i.toNatClampNeg (some v))))))))) H1 → H1.size = H.size → va_S (jw_A base) s.heap H1 locs1 → W p l e R s m args below meth c H1 locs1 cells slots Q (F0 m (pc + 1) la rest)) : W p l e R s m args below meth c H locs cells slots Q (F0 m pc la (.ref (ad v) :: .int i :: .ref (ad a) :: rest)) := by
  have hlt : i.toNatClampNeg < n := Nat.not_le.mp fun q => hin (Or.inr q)
  have h0 : ¬ i < 0 := fun q => hin (Or.inl q)
  obtain ⟨r', hr', cellV, g1, g2, g3, -⟩ := hP v _ (jw_w_at hv)
  have hcls := (hK.1 ci r hc).2
  obtain ⟨kA, comp, k1, k2, k3, -⟩ := (hK.2 t _ ht).2
  have hcomp : comp = D.1 ci := Option.some.inj (k3.symm.trans hcls.1)
  subst hcomp
  obtain ⟨kC, hkC, -⟩ := hcls.2
  refine W.aast hexec hb (hP a _ (jw_w_at ho)) (fun q h => by cases h) (fun h => by cases h) k1 k2 rfl hkC ⟨h0, by show _ < (arrV _ _ _).slots.size; rw [arrV_size]; exact hlt⟩ g1 (fun q h => by rw [g3] at h; cases h) (by rw [g2]; exact hkC) (by rw [g2]; exact va_assign hcls) rfl rfl hdg fun H1 e1 z1 oq => ?_
  refine kk H1 _ (jw_stored (c1 := .inl (t, n, .inr (.inr (.inr (.inr (va_up g i.toNatClampNeg (some v))))))) hl had ho hP ?_ oq) z1 (hS.put z1 oq (jw_base hl had ho))
  show H1[ad a]? = some (vp_cell (aC t) (n, .inr (.inr (.inr (.inr (fun j => (va_up g i.toNatClampNeg (some v) j).map ad))))))
  rw [e1]
  show some ((vp_cell (aC t) (n, .inr (.inr (.inr (.inr (fun j => (g j).map ad)))))).setSlot _ _) = _
  rw [vp_cell_q, vp_cell_q, arrV_store, jw_updR]
end AST
theorem jo_aast (hd : decode cc pc = .ok (.aastore, 1)) (hk : jo_Ok l cc nL own nm ro R rt mc ms k (pc + 1)) : jo_Ok l cc nL own nm ro R rt mc ms (fun K J => xo_aast (k K J)) pc := by
  intro p e s m args below meth c Q D aC ad base K X RT ls st h z hf H locs la lv hP hz hl hR hS hla hlv
  unfold xo_aast at hf
  split at hf
  · rename_i v i a st2
    split at hf
    · rename_i t n g ha
      obtain ⟨hh, hin, hf⟩ := hf
      have go := fun (H1 : Heap) (locs1 : List Loc) hP1 (hz1 : H1.size = H.size) hS1 => hk p e s m args below meth c Q D aC ad base K X RT _ _ _ _ hf H1 locs1 la lv hP1 (by rw [hz1, hz, List.length_set]) (by rw [List.length_set]; exact hl) hR hS1 hla hlv
      rcases hh with ⟨rfl, fs, hv⟩ | ⟨rfl, fs, hv⟩
      · exact jw_rst (r := (RX0, TX0, 2)) X.1 X.2.1 X.2.2.2.2.2.2.2.1 hl X.2.2.2.2.2.1 hP hS ha rfl hv rfl hin hd go
      · exact jw_rst (r := (RX6, TX6, 2)) X.1 X.2.1 X.2.2.2.2.2.2.2.1 hl X.2.2.2.2.2.1 hP hS ha rfl hv rfl hin hd go
    · exact hf.elim
  · exact hf.elim
def xo_mmax (k : jw_S) (ls st : List Value) (h : jw_H) (z : Nat × Nat) : Prop := match st with
  | .int y :: .int x :: st => jw_l4 st ∧ k ls (.int (if x < y then y else x) :: st) h z
  | _ => False
theorem jo_mmax {idx : Nat} (hl1 : Cond.methodLink own idx Lib.Math.max.name ∈ jw_gd) (hst : Cond.static Lib.Math.max.name ∈ jw_gd) (hini : Cond.initialized "java/lang/Math" ∈ jw_gd) (hco : Cond.code Lib.Math.max.name Lib.Math.max.code 2 (some .int) ∈ jw_gd) (hfr : 1 ≤ R.frames ∧ 21 ≤ R.locals) (hd : decode cc pc = .ok (.invokestatic idx, 3)) (hk : jo_Ok l cc nL own nm ro R rt mc ms k (pc + 3)) : jo_Ok l cc nL own nm ro R rt mc ms (fun K J => xo_mmax (k K J)) pc := by
  intro p e s m args below meth c Q D aC ad base K X RT ls st h z hf H locs la lv hP hz hl hR hS hla hlv
  unfold xo_mmax at hf
  split at hf
  · rename_i y x st2
    have h8 := jw_l4_sum ad st2 hf.1
    exact va_mmax X.1 X.2.1 (X.2.2.1.trans hla.1.symm) X.2.2.2.1 (X.2.2.2.2.1 _ hl1) (X.2.2.2.2.1 _ hst) (X.2.2.2.2.1 _ hini) (X.2.2.2.2.1 _ hco) hfr.1 (by have := hfr.2; omega) hR.1 hR.2 hd (hk p e s m args below meth c Q D aC ad base K X RT _ _ _ _ hf.2 H locs la lv hP hz hl hR hS hla hlv)
  · exact hf.elim
def xo_mmin (k : jw_S) (ls st : List Value) (h : jw_H) (z : Nat × Nat) : Prop := match st with
  | .int y :: .int x :: st => jw_l4 st ∧ k ls (.int (if y < x then y else x) :: st) h z
  | _ => False
theorem jo_mmin {idx : Nat} (hl1 : Cond.methodLink own idx Lib.Math.min.name ∈ jw_gd) (hst : Cond.static Lib.Math.min.name ∈ jw_gd) (hini : Cond.initialized "java/lang/Math" ∈ jw_gd) (hco : Cond.code Lib.Math.min.name Lib.Math.min.code 2 (some .int) ∈ jw_gd) (hfr : 1 ≤ R.frames ∧ 21 ≤ R.locals) (hd : decode cc pc = .ok (.invokestatic idx, 3)) (hk : jo_Ok l cc nL own nm ro R rt mc ms k (pc + 3)) : jo_Ok l cc nL own nm ro R rt mc ms (fun K J => xo_mmin (k K J)) pc := by
  intro p e s m args below meth c Q D aC ad base K X RT ls st h z hf H locs la lv hP hz hl hR hS hla hlv
  unfold xo_mmin at hf
  split at hf
  · rename_i y x st2
    have h8 := jw_l4_sum ad st2 hf.1
    exact va_mmin X.1 X.2.1 (X.2.2.1.trans hla.1.symm) X.2.2.2.1 (X.2.2.2.2.1 _ hl1) (X.2.2.2.2.1 _ hst) (X.2.2.2.2.1 _ hini) (X.2.2.2.2.1 _ hco) hfr.1 (by have := hfr.2; omega) hR.1 hR.2 hd (hk p e s m args below meth c Q D aC ad base K X RT _ _ _ _ hf.2 H locs la lv hP hz hl hR hS hla hlv)
  · exact hf.elim
def xo_mabs (k : jw_S) (ls st : List Value) (h : jw_H) (z : Nat × Nat) : Prop := match st with
  | .int x :: st => jw_l4 st ∧ k ls (.int (if 0 ≤ x then x else 0 - x) :: st) h z
  | _ => False
theorem jo_mabs {idx : Nat} (hl1 : Cond.methodLink own idx Lib.Math.abs.name ∈ jw_gd) (hst : Cond.static Lib.Math.abs.name ∈ jw_gd) (hini : Cond.initialized "java/lang/Math" ∈ jw_gd) (hco : Cond.code Lib.Math.abs.name Lib.Math.abs.code 1 (some .int) ∈ jw_gd) (hfr : 1 ≤ R.frames ∧ 21 ≤ R.locals) (hd : decode cc pc = .ok (.invokestatic idx, 3)) (hk : jo_Ok l cc nL own nm ro R rt mc ms k (pc + 3)) : jo_Ok l cc nL own nm ro R rt mc ms (fun K J => xo_mabs (k K J)) pc := by
  intro p e s m args below meth c Q D aC ad base K X RT ls st h z hf H locs la lv hP hz hl hR hS hla hlv
  unfold xo_mabs at hf
  split at hf
  · rename_i x st2
    have h8 := jw_l4_sum ad st2 hf.1
    exact va_mabs X.1 X.2.1 (X.2.2.1.trans hla.1.symm) X.2.2.2.1 (X.2.2.2.2.1 _ hl1) (X.2.2.2.2.1 _ hst) (X.2.2.2.2.1 _ hini) (X.2.2.2.2.1 _ hco) hfr.1 (by have := hfr.2; omega) hR.1 hR.2 hd (hk p e s m args below meth c Q D aC ad base K X RT _ _ _ _ hf.2 H locs la lv hP hz hl hR hS hla hlv)
  · exact hf.elim
def xo_mmaxL (k : jw_S) (ls st : List Value) (h : jw_H) (z : Nat × Nat) : Prop := match st with
  | .long y :: .long x :: st => jw_l4 st ∧ k ls (.long (if y < x then x else y) :: st) h z
  | _ => False
theorem jo_mmaxL {idx : Nat} (hl1 : Cond.methodLink own idx Lib.MathLoose.max_long.x ∈ jw_gd) (hst : Cond.static Lib.MathLoose.max_long.x ∈ jw_gd) (hini : Cond.initialized "java/lang/Math" ∈ jw_gd) (hco : Cond.code Lib.MathLoose.max_long.x Lib.MathLoose.max_long.code 4 (some .long) ∈ jw_gd) (hfr : 1 ≤ R.frames ∧ 23 ≤ R.locals) (hd : decode cc pc = .ok (.invokestatic idx, 3)) (hk : jo_Ok l cc nL own nm ro R rt mc ms k (pc + 3)) : jo_Ok l cc nL own nm ro R rt mc ms (fun K J => xo_mmaxL (k K J)) pc := by
  intro p e s m args below meth c Q D aC ad base K X RT ls st h z hf H locs la lv hP hz hl hR hS hla hlv
  unfold xo_mmaxL at hf
  split at hf
  · rename_i y x st2
    have h8 := jw_l4_sum ad st2 hf.1
    exact va_mmax_long X.1 X.2.1 (X.2.2.1.trans hla.1.symm) X.2.2.2.1 (X.2.2.2.2.1 _ hl1) (X.2.2.2.2.1 _ hst) (X.2.2.2.2.1 _ hini) (X.2.2.2.2.1 _ hco) hfr.1 (by have := hfr.2; omega) hR.1 hR.2 hd (hk p e s m args below meth c Q D aC ad base K X RT _ _ _ _ hf.2 H locs la lv hP hz hl hR hS hla hlv)
  · exact hf.elim
def xo_mabsL (k : jw_S) (ls st : List Value) (h : jw_H) (z : Nat × Nat) : Prop := match st with
  | .long x :: st => jw_l4 st ∧ k ls (.long (if 0 < x then x else -x) :: st) h z
  | _ => False
theorem jo_mabsL {idx : Nat} (hl1 : Cond.methodLink own idx Lib.MathLoose.abs_long.x ∈ jw_gd) (hst : Cond.static Lib.MathLoose.abs_long.x ∈ jw_gd) (hini : Cond.initialized "java/lang/Math" ∈ jw_gd) (hco : Cond.code Lib.MathLoose.abs_long.x Lib.MathLoose.abs_long.code 2 (some .long) ∈ jw_gd) (hfr : 1 ≤ R.frames ∧ 21 ≤ R.locals) (hd : decode cc pc = .ok (.invokestatic idx, 3)) (hk : jo_Ok l cc nL own nm ro R rt mc ms k (pc + 3)) : jo_Ok l cc nL own nm ro R rt mc ms (fun K J => xo_mabsL (k K J)) pc := by
  intro p e s m args below meth c Q D aC ad base K X RT ls st h z hf H locs la lv hP hz hl hR hS hla hlv
  unfold xo_mabsL at hf
  split at hf
  · rename_i x st2
    have h8 := jw_l4_sum ad st2 hf.1
    exact va_mabs_long X.1 X.2.1 (X.2.2.1.trans hla.1.symm) X.2.2.2.1 (X.2.2.2.2.1 _ hl1) (X.2.2.2.2.1 _ hst) (X.2.2.2.2.1 _ hini) (X.2.2.2.2.1 _ hco) hfr.1 (by have := hfr.2; omega) hR.1 hR.2 hd (hk p e s m args below meth c Q D aC ad base K X RT _ _ _ _ hf.2 H locs la lv hP hz hl hR hS hla hlv)
  · exact hf.elim
end JO
