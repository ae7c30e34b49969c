/-! cells: fields, arrays, what is made; calls; ends -/
section JW
variable {p : Program} {l : Launch} {e : Env} {R : Room} {s : State} {m : MethodId} {args : Array Value} {below : List Frame} {meth : Method} {c : Code} {H : Heap} {locs : List Loc} {cells slots : Nat} {Q : State → Prop} {cc : ByteArray} {pc : Nat} {la : Array Slot} {rest : List Value} {D : va_G} {aC ad : Nat → Nat} {base : Nat} {h : jw_H}
/-- the heap behind a store into cell number o -/
theorem jw_stored {o : Nat} {c0 c1 : va_E} {H1 : Heap} (hl : h.length ≤ 1000) (had : ∀ k, k < 1000 → ad k = base + k) (ho : h[o]? = some c0) (hP : va_P D jw_cl (jw_w aC ad h) H) (he : va_at D jw_cl (ad o, jw_e aC ad c1) H1) (oq : ∀ q : Nat, q ≠ ad o → H1[q]? = H[q]?) : va_P D jw_cl (jw_w aC ad (h.set o c1)) H1 := by
  have h1 := va_P.set hP (jw_w_D (aC := aC) hl had) (jw_w_at ho) he oq
  rwa [jw_w_set] at h1
theorem jw_base {o : Nat} {c0 : va_E} (hl : h.length ≤ 1000) (had : ∀ k, k < 1000 → ad k = base + k) (ho : h[o]? = some c0) : jw_A base (ad o) := by
  have h1 := (List.getElem?_eq_some_iff.mp ho).1
  show base ≤ ad o
  rw [had o (by omega)]
  omega
theorem jw_put (hexec : p.tables.exec = Jvm.exec) (hb : c.code = cc) (hts : ∀ w ∈ jw_gd, w.before args s = true) (had : ∀ k, k < 1000 → ad k = base + k) (hl : h.length ≤ 1000) {own C : String} {T : u_T} {N ci index : Nat} {ty : Nat → FieldType} (hF : jw_F ci C T N ty) (hown : s.vm.findClass own = some m.cls) (hK : va_K D jw_cl (jw_ty aC) s) (hP : va_P D jw_cl (jw_w aC ad h) H) (hS : va_S (jw_A base) s.heap H locs) {o : Nat} {fs : List Value} (ho : h[o]? = some (.inr (ci, fs))) (j : Nat) (hj : j < N) (hw : Cond.fieldLink own index (T j).1 (T j).2.1 (T j).2.2.1 ∈ jw_gd) (hfin : (T j).2.2.2 = false ∨ ((T j).2.2.2 = true ∧ meth.name = "<init>" ∧ (T j).1 = own)) {v : Value} (hn : narrow (ty j) (jw_v ad v) = jw_v ad v) (hfit : fits (ty j) (jw_v ad v) = true) (hjl : j < fs.length) (hdg : decode cc pc = .ok (.putfield index, 3))
    (kk : ∀ (H1 : Heap) (locs1 : List Loc), va_P D jw_cl (jw_w aC ad (h.set o (.inr (ci, fs.set j v)))) H1 → H1.size = H.size → va_S (jw_A base) s.heap H1 locs1 → W p l e R s m args below meth c H1 locs1 cells slots Q (F0 m (pc + 3) la rest)) : W p l e R s m args below meth c H locs cells slots Q (F0 m pc la (jw_v ad v :: .ref (ad o) :: rest)) := by
  obtain ⟨hc, hin, hty, hnm⟩ := hF
  have hap := va_apart (own := own) hts hin ty hty hnm hK hc
  obtain ⟨r, h1, cell, q1, q2, q3, q4⟩ := hP o _ (jw_w_at ho)
  have hr : r = (C, T, N) := Option.some.inj (h1.symm.trans hc)
  subst hr
  obtain ⟨hSl, hfc, kC, hkC, hkind⟩ := hK.1 ci _ hc
  obtain ⟨cf, kf, fi, f, hi, hsl⟩ := hSl j hj
  have hlay := hts _ (hin _ (u_in_lay hj))
  have hst := (u_facts hfc hkC (u_lays hts hin hj) hi).1
  have fin : ∀ H' : Heap, H'[ad o]? = some (cell.setSlot f.slot (jw_v ad v)) → H'.size = H.size → (∀ q, q ≠ ad o → H'[q]? = H[q]?) → W p l e R s m args below meth c H' (locs ++ [⟨ad o, f.slot⟩]) cells slots Q (F0 m (pc + 3) la rest) := by
    intro H' e1 e2 e3
    rw [hsl] at e1 ⊢
    refine kk H' _ (jw_stored (c1 := .inr (ci, fs.set j v)) hl had ho hP ⟨_, hc, ?_⟩ e3) e2 (hS.put e2 e3 (jw_base hl had ho))
    refine t_OB.to (V := updV (vp_V (fs.map (jw_v ad))) j (jw_v ad v)) ⟨_, e1, q2, q3, t_set q4 hap hj _⟩ (fun i _ => ?_)
    rw [vp_updV_set (by simpa using hjl)]
    simp [List.map_set]
  rcases hfin with hfin | ⟨hfin, hini, hdecl⟩
  · unfold u_lay at hlay
    rw [if_neg (by rw [hfin]; decide)] at hlay
    have h6 := u_store hfc hkC hkind hlay hi (hty j hj) hn hfit
    exact W.putK hexec hb (f := f) ⟨hown, hts _ hw, ⟨_, _, _, hi⟩, hst⟩ (by rw [q2]; exact h6) q1 q3 (by rw [hsl]; exact k2_hasslot (q4 j hj)) rfl rfl hdg fin
  · unfold u_lay at hlay
    rw [if_pos hfin] at hlay
    have hcf : m.cls = cf := by
      obtain ⟨_, _, c', _, _, _, -, -, hf', -, -, -, hown2, -⟩ := Cond.laysFinal_spec hlay
      have e1 : c' = cf := by have := hi.symm.trans hf'; simp at this; exact this.1.symm
      rw [hdecl] at hown2
      rw [← e1]; exact Option.some.inj (hown.symm.trans hown2)
    have h6 := u_fits hfc hkC hkind (Or.inr hlay) hi (hty j hj) hn hfit
    exact W.putFinK hexec hb hown (hts _ hw) hi hst hcf hini (by rw [q2]; exact h6) q1 q3 (by rw [hsl]; exact k2_hasslot (q4 j hj)) rfl rfl hdg fin
theorem jw_upd (f : Nat → Int32) (i : Nat) (x : Int32) : updV (fun j => Value.int (f j)) i (.int x) = fun j => .int (upd f i x j) := by
  funext q
  by_cases hq : q = i
  · subst hq; simp [updV, upd]
  · simp [updV, upd, hq]
theorem jw_ast (hexec : p.tables.exec = Jvm.exec) (hb : c.code = cc) (had : ∀ k, k < 1000 → ad k = base + k) (hl : h.length ≤ 1000) (hK : va_K D jw_cl (jw_ty aC) s) (hP : va_P D jw_cl (jw_w aC ad h) H) (hS : va_S (jw_A base) s.heap H locs) {a n : Nat} {f : Nat → Int32} (ho : h[a]? = some (.inl (0, n, .inl f))) {i x : Int32} (hin : vp_in i n) (hdg : decode cc pc = .ok (.iastore, 1))
    (kk : ∀ (H1 : Heap) (locs1 : List Loc), va_P D jw_cl (jw_w aC ad (h.set a (.inl (0, n, .inl (upd f i.toNatClampNeg x))))) H1 → H1.size = H.size → va_S (jw_A base) s.heap H1 locs1 → W p l e R s m args below meth c H1 locs1 cells slots Q (F0 m (pc + 1) la rest)) : W p l e R s m args below meth c H locs cells slots Q (F0 m pc la (.int x :: .int i :: .ref (ad a) :: rest)) := by
  refine W.iast hexec hb (hP a _ (jw_w_at ho)) ((hK.2 0 _ rfl).1 n (fun j => .int (f j))) (fun q => by cases q) (by show ¬ (i < 0 ∨ (arrV _ _ _).slots.size ≤ _); rw [arrV_size]; exact hin) rfl rfl hdg fun H1 e1 z1 oq => ?_
  refine kk H1 _ (jw_stored (c1 := .inl (0, n, .inl (upd f i.toNatClampNeg x))) hl had ho hP ?_ oq) z1 (hS.put z1 oq (jw_base hl had ho))
  show H1[ad a]? = some (vp_cell (aC 0) (n, .inl (upd f i.toNatClampNeg x)))
  rw [e1]
  show some ((vp_cell (aC 0) (n, .inl f)).setSlot _ _) = _
  rw [vp_cell_i, vp_cell_i, arrV_store, jw_upd]
theorem jw_zst (hexec : p.tables.exec = Jvm.exec) (hb : c.code = cc) (had : ∀ k, k < 1000 → ad k = base + k) (hl : h.length ≤ 1000) (hK : va_K D jw_cl (jw_ty aC) s) (hP : va_P D jw_cl (jw_w aC ad h) H) (hS : va_S (jw_A base) s.heap H locs) {a n : Nat} {f : Nat → Int32} (ho : h[a]? = some (.inl (1, n, .inl f))) {i x : Int32} (hin : vp_in i n) (hx : x = 0 ∨ x = 1) (hdg : decode cc pc = .ok (.bastore, 1))
    (kk : ∀ (H1 : Heap) (locs1 : List Loc), va_P D jw_cl (jw_w aC ad (h.set a (.inl (1, n, .inl (upd f i.toNatClampNeg x))))) H1 → H1.size = H.size → va_S (jw_A base) s.heap H1 locs1 → W p l e R s m args below meth c H1 locs1 cells slots Q (F0 m (pc + 1) la rest)) : W p l e R s m args below meth c H locs cells slots Q (F0 m pc la (.int x :: .int i :: .ref (ad a) :: rest)) := by
  have hnx : narrow .boolean (.int x) = .int x := by rcases hx with rfl | rfl <;> rfl
  refine W.zast hexec hb (hP a _ (jw_w_at ho)) ((hK.2 1 _ rfl).1 n (fun j => .int (f j))) (fun q => by cases q) (by show ¬ (i < 0 ∨ (arrV _ _ _).slots.size ≤ _); rw [arrV_size]; exact hin) rfl rfl hdg fun H1 e1 z1 oq => ?_
  refine kk H1 _ (jw_stored (c1 := .inl (1, n, .inl (upd f i.toNatClampNeg x))) hl had ho hP ?_ oq) z1 (hS.put z1 oq (jw_base hl had ho))
  show H1[ad a]? = some (vp_cell (aC 1) (n, .inl (upd f i.toNatClampNeg x)))
  rw [e1, hnx]
  show some ((vp_cell (aC 1) (n, .inl f)).setSlot _ _) = _
  rw [vp_cell_i, vp_cell_i, arrV_store, jw_upd]
end JW
section JO
variable {l : Launch} {cc : ByteArray} {nL : Nat} {own nm : String} {ro : Nat → Option (Nat × (Nat → Int32))} {R : Room} {rt : Option FieldType} {mc ms : Nat} {pc : Nat} {k t : jw_K → (Nat → jw_S) → jw_S}
def xo_gf (ci j : Nat) (k : jw_S) (ls st : List Value) (h : jw_H) (z : Nat × Nat) : Prop := match st with
  | .ref o :: st => (match jw_gf h ci o j with
    | some v => k ls (v :: st) h z
    | none => False)
  | _ => False
theorem jo_gf {ci j idx N : Nat} {C : String} {T : u_T} {ty : Nat → FieldType} (hF : jw_F ci C T N ty) (hj : j < N) (hw : Cond.fieldLink own idx (T j).1 (T j).2.1 (T j).2.2.1 ∈ jw_gd) (hd : decode cc pc = .ok (.getfield idx, 3)) (hk : jo_Ok l cc nL own nm ro R rt mc ms k (pc + 3)) : jo_Ok l cc nL own nm ro R rt mc ms (fun K J => xo_gf ci j (k K J)) pc := by
  intro p e s m args below meth c Q D aC ad base K X RT ls st h z hf H locs la lv hP hz hl hR hS hla hlv
  unfold xo_gf at hf
  split at hf
  · rename_i o st2
    split at hf
    · rename_i v hv
      obtain ⟨fs, h1, h2⟩ := jw_gf_at hv
      exact va_get (D := D) (ci := ci) (fs := fs.map (jw_v ad)) (v := jw_v ad v) (C := C) (T := T) (N := N) X.1 X.2.1 X.2.2.2.2.1 hF.2.1 X.2.2.2.1 X.2.2.2.2.2.1 hP o (jw_w_at h1) hF.1 j hj (X.2.2.2.2.1 _ hw) (fun _ q => q) (by rw [List.getElem?_map, h2]; rfl) hd (hk p e s m args below meth c Q D aC ad base K X RT _ _ _ _ hf H locs la lv hP hz hl hR hS hla hlv)
    · exact hf.elim
  · exact hf.elim
def xo_pfi (ci j : Nat) (k : jw_S) (ls st : List Value) (h : jw_H) (z : Nat × Nat) : Prop := match st with
  | .int v :: .ref o :: st => (match jw_pf h ci o j (.int v) with
    | some h => k ls st h z
    | none => False)
  | _ => False
theorem jo_pfi {ci j idx N : Nat} {C : String} {T : u_T} {ty : Nat → FieldType} (hF : jw_F ci C T N ty) (hj : j < N) (hw : Cond.fieldLink own idx (T j).1 (T j).2.1 (T j).2.2.1 ∈ jw_gd) (hfin : (T j).2.2.2 = false) (hty : ty j = .int) (hd : decode cc pc = .ok (.putfield idx, 3)) (hk : jo_Ok l cc nL own nm ro R rt mc ms k (pc + 3)) : jo_Ok l cc nL own nm ro R rt mc ms (fun K J => xo_pfi ci j (k K J)) pc := by
  intro p e s m args below meth c Q D aC ad base K X RT ls st h z hf H locs la lv hP hz hl hR hS hla hlv
  unfold xo_pfi at hf
  split at hf
  · rename_i v o st2
    split at hf
    · rename_i h2 hv
      obtain ⟨fs, h1, hjl, rfl⟩ := jw_pf_at hv
      exact jw_put (v := .int v) X.1 X.2.1 X.2.2.2.2.1 X.2.2.2.2.2.2.2.1 hl hF X.2.2.2.1 X.2.2.2.2.2.1 hP hS h1 j hj hw (Or.inl hfin) (by rw [hty]; rfl) (by rw [hty]; rfl) hjl hd (fun H1 locs1 hP1 hz1 hS1 => hk p e s m args below meth c Q D aC ad base K X RT _ _ _ _ hf H1 locs1 la lv hP1 (by rw [hz1, hz, List.length_set]) (by rw [List.length_set]; exact hl) hR hS1 hla hlv)
    · exact hf.elim
  · exact hf.elim
def xo_pfl (ci j : Nat) (k : jw_S) (ls st : List Value) (h : jw_H) (z : Nat × Nat) : Prop := match st with
  | .long v :: .ref o :: st => (match jw_pf h ci o j (.long v) with
    | some h => k ls st h z
    | none => False)
  | _ => False
theorem jo_pfl {ci j idx N : Nat} {C : String} {T : u_T} {ty : Nat → FieldType} (hF : jw_F ci C T N ty) (hj : j < N) (hw : Cond.fieldLink own idx (T j).1 (T j).2.1 (T j).2.2.1 ∈ jw_gd) (hfin : (T j).2.2.2 = false) (hty : ty j = .long) (hd : decode cc pc = .ok (.putfield idx, 3)) (hk : jo_Ok l cc nL own nm ro R rt mc ms k (pc + 3)) : jo_Ok l cc nL own nm ro R rt mc ms (fun K J => xo_pfl ci j (k K J)) pc := by
  intro p e s m args below meth c Q D aC ad base K X RT ls st h z hf H locs la lv hP hz hl hR hS hla hlv
  unfold xo_pfl at hf
  split at hf
  · rename_i v o st2
    split at hf
    · rename_i h2 hv
      obtain ⟨fs, h1, hjl, rfl⟩ := jw_pf_at hv
      exact jw_put (v := .long v) X.1 X.2.1 X.2.2.2.2.1 X.2.2.2.2.2.2.2.1 hl hF X.2.2.2.1 X.2.2.2.2.2.1 hP hS h1 j hj hw (Or.inl hfin) (by rw [hty]; rfl) (by rw [hty]; rfl) hjl hd (fun H1 locs1 hP1 hz1 hS1 => hk p e s m args below meth c Q D aC ad base K X RT _ _ _ _ hf H1 locs1 la lv hP1 (by rw [hz1, hz, List.length_set]) (by rw [List.length_set]; exact hl) hR hS1 hla hlv)
    · exact hf.elim
  · exact hf.elim
def xo_pfz (ci j : Nat) (k : jw_S) (ls st : List Value) (h : jw_H) (z : Nat × Nat) : Prop := match st with
  | .int v :: .ref o :: st => (v = 0 ∨ v = 1) ∧ (match jw_pf h ci o j (.int v) with
    | some h => k ls st h z
    | none => False)
  | _ => False
theorem jo_pfz {ci j idx N : Nat} {C : String} {T : u_T} {ty : Nat → FieldType} (hF : jw_F ci C T N ty) (hj : j < N) (hw : Cond.fieldLink own idx (T j).1 (T j).2.1 (T j).2.2.1 ∈ jw_gd) (hfin : (T j).2.2.2 = false) (hty : ty j = .boolean) (hd : decode cc pc = .ok (.putfield idx, 3)) (hk : jo_Ok l cc nL own nm ro R rt mc ms k (pc + 3)) : jo_Ok l cc nL own nm ro R rt mc ms (fun K J => xo_pfz ci j (k K J)) pc := by
  intro p e s m args below meth c Q D aC ad base K X RT ls st h z hf H locs la lv hP hz hl hR hS hla hlv
  unfold xo_pfz at hf
  split at hf
  · rename_i v o st2
    obtain ⟨hv01, hf⟩ := hf
    split at hf
    · rename_i h2 hv
      obtain ⟨fs, h1, hjl, rfl⟩ := jw_pf_at hv
      exact jw_put (v := .int v) X.1 X.2.1 X.2.2.2.2.1 X.2.2.2.2.2.2.2.1 hl hF X.2.2.2.1 X.2.2.2.2.2.1 hP hS h1 j hj hw (Or.inl hfin) (by rw [hty]; rcases hv01 with rfl | rfl <;> rfl) (by rw [hty]; rcases hv01 with rfl | rfl <;> rfl) hjl hd (fun H1 locs1 hP1 hz1 hS1 => hk p e s m args below meth c Q D aC ad base K X RT _ _ _ _ hf H1 locs1 la lv hP1 (by rw [hz1, hz, List.length_set]) (by rw [List.length_set]; exact hl) hR hS1 hla hlv)
    · exact hf.elim
  · exact hf.elim
def xo_pfr (ci j : Nat) (k : jw_S) (ls st : List Value) (h : jw_H) (z : Nat × Nat) : Prop := match st with
  | .ref v :: .ref o :: st => (match jw_pf h ci o j (.ref v) with
    | some h => k ls st h z
    | none => False)
  | _ => False
theorem jo_pfr {ci j idx N : Nat} {C : String} {T : u_T} {ty : Nat → FieldType} (hF : jw_F ci C T N ty) (hj : j < N) (hw : Cond.fieldLink own idx (T j).1 (T j).2.1 (T j).2.2.1 ∈ jw_gd) (hfin : (T j).2.2.2 = true) (hnm : nm = "<init>") (hdc : (T j).1 = own) (hty : (∃ C, ty j = .object C) ∨ ∃ C, ty j = .array C) (hd : decode cc pc = .ok (.putfield idx, 3)) (hk : jo_Ok l cc nL own nm ro R rt mc ms k (pc + 3)) : jo_Ok l cc nL own nm ro R rt mc ms (fun K J => xo_pfr ci j (k K J)) pc := by
  intro p e s m args below meth c Q D aC ad base K X RT ls st h z hf H locs la lv hP hz hl hR hS hla hlv
  unfold xo_pfr at hf
  split at hf
  · rename_i v o st2
    split at hf
    · rename_i h2 hv
      obtain ⟨fs, h1, hjl, rfl⟩ := jw_pf_at hv
      exact jw_put (v := .ref v) X.1 X.2.1 X.2.2.2.2.1 X.2.2.2.2.2.2.2.1 hl hF X.2.2.2.1 X.2.2.2.2.2.1 hP hS h1 j hj hw (Or.inr ⟨hfin, X.2.2.2.2.2.2.2.2.2.trans hnm, hdc⟩) (by rcases hty with ⟨C, e⟩ | ⟨C, e⟩ <;> rw [e] <;> rfl) (by rcases hty with ⟨C, e⟩ | ⟨C, e⟩ <;> rw [e] <;> rfl) hjl hd (fun H1 locs1 hP1 hz1 hS1 => hk p e s m args below meth c Q D aC ad base K X RT _ _ _ _ hf H1 locs1 la lv hP1 (by rw [hz1, hz, List.length_set]) (by rw [List.length_set]; exact hl) hR hS1 hla hlv)
    · exact hf.elim
  · exact hf.elim
def xo_iald (ro : Nat → Option (Nat × (Nat → Int32))) (k : jw_S) (ls st : List Value) (h : jw_H) (z : Nat × Nat) : Prop := match st with
  | .int i :: .ref a :: st => (match h[a]? with
    | some (.inl (0, n, .inl f)) => vp_in i n ∧ k ls (.int (f i.toNatClampNeg) :: st) h z
    | some _ => False
    | none => (match ro a with
      | some (n, f) => vp_in i n ∧ k ls (.int (f i.toNatClampNeg) :: st) h z
      | none => False))
  | _ => False
theorem jo_iald (hd : decode cc pc = .ok (.iaload, 1)) (hk : jo_Ok l cc nL own nm ro R rt mc ms k (pc + 1)) : jo_Ok l cc nL own nm ro R rt mc ms (fun K J => xo_iald ro (k K J)) pc := by
  intro p e s m args below meth c Q D aC ad base K X RT ls st h z hf H locs la lv hP hz hl hR hS hla hlv
  unfold xo_iald at hf
  split at hf
  · rename_i i a st2
    split at hf
    · rename_i n f ha
      exact va_iald X.1 X.2.1 X.2.2.2.2.2.1 hP a 0 (jw_w_at ha) rfl hf.1 hd (hk p e s m args below meth c Q D aC ad base K X RT _ _ _ _ hf.2 H locs la lv hP hz hl hR hS hla hlv)
    · exact hf.elim
    · split at hf
      · rename_i n f hr
        exact va_ti X.1 X.2.1 (X.2.2.2.2.2.2.2.2.1.1 a n f hr).2 hS hf.1 rfl hd (hk p e s m args below meth c Q D aC ad base K X RT _ _ _ _ hf.2 H locs la lv hP hz hl hR hS hla hlv)
      · exact hf.elim
  · exact hf.elim
def xo_iast (k : jw_S) (ls st : List Value) (h : jw_H) (z : Nat × Nat) : Prop := match st with
  | .int x :: .int i :: .ref a :: st => (match h[a]? with
    | some (.inl (0, n, .inl f)) => vp_in i n ∧ k ls st (h.set a (.inl (0, n, .inl (upd f i.toNatClampNeg x)))) z
    | _ => False)
  | _ => False
def xo_zast (k : jw_S) (ls st : List Value) (h : jw_H) (z : Nat × Nat) : Prop := match st with
  | .int x :: .int i :: .ref a :: st => (match h[a]? with
    | some (.inl (1, n, .inl f)) => vp_in i n ∧ (x = 0 ∨ x = 1) ∧ k ls st (h.set a (.inl (1, n, .inl (upd f i.toNatClampNeg x)))) z
    | _ => False)
  | _ => False
theorem jo_iast (hd : decode cc pc = .ok (.iastore, 1)) (hk : jo_Ok l cc nL own nm ro R rt mc ms k (pc + 1)) : jo_Ok l cc nL own nm ro R rt mc ms (fun K J => xo_iast (k K J)) pc := by
  intro p e s m args below meth c Q D aC ad base K X RT ls st h z hf H locs la lv hP hz hl hR hS hla hlv
  unfold xo_iast at hf
  split at hf
  · rename_i x i a st2
    split at hf
    · rename_i n f ha
      exact jw_ast X.1 X.2.1 X.2.2.2.2.2.2.2.1 hl X.2.2.2.2.2.1 hP hS ha hf.1 hd (fun H1 locs1 hP1 hz1 hS1 => hk p e s m args below meth c Q D aC ad base K X RT _ _ _ _ hf.2 H1 locs1 la lv hP1 (by rw [hz1, hz, List.length_set]) (by rw [List.length_set]; exact hl) hR hS1 hla hlv)
    · exact hf.elim
  · exact hf.elim
theorem jo_zast (hd : decode cc pc = .ok (.bastore, 1)) (hk : jo_Ok l cc nL own nm ro R rt mc ms k (pc + 1)) : jo_Ok l cc nL own nm ro R rt mc ms (fun K J => xo_zast (k K J)) pc := by
  intro p e s m args below meth c Q D aC ad base K X RT ls st h z hf H locs la lv hP hz hl hR hS hla hlv
  unfold xo_zast at hf
  split at hf
  · rename_i x i a st2
    split at hf
    · rename_i n f ha
      exact jw_zst X.1 X.2.1 X.2.2.2.2.2.2.2.1 hl X.2.2.2.2.2.1 hP hS ha hf.1 hf.2.1 hd (fun H1 locs1 hP1 hz1 hS1 => hk p e s m args below meth c Q D aC ad base K X RT _ _ _ _ hf.2.2 H1 locs1 la lv hP1 (by rw [hz1, hz, List.length_set]) (by rw [List.length_set]; exact hl) hR hS1 hla hlv)
    · exact hf.elim
  · exact hf.elim
def xo_zald (k : jw_S) (ls st : List Value) (h : jw_H) (z : Nat × Nat) : Prop := match st with
  | .int i :: .ref a :: st => (match h[a]? with
    | some (.inl (1, n, .inl f)) => vp_in i n ∧ k ls (.int (f i.toNatClampNeg) :: st) h z
    | _ => False)
  | _ => False
theorem jo_zald (hd : decode cc pc = .ok (.baload, 1)) (hk : jo_Ok l cc nL own nm ro R rt mc ms k (pc + 1)) : jo_Ok l cc nL own nm ro R rt mc ms (fun K J => xo_zald (k K J)) pc := by
  intro p e s m args below meth c Q D aC ad base K X RT ls st h z hf H locs la lv hP hz hl hR hS hla hlv
  unfold xo_zald at hf
  split at hf
  · rename_i i a st2
    split at hf
    · rename_i n f ha
      exact va_zald X.1 X.2.1 X.2.2.2.2.2.1 hP a 1 (jw_w_at ha) rfl hf.1 hd (hk p e s m args below meth c Q D aC ad base K X RT _ _ _ _ hf.2 H locs la lv hP hz hl hR hS hla hlv)
    · exact hf.elim
  · exact hf.elim
def xo_alen (ro : Nat → Option (Nat × (Nat → Int32))) (k : jw_S) (ls st : List Value) (h : jw_H) (z : Nat × Nat) : Prop := match st with
  | .ref a :: st => (match h[a]? with
    | some (.inl (t, n, _)) => t < 4 ∧ k ls (.int (Int32.ofNat n) :: st) h z
    | some _ => False
    | none => (match ro a with
      | some (n, _) => k ls (.int (Int32.ofNat n) :: st) h z
      | none => False))
  | _ => False
theorem jw_e_len (aC ad : Nat → Nat) (t n : Nat) (x : (Nat → Int32) ⊕ (Nat → Int64) ⊕ (Nat → UInt32) ⊕ (Nat → UInt64) ⊕ (Nat → Option Nat)) : ∃ y, jw_e aC ad (.inl (t, n, x)) = .inl (aC t, n, y) := by
  rcases x with f | f | f | f | f <;> exact ⟨_, rfl⟩
theorem jw_ty_at (aC : Nat → Nat) {t : Nat} (ht : t < 4) : ∃ ty, (jw_ty aC)[t]? = some (aC t, ty) := by
  rcases (show t = 0 ∨ t = 1 ∨ t = 2 ∨ t = 3 by omega) with rfl | rfl | rfl | rfl <;> exact ⟨_, rfl⟩
theorem jo_alen (hd : decode cc pc = .ok (.arraylength, 1)) (hk : jo_Ok l cc nL own nm ro R rt mc ms k (pc + 1)) : jo_Ok l cc nL own nm ro R rt mc ms (fun K J => xo_alen ro (k K J)) pc := by
  intro p e s m args below meth c Q D aC ad base K X RT ls st h z hf H locs la lv hP hz hl hR hS hla hlv
  unfold xo_alen at hf
  split at hf
  · rename_i a st2
    split at hf
    · rename_i t n x ha
      obtain ⟨y, hy⟩ := jw_e_len aC ad t n x
      obtain ⟨ty, hty⟩ := jw_ty_at aC hf.1
      exact va_alen (x := (n, y)) X.1 X.2.1 X.2.2.2.2.2.1 hP a t (by rw [← hy]; exact jw_w_at ha) hty rfl hd (hk p e s m args below meth c Q D aC ad base K X RT _ _ _ _ hf.2 H locs la lv hP hz hl hR hS hla hlv)
    · exact hf.elim
    · split at hf
      · rename_i n f hr
        exact va_tlen X.1 X.2.1 (X.2.2.2.2.2.2.2.2.1.1 a n f hr).2 hS rfl hd (hk p e s m args below meth c Q D aC ad base K X RT _ _ _ _ hf H locs la lv hP hz hl hR hS hla hlv)
      · exact hf.elim
  · exact hf.elim
def xo_aald (k : jw_S) (ls st : List Value) (h : jw_H) (z : Nat × Nat) : Prop := match st with
  | .int i :: .ref a :: st => (match h[a]? with
    | some (.inl (t, n, .inr (.inr (.inr (.inr g))))) => (t = 2 ∨ t = 3) ∧ vp_in i n ∧ (match g i.toNatClampNeg with
      | some q => k ls (.ref q :: st) h z
      | none => False)
    | _ => False)
  | _ => False
theorem jo_aald (hd : decode cc pc = .ok (.aaload, 1)) (hk : jo_Ok l cc nL own nm ro R rt mc ms k (pc + 1)) : jo_Ok l cc nL own nm ro R rt mc ms (fun K J => xo_aald (k K J)) pc := by
  intro p e s m args below meth c Q D aC ad base K X RT ls st h z hf H locs la lv hP hz hl hR hS hla hlv
  unfold xo_aald at hf
  split at hf
  · rename_i i a st2
    split at hf
    · rename_i t n g ha
      obtain ⟨ht, hin, hf⟩ := hf
      split at hf
      · rename_i q hq
        have hk1 := hk p e s m args below meth c Q D aC ad base K X RT _ _ _ _ hf H locs la lv hP hz hl hR hS hla hlv
        have e1 : va_rf ((fun i => (g i).map ad) i.toNatClampNeg) = .ref (ad q) := by simp [hq, va_rf]
        rcases ht with rfl | rfl
        · refine va_aldq X.1 X.2.1 X.2.2.2.2.2.1 hP a 2 (jw_w_at ha) rfl hin hd ?_
          rw [e1]; exact hk1
        · refine va_aldq X.1 X.2.1 X.2.2.2.2.2.1 hP a 3 (jw_w_at ha) rfl hin hd ?_
          rw [e1]; exact hk1
      · exact hf.elim
    · exact hf.elim
  · exact hf.elim
def xo_gs (a : Nat) (k : jw_S) (ls st : List Value) (h : jw_H) (z : Nat × Nat) : Prop := k ls (.ref a :: st) h z
end JO
