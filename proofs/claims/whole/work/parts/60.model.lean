/-! the reference: what it holds, and its frame -/
def mn_ (I : Nat → Nat → Int32) (a c : Nat) (xs : List Nat) : Prop := I 69 c = nI xs.length ∧ ∀ i, i < xs.length → I a i = nI (xs.getD i 0)
def md_ (I : Nat → Nat → Int32) (ds : List (List (Nat × Nat))) : Prop := I 69 41 = nI ds.length ∧ ds.length ≤ 6 ∧ ∀ k d, ds[k]? = some d → d.length ≤ 32 ∧ I 86 k = nI d.length ∧ (∀ x ∈ d, x.1 < 64 ∧ x.2 ≤ 1) ∧ ∀ i, i < d.length → I 87 (32 * k + i) = nI (d.getD i (0, 0)).1 ∧ I 88 (32 * k + i) = nI (d.getD i (0, 0)).2
def msk_ (I : Nat → Nat → Int32) (k : Nat) (o : sh_T) : Prop := match o with
  | none => I 89 k = -4
  | some q => I 89 k = nI q.1 ∧ q.1 ≤ 2 ∧ I 90 k = nI q.2.length ∧ q.2.length ≤ 64 ∧ ∀ i, i < q.2.length → I 91 (64 * k + i) = q.2.getD i 0
def ms_ (I : Nat → Nat → Int32) (sh : Nat → sh_T) : Prop := ∀ k, k < 4 → msk_ I k (sh k)
def cu_ : List Nat := [0, 4, 7, 12, 17, 21, 25, 30, 37, 42, 46, 51]
def lr_ : List Nat := [98, 105, 116, 115, 111, 100, 100, 98, 101, 103, 105, 110, 99, 108, 111, 115, 101, 108, 101, 97, 100, 116, 97, 105, 108, 108, 105, 109, 105, 116, 99, 104, 101, 99, 107, 101, 100, 99, 108, 111, 99, 107, 101, 118, 101, 110, 112, 108, 97, 105, 110]
def mm2_ : List Nat := [6, 0, 63, 63, 20, 20, 60, 0, 2]
def mk_ (I : Nat → Nat → Int32) : Prop := (∀ j, j < 12 → I 71 j = nI (cu_.getD j 0)) ∧ (∀ j, j < 51 → I 72 j = nI (lr_.getD j 0)) ∧ (∀ j, j < 9 → I 73 j = nI (r0_ j)) ∧ (∀ j, j < 9 → I 74 j = nI (lt_.getD j 0)) ∧ (∀ j, j < 9 → I 75 j = nI (mm2_.getD j 0))
def im_ (I : Nat → Nat → Int32) (tp : List Nat) (fl : Nat) (u : Nat → Nat) (wr gp : List Nat) (ds : List (List (Nat × Nat))) (sh : Nat → sh_T) (tn : Int32) : Prop := mn_ I 70 1 tp ∧ I 69 2 = nI fl ∧ uq_ I 75 u ∧ mn_ I 78 18 wr ∧ mn_ I 80 22 gp ∧ md_ I ds ∧ ms_ I sh ∧ I 69 49 = tn ∧ mk_ I
/-- changed at most: these numbers of the object, these arrays -/
def fq_ (F A : List Nat) (I I2 : Nat → Nat → Int32) : Prop := ∀ q j, (q = 69 → ¬ j ∈ F) → ¬ q ∈ A → I2 q j = I q j
def fh_ (I I2 : Nat → Nat → Int32) : Prop := ∀ q, q < 69 → I2 q = I q
theorem vj_0 : vp_in (0 : Int32) 9 = True := eq_true (vp_in_nI (n := 0) (by decide) (by decide))
theorem vj_1 : vp_in (1 : Int32) 9 = True := eq_true (vp_in_nI (n := 1) (by decide) (by decide))
theorem vj_2 : vp_in (2 : Int32) 9 = True := eq_true (vp_in_nI (n := 2) (by decide) (by decide))
theorem vj_3 : vp_in (3 : Int32) 9 = True := eq_true (vp_in_nI (n := 3) (by decide) (by decide))
theorem vj_4 : vp_in (4 : Int32) 9 = True := eq_true (vp_in_nI (n := 4) (by decide) (by decide))
theorem vj_5 : vp_in (5 : Int32) 9 = True := eq_true (vp_in_nI (n := 5) (by decide) (by decide))
theorem vj_6 : vp_in (6 : Int32) 9 = True := eq_true (vp_in_nI (n := 6) (by decide) (by decide))
theorem vj_7 : vp_in (7 : Int32) 9 = True := eq_true (vp_in_nI (n := 7) (by decide) (by decide))
theorem vj_8 : vp_in (8 : Int32) 9 = True := eq_true (vp_in_nI (n := 8) (by decide) (by decide))
theorem cj_0 : (0 : Int32).toNatClampNeg = 0 := nI_clamp (n := 0) (by decide)
theorem cj_1 : (1 : Int32).toNatClampNeg = 1 := nI_clamp (n := 1) (by decide)
theorem cj_2 : (2 : Int32).toNatClampNeg = 2 := nI_clamp (n := 2) (by decide)
theorem cj_3 : (3 : Int32).toNatClampNeg = 3 := nI_clamp (n := 3) (by decide)
theorem cj_4 : (4 : Int32).toNatClampNeg = 4 := nI_clamp (n := 4) (by decide)
theorem cj_5 : (5 : Int32).toNatClampNeg = 5 := nI_clamp (n := 5) (by decide)
theorem cj_6 : (6 : Int32).toNatClampNeg = 6 := nI_clamp (n := 6) (by decide)
theorem cj_7 : (7 : Int32).toNatClampNeg = 7 := nI_clamp (n := 7) (by decide)
theorem cj_8 : (8 : Int32).toNatClampNeg = 8 := nI_clamp (n := 8) (by decide)
theorem vi_t {k n : Nat} (h : k < n) (hn : n < 2 ^ 31) : vp_in (nI k) n = True := eq_true (vp_in_nI h hn)
theorem hw_v {I : Nat → Nat → Int32} {o j q i : Nat} {v : Int32} : hw_ I o j v q i = if q = o ∧ i = j then v else I q i := by
  by_cases h : q = o
  · subst h
    by_cases h2 : i = j
    · subst h2; simp [hw_, upd]
    · simp [hw_, upd, h2]
  · simp [hw_, h]
theorem gd_l {α : Type} {l l2 : List α} {i : Nat} {d : α} (h : i < l.length) : (l ++ l2).getD i d = l.getD i d := by
  simp only [List.getD_eq_getElem?_getD, List.getElem?_append_left h]
theorem gd_n {α : Type} {l : List α} {v d : α} : (l ++ [v]).getD l.length d = v := by simp [List.getD_eq_getElem?_getD]
theorem gd_t {α : Type} {l : List α} {i k : Nat} {d : α} (h : i < k) : (l.take k).getD i d = l.getD i d := by
  simp only [List.getD_eq_getElem?_getD, List.getElem?_take_of_lt h]
section FQ
variable {F A F2 A2 : List Nat} {I I1 I2 I3 : Nat → Nat → Int32}
theorem fq_rf : fq_ F A I I := fun _ _ _ _ => rfl
theorem fq_tr (h1 : fq_ F A I I2) (h2 : fq_ F A I2 I3) : fq_ F A I I3 := fun q j a b => (h2 q j a b).trans (h1 q j a b)
theorem fq_mo (h : fq_ F A I I2) (hF : ∀ x ∈ F, x ∈ F2) (hA : ∀ x ∈ A, x ∈ A2) : fq_ F2 A2 I I2 := fun q j a b => h q j (fun e m => a e (hF _ m)) (fun m => b (hA _ m))
theorem fq_w {j : Nat} {v : Int32} (h : fq_ F A I I1) (hj : j ∈ F) : fq_ F A I (hw_ I1 69 j v) := fun q i h1 h2 => by
  rw [hw_v, if_neg (fun e => h1 e.1 (by rw [e.2]; exact hj))]; exact h q i h1 h2
theorem fq_wa {a j : Nat} {v : Int32} (h : fq_ F A I I1) (ha : a ∈ A) : fq_ F A I (hw_ I1 a j v) := fun q i h1 h2 => by
  rw [hw_v, if_neg (fun e => h2 (by rw [e.1]; exact ha))]; exact h q i h1 h2
theorem fq_f (h : fq_ F A I I2) {j : Nat} (h1 : ¬ j ∈ F) (h2 : ¬ 69 ∈ A) : I2 69 j = I 69 j := h 69 j (fun _ => h1) h2
theorem fq_a (h : fq_ F A I I2) {q : Nat} (h1 : q ≠ 69) (h2 : ¬ q ∈ A) : I2 q = I q := funext fun j => h q j (fun e => absurd e h1) h2
theorem fq_h (h : fq_ F A I I2) (hA : ∀ q ∈ A, 69 ≤ q) : fh_ I I2 := fun q hq => fq_a h (by omega) (fun m => by have := hA q m; omega)
theorem fh_rf : fh_ I I := fun _ _ => rfl
theorem fh_tr (h1 : fh_ I I2) (h2 : fh_ I2 I3) : fh_ I I3 := fun q a => (h2 q a).trans (h1 q a)
theorem mn_fq {a c : Nat} {xs : List Nat} (h : mn_ I a c xs) (hf : fq_ F A I I2) (h1 : ¬ c ∈ F) (h2 : ¬ a ∈ A) (h3 : a ≠ 69) (h4 : ¬ 69 ∈ A) : mn_ I2 a c xs := ⟨by rw [fq_f hf h1 h4]; exact h.1, fun i hi => by rw [fq_a hf h3 h2]; exact h.2 i hi⟩
theorem md_fq {ds : List (List (Nat × Nat))} (h : md_ I ds) (hf : fq_ F A I I2) (h1 : ¬ 41 ∈ F) (h2 : ¬ 86 ∈ A ∧ ¬ 87 ∈ A ∧ ¬ 88 ∈ A) (h4 : ¬ 69 ∈ A) : md_ I2 ds := by
  refine ⟨by rw [fq_f hf h1 h4]; exact h.1, h.2.1, fun k d hd => ?_⟩
  obtain ⟨g1, g2, g3, g4⟩ := h.2.2 k d hd
  rw [fq_a hf (q := 86) (by decide) h2.1, fq_a hf (q := 87) (by decide) h2.2.1, fq_a hf (q := 88) (by decide) h2.2.2]
  exact ⟨g1, g2, g3, g4⟩
theorem msk_eq {k : Nat} {o : sh_T} (h : msk_ I k o) (h1 : I2 89 = I 89) (h2 : I2 90 = I 90) (h3 : I2 91 = I 91) : msk_ I2 k o := by
  cases o with
  | none => unfold msk_ at *; rw [h1]; exact h
  | some q => unfold msk_ at *; rw [h1, h2, h3]; exact h
theorem ms_fq {sh : Nat → sh_T} (h : ms_ I sh) (hf : fq_ F A I I2) (h2 : ¬ 89 ∈ A ∧ ¬ 90 ∈ A ∧ ¬ 91 ∈ A) : ms_ I2 sh := fun k hk => msk_eq (h k hk) (fq_a hf (by decide) h2.1) (fq_a hf (by decide) h2.2.1) (fq_a hf (by decide) h2.2.2)
theorem mk_fq (h : mk_ I) (hf : fq_ F A I I2) (h2 : ¬ 71 ∈ A ∧ ¬ 72 ∈ A ∧ ¬ 73 ∈ A ∧ ¬ 74 ∈ A ∧ ¬ 75 ∈ A) : mk_ I2 := by
  unfold mk_ at *
  rw [fq_a hf (q := 71) (by decide) h2.1, fq_a hf (q := 72) (by decide) h2.2.1, fq_a hf (q := 73) (by decide) h2.2.2.1, fq_a hf (q := 74) (by decide) h2.2.2.2.1, fq_a hf (q := 75) (by decide) h2.2.2.2.2]
  exact h
theorem uq_fq {u : Nat → Nat} (h : uq_ I 75 u) (hf : fq_ F A I I2) (h2 : ¬ 76 ∈ A) : uq_ I2 75 u := fun j hj => by rw [fq_a hf (q := 75 + 1) (by decide) h2]; exact h j hj
variable {tp : List Nat} {fl : Nat} {u : Nat → Nat} {wr gp : List Nat} {ds : List (List (Nat × Nat))} {sh : Nat → sh_T} {tn : Int32}
def pq_ (F A : List Nat) : Prop := (∀ j ∈ [1, 2, 18, 22, 41, 49], ¬ j ∈ F) ∧ ∀ q ∈ [69, 70, 71, 72, 73, 74, 75, 76, 78, 80, 86, 87, 88, 89, 90, 91], ¬ q ∈ A
/-- what is asked leaves what is held -/
theorem im_fq (h : im_ I tp fl u wr gp ds sh tn) (hf : fq_ F A I I2) (hp : pq_ F A) : im_ I2 tp fl u wr gp ds sh tn := by
  obtain ⟨g1, g2, g3, g4, g5, g6, g7, g8, g9⟩ := h
  obtain ⟨p1, p2⟩ := hp
  exact ⟨mn_fq g1 hf (p1 _ (by decide)) (p2 _ (by decide)) (by decide) (p2 _ (by decide)), by rw [fq_f hf (p1 2 (by decide)) (p2 _ (by decide))]; exact g2, uq_fq g3 hf (p2 _ (by decide)), mn_fq g4 hf (p1 _ (by decide)) (p2 _ (by decide)) (by decide) (p2 _ (by decide)), mn_fq g5 hf (p1 _ (by decide)) (p2 _ (by decide)) (by decide) (p2 _ (by decide)), md_fq g6 hf (p1 _ (by decide)) ⟨p2 _ (by decide), p2 _ (by decide), p2 _ (by decide)⟩ (p2 _ (by decide)), ms_fq g7 hf ⟨p2 _ (by decide), p2 _ (by decide), p2 _ (by decide)⟩, by rw [fq_f hf (p1 49 (by decide)) (p2 _ (by decide))]; exact g8, mk_fq g9 hf ⟨p2 _ (by decide), p2 _ (by decide), p2 _ (by decide), p2 _ (by decide), p2 _ (by decide)⟩⟩
theorem im_70 (h : im_ I tp fl u wr gp ds sh tn) (hf : fq_ [1] [70] I I2) {tp' : List Nat} (hx : mn_ I2 70 1 tp') : im_ I2 tp' fl u wr gp ds sh tn := by
  obtain ⟨g1, g2, g3, g4, g5, g6, g7, g8, g9⟩ := h
  exact ⟨hx, by rw [fq_f hf (by decide) (by decide)]; exact g2, uq_fq g3 hf (by decide), mn_fq g4 hf (by decide) (by decide) (by decide) (by decide), mn_fq g5 hf (by decide) (by decide) (by decide) (by decide), md_fq g6 hf (by decide) (by decide) (by decide), ms_fq g7 hf (by decide), by rw [fq_f hf (by decide) (by decide)]; exact g8, mk_fq g9 hf (by decide)⟩
theorem im_78 (h : im_ I tp fl u wr gp ds sh tn) (hf : fq_ [18] [78] I I2) {wr' : List Nat} (hx : mn_ I2 78 18 wr') : im_ I2 tp fl u wr' gp ds sh tn := by
  obtain ⟨g1, g2, g3, g4, g5, g6, g7, g8, g9⟩ := h
  exact ⟨mn_fq g1 hf (by decide) (by decide) (by decide) (by decide), by rw [fq_f hf (by decide) (by decide)]; exact g2, uq_fq g3 hf (by decide), hx, mn_fq g5 hf (by decide) (by decide) (by decide) (by decide), md_fq g6 hf (by decide) (by decide) (by decide), ms_fq g7 hf (by decide), by rw [fq_f hf (by decide) (by decide)]; exact g8, mk_fq g9 hf (by decide)⟩
/-- gaps are others; numbers that nobody keeps may be others -/
theorem im_80 (h : im_ I tp fl u wr gp ds sh tn) (hf : fq_ F A I I2) (hp : (∀ j ∈ [1, 2, 18, 41, 49], ¬ j ∈ F) ∧ ∀ q ∈ [69, 70, 71, 72, 73, 74, 75, 76, 78, 86, 87, 88, 89, 90, 91], ¬ q ∈ A) {gp' : List Nat} (hx : mn_ I2 80 22 gp') : im_ I2 tp fl u wr gp' ds sh tn := by
  obtain ⟨g1, g2, g3, g4, g5, g6, g7, g8, g9⟩ := h
  obtain ⟨p1, p2⟩ := hp
  exact ⟨mn_fq g1 hf (p1 _ (by decide)) (p2 _ (by decide)) (by decide) (p2 _ (by decide)), by rw [fq_f hf (p1 2 (by decide)) (p2 _ (by decide))]; exact g2, uq_fq g3 hf (p2 _ (by decide)), mn_fq g4 hf (p1 _ (by decide)) (p2 _ (by decide)) (by decide) (p2 _ (by decide)), hx, md_fq g6 hf (p1 _ (by decide)) ⟨p2 _ (by decide), p2 _ (by decide), p2 _ (by decide)⟩ (p2 _ (by decide)), ms_fq g7 hf ⟨p2 _ (by decide), p2 _ (by decide), p2 _ (by decide)⟩, by rw [fq_f hf (p1 49 (by decide)) (p2 _ (by decide))]; exact g8, mk_fq g9 hf ⟨p2 _ (by decide), p2 _ (by decide), p2 _ (by decide), p2 _ (by decide), p2 _ (by decide)⟩⟩
/-- what the class does leaves the reference, and the other way round -/
theorem im_ff (h : im_ I tp fl u wr gp ds sh tn) (hf : ff_ 0 69 I I2) : im_ I2 tp fl u wr gp ds sh tn := by
  have e : ∀ q, 69 ≤ q → I2 q = I q := fun q hq => hf q (by omega)
  have hq : fq_ [] (List.range 69) I I2 := fun q j _ h2 => by rw [e q (by rw [List.mem_range] at h2; omega)]
  exact im_fq h hq ⟨(fun j _ m => absurd m (by simp)), by decide⟩
theorem ic_fh (h : ic_ I tp fl u wr gp ds sh tn) (hf : fh_ I I2) : ic_ I2 tp fl u wr gp ds sh tn := by
  obtain ⟨⟨h1, h2, h3, h4, h5, h6, h7, h8⟩, hs⟩ := h
  refine ⟨⟨rn_eq h1 (hf _ (by omega)) (hf _ (by omega)), by rw [hf 0 (by omega)]; exact h2, fun j hj => by rw [hf 2 (by omega)]; exact h3 j hj, rn_eq h4 (hf _ (by omega)) (hf _ (by omega)), rn_eq h5 (hf _ (by omega)) (hf _ (by omega)), ?_, ?_, by rw [hf 0 (by omega)]; exact h8⟩, sc_o hs (fun q hq => hf q (by omega))⟩
  · exact ⟨by rw [hf 36 (by omega)]; exact h6.1, h6.2.1, fun k hk => by
      obtain ⟨d, g1, g2⟩ := h6.2.2 k hk
      exact ⟨d, dv_eq g1 (hf _ (by omega)) (hf _ (by omega)) (hf _ (by omega)), g2⟩⟩
  · exact fun k hk => sk_eq (h7 k hk) (hf _ (by omega)) (hf _ (by omega)) (hf _ (by omega))
/-- a row of the reference grows, is cut, is altered -/
theorem mn_push {a c v L : Nat} {xs : List Nat} (hx : mn_ I a c xs) (ha : a ≠ 69) (hL : xs.length = L) : mn_ (hw_ (hw_ I a L (nI v)) 69 c (nI (L + 1))) a c (xs ++ [v]) := by
  subst hL
  refine ⟨by rw [hw_s]; simp, fun i hi => ?_⟩
  rw [hw_o ha]
  by_cases e : i = xs.length
  · subst e; rw [hw_s, gd_n]
  · have : i < xs.length := by simp at hi; omega
    rw [hw_i e, gd_l this]; exact hx.2 i this
theorem mn_take {a c k : Nat} {xs : List Nat} (hx : mn_ I a c xs) (ha : a ≠ 69) (hk : k ≤ xs.length) : mn_ (hw_ I 69 c (nI k)) a c (xs.take k) := by
  have e : (xs.take k).length = k := by simp [Nat.min_eq_left hk]
  refine ⟨by rw [hw_s, e], fun i hi => ?_⟩
  rw [e] at hi
  rw [hw_o ha, gd_t hi]
  exact hx.2 i (by omega)
theorem mn_nil {a c : Nat} (ha : a ≠ 69) : mn_ (hw_ I 69 c 0) a c [] := ⟨by rw [hw_s]; rfl, fun i hi => by simp at hi⟩
theorem mn_set {a c k v : Nat} {xs : List Nat} (hx : mn_ I a c xs) (ha : a ≠ 69) : mn_ (hw_ I a k (nI v)) a c (xs.set k v) := by
  refine ⟨by rw [hw_o (Ne.symm ha), List.length_set]; exact hx.1, fun i hi => ?_⟩
  rw [List.length_set] at hi
  by_cases e : i = k
  · subst e; rw [hw_s]; simp [List.getD_eq_getElem?_getD, hi]
  · rw [hw_i e, hx.2 i hi]; simp [List.getD_eq_getElem?_getD, List.getElem?_set_ne (Ne.symm e)]
end FQ
/-- within bounds, by longs -/
def lb_ (lo hi v : Int64) : Int32 := if v < lo then 0 else if hi < v then 0 else 1
theorem tm_in {h : jw_H} {K : jw_K} (v lo hi : Int64) (hK : K (some (.int (lb_ lo hi v))) h) : cc_11_in [.long v, .long lo, .long hi] h K := by
  refine jw_Cin (Nat.le_of_ble_eq_true rfl) rfl (fun P hP => hP _ _ _ _ _ ?_)
  simp only [qq_11_in, bb_11_in_18, bb_11_in_17, bb_11_in_0, xo_il, xo_ll, xo_al, xo_is, xo_ls, xo_as, xo_ic, xo_ci, xo_cl, xo_iadd, xo_isub, xo_imul, xo_iand, xo_ior, xo_ixor, xo_ishl, xo_ishr, xo_iushr, xo_idiv, xo_irem, xo_ineg, xo_ladd, xo_lsub, xo_lmul, xo_land, xo_lor, xo_lxor, xo_ldiv, xo_lrem, xo_lneg, xo_lushr, xo_lshl, xo_lshr, xo_lcmp, xo_i2l, xo_l2i, xo_i2b, xo_i2s, xo_i2c, xo_dup, xo_pop, xo_zeq, xo_ceq, xo_zne, xo_cne, xo_zlt, xo_clt, xo_zge, xo_cge, xo_zgt, xo_cgt, xo_zle, xo_cle, xo_sw, xo_ts, xo_gf, xo_pfi, xo_pfl, xo_pfz, xo_pfr, xo_iald, xo_iast, xo_zast, xo_zald, xo_alen, xo_aald, xo_gs, xo_cv, xo_cs, xo_ca, xo_obj, xo_ri, xo_rz, xo_rl, xo_ra, xo_rc, xo_rb, xo_rv, xo_new, xo_newa, xo_anew, xo_aast, xo_mmax, xo_mmin, xo_mabs, xo_mmaxL, xo_mabsL, jw_ge, jw_st, jw_st2, jw_se, jw_un, jw_kk, jw_pp, jw_l4, jw_l1, jw_ps, jw_en, jw_N, jw_C, List.map_cons, List.map_nil, ↓reduceIte, Nat.reduceSub, Nat.reduceAdd, Nat.reduceEqDiff, Nat.reduceLeDiff, Nat.le_refl, Nat.zero_le, true_and, and_true, true_or, or_true, false_or, or_false, false_imp_iff, true_imp_iff, not_true_eq_false, not_false_eq_true, nI_0, nb_1, fa_10, fa_01, lg_cmp_lt, lg_cmp_gt]
  unfold lb_ at hK
  refine ⟨fun q => ?_, fun q => ⟨fun q2 => ?_, fun q2 => ?_⟩⟩
  · rw [if_pos q] at hK; exact hK
  · rw [if_neg q, if_pos q2] at hK; exact hK
  · rw [if_neg q, if_neg q2] at hK; exact hK
theorem lb_z (a b v : Int32) : lb_ a.toInt64 b.toInt64 v.toInt64 = bz_ a b v := by
  have e : ∀ x y : Int32, (x.toInt64 < y.toInt64) = (x < y) := fun x y => propext (by rw [Int64.lt_iff_toInt_lt, Int32.lt_iff_toInt_lt, Int32.toInt_toInt64, Int32.toInt_toInt64])
  unfold lb_ bz_
  simp only [e]
theorem tm_inz {h : jw_H} {K : jw_K} {v a b : Int32} {A B : Int64} (hA : A = a.toInt64) (hB : B = b.toInt64) (hK : K (some (.int (bz_ a b v))) h) : cc_11_in [.long v.toInt64, .long A, .long B] h K := by
  subst hA hB
  exact tm_in _ _ _ (by rw [lb_z]; exact hK)
/-- 0 to one less than n -/
theorem bz_n1 {n : Nat} {v : Int32} (hn : n < 2 ^ 30) : bz_ 0 (nI n - 1) v = hx_ (ix_ n v) := by
  cases n with
  | zero =>
    have : nI 0 - 1 = -1 := by decide
    rw [this]
    unfold bz_ ix_ hx_
    by_cases h : v < 0
    · rw [if_pos h, if_pos h]
    · rw [if_neg h, if_neg h, if_pos (Nat.zero_le _), if_pos]
      exact Int32.lt_of_lt_of_le (by decide : (-1 : Int32) < 0) (Int32.not_lt.mp h)
  | succ n => rw [nI_pred]; exact bz_ix (by omega)
/-- 1 to one less than n -/
theorem bz_m1 {n : Nat} {v : Int32} (hn : n < 2 ^ 30) : bz_ 1 (nI n - 1) v = match ix_ n v with
    | none => 0
    | some w => if w = 0 then 0 else 1 := by
  cases h : ix_ n v with
  | none =>
    have h0 := bz_n1 (v := v) hn
    rw [h] at h0
    unfold bz_ at h0 ⊢
    by_cases q1 : v < 1
    · rw [if_pos q1]
    · rw [if_neg q1]
      rw [if_neg (fun q => q1 (Int32.lt_of_lt_of_le q (by decide)))] at h0
      exact h0
  | some w =>
    obtain ⟨rfl, hw⟩ := ix_s h
    have e1 : (nI w < 1) = (w < 1) := propext (nI_ltI (b := 1) (by omega) (by omega))
    have e2 : (nI n - 1 < nI w) = False := eq_false (by
      rw [← nb_1, pk_sub (by omega)]
      exact nI_nlt (by omega) (by omega))
    unfold bz_
    simp only [e1, e2, if_false]
    by_cases q : w = 0
    · subst q; simp
    · rw [if_neg (by omega), if_neg q]
