/-! draws joined -/
def wp_ (ds : List (List (Nat × Nat))) (n : Nat) : Nat := ds.countP (fun d => decide (d.length = n))
def vo_ (ds : List (List (Nat × Nat))) (n p : Nat) : Nat := ds.countP (fun d => decide (d.length = n ∧ (d.getD p (0, 0)).2 = 1))
def vf_ (ds : List (List (Nat × Nat))) (n p v : Nat) : Nat := ds.countP (fun d => decide (d.length = n ∧ (d.getD p (0, 0)).2 = 1 ∧ (d.getD p (0, 0)).1 = v))
theorem cp_s {ds : List (List (Nat × Nat))} {f : List (Nat × Nat) → Bool} {k : Nat} (hk : k < ds.length) : (ds.take (k + 1)).countP f = (ds.take k).countP f + if f (ds.getD k []) = true then 1 else 0 := by
  rw [List.take_succ_eq_append_getElem hk, List.countP_append, List.countP_singleton, show ds.getD k [] = ds[k] by simp [List.getD, hk]]
theorem cp_le {ds : List (List (Nat × Nat))} {f : List (Nat × Nat) → Bool} : ds.countP f ≤ ds.length := List.countP_le_length
def ps_ (ds : List (List (Nat × Nat))) (a : Nat × Nat) (n : Nat) : Nat × Nat := if 0 < wp_ ds n ∧ a.2 ≤ wp_ ds n then (n, wp_ ds n) else a
def pl_ (ds : List (List (Nat × Nat))) (m : Nat) : Nat × Nat := (List.range m).foldl (ps_ ds) (0, 0)
def fs_ (f : Nat → Nat) (a : Int32 × Nat) (v : Nat) : Int32 × Nat := if a.2 < f v then (nI v, f v) else a
def fv_ (f : Nat → Nat) (m : Nat) : Int32 × Nat := (List.range m).foldl (fs_ f) (-4, 0)
theorem rs_f {α : Type} (f : α → Nat → α) (a : α) (m : Nat) : (List.range (m + 1)).foldl f a = f ((List.range m).foldl f a) m := by rw [List.range_succ, List.foldl_append]; rfl
theorem pl_s (ds : List (List (Nat × Nat))) (m : Nat) : pl_ ds (m + 1) = ps_ ds (pl_ ds m) m := rs_f _ _ _
theorem fv_s (f : Nat → Nat) (m : Nat) : fv_ f (m + 1) = fs_ f (fv_ f m) m := rs_f _ _ _
theorem pl_in (ds : List (List (Nat × Nat))) : ∀ m, (pl_ ds m).1 ≤ m ∧ (pl_ ds m).2 ≤ ds.length
  | 0 => by simp [pl_]
  | m + 1 => by
    have h := pl_in ds m
    rw [pl_s]
    unfold ps_
    split
    · exact ⟨by simp, cp_le⟩
    · exact ⟨by omega, h.2⟩
theorem pl_2 (ds : List (List (Nat × Nat))) : ∀ m, (pl_ ds (m + 1)).2 = wp_ ds (pl_ ds (m + 1)).1
  | 0 => by
    rw [pl_s]
    unfold ps_ pl_
    split
    · rfl
    · rename_i h
      simp only [List.range_zero, List.foldl_nil] at h ⊢
      omega
  | m + 1 => by
    have h := pl_2 ds m
    rw [pl_s]
    unfold ps_
    split
    · rfl
    · exact h
theorem pl_33 (ds : List (List (Nat × Nat))) : (pl_ ds 33).1 ≤ 32 := by
  have h := (pl_in ds 32).1
  rw [pl_s]
  unfold ps_
  split
  · exact Nat.le_refl _
  · exact h
/-- sums over what is voted -/
def sm2_ (f : Nat → Nat) : Nat → Nat
  | 0 => 0
  | n + 1 => sm2_ f n + f n
def kn_ (f : Nat → Nat) : Nat → Nat
  | 0 => 0
  | n + 1 => kn_ f n + if 0 < f n then 1 else 0
theorem kn_0 (f : Nat → Nat) : ∀ n, 0 < sm2_ f n ↔ 0 < kn_ f n
  | 0 => by simp [sm2_, kn_]
  | n + 1 => by
    have h := kn_0 f n
    simp only [sm2_, kn_]
    split <;> omega
theorem kn_1 (f : Nat → Nat) {v0 : Nat} (h0 : 0 < f v0) : ∀ n, v0 < n → (f v0 < sm2_ f n ↔ 1 < kn_ f n)
  | 0, h => by omega
  | n + 1, h => by
    simp only [sm2_, kn_]
    by_cases hv : v0 = n
    · subst hv
      have h1 := kn_0 f v0
      rw [if_pos h0]
      omega
    · have h1 := kn_1 f h0 n (by omega)
      have h2 := kn_0 f n
      have h3 : f v0 ≤ sm2_ f n := by
        have : ∀ m, v0 < m → f v0 ≤ sm2_ f m := by
          intro m
          induction m with
          | zero => intro h; omega
          | succ m ih =>
            intro h
            simp only [sm2_]
            by_cases hm : v0 = m
            · subst hm; omega
            · have := ih (by omega); omega
        exact this n (by omega)
      split <;> omega
theorem fv_c (f : Nat → Nat) : ∀ m, m ≤ 64 → (fv_ f m = (-4, 0) ∧ ∀ v, v < m → f v = 0) ∨ ∃ v0, v0 < m ∧ 0 < f v0 ∧ fv_ f m = (nI v0, f v0)
  | 0, _ => Or.inl ⟨rfl, fun v h => by omega⟩
  | m + 1, hm => by
    rw [fv_s]
    rcases fv_c f m (by omega) with ⟨h1, h2⟩ | ⟨v0, h1, h2, h3⟩
    · rw [h1]
      unfold fs_
      split
      · rename_i h
        exact Or.inr ⟨m, by omega, h, rfl⟩
      · rename_i h
        refine Or.inl ⟨rfl, fun v hv => ?_⟩
        by_cases hvm : v = m
        · subst hvm; simp only at h; omega
        · exact h2 v (by omega)
    · rw [h3]
      unfold fs_
      split
      · rename_i h
        exact Or.inr ⟨m, by omega, by simp only at h; omega, rfl⟩
      · exact Or.inr ⟨v0, by omega, h2, rfl⟩
theorem sm_add (f g : Nat → Nat) : ∀ n, sm2_ (fun v => f v + g v) n = sm2_ f n + sm2_ g n
  | 0 => rfl
  | n + 1 => by simp only [sm2_, sm_add f g n]; omega
theorem sm_ind (c : Nat) : ∀ n, sm2_ (fun v => if c = v then 1 else 0) n = if c < n then 1 else 0
  | 0 => by simp [sm2_]
  | n + 1 => by
    simp only [sm2_, sm_ind c n]
    split <;> split <;> split <;> omega
theorem sm_zero : ∀ n, sm2_ (fun _ => 0) n = 0
  | 0 => rfl
  | n + 1 => by simp only [sm2_, sm_zero n]
theorem vo_sm {n p : Nat} : ∀ (ds : List (List (Nat × Nat))), (∀ d ∈ ds, ∀ x ∈ d, x.1 < 64) → sm2_ (vf_ ds n p) 64 = vo_ ds n p
  | [], _ => by
    have e : vf_ [] n p = fun _ => 0 := by funext v; rfl
    rw [e, sm_zero]; rfl
  | d :: ds, h => by
    have ih := vo_sm (n := n) (p := p) ds (fun q hq => h q (List.mem_cons_of_mem _ hq))
    have h64 : (d.getD p (0, 0)).1 < 64 := by
      by_cases hp : p < d.length
      · rw [show d.getD p (0, 0) = d[p] by simp [List.getD, hp]]
        exact h d List.mem_cons_self _ (List.getElem_mem hp)
      · simp [List.getD, List.getElem?_eq_none (by omega : d.length ≤ p)]
    by_cases hc : d.length = n ∧ (d.getD p (0, 0)).2 = 1
    · have e : vf_ (d :: ds) n p = fun v => vf_ ds n p v + if (d.getD p (0, 0)).1 = v then 1 else 0 := by
        funext v
        simp only [vf_, List.countP_cons, hc, true_and, decide_eq_true_eq]
      rw [e, sm_add, ih, sm_ind, if_pos h64]
      simp only [vo_, List.countP_cons, hc, and_self, decide_true, if_true, true_and]
    · have e : vf_ (d :: ds) n p = vf_ ds n p := by
        funext v
        have hc2 : ¬ (d.length = n ∧ (d.getD p (0, 0)).2 = 1 ∧ (d.getD p (0, 0)).1 = v) := fun q => hc ⟨q.1, q.2.1⟩
        simp only [vf_, List.countP_cons, hc2, decide_false, Bool.false_eq_true, if_false, Nat.add_zero]
      rw [e, ih]
      simp only [vo_, List.countP_cons, hc, decide_false, Bool.false_eq_true, if_false, Nat.add_zero]
theorem bf4_ne {x : Nat} (hx : x < 2 ^ 31) : (nI x = -4) = False := eq_false (fun q => by have := nI_pos hx; rw [q] at this; exact this (by decide))
theorem dv_b {I : Nat → Nat → Int32} {k : Nat} {d : List (Nat × Nat)} (hd : dv_ I k d) (p : Nat) : (d.getD p (0, 0)).1 < 64 ∧ (d.getD p (0, 0)).2 ≤ 1 := by
  by_cases hp : p < d.length
  · rw [show d.getD p (0, 0) = d[p] by simp [List.getD, hp]]
    exact hd.2.2.2 _ (List.getElem_mem hp)
  · simp [List.getD, List.getElem?_eq_none (by omega : d.length ≤ p)]
section VT
variable {I : Nat → Nat → Int32} {J : Nat → Nat → Int64} {K : jw_K} {ds : List (List (Nat × Nat))} {n p v : Nat}
theorem tt_1_withPlaces (h : ds_ I ds) (hn : n ≤ 1000) (hK : K (some (.int (nI (wp_ ds n)))) (hp_ I J)) : cc_1_withPlaces [.ref 36, .int (nI n)] (hp_ I J) K := by
  refine jw_Cin (Nat.le_of_ble_eq_true rfl) rfl (fun P hP => ?_)
  have h6 := h.2.1
  have lp : ∀ (m k : Nat), ds.length = k + m → P 4 [.ref 36, .int (nI n), .int (nI (wp_ (ds.take k) n)), .int (nI k)] [] (hp_ I J) (0, 0) := by
    intro m
    induction m with
    | zero =>
      intro k hk
      have hle : nI ds.length ≤ nI k := (nI_leI (by omega) (by omega)).mpr (by omega)
      refine hP _ _ _ _ _ ?_
      simp only [qq_1_withPlaces, bb_1_withPlaces_34, bb_1_withPlaces_4, bb_1_withPlaces_0, xo_il, xo_ll, xo_al, xo_is, xo_ls, xo_as, xo_ic, xo_ci, xo_cl, xo_iadd, xo_isub, xo_imul, xo_iand, xo_ior, xo_ixor, xo_ishl, xo_ishr, xo_iushr, xo_idiv, xo_irem, xo_ineg, xo_ladd, xo_lsub, xo_lmul, xo_land, xo_lor, xo_lxor, xo_ldiv, xo_lrem, xo_lneg, xo_lushr, xo_lshl, xo_lshr, xo_lcmp, xo_i2l, xo_l2i, xo_i2b, xo_i2s, xo_i2c, xo_dup, xo_pop, xo_zeq, xo_ceq, xo_zne, xo_cne, xo_zlt, xo_clt, xo_zge, xo_cge, xo_zgt, xo_cgt, xo_zle, xo_cle, xo_sw, xo_ts, xo_gf, xo_pfi, xo_pfl, xo_pfz, xo_pfr, xo_iald, xo_iast, xo_zast, xo_zald, xo_alen, xo_aald, xo_gs, xo_cv, xo_cs, xo_ca, xo_obj, xo_ri, xo_rz, xo_rl, xo_ra, xo_rc, xo_rb, xo_rv, xo_new, xo_newa, xo_anew, xo_aast, xo_mmax, xo_mmin, xo_mabs, xo_mmaxL, xo_mabsL, jw_ge, jw_st, jw_st2, jw_se, jw_un, jw_kk, jw_pp, jw_l4, jw_l1, jw_ps, jw_en, jw_N, jw_C, List.map_cons, List.map_nil, ↓reduceIte, Nat.reduceSub, Nat.reduceAdd, Nat.reduceEqDiff, Nat.reduceLeDiff, Nat.le_refl, Nat.zero_le, true_and, and_true, true_or, or_true, false_or, or_false, false_imp_iff, true_imp_iff, not_true_eq_false, not_false_eq_true, nI_0, nb_1, fa_10, fa_01, hg_36_0, hg_36_1, hq_36_1, hi_36, h.1, hle]
      rw [List.take_of_length_le (by omega)]
      exact hK
    | succ m ih =>
      intro k hk
      have hle : ¬ nI ds.length ≤ nI k := (nu_gt (by omega) (by omega)).mpr (by omega)
      have hd := ds_at h (show k < ds.length by omega)
      have hk6 : k < 6 := by omega
      have hw := cp_s (ds := ds) (f := fun d => decide (d.length = n)) (show k < ds.length by omega)
      refine hP _ _ _ _ _ ?_
      simp only [qq_1_withPlaces, bb_1_withPlaces_34, bb_1_withPlaces_4, bb_1_withPlaces_0, xo_il, xo_ll, xo_al, xo_is, xo_ls, xo_as, xo_ic, xo_ci, xo_cl, xo_iadd, xo_isub, xo_imul, xo_iand, xo_ior, xo_ixor, xo_ishl, xo_ishr, xo_iushr, xo_idiv, xo_irem, xo_ineg, xo_ladd, xo_lsub, xo_lmul, xo_land, xo_lor, xo_lxor, xo_ldiv, xo_lrem, xo_lneg, xo_lushr, xo_lshl, xo_lshr, xo_lcmp, xo_i2l, xo_l2i, xo_i2b, xo_i2s, xo_i2c, xo_dup, xo_pop, xo_zeq, xo_ceq, xo_zne, xo_cne, xo_zlt, xo_clt, xo_zge, xo_cge, xo_zgt, xo_cgt, xo_zle, xo_cle, xo_sw, xo_ts, xo_gf, xo_pfi, xo_pfl, xo_pfz, xo_pfr, xo_iald, xo_iast, xo_zast, xo_zald, xo_alen, xo_aald, xo_gs, xo_cv, xo_cs, xo_ca, xo_obj, xo_ri, xo_rz, xo_rl, xo_ra, xo_rc, xo_rb, xo_rv, xo_new, xo_newa, xo_anew, xo_aast, xo_mmax, xo_mmin, xo_mabs, xo_mmaxL, xo_mabsL, jw_ge, jw_st, jw_st2, jw_se, jw_un, jw_kk, jw_pp, jw_l4, jw_l1, jw_ps, jw_en, jw_N, jw_C, List.map_cons, List.map_nil, ↓reduceIte, Nat.reduceSub, Nat.reduceAdd, Nat.reduceEqDiff, Nat.reduceLeDiff, Nat.le_refl, Nat.zero_le, true_and, and_true, true_or, or_true, false_or, or_false, false_imp_iff, true_imp_iff, not_true_eq_false, not_false_eq_true, nI_0, nb_1, fa_10, fa_01, hg_36_0, hg_36_1, hq_36_1, hi_36, h.1, hle, hk_37, vi_6 hk6, nI_clamp (show k < 2 ^ 31 by omega), hk6, hd_i hk6]
      refine tt_0_size hk6 hd ?_
      have hl := hd.2.1
      simp only [qq_1_withPlaces, bb_1_withPlaces_34, bb_1_withPlaces_28, bb_1_withPlaces_4, bb_1_withPlaces_0, xo_il, xo_ll, xo_al, xo_is, xo_ls, xo_as, xo_ic, xo_ci, xo_cl, xo_iadd, xo_isub, xo_imul, xo_iand, xo_ior, xo_ixor, xo_ishl, xo_ishr, xo_iushr, xo_idiv, xo_irem, xo_ineg, xo_ladd, xo_lsub, xo_lmul, xo_land, xo_lor, xo_lxor, xo_ldiv, xo_lrem, xo_lneg, xo_lushr, xo_lshl, xo_lshr, xo_lcmp, xo_i2l, xo_l2i, xo_i2b, xo_i2s, xo_i2c, xo_dup, xo_pop, xo_zeq, xo_ceq, xo_zne, xo_cne, xo_zlt, xo_clt, xo_zge, xo_cge, xo_zgt, xo_cgt, xo_zle, xo_cle, xo_sw, xo_ts, xo_gf, xo_pfi, xo_pfl, xo_pfz, xo_pfr, xo_iald, xo_iast, xo_zast, xo_zald, xo_alen, xo_aald, xo_gs, xo_cv, xo_cs, xo_ca, xo_obj, xo_ri, xo_rz, xo_rl, xo_ra, xo_rc, xo_rb, xo_rv, xo_new, xo_newa, xo_anew, xo_aast, xo_mmax, xo_mmin, xo_mabs, xo_mmaxL, xo_mabsL, jw_ge, jw_st, jw_st2, jw_se, jw_un, jw_kk, jw_pp, jw_l4, jw_l1, jw_ps, jw_en, jw_N, jw_C, List.map_cons, List.map_nil, ↓reduceIte, Nat.reduceSub, Nat.reduceAdd, Nat.reduceEqDiff, Nat.reduceLeDiff, Nat.le_refl, Nat.zero_le, true_and, and_true, true_or, or_true, false_or, or_false, false_imp_iff, true_imp_iff, not_true_eq_false, not_false_eq_true, nI_0, nb_1, fa_10, fa_01, nI_1]
      rw [nI_eq (by omega) (by omega)]
      have ih' := ih (k + 1) (by omega)
      refine ⟨fun q => ?_, fun q => ?_⟩
      · rw [show wp_ (ds.take (k + 1)) n = wp_ (ds.take k) n by unfold wp_; rw [hw, if_neg (by simpa using q), Nat.add_zero]] at ih'
        exact ih'
      · rw [show wp_ (ds.take (k + 1)) n = wp_ (ds.take k) n + 1 by unfold wp_; rw [hw, if_pos (by simpa using q)]] at ih'
        exact ih'
  refine hP _ _ _ _ _ ?_
  simp only [qq_1_withPlaces, bb_1_withPlaces_34, bb_1_withPlaces_28, bb_1_withPlaces_0, xo_il, xo_ll, xo_al, xo_is, xo_ls, xo_as, xo_ic, xo_ci, xo_cl, xo_iadd, xo_isub, xo_imul, xo_iand, xo_ior, xo_ixor, xo_ishl, xo_ishr, xo_iushr, xo_idiv, xo_irem, xo_ineg, xo_ladd, xo_lsub, xo_lmul, xo_land, xo_lor, xo_lxor, xo_ldiv, xo_lrem, xo_lneg, xo_lushr, xo_lshl, xo_lshr, xo_lcmp, xo_i2l, xo_l2i, xo_i2b, xo_i2s, xo_i2c, xo_dup, xo_pop, xo_zeq, xo_ceq, xo_zne, xo_cne, xo_zlt, xo_clt, xo_zge, xo_cge, xo_zgt, xo_cgt, xo_zle, xo_cle, xo_sw, xo_ts, xo_gf, xo_pfi, xo_pfl, xo_pfz, xo_pfr, xo_iald, xo_iast, xo_zast, xo_zald, xo_alen, xo_aald, xo_gs, xo_cv, xo_cs, xo_ca, xo_obj, xo_ri, xo_rz, xo_rl, xo_ra, xo_rc, xo_rb, xo_rv, xo_new, xo_newa, xo_anew, xo_aast, xo_mmax, xo_mmin, xo_mabs, xo_mmaxL, xo_mabsL, jw_ge, jw_st, jw_st2, jw_se, jw_un, jw_kk, jw_pp, jw_l4, jw_l1, jw_ps, jw_en, jw_N, jw_C, List.map_cons, List.map_nil, ↓reduceIte, Nat.reduceSub, Nat.reduceAdd, Nat.reduceEqDiff, Nat.reduceLeDiff, Nat.le_refl, Nat.zero_le, true_and, and_true, true_or, or_true, false_or, or_false, false_imp_iff, true_imp_iff, not_true_eq_false, not_false_eq_true, nI_0, nb_1, fa_10, fa_01]
  exact lp ds.length 0 (by omega)
theorem tt_1_voters (h : ds_ I ds) (hn : n ≤ 1000) (hp : p < 1000) (hK : K (some (.int (nI (vo_ ds n p)))) (hp_ I J)) : cc_1_voters [.ref 36, .int (nI n), .int (nI p)] (hp_ I J) K := by
  refine jw_Cin (Nat.le_of_ble_eq_true rfl) rfl (fun P hP => ?_)
  have h6 := h.2.1
  have lp : ∀ (m k : Nat), ds.length = k + m → P 5 [.ref 36, .int (nI n), .int (nI p), .int (nI (vo_ (ds.take k) n p)), .int (nI k)] [] (hp_ I J) (0, 0) := by
    intro m
    induction m with
    | zero =>
      intro k hk
      have hle : nI ds.length ≤ nI k := (nI_leI (by omega) (by omega)).mpr (by omega)
      refine hP _ _ _ _ _ ?_
      simp only [qq_1_voters, bb_1_voters_51, bb_1_voters_5, bb_1_voters_0, xo_il, xo_ll, xo_al, xo_is, xo_ls, xo_as, xo_ic, xo_ci, xo_cl, xo_iadd, xo_isub, xo_imul, xo_iand, xo_ior, xo_ixor, xo_ishl, xo_ishr, xo_iushr, xo_idiv, xo_irem, xo_ineg, xo_ladd, xo_lsub, xo_lmul, xo_land, xo_lor, xo_lxor, xo_ldiv, xo_lrem, xo_lneg, xo_lushr, xo_lshl, xo_lshr, xo_lcmp, xo_i2l, xo_l2i, xo_i2b, xo_i2s, xo_i2c, xo_dup, xo_pop, xo_zeq, xo_ceq, xo_zne, xo_cne, xo_zlt, xo_clt, xo_zge, xo_cge, xo_zgt, xo_cgt, xo_zle, xo_cle, xo_sw, xo_ts, xo_gf, xo_pfi, xo_pfl, xo_pfz, xo_pfr, xo_iald, xo_iast, xo_zast, xo_zald, xo_alen, xo_aald, xo_gs, xo_cv, xo_cs, xo_ca, xo_obj, xo_ri, xo_rz, xo_rl, xo_ra, xo_rc, xo_rb, xo_rv, xo_new, xo_newa, xo_anew, xo_aast, xo_mmax, xo_mmin, xo_mabs, xo_mmaxL, xo_mabsL, jw_ge, jw_st, jw_st2, jw_se, jw_un, jw_kk, jw_pp, jw_l4, jw_l1, jw_ps, jw_en, jw_N, jw_C, List.map_cons, List.map_nil, ↓reduceIte, Nat.reduceSub, Nat.reduceAdd, Nat.reduceEqDiff, Nat.reduceLeDiff, Nat.le_refl, Nat.zero_le, true_and, and_true, true_or, or_true, false_or, or_false, false_imp_iff, true_imp_iff, not_true_eq_false, not_false_eq_true, nI_0, nb_1, fa_10, fa_01, hg_36_0, hg_36_1, hq_36_1, hi_36, h.1, hle]
      rw [List.take_of_length_le (by omega)]
      exact hK
    | succ m ih =>
      intro k hk
      have hle : ¬ nI ds.length ≤ nI k := (nu_gt (by omega) (by omega)).mpr (by omega)
      have hd := ds_at h (show k < ds.length by omega)
      have hk6 : k < 6 := by omega
      have hw := cp_s (ds := ds) (f := fun d => decide (d.length = n ∧ (d.getD p (0, 0)).2 = 1)) (show k < ds.length by omega)
      have ih' := ih (k + 1) (by omega)
      have no : ¬ ((ds.getD k []).length = n ∧ ((ds.getD k []).getD p (0, 0)).2 = 1) → P 5 [.ref 36, .int (nI n), .int (nI p), .int (nI (vo_ (ds.take k) n p)), .int (nI (k + 1))] [] (hp_ I J) (0, 0) := fun q => by
        rw [show vo_ (ds.take (k + 1)) n p = vo_ (ds.take k) n p by unfold vo_; rw [hw, if_neg (by simpa using q), Nat.add_zero]] at ih'
        exact ih'
      refine hP _ _ _ _ _ ?_
      simp only [qq_1_voters, bb_1_voters_51, bb_1_voters_5, bb_1_voters_0, xo_il, xo_ll, xo_al, xo_is, xo_ls, xo_as, xo_ic, xo_ci, xo_cl, xo_iadd, xo_isub, xo_imul, xo_iand, xo_ior, xo_ixor, xo_ishl, xo_ishr, xo_iushr, xo_idiv, xo_irem, xo_ineg, xo_ladd, xo_lsub, xo_lmul, xo_land, xo_lor, xo_lxor, xo_ldiv, xo_lrem, xo_lneg, xo_lushr, xo_lshl, xo_lshr, xo_lcmp, xo_i2l, xo_l2i, xo_i2b, xo_i2s, xo_i2c, xo_dup, xo_pop, xo_zeq, xo_ceq, xo_zne, xo_cne, xo_zlt, xo_clt, xo_zge, xo_cge, xo_zgt, xo_cgt, xo_zle, xo_cle, xo_sw, xo_ts, xo_gf, xo_pfi, xo_pfl, xo_pfz, xo_pfr, xo_iald, xo_iast, xo_zast, xo_zald, xo_alen, xo_aald, xo_gs, xo_cv, xo_cs, xo_ca, xo_obj, xo_ri, xo_rz, xo_rl, xo_ra, xo_rc, xo_rb, xo_rv, xo_new, xo_newa, xo_anew, xo_aast, xo_mmax, xo_mmin, xo_mabs, xo_mmaxL, xo_mabsL, jw_ge, jw_st, jw_st2, jw_se, jw_un, jw_kk, jw_pp, jw_l4, jw_l1, jw_ps, jw_en, jw_N, jw_C, List.map_cons, List.map_nil, ↓reduceIte, Nat.reduceSub, Nat.reduceAdd, Nat.reduceEqDiff, Nat.reduceLeDiff, Nat.le_refl, Nat.zero_le, true_and, and_true, true_or, or_true, false_or, or_false, false_imp_iff, true_imp_iff, not_true_eq_false, not_false_eq_true, nI_0, nb_1, fa_10, fa_01, hg_36_0, hg_36_1, hq_36_1, hi_36, h.1, hle, hk_37, vi_6 hk6, nI_clamp (show k < 2 ^ 31 by omega), hk6, hd_i hk6]
      refine tt_0_size hk6 hd ?_
      have hl := hd.2.1
      simp only [qq_1_voters, bb_1_voters_51, bb_1_voters_45, bb_1_voters_5, bb_1_voters_0, xo_il, xo_ll, xo_al, xo_is, xo_ls, xo_as, xo_ic, xo_ci, xo_cl, xo_iadd, xo_isub, xo_imul, xo_iand, xo_ior, xo_ixor, xo_ishl, xo_ishr, xo_iushr, xo_idiv, xo_irem, xo_ineg, xo_ladd, xo_lsub, xo_lmul, xo_land, xo_lor, xo_lxor, xo_ldiv, xo_lrem, xo_lneg, xo_lushr, xo_lshl, xo_lshr, xo_lcmp, xo_i2l, xo_l2i, xo_i2b, xo_i2s, xo_i2c, xo_dup, xo_pop, xo_zeq, xo_ceq, xo_zne, xo_cne, xo_zlt, xo_clt, xo_zge, xo_cge, xo_zgt, xo_cgt, xo_zle, xo_cle, xo_sw, xo_ts, xo_gf, xo_pfi, xo_pfl, xo_pfz, xo_pfr, xo_iald, xo_iast, xo_zast, xo_zald, xo_alen, xo_aald, xo_gs, xo_cv, xo_cs, xo_ca, xo_obj, xo_ri, xo_rz, xo_rl, xo_ra, xo_rc, xo_rb, xo_rv, xo_new, xo_newa, xo_anew, xo_aast, xo_mmax, xo_mmin, xo_mabs, xo_mmaxL, xo_mabsL, jw_ge, jw_st, jw_st2, jw_se, jw_un, jw_kk, jw_pp, jw_l4, jw_l1, jw_ps, jw_en, jw_N, jw_C, List.map_cons, List.map_nil, ↓reduceIte, Nat.reduceSub, Nat.reduceAdd, Nat.reduceEqDiff, Nat.reduceLeDiff, Nat.le_refl, Nat.zero_le, true_and, and_true, true_or, or_true, false_or, or_false, false_imp_iff, true_imp_iff, not_true_eq_false, not_false_eq_true, nI_0, nb_1, fa_10, fa_01, hg_36_0, hg_36_1, hq_36_1, hi_36, nI_1, hk_37, vi_6 hk6, nI_clamp (show k < 2 ^ 31 by omega), hk6, hd_i hk6]
      rw [nI_eq (by omega) (by omega)]
      refine ⟨fun q => no (fun r => q r.1), fun q => ?_⟩
      refine tt_0_isSoundAt hk6 hd hp ?_
      by_cases h2 : ((ds.getD k []).getD p (0, 0)).2 = 1
      · rw [h2]
        simp only [qq_1_voters, bb_1_voters_51, bb_1_voters_45, bb_1_voters_5, bb_1_voters_0, xo_il, xo_ll, xo_al, xo_is, xo_ls, xo_as, xo_ic, xo_ci, xo_cl, xo_iadd, xo_isub, xo_imul, xo_iand, xo_ior, xo_ixor, xo_ishl, xo_ishr, xo_iushr, xo_idiv, xo_irem, xo_ineg, xo_ladd, xo_lsub, xo_lmul, xo_land, xo_lor, xo_lxor, xo_ldiv, xo_lrem, xo_lneg, xo_lushr, xo_lshl, xo_lshr, xo_lcmp, xo_i2l, xo_l2i, xo_i2b, xo_i2s, xo_i2c, xo_dup, xo_pop, xo_zeq, xo_ceq, xo_zne, xo_cne, xo_zlt, xo_clt, xo_zge, xo_cge, xo_zgt, xo_cgt, xo_zle, xo_cle, xo_sw, xo_ts, xo_gf, xo_pfi, xo_pfl, xo_pfz, xo_pfr, xo_iald, xo_iast, xo_zast, xo_zald, xo_alen, xo_aald, xo_gs, xo_cv, xo_cs, xo_ca, xo_obj, xo_ri, xo_rz, xo_rl, xo_ra, xo_rc, xo_rb, xo_rv, xo_new, xo_newa, xo_anew, xo_aast, xo_mmax, xo_mmin, xo_mabs, xo_mmaxL, xo_mabsL, jw_ge, jw_st, jw_st2, jw_se, jw_un, jw_kk, jw_pp, jw_l4, jw_l1, jw_ps, jw_en, jw_N, jw_C, List.map_cons, List.map_nil, ↓reduceIte, Nat.reduceSub, Nat.reduceAdd, Nat.reduceEqDiff, Nat.reduceLeDiff, Nat.le_refl, Nat.zero_le, true_and, and_true, true_or, or_true, false_or, or_false, false_imp_iff, true_imp_iff, not_true_eq_false, not_false_eq_true, nI_0, nb_1, fa_10, fa_01, nI_1]
        rw [show vo_ (ds.take (k + 1)) n p = vo_ (ds.take k) n p + 1 by unfold vo_; rw [hw, if_pos (by simpa using ⟨q, h2⟩)]] at ih'
        exact ih'
      · have h0 : ((ds.getD k []).getD p (0, 0)).2 = 0 := by have := (dv_b hd p).2; omega
        rw [h0]
        simp only [qq_1_voters, bb_1_voters_51, bb_1_voters_45, bb_1_voters_5, bb_1_voters_0, xo_il, xo_ll, xo_al, xo_is, xo_ls, xo_as, xo_ic, xo_ci, xo_cl, xo_iadd, xo_isub, xo_imul, xo_iand, xo_ior, xo_ixor, xo_ishl, xo_ishr, xo_iushr, xo_idiv, xo_irem, xo_ineg, xo_ladd, xo_lsub, xo_lmul, xo_land, xo_lor, xo_lxor, xo_ldiv, xo_lrem, xo_lneg, xo_lushr, xo_lshl, xo_lshr, xo_lcmp, xo_i2l, xo_l2i, xo_i2b, xo_i2s, xo_i2c, xo_dup, xo_pop, xo_zeq, xo_ceq, xo_zne, xo_cne, xo_zlt, xo_clt, xo_zge, xo_cge, xo_zgt, xo_cgt, xo_zle, xo_cle, xo_sw, xo_ts, xo_gf, xo_pfi, xo_pfl, xo_pfz, xo_pfr, xo_iald, xo_iast, xo_zast, xo_zald, xo_alen, xo_aald, xo_gs, xo_cv, xo_cs, xo_ca, xo_obj, xo_ri, xo_rz, xo_rl, xo_ra, xo_rc, xo_rb, xo_rv, xo_new, xo_newa, xo_anew, xo_aast, xo_mmax, xo_mmin, xo_mabs, xo_mmaxL, xo_mabsL, jw_ge, jw_st, jw_st2, jw_se, jw_un, jw_kk, jw_pp, jw_l4, jw_l1, jw_ps, jw_en, jw_N, jw_C, List.map_cons, List.map_nil, ↓reduceIte, Nat.reduceSub, Nat.reduceAdd, Nat.reduceEqDiff, Nat.reduceLeDiff, Nat.le_refl, Nat.zero_le, true_and, and_true, true_or, or_true, false_or, or_false, false_imp_iff, true_imp_iff, not_true_eq_false, not_false_eq_true, nI_0, nb_1, fa_10, fa_01, nI_1]
        exact no (fun r => h2 r.2)
  refine hP _ _ _ _ _ ?_
  simp only [qq_1_voters, bb_1_voters_51, bb_1_voters_45, bb_1_voters_0, xo_il, xo_ll, xo_al, xo_is, xo_ls, xo_as, xo_ic, xo_ci, xo_cl, xo_iadd, xo_isub, xo_imul, xo_iand, xo_ior, xo_ixor, xo_ishl, xo_ishr, xo_iushr, xo_idiv, xo_irem, xo_ineg, xo_ladd, xo_lsub, xo_lmul, xo_land, xo_lor, xo_lxor, xo_ldiv, xo_lrem, xo_lneg, xo_lushr, xo_lshl, xo_lshr, xo_lcmp, xo_i2l, xo_l2i, xo_i2b, xo_i2s, xo_i2c, xo_dup, xo_pop, xo_zeq, xo_ceq, xo_zne, xo_cne, xo_zlt, xo_clt, xo_zge, xo_cge, xo_zgt, xo_cgt, xo_zle, xo_cle, xo_sw, xo_ts, xo_gf, xo_pfi, xo_pfl, xo_pfz, xo_pfr, xo_iald, xo_iast, xo_zast, xo_zald, xo_alen, xo_aald, xo_gs, xo_cv, xo_cs, xo_ca, xo_obj, xo_ri, xo_rz, xo_rl, xo_ra, xo_rc, xo_rb, xo_rv, xo_new, xo_newa, xo_anew, xo_aast, xo_mmax, xo_mmin, xo_mabs, xo_mmaxL, xo_mabsL, jw_ge, jw_st, jw_st2, jw_se, jw_un, jw_kk, jw_pp, jw_l4, jw_l1, jw_ps, jw_en, jw_N, jw_C, List.map_cons, List.map_nil, ↓reduceIte, Nat.reduceSub, Nat.reduceAdd, Nat.reduceEqDiff, Nat.reduceLeDiff, Nat.le_refl, Nat.zero_le, true_and, and_true, true_or, or_true, false_or, or_false, false_imp_iff, true_imp_iff, not_true_eq_false, not_false_eq_true, nI_0, nb_1, fa_10, fa_01]
  exact lp ds.length 0 (by omega)
theorem tt_1_votesFor (h : ds_ I ds) (hn : n ≤ 1000) (hp : p < 1000) (hv : v < 1000) (hK : K (some (.int (nI (vf_ ds n p v)))) (hp_ I J)) : cc_1_votesFor [.ref 36, .int (nI n), .int (nI p), .int (nI v)] (hp_ I J) K := by
  refine jw_Cin (Nat.le_of_ble_eq_true rfl) rfl (fun P hP => ?_)
  have h6 := h.2.1
  have lp : ∀ (m k : Nat), ds.length = k + m → P 6 [.ref 36, .int (nI n), .int (nI p), .int (nI v), .int (nI (vf_ (ds.take k) n p v)), .int (nI k)] [] (hp_ I J) (0, 0) := by
    intro m
    induction m with
    | zero =>
      intro k hk
      have hle : nI ds.length ≤ nI k := (nI_leI (by omega) (by omega)).mpr (by omega)
      refine hP _ _ _ _ _ ?_
      simp only [qq_1_votesFor, bb_1_votesFor_67, bb_1_votesFor_6, bb_1_votesFor_0, xo_il, xo_ll, xo_al, xo_is, xo_ls, xo_as, xo_ic, xo_ci, xo_cl, xo_iadd, xo_isub, xo_imul, xo_iand, xo_ior, xo_ixor, xo_ishl, xo_ishr, xo_iushr, xo_idiv, xo_irem, xo_ineg, xo_ladd, xo_lsub, xo_lmul, xo_land, xo_lor, xo_lxor, xo_ldiv, xo_lrem, xo_lneg, xo_lushr, xo_lshl, xo_lshr, xo_lcmp, xo_i2l, xo_l2i, xo_i2b, xo_i2s, xo_i2c, xo_dup, xo_pop, xo_zeq, xo_ceq, xo_zne, xo_cne, xo_zlt, xo_clt, xo_zge, xo_cge, xo_zgt, xo_cgt, xo_zle, xo_cle, xo_sw, xo_ts, xo_gf, xo_pfi, xo_pfl, xo_pfz, xo_pfr, xo_iald, xo_iast, xo_zast, xo_zald, xo_alen, xo_aald, xo_gs, xo_cv, xo_cs, xo_ca, xo_obj, xo_ri, xo_rz, xo_rl, xo_ra, xo_rc, xo_rb, xo_rv, xo_new, xo_newa, xo_anew, xo_aast, xo_mmax, xo_mmin, xo_mabs, xo_mmaxL, xo_mabsL, jw_ge, jw_st, jw_st2, jw_se, jw_un, jw_kk, jw_pp, jw_l4, jw_l1, jw_ps, jw_en, jw_N, jw_C, List.map_cons, List.map_nil, ↓reduceIte, Nat.reduceSub, Nat.reduceAdd, Nat.reduceEqDiff, Nat.reduceLeDiff, Nat.le_refl, Nat.zero_le, true_and, and_true, true_or, or_true, false_or, or_false, false_imp_iff, true_imp_iff, not_true_eq_false, not_false_eq_true, nI_0, nb_1, fa_10, fa_01, hg_36_0, hg_36_1, hq_36_1, hi_36, h.1, hle]
      rw [List.take_of_length_le (by omega)]
      exact hK
    | succ m ih =>
      intro k hk
      have hle : ¬ nI ds.length ≤ nI k := (nu_gt (by omega) (by omega)).mpr (by omega)
      have hd := ds_at h (show k < ds.length by omega)
      have hk6 : k < 6 := by omega
      have hw := cp_s (ds := ds) (f := fun d => decide (d.length = n ∧ (d.getD p (0, 0)).2 = 1 ∧ (d.getD p (0, 0)).1 = v)) (show k < ds.length by omega)
      have ih' := ih (k + 1) (by omega)
      have no : ¬ ((ds.getD k []).length = n ∧ ((ds.getD k []).getD p (0, 0)).2 = 1 ∧ ((ds.getD k []).getD p (0, 0)).1 = v) → P 6 [.ref 36, .int (nI n), .int (nI p), .int (nI v), .int (nI (vf_ (ds.take k) n p v)), .int (nI (k + 1))] [] (hp_ I J) (0, 0) := fun q => by
        rw [show vf_ (ds.take (k + 1)) n p v = vf_ (ds.take k) n p v by unfold vf_; rw [hw, if_neg (by simpa using q), Nat.add_zero]] at ih'
        exact ih'
      refine hP _ _ _ _ _ ?_
      simp only [qq_1_votesFor, bb_1_votesFor_67, bb_1_votesFor_6, bb_1_votesFor_0, xo_il, xo_ll, xo_al, xo_is, xo_ls, xo_as, xo_ic, xo_ci, xo_cl, xo_iadd, xo_isub, xo_imul, xo_iand, xo_ior, xo_ixor, xo_ishl, xo_ishr, xo_iushr, xo_idiv, xo_irem, xo_ineg, xo_ladd, xo_lsub, xo_lmul, xo_land, xo_lor, xo_lxor, xo_ldiv, xo_lrem, xo_lneg, xo_lushr, xo_lshl, xo_lshr, xo_lcmp, xo_i2l, xo_l2i, xo_i2b, xo_i2s, xo_i2c, xo_dup, xo_pop, xo_zeq, xo_ceq, xo_zne, xo_cne, xo_zlt, xo_clt, xo_zge, xo_cge, xo_zgt, xo_cgt, xo_zle, xo_cle, xo_sw, xo_ts, xo_gf, xo_pfi, xo_pfl, xo_pfz, xo_pfr, xo_iald, xo_iast, xo_zast, xo_zald, xo_alen, xo_aald, xo_gs, xo_cv, xo_cs, xo_ca, xo_obj, xo_ri, xo_rz, xo_rl, xo_ra, xo_rc, xo_rb, xo_rv, xo_new, xo_newa, xo_anew, xo_aast, xo_mmax, xo_mmin, xo_mabs, xo_mmaxL, xo_mabsL, jw_ge, jw_st, jw_st2, jw_se, jw_un, jw_kk, jw_pp, jw_l4, jw_l1, jw_ps, jw_en, jw_N, jw_C, List.map_cons, List.map_nil, ↓reduceIte, Nat.reduceSub, Nat.reduceAdd, Nat.reduceEqDiff, Nat.reduceLeDiff, Nat.le_refl, Nat.zero_le, true_and, and_true, true_or, or_true, false_or, or_false, false_imp_iff, true_imp_iff, not_true_eq_false, not_false_eq_true, nI_0, nb_1, fa_10, fa_01, hg_36_0, hg_36_1, hq_36_1, hi_36, h.1, hle, hk_37, vi_6 hk6, nI_clamp (show k < 2 ^ 31 by omega), hk6, hd_i hk6]
      refine tt_0_size hk6 hd ?_
      have hl := hd.2.1
      simp only [qq_1_votesFor, bb_1_votesFor_67, bb_1_votesFor_61, bb_1_votesFor_6, bb_1_votesFor_0, xo_il, xo_ll, xo_al, xo_is, xo_ls, xo_as, xo_ic, xo_ci, xo_cl, xo_iadd, xo_isub, xo_imul, xo_iand, xo_ior, xo_ixor, xo_ishl, xo_ishr, xo_iushr, xo_idiv, xo_irem, xo_ineg, xo_ladd, xo_lsub, xo_lmul, xo_land, xo_lor, xo_lxor, xo_ldiv, xo_lrem, xo_lneg, xo_lushr, xo_lshl, xo_lshr, xo_lcmp, xo_i2l, xo_l2i, xo_i2b, xo_i2s, xo_i2c, xo_dup, xo_pop, xo_zeq, xo_ceq, xo_zne, xo_cne, xo_zlt, xo_clt, xo_zge, xo_cge, xo_zgt, xo_cgt, xo_zle, xo_cle, xo_sw, xo_ts, xo_gf, xo_pfi, xo_pfl, xo_pfz, xo_pfr, xo_iald, xo_iast, xo_zast, xo_zald, xo_alen, xo_aald, xo_gs, xo_cv, xo_cs, xo_ca, xo_obj, xo_ri, xo_rz, xo_rl, xo_ra, xo_rc, xo_rb, xo_rv, xo_new, xo_newa, xo_anew, xo_aast, xo_mmax, xo_mmin, xo_mabs, xo_mmaxL, xo_mabsL, jw_ge, jw_st, jw_st2, jw_se, jw_un, jw_kk, jw_pp, jw_l4, jw_l1, jw_ps, jw_en, jw_N, jw_C, List.map_cons, List.map_nil, ↓reduceIte, Nat.reduceSub, Nat.reduceAdd, Nat.reduceEqDiff, Nat.reduceLeDiff, Nat.le_refl, Nat.zero_le, true_and, and_true, true_or, or_true, false_or, or_false, false_imp_iff, true_imp_iff, not_true_eq_false, not_false_eq_true, nI_0, nb_1, fa_10, fa_01, hg_36_0, hg_36_1, hq_36_1, hi_36, nI_1, hk_37, vi_6 hk6, nI_clamp (show k < 2 ^ 31 by omega), hk6, hd_i hk6]
      rw [nI_eq (by omega) (by omega)]
      refine ⟨fun q => no (fun r => q r.1), fun q => ?_⟩
      refine tt_0_isSoundAt hk6 hd hp ?_
      by_cases h2 : ((ds.getD k []).getD p (0, 0)).2 = 1
      · rw [h2]
        simp only [qq_1_votesFor, bb_1_votesFor_67, bb_1_votesFor_61, bb_1_votesFor_6, bb_1_votesFor_0, xo_il, xo_ll, xo_al, xo_is, xo_ls, xo_as, xo_ic, xo_ci, xo_cl, xo_iadd, xo_isub, xo_imul, xo_iand, xo_ior, xo_ixor, xo_ishl, xo_ishr, xo_iushr, xo_idiv, xo_irem, xo_ineg, xo_ladd, xo_lsub, xo_lmul, xo_land, xo_lor, xo_lxor, xo_ldiv, xo_lrem, xo_lneg, xo_lushr, xo_lshl, xo_lshr, xo_lcmp, xo_i2l, xo_l2i, xo_i2b, xo_i2s, xo_i2c, xo_dup, xo_pop, xo_zeq, xo_ceq, xo_zne, xo_cne, xo_zlt, xo_clt, xo_zge, xo_cge, xo_zgt, xo_cgt, xo_zle, xo_cle, xo_sw, xo_ts, xo_gf, xo_pfi, xo_pfl, xo_pfz, xo_pfr, xo_iald, xo_iast, xo_zast, xo_zald, xo_alen, xo_aald, xo_gs, xo_cv, xo_cs, xo_ca, xo_obj, xo_ri, xo_rz, xo_rl, xo_ra, xo_rc, xo_rb, xo_rv, xo_new, xo_newa, xo_anew, xo_aast, xo_mmax, xo_mmin, xo_mabs, xo_mmaxL, xo_mabsL, jw_ge, jw_st, jw_st2, jw_se, jw_un, jw_kk, jw_pp, jw_l4, jw_l1, jw_ps, jw_en, jw_N, jw_C, List.map_cons, List.map_nil, ↓reduceIte, Nat.reduceSub, Nat.reduceAdd, Nat.reduceEqDiff, Nat.reduceLeDiff, Nat.le_refl, Nat.zero_le, true_and, and_true, true_or, or_true, false_or, or_false, false_imp_iff, true_imp_iff, not_true_eq_false, not_false_eq_true, nI_0, nb_1, fa_10, fa_01, hg_36_0, hg_36_1, hq_36_1, hi_36, nI_1, hk_37, vi_6 hk6, nI_clamp (show k < 2 ^ 31 by omega), hk6, hd_i hk6]
        refine tt_0_at hk6 hd hp ?_
        have h64 : ((ds.getD k []).getD p (0, 0)).1 < 64 := (dv_b hd p).1
        simp only [qq_1_votesFor, bb_1_votesFor_67, bb_1_votesFor_61, bb_1_votesFor_54, bb_1_votesFor_6, bb_1_votesFor_0, xo_il, xo_ll, xo_al, xo_is, xo_ls, xo_as, xo_ic, xo_ci, xo_cl, xo_iadd, xo_isub, xo_imul, xo_iand, xo_ior, xo_ixor, xo_ishl, xo_ishr, xo_iushr, xo_idiv, xo_irem, xo_ineg, xo_ladd, xo_lsub, xo_lmul, xo_land, xo_lor, xo_lxor, xo_ldiv, xo_lrem, xo_lneg, xo_lushr, xo_lshl, xo_lshr, xo_lcmp, xo_i2l, xo_l2i, xo_i2b, xo_i2s, xo_i2c, xo_dup, xo_pop, xo_zeq, xo_ceq, xo_zne, xo_cne, xo_zlt, xo_clt, xo_zge, xo_cge, xo_zgt, xo_cgt, xo_zle, xo_cle, xo_sw, xo_ts, xo_gf, xo_pfi, xo_pfl, xo_pfz, xo_pfr, xo_iald, xo_iast, xo_zast, xo_zald, xo_alen, xo_aald, xo_gs, xo_cv, xo_cs, xo_ca, xo_obj, xo_ri, xo_rz, xo_rl, xo_ra, xo_rc, xo_rb, xo_rv, xo_new, xo_newa, xo_anew, xo_aast, xo_mmax, xo_mmin, xo_mabs, xo_mmaxL, xo_mabsL, jw_ge, jw_st, jw_st2, jw_se, jw_un, jw_kk, jw_pp, jw_l4, jw_l1, jw_ps, jw_en, jw_N, jw_C, List.map_cons, List.map_nil, ↓reduceIte, Nat.reduceSub, Nat.reduceAdd, Nat.reduceEqDiff, Nat.reduceLeDiff, Nat.le_refl, Nat.zero_le, true_and, and_true, true_or, or_true, false_or, or_false, false_imp_iff, true_imp_iff, not_true_eq_false, not_false_eq_true, nI_0, nb_1, fa_10, fa_01, nI_1]
        rw [nI_eq (by omega) (by omega)]
        refine ⟨fun r => no (fun w => r w.2.2), fun r => ?_⟩
        rw [show vf_ (ds.take (k + 1)) n p v = vf_ (ds.take k) n p v + 1 by unfold vf_; rw [hw, if_pos (by simpa using ⟨q, h2, r⟩)]] at ih'
        exact ih'
      · have h0 : ((ds.getD k []).getD p (0, 0)).2 = 0 := by have := (dv_b hd p).2; omega
        rw [h0]
        simp only [qq_1_votesFor, bb_1_votesFor_67, bb_1_votesFor_61, bb_1_votesFor_6, bb_1_votesFor_0, xo_il, xo_ll, xo_al, xo_is, xo_ls, xo_as, xo_ic, xo_ci, xo_cl, xo_iadd, xo_isub, xo_imul, xo_iand, xo_ior, xo_ixor, xo_ishl, xo_ishr, xo_iushr, xo_idiv, xo_irem, xo_ineg, xo_ladd, xo_lsub, xo_lmul, xo_land, xo_lor, xo_lxor, xo_ldiv, xo_lrem, xo_lneg, xo_lushr, xo_lshl, xo_lshr, xo_lcmp, xo_i2l, xo_l2i, xo_i2b, xo_i2s, xo_i2c, xo_dup, xo_pop, xo_zeq, xo_ceq, xo_zne, xo_cne, xo_zlt, xo_clt, xo_zge, xo_cge, xo_zgt, xo_cgt, xo_zle, xo_cle, xo_sw, xo_ts, xo_gf, xo_pfi, xo_pfl, xo_pfz, xo_pfr, xo_iald, xo_iast, xo_zast, xo_zald, xo_alen, xo_aald, xo_gs, xo_cv, xo_cs, xo_ca, xo_obj, xo_ri, xo_rz, xo_rl, xo_ra, xo_rc, xo_rb, xo_rv, xo_new, xo_newa, xo_anew, xo_aast, xo_mmax, xo_mmin, xo_mabs, xo_mmaxL, xo_mabsL, jw_ge, jw_st, jw_st2, jw_se, jw_un, jw_kk, jw_pp, jw_l4, jw_l1, jw_ps, jw_en, jw_N, jw_C, List.map_cons, List.map_nil, ↓reduceIte, Nat.reduceSub, Nat.reduceAdd, Nat.reduceEqDiff, Nat.reduceLeDiff, Nat.le_refl, Nat.zero_le, true_and, and_true, true_or, or_true, false_or, or_false, false_imp_iff, true_imp_iff, not_true_eq_false, not_false_eq_true, nI_0, nb_1, fa_10, fa_01, nI_1]
        exact no (fun r => h2 r.2.1)
  refine hP _ _ _ _ _ ?_
  simp only [qq_1_votesFor, bb_1_votesFor_67, bb_1_votesFor_61, bb_1_votesFor_54, bb_1_votesFor_0, xo_il, xo_ll, xo_al, xo_is, xo_ls, xo_as, xo_ic, xo_ci, xo_cl, xo_iadd, xo_isub, xo_imul, xo_iand, xo_ior, xo_ixor, xo_ishl, xo_ishr, xo_iushr, xo_idiv, xo_irem, xo_ineg, xo_ladd, xo_lsub, xo_lmul, xo_land, xo_lor, xo_lxor, xo_ldiv, xo_lrem, xo_lneg, xo_lushr, xo_lshl, xo_lshr, xo_lcmp, xo_i2l, xo_l2i, xo_i2b, xo_i2s, xo_i2c, xo_dup, xo_pop, xo_zeq, xo_ceq, xo_zne, xo_cne, xo_zlt, xo_clt, xo_zge, xo_cge, xo_zgt, xo_cgt, xo_zle, xo_cle, xo_sw, xo_ts, xo_gf, xo_pfi, xo_pfl, xo_pfz, xo_pfr, xo_iald, xo_iast, xo_zast, xo_zald, xo_alen, xo_aald, xo_gs, xo_cv, xo_cs, xo_ca, xo_obj, xo_ri, xo_rz, xo_rl, xo_ra, xo_rc, xo_rb, xo_rv, xo_new, xo_newa, xo_anew, xo_aast, xo_mmax, xo_mmin, xo_mabs, xo_mmaxL, xo_mabsL, jw_ge, jw_st, jw_st2, jw_se, jw_un, jw_kk, jw_pp, jw_l4, jw_l1, jw_ps, jw_en, jw_N, jw_C, List.map_cons, List.map_nil, ↓reduceIte, Nat.reduceSub, Nat.reduceAdd, Nat.reduceEqDiff, Nat.reduceLeDiff, Nat.le_refl, Nat.zero_le, true_and, and_true, true_or, or_true, false_or, or_false, false_imp_iff, true_imp_iff, not_true_eq_false, not_false_eq_true, nI_0, nb_1, fa_10, fa_01]
  exact lp ds.length 0 (by omega)
theorem tt_1_favourite (h : ds_ I ds) (hn : n ≤ 1000) (hp : p < 1000) (hK : K (some (.int (fv_ (vf_ ds n p) 64).1)) (hp_ I J)) : cc_1_favourite [.ref 36, .int (nI n), .int (nI p)] (hp_ I J) K := by
  refine jw_Cin (Nat.le_of_ble_eq_true rfl) rfl (fun P hP => ?_)
  have h6 := h.2.1
  have hv : ∀ v, vf_ ds n p v ≤ 6 := fun v => Nat.le_trans cp_le h6
  have hf : ∀ m, m ≤ 64 → (fv_ (vf_ ds n p) m).2 ≤ 6 := fun m hm => by
    rcases fv_c (vf_ ds n p) m hm with ⟨h1, -⟩ | ⟨v0, -, -, h1⟩ <;> rw [h1]
    · exact Nat.zero_le _
    · exact hv _
  have lp : ∀ (m k : Nat) (w : Value), 64 = k + m → P 9 [.ref 36, .int (nI n), .int (nI p), .int (fv_ (vf_ ds n p) k).1, .int (nI (fv_ (vf_ ds n p) k).2), .int (nI k), w] [] (hp_ I J) (0, 0) := by
    intro m
    induction m with
    | zero =>
      intro k w hk
      have hle : (63 : Int32) < nI k := by rw [show k = 64 by omega]; decide
      refine hP _ _ _ _ _ ?_
      simp only [qq_1_favourite, bb_1_favourite_46, bb_1_favourite_9, bb_1_favourite_0, xo_il, xo_ll, xo_al, xo_is, xo_ls, xo_as, xo_ic, xo_ci, xo_cl, xo_iadd, xo_isub, xo_imul, xo_iand, xo_ior, xo_ixor, xo_ishl, xo_ishr, xo_iushr, xo_idiv, xo_irem, xo_ineg, xo_ladd, xo_lsub, xo_lmul, xo_land, xo_lor, xo_lxor, xo_ldiv, xo_lrem, xo_lneg, xo_lushr, xo_lshl, xo_lshr, xo_lcmp, xo_i2l, xo_l2i, xo_i2b, xo_i2s, xo_i2c, xo_dup, xo_pop, xo_zeq, xo_ceq, xo_zne, xo_cne, xo_zlt, xo_clt, xo_zge, xo_cge, xo_zgt, xo_cgt, xo_zle, xo_cle, xo_sw, xo_ts, xo_gf, xo_pfi, xo_pfl, xo_pfz, xo_pfr, xo_iald, xo_iast, xo_zast, xo_zald, xo_alen, xo_aald, xo_gs, xo_cv, xo_cs, xo_ca, xo_obj, xo_ri, xo_rz, xo_rl, xo_ra, xo_rc, xo_rb, xo_rv, xo_new, xo_newa, xo_anew, xo_aast, xo_mmax, xo_mmin, xo_mabs, xo_mmaxL, xo_mabsL, jw_ge, jw_st, jw_st2, jw_se, jw_un, jw_kk, jw_pp, jw_l4, jw_l1, jw_ps, jw_en, jw_N, jw_C, List.map_cons, List.map_nil, ↓reduceIte, Nat.reduceSub, Nat.reduceAdd, Nat.reduceEqDiff, Nat.reduceLeDiff, Nat.le_refl, Nat.zero_le, true_and, and_true, true_or, or_true, false_or, or_false, false_imp_iff, true_imp_iff, not_true_eq_false, not_false_eq_true, nI_0, nb_1, fa_10, fa_01, hle]
      rw [show k = 64 by omega]
      exact hK
    | succ m ih =>
      intro k w hk
      have hle : ¬ (63 : Int32) < nI k := fun q => by have := (nI_ltI (a := 63) (by omega) (by omega)).mp q; omega
      refine hP _ _ _ _ _ ?_
      simp only [qq_1_favourite, bb_1_favourite_46, bb_1_favourite_9, bb_1_favourite_0, xo_il, xo_ll, xo_al, xo_is, xo_ls, xo_as, xo_ic, xo_ci, xo_cl, xo_iadd, xo_isub, xo_imul, xo_iand, xo_ior, xo_ixor, xo_ishl, xo_ishr, xo_iushr, xo_idiv, xo_irem, xo_ineg, xo_ladd, xo_lsub, xo_lmul, xo_land, xo_lor, xo_lxor, xo_ldiv, xo_lrem, xo_lneg, xo_lushr, xo_lshl, xo_lshr, xo_lcmp, xo_i2l, xo_l2i, xo_i2b, xo_i2s, xo_i2c, xo_dup, xo_pop, xo_zeq, xo_ceq, xo_zne, xo_cne, xo_zlt, xo_clt, xo_zge, xo_cge, xo_zgt, xo_cgt, xo_zle, xo_cle, xo_sw, xo_ts, xo_gf, xo_pfi, xo_pfl, xo_pfz, xo_pfr, xo_iald, xo_iast, xo_zast, xo_zald, xo_alen, xo_aald, xo_gs, xo_cv, xo_cs, xo_ca, xo_obj, xo_ri, xo_rz, xo_rl, xo_ra, xo_rc, xo_rb, xo_rv, xo_new, xo_newa, xo_anew, xo_aast, xo_mmax, xo_mmin, xo_mabs, xo_mmaxL, xo_mabsL, jw_ge, jw_st, jw_st2, jw_se, jw_un, jw_kk, jw_pp, jw_l4, jw_l1, jw_ps, jw_en, jw_N, jw_C, List.map_cons, List.map_nil, ↓reduceIte, Nat.reduceSub, Nat.reduceAdd, Nat.reduceEqDiff, Nat.reduceLeDiff, Nat.le_refl, Nat.zero_le, true_and, and_true, true_or, or_true, false_or, or_false, false_imp_iff, true_imp_iff, not_true_eq_false, not_false_eq_true, nI_0, nb_1, fa_10, fa_01, hle, hg_36_0, hg_36_1, hq_36_1, hi_36]
      refine tt_1_votesFor h hn hp (by omega) ?_
      have h1 := hv k
      have h2 := hf k (by omega)
      have ih' := fun w => ih (k + 1) w (by omega)
      rw [fv_s] at ih'
      unfold fs_ at ih'
      simp only [qq_1_favourite, bb_1_favourite_46, bb_1_favourite_40, bb_1_favourite_9, bb_1_favourite_0, xo_il, xo_ll, xo_al, xo_is, xo_ls, xo_as, xo_ic, xo_ci, xo_cl, xo_iadd, xo_isub, xo_imul, xo_iand, xo_ior, xo_ixor, xo_ishl, xo_ishr, xo_iushr, xo_idiv, xo_irem, xo_ineg, xo_ladd, xo_lsub, xo_lmul, xo_land, xo_lor, xo_lxor, xo_ldiv, xo_lrem, xo_lneg, xo_lushr, xo_lshl, xo_lshr, xo_lcmp, xo_i2l, xo_l2i, xo_i2b, xo_i2s, xo_i2c, xo_dup, xo_pop, xo_zeq, xo_ceq, xo_zne, xo_cne, xo_zlt, xo_clt, xo_zge, xo_cge, xo_zgt, xo_cgt, xo_zle, xo_cle, xo_sw, xo_ts, xo_gf, xo_pfi, xo_pfl, xo_pfz, xo_pfr, xo_iald, xo_iast, xo_zast, xo_zald, xo_alen, xo_aald, xo_gs, xo_cv, xo_cs, xo_ca, xo_obj, xo_ri, xo_rz, xo_rl, xo_ra, xo_rc, xo_rb, xo_rv, xo_new, xo_newa, xo_anew, xo_aast, xo_mmax, xo_mmin, xo_mabs, xo_mmaxL, xo_mabsL, jw_ge, jw_st, jw_st2, jw_se, jw_un, jw_kk, jw_pp, jw_l4, jw_l1, jw_ps, jw_en, jw_N, jw_C, List.map_cons, List.map_nil, ↓reduceIte, Nat.reduceSub, Nat.reduceAdd, Nat.reduceEqDiff, Nat.reduceLeDiff, Nat.le_refl, Nat.zero_le, true_and, and_true, true_or, or_true, false_or, or_false, false_imp_iff, true_imp_iff, not_true_eq_false, not_false_eq_true, nI_0, nb_1, fa_10, fa_01, nI_1]
      rw [nI_leI (by omega) (by omega)]
      refine ⟨fun q => ?_, fun q => ?_⟩
      · rw [if_neg (by omega)] at ih'
        exact ih' _
      · rw [if_pos (by omega)] at ih'
        exact ih' _
  refine hP _ _ _ _ _ ?_
  simp only [qq_1_favourite, bb_1_favourite_46, bb_1_favourite_40, bb_1_favourite_0, xo_il, xo_ll, xo_al, xo_is, xo_ls, xo_as, xo_ic, xo_ci, xo_cl, xo_iadd, xo_isub, xo_imul, xo_iand, xo_ior, xo_ixor, xo_ishl, xo_ishr, xo_iushr, xo_idiv, xo_irem, xo_ineg, xo_ladd, xo_lsub, xo_lmul, xo_land, xo_lor, xo_lxor, xo_ldiv, xo_lrem, xo_lneg, xo_lushr, xo_lshl, xo_lshr, xo_lcmp, xo_i2l, xo_l2i, xo_i2b, xo_i2s, xo_i2c, xo_dup, xo_pop, xo_zeq, xo_ceq, xo_zne, xo_cne, xo_zlt, xo_clt, xo_zge, xo_cge, xo_zgt, xo_cgt, xo_zle, xo_cle, xo_sw, xo_ts, xo_gf, xo_pfi, xo_pfl, xo_pfz, xo_pfr, xo_iald, xo_iast, xo_zast, xo_zald, xo_alen, xo_aald, xo_gs, xo_cv, xo_cs, xo_ca, xo_obj, xo_ri, xo_rz, xo_rl, xo_ra, xo_rc, xo_rb, xo_rv, xo_new, xo_newa, xo_anew, xo_aast, xo_mmax, xo_mmin, xo_mabs, xo_mmaxL, xo_mabsL, jw_ge, jw_st, jw_st2, jw_se, jw_un, jw_kk, jw_pp, jw_l4, jw_l1, jw_ps, jw_en, jw_N, jw_C, List.map_cons, List.map_nil, ↓reduceIte, Nat.reduceSub, Nat.reduceAdd, Nat.reduceEqDiff, Nat.reduceLeDiff, Nat.le_refl, Nat.zero_le, true_and, and_true, true_or, or_true, false_or, or_false, false_imp_iff, true_imp_iff, not_true_eq_false, not_false_eq_true, nI_0, nb_1, fa_10, fa_01]
  exact lp 64 0 _ rfl
theorem tt_1_places (h : ds_ I ds) (hK : K (some (.int (nI (pl_ ds 33).1))) (hp_ I J)) : cc_1_places [.ref 36] (hp_ I J) K := by
  refine jw_Cin (Nat.le_of_ble_eq_true rfl) rfl (fun P hP => ?_)
  have h6 := h.2.1
  have hv : ∀ n, wp_ ds n ≤ 6 := fun v => Nat.le_trans cp_le h6
  have lp : ∀ (m k : Nat) (w : Value), 33 = k + m → P 6 [.ref 36, .int (nI (pl_ ds k).1), .int (nI (pl_ ds k).2), .int (nI k), w] [] (hp_ I J) (0, 0) := by
    intro m
    induction m with
    | zero =>
      intro k w hk
      have hle : (32 : Int32) < nI k := by rw [show k = 33 by omega]; decide
      refine hP _ _ _ _ _ ?_
      simp only [qq_1_places, bb_1_places_41, bb_1_places_6, bb_1_places_0, xo_il, xo_ll, xo_al, xo_is, xo_ls, xo_as, xo_ic, xo_ci, xo_cl, xo_iadd, xo_isub, xo_imul, xo_iand, xo_ior, xo_ixor, xo_ishl, xo_ishr, xo_iushr, xo_idiv, xo_irem, xo_ineg, xo_ladd, xo_lsub, xo_lmul, xo_land, xo_lor, xo_lxor, xo_ldiv, xo_lrem, xo_lneg, xo_lushr, xo_lshl, xo_lshr, xo_lcmp, xo_i2l, xo_l2i, xo_i2b, xo_i2s, xo_i2c, xo_dup, xo_pop, xo_zeq, xo_ceq, xo_zne, xo_cne, xo_zlt, xo_clt, xo_zge, xo_cge, xo_zgt, xo_cgt, xo_zle, xo_cle, xo_sw, xo_ts, xo_gf, xo_pfi, xo_pfl, xo_pfz, xo_pfr, xo_iald, xo_iast, xo_zast, xo_zald, xo_alen, xo_aald, xo_gs, xo_cv, xo_cs, xo_ca, xo_obj, xo_ri, xo_rz, xo_rl, xo_ra, xo_rc, xo_rb, xo_rv, xo_new, xo_newa, xo_anew, xo_aast, xo_mmax, xo_mmin, xo_mabs, xo_mmaxL, xo_mabsL, jw_ge, jw_st, jw_st2, jw_se, jw_un, jw_kk, jw_pp, jw_l4, jw_l1, jw_ps, jw_en, jw_N, jw_C, List.map_cons, List.map_nil, ↓reduceIte, Nat.reduceSub, Nat.reduceAdd, Nat.reduceEqDiff, Nat.reduceLeDiff, Nat.le_refl, Nat.zero_le, true_and, and_true, true_or, or_true, false_or, or_false, false_imp_iff, true_imp_iff, not_true_eq_false, not_false_eq_true, nI_0, nb_1, fa_10, fa_01, hle]
      rw [show k = 33 by omega]
      exact hK
    | succ m ih =>
      intro k w hk
      have hle : ¬ (32 : Int32) < nI k := fun q => by have := (nI_ltI (a := 32) (by omega) (by omega)).mp q; omega
      refine hP _ _ _ _ _ ?_
      simp only [qq_1_places, bb_1_places_41, bb_1_places_6, bb_1_places_0, xo_il, xo_ll, xo_al, xo_is, xo_ls, xo_as, xo_ic, xo_ci, xo_cl, xo_iadd, xo_isub, xo_imul, xo_iand, xo_ior, xo_ixor, xo_ishl, xo_ishr, xo_iushr, xo_idiv, xo_irem, xo_ineg, xo_ladd, xo_lsub, xo_lmul, xo_land, xo_lor, xo_lxor, xo_ldiv, xo_lrem, xo_lneg, xo_lushr, xo_lshl, xo_lshr, xo_lcmp, xo_i2l, xo_l2i, xo_i2b, xo_i2s, xo_i2c, xo_dup, xo_pop, xo_zeq, xo_ceq, xo_zne, xo_cne, xo_zlt, xo_clt, xo_zge, xo_cge, xo_zgt, xo_cgt, xo_zle, xo_cle, xo_sw, xo_ts, xo_gf, xo_pfi, xo_pfl, xo_pfz, xo_pfr, xo_iald, xo_iast, xo_zast, xo_zald, xo_alen, xo_aald, xo_gs, xo_cv, xo_cs, xo_ca, xo_obj, xo_ri, xo_rz, xo_rl, xo_ra, xo_rc, xo_rb, xo_rv, xo_new, xo_newa, xo_anew, xo_aast, xo_mmax, xo_mmin, xo_mabs, xo_mmaxL, xo_mabsL, jw_ge, jw_st, jw_st2, jw_se, jw_un, jw_kk, jw_pp, jw_l4, jw_l1, jw_ps, jw_en, jw_N, jw_C, List.map_cons, List.map_nil, ↓reduceIte, Nat.reduceSub, Nat.reduceAdd, Nat.reduceEqDiff, Nat.reduceLeDiff, Nat.le_refl, Nat.zero_le, true_and, and_true, true_or, or_true, false_or, or_false, false_imp_iff, true_imp_iff, not_true_eq_false, not_false_eq_true, nI_0, nb_1, fa_10, fa_01, hle, hg_36_0, hg_36_1, hq_36_1, hi_36]
      refine tt_1_withPlaces h (by omega) ?_
      have h1 := hv k
      have h2 := (pl_in ds k).2
      have ih' := fun w => ih (k + 1) w (by omega)
      rw [pl_s] at ih'
      unfold ps_ at ih'
      simp only [qq_1_places, bb_1_places_41, bb_1_places_35, bb_1_places_6, bb_1_places_0, xo_il, xo_ll, xo_al, xo_is, xo_ls, xo_as, xo_ic, xo_ci, xo_cl, xo_iadd, xo_isub, xo_imul, xo_iand, xo_ior, xo_ixor, xo_ishl, xo_ishr, xo_iushr, xo_idiv, xo_irem, xo_ineg, xo_ladd, xo_lsub, xo_lmul, xo_land, xo_lor, xo_lxor, xo_ldiv, xo_lrem, xo_lneg, xo_lushr, xo_lshl, xo_lshr, xo_lcmp, xo_i2l, xo_l2i, xo_i2b, xo_i2s, xo_i2c, xo_dup, xo_pop, xo_zeq, xo_ceq, xo_zne, xo_cne, xo_zlt, xo_clt, xo_zge, xo_cge, xo_zgt, xo_cgt, xo_zle, xo_cle, xo_sw, xo_ts, xo_gf, xo_pfi, xo_pfl, xo_pfz, xo_pfr, xo_iald, xo_iast, xo_zast, xo_zald, xo_alen, xo_aald, xo_gs, xo_cv, xo_cs, xo_ca, xo_obj, xo_ri, xo_rz, xo_rl, xo_ra, xo_rc, xo_rb, xo_rv, xo_new, xo_newa, xo_anew, xo_aast, xo_mmax, xo_mmin, xo_mabs, xo_mmaxL, xo_mabsL, jw_ge, jw_st, jw_st2, jw_se, jw_un, jw_kk, jw_pp, jw_l4, jw_l1, jw_ps, jw_en, jw_N, jw_C, List.map_cons, List.map_nil, ↓reduceIte, Nat.reduceSub, Nat.reduceAdd, Nat.reduceEqDiff, Nat.reduceLeDiff, Nat.le_refl, Nat.zero_le, true_and, and_true, true_or, or_true, false_or, or_false, false_imp_iff, true_imp_iff, not_true_eq_false, not_false_eq_true, nI_0, nb_1, fa_10, fa_01, nI_1]
      rw [nI_ltI (by omega) (by omega)]
      refine ⟨fun q => ?_, fun q => ⟨fun q2 => ?_, fun q2 => ?_⟩⟩
      · have q0 : wp_ ds k = 0 := by
          rcases Nat.eq_zero_or_pos (wp_ ds k) with r | r
          · exact r
          · exact absurd q (nI_nle r (by omega))
        rw [if_neg (by omega)] at ih'
        exact ih' _
      · rw [if_neg (by omega)] at ih'
        exact ih' _
      · have q0 : 0 < wp_ ds k := by
          rcases Nat.eq_zero_or_pos (wp_ ds k) with r | r
          · rw [r] at q; exact absurd (by decide) q
          · exact r
        rw [if_pos ⟨q0, by omega⟩] at ih'
        exact ih' _
  refine hP _ _ _ _ _ ?_
  simp only [qq_1_places, bb_1_places_41, bb_1_places_35, bb_1_places_0, xo_il, xo_ll, xo_al, xo_is, xo_ls, xo_as, xo_ic, xo_ci, xo_cl, xo_iadd, xo_isub, xo_imul, xo_iand, xo_ior, xo_ixor, xo_ishl, xo_ishr, xo_iushr, xo_idiv, xo_irem, xo_ineg, xo_ladd, xo_lsub, xo_lmul, xo_land, xo_lor, xo_lxor, xo_ldiv, xo_lrem, xo_lneg, xo_lushr, xo_lshl, xo_lshr, xo_lcmp, xo_i2l, xo_l2i, xo_i2b, xo_i2s, xo_i2c, xo_dup, xo_pop, xo_zeq, xo_ceq, xo_zne, xo_cne, xo_zlt, xo_clt, xo_zge, xo_cge, xo_zgt, xo_cgt, xo_zle, xo_cle, xo_sw, xo_ts, xo_gf, xo_pfi, xo_pfl, xo_pfz, xo_pfr, xo_iald, xo_iast, xo_zast, xo_zald, xo_alen, xo_aald, xo_gs, xo_cv, xo_cs, xo_ca, xo_obj, xo_ri, xo_rz, xo_rl, xo_ra, xo_rc, xo_rb, xo_rv, xo_new, xo_newa, xo_anew, xo_aast, xo_mmax, xo_mmin, xo_mabs, xo_mmaxL, xo_mabsL, jw_ge, jw_st, jw_st2, jw_se, jw_un, jw_kk, jw_pp, jw_l4, jw_l1, jw_ps, jw_en, jw_N, jw_C, List.map_cons, List.map_nil, ↓reduceIte, Nat.reduceSub, Nat.reduceAdd, Nat.reduceEqDiff, Nat.reduceLeDiff, Nat.le_refl, Nat.zero_le, true_and, and_true, true_or, or_true, false_or, or_false, false_imp_iff, true_imp_iff, not_true_eq_false, not_false_eq_true, nI_0, nb_1, fa_10, fa_01]
  exact lp 33 0 _ rfl
/-- places that nobody says, that are unlike -/
def np_ (ds : List (List (Nat × Nat))) (n m : Nat) : Nat := (List.range m).foldl (fun a p => if (fv_ (vf_ ds n p) 64).1 = -4 then a + 1 else a) 0
def un_ (ds : List (List (Nat × Nat))) (n m : Nat) : Nat := (List.range m).foldl (fun a p => if 1 < kn_ (vf_ ds n p) 64 then a ||| 2 ^ p else a) 0
theorem np_s (ds : List (List (Nat × Nat))) (n m : Nat) : np_ ds n (m + 1) = if (fv_ (vf_ ds n m) 64).1 = -4 then np_ ds n m + 1 else np_ ds n m := rs_f _ _ _
theorem un_s (ds : List (List (Nat × Nat))) (n m : Nat) : un_ ds n (m + 1) = if 1 < kn_ (vf_ ds n m) 64 then un_ ds n m ||| 2 ^ m else un_ ds n m := rs_f _ _ _
theorem tt_1_openPlaces (h : ds_ I ds) (hn : n ≤ 32) (hK : K (some (.int (nI (np_ ds n n)))) (hp_ I J)) : cc_1_openPlaces [.ref 36, .int (nI n)] (hp_ I J) K := by
  refine jw_Cin (Nat.le_of_ble_eq_true rfl) rfl (fun P hP => ?_)
  have lp : ∀ (m k : Nat), n = k + m → P 4 [.ref 36, .int (nI n), .int (nI (np_ ds n k)), .int (nI k)] [] (hp_ I J) (0, 0) := by
    intro m
    induction m with
    | zero =>
      intro k hk
      have hle : nI n ≤ nI k := (nI_leI (by omega) (by omega)).mpr (by omega)
      refine hP _ _ _ _ _ ?_
      simp only [qq_1_openPlaces, bb_1_openPlaces_29, bb_1_openPlaces_4, bb_1_openPlaces_0, xo_il, xo_ll, xo_al, xo_is, xo_ls, xo_as, xo_ic, xo_ci, xo_cl, xo_iadd, xo_isub, xo_imul, xo_iand, xo_ior, xo_ixor, xo_ishl, xo_ishr, xo_iushr, xo_idiv, xo_irem, xo_ineg, xo_ladd, xo_lsub, xo_lmul, xo_land, xo_lor, xo_lxor, xo_ldiv, xo_lrem, xo_lneg, xo_lushr, xo_lshl, xo_lshr, xo_lcmp, xo_i2l, xo_l2i, xo_i2b, xo_i2s, xo_i2c, xo_dup, xo_pop, xo_zeq, xo_ceq, xo_zne, xo_cne, xo_zlt, xo_clt, xo_zge, xo_cge, xo_zgt, xo_cgt, xo_zle, xo_cle, xo_sw, xo_ts, xo_gf, xo_pfi, xo_pfl, xo_pfz, xo_pfr, xo_iald, xo_iast, xo_zast, xo_zald, xo_alen, xo_aald, xo_gs, xo_cv, xo_cs, xo_ca, xo_obj, xo_ri, xo_rz, xo_rl, xo_ra, xo_rc, xo_rb, xo_rv, xo_new, xo_newa, xo_anew, xo_aast, xo_mmax, xo_mmin, xo_mabs, xo_mmaxL, xo_mabsL, jw_ge, jw_st, jw_st2, jw_se, jw_un, jw_kk, jw_pp, jw_l4, jw_l1, jw_ps, jw_en, jw_N, jw_C, List.map_cons, List.map_nil, ↓reduceIte, Nat.reduceSub, Nat.reduceAdd, Nat.reduceEqDiff, Nat.reduceLeDiff, Nat.le_refl, Nat.zero_le, true_and, and_true, true_or, or_true, false_or, or_false, false_imp_iff, true_imp_iff, not_true_eq_false, not_false_eq_true, nI_0, nb_1, fa_10, fa_01, hle]
      rw [show k = n by omega]
      exact hK
    | succ m ih =>
      intro k hk
      have hle : ¬ nI n ≤ nI k := (nu_gt (by omega) (by omega)).mpr (by omega)
      refine hP _ _ _ _ _ ?_
      simp only [qq_1_openPlaces, bb_1_openPlaces_29, bb_1_openPlaces_4, bb_1_openPlaces_0, xo_il, xo_ll, xo_al, xo_is, xo_ls, xo_as, xo_ic, xo_ci, xo_cl, xo_iadd, xo_isub, xo_imul, xo_iand, xo_ior, xo_ixor, xo_ishl, xo_ishr, xo_iushr, xo_idiv, xo_irem, xo_ineg, xo_ladd, xo_lsub, xo_lmul, xo_land, xo_lor, xo_lxor, xo_ldiv, xo_lrem, xo_lneg, xo_lushr, xo_lshl, xo_lshr, xo_lcmp, xo_i2l, xo_l2i, xo_i2b, xo_i2s, xo_i2c, xo_dup, xo_pop, xo_zeq, xo_ceq, xo_zne, xo_cne, xo_zlt, xo_clt, xo_zge, xo_cge, xo_zgt, xo_cgt, xo_zle, xo_cle, xo_sw, xo_ts, xo_gf, xo_pfi, xo_pfl, xo_pfz, xo_pfr, xo_iald, xo_iast, xo_zast, xo_zald, xo_alen, xo_aald, xo_gs, xo_cv, xo_cs, xo_ca, xo_obj, xo_ri, xo_rz, xo_rl, xo_ra, xo_rc, xo_rb, xo_rv, xo_new, xo_newa, xo_anew, xo_aast, xo_mmax, xo_mmin, xo_mabs, xo_mmaxL, xo_mabsL, jw_ge, jw_st, jw_st2, jw_se, jw_un, jw_kk, jw_pp, jw_l4, jw_l1, jw_ps, jw_en, jw_N, jw_C, List.map_cons, List.map_nil, ↓reduceIte, Nat.reduceSub, Nat.reduceAdd, Nat.reduceEqDiff, Nat.reduceLeDiff, Nat.le_refl, Nat.zero_le, true_and, and_true, true_or, or_true, false_or, or_false, false_imp_iff, true_imp_iff, not_true_eq_false, not_false_eq_true, nI_0, nb_1, fa_10, fa_01, hle, hg_36_0, hg_36_1, hq_36_1, hi_36]
      refine tt_1_favourite h (by omega) (by omega) ?_
      have ih' := ih (k + 1) (by omega)
      rw [np_s] at ih'
      simp only [qq_1_openPlaces, bb_1_openPlaces_29, bb_1_openPlaces_23, bb_1_openPlaces_4, bb_1_openPlaces_0, xo_il, xo_ll, xo_al, xo_is, xo_ls, xo_as, xo_ic, xo_ci, xo_cl, xo_iadd, xo_isub, xo_imul, xo_iand, xo_ior, xo_ixor, xo_ishl, xo_ishr, xo_iushr, xo_idiv, xo_irem, xo_ineg, xo_ladd, xo_lsub, xo_lmul, xo_land, xo_lor, xo_lxor, xo_ldiv, xo_lrem, xo_lneg, xo_lushr, xo_lshl, xo_lshr, xo_lcmp, xo_i2l, xo_l2i, xo_i2b, xo_i2s, xo_i2c, xo_dup, xo_pop, xo_zeq, xo_ceq, xo_zne, xo_cne, xo_zlt, xo_clt, xo_zge, xo_cge, xo_zgt, xo_cgt, xo_zle, xo_cle, xo_sw, xo_ts, xo_gf, xo_pfi, xo_pfl, xo_pfz, xo_pfr, xo_iald, xo_iast, xo_zast, xo_zald, xo_alen, xo_aald, xo_gs, xo_cv, xo_cs, xo_ca, xo_obj, xo_ri, xo_rz, xo_rl, xo_ra, xo_rc, xo_rb, xo_rv, xo_new, xo_newa, xo_anew, xo_aast, xo_mmax, xo_mmin, xo_mabs, xo_mmaxL, xo_mabsL, jw_ge, jw_st, jw_st2, jw_se, jw_un, jw_kk, jw_pp, jw_l4, jw_l1, jw_ps, jw_en, jw_N, jw_C, List.map_cons, List.map_nil, ↓reduceIte, Nat.reduceSub, Nat.reduceAdd, Nat.reduceEqDiff, Nat.reduceLeDiff, Nat.le_refl, Nat.zero_le, true_and, and_true, true_or, or_true, false_or, or_false, false_imp_iff, true_imp_iff, not_true_eq_false, not_false_eq_true, nI_0, nb_1, fa_10, fa_01, nI_1]
      refine ⟨fun q => ?_, fun q => ?_⟩
      · rw [if_neg q] at ih'
        exact ih'
      · rw [if_pos q] at ih'
        exact ih'
  refine hP _ _ _ _ _ ?_
  simp only [qq_1_openPlaces, bb_1_openPlaces_29, bb_1_openPlaces_23, bb_1_openPlaces_0, xo_il, xo_ll, xo_al, xo_is, xo_ls, xo_as, xo_ic, xo_ci, xo_cl, xo_iadd, xo_isub, xo_imul, xo_iand, xo_ior, xo_ixor, xo_ishl, xo_ishr, xo_iushr, xo_idiv, xo_irem, xo_ineg, xo_ladd, xo_lsub, xo_lmul, xo_land, xo_lor, xo_lxor, xo_ldiv, xo_lrem, xo_lneg, xo_lushr, xo_lshl, xo_lshr, xo_lcmp, xo_i2l, xo_l2i, xo_i2b, xo_i2s, xo_i2c, xo_dup, xo_pop, xo_zeq, xo_ceq, xo_zne, xo_cne, xo_zlt, xo_clt, xo_zge, xo_cge, xo_zgt, xo_cgt, xo_zle, xo_cle, xo_sw, xo_ts, xo_gf, xo_pfi, xo_pfl, xo_pfz, xo_pfr, xo_iald, xo_iast, xo_zast, xo_zald, xo_alen, xo_aald, xo_gs, xo_cv, xo_cs, xo_ca, xo_obj, xo_ri, xo_rz, xo_rl, xo_ra, xo_rc, xo_rb, xo_rv, xo_new, xo_newa, xo_anew, xo_aast, xo_mmax, xo_mmin, xo_mabs, xo_mmaxL, xo_mabsL, jw_ge, jw_st, jw_st2, jw_se, jw_un, jw_kk, jw_pp, jw_l4, jw_l1, jw_ps, jw_en, jw_N, jw_C, List.map_cons, List.map_nil, ↓reduceIte, Nat.reduceSub, Nat.reduceAdd, Nat.reduceEqDiff, Nat.reduceLeDiff, Nat.le_refl, Nat.zero_le, true_and, and_true, true_or, or_true, false_or, or_false, false_imp_iff, true_imp_iff, not_true_eq_false, not_false_eq_true, nI_0, nb_1, fa_10, fa_01]
  exact lp n 0 (by omega)
theorem ds_64 (h : ds_ I ds) : ∀ d ∈ ds, ∀ x ∈ d, x.1 < 64 := by
  intro d hd x hx
  obtain ⟨k, hk, rfl⟩ := List.mem_iff_getElem.mp hd
  have := ds_at h hk
  rw [show ds.getD k [] = ds[k] by simp [List.getD, hk]] at this
  exact (this.2.2.2 x hx).1
theorem tt_1_disputedPlaces (h : ds_ I ds) (hn : n ≤ 32) (hK : K (some (.int (nI (un_ ds n n)))) (hp_ I J)) : cc_1_disputedPlaces [.ref 36, .int (nI n)] (hp_ I J) K := by
  refine jw_Cin (Nat.le_of_ble_eq_true rfl) rfl (fun P hP => ?_)
  have h6 := h.2.1
  have lp : ∀ (m k : Nat) (w : Value), n = k + m → P 4 [.ref 36, .int (nI n), .int (nI (un_ ds n k)), .int (nI k), w] [] (hp_ I J) (0, 0) := by
    intro m
    induction m with
    | zero =>
      intro k w hk
      have hle : nI n ≤ nI k := (nI_leI (by omega) (by omega)).mpr (by omega)
      refine hP _ _ _ _ _ ?_
      simp only [qq_1_disputedPlaces, bb_1_disputedPlaces_53, bb_1_disputedPlaces_44, bb_1_disputedPlaces_4, bb_1_disputedPlaces_0, xo_il, xo_ll, xo_al, xo_is, xo_ls, xo_as, xo_ic, xo_ci, xo_cl, xo_iadd, xo_isub, xo_imul, xo_iand, xo_ior, xo_ixor, xo_ishl, xo_ishr, xo_iushr, xo_idiv, xo_irem, xo_ineg, xo_ladd, xo_lsub, xo_lmul, xo_land, xo_lor, xo_lxor, xo_ldiv, xo_lrem, xo_lneg, xo_lushr, xo_lshl, xo_lshr, xo_lcmp, xo_i2l, xo_l2i, xo_i2b, xo_i2s, xo_i2c, xo_dup, xo_pop, xo_zeq, xo_ceq, xo_zne, xo_cne, xo_zlt, xo_clt, xo_zge, xo_cge, xo_zgt, xo_cgt, xo_zle, xo_cle, xo_sw, xo_ts, xo_gf, xo_pfi, xo_pfl, xo_pfz, xo_pfr, xo_iald, xo_iast, xo_zast, xo_zald, xo_alen, xo_aald, xo_gs, xo_cv, xo_cs, xo_ca, xo_obj, xo_ri, xo_rz, xo_rl, xo_ra, xo_rc, xo_rb, xo_rv, xo_new, xo_newa, xo_anew, xo_aast, xo_mmax, xo_mmin, xo_mabs, xo_mmaxL, xo_mabsL, jw_ge, jw_st, jw_st2, jw_se, jw_un, jw_kk, jw_pp, jw_l4, jw_l1, jw_ps, jw_en, jw_N, jw_C, List.map_cons, List.map_nil, ↓reduceIte, Nat.reduceSub, Nat.reduceAdd, Nat.reduceEqDiff, Nat.reduceLeDiff, Nat.le_refl, Nat.zero_le, true_and, and_true, true_or, or_true, false_or, or_false, false_imp_iff, true_imp_iff, not_true_eq_false, not_false_eq_true, nI_0, nb_1, fa_10, fa_01, hle]
      rw [show k = n by omega]
      exact hK
    | succ m ih =>
      intro k w hk
      have hle : ¬ nI n ≤ nI k := (nu_gt (by omega) (by omega)).mpr (by omega)
      refine hP _ _ _ _ _ ?_
      simp only [qq_1_disputedPlaces, bb_1_disputedPlaces_53, bb_1_disputedPlaces_44, bb_1_disputedPlaces_4, bb_1_disputedPlaces_0, xo_il, xo_ll, xo_al, xo_is, xo_ls, xo_as, xo_ic, xo_ci, xo_cl, xo_iadd, xo_isub, xo_imul, xo_iand, xo_ior, xo_ixor, xo_ishl, xo_ishr, xo_iushr, xo_idiv, xo_irem, xo_ineg, xo_ladd, xo_lsub, xo_lmul, xo_land, xo_lor, xo_lxor, xo_ldiv, xo_lrem, xo_lneg, xo_lushr, xo_lshl, xo_lshr, xo_lcmp, xo_i2l, xo_l2i, xo_i2b, xo_i2s, xo_i2c, xo_dup, xo_pop, xo_zeq, xo_ceq, xo_zne, xo_cne, xo_zlt, xo_clt, xo_zge, xo_cge, xo_zgt, xo_cgt, xo_zle, xo_cle, xo_sw, xo_ts, xo_gf, xo_pfi, xo_pfl, xo_pfz, xo_pfr, xo_iald, xo_iast, xo_zast, xo_zald, xo_alen, xo_aald, xo_gs, xo_cv, xo_cs, xo_ca, xo_obj, xo_ri, xo_rz, xo_rl, xo_ra, xo_rc, xo_rb, xo_rv, xo_new, xo_newa, xo_anew, xo_aast, xo_mmax, xo_mmin, xo_mabs, xo_mmaxL, xo_mabsL, jw_ge, jw_st, jw_st2, jw_se, jw_un, jw_kk, jw_pp, jw_l4, jw_l1, jw_ps, jw_en, jw_N, jw_C, List.map_cons, List.map_nil, ↓reduceIte, Nat.reduceSub, Nat.reduceAdd, Nat.reduceEqDiff, Nat.reduceLeDiff, Nat.le_refl, Nat.zero_le, true_and, and_true, true_or, or_true, false_or, or_false, false_imp_iff, true_imp_iff, not_true_eq_false, not_false_eq_true, nI_0, nb_1, fa_10, fa_01, hle, hg_36_0, hg_36_1, hq_36_1, hi_36]
      refine tt_1_favourite h (by omega) (by omega) ?_
      have ih' := fun w => ih (k + 1) w (by omega)
      rw [un_s] at ih'
      have hsm := vo_sm (n := n) (p := k) ds (ds_64 h)
      rcases fv_c (vf_ ds n k) 64 (by omega) with ⟨h1, h2⟩ | ⟨v0, h1, h2, h3⟩
      · have hk0 : kn_ (vf_ ds n k) 64 = 0 := by
          have : ∀ m, m ≤ 64 → kn_ (vf_ ds n k) m = 0 := by
            intro m
            induction m with
            | zero => intro _; rfl
            | succ m ih2 => intro hm; rw [kn_, ih2 (by omega), h2 m (by omega)]; rfl
          exact this 64 (by omega)
        rw [h1]
        rw [if_neg (by omega)] at ih'
        simp only [qq_1_disputedPlaces, bb_1_disputedPlaces_53, bb_1_disputedPlaces_47, bb_1_disputedPlaces_44, bb_1_disputedPlaces_4, bb_1_disputedPlaces_0, xo_il, xo_ll, xo_al, xo_is, xo_ls, xo_as, xo_ic, xo_ci, xo_cl, xo_iadd, xo_isub, xo_imul, xo_iand, xo_ior, xo_ixor, xo_ishl, xo_ishr, xo_iushr, xo_idiv, xo_irem, xo_ineg, xo_ladd, xo_lsub, xo_lmul, xo_land, xo_lor, xo_lxor, xo_ldiv, xo_lrem, xo_lneg, xo_lushr, xo_lshl, xo_lshr, xo_lcmp, xo_i2l, xo_l2i, xo_i2b, xo_i2s, xo_i2c, xo_dup, xo_pop, xo_zeq, xo_ceq, xo_zne, xo_cne, xo_zlt, xo_clt, xo_zge, xo_cge, xo_zgt, xo_cgt, xo_zle, xo_cle, xo_sw, xo_ts, xo_gf, xo_pfi, xo_pfl, xo_pfz, xo_pfr, xo_iald, xo_iast, xo_zast, xo_zald, xo_alen, xo_aald, xo_gs, xo_cv, xo_cs, xo_ca, xo_obj, xo_ri, xo_rz, xo_rl, xo_ra, xo_rc, xo_rb, xo_rv, xo_new, xo_newa, xo_anew, xo_aast, xo_mmax, xo_mmin, xo_mabs, xo_mmaxL, xo_mabsL, jw_ge, jw_st, jw_st2, jw_se, jw_un, jw_kk, jw_pp, jw_l4, jw_l1, jw_ps, jw_en, jw_N, jw_C, List.map_cons, List.map_nil, ↓reduceIte, Nat.reduceSub, Nat.reduceAdd, Nat.reduceEqDiff, Nat.reduceLeDiff, Nat.le_refl, Nat.zero_le, true_and, and_true, true_or, or_true, false_or, or_false, false_imp_iff, true_imp_iff, not_true_eq_false, not_false_eq_true, nI_0, nb_1, fa_10, fa_01, nI_1]
        exact ih' _
      · rw [h3]
        have hne : (nI v0 = -4) = False := bf4_ne (by omega)
        simp only [qq_1_disputedPlaces, bb_1_disputedPlaces_53, bb_1_disputedPlaces_4, bb_1_disputedPlaces_0, xo_il, xo_ll, xo_al, xo_is, xo_ls, xo_as, xo_ic, xo_ci, xo_cl, xo_iadd, xo_isub, xo_imul, xo_iand, xo_ior, xo_ixor, xo_ishl, xo_ishr, xo_iushr, xo_idiv, xo_irem, xo_ineg, xo_ladd, xo_lsub, xo_lmul, xo_land, xo_lor, xo_lxor, xo_ldiv, xo_lrem, xo_lneg, xo_lushr, xo_lshl, xo_lshr, xo_lcmp, xo_i2l, xo_l2i, xo_i2b, xo_i2s, xo_i2c, xo_dup, xo_pop, xo_zeq, xo_ceq, xo_zne, xo_cne, xo_zlt, xo_clt, xo_zge, xo_cge, xo_zgt, xo_cgt, xo_zle, xo_cle, xo_sw, xo_ts, xo_gf, xo_pfi, xo_pfl, xo_pfz, xo_pfr, xo_iald, xo_iast, xo_zast, xo_zald, xo_alen, xo_aald, xo_gs, xo_cv, xo_cs, xo_ca, xo_obj, xo_ri, xo_rz, xo_rl, xo_ra, xo_rc, xo_rb, xo_rv, xo_new, xo_newa, xo_anew, xo_aast, xo_mmax, xo_mmin, xo_mabs, xo_mmaxL, xo_mabsL, jw_ge, jw_st, jw_st2, jw_se, jw_un, jw_kk, jw_pp, jw_l4, jw_l1, jw_ps, jw_en, jw_N, jw_C, List.map_cons, List.map_nil, ↓reduceIte, Nat.reduceSub, Nat.reduceAdd, Nat.reduceEqDiff, Nat.reduceLeDiff, Nat.le_refl, Nat.zero_le, true_and, and_true, true_or, or_true, false_or, or_false, false_imp_iff, true_imp_iff, not_true_eq_false, not_false_eq_true, nI_0, nb_1, fa_10, fa_01, hne, hg_36_0, hg_36_1, hq_36_1, hi_36]
        refine tt_1_votesFor h (by omega) (by omega) (by omega) ?_
        simp only [qq_1_disputedPlaces, bb_1_disputedPlaces_53, bb_1_disputedPlaces_4, bb_1_disputedPlaces_0, xo_il, xo_ll, xo_al, xo_is, xo_ls, xo_as, xo_ic, xo_ci, xo_cl, xo_iadd, xo_isub, xo_imul, xo_iand, xo_ior, xo_ixor, xo_ishl, xo_ishr, xo_iushr, xo_idiv, xo_irem, xo_ineg, xo_ladd, xo_lsub, xo_lmul, xo_land, xo_lor, xo_lxor, xo_ldiv, xo_lrem, xo_lneg, xo_lushr, xo_lshl, xo_lshr, xo_lcmp, xo_i2l, xo_l2i, xo_i2b, xo_i2s, xo_i2c, xo_dup, xo_pop, xo_zeq, xo_ceq, xo_zne, xo_cne, xo_zlt, xo_clt, xo_zge, xo_cge, xo_zgt, xo_cgt, xo_zle, xo_cle, xo_sw, xo_ts, xo_gf, xo_pfi, xo_pfl, xo_pfz, xo_pfr, xo_iald, xo_iast, xo_zast, xo_zald, xo_alen, xo_aald, xo_gs, xo_cv, xo_cs, xo_ca, xo_obj, xo_ri, xo_rz, xo_rl, xo_ra, xo_rc, xo_rb, xo_rv, xo_new, xo_newa, xo_anew, xo_aast, xo_mmax, xo_mmin, xo_mabs, xo_mmaxL, xo_mabsL, jw_ge, jw_st, jw_st2, jw_se, jw_un, jw_kk, jw_pp, jw_l4, jw_l1, jw_ps, jw_en, jw_N, jw_C, List.map_cons, List.map_nil, ↓reduceIte, Nat.reduceSub, Nat.reduceAdd, Nat.reduceEqDiff, Nat.reduceLeDiff, Nat.le_refl, Nat.zero_le, true_and, and_true, true_or, or_true, false_or, or_false, false_imp_iff, true_imp_iff, not_true_eq_false, not_false_eq_true, nI_0, nb_1, fa_10, fa_01, hg_36_0, hg_36_1, hq_36_1, hi_36]
        refine tt_1_voters h (by omega) (by omega) ?_
        have hk1 := kn_1 (vf_ ds n k) h2 64 h1
        have hv1 : vf_ ds n k v0 ≤ ds.length := cp_le
        have hv2 : vo_ ds n k ≤ ds.length := cp_le
        simp only [qq_1_disputedPlaces, bb_1_disputedPlaces_53, bb_1_disputedPlaces_47, bb_1_disputedPlaces_44, bb_1_disputedPlaces_4, bb_1_disputedPlaces_0, xo_il, xo_ll, xo_al, xo_is, xo_ls, xo_as, xo_ic, xo_ci, xo_cl, xo_iadd, xo_isub, xo_imul, xo_iand, xo_ior, xo_ixor, xo_ishl, xo_ishr, xo_iushr, xo_idiv, xo_irem, xo_ineg, xo_ladd, xo_lsub, xo_lmul, xo_land, xo_lor, xo_lxor, xo_ldiv, xo_lrem, xo_lneg, xo_lushr, xo_lshl, xo_lshr, xo_lcmp, xo_i2l, xo_l2i, xo_i2b, xo_i2s, xo_i2c, xo_dup, xo_pop, xo_zeq, xo_ceq, xo_zne, xo_cne, xo_zlt, xo_clt, xo_zge, xo_cge, xo_zgt, xo_cgt, xo_zle, xo_cle, xo_sw, xo_ts, xo_gf, xo_pfi, xo_pfl, xo_pfz, xo_pfr, xo_iald, xo_iast, xo_zast, xo_zald, xo_alen, xo_aald, xo_gs, xo_cv, xo_cs, xo_ca, xo_obj, xo_ri, xo_rz, xo_rl, xo_ra, xo_rc, xo_rb, xo_rv, xo_new, xo_newa, xo_anew, xo_aast, xo_mmax, xo_mmin, xo_mabs, xo_mmaxL, xo_mabsL, jw_ge, jw_st, jw_st2, jw_se, jw_un, jw_kk, jw_pp, jw_l4, jw_l1, jw_ps, jw_en, jw_N, jw_C, List.map_cons, List.map_nil, ↓reduceIte, Nat.reduceSub, Nat.reduceAdd, Nat.reduceEqDiff, Nat.reduceLeDiff, Nat.le_refl, Nat.zero_le, true_and, and_true, true_or, or_true, false_or, or_false, false_imp_iff, true_imp_iff, not_true_eq_false, not_false_eq_true, nI_0, nb_1, fa_10, fa_01, nI_1, nu_p32 k (by omega), nu_or]
        rw [nI_leI (by omega) (by omega)]
        refine ⟨fun q => ?_, fun q => ?_⟩
        · rw [if_neg (by omega)] at ih'
          exact ih' _
        · rw [if_pos (by omega)] at ih'
          exact ih' _
  refine hP _ _ _ _ _ ?_
  simp only [qq_1_disputedPlaces, bb_1_disputedPlaces_53, bb_1_disputedPlaces_47, bb_1_disputedPlaces_44, bb_1_disputedPlaces_0, xo_il, xo_ll, xo_al, xo_is, xo_ls, xo_as, xo_ic, xo_ci, xo_cl, xo_iadd, xo_isub, xo_imul, xo_iand, xo_ior, xo_ixor, xo_ishl, xo_ishr, xo_iushr, xo_idiv, xo_irem, xo_ineg, xo_ladd, xo_lsub, xo_lmul, xo_land, xo_lor, xo_lxor, xo_ldiv, xo_lrem, xo_lneg, xo_lushr, xo_lshl, xo_lshr, xo_lcmp, xo_i2l, xo_l2i, xo_i2b, xo_i2s, xo_i2c, xo_dup, xo_pop, xo_zeq, xo_ceq, xo_zne, xo_cne, xo_zlt, xo_clt, xo_zge, xo_cge, xo_zgt, xo_cgt, xo_zle, xo_cle, xo_sw, xo_ts, xo_gf, xo_pfi, xo_pfl, xo_pfz, xo_pfr, xo_iald, xo_iast, xo_zast, xo_zald, xo_alen, xo_aald, xo_gs, xo_cv, xo_cs, xo_ca, xo_obj, xo_ri, xo_rz, xo_rl, xo_ra, xo_rc, xo_rb, xo_rv, xo_new, xo_newa, xo_anew, xo_aast, xo_mmax, xo_mmin, xo_mabs, xo_mmaxL, xo_mabsL, jw_ge, jw_st, jw_st2, jw_se, jw_un, jw_kk, jw_pp, jw_l4, jw_l1, jw_ps, jw_en, jw_N, jw_C, List.map_cons, List.map_nil, ↓reduceIte, Nat.reduceSub, Nat.reduceAdd, Nat.reduceEqDiff, Nat.reduceLeDiff, Nat.le_refl, Nat.zero_le, true_and, and_true, true_or, or_true, false_or, or_false, false_imp_iff, true_imp_iff, not_true_eq_false, not_false_eq_true, nI_0, nb_1, fa_10, fa_01]
  exact lp n 0 _ (by omega)
end VT
