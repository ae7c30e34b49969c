/-! tokens -/
def al_ (c : Nat) : Bool := decide (97 ≤ c ∧ c ≤ 122)
def dg_ (c : Nat) : Bool := decide (48 ≤ c ∧ c ≤ 57)
def bl_ (c : Nat) : Bool := decide (c = 32)
def ru_ (f : Nat → Bool) (t : List Nat) (p : Nat) : Nat := p + ((t.drop p).takeWhile f).length
theorem ru_s {f : Nat → Bool} {t : List Nat} {p : Nat} (hp : p < t.length) (hf : f (t.getD p 0) = true) : ru_ f t p = ru_ f t (p + 1) := by
  unfold ru_
  rw [dr_s hp, List.takeWhile_cons, if_pos hf, List.length_cons]
  omega
theorem ru_n {f : Nat → Bool} {t : List Nat} {p : Nat} (h : ¬ (p < t.length ∧ f (t.getD p 0) = true)) : ru_ f t p = p := by
  unfold ru_
  by_cases hp : p < t.length
  · rw [dr_s hp, List.takeWhile_cons, if_neg (fun q => h ⟨hp, q⟩)]; rfl
  · rw [List.drop_eq_nil_of_le (by omega)]; rfl
theorem ru_ge {f : Nat → Bool} {t : List Nat} {p : Nat} : p ≤ ru_ f t p := by unfold ru_; omega
theorem ru_le {f : Nat → Bool} {t : List Nat} : ∀ (m p : Nat), t.length = p + m → ru_ f t p ≤ t.length
  | 0, p, h => by rw [ru_n (by omega)]; omega
  | m + 1, p, h => by
    by_cases hf : f (t.getD p 0) = true
    · rw [ru_s (by omega) hf]; exact ru_le m (p + 1) (by omega)
    · rw [ru_n (fun q => hf q.2)]; omega
theorem ru_in {f : Nat → Bool} {t : List Nat} : ∀ (m p : Nat), t.length = p + m → ∀ j, p ≤ j → j < ru_ f t p → f (t.getD j 0) = true
  | 0, p, h, j, h1, h2 => by rw [ru_n (by omega)] at h2; omega
  | m + 1, p, h, j, h1, h2 => by
    by_cases hf : f (t.getD p 0) = true
    · by_cases hj : j = p
      · subst hj; exact hf
      · rw [ru_s (by omega) hf] at h2
        exact ru_in m (p + 1) (by omega) j (by omega) h2
    · rw [ru_n (fun q => hf q.2)] at h2; omega
theorem ru_end {f : Nat → Bool} {t : List Nat} : ∀ (m p : Nat), t.length = p + m → ¬ (ru_ f t p < t.length ∧ f (t.getD (ru_ f t p) 0) = true)
  | 0, p, h => by rw [ru_n (by omega)]; omega
  | m + 1, p, h => by
    by_cases hf : f (t.getD p 0) = true
    · rw [ru_s (by omega) hf]; exact ru_end m (p + 1) (by omega)
    · have : ¬ (p < t.length ∧ f (t.getD p 0) = true) := fun q => hf q.2
      rw [ru_n this]; exact this
/-- a number's worth -/
def nv_ (t : List Nat) (s : Nat) : Nat → Nat
  | 0 => 0
  | n + 1 => 10 * nv_ t s n + t.getD (s + n) 0 - 48
/-- the token behind p: its kind (0 the end, 1 a name, 2 a number, 3 a semicolon, 4 none), what it means, where it begins, where the next may begin -/
def tk_ (t : List Nat) (p : Nat) : Nat × Nat × Nat × Nat :=
  if ru_ bl_ t p < t.length then
    if al_ (t.getD (ru_ bl_ t p) 0) = true then
      match wi_ ((t.drop (ru_ bl_ t p)).take (ru_ al_ t (ru_ bl_ t p) - ru_ bl_ t p)) with
      | some w => (1, w, ru_ bl_ t p, ru_ al_ t (ru_ bl_ t p))
      | none => (4, 0, ru_ bl_ t p, 0)
    else if dg_ (t.getD (ru_ bl_ t p) 0) = true then
      if ru_ dg_ t (ru_ bl_ t p) - ru_ bl_ t p ≤ 2 then (2, nv_ t (ru_ bl_ t p) (ru_ dg_ t (ru_ bl_ t p) - ru_ bl_ t p), ru_ bl_ t p, ru_ dg_ t (ru_ bl_ t p))
      else (4, 0, ru_ bl_ t p, 0)
    else if t.getD (ru_ bl_ t p) 0 = 59 then (3, 0, ru_ bl_ t p, ru_ bl_ t p + 1) else (4, 0, ru_ bl_ t p, 0)
  else (0, 0, ru_ bl_ t p, ru_ bl_ t p)
/-- what takeToken leaves -/
def tp_ (I I2 : Nat → Nat → Int32) (t : List Nat) (p : Nat) : Prop := (∀ q, q ≠ 5 → I2 q = I q) ∧ I2 5 2 = I 5 2 ∧ I2 5 3 = I 5 3 ∧ ((tk_ t p).1 = 4 → I2 5 4 = 1 ∧ I2 5 5 = nI (tk_ t p).2.2.1 ∧ I2 5 6 = nI 4) ∧ ((tk_ t p).1 ≠ 4 → I2 5 4 = 0 ∧ I2 5 6 = nI (tk_ t p).1 ∧ I2 5 7 = nI (tk_ t p).2.2.1 ∧ I2 5 8 = nI (tk_ t p).2.2.2 ∧ ((tk_ t p).1 = 1 ∨ (tk_ t p).1 = 2 → I2 5 9 = nI (tk_ t p).2.1))
section TK
variable {I : Nat → Nat → Int32} {J : Nat → Nat → Int64} {K : jw_K} {t : List Nat}
theorem t_256 (ht8 : ∀ b ∈ t, b < 256) (k : Nat) : t.getD k 0 < 256 := by
  by_cases h : k < t.length
  · exact ht8 _ (gd_mem h)
  · simp [List.getD, List.getElem?_eq_none (by omega : t.length ≤ k)]
theorem tt_9_isBetween (ht : rn_ I 6 t) (htn : t.length ≤ 160) (ht8 : ∀ b ∈ t, b < 256) {p a b : Nat} (hp : p < 1000) (ha : a < 1000) (hb : b < 1000) (hK : K (some (.int (if p < t.length ∧ a ≤ t.getD p 0 ∧ t.getD p 0 ≤ b then 1 else 0))) (hp_ I J)) : cc_9_isBetween [.ref 5, .int (nI p), .int (nI a), .int (nI b)] (hp_ I J) K := by
  refine jw_Cin (Nat.le_of_ble_eq_true rfl) rfl (fun P hP => hP _ _ _ _ _ ?_)
  have h8 := t_256 ht8 p
  simp only [qq_9_isBetween, bb_9_isBetween_40, bb_9_isBetween_39, bb_9_isBetween_0, xo_il, xo_ll, xo_al, xo_is, xo_ls, xo_as, xo_ic, xo_ci, xo_cl, xo_iadd, xo_isub, xo_imul, xo_iand, xo_ior, xo_ixor, xo_ishl, xo_ishr, xo_iushr, xo_idiv, xo_irem, xo_ineg, xo_ladd, xo_lsub, xo_lmul, xo_land, xo_lor, xo_lxor, xo_ldiv, xo_lrem, xo_lneg, xo_lushr, xo_lshl, xo_lshr, xo_lcmp, xo_i2l, xo_l2i, xo_i2b, xo_i2s, xo_i2c, xo_dup, xo_pop, xo_zeq, xo_ceq, xo_zne, xo_cne, xo_zlt, xo_clt, xo_zge, xo_cge, xo_zgt, xo_cgt, xo_zle, xo_cle, xo_sw, xo_ts, xo_gf, xo_pfi, xo_pfl, xo_pfz, xo_pfr, xo_iald, xo_iast, xo_zast, xo_zald, xo_alen, xo_aald, xo_gs, xo_cv, xo_cs, xo_ca, xo_obj, xo_ri, xo_rz, xo_rl, xo_ra, xo_rc, xo_rb, xo_rv, xo_new, xo_newa, xo_anew, xo_aast, xo_mmax, xo_mmin, xo_mabs, xo_mmaxL, xo_mabsL, jw_ge, jw_st, jw_st2, jw_se, jw_un, jw_kk, jw_pp, jw_l4, jw_l1, jw_ps, jw_en, jw_N, jw_C, List.map_cons, List.map_nil, ↓reduceIte, Nat.reduceSub, Nat.reduceAdd, Nat.reduceEqDiff, Nat.reduceLeDiff, Nat.le_refl, Nat.zero_le, true_and, and_true, true_or, or_true, false_or, or_false, false_imp_iff, true_imp_iff, not_true_eq_false, not_false_eq_true, nI_0, nb_1, fa_10, fa_01, hg_5_0, hg_5_1, hg_5_2, hq_5_2, hg_5_3, hq_5_3, hg_5_4, hq_5_4, hg_5_5, hq_5_5, hg_5_6, hq_5_6, hg_5_7, hq_5_7, hg_5_8, hq_5_8, hg_5_9, hq_5_9, hi_5, hr_i hr6]
  refine rn_has hr6 ht htn p (by omega) ?_
  by_cases h1 : p < t.length
  · rw [if_pos h1]
    simp only [qq_9_isBetween, bb_9_isBetween_40, bb_9_isBetween_39, bb_9_isBetween_0, xo_il, xo_ll, xo_al, xo_is, xo_ls, xo_as, xo_ic, xo_ci, xo_cl, xo_iadd, xo_isub, xo_imul, xo_iand, xo_ior, xo_ixor, xo_ishl, xo_ishr, xo_iushr, xo_idiv, xo_irem, xo_ineg, xo_ladd, xo_lsub, xo_lmul, xo_land, xo_lor, xo_lxor, xo_ldiv, xo_lrem, xo_lneg, xo_lushr, xo_lshl, xo_lshr, xo_lcmp, xo_i2l, xo_l2i, xo_i2b, xo_i2s, xo_i2c, xo_dup, xo_pop, xo_zeq, xo_ceq, xo_zne, xo_cne, xo_zlt, xo_clt, xo_zge, xo_cge, xo_zgt, xo_cgt, xo_zle, xo_cle, xo_sw, xo_ts, xo_gf, xo_pfi, xo_pfl, xo_pfz, xo_pfr, xo_iald, xo_iast, xo_zast, xo_zald, xo_alen, xo_aald, xo_gs, xo_cv, xo_cs, xo_ca, xo_obj, xo_ri, xo_rz, xo_rl, xo_ra, xo_rc, xo_rb, xo_rv, xo_new, xo_newa, xo_anew, xo_aast, xo_mmax, xo_mmin, xo_mabs, xo_mmaxL, xo_mabsL, jw_ge, jw_st, jw_st2, jw_se, jw_un, jw_kk, jw_pp, jw_l4, jw_l1, jw_ps, jw_en, jw_N, jw_C, List.map_cons, List.map_nil, ↓reduceIte, Nat.reduceSub, Nat.reduceAdd, Nat.reduceEqDiff, Nat.reduceLeDiff, Nat.le_refl, Nat.zero_le, true_and, and_true, true_or, or_true, false_or, or_false, false_imp_iff, true_imp_iff, not_true_eq_false, not_false_eq_true, nI_0, nb_1, fa_10, fa_01, hg_5_0, hg_5_1, hg_5_2, hq_5_2, hg_5_3, hq_5_3, hg_5_4, hq_5_4, hg_5_5, hq_5_5, hg_5_6, hq_5_6, hg_5_7, hq_5_7, hg_5_8, hq_5_8, hg_5_9, hq_5_9, hi_5, hr_i hr6]
    refine rn_at hr6 ht htn p (by omega) ?_
    simp only [qq_9_isBetween, bb_9_isBetween_40, bb_9_isBetween_39, bb_9_isBetween_0, xo_il, xo_ll, xo_al, xo_is, xo_ls, xo_as, xo_ic, xo_ci, xo_cl, xo_iadd, xo_isub, xo_imul, xo_iand, xo_ior, xo_ixor, xo_ishl, xo_ishr, xo_iushr, xo_idiv, xo_irem, xo_ineg, xo_ladd, xo_lsub, xo_lmul, xo_land, xo_lor, xo_lxor, xo_ldiv, xo_lrem, xo_lneg, xo_lushr, xo_lshl, xo_lshr, xo_lcmp, xo_i2l, xo_l2i, xo_i2b, xo_i2s, xo_i2c, xo_dup, xo_pop, xo_zeq, xo_ceq, xo_zne, xo_cne, xo_zlt, xo_clt, xo_zge, xo_cge, xo_zgt, xo_cgt, xo_zle, xo_cle, xo_sw, xo_ts, xo_gf, xo_pfi, xo_pfl, xo_pfz, xo_pfr, xo_iald, xo_iast, xo_zast, xo_zald, xo_alen, xo_aald, xo_gs, xo_cv, xo_cs, xo_ca, xo_obj, xo_ri, xo_rz, xo_rl, xo_ra, xo_rc, xo_rb, xo_rv, xo_new, xo_newa, xo_anew, xo_aast, xo_mmax, xo_mmin, xo_mabs, xo_mmaxL, xo_mabsL, jw_ge, jw_st, jw_st2, jw_se, jw_un, jw_kk, jw_pp, jw_l4, jw_l1, jw_ps, jw_en, jw_N, jw_C, List.map_cons, List.map_nil, ↓reduceIte, Nat.reduceSub, Nat.reduceAdd, Nat.reduceEqDiff, Nat.reduceLeDiff, Nat.le_refl, Nat.zero_le, true_and, and_true, true_or, or_true, false_or, or_false, false_imp_iff, true_imp_iff, not_true_eq_false, not_false_eq_true, nI_0, nb_1, fa_10, fa_01, hg_5_0, hg_5_1, hg_5_2, hq_5_2, hg_5_3, hq_5_3, hg_5_4, hq_5_4, hg_5_5, hq_5_5, hg_5_6, hq_5_6, hg_5_7, hq_5_7, hg_5_8, hq_5_8, hg_5_9, hq_5_9, hi_5, hr_i hr6]
    rw [nI_ltI (by omega) (by omega)]
    refine ⟨fun q => ?_, fun q => rn_at hr6 ht htn p (by omega) ?_⟩
    · rw [if_neg (by omega)] at hK; exact hK
    · simp only [qq_9_isBetween, bb_9_isBetween_40, bb_9_isBetween_39, bb_9_isBetween_0, xo_il, xo_ll, xo_al, xo_is, xo_ls, xo_as, xo_ic, xo_ci, xo_cl, xo_iadd, xo_isub, xo_imul, xo_iand, xo_ior, xo_ixor, xo_ishl, xo_ishr, xo_iushr, xo_idiv, xo_irem, xo_ineg, xo_ladd, xo_lsub, xo_lmul, xo_land, xo_lor, xo_lxor, xo_ldiv, xo_lrem, xo_lneg, xo_lushr, xo_lshl, xo_lshr, xo_lcmp, xo_i2l, xo_l2i, xo_i2b, xo_i2s, xo_i2c, xo_dup, xo_pop, xo_zeq, xo_ceq, xo_zne, xo_cne, xo_zlt, xo_clt, xo_zge, xo_cge, xo_zgt, xo_cgt, xo_zle, xo_cle, xo_sw, xo_ts, xo_gf, xo_pfi, xo_pfl, xo_pfz, xo_pfr, xo_iald, xo_iast, xo_zast, xo_zald, xo_alen, xo_aald, xo_gs, xo_cv, xo_cs, xo_ca, xo_obj, xo_ri, xo_rz, xo_rl, xo_ra, xo_rc, xo_rb, xo_rv, xo_new, xo_newa, xo_anew, xo_aast, xo_mmax, xo_mmin, xo_mabs, xo_mmaxL, xo_mabsL, jw_ge, jw_st, jw_st2, jw_se, jw_un, jw_kk, jw_pp, jw_l4, jw_l1, jw_ps, jw_en, jw_N, jw_C, List.map_cons, List.map_nil, ↓reduceIte, Nat.reduceSub, Nat.reduceAdd, Nat.reduceEqDiff, Nat.reduceLeDiff, Nat.le_refl, Nat.zero_le, true_and, and_true, true_or, or_true, false_or, or_false, false_imp_iff, true_imp_iff, not_true_eq_false, not_false_eq_true, nI_0, nb_1, fa_10, fa_01]
      rw [nI_ltI (by omega) (by omega)]
      refine ⟨fun q2 => ?_, fun q2 => ?_⟩
      · rw [if_neg (by omega)] at hK; exact hK
      · rw [if_pos (by omega)] at hK; exact hK
  · rw [if_neg h1]
    rw [if_neg (fun q => h1 q.1)] at hK
    simp only [qq_9_isBetween, bb_9_isBetween_40, bb_9_isBetween_39, bb_9_isBetween_0, xo_il, xo_ll, xo_al, xo_is, xo_ls, xo_as, xo_ic, xo_ci, xo_cl, xo_iadd, xo_isub, xo_imul, xo_iand, xo_ior, xo_ixor, xo_ishl, xo_ishr, xo_iushr, xo_idiv, xo_irem, xo_ineg, xo_ladd, xo_lsub, xo_lmul, xo_land, xo_lor, xo_lxor, xo_ldiv, xo_lrem, xo_lneg, xo_lushr, xo_lshl, xo_lshr, xo_lcmp, xo_i2l, xo_l2i, xo_i2b, xo_i2s, xo_i2c, xo_dup, xo_pop, xo_zeq, xo_ceq, xo_zne, xo_cne, xo_zlt, xo_clt, xo_zge, xo_cge, xo_zgt, xo_cgt, xo_zle, xo_cle, xo_sw, xo_ts, xo_gf, xo_pfi, xo_pfl, xo_pfz, xo_pfr, xo_iald, xo_iast, xo_zast, xo_zald, xo_alen, xo_aald, xo_gs, xo_cv, xo_cs, xo_ca, xo_obj, xo_ri, xo_rz, xo_rl, xo_ra, xo_rc, xo_rb, xo_rv, xo_new, xo_newa, xo_anew, xo_aast, xo_mmax, xo_mmin, xo_mabs, xo_mmaxL, xo_mabsL, jw_ge, jw_st, jw_st2, jw_se, jw_un, jw_kk, jw_pp, jw_l4, jw_l1, jw_ps, jw_en, jw_N, jw_C, List.map_cons, List.map_nil, ↓reduceIte, Nat.reduceSub, Nat.reduceAdd, Nat.reduceEqDiff, Nat.reduceLeDiff, Nat.le_refl, Nat.zero_le, true_and, and_true, true_or, or_true, false_or, or_false, false_imp_iff, true_imp_iff, not_true_eq_false, not_false_eq_true, nI_0, nb_1, fa_10, fa_01]
    exact hK
theorem tt_9_passBetween (ht : rn_ I 6 t) (htn : t.length ≤ 160) (ht8 : ∀ b ∈ t, b < 256) {p a b : Nat} {f : Nat → Bool} (hf : ∀ c, f c = decide (a ≤ c ∧ c ≤ b)) (hp : p ≤ t.length) (ha : a < 1000) (hb : b < 1000) (h8 : I 5 8 = nI p) (hK : ∀ I2, (∀ q, q ≠ 5 → I2 q = I q) → (∀ j, j ≠ 8 → I2 5 j = I 5 j) → I2 5 8 = nI (ru_ f t p) → K none (hp_ I2 J)) : cc_9_passBetween [.ref 5, .int (nI a), .int (nI b)] (hp_ I J) K := by
  refine jw_Cin (ls := [.ref 5, .int (nI a), .int (nI b)]) (Nat.le_of_ble_eq_true rfl) (by simp only [jw_en, Nat.reduceSub]) (fun P hP => ?_)
  have lp : ∀ (m p1 : Nat) (I1 : Nat → Nat → Int32), t.length = p1 + m → (∀ q, q ≠ 5 → I1 q = I q) → (∀ j, j ≠ 8 → I1 5 j = I 5 j) → I1 5 8 = nI p1 → ru_ f t p1 = ru_ f t p → P 0 [.ref 5, .int (nI a), .int (nI b)] [] (hp_ I1 J) (0, 0) := by
    intro m
    induction m with
    | zero =>
      intro p1 I1 hm h1 h2 h3 h4
      have ht1 : rn_ I1 6 t := rn_eq ht (h1 _ (by decide)) (h1 _ (by decide))
      have hle : nI t.length ≤ nI p1 := (nI_leI (by omega) (by omega)).mpr (by omega)
      refine hP _ _ _ _ _ ?_
      simp only [qq_9_passBetween, bb_9_passBetween_40, bb_9_passBetween_0, xo_il, xo_ll, xo_al, xo_is, xo_ls, xo_as, xo_ic, xo_ci, xo_cl, xo_iadd, xo_isub, xo_imul, xo_iand, xo_ior, xo_ixor, xo_ishl, xo_ishr, xo_iushr, xo_idiv, xo_irem, xo_ineg, xo_ladd, xo_lsub, xo_lmul, xo_land, xo_lor, xo_lxor, xo_ldiv, xo_lrem, xo_lneg, xo_lushr, xo_lshl, xo_lshr, xo_lcmp, xo_i2l, xo_l2i, xo_i2b, xo_i2s, xo_i2c, xo_dup, xo_pop, xo_zeq, xo_ceq, xo_zne, xo_cne, xo_zlt, xo_clt, xo_zge, xo_cge, xo_zgt, xo_cgt, xo_zle, xo_cle, xo_sw, xo_ts, xo_gf, xo_pfi, xo_pfl, xo_pfz, xo_pfr, xo_iald, xo_iast, xo_zast, xo_zald, xo_alen, xo_aald, xo_gs, xo_cv, xo_cs, xo_ca, xo_obj, xo_ri, xo_rz, xo_rl, xo_ra, xo_rc, xo_rb, xo_rv, xo_new, xo_newa, xo_anew, xo_aast, xo_mmax, xo_mmin, xo_mabs, xo_mmaxL, xo_mabsL, jw_ge, jw_st, jw_st2, jw_se, jw_un, jw_kk, jw_pp, jw_l4, jw_l1, jw_ps, jw_en, jw_N, jw_C, List.map_cons, List.map_nil, ↓reduceIte, Nat.reduceSub, Nat.reduceAdd, Nat.reduceEqDiff, Nat.reduceLeDiff, Nat.le_refl, Nat.zero_le, true_and, and_true, true_or, or_true, false_or, or_false, false_imp_iff, true_imp_iff, not_true_eq_false, not_false_eq_true, nI_0, nb_1, fa_10, fa_01, hg_5_0, hg_5_1, hg_5_2, hq_5_2, hg_5_3, hq_5_3, hg_5_4, hq_5_4, hg_5_5, hq_5_5, hg_5_6, hq_5_6, hg_5_7, hq_5_7, hg_5_8, hq_5_8, hg_5_9, hq_5_9, hi_5, hr_i hr6, h3]
      refine rn_size hr6 ht1 ?_
      simp only [qq_9_passBetween, bb_9_passBetween_40, bb_9_passBetween_0, xo_il, xo_ll, xo_al, xo_is, xo_ls, xo_as, xo_ic, xo_ci, xo_cl, xo_iadd, xo_isub, xo_imul, xo_iand, xo_ior, xo_ixor, xo_ishl, xo_ishr, xo_iushr, xo_idiv, xo_irem, xo_ineg, xo_ladd, xo_lsub, xo_lmul, xo_land, xo_lor, xo_lxor, xo_ldiv, xo_lrem, xo_lneg, xo_lushr, xo_lshl, xo_lshr, xo_lcmp, xo_i2l, xo_l2i, xo_i2b, xo_i2s, xo_i2c, xo_dup, xo_pop, xo_zeq, xo_ceq, xo_zne, xo_cne, xo_zlt, xo_clt, xo_zge, xo_cge, xo_zgt, xo_cgt, xo_zle, xo_cle, xo_sw, xo_ts, xo_gf, xo_pfi, xo_pfl, xo_pfz, xo_pfr, xo_iald, xo_iast, xo_zast, xo_zald, xo_alen, xo_aald, xo_gs, xo_cv, xo_cs, xo_ca, xo_obj, xo_ri, xo_rz, xo_rl, xo_ra, xo_rc, xo_rb, xo_rv, xo_new, xo_newa, xo_anew, xo_aast, xo_mmax, xo_mmin, xo_mabs, xo_mmaxL, xo_mabsL, jw_ge, jw_st, jw_st2, jw_se, jw_un, jw_kk, jw_pp, jw_l4, jw_l1, jw_ps, jw_en, jw_N, jw_C, List.map_cons, List.map_nil, ↓reduceIte, Nat.reduceSub, Nat.reduceAdd, Nat.reduceEqDiff, Nat.reduceLeDiff, Nat.le_refl, Nat.zero_le, true_and, and_true, true_or, or_true, false_or, or_false, false_imp_iff, true_imp_iff, not_true_eq_false, not_false_eq_true, nI_0, nb_1, fa_10, fa_01, hle]
      exact hK I1 h1 h2 (by rw [← h4, ru_n (by omega), h3])
    | succ m ih =>
      intro p1 I1 hm h1 h2 h3 h4
      have ht1 : rn_ I1 6 t := rn_eq ht (h1 _ (by decide)) (h1 _ (by decide))
      have hle : ¬ nI t.length ≤ nI p1 := (nu_gt (by omega) (by omega)).mpr (by omega)
      refine hP _ _ _ _ _ ?_
      simp only [qq_9_passBetween, bb_9_passBetween_40, bb_9_passBetween_0, xo_il, xo_ll, xo_al, xo_is, xo_ls, xo_as, xo_ic, xo_ci, xo_cl, xo_iadd, xo_isub, xo_imul, xo_iand, xo_ior, xo_ixor, xo_ishl, xo_ishr, xo_iushr, xo_idiv, xo_irem, xo_ineg, xo_ladd, xo_lsub, xo_lmul, xo_land, xo_lor, xo_lxor, xo_ldiv, xo_lrem, xo_lneg, xo_lushr, xo_lshl, xo_lshr, xo_lcmp, xo_i2l, xo_l2i, xo_i2b, xo_i2s, xo_i2c, xo_dup, xo_pop, xo_zeq, xo_ceq, xo_zne, xo_cne, xo_zlt, xo_clt, xo_zge, xo_cge, xo_zgt, xo_cgt, xo_zle, xo_cle, xo_sw, xo_ts, xo_gf, xo_pfi, xo_pfl, xo_pfz, xo_pfr, xo_iald, xo_iast, xo_zast, xo_zald, xo_alen, xo_aald, xo_gs, xo_cv, xo_cs, xo_ca, xo_obj, xo_ri, xo_rz, xo_rl, xo_ra, xo_rc, xo_rb, xo_rv, xo_new, xo_newa, xo_anew, xo_aast, xo_mmax, xo_mmin, xo_mabs, xo_mmaxL, xo_mabsL, jw_ge, jw_st, jw_st2, jw_se, jw_un, jw_kk, jw_pp, jw_l4, jw_l1, jw_ps, jw_en, jw_N, jw_C, List.map_cons, List.map_nil, ↓reduceIte, Nat.reduceSub, Nat.reduceAdd, Nat.reduceEqDiff, Nat.reduceLeDiff, Nat.le_refl, Nat.zero_le, true_and, and_true, true_or, or_true, false_or, or_false, false_imp_iff, true_imp_iff, not_true_eq_false, not_false_eq_true, nI_0, nb_1, fa_10, fa_01, hg_5_0, hg_5_1, hg_5_2, hq_5_2, hg_5_3, hq_5_3, hg_5_4, hq_5_4, hg_5_5, hq_5_5, hg_5_6, hq_5_6, hg_5_7, hq_5_7, hg_5_8, hq_5_8, hg_5_9, hq_5_9, hi_5, hr_i hr6, h3]
      refine rn_size hr6 ht1 ?_
      simp only [qq_9_passBetween, bb_9_passBetween_40, bb_9_passBetween_0, xo_il, xo_ll, xo_al, xo_is, xo_ls, xo_as, xo_ic, xo_ci, xo_cl, xo_iadd, xo_isub, xo_imul, xo_iand, xo_ior, xo_ixor, xo_ishl, xo_ishr, xo_iushr, xo_idiv, xo_irem, xo_ineg, xo_ladd, xo_lsub, xo_lmul, xo_land, xo_lor, xo_lxor, xo_ldiv, xo_lrem, xo_lneg, xo_lushr, xo_lshl, xo_lshr, xo_lcmp, xo_i2l, xo_l2i, xo_i2b, xo_i2s, xo_i2c, xo_dup, xo_pop, xo_zeq, xo_ceq, xo_zne, xo_cne, xo_zlt, xo_clt, xo_zge, xo_cge, xo_zgt, xo_cgt, xo_zle, xo_cle, xo_sw, xo_ts, xo_gf, xo_pfi, xo_pfl, xo_pfz, xo_pfr, xo_iald, xo_iast, xo_zast, xo_zald, xo_alen, xo_aald, xo_gs, xo_cv, xo_cs, xo_ca, xo_obj, xo_ri, xo_rz, xo_rl, xo_ra, xo_rc, xo_rb, xo_rv, xo_new, xo_newa, xo_anew, xo_aast, xo_mmax, xo_mmin, xo_mabs, xo_mmaxL, xo_mabsL, jw_ge, jw_st, jw_st2, jw_se, jw_un, jw_kk, jw_pp, jw_l4, jw_l1, jw_ps, jw_en, jw_N, jw_C, List.map_cons, List.map_nil, ↓reduceIte, Nat.reduceSub, Nat.reduceAdd, Nat.reduceEqDiff, Nat.reduceLeDiff, Nat.le_refl, Nat.zero_le, true_and, and_true, true_or, or_true, false_or, or_false, false_imp_iff, true_imp_iff, not_true_eq_false, not_false_eq_true, nI_0, nb_1, fa_10, fa_01, hle, hg_5_0, hg_5_1, hg_5_2, hq_5_2, hg_5_3, hq_5_3, hg_5_4, hq_5_4, hg_5_5, hq_5_5, hg_5_6, hq_5_6, hg_5_7, hq_5_7, hg_5_8, hq_5_8, hg_5_9, hq_5_9, hi_5, h3]
      refine tt_9_isBetween ht1 htn ht8 (by omega) ha hb ?_
      by_cases q : p1 < t.length ∧ a ≤ t.getD p1 0 ∧ t.getD p1 0 ≤ b
      · rw [if_pos q]
        simp only [qq_9_passBetween, bb_9_passBetween_40, bb_9_passBetween_0, xo_il, xo_ll, xo_al, xo_is, xo_ls, xo_as, xo_ic, xo_ci, xo_cl, xo_iadd, xo_isub, xo_imul, xo_iand, xo_ior, xo_ixor, xo_ishl, xo_ishr, xo_iushr, xo_idiv, xo_irem, xo_ineg, xo_ladd, xo_lsub, xo_lmul, xo_land, xo_lor, xo_lxor, xo_ldiv, xo_lrem, xo_lneg, xo_lushr, xo_lshl, xo_lshr, xo_lcmp, xo_i2l, xo_l2i, xo_i2b, xo_i2s, xo_i2c, xo_dup, xo_pop, xo_zeq, xo_ceq, xo_zne, xo_cne, xo_zlt, xo_clt, xo_zge, xo_cge, xo_zgt, xo_cgt, xo_zle, xo_cle, xo_sw, xo_ts, xo_gf, xo_pfi, xo_pfl, xo_pfz, xo_pfr, xo_iald, xo_iast, xo_zast, xo_zald, xo_alen, xo_aald, xo_gs, xo_cv, xo_cs, xo_ca, xo_obj, xo_ri, xo_rz, xo_rl, xo_ra, xo_rc, xo_rb, xo_rv, xo_new, xo_newa, xo_anew, xo_aast, xo_mmax, xo_mmin, xo_mabs, xo_mmaxL, xo_mabsL, jw_ge, jw_st, jw_st2, jw_se, jw_un, jw_kk, jw_pp, jw_l4, jw_l1, jw_ps, jw_en, jw_N, jw_C, List.map_cons, List.map_nil, ↓reduceIte, Nat.reduceSub, Nat.reduceAdd, Nat.reduceEqDiff, Nat.reduceLeDiff, Nat.le_refl, Nat.zero_le, true_and, and_true, true_or, or_true, false_or, or_false, false_imp_iff, true_imp_iff, not_true_eq_false, not_false_eq_true, nI_0, nb_1, fa_10, fa_01, hg_5_0, hg_5_1, hg_5_2, hq_5_2, hg_5_3, hq_5_3, hg_5_4, hq_5_4, hg_5_5, hq_5_5, hg_5_6, hq_5_6, hg_5_7, hq_5_7, hg_5_8, hq_5_8, hg_5_9, hq_5_9, hi_5, h3, nI_1]
        refine ih (p1 + 1) _ (by omega) (fun r hr => (hw_o hr).trans (h1 r hr)) (fun j hj => (hw_i hj).trans (h2 j hj)) hw_s ?_
        rw [← h4, ← ru_s (f := f) q.1 (by rw [hf]; simpa using q.2)]
      · rw [if_neg q]
        simp only [qq_9_passBetween, bb_9_passBetween_40, bb_9_passBetween_0, xo_il, xo_ll, xo_al, xo_is, xo_ls, xo_as, xo_ic, xo_ci, xo_cl, xo_iadd, xo_isub, xo_imul, xo_iand, xo_ior, xo_ixor, xo_ishl, xo_ishr, xo_iushr, xo_idiv, xo_irem, xo_ineg, xo_ladd, xo_lsub, xo_lmul, xo_land, xo_lor, xo_lxor, xo_ldiv, xo_lrem, xo_lneg, xo_lushr, xo_lshl, xo_lshr, xo_lcmp, xo_i2l, xo_l2i, xo_i2b, xo_i2s, xo_i2c, xo_dup, xo_pop, xo_zeq, xo_ceq, xo_zne, xo_cne, xo_zlt, xo_clt, xo_zge, xo_cge, xo_zgt, xo_cgt, xo_zle, xo_cle, xo_sw, xo_ts, xo_gf, xo_pfi, xo_pfl, xo_pfz, xo_pfr, xo_iald, xo_iast, xo_zast, xo_zald, xo_alen, xo_aald, xo_gs, xo_cv, xo_cs, xo_ca, xo_obj, xo_ri, xo_rz, xo_rl, xo_ra, xo_rc, xo_rb, xo_rv, xo_new, xo_newa, xo_anew, xo_aast, xo_mmax, xo_mmin, xo_mabs, xo_mmaxL, xo_mabsL, jw_ge, jw_st, jw_st2, jw_se, jw_un, jw_kk, jw_pp, jw_l4, jw_l1, jw_ps, jw_en, jw_N, jw_C, List.map_cons, List.map_nil, ↓reduceIte, Nat.reduceSub, Nat.reduceAdd, Nat.reduceEqDiff, Nat.reduceLeDiff, Nat.le_refl, Nat.zero_le, true_and, and_true, true_or, or_true, false_or, or_false, false_imp_iff, true_imp_iff, not_true_eq_false, not_false_eq_true, nI_0, nb_1, fa_10, fa_01]
        exact hK I1 h1 h2 (by rw [← h4, ru_n (fun r => q ⟨r.1, by have := r.2; rw [hf] at this; simpa using this⟩), h3])
  exact lp (t.length - p) p I (by omega) (fun _ _ => rfl) (fun _ _ => rfl) h8 rfl
theorem nv_le {s : Nat} (hd : ∀ j, t.getD j 0 < 256) : nv_ t s 0 = 0 ∧ nv_ t s 1 ≤ 255 ∧ nv_ t s 2 ≤ 2805 := by
  have h0 := hd (s + 0)
  have h1 := hd (s + 1)
  refine ⟨rfl, ?_, ?_⟩ <;> simp only [nv_] <;> omega
theorem tt_9_numberFrom (ht : rn_ I 6 t) (htn : t.length ≤ 160) (ht8 : ∀ b ∈ t, b < 256) {s n : Nat} (hs : s + n ≤ t.length) (hd : ∀ j, s ≤ j → j < s + n → 48 ≤ t.getD j 0) (hK : K (some (.int (if n ≤ 2 then nI (nv_ t s n) else -4))) (hp_ I J)) : cc_9_numberFrom [.ref 5, .int (nI s), .int (nI n)] (hp_ I J) K := by
  refine jw_Cin (Nat.le_of_ble_eq_true rfl) rfl (fun P hP => ?_)
  have lp : ∀ (m i : Nat), n = i + m → n ≤ 2 → P 13 [.ref 5, .int (nI s), .int (nI n), .int (nI (nv_ t s i)), .int (nI i)] [] (hp_ I J) (0, 0) := by
    intro m
    induction m with
    | zero =>
      intro i hi h2
      have hle : nI n ≤ nI i := (nI_leI (by omega) (by omega)).mpr (by omega)
      refine hP _ _ _ _ _ ?_
      simp only [qq_9_numberFrom, bb_9_numberFrom_45, bb_9_numberFrom_13, bb_9_numberFrom_8, bb_9_numberFrom_0, xo_il, xo_ll, xo_al, xo_is, xo_ls, xo_as, xo_ic, xo_ci, xo_cl, xo_iadd, xo_isub, xo_imul, xo_iand, xo_ior, xo_ixor, xo_ishl, xo_ishr, xo_iushr, xo_idiv, xo_irem, xo_ineg, xo_ladd, xo_lsub, xo_lmul, xo_land, xo_lor, xo_lxor, xo_ldiv, xo_lrem, xo_lneg, xo_lushr, xo_lshl, xo_lshr, xo_lcmp, xo_i2l, xo_l2i, xo_i2b, xo_i2s, xo_i2c, xo_dup, xo_pop, xo_zeq, xo_ceq, xo_zne, xo_cne, xo_zlt, xo_clt, xo_zge, xo_cge, xo_zgt, xo_cgt, xo_zle, xo_cle, xo_sw, xo_ts, xo_gf, xo_pfi, xo_pfl, xo_pfz, xo_pfr, xo_iald, xo_iast, xo_zast, xo_zald, xo_alen, xo_aald, xo_gs, xo_cv, xo_cs, xo_ca, xo_obj, xo_ri, xo_rz, xo_rl, xo_ra, xo_rc, xo_rb, xo_rv, xo_new, xo_newa, xo_anew, xo_aast, xo_mmax, xo_mmin, xo_mabs, xo_mmaxL, xo_mabsL, jw_ge, jw_st, jw_st2, jw_se, jw_un, jw_kk, jw_pp, jw_l4, jw_l1, jw_ps, jw_en, jw_N, jw_C, List.map_cons, List.map_nil, ↓reduceIte, Nat.reduceSub, Nat.reduceAdd, Nat.reduceEqDiff, Nat.reduceLeDiff, Nat.le_refl, Nat.zero_le, true_and, and_true, true_or, or_true, false_or, or_false, false_imp_iff, true_imp_iff, not_true_eq_false, not_false_eq_true, nI_0, nb_1, fa_10, fa_01, hle]
      rw [if_pos h2, show n = i by omega] at hK
      exact hK
    | succ m ih =>
      intro i hi h2
      have hle : ¬ nI n ≤ nI i := (nu_gt (by omega) (by omega)).mpr (by omega)
      refine hP _ _ _ _ _ ?_
      simp only [qq_9_numberFrom, bb_9_numberFrom_45, bb_9_numberFrom_13, bb_9_numberFrom_8, bb_9_numberFrom_0, xo_il, xo_ll, xo_al, xo_is, xo_ls, xo_as, xo_ic, xo_ci, xo_cl, xo_iadd, xo_isub, xo_imul, xo_iand, xo_ior, xo_ixor, xo_ishl, xo_ishr, xo_iushr, xo_idiv, xo_irem, xo_ineg, xo_ladd, xo_lsub, xo_lmul, xo_land, xo_lor, xo_lxor, xo_ldiv, xo_lrem, xo_lneg, xo_lushr, xo_lshl, xo_lshr, xo_lcmp, xo_i2l, xo_l2i, xo_i2b, xo_i2s, xo_i2c, xo_dup, xo_pop, xo_zeq, xo_ceq, xo_zne, xo_cne, xo_zlt, xo_clt, xo_zge, xo_cge, xo_zgt, xo_cgt, xo_zle, xo_cle, xo_sw, xo_ts, xo_gf, xo_pfi, xo_pfl, xo_pfz, xo_pfr, xo_iald, xo_iast, xo_zast, xo_zald, xo_alen, xo_aald, xo_gs, xo_cv, xo_cs, xo_ca, xo_obj, xo_ri, xo_rz, xo_rl, xo_ra, xo_rc, xo_rb, xo_rv, xo_new, xo_newa, xo_anew, xo_aast, xo_mmax, xo_mmin, xo_mabs, xo_mmaxL, xo_mabsL, jw_ge, jw_st, jw_st2, jw_se, jw_un, jw_kk, jw_pp, jw_l4, jw_l1, jw_ps, jw_en, jw_N, jw_C, List.map_cons, List.map_nil, ↓reduceIte, Nat.reduceSub, Nat.reduceAdd, Nat.reduceEqDiff, Nat.reduceLeDiff, Nat.le_refl, Nat.zero_le, true_and, and_true, true_or, or_true, false_or, or_false, false_imp_iff, true_imp_iff, not_true_eq_false, not_false_eq_true, nI_0, nb_1, fa_10, fa_01, hle, hg_5_0, hg_5_1, hg_5_2, hq_5_2, hg_5_3, hq_5_3, hg_5_4, hq_5_4, hg_5_5, hq_5_5, hg_5_6, hq_5_6, hg_5_7, hq_5_7, hg_5_8, hq_5_8, hg_5_9, hq_5_9, hi_5, hr_i hr6, nI_add]
      refine rn_at hr6 ht htn (s + i) (by omega) ?_
      have h48 := hd (s + i) (by omega) (by omega)
      simp only [qq_9_numberFrom, bb_9_numberFrom_45, bb_9_numberFrom_13, bb_9_numberFrom_8, bb_9_numberFrom_0, xo_il, xo_ll, xo_al, xo_is, xo_ls, xo_as, xo_ic, xo_ci, xo_cl, xo_iadd, xo_isub, xo_imul, xo_iand, xo_ior, xo_ixor, xo_ishl, xo_ishr, xo_iushr, xo_idiv, xo_irem, xo_ineg, xo_ladd, xo_lsub, xo_lmul, xo_land, xo_lor, xo_lxor, xo_ldiv, xo_lrem, xo_lneg, xo_lushr, xo_lshl, xo_lshr, xo_lcmp, xo_i2l, xo_l2i, xo_i2b, xo_i2s, xo_i2c, xo_dup, xo_pop, xo_zeq, xo_ceq, xo_zne, xo_cne, xo_zlt, xo_clt, xo_zge, xo_cge, xo_zgt, xo_cgt, xo_zle, xo_cle, xo_sw, xo_ts, xo_gf, xo_pfi, xo_pfl, xo_pfz, xo_pfr, xo_iald, xo_iast, xo_zast, xo_zald, xo_alen, xo_aald, xo_gs, xo_cv, xo_cs, xo_ca, xo_obj, xo_ri, xo_rz, xo_rl, xo_ra, xo_rc, xo_rb, xo_rv, xo_new, xo_newa, xo_anew, xo_aast, xo_mmax, xo_mmin, xo_mabs, xo_mmaxL, xo_mabsL, jw_ge, jw_st, jw_st2, jw_se, jw_un, jw_kk, jw_pp, jw_l4, jw_l1, jw_ps, jw_en, jw_N, jw_C, List.map_cons, List.map_nil, ↓reduceIte, Nat.reduceSub, Nat.reduceAdd, Nat.reduceEqDiff, Nat.reduceLeDiff, Nat.le_refl, Nat.zero_le, true_and, and_true, true_or, or_true, false_or, or_false, false_imp_iff, true_imp_iff, not_true_eq_false, not_false_eq_true, nI_0, nb_1, fa_10, fa_01, show (10 : Int32) = nI 10 from rfl, show (48 : Int32) = nI 48 from rfl, pk_mul, nI_add, pk_sub (show 48 ≤ 10 * nv_ t s i + t.getD (s + i) 0 by omega), nI_1]
      exact ih (i + 1) (by omega) h2
  refine hP _ _ _ _ _ ?_
  simp only [qq_9_numberFrom, bb_9_numberFrom_45, bb_9_numberFrom_8, bb_9_numberFrom_0, xo_il, xo_ll, xo_al, xo_is, xo_ls, xo_as, xo_ic, xo_ci, xo_cl, xo_iadd, xo_isub, xo_imul, xo_iand, xo_ior, xo_ixor, xo_ishl, xo_ishr, xo_iushr, xo_idiv, xo_irem, xo_ineg, xo_ladd, xo_lsub, xo_lmul, xo_land, xo_lor, xo_lxor, xo_ldiv, xo_lrem, xo_lneg, xo_lushr, xo_lshl, xo_lshr, xo_lcmp, xo_i2l, xo_l2i, xo_i2b, xo_i2s, xo_i2c, xo_dup, xo_pop, xo_zeq, xo_ceq, xo_zne, xo_cne, xo_zlt, xo_clt, xo_zge, xo_cge, xo_zgt, xo_cgt, xo_zle, xo_cle, xo_sw, xo_ts, xo_gf, xo_pfi, xo_pfl, xo_pfz, xo_pfr, xo_iald, xo_iast, xo_zast, xo_zald, xo_alen, xo_aald, xo_gs, xo_cv, xo_cs, xo_ca, xo_obj, xo_ri, xo_rz, xo_rl, xo_ra, xo_rc, xo_rb, xo_rv, xo_new, xo_newa, xo_anew, xo_aast, xo_mmax, xo_mmin, xo_mabs, xo_mmaxL, xo_mabsL, jw_ge, jw_st, jw_st2, jw_se, jw_un, jw_kk, jw_pp, jw_l4, jw_l1, jw_ps, jw_en, jw_N, jw_C, List.map_cons, List.map_nil, ↓reduceIte, Nat.reduceSub, Nat.reduceAdd, Nat.reduceEqDiff, Nat.reduceLeDiff, Nat.le_refl, Nat.zero_le, true_and, and_true, true_or, or_true, false_or, or_false, false_imp_iff, true_imp_iff, not_true_eq_false, not_false_eq_true, nI_0, nb_1, fa_10, fa_01, show (2 : Int32) = nI 2 from rfl]
  rw [nI_leI (by omega) (by omega)]
  refine ⟨fun q => lp n 0 (by omega) q, fun q => ?_⟩
  rw [if_neg q] at hK
  exact hK
theorem tt_9_refuse (v p : Int32) (hK1 : I 5 4 = 0 → ∀ I2, (∀ q, q ≠ 5 → I2 q = I q) → (∀ j, j ≠ 4 → j ≠ 5 → I2 5 j = I 5 j) → I2 5 4 = v → I2 5 5 = p → K none (hp_ I2 J)) (hK0 : I 5 4 ≠ 0 → K none (hp_ I J)) : cc_9_refuse [.ref 5, .int v, .int p] (hp_ I J) K := by
  refine jw_Cin (Nat.le_of_ble_eq_true rfl) rfl (fun P hP => hP _ _ _ _ _ ?_)
  simp only [qq_9_refuse, bb_9_refuse_17, bb_9_refuse_0, xo_il, xo_ll, xo_al, xo_is, xo_ls, xo_as, xo_ic, xo_ci, xo_cl, xo_iadd, xo_isub, xo_imul, xo_iand, xo_ior, xo_ixor, xo_ishl, xo_ishr, xo_iushr, xo_idiv, xo_irem, xo_ineg, xo_ladd, xo_lsub, xo_lmul, xo_land, xo_lor, xo_lxor, xo_ldiv, xo_lrem, xo_lneg, xo_lushr, xo_lshl, xo_lshr, xo_lcmp, xo_i2l, xo_l2i, xo_i2b, xo_i2s, xo_i2c, xo_dup, xo_pop, xo_zeq, xo_ceq, xo_zne, xo_cne, xo_zlt, xo_clt, xo_zge, xo_cge, xo_zgt, xo_cgt, xo_zle, xo_cle, xo_sw, xo_ts, xo_gf, xo_pfi, xo_pfl, xo_pfz, xo_pfr, xo_iald, xo_iast, xo_zast, xo_zald, xo_alen, xo_aald, xo_gs, xo_cv, xo_cs, xo_ca, xo_obj, xo_ri, xo_rz, xo_rl, xo_ra, xo_rc, xo_rb, xo_rv, xo_new, xo_newa, xo_anew, xo_aast, xo_mmax, xo_mmin, xo_mabs, xo_mmaxL, xo_mabsL, jw_ge, jw_st, jw_st2, jw_se, jw_un, jw_kk, jw_pp, jw_l4, jw_l1, jw_ps, jw_en, jw_N, jw_C, List.map_cons, List.map_nil, ↓reduceIte, Nat.reduceSub, Nat.reduceAdd, Nat.reduceEqDiff, Nat.reduceLeDiff, Nat.le_refl, Nat.zero_le, true_and, and_true, true_or, or_true, false_or, or_false, false_imp_iff, true_imp_iff, not_true_eq_false, not_false_eq_true, nI_0, nb_1, fa_10, fa_01, hg_5_0, hg_5_1, hg_5_2, hq_5_2, hg_5_3, hq_5_3, hg_5_4, hq_5_4, hg_5_5, hq_5_5, hg_5_6, hq_5_6, hg_5_7, hq_5_7, hg_5_8, hq_5_8, hg_5_9, hq_5_9, hi_5]
  refine ⟨hK0, fun q => hK1 q _ (fun r hr => (hw_o hr).trans (hw_o hr)) (fun j h1 h2 => (hw_i h2).trans (hw_i h1)) ((hw_i (by decide)).trans hw_s) hw_s⟩
end TK
