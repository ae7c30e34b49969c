/-! rows: a row of numbers, bounded -/
theorem nb_1 : nI 1 = 1 := rfl
theorem fa_10 : ((1 : Int32) = 0) = False := eq_false (by decide)
theorem fa_01 : ((0 : Int32) = 1) = False := eq_false (by decide)
def hr_ (r n : Nat) : Prop := hs_L[r]? = some (fun f _ => .inr (4, [.ref (r + 1), .int (f 1)])) ∧ hs_L[r + 1]? = some (fun f _ => .inl (0, n, .inl f)) ∧ n < 1000
section HR
variable {r n : Nat}
theorem hr_g0 (hr : hr_ r n) (I : Nat → Nat → Int32) (J : Nat → Nat → Int64) : jw_gf (hp_ I J) 4 r 0 = some (.ref (r + 1)) := hp_gf hr.1 rfl rfl
theorem hr_g1 (hr : hr_ r n) (I : Nat → Nat → Int32) (J : Nat → Nat → Int64) : jw_gf (hp_ I J) 4 r 1 = some (.int (I r 1)) := hp_gf hr.1 rfl rfl
theorem hr_p1 (hr : hr_ r n) (I : Nat → Nat → Int32) (J : Nat → Nat → Int64) (v : Int32) : jw_pf (hp_ I J) 4 r 1 (.int v) = some (hp_ (hw_ I r 1 v) J) := hp_pf hr.1 rfl (by simp) rfl
theorem hr_a (hr : hr_ r n) (I : Nat → Nat → Int32) (J : Nat → Nat → Int64) : (hp_ I J)[r + 1]? = some (.inl (0, n, .inl (I (r + 1)))) := hp_at hr.2.1
theorem hr_b (hr : hr_ r n) (I : Nat → Nat → Int32) (J : Nat → Nat → Int64) (i : Nat) (v : Int32) : (hp_ I J).set (r + 1) (.inl (0, n, .inl (upd (I (r + 1)) i v))) = hp_ (hw_ I (r + 1) i v) J := hp_as hr.2.1
theorem hr_i (hr : hr_ r n) (I : Nat → Nat → Int32) (J : Nat → Nat → Int64) : jw_is (hp_ I J) r 4 := hp_is hr.1 rfl
end HR
/-- a row holds a list -/
def rl_ (I : Nat → Nat → Int32) (r : Nat) (xs : List Int32) : Prop := I r 1 = nI xs.length ∧ ∀ (i : Nat) (h : i < xs.length), I (r + 1) i = xs[i]
/-- all but the row stays -/
def fr_ (I I2 : Nat → Nat → Int32) (r : Nat) : Prop := ∀ q, q ≠ r → q ≠ r + 1 → I2 q = I q
theorem fr_rf {I : Nat → Nat → Int32} {r : Nat} : fr_ I I r := fun _ _ _ => rfl
theorem fr_tr {I I2 I3 : Nat → Nat → Int32} {r : Nat} (h1 : fr_ I I2 r) (h2 : fr_ I2 I3 r) : fr_ I I3 r := fun q a b => (h2 q a b).trans (h1 q a b)
theorem rl_fr {I I2 : Nat → Nat → Int32} {r r2 : Nat} {xs : List Int32} (h : rl_ I r xs) (hf : fr_ I I2 r2) (h1 : r ≠ r2) (h2 : r ≠ r2 + 1) (h3 : r + 1 ≠ r2) : rl_ I2 r xs := by
  have e1 := hf r h1 h2
  have e2 := hf (r + 1) h3 (by omega)
  exact ⟨by rw [e1]; exact h.1, fun i hi => by rw [e2]; exact h.2 i hi⟩
/-- what at(i) says -/
def ra_ (xs : List Int32) (i : Int32) : Int32 := if i < 0 then 0 else if nI xs.length ≤ i then 0 else xs.getD i.toNatClampNeg 0
/-- what has(i) says -/
def rh_ (xs : List Int32) (i : Int32) : Int32 := if i < 0 then 0 else if nI xs.length ≤ i then 0 else 1
theorem ra_n {xs : List Int32} {j : Nat} (hj : j < 2 ^ 31) (hx : xs.length < 2 ^ 31) : ra_ xs (nI j) = xs.getD j 0 := by
  unfold ra_
  rw [if_neg (nI_pos hj)]
  by_cases h : xs.length ≤ j
  · rw [if_pos ((nI_leI hx hj).mpr h)]
    simp [List.getD, List.getElem?_eq_none h]
  · rw [if_neg (fun q => h ((nI_leI hx hj).mp q)), nI_clamp hj]
theorem rh_n {xs : List Int32} {j : Nat} (hj : j < 2 ^ 31) (hx : xs.length < 2 ^ 31) : rh_ xs (nI j) = if j < xs.length then 1 else 0 := by
  unfold rh_
  rw [if_neg (nI_pos hj)]
  by_cases h : xs.length ≤ j
  · rw [if_pos ((nI_leI hx hj).mpr h), if_neg (by omega)]
  · rw [if_neg (fun q => h ((nI_leI hx hj).mp q)), if_pos (by omega)]
theorem rg_n {I : Nat → Nat → Int32} {r : Nat} {xs : List Int32} (hx : rl_ I r xs) {j : Nat} (hj : j < xs.length) : I (r + 1) j = xs.getD j 0 := by
  rw [hx.2 j hj]; simp [List.getD, hj]
section HT
variable {I : Nat → Nat → Int32} {J : Nat → Nat → Int64} {r n : Nat} {K : jw_K} {xs : List Int32}
theorem tt_4_size (hr : hr_ r n) (hx : rl_ I r xs) (hK : K (some (.int (nI xs.length))) (hp_ I J)) : cc_4_size [.ref r] (hp_ I J) K := by
  refine jw_Cin (Nat.le_of_ble_eq_true rfl) rfl (fun P hP => hP _ _ _ _ _ ?_)
  simp only [qq_4_size, bb_4_size_0, xo_il, xo_ll, xo_al, xo_is, xo_ls, xo_as, xo_ic, xo_ci, xo_cl, xo_iadd, xo_isub, xo_imul, xo_iand, xo_ior, xo_ixor, xo_ishl, xo_ishr, xo_iushr, xo_idiv, xo_irem, xo_ineg, xo_ladd, xo_lsub, xo_lmul, xo_land, xo_lor, xo_lxor, xo_ldiv, xo_lrem, xo_lneg, xo_lushr, xo_lshl, xo_lshr, xo_lcmp, xo_i2l, xo_l2i, xo_i2b, xo_i2s, xo_i2c, xo_dup, xo_pop, xo_zeq, xo_ceq, xo_zne, xo_cne, xo_zlt, xo_clt, xo_zge, xo_cge, xo_zgt, xo_cgt, xo_zle, xo_cle, xo_sw, xo_ts, xo_gf, xo_pfi, xo_pfl, xo_pfz, xo_pfr, xo_iald, xo_iast, xo_zast, xo_zald, xo_alen, xo_aald, xo_gs, xo_cv, xo_cs, xo_ca, xo_obj, xo_ri, xo_rz, xo_rl, xo_ra, xo_rc, xo_rb, xo_rv, xo_new, xo_newa, xo_anew, xo_aast, xo_mmax, xo_mmin, xo_mabs, xo_mmaxL, xo_mabsL, jw_ge, jw_st, jw_st2, jw_se, jw_un, jw_kk, jw_pp, jw_l4, jw_l1, jw_ps, jw_en, jw_N, jw_C, List.map_cons, List.map_nil, ↓reduceIte, Nat.reduceSub, Nat.reduceAdd, Nat.reduceEqDiff, Nat.reduceLeDiff, Nat.le_refl, Nat.zero_le, true_and, and_true, true_or, or_true, false_or, or_false, false_imp_iff, true_imp_iff, not_true_eq_false, not_false_eq_true, nI_0, nb_1, fa_10, fa_01, hr_g1 hr, hx.1]
  exact hK
theorem tt_4_isEmpty (hr : hr_ r n) (hx : rl_ I r xs) (hn : xs.length ≤ n) (hK : K (some (.int (if xs.length = 0 then 1 else 0))) (hp_ I J)) : cc_4_isEmpty [.ref r] (hp_ I J) K := by
  refine jw_Cin (Nat.le_of_ble_eq_true rfl) rfl (fun P hP => hP _ _ _ _ _ ?_)
  have h3 := hr.2.2
  simp only [qq_4_isEmpty, bb_4_isEmpty_12, bb_4_isEmpty_11, bb_4_isEmpty_0, xo_il, xo_ll, xo_al, xo_is, xo_ls, xo_as, xo_ic, xo_ci, xo_cl, xo_iadd, xo_isub, xo_imul, xo_iand, xo_ior, xo_ixor, xo_ishl, xo_ishr, xo_iushr, xo_idiv, xo_irem, xo_ineg, xo_ladd, xo_lsub, xo_lmul, xo_land, xo_lor, xo_lxor, xo_ldiv, xo_lrem, xo_lneg, xo_lushr, xo_lshl, xo_lshr, xo_lcmp, xo_i2l, xo_l2i, xo_i2b, xo_i2s, xo_i2c, xo_dup, xo_pop, xo_zeq, xo_ceq, xo_zne, xo_cne, xo_zlt, xo_clt, xo_zge, xo_cge, xo_zgt, xo_cgt, xo_zle, xo_cle, xo_sw, xo_ts, xo_gf, xo_pfi, xo_pfl, xo_pfz, xo_pfr, xo_iald, xo_iast, xo_zast, xo_zald, xo_alen, xo_aald, xo_gs, xo_cv, xo_cs, xo_ca, xo_obj, xo_ri, xo_rz, xo_rl, xo_ra, xo_rc, xo_rb, xo_rv, xo_new, xo_newa, xo_anew, xo_aast, xo_mmax, xo_mmin, xo_mabs, xo_mmaxL, xo_mabsL, jw_ge, jw_st, jw_st2, jw_se, jw_un, jw_kk, jw_pp, jw_l4, jw_l1, jw_ps, jw_en, jw_N, jw_C, List.map_cons, List.map_nil, ↓reduceIte, Nat.reduceSub, Nat.reduceAdd, Nat.reduceEqDiff, Nat.reduceLeDiff, Nat.le_refl, Nat.zero_le, true_and, and_true, true_or, or_true, false_or, or_false, false_imp_iff, true_imp_iff, not_true_eq_false, not_false_eq_true, nI_0, nb_1, fa_10, fa_01, hr_g1 hr, hx.1]
  refine ⟨fun h => ?_, fun h => ?_⟩
  · rw [if_neg (fun q => h (by rw [q]; rfl))] at hK
    exact hK
  · rw [if_pos ((nI_eq (a := xs.length) (b := 0) (by omega) (by omega)).mp h)] at hK
    exact hK
theorem tt_4_at (hr : hr_ r n) (hx : rl_ I r xs) (hn : xs.length ≤ n) (i : Int32) (hK : K (some (.int (ra_ xs i))) (hp_ I J)) : cc_4_at [.ref r, .int i] (hp_ I J) K := by
  refine jw_Cin (Nat.le_of_ble_eq_true rfl) rfl (fun P hP => hP _ _ _ _ _ ?_)
  have h3 := hr.2.2
  simp only [qq_4_at, bb_4_at_22, bb_4_at_21, bb_4_at_0, xo_il, xo_ll, xo_al, xo_is, xo_ls, xo_as, xo_ic, xo_ci, xo_cl, xo_iadd, xo_isub, xo_imul, xo_iand, xo_ior, xo_ixor, xo_ishl, xo_ishr, xo_iushr, xo_idiv, xo_irem, xo_ineg, xo_ladd, xo_lsub, xo_lmul, xo_land, xo_lor, xo_lxor, xo_ldiv, xo_lrem, xo_lneg, xo_lushr, xo_lshl, xo_lshr, xo_lcmp, xo_i2l, xo_l2i, xo_i2b, xo_i2s, xo_i2c, xo_dup, xo_pop, xo_zeq, xo_ceq, xo_zne, xo_cne, xo_zlt, xo_clt, xo_zge, xo_cge, xo_zgt, xo_cgt, xo_zle, xo_cle, xo_sw, xo_ts, xo_gf, xo_pfi, xo_pfl, xo_pfz, xo_pfr, xo_iald, xo_iast, xo_zast, xo_zald, xo_alen, xo_aald, xo_gs, xo_cv, xo_cs, xo_ca, xo_obj, xo_ri, xo_rz, xo_rl, xo_ra, xo_rc, xo_rb, xo_rv, xo_new, xo_newa, xo_anew, xo_aast, xo_mmax, xo_mmin, xo_mabs, xo_mmaxL, xo_mabsL, jw_ge, jw_st, jw_st2, jw_se, jw_un, jw_kk, jw_pp, jw_l4, jw_l1, jw_ps, jw_en, jw_N, jw_C, List.map_cons, List.map_nil, ↓reduceIte, Nat.reduceSub, Nat.reduceAdd, Nat.reduceEqDiff, Nat.reduceLeDiff, Nat.le_refl, Nat.zero_le, true_and, and_true, true_or, or_true, false_or, or_false, false_imp_iff, true_imp_iff, not_true_eq_false, not_false_eq_true, nI_0, nb_1, fa_10, fa_01, hr_g0 hr, hr_g1 hr, hr_a hr, hx.1]
  unfold ra_ at hK
  refine ⟨fun h => ?_, fun h => ⟨fun h2 => ?_, fun h2 => ?_⟩⟩
  · rw [if_pos h] at hK; exact hK
  · rw [if_neg h, if_pos h2] at hK; exact hK
  · rw [if_neg h, if_neg h2] at hK
    obtain ⟨j, hj, rfl⟩ := (pk_ix i (n := xs.length) (by omega)).resolve_left h |>.resolve_left h2
    rw [nI_clamp (by omega)] at hK ⊢
    exact ⟨vp_in_nI (by omega) (by omega), by rw [rg_n hx hj]; exact hK⟩
theorem tt_4_has (hr : hr_ r n) (hx : rl_ I r xs) (i : Int32) (hK : K (some (.int (rh_ xs i))) (hp_ I J)) : cc_4_has [.ref r, .int i] (hp_ I J) K := by
  refine jw_Cin (Nat.le_of_ble_eq_true rfl) rfl (fun P hP => hP _ _ _ _ _ ?_)
  simp only [qq_4_has, bb_4_has_17, bb_4_has_16, bb_4_has_0, xo_il, xo_ll, xo_al, xo_is, xo_ls, xo_as, xo_ic, xo_ci, xo_cl, xo_iadd, xo_isub, xo_imul, xo_iand, xo_ior, xo_ixor, xo_ishl, xo_ishr, xo_iushr, xo_idiv, xo_irem, xo_ineg, xo_ladd, xo_lsub, xo_lmul, xo_land, xo_lor, xo_lxor, xo_ldiv, xo_lrem, xo_lneg, xo_lushr, xo_lshl, xo_lshr, xo_lcmp, xo_i2l, xo_l2i, xo_i2b, xo_i2s, xo_i2c, xo_dup, xo_pop, xo_zeq, xo_ceq, xo_zne, xo_cne, xo_zlt, xo_clt, xo_zge, xo_cge, xo_zgt, xo_cgt, xo_zle, xo_cle, xo_sw, xo_ts, xo_gf, xo_pfi, xo_pfl, xo_pfz, xo_pfr, xo_iald, xo_iast, xo_zast, xo_zald, xo_alen, xo_aald, xo_gs, xo_cv, xo_cs, xo_ca, xo_obj, xo_ri, xo_rz, xo_rl, xo_ra, xo_rc, xo_rb, xo_rv, xo_new, xo_newa, xo_anew, xo_aast, xo_mmax, xo_mmin, xo_mabs, xo_mmaxL, xo_mabsL, jw_ge, jw_st, jw_st2, jw_se, jw_un, jw_kk, jw_pp, jw_l4, jw_l1, jw_ps, jw_en, jw_N, jw_C, List.map_cons, List.map_nil, ↓reduceIte, Nat.reduceSub, Nat.reduceAdd, Nat.reduceEqDiff, Nat.reduceLeDiff, Nat.le_refl, Nat.zero_le, true_and, and_true, true_or, or_true, false_or, or_false, false_imp_iff, true_imp_iff, not_true_eq_false, not_false_eq_true, nI_0, nb_1, fa_10, fa_01, hr_g1 hr, hx.1]
  unfold rh_ at hK
  refine ⟨fun h => ?_, fun h => ⟨fun h2 => ?_, fun h2 => ?_⟩⟩
  · rw [if_pos h] at hK; exact hK
  · rw [if_neg h, if_pos h2] at hK; exact hK
  · rw [if_neg h, if_neg h2] at hK; exact hK
/-- put(i, v) in range -/
theorem rl_set (hx : rl_ I r xs) {j : Nat} {v : Int32} (hj : j < xs.length) : rl_ (hw_ I (r + 1) j v) r (xs.set j v) := by
  refine ⟨by rw [hw_o (by omega), List.length_set]; exact hx.1, fun i hi => ?_⟩
  rw [List.length_set] at hi
  by_cases h : i = j
  · subst h; rw [hw_s]; simp
  · rw [hw_i h, List.getElem_set_ne (Ne.symm h)]; exact hx.2 i hi
theorem fr_w1 {j : Nat} {v : Int32} : fr_ I (hw_ I (r + 1) j v) r := fun _ _ b => hw_o b
theorem fr_w0 {j : Nat} {v : Int32} : fr_ I (hw_ I r j v) r := fun _ a _ => hw_o a
theorem tt_4_put (hr : hr_ r n) (hx : rl_ I r xs) (hn : xs.length ≤ n) {j : Nat} (hj : j < xs.length) (v : Int32) (hK : ∀ I2, rl_ I2 r (xs.set j v) → fr_ I I2 r → K none (hp_ I2 J)) : cc_4_put [.ref r, .int (nI j), .int v] (hp_ I J) K := by
  refine jw_Cin (Nat.le_of_ble_eq_true rfl) rfl (fun P hP => hP _ _ _ _ _ ?_)
  have h3 := hr.2.2
  simp only [qq_4_put, bb_4_put_19, bb_4_put_0, xo_il, xo_ll, xo_al, xo_is, xo_ls, xo_as, xo_ic, xo_ci, xo_cl, xo_iadd, xo_isub, xo_imul, xo_iand, xo_ior, xo_ixor, xo_ishl, xo_ishr, xo_iushr, xo_idiv, xo_irem, xo_ineg, xo_ladd, xo_lsub, xo_lmul, xo_land, xo_lor, xo_lxor, xo_ldiv, xo_lrem, xo_lneg, xo_lushr, xo_lshl, xo_lshr, xo_lcmp, xo_i2l, xo_l2i, xo_i2b, xo_i2s, xo_i2c, xo_dup, xo_pop, xo_zeq, xo_ceq, xo_zne, xo_cne, xo_zlt, xo_clt, xo_zge, xo_cge, xo_zgt, xo_cgt, xo_zle, xo_cle, xo_sw, xo_ts, xo_gf, xo_pfi, xo_pfl, xo_pfz, xo_pfr, xo_iald, xo_iast, xo_zast, xo_zald, xo_alen, xo_aald, xo_gs, xo_cv, xo_cs, xo_ca, xo_obj, xo_ri, xo_rz, xo_rl, xo_ra, xo_rc, xo_rb, xo_rv, xo_new, xo_newa, xo_anew, xo_aast, xo_mmax, xo_mmin, xo_mabs, xo_mmaxL, xo_mabsL, jw_ge, jw_st, jw_st2, jw_se, jw_un, jw_kk, jw_pp, jw_l4, jw_l1, jw_ps, jw_en, jw_N, jw_C, List.map_cons, List.map_nil, ↓reduceIte, Nat.reduceSub, Nat.reduceAdd, Nat.reduceEqDiff, Nat.reduceLeDiff, Nat.le_refl, Nat.zero_le, true_and, and_true, true_or, or_true, false_or, or_false, false_imp_iff, true_imp_iff, not_true_eq_false, not_false_eq_true, nI_0, nb_1, fa_10, fa_01, hr_g0 hr, hr_g1 hr, hr_a hr, hr_b hr, hx.1]
  refine ⟨fun h => absurd h (nI_pos (by omega)), fun _ => ⟨fun h => absurd ((nI_leI (by omega) (by omega)).mp h) (by omega), fun _ => ⟨vp_in_nI (by omega) (by omega), ?_⟩⟩⟩
  rw [nI_clamp (by omega)]
  exact hK _ (rl_set hx hj) fr_w1
theorem tt_4_push (hr : hr_ r n) (hx : rl_ I r xs) (hn : xs.length ≤ n) (v : Int32) (hK1 : xs.length < n → ∀ I2, rl_ I2 r (xs ++ [v]) → fr_ I I2 r → K (some (.int 1)) (hp_ I2 J)) (hK0 : xs.length = n → K (some (.int 0)) (hp_ I J)) : cc_4_push [.ref r, .int v] (hp_ I J) K := by
  refine jw_Cin (Nat.le_of_ble_eq_true rfl) rfl (fun P hP => hP _ _ _ _ _ ?_)
  have h3 := hr.2.2
  simp only [qq_4_push, bb_4_push_14, bb_4_push_0, xo_il, xo_ll, xo_al, xo_is, xo_ls, xo_as, xo_ic, xo_ci, xo_cl, xo_iadd, xo_isub, xo_imul, xo_iand, xo_ior, xo_ixor, xo_ishl, xo_ishr, xo_iushr, xo_idiv, xo_irem, xo_ineg, xo_ladd, xo_lsub, xo_lmul, xo_land, xo_lor, xo_lxor, xo_ldiv, xo_lrem, xo_lneg, xo_lushr, xo_lshl, xo_lshr, xo_lcmp, xo_i2l, xo_l2i, xo_i2b, xo_i2s, xo_i2c, xo_dup, xo_pop, xo_zeq, xo_ceq, xo_zne, xo_cne, xo_zlt, xo_clt, xo_zge, xo_cge, xo_zgt, xo_cgt, xo_zle, xo_cle, xo_sw, xo_ts, xo_gf, xo_pfi, xo_pfl, xo_pfz, xo_pfr, xo_iald, xo_iast, xo_zast, xo_zald, xo_alen, xo_aald, xo_gs, xo_cv, xo_cs, xo_ca, xo_obj, xo_ri, xo_rz, xo_rl, xo_ra, xo_rc, xo_rb, xo_rv, xo_new, xo_newa, xo_anew, xo_aast, xo_mmax, xo_mmin, xo_mabs, xo_mmaxL, xo_mabsL, jw_ge, jw_st, jw_st2, jw_se, jw_un, jw_kk, jw_pp, jw_l4, jw_l1, jw_ps, jw_en, jw_N, jw_C, List.map_cons, List.map_nil, ↓reduceIte, Nat.reduceSub, Nat.reduceAdd, Nat.reduceEqDiff, Nat.reduceLeDiff, Nat.le_refl, Nat.zero_le, true_and, and_true, true_or, or_true, false_or, or_false, false_imp_iff, true_imp_iff, not_true_eq_false, not_false_eq_true, nI_0, nb_1, fa_10, fa_01, hr_g0 hr, hr_g1 hr, hr_a hr, hr_b hr, hr_p1 hr, hx.1, show 4 > 0 by decide, show (0 : Nat) < 4 by decide]
  refine ⟨fun h => ?_, fun h => ?_⟩
  · have h4 : xs.length < n := (nI_ltI (by omega) (by omega)).mp h
    refine ⟨vp_in_nI h4 (by omega), ?_⟩
    rw [nI_clamp (by omega), hw_o (by omega), hx.1, nI_1]
    refine hK1 h4 _ ⟨by rw [hw_s]; simp, fun i hi => ?_⟩ (fr_tr fr_w1 fr_w0)
    rw [hw_o (by omega)]
    by_cases hi2 : i = xs.length
    · subst hi2; rw [hw_s]; simp
    · have hi3 : i < xs.length := by simp at hi; omega
      rw [hw_i hi2, List.getElem_append_left hi3]; exact hx.2 i hi3
  · have h4 : xs.length = n := by
      have := mt (nI_ltI (a := xs.length) (b := n) (by omega) (by omega)).mpr h
      omega
    exact hK0 h4
theorem tt_4_cut (hr : hr_ r n) (hx : rl_ I r xs) (hn : xs.length ≤ n) {k : Nat} (hk : k ≤ xs.length) (hK : ∀ I2, rl_ I2 r (xs.take k) → fr_ I I2 r → K none (hp_ I2 J)) : cc_4_cut [.ref r, .int (nI k)] (hp_ I J) K := by
  refine jw_Cin (Nat.le_of_ble_eq_true rfl) rfl (fun P hP => hP _ _ _ _ _ ?_)
  have h3 := hr.2.2
  simp only [qq_4_cut, bb_4_cut_17, bb_4_cut_0, xo_il, xo_ll, xo_al, xo_is, xo_ls, xo_as, xo_ic, xo_ci, xo_cl, xo_iadd, xo_isub, xo_imul, xo_iand, xo_ior, xo_ixor, xo_ishl, xo_ishr, xo_iushr, xo_idiv, xo_irem, xo_ineg, xo_ladd, xo_lsub, xo_lmul, xo_land, xo_lor, xo_lxor, xo_ldiv, xo_lrem, xo_lneg, xo_lushr, xo_lshl, xo_lshr, xo_lcmp, xo_i2l, xo_l2i, xo_i2b, xo_i2s, xo_i2c, xo_dup, xo_pop, xo_zeq, xo_ceq, xo_zne, xo_cne, xo_zlt, xo_clt, xo_zge, xo_cge, xo_zgt, xo_cgt, xo_zle, xo_cle, xo_sw, xo_ts, xo_gf, xo_pfi, xo_pfl, xo_pfz, xo_pfr, xo_iald, xo_iast, xo_zast, xo_zald, xo_alen, xo_aald, xo_gs, xo_cv, xo_cs, xo_ca, xo_obj, xo_ri, xo_rz, xo_rl, xo_ra, xo_rc, xo_rb, xo_rv, xo_new, xo_newa, xo_anew, xo_aast, xo_mmax, xo_mmin, xo_mabs, xo_mmaxL, xo_mabsL, jw_ge, jw_st, jw_st2, jw_se, jw_un, jw_kk, jw_pp, jw_l4, jw_l1, jw_ps, jw_en, jw_N, jw_C, List.map_cons, List.map_nil, ↓reduceIte, Nat.reduceSub, Nat.reduceAdd, Nat.reduceEqDiff, Nat.reduceLeDiff, Nat.le_refl, Nat.zero_le, true_and, and_true, true_or, or_true, false_or, or_false, false_imp_iff, true_imp_iff, not_true_eq_false, not_false_eq_true, nI_0, nb_1, fa_10, fa_01, hr_g1 hr, hr_p1 hr, hx.1]
  refine ⟨fun h => absurd h (nI_pos (by omega)), fun _ => ⟨fun h => ?_, fun h => ?_⟩⟩
  · have h4 : xs.length ≤ k := (nI_leI (by omega) (by omega)).mp h
    refine hK I ?_ fr_rf
    rw [List.take_of_length_le h4]
    exact hx
  · refine hK _ ⟨by rw [hw_s]; simp [Nat.min_eq_left hk], fun i hi => ?_⟩ fr_w0
    rw [hw_o (by omega), List.getElem_take]
    exact hx.2 i _
def su_ (xs : List Int32) : Int32 := xs.foldl (· + ·) 0
theorem su_s {k : Nat} (hk : k < xs.length) : su_ (xs.take (k + 1)) = su_ (xs.take k) + xs[k] := by
  unfold su_
  rw [List.take_succ_eq_append_getElem hk, List.foldl_append]
  rfl
theorem tt_4_sum (hr : hr_ r n) (hx : rl_ I r xs) (hn : xs.length ≤ n) (hK : K (some (.int (su_ xs))) (hp_ I J)) : cc_4_sum [.ref r] (hp_ I J) K := by
  refine jw_Cin (Nat.le_of_ble_eq_true rfl) rfl (fun P hP => ?_)
  have h3 := hr.2.2
  have lp : ∀ m k : Nat, xs.length = k + m → P 4 [.ref r, .int (su_ (xs.take k)), .int (nI k)] [] (hp_ I J) (0, 0) := by
    intro m
    induction m with
    | zero =>
      intro k hk
      refine hP _ _ _ _ _ ?_
      simp only [qq_4_sum, bb_4_sum_27, bb_4_sum_4, bb_4_sum_0, xo_il, xo_ll, xo_al, xo_is, xo_ls, xo_as, xo_ic, xo_ci, xo_cl, xo_iadd, xo_isub, xo_imul, xo_iand, xo_ior, xo_ixor, xo_ishl, xo_ishr, xo_iushr, xo_idiv, xo_irem, xo_ineg, xo_ladd, xo_lsub, xo_lmul, xo_land, xo_lor, xo_lxor, xo_ldiv, xo_lrem, xo_lneg, xo_lushr, xo_lshl, xo_lshr, xo_lcmp, xo_i2l, xo_l2i, xo_i2b, xo_i2s, xo_i2c, xo_dup, xo_pop, xo_zeq, xo_ceq, xo_zne, xo_cne, xo_zlt, xo_clt, xo_zge, xo_cge, xo_zgt, xo_cgt, xo_zle, xo_cle, xo_sw, xo_ts, xo_gf, xo_pfi, xo_pfl, xo_pfz, xo_pfr, xo_iald, xo_iast, xo_zast, xo_zald, xo_alen, xo_aald, xo_gs, xo_cv, xo_cs, xo_ca, xo_obj, xo_ri, xo_rz, xo_rl, xo_ra, xo_rc, xo_rb, xo_rv, xo_new, xo_newa, xo_anew, xo_aast, xo_mmax, xo_mmin, xo_mabs, xo_mmaxL, xo_mabsL, jw_ge, jw_st, jw_st2, jw_se, jw_un, jw_kk, jw_pp, jw_l4, jw_l1, jw_ps, jw_en, jw_N, jw_C, List.map_cons, List.map_nil, ↓reduceIte, Nat.reduceSub, Nat.reduceAdd, Nat.reduceEqDiff, Nat.reduceLeDiff, Nat.le_refl, Nat.zero_le, true_and, and_true, true_or, or_true, false_or, or_false, false_imp_iff, true_imp_iff, not_true_eq_false, not_false_eq_true, nI_0, nb_1, fa_10, fa_01, hr_g0 hr, hr_g1 hr, hr_a hr, hx.1]
      refine ⟨fun _ => ?_, fun h => absurd ((nI_leI (by omega) (by omega)).mpr (by omega)) h⟩
      rw [List.take_of_length_le (by omega)]
      exact hK
    | succ m ih =>
      intro k hk
      refine hP _ _ _ _ _ ?_
      simp only [qq_4_sum, bb_4_sum_27, bb_4_sum_4, bb_4_sum_0, xo_il, xo_ll, xo_al, xo_is, xo_ls, xo_as, xo_ic, xo_ci, xo_cl, xo_iadd, xo_isub, xo_imul, xo_iand, xo_ior, xo_ixor, xo_ishl, xo_ishr, xo_iushr, xo_idiv, xo_irem, xo_ineg, xo_ladd, xo_lsub, xo_lmul, xo_land, xo_lor, xo_lxor, xo_ldiv, xo_lrem, xo_lneg, xo_lushr, xo_lshl, xo_lshr, xo_lcmp, xo_i2l, xo_l2i, xo_i2b, xo_i2s, xo_i2c, xo_dup, xo_pop, xo_zeq, xo_ceq, xo_zne, xo_cne, xo_zlt, xo_clt, xo_zge, xo_cge, xo_zgt, xo_cgt, xo_zle, xo_cle, xo_sw, xo_ts, xo_gf, xo_pfi, xo_pfl, xo_pfz, xo_pfr, xo_iald, xo_iast, xo_zast, xo_zald, xo_alen, xo_aald, xo_gs, xo_cv, xo_cs, xo_ca, xo_obj, xo_ri, xo_rz, xo_rl, xo_ra, xo_rc, xo_rb, xo_rv, xo_new, xo_newa, xo_anew, xo_aast, xo_mmax, xo_mmin, xo_mabs, xo_mmaxL, xo_mabsL, jw_ge, jw_st, jw_st2, jw_se, jw_un, jw_kk, jw_pp, jw_l4, jw_l1, jw_ps, jw_en, jw_N, jw_C, List.map_cons, List.map_nil, ↓reduceIte, Nat.reduceSub, Nat.reduceAdd, Nat.reduceEqDiff, Nat.reduceLeDiff, Nat.le_refl, Nat.zero_le, true_and, and_true, true_or, or_true, false_or, or_false, false_imp_iff, true_imp_iff, not_true_eq_false, not_false_eq_true, nI_0, nb_1, fa_10, fa_01, hr_g0 hr, hr_g1 hr, hr_a hr, hx.1]
      refine ⟨fun h => absurd ((nI_leI (by omega) (by omega)).mp h) (by omega), fun _ => ⟨vp_in_nI (by omega) (by omega), ?_⟩⟩
      rw [nI_clamp (by omega), nI_1, hx.2 k (by omega), ← su_s (by omega)]
      exact ih (k + 1) (by omega)
  refine hP _ _ _ _ _ ?_
  simp only [qq_4_sum, bb_4_sum_27, bb_4_sum_4, bb_4_sum_0, xo_il, xo_ll, xo_al, xo_is, xo_ls, xo_as, xo_ic, xo_ci, xo_cl, xo_iadd, xo_isub, xo_imul, xo_iand, xo_ior, xo_ixor, xo_ishl, xo_ishr, xo_iushr, xo_idiv, xo_irem, xo_ineg, xo_ladd, xo_lsub, xo_lmul, xo_land, xo_lor, xo_lxor, xo_ldiv, xo_lrem, xo_lneg, xo_lushr, xo_lshl, xo_lshr, xo_lcmp, xo_i2l, xo_l2i, xo_i2b, xo_i2s, xo_i2c, xo_dup, xo_pop, xo_zeq, xo_ceq, xo_zne, xo_cne, xo_zlt, xo_clt, xo_zge, xo_cge, xo_zgt, xo_cgt, xo_zle, xo_cle, xo_sw, xo_ts, xo_gf, xo_pfi, xo_pfl, xo_pfz, xo_pfr, xo_iald, xo_iast, xo_zast, xo_zald, xo_alen, xo_aald, xo_gs, xo_cv, xo_cs, xo_ca, xo_obj, xo_ri, xo_rz, xo_rl, xo_ra, xo_rc, xo_rb, xo_rv, xo_new, xo_newa, xo_anew, xo_aast, xo_mmax, xo_mmin, xo_mabs, xo_mmaxL, xo_mabsL, jw_ge, jw_st, jw_st2, jw_se, jw_un, jw_kk, jw_pp, jw_l4, jw_l1, jw_ps, jw_en, jw_N, jw_C, List.map_cons, List.map_nil, ↓reduceIte, Nat.reduceSub, Nat.reduceAdd, Nat.reduceEqDiff, Nat.reduceLeDiff, Nat.le_refl, Nat.zero_le, true_and, and_true, true_or, or_true, false_or, or_false, false_imp_iff, true_imp_iff, not_true_eq_false, not_false_eq_true, nI_0, nb_1, fa_10, fa_01]
  exact lp xs.length 0 (by omega)
end HT
