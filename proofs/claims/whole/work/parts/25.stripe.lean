/-! the stripe -/
/-- all but the cells from a to b stays -/
def ff_ (a b : Nat) (I I2 : Nat → Nat → Int32) : Prop := ∀ q, (q < a ∨ b ≤ q) → I2 q = I q
theorem ff_rf {a b : Nat} {I : Nat → Nat → Int32} : ff_ a b I I := fun _ _ => rfl
theorem ff_tr {a b : Nat} {I I2 I3 : Nat → Nat → Int32} (h1 : ff_ a b I I2) (h2 : ff_ a b I2 I3) : ff_ a b I I3 := fun q h => (h2 q h).trans (h1 q h)
theorem ff_fr {a b r : Nat} {I I2 : Nat → Nat → Int32} (h : fr_ I I2 r) (h1 : a ≤ r) (h2 : r + 1 < b) : ff_ a b I I2 := fun q hq => h q (by omega) (by omega)
theorem ff_hw {a b o j : Nat} {v : Int32} {I : Nat → Nat → Int32} (h1 : a ≤ o) (h2 : o < b) : ff_ a b I (hw_ I o j v) := fun q hq => hw_o (by omega)
theorem ff_mo {a b c d : Nat} {I I2 : Nat → Nat → Int32} (h : ff_ a b I I2) (h1 : c ≤ a) (h2 : b ≤ d) : ff_ c d I I2 := fun q hq => h q (by omega)
theorem rl_ff {a b r : Nat} {I I2 : Nat → Nat → Int32} {xs : List Int32} (h : rl_ I r xs) (hf : ff_ a b I I2) (hr : r + 1 < a ∨ b ≤ r) : rl_ I2 r xs := by
  have e1 := hf r (by omega)
  have e2 := hf (r + 1) (by omega)
  exact ⟨by rw [e1]; exact h.1, fun i hi => by rw [e2]; exact h.2 i hi⟩
theorem rn_ff {a b r : Nat} {I I2 : Nat → Nat → Int32} {xs : List Nat} (h : rn_ I r xs) (hf : ff_ a b I I2) (hr : r + 1 < a ∨ b ≤ r) : rn_ I2 r xs := rl_ff h hf hr
theorem uq_ff {a b u : Nat} {I I2 : Nat → Nat → Int32} {rn : Nat → Nat} (h : uq_ I u rn) (hf : ff_ a b I I2) (hr : u + 1 < a ∨ b ≤ u) : uq_ I2 u rn := fun j hj => by rw [hf (u + 1) (by omega)]; exact h j hj
theorem rl_hw {I : Nat → Nat → Int32} {r o j : Nat} {v : Int32} {xs : List Int32} (h : rl_ I r xs) (h1 : o ≠ r) (h2 : o ≠ r + 1) : rl_ (hw_ I o j v) r xs := ⟨by rw [hw_o (Ne.symm h1)]; exact h.1, fun i hi => by rw [hw_o (Ne.symm h2)]; exact h.2 i hi⟩
theorem rn_hw {I : Nat → Nat → Int32} {r o j : Nat} {v : Int32} {xs : List Nat} (h : rn_ I r xs) (h1 : o ≠ r) (h2 : o ≠ r + 1) : rn_ (hw_ I o j v) r xs := rl_hw h h1 h2
theorem hr3 : hr_ 3 160 := ⟨rfl, rfl, by decide⟩
theorem hr6 : hr_ 6 160 := ⟨rfl, rfl, by decide⟩
theorem hr10 : hr_ 10 16 := ⟨rfl, rfl, by decide⟩
theorem hr13 : hr_ 13 173 := ⟨rfl, rfl, by decide⟩
theorem hr15 : hr_ 15 320 := ⟨rfl, rfl, by decide⟩
theorem hr18 : hr_ 18 320 := ⟨rfl, rfl, by decide⟩
theorem hr20 : hr_ 20 320 := ⟨rfl, rfl, by decide⟩
theorem hr22 : hr_ 22 320 := ⟨rfl, rfl, by decide⟩
theorem hr25 : hr_ 25 35 := ⟨rfl, rfl, by decide⟩
theorem hr27 : hr_ 27 35 := ⟨rfl, rfl, by decide⟩
theorem hr30 : hr_ 30 320 := ⟨rfl, rfl, by decide⟩
theorem hr32 : hr_ 32 321 := ⟨rfl, rfl, by decide⟩
theorem hr34 : hr_ 34 321 := ⟨rfl, rfl, by decide⟩
theorem hu1 : hu_ 1 := ⟨rfl, rfl⟩
theorem hu8 : hu_ 8 := ⟨rfl, rfl⟩
/-- the bits of a symbol -/
def sb_ (b odd v : Nat) : List Nat := (List.range b).map (fun k => v / 2 ^ k % 2) ++ [pa_ odd v]
theorem sb_len (b odd v : Nat) : (sb_ b odd v).length = b + 1 := by simp [sb_]
theorem sb_cd : ∀ b, b < 7 → ∀ odd, odd < 2 → ∀ v, v < 64 → v < 2 ^ b → (List.range (b + 1)).map (fun i => cd_ b odd v / 2 ^ i % 2) = sb_ b odd v := by decide +kernel
/-- the checks, the bits of the stripe -/
def ck_ (rn : Nat → Nat) (rw : List Nat) : Nat := rw.foldl (· ^^^ ·) (rn 2 ^^^ rn 3)
def st_ (rn : Nat → Nat) (rw : List Nat) : List Nat := List.replicate (rn 4) 0 ++ sb_ (rn 0) (rn 1) (rn 2) ++ rw.flatMap (sb_ (rn 0) (rn 1)) ++ sb_ (rn 0) (rn 1) (rn 3) ++ (if rn 7 = 1 then sb_ (rn 0) (rn 1) (ck_ rn rw) else []) ++ List.replicate (rn 5) 0
theorem ck_lt {rn : Nat → Nat} {rw : List Nat} (h1 : rn 2 < 2 ^ rn 0) (h2 : rn 3 < 2 ^ rn 0) (h3 : ∀ v ∈ rw, v < 2 ^ rn 0) : ck_ rn rw < 2 ^ rn 0 := by
  unfold ck_
  have h4 : rn 2 ^^^ rn 3 < 2 ^ rn 0 := Nat.xor_lt_two_pow h1 h2
  generalize rn 2 ^^^ rn 3 = a at h4 ⊢
  induction rw generalizing a with
  | nil => exact h4
  | cons v l ih => exact ih (fun w hw => h3 w (List.mem_cons_of_mem _ hw)) _ (Nat.xor_lt_two_pow h4 (h3 v List.mem_cons_self))
section ST
variable {I : Nat → Nat → Int32} {J : Nat → Nat → Int64} {K : jw_K} {rn : Nat → Nat} {xs rw : List Nat}
theorem tt_8_pushZeros (hx : rn_ I 13 xs) {k : Nat} (hn : xs.length + k ≤ 173) (hK : ∀ I2, rn_ I2 13 (xs ++ List.replicate k 0) → fr_ I I2 13 → K none (hp_ I2 J)) : cc_8_pushZeros [.ref 12, .int (nI k)] (hp_ I J) K := by
  refine jw_Cin (Nat.le_of_ble_eq_true rfl) rfl (fun P hP => ?_)
  have lp : ∀ (m j : Nat) (I1 : Nat → Nat → Int32), k = j + m → fr_ I I1 13 → rn_ I1 13 (xs ++ List.replicate j 0) → P 2 [.ref 12, .int (nI k), .int (nI j)] [] (hp_ I1 J) (0, 0) := by
    intro m
    induction m with
    | zero =>
      intro j I1 hj hf h1
      have hle : nI k ≤ nI j := (nI_leI (by omega) (by omega)).mpr (by omega)
      refine hP _ _ _ _ _ ?_
      simp only [qq_8_pushZeros, bb_8_pushZeros_22, bb_8_pushZeros_2, bb_8_pushZeros_0, xo_il, xo_ll, xo_al, xo_is, xo_ls, xo_as, xo_ic, xo_ci, xo_cl, xo_iadd, xo_isub, xo_imul, xo_iand, xo_ior, xo_ixor, xo_ishl, xo_ishr, xo_iushr, xo_idiv, xo_irem, xo_ineg, xo_ladd, xo_lsub, xo_lmul, xo_land, xo_lor, xo_lxor, xo_ldiv, xo_lrem, xo_lneg, xo_lushr, xo_lshl, xo_lshr, xo_lcmp, xo_i2l, xo_l2i, xo_i2b, xo_i2s, xo_i2c, xo_dup, xo_pop, xo_zeq, xo_ceq, xo_zne, xo_cne, xo_zlt, xo_clt, xo_zge, xo_cge, xo_zgt, xo_cgt, xo_zle, xo_cle, xo_sw, xo_ts, xo_gf, xo_pfi, xo_pfl, xo_pfz, xo_pfr, xo_iald, xo_iast, xo_zast, xo_zald, xo_alen, xo_aald, xo_gs, xo_cv, xo_cs, xo_ca, xo_obj, xo_ri, xo_rz, xo_rl, xo_ra, xo_rc, xo_rb, xo_rv, xo_new, xo_newa, xo_anew, xo_aast, xo_mmax, xo_mmin, xo_mabs, xo_mmaxL, xo_mabsL, jw_ge, jw_st, jw_st2, jw_se, jw_un, jw_kk, jw_pp, jw_l4, jw_l1, jw_ps, jw_en, jw_N, jw_C, List.map_cons, List.map_nil, ↓reduceIte, Nat.reduceSub, Nat.reduceAdd, Nat.reduceEqDiff, Nat.reduceLeDiff, Nat.le_refl, Nat.zero_le, true_and, and_true, true_or, or_true, false_or, or_false, false_imp_iff, true_imp_iff, not_true_eq_false, not_false_eq_true, nI_0, nb_1, fa_10, fa_01, hle]
      exact hK I1 (by rw [show k = j by omega]; exact h1) hf
    | succ m ih =>
      intro j I1 hj hf h1
      have hle : ¬ nI k ≤ nI j := (nu_gt (by omega) (by omega)).mpr (by omega)
      refine hP _ _ _ _ _ ?_
      simp only [qq_8_pushZeros, bb_8_pushZeros_22, bb_8_pushZeros_2, bb_8_pushZeros_0, xo_il, xo_ll, xo_al, xo_is, xo_ls, xo_as, xo_ic, xo_ci, xo_cl, xo_iadd, xo_isub, xo_imul, xo_iand, xo_ior, xo_ixor, xo_ishl, xo_ishr, xo_iushr, xo_idiv, xo_irem, xo_ineg, xo_ladd, xo_lsub, xo_lmul, xo_land, xo_lor, xo_lxor, xo_ldiv, xo_lrem, xo_lneg, xo_lushr, xo_lshl, xo_lshr, xo_lcmp, xo_i2l, xo_l2i, xo_i2b, xo_i2s, xo_i2c, xo_dup, xo_pop, xo_zeq, xo_ceq, xo_zne, xo_cne, xo_zlt, xo_clt, xo_zge, xo_cge, xo_zgt, xo_cgt, xo_zle, xo_cle, xo_sw, xo_ts, xo_gf, xo_pfi, xo_pfl, xo_pfz, xo_pfr, xo_iald, xo_iast, xo_zast, xo_zald, xo_alen, xo_aald, xo_gs, xo_cv, xo_cs, xo_ca, xo_obj, xo_ri, xo_rz, xo_rl, xo_ra, xo_rc, xo_rb, xo_rv, xo_new, xo_newa, xo_anew, xo_aast, xo_mmax, xo_mmin, xo_mabs, xo_mmaxL, xo_mabsL, jw_ge, jw_st, jw_st2, jw_se, jw_un, jw_kk, jw_pp, jw_l4, jw_l1, jw_ps, jw_en, jw_N, jw_C, List.map_cons, List.map_nil, ↓reduceIte, Nat.reduceSub, Nat.reduceAdd, Nat.reduceEqDiff, Nat.reduceLeDiff, Nat.le_refl, Nat.zero_le, true_and, and_true, true_or, or_true, false_or, or_false, false_imp_iff, true_imp_iff, not_true_eq_false, not_false_eq_true, nI_0, nb_1, fa_10, fa_01, hle, hg_12_0, hg_12_1, hq_12_1, hg_12_2, hq_12_2, hi_12, hr_i hr13]
      refine rn_push hr13 h1 (by simp; omega) 0 (fun I2 hx2 hf2 => ?_)
      simp only [qq_8_pushZeros, bb_8_pushZeros_22, bb_8_pushZeros_2, bb_8_pushZeros_0, xo_il, xo_ll, xo_al, xo_is, xo_ls, xo_as, xo_ic, xo_ci, xo_cl, xo_iadd, xo_isub, xo_imul, xo_iand, xo_ior, xo_ixor, xo_ishl, xo_ishr, xo_iushr, xo_idiv, xo_irem, xo_ineg, xo_ladd, xo_lsub, xo_lmul, xo_land, xo_lor, xo_lxor, xo_ldiv, xo_lrem, xo_lneg, xo_lushr, xo_lshl, xo_lshr, xo_lcmp, xo_i2l, xo_l2i, xo_i2b, xo_i2s, xo_i2c, xo_dup, xo_pop, xo_zeq, xo_ceq, xo_zne, xo_cne, xo_zlt, xo_clt, xo_zge, xo_cge, xo_zgt, xo_cgt, xo_zle, xo_cle, xo_sw, xo_ts, xo_gf, xo_pfi, xo_pfl, xo_pfz, xo_pfr, xo_iald, xo_iast, xo_zast, xo_zald, xo_alen, xo_aald, xo_gs, xo_cv, xo_cs, xo_ca, xo_obj, xo_ri, xo_rz, xo_rl, xo_ra, xo_rc, xo_rb, xo_rv, xo_new, xo_newa, xo_anew, xo_aast, xo_mmax, xo_mmin, xo_mabs, xo_mmaxL, xo_mabsL, jw_ge, jw_st, jw_st2, jw_se, jw_un, jw_kk, jw_pp, jw_l4, jw_l1, jw_ps, jw_en, jw_N, jw_C, List.map_cons, List.map_nil, ↓reduceIte, Nat.reduceSub, Nat.reduceAdd, Nat.reduceEqDiff, Nat.reduceLeDiff, Nat.le_refl, Nat.zero_le, true_and, and_true, true_or, or_true, false_or, or_false, false_imp_iff, true_imp_iff, not_true_eq_false, not_false_eq_true, nI_0, nb_1, fa_10, fa_01, nI_1]
      refine ih (j + 1) I2 (by omega) (fr_tr hf hf2) ?_
      rw [List.replicate_succ', ← List.append_assoc]
      exact hx2
  refine hP _ _ _ _ _ ?_
  simp only [qq_8_pushZeros, bb_8_pushZeros_22, bb_8_pushZeros_0, xo_il, xo_ll, xo_al, xo_is, xo_ls, xo_as, xo_ic, xo_ci, xo_cl, xo_iadd, xo_isub, xo_imul, xo_iand, xo_ior, xo_ixor, xo_ishl, xo_ishr, xo_iushr, xo_idiv, xo_irem, xo_ineg, xo_ladd, xo_lsub, xo_lmul, xo_land, xo_lor, xo_lxor, xo_ldiv, xo_lrem, xo_lneg, xo_lushr, xo_lshl, xo_lshr, xo_lcmp, xo_i2l, xo_l2i, xo_i2b, xo_i2s, xo_i2c, xo_dup, xo_pop, xo_zeq, xo_ceq, xo_zne, xo_cne, xo_zlt, xo_clt, xo_zge, xo_cge, xo_zgt, xo_cgt, xo_zle, xo_cle, xo_sw, xo_ts, xo_gf, xo_pfi, xo_pfl, xo_pfz, xo_pfr, xo_iald, xo_iast, xo_zast, xo_zald, xo_alen, xo_aald, xo_gs, xo_cv, xo_cs, xo_ca, xo_obj, xo_ri, xo_rz, xo_rl, xo_ra, xo_rc, xo_rb, xo_rv, xo_new, xo_newa, xo_anew, xo_aast, xo_mmax, xo_mmin, xo_mabs, xo_mmaxL, xo_mabsL, jw_ge, jw_st, jw_st2, jw_se, jw_un, jw_kk, jw_pp, jw_l4, jw_l1, jw_ps, jw_en, jw_N, jw_C, List.map_cons, List.map_nil, ↓reduceIte, Nat.reduceSub, Nat.reduceAdd, Nat.reduceEqDiff, Nat.reduceLeDiff, Nat.le_refl, Nat.zero_le, true_and, and_true, true_or, or_true, false_or, or_false, false_imp_iff, true_imp_iff, not_true_eq_false, not_false_eq_true, nI_0, nb_1, fa_10, fa_01]
  exact lp k 0 I (by omega) fr_rf (by simpa using hx)
theorem tt_8_pushSymbol (hx : rn_ I 13 xs) (hq : uq_ I 1 rn) (hb : rb_ rn) {v : Nat} (hv : v < 2 ^ rn 0) (hn : xs.length + rn 0 + 1 ≤ 173) (hK : ∀ I2, rn_ I2 13 (xs ++ sb_ (rn 0) (rn 1) v) → fr_ I I2 13 → K none (hp_ I2 J)) : cc_8_pushSymbol [.ref 12, .ref 1, .int (nI v)] (hp_ I J) K := by
  refine jw_Cin (Nat.le_of_ble_eq_true rfl) rfl (fun P hP => ?_)
  obtain ⟨⟨b1, b2⟩, b3, -⟩ := hb
  have h6 : 2 ^ rn 0 ≤ 2 ^ 6 := Nat.pow_le_pow_right (by decide) b2
  have hp2 : pa_ (rn 1) v * 2 ^ rn 0 ≤ 2 ^ rn 0 := by
    have hp := pa_le (rn 1) v
    rcases (show pa_ (rn 1) v = 0 ∨ pa_ (rn 1) v = 1 by omega) with h | h <;> rw [h] <;> omega
  have hcd : cd_ (rn 0) (rn 1) v < 128 := by unfold cd_; omega
  generalize hc : cd_ (rn 0) (rn 1) v = c at hcd
  have lp : ∀ (m j : Nat) (I1 : Nat → Nat → Int32), rn 0 + 1 = j + m → fr_ I I1 13 → rn_ I1 13 (xs ++ (List.range j).map (fun i => c / 2 ^ i % 2)) → P 9 [.ref 12, .ref 1, .int (nI v), .int (nI c), .int (nI j)] [] (hp_ I1 J) (0, 0) := by
    intro m
    induction m with
    | zero =>
      intro j I1 hj hf h1
      have hq1 := uq_ff (a := 13) (b := 15) hq (ff_fr hf (by decide) (by decide)) (by decide)
      have hle : nI (rn 0) < nI j := (nI_ltI (by omega) (by omega)).mpr (by omega)
      refine hP _ _ _ _ _ ?_
      simp only [qq_8_pushSymbol, bb_8_pushSymbol_39, bb_8_pushSymbol_9, bb_8_pushSymbol_0, xo_il, xo_ll, xo_al, xo_is, xo_ls, xo_as, xo_ic, xo_ci, xo_cl, xo_iadd, xo_isub, xo_imul, xo_iand, xo_ior, xo_ixor, xo_ishl, xo_ishr, xo_iushr, xo_idiv, xo_irem, xo_ineg, xo_ladd, xo_lsub, xo_lmul, xo_land, xo_lor, xo_lxor, xo_ldiv, xo_lrem, xo_lneg, xo_lushr, xo_lshl, xo_lshr, xo_lcmp, xo_i2l, xo_l2i, xo_i2b, xo_i2s, xo_i2c, xo_dup, xo_pop, xo_zeq, xo_ceq, xo_zne, xo_cne, xo_zlt, xo_clt, xo_zge, xo_cge, xo_zgt, xo_cgt, xo_zle, xo_cle, xo_sw, xo_ts, xo_gf, xo_pfi, xo_pfl, xo_pfz, xo_pfr, xo_iald, xo_iast, xo_zast, xo_zald, xo_alen, xo_aald, xo_gs, xo_cv, xo_cs, xo_ca, xo_obj, xo_ri, xo_rz, xo_rl, xo_ra, xo_rc, xo_rb, xo_rv, xo_new, xo_newa, xo_anew, xo_aast, xo_mmax, xo_mmin, xo_mabs, xo_mmaxL, xo_mabsL, jw_ge, jw_st, jw_st2, jw_se, jw_un, jw_kk, jw_pp, jw_l4, jw_l1, jw_ps, jw_en, jw_N, jw_C, List.map_cons, List.map_nil, ↓reduceIte, Nat.reduceSub, Nat.reduceAdd, Nat.reduceEqDiff, Nat.reduceLeDiff, Nat.le_refl, Nat.zero_le, true_and, and_true, true_or, or_true, false_or, or_false, false_imp_iff, true_imp_iff, not_true_eq_false, not_false_eq_true, nI_0, nb_1, fa_10, fa_01, hu_i hu1]
      refine tt_5_of (j := 0) hu1 hq1 (by decide) ?_
      simp only [qq_8_pushSymbol, bb_8_pushSymbol_39, bb_8_pushSymbol_9, bb_8_pushSymbol_0, xo_il, xo_ll, xo_al, xo_is, xo_ls, xo_as, xo_ic, xo_ci, xo_cl, xo_iadd, xo_isub, xo_imul, xo_iand, xo_ior, xo_ixor, xo_ishl, xo_ishr, xo_iushr, xo_idiv, xo_irem, xo_ineg, xo_ladd, xo_lsub, xo_lmul, xo_land, xo_lor, xo_lxor, xo_ldiv, xo_lrem, xo_lneg, xo_lushr, xo_lshl, xo_lshr, xo_lcmp, xo_i2l, xo_l2i, xo_i2b, xo_i2s, xo_i2c, xo_dup, xo_pop, xo_zeq, xo_ceq, xo_zne, xo_cne, xo_zlt, xo_clt, xo_zge, xo_cge, xo_zgt, xo_cgt, xo_zle, xo_cle, xo_sw, xo_ts, xo_gf, xo_pfi, xo_pfl, xo_pfz, xo_pfr, xo_iald, xo_iast, xo_zast, xo_zald, xo_alen, xo_aald, xo_gs, xo_cv, xo_cs, xo_ca, xo_obj, xo_ri, xo_rz, xo_rl, xo_ra, xo_rc, xo_rb, xo_rv, xo_new, xo_newa, xo_anew, xo_aast, xo_mmax, xo_mmin, xo_mabs, xo_mmaxL, xo_mabsL, jw_ge, jw_st, jw_st2, jw_se, jw_un, jw_kk, jw_pp, jw_l4, jw_l1, jw_ps, jw_en, jw_N, jw_C, List.map_cons, List.map_nil, ↓reduceIte, Nat.reduceSub, Nat.reduceAdd, Nat.reduceEqDiff, Nat.reduceLeDiff, Nat.le_refl, Nat.zero_le, true_and, and_true, true_or, or_true, false_or, or_false, false_imp_iff, true_imp_iff, not_true_eq_false, not_false_eq_true, nI_0, nb_1, fa_10, fa_01, hle]
      refine hK I1 ?_ hf
      rw [← sb_cd (rn 0) (by omega) (rn 1) (by omega) v (by omega) hv, hc, show rn 0 + 1 = j by omega]
      exact h1
    | succ m ih =>
      intro j I1 hj hf h1
      have hq1 := uq_ff (a := 13) (b := 15) hq (ff_fr hf (by decide) (by decide)) (by decide)
      have hle : ¬ nI (rn 0) < nI j := fun h => absurd ((nI_ltI (by omega) (by omega)).mp h) (by omega)
      refine hP _ _ _ _ _ ?_
      simp only [qq_8_pushSymbol, bb_8_pushSymbol_39, bb_8_pushSymbol_9, bb_8_pushSymbol_0, xo_il, xo_ll, xo_al, xo_is, xo_ls, xo_as, xo_ic, xo_ci, xo_cl, xo_iadd, xo_isub, xo_imul, xo_iand, xo_ior, xo_ixor, xo_ishl, xo_ishr, xo_iushr, xo_idiv, xo_irem, xo_ineg, xo_ladd, xo_lsub, xo_lmul, xo_land, xo_lor, xo_lxor, xo_ldiv, xo_lrem, xo_lneg, xo_lushr, xo_lshl, xo_lshr, xo_lcmp, xo_i2l, xo_l2i, xo_i2b, xo_i2s, xo_i2c, xo_dup, xo_pop, xo_zeq, xo_ceq, xo_zne, xo_cne, xo_zlt, xo_clt, xo_zge, xo_cge, xo_zgt, xo_cgt, xo_zle, xo_cle, xo_sw, xo_ts, xo_gf, xo_pfi, xo_pfl, xo_pfz, xo_pfr, xo_iald, xo_iast, xo_zast, xo_zald, xo_alen, xo_aald, xo_gs, xo_cv, xo_cs, xo_ca, xo_obj, xo_ri, xo_rz, xo_rl, xo_ra, xo_rc, xo_rb, xo_rv, xo_new, xo_newa, xo_anew, xo_aast, xo_mmax, xo_mmin, xo_mabs, xo_mmaxL, xo_mabsL, jw_ge, jw_st, jw_st2, jw_se, jw_un, jw_kk, jw_pp, jw_l4, jw_l1, jw_ps, jw_en, jw_N, jw_C, List.map_cons, List.map_nil, ↓reduceIte, Nat.reduceSub, Nat.reduceAdd, Nat.reduceEqDiff, Nat.reduceLeDiff, Nat.le_refl, Nat.zero_le, true_and, and_true, true_or, or_true, false_or, or_false, false_imp_iff, true_imp_iff, not_true_eq_false, not_false_eq_true, nI_0, nb_1, fa_10, fa_01, hu_i hu1]
      refine tt_5_of (j := 0) hu1 hq1 (by decide) ?_
      have hdl : c / 2 ^ j ≤ c := Nat.div_le_self _ _
      simp only [qq_8_pushSymbol, bb_8_pushSymbol_39, bb_8_pushSymbol_9, bb_8_pushSymbol_0, xo_il, xo_ll, xo_al, xo_is, xo_ls, xo_as, xo_ic, xo_ci, xo_cl, xo_iadd, xo_isub, xo_imul, xo_iand, xo_ior, xo_ixor, xo_ishl, xo_ishr, xo_iushr, xo_idiv, xo_irem, xo_ineg, xo_ladd, xo_lsub, xo_lmul, xo_land, xo_lor, xo_lxor, xo_ldiv, xo_lrem, xo_lneg, xo_lushr, xo_lshl, xo_lshr, xo_lcmp, xo_i2l, xo_l2i, xo_i2b, xo_i2s, xo_i2c, xo_dup, xo_pop, xo_zeq, xo_ceq, xo_zne, xo_cne, xo_zlt, xo_clt, xo_zge, xo_cge, xo_zgt, xo_cgt, xo_zle, xo_cle, xo_sw, xo_ts, xo_gf, xo_pfi, xo_pfl, xo_pfz, xo_pfr, xo_iald, xo_iast, xo_zast, xo_zald, xo_alen, xo_aald, xo_gs, xo_cv, xo_cs, xo_ca, xo_obj, xo_ri, xo_rz, xo_rl, xo_ra, xo_rc, xo_rb, xo_rv, xo_new, xo_newa, xo_anew, xo_aast, xo_mmax, xo_mmin, xo_mabs, xo_mmaxL, xo_mabsL, jw_ge, jw_st, jw_st2, jw_se, jw_un, jw_kk, jw_pp, jw_l4, jw_l1, jw_ps, jw_en, jw_N, jw_C, List.map_cons, List.map_nil, ↓reduceIte, Nat.reduceSub, Nat.reduceAdd, Nat.reduceEqDiff, Nat.reduceLeDiff, Nat.le_refl, Nat.zero_le, true_and, and_true, true_or, or_true, false_or, or_false, false_imp_iff, true_imp_iff, not_true_eq_false, not_false_eq_true, nI_0, nb_1, fa_10, fa_01, hle, hg_12_0, hg_12_1, hq_12_1, hg_12_2, hq_12_2, hi_12, hr_i hr13, nu_shr (show c < 2 ^ 31 by omega) (show j < 32 by omega), nu_a1 (show c / 2 ^ j < 2 ^ 32 by omega)]
      refine rn_push hr13 h1 (by simp; omega) _ (fun I2 hx2 hf2 => ?_)
      simp only [qq_8_pushSymbol, bb_8_pushSymbol_39, bb_8_pushSymbol_9, bb_8_pushSymbol_0, xo_il, xo_ll, xo_al, xo_is, xo_ls, xo_as, xo_ic, xo_ci, xo_cl, xo_iadd, xo_isub, xo_imul, xo_iand, xo_ior, xo_ixor, xo_ishl, xo_ishr, xo_iushr, xo_idiv, xo_irem, xo_ineg, xo_ladd, xo_lsub, xo_lmul, xo_land, xo_lor, xo_lxor, xo_ldiv, xo_lrem, xo_lneg, xo_lushr, xo_lshl, xo_lshr, xo_lcmp, xo_i2l, xo_l2i, xo_i2b, xo_i2s, xo_i2c, xo_dup, xo_pop, xo_zeq, xo_ceq, xo_zne, xo_cne, xo_zlt, xo_clt, xo_zge, xo_cge, xo_zgt, xo_cgt, xo_zle, xo_cle, xo_sw, xo_ts, xo_gf, xo_pfi, xo_pfl, xo_pfz, xo_pfr, xo_iald, xo_iast, xo_zast, xo_zald, xo_alen, xo_aald, xo_gs, xo_cv, xo_cs, xo_ca, xo_obj, xo_ri, xo_rz, xo_rl, xo_ra, xo_rc, xo_rb, xo_rv, xo_new, xo_newa, xo_anew, xo_aast, xo_mmax, xo_mmin, xo_mabs, xo_mmaxL, xo_mabsL, jw_ge, jw_st, jw_st2, jw_se, jw_un, jw_kk, jw_pp, jw_l4, jw_l1, jw_ps, jw_en, jw_N, jw_C, List.map_cons, List.map_nil, ↓reduceIte, Nat.reduceSub, Nat.reduceAdd, Nat.reduceEqDiff, Nat.reduceLeDiff, Nat.le_refl, Nat.zero_le, true_and, and_true, true_or, or_true, false_or, or_false, false_imp_iff, true_imp_iff, not_true_eq_false, not_false_eq_true, nI_0, nb_1, fa_10, fa_01, nI_1]
      refine ih (j + 1) I2 (by omega) (fr_tr hf hf2) ?_
      rw [List.range_succ, List.map_append, ← List.append_assoc]
      exact hx2
  refine hP _ _ _ _ _ ?_
  simp only [qq_8_pushSymbol, bb_8_pushSymbol_39, bb_8_pushSymbol_0, xo_il, xo_ll, xo_al, xo_is, xo_ls, xo_as, xo_ic, xo_ci, xo_cl, xo_iadd, xo_isub, xo_imul, xo_iand, xo_ior, xo_ixor, xo_ishl, xo_ishr, xo_iushr, xo_idiv, xo_irem, xo_ineg, xo_ladd, xo_lsub, xo_lmul, xo_land, xo_lor, xo_lxor, xo_ldiv, xo_lrem, xo_lneg, xo_lushr, xo_lshl, xo_lshr, xo_lcmp, xo_i2l, xo_l2i, xo_i2b, xo_i2s, xo_i2c, xo_dup, xo_pop, xo_zeq, xo_ceq, xo_zne, xo_cne, xo_zlt, xo_clt, xo_zge, xo_cge, xo_zgt, xo_cgt, xo_zle, xo_cle, xo_sw, xo_ts, xo_gf, xo_pfi, xo_pfl, xo_pfz, xo_pfr, xo_iald, xo_iast, xo_zast, xo_zald, xo_alen, xo_aald, xo_gs, xo_cv, xo_cs, xo_ca, xo_obj, xo_ri, xo_rz, xo_rl, xo_ra, xo_rc, xo_rb, xo_rv, xo_new, xo_newa, xo_anew, xo_aast, xo_mmax, xo_mmin, xo_mabs, xo_mmaxL, xo_mabsL, jw_ge, jw_st, jw_st2, jw_se, jw_un, jw_kk, jw_pp, jw_l4, jw_l1, jw_ps, jw_en, jw_N, jw_C, List.map_cons, List.map_nil, ↓reduceIte, Nat.reduceSub, Nat.reduceAdd, Nat.reduceEqDiff, Nat.reduceLeDiff, Nat.le_refl, Nat.zero_le, true_and, and_true, true_or, or_true, false_or, or_false, false_imp_iff, true_imp_iff, not_true_eq_false, not_false_eq_true, nI_0, nb_1, fa_10, fa_01, hu_i hu1]
  refine tt_5_coded hu1 hq b2 b3 hv ?_
  simp only [qq_8_pushSymbol, bb_8_pushSymbol_39, bb_8_pushSymbol_0, xo_il, xo_ll, xo_al, xo_is, xo_ls, xo_as, xo_ic, xo_ci, xo_cl, xo_iadd, xo_isub, xo_imul, xo_iand, xo_ior, xo_ixor, xo_ishl, xo_ishr, xo_iushr, xo_idiv, xo_irem, xo_ineg, xo_ladd, xo_lsub, xo_lmul, xo_land, xo_lor, xo_lxor, xo_ldiv, xo_lrem, xo_lneg, xo_lushr, xo_lshl, xo_lshr, xo_lcmp, xo_i2l, xo_l2i, xo_i2b, xo_i2s, xo_i2c, xo_dup, xo_pop, xo_zeq, xo_ceq, xo_zne, xo_cne, xo_zlt, xo_clt, xo_zge, xo_cge, xo_zgt, xo_cgt, xo_zle, xo_cle, xo_sw, xo_ts, xo_gf, xo_pfi, xo_pfl, xo_pfz, xo_pfr, xo_iald, xo_iast, xo_zast, xo_zald, xo_alen, xo_aald, xo_gs, xo_cv, xo_cs, xo_ca, xo_obj, xo_ri, xo_rz, xo_rl, xo_ra, xo_rc, xo_rb, xo_rv, xo_new, xo_newa, xo_anew, xo_aast, xo_mmax, xo_mmin, xo_mabs, xo_mmaxL, xo_mabsL, jw_ge, jw_st, jw_st2, jw_se, jw_un, jw_kk, jw_pp, jw_l4, jw_l1, jw_ps, jw_en, jw_N, jw_C, List.map_cons, List.map_nil, ↓reduceIte, Nat.reduceSub, Nat.reduceAdd, Nat.reduceEqDiff, Nat.reduceLeDiff, Nat.le_refl, Nat.zero_le, true_and, and_true, true_or, or_true, false_or, or_false, false_imp_iff, true_imp_iff, not_true_eq_false, not_false_eq_true, nI_0, nb_1, fa_10, fa_01, hc]
  exact lp (rn 0 + 1) 0 I (by omega) fr_rf (by simpa using hx)
theorem st_len {rn : Nat → Nat} {rw : List Nat} (hb : rb_ rn) (hw : rw.length ≤ 16) : (st_ rn rw).length ≤ 173 := by
  obtain ⟨⟨b1, b2⟩, b3, b4, b5, ⟨b6, b7⟩, ⟨b8, b9⟩, -⟩ := hb
  have h1 : (rw.flatMap (sb_ (rn 0) (rn 1))).length = rw.length * (rn 0 + 1) := by
    clear hw
    induction rw with
    | nil => simp
    | cons v l ih => rw [List.flatMap_cons, List.length_append, ih, sb_len, List.length_cons]; rw [Nat.succ_mul]; omega
  have h2 : rw.length * (rn 0 + 1) ≤ 16 * 7 := Nat.mul_le_mul hw (by omega)
  have h3 : (if rn 7 = 1 then sb_ (rn 0) (rn 1) (ck_ rn rw) else []).length ≤ rn 0 + 1 := by
    split
    · rw [sb_len]; exact Nat.le_refl _
    · simp
  unfold st_
  simp only [List.length_append, List.length_replicate, sb_len, h1]
  omega
end ST
