/-! the reference: a draw is kept; sheets -/
theorem s8_ (v : Int32) : (v <<< ((24 : Int32) &&& 31)) >>> ((24 : Int32) &&& 31) = v.toInt8.toInt32 := by
  apply Int32.toInt_inj.mp
  have h1 := pk_shl v ((24 : Int32) &&& 31) 24 (by decide)
  have h2 := pk_shr (v <<< ((24 : Int32) &&& 31)) ((24 : Int32) &&& 31) 24 (by decide)
  rw [h2, Int8.toInt_toInt32, Int32.toInt_toInt8, Int.shiftRight_eq_div_pow]
  generalize v <<< ((24 : Int32) &&& 31) = w at h1 ⊢
  have h3 : w.toInt = w.toBitVec.toInt := rfl
  have h4 := BitVec.toInt_eq_toNat_cond w.toBitVec
  have h5 := BitVec.toInt_eq_toNat_cond v.toBitVec
  have h6 : v.toInt = v.toBitVec.toInt := rfl
  have h7 := v.toBitVec.isLt
  have h8 := w.toBitVec.isLt
  rw [Int.bmod_def]
  split at h4 <;> split at h5 <;> split <;> omega
theorem s16_ (v : Int32) : (v <<< ((16 : Int32) &&& 31)) >>> ((16 : Int32) &&& 31) = v.toInt16.toInt32 := by
  apply Int32.toInt_inj.mp
  have h1 := pk_shl v ((16 : Int32) &&& 31) 16 (by decide)
  have h2 := pk_shr (v <<< ((16 : Int32) &&& 31)) ((16 : Int32) &&& 31) 16 (by decide)
  rw [h2, Int16.toInt_toInt32, Int32.toInt_toInt16, Int.shiftRight_eq_div_pow]
  generalize v <<< ((16 : Int32) &&& 31) = w at h1 ⊢
  have h3 : w.toInt = w.toBitVec.toInt := rfl
  have h4 := BitVec.toInt_eq_toNat_cond w.toBitVec
  have h5 := BitVec.toInt_eq_toNat_cond v.toBitVec
  have h6 : v.toInt = v.toBitVec.toInt := rfl
  have h7 := v.toBitVec.isLt
  have h8 := w.toBitVec.isLt
  rw [Int.bmod_def]
  split at h4 <;> split at h5 <;> split <;> omega
/-- a cell's place by longs and by ints -/
theorem lb_ix {n i : Nat} (f : Int32) (hn : n ≤ 64) (hi : i ≤ 64) : lb_ 0 (nI n - 1).toInt64 (f.toInt64 + (nI i).toInt64) = hx_ (ix_ n (f + nI i)) := by
  have e1 : (f.toInt64 + (nI i).toInt64).toInt = f.toInt + i := by
    have a1 := Int32.toInt_lt f
    have a2 := Int32.le_toInt f
    rw [Int64.toInt_add, Int32.toInt_toInt64, Int32.toInt_toInt64, nI_toInt (by omega), Int.bmod_eq_of_le] <;> omega
  have e2 : (nI n - 1).toInt64.toInt = (n : Int) - 1 := by
    rw [Int32.toInt_toInt64]
    have := pk_sub_toInt (a := n) (b := 1) (by omega) (by omega)
    exact this
  have e0 : (0 : Int64).toInt = 0 := rfl
  have b1 := Int32.toInt_lt f
  have b2 := Int32.le_toInt f
  have e3 : (f + nI i).toInt = (f.toInt + i).bmod (2 ^ 32) := by rw [Int32.toInt_add, nI_toInt (by omega)]
  have e3' : (f + nI i).toInt = f.toInt + i ∨ 2147483647 - 64 ≤ f.toInt ∧ (f + nI i).toInt < 0 := by
    rw [e3, Int.bmod_def]; split <;> omega
  unfold lb_
  simp only [Int64.lt_iff_toInt_lt, e1, e2, e0]
  cases h : ix_ n (f + nI i) with
  | none =>
    rcases ix_n h with h1 | ⟨j, hj, hj2, h1⟩
    · rw [Int32.lt_iff_toInt_lt] at h1
      have z : (0 : Int32).toInt = 0 := rfl
      by_cases q : f.toInt + ↑i < 0
      · rw [if_pos q]; rfl
      · rw [if_neg q, if_pos (by omega)]; rfl
    · have hj3 : (f + nI i).toInt = j := by rw [hj2, nI_toInt hj]
      rw [if_neg (by omega), if_pos (by omega)]; rfl
  | some j =>
    obtain ⟨hj2, hj⟩ := ix_s h
    have hj3 : (f + nI i).toInt = j := by rw [hj2, nI_toInt (by omega)]
    rw [if_neg (by omega), if_neg (by omega)]; rfl
section SH
variable {I : Nat → Nat → Int32} {J : Nat → Nat → Int64} {K : jw_K} {tp : List Nat} {fl : Nat} {u : Nat → Nat} {wr gp bs : List Nat} {ds : List (List (Nat × Nat))} {sh : Nat → sh_T} {tn : Int32}
theorem im_86 {F A : List Nat} {I2 : Nat → Nat → Int32} (h : im_ I tp fl u wr gp ds sh tn) (hf : fq_ F A I I2) (hp : (∀ j ∈ [1, 2, 18, 22, 49], ¬ j ∈ F) ∧ ∀ q ∈ [69, 70, 71, 72, 73, 74, 75, 76, 78, 80, 89, 90, 91], ¬ q ∈ A) {ds' : List (List (Nat × Nat))} (hx : md_ I2 ds') : im_ I2 tp fl u wr gp ds' sh tn := by
  obtain ⟨g1, g2, g3, g4, g5, g6, g7, g8, g9⟩ := h
  obtain ⟨p1, p2⟩ := hp
  exact ⟨mn_fq g1 hf (p1 _ (by decide)) (p2 _ (by decide)) (by decide) (p2 _ (by decide)), by rw [fq_f hf (p1 2 (by decide)) (p2 _ (by decide))]; exact g2, uq_fq g3 hf (p2 _ (by decide)), mn_fq g4 hf (p1 _ (by decide)) (p2 _ (by decide)) (by decide) (p2 _ (by decide)), mn_fq g5 hf (p1 _ (by decide)) (p2 _ (by decide)) (by decide) (p2 _ (by decide)), hx, ms_fq g7 hf ⟨p2 _ (by decide), p2 _ (by decide), p2 _ (by decide)⟩, by rw [fq_f hf (p1 49 (by decide)) (p2 _ (by decide))]; exact g8, mk_fq g9 hf ⟨p2 _ (by decide), p2 _ (by decide), p2 _ (by decide), p2 _ (by decide), p2 _ (by decide)⟩⟩
theorem im_89 {F A : List Nat} {I2 : Nat → Nat → Int32} (h : im_ I tp fl u wr gp ds sh tn) (hf : fq_ F A I I2) (hp : (∀ j ∈ [1, 2, 18, 22, 41, 49], ¬ j ∈ F) ∧ ∀ q ∈ [69, 70, 71, 72, 73, 74, 75, 76, 78, 80, 86, 87, 88], ¬ q ∈ A) {sh' : Nat → sh_T} (hx : ms_ I2 sh') : im_ I2 tp fl u wr gp ds sh' tn := by
  obtain ⟨g1, g2, g3, g4, g5, g6, g7, g8, g9⟩ := h
  obtain ⟨p1, p2⟩ := hp
  exact ⟨mn_fq g1 hf (p1 _ (by decide)) (p2 _ (by decide)) (by decide) (p2 _ (by decide)), by rw [fq_f hf (p1 2 (by decide)) (p2 _ (by decide))]; exact g2, uq_fq g3 hf (p2 _ (by decide)), mn_fq g4 hf (p1 _ (by decide)) (p2 _ (by decide)) (by decide) (p2 _ (by decide)), mn_fq g5 hf (p1 _ (by decide)) (p2 _ (by decide)) (by decide) (p2 _ (by decide)), md_fq g6 hf (p1 _ (by decide)) ⟨p2 _ (by decide), p2 _ (by decide), p2 _ (by decide)⟩ (p2 _ (by decide)), hx, by rw [fq_f hf (p1 49 (by decide)) (p2 _ (by decide))]; exact g8, mk_fq g9 hf ⟨p2 _ (by decide), p2 _ (by decide), p2 _ (by decide), p2 _ (by decide), p2 _ (by decide)⟩⟩
theorem im_tn {F A : List Nat} {I2 : Nat → Nat → Int32} (h : im_ I tp fl u wr gp ds sh tn) (hf : fq_ F A I I2) (hp : (∀ j ∈ [1, 2, 18, 41], ¬ j ∈ F) ∧ ∀ q ∈ [69, 70, 71, 72, 73, 74, 75, 76, 78, 86, 87, 88, 89, 90, 91], ¬ q ∈ A) {gp' : List Nat} {tn' : Int32} (hx : mn_ I2 80 22 gp') (ht : I2 69 49 = tn') : im_ I2 tp fl u wr gp' ds sh tn' := by
  obtain ⟨g1, g2, g3, g4, g5, g6, g7, g8, g9⟩ := h
  obtain ⟨p1, p2⟩ := hp
  exact ⟨mn_fq g1 hf (p1 _ (by decide)) (p2 _ (by decide)) (by decide) (p2 _ (by decide)), by rw [fq_f hf (p1 2 (by decide)) (p2 _ (by decide))]; exact g2, uq_fq g3 hf (p2 _ (by decide)), mn_fq g4 hf (p1 _ (by decide)) (p2 _ (by decide)) (by decide) (p2 _ (by decide)), hx, md_fq g6 hf (p1 _ (by decide)) ⟨p2 _ (by decide), p2 _ (by decide), p2 _ (by decide)⟩ (p2 _ (by decide)), ms_fq g7 hf ⟨p2 _ (by decide), p2 _ (by decide), p2 _ (by decide)⟩, ht, mk_fq g9 hf ⟨p2 _ (by decide), p2 _ (by decide), p2 _ (by decide), p2 _ (by decide), p2 _ (by decide)⟩⟩
theorem tm_sheet (h : im_ I tp fl u wr gp ds sh tn) (k l n : Int32) (hK : ∀ I2, im_ I2 tp fl u wr gp ds (shr_ sh k l n).2 tn → fh_ I I2 → K (some (.int (shr_ sh k l n).1)) (hp_ I2 J)) : cc_11_sheet [.ref 69, .int k, .int l, .int n] (hp_ I J) K := by
  refine jw_Cin (Nat.le_of_ble_eq_true rfl) rfl (fun P hP => ?_)
  unfold shr_ at hK
  refine hP _ _ _ _ _ ?_
  simp only [bb_11_sheet_0, bb_11_sheet_30, qq_11_sheet, xo_il, xo_ll, xo_al, xo_is, xo_ls, xo_as, xo_ic, xo_ci, xo_cl, xo_iadd, xo_isub, xo_imul, xo_iand, xo_ior, xo_ixor, xo_ishl, xo_ishr, xo_iushr, xo_idiv, xo_irem, xo_ineg, xo_ladd, xo_lsub, xo_lmul, xo_land, xo_lor, xo_lxor, xo_ldiv, xo_lrem, xo_lneg, xo_lushr, xo_lshl, xo_lshr, xo_lcmp, xo_i2l, xo_l2i, xo_i2b, xo_i2s, xo_i2c, xo_dup, xo_pop, xo_zeq, xo_ceq, xo_zne, xo_cne, xo_zlt, xo_clt, xo_zge, xo_cge, xo_zgt, xo_cgt, xo_zle, xo_cle, xo_sw, xo_ts, xo_gf, xo_pfi, xo_pfl, xo_pfz, xo_pfr, xo_iald, xo_iast, xo_zast, xo_zald, xo_alen, xo_aald, xo_gs, xo_cv, xo_cs, xo_ca, xo_obj, xo_ri, xo_rz, xo_rl, xo_ra, xo_rc, xo_rb, xo_rv, xo_new, xo_newa, xo_anew, xo_aast, xo_mmax, xo_mmin, xo_mabs, xo_mmaxL, xo_mabsL, jw_ge, jw_st, jw_st2, jw_se, jw_un, jw_kk, jw_pp, jw_l4, jw_l1, jw_ps, jw_en, jw_N, jw_C, List.map_cons, List.map_nil, ↓reduceIte, Nat.reduceSub, Nat.reduceAdd, Nat.reduceEqDiff, Nat.reduceLeDiff, Nat.le_refl, Nat.zero_le, true_and, and_true, true_or, or_true, false_or, or_false, false_imp_iff, true_imp_iff, not_true_eq_false, not_false_eq_true, nI_0, nb_1, fa_10, fa_01]
  refine tm_inz (a := 0) (b := nI 3) rfl rfl ?_
  rw [bz_ix (by omega)]
  cases hk : ix_ (3 + 1) k with
  | none =>
    rw [hk] at hK
    simp only [xo_il, xo_ll, xo_al, xo_is, xo_ls, xo_as, xo_ic, xo_ci, xo_cl, xo_iadd, xo_isub, xo_imul, xo_iand, xo_ior, xo_ixor, xo_ishl, xo_ishr, xo_iushr, xo_idiv, xo_irem, xo_ineg, xo_ladd, xo_lsub, xo_lmul, xo_land, xo_lor, xo_lxor, xo_ldiv, xo_lrem, xo_lneg, xo_lushr, xo_lshl, xo_lshr, xo_lcmp, xo_i2l, xo_l2i, xo_i2b, xo_i2s, xo_i2c, xo_dup, xo_pop, xo_zeq, xo_ceq, xo_zne, xo_cne, xo_zlt, xo_clt, xo_zge, xo_cge, xo_zgt, xo_cgt, xo_zle, xo_cle, xo_sw, xo_ts, xo_gf, xo_pfi, xo_pfl, xo_pfz, xo_pfr, xo_iald, xo_iast, xo_zast, xo_zald, xo_alen, xo_aald, xo_gs, xo_cv, xo_cs, xo_ca, xo_obj, xo_ri, xo_rz, xo_rl, xo_ra, xo_rc, xo_rb, xo_rv, xo_new, xo_newa, xo_anew, xo_aast, xo_mmax, xo_mmin, xo_mabs, xo_mmaxL, xo_mabsL, jw_ge, jw_st, jw_st2, jw_se, jw_un, jw_kk, jw_pp, jw_l4, jw_l1, jw_ps, jw_en, jw_N, jw_C, List.map_cons, List.map_nil, ↓reduceIte, Nat.reduceSub, Nat.reduceAdd, Nat.reduceEqDiff, Nat.reduceLeDiff, Nat.le_refl, Nat.zero_le, true_and, and_true, true_or, or_true, false_or, or_false, false_imp_iff, true_imp_iff, not_true_eq_false, not_false_eq_true, nI_0, nb_1, fa_10, fa_01, hx_]
    exact hK I h fh_rf
  | some k' =>
    rw [hk] at hK
    obtain ⟨rfl, hk4⟩ := ix_s hk
    simp only [xo_il, xo_ll, xo_al, xo_is, xo_ls, xo_as, xo_ic, xo_ci, xo_cl, xo_iadd, xo_isub, xo_imul, xo_iand, xo_ior, xo_ixor, xo_ishl, xo_ishr, xo_iushr, xo_idiv, xo_irem, xo_ineg, xo_ladd, xo_lsub, xo_lmul, xo_land, xo_lor, xo_lxor, xo_ldiv, xo_lrem, xo_lneg, xo_lushr, xo_lshl, xo_lshr, xo_lcmp, xo_i2l, xo_l2i, xo_i2b, xo_i2s, xo_i2c, xo_dup, xo_pop, xo_zeq, xo_ceq, xo_zne, xo_cne, xo_zlt, xo_clt, xo_zge, xo_cge, xo_zgt, xo_cgt, xo_zle, xo_cle, xo_sw, xo_ts, xo_gf, xo_pfi, xo_pfl, xo_pfz, xo_pfr, xo_iald, xo_iast, xo_zast, xo_zald, xo_alen, xo_aald, xo_gs, xo_cv, xo_cs, xo_ca, xo_obj, xo_ri, xo_rz, xo_rl, xo_ra, xo_rc, xo_rb, xo_rv, xo_new, xo_newa, xo_anew, xo_aast, xo_mmax, xo_mmin, xo_mabs, xo_mmaxL, xo_mabsL, jw_ge, jw_st, jw_st2, jw_se, jw_un, jw_kk, jw_pp, jw_l4, jw_l1, jw_ps, jw_en, jw_N, jw_C, List.map_cons, List.map_nil, ↓reduceIte, Nat.reduceSub, Nat.reduceAdd, Nat.reduceEqDiff, Nat.reduceLeDiff, Nat.le_refl, Nat.zero_le, true_and, and_true, true_or, or_true, false_or, or_false, false_imp_iff, true_imp_iff, not_true_eq_false, not_false_eq_true, nI_0, nb_1, fa_10, fa_01, hx_]
    refine tm_inz (a := 0) (b := nI 2) rfl rfl ?_
    rw [bz_ix (by omega)]
    cases hl : ix_ (2 + 1) l with
    | none =>
      rw [hl] at hK
      simp only [xo_il, xo_ll, xo_al, xo_is, xo_ls, xo_as, xo_ic, xo_ci, xo_cl, xo_iadd, xo_isub, xo_imul, xo_iand, xo_ior, xo_ixor, xo_ishl, xo_ishr, xo_iushr, xo_idiv, xo_irem, xo_ineg, xo_ladd, xo_lsub, xo_lmul, xo_land, xo_lor, xo_lxor, xo_ldiv, xo_lrem, xo_lneg, xo_lushr, xo_lshl, xo_lshr, xo_lcmp, xo_i2l, xo_l2i, xo_i2b, xo_i2s, xo_i2c, xo_dup, xo_pop, xo_zeq, xo_ceq, xo_zne, xo_cne, xo_zlt, xo_clt, xo_zge, xo_cge, xo_zgt, xo_cgt, xo_zle, xo_cle, xo_sw, xo_ts, xo_gf, xo_pfi, xo_pfl, xo_pfz, xo_pfr, xo_iald, xo_iast, xo_zast, xo_zald, xo_alen, xo_aald, xo_gs, xo_cv, xo_cs, xo_ca, xo_obj, xo_ri, xo_rz, xo_rl, xo_ra, xo_rc, xo_rb, xo_rv, xo_new, xo_newa, xo_anew, xo_aast, xo_mmax, xo_mmin, xo_mabs, xo_mmaxL, xo_mabsL, jw_ge, jw_st, jw_st2, jw_se, jw_un, jw_kk, jw_pp, jw_l4, jw_l1, jw_ps, jw_en, jw_N, jw_C, List.map_cons, List.map_nil, ↓reduceIte, Nat.reduceSub, Nat.reduceAdd, Nat.reduceEqDiff, Nat.reduceLeDiff, Nat.le_refl, Nat.zero_le, true_and, and_true, true_or, or_true, false_or, or_false, false_imp_iff, true_imp_iff, not_true_eq_false, not_false_eq_true, nI_0, nb_1, fa_10, fa_01, hx_]
      exact hK I h fh_rf
    | some l' =>
      rw [hl] at hK
      dsimp only at hK
      obtain ⟨rfl, hl3⟩ := ix_s hl
      simp only [bb_11_sheet_32, bb_11_sheet_39, xo_il, xo_ll, xo_al, xo_is, xo_ls, xo_as, xo_ic, xo_ci, xo_cl, xo_iadd, xo_isub, xo_imul, xo_iand, xo_ior, xo_ixor, xo_ishl, xo_ishr, xo_iushr, xo_idiv, xo_irem, xo_ineg, xo_ladd, xo_lsub, xo_lmul, xo_land, xo_lor, xo_lxor, xo_ldiv, xo_lrem, xo_lneg, xo_lushr, xo_lshl, xo_lshr, xo_lcmp, xo_i2l, xo_l2i, xo_i2b, xo_i2s, xo_i2c, xo_dup, xo_pop, xo_zeq, xo_ceq, xo_zne, xo_cne, xo_zlt, xo_clt, xo_zge, xo_cge, xo_zgt, xo_cgt, xo_zle, xo_cle, xo_sw, xo_ts, xo_gf, xo_pfi, xo_pfl, xo_pfz, xo_pfr, xo_iald, xo_iast, xo_zast, xo_zald, xo_alen, xo_aald, xo_gs, xo_cv, xo_cs, xo_ca, xo_obj, xo_ri, xo_rz, xo_rl, xo_ra, xo_rc, xo_rb, xo_rv, xo_new, xo_newa, xo_anew, xo_aast, xo_mmax, xo_mmin, xo_mabs, xo_mmaxL, xo_mabsL, jw_ge, jw_st, jw_st2, jw_se, jw_un, jw_kk, jw_pp, jw_l4, jw_l1, jw_ps, jw_en, jw_N, jw_C, List.map_cons, List.map_nil, ↓reduceIte, Nat.reduceSub, Nat.reduceAdd, Nat.reduceEqDiff, Nat.reduceLeDiff, Nat.le_refl, Nat.zero_le, true_and, and_true, true_or, or_true, false_or, or_false, false_imp_iff, true_imp_iff, not_true_eq_false, not_false_eq_true, nI_0, nb_1, fa_10, fa_01, hg_69_0, hg_69_1, hq_69_1, hg_69_2, hq_69_2, hg_69_3, hq_69_3, hg_69_4, hq_69_4, hg_69_5, hq_69_5, hg_69_6, hq_69_6, hg_69_7, hq_69_7, hg_69_8, hq_69_8, hg_69_9, hg_69_10, hg_69_11, hg_69_12, hg_69_13, hg_69_14, hg_69_15, hg_69_16, hq_69_16, hg_69_17, hg_69_18, hq_69_18, hg_69_19, hg_69_20, hq_69_20, hg_69_21, hg_69_22, hq_69_22, hg_69_23, hq_69_23, hg_69_24, hg_69_25, hq_69_25, hg_69_26, hq_69_26, hg_69_27, hq_69_27, hg_69_28, hq_69_28, hg_69_29, hq_69_29, hg_69_30, hq_69_30, hg_69_31, hq_69_31, hg_69_32, hq_69_32, hg_69_33, hg_69_34, hg_69_35, hq_69_35, hg_69_36, hq_69_36, hg_69_37, hq_69_37, hg_69_38, hg_69_39, hg_69_40, hq_69_40, hg_69_41, hq_69_41, hg_69_42, hg_69_43, hg_69_44, hg_69_45, hq_69_45, hg_69_46, hg_69_47, hg_69_48, hg_69_49, hq_69_49, hi_69, ha_70, hb_70, ha_71, hb_71, ha_72, hb_72, ha_73, hb_73, ha_74, hb_74, ha_75, hb_75, ha_76, hb_76, ha_77, hb_77, ha_78, hb_78, ha_79, hb_79, ha_80, hb_80, ha_81, hb_81, ha_82, hb_82, ha_83, hb_83, ha_84, hb_84, ha_85, hb_85, ha_86, hb_86, ha_87, hb_87, ha_88, hb_88, ha_89, hb_89, ha_90, hb_90, ha_91, hb_91, hx_, nI_clamp (show k' < 2 ^ 31 by omega), vi_t (show k' < 4 by omega) (by omega)]
      refine ⟨fun c1 => ⟨fun c2 => ?_, fun c2 => ?_⟩, fun c1 => ?_⟩
      · rw [if_neg (Int32.not_lt.mpr c1), if_neg (Int32.not_lt.mpr c2)] at hK
        obtain ⟨j, hj, rfl⟩ := nI_of (Int32.not_lt.mpr c2)
        have hj64 : j ≤ 64 := (nI_leI (b := 64) hj (by decide)).mp c1
        rw [nI_clamp hj] at hK
        have hf0 : fq_ [] [89, 90, 91] I (hw_ (hw_ I 89 k' (nI l')) 90 k' (nI j)) := fq_wa (fq_wa fq_rf (by decide)) (by decide)
        have lp : ∀ (m i : Nat) (I1 : Nat → Nat → Int32), i + m = 64 → fq_ [] [91] (hw_ (hw_ I 89 k' (nI l')) 90 k' (nI j)) I1 → (∀ q, q < i → I1 91 (64 * k' + q) = 0) → (∀ q, q < 64 * k' ∨ 64 * k' + 64 ≤ q → I1 91 q = I 91 q) → P 56 [.ref 69, .int (nI k'), .int (nI l'), .int (nI j), .int (nI i)] [] (hp_ I1 J) (0, 0) := by
          intro m
          induction m with
          | zero =>
            intro i I1 hi hf hz ho
            have : i = 64 := by omega
            subst this
            refine hP _ _ _ _ _ ?_
            simp only [bb_11_sheet_56, bb_11_sheet_82, qq_11_sheet, xo_il, xo_ll, xo_al, xo_is, xo_ls, xo_as, xo_ic, xo_ci, xo_cl, xo_iadd, xo_isub, xo_imul, xo_iand, xo_ior, xo_ixor, xo_ishl, xo_ishr, xo_iushr, xo_idiv, xo_irem, xo_ineg, xo_ladd, xo_lsub, xo_lmul, xo_land, xo_lor, xo_lxor, xo_ldiv, xo_lrem, xo_lneg, xo_lushr, xo_lshl, xo_lshr, xo_lcmp, xo_i2l, xo_l2i, xo_i2b, xo_i2s, xo_i2c, xo_dup, xo_pop, xo_zeq, xo_ceq, xo_zne, xo_cne, xo_zlt, xo_clt, xo_zge, xo_cge, xo_zgt, xo_cgt, xo_zle, xo_cle, xo_sw, xo_ts, xo_gf, xo_pfi, xo_pfl, xo_pfz, xo_pfr, xo_iald, xo_iast, xo_zast, xo_zald, xo_alen, xo_aald, xo_gs, xo_cv, xo_cs, xo_ca, xo_obj, xo_ri, xo_rz, xo_rl, xo_ra, xo_rc, xo_rb, xo_rv, xo_new, xo_newa, xo_anew, xo_aast, xo_mmax, xo_mmin, xo_mabs, xo_mmaxL, xo_mabsL, jw_ge, jw_st, jw_st2, jw_se, jw_un, jw_kk, jw_pp, jw_l4, jw_l1, jw_ps, jw_en, jw_N, jw_C, List.map_cons, List.map_nil, ↓reduceIte, Nat.reduceSub, Nat.reduceAdd, Nat.reduceEqDiff, Nat.reduceLeDiff, Nat.le_refl, Nat.zero_le, true_and, and_true, true_or, or_true, false_or, or_false, false_imp_iff, true_imp_iff, not_true_eq_false, not_false_eq_true, nI_0, nb_1, fa_10, fa_01, show ((64 : Int32) ≤ nI 64) = True from eq_true (by decide)]
            have hf2 := fq_tr hf0 (fq_mo hf (by decide) (by decide))
            refine hK I1 (im_89 h hf2 ⟨by decide, by decide⟩ (fun q hq => ?_)) (fq_h hf2 (by decide))
            have e89 : I1 89 q = if q = k' then nI l' else I 89 q := by rw [fq_a hf (q := 89) (by decide) (by decide), hw_o (by decide), hw_v]; simp
            have e90 : I1 90 q = if q = k' then nI j else I 90 q := by rw [fq_a hf (q := 90) (by decide) (by decide), hw_v, hw_o (by decide)]; simp
            unfold su2_
            dsimp only
            by_cases e : q = k'
            · rw [if_pos e] at e89 e90 ⊢
              subst e
              refine ⟨e89, by show l' ≤ 2; omega, by rw [e90]; simp, by simp; exact hj64, fun i hi => ?_⟩
              have hij : i < j := by simpa using hi
              rw [hz i (by omega)]
              simp [List.getD_eq_getElem?_getD, List.getElem?_replicate, hij]
            · rw [if_neg e] at e89 e90 ⊢
              have hm := h.2.2.2.2.2.2.1 q hq
              cases hs : sh q with
              | none => rw [hs] at hm; exact e89.trans hm
              | some o =>
                rw [hs] at hm
                obtain ⟨a1, a2, a3, a4, a5⟩ := hm
                exact ⟨e89.trans a1, a2, e90.trans a3, a4, fun i hi => by rw [ho _ (by omega)]; exact a5 i hi⟩
          | succ m ih =>
            intro i I1 hi hf hz ho
            have ex : (64 : Int32) * nI k' + nI i = nI (64 * k' + i) := by rw [show (64 : Int32) = nI 64 from rfl, pk_mul, nI_add]
            refine hP _ _ _ _ _ ?_
            simp only [bb_11_sheet_56, qq_11_sheet, xo_il, xo_ll, xo_al, xo_is, xo_ls, xo_as, xo_ic, xo_ci, xo_cl, xo_iadd, xo_isub, xo_imul, xo_iand, xo_ior, xo_ixor, xo_ishl, xo_ishr, xo_iushr, xo_idiv, xo_irem, xo_ineg, xo_ladd, xo_lsub, xo_lmul, xo_land, xo_lor, xo_lxor, xo_ldiv, xo_lrem, xo_lneg, xo_lushr, xo_lshl, xo_lshr, xo_lcmp, xo_i2l, xo_l2i, xo_i2b, xo_i2s, xo_i2c, xo_dup, xo_pop, xo_zeq, xo_ceq, xo_zne, xo_cne, xo_zlt, xo_clt, xo_zge, xo_cge, xo_zgt, xo_cgt, xo_zle, xo_cle, xo_sw, xo_ts, xo_gf, xo_pfi, xo_pfl, xo_pfz, xo_pfr, xo_iald, xo_iast, xo_zast, xo_zald, xo_alen, xo_aald, xo_gs, xo_cv, xo_cs, xo_ca, xo_obj, xo_ri, xo_rz, xo_rl, xo_ra, xo_rc, xo_rb, xo_rv, xo_new, xo_newa, xo_anew, xo_aast, xo_mmax, xo_mmin, xo_mabs, xo_mmaxL, xo_mabsL, jw_ge, jw_st, jw_st2, jw_se, jw_un, jw_kk, jw_pp, jw_l4, jw_l1, jw_ps, jw_en, jw_N, jw_C, List.map_cons, List.map_nil, ↓reduceIte, Nat.reduceSub, Nat.reduceAdd, Nat.reduceEqDiff, Nat.reduceLeDiff, Nat.le_refl, Nat.zero_le, true_and, and_true, true_or, or_true, false_or, or_false, false_imp_iff, true_imp_iff, not_true_eq_false, not_false_eq_true, nI_0, nb_1, fa_10, fa_01, hg_69_0, hg_69_1, hq_69_1, hg_69_2, hq_69_2, hg_69_3, hq_69_3, hg_69_4, hq_69_4, hg_69_5, hq_69_5, hg_69_6, hq_69_6, hg_69_7, hq_69_7, hg_69_8, hq_69_8, hg_69_9, hg_69_10, hg_69_11, hg_69_12, hg_69_13, hg_69_14, hg_69_15, hg_69_16, hq_69_16, hg_69_17, hg_69_18, hq_69_18, hg_69_19, hg_69_20, hq_69_20, hg_69_21, hg_69_22, hq_69_22, hg_69_23, hq_69_23, hg_69_24, hg_69_25, hq_69_25, hg_69_26, hq_69_26, hg_69_27, hq_69_27, hg_69_28, hq_69_28, hg_69_29, hq_69_29, hg_69_30, hq_69_30, hg_69_31, hq_69_31, hg_69_32, hq_69_32, hg_69_33, hg_69_34, hg_69_35, hq_69_35, hg_69_36, hq_69_36, hg_69_37, hq_69_37, hg_69_38, hg_69_39, hg_69_40, hq_69_40, hg_69_41, hq_69_41, hg_69_42, hg_69_43, hg_69_44, hg_69_45, hq_69_45, hg_69_46, hg_69_47, hg_69_48, hg_69_49, hq_69_49, hi_69, ha_70, hb_70, ha_71, hb_71, ha_72, hb_72, ha_73, hb_73, ha_74, hb_74, ha_75, hb_75, ha_76, hb_76, ha_77, hb_77, ha_78, hb_78, ha_79, hb_79, ha_80, hb_80, ha_81, hb_81, ha_82, hb_82, ha_83, hb_83, ha_84, hb_84, ha_85, hb_85, ha_86, hb_86, ha_87, hb_87, ha_88, hb_88, ha_89, hb_89, ha_90, hb_90, ha_91, hb_91, (eq_false (fun q => by have := (nI_leI (a := 64) (b := i) (by omega) (by omega)).mp q; omega) : ((64 : Int32) ≤ nI i) = False), ex, nI_clamp (show 64 * k' + i < 2 ^ 31 by omega), vi_t (show 64 * k' + i < 256 by omega) (by omega), nI_1]
            refine ih (i + 1) _ (by omega) (fq_wa hf (by decide)) (fun q hq => ?_) (fun q hq => by rw [hw_i (by omega)]; exact ho q hq)
            by_cases e : q = i
            · subst e; rw [hw_s]
            · rw [hw_i (by omega)]; exact hz q (by omega)
        exact lp 64 0 _ (by omega) fq_rf (fun q hq => by omega) (fun q _ => by rw [hw_o (by decide), hw_o (by decide)])
      · rw [if_neg (Int32.not_lt.mpr c1), if_pos (Int32.not_le.mp c2)] at hK
        exact hK I h fh_rf
      · rw [if_pos (Int32.not_le.mp c1)] at hK
        exact hK I h fh_rf
theorem tm_lay (h : im_ I tp fl u wr gp ds sh tn) (k i v : Int32) (hK : ∀ I2, im_ I2 tp fl u wr gp ds (ly_ sh k i v).2 tn → fh_ I I2 → K (some (.int (ly_ sh k i v).1)) (hp_ I2 J)) : cc_11_lay [.ref 69, .int k, .int i, .int v] (hp_ I J) K := by
  refine jw_Cin (Nat.le_of_ble_eq_true rfl) rfl (fun P hP => hP _ _ _ _ _ ?_)
  unfold ly_ at hK
  simp only [bb_11_lay_0, qq_11_lay, xo_il, xo_ll, xo_al, xo_is, xo_ls, xo_as, xo_ic, xo_ci, xo_cl, xo_iadd, xo_isub, xo_imul, xo_iand, xo_ior, xo_ixor, xo_ishl, xo_ishr, xo_iushr, xo_idiv, xo_irem, xo_ineg, xo_ladd, xo_lsub, xo_lmul, xo_land, xo_lor, xo_lxor, xo_ldiv, xo_lrem, xo_lneg, xo_lushr, xo_lshl, xo_lshr, xo_lcmp, xo_i2l, xo_l2i, xo_i2b, xo_i2s, xo_i2c, xo_dup, xo_pop, xo_zeq, xo_ceq, xo_zne, xo_cne, xo_zlt, xo_clt, xo_zge, xo_cge, xo_zgt, xo_cgt, xo_zle, xo_cle, xo_sw, xo_ts, xo_gf, xo_pfi, xo_pfl, xo_pfz, xo_pfr, xo_iald, xo_iast, xo_zast, xo_zald, xo_alen, xo_aald, xo_gs, xo_cv, xo_cs, xo_ca, xo_obj, xo_ri, xo_rz, xo_rl, xo_ra, xo_rc, xo_rb, xo_rv, xo_new, xo_newa, xo_anew, xo_aast, xo_mmax, xo_mmin, xo_mabs, xo_mmaxL, xo_mabsL, jw_ge, jw_st, jw_st2, jw_se, jw_un, jw_kk, jw_pp, jw_l4, jw_l1, jw_ps, jw_en, jw_N, jw_C, List.map_cons, List.map_nil, ↓reduceIte, Nat.reduceSub, Nat.reduceAdd, Nat.reduceEqDiff, Nat.reduceLeDiff, Nat.le_refl, Nat.zero_le, true_and, and_true, true_or, or_true, false_or, or_false, false_imp_iff, true_imp_iff, not_true_eq_false, not_false_eq_true, nI_0, nb_1, fa_10, fa_01]
  refine tm_inz (a := 0) (b := nI 3) rfl rfl ?_
  rw [bz_ix (by omega)]
  cases hk : ix_ (3 + 1) k with
  | none =>
    rw [hk] at hK
    simp only [xo_il, xo_ll, xo_al, xo_is, xo_ls, xo_as, xo_ic, xo_ci, xo_cl, xo_iadd, xo_isub, xo_imul, xo_iand, xo_ior, xo_ixor, xo_ishl, xo_ishr, xo_iushr, xo_idiv, xo_irem, xo_ineg, xo_ladd, xo_lsub, xo_lmul, xo_land, xo_lor, xo_lxor, xo_ldiv, xo_lrem, xo_lneg, xo_lushr, xo_lshl, xo_lshr, xo_lcmp, xo_i2l, xo_l2i, xo_i2b, xo_i2s, xo_i2c, xo_dup, xo_pop, xo_zeq, xo_ceq, xo_zne, xo_cne, xo_zlt, xo_clt, xo_zge, xo_cge, xo_zgt, xo_cgt, xo_zle, xo_cle, xo_sw, xo_ts, xo_gf, xo_pfi, xo_pfl, xo_pfz, xo_pfr, xo_iald, xo_iast, xo_zast, xo_zald, xo_alen, xo_aald, xo_gs, xo_cv, xo_cs, xo_ca, xo_obj, xo_ri, xo_rz, xo_rl, xo_ra, xo_rc, xo_rb, xo_rv, xo_new, xo_newa, xo_anew, xo_aast, xo_mmax, xo_mmin, xo_mabs, xo_mmaxL, xo_mabsL, jw_ge, jw_st, jw_st2, jw_se, jw_un, jw_kk, jw_pp, jw_l4, jw_l1, jw_ps, jw_en, jw_N, jw_C, List.map_cons, List.map_nil, ↓reduceIte, Nat.reduceSub, Nat.reduceAdd, Nat.reduceEqDiff, Nat.reduceLeDiff, Nat.le_refl, Nat.zero_le, true_and, and_true, true_or, or_true, false_or, or_false, false_imp_iff, true_imp_iff, not_true_eq_false, not_false_eq_true, nI_0, nb_1, fa_10, fa_01, hx_]
    exact hK I h fh_rf
  | some k' =>
    rw [hk] at hK
    dsimp only at hK
    obtain ⟨rfl, hk4⟩ := ix_s hk
    have hm := h.2.2.2.2.2.2.1 k' (by omega)
    cases hs : sh k' with
    | none =>
      rw [hs] at hK hm
      have e89 : I 89 k' = -4 := hm
      simp only [bb_11_lay_14, xo_il, xo_ll, xo_al, xo_is, xo_ls, xo_as, xo_ic, xo_ci, xo_cl, xo_iadd, xo_isub, xo_imul, xo_iand, xo_ior, xo_ixor, xo_ishl, xo_ishr, xo_iushr, xo_idiv, xo_irem, xo_ineg, xo_ladd, xo_lsub, xo_lmul, xo_land, xo_lor, xo_lxor, xo_ldiv, xo_lrem, xo_lneg, xo_lushr, xo_lshl, xo_lshr, xo_lcmp, xo_i2l, xo_l2i, xo_i2b, xo_i2s, xo_i2c, xo_dup, xo_pop, xo_zeq, xo_ceq, xo_zne, xo_cne, xo_zlt, xo_clt, xo_zge, xo_cge, xo_zgt, xo_cgt, xo_zle, xo_cle, xo_sw, xo_ts, xo_gf, xo_pfi, xo_pfl, xo_pfz, xo_pfr, xo_iald, xo_iast, xo_zast, xo_zald, xo_alen, xo_aald, xo_gs, xo_cv, xo_cs, xo_ca, xo_obj, xo_ri, xo_rz, xo_rl, xo_ra, xo_rc, xo_rb, xo_rv, xo_new, xo_newa, xo_anew, xo_aast, xo_mmax, xo_mmin, xo_mabs, xo_mmaxL, xo_mabsL, jw_ge, jw_st, jw_st2, jw_se, jw_un, jw_kk, jw_pp, jw_l4, jw_l1, jw_ps, jw_en, jw_N, jw_C, List.map_cons, List.map_nil, ↓reduceIte, Nat.reduceSub, Nat.reduceAdd, Nat.reduceEqDiff, Nat.reduceLeDiff, Nat.le_refl, Nat.zero_le, true_and, and_true, true_or, or_true, false_or, or_false, false_imp_iff, true_imp_iff, not_true_eq_false, not_false_eq_true, nI_0, nb_1, fa_10, fa_01, hg_69_0, hg_69_1, hq_69_1, hg_69_2, hq_69_2, hg_69_3, hq_69_3, hg_69_4, hq_69_4, hg_69_5, hq_69_5, hg_69_6, hq_69_6, hg_69_7, hq_69_7, hg_69_8, hq_69_8, hg_69_9, hg_69_10, hg_69_11, hg_69_12, hg_69_13, hg_69_14, hg_69_15, hg_69_16, hq_69_16, hg_69_17, hg_69_18, hq_69_18, hg_69_19, hg_69_20, hq_69_20, hg_69_21, hg_69_22, hq_69_22, hg_69_23, hq_69_23, hg_69_24, hg_69_25, hq_69_25, hg_69_26, hq_69_26, hg_69_27, hq_69_27, hg_69_28, hq_69_28, hg_69_29, hq_69_29, hg_69_30, hq_69_30, hg_69_31, hq_69_31, hg_69_32, hq_69_32, hg_69_33, hg_69_34, hg_69_35, hq_69_35, hg_69_36, hq_69_36, hg_69_37, hq_69_37, hg_69_38, hg_69_39, hg_69_40, hq_69_40, hg_69_41, hq_69_41, hg_69_42, hg_69_43, hg_69_44, hg_69_45, hq_69_45, hg_69_46, hg_69_47, hg_69_48, hg_69_49, hq_69_49, hi_69, ha_70, hb_70, ha_71, hb_71, ha_72, hb_72, ha_73, hb_73, ha_74, hb_74, ha_75, hb_75, ha_76, hb_76, ha_77, hb_77, ha_78, hb_78, ha_79, hb_79, ha_80, hb_80, ha_81, hb_81, ha_82, hb_82, ha_83, hb_83, ha_84, hb_84, ha_85, hb_85, ha_86, hb_86, ha_87, hb_87, ha_88, hb_88, ha_89, hb_89, ha_90, hb_90, ha_91, hb_91, hx_, nI_clamp (show k' < 2 ^ 31 by omega), vi_t (show k' < 4 by omega) (by omega), e89]
      exact hK I h fh_rf
    | some q =>
      rw [hs] at hK hm
      dsimp only at hK
      obtain ⟨a1, a2, a3, a4, a5⟩ := hm
      have en : (nI q.1 = -4) = False := n4_f (by omega)
      simp only [bb_11_lay_14, bb_11_lay_28, xo_il, xo_ll, xo_al, xo_is, xo_ls, xo_as, xo_ic, xo_ci, xo_cl, xo_iadd, xo_isub, xo_imul, xo_iand, xo_ior, xo_ixor, xo_ishl, xo_ishr, xo_iushr, xo_idiv, xo_irem, xo_ineg, xo_ladd, xo_lsub, xo_lmul, xo_land, xo_lor, xo_lxor, xo_ldiv, xo_lrem, xo_lneg, xo_lushr, xo_lshl, xo_lshr, xo_lcmp, xo_i2l, xo_l2i, xo_i2b, xo_i2s, xo_i2c, xo_dup, xo_pop, xo_zeq, xo_ceq, xo_zne, xo_cne, xo_zlt, xo_clt, xo_zge, xo_cge, xo_zgt, xo_cgt, xo_zle, xo_cle, xo_sw, xo_ts, xo_gf, xo_pfi, xo_pfl, xo_pfz, xo_pfr, xo_iald, xo_iast, xo_zast, xo_zald, xo_alen, xo_aald, xo_gs, xo_cv, xo_cs, xo_ca, xo_obj, xo_ri, xo_rz, xo_rl, xo_ra, xo_rc, xo_rb, xo_rv, xo_new, xo_newa, xo_anew, xo_aast, xo_mmax, xo_mmin, xo_mabs, xo_mmaxL, xo_mabsL, jw_ge, jw_st, jw_st2, jw_se, jw_un, jw_kk, jw_pp, jw_l4, jw_l1, jw_ps, jw_en, jw_N, jw_C, List.map_cons, List.map_nil, ↓reduceIte, Nat.reduceSub, Nat.reduceAdd, Nat.reduceEqDiff, Nat.reduceLeDiff, Nat.le_refl, Nat.zero_le, true_and, and_true, true_or, or_true, false_or, or_false, false_imp_iff, true_imp_iff, not_true_eq_false, not_false_eq_true, nI_0, nb_1, fa_10, fa_01, hg_69_0, hg_69_1, hq_69_1, hg_69_2, hq_69_2, hg_69_3, hq_69_3, hg_69_4, hq_69_4, hg_69_5, hq_69_5, hg_69_6, hq_69_6, hg_69_7, hq_69_7, hg_69_8, hq_69_8, hg_69_9, hg_69_10, hg_69_11, hg_69_12, hg_69_13, hg_69_14, hg_69_15, hg_69_16, hq_69_16, hg_69_17, hg_69_18, hq_69_18, hg_69_19, hg_69_20, hq_69_20, hg_69_21, hg_69_22, hq_69_22, hg_69_23, hq_69_23, hg_69_24, hg_69_25, hq_69_25, hg_69_26, hq_69_26, hg_69_27, hq_69_27, hg_69_28, hq_69_28, hg_69_29, hq_69_29, hg_69_30, hq_69_30, hg_69_31, hq_69_31, hg_69_32, hq_69_32, hg_69_33, hg_69_34, hg_69_35, hq_69_35, hg_69_36, hq_69_36, hg_69_37, hq_69_37, hg_69_38, hg_69_39, hg_69_40, hq_69_40, hg_69_41, hq_69_41, hg_69_42, hg_69_43, hg_69_44, hg_69_45, hq_69_45, hg_69_46, hg_69_47, hg_69_48, hg_69_49, hq_69_49, hi_69, ha_70, hb_70, ha_71, hb_71, ha_72, hb_72, ha_73, hb_73, ha_74, hb_74, ha_75, hb_75, ha_76, hb_76, ha_77, hb_77, ha_78, hb_78, ha_79, hb_79, ha_80, hb_80, ha_81, hb_81, ha_82, hb_82, ha_83, hb_83, ha_84, hb_84, ha_85, hb_85, ha_86, hb_86, ha_87, hb_87, ha_88, hb_88, ha_89, hb_89, ha_90, hb_90, ha_91, hb_91, hx_, nI_clamp (show k' < 2 ^ 31 by omega), vi_t (show k' < 4 by omega) (by omega), a1, a3, en]
      refine tm_inz (a := 0) (b := nI q.2.length - 1) rfl rfl ?_
      rw [bz_n1 (by omega)]
      cases hi : ix_ q.2.length i with
      | none =>
        rw [hi] at hK
        simp only [xo_il, xo_ll, xo_al, xo_is, xo_ls, xo_as, xo_ic, xo_ci, xo_cl, xo_iadd, xo_isub, xo_imul, xo_iand, xo_ior, xo_ixor, xo_ishl, xo_ishr, xo_iushr, xo_idiv, xo_irem, xo_ineg, xo_ladd, xo_lsub, xo_lmul, xo_land, xo_lor, xo_lxor, xo_ldiv, xo_lrem, xo_lneg, xo_lushr, xo_lshl, xo_lshr, xo_lcmp, xo_i2l, xo_l2i, xo_i2b, xo_i2s, xo_i2c, xo_dup, xo_pop, xo_zeq, xo_ceq, xo_zne, xo_cne, xo_zlt, xo_clt, xo_zge, xo_cge, xo_zgt, xo_cgt, xo_zle, xo_cle, xo_sw, xo_ts, xo_gf, xo_pfi, xo_pfl, xo_pfz, xo_pfr, xo_iald, xo_iast, xo_zast, xo_zald, xo_alen, xo_aald, xo_gs, xo_cv, xo_cs, xo_ca, xo_obj, xo_ri, xo_rz, xo_rl, xo_ra, xo_rc, xo_rb, xo_rv, xo_new, xo_newa, xo_anew, xo_aast, xo_mmax, xo_mmin, xo_mabs, xo_mmaxL, xo_mabsL, jw_ge, jw_st, jw_st2, jw_se, jw_un, jw_kk, jw_pp, jw_l4, jw_l1, jw_ps, jw_en, jw_N, jw_C, List.map_cons, List.map_nil, ↓reduceIte, Nat.reduceSub, Nat.reduceAdd, Nat.reduceEqDiff, Nat.reduceLeDiff, Nat.le_refl, Nat.zero_le, true_and, and_true, true_or, or_true, false_or, or_false, false_imp_iff, true_imp_iff, not_true_eq_false, not_false_eq_true, nI_0, nb_1, fa_10, fa_01, hx_]
        exact hK I h fh_rf
      | some j =>
        rw [hi] at hK
        dsimp only at hK
        obtain ⟨rfl, hj⟩ := ix_s hi
        have ex : (64 : Int32) * nI k' + nI j = nI (64 * k' + j) := by rw [show (64 : Int32) = nI 64 from rfl, pk_mul, nI_add]
        have e0 : (nI q.1 = 0) = (q.1 = 0) := by rw [← nI_0]; exact propext (nI_eq (by omega) (by omega))
        have e1 : (nI q.1 = 1) = (q.1 = 1) := propext (nI_eq (b := 1) (by omega) (by omega))
        have go : ∀ x, x = ln_ q.1 v → K (some (.int 1)) (hp_ (hw_ I 91 (64 * k' + j) x) J) := by
          intro x hx
          subst hx
          have hf : fq_ [] [91] I (hw_ I 91 (64 * k' + j) (ln_ q.1 v)) := fq_wa fq_rf (by decide)
          refine hK _ (im_89 h hf ⟨by decide, by decide⟩ (fun p hp => ?_)) (fq_h hf (by decide))
          have f89 : hw_ I 91 (64 * k' + j) (ln_ q.1 v) 89 = I 89 := hw_o (by decide)
          have f90 : hw_ I 91 (64 * k' + j) (ln_ q.1 v) 90 = I 90 := hw_o (by decide)
          unfold su2_
          by_cases e : p = k'
          · rw [if_pos e]
            subst e
            refine ⟨by rw [f89]; exact a1, a2, by rw [f90]; simp only [List.length_set]; exact a3, by simp only [List.length_set]; exact a4, fun i hi => ?_⟩
            simp only [List.length_set] at hi
            rw [gd_s, hw_v]
            by_cases ei : i = j
            · rw [if_pos ⟨rfl, by omega⟩, if_pos ⟨ei, by omega⟩]
            · rw [if_neg (by omega), if_neg (by omega)]; exact a5 i hi
          · rw [if_neg e]
            have hm2 := h.2.2.2.2.2.2.1 p hp
            cases hs2 : sh p with
            | none => rw [hs2] at hm2; unfold msk_ at hm2 ⊢; rw [f89]; exact hm2
            | some o =>
              rw [hs2] at hm2
              obtain ⟨b1, b2, b3, b4, b5⟩ := hm2
              exact ⟨by rw [f89]; exact b1, b2, by rw [f90]; exact b3, b4, fun i hi => by rw [hw_i (by omega)]; exact b5 i hi⟩
        unfold ln_ at go
        simp only [bb_11_lay_49, bb_11_lay_78, bb_11_lay_98, bb_11_lay_99, xo_il, xo_ll, xo_al, xo_is, xo_ls, xo_as, xo_ic, xo_ci, xo_cl, xo_iadd, xo_isub, xo_imul, xo_iand, xo_ior, xo_ixor, xo_ishl, xo_ishr, xo_iushr, xo_idiv, xo_irem, xo_ineg, xo_ladd, xo_lsub, xo_lmul, xo_land, xo_lor, xo_lxor, xo_ldiv, xo_lrem, xo_lneg, xo_lushr, xo_lshl, xo_lshr, xo_lcmp, xo_i2l, xo_l2i, xo_i2b, xo_i2s, xo_i2c, xo_dup, xo_pop, xo_zeq, xo_ceq, xo_zne, xo_cne, xo_zlt, xo_clt, xo_zge, xo_cge, xo_zgt, xo_cgt, xo_zle, xo_cle, xo_sw, xo_ts, xo_gf, xo_pfi, xo_pfl, xo_pfz, xo_pfr, xo_iald, xo_iast, xo_zast, xo_zald, xo_alen, xo_aald, xo_gs, xo_cv, xo_cs, xo_ca, xo_obj, xo_ri, xo_rz, xo_rl, xo_ra, xo_rc, xo_rb, xo_rv, xo_new, xo_newa, xo_anew, xo_aast, xo_mmax, xo_mmin, xo_mabs, xo_mmaxL, xo_mabsL, jw_ge, jw_st, jw_st2, jw_se, jw_un, jw_kk, jw_pp, jw_l4, jw_l1, jw_ps, jw_en, jw_N, jw_C, List.map_cons, List.map_nil, ↓reduceIte, Nat.reduceSub, Nat.reduceAdd, Nat.reduceEqDiff, Nat.reduceLeDiff, Nat.le_refl, Nat.zero_le, true_and, and_true, true_or, or_true, false_or, or_false, false_imp_iff, true_imp_iff, not_true_eq_false, not_false_eq_true, nI_0, nb_1, fa_10, fa_01, hg_69_0, hg_69_1, hq_69_1, hg_69_2, hq_69_2, hg_69_3, hq_69_3, hg_69_4, hq_69_4, hg_69_5, hq_69_5, hg_69_6, hq_69_6, hg_69_7, hq_69_7, hg_69_8, hq_69_8, hg_69_9, hg_69_10, hg_69_11, hg_69_12, hg_69_13, hg_69_14, hg_69_15, hg_69_16, hq_69_16, hg_69_17, hg_69_18, hq_69_18, hg_69_19, hg_69_20, hq_69_20, hg_69_21, hg_69_22, hq_69_22, hg_69_23, hq_69_23, hg_69_24, hg_69_25, hq_69_25, hg_69_26, hq_69_26, hg_69_27, hq_69_27, hg_69_28, hq_69_28, hg_69_29, hq_69_29, hg_69_30, hq_69_30, hg_69_31, hq_69_31, hg_69_32, hq_69_32, hg_69_33, hg_69_34, hg_69_35, hq_69_35, hg_69_36, hq_69_36, hg_69_37, hq_69_37, hg_69_38, hg_69_39, hg_69_40, hq_69_40, hg_69_41, hq_69_41, hg_69_42, hg_69_43, hg_69_44, hg_69_45, hq_69_45, hg_69_46, hg_69_47, hg_69_48, hg_69_49, hq_69_49, hi_69, ha_70, hb_70, ha_71, hb_71, ha_72, hb_72, ha_73, hb_73, ha_74, hb_74, ha_75, hb_75, ha_76, hb_76, ha_77, hb_77, ha_78, hb_78, ha_79, hb_79, ha_80, hb_80, ha_81, hb_81, ha_82, hb_82, ha_83, hb_83, ha_84, hb_84, ha_85, hb_85, ha_86, hb_86, ha_87, hb_87, ha_88, hb_88, ha_89, hb_89, ha_90, hb_90, ha_91, hb_91, hx_, ex, nI_clamp (show k' < 2 ^ 31 by omega), vi_t (show k' < 4 by omega) (by omega), a1, e0, e1, s8_, s16_, nI_clamp (show 64 * k' + j < 2 ^ 31 by omega), vi_t (show 64 * k' + j < 256 by omega) (by omega)]
        refine ⟨fun q0 => ⟨fun q1 => ?_, fun q1 => ?_⟩, fun q0 => ?_⟩
        · exact go _ (by rw [if_neg q0, if_neg q1])
        · exact go _ (by rw [if_neg q0, if_pos q1])
        · exact go _ (by rw [if_pos q0])
end SH
