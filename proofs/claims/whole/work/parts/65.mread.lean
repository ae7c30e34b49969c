/-! the reference: gaps read -/
theorem hw2_v {J : Nat → Nat → Int64} {o j q i : Nat} {v : Int64} : hw2_ J o j v q i = if q = o ∧ i = j then v else J q i := by
  by_cases h : q = o
  · subst h
    by_cases h2 : i = j
    · subst h2; simp [hw2_, vp_updL]
    · simp [hw2_, vp_updL, h2]
  · simp [hw2_, h]
theorem hw2_s {J : Nat → Nat → Int64} {o j : Nat} {v : Int64} : hw2_ J o j v o j = v := by rw [hw2_v, if_pos ⟨rfl, rfl⟩]
theorem hw2_i {J : Nat → Nat → Int64} {o j q i : Nat} {v : Int64} (h : i ≠ j) : hw2_ J o j v q i = J q i := by rw [hw2_v, if_neg (fun e => h e.2)]
theorem dz_l {a b : Nat} (ha : a < 2 ^ 30) (hb : b < 2 ^ 30) : (nI a - nI b).toInt64 = lN a - lN b := by
  apply Int64.toInt_inj.mp
  rw [Int32.toInt_toInt64, pk_sub_toInt ha hb, dl_t (by omega) (by omega)]
section RE
variable {I : Nat → Nat → Int32} {J : Nat → Nat → Int64} {K : jw_K} {tp : List Nat} {fl : Nat} {u : Nat → Nat} {wr gp xs : List Nat} {ds : List (List (Nat × Nat))} {sh : Nat → sh_T} {tn : Int32}
theorem tm_size {h : jw_H} {a b : Nat} (ha : a < 2 ^ 62) (hb : b < 2 ^ 62) (hK : K (some (.long (lN (dist_ a b)))) h) : cc_11_size [.long (lN a - lN b)] h K := by
  refine jw_Cin (Nat.le_of_ble_eq_true rfl) rfl (fun P hP => hP _ _ _ _ _ ?_)
  rw [← dl_2 ha hb] at hK
  simp only [qq_11_size, bb_11_size_12, bb_11_size_11, bb_11_size_0, xo_il, xo_ll, xo_al, xo_is, xo_ls, xo_as, xo_ic, xo_ci, xo_cl, xo_iadd, xo_isub, xo_imul, xo_iand, xo_ior, xo_ixor, xo_ishl, xo_ishr, xo_iushr, xo_idiv, xo_irem, xo_ineg, xo_ladd, xo_lsub, xo_lmul, xo_land, xo_lor, xo_lxor, xo_ldiv, xo_lrem, xo_lneg, xo_lushr, xo_lshl, xo_lshr, xo_lcmp, xo_i2l, xo_l2i, xo_i2b, xo_i2s, xo_i2c, xo_dup, xo_pop, xo_zeq, xo_ceq, xo_zne, xo_cne, xo_zlt, xo_clt, xo_zge, xo_cge, xo_zgt, xo_cgt, xo_zle, xo_cle, xo_sw, xo_ts, xo_gf, xo_pfi, xo_pfl, xo_pfz, xo_pfr, xo_iald, xo_iast, xo_zast, xo_zald, xo_alen, xo_aald, xo_gs, xo_cv, xo_cs, xo_ca, xo_obj, xo_ri, xo_rz, xo_rl, xo_ra, xo_rc, xo_rb, xo_rv, xo_new, xo_newa, xo_anew, xo_aast, xo_mmax, xo_mmin, xo_mabs, xo_mmaxL, xo_mabsL, jw_ge, jw_st, jw_st2, jw_se, jw_un, jw_kk, jw_pp, jw_l4, jw_l1, jw_ps, jw_en, jw_N, jw_C, List.map_cons, List.map_nil, ↓reduceIte, Nat.reduceSub, Nat.reduceAdd, Nat.reduceEqDiff, Nat.reduceLeDiff, Nat.le_refl, Nat.zero_le, true_and, and_true, true_or, or_true, false_or, or_false, false_imp_iff, true_imp_iff, not_true_eq_false, not_false_eq_true, nI_0, nb_1, fa_10, fa_01, lg_cmp_ge]
  refine ⟨fun q => ?_, fun q => ?_⟩
  · rw [if_pos q] at hK; exact hK
  · rw [if_neg q] at hK; exact hK
theorem tm_swayOf {h : jw_H} {b g t : Nat} {z : Int32} (hb : bo_ (b, g, t)) (hz : z = if b = 0 then 1 else 0) (hK : K (some (.int (nI (sy_ (b, g, t))))) h) : cc_11_swayOf [.ref 69, .int (nI g), .int (nI t), .int z] h K := by
  refine jw_Cin (Nat.le_of_ble_eq_true rfl) rfl (fun P hP => ?_)
  obtain ⟨⟨g1, g2⟩, ⟨t1, t2⟩, hb⟩ := hb
  simp only at g1 g2 t1 t2 hb
  have hs99 : sy_ (b, g, t) ≤ 99 := by unfold sy_; omega
  have lp : ∀ (m j : Nat), j + m = sy_ (b, g, t) → P 3 [.ref 69, .int (nI g), .int (nI t), .int z, .int (nI j)] [] h (0, 0) := by
    intro m
    induction m with
    | zero =>
      intro j hj
      have hj2 : j = sy_ (b, g, t) := by omega
      have eg : (nI g).toInt = g := nI_toInt (by omega)
      have et : (nI t).toInt = t := nI_toInt (by omega)
      have ej : (nI j).toInt = j := nI_toInt (by omega)
      have e1 : (1 : Int32).toInt = 1 := rfl
      have e4 : (4 : Int32).toInt = 4 := rfl
      have e3 : (3 : Int32).toInt = 3 := rfl
      have s1 : (nI g - nI j).toInt = g - j := by rw [ti_sub] <;> omega
      have s1' : (nI g - nI j - 1).toInt = g - j - 1 := by rw [ti_sub] <;> omega
      have s2 : (nI t + nI j).toInt = t + j := by rw [ti_add] <;> omega
      have s2' : (nI t + nI j + 1).toInt = t + j + 1 := by rw [ti_add] <;> omega
      have s3 : (nI g + nI j).toInt = g + j := by rw [ti_add] <;> omega
      have s3' : (nI g + nI j + 1).toInt = g + j + 1 := by rw [ti_add] <;> omega
      have s4 : (nI t - nI j).toInt = t - j := by rw [ti_sub] <;> omega
      have s4' : (nI t - nI j - 1).toInt = t - j - 1 := by rw [ti_sub] <;> omega
      have m1 : ((4 : Int32) * (nI g - nI j - 1)).toInt = 4 * (g - j - 1) := by rw [ti_mul] <;> rw [e4, s1'] <;> omega
      have m2 : ((3 : Int32) * (nI t + nI j + 1)).toInt = 3 * (t + j + 1) := by rw [ti_mul] <;> rw [e3, s2'] <;> omega
      have m3 : ((4 : Int32) * (nI g + nI j + 1)).toInt = 4 * (g + j + 1) := by rw [ti_mul] <;> rw [e4, s3'] <;> omega
      have m4 : ((3 : Int32) * (nI t - nI j - 1)).toInt = 3 * (t - j - 1) := by rw [ti_mul] <;> rw [e3, s4'] <;> omega
      have hK' : K (some (.int (nI j))) h := by rw [hj2]; exact hK
      refine hP _ _ _ _ _ ?_
      rcases hb with ⟨rfl, hb⟩ | ⟨rfl, hb⟩
      · rw [if_pos rfl] at hz
        subst hz
        simp only [bb_11_swayOf_3, bb_11_swayOf_61, qq_11_swayOf, xo_il, xo_ll, xo_al, xo_is, xo_ls, xo_as, xo_ic, xo_ci, xo_cl, xo_iadd, xo_isub, xo_imul, xo_iand, xo_ior, xo_ixor, xo_ishl, xo_ishr, xo_iushr, xo_idiv, xo_irem, xo_ineg, xo_ladd, xo_lsub, xo_lmul, xo_land, xo_lor, xo_lxor, xo_ldiv, xo_lrem, xo_lneg, xo_lushr, xo_lshl, xo_lshr, xo_lcmp, xo_i2l, xo_l2i, xo_i2b, xo_i2s, xo_i2c, xo_dup, xo_pop, xo_zeq, xo_ceq, xo_zne, xo_cne, xo_zlt, xo_clt, xo_zge, xo_cge, xo_zgt, xo_cgt, xo_zle, xo_cle, xo_sw, xo_ts, xo_gf, xo_pfi, xo_pfl, xo_pfz, xo_pfr, xo_iald, xo_iast, xo_zast, xo_zald, xo_alen, xo_aald, xo_gs, xo_cv, xo_cs, xo_ca, xo_obj, xo_ri, xo_rz, xo_rl, xo_ra, xo_rc, xo_rb, xo_rv, xo_new, xo_newa, xo_anew, xo_aast, xo_mmax, xo_mmin, xo_mabs, xo_mmaxL, xo_mabsL, jw_ge, jw_st, jw_st2, jw_se, jw_un, jw_kk, jw_pp, jw_l4, jw_l1, jw_ps, jw_en, jw_N, jw_C, List.map_cons, List.map_nil, ↓reduceIte, Nat.reduceSub, Nat.reduceAdd, Nat.reduceEqDiff, Nat.reduceLeDiff, Nat.le_refl, Nat.zero_le, true_and, and_true, true_or, or_true, false_or, or_false, false_imp_iff, true_imp_iff, not_true_eq_false, not_false_eq_true, nI_0, nb_1, fa_10, fa_01, Int32.le_iff_toInt_le, m1, m2, ej, show (99 : Int32).toInt = 99 from rfl]
        simp only [sy_, if_true] at hj2
        exact ⟨fun _ => hK', fun q => ⟨fun _ => hK', fun q2 => absurd q2 (by omega)⟩⟩
      · rw [if_neg (by decide)] at hz
        subst hz
        simp only [bb_11_swayOf_3, bb_11_swayOf_36, bb_11_swayOf_61, qq_11_swayOf, xo_il, xo_ll, xo_al, xo_is, xo_ls, xo_as, xo_ic, xo_ci, xo_cl, xo_iadd, xo_isub, xo_imul, xo_iand, xo_ior, xo_ixor, xo_ishl, xo_ishr, xo_iushr, xo_idiv, xo_irem, xo_ineg, xo_ladd, xo_lsub, xo_lmul, xo_land, xo_lor, xo_lxor, xo_ldiv, xo_lrem, xo_lneg, xo_lushr, xo_lshl, xo_lshr, xo_lcmp, xo_i2l, xo_l2i, xo_i2b, xo_i2s, xo_i2c, xo_dup, xo_pop, xo_zeq, xo_ceq, xo_zne, xo_cne, xo_zlt, xo_clt, xo_zge, xo_cge, xo_zgt, xo_cgt, xo_zle, xo_cle, xo_sw, xo_ts, xo_gf, xo_pfi, xo_pfl, xo_pfz, xo_pfr, xo_iald, xo_iast, xo_zast, xo_zald, xo_alen, xo_aald, xo_gs, xo_cv, xo_cs, xo_ca, xo_obj, xo_ri, xo_rz, xo_rl, xo_ra, xo_rc, xo_rb, xo_rv, xo_new, xo_newa, xo_anew, xo_aast, xo_mmax, xo_mmin, xo_mabs, xo_mmaxL, xo_mabsL, jw_ge, jw_st, jw_st2, jw_se, jw_un, jw_kk, jw_pp, jw_l4, jw_l1, jw_ps, jw_en, jw_N, jw_C, List.map_cons, List.map_nil, ↓reduceIte, Nat.reduceSub, Nat.reduceAdd, Nat.reduceEqDiff, Nat.reduceLeDiff, Nat.le_refl, Nat.zero_le, true_and, and_true, true_or, or_true, false_or, or_false, false_imp_iff, true_imp_iff, not_true_eq_false, not_false_eq_true, nI_0, nb_1, fa_10, fa_01, Int32.le_iff_toInt_le, Int32.lt_iff_toInt_lt, m3, m4, ej, show (99 : Int32).toInt = 99 from rfl]
        simp only [sy_, Nat.one_ne_zero, if_false] at hj2
        exact ⟨fun _ => hK', fun q => ⟨fun _ => hK', fun q2 => absurd q2 (by omega)⟩⟩
    | succ m ih =>
      intro j hj
      have hj2 : j < sy_ (b, g, t) := by omega
      have eg : (nI g).toInt = g := nI_toInt (by omega)
      have et : (nI t).toInt = t := nI_toInt (by omega)
      have ej : (nI j).toInt = j := nI_toInt (by omega)
      have e1 : (1 : Int32).toInt = 1 := rfl
      have e4 : (4 : Int32).toInt = 4 := rfl
      have e3 : (3 : Int32).toInt = 3 := rfl
      have s1 : (nI g - nI j).toInt = g - j := by rw [ti_sub] <;> omega
      have s1' : (nI g - nI j - 1).toInt = g - j - 1 := by rw [ti_sub] <;> omega
      have s2 : (nI t + nI j).toInt = t + j := by rw [ti_add] <;> omega
      have s2' : (nI t + nI j + 1).toInt = t + j + 1 := by rw [ti_add] <;> omega
      have s3 : (nI g + nI j).toInt = g + j := by rw [ti_add] <;> omega
      have s3' : (nI g + nI j + 1).toInt = g + j + 1 := by rw [ti_add] <;> omega
      have s4 : (nI t - nI j).toInt = t - j := by rw [ti_sub] <;> omega
      have s4' : (nI t - nI j - 1).toInt = t - j - 1 := by rw [ti_sub] <;> omega
      have m1 : ((4 : Int32) * (nI g - nI j - 1)).toInt = 4 * (g - j - 1) := by rw [ti_mul] <;> rw [e4, s1'] <;> omega
      have m2 : ((3 : Int32) * (nI t + nI j + 1)).toInt = 3 * (t + j + 1) := by rw [ti_mul] <;> rw [e3, s2'] <;> omega
      have m3 : ((4 : Int32) * (nI g + nI j + 1)).toInt = 4 * (g + j + 1) := by rw [ti_mul] <;> rw [e4, s3'] <;> omega
      have m4 : ((3 : Int32) * (nI t - nI j - 1)).toInt = 3 * (t - j - 1) := by rw [ti_mul] <;> rw [e3, s4'] <;> omega
      have ih2 := ih (j + 1) (by omega)
      refine hP _ _ _ _ _ ?_
      rcases hb with ⟨rfl, hb⟩ | ⟨rfl, hb⟩
      · rw [if_pos rfl] at hz
        subst hz
        simp only [bb_11_swayOf_3, bb_11_swayOf_55, bb_11_swayOf_61, qq_11_swayOf, xo_il, xo_ll, xo_al, xo_is, xo_ls, xo_as, xo_ic, xo_ci, xo_cl, xo_iadd, xo_isub, xo_imul, xo_iand, xo_ior, xo_ixor, xo_ishl, xo_ishr, xo_iushr, xo_idiv, xo_irem, xo_ineg, xo_ladd, xo_lsub, xo_lmul, xo_land, xo_lor, xo_lxor, xo_ldiv, xo_lrem, xo_lneg, xo_lushr, xo_lshl, xo_lshr, xo_lcmp, xo_i2l, xo_l2i, xo_i2b, xo_i2s, xo_i2c, xo_dup, xo_pop, xo_zeq, xo_ceq, xo_zne, xo_cne, xo_zlt, xo_clt, xo_zge, xo_cge, xo_zgt, xo_cgt, xo_zle, xo_cle, xo_sw, xo_ts, xo_gf, xo_pfi, xo_pfl, xo_pfz, xo_pfr, xo_iald, xo_iast, xo_zast, xo_zald, xo_alen, xo_aald, xo_gs, xo_cv, xo_cs, xo_ca, xo_obj, xo_ri, xo_rz, xo_rl, xo_ra, xo_rc, xo_rb, xo_rv, xo_new, xo_newa, xo_anew, xo_aast, xo_mmax, xo_mmin, xo_mabs, xo_mmaxL, xo_mabsL, jw_ge, jw_st, jw_st2, jw_se, jw_un, jw_kk, jw_pp, jw_l4, jw_l1, jw_ps, jw_en, jw_N, jw_C, List.map_cons, List.map_nil, ↓reduceIte, Nat.reduceSub, Nat.reduceAdd, Nat.reduceEqDiff, Nat.reduceLeDiff, Nat.le_refl, Nat.zero_le, true_and, and_true, true_or, or_true, false_or, or_false, false_imp_iff, true_imp_iff, not_true_eq_false, not_false_eq_true, nI_0, nb_1, fa_10, fa_01, Int32.le_iff_toInt_le, m1, m2, ej, show (99 : Int32).toInt = 99 from rfl, nI_1]
        simp only [sy_, if_true] at hj2
        exact ⟨fun q => absurd q (by omega), fun q => ⟨fun q2 => absurd q2 (by omega), fun _ => ih2⟩⟩
      · rw [if_neg (by decide)] at hz
        subst hz
        simp only [bb_11_swayOf_3, bb_11_swayOf_36, bb_11_swayOf_55, bb_11_swayOf_61, qq_11_swayOf, xo_il, xo_ll, xo_al, xo_is, xo_ls, xo_as, xo_ic, xo_ci, xo_cl, xo_iadd, xo_isub, xo_imul, xo_iand, xo_ior, xo_ixor, xo_ishl, xo_ishr, xo_iushr, xo_idiv, xo_irem, xo_ineg, xo_ladd, xo_lsub, xo_lmul, xo_land, xo_lor, xo_lxor, xo_ldiv, xo_lrem, xo_lneg, xo_lushr, xo_lshl, xo_lshr, xo_lcmp, xo_i2l, xo_l2i, xo_i2b, xo_i2s, xo_i2c, xo_dup, xo_pop, xo_zeq, xo_ceq, xo_zne, xo_cne, xo_zlt, xo_clt, xo_zge, xo_cge, xo_zgt, xo_cgt, xo_zle, xo_cle, xo_sw, xo_ts, xo_gf, xo_pfi, xo_pfl, xo_pfz, xo_pfr, xo_iald, xo_iast, xo_zast, xo_zald, xo_alen, xo_aald, xo_gs, xo_cv, xo_cs, xo_ca, xo_obj, xo_ri, xo_rz, xo_rl, xo_ra, xo_rc, xo_rb, xo_rv, xo_new, xo_newa, xo_anew, xo_aast, xo_mmax, xo_mmin, xo_mabs, xo_mmaxL, xo_mabsL, jw_ge, jw_st, jw_st2, jw_se, jw_un, jw_kk, jw_pp, jw_l4, jw_l1, jw_ps, jw_en, jw_N, jw_C, List.map_cons, List.map_nil, ↓reduceIte, Nat.reduceSub, Nat.reduceAdd, Nat.reduceEqDiff, Nat.reduceLeDiff, Nat.le_refl, Nat.zero_le, true_and, and_true, true_or, or_true, false_or, or_false, false_imp_iff, true_imp_iff, not_true_eq_false, not_false_eq_true, nI_0, nb_1, fa_10, fa_01, Int32.le_iff_toInt_le, Int32.lt_iff_toInt_lt, m3, m4, ej, show (99 : Int32).toInt = 99 from rfl, nI_1]
        simp only [sy_, Nat.one_ne_zero, if_false] at hj2
        exact ⟨fun q => absurd q (by omega), fun q => ⟨fun q2 => absurd q2 (by omega), fun _ => ih2⟩⟩
  refine hP _ _ _ _ _ ?_
  simp only [bb_11_swayOf_0, qq_11_swayOf, xo_il, xo_ll, xo_al, xo_is, xo_ls, xo_as, xo_ic, xo_ci, xo_cl, xo_iadd, xo_isub, xo_imul, xo_iand, xo_ior, xo_ixor, xo_ishl, xo_ishr, xo_iushr, xo_idiv, xo_irem, xo_ineg, xo_ladd, xo_lsub, xo_lmul, xo_land, xo_lor, xo_lxor, xo_ldiv, xo_lrem, xo_lneg, xo_lushr, xo_lshl, xo_lshr, xo_lcmp, xo_i2l, xo_l2i, xo_i2b, xo_i2s, xo_i2c, xo_dup, xo_pop, xo_zeq, xo_ceq, xo_zne, xo_cne, xo_zlt, xo_clt, xo_zge, xo_cge, xo_zgt, xo_cgt, xo_zle, xo_cle, xo_sw, xo_ts, xo_gf, xo_pfi, xo_pfl, xo_pfz, xo_pfr, xo_iald, xo_iast, xo_zast, xo_zald, xo_alen, xo_aald, xo_gs, xo_cv, xo_cs, xo_ca, xo_obj, xo_ri, xo_rz, xo_rl, xo_ra, xo_rc, xo_rb, xo_rv, xo_new, xo_newa, xo_anew, xo_aast, xo_mmax, xo_mmin, xo_mabs, xo_mmaxL, xo_mabsL, jw_ge, jw_st, jw_st2, jw_se, jw_un, jw_kk, jw_pp, jw_l4, jw_l1, jw_ps, jw_en, jw_N, jw_C, List.map_cons, List.map_nil, ↓reduceIte, Nat.reduceSub, Nat.reduceAdd, Nat.reduceEqDiff, Nat.reduceLeDiff, Nat.le_refl, Nat.zero_le, true_and, and_true, true_or, or_true, false_or, or_false, false_imp_iff, true_imp_iff, not_true_eq_false, not_false_eq_true, nI_0, nb_1, fa_10, fa_01]
  exact lp (sy_ (b, g, t)) 0 (by omega)
/-- the clock follows -/
theorem lr_318 {P : Nat → jw_S} {B : jw_S} (hB : B = bb_11_layRead_318 K P) {b g t c len i nx s : Nat} {z bl : Int32} {up : Int64} {w : Value} (hb : bo_ (b, g, t)) (hz : z = if b = 0 then 1 else 0) (hc : c ≤ 2) (hl : len ≤ 19998) (hs : I 69 30 = nI s) (hs9 : s ≤ 99) (hgo : ∀ I2 w5 w6 w7 w8 w9 w10 w11, I2 = hw_ I 69 30 (nI (min s (sy_ (b, g, t)))) → P 44 [.ref 69, .int (nI c), .int bl, .int (nI (fo_ c t len)), .int (nI nx), w5, w6, w7, w8, w9, w10, w11] [] (hp_ I2 J) (0, 0)) : B [.ref 69, .int (nI c), .int bl, .int (nI t), .int (nI i), .int (nI g), .int z, .int (nI nx), .int (nI len), .long up, jw_N, w] [] (hp_ I J) (0, 0) := by
  have hb2 := hb
  have t2 : t ≤ 19998 := hb.2.1.2
  have hs99 : sy_ (b, g, t) ≤ 99 := by unfold sy_; omega
  have e1 : (3 : Int32) * nI t + nI len = nI (3 * t + len) := by rw [show (3 : Int32) = nI 3 from rfl, pk_mul, nI_add]
  have e2 : nI (3 * t + len) / 4 = nI ((3 * t + len) / 4) := pk_div (d := 4) (by omega) (by omega) (by omega)
  have d1 : ((4 : Int32) = 0) = False := eq_false (by decide)
  have em : (nI s ≤ nI (sy_ (b, g, t))) = (s ≤ sy_ (b, g, t)) := propext (nI_leI (by omega) (by omega))
  have ec0 : (nI c = 0) = (c = 0) := by rw [← nI_0]; exact propext (nI_eq (by omega) (by omega))
  have ec1 : (nI c = 1) = (c = 1) := propext (nI_eq (b := 1) (by omega) (by omega))
  subst hB
  simp only [bb_11_layRead_318, xo_il, xo_ll, xo_al, xo_is, xo_ls, xo_as, xo_ic, xo_ci, xo_cl, xo_iadd, xo_isub, xo_imul, xo_iand, xo_ior, xo_ixor, xo_ishl, xo_ishr, xo_iushr, xo_idiv, xo_irem, xo_ineg, xo_ladd, xo_lsub, xo_lmul, xo_land, xo_lor, xo_lxor, xo_ldiv, xo_lrem, xo_lneg, xo_lushr, xo_lshl, xo_lshr, xo_lcmp, xo_i2l, xo_l2i, xo_i2b, xo_i2s, xo_i2c, xo_dup, xo_pop, xo_zeq, xo_ceq, xo_zne, xo_cne, xo_zlt, xo_clt, xo_zge, xo_cge, xo_zgt, xo_cgt, xo_zle, xo_cle, xo_sw, xo_ts, xo_gf, xo_pfi, xo_pfl, xo_pfz, xo_pfr, xo_iald, xo_iast, xo_zast, xo_zald, xo_alen, xo_aald, xo_gs, xo_cv, xo_cs, xo_ca, xo_obj, xo_ri, xo_rz, xo_rl, xo_ra, xo_rc, xo_rb, xo_rv, xo_new, xo_newa, xo_anew, xo_aast, xo_mmax, xo_mmin, xo_mabs, xo_mmaxL, xo_mabsL, jw_ge, jw_st, jw_st2, jw_se, jw_un, jw_kk, jw_pp, jw_l4, jw_l1, jw_ps, jw_en, jw_N, jw_C, List.map_cons, List.map_nil, ↓reduceIte, Nat.reduceSub, Nat.reduceAdd, Nat.reduceEqDiff, Nat.reduceLeDiff, Nat.le_refl, Nat.zero_le, true_and, and_true, true_or, or_true, false_or, or_false, false_imp_iff, true_imp_iff, not_true_eq_false, not_false_eq_true, nI_0, nb_1, fa_10, fa_01, hg_69_0, hg_69_1, hq_69_1, hg_69_2, hq_69_2, hg_69_3, hq_69_3, hg_69_4, hq_69_4, hg_69_5, hq_69_5, hg_69_6, hq_69_6, hg_69_7, hq_69_7, hg_69_8, hq_69_8, hg_69_9, hg_69_10, hg_69_11, hg_69_12, hg_69_13, hg_69_14, hg_69_15, hg_69_16, hq_69_16, hg_69_17, hg_69_18, hq_69_18, hg_69_19, hg_69_20, hq_69_20, hg_69_21, hg_69_22, hq_69_22, hg_69_23, hq_69_23, hg_69_24, hg_69_25, hq_69_25, hg_69_26, hq_69_26, hg_69_27, hq_69_27, hg_69_28, hq_69_28, hg_69_29, hq_69_29, hg_69_30, hq_69_30, hg_69_31, hq_69_31, hg_69_32, hq_69_32, hg_69_33, hg_69_34, hg_69_35, hq_69_35, hg_69_36, hq_69_36, hg_69_37, hq_69_37, hg_69_38, hg_69_39, hg_69_40, hq_69_40, hg_69_41, hq_69_41, hg_69_42, hg_69_43, hg_69_44, hg_69_45, hq_69_45, hg_69_46, hg_69_47, hg_69_48, hg_69_49, hq_69_49, hi_69, ha_70, hb_70, ha_71, hb_71, ha_72, hb_72, ha_73, hb_73, ha_74, hb_74, ha_75, hb_75, ha_76, hb_76, ha_77, hb_77, ha_78, hb_78, ha_79, hb_79, ha_80, hb_80, ha_81, hb_81, ha_82, hb_82, ha_83, hb_83, ha_84, hb_84, ha_85, hb_85, ha_86, hb_86, ha_87, hb_87, ha_88, hb_88, ha_89, hb_89, ha_90, hb_90, ha_91, hb_91]
  refine tm_swayOf hb hz ?_
  simp only [bb_11_layRead_344, bb_11_layRead_348, bb_11_layRead_359, bb_11_layRead_369, bb_11_layRead_377, bb_11_layRead_382, xo_il, xo_ll, xo_al, xo_is, xo_ls, xo_as, xo_ic, xo_ci, xo_cl, xo_iadd, xo_isub, xo_imul, xo_iand, xo_ior, xo_ixor, xo_ishl, xo_ishr, xo_iushr, xo_idiv, xo_irem, xo_ineg, xo_ladd, xo_lsub, xo_lmul, xo_land, xo_lor, xo_lxor, xo_ldiv, xo_lrem, xo_lneg, xo_lushr, xo_lshl, xo_lshr, xo_lcmp, xo_i2l, xo_l2i, xo_i2b, xo_i2s, xo_i2c, xo_dup, xo_pop, xo_zeq, xo_ceq, xo_zne, xo_cne, xo_zlt, xo_clt, xo_zge, xo_cge, xo_zgt, xo_cgt, xo_zle, xo_cle, xo_sw, xo_ts, xo_gf, xo_pfi, xo_pfl, xo_pfz, xo_pfr, xo_iald, xo_iast, xo_zast, xo_zald, xo_alen, xo_aald, xo_gs, xo_cv, xo_cs, xo_ca, xo_obj, xo_ri, xo_rz, xo_rl, xo_ra, xo_rc, xo_rb, xo_rv, xo_new, xo_newa, xo_anew, xo_aast, xo_mmax, xo_mmin, xo_mabs, xo_mmaxL, xo_mabsL, jw_ge, jw_st, jw_st2, jw_se, jw_un, jw_kk, jw_pp, jw_l4, jw_l1, jw_ps, jw_en, jw_N, jw_C, List.map_cons, List.map_nil, ↓reduceIte, Nat.reduceSub, Nat.reduceAdd, Nat.reduceEqDiff, Nat.reduceLeDiff, Nat.le_refl, Nat.zero_le, true_and, and_true, true_or, or_true, false_or, or_false, false_imp_iff, true_imp_iff, not_true_eq_false, not_false_eq_true, nI_0, nb_1, fa_10, fa_01, hg_69_0, hg_69_1, hq_69_1, hg_69_2, hq_69_2, hg_69_3, hq_69_3, hg_69_4, hq_69_4, hg_69_5, hq_69_5, hg_69_6, hq_69_6, hg_69_7, hq_69_7, hg_69_8, hq_69_8, hg_69_9, hg_69_10, hg_69_11, hg_69_12, hg_69_13, hg_69_14, hg_69_15, hg_69_16, hq_69_16, hg_69_17, hg_69_18, hq_69_18, hg_69_19, hg_69_20, hq_69_20, hg_69_21, hg_69_22, hq_69_22, hg_69_23, hq_69_23, hg_69_24, hg_69_25, hq_69_25, hg_69_26, hq_69_26, hg_69_27, hq_69_27, hg_69_28, hq_69_28, hg_69_29, hq_69_29, hg_69_30, hq_69_30, hg_69_31, hq_69_31, hg_69_32, hq_69_32, hg_69_33, hg_69_34, hg_69_35, hq_69_35, hg_69_36, hq_69_36, hg_69_37, hq_69_37, hg_69_38, hg_69_39, hg_69_40, hq_69_40, hg_69_41, hq_69_41, hg_69_42, hg_69_43, hg_69_44, hg_69_45, hq_69_45, hg_69_46, hg_69_47, hg_69_48, hg_69_49, hq_69_49, hi_69, ha_70, hb_70, ha_71, hb_71, ha_72, hb_72, ha_73, hb_73, ha_74, hb_74, ha_75, hb_75, ha_76, hb_76, ha_77, hb_77, ha_78, hb_78, ha_79, hb_79, ha_80, hb_80, ha_81, hb_81, ha_82, hb_82, ha_83, hb_83, ha_84, hb_84, ha_85, hb_85, ha_86, hb_86, ha_87, hb_87, ha_88, hb_88, ha_89, hb_89, ha_90, hb_90, ha_91, hb_91, hs, em, e1, e2, d1, ec0, ec1]
  have go : ∀ v, v = fo_ c t len → ∀ y, y = min s (sy_ (b, g, t)) → ∀ w5 w6 w7 w8 w9 w10 w11, P 44 [.ref 69, .int (nI c), .int bl, .int (nI v), .int (nI nx), w5, w6, w7, w8, w9, w10, w11] [] (hp_ (hw_ I 69 30 (nI y)) J) (0, 0) := by
    intro v hv y hy w5 w6 w7 w8 w9 w10 w11
    subst hv hy
    exact hgo _ _ _ _ _ _ _ _ rfl
  unfold fo_ at go
  refine ⟨fun q => ⟨fun q2 => ⟨fun q3 => ?_, fun q3 => ?_⟩, fun q2 => ?_⟩, fun q => ⟨fun q2 => ⟨fun q3 => ?_, fun q3 => ?_⟩, fun q2 => ?_⟩⟩
  · exact go _ (by rw [if_neg q3, if_pos (by omega)]) _ (by omega) _ _ _ _ _ _ _
  · exact go _ (by rw [if_pos q3]) _ (by omega) _ _ _ _ _ _ _
  · exact go _ (by rw [if_neg (by omega), if_neg (by omega)]) _ (by omega) _ _ _ _ _ _ _
  · exact go _ (by rw [if_neg q3, if_pos (by omega)]) _ (by omega) _ _ _ _ _ _ _
  · exact go _ (by rw [if_pos q3]) _ (by omega) _ _ _ _ _ _ _
  · exact go _ (by rw [if_neg (by omega), if_neg (by omega)]) _ (by omega) _ _ _ _ _ _ _
def bx_241 (K : jw_K) (J : Nat → jw_S) : jw_S := xo_cl 4 (xo_il 5 (xo_i2l (xo_lmul (xo_cl 3 (xo_il 3 (xo_i2l (xo_lmul (xo_lsub (xo_cs cc_11_size 1 (xo_ls 9 (xo_al 0 (xo_gf 11 29 (xo_cl 0 (xo_lcmp (xo_zeq (bb_11_layRead_302 K J) (xo_ll 9 (bb_11_layRead_282 K J)))))))))))))))))
theorem bx_241e (K : jw_K) (J : Nat → jw_S) : bb_11_layRead_241 K J = xo_iast (xo_al 0 (xo_dup (xo_gf 11 25 (xo_ci 1 (xo_iadd (xo_pfi 11 25 (bx_241 K J))))))) := rfl
/-- the margin -/
theorem lr_241b {P : Nat → jw_S} {B : jw_S} (hB : B = bx_241 K P) {b g t c len i nx s : Nat} {p : Nat × Nat} {z bl : Int32} {w9 w10 w11 : Value} (hb : bo_ (b, g, t)) (hz : z = if b = 0 then 1 else 0) (hc : c ≤ 2) (hl : len ≤ 19998) (hs : I 69 30 = nI s) (hs9 : s ≤ 99) (hp : p.1 ≤ 100000 ∧ p.2 ≤ 100000) (h29 : J 69 29 = lN p.2) (h28 : p.2 ≠ 0 → J 69 28 = lN p.1)
    (hgo : ∀ I2 J2 w5 w6 w7 w8 w9 w10 w11, I2 = hw_ I 69 30 (nI (min s (sy_ (b, g, t)))) → J2 69 29 = lN (mg_ p (b, g, t)).2 → ((mg_ p (b, g, t)).2 ≠ 0 → J2 69 28 = lN (mg_ p (b, g, t)).1) → P 44 [.ref 69, .int (nI c), .int bl, .int (nI (fo_ c t len)), .int (nI nx), w5, w6, w7, w8, w9, w10, w11] [] (hp_ I2 J2) (0, 0)) :
    B [.ref 69, .int (nI c), .int bl, .int (nI t), .int (nI i), .int (nI g), .int z, .int (nI nx), .int (nI len), w9, w10, w11] [] (hp_ I J) (0, 0) := by
  have hgt := hb
  have g2 : g ≤ 9999 := hb.1.2
  have t1 : 1 ≤ t := hb.2.1.1
  have t2 : t ≤ 19998 := hb.2.1.2
  have l4 : (4 : Int64) * (nI g).toInt64 = lN (4 * g) := by rw [nI_l (by omega), show (4 : Int64) = lN 4 from rfl, lN_mul]
  have l3 : (3 : Int64) * (nI t).toInt64 = lN (3 * t) := by rw [nI_l (by omega), show (3 : Int64) = lN 3 from rfl, lN_mul]
  have l4t : (4 : Int64) * (nI t).toInt64 = lN (4 * t) := by rw [nI_l (by omega), show (4 : Int64) = lN 4 from rfl, lN_mul]
  have hdist : dist_ (4 * g) (3 * t) ≤ 100000 := by unfold dist_; omega
  have hm1 : dist_ (4 * g) (3 * t) * p.2 ≤ 100000 * 100000 := Nat.mul_le_mul hdist hp.2
  have hm2 : p.1 * (4 * t) ≤ 100000 * 100000 := Nat.mul_le_mul hp.1 (by omega)
  have hmg : mg_ p (b, g, t) = if p.2 = 0 ∨ dist_ (4 * g) (3 * t) * p.2 < p.1 * (4 * t) then (dist_ (4 * g) (3 * t), 4 * t) else p := rfl
  obtain ⟨B2, hB2⟩ : ∃ B2, B2 = bb_11_layRead_318 K P := ⟨_, rfl⟩
  have go : ∀ J2 : Nat → Nat → Int64, J2 69 29 = lN (mg_ p (b, g, t)).2 → ((mg_ p (b, g, t)).2 ≠ 0 → J2 69 28 = lN (mg_ p (b, g, t)).1) → ∀ w, B2 [.ref 69, .int (nI c), .int bl, .int (nI t), .int (nI i), .int (nI g), .int z, .int (nI nx), .int (nI len), .long (lN (dist_ (4 * g) (3 * t))), jw_N, w] [] (hp_ I J2) (0, 0) := by
    intro J2 k1 k2 w
    refine lr_318 hB2 hb hz hc hl hs hs9 (fun I2 w5 w6 w7 w8 w9 w10 w11 e => ?_)
    exact hgo _ J2 _ _ _ _ _ _ _ e k1 k2
  subst hB
  simp only [bx_241, xo_il, xo_ll, xo_al, xo_is, xo_ls, xo_as, xo_ic, xo_ci, xo_cl, xo_iadd, xo_isub, xo_imul, xo_iand, xo_ior, xo_ixor, xo_ishl, xo_ishr, xo_iushr, xo_idiv, xo_irem, xo_ineg, xo_ladd, xo_lsub, xo_lmul, xo_land, xo_lor, xo_lxor, xo_ldiv, xo_lrem, xo_lneg, xo_lushr, xo_lshl, xo_lshr, xo_lcmp, xo_i2l, xo_l2i, xo_i2b, xo_i2s, xo_i2c, xo_dup, xo_pop, xo_zeq, xo_ceq, xo_zne, xo_cne, xo_zlt, xo_clt, xo_zge, xo_cge, xo_zgt, xo_cgt, xo_zle, xo_cle, xo_sw, xo_ts, xo_gf, xo_pfi, xo_pfl, xo_pfz, xo_pfr, xo_iald, xo_iast, xo_zast, xo_zald, xo_alen, xo_aald, xo_gs, xo_cv, xo_cs, xo_ca, xo_obj, xo_ri, xo_rz, xo_rl, xo_ra, xo_rc, xo_rb, xo_rv, xo_new, xo_newa, xo_anew, xo_aast, xo_mmax, xo_mmin, xo_mabs, xo_mmaxL, xo_mabsL, jw_ge, jw_st, jw_st2, jw_se, jw_un, jw_kk, jw_pp, jw_l4, jw_l1, jw_ps, jw_en, jw_N, jw_C, List.map_cons, List.map_nil, ↓reduceIte, Nat.reduceSub, Nat.reduceAdd, Nat.reduceEqDiff, Nat.reduceLeDiff, Nat.le_refl, Nat.zero_le, true_and, and_true, true_or, or_true, false_or, or_false, false_imp_iff, true_imp_iff, not_true_eq_false, not_false_eq_true, nI_0, nb_1, fa_10, fa_01, l4, l3]
  refine tm_size (by omega) (by omega) ?_
  simp only [bb_11_layRead_282, bb_11_layRead_302, xo_il, xo_ll, xo_al, xo_is, xo_ls, xo_as, xo_ic, xo_ci, xo_cl, xo_iadd, xo_isub, xo_imul, xo_iand, xo_ior, xo_ixor, xo_ishl, xo_ishr, xo_iushr, xo_idiv, xo_irem, xo_ineg, xo_ladd, xo_lsub, xo_lmul, xo_land, xo_lor, xo_lxor, xo_ldiv, xo_lrem, xo_lneg, xo_lushr, xo_lshl, xo_lshr, xo_lcmp, xo_i2l, xo_l2i, xo_i2b, xo_i2s, xo_i2c, xo_dup, xo_pop, xo_zeq, xo_ceq, xo_zne, xo_cne, xo_zlt, xo_clt, xo_zge, xo_cge, xo_zgt, xo_cgt, xo_zle, xo_cle, xo_sw, xo_ts, xo_gf, xo_pfi, xo_pfl, xo_pfz, xo_pfr, xo_iald, xo_iast, xo_zast, xo_zald, xo_alen, xo_aald, xo_gs, xo_cv, xo_cs, xo_ca, xo_obj, xo_ri, xo_rz, xo_rl, xo_ra, xo_rc, xo_rb, xo_rv, xo_new, xo_newa, xo_anew, xo_aast, xo_mmax, xo_mmin, xo_mabs, xo_mmaxL, xo_mabsL, jw_ge, jw_st, jw_st2, jw_se, jw_un, jw_kk, jw_pp, jw_l4, jw_l1, jw_ps, jw_en, jw_N, jw_C, List.map_cons, List.map_nil, ↓reduceIte, Nat.reduceSub, Nat.reduceAdd, Nat.reduceEqDiff, Nat.reduceLeDiff, Nat.le_refl, Nat.zero_le, true_and, and_true, true_or, or_true, false_or, or_false, false_imp_iff, true_imp_iff, not_true_eq_false, not_false_eq_true, nI_0, nb_1, fa_10, fa_01, hg_69_0, hg_69_1, hq_69_1, hg_69_2, hq_69_2, hg_69_3, hq_69_3, hg_69_4, hq_69_4, hg_69_5, hq_69_5, hg_69_6, hq_69_6, hg_69_7, hq_69_7, hg_69_8, hq_69_8, hg_69_9, hg_69_10, hg_69_11, hg_69_12, hg_69_13, hg_69_14, hg_69_15, hg_69_16, hq_69_16, hg_69_17, hg_69_18, hq_69_18, hg_69_19, hg_69_20, hq_69_20, hg_69_21, hg_69_22, hq_69_22, hg_69_23, hq_69_23, hg_69_24, hg_69_25, hq_69_25, hg_69_26, hq_69_26, hg_69_27, hq_69_27, hg_69_28, hq_69_28, hg_69_29, hq_69_29, hg_69_30, hq_69_30, hg_69_31, hq_69_31, hg_69_32, hq_69_32, hg_69_33, hg_69_34, hg_69_35, hq_69_35, hg_69_36, hq_69_36, hg_69_37, hq_69_37, hg_69_38, hg_69_39, hg_69_40, hq_69_40, hg_69_41, hq_69_41, hg_69_42, hg_69_43, hg_69_44, hg_69_45, hq_69_45, hg_69_46, hg_69_47, hg_69_48, hg_69_49, hq_69_49, hi_69, ha_70, hb_70, ha_71, hb_71, ha_72, hb_72, ha_73, hb_73, ha_74, hb_74, ha_75, hb_75, ha_76, hb_76, ha_77, hb_77, ha_78, hb_78, ha_79, hb_79, ha_80, hb_80, ha_81, hb_81, ha_82, hb_82, ha_83, hb_83, ha_84, hb_84, ha_85, hb_85, ha_86, hb_86, ha_87, hb_87, ha_88, hb_88, ha_89, hb_89, ha_90, hb_90, ha_91, hb_91, h29, lg_cmp_eq, lg_cmp_ge, lz_eq (show p.2 < 2 ^ 63 by omega), lN_mul, l4t, ← hB2]
  refine ⟨fun q => ?_, fun q => ?_⟩
  · refine go _ ?_ ?_ _
    · rw [hmg, if_pos (Or.inl q)]; exact hw2_s
    · intro _
      rw [hmg, if_pos (Or.inl q)]; exact (hw2_i (by decide)).trans hw2_s
  · have e3 : J 69 28 * 4 * (nI t).toInt64 = lN (p.1 * (4 * t)) := by rw [h28 q, nI_l (by omega), show (4 : Int64) = lN 4 from rfl, lN_mul, lN_mul, Nat.mul_assoc]
    simp only [e3, pk_lLE (show p.1 * (4 * t) < 2 ^ 63 by omega) (show dist_ (4 * g) (3 * t) * p.2 < 2 ^ 63 by omega)]
    refine ⟨fun q2 => ?_, fun q2 => ?_⟩
    · refine go _ ?_ ?_ _
      · rw [hmg, if_neg (by omega)]; exact h29
      · intro k; rw [hmg, if_neg (by omega)] at k ⊢; exact h28 k
    · refine go _ ?_ ?_ _
      · rw [hmg, if_pos (Or.inr (by omega))]; exact hw2_s
      · intro _
        rw [hmg, if_pos (Or.inr (by omega))]; exact (hw2_i (by decide)).trans hw2_s
/-- a bit is taken -/
theorem lr_ok {P : Nat → jw_S} {B : jw_S} (hB : B = bb_11_layRead_193 K P) {b g t c len i nx s : Nat} {p : Nat × Nat} {z bl : Int32} {w9 w10 w11 : Value} (hx : mn_ I 81 25 xs) (hxn : xs.length < 320) (hb : bo_ (b, g, t)) (hz : z = if b = 0 then 1 else 0) (hc : c ≤ 2) (hl : len ≤ 19998) (hs : I 69 30 = nI s) (hs9 : s ≤ 99) (hp : p.1 ≤ 100000 ∧ p.2 ≤ 100000) (h29 : J 69 29 = lN p.2) (h28 : p.2 ≠ 0 → J 69 28 = lN p.1)
    (hgo : ∀ I2 J2 w5 w6 w7 w8 w9 w10 w11, mn_ I2 81 25 (xs ++ [b]) → fq_ [25, 26, 27, 30] [81] I I2 → I2 69 26 = 0 → I2 69 27 = I 69 27 → I2 69 30 = nI (min s (sy_ (b, g, t))) → J2 69 29 = lN (mg_ p (b, g, t)).2 → ((mg_ p (b, g, t)).2 ≠ 0 → J2 69 28 = lN (mg_ p (b, g, t)).1) → P 44 [.ref 69, .int (nI c), .int bl, .int (nI (fo_ c t len)), .int (nI nx), w5, w6, w7, w8, w9, w10, w11] [] (hp_ I2 J2) (0, 0)) :
    B [.ref 69, .int (nI c), .int bl, .int (nI t), .int (nI i), .int (nI g), .int z, .int (nI nx), .int (nI len), w9, w10, w11] [.int 0, .ref 69] (hp_ I J) (0, 0) := by
  obtain ⟨B2, hB2⟩ : ∃ B2, B2 = bx_241 K P := ⟨_, rfl⟩
  have hE : bb_11_layRead_241 K P = xo_iast (xo_al 0 (xo_dup (xo_gf 11 25 (xo_ci 1 (xo_iadd (xo_pfi 11 25 B2)))))) := by rw [hB2]; rfl
  have hf : fq_ [26, 27] [] I (hw_ (hw_ I 69 26 0) 69 27 (I 69 27)) := fq_w (fq_w fq_rf (by decide)) (by decide)
  have hx1 := mn_fq hx hf (by decide) (by decide) (by decide) (by decide)
  have hx2 : mn_ (hw_ (hw_ (hw_ (hw_ I 69 26 0) 69 27 (I 69 27)) 81 xs.length (nI b)) 69 25 (nI (xs.length + 1))) 81 25 (xs ++ [b]) := mn_push hx1 (by decide) rfl
  have hf2 : fq_ [25, 26, 27, 30] [81] I (hw_ (hw_ (hw_ (hw_ I 69 26 0) 69 27 (I 69 27)) 81 xs.length (nI b)) 69 25 (nI (xs.length + 1))) := fq_w (fq_wa (fq_mo hf (by decide) (by decide)) (by decide)) (by decide)
  have e30 : hw_ (hw_ (hw_ (hw_ I 69 26 0) 69 27 (I 69 27)) 81 xs.length (nI b)) 69 25 (nI (xs.length + 1)) 69 30 = nI s := by rw [hw_i (by decide), hw_o (by decide), hw_i (by decide), hw_i (by decide)]; exact hs
  have go : B2 [.ref 69, .int (nI c), .int bl, .int (nI t), .int (nI i), .int (nI g), .int z, .int (nI nx), .int (nI len), w9, w10, w11] [] (hp_ (hw_ (hw_ (hw_ (hw_ I 69 26 0) 69 27 (I 69 27)) 81 xs.length (nI b)) 69 25 (nI (xs.length + 1))) J) (0, 0) := by
    refine lr_241b hB2 hb hz hc hl e30 hs9 hp h29 h28 (fun I2 J2 w5 w6 w7 w8 w9 w10 w11 e k4 k5 => ?_)
    subst e
    refine hgo _ J2 _ _ _ _ _ _ _ (mn_fq (F := [30]) (A := []) hx2 (fq_w fq_rf (by decide)) (by decide) (by decide) (by decide) (by decide)) (fq_w hf2 (by decide)) ?_ ?_ hw_s k4 k5
    · rw [hw_i (by decide), hw_i (by decide), hw_o (by decide), hw_i (by decide), hw_s]
    · rw [hw_i (by decide), hw_i (by decide), hw_o (by decide), hw_s]
  have hb3 : b = 0 ∧ z = 1 ∨ b = 1 ∧ z = 0 := by
    rcases hb.2.2 with ⟨q, -⟩ | ⟨q, -⟩
    · have q : b = 0 := q
      rw [if_pos q] at hz; exact Or.inl ⟨q, hz⟩
    · have q : b = 1 := q
      rw [if_neg (by omega)] at hz; exact Or.inr ⟨q, hz⟩
  rcases hb3 with ⟨rfl, rfl⟩ | ⟨rfl, rfl⟩
  · subst hB
    simp only [bb_11_layRead_193, bb_11_layRead_209, bb_11_layRead_213, hE, xo_il, xo_ll, xo_al, xo_is, xo_ls, xo_as, xo_ic, xo_ci, xo_cl, xo_iadd, xo_isub, xo_imul, xo_iand, xo_ior, xo_ixor, xo_ishl, xo_ishr, xo_iushr, xo_idiv, xo_irem, xo_ineg, xo_ladd, xo_lsub, xo_lmul, xo_land, xo_lor, xo_lxor, xo_ldiv, xo_lrem, xo_lneg, xo_lushr, xo_lshl, xo_lshr, xo_lcmp, xo_i2l, xo_l2i, xo_i2b, xo_i2s, xo_i2c, xo_dup, xo_pop, xo_zeq, xo_ceq, xo_zne, xo_cne, xo_zlt, xo_clt, xo_zge, xo_cge, xo_zgt, xo_cgt, xo_zle, xo_cle, xo_sw, xo_ts, xo_gf, xo_pfi, xo_pfl, xo_pfz, xo_pfr, xo_iald, xo_iast, xo_zast, xo_zald, xo_alen, xo_aald, xo_gs, xo_cv, xo_cs, xo_ca, xo_obj, xo_ri, xo_rz, xo_rl, xo_ra, xo_rc, xo_rb, xo_rv, xo_new, xo_newa, xo_anew, xo_aast, xo_mmax, xo_mmin, xo_mabs, xo_mmaxL, xo_mabsL, jw_ge, jw_st, jw_st2, jw_se, jw_un, jw_kk, jw_pp, jw_l4, jw_l1, jw_ps, jw_en, jw_N, jw_C, List.map_cons, List.map_nil, ↓reduceIte, Nat.reduceSub, Nat.reduceAdd, Nat.reduceEqDiff, Nat.reduceLeDiff, Nat.le_refl, Nat.zero_le, true_and, and_true, true_or, or_true, false_or, or_false, false_imp_iff, true_imp_iff, not_true_eq_false, not_false_eq_true, nI_0, nb_1, fa_10, fa_01, hg_69_0, hg_69_1, hq_69_1, hg_69_2, hq_69_2, hg_69_3, hq_69_3, hg_69_4, hq_69_4, hg_69_5, hq_69_5, hg_69_6, hq_69_6, hg_69_7, hq_69_7, hg_69_8, hq_69_8, hg_69_9, hg_69_10, hg_69_11, hg_69_12, hg_69_13, hg_69_14, hg_69_15, hg_69_16, hq_69_16, hg_69_17, hg_69_18, hq_69_18, hg_69_19, hg_69_20, hq_69_20, hg_69_21, hg_69_22, hq_69_22, hg_69_23, hq_69_23, hg_69_24, hg_69_25, hq_69_25, hg_69_26, hq_69_26, hg_69_27, hq_69_27, hg_69_28, hq_69_28, hg_69_29, hq_69_29, hg_69_30, hq_69_30, hg_69_31, hq_69_31, hg_69_32, hq_69_32, hg_69_33, hg_69_34, hg_69_35, hq_69_35, hg_69_36, hq_69_36, hg_69_37, hq_69_37, hg_69_38, hg_69_39, hg_69_40, hq_69_40, hg_69_41, hq_69_41, hg_69_42, hg_69_43, hg_69_44, hg_69_45, hq_69_45, hg_69_46, hg_69_47, hg_69_48, hg_69_49, hq_69_49, hi_69, ha_70, hb_70, ha_71, hb_71, ha_72, hb_72, ha_73, hb_73, ha_74, hb_74, ha_75, hb_75, ha_76, hb_76, ha_77, hb_77, ha_78, hb_78, ha_79, hb_79, ha_80, hb_80, ha_81, hb_81, ha_82, hb_82, ha_83, hb_83, ha_84, hb_84, ha_85, hb_85, ha_86, hb_86, ha_87, hb_87, ha_88, hb_88, ha_89, hb_89, ha_90, hb_90, ha_91, hb_91, hw_v, eq_self, and_self, and_true, true_and, and_false, false_and, Nat.reduceEqDiff, ↓reduceIte, if_true, if_false, hx.1, eq_true (Int32.le_refl 0), nI_clamp (show xs.length < 2 ^ 31 by omega), vi_t hxn (by decide), nI_1]
    exact go
  · subst hB
    simp only [bb_11_layRead_193, bb_11_layRead_209, bb_11_layRead_213, bb_11_layRead_240, hE, xo_il, xo_ll, xo_al, xo_is, xo_ls, xo_as, xo_ic, xo_ci, xo_cl, xo_iadd, xo_isub, xo_imul, xo_iand, xo_ior, xo_ixor, xo_ishl, xo_ishr, xo_iushr, xo_idiv, xo_irem, xo_ineg, xo_ladd, xo_lsub, xo_lmul, xo_land, xo_lor, xo_lxor, xo_ldiv, xo_lrem, xo_lneg, xo_lushr, xo_lshl, xo_lshr, xo_lcmp, xo_i2l, xo_l2i, xo_i2b, xo_i2s, xo_i2c, xo_dup, xo_pop, xo_zeq, xo_ceq, xo_zne, xo_cne, xo_zlt, xo_clt, xo_zge, xo_cge, xo_zgt, xo_cgt, xo_zle, xo_cle, xo_sw, xo_ts, xo_gf, xo_pfi, xo_pfl, xo_pfz, xo_pfr, xo_iald, xo_iast, xo_zast, xo_zald, xo_alen, xo_aald, xo_gs, xo_cv, xo_cs, xo_ca, xo_obj, xo_ri, xo_rz, xo_rl, xo_ra, xo_rc, xo_rb, xo_rv, xo_new, xo_newa, xo_anew, xo_aast, xo_mmax, xo_mmin, xo_mabs, xo_mmaxL, xo_mabsL, jw_ge, jw_st, jw_st2, jw_se, jw_un, jw_kk, jw_pp, jw_l4, jw_l1, jw_ps, jw_en, jw_N, jw_C, List.map_cons, List.map_nil, ↓reduceIte, Nat.reduceSub, Nat.reduceAdd, Nat.reduceEqDiff, Nat.reduceLeDiff, Nat.le_refl, Nat.zero_le, true_and, and_true, true_or, or_true, false_or, or_false, false_imp_iff, true_imp_iff, not_true_eq_false, not_false_eq_true, nI_0, nb_1, fa_10, fa_01, hg_69_0, hg_69_1, hq_69_1, hg_69_2, hq_69_2, hg_69_3, hq_69_3, hg_69_4, hq_69_4, hg_69_5, hq_69_5, hg_69_6, hq_69_6, hg_69_7, hq_69_7, hg_69_8, hq_69_8, hg_69_9, hg_69_10, hg_69_11, hg_69_12, hg_69_13, hg_69_14, hg_69_15, hg_69_16, hq_69_16, hg_69_17, hg_69_18, hq_69_18, hg_69_19, hg_69_20, hq_69_20, hg_69_21, hg_69_22, hq_69_22, hg_69_23, hq_69_23, hg_69_24, hg_69_25, hq_69_25, hg_69_26, hq_69_26, hg_69_27, hq_69_27, hg_69_28, hq_69_28, hg_69_29, hq_69_29, hg_69_30, hq_69_30, hg_69_31, hq_69_31, hg_69_32, hq_69_32, hg_69_33, hg_69_34, hg_69_35, hq_69_35, hg_69_36, hq_69_36, hg_69_37, hq_69_37, hg_69_38, hg_69_39, hg_69_40, hq_69_40, hg_69_41, hq_69_41, hg_69_42, hg_69_43, hg_69_44, hg_69_45, hq_69_45, hg_69_46, hg_69_47, hg_69_48, hg_69_49, hq_69_49, hi_69, ha_70, hb_70, ha_71, hb_71, ha_72, hb_72, ha_73, hb_73, ha_74, hb_74, ha_75, hb_75, ha_76, hb_76, ha_77, hb_77, ha_78, hb_78, ha_79, hb_79, ha_80, hb_80, ha_81, hb_81, ha_82, hb_82, ha_83, hb_83, ha_84, hb_84, ha_85, hb_85, ha_86, hb_86, ha_87, hb_87, ha_88, hb_88, ha_89, hb_89, ha_90, hb_90, ha_91, hb_91, hw_v, eq_self, and_self, and_true, true_and, and_false, false_and, Nat.reduceEqDiff, ↓reduceIte, if_true, if_false, hx.1, eq_true (Int32.le_refl 0), nI_clamp (show xs.length < 2 ^ 31 by omega), vi_t hxn (by decide), nI_1]
    exact go
/-- it fails -/
theorem lr_no {P : Nat → jw_S} {B : jw_S} (hB : B = bb_11_layRead_193 K P) (hP : ∀ pc ls st h z, qq_11_layRead K pc P ls st h z → P pc ls st h z) {i f : Nat} {w1 w2 w3 w5 w6 w7 w8 w9 w10 w11 : Value} (hi : i < 2 ^ 30) (h22 : I 69 22 = nI gp.length) (hn : gp.length ≤ 320) (hf : f = 1 ∨ f = 2) (hK : ∀ I2, I2 = hw_ (hw_ I 69 26 (nI f)) 69 27 (nI i) → K none (hp_ I2 J)) :
    B [.ref 69, w1, w2, w3, .int (nI i), w5, w6, w7, w8, w9, w10, w11] [.int (nI f), .ref 69] (hp_ I J) (0, 0) := by
  have e1 : (nI f ≤ 0) = False := eq_false (nI_nle (by omega) (by omega))
  have e2 : (nI f = 0) = False := eq_false (nI_ne0 (by omega) (by omega))
  have hK2 := hK _ rfl
  subst hB
  simp only [bb_11_layRead_193, bb_11_layRead_213, bb_11_layRead_382, xo_il, xo_ll, xo_al, xo_is, xo_ls, xo_as, xo_ic, xo_ci, xo_cl, xo_iadd, xo_isub, xo_imul, xo_iand, xo_ior, xo_ixor, xo_ishl, xo_ishr, xo_iushr, xo_idiv, xo_irem, xo_ineg, xo_ladd, xo_lsub, xo_lmul, xo_land, xo_lor, xo_lxor, xo_ldiv, xo_lrem, xo_lneg, xo_lushr, xo_lshl, xo_lshr, xo_lcmp, xo_i2l, xo_l2i, xo_i2b, xo_i2s, xo_i2c, xo_dup, xo_pop, xo_zeq, xo_ceq, xo_zne, xo_cne, xo_zlt, xo_clt, xo_zge, xo_cge, xo_zgt, xo_cgt, xo_zle, xo_cle, xo_sw, xo_ts, xo_gf, xo_pfi, xo_pfl, xo_pfz, xo_pfr, xo_iald, xo_iast, xo_zast, xo_zald, xo_alen, xo_aald, xo_gs, xo_cv, xo_cs, xo_ca, xo_obj, xo_ri, xo_rz, xo_rl, xo_ra, xo_rc, xo_rb, xo_rv, xo_new, xo_newa, xo_anew, xo_aast, xo_mmax, xo_mmin, xo_mabs, xo_mmaxL, xo_mabsL, jw_ge, jw_st, jw_st2, jw_se, jw_un, jw_kk, jw_pp, jw_l4, jw_l1, jw_ps, jw_en, jw_N, jw_C, List.map_cons, List.map_nil, ↓reduceIte, Nat.reduceSub, Nat.reduceAdd, Nat.reduceEqDiff, Nat.reduceLeDiff, Nat.le_refl, Nat.zero_le, true_and, and_true, true_or, or_true, false_or, or_false, false_imp_iff, true_imp_iff, not_true_eq_false, not_false_eq_true, nI_0, nb_1, fa_10, fa_01, hg_69_0, hg_69_1, hq_69_1, hg_69_2, hq_69_2, hg_69_3, hq_69_3, hg_69_4, hq_69_4, hg_69_5, hq_69_5, hg_69_6, hq_69_6, hg_69_7, hq_69_7, hg_69_8, hq_69_8, hg_69_9, hg_69_10, hg_69_11, hg_69_12, hg_69_13, hg_69_14, hg_69_15, hg_69_16, hq_69_16, hg_69_17, hg_69_18, hq_69_18, hg_69_19, hg_69_20, hq_69_20, hg_69_21, hg_69_22, hq_69_22, hg_69_23, hq_69_23, hg_69_24, hg_69_25, hq_69_25, hg_69_26, hq_69_26, hg_69_27, hq_69_27, hg_69_28, hq_69_28, hg_69_29, hq_69_29, hg_69_30, hq_69_30, hg_69_31, hq_69_31, hg_69_32, hq_69_32, hg_69_33, hg_69_34, hg_69_35, hq_69_35, hg_69_36, hq_69_36, hg_69_37, hq_69_37, hg_69_38, hg_69_39, hg_69_40, hq_69_40, hg_69_41, hq_69_41, hg_69_42, hg_69_43, hg_69_44, hg_69_45, hq_69_45, hg_69_46, hg_69_47, hg_69_48, hg_69_49, hq_69_49, hi_69, ha_70, hb_70, ha_71, hb_71, ha_72, hb_72, ha_73, hb_73, ha_74, hb_74, ha_75, hb_75, ha_76, hb_76, ha_77, hb_77, ha_78, hb_78, ha_79, hb_79, ha_80, hb_80, ha_81, hb_81, ha_82, hb_82, ha_83, hb_83, ha_84, hb_84, ha_85, hb_85, ha_86, hb_86, ha_87, hb_87, ha_88, hb_88, ha_89, hb_89, ha_90, hb_90, ha_91, hb_91, hw_v, eq_self, and_self, and_true, true_and, and_false, false_and, Nat.reduceEqDiff, ↓reduceIte, if_true, if_false, e1, e2]
  refine hP _ _ _ _ _ ?_
  simp only [bb_11_layRead_44, bb_11_layRead_385, qq_11_layRead, xo_il, xo_ll, xo_al, xo_is, xo_ls, xo_as, xo_ic, xo_ci, xo_cl, xo_iadd, xo_isub, xo_imul, xo_iand, xo_ior, xo_ixor, xo_ishl, xo_ishr, xo_iushr, xo_idiv, xo_irem, xo_ineg, xo_ladd, xo_lsub, xo_lmul, xo_land, xo_lor, xo_lxor, xo_ldiv, xo_lrem, xo_lneg, xo_lushr, xo_lshl, xo_lshr, xo_lcmp, xo_i2l, xo_l2i, xo_i2b, xo_i2s, xo_i2c, xo_dup, xo_pop, xo_zeq, xo_ceq, xo_zne, xo_cne, xo_zlt, xo_clt, xo_zge, xo_cge, xo_zgt, xo_cgt, xo_zle, xo_cle, xo_sw, xo_ts, xo_gf, xo_pfi, xo_pfl, xo_pfz, xo_pfr, xo_iald, xo_iast, xo_zast, xo_zald, xo_alen, xo_aald, xo_gs, xo_cv, xo_cs, xo_ca, xo_obj, xo_ri, xo_rz, xo_rl, xo_ra, xo_rc, xo_rb, xo_rv, xo_new, xo_newa, xo_anew, xo_aast, xo_mmax, xo_mmin, xo_mabs, xo_mmaxL, xo_mabsL, jw_ge, jw_st, jw_st2, jw_se, jw_un, jw_kk, jw_pp, jw_l4, jw_l1, jw_ps, jw_en, jw_N, jw_C, List.map_cons, List.map_nil, ↓reduceIte, Nat.reduceSub, Nat.reduceAdd, Nat.reduceEqDiff, Nat.reduceLeDiff, Nat.le_refl, Nat.zero_le, true_and, and_true, true_or, or_true, false_or, or_false, false_imp_iff, true_imp_iff, not_true_eq_false, not_false_eq_true, nI_0, nb_1, fa_10, fa_01, hg_69_0, hg_69_1, hq_69_1, hg_69_2, hq_69_2, hg_69_3, hq_69_3, hg_69_4, hq_69_4, hg_69_5, hq_69_5, hg_69_6, hq_69_6, hg_69_7, hq_69_7, hg_69_8, hq_69_8, hg_69_9, hg_69_10, hg_69_11, hg_69_12, hg_69_13, hg_69_14, hg_69_15, hg_69_16, hq_69_16, hg_69_17, hg_69_18, hq_69_18, hg_69_19, hg_69_20, hq_69_20, hg_69_21, hg_69_22, hq_69_22, hg_69_23, hq_69_23, hg_69_24, hg_69_25, hq_69_25, hg_69_26, hq_69_26, hg_69_27, hq_69_27, hg_69_28, hq_69_28, hg_69_29, hq_69_29, hg_69_30, hq_69_30, hg_69_31, hq_69_31, hg_69_32, hq_69_32, hg_69_33, hg_69_34, hg_69_35, hq_69_35, hg_69_36, hq_69_36, hg_69_37, hq_69_37, hg_69_38, hg_69_39, hg_69_40, hq_69_40, hg_69_41, hq_69_41, hg_69_42, hg_69_43, hg_69_44, hg_69_45, hq_69_45, hg_69_46, hg_69_47, hg_69_48, hg_69_49, hq_69_49, hi_69, ha_70, hb_70, ha_71, hb_71, ha_72, hb_72, ha_73, hb_73, ha_74, hb_74, ha_75, hb_75, ha_76, hb_76, ha_77, hb_77, ha_78, hb_78, ha_79, hb_79, ha_80, hb_80, ha_81, hb_81, ha_82, hb_82, ha_83, hb_83, ha_84, hb_84, ha_85, hb_85, ha_86, hb_86, ha_87, hb_87, ha_88, hb_88, ha_89, hb_89, ha_90, hb_90, ha_91, hb_91, hw_v, eq_self, and_self, and_true, true_and, and_false, false_and, Nat.reduceEqDiff, ↓reduceIte, if_true, if_false, e2, h22]
  exact ⟨fun _ => hK2, fun _ => hK2⟩
end RE
