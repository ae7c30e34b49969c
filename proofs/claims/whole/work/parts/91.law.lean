/-! the law, from its start to its end -/
theorem ct_10z {K : jw_K} (hK : K none x0_) : cc_10_init [.ref 0] [.inr (10, [.null, .null, .null, .null, .null, .null, .null, .null, .null, .null, .null, .int 0, .int 0])] K := ct_10 (L := []) (b := 0) rfl (by decide) hK
theorem ct_11z {K : jw_K} (hK : K none (hp_ i0_ j0_)) : cc_11_init [.ref 69] (x0_ ++ [.inr (11, [.null, .int 0, .int 0, .int 0, .int 0, .int 0, .int 0, .int 0, .int 0, .null, .null, .null, .null, .null, .null, .null, .int 0, .null, .int 0, .null, .int 0, .null, .int 0, .int 0, .null, .int 0, .int 0, .int 0, .long 0, .long 0, .int 0, .int 0, .int 0, .null, .null, .int 0, .int 0, .int 0, .null, .null, .int 0, .int 0, .null, .null, .null, .int 0, .null, .null, .null, .int 0])]) K := ct_11 (L := x0_) (b := 69) x0_l (by decide) (by rw [h0_]; exact hK)
section LW
variable {K : jw_K} {P : Nat → jw_S} {L : Nat} {xs : Nat → Int32}
theorem lw_len {i : Nat} (hi : i ≤ 2565) (hL : L ≤ 2560) : (nI L - 5 < nI i) = (L < i + 5) := propext (by
  have e := pk_sub_toInt (a := L) (b := 5) (by omega) (by omega)
  rw [Int32.lt_iff_toInt_lt, show (5 : Int32) = nI 5 from rfl, e, nI_toInt (by omega)]
  omega)
theorem lw_loop (hP : ∀ pc ls st h z, qq_W_law L xs K pc P ls st h z → P pc ls st h z) (hL : L ≤ 2560) (hK : ∀ h, K (some (.int 1)) h) : ∀ (m i : Nat) (I : Nat → Nat → Int32) (J : Nat → Nat → Int64) (tp : List Nat) (fl : Nat) (u : Nat → Nat) (wr gp : List Nat) (ds : List (List (Nat × Nat))) (sh : Nat → sh_T) (tn : Int32), L < i + 5 * m + 5 → i ≤ 2560 → ls_ I tp fl u wr gp ds sh tn → P 18 [.ref 1005, .ref 0, .ref 69, .int (nI i)] [] (hp_ I J) (92, 12063) := by
  intro m
  induction m with
  | zero =>
    intro i I J tp fl u wr gp ds sh tn hm hi h
    refine hP _ _ _ _ _ ?_
    simp only [bb_W_law_18, bb_W_law_1096, qq_W_law, xo_il, xo_ll, xo_al, xo_is, xo_ls, xo_as, xo_ic, xo_ci, xo_cl, xo_iadd, xo_isub, xo_imul, xo_iand, xo_ior, xo_ixor, xo_ishl, xo_ishr, xo_iushr, xo_idiv, xo_irem, xo_ineg, xo_ladd, xo_lsub, xo_lmul, xo_land, xo_lor, xo_lxor, xo_ldiv, xo_lrem, xo_lneg, xo_lushr, xo_lshl, xo_lshr, xo_lcmp, xo_i2l, xo_l2i, xo_i2b, xo_i2s, xo_i2c, xo_dup, xo_pop, xo_zeq, xo_ceq, xo_zne, xo_cne, xo_zlt, xo_clt, xo_zge, xo_cge, xo_zgt, xo_cgt, xo_zle, xo_cle, xo_sw, xo_ts, xo_gf, xo_pfi, xo_pfl, xo_pfz, xo_pfr, xo_iald, xo_iast, xo_zast, xo_zald, xo_alen, xo_aald, xo_gs, xo_cv, xo_cs, xo_ca, xo_obj, xo_ri, xo_rz, xo_rl, xo_ra, xo_rc, xo_rb, xo_rv, xo_new, xo_newa, xo_anew, xo_aast, xo_mmax, xo_mmin, xo_mabs, xo_mmaxL, xo_mabsL, jw_ge, jw_st, jw_st2, jw_se, jw_un, jw_kk, jw_pp, jw_l4, jw_l1, jw_ps, jw_en, jw_N, jw_C, List.map_cons, List.map_nil, ↓reduceIte, Nat.reduceSub, Nat.reduceAdd, Nat.reduceEqDiff, Nat.reduceLeDiff, Nat.le_refl, Nat.zero_le, true_and, and_true, true_or, or_true, false_or, or_false, false_imp_iff, true_imp_iff, not_true_eq_false, not_false_eq_true, nI_0, nb_1, fa_10, fa_01, hp_no (show 92 ≤ 1005 by decide), roL_5, show Int32.ofNat L = nI L from rfl, lw_len (show i ≤ 2565 by omega) hL, eq_true (show L < i + 5 by omega)]
    exact hK _
  | succ m ih =>
    intro i I J tp fl u wr gp ds sh tn hm hi h
    by_cases hx : L < i + 5
    · refine hP _ _ _ _ _ ?_
      simp only [bb_W_law_18, bb_W_law_1096, qq_W_law, xo_il, xo_ll, xo_al, xo_is, xo_ls, xo_as, xo_ic, xo_ci, xo_cl, xo_iadd, xo_isub, xo_imul, xo_iand, xo_ior, xo_ixor, xo_ishl, xo_ishr, xo_iushr, xo_idiv, xo_irem, xo_ineg, xo_ladd, xo_lsub, xo_lmul, xo_land, xo_lor, xo_lxor, xo_ldiv, xo_lrem, xo_lneg, xo_lushr, xo_lshl, xo_lshr, xo_lcmp, xo_i2l, xo_l2i, xo_i2b, xo_i2s, xo_i2c, xo_dup, xo_pop, xo_zeq, xo_ceq, xo_zne, xo_cne, xo_zlt, xo_clt, xo_zge, xo_cge, xo_zgt, xo_cgt, xo_zle, xo_cle, xo_sw, xo_ts, xo_gf, xo_pfi, xo_pfl, xo_pfz, xo_pfr, xo_iald, xo_iast, xo_zast, xo_zald, xo_alen, xo_aald, xo_gs, xo_cv, xo_cs, xo_ca, xo_obj, xo_ri, xo_rz, xo_rl, xo_ra, xo_rc, xo_rb, xo_rv, xo_new, xo_newa, xo_anew, xo_aast, xo_mmax, xo_mmin, xo_mabs, xo_mmaxL, xo_mabsL, jw_ge, jw_st, jw_st2, jw_se, jw_un, jw_kk, jw_pp, jw_l4, jw_l1, jw_ps, jw_en, jw_N, jw_C, List.map_cons, List.map_nil, ↓reduceIte, Nat.reduceSub, Nat.reduceAdd, Nat.reduceEqDiff, Nat.reduceLeDiff, Nat.le_refl, Nat.zero_le, true_and, and_true, true_or, or_true, false_or, or_false, false_imp_iff, true_imp_iff, not_true_eq_false, not_false_eq_true, nI_0, nb_1, fa_10, fa_01, hp_no (show 92 ≤ 1005 by decide), roL_5, show Int32.ofNat L = nI L from rfl, lw_len (show i ≤ 2565 by omega) hL, eq_true hx]
      exact hK _
    · have go : ∀ I2 J2 tp fl u wr gp ds sh tn, ls_ I2 tp fl u wr gp ds sh tn → P 18 [.ref 1005, .ref 0, .ref 69, .int (nI (i + 5))] [] (hp_ I2 J2) (92, 12063) := fun I2 J2 tp fl u wr gp ds sh tn h2 => ih (i + 5) I2 J2 tp fl u wr gp ds sh tn (by omega) (by omega) h2
      have e5 : nI i + 5 = nI (i + 5) := nI_add i 5
      have hi5 : i + 5 ≤ L := by omega
      obtain ⟨B0, hB0⟩ : ∃ B, B = bb_W_law_192 L xs K P := ⟨_, rfl⟩
      obtain ⟨B1, hB1⟩ : ∃ B, B = bb_W_law_245 L xs K P := ⟨_, rfl⟩
      obtain ⟨B2, hB2⟩ : ∃ B, B = bb_W_law_268 L xs K P := ⟨_, rfl⟩
      obtain ⟨B3, hB3⟩ : ∃ B, B = bb_W_law_281 L xs K P := ⟨_, rfl⟩
      obtain ⟨B4, hB4⟩ : ∃ B, B = bb_W_law_294 L xs K P := ⟨_, rfl⟩
      obtain ⟨B5, hB5⟩ : ∃ B, B = bb_W_law_317 L xs K P := ⟨_, rfl⟩
      obtain ⟨B6, hB6⟩ : ∃ B, B = bb_W_law_340 L xs K P := ⟨_, rfl⟩
      obtain ⟨B7, hB7⟩ : ∃ B, B = bb_W_law_353 L xs K P := ⟨_, rfl⟩
      obtain ⟨B8, hB8⟩ : ∃ B, B = bb_W_law_376 L xs K P := ⟨_, rfl⟩
      obtain ⟨B9, hB9⟩ : ∃ B, B = bb_W_law_399 L xs K P := ⟨_, rfl⟩
      obtain ⟨B10, hB10⟩ : ∃ B, B = bb_W_law_422 L xs K P := ⟨_, rfl⟩
      obtain ⟨B11, hB11⟩ : ∃ B, B = bb_W_law_475 L xs K P := ⟨_, rfl⟩
      obtain ⟨B12, hB12⟩ : ∃ B, B = bb_W_law_498 L xs K P := ⟨_, rfl⟩
      obtain ⟨B13, hB13⟩ : ∃ B, B = bb_W_law_531 L xs K P := ⟨_, rfl⟩
      obtain ⟨B14, hB14⟩ : ∃ B, B = bb_W_law_554 L xs K P := ⟨_, rfl⟩
      obtain ⟨B15, hB15⟩ : ∃ B, B = bb_W_law_587 L xs K P := ⟨_, rfl⟩
      obtain ⟨B16, hB16⟩ : ∃ B, B = bb_W_law_600 L xs K P := ⟨_, rfl⟩
      obtain ⟨B17, hB17⟩ : ∃ B, B = bb_W_law_633 L xs K P := ⟨_, rfl⟩
      obtain ⟨B18, hB18⟩ : ∃ B, B = bb_W_law_656 L xs K P := ⟨_, rfl⟩
      obtain ⟨B19, hB19⟩ : ∃ B, B = bb_W_law_679 L xs K P := ⟨_, rfl⟩
      obtain ⟨B20, hB20⟩ : ∃ B, B = bb_W_law_702 L xs K P := ⟨_, rfl⟩
      obtain ⟨B21, hB21⟩ : ∃ B, B = bb_W_law_725 L xs K P := ⟨_, rfl⟩
      obtain ⟨B22, hB22⟩ : ∃ B, B = bb_W_law_738 L xs K P := ⟨_, rfl⟩
      obtain ⟨B23, hB23⟩ : ∃ B, B = bb_W_law_761 L xs K P := ⟨_, rfl⟩
      obtain ⟨B24, hB24⟩ : ∃ B, B = bb_W_law_784 L xs K P := ⟨_, rfl⟩
      obtain ⟨B25, hB25⟩ : ∃ B, B = bb_W_law_817 L xs K P := ⟨_, rfl⟩
      obtain ⟨B26, hB26⟩ : ∃ B, B = bb_W_law_830 L xs K P := ⟨_, rfl⟩
      obtain ⟨B27, hB27⟩ : ∃ B, B = bb_W_law_843 L xs K P := ⟨_, rfl⟩
      obtain ⟨B28, hB28⟩ : ∃ B, B = bb_W_law_866 L xs K P := ⟨_, rfl⟩
      obtain ⟨B29, hB29⟩ : ∃ B, B = bb_W_law_889 L xs K P := ⟨_, rfl⟩
      obtain ⟨B30, hB30⟩ : ∃ B, B = bb_W_law_902 L xs K P := ⟨_, rfl⟩
      obtain ⟨B31, hB31⟩ : ∃ B, B = bb_W_law_945 L xs K P := ⟨_, rfl⟩
      obtain ⟨B32, hB32⟩ : ∃ B, B = bb_W_law_988 L xs K P := ⟨_, rfl⟩
      obtain ⟨B33, hB33⟩ : ∃ B, B = bb_W_law_1041 L xs K P := ⟨_, rfl⟩
      obtain ⟨B34, hB34⟩ : ∃ B, B = bb_W_law_1054 L xs K P := ⟨_, rfl⟩
      obtain ⟨B35, hB35⟩ : ∃ B, B = bb_W_law_1067 L xs K P := ⟨_, rfl⟩
      have g0 := lc_feed (J := J) hB0 h hi5 hL go
      have g1 := lc_end (J := J) hB1 h hi5 hL go
      have g2 := lc_text (J := J) hB2 h hi5 hL go
      have g3 := lc_fault (J := J) hB3 h hi5 hL go
      have g4 := lc_rule (J := J) hB4 h hi5 hL go
      have g5 := lc_add (J := J) hB5 h hi5 hL go
      have g6 := lc_clear (J := J) hB6 h hi5 hL go
      have g7 := lc_value (J := J) hB7 h hi5 hL go
      have g8 := lc_stripe (J := J) hB8 h hi5 hL go
      have g9 := lc_bit (J := J) hB9 h hi5 hL go
      have g10 := lc_write (J := J) hB10 h hi5 hL go
      have g11 := lc_gap (J := J) hB11 h hi5 hL go
      have g12 := lc_alter (J := J) hB12 h hi5 hL go
      have g13 := lc_miss (J := J) hB13 h hi5 hL go
      have g14 := lc_split (J := J) hB14 h hi5 hL go
      have g15 := lc_turn (J := J) hB15 h hi5 hL go
      have g16 := lc_read (J := J) hB16 h hi5 hL go
      have g17 := lc_heard (J := J) hB17 h hi5 hL go
      have g18 := lc_found (J := J) hB18 h hi5 hL go
      have g19 := lc_symbol (J := J) hB19 h hi5 hL go
      have g20 := lc_mended (J := J) hB20 h hi5 hL go
      have g21 := lc_way (J := J) hB21 h hi5 hL go
      have g22 := lc_smooth (J := J) hB22 h hi5 hL go
      have g23 := lc_smoothBit (J := J) hB23 h hi5 hL go
      have g24 := lc_margin (J := J) hB24 h hi5 hL go
      have g25 := lc_sway (J := J) hB25 h hi5 hL go
      have g26 := lc_keep (J := J) hB26 h hi5 hL go
      have g27 := lc_joined (J := J) hB27 h hi5 hL go
      have g28 := lc_join (J := J) hB28 h hi5 hL go
      have g29 := lc_drop (J := J) hB29 h hi5 hL go
      have g30 := lc_sheet (J := J) hB30 h hi5 hL go
      have g31 := lc_lay (J := J) hB31 h hi5 hL go
      have g32 := lc_load (J := J) hB32 h hi5 hL go
      have g33 := lc_wipe (J := J) hB33 h hi5 hL go
      have g34 := lc_torn (J := J) hB34 h hi5 hL go
      have g35 := lc_count (J := J) hB35 h hi5 hL go
      have gd := go I J tp fl u wr gp ds sh tn h
      refine hP _ _ _ _ _ ?_
      simp only [bb_W_law_18, bb_W_law_1090, qq_W_law, ← hB0, ← hB1, ← hB2, ← hB3, ← hB4, ← hB5, ← hB6, ← hB7, ← hB8, ← hB9, ← hB10, ← hB11, ← hB12, ← hB13, ← hB14, ← hB15, ← hB16, ← hB17, ← hB18, ← hB19, ← hB20, ← hB21, ← hB22, ← hB23, ← hB24, ← hB25, ← hB26, ← hB27, ← hB28, ← hB29, ← hB30, ← hB31, ← hB32, ← hB33, ← hB34, ← hB35, xo_il, xo_ll, xo_al, xo_is, xo_ls, xo_as, xo_ic, xo_ci, xo_cl, xo_iadd, xo_isub, xo_imul, xo_iand, xo_ior, xo_ixor, xo_ishl, xo_ishr, xo_iushr, xo_idiv, xo_irem, xo_ineg, xo_ladd, xo_lsub, xo_lmul, xo_land, xo_lor, xo_lxor, xo_ldiv, xo_lrem, xo_lneg, xo_lushr, xo_lshl, xo_lshr, xo_lcmp, xo_i2l, xo_l2i, xo_i2b, xo_i2s, xo_i2c, xo_dup, xo_pop, xo_zeq, xo_ceq, xo_zne, xo_cne, xo_zlt, xo_clt, xo_zge, xo_cge, xo_zgt, xo_cgt, xo_zle, xo_cle, xo_sw, xo_ts, xo_gf, xo_pfi, xo_pfl, xo_pfz, xo_pfr, xo_iald, xo_iast, xo_zast, xo_zald, xo_alen, xo_aald, xo_gs, xo_cv, xo_cs, xo_ca, xo_obj, xo_ri, xo_rz, xo_rl, xo_ra, xo_rc, xo_rb, xo_rv, xo_new, xo_newa, xo_anew, xo_aast, xo_mmax, xo_mmin, xo_mabs, xo_mmaxL, xo_mabsL, jw_ge, jw_st, jw_st2, jw_se, jw_un, jw_kk, jw_pp, jw_l4, jw_l1, jw_ps, jw_en, jw_N, jw_C, List.map_cons, List.map_nil, ↓reduceIte, Nat.reduceSub, Nat.reduceAdd, Nat.reduceEqDiff, Nat.reduceLeDiff, Nat.le_refl, Nat.zero_le, true_and, and_true, true_or, or_true, false_or, or_false, false_imp_iff, true_imp_iff, not_true_eq_false, not_false_eq_true, nI_0, nb_1, fa_10, fa_01, xo_sw, hp_no (show 92 ≤ 1005 by decide), roL_5, show Int32.ofNat L = nI L from rfl, lw_len (show i ≤ 2565 by omega) hL, hx, vi_t (show i < L by omega) (show L < 2 ^ 31 by omega), nI_clamp (show i < 2 ^ 31 by omega), e5]
      exact ⟨fun _ => gd, fun _ => g0, fun _ => g1, fun _ => g2, fun _ => g3, fun _ => g4, fun _ => g5, fun _ => g6, fun _ => g7, fun _ => g8, fun _ => g9, fun _ => g10, fun _ => g11, fun _ => g12, fun _ => g13, fun _ => g14, fun _ => g15, fun _ => g16, fun _ => g17, fun _ => g18, fun _ => g19, fun _ => g20, fun _ => g21, fun _ => g22, fun _ => g23, fun _ => g24, fun _ => g25, fun _ => g26, fun _ => g27, fun _ => g28, fun _ => g29, fun _ => g30, fun _ => g31, fun _ => g32, fun _ => g33, fun _ => g34, fun _ => g35⟩
theorem lw_C (hL : L ≤ 2560) (hK : ∀ h, K (some (.int 1)) h) : cc_W_law L xs [.ref 1005] [] K := by
  refine jw_Cin (Nat.le_of_ble_eq_true rfl) rfl (fun P hP => ?_)
  have g := lw_loop hP hL hK 512 0 i0_ j0_ [] 0 r0_ [] [] [] (fun _ => none) 0 (by omega) (by omega) ⟨i0_c, i0_m, v0_⟩
  refine hP _ _ _ _ _ ?_
  simp only [bb_W_law_0, qq_W_law, xo_il, xo_ll, xo_al, xo_is, xo_ls, xo_as, xo_ic, xo_ci, xo_cl, xo_iadd, xo_isub, xo_imul, xo_iand, xo_ior, xo_ixor, xo_ishl, xo_ishr, xo_iushr, xo_idiv, xo_irem, xo_ineg, xo_ladd, xo_lsub, xo_lmul, xo_land, xo_lor, xo_lxor, xo_ldiv, xo_lrem, xo_lneg, xo_lushr, xo_lshl, xo_lshr, xo_lcmp, xo_i2l, xo_l2i, xo_i2b, xo_i2s, xo_i2c, xo_dup, xo_pop, xo_zeq, xo_ceq, xo_zne, xo_cne, xo_zlt, xo_clt, xo_zge, xo_cge, xo_zgt, xo_cgt, xo_zle, xo_cle, xo_sw, xo_ts, xo_gf, xo_pfi, xo_pfl, xo_pfz, xo_pfr, xo_iald, xo_iast, xo_zast, xo_zald, xo_alen, xo_aald, xo_gs, xo_cv, xo_cs, xo_ca, xo_obj, xo_ri, xo_rz, xo_rl, xo_ra, xo_rc, xo_rb, xo_rv, xo_new, xo_newa, xo_anew, xo_aast, xo_mmax, xo_mmin, xo_mabs, xo_mmaxL, xo_mabsL, jw_ge, jw_st, jw_st2, jw_se, jw_un, jw_kk, jw_pp, jw_l4, jw_l1, jw_ps, jw_en, jw_N, jw_C, List.map_cons, List.map_nil, ↓reduceIte, Nat.reduceSub, Nat.reduceAdd, Nat.reduceEqDiff, Nat.reduceLeDiff, Nat.le_refl, Nat.zero_le, true_and, and_true, true_or, or_true, false_or, or_false, false_imp_iff, true_imp_iff, not_true_eq_false, not_false_eq_true, nI_0, nb_1, fa_10, fa_01, List.length_nil, List.nil_append, Nat.reduceLT]
  refine ct_10z ?_
  simp only [xo_il, xo_ll, xo_al, xo_is, xo_ls, xo_as, xo_ic, xo_ci, xo_cl, xo_iadd, xo_isub, xo_imul, xo_iand, xo_ior, xo_ixor, xo_ishl, xo_ishr, xo_iushr, xo_idiv, xo_irem, xo_ineg, xo_ladd, xo_lsub, xo_lmul, xo_land, xo_lor, xo_lxor, xo_ldiv, xo_lrem, xo_lneg, xo_lushr, xo_lshl, xo_lshr, xo_lcmp, xo_i2l, xo_l2i, xo_i2b, xo_i2s, xo_i2c, xo_dup, xo_pop, xo_zeq, xo_ceq, xo_zne, xo_cne, xo_zlt, xo_clt, xo_zge, xo_cge, xo_zgt, xo_cgt, xo_zle, xo_cle, xo_sw, xo_ts, xo_gf, xo_pfi, xo_pfl, xo_pfz, xo_pfr, xo_iald, xo_iast, xo_zast, xo_zald, xo_alen, xo_aald, xo_gs, xo_cv, xo_cs, xo_ca, xo_obj, xo_ri, xo_rz, xo_rl, xo_ra, xo_rc, xo_rb, xo_rv, xo_new, xo_newa, xo_anew, xo_aast, xo_mmax, xo_mmin, xo_mabs, xo_mmaxL, xo_mabsL, jw_ge, jw_st, jw_st2, jw_se, jw_un, jw_kk, jw_pp, jw_l4, jw_l1, jw_ps, jw_en, jw_N, jw_C, List.map_cons, List.map_nil, ↓reduceIte, Nat.reduceSub, Nat.reduceAdd, Nat.reduceEqDiff, Nat.reduceLeDiff, Nat.le_refl, Nat.zero_le, true_and, and_true, true_or, or_true, false_or, or_false, false_imp_iff, true_imp_iff, not_true_eq_false, not_false_eq_true, nI_0, nb_1, fa_10, fa_01, x0_l, Nat.reduceLT]
  refine ct_11z ?_
  simp only [xo_il, xo_ll, xo_al, xo_is, xo_ls, xo_as, xo_ic, xo_ci, xo_cl, xo_iadd, xo_isub, xo_imul, xo_iand, xo_ior, xo_ixor, xo_ishl, xo_ishr, xo_iushr, xo_idiv, xo_irem, xo_ineg, xo_ladd, xo_lsub, xo_lmul, xo_land, xo_lor, xo_lxor, xo_ldiv, xo_lrem, xo_lneg, xo_lushr, xo_lshl, xo_lshr, xo_lcmp, xo_i2l, xo_l2i, xo_i2b, xo_i2s, xo_i2c, xo_dup, xo_pop, xo_zeq, xo_ceq, xo_zne, xo_cne, xo_zlt, xo_clt, xo_zge, xo_cge, xo_zgt, xo_cgt, xo_zle, xo_cle, xo_sw, xo_ts, xo_gf, xo_pfi, xo_pfl, xo_pfz, xo_pfr, xo_iald, xo_iast, xo_zast, xo_zald, xo_alen, xo_aald, xo_gs, xo_cv, xo_cs, xo_ca, xo_obj, xo_ri, xo_rz, xo_rl, xo_ra, xo_rc, xo_rb, xo_rv, xo_new, xo_newa, xo_anew, xo_aast, xo_mmax, xo_mmin, xo_mabs, xo_mmaxL, xo_mabsL, jw_ge, jw_st, jw_st2, jw_se, jw_un, jw_kk, jw_pp, jw_l4, jw_l1, jw_ps, jw_en, jw_N, jw_C, List.map_cons, List.map_nil, ↓reduceIte, Nat.reduceSub, Nat.reduceAdd, Nat.reduceEqDiff, Nat.reduceLeDiff, Nat.le_refl, Nat.zero_le, true_and, and_true, true_or, or_true, false_or, or_false, false_imp_iff, true_imp_iff, not_true_eq_false, not_false_eq_true, nI_0, nb_1, fa_10, fa_01]
  exact g
end LW
