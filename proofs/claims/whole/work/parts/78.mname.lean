/-! the reference: bytes, names -/
def ba_ (t : List Nat) (p : Nat) : Int32 := if p < t.length then nI (t.getD p 0) else -4
def mw_ : List Nat := [0, 1, 9, 2, 3, 4, 5, 6, 7, 10, 8]
def mv_ : List Nat := [0, 1, 3, 4, 5, 6, 7, 8, 10, 2, 9]
def ml_ (n : Nat) : List Nat := cw_.getD (mv_.getD n 0) []
theorem ml_c : ∀ n, n < 11 → cu_.getD (n + 1) 0 - cu_.getD n 0 = (ml_ n).length ∧ cu_.getD n 0 ≤ cu_.getD (n + 1) 0 ∧ cu_.getD (n + 1) 0 ≤ 51 := by decide +kernel
theorem ml_l : ∀ n, n < 11 → ∀ j, j < 7 → j < (ml_ n).length → lr_.getD (cu_.getD n 0 + j) 0 = (ml_ n).getD j 0 ∧ cu_.getD n 0 + j < 51 ∧ (ml_ n).getD j 0 < 128 := by decide +kernel
theorem ml_7 : ∀ n, n < 11 → (ml_ n).length ≤ 7 := by decide +kernel
def wm_ (sl : List Nat) : Nat → Nat → Option Nat
  | 0, _ => none
  | m + 1, k => if ml_ k = sl then some k else wm_ sl m (k + 1)
def nm_ (sl : List Nat) : Int32 := match wi_ sl with
  | none => -4
  | some w => nI (mw_.getD w 0)
theorem wm_c : ∀ w, w < 11 → wm_ (cw_.getD w []) 11 0 = some (mw_.getD w 0) := by decide +kernel
theorem mv_lt : ∀ n, n < 11 → mv_.getD n 0 < 11 := by decide +kernel
theorem wm_in {sl : List Nat} : ∀ (m k r : Nat), wm_ sl m k = some r → ml_ r = sl ∧ k ≤ r ∧ r < k + m
  | 0, k, r, h => by simp [wm_] at h
  | m + 1, k, r, h => by
    unfold wm_ at h
    split at h
    · rename_i q; cases h; exact ⟨q, Nat.le_refl _, by omega⟩
    · have := wm_in m (k + 1) r h; exact ⟨this.1, by omega, by omega⟩
theorem wm_nm (sl : List Nat) : oi_ (wm_ sl 11 0) = nm_ sl := by
  unfold nm_
  cases hw : wi_ sl with
  | some w =>
    have h := wi_in hw
    rw [← h.1, wm_c w h.2]
    rfl
  | none =>
    cases hm : wm_ sl 11 0 with
    | none => rfl
    | some r =>
      have h := wm_in 11 0 r hm
      exact absurd h.1 (wf_no 11 0 hw _ (Nat.zero_le _) (by have := mv_lt r (by omega); omega))
section NM
variable {I : Nat → Nat → Int32} {J : Nat → Nat → Int64} {K : jw_K} {t : List Nat}
theorem tm_byteAt (ht : mn_ I 70 1 t) (htn : t.length ≤ 160) {p : Nat} (hp : p < 100000) (hK : K (some (.int (ba_ t p))) (hp_ I J)) : cc_11_byteAt [.ref 69, .int (nI p)] (hp_ I J) K := by
  refine jw_Cin (Nat.le_of_ble_eq_true rfl) rfl (fun P hP => hP _ _ _ _ _ ?_)
  have e : (nI t.length ≤ nI p) = (t.length ≤ p) := propext (nI_leI (by omega) (by omega))
  unfold ba_ at hK
  by_cases q : p < t.length
  · rw [if_pos q] at hK
    simp only [qq_11_byteAt, bb_11_byteAt_19, bb_11_byteAt_17, bb_11_byteAt_0, xo_il, xo_ll, xo_al, xo_is, xo_ls, xo_as, xo_ic, xo_ci, xo_cl, xo_iadd, xo_isub, xo_imul, xo_iand, xo_ior, xo_ixor, xo_ishl, xo_ishr, xo_iushr, xo_idiv, xo_irem, xo_ineg, xo_ladd, xo_lsub, xo_lmul, xo_land, xo_lor, xo_lxor, xo_ldiv, xo_lrem, xo_lneg, xo_lushr, xo_lshl, xo_lshr, xo_lcmp, xo_i2l, xo_l2i, xo_i2b, xo_i2s, xo_i2c, xo_dup, xo_pop, xo_zeq, xo_ceq, xo_zne, xo_cne, xo_zlt, xo_clt, xo_zge, xo_cge, xo_zgt, xo_cgt, xo_zle, xo_cle, xo_sw, xo_ts, xo_gf, xo_pfi, xo_pfl, xo_pfz, xo_pfr, xo_iald, xo_iast, xo_zast, xo_zald, xo_alen, xo_aald, xo_gs, xo_cv, xo_cs, xo_ca, xo_obj, xo_ri, xo_rz, xo_rl, xo_ra, xo_rc, xo_rb, xo_rv, xo_new, xo_newa, xo_anew, xo_aast, xo_mmax, xo_mmin, xo_mabs, xo_mmaxL, xo_mabsL, jw_ge, jw_st, jw_st2, jw_se, jw_un, jw_kk, jw_pp, jw_l4, jw_l1, jw_ps, jw_en, jw_N, jw_C, List.map_cons, List.map_nil, ↓reduceIte, Nat.reduceSub, Nat.reduceAdd, Nat.reduceEqDiff, Nat.reduceLeDiff, Nat.le_refl, Nat.zero_le, true_and, and_true, true_or, or_true, false_or, or_false, false_imp_iff, true_imp_iff, not_true_eq_false, not_false_eq_true, nI_0, nb_1, fa_10, fa_01, hg_69_0, hg_69_1, hq_69_1, hg_69_2, hq_69_2, hg_69_3, hq_69_3, hg_69_4, hq_69_4, hg_69_5, hq_69_5, hg_69_6, hq_69_6, hg_69_7, hq_69_7, hg_69_8, hq_69_8, hg_69_9, hg_69_10, hg_69_11, hg_69_12, hg_69_13, hg_69_14, hg_69_15, hg_69_16, hq_69_16, hg_69_17, hg_69_18, hq_69_18, hg_69_19, hg_69_20, hq_69_20, hg_69_21, hg_69_22, hq_69_22, hg_69_23, hq_69_23, hg_69_24, hg_69_25, hq_69_25, hg_69_26, hq_69_26, hg_69_27, hq_69_27, hg_69_28, hq_69_28, hg_69_29, hq_69_29, hg_69_30, hq_69_30, hg_69_31, hq_69_31, hg_69_32, hq_69_32, hg_69_33, hg_69_34, hg_69_35, hq_69_35, hg_69_36, hq_69_36, hg_69_37, hq_69_37, hg_69_38, hg_69_39, hg_69_40, hq_69_40, hg_69_41, hq_69_41, hg_69_42, hg_69_43, hg_69_44, hg_69_45, hq_69_45, hg_69_46, hg_69_47, hg_69_48, hg_69_49, hq_69_49, hi_69, ha_70, hb_70, ha_71, hb_71, ha_72, hb_72, ha_73, hb_73, ha_74, hb_74, ha_75, hb_75, ha_76, hb_76, ha_77, hb_77, ha_78, hb_78, ha_79, hb_79, ha_80, hb_80, ha_81, hb_81, ha_82, hb_82, ha_83, hb_83, ha_84, hb_84, ha_85, hb_85, ha_86, hb_86, ha_87, hb_87, ha_88, hb_88, ha_89, hb_89, ha_90, hb_90, ha_91, hb_91, ht.1, e, eq_false (show ¬ t.length ≤ p by omega), nI_clamp (show p < 2 ^ 31 by omega), vi_t (show p < 160 by omega) (by omega), ht.2 p q]
    exact hK
  · rw [if_neg q] at hK
    simp only [qq_11_byteAt, bb_11_byteAt_19, bb_11_byteAt_17, bb_11_byteAt_0, xo_il, xo_ll, xo_al, xo_is, xo_ls, xo_as, xo_ic, xo_ci, xo_cl, xo_iadd, xo_isub, xo_imul, xo_iand, xo_ior, xo_ixor, xo_ishl, xo_ishr, xo_iushr, xo_idiv, xo_irem, xo_ineg, xo_ladd, xo_lsub, xo_lmul, xo_land, xo_lor, xo_lxor, xo_ldiv, xo_lrem, xo_lneg, xo_lushr, xo_lshl, xo_lshr, xo_lcmp, xo_i2l, xo_l2i, xo_i2b, xo_i2s, xo_i2c, xo_dup, xo_pop, xo_zeq, xo_ceq, xo_zne, xo_cne, xo_zlt, xo_clt, xo_zge, xo_cge, xo_zgt, xo_cgt, xo_zle, xo_cle, xo_sw, xo_ts, xo_gf, xo_pfi, xo_pfl, xo_pfz, xo_pfr, xo_iald, xo_iast, xo_zast, xo_zald, xo_alen, xo_aald, xo_gs, xo_cv, xo_cs, xo_ca, xo_obj, xo_ri, xo_rz, xo_rl, xo_ra, xo_rc, xo_rb, xo_rv, xo_new, xo_newa, xo_anew, xo_aast, xo_mmax, xo_mmin, xo_mabs, xo_mmaxL, xo_mabsL, jw_ge, jw_st, jw_st2, jw_se, jw_un, jw_kk, jw_pp, jw_l4, jw_l1, jw_ps, jw_en, jw_N, jw_C, List.map_cons, List.map_nil, ↓reduceIte, Nat.reduceSub, Nat.reduceAdd, Nat.reduceEqDiff, Nat.reduceLeDiff, Nat.le_refl, Nat.zero_le, true_and, and_true, true_or, or_true, false_or, or_false, false_imp_iff, true_imp_iff, not_true_eq_false, not_false_eq_true, nI_0, nb_1, fa_10, fa_01, hg_69_0, hg_69_1, hq_69_1, hg_69_2, hq_69_2, hg_69_3, hq_69_3, hg_69_4, hq_69_4, hg_69_5, hq_69_5, hg_69_6, hq_69_6, hg_69_7, hq_69_7, hg_69_8, hq_69_8, hg_69_9, hg_69_10, hg_69_11, hg_69_12, hg_69_13, hg_69_14, hg_69_15, hg_69_16, hq_69_16, hg_69_17, hg_69_18, hq_69_18, hg_69_19, hg_69_20, hq_69_20, hg_69_21, hg_69_22, hq_69_22, hg_69_23, hq_69_23, hg_69_24, hg_69_25, hq_69_25, hg_69_26, hq_69_26, hg_69_27, hq_69_27, hg_69_28, hq_69_28, hg_69_29, hq_69_29, hg_69_30, hq_69_30, hg_69_31, hq_69_31, hg_69_32, hq_69_32, hg_69_33, hg_69_34, hg_69_35, hq_69_35, hg_69_36, hq_69_36, hg_69_37, hq_69_37, hg_69_38, hg_69_39, hg_69_40, hq_69_40, hg_69_41, hq_69_41, hg_69_42, hg_69_43, hg_69_44, hg_69_45, hq_69_45, hg_69_46, hg_69_47, hg_69_48, hg_69_49, hq_69_49, hi_69, ha_70, hb_70, ha_71, hb_71, ha_72, hb_72, ha_73, hb_73, ha_74, hb_74, ha_75, hb_75, ha_76, hb_76, ha_77, hb_77, ha_78, hb_78, ha_79, hb_79, ha_80, hb_80, ha_81, hb_81, ha_82, hb_82, ha_83, hb_83, ha_84, hb_84, ha_85, hb_85, ha_86, hb_86, ha_87, hb_87, ha_88, hb_88, ha_89, hb_89, ha_90, hb_90, ha_91, hb_91, ht.1, e, eq_true (show t.length ≤ p by omega)]
    exact hK
theorem tm_fails1 (h3 : I 69 3 = 0) (v : Int32) (hK : K none (hp_ (hw_ (hw_ I 69 3 v) 69 4 (I 69 6)) J)) : cc_11_fails [.ref 69, .int v] (hp_ I J) K := by
  refine jw_Cin (Nat.le_of_ble_eq_true rfl) rfl (fun P hP => hP _ _ _ _ _ ?_)
  simp only [qq_11_fails, bb_11_fails_20, bb_11_fails_0, xo_il, xo_ll, xo_al, xo_is, xo_ls, xo_as, xo_ic, xo_ci, xo_cl, xo_iadd, xo_isub, xo_imul, xo_iand, xo_ior, xo_ixor, xo_ishl, xo_ishr, xo_iushr, xo_idiv, xo_irem, xo_ineg, xo_ladd, xo_lsub, xo_lmul, xo_land, xo_lor, xo_lxor, xo_ldiv, xo_lrem, xo_lneg, xo_lushr, xo_lshl, xo_lshr, xo_lcmp, xo_i2l, xo_l2i, xo_i2b, xo_i2s, xo_i2c, xo_dup, xo_pop, xo_zeq, xo_ceq, xo_zne, xo_cne, xo_zlt, xo_clt, xo_zge, xo_cge, xo_zgt, xo_cgt, xo_zle, xo_cle, xo_sw, xo_ts, xo_gf, xo_pfi, xo_pfl, xo_pfz, xo_pfr, xo_iald, xo_iast, xo_zast, xo_zald, xo_alen, xo_aald, xo_gs, xo_cv, xo_cs, xo_ca, xo_obj, xo_ri, xo_rz, xo_rl, xo_ra, xo_rc, xo_rb, xo_rv, xo_new, xo_newa, xo_anew, xo_aast, xo_mmax, xo_mmin, xo_mabs, xo_mmaxL, xo_mabsL, jw_ge, jw_st, jw_st2, jw_se, jw_un, jw_kk, jw_pp, jw_l4, jw_l1, jw_ps, jw_en, jw_N, jw_C, List.map_cons, List.map_nil, ↓reduceIte, Nat.reduceSub, Nat.reduceAdd, Nat.reduceEqDiff, Nat.reduceLeDiff, Nat.le_refl, Nat.zero_le, true_and, and_true, true_or, or_true, false_or, or_false, false_imp_iff, true_imp_iff, not_true_eq_false, not_false_eq_true, nI_0, nb_1, fa_10, fa_01, hg_69_0, hg_69_1, hq_69_1, hg_69_2, hq_69_2, hg_69_3, hq_69_3, hg_69_4, hq_69_4, hg_69_5, hq_69_5, hg_69_6, hq_69_6, hg_69_7, hq_69_7, hg_69_8, hq_69_8, hg_69_9, hg_69_10, hg_69_11, hg_69_12, hg_69_13, hg_69_14, hg_69_15, hg_69_16, hq_69_16, hg_69_17, hg_69_18, hq_69_18, hg_69_19, hg_69_20, hq_69_20, hg_69_21, hg_69_22, hq_69_22, hg_69_23, hq_69_23, hg_69_24, hg_69_25, hq_69_25, hg_69_26, hq_69_26, hg_69_27, hq_69_27, hg_69_28, hq_69_28, hg_69_29, hq_69_29, hg_69_30, hq_69_30, hg_69_31, hq_69_31, hg_69_32, hq_69_32, hg_69_33, hg_69_34, hg_69_35, hq_69_35, hg_69_36, hq_69_36, hg_69_37, hq_69_37, hg_69_38, hg_69_39, hg_69_40, hq_69_40, hg_69_41, hq_69_41, hg_69_42, hg_69_43, hg_69_44, hg_69_45, hq_69_45, hg_69_46, hg_69_47, hg_69_48, hg_69_49, hq_69_49, hi_69, ha_70, hb_70, ha_71, hb_71, ha_72, hb_72, ha_73, hb_73, ha_74, hb_74, ha_75, hb_75, ha_76, hb_76, ha_77, hb_77, ha_78, hb_78, ha_79, hb_79, ha_80, hb_80, ha_81, hb_81, ha_82, hb_82, ha_83, hb_83, ha_84, hb_84, ha_85, hb_85, ha_86, hb_86, ha_87, hb_87, ha_88, hb_88, ha_89, hb_89, ha_90, hb_90, ha_91, hb_91, hw_v, eq_self, and_self, and_true, true_and, and_false, false_and, Nat.reduceEqDiff, ↓reduceIte, if_true, if_false, h3]
  exact hK
theorem tm_nameAt (hk : mk_ I) (ht : mn_ I 70 1 t) (htn : t.length ≤ 160) (ht8 : ∀ b ∈ t, b < 256) {s n : Nat} (hs : s + n ≤ t.length) (hK : K (some (.int (nm_ ((t.drop s).take n)))) (hp_ I J)) : cc_11_nameAt [.ref 69, .int (nI s), .int (nI (s + n))] (hp_ I J) K := by
  refine jw_Cin (Nat.le_of_ble_eq_true rfl) rfl (fun P hP => ?_)
  rw [← wm_nm] at hK
  generalize hsl : (t.drop s).take n = sl at hK
  have en : nI (s + n) - nI s = nI n := by rw [pk_sub (by omega), show s + n - s = n by omega]
  have lp : ∀ (m k : Nat) (w4 w5 : Value), k + m = 11 → wm_ sl m k = wm_ sl 11 0 → P 2 [.ref 69, .int (nI s), .int (nI (s + n)), .int (nI k), w4, w5] [] (hp_ I J) (0, 0) := by
    intro m
    induction m with
    | zero =>
      intro k w4 w5 hk11 hwm
      have : k = 11 := by omega
      subst this
      rw [← hwm] at hK
      refine hP _ _ _ _ _ ?_
      simp only [bb_11_nameAt_2, bb_11_nameAt_103, qq_11_nameAt, xo_il, xo_ll, xo_al, xo_is, xo_ls, xo_as, xo_ic, xo_ci, xo_cl, xo_iadd, xo_isub, xo_imul, xo_iand, xo_ior, xo_ixor, xo_ishl, xo_ishr, xo_iushr, xo_idiv, xo_irem, xo_ineg, xo_ladd, xo_lsub, xo_lmul, xo_land, xo_lor, xo_lxor, xo_ldiv, xo_lrem, xo_lneg, xo_lushr, xo_lshl, xo_lshr, xo_lcmp, xo_i2l, xo_l2i, xo_i2b, xo_i2s, xo_i2c, xo_dup, xo_pop, xo_zeq, xo_ceq, xo_zne, xo_cne, xo_zlt, xo_clt, xo_zge, xo_cge, xo_zgt, xo_cgt, xo_zle, xo_cle, xo_sw, xo_ts, xo_gf, xo_pfi, xo_pfl, xo_pfz, xo_pfr, xo_iald, xo_iast, xo_zast, xo_zald, xo_alen, xo_aald, xo_gs, xo_cv, xo_cs, xo_ca, xo_obj, xo_ri, xo_rz, xo_rl, xo_ra, xo_rc, xo_rb, xo_rv, xo_new, xo_newa, xo_anew, xo_aast, xo_mmax, xo_mmin, xo_mabs, xo_mmaxL, xo_mabsL, jw_ge, jw_st, jw_st2, jw_se, jw_un, jw_kk, jw_pp, jw_l4, jw_l1, jw_ps, jw_en, jw_N, jw_C, List.map_cons, List.map_nil, ↓reduceIte, Nat.reduceSub, Nat.reduceAdd, Nat.reduceEqDiff, Nat.reduceLeDiff, Nat.le_refl, Nat.zero_le, true_and, and_true, true_or, or_true, false_or, or_false, false_imp_iff, true_imp_iff, not_true_eq_false, not_false_eq_true, nI_0, nb_1, fa_10, fa_01, show ((11 : Int32) ≤ nI 11) = True from eq_true (by decide)]
      exact hK
    | succ m ih =>
      intro k w4 w5 hk11 hwm
      rw [wm_] at hwm
      have hc := ml_c k (by omega)
      have h7 := ml_7 k (by omega)
      have hl := ml_l k (by omega)
      have hsle := sl_eq (w := ml_ k) (t := t) (s := s) (n := n) hs
      rw [hsl] at hsle
      have c1 : I 71 (k + 1) = nI (cu_.getD (k + 1) 0) := hk.1 (k + 1) (by omega)
      have c0 : I 71 k = nI (cu_.getD k 0) := hk.1 k (by omega)
      have ec : nI (cu_.getD (k + 1) 0) - nI (cu_.getD k 0) = nI (ml_ k).length := by rw [pk_sub hc.2.1, hc.1]
      have eln : (nI n = nI (ml_ k).length) = (n = (ml_ k).length) := propext (nI_eq (by omega) (by omega))
      have e11 : ((11 : Int32) ≤ nI k) = False := eq_false (fun q => by have := (nI_leI (a := 11) (b := k) (by omega) (by omega)).mp q; omega)
      have no : ¬ ml_ k = sl → ∀ w5, P 39 [.ref 69, .int (nI s), .int (nI (s + n)), .int (nI k), .int 0, w5] [] (hp_ I J) (0, 0) := by
        intro q w5
        rw [if_neg q] at hwm
        have g := ih (k + 1) (.int 0) w5 (by omega) hwm
        refine hP _ _ _ _ _ ?_
        simp only [bb_11_nameAt_39, bb_11_nameAt_90, bb_11_nameAt_97, qq_11_nameAt, xo_il, xo_ll, xo_al, xo_is, xo_ls, xo_as, xo_ic, xo_ci, xo_cl, xo_iadd, xo_isub, xo_imul, xo_iand, xo_ior, xo_ixor, xo_ishl, xo_ishr, xo_iushr, xo_idiv, xo_irem, xo_ineg, xo_ladd, xo_lsub, xo_lmul, xo_land, xo_lor, xo_lxor, xo_ldiv, xo_lrem, xo_lneg, xo_lushr, xo_lshl, xo_lshr, xo_lcmp, xo_i2l, xo_l2i, xo_i2b, xo_i2s, xo_i2c, xo_dup, xo_pop, xo_zeq, xo_ceq, xo_zne, xo_cne, xo_zlt, xo_clt, xo_zge, xo_cge, xo_zgt, xo_cgt, xo_zle, xo_cle, xo_sw, xo_ts, xo_gf, xo_pfi, xo_pfl, xo_pfz, xo_pfr, xo_iald, xo_iast, xo_zast, xo_zald, xo_alen, xo_aald, xo_gs, xo_cv, xo_cs, xo_ca, xo_obj, xo_ri, xo_rz, xo_rl, xo_ra, xo_rc, xo_rb, xo_rv, xo_new, xo_newa, xo_anew, xo_aast, xo_mmax, xo_mmin, xo_mabs, xo_mmaxL, xo_mabsL, jw_ge, jw_st, jw_st2, jw_se, jw_un, jw_kk, jw_pp, jw_l4, jw_l1, jw_ps, jw_en, jw_N, jw_C, List.map_cons, List.map_nil, ↓reduceIte, Nat.reduceSub, Nat.reduceAdd, Nat.reduceEqDiff, Nat.reduceLeDiff, Nat.le_refl, Nat.zero_le, true_and, and_true, true_or, or_true, false_or, or_false, false_imp_iff, true_imp_iff, not_true_eq_false, not_false_eq_true, nI_0, nb_1, fa_10, fa_01, nI_1]
        exact g
      have lp2 : n = (ml_ k).length → ∀ (m2 j : Nat), j + m2 = n → (∀ q, q < j → (ml_ k).getD q 0 = t.getD (s + q) 0) → P 39 [.ref 69, .int (nI s), .int (nI (s + n)), .int (nI k), .int 1, .int (nI j)] [] (hp_ I J) (0, 0) := by
        intro hnl m2
        induction m2 with
        | zero =>
          intro j hj hall
          have hy : ml_ k = sl := hsle.mpr ⟨hnl.symm, fun q hq => hall q (by omega)⟩
          rw [if_pos hy] at hwm
          rw [← hwm] at hK
          refine hP _ _ _ _ _ ?_
          simp only [bb_11_nameAt_39, bb_11_nameAt_90, qq_11_nameAt, xo_il, xo_ll, xo_al, xo_is, xo_ls, xo_as, xo_ic, xo_ci, xo_cl, xo_iadd, xo_isub, xo_imul, xo_iand, xo_ior, xo_ixor, xo_ishl, xo_ishr, xo_iushr, xo_idiv, xo_irem, xo_ineg, xo_ladd, xo_lsub, xo_lmul, xo_land, xo_lor, xo_lxor, xo_ldiv, xo_lrem, xo_lneg, xo_lushr, xo_lshl, xo_lshr, xo_lcmp, xo_i2l, xo_l2i, xo_i2b, xo_i2s, xo_i2c, xo_dup, xo_pop, xo_zeq, xo_ceq, xo_zne, xo_cne, xo_zlt, xo_clt, xo_zge, xo_cge, xo_zgt, xo_cgt, xo_zle, xo_cle, xo_sw, xo_ts, xo_gf, xo_pfi, xo_pfl, xo_pfz, xo_pfr, xo_iald, xo_iast, xo_zast, xo_zald, xo_alen, xo_aald, xo_gs, xo_cv, xo_cs, xo_ca, xo_obj, xo_ri, xo_rz, xo_rl, xo_ra, xo_rc, xo_rb, xo_rv, xo_new, xo_newa, xo_anew, xo_aast, xo_mmax, xo_mmin, xo_mabs, xo_mmaxL, xo_mabsL, jw_ge, jw_st, jw_st2, jw_se, jw_un, jw_kk, jw_pp, jw_l4, jw_l1, jw_ps, jw_en, jw_N, jw_C, List.map_cons, List.map_nil, ↓reduceIte, Nat.reduceSub, Nat.reduceAdd, Nat.reduceEqDiff, Nat.reduceLeDiff, Nat.le_refl, Nat.zero_le, true_and, and_true, true_or, or_true, false_or, or_false, false_imp_iff, true_imp_iff, not_true_eq_false, not_false_eq_true, nI_0, nb_1, fa_10, fa_01, en, eq_true ((nI_leI (a := n) (b := j) (by omega) (by omega)).mpr (by omega))]
          exact hK
        | succ m2 ih2 =>
          intro j hj hall
          have hlj := hl j (by omega) (by omega)
          have l0 : I 72 (cu_.getD k 0 + j) = nI ((ml_ k).getD j 0) := by rw [← hlj.1]; exact hk.2.1 _ hlj.2.1
          have h256 := t_256 ht8 (s + j)
          have eb : ba_ t (s + j) = nI (t.getD (s + j) 0) := if_pos (by omega)
          have ee : (nI (t.getD (s + j) 0) = nI ((ml_ k).getD j 0)) = (t.getD (s + j) 0 = (ml_ k).getD j 0) := propext (nI_eq (by omega) (by omega))
          refine hP _ _ _ _ _ ?_
          simp only [bb_11_nameAt_39, qq_11_nameAt, xo_il, xo_ll, xo_al, xo_is, xo_ls, xo_as, xo_ic, xo_ci, xo_cl, xo_iadd, xo_isub, xo_imul, xo_iand, xo_ior, xo_ixor, xo_ishl, xo_ishr, xo_iushr, xo_idiv, xo_irem, xo_ineg, xo_ladd, xo_lsub, xo_lmul, xo_land, xo_lor, xo_lxor, xo_ldiv, xo_lrem, xo_lneg, xo_lushr, xo_lshl, xo_lshr, xo_lcmp, xo_i2l, xo_l2i, xo_i2b, xo_i2s, xo_i2c, xo_dup, xo_pop, xo_zeq, xo_ceq, xo_zne, xo_cne, xo_zlt, xo_clt, xo_zge, xo_cge, xo_zgt, xo_cgt, xo_zle, xo_cle, xo_sw, xo_ts, xo_gf, xo_pfi, xo_pfl, xo_pfz, xo_pfr, xo_iald, xo_iast, xo_zast, xo_zald, xo_alen, xo_aald, xo_gs, xo_cv, xo_cs, xo_ca, xo_obj, xo_ri, xo_rz, xo_rl, xo_ra, xo_rc, xo_rb, xo_rv, xo_new, xo_newa, xo_anew, xo_aast, xo_mmax, xo_mmin, xo_mabs, xo_mmaxL, xo_mabsL, jw_ge, jw_st, jw_st2, jw_se, jw_un, jw_kk, jw_pp, jw_l4, jw_l1, jw_ps, jw_en, jw_N, jw_C, List.map_cons, List.map_nil, ↓reduceIte, Nat.reduceSub, Nat.reduceAdd, Nat.reduceEqDiff, Nat.reduceLeDiff, Nat.le_refl, Nat.zero_le, true_and, and_true, true_or, or_true, false_or, or_false, false_imp_iff, true_imp_iff, not_true_eq_false, not_false_eq_true, nI_0, nb_1, fa_10, fa_01, hg_69_0, hg_69_1, hq_69_1, hg_69_2, hq_69_2, hg_69_3, hq_69_3, hg_69_4, hq_69_4, hg_69_5, hq_69_5, hg_69_6, hq_69_6, hg_69_7, hq_69_7, hg_69_8, hq_69_8, hg_69_9, hg_69_10, hg_69_11, hg_69_12, hg_69_13, hg_69_14, hg_69_15, hg_69_16, hq_69_16, hg_69_17, hg_69_18, hq_69_18, hg_69_19, hg_69_20, hq_69_20, hg_69_21, hg_69_22, hq_69_22, hg_69_23, hq_69_23, hg_69_24, hg_69_25, hq_69_25, hg_69_26, hq_69_26, hg_69_27, hq_69_27, hg_69_28, hq_69_28, hg_69_29, hq_69_29, hg_69_30, hq_69_30, hg_69_31, hq_69_31, hg_69_32, hq_69_32, hg_69_33, hg_69_34, hg_69_35, hq_69_35, hg_69_36, hq_69_36, hg_69_37, hq_69_37, hg_69_38, hg_69_39, hg_69_40, hq_69_40, hg_69_41, hq_69_41, hg_69_42, hg_69_43, hg_69_44, hg_69_45, hq_69_45, hg_69_46, hg_69_47, hg_69_48, hg_69_49, hq_69_49, hi_69, ha_70, hb_70, ha_71, hb_71, ha_72, hb_72, ha_73, hb_73, ha_74, hb_74, ha_75, hb_75, ha_76, hb_76, ha_77, hb_77, ha_78, hb_78, ha_79, hb_79, ha_80, hb_80, ha_81, hb_81, ha_82, hb_82, ha_83, hb_83, ha_84, hb_84, ha_85, hb_85, ha_86, hb_86, ha_87, hb_87, ha_88, hb_88, ha_89, hb_89, ha_90, hb_90, ha_91, hb_91, en, eq_false (fun q => absurd ((nI_leI (a := n) (b := j) (by omega) (by omega)).mp q) (by omega) : ¬ nI n ≤ nI j), nI_add]
          refine tm_byteAt ht htn (by omega) ?_
          rw [eb]
          simp only [bb_11_nameAt_81, bb_11_nameAt_82, xo_il, xo_ll, xo_al, xo_is, xo_ls, xo_as, xo_ic, xo_ci, xo_cl, xo_iadd, xo_isub, xo_imul, xo_iand, xo_ior, xo_ixor, xo_ishl, xo_ishr, xo_iushr, xo_idiv, xo_irem, xo_ineg, xo_ladd, xo_lsub, xo_lmul, xo_land, xo_lor, xo_lxor, xo_ldiv, xo_lrem, xo_lneg, xo_lushr, xo_lshl, xo_lshr, xo_lcmp, xo_i2l, xo_l2i, xo_i2b, xo_i2s, xo_i2c, xo_dup, xo_pop, xo_zeq, xo_ceq, xo_zne, xo_cne, xo_zlt, xo_clt, xo_zge, xo_cge, xo_zgt, xo_cgt, xo_zle, xo_cle, xo_sw, xo_ts, xo_gf, xo_pfi, xo_pfl, xo_pfz, xo_pfr, xo_iald, xo_iast, xo_zast, xo_zald, xo_alen, xo_aald, xo_gs, xo_cv, xo_cs, xo_ca, xo_obj, xo_ri, xo_rz, xo_rl, xo_ra, xo_rc, xo_rb, xo_rv, xo_new, xo_newa, xo_anew, xo_aast, xo_mmax, xo_mmin, xo_mabs, xo_mmaxL, xo_mabsL, jw_ge, jw_st, jw_st2, jw_se, jw_un, jw_kk, jw_pp, jw_l4, jw_l1, jw_ps, jw_en, jw_N, jw_C, List.map_cons, List.map_nil, ↓reduceIte, Nat.reduceSub, Nat.reduceAdd, Nat.reduceEqDiff, Nat.reduceLeDiff, Nat.le_refl, Nat.zero_le, true_and, and_true, true_or, or_true, false_or, or_false, false_imp_iff, true_imp_iff, not_true_eq_false, not_false_eq_true, nI_0, nb_1, fa_10, fa_01, hg_69_0, hg_69_1, hq_69_1, hg_69_2, hq_69_2, hg_69_3, hq_69_3, hg_69_4, hq_69_4, hg_69_5, hq_69_5, hg_69_6, hq_69_6, hg_69_7, hq_69_7, hg_69_8, hq_69_8, hg_69_9, hg_69_10, hg_69_11, hg_69_12, hg_69_13, hg_69_14, hg_69_15, hg_69_16, hq_69_16, hg_69_17, hg_69_18, hq_69_18, hg_69_19, hg_69_20, hq_69_20, hg_69_21, hg_69_22, hq_69_22, hg_69_23, hq_69_23, hg_69_24, hg_69_25, hq_69_25, hg_69_26, hq_69_26, hg_69_27, hq_69_27, hg_69_28, hq_69_28, hg_69_29, hq_69_29, hg_69_30, hq_69_30, hg_69_31, hq_69_31, hg_69_32, hq_69_32, hg_69_33, hg_69_34, hg_69_35, hq_69_35, hg_69_36, hq_69_36, hg_69_37, hq_69_37, hg_69_38, hg_69_39, hg_69_40, hq_69_40, hg_69_41, hq_69_41, hg_69_42, hg_69_43, hg_69_44, hg_69_45, hq_69_45, hg_69_46, hg_69_47, hg_69_48, hg_69_49, hq_69_49, hi_69, ha_70, hb_70, ha_71, hb_71, ha_72, hb_72, ha_73, hb_73, ha_74, hb_74, ha_75, hb_75, ha_76, hb_76, ha_77, hb_77, ha_78, hb_78, ha_79, hb_79, ha_80, hb_80, ha_81, hb_81, ha_82, hb_82, ha_83, hb_83, ha_84, hb_84, ha_85, hb_85, ha_86, hb_86, ha_87, hb_87, ha_88, hb_88, ha_89, hb_89, ha_90, hb_90, ha_91, hb_91, nI_clamp (show k < 2 ^ 31 by omega), vi_t (show k < 12 by omega) (by omega), c0, nI_add, nI_clamp (show cu_.getD k 0 + j < 2 ^ 31 by omega), vi_t hlj.2.1 (by decide), l0, ee, nI_1]
          refine ⟨fun q => ?_, fun q => ?_⟩
          · exact no (fun w => q ((hsle.mp w).2 j (by omega)).symm) _
          · refine ih2 (j + 1) (by omega) (fun p hp => ?_)
            by_cases e : p = j
            · subst e; exact q.symm
            · exact hall p (by omega)
      refine hP _ _ _ _ _ ?_
      simp only [bb_11_nameAt_2, bb_11_nameAt_33, bb_11_nameAt_34, qq_11_nameAt, xo_il, xo_ll, xo_al, xo_is, xo_ls, xo_as, xo_ic, xo_ci, xo_cl, xo_iadd, xo_isub, xo_imul, xo_iand, xo_ior, xo_ixor, xo_ishl, xo_ishr, xo_iushr, xo_idiv, xo_irem, xo_ineg, xo_ladd, xo_lsub, xo_lmul, xo_land, xo_lor, xo_lxor, xo_ldiv, xo_lrem, xo_lneg, xo_lushr, xo_lshl, xo_lshr, xo_lcmp, xo_i2l, xo_l2i, xo_i2b, xo_i2s, xo_i2c, xo_dup, xo_pop, xo_zeq, xo_ceq, xo_zne, xo_cne, xo_zlt, xo_clt, xo_zge, xo_cge, xo_zgt, xo_cgt, xo_zle, xo_cle, xo_sw, xo_ts, xo_gf, xo_pfi, xo_pfl, xo_pfz, xo_pfr, xo_iald, xo_iast, xo_zast, xo_zald, xo_alen, xo_aald, xo_gs, xo_cv, xo_cs, xo_ca, xo_obj, xo_ri, xo_rz, xo_rl, xo_ra, xo_rc, xo_rb, xo_rv, xo_new, xo_newa, xo_anew, xo_aast, xo_mmax, xo_mmin, xo_mabs, xo_mmaxL, xo_mabsL, jw_ge, jw_st, jw_st2, jw_se, jw_un, jw_kk, jw_pp, jw_l4, jw_l1, jw_ps, jw_en, jw_N, jw_C, List.map_cons, List.map_nil, ↓reduceIte, Nat.reduceSub, Nat.reduceAdd, Nat.reduceEqDiff, Nat.reduceLeDiff, Nat.le_refl, Nat.zero_le, true_and, and_true, true_or, or_true, false_or, or_false, false_imp_iff, true_imp_iff, not_true_eq_false, not_false_eq_true, nI_0, nb_1, fa_10, fa_01, hg_69_0, hg_69_1, hq_69_1, hg_69_2, hq_69_2, hg_69_3, hq_69_3, hg_69_4, hq_69_4, hg_69_5, hq_69_5, hg_69_6, hq_69_6, hg_69_7, hq_69_7, hg_69_8, hq_69_8, hg_69_9, hg_69_10, hg_69_11, hg_69_12, hg_69_13, hg_69_14, hg_69_15, hg_69_16, hq_69_16, hg_69_17, hg_69_18, hq_69_18, hg_69_19, hg_69_20, hq_69_20, hg_69_21, hg_69_22, hq_69_22, hg_69_23, hq_69_23, hg_69_24, hg_69_25, hq_69_25, hg_69_26, hq_69_26, hg_69_27, hq_69_27, hg_69_28, hq_69_28, hg_69_29, hq_69_29, hg_69_30, hq_69_30, hg_69_31, hq_69_31, hg_69_32, hq_69_32, hg_69_33, hg_69_34, hg_69_35, hq_69_35, hg_69_36, hq_69_36, hg_69_37, hq_69_37, hg_69_38, hg_69_39, hg_69_40, hq_69_40, hg_69_41, hq_69_41, hg_69_42, hg_69_43, hg_69_44, hg_69_45, hq_69_45, hg_69_46, hg_69_47, hg_69_48, hg_69_49, hq_69_49, hi_69, ha_70, hb_70, ha_71, hb_71, ha_72, hb_72, ha_73, hb_73, ha_74, hb_74, ha_75, hb_75, ha_76, hb_76, ha_77, hb_77, ha_78, hb_78, ha_79, hb_79, ha_80, hb_80, ha_81, hb_81, ha_82, hb_82, ha_83, hb_83, ha_84, hb_84, ha_85, hb_85, ha_86, hb_86, ha_87, hb_87, ha_88, hb_88, ha_89, hb_89, ha_90, hb_90, ha_91, hb_91, e11, en, nI_1, nI_clamp (show k < 2 ^ 31 by omega), vi_t (show k < 12 by omega) (by omega), nI_clamp (show k + 1 < 2 ^ 31 by omega), vi_t (show k + 1 < 12 by omega) (by omega), c0, c1, ec, eln]
      refine ⟨fun q => ?_, fun q => ?_⟩
      · exact no (fun w => q (hsle.mp w).1.symm) _
      · exact lp2 q n 0 (by omega) (fun p hp => by omega)
  refine hP _ _ _ _ _ ?_
  simp only [bb_11_nameAt_0, qq_11_nameAt, xo_il, xo_ll, xo_al, xo_is, xo_ls, xo_as, xo_ic, xo_ci, xo_cl, xo_iadd, xo_isub, xo_imul, xo_iand, xo_ior, xo_ixor, xo_ishl, xo_ishr, xo_iushr, xo_idiv, xo_irem, xo_ineg, xo_ladd, xo_lsub, xo_lmul, xo_land, xo_lor, xo_lxor, xo_ldiv, xo_lrem, xo_lneg, xo_lushr, xo_lshl, xo_lshr, xo_lcmp, xo_i2l, xo_l2i, xo_i2b, xo_i2s, xo_i2c, xo_dup, xo_pop, xo_zeq, xo_ceq, xo_zne, xo_cne, xo_zlt, xo_clt, xo_zge, xo_cge, xo_zgt, xo_cgt, xo_zle, xo_cle, xo_sw, xo_ts, xo_gf, xo_pfi, xo_pfl, xo_pfz, xo_pfr, xo_iald, xo_iast, xo_zast, xo_zald, xo_alen, xo_aald, xo_gs, xo_cv, xo_cs, xo_ca, xo_obj, xo_ri, xo_rz, xo_rl, xo_ra, xo_rc, xo_rb, xo_rv, xo_new, xo_newa, xo_anew, xo_aast, xo_mmax, xo_mmin, xo_mabs, xo_mmaxL, xo_mabsL, jw_ge, jw_st, jw_st2, jw_se, jw_un, jw_kk, jw_pp, jw_l4, jw_l1, jw_ps, jw_en, jw_N, jw_C, List.map_cons, List.map_nil, ↓reduceIte, Nat.reduceSub, Nat.reduceAdd, Nat.reduceEqDiff, Nat.reduceLeDiff, Nat.le_refl, Nat.zero_le, true_and, and_true, true_or, or_true, false_or, or_false, false_imp_iff, true_imp_iff, not_true_eq_false, not_false_eq_true, nI_0, nb_1, fa_10, fa_01]
  exact lp 11 0 _ _ (by omega) rfl
end NM
