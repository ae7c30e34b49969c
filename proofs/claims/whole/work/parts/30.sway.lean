/-! margin and sway of a reading -/
theorem ti_mul {a b : Int32} (h1 : -2147483648 ≤ a.toInt * b.toInt) (h2 : a.toInt * b.toInt < 2147483648) : (a * b).toInt = a.toInt * b.toInt := by
  rw [Int32.toInt_mul, Int.bmod_eq_of_le] <;> omega
theorem ti_add {a b : Int32} (h1 : -2147483648 ≤ a.toInt + b.toInt) (h2 : a.toInt + b.toInt < 2147483648) : (a + b).toInt = a.toInt + b.toInt := by
  rw [Int32.toInt_add, Int.bmod_eq_of_le] <;> omega
theorem ti_sub {a b : Int32} (h1 : -2147483648 ≤ a.toInt - b.toInt) (h2 : a.toInt - b.toInt < 2147483648) : (a - b).toInt = a.toInt - b.toInt := by
  rw [Int32.toInt_sub, Int.bmod_eq_of_le] <;> omega
/-- how far a bit may be swayed -/
def sy_ (x : Nat × Nat × Nat) : Nat := min 99 (if x.1 = 0 then (4 * x.2.1 - 3 * x.2.2 - 1) / 7 else (3 * x.2.2 - 4 * x.2.1) / 7)
/-- a bit as the clock decides it -/
def bo_ (x : Nat × Nat × Nat) : Prop := (1 ≤ x.2.1 ∧ x.2.1 ≤ 9999) ∧ (1 ≤ x.2.2 ∧ x.2.2 ≤ 19998) ∧ (x.1 = 0 ∧ 3 * x.2.2 < 4 * x.2.1 ∨ x.1 = 1 ∧ 4 * x.2.1 ≤ 3 * x.2.2)
theorem he_bo {c : Nat} {lim : Option Nat} : ∀ (gs : List Nat) (i t : Nat), (∀ g ∈ gs, 1 ≤ g ∧ g ≤ 9999) → 1 ≤ t → t ≤ 19998 → ∀ x ∈ (he_ c lim i t gs).1, bo_ x
  | [], i, t, _, _, _, x, hx => by simp [he_] at hx
  | [g], i, t, hg, t1, t2, x, hx => by
    have h1 := hg g List.mem_cons_self
    unfold he_ at hx
    split at hx
    · simp at hx
    · split at hx
      · simp at hx
      · simp only [he_c, List.mem_singleton] at hx
        subst hx
        exact ⟨h1, ⟨t1, t2⟩, Or.inl ⟨rfl, by simp only; omega⟩⟩
  | g :: g2 :: gs, i, t, hg, t1, t2, x, hx => by
    have h1 := hg g List.mem_cons_self
    have h2 := hg g2 (List.mem_cons_of_mem _ List.mem_cons_self)
    unfold he_ at hx
    split at hx
    · split at hx
      · simp at hx
      · simp only [he_c, List.mem_cons] at hx
        have hfo := fo_in (c := c) t1 t2 (show 1 ≤ g + g2 by omega) (by omega)
        rcases hx with rfl | hx
        · exact ⟨h1, ⟨t1, t2⟩, Or.inr ⟨rfl, by simp only; omega⟩⟩
        · exact he_bo gs _ _ (fun q hq => hg q (List.mem_cons_of_mem _ (List.mem_cons_of_mem _ hq))) hfo.1 hfo.2 x hx
    · split at hx
      · simp at hx
      · simp only [he_c, List.mem_cons] at hx
        have hfo := fo_in (c := c) t1 t2 (show 1 ≤ g by omega) (by omega)
        rcases hx with rfl | hx
        · exact ⟨h1, ⟨t1, t2⟩, Or.inl ⟨rfl, by simp only; omega⟩⟩
        · exact he_bo (g2 :: gs) _ _ (fun q hq => hg q (List.mem_cons_of_mem _ hq)) hfo.1 hfo.2 x hx
/-- all but the first bit were decided -/
theorem hea_bo {c : Nat} {lim : Option Nat} {gp : List Nat} (hg : ∀ g ∈ gp, 1 ≤ g ∧ g ≤ 9999) : ∀ x ∈ (hea_ c lim gp).1.tail, bo_ x := by
  cases gp with
  | nil => intro x hx; simp [hea_] at hx
  | cons g gs =>
    have h1 := hg g List.mem_cons_self
    exact he_bo gs 1 g (fun q hq => hg q (List.mem_cons_of_mem _ hq)) h1.1 (by omega)
section SY
variable {I : Nat → Nat → Int32} {J : Nat → Nat → Int64} {K : jw_K} {R : List (Nat × Nat × Nat)} {f : Nat} {fa : Int32}
theorem gm_1 {k : Nat} : (R.map (·.1)).getD k 0 = (R.getD k (0, 0, 0)).1 := by
  simp only [List.getD, List.getElem?_map]; cases R[k]? <;> rfl
theorem gm_2 {k : Nat} : (R.map (·.2.1)).getD k 0 = (R.getD k (0, 0, 0)).2.1 := by
  simp only [List.getD, List.getElem?_map]; cases R[k]? <;> rfl
theorem gm_3 {k : Nat} : (R.map (·.2.2)).getD k 0 = (R.getD k (0, 0, 0)).2.2 := by
  simp only [List.getD, List.getElem?_map]; cases R[k]? <;> rfl
theorem tt_3_withstands (hr : rd_ I (R.map (·.1)) (R.map (·.2.1)) (R.map (·.2.2)) f fa) (hn : R.length ≤ 320) {k j : Nat} (hk : k < R.length) (hb : bo_ (R.getD k (0, 0, 0))) (hj0 : 0 < j) (hj : j ≤ 99) (hK1 : j ≤ sy_ (R.getD k (0, 0, 0)) → K (some (.int 1)) (hp_ I J)) (hK0 : sy_ (R.getD k (0, 0, 0)) < j → K (some (.int 0)) (hp_ I J)) : cc_3_withstands [.ref 17, .int (nI k), .int (nI j)] (hp_ I J) K := by
  refine jw_Cin (Nat.le_of_ble_eq_true rfl) rfl (fun P hP => hP _ _ _ _ _ ?_)
  obtain ⟨r1, r2, r3, r4, r5⟩ := hr
  simp only [qq_3_withstands, bb_3_withstands_71, bb_3_withstands_70, bb_3_withstands_52, bb_3_withstands_48, bb_3_withstands_40, bb_3_withstands_0, xo_il, xo_ll, xo_al, xo_is, xo_ls, xo_as, xo_ic, xo_ci, xo_cl, xo_iadd, xo_isub, xo_imul, xo_iand, xo_ior, xo_ixor, xo_ishl, xo_ishr, xo_iushr, xo_idiv, xo_irem, xo_ineg, xo_ladd, xo_lsub, xo_lmul, xo_land, xo_lor, xo_lxor, xo_ldiv, xo_lrem, xo_lneg, xo_lushr, xo_lshl, xo_lshr, xo_lcmp, xo_i2l, xo_l2i, xo_i2b, xo_i2s, xo_i2c, xo_dup, xo_pop, xo_zeq, xo_ceq, xo_zne, xo_cne, xo_zlt, xo_clt, xo_zge, xo_cge, xo_zgt, xo_cgt, xo_zle, xo_cle, xo_sw, xo_ts, xo_gf, xo_pfi, xo_pfl, xo_pfz, xo_pfr, xo_iald, xo_iast, xo_zast, xo_zald, xo_alen, xo_aald, xo_gs, xo_cv, xo_cs, xo_ca, xo_obj, xo_ri, xo_rz, xo_rl, xo_ra, xo_rc, xo_rb, xo_rv, xo_new, xo_newa, xo_anew, xo_aast, xo_mmax, xo_mmin, xo_mabs, xo_mmaxL, xo_mabsL, jw_ge, jw_st, jw_st2, jw_se, jw_un, jw_kk, jw_pp, jw_l4, jw_l1, jw_ps, jw_en, jw_N, jw_C, List.map_cons, List.map_nil, ↓reduceIte, Nat.reduceSub, Nat.reduceAdd, Nat.reduceEqDiff, Nat.reduceLeDiff, Nat.le_refl, Nat.zero_le, true_and, and_true, true_or, or_true, false_or, or_false, false_imp_iff, true_imp_iff, not_true_eq_false, not_false_eq_true, nI_0, nb_1, fa_10, fa_01, hg_17_0, hg_17_1, hg_17_2, hg_17_3, hq_17_3, hg_17_4, hq_17_4, hg_17_5, hq_17_5, hg_17_6, hq_17_6, hi_17, hr_i hr20]
  refine rn_at hr20 r2 (by simpa using hn) k (by omega) ?_
  simp only [qq_3_withstands, bb_3_withstands_71, bb_3_withstands_70, bb_3_withstands_52, bb_3_withstands_48, bb_3_withstands_40, bb_3_withstands_0, xo_il, xo_ll, xo_al, xo_is, xo_ls, xo_as, xo_ic, xo_ci, xo_cl, xo_iadd, xo_isub, xo_imul, xo_iand, xo_ior, xo_ixor, xo_ishl, xo_ishr, xo_iushr, xo_idiv, xo_irem, xo_ineg, xo_ladd, xo_lsub, xo_lmul, xo_land, xo_lor, xo_lxor, xo_ldiv, xo_lrem, xo_lneg, xo_lushr, xo_lshl, xo_lshr, xo_lcmp, xo_i2l, xo_l2i, xo_i2b, xo_i2s, xo_i2c, xo_dup, xo_pop, xo_zeq, xo_ceq, xo_zne, xo_cne, xo_zlt, xo_clt, xo_zge, xo_cge, xo_zgt, xo_cgt, xo_zle, xo_cle, xo_sw, xo_ts, xo_gf, xo_pfi, xo_pfl, xo_pfz, xo_pfr, xo_iald, xo_iast, xo_zast, xo_zald, xo_alen, xo_aald, xo_gs, xo_cv, xo_cs, xo_ca, xo_obj, xo_ri, xo_rz, xo_rl, xo_ra, xo_rc, xo_rb, xo_rv, xo_new, xo_newa, xo_anew, xo_aast, xo_mmax, xo_mmin, xo_mabs, xo_mmaxL, xo_mabsL, jw_ge, jw_st, jw_st2, jw_se, jw_un, jw_kk, jw_pp, jw_l4, jw_l1, jw_ps, jw_en, jw_N, jw_C, List.map_cons, List.map_nil, ↓reduceIte, Nat.reduceSub, Nat.reduceAdd, Nat.reduceEqDiff, Nat.reduceLeDiff, Nat.le_refl, Nat.zero_le, true_and, and_true, true_or, or_true, false_or, or_false, false_imp_iff, true_imp_iff, not_true_eq_false, not_false_eq_true, nI_0, nb_1, fa_10, fa_01, hg_17_0, hg_17_1, hg_17_2, hg_17_3, hq_17_3, hg_17_4, hq_17_4, hg_17_5, hq_17_5, hg_17_6, hq_17_6, hi_17, hr_i hr22]
  refine rn_at hr22 r3 (by simpa using hn) k (by omega) ?_
  simp only [qq_3_withstands, bb_3_withstands_71, bb_3_withstands_70, bb_3_withstands_52, bb_3_withstands_48, bb_3_withstands_40, bb_3_withstands_0, xo_il, xo_ll, xo_al, xo_is, xo_ls, xo_as, xo_ic, xo_ci, xo_cl, xo_iadd, xo_isub, xo_imul, xo_iand, xo_ior, xo_ixor, xo_ishl, xo_ishr, xo_iushr, xo_idiv, xo_irem, xo_ineg, xo_ladd, xo_lsub, xo_lmul, xo_land, xo_lor, xo_lxor, xo_ldiv, xo_lrem, xo_lneg, xo_lushr, xo_lshl, xo_lshr, xo_lcmp, xo_i2l, xo_l2i, xo_i2b, xo_i2s, xo_i2c, xo_dup, xo_pop, xo_zeq, xo_ceq, xo_zne, xo_cne, xo_zlt, xo_clt, xo_zge, xo_cge, xo_zgt, xo_cgt, xo_zle, xo_cle, xo_sw, xo_ts, xo_gf, xo_pfi, xo_pfl, xo_pfz, xo_pfr, xo_iald, xo_iast, xo_zast, xo_zald, xo_alen, xo_aald, xo_gs, xo_cv, xo_cs, xo_ca, xo_obj, xo_ri, xo_rz, xo_rl, xo_ra, xo_rc, xo_rb, xo_rv, xo_new, xo_newa, xo_anew, xo_aast, xo_mmax, xo_mmin, xo_mabs, xo_mmaxL, xo_mabsL, jw_ge, jw_st, jw_st2, jw_se, jw_un, jw_kk, jw_pp, jw_l4, jw_l1, jw_ps, jw_en, jw_N, jw_C, List.map_cons, List.map_nil, ↓reduceIte, Nat.reduceSub, Nat.reduceAdd, Nat.reduceEqDiff, Nat.reduceLeDiff, Nat.le_refl, Nat.zero_le, true_and, and_true, true_or, or_true, false_or, or_false, false_imp_iff, true_imp_iff, not_true_eq_false, not_false_eq_true, nI_0, nb_1, fa_10, fa_01, hg_17_0, hg_17_1, hg_17_2, hg_17_3, hq_17_3, hg_17_4, hq_17_4, hg_17_5, hq_17_5, hg_17_6, hq_17_6, hi_17, hr_i hr18]
  refine rn_at hr18 r1 (by simpa using hn) k (by omega) ?_
  rw [gm_1, gm_2, gm_3]
  generalize R.getD k (0, 0, 0) = x at hb hK1 hK0 ⊢
  obtain ⟨b, g, t⟩ := x
  obtain ⟨⟨g1, g2⟩, ⟨t1, t2⟩, hb⟩ := hb
  simp only at g1 g2 t1 t2 hb ⊢
  have eg : (nI g).toInt = g := nI_toInt (by omega)
  have et : (nI t).toInt = t := nI_toInt (by omega)
  have ej : (nI j).toInt = j := nI_toInt (by omega)
  have e4 : (4 : Int32).toInt = 4 := rfl
  have e3 : (3 : Int32).toInt = 3 := rfl
  have s1 : (nI g - nI j).toInt = g - j := by rw [ti_sub] <;> omega
  have s2 : (nI t + nI j).toInt = t + j := by rw [ti_add] <;> omega
  have s3 : (nI g + nI j).toInt = g + j := by rw [ti_add] <;> omega
  have s4 : (nI t - nI j).toInt = t - j := by rw [ti_sub] <;> omega
  have m1 : ((4 : Int32) * (nI g - nI j)).toInt = 4 * (g - j) := by rw [ti_mul] <;> rw [e4, s1] <;> omega
  have m2 : ((3 : Int32) * (nI t + nI j)).toInt = 3 * (t + j) := by rw [ti_mul] <;> rw [e3, s2] <;> omega
  have m3 : ((4 : Int32) * (nI g + nI j)).toInt = 4 * (g + j) := by rw [ti_mul] <;> rw [e4, s3] <;> omega
  have m4 : ((3 : Int32) * (nI t - nI j)).toInt = 3 * (t - j) := by rw [ti_mul] <;> rw [e3, s4] <;> omega
  rcases hb with ⟨rfl, hb⟩ | ⟨rfl, hb⟩
  · simp only [qq_3_withstands, bb_3_withstands_71, bb_3_withstands_70, bb_3_withstands_52, bb_3_withstands_48, bb_3_withstands_40, bb_3_withstands_0, xo_il, xo_ll, xo_al, xo_is, xo_ls, xo_as, xo_ic, xo_ci, xo_cl, xo_iadd, xo_isub, xo_imul, xo_iand, xo_ior, xo_ixor, xo_ishl, xo_ishr, xo_iushr, xo_idiv, xo_irem, xo_ineg, xo_ladd, xo_lsub, xo_lmul, xo_land, xo_lor, xo_lxor, xo_ldiv, xo_lrem, xo_lneg, xo_lushr, xo_lshl, xo_lshr, xo_lcmp, xo_i2l, xo_l2i, xo_i2b, xo_i2s, xo_i2c, xo_dup, xo_pop, xo_zeq, xo_ceq, xo_zne, xo_cne, xo_zlt, xo_clt, xo_zge, xo_cge, xo_zgt, xo_cgt, xo_zle, xo_cle, xo_sw, xo_ts, xo_gf, xo_pfi, xo_pfl, xo_pfz, xo_pfr, xo_iald, xo_iast, xo_zast, xo_zald, xo_alen, xo_aald, xo_gs, xo_cv, xo_cs, xo_ca, xo_obj, xo_ri, xo_rz, xo_rl, xo_ra, xo_rc, xo_rb, xo_rv, xo_new, xo_newa, xo_anew, xo_aast, xo_mmax, xo_mmin, xo_mabs, xo_mmaxL, xo_mabsL, jw_ge, jw_st, jw_st2, jw_se, jw_un, jw_kk, jw_pp, jw_l4, jw_l1, jw_ps, jw_en, jw_N, jw_C, List.map_cons, List.map_nil, ↓reduceIte, Nat.reduceSub, Nat.reduceAdd, Nat.reduceEqDiff, Nat.reduceLeDiff, Nat.le_refl, Nat.zero_le, true_and, and_true, true_or, or_true, false_or, or_false, false_imp_iff, true_imp_iff, not_true_eq_false, not_false_eq_true, nI_0, nb_1, fa_10, fa_01]
    simp only [sy_, if_true] at hK1 hK0
    rw [Int32.le_iff_toInt_le, m1, m2]
    exact ⟨fun h => hK0 (by omega), fun h => hK1 (by omega)⟩
  · simp only [qq_3_withstands, bb_3_withstands_71, bb_3_withstands_70, bb_3_withstands_52, bb_3_withstands_48, bb_3_withstands_40, bb_3_withstands_0, xo_il, xo_ll, xo_al, xo_is, xo_ls, xo_as, xo_ic, xo_ci, xo_cl, xo_iadd, xo_isub, xo_imul, xo_iand, xo_ior, xo_ixor, xo_ishl, xo_ishr, xo_iushr, xo_idiv, xo_irem, xo_ineg, xo_ladd, xo_lsub, xo_lmul, xo_land, xo_lor, xo_lxor, xo_ldiv, xo_lrem, xo_lneg, xo_lushr, xo_lshl, xo_lshr, xo_lcmp, xo_i2l, xo_l2i, xo_i2b, xo_i2s, xo_i2c, xo_dup, xo_pop, xo_zeq, xo_ceq, xo_zne, xo_cne, xo_zlt, xo_clt, xo_zge, xo_cge, xo_zgt, xo_cgt, xo_zle, xo_cle, xo_sw, xo_ts, xo_gf, xo_pfi, xo_pfl, xo_pfz, xo_pfr, xo_iald, xo_iast, xo_zast, xo_zald, xo_alen, xo_aald, xo_gs, xo_cv, xo_cs, xo_ca, xo_obj, xo_ri, xo_rz, xo_rl, xo_ra, xo_rc, xo_rb, xo_rv, xo_new, xo_newa, xo_anew, xo_aast, xo_mmax, xo_mmin, xo_mabs, xo_mmaxL, xo_mabsL, jw_ge, jw_st, jw_st2, jw_se, jw_un, jw_kk, jw_pp, jw_l4, jw_l1, jw_ps, jw_en, jw_N, jw_C, List.map_cons, List.map_nil, ↓reduceIte, Nat.reduceSub, Nat.reduceAdd, Nat.reduceEqDiff, Nat.reduceLeDiff, Nat.le_refl, Nat.zero_le, true_and, and_true, true_or, or_true, false_or, or_false, false_imp_iff, true_imp_iff, not_true_eq_false, not_false_eq_true, nI_0, nb_1, fa_10, fa_01]
    simp only [sy_, Nat.one_ne_zero, if_false] at hK1 hK0
    rw [Int32.lt_iff_toInt_lt, m3, m4]
    exact ⟨fun h => hK0 (by omega), fun h => hK1 (by omega)⟩
/-- the least sway of all bits -/
def sm_ (R : List (Nat × Nat × Nat)) (j : Nat) : Nat := R.foldl (fun a x => min a (sy_ x)) j
theorem tt_3_harmlessSway (hr : rd_ I (R.map (·.1)) (R.map (·.2.1)) (R.map (·.2.2)) f fa) (hn : R.length ≤ 320) (hb : ∀ x ∈ R.tail, bo_ x) (hK : K (some (.int (nI (sm_ R.tail 99)))) (hp_ I J)) : cc_3_harmlessSway [.ref 17] (hp_ I J) K := by
  refine jw_Cin (Nat.le_of_ble_eq_true rfl) rfl (fun P hP => ?_)
  have htl : ∀ k, 1 ≤ k → k < R.length → R.getD k (0, 0, 0) ∈ R.tail := by
    intro k h1 h2
    obtain ⟨k2, rfl⟩ : ∃ k2, k = k2 + 1 := ⟨k - 1, by omega⟩
    cases R with
    | nil => simp at h2
    | cons y l =>
      have h3 : k2 < l.length := by simpa using h2
      simp only [List.getD, List.getElem?_cons_succ, List.tail_cons, List.getElem?_eq_getElem h3, Option.getD_some]
      exact List.getElem_mem h3
  have hdrop : ∀ k, 1 ≤ k → k < R.length → R.tail.drop (k - 1) = R.getD k (0, 0, 0) :: R.tail.drop k := by
    intro k h1 h2
    obtain ⟨k2, rfl⟩ : ∃ k2, k = k2 + 1 := ⟨k - 1, by omega⟩
    cases R with
    | nil => simp at h2
    | cons y l =>
      have h3 : k2 < l.length := by simpa using h2
      simp only [List.tail_cons, Nat.add_sub_cancel, List.getD, List.getElem?_cons_succ, List.getElem?_eq_getElem h3, Option.getD_some]
      exact List.drop_eq_getElem_cons h3
  have lp : ∀ (m k j : Nat), R.length = k + m → 1 ≤ k → j ≤ 99 → sm_ (R.tail.drop (k - 1)) j = sm_ R.tail 99 → P 5 [.ref 17, .int (nI j), .int (nI k)] [] (hp_ I J) (0, 0) := by
    intro m
    induction m with
    | zero =>
      intro k j hk h1 hj he
      have hle : nI (R.map (·.1)).length ≤ nI k := by rw [List.length_map]; exact (nI_leI (by omega) (by omega)).mpr (by omega)
      refine hP _ _ _ _ _ ?_
      simp only [qq_3_harmlessSway, bb_3_harmlessSway_41, bb_3_harmlessSway_35, bb_3_harmlessSway_16, bb_3_harmlessSway_5, bb_3_harmlessSway_0, xo_il, xo_ll, xo_al, xo_is, xo_ls, xo_as, xo_ic, xo_ci, xo_cl, xo_iadd, xo_isub, xo_imul, xo_iand, xo_ior, xo_ixor, xo_ishl, xo_ishr, xo_iushr, xo_idiv, xo_irem, xo_ineg, xo_ladd, xo_lsub, xo_lmul, xo_land, xo_lor, xo_lxor, xo_ldiv, xo_lrem, xo_lneg, xo_lushr, xo_lshl, xo_lshr, xo_lcmp, xo_i2l, xo_l2i, xo_i2b, xo_i2s, xo_i2c, xo_dup, xo_pop, xo_zeq, xo_ceq, xo_zne, xo_cne, xo_zlt, xo_clt, xo_zge, xo_cge, xo_zgt, xo_cgt, xo_zle, xo_cle, xo_sw, xo_ts, xo_gf, xo_pfi, xo_pfl, xo_pfz, xo_pfr, xo_iald, xo_iast, xo_zast, xo_zald, xo_alen, xo_aald, xo_gs, xo_cv, xo_cs, xo_ca, xo_obj, xo_ri, xo_rz, xo_rl, xo_ra, xo_rc, xo_rb, xo_rv, xo_new, xo_newa, xo_anew, xo_aast, xo_mmax, xo_mmin, xo_mabs, xo_mmaxL, xo_mabsL, jw_ge, jw_st, jw_st2, jw_se, jw_un, jw_kk, jw_pp, jw_l4, jw_l1, jw_ps, jw_en, jw_N, jw_C, List.map_cons, List.map_nil, ↓reduceIte, Nat.reduceSub, Nat.reduceAdd, Nat.reduceEqDiff, Nat.reduceLeDiff, Nat.le_refl, Nat.zero_le, true_and, and_true, true_or, or_true, false_or, or_false, false_imp_iff, true_imp_iff, not_true_eq_false, not_false_eq_true, nI_0, nb_1, fa_10, fa_01, hg_17_0, hg_17_1, hg_17_2, hg_17_3, hq_17_3, hg_17_4, hq_17_4, hg_17_5, hq_17_5, hg_17_6, hq_17_6, hi_17, hr_i hr18]
      refine rn_size hr18 hr.1 ?_
      simp only [qq_3_harmlessSway, bb_3_harmlessSway_41, bb_3_harmlessSway_35, bb_3_harmlessSway_16, bb_3_harmlessSway_5, bb_3_harmlessSway_0, xo_il, xo_ll, xo_al, xo_is, xo_ls, xo_as, xo_ic, xo_ci, xo_cl, xo_iadd, xo_isub, xo_imul, xo_iand, xo_ior, xo_ixor, xo_ishl, xo_ishr, xo_iushr, xo_idiv, xo_irem, xo_ineg, xo_ladd, xo_lsub, xo_lmul, xo_land, xo_lor, xo_lxor, xo_ldiv, xo_lrem, xo_lneg, xo_lushr, xo_lshl, xo_lshr, xo_lcmp, xo_i2l, xo_l2i, xo_i2b, xo_i2s, xo_i2c, xo_dup, xo_pop, xo_zeq, xo_ceq, xo_zne, xo_cne, xo_zlt, xo_clt, xo_zge, xo_cge, xo_zgt, xo_cgt, xo_zle, xo_cle, xo_sw, xo_ts, xo_gf, xo_pfi, xo_pfl, xo_pfz, xo_pfr, xo_iald, xo_iast, xo_zast, xo_zald, xo_alen, xo_aald, xo_gs, xo_cv, xo_cs, xo_ca, xo_obj, xo_ri, xo_rz, xo_rl, xo_ra, xo_rc, xo_rb, xo_rv, xo_new, xo_newa, xo_anew, xo_aast, xo_mmax, xo_mmin, xo_mabs, xo_mmaxL, xo_mabsL, jw_ge, jw_st, jw_st2, jw_se, jw_un, jw_kk, jw_pp, jw_l4, jw_l1, jw_ps, jw_en, jw_N, jw_C, List.map_cons, List.map_nil, ↓reduceIte, Nat.reduceSub, Nat.reduceAdd, Nat.reduceEqDiff, Nat.reduceLeDiff, Nat.le_refl, Nat.zero_le, true_and, and_true, true_or, or_true, false_or, or_false, false_imp_iff, true_imp_iff, not_true_eq_false, not_false_eq_true, nI_0, nb_1, fa_10, fa_01, hle]
      rw [List.drop_eq_nil_of_le (by simp; omega)] at he
      rw [show nI j = nI (sm_ R.tail 99) by rw [← he]; rfl]
      exact hK
    | succ m ih =>
      intro k j hk h1 hj he
      have hle : ¬ nI (R.map (·.1)).length ≤ nI k := by rw [List.length_map]; exact (nu_gt (by omega) (by omega)).mpr (by omega)
      rw [hdrop k h1 (by omega)] at he
      have hbk := hb _ (htl k h1 (by omega))
      have lp2 : ∀ j, j ≤ 99 → sm_ (R.tail.drop k) (min j (sy_ (R.getD k (0, 0, 0)))) = sm_ R.tail 99 → P 16 [.ref 17, .int (nI j), .int (nI k)] [] (hp_ I J) (0, 0) := by
        intro j
        induction j with
        | zero =>
          intro _ he2
          refine hP _ _ _ _ _ ?_
          simp only [qq_3_harmlessSway, bb_3_harmlessSway_41, bb_3_harmlessSway_35, bb_3_harmlessSway_16, bb_3_harmlessSway_5, bb_3_harmlessSway_0, xo_il, xo_ll, xo_al, xo_is, xo_ls, xo_as, xo_ic, xo_ci, xo_cl, xo_iadd, xo_isub, xo_imul, xo_iand, xo_ior, xo_ixor, xo_ishl, xo_ishr, xo_iushr, xo_idiv, xo_irem, xo_ineg, xo_ladd, xo_lsub, xo_lmul, xo_land, xo_lor, xo_lxor, xo_ldiv, xo_lrem, xo_lneg, xo_lushr, xo_lshl, xo_lshr, xo_lcmp, xo_i2l, xo_l2i, xo_i2b, xo_i2s, xo_i2c, xo_dup, xo_pop, xo_zeq, xo_ceq, xo_zne, xo_cne, xo_zlt, xo_clt, xo_zge, xo_cge, xo_zgt, xo_cgt, xo_zle, xo_cle, xo_sw, xo_ts, xo_gf, xo_pfi, xo_pfl, xo_pfz, xo_pfr, xo_iald, xo_iast, xo_zast, xo_zald, xo_alen, xo_aald, xo_gs, xo_cv, xo_cs, xo_ca, xo_obj, xo_ri, xo_rz, xo_rl, xo_ra, xo_rc, xo_rb, xo_rv, xo_new, xo_newa, xo_anew, xo_aast, xo_mmax, xo_mmin, xo_mabs, xo_mmaxL, xo_mabsL, jw_ge, jw_st, jw_st2, jw_se, jw_un, jw_kk, jw_pp, jw_l4, jw_l1, jw_ps, jw_en, jw_N, jw_C, List.map_cons, List.map_nil, ↓reduceIte, Nat.reduceSub, Nat.reduceAdd, Nat.reduceEqDiff, Nat.reduceLeDiff, Nat.le_refl, Nat.zero_le, true_and, and_true, true_or, or_true, false_or, or_false, false_imp_iff, true_imp_iff, not_true_eq_false, not_false_eq_true, nI_0, nb_1, fa_10, fa_01, show ((0 : Int32) ≤ 0) = True from eq_true (by decide), nI_1]
          refine ih (k + 1) 0 (by omega) (by omega) (by omega) ?_
          rw [Nat.zero_min] at he2
          simpa using he2
        | succ j ihj =>
          intro hj2 he2
          have h0 : ¬ nI (j + 1) ≤ 0 := nI_nle (by omega) (by omega)
          refine hP _ _ _ _ _ ?_
          simp only [qq_3_harmlessSway, bb_3_harmlessSway_41, bb_3_harmlessSway_35, bb_3_harmlessSway_16, bb_3_harmlessSway_5, bb_3_harmlessSway_0, xo_il, xo_ll, xo_al, xo_is, xo_ls, xo_as, xo_ic, xo_ci, xo_cl, xo_iadd, xo_isub, xo_imul, xo_iand, xo_ior, xo_ixor, xo_ishl, xo_ishr, xo_iushr, xo_idiv, xo_irem, xo_ineg, xo_ladd, xo_lsub, xo_lmul, xo_land, xo_lor, xo_lxor, xo_ldiv, xo_lrem, xo_lneg, xo_lushr, xo_lshl, xo_lshr, xo_lcmp, xo_i2l, xo_l2i, xo_i2b, xo_i2s, xo_i2c, xo_dup, xo_pop, xo_zeq, xo_ceq, xo_zne, xo_cne, xo_zlt, xo_clt, xo_zge, xo_cge, xo_zgt, xo_cgt, xo_zle, xo_cle, xo_sw, xo_ts, xo_gf, xo_pfi, xo_pfl, xo_pfz, xo_pfr, xo_iald, xo_iast, xo_zast, xo_zald, xo_alen, xo_aald, xo_gs, xo_cv, xo_cs, xo_ca, xo_obj, xo_ri, xo_rz, xo_rl, xo_ra, xo_rc, xo_rb, xo_rv, xo_new, xo_newa, xo_anew, xo_aast, xo_mmax, xo_mmin, xo_mabs, xo_mmaxL, xo_mabsL, jw_ge, jw_st, jw_st2, jw_se, jw_un, jw_kk, jw_pp, jw_l4, jw_l1, jw_ps, jw_en, jw_N, jw_C, List.map_cons, List.map_nil, ↓reduceIte, Nat.reduceSub, Nat.reduceAdd, Nat.reduceEqDiff, Nat.reduceLeDiff, Nat.le_refl, Nat.zero_le, true_and, and_true, true_or, or_true, false_or, or_false, false_imp_iff, true_imp_iff, not_true_eq_false, not_false_eq_true, nI_0, nb_1, fa_10, fa_01, h0, hg_17_0, hg_17_1, hg_17_2, hg_17_3, hq_17_3, hg_17_4, hq_17_4, hg_17_5, hq_17_5, hg_17_6, hq_17_6, hi_17]
          refine tt_3_withstands hr hn (by omega) hbk (by omega) hj2 (fun hs => ?_) (fun hs => ?_)
          · simp only [qq_3_harmlessSway, bb_3_harmlessSway_41, bb_3_harmlessSway_35, bb_3_harmlessSway_16, bb_3_harmlessSway_5, bb_3_harmlessSway_0, xo_il, xo_ll, xo_al, xo_is, xo_ls, xo_as, xo_ic, xo_ci, xo_cl, xo_iadd, xo_isub, xo_imul, xo_iand, xo_ior, xo_ixor, xo_ishl, xo_ishr, xo_iushr, xo_idiv, xo_irem, xo_ineg, xo_ladd, xo_lsub, xo_lmul, xo_land, xo_lor, xo_lxor, xo_ldiv, xo_lrem, xo_lneg, xo_lushr, xo_lshl, xo_lshr, xo_lcmp, xo_i2l, xo_l2i, xo_i2b, xo_i2s, xo_i2c, xo_dup, xo_pop, xo_zeq, xo_ceq, xo_zne, xo_cne, xo_zlt, xo_clt, xo_zge, xo_cge, xo_zgt, xo_cgt, xo_zle, xo_cle, xo_sw, xo_ts, xo_gf, xo_pfi, xo_pfl, xo_pfz, xo_pfr, xo_iald, xo_iast, xo_zast, xo_zald, xo_alen, xo_aald, xo_gs, xo_cv, xo_cs, xo_ca, xo_obj, xo_ri, xo_rz, xo_rl, xo_ra, xo_rc, xo_rb, xo_rv, xo_new, xo_newa, xo_anew, xo_aast, xo_mmax, xo_mmin, xo_mabs, xo_mmaxL, xo_mabsL, jw_ge, jw_st, jw_st2, jw_se, jw_un, jw_kk, jw_pp, jw_l4, jw_l1, jw_ps, jw_en, jw_N, jw_C, List.map_cons, List.map_nil, ↓reduceIte, Nat.reduceSub, Nat.reduceAdd, Nat.reduceEqDiff, Nat.reduceLeDiff, Nat.le_refl, Nat.zero_le, true_and, and_true, true_or, or_true, false_or, or_false, false_imp_iff, true_imp_iff, not_true_eq_false, not_false_eq_true, nI_0, nb_1, fa_10, fa_01, nI_1]
            rw [Nat.min_eq_left hs] at he2
            exact ih (k + 1) (j + 1) (by omega) (by omega) hj2 (by simpa using he2)
          · simp only [qq_3_harmlessSway, bb_3_harmlessSway_41, bb_3_harmlessSway_35, bb_3_harmlessSway_16, bb_3_harmlessSway_5, bb_3_harmlessSway_0, xo_il, xo_ll, xo_al, xo_is, xo_ls, xo_as, xo_ic, xo_ci, xo_cl, xo_iadd, xo_isub, xo_imul, xo_iand, xo_ior, xo_ixor, xo_ishl, xo_ishr, xo_iushr, xo_idiv, xo_irem, xo_ineg, xo_ladd, xo_lsub, xo_lmul, xo_land, xo_lor, xo_lxor, xo_ldiv, xo_lrem, xo_lneg, xo_lushr, xo_lshl, xo_lshr, xo_lcmp, xo_i2l, xo_l2i, xo_i2b, xo_i2s, xo_i2c, xo_dup, xo_pop, xo_zeq, xo_ceq, xo_zne, xo_cne, xo_zlt, xo_clt, xo_zge, xo_cge, xo_zgt, xo_cgt, xo_zle, xo_cle, xo_sw, xo_ts, xo_gf, xo_pfi, xo_pfl, xo_pfz, xo_pfr, xo_iald, xo_iast, xo_zast, xo_zald, xo_alen, xo_aald, xo_gs, xo_cv, xo_cs, xo_ca, xo_obj, xo_ri, xo_rz, xo_rl, xo_ra, xo_rc, xo_rb, xo_rv, xo_new, xo_newa, xo_anew, xo_aast, xo_mmax, xo_mmin, xo_mabs, xo_mmaxL, xo_mabsL, jw_ge, jw_st, jw_st2, jw_se, jw_un, jw_kk, jw_pp, jw_l4, jw_l1, jw_ps, jw_en, jw_N, jw_C, List.map_cons, List.map_nil, ↓reduceIte, Nat.reduceSub, Nat.reduceAdd, Nat.reduceEqDiff, Nat.reduceLeDiff, Nat.le_refl, Nat.zero_le, true_and, and_true, true_or, or_true, false_or, or_false, false_imp_iff, true_imp_iff, not_true_eq_false, not_false_eq_true, nI_0, nb_1, fa_10, fa_01, pk_m1]
            rw [show min (j + 1) (sy_ (R.getD k (0, 0, 0))) = min j (sy_ (R.getD k (0, 0, 0))) by omega] at he2
            exact ihj (by omega) he2
      refine hP _ _ _ _ _ ?_
      simp only [qq_3_harmlessSway, bb_3_harmlessSway_41, bb_3_harmlessSway_35, bb_3_harmlessSway_16, bb_3_harmlessSway_5, bb_3_harmlessSway_0, xo_il, xo_ll, xo_al, xo_is, xo_ls, xo_as, xo_ic, xo_ci, xo_cl, xo_iadd, xo_isub, xo_imul, xo_iand, xo_ior, xo_ixor, xo_ishl, xo_ishr, xo_iushr, xo_idiv, xo_irem, xo_ineg, xo_ladd, xo_lsub, xo_lmul, xo_land, xo_lor, xo_lxor, xo_ldiv, xo_lrem, xo_lneg, xo_lushr, xo_lshl, xo_lshr, xo_lcmp, xo_i2l, xo_l2i, xo_i2b, xo_i2s, xo_i2c, xo_dup, xo_pop, xo_zeq, xo_ceq, xo_zne, xo_cne, xo_zlt, xo_clt, xo_zge, xo_cge, xo_zgt, xo_cgt, xo_zle, xo_cle, xo_sw, xo_ts, xo_gf, xo_pfi, xo_pfl, xo_pfz, xo_pfr, xo_iald, xo_iast, xo_zast, xo_zald, xo_alen, xo_aald, xo_gs, xo_cv, xo_cs, xo_ca, xo_obj, xo_ri, xo_rz, xo_rl, xo_ra, xo_rc, xo_rb, xo_rv, xo_new, xo_newa, xo_anew, xo_aast, xo_mmax, xo_mmin, xo_mabs, xo_mmaxL, xo_mabsL, jw_ge, jw_st, jw_st2, jw_se, jw_un, jw_kk, jw_pp, jw_l4, jw_l1, jw_ps, jw_en, jw_N, jw_C, List.map_cons, List.map_nil, ↓reduceIte, Nat.reduceSub, Nat.reduceAdd, Nat.reduceEqDiff, Nat.reduceLeDiff, Nat.le_refl, Nat.zero_le, true_and, and_true, true_or, or_true, false_or, or_false, false_imp_iff, true_imp_iff, not_true_eq_false, not_false_eq_true, nI_0, nb_1, fa_10, fa_01, hg_17_0, hg_17_1, hg_17_2, hg_17_3, hq_17_3, hg_17_4, hq_17_4, hg_17_5, hq_17_5, hg_17_6, hq_17_6, hi_17, hr_i hr18]
      refine rn_size hr18 hr.1 ?_
      simp only [qq_3_harmlessSway, bb_3_harmlessSway_41, bb_3_harmlessSway_35, bb_3_harmlessSway_16, bb_3_harmlessSway_5, bb_3_harmlessSway_0, xo_il, xo_ll, xo_al, xo_is, xo_ls, xo_as, xo_ic, xo_ci, xo_cl, xo_iadd, xo_isub, xo_imul, xo_iand, xo_ior, xo_ixor, xo_ishl, xo_ishr, xo_iushr, xo_idiv, xo_irem, xo_ineg, xo_ladd, xo_lsub, xo_lmul, xo_land, xo_lor, xo_lxor, xo_ldiv, xo_lrem, xo_lneg, xo_lushr, xo_lshl, xo_lshr, xo_lcmp, xo_i2l, xo_l2i, xo_i2b, xo_i2s, xo_i2c, xo_dup, xo_pop, xo_zeq, xo_ceq, xo_zne, xo_cne, xo_zlt, xo_clt, xo_zge, xo_cge, xo_zgt, xo_cgt, xo_zle, xo_cle, xo_sw, xo_ts, xo_gf, xo_pfi, xo_pfl, xo_pfz, xo_pfr, xo_iald, xo_iast, xo_zast, xo_zald, xo_alen, xo_aald, xo_gs, xo_cv, xo_cs, xo_ca, xo_obj, xo_ri, xo_rz, xo_rl, xo_ra, xo_rc, xo_rb, xo_rv, xo_new, xo_newa, xo_anew, xo_aast, xo_mmax, xo_mmin, xo_mabs, xo_mmaxL, xo_mabsL, jw_ge, jw_st, jw_st2, jw_se, jw_un, jw_kk, jw_pp, jw_l4, jw_l1, jw_ps, jw_en, jw_N, jw_C, List.map_cons, List.map_nil, ↓reduceIte, Nat.reduceSub, Nat.reduceAdd, Nat.reduceEqDiff, Nat.reduceLeDiff, Nat.le_refl, Nat.zero_le, true_and, and_true, true_or, or_true, false_or, or_false, false_imp_iff, true_imp_iff, not_true_eq_false, not_false_eq_true, nI_0, nb_1, fa_10, fa_01, hle]
      exact lp2 j hj he
  refine hP _ _ _ _ _ ?_
  simp only [qq_3_harmlessSway, bb_3_harmlessSway_41, bb_3_harmlessSway_35, bb_3_harmlessSway_0, xo_il, xo_ll, xo_al, xo_is, xo_ls, xo_as, xo_ic, xo_ci, xo_cl, xo_iadd, xo_isub, xo_imul, xo_iand, xo_ior, xo_ixor, xo_ishl, xo_ishr, xo_iushr, xo_idiv, xo_irem, xo_ineg, xo_ladd, xo_lsub, xo_lmul, xo_land, xo_lor, xo_lxor, xo_ldiv, xo_lrem, xo_lneg, xo_lushr, xo_lshl, xo_lshr, xo_lcmp, xo_i2l, xo_l2i, xo_i2b, xo_i2s, xo_i2c, xo_dup, xo_pop, xo_zeq, xo_ceq, xo_zne, xo_cne, xo_zlt, xo_clt, xo_zge, xo_cge, xo_zgt, xo_cgt, xo_zle, xo_cle, xo_sw, xo_ts, xo_gf, xo_pfi, xo_pfl, xo_pfz, xo_pfr, xo_iald, xo_iast, xo_zast, xo_zald, xo_alen, xo_aald, xo_gs, xo_cv, xo_cs, xo_ca, xo_obj, xo_ri, xo_rz, xo_rl, xo_ra, xo_rc, xo_rb, xo_rv, xo_new, xo_newa, xo_anew, xo_aast, xo_mmax, xo_mmin, xo_mabs, xo_mmaxL, xo_mabsL, jw_ge, jw_st, jw_st2, jw_se, jw_un, jw_kk, jw_pp, jw_l4, jw_l1, jw_ps, jw_en, jw_N, jw_C, List.map_cons, List.map_nil, ↓reduceIte, Nat.reduceSub, Nat.reduceAdd, Nat.reduceEqDiff, Nat.reduceLeDiff, Nat.le_refl, Nat.zero_le, true_and, and_true, true_or, or_true, false_or, or_false, false_imp_iff, true_imp_iff, not_true_eq_false, not_false_eq_true, nI_0, nb_1, fa_10, fa_01]
  rcases Nat.lt_or_ge R.length 1 with h0 | h0
  · -- no bit at all: the loop ends at once
    have hR : R = [] := List.length_eq_zero_iff.mp (by omega)
    subst hR
    refine hP _ _ _ _ _ ?_
    simp only [qq_3_harmlessSway, bb_3_harmlessSway_41, bb_3_harmlessSway_35, bb_3_harmlessSway_16, bb_3_harmlessSway_5, bb_3_harmlessSway_0, xo_il, xo_ll, xo_al, xo_is, xo_ls, xo_as, xo_ic, xo_ci, xo_cl, xo_iadd, xo_isub, xo_imul, xo_iand, xo_ior, xo_ixor, xo_ishl, xo_ishr, xo_iushr, xo_idiv, xo_irem, xo_ineg, xo_ladd, xo_lsub, xo_lmul, xo_land, xo_lor, xo_lxor, xo_ldiv, xo_lrem, xo_lneg, xo_lushr, xo_lshl, xo_lshr, xo_lcmp, xo_i2l, xo_l2i, xo_i2b, xo_i2s, xo_i2c, xo_dup, xo_pop, xo_zeq, xo_ceq, xo_zne, xo_cne, xo_zlt, xo_clt, xo_zge, xo_cge, xo_zgt, xo_cgt, xo_zle, xo_cle, xo_sw, xo_ts, xo_gf, xo_pfi, xo_pfl, xo_pfz, xo_pfr, xo_iald, xo_iast, xo_zast, xo_zald, xo_alen, xo_aald, xo_gs, xo_cv, xo_cs, xo_ca, xo_obj, xo_ri, xo_rz, xo_rl, xo_ra, xo_rc, xo_rb, xo_rv, xo_new, xo_newa, xo_anew, xo_aast, xo_mmax, xo_mmin, xo_mabs, xo_mmaxL, xo_mabsL, jw_ge, jw_st, jw_st2, jw_se, jw_un, jw_kk, jw_pp, jw_l4, jw_l1, jw_ps, jw_en, jw_N, jw_C, List.map_cons, List.map_nil, ↓reduceIte, Nat.reduceSub, Nat.reduceAdd, Nat.reduceEqDiff, Nat.reduceLeDiff, Nat.le_refl, Nat.zero_le, true_and, and_true, true_or, or_true, false_or, or_false, false_imp_iff, true_imp_iff, not_true_eq_false, not_false_eq_true, nI_0, nb_1, fa_10, fa_01, hg_17_0, hg_17_1, hg_17_2, hg_17_3, hq_17_3, hg_17_4, hq_17_4, hg_17_5, hq_17_5, hg_17_6, hq_17_6, hi_17, hr_i hr18]
    refine rn_size hr18 hr.1 ?_
    simp only [qq_3_harmlessSway, bb_3_harmlessSway_41, bb_3_harmlessSway_35, bb_3_harmlessSway_16, bb_3_harmlessSway_5, bb_3_harmlessSway_0, xo_il, xo_ll, xo_al, xo_is, xo_ls, xo_as, xo_ic, xo_ci, xo_cl, xo_iadd, xo_isub, xo_imul, xo_iand, xo_ior, xo_ixor, xo_ishl, xo_ishr, xo_iushr, xo_idiv, xo_irem, xo_ineg, xo_ladd, xo_lsub, xo_lmul, xo_land, xo_lor, xo_lxor, xo_ldiv, xo_lrem, xo_lneg, xo_lushr, xo_lshl, xo_lshr, xo_lcmp, xo_i2l, xo_l2i, xo_i2b, xo_i2s, xo_i2c, xo_dup, xo_pop, xo_zeq, xo_ceq, xo_zne, xo_cne, xo_zlt, xo_clt, xo_zge, xo_cge, xo_zgt, xo_cgt, xo_zle, xo_cle, xo_sw, xo_ts, xo_gf, xo_pfi, xo_pfl, xo_pfz, xo_pfr, xo_iald, xo_iast, xo_zast, xo_zald, xo_alen, xo_aald, xo_gs, xo_cv, xo_cs, xo_ca, xo_obj, xo_ri, xo_rz, xo_rl, xo_ra, xo_rc, xo_rb, xo_rv, xo_new, xo_newa, xo_anew, xo_aast, xo_mmax, xo_mmin, xo_mabs, xo_mmaxL, xo_mabsL, jw_ge, jw_st, jw_st2, jw_se, jw_un, jw_kk, jw_pp, jw_l4, jw_l1, jw_ps, jw_en, jw_N, jw_C, List.map_cons, List.map_nil, ↓reduceIte, Nat.reduceSub, Nat.reduceAdd, Nat.reduceEqDiff, Nat.reduceLeDiff, Nat.le_refl, Nat.zero_le, true_and, and_true, true_or, or_true, false_or, or_false, false_imp_iff, true_imp_iff, not_true_eq_false, not_false_eq_true, nI_0, nb_1, fa_10, fa_01]
    exact ⟨fun _ => hK, fun h => absurd (show nI 0 ≤ 1 by decide) h⟩
  · exact lp (R.length - 1) 1 99 (by omega) (by omega) (by omega) rfl
end SY
