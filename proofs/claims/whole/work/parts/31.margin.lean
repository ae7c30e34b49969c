/-! the margin -/
theorem tl_sub {a b : Int64} (h1 : -9223372036854775808 ≤ a.toInt - b.toInt) (h2 : a.toInt - b.toInt < 9223372036854775808) : (a - b).toInt = a.toInt - b.toInt := by
  rw [Int64.toInt_sub, Int.bmod_eq_of_le] <;> omega
theorem tl_neg {a : Int64} (h1 : -9223372036854775808 ≤ -a.toInt) (h2 : -a.toInt < 9223372036854775808) : (-a).toInt = -a.toInt := by
  rw [Int64.toInt_neg, Int.bmod_eq_of_le] <;> omega
theorem dl_t {a b : Nat} (ha : a < 2 ^ 62) (hb : b < 2 ^ 62) : (lN a - lN b).toInt = (a : Int) - b := by
  have e1 := pk_lT (n := a) (by omega)
  have e2 := pk_lT (n := b) (by omega)
  rw [tl_sub] <;> omega
theorem dl_1 {a b : Nat} (ha : a < 2 ^ 62) (hb : b < 2 ^ 62) : (if 0 < lN a - lN b then lN a - lN b else -(lN a - lN b)) = lN (dist_ a b) := by
  have e := dl_t ha hb
  have e0 : (0 : Int64).toInt = 0 := rfl
  have e3 : (lN (dist_ a b)).toInt = dist_ a b := pk_lT (by unfold dist_; omega)
  unfold dist_ at e3 ⊢
  apply Int64.toInt_inj.mp
  rw [e3]
  split
  · rename_i h; rw [Int64.lt_iff_toInt_lt] at h; omega
  · rename_i h; rw [Int64.lt_iff_toInt_lt] at h; rw [tl_neg] <;> omega
theorem dl_2 {a b : Nat} (ha : a < 2 ^ 62) (hb : b < 2 ^ 62) : (if 0 ≤ lN a - lN b then lN a - lN b else -(lN a - lN b)) = lN (dist_ a b) := by
  have e := dl_t ha hb
  have e0 : (0 : Int64).toInt = 0 := rfl
  have e3 : (lN (dist_ a b)).toInt = dist_ a b := pk_lT (by unfold dist_; omega)
  unfold dist_ at e3 ⊢
  apply Int64.toInt_inj.mp
  rw [e3]
  split
  · rename_i h; rw [Int64.le_iff_toInt_le] at h; omega
  · rename_i h; rw [Int64.le_iff_toInt_le] at h; rw [tl_neg] <;> omega
/-- the least margin so far, and one bit more -/
def mg_ (p : Nat × Nat) (x : Nat × Nat × Nat) : Nat × Nat := if p.2 = 0 ∨ dist_ (4 * x.2.1) (3 * x.2.2) * p.2 < p.1 * (4 * x.2.2) then (dist_ (4 * x.2.1) (3 * x.2.2), 4 * x.2.2) else p
def mm_ (R : List (Nat × Nat × Nat)) (p : Nat × Nat) : Nat × Nat := R.foldl mg_ p
theorem mg_in {p : Nat × Nat} {x : Nat × Nat × Nat} (hb : bo_ x) (hp : p.1 ≤ 100000 ∧ p.2 ≤ 100000) : (mg_ p x).1 ≤ 100000 ∧ (mg_ p x).2 ≤ 100000 ∧ 0 < (mg_ p x).2 := by
  obtain ⟨⟨g1, g2⟩, ⟨t1, t2⟩, -⟩ := hb
  unfold mg_
  split
  · simp only [dist_]; omega
  · rename_i h; exact ⟨hp.1, hp.2, by omega⟩
theorem mm_in {R : List (Nat × Nat × Nat)} : ∀ {p : Nat × Nat}, (∀ x ∈ R, bo_ x) → (p.1 ≤ 100000 ∧ p.2 ≤ 100000) → (mm_ R p).1 ≤ 100000 ∧ (mm_ R p).2 ≤ 100000 ∧ (R ≠ [] → 0 < (mm_ R p).2) := by
  induction R with
  | nil => intro p _ hp; exact ⟨hp.1, hp.2, fun h => absurd rfl h⟩
  | cons x l ih =>
    intro p hb hp
    have h1 := mg_in (hb x List.mem_cons_self) hp
    have h2 := ih (p := mg_ p x) (fun y hy => hb y (List.mem_cons_of_mem _ hy)) ⟨h1.1, h1.2.1⟩
    refine ⟨h2.1, h2.2.1, fun _ => ?_⟩
    cases l with
    | nil => exact h1.2.2
    | cons y l => exact h2.2.2 (by simp)
section MG
variable {I : Nat → Nat → Int32} {J : Nat → Nat → Int64} {K : jw_K} {R : List (Nat × Nat × Nat)} {f : Nat} {fa : Int32}
theorem lz_le {n : Nat} (h : n < 2 ^ 63) : lN n ≤ 0 ↔ n = 0 := by
  rw [show (0 : Int64) = lN 0 from rfl, pk_lLE h (by decide)]; omega
theorem lz_eq {n : Nat} (h : n < 2 ^ 63) : lN n = 0 ↔ n = 0 := by
  rw [show (0 : Int64) = lN 0 from rfl, pk_lEQ h (by decide)]
theorem tt_3_commonDivisor {h : jw_H} {a b : Nat} (ha : a < 2 ^ 40) (hb : b < 2 ^ 40) (hK : K (some (.long (lN (Nat.gcd a b)))) h) : cc_3_commonDivisor [.long (lN a), .long (lN b)] h K := by
  refine jw_Cin (Nat.le_of_ble_eq_true rfl) rfl (fun P hP => ?_)
  have lp : ∀ (k a b r : Nat) (w5 w6 : Value), b < 2 ^ k → a < 2 ^ 40 → b < 2 ^ 40 → r + 2 * k + 2 ≤ 128 → K (some (.long (lN (Nat.gcd a b)))) h → P 3 [.long (lN a), jw_N, .long (lN b), jw_N, .int (nI r), w5, w6] [] h (0, 0) := by
    intro k
    induction k with
    | zero =>
      intro a b r w5 w6 h1 h2 h3 h4 hk
      have hb0 : b = 0 := by simpa using h1
      subst hb0
      have hr : ¬ (128 : Int32) ≤ nI r := (nu_gt (n := 128) (by decide) (by omega)).mpr (by omega)
      refine hP _ _ _ _ _ ?_
      simp only [qq_3_commonDivisor, bb_3_commonDivisor_33, bb_3_commonDivisor_3, bb_3_commonDivisor_0, xo_il, xo_ll, xo_al, xo_is, xo_ls, xo_as, xo_ic, xo_ci, xo_cl, xo_iadd, xo_isub, xo_imul, xo_iand, xo_ior, xo_ixor, xo_ishl, xo_ishr, xo_iushr, xo_idiv, xo_irem, xo_ineg, xo_ladd, xo_lsub, xo_lmul, xo_land, xo_lor, xo_lxor, xo_ldiv, xo_lrem, xo_lneg, xo_lushr, xo_lshl, xo_lshr, xo_lcmp, xo_i2l, xo_l2i, xo_i2b, xo_i2s, xo_i2c, xo_dup, xo_pop, xo_zeq, xo_ceq, xo_zne, xo_cne, xo_zlt, xo_clt, xo_zge, xo_cge, xo_zgt, xo_cgt, xo_zle, xo_cle, xo_sw, xo_ts, xo_gf, xo_pfi, xo_pfl, xo_pfz, xo_pfr, xo_iald, xo_iast, xo_zast, xo_zald, xo_alen, xo_aald, xo_gs, xo_cv, xo_cs, xo_ca, xo_obj, xo_ri, xo_rz, xo_rl, xo_ra, xo_rc, xo_rb, xo_rv, xo_new, xo_newa, xo_anew, xo_aast, xo_mmax, xo_mmin, xo_mabs, xo_mmaxL, xo_mabsL, jw_ge, jw_st, jw_st2, jw_se, jw_un, jw_kk, jw_pp, jw_l4, jw_l1, jw_ps, jw_en, jw_N, jw_C, List.map_cons, List.map_nil, ↓reduceIte, Nat.reduceSub, Nat.reduceAdd, Nat.reduceEqDiff, Nat.reduceLeDiff, Nat.le_refl, Nat.zero_le, true_and, and_true, true_or, or_true, false_or, or_false, false_imp_iff, true_imp_iff, not_true_eq_false, not_false_eq_true, nI_0, nb_1, fa_10, fa_01, hr, lg_cmp_le, lz_le (show 0 < 2 ^ 63 by decide)]
      rw [Nat.gcd_zero_right] at hk
      exact hk
    | succ k ih =>
      intro a b r w5 w6 h1 h2 h3 h4 hk
      have hr : ¬ (128 : Int32) ≤ nI r := (nu_gt (n := 128) (by decide) (by omega)).mpr (by omega)
      by_cases hb0 : b = 0
      · subst hb0
        refine hP _ _ _ _ _ ?_
        simp only [qq_3_commonDivisor, bb_3_commonDivisor_33, bb_3_commonDivisor_3, bb_3_commonDivisor_0, xo_il, xo_ll, xo_al, xo_is, xo_ls, xo_as, xo_ic, xo_ci, xo_cl, xo_iadd, xo_isub, xo_imul, xo_iand, xo_ior, xo_ixor, xo_ishl, xo_ishr, xo_iushr, xo_idiv, xo_irem, xo_ineg, xo_ladd, xo_lsub, xo_lmul, xo_land, xo_lor, xo_lxor, xo_ldiv, xo_lrem, xo_lneg, xo_lushr, xo_lshl, xo_lshr, xo_lcmp, xo_i2l, xo_l2i, xo_i2b, xo_i2s, xo_i2c, xo_dup, xo_pop, xo_zeq, xo_ceq, xo_zne, xo_cne, xo_zlt, xo_clt, xo_zge, xo_cge, xo_zgt, xo_cgt, xo_zle, xo_cle, xo_sw, xo_ts, xo_gf, xo_pfi, xo_pfl, xo_pfz, xo_pfr, xo_iald, xo_iast, xo_zast, xo_zald, xo_alen, xo_aald, xo_gs, xo_cv, xo_cs, xo_ca, xo_obj, xo_ri, xo_rz, xo_rl, xo_ra, xo_rc, xo_rb, xo_rv, xo_new, xo_newa, xo_anew, xo_aast, xo_mmax, xo_mmin, xo_mabs, xo_mmaxL, xo_mabsL, jw_ge, jw_st, jw_st2, jw_se, jw_un, jw_kk, jw_pp, jw_l4, jw_l1, jw_ps, jw_en, jw_N, jw_C, List.map_cons, List.map_nil, ↓reduceIte, Nat.reduceSub, Nat.reduceAdd, Nat.reduceEqDiff, Nat.reduceLeDiff, Nat.le_refl, Nat.zero_le, true_and, and_true, true_or, or_true, false_or, or_false, false_imp_iff, true_imp_iff, not_true_eq_false, not_false_eq_true, nI_0, nb_1, fa_10, fa_01, hr, lg_cmp_le, lz_le (show 0 < 2 ^ 63 by decide)]
        rw [Nat.gcd_zero_right] at hk
        exact hk
      · have hm : a % b < b := Nat.mod_lt _ (by omega)
        have hg : Nat.gcd a b = Nat.gcd b (a % b) := by rw [Nat.gcd_comm, Nat.gcd_rec, Nat.gcd_comm]
        have step : ∀ w5 w6, P 3 [.long (lN b), jw_N, .long (lN (a % b)), jw_N, .int (nI (r + 1)), .long (lN (a % b)), jw_N] [] h (0, 0) → P 3 [.long (lN a), jw_N, .long (lN b), jw_N, .int (nI r), w5, w6] [] h (0, 0) := by
          intro w5 w6 hgo
          refine hP _ _ _ _ _ ?_
          simp only [qq_3_commonDivisor, bb_3_commonDivisor_33, bb_3_commonDivisor_3, bb_3_commonDivisor_0, xo_il, xo_ll, xo_al, xo_is, xo_ls, xo_as, xo_ic, xo_ci, xo_cl, xo_iadd, xo_isub, xo_imul, xo_iand, xo_ior, xo_ixor, xo_ishl, xo_ishr, xo_iushr, xo_idiv, xo_irem, xo_ineg, xo_ladd, xo_lsub, xo_lmul, xo_land, xo_lor, xo_lxor, xo_ldiv, xo_lrem, xo_lneg, xo_lushr, xo_lshl, xo_lshr, xo_lcmp, xo_i2l, xo_l2i, xo_i2b, xo_i2s, xo_i2c, xo_dup, xo_pop, xo_zeq, xo_ceq, xo_zne, xo_cne, xo_zlt, xo_clt, xo_zge, xo_cge, xo_zgt, xo_cgt, xo_zle, xo_cle, xo_sw, xo_ts, xo_gf, xo_pfi, xo_pfl, xo_pfz, xo_pfr, xo_iald, xo_iast, xo_zast, xo_zald, xo_alen, xo_aald, xo_gs, xo_cv, xo_cs, xo_ca, xo_obj, xo_ri, xo_rz, xo_rl, xo_ra, xo_rc, xo_rb, xo_rv, xo_new, xo_newa, xo_anew, xo_aast, xo_mmax, xo_mmin, xo_mabs, xo_mmaxL, xo_mabsL, jw_ge, jw_st, jw_st2, jw_se, jw_un, jw_kk, jw_pp, jw_l4, jw_l1, jw_ps, jw_en, jw_N, jw_C, List.map_cons, List.map_nil, ↓reduceIte, Nat.reduceSub, Nat.reduceAdd, Nat.reduceEqDiff, Nat.reduceLeDiff, Nat.le_refl, Nat.zero_le, true_and, and_true, true_or, or_true, false_or, or_false, false_imp_iff, true_imp_iff, not_true_eq_false, not_false_eq_true, nI_0, nb_1, fa_10, fa_01, hr, lg_cmp_le, lz_le (show b < 2 ^ 63 by omega), lz_eq (show b < 2 ^ 63 by omega), hb0, pk_lRem (show a < 2 ^ 63 by omega) (show 0 < b by omega) (show b < 2 ^ 63 by omega), nI_1]
          exact hgo
        refine step w5 w6 ?_
        rcases Nat.lt_or_ge (a % b) (2 ^ k) with hlt | hge
        · exact ih b (a % b) (r + 1) _ _ hlt h3 (by omega) (by omega) (by rw [← hg]; exact hk)
        · -- two rounds halve it
          have hp2 : 2 ^ (k + 1) = 2 * 2 ^ k := by rw [Nat.pow_succ]; omega
          have h2k : 0 < 2 ^ k := Nat.pow_pos (by decide)
          have hr1 : ¬ (128 : Int32) ≤ nI (r + 1) := (nu_gt (n := 128) (by decide) (by omega)).mpr (by omega)
          have hm2 : b % (a % b) = b - a % b := by
            rw [Nat.mod_eq_sub_mod (by omega), Nat.mod_eq_of_lt (by omega)]
          have hne : ¬ a % b = 0 := by omega
          refine hP _ _ _ _ _ ?_
          simp only [qq_3_commonDivisor, bb_3_commonDivisor_33, bb_3_commonDivisor_3, bb_3_commonDivisor_0, xo_il, xo_ll, xo_al, xo_is, xo_ls, xo_as, xo_ic, xo_ci, xo_cl, xo_iadd, xo_isub, xo_imul, xo_iand, xo_ior, xo_ixor, xo_ishl, xo_ishr, xo_iushr, xo_idiv, xo_irem, xo_ineg, xo_ladd, xo_lsub, xo_lmul, xo_land, xo_lor, xo_lxor, xo_ldiv, xo_lrem, xo_lneg, xo_lushr, xo_lshl, xo_lshr, xo_lcmp, xo_i2l, xo_l2i, xo_i2b, xo_i2s, xo_i2c, xo_dup, xo_pop, xo_zeq, xo_ceq, xo_zne, xo_cne, xo_zlt, xo_clt, xo_zge, xo_cge, xo_zgt, xo_cgt, xo_zle, xo_cle, xo_sw, xo_ts, xo_gf, xo_pfi, xo_pfl, xo_pfz, xo_pfr, xo_iald, xo_iast, xo_zast, xo_zald, xo_alen, xo_aald, xo_gs, xo_cv, xo_cs, xo_ca, xo_obj, xo_ri, xo_rz, xo_rl, xo_ra, xo_rc, xo_rb, xo_rv, xo_new, xo_newa, xo_anew, xo_aast, xo_mmax, xo_mmin, xo_mabs, xo_mmaxL, xo_mabsL, jw_ge, jw_st, jw_st2, jw_se, jw_un, jw_kk, jw_pp, jw_l4, jw_l1, jw_ps, jw_en, jw_N, jw_C, List.map_cons, List.map_nil, ↓reduceIte, Nat.reduceSub, Nat.reduceAdd, Nat.reduceEqDiff, Nat.reduceLeDiff, Nat.le_refl, Nat.zero_le, true_and, and_true, true_or, or_true, false_or, or_false, false_imp_iff, true_imp_iff, not_true_eq_false, not_false_eq_true, nI_0, nb_1, fa_10, fa_01, hr1, lg_cmp_le, lz_le (show a % b < 2 ^ 63 by omega), lz_eq (show a % b < 2 ^ 63 by omega), hne, pk_lRem (show b < 2 ^ 63 by omega) (show 0 < a % b by omega) (show a % b < 2 ^ 63 by omega), nI_1]
          have hg2 : Nat.gcd b (a % b) = Nat.gcd (a % b) (b % (a % b)) := by rw [Nat.gcd_comm, Nat.gcd_rec, Nat.gcd_comm]
          exact ih (a % b) (b % (a % b)) (r + 1 + 1) _ _ (by omega) (by omega) (by omega) (by omega) (by rw [← hg2, ← hg]; exact hk)
  refine hP _ _ _ _ _ ?_
  simp only [qq_3_commonDivisor, bb_3_commonDivisor_33, bb_3_commonDivisor_0, xo_il, xo_ll, xo_al, xo_is, xo_ls, xo_as, xo_ic, xo_ci, xo_cl, xo_iadd, xo_isub, xo_imul, xo_iand, xo_ior, xo_ixor, xo_ishl, xo_ishr, xo_iushr, xo_idiv, xo_irem, xo_ineg, xo_ladd, xo_lsub, xo_lmul, xo_land, xo_lor, xo_lxor, xo_ldiv, xo_lrem, xo_lneg, xo_lushr, xo_lshl, xo_lshr, xo_lcmp, xo_i2l, xo_l2i, xo_i2b, xo_i2s, xo_i2c, xo_dup, xo_pop, xo_zeq, xo_ceq, xo_zne, xo_cne, xo_zlt, xo_clt, xo_zge, xo_cge, xo_zgt, xo_cgt, xo_zle, xo_cle, xo_sw, xo_ts, xo_gf, xo_pfi, xo_pfl, xo_pfz, xo_pfr, xo_iald, xo_iast, xo_zast, xo_zald, xo_alen, xo_aald, xo_gs, xo_cv, xo_cs, xo_ca, xo_obj, xo_ri, xo_rz, xo_rl, xo_ra, xo_rc, xo_rb, xo_rv, xo_new, xo_newa, xo_anew, xo_aast, xo_mmax, xo_mmin, xo_mabs, xo_mmaxL, xo_mabsL, jw_ge, jw_st, jw_st2, jw_se, jw_un, jw_kk, jw_pp, jw_l4, jw_l1, jw_ps, jw_en, jw_N, jw_C, List.map_cons, List.map_nil, ↓reduceIte, Nat.reduceSub, Nat.reduceAdd, Nat.reduceEqDiff, Nat.reduceLeDiff, Nat.le_refl, Nat.zero_le, true_and, and_true, true_or, or_true, false_or, or_false, false_imp_iff, true_imp_iff, not_true_eq_false, not_false_eq_true, nI_0, nb_1, fa_10, fa_01]
  exact lp 40 a b 0 _ _ hb ha hb (by omega) hK
theorem tl_drop {k : Nat} (h1 : 1 ≤ k) (h2 : k < R.length) : R.tail.drop (k - 1) = R.getD k (0, 0, 0) :: R.tail.drop k ∧ R.getD k (0, 0, 0) ∈ R.tail := by
  obtain ⟨k2, rfl⟩ : ∃ k2, k = k2 + 1 := ⟨k - 1, by omega⟩
  cases R with
  | nil => simp at h2
  | cons y l =>
    have h3 : k2 < l.length := by simpa using h2
    simp only [List.tail_cons, Nat.add_sub_cancel, List.getD, List.getElem?_cons_succ, List.getElem?_eq_getElem h3, Option.getD_some]
    exact ⟨List.drop_eq_getElem_cons h3, List.getElem_mem h3⟩
set_option maxHeartbeats 4000000 in
theorem tt_3_weighMargin (hr : rd_ I (R.map (·.1)) (R.map (·.2.1)) (R.map (·.2.2)) f fa) (hn : R.length ≤ 320) (hn2 : 2 ≤ R.length) (hb : ∀ x ∈ R.tail, bo_ x) (hK : ∀ I2, I2 17 5 = nI ((mm_ R.tail (0, 0)).1 / Nat.gcd (mm_ R.tail (0, 0)).1 (mm_ R.tail (0, 0)).2) → I2 17 6 = nI ((mm_ R.tail (0, 0)).2 / Nat.gcd (mm_ R.tail (0, 0)).1 (mm_ R.tail (0, 0)).2) → rd_ I2 (R.map (·.1)) (R.map (·.2.1)) (R.map (·.2.2)) f fa → ff_ 17 24 I I2 → K none (hp_ I2 J)) : cc_3_weighMargin [.ref 17] (hp_ I J) K := by
  refine jw_Cin (Nat.le_of_ble_eq_true rfl) rfl (fun P hP => ?_)
  have hr0 := hr
  obtain ⟨r1, r2, r3, r4, r5⟩ := hr0
  have lp : ∀ (m k : Nat) (p : Nat × Nat) (w6 w7 w8 w9 : Value), R.length = k + m → 1 ≤ k → p.1 ≤ 100000 ∧ p.2 ≤ 100000 → mm_ (R.tail.drop (k - 1)) p = mm_ R.tail (0, 0) → P 7 [.ref 17, .long (lN p.1), jw_N, .long (lN p.2), jw_N, .int (nI k), w6, w7, w8, w9] [] (hp_ I J) (0, 0) := by
    intro m
    induction m with
    | zero =>
      intro k p w6 w7 w8 w9 hk h1 hp he
      have hle : nI (R.map (·.1)).length ≤ nI k := by rw [List.length_map]; exact (nI_leI (by omega) (by omega)).mpr (by omega)
      rw [List.drop_eq_nil_of_le (by simp; omega)] at he
      have hin := mm_in (p := (0, 0)) hb ⟨by simp, by simp⟩
      have hpos := hin.2.2 (by intro q; have := congrArg List.length q; simp at this; omega)
      have hpe : p = mm_ R.tail (0, 0) := he
      rw [← hpe] at hpos hK
      refine hP _ _ _ _ _ ?_
      simp only [qq_3_weighMargin, bb_3_weighMargin_99, bb_3_weighMargin_7, bb_3_weighMargin_0, xo_il, xo_ll, xo_al, xo_is, xo_ls, xo_as, xo_ic, xo_ci, xo_cl, xo_iadd, xo_isub, xo_imul, xo_iand, xo_ior, xo_ixor, xo_ishl, xo_ishr, xo_iushr, xo_idiv, xo_irem, xo_ineg, xo_ladd, xo_lsub, xo_lmul, xo_land, xo_lor, xo_lxor, xo_ldiv, xo_lrem, xo_lneg, xo_lushr, xo_lshl, xo_lshr, xo_lcmp, xo_i2l, xo_l2i, xo_i2b, xo_i2s, xo_i2c, xo_dup, xo_pop, xo_zeq, xo_ceq, xo_zne, xo_cne, xo_zlt, xo_clt, xo_zge, xo_cge, xo_zgt, xo_cgt, xo_zle, xo_cle, xo_sw, xo_ts, xo_gf, xo_pfi, xo_pfl, xo_pfz, xo_pfr, xo_iald, xo_iast, xo_zast, xo_zald, xo_alen, xo_aald, xo_gs, xo_cv, xo_cs, xo_ca, xo_obj, xo_ri, xo_rz, xo_rl, xo_ra, xo_rc, xo_rb, xo_rv, xo_new, xo_newa, xo_anew, xo_aast, xo_mmax, xo_mmin, xo_mabs, xo_mmaxL, xo_mabsL, jw_ge, jw_st, jw_st2, jw_se, jw_un, jw_kk, jw_pp, jw_l4, jw_l1, jw_ps, jw_en, jw_N, jw_C, List.map_cons, List.map_nil, ↓reduceIte, Nat.reduceSub, Nat.reduceAdd, Nat.reduceEqDiff, Nat.reduceLeDiff, Nat.le_refl, Nat.zero_le, true_and, and_true, true_or, or_true, false_or, or_false, false_imp_iff, true_imp_iff, not_true_eq_false, not_false_eq_true, nI_0, nb_1, fa_10, fa_01, hg_17_0, hg_17_1, hg_17_2, hg_17_3, hq_17_3, hg_17_4, hq_17_4, hg_17_5, hq_17_5, hg_17_6, hq_17_6, hi_17, hr_i hr18]
      refine rn_size hr18 r1 ?_
      simp only [qq_3_weighMargin, bb_3_weighMargin_99, bb_3_weighMargin_7, bb_3_weighMargin_0, xo_il, xo_ll, xo_al, xo_is, xo_ls, xo_as, xo_ic, xo_ci, xo_cl, xo_iadd, xo_isub, xo_imul, xo_iand, xo_ior, xo_ixor, xo_ishl, xo_ishr, xo_iushr, xo_idiv, xo_irem, xo_ineg, xo_ladd, xo_lsub, xo_lmul, xo_land, xo_lor, xo_lxor, xo_ldiv, xo_lrem, xo_lneg, xo_lushr, xo_lshl, xo_lshr, xo_lcmp, xo_i2l, xo_l2i, xo_i2b, xo_i2s, xo_i2c, xo_dup, xo_pop, xo_zeq, xo_ceq, xo_zne, xo_cne, xo_zlt, xo_clt, xo_zge, xo_cge, xo_zgt, xo_cgt, xo_zle, xo_cle, xo_sw, xo_ts, xo_gf, xo_pfi, xo_pfl, xo_pfz, xo_pfr, xo_iald, xo_iast, xo_zast, xo_zald, xo_alen, xo_aald, xo_gs, xo_cv, xo_cs, xo_ca, xo_obj, xo_ri, xo_rz, xo_rl, xo_ra, xo_rc, xo_rb, xo_rv, xo_new, xo_newa, xo_anew, xo_aast, xo_mmax, xo_mmin, xo_mabs, xo_mmaxL, xo_mabsL, jw_ge, jw_st, jw_st2, jw_se, jw_un, jw_kk, jw_pp, jw_l4, jw_l1, jw_ps, jw_en, jw_N, jw_C, List.map_cons, List.map_nil, ↓reduceIte, Nat.reduceSub, Nat.reduceAdd, Nat.reduceEqDiff, Nat.reduceLeDiff, Nat.le_refl, Nat.zero_le, true_and, and_true, true_or, or_true, false_or, or_false, false_imp_iff, true_imp_iff, not_true_eq_false, not_false_eq_true, nI_0, nb_1, fa_10, fa_01, hle]
      refine tt_3_commonDivisor (by omega) (by omega) ?_
      have hg1 : 0 < Nat.gcd p.1 p.2 := Nat.gcd_pos_of_pos_right _ hpos
      have hg2 : Nat.gcd p.1 p.2 ≤ p.2 := Nat.gcd_le_right _ hpos
      have em : (if lN (Nat.gcd p.1 p.2) < 1 then (1 : Int64) else lN (Nat.gcd p.1 p.2)) = lN (Nat.gcd p.1 p.2) := by
        rw [if_neg]
        intro q
        have := (pk_lLT (a := Nat.gcd p.1 p.2) (b := 1) (by omega) (by decide)).mp q
        omega
      have hne : ¬ lN (Nat.gcd p.1 p.2) = 0 := by rw [lz_eq (by omega)]; omega
      simp only [qq_3_weighMargin, bb_3_weighMargin_99, bb_3_weighMargin_7, bb_3_weighMargin_0, xo_il, xo_ll, xo_al, xo_is, xo_ls, xo_as, xo_ic, xo_ci, xo_cl, xo_iadd, xo_isub, xo_imul, xo_iand, xo_ior, xo_ixor, xo_ishl, xo_ishr, xo_iushr, xo_idiv, xo_irem, xo_ineg, xo_ladd, xo_lsub, xo_lmul, xo_land, xo_lor, xo_lxor, xo_ldiv, xo_lrem, xo_lneg, xo_lushr, xo_lshl, xo_lshr, xo_lcmp, xo_i2l, xo_l2i, xo_i2b, xo_i2s, xo_i2c, xo_dup, xo_pop, xo_zeq, xo_ceq, xo_zne, xo_cne, xo_zlt, xo_clt, xo_zge, xo_cge, xo_zgt, xo_cgt, xo_zle, xo_cle, xo_sw, xo_ts, xo_gf, xo_pfi, xo_pfl, xo_pfz, xo_pfr, xo_iald, xo_iast, xo_zast, xo_zald, xo_alen, xo_aald, xo_gs, xo_cv, xo_cs, xo_ca, xo_obj, xo_ri, xo_rz, xo_rl, xo_ra, xo_rc, xo_rb, xo_rv, xo_new, xo_newa, xo_anew, xo_aast, xo_mmax, xo_mmin, xo_mabs, xo_mmaxL, xo_mabsL, jw_ge, jw_st, jw_st2, jw_se, jw_un, jw_kk, jw_pp, jw_l4, jw_l1, jw_ps, jw_en, jw_N, jw_C, List.map_cons, List.map_nil, ↓reduceIte, Nat.reduceSub, Nat.reduceAdd, Nat.reduceEqDiff, Nat.reduceLeDiff, Nat.le_refl, Nat.zero_le, true_and, and_true, true_or, or_true, false_or, or_false, false_imp_iff, true_imp_iff, not_true_eq_false, not_false_eq_true, nI_0, nb_1, fa_10, fa_01, em, hne, pk_lDiv (show p.1 < 2 ^ 63 by omega) hg1 (show Nat.gcd p.1 p.2 < 2 ^ 63 by omega), pk_lDiv (show p.2 < 2 ^ 63 by omega) hg1 (show Nat.gcd p.1 p.2 < 2 ^ 63 by omega), lN_i, hg_17_0, hg_17_1, hg_17_2, hg_17_3, hq_17_3, hg_17_4, hq_17_4, hg_17_5, hq_17_5, hg_17_6, hq_17_6, hi_17]
      exact hK _ (by rw [hw_i (by decide), hw_s]) (by rw [hw_s]) ⟨rn_hw (rn_hw r1 (by decide) (by decide)) (by decide) (by decide), rn_hw (rn_hw r2 (by decide) (by decide)) (by decide) (by decide), rn_hw (rn_hw r3 (by decide) (by decide)) (by decide) (by decide), by rw [hw_i (by decide), hw_i (by decide)]; exact r4, by rw [hw_i (by decide), hw_i (by decide)]; exact r5⟩ (ff_tr (ff_hw (by decide) (by decide)) (ff_hw (by decide) (by decide)))
    | succ m ih =>
      intro k p w6 w7 w8 w9 hk h1 hp he
      have hle : ¬ nI (R.map (·.1)).length ≤ nI k := by rw [List.length_map]; exact (nu_gt (by omega) (by omega)).mpr (by omega)
      obtain ⟨hd, hmem⟩ := tl_drop (R := R) h1 (by omega)
      rw [hd] at he
      have hbk := hb _ hmem
      refine hP _ _ _ _ _ ?_
      simp only [qq_3_weighMargin, bb_3_weighMargin_99, bb_3_weighMargin_93, bb_3_weighMargin_87, bb_3_weighMargin_57, bb_3_weighMargin_7, bb_3_weighMargin_0, xo_il, xo_ll, xo_al, xo_is, xo_ls, xo_as, xo_ic, xo_ci, xo_cl, xo_iadd, xo_isub, xo_imul, xo_iand, xo_ior, xo_ixor, xo_ishl, xo_ishr, xo_iushr, xo_idiv, xo_irem, xo_ineg, xo_ladd, xo_lsub, xo_lmul, xo_land, xo_lor, xo_lxor, xo_ldiv, xo_lrem, xo_lneg, xo_lushr, xo_lshl, xo_lshr, xo_lcmp, xo_i2l, xo_l2i, xo_i2b, xo_i2s, xo_i2c, xo_dup, xo_pop, xo_zeq, xo_ceq, xo_zne, xo_cne, xo_zlt, xo_clt, xo_zge, xo_cge, xo_zgt, xo_cgt, xo_zle, xo_cle, xo_sw, xo_ts, xo_gf, xo_pfi, xo_pfl, xo_pfz, xo_pfr, xo_iald, xo_iast, xo_zast, xo_zald, xo_alen, xo_aald, xo_gs, xo_cv, xo_cs, xo_ca, xo_obj, xo_ri, xo_rz, xo_rl, xo_ra, xo_rc, xo_rb, xo_rv, xo_new, xo_newa, xo_anew, xo_aast, xo_mmax, xo_mmin, xo_mabs, xo_mmaxL, xo_mabsL, jw_ge, jw_st, jw_st2, jw_se, jw_un, jw_kk, jw_pp, jw_l4, jw_l1, jw_ps, jw_en, jw_N, jw_C, List.map_cons, List.map_nil, ↓reduceIte, Nat.reduceSub, Nat.reduceAdd, Nat.reduceEqDiff, Nat.reduceLeDiff, Nat.le_refl, Nat.zero_le, true_and, and_true, true_or, or_true, false_or, or_false, false_imp_iff, true_imp_iff, not_true_eq_false, not_false_eq_true, nI_0, nb_1, fa_10, fa_01, hg_17_0, hg_17_1, hg_17_2, hg_17_3, hq_17_3, hg_17_4, hq_17_4, hg_17_5, hq_17_5, hg_17_6, hq_17_6, hi_17, hr_i hr18]
      refine rn_size hr18 r1 ?_
      simp only [qq_3_weighMargin, bb_3_weighMargin_99, bb_3_weighMargin_93, bb_3_weighMargin_87, bb_3_weighMargin_57, bb_3_weighMargin_7, bb_3_weighMargin_0, xo_il, xo_ll, xo_al, xo_is, xo_ls, xo_as, xo_ic, xo_ci, xo_cl, xo_iadd, xo_isub, xo_imul, xo_iand, xo_ior, xo_ixor, xo_ishl, xo_ishr, xo_iushr, xo_idiv, xo_irem, xo_ineg, xo_ladd, xo_lsub, xo_lmul, xo_land, xo_lor, xo_lxor, xo_ldiv, xo_lrem, xo_lneg, xo_lushr, xo_lshl, xo_lshr, xo_lcmp, xo_i2l, xo_l2i, xo_i2b, xo_i2s, xo_i2c, xo_dup, xo_pop, xo_zeq, xo_ceq, xo_zne, xo_cne, xo_zlt, xo_clt, xo_zge, xo_cge, xo_zgt, xo_cgt, xo_zle, xo_cle, xo_sw, xo_ts, xo_gf, xo_pfi, xo_pfl, xo_pfz, xo_pfr, xo_iald, xo_iast, xo_zast, xo_zald, xo_alen, xo_aald, xo_gs, xo_cv, xo_cs, xo_ca, xo_obj, xo_ri, xo_rz, xo_rl, xo_ra, xo_rc, xo_rb, xo_rv, xo_new, xo_newa, xo_anew, xo_aast, xo_mmax, xo_mmin, xo_mabs, xo_mmaxL, xo_mabsL, jw_ge, jw_st, jw_st2, jw_se, jw_un, jw_kk, jw_pp, jw_l4, jw_l1, jw_ps, jw_en, jw_N, jw_C, List.map_cons, List.map_nil, ↓reduceIte, Nat.reduceSub, Nat.reduceAdd, Nat.reduceEqDiff, Nat.reduceLeDiff, Nat.le_refl, Nat.zero_le, true_and, and_true, true_or, or_true, false_or, or_false, false_imp_iff, true_imp_iff, not_true_eq_false, not_false_eq_true, nI_0, nb_1, fa_10, fa_01, hle, hg_17_0, hg_17_1, hg_17_2, hg_17_3, hq_17_3, hg_17_4, hq_17_4, hg_17_5, hq_17_5, hg_17_6, hq_17_6, hi_17, hr_i hr20]
      refine rn_at hr20 r2 (by simpa using hn) k (by omega) ?_
      simp only [qq_3_weighMargin, bb_3_weighMargin_99, bb_3_weighMargin_93, bb_3_weighMargin_87, bb_3_weighMargin_57, bb_3_weighMargin_7, bb_3_weighMargin_0, xo_il, xo_ll, xo_al, xo_is, xo_ls, xo_as, xo_ic, xo_ci, xo_cl, xo_iadd, xo_isub, xo_imul, xo_iand, xo_ior, xo_ixor, xo_ishl, xo_ishr, xo_iushr, xo_idiv, xo_irem, xo_ineg, xo_ladd, xo_lsub, xo_lmul, xo_land, xo_lor, xo_lxor, xo_ldiv, xo_lrem, xo_lneg, xo_lushr, xo_lshl, xo_lshr, xo_lcmp, xo_i2l, xo_l2i, xo_i2b, xo_i2s, xo_i2c, xo_dup, xo_pop, xo_zeq, xo_ceq, xo_zne, xo_cne, xo_zlt, xo_clt, xo_zge, xo_cge, xo_zgt, xo_cgt, xo_zle, xo_cle, xo_sw, xo_ts, xo_gf, xo_pfi, xo_pfl, xo_pfz, xo_pfr, xo_iald, xo_iast, xo_zast, xo_zald, xo_alen, xo_aald, xo_gs, xo_cv, xo_cs, xo_ca, xo_obj, xo_ri, xo_rz, xo_rl, xo_ra, xo_rc, xo_rb, xo_rv, xo_new, xo_newa, xo_anew, xo_aast, xo_mmax, xo_mmin, xo_mabs, xo_mmaxL, xo_mabsL, jw_ge, jw_st, jw_st2, jw_se, jw_un, jw_kk, jw_pp, jw_l4, jw_l1, jw_ps, jw_en, jw_N, jw_C, List.map_cons, List.map_nil, ↓reduceIte, Nat.reduceSub, Nat.reduceAdd, Nat.reduceEqDiff, Nat.reduceLeDiff, Nat.le_refl, Nat.zero_le, true_and, and_true, true_or, or_true, false_or, or_false, false_imp_iff, true_imp_iff, not_true_eq_false, not_false_eq_true, nI_0, nb_1, fa_10, fa_01, hg_17_0, hg_17_1, hg_17_2, hg_17_3, hq_17_3, hg_17_4, hq_17_4, hg_17_5, hq_17_5, hg_17_6, hq_17_6, hi_17, hr_i hr22]
      refine rn_at hr22 r3 (by simpa using hn) k (by omega) ?_
      rw [gm_2, gm_3]
      simp only [qq_3_weighMargin, bb_3_weighMargin_99, bb_3_weighMargin_93, bb_3_weighMargin_87, bb_3_weighMargin_57, bb_3_weighMargin_7, bb_3_weighMargin_0, xo_il, xo_ll, xo_al, xo_is, xo_ls, xo_as, xo_ic, xo_ci, xo_cl, xo_iadd, xo_isub, xo_imul, xo_iand, xo_ior, xo_ixor, xo_ishl, xo_ishr, xo_iushr, xo_idiv, xo_irem, xo_ineg, xo_ladd, xo_lsub, xo_lmul, xo_land, xo_lor, xo_lxor, xo_ldiv, xo_lrem, xo_lneg, xo_lushr, xo_lshl, xo_lshr, xo_lcmp, xo_i2l, xo_l2i, xo_i2b, xo_i2s, xo_i2c, xo_dup, xo_pop, xo_zeq, xo_ceq, xo_zne, xo_cne, xo_zlt, xo_clt, xo_zge, xo_cge, xo_zgt, xo_cgt, xo_zle, xo_cle, xo_sw, xo_ts, xo_gf, xo_pfi, xo_pfl, xo_pfz, xo_pfr, xo_iald, xo_iast, xo_zast, xo_zald, xo_alen, xo_aald, xo_gs, xo_cv, xo_cs, xo_ca, xo_obj, xo_ri, xo_rz, xo_rl, xo_ra, xo_rc, xo_rb, xo_rv, xo_new, xo_newa, xo_anew, xo_aast, xo_mmax, xo_mmin, xo_mabs, xo_mmaxL, xo_mabsL, jw_ge, jw_st, jw_st2, jw_se, jw_un, jw_kk, jw_pp, jw_l4, jw_l1, jw_ps, jw_en, jw_N, jw_C, List.map_cons, List.map_nil, ↓reduceIte, Nat.reduceSub, Nat.reduceAdd, Nat.reduceEqDiff, Nat.reduceLeDiff, Nat.le_refl, Nat.zero_le, true_and, and_true, true_or, or_true, false_or, or_false, false_imp_iff, true_imp_iff, not_true_eq_false, not_false_eq_true, nI_0, nb_1, fa_10, fa_01, hg_17_0, hg_17_1, hg_17_2, hg_17_3, hq_17_3, hg_17_4, hq_17_4, hg_17_5, hq_17_5, hg_17_6, hq_17_6, hi_17, hr_i hr22]
      have hin := mg_in hbk hp
      have he2 : mm_ (R.tail.drop k) (mg_ p (R.getD k (0, 0, 0))) = mm_ R.tail (0, 0) := he
      obtain ⟨⟨g1, g2⟩, ⟨t1, t2⟩, -⟩ := hbk
      have e3 := gm_3 (R := R) (k := k)
      generalize R.getD k (0, 0, 0) = x at g1 g2 t1 t2 he2 hin e3 ⊢
      obtain ⟨b, g, t⟩ := x
      simp only at g1 g2 t1 t2 e3 ⊢
      have l4 : (4 : Int64) * (nI g).toInt64 = lN (4 * g) := by rw [nI_l (by omega), show (4 : Int64) = lN 4 from rfl, lN_mul]
      have l3 : (3 : Int64) * (nI t).toInt64 = lN (3 * t) := by rw [nI_l (by omega), show (3 : Int64) = lN 3 from rfl, lN_mul]
      have l4t : (4 : Int64) * (nI t).toInt64 = lN (4 * t) := by rw [nI_l (by omega), show (4 : Int64) = lN 4 from rfl, lN_mul]
      simp only [l4, l3, dl_1 (show 4 * g < 2 ^ 62 by omega) (show 3 * t < 2 ^ 62 by omega)]
      refine rn_at hr22 r3 (by simpa using hn) k (by omega) ?_
      rw [e3]
      have hdist : dist_ (4 * g) (3 * t) ≤ 100000 := by unfold dist_; omega
      have hm1 : dist_ (4 * g) (3 * t) * p.2 ≤ 100000 * 100000 := Nat.mul_le_mul hdist hp.2
      have hm2 : p.1 * (4 * t) ≤ 100000 * 100000 := Nat.mul_le_mul hp.1 (by omega)
      simp only [qq_3_weighMargin, bb_3_weighMargin_99, bb_3_weighMargin_93, bb_3_weighMargin_87, bb_3_weighMargin_57, bb_3_weighMargin_7, bb_3_weighMargin_0, xo_il, xo_ll, xo_al, xo_is, xo_ls, xo_as, xo_ic, xo_ci, xo_cl, xo_iadd, xo_isub, xo_imul, xo_iand, xo_ior, xo_ixor, xo_ishl, xo_ishr, xo_iushr, xo_idiv, xo_irem, xo_ineg, xo_ladd, xo_lsub, xo_lmul, xo_land, xo_lor, xo_lxor, xo_ldiv, xo_lrem, xo_lneg, xo_lushr, xo_lshl, xo_lshr, xo_lcmp, xo_i2l, xo_l2i, xo_i2b, xo_i2s, xo_i2c, xo_dup, xo_pop, xo_zeq, xo_ceq, xo_zne, xo_cne, xo_zlt, xo_clt, xo_zge, xo_cge, xo_zgt, xo_cgt, xo_zle, xo_cle, xo_sw, xo_ts, xo_gf, xo_pfi, xo_pfl, xo_pfz, xo_pfr, xo_iald, xo_iast, xo_zast, xo_zald, xo_alen, xo_aald, xo_gs, xo_cv, xo_cs, xo_ca, xo_obj, xo_ri, xo_rz, xo_rl, xo_ra, xo_rc, xo_rb, xo_rv, xo_new, xo_newa, xo_anew, xo_aast, xo_mmax, xo_mmin, xo_mabs, xo_mmaxL, xo_mabsL, jw_ge, jw_st, jw_st2, jw_se, jw_un, jw_kk, jw_pp, jw_l4, jw_l1, jw_ps, jw_en, jw_N, jw_C, List.map_cons, List.map_nil, ↓reduceIte, Nat.reduceSub, Nat.reduceAdd, Nat.reduceEqDiff, Nat.reduceLeDiff, Nat.le_refl, Nat.zero_le, true_and, and_true, true_or, or_true, false_or, or_false, false_imp_iff, true_imp_iff, not_true_eq_false, not_false_eq_true, nI_0, nb_1, fa_10, fa_01, l4t, lN_mul, lg_cmp_eq, lg_cmp_ge, lz_eq (show p.2 < 2 ^ 63 by omega), pk_lLE (show p.1 * (4 * t) < 2 ^ 63 by omega) (show dist_ (4 * g) (3 * t) * p.2 < 2 ^ 63 by omega), nI_1]
      have hmg : mg_ p (b, g, t) = if p.2 = 0 ∨ dist_ (4 * g) (3 * t) * p.2 < p.1 * (4 * t) then (dist_ (4 * g) (3 * t), 4 * t) else p := rfl
      refine ⟨fun h0 => ?_, fun h0 => ⟨fun h5 => ?_, fun h5 => ?_⟩⟩
      · rw [hmg, if_pos (Or.inl h0)] at he2 hin
        exact ih (k + 1) (dist_ (4 * g) (3 * t), 4 * t) _ _ _ _ (by omega) (by omega) ⟨hin.1, hin.2.1⟩ (by simpa using he2)
      · rw [hmg, if_neg (by omega)] at he2
        exact ih (k + 1) p _ _ _ _ (by omega) (by omega) hp (by simpa using he2)
      · rw [hmg, if_pos (Or.inr (by omega))] at he2 hin
        exact ih (k + 1) (dist_ (4 * g) (3 * t), 4 * t) _ _ _ _ (by omega) (by omega) ⟨hin.1, hin.2.1⟩ (by simpa using he2)
  refine hP _ _ _ _ _ ?_
  simp only [qq_3_weighMargin, bb_3_weighMargin_99, bb_3_weighMargin_93, bb_3_weighMargin_87, bb_3_weighMargin_57, bb_3_weighMargin_0, xo_il, xo_ll, xo_al, xo_is, xo_ls, xo_as, xo_ic, xo_ci, xo_cl, xo_iadd, xo_isub, xo_imul, xo_iand, xo_ior, xo_ixor, xo_ishl, xo_ishr, xo_iushr, xo_idiv, xo_irem, xo_ineg, xo_ladd, xo_lsub, xo_lmul, xo_land, xo_lor, xo_lxor, xo_ldiv, xo_lrem, xo_lneg, xo_lushr, xo_lshl, xo_lshr, xo_lcmp, xo_i2l, xo_l2i, xo_i2b, xo_i2s, xo_i2c, xo_dup, xo_pop, xo_zeq, xo_ceq, xo_zne, xo_cne, xo_zlt, xo_clt, xo_zge, xo_cge, xo_zgt, xo_cgt, xo_zle, xo_cle, xo_sw, xo_ts, xo_gf, xo_pfi, xo_pfl, xo_pfz, xo_pfr, xo_iald, xo_iast, xo_zast, xo_zald, xo_alen, xo_aald, xo_gs, xo_cv, xo_cs, xo_ca, xo_obj, xo_ri, xo_rz, xo_rl, xo_ra, xo_rc, xo_rb, xo_rv, xo_new, xo_newa, xo_anew, xo_aast, xo_mmax, xo_mmin, xo_mabs, xo_mmaxL, xo_mabsL, jw_ge, jw_st, jw_st2, jw_se, jw_un, jw_kk, jw_pp, jw_l4, jw_l1, jw_ps, jw_en, jw_N, jw_C, List.map_cons, List.map_nil, ↓reduceIte, Nat.reduceSub, Nat.reduceAdd, Nat.reduceEqDiff, Nat.reduceLeDiff, Nat.le_refl, Nat.zero_le, true_and, and_true, true_or, or_true, false_or, or_false, false_imp_iff, true_imp_iff, not_true_eq_false, not_false_eq_true, nI_0, nb_1, fa_10, fa_01]
  exact lp (R.length - 1) 1 (0, 0) _ _ _ _ (by omega) (by omega) ⟨by simp, by simp⟩ rfl
end MG
