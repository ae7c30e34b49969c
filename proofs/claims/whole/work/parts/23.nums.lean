/-! numbers -/
theorem li_0 : (0 : Int32) = nI 0 := rfl
theorem nu_or (a b : Nat) : nI a ||| nI b = nI (a ||| b) := by
  apply Int32.toBitVec_inj.mp
  show (nI a).toBitVec ||| (nI b).toBitVec = BitVec.ofNat 32 (a ||| b)
  rw [BitVec.ofNat_or]; rfl
theorem nu_xor (a b : Nat) : nI a ^^^ nI b = nI (a ^^^ b) := by
  apply Int32.toBitVec_inj.mp
  show (nI a).toBitVec ^^^ (nI b).toBitVec = BitVec.ofNat 32 (a ^^^ b)
  rw [BitVec.ofNat_xor]; rfl
theorem nu_and (a b : Nat) : nI a &&& nI b = nI (a &&& b) := by
  apply Int32.toBitVec_inj.mp
  show (nI a).toBitVec &&& (nI b).toBitVec = BitVec.ofNat 32 (a &&& b)
  rw [BitVec.ofNat_and]; rfl
theorem nu_c31 : ∀ n, n < 32 → ((nI n &&& 31).toBitVec.smod 32).toNat = n := by decide +kernel
theorem nu_shr {n i : Nat} (hn : n < 2 ^ 31) (hi : i < 32) : nI n >>> (nI i &&& 31) = nI (n / 2 ^ i) := pk_shrN hn _ i (nu_c31 i hi)
theorem nu_shl {n i : Nat} (hi : i < 32) (h : n * 2 ^ i < 2 ^ 32) : nI n <<< (nI i &&& 31) = nI (n * 2 ^ i) := pk_shlN _ i (nu_c31 i hi) h
theorem nu_a1 {n : Nat} (h : n < 2 ^ 32) : nI n &&& 1 = nI (n % 2) := pk_andN h 1 (by decide)
theorem nu_rem {a d : Nat} (ha : a < 2 ^ 31) (h0 : 0 < d) (hd : d < 2 ^ 31) : nI a - nI a / nI d * nI d = nI (a % d) := pk_rem ha h0 hd
theorem nu_gt {n k : Nat} (hn : n < 2 ^ 31) (hk : k < 2 ^ 31) : ¬ nI n ≤ nI k ↔ k < n := by rw [nI_leI hn hk]; omega
theorem nu_map {ns : List Nat} {j : Nat} : (ns.map nI).getD j 0 = nI (ns.getD j 0) := by
  simp only [List.getD, List.getElem?_map]
  cases ns[j]? <;> rfl
/-- a row holds natural numbers -/
def rn_ (I : Nat → Nat → Int32) (r : Nat) (ns : List Nat) : Prop := rl_ I r (ns.map nI)
theorem rn_fr {I I2 : Nat → Nat → Int32} {r r2 : Nat} {ns : List Nat} (h : rn_ I r ns) (hf : fr_ I I2 r2) (h1 : r ≠ r2) (h2 : r ≠ r2 + 1) (h3 : r + 1 ≠ r2) : rn_ I2 r ns := rl_fr h hf h1 h2 h3
section HN
variable {I : Nat → Nat → Int32} {J : Nat → Nat → Int64} {r n : Nat} {K : jw_K} {xs : List Nat}
theorem rn_size (hr : hr_ r n) (hx : rn_ I r xs) (hK : K (some (.int (nI xs.length))) (hp_ I J)) : cc_4_size [.ref r] (hp_ I J) K := tt_4_size hr hx (by rw [List.length_map]; exact hK)
theorem rn_isEmpty (hr : hr_ r n) (hx : rn_ I r xs) (hn : xs.length ≤ n) (hK : K (some (.int (if xs.length = 0 then 1 else 0))) (hp_ I J)) : cc_4_isEmpty [.ref r] (hp_ I J) K := tt_4_isEmpty hr hx (by rw [List.length_map]; exact hn) (by rw [List.length_map]; exact hK)
theorem rn_at (hr : hr_ r n) (hx : rn_ I r xs) (hn : xs.length ≤ n) (j : Nat) (hj : j < 2 ^ 31) (hK : K (some (.int (nI (xs.getD j 0)))) (hp_ I J)) : cc_4_at [.ref r, .int (nI j)] (hp_ I J) K := tt_4_at hr hx (by rw [List.length_map]; exact hn) _ (by
  have h3 := hr.2.2
  rw [ra_n hj (by rw [List.length_map]; omega), nu_map]; exact hK)
theorem rn_has (hr : hr_ r n) (hx : rn_ I r xs) (hn : xs.length ≤ n) (j : Nat) (hj : j < 2 ^ 31) (hK : K (some (.int (if j < xs.length then 1 else 0))) (hp_ I J)) : cc_4_has [.ref r, .int (nI j)] (hp_ I J) K := tt_4_has hr hx _ (by
  have h3 := hr.2.2
  rw [rh_n hj (by rw [List.length_map]; omega), List.length_map]; exact hK)
theorem rn_push (hr : hr_ r n) (hx : rn_ I r xs) (hn : xs.length < n) (v : Nat) (hK1 : ∀ I2, rn_ I2 r (xs ++ [v]) → fr_ I I2 r → K (some (.int 1)) (hp_ I2 J)) : cc_4_push [.ref r, .int (nI v)] (hp_ I J) K :=
  tt_4_push hr hx (by rw [List.length_map]; omega) _ (fun _ I2 h1 h2 => hK1 I2 (by unfold rn_; rw [List.map_append]; exact h1) h2) (fun h => by rw [List.length_map] at h; omega)
theorem rn_cut0 (hr : hr_ r n) (hx : rn_ I r xs) (hn : xs.length ≤ n) (hK : ∀ I2, rn_ I2 r [] → fr_ I I2 r → K none (hp_ I2 J)) : cc_4_cut [.ref r, .int 0] (hp_ I J) K :=
  tt_4_cut (k := 0) hr hx (by rw [List.length_map]; exact hn) (Nat.zero_le _) (fun I2 h1 h2 => hK I2 h1 h2)
theorem rn_put (hr : hr_ r n) (hx : rn_ I r xs) (hn : xs.length ≤ n) {j : Nat} (hj : j < xs.length) (v : Nat) (hK : ∀ I2, rn_ I2 r (xs.set j v) → fr_ I I2 r → K none (hp_ I2 J)) : cc_4_put [.ref r, .int (nI j), .int (nI v)] (hp_ I J) K :=
  tt_4_put hr hx (by rw [List.length_map]; exact hn) (by rw [List.length_map]; exact hj) _ (fun I2 h1 h2 => hK I2 (by unfold rn_; rw [List.map_set]; exact h1) h2)
theorem su_n (ns : List Nat) : su_ (ns.map nI) = nI ns.sum := by
  unfold su_
  suffices h : ∀ (ns : List Nat) (a : Nat), (ns.map nI).foldl (· + ·) (nI a) = nI (a + ns.sum) by
    have h0 := h ns 0; rw [Nat.zero_add] at h0; exact h0
  intro ns
  induction ns with
  | nil => intro a; simp
  | cons x l ih => intro a; simp only [List.map_cons, List.foldl_cons, nI_add, List.sum_cons]; rw [ih]; congr 1; omega
theorem rn_sum (hr : hr_ r n) (hx : rn_ I r xs) (hn : xs.length ≤ n) (hK : K (some (.int (nI xs.sum))) (hp_ I J)) : cc_4_sum [.ref r] (hp_ I J) K := tt_4_sum hr hx (by rw [List.length_map]; exact hn) (by rw [su_n]; exact hK)
theorem rn_reverse (hr : hr_ r n) (hx : rn_ I r xs) (hn : xs.length ≤ n) (hK : ∀ I2, rn_ I2 r xs.reverse → fr_ I I2 r → K none (hp_ I2 J)) : cc_4_reverse [.ref r] (hp_ I J) K :=
  tt_4_reverse hr hx (by rw [List.length_map]; exact hn) (fun I2 h1 h2 => hK I2 (by unfold rn_; rw [List.map_reverse]; exact h1) h2)
end HN
/-- the rules of either object of Rules: numbers 1 and 8 -/
def hu_ (u : Nat) : Prop := hs_L[u]? = some (fun _ _ => .inr (5, [.ref (u + 1)])) ∧ hs_L[u + 1]? = some (fun f _ => .inl (0, 9, .inl f))
section HU
variable {u : Nat}
theorem hu_g (hu : hu_ u) (I : Nat → Nat → Int32) (J : Nat → Nat → Int64) : jw_gf (hp_ I J) 5 u 0 = some (.ref (u + 1)) := hp_gf hu.1 rfl rfl
theorem hu_a (hu : hu_ u) (I : Nat → Nat → Int32) (J : Nat → Nat → Int64) : (hp_ I J)[u + 1]? = some (.inl (0, 9, .inl (I (u + 1)))) := hp_at hu.2
theorem hu_b (hu : hu_ u) (I : Nat → Nat → Int32) (J : Nat → Nat → Int64) (i : Nat) (v : Int32) : (hp_ I J).set (u + 1) (.inl (0, 9, .inl (upd (I (u + 1)) i v))) = hp_ (hw_ I (u + 1) i v) J := hp_as hu.2
theorem hu_i (hu : hu_ u) (I : Nat → Nat → Int32) (J : Nat → Nat → Int64) : jw_is (hp_ I J) u 5 := hp_is hu.1 rfl
end HU
def uq_ (I : Nat → Nat → Int32) (u : Nat) (rn : Nat → Nat) : Prop := ∀ j, j < 9 → I (u + 1) j = nI (rn j)
/-- bounds of the rules -/
def rb_ (rn : Nat → Nat) : Prop := (3 ≤ rn 0 ∧ rn 0 ≤ 6) ∧ rn 1 ≤ 1 ∧ rn 2 ≤ 63 ∧ rn 3 ≤ 63 ∧ (1 ≤ rn 4 ∧ rn 4 ≤ 20) ∧ (1 ≤ rn 5 ∧ rn 5 ≤ 20) ∧ (5 ≤ rn 6 ∧ rn 6 ≤ 60) ∧ rn 7 ≤ 1 ∧ rn 8 ≤ 2
section HE
variable {I : Nat → Nat → Int32} {J : Nat → Nat → Int64} {K : jw_K} {u : Nat} {rn : Nat → Nat}
/-- entry(table, i) of a table that is written, and of one that nobody writes -/
theorem tt_entryW {a n : Nat} (ha : hs_L[a]? = some (fun f _ => .inl (0, n, .inl f))) (hn : n < 1000) {j : Nat} (hj : j < n) (hK : K (some (.int (I a j))) (hp_ I J)) : cc_10_entry [.ref a, .int (nI j)] (hp_ I J) K := by
  refine jw_Cin (Nat.le_of_ble_eq_true rfl) rfl (fun P hP => hP _ _ _ _ _ ?_)
  have h1 : ¬ nI j < 0 := nI_pos (by omega)
  have h2 : ¬ Int32.ofNat n ≤ nI j := fun h => absurd ((nI_leI (a := n) (b := j) (by omega) (by omega)).mp h) (by omega)
  have h3 : vp_in (nI j) n := vp_in_nI hj (by omega)
  have h4 : (nI j).toNatClampNeg = j := nI_clamp (by omega)
  simp only [qq_10_entry, bb_10_entry_17, bb_10_entry_16, bb_10_entry_0, xo_il, xo_ll, xo_al, xo_is, xo_ls, xo_as, xo_ic, xo_ci, xo_cl, xo_iadd, xo_isub, xo_imul, xo_iand, xo_ior, xo_ixor, xo_ishl, xo_ishr, xo_iushr, xo_idiv, xo_irem, xo_ineg, xo_ladd, xo_lsub, xo_lmul, xo_land, xo_lor, xo_lxor, xo_ldiv, xo_lrem, xo_lneg, xo_lushr, xo_lshl, xo_lshr, xo_lcmp, xo_i2l, xo_l2i, xo_i2b, xo_i2s, xo_i2c, xo_dup, xo_pop, xo_zeq, xo_ceq, xo_zne, xo_cne, xo_zlt, xo_clt, xo_zge, xo_cge, xo_zgt, xo_cgt, xo_zle, xo_cle, xo_sw, xo_ts, xo_gf, xo_pfi, xo_pfl, xo_pfz, xo_pfr, xo_iald, xo_iast, xo_zast, xo_zald, xo_alen, xo_aald, xo_gs, xo_cv, xo_cs, xo_ca, xo_obj, xo_ri, xo_rz, xo_rl, xo_ra, xo_rc, xo_rb, xo_rv, xo_new, xo_newa, xo_anew, xo_aast, xo_mmax, xo_mmin, xo_mabs, xo_mmaxL, xo_mabsL, jw_ge, jw_st, jw_st2, jw_se, jw_un, jw_kk, jw_pp, jw_l4, jw_l1, jw_ps, jw_en, jw_N, jw_C, List.map_cons, List.map_nil, ↓reduceIte, Nat.reduceSub, Nat.reduceAdd, Nat.reduceEqDiff, Nat.reduceLeDiff, Nat.le_refl, Nat.zero_le, true_and, and_true, true_or, or_true, false_or, or_false, false_imp_iff, true_imp_iff, not_true_eq_false, not_false_eq_true, nI_0, nb_1, fa_10, fa_01, hp_at ha, h1, h2, h3, h4, show (0 : Nat) < 4 by decide]
  exact hK
theorem tt_entryR {a n : Nat} {f : Nat → Int32} (ha : 92 ≤ a) (hr : jw_ro a = some (n, f)) (hn : n < 1000) {j : Nat} (hj : j < n) (hK : K (some (.int (f j))) (hp_ I J)) : cc_10_entry [.ref a, .int (nI j)] (hp_ I J) K := by
  refine jw_Cin (Nat.le_of_ble_eq_true rfl) rfl (fun P hP => hP _ _ _ _ _ ?_)
  have h1 : ¬ nI j < 0 := nI_pos (by omega)
  have h2 : ¬ Int32.ofNat n ≤ nI j := fun h => absurd ((nI_leI (a := n) (b := j) (by omega) (by omega)).mp h) (by omega)
  have h3 : vp_in (nI j) n := vp_in_nI hj (by omega)
  have h4 : (nI j).toNatClampNeg = j := nI_clamp (by omega)
  simp only [qq_10_entry, bb_10_entry_17, bb_10_entry_16, bb_10_entry_0, xo_il, xo_ll, xo_al, xo_is, xo_ls, xo_as, xo_ic, xo_ci, xo_cl, xo_iadd, xo_isub, xo_imul, xo_iand, xo_ior, xo_ixor, xo_ishl, xo_ishr, xo_iushr, xo_idiv, xo_irem, xo_ineg, xo_ladd, xo_lsub, xo_lmul, xo_land, xo_lor, xo_lxor, xo_ldiv, xo_lrem, xo_lneg, xo_lushr, xo_lshl, xo_lshr, xo_lcmp, xo_i2l, xo_l2i, xo_i2b, xo_i2s, xo_i2c, xo_dup, xo_pop, xo_zeq, xo_ceq, xo_zne, xo_cne, xo_zlt, xo_clt, xo_zge, xo_cge, xo_zgt, xo_cgt, xo_zle, xo_cle, xo_sw, xo_ts, xo_gf, xo_pfi, xo_pfl, xo_pfz, xo_pfr, xo_iald, xo_iast, xo_zast, xo_zald, xo_alen, xo_aald, xo_gs, xo_cv, xo_cs, xo_ca, xo_obj, xo_ri, xo_rz, xo_rl, xo_ra, xo_rc, xo_rb, xo_rv, xo_new, xo_newa, xo_anew, xo_aast, xo_mmax, xo_mmin, xo_mabs, xo_mmaxL, xo_mabsL, jw_ge, jw_st, jw_st2, jw_se, jw_un, jw_kk, jw_pp, jw_l4, jw_l1, jw_ps, jw_en, jw_N, jw_C, List.map_cons, List.map_nil, ↓reduceIte, Nat.reduceSub, Nat.reduceAdd, Nat.reduceEqDiff, Nat.reduceLeDiff, Nat.le_refl, Nat.zero_le, true_and, and_true, true_or, or_true, false_or, or_false, false_imp_iff, true_imp_iff, not_true_eq_false, not_false_eq_true, nI_0, nb_1, fa_10, fa_01, hp_no ha, hr, h1, h2, h3, h4]
  exact hK
theorem tt_5_of (hu : hu_ u) (hq : uq_ I u rn) {j : Nat} (hj : j < 9) (hK : K (some (.int (nI (rn j)))) (hp_ I J)) : cc_5_of [.ref u, .int (nI j)] (hp_ I J) K := by
  refine jw_Cin (Nat.le_of_ble_eq_true rfl) rfl (fun P hP => hP _ _ _ _ _ ?_)
  simp only [qq_5_of, bb_5_of_0, xo_il, xo_ll, xo_al, xo_is, xo_ls, xo_as, xo_ic, xo_ci, xo_cl, xo_iadd, xo_isub, xo_imul, xo_iand, xo_ior, xo_ixor, xo_ishl, xo_ishr, xo_iushr, xo_idiv, xo_irem, xo_ineg, xo_ladd, xo_lsub, xo_lmul, xo_land, xo_lor, xo_lxor, xo_ldiv, xo_lrem, xo_lneg, xo_lushr, xo_lshl, xo_lshr, xo_lcmp, xo_i2l, xo_l2i, xo_i2b, xo_i2s, xo_i2c, xo_dup, xo_pop, xo_zeq, xo_ceq, xo_zne, xo_cne, xo_zlt, xo_clt, xo_zge, xo_cge, xo_zgt, xo_cgt, xo_zle, xo_cle, xo_sw, xo_ts, xo_gf, xo_pfi, xo_pfl, xo_pfz, xo_pfr, xo_iald, xo_iast, xo_zast, xo_zald, xo_alen, xo_aald, xo_gs, xo_cv, xo_cs, xo_ca, xo_obj, xo_ri, xo_rz, xo_rl, xo_ra, xo_rc, xo_rb, xo_rv, xo_new, xo_newa, xo_anew, xo_aast, xo_mmax, xo_mmin, xo_mabs, xo_mmaxL, xo_mabsL, jw_ge, jw_st, jw_st2, jw_se, jw_un, jw_kk, jw_pp, jw_l4, jw_l1, jw_ps, jw_en, jw_N, jw_C, List.map_cons, List.map_nil, ↓reduceIte, Nat.reduceSub, Nat.reduceAdd, Nat.reduceEqDiff, Nat.reduceLeDiff, Nat.le_refl, Nat.zero_le, true_and, and_true, true_or, or_true, false_or, or_false, false_imp_iff, true_imp_iff, not_true_eq_false, not_false_eq_true, nI_0, nb_1, fa_10, fa_01, hu_g hu]
  refine tt_entryW hu.2 (by decide) hj ?_
  simp only [qq_5_of, bb_5_of_0, xo_il, xo_ll, xo_al, xo_is, xo_ls, xo_as, xo_ic, xo_ci, xo_cl, xo_iadd, xo_isub, xo_imul, xo_iand, xo_ior, xo_ixor, xo_ishl, xo_ishr, xo_iushr, xo_idiv, xo_irem, xo_ineg, xo_ladd, xo_lsub, xo_lmul, xo_land, xo_lor, xo_lxor, xo_ldiv, xo_lrem, xo_lneg, xo_lushr, xo_lshl, xo_lshr, xo_lcmp, xo_i2l, xo_l2i, xo_i2b, xo_i2s, xo_i2c, xo_dup, xo_pop, xo_zeq, xo_ceq, xo_zne, xo_cne, xo_zlt, xo_clt, xo_zge, xo_cge, xo_zgt, xo_cgt, xo_zle, xo_cle, xo_sw, xo_ts, xo_gf, xo_pfi, xo_pfl, xo_pfz, xo_pfr, xo_iald, xo_iast, xo_zast, xo_zald, xo_alen, xo_aald, xo_gs, xo_cv, xo_cs, xo_ca, xo_obj, xo_ri, xo_rz, xo_rl, xo_ra, xo_rc, xo_rb, xo_rv, xo_new, xo_newa, xo_anew, xo_aast, xo_mmax, xo_mmin, xo_mabs, xo_mmaxL, xo_mabsL, jw_ge, jw_st, jw_st2, jw_se, jw_un, jw_kk, jw_pp, jw_l4, jw_l1, jw_ps, jw_en, jw_N, jw_C, List.map_cons, List.map_nil, ↓reduceIte, Nat.reduceSub, Nat.reduceAdd, Nat.reduceEqDiff, Nat.reduceLeDiff, Nat.le_refl, Nat.zero_le, true_and, and_true, true_or, or_true, false_or, or_false, false_imp_iff, true_imp_iff, not_true_eq_false, not_false_eq_true, nI_0, nb_1, fa_10, fa_01, hq j hj]
  exact hK
end HE
