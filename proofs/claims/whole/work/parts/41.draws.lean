/-! draws -/
theorem nu_p32 : ∀ b, b < 32 → (1 : Int32) <<< (nI b &&& 31) = nI (2 ^ b) := by decide +kernel
theorem nu_s32 : ∀ b, b < 32 → (((nI b).toUInt32 &&& Int32.toUInt32 31).toBitVec % 32).toNat = b := by decide +kernel
def sp_ : List (Nat × Nat) → Nat
  | [] => 0
  | x :: l => x.2 + 2 * sp_ l
theorem sp_lt : ∀ (l : List (Nat × Nat)), (∀ x ∈ l, x.2 ≤ 1) → sp_ l < 2 ^ l.length
  | [], _ => by simp [sp_]
  | x :: l, h => by
    have h1 := h x List.mem_cons_self
    have h2 := sp_lt l (fun y hy => h y (List.mem_cons_of_mem _ hy))
    simp only [sp_, List.length_cons, Nat.pow_succ]
    omega
theorem sp_app : ∀ (l : List (Nat × Nat)) (x : Nat × Nat), sp_ (l ++ [x]) = sp_ l + 2 ^ l.length * x.2
  | [], x => by simp [sp_]
  | y :: l, x => by
    simp only [List.cons_append, sp_, List.length_cons, sp_app l x, Nat.pow_succ]
    rw [Nat.mul_add, ← Nat.add_assoc, show 2 ^ l.length * 2 * x.2 = 2 * (2 ^ l.length * x.2) by rw [Nat.mul_comm (2 ^ l.length) 2, Nat.mul_assoc]]
theorem sp_bit : ∀ (l : List (Nat × Nat)) (p : Nat), (∀ x ∈ l, x.2 ≤ 1) → sp_ l / 2 ^ p % 2 = (l.getD p (0, 0)).2
  | [], p, _ => by simp [sp_]
  | x :: l, 0, h => by
    have h1 := h x List.mem_cons_self
    simp only [sp_, Nat.pow_zero, Nat.div_one, List.getD_cons_zero]
    omega
  | x :: l, p + 1, h => by
    have h1 := h x List.mem_cons_self
    have h2 := sp_bit l p (fun y hy => h y (List.mem_cons_of_mem _ hy))
    rw [List.getD_cons_succ, ← h2, sp_, Nat.pow_succ, Nat.mul_comm (2 ^ p) 2, ← Nat.div_div_eq_div_mul, show (x.2 + 2 * sp_ l) / 2 = sp_ l by omega]
theorem us_n {m p : Nat} (hm : m < 2 ^ 32) (hp : p < 32) : ((nI m).toUInt32 >>> ((nI p).toUInt32 &&& Int32.toUInt32 31)).toInt32 &&& 1 = nI (m / 2 ^ p % 2) := by
  rw [pk_and _ 1 (by decide)]
  have h : (((nI m).toUInt32 >>> ((nI p).toUInt32 &&& Int32.toUInt32 31)).toInt32).toBitVec.toNat = (nI m).toBitVec.toNat / 2 ^ p := pk_ushr (nI m) (nI p) p (nu_s32 p hp)
  rw [h, show (nI m).toBitVec.toNat = m from Nat.mod_eq_of_lt hm]
theorem or_p2 {m i : Nat} (h : m < 2 ^ i) : m ||| 2 ^ i = m + 2 ^ i := by
  have := Nat.two_pow_add_eq_or_of_lt h 1
  rw [Nat.mul_one] at this
  rw [Nat.or_comm, ← this, Nat.add_comm]
theorem hd_c : ∀ k, k < 6 → hs_L[38 + 3 * k]? = some (fun f _ => .inr (0, [.ref (39 + 3 * k), .int (f 1)]))
  | 0, _ => rfl
  | 1, _ => rfl
  | 2, _ => rfl
  | 3, _ => rfl
  | 4, _ => rfl
  | 5, _ => rfl
  | k + 6, h => absurd h (by omega)
theorem hd_r : ∀ k, k < 6 → hr_ (39 + 3 * k) 32
  | 0, _ => ⟨rfl, rfl, by decide⟩
  | 1, _ => ⟨rfl, rfl, by decide⟩
  | 2, _ => ⟨rfl, rfl, by decide⟩
  | 3, _ => ⟨rfl, rfl, by decide⟩
  | 4, _ => ⟨rfl, rfl, by decide⟩
  | 5, _ => ⟨rfl, rfl, by decide⟩
  | k + 6, h => absurd h (by omega)
/-- draw k holds d -/
def dv_ (I : Nat → Nat → Int32) (k : Nat) (d : List (Nat × Nat)) : Prop := rn_ I (39 + 3 * k) (d.map (·.1)) ∧ d.length ≤ 32 ∧ I (38 + 3 * k) 1 = nI (sp_ d) ∧ ∀ x ∈ d, x.1 < 64 ∧ x.2 ≤ 1
def ds_ (I : Nat → Nat → Int32) (ds : List (List (Nat × Nat))) : Prop := I 36 1 = nI ds.length ∧ ds.length ≤ 6 ∧ ∀ k, k < 6 → ∃ d, dv_ I k d ∧ ∀ d2, ds[k]? = some d2 → d2 = d
theorem dv_eq {I I2 : Nat → Nat → Int32} {k : Nat} {d : List (Nat × Nat)} (h : dv_ I k d) (h1 : I2 (38 + 3 * k) = I (38 + 3 * k)) (h2 : I2 (39 + 3 * k) = I (39 + 3 * k)) (h3 : I2 (40 + 3 * k) = I (40 + 3 * k)) : dv_ I2 k d :=
  ⟨rn_eq h.1 h2 (by rw [show 39 + 3 * k + 1 = 40 + 3 * k by omega]; exact h3), h.2.1, by rw [h1]; exact h.2.2.1, h.2.2.2⟩
theorem ds_ff {a b : Nat} {I I2 : Nat → Nat → Int32} {ds : List (List (Nat × Nat))} (h : ds_ I ds) (hf : ff_ a b I I2) (hr : b ≤ 36 ∨ 56 ≤ a) : ds_ I2 ds :=
  ⟨by rw [hf 36 (by omega)]; exact h.1, h.2.1, fun k hk => by
    obtain ⟨d, h1, h2⟩ := h.2.2 k hk
    exact ⟨d, dv_eq h1 (hf _ (by omega)) (hf _ (by omega)) (hf _ (by omega)), h2⟩⟩
theorem ds_at {I : Nat → Nat → Int32} {ds : List (List (Nat × Nat))} (h : ds_ I ds) {k : Nat} (hk : k < ds.length) : dv_ I k (ds.getD k []) := by
  obtain ⟨d, h1, h2⟩ := h.2.2 k (by have := h.2.1; omega)
  have := h2 ds[k] (List.getElem?_eq_getElem hk)
  rw [show ds.getD k [] = ds[k] by simp [List.getD, hk], this]
  exact h1
theorem gv_1 {d : List (Nat × Nat)} {k : Nat} : (d.map (·.1)).getD k 0 = (d.getD k (0, 0)).1 := by
  simp only [List.getD, List.getElem?_map]
  cases d[k]? <;> rfl
section DR
variable {I : Nat → Nat → Int32} {J : Nat → Nat → Int64} {K : jw_K} {k : Nat} {d : List (Nat × Nat)} {ds : List (List (Nat × Nat))}
theorem hd_g0 (hk : k < 6) (I : Nat → Nat → Int32) (J : Nat → Nat → Int64) : jw_gf (hp_ I J) 0 (38 + 3 * k) 0 = some (.ref (39 + 3 * k)) := hp_gf (hd_c k hk) rfl rfl
theorem hd_g1 (hk : k < 6) (I : Nat → Nat → Int32) (J : Nat → Nat → Int64) : jw_gf (hp_ I J) 0 (38 + 3 * k) 1 = some (.int (I (38 + 3 * k) 1)) := hp_gf (hd_c k hk) rfl rfl
theorem hd_p1 (hk : k < 6) (I : Nat → Nat → Int32) (J : Nat → Nat → Int64) (v : Int32) : jw_pf (hp_ I J) 0 (38 + 3 * k) 1 (.int v) = some (hp_ (hw_ I (38 + 3 * k) 1 v) J) := hp_pf (hd_c k hk) rfl (by simp) rfl
theorem hd_i (hk : k < 6) (I : Nat → Nat → Int32) (J : Nat → Nat → Int64) : jw_is (hp_ I J) (38 + 3 * k) 0 := hp_is (hd_c k hk) rfl
theorem tt_0_size (hk : k < 6) (hd : dv_ I k d) (hK : K (some (.int (nI d.length))) (hp_ I J)) : cc_0_size [.ref (38 + 3 * k)] (hp_ I J) K := by
  refine jw_Cin (Nat.le_of_ble_eq_true rfl) rfl (fun P hP => hP _ _ _ _ _ ?_)
  simp only [qq_0_size, bb_0_size_0, xo_il, xo_ll, xo_al, xo_is, xo_ls, xo_as, xo_ic, xo_ci, xo_cl, xo_iadd, xo_isub, xo_imul, xo_iand, xo_ior, xo_ixor, xo_ishl, xo_ishr, xo_iushr, xo_idiv, xo_irem, xo_ineg, xo_ladd, xo_lsub, xo_lmul, xo_land, xo_lor, xo_lxor, xo_ldiv, xo_lrem, xo_lneg, xo_lushr, xo_lshl, xo_lshr, xo_lcmp, xo_i2l, xo_l2i, xo_i2b, xo_i2s, xo_i2c, xo_dup, xo_pop, xo_zeq, xo_ceq, xo_zne, xo_cne, xo_zlt, xo_clt, xo_zge, xo_cge, xo_zgt, xo_cgt, xo_zle, xo_cle, xo_sw, xo_ts, xo_gf, xo_pfi, xo_pfl, xo_pfz, xo_pfr, xo_iald, xo_iast, xo_zast, xo_zald, xo_alen, xo_aald, xo_gs, xo_cv, xo_cs, xo_ca, xo_obj, xo_ri, xo_rz, xo_rl, xo_ra, xo_rc, xo_rb, xo_rv, xo_new, xo_newa, xo_anew, xo_aast, xo_mmax, xo_mmin, xo_mabs, xo_mmaxL, xo_mabsL, jw_ge, jw_st, jw_st2, jw_se, jw_un, jw_kk, jw_pp, jw_l4, jw_l1, jw_ps, jw_en, jw_N, jw_C, List.map_cons, List.map_nil, ↓reduceIte, Nat.reduceSub, Nat.reduceAdd, Nat.reduceEqDiff, Nat.reduceLeDiff, Nat.le_refl, Nat.zero_le, true_and, and_true, true_or, or_true, false_or, or_false, false_imp_iff, true_imp_iff, not_true_eq_false, not_false_eq_true, nI_0, nb_1, fa_10, fa_01, hd_g0 hk, hr_i (hd_r k hk)]
  refine rn_size (hd_r k hk) hd.1 ?_
  simp only [xo_il, xo_ll, xo_al, xo_is, xo_ls, xo_as, xo_ic, xo_ci, xo_cl, xo_iadd, xo_isub, xo_imul, xo_iand, xo_ior, xo_ixor, xo_ishl, xo_ishr, xo_iushr, xo_idiv, xo_irem, xo_ineg, xo_ladd, xo_lsub, xo_lmul, xo_land, xo_lor, xo_lxor, xo_ldiv, xo_lrem, xo_lneg, xo_lushr, xo_lshl, xo_lshr, xo_lcmp, xo_i2l, xo_l2i, xo_i2b, xo_i2s, xo_i2c, xo_dup, xo_pop, xo_zeq, xo_ceq, xo_zne, xo_cne, xo_zlt, xo_clt, xo_zge, xo_cge, xo_zgt, xo_cgt, xo_zle, xo_cle, xo_sw, xo_ts, xo_gf, xo_pfi, xo_pfl, xo_pfz, xo_pfr, xo_iald, xo_iast, xo_zast, xo_zald, xo_alen, xo_aald, xo_gs, xo_cv, xo_cs, xo_ca, xo_obj, xo_ri, xo_rz, xo_rl, xo_ra, xo_rc, xo_rb, xo_rv, xo_new, xo_newa, xo_anew, xo_aast, xo_mmax, xo_mmin, xo_mabs, xo_mmaxL, xo_mabsL, jw_ge, jw_st, jw_st2, jw_se, jw_un, jw_kk, jw_pp, jw_l4, jw_l1, jw_ps, jw_en, jw_N, jw_C, List.map_cons, List.map_nil, ↓reduceIte, Nat.reduceSub, Nat.reduceAdd, Nat.reduceEqDiff, Nat.reduceLeDiff, Nat.le_refl, Nat.zero_le, true_and, and_true, true_or, or_true, false_or, or_false, false_imp_iff, true_imp_iff, not_true_eq_false, not_false_eq_true, nI_0, nb_1, fa_10, fa_01, List.length_map]
  exact hK
theorem tt_0_at (hk : k < 6) (hd : dv_ I k d) {p : Nat} (hp : p < 1000) (hK : K (some (.int (nI (d.getD p (0, 0)).1))) (hp_ I J)) : cc_0_at [.ref (38 + 3 * k), .int (nI p)] (hp_ I J) K := by
  refine jw_Cin (Nat.le_of_ble_eq_true rfl) rfl (fun P hP => hP _ _ _ _ _ ?_)
  simp only [qq_0_at, bb_0_at_0, xo_il, xo_ll, xo_al, xo_is, xo_ls, xo_as, xo_ic, xo_ci, xo_cl, xo_iadd, xo_isub, xo_imul, xo_iand, xo_ior, xo_ixor, xo_ishl, xo_ishr, xo_iushr, xo_idiv, xo_irem, xo_ineg, xo_ladd, xo_lsub, xo_lmul, xo_land, xo_lor, xo_lxor, xo_ldiv, xo_lrem, xo_lneg, xo_lushr, xo_lshl, xo_lshr, xo_lcmp, xo_i2l, xo_l2i, xo_i2b, xo_i2s, xo_i2c, xo_dup, xo_pop, xo_zeq, xo_ceq, xo_zne, xo_cne, xo_zlt, xo_clt, xo_zge, xo_cge, xo_zgt, xo_cgt, xo_zle, xo_cle, xo_sw, xo_ts, xo_gf, xo_pfi, xo_pfl, xo_pfz, xo_pfr, xo_iald, xo_iast, xo_zast, xo_zald, xo_alen, xo_aald, xo_gs, xo_cv, xo_cs, xo_ca, xo_obj, xo_ri, xo_rz, xo_rl, xo_ra, xo_rc, xo_rb, xo_rv, xo_new, xo_newa, xo_anew, xo_aast, xo_mmax, xo_mmin, xo_mabs, xo_mmaxL, xo_mabsL, jw_ge, jw_st, jw_st2, jw_se, jw_un, jw_kk, jw_pp, jw_l4, jw_l1, jw_ps, jw_en, jw_N, jw_C, List.map_cons, List.map_nil, ↓reduceIte, Nat.reduceSub, Nat.reduceAdd, Nat.reduceEqDiff, Nat.reduceLeDiff, Nat.le_refl, Nat.zero_le, true_and, and_true, true_or, or_true, false_or, or_false, false_imp_iff, true_imp_iff, not_true_eq_false, not_false_eq_true, nI_0, nb_1, fa_10, fa_01, hd_g0 hk, hr_i (hd_r k hk)]
  refine rn_at (hd_r k hk) hd.1 (by rw [List.length_map]; exact hd.2.1) p (by omega) ?_
  simp only [xo_il, xo_ll, xo_al, xo_is, xo_ls, xo_as, xo_ic, xo_ci, xo_cl, xo_iadd, xo_isub, xo_imul, xo_iand, xo_ior, xo_ixor, xo_ishl, xo_ishr, xo_iushr, xo_idiv, xo_irem, xo_ineg, xo_ladd, xo_lsub, xo_lmul, xo_land, xo_lor, xo_lxor, xo_ldiv, xo_lrem, xo_lneg, xo_lushr, xo_lshl, xo_lshr, xo_lcmp, xo_i2l, xo_l2i, xo_i2b, xo_i2s, xo_i2c, xo_dup, xo_pop, xo_zeq, xo_ceq, xo_zne, xo_cne, xo_zlt, xo_clt, xo_zge, xo_cge, xo_zgt, xo_cgt, xo_zle, xo_cle, xo_sw, xo_ts, xo_gf, xo_pfi, xo_pfl, xo_pfz, xo_pfr, xo_iald, xo_iast, xo_zast, xo_zald, xo_alen, xo_aald, xo_gs, xo_cv, xo_cs, xo_ca, xo_obj, xo_ri, xo_rz, xo_rl, xo_ra, xo_rc, xo_rb, xo_rv, xo_new, xo_newa, xo_anew, xo_aast, xo_mmax, xo_mmin, xo_mabs, xo_mmaxL, xo_mabsL, jw_ge, jw_st, jw_st2, jw_se, jw_un, jw_kk, jw_pp, jw_l4, jw_l1, jw_ps, jw_en, jw_N, jw_C, List.map_cons, List.map_nil, ↓reduceIte, Nat.reduceSub, Nat.reduceAdd, Nat.reduceEqDiff, Nat.reduceLeDiff, Nat.le_refl, Nat.zero_le, true_and, and_true, true_or, or_true, false_or, or_false, false_imp_iff, true_imp_iff, not_true_eq_false, not_false_eq_true, nI_0, nb_1, fa_10, fa_01, gv_1]
  exact hK
theorem tt_0_isSoundAt (hk : k < 6) (hd : dv_ I k d) {p : Nat} (hp : p < 1000) (hK : K (some (.int (nI (d.getD p (0, 0)).2))) (hp_ I J)) : cc_0_isSoundAt [.ref (38 + 3 * k), .int (nI p)] (hp_ I J) K := by
  refine jw_Cin (Nat.le_of_ble_eq_true rfl) rfl (fun P hP => hP _ _ _ _ _ ?_)
  simp only [qq_0_isSoundAt, bb_0_isSoundAt_28, bb_0_isSoundAt_27, bb_0_isSoundAt_0, xo_il, xo_ll, xo_al, xo_is, xo_ls, xo_as, xo_ic, xo_ci, xo_cl, xo_iadd, xo_isub, xo_imul, xo_iand, xo_ior, xo_ixor, xo_ishl, xo_ishr, xo_iushr, xo_idiv, xo_irem, xo_ineg, xo_ladd, xo_lsub, xo_lmul, xo_land, xo_lor, xo_lxor, xo_ldiv, xo_lrem, xo_lneg, xo_lushr, xo_lshl, xo_lshr, xo_lcmp, xo_i2l, xo_l2i, xo_i2b, xo_i2s, xo_i2c, xo_dup, xo_pop, xo_zeq, xo_ceq, xo_zne, xo_cne, xo_zlt, xo_clt, xo_zge, xo_cge, xo_zgt, xo_cgt, xo_zle, xo_cle, xo_sw, xo_ts, xo_gf, xo_pfi, xo_pfl, xo_pfz, xo_pfr, xo_iald, xo_iast, xo_zast, xo_zald, xo_alen, xo_aald, xo_gs, xo_cv, xo_cs, xo_ca, xo_obj, xo_ri, xo_rz, xo_rl, xo_ra, xo_rc, xo_rb, xo_rv, xo_new, xo_newa, xo_anew, xo_aast, xo_mmax, xo_mmin, xo_mabs, xo_mmaxL, xo_mabsL, jw_ge, jw_st, jw_st2, jw_se, jw_un, jw_kk, jw_pp, jw_l4, jw_l1, jw_ps, jw_en, jw_N, jw_C, List.map_cons, List.map_nil, ↓reduceIte, Nat.reduceSub, Nat.reduceAdd, Nat.reduceEqDiff, Nat.reduceLeDiff, Nat.le_refl, Nat.zero_le, true_and, and_true, true_or, or_true, false_or, or_false, false_imp_iff, true_imp_iff, not_true_eq_false, not_false_eq_true, nI_0, nb_1, fa_10, fa_01, hd_g0 hk, hr_i (hd_r k hk)]
  refine rn_has (hd_r k hk) hd.1 (by rw [List.length_map]; exact hd.2.1) p (by omega) ?_
  have hn := hd.2.1
  by_cases hpd : p < d.length
  · have e : (if p < (d.map (·.1)).length then (1 : Int32) else 0) = 1 := if_pos (by rw [List.length_map]; exact hpd)
    have hb := sp_bit d p (fun x hx => (hd.2.2.2 x hx).2)
    have hlt := sp_lt d (fun x hx => (hd.2.2.2 x hx).2)
    have hle : 2 ^ d.length ≤ 2 ^ 32 := Nat.pow_le_pow_right (by omega) hn
    have h01 : (d.getD p (0, 0)).2 ≤ 1 := by
      rw [show d.getD p (0, 0) = d[p] by simp [List.getD, hpd]]
      exact (hd.2.2.2 _ (List.getElem_mem hpd)).2
    rw [e]
    simp only [qq_0_isSoundAt, bb_0_isSoundAt_28, bb_0_isSoundAt_27, bb_0_isSoundAt_0, xo_il, xo_ll, xo_al, xo_is, xo_ls, xo_as, xo_ic, xo_ci, xo_cl, xo_iadd, xo_isub, xo_imul, xo_iand, xo_ior, xo_ixor, xo_ishl, xo_ishr, xo_iushr, xo_idiv, xo_irem, xo_ineg, xo_ladd, xo_lsub, xo_lmul, xo_land, xo_lor, xo_lxor, xo_ldiv, xo_lrem, xo_lneg, xo_lushr, xo_lshl, xo_lshr, xo_lcmp, xo_i2l, xo_l2i, xo_i2b, xo_i2s, xo_i2c, xo_dup, xo_pop, xo_zeq, xo_ceq, xo_zne, xo_cne, xo_zlt, xo_clt, xo_zge, xo_cge, xo_zgt, xo_cgt, xo_zle, xo_cle, xo_sw, xo_ts, xo_gf, xo_pfi, xo_pfl, xo_pfz, xo_pfr, xo_iald, xo_iast, xo_zast, xo_zald, xo_alen, xo_aald, xo_gs, xo_cv, xo_cs, xo_ca, xo_obj, xo_ri, xo_rz, xo_rl, xo_ra, xo_rc, xo_rb, xo_rv, xo_new, xo_newa, xo_anew, xo_aast, xo_mmax, xo_mmin, xo_mabs, xo_mmaxL, xo_mabsL, jw_ge, jw_st, jw_st2, jw_se, jw_un, jw_kk, jw_pp, jw_l4, jw_l1, jw_ps, jw_en, jw_N, jw_C, List.map_cons, List.map_nil, ↓reduceIte, Nat.reduceSub, Nat.reduceAdd, Nat.reduceEqDiff, Nat.reduceLeDiff, Nat.le_refl, Nat.zero_le, true_and, and_true, true_or, or_true, false_or, or_false, false_imp_iff, true_imp_iff, not_true_eq_false, not_false_eq_true, nI_0, nb_1, fa_10, fa_01, hd_g1 hk, hd.2.2.1, us_n (show sp_ d < 2 ^ 32 by omega) (show p < 32 by omega), hb]
    generalize (d.getD p (0, 0)).2 = b at hK h01 ⊢
    rcases (by omega : b = 0 ∨ b = 1) with rfl | rfl
    · exact ⟨fun _ => hK, fun h => absurd h (by decide)⟩
    · exact ⟨fun h => absurd rfl h, fun _ => hK⟩
  · have e : (if p < (d.map (·.1)).length then (1 : Int32) else 0) = 0 := if_neg (by rw [List.length_map]; exact hpd)
    rw [e]
    simp only [qq_0_isSoundAt, bb_0_isSoundAt_28, bb_0_isSoundAt_27, bb_0_isSoundAt_0, xo_il, xo_ll, xo_al, xo_is, xo_ls, xo_as, xo_ic, xo_ci, xo_cl, xo_iadd, xo_isub, xo_imul, xo_iand, xo_ior, xo_ixor, xo_ishl, xo_ishr, xo_iushr, xo_idiv, xo_irem, xo_ineg, xo_ladd, xo_lsub, xo_lmul, xo_land, xo_lor, xo_lxor, xo_ldiv, xo_lrem, xo_lneg, xo_lushr, xo_lshl, xo_lshr, xo_lcmp, xo_i2l, xo_l2i, xo_i2b, xo_i2s, xo_i2c, xo_dup, xo_pop, xo_zeq, xo_ceq, xo_zne, xo_cne, xo_zlt, xo_clt, xo_zge, xo_cge, xo_zgt, xo_cgt, xo_zle, xo_cle, xo_sw, xo_ts, xo_gf, xo_pfi, xo_pfl, xo_pfz, xo_pfr, xo_iald, xo_iast, xo_zast, xo_zald, xo_alen, xo_aald, xo_gs, xo_cv, xo_cs, xo_ca, xo_obj, xo_ri, xo_rz, xo_rl, xo_ra, xo_rc, xo_rb, xo_rv, xo_new, xo_newa, xo_anew, xo_aast, xo_mmax, xo_mmin, xo_mabs, xo_mmaxL, xo_mabsL, jw_ge, jw_st, jw_st2, jw_se, jw_un, jw_kk, jw_pp, jw_l4, jw_l1, jw_ps, jw_en, jw_N, jw_C, List.map_cons, List.map_nil, ↓reduceIte, Nat.reduceSub, Nat.reduceAdd, Nat.reduceEqDiff, Nat.reduceLeDiff, Nat.le_refl, Nat.zero_le, true_and, and_true, true_or, or_true, false_or, or_false, false_imp_iff, true_imp_iff, not_true_eq_false, not_false_eq_true, nI_0, nb_1, fa_10, fa_01]
    rw [show d.getD p (0, 0) = (0, 0) by simp [List.getD, List.getElem?_eq_none (by omega : d.length ≤ p)]] at hK
    exact hK
theorem tt_0_take {xs ys : List Nat} {n : Nat} (hk : k < 6) (hd : dv_ I k d) (hx : rn_ I 25 xs) (hxn : xs.length ≤ 35) (hy : rn_ I 27 ys) (hyn : ys.length ≤ 35) (h1 : ∀ q ∈ ys, q ≤ 1) (h64 : ∀ q ∈ xs, q < 64) (h4 : I 24 4 = nI n) (hn : n ≤ 32) (hK : ∀ I2, dv_ I2 k ((List.range n).map (fun i => (xs.getD (i + 1) 0, ys.getD (i + 1) 0))) → (∀ q, q ≠ 38 + 3 * k → q ≠ 39 + 3 * k → q ≠ 40 + 3 * k → I2 q = I q) → K none (hp_ I2 J)) : cc_0_take [.ref (38 + 3 * k), .ref 24] (hp_ I J) K := by
  refine jw_Cin (Nat.le_of_ble_eq_true rfl) rfl (fun P hP => ?_)
  have hxv : ∀ i, xs.getD i 0 < 64 := fun i => by
    by_cases h : i < xs.length
    · exact h64 _ (gd_mem h)
    · simp [List.getD, List.getElem?_eq_none (by omega : xs.length ≤ i)]
  have hyv := gd_le1 h1
  have hmem : ∀ i, ∀ x ∈ (List.range i).map (fun i => (xs.getD (i + 1) 0, ys.getD (i + 1) 0)), x.1 < 64 ∧ x.2 ≤ 1 := by
    intro i x hx
    obtain ⟨j, -, rfl⟩ := List.mem_map.mp hx
    exact ⟨hxv _, hyv _⟩
  have lp : ∀ (m i : Nat) (I1 : Nat → Nat → Int32), n = i + m → dv_ I1 k ((List.range i).map (fun i => (xs.getD (i + 1) 0, ys.getD (i + 1) 0))) → (∀ q, q ≠ 38 + 3 * k → q ≠ 39 + 3 * k → q ≠ 40 + 3 * k → I1 q = I q) → P 15 [.ref (38 + 3 * k), .ref 24, .int (nI i)] [] (hp_ I1 J) (0, 0) := by
    intro m
    induction m with
    | zero =>
      intro i I1 hi hd1 hf
      have hle : nI n ≤ nI i := (nI_leI (by omega) (by omega)).mpr (by omega)
      refine hP _ _ _ _ _ ?_
      simp only [qq_0_take, bb_0_take_62, bb_0_take_15, bb_0_take_0, xo_il, xo_ll, xo_al, xo_is, xo_ls, xo_as, xo_ic, xo_ci, xo_cl, xo_iadd, xo_isub, xo_imul, xo_iand, xo_ior, xo_ixor, xo_ishl, xo_ishr, xo_iushr, xo_idiv, xo_irem, xo_ineg, xo_ladd, xo_lsub, xo_lmul, xo_land, xo_lor, xo_lxor, xo_ldiv, xo_lrem, xo_lneg, xo_lushr, xo_lshl, xo_lshr, xo_lcmp, xo_i2l, xo_l2i, xo_i2b, xo_i2s, xo_i2c, xo_dup, xo_pop, xo_zeq, xo_ceq, xo_zne, xo_cne, xo_zlt, xo_clt, xo_zge, xo_cge, xo_zgt, xo_cgt, xo_zle, xo_cle, xo_sw, xo_ts, xo_gf, xo_pfi, xo_pfl, xo_pfz, xo_pfr, xo_iald, xo_iast, xo_zast, xo_zald, xo_alen, xo_aald, xo_gs, xo_cv, xo_cs, xo_ca, xo_obj, xo_ri, xo_rz, xo_rl, xo_ra, xo_rc, xo_rb, xo_rv, xo_new, xo_newa, xo_anew, xo_aast, xo_mmax, xo_mmin, xo_mabs, xo_mmaxL, xo_mabsL, jw_ge, jw_st, jw_st2, jw_se, jw_un, jw_kk, jw_pp, jw_l4, jw_l1, jw_ps, jw_en, jw_N, jw_C, List.map_cons, List.map_nil, ↓reduceIte, Nat.reduceSub, Nat.reduceAdd, Nat.reduceEqDiff, Nat.reduceLeDiff, Nat.le_refl, Nat.zero_le, true_and, and_true, true_or, or_true, false_or, or_false, false_imp_iff, true_imp_iff, not_true_eq_false, not_false_eq_true, nI_0, nb_1, fa_10, fa_01, hi_24]
      refine tt_2_values ?_
      rw [hf 24 (by omega) (by omega) (by omega), h4]
      simp only [qq_0_take, bb_0_take_62, bb_0_take_15, bb_0_take_0, xo_il, xo_ll, xo_al, xo_is, xo_ls, xo_as, xo_ic, xo_ci, xo_cl, xo_iadd, xo_isub, xo_imul, xo_iand, xo_ior, xo_ixor, xo_ishl, xo_ishr, xo_iushr, xo_idiv, xo_irem, xo_ineg, xo_ladd, xo_lsub, xo_lmul, xo_land, xo_lor, xo_lxor, xo_ldiv, xo_lrem, xo_lneg, xo_lushr, xo_lshl, xo_lshr, xo_lcmp, xo_i2l, xo_l2i, xo_i2b, xo_i2s, xo_i2c, xo_dup, xo_pop, xo_zeq, xo_ceq, xo_zne, xo_cne, xo_zlt, xo_clt, xo_zge, xo_cge, xo_zgt, xo_cgt, xo_zle, xo_cle, xo_sw, xo_ts, xo_gf, xo_pfi, xo_pfl, xo_pfz, xo_pfr, xo_iald, xo_iast, xo_zast, xo_zald, xo_alen, xo_aald, xo_gs, xo_cv, xo_cs, xo_ca, xo_obj, xo_ri, xo_rz, xo_rl, xo_ra, xo_rc, xo_rb, xo_rv, xo_new, xo_newa, xo_anew, xo_aast, xo_mmax, xo_mmin, xo_mabs, xo_mmaxL, xo_mabsL, jw_ge, jw_st, jw_st2, jw_se, jw_un, jw_kk, jw_pp, jw_l4, jw_l1, jw_ps, jw_en, jw_N, jw_C, List.map_cons, List.map_nil, ↓reduceIte, Nat.reduceSub, Nat.reduceAdd, Nat.reduceEqDiff, Nat.reduceLeDiff, Nat.le_refl, Nat.zero_le, true_and, and_true, true_or, or_true, false_or, or_false, false_imp_iff, true_imp_iff, not_true_eq_false, not_false_eq_true, nI_0, nb_1, fa_10, fa_01, hle]
      rw [show n = i by omega] at hK
      exact hK I1 hd1 hf
    | succ m ih =>
      intro i I1 hi hd1 hf
      have hle : ¬ nI n ≤ nI i := (nu_gt (by omega) (by omega)).mpr (by omega)
      have hx1 : rn_ I1 25 xs := rn_eq hx (hf _ (by omega) (by omega) (by omega)) (hf _ (by omega) (by omega) (by omega))
      refine hP _ _ _ _ _ ?_
      simp only [qq_0_take, bb_0_take_62, bb_0_take_15, bb_0_take_0, xo_il, xo_ll, xo_al, xo_is, xo_ls, xo_as, xo_ic, xo_ci, xo_cl, xo_iadd, xo_isub, xo_imul, xo_iand, xo_ior, xo_ixor, xo_ishl, xo_ishr, xo_iushr, xo_idiv, xo_irem, xo_ineg, xo_ladd, xo_lsub, xo_lmul, xo_land, xo_lor, xo_lxor, xo_ldiv, xo_lrem, xo_lneg, xo_lushr, xo_lshl, xo_lshr, xo_lcmp, xo_i2l, xo_l2i, xo_i2b, xo_i2s, xo_i2c, xo_dup, xo_pop, xo_zeq, xo_ceq, xo_zne, xo_cne, xo_zlt, xo_clt, xo_zge, xo_cge, xo_zgt, xo_cgt, xo_zle, xo_cle, xo_sw, xo_ts, xo_gf, xo_pfi, xo_pfl, xo_pfz, xo_pfr, xo_iald, xo_iast, xo_zast, xo_zald, xo_alen, xo_aald, xo_gs, xo_cv, xo_cs, xo_ca, xo_obj, xo_ri, xo_rz, xo_rl, xo_ra, xo_rc, xo_rb, xo_rv, xo_new, xo_newa, xo_anew, xo_aast, xo_mmax, xo_mmin, xo_mabs, xo_mmaxL, xo_mabsL, jw_ge, jw_st, jw_st2, jw_se, jw_un, jw_kk, jw_pp, jw_l4, jw_l1, jw_ps, jw_en, jw_N, jw_C, List.map_cons, List.map_nil, ↓reduceIte, Nat.reduceSub, Nat.reduceAdd, Nat.reduceEqDiff, Nat.reduceLeDiff, Nat.le_refl, Nat.zero_le, true_and, and_true, true_or, or_true, false_or, or_false, false_imp_iff, true_imp_iff, not_true_eq_false, not_false_eq_true, nI_0, nb_1, fa_10, fa_01, hi_24]
      refine tt_2_values ?_
      rw [hf 24 (by omega) (by omega) (by omega), h4]
      simp only [qq_0_take, bb_0_take_62, bb_0_take_15, bb_0_take_0, xo_il, xo_ll, xo_al, xo_is, xo_ls, xo_as, xo_ic, xo_ci, xo_cl, xo_iadd, xo_isub, xo_imul, xo_iand, xo_ior, xo_ixor, xo_ishl, xo_ishr, xo_iushr, xo_idiv, xo_irem, xo_ineg, xo_ladd, xo_lsub, xo_lmul, xo_land, xo_lor, xo_lxor, xo_ldiv, xo_lrem, xo_lneg, xo_lushr, xo_lshl, xo_lshr, xo_lcmp, xo_i2l, xo_l2i, xo_i2b, xo_i2s, xo_i2c, xo_dup, xo_pop, xo_zeq, xo_ceq, xo_zne, xo_cne, xo_zlt, xo_clt, xo_zge, xo_cge, xo_zgt, xo_cgt, xo_zle, xo_cle, xo_sw, xo_ts, xo_gf, xo_pfi, xo_pfl, xo_pfz, xo_pfr, xo_iald, xo_iast, xo_zast, xo_zald, xo_alen, xo_aald, xo_gs, xo_cv, xo_cs, xo_ca, xo_obj, xo_ri, xo_rz, xo_rl, xo_ra, xo_rc, xo_rb, xo_rv, xo_new, xo_newa, xo_anew, xo_aast, xo_mmax, xo_mmin, xo_mabs, xo_mmaxL, xo_mabsL, jw_ge, jw_st, jw_st2, jw_se, jw_un, jw_kk, jw_pp, jw_l4, jw_l1, jw_ps, jw_en, jw_N, jw_C, List.map_cons, List.map_nil, ↓reduceIte, Nat.reduceSub, Nat.reduceAdd, Nat.reduceEqDiff, Nat.reduceLeDiff, Nat.le_refl, Nat.zero_le, true_and, and_true, true_or, or_true, false_or, or_false, false_imp_iff, true_imp_iff, not_true_eq_false, not_false_eq_true, nI_0, nb_1, fa_10, fa_01, hle, hd_g0 hk, hi_24]
      refine tt_2_valueAt hx1 hxn (by omega) ?_
      simp only [qq_0_take, bb_0_take_62, bb_0_take_15, bb_0_take_0, xo_il, xo_ll, xo_al, xo_is, xo_ls, xo_as, xo_ic, xo_ci, xo_cl, xo_iadd, xo_isub, xo_imul, xo_iand, xo_ior, xo_ixor, xo_ishl, xo_ishr, xo_iushr, xo_idiv, xo_irem, xo_ineg, xo_ladd, xo_lsub, xo_lmul, xo_land, xo_lor, xo_lxor, xo_ldiv, xo_lrem, xo_lneg, xo_lushr, xo_lshl, xo_lshr, xo_lcmp, xo_i2l, xo_l2i, xo_i2b, xo_i2s, xo_i2c, xo_dup, xo_pop, xo_zeq, xo_ceq, xo_zne, xo_cne, xo_zlt, xo_clt, xo_zge, xo_cge, xo_zgt, xo_cgt, xo_zle, xo_cle, xo_sw, xo_ts, xo_gf, xo_pfi, xo_pfl, xo_pfz, xo_pfr, xo_iald, xo_iast, xo_zast, xo_zald, xo_alen, xo_aald, xo_gs, xo_cv, xo_cs, xo_ca, xo_obj, xo_ri, xo_rz, xo_rl, xo_ra, xo_rc, xo_rb, xo_rv, xo_new, xo_newa, xo_anew, xo_aast, xo_mmax, xo_mmin, xo_mabs, xo_mmaxL, xo_mabsL, jw_ge, jw_st, jw_st2, jw_se, jw_un, jw_kk, jw_pp, jw_l4, jw_l1, jw_ps, jw_en, jw_N, jw_C, List.map_cons, List.map_nil, ↓reduceIte, Nat.reduceSub, Nat.reduceAdd, Nat.reduceEqDiff, Nat.reduceLeDiff, Nat.le_refl, Nat.zero_le, true_and, and_true, true_or, or_true, false_or, or_false, false_imp_iff, true_imp_iff, not_true_eq_false, not_false_eq_true, nI_0, nb_1, fa_10, fa_01, hr_i (hd_r k hk)]
      refine rn_push (hd_r k hk) hd1.1 (by simp; omega) _ (fun I2 hx2 hf2 => ?_)
      have hf12 : ∀ q, q ≠ 38 + 3 * k → q ≠ 39 + 3 * k → q ≠ 40 + 3 * k → I2 q = I q := fun q a b c => (hf2 q b (by omega)).trans (hf q a b c)
      have hy2 : rn_ I2 27 ys := rn_eq hy (hf12 _ (by omega) (by omega) (by omega)) (hf12 _ (by omega) (by omega) (by omega))
      simp only [qq_0_take, bb_0_take_62, bb_0_take_15, bb_0_take_0, xo_il, xo_ll, xo_al, xo_is, xo_ls, xo_as, xo_ic, xo_ci, xo_cl, xo_iadd, xo_isub, xo_imul, xo_iand, xo_ior, xo_ixor, xo_ishl, xo_ishr, xo_iushr, xo_idiv, xo_irem, xo_ineg, xo_ladd, xo_lsub, xo_lmul, xo_land, xo_lor, xo_lxor, xo_ldiv, xo_lrem, xo_lneg, xo_lushr, xo_lshl, xo_lshr, xo_lcmp, xo_i2l, xo_l2i, xo_i2b, xo_i2s, xo_i2c, xo_dup, xo_pop, xo_zeq, xo_ceq, xo_zne, xo_cne, xo_zlt, xo_clt, xo_zge, xo_cge, xo_zgt, xo_cgt, xo_zle, xo_cle, xo_sw, xo_ts, xo_gf, xo_pfi, xo_pfl, xo_pfz, xo_pfr, xo_iald, xo_iast, xo_zast, xo_zald, xo_alen, xo_aald, xo_gs, xo_cv, xo_cs, xo_ca, xo_obj, xo_ri, xo_rz, xo_rl, xo_ra, xo_rc, xo_rb, xo_rv, xo_new, xo_newa, xo_anew, xo_aast, xo_mmax, xo_mmin, xo_mabs, xo_mmaxL, xo_mabsL, jw_ge, jw_st, jw_st2, jw_se, jw_un, jw_kk, jw_pp, jw_l4, jw_l1, jw_ps, jw_en, jw_N, jw_C, List.map_cons, List.map_nil, ↓reduceIte, Nat.reduceSub, Nat.reduceAdd, Nat.reduceEqDiff, Nat.reduceLeDiff, Nat.le_refl, Nat.zero_le, true_and, and_true, true_or, or_true, false_or, or_false, false_imp_iff, true_imp_iff, not_true_eq_false, not_false_eq_true, nI_0, nb_1, fa_10, fa_01, hi_24]
      refine tt_2_valueIsSound hy2 hyn h1 (by omega) ?_
      have e2 : I2 (38 + 3 * k) 1 = nI (sp_ ((List.range i).map (fun i => (xs.getD (i + 1) 0, ys.getD (i + 1) 0)))) := by rw [hf2 _ (by omega) (by omega)]; exact hd1.2.2.1
      have hdl : ((List.range i).map (fun i => (xs.getD (i + 1) 0, ys.getD (i + 1) 0))).length = i := by simp
      have hlt := sp_lt _ (fun x hx => (hmem i x hx).2)
      have hap : (List.range (i + 1)).map (fun i => (xs.getD (i + 1) 0, ys.getD (i + 1) 0)) = (List.range i).map (fun i => (xs.getD (i + 1) 0, ys.getD (i + 1) 0)) ++ [(xs.getD (i + 1) 0, ys.getD (i + 1) 0)] := by rw [List.range_succ, List.map_append]; rfl
      have hsp := sp_app ((List.range i).map (fun i => (xs.getD (i + 1) 0, ys.getD (i + 1) 0))) (xs.getD (i + 1) 0, ys.getD (i + 1) 0)
      rw [← hap] at hsp
      rw [hdl] at hsp hlt
      have hx2' : rn_ I2 (39 + 3 * k) (((List.range (i + 1)).map (fun i => (xs.getD (i + 1) 0, ys.getD (i + 1) 0))).map (·.1)) := by rw [hap, List.map_append]; exact hx2
      have hy01 := hyv (i + 1)
      rcases (by omega : ys.getD (i + 1) 0 = 0 ∨ ys.getD (i + 1) 0 = 1) with hy0 | hy0
      · rw [hy0] at hsp ⊢
        simp only [qq_0_take, bb_0_take_62, bb_0_take_56, bb_0_take_15, bb_0_take_0, xo_il, xo_ll, xo_al, xo_is, xo_ls, xo_as, xo_ic, xo_ci, xo_cl, xo_iadd, xo_isub, xo_imul, xo_iand, xo_ior, xo_ixor, xo_ishl, xo_ishr, xo_iushr, xo_idiv, xo_irem, xo_ineg, xo_ladd, xo_lsub, xo_lmul, xo_land, xo_lor, xo_lxor, xo_ldiv, xo_lrem, xo_lneg, xo_lushr, xo_lshl, xo_lshr, xo_lcmp, xo_i2l, xo_l2i, xo_i2b, xo_i2s, xo_i2c, xo_dup, xo_pop, xo_zeq, xo_ceq, xo_zne, xo_cne, xo_zlt, xo_clt, xo_zge, xo_cge, xo_zgt, xo_cgt, xo_zle, xo_cle, xo_sw, xo_ts, xo_gf, xo_pfi, xo_pfl, xo_pfz, xo_pfr, xo_iald, xo_iast, xo_zast, xo_zald, xo_alen, xo_aald, xo_gs, xo_cv, xo_cs, xo_ca, xo_obj, xo_ri, xo_rz, xo_rl, xo_ra, xo_rc, xo_rb, xo_rv, xo_new, xo_newa, xo_anew, xo_aast, xo_mmax, xo_mmin, xo_mabs, xo_mmaxL, xo_mabsL, jw_ge, jw_st, jw_st2, jw_se, jw_un, jw_kk, jw_pp, jw_l4, jw_l1, jw_ps, jw_en, jw_N, jw_C, List.map_cons, List.map_nil, ↓reduceIte, Nat.reduceSub, Nat.reduceAdd, Nat.reduceEqDiff, Nat.reduceLeDiff, Nat.le_refl, Nat.zero_le, true_and, and_true, true_or, or_true, false_or, or_false, false_imp_iff, true_imp_iff, not_true_eq_false, not_false_eq_true, nI_0, nb_1, fa_10, fa_01, nI_1]
        refine ih (i + 1) I2 (by omega) ⟨hx2', by simp; omega, ?_, hmem _⟩ hf12
        rw [e2, hsp, Nat.mul_zero, Nat.add_zero]
      · rw [hy0] at hsp ⊢
        simp only [qq_0_take, bb_0_take_62, bb_0_take_56, bb_0_take_15, bb_0_take_0, xo_il, xo_ll, xo_al, xo_is, xo_ls, xo_as, xo_ic, xo_ci, xo_cl, xo_iadd, xo_isub, xo_imul, xo_iand, xo_ior, xo_ixor, xo_ishl, xo_ishr, xo_iushr, xo_idiv, xo_irem, xo_ineg, xo_ladd, xo_lsub, xo_lmul, xo_land, xo_lor, xo_lxor, xo_ldiv, xo_lrem, xo_lneg, xo_lushr, xo_lshl, xo_lshr, xo_lcmp, xo_i2l, xo_l2i, xo_i2b, xo_i2s, xo_i2c, xo_dup, xo_pop, xo_zeq, xo_ceq, xo_zne, xo_cne, xo_zlt, xo_clt, xo_zge, xo_cge, xo_zgt, xo_cgt, xo_zle, xo_cle, xo_sw, xo_ts, xo_gf, xo_pfi, xo_pfl, xo_pfz, xo_pfr, xo_iald, xo_iast, xo_zast, xo_zald, xo_alen, xo_aald, xo_gs, xo_cv, xo_cs, xo_ca, xo_obj, xo_ri, xo_rz, xo_rl, xo_ra, xo_rc, xo_rb, xo_rv, xo_new, xo_newa, xo_anew, xo_aast, xo_mmax, xo_mmin, xo_mabs, xo_mmaxL, xo_mabsL, jw_ge, jw_st, jw_st2, jw_se, jw_un, jw_kk, jw_pp, jw_l4, jw_l1, jw_ps, jw_en, jw_N, jw_C, List.map_cons, List.map_nil, ↓reduceIte, Nat.reduceSub, Nat.reduceAdd, Nat.reduceEqDiff, Nat.reduceLeDiff, Nat.le_refl, Nat.zero_le, true_and, and_true, true_or, or_true, false_or, or_false, false_imp_iff, true_imp_iff, not_true_eq_false, not_false_eq_true, nI_0, nb_1, fa_10, fa_01, hd_g1 hk, hd_p1 hk, e2, nu_p32 i (by omega), nu_or, or_p2 hlt, nI_1]
        refine ih (i + 1) _ (by omega) ⟨rn_hw hx2' (by omega) (by omega), by simp; omega, ?_, hmem _⟩ (fun q a b c => (hw_o a).trans (hf12 q a b c))
        rw [hw_s, hsp, Nat.mul_one]
  refine hP _ _ _ _ _ ?_
  simp only [qq_0_take, bb_0_take_62, bb_0_take_56, bb_0_take_0, xo_il, xo_ll, xo_al, xo_is, xo_ls, xo_as, xo_ic, xo_ci, xo_cl, xo_iadd, xo_isub, xo_imul, xo_iand, xo_ior, xo_ixor, xo_ishl, xo_ishr, xo_iushr, xo_idiv, xo_irem, xo_ineg, xo_ladd, xo_lsub, xo_lmul, xo_land, xo_lor, xo_lxor, xo_ldiv, xo_lrem, xo_lneg, xo_lushr, xo_lshl, xo_lshr, xo_lcmp, xo_i2l, xo_l2i, xo_i2b, xo_i2s, xo_i2c, xo_dup, xo_pop, xo_zeq, xo_ceq, xo_zne, xo_cne, xo_zlt, xo_clt, xo_zge, xo_cge, xo_zgt, xo_cgt, xo_zle, xo_cle, xo_sw, xo_ts, xo_gf, xo_pfi, xo_pfl, xo_pfz, xo_pfr, xo_iald, xo_iast, xo_zast, xo_zald, xo_alen, xo_aald, xo_gs, xo_cv, xo_cs, xo_ca, xo_obj, xo_ri, xo_rz, xo_rl, xo_ra, xo_rc, xo_rb, xo_rv, xo_new, xo_newa, xo_anew, xo_aast, xo_mmax, xo_mmin, xo_mabs, xo_mmaxL, xo_mabsL, jw_ge, jw_st, jw_st2, jw_se, jw_un, jw_kk, jw_pp, jw_l4, jw_l1, jw_ps, jw_en, jw_N, jw_C, List.map_cons, List.map_nil, ↓reduceIte, Nat.reduceSub, Nat.reduceAdd, Nat.reduceEqDiff, Nat.reduceLeDiff, Nat.le_refl, Nat.zero_le, true_and, and_true, true_or, or_true, false_or, or_false, false_imp_iff, true_imp_iff, not_true_eq_false, not_false_eq_true, nI_0, nb_1, fa_10, fa_01, hd_g0 hk, hr_i (hd_r k hk)]
  refine rn_cut0 (hd_r k hk) hd.1 (by rw [List.length_map]; exact hd.2.1) (fun I2 hx2 hf2 => ?_)
  simp only [qq_0_take, bb_0_take_62, bb_0_take_56, bb_0_take_0, xo_il, xo_ll, xo_al, xo_is, xo_ls, xo_as, xo_ic, xo_ci, xo_cl, xo_iadd, xo_isub, xo_imul, xo_iand, xo_ior, xo_ixor, xo_ishl, xo_ishr, xo_iushr, xo_idiv, xo_irem, xo_ineg, xo_ladd, xo_lsub, xo_lmul, xo_land, xo_lor, xo_lxor, xo_ldiv, xo_lrem, xo_lneg, xo_lushr, xo_lshl, xo_lshr, xo_lcmp, xo_i2l, xo_l2i, xo_i2b, xo_i2s, xo_i2c, xo_dup, xo_pop, xo_zeq, xo_ceq, xo_zne, xo_cne, xo_zlt, xo_clt, xo_zge, xo_cge, xo_zgt, xo_cgt, xo_zle, xo_cle, xo_sw, xo_ts, xo_gf, xo_pfi, xo_pfl, xo_pfz, xo_pfr, xo_iald, xo_iast, xo_zast, xo_zald, xo_alen, xo_aald, xo_gs, xo_cv, xo_cs, xo_ca, xo_obj, xo_ri, xo_rz, xo_rl, xo_ra, xo_rc, xo_rb, xo_rv, xo_new, xo_newa, xo_anew, xo_aast, xo_mmax, xo_mmin, xo_mabs, xo_mmaxL, xo_mabsL, jw_ge, jw_st, jw_st2, jw_se, jw_un, jw_kk, jw_pp, jw_l4, jw_l1, jw_ps, jw_en, jw_N, jw_C, List.map_cons, List.map_nil, ↓reduceIte, Nat.reduceSub, Nat.reduceAdd, Nat.reduceEqDiff, Nat.reduceLeDiff, Nat.le_refl, Nat.zero_le, true_and, and_true, true_or, or_true, false_or, or_false, false_imp_iff, true_imp_iff, not_true_eq_false, not_false_eq_true, nI_0, nb_1, fa_10, fa_01, hd_p1 hk]
  exact lp n 0 _ (by omega) ⟨rn_hw hx2 (by omega) (by omega), by simp, by rw [hw_s]; rfl, by simp⟩ (fun q a b c => (hw_o a).trans (hf2 q b (by omega)))
theorem tt_1_size (h : ds_ I ds) (hK : K (some (.int (nI ds.length))) (hp_ I J)) : cc_1_size [.ref 36] (hp_ I J) K := by
  refine jw_Cin (Nat.le_of_ble_eq_true rfl) rfl (fun P hP => hP _ _ _ _ _ ?_)
  simp only [qq_1_size, bb_1_size_0, xo_il, xo_ll, xo_al, xo_is, xo_ls, xo_as, xo_ic, xo_ci, xo_cl, xo_iadd, xo_isub, xo_imul, xo_iand, xo_ior, xo_ixor, xo_ishl, xo_ishr, xo_iushr, xo_idiv, xo_irem, xo_ineg, xo_ladd, xo_lsub, xo_lmul, xo_land, xo_lor, xo_lxor, xo_ldiv, xo_lrem, xo_lneg, xo_lushr, xo_lshl, xo_lshr, xo_lcmp, xo_i2l, xo_l2i, xo_i2b, xo_i2s, xo_i2c, xo_dup, xo_pop, xo_zeq, xo_ceq, xo_zne, xo_cne, xo_zlt, xo_clt, xo_zge, xo_cge, xo_zgt, xo_cgt, xo_zle, xo_cle, xo_sw, xo_ts, xo_gf, xo_pfi, xo_pfl, xo_pfz, xo_pfr, xo_iald, xo_iast, xo_zast, xo_zald, xo_alen, xo_aald, xo_gs, xo_cv, xo_cs, xo_ca, xo_obj, xo_ri, xo_rz, xo_rl, xo_ra, xo_rc, xo_rb, xo_rv, xo_new, xo_newa, xo_anew, xo_aast, xo_mmax, xo_mmin, xo_mabs, xo_mmaxL, xo_mabsL, jw_ge, jw_st, jw_st2, jw_se, jw_un, jw_kk, jw_pp, jw_l4, jw_l1, jw_ps, jw_en, jw_N, jw_C, List.map_cons, List.map_nil, ↓reduceIte, Nat.reduceSub, Nat.reduceAdd, Nat.reduceEqDiff, Nat.reduceLeDiff, Nat.le_refl, Nat.zero_le, true_and, and_true, true_or, or_true, false_or, or_false, false_imp_iff, true_imp_iff, not_true_eq_false, not_false_eq_true, nI_0, nb_1, fa_10, fa_01, hg_36_0, hg_36_1, hq_36_1, hi_36, h.1]
  exact hK
theorem tt_1_forget (h : ds_ I ds) (hK : ∀ I2, ds_ I2 [] → ff_ 36 37 I I2 → K none (hp_ I2 J)) : cc_1_forget [.ref 36] (hp_ I J) K := by
  refine jw_Cin (Nat.le_of_ble_eq_true rfl) rfl (fun P hP => hP _ _ _ _ _ ?_)
  simp only [qq_1_forget, bb_1_forget_0, xo_il, xo_ll, xo_al, xo_is, xo_ls, xo_as, xo_ic, xo_ci, xo_cl, xo_iadd, xo_isub, xo_imul, xo_iand, xo_ior, xo_ixor, xo_ishl, xo_ishr, xo_iushr, xo_idiv, xo_irem, xo_ineg, xo_ladd, xo_lsub, xo_lmul, xo_land, xo_lor, xo_lxor, xo_ldiv, xo_lrem, xo_lneg, xo_lushr, xo_lshl, xo_lshr, xo_lcmp, xo_i2l, xo_l2i, xo_i2b, xo_i2s, xo_i2c, xo_dup, xo_pop, xo_zeq, xo_ceq, xo_zne, xo_cne, xo_zlt, xo_clt, xo_zge, xo_cge, xo_zgt, xo_cgt, xo_zle, xo_cle, xo_sw, xo_ts, xo_gf, xo_pfi, xo_pfl, xo_pfz, xo_pfr, xo_iald, xo_iast, xo_zast, xo_zald, xo_alen, xo_aald, xo_gs, xo_cv, xo_cs, xo_ca, xo_obj, xo_ri, xo_rz, xo_rl, xo_ra, xo_rc, xo_rb, xo_rv, xo_new, xo_newa, xo_anew, xo_aast, xo_mmax, xo_mmin, xo_mabs, xo_mmaxL, xo_mabsL, jw_ge, jw_st, jw_st2, jw_se, jw_un, jw_kk, jw_pp, jw_l4, jw_l1, jw_ps, jw_en, jw_N, jw_C, List.map_cons, List.map_nil, ↓reduceIte, Nat.reduceSub, Nat.reduceAdd, Nat.reduceEqDiff, Nat.reduceLeDiff, Nat.le_refl, Nat.zero_le, true_and, and_true, true_or, or_true, false_or, or_false, false_imp_iff, true_imp_iff, not_true_eq_false, not_false_eq_true, nI_0, nb_1, fa_10, fa_01, hg_36_0, hg_36_1, hq_36_1, hi_36]
  refine hK _ ⟨hw_s, by simp, fun k hk => ?_⟩ (ff_hw (by decide) (by decide))
  obtain ⟨d, h1, -⟩ := h.2.2 k hk
  exact ⟨d, dv_eq h1 (hw_o (by omega)) (hw_o (by omega)) (hw_o (by omega)), fun d2 h2 => by simp at h2⟩
theorem hk_37 (I : Nat → Nat → Int32) (J : Nat → Nat → Int64) : (hp_ I J)[37]? = some (.inl (2, 6, .inr (.inr (.inr (.inr (fun i => if i < 6 then some (38 + 3 * i) else none)))))) := hp_at (s := fun _ _ => .inl (2, 6, .inr (.inr (.inr (.inr (fun i => if i < 6 then some (38 + 3 * i) else none)))))) rfl
theorem vi_6 (hk : k < 6) : vp_in (nI k) 6 = True := eq_true (nI_in hk (by decide))
theorem tt_1_take {xs ys : List Nat} {n : Nat} (h : ds_ I ds) (hl : ds.length < 6) (hx : rn_ I 25 xs) (hxn : xs.length ≤ 35) (hy : rn_ I 27 ys) (hyn : ys.length ≤ 35) (h1 : ∀ q ∈ ys, q ≤ 1) (h64 : ∀ q ∈ xs, q < 64) (h4 : I 24 4 = nI n) (hn : n ≤ 32) (hK : ∀ I2, ds_ I2 (ds ++ [(List.range n).map (fun i => (xs.getD (i + 1) 0, ys.getD (i + 1) 0))]) → ff_ 36 56 I I2 → K none (hp_ I2 J)) : cc_1_take [.ref 36, .ref 24] (hp_ I J) K := by
  refine jw_Cin (Nat.le_of_ble_eq_true rfl) rfl (fun P hP => hP _ _ _ _ _ ?_)
  have hle : ¬ Int32.ofNat 6 ≤ nI ds.length := (nu_gt (n := 6) (by omega) (by omega)).mpr hl
  simp only [qq_1_take, bb_1_take_35, bb_1_take_0, xo_il, xo_ll, xo_al, xo_is, xo_ls, xo_as, xo_ic, xo_ci, xo_cl, xo_iadd, xo_isub, xo_imul, xo_iand, xo_ior, xo_ixor, xo_ishl, xo_ishr, xo_iushr, xo_idiv, xo_irem, xo_ineg, xo_ladd, xo_lsub, xo_lmul, xo_land, xo_lor, xo_lxor, xo_ldiv, xo_lrem, xo_lneg, xo_lushr, xo_lshl, xo_lshr, xo_lcmp, xo_i2l, xo_l2i, xo_i2b, xo_i2s, xo_i2c, xo_dup, xo_pop, xo_zeq, xo_ceq, xo_zne, xo_cne, xo_zlt, xo_clt, xo_zge, xo_cge, xo_zgt, xo_cgt, xo_zle, xo_cle, xo_sw, xo_ts, xo_gf, xo_pfi, xo_pfl, xo_pfz, xo_pfr, xo_iald, xo_iast, xo_zast, xo_zald, xo_alen, xo_aald, xo_gs, xo_cv, xo_cs, xo_ca, xo_obj, xo_ri, xo_rz, xo_rl, xo_ra, xo_rc, xo_rb, xo_rv, xo_new, xo_newa, xo_anew, xo_aast, xo_mmax, xo_mmin, xo_mabs, xo_mmaxL, xo_mabsL, jw_ge, jw_st, jw_st2, jw_se, jw_un, jw_kk, jw_pp, jw_l4, jw_l1, jw_ps, jw_en, jw_N, jw_C, List.map_cons, List.map_nil, ↓reduceIte, Nat.reduceSub, Nat.reduceAdd, Nat.reduceEqDiff, Nat.reduceLeDiff, Nat.le_refl, Nat.zero_le, true_and, and_true, true_or, or_true, false_or, or_false, false_imp_iff, true_imp_iff, not_true_eq_false, not_false_eq_true, nI_0, nb_1, fa_10, fa_01, hg_36_0, hg_36_1, hq_36_1, hi_36, hk_37, h.1, hle, vi_6 hl, nI_clamp (show ds.length < 2 ^ 31 by omega), hl, hd_i hl, Nat.reduceLT]
  obtain ⟨d0, hd0, -⟩ := h.2.2 ds.length hl
  refine tt_0_take hl hd0 hx hxn hy hyn h1 h64 h4 hn (fun I2 hd2 hf2 => ?_)
  have e36 : I2 36 1 = nI ds.length := by rw [hf2 36 (by omega) (by omega) (by omega)]; exact h.1
  simp only [qq_1_take, bb_1_take_35, bb_1_take_0, xo_il, xo_ll, xo_al, xo_is, xo_ls, xo_as, xo_ic, xo_ci, xo_cl, xo_iadd, xo_isub, xo_imul, xo_iand, xo_ior, xo_ixor, xo_ishl, xo_ishr, xo_iushr, xo_idiv, xo_irem, xo_ineg, xo_ladd, xo_lsub, xo_lmul, xo_land, xo_lor, xo_lxor, xo_ldiv, xo_lrem, xo_lneg, xo_lushr, xo_lshl, xo_lshr, xo_lcmp, xo_i2l, xo_l2i, xo_i2b, xo_i2s, xo_i2c, xo_dup, xo_pop, xo_zeq, xo_ceq, xo_zne, xo_cne, xo_zlt, xo_clt, xo_zge, xo_cge, xo_zgt, xo_cgt, xo_zle, xo_cle, xo_sw, xo_ts, xo_gf, xo_pfi, xo_pfl, xo_pfz, xo_pfr, xo_iald, xo_iast, xo_zast, xo_zald, xo_alen, xo_aald, xo_gs, xo_cv, xo_cs, xo_ca, xo_obj, xo_ri, xo_rz, xo_rl, xo_ra, xo_rc, xo_rb, xo_rv, xo_new, xo_newa, xo_anew, xo_aast, xo_mmax, xo_mmin, xo_mabs, xo_mmaxL, xo_mabsL, jw_ge, jw_st, jw_st2, jw_se, jw_un, jw_kk, jw_pp, jw_l4, jw_l1, jw_ps, jw_en, jw_N, jw_C, List.map_cons, List.map_nil, ↓reduceIte, Nat.reduceSub, Nat.reduceAdd, Nat.reduceEqDiff, Nat.reduceLeDiff, Nat.le_refl, Nat.zero_le, true_and, and_true, true_or, or_true, false_or, or_false, false_imp_iff, true_imp_iff, not_true_eq_false, not_false_eq_true, nI_0, nb_1, fa_10, fa_01, hg_36_0, hg_36_1, hq_36_1, hi_36, e36, nI_1]
  refine hK _ ⟨by rw [hw_s, List.length_append]; rfl, by rw [List.length_append]; simp; omega, fun k hk => ?_⟩ (fun q hq => (hw_o (by omega)).trans (hf2 q (by omega) (by omega) (by omega)))
  by_cases hkn : k = ds.length
  · subst hkn
    refine ⟨_, dv_eq hd2 (hw_o (by omega)) (hw_o (by omega)) (hw_o (by omega)), fun d2 hd2 => ?_⟩
    rw [List.getElem?_append_right (Nat.le_refl _), Nat.sub_self] at hd2
    simpa using hd2.symm
  · obtain ⟨d1, hd1, hd1e⟩ := h.2.2 k hk
    have hd1' : dv_ I2 k d1 := dv_eq hd1 (hf2 _ (by omega) (by omega) (by omega)) (hf2 _ (by omega) (by omega) (by omega)) (hf2 _ (by omega) (by omega) (by omega))
    refine ⟨d1, dv_eq hd1' (hw_o (by omega)) (hw_o (by omega)) (hw_o (by omega)), fun d2 hd2 => ?_⟩
    by_cases hlt : k < ds.length
    · rw [List.getElem?_append_left hlt] at hd2
      exact hd1e d2 hd2
    · rw [List.getElem?_eq_none (by simp; omega)] at hd2
      cases hd2
end DR
