/-! symbols sought in bits -/
def sv_ (bs : List Nat) (p : Nat) : Nat → Nat
  | 0 => 0
  | n + 1 => sv_ bs p n + bs.getD (p + n) 0 * 2 ^ n
theorem gd_le1 {bs : List Nat} (hb : ∀ b ∈ bs, b ≤ 1) (k : Nat) : bs.getD k 0 ≤ 1 := by
  by_cases h : k < bs.length
  · exact hb _ (gd_mem h)
  · simp [List.getD, List.getElem?_eq_none (by omega : bs.length ≤ k)]
theorem sv_lt {bs : List Nat} (hb : ∀ b ∈ bs, b ≤ 1) (p : Nat) : ∀ n, sv_ bs p n < 2 ^ n
  | 0 => by simp [sv_]
  | n + 1 => by
    have h1 := sv_lt hb p n
    have h2 := gd_le1 hb (p + n)
    have h3 : bs.getD (p + n) 0 * 2 ^ n ≤ 1 * 2 ^ n := Nat.mul_le_mul_right _ h2
    rw [sv_, Nat.pow_succ]
    omega
/-- the symbol at place p: what it says, the parity that is heard -/
def at_ (b : Nat) (bs : List Nat) (p : Nat) : Option (Nat × Nat) := if p + b < bs.length then some (sv_ bs p b, bs.getD (p + b) 0) else none
/-- as one number -/
def cx_ (b : Nat) (x : Nat × Nat) : Nat := x.1 + x.2 * 2 ^ b
/-- has it its parity -/
def fi_ (odd : Nat) (x : Nat × Nat) : Nat := if x.2 = pa_ odd x.1 then 1 else 0
theorem sv_cx {b : Nat} {bs : List Nat} {p : Nat} : sv_ bs p (b + 1) = cx_ b (sv_ bs p b, bs.getD (p + b) 0) := rfl
def cx_t (b odd v p : Nat) : Bool := !decide (v < 2 ^ b) || (decide (on_ (v + p * 2 ^ b) % 2 = odd) == decide (p = pa_ odd v))
theorem cx_a : ∀ b, b < 7 → ∀ odd, odd < 2 → ∀ v, v < 64 → ∀ p, p < 2 → cx_t b odd v p = true := by decide +kernel
theorem cx_on (b : Nat) (hb : b < 7) (odd : Nat) (ho : odd < 2) (v : Nat) (hv : v < 64) (p : Nat) (hp : p < 2) (h : v < 2 ^ b) : on_ (v + p * 2 ^ b) % 2 = odd ↔ p = pa_ odd v := by
  have h1 := cx_a b hb odd ho v hv p hp
  unfold cx_t at h1
  simpa [h] using h1
theorem cx_inj {b v p w q : Nat} (hv : v < 2 ^ b) (hw : w < 2 ^ b) (h : v + p * 2 ^ b = w + q * 2 ^ b) : v = w ∧ p = q := by
  have h1 : (v + p * 2 ^ b) % 2 ^ b = v := by rw [Nat.add_mul_mod_self_right, Nat.mod_eq_of_lt hv]
  have h2 : (w + q * 2 ^ b) % 2 ^ b = w := by rw [Nat.add_mul_mod_self_right, Nat.mod_eq_of_lt hw]
  have h3 : v = w := by rw [← h1, ← h2, h]
  subst h3
  have h4 : p * 2 ^ b = q * 2 ^ b := by omega
  exact ⟨rfl, Nat.eq_of_mul_eq_mul_right (Nat.pow_pos (by decide)) h4⟩
theorem at_in {b : Nat} {bs : List Nat} {p : Nat} {x : Nat × Nat} (hb : ∀ q ∈ bs, q ≤ 1) (h : at_ b bs p = some x) : x.1 < 2 ^ b ∧ x.2 ≤ 1 ∧ p + b < bs.length := by
  unfold at_ at h
  split at h
  · cases h; exact ⟨sv_lt hb p b, gd_le1 hb _, by assumption⟩
  · cases h
/-- codedFrom's answer -/
def ca_ (b : Nat) (o : Option (Nat × Nat)) : Int32 := match o with
  | none => -4
  | some x => nI (cx_ b x)
/-- the cells of a finding: what it was told, its rows -/
def fd_ (I : Nat → Nat → Int32) (b odd chk : Nat) (xs ys : List Nat) : Prop := I 24 5 = nI b ∧ I 24 6 = nI odd ∧ I 24 7 = nI chk ∧ rn_ I 25 xs ∧ rn_ I 27 ys
section FD
variable {I : Nat → Nat → Int32} {J : Nat → Nat → Int64} {K : jw_K} {bs xs ys : List Nat} {b odd chk : Nat}
theorem tt_2_codedFrom (hbs : rn_ I 18 bs) (hbn : bs.length ≤ 320) (hb1 : ∀ q ∈ bs, q ≤ 1) (h5 : I 24 5 = nI b) (hb6 : b ≤ 6) {p : Nat} (hp : p < 10000) (hK : K (some (.int (ca_ b (at_ b bs p)))) (hp_ I J)) : cc_2_codedFrom [.ref 24, .ref 18, .int (nI p)] (hp_ I J) K := by
  refine jw_Cin (Nat.le_of_ble_eq_true rfl) rfl (fun P hP => ?_)
  have lp : ∀ (m i : Nat), b + 1 = i + m → p + b < bs.length → P 21 [.ref 24, .ref 18, .int (nI p), .int (nI (sv_ bs p i)), .int (nI i)] [] (hp_ I J) (0, 0) := by
    intro m
    induction m with
    | zero =>
      intro i hi hlt
      have hle : nI b < nI i := (nI_ltI (by omega) (by omega)).mpr (by omega)
      refine hP _ _ _ _ _ ?_
      simp only [qq_2_codedFrom, bb_2_codedFrom_50, bb_2_codedFrom_21, bb_2_codedFrom_16, bb_2_codedFrom_0, xo_il, xo_ll, xo_al, xo_is, xo_ls, xo_as, xo_ic, xo_ci, xo_cl, xo_iadd, xo_isub, xo_imul, xo_iand, xo_ior, xo_ixor, xo_ishl, xo_ishr, xo_iushr, xo_idiv, xo_irem, xo_ineg, xo_ladd, xo_lsub, xo_lmul, xo_land, xo_lor, xo_lxor, xo_ldiv, xo_lrem, xo_lneg, xo_lushr, xo_lshl, xo_lshr, xo_lcmp, xo_i2l, xo_l2i, xo_i2b, xo_i2s, xo_i2c, xo_dup, xo_pop, xo_zeq, xo_ceq, xo_zne, xo_cne, xo_zlt, xo_clt, xo_zge, xo_cge, xo_zgt, xo_cgt, xo_zle, xo_cle, xo_sw, xo_ts, xo_gf, xo_pfi, xo_pfl, xo_pfz, xo_pfr, xo_iald, xo_iast, xo_zast, xo_zald, xo_alen, xo_aald, xo_gs, xo_cv, xo_cs, xo_ca, xo_obj, xo_ri, xo_rz, xo_rl, xo_ra, xo_rc, xo_rb, xo_rv, xo_new, xo_newa, xo_anew, xo_aast, xo_mmax, xo_mmin, xo_mabs, xo_mmaxL, xo_mabsL, jw_ge, jw_st, jw_st2, jw_se, jw_un, jw_kk, jw_pp, jw_l4, jw_l1, jw_ps, jw_en, jw_N, jw_C, List.map_cons, List.map_nil, ↓reduceIte, Nat.reduceSub, Nat.reduceAdd, Nat.reduceEqDiff, Nat.reduceLeDiff, Nat.le_refl, Nat.zero_le, true_and, and_true, true_or, or_true, false_or, or_false, false_imp_iff, true_imp_iff, not_true_eq_false, not_false_eq_true, nI_0, nb_1, fa_10, fa_01, hg_24_0, hg_24_1, hg_24_2, hq_24_2, hg_24_3, hq_24_3, hg_24_4, hq_24_4, hg_24_5, hq_24_5, hg_24_6, hq_24_6, hg_24_7, hq_24_7, hg_24_8, hq_24_8, hi_24, h5, hle]
      have e : at_ b bs p = some (sv_ bs p b, bs.getD (p + b) 0) := if_pos hlt
      rw [e] at hK
      rw [show i = b + 1 by omega]
      exact hK
    | succ m ih =>
      intro i hi hlt
      have hle : ¬ nI b < nI i := fun h => absurd ((nI_ltI (by omega) (by omega)).mp h) (by omega)
      have hs := sv_lt hb1 p i
      have h7 : 2 ^ i ≤ 2 ^ 6 := Nat.pow_le_pow_right (by decide) (by omega)
      have hg := gd_le1 hb1 (p + i)
      have hm : bs.getD (p + i) 0 * 2 ^ i ≤ 1 * 2 ^ i := Nat.mul_le_mul_right _ hg
      refine hP _ _ _ _ _ ?_
      simp only [qq_2_codedFrom, bb_2_codedFrom_50, bb_2_codedFrom_21, bb_2_codedFrom_16, bb_2_codedFrom_0, xo_il, xo_ll, xo_al, xo_is, xo_ls, xo_as, xo_ic, xo_ci, xo_cl, xo_iadd, xo_isub, xo_imul, xo_iand, xo_ior, xo_ixor, xo_ishl, xo_ishr, xo_iushr, xo_idiv, xo_irem, xo_ineg, xo_ladd, xo_lsub, xo_lmul, xo_land, xo_lor, xo_lxor, xo_ldiv, xo_lrem, xo_lneg, xo_lushr, xo_lshl, xo_lshr, xo_lcmp, xo_i2l, xo_l2i, xo_i2b, xo_i2s, xo_i2c, xo_dup, xo_pop, xo_zeq, xo_ceq, xo_zne, xo_cne, xo_zlt, xo_clt, xo_zge, xo_cge, xo_zgt, xo_cgt, xo_zle, xo_cle, xo_sw, xo_ts, xo_gf, xo_pfi, xo_pfl, xo_pfz, xo_pfr, xo_iald, xo_iast, xo_zast, xo_zald, xo_alen, xo_aald, xo_gs, xo_cv, xo_cs, xo_ca, xo_obj, xo_ri, xo_rz, xo_rl, xo_ra, xo_rc, xo_rb, xo_rv, xo_new, xo_newa, xo_anew, xo_aast, xo_mmax, xo_mmin, xo_mabs, xo_mmaxL, xo_mabsL, jw_ge, jw_st, jw_st2, jw_se, jw_un, jw_kk, jw_pp, jw_l4, jw_l1, jw_ps, jw_en, jw_N, jw_C, List.map_cons, List.map_nil, ↓reduceIte, Nat.reduceSub, Nat.reduceAdd, Nat.reduceEqDiff, Nat.reduceLeDiff, Nat.le_refl, Nat.zero_le, true_and, and_true, true_or, or_true, false_or, or_false, false_imp_iff, true_imp_iff, not_true_eq_false, not_false_eq_true, nI_0, nb_1, fa_10, fa_01, hg_24_0, hg_24_1, hg_24_2, hq_24_2, hg_24_3, hq_24_3, hg_24_4, hq_24_4, hg_24_5, hq_24_5, hg_24_6, hq_24_6, hg_24_7, hq_24_7, hg_24_8, hq_24_8, hi_24, h5, hle, hr_i hr18, nI_add]
      refine rn_at hr18 hbs hbn (p + i) (by omega) ?_
      simp only [qq_2_codedFrom, bb_2_codedFrom_50, bb_2_codedFrom_21, bb_2_codedFrom_16, bb_2_codedFrom_0, xo_il, xo_ll, xo_al, xo_is, xo_ls, xo_as, xo_ic, xo_ci, xo_cl, xo_iadd, xo_isub, xo_imul, xo_iand, xo_ior, xo_ixor, xo_ishl, xo_ishr, xo_iushr, xo_idiv, xo_irem, xo_ineg, xo_ladd, xo_lsub, xo_lmul, xo_land, xo_lor, xo_lxor, xo_ldiv, xo_lrem, xo_lneg, xo_lushr, xo_lshl, xo_lshr, xo_lcmp, xo_i2l, xo_l2i, xo_i2b, xo_i2s, xo_i2c, xo_dup, xo_pop, xo_zeq, xo_ceq, xo_zne, xo_cne, xo_zlt, xo_clt, xo_zge, xo_cge, xo_zgt, xo_cgt, xo_zle, xo_cle, xo_sw, xo_ts, xo_gf, xo_pfi, xo_pfl, xo_pfz, xo_pfr, xo_iald, xo_iast, xo_zast, xo_zald, xo_alen, xo_aald, xo_gs, xo_cv, xo_cs, xo_ca, xo_obj, xo_ri, xo_rz, xo_rl, xo_ra, xo_rc, xo_rb, xo_rv, xo_new, xo_newa, xo_anew, xo_aast, xo_mmax, xo_mmin, xo_mabs, xo_mmaxL, xo_mabsL, jw_ge, jw_st, jw_st2, jw_se, jw_un, jw_kk, jw_pp, jw_l4, jw_l1, jw_ps, jw_en, jw_N, jw_C, List.map_cons, List.map_nil, ↓reduceIte, Nat.reduceSub, Nat.reduceAdd, Nat.reduceEqDiff, Nat.reduceLeDiff, Nat.le_refl, Nat.zero_le, true_and, and_true, true_or, or_true, false_or, or_false, false_imp_iff, true_imp_iff, not_true_eq_false, not_false_eq_true, nI_0, nb_1, fa_10, fa_01]
      rw [nu_shl (by omega) (by omega), nu_or, nI_1]
      have e : sv_ bs p i ||| bs.getD (p + i) 0 * 2 ^ i = sv_ bs p (i + 1) := by
        rw [Nat.or_comm, Nat.mul_comm, ← Nat.two_pow_add_eq_or_of_lt hs, sv_, Nat.mul_comm, Nat.add_comm]
      rw [e]
      exact ih (i + 1) (by omega) hlt
  refine hP _ _ _ _ _ ?_
  simp only [qq_2_codedFrom, bb_2_codedFrom_50, bb_2_codedFrom_16, bb_2_codedFrom_0, xo_il, xo_ll, xo_al, xo_is, xo_ls, xo_as, xo_ic, xo_ci, xo_cl, xo_iadd, xo_isub, xo_imul, xo_iand, xo_ior, xo_ixor, xo_ishl, xo_ishr, xo_iushr, xo_idiv, xo_irem, xo_ineg, xo_ladd, xo_lsub, xo_lmul, xo_land, xo_lor, xo_lxor, xo_ldiv, xo_lrem, xo_lneg, xo_lushr, xo_lshl, xo_lshr, xo_lcmp, xo_i2l, xo_l2i, xo_i2b, xo_i2s, xo_i2c, xo_dup, xo_pop, xo_zeq, xo_ceq, xo_zne, xo_cne, xo_zlt, xo_clt, xo_zge, xo_cge, xo_zgt, xo_cgt, xo_zle, xo_cle, xo_sw, xo_ts, xo_gf, xo_pfi, xo_pfl, xo_pfz, xo_pfr, xo_iald, xo_iast, xo_zast, xo_zald, xo_alen, xo_aald, xo_gs, xo_cv, xo_cs, xo_ca, xo_obj, xo_ri, xo_rz, xo_rl, xo_ra, xo_rc, xo_rb, xo_rv, xo_new, xo_newa, xo_anew, xo_aast, xo_mmax, xo_mmin, xo_mabs, xo_mmaxL, xo_mabsL, jw_ge, jw_st, jw_st2, jw_se, jw_un, jw_kk, jw_pp, jw_l4, jw_l1, jw_ps, jw_en, jw_N, jw_C, List.map_cons, List.map_nil, ↓reduceIte, Nat.reduceSub, Nat.reduceAdd, Nat.reduceEqDiff, Nat.reduceLeDiff, Nat.le_refl, Nat.zero_le, true_and, and_true, true_or, or_true, false_or, or_false, false_imp_iff, true_imp_iff, not_true_eq_false, not_false_eq_true, nI_0, nb_1, fa_10, fa_01, hg_24_0, hg_24_1, hg_24_2, hq_24_2, hg_24_3, hq_24_3, hg_24_4, hq_24_4, hg_24_5, hq_24_5, hg_24_6, hq_24_6, hg_24_7, hq_24_7, hg_24_8, hq_24_8, hi_24, h5, hr_i hr18, nI_add]
  refine rn_size hr18 hbs ?_
  simp only [qq_2_codedFrom, bb_2_codedFrom_50, bb_2_codedFrom_16, bb_2_codedFrom_0, xo_il, xo_ll, xo_al, xo_is, xo_ls, xo_as, xo_ic, xo_ci, xo_cl, xo_iadd, xo_isub, xo_imul, xo_iand, xo_ior, xo_ixor, xo_ishl, xo_ishr, xo_iushr, xo_idiv, xo_irem, xo_ineg, xo_ladd, xo_lsub, xo_lmul, xo_land, xo_lor, xo_lxor, xo_ldiv, xo_lrem, xo_lneg, xo_lushr, xo_lshl, xo_lshr, xo_lcmp, xo_i2l, xo_l2i, xo_i2b, xo_i2s, xo_i2c, xo_dup, xo_pop, xo_zeq, xo_ceq, xo_zne, xo_cne, xo_zlt, xo_clt, xo_zge, xo_cge, xo_zgt, xo_cgt, xo_zle, xo_cle, xo_sw, xo_ts, xo_gf, xo_pfi, xo_pfl, xo_pfz, xo_pfr, xo_iald, xo_iast, xo_zast, xo_zald, xo_alen, xo_aald, xo_gs, xo_cv, xo_cs, xo_ca, xo_obj, xo_ri, xo_rz, xo_rl, xo_ra, xo_rc, xo_rb, xo_rv, xo_new, xo_newa, xo_anew, xo_aast, xo_mmax, xo_mmin, xo_mabs, xo_mmaxL, xo_mabsL, jw_ge, jw_st, jw_st2, jw_se, jw_un, jw_kk, jw_pp, jw_l4, jw_l1, jw_ps, jw_en, jw_N, jw_C, List.map_cons, List.map_nil, ↓reduceIte, Nat.reduceSub, Nat.reduceAdd, Nat.reduceEqDiff, Nat.reduceLeDiff, Nat.le_refl, Nat.zero_le, true_and, and_true, true_or, or_true, false_or, or_false, false_imp_iff, true_imp_iff, not_true_eq_false, not_false_eq_true, nI_0, nb_1, fa_10, fa_01]
  refine ⟨fun h => ?_, fun h => ?_⟩
  · exact lp (b + 1) 0 (by omega) ((nI_ltI (by omega) (by omega)).mp h)
  · have hn : ¬ p + b < bs.length := fun q => h ((nI_ltI (by omega) (by omega)).mpr q)
    have e : at_ b bs p = none := if_neg hn
    rw [e] at hK
    exact hK
theorem ca_ne {b : Nat} {x : Nat × Nat} (hb : b ≤ 6) (h1 : x.1 < 2 ^ b) (h2 : x.2 ≤ 1) : cx_ b x < 128 ∧ (nI (cx_ b x) = -4) = False := by
  have h7 : 2 ^ b ≤ 2 ^ 6 := Nat.pow_le_pow_right (by decide) hb
  have hm : x.2 * 2 ^ b ≤ 1 * 2 ^ b := Nat.mul_le_mul_right _ h2
  have hl : cx_ b x < 128 := by unfold cx_; omega
  refine ⟨hl, eq_false (fun q => ?_)⟩
  have := nI_pos (n := cx_ b x) (by omega)
  rw [q] at this
  exact this (by decide)
theorem tt_2_take (hf : fd_ I b odd chk xs ys) (hb6 : b ≤ 6) (ho : odd ≤ 1) (hx : xs.length < 35) (hy : ys.length < 35) {x : Nat × Nat} (h1 : x.1 < 2 ^ b) (h2 : x.2 ≤ 1) (hK : ∀ I2, fd_ I2 b odd chk (xs ++ [x.1]) (ys ++ [fi_ odd x]) → (∀ q, q ≠ 25 → q ≠ 26 → q ≠ 27 → q ≠ 28 → I2 q = I q) → K (some (.int 1)) (hp_ I2 J)) : cc_2_take [.ref 24, .int (nI (cx_ b x))] (hp_ I J) K := by
  refine jw_Cin (Nat.le_of_ble_eq_true rfl) rfl (fun P hP => hP _ _ _ _ _ ?_)
  obtain ⟨f1, f2, f3, f4, f5⟩ := hf
  obtain ⟨hl, hne⟩ := ca_ne hb6 h1 h2
  have h7 : 2 ^ b ≤ 2 ^ 6 := Nat.pow_le_pow_right (by decide) hb6
  have e1 : (1 : Int32) <<< (nI b &&& 31) - 1 = nI (2 ^ b - 1) := by
    rw [nu_p2 b (by omega), show (1 : Int32) = nI 1 from rfl, pk_sub (Nat.one_le_two_pow)]
  have e2 : nI (cx_ b x) &&& nI (2 ^ b - 1) = nI x.1 := by
    rw [nu_and, Nat.and_two_pow_sub_one_eq_mod, cx_, Nat.add_mul_mod_self_right, Nat.mod_eq_of_lt h1]
  simp only [qq_2_take, bb_2_take_48, bb_2_take_47, bb_2_take_8, bb_2_take_0, xo_il, xo_ll, xo_al, xo_is, xo_ls, xo_as, xo_ic, xo_ci, xo_cl, xo_iadd, xo_isub, xo_imul, xo_iand, xo_ior, xo_ixor, xo_ishl, xo_ishr, xo_iushr, xo_idiv, xo_irem, xo_ineg, xo_ladd, xo_lsub, xo_lmul, xo_land, xo_lor, xo_lxor, xo_ldiv, xo_lrem, xo_lneg, xo_lushr, xo_lshl, xo_lshr, xo_lcmp, xo_i2l, xo_l2i, xo_i2b, xo_i2s, xo_i2c, xo_dup, xo_pop, xo_zeq, xo_ceq, xo_zne, xo_cne, xo_zlt, xo_clt, xo_zge, xo_cge, xo_zgt, xo_cgt, xo_zle, xo_cle, xo_sw, xo_ts, xo_gf, xo_pfi, xo_pfl, xo_pfz, xo_pfr, xo_iald, xo_iast, xo_zast, xo_zald, xo_alen, xo_aald, xo_gs, xo_cv, xo_cs, xo_ca, xo_obj, xo_ri, xo_rz, xo_rl, xo_ra, xo_rc, xo_rb, xo_rv, xo_new, xo_newa, xo_anew, xo_aast, xo_mmax, xo_mmin, xo_mabs, xo_mmaxL, xo_mabsL, jw_ge, jw_st, jw_st2, jw_se, jw_un, jw_kk, jw_pp, jw_l4, jw_l1, jw_ps, jw_en, jw_N, jw_C, List.map_cons, List.map_nil, ↓reduceIte, Nat.reduceSub, Nat.reduceAdd, Nat.reduceEqDiff, Nat.reduceLeDiff, Nat.le_refl, Nat.zero_le, true_and, and_true, true_or, or_true, false_or, or_false, false_imp_iff, true_imp_iff, not_true_eq_false, not_false_eq_true, nI_0, nb_1, fa_10, fa_01, hne, hg_24_0, hg_24_1, hg_24_2, hq_24_2, hg_24_3, hq_24_3, hg_24_4, hq_24_4, hg_24_5, hq_24_5, hg_24_6, hq_24_6, hg_24_7, hq_24_7, hg_24_8, hq_24_8, hi_24, f1, e1, e2, hr_i hr25]
  refine rn_push hr25 f4 hx x.1 (fun I2 hx2 hf2 => ?_)
  have e24 : I2 24 = I 24 := hf2 24 (by decide) (by decide)
  simp only [qq_2_take, bb_2_take_48, bb_2_take_47, bb_2_take_8, bb_2_take_0, xo_il, xo_ll, xo_al, xo_is, xo_ls, xo_as, xo_ic, xo_ci, xo_cl, xo_iadd, xo_isub, xo_imul, xo_iand, xo_ior, xo_ixor, xo_ishl, xo_ishr, xo_iushr, xo_idiv, xo_irem, xo_ineg, xo_ladd, xo_lsub, xo_lmul, xo_land, xo_lor, xo_lxor, xo_ldiv, xo_lrem, xo_lneg, xo_lushr, xo_lshl, xo_lshr, xo_lcmp, xo_i2l, xo_l2i, xo_i2b, xo_i2s, xo_i2c, xo_dup, xo_pop, xo_zeq, xo_ceq, xo_zne, xo_cne, xo_zlt, xo_clt, xo_zge, xo_cge, xo_zgt, xo_cgt, xo_zle, xo_cle, xo_sw, xo_ts, xo_gf, xo_pfi, xo_pfl, xo_pfz, xo_pfr, xo_iald, xo_iast, xo_zast, xo_zald, xo_alen, xo_aald, xo_gs, xo_cv, xo_cs, xo_ca, xo_obj, xo_ri, xo_rz, xo_rl, xo_ra, xo_rc, xo_rb, xo_rv, xo_new, xo_newa, xo_anew, xo_aast, xo_mmax, xo_mmin, xo_mabs, xo_mmaxL, xo_mabsL, jw_ge, jw_st, jw_st2, jw_se, jw_un, jw_kk, jw_pp, jw_l4, jw_l1, jw_ps, jw_en, jw_N, jw_C, List.map_cons, List.map_nil, ↓reduceIte, Nat.reduceSub, Nat.reduceAdd, Nat.reduceEqDiff, Nat.reduceLeDiff, Nat.le_refl, Nat.zero_le, true_and, and_true, true_or, or_true, false_or, or_false, false_imp_iff, true_imp_iff, not_true_eq_false, not_false_eq_true, nI_0, nb_1, fa_10, fa_01, hg_24_0, hg_24_1, hg_24_2, hq_24_2, hg_24_3, hq_24_3, hg_24_4, hq_24_4, hg_24_5, hq_24_5, hg_24_6, hq_24_6, hg_24_7, hq_24_7, hg_24_8, hq_24_8, hi_24]
  refine tt_bitCount _ ?_
  rw [bc_n _ (by omega)]
  have hon : on_ (cx_ b x) < 9 := by unfold on_; omega
  have h5 := rn_fr f5 hf2 (by decide) (by decide) (by decide)
  simp only [qq_2_take, bb_2_take_48, bb_2_take_47, bb_2_take_8, bb_2_take_0, xo_il, xo_ll, xo_al, xo_is, xo_ls, xo_as, xo_ic, xo_ci, xo_cl, xo_iadd, xo_isub, xo_imul, xo_iand, xo_ior, xo_ixor, xo_ishl, xo_ishr, xo_iushr, xo_idiv, xo_irem, xo_ineg, xo_ladd, xo_lsub, xo_lmul, xo_land, xo_lor, xo_lxor, xo_ldiv, xo_lrem, xo_lneg, xo_lushr, xo_lshl, xo_lshr, xo_lcmp, xo_i2l, xo_l2i, xo_i2b, xo_i2s, xo_i2c, xo_dup, xo_pop, xo_zeq, xo_ceq, xo_zne, xo_cne, xo_zlt, xo_clt, xo_zge, xo_cge, xo_zgt, xo_cgt, xo_zle, xo_cle, xo_sw, xo_ts, xo_gf, xo_pfi, xo_pfl, xo_pfz, xo_pfr, xo_iald, xo_iast, xo_zast, xo_zald, xo_alen, xo_aald, xo_gs, xo_cv, xo_cs, xo_ca, xo_obj, xo_ri, xo_rz, xo_rl, xo_ra, xo_rc, xo_rb, xo_rv, xo_new, xo_newa, xo_anew, xo_aast, xo_mmax, xo_mmin, xo_mabs, xo_mmaxL, xo_mabsL, jw_ge, jw_st, jw_st2, jw_se, jw_un, jw_kk, jw_pp, jw_l4, jw_l1, jw_ps, jw_en, jw_N, jw_C, List.map_cons, List.map_nil, ↓reduceIte, Nat.reduceSub, Nat.reduceAdd, Nat.reduceEqDiff, Nat.reduceLeDiff, Nat.le_refl, Nat.zero_le, true_and, and_true, true_or, or_true, false_or, or_false, false_imp_iff, true_imp_iff, not_true_eq_false, not_false_eq_true, nI_0, nb_1, fa_10, fa_01, hg_24_0, hg_24_1, hg_24_2, hq_24_2, hg_24_3, hq_24_3, hg_24_4, hq_24_4, hg_24_5, hq_24_5, hg_24_6, hq_24_6, hg_24_7, hq_24_7, hg_24_8, hq_24_8, hi_24, e24, f2, nu_a1 (show on_ (cx_ b x) < 2 ^ 32 by omega), hr_i hr27]
  have fin : ∀ (v : Nat), v = fi_ odd x → cc_4_push [.ref 27, .int (nI v)] (hp_ I2 J) (jw_kk (xo_rz 0 0 K) [.ref 24, .int (nI (cx_ b x))] [] (0, 0)) := by
    intro v hv
    refine rn_push hr27 h5 hy v (fun I3 hx3 hf3 => ?_)
    simp only [xo_il, xo_ll, xo_al, xo_is, xo_ls, xo_as, xo_ic, xo_ci, xo_cl, xo_iadd, xo_isub, xo_imul, xo_iand, xo_ior, xo_ixor, xo_ishl, xo_ishr, xo_iushr, xo_idiv, xo_irem, xo_ineg, xo_ladd, xo_lsub, xo_lmul, xo_land, xo_lor, xo_lxor, xo_ldiv, xo_lrem, xo_lneg, xo_lushr, xo_lshl, xo_lshr, xo_lcmp, xo_i2l, xo_l2i, xo_i2b, xo_i2s, xo_i2c, xo_dup, xo_pop, xo_zeq, xo_ceq, xo_zne, xo_cne, xo_zlt, xo_clt, xo_zge, xo_cge, xo_zgt, xo_cgt, xo_zle, xo_cle, xo_sw, xo_ts, xo_gf, xo_pfi, xo_pfl, xo_pfz, xo_pfr, xo_iald, xo_iast, xo_zast, xo_zald, xo_alen, xo_aald, xo_gs, xo_cv, xo_cs, xo_ca, xo_obj, xo_ri, xo_rz, xo_rl, xo_ra, xo_rc, xo_rb, xo_rv, xo_new, xo_newa, xo_anew, xo_aast, xo_mmax, xo_mmin, xo_mabs, xo_mmaxL, xo_mabsL, jw_ge, jw_st, jw_st2, jw_se, jw_un, jw_kk, jw_pp, jw_l4, jw_l1, jw_ps, jw_en, jw_N, jw_C, List.map_cons, List.map_nil, ↓reduceIte, Nat.reduceSub, Nat.reduceAdd, Nat.reduceEqDiff, Nat.reduceLeDiff, Nat.le_refl, Nat.zero_le, true_and, and_true, true_or, or_true, false_or, or_false, false_imp_iff, true_imp_iff, not_true_eq_false, not_false_eq_true, nI_0, nb_1, fa_10, fa_01]
    have e24b : I3 24 = I 24 := by rw [hf3 24 (by decide) (by decide), e24]
    refine hK I3 ⟨by rw [e24b]; exact f1, by rw [e24b]; exact f2, by rw [e24b]; exact f3, rn_fr hx2 hf3 (by decide) (by decide) (by decide), by rw [← hv]; exact hx3⟩ (fun q q1 q2 q3 q4 => by rw [hf3 q q3 q4, hf2 q q1 q2])
  have hco := cx_on b (by omega) odd (by omega) x.1 (by omega) x.2 (by omega) h1
  refine ⟨fun h => ?_, fun h => ?_⟩
  · refine fin 0 ?_
    unfold fi_
    rw [if_neg]
    intro q
    exact h (by have := hco.mpr q; unfold cx_; rw [this])
  · refine fin 1 ?_
    unfold fi_
    rw [if_pos (hco.mp ((nI_eq (by omega) (by omega)).mp h))]
/-- where the symbol w with its parity stands first, from place k on, m places -/
def bg_ (b odd w : Nat) (bs : List Nat) : Nat → Nat → Option Nat
  | 0, _ => none
  | m + 1, k => if at_ b bs k = some (w, pa_ odd w) then some k else bg_ b odd w bs m (k + 1)
def oi_ (o : Option Nat) : Int32 := match o with
  | none => -4
  | some k => nI k
theorem ca_eq {o : Option (Nat × Nat)} {w : Nat} (hb6 : b ≤ 6) (ho : ∀ x, o = some x → x.1 < 2 ^ b ∧ x.2 ≤ 1) (hw : w < 2 ^ b) : ca_ b o = nI (cd_ b odd w) ↔ o = some (w, pa_ odd w) := by
  have hpw := pa_le odd w
  obtain ⟨hlw, hnew⟩ := ca_ne (x := (w, pa_ odd w)) hb6 hw hpw
  cases o with
  | none =>
    refine ⟨fun h => ?_, fun h => by cases h⟩
    have h2 : nI (cx_ b (w, pa_ odd w)) = -4 := h.symm
    rw [h2] at hnew
    exact absurd rfl (by rw [hnew]; exact fun q => q)
  | some x =>
    obtain ⟨h1, h2⟩ := ho x rfl
    obtain ⟨hl, -⟩ := ca_ne hb6 h1 h2
    refine ⟨fun h => ?_, fun h => by cases h; rfl⟩
    have h3 : cx_ b x = cd_ b odd w := (nI_eq (by omega) (by show cx_ b (w, pa_ odd w) < _; omega)).mp h
    obtain ⟨e1, e2⟩ := cx_inj h1 hw h3
    obtain ⟨v, p⟩ := x
    simp only at e1 e2
    rw [e1, e2]
theorem tt_2_placeOf (hbs : rn_ I 18 bs) (hbn : bs.length ≤ 320) (hb1 : ∀ q ∈ bs, q ≤ 1) (h5 : I 24 5 = nI b) (hb6 : b ≤ 6) {w : Nat} (hw : w < 2 ^ b) (hK : K (some (.int (oi_ (bg_ b odd w bs bs.length 0)))) (hp_ I J)) : cc_2_placeOf [.ref 24, .int (nI (cd_ b odd w)), .ref 18] (hp_ I J) K := by
  refine jw_Cin (Nat.le_of_ble_eq_true rfl) rfl (fun P hP => ?_)
  have lp : ∀ (m k : Nat), bs.length = k + m → bg_ b odd w bs m k = bg_ b odd w bs bs.length 0 → P 2 [.ref 24, .int (nI (cd_ b odd w)), .ref 18, .int (nI k)] [] (hp_ I J) (0, 0) := by
    intro m
    induction m with
    | zero =>
      intro k hk he
      have hle : nI bs.length ≤ nI k := (nI_leI (by omega) (by omega)).mpr (by omega)
      refine hP _ _ _ _ _ ?_
      simp only [qq_2_placeOf, bb_2_placeOf_28, bb_2_placeOf_22, bb_2_placeOf_2, bb_2_placeOf_0, xo_il, xo_ll, xo_al, xo_is, xo_ls, xo_as, xo_ic, xo_ci, xo_cl, xo_iadd, xo_isub, xo_imul, xo_iand, xo_ior, xo_ixor, xo_ishl, xo_ishr, xo_iushr, xo_idiv, xo_irem, xo_ineg, xo_ladd, xo_lsub, xo_lmul, xo_land, xo_lor, xo_lxor, xo_ldiv, xo_lrem, xo_lneg, xo_lushr, xo_lshl, xo_lshr, xo_lcmp, xo_i2l, xo_l2i, xo_i2b, xo_i2s, xo_i2c, xo_dup, xo_pop, xo_zeq, xo_ceq, xo_zne, xo_cne, xo_zlt, xo_clt, xo_zge, xo_cge, xo_zgt, xo_cgt, xo_zle, xo_cle, xo_sw, xo_ts, xo_gf, xo_pfi, xo_pfl, xo_pfz, xo_pfr, xo_iald, xo_iast, xo_zast, xo_zald, xo_alen, xo_aald, xo_gs, xo_cv, xo_cs, xo_ca, xo_obj, xo_ri, xo_rz, xo_rl, xo_ra, xo_rc, xo_rb, xo_rv, xo_new, xo_newa, xo_anew, xo_aast, xo_mmax, xo_mmin, xo_mabs, xo_mmaxL, xo_mabsL, jw_ge, jw_st, jw_st2, jw_se, jw_un, jw_kk, jw_pp, jw_l4, jw_l1, jw_ps, jw_en, jw_N, jw_C, List.map_cons, List.map_nil, ↓reduceIte, Nat.reduceSub, Nat.reduceAdd, Nat.reduceEqDiff, Nat.reduceLeDiff, Nat.le_refl, Nat.zero_le, true_and, and_true, true_or, or_true, false_or, or_false, false_imp_iff, true_imp_iff, not_true_eq_false, not_false_eq_true, nI_0, nb_1, fa_10, fa_01, hr_i hr18]
      refine rn_size hr18 hbs ?_
      simp only [qq_2_placeOf, bb_2_placeOf_28, bb_2_placeOf_22, bb_2_placeOf_2, bb_2_placeOf_0, xo_il, xo_ll, xo_al, xo_is, xo_ls, xo_as, xo_ic, xo_ci, xo_cl, xo_iadd, xo_isub, xo_imul, xo_iand, xo_ior, xo_ixor, xo_ishl, xo_ishr, xo_iushr, xo_idiv, xo_irem, xo_ineg, xo_ladd, xo_lsub, xo_lmul, xo_land, xo_lor, xo_lxor, xo_ldiv, xo_lrem, xo_lneg, xo_lushr, xo_lshl, xo_lshr, xo_lcmp, xo_i2l, xo_l2i, xo_i2b, xo_i2s, xo_i2c, xo_dup, xo_pop, xo_zeq, xo_ceq, xo_zne, xo_cne, xo_zlt, xo_clt, xo_zge, xo_cge, xo_zgt, xo_cgt, xo_zle, xo_cle, xo_sw, xo_ts, xo_gf, xo_pfi, xo_pfl, xo_pfz, xo_pfr, xo_iald, xo_iast, xo_zast, xo_zald, xo_alen, xo_aald, xo_gs, xo_cv, xo_cs, xo_ca, xo_obj, xo_ri, xo_rz, xo_rl, xo_ra, xo_rc, xo_rb, xo_rv, xo_new, xo_newa, xo_anew, xo_aast, xo_mmax, xo_mmin, xo_mabs, xo_mmaxL, xo_mabsL, jw_ge, jw_st, jw_st2, jw_se, jw_un, jw_kk, jw_pp, jw_l4, jw_l1, jw_ps, jw_en, jw_N, jw_C, List.map_cons, List.map_nil, ↓reduceIte, Nat.reduceSub, Nat.reduceAdd, Nat.reduceEqDiff, Nat.reduceLeDiff, Nat.le_refl, Nat.zero_le, true_and, and_true, true_or, or_true, false_or, or_false, false_imp_iff, true_imp_iff, not_true_eq_false, not_false_eq_true, nI_0, nb_1, fa_10, fa_01, hle]
      rw [← he] at hK
      exact hK
    | succ m ih =>
      intro k hk he
      have hle : ¬ nI bs.length ≤ nI k := (nu_gt (by omega) (by omega)).mpr (by omega)
      refine hP _ _ _ _ _ ?_
      simp only [qq_2_placeOf, bb_2_placeOf_28, bb_2_placeOf_22, bb_2_placeOf_2, bb_2_placeOf_0, xo_il, xo_ll, xo_al, xo_is, xo_ls, xo_as, xo_ic, xo_ci, xo_cl, xo_iadd, xo_isub, xo_imul, xo_iand, xo_ior, xo_ixor, xo_ishl, xo_ishr, xo_iushr, xo_idiv, xo_irem, xo_ineg, xo_ladd, xo_lsub, xo_lmul, xo_land, xo_lor, xo_lxor, xo_ldiv, xo_lrem, xo_lneg, xo_lushr, xo_lshl, xo_lshr, xo_lcmp, xo_i2l, xo_l2i, xo_i2b, xo_i2s, xo_i2c, xo_dup, xo_pop, xo_zeq, xo_ceq, xo_zne, xo_cne, xo_zlt, xo_clt, xo_zge, xo_cge, xo_zgt, xo_cgt, xo_zle, xo_cle, xo_sw, xo_ts, xo_gf, xo_pfi, xo_pfl, xo_pfz, xo_pfr, xo_iald, xo_iast, xo_zast, xo_zald, xo_alen, xo_aald, xo_gs, xo_cv, xo_cs, xo_ca, xo_obj, xo_ri, xo_rz, xo_rl, xo_ra, xo_rc, xo_rb, xo_rv, xo_new, xo_newa, xo_anew, xo_aast, xo_mmax, xo_mmin, xo_mabs, xo_mmaxL, xo_mabsL, jw_ge, jw_st, jw_st2, jw_se, jw_un, jw_kk, jw_pp, jw_l4, jw_l1, jw_ps, jw_en, jw_N, jw_C, List.map_cons, List.map_nil, ↓reduceIte, Nat.reduceSub, Nat.reduceAdd, Nat.reduceEqDiff, Nat.reduceLeDiff, Nat.le_refl, Nat.zero_le, true_and, and_true, true_or, or_true, false_or, or_false, false_imp_iff, true_imp_iff, not_true_eq_false, not_false_eq_true, nI_0, nb_1, fa_10, fa_01, hr_i hr18]
      refine rn_size hr18 hbs ?_
      simp only [qq_2_placeOf, bb_2_placeOf_28, bb_2_placeOf_22, bb_2_placeOf_2, bb_2_placeOf_0, xo_il, xo_ll, xo_al, xo_is, xo_ls, xo_as, xo_ic, xo_ci, xo_cl, xo_iadd, xo_isub, xo_imul, xo_iand, xo_ior, xo_ixor, xo_ishl, xo_ishr, xo_iushr, xo_idiv, xo_irem, xo_ineg, xo_ladd, xo_lsub, xo_lmul, xo_land, xo_lor, xo_lxor, xo_ldiv, xo_lrem, xo_lneg, xo_lushr, xo_lshl, xo_lshr, xo_lcmp, xo_i2l, xo_l2i, xo_i2b, xo_i2s, xo_i2c, xo_dup, xo_pop, xo_zeq, xo_ceq, xo_zne, xo_cne, xo_zlt, xo_clt, xo_zge, xo_cge, xo_zgt, xo_cgt, xo_zle, xo_cle, xo_sw, xo_ts, xo_gf, xo_pfi, xo_pfl, xo_pfz, xo_pfr, xo_iald, xo_iast, xo_zast, xo_zald, xo_alen, xo_aald, xo_gs, xo_cv, xo_cs, xo_ca, xo_obj, xo_ri, xo_rz, xo_rl, xo_ra, xo_rc, xo_rb, xo_rv, xo_new, xo_newa, xo_anew, xo_aast, xo_mmax, xo_mmin, xo_mabs, xo_mmaxL, xo_mabsL, jw_ge, jw_st, jw_st2, jw_se, jw_un, jw_kk, jw_pp, jw_l4, jw_l1, jw_ps, jw_en, jw_N, jw_C, List.map_cons, List.map_nil, ↓reduceIte, Nat.reduceSub, Nat.reduceAdd, Nat.reduceEqDiff, Nat.reduceLeDiff, Nat.le_refl, Nat.zero_le, true_and, and_true, true_or, or_true, false_or, or_false, false_imp_iff, true_imp_iff, not_true_eq_false, not_false_eq_true, nI_0, nb_1, fa_10, fa_01, hle, hg_24_0, hg_24_1, hg_24_2, hq_24_2, hg_24_3, hq_24_3, hg_24_4, hq_24_4, hg_24_5, hq_24_5, hg_24_6, hq_24_6, hg_24_7, hq_24_7, hg_24_8, hq_24_8, hi_24]
      refine tt_2_codedFrom hbs hbn hb1 h5 hb6 (by omega) ?_
      have hce := ca_eq (b := b) (odd := odd) (o := at_ b bs k) (w := w) hb6 (fun x hx => ⟨(at_in hb1 hx).1, (at_in hb1 hx).2.1⟩) hw
      simp only [qq_2_placeOf, bb_2_placeOf_28, bb_2_placeOf_22, bb_2_placeOf_2, bb_2_placeOf_0, xo_il, xo_ll, xo_al, xo_is, xo_ls, xo_as, xo_ic, xo_ci, xo_cl, xo_iadd, xo_isub, xo_imul, xo_iand, xo_ior, xo_ixor, xo_ishl, xo_ishr, xo_iushr, xo_idiv, xo_irem, xo_ineg, xo_ladd, xo_lsub, xo_lmul, xo_land, xo_lor, xo_lxor, xo_ldiv, xo_lrem, xo_lneg, xo_lushr, xo_lshl, xo_lshr, xo_lcmp, xo_i2l, xo_l2i, xo_i2b, xo_i2s, xo_i2c, xo_dup, xo_pop, xo_zeq, xo_ceq, xo_zne, xo_cne, xo_zlt, xo_clt, xo_zge, xo_cge, xo_zgt, xo_cgt, xo_zle, xo_cle, xo_sw, xo_ts, xo_gf, xo_pfi, xo_pfl, xo_pfz, xo_pfr, xo_iald, xo_iast, xo_zast, xo_zald, xo_alen, xo_aald, xo_gs, xo_cv, xo_cs, xo_ca, xo_obj, xo_ri, xo_rz, xo_rl, xo_ra, xo_rc, xo_rb, xo_rv, xo_new, xo_newa, xo_anew, xo_aast, xo_mmax, xo_mmin, xo_mabs, xo_mmaxL, xo_mabsL, jw_ge, jw_st, jw_st2, jw_se, jw_un, jw_kk, jw_pp, jw_l4, jw_l1, jw_ps, jw_en, jw_N, jw_C, List.map_cons, List.map_nil, ↓reduceIte, Nat.reduceSub, Nat.reduceAdd, Nat.reduceEqDiff, Nat.reduceLeDiff, Nat.le_refl, Nat.zero_le, true_and, and_true, true_or, or_true, false_or, or_false, false_imp_iff, true_imp_iff, not_true_eq_false, not_false_eq_true, nI_0, nb_1, fa_10, fa_01, hce, nI_1]
      refine ⟨fun h => ?_, fun h => ?_⟩
      · refine ih (k + 1) (by omega) ?_
        rw [← he, bg_, if_neg h]
      · rw [← he, bg_, if_pos h] at hK
        exact hK
  refine hP _ _ _ _ _ ?_
  simp only [qq_2_placeOf, bb_2_placeOf_28, bb_2_placeOf_22, bb_2_placeOf_0, xo_il, xo_ll, xo_al, xo_is, xo_ls, xo_as, xo_ic, xo_ci, xo_cl, xo_iadd, xo_isub, xo_imul, xo_iand, xo_ior, xo_ixor, xo_ishl, xo_ishr, xo_iushr, xo_idiv, xo_irem, xo_ineg, xo_ladd, xo_lsub, xo_lmul, xo_land, xo_lor, xo_lxor, xo_ldiv, xo_lrem, xo_lneg, xo_lushr, xo_lshl, xo_lshr, xo_lcmp, xo_i2l, xo_l2i, xo_i2b, xo_i2s, xo_i2c, xo_dup, xo_pop, xo_zeq, xo_ceq, xo_zne, xo_cne, xo_zlt, xo_clt, xo_zge, xo_cge, xo_zgt, xo_cgt, xo_zle, xo_cle, xo_sw, xo_ts, xo_gf, xo_pfi, xo_pfl, xo_pfz, xo_pfr, xo_iald, xo_iast, xo_zast, xo_zald, xo_alen, xo_aald, xo_gs, xo_cv, xo_cs, xo_ca, xo_obj, xo_ri, xo_rz, xo_rl, xo_ra, xo_rc, xo_rb, xo_rv, xo_new, xo_newa, xo_anew, xo_aast, xo_mmax, xo_mmin, xo_mabs, xo_mmaxL, xo_mabsL, jw_ge, jw_st, jw_st2, jw_se, jw_un, jw_kk, jw_pp, jw_l4, jw_l1, jw_ps, jw_en, jw_N, jw_C, List.map_cons, List.map_nil, ↓reduceIte, Nat.reduceSub, Nat.reduceAdd, Nat.reduceEqDiff, Nat.reduceLeDiff, Nat.le_refl, Nat.zero_le, true_and, and_true, true_or, or_true, false_or, or_false, false_imp_iff, true_imp_iff, not_true_eq_false, not_false_eq_true, nI_0, nb_1, fa_10, fa_01]
  exact lp bs.length 0 (by omega) rfl
end FD
