/-! bits written as gaps -/
theorem rl_eq {I I2 : Nat → Nat → Int32} {r : Nat} {xs : List Int32} (h : rl_ I r xs) (h1 : I2 r = I r) (h2 : I2 (r + 1) = I (r + 1)) : rl_ I2 r xs := ⟨by rw [h1]; exact h.1, fun i hi => by rw [h2]; exact h.2 i hi⟩
theorem rn_eq {I I2 : Nat → Nat → Int32} {r : Nat} {xs : List Nat} (h : rn_ I r xs) (h1 : I2 r = I r) (h2 : I2 (r + 1) = I (r + 1)) : rn_ I2 r xs := rl_eq h h1 h2
theorem nu_ushr (x : Int32) : us_ x 16 &&& 32767 = nI (x.toBitVec.toNat / 65536 % 32768) := by
  rw [pk_and (us_ x 16) 15 (by decide)]
  have h : (us_ x 16).toBitVec.toNat = x.toBitVec.toNat / 2 ^ 16 := pk_ushr x 16 16 (by decide)
  rw [h]
theorem nu_sshr (x : Int32) : (x >>> ((16 : Int32) &&& 31)) &&& 32767 = nI (x.toBitVec.toNat / 65536 % 32768) := by
  rw [pk_and _ 15 (by decide)]
  congr 1
  have h : (x >>> ((16 : Int32) &&& 31)).toBitVec = x.toBitVec.sshiftRight 16 := by
    show (BitVec.sshiftRight' _ _) = _
    rfl
  rw [h, BitVec.toNat_sshiftRight]
  have hx := x.toBitVec.isLt
  simp only [Nat.shiftRight_eq_div_pow]
  split <;> omega
def nx_ (sd : Int32) : Int32 := sd * 1103515245 + 12345
def dn_ (sd : Int32) : Nat := (nx_ sd).toBitVec.toNat / 65536 % 32768
/-- a length, swayed; the seed behind it -/
def sw_ (L j : Nat) (sd : Int32) : Nat := if j = 0 then L else max 1 (L + dn_ sd % (2 * j + 1) - j)
def sd_ (j : Nat) (sd : Int32) : Int32 := if j = 0 then sd else nx_ sd
/-- the clock's length at a bit -/
def cl_ (x : Int32) : Nat := if x < 4 then 4 else if 999 < x then 999 else x.toNatClampNeg
theorem cl_nn {x : Int32} (h : ¬ x < 4) : x = nI x.toNatClampNeg ∧ 4 ≤ x.toNatClampNeg ∧ x.toNatClampNeg < 2 ^ 31 := by
  have h0 : ¬ x < 0 := by
    intro q
    apply h
    rw [Int32.lt_iff_toInt_lt] at q ⊢
    have e1 : (0 : Int32).toInt = 0 := rfl
    have e2 : (4 : Int32).toInt = 4 := rfl
    omega
  obtain ⟨j, hj, rfl⟩ := nI_of h0
  rw [nI_clamp hj]
  refine ⟨rfl, ?_, hj⟩
  rcases Nat.lt_or_ge j 4 with q | q
  · exact absurd (nI_lt (a := j) (b := 4) q (by decide)) h
  · exact q
theorem cl_le (x : Int32) : 4 ≤ cl_ x ∧ cl_ x ≤ 999 := by
  unfold cl_
  split
  · omega
  · rename_i h
    obtain ⟨e, h1, h2⟩ := cl_nn h
    split
    · omega
    · rename_i h3
      rw [e] at h3
      refine ⟨h1, ?_⟩
      rcases Nat.lt_or_ge 999 x.toNatClampNeg with q | q
      · exact absurd (nI_lt (a := 999) q h2) h3
      · exact q
theorem cl_c (x : Int32) : (if (4 : Int32) < (if x < 999 then x else 999) then (if x < 999 then x else 999) else 4) = nI (cl_ x) := by
  have lt : ∀ a b : Int32, a < b ↔ a.toInt < b.toInt := fun a b => Int32.lt_iff_toInt_lt
  have e4 : (4 : Int32).toInt = 4 := rfl
  have e9 : (999 : Int32).toInt = 999 := rfl
  unfold cl_
  by_cases h4 : x < 4
  · have h9 : x < 999 := by rw [lt] at *; omega
    rw [if_pos h9, if_pos h4, if_neg (by rw [lt] at *; omega)]
    rfl
  · obtain ⟨e, -, -⟩ := cl_nn h4
    rw [if_neg h4]
    by_cases h9 : 999 < x
    · rw [if_pos h9, if_neg (show ¬ x < 999 by rw [lt] at *; omega), if_pos (by decide)]
      rfl
    · rw [if_neg h9, ← e]
      by_cases h5 : x < 999
      · rw [if_pos h5]
        by_cases h6 : 4 < x
        · rw [if_pos h6]
        · rw [if_neg h6]; apply Int32.toInt_inj.mp; rw [lt] at *; omega
      · rw [if_neg h5, if_pos (by decide)]; apply Int32.toInt_inj.mp; rw [lt] at *; omega
/-- what write lays -/
def lo_ (unit change : Int32) (j : Nat) : Nat → Int32 → List Nat → List Nat
  | _, _, [] => []
  | i, sd, b :: bs => if b = 0 then sw_ (cl_ (unit + nI i * change)) j sd :: lo_ unit change j (i + 1) (sd_ j sd) bs
    else sw_ (cl_ (unit + nI i * change) / 2) j sd :: sw_ (cl_ (unit + nI i * change) - cl_ (unit + nI i * change) / 2) j (sd_ j sd) :: lo_ unit change j (i + 1) (sd_ j (sd_ j sd)) bs
theorem lo_len (unit change : Int32) (j : Nat) : ∀ (bs : List Nat) (i : Nat) (sd : Int32), (∀ b ∈ bs, b ≤ 1) → (lo_ unit change j i sd bs).length = bs.length + bs.sum
  | [], i, sd, _ => rfl
  | b :: bs, i, sd, h => by
    have h1 := h b List.mem_cons_self
    have ih := fun i sd => lo_len unit change j bs i sd (fun c hc => h c (List.mem_cons_of_mem _ hc))
    unfold lo_
    split
    · rename_i e; subst e; simp only [List.length_cons, List.sum_cons, ih]; omega
    · have : b = 1 := by omega
      subst this; simp only [List.length_cons, List.sum_cons, ih]; omega
theorem sw_in {L j : Nat} (h1 : 1 ≤ L) (h2 : L ≤ 999) (hj : j ≤ 99) (sd : Int32) : 1 ≤ sw_ L j sd ∧ sw_ L j sd ≤ 9999 := by
  unfold sw_
  split
  · omega
  · have : dn_ sd % (2 * j + 1) < 2 * j + 1 := Nat.mod_lt _ (by omega)
    omega
theorem lo_in (unit change : Int32) {j : Nat} (hj : j ≤ 99) : ∀ (bs : List Nat) (i : Nat) (sd : Int32), ∀ v ∈ lo_ unit change j i sd bs, 1 ≤ v ∧ v ≤ 9999
  | [], i, sd, v, hv => by simp [lo_] at hv
  | b :: bs, i, sd, v, hv => by
    have hc := cl_le (unit + nI i * change)
    unfold lo_ at hv
    split at hv
    · rcases List.mem_cons.mp hv with rfl | hv
      · exact sw_in (by omega) (by omega) hj _
      · exact lo_in unit change hj bs _ _ v hv
    · rcases List.mem_cons.mp hv with rfl | hv
      · exact sw_in (by omega) (by omega) hj _
      · rcases List.mem_cons.mp hv with rfl | hv
        · exact sw_in (by omega) (by omega) hj _
        · exact lo_in unit change hj bs _ _ v hv
theorem sw_x {a j : Nat} (ha : a < 2000) (hj : j ≤ 99) : (if (1 : Int32) < nI a - nI j then nI a - nI j else 1) = nI (max 1 (a - j)) := by
  rcases Nat.lt_or_ge a j with h | h
  · have h1 : nI a - nI j < 0 := pk_sneg (by omega) h
    rw [if_neg (fun q => ?_), show a - j = 0 by omega]
    · rfl
    · rw [Int32.lt_iff_toInt_lt] at h1 q
      have e1 : (0 : Int32).toInt = 0 := rfl
      have e2 : (1 : Int32).toInt = 1 := rfl
      omega
  · rw [pk_sub h, show (1 : Int32) = nI 1 from rfl]
    by_cases h1 : 1 < a - j
    · rw [if_pos (nI_lt (a := 1) h1 (by omega)), show max 1 (a - j) = a - j by omega]
    · rw [if_neg (fun q => h1 ((nI_ltI (a := 1) (by omega) (by omega)).mp q)), show max 1 (a - j) = 1 by omega]
section SW
variable {I : Nat → Nat → Int32} {J : Nat → Nat → Int64} {K : jw_K}
theorem tt_8_swayed {L j : Nat} (hL : L ≤ 999) (hj : j ≤ 99) (hK : ∀ I2, I2 12 2 = sd_ j (I 12 2) → (∀ q, q ≠ 12 → I2 q = I q) → (I2 12 1 = I 12 1) → K (some (.int (nI (sw_ L j (I 12 2))))) (hp_ I2 J)) : cc_8_swayed [.ref 12, .int (nI L), .int (nI j)] (hp_ I J) K := by
  refine jw_Cin (Nat.le_of_ble_eq_true rfl) rfl (fun P hP => hP _ _ _ _ _ ?_)
  by_cases h0 : j = 0
  · subst h0
    simp only [qq_8_swayed, bb_8_swayed_42, bb_8_swayed_6, bb_8_swayed_0, xo_il, xo_ll, xo_al, xo_is, xo_ls, xo_as, xo_ic, xo_ci, xo_cl, xo_iadd, xo_isub, xo_imul, xo_iand, xo_ior, xo_ixor, xo_ishl, xo_ishr, xo_iushr, xo_idiv, xo_irem, xo_ineg, xo_ladd, xo_lsub, xo_lmul, xo_land, xo_lor, xo_lxor, xo_ldiv, xo_lrem, xo_lneg, xo_lushr, xo_lshl, xo_lshr, xo_lcmp, xo_i2l, xo_l2i, xo_i2b, xo_i2s, xo_i2c, xo_dup, xo_pop, xo_zeq, xo_ceq, xo_zne, xo_cne, xo_zlt, xo_clt, xo_zge, xo_cge, xo_zgt, xo_cgt, xo_zle, xo_cle, xo_sw, xo_ts, xo_gf, xo_pfi, xo_pfl, xo_pfz, xo_pfr, xo_iald, xo_iast, xo_zast, xo_zald, xo_alen, xo_aald, xo_gs, xo_cv, xo_cs, xo_ca, xo_obj, xo_ri, xo_rz, xo_rl, xo_ra, xo_rc, xo_rb, xo_rv, xo_new, xo_newa, xo_anew, xo_aast, xo_mmax, xo_mmin, xo_mabs, xo_mmaxL, xo_mabsL, jw_ge, jw_st, jw_st2, jw_se, jw_un, jw_kk, jw_pp, jw_l4, jw_l1, jw_ps, jw_en, jw_N, jw_C, List.map_cons, List.map_nil, ↓reduceIte, Nat.reduceSub, Nat.reduceAdd, Nat.reduceEqDiff, Nat.reduceLeDiff, Nat.le_refl, Nat.zero_le, true_and, and_true, true_or, or_true, false_or, or_false, false_imp_iff, true_imp_iff, not_true_eq_false, not_false_eq_true, nI_0, nb_1, fa_10, fa_01, show ((0 : Int32) < 0) = False from eq_false (by decide)]
    exact hK I rfl (fun _ _ => rfl) rfl
  · have hj0 : (0 : Int32) < nI j := nI_lt (a := 0) (by omega) (by omega)
    have e1 : (2 : Int32) * nI j + 1 = nI (2 * j + 1) := by rw [show (2 : Int32) = nI 2 from rfl, pk_mul, nI_1]
    have e2 : ¬ nI (2 * j + 1) = 0 := nI_ne0 (by omega) (by omega)
    have hd : dn_ (I 12 2) < 32768 := Nat.mod_lt _ (by decide)
    have hm : dn_ (I 12 2) % (2 * j + 1) < 2 * j + 1 := Nat.mod_lt _ (by omega)
    have e3 : ((I 12 2 * 1103515245 + 12345).toUInt32 >>> (Int32.toUInt32 16 &&& Int32.toUInt32 31)).toInt32 &&& 32767 = nI (dn_ (I 12 2)) := nu_ushr _
    simp only [qq_8_swayed, bb_8_swayed_42, bb_8_swayed_6, bb_8_swayed_0, xo_il, xo_ll, xo_al, xo_is, xo_ls, xo_as, xo_ic, xo_ci, xo_cl, xo_iadd, xo_isub, xo_imul, xo_iand, xo_ior, xo_ixor, xo_ishl, xo_ishr, xo_iushr, xo_idiv, xo_irem, xo_ineg, xo_ladd, xo_lsub, xo_lmul, xo_land, xo_lor, xo_lxor, xo_ldiv, xo_lrem, xo_lneg, xo_lushr, xo_lshl, xo_lshr, xo_lcmp, xo_i2l, xo_l2i, xo_i2b, xo_i2s, xo_i2c, xo_dup, xo_pop, xo_zeq, xo_ceq, xo_zne, xo_cne, xo_zlt, xo_clt, xo_zge, xo_cge, xo_zgt, xo_cgt, xo_zle, xo_cle, xo_sw, xo_ts, xo_gf, xo_pfi, xo_pfl, xo_pfz, xo_pfr, xo_iald, xo_iast, xo_zast, xo_zald, xo_alen, xo_aald, xo_gs, xo_cv, xo_cs, xo_ca, xo_obj, xo_ri, xo_rz, xo_rl, xo_ra, xo_rc, xo_rb, xo_rv, xo_new, xo_newa, xo_anew, xo_aast, xo_mmax, xo_mmin, xo_mabs, xo_mmaxL, xo_mabsL, jw_ge, jw_st, jw_st2, jw_se, jw_un, jw_kk, jw_pp, jw_l4, jw_l1, jw_ps, jw_en, jw_N, jw_C, List.map_cons, List.map_nil, ↓reduceIte, Nat.reduceSub, Nat.reduceAdd, Nat.reduceEqDiff, Nat.reduceLeDiff, Nat.le_refl, Nat.zero_le, true_and, and_true, true_or, or_true, false_or, or_false, false_imp_iff, true_imp_iff, not_true_eq_false, not_false_eq_true, nI_0, nb_1, fa_10, fa_01, hj0, hg_12_0, hg_12_1, hq_12_1, hg_12_2, hq_12_2, hi_12, hw_s, e3, e1, e2, nu_rem (show dn_ (I 12 2) < 2 ^ 31 by omega) (show 0 < 2 * j + 1 by omega) (show 2 * j + 1 < 2 ^ 31 by omega), nI_add]
    have e4 : (if (1 : Int32) < nI (L + dn_ (I 12 2) % (2 * j + 1)) - nI j then nI (L + dn_ (I 12 2) % (2 * j + 1)) - nI j else 1) = nI (sw_ L j (I 12 2)) := by
      unfold sw_
      rw [if_neg h0]
      have ha : L + dn_ (I 12 2) % (2 * j + 1) < 2000 := by omega
      generalize L + dn_ (I 12 2) % (2 * j + 1) = a at ha ⊢
      exact sw_x ha hj
    rw [e4]
    refine hK _ (by rw [hw_s]; unfold sd_; rw [if_neg h0]; rfl) (fun q hq => hw_o hq) (by rw [hw_i (by decide)])
theorem tt_8_layOut {bs gs : List Nat} (hbs : rn_ I 13 bs) (hbn : bs.length ≤ 173) (hb1 : ∀ b ∈ bs, b ≤ 1) (hg : rn_ I 15 gs) (hgn : gs.length ≤ 320) (hs : bs.length + bs.sum ≤ 320) (unit change : Int32) {j : Nat} (hj : j ≤ 99) (sd : Int32) (hK : ∀ I2, rn_ I2 15 (lo_ unit change j 0 sd bs) → I2 12 1 = I 12 1 → (∀ q, q ≠ 12 → q ≠ 15 → q ≠ 16 → I2 q = I q) → K none (hp_ I2 J)) : cc_8_layOut [.ref 12, .ref 15, .int unit, .int change, .int (nI j), .int sd] (hp_ I J) K := by
  refine jw_Cin (Nat.le_of_ble_eq_true rfl) rfl (fun P hP => ?_)
  have htot := lo_len unit change j bs 0 sd hb1
  have lp : ∀ (m i : Nat) (I1 : Nat → Nat → Int32) (ys : List Nat) (s1 : Int32) (w : Value), bs.length = i + m → I1 12 2 = s1 → I1 12 1 = I 12 1 → (∀ q, q ≠ 12 → q ≠ 15 → q ≠ 16 → I1 q = I q) → rn_ I1 15 ys → ys ++ lo_ unit change j i s1 (bs.drop i) = lo_ unit change j 0 sd bs → P 14 [.ref 12, .ref 15, .int unit, .int change, .int (nI j), .int sd, .int (nI i), w] [] (hp_ I1 J) (0, 0) := by
    intro m
    induction m with
    | zero =>
      intro i I1 ys s1 w hi hs1 hc hf hy he
      have hb2 : rn_ I1 13 bs := rn_eq hbs (hf 13 (by decide) (by decide) (by decide)) (hf 14 (by decide) (by decide) (by decide))
      have hle : nI bs.length ≤ nI i := (nI_leI (by omega) (by omega)).mpr (by omega)
      refine hP _ _ _ _ _ ?_
      simp only [qq_8_layOut, bb_8_layOut_111, bb_8_layOut_105, bb_8_layOut_14, bb_8_layOut_0, xo_il, xo_ll, xo_al, xo_is, xo_ls, xo_as, xo_ic, xo_ci, xo_cl, xo_iadd, xo_isub, xo_imul, xo_iand, xo_ior, xo_ixor, xo_ishl, xo_ishr, xo_iushr, xo_idiv, xo_irem, xo_ineg, xo_ladd, xo_lsub, xo_lmul, xo_land, xo_lor, xo_lxor, xo_ldiv, xo_lrem, xo_lneg, xo_lushr, xo_lshl, xo_lshr, xo_lcmp, xo_i2l, xo_l2i, xo_i2b, xo_i2s, xo_i2c, xo_dup, xo_pop, xo_zeq, xo_ceq, xo_zne, xo_cne, xo_zlt, xo_clt, xo_zge, xo_cge, xo_zgt, xo_cgt, xo_zle, xo_cle, xo_sw, xo_ts, xo_gf, xo_pfi, xo_pfl, xo_pfz, xo_pfr, xo_iald, xo_iast, xo_zast, xo_zald, xo_alen, xo_aald, xo_gs, xo_cv, xo_cs, xo_ca, xo_obj, xo_ri, xo_rz, xo_rl, xo_ra, xo_rc, xo_rb, xo_rv, xo_new, xo_newa, xo_anew, xo_aast, xo_mmax, xo_mmin, xo_mabs, xo_mmaxL, xo_mabsL, jw_ge, jw_st, jw_st2, jw_se, jw_un, jw_kk, jw_pp, jw_l4, jw_l1, jw_ps, jw_en, jw_N, jw_C, List.map_cons, List.map_nil, ↓reduceIte, Nat.reduceSub, Nat.reduceAdd, Nat.reduceEqDiff, Nat.reduceLeDiff, Nat.le_refl, Nat.zero_le, true_and, and_true, true_or, or_true, false_or, or_false, false_imp_iff, true_imp_iff, not_true_eq_false, not_false_eq_true, nI_0, nb_1, fa_10, fa_01, hg_12_0, hg_12_1, hq_12_1, hg_12_2, hq_12_2, hi_12, hr_i hr13]
      refine rn_size hr13 hb2 ?_
      simp only [qq_8_layOut, bb_8_layOut_111, bb_8_layOut_105, bb_8_layOut_14, bb_8_layOut_0, xo_il, xo_ll, xo_al, xo_is, xo_ls, xo_as, xo_ic, xo_ci, xo_cl, xo_iadd, xo_isub, xo_imul, xo_iand, xo_ior, xo_ixor, xo_ishl, xo_ishr, xo_iushr, xo_idiv, xo_irem, xo_ineg, xo_ladd, xo_lsub, xo_lmul, xo_land, xo_lor, xo_lxor, xo_ldiv, xo_lrem, xo_lneg, xo_lushr, xo_lshl, xo_lshr, xo_lcmp, xo_i2l, xo_l2i, xo_i2b, xo_i2s, xo_i2c, xo_dup, xo_pop, xo_zeq, xo_ceq, xo_zne, xo_cne, xo_zlt, xo_clt, xo_zge, xo_cge, xo_zgt, xo_cgt, xo_zle, xo_cle, xo_sw, xo_ts, xo_gf, xo_pfi, xo_pfl, xo_pfz, xo_pfr, xo_iald, xo_iast, xo_zast, xo_zald, xo_alen, xo_aald, xo_gs, xo_cv, xo_cs, xo_ca, xo_obj, xo_ri, xo_rz, xo_rl, xo_ra, xo_rc, xo_rb, xo_rv, xo_new, xo_newa, xo_anew, xo_aast, xo_mmax, xo_mmin, xo_mabs, xo_mmaxL, xo_mabsL, jw_ge, jw_st, jw_st2, jw_se, jw_un, jw_kk, jw_pp, jw_l4, jw_l1, jw_ps, jw_en, jw_N, jw_C, List.map_cons, List.map_nil, ↓reduceIte, Nat.reduceSub, Nat.reduceAdd, Nat.reduceEqDiff, Nat.reduceLeDiff, Nat.le_refl, Nat.zero_le, true_and, and_true, true_or, or_true, false_or, or_false, false_imp_iff, true_imp_iff, not_true_eq_false, not_false_eq_true, nI_0, nb_1, fa_10, fa_01, hle]
      rw [List.drop_eq_nil_of_le (by omega), lo_, List.append_nil] at he
      exact hK I1 (by rw [← he]; exact hy) hc hf
    | succ m ih =>
      intro i I1 ys s1 w hi hs1 hc hf hy he
      have hb2 : rn_ I1 13 bs := rn_eq hbs (hf 13 (by decide) (by decide) (by decide)) (hf 14 (by decide) (by decide) (by decide))
      have hle : ¬ nI bs.length ≤ nI i := (nu_gt (by omega) (by omega)).mpr (by omega)
      have hdr : bs.drop i = bs.getD i 0 :: bs.drop (i + 1) := by rw [gd_at (by omega)]; exact List.drop_eq_getElem_cons (by omega)
      have hbi := hb1 _ (gd_mem (xs := bs) (k := i) (by omega))
      have htl := congrArg List.length he
      rw [List.length_append, htot, hdr] at htl
      rw [hdr] at he
      have hcl := cl_le (unit + nI i * change)
      refine hP _ _ _ _ _ ?_
      simp only [qq_8_layOut, bb_8_layOut_111, bb_8_layOut_105, bb_8_layOut_14, bb_8_layOut_0, xo_il, xo_ll, xo_al, xo_is, xo_ls, xo_as, xo_ic, xo_ci, xo_cl, xo_iadd, xo_isub, xo_imul, xo_iand, xo_ior, xo_ixor, xo_ishl, xo_ishr, xo_iushr, xo_idiv, xo_irem, xo_ineg, xo_ladd, xo_lsub, xo_lmul, xo_land, xo_lor, xo_lxor, xo_ldiv, xo_lrem, xo_lneg, xo_lushr, xo_lshl, xo_lshr, xo_lcmp, xo_i2l, xo_l2i, xo_i2b, xo_i2s, xo_i2c, xo_dup, xo_pop, xo_zeq, xo_ceq, xo_zne, xo_cne, xo_zlt, xo_clt, xo_zge, xo_cge, xo_zgt, xo_cgt, xo_zle, xo_cle, xo_sw, xo_ts, xo_gf, xo_pfi, xo_pfl, xo_pfz, xo_pfr, xo_iald, xo_iast, xo_zast, xo_zald, xo_alen, xo_aald, xo_gs, xo_cv, xo_cs, xo_ca, xo_obj, xo_ri, xo_rz, xo_rl, xo_ra, xo_rc, xo_rb, xo_rv, xo_new, xo_newa, xo_anew, xo_aast, xo_mmax, xo_mmin, xo_mabs, xo_mmaxL, xo_mabsL, jw_ge, jw_st, jw_st2, jw_se, jw_un, jw_kk, jw_pp, jw_l4, jw_l1, jw_ps, jw_en, jw_N, jw_C, List.map_cons, List.map_nil, ↓reduceIte, Nat.reduceSub, Nat.reduceAdd, Nat.reduceEqDiff, Nat.reduceLeDiff, Nat.le_refl, Nat.zero_le, true_and, and_true, true_or, or_true, false_or, or_false, false_imp_iff, true_imp_iff, not_true_eq_false, not_false_eq_true, nI_0, nb_1, fa_10, fa_01, hg_12_0, hg_12_1, hq_12_1, hg_12_2, hq_12_2, hi_12, hr_i hr13]
      refine rn_size hr13 hb2 ?_
      simp only [qq_8_layOut, bb_8_layOut_111, bb_8_layOut_105, bb_8_layOut_14, bb_8_layOut_0, xo_il, xo_ll, xo_al, xo_is, xo_ls, xo_as, xo_ic, xo_ci, xo_cl, xo_iadd, xo_isub, xo_imul, xo_iand, xo_ior, xo_ixor, xo_ishl, xo_ishr, xo_iushr, xo_idiv, xo_irem, xo_ineg, xo_ladd, xo_lsub, xo_lmul, xo_land, xo_lor, xo_lxor, xo_ldiv, xo_lrem, xo_lneg, xo_lushr, xo_lshl, xo_lshr, xo_lcmp, xo_i2l, xo_l2i, xo_i2b, xo_i2s, xo_i2c, xo_dup, xo_pop, xo_zeq, xo_ceq, xo_zne, xo_cne, xo_zlt, xo_clt, xo_zge, xo_cge, xo_zgt, xo_cgt, xo_zle, xo_cle, xo_sw, xo_ts, xo_gf, xo_pfi, xo_pfl, xo_pfz, xo_pfr, xo_iald, xo_iast, xo_zast, xo_zald, xo_alen, xo_aald, xo_gs, xo_cv, xo_cs, xo_ca, xo_obj, xo_ri, xo_rz, xo_rl, xo_ra, xo_rc, xo_rb, xo_rv, xo_new, xo_newa, xo_anew, xo_aast, xo_mmax, xo_mmin, xo_mabs, xo_mmaxL, xo_mabsL, jw_ge, jw_st, jw_st2, jw_se, jw_un, jw_kk, jw_pp, jw_l4, jw_l1, jw_ps, jw_en, jw_N, jw_C, List.map_cons, List.map_nil, ↓reduceIte, Nat.reduceSub, Nat.reduceAdd, Nat.reduceEqDiff, Nat.reduceLeDiff, Nat.le_refl, Nat.zero_le, true_and, and_true, true_or, or_true, false_or, or_false, false_imp_iff, true_imp_iff, not_true_eq_false, not_false_eq_true, nI_0, nb_1, fa_10, fa_01, hle, cl_c, hg_12_0, hg_12_1, hq_12_1, hg_12_2, hq_12_2, hi_12, hr_i hr13]
      refine rn_at hr13 hb2 hbn i (by omega) ?_
      generalize hcx : cl_ (unit + nI i * change) = u at hcl
      rcases (show bs.getD i 0 = 0 ∨ bs.getD i 0 = 1 by omega) with h0 | h0
      · rw [h0] at he htl ⊢
        rw [lo_, if_pos rfl, hcx] at he
        rw [lo_, if_pos rfl, List.length_cons] at htl
        simp only [qq_8_layOut, bb_8_layOut_111, bb_8_layOut_105, bb_8_layOut_62, bb_8_layOut_14, bb_8_layOut_0, xo_il, xo_ll, xo_al, xo_is, xo_ls, xo_as, xo_ic, xo_ci, xo_cl, xo_iadd, xo_isub, xo_imul, xo_iand, xo_ior, xo_ixor, xo_ishl, xo_ishr, xo_iushr, xo_idiv, xo_irem, xo_ineg, xo_ladd, xo_lsub, xo_lmul, xo_land, xo_lor, xo_lxor, xo_ldiv, xo_lrem, xo_lneg, xo_lushr, xo_lshl, xo_lshr, xo_lcmp, xo_i2l, xo_l2i, xo_i2b, xo_i2s, xo_i2c, xo_dup, xo_pop, xo_zeq, xo_ceq, xo_zne, xo_cne, xo_zlt, xo_clt, xo_zge, xo_cge, xo_zgt, xo_cgt, xo_zle, xo_cle, xo_sw, xo_ts, xo_gf, xo_pfi, xo_pfl, xo_pfz, xo_pfr, xo_iald, xo_iast, xo_zast, xo_zald, xo_alen, xo_aald, xo_gs, xo_cv, xo_cs, xo_ca, xo_obj, xo_ri, xo_rz, xo_rl, xo_ra, xo_rc, xo_rb, xo_rv, xo_new, xo_newa, xo_anew, xo_aast, xo_mmax, xo_mmin, xo_mabs, xo_mmaxL, xo_mabsL, jw_ge, jw_st, jw_st2, jw_se, jw_un, jw_kk, jw_pp, jw_l4, jw_l1, jw_ps, jw_en, jw_N, jw_C, List.map_cons, List.map_nil, ↓reduceIte, Nat.reduceSub, Nat.reduceAdd, Nat.reduceEqDiff, Nat.reduceLeDiff, Nat.le_refl, Nat.zero_le, true_and, and_true, true_or, or_true, false_or, or_false, false_imp_iff, true_imp_iff, not_true_eq_false, not_false_eq_true, nI_0, nb_1, fa_10, fa_01, hg_12_0, hg_12_1, hq_12_1, hg_12_2, hq_12_2, hi_12]
        refine tt_8_swayed (by omega) hj (fun I2 g1 g2 g3 => ?_)
        simp only [qq_8_layOut, bb_8_layOut_111, bb_8_layOut_105, bb_8_layOut_62, bb_8_layOut_14, bb_8_layOut_0, xo_il, xo_ll, xo_al, xo_is, xo_ls, xo_as, xo_ic, xo_ci, xo_cl, xo_iadd, xo_isub, xo_imul, xo_iand, xo_ior, xo_ixor, xo_ishl, xo_ishr, xo_iushr, xo_idiv, xo_irem, xo_ineg, xo_ladd, xo_lsub, xo_lmul, xo_land, xo_lor, xo_lxor, xo_ldiv, xo_lrem, xo_lneg, xo_lushr, xo_lshl, xo_lshr, xo_lcmp, xo_i2l, xo_l2i, xo_i2b, xo_i2s, xo_i2c, xo_dup, xo_pop, xo_zeq, xo_ceq, xo_zne, xo_cne, xo_zlt, xo_clt, xo_zge, xo_cge, xo_zgt, xo_cgt, xo_zle, xo_cle, xo_sw, xo_ts, xo_gf, xo_pfi, xo_pfl, xo_pfz, xo_pfr, xo_iald, xo_iast, xo_zast, xo_zald, xo_alen, xo_aald, xo_gs, xo_cv, xo_cs, xo_ca, xo_obj, xo_ri, xo_rz, xo_rl, xo_ra, xo_rc, xo_rb, xo_rv, xo_new, xo_newa, xo_anew, xo_aast, xo_mmax, xo_mmin, xo_mabs, xo_mmaxL, xo_mabsL, jw_ge, jw_st, jw_st2, jw_se, jw_un, jw_kk, jw_pp, jw_l4, jw_l1, jw_ps, jw_en, jw_N, jw_C, List.map_cons, List.map_nil, ↓reduceIte, Nat.reduceSub, Nat.reduceAdd, Nat.reduceEqDiff, Nat.reduceLeDiff, Nat.le_refl, Nat.zero_le, true_and, and_true, true_or, or_true, false_or, or_false, false_imp_iff, true_imp_iff, not_true_eq_false, not_false_eq_true, nI_0, nb_1, fa_10, fa_01, hr_i hr15]
        refine rn_push hr15 (rn_eq hy (g2 15 (by decide)) (g2 16 (by decide))) (by omega) _ (fun I3 hx3 hf3 => ?_)
        simp only [qq_8_layOut, bb_8_layOut_111, bb_8_layOut_105, bb_8_layOut_62, bb_8_layOut_14, bb_8_layOut_0, xo_il, xo_ll, xo_al, xo_is, xo_ls, xo_as, xo_ic, xo_ci, xo_cl, xo_iadd, xo_isub, xo_imul, xo_iand, xo_ior, xo_ixor, xo_ishl, xo_ishr, xo_iushr, xo_idiv, xo_irem, xo_ineg, xo_ladd, xo_lsub, xo_lmul, xo_land, xo_lor, xo_lxor, xo_ldiv, xo_lrem, xo_lneg, xo_lushr, xo_lshl, xo_lshr, xo_lcmp, xo_i2l, xo_l2i, xo_i2b, xo_i2s, xo_i2c, xo_dup, xo_pop, xo_zeq, xo_ceq, xo_zne, xo_cne, xo_zlt, xo_clt, xo_zge, xo_cge, xo_zgt, xo_cgt, xo_zle, xo_cle, xo_sw, xo_ts, xo_gf, xo_pfi, xo_pfl, xo_pfz, xo_pfr, xo_iald, xo_iast, xo_zast, xo_zald, xo_alen, xo_aald, xo_gs, xo_cv, xo_cs, xo_ca, xo_obj, xo_ri, xo_rz, xo_rl, xo_ra, xo_rc, xo_rb, xo_rv, xo_new, xo_newa, xo_anew, xo_aast, xo_mmax, xo_mmin, xo_mabs, xo_mmaxL, xo_mabsL, jw_ge, jw_st, jw_st2, jw_se, jw_un, jw_kk, jw_pp, jw_l4, jw_l1, jw_ps, jw_en, jw_N, jw_C, List.map_cons, List.map_nil, ↓reduceIte, Nat.reduceSub, Nat.reduceAdd, Nat.reduceEqDiff, Nat.reduceLeDiff, Nat.le_refl, Nat.zero_le, true_and, and_true, true_or, or_true, false_or, or_false, false_imp_iff, true_imp_iff, not_true_eq_false, not_false_eq_true, nI_0, nb_1, fa_10, fa_01, nI_1]
        refine ih (i + 1) I3 _ (sd_ j s1) _ (by omega) (by rw [hf3 12 (by decide) (by decide), g1, hs1]) (by rw [hf3 12 (by decide) (by decide), g3, hc]) (fun q q1 q2 q3 => by rw [hf3 q q2 q3, g2 q q1, hf q q1 q2 q3]) hx3 ?_
        rw [hs1, List.append_assoc]
        exact he
      · rw [h0] at he htl ⊢
        rw [lo_, if_neg (by decide), hcx] at he
        rw [lo_, if_neg (by decide), List.length_cons, List.length_cons] at htl
        have hu2 : nI u / 2 = nI (u / 2) := pk_div (d := 2) (by omega) (by omega) (by omega)
        simp only [qq_8_layOut, bb_8_layOut_111, bb_8_layOut_105, bb_8_layOut_72, bb_8_layOut_14, bb_8_layOut_0, xo_il, xo_ll, xo_al, xo_is, xo_ls, xo_as, xo_ic, xo_ci, xo_cl, xo_iadd, xo_isub, xo_imul, xo_iand, xo_ior, xo_ixor, xo_ishl, xo_ishr, xo_iushr, xo_idiv, xo_irem, xo_ineg, xo_ladd, xo_lsub, xo_lmul, xo_land, xo_lor, xo_lxor, xo_ldiv, xo_lrem, xo_lneg, xo_lushr, xo_lshl, xo_lshr, xo_lcmp, xo_i2l, xo_l2i, xo_i2b, xo_i2s, xo_i2c, xo_dup, xo_pop, xo_zeq, xo_ceq, xo_zne, xo_cne, xo_zlt, xo_clt, xo_zge, xo_cge, xo_zgt, xo_cgt, xo_zle, xo_cle, xo_sw, xo_ts, xo_gf, xo_pfi, xo_pfl, xo_pfz, xo_pfr, xo_iald, xo_iast, xo_zast, xo_zald, xo_alen, xo_aald, xo_gs, xo_cv, xo_cs, xo_ca, xo_obj, xo_ri, xo_rz, xo_rl, xo_ra, xo_rc, xo_rb, xo_rv, xo_new, xo_newa, xo_anew, xo_aast, xo_mmax, xo_mmin, xo_mabs, xo_mmaxL, xo_mabsL, jw_ge, jw_st, jw_st2, jw_se, jw_un, jw_kk, jw_pp, jw_l4, jw_l1, jw_ps, jw_en, jw_N, jw_C, List.map_cons, List.map_nil, ↓reduceIte, Nat.reduceSub, Nat.reduceAdd, Nat.reduceEqDiff, Nat.reduceLeDiff, Nat.le_refl, Nat.zero_le, true_and, and_true, true_or, or_true, false_or, or_false, false_imp_iff, true_imp_iff, not_true_eq_false, not_false_eq_true, nI_0, nb_1, fa_10, fa_01, hg_12_0, hg_12_1, hq_12_1, hg_12_2, hq_12_2, hi_12, hu2, show ((2 : Int32) = 0) = False from eq_false (by decide)]
        refine tt_8_swayed (by omega) hj (fun I2 g1 g2 g3 => ?_)
        simp only [qq_8_layOut, bb_8_layOut_111, bb_8_layOut_105, bb_8_layOut_72, bb_8_layOut_14, bb_8_layOut_0, xo_il, xo_ll, xo_al, xo_is, xo_ls, xo_as, xo_ic, xo_ci, xo_cl, xo_iadd, xo_isub, xo_imul, xo_iand, xo_ior, xo_ixor, xo_ishl, xo_ishr, xo_iushr, xo_idiv, xo_irem, xo_ineg, xo_ladd, xo_lsub, xo_lmul, xo_land, xo_lor, xo_lxor, xo_ldiv, xo_lrem, xo_lneg, xo_lushr, xo_lshl, xo_lshr, xo_lcmp, xo_i2l, xo_l2i, xo_i2b, xo_i2s, xo_i2c, xo_dup, xo_pop, xo_zeq, xo_ceq, xo_zne, xo_cne, xo_zlt, xo_clt, xo_zge, xo_cge, xo_zgt, xo_cgt, xo_zle, xo_cle, xo_sw, xo_ts, xo_gf, xo_pfi, xo_pfl, xo_pfz, xo_pfr, xo_iald, xo_iast, xo_zast, xo_zald, xo_alen, xo_aald, xo_gs, xo_cv, xo_cs, xo_ca, xo_obj, xo_ri, xo_rz, xo_rl, xo_ra, xo_rc, xo_rb, xo_rv, xo_new, xo_newa, xo_anew, xo_aast, xo_mmax, xo_mmin, xo_mabs, xo_mmaxL, xo_mabsL, jw_ge, jw_st, jw_st2, jw_se, jw_un, jw_kk, jw_pp, jw_l4, jw_l1, jw_ps, jw_en, jw_N, jw_C, List.map_cons, List.map_nil, ↓reduceIte, Nat.reduceSub, Nat.reduceAdd, Nat.reduceEqDiff, Nat.reduceLeDiff, Nat.le_refl, Nat.zero_le, true_and, and_true, true_or, or_true, false_or, or_false, false_imp_iff, true_imp_iff, not_true_eq_false, not_false_eq_true, nI_0, nb_1, fa_10, fa_01, hr_i hr15]
        refine rn_push hr15 (rn_eq hy (g2 15 (by decide)) (g2 16 (by decide))) (by omega) _ (fun I3 hx3 hf3 => ?_)
        simp only [qq_8_layOut, bb_8_layOut_111, bb_8_layOut_105, bb_8_layOut_72, bb_8_layOut_14, bb_8_layOut_0, xo_il, xo_ll, xo_al, xo_is, xo_ls, xo_as, xo_ic, xo_ci, xo_cl, xo_iadd, xo_isub, xo_imul, xo_iand, xo_ior, xo_ixor, xo_ishl, xo_ishr, xo_iushr, xo_idiv, xo_irem, xo_ineg, xo_ladd, xo_lsub, xo_lmul, xo_land, xo_lor, xo_lxor, xo_ldiv, xo_lrem, xo_lneg, xo_lushr, xo_lshl, xo_lshr, xo_lcmp, xo_i2l, xo_l2i, xo_i2b, xo_i2s, xo_i2c, xo_dup, xo_pop, xo_zeq, xo_ceq, xo_zne, xo_cne, xo_zlt, xo_clt, xo_zge, xo_cge, xo_zgt, xo_cgt, xo_zle, xo_cle, xo_sw, xo_ts, xo_gf, xo_pfi, xo_pfl, xo_pfz, xo_pfr, xo_iald, xo_iast, xo_zast, xo_zald, xo_alen, xo_aald, xo_gs, xo_cv, xo_cs, xo_ca, xo_obj, xo_ri, xo_rz, xo_rl, xo_ra, xo_rc, xo_rb, xo_rv, xo_new, xo_newa, xo_anew, xo_aast, xo_mmax, xo_mmin, xo_mabs, xo_mmaxL, xo_mabsL, jw_ge, jw_st, jw_st2, jw_se, jw_un, jw_kk, jw_pp, jw_l4, jw_l1, jw_ps, jw_en, jw_N, jw_C, List.map_cons, List.map_nil, ↓reduceIte, Nat.reduceSub, Nat.reduceAdd, Nat.reduceEqDiff, Nat.reduceLeDiff, Nat.le_refl, Nat.zero_le, true_and, and_true, true_or, or_true, false_or, or_false, false_imp_iff, true_imp_iff, not_true_eq_false, not_false_eq_true, nI_0, nb_1, fa_10, fa_01, hg_12_0, hg_12_1, hq_12_1, hg_12_2, hq_12_2, hi_12, hu2, show ((2 : Int32) = 0) = False from eq_false (by decide), pk_sub (show u / 2 ≤ u by omega)]
        refine tt_8_swayed (by omega) hj (fun I4 g4 g5 g6 => ?_)
        simp only [qq_8_layOut, bb_8_layOut_111, bb_8_layOut_105, bb_8_layOut_72, bb_8_layOut_14, bb_8_layOut_0, xo_il, xo_ll, xo_al, xo_is, xo_ls, xo_as, xo_ic, xo_ci, xo_cl, xo_iadd, xo_isub, xo_imul, xo_iand, xo_ior, xo_ixor, xo_ishl, xo_ishr, xo_iushr, xo_idiv, xo_irem, xo_ineg, xo_ladd, xo_lsub, xo_lmul, xo_land, xo_lor, xo_lxor, xo_ldiv, xo_lrem, xo_lneg, xo_lushr, xo_lshl, xo_lshr, xo_lcmp, xo_i2l, xo_l2i, xo_i2b, xo_i2s, xo_i2c, xo_dup, xo_pop, xo_zeq, xo_ceq, xo_zne, xo_cne, xo_zlt, xo_clt, xo_zge, xo_cge, xo_zgt, xo_cgt, xo_zle, xo_cle, xo_sw, xo_ts, xo_gf, xo_pfi, xo_pfl, xo_pfz, xo_pfr, xo_iald, xo_iast, xo_zast, xo_zald, xo_alen, xo_aald, xo_gs, xo_cv, xo_cs, xo_ca, xo_obj, xo_ri, xo_rz, xo_rl, xo_ra, xo_rc, xo_rb, xo_rv, xo_new, xo_newa, xo_anew, xo_aast, xo_mmax, xo_mmin, xo_mabs, xo_mmaxL, xo_mabsL, jw_ge, jw_st, jw_st2, jw_se, jw_un, jw_kk, jw_pp, jw_l4, jw_l1, jw_ps, jw_en, jw_N, jw_C, List.map_cons, List.map_nil, ↓reduceIte, Nat.reduceSub, Nat.reduceAdd, Nat.reduceEqDiff, Nat.reduceLeDiff, Nat.le_refl, Nat.zero_le, true_and, and_true, true_or, or_true, false_or, or_false, false_imp_iff, true_imp_iff, not_true_eq_false, not_false_eq_true, nI_0, nb_1, fa_10, fa_01, hr_i hr15]
        refine rn_push hr15 (rn_eq hx3 (g5 15 (by decide)) (g5 16 (by decide))) (by simp; omega) _ (fun I5 hx5 hf5 => ?_)
        simp only [qq_8_layOut, bb_8_layOut_111, bb_8_layOut_105, bb_8_layOut_72, bb_8_layOut_14, bb_8_layOut_0, xo_il, xo_ll, xo_al, xo_is, xo_ls, xo_as, xo_ic, xo_ci, xo_cl, xo_iadd, xo_isub, xo_imul, xo_iand, xo_ior, xo_ixor, xo_ishl, xo_ishr, xo_iushr, xo_idiv, xo_irem, xo_ineg, xo_ladd, xo_lsub, xo_lmul, xo_land, xo_lor, xo_lxor, xo_ldiv, xo_lrem, xo_lneg, xo_lushr, xo_lshl, xo_lshr, xo_lcmp, xo_i2l, xo_l2i, xo_i2b, xo_i2s, xo_i2c, xo_dup, xo_pop, xo_zeq, xo_ceq, xo_zne, xo_cne, xo_zlt, xo_clt, xo_zge, xo_cge, xo_zgt, xo_cgt, xo_zle, xo_cle, xo_sw, xo_ts, xo_gf, xo_pfi, xo_pfl, xo_pfz, xo_pfr, xo_iald, xo_iast, xo_zast, xo_zald, xo_alen, xo_aald, xo_gs, xo_cv, xo_cs, xo_ca, xo_obj, xo_ri, xo_rz, xo_rl, xo_ra, xo_rc, xo_rb, xo_rv, xo_new, xo_newa, xo_anew, xo_aast, xo_mmax, xo_mmin, xo_mabs, xo_mmaxL, xo_mabsL, jw_ge, jw_st, jw_st2, jw_se, jw_un, jw_kk, jw_pp, jw_l4, jw_l1, jw_ps, jw_en, jw_N, jw_C, List.map_cons, List.map_nil, ↓reduceIte, Nat.reduceSub, Nat.reduceAdd, Nat.reduceEqDiff, Nat.reduceLeDiff, Nat.le_refl, Nat.zero_le, true_and, and_true, true_or, or_true, false_or, or_false, false_imp_iff, true_imp_iff, not_true_eq_false, not_false_eq_true, nI_0, nb_1, fa_10, fa_01, nI_1]
        have e12 : I3 12 2 = sd_ j s1 := by rw [hf3 12 (by decide) (by decide), g1, hs1]
        refine ih (i + 1) I5 _ (sd_ j (sd_ j s1)) _ (by omega) (by rw [hf5 12 (by decide) (by decide), g4, e12]) (by rw [hf5 12 (by decide) (by decide), g6, hf3 12 (by decide) (by decide), g3, hc]) (fun q q1 q2 q3 => by rw [hf5 q q2 q3, g5 q q1, hf3 q q2 q3, g2 q q1, hf q q1 q2 q3]) hx5 ?_
        rw [e12, hs1, List.append_assoc, List.append_assoc]
        exact he
  refine hP _ _ _ _ _ ?_
  simp only [qq_8_layOut, bb_8_layOut_111, bb_8_layOut_105, bb_8_layOut_72, bb_8_layOut_62, bb_8_layOut_0, xo_il, xo_ll, xo_al, xo_is, xo_ls, xo_as, xo_ic, xo_ci, xo_cl, xo_iadd, xo_isub, xo_imul, xo_iand, xo_ior, xo_ixor, xo_ishl, xo_ishr, xo_iushr, xo_idiv, xo_irem, xo_ineg, xo_ladd, xo_lsub, xo_lmul, xo_land, xo_lor, xo_lxor, xo_ldiv, xo_lrem, xo_lneg, xo_lushr, xo_lshl, xo_lshr, xo_lcmp, xo_i2l, xo_l2i, xo_i2b, xo_i2s, xo_i2c, xo_dup, xo_pop, xo_zeq, xo_ceq, xo_zne, xo_cne, xo_zlt, xo_clt, xo_zge, xo_cge, xo_zgt, xo_cgt, xo_zle, xo_cle, xo_sw, xo_ts, xo_gf, xo_pfi, xo_pfl, xo_pfz, xo_pfr, xo_iald, xo_iast, xo_zast, xo_zald, xo_alen, xo_aald, xo_gs, xo_cv, xo_cs, xo_ca, xo_obj, xo_ri, xo_rz, xo_rl, xo_ra, xo_rc, xo_rb, xo_rv, xo_new, xo_newa, xo_anew, xo_aast, xo_mmax, xo_mmin, xo_mabs, xo_mmaxL, xo_mabsL, jw_ge, jw_st, jw_st2, jw_se, jw_un, jw_kk, jw_pp, jw_l4, jw_l1, jw_ps, jw_en, jw_N, jw_C, List.map_cons, List.map_nil, ↓reduceIte, Nat.reduceSub, Nat.reduceAdd, Nat.reduceEqDiff, Nat.reduceLeDiff, Nat.le_refl, Nat.zero_le, true_and, and_true, true_or, or_true, false_or, or_false, false_imp_iff, true_imp_iff, not_true_eq_false, not_false_eq_true, nI_0, nb_1, fa_10, fa_01, hr_i hr15]
  refine rn_cut0 hr15 hg hgn (fun I2 hx2 hf2 => ?_)
  simp only [qq_8_layOut, bb_8_layOut_111, bb_8_layOut_105, bb_8_layOut_72, bb_8_layOut_62, bb_8_layOut_0, xo_il, xo_ll, xo_al, xo_is, xo_ls, xo_as, xo_ic, xo_ci, xo_cl, xo_iadd, xo_isub, xo_imul, xo_iand, xo_ior, xo_ixor, xo_ishl, xo_ishr, xo_iushr, xo_idiv, xo_irem, xo_ineg, xo_ladd, xo_lsub, xo_lmul, xo_land, xo_lor, xo_lxor, xo_ldiv, xo_lrem, xo_lneg, xo_lushr, xo_lshl, xo_lshr, xo_lcmp, xo_i2l, xo_l2i, xo_i2b, xo_i2s, xo_i2c, xo_dup, xo_pop, xo_zeq, xo_ceq, xo_zne, xo_cne, xo_zlt, xo_clt, xo_zge, xo_cge, xo_zgt, xo_cgt, xo_zle, xo_cle, xo_sw, xo_ts, xo_gf, xo_pfi, xo_pfl, xo_pfz, xo_pfr, xo_iald, xo_iast, xo_zast, xo_zald, xo_alen, xo_aald, xo_gs, xo_cv, xo_cs, xo_ca, xo_obj, xo_ri, xo_rz, xo_rl, xo_ra, xo_rc, xo_rb, xo_rv, xo_new, xo_newa, xo_anew, xo_aast, xo_mmax, xo_mmin, xo_mabs, xo_mmaxL, xo_mabsL, jw_ge, jw_st, jw_st2, jw_se, jw_un, jw_kk, jw_pp, jw_l4, jw_l1, jw_ps, jw_en, jw_N, jw_C, List.map_cons, List.map_nil, ↓reduceIte, Nat.reduceSub, Nat.reduceAdd, Nat.reduceEqDiff, Nat.reduceLeDiff, Nat.le_refl, Nat.zero_le, true_and, and_true, true_or, or_true, false_or, or_false, false_imp_iff, true_imp_iff, not_true_eq_false, not_false_eq_true, nI_0, nb_1, fa_10, fa_01, hg_12_0, hg_12_1, hq_12_1, hg_12_2, hq_12_2, hi_12]
  refine lp bs.length 0 _ [] sd _ (by omega) (by rw [hw_s]) (by rw [hw_i (by decide), hf2 12 (by decide) (by decide)]) (fun q q1 q2 q3 => by rw [hw_o q1, hf2 q q2 q3]) (rn_hw hx2 (by decide) (by decide)) (by simp)
end SW
