/-! what the class holds -/
def mc_ (I : Nat → Nat → Int32) (tp : List Nat) (fl : Nat) (u : Nat → Nat) (wr gp : List Nat) (ds : List (List (Nat × Nat))) (sh : Nat → sh_T) (tn : Int32) : Prop := rn_ I 3 tp ∧ I 0 11 = nI fl ∧ uq_ I 1 u ∧ rn_ I 10 wr ∧ rn_ I 15 gp ∧ ds_ I ds ∧ ss_ I sh ∧ I 0 12 = tn
def sc_ (I : Nat → Nat → Int32) : Prop := (∃ xs, rn_ I 13 xs ∧ xs.length ≤ 173) ∧ (∃ bs fs cs f fa, rd_ I bs fs cs f fa ∧ bs.length ≤ 320 ∧ fs.length ≤ 320 ∧ cs.length ≤ 320) ∧ (∃ xs ys, rn_ I 25 xs ∧ xs.length ≤ 35 ∧ rn_ I 27 ys ∧ ys.length ≤ 35) ∧ (∃ bs, rn_ I 30 bs ∧ bs.length ≤ 320)
def ic_ (I : Nat → Nat → Int32) (tp : List Nat) (fl : Nat) (u : Nat → Nat) (wr gp : List Nat) (ds : List (List (Nat × Nat))) (sh : Nat → sh_T) (tn : Int32) : Prop := mc_ I tp fl u wr gp ds sh tn ∧ sc_ I
/-- what holds of what is held -/
def vs_ (tp : List Nat) (u : Nat → Nat) (wr gp : List Nat) : Prop := (tp.length ≤ 160 ∧ ∀ b ∈ tp, b < 256) ∧ (rb_ u ∧ ok_ u) ∧ (wr.length ≤ 16 ∧ ∀ v ∈ wr, v < 2 ^ u 0) ∧ (gp.length ≤ 320 ∧ gb_ gp)
def sf_ (I I2 : Nat → Nat → Int32) : Prop := ∀ q, q < 5 ∨ q = 10 ∨ q = 11 ∨ q = 15 ∨ q = 16 ∨ 36 ≤ q → I2 q = I q
section CI
variable {I I2 I3 : Nat → Nat → Int32} {tp : List Nat} {fl : Nat} {u : Nat → Nat} {wr gp : List Nat} {ds : List (List (Nat × Nat))} {sh : Nat → sh_T} {tn : Int32}
theorem sf_rf : sf_ I I := fun _ _ => rfl
theorem sf_tr (h1 : sf_ I I2) (h2 : sf_ I2 I3) : sf_ I I3 := fun q h => (h2 q h).trans (h1 q h)
theorem sf_ff {a b : Nat} (h : ff_ a b I I2) (hab : (5 ≤ a ∧ b ≤ 10) ∨ (12 ≤ a ∧ b ≤ 15) ∨ (17 ≤ a ∧ b ≤ 36)) : sf_ I I2 := fun q hq => h q (by omega)
theorem sf_o (h : sf_ I I2) : ff_ 0 69 I I2 := fun q hq => h q (by omega)
theorem mc_sf (h : mc_ I tp fl u wr gp ds sh tn) (hf : sf_ I I2) : mc_ I2 tp fl u wr gp ds sh tn := by
  obtain ⟨h1, h2, h3, h4, h5, h6, h7, h8⟩ := h
  refine ⟨rn_eq h1 (hf _ (by omega)) (hf _ (by omega)), by rw [hf 0 (by omega)]; exact h2, fun j hj => by rw [hf 2 (by omega)]; exact h3 j hj, rn_eq h4 (hf _ (by omega)) (hf _ (by omega)), rn_eq h5 (hf _ (by omega)) (hf _ (by omega)), ?_, ?_, by rw [hf 0 (by omega)]; exact h8⟩
  · exact ⟨by rw [hf 36 (by omega)]; exact h6.1, h6.2.1, fun k hk => by
      obtain ⟨d, g1, g2⟩ := h6.2.2 k hk
      exact ⟨d, dv_eq g1 (hf _ (by omega)) (hf _ (by omega)) (hf _ (by omega)), g2⟩⟩
  · exact fun k hk => sk_eq (h7 k hk) (hf _ (by omega)) (hf _ (by omega)) (hf _ (by omega))
theorem rd_eq {bs fs cs : List Nat} {f : Nat} {fa : Int32} (h : rd_ I bs fs cs f fa) (hf : ∀ q, 17 ≤ q → q < 24 → I2 q = I q) : rd_ I2 bs fs cs f fa :=
  ⟨rn_eq h.1 (hf _ (by omega) (by omega)) (hf _ (by omega) (by omega)), rn_eq h.2.1 (hf _ (by omega) (by omega)) (hf _ (by omega) (by omega)), rn_eq h.2.2.1 (hf _ (by omega) (by omega)) (hf _ (by omega) (by omega)), by rw [hf 17 (by omega) (by omega)]; exact h.2.2.2.1, by rw [hf 17 (by omega) (by omega)]; exact h.2.2.2.2⟩
/-- a piece of the scratch is new, the others stay -/
theorem sc_12 (h : sc_ I) (hf : ∀ q, 17 ≤ q → q < 36 → I2 q = I q) (hx : ∃ xs, rn_ I2 13 xs ∧ xs.length ≤ 173) : sc_ I2 := by
  obtain ⟨-, ⟨bs, fs, cs, f, fa, h2, h2'⟩, ⟨xs, ys, h3, h3a, h3b, h3c⟩, ⟨b, h4, h4'⟩⟩ := h
  exact ⟨hx, ⟨bs, fs, cs, f, fa, rd_eq h2 (fun q a b => hf q a (by omega)), h2'⟩, ⟨xs, ys, rn_eq h3 (hf _ (by omega) (by omega)) (hf _ (by omega) (by omega)), h3a, rn_eq h3b (hf _ (by omega) (by omega)) (hf _ (by omega) (by omega)), h3c⟩, ⟨b, rn_eq h4 (hf _ (by omega) (by omega)) (hf _ (by omega) (by omega)), h4'⟩⟩
theorem sc_17 (h : sc_ I) (hf : ff_ 17 24 I I2) {bs fs cs : List Nat} {f : Nat} {fa : Int32} (hx : rd_ I2 bs fs cs f fa) (h1 : bs.length ≤ 320) (h2 : fs.length ≤ 320) (h3 : cs.length ≤ 320) : sc_ I2 := by
  obtain ⟨⟨xs0, g1, g1'⟩, -, ⟨xs, ys, h3', h3a, h3b, h3c⟩, ⟨b, h4, h4'⟩⟩ := h
  exact ⟨⟨xs0, rn_ff g1 hf (by omega), g1'⟩, ⟨bs, fs, cs, f, fa, hx, h1, h2, h3⟩, ⟨xs, ys, rn_ff h3' hf (by omega), h3a, rn_ff h3b hf (by omega), h3c⟩, ⟨b, rn_ff h4 hf (by omega), h4'⟩⟩
theorem sc_24 (h : sc_ I) (hf : ff_ 24 29 I I2) (hx : ∃ xs ys, rn_ I2 25 xs ∧ xs.length ≤ 35 ∧ rn_ I2 27 ys ∧ ys.length ≤ 35) : sc_ I2 := by
  obtain ⟨⟨xs0, g1, g1'⟩, ⟨bs, fs, cs, f, fa, h2, h2'⟩, -, ⟨b, h4, h4'⟩⟩ := h
  exact ⟨⟨xs0, rn_ff g1 hf (by omega), g1'⟩, ⟨bs, fs, cs, f, fa, rd_eq h2 (fun q a b => hf q (by omega)), h2'⟩, hx, ⟨b, rn_ff h4 hf (by omega), h4'⟩⟩
theorem sc_29 (h : sc_ I) (hf : ff_ 29 36 I I2) (hx : ∃ bs, rn_ I2 30 bs ∧ bs.length ≤ 320) : sc_ I2 := by
  obtain ⟨⟨xs0, g1, g1'⟩, ⟨bs, fs, cs, f, fa, h2, h2'⟩, ⟨xs, ys, h3, h3a, h3b, h3c⟩, -⟩ := h
  exact ⟨⟨xs0, rn_ff g1 hf (by omega), g1'⟩, ⟨bs, fs, cs, f, fa, rd_eq h2 (fun q a b => hf q (by omega)), h2'⟩, ⟨xs, ys, rn_ff h3 hf (by omega), h3a, rn_ff h3b hf (by omega), h3c⟩, hx⟩
theorem sc_o (h : sc_ I) (hf : ∀ q, (12 ≤ q ∧ q < 15) ∨ (17 ≤ q ∧ q < 36) → I2 q = I q) : sc_ I2 := by
  obtain ⟨xs0, g1, g1'⟩ := h.1
  exact sc_12 h (fun q a b => hf q (by omega)) ⟨xs0, rn_eq g1 (hf _ (by omega)) (hf _ (by omega)), g1'⟩
end CI
/-- an index, if it is one -/
def ix_ (n : Nat) (i : Int32) : Option Nat := if i < 0 then none else if n ≤ i.toNatClampNeg then none else some i.toNatClampNeg
theorem ix_s {n j : Nat} {i : Int32} (h : ix_ n i = some j) : i = nI j ∧ j < n := by
  unfold ix_ at h
  split at h
  · cases h
  · split at h
    · cases h
    · rename_i h1 h2
      cases h
      obtain ⟨k, hk, rfl⟩ := nI_of h1
      rw [nI_clamp hk] at h2 ⊢
      exact ⟨rfl, by omega⟩
theorem ix_n {n : Nat} {i : Int32} (h : ix_ n i = none) : i < 0 ∨ ∃ j, j < 2 ^ 31 ∧ i = nI j ∧ n ≤ j := by
  unfold ix_ at h
  split at h
  · rename_i h1; exact Or.inl h1
  · split at h
    · rename_i h1 h2
      obtain ⟨k, hk, rfl⟩ := nI_of h1
      rw [nI_clamp hk] at h2
      exact Or.inr ⟨k, hk, rfl, h2⟩
    · cases h
theorem ix_i {n j : Nat} (hj : j < n) (hn : n < 2 ^ 31) : ix_ n (nI j) = some j := by
  unfold ix_
  rw [if_neg (nI_pos (by omega)), nI_clamp (by omega), if_neg (by omega)]
theorem ix_o {n j : Nat} (hj : n ≤ j) (h : j < 2 ^ 31) : ix_ n (nI j) = none := by
  unfold ix_
  rw [if_neg (nI_pos h), nI_clamp h, if_pos hj]
theorem ix_m {n : Nat} {i : Int32} (hi : i < 0) : ix_ n i = none := by
  unfold ix_
  rw [if_pos hi]
def hx_ (o : Option Nat) : Int32 := match o with
  | none => 0
  | some _ => 1
def ri_ (xs : List Nat) (i : Int32) : Int32 := match ix_ xs.length i with
  | none => -1
  | some j => nI (xs.getD j 0)
section CR
variable {I : Nat → Nat → Int32} {J : Nat → Nat → Int64} {K : jw_K} {r n : Nat} {xs : List Nat}
theorem rx_rh {xs : List Nat} (hn : xs.length < 2 ^ 31) (i : Int32) : rh_ (xs.map nI) i = hx_ (ix_ xs.length i) := by
  cases h : ix_ xs.length i with
  | none =>
    rcases ix_n h with h1 | ⟨j, hj, rfl, h1⟩
    · unfold rh_; rw [if_pos h1]; rfl
    · rw [rh_n hj (by rw [List.length_map]; exact hn), List.length_map, if_neg (by omega)]; rfl
  | some j =>
    obtain ⟨rfl, hj⟩ := ix_s h
    rw [rh_n (by omega) (by rw [List.length_map]; exact hn), List.length_map, if_pos hj]; rfl
theorem rx_has (hr : hr_ r n) (hx : rn_ I r xs) (hn : xs.length ≤ n) (i : Int32) (hK : K (some (.int (hx_ (ix_ xs.length i)))) (hp_ I J)) : cc_4_has [.ref r, .int i] (hp_ I J) K := tt_4_has hr hx i (by rw [rx_rh (by have := hr.2.2; omega)]; exact hK)
theorem rx_take {k : Nat} (hr : hr_ r n) (hx : rn_ I r xs) (hn : xs.length ≤ n) (hk : k ≤ xs.length) (hK : ∀ I2, rn_ I2 r (xs.take k) → fr_ I I2 r → K none (hp_ I2 J)) : cc_4_cut [.ref r, .int (nI k)] (hp_ I J) K := tt_4_cut hr hx (by rw [List.length_map]; exact hn) (by rw [List.length_map]; exact hk) (fun I2 h1 h2 => hK I2 (by unfold rn_; rw [List.map_take]; exact h1) h2)
theorem tt_10_emptied (hr : hr_ r n) (hx : rn_ I r xs) (hn : xs.length ≤ n) (hK : ∀ I2, rn_ I2 r [] → fr_ I I2 r → K (some (.int (nI xs.length))) (hp_ I2 J)) : cc_10_emptied [.ref r] (hp_ I J) K := by
  refine jw_Cin (Nat.le_of_ble_eq_true rfl) rfl (fun P hP => hP _ _ _ _ _ ?_)
  simp only [qq_10_emptied, bb_10_emptied_0, xo_il, xo_ll, xo_al, xo_is, xo_ls, xo_as, xo_ic, xo_ci, xo_cl, xo_iadd, xo_isub, xo_imul, xo_iand, xo_ior, xo_ixor, xo_ishl, xo_ishr, xo_iushr, xo_idiv, xo_irem, xo_ineg, xo_ladd, xo_lsub, xo_lmul, xo_land, xo_lor, xo_lxor, xo_ldiv, xo_lrem, xo_lneg, xo_lushr, xo_lshl, xo_lshr, xo_lcmp, xo_i2l, xo_l2i, xo_i2b, xo_i2s, xo_i2c, xo_dup, xo_pop, xo_zeq, xo_ceq, xo_zne, xo_cne, xo_zlt, xo_clt, xo_zge, xo_cge, xo_zgt, xo_cgt, xo_zle, xo_cle, xo_sw, xo_ts, xo_gf, xo_pfi, xo_pfl, xo_pfz, xo_pfr, xo_iald, xo_iast, xo_zast, xo_zald, xo_alen, xo_aald, xo_gs, xo_cv, xo_cs, xo_ca, xo_obj, xo_ri, xo_rz, xo_rl, xo_ra, xo_rc, xo_rb, xo_rv, xo_new, xo_newa, xo_anew, xo_aast, xo_mmax, xo_mmin, xo_mabs, xo_mmaxL, xo_mabsL, jw_ge, jw_st, jw_st2, jw_se, jw_un, jw_kk, jw_pp, jw_l4, jw_l1, jw_ps, jw_en, jw_N, jw_C, List.map_cons, List.map_nil, ↓reduceIte, Nat.reduceSub, Nat.reduceAdd, Nat.reduceEqDiff, Nat.reduceLeDiff, Nat.le_refl, Nat.zero_le, true_and, and_true, true_or, or_true, false_or, or_false, false_imp_iff, true_imp_iff, not_true_eq_false, not_false_eq_true, nI_0, nb_1, fa_10, fa_01, hr_i hr]
  refine rn_size hr hx ?_
  simp only [qq_10_emptied, bb_10_emptied_0, xo_il, xo_ll, xo_al, xo_is, xo_ls, xo_as, xo_ic, xo_ci, xo_cl, xo_iadd, xo_isub, xo_imul, xo_iand, xo_ior, xo_ixor, xo_ishl, xo_ishr, xo_iushr, xo_idiv, xo_irem, xo_ineg, xo_ladd, xo_lsub, xo_lmul, xo_land, xo_lor, xo_lxor, xo_ldiv, xo_lrem, xo_lneg, xo_lushr, xo_lshl, xo_lshr, xo_lcmp, xo_i2l, xo_l2i, xo_i2b, xo_i2s, xo_i2c, xo_dup, xo_pop, xo_zeq, xo_ceq, xo_zne, xo_cne, xo_zlt, xo_clt, xo_zge, xo_cge, xo_zgt, xo_cgt, xo_zle, xo_cle, xo_sw, xo_ts, xo_gf, xo_pfi, xo_pfl, xo_pfz, xo_pfr, xo_iald, xo_iast, xo_zast, xo_zald, xo_alen, xo_aald, xo_gs, xo_cv, xo_cs, xo_ca, xo_obj, xo_ri, xo_rz, xo_rl, xo_ra, xo_rc, xo_rb, xo_rv, xo_new, xo_newa, xo_anew, xo_aast, xo_mmax, xo_mmin, xo_mabs, xo_mmaxL, xo_mabsL, jw_ge, jw_st, jw_st2, jw_se, jw_un, jw_kk, jw_pp, jw_l4, jw_l1, jw_ps, jw_en, jw_N, jw_C, List.map_cons, List.map_nil, ↓reduceIte, Nat.reduceSub, Nat.reduceAdd, Nat.reduceEqDiff, Nat.reduceLeDiff, Nat.le_refl, Nat.zero_le, true_and, and_true, true_or, or_true, false_or, or_false, false_imp_iff, true_imp_iff, not_true_eq_false, not_false_eq_true, nI_0, nb_1, fa_10, fa_01, hr_i hr]
  refine rn_cut0 hr hx hn (fun I2 h1 h2 => ?_)
  simp only [qq_10_emptied, bb_10_emptied_0, xo_il, xo_ll, xo_al, xo_is, xo_ls, xo_as, xo_ic, xo_ci, xo_cl, xo_iadd, xo_isub, xo_imul, xo_iand, xo_ior, xo_ixor, xo_ishl, xo_ishr, xo_iushr, xo_idiv, xo_irem, xo_ineg, xo_ladd, xo_lsub, xo_lmul, xo_land, xo_lor, xo_lxor, xo_ldiv, xo_lrem, xo_lneg, xo_lushr, xo_lshl, xo_lshr, xo_lcmp, xo_i2l, xo_l2i, xo_i2b, xo_i2s, xo_i2c, xo_dup, xo_pop, xo_zeq, xo_ceq, xo_zne, xo_cne, xo_zlt, xo_clt, xo_zge, xo_cge, xo_zgt, xo_cgt, xo_zle, xo_cle, xo_sw, xo_ts, xo_gf, xo_pfi, xo_pfl, xo_pfz, xo_pfr, xo_iald, xo_iast, xo_zast, xo_zald, xo_alen, xo_aald, xo_gs, xo_cv, xo_cs, xo_ca, xo_obj, xo_ri, xo_rz, xo_rl, xo_ra, xo_rc, xo_rb, xo_rv, xo_new, xo_newa, xo_anew, xo_aast, xo_mmax, xo_mmin, xo_mabs, xo_mmaxL, xo_mabsL, jw_ge, jw_st, jw_st2, jw_se, jw_un, jw_kk, jw_pp, jw_l4, jw_l1, jw_ps, jw_en, jw_N, jw_C, List.map_cons, List.map_nil, ↓reduceIte, Nat.reduceSub, Nat.reduceAdd, Nat.reduceEqDiff, Nat.reduceLeDiff, Nat.le_refl, Nat.zero_le, true_and, and_true, true_or, or_true, false_or, or_false, false_imp_iff, true_imp_iff, not_true_eq_false, not_false_eq_true, nI_0, nb_1, fa_10, fa_01]
  exact hK I2 h1 h2
def bz_ (a b v : Int32) : Int32 := if v < a then 0 else if b < v then 0 else 1
theorem tt_10_isGap {h : jw_H} (v : Int32) (hK : K (some (.int (bz_ 1 9999 v))) h) : cc_10_isGap [.int v] h K := by
  refine jw_Cin (Nat.le_of_ble_eq_true rfl) rfl (fun P hP => hP _ _ _ _ _ ?_)
  simp only [qq_10_isGap, bb_10_isGap_17, bb_10_isGap_16, bb_10_isGap_0, xo_il, xo_ll, xo_al, xo_is, xo_ls, xo_as, xo_ic, xo_ci, xo_cl, xo_iadd, xo_isub, xo_imul, xo_iand, xo_ior, xo_ixor, xo_ishl, xo_ishr, xo_iushr, xo_idiv, xo_irem, xo_ineg, xo_ladd, xo_lsub, xo_lmul, xo_land, xo_lor, xo_lxor, xo_ldiv, xo_lrem, xo_lneg, xo_lushr, xo_lshl, xo_lshr, xo_lcmp, xo_i2l, xo_l2i, xo_i2b, xo_i2s, xo_i2c, xo_dup, xo_pop, xo_zeq, xo_ceq, xo_zne, xo_cne, xo_zlt, xo_clt, xo_zge, xo_cge, xo_zgt, xo_cgt, xo_zle, xo_cle, xo_sw, xo_ts, xo_gf, xo_pfi, xo_pfl, xo_pfz, xo_pfr, xo_iald, xo_iast, xo_zast, xo_zald, xo_alen, xo_aald, xo_gs, xo_cv, xo_cs, xo_ca, xo_obj, xo_ri, xo_rz, xo_rl, xo_ra, xo_rc, xo_rb, xo_rv, xo_new, xo_newa, xo_anew, xo_aast, xo_mmax, xo_mmin, xo_mabs, xo_mmaxL, xo_mabsL, jw_ge, jw_st, jw_st2, jw_se, jw_un, jw_kk, jw_pp, jw_l4, jw_l1, jw_ps, jw_en, jw_N, jw_C, List.map_cons, List.map_nil, ↓reduceIte, Nat.reduceSub, Nat.reduceAdd, Nat.reduceEqDiff, Nat.reduceLeDiff, Nat.le_refl, Nat.zero_le, true_and, and_true, true_or, or_true, false_or, or_false, false_imp_iff, true_imp_iff, not_true_eq_false, not_false_eq_true, nI_0, nb_1, fa_10, fa_01]
  unfold bz_ at hK
  refine ⟨fun q => ?_, fun q => ⟨fun q2 => ?_, fun q2 => ?_⟩⟩
  · rw [if_pos q] at hK; exact hK
  · rw [if_neg q, if_pos q2] at hK; exact hK
  · rw [if_neg q, if_neg q2] at hK; exact hK
theorem tt_10_isClock {h : jw_H} (v : Int32) (hK : K (some (.int (bz_ 0 2 v))) h) : cc_10_isClock [.int v] h K := by
  refine jw_Cin (Nat.le_of_ble_eq_true rfl) rfl (fun P hP => hP _ _ _ _ _ ?_)
  simp only [qq_10_isClock, bb_10_isClock_14, bb_10_isClock_13, bb_10_isClock_0, xo_il, xo_ll, xo_al, xo_is, xo_ls, xo_as, xo_ic, xo_ci, xo_cl, xo_iadd, xo_isub, xo_imul, xo_iand, xo_ior, xo_ixor, xo_ishl, xo_ishr, xo_iushr, xo_idiv, xo_irem, xo_ineg, xo_ladd, xo_lsub, xo_lmul, xo_land, xo_lor, xo_lxor, xo_ldiv, xo_lrem, xo_lneg, xo_lushr, xo_lshl, xo_lshr, xo_lcmp, xo_i2l, xo_l2i, xo_i2b, xo_i2s, xo_i2c, xo_dup, xo_pop, xo_zeq, xo_ceq, xo_zne, xo_cne, xo_zlt, xo_clt, xo_zge, xo_cge, xo_zgt, xo_cgt, xo_zle, xo_cle, xo_sw, xo_ts, xo_gf, xo_pfi, xo_pfl, xo_pfz, xo_pfr, xo_iald, xo_iast, xo_zast, xo_zald, xo_alen, xo_aald, xo_gs, xo_cv, xo_cs, xo_ca, xo_obj, xo_ri, xo_rz, xo_rl, xo_ra, xo_rc, xo_rb, xo_rv, xo_new, xo_newa, xo_anew, xo_aast, xo_mmax, xo_mmin, xo_mabs, xo_mmaxL, xo_mabsL, jw_ge, jw_st, jw_st2, jw_se, jw_un, jw_kk, jw_pp, jw_l4, jw_l1, jw_ps, jw_en, jw_N, jw_C, List.map_cons, List.map_nil, ↓reduceIte, Nat.reduceSub, Nat.reduceAdd, Nat.reduceEqDiff, Nat.reduceLeDiff, Nat.le_refl, Nat.zero_le, true_and, and_true, true_or, or_true, false_or, or_false, false_imp_iff, true_imp_iff, not_true_eq_false, not_false_eq_true, nI_0, nb_1, fa_10, fa_01]
  unfold bz_ at hK
  refine ⟨fun q => ?_, fun q => ⟨fun q2 => ?_, fun q2 => ?_⟩⟩
  · rw [if_pos q] at hK; exact hK
  · rw [if_neg q, if_pos q2] at hK; exact hK
  · rw [if_neg q, if_neg q2] at hK; exact hK
theorem tt_10_isLane {h : jw_H} (v : Int32) (hK : K (some (.int (bz_ 0 2 v))) h) : cc_10_isLane [.int v] h K := by
  refine jw_Cin (Nat.le_of_ble_eq_true rfl) rfl (fun P hP => hP _ _ _ _ _ ?_)
  simp only [qq_10_isLane, bb_10_isLane_14, bb_10_isLane_13, bb_10_isLane_0, xo_il, xo_ll, xo_al, xo_is, xo_ls, xo_as, xo_ic, xo_ci, xo_cl, xo_iadd, xo_isub, xo_imul, xo_iand, xo_ior, xo_ixor, xo_ishl, xo_ishr, xo_iushr, xo_idiv, xo_irem, xo_ineg, xo_ladd, xo_lsub, xo_lmul, xo_land, xo_lor, xo_lxor, xo_ldiv, xo_lrem, xo_lneg, xo_lushr, xo_lshl, xo_lshr, xo_lcmp, xo_i2l, xo_l2i, xo_i2b, xo_i2s, xo_i2c, xo_dup, xo_pop, xo_zeq, xo_ceq, xo_zne, xo_cne, xo_zlt, xo_clt, xo_zge, xo_cge, xo_zgt, xo_cgt, xo_zle, xo_cle, xo_sw, xo_ts, xo_gf, xo_pfi, xo_pfl, xo_pfz, xo_pfr, xo_iald, xo_iast, xo_zast, xo_zald, xo_alen, xo_aald, xo_gs, xo_cv, xo_cs, xo_ca, xo_obj, xo_ri, xo_rz, xo_rl, xo_ra, xo_rc, xo_rb, xo_rv, xo_new, xo_newa, xo_anew, xo_aast, xo_mmax, xo_mmin, xo_mabs, xo_mmaxL, xo_mabsL, jw_ge, jw_st, jw_st2, jw_se, jw_un, jw_kk, jw_pp, jw_l4, jw_l1, jw_ps, jw_en, jw_N, jw_C, List.map_cons, List.map_nil, ↓reduceIte, Nat.reduceSub, Nat.reduceAdd, Nat.reduceEqDiff, Nat.reduceLeDiff, Nat.le_refl, Nat.zero_le, true_and, and_true, true_or, or_true, false_or, or_false, false_imp_iff, true_imp_iff, not_true_eq_false, not_false_eq_true, nI_0, nb_1, fa_10, fa_01]
  unfold bz_ at hK
  refine ⟨fun q => ?_, fun q => ⟨fun q2 => ?_, fun q2 => ?_⟩⟩
  · rw [if_pos q] at hK; exact hK
  · rw [if_neg q, if_pos q2] at hK; exact hK
  · rw [if_neg q, if_neg q2] at hK; exact hK
theorem tt_10_isSheet {h : jw_H} (v : Int32) (hK : K (some (.int (hx_ (ix_ 4 v)))) h) : cc_10_isSheet [.int v] h K := by
  refine jw_Cin (Nat.le_of_ble_eq_true rfl) rfl (fun P hP => hP _ _ _ _ _ ?_)
  cases h4 : ix_ 4 v with
  | none =>
    rw [h4] at hK
    rcases ix_n h4 with h1 | ⟨j, hj, rfl, h1⟩
    · simp only [qq_10_isSheet, bb_10_isSheet_14, bb_10_isSheet_13, bb_10_isSheet_0, xo_il, xo_ll, xo_al, xo_is, xo_ls, xo_as, xo_ic, xo_ci, xo_cl, xo_iadd, xo_isub, xo_imul, xo_iand, xo_ior, xo_ixor, xo_ishl, xo_ishr, xo_iushr, xo_idiv, xo_irem, xo_ineg, xo_ladd, xo_lsub, xo_lmul, xo_land, xo_lor, xo_lxor, xo_ldiv, xo_lrem, xo_lneg, xo_lushr, xo_lshl, xo_lshr, xo_lcmp, xo_i2l, xo_l2i, xo_i2b, xo_i2s, xo_i2c, xo_dup, xo_pop, xo_zeq, xo_ceq, xo_zne, xo_cne, xo_zlt, xo_clt, xo_zge, xo_cge, xo_zgt, xo_cgt, xo_zle, xo_cle, xo_sw, xo_ts, xo_gf, xo_pfi, xo_pfl, xo_pfz, xo_pfr, xo_iald, xo_iast, xo_zast, xo_zald, xo_alen, xo_aald, xo_gs, xo_cv, xo_cs, xo_ca, xo_obj, xo_ri, xo_rz, xo_rl, xo_ra, xo_rc, xo_rb, xo_rv, xo_new, xo_newa, xo_anew, xo_aast, xo_mmax, xo_mmin, xo_mabs, xo_mmaxL, xo_mabsL, jw_ge, jw_st, jw_st2, jw_se, jw_un, jw_kk, jw_pp, jw_l4, jw_l1, jw_ps, jw_en, jw_N, jw_C, List.map_cons, List.map_nil, ↓reduceIte, Nat.reduceSub, Nat.reduceAdd, Nat.reduceEqDiff, Nat.reduceLeDiff, Nat.le_refl, Nat.zero_le, true_and, and_true, true_or, or_true, false_or, or_false, false_imp_iff, true_imp_iff, not_true_eq_false, not_false_eq_true, nI_0, nb_1, fa_10, fa_01, h1]; exact hK
    · simp only [qq_10_isSheet, bb_10_isSheet_14, bb_10_isSheet_13, bb_10_isSheet_0, xo_il, xo_ll, xo_al, xo_is, xo_ls, xo_as, xo_ic, xo_ci, xo_cl, xo_iadd, xo_isub, xo_imul, xo_iand, xo_ior, xo_ixor, xo_ishl, xo_ishr, xo_iushr, xo_idiv, xo_irem, xo_ineg, xo_ladd, xo_lsub, xo_lmul, xo_land, xo_lor, xo_lxor, xo_ldiv, xo_lrem, xo_lneg, xo_lushr, xo_lshl, xo_lshr, xo_lcmp, xo_i2l, xo_l2i, xo_i2b, xo_i2s, xo_i2c, xo_dup, xo_pop, xo_zeq, xo_ceq, xo_zne, xo_cne, xo_zlt, xo_clt, xo_zge, xo_cge, xo_zgt, xo_cgt, xo_zle, xo_cle, xo_sw, xo_ts, xo_gf, xo_pfi, xo_pfl, xo_pfz, xo_pfr, xo_iald, xo_iast, xo_zast, xo_zald, xo_alen, xo_aald, xo_gs, xo_cv, xo_cs, xo_ca, xo_obj, xo_ri, xo_rz, xo_rl, xo_ra, xo_rc, xo_rb, xo_rv, xo_new, xo_newa, xo_anew, xo_aast, xo_mmax, xo_mmin, xo_mabs, xo_mmaxL, xo_mabsL, jw_ge, jw_st, jw_st2, jw_se, jw_un, jw_kk, jw_pp, jw_l4, jw_l1, jw_ps, jw_en, jw_N, jw_C, List.map_cons, List.map_nil, ↓reduceIte, Nat.reduceSub, Nat.reduceAdd, Nat.reduceEqDiff, Nat.reduceLeDiff, Nat.le_refl, Nat.zero_le, true_and, and_true, true_or, or_true, false_or, or_false, false_imp_iff, true_imp_iff, not_true_eq_false, not_false_eq_true, nI_0, nb_1, fa_10, fa_01, eq_false (nI_pos hj), (eq_true ((nI_leI (a := 4) (by omega) hj).mpr h1) : ((4 : Int32) ≤ nI j) = True)]; exact hK
  | some j =>
    rw [h4] at hK
    obtain ⟨rfl, hj⟩ := ix_s h4
    simp only [qq_10_isSheet, bb_10_isSheet_14, bb_10_isSheet_13, bb_10_isSheet_0, xo_il, xo_ll, xo_al, xo_is, xo_ls, xo_as, xo_ic, xo_ci, xo_cl, xo_iadd, xo_isub, xo_imul, xo_iand, xo_ior, xo_ixor, xo_ishl, xo_ishr, xo_iushr, xo_idiv, xo_irem, xo_ineg, xo_ladd, xo_lsub, xo_lmul, xo_land, xo_lor, xo_lxor, xo_ldiv, xo_lrem, xo_lneg, xo_lushr, xo_lshl, xo_lshr, xo_lcmp, xo_i2l, xo_l2i, xo_i2b, xo_i2s, xo_i2c, xo_dup, xo_pop, xo_zeq, xo_ceq, xo_zne, xo_cne, xo_zlt, xo_clt, xo_zge, xo_cge, xo_zgt, xo_cgt, xo_zle, xo_cle, xo_sw, xo_ts, xo_gf, xo_pfi, xo_pfl, xo_pfz, xo_pfr, xo_iald, xo_iast, xo_zast, xo_zald, xo_alen, xo_aald, xo_gs, xo_cv, xo_cs, xo_ca, xo_obj, xo_ri, xo_rz, xo_rl, xo_ra, xo_rc, xo_rb, xo_rv, xo_new, xo_newa, xo_anew, xo_aast, xo_mmax, xo_mmin, xo_mabs, xo_mmaxL, xo_mabsL, jw_ge, jw_st, jw_st2, jw_se, jw_un, jw_kk, jw_pp, jw_l4, jw_l1, jw_ps, jw_en, jw_N, jw_C, List.map_cons, List.map_nil, ↓reduceIte, Nat.reduceSub, Nat.reduceAdd, Nat.reduceEqDiff, Nat.reduceLeDiff, Nat.le_refl, Nat.zero_le, true_and, and_true, true_or, or_true, false_or, or_false, false_imp_iff, true_imp_iff, not_true_eq_false, not_false_eq_true, nI_0, nb_1, fa_10, fa_01, eq_false (nI_pos (show j < 2 ^ 31 by omega)), (eq_false (fun q => absurd ((nI_leI (a := 4) (by omega) (show j < 2 ^ 31 by omega)).mp q) (by omega)) : ((4 : Int32) ≤ nI j) = False)]; exact hK
end CR
/-- within bounds -/
theorem bz_1 {a b v : Int32} (h : bz_ a b v = 1) : ¬ v < a ∧ ¬ b < v := by
  unfold bz_ at h
  split at h
  · exact absurd h (by decide)
  · split at h
    · exact absurd h (by decide)
    · exact ⟨by assumption, by assumption⟩
theorem bz_01 (a b v : Int32) : bz_ a b v = 0 ∨ bz_ a b v = 1 := by
  unfold bz_
  split
  · exact Or.inl rfl
  · split
    · exact Or.inl rfl
    · exact Or.inr rfl
theorem bz_nI {a n : Nat} {v : Int32} (hn : n < 2 ^ 31) (ha : a < 2 ^ 31) (h : bz_ (nI a) (nI n) v = 1) : ∃ j, a ≤ j ∧ j ≤ n ∧ v = nI j := by
  obtain ⟨h1, h2⟩ := bz_1 h
  have h0 : ¬ v < 0 := fun q => h1 (Int32.lt_of_lt_of_le q (nI_pos' ha))
  obtain ⟨j, hj, rfl⟩ := nI_of h0
  exact ⟨j, Nat.not_lt.mp (fun q => h1 (nI_lt q ha)), Nat.not_lt.mp (fun q => h2 (nI_lt q hj)), rfl⟩
