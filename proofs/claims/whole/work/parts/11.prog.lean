/-! blocks of methods, and that the machine does them: printed from the bytes -/
abbrev cb_10_look : ByteArray := prog_1_method_39_code
abbrev yy_10_look : MethodName := ⟨"SwipedStripe", "look", "()V"⟩
def bb_10_look_0 (K : jw_K) (J : Nat → jw_S) : jw_S := xo_al 0 (xo_cv 10 cc_10_hearByText 1 (xo_al 0 (xo_gf 10 7 (xo_al 0 (xo_gf 10 6 (xo_al 0 (xo_gf 10 0 (xo_cv 2 cc_2_search 3 (xo_rv 0 0 K)))))))))
def qq_10_look (K : jw_K) (pc : Nat) (J : Nat → jw_S) : jw_S := if pc = 0 then bb_10_look_0 K J else fun _ _ _ _ => False
def cc_10_look : jw_T := jw_C 1 qq_10_look
theorem sb_10_look_0 (l : Launch) : jo_Ok l cb_10_look 1 "SwipedStripe" "look" jw_ro { frames := 4, cells := 0, slots := 0, locals := 93 } none 0 0 bb_10_look_0 0 := (jo_aln (i := 0) (j := 0) (by decide +kernel) rfl (jo_cv (n := 0) (ss_10_hearByText l) kw_681 kw_1 kw_678 kw_680 jw_F10 kp_15 ⟨by decide, by decide, by decide +kernel⟩ ⟨by decide, by decide⟩ (fun _ _ h => h) ⟨rfl, rfl⟩ (by decide +kernel) (jo_aln (i := 0) (j := 0) (by decide +kernel) rfl (jo_gf (j := 7) jw_F10 (by decide) kw_261 (by decide +kernel) (jo_aln (i := 0) (j := 0) (by decide +kernel) rfl (jo_gf (j := 6) jw_F10 (by decide) kw_260 (by decide +kernel) (jo_aln (i := 0) (j := 0) (by decide +kernel) rfl (jo_gf (j := 0) jw_F10 (by decide) kw_254 (by decide +kernel) (jo_cv (n := 2) (ss_2_search l) kw_693 kw_8 kw_690 kw_691 jw_F2 kw_692 ⟨by decide, by decide, by decide +kernel⟩ ⟨by decide, by decide⟩ (fun _ _ h => h) ⟨rfl, rfl⟩ (by decide +kernel) (jo_rv rfl (by decide +kernel)))))))))))
theorem ss_10_look (l : Launch) : jw_Met l yy_10_look cb_10_look 1 none { frames := 4, cells := 0, slots := 0, locals := 93 } cc_10_look := by
  refine jw_met (by decide) (fun pc => ?_)
  intro p e s m args below meth c Q D aC ad base K X RT ls st h z hf
  unfold qq_10_look at hf
  by_cases h0 : pc = 0
  · subst h0; simp only [if_true, if_false, reduceIte, ↓reduceIte] at hf; exact sb_10_look_0 l p e s m args below meth c Q D aC ad base K X RT ls st h z hf
  rw [if_neg h0] at hf
  exact hf.elim
abbrev cb_2_beginAt : ByteArray := prog_4_method_3_code
abbrev yy_2_beginAt : MethodName := ⟨"SwipedStripe$Finding", "beginAt", "()I"⟩
def bb_2_beginAt_0 (K : jw_K) (J : Nat → jw_S) : jw_S := xo_al 0 (xo_gf 2 3 (xo_ri 0 0 K))
def qq_2_beginAt (K : jw_K) (pc : Nat) (J : Nat → jw_S) : jw_S := if pc = 0 then bb_2_beginAt_0 K J else fun _ _ _ _ => False
def cc_2_beginAt : jw_T := jw_C 1 qq_2_beginAt
theorem sb_2_beginAt_0 (l : Launch) : jo_Ok l cb_2_beginAt 1 "SwipedStripe$Finding" "beginAt" jw_ro { frames := 0, cells := 0, slots := 0, locals := 0 } (some .int) 0 0 bb_2_beginAt_0 0 := (jo_aln (i := 0) (j := 0) (by decide +kernel) rfl (jo_gf (j := 3) jw_F2 (by decide) kw_163 (by decide +kernel) (jo_ri rfl (by decide +kernel))))
theorem ss_2_beginAt (l : Launch) : jw_Met l yy_2_beginAt cb_2_beginAt 1 (some .int) { frames := 0, cells := 0, slots := 0, locals := 0 } cc_2_beginAt := by
  refine jw_met (by decide) (fun pc => ?_)
  intro p e s m args below meth c Q D aC ad base K X RT ls st h z hf
  unfold qq_2_beginAt at hf
  by_cases h0 : pc = 0
  · subst h0; simp only [if_true, if_false, reduceIte, ↓reduceIte] at hf; exact sb_2_beginAt_0 l p e s m args below meth c Q D aC ad base K X RT ls st h z hf
  rw [if_neg h0] at hf
  exact hf.elim
abbrev cb_2_isWhole : ByteArray := prog_4_method_4_code
abbrev yy_2_isWhole : MethodName := ⟨"SwipedStripe$Finding", "isWhole", "()Z"⟩
def bb_2_isWhole_29 (K : jw_K) (J : Nat → jw_S) : jw_S := xo_rz 0 0 K
def bb_2_isWhole_28 (K : jw_K) (J : Nat → jw_S) : jw_S := xo_ci 0 (bb_2_isWhole_29 K J)
def bb_2_isWhole_24 (K : jw_K) (J : Nat → jw_S) : jw_S := xo_ci 1 (bb_2_isWhole_29 K J)
def bb_2_isWhole_0 (K : jw_K) (J : Nat → jw_S) : jw_S := xo_al 0 (xo_gf 2 2 (xo_zeq (bb_2_isWhole_24 K J) (xo_al 0 (xo_gf 2 2 (xo_ci 5 (xo_ceq (bb_2_isWhole_24 K J) (xo_al 0 (xo_gf 2 2 (xo_ci 6 (xo_cne (bb_2_isWhole_28 K J) (bb_2_isWhole_24 K J)))))))))))
def qq_2_isWhole (K : jw_K) (pc : Nat) (J : Nat → jw_S) : jw_S := if pc = 0 then bb_2_isWhole_0 K J else fun _ _ _ _ => False
def cc_2_isWhole : jw_T := jw_C 1 qq_2_isWhole
theorem sb_2_isWhole_29 (l : Launch) : jo_Ok l cb_2_isWhole 1 "SwipedStripe$Finding" "isWhole" jw_ro { frames := 0, cells := 0, slots := 0, locals := 0 } (some .boolean) 0 0 bb_2_isWhole_29 29 := (jo_rz rfl (by decide +kernel))
theorem sb_2_isWhole_28 (l : Launch) : jo_Ok l cb_2_isWhole 1 "SwipedStripe$Finding" "isWhole" jw_ro { frames := 0, cells := 0, slots := 0, locals := 0 } (some .boolean) 0 0 bb_2_isWhole_28 28 := (jo_ici (n := 0) (by decide +kernel) (by decide) (sb_2_isWhole_29 l))
theorem sb_2_isWhole_24 (l : Launch) : jo_Ok l cb_2_isWhole 1 "SwipedStripe$Finding" "isWhole" jw_ro { frames := 0, cells := 0, slots := 0, locals := 0 } (some .boolean) 0 0 bb_2_isWhole_24 24 := (jo_ici (n := 1) (by decide +kernel) (by decide) (jo_goto (off := 4) (tgt := 29) (by decide +kernel) (by decide) (sb_2_isWhole_29 l)))
theorem sb_2_isWhole_0 (l : Launch) : jo_Ok l cb_2_isWhole 1 "SwipedStripe$Finding" "isWhole" jw_ro { frames := 0, cells := 0, slots := 0, locals := 0 } (some .boolean) 0 0 bb_2_isWhole_0 0 := (jo_aln (i := 0) (j := 0) (by decide +kernel) rfl (jo_gf (j := 2) jw_F2 (by decide) kw_162 (by decide +kernel) (jo_zeq (off := 20) (tgt := 24) (by decide +kernel) (by decide) (sb_2_isWhole_24 l) (jo_aln (i := 0) (j := 0) (by decide +kernel) rfl (jo_gf (j := 2) jw_F2 (by decide) kw_162 (by decide +kernel) (jo_ici (n := 5) (by decide +kernel) (by decide) (jo_ceq (off := 12) (tgt := 24) (by decide +kernel) (by decide) (sb_2_isWhole_24 l) (jo_aln (i := 0) (j := 0) (by decide +kernel) rfl (jo_gf (j := 2) jw_F2 (by decide) kw_162 (by decide +kernel) (jo_bpi (n := 6) (by decide +kernel) (by decide) (jo_cne (off := 7) (tgt := 28) (by decide +kernel) (by decide) (sb_2_isWhole_28 l) (sb_2_isWhole_24 l))))))))))))
theorem ss_2_isWhole (l : Launch) : jw_Met l yy_2_isWhole cb_2_isWhole 1 (some .boolean) { frames := 0, cells := 0, slots := 0, locals := 0 } cc_2_isWhole := by
  refine jw_met (by decide) (fun pc => ?_)
  intro p e s m args below meth c Q D aC ad base K X RT ls st h z hf
  unfold qq_2_isWhole at hf
  by_cases h0 : pc = 0
  · subst h0; simp only [if_true, if_false, reduceIte, ↓reduceIte] at hf; exact sb_2_isWhole_0 l p e s m args below meth c Q D aC ad base K X RT ls st h z hf
  rw [if_neg h0] at hf
  exact hf.elim
abbrev cb_2_values : ByteArray := prog_4_method_5_code
abbrev yy_2_values : MethodName := ⟨"SwipedStripe$Finding", "values", "()I"⟩
def bb_2_values_0 (K : jw_K) (J : Nat → jw_S) : jw_S := xo_al 0 (xo_gf 2 4 (xo_ri 0 0 K))
def qq_2_values (K : jw_K) (pc : Nat) (J : Nat → jw_S) : jw_S := if pc = 0 then bb_2_values_0 K J else fun _ _ _ _ => False
def cc_2_values : jw_T := jw_C 1 qq_2_values
theorem sb_2_values_0 (l : Launch) : jo_Ok l cb_2_values 1 "SwipedStripe$Finding" "values" jw_ro { frames := 0, cells := 0, slots := 0, locals := 0 } (some .int) 0 0 bb_2_values_0 0 := (jo_aln (i := 0) (j := 0) (by decide +kernel) rfl (jo_gf (j := 4) jw_F2 (by decide) kw_164 (by decide +kernel) (jo_ri rfl (by decide +kernel))))
theorem ss_2_values (l : Launch) : jw_Met l yy_2_values cb_2_values 1 (some .int) { frames := 0, cells := 0, slots := 0, locals := 0 } cc_2_values := by
  refine jw_met (by decide) (fun pc => ?_)
  intro p e s m args below meth c Q D aC ad base K X RT ls st h z hf
  unfold qq_2_values at hf
  by_cases h0 : pc = 0
  · subst h0; simp only [if_true, if_false, reduceIte, ↓reduceIte] at hf; exact sb_2_values_0 l p e s m args below meth c Q D aC ad base K X RT ls st h z hf
  rw [if_neg h0] at hf
  exact hf.elim
abbrev cb_2_verdict : ByteArray := prog_4_method_2_code
abbrev yy_2_verdict : MethodName := ⟨"SwipedStripe$Finding", "verdict", "()I"⟩
def bb_2_verdict_0 (K : jw_K) (J : Nat → jw_S) : jw_S := xo_al 0 (xo_gf 2 2 (xo_ri 0 0 K))
def qq_2_verdict (K : jw_K) (pc : Nat) (J : Nat → jw_S) : jw_S := if pc = 0 then bb_2_verdict_0 K J else fun _ _ _ _ => False
def cc_2_verdict : jw_T := jw_C 1 qq_2_verdict
theorem sb_2_verdict_0 (l : Launch) : jo_Ok l cb_2_verdict 1 "SwipedStripe$Finding" "verdict" jw_ro { frames := 0, cells := 0, slots := 0, locals := 0 } (some .int) 0 0 bb_2_verdict_0 0 := (jo_aln (i := 0) (j := 0) (by decide +kernel) rfl (jo_gf (j := 2) jw_F2 (by decide) kw_162 (by decide +kernel) (jo_ri rfl (by decide +kernel))))
theorem ss_2_verdict (l : Launch) : jw_Met l yy_2_verdict cb_2_verdict 1 (some .int) { frames := 0, cells := 0, slots := 0, locals := 0 } cc_2_verdict := by
  refine jw_met (by decide) (fun pc => ?_)
  intro p e s m args below meth c Q D aC ad base K X RT ls st h z hf
  unfold qq_2_verdict at hf
  by_cases h0 : pc = 0
  · subst h0; simp only [if_true, if_false, reduceIte, ↓reduceIte] at hf; exact sb_2_verdict_0 l p e s m args below meth c Q D aC ad base K X RT ls st h z hf
  rw [if_neg h0] at hf
  exact hf.elim
abbrev cb_2_wrongChecks : ByteArray := prog_4_method_9_code
abbrev yy_2_wrongChecks : MethodName := ⟨"SwipedStripe$Finding", "wrongChecks", "()I"⟩
def bb_2_wrongChecks_0 (K : jw_K) (J : Nat → jw_S) : jw_S := xo_al 0 (xo_gf 2 8 (xo_ri 0 0 K))
def qq_2_wrongChecks (K : jw_K) (pc : Nat) (J : Nat → jw_S) : jw_S := if pc = 0 then bb_2_wrongChecks_0 K J else fun _ _ _ _ => False
def cc_2_wrongChecks : jw_T := jw_C 1 qq_2_wrongChecks
theorem sb_2_wrongChecks_0 (l : Launch) : jo_Ok l cb_2_wrongChecks 1 "SwipedStripe$Finding" "wrongChecks" jw_ro { frames := 0, cells := 0, slots := 0, locals := 0 } (some .int) 0 0 bb_2_wrongChecks_0 0 := (jo_aln (i := 0) (j := 0) (by decide +kernel) rfl (jo_gf (j := 8) jw_F2 (by decide) kw_168 (by decide +kernel) (jo_ri rfl (by decide +kernel))))
theorem ss_2_wrongChecks (l : Launch) : jw_Met l yy_2_wrongChecks cb_2_wrongChecks 1 (some .int) { frames := 0, cells := 0, slots := 0, locals := 0 } cc_2_wrongChecks := by
  refine jw_met (by decide) (fun pc => ?_)
  intro p e s m args below meth c Q D aC ad base K X RT ls st h z hf
  unfold qq_2_wrongChecks at hf
  by_cases h0 : pc = 0
  · subst h0; simp only [if_true, if_false, reduceIte, ↓reduceIte] at hf; exact sb_2_wrongChecks_0 l p e s m args below meth c Q D aC ad base K X RT ls st h z hf
  rw [if_neg h0] at hf
  exact hf.elim
abbrev cb_10_found : ByteArray := prog_1_method_20_code
abbrev yy_10_found : MethodName := ⟨"SwipedStripe", "found", "(I)I"⟩
def bb_10_found_144 (K : jw_K) (J : Nat → jw_S) : jw_S := xo_ri 0 0 K
def bb_10_found_142 (K : jw_K) (J : Nat → jw_S) : jw_S := xo_ci (-4) (bb_10_found_144 K J)
def bb_10_found_122 (K : jw_K) (J : Nat → jw_S) : jw_S := xo_al 0 (xo_gf 10 7 (xo_cv 2 cc_2_isWhole 1 (xo_zeq (bb_10_found_142 K J) (xo_al 0 (xo_gf 10 7 (xo_cv 2 cc_2_wrongChecks 1 (bb_10_found_144 K J)))))))
def bb_10_found_121 (K : jw_K) (J : Nat → jw_S) : jw_S := xo_ri 0 0 K
def bb_10_found_119 (K : jw_K) (J : Nat → jw_S) : jw_S := xo_ci (-4) (bb_10_found_121 K J)
def bb_10_found_99 (K : jw_K) (J : Nat → jw_S) : jw_S := xo_al 0 (xo_gf 10 7 (xo_cv 2 cc_2_isWhole 1 (xo_zeq (bb_10_found_119 K J) (xo_al 0 (xo_gf 10 7 (xo_cv 2 cc_2_wrongSymbols 1 (bb_10_found_121 K J)))))))
def bb_10_found_98 (K : jw_K) (J : Nat → jw_S) : jw_S := xo_ri 0 0 K
def bb_10_found_96 (K : jw_K) (J : Nat → jw_S) : jw_S := xo_ci (-4) (bb_10_found_98 K J)
def bb_10_found_76 (K : jw_K) (J : Nat → jw_S) : jw_S := xo_al 0 (xo_gf 10 7 (xo_cv 2 cc_2_isWhole 1 (xo_zeq (bb_10_found_96 K J) (xo_al 0 (xo_gf 10 7 (xo_cv 2 cc_2_values 1 (bb_10_found_98 K J)))))))
def bb_10_found_68 (K : jw_K) (J : Nat → jw_S) : jw_S := xo_al 0 (xo_gf 10 7 (xo_cv 2 cc_2_beginAt 1 (xo_ri 0 0 K)))
def bb_10_found_60 (K : jw_K) (J : Nat → jw_S) : jw_S := xo_al 0 (xo_gf 10 7 (xo_cv 2 cc_2_verdict 1 (xo_ri 0 0 K)))
def bb_10_found_24 (K : jw_K) (J : Nat → jw_S) : jw_S := xo_al 0 (xo_cv 10 cc_10_look 1 (xo_il 1 (xo_ts 0 3 ([fun K J => bb_10_found_60 K J, fun K J => bb_10_found_68 K J, fun K J => bb_10_found_76 K J, fun K J => bb_10_found_99 K J].map (fun f => f K J)) (bb_10_found_122 K J))))
def bb_10_found_11 (K : jw_K) (J : Nat → jw_S) : jw_S := xo_al 0 (xo_gf 10 5 (xo_cv 4 cc_4_isEmpty 1 (xo_zeq (bb_10_found_24 K J) (xo_ci (-2) (xo_ri 0 0 K)))))
def bb_10_found_9 (K : jw_K) (J : Nat → jw_S) : jw_S := xo_ci (-1) (xo_ri 0 0 K)
def bb_10_found_0 (K : jw_K) (J : Nat → jw_S) : jw_S := xo_il 1 (xo_zlt (bb_10_found_9 K J) (xo_il 1 (xo_ci 4 (xo_cle (bb_10_found_11 K J) (bb_10_found_9 K J)))))
def qq_10_found (K : jw_K) (pc : Nat) (J : Nat → jw_S) : jw_S := if pc = 0 then bb_10_found_0 K J else fun _ _ _ _ => False
def cc_10_found : jw_T := jw_C 2 qq_10_found
theorem sb_10_found_144 (l : Launch) : jo_Ok l cb_10_found 2 "SwipedStripe" "found" jw_ro { frames := 5, cells := 0, slots := 0, locals := 113 } (some .int) 0 0 bb_10_found_144 144 := (jo_ri rfl (by decide +kernel))
theorem sb_10_found_142 (l : Launch) : jo_Ok l cb_10_found 2 "SwipedStripe" "found" jw_ro { frames := 5, cells := 0, slots := 0, locals := 113 } (some .int) 0 0 bb_10_found_142 142 := (jo_bpi (n := -4) (by decide +kernel) (by decide) (sb_10_found_144 l))
theorem sb_10_found_122 (l : Launch) : jo_Ok l cb_10_found 2 "SwipedStripe" "found" jw_ro { frames := 5, cells := 0, slots := 0, locals := 113 } (some .int) 0 0 bb_10_found_122 122 := (jo_aln (i := 0) (j := 0) (by decide +kernel) rfl (jo_gf (j := 7) jw_F10 (by decide) kw_261 (by decide +kernel) (jo_cv (n := 0) (ss_2_isWhole l) kw_740 kw_8 kw_737 kw_738 jw_F2 kw_739 ⟨by decide, by decide, by decide +kernel⟩ ⟨by decide, by decide⟩ (fun _ _ h => h) ⟨rfl, rfl⟩ (by decide +kernel) (jo_zeq (off := 13) (tgt := 142) (by decide +kernel) (by decide) (sb_10_found_142 l) (jo_aln (i := 0) (j := 0) (by decide +kernel) rfl (jo_gf (j := 7) jw_F10 (by decide) kw_261 (by decide +kernel) (jo_cv (n := 0) (ss_2_wrongChecks l) kw_749 kw_8 kw_746 kw_747 jw_F2 kw_748 ⟨by decide, by decide, by decide +kernel⟩ ⟨by decide, by decide⟩ (fun _ _ h => h) ⟨rfl, rfl⟩ (by decide +kernel) (jo_goto (off := 5) (tgt := 144) (by decide +kernel) (by decide) (sb_10_found_144 l)))))))))
theorem sb_10_found_121 (l : Launch) : jo_Ok l cb_10_found 2 "SwipedStripe" "found" jw_ro { frames := 5, cells := 0, slots := 0, locals := 113 } (some .int) 0 0 bb_10_found_121 121 := (jo_ri rfl (by decide +kernel))
theorem sb_10_found_119 (l : Launch) : jo_Ok l cb_10_found 2 "SwipedStripe" "found" jw_ro { frames := 5, cells := 0, slots := 0, locals := 113 } (some .int) 0 0 bb_10_found_119 119 := (jo_bpi (n := -4) (by decide +kernel) (by decide) (sb_10_found_121 l))
theorem sb_10_found_99 (l : Launch) : jo_Ok l cb_10_found 2 "SwipedStripe" "found" jw_ro { frames := 5, cells := 0, slots := 0, locals := 113 } (some .int) 0 0 bb_10_found_99 99 := (jo_aln (i := 0) (j := 0) (by decide +kernel) rfl (jo_gf (j := 7) jw_F10 (by decide) kw_261 (by decide +kernel) (jo_cv (n := 0) (ss_2_isWhole l) kw_740 kw_8 kw_737 kw_738 jw_F2 kw_739 ⟨by decide, by decide, by decide +kernel⟩ ⟨by decide, by decide⟩ (fun _ _ h => h) ⟨rfl, rfl⟩ (by decide +kernel) (jo_zeq (off := 13) (tgt := 119) (by decide +kernel) (by decide) (sb_10_found_119 l) (jo_aln (i := 0) (j := 0) (by decide +kernel) rfl (jo_gf (j := 7) jw_F10 (by decide) kw_261 (by decide +kernel) (jo_cv (n := 0) (ss_2_wrongSymbols l) kw_726 kw_8 kw_745 kw_724 jw_F2 kw_725 ⟨by decide, by decide, by decide +kernel⟩ ⟨by decide, by decide⟩ (fun _ _ h => h) ⟨rfl, rfl⟩ (by decide +kernel) (jo_goto (off := 5) (tgt := 121) (by decide +kernel) (by decide) (sb_10_found_121 l)))))))))
theorem sb_10_found_98 (l : Launch) : jo_Ok l cb_10_found 2 "SwipedStripe" "found" jw_ro { frames := 5, cells := 0, slots := 0, locals := 113 } (some .int) 0 0 bb_10_found_98 98 := (jo_ri rfl (by decide +kernel))
theorem sb_10_found_96 (l : Launch) : jo_Ok l cb_10_found 2 "SwipedStripe" "found" jw_ro { frames := 5, cells := 0, slots := 0, locals := 113 } (some .int) 0 0 bb_10_found_96 96 := (jo_bpi (n := -4) (by decide +kernel) (by decide) (sb_10_found_98 l))
theorem sb_10_found_76 (l : Launch) : jo_Ok l cb_10_found 2 "SwipedStripe" "found" jw_ro { frames := 5, cells := 0, slots := 0, locals := 113 } (some .int) 0 0 bb_10_found_76 76 := (jo_aln (i := 0) (j := 0) (by decide +kernel) rfl (jo_gf (j := 7) jw_F10 (by decide) kw_261 (by decide +kernel) (jo_cv (n := 0) (ss_2_isWhole l) kw_740 kw_8 kw_737 kw_738 jw_F2 kw_739 ⟨by decide, by decide, by decide +kernel⟩ ⟨by decide, by decide⟩ (fun _ _ h => h) ⟨rfl, rfl⟩ (by decide +kernel) (jo_zeq (off := 13) (tgt := 96) (by decide +kernel) (by decide) (sb_10_found_96 l) (jo_aln (i := 0) (j := 0) (by decide +kernel) rfl (jo_gf (j := 7) jw_F10 (by decide) kw_261 (by decide +kernel) (jo_cv (n := 0) (ss_2_values l) kw_744 kw_8 kw_741 kw_742 jw_F2 kw_743 ⟨by decide, by decide, by decide +kernel⟩ ⟨by decide, by decide⟩ (fun _ _ h => h) ⟨rfl, rfl⟩ (by decide +kernel) (jo_goto (off := 5) (tgt := 98) (by decide +kernel) (by decide) (sb_10_found_98 l)))))))))
theorem sb_10_found_68 (l : Launch) : jo_Ok l cb_10_found 2 "SwipedStripe" "found" jw_ro { frames := 5, cells := 0, slots := 0, locals := 113 } (some .int) 0 0 bb_10_found_68 68 := (jo_aln (i := 0) (j := 0) (by decide +kernel) rfl (jo_gf (j := 7) jw_F10 (by decide) kw_261 (by decide +kernel) (jo_cv (n := 0) (ss_2_beginAt l) kw_736 kw_8 kw_733 kw_734 jw_F2 kw_735 ⟨by decide, by decide, by decide +kernel⟩ ⟨by decide, by decide⟩ (fun _ _ h => h) ⟨rfl, rfl⟩ (by decide +kernel) (jo_ri rfl (by decide +kernel)))))
theorem sb_10_found_60 (l : Launch) : jo_Ok l cb_10_found 2 "SwipedStripe" "found" jw_ro { frames := 5, cells := 0, slots := 0, locals := 113 } (some .int) 0 0 bb_10_found_60 60 := (jo_aln (i := 0) (j := 0) (by decide +kernel) rfl (jo_gf (j := 7) jw_F10 (by decide) kw_261 (by decide +kernel) (jo_cv (n := 0) (ss_2_verdict l) kw_732 kw_8 kw_729 kw_730 jw_F2 kw_731 ⟨by decide, by decide, by decide +kernel⟩ ⟨by decide, by decide⟩ (fun _ _ h => h) ⟨rfl, rfl⟩ (by decide +kernel) (jo_ri rfl (by decide +kernel)))))
theorem sb_10_found_24 (l : Launch) : jo_Ok l cb_10_found 2 "SwipedStripe" "found" jw_ro { frames := 5, cells := 0, slots := 0, locals := 113 } (some .int) 0 0 bb_10_found_24 24 := (jo_aln (i := 0) (j := 0) (by decide +kernel) rfl (jo_cv (n := 0) (ss_10_look l) kw_689 kw_1 kw_686 kw_688 jw_F10 kp_16 ⟨by decide, by decide, by decide +kernel⟩ ⟨by decide, by decide⟩ (fun _ _ h => h) ⟨rfl, rfl⟩ (by decide +kernel) (jo_iln (i := 1) (j := 1) (by decide +kernel) rfl (jo_ts (dflt := 93) (offs := #[31, 39, 47, 70]) (len := 31) (tg := [60, 68, 76, 99]) (dt := 122) (by decide +kernel) (by decide) (by decide +kernel) (by decide) rfl (sb_10_found_122 l) (fun i q f h1 h2 => by
    match i, h1, h2 with
    | 0, h1, h2 => cases h1; cases h2; exact (sb_10_found_60 l)
    | 1, h1, h2 => cases h1; cases h2; exact (sb_10_found_68 l)
    | 2, h1, h2 => cases h1; cases h2; exact (sb_10_found_76 l)
    | 3, h1, h2 => cases h1; cases h2; exact (sb_10_found_99 l)
    | i + 4, h1, h2 => simp at h1)))))
theorem sb_10_found_11 (l : Launch) : jo_Ok l cb_10_found 2 "SwipedStripe" "found" jw_ro { frames := 5, cells := 0, slots := 0, locals := 113 } (some .int) 0 0 bb_10_found_11 11 := (jo_aln (i := 0) (j := 0) (by decide +kernel) rfl (jo_gf (j := 5) jw_F10 (by decide) kw_259 (by decide +kernel) (jo_cv (n := 0) (ss_4_isEmpty l) kw_633 kw_3 kw_630 kw_631 jw_F4 kw_632 ⟨by decide, by decide, by decide +kernel⟩ ⟨by decide, by decide⟩ (fun _ _ h => h) ⟨rfl, rfl⟩ (by decide +kernel) (jo_zeq (off := 6) (tgt := 24) (by decide +kernel) (by decide) (sb_10_found_24 l) (jo_bpi (n := -2) (by decide +kernel) (by decide) (jo_ri rfl (by decide +kernel)))))))
theorem sb_10_found_9 (l : Launch) : jo_Ok l cb_10_found 2 "SwipedStripe" "found" jw_ro { frames := 5, cells := 0, slots := 0, locals := 113 } (some .int) 0 0 bb_10_found_9 9 := (jo_ici (n := -1) (by decide +kernel) (by decide) (jo_ri rfl (by decide +kernel)))
theorem sb_10_found_0 (l : Launch) : jo_Ok l cb_10_found 2 "SwipedStripe" "found" jw_ro { frames := 5, cells := 0, slots := 0, locals := 113 } (some .int) 0 0 bb_10_found_0 0 := (jo_iln (i := 1) (j := 1) (by decide +kernel) rfl (jo_zlt (off := 8) (tgt := 9) (by decide +kernel) (by decide) (sb_10_found_9 l) (jo_iln (i := 1) (j := 1) (by decide +kernel) rfl (jo_ici (n := 4) (by decide +kernel) (by decide) (jo_cle (off := 5) (tgt := 11) (by decide +kernel) (by decide) (sb_10_found_11 l) (sb_10_found_9 l))))))
theorem ss_10_found (l : Launch) : jw_Met l yy_10_found cb_10_found 2 (some .int) { frames := 5, cells := 0, slots := 0, locals := 113 } cc_10_found := by
  refine jw_met (by decide) (fun pc => ?_)
  intro p e s m args below meth c Q D aC ad base K X RT ls st h z hf
  unfold qq_10_found at hf
  by_cases h0 : pc = 0
  · subst h0; simp only [if_true, if_false, reduceIte, ↓reduceIte] at hf; exact sb_10_found_0 l p e s m args below meth c Q D aC ad base K X RT ls st h z hf
  rw [if_neg h0] at hf
  exact hf.elim
abbrev cb_10_gap : ByteArray := prog_1_method_13_code
abbrev yy_10_gap : MethodName := ⟨"SwipedStripe", "gap", "(I)I"⟩
def bb_10_gap_23 (K : jw_K) (J : Nat → jw_S) : jw_S := xo_ri 0 0 K
def bb_10_gap_22 (K : jw_K) (J : Nat → jw_S) : jw_S := xo_ci (-1) (bb_10_gap_23 K J)
def bb_10_gap_0 (K : jw_K) (J : Nat → jw_S) : jw_S := xo_al 0 (xo_gf 10 5 (xo_il 1 (xo_cv 4 cc_4_has 2 (xo_zeq (bb_10_gap_22 K J) (xo_al 0 (xo_gf 10 5 (xo_il 1 (xo_cv 4 cc_4_at 2 (bb_10_gap_23 K J)))))))))
def qq_10_gap (K : jw_K) (pc : Nat) (J : Nat → jw_S) : jw_S := if pc = 0 then bb_10_gap_0 K J else fun _ _ _ _ => False
def cc_10_gap : jw_T := jw_C 2 qq_10_gap
theorem sb_10_gap_23 (l : Launch) : jo_Ok l cb_10_gap 2 "SwipedStripe" "gap" jw_ro { frames := 1, cells := 0, slots := 0, locals := 21 } (some .int) 0 0 bb_10_gap_23 23 := (jo_ri rfl (by decide +kernel))
theorem sb_10_gap_22 (l : Launch) : jo_Ok l cb_10_gap 2 "SwipedStripe" "gap" jw_ro { frames := 1, cells := 0, slots := 0, locals := 21 } (some .int) 0 0 bb_10_gap_22 22 := (jo_ici (n := -1) (by decide +kernel) (by decide) (sb_10_gap_23 l))
theorem sb_10_gap_0 (l : Launch) : jo_Ok l cb_10_gap 2 "SwipedStripe" "gap" jw_ro { frames := 1, cells := 0, slots := 0, locals := 21 } (some .int) 0 0 bb_10_gap_0 0 := (jo_aln (i := 0) (j := 0) (by decide +kernel) rfl (jo_gf (j := 5) jw_F10 (by decide) kw_259 (by decide +kernel) (jo_iln (i := 1) (j := 1) (by decide +kernel) rfl (jo_cv (n := 1) (ss_4_has l) kw_346 kw_3 kw_512 kw_344 jw_F4 kw_345 ⟨by decide, by decide, by decide +kernel⟩ ⟨by decide, by decide⟩ (fun _ _ h => h) ⟨rfl, rfl⟩ (by decide +kernel) (jo_zeq (off := 14) (tgt := 22) (by decide +kernel) (by decide) (sb_10_gap_22 l) (jo_aln (i := 0) (j := 0) (by decide +kernel) rfl (jo_gf (j := 5) jw_F10 (by decide) kw_259 (by decide +kernel) (jo_iln (i := 1) (j := 1) (by decide +kernel) rfl (jo_cv (n := 1) (ss_4_at l) kw_330 kw_3 kw_513 kw_328 jw_F4 kw_329 ⟨by decide, by decide, by decide +kernel⟩ ⟨by decide, by decide⟩ (fun _ _ h => h) ⟨rfl, rfl⟩ (by decide +kernel) (jo_goto (off := 4) (tgt := 23) (by decide +kernel) (by decide) (sb_10_gap_23 l)))))))))))
theorem ss_10_gap (l : Launch) : jw_Met l yy_10_gap cb_10_gap 2 (some .int) { frames := 1, cells := 0, slots := 0, locals := 21 } cc_10_gap := by
  refine jw_met (by decide) (fun pc => ?_)
  intro p e s m args below meth c Q D aC ad base K X RT ls st h z hf
  unfold qq_10_gap at hf
  by_cases h0 : pc = 0
  · subst h0; simp only [if_true, if_false, reduceIte, ↓reduceIte] at hf; exact sb_10_gap_0 l p e s m args below meth c Q D aC ad base K X RT ls st h z hf
  rw [if_neg h0] at hf
  exact hf.elim
abbrev cb_10_heard : ByteArray := prog_1_method_19_code
abbrev yy_10_heard : MethodName := ⟨"SwipedStripe", "heard", "(I)I"⟩
def bb_10_heard_33 (K : jw_K) (J : Nat → jw_S) : jw_S := xo_ri 0 0 K
def bb_10_heard_32 (K : jw_K) (J : Nat → jw_S) : jw_S := xo_ci (-1) (bb_10_heard_33 K J)
def bb_10_heard_0 (K : jw_K) (J : Nat → jw_S) : jw_S := xo_al 0 (xo_cv 10 cc_10_hearByText 1 (xo_al 0 (xo_gf 10 6 (xo_cv 3 cc_3_bits 1 (xo_il 1 (xo_cv 4 cc_4_has 2 (xo_zeq (bb_10_heard_32 K J) (xo_al 0 (xo_gf 10 6 (xo_cv 3 cc_3_bits 1 (xo_il 1 (xo_cv 4 cc_4_at 2 (bb_10_heard_33 K J)))))))))))))
def qq_10_heard (K : jw_K) (pc : Nat) (J : Nat → jw_S) : jw_S := if pc = 0 then bb_10_heard_0 K J else fun _ _ _ _ => False
def cc_10_heard : jw_T := jw_C 2 qq_10_heard
theorem sb_10_heard_33 (l : Launch) : jo_Ok l cb_10_heard 2 "SwipedStripe" "heard" jw_ro { frames := 4, cells := 0, slots := 0, locals := 92 } (some .int) 0 0 bb_10_heard_33 33 := (jo_ri rfl (by decide +kernel))
theorem sb_10_heard_32 (l : Launch) : jo_Ok l cb_10_heard 2 "SwipedStripe" "heard" jw_ro { frames := 4, cells := 0, slots := 0, locals := 92 } (some .int) 0 0 bb_10_heard_32 32 := (jo_ici (n := -1) (by decide +kernel) (by decide) (sb_10_heard_33 l))
theorem sb_10_heard_0 (l : Launch) : jo_Ok l cb_10_heard 2 "SwipedStripe" "heard" jw_ro { frames := 4, cells := 0, slots := 0, locals := 92 } (some .int) 0 0 bb_10_heard_0 0 := (jo_aln (i := 0) (j := 0) (by decide +kernel) rfl (jo_cv (n := 0) (ss_10_hearByText l) kw_681 kw_1 kw_678 kw_680 jw_F10 kp_15 ⟨by decide, by decide, by decide +kernel⟩ ⟨by decide, by decide⟩ (fun _ _ h => h) ⟨rfl, rfl⟩ (by decide +kernel) (jo_aln (i := 0) (j := 0) (by decide +kernel) rfl (jo_gf (j := 6) jw_F10 (by decide) kw_260 (by decide +kernel) (jo_cv (n := 0) (ss_3_bits l) kw_665 kw_7 kw_662 kw_663 jw_F3 kw_664 ⟨by decide, by decide, by decide +kernel⟩ ⟨by decide, by decide⟩ (fun _ _ h => h) ⟨rfl, rfl⟩ (by decide +kernel) (jo_iln (i := 1) (j := 1) (by decide +kernel) rfl (jo_cv (n := 1) (ss_4_has l) kw_346 kw_3 kw_512 kw_344 jw_F4 kw_345 ⟨by decide, by decide, by decide +kernel⟩ ⟨by decide, by decide⟩ (fun _ _ h => h) ⟨rfl, rfl⟩ (by decide +kernel) (jo_zeq (off := 17) (tgt := 32) (by decide +kernel) (by decide) (sb_10_heard_32 l) (jo_aln (i := 0) (j := 0) (by decide +kernel) rfl (jo_gf (j := 6) jw_F10 (by decide) kw_260 (by decide +kernel) (jo_cv (n := 0) (ss_3_bits l) kw_665 kw_7 kw_662 kw_663 jw_F3 kw_664 ⟨by decide, by decide, by decide +kernel⟩ ⟨by decide, by decide⟩ (fun _ _ h => h) ⟨rfl, rfl⟩ (by decide +kernel) (jo_iln (i := 1) (j := 1) (by decide +kernel) rfl (jo_cv (n := 1) (ss_4_at l) kw_330 kw_3 kw_513 kw_328 jw_F4 kw_329 ⟨by decide, by decide, by decide +kernel⟩ ⟨by decide, by decide⟩ (fun _ _ h => h) ⟨rfl, rfl⟩ (by decide +kernel) (jo_goto (off := 4) (tgt := 33) (by decide +kernel) (by decide) (sb_10_heard_33 l)))))))))))))))
theorem ss_10_heard (l : Launch) : jw_Met l yy_10_heard cb_10_heard 2 (some .int) { frames := 4, cells := 0, slots := 0, locals := 92 } cc_10_heard := by
  refine jw_met (by decide) (fun pc => ?_)
  intro p e s m args below meth c Q D aC ad base K X RT ls st h z hf
  unfold qq_10_heard at hf
  by_cases h0 : pc = 0
  · subst h0; simp only [if_true, if_false, reduceIte, ↓reduceIte] at hf; exact sb_10_heard_0 l p e s m args below meth c Q D aC ad base K X RT ls st h z hf
  rw [if_neg h0] at hf
  exact hf.elim
abbrev cb_0_at : ByteArray := prog_2_method_5_code
abbrev yy_0_at : MethodName := ⟨"SwipedStripe$Draw", "at", "(I)I"⟩
def bb_0_at_0 (K : jw_K) (J : Nat → jw_S) : jw_S := xo_al 0 (xo_gf 0 0 (xo_il 1 (xo_cv 4 cc_4_at 2 (xo_ri 0 0 K))))
def qq_0_at (K : jw_K) (pc : Nat) (J : Nat → jw_S) : jw_S := if pc = 0 then bb_0_at_0 K J else fun _ _ _ _ => False
def cc_0_at : jw_T := jw_C 2 qq_0_at
theorem sb_0_at_0 (l : Launch) : jo_Ok l cb_0_at 2 "SwipedStripe$Draw" "at" jw_ro { frames := 1, cells := 0, slots := 0, locals := 21 } (some .int) 0 0 bb_0_at_0 0 := (jo_aln (i := 0) (j := 0) (by decide +kernel) rfl (jo_gf (j := 0) jw_F0 (by decide) kw_224 (by decide +kernel) (jo_iln (i := 1) (j := 1) (by decide +kernel) rfl (jo_cv (n := 1) (ss_4_at l) kw_330 kw_3 kw_943 kw_328 jw_F4 kw_329 ⟨by decide, by decide, by decide +kernel⟩ ⟨by decide, by decide⟩ (fun _ _ h => h) ⟨rfl, rfl⟩ (by decide +kernel) (jo_ri rfl (by decide +kernel))))))
theorem ss_0_at (l : Launch) : jw_Met l yy_0_at cb_0_at 2 (some .int) { frames := 1, cells := 0, slots := 0, locals := 21 } cc_0_at := by
  refine jw_met (by decide) (fun pc => ?_)
  intro p e s m args below meth c Q D aC ad base K X RT ls st h z hf
  unfold qq_0_at at hf
  by_cases h0 : pc = 0
  · subst h0; simp only [if_true, if_false, reduceIte, ↓reduceIte] at hf; exact sb_0_at_0 l p e s m args below meth c Q D aC ad base K X RT ls st h z hf
  rw [if_neg h0] at hf
  exact hf.elim
abbrev cb_0_isSoundAt : ByteArray := prog_2_method_4_code
abbrev yy_0_isSoundAt : MethodName := ⟨"SwipedStripe$Draw", "isSoundAt", "(I)Z"⟩
def bb_0_isSoundAt_28 (K : jw_K) (J : Nat → jw_S) : jw_S := xo_rz 0 0 K
def bb_0_isSoundAt_27 (K : jw_K) (J : Nat → jw_S) : jw_S := xo_ci 0 (bb_0_isSoundAt_28 K J)
def bb_0_isSoundAt_0 (K : jw_K) (J : Nat → jw_S) : jw_S := xo_al 0 (xo_gf 0 0 (xo_il 1 (xo_cv 4 cc_4_has 2 (xo_zeq (bb_0_isSoundAt_27 K J) (xo_al 0 (xo_gf 0 1 (xo_il 1 (xo_iushr (xo_ci 1 (xo_iand (xo_ci 1 (xo_cne (bb_0_isSoundAt_27 K J) (xo_ci 1 (bb_0_isSoundAt_28 K J))))))))))))))
def qq_0_isSoundAt (K : jw_K) (pc : Nat) (J : Nat → jw_S) : jw_S := if pc = 0 then bb_0_isSoundAt_0 K J else fun _ _ _ _ => False
def cc_0_isSoundAt : jw_T := jw_C 2 qq_0_isSoundAt
theorem sb_0_isSoundAt_28 (l : Launch) : jo_Ok l cb_0_isSoundAt 2 "SwipedStripe$Draw" "isSoundAt" jw_ro { frames := 1, cells := 0, slots := 0, locals := 21 } (some .boolean) 0 0 bb_0_isSoundAt_28 28 := (jo_rz rfl (by decide +kernel))
theorem sb_0_isSoundAt_27 (l : Launch) : jo_Ok l cb_0_isSoundAt 2 "SwipedStripe$Draw" "isSoundAt" jw_ro { frames := 1, cells := 0, slots := 0, locals := 21 } (some .boolean) 0 0 bb_0_isSoundAt_27 27 := (jo_ici (n := 0) (by decide +kernel) (by decide) (sb_0_isSoundAt_28 l))
theorem sb_0_isSoundAt_0 (l : Launch) : jo_Ok l cb_0_isSoundAt 2 "SwipedStripe$Draw" "isSoundAt" jw_ro { frames := 1, cells := 0, slots := 0, locals := 21 } (some .boolean) 0 0 bb_0_isSoundAt_0 0 := (jo_aln (i := 0) (j := 0) (by decide +kernel) rfl (jo_gf (j := 0) jw_F0 (by decide) kw_224 (by decide +kernel) (jo_iln (i := 1) (j := 1) (by decide +kernel) rfl (jo_cv (n := 1) (ss_4_has l) kw_346 kw_3 kw_938 kw_344 jw_F4 kw_345 ⟨by decide, by decide, by decide +kernel⟩ ⟨by decide, by decide⟩ (fun _ _ h => h) ⟨rfl, rfl⟩ (by decide +kernel) (jo_zeq (off := 19) (tgt := 27) (by decide +kernel) (by decide) (sb_0_isSoundAt_27 l) (jo_aln (i := 0) (j := 0) (by decide +kernel) rfl (jo_gf (j := 1) jw_F0 (by decide) kw_225 (by decide +kernel) (jo_iln (i := 1) (j := 1) (by decide +kernel) rfl (jo_iushr (by decide +kernel) (jo_ici (n := 1) (by decide +kernel) (by decide) (jo_iand (by decide +kernel) (jo_ici (n := 1) (by decide +kernel) (by decide) (jo_cne (off := 7) (tgt := 27) (by decide +kernel) (by decide) (sb_0_isSoundAt_27 l) (jo_ici (n := 1) (by decide +kernel) (by decide) (jo_goto (off := 4) (tgt := 28) (by decide +kernel) (by decide) (sb_0_isSoundAt_28 l))))))))))))))))
theorem ss_0_isSoundAt (l : Launch) : jw_Met l yy_0_isSoundAt cb_0_isSoundAt 2 (some .boolean) { frames := 1, cells := 0, slots := 0, locals := 21 } cc_0_isSoundAt := by
  refine jw_met (by decide) (fun pc => ?_)
  intro p e s m args below meth c Q D aC ad base K X RT ls st h z hf
  unfold qq_0_isSoundAt at hf
  by_cases h0 : pc = 0
  · subst h0; simp only [if_true, if_false, reduceIte, ↓reduceIte] at hf; exact sb_0_isSoundAt_0 l p e s m args below meth c Q D aC ad base K X RT ls st h z hf
  rw [if_neg h0] at hf
  exact hf.elim
abbrev cb_0_size : ByteArray := prog_2_method_3_code
abbrev yy_0_size : MethodName := ⟨"SwipedStripe$Draw", "size", "()I"⟩
def bb_0_size_0 (K : jw_K) (J : Nat → jw_S) : jw_S := xo_al 0 (xo_gf 0 0 (xo_cv 4 cc_4_size 1 (xo_ri 0 0 K)))
def qq_0_size (K : jw_K) (pc : Nat) (J : Nat → jw_S) : jw_S := if pc = 0 then bb_0_size_0 K J else fun _ _ _ _ => False
def cc_0_size : jw_T := jw_C 1 qq_0_size
theorem sb_0_size_0 (l : Launch) : jo_Ok l cb_0_size 1 "SwipedStripe$Draw" "size" jw_ro { frames := 1, cells := 0, slots := 0, locals := 20 } (some .int) 0 0 bb_0_size_0 0 := (jo_aln (i := 0) (j := 0) (by decide +kernel) rfl (jo_gf (j := 0) jw_F0 (by decide) kw_224 (by decide +kernel) (jo_cv (n := 0) (ss_4_size l) kw_301 kw_3 kw_920 kw_299 jw_F4 kw_300 ⟨by decide, by decide, by decide +kernel⟩ ⟨by decide, by decide⟩ (fun _ _ h => h) ⟨rfl, rfl⟩ (by decide +kernel) (jo_ri rfl (by decide +kernel)))))
theorem ss_0_size (l : Launch) : jw_Met l yy_0_size cb_0_size 1 (some .int) { frames := 1, cells := 0, slots := 0, locals := 20 } cc_0_size := by
  refine jw_met (by decide) (fun pc => ?_)
  intro p e s m args below meth c Q D aC ad base K X RT ls st h z hf
  unfold qq_0_size at hf
  by_cases h0 : pc = 0
  · subst h0; simp only [if_true, if_false, reduceIte, ↓reduceIte] at hf; exact sb_0_size_0 l p e s m args below meth c Q D aC ad base K X RT ls st h z hf
  rw [if_neg h0] at hf
  exact hf.elim
abbrev cb_1_votesFor : ByteArray := prog_3_method_11_code
abbrev yy_1_votesFor : MethodName := ⟨"SwipedStripe$Draws", "votesFor", "(III)I"⟩
def bb_1_votesFor_67 (K : jw_K) (J : Nat → jw_S) : jw_S := xo_il 4 (xo_ri 0 0 K)
def bb_1_votesFor_61 (K : jw_K) (J : Nat → jw_S) : jw_S := xo_ic 5 1 (J 6)
def bb_1_votesFor_54 (K : jw_K) (J : Nat → jw_S) : jw_S := xo_il 3 (xo_cne (bb_1_votesFor_61 K J) (xo_ic 4 1 (bb_1_votesFor_61 K J)))
def bb_1_votesFor_6 (K : jw_K) (J : Nat → jw_S) : jw_S := xo_il 5 (xo_al 0 (xo_gf 1 1 (xo_cge (bb_1_votesFor_67 K J) (xo_al 0 (xo_gf 1 0 (xo_il 5 (xo_aald (xo_cv 0 cc_0_size 1 (xo_il 1 (xo_cne (bb_1_votesFor_61 K J) (xo_al 0 (xo_gf 1 0 (xo_il 5 (xo_aald (xo_il 2 (xo_cv 0 cc_0_isSoundAt 2 (xo_zeq (bb_1_votesFor_61 K J) (xo_al 0 (xo_gf 1 0 (xo_il 5 (xo_aald (xo_il 2 (xo_cv 0 cc_0_at 2 (bb_1_votesFor_54 K J))))))))))))))))))))))))
def bb_1_votesFor_0 (K : jw_K) (J : Nat → jw_S) : jw_S := xo_ci 0 (xo_is 4 (xo_ci 0 (xo_is 5 (J 6))))
def qq_1_votesFor (K : jw_K) (pc : Nat) (J : Nat → jw_S) : jw_S := if pc = 0 then bb_1_votesFor_0 K J else if pc = 6 then bb_1_votesFor_6 K J else fun _ _ _ _ => False
def cc_1_votesFor : jw_T := jw_C 6 qq_1_votesFor
theorem sb_1_votesFor_67 (l : Launch) : jo_Ok l cb_1_votesFor 6 "SwipedStripe$Draws" "votesFor" jw_ro { frames := 2, cells := 0, slots := 0, locals := 42 } (some .int) 0 0 bb_1_votesFor_67 67 := (jo_il (by decide +kernel) (jo_ri rfl (by decide +kernel)))
theorem sb_1_votesFor_61 (l : Launch) : jo_Ok l cb_1_votesFor 6 "SwipedStripe$Draws" "votesFor" jw_ro { frames := 2, cells := 0, slots := 0, locals := 42 } (some .int) 0 0 bb_1_votesFor_61 61 := (jo_ic (n0 := 1) (by decide +kernel) (by decide) (by decide) (jo_goto (off := -58) (tgt := 6) (by decide +kernel) (by decide) (jo_J)))
theorem sb_1_votesFor_54 (l : Launch) : jo_Ok l cb_1_votesFor 6 "SwipedStripe$Draws" "votesFor" jw_ro { frames := 2, cells := 0, slots := 0, locals := 42 } (some .int) 0 0 bb_1_votesFor_54 54 := (jo_iln (i := 3) (j := 3) (by decide +kernel) rfl (jo_cne (off := 6) (tgt := 61) (by decide +kernel) (by decide) (sb_1_votesFor_61 l) (jo_ic (n0 := 1) (by decide +kernel) (by decide) (by decide) (sb_1_votesFor_61 l))))
theorem sb_1_votesFor_6 (l : Launch) : jo_Ok l cb_1_votesFor 6 "SwipedStripe$Draws" "votesFor" jw_ro { frames := 2, cells := 0, slots := 0, locals := 42 } (some .int) 0 0 bb_1_votesFor_6 6 := (jo_il (by decide +kernel) (jo_aln (i := 0) (j := 0) (by decide +kernel) rfl (jo_gf (j := 1) jw_F1 (by decide) kw_232 (by decide +kernel) (jo_cge (off := 55) (tgt := 67) (by decide +kernel) (by decide) (sb_1_votesFor_67 l) (jo_aln (i := 0) (j := 0) (by decide +kernel) rfl (jo_gf (j := 0) jw_F1 (by decide) kw_231 (by decide +kernel) (jo_il (by decide +kernel) (jo_aald (by decide +kernel) (jo_cv (n := 0) (ss_0_size l) kw_919 kw_11 kw_916 kw_917 jw_F0 kw_918 ⟨by decide, by decide, by decide +kernel⟩ ⟨by decide, by decide⟩ (fun _ _ h => h) ⟨rfl, rfl⟩ (by decide +kernel) (jo_iln (i := 1) (j := 1) (by decide +kernel) rfl (jo_cne (off := 35) (tgt := 61) (by decide +kernel) (by decide) (sb_1_votesFor_61 l) (jo_aln (i := 0) (j := 0) (by decide +kernel) rfl (jo_gf (j := 0) jw_F1 (by decide) kw_231 (by decide +kernel) (jo_il (by decide +kernel) (jo_aald (by decide +kernel) (jo_iln (i := 2) (j := 2) (by decide +kernel) rfl (jo_cv (n := 1) (ss_0_isSoundAt l) kw_937 kw_11 kw_934 kw_935 jw_F0 kw_936 ⟨by decide, by decide, by decide +kernel⟩ ⟨by decide, by decide⟩ (fun _ _ h => h) ⟨rfl, rfl⟩ (by decide +kernel) (jo_zeq (off := 21) (tgt := 61) (by decide +kernel) (by decide) (sb_1_votesFor_61 l) (jo_aln (i := 0) (j := 0) (by decide +kernel) rfl (jo_gf (j := 0) jw_F1 (by decide) kw_231 (by decide +kernel) (jo_il (by decide +kernel) (jo_aald (by decide +kernel) (jo_iln (i := 2) (j := 2) (by decide +kernel) rfl (jo_cv (n := 1) (ss_0_at l) kw_942 kw_11 kw_939 kw_940 jw_F0 kw_941 ⟨by decide, by decide, by decide +kernel⟩ ⟨by decide, by decide⟩ (fun _ _ h => h) ⟨rfl, rfl⟩ (by decide +kernel) (sb_1_votesFor_54 l)))))))))))))))))))))))))
theorem sb_1_votesFor_0 (l : Launch) : jo_Ok l cb_1_votesFor 6 "SwipedStripe$Draws" "votesFor" jw_ro { frames := 2, cells := 0, slots := 0, locals := 42 } (some .int) 0 0 bb_1_votesFor_0 0 := (jo_ici (n := 0) (by decide +kernel) (by decide) (jo_is (by decide +kernel) (by decide) (jo_ici (n := 0) (by decide +kernel) (by decide) (jo_is (by decide +kernel) (by decide) jo_J))))
theorem ss_1_votesFor (l : Launch) : jw_Met l yy_1_votesFor cb_1_votesFor 6 (some .int) { frames := 2, cells := 0, slots := 0, locals := 42 } cc_1_votesFor := by
  refine jw_met (by decide) (fun pc => ?_)
  intro p e s m args below meth c Q D aC ad base K X RT ls st h z hf
  unfold qq_1_votesFor at hf
  by_cases h0 : pc = 0
  · subst h0; simp only [if_true, if_false, reduceIte, ↓reduceIte] at hf; exact sb_1_votesFor_0 l p e s m args below meth c Q D aC ad base K X RT ls st h z hf
  rw [if_neg h0] at hf
  by_cases h6 : pc = 6
  · subst h6; simp only [if_true, if_false, reduceIte, ↓reduceIte] at hf; exact sb_1_votesFor_6 l p e s m args below meth c Q D aC ad base K X RT ls st h z hf
  rw [if_neg h6] at hf
  exact hf.elim
abbrev cb_1_favourite : ByteArray := prog_3_method_9_code
abbrev yy_1_favourite : MethodName := ⟨"SwipedStripe$Draws", "favourite", "(II)I"⟩
def bb_1_favourite_46 (K : jw_K) (J : Nat → jw_S) : jw_S := xo_il 3 (xo_ri 0 0 K)
def bb_1_favourite_40 (K : jw_K) (J : Nat → jw_S) : jw_S := xo_ic 5 1 (J 9)
def bb_1_favourite_9 (K : jw_K) (J : Nat → jw_S) : jw_S := xo_il 5 (xo_ci 63 (xo_cgt (bb_1_favourite_46 K J) (xo_al 0 (xo_il 1 (xo_il 2 (xo_il 5 (xo_cv 1 cc_1_votesFor 4 (xo_is 6 (xo_il 6 (xo_il 4 (xo_cle (bb_1_favourite_40 K J) (xo_il 6 (xo_is 4 (xo_il 5 (xo_is 3 (bb_1_favourite_40 K J))))))))))))))))
def bb_1_favourite_0 (K : jw_K) (J : Nat → jw_S) : jw_S := xo_ci (-4) (xo_is 3 (xo_ci 0 (xo_is 4 (xo_ci 0 (xo_is 5 (J 9))))))
def qq_1_favourite (K : jw_K) (pc : Nat) (J : Nat → jw_S) : jw_S := if pc = 0 then bb_1_favourite_0 K J else if pc = 9 then bb_1_favourite_9 K J else fun _ _ _ _ => False
def cc_1_favourite : jw_T := jw_C 7 qq_1_favourite
theorem sb_1_favourite_46 (l : Launch) : jo_Ok l cb_1_favourite 7 "SwipedStripe$Draws" "favourite" jw_ro { frames := 3, cells := 0, slots := 0, locals := 67 } (some .int) 0 0 bb_1_favourite_46 46 := (jo_iln (i := 3) (j := 3) (by decide +kernel) rfl (jo_ri rfl (by decide +kernel)))
theorem sb_1_favourite_40 (l : Launch) : jo_Ok l cb_1_favourite 7 "SwipedStripe$Draws" "favourite" jw_ro { frames := 3, cells := 0, slots := 0, locals := 67 } (some .int) 0 0 bb_1_favourite_40 40 := (jo_ic (n0 := 1) (by decide +kernel) (by decide) (by decide) (jo_goto (off := -34) (tgt := 9) (by decide +kernel) (by decide) (jo_J)))
theorem sb_1_favourite_9 (l : Launch) : jo_Ok l cb_1_favourite 7 "SwipedStripe$Draws" "favourite" jw_ro { frames := 3, cells := 0, slots := 0, locals := 67 } (some .int) 0 0 bb_1_favourite_9 9 := (jo_il (by decide +kernel) (jo_bpi (n := 63) (by decide +kernel) (by decide) (jo_cgt (off := 33) (tgt := 46) (by decide +kernel) (by decide) (sb_1_favourite_46 l) (jo_aln (i := 0) (j := 0) (by decide +kernel) rfl (jo_iln (i := 1) (j := 1) (by decide +kernel) rfl (jo_iln (i := 2) (j := 2) (by decide +kernel) rfl (jo_il (by decide +kernel) (jo_cv (n := 3) (ss_1_votesFor l) kw_933 kw_10 kw_930 kw_932 jw_F1 kp_28 ⟨by decide, by decide, by decide +kernel⟩ ⟨by decide, by decide⟩ (fun _ _ h => h) ⟨rfl, rfl⟩ (by decide +kernel) (jo_is (by decide +kernel) (by decide) (jo_il (by decide +kernel) (jo_il (by decide +kernel) (jo_cle (off := 10) (tgt := 40) (by decide +kernel) (by decide) (sb_1_favourite_40 l) (jo_il (by decide +kernel) (jo_is (by decide +kernel) (by decide) (jo_il (by decide +kernel) (jo_isn (i := 3) (j := 3) (by decide +kernel) rfl (by decide) (sb_1_favourite_40 l)))))))))))))))))
theorem sb_1_favourite_0 (l : Launch) : jo_Ok l cb_1_favourite 7 "SwipedStripe$Draws" "favourite" jw_ro { frames := 3, cells := 0, slots := 0, locals := 67 } (some .int) 0 0 bb_1_favourite_0 0 := (jo_bpi (n := -4) (by decide +kernel) (by decide) (jo_isn (i := 3) (j := 3) (by decide +kernel) rfl (by decide) (jo_ici (n := 0) (by decide +kernel) (by decide) (jo_is (by decide +kernel) (by decide) (jo_ici (n := 0) (by decide +kernel) (by decide) (jo_is (by decide +kernel) (by decide) jo_J))))))
theorem ss_1_favourite (l : Launch) : jw_Met l yy_1_favourite cb_1_favourite 7 (some .int) { frames := 3, cells := 0, slots := 0, locals := 67 } cc_1_favourite := by
  refine jw_met (by decide) (fun pc => ?_)
  intro p e s m args below meth c Q D aC ad base K X RT ls st h z hf
  unfold qq_1_favourite at hf
  by_cases h0 : pc = 0
  · subst h0; simp only [if_true, if_false, reduceIte, ↓reduceIte] at hf; exact sb_1_favourite_0 l p e s m args below meth c Q D aC ad base K X RT ls st h z hf
  rw [if_neg h0] at hf
  by_cases h9 : pc = 9
  · subst h9; simp only [if_true, if_false, reduceIte, ↓reduceIte] at hf; exact sb_1_favourite_9 l p e s m args below meth c Q D aC ad base K X RT ls st h z hf
  rw [if_neg h9] at hf
  exact hf.elim
abbrev cb_1_withPlaces : ByteArray := prog_3_method_6_code
abbrev yy_1_withPlaces : MethodName := ⟨"SwipedStripe$Draws", "withPlaces", "(I)I"⟩
def bb_1_withPlaces_34 (K : jw_K) (J : Nat → jw_S) : jw_S := xo_il 2 (xo_ri 0 0 K)
def bb_1_withPlaces_28 (K : jw_K) (J : Nat → jw_S) : jw_S := xo_ic 3 1 (J 4)
def bb_1_withPlaces_4 (K : jw_K) (J : Nat → jw_S) : jw_S := xo_il 3 (xo_al 0 (xo_gf 1 1 (xo_cge (bb_1_withPlaces_34 K J) (xo_al 0 (xo_gf 1 0 (xo_il 3 (xo_aald (xo_cv 0 cc_0_size 1 (xo_il 1 (xo_cne (bb_1_withPlaces_28 K J) (xo_ic 2 1 (bb_1_withPlaces_28 K J))))))))))))
def bb_1_withPlaces_0 (K : jw_K) (J : Nat → jw_S) : jw_S := xo_ci 0 (xo_is 2 (xo_ci 0 (xo_is 3 (J 4))))
def qq_1_withPlaces (K : jw_K) (pc : Nat) (J : Nat → jw_S) : jw_S := if pc = 0 then bb_1_withPlaces_0 K J else if pc = 4 then bb_1_withPlaces_4 K J else fun _ _ _ _ => False
def cc_1_withPlaces : jw_T := jw_C 4 qq_1_withPlaces
theorem sb_1_withPlaces_34 (l : Launch) : jo_Ok l cb_1_withPlaces 4 "SwipedStripe$Draws" "withPlaces" jw_ro { frames := 2, cells := 0, slots := 0, locals := 40 } (some .int) 0 0 bb_1_withPlaces_34 34 := (jo_iln (i := 2) (j := 2) (by decide +kernel) rfl (jo_ri rfl (by decide +kernel)))
theorem sb_1_withPlaces_28 (l : Launch) : jo_Ok l cb_1_withPlaces 4 "SwipedStripe$Draws" "withPlaces" jw_ro { frames := 2, cells := 0, slots := 0, locals := 40 } (some .int) 0 0 bb_1_withPlaces_28 28 := (jo_ic (n0 := 1) (by decide +kernel) (by decide) (by decide) (jo_goto (off := -27) (tgt := 4) (by decide +kernel) (by decide) (jo_J)))
theorem sb_1_withPlaces_4 (l : Launch) : jo_Ok l cb_1_withPlaces 4 "SwipedStripe$Draws" "withPlaces" jw_ro { frames := 2, cells := 0, slots := 0, locals := 40 } (some .int) 0 0 bb_1_withPlaces_4 4 := (jo_iln (i := 3) (j := 3) (by decide +kernel) rfl (jo_aln (i := 0) (j := 0) (by decide +kernel) rfl (jo_gf (j := 1) jw_F1 (by decide) kw_232 (by decide +kernel) (jo_cge (off := 25) (tgt := 34) (by decide +kernel) (by decide) (sb_1_withPlaces_34 l) (jo_aln (i := 0) (j := 0) (by decide +kernel) rfl (jo_gf (j := 0) jw_F1 (by decide) kw_231 (by decide +kernel) (jo_iln (i := 3) (j := 3) (by decide +kernel) rfl (jo_aald (by decide +kernel) (jo_cv (n := 0) (ss_0_size l) kw_919 kw_11 kw_916 kw_917 jw_F0 kw_918 ⟨by decide, by decide, by decide +kernel⟩ ⟨by decide, by decide⟩ (fun _ _ h => h) ⟨rfl, rfl⟩ (by decide +kernel) (jo_iln (i := 1) (j := 1) (by decide +kernel) rfl (jo_cne (off := 6) (tgt := 28) (by decide +kernel) (by decide) (sb_1_withPlaces_28 l) (jo_ic (n0 := 1) (by decide +kernel) (by decide) (by decide) (sb_1_withPlaces_28 l)))))))))))))
theorem sb_1_withPlaces_0 (l : Launch) : jo_Ok l cb_1_withPlaces 4 "SwipedStripe$Draws" "withPlaces" jw_ro { frames := 2, cells := 0, slots := 0, locals := 40 } (some .int) 0 0 bb_1_withPlaces_0 0 := (jo_ici (n := 0) (by decide +kernel) (by decide) (jo_isn (i := 2) (j := 2) (by decide +kernel) rfl (by decide) (jo_ici (n := 0) (by decide +kernel) (by decide) (jo_isn (i := 3) (j := 3) (by decide +kernel) rfl (by decide) jo_J))))
theorem ss_1_withPlaces (l : Launch) : jw_Met l yy_1_withPlaces cb_1_withPlaces 4 (some .int) { frames := 2, cells := 0, slots := 0, locals := 40 } cc_1_withPlaces := by
  refine jw_met (by decide) (fun pc => ?_)
  intro p e s m args below meth c Q D aC ad base K X RT ls st h z hf
  unfold qq_1_withPlaces at hf
  by_cases h0 : pc = 0
  · subst h0; simp only [if_true, if_false, reduceIte, ↓reduceIte] at hf; exact sb_1_withPlaces_0 l p e s m args below meth c Q D aC ad base K X RT ls st h z hf
  rw [if_neg h0] at hf
  by_cases h4 : pc = 4
  · subst h4; simp only [if_true, if_false, reduceIte, ↓reduceIte] at hf; exact sb_1_withPlaces_4 l p e s m args below meth c Q D aC ad base K X RT ls st h z hf
  rw [if_neg h4] at hf
  exact hf.elim
abbrev cb_1_places : ByteArray := prog_3_method_5_code
abbrev yy_1_places : MethodName := ⟨"SwipedStripe$Draws", "places", "()I"⟩
def bb_1_places_41 (K : jw_K) (J : Nat → jw_S) : jw_S := xo_il 1 (xo_ri 0 0 K)
def bb_1_places_35 (K : jw_K) (J : Nat → jw_S) : jw_S := xo_ic 3 1 (J 6)
def bb_1_places_6 (K : jw_K) (J : Nat → jw_S) : jw_S := xo_il 3 (xo_ci 32 (xo_cgt (bb_1_places_41 K J) (xo_al 0 (xo_il 3 (xo_cv 1 cc_1_withPlaces 2 (xo_is 4 (xo_il 4 (xo_zle (bb_1_places_35 K J) (xo_il 4 (xo_il 2 (xo_clt (bb_1_places_35 K J) (xo_il 4 (xo_is 2 (xo_il 3 (xo_is 1 (bb_1_places_35 K J))))))))))))))))
def bb_1_places_0 (K : jw_K) (J : Nat → jw_S) : jw_S := xo_ci 0 (xo_is 1 (xo_ci 0 (xo_is 2 (xo_ci 0 (xo_is 3 (J 6))))))
def qq_1_places (K : jw_K) (pc : Nat) (J : Nat → jw_S) : jw_S := if pc = 0 then bb_1_places_0 K J else if pc = 6 then bb_1_places_6 K J else fun _ _ _ _ => False
def cc_1_places : jw_T := jw_C 5 qq_1_places
theorem sb_1_places_41 (l : Launch) : jo_Ok l cb_1_places 5 "SwipedStripe$Draws" "places" jw_ro { frames := 3, cells := 0, slots := 0, locals := 63 } (some .int) 0 0 bb_1_places_41 41 := (jo_iln (i := 1) (j := 1) (by decide +kernel) rfl (jo_ri rfl (by decide +kernel)))
theorem sb_1_places_35 (l : Launch) : jo_Ok l cb_1_places 5 "SwipedStripe$Draws" "places" jw_ro { frames := 3, cells := 0, slots := 0, locals := 63 } (some .int) 0 0 bb_1_places_35 35 := (jo_ic (n0 := 1) (by decide +kernel) (by decide) (by decide) (jo_goto (off := -32) (tgt := 6) (by decide +kernel) (by decide) (jo_J)))
theorem sb_1_places_6 (l : Launch) : jo_Ok l cb_1_places 5 "SwipedStripe$Draws" "places" jw_ro { frames := 3, cells := 0, slots := 0, locals := 63 } (some .int) 0 0 bb_1_places_6 6 := (jo_iln (i := 3) (j := 3) (by decide +kernel) rfl (jo_bpi (n := 32) (by decide +kernel) (by decide) (jo_cgt (off := 32) (tgt := 41) (by decide +kernel) (by decide) (sb_1_places_41 l) (jo_aln (i := 0) (j := 0) (by decide +kernel) rfl (jo_iln (i := 3) (j := 3) (by decide +kernel) rfl (jo_cv (n := 1) (ss_1_withPlaces l) kw_915 kw_10 kw_912 kw_913 jw_F1 kw_914 ⟨by decide, by decide, by decide +kernel⟩ ⟨by decide, by decide⟩ (fun _ _ h => h) ⟨rfl, rfl⟩ (by decide +kernel) (jo_is (by decide +kernel) (by decide) (jo_il (by decide +kernel) (jo_zle (off := 14) (tgt := 35) (by decide +kernel) (by decide) (sb_1_places_35 l) (jo_il (by decide +kernel) (jo_iln (i := 2) (j := 2) (by decide +kernel) rfl (jo_clt (off := 8) (tgt := 35) (by decide +kernel) (by decide) (sb_1_places_35 l) (jo_il (by decide +kernel) (jo_isn (i := 2) (j := 2) (by decide +kernel) rfl (by decide) (jo_iln (i := 3) (j := 3) (by decide +kernel) rfl (jo_isn (i := 1) (j := 1) (by decide +kernel) rfl (by decide) (sb_1_places_35 l)))))))))))))))))
theorem sb_1_places_0 (l : Launch) : jo_Ok l cb_1_places 5 "SwipedStripe$Draws" "places" jw_ro { frames := 3, cells := 0, slots := 0, locals := 63 } (some .int) 0 0 bb_1_places_0 0 := (jo_ici (n := 0) (by decide +kernel) (by decide) (jo_isn (i := 1) (j := 1) (by decide +kernel) rfl (by decide) (jo_ici (n := 0) (by decide +kernel) (by decide) (jo_isn (i := 2) (j := 2) (by decide +kernel) rfl (by decide) (jo_ici (n := 0) (by decide +kernel) (by decide) (jo_isn (i := 3) (j := 3) (by decide +kernel) rfl (by decide) jo_J))))))
theorem ss_1_places (l : Launch) : jw_Met l yy_1_places cb_1_places 5 (some .int) { frames := 3, cells := 0, slots := 0, locals := 63 } cc_1_places := by
  refine jw_met (by decide) (fun pc => ?_)
  intro p e s m args below meth c Q D aC ad base K X RT ls st h z hf
  unfold qq_1_places at hf
  by_cases h0 : pc = 0
  · subst h0; simp only [if_true, if_false, reduceIte, ↓reduceIte] at hf; exact sb_1_places_0 l p e s m args below meth c Q D aC ad base K X RT ls st h z hf
  rw [if_neg h0] at hf
  by_cases h6 : pc = 6
  · subst h6; simp only [if_true, if_false, reduceIte, ↓reduceIte] at hf; exact sb_1_places_6 l p e s m args below meth c Q D aC ad base K X RT ls st h z hf
  rw [if_neg h6] at hf
  exact hf.elim
abbrev cb_10_join : ByteArray := prog_1_method_30_code
abbrev yy_10_join : MethodName := ⟨"SwipedStripe", "join", "(I)I"⟩
def bb_10_join_45 (K : jw_K) (J : Nat → jw_S) : jw_S := xo_ri 0 0 K
def bb_10_join_44 (K : jw_K) (J : Nat → jw_S) : jw_S := xo_ci (-1) (bb_10_join_45 K J)
def bb_10_join_19 (K : jw_K) (J : Nat → jw_S) : jw_S := xo_al 0 (xo_gf 10 9 (xo_cv 1 cc_1_places 1 (xo_is 2 (xo_il 1 (xo_il 2 (xo_cge (bb_10_join_44 K J) (xo_al 0 (xo_gf 10 9 (xo_il 2 (xo_il 1 (xo_cv 1 cc_1_favourite 3 (bb_10_join_45 K J))))))))))))
def bb_10_join_6 (K : jw_K) (J : Nat → jw_S) : jw_S := xo_al 0 (xo_gf 10 9 (xo_cv 1 cc_1_size 1 (xo_zne (bb_10_join_19 K J) (xo_ci (-2) (xo_ri 0 0 K)))))
def bb_10_join_0 (K : jw_K) (J : Nat → jw_S) : jw_S := xo_il 1 (xo_zge (bb_10_join_6 K J) (xo_ci (-1) (xo_ri 0 0 K)))
def qq_10_join (K : jw_K) (pc : Nat) (J : Nat → jw_S) : jw_S := if pc = 0 then bb_10_join_0 K J else fun _ _ _ _ => False
def cc_10_join : jw_T := jw_C 3 qq_10_join
theorem sb_10_join_45 (l : Launch) : jo_Ok l cb_10_join 3 "SwipedStripe" "join" jw_ro { frames := 4, cells := 0, slots := 0, locals := 93 } (some .int) 0 0 bb_10_join_45 45 := (jo_ri rfl (by decide +kernel))
theorem sb_10_join_44 (l : Launch) : jo_Ok l cb_10_join 3 "SwipedStripe" "join" jw_ro { frames := 4, cells := 0, slots := 0, locals := 93 } (some .int) 0 0 bb_10_join_44 44 := (jo_ici (n := -1) (by decide +kernel) (by decide) (sb_10_join_45 l))
theorem sb_10_join_19 (l : Launch) : jo_Ok l cb_10_join 3 "SwipedStripe" "join" jw_ro { frames := 4, cells := 0, slots := 0, locals := 93 } (some .int) 0 0 bb_10_join_19 19 := (jo_aln (i := 0) (j := 0) (by decide +kernel) rfl (jo_gf (j := 9) jw_F10 (by decide) kw_263 (by decide +kernel) (jo_cv (n := 0) (ss_1_places l) kw_911 kw_10 kw_908 kw_909 jw_F1 kw_910 ⟨by decide, by decide, by decide +kernel⟩ ⟨by decide, by decide⟩ (fun _ _ h => h) ⟨rfl, rfl⟩ (by decide +kernel) (jo_isn (i := 2) (j := 2) (by decide +kernel) rfl (by decide) (jo_iln (i := 1) (j := 1) (by decide +kernel) rfl (jo_iln (i := 2) (j := 2) (by decide +kernel) rfl (jo_cge (off := 15) (tgt := 44) (by decide +kernel) (by decide) (sb_10_join_44 l) (jo_aln (i := 0) (j := 0) (by decide +kernel) rfl (jo_gf (j := 9) jw_F10 (by decide) kw_263 (by decide +kernel) (jo_iln (i := 2) (j := 2) (by decide +kernel) rfl (jo_iln (i := 1) (j := 1) (by decide +kernel) rfl (jo_cv (n := 2) (ss_1_favourite l) kw_929 kw_10 kw_956 kw_927 jw_F1 kw_928 ⟨by decide, by decide, by decide +kernel⟩ ⟨by decide, by decide⟩ (fun _ _ h => h) ⟨rfl, rfl⟩ (by decide +kernel) (jo_goto (off := 4) (tgt := 45) (by decide +kernel) (by decide) (sb_10_join_45 l))))))))))))))
theorem sb_10_join_6 (l : Launch) : jo_Ok l cb_10_join 3 "SwipedStripe" "join" jw_ro { frames := 4, cells := 0, slots := 0, locals := 93 } (some .int) 0 0 bb_10_join_6 6 := (jo_aln (i := 0) (j := 0) (by decide +kernel) rfl (jo_gf (j := 9) jw_F10 (by decide) kw_263 (by decide +kernel) (jo_cv (n := 0) (ss_1_size l) kw_887 kw_10 kw_884 kw_885 jw_F1 kw_886 ⟨by decide, by decide, by decide +kernel⟩ ⟨by decide, by decide⟩ (fun _ _ h => h) ⟨rfl, rfl⟩ (by decide +kernel) (jo_zne (off := 6) (tgt := 19) (by decide +kernel) (by decide) (sb_10_join_19 l) (jo_bpi (n := -2) (by decide +kernel) (by decide) (jo_ri rfl (by decide +kernel)))))))
theorem sb_10_join_0 (l : Launch) : jo_Ok l cb_10_join 3 "SwipedStripe" "join" jw_ro { frames := 4, cells := 0, slots := 0, locals := 93 } (some .int) 0 0 bb_10_join_0 0 := (jo_iln (i := 1) (j := 1) (by decide +kernel) rfl (jo_zge (off := 5) (tgt := 6) (by decide +kernel) (by decide) (sb_10_join_6 l) (jo_ici (n := -1) (by decide +kernel) (by decide) (jo_ri rfl (by decide +kernel)))))
theorem ss_10_join (l : Launch) : jw_Met l yy_10_join cb_10_join 3 (some .int) { frames := 4, cells := 0, slots := 0, locals := 93 } cc_10_join := by
  refine jw_met (by decide) (fun pc => ?_)
  intro p e s m args below meth c Q D aC ad base K X RT ls st h z hf
  unfold qq_10_join at hf
  by_cases h0 : pc = 0
  · subst h0; simp only [if_true, if_false, reduceIte, ↓reduceIte] at hf; exact sb_10_join_0 l p e s m args below meth c Q D aC ad base K X RT ls st h z hf
  rw [if_neg h0] at hf
  exact hf.elim
abbrev cb_1_voters : ByteArray := prog_3_method_10_code
abbrev yy_1_voters : MethodName := ⟨"SwipedStripe$Draws", "voters", "(II)I"⟩
def bb_1_voters_51 (K : jw_K) (J : Nat → jw_S) : jw_S := xo_il 3 (xo_ri 0 0 K)
def bb_1_voters_45 (K : jw_K) (J : Nat → jw_S) : jw_S := xo_ic 4 1 (J 5)
def bb_1_voters_5 (K : jw_K) (J : Nat → jw_S) : jw_S := xo_il 4 (xo_al 0 (xo_gf 1 1 (xo_cge (bb_1_voters_51 K J) (xo_al 0 (xo_gf 1 0 (xo_il 4 (xo_aald (xo_cv 0 cc_0_size 1 (xo_il 1 (xo_cne (bb_1_voters_45 K J) (xo_al 0 (xo_gf 1 0 (xo_il 4 (xo_aald (xo_il 2 (xo_cv 0 cc_0_isSoundAt 2 (xo_zeq (bb_1_voters_45 K J) (xo_ic 3 1 (bb_1_voters_45 K J)))))))))))))))))))
def bb_1_voters_0 (K : jw_K) (J : Nat → jw_S) : jw_S := xo_ci 0 (xo_is 3 (xo_ci 0 (xo_is 4 (J 5))))
def qq_1_voters (K : jw_K) (pc : Nat) (J : Nat → jw_S) : jw_S := if pc = 0 then bb_1_voters_0 K J else if pc = 5 then bb_1_voters_5 K J else fun _ _ _ _ => False
def cc_1_voters : jw_T := jw_C 5 qq_1_voters
theorem sb_1_voters_51 (l : Launch) : jo_Ok l cb_1_voters 5 "SwipedStripe$Draws" "voters" jw_ro { frames := 2, cells := 0, slots := 0, locals := 42 } (some .int) 0 0 bb_1_voters_51 51 := (jo_iln (i := 3) (j := 3) (by decide +kernel) rfl (jo_ri rfl (by decide +kernel)))
theorem sb_1_voters_45 (l : Launch) : jo_Ok l cb_1_voters 5 "SwipedStripe$Draws" "voters" jw_ro { frames := 2, cells := 0, slots := 0, locals := 42 } (some .int) 0 0 bb_1_voters_45 45 := (jo_ic (n0 := 1) (by decide +kernel) (by decide) (by decide) (jo_goto (off := -43) (tgt := 5) (by decide +kernel) (by decide) (jo_J)))
theorem sb_1_voters_5 (l : Launch) : jo_Ok l cb_1_voters 5 "SwipedStripe$Draws" "voters" jw_ro { frames := 2, cells := 0, slots := 0, locals := 42 } (some .int) 0 0 bb_1_voters_5 5 := (jo_il (by decide +kernel) (jo_aln (i := 0) (j := 0) (by decide +kernel) rfl (jo_gf (j := 1) jw_F1 (by decide) kw_232 (by decide +kernel) (jo_cge (off := 40) (tgt := 51) (by decide +kernel) (by decide) (sb_1_voters_51 l) (jo_aln (i := 0) (j := 0) (by decide +kernel) rfl (jo_gf (j := 0) jw_F1 (by decide) kw_231 (by decide +kernel) (jo_il (by decide +kernel) (jo_aald (by decide +kernel) (jo_cv (n := 0) (ss_0_size l) kw_919 kw_11 kw_916 kw_917 jw_F0 kw_918 ⟨by decide, by decide, by decide +kernel⟩ ⟨by decide, by decide⟩ (fun _ _ h => h) ⟨rfl, rfl⟩ (by decide +kernel) (jo_iln (i := 1) (j := 1) (by decide +kernel) rfl (jo_cne (off := 20) (tgt := 45) (by decide +kernel) (by decide) (sb_1_voters_45 l) (jo_aln (i := 0) (j := 0) (by decide +kernel) rfl (jo_gf (j := 0) jw_F1 (by decide) kw_231 (by decide +kernel) (jo_il (by decide +kernel) (jo_aald (by decide +kernel) (jo_iln (i := 2) (j := 2) (by decide +kernel) rfl (jo_cv (n := 1) (ss_0_isSoundAt l) kw_937 kw_11 kw_934 kw_935 jw_F0 kw_936 ⟨by decide, by decide, by decide +kernel⟩ ⟨by decide, by decide⟩ (fun _ _ h => h) ⟨rfl, rfl⟩ (by decide +kernel) (jo_zeq (off := 6) (tgt := 45) (by decide +kernel) (by decide) (sb_1_voters_45 l) (jo_ic (n0 := 1) (by decide +kernel) (by decide) (by decide) (sb_1_voters_45 l))))))))))))))))))))
theorem sb_1_voters_0 (l : Launch) : jo_Ok l cb_1_voters 5 "SwipedStripe$Draws" "voters" jw_ro { frames := 2, cells := 0, slots := 0, locals := 42 } (some .int) 0 0 bb_1_voters_0 0 := (jo_ici (n := 0) (by decide +kernel) (by decide) (jo_isn (i := 3) (j := 3) (by decide +kernel) rfl (by decide) (jo_ici (n := 0) (by decide +kernel) (by decide) (jo_is (by decide +kernel) (by decide) jo_J))))
theorem ss_1_voters (l : Launch) : jw_Met l yy_1_voters cb_1_voters 5 (some .int) { frames := 2, cells := 0, slots := 0, locals := 42 } cc_1_voters := by
  refine jw_met (by decide) (fun pc => ?_)
  intro p e s m args below meth c Q D aC ad base K X RT ls st h z hf
  unfold qq_1_voters at hf
  by_cases h0 : pc = 0
  · subst h0; simp only [if_true, if_false, reduceIte, ↓reduceIte] at hf; exact sb_1_voters_0 l p e s m args below meth c Q D aC ad base K X RT ls st h z hf
  rw [if_neg h0] at hf
  by_cases h5 : pc = 5
  · subst h5; simp only [if_true, if_false, reduceIte, ↓reduceIte] at hf; exact sb_1_voters_5 l p e s m args below meth c Q D aC ad base K X RT ls st h z hf
  rw [if_neg h5] at hf
  exact hf.elim
abbrev cb_1_disputedPlaces : ByteArray := prog_3_method_8_code
abbrev yy_1_disputedPlaces : MethodName := ⟨"SwipedStripe$Draws", "disputedPlaces", "(I)I"⟩
def bb_1_disputedPlaces_53 (K : jw_K) (J : Nat → jw_S) : jw_S := xo_il 2 (xo_ri 0 0 K)
def bb_1_disputedPlaces_47 (K : jw_K) (J : Nat → jw_S) : jw_S := xo_ic 3 1 (J 4)
def bb_1_disputedPlaces_44 (K : jw_K) (J : Nat → jw_S) : jw_S := xo_ishl (xo_ior (xo_is 2 (bb_1_disputedPlaces_47 K J)))
def bb_1_disputedPlaces_4 (K : jw_K) (J : Nat → jw_S) : jw_S := xo_il 3 (xo_il 1 (xo_cge (bb_1_disputedPlaces_53 K J) (xo_al 0 (xo_il 1 (xo_il 3 (xo_cv 1 cc_1_favourite 3 (xo_is 4 (xo_il 4 (xo_ci (-4) (xo_ceq (bb_1_disputedPlaces_47 K J) (xo_al 0 (xo_il 1 (xo_il 3 (xo_il 4 (xo_cv 1 cc_1_votesFor 4 (xo_al 0 (xo_il 1 (xo_il 3 (xo_cv 1 cc_1_voters 3 (xo_cge (bb_1_disputedPlaces_47 K J) (xo_il 2 (xo_ci 1 (xo_il 3 (bb_1_disputedPlaces_44 K J))))))))))))))))))))))))
def bb_1_disputedPlaces_0 (K : jw_K) (J : Nat → jw_S) : jw_S := xo_ci 0 (xo_is 2 (xo_ci 0 (xo_is 3 (J 4))))
def qq_1_disputedPlaces (K : jw_K) (pc : Nat) (J : Nat → jw_S) : jw_S := if pc = 0 then bb_1_disputedPlaces_0 K J else if pc = 4 then bb_1_disputedPlaces_4 K J else fun _ _ _ _ => False
def cc_1_disputedPlaces : jw_T := jw_C 5 qq_1_disputedPlaces
theorem sb_1_disputedPlaces_53 (l : Launch) : jo_Ok l cb_1_disputedPlaces 5 "SwipedStripe$Draws" "disputedPlaces" jw_ro { frames := 4, cells := 0, slots := 0, locals := 93 } (some .int) 0 0 bb_1_disputedPlaces_53 53 := (jo_iln (i := 2) (j := 2) (by decide +kernel) rfl (jo_ri rfl (by decide +kernel)))
theorem sb_1_disputedPlaces_47 (l : Launch) : jo_Ok l cb_1_disputedPlaces 5 "SwipedStripe$Draws" "disputedPlaces" jw_ro { frames := 4, cells := 0, slots := 0, locals := 93 } (some .int) 0 0 bb_1_disputedPlaces_47 47 := (jo_ic (n0 := 1) (by decide +kernel) (by decide) (by decide) (jo_goto (off := -46) (tgt := 4) (by decide +kernel) (by decide) (jo_J)))
theorem sb_1_disputedPlaces_44 (l : Launch) : jo_Ok l cb_1_disputedPlaces 5 "SwipedStripe$Draws" "disputedPlaces" jw_ro { frames := 4, cells := 0, slots := 0, locals := 93 } (some .int) 0 0 bb_1_disputedPlaces_44 44 := (jo_ishl (by decide +kernel) (jo_ior (by decide +kernel) (jo_isn (i := 2) (j := 2) (by decide +kernel) rfl (by decide) (sb_1_disputedPlaces_47 l))))
theorem sb_1_disputedPlaces_4 (l : Launch) : jo_Ok l cb_1_disputedPlaces 5 "SwipedStripe$Draws" "disputedPlaces" jw_ro { frames := 4, cells := 0, slots := 0, locals := 93 } (some .int) 0 0 bb_1_disputedPlaces_4 4 := (jo_iln (i := 3) (j := 3) (by decide +kernel) rfl (jo_iln (i := 1) (j := 1) (by decide +kernel) rfl (jo_cge (off := 47) (tgt := 53) (by decide +kernel) (by decide) (sb_1_disputedPlaces_53 l) (jo_aln (i := 0) (j := 0) (by decide +kernel) rfl (jo_iln (i := 1) (j := 1) (by decide +kernel) rfl (jo_iln (i := 3) (j := 3) (by decide +kernel) rfl (jo_cv (n := 2) (ss_1_favourite l) kw_929 kw_10 kw_926 kw_927 jw_F1 kw_928 ⟨by decide, by decide, by decide +kernel⟩ ⟨by decide, by decide⟩ (fun _ _ h => h) ⟨rfl, rfl⟩ (by decide +kernel) (jo_is (by decide +kernel) (by decide) (jo_il (by decide +kernel) (jo_bpi (n := -4) (by decide +kernel) (by decide) (jo_ceq (off := 26) (tgt := 47) (by decide +kernel) (by decide) (sb_1_disputedPlaces_47 l) (jo_aln (i := 0) (j := 0) (by decide +kernel) rfl (jo_iln (i := 1) (j := 1) (by decide +kernel) rfl (jo_iln (i := 3) (j := 3) (by decide +kernel) rfl (jo_il (by decide +kernel) (jo_cv (n := 3) (ss_1_votesFor l) kw_933 kw_10 kw_930 kw_932 jw_F1 kp_28 ⟨by decide, by decide, by decide +kernel⟩ ⟨by decide, by decide⟩ (fun _ _ h => h) ⟨rfl, rfl⟩ (by decide +kernel) (jo_aln (i := 0) (j := 0) (by decide +kernel) rfl (jo_iln (i := 1) (j := 1) (by decide +kernel) rfl (jo_iln (i := 3) (j := 3) (by decide +kernel) rfl (jo_cv (n := 2) (ss_1_voters l) kw_951 kw_10 kw_948 kw_950 jw_F1 kp_29 ⟨by decide, by decide, by decide +kernel⟩ ⟨by decide, by decide⟩ (fun _ _ h => h) ⟨rfl, rfl⟩ (by decide +kernel) (jo_cge (off := 9) (tgt := 47) (by decide +kernel) (by decide) (sb_1_disputedPlaces_47 l) (jo_iln (i := 2) (j := 2) (by decide +kernel) rfl (jo_ici (n := 1) (by decide +kernel) (by decide) (jo_iln (i := 3) (j := 3) (by decide +kernel) rfl (sb_1_disputedPlaces_44 l)))))))))))))))))))))))))
theorem sb_1_disputedPlaces_0 (l : Launch) : jo_Ok l cb_1_disputedPlaces 5 "SwipedStripe$Draws" "disputedPlaces" jw_ro { frames := 4, cells := 0, slots := 0, locals := 93 } (some .int) 0 0 bb_1_disputedPlaces_0 0 := (jo_ici (n := 0) (by decide +kernel) (by decide) (jo_isn (i := 2) (j := 2) (by decide +kernel) rfl (by decide) (jo_ici (n := 0) (by decide +kernel) (by decide) (jo_isn (i := 3) (j := 3) (by decide +kernel) rfl (by decide) jo_J))))
theorem ss_1_disputedPlaces (l : Launch) : jw_Met l yy_1_disputedPlaces cb_1_disputedPlaces 5 (some .int) { frames := 4, cells := 0, slots := 0, locals := 93 } cc_1_disputedPlaces := by
  refine jw_met (by decide) (fun pc => ?_)
  intro p e s m args below meth c Q D aC ad base K X RT ls st h z hf
  unfold qq_1_disputedPlaces at hf
  by_cases h0 : pc = 0
  · subst h0; simp only [if_true, if_false, reduceIte, ↓reduceIte] at hf; exact sb_1_disputedPlaces_0 l p e s m args below meth c Q D aC ad base K X RT ls st h z hf
  rw [if_neg h0] at hf
  by_cases h4 : pc = 4
  · subst h4; simp only [if_true, if_false, reduceIte, ↓reduceIte] at hf; exact sb_1_disputedPlaces_4 l p e s m args below meth c Q D aC ad base K X RT ls st h z hf
  rw [if_neg h4] at hf
  exact hf.elim
abbrev cb_1_openPlaces : ByteArray := prog_3_method_7_code
abbrev yy_1_openPlaces : MethodName := ⟨"SwipedStripe$Draws", "openPlaces", "(I)I"⟩
def bb_1_openPlaces_29 (K : jw_K) (J : Nat → jw_S) : jw_S := xo_il 2 (xo_ri 0 0 K)
def bb_1_openPlaces_23 (K : jw_K) (J : Nat → jw_S) : jw_S := xo_ic 3 1 (J 4)
def bb_1_openPlaces_4 (K : jw_K) (J : Nat → jw_S) : jw_S := xo_il 3 (xo_il 1 (xo_cge (bb_1_openPlaces_29 K J) (xo_al 0 (xo_il 1 (xo_il 3 (xo_cv 1 cc_1_favourite 3 (xo_ci (-4) (xo_cne (bb_1_openPlaces_23 K J) (xo_ic 2 1 (bb_1_openPlaces_23 K J))))))))))
def bb_1_openPlaces_0 (K : jw_K) (J : Nat → jw_S) : jw_S := xo_ci 0 (xo_is 2 (xo_ci 0 (xo_is 3 (J 4))))
def qq_1_openPlaces (K : jw_K) (pc : Nat) (J : Nat → jw_S) : jw_S := if pc = 0 then bb_1_openPlaces_0 K J else if pc = 4 then bb_1_openPlaces_4 K J else fun _ _ _ _ => False
def cc_1_openPlaces : jw_T := jw_C 4 qq_1_openPlaces
theorem sb_1_openPlaces_29 (l : Launch) : jo_Ok l cb_1_openPlaces 4 "SwipedStripe$Draws" "openPlaces" jw_ro { frames := 4, cells := 0, slots := 0, locals := 93 } (some .int) 0 0 bb_1_openPlaces_29 29 := (jo_iln (i := 2) (j := 2) (by decide +kernel) rfl (jo_ri rfl (by decide +kernel)))
theorem sb_1_openPlaces_23 (l : Launch) : jo_Ok l cb_1_openPlaces 4 "SwipedStripe$Draws" "openPlaces" jw_ro { frames := 4, cells := 0, slots := 0, locals := 93 } (some .int) 0 0 bb_1_openPlaces_23 23 := (jo_ic (n0 := 1) (by decide +kernel) (by decide) (by decide) (jo_goto (off := -22) (tgt := 4) (by decide +kernel) (by decide) (jo_J)))
theorem sb_1_openPlaces_4 (l : Launch) : jo_Ok l cb_1_openPlaces 4 "SwipedStripe$Draws" "openPlaces" jw_ro { frames := 4, cells := 0, slots := 0, locals := 93 } (some .int) 0 0 bb_1_openPlaces_4 4 := (jo_iln (i := 3) (j := 3) (by decide +kernel) rfl (jo_iln (i := 1) (j := 1) (by decide +kernel) rfl (jo_cge (off := 23) (tgt := 29) (by decide +kernel) (by decide) (sb_1_openPlaces_29 l) (jo_aln (i := 0) (j := 0) (by decide +kernel) rfl (jo_iln (i := 1) (j := 1) (by decide +kernel) rfl (jo_iln (i := 3) (j := 3) (by decide +kernel) rfl (jo_cv (n := 2) (ss_1_favourite l) kw_929 kw_10 kw_926 kw_927 jw_F1 kw_928 ⟨by decide, by decide, by decide +kernel⟩ ⟨by decide, by decide⟩ (fun _ _ h => h) ⟨rfl, rfl⟩ (by decide +kernel) (jo_bpi (n := -4) (by decide +kernel) (by decide) (jo_cne (off := 6) (tgt := 23) (by decide +kernel) (by decide) (sb_1_openPlaces_23 l) (jo_ic (n0 := 1) (by decide +kernel) (by decide) (by decide) (sb_1_openPlaces_23 l)))))))))))
theorem sb_1_openPlaces_0 (l : Launch) : jo_Ok l cb_1_openPlaces 4 "SwipedStripe$Draws" "openPlaces" jw_ro { frames := 4, cells := 0, slots := 0, locals := 93 } (some .int) 0 0 bb_1_openPlaces_0 0 := (jo_ici (n := 0) (by decide +kernel) (by decide) (jo_isn (i := 2) (j := 2) (by decide +kernel) rfl (by decide) (jo_ici (n := 0) (by decide +kernel) (by decide) (jo_isn (i := 3) (j := 3) (by decide +kernel) rfl (by decide) jo_J))))
theorem ss_1_openPlaces (l : Launch) : jw_Met l yy_1_openPlaces cb_1_openPlaces 4 (some .int) { frames := 4, cells := 0, slots := 0, locals := 93 } cc_1_openPlaces := by
  refine jw_met (by decide) (fun pc => ?_)
  intro p e s m args below meth c Q D aC ad base K X RT ls st h z hf
  unfold qq_1_openPlaces at hf
  by_cases h0 : pc = 0
  · subst h0; simp only [if_true, if_false, reduceIte, ↓reduceIte] at hf; exact sb_1_openPlaces_0 l p e s m args below meth c Q D aC ad base K X RT ls st h z hf
  rw [if_neg h0] at hf
  by_cases h4 : pc = 4
  · subst h4; simp only [if_true, if_false, reduceIte, ↓reduceIte] at hf; exact sb_1_openPlaces_4 l p e s m args below meth c Q D aC ad base K X RT ls st h z hf
  rw [if_neg h4] at hf
  exact hf.elim
abbrev cb_10_joined : ByteArray := prog_1_method_29_code
abbrev yy_10_joined : MethodName := ⟨"SwipedStripe", "joined", "(I)I"⟩
def bb_10_joined_80 (K : jw_K) (J : Nat → jw_S) : jw_S := xo_al 0 (xo_gf 10 9 (xo_il 2 (xo_cv 1 cc_1_disputedPlaces 2 (xo_ri 0 0 K))))
def bb_10_joined_71 (K : jw_K) (J : Nat → jw_S) : jw_S := xo_al 0 (xo_gf 10 9 (xo_il 2 (xo_cv 1 cc_1_openPlaces 2 (xo_ri 0 0 K))))
def bb_10_joined_62 (K : jw_K) (J : Nat → jw_S) : jw_S := xo_al 0 (xo_gf 10 9 (xo_il 2 (xo_cv 1 cc_1_withPlaces 2 (xo_ri 0 0 K))))
def bb_10_joined_60 (K : jw_K) (J : Nat → jw_S) : jw_S := xo_il 2 (xo_ri 0 0 K)
def bb_10_joined_24 (K : jw_K) (J : Nat → jw_S) : jw_S := xo_al 0 (xo_gf 10 9 (xo_cv 1 cc_1_places 1 (xo_is 2 (xo_il 1 (xo_ts 0 2 ([fun K J => bb_10_joined_60 K J, fun K J => bb_10_joined_62 K J, fun K J => bb_10_joined_71 K J].map (fun f => f K J)) (bb_10_joined_80 K J))))))
def bb_10_joined_11 (K : jw_K) (J : Nat → jw_S) : jw_S := xo_al 0 (xo_gf 10 9 (xo_cv 1 cc_1_size 1 (xo_zne (bb_10_joined_24 K J) (xo_ci (-2) (xo_ri 0 0 K)))))
def bb_10_joined_9 (K : jw_K) (J : Nat → jw_S) : jw_S := xo_ci (-1) (xo_ri 0 0 K)
def bb_10_joined_0 (K : jw_K) (J : Nat → jw_S) : jw_S := xo_il 1 (xo_zlt (bb_10_joined_9 K J) (xo_il 1 (xo_ci 3 (xo_cle (bb_10_joined_11 K J) (bb_10_joined_9 K J)))))
def qq_10_joined (K : jw_K) (pc : Nat) (J : Nat → jw_S) : jw_S := if pc = 0 then bb_10_joined_0 K J else fun _ _ _ _ => False
def cc_10_joined : jw_T := jw_C 3 qq_10_joined
theorem sb_10_joined_80 (l : Launch) : jo_Ok l cb_10_joined 3 "SwipedStripe" "joined" jw_ro { frames := 5, cells := 0, slots := 0, locals := 117 } (some .int) 0 0 bb_10_joined_80 80 := (jo_aln (i := 0) (j := 0) (by decide +kernel) rfl (jo_gf (j := 9) jw_F10 (by decide) kw_263 (by decide +kernel) (jo_iln (i := 2) (j := 2) (by decide +kernel) rfl (jo_cv (n := 1) (ss_1_disputedPlaces l) kw_947 kw_10 kw_944 kw_945 jw_F1 kw_946 ⟨by decide, by decide, by decide +kernel⟩ ⟨by decide, by decide⟩ (fun _ _ h => h) ⟨rfl, rfl⟩ (by decide +kernel) (jo_ri rfl (by decide +kernel))))))
theorem sb_10_joined_71 (l : Launch) : jo_Ok l cb_10_joined 3 "SwipedStripe" "joined" jw_ro { frames := 5, cells := 0, slots := 0, locals := 117 } (some .int) 0 0 bb_10_joined_71 71 := (jo_aln (i := 0) (j := 0) (by decide +kernel) rfl (jo_gf (j := 9) jw_F10 (by decide) kw_263 (by decide +kernel) (jo_iln (i := 2) (j := 2) (by decide +kernel) rfl (jo_cv (n := 1) (ss_1_openPlaces l) kw_925 kw_10 kw_922 kw_923 jw_F1 kw_924 ⟨by decide, by decide, by decide +kernel⟩ ⟨by decide, by decide⟩ (fun _ _ h => h) ⟨rfl, rfl⟩ (by decide +kernel) (jo_ri rfl (by decide +kernel))))))
theorem sb_10_joined_62 (l : Launch) : jo_Ok l cb_10_joined 3 "SwipedStripe" "joined" jw_ro { frames := 5, cells := 0, slots := 0, locals := 117 } (some .int) 0 0 bb_10_joined_62 62 := (jo_aln (i := 0) (j := 0) (by decide +kernel) rfl (jo_gf (j := 9) jw_F10 (by decide) kw_263 (by decide +kernel) (jo_iln (i := 2) (j := 2) (by decide +kernel) rfl (jo_cv (n := 1) (ss_1_withPlaces l) kw_915 kw_10 kw_921 kw_913 jw_F1 kw_914 ⟨by decide, by decide, by decide +kernel⟩ ⟨by decide, by decide⟩ (fun _ _ h => h) ⟨rfl, rfl⟩ (by decide +kernel) (jo_ri rfl (by decide +kernel))))))
theorem sb_10_joined_60 (l : Launch) : jo_Ok l cb_10_joined 3 "SwipedStripe" "joined" jw_ro { frames := 5, cells := 0, slots := 0, locals := 117 } (some .int) 0 0 bb_10_joined_60 60 := (jo_iln (i := 2) (j := 2) (by decide +kernel) rfl (jo_ri rfl (by decide +kernel)))
theorem sb_10_joined_24 (l : Launch) : jo_Ok l cb_10_joined 3 "SwipedStripe" "joined" jw_ro { frames := 5, cells := 0, slots := 0, locals := 117 } (some .int) 0 0 bb_10_joined_24 24 := (jo_aln (i := 0) (j := 0) (by decide +kernel) rfl (jo_gf (j := 9) jw_F10 (by decide) kw_263 (by decide +kernel) (jo_cv (n := 0) (ss_1_places l) kw_911 kw_10 kw_908 kw_909 jw_F1 kw_910 ⟨by decide, by decide, by decide +kernel⟩ ⟨by decide, by decide⟩ (fun _ _ h => h) ⟨rfl, rfl⟩ (by decide +kernel) (jo_isn (i := 2) (j := 2) (by decide +kernel) rfl (by decide) (jo_iln (i := 1) (j := 1) (by decide +kernel) rfl (jo_ts (dflt := 47) (offs := #[27, 29, 38]) (len := 27) (tg := [60, 62, 71]) (dt := 80) (by decide +kernel) (by decide) (by decide +kernel) (by decide) rfl (sb_10_joined_80 l) (fun i q f h1 h2 => by
    match i, h1, h2 with
    | 0, h1, h2 => cases h1; cases h2; exact (sb_10_joined_60 l)
    | 1, h1, h2 => cases h1; cases h2; exact (sb_10_joined_62 l)
    | 2, h1, h2 => cases h1; cases h2; exact (sb_10_joined_71 l)
    | i + 3, h1, h2 => simp at h1)))))))
theorem sb_10_joined_11 (l : Launch) : jo_Ok l cb_10_joined 3 "SwipedStripe" "joined" jw_ro { frames := 5, cells := 0, slots := 0, locals := 117 } (some .int) 0 0 bb_10_joined_11 11 := (jo_aln (i := 0) (j := 0) (by decide +kernel) rfl (jo_gf (j := 9) jw_F10 (by decide) kw_263 (by decide +kernel) (jo_cv (n := 0) (ss_1_size l) kw_887 kw_10 kw_884 kw_885 jw_F1 kw_886 ⟨by decide, by decide, by decide +kernel⟩ ⟨by decide, by decide⟩ (fun _ _ h => h) ⟨rfl, rfl⟩ (by decide +kernel) (jo_zne (off := 6) (tgt := 24) (by decide +kernel) (by decide) (sb_10_joined_24 l) (jo_bpi (n := -2) (by decide +kernel) (by decide) (jo_ri rfl (by decide +kernel)))))))
theorem sb_10_joined_9 (l : Launch) : jo_Ok l cb_10_joined 3 "SwipedStripe" "joined" jw_ro { frames := 5, cells := 0, slots := 0, locals := 117 } (some .int) 0 0 bb_10_joined_9 9 := (jo_ici (n := -1) (by decide +kernel) (by decide) (jo_ri rfl (by decide +kernel)))
theorem sb_10_joined_0 (l : Launch) : jo_Ok l cb_10_joined 3 "SwipedStripe" "joined" jw_ro { frames := 5, cells := 0, slots := 0, locals := 117 } (some .int) 0 0 bb_10_joined_0 0 := (jo_iln (i := 1) (j := 1) (by decide +kernel) rfl (jo_zlt (off := 8) (tgt := 9) (by decide +kernel) (by decide) (sb_10_joined_9 l) (jo_iln (i := 1) (j := 1) (by decide +kernel) rfl (jo_ici (n := 3) (by decide +kernel) (by decide) (jo_cle (off := 5) (tgt := 11) (by decide +kernel) (by decide) (sb_10_joined_11 l) (sb_10_joined_9 l))))))
theorem ss_10_joined (l : Launch) : jw_Met l yy_10_joined cb_10_joined 3 (some .int) { frames := 5, cells := 0, slots := 0, locals := 117 } cc_10_joined := by
  refine jw_met (by decide) (fun pc => ?_)
  intro p e s m args below meth c Q D aC ad base K X RT ls st h z hf
  unfold qq_10_joined at hf
  by_cases h0 : pc = 0
  · subst h0; simp only [if_true, if_false, reduceIte, ↓reduceIte] at hf; exact sb_10_joined_0 l p e s m args below meth c Q D aC ad base K X RT ls st h z hf
  rw [if_neg h0] at hf
  exact hf.elim
abbrev cb_10_findsValues : ByteArray := prog_1_method_40_code
abbrev yy_10_findsValues : MethodName := ⟨"SwipedStripe", "findsValues", "()Z"⟩
def bb_10_findsValues_12 (K : jw_K) (J : Nat → jw_S) : jw_S := xo_al 0 (xo_cv 10 cc_10_look 1 (xo_al 0 (xo_gf 10 7 (xo_cv 2 cc_2_isWhole 1 (xo_rz 0 0 K)))))
def bb_10_findsValues_0 (K : jw_K) (J : Nat → jw_S) : jw_S := xo_al 0 (xo_gf 10 5 (xo_cv 4 cc_4_isEmpty 1 (xo_zeq (bb_10_findsValues_12 K J) (xo_ci 0 (xo_rz 0 0 K)))))
def qq_10_findsValues (K : jw_K) (pc : Nat) (J : Nat → jw_S) : jw_S := if pc = 0 then bb_10_findsValues_0 K J else fun _ _ _ _ => False
def cc_10_findsValues : jw_T := jw_C 1 qq_10_findsValues
theorem sb_10_findsValues_12 (l : Launch) : jo_Ok l cb_10_findsValues 1 "SwipedStripe" "findsValues" jw_ro { frames := 5, cells := 0, slots := 0, locals := 113 } (some .boolean) 0 0 bb_10_findsValues_12 12 := (jo_aln (i := 0) (j := 0) (by decide +kernel) rfl (jo_cv (n := 0) (ss_10_look l) kw_689 kw_1 kw_686 kw_688 jw_F10 kp_16 ⟨by decide, by decide, by decide +kernel⟩ ⟨by decide, by decide⟩ (fun _ _ h => h) ⟨rfl, rfl⟩ (by decide +kernel) (jo_aln (i := 0) (j := 0) (by decide +kernel) rfl (jo_gf (j := 7) jw_F10 (by decide) kw_261 (by decide +kernel) (jo_cv (n := 0) (ss_2_isWhole l) kw_740 kw_8 kw_737 kw_738 jw_F2 kw_739 ⟨by decide, by decide, by decide +kernel⟩ ⟨by decide, by decide⟩ (fun _ _ h => h) ⟨rfl, rfl⟩ (by decide +kernel) (jo_rz rfl (by decide +kernel)))))))
theorem sb_10_findsValues_0 (l : Launch) : jo_Ok l cb_10_findsValues 1 "SwipedStripe" "findsValues" jw_ro { frames := 5, cells := 0, slots := 0, locals := 113 } (some .boolean) 0 0 bb_10_findsValues_0 0 := (jo_aln (i := 0) (j := 0) (by decide +kernel) rfl (jo_gf (j := 5) jw_F10 (by decide) kw_259 (by decide +kernel) (jo_cv (n := 0) (ss_4_isEmpty l) kw_633 kw_3 kw_630 kw_631 jw_F4 kw_632 ⟨by decide, by decide, by decide +kernel⟩ ⟨by decide, by decide⟩ (fun _ _ h => h) ⟨rfl, rfl⟩ (by decide +kernel) (jo_zeq (off := 5) (tgt := 12) (by decide +kernel) (by decide) (sb_10_findsValues_12 l) (jo_ici (n := 0) (by decide +kernel) (by decide) (jo_rz rfl (by decide +kernel)))))))
theorem ss_10_findsValues (l : Launch) : jw_Met l yy_10_findsValues cb_10_findsValues 1 (some .boolean) { frames := 5, cells := 0, slots := 0, locals := 113 } cc_10_findsValues := by
  refine jw_met (by decide) (fun pc => ?_)
  intro p e s m args below meth c Q D aC ad base K X RT ls st h z hf
  unfold qq_10_findsValues at hf
  by_cases h0 : pc = 0
  · subst h0; simp only [if_true, if_false, reduceIte, ↓reduceIte] at hf; exact sb_10_findsValues_0 l p e s m args below meth c Q D aC ad base K X RT ls st h z hf
  rw [if_neg h0] at hf
  exact hf.elim
abbrev cb_2_valueAt : ByteArray := prog_4_method_6_code
abbrev yy_2_valueAt : MethodName := ⟨"SwipedStripe$Finding", "valueAt", "(I)I"⟩
def bb_2_valueAt_0 (K : jw_K) (J : Nat → jw_S) : jw_S := xo_al 0 (xo_gf 2 0 (xo_il 1 (xo_ci 1 (xo_iadd (xo_cv 4 cc_4_at 2 (xo_ri 0 0 K))))))
def qq_2_valueAt (K : jw_K) (pc : Nat) (J : Nat → jw_S) : jw_S := if pc = 0 then bb_2_valueAt_0 K J else fun _ _ _ _ => False
def cc_2_valueAt : jw_T := jw_C 2 qq_2_valueAt
theorem sb_2_valueAt_0 (l : Launch) : jo_Ok l cb_2_valueAt 2 "SwipedStripe$Finding" "valueAt" jw_ro { frames := 1, cells := 0, slots := 0, locals := 21 } (some .int) 0 0 bb_2_valueAt_0 0 := (jo_aln (i := 0) (j := 0) (by decide +kernel) rfl (jo_gf (j := 0) jw_F2 (by decide) kw_160 (by decide +kernel) (jo_iln (i := 1) (j := 1) (by decide +kernel) rfl (jo_ici (n := 1) (by decide +kernel) (by decide) (jo_iadd (by decide +kernel) (jo_cv (n := 1) (ss_4_at l) kw_330 kw_3 kw_708 kw_328 jw_F4 kw_329 ⟨by decide, by decide, by decide +kernel⟩ ⟨by decide, by decide⟩ (fun _ _ h => h) ⟨rfl, rfl⟩ (by decide +kernel) (jo_ri rfl (by decide +kernel))))))))
theorem ss_2_valueAt (l : Launch) : jw_Met l yy_2_valueAt cb_2_valueAt 2 (some .int) { frames := 1, cells := 0, slots := 0, locals := 21 } cc_2_valueAt := by
  refine jw_met (by decide) (fun pc => ?_)
  intro p e s m args below meth c Q D aC ad base K X RT ls st h z hf
  unfold qq_2_valueAt at hf
  by_cases h0 : pc = 0
  · subst h0; simp only [if_true, if_false, reduceIte, ↓reduceIte] at hf; exact sb_2_valueAt_0 l p e s m args below meth c Q D aC ad base K X RT ls st h z hf
  rw [if_neg h0] at hf
  exact hf.elim
abbrev cb_2_valueIsSound : ByteArray := prog_4_method_7_code
abbrev yy_2_valueIsSound : MethodName := ⟨"SwipedStripe$Finding", "valueIsSound", "(I)Z"⟩
def bb_2_valueIsSound_19 (K : jw_K) (J : Nat → jw_S) : jw_S := xo_rz 0 0 K
def bb_2_valueIsSound_18 (K : jw_K) (J : Nat → jw_S) : jw_S := xo_ci 0 (bb_2_valueIsSound_19 K J)
def bb_2_valueIsSound_0 (K : jw_K) (J : Nat → jw_S) : jw_S := xo_al 0 (xo_gf 2 1 (xo_il 1 (xo_ci 1 (xo_iadd (xo_cv 4 cc_4_at 2 (xo_ci 1 (xo_cne (bb_2_valueIsSound_18 K J) (xo_ci 1 (bb_2_valueIsSound_19 K J)))))))))
def qq_2_valueIsSound (K : jw_K) (pc : Nat) (J : Nat → jw_S) : jw_S := if pc = 0 then bb_2_valueIsSound_0 K J else fun _ _ _ _ => False
def cc_2_valueIsSound : jw_T := jw_C 2 qq_2_valueIsSound
theorem sb_2_valueIsSound_19 (l : Launch) : jo_Ok l cb_2_valueIsSound 2 "SwipedStripe$Finding" "valueIsSound" jw_ro { frames := 1, cells := 0, slots := 0, locals := 21 } (some .boolean) 0 0 bb_2_valueIsSound_19 19 := (jo_rz rfl (by decide +kernel))
theorem sb_2_valueIsSound_18 (l : Launch) : jo_Ok l cb_2_valueIsSound 2 "SwipedStripe$Finding" "valueIsSound" jw_ro { frames := 1, cells := 0, slots := 0, locals := 21 } (some .boolean) 0 0 bb_2_valueIsSound_18 18 := (jo_ici (n := 0) (by decide +kernel) (by decide) (sb_2_valueIsSound_19 l))
theorem sb_2_valueIsSound_0 (l : Launch) : jo_Ok l cb_2_valueIsSound 2 "SwipedStripe$Finding" "valueIsSound" jw_ro { frames := 1, cells := 0, slots := 0, locals := 21 } (some .boolean) 0 0 bb_2_valueIsSound_0 0 := (jo_aln (i := 0) (j := 0) (by decide +kernel) rfl (jo_gf (j := 1) jw_F2 (by decide) kw_161 (by decide +kernel) (jo_iln (i := 1) (j := 1) (by decide +kernel) rfl (jo_ici (n := 1) (by decide +kernel) (by decide) (jo_iadd (by decide +kernel) (jo_cv (n := 1) (ss_4_at l) kw_330 kw_3 kw_708 kw_328 jw_F4 kw_329 ⟨by decide, by decide, by decide +kernel⟩ ⟨by decide, by decide⟩ (fun _ _ h => h) ⟨rfl, rfl⟩ (by decide +kernel) (jo_ici (n := 1) (by decide +kernel) (by decide) (jo_cne (off := 7) (tgt := 18) (by decide +kernel) (by decide) (sb_2_valueIsSound_18 l) (jo_ici (n := 1) (by decide +kernel) (by decide) (jo_goto (off := 4) (tgt := 19) (by decide +kernel) (by decide) (sb_2_valueIsSound_19 l)))))))))))
theorem ss_2_valueIsSound (l : Launch) : jw_Met l yy_2_valueIsSound cb_2_valueIsSound 2 (some .boolean) { frames := 1, cells := 0, slots := 0, locals := 21 } cc_2_valueIsSound := by
  refine jw_met (by decide) (fun pc => ?_)
  intro p e s m args below meth c Q D aC ad base K X RT ls st h z hf
  unfold qq_2_valueIsSound at hf
  by_cases h0 : pc = 0
  · subst h0; simp only [if_true, if_false, reduceIte, ↓reduceIte] at hf; exact sb_2_valueIsSound_0 l p e s m args below meth c Q D aC ad base K X RT ls st h z hf
  rw [if_neg h0] at hf
  exact hf.elim
abbrev cb_0_take : ByteArray := prog_2_method_2_code
abbrev yy_0_take : MethodName := ⟨"SwipedStripe$Draw", "take", "(LSwipedStripe$Finding;)V"⟩
def bb_0_take_62 (K : jw_K) (J : Nat → jw_S) : jw_S := xo_rv 0 0 K
def bb_0_take_56 (K : jw_K) (J : Nat → jw_S) : jw_S := xo_ic 2 1 (J 15)
def bb_0_take_15 (K : jw_K) (J : Nat → jw_S) : jw_S := xo_il 2 (xo_al 1 (xo_cv 2 cc_2_values 1 (xo_cge (bb_0_take_62 K J) (xo_al 0 (xo_gf 0 0 (xo_al 1 (xo_il 2 (xo_cv 2 cc_2_valueAt 2 (xo_cv 4 cc_4_push 2 (xo_pop (xo_al 1 (xo_il 2 (xo_cv 2 cc_2_valueIsSound 2 (xo_zeq (bb_0_take_56 K J) (xo_al 0 (xo_dup (xo_gf 0 1 (xo_ci 1 (xo_il 2 (xo_ishl (xo_ior (xo_pfi 0 1 (bb_0_take_56 K J)))))))))))))))))))))))
def bb_0_take_0 (K : jw_K) (J : Nat → jw_S) : jw_S := xo_al 0 (xo_gf 0 0 (xo_ci 0 (xo_cv 4 cc_4_cut 2 (xo_al 0 (xo_ci 0 (xo_pfi 0 1 (xo_ci 0 (xo_is 2 (J 15)))))))))
def qq_0_take (K : jw_K) (pc : Nat) (J : Nat → jw_S) : jw_S := if pc = 0 then bb_0_take_0 K J else if pc = 15 then bb_0_take_15 K J else fun _ _ _ _ => False
def cc_0_take : jw_T := jw_C 3 qq_0_take
theorem sb_0_take_62 (l : Launch) : jo_Ok l cb_0_take 3 "SwipedStripe$Draw" "take" jw_ro { frames := 2, cells := 0, slots := 0, locals := 42 } none 0 0 bb_0_take_62 62 := (jo_rv rfl (by decide +kernel))
theorem sb_0_take_56 (l : Launch) : jo_Ok l cb_0_take 3 "SwipedStripe$Draw" "take" jw_ro { frames := 2, cells := 0, slots := 0, locals := 42 } none 0 0 bb_0_take_56 56 := (jo_ic (n0 := 1) (by decide +kernel) (by decide) (by decide) (jo_goto (off := -44) (tgt := 15) (by decide +kernel) (by decide) (jo_J)))
theorem sb_0_take_15 (l : Launch) : jo_Ok l cb_0_take 3 "SwipedStripe$Draw" "take" jw_ro { frames := 2, cells := 0, slots := 0, locals := 42 } none 0 0 bb_0_take_15 15 := (jo_iln (i := 2) (j := 2) (by decide +kernel) rfl (jo_aln (i := 1) (j := 1) (by decide +kernel) rfl (jo_cv (n := 0) (ss_2_values l) kw_744 kw_8 kw_897 kw_742 jw_F2 kw_743 ⟨by decide, by decide, by decide +kernel⟩ ⟨by decide, by decide⟩ (fun _ _ h => h) ⟨rfl, rfl⟩ (by decide +kernel) (jo_cge (off := 42) (tgt := 62) (by decide +kernel) (by decide) (sb_0_take_62 l) (jo_aln (i := 0) (j := 0) (by decide +kernel) rfl (jo_gf (j := 0) jw_F0 (by decide) kw_224 (by decide +kernel) (jo_aln (i := 1) (j := 1) (by decide +kernel) rfl (jo_iln (i := 2) (j := 2) (by decide +kernel) rfl (jo_cv (n := 1) (ss_2_valueAt l) kw_761 kw_8 kw_898 kw_759 jw_F2 kw_760 ⟨by decide, by decide, by decide +kernel⟩ ⟨by decide, by decide⟩ (fun _ _ h => h) ⟨rfl, rfl⟩ (by decide +kernel) (jo_cv (n := 1) (ss_4_push l) kw_305 kw_3 kw_899 kw_303 jw_F4 kw_304 ⟨by decide, by decide, by decide +kernel⟩ ⟨by decide, by decide⟩ (fun _ _ h => h) ⟨rfl, rfl⟩ (by decide +kernel) (jo_pop (by decide +kernel) (jo_aln (i := 1) (j := 1) (by decide +kernel) rfl (jo_iln (i := 2) (j := 2) (by decide +kernel) rfl (jo_cv (n := 1) (ss_2_valueIsSound l) kw_903 kw_8 kw_900 kw_901 jw_F2 kw_902 ⟨by decide, by decide, by decide +kernel⟩ ⟨by decide, by decide⟩ (fun _ _ h => h) ⟨rfl, rfl⟩ (by decide +kernel) (jo_zeq (off := 15) (tgt := 56) (by decide +kernel) (by decide) (sb_0_take_56 l) (jo_aln (i := 0) (j := 0) (by decide +kernel) rfl (jo_dup (by decide +kernel) (jo_gf (j := 1) jw_F0 (by decide) kw_225 (by decide +kernel) (jo_ici (n := 1) (by decide +kernel) (by decide) (jo_iln (i := 2) (j := 2) (by decide +kernel) rfl (jo_ishl (by decide +kernel) (jo_ior (by decide +kernel) (jo_pfi (j := 1) jw_F0 (by decide) kw_225 rfl rfl (by decide +kernel) (sb_0_take_56 l))))))))))))))))))))))))
theorem sb_0_take_0 (l : Launch) : jo_Ok l cb_0_take 3 "SwipedStripe$Draw" "take" jw_ro { frames := 2, cells := 0, slots := 0, locals := 42 } none 0 0 bb_0_take_0 0 := (jo_aln (i := 0) (j := 0) (by decide +kernel) rfl (jo_gf (j := 0) jw_F0 (by decide) kw_224 (by decide +kernel) (jo_ici (n := 0) (by decide +kernel) (by decide) (jo_cv (n := 1) (ss_4_cut l) kw_313 kw_3 kw_896 kw_311 jw_F4 kw_312 ⟨by decide, by decide, by decide +kernel⟩ ⟨by decide, by decide⟩ (fun _ _ h => h) ⟨rfl, rfl⟩ (by decide +kernel) (jo_aln (i := 0) (j := 0) (by decide +kernel) rfl (jo_ici (n := 0) (by decide +kernel) (by decide) (jo_pfi (j := 1) jw_F0 (by decide) kw_225 rfl rfl (by decide +kernel) (jo_ici (n := 0) (by decide +kernel) (by decide) (jo_isn (i := 2) (j := 2) (by decide +kernel) rfl (by decide) jo_J)))))))))
theorem ss_0_take (l : Launch) : jw_Met l yy_0_take cb_0_take 3 none { frames := 2, cells := 0, slots := 0, locals := 42 } cc_0_take := by
  refine jw_met (by decide) (fun pc => ?_)
  intro p e s m args below meth c Q D aC ad base K X RT ls st h z hf
  unfold qq_0_take at hf
  by_cases h0 : pc = 0
  · subst h0; simp only [if_true, if_false, reduceIte, ↓reduceIte] at hf; exact sb_0_take_0 l p e s m args below meth c Q D aC ad base K X RT ls st h z hf
  rw [if_neg h0] at hf
  by_cases h15 : pc = 15
  · subst h15; simp only [if_true, if_false, reduceIte, ↓reduceIte] at hf; exact sb_0_take_15 l p e s m args below meth c Q D aC ad base K X RT ls st h z hf
  rw [if_neg h15] at hf
  exact hf.elim
abbrev cb_1_take : ByteArray := prog_3_method_4_code
abbrev yy_1_take : MethodName := ⟨"SwipedStripe$Draws", "take", "(LSwipedStripe$Finding;)V"⟩
def bb_1_take_35 (K : jw_K) (J : Nat → jw_S) : jw_S := xo_rv 0 0 K
def bb_1_take_0 (K : jw_K) (J : Nat → jw_S) : jw_S := xo_al 0 (xo_gf 1 1 (xo_al 0 (xo_gf 1 0 (xo_alen jw_ro (xo_cge (bb_1_take_35 K J) (xo_al 0 (xo_gf 1 0 (xo_al 0 (xo_gf 1 1 (xo_aald (xo_al 1 (xo_cv 0 cc_0_take 2 (xo_al 0 (xo_dup (xo_gf 1 1 (xo_ci 1 (xo_iadd (xo_pfi 1 1 (bb_1_take_35 K J)))))))))))))))))))
def qq_1_take (K : jw_K) (pc : Nat) (J : Nat → jw_S) : jw_S := if pc = 0 then bb_1_take_0 K J else fun _ _ _ _ => False
def cc_1_take : jw_T := jw_C 2 qq_1_take
theorem sb_1_take_35 (l : Launch) : jo_Ok l cb_1_take 2 "SwipedStripe$Draws" "take" jw_ro { frames := 3, cells := 0, slots := 0, locals := 64 } none 0 0 bb_1_take_35 35 := (jo_rv rfl (by decide +kernel))
theorem sb_1_take_0 (l : Launch) : jo_Ok l cb_1_take 2 "SwipedStripe$Draws" "take" jw_ro { frames := 3, cells := 0, slots := 0, locals := 64 } none 0 0 bb_1_take_0 0 := (jo_aln (i := 0) (j := 0) (by decide +kernel) rfl (jo_gf (j := 1) jw_F1 (by decide) kw_232 (by decide +kernel) (jo_aln (i := 0) (j := 0) (by decide +kernel) rfl (jo_gf (j := 0) jw_F1 (by decide) kw_231 (by decide +kernel) (jo_alen (by decide +kernel) (jo_cge (off := 26) (tgt := 35) (by decide +kernel) (by decide) (sb_1_take_35 l) (jo_aln (i := 0) (j := 0) (by decide +kernel) rfl (jo_gf (j := 0) jw_F1 (by decide) kw_231 (by decide +kernel) (jo_aln (i := 0) (j := 0) (by decide +kernel) rfl (jo_gf (j := 1) jw_F1 (by decide) kw_232 (by decide +kernel) (jo_aald (by decide +kernel) (jo_aln (i := 1) (j := 1) (by decide +kernel) rfl (jo_cv (n := 1) (ss_0_take l) kw_895 kw_11 kw_892 kw_893 jw_F0 kw_894 ⟨by decide, by decide, by decide +kernel⟩ ⟨by decide, by decide⟩ (fun _ _ h => h) ⟨rfl, rfl⟩ (by decide +kernel) (jo_aln (i := 0) (j := 0) (by decide +kernel) rfl (jo_dup (by decide +kernel) (jo_gf (j := 1) jw_F1 (by decide) kw_232 (by decide +kernel) (jo_ici (n := 1) (by decide +kernel) (by decide) (jo_iadd (by decide +kernel) (jo_pfi (j := 1) jw_F1 (by decide) kw_232 rfl rfl (by decide +kernel) (sb_1_take_35 l))))))))))))))))))))
theorem ss_1_take (l : Launch) : jw_Met l yy_1_take cb_1_take 2 none { frames := 3, cells := 0, slots := 0, locals := 64 } cc_1_take := by
  refine jw_met (by decide) (fun pc => ?_)
  intro p e s m args below meth c Q D aC ad base K X RT ls st h z hf
  unfold qq_1_take at hf
  by_cases h0 : pc = 0
  · subst h0; simp only [if_true, if_false, reduceIte, ↓reduceIte] at hf; exact sb_1_take_0 l p e s m args below meth c Q D aC ad base K X RT ls st h z hf
  rw [if_neg h0] at hf
  exact hf.elim
abbrev cb_10_keep : ByteArray := prog_1_method_28_code
abbrev yy_10_keep : MethodName := ⟨"SwipedStripe", "keep", "()I"⟩
def bb_10_keep_25 (K : jw_K) (J : Nat → jw_S) : jw_S := xo_al 0 (xo_gf 10 9 (xo_al 0 (xo_gf 10 7 (xo_cv 1 cc_1_take 2 (xo_al 0 (xo_gf 10 9 (xo_cv 1 cc_1_size 1 (xo_ci 1 (xo_isub (xo_ri 0 0 K))))))))))
def bb_10_keep_10 (K : jw_K) (J : Nat → jw_S) : jw_S := xo_al 0 (xo_gf 10 9 (xo_cv 1 cc_1_size 1 (xo_ci 6 (xo_clt (bb_10_keep_25 K J) (xo_ci (-3) (xo_ri 0 0 K))))))
def bb_10_keep_0 (K : jw_K) (J : Nat → jw_S) : jw_S := xo_al 0 (xo_cv 10 cc_10_findsValues 1 (xo_zne (bb_10_keep_10 K J) (xo_ci (-2) (xo_ri 0 0 K))))
def qq_10_keep (K : jw_K) (pc : Nat) (J : Nat → jw_S) : jw_S := if pc = 0 then bb_10_keep_0 K J else fun _ _ _ _ => False
def cc_10_keep : jw_T := jw_C 1 qq_10_keep
theorem sb_10_keep_25 (l : Launch) : jo_Ok l cb_10_keep 1 "SwipedStripe" "keep" jw_ro { frames := 6, cells := 0, slots := 0, locals := 133 } (some .int) 0 0 bb_10_keep_25 25 := (jo_aln (i := 0) (j := 0) (by decide +kernel) rfl (jo_gf (j := 9) jw_F10 (by decide) kw_263 (by decide +kernel) (jo_aln (i := 0) (j := 0) (by decide +kernel) rfl (jo_gf (j := 7) jw_F10 (by decide) kw_261 (by decide +kernel) (jo_cv (n := 1) (ss_1_take l) kw_891 kw_10 kw_888 kw_889 jw_F1 kw_890 ⟨by decide, by decide, by decide +kernel⟩ ⟨by decide, by decide⟩ (fun _ _ h => h) ⟨rfl, rfl⟩ (by decide +kernel) (jo_aln (i := 0) (j := 0) (by decide +kernel) rfl (jo_gf (j := 9) jw_F10 (by decide) kw_263 (by decide +kernel) (jo_cv (n := 0) (ss_1_size l) kw_887 kw_10 kw_884 kw_885 jw_F1 kw_886 ⟨by decide, by decide, by decide +kernel⟩ ⟨by decide, by decide⟩ (fun _ _ h => h) ⟨rfl, rfl⟩ (by decide +kernel) (jo_ici (n := 1) (by decide +kernel) (by decide) (jo_isub (by decide +kernel) (jo_ri rfl (by decide +kernel))))))))))))
theorem sb_10_keep_10 (l : Launch) : jo_Ok l cb_10_keep 1 "SwipedStripe" "keep" jw_ro { frames := 6, cells := 0, slots := 0, locals := 133 } (some .int) 0 0 bb_10_keep_10 10 := (jo_aln (i := 0) (j := 0) (by decide +kernel) rfl (jo_gf (j := 9) jw_F10 (by decide) kw_263 (by decide +kernel) (jo_cv (n := 0) (ss_1_size l) kw_887 kw_10 kw_884 kw_885 jw_F1 kw_886 ⟨by decide, by decide, by decide +kernel⟩ ⟨by decide, by decide⟩ (fun _ _ h => h) ⟨rfl, rfl⟩ (by decide +kernel) (jo_bpi (n := 6) (by decide +kernel) (by decide) (jo_clt (off := 6) (tgt := 25) (by decide +kernel) (by decide) (sb_10_keep_25 l) (jo_bpi (n := -3) (by decide +kernel) (by decide) (jo_ri rfl (by decide +kernel))))))))
theorem sb_10_keep_0 (l : Launch) : jo_Ok l cb_10_keep 1 "SwipedStripe" "keep" jw_ro { frames := 6, cells := 0, slots := 0, locals := 133 } (some .int) 0 0 bb_10_keep_0 0 := (jo_aln (i := 0) (j := 0) (by decide +kernel) rfl (jo_cv (n := 0) (ss_10_findsValues l) kw_757 kw_1 kw_754 kw_756 jw_F10 kp_22 ⟨by decide, by decide, by decide +kernel⟩ ⟨by decide, by decide⟩ (fun _ _ h => h) ⟨rfl, rfl⟩ (by decide +kernel) (jo_zne (off := 6) (tgt := 10) (by decide +kernel) (by decide) (sb_10_keep_10 l) (jo_bpi (n := -2) (by decide +kernel) (by decide) (jo_ri rfl (by decide +kernel))))))
theorem ss_10_keep (l : Launch) : jw_Met l yy_10_keep cb_10_keep 1 (some .int) { frames := 6, cells := 0, slots := 0, locals := 133 } cc_10_keep := by
  refine jw_met (by decide) (fun pc => ?_)
  intro p e s m args below meth c Q D aC ad base K X RT ls st h z hf
  unfold qq_10_keep at hf
  by_cases h0 : pc = 0
  · subst h0; simp only [if_true, if_false, reduceIte, ↓reduceIte] at hf; exact sb_10_keep_0 l p e s m args below meth c Q D aC ad base K X RT ls st h z hf
  rw [if_neg h0] at hf
  exact hf.elim
abbrev cb_10_isSheet : ByteArray := prog_1_method_45_code
abbrev yy_10_isSheet : MethodName := ⟨"SwipedStripe", "isSheet", "(I)Z"⟩
def bb_10_isSheet_14 (K : jw_K) (J : Nat → jw_S) : jw_S := xo_rz 0 0 K
def bb_10_isSheet_13 (K : jw_K) (J : Nat → jw_S) : jw_S := xo_ci 0 (bb_10_isSheet_14 K J)
def bb_10_isSheet_0 (K : jw_K) (J : Nat → jw_S) : jw_S := xo_il 0 (xo_zlt (bb_10_isSheet_13 K J) (xo_il 0 (xo_ci 4 (xo_cge (bb_10_isSheet_13 K J) (xo_ci 1 (bb_10_isSheet_14 K J))))))
def qq_10_isSheet (K : jw_K) (pc : Nat) (J : Nat → jw_S) : jw_S := if pc = 0 then bb_10_isSheet_0 K J else fun _ _ _ _ => False
def cc_10_isSheet : jw_T := jw_C 1 qq_10_isSheet
theorem sb_10_isSheet_14 (l : Launch) : jo_Ok l cb_10_isSheet 1 "SwipedStripe" "isSheet" jw_ro { frames := 0, cells := 0, slots := 0, locals := 0 } (some .boolean) 0 0 bb_10_isSheet_14 14 := (jo_rz rfl (by decide +kernel))
theorem sb_10_isSheet_13 (l : Launch) : jo_Ok l cb_10_isSheet 1 "SwipedStripe" "isSheet" jw_ro { frames := 0, cells := 0, slots := 0, locals := 0 } (some .boolean) 0 0 bb_10_isSheet_13 13 := (jo_ici (n := 0) (by decide +kernel) (by decide) (sb_10_isSheet_14 l))
theorem sb_10_isSheet_0 (l : Launch) : jo_Ok l cb_10_isSheet 1 "SwipedStripe" "isSheet" jw_ro { frames := 0, cells := 0, slots := 0, locals := 0 } (some .boolean) 0 0 bb_10_isSheet_0 0 := (jo_iln (i := 0) (j := 0) (by decide +kernel) rfl (jo_zlt (off := 12) (tgt := 13) (by decide +kernel) (by decide) (sb_10_isSheet_13 l) (jo_iln (i := 0) (j := 0) (by decide +kernel) rfl (jo_ici (n := 4) (by decide +kernel) (by decide) (jo_cge (off := 7) (tgt := 13) (by decide +kernel) (by decide) (sb_10_isSheet_13 l) (jo_ici (n := 1) (by decide +kernel) (by decide) (jo_goto (off := 4) (tgt := 14) (by decide +kernel) (by decide) (sb_10_isSheet_14 l))))))))
theorem ss_10_isSheet (l : Launch) : jw_Met l yy_10_isSheet cb_10_isSheet 1 (some .boolean) { frames := 0, cells := 0, slots := 0, locals := 0 } cc_10_isSheet := by
  refine jw_met (by decide) (fun pc => ?_)
  intro p e s m args below meth c Q D aC ad base K X RT ls st h z hf
  unfold qq_10_isSheet at hf
  by_cases h0 : pc = 0
  · subst h0; simp only [if_true, if_false, reduceIte, ↓reduceIte] at hf; exact sb_10_isSheet_0 l p e s m args below meth c Q D aC ad base K X RT ls st h z hf
  rw [if_neg h0] at hf
  exact hf.elim
abbrev cb_6_faultAt : ByteArray := prog_8_method_5_code
abbrev yy_6_faultAt : MethodName := ⟨"SwipedStripe$Sheet", "faultAt", "(I)I"⟩
def bb_6_faultAt_25 (K : jw_K) (J : Nat → jw_S) : jw_S := xo_ri 0 0 K
def bb_6_faultAt_24 (K : jw_K) (J : Nat → jw_S) : jw_S := xo_ci 2 (bb_6_faultAt_25 K J)
def bb_6_faultAt_9 (K : jw_K) (J : Nat → jw_S) : jw_S := xo_al 0 (xo_gf 6 0 (xo_il 1 (xo_cv 4 cc_4_has 2 (xo_zeq (bb_6_faultAt_24 K J) (xo_ci 0 (bb_6_faultAt_25 K J))))))
def bb_6_faultAt_0 (K : jw_K) (J : Nat → jw_S) : jw_S := xo_al 0 (xo_cv 6 cc_6_isNothing 1 (xo_zeq (bb_6_faultAt_9 K J) (xo_ci 1 (xo_ri 0 0 K))))
def qq_6_faultAt (K : jw_K) (pc : Nat) (J : Nat → jw_S) : jw_S := if pc = 0 then bb_6_faultAt_0 K J else fun _ _ _ _ => False
def cc_6_faultAt : jw_T := jw_C 2 qq_6_faultAt
theorem sb_6_faultAt_25 (l : Launch) : jo_Ok l cb_6_faultAt 2 "SwipedStripe$Sheet" "faultAt" jw_ro { frames := 1, cells := 0, slots := 0, locals := 21 } (some .int) 0 0 bb_6_faultAt_25 25 := (jo_ri rfl (by decide +kernel))
theorem sb_6_faultAt_24 (l : Launch) : jo_Ok l cb_6_faultAt 2 "SwipedStripe$Sheet" "faultAt" jw_ro { frames := 1, cells := 0, slots := 0, locals := 21 } (some .int) 0 0 bb_6_faultAt_24 24 := (jo_ici (n := 2) (by decide +kernel) (by decide) (sb_6_faultAt_25 l))
theorem sb_6_faultAt_9 (l : Launch) : jo_Ok l cb_6_faultAt 2 "SwipedStripe$Sheet" "faultAt" jw_ro { frames := 1, cells := 0, slots := 0, locals := 21 } (some .int) 0 0 bb_6_faultAt_9 9 := (jo_aln (i := 0) (j := 0) (by decide +kernel) rfl (jo_gf (j := 0) jw_F6 (by decide) kw_247 (by decide +kernel) (jo_iln (i := 1) (j := 1) (by decide +kernel) rfl (jo_cv (n := 1) (ss_4_has l) kw_346 kw_3 kw_988 kw_344 jw_F4 kw_345 ⟨by decide, by decide, by decide +kernel⟩ ⟨by decide, by decide⟩ (fun _ _ h => h) ⟨rfl, rfl⟩ (by decide +kernel) (jo_zeq (off := 7) (tgt := 24) (by decide +kernel) (by decide) (sb_6_faultAt_24 l) (jo_ici (n := 0) (by decide +kernel) (by decide) (jo_goto (off := 4) (tgt := 25) (by decide +kernel) (by decide) (sb_6_faultAt_25 l))))))))
theorem sb_6_faultAt_0 (l : Launch) : jo_Ok l cb_6_faultAt 2 "SwipedStripe$Sheet" "faultAt" jw_ro { frames := 1, cells := 0, slots := 0, locals := 21 } (some .int) 0 0 bb_6_faultAt_0 0 := (jo_aln (i := 0) (j := 0) (by decide +kernel) rfl (jo_cv (n := 0) (ss_6_isNothing l) kw_987 kw_12 kw_984 kw_985 jw_F6 kw_986 ⟨by decide, by decide, by decide +kernel⟩ ⟨by decide, by decide⟩ (fun _ _ h => h) ⟨rfl, rfl⟩ (by decide +kernel) (jo_zeq (off := 5) (tgt := 9) (by decide +kernel) (by decide) (sb_6_faultAt_9 l) (jo_ici (n := 1) (by decide +kernel) (by decide) (jo_ri rfl (by decide +kernel))))))
theorem ss_6_faultAt (l : Launch) : jw_Met l yy_6_faultAt cb_6_faultAt 2 (some .int) { frames := 1, cells := 0, slots := 0, locals := 21 } cc_6_faultAt := by
  refine jw_met (by decide) (fun pc => ?_)
  intro p e s m args below meth c Q D aC ad base K X RT ls st h z hf
  unfold qq_6_faultAt at hf
  by_cases h0 : pc = 0
  · subst h0; simp only [if_true, if_false, reduceIte, ↓reduceIte] at hf; exact sb_6_faultAt_0 l p e s m args below meth c Q D aC ad base K X RT ls st h z hf
  rw [if_neg h0] at hf
  exact hf.elim
abbrev cb_6_set : ByteArray := prog_8_method_8_code
abbrev yy_6_set : MethodName := ⟨"SwipedStripe$Sheet", "set", "(II)V"⟩
def bb_6_set_42 (K : jw_K) (J : Nat → jw_S) : jw_S := xo_rv 0 0 K
def bb_6_set_39 (K : jw_K) (J : Nat → jw_S) : jw_S := xo_cv 4 cc_4_put 3 (bb_6_set_42 K J)
def bb_6_set_38 (K : jw_K) (J : Nat → jw_S) : jw_S := xo_il 2 (bb_6_set_39 K J)
def bb_6_set_20 (K : jw_K) (J : Nat → jw_S) : jw_S := xo_al 0 (xo_gf 6 0 (xo_il 1 (xo_al 0 (xo_gf 6 1 (xo_ci 1 (xo_cne (bb_6_set_38 K J) (xo_il 2 (xo_i2s (bb_6_set_39 K J)))))))))
def bb_6_set_0 (K : jw_K) (J : Nat → jw_S) : jw_S := xo_al 0 (xo_gf 6 1 (xo_zne (bb_6_set_20 K J) (xo_al 0 (xo_gf 6 0 (xo_il 1 (xo_il 2 (xo_i2b (xo_cv 4 cc_4_put 3 (bb_6_set_42 K J)))))))))
def qq_6_set (K : jw_K) (pc : Nat) (J : Nat → jw_S) : jw_S := if pc = 0 then bb_6_set_0 K J else fun _ _ _ _ => False
def cc_6_set : jw_T := jw_C 3 qq_6_set
theorem sb_6_set_42 (l : Launch) : jo_Ok l cb_6_set 3 "SwipedStripe$Sheet" "set" jw_ro { frames := 1, cells := 0, slots := 0, locals := 22 } none 0 0 bb_6_set_42 42 := (jo_rv rfl (by decide +kernel))
theorem sb_6_set_39 (l : Launch) : jo_Ok l cb_6_set 3 "SwipedStripe$Sheet" "set" jw_ro { frames := 1, cells := 0, slots := 0, locals := 22 } none 0 0 bb_6_set_39 39 := (jo_cv (n := 2) (ss_4_put l) kw_596 kw_3 kw_993 kw_594 jw_F4 kw_595 ⟨by decide, by decide, by decide +kernel⟩ ⟨by decide, by decide⟩ (fun _ _ h => h) ⟨rfl, rfl⟩ (by decide +kernel) (sb_6_set_42 l))
theorem sb_6_set_38 (l : Launch) : jo_Ok l cb_6_set 3 "SwipedStripe$Sheet" "set" jw_ro { frames := 1, cells := 0, slots := 0, locals := 22 } none 0 0 bb_6_set_38 38 := (jo_iln (i := 2) (j := 2) (by decide +kernel) rfl (sb_6_set_39 l))
theorem sb_6_set_20 (l : Launch) : jo_Ok l cb_6_set 3 "SwipedStripe$Sheet" "set" jw_ro { frames := 1, cells := 0, slots := 0, locals := 22 } none 0 0 bb_6_set_20 20 := (jo_aln (i := 0) (j := 0) (by decide +kernel) rfl (jo_gf (j := 0) jw_F6 (by decide) kw_247 (by decide +kernel) (jo_iln (i := 1) (j := 1) (by decide +kernel) rfl (jo_aln (i := 0) (j := 0) (by decide +kernel) rfl (jo_gf (j := 1) jw_F6 (by decide) kw_248 (by decide +kernel) (jo_ici (n := 1) (by decide +kernel) (by decide) (jo_cne (off := 8) (tgt := 38) (by decide +kernel) (by decide) (sb_6_set_38 l) (jo_iln (i := 2) (j := 2) (by decide +kernel) rfl (jo_i2s (by decide +kernel) (jo_goto (off := 4) (tgt := 39) (by decide +kernel) (by decide) (sb_6_set_39 l)))))))))))
theorem sb_6_set_0 (l : Launch) : jo_Ok l cb_6_set 3 "SwipedStripe$Sheet" "set" jw_ro { frames := 1, cells := 0, slots := 0, locals := 22 } none 0 0 bb_6_set_0 0 := (jo_aln (i := 0) (j := 0) (by decide +kernel) rfl (jo_gf (j := 1) jw_F6 (by decide) kw_248 (by decide +kernel) (jo_zne (off := 16) (tgt := 20) (by decide +kernel) (by decide) (sb_6_set_20 l) (jo_aln (i := 0) (j := 0) (by decide +kernel) rfl (jo_gf (j := 0) jw_F6 (by decide) kw_247 (by decide +kernel) (jo_iln (i := 1) (j := 1) (by decide +kernel) rfl (jo_iln (i := 2) (j := 2) (by decide +kernel) rfl (jo_i2b (by decide +kernel) (jo_cv (n := 2) (ss_4_put l) kw_596 kw_3 kw_993 kw_594 jw_F4 kw_595 ⟨by decide, by decide, by decide +kernel⟩ ⟨by decide, by decide⟩ (fun _ _ h => h) ⟨rfl, rfl⟩ (by decide +kernel) (jo_goto (off := 25) (tgt := 42) (by decide +kernel) (by decide) (sb_6_set_42 l)))))))))))
theorem ss_6_set (l : Launch) : jw_Met l yy_6_set cb_6_set 3 none { frames := 1, cells := 0, slots := 0, locals := 22 } cc_6_set := by
  refine jw_met (by decide) (fun pc => ?_)
  intro p e s m args below meth c Q D aC ad base K X RT ls st h z hf
  unfold qq_6_set at hf
  by_cases h0 : pc = 0
  · subst h0; simp only [if_true, if_false, reduceIte, ↓reduceIte] at hf; exact sb_6_set_0 l p e s m args below meth c Q D aC ad base K X RT ls st h z hf
  rw [if_neg h0] at hf
  exact hf.elim
abbrev cb_10_lay : ByteArray := prog_1_method_33_code
abbrev yy_10_lay : MethodName := ⟨"SwipedStripe", "lay", "(III)I"⟩
def bb_10_lay_32 (K : jw_K) (J : Nat → jw_S) : jw_S := xo_al 0 (xo_gf 10 10 (xo_il 1 (xo_aald (xo_il 2 (xo_il 3 (xo_cv 6 cc_6_set 3 (xo_ci 1 (xo_ri 0 0 K))))))))
def bb_10_lay_9 (K : jw_K) (J : Nat → jw_S) : jw_S := xo_al 0 (xo_gf 10 10 (xo_il 1 (xo_aald (xo_il 2 (xo_cv 6 cc_6_faultAt 2 (xo_is 4 (xo_il 4 (xo_zeq (bb_10_lay_32 K J) (xo_ci (-10) (xo_il 4 (xo_isub (xo_ri 0 0 K))))))))))))
def bb_10_lay_0 (K : jw_K) (J : Nat → jw_S) : jw_S := xo_il 1 (xo_cs cc_10_isSheet 1 (xo_zne (bb_10_lay_9 K J) (xo_ci (-1) (xo_ri 0 0 K))))
def qq_10_lay (K : jw_K) (pc : Nat) (J : Nat → jw_S) : jw_S := if pc = 0 then bb_10_lay_0 K J else fun _ _ _ _ => False
def cc_10_lay : jw_T := jw_C 5 qq_10_lay
theorem sb_10_lay_32 (l : Launch) : jo_Ok l cb_10_lay 5 "SwipedStripe" "lay" jw_ro { frames := 2, cells := 0, slots := 0, locals := 44 } (some .int) 0 0 bb_10_lay_32 32 := (jo_aln (i := 0) (j := 0) (by decide +kernel) rfl (jo_gf (j := 10) jw_F10 (by decide) kw_264 (by decide +kernel) (jo_iln (i := 1) (j := 1) (by decide +kernel) rfl (jo_aald (by decide +kernel) (jo_iln (i := 2) (j := 2) (by decide +kernel) rfl (jo_iln (i := 3) (j := 3) (by decide +kernel) rfl (jo_cv (n := 2) (ss_6_set l) kw_992 kw_12 kw_989 kw_990 jw_F6 kw_991 ⟨by decide, by decide, by decide +kernel⟩ ⟨by decide, by decide⟩ (fun _ _ h => h) ⟨rfl, rfl⟩ (by decide +kernel) (jo_ici (n := 1) (by decide +kernel) (by decide) (jo_ri rfl (by decide +kernel))))))))))
theorem sb_10_lay_9 (l : Launch) : jo_Ok l cb_10_lay 5 "SwipedStripe" "lay" jw_ro { frames := 2, cells := 0, slots := 0, locals := 44 } (some .int) 0 0 bb_10_lay_9 9 := (jo_aln (i := 0) (j := 0) (by decide +kernel) rfl (jo_gf (j := 10) jw_F10 (by decide) kw_264 (by decide +kernel) (jo_iln (i := 1) (j := 1) (by decide +kernel) rfl (jo_aald (by decide +kernel) (jo_iln (i := 2) (j := 2) (by decide +kernel) rfl (jo_cv (n := 1) (ss_6_faultAt l) kw_983 kw_12 kw_980 kw_981 jw_F6 kw_982 ⟨by decide, by decide, by decide +kernel⟩ ⟨by decide, by decide⟩ (fun _ _ h => h) ⟨rfl, rfl⟩ (by decide +kernel) (jo_is (by decide +kernel) (by decide) (jo_il (by decide +kernel) (jo_zeq (off := 9) (tgt := 32) (by decide +kernel) (by decide) (sb_10_lay_32 l) (jo_bpi (n := -10) (by decide +kernel) (by decide) (jo_il (by decide +kernel) (jo_isub (by decide +kernel) (jo_ri rfl (by decide +kernel))))))))))))))
theorem sb_10_lay_0 (l : Launch) : jo_Ok l cb_10_lay 5 "SwipedStripe" "lay" jw_ro { frames := 2, cells := 0, slots := 0, locals := 44 } (some .int) 0 0 bb_10_lay_0 0 := (jo_iln (i := 1) (j := 1) (by decide +kernel) rfl (jo_cs (n := 1) (idx := 278) (ss_10_isSheet l) kw_967 kw_1 kw_965 kw_966 ⟨by decide, by decide, by decide +kernel⟩ ⟨by decide, by decide⟩ (fun _ _ h => h) ⟨rfl, rfl⟩ (by decide +kernel) (jo_zne (off := 5) (tgt := 9) (by decide +kernel) (by decide) (sb_10_lay_9 l) (jo_ici (n := -1) (by decide +kernel) (by decide) (jo_ri rfl (by decide +kernel))))))
theorem ss_10_lay (l : Launch) : jw_Met l yy_10_lay cb_10_lay 5 (some .int) { frames := 2, cells := 0, slots := 0, locals := 44 } cc_10_lay := by
  refine jw_met (by decide) (fun pc => ?_)
  intro p e s m args below meth c Q D aC ad base K X RT ls st h z hf
  unfold qq_10_lay at hf
  by_cases h0 : pc = 0
  · subst h0; simp only [if_true, if_false, reduceIte, ↓reduceIte] at hf; exact sb_10_lay_0 l p e s m args below meth c Q D aC ad base K X RT ls st h z hf
  rw [if_neg h0] at hf
  exact hf.elim
abbrev cb_10_isLane : ByteArray := prog_1_method_44_code
abbrev yy_10_isLane : MethodName := ⟨"SwipedStripe", "isLane", "(I)Z"⟩
def bb_10_isLane_14 (K : jw_K) (J : Nat → jw_S) : jw_S := xo_rz 0 0 K
def bb_10_isLane_13 (K : jw_K) (J : Nat → jw_S) : jw_S := xo_ci 0 (bb_10_isLane_14 K J)
def bb_10_isLane_0 (K : jw_K) (J : Nat → jw_S) : jw_S := xo_il 0 (xo_zlt (bb_10_isLane_13 K J) (xo_il 0 (xo_ci 2 (xo_cgt (bb_10_isLane_13 K J) (xo_ci 1 (bb_10_isLane_14 K J))))))
def qq_10_isLane (K : jw_K) (pc : Nat) (J : Nat → jw_S) : jw_S := if pc = 0 then bb_10_isLane_0 K J else fun _ _ _ _ => False
def cc_10_isLane : jw_T := jw_C 1 qq_10_isLane
theorem sb_10_isLane_14 (l : Launch) : jo_Ok l cb_10_isLane 1 "SwipedStripe" "isLane" jw_ro { frames := 0, cells := 0, slots := 0, locals := 0 } (some .boolean) 0 0 bb_10_isLane_14 14 := (jo_rz rfl (by decide +kernel))
theorem sb_10_isLane_13 (l : Launch) : jo_Ok l cb_10_isLane 1 "SwipedStripe" "isLane" jw_ro { frames := 0, cells := 0, slots := 0, locals := 0 } (some .boolean) 0 0 bb_10_isLane_13 13 := (jo_ici (n := 0) (by decide +kernel) (by decide) (sb_10_isLane_14 l))
theorem sb_10_isLane_0 (l : Launch) : jo_Ok l cb_10_isLane 1 "SwipedStripe" "isLane" jw_ro { frames := 0, cells := 0, slots := 0, locals := 0 } (some .boolean) 0 0 bb_10_isLane_0 0 := (jo_iln (i := 0) (j := 0) (by decide +kernel) rfl (jo_zlt (off := 12) (tgt := 13) (by decide +kernel) (by decide) (sb_10_isLane_13 l) (jo_iln (i := 0) (j := 0) (by decide +kernel) rfl (jo_ici (n := 2) (by decide +kernel) (by decide) (jo_cgt (off := 7) (tgt := 13) (by decide +kernel) (by decide) (sb_10_isLane_13 l) (jo_ici (n := 1) (by decide +kernel) (by decide) (jo_goto (off := 4) (tgt := 14) (by decide +kernel) (by decide) (sb_10_isLane_14 l))))))))
theorem ss_10_isLane (l : Launch) : jw_Met l yy_10_isLane cb_10_isLane 1 (some .boolean) { frames := 0, cells := 0, slots := 0, locals := 0 } cc_10_isLane := by
  refine jw_met (by decide) (fun pc => ?_)
  intro p e s m args below meth c Q D aC ad base K X RT ls st h z hf
  unfold qq_10_isLane at hf
  by_cases h0 : pc = 0
  · subst h0; simp only [if_true, if_false, reduceIte, ↓reduceIte] at hf; exact sb_10_isLane_0 l p e s m args below meth c Q D aC ad base K X RT ls st h z hf
  rw [if_neg h0] at hf
  exact hf.elim
abbrev cb_6_at : ByteArray := prog_8_method_7_code
abbrev yy_6_at : MethodName := ⟨"SwipedStripe$Sheet", "at", "(I)I"⟩
def bb_6_at_0 (K : jw_K) (J : Nat → jw_S) : jw_S := xo_al 0 (xo_gf 6 0 (xo_il 1 (xo_cv 4 cc_4_at 2 (xo_ri 0 0 K))))
def qq_6_at (K : jw_K) (pc : Nat) (J : Nat → jw_S) : jw_S := if pc = 0 then bb_6_at_0 K J else fun _ _ _ _ => False
def cc_6_at : jw_T := jw_C 2 qq_6_at
theorem sb_6_at_0 (l : Launch) : jo_Ok l cb_6_at 2 "SwipedStripe$Sheet" "at" jw_ro { frames := 1, cells := 0, slots := 0, locals := 21 } (some .int) 0 0 bb_6_at_0 0 := (jo_aln (i := 0) (j := 0) (by decide +kernel) rfl (jo_gf (j := 0) jw_F6 (by decide) kw_247 (by decide +kernel) (jo_iln (i := 1) (j := 1) (by decide +kernel) rfl (jo_cv (n := 1) (ss_4_at l) kw_330 kw_3 kw_1007 kw_328 jw_F4 kw_329 ⟨by decide, by decide, by decide +kernel⟩ ⟨by decide, by decide⟩ (fun _ _ h => h) ⟨rfl, rfl⟩ (by decide +kernel) (jo_ri rfl (by decide +kernel))))))
theorem ss_6_at (l : Launch) : jw_Met l yy_6_at cb_6_at 2 (some .int) { frames := 1, cells := 0, slots := 0, locals := 21 } cc_6_at := by
  refine jw_met (by decide) (fun pc => ?_)
  intro p e s m args below meth c Q D aC ad base K X RT ls st h z hf
  unfold qq_6_at at hf
  by_cases h0 : pc = 0
  · subst h0; simp only [if_true, if_false, reduceIte, ↓reduceIte] at hf; exact sb_6_at_0 l p e s m args below meth c Q D aC ad base K X RT ls st h z hf
  rw [if_neg h0] at hf
  exact hf.elim
abbrev cb_6_faultAs : ByteArray := prog_8_method_6_code
abbrev yy_6_faultAs : MethodName := ⟨"SwipedStripe$Sheet", "faultAs", "(II)I"⟩
def bb_6_faultAs_24 (K : jw_K) (J : Nat → jw_S) : jw_S := xo_ri 0 0 K
def bb_6_faultAs_23 (K : jw_K) (J : Nat → jw_S) : jw_S := xo_ci 3 (bb_6_faultAs_24 K J)
def bb_6_faultAs_15 (K : jw_K) (J : Nat → jw_S) : jw_S := xo_al 0 (xo_il 2 (xo_cv 6 cc_6_faultAt 2 (bb_6_faultAs_24 K J)))
def bb_6_faultAs_0 (K : jw_K) (J : Nat → jw_S) : jw_S := xo_al 0 (xo_cv 6 cc_6_isNothing 1 (xo_zne (bb_6_faultAs_15 K J) (xo_al 0 (xo_gf 6 1 (xo_il 1 (xo_cne (bb_6_faultAs_23 K J) (bb_6_faultAs_15 K J)))))))
def qq_6_faultAs (K : jw_K) (pc : Nat) (J : Nat → jw_S) : jw_S := if pc = 0 then bb_6_faultAs_0 K J else fun _ _ _ _ => False
def cc_6_faultAs : jw_T := jw_C 3 qq_6_faultAs
theorem sb_6_faultAs_24 (l : Launch) : jo_Ok l cb_6_faultAs 3 "SwipedStripe$Sheet" "faultAs" jw_ro { frames := 2, cells := 0, slots := 0, locals := 42 } (some .int) 0 0 bb_6_faultAs_24 24 := (jo_ri rfl (by decide +kernel))
theorem sb_6_faultAs_23 (l : Launch) : jo_Ok l cb_6_faultAs 3 "SwipedStripe$Sheet" "faultAs" jw_ro { frames := 2, cells := 0, slots := 0, locals := 42 } (some .int) 0 0 bb_6_faultAs_23 23 := (jo_ici (n := 3) (by decide +kernel) (by decide) (sb_6_faultAs_24 l))
theorem sb_6_faultAs_15 (l : Launch) : jo_Ok l cb_6_faultAs 3 "SwipedStripe$Sheet" "faultAs" jw_ro { frames := 2, cells := 0, slots := 0, locals := 42 } (some .int) 0 0 bb_6_faultAs_15 15 := (jo_aln (i := 0) (j := 0) (by decide +kernel) rfl (jo_iln (i := 2) (j := 2) (by decide +kernel) rfl (jo_cv (n := 1) (ss_6_faultAt l) kw_983 kw_12 kw_1002 kw_981 jw_F6 kw_982 ⟨by decide, by decide, by decide +kernel⟩ ⟨by decide, by decide⟩ (fun _ _ h => h) ⟨rfl, rfl⟩ (by decide +kernel) (jo_goto (off := 4) (tgt := 24) (by decide +kernel) (by decide) (sb_6_faultAs_24 l)))))
theorem sb_6_faultAs_0 (l : Launch) : jo_Ok l cb_6_faultAs 3 "SwipedStripe$Sheet" "faultAs" jw_ro { frames := 2, cells := 0, slots := 0, locals := 42 } (some .int) 0 0 bb_6_faultAs_0 0 := (jo_aln (i := 0) (j := 0) (by decide +kernel) rfl (jo_cv (n := 0) (ss_6_isNothing l) kw_987 kw_12 kw_984 kw_985 jw_F6 kw_986 ⟨by decide, by decide, by decide +kernel⟩ ⟨by decide, by decide⟩ (fun _ _ h => h) ⟨rfl, rfl⟩ (by decide +kernel) (jo_zne (off := 11) (tgt := 15) (by decide +kernel) (by decide) (sb_6_faultAs_15 l) (jo_aln (i := 0) (j := 0) (by decide +kernel) rfl (jo_gf (j := 1) jw_F6 (by decide) kw_248 (by decide +kernel) (jo_iln (i := 1) (j := 1) (by decide +kernel) rfl (jo_cne (off := 11) (tgt := 23) (by decide +kernel) (by decide) (sb_6_faultAs_23 l) (sb_6_faultAs_15 l))))))))
theorem ss_6_faultAs (l : Launch) : jw_Met l yy_6_faultAs cb_6_faultAs 3 (some .int) { frames := 2, cells := 0, slots := 0, locals := 42 } cc_6_faultAs := by
  refine jw_met (by decide) (fun pc => ?_)
  intro p e s m args below meth c Q D aC ad base K X RT ls st h z hf
  unfold qq_6_faultAs at hf
  by_cases h0 : pc = 0
  · subst h0; simp only [if_true, if_false, reduceIte, ↓reduceIte] at hf; exact sb_6_faultAs_0 l p e s m args below meth c Q D aC ad base K X RT ls st h z hf
  rw [if_neg h0] at hf
  exact hf.elim
abbrev cb_10_load : ByteArray := prog_1_method_34_code
abbrev yy_10_load : MethodName := ⟨"SwipedStripe", "load", "(IIII)I"⟩
def bb_10_load_156 (K : jw_K) (J : Nat → jw_S) : jw_S := xo_al 0 (xo_il 6 (xo_pfi 10 12 (xo_il 7 (xo_ri 0 0 K))))
def bb_10_load_126 (K : jw_K) (J : Nat → jw_S) : jw_S := xo_il 8 (xo_il 7 (xo_cge (bb_10_load_156 K J) (xo_al 0 (xo_gf 10 5 (xo_al 5 (xo_il 3 (xo_il 8 (xo_iadd (xo_cv 6 cc_6_at 2 (xo_cv 4 cc_4_push 2 (xo_pop (xo_ic 8 1 (J 126)))))))))))))
def bb_10_load_123 (K : jw_K) (J : Nat → jw_S) : jw_S := xo_ci 0 (xo_is 8 (J 126))
def bb_10_load_117 (K : jw_K) (J : Nat → jw_S) : jw_S := xo_ic 8 1 (J 45)
def bb_10_load_114 (K : jw_K) (J : Nat → jw_S) : jw_S := xo_ic 7 1 (bb_10_load_117 K J)
def bb_10_load_95 (K : jw_K) (J : Nat → jw_S) : jw_S := xo_al 0 (xo_gf 10 5 (xo_cv 4 cc_4_size 1 (xo_il 8 (xo_iadd (xo_ci 320 (xo_clt (bb_10_load_114 K J) (xo_ci (-3) (xo_ri 0 0 K))))))))
def bb_10_load_94 (K : jw_K) (J : Nat → jw_S) : jw_S := xo_ri 0 0 K
def bb_10_load_45 (K : jw_K) (J : Nat → jw_S) : jw_S := xo_il 8 (xo_il 4 (xo_cge (bb_10_load_123 K J) (xo_il 6 (xo_zne (bb_10_load_123 K J) (xo_al 5 (xo_il 2 (xo_il 3 (xo_il 8 (xo_iadd (xo_cv 6 cc_6_faultAs 3 (xo_is 6 (xo_il 6 (xo_zne (bb_10_load_117 K J) (xo_al 5 (xo_il 3 (xo_il 8 (xo_iadd (xo_cv 6 cc_6_at 2 (xo_cs cc_10_isGap 1 (xo_zne (bb_10_load_95 K J) (xo_ci (-20) (xo_il 8 (xo_isub (bb_10_load_94 K J))))))))))))))))))))))))
def bb_10_load_28 (K : jw_K) (J : Nat → jw_S) : jw_S := xo_al 0 (xo_gf 10 10 (xo_il 1 (xo_aald (xo_as 5 (xo_ci 0 (xo_is 6 (xo_ci 0 (xo_is 7 (xo_ci 0 (xo_is 8 (J 45)))))))))))
def bb_10_load_26 (K : jw_K) (J : Nat → jw_S) : jw_S := xo_ci (-1) (xo_ri 0 0 K)
def bb_10_load_0 (K : jw_K) (J : Nat → jw_S) : jw_S := xo_il 1 (xo_cs cc_10_isSheet 1 (xo_zeq (bb_10_load_26 K J) (xo_il 2 (xo_cs cc_10_isLane 1 (xo_zeq (bb_10_load_26 K J) (xo_il 4 (xo_zlt (bb_10_load_26 K J) (xo_il 4 (xo_ci 64 (xo_cle (bb_10_load_28 K J) (bb_10_load_26 K J)))))))))))
def qq_10_load (K : jw_K) (pc : Nat) (J : Nat → jw_S) : jw_S := if pc = 0 then bb_10_load_0 K J else if pc = 45 then bb_10_load_45 K J else if pc = 126 then bb_10_load_126 K J else fun _ _ _ _ => False
def cc_10_load : jw_T := jw_C 9 qq_10_load
theorem sb_10_load_156 (l : Launch) : jo_Ok l cb_10_load 9 "SwipedStripe" "load" jw_ro { frames := 3, cells := 0, slots := 0, locals := 64 } (some .int) 0 0 bb_10_load_156 156 := (jo_aln (i := 0) (j := 0) (by decide +kernel) rfl (jo_il (by decide +kernel) (jo_pfi (j := 12) jw_F10 (by decide) kw_266 rfl rfl (by decide +kernel) (jo_il (by decide +kernel) (jo_ri rfl (by decide +kernel))))))
theorem sb_10_load_126 (l : Launch) : jo_Ok l cb_10_load 9 "SwipedStripe" "load" jw_ro { frames := 3, cells := 0, slots := 0, locals := 64 } (some .int) 0 0 bb_10_load_126 126 := (jo_il (by decide +kernel) (jo_il (by decide +kernel) (jo_cge (off := 26) (tgt := 156) (by decide +kernel) (by decide) (sb_10_load_156 l) (jo_aln (i := 0) (j := 0) (by decide +kernel) rfl (jo_gf (j := 5) jw_F10 (by decide) kw_259 (by decide +kernel) (jo_al (by decide +kernel) (jo_iln (i := 3) (j := 3) (by decide +kernel) rfl (jo_il (by decide +kernel) (jo_iadd (by decide +kernel) (jo_cv (n := 1) (ss_6_at l) kw_1006 kw_12 kw_1003 kw_1004 jw_F6 kw_1005 ⟨by decide, by decide, by decide +kernel⟩ ⟨by decide, by decide⟩ (fun _ _ h => h) ⟨rfl, rfl⟩ (by decide +kernel) (jo_cv (n := 1) (ss_4_push l) kw_305 kw_3 kw_302 kw_303 jw_F4 kw_304 ⟨by decide, by decide, by decide +kernel⟩ ⟨by decide, by decide⟩ (fun _ _ h => h) ⟨rfl, rfl⟩ (by decide +kernel) (jo_pop (by decide +kernel) (jo_ic (n0 := 1) (by decide +kernel) (by decide) (by decide) (jo_goto (off := -27) (tgt := 126) (by decide +kernel) (by decide) (jo_J)))))))))))))))
theorem sb_10_load_123 (l : Launch) : jo_Ok l cb_10_load 9 "SwipedStripe" "load" jw_ro { frames := 3, cells := 0, slots := 0, locals := 64 } (some .int) 0 0 bb_10_load_123 123 := (jo_ici (n := 0) (by decide +kernel) (by decide) (jo_is (by decide +kernel) (by decide) jo_J))
theorem sb_10_load_117 (l : Launch) : jo_Ok l cb_10_load 9 "SwipedStripe" "load" jw_ro { frames := 3, cells := 0, slots := 0, locals := 64 } (some .int) 0 0 bb_10_load_117 117 := (jo_ic (n0 := 1) (by decide +kernel) (by decide) (by decide) (jo_goto (off := -75) (tgt := 45) (by decide +kernel) (by decide) (jo_J)))
theorem sb_10_load_114 (l : Launch) : jo_Ok l cb_10_load 9 "SwipedStripe" "load" jw_ro { frames := 3, cells := 0, slots := 0, locals := 64 } (some .int) 0 0 bb_10_load_114 114 := (jo_ic (n0 := 1) (by decide +kernel) (by decide) (by decide) (sb_10_load_117 l))
theorem sb_10_load_95 (l : Launch) : jo_Ok l cb_10_load 9 "SwipedStripe" "load" jw_ro { frames := 3, cells := 0, slots := 0, locals := 64 } (some .int) 0 0 bb_10_load_95 95 := (jo_aln (i := 0) (j := 0) (by decide +kernel) rfl (jo_gf (j := 5) jw_F10 (by decide) kw_259 (by decide +kernel) (jo_cv (n := 0) (ss_4_size l) kw_301 kw_3 kw_298 kw_299 jw_F4 kw_300 ⟨by decide, by decide, by decide +kernel⟩ ⟨by decide, by decide⟩ (fun _ _ h => h) ⟨rfl, rfl⟩ (by decide +kernel) (jo_il (by decide +kernel) (jo_iadd (by decide +kernel) (jo_spi (n := 320) (by decide +kernel) (by decide) (jo_clt (off := 6) (tgt := 114) (by decide +kernel) (by decide) (sb_10_load_114 l) (jo_bpi (n := -3) (by decide +kernel) (by decide) (jo_ri rfl (by decide +kernel))))))))))
theorem sb_10_load_94 (l : Launch) : jo_Ok l cb_10_load 9 "SwipedStripe" "load" jw_ro { frames := 3, cells := 0, slots := 0, locals := 64 } (some .int) 0 0 bb_10_load_94 94 := (jo_ri rfl (by decide +kernel))
theorem sb_10_load_45 (l : Launch) : jo_Ok l cb_10_load 9 "SwipedStripe" "load" jw_ro { frames := 3, cells := 0, slots := 0, locals := 64 } (some .int) 0 0 bb_10_load_45 45 := (jo_il (by decide +kernel) (jo_il (by decide +kernel) (jo_cge (off := 74) (tgt := 123) (by decide +kernel) (by decide) (sb_10_load_123 l) (jo_il (by decide +kernel) (jo_zne (off := 69) (tgt := 123) (by decide +kernel) (by decide) (sb_10_load_123 l) (jo_al (by decide +kernel) (jo_iln (i := 2) (j := 2) (by decide +kernel) rfl (jo_iln (i := 3) (j := 3) (by decide +kernel) rfl (jo_il (by decide +kernel) (jo_iadd (by decide +kernel) (jo_cv (n := 2) (ss_6_faultAs l) kw_1001 kw_12 kw_998 kw_999 jw_F6 kw_1000 ⟨by decide, by decide, by decide +kernel⟩ ⟨by decide, by decide⟩ (fun _ _ h => h) ⟨rfl, rfl⟩ (by decide +kernel) (jo_is (by decide +kernel) (by decide) (jo_il (by decide +kernel) (jo_zne (off := 46) (tgt := 117) (by decide +kernel) (by decide) (sb_10_load_117 l) (jo_al (by decide +kernel) (jo_iln (i := 3) (j := 3) (by decide +kernel) rfl (jo_il (by decide +kernel) (jo_iadd (by decide +kernel) (jo_cv (n := 1) (ss_6_at l) kw_1006 kw_12 kw_1003 kw_1004 jw_F6 kw_1005 ⟨by decide, by decide, by decide +kernel⟩ ⟨by decide, by decide⟩ (fun _ _ h => h) ⟨rfl, rfl⟩ (by decide +kernel) (jo_cs (n := 1) (idx := 157) (ss_10_isGap l) kw_592 kw_1 kw_590 kw_591 ⟨by decide, by decide, by decide +kernel⟩ ⟨by decide, by decide⟩ (fun _ _ h => h) ⟨rfl, rfl⟩ (by decide +kernel) (jo_zne (off := 9) (tgt := 95) (by decide +kernel) (by decide) (sb_10_load_95 l) (jo_bpi (n := -20) (by decide +kernel) (by decide) (jo_il (by decide +kernel) (jo_isub (by decide +kernel) (sb_10_load_94 l)))))))))))))))))))))))))
theorem sb_10_load_28 (l : Launch) : jo_Ok l cb_10_load 9 "SwipedStripe" "load" jw_ro { frames := 3, cells := 0, slots := 0, locals := 64 } (some .int) 0 0 bb_10_load_28 28 := (jo_aln (i := 0) (j := 0) (by decide +kernel) rfl (jo_gf (j := 10) jw_F10 (by decide) kw_264 (by decide +kernel) (jo_iln (i := 1) (j := 1) (by decide +kernel) rfl (jo_aald (by decide +kernel) (jo_as (by decide +kernel) (by decide) (jo_ici (n := 0) (by decide +kernel) (by decide) (jo_is (by decide +kernel) (by decide) (jo_ici (n := 0) (by decide +kernel) (by decide) (jo_is (by decide +kernel) (by decide) (jo_ici (n := 0) (by decide +kernel) (by decide) (jo_is (by decide +kernel) (by decide) jo_J)))))))))))
theorem sb_10_load_26 (l : Launch) : jo_Ok l cb_10_load 9 "SwipedStripe" "load" jw_ro { frames := 3, cells := 0, slots := 0, locals := 64 } (some .int) 0 0 bb_10_load_26 26 := (jo_ici (n := -1) (by decide +kernel) (by decide) (jo_ri rfl (by decide +kernel)))
theorem sb_10_load_0 (l : Launch) : jo_Ok l cb_10_load 9 "SwipedStripe" "load" jw_ro { frames := 3, cells := 0, slots := 0, locals := 64 } (some .int) 0 0 bb_10_load_0 0 := (jo_iln (i := 1) (j := 1) (by decide +kernel) rfl (jo_cs (n := 1) (idx := 278) (ss_10_isSheet l) kw_967 kw_1 kw_965 kw_966 ⟨by decide, by decide, by decide +kernel⟩ ⟨by decide, by decide⟩ (fun _ _ h => h) ⟨rfl, rfl⟩ (by decide +kernel) (jo_zeq (off := 22) (tgt := 26) (by decide +kernel) (by decide) (sb_10_load_26 l) (jo_iln (i := 2) (j := 2) (by decide +kernel) rfl (jo_cs (n := 1) (idx := 281) (ss_10_isLane l) kw_970 kw_1 kw_968 kw_969 ⟨by decide, by decide, by decide +kernel⟩ ⟨by decide, by decide⟩ (fun _ _ h => h) ⟨rfl, rfl⟩ (by decide +kernel) (jo_zeq (off := 15) (tgt := 26) (by decide +kernel) (by decide) (sb_10_load_26 l) (jo_il (by decide +kernel) (jo_zlt (off := 10) (tgt := 26) (by decide +kernel) (by decide) (sb_10_load_26 l) (jo_il (by decide +kernel) (jo_bpi (n := 64) (by decide +kernel) (by decide) (jo_cle (off := 5) (tgt := 28) (by decide +kernel) (by decide) (sb_10_load_28 l) (sb_10_load_26 l))))))))))))
theorem ss_10_load (l : Launch) : jw_Met l yy_10_load cb_10_load 9 (some .int) { frames := 3, cells := 0, slots := 0, locals := 64 } cc_10_load := by
  refine jw_met (by decide) (fun pc => ?_)
  intro p e s m args below meth c Q D aC ad base K X RT ls st h z hf
  unfold qq_10_load at hf
  by_cases h0 : pc = 0
  · subst h0; simp only [if_true, if_false, reduceIte, ↓reduceIte] at hf; exact sb_10_load_0 l p e s m args below meth c Q D aC ad base K X RT ls st h z hf
  rw [if_neg h0] at hf
  by_cases h45 : pc = 45
  · subst h45; simp only [if_true, if_false, reduceIte, ↓reduceIte] at hf; exact sb_10_load_45 l p e s m args below meth c Q D aC ad base K X RT ls st h z hf
  rw [if_neg h45] at hf
  by_cases h126 : pc = 126
  · subst h126; simp only [if_true, if_false, reduceIte, ↓reduceIte] at hf; exact sb_10_load_126 l p e s m args below meth c Q D aC ad base K X RT ls st h z hf
  rw [if_neg h126] at hf
  exact hf.elim
abbrev cb_10_isClock : ByteArray := prog_1_method_43_code
abbrev yy_10_isClock : MethodName := ⟨"SwipedStripe", "isClock", "(I)Z"⟩
def bb_10_isClock_14 (K : jw_K) (J : Nat → jw_S) : jw_S := xo_rz 0 0 K
def bb_10_isClock_13 (K : jw_K) (J : Nat → jw_S) : jw_S := xo_ci 0 (bb_10_isClock_14 K J)
def bb_10_isClock_0 (K : jw_K) (J : Nat → jw_S) : jw_S := xo_il 0 (xo_zlt (bb_10_isClock_13 K J) (xo_il 0 (xo_ci 2 (xo_cgt (bb_10_isClock_13 K J) (xo_ci 1 (bb_10_isClock_14 K J))))))
def qq_10_isClock (K : jw_K) (pc : Nat) (J : Nat → jw_S) : jw_S := if pc = 0 then bb_10_isClock_0 K J else fun _ _ _ _ => False
def cc_10_isClock : jw_T := jw_C 1 qq_10_isClock
theorem sb_10_isClock_14 (l : Launch) : jo_Ok l cb_10_isClock 1 "SwipedStripe" "isClock" jw_ro { frames := 0, cells := 0, slots := 0, locals := 0 } (some .boolean) 0 0 bb_10_isClock_14 14 := (jo_rz rfl (by decide +kernel))
theorem sb_10_isClock_13 (l : Launch) : jo_Ok l cb_10_isClock 1 "SwipedStripe" "isClock" jw_ro { frames := 0, cells := 0, slots := 0, locals := 0 } (some .boolean) 0 0 bb_10_isClock_13 13 := (jo_ici (n := 0) (by decide +kernel) (by decide) (sb_10_isClock_14 l))
theorem sb_10_isClock_0 (l : Launch) : jo_Ok l cb_10_isClock 1 "SwipedStripe" "isClock" jw_ro { frames := 0, cells := 0, slots := 0, locals := 0 } (some .boolean) 0 0 bb_10_isClock_0 0 := (jo_iln (i := 0) (j := 0) (by decide +kernel) rfl (jo_zlt (off := 12) (tgt := 13) (by decide +kernel) (by decide) (sb_10_isClock_13 l) (jo_iln (i := 0) (j := 0) (by decide +kernel) rfl (jo_ici (n := 2) (by decide +kernel) (by decide) (jo_cgt (off := 7) (tgt := 13) (by decide +kernel) (by decide) (sb_10_isClock_13 l) (jo_ici (n := 1) (by decide +kernel) (by decide) (jo_goto (off := 4) (tgt := 14) (by decide +kernel) (by decide) (sb_10_isClock_14 l))))))))
theorem ss_10_isClock (l : Launch) : jw_Met l yy_10_isClock cb_10_isClock 1 (some .boolean) { frames := 0, cells := 0, slots := 0, locals := 0 } cc_10_isClock := by
  refine jw_met (by decide) (fun pc => ?_)
  intro p e s m args below meth c Q D aC ad base K X RT ls st h z hf
  unfold qq_10_isClock at hf
  by_cases h0 : pc = 0
  · subst h0; simp only [if_true, if_false, reduceIte, ↓reduceIte] at hf; exact sb_10_isClock_0 l p e s m args below meth c Q D aC ad base K X RT ls st h z hf
  rw [if_neg h0] at hf
  exact hf.elim
abbrev cb_3_marginAbove : ByteArray := prog_5_method_5_code
abbrev yy_3_marginAbove : MethodName := ⟨"SwipedStripe$Reading", "marginAbove", "()I"⟩
def bb_3_marginAbove_0 (K : jw_K) (J : Nat → jw_S) : jw_S := xo_al 0 (xo_gf 3 5 (xo_ri 0 0 K))
def qq_3_marginAbove (K : jw_K) (pc : Nat) (J : Nat → jw_S) : jw_S := if pc = 0 then bb_3_marginAbove_0 K J else fun _ _ _ _ => False
def cc_3_marginAbove : jw_T := jw_C 1 qq_3_marginAbove
theorem sb_3_marginAbove_0 (l : Launch) : jo_Ok l cb_3_marginAbove 1 "SwipedStripe$Reading" "marginAbove" jw_ro { frames := 0, cells := 0, slots := 0, locals := 0 } (some .int) 0 0 bb_3_marginAbove_0 0 := (jo_aln (i := 0) (j := 0) (by decide +kernel) rfl (jo_gf (j := 5) jw_F3 (by decide) kw_135 (by decide +kernel) (jo_ri rfl (by decide +kernel))))
theorem ss_3_marginAbove (l : Launch) : jw_Met l yy_3_marginAbove cb_3_marginAbove 1 (some .int) { frames := 0, cells := 0, slots := 0, locals := 0 } cc_3_marginAbove := by
  refine jw_met (by decide) (fun pc => ?_)
  intro p e s m args below meth c Q D aC ad base K X RT ls st h z hf
  unfold qq_3_marginAbove at hf
  by_cases h0 : pc = 0
  · subst h0; simp only [if_true, if_false, reduceIte, ↓reduceIte] at hf; exact sb_3_marginAbove_0 l p e s m args below meth c Q D aC ad base K X RT ls st h z hf
  rw [if_neg h0] at hf
  exact hf.elim
abbrev cb_3_marginBelow : ByteArray := prog_5_method_6_code
abbrev yy_3_marginBelow : MethodName := ⟨"SwipedStripe$Reading", "marginBelow", "()I"⟩
def bb_3_marginBelow_0 (K : jw_K) (J : Nat → jw_S) : jw_S := xo_al 0 (xo_gf 3 6 (xo_ri 0 0 K))
def qq_3_marginBelow (K : jw_K) (pc : Nat) (J : Nat → jw_S) : jw_S := if pc = 0 then bb_3_marginBelow_0 K J else fun _ _ _ _ => False
def cc_3_marginBelow : jw_T := jw_C 1 qq_3_marginBelow
theorem sb_3_marginBelow_0 (l : Launch) : jo_Ok l cb_3_marginBelow 1 "SwipedStripe$Reading" "marginBelow" jw_ro { frames := 0, cells := 0, slots := 0, locals := 0 } (some .int) 0 0 bb_3_marginBelow_0 0 := (jo_aln (i := 0) (j := 0) (by decide +kernel) rfl (jo_gf (j := 6) jw_F3 (by decide) kw_136 (by decide +kernel) (jo_ri rfl (by decide +kernel))))
theorem ss_3_marginBelow (l : Launch) : jw_Met l yy_3_marginBelow cb_3_marginBelow 1 (some .int) { frames := 0, cells := 0, slots := 0, locals := 0 } cc_3_marginBelow := by
  refine jw_met (by decide) (fun pc => ?_)
  intro p e s m args below meth c Q D aC ad base K X RT ls st h z hf
  unfold qq_3_marginBelow at hf
  by_cases h0 : pc = 0
  · subst h0; simp only [if_true, if_false, reduceIte, ↓reduceIte] at hf; exact sb_3_marginBelow_0 l p e s m args below meth c Q D aC ad base K X RT ls st h z hf
  rw [if_neg h0] at hf
  exact hf.elim
abbrev cb_3_commonDivisor : ByteArray := prog_5_method_13_code
abbrev yy_3_commonDivisor : MethodName := ⟨"SwipedStripe$Reading", "commonDivisor", "(JJ)J"⟩
def bb_3_commonDivisor_33 (K : jw_K) (J : Nat → jw_S) : jw_S := xo_ll 0 (xo_rl 0 0 K)
def bb_3_commonDivisor_3 (K : jw_K) (J : Nat → jw_S) : jw_S := xo_il 4 (xo_ci 128 (xo_cge (bb_3_commonDivisor_33 K J) (xo_ll 2 (xo_cl 0 (xo_lcmp (xo_zle (bb_3_commonDivisor_33 K J) (xo_ll 0 (xo_ll 2 (xo_lrem (xo_ls 5 (xo_ll 2 (xo_ls 0 (xo_ll 5 (xo_ls 2 (xo_ic 4 1 (J 3))))))))))))))))
def bb_3_commonDivisor_0 (K : jw_K) (J : Nat → jw_S) : jw_S := xo_ci 0 (xo_is 4 (J 3))
def qq_3_commonDivisor (K : jw_K) (pc : Nat) (J : Nat → jw_S) : jw_S := if pc = 0 then bb_3_commonDivisor_0 K J else if pc = 3 then bb_3_commonDivisor_3 K J else fun _ _ _ _ => False
def cc_3_commonDivisor : jw_T := jw_C 7 qq_3_commonDivisor
theorem sb_3_commonDivisor_33 (l : Launch) : jo_Ok l cb_3_commonDivisor 7 "SwipedStripe$Reading" "commonDivisor" jw_ro { frames := 0, cells := 0, slots := 0, locals := 0 } (some .long) 0 0 bb_3_commonDivisor_33 33 := (jo_lln (i := 0) (j := 0) (by decide +kernel) rfl (jo_rl rfl (by decide +kernel)))
theorem sb_3_commonDivisor_3 (l : Launch) : jo_Ok l cb_3_commonDivisor 7 "SwipedStripe$Reading" "commonDivisor" jw_ro { frames := 0, cells := 0, slots := 0, locals := 0 } (some .long) 0 0 bb_3_commonDivisor_3 3 := (jo_il (by decide +kernel) (jo_spi (n := 128) (by decide +kernel) (by decide) (jo_cge (off := 25) (tgt := 33) (by decide +kernel) (by decide) (sb_3_commonDivisor_33 l) (jo_lln (i := 2) (j := 2) (by decide +kernel) rfl (jo_lco (n := 0) (by decide +kernel) (by decide) (jo_lcmp (by decide +kernel) (jo_zle (off := 19) (tgt := 33) (by decide +kernel) (by decide) (sb_3_commonDivisor_33 l) (jo_lln (i := 0) (j := 0) (by decide +kernel) rfl (jo_lln (i := 2) (j := 2) (by decide +kernel) rfl (jo_lrem (by decide +kernel) (jo_ls (by decide +kernel) (by decide) (jo_lln (i := 2) (j := 2) (by decide +kernel) rfl (jo_lsn (i := 0) (j := 0) (by decide +kernel) rfl (by decide) (jo_ll (by decide +kernel) (jo_lsn (i := 2) (j := 2) (by decide +kernel) rfl (by decide) (jo_ic (n0 := 1) (by decide +kernel) (by decide) (by decide) (jo_goto (off := -27) (tgt := 3) (by decide +kernel) (by decide) (jo_J))))))))))))))))))
theorem sb_3_commonDivisor_0 (l : Launch) : jo_Ok l cb_3_commonDivisor 7 "SwipedStripe$Reading" "commonDivisor" jw_ro { frames := 0, cells := 0, slots := 0, locals := 0 } (some .long) 0 0 bb_3_commonDivisor_0 0 := (jo_ici (n := 0) (by decide +kernel) (by decide) (jo_is (by decide +kernel) (by decide) jo_J))
theorem ss_3_commonDivisor (l : Launch) : jw_Met l yy_3_commonDivisor cb_3_commonDivisor 7 (some .long) { frames := 0, cells := 0, slots := 0, locals := 0 } cc_3_commonDivisor := by
  refine jw_met (by decide) (fun pc => ?_)
  intro p e s m args below meth c Q D aC ad base K X RT ls st h z hf
  unfold qq_3_commonDivisor at hf
  by_cases h0 : pc = 0
  · subst h0; simp only [if_true, if_false, reduceIte, ↓reduceIte] at hf; exact sb_3_commonDivisor_0 l p e s m args below meth c Q D aC ad base K X RT ls st h z hf
  rw [if_neg h0] at hf
  by_cases h3 : pc = 3
  · subst h3; simp only [if_true, if_false, reduceIte, ↓reduceIte] at hf; exact sb_3_commonDivisor_3 l p e s m args below meth c Q D aC ad base K X RT ls st h z hf
  rw [if_neg h3] at hf
  exact hf.elim
abbrev cb_3_weighMargin : ByteArray := prog_5_method_12_code
abbrev yy_3_weighMargin : MethodName := ⟨"SwipedStripe$Reading", "weighMargin", "()V"⟩
def bb_3_weighMargin_99 (K : jw_K) (J : Nat → jw_S) : jw_S := xo_cl 1 (xo_ll 1 (xo_ll 3 (xo_cs cc_3_commonDivisor 2 (xo_mmaxL (xo_ls 5 (xo_al 0 (xo_ll 1 (xo_ll 5 (xo_ldiv (xo_l2i (xo_pfi 3 5 (xo_al 0 (xo_ll 3 (xo_ll 5 (xo_ldiv (xo_l2i (xo_pfi 3 6 (xo_rv 0 0 K))))))))))))))))))
def bb_3_weighMargin_93 (K : jw_K) (J : Nat → jw_S) : jw_S := xo_ic 5 1 (J 7)
def bb_3_weighMargin_87 (K : jw_K) (J : Nat → jw_S) : jw_S := xo_ll 6 (xo_ls 1 (xo_ll 8 (xo_ls 3 (bb_3_weighMargin_93 K J))))
def bb_3_weighMargin_57 (K : jw_K) (J : Nat → jw_S) : jw_S := xo_gf 3 2 (xo_il 5 (xo_cv 4 cc_4_at 2 (xo_i2l (xo_lmul (xo_ls 8 (xo_ll 3 (xo_cl 0 (xo_lcmp (xo_zeq (bb_3_weighMargin_87 K J) (xo_ll 6 (xo_ll 3 (xo_lmul (xo_ll 1 (xo_ll 8 (xo_lmul (xo_lcmp (xo_zge (bb_3_weighMargin_93 K J) (bb_3_weighMargin_87 K J))))))))))))))))))
def bb_3_weighMargin_7 (K : jw_K) (J : Nat → jw_S) : jw_S := xo_il 5 (xo_al 0 (xo_gf 3 0 (xo_cv 4 cc_4_size 1 (xo_cge (bb_3_weighMargin_99 K J) (xo_cl 4 (xo_al 0 (xo_gf 3 1 (xo_il 5 (xo_cv 4 cc_4_at 2 (xo_i2l (xo_lmul (xo_cl 3 (xo_al 0 (xo_gf 3 2 (xo_il 5 (xo_cv 4 cc_4_at 2 (xo_i2l (xo_lmul (xo_lsub (xo_mabsL (xo_ls 6 (xo_cl 4 (xo_al 0 (bb_3_weighMargin_57 K J))))))))))))))))))))))))
def bb_3_weighMargin_0 (K : jw_K) (J : Nat → jw_S) : jw_S := xo_cl 0 (xo_ls 1 (xo_cl 0 (xo_ls 3 (xo_ci 1 (xo_is 5 (J 7))))))
def qq_3_weighMargin (K : jw_K) (pc : Nat) (J : Nat → jw_S) : jw_S := if pc = 0 then bb_3_weighMargin_0 K J else if pc = 7 then bb_3_weighMargin_7 K J else fun _ _ _ _ => False
def cc_3_weighMargin : jw_T := jw_C 10 qq_3_weighMargin
theorem sb_3_weighMargin_99 (l : Launch) : jo_Ok l cb_3_weighMargin 10 "SwipedStripe$Reading" "weighMargin" jw_ro { frames := 1, cells := 0, slots := 0, locals := 26 } none 0 0 bb_3_weighMargin_99 99 := (jo_lco (n := 1) (by decide +kernel) (by decide) (jo_lln (i := 1) (j := 1) (by decide +kernel) rfl (jo_lln (i := 3) (j := 3) (by decide +kernel) rfl (jo_cs (n := 2) (idx := 88) (ss_3_commonDivisor l) kw_856 kw_7 kw_854 kw_855 ⟨by decide, by decide, by decide +kernel⟩ ⟨by decide, by decide⟩ (fun _ _ h => h) ⟨rfl, rfl⟩ (by decide +kernel) (jo_mmaxL kw_857 kw_858 kw_4 kw_859 ⟨by decide, by decide⟩ (by decide +kernel) (jo_ls (by decide +kernel) (by decide) (jo_aln (i := 0) (j := 0) (by decide +kernel) rfl (jo_lln (i := 1) (j := 1) (by decide +kernel) rfl (jo_ll (by decide +kernel) (jo_ldiv (by decide +kernel) (jo_l2i (by decide +kernel) (jo_pfi (j := 5) jw_F3 (by decide) kw_135 rfl rfl (by decide +kernel) (jo_aln (i := 0) (j := 0) (by decide +kernel) rfl (jo_lln (i := 3) (j := 3) (by decide +kernel) rfl (jo_ll (by decide +kernel) (jo_ldiv (by decide +kernel) (jo_l2i (by decide +kernel) (jo_pfi (j := 6) jw_F3 (by decide) kw_136 rfl rfl (by decide +kernel) (jo_rv rfl (by decide +kernel))))))))))))))))))))
theorem sb_3_weighMargin_93 (l : Launch) : jo_Ok l cb_3_weighMargin 10 "SwipedStripe$Reading" "weighMargin" jw_ro { frames := 1, cells := 0, slots := 0, locals := 26 } none 0 0 bb_3_weighMargin_93 93 := (jo_ic (n0 := 1) (by decide +kernel) (by decide) (by decide) (jo_goto (off := -89) (tgt := 7) (by decide +kernel) (by decide) (jo_J)))
theorem sb_3_weighMargin_87 (l : Launch) : jo_Ok l cb_3_weighMargin 10 "SwipedStripe$Reading" "weighMargin" jw_ro { frames := 1, cells := 0, slots := 0, locals := 26 } none 0 0 bb_3_weighMargin_87 87 := (jo_ll (by decide +kernel) (jo_lsn (i := 1) (j := 1) (by decide +kernel) rfl (by decide) (jo_ll (by decide +kernel) (jo_lsn (i := 3) (j := 3) (by decide +kernel) rfl (by decide) (sb_3_weighMargin_93 l)))))
theorem sb_3_weighMargin_57 (l : Launch) : jo_Ok l cb_3_weighMargin 10 "SwipedStripe$Reading" "weighMargin" jw_ro { frames := 1, cells := 0, slots := 0, locals := 26 } none 0 0 bb_3_weighMargin_57 57 := (jo_gf (j := 2) jw_F3 (by decide) kw_132 (by decide +kernel) (jo_il (by decide +kernel) (jo_cv (n := 1) (ss_4_at l) kw_330 kw_3 kw_644 kw_328 jw_F4 kw_329 ⟨by decide, by decide, by decide +kernel⟩ ⟨by decide, by decide⟩ (fun _ _ h => h) ⟨rfl, rfl⟩ (by decide +kernel) (jo_i2l (by decide +kernel) (jo_lmul (by decide +kernel) (jo_ls (by decide +kernel) (by decide) (jo_lln (i := 3) (j := 3) (by decide +kernel) rfl (jo_lco (n := 0) (by decide +kernel) (by decide) (jo_lcmp (by decide +kernel) (jo_zeq (off := 15) (tgt := 87) (by decide +kernel) (by decide) (sb_3_weighMargin_87 l) (jo_ll (by decide +kernel) (jo_lln (i := 3) (j := 3) (by decide +kernel) rfl (jo_lmul (by decide +kernel) (jo_lln (i := 1) (j := 1) (by decide +kernel) rfl (jo_ll (by decide +kernel) (jo_lmul (by decide +kernel) (jo_lcmp (by decide +kernel) (jo_zge (off := 9) (tgt := 93) (by decide +kernel) (by decide) (sb_3_weighMargin_93 l) (sb_3_weighMargin_87 l)))))))))))))))))))
theorem sb_3_weighMargin_7 (l : Launch) : jo_Ok l cb_3_weighMargin 10 "SwipedStripe$Reading" "weighMargin" jw_ro { frames := 1, cells := 0, slots := 0, locals := 26 } none 0 0 bb_3_weighMargin_7 7 := (jo_il (by decide +kernel) (jo_aln (i := 0) (j := 0) (by decide +kernel) rfl (jo_gf (j := 0) jw_F3 (by decide) kw_130 (by decide +kernel) (jo_cv (n := 0) (ss_4_size l) kw_301 kw_3 kw_650 kw_299 jw_F4 kw_300 ⟨by decide, by decide, by decide +kernel⟩ ⟨by decide, by decide⟩ (fun _ _ h => h) ⟨rfl, rfl⟩ (by decide +kernel) (jo_cge (off := 83) (tgt := 99) (by decide +kernel) (by decide) (sb_3_weighMargin_99 l) (jo_ld2 (by decide +kernel) kw_849 (jo_aln (i := 0) (j := 0) (by decide +kernel) rfl (jo_gf (j := 1) jw_F3 (by decide) kw_131 (by decide +kernel) (jo_il (by decide +kernel) (jo_cv (n := 1) (ss_4_at l) kw_330 kw_3 kw_644 kw_328 jw_F4 kw_329 ⟨by decide, by decide, by decide +kernel⟩ ⟨by decide, by decide⟩ (fun _ _ h => h) ⟨rfl, rfl⟩ (by decide +kernel) (jo_i2l (by decide +kernel) (jo_lmul (by decide +kernel) (jo_ld2 (by decide +kernel) kw_850 (jo_aln (i := 0) (j := 0) (by decide +kernel) rfl (jo_gf (j := 2) jw_F3 (by decide) kw_132 (by decide +kernel) (jo_il (by decide +kernel) (jo_cv (n := 1) (ss_4_at l) kw_330 kw_3 kw_644 kw_328 jw_F4 kw_329 ⟨by decide, by decide, by decide +kernel⟩ ⟨by decide, by decide⟩ (fun _ _ h => h) ⟨rfl, rfl⟩ (by decide +kernel) (jo_i2l (by decide +kernel) (jo_lmul (by decide +kernel) (jo_lsub (by decide +kernel) (jo_mabsL kw_851 kw_852 kw_4 kw_853 ⟨by decide, by decide⟩ (by decide +kernel) (jo_ls (by decide +kernel) (by decide) (jo_ld2 (by decide +kernel) kw_849 (jo_aln (i := 0) (j := 0) (by decide +kernel) rfl (sb_3_weighMargin_57 l)))))))))))))))))))))))))
theorem sb_3_weighMargin_0 (l : Launch) : jo_Ok l cb_3_weighMargin 10 "SwipedStripe$Reading" "weighMargin" jw_ro { frames := 1, cells := 0, slots := 0, locals := 26 } none 0 0 bb_3_weighMargin_0 0 := (jo_lco (n := 0) (by decide +kernel) (by decide) (jo_lsn (i := 1) (j := 1) (by decide +kernel) rfl (by decide) (jo_lco (n := 0) (by decide +kernel) (by decide) (jo_lsn (i := 3) (j := 3) (by decide +kernel) rfl (by decide) (jo_ici (n := 1) (by decide +kernel) (by decide) (jo_is (by decide +kernel) (by decide) jo_J))))))
theorem ss_3_weighMargin (l : Launch) : jw_Met l yy_3_weighMargin cb_3_weighMargin 10 none { frames := 1, cells := 0, slots := 0, locals := 26 } cc_3_weighMargin := by
  refine jw_met (by decide) (fun pc => ?_)
  intro p e s m args below meth c Q D aC ad base K X RT ls st h z hf
  unfold qq_3_weighMargin at hf
  by_cases h0 : pc = 0
  · subst h0; simp only [if_true, if_false, reduceIte, ↓reduceIte] at hf; exact sb_3_weighMargin_0 l p e s m args below meth c Q D aC ad base K X RT ls st h z hf
  rw [if_neg h0] at hf
  by_cases h7 : pc = 7
  · subst h7; simp only [if_true, if_false, reduceIte, ↓reduceIte] at hf; exact sb_3_weighMargin_7 l p e s m args below meth c Q D aC ad base K X RT ls st h z hf
  rw [if_neg h7] at hf
  exact hf.elim
abbrev cb_10_margin : ByteArray := prog_1_method_26_code
abbrev yy_10_margin : MethodName := ⟨"SwipedStripe", "margin", "(II)I"⟩
def bb_10_margin_97 (K : jw_K) (J : Nat → jw_S) : jw_S := xo_ri 0 0 K
def bb_10_margin_90 (K : jw_K) (J : Nat → jw_S) : jw_S := xo_al 0 (xo_gf 10 6 (xo_cv 3 cc_3_marginBelow 1 (bb_10_margin_97 K J)))
def bb_10_margin_69 (K : jw_K) (J : Nat → jw_S) : jw_S := xo_al 0 (xo_gf 10 6 (xo_cv 3 cc_3_weighMargin 1 (xo_il 2 (xo_zne (bb_10_margin_90 K J) (xo_al 0 (xo_gf 10 6 (xo_cv 3 cc_3_marginAbove 1 (bb_10_margin_97 K J))))))))
def bb_10_margin_31 (K : jw_K) (J : Nat → jw_S) : jw_S := xo_al 0 (xo_gf 10 6 (xo_al 0 (xo_gf 10 5 (xo_il 1 (xo_al 0 (xo_gf 10 0 (xo_ci 6 (xo_cv 5 cc_5_of 2 (xo_cv 3 cc_3_hear 4 (xo_al 0 (xo_gf 10 6 (xo_cv 3 cc_3_bits 1 (xo_cv 4 cc_4_size 1 (xo_ci 2 (xo_cge (bb_10_margin_69 K J) (xo_ci (-4) (xo_ri 0 0 K)))))))))))))))))
def bb_10_margin_18 (K : jw_K) (J : Nat → jw_S) : jw_S := xo_al 0 (xo_gf 10 5 (xo_cv 4 cc_4_isEmpty 1 (xo_zeq (bb_10_margin_31 K J) (xo_ci (-2) (xo_ri 0 0 K)))))
def bb_10_margin_16 (K : jw_K) (J : Nat → jw_S) : jw_S := xo_ci (-1) (xo_ri 0 0 K)
def bb_10_margin_0 (K : jw_K) (J : Nat → jw_S) : jw_S := xo_il 1 (xo_cs cc_10_isClock 1 (xo_zeq (bb_10_margin_16 K J) (xo_il 2 (xo_zlt (bb_10_margin_16 K J) (xo_il 2 (xo_ci 1 (xo_cle (bb_10_margin_18 K J) (bb_10_margin_16 K J))))))))
def qq_10_margin (K : jw_K) (pc : Nat) (J : Nat → jw_S) : jw_S := if pc = 0 then bb_10_margin_0 K J else fun _ _ _ _ => False
def cc_10_margin : jw_T := jw_C 3 qq_10_margin
theorem sb_10_margin_97 (l : Launch) : jo_Ok l cb_10_margin 3 "SwipedStripe" "margin" jw_ro { frames := 3, cells := 0, slots := 0, locals := 72 } (some .int) 0 0 bb_10_margin_97 97 := (jo_ri rfl (by decide +kernel))
theorem sb_10_margin_90 (l : Launch) : jo_Ok l cb_10_margin 3 "SwipedStripe" "margin" jw_ro { frames := 3, cells := 0, slots := 0, locals := 72 } (some .int) 0 0 bb_10_margin_90 90 := (jo_aln (i := 0) (j := 0) (by decide +kernel) rfl (jo_gf (j := 6) jw_F10 (by decide) kw_260 (by decide +kernel) (jo_cv (n := 0) (ss_3_marginBelow l) kw_867 kw_7 kw_864 kw_865 jw_F3 kw_866 ⟨by decide, by decide, by decide +kernel⟩ ⟨by decide, by decide⟩ (fun _ _ h => h) ⟨rfl, rfl⟩ (by decide +kernel) (sb_10_margin_97 l))))
theorem sb_10_margin_69 (l : Launch) : jo_Ok l cb_10_margin 3 "SwipedStripe" "margin" jw_ro { frames := 3, cells := 0, slots := 0, locals := 72 } (some .int) 0 0 bb_10_margin_69 69 := (jo_aln (i := 0) (j := 0) (by decide +kernel) rfl (jo_gf (j := 6) jw_F10 (by decide) kw_260 (by decide +kernel) (jo_cv (n := 0) (ss_3_weighMargin l) kw_848 kw_7 kw_845 kw_846 jw_F3 kw_847 ⟨by decide, by decide, by decide +kernel⟩ ⟨by decide, by decide⟩ (fun _ _ h => h) ⟨rfl, rfl⟩ (by decide +kernel) (jo_iln (i := 2) (j := 2) (by decide +kernel) rfl (jo_zne (off := 13) (tgt := 90) (by decide +kernel) (by decide) (sb_10_margin_90 l) (jo_aln (i := 0) (j := 0) (by decide +kernel) rfl (jo_gf (j := 6) jw_F10 (by decide) kw_260 (by decide +kernel) (jo_cv (n := 0) (ss_3_marginAbove l) kw_863 kw_7 kw_860 kw_861 jw_F3 kw_862 ⟨by decide, by decide, by decide +kernel⟩ ⟨by decide, by decide⟩ (fun _ _ h => h) ⟨rfl, rfl⟩ (by decide +kernel) (jo_goto (off := 10) (tgt := 97) (by decide +kernel) (by decide) (sb_10_margin_97 l))))))))))
theorem sb_10_margin_31 (l : Launch) : jo_Ok l cb_10_margin 3 "SwipedStripe" "margin" jw_ro { frames := 3, cells := 0, slots := 0, locals := 72 } (some .int) 0 0 bb_10_margin_31 31 := (jo_aln (i := 0) (j := 0) (by decide +kernel) rfl (jo_gf (j := 6) jw_F10 (by decide) kw_260 (by decide +kernel) (jo_aln (i := 0) (j := 0) (by decide +kernel) rfl (jo_gf (j := 5) jw_F10 (by decide) kw_259 (by decide +kernel) (jo_iln (i := 1) (j := 1) (by decide +kernel) rfl (jo_aln (i := 0) (j := 0) (by decide +kernel) rfl (jo_gf (j := 0) jw_F10 (by decide) kw_254 (by decide +kernel) (jo_bpi (n := 6) (by decide +kernel) (by decide) (jo_cv (n := 1) (ss_5_of l) kw_457 kw_2 kw_495 kw_455 jw_F5 kw_456 ⟨by decide, by decide, by decide +kernel⟩ ⟨by decide, by decide⟩ (fun _ _ h => h) ⟨rfl, rfl⟩ (by decide +kernel) (jo_cv (n := 3) (ss_3_hear l) kw_637 kw_7 kw_634 kw_635 jw_F3 kw_636 ⟨by decide, by decide, by decide +kernel⟩ ⟨by decide, by decide⟩ (fun _ _ h => h) ⟨rfl, rfl⟩ (by decide +kernel) (jo_aln (i := 0) (j := 0) (by decide +kernel) rfl (jo_gf (j := 6) jw_F10 (by decide) kw_260 (by decide +kernel) (jo_cv (n := 0) (ss_3_bits l) kw_665 kw_7 kw_662 kw_663 jw_F3 kw_664 ⟨by decide, by decide, by decide +kernel⟩ ⟨by decide, by decide⟩ (fun _ _ h => h) ⟨rfl, rfl⟩ (by decide +kernel) (jo_cv (n := 0) (ss_4_size l) kw_301 kw_3 kw_298 kw_299 jw_F4 kw_300 ⟨by decide, by decide, by decide +kernel⟩ ⟨by decide, by decide⟩ (fun _ _ h => h) ⟨rfl, rfl⟩ (by decide +kernel) (jo_ici (n := 2) (by decide +kernel) (by decide) (jo_cge (off := 6) (tgt := 69) (by decide +kernel) (by decide) (sb_10_margin_69 l) (jo_bpi (n := -4) (by decide +kernel) (by decide) (jo_ri rfl (by decide +kernel)))))))))))))))))))
theorem sb_10_margin_18 (l : Launch) : jo_Ok l cb_10_margin 3 "SwipedStripe" "margin" jw_ro { frames := 3, cells := 0, slots := 0, locals := 72 } (some .int) 0 0 bb_10_margin_18 18 := (jo_aln (i := 0) (j := 0) (by decide +kernel) rfl (jo_gf (j := 5) jw_F10 (by decide) kw_259 (by decide +kernel) (jo_cv (n := 0) (ss_4_isEmpty l) kw_633 kw_3 kw_630 kw_631 jw_F4 kw_632 ⟨by decide, by decide, by decide +kernel⟩ ⟨by decide, by decide⟩ (fun _ _ h => h) ⟨rfl, rfl⟩ (by decide +kernel) (jo_zeq (off := 6) (tgt := 31) (by decide +kernel) (by decide) (sb_10_margin_31 l) (jo_bpi (n := -2) (by decide +kernel) (by decide) (jo_ri rfl (by decide +kernel)))))))
theorem sb_10_margin_16 (l : Launch) : jo_Ok l cb_10_margin 3 "SwipedStripe" "margin" jw_ro { frames := 3, cells := 0, slots := 0, locals := 72 } (some .int) 0 0 bb_10_margin_16 16 := (jo_ici (n := -1) (by decide +kernel) (by decide) (jo_ri rfl (by decide +kernel)))
theorem sb_10_margin_0 (l : Launch) : jo_Ok l cb_10_margin 3 "SwipedStripe" "margin" jw_ro { frames := 3, cells := 0, slots := 0, locals := 72 } (some .int) 0 0 bb_10_margin_0 0 := (jo_iln (i := 1) (j := 1) (by decide +kernel) rfl (jo_cs (n := 1) (idx := 179) (ss_10_isClock l) kw_629 kw_1 kw_627 kw_628 ⟨by decide, by decide, by decide +kernel⟩ ⟨by decide, by decide⟩ (fun _ _ h => h) ⟨rfl, rfl⟩ (by decide +kernel) (jo_zeq (off := 12) (tgt := 16) (by decide +kernel) (by decide) (sb_10_margin_16 l) (jo_iln (i := 2) (j := 2) (by decide +kernel) rfl (jo_zlt (off := 8) (tgt := 16) (by decide +kernel) (by decide) (sb_10_margin_16 l) (jo_iln (i := 2) (j := 2) (by decide +kernel) rfl (jo_ici (n := 1) (by decide +kernel) (by decide) (jo_cle (off := 5) (tgt := 18) (by decide +kernel) (by decide) (sb_10_margin_18 l) (sb_10_margin_16 l)))))))))
theorem ss_10_margin (l : Launch) : jw_Met l yy_10_margin cb_10_margin 3 (some .int) { frames := 3, cells := 0, slots := 0, locals := 72 } cc_10_margin := by
  refine jw_met (by decide) (fun pc => ?_)
  intro p e s m args below meth c Q D aC ad base K X RT ls st h z hf
  unfold qq_10_margin at hf
  by_cases h0 : pc = 0
  · subst h0; simp only [if_true, if_false, reduceIte, ↓reduceIte] at hf; exact sb_10_margin_0 l p e s m args below meth c Q D aC ad base K X RT ls st h z hf
  rw [if_neg h0] at hf
  exact hf.elim
abbrev cb_2_canBeMended : ByteArray := prog_4_method_16_code
abbrev yy_2_canBeMended : MethodName := ⟨"SwipedStripe$Finding", "canBeMended", "()Z"⟩
def bb_2_canBeMended_31 (K : jw_K) (J : Nat → jw_S) : jw_S := xo_rz 0 0 K
def bb_2_canBeMended_30 (K : jw_K) (J : Nat → jw_S) : jw_S := xo_ci 0 (bb_2_canBeMended_31 K J)
def bb_2_canBeMended_0 (K : jw_K) (J : Nat → jw_S) : jw_S := xo_al 0 (xo_gf 2 7 (xo_zeq (bb_2_canBeMended_30 K J) (xo_al 0 (xo_cv 2 cc_2_wrongSymbols 1 (xo_ci 1 (xo_cne (bb_2_canBeMended_30 K J) (xo_al 0 (xo_gf 2 8 (xo_cs cc_N_bitCount 1 (xo_ci 1 (xo_cgt (bb_2_canBeMended_30 K J) (xo_ci 1 (bb_2_canBeMended_31 K J)))))))))))))
def qq_2_canBeMended (K : jw_K) (pc : Nat) (J : Nat → jw_S) : jw_S := if pc = 0 then bb_2_canBeMended_0 K J else fun _ _ _ _ => False
def cc_2_canBeMended : jw_T := jw_C 1 qq_2_canBeMended
theorem sb_2_canBeMended_31 (l : Launch) : jo_Ok l cb_2_canBeMended 1 "SwipedStripe$Finding" "canBeMended" jw_ro { frames := 2, cells := 0, slots := 0, locals := 42 } (some .boolean) 0 0 bb_2_canBeMended_31 31 := (jo_rz rfl (by decide +kernel))
theorem sb_2_canBeMended_30 (l : Launch) : jo_Ok l cb_2_canBeMended 1 "SwipedStripe$Finding" "canBeMended" jw_ro { frames := 2, cells := 0, slots := 0, locals := 42 } (some .boolean) 0 0 bb_2_canBeMended_30 30 := (jo_ici (n := 0) (by decide +kernel) (by decide) (sb_2_canBeMended_31 l))
theorem sb_2_canBeMended_0 (l : Launch) : jo_Ok l cb_2_canBeMended 1 "SwipedStripe$Finding" "canBeMended" jw_ro { frames := 2, cells := 0, slots := 0, locals := 42 } (some .boolean) 0 0 bb_2_canBeMended_0 0 := (jo_aln (i := 0) (j := 0) (by decide +kernel) rfl (jo_gf (j := 7) jw_F2 (by decide) kw_167 (by decide +kernel) (jo_zeq (off := 26) (tgt := 30) (by decide +kernel) (by decide) (sb_2_canBeMended_30 l) (jo_aln (i := 0) (j := 0) (by decide +kernel) rfl (jo_cv (n := 0) (ss_2_wrongSymbols l) kw_726 kw_8 kw_723 kw_724 jw_F2 kw_725 ⟨by decide, by decide, by decide +kernel⟩ ⟨by decide, by decide⟩ (fun _ _ h => h) ⟨rfl, rfl⟩ (by decide +kernel) (jo_ici (n := 1) (by decide +kernel) (by decide) (jo_cne (off := 18) (tgt := 30) (by decide +kernel) (by decide) (sb_2_canBeMended_30 l) (jo_aln (i := 0) (j := 0) (by decide +kernel) rfl (jo_gf (j := 8) jw_F2 (by decide) kw_168 (by decide +kernel) (jo_cs (n := 1) (idx := 106) (ss_N_bitCount l) kw_539 kw_18 kw_718 kw_538 ⟨by decide, by decide, by decide +kernel⟩ ⟨by decide, by decide⟩ (fun _ _ h => h) ⟨rfl, rfl⟩ (by decide +kernel) (jo_ici (n := 1) (by decide +kernel) (by decide) (jo_cgt (off := 7) (tgt := 30) (by decide +kernel) (by decide) (sb_2_canBeMended_30 l) (jo_ici (n := 1) (by decide +kernel) (by decide) (jo_goto (off := 4) (tgt := 31) (by decide +kernel) (by decide) (sb_2_canBeMended_31 l)))))))))))))))
theorem ss_2_canBeMended (l : Launch) : jw_Met l yy_2_canBeMended cb_2_canBeMended 1 (some .boolean) { frames := 2, cells := 0, slots := 0, locals := 42 } cc_2_canBeMended := by
  refine jw_met (by decide) (fun pc => ?_)
  intro p e s m args below meth c Q D aC ad base K X RT ls st h z hf
  unfold qq_2_canBeMended at hf
  by_cases h0 : pc = 0
  · subst h0; simp only [if_true, if_false, reduceIte, ↓reduceIte] at hf; exact sb_2_canBeMended_0 l p e s m args below meth c Q D aC ad base K X RT ls st h z hf
  rw [if_neg h0] at hf
  exact hf.elim
abbrev cb_2_mendedBit : ByteArray := prog_4_method_19_code
abbrev yy_2_mendedBit : MethodName := ⟨"SwipedStripe$Finding", "mendedBit", "()I"⟩
def bb_2_mendedBit_21 (K : jw_K) (J : Nat → jw_S) : jw_S := xo_ri 0 0 K
def bb_2_mendedBit_12 (K : jw_K) (J : Nat → jw_S) : jw_S := xo_al 0 (xo_gf 2 8 (xo_ci 1 (xo_isub (xo_cs cc_N_bitCount 1 (bb_2_mendedBit_21 K J)))))
def bb_2_mendedBit_0 (K : jw_K) (J : Nat → jw_S) : jw_S := xo_al 0 (xo_gf 2 8 (xo_zne (bb_2_mendedBit_12 K J) (xo_ci (-4) (bb_2_mendedBit_21 K J))))
def qq_2_mendedBit (K : jw_K) (pc : Nat) (J : Nat → jw_S) : jw_S := if pc = 0 then bb_2_mendedBit_0 K J else fun _ _ _ _ => False
def cc_2_mendedBit : jw_T := jw_C 1 qq_2_mendedBit
theorem sb_2_mendedBit_21 (l : Launch) : jo_Ok l cb_2_mendedBit 1 "SwipedStripe$Finding" "mendedBit" jw_ro { frames := 1, cells := 0, slots := 0, locals := 20 } (some .int) 0 0 bb_2_mendedBit_21 21 := (jo_ri rfl (by decide +kernel))
theorem sb_2_mendedBit_12 (l : Launch) : jo_Ok l cb_2_mendedBit 1 "SwipedStripe$Finding" "mendedBit" jw_ro { frames := 1, cells := 0, slots := 0, locals := 20 } (some .int) 0 0 bb_2_mendedBit_12 12 := (jo_aln (i := 0) (j := 0) (by decide +kernel) rfl (jo_gf (j := 8) jw_F2 (by decide) kw_168 (by decide +kernel) (jo_ici (n := 1) (by decide +kernel) (by decide) (jo_isub (by decide +kernel) (jo_cs (n := 1) (idx := 106) (ss_N_bitCount l) kw_539 kw_18 kw_718 kw_538 ⟨by decide, by decide, by decide +kernel⟩ ⟨by decide, by decide⟩ (fun _ _ h => h) ⟨rfl, rfl⟩ (by decide +kernel) (sb_2_mendedBit_21 l))))))
theorem sb_2_mendedBit_0 (l : Launch) : jo_Ok l cb_2_mendedBit 1 "SwipedStripe$Finding" "mendedBit" jw_ro { frames := 1, cells := 0, slots := 0, locals := 20 } (some .int) 0 0 bb_2_mendedBit_0 0 := (jo_aln (i := 0) (j := 0) (by decide +kernel) rfl (jo_gf (j := 8) jw_F2 (by decide) kw_168 (by decide +kernel) (jo_zne (off := 8) (tgt := 12) (by decide +kernel) (by decide) (sb_2_mendedBit_12 l) (jo_bpi (n := -4) (by decide +kernel) (by decide) (jo_goto (off := 12) (tgt := 21) (by decide +kernel) (by decide) (sb_2_mendedBit_21 l))))))
theorem ss_2_mendedBit (l : Launch) : jw_Met l yy_2_mendedBit cb_2_mendedBit 1 (some .int) { frames := 1, cells := 0, slots := 0, locals := 20 } cc_2_mendedBit := by
  refine jw_met (by decide) (fun pc => ?_)
  intro p e s m args below meth c Q D aC ad base K X RT ls st h z hf
  unfold qq_2_mendedBit at hf
  by_cases h0 : pc = 0
  · subst h0; simp only [if_true, if_false, reduceIte, ↓reduceIte] at hf; exact sb_2_mendedBit_0 l p e s m args below meth c Q D aC ad base K X RT ls st h z hf
  rw [if_neg h0] at hf
  exact hf.elim
abbrev cb_2_mendedSymbol : ByteArray := prog_4_method_17_code
abbrev yy_2_mendedSymbol : MethodName := ⟨"SwipedStripe$Finding", "mendedSymbol", "()I"⟩
def bb_2_mendedSymbol_32 (K : jw_K) (J : Nat → jw_S) : jw_S := xo_ci (-4) (xo_ri 0 0 K)
def bb_2_mendedSymbol_26 (K : jw_K) (J : Nat → jw_S) : jw_S := xo_ic 1 1 (J 2)
def bb_2_mendedSymbol_2 (K : jw_K) (J : Nat → jw_S) : jw_S := xo_il 1 (xo_al 0 (xo_gf 2 1 (xo_cv 4 cc_4_size 1 (xo_cge (bb_2_mendedSymbol_32 K J) (xo_al 0 (xo_gf 2 1 (xo_il 1 (xo_cv 4 cc_4_at 2 (xo_zne (bb_2_mendedSymbol_26 K J) (xo_il 1 (xo_ri 0 0 K)))))))))))
def bb_2_mendedSymbol_0 (K : jw_K) (J : Nat → jw_S) : jw_S := xo_ci 0 (xo_is 1 (J 2))
def qq_2_mendedSymbol (K : jw_K) (pc : Nat) (J : Nat → jw_S) : jw_S := if pc = 0 then bb_2_mendedSymbol_0 K J else if pc = 2 then bb_2_mendedSymbol_2 K J else fun _ _ _ _ => False
def cc_2_mendedSymbol : jw_T := jw_C 2 qq_2_mendedSymbol
theorem sb_2_mendedSymbol_32 (l : Launch) : jo_Ok l cb_2_mendedSymbol 2 "SwipedStripe$Finding" "mendedSymbol" jw_ro { frames := 1, cells := 0, slots := 0, locals := 21 } (some .int) 0 0 bb_2_mendedSymbol_32 32 := (jo_bpi (n := -4) (by decide +kernel) (by decide) (jo_ri rfl (by decide +kernel)))
theorem sb_2_mendedSymbol_26 (l : Launch) : jo_Ok l cb_2_mendedSymbol 2 "SwipedStripe$Finding" "mendedSymbol" jw_ro { frames := 1, cells := 0, slots := 0, locals := 21 } (some .int) 0 0 bb_2_mendedSymbol_26 26 := (jo_ic (n0 := 1) (by decide +kernel) (by decide) (by decide) (jo_goto (off := -27) (tgt := 2) (by decide +kernel) (by decide) (jo_J)))
theorem sb_2_mendedSymbol_2 (l : Launch) : jo_Ok l cb_2_mendedSymbol 2 "SwipedStripe$Finding" "mendedSymbol" jw_ro { frames := 1, cells := 0, slots := 0, locals := 21 } (some .int) 0 0 bb_2_mendedSymbol_2 2 := (jo_iln (i := 1) (j := 1) (by decide +kernel) rfl (jo_aln (i := 0) (j := 0) (by decide +kernel) rfl (jo_gf (j := 1) jw_F2 (by decide) kw_161 (by decide +kernel) (jo_cv (n := 0) (ss_4_size l) kw_301 kw_3 kw_703 kw_299 jw_F4 kw_300 ⟨by decide, by decide, by decide +kernel⟩ ⟨by decide, by decide⟩ (fun _ _ h => h) ⟨rfl, rfl⟩ (by decide +kernel) (jo_cge (off := 22) (tgt := 32) (by decide +kernel) (by decide) (sb_2_mendedSymbol_32 l) (jo_aln (i := 0) (j := 0) (by decide +kernel) rfl (jo_gf (j := 1) jw_F2 (by decide) kw_161 (by decide +kernel) (jo_iln (i := 1) (j := 1) (by decide +kernel) rfl (jo_cv (n := 1) (ss_4_at l) kw_330 kw_3 kw_708 kw_328 jw_F4 kw_329 ⟨by decide, by decide, by decide +kernel⟩ ⟨by decide, by decide⟩ (fun _ _ h => h) ⟨rfl, rfl⟩ (by decide +kernel) (jo_zne (off := 5) (tgt := 26) (by decide +kernel) (by decide) (sb_2_mendedSymbol_26 l) (jo_iln (i := 1) (j := 1) (by decide +kernel) rfl (jo_ri rfl (by decide +kernel)))))))))))))
theorem sb_2_mendedSymbol_0 (l : Launch) : jo_Ok l cb_2_mendedSymbol 2 "SwipedStripe$Finding" "mendedSymbol" jw_ro { frames := 1, cells := 0, slots := 0, locals := 21 } (some .int) 0 0 bb_2_mendedSymbol_0 0 := (jo_ici (n := 0) (by decide +kernel) (by decide) (jo_isn (i := 1) (j := 1) (by decide +kernel) rfl (by decide) jo_J))
theorem ss_2_mendedSymbol (l : Launch) : jw_Met l yy_2_mendedSymbol cb_2_mendedSymbol 2 (some .int) { frames := 1, cells := 0, slots := 0, locals := 21 } cc_2_mendedSymbol := by
  refine jw_met (by decide) (fun pc => ?_)
  intro p e s m args below meth c Q D aC ad base K X RT ls st h z hf
  unfold qq_2_mendedSymbol at hf
  by_cases h0 : pc = 0
  · subst h0; simp only [if_true, if_false, reduceIte, ↓reduceIte] at hf; exact sb_2_mendedSymbol_0 l p e s m args below meth c Q D aC ad base K X RT ls st h z hf
  rw [if_neg h0] at hf
  by_cases h2 : pc = 2
  · subst h2; simp only [if_true, if_false, reduceIte, ↓reduceIte] at hf; exact sb_2_mendedSymbol_2 l p e s m args below meth c Q D aC ad base K X RT ls st h z hf
  rw [if_neg h2] at hf
  exact hf.elim
abbrev cb_2_mendedValue : ByteArray := prog_4_method_18_code
abbrev yy_2_mendedValue : MethodName := ⟨"SwipedStripe$Finding", "mendedValue", "()I"⟩
def bb_2_mendedValue_0 (K : jw_K) (J : Nat → jw_S) : jw_S := xo_al 0 (xo_gf 2 0 (xo_al 0 (xo_cv 2 cc_2_mendedSymbol 1 (xo_cv 4 cc_4_at 2 (xo_al 0 (xo_gf 2 8 (xo_ixor (xo_ri 0 0 K))))))))
def qq_2_mendedValue (K : jw_K) (pc : Nat) (J : Nat → jw_S) : jw_S := if pc = 0 then bb_2_mendedValue_0 K J else fun _ _ _ _ => False
def cc_2_mendedValue : jw_T := jw_C 1 qq_2_mendedValue
theorem sb_2_mendedValue_0 (l : Launch) : jo_Ok l cb_2_mendedValue 1 "SwipedStripe$Finding" "mendedValue" jw_ro { frames := 2, cells := 0, slots := 0, locals := 42 } (some .int) 0 0 bb_2_mendedValue_0 0 := (jo_aln (i := 0) (j := 0) (by decide +kernel) rfl (jo_gf (j := 0) jw_F2 (by decide) kw_160 (by decide +kernel) (jo_aln (i := 0) (j := 0) (by decide +kernel) rfl (jo_cv (n := 0) (ss_2_mendedSymbol l) kw_773 kw_8 kw_778 kw_771 jw_F2 kw_772 ⟨by decide, by decide, by decide +kernel⟩ ⟨by decide, by decide⟩ (fun _ _ h => h) ⟨rfl, rfl⟩ (by decide +kernel) (jo_cv (n := 1) (ss_4_at l) kw_330 kw_3 kw_708 kw_328 jw_F4 kw_329 ⟨by decide, by decide, by decide +kernel⟩ ⟨by decide, by decide⟩ (fun _ _ h => h) ⟨rfl, rfl⟩ (by decide +kernel) (jo_aln (i := 0) (j := 0) (by decide +kernel) rfl (jo_gf (j := 8) jw_F2 (by decide) kw_168 (by decide +kernel) (jo_ixor (by decide +kernel) (jo_ri rfl (by decide +kernel))))))))))
theorem ss_2_mendedValue (l : Launch) : jw_Met l yy_2_mendedValue cb_2_mendedValue 1 (some .int) { frames := 2, cells := 0, slots := 0, locals := 42 } cc_2_mendedValue := by
  refine jw_met (by decide) (fun pc => ?_)
  intro p e s m args below meth c Q D aC ad base K X RT ls st h z hf
  unfold qq_2_mendedValue at hf
  by_cases h0 : pc = 0
  · subst h0; simp only [if_true, if_false, reduceIte, ↓reduceIte] at hf; exact sb_2_mendedValue_0 l p e s m args below meth c Q D aC ad base K X RT ls st h z hf
  rw [if_neg h0] at hf
  exact hf.elim
abbrev cb_10_mended : ByteArray := prog_1_method_22_code
abbrev yy_10_mended : MethodName := ⟨"SwipedStripe", "mended", "(I)I"⟩
def bb_10_mended_78 (K : jw_K) (J : Nat → jw_S) : jw_S := xo_ri 0 0 K
def bb_10_mended_71 (K : jw_K) (J : Nat → jw_S) : jw_S := xo_al 0 (xo_gf 10 7 (xo_cv 2 cc_2_mendedBit 1 (bb_10_mended_78 K J)))
def bb_10_mended_56 (K : jw_K) (J : Nat → jw_S) : jw_S := xo_il 1 (xo_ci 1 (xo_cne (bb_10_mended_71 K J) (xo_al 0 (xo_gf 10 7 (xo_cv 2 cc_2_mendedValue 1 (bb_10_mended_78 K J))))))
def bb_10_mended_44 (K : jw_K) (J : Nat → jw_S) : jw_S := xo_il 1 (xo_zne (bb_10_mended_56 K J) (xo_al 0 (xo_gf 10 7 (xo_cv 2 cc_2_mendedSymbol 1 (xo_ri 0 0 K)))))
def bb_10_mended_31 (K : jw_K) (J : Nat → jw_S) : jw_S := xo_al 0 (xo_gf 10 7 (xo_cv 2 cc_2_canBeMended 1 (xo_zne (bb_10_mended_44 K J) (xo_ci (-4) (xo_ri 0 0 K)))))
def bb_10_mended_28 (K : jw_K) (J : Nat → jw_S) : jw_S := xo_ci (-2) (xo_ri 0 0 K)
def bb_10_mended_11 (K : jw_K) (J : Nat → jw_S) : jw_S := xo_al 0 (xo_cv 10 cc_10_findsValues 1 (xo_zeq (bb_10_mended_28 K J) (xo_al 0 (xo_gf 10 7 (xo_cv 2 cc_2_verdict 1 (xo_zne (bb_10_mended_31 K J) (bb_10_mended_28 K J)))))))
def bb_10_mended_9 (K : jw_K) (J : Nat → jw_S) : jw_S := xo_ci (-1) (xo_ri 0 0 K)
def bb_10_mended_0 (K : jw_K) (J : Nat → jw_S) : jw_S := xo_il 1 (xo_zlt (bb_10_mended_9 K J) (xo_il 1 (xo_ci 2 (xo_cle (bb_10_mended_11 K J) (bb_10_mended_9 K J)))))
def qq_10_mended (K : jw_K) (pc : Nat) (J : Nat → jw_S) : jw_S := if pc = 0 then bb_10_mended_0 K J else fun _ _ _ _ => False
def cc_10_mended : jw_T := jw_C 2 qq_10_mended
theorem sb_10_mended_78 (l : Launch) : jo_Ok l cb_10_mended 2 "SwipedStripe" "mended" jw_ro { frames := 6, cells := 0, slots := 0, locals := 133 } (some .int) 0 0 bb_10_mended_78 78 := (jo_ri rfl (by decide +kernel))
theorem sb_10_mended_71 (l : Launch) : jo_Ok l cb_10_mended 2 "SwipedStripe" "mended" jw_ro { frames := 6, cells := 0, slots := 0, locals := 133 } (some .int) 0 0 bb_10_mended_71 71 := (jo_aln (i := 0) (j := 0) (by decide +kernel) rfl (jo_gf (j := 7) jw_F10 (by decide) kw_261 (by decide +kernel) (jo_cv (n := 0) (ss_2_mendedBit l) kw_782 kw_8 kw_779 kw_780 jw_F2 kw_781 ⟨by decide, by decide, by decide +kernel⟩ ⟨by decide, by decide⟩ (fun _ _ h => h) ⟨rfl, rfl⟩ (by decide +kernel) (sb_10_mended_78 l))))
theorem sb_10_mended_56 (l : Launch) : jo_Ok l cb_10_mended 2 "SwipedStripe" "mended" jw_ro { frames := 6, cells := 0, slots := 0, locals := 133 } (some .int) 0 0 bb_10_mended_56 56 := (jo_iln (i := 1) (j := 1) (by decide +kernel) rfl (jo_ici (n := 1) (by decide +kernel) (by decide) (jo_cne (off := 13) (tgt := 71) (by decide +kernel) (by decide) (sb_10_mended_71 l) (jo_aln (i := 0) (j := 0) (by decide +kernel) rfl (jo_gf (j := 7) jw_F10 (by decide) kw_261 (by decide +kernel) (jo_cv (n := 0) (ss_2_mendedValue l) kw_777 kw_8 kw_774 kw_775 jw_F2 kw_776 ⟨by decide, by decide, by decide +kernel⟩ ⟨by decide, by decide⟩ (fun _ _ h => h) ⟨rfl, rfl⟩ (by decide +kernel) (jo_goto (off := 10) (tgt := 78) (by decide +kernel) (by decide) (sb_10_mended_78 l))))))))
theorem sb_10_mended_44 (l : Launch) : jo_Ok l cb_10_mended 2 "SwipedStripe" "mended" jw_ro { frames := 6, cells := 0, slots := 0, locals := 133 } (some .int) 0 0 bb_10_mended_44 44 := (jo_iln (i := 1) (j := 1) (by decide +kernel) rfl (jo_zne (off := 11) (tgt := 56) (by decide +kernel) (by decide) (sb_10_mended_56 l) (jo_aln (i := 0) (j := 0) (by decide +kernel) rfl (jo_gf (j := 7) jw_F10 (by decide) kw_261 (by decide +kernel) (jo_cv (n := 0) (ss_2_mendedSymbol l) kw_773 kw_8 kw_770 kw_771 jw_F2 kw_772 ⟨by decide, by decide, by decide +kernel⟩ ⟨by decide, by decide⟩ (fun _ _ h => h) ⟨rfl, rfl⟩ (by decide +kernel) (jo_ri rfl (by decide +kernel)))))))
theorem sb_10_mended_31 (l : Launch) : jo_Ok l cb_10_mended 2 "SwipedStripe" "mended" jw_ro { frames := 6, cells := 0, slots := 0, locals := 133 } (some .int) 0 0 bb_10_mended_31 31 := (jo_aln (i := 0) (j := 0) (by decide +kernel) rfl (jo_gf (j := 7) jw_F10 (by decide) kw_261 (by decide +kernel) (jo_cv (n := 0) (ss_2_canBeMended l) kw_769 kw_8 kw_766 kw_767 jw_F2 kw_768 ⟨by decide, by decide, by decide +kernel⟩ ⟨by decide, by decide⟩ (fun _ _ h => h) ⟨rfl, rfl⟩ (by decide +kernel) (jo_zne (off := 6) (tgt := 44) (by decide +kernel) (by decide) (sb_10_mended_44 l) (jo_bpi (n := -4) (by decide +kernel) (by decide) (jo_ri rfl (by decide +kernel)))))))
theorem sb_10_mended_28 (l : Launch) : jo_Ok l cb_10_mended 2 "SwipedStripe" "mended" jw_ro { frames := 6, cells := 0, slots := 0, locals := 133 } (some .int) 0 0 bb_10_mended_28 28 := (jo_bpi (n := -2) (by decide +kernel) (by decide) (jo_ri rfl (by decide +kernel)))
theorem sb_10_mended_11 (l : Launch) : jo_Ok l cb_10_mended 2 "SwipedStripe" "mended" jw_ro { frames := 6, cells := 0, slots := 0, locals := 133 } (some .int) 0 0 bb_10_mended_11 11 := (jo_aln (i := 0) (j := 0) (by decide +kernel) rfl (jo_cv (n := 0) (ss_10_findsValues l) kw_757 kw_1 kw_754 kw_756 jw_F10 kp_22 ⟨by decide, by decide, by decide +kernel⟩ ⟨by decide, by decide⟩ (fun _ _ h => h) ⟨rfl, rfl⟩ (by decide +kernel) (jo_zeq (off := 13) (tgt := 28) (by decide +kernel) (by decide) (sb_10_mended_28 l) (jo_aln (i := 0) (j := 0) (by decide +kernel) rfl (jo_gf (j := 7) jw_F10 (by decide) kw_261 (by decide +kernel) (jo_cv (n := 0) (ss_2_verdict l) kw_732 kw_8 kw_729 kw_730 jw_F2 kw_731 ⟨by decide, by decide, by decide +kernel⟩ ⟨by decide, by decide⟩ (fun _ _ h => h) ⟨rfl, rfl⟩ (by decide +kernel) (jo_zne (off := 6) (tgt := 31) (by decide +kernel) (by decide) (sb_10_mended_31 l) (sb_10_mended_28 l))))))))
theorem sb_10_mended_9 (l : Launch) : jo_Ok l cb_10_mended 2 "SwipedStripe" "mended" jw_ro { frames := 6, cells := 0, slots := 0, locals := 133 } (some .int) 0 0 bb_10_mended_9 9 := (jo_ici (n := -1) (by decide +kernel) (by decide) (jo_ri rfl (by decide +kernel)))
theorem sb_10_mended_0 (l : Launch) : jo_Ok l cb_10_mended 2 "SwipedStripe" "mended" jw_ro { frames := 6, cells := 0, slots := 0, locals := 133 } (some .int) 0 0 bb_10_mended_0 0 := (jo_iln (i := 1) (j := 1) (by decide +kernel) rfl (jo_zlt (off := 8) (tgt := 9) (by decide +kernel) (by decide) (sb_10_mended_9 l) (jo_iln (i := 1) (j := 1) (by decide +kernel) rfl (jo_ici (n := 2) (by decide +kernel) (by decide) (jo_cle (off := 5) (tgt := 11) (by decide +kernel) (by decide) (sb_10_mended_11 l) (sb_10_mended_9 l))))))
theorem ss_10_mended (l : Launch) : jw_Met l yy_10_mended cb_10_mended 2 (some .int) { frames := 6, cells := 0, slots := 0, locals := 133 } cc_10_mended := by
  refine jw_met (by decide) (fun pc => ?_)
  intro p e s m args below meth c Q D aC ad base K X RT ls st h z hf
  unfold qq_10_mended at hf
  by_cases h0 : pc = 0
  · subst h0; simp only [if_true, if_false, reduceIte, ↓reduceIte] at hf; exact sb_10_mended_0 l p e s m args below meth c Q D aC ad base K X RT ls st h z hf
  rw [if_neg h0] at hf
  exact hf.elim
