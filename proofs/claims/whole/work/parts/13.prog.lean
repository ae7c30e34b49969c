/-! blocks of methods, and that the machine does them: printed from the bytes -/
abbrev cb_10_turn : ByteArray := prog_1_method_17_code
abbrev yy_10_turn : MethodName := ⟨"SwipedStripe", "turn", "()I"⟩
def bb_10_turn_0 (K : jw_K) (J : Nat → jw_S) : jw_S := xo_al 0 (xo_gf 10 5 (xo_cv 4 cc_4_reverse 1 (xo_al 0 (xo_gf 10 5 (xo_cv 4 cc_4_size 1 (xo_ri 0 0 K))))))
def qq_10_turn (K : jw_K) (pc : Nat) (J : Nat → jw_S) : jw_S := if pc = 0 then bb_10_turn_0 K J else fun _ _ _ _ => False
def cc_10_turn : jw_T := jw_C 1 qq_10_turn
theorem sb_10_turn_0 (l : Launch) : jo_Ok l cb_10_turn 1 "SwipedStripe" "turn" jw_ro { frames := 1, cells := 0, slots := 0, locals := 23 } (some .int) 0 0 bb_10_turn_0 0 := (jo_aln (i := 0) (j := 0) (by decide +kernel) rfl (jo_gf (j := 5) jw_F10 (by decide) kw_259 (by decide +kernel) (jo_cv (n := 0) (ss_4_reverse l) kw_622 kw_3 kw_619 kw_620 jw_F4 kw_621 ⟨by decide, by decide, by decide +kernel⟩ ⟨by decide, by decide⟩ (fun _ _ h => h) ⟨rfl, rfl⟩ (by decide +kernel) (jo_aln (i := 0) (j := 0) (by decide +kernel) rfl (jo_gf (j := 5) jw_F10 (by decide) kw_259 (by decide +kernel) (jo_cv (n := 0) (ss_4_size l) kw_301 kw_3 kw_298 kw_299 jw_F4 kw_300 ⟨by decide, by decide, by decide +kernel⟩ ⟨by decide, by decide⟩ (fun _ _ h => h) ⟨rfl, rfl⟩ (by decide +kernel) (jo_ri rfl (by decide +kernel))))))))
theorem ss_10_turn (l : Launch) : jw_Met l yy_10_turn cb_10_turn 1 (some .int) { frames := 1, cells := 0, slots := 0, locals := 23 } cc_10_turn := by
  refine jw_met (by decide) (fun pc => ?_)
  intro p e s m args below meth c Q D aC ad base K X RT ls st h z hf
  unfold qq_10_turn at hf
  by_cases h0 : pc = 0
  · subst h0; simp only [if_true, if_false, reduceIte, ↓reduceIte] at hf; exact sb_10_turn_0 l p e s m args below meth c Q D aC ad base K X RT ls st h z hf
  rw [if_neg h0] at hf
  exact hf.elim
abbrev cb_10_value : ByteArray := prog_1_method_9_code
abbrev yy_10_value : MethodName := ⟨"SwipedStripe", "value", "(I)I"⟩
def bb_10_value_23 (K : jw_K) (J : Nat → jw_S) : jw_S := xo_ri 0 0 K
def bb_10_value_22 (K : jw_K) (J : Nat → jw_S) : jw_S := xo_ci (-1) (bb_10_value_23 K J)
def bb_10_value_0 (K : jw_K) (J : Nat → jw_S) : jw_S := xo_al 0 (xo_gf 10 3 (xo_il 1 (xo_cv 4 cc_4_has 2 (xo_zeq (bb_10_value_22 K J) (xo_al 0 (xo_gf 10 3 (xo_il 1 (xo_cv 4 cc_4_at 2 (bb_10_value_23 K J)))))))))
def qq_10_value (K : jw_K) (pc : Nat) (J : Nat → jw_S) : jw_S := if pc = 0 then bb_10_value_0 K J else fun _ _ _ _ => False
def cc_10_value : jw_T := jw_C 2 qq_10_value
theorem sb_10_value_23 (l : Launch) : jo_Ok l cb_10_value 2 "SwipedStripe" "value" jw_ro { frames := 1, cells := 0, slots := 0, locals := 21 } (some .int) 0 0 bb_10_value_23 23 := (jo_ri rfl (by decide +kernel))
theorem sb_10_value_22 (l : Launch) : jo_Ok l cb_10_value 2 "SwipedStripe" "value" jw_ro { frames := 1, cells := 0, slots := 0, locals := 21 } (some .int) 0 0 bb_10_value_22 22 := (jo_ici (n := -1) (by decide +kernel) (by decide) (sb_10_value_23 l))
theorem sb_10_value_0 (l : Launch) : jo_Ok l cb_10_value 2 "SwipedStripe" "value" jw_ro { frames := 1, cells := 0, slots := 0, locals := 21 } (some .int) 0 0 bb_10_value_0 0 := (jo_aln (i := 0) (j := 0) (by decide +kernel) rfl (jo_gf (j := 3) jw_F10 (by decide) kw_257 (by decide +kernel) (jo_iln (i := 1) (j := 1) (by decide +kernel) rfl (jo_cv (n := 1) (ss_4_has l) kw_346 kw_3 kw_512 kw_344 jw_F4 kw_345 ⟨by decide, by decide, by decide +kernel⟩ ⟨by decide, by decide⟩ (fun _ _ h => h) ⟨rfl, rfl⟩ (by decide +kernel) (jo_zeq (off := 14) (tgt := 22) (by decide +kernel) (by decide) (sb_10_value_22 l) (jo_aln (i := 0) (j := 0) (by decide +kernel) rfl (jo_gf (j := 3) jw_F10 (by decide) kw_257 (by decide +kernel) (jo_iln (i := 1) (j := 1) (by decide +kernel) rfl (jo_cv (n := 1) (ss_4_at l) kw_330 kw_3 kw_513 kw_328 jw_F4 kw_329 ⟨by decide, by decide, by decide +kernel⟩ ⟨by decide, by decide⟩ (fun _ _ h => h) ⟨rfl, rfl⟩ (by decide +kernel) (jo_goto (off := 4) (tgt := 23) (by decide +kernel) (by decide) (sb_10_value_23 l)))))))))))
theorem ss_10_value (l : Launch) : jw_Met l yy_10_value cb_10_value 2 (some .int) { frames := 1, cells := 0, slots := 0, locals := 21 } cc_10_value := by
  refine jw_met (by decide) (fun pc => ?_)
  intro p e s m args below meth c Q D aC ad base K X RT ls st h z hf
  unfold qq_10_value at hf
  by_cases h0 : pc = 0
  · subst h0; simp only [if_true, if_false, reduceIte, ↓reduceIte] at hf; exact sb_10_value_0 l p e s m args below meth c Q D aC ad base K X RT ls st h z hf
  rw [if_neg h0] at hf
  exact hf.elim
abbrev cb_10_way : ByteArray := prog_1_method_23_code
abbrev yy_10_way : MethodName := ⟨"SwipedStripe", "way", "()I"⟩
def bb_10_way_63 (K : jw_K) (J : Nat → jw_S) : jw_S := xo_ri 0 0 K
def bb_10_way_61 (K : jw_K) (J : Nat → jw_S) : jw_S := xo_ci (-4) (bb_10_way_63 K J)
def bb_10_way_29 (K : jw_K) (J : Nat → jw_S) : jw_S := xo_al 0 (xo_gf 10 5 (xo_cv 4 cc_4_reverse 1 (xo_al 0 (xo_cv 10 cc_10_look 1 (xo_al 0 (xo_gf 10 5 (xo_cv 4 cc_4_reverse 1 (xo_al 0 (xo_gf 10 7 (xo_cv 2 cc_2_verdict 1 (xo_zne (bb_10_way_61 K J) (xo_ci 1 (bb_10_way_63 K J)))))))))))))
def bb_10_way_13 (K : jw_K) (J : Nat → jw_S) : jw_S := xo_al 0 (xo_cv 10 cc_10_look 1 (xo_al 0 (xo_gf 10 7 (xo_cv 2 cc_2_verdict 1 (xo_zne (bb_10_way_29 K J) (xo_ci 0 (xo_ri 0 0 K)))))))
def bb_10_way_0 (K : jw_K) (J : Nat → jw_S) : jw_S := xo_al 0 (xo_gf 10 5 (xo_cv 4 cc_4_isEmpty 1 (xo_zeq (bb_10_way_13 K J) (xo_ci (-2) (xo_ri 0 0 K)))))
def qq_10_way (K : jw_K) (pc : Nat) (J : Nat → jw_S) : jw_S := if pc = 0 then bb_10_way_0 K J else fun _ _ _ _ => False
def cc_10_way : jw_T := jw_C 1 qq_10_way
theorem sb_10_way_63 (l : Launch) : jo_Ok l cb_10_way 1 "SwipedStripe" "way" jw_ro { frames := 5, cells := 0, slots := 0, locals := 113 } (some .int) 0 0 bb_10_way_63 63 := (jo_ri rfl (by decide +kernel))
theorem sb_10_way_61 (l : Launch) : jo_Ok l cb_10_way 1 "SwipedStripe" "way" jw_ro { frames := 5, cells := 0, slots := 0, locals := 113 } (some .int) 0 0 bb_10_way_61 61 := (jo_bpi (n := -4) (by decide +kernel) (by decide) (sb_10_way_63 l))
theorem sb_10_way_29 (l : Launch) : jo_Ok l cb_10_way 1 "SwipedStripe" "way" jw_ro { frames := 5, cells := 0, slots := 0, locals := 113 } (some .int) 0 0 bb_10_way_29 29 := (jo_aln (i := 0) (j := 0) (by decide +kernel) rfl (jo_gf (j := 5) jw_F10 (by decide) kw_259 (by decide +kernel) (jo_cv (n := 0) (ss_4_reverse l) kw_622 kw_3 kw_619 kw_620 jw_F4 kw_621 ⟨by decide, by decide, by decide +kernel⟩ ⟨by decide, by decide⟩ (fun _ _ h => h) ⟨rfl, rfl⟩ (by decide +kernel) (jo_aln (i := 0) (j := 0) (by decide +kernel) rfl (jo_cv (n := 0) (ss_10_look l) kw_689 kw_1 kw_686 kw_688 jw_F10 kp_16 ⟨by decide, by decide, by decide +kernel⟩ ⟨by decide, by decide⟩ (fun _ _ h => h) ⟨rfl, rfl⟩ (by decide +kernel) (jo_aln (i := 0) (j := 0) (by decide +kernel) rfl (jo_gf (j := 5) jw_F10 (by decide) kw_259 (by decide +kernel) (jo_cv (n := 0) (ss_4_reverse l) kw_622 kw_3 kw_619 kw_620 jw_F4 kw_621 ⟨by decide, by decide, by decide +kernel⟩ ⟨by decide, by decide⟩ (fun _ _ h => h) ⟨rfl, rfl⟩ (by decide +kernel) (jo_aln (i := 0) (j := 0) (by decide +kernel) rfl (jo_gf (j := 7) jw_F10 (by decide) kw_261 (by decide +kernel) (jo_cv (n := 0) (ss_2_verdict l) kw_732 kw_8 kw_729 kw_730 jw_F2 kw_731 ⟨by decide, by decide, by decide +kernel⟩ ⟨by decide, by decide⟩ (fun _ _ h => h) ⟨rfl, rfl⟩ (by decide +kernel) (jo_zne (off := 7) (tgt := 61) (by decide +kernel) (by decide) (sb_10_way_61 l) (jo_ici (n := 1) (by decide +kernel) (by decide) (jo_goto (off := 5) (tgt := 63) (by decide +kernel) (by decide) (sb_10_way_63 l)))))))))))))))
theorem sb_10_way_13 (l : Launch) : jo_Ok l cb_10_way 1 "SwipedStripe" "way" jw_ro { frames := 5, cells := 0, slots := 0, locals := 113 } (some .int) 0 0 bb_10_way_13 13 := (jo_aln (i := 0) (j := 0) (by decide +kernel) rfl (jo_cv (n := 0) (ss_10_look l) kw_689 kw_1 kw_686 kw_688 jw_F10 kp_16 ⟨by decide, by decide, by decide +kernel⟩ ⟨by decide, by decide⟩ (fun _ _ h => h) ⟨rfl, rfl⟩ (by decide +kernel) (jo_aln (i := 0) (j := 0) (by decide +kernel) rfl (jo_gf (j := 7) jw_F10 (by decide) kw_261 (by decide +kernel) (jo_cv (n := 0) (ss_2_verdict l) kw_732 kw_8 kw_729 kw_730 jw_F2 kw_731 ⟨by decide, by decide, by decide +kernel⟩ ⟨by decide, by decide⟩ (fun _ _ h => h) ⟨rfl, rfl⟩ (by decide +kernel) (jo_zne (off := 5) (tgt := 29) (by decide +kernel) (by decide) (sb_10_way_29 l) (jo_ici (n := 0) (by decide +kernel) (by decide) (jo_ri rfl (by decide +kernel)))))))))
theorem sb_10_way_0 (l : Launch) : jo_Ok l cb_10_way 1 "SwipedStripe" "way" jw_ro { frames := 5, cells := 0, slots := 0, locals := 113 } (some .int) 0 0 bb_10_way_0 0 := (jo_aln (i := 0) (j := 0) (by decide +kernel) rfl (jo_gf (j := 5) jw_F10 (by decide) kw_259 (by decide +kernel) (jo_cv (n := 0) (ss_4_isEmpty l) kw_633 kw_3 kw_630 kw_631 jw_F4 kw_632 ⟨by decide, by decide, by decide +kernel⟩ ⟨by decide, by decide⟩ (fun _ _ h => h) ⟨rfl, rfl⟩ (by decide +kernel) (jo_zeq (off := 6) (tgt := 13) (by decide +kernel) (by decide) (sb_10_way_13 l) (jo_bpi (n := -2) (by decide +kernel) (by decide) (jo_ri rfl (by decide +kernel)))))))
theorem ss_10_way (l : Launch) : jw_Met l yy_10_way cb_10_way 1 (some .int) { frames := 5, cells := 0, slots := 0, locals := 113 } cc_10_way := by
  refine jw_met (by decide) (fun pc => ?_)
  intro p e s m args below meth c Q D aC ad base K X RT ls st h z hf
  unfold qq_10_way at hf
  by_cases h0 : pc = 0
  · subst h0; simp only [if_true, if_false, reduceIte, ↓reduceIte] at hf; exact sb_10_way_0 l p e s m args below meth c Q D aC ad base K X RT ls st h z hf
  rw [if_neg h0] at hf
  exact hf.elim
abbrev cb_10_wipe : ByteArray := prog_1_method_35_code
abbrev yy_10_wipe : MethodName := ⟨"SwipedStripe", "wipe", "()I"⟩
def bb_10_wipe_0 (K : jw_K) (J : Nat → jw_S) : jw_S := xo_al 0 (xo_gf 10 5 (xo_cs cc_10_emptied 1 (xo_ri 0 0 K)))
def qq_10_wipe (K : jw_K) (pc : Nat) (J : Nat → jw_S) : jw_S := if pc = 0 then bb_10_wipe_0 K J else fun _ _ _ _ => False
def cc_10_wipe : jw_T := jw_C 1 qq_10_wipe
theorem sb_10_wipe_0 (l : Launch) : jo_Ok l cb_10_wipe 1 "SwipedStripe" "wipe" jw_ro { frames := 2, cells := 0, slots := 0, locals := 42 } (some .int) 0 0 bb_10_wipe_0 0 := (jo_aln (i := 0) (j := 0) (by decide +kernel) rfl (jo_gf (j := 5) jw_F10 (by decide) kw_259 (by decide +kernel) (jo_cs (n := 1) (idx := 129) (ss_10_emptied l) kw_507 kw_1 kw_505 kw_506 ⟨by decide, by decide, by decide +kernel⟩ ⟨by decide, by decide⟩ (fun _ _ h => h) ⟨rfl, rfl⟩ (by decide +kernel) (jo_ri rfl (by decide +kernel)))))
theorem ss_10_wipe (l : Launch) : jw_Met l yy_10_wipe cb_10_wipe 1 (some .int) { frames := 2, cells := 0, slots := 0, locals := 42 } cc_10_wipe := by
  refine jw_met (by decide) (fun pc => ?_)
  intro p e s m args below meth c Q D aC ad base K X RT ls st h z hf
  unfold qq_10_wipe at hf
  by_cases h0 : pc = 0
  · subst h0; simp only [if_true, if_false, reduceIte, ↓reduceIte] at hf; exact sb_10_wipe_0 l p e s m args below meth c Q D aC ad base K X RT ls st h z hf
  rw [if_neg h0] at hf
  exact hf.elim
abbrev cb_8_swayed : ByteArray := prog_10_method_6_code
abbrev yy_8_swayed : MethodName := ⟨"SwipedStripe$Stripe", "swayed", "(II)I"⟩
def bb_8_swayed_42 (K : jw_K) (J : Nat → jw_S) : jw_S := xo_iadd (xo_il 2 (xo_isub (xo_mmax (xo_ri 0 0 K))))
def bb_8_swayed_6 (K : jw_K) (J : Nat → jw_S) : jw_S := xo_al 0 (xo_al 0 (xo_gf 8 2 (xo_ci 1103515245 (xo_imul (xo_ci 12345 (xo_iadd (xo_pfi 8 2 (xo_al 0 (xo_gf 8 2 (xo_ci 16 (xo_iushr (xo_ci 32767 (xo_iand (xo_ci 2 (xo_il 2 (xo_imul (xo_ci 1 (xo_iadd (xo_irem (xo_is 3 (xo_ci 1 (xo_il 1 (xo_il 3 (bb_8_swayed_42 K J))))))))))))))))))))))))
def bb_8_swayed_0 (K : jw_K) (J : Nat → jw_S) : jw_S := xo_il 2 (xo_zgt (bb_8_swayed_6 K J) (xo_il 1 (xo_ri 0 0 K)))
def qq_8_swayed (K : jw_K) (pc : Nat) (J : Nat → jw_S) : jw_S := if pc = 0 then bb_8_swayed_0 K J else fun _ _ _ _ => False
def cc_8_swayed : jw_T := jw_C 4 qq_8_swayed
theorem sb_8_swayed_42 (l : Launch) : jo_Ok l cb_8_swayed 4 "SwipedStripe$Stripe" "swayed" jw_ro { frames := 1, cells := 0, slots := 0, locals := 24 } (some .int) 0 0 bb_8_swayed_42 42 := (jo_iadd (by decide +kernel) (jo_iln (i := 2) (j := 2) (by decide +kernel) rfl (jo_isub (by decide +kernel) (jo_mmax kw_576 kw_54 kw_4 kw_55 ⟨by decide, by decide⟩ (by decide +kernel) (jo_ri rfl (by decide +kernel))))))
theorem sb_8_swayed_6 (l : Launch) : jo_Ok l cb_8_swayed 4 "SwipedStripe$Stripe" "swayed" jw_ro { frames := 1, cells := 0, slots := 0, locals := 24 } (some .int) 0 0 bb_8_swayed_6 6 := (jo_aln (i := 0) (j := 0) (by decide +kernel) rfl (jo_aln (i := 0) (j := 0) (by decide +kernel) rfl (jo_gf (j := 2) jw_F8 (by decide) kw_114 (by decide +kernel) (jo_ldc (by decide +kernel) kw_581 (jo_imul (by decide +kernel) (jo_spi (n := 12345) (by decide +kernel) (by decide) (jo_iadd (by decide +kernel) (jo_pfi (j := 2) jw_F8 (by decide) kw_114 rfl rfl (by decide +kernel) (jo_aln (i := 0) (j := 0) (by decide +kernel) rfl (jo_gf (j := 2) jw_F8 (by decide) kw_114 (by decide +kernel) (jo_bpi (n := 16) (by decide +kernel) (by decide) (jo_iushr (by decide +kernel) (jo_spi (n := 32767) (by decide +kernel) (by decide) (jo_iand (by decide +kernel) (jo_ici (n := 2) (by decide +kernel) (by decide) (jo_iln (i := 2) (j := 2) (by decide +kernel) rfl (jo_imul (by decide +kernel) (jo_ici (n := 1) (by decide +kernel) (by decide) (jo_iadd (by decide +kernel) (jo_irem (by decide +kernel) (jo_isn (i := 3) (j := 3) (by decide +kernel) rfl (by decide) (jo_ici (n := 1) (by decide +kernel) (by decide) (jo_iln (i := 1) (j := 1) (by decide +kernel) rfl (jo_iln (i := 3) (j := 3) (by decide +kernel) rfl (sb_8_swayed_42 l)))))))))))))))))))))))))
theorem sb_8_swayed_0 (l : Launch) : jo_Ok l cb_8_swayed 4 "SwipedStripe$Stripe" "swayed" jw_ro { frames := 1, cells := 0, slots := 0, locals := 24 } (some .int) 0 0 bb_8_swayed_0 0 := (jo_iln (i := 2) (j := 2) (by decide +kernel) rfl (jo_zgt (off := 5) (tgt := 6) (by decide +kernel) (by decide) (sb_8_swayed_6 l) (jo_iln (i := 1) (j := 1) (by decide +kernel) rfl (jo_ri rfl (by decide +kernel)))))
theorem ss_8_swayed (l : Launch) : jw_Met l yy_8_swayed cb_8_swayed 4 (some .int) { frames := 1, cells := 0, slots := 0, locals := 24 } cc_8_swayed := by
  refine jw_met (by decide) (fun pc => ?_)
  intro p e s m args below meth c Q D aC ad base K X RT ls st h z hf
  unfold qq_8_swayed at hf
  by_cases h0 : pc = 0
  · subst h0; simp only [if_true, if_false, reduceIte, ↓reduceIte] at hf; exact sb_8_swayed_0 l p e s m args below meth c Q D aC ad base K X RT ls st h z hf
  rw [if_neg h0] at hf
  exact hf.elim
abbrev cb_8_layOut : ByteArray := prog_10_method_5_code
abbrev yy_8_layOut : MethodName := ⟨"SwipedStripe$Stripe", "layOut", "(LSwipedStripe$Row;IIII)V"⟩
def bb_8_layOut_111 (K : jw_K) (J : Nat → jw_S) : jw_S := xo_rv 0 0 K
def bb_8_layOut_105 (K : jw_K) (J : Nat → jw_S) : jw_S := xo_ic 6 1 (J 14)
def bb_8_layOut_72 (K : jw_K) (J : Nat → jw_S) : jw_S := xo_al 1 (xo_al 0 (xo_il 7 (xo_ci 2 (xo_idiv (xo_il 4 (xo_cv 8 cc_8_swayed 3 (xo_cv 4 cc_4_push 2 (xo_pop (xo_al 1 (xo_al 0 (xo_il 7 (xo_il 7 (xo_ci 2 (xo_idiv (xo_isub (xo_il 4 (xo_cv 8 cc_8_swayed 3 (xo_cv 4 cc_4_push 2 (xo_pop (bb_8_layOut_105 K J))))))))))))))))))))
def bb_8_layOut_62 (K : jw_K) (J : Nat → jw_S) : jw_S := xo_cv 8 cc_8_swayed 3 (xo_cv 4 cc_4_push 2 (xo_pop (bb_8_layOut_105 K J)))
def bb_8_layOut_14 (K : jw_K) (J : Nat → jw_S) : jw_S := xo_il 6 (xo_al 0 (xo_gf 8 0 (xo_cv 4 cc_4_size 1 (xo_cge (bb_8_layOut_111 K J) (xo_ci 4 (xo_ci 999 (xo_il 2 (xo_il 6 (xo_il 3 (xo_imul (xo_iadd (xo_mmin (xo_mmax (xo_is 7 (xo_al 0 (xo_gf 8 0 (xo_il 6 (xo_cv 4 cc_4_at 2 (xo_zne (bb_8_layOut_72 K J) (xo_al 1 (xo_al 0 (xo_il 7 (xo_il 4 (bb_8_layOut_62 K J))))))))))))))))))))))))
def bb_8_layOut_0 (K : jw_K) (J : Nat → jw_S) : jw_S := xo_al 1 (xo_ci 0 (xo_cv 4 cc_4_cut 2 (xo_al 0 (xo_il 5 (xo_pfi 8 2 (xo_ci 0 (xo_is 6 (J 14))))))))
def qq_8_layOut (K : jw_K) (pc : Nat) (J : Nat → jw_S) : jw_S := if pc = 0 then bb_8_layOut_0 K J else if pc = 14 then bb_8_layOut_14 K J else fun _ _ _ _ => False
def cc_8_layOut : jw_T := jw_C 8 qq_8_layOut
theorem sb_8_layOut_111 (l : Launch) : jo_Ok l cb_8_layOut 8 "SwipedStripe$Stripe" "layOut" jw_ro { frames := 2, cells := 0, slots := 0, locals := 47 } none 0 0 bb_8_layOut_111 111 := (jo_rv rfl (by decide +kernel))
theorem sb_8_layOut_105 (l : Launch) : jo_Ok l cb_8_layOut 8 "SwipedStripe$Stripe" "layOut" jw_ro { frames := 2, cells := 0, slots := 0, locals := 47 } none 0 0 bb_8_layOut_105 105 := (jo_ic (n0 := 1) (by decide +kernel) (by decide) (by decide) (jo_goto (off := -94) (tgt := 14) (by decide +kernel) (by decide) (jo_J)))
theorem sb_8_layOut_72 (l : Launch) : jo_Ok l cb_8_layOut 8 "SwipedStripe$Stripe" "layOut" jw_ro { frames := 2, cells := 0, slots := 0, locals := 47 } none 0 0 bb_8_layOut_72 72 := (jo_aln (i := 1) (j := 1) (by decide +kernel) rfl (jo_aln (i := 0) (j := 0) (by decide +kernel) rfl (jo_il (by decide +kernel) (jo_ici (n := 2) (by decide +kernel) (by decide) (jo_idiv (by decide +kernel) (jo_il (by decide +kernel) (jo_cv (n := 2) (ss_8_swayed l) kw_580 kw_6 kw_577 kw_579 jw_F8 kp_11 ⟨by decide, by decide, by decide +kernel⟩ ⟨by decide, by decide⟩ (fun _ _ h => h) ⟨rfl, rfl⟩ (by decide +kernel) (jo_cv (n := 1) (ss_4_push l) kw_305 kw_3 kw_528 kw_303 jw_F4 kw_304 ⟨by decide, by decide, by decide +kernel⟩ ⟨by decide, by decide⟩ (fun _ _ h => h) ⟨rfl, rfl⟩ (by decide +kernel) (jo_pop (by decide +kernel) (jo_aln (i := 1) (j := 1) (by decide +kernel) rfl (jo_aln (i := 0) (j := 0) (by decide +kernel) rfl (jo_il (by decide +kernel) (jo_il (by decide +kernel) (jo_ici (n := 2) (by decide +kernel) (by decide) (jo_idiv (by decide +kernel) (jo_isub (by decide +kernel) (jo_il (by decide +kernel) (jo_cv (n := 2) (ss_8_swayed l) kw_580 kw_6 kw_577 kw_579 jw_F8 kp_11 ⟨by decide, by decide, by decide +kernel⟩ ⟨by decide, by decide⟩ (fun _ _ h => h) ⟨rfl, rfl⟩ (by decide +kernel) (jo_cv (n := 1) (ss_4_push l) kw_305 kw_3 kw_528 kw_303 jw_F4 kw_304 ⟨by decide, by decide, by decide +kernel⟩ ⟨by decide, by decide⟩ (fun _ _ h => h) ⟨rfl, rfl⟩ (by decide +kernel) (jo_pop (by decide +kernel) (sb_8_layOut_105 l)))))))))))))))))))))
theorem sb_8_layOut_62 (l : Launch) : jo_Ok l cb_8_layOut 8 "SwipedStripe$Stripe" "layOut" jw_ro { frames := 2, cells := 0, slots := 0, locals := 47 } none 0 0 bb_8_layOut_62 62 := (jo_cv (n := 2) (ss_8_swayed l) kw_580 kw_6 kw_577 kw_579 jw_F8 kp_11 ⟨by decide, by decide, by decide +kernel⟩ ⟨by decide, by decide⟩ (fun _ _ h => h) ⟨rfl, rfl⟩ (by decide +kernel) (jo_cv (n := 1) (ss_4_push l) kw_305 kw_3 kw_528 kw_303 jw_F4 kw_304 ⟨by decide, by decide, by decide +kernel⟩ ⟨by decide, by decide⟩ (fun _ _ h => h) ⟨rfl, rfl⟩ (by decide +kernel) (jo_pop (by decide +kernel) (jo_goto (off := 36) (tgt := 105) (by decide +kernel) (by decide) (sb_8_layOut_105 l)))))
theorem sb_8_layOut_14 (l : Launch) : jo_Ok l cb_8_layOut 8 "SwipedStripe$Stripe" "layOut" jw_ro { frames := 2, cells := 0, slots := 0, locals := 47 } none 0 0 bb_8_layOut_14 14 := (jo_il (by decide +kernel) (jo_aln (i := 0) (j := 0) (by decide +kernel) rfl (jo_gf (j := 0) jw_F8 (by decide) kw_112 (by decide +kernel) (jo_cv (n := 0) (ss_4_size l) kw_301 kw_3 kw_543 kw_299 jw_F4 kw_300 ⟨by decide, by decide, by decide +kernel⟩ ⟨by decide, by decide⟩ (fun _ _ h => h) ⟨rfl, rfl⟩ (by decide +kernel) (jo_cge (off := 88) (tgt := 111) (by decide +kernel) (by decide) (sb_8_layOut_111 l) (jo_ici (n := 4) (by decide +kernel) (by decide) (jo_spi (n := 999) (by decide +kernel) (by decide) (jo_iln (i := 2) (j := 2) (by decide +kernel) rfl (jo_il (by decide +kernel) (jo_iln (i := 3) (j := 3) (by decide +kernel) rfl (jo_imul (by decide +kernel) (jo_iadd (by decide +kernel) (jo_mmin kw_573 kw_574 kw_4 kw_575 ⟨by decide, by decide⟩ (by decide +kernel) (jo_mmax kw_576 kw_54 kw_4 kw_55 ⟨by decide, by decide⟩ (by decide +kernel) (jo_is (by decide +kernel) (by decide) (jo_aln (i := 0) (j := 0) (by decide +kernel) rfl (jo_gf (j := 0) jw_F8 (by decide) kw_112 (by decide +kernel) (jo_il (by decide +kernel) (jo_cv (n := 1) (ss_4_at l) kw_330 kw_3 kw_544 kw_328 jw_F4 kw_329 ⟨by decide, by decide, by decide +kernel⟩ ⟨by decide, by decide⟩ (fun _ _ h => h) ⟨rfl, rfl⟩ (by decide +kernel) (jo_zne (off := 19) (tgt := 72) (by decide +kernel) (by decide) (sb_8_layOut_72 l) (jo_aln (i := 1) (j := 1) (by decide +kernel) rfl (jo_aln (i := 0) (j := 0) (by decide +kernel) rfl (jo_il (by decide +kernel) (jo_il (by decide +kernel) (sb_8_layOut_62 l)))))))))))))))))))))))))
theorem sb_8_layOut_0 (l : Launch) : jo_Ok l cb_8_layOut 8 "SwipedStripe$Stripe" "layOut" jw_ro { frames := 2, cells := 0, slots := 0, locals := 47 } none 0 0 bb_8_layOut_0 0 := (jo_aln (i := 1) (j := 1) (by decide +kernel) rfl (jo_ici (n := 0) (by decide +kernel) (by decide) (jo_cv (n := 1) (ss_4_cut l) kw_313 kw_3 kw_522 kw_311 jw_F4 kw_312 ⟨by decide, by decide, by decide +kernel⟩ ⟨by decide, by decide⟩ (fun _ _ h => h) ⟨rfl, rfl⟩ (by decide +kernel) (jo_aln (i := 0) (j := 0) (by decide +kernel) rfl (jo_il (by decide +kernel) (jo_pfi (j := 2) jw_F8 (by decide) kw_114 rfl rfl (by decide +kernel) (jo_ici (n := 0) (by decide +kernel) (by decide) (jo_is (by decide +kernel) (by decide) jo_J))))))))
theorem ss_8_layOut (l : Launch) : jw_Met l yy_8_layOut cb_8_layOut 8 none { frames := 2, cells := 0, slots := 0, locals := 47 } cc_8_layOut := by
  refine jw_met (by decide) (fun pc => ?_)
  intro p e s m args below meth c Q D aC ad base K X RT ls st h z hf
  unfold qq_8_layOut at hf
  by_cases h0 : pc = 0
  · subst h0; simp only [if_true, if_false, reduceIte, ↓reduceIte] at hf; exact sb_8_layOut_0 l p e s m args below meth c Q D aC ad base K X RT ls st h z hf
  rw [if_neg h0] at hf
  by_cases h14 : pc = 14
  · subst h14; simp only [if_true, if_false, reduceIte, ↓reduceIte] at hf; exact sb_8_layOut_14 l p e s m args below meth c Q D aC ad base K X RT ls st h z hf
  rw [if_neg h14] at hf
  exact hf.elim
abbrev cb_10_write : ByteArray := prog_1_method_12_code
abbrev yy_10_write : MethodName := ⟨"SwipedStripe", "write", "(IIII)I"⟩
def bb_10_write_83 (K : jw_K) (J : Nat → jw_S) : jw_S := xo_al 0 (xo_gf 10 4 (xo_al 0 (xo_gf 10 5 (xo_il 1 (xo_il 2 (xo_il 3 (xo_il 4 (xo_cv 8 cc_8_layOut 6 (xo_al 0 (xo_gf 10 5 (xo_cv 4 cc_4_size 1 (xo_ri 0 0 K))))))))))))
def bb_10_write_38 (K : jw_K) (J : Nat → jw_S) : jw_S := xo_al 0 (xo_gf 10 4 (xo_al 0 (xo_gf 10 0 (xo_al 0 (xo_gf 10 3 (xo_cv 8 cc_8_build 3 (xo_al 0 (xo_gf 10 4 (xo_cv 8 cc_8_bits 1 (xo_cv 4 cc_4_size 1 (xo_al 0 (xo_gf 10 4 (xo_cv 8 cc_8_bits 1 (xo_cv 4 cc_4_sum 1 (xo_iadd (xo_ci 320 (xo_cle (bb_10_write_83 K J) (xo_ci (-3) (xo_ri 0 0 K)))))))))))))))))))
def bb_10_write_36 (K : jw_K) (J : Nat → jw_S) : jw_S := xo_ci (-1) (xo_ri 0 0 K)
def bb_10_write_26 (K : jw_K) (J : Nat → jw_S) : jw_S := xo_il 3 (xo_zlt (bb_10_write_36 K J) (xo_il 3 (xo_ci 99 (xo_cle (bb_10_write_38 K J) (bb_10_write_36 K J)))))
def bb_10_write_24 (K : jw_K) (J : Nat → jw_S) : jw_S := xo_ci (-1) (xo_ri 0 0 K)
def bb_10_write_0 (K : jw_K) (J : Nat → jw_S) : jw_S := xo_il 1 (xo_ci 4 (xo_clt (bb_10_write_24 K J) (xo_il 1 (xo_ci 999 (xo_cgt (bb_10_write_24 K J) (xo_il 2 (xo_ci (-50) (xo_clt (bb_10_write_24 K J) (xo_il 2 (xo_ci 50 (xo_cle (bb_10_write_26 K J) (bb_10_write_24 K J))))))))))))
def qq_10_write (K : jw_K) (pc : Nat) (J : Nat → jw_S) : jw_S := if pc = 0 then bb_10_write_0 K J else fun _ _ _ _ => False
def cc_10_write : jw_T := jw_C 5 qq_10_write
theorem sb_10_write_83 (l : Launch) : jo_Ok l cb_10_write 5 "SwipedStripe" "write" jw_ro { frames := 5, cells := 0, slots := 0, locals := 112 } (some .int) 0 0 bb_10_write_83 83 := (jo_aln (i := 0) (j := 0) (by decide +kernel) rfl (jo_gf (j := 4) jw_F10 (by decide) kw_258 (by decide +kernel) (jo_aln (i := 0) (j := 0) (by decide +kernel) rfl (jo_gf (j := 5) jw_F10 (by decide) kw_259 (by decide +kernel) (jo_iln (i := 1) (j := 1) (by decide +kernel) rfl (jo_iln (i := 2) (j := 2) (by decide +kernel) rfl (jo_iln (i := 3) (j := 3) (by decide +kernel) rfl (jo_il (by decide +kernel) (jo_cv (n := 5) (ss_8_layOut l) kw_572 kw_6 kw_569 kw_570 jw_F8 kw_571 ⟨by decide, by decide, by decide +kernel⟩ ⟨by decide, by decide⟩ (fun _ _ h => h) ⟨rfl, rfl⟩ (by decide +kernel) (jo_aln (i := 0) (j := 0) (by decide +kernel) rfl (jo_gf (j := 5) jw_F10 (by decide) kw_259 (by decide +kernel) (jo_cv (n := 0) (ss_4_size l) kw_301 kw_3 kw_298 kw_299 jw_F4 kw_300 ⟨by decide, by decide, by decide +kernel⟩ ⟨by decide, by decide⟩ (fun _ _ h => h) ⟨rfl, rfl⟩ (by decide +kernel) (jo_ri rfl (by decide +kernel))))))))))))))
theorem sb_10_write_38 (l : Launch) : jo_Ok l cb_10_write 5 "SwipedStripe" "write" jw_ro { frames := 5, cells := 0, slots := 0, locals := 112 } (some .int) 0 0 bb_10_write_38 38 := (jo_aln (i := 0) (j := 0) (by decide +kernel) rfl (jo_gf (j := 4) jw_F10 (by decide) kw_258 (by decide +kernel) (jo_aln (i := 0) (j := 0) (by decide +kernel) rfl (jo_gf (j := 0) jw_F10 (by decide) kw_254 (by decide +kernel) (jo_aln (i := 0) (j := 0) (by decide +kernel) rfl (jo_gf (j := 3) jw_F10 (by decide) kw_257 (by decide +kernel) (jo_cv (n := 2) (ss_8_build l) kw_521 kw_6 kw_518 kw_519 jw_F8 kw_520 ⟨by decide, by decide, by decide +kernel⟩ ⟨by decide, by decide⟩ (fun _ _ h => h) ⟨rfl, rfl⟩ (by decide +kernel) (jo_aln (i := 0) (j := 0) (by decide +kernel) rfl (jo_gf (j := 4) jw_F10 (by decide) kw_258 (by decide +kernel) (jo_cv (n := 0) (ss_8_bits l) kw_552 kw_6 kw_549 kw_550 jw_F8 kw_551 ⟨by decide, by decide, by decide +kernel⟩ ⟨by decide, by decide⟩ (fun _ _ h => h) ⟨rfl, rfl⟩ (by decide +kernel) (jo_cv (n := 0) (ss_4_size l) kw_301 kw_3 kw_298 kw_299 jw_F4 kw_300 ⟨by decide, by decide, by decide +kernel⟩ ⟨by decide, by decide⟩ (fun _ _ h => h) ⟨rfl, rfl⟩ (by decide +kernel) (jo_aln (i := 0) (j := 0) (by decide +kernel) rfl (jo_gf (j := 4) jw_F10 (by decide) kw_258 (by decide +kernel) (jo_cv (n := 0) (ss_8_bits l) kw_552 kw_6 kw_549 kw_550 jw_F8 kw_551 ⟨by decide, by decide, by decide +kernel⟩ ⟨by decide, by decide⟩ (fun _ _ h => h) ⟨rfl, rfl⟩ (by decide +kernel) (jo_cv (n := 0) (ss_4_sum l) kw_556 kw_3 kw_553 kw_554 jw_F4 kw_555 ⟨by decide, by decide, by decide +kernel⟩ ⟨by decide, by decide⟩ (fun _ _ h => h) ⟨rfl, rfl⟩ (by decide +kernel) (jo_iadd (by decide +kernel) (jo_spi (n := 320) (by decide +kernel) (by decide) (jo_cle (off := 6) (tgt := 83) (by decide +kernel) (by decide) (sb_10_write_83 l) (jo_bpi (n := -3) (by decide +kernel) (by decide) (jo_ri rfl (by decide +kernel)))))))))))))))))))))
theorem sb_10_write_36 (l : Launch) : jo_Ok l cb_10_write 5 "SwipedStripe" "write" jw_ro { frames := 5, cells := 0, slots := 0, locals := 112 } (some .int) 0 0 bb_10_write_36 36 := (jo_ici (n := -1) (by decide +kernel) (by decide) (jo_ri rfl (by decide +kernel)))
theorem sb_10_write_26 (l : Launch) : jo_Ok l cb_10_write 5 "SwipedStripe" "write" jw_ro { frames := 5, cells := 0, slots := 0, locals := 112 } (some .int) 0 0 bb_10_write_26 26 := (jo_iln (i := 3) (j := 3) (by decide +kernel) rfl (jo_zlt (off := 9) (tgt := 36) (by decide +kernel) (by decide) (sb_10_write_36 l) (jo_iln (i := 3) (j := 3) (by decide +kernel) rfl (jo_bpi (n := 99) (by decide +kernel) (by decide) (jo_cle (off := 5) (tgt := 38) (by decide +kernel) (by decide) (sb_10_write_38 l) (sb_10_write_36 l))))))
theorem sb_10_write_24 (l : Launch) : jo_Ok l cb_10_write 5 "SwipedStripe" "write" jw_ro { frames := 5, cells := 0, slots := 0, locals := 112 } (some .int) 0 0 bb_10_write_24 24 := (jo_ici (n := -1) (by decide +kernel) (by decide) (jo_ri rfl (by decide +kernel)))
theorem sb_10_write_0 (l : Launch) : jo_Ok l cb_10_write 5 "SwipedStripe" "write" jw_ro { frames := 5, cells := 0, slots := 0, locals := 112 } (some .int) 0 0 bb_10_write_0 0 := (jo_iln (i := 1) (j := 1) (by decide +kernel) rfl (jo_ici (n := 4) (by decide +kernel) (by decide) (jo_clt (off := 22) (tgt := 24) (by decide +kernel) (by decide) (sb_10_write_24 l) (jo_iln (i := 1) (j := 1) (by decide +kernel) rfl (jo_spi (n := 999) (by decide +kernel) (by decide) (jo_cgt (off := 15) (tgt := 24) (by decide +kernel) (by decide) (sb_10_write_24 l) (jo_iln (i := 2) (j := 2) (by decide +kernel) rfl (jo_bpi (n := -50) (by decide +kernel) (by decide) (jo_clt (off := 9) (tgt := 24) (by decide +kernel) (by decide) (sb_10_write_24 l) (jo_iln (i := 2) (j := 2) (by decide +kernel) rfl (jo_bpi (n := 50) (by decide +kernel) (by decide) (jo_cle (off := 5) (tgt := 26) (by decide +kernel) (by decide) (sb_10_write_26 l) (sb_10_write_24 l)))))))))))))
theorem ss_10_write (l : Launch) : jw_Met l yy_10_write cb_10_write 5 (some .int) { frames := 5, cells := 0, slots := 0, locals := 112 } cc_10_write := by
  refine jw_met (by decide) (fun pc => ?_)
  intro p e s m args below meth c Q D aC ad base K X RT ls st h z hf
  unfold qq_10_write at hf
  by_cases h0 : pc = 0
  · subst h0; simp only [if_true, if_false, reduceIte, ↓reduceIte] at hf; exact sb_10_write_0 l p e s m args below meth c Q D aC ad base K X RT ls st h z hf
  rw [if_neg h0] at hf
  exact hf.elim
abbrev cb_11_in : ByteArray := prog_13_method_3_code
abbrev yy_11_in : MethodName := ⟨"SwipedStripeModel", "in", "(JJJ)Z"⟩
def bb_11_in_18 (K : jw_K) (J : Nat → jw_S) : jw_S := xo_rz 0 0 K
def bb_11_in_17 (K : jw_K) (J : Nat → jw_S) : jw_S := xo_ci 0 (bb_11_in_18 K J)
def bb_11_in_0 (K : jw_K) (J : Nat → jw_S) : jw_S := xo_ll 0 (xo_ll 2 (xo_lcmp (xo_zlt (bb_11_in_17 K J) (xo_ll 0 (xo_ll 4 (xo_lcmp (xo_zgt (bb_11_in_17 K J) (xo_ci 1 (bb_11_in_18 K J)))))))))
def qq_11_in (K : jw_K) (pc : Nat) (J : Nat → jw_S) : jw_S := if pc = 0 then bb_11_in_0 K J else fun _ _ _ _ => False
def cc_11_in : jw_T := jw_C 6 qq_11_in
theorem sb_11_in_18 (l : Launch) : jo_Ok l cb_11_in 6 "SwipedStripeModel" "in" jw_ro { frames := 0, cells := 0, slots := 0, locals := 0 } (some .boolean) 0 0 bb_11_in_18 18 := (jo_rz rfl (by decide +kernel))
theorem sb_11_in_17 (l : Launch) : jo_Ok l cb_11_in 6 "SwipedStripeModel" "in" jw_ro { frames := 0, cells := 0, slots := 0, locals := 0 } (some .boolean) 0 0 bb_11_in_17 17 := (jo_ici (n := 0) (by decide +kernel) (by decide) (sb_11_in_18 l))
theorem sb_11_in_0 (l : Launch) : jo_Ok l cb_11_in 6 "SwipedStripeModel" "in" jw_ro { frames := 0, cells := 0, slots := 0, locals := 0 } (some .boolean) 0 0 bb_11_in_0 0 := (jo_lln (i := 0) (j := 0) (by decide +kernel) rfl (jo_lln (i := 2) (j := 2) (by decide +kernel) rfl (jo_lcmp (by decide +kernel) (jo_zlt (off := 14) (tgt := 17) (by decide +kernel) (by decide) (sb_11_in_17 l) (jo_lln (i := 0) (j := 0) (by decide +kernel) rfl (jo_ll (by decide +kernel) (jo_lcmp (by decide +kernel) (jo_zgt (off := 7) (tgt := 17) (by decide +kernel) (by decide) (sb_11_in_17 l) (jo_ici (n := 1) (by decide +kernel) (by decide) (jo_goto (off := 4) (tgt := 18) (by decide +kernel) (by decide) (sb_11_in_18 l)))))))))))
theorem ss_11_in (l : Launch) : jw_Met l yy_11_in cb_11_in 6 (some .boolean) { frames := 0, cells := 0, slots := 0, locals := 0 } cc_11_in := by
  refine jw_met (by decide) (fun pc => ?_)
  intro p e s m args below meth c Q D aC ad base K X RT ls st h z hf
  unfold qq_11_in at hf
  by_cases h0 : pc = 0
  · subst h0; simp only [if_true, if_false, reduceIte, ↓reduceIte] at hf; exact sb_11_in_0 l p e s m args below meth c Q D aC ad base K X RT ls st h z hf
  rw [if_neg h0] at hf
  exact hf.elim
abbrev cb_11_add : ByteArray := prog_13_method_14_code
abbrev yy_11_add : MethodName := ⟨"SwipedStripeModel", "add", "(I)I"⟩
def bb_11_add_54 (K : jw_K) (J : Nat → jw_S) : jw_S := xo_al 0 (xo_gf 11 17 (xo_al 0 (xo_gf 11 18 (xo_il 1 (xo_iast (xo_al 0 (xo_dup (xo_gf 11 18 (xo_ci 1 (xo_iadd (xo_pfi 11 18 (xo_al 0 (xo_gf 11 18 (xo_ri 0 0 K))))))))))))))
def bb_11_add_42 (K : jw_K) (J : Nat → jw_S) : jw_S := xo_al 0 (xo_gf 11 18 (xo_ci 16 (xo_cne (bb_11_add_54 K J) (xo_ci (-3) (xo_ri 0 0 K)))))
def bb_11_add_40 (K : jw_K) (J : Nat → jw_S) : jw_S := xo_ci (-1) (xo_ri 0 0 K)
def bb_11_add_36 (K : jw_K) (J : Nat → jw_S) : jw_S := xo_iald jw_ro (xo_cne (bb_11_add_42 K J) (bb_11_add_40 K J))
def bb_11_add_0 (K : jw_K) (J : Nat → jw_S) : jw_S := xo_il 1 (xo_i2l (xo_cl 0 (xo_ci 1 (xo_al 0 (xo_gf 11 14 (xo_ci 0 (xo_iald jw_ro (xo_ishl (xo_ci 1 (xo_isub (xo_i2l (xo_cs cc_11_in 3 (xo_zeq (bb_11_add_40 K J) (xo_il 1 (xo_al 0 (xo_gf 11 14 (xo_ci 2 (xo_iald jw_ro (xo_ceq (bb_11_add_40 K J) (xo_il 1 (xo_al 0 (xo_gf 11 14 (xo_ci 3 (bb_11_add_36 K J))))))))))))))))))))))))
def qq_11_add (K : jw_K) (pc : Nat) (J : Nat → jw_S) : jw_S := if pc = 0 then bb_11_add_0 K J else fun _ _ _ _ => False
def cc_11_add : jw_T := jw_C 2 qq_11_add
theorem sb_11_add_54 (l : Launch) : jo_Ok l cb_11_add 2 "SwipedStripeModel" "add" jw_ro { frames := 1, cells := 0, slots := 0, locals := 25 } (some .int) 0 0 bb_11_add_54 54 := (jo_aln (i := 0) (j := 0) (by decide +kernel) rfl (jo_gf (j := 17) jw_F11 (by decide) kw_1049 (by decide +kernel) (jo_aln (i := 0) (j := 0) (by decide +kernel) rfl (jo_gf (j := 18) jw_F11 (by decide) kw_1050 (by decide +kernel) (jo_iln (i := 1) (j := 1) (by decide +kernel) rfl (jo_iast (by decide +kernel) (jo_aln (i := 0) (j := 0) (by decide +kernel) rfl (jo_dup (by decide +kernel) (jo_gf (j := 18) jw_F11 (by decide) kw_1050 (by decide +kernel) (jo_ici (n := 1) (by decide +kernel) (by decide) (jo_iadd (by decide +kernel) (jo_pfi (j := 18) jw_F11 (by decide) kw_1050 rfl rfl (by decide +kernel) (jo_aln (i := 0) (j := 0) (by decide +kernel) rfl (jo_gf (j := 18) jw_F11 (by decide) kw_1050 (by decide +kernel) (jo_ri rfl (by decide +kernel))))))))))))))))
theorem sb_11_add_42 (l : Launch) : jo_Ok l cb_11_add 2 "SwipedStripeModel" "add" jw_ro { frames := 1, cells := 0, slots := 0, locals := 25 } (some .int) 0 0 bb_11_add_42 42 := (jo_aln (i := 0) (j := 0) (by decide +kernel) rfl (jo_gf (j := 18) jw_F11 (by decide) kw_1050 (by decide +kernel) (jo_bpi (n := 16) (by decide +kernel) (by decide) (jo_cne (off := 6) (tgt := 54) (by decide +kernel) (by decide) (sb_11_add_54 l) (jo_bpi (n := -3) (by decide +kernel) (by decide) (jo_ri rfl (by decide +kernel)))))))
theorem sb_11_add_40 (l : Launch) : jo_Ok l cb_11_add 2 "SwipedStripeModel" "add" jw_ro { frames := 1, cells := 0, slots := 0, locals := 25 } (some .int) 0 0 bb_11_add_40 40 := (jo_ici (n := -1) (by decide +kernel) (by decide) (jo_ri rfl (by decide +kernel)))
theorem sb_11_add_36 (l : Launch) : jo_Ok l cb_11_add 2 "SwipedStripeModel" "add" jw_ro { frames := 1, cells := 0, slots := 0, locals := 25 } (some .int) 0 0 bb_11_add_36 36 := (jo_iald (by decide +kernel) (jo_cne (off := 5) (tgt := 42) (by decide +kernel) (by decide) (sb_11_add_42 l) (sb_11_add_40 l)))
theorem sb_11_add_0 (l : Launch) : jo_Ok l cb_11_add 2 "SwipedStripeModel" "add" jw_ro { frames := 1, cells := 0, slots := 0, locals := 25 } (some .int) 0 0 bb_11_add_0 0 := (jo_iln (i := 1) (j := 1) (by decide +kernel) rfl (jo_i2l (by decide +kernel) (jo_lco (n := 0) (by decide +kernel) (by decide) (jo_ici (n := 1) (by decide +kernel) (by decide) (jo_aln (i := 0) (j := 0) (by decide +kernel) rfl (jo_gf (j := 14) jw_F11 (by decide) kw_1046 (by decide +kernel) (jo_ici (n := 0) (by decide +kernel) (by decide) (jo_iald (by decide +kernel) (jo_ishl (by decide +kernel) (jo_ici (n := 1) (by decide +kernel) (by decide) (jo_isub (by decide +kernel) (jo_i2l (by decide +kernel) (jo_cs (n := 3) (idx := 81) (ss_11_in l) kw_1194 kw_13 kw_1192 kw_1193 ⟨by decide, by decide, by decide +kernel⟩ ⟨by decide, by decide⟩ (fun _ _ h => h) ⟨rfl, rfl⟩ (by decide +kernel) (jo_zeq (off := 23) (tgt := 40) (by decide +kernel) (by decide) (sb_11_add_40 l) (jo_iln (i := 1) (j := 1) (by decide +kernel) rfl (jo_aln (i := 0) (j := 0) (by decide +kernel) rfl (jo_gf (j := 14) jw_F11 (by decide) kw_1046 (by decide +kernel) (jo_ici (n := 2) (by decide +kernel) (by decide) (jo_iald (by decide +kernel) (jo_ceq (off := 13) (tgt := 40) (by decide +kernel) (by decide) (sb_11_add_40 l) (jo_iln (i := 1) (j := 1) (by decide +kernel) rfl (jo_aln (i := 0) (j := 0) (by decide +kernel) rfl (jo_gf (j := 14) jw_F11 (by decide) kw_1046 (by decide +kernel) (jo_ici (n := 3) (by decide +kernel) (by decide) (sb_11_add_36 l)))))))))))))))))))))))))
theorem ss_11_add (l : Launch) : jw_Met l yy_11_add cb_11_add 2 (some .int) { frames := 1, cells := 0, slots := 0, locals := 25 } cc_11_add := by
  refine jw_met (by decide) (fun pc => ?_)
  intro p e s m args below meth c Q D aC ad base K X RT ls st h z hf
  unfold qq_11_add at hf
  by_cases h0 : pc = 0
  · subst h0; simp only [if_true, if_false, reduceIte, ↓reduceIte] at hf; exact sb_11_add_0 l p e s m args below meth c Q D aC ad base K X RT ls st h z hf
  rw [if_neg h0] at hf
  exact hf.elim
abbrev cb_11_isGap : ByteArray := prog_13_method_28_code
abbrev yy_11_isGap : MethodName := ⟨"SwipedStripeModel", "isGap", "(I)Z"⟩
def bb_11_isGap_0 (K : jw_K) (J : Nat → jw_S) : jw_S := xo_il 1 (xo_i2l (xo_cl 0 (xo_al 0 (xo_gf 11 22 (xo_ci 1 (xo_isub (xo_i2l (xo_cs cc_11_in 3 (xo_rz 0 0 K)))))))))
def qq_11_isGap (K : jw_K) (pc : Nat) (J : Nat → jw_S) : jw_S := if pc = 0 then bb_11_isGap_0 K J else fun _ _ _ _ => False
def cc_11_isGap : jw_T := jw_C 2 qq_11_isGap
theorem sb_11_isGap_0 (l : Launch) : jo_Ok l cb_11_isGap 2 "SwipedStripeModel" "isGap" jw_ro { frames := 1, cells := 0, slots := 0, locals := 25 } (some .boolean) 0 0 bb_11_isGap_0 0 := (jo_iln (i := 1) (j := 1) (by decide +kernel) rfl (jo_i2l (by decide +kernel) (jo_lco (n := 0) (by decide +kernel) (by decide) (jo_aln (i := 0) (j := 0) (by decide +kernel) rfl (jo_gf (j := 22) jw_F11 (by decide) kw_1054 (by decide +kernel) (jo_ici (n := 1) (by decide +kernel) (by decide) (jo_isub (by decide +kernel) (jo_i2l (by decide +kernel) (jo_cs (n := 3) (idx := 81) (ss_11_in l) kw_1194 kw_13 kw_1192 kw_1193 ⟨by decide, by decide, by decide +kernel⟩ ⟨by decide, by decide⟩ (fun _ _ h => h) ⟨rfl, rfl⟩ (by decide +kernel) (jo_rz rfl (by decide +kernel)))))))))))
theorem ss_11_isGap (l : Launch) : jw_Met l yy_11_isGap cb_11_isGap 2 (some .boolean) { frames := 1, cells := 0, slots := 0, locals := 25 } cc_11_isGap := by
  refine jw_met (by decide) (fun pc => ?_)
  intro p e s m args below meth c Q D aC ad base K X RT ls st h z hf
  unfold qq_11_isGap at hf
  by_cases h0 : pc = 0
  · subst h0; simp only [if_true, if_false, reduceIte, ↓reduceIte] at hf; exact sb_11_isGap_0 l p e s m args below meth c Q D aC ad base K X RT ls st h z hf
  rw [if_neg h0] at hf
  exact hf.elim
abbrev cb_11_alter : ByteArray := prog_13_method_30_code
abbrev yy_11_alter : MethodName := ⟨"SwipedStripeModel", "alter", "(II)I"⟩
def bb_11_alter_22 (K : jw_K) (J : Nat → jw_S) : jw_S := xo_al 0 (xo_gf 11 21 (xo_il 1 (xo_iald jw_ro (xo_is 3 (xo_al 0 (xo_gf 11 21 (xo_il 1 (xo_il 2 (xo_iast (xo_il 3 (xo_ri 0 0 K)))))))))))
def bb_11_alter_20 (K : jw_K) (J : Nat → jw_S) : jw_S := xo_ci (-1) (xo_ri 0 0 K)
def bb_11_alter_0 (K : jw_K) (J : Nat → jw_S) : jw_S := xo_al 0 (xo_il 1 (xo_cv 11 cc_11_isGap 2 (xo_zeq (bb_11_alter_20 K J) (xo_il 2 (xo_i2l (xo_cl 1 (xo_cl 9999 (xo_cs cc_11_in 3 (xo_zne (bb_11_alter_22 K J) (bb_11_alter_20 K J))))))))))
def qq_11_alter (K : jw_K) (pc : Nat) (J : Nat → jw_S) : jw_S := if pc = 0 then bb_11_alter_0 K J else fun _ _ _ _ => False
def cc_11_alter : jw_T := jw_C 4 qq_11_alter
theorem sb_11_alter_22 (l : Launch) : jo_Ok l cb_11_alter 4 "SwipedStripeModel" "alter" jw_ro { frames := 2, cells := 0, slots := 0, locals := 46 } (some .int) 0 0 bb_11_alter_22 22 := (jo_aln (i := 0) (j := 0) (by decide +kernel) rfl (jo_gf (j := 21) jw_F11 (by decide) kw_1053 (by decide +kernel) (jo_iln (i := 1) (j := 1) (by decide +kernel) rfl (jo_iald (by decide +kernel) (jo_isn (i := 3) (j := 3) (by decide +kernel) rfl (by decide) (jo_aln (i := 0) (j := 0) (by decide +kernel) rfl (jo_gf (j := 21) jw_F11 (by decide) kw_1053 (by decide +kernel) (jo_iln (i := 1) (j := 1) (by decide +kernel) rfl (jo_iln (i := 2) (j := 2) (by decide +kernel) rfl (jo_iast (by decide +kernel) (jo_iln (i := 3) (j := 3) (by decide +kernel) rfl (jo_ri rfl (by decide +kernel)))))))))))))
theorem sb_11_alter_20 (l : Launch) : jo_Ok l cb_11_alter 4 "SwipedStripeModel" "alter" jw_ro { frames := 2, cells := 0, slots := 0, locals := 46 } (some .int) 0 0 bb_11_alter_20 20 := (jo_ici (n := -1) (by decide +kernel) (by decide) (jo_ri rfl (by decide +kernel)))
theorem sb_11_alter_0 (l : Launch) : jo_Ok l cb_11_alter 4 "SwipedStripeModel" "alter" jw_ro { frames := 2, cells := 0, slots := 0, locals := 46 } (some .int) 0 0 bb_11_alter_0 0 := (jo_aln (i := 0) (j := 0) (by decide +kernel) rfl (jo_iln (i := 1) (j := 1) (by decide +kernel) rfl (jo_cv (n := 1) (ss_11_isGap l) kw_1301 kw_13 kw_1298 kw_1300 jw_F11 kp_42 ⟨by decide, by decide, by decide +kernel⟩ ⟨by decide, by decide⟩ (fun _ _ h => h) ⟨rfl, rfl⟩ (by decide +kernel) (jo_zeq (off := 15) (tgt := 20) (by decide +kernel) (by decide) (sb_11_alter_20 l) (jo_iln (i := 2) (j := 2) (by decide +kernel) rfl (jo_i2l (by decide +kernel) (jo_lco (n := 1) (by decide +kernel) (by decide) (jo_ld2 (by decide +kernel) kw_1306 (jo_cs (n := 3) (idx := 81) (ss_11_in l) kw_1194 kw_13 kw_1192 kw_1193 ⟨by decide, by decide, by decide +kernel⟩ ⟨by decide, by decide⟩ (fun _ _ h => h) ⟨rfl, rfl⟩ (by decide +kernel) (jo_zne (off := 5) (tgt := 22) (by decide +kernel) (by decide) (sb_11_alter_22 l) (sb_11_alter_20 l)))))))))))
theorem ss_11_alter (l : Launch) : jw_Met l yy_11_alter cb_11_alter 4 (some .int) { frames := 2, cells := 0, slots := 0, locals := 46 } cc_11_alter := by
  refine jw_met (by decide) (fun pc => ?_)
  intro p e s m args below meth c Q D aC ad base K X RT ls st h z hf
  unfold qq_11_alter at hf
  by_cases h0 : pc = 0
  · subst h0; simp only [if_true, if_false, reduceIte, ↓reduceIte] at hf; exact sb_11_alter_0 l p e s m args below meth c Q D aC ad base K X RT ls st h z hf
  rw [if_neg h0] at hf
  exact hf.elim
abbrev cb_11_checks : ByteArray := prog_13_method_21_code
abbrev yy_11_checks : MethodName := ⟨"SwipedStripeModel", "checks", "()I"⟩
def bb_11_checks_39 (K : jw_K) (J : Nat → jw_S) : jw_S := xo_il 1 (xo_ri 0 0 K)
def bb_11_checks_16 (K : jw_K) (J : Nat → jw_S) : jw_S := xo_il 2 (xo_al 0 (xo_gf 11 18 (xo_cge (bb_11_checks_39 K J) (xo_il 1 (xo_al 0 (xo_gf 11 17 (xo_il 2 (xo_iald jw_ro (xo_ixor (xo_is 1 (xo_ic 2 1 (J 16))))))))))))
def bb_11_checks_0 (K : jw_K) (J : Nat → jw_S) : jw_S := xo_al 0 (xo_gf 11 14 (xo_ci 2 (xo_iald jw_ro (xo_al 0 (xo_gf 11 14 (xo_ci 3 (xo_iald jw_ro (xo_ixor (xo_is 1 (xo_ci 0 (xo_is 2 (J 16))))))))))))
def qq_11_checks (K : jw_K) (pc : Nat) (J : Nat → jw_S) : jw_S := if pc = 0 then bb_11_checks_0 K J else if pc = 16 then bb_11_checks_16 K J else fun _ _ _ _ => False
def cc_11_checks : jw_T := jw_C 3 qq_11_checks
theorem sb_11_checks_39 (l : Launch) : jo_Ok l cb_11_checks 3 "SwipedStripeModel" "checks" jw_ro { frames := 0, cells := 0, slots := 0, locals := 0 } (some .int) 0 0 bb_11_checks_39 39 := (jo_iln (i := 1) (j := 1) (by decide +kernel) rfl (jo_ri rfl (by decide +kernel)))
theorem sb_11_checks_16 (l : Launch) : jo_Ok l cb_11_checks 3 "SwipedStripeModel" "checks" jw_ro { frames := 0, cells := 0, slots := 0, locals := 0 } (some .int) 0 0 bb_11_checks_16 16 := (jo_iln (i := 2) (j := 2) (by decide +kernel) rfl (jo_aln (i := 0) (j := 0) (by decide +kernel) rfl (jo_gf (j := 18) jw_F11 (by decide) kw_1050 (by decide +kernel) (jo_cge (off := 18) (tgt := 39) (by decide +kernel) (by decide) (sb_11_checks_39 l) (jo_iln (i := 1) (j := 1) (by decide +kernel) rfl (jo_aln (i := 0) (j := 0) (by decide +kernel) rfl (jo_gf (j := 17) jw_F11 (by decide) kw_1049 (by decide +kernel) (jo_iln (i := 2) (j := 2) (by decide +kernel) rfl (jo_iald (by decide +kernel) (jo_ixor (by decide +kernel) (jo_isn (i := 1) (j := 1) (by decide +kernel) rfl (by decide) (jo_ic (n0 := 1) (by decide +kernel) (by decide) (by decide) (jo_goto (off := -20) (tgt := 16) (by decide +kernel) (by decide) (jo_J))))))))))))))
theorem sb_11_checks_0 (l : Launch) : jo_Ok l cb_11_checks 3 "SwipedStripeModel" "checks" jw_ro { frames := 0, cells := 0, slots := 0, locals := 0 } (some .int) 0 0 bb_11_checks_0 0 := (jo_aln (i := 0) (j := 0) (by decide +kernel) rfl (jo_gf (j := 14) jw_F11 (by decide) kw_1046 (by decide +kernel) (jo_ici (n := 2) (by decide +kernel) (by decide) (jo_iald (by decide +kernel) (jo_aln (i := 0) (j := 0) (by decide +kernel) rfl (jo_gf (j := 14) jw_F11 (by decide) kw_1046 (by decide +kernel) (jo_ici (n := 3) (by decide +kernel) (by decide) (jo_iald (by decide +kernel) (jo_ixor (by decide +kernel) (jo_isn (i := 1) (j := 1) (by decide +kernel) rfl (by decide) (jo_ici (n := 0) (by decide +kernel) (by decide) (jo_isn (i := 2) (j := 2) (by decide +kernel) rfl (by decide) jo_J))))))))))))
theorem ss_11_checks (l : Launch) : jw_Met l yy_11_checks cb_11_checks 3 (some .int) { frames := 0, cells := 0, slots := 0, locals := 0 } cc_11_checks := by
  refine jw_met (by decide) (fun pc => ?_)
  intro p e s m args below meth c Q D aC ad base K X RT ls st h z hf
  unfold qq_11_checks at hf
  by_cases h0 : pc = 0
  · subst h0; simp only [if_true, if_false, reduceIte, ↓reduceIte] at hf; exact sb_11_checks_0 l p e s m args below meth c Q D aC ad base K X RT ls st h z hf
  rw [if_neg h0] at hf
  by_cases h16 : pc = 16
  · subst h16; simp only [if_true, if_false, reduceIte, ↓reduceIte] at hf; exact sb_11_checks_16 l p e s m args below meth c Q D aC ad base K X RT ls st h z hf
  rw [if_neg h16] at hf
  exact hf.elim
abbrev cb_11_layBit : ByteArray := prog_13_method_19_code
abbrev yy_11_layBit : MethodName := ⟨"SwipedStripeModel", "layBit", "(I)V"⟩
def bb_11_layBit_0 (K : jw_K) (J : Nat → jw_S) : jw_S := xo_al 0 (xo_gf 11 19 (xo_al 0 (xo_gf 11 20 (xo_il 1 (xo_iast (xo_al 0 (xo_dup (xo_gf 11 20 (xo_ci 1 (xo_iadd (xo_pfi 11 20 (xo_rv 0 0 K))))))))))))
def qq_11_layBit (K : jw_K) (pc : Nat) (J : Nat → jw_S) : jw_S := if pc = 0 then bb_11_layBit_0 K J else fun _ _ _ _ => False
def cc_11_layBit : jw_T := jw_C 2 qq_11_layBit
theorem sb_11_layBit_0 (l : Launch) : jo_Ok l cb_11_layBit 2 "SwipedStripeModel" "layBit" jw_ro { frames := 0, cells := 0, slots := 0, locals := 0 } none 0 0 bb_11_layBit_0 0 := (jo_aln (i := 0) (j := 0) (by decide +kernel) rfl (jo_gf (j := 19) jw_F11 (by decide) kw_1051 (by decide +kernel) (jo_aln (i := 0) (j := 0) (by decide +kernel) rfl (jo_gf (j := 20) jw_F11 (by decide) kw_1052 (by decide +kernel) (jo_iln (i := 1) (j := 1) (by decide +kernel) rfl (jo_iast (by decide +kernel) (jo_aln (i := 0) (j := 0) (by decide +kernel) rfl (jo_dup (by decide +kernel) (jo_gf (j := 20) jw_F11 (by decide) kw_1052 (by decide +kernel) (jo_ici (n := 1) (by decide +kernel) (by decide) (jo_iadd (by decide +kernel) (jo_pfi (j := 20) jw_F11 (by decide) kw_1052 rfl rfl (by decide +kernel) (jo_rv rfl (by decide +kernel))))))))))))))
theorem ss_11_layBit (l : Launch) : jw_Met l yy_11_layBit cb_11_layBit 2 none { frames := 0, cells := 0, slots := 0, locals := 0 } cc_11_layBit := by
  refine jw_met (by decide) (fun pc => ?_)
  intro p e s m args below meth c Q D aC ad base K X RT ls st h z hf
  unfold qq_11_layBit at hf
  by_cases h0 : pc = 0
  · subst h0; simp only [if_true, if_false, reduceIte, ↓reduceIte] at hf; exact sb_11_layBit_0 l p e s m args below meth c Q D aC ad base K X RT ls st h z hf
  rw [if_neg h0] at hf
  exact hf.elim
abbrev cb_11_onesOf : ByteArray := prog_13_method_17_code
abbrev yy_11_onesOf : MethodName := ⟨"SwipedStripeModel", "onesOf", "(I)I"⟩
def bb_11_onesOf_24 (K : jw_K) (J : Nat → jw_S) : jw_S := xo_il 1 (xo_ri 0 0 K)
def bb_11_onesOf_4 (K : jw_K) (J : Nat → jw_S) : jw_S := xo_il 2 (xo_ci 8 (xo_cge (bb_11_onesOf_24 K J) (xo_il 1 (xo_il 0 (xo_il 2 (xo_ishr (xo_ci 1 (xo_iand (xo_iadd (xo_is 1 (xo_ic 2 1 (J 4))))))))))))
def bb_11_onesOf_0 (K : jw_K) (J : Nat → jw_S) : jw_S := xo_ci 0 (xo_is 1 (xo_ci 0 (xo_is 2 (J 4))))
def qq_11_onesOf (K : jw_K) (pc : Nat) (J : Nat → jw_S) : jw_S := if pc = 0 then bb_11_onesOf_0 K J else if pc = 4 then bb_11_onesOf_4 K J else fun _ _ _ _ => False
def cc_11_onesOf : jw_T := jw_C 3 qq_11_onesOf
theorem sb_11_onesOf_24 (l : Launch) : jo_Ok l cb_11_onesOf 3 "SwipedStripeModel" "onesOf" jw_ro { frames := 0, cells := 0, slots := 0, locals := 0 } (some .int) 0 0 bb_11_onesOf_24 24 := (jo_iln (i := 1) (j := 1) (by decide +kernel) rfl (jo_ri rfl (by decide +kernel)))
theorem sb_11_onesOf_4 (l : Launch) : jo_Ok l cb_11_onesOf 3 "SwipedStripeModel" "onesOf" jw_ro { frames := 0, cells := 0, slots := 0, locals := 0 } (some .int) 0 0 bb_11_onesOf_4 4 := (jo_iln (i := 2) (j := 2) (by decide +kernel) rfl (jo_bpi (n := 8) (by decide +kernel) (by decide) (jo_cge (off := 17) (tgt := 24) (by decide +kernel) (by decide) (sb_11_onesOf_24 l) (jo_iln (i := 1) (j := 1) (by decide +kernel) rfl (jo_iln (i := 0) (j := 0) (by decide +kernel) rfl (jo_iln (i := 2) (j := 2) (by decide +kernel) rfl (jo_ishr (by decide +kernel) (jo_ici (n := 1) (by decide +kernel) (by decide) (jo_iand (by decide +kernel) (jo_iadd (by decide +kernel) (jo_isn (i := 1) (j := 1) (by decide +kernel) rfl (by decide) (jo_ic (n0 := 1) (by decide +kernel) (by decide) (by decide) (jo_goto (off := -17) (tgt := 4) (by decide +kernel) (by decide) (jo_J))))))))))))))
theorem sb_11_onesOf_0 (l : Launch) : jo_Ok l cb_11_onesOf 3 "SwipedStripeModel" "onesOf" jw_ro { frames := 0, cells := 0, slots := 0, locals := 0 } (some .int) 0 0 bb_11_onesOf_0 0 := (jo_ici (n := 0) (by decide +kernel) (by decide) (jo_isn (i := 1) (j := 1) (by decide +kernel) rfl (by decide) (jo_ici (n := 0) (by decide +kernel) (by decide) (jo_isn (i := 2) (j := 2) (by decide +kernel) rfl (by decide) jo_J))))
theorem ss_11_onesOf (l : Launch) : jw_Met l yy_11_onesOf cb_11_onesOf 3 (some .int) { frames := 0, cells := 0, slots := 0, locals := 0 } cc_11_onesOf := by
  refine jw_met (by decide) (fun pc => ?_)
  intro p e s m args below meth c Q D aC ad base K X RT ls st h z hf
  unfold qq_11_onesOf at hf
  by_cases h0 : pc = 0
  · subst h0; simp only [if_true, if_false, reduceIte, ↓reduceIte] at hf; exact sb_11_onesOf_0 l p e s m args below meth c Q D aC ad base K X RT ls st h z hf
  rw [if_neg h0] at hf
  by_cases h4 : pc = 4
  · subst h4; simp only [if_true, if_false, reduceIte, ↓reduceIte] at hf; exact sb_11_onesOf_4 l p e s m args below meth c Q D aC ad base K X RT ls st h z hf
  rw [if_neg h4] at hf
  exact hf.elim
abbrev cb_11_parity : ByteArray := prog_13_method_18_code
abbrev yy_11_parity : MethodName := ⟨"SwipedStripeModel", "parity", "(I)I"⟩
def bb_11_parity_0 (K : jw_K) (J : Nat → jw_S) : jw_S := xo_il 1 (xo_cs cc_11_onesOf 1 (xo_al 0 (xo_gf 11 14 (xo_ci 1 (xo_iald jw_ro (xo_iadd (xo_ci 2 (xo_irem (xo_ri 0 0 K)))))))))
def qq_11_parity (K : jw_K) (pc : Nat) (J : Nat → jw_S) : jw_S := if pc = 0 then bb_11_parity_0 K J else fun _ _ _ _ => False
def cc_11_parity : jw_T := jw_C 2 qq_11_parity
theorem sb_11_parity_0 (l : Launch) : jo_Ok l cb_11_parity 2 "SwipedStripeModel" "parity" jw_ro { frames := 1, cells := 0, slots := 0, locals := 22 } (some .int) 0 0 bb_11_parity_0 0 := (jo_iln (i := 1) (j := 1) (by decide +kernel) rfl (jo_cs (n := 1) (idx := 146) (ss_11_onesOf l) kw_1267 kw_13 kw_1265 kw_1266 ⟨by decide, by decide, by decide +kernel⟩ ⟨by decide, by decide⟩ (fun _ _ h => h) ⟨rfl, rfl⟩ (by decide +kernel) (jo_aln (i := 0) (j := 0) (by decide +kernel) rfl (jo_gf (j := 14) jw_F11 (by decide) kw_1046 (by decide +kernel) (jo_ici (n := 1) (by decide +kernel) (by decide) (jo_iald (by decide +kernel) (jo_iadd (by decide +kernel) (jo_ici (n := 2) (by decide +kernel) (by decide) (jo_irem (by decide +kernel) (jo_ri rfl (by decide +kernel)))))))))))
theorem ss_11_parity (l : Launch) : jw_Met l yy_11_parity cb_11_parity 2 (some .int) { frames := 1, cells := 0, slots := 0, locals := 22 } cc_11_parity := by
  refine jw_met (by decide) (fun pc => ?_)
  intro p e s m args below meth c Q D aC ad base K X RT ls st h z hf
  unfold qq_11_parity at hf
  by_cases h0 : pc = 0
  · subst h0; simp only [if_true, if_false, reduceIte, ↓reduceIte] at hf; exact sb_11_parity_0 l p e s m args below meth c Q D aC ad base K X RT ls st h z hf
  rw [if_neg h0] at hf
  exact hf.elim
abbrev cb_11_laySymbol : ByteArray := prog_13_method_20_code
abbrev yy_11_laySymbol : MethodName := ⟨"SwipedStripeModel", "laySymbol", "(I)V"⟩
def bb_11_laySymbol_27 (K : jw_K) (J : Nat → jw_S) : jw_S := xo_al 0 (xo_al 0 (xo_il 1 (xo_cv 11 cc_11_parity 2 (xo_cv 11 cc_11_layBit 2 (xo_rv 0 0 K)))))
def bb_11_laySymbol_2 (K : jw_K) (J : Nat → jw_S) : jw_S := xo_il 2 (xo_al 0 (xo_gf 11 14 (xo_ci 0 (xo_iald jw_ro (xo_cge (bb_11_laySymbol_27 K J) (xo_al 0 (xo_il 1 (xo_il 2 (xo_ishr (xo_ci 1 (xo_iand (xo_cv 11 cc_11_layBit 2 (xo_ic 2 1 (J 2))))))))))))))
def bb_11_laySymbol_0 (K : jw_K) (J : Nat → jw_S) : jw_S := xo_ci 0 (xo_is 2 (J 2))
def qq_11_laySymbol (K : jw_K) (pc : Nat) (J : Nat → jw_S) : jw_S := if pc = 0 then bb_11_laySymbol_0 K J else if pc = 2 then bb_11_laySymbol_2 K J else fun _ _ _ _ => False
def cc_11_laySymbol : jw_T := jw_C 3 qq_11_laySymbol
theorem sb_11_laySymbol_27 (l : Launch) : jo_Ok l cb_11_laySymbol 3 "SwipedStripeModel" "laySymbol" jw_ro { frames := 2, cells := 0, slots := 0, locals := 43 } none 0 0 bb_11_laySymbol_27 27 := (jo_aln (i := 0) (j := 0) (by decide +kernel) rfl (jo_aln (i := 0) (j := 0) (by decide +kernel) rfl (jo_iln (i := 1) (j := 1) (by decide +kernel) rfl (jo_cv (n := 1) (ss_11_parity l) kw_1264 kw_13 kw_1261 kw_1263 jw_F11 kp_38 ⟨by decide, by decide, by decide +kernel⟩ ⟨by decide, by decide⟩ (fun _ _ h => h) ⟨rfl, rfl⟩ (by decide +kernel) (jo_cv (n := 1) (ss_11_layBit l) kw_1256 kw_13 kw_1253 kw_1255 jw_F11 kp_36 ⟨by decide, by decide, by decide +kernel⟩ ⟨by decide, by decide⟩ (fun _ _ h => h) ⟨rfl, rfl⟩ (by decide +kernel) (jo_rv rfl (by decide +kernel)))))))
theorem sb_11_laySymbol_2 (l : Launch) : jo_Ok l cb_11_laySymbol 3 "SwipedStripeModel" "laySymbol" jw_ro { frames := 2, cells := 0, slots := 0, locals := 43 } none 0 0 bb_11_laySymbol_2 2 := (jo_iln (i := 2) (j := 2) (by decide +kernel) rfl (jo_aln (i := 0) (j := 0) (by decide +kernel) rfl (jo_gf (j := 14) jw_F11 (by decide) kw_1046 (by decide +kernel) (jo_ici (n := 0) (by decide +kernel) (by decide) (jo_iald (by decide +kernel) (jo_cge (off := 18) (tgt := 27) (by decide +kernel) (by decide) (sb_11_laySymbol_27 l) (jo_aln (i := 0) (j := 0) (by decide +kernel) rfl (jo_iln (i := 1) (j := 1) (by decide +kernel) rfl (jo_iln (i := 2) (j := 2) (by decide +kernel) rfl (jo_ishr (by decide +kernel) (jo_ici (n := 1) (by decide +kernel) (by decide) (jo_iand (by decide +kernel) (jo_cv (n := 1) (ss_11_layBit l) kw_1256 kw_13 kw_1253 kw_1255 jw_F11 kp_36 ⟨by decide, by decide, by decide +kernel⟩ ⟨by decide, by decide⟩ (fun _ _ h => h) ⟨rfl, rfl⟩ (by decide +kernel) (jo_ic (n0 := 1) (by decide +kernel) (by decide) (by decide) (jo_goto (off := -22) (tgt := 2) (by decide +kernel) (by decide) (jo_J))))))))))))))))
theorem sb_11_laySymbol_0 (l : Launch) : jo_Ok l cb_11_laySymbol 3 "SwipedStripeModel" "laySymbol" jw_ro { frames := 2, cells := 0, slots := 0, locals := 43 } none 0 0 bb_11_laySymbol_0 0 := (jo_ici (n := 0) (by decide +kernel) (by decide) (jo_isn (i := 2) (j := 2) (by decide +kernel) rfl (by decide) jo_J))
theorem ss_11_laySymbol (l : Launch) : jw_Met l yy_11_laySymbol cb_11_laySymbol 3 none { frames := 2, cells := 0, slots := 0, locals := 43 } cc_11_laySymbol := by
  refine jw_met (by decide) (fun pc => ?_)
  intro p e s m args below meth c Q D aC ad base K X RT ls st h z hf
  unfold qq_11_laySymbol at hf
  by_cases h0 : pc = 0
  · subst h0; simp only [if_true, if_false, reduceIte, ↓reduceIte] at hf; exact sb_11_laySymbol_0 l p e s m args below meth c Q D aC ad base K X RT ls st h z hf
  rw [if_neg h0] at hf
  by_cases h2 : pc = 2
  · subst h2; simp only [if_true, if_false, reduceIte, ↓reduceIte] at hf; exact sb_11_laySymbol_2 l p e s m args below meth c Q D aC ad base K X RT ls st h z hf
  rw [if_neg h2] at hf
  exact hf.elim
abbrev cb_11_layStripe : ByteArray := prog_13_method_22_code
abbrev yy_11_layStripe : MethodName := ⟨"SwipedStripeModel", "layStripe", "()V"⟩
def bb_11_layStripe_116 (K : jw_K) (J : Nat → jw_S) : jw_S := xo_rv 0 0 K
def bb_11_layStripe_95 (K : jw_K) (J : Nat → jw_S) : jw_S := xo_il 1 (xo_al 0 (xo_gf 11 14 (xo_ci 5 (xo_iald jw_ro (xo_cge (bb_11_layStripe_116 K J) (xo_al 0 (xo_ci 0 (xo_cv 11 cc_11_layBit 2 (xo_ic 1 1 (J 95))))))))))
def bb_11_layStripe_93 (K : jw_K) (J : Nat → jw_S) : jw_S := xo_ci 0 (xo_is 1 (J 95))
def bb_11_layStripe_64 (K : jw_K) (J : Nat → jw_S) : jw_S := xo_al 0 (xo_al 0 (xo_gf 11 14 (xo_ci 3 (xo_iald jw_ro (xo_cv 11 cc_11_laySymbol 2 (xo_al 0 (xo_gf 11 14 (xo_ci 7 (xo_iald jw_ro (xo_ci 1 (xo_cne (bb_11_layStripe_93 K J) (xo_al 0 (xo_al 0 (xo_cv 11 cc_11_checks 1 (xo_cv 11 cc_11_laySymbol 2 (bb_11_layStripe_93 K J))))))))))))))))
def bb_11_layStripe_40 (K : jw_K) (J : Nat → jw_S) : jw_S := xo_il 1 (xo_al 0 (xo_gf 11 18 (xo_cge (bb_11_layStripe_64 K J) (xo_al 0 (xo_al 0 (xo_gf 11 17 (xo_il 1 (xo_iald jw_ro (xo_cv 11 cc_11_laySymbol 2 (xo_ic 1 1 (J 40)))))))))))
def bb_11_layStripe_28 (K : jw_K) (J : Nat → jw_S) : jw_S := xo_al 0 (xo_al 0 (xo_gf 11 14 (xo_ci 2 (xo_iald jw_ro (xo_cv 11 cc_11_laySymbol 2 (xo_ci 0 (xo_is 1 (J 40))))))))
def bb_11_layStripe_7 (K : jw_K) (J : Nat → jw_S) : jw_S := xo_il 1 (xo_al 0 (xo_gf 11 14 (xo_ci 4 (xo_iald jw_ro (xo_cge (bb_11_layStripe_28 K J) (xo_al 0 (xo_ci 0 (xo_cv 11 cc_11_layBit 2 (xo_ic 1 1 (J 7))))))))))
def bb_11_layStripe_0 (K : jw_K) (J : Nat → jw_S) : jw_S := xo_al 0 (xo_ci 0 (xo_pfi 11 20 (xo_ci 0 (xo_is 1 (J 7)))))
def qq_11_layStripe (K : jw_K) (pc : Nat) (J : Nat → jw_S) : jw_S := if pc = 0 then bb_11_layStripe_0 K J else if pc = 7 then bb_11_layStripe_7 K J else if pc = 40 then bb_11_layStripe_40 K J else if pc = 95 then bb_11_layStripe_95 K J else fun _ _ _ _ => False
def cc_11_layStripe : jw_T := jw_C 2 qq_11_layStripe
theorem sb_11_layStripe_116 (l : Launch) : jo_Ok l cb_11_layStripe 2 "SwipedStripeModel" "layStripe" jw_ro { frames := 3, cells := 0, slots := 0, locals := 65 } none 0 0 bb_11_layStripe_116 116 := (jo_rv rfl (by decide +kernel))
theorem sb_11_layStripe_95 (l : Launch) : jo_Ok l cb_11_layStripe 2 "SwipedStripeModel" "layStripe" jw_ro { frames := 3, cells := 0, slots := 0, locals := 65 } none 0 0 bb_11_layStripe_95 95 := (jo_iln (i := 1) (j := 1) (by decide +kernel) rfl (jo_aln (i := 0) (j := 0) (by decide +kernel) rfl (jo_gf (j := 14) jw_F11 (by decide) kw_1046 (by decide +kernel) (jo_ici (n := 5) (by decide +kernel) (by decide) (jo_iald (by decide +kernel) (jo_cge (off := 14) (tgt := 116) (by decide +kernel) (by decide) (sb_11_layStripe_116 l) (jo_aln (i := 0) (j := 0) (by decide +kernel) rfl (jo_ici (n := 0) (by decide +kernel) (by decide) (jo_cv (n := 1) (ss_11_layBit l) kw_1256 kw_13 kw_1253 kw_1255 jw_F11 kp_36 ⟨by decide, by decide, by decide +kernel⟩ ⟨by decide, by decide⟩ (fun _ _ h => h) ⟨rfl, rfl⟩ (by decide +kernel) (jo_ic (n0 := 1) (by decide +kernel) (by decide) (by decide) (jo_goto (off := -18) (tgt := 95) (by decide +kernel) (by decide) (jo_J))))))))))))
theorem sb_11_layStripe_93 (l : Launch) : jo_Ok l cb_11_layStripe 2 "SwipedStripeModel" "layStripe" jw_ro { frames := 3, cells := 0, slots := 0, locals := 65 } none 0 0 bb_11_layStripe_93 93 := (jo_ici (n := 0) (by decide +kernel) (by decide) (jo_isn (i := 1) (j := 1) (by decide +kernel) rfl (by decide) jo_J))
theorem sb_11_layStripe_64 (l : Launch) : jo_Ok l cb_11_layStripe 2 "SwipedStripeModel" "layStripe" jw_ro { frames := 3, cells := 0, slots := 0, locals := 65 } none 0 0 bb_11_layStripe_64 64 := (jo_aln (i := 0) (j := 0) (by decide +kernel) rfl (jo_aln (i := 0) (j := 0) (by decide +kernel) rfl (jo_gf (j := 14) jw_F11 (by decide) kw_1046 (by decide +kernel) (jo_ici (n := 3) (by decide +kernel) (by decide) (jo_iald (by decide +kernel) (jo_cv (n := 1) (ss_11_laySymbol l) kw_1260 kw_13 kw_1257 kw_1259 jw_F11 kp_37 ⟨by decide, by decide, by decide +kernel⟩ ⟨by decide, by decide⟩ (fun _ _ h => h) ⟨rfl, rfl⟩ (by decide +kernel) (jo_aln (i := 0) (j := 0) (by decide +kernel) rfl (jo_gf (j := 14) jw_F11 (by decide) kw_1046 (by decide +kernel) (jo_bpi (n := 7) (by decide +kernel) (by decide) (jo_iald (by decide +kernel) (jo_ici (n := 1) (by decide +kernel) (by decide) (jo_cne (off := 11) (tgt := 93) (by decide +kernel) (by decide) (sb_11_layStripe_93 l) (jo_aln (i := 0) (j := 0) (by decide +kernel) rfl (jo_aln (i := 0) (j := 0) (by decide +kernel) rfl (jo_cv (n := 0) (ss_11_checks l) kw_1271 kw_13 kw_1268 kw_1270 jw_F11 kp_39 ⟨by decide, by decide, by decide +kernel⟩ ⟨by decide, by decide⟩ (fun _ _ h => h) ⟨rfl, rfl⟩ (by decide +kernel) (jo_cv (n := 1) (ss_11_laySymbol l) kw_1260 kw_13 kw_1257 kw_1259 jw_F11 kp_37 ⟨by decide, by decide, by decide +kernel⟩ ⟨by decide, by decide⟩ (fun _ _ h => h) ⟨rfl, rfl⟩ (by decide +kernel) (sb_11_layStripe_93 l)))))))))))))))))
theorem sb_11_layStripe_40 (l : Launch) : jo_Ok l cb_11_layStripe 2 "SwipedStripeModel" "layStripe" jw_ro { frames := 3, cells := 0, slots := 0, locals := 65 } none 0 0 bb_11_layStripe_40 40 := (jo_iln (i := 1) (j := 1) (by decide +kernel) rfl (jo_aln (i := 0) (j := 0) (by decide +kernel) rfl (jo_gf (j := 18) jw_F11 (by decide) kw_1050 (by decide +kernel) (jo_cge (off := 19) (tgt := 64) (by decide +kernel) (by decide) (sb_11_layStripe_64 l) (jo_aln (i := 0) (j := 0) (by decide +kernel) rfl (jo_aln (i := 0) (j := 0) (by decide +kernel) rfl (jo_gf (j := 17) jw_F11 (by decide) kw_1049 (by decide +kernel) (jo_iln (i := 1) (j := 1) (by decide +kernel) rfl (jo_iald (by decide +kernel) (jo_cv (n := 1) (ss_11_laySymbol l) kw_1260 kw_13 kw_1257 kw_1259 jw_F11 kp_37 ⟨by decide, by decide, by decide +kernel⟩ ⟨by decide, by decide⟩ (fun _ _ h => h) ⟨rfl, rfl⟩ (by decide +kernel) (jo_ic (n0 := 1) (by decide +kernel) (by decide) (by decide) (jo_goto (off := -21) (tgt := 40) (by decide +kernel) (by decide) (jo_J)))))))))))))
theorem sb_11_layStripe_28 (l : Launch) : jo_Ok l cb_11_layStripe 2 "SwipedStripeModel" "layStripe" jw_ro { frames := 3, cells := 0, slots := 0, locals := 65 } none 0 0 bb_11_layStripe_28 28 := (jo_aln (i := 0) (j := 0) (by decide +kernel) rfl (jo_aln (i := 0) (j := 0) (by decide +kernel) rfl (jo_gf (j := 14) jw_F11 (by decide) kw_1046 (by decide +kernel) (jo_ici (n := 2) (by decide +kernel) (by decide) (jo_iald (by decide +kernel) (jo_cv (n := 1) (ss_11_laySymbol l) kw_1260 kw_13 kw_1257 kw_1259 jw_F11 kp_37 ⟨by decide, by decide, by decide +kernel⟩ ⟨by decide, by decide⟩ (fun _ _ h => h) ⟨rfl, rfl⟩ (by decide +kernel) (jo_ici (n := 0) (by decide +kernel) (by decide) (jo_isn (i := 1) (j := 1) (by decide +kernel) rfl (by decide) jo_J))))))))
theorem sb_11_layStripe_7 (l : Launch) : jo_Ok l cb_11_layStripe 2 "SwipedStripeModel" "layStripe" jw_ro { frames := 3, cells := 0, slots := 0, locals := 65 } none 0 0 bb_11_layStripe_7 7 := (jo_iln (i := 1) (j := 1) (by decide +kernel) rfl (jo_aln (i := 0) (j := 0) (by decide +kernel) rfl (jo_gf (j := 14) jw_F11 (by decide) kw_1046 (by decide +kernel) (jo_ici (n := 4) (by decide +kernel) (by decide) (jo_iald (by decide +kernel) (jo_cge (off := 14) (tgt := 28) (by decide +kernel) (by decide) (sb_11_layStripe_28 l) (jo_aln (i := 0) (j := 0) (by decide +kernel) rfl (jo_ici (n := 0) (by decide +kernel) (by decide) (jo_cv (n := 1) (ss_11_layBit l) kw_1256 kw_13 kw_1253 kw_1255 jw_F11 kp_36 ⟨by decide, by decide, by decide +kernel⟩ ⟨by decide, by decide⟩ (fun _ _ h => h) ⟨rfl, rfl⟩ (by decide +kernel) (jo_ic (n0 := 1) (by decide +kernel) (by decide) (by decide) (jo_goto (off := -18) (tgt := 7) (by decide +kernel) (by decide) (jo_J))))))))))))
theorem sb_11_layStripe_0 (l : Launch) : jo_Ok l cb_11_layStripe 2 "SwipedStripeModel" "layStripe" jw_ro { frames := 3, cells := 0, slots := 0, locals := 65 } none 0 0 bb_11_layStripe_0 0 := (jo_aln (i := 0) (j := 0) (by decide +kernel) rfl (jo_ici (n := 0) (by decide +kernel) (by decide) (jo_pfi (j := 20) jw_F11 (by decide) kw_1052 rfl rfl (by decide +kernel) (jo_ici (n := 0) (by decide +kernel) (by decide) (jo_isn (i := 1) (j := 1) (by decide +kernel) rfl (by decide) jo_J)))))
theorem ss_11_layStripe (l : Launch) : jw_Met l yy_11_layStripe cb_11_layStripe 2 none { frames := 3, cells := 0, slots := 0, locals := 65 } cc_11_layStripe := by
  refine jw_met (by decide) (fun pc => ?_)
  intro p e s m args below meth c Q D aC ad base K X RT ls st h z hf
  unfold qq_11_layStripe at hf
  by_cases h0 : pc = 0
  · subst h0; simp only [if_true, if_false, reduceIte, ↓reduceIte] at hf; exact sb_11_layStripe_0 l p e s m args below meth c Q D aC ad base K X RT ls st h z hf
  rw [if_neg h0] at hf
  by_cases h7 : pc = 7
  · subst h7; simp only [if_true, if_false, reduceIte, ↓reduceIte] at hf; exact sb_11_layStripe_7 l p e s m args below meth c Q D aC ad base K X RT ls st h z hf
  rw [if_neg h7] at hf
  by_cases h40 : pc = 40
  · subst h40; simp only [if_true, if_false, reduceIte, ↓reduceIte] at hf; exact sb_11_layStripe_40 l p e s m args below meth c Q D aC ad base K X RT ls st h z hf
  rw [if_neg h40] at hf
  by_cases h95 : pc = 95
  · subst h95; simp only [if_true, if_false, reduceIte, ↓reduceIte] at hf; exact sb_11_layStripe_95 l p e s m args below meth c Q D aC ad base K X RT ls st h z hf
  rw [if_neg h95] at hf
  exact hf.elim
abbrev cb_11_bit : ByteArray := prog_13_method_25_code
abbrev yy_11_bit : MethodName := ⟨"SwipedStripeModel", "bit", "(I)I"⟩
def bb_11_bit_30 (K : jw_K) (J : Nat → jw_S) : jw_S := xo_ri 0 0 K
def bb_11_bit_29 (K : jw_K) (J : Nat → jw_S) : jw_S := xo_ci (-1) (bb_11_bit_30 K J)
def bb_11_bit_0 (K : jw_K) (J : Nat → jw_S) : jw_S := xo_al 0 (xo_cv 11 cc_11_layStripe 1 (xo_il 1 (xo_i2l (xo_cl 0 (xo_al 0 (xo_gf 11 20 (xo_ci 1 (xo_isub (xo_i2l (xo_cs cc_11_in 3 (xo_zeq (bb_11_bit_29 K J) (xo_al 0 (xo_gf 11 19 (xo_il 1 (xo_iald jw_ro (bb_11_bit_30 K J))))))))))))))))
def qq_11_bit (K : jw_K) (pc : Nat) (J : Nat → jw_S) : jw_S := if pc = 0 then bb_11_bit_0 K J else fun _ _ _ _ => False
def cc_11_bit : jw_T := jw_C 2 qq_11_bit
theorem sb_11_bit_30 (l : Launch) : jo_Ok l cb_11_bit 2 "SwipedStripeModel" "bit" jw_ro { frames := 4, cells := 0, slots := 0, locals := 86 } (some .int) 0 0 bb_11_bit_30 30 := (jo_ri rfl (by decide +kernel))
theorem sb_11_bit_29 (l : Launch) : jo_Ok l cb_11_bit 2 "SwipedStripeModel" "bit" jw_ro { frames := 4, cells := 0, slots := 0, locals := 86 } (some .int) 0 0 bb_11_bit_29 29 := (jo_ici (n := -1) (by decide +kernel) (by decide) (sb_11_bit_30 l))
theorem sb_11_bit_0 (l : Launch) : jo_Ok l cb_11_bit 2 "SwipedStripeModel" "bit" jw_ro { frames := 4, cells := 0, slots := 0, locals := 86 } (some .int) 0 0 bb_11_bit_0 0 := (jo_aln (i := 0) (j := 0) (by decide +kernel) rfl (jo_cv (n := 0) (ss_11_layStripe l) kw_1252 kw_13 kw_1249 kw_1251 jw_F11 kp_35 ⟨by decide, by decide, by decide +kernel⟩ ⟨by decide, by decide⟩ (fun _ _ h => h) ⟨rfl, rfl⟩ (by decide +kernel) (jo_iln (i := 1) (j := 1) (by decide +kernel) rfl (jo_i2l (by decide +kernel) (jo_lco (n := 0) (by decide +kernel) (by decide) (jo_aln (i := 0) (j := 0) (by decide +kernel) rfl (jo_gf (j := 20) jw_F11 (by decide) kw_1052 (by decide +kernel) (jo_ici (n := 1) (by decide +kernel) (by decide) (jo_isub (by decide +kernel) (jo_i2l (by decide +kernel) (jo_cs (n := 3) (idx := 81) (ss_11_in l) kw_1194 kw_13 kw_1192 kw_1193 ⟨by decide, by decide, by decide +kernel⟩ ⟨by decide, by decide⟩ (fun _ _ h => h) ⟨rfl, rfl⟩ (by decide +kernel) (jo_zeq (off := 12) (tgt := 29) (by decide +kernel) (by decide) (sb_11_bit_29 l) (jo_aln (i := 0) (j := 0) (by decide +kernel) rfl (jo_gf (j := 19) jw_F11 (by decide) kw_1051 (by decide +kernel) (jo_iln (i := 1) (j := 1) (by decide +kernel) rfl (jo_iald (by decide +kernel) (jo_goto (off := 4) (tgt := 30) (by decide +kernel) (by decide) (sb_11_bit_30 l))))))))))))))))))
theorem ss_11_bit (l : Launch) : jw_Met l yy_11_bit cb_11_bit 2 (some .int) { frames := 4, cells := 0, slots := 0, locals := 86 } cc_11_bit := by
  refine jw_met (by decide) (fun pc => ?_)
  intro p e s m args below meth c Q D aC ad base K X RT ls st h z hf
  unfold qq_11_bit at hf
  by_cases h0 : pc = 0
  · subst h0; simp only [if_true, if_false, reduceIte, ↓reduceIte] at hf; exact sb_11_bit_0 l p e s m args below meth c Q D aC ad base K X RT ls st h z hf
  rw [if_neg h0] at hf
  exact hf.elim
abbrev cb_11_clear : ByteArray := prog_13_method_15_code
abbrev yy_11_clear : MethodName := ⟨"SwipedStripeModel", "clear", "()I"⟩
def bb_11_clear_0 (K : jw_K) (J : Nat → jw_S) : jw_S := xo_al 0 (xo_gf 11 18 (xo_is 1 (xo_al 0 (xo_ci 0 (xo_pfi 11 18 (xo_il 1 (xo_ri 0 0 K)))))))
def qq_11_clear (K : jw_K) (pc : Nat) (J : Nat → jw_S) : jw_S := if pc = 0 then bb_11_clear_0 K J else fun _ _ _ _ => False
def cc_11_clear : jw_T := jw_C 2 qq_11_clear
theorem sb_11_clear_0 (l : Launch) : jo_Ok l cb_11_clear 2 "SwipedStripeModel" "clear" jw_ro { frames := 0, cells := 0, slots := 0, locals := 0 } (some .int) 0 0 bb_11_clear_0 0 := (jo_aln (i := 0) (j := 0) (by decide +kernel) rfl (jo_gf (j := 18) jw_F11 (by decide) kw_1050 (by decide +kernel) (jo_isn (i := 1) (j := 1) (by decide +kernel) rfl (by decide) (jo_aln (i := 0) (j := 0) (by decide +kernel) rfl (jo_ici (n := 0) (by decide +kernel) (by decide) (jo_pfi (j := 18) jw_F11 (by decide) kw_1050 rfl rfl (by decide +kernel) (jo_iln (i := 1) (j := 1) (by decide +kernel) rfl (jo_ri rfl (by decide +kernel)))))))))
theorem ss_11_clear (l : Launch) : jw_Met l yy_11_clear cb_11_clear 2 (some .int) { frames := 0, cells := 0, slots := 0, locals := 0 } cc_11_clear := by
  refine jw_met (by decide) (fun pc => ?_)
  intro p e s m args below meth c Q D aC ad base K X RT ls st h z hf
  unfold qq_11_clear at hf
  by_cases h0 : pc = 0
  · subst h0; simp only [if_true, if_false, reduceIte, ↓reduceIte] at hf; exact sb_11_clear_0 l p e s m args below meth c Q D aC ad base K X RT ls st h z hf
  rw [if_neg h0] at hf
  exact hf.elim
abbrev cb_11_count : ByteArray := prog_13_method_73_code
abbrev yy_11_count : MethodName := ⟨"SwipedStripeModel", "count", "(I)I"⟩
def bb_11_count_113 (K : jw_K) (J : Nat → jw_S) : jw_S := xo_ci (-1) (xo_ri 0 0 K)
def bb_11_count_112 (K : jw_K) (J : Nat → jw_S) : jw_S := xo_ri 0 0 K
def bb_11_count_106 (K : jw_K) (J : Nat → jw_S) : jw_S := xo_al 0 (xo_gf 11 47 (xo_ci 0 (xo_iald jw_ro (bb_11_count_112 K J))))
def bb_11_count_90 (K : jw_K) (J : Nat → jw_S) : jw_S := xo_al 0 (xo_gf 11 46 (xo_ci 0 (xo_iald jw_ro (xo_ci (-4) (xo_cne (bb_11_count_106 K J) (xo_ci (-4) (bb_11_count_112 K J)))))))
def bb_11_count_85 (K : jw_K) (J : Nat → jw_S) : jw_S := xo_al 0 (xo_gf 11 1 (xo_ri 0 0 K))
def bb_11_count_80 (K : jw_K) (J : Nat → jw_S) : jw_S := xo_al 0 (xo_gf 11 41 (xo_ri 0 0 K))
def bb_11_count_78 (K : jw_K) (J : Nat → jw_S) : jw_S := xo_il 2 (xo_ri 0 0 K)
def bb_11_count_73 (K : jw_K) (J : Nat → jw_S) : jw_S := xo_al 0 (xo_gf 11 22 (xo_ri 0 0 K))
def bb_11_count_68 (K : jw_K) (J : Nat → jw_S) : jw_S := xo_al 0 (xo_gf 11 18 (xo_ri 0 0 K))
def bb_11_count_27 (K : jw_K) (J : Nat → jw_S) : jw_S := xo_il 1 (xo_ts 0 5 ([fun K J => bb_11_count_68 K J, fun K J => bb_11_count_73 K J, fun K J => bb_11_count_78 K J, fun K J => bb_11_count_80 K J, fun K J => bb_11_count_85 K J, fun K J => bb_11_count_90 K J].map (fun f => f K J)) (bb_11_count_113 K J))
def bb_11_count_4 (K : jw_K) (J : Nat → jw_S) : jw_S := xo_il 3 (xo_al 0 (xo_gf 11 22 (xo_cge (bb_11_count_27 K J) (xo_il 2 (xo_al 0 (xo_gf 11 21 (xo_il 3 (xo_iald jw_ro (xo_iadd (xo_is 2 (xo_ic 3 1 (J 4))))))))))))
def bb_11_count_0 (K : jw_K) (J : Nat → jw_S) : jw_S := xo_ci 0 (xo_is 2 (xo_ci 0 (xo_is 3 (J 4))))
def qq_11_count (K : jw_K) (pc : Nat) (J : Nat → jw_S) : jw_S := if pc = 0 then bb_11_count_0 K J else if pc = 4 then bb_11_count_4 K J else fun _ _ _ _ => False
def cc_11_count : jw_T := jw_C 4 qq_11_count
theorem sb_11_count_113 (l : Launch) : jo_Ok l cb_11_count 4 "SwipedStripeModel" "count" jw_ro { frames := 0, cells := 0, slots := 0, locals := 0 } (some .int) 0 0 bb_11_count_113 113 := (jo_ici (n := -1) (by decide +kernel) (by decide) (jo_ri rfl (by decide +kernel)))
theorem sb_11_count_112 (l : Launch) : jo_Ok l cb_11_count 4 "SwipedStripeModel" "count" jw_ro { frames := 0, cells := 0, slots := 0, locals := 0 } (some .int) 0 0 bb_11_count_112 112 := (jo_ri rfl (by decide +kernel))
theorem sb_11_count_106 (l : Launch) : jo_Ok l cb_11_count 4 "SwipedStripeModel" "count" jw_ro { frames := 0, cells := 0, slots := 0, locals := 0 } (some .int) 0 0 bb_11_count_106 106 := (jo_aln (i := 0) (j := 0) (by decide +kernel) rfl (jo_gf (j := 47) jw_F11 (by decide) kw_1079 (by decide +kernel) (jo_ici (n := 0) (by decide +kernel) (by decide) (jo_iald (by decide +kernel) (sb_11_count_112 l)))))
theorem sb_11_count_90 (l : Launch) : jo_Ok l cb_11_count 4 "SwipedStripeModel" "count" jw_ro { frames := 0, cells := 0, slots := 0, locals := 0 } (some .int) 0 0 bb_11_count_90 90 := (jo_aln (i := 0) (j := 0) (by decide +kernel) rfl (jo_gf (j := 46) jw_F11 (by decide) kw_1078 (by decide +kernel) (jo_ici (n := 0) (by decide +kernel) (by decide) (jo_iald (by decide +kernel) (jo_bpi (n := -4) (by decide +kernel) (by decide) (jo_cne (off := 8) (tgt := 106) (by decide +kernel) (by decide) (sb_11_count_106 l) (jo_bpi (n := -4) (by decide +kernel) (by decide) (jo_goto (off := 9) (tgt := 112) (by decide +kernel) (by decide) (sb_11_count_112 l)))))))))
theorem sb_11_count_85 (l : Launch) : jo_Ok l cb_11_count 4 "SwipedStripeModel" "count" jw_ro { frames := 0, cells := 0, slots := 0, locals := 0 } (some .int) 0 0 bb_11_count_85 85 := (jo_aln (i := 0) (j := 0) (by decide +kernel) rfl (jo_gf (j := 1) jw_F11 (by decide) kw_1033 (by decide +kernel) (jo_ri rfl (by decide +kernel))))
theorem sb_11_count_80 (l : Launch) : jo_Ok l cb_11_count 4 "SwipedStripeModel" "count" jw_ro { frames := 0, cells := 0, slots := 0, locals := 0 } (some .int) 0 0 bb_11_count_80 80 := (jo_aln (i := 0) (j := 0) (by decide +kernel) rfl (jo_gf (j := 41) jw_F11 (by decide) kw_1073 (by decide +kernel) (jo_ri rfl (by decide +kernel))))
theorem sb_11_count_78 (l : Launch) : jo_Ok l cb_11_count 4 "SwipedStripeModel" "count" jw_ro { frames := 0, cells := 0, slots := 0, locals := 0 } (some .int) 0 0 bb_11_count_78 78 := (jo_iln (i := 2) (j := 2) (by decide +kernel) rfl (jo_ri rfl (by decide +kernel)))
theorem sb_11_count_73 (l : Launch) : jo_Ok l cb_11_count 4 "SwipedStripeModel" "count" jw_ro { frames := 0, cells := 0, slots := 0, locals := 0 } (some .int) 0 0 bb_11_count_73 73 := (jo_aln (i := 0) (j := 0) (by decide +kernel) rfl (jo_gf (j := 22) jw_F11 (by decide) kw_1054 (by decide +kernel) (jo_ri rfl (by decide +kernel))))
theorem sb_11_count_68 (l : Launch) : jo_Ok l cb_11_count 4 "SwipedStripeModel" "count" jw_ro { frames := 0, cells := 0, slots := 0, locals := 0 } (some .int) 0 0 bb_11_count_68 68 := (jo_aln (i := 0) (j := 0) (by decide +kernel) rfl (jo_gf (j := 18) jw_F11 (by decide) kw_1050 (by decide +kernel) (jo_ri rfl (by decide +kernel))))
theorem sb_11_count_27 (l : Launch) : jo_Ok l cb_11_count 4 "SwipedStripeModel" "count" jw_ro { frames := 0, cells := 0, slots := 0, locals := 0 } (some .int) 0 0 bb_11_count_27 27 := (jo_iln (i := 1) (j := 1) (by decide +kernel) rfl (jo_ts (dflt := 85) (offs := #[40, 45, 50, 52, 57, 62]) (len := 40) (tg := [68, 73, 78, 80, 85, 90]) (dt := 113) (by decide +kernel) (by decide) (by decide +kernel) (by decide) rfl (sb_11_count_113 l) (fun i q f h1 h2 => by
    match i, h1, h2 with
    | 0, h1, h2 => cases h1; cases h2; exact (sb_11_count_68 l)
    | 1, h1, h2 => cases h1; cases h2; exact (sb_11_count_73 l)
    | 2, h1, h2 => cases h1; cases h2; exact (sb_11_count_78 l)
    | 3, h1, h2 => cases h1; cases h2; exact (sb_11_count_80 l)
    | 4, h1, h2 => cases h1; cases h2; exact (sb_11_count_85 l)
    | 5, h1, h2 => cases h1; cases h2; exact (sb_11_count_90 l)
    | i + 6, h1, h2 => simp at h1)))
theorem sb_11_count_4 (l : Launch) : jo_Ok l cb_11_count 4 "SwipedStripeModel" "count" jw_ro { frames := 0, cells := 0, slots := 0, locals := 0 } (some .int) 0 0 bb_11_count_4 4 := (jo_iln (i := 3) (j := 3) (by decide +kernel) rfl (jo_aln (i := 0) (j := 0) (by decide +kernel) rfl (jo_gf (j := 22) jw_F11 (by decide) kw_1054 (by decide +kernel) (jo_cge (off := 18) (tgt := 27) (by decide +kernel) (by decide) (sb_11_count_27 l) (jo_iln (i := 2) (j := 2) (by decide +kernel) rfl (jo_aln (i := 0) (j := 0) (by decide +kernel) rfl (jo_gf (j := 21) jw_F11 (by decide) kw_1053 (by decide +kernel) (jo_iln (i := 3) (j := 3) (by decide +kernel) rfl (jo_iald (by decide +kernel) (jo_iadd (by decide +kernel) (jo_isn (i := 2) (j := 2) (by decide +kernel) rfl (by decide) (jo_ic (n0 := 1) (by decide +kernel) (by decide) (by decide) (jo_goto (off := -20) (tgt := 4) (by decide +kernel) (by decide) (jo_J))))))))))))))
theorem sb_11_count_0 (l : Launch) : jo_Ok l cb_11_count 4 "SwipedStripeModel" "count" jw_ro { frames := 0, cells := 0, slots := 0, locals := 0 } (some .int) 0 0 bb_11_count_0 0 := (jo_ici (n := 0) (by decide +kernel) (by decide) (jo_isn (i := 2) (j := 2) (by decide +kernel) rfl (by decide) (jo_ici (n := 0) (by decide +kernel) (by decide) (jo_isn (i := 3) (j := 3) (by decide +kernel) rfl (by decide) jo_J))))
theorem ss_11_count (l : Launch) : jw_Met l yy_11_count cb_11_count 4 (some .int) { frames := 0, cells := 0, slots := 0, locals := 0 } cc_11_count := by
  refine jw_met (by decide) (fun pc => ?_)
  intro p e s m args below meth c Q D aC ad base K X RT ls st h z hf
  unfold qq_11_count at hf
  by_cases h0 : pc = 0
  · subst h0; simp only [if_true, if_false, reduceIte, ↓reduceIte] at hf; exact sb_11_count_0 l p e s m args below meth c Q D aC ad base K X RT ls st h z hf
  rw [if_neg h0] at hf
  by_cases h4 : pc = 4
  · subst h4; simp only [if_true, if_false, reduceIte, ↓reduceIte] at hf; exact sb_11_count_4 l p e s m args below meth c Q D aC ad base K X RT ls st h z hf
  rw [if_neg h4] at hf
  exact hf.elim
abbrev cb_11_drop : ByteArray := prog_13_method_67_code
abbrev yy_11_drop : MethodName := ⟨"SwipedStripeModel", "drop", "()I"⟩
def bb_11_drop_0 (K : jw_K) (J : Nat → jw_S) : jw_S := xo_al 0 (xo_gf 11 41 (xo_is 1 (xo_al 0 (xo_ci 0 (xo_pfi 11 41 (xo_il 1 (xo_ri 0 0 K)))))))
def qq_11_drop (K : jw_K) (pc : Nat) (J : Nat → jw_S) : jw_S := if pc = 0 then bb_11_drop_0 K J else fun _ _ _ _ => False
def cc_11_drop : jw_T := jw_C 2 qq_11_drop
theorem sb_11_drop_0 (l : Launch) : jo_Ok l cb_11_drop 2 "SwipedStripeModel" "drop" jw_ro { frames := 0, cells := 0, slots := 0, locals := 0 } (some .int) 0 0 bb_11_drop_0 0 := (jo_aln (i := 0) (j := 0) (by decide +kernel) rfl (jo_gf (j := 41) jw_F11 (by decide) kw_1073 (by decide +kernel) (jo_isn (i := 1) (j := 1) (by decide +kernel) rfl (by decide) (jo_aln (i := 0) (j := 0) (by decide +kernel) rfl (jo_ici (n := 0) (by decide +kernel) (by decide) (jo_pfi (j := 41) jw_F11 (by decide) kw_1073 rfl rfl (by decide +kernel) (jo_iln (i := 1) (j := 1) (by decide +kernel) rfl (jo_ri rfl (by decide +kernel)))))))))
theorem ss_11_drop (l : Launch) : jw_Met l yy_11_drop cb_11_drop 2 (some .int) { frames := 0, cells := 0, slots := 0, locals := 0 } cc_11_drop := by
  refine jw_met (by decide) (fun pc => ?_)
  intro p e s m args below meth c Q D aC ad base K X RT ls st h z hf
  unfold qq_11_drop at hf
  by_cases h0 : pc = 0
  · subst h0; simp only [if_true, if_false, reduceIte, ↓reduceIte] at hf; exact sb_11_drop_0 l p e s m args below meth c Q D aC ad base K X RT ls st h z hf
  rw [if_neg h0] at hf
  exact hf.elim
abbrev cb_11_end : ByteArray := prog_13_method_5_code
abbrev yy_11_end : MethodName := ⟨"SwipedStripeModel", "end", "(I)I"⟩
def bb_11_end_16 (K : jw_K) (J : Nat → jw_S) : jw_S := xo_al 0 (xo_gf 11 1 (xo_is 2 (xo_al 0 (xo_il 1 (xo_pfi 11 1 (xo_il 2 (xo_ri 0 0 K)))))))
def bb_11_end_0 (K : jw_K) (J : Nat → jw_S) : jw_S := xo_il 1 (xo_i2l (xo_cl 0 (xo_al 0 (xo_gf 11 1 (xo_i2l (xo_cs cc_11_in 3 (xo_zne (bb_11_end_16 K J) (xo_ci (-1) (xo_ri 0 0 K)))))))))
def qq_11_end (K : jw_K) (pc : Nat) (J : Nat → jw_S) : jw_S := if pc = 0 then bb_11_end_0 K J else fun _ _ _ _ => False
def cc_11_end : jw_T := jw_C 3 qq_11_end
theorem sb_11_end_16 (l : Launch) : jo_Ok l cb_11_end 3 "SwipedStripeModel" "end" jw_ro { frames := 1, cells := 0, slots := 0, locals := 25 } (some .int) 0 0 bb_11_end_16 16 := (jo_aln (i := 0) (j := 0) (by decide +kernel) rfl (jo_gf (j := 1) jw_F11 (by decide) kw_1033 (by decide +kernel) (jo_isn (i := 2) (j := 2) (by decide +kernel) rfl (by decide) (jo_aln (i := 0) (j := 0) (by decide +kernel) rfl (jo_iln (i := 1) (j := 1) (by decide +kernel) rfl (jo_pfi (j := 1) jw_F11 (by decide) kw_1033 rfl rfl (by decide +kernel) (jo_iln (i := 2) (j := 2) (by decide +kernel) rfl (jo_ri rfl (by decide +kernel)))))))))
theorem sb_11_end_0 (l : Launch) : jo_Ok l cb_11_end 3 "SwipedStripeModel" "end" jw_ro { frames := 1, cells := 0, slots := 0, locals := 25 } (some .int) 0 0 bb_11_end_0 0 := (jo_iln (i := 1) (j := 1) (by decide +kernel) rfl (jo_i2l (by decide +kernel) (jo_lco (n := 0) (by decide +kernel) (by decide) (jo_aln (i := 0) (j := 0) (by decide +kernel) rfl (jo_gf (j := 1) jw_F11 (by decide) kw_1033 (by decide +kernel) (jo_i2l (by decide +kernel) (jo_cs (n := 3) (idx := 81) (ss_11_in l) kw_1194 kw_13 kw_1192 kw_1193 ⟨by decide, by decide, by decide +kernel⟩ ⟨by decide, by decide⟩ (fun _ _ h => h) ⟨rfl, rfl⟩ (by decide +kernel) (jo_zne (off := 5) (tgt := 16) (by decide +kernel) (by decide) (sb_11_end_16 l) (jo_ici (n := -1) (by decide +kernel) (by decide) (jo_ri rfl (by decide +kernel)))))))))))
theorem ss_11_end (l : Launch) : jw_Met l yy_11_end cb_11_end 3 (some .int) { frames := 1, cells := 0, slots := 0, locals := 25 } cc_11_end := by
  refine jw_met (by decide) (fun pc => ?_)
  intro p e s m args below meth c Q D aC ad base K X RT ls st h z hf
  unfold qq_11_end at hf
  by_cases h0 : pc = 0
  · subst h0; simp only [if_true, if_false, reduceIte, ↓reduceIte] at hf; exact sb_11_end_0 l p e s m args below meth c Q D aC ad base K X RT ls st h z hf
  rw [if_neg h0] at hf
  exact hf.elim
abbrev cb_11_fault : ByteArray := prog_13_method_12_code
abbrev yy_11_fault : MethodName := ⟨"SwipedStripeModel", "fault", "()I"⟩
def bb_11_fault_0 (K : jw_K) (J : Nat → jw_S) : jw_S := xo_al 0 (xo_gf 11 2 (xo_ri 0 0 K))
def qq_11_fault (K : jw_K) (pc : Nat) (J : Nat → jw_S) : jw_S := if pc = 0 then bb_11_fault_0 K J else fun _ _ _ _ => False
def cc_11_fault : jw_T := jw_C 1 qq_11_fault
theorem sb_11_fault_0 (l : Launch) : jo_Ok l cb_11_fault 1 "SwipedStripeModel" "fault" jw_ro { frames := 0, cells := 0, slots := 0, locals := 0 } (some .int) 0 0 bb_11_fault_0 0 := (jo_aln (i := 0) (j := 0) (by decide +kernel) rfl (jo_gf (j := 2) jw_F11 (by decide) kw_1034 (by decide +kernel) (jo_ri rfl (by decide +kernel))))
theorem ss_11_fault (l : Launch) : jw_Met l yy_11_fault cb_11_fault 1 (some .int) { frames := 0, cells := 0, slots := 0, locals := 0 } cc_11_fault := by
  refine jw_met (by decide) (fun pc => ?_)
  intro p e s m args below meth c Q D aC ad base K X RT ls st h z hf
  unfold qq_11_fault at hf
  by_cases h0 : pc = 0
  · subst h0; simp only [if_true, if_false, reduceIte, ↓reduceIte] at hf; exact sb_11_fault_0 l p e s m args below meth c Q D aC ad base K X RT ls st h z hf
  rw [if_neg h0] at hf
  exact hf.elim
abbrev cb_11_feed : ByteArray := prog_13_method_4_code
abbrev yy_11_feed : MethodName := ⟨"SwipedStripeModel", "feed", "(J)I"⟩
def bb_11_feed_56 (K : jw_K) (J : Nat → jw_S) : jw_S := xo_al 0 (xo_gf 11 1 (xo_ri 0 0 K))
def bb_11_feed_19 (K : jw_K) (J : Nat → jw_S) : jw_S := xo_il 3 (xo_zlt (bb_11_feed_56 K J) (xo_al 0 (xo_gf 11 0 (xo_al 0 (xo_gf 11 1 (xo_ll 1 (xo_il 3 (xo_lshr (xo_l2i (xo_ci 255 (xo_iand (xo_iast (xo_al 0 (xo_dup (xo_gf 11 1 (xo_ci 1 (xo_iadd (xo_pfi 11 1 (xo_ic 3 (-8) (J 19))))))))))))))))))))
def bb_11_feed_16 (K : jw_K) (J : Nat → jw_S) : jw_S := xo_ci 56 (xo_is 3 (J 19))
def bb_11_feed_0 (K : jw_K) (J : Nat → jw_S) : jw_S := xo_al 0 (xo_gf 11 1 (xo_ci 8 (xo_iadd (xo_ci 160 (xo_cle (bb_11_feed_16 K J) (xo_ci (-3) (xo_ri 0 0 K)))))))
def qq_11_feed (K : jw_K) (pc : Nat) (J : Nat → jw_S) : jw_S := if pc = 0 then bb_11_feed_0 K J else if pc = 19 then bb_11_feed_19 K J else fun _ _ _ _ => False
def cc_11_feed : jw_T := jw_C 4 qq_11_feed
theorem sb_11_feed_56 (l : Launch) : jo_Ok l cb_11_feed 4 "SwipedStripeModel" "feed" jw_ro { frames := 0, cells := 0, slots := 0, locals := 0 } (some .int) 0 0 bb_11_feed_56 56 := (jo_aln (i := 0) (j := 0) (by decide +kernel) rfl (jo_gf (j := 1) jw_F11 (by decide) kw_1033 (by decide +kernel) (jo_ri rfl (by decide +kernel))))
theorem sb_11_feed_19 (l : Launch) : jo_Ok l cb_11_feed 4 "SwipedStripeModel" "feed" jw_ro { frames := 0, cells := 0, slots := 0, locals := 0 } (some .int) 0 0 bb_11_feed_19 19 := (jo_iln (i := 3) (j := 3) (by decide +kernel) rfl (jo_zlt (off := 36) (tgt := 56) (by decide +kernel) (by decide) (sb_11_feed_56 l) (jo_aln (i := 0) (j := 0) (by decide +kernel) rfl (jo_gf (j := 0) jw_F11 (by decide) kw_1032 (by decide +kernel) (jo_aln (i := 0) (j := 0) (by decide +kernel) rfl (jo_gf (j := 1) jw_F11 (by decide) kw_1033 (by decide +kernel) (jo_lln (i := 1) (j := 1) (by decide +kernel) rfl (jo_iln (i := 3) (j := 3) (by decide +kernel) rfl (jo_lshr (by decide +kernel) (jo_l2i (by decide +kernel) (jo_spi (n := 255) (by decide +kernel) (by decide) (jo_iand (by decide +kernel) (jo_iast (by decide +kernel) (jo_aln (i := 0) (j := 0) (by decide +kernel) rfl (jo_dup (by decide +kernel) (jo_gf (j := 1) jw_F11 (by decide) kw_1033 (by decide +kernel) (jo_ici (n := 1) (by decide +kernel) (by decide) (jo_iadd (by decide +kernel) (jo_pfi (j := 1) jw_F11 (by decide) kw_1033 rfl rfl (by decide +kernel) (jo_ic (n0 := -8) (by decide +kernel) (by decide) (by decide) (jo_goto (off := -34) (tgt := 19) (by decide +kernel) (by decide) (jo_J))))))))))))))))))))))
theorem sb_11_feed_16 (l : Launch) : jo_Ok l cb_11_feed 4 "SwipedStripeModel" "feed" jw_ro { frames := 0, cells := 0, slots := 0, locals := 0 } (some .int) 0 0 bb_11_feed_16 16 := (jo_bpi (n := 56) (by decide +kernel) (by decide) (jo_isn (i := 3) (j := 3) (by decide +kernel) rfl (by decide) jo_J))
theorem sb_11_feed_0 (l : Launch) : jo_Ok l cb_11_feed 4 "SwipedStripeModel" "feed" jw_ro { frames := 0, cells := 0, slots := 0, locals := 0 } (some .int) 0 0 bb_11_feed_0 0 := (jo_aln (i := 0) (j := 0) (by decide +kernel) rfl (jo_gf (j := 1) jw_F11 (by decide) kw_1033 (by decide +kernel) (jo_bpi (n := 8) (by decide +kernel) (by decide) (jo_iadd (by decide +kernel) (jo_spi (n := 160) (by decide +kernel) (by decide) (jo_cle (off := 6) (tgt := 16) (by decide +kernel) (by decide) (sb_11_feed_16 l) (jo_bpi (n := -3) (by decide +kernel) (by decide) (jo_ri rfl (by decide +kernel)))))))))
theorem ss_11_feed (l : Launch) : jw_Met l yy_11_feed cb_11_feed 4 (some .int) { frames := 0, cells := 0, slots := 0, locals := 0 } cc_11_feed := by
  refine jw_met (by decide) (fun pc => ?_)
  intro p e s m args below meth c Q D aC ad base K X RT ls st h z hf
  unfold qq_11_feed at hf
  by_cases h0 : pc = 0
  · subst h0; simp only [if_true, if_false, reduceIte, ↓reduceIte] at hf; exact sb_11_feed_0 l p e s m args below meth c Q D aC ad base K X RT ls st h z hf
  rw [if_neg h0] at hf
  by_cases h19 : pc = 19
  · subst h19; simp only [if_true, if_false, reduceIte, ↓reduceIte] at hf; exact sb_11_feed_19 l p e s m args below meth c Q D aC ad base K X RT ls st h z hf
  rw [if_neg h19] at hf
  exact hf.elim
abbrev cb_11_isWhole : ByteArray := prog_13_method_46_code
abbrev yy_11_isWhole : MethodName := ⟨"SwipedStripeModel", "isWhole", "()Z"⟩
def bb_11_isWhole_20 (K : jw_K) (J : Nat → jw_S) : jw_S := xo_rz 0 0 K
def bb_11_isWhole_19 (K : jw_K) (J : Nat → jw_S) : jw_S := xo_ci 0 (bb_11_isWhole_20 K J)
def bb_11_isWhole_15 (K : jw_K) (J : Nat → jw_S) : jw_S := xo_ci 1 (bb_11_isWhole_20 K J)
def bb_11_isWhole_0 (K : jw_K) (J : Nat → jw_S) : jw_S := xo_al 0 (xo_gf 11 31 (xo_zeq (bb_11_isWhole_15 K J) (xo_al 0 (xo_gf 11 31 (xo_ci 4 (xo_cle (bb_11_isWhole_19 K J) (bb_11_isWhole_15 K J)))))))
def qq_11_isWhole (K : jw_K) (pc : Nat) (J : Nat → jw_S) : jw_S := if pc = 0 then bb_11_isWhole_0 K J else fun _ _ _ _ => False
def cc_11_isWhole : jw_T := jw_C 1 qq_11_isWhole
theorem sb_11_isWhole_20 (l : Launch) : jo_Ok l cb_11_isWhole 1 "SwipedStripeModel" "isWhole" jw_ro { frames := 0, cells := 0, slots := 0, locals := 0 } (some .boolean) 0 0 bb_11_isWhole_20 20 := (jo_rz rfl (by decide +kernel))
theorem sb_11_isWhole_19 (l : Launch) : jo_Ok l cb_11_isWhole 1 "SwipedStripeModel" "isWhole" jw_ro { frames := 0, cells := 0, slots := 0, locals := 0 } (some .boolean) 0 0 bb_11_isWhole_19 19 := (jo_ici (n := 0) (by decide +kernel) (by decide) (sb_11_isWhole_20 l))
theorem sb_11_isWhole_15 (l : Launch) : jo_Ok l cb_11_isWhole 1 "SwipedStripeModel" "isWhole" jw_ro { frames := 0, cells := 0, slots := 0, locals := 0 } (some .boolean) 0 0 bb_11_isWhole_15 15 := (jo_ici (n := 1) (by decide +kernel) (by decide) (jo_goto (off := 4) (tgt := 20) (by decide +kernel) (by decide) (sb_11_isWhole_20 l)))
theorem sb_11_isWhole_0 (l : Launch) : jo_Ok l cb_11_isWhole 1 "SwipedStripeModel" "isWhole" jw_ro { frames := 0, cells := 0, slots := 0, locals := 0 } (some .boolean) 0 0 bb_11_isWhole_0 0 := (jo_aln (i := 0) (j := 0) (by decide +kernel) rfl (jo_gf (j := 31) jw_F11 (by decide) kw_1063 (by decide +kernel) (jo_zeq (off := 11) (tgt := 15) (by decide +kernel) (by decide) (sb_11_isWhole_15 l) (jo_aln (i := 0) (j := 0) (by decide +kernel) rfl (jo_gf (j := 31) jw_F11 (by decide) kw_1063 (by decide +kernel) (jo_ici (n := 4) (by decide +kernel) (by decide) (jo_cle (off := 7) (tgt := 19) (by decide +kernel) (by decide) (sb_11_isWhole_19 l) (sb_11_isWhole_15 l))))))))
theorem ss_11_isWhole (l : Launch) : jw_Met l yy_11_isWhole cb_11_isWhole 1 (some .boolean) { frames := 0, cells := 0, slots := 0, locals := 0 } cc_11_isWhole := by
  refine jw_met (by decide) (fun pc => ?_)
  intro p e s m args below meth c Q D aC ad base K X RT ls st h z hf
  unfold qq_11_isWhole at hf
  by_cases h0 : pc = 0
  · subst h0; simp only [if_true, if_false, reduceIte, ↓reduceIte] at hf; exact sb_11_isWhole_0 l p e s m args below meth c Q D aC ad base K X RT ls st h z hf
  rw [if_neg h0] at hf
  exact hf.elim
abbrev cb_11_fitsAt : ByteArray := prog_13_method_41_code
abbrev yy_11_fitsAt : MethodName := ⟨"SwipedStripeModel", "fitsAt", "(II)Z"⟩
def bb_11_fitsAt_26 (K : jw_K) (J : Nat → jw_S) : jw_S := xo_rz 0 0 K
def bb_11_fitsAt_25 (K : jw_K) (J : Nat → jw_S) : jw_S := xo_ci 0 (bb_11_fitsAt_26 K J)
def bb_11_fitsAt_0 (K : jw_K) (J : Nat → jw_S) : jw_S := xo_al 0 (xo_gf 11 24 (xo_il 1 (xo_al 0 (xo_gf 11 14 (xo_ci 0 (xo_iald jw_ro (xo_iadd (xo_iald jw_ro (xo_al 0 (xo_il 2 (xo_cv 11 cc_11_parity 2 (xo_cne (bb_11_fitsAt_25 K J) (xo_ci 1 (bb_11_fitsAt_26 K J))))))))))))))
def qq_11_fitsAt (K : jw_K) (pc : Nat) (J : Nat → jw_S) : jw_S := if pc = 0 then bb_11_fitsAt_0 K J else fun _ _ _ _ => False
def cc_11_fitsAt : jw_T := jw_C 3 qq_11_fitsAt
theorem sb_11_fitsAt_26 (l : Launch) : jo_Ok l cb_11_fitsAt 3 "SwipedStripeModel" "fitsAt" jw_ro { frames := 2, cells := 0, slots := 0, locals := 43 } (some .boolean) 0 0 bb_11_fitsAt_26 26 := (jo_rz rfl (by decide +kernel))
theorem sb_11_fitsAt_25 (l : Launch) : jo_Ok l cb_11_fitsAt 3 "SwipedStripeModel" "fitsAt" jw_ro { frames := 2, cells := 0, slots := 0, locals := 43 } (some .boolean) 0 0 bb_11_fitsAt_25 25 := (jo_ici (n := 0) (by decide +kernel) (by decide) (sb_11_fitsAt_26 l))
theorem sb_11_fitsAt_0 (l : Launch) : jo_Ok l cb_11_fitsAt 3 "SwipedStripeModel" "fitsAt" jw_ro { frames := 2, cells := 0, slots := 0, locals := 43 } (some .boolean) 0 0 bb_11_fitsAt_0 0 := (jo_aln (i := 0) (j := 0) (by decide +kernel) rfl (jo_gf (j := 24) jw_F11 (by decide) kw_1056 (by decide +kernel) (jo_iln (i := 1) (j := 1) (by decide +kernel) rfl (jo_aln (i := 0) (j := 0) (by decide +kernel) rfl (jo_gf (j := 14) jw_F11 (by decide) kw_1046 (by decide +kernel) (jo_ici (n := 0) (by decide +kernel) (by decide) (jo_iald (by decide +kernel) (jo_iadd (by decide +kernel) (jo_iald (by decide +kernel) (jo_aln (i := 0) (j := 0) (by decide +kernel) rfl (jo_iln (i := 2) (j := 2) (by decide +kernel) rfl (jo_cv (n := 1) (ss_11_parity l) kw_1264 kw_13 kw_1261 kw_1263 jw_F11 kp_38 ⟨by decide, by decide, by decide +kernel⟩ ⟨by decide, by decide⟩ (fun _ _ h => h) ⟨rfl, rfl⟩ (by decide +kernel) (jo_cne (off := 7) (tgt := 25) (by decide +kernel) (by decide) (sb_11_fitsAt_25 l) (jo_ici (n := 1) (by decide +kernel) (by decide) (jo_goto (off := 4) (tgt := 26) (by decide +kernel) (by decide) (sb_11_fitsAt_26 l))))))))))))))))
theorem ss_11_fitsAt (l : Launch) : jw_Met l yy_11_fitsAt cb_11_fitsAt 3 (some .boolean) { frames := 2, cells := 0, slots := 0, locals := 43 } cc_11_fitsAt := by
  refine jw_met (by decide) (fun pc => ?_)
  intro p e s m args below meth c Q D aC ad base K X RT ls st h z hf
  unfold qq_11_fitsAt at hf
  by_cases h0 : pc = 0
  · subst h0; simp only [if_true, if_false, reduceIte, ↓reduceIte] at hf; exact sb_11_fitsAt_0 l p e s m args below meth c Q D aC ad base K X RT ls st h z hf
  rw [if_neg h0] at hf
  exact hf.elim
abbrev cb_11_symbolAt : ByteArray := prog_13_method_40_code
abbrev yy_11_symbolAt : MethodName := ⟨"SwipedStripeModel", "symbolAt", "(I)I"⟩
def bb_11_symbolAt_52 (K : jw_K) (J : Nat → jw_S) : jw_S := xo_il 3 (xo_ri 0 0 K)
def bb_11_symbolAt_25 (K : jw_K) (J : Nat → jw_S) : jw_S := xo_il 4 (xo_il 2 (xo_cge (bb_11_symbolAt_52 K J) (xo_il 3 (xo_al 0 (xo_gf 11 24 (xo_il 1 (xo_il 4 (xo_iadd (xo_iald jw_ro (xo_il 4 (xo_ishl (xo_ior (xo_is 3 (xo_ic 4 1 (J 25)))))))))))))))
def bb_11_symbolAt_20 (K : jw_K) (J : Nat → jw_S) : jw_S := xo_ci 0 (xo_is 3 (xo_ci 0 (xo_is 4 (J 25))))
def bb_11_symbolAt_0 (K : jw_K) (J : Nat → jw_S) : jw_S := xo_al 0 (xo_gf 11 14 (xo_ci 0 (xo_iald jw_ro (xo_is 2 (xo_il 1 (xo_il 2 (xo_iadd (xo_al 0 (xo_gf 11 25 (xo_clt (bb_11_symbolAt_20 K J) (xo_ci (-4) (xo_ri 0 0 K))))))))))))
def qq_11_symbolAt (K : jw_K) (pc : Nat) (J : Nat → jw_S) : jw_S := if pc = 0 then bb_11_symbolAt_0 K J else if pc = 25 then bb_11_symbolAt_25 K J else fun _ _ _ _ => False
def cc_11_symbolAt : jw_T := jw_C 5 qq_11_symbolAt
theorem sb_11_symbolAt_52 (l : Launch) : jo_Ok l cb_11_symbolAt 5 "SwipedStripeModel" "symbolAt" jw_ro { frames := 0, cells := 0, slots := 0, locals := 0 } (some .int) 0 0 bb_11_symbolAt_52 52 := (jo_iln (i := 3) (j := 3) (by decide +kernel) rfl (jo_ri rfl (by decide +kernel)))
theorem sb_11_symbolAt_25 (l : Launch) : jo_Ok l cb_11_symbolAt 5 "SwipedStripeModel" "symbolAt" jw_ro { frames := 0, cells := 0, slots := 0, locals := 0 } (some .int) 0 0 bb_11_symbolAt_25 25 := (jo_il (by decide +kernel) (jo_iln (i := 2) (j := 2) (by decide +kernel) rfl (jo_cge (off := 24) (tgt := 52) (by decide +kernel) (by decide) (sb_11_symbolAt_52 l) (jo_iln (i := 3) (j := 3) (by decide +kernel) rfl (jo_aln (i := 0) (j := 0) (by decide +kernel) rfl (jo_gf (j := 24) jw_F11 (by decide) kw_1056 (by decide +kernel) (jo_iln (i := 1) (j := 1) (by decide +kernel) rfl (jo_il (by decide +kernel) (jo_iadd (by decide +kernel) (jo_iald (by decide +kernel) (jo_il (by decide +kernel) (jo_ishl (by decide +kernel) (jo_ior (by decide +kernel) (jo_isn (i := 3) (j := 3) (by decide +kernel) rfl (by decide) (jo_ic (n0 := 1) (by decide +kernel) (by decide) (by decide) (jo_goto (off := -24) (tgt := 25) (by decide +kernel) (by decide) (jo_J)))))))))))))))))
theorem sb_11_symbolAt_20 (l : Launch) : jo_Ok l cb_11_symbolAt 5 "SwipedStripeModel" "symbolAt" jw_ro { frames := 0, cells := 0, slots := 0, locals := 0 } (some .int) 0 0 bb_11_symbolAt_20 20 := (jo_ici (n := 0) (by decide +kernel) (by decide) (jo_isn (i := 3) (j := 3) (by decide +kernel) rfl (by decide) (jo_ici (n := 0) (by decide +kernel) (by decide) (jo_is (by decide +kernel) (by decide) jo_J))))
theorem sb_11_symbolAt_0 (l : Launch) : jo_Ok l cb_11_symbolAt 5 "SwipedStripeModel" "symbolAt" jw_ro { frames := 0, cells := 0, slots := 0, locals := 0 } (some .int) 0 0 bb_11_symbolAt_0 0 := (jo_aln (i := 0) (j := 0) (by decide +kernel) rfl (jo_gf (j := 14) jw_F11 (by decide) kw_1046 (by decide +kernel) (jo_ici (n := 0) (by decide +kernel) (by decide) (jo_iald (by decide +kernel) (jo_isn (i := 2) (j := 2) (by decide +kernel) rfl (by decide) (jo_iln (i := 1) (j := 1) (by decide +kernel) rfl (jo_iln (i := 2) (j := 2) (by decide +kernel) rfl (jo_iadd (by decide +kernel) (jo_aln (i := 0) (j := 0) (by decide +kernel) rfl (jo_gf (j := 25) jw_F11 (by decide) kw_1057 (by decide +kernel) (jo_clt (off := 6) (tgt := 20) (by decide +kernel) (by decide) (sb_11_symbolAt_20 l) (jo_bpi (n := -4) (by decide +kernel) (by decide) (jo_ri rfl (by decide +kernel))))))))))))))
theorem ss_11_symbolAt (l : Launch) : jw_Met l yy_11_symbolAt cb_11_symbolAt 5 (some .int) { frames := 0, cells := 0, slots := 0, locals := 0 } cc_11_symbolAt := by
  refine jw_met (by decide) (fun pc => ?_)
  intro p e s m args below meth c Q D aC ad base K X RT ls st h z hf
  unfold qq_11_symbolAt at hf
  by_cases h0 : pc = 0
  · subst h0; simp only [if_true, if_false, reduceIte, ↓reduceIte] at hf; exact sb_11_symbolAt_0 l p e s m args below meth c Q D aC ad base K X RT ls st h z hf
  rw [if_neg h0] at hf
  by_cases h25 : pc = 25
  · subst h25; simp only [if_true, if_false, reduceIte, ↓reduceIte] at hf; exact sb_11_symbolAt_25 l p e s m args below meth c Q D aC ad base K X RT ls st h z hf
  rw [if_neg h25] at hf
  exact hf.elim
abbrev cb_11_layBegin : ByteArray := prog_13_method_42_code
abbrev yy_11_layBegin : MethodName := ⟨"SwipedStripeModel", "layBegin", "()V"⟩
def bb_11_layBegin_64 (K : jw_K) (J : Nat → jw_S) : jw_S := xo_rv 0 0 K
def bb_11_layBegin_58 (K : jw_K) (J : Nat → jw_S) : jw_S := xo_ic 1 1 (J 8)
def bb_11_layBegin_53 (K : jw_K) (J : Nat → jw_S) : jw_S := xo_al 0 (xo_il 1 (xo_pfi 11 32 (bb_11_layBegin_58 K J)))
def bb_11_layBegin_8 (K : jw_K) (J : Nat → jw_S) : jw_S := xo_il 1 (xo_al 0 (xo_gf 11 25 (xo_cge (bb_11_layBegin_64 K J) (xo_al 0 (xo_gf 11 32 (xo_ci (-4) (xo_cne (bb_11_layBegin_64 K J) (xo_al 0 (xo_il 1 (xo_cv 11 cc_11_symbolAt 2 (xo_al 0 (xo_gf 11 14 (xo_ci 2 (xo_iald jw_ro (xo_cne (bb_11_layBegin_58 K J) (xo_al 0 (xo_il 1 (xo_al 0 (xo_gf 11 14 (xo_ci 2 (xo_iald jw_ro (xo_cv 11 cc_11_fitsAt 3 (xo_zeq (bb_11_layBegin_58 K J) (bb_11_layBegin_53 K J))))))))))))))))))))))))
def bb_11_layBegin_0 (K : jw_K) (J : Nat → jw_S) : jw_S := xo_al 0 (xo_ci (-4) (xo_pfi 11 32 (xo_ci 0 (xo_is 1 (J 8)))))
def qq_11_layBegin (K : jw_K) (pc : Nat) (J : Nat → jw_S) : jw_S := if pc = 0 then bb_11_layBegin_0 K J else if pc = 8 then bb_11_layBegin_8 K J else fun _ _ _ _ => False
def cc_11_layBegin : jw_T := jw_C 2 qq_11_layBegin
theorem sb_11_layBegin_64 (l : Launch) : jo_Ok l cb_11_layBegin 2 "SwipedStripeModel" "layBegin" jw_ro { frames := 3, cells := 0, slots := 0, locals := 65 } none 0 0 bb_11_layBegin_64 64 := (jo_rv rfl (by decide +kernel))
theorem sb_11_layBegin_58 (l : Launch) : jo_Ok l cb_11_layBegin 2 "SwipedStripeModel" "layBegin" jw_ro { frames := 3, cells := 0, slots := 0, locals := 65 } none 0 0 bb_11_layBegin_58 58 := (jo_ic (n0 := 1) (by decide +kernel) (by decide) (by decide) (jo_goto (off := -53) (tgt := 8) (by decide +kernel) (by decide) (jo_J)))
theorem sb_11_layBegin_53 (l : Launch) : jo_Ok l cb_11_layBegin 2 "SwipedStripeModel" "layBegin" jw_ro { frames := 3, cells := 0, slots := 0, locals := 65 } none 0 0 bb_11_layBegin_53 53 := (jo_aln (i := 0) (j := 0) (by decide +kernel) rfl (jo_iln (i := 1) (j := 1) (by decide +kernel) rfl (jo_pfi (j := 32) jw_F11 (by decide) kw_1064 rfl rfl (by decide +kernel) (sb_11_layBegin_58 l))))
theorem sb_11_layBegin_8 (l : Launch) : jo_Ok l cb_11_layBegin 2 "SwipedStripeModel" "layBegin" jw_ro { frames := 3, cells := 0, slots := 0, locals := 65 } none 0 0 bb_11_layBegin_8 8 := (jo_iln (i := 1) (j := 1) (by decide +kernel) rfl (jo_aln (i := 0) (j := 0) (by decide +kernel) rfl (jo_gf (j := 25) jw_F11 (by decide) kw_1057 (by decide +kernel) (jo_cge (off := 51) (tgt := 64) (by decide +kernel) (by decide) (sb_11_layBegin_64 l) (jo_aln (i := 0) (j := 0) (by decide +kernel) rfl (jo_gf (j := 32) jw_F11 (by decide) kw_1064 (by decide +kernel) (jo_bpi (n := -4) (by decide +kernel) (by decide) (jo_cne (off := 42) (tgt := 64) (by decide +kernel) (by decide) (sb_11_layBegin_64 l) (jo_aln (i := 0) (j := 0) (by decide +kernel) rfl (jo_iln (i := 1) (j := 1) (by decide +kernel) rfl (jo_cv (n := 1) (ss_11_symbolAt l) kw_1359 kw_13 kw_1356 kw_1358 jw_F11 kp_48 ⟨by decide, by decide, by decide +kernel⟩ ⟨by decide, by decide⟩ (fun _ _ h => h) ⟨rfl, rfl⟩ (by decide +kernel) (jo_aln (i := 0) (j := 0) (by decide +kernel) rfl (jo_gf (j := 14) jw_F11 (by decide) kw_1046 (by decide +kernel) (jo_ici (n := 2) (by decide +kernel) (by decide) (jo_iald (by decide +kernel) (jo_cne (off := 22) (tgt := 58) (by decide +kernel) (by decide) (sb_11_layBegin_58 l) (jo_aln (i := 0) (j := 0) (by decide +kernel) rfl (jo_iln (i := 1) (j := 1) (by decide +kernel) rfl (jo_aln (i := 0) (j := 0) (by decide +kernel) rfl (jo_gf (j := 14) jw_F11 (by decide) kw_1046 (by decide +kernel) (jo_ici (n := 2) (by decide +kernel) (by decide) (jo_iald (by decide +kernel) (jo_cv (n := 2) (ss_11_fitsAt l) kw_1363 kw_13 kw_1360 kw_1362 jw_F11 kp_49 ⟨by decide, by decide, by decide +kernel⟩ ⟨by decide, by decide⟩ (fun _ _ h => h) ⟨rfl, rfl⟩ (by decide +kernel) (jo_zeq (off := 8) (tgt := 58) (by decide +kernel) (by decide) (sb_11_layBegin_58 l) (sb_11_layBegin_53 l)))))))))))))))))))))))))
theorem sb_11_layBegin_0 (l : Launch) : jo_Ok l cb_11_layBegin 2 "SwipedStripeModel" "layBegin" jw_ro { frames := 3, cells := 0, slots := 0, locals := 65 } none 0 0 bb_11_layBegin_0 0 := (jo_aln (i := 0) (j := 0) (by decide +kernel) rfl (jo_bpi (n := -4) (by decide +kernel) (by decide) (jo_pfi (j := 32) jw_F11 (by decide) kw_1064 rfl rfl (by decide +kernel) (jo_ici (n := 0) (by decide +kernel) (by decide) (jo_isn (i := 1) (j := 1) (by decide +kernel) rfl (by decide) jo_J)))))
theorem ss_11_layBegin (l : Launch) : jw_Met l yy_11_layBegin cb_11_layBegin 2 none { frames := 3, cells := 0, slots := 0, locals := 65 } cc_11_layBegin := by
  refine jw_met (by decide) (fun pc => ?_)
  intro p e s m args below meth c Q D aC ad base K X RT ls st h z hf
  unfold qq_11_layBegin at hf
  by_cases h0 : pc = 0
  · subst h0; simp only [if_true, if_false, reduceIte, ↓reduceIte] at hf; exact sb_11_layBegin_0 l p e s m args below meth c Q D aC ad base K X RT ls st h z hf
  rw [if_neg h0] at hf
  by_cases h8 : pc = 8
  · subst h8; simp only [if_true, if_false, reduceIte, ↓reduceIte] at hf; exact sb_11_layBegin_8 l p e s m args below meth c Q D aC ad base K X RT ls st h z hf
  rw [if_neg h8] at hf
  exact hf.elim
abbrev cb_11_size : ByteArray := prog_13_method_35_code
abbrev yy_11_size : MethodName := ⟨"SwipedStripeModel", "size", "(J)J"⟩
def bb_11_size_12 (K : jw_K) (J : Nat → jw_S) : jw_S := xo_rl 0 0 K
def bb_11_size_11 (K : jw_K) (J : Nat → jw_S) : jw_S := xo_ll 0 (bb_11_size_12 K J)
def bb_11_size_0 (K : jw_K) (J : Nat → jw_S) : jw_S := xo_ll 0 (xo_cl 0 (xo_lcmp (xo_zge (bb_11_size_11 K J) (xo_ll 0 (xo_lneg (bb_11_size_12 K J))))))
def qq_11_size (K : jw_K) (pc : Nat) (J : Nat → jw_S) : jw_S := if pc = 0 then bb_11_size_0 K J else fun _ _ _ _ => False
def cc_11_size : jw_T := jw_C 2 qq_11_size
theorem sb_11_size_12 (l : Launch) : jo_Ok l cb_11_size 2 "SwipedStripeModel" "size" jw_ro { frames := 0, cells := 0, slots := 0, locals := 0 } (some .long) 0 0 bb_11_size_12 12 := (jo_rl rfl (by decide +kernel))
theorem sb_11_size_11 (l : Launch) : jo_Ok l cb_11_size 2 "SwipedStripeModel" "size" jw_ro { frames := 0, cells := 0, slots := 0, locals := 0 } (some .long) 0 0 bb_11_size_11 11 := (jo_lln (i := 0) (j := 0) (by decide +kernel) rfl (sb_11_size_12 l))
theorem sb_11_size_0 (l : Launch) : jo_Ok l cb_11_size 2 "SwipedStripeModel" "size" jw_ro { frames := 0, cells := 0, slots := 0, locals := 0 } (some .long) 0 0 bb_11_size_0 0 := (jo_lln (i := 0) (j := 0) (by decide +kernel) rfl (jo_lco (n := 0) (by decide +kernel) (by decide) (jo_lcmp (by decide +kernel) (jo_zge (off := 8) (tgt := 11) (by decide +kernel) (by decide) (sb_11_size_11 l) (jo_lln (i := 0) (j := 0) (by decide +kernel) rfl (jo_lneg (by decide +kernel) (jo_goto (off := 4) (tgt := 12) (by decide +kernel) (by decide) (sb_11_size_12 l))))))))
theorem ss_11_size (l : Launch) : jw_Met l yy_11_size cb_11_size 2 (some .long) { frames := 0, cells := 0, slots := 0, locals := 0 } cc_11_size := by
  refine jw_met (by decide) (fun pc => ?_)
  intro p e s m args below meth c Q D aC ad base K X RT ls st h z hf
  unfold qq_11_size at hf
  by_cases h0 : pc = 0
  · subst h0; simp only [if_true, if_false, reduceIte, ↓reduceIte] at hf; exact sb_11_size_0 l p e s m args below meth c Q D aC ad base K X RT ls st h z hf
  rw [if_neg h0] at hf
  exact hf.elim
abbrev cb_11_swayOf : ByteArray := prog_13_method_36_code
abbrev yy_11_swayOf : MethodName := ⟨"SwipedStripeModel", "swayOf", "(IIZ)I"⟩
def bb_11_swayOf_61 (K : jw_K) (J : Nat → jw_S) : jw_S := xo_il 4 (xo_ri 0 0 K)
def bb_11_swayOf_55 (K : jw_K) (J : Nat → jw_S) : jw_S := xo_ic 4 1 (J 3)
def bb_11_swayOf_36 (K : jw_K) (J : Nat → jw_S) : jw_S := xo_ci 4 (xo_il 1 (xo_il 4 (xo_iadd (xo_ci 1 (xo_iadd (xo_imul (xo_ci 3 (xo_il 2 (xo_il 4 (xo_isub (xo_ci 1 (xo_isub (xo_imul (xo_cgt (bb_11_swayOf_61 K J) (bb_11_swayOf_55 K J)))))))))))))))
def bb_11_swayOf_3 (K : jw_K) (J : Nat → jw_S) : jw_S := xo_il 4 (xo_ci 99 (xo_cge (bb_11_swayOf_61 K J) (xo_il 3 (xo_zeq (bb_11_swayOf_36 K J) (xo_ci 4 (xo_il 1 (xo_il 4 (xo_isub (xo_ci 1 (xo_isub (xo_imul (xo_ci 3 (xo_il 2 (xo_il 4 (xo_iadd (xo_ci 1 (xo_iadd (xo_imul (xo_cle (bb_11_swayOf_61 K J) (bb_11_swayOf_55 K J))))))))))))))))))))
def bb_11_swayOf_0 (K : jw_K) (J : Nat → jw_S) : jw_S := xo_ci 0 (xo_is 4 (J 3))
def qq_11_swayOf (K : jw_K) (pc : Nat) (J : Nat → jw_S) : jw_S := if pc = 0 then bb_11_swayOf_0 K J else if pc = 3 then bb_11_swayOf_3 K J else fun _ _ _ _ => False
def cc_11_swayOf : jw_T := jw_C 5 qq_11_swayOf
theorem sb_11_swayOf_61 (l : Launch) : jo_Ok l cb_11_swayOf 5 "SwipedStripeModel" "swayOf" jw_ro { frames := 0, cells := 0, slots := 0, locals := 0 } (some .int) 0 0 bb_11_swayOf_61 61 := (jo_il (by decide +kernel) (jo_ri rfl (by decide +kernel)))
theorem sb_11_swayOf_55 (l : Launch) : jo_Ok l cb_11_swayOf 5 "SwipedStripeModel" "swayOf" jw_ro { frames := 0, cells := 0, slots := 0, locals := 0 } (some .int) 0 0 bb_11_swayOf_55 55 := (jo_ic (n0 := 1) (by decide +kernel) (by decide) (by decide) (jo_goto (off := -55) (tgt := 3) (by decide +kernel) (by decide) (jo_J)))
theorem sb_11_swayOf_36 (l : Launch) : jo_Ok l cb_11_swayOf 5 "SwipedStripeModel" "swayOf" jw_ro { frames := 0, cells := 0, slots := 0, locals := 0 } (some .int) 0 0 bb_11_swayOf_36 36 := (jo_ici (n := 4) (by decide +kernel) (by decide) (jo_iln (i := 1) (j := 1) (by decide +kernel) rfl (jo_il (by decide +kernel) (jo_iadd (by decide +kernel) (jo_ici (n := 1) (by decide +kernel) (by decide) (jo_iadd (by decide +kernel) (jo_imul (by decide +kernel) (jo_ici (n := 3) (by decide +kernel) (by decide) (jo_iln (i := 2) (j := 2) (by decide +kernel) rfl (jo_il (by decide +kernel) (jo_isub (by decide +kernel) (jo_ici (n := 1) (by decide +kernel) (by decide) (jo_isub (by decide +kernel) (jo_imul (by decide +kernel) (jo_cgt (off := 9) (tgt := 61) (by decide +kernel) (by decide) (sb_11_swayOf_61 l) (sb_11_swayOf_55 l))))))))))))))))
theorem sb_11_swayOf_3 (l : Launch) : jo_Ok l cb_11_swayOf 5 "SwipedStripeModel" "swayOf" jw_ro { frames := 0, cells := 0, slots := 0, locals := 0 } (some .int) 0 0 bb_11_swayOf_3 3 := (jo_il (by decide +kernel) (jo_bpi (n := 99) (by decide +kernel) (by decide) (jo_cge (off := 54) (tgt := 61) (by decide +kernel) (by decide) (sb_11_swayOf_61 l) (jo_iln (i := 3) (j := 3) (by decide +kernel) rfl (jo_zeq (off := 25) (tgt := 36) (by decide +kernel) (by decide) (sb_11_swayOf_36 l) (jo_ici (n := 4) (by decide +kernel) (by decide) (jo_iln (i := 1) (j := 1) (by decide +kernel) rfl (jo_il (by decide +kernel) (jo_isub (by decide +kernel) (jo_ici (n := 1) (by decide +kernel) (by decide) (jo_isub (by decide +kernel) (jo_imul (by decide +kernel) (jo_ici (n := 3) (by decide +kernel) (by decide) (jo_iln (i := 2) (j := 2) (by decide +kernel) rfl (jo_il (by decide +kernel) (jo_iadd (by decide +kernel) (jo_ici (n := 1) (by decide +kernel) (by decide) (jo_iadd (by decide +kernel) (jo_imul (by decide +kernel) (jo_cle (off := 31) (tgt := 61) (by decide +kernel) (by decide) (sb_11_swayOf_61 l) (jo_goto (off := 22) (tgt := 55) (by decide +kernel) (by decide) (sb_11_swayOf_55 l))))))))))))))))))))))
theorem sb_11_swayOf_0 (l : Launch) : jo_Ok l cb_11_swayOf 5 "SwipedStripeModel" "swayOf" jw_ro { frames := 0, cells := 0, slots := 0, locals := 0 } (some .int) 0 0 bb_11_swayOf_0 0 := (jo_ici (n := 0) (by decide +kernel) (by decide) (jo_is (by decide +kernel) (by decide) jo_J))
theorem ss_11_swayOf (l : Launch) : jw_Met l yy_11_swayOf cb_11_swayOf 5 (some .int) { frames := 0, cells := 0, slots := 0, locals := 0 } cc_11_swayOf := by
  refine jw_met (by decide) (fun pc => ?_)
  intro p e s m args below meth c Q D aC ad base K X RT ls st h z hf
  unfold qq_11_swayOf at hf
  by_cases h0 : pc = 0
  · subst h0; simp only [if_true, if_false, reduceIte, ↓reduceIte] at hf; exact sb_11_swayOf_0 l p e s m args below meth c Q D aC ad base K X RT ls st h z hf
  rw [if_neg h0] at hf
  by_cases h3 : pc = 3
  · subst h3; simp only [if_true, if_false, reduceIte, ↓reduceIte] at hf; exact sb_11_swayOf_3 l p e s m args below meth c Q D aC ad base K X RT ls st h z hf
  rw [if_neg h3] at hf
  exact hf.elim
abbrev cb_11_layRead : ByteArray := prog_13_method_37_code
abbrev yy_11_layRead : MethodName := ⟨"SwipedStripeModel", "layRead", "(IZ)V"⟩
def bb_11_layRead_385 (K : jw_K) (J : Nat → jw_S) : jw_S := xo_rv 0 0 K
def bb_11_layRead_382 (K : jw_K) (J : Nat → jw_S) : jw_S := J 44
def bb_11_layRead_377 (K : jw_K) (J : Nat → jw_S) : jw_S := xo_is 3 (xo_il 7 (xo_is 4 (bb_11_layRead_382 K J)))
def bb_11_layRead_369 (K : jw_K) (J : Nat → jw_S) : jw_S := xo_ci 3 (xo_il 3 (xo_imul (xo_il 8 (xo_iadd (xo_ci 4 (xo_idiv (bb_11_layRead_377 K J)))))))
def bb_11_layRead_359 (K : jw_K) (J : Nat → jw_S) : jw_S := xo_il 1 (xo_ci 1 (xo_cne (bb_11_layRead_369 K J) (xo_il 8 (bb_11_layRead_377 K J))))
def bb_11_layRead_348 (K : jw_K) (J : Nat → jw_S) : jw_S := xo_pfi 11 30 (xo_il 1 (xo_zne (bb_11_layRead_359 K J) (xo_il 3 (bb_11_layRead_377 K J))))
def bb_11_layRead_344 (K : jw_K) (J : Nat → jw_S) : jw_S := xo_al 0 (xo_gf 11 30 (bb_11_layRead_348 K J))
def bb_11_layRead_318 (K : jw_K) (J : Nat → jw_S) : jw_S := xo_al 0 (xo_il 5 (xo_il 3 (xo_il 6 (xo_cv 11 cc_11_swayOf 4 (xo_is 11 (xo_al 0 (xo_il 11 (xo_al 0 (xo_gf 11 30 (xo_cge (bb_11_layRead_344 K J) (xo_il 11 (bb_11_layRead_348 K J))))))))))))
def bb_11_layRead_302 (K : jw_K) (J : Nat → jw_S) : jw_S := xo_al 0 (xo_ll 9 (xo_pfl 11 28 (xo_al 0 (xo_cl 4 (xo_il 3 (xo_i2l (xo_lmul (xo_pfl 11 29 (bb_11_layRead_318 K J)))))))))
def bb_11_layRead_282 (K : jw_K) (J : Nat → jw_S) : jw_S := xo_al 0 (xo_gf 11 29 (xo_lmul (xo_al 0 (xo_gf 11 28 (xo_cl 4 (xo_lmul (xo_il 3 (xo_i2l (xo_lmul (xo_lcmp (xo_zge (bb_11_layRead_318 K J) (bb_11_layRead_302 K J))))))))))))
def bb_11_layRead_241 (K : jw_K) (J : Nat → jw_S) : jw_S := xo_iast (xo_al 0 (xo_dup (xo_gf 11 25 (xo_ci 1 (xo_iadd (xo_pfi 11 25 (xo_cl 4 (xo_il 5 (xo_i2l (xo_lmul (xo_cl 3 (xo_il 3 (xo_i2l (xo_lmul (xo_lsub (xo_cs cc_11_size 1 (xo_ls 9 (xo_al 0 (xo_gf 11 29 (xo_cl 0 (xo_lcmp (xo_zeq (bb_11_layRead_302 K J) (xo_ll 9 (bb_11_layRead_282 K J))))))))))))))))))))))))
def bb_11_layRead_240 (K : jw_K) (J : Nat → jw_S) : jw_S := xo_ci 1 (bb_11_layRead_241 K J)
def bb_11_layRead_213 (K : jw_K) (J : Nat → jw_S) : jw_S := xo_pfi 11 27 (xo_al 0 (xo_gf 11 26 (xo_zne (bb_11_layRead_382 K J) (xo_al 0 (xo_gf 11 24 (xo_al 0 (xo_gf 11 25 (xo_il 6 (xo_zeq (bb_11_layRead_240 K J) (xo_ci 0 (bb_11_layRead_241 K J)))))))))))
def bb_11_layRead_209 (K : jw_K) (J : Nat → jw_S) : jw_S := xo_al 0 (xo_gf 11 27 (bb_11_layRead_213 K J))
def bb_11_layRead_193 (K : jw_K) (J : Nat → jw_S) : jw_S := xo_pfi 11 26 (xo_al 0 (xo_al 0 (xo_gf 11 26 (xo_zle (bb_11_layRead_209 K J) (xo_il 4 (bb_11_layRead_213 K J))))))
def bb_11_layRead_192 (K : jw_K) (J : Nat → jw_S) : jw_S := xo_ci 0 (bb_11_layRead_193 K J)
def bb_11_layRead_157 (K : jw_K) (J : Nat → jw_S) : jw_S := xo_il 2 (xo_zeq (bb_11_layRead_192 K J) (xo_cl 100 (xo_il 8 (xo_il 3 (xo_isub (xo_i2l (xo_cs cc_11_size 1 (xo_lmul (xo_al 0 (xo_gf 11 14 (xo_ci 6 (xo_iald jw_ro (xo_i2l (xo_il 3 (xo_i2l (xo_lmul (xo_lcmp (xo_zle (bb_11_layRead_192 K J) (xo_ci 2 (bb_11_layRead_193 K J))))))))))))))))))))
def bb_11_layRead_141 (K : jw_K) (J : Nat → jw_S) : jw_S := xo_is 8 (xo_al 0 (xo_il 7 (xo_al 0 (xo_gf 11 22 (xo_cle (bb_11_layRead_157 K J) (xo_ci 1 (bb_11_layRead_193 K J)))))))
def bb_11_layRead_140 (K : jw_K) (J : Nat → jw_S) : jw_S := xo_ci 0 (bb_11_layRead_141 K J)
def bb_11_layRead_114 (K : jw_K) (J : Nat → jw_S) : jw_S := xo_il 4 (xo_ci 1 (xo_iadd (xo_al 0 (xo_gf 11 22 (xo_cge (bb_11_layRead_140 K J) (xo_il 5 (xo_al 0 (xo_gf 11 21 (xo_il 4 (xo_ci 1 (xo_iadd (xo_iald jw_ro (xo_iadd (bb_11_layRead_141 K J))))))))))))))
def bb_11_layRead_102 (K : jw_K) (J : Nat → jw_S) : jw_S := xo_is 7 (xo_il 6 (xo_zeq (bb_11_layRead_114 K J) (xo_il 5 (bb_11_layRead_141 K J))))
def bb_11_layRead_98 (K : jw_K) (J : Nat → jw_S) : jw_S := xo_il 4 (xo_ci 2 (xo_iadd (bb_11_layRead_102 K J)))
def bb_11_layRead_84 (K : jw_K) (J : Nat → jw_S) : jw_S := xo_is 6 (xo_il 6 (xo_zeq (bb_11_layRead_98 K J) (xo_il 4 (xo_ci 1 (xo_iadd (bb_11_layRead_102 K J))))))
def bb_11_layRead_83 (K : jw_K) (J : Nat → jw_S) : jw_S := xo_ci 0 (bb_11_layRead_84 K J)
def bb_11_layRead_44 (K : jw_K) (J : Nat → jw_S) : jw_S := xo_il 4 (xo_al 0 (xo_gf 11 22 (xo_cge (bb_11_layRead_385 K J) (xo_al 0 (xo_gf 11 26 (xo_zne (bb_11_layRead_385 K J) (xo_al 0 (xo_gf 11 21 (xo_il 4 (xo_iald jw_ro (xo_is 5 (xo_ci 4 (xo_il 5 (xo_imul (xo_ci 3 (xo_il 3 (xo_imul (xo_cle (bb_11_layRead_83 K J) (xo_ci 1 (bb_11_layRead_84 K J))))))))))))))))))))
def bb_11_layRead_38 (K : jw_K) (J : Nat → jw_S) : jw_S := xo_pfi 11 30 (xo_ci 1 (xo_is 4 (J 44)))
def bb_11_layRead_0 (K : jw_K) (J : Nat → jw_S) : jw_S := xo_al 0 (xo_gf 11 21 (xo_ci 0 (xo_iald jw_ro (xo_is 3 (xo_al 0 (xo_gf 11 24 (xo_ci 0 (xo_ci 0 (xo_iast (xo_al 0 (xo_ci 1 (xo_pfi 11 25 (xo_al 0 (xo_ci 0 (xo_pfi 11 26 (xo_al 0 (xo_ci (-4) (xo_pfi 11 27 (xo_al 0 (xo_cl 0 (xo_pfl 11 29 (xo_al 0 (xo_ci 99 (bb_11_layRead_38 K J))))))))))))))))))))))))
def qq_11_layRead (K : jw_K) (pc : Nat) (J : Nat → jw_S) : jw_S := if pc = 0 then bb_11_layRead_0 K J else if pc = 44 then bb_11_layRead_44 K J else fun _ _ _ _ => False
def cc_11_layRead : jw_T := jw_C 12 qq_11_layRead
theorem sb_11_layRead_385 (l : Launch) : jo_Ok l cb_11_layRead 12 "SwipedStripeModel" "layRead" jw_ro { frames := 1, cells := 0, slots := 0, locals := 24 } none 0 0 bb_11_layRead_385 385 := (jo_rv rfl (by decide +kernel))
theorem sb_11_layRead_382 (l : Launch) : jo_Ok l cb_11_layRead 12 "SwipedStripeModel" "layRead" jw_ro { frames := 1, cells := 0, slots := 0, locals := 24 } none 0 0 bb_11_layRead_382 382 := (jo_goto (off := -338) (tgt := 44) (by decide +kernel) (by decide) (jo_J))
theorem sb_11_layRead_377 (l : Launch) : jo_Ok l cb_11_layRead 12 "SwipedStripeModel" "layRead" jw_ro { frames := 1, cells := 0, slots := 0, locals := 24 } none 0 0 bb_11_layRead_377 377 := (jo_isn (i := 3) (j := 3) (by decide +kernel) rfl (by decide) (jo_il (by decide +kernel) (jo_is (by decide +kernel) (by decide) (sb_11_layRead_382 l))))
theorem sb_11_layRead_369 (l : Launch) : jo_Ok l cb_11_layRead 12 "SwipedStripeModel" "layRead" jw_ro { frames := 1, cells := 0, slots := 0, locals := 24 } none 0 0 bb_11_layRead_369 369 := (jo_ici (n := 3) (by decide +kernel) (by decide) (jo_iln (i := 3) (j := 3) (by decide +kernel) rfl (jo_imul (by decide +kernel) (jo_il (by decide +kernel) (jo_iadd (by decide +kernel) (jo_ici (n := 4) (by decide +kernel) (by decide) (jo_idiv (by decide +kernel) (sb_11_layRead_377 l))))))))
theorem sb_11_layRead_359 (l : Launch) : jo_Ok l cb_11_layRead 12 "SwipedStripeModel" "layRead" jw_ro { frames := 1, cells := 0, slots := 0, locals := 24 } none 0 0 bb_11_layRead_359 359 := (jo_iln (i := 1) (j := 1) (by decide +kernel) rfl (jo_ici (n := 1) (by decide +kernel) (by decide) (jo_cne (off := 8) (tgt := 369) (by decide +kernel) (by decide) (sb_11_layRead_369 l) (jo_il (by decide +kernel) (jo_goto (off := 11) (tgt := 377) (by decide +kernel) (by decide) (sb_11_layRead_377 l))))))
theorem sb_11_layRead_348 (l : Launch) : jo_Ok l cb_11_layRead 12 "SwipedStripeModel" "layRead" jw_ro { frames := 1, cells := 0, slots := 0, locals := 24 } none 0 0 bb_11_layRead_348 348 := (jo_pfi (j := 30) jw_F11 (by decide) kw_1062 rfl rfl (by decide +kernel) (jo_iln (i := 1) (j := 1) (by decide +kernel) rfl (jo_zne (off := 7) (tgt := 359) (by decide +kernel) (by decide) (sb_11_layRead_359 l) (jo_iln (i := 3) (j := 3) (by decide +kernel) rfl (jo_goto (off := 21) (tgt := 377) (by decide +kernel) (by decide) (sb_11_layRead_377 l))))))
theorem sb_11_layRead_344 (l : Launch) : jo_Ok l cb_11_layRead 12 "SwipedStripeModel" "layRead" jw_ro { frames := 1, cells := 0, slots := 0, locals := 24 } none 0 0 bb_11_layRead_344 344 := (jo_aln (i := 0) (j := 0) (by decide +kernel) rfl (jo_gf (j := 30) jw_F11 (by decide) kw_1062 (by decide +kernel) (sb_11_layRead_348 l)))
theorem sb_11_layRead_318 (l : Launch) : jo_Ok l cb_11_layRead 12 "SwipedStripeModel" "layRead" jw_ro { frames := 1, cells := 0, slots := 0, locals := 24 } none 0 0 bb_11_layRead_318 318 := (jo_aln (i := 0) (j := 0) (by decide +kernel) rfl (jo_il (by decide +kernel) (jo_iln (i := 3) (j := 3) (by decide +kernel) rfl (jo_il (by decide +kernel) (jo_cv (n := 3) (ss_11_swayOf l) kw_1339 kw_13 kw_1336 kw_1338 jw_F11 kp_45 ⟨by decide, by decide, by decide +kernel⟩ ⟨by decide, by decide⟩ (fun _ _ h => h) ⟨rfl, rfl⟩ (by decide +kernel) (jo_is (by decide +kernel) (by decide) (jo_aln (i := 0) (j := 0) (by decide +kernel) rfl (jo_il (by decide +kernel) (jo_aln (i := 0) (j := 0) (by decide +kernel) rfl (jo_gf (j := 30) jw_F11 (by decide) kw_1062 (by decide +kernel) (jo_cge (off := 8) (tgt := 344) (by decide +kernel) (by decide) (sb_11_layRead_344 l) (jo_il (by decide +kernel) (jo_goto (off := 7) (tgt := 348) (by decide +kernel) (by decide) (sb_11_layRead_348 l))))))))))))))
theorem sb_11_layRead_302 (l : Launch) : jo_Ok l cb_11_layRead 12 "SwipedStripeModel" "layRead" jw_ro { frames := 1, cells := 0, slots := 0, locals := 24 } none 0 0 bb_11_layRead_302 302 := (jo_aln (i := 0) (j := 0) (by decide +kernel) rfl (jo_ll (by decide +kernel) (jo_pfl (j := 28) jw_F11 (by decide) kw_1060 rfl rfl (by decide +kernel) (jo_aln (i := 0) (j := 0) (by decide +kernel) rfl (jo_ld2 (by decide +kernel) kw_1284 (jo_iln (i := 3) (j := 3) (by decide +kernel) rfl (jo_i2l (by decide +kernel) (jo_lmul (by decide +kernel) (jo_pfl (j := 29) jw_F11 (by decide) kw_1061 rfl rfl (by decide +kernel) (sb_11_layRead_318 l))))))))))
theorem sb_11_layRead_282 (l : Launch) : jo_Ok l cb_11_layRead 12 "SwipedStripeModel" "layRead" jw_ro { frames := 1, cells := 0, slots := 0, locals := 24 } none 0 0 bb_11_layRead_282 282 := (jo_aln (i := 0) (j := 0) (by decide +kernel) rfl (jo_gf (j := 29) jw_F11 (by decide) kw_1061 (by decide +kernel) (jo_lmul (by decide +kernel) (jo_aln (i := 0) (j := 0) (by decide +kernel) rfl (jo_gf (j := 28) jw_F11 (by decide) kw_1060 (by decide +kernel) (jo_ld2 (by decide +kernel) kw_1284 (jo_lmul (by decide +kernel) (jo_iln (i := 3) (j := 3) (by decide +kernel) rfl (jo_i2l (by decide +kernel) (jo_lmul (by decide +kernel) (jo_lcmp (by decide +kernel) (jo_zge (off := 19) (tgt := 318) (by decide +kernel) (by decide) (sb_11_layRead_318 l) (sb_11_layRead_302 l)))))))))))))
theorem sb_11_layRead_241 (l : Launch) : jo_Ok l cb_11_layRead 12 "SwipedStripeModel" "layRead" jw_ro { frames := 1, cells := 0, slots := 0, locals := 24 } none 0 0 bb_11_layRead_241 241 := (jo_iast (by decide +kernel) (jo_aln (i := 0) (j := 0) (by decide +kernel) rfl (jo_dup (by decide +kernel) (jo_gf (j := 25) jw_F11 (by decide) kw_1057 (by decide +kernel) (jo_ici (n := 1) (by decide +kernel) (by decide) (jo_iadd (by decide +kernel) (jo_pfi (j := 25) jw_F11 (by decide) kw_1057 rfl rfl (by decide +kernel) (jo_ld2 (by decide +kernel) kw_1284 (jo_il (by decide +kernel) (jo_i2l (by decide +kernel) (jo_lmul (by decide +kernel) (jo_ld2 (by decide +kernel) kw_1335 (jo_iln (i := 3) (j := 3) (by decide +kernel) rfl (jo_i2l (by decide +kernel) (jo_lmul (by decide +kernel) (jo_lsub (by decide +kernel) (jo_cs (n := 1) (idx := 218) (ss_11_size l) kw_1334 kw_13 kw_1332 kw_1333 ⟨by decide, by decide, by decide +kernel⟩ ⟨by decide, by decide⟩ (fun _ _ h => h) ⟨rfl, rfl⟩ (by decide +kernel) (jo_ls (by decide +kernel) (by decide) (jo_aln (i := 0) (j := 0) (by decide +kernel) rfl (jo_gf (j := 29) jw_F11 (by decide) kw_1061 (by decide +kernel) (jo_lco (n := 0) (by decide +kernel) (by decide) (jo_lcmp (by decide +kernel) (jo_zeq (off := 25) (tgt := 302) (by decide +kernel) (by decide) (sb_11_layRead_302 l) (jo_ll (by decide +kernel) (sb_11_layRead_282 l)))))))))))))))))))))))))
theorem sb_11_layRead_240 (l : Launch) : jo_Ok l cb_11_layRead 12 "SwipedStripeModel" "layRead" jw_ro { frames := 1, cells := 0, slots := 0, locals := 24 } none 0 0 bb_11_layRead_240 240 := (jo_ici (n := 1) (by decide +kernel) (by decide) (sb_11_layRead_241 l))
theorem sb_11_layRead_213 (l : Launch) : jo_Ok l cb_11_layRead 12 "SwipedStripeModel" "layRead" jw_ro { frames := 1, cells := 0, slots := 0, locals := 24 } none 0 0 bb_11_layRead_213 213 := (jo_pfi (j := 27) jw_F11 (by decide) kw_1059 rfl rfl (by decide +kernel) (jo_aln (i := 0) (j := 0) (by decide +kernel) rfl (jo_gf (j := 26) jw_F11 (by decide) kw_1058 (by decide +kernel) (jo_zne (off := 162) (tgt := 382) (by decide +kernel) (by decide) (sb_11_layRead_382 l) (jo_aln (i := 0) (j := 0) (by decide +kernel) rfl (jo_gf (j := 24) jw_F11 (by decide) kw_1056 (by decide +kernel) (jo_aln (i := 0) (j := 0) (by decide +kernel) rfl (jo_gf (j := 25) jw_F11 (by decide) kw_1057 (by decide +kernel) (jo_il (by decide +kernel) (jo_zeq (off := 7) (tgt := 240) (by decide +kernel) (by decide) (sb_11_layRead_240 l) (jo_ici (n := 0) (by decide +kernel) (by decide) (jo_goto (off := 4) (tgt := 241) (by decide +kernel) (by decide) (sb_11_layRead_241 l)))))))))))))
theorem sb_11_layRead_209 (l : Launch) : jo_Ok l cb_11_layRead 12 "SwipedStripeModel" "layRead" jw_ro { frames := 1, cells := 0, slots := 0, locals := 24 } none 0 0 bb_11_layRead_209 209 := (jo_aln (i := 0) (j := 0) (by decide +kernel) rfl (jo_gf (j := 27) jw_F11 (by decide) kw_1059 (by decide +kernel) (sb_11_layRead_213 l)))
theorem sb_11_layRead_193 (l : Launch) : jo_Ok l cb_11_layRead 12 "SwipedStripeModel" "layRead" jw_ro { frames := 1, cells := 0, slots := 0, locals := 24 } none 0 0 bb_11_layRead_193 193 := (jo_pfi (j := 26) jw_F11 (by decide) kw_1058 rfl rfl (by decide +kernel) (jo_aln (i := 0) (j := 0) (by decide +kernel) rfl (jo_aln (i := 0) (j := 0) (by decide +kernel) rfl (jo_gf (j := 26) jw_F11 (by decide) kw_1058 (by decide +kernel) (jo_zle (off := 8) (tgt := 209) (by decide +kernel) (by decide) (sb_11_layRead_209 l) (jo_il (by decide +kernel) (jo_goto (off := 7) (tgt := 213) (by decide +kernel) (by decide) (sb_11_layRead_213 l))))))))
theorem sb_11_layRead_192 (l : Launch) : jo_Ok l cb_11_layRead 12 "SwipedStripeModel" "layRead" jw_ro { frames := 1, cells := 0, slots := 0, locals := 24 } none 0 0 bb_11_layRead_192 192 := (jo_ici (n := 0) (by decide +kernel) (by decide) (sb_11_layRead_193 l))
theorem sb_11_layRead_157 (l : Launch) : jo_Ok l cb_11_layRead 12 "SwipedStripeModel" "layRead" jw_ro { frames := 1, cells := 0, slots := 0, locals := 24 } none 0 0 bb_11_layRead_157 157 := (jo_iln (i := 2) (j := 2) (by decide +kernel) rfl (jo_zeq (off := 34) (tgt := 192) (by decide +kernel) (by decide) (sb_11_layRead_192 l) (jo_ld2 (by decide +kernel) kw_1331 (jo_il (by decide +kernel) (jo_iln (i := 3) (j := 3) (by decide +kernel) rfl (jo_isub (by decide +kernel) (jo_i2l (by decide +kernel) (jo_cs (n := 1) (idx := 218) (ss_11_size l) kw_1334 kw_13 kw_1332 kw_1333 ⟨by decide, by decide, by decide +kernel⟩ ⟨by decide, by decide⟩ (fun _ _ h => h) ⟨rfl, rfl⟩ (by decide +kernel) (jo_lmul (by decide +kernel) (jo_aln (i := 0) (j := 0) (by decide +kernel) rfl (jo_gf (j := 14) jw_F11 (by decide) kw_1046 (by decide +kernel) (jo_bpi (n := 6) (by decide +kernel) (by decide) (jo_iald (by decide +kernel) (jo_i2l (by decide +kernel) (jo_iln (i := 3) (j := 3) (by decide +kernel) rfl (jo_i2l (by decide +kernel) (jo_lmul (by decide +kernel) (jo_lcmp (by decide +kernel) (jo_zle (off := 7) (tgt := 192) (by decide +kernel) (by decide) (sb_11_layRead_192 l) (jo_ici (n := 2) (by decide +kernel) (by decide) (jo_goto (off := 4) (tgt := 193) (by decide +kernel) (by decide) (sb_11_layRead_193 l))))))))))))))))))))))
theorem sb_11_layRead_141 (l : Launch) : jo_Ok l cb_11_layRead 12 "SwipedStripeModel" "layRead" jw_ro { frames := 1, cells := 0, slots := 0, locals := 24 } none 0 0 bb_11_layRead_141 141 := (jo_is (by decide +kernel) (by decide) (jo_aln (i := 0) (j := 0) (by decide +kernel) rfl (jo_il (by decide +kernel) (jo_aln (i := 0) (j := 0) (by decide +kernel) rfl (jo_gf (j := 22) jw_F11 (by decide) kw_1054 (by decide +kernel) (jo_cle (off := 7) (tgt := 157) (by decide +kernel) (by decide) (sb_11_layRead_157 l) (jo_ici (n := 1) (by decide +kernel) (by decide) (jo_goto (off := 39) (tgt := 193) (by decide +kernel) (by decide) (sb_11_layRead_193 l)))))))))
theorem sb_11_layRead_140 (l : Launch) : jo_Ok l cb_11_layRead 12 "SwipedStripeModel" "layRead" jw_ro { frames := 1, cells := 0, slots := 0, locals := 24 } none 0 0 bb_11_layRead_140 140 := (jo_ici (n := 0) (by decide +kernel) (by decide) (sb_11_layRead_141 l))
theorem sb_11_layRead_114 (l : Launch) : jo_Ok l cb_11_layRead 12 "SwipedStripeModel" "layRead" jw_ro { frames := 1, cells := 0, slots := 0, locals := 24 } none 0 0 bb_11_layRead_114 114 := (jo_il (by decide +kernel) (jo_ici (n := 1) (by decide +kernel) (by decide) (jo_iadd (by decide +kernel) (jo_aln (i := 0) (j := 0) (by decide +kernel) rfl (jo_gf (j := 22) jw_F11 (by decide) kw_1054 (by decide +kernel) (jo_cge (off := 18) (tgt := 140) (by decide +kernel) (by decide) (sb_11_layRead_140 l) (jo_il (by decide +kernel) (jo_aln (i := 0) (j := 0) (by decide +kernel) rfl (jo_gf (j := 21) jw_F11 (by decide) kw_1053 (by decide +kernel) (jo_il (by decide +kernel) (jo_ici (n := 1) (by decide +kernel) (by decide) (jo_iadd (by decide +kernel) (jo_iald (by decide +kernel) (jo_iadd (by decide +kernel) (jo_goto (off := 4) (tgt := 141) (by decide +kernel) (by decide) (sb_11_layRead_141 l))))))))))))))))
theorem sb_11_layRead_102 (l : Launch) : jo_Ok l cb_11_layRead 12 "SwipedStripeModel" "layRead" jw_ro { frames := 1, cells := 0, slots := 0, locals := 24 } none 0 0 bb_11_layRead_102 102 := (jo_is (by decide +kernel) (by decide) (jo_il (by decide +kernel) (jo_zeq (off := 8) (tgt := 114) (by decide +kernel) (by decide) (sb_11_layRead_114 l) (jo_il (by decide +kernel) (jo_goto (off := 30) (tgt := 141) (by decide +kernel) (by decide) (sb_11_layRead_141 l))))))
theorem sb_11_layRead_98 (l : Launch) : jo_Ok l cb_11_layRead 12 "SwipedStripeModel" "layRead" jw_ro { frames := 1, cells := 0, slots := 0, locals := 24 } none 0 0 bb_11_layRead_98 98 := (jo_il (by decide +kernel) (jo_ici (n := 2) (by decide +kernel) (by decide) (jo_iadd (by decide +kernel) (sb_11_layRead_102 l))))
theorem sb_11_layRead_84 (l : Launch) : jo_Ok l cb_11_layRead 12 "SwipedStripeModel" "layRead" jw_ro { frames := 1, cells := 0, slots := 0, locals := 24 } none 0 0 bb_11_layRead_84 84 := (jo_is (by decide +kernel) (by decide) (jo_il (by decide +kernel) (jo_zeq (off := 10) (tgt := 98) (by decide +kernel) (by decide) (sb_11_layRead_98 l) (jo_il (by decide +kernel) (jo_ici (n := 1) (by decide +kernel) (by decide) (jo_iadd (by decide +kernel) (jo_goto (off := 7) (tgt := 102) (by decide +kernel) (by decide) (sb_11_layRead_102 l))))))))
theorem sb_11_layRead_83 (l : Launch) : jo_Ok l cb_11_layRead 12 "SwipedStripeModel" "layRead" jw_ro { frames := 1, cells := 0, slots := 0, locals := 24 } none 0 0 bb_11_layRead_83 83 := (jo_ici (n := 0) (by decide +kernel) (by decide) (sb_11_layRead_84 l))
theorem sb_11_layRead_44 (l : Launch) : jo_Ok l cb_11_layRead 12 "SwipedStripeModel" "layRead" jw_ro { frames := 1, cells := 0, slots := 0, locals := 24 } none 0 0 bb_11_layRead_44 44 := (jo_il (by decide +kernel) (jo_aln (i := 0) (j := 0) (by decide +kernel) rfl (jo_gf (j := 22) jw_F11 (by decide) kw_1054 (by decide +kernel) (jo_cge (off := 335) (tgt := 385) (by decide +kernel) (by decide) (sb_11_layRead_385 l) (jo_aln (i := 0) (j := 0) (by decide +kernel) rfl (jo_gf (j := 26) jw_F11 (by decide) kw_1058 (by decide +kernel) (jo_zne (off := 328) (tgt := 385) (by decide +kernel) (by decide) (sb_11_layRead_385 l) (jo_aln (i := 0) (j := 0) (by decide +kernel) rfl (jo_gf (j := 21) jw_F11 (by decide) kw_1053 (by decide +kernel) (jo_il (by decide +kernel) (jo_iald (by decide +kernel) (jo_is (by decide +kernel) (by decide) (jo_ici (n := 4) (by decide +kernel) (by decide) (jo_il (by decide +kernel) (jo_imul (by decide +kernel) (jo_ici (n := 3) (by decide +kernel) (by decide) (jo_iln (i := 3) (j := 3) (by decide +kernel) rfl (jo_imul (by decide +kernel) (jo_cle (off := 7) (tgt := 83) (by decide +kernel) (by decide) (sb_11_layRead_83 l) (jo_ici (n := 1) (by decide +kernel) (by decide) (jo_goto (off := 4) (tgt := 84) (by decide +kernel) (by decide) (sb_11_layRead_84 l))))))))))))))))))))))
theorem sb_11_layRead_38 (l : Launch) : jo_Ok l cb_11_layRead 12 "SwipedStripeModel" "layRead" jw_ro { frames := 1, cells := 0, slots := 0, locals := 24 } none 0 0 bb_11_layRead_38 38 := (jo_pfi (j := 30) jw_F11 (by decide) kw_1062 rfl rfl (by decide +kernel) (jo_ici (n := 1) (by decide +kernel) (by decide) (jo_is (by decide +kernel) (by decide) jo_J)))
theorem sb_11_layRead_0 (l : Launch) : jo_Ok l cb_11_layRead 12 "SwipedStripeModel" "layRead" jw_ro { frames := 1, cells := 0, slots := 0, locals := 24 } none 0 0 bb_11_layRead_0 0 := (jo_aln (i := 0) (j := 0) (by decide +kernel) rfl (jo_gf (j := 21) jw_F11 (by decide) kw_1053 (by decide +kernel) (jo_ici (n := 0) (by decide +kernel) (by decide) (jo_iald (by decide +kernel) (jo_isn (i := 3) (j := 3) (by decide +kernel) rfl (by decide) (jo_aln (i := 0) (j := 0) (by decide +kernel) rfl (jo_gf (j := 24) jw_F11 (by decide) kw_1056 (by decide +kernel) (jo_ici (n := 0) (by decide +kernel) (by decide) (jo_ici (n := 0) (by decide +kernel) (by decide) (jo_iast (by decide +kernel) (jo_aln (i := 0) (j := 0) (by decide +kernel) rfl (jo_ici (n := 1) (by decide +kernel) (by decide) (jo_pfi (j := 25) jw_F11 (by decide) kw_1057 rfl rfl (by decide +kernel) (jo_aln (i := 0) (j := 0) (by decide +kernel) rfl (jo_ici (n := 0) (by decide +kernel) (by decide) (jo_pfi (j := 26) jw_F11 (by decide) kw_1058 rfl rfl (by decide +kernel) (jo_aln (i := 0) (j := 0) (by decide +kernel) rfl (jo_bpi (n := -4) (by decide +kernel) (by decide) (jo_pfi (j := 27) jw_F11 (by decide) kw_1059 rfl rfl (by decide +kernel) (jo_aln (i := 0) (j := 0) (by decide +kernel) rfl (jo_lco (n := 0) (by decide +kernel) (by decide) (jo_pfl (j := 29) jw_F11 (by decide) kw_1061 rfl rfl (by decide +kernel) (jo_aln (i := 0) (j := 0) (by decide +kernel) rfl (jo_bpi (n := 99) (by decide +kernel) (by decide) (sb_11_layRead_38 l)))))))))))))))))))))))))
theorem ss_11_layRead (l : Launch) : jw_Met l yy_11_layRead cb_11_layRead 12 none { frames := 1, cells := 0, slots := 0, locals := 24 } cc_11_layRead := by
  refine jw_met (by decide) (fun pc => ?_)
  intro p e s m args below meth c Q D aC ad base K X RT ls st h z hf
  unfold qq_11_layRead at hf
  by_cases h0 : pc = 0
  · subst h0; simp only [if_true, if_false, reduceIte, ↓reduceIte] at hf; exact sb_11_layRead_0 l p e s m args below meth c Q D aC ad base K X RT ls st h z hf
  rw [if_neg h0] at hf
  by_cases h44 : pc = 44
  · subst h44; simp only [if_true, if_false, reduceIte, ↓reduceIte] at hf; exact sb_11_layRead_44 l p e s m args below meth c Q D aC ad base K X RT ls st h z hf
  rw [if_neg h44] at hf
  exact hf.elim
