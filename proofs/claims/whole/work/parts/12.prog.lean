/-! blocks of methods, and that the machine does them: printed from the bytes -/
abbrev cb_4_takeOut : ByteArray := prog_6_method_9_code
abbrev yy_4_takeOut : MethodName := ⟨"SwipedStripe$Row", "takeOut", "(I)V"⟩
def bb_4_takeOut_41 (K : jw_K) (J : Nat → jw_S) : jw_S := xo_al 0 (xo_dup (xo_gf 4 1 (xo_ci 1 (xo_isub (xo_pfi 4 1 (xo_rv 0 0 K))))))
def bb_4_takeOut_11 (K : jw_K) (J : Nat → jw_S) : jw_S := xo_il 2 (xo_al 0 (xo_gf 4 1 (xo_ci 1 (xo_isub (xo_cge (bb_4_takeOut_41 K J) (xo_al 0 (xo_gf 4 0 (xo_il 2 (xo_al 0 (xo_gf 4 0 (xo_il 2 (xo_ci 1 (xo_iadd (xo_iald jw_ro (xo_iast (xo_ic 2 1 (J 11)))))))))))))))))
def bb_4_takeOut_9 (K : jw_K) (J : Nat → jw_S) : jw_S := xo_il 1 (xo_is 2 (J 11))
def bb_4_takeOut_0 (K : jw_K) (J : Nat → jw_S) : jw_S := xo_al 0 (xo_il 1 (xo_cv 4 cc_4_has 2 (xo_zne (bb_4_takeOut_9 K J) (xo_rv 0 0 K))))
def qq_4_takeOut (K : jw_K) (pc : Nat) (J : Nat → jw_S) : jw_S := if pc = 0 then bb_4_takeOut_0 K J else if pc = 11 then bb_4_takeOut_11 K J else fun _ _ _ _ => False
def cc_4_takeOut : jw_T := jw_C 3 qq_4_takeOut
theorem sb_4_takeOut_41 (l : Launch) : jo_Ok l cb_4_takeOut 3 "SwipedStripe$Row" "takeOut" jw_ro { frames := 1, cells := 0, slots := 0, locals := 21 } none 0 0 bb_4_takeOut_41 41 := (jo_aln (i := 0) (j := 0) (by decide +kernel) rfl (jo_dup (by decide +kernel) (jo_gf (j := 1) jw_F4 (by decide) kw_57 (by decide +kernel) (jo_ici (n := 1) (by decide +kernel) (by decide) (jo_isub (by decide +kernel) (jo_pfi (j := 1) jw_F4 (by decide) kw_57 rfl rfl (by decide +kernel) (jo_rv rfl (by decide +kernel))))))))
theorem sb_4_takeOut_11 (l : Launch) : jo_Ok l cb_4_takeOut 3 "SwipedStripe$Row" "takeOut" jw_ro { frames := 1, cells := 0, slots := 0, locals := 21 } none 0 0 bb_4_takeOut_11 11 := (jo_iln (i := 2) (j := 2) (by decide +kernel) rfl (jo_aln (i := 0) (j := 0) (by decide +kernel) rfl (jo_gf (j := 1) jw_F4 (by decide) kw_57 (by decide +kernel) (jo_ici (n := 1) (by decide +kernel) (by decide) (jo_isub (by decide +kernel) (jo_cge (off := 23) (tgt := 41) (by decide +kernel) (by decide) (sb_4_takeOut_41 l) (jo_aln (i := 0) (j := 0) (by decide +kernel) rfl (jo_gf (j := 0) jw_F4 (by decide) kw_56 (by decide +kernel) (jo_iln (i := 2) (j := 2) (by decide +kernel) rfl (jo_aln (i := 0) (j := 0) (by decide +kernel) rfl (jo_gf (j := 0) jw_F4 (by decide) kw_56 (by decide +kernel) (jo_iln (i := 2) (j := 2) (by decide +kernel) rfl (jo_ici (n := 1) (by decide +kernel) (by decide) (jo_iadd (by decide +kernel) (jo_iald (by decide +kernel) (jo_iast (by decide +kernel) (jo_ic (n0 := 1) (by decide +kernel) (by decide) (by decide) (jo_goto (off := -27) (tgt := 11) (by decide +kernel) (by decide) (jo_J)))))))))))))))))))
theorem sb_4_takeOut_9 (l : Launch) : jo_Ok l cb_4_takeOut 3 "SwipedStripe$Row" "takeOut" jw_ro { frames := 1, cells := 0, slots := 0, locals := 21 } none 0 0 bb_4_takeOut_9 9 := (jo_iln (i := 1) (j := 1) (by decide +kernel) rfl (jo_isn (i := 2) (j := 2) (by decide +kernel) rfl (by decide) jo_J))
theorem sb_4_takeOut_0 (l : Launch) : jo_Ok l cb_4_takeOut 3 "SwipedStripe$Row" "takeOut" jw_ro { frames := 1, cells := 0, slots := 0, locals := 21 } none 0 0 bb_4_takeOut_0 0 := (jo_aln (i := 0) (j := 0) (by decide +kernel) rfl (jo_iln (i := 1) (j := 1) (by decide +kernel) rfl (jo_cv (n := 1) (ss_4_has l) kw_346 kw_3 kw_606 kw_344 jw_F4 kw_345 ⟨by decide, by decide, by decide +kernel⟩ ⟨by decide, by decide⟩ (fun _ _ h => h) ⟨rfl, rfl⟩ (by decide +kernel) (jo_zne (off := 4) (tgt := 9) (by decide +kernel) (by decide) (sb_4_takeOut_9 l) (jo_rv rfl (by decide +kernel))))))
theorem ss_4_takeOut (l : Launch) : jw_Met l yy_4_takeOut cb_4_takeOut 3 none { frames := 1, cells := 0, slots := 0, locals := 21 } cc_4_takeOut := by
  refine jw_met (by decide) (fun pc => ?_)
  intro p e s m args below meth c Q D aC ad base K X RT ls st h z hf
  unfold qq_4_takeOut at hf
  by_cases h0 : pc = 0
  · subst h0; simp only [if_true, if_false, reduceIte, ↓reduceIte] at hf; exact sb_4_takeOut_0 l p e s m args below meth c Q D aC ad base K X RT ls st h z hf
  rw [if_neg h0] at hf
  by_cases h11 : pc = 11
  · subst h11; simp only [if_true, if_false, reduceIte, ↓reduceIte] at hf; exact sb_4_takeOut_11 l p e s m args below meth c Q D aC ad base K X RT ls st h z hf
  rw [if_neg h11] at hf
  exact hf.elim
abbrev cb_10_miss : ByteArray := prog_1_method_15_code
abbrev yy_10_miss : MethodName := ⟨"SwipedStripe", "miss", "(I)I"⟩
def bb_10_miss_70 (K : jw_K) (J : Nat → jw_S) : jw_S := xo_gf 10 5 (xo_cv 4 cc_4_size 1 (xo_ri 0 0 K))
def bb_10_miss_26 (K : jw_K) (J : Nat → jw_S) : jw_S := xo_al 0 (xo_gf 10 5 (xo_il 1 (xo_al 0 (xo_gf 10 5 (xo_il 1 (xo_cv 4 cc_4_at 2 (xo_al 0 (xo_gf 10 5 (xo_il 1 (xo_ci 1 (xo_iadd (xo_cv 4 cc_4_at 2 (xo_iadd (xo_ci 9999 (xo_mmin (xo_cv 4 cc_4_put 3 (xo_al 0 (xo_gf 10 5 (xo_il 1 (xo_ci 1 (xo_iadd (xo_cv 4 cc_4_takeOut 2 (xo_al 0 (bb_10_miss_70 K J))))))))))))))))))))))))
def bb_10_miss_24 (K : jw_K) (J : Nat → jw_S) : jw_S := xo_ci (-1) (xo_ri 0 0 K)
def bb_10_miss_0 (K : jw_K) (J : Nat → jw_S) : jw_S := xo_al 0 (xo_gf 10 5 (xo_il 1 (xo_cv 4 cc_4_has 2 (xo_zeq (bb_10_miss_24 K J) (xo_al 0 (xo_gf 10 5 (xo_il 1 (xo_ci 1 (xo_iadd (xo_cv 4 cc_4_has 2 (xo_zne (bb_10_miss_26 K J) (bb_10_miss_24 K J))))))))))))
def qq_10_miss (K : jw_K) (pc : Nat) (J : Nat → jw_S) : jw_S := if pc = 0 then bb_10_miss_0 K J else fun _ _ _ _ => False
def cc_10_miss : jw_T := jw_C 2 qq_10_miss
theorem sb_10_miss_70 (l : Launch) : jo_Ok l cb_10_miss 2 "SwipedStripe" "miss" jw_ro { frames := 2, cells := 0, slots := 0, locals := 43 } (some .int) 0 0 bb_10_miss_70 70 := (jo_gf (j := 5) jw_F10 (by decide) kw_259 (by decide +kernel) (jo_cv (n := 0) (ss_4_size l) kw_301 kw_3 kw_298 kw_299 jw_F4 kw_300 ⟨by decide, by decide, by decide +kernel⟩ ⟨by decide, by decide⟩ (fun _ _ h => h) ⟨rfl, rfl⟩ (by decide +kernel) (jo_ri rfl (by decide +kernel))))
theorem sb_10_miss_26 (l : Launch) : jo_Ok l cb_10_miss 2 "SwipedStripe" "miss" jw_ro { frames := 2, cells := 0, slots := 0, locals := 43 } (some .int) 0 0 bb_10_miss_26 26 := (jo_aln (i := 0) (j := 0) (by decide +kernel) rfl (jo_gf (j := 5) jw_F10 (by decide) kw_259 (by decide +kernel) (jo_iln (i := 1) (j := 1) (by decide +kernel) rfl (jo_aln (i := 0) (j := 0) (by decide +kernel) rfl (jo_gf (j := 5) jw_F10 (by decide) kw_259 (by decide +kernel) (jo_iln (i := 1) (j := 1) (by decide +kernel) rfl (jo_cv (n := 1) (ss_4_at l) kw_330 kw_3 kw_513 kw_328 jw_F4 kw_329 ⟨by decide, by decide, by decide +kernel⟩ ⟨by decide, by decide⟩ (fun _ _ h => h) ⟨rfl, rfl⟩ (by decide +kernel) (jo_aln (i := 0) (j := 0) (by decide +kernel) rfl (jo_gf (j := 5) jw_F10 (by decide) kw_259 (by decide +kernel) (jo_iln (i := 1) (j := 1) (by decide +kernel) rfl (jo_ici (n := 1) (by decide +kernel) (by decide) (jo_iadd (by decide +kernel) (jo_cv (n := 1) (ss_4_at l) kw_330 kw_3 kw_513 kw_328 jw_F4 kw_329 ⟨by decide, by decide, by decide +kernel⟩ ⟨by decide, by decide⟩ (fun _ _ h => h) ⟨rfl, rfl⟩ (by decide +kernel) (jo_iadd (by decide +kernel) (jo_spi (n := 9999) (by decide +kernel) (by decide) (jo_mmin kw_601 kw_574 kw_4 kw_575 ⟨by decide, by decide⟩ (by decide +kernel) (jo_cv (n := 2) (ss_4_put l) kw_596 kw_3 kw_593 kw_594 jw_F4 kw_595 ⟨by decide, by decide, by decide +kernel⟩ ⟨by decide, by decide⟩ (fun _ _ h => h) ⟨rfl, rfl⟩ (by decide +kernel) (jo_aln (i := 0) (j := 0) (by decide +kernel) rfl (jo_gf (j := 5) jw_F10 (by decide) kw_259 (by decide +kernel) (jo_iln (i := 1) (j := 1) (by decide +kernel) rfl (jo_ici (n := 1) (by decide +kernel) (by decide) (jo_iadd (by decide +kernel) (jo_cv (n := 1) (ss_4_takeOut l) kw_605 kw_3 kw_602 kw_603 jw_F4 kw_604 ⟨by decide, by decide, by decide +kernel⟩ ⟨by decide, by decide⟩ (fun _ _ h => h) ⟨rfl, rfl⟩ (by decide +kernel) (jo_aln (i := 0) (j := 0) (by decide +kernel) rfl (sb_10_miss_70 l)))))))))))))))))))))))))
theorem sb_10_miss_24 (l : Launch) : jo_Ok l cb_10_miss 2 "SwipedStripe" "miss" jw_ro { frames := 2, cells := 0, slots := 0, locals := 43 } (some .int) 0 0 bb_10_miss_24 24 := (jo_ici (n := -1) (by decide +kernel) (by decide) (jo_ri rfl (by decide +kernel)))
theorem sb_10_miss_0 (l : Launch) : jo_Ok l cb_10_miss 2 "SwipedStripe" "miss" jw_ro { frames := 2, cells := 0, slots := 0, locals := 43 } (some .int) 0 0 bb_10_miss_0 0 := (jo_aln (i := 0) (j := 0) (by decide +kernel) rfl (jo_gf (j := 5) jw_F10 (by decide) kw_259 (by decide +kernel) (jo_iln (i := 1) (j := 1) (by decide +kernel) rfl (jo_cv (n := 1) (ss_4_has l) kw_346 kw_3 kw_512 kw_344 jw_F4 kw_345 ⟨by decide, by decide, by decide +kernel⟩ ⟨by decide, by decide⟩ (fun _ _ h => h) ⟨rfl, rfl⟩ (by decide +kernel) (jo_zeq (off := 16) (tgt := 24) (by decide +kernel) (by decide) (sb_10_miss_24 l) (jo_aln (i := 0) (j := 0) (by decide +kernel) rfl (jo_gf (j := 5) jw_F10 (by decide) kw_259 (by decide +kernel) (jo_iln (i := 1) (j := 1) (by decide +kernel) rfl (jo_ici (n := 1) (by decide +kernel) (by decide) (jo_iadd (by decide +kernel) (jo_cv (n := 1) (ss_4_has l) kw_346 kw_3 kw_512 kw_344 jw_F4 kw_345 ⟨by decide, by decide, by decide +kernel⟩ ⟨by decide, by decide⟩ (fun _ _ h => h) ⟨rfl, rfl⟩ (by decide +kernel) (jo_zne (off := 5) (tgt := 26) (by decide +kernel) (by decide) (sb_10_miss_26 l) (sb_10_miss_24 l)))))))))))))
theorem ss_10_miss (l : Launch) : jw_Met l yy_10_miss cb_10_miss 2 (some .int) { frames := 2, cells := 0, slots := 0, locals := 43 } cc_10_miss := by
  refine jw_met (by decide) (fun pc => ?_)
  intro p e s m args below meth c Q D aC ad base K X RT ls st h z hf
  unfold qq_10_miss at hf
  by_cases h0 : pc = 0
  · subst h0; simp only [if_true, if_false, reduceIte, ↓reduceIte] at hf; exact sb_10_miss_0 l p e s m args below meth c Q D aC ad base K X RT ls st h z hf
  rw [if_neg h0] at hf
  exact hf.elim
abbrev cb_3_failsAt : ByteArray := prog_5_method_4_code
abbrev yy_3_failsAt : MethodName := ⟨"SwipedStripe$Reading", "failsAt", "()I"⟩
def bb_3_failsAt_0 (K : jw_K) (J : Nat → jw_S) : jw_S := xo_al 0 (xo_gf 3 4 (xo_ri 0 0 K))
def qq_3_failsAt (K : jw_K) (pc : Nat) (J : Nat → jw_S) : jw_S := if pc = 0 then bb_3_failsAt_0 K J else fun _ _ _ _ => False
def cc_3_failsAt : jw_T := jw_C 1 qq_3_failsAt
theorem sb_3_failsAt_0 (l : Launch) : jo_Ok l cb_3_failsAt 1 "SwipedStripe$Reading" "failsAt" jw_ro { frames := 0, cells := 0, slots := 0, locals := 0 } (some .int) 0 0 bb_3_failsAt_0 0 := (jo_aln (i := 0) (j := 0) (by decide +kernel) rfl (jo_gf (j := 4) jw_F3 (by decide) kw_134 (by decide +kernel) (jo_ri rfl (by decide +kernel))))
theorem ss_3_failsAt (l : Launch) : jw_Met l yy_3_failsAt cb_3_failsAt 1 (some .int) { frames := 0, cells := 0, slots := 0, locals := 0 } cc_3_failsAt := by
  refine jw_met (by decide) (fun pc => ?_)
  intro p e s m args below meth c Q D aC ad base K X RT ls st h z hf
  unfold qq_3_failsAt at hf
  by_cases h0 : pc = 0
  · subst h0; simp only [if_true, if_false, reduceIte, ↓reduceIte] at hf; exact sb_3_failsAt_0 l p e s m args below meth c Q D aC ad base K X RT ls st h z hf
  rw [if_neg h0] at hf
  exact hf.elim
abbrev cb_10_read : ByteArray := prog_1_method_18_code
abbrev yy_10_read : MethodName := ⟨"SwipedStripe", "read", "(II)I"⟩
def bb_10_read_89 (K : jw_K) (J : Nat → jw_S) : jw_S := xo_ri 0 0 K
def bb_10_read_82 (K : jw_K) (J : Nat → jw_S) : jw_S := xo_al 0 (xo_gf 10 6 (xo_cv 3 cc_3_failsAt 1 (bb_10_read_89 K J)))
def bb_10_read_67 (K : jw_K) (J : Nat → jw_S) : jw_S := xo_il 2 (xo_ci 1 (xo_cne (bb_10_read_82 K J) (xo_al 0 (xo_gf 10 6 (xo_cv 3 cc_3_fails 1 (bb_10_read_89 K J))))))
def bb_10_read_31 (K : jw_K) (J : Nat → jw_S) : jw_S := xo_al 0 (xo_gf 10 6 (xo_al 0 (xo_gf 10 5 (xo_il 1 (xo_al 0 (xo_gf 10 0 (xo_ci 6 (xo_cv 5 cc_5_of 2 (xo_cv 3 cc_3_hear 4 (xo_il 2 (xo_zne (bb_10_read_67 K J) (xo_al 0 (xo_gf 10 6 (xo_cv 3 cc_3_bits 1 (xo_cv 4 cc_4_size 1 (xo_ri 0 0 K))))))))))))))))
def bb_10_read_18 (K : jw_K) (J : Nat → jw_S) : jw_S := xo_al 0 (xo_gf 10 5 (xo_cv 4 cc_4_isEmpty 1 (xo_zeq (bb_10_read_31 K J) (xo_ci (-2) (xo_ri 0 0 K)))))
def bb_10_read_16 (K : jw_K) (J : Nat → jw_S) : jw_S := xo_ci (-1) (xo_ri 0 0 K)
def bb_10_read_0 (K : jw_K) (J : Nat → jw_S) : jw_S := xo_il 1 (xo_cs cc_10_isClock 1 (xo_zeq (bb_10_read_16 K J) (xo_il 2 (xo_zlt (bb_10_read_16 K J) (xo_il 2 (xo_ci 2 (xo_cle (bb_10_read_18 K J) (bb_10_read_16 K J))))))))
def qq_10_read (K : jw_K) (pc : Nat) (J : Nat → jw_S) : jw_S := if pc = 0 then bb_10_read_0 K J else fun _ _ _ _ => False
def cc_10_read : jw_T := jw_C 3 qq_10_read
theorem sb_10_read_89 (l : Launch) : jo_Ok l cb_10_read 3 "SwipedStripe" "read" jw_ro { frames := 3, cells := 0, slots := 0, locals := 72 } (some .int) 0 0 bb_10_read_89 89 := (jo_ri rfl (by decide +kernel))
theorem sb_10_read_82 (l : Launch) : jo_Ok l cb_10_read 3 "SwipedStripe" "read" jw_ro { frames := 3, cells := 0, slots := 0, locals := 72 } (some .int) 0 0 bb_10_read_82 82 := (jo_aln (i := 0) (j := 0) (by decide +kernel) rfl (jo_gf (j := 6) jw_F10 (by decide) kw_260 (by decide +kernel) (jo_cv (n := 0) (ss_3_failsAt l) kw_673 kw_7 kw_670 kw_671 jw_F3 kw_672 ⟨by decide, by decide, by decide +kernel⟩ ⟨by decide, by decide⟩ (fun _ _ h => h) ⟨rfl, rfl⟩ (by decide +kernel) (sb_10_read_89 l))))
theorem sb_10_read_67 (l : Launch) : jo_Ok l cb_10_read 3 "SwipedStripe" "read" jw_ro { frames := 3, cells := 0, slots := 0, locals := 72 } (some .int) 0 0 bb_10_read_67 67 := (jo_iln (i := 2) (j := 2) (by decide +kernel) rfl (jo_ici (n := 1) (by decide +kernel) (by decide) (jo_cne (off := 13) (tgt := 82) (by decide +kernel) (by decide) (sb_10_read_82 l) (jo_aln (i := 0) (j := 0) (by decide +kernel) rfl (jo_gf (j := 6) jw_F10 (by decide) kw_260 (by decide +kernel) (jo_cv (n := 0) (ss_3_fails l) kw_669 kw_7 kw_666 kw_667 jw_F3 kw_668 ⟨by decide, by decide, by decide +kernel⟩ ⟨by decide, by decide⟩ (fun _ _ h => h) ⟨rfl, rfl⟩ (by decide +kernel) (jo_goto (off := 10) (tgt := 89) (by decide +kernel) (by decide) (sb_10_read_89 l))))))))
theorem sb_10_read_31 (l : Launch) : jo_Ok l cb_10_read 3 "SwipedStripe" "read" jw_ro { frames := 3, cells := 0, slots := 0, locals := 72 } (some .int) 0 0 bb_10_read_31 31 := (jo_aln (i := 0) (j := 0) (by decide +kernel) rfl (jo_gf (j := 6) jw_F10 (by decide) kw_260 (by decide +kernel) (jo_aln (i := 0) (j := 0) (by decide +kernel) rfl (jo_gf (j := 5) jw_F10 (by decide) kw_259 (by decide +kernel) (jo_iln (i := 1) (j := 1) (by decide +kernel) rfl (jo_aln (i := 0) (j := 0) (by decide +kernel) rfl (jo_gf (j := 0) jw_F10 (by decide) kw_254 (by decide +kernel) (jo_bpi (n := 6) (by decide +kernel) (by decide) (jo_cv (n := 1) (ss_5_of l) kw_457 kw_2 kw_495 kw_455 jw_F5 kw_456 ⟨by decide, by decide, by decide +kernel⟩ ⟨by decide, by decide⟩ (fun _ _ h => h) ⟨rfl, rfl⟩ (by decide +kernel) (jo_cv (n := 3) (ss_3_hear l) kw_637 kw_7 kw_634 kw_635 jw_F3 kw_636 ⟨by decide, by decide, by decide +kernel⟩ ⟨by decide, by decide⟩ (fun _ _ h => h) ⟨rfl, rfl⟩ (by decide +kernel) (jo_iln (i := 2) (j := 2) (by decide +kernel) rfl (jo_zne (off := 14) (tgt := 67) (by decide +kernel) (by decide) (sb_10_read_67 l) (jo_aln (i := 0) (j := 0) (by decide +kernel) rfl (jo_gf (j := 6) jw_F10 (by decide) kw_260 (by decide +kernel) (jo_cv (n := 0) (ss_3_bits l) kw_665 kw_7 kw_662 kw_663 jw_F3 kw_664 ⟨by decide, by decide, by decide +kernel⟩ ⟨by decide, by decide⟩ (fun _ _ h => h) ⟨rfl, rfl⟩ (by decide +kernel) (jo_cv (n := 0) (ss_4_size l) kw_301 kw_3 kw_298 kw_299 jw_F4 kw_300 ⟨by decide, by decide, by decide +kernel⟩ ⟨by decide, by decide⟩ (fun _ _ h => h) ⟨rfl, rfl⟩ (by decide +kernel) (jo_ri rfl (by decide +kernel))))))))))))))))))
theorem sb_10_read_18 (l : Launch) : jo_Ok l cb_10_read 3 "SwipedStripe" "read" jw_ro { frames := 3, cells := 0, slots := 0, locals := 72 } (some .int) 0 0 bb_10_read_18 18 := (jo_aln (i := 0) (j := 0) (by decide +kernel) rfl (jo_gf (j := 5) jw_F10 (by decide) kw_259 (by decide +kernel) (jo_cv (n := 0) (ss_4_isEmpty l) kw_633 kw_3 kw_630 kw_631 jw_F4 kw_632 ⟨by decide, by decide, by decide +kernel⟩ ⟨by decide, by decide⟩ (fun _ _ h => h) ⟨rfl, rfl⟩ (by decide +kernel) (jo_zeq (off := 6) (tgt := 31) (by decide +kernel) (by decide) (sb_10_read_31 l) (jo_bpi (n := -2) (by decide +kernel) (by decide) (jo_ri rfl (by decide +kernel)))))))
theorem sb_10_read_16 (l : Launch) : jo_Ok l cb_10_read 3 "SwipedStripe" "read" jw_ro { frames := 3, cells := 0, slots := 0, locals := 72 } (some .int) 0 0 bb_10_read_16 16 := (jo_ici (n := -1) (by decide +kernel) (by decide) (jo_ri rfl (by decide +kernel)))
theorem sb_10_read_0 (l : Launch) : jo_Ok l cb_10_read 3 "SwipedStripe" "read" jw_ro { frames := 3, cells := 0, slots := 0, locals := 72 } (some .int) 0 0 bb_10_read_0 0 := (jo_iln (i := 1) (j := 1) (by decide +kernel) rfl (jo_cs (n := 1) (idx := 179) (ss_10_isClock l) kw_629 kw_1 kw_627 kw_628 ⟨by decide, by decide, by decide +kernel⟩ ⟨by decide, by decide⟩ (fun _ _ h => h) ⟨rfl, rfl⟩ (by decide +kernel) (jo_zeq (off := 12) (tgt := 16) (by decide +kernel) (by decide) (sb_10_read_16 l) (jo_iln (i := 2) (j := 2) (by decide +kernel) rfl (jo_zlt (off := 8) (tgt := 16) (by decide +kernel) (by decide) (sb_10_read_16 l) (jo_iln (i := 2) (j := 2) (by decide +kernel) rfl (jo_ici (n := 2) (by decide +kernel) (by decide) (jo_cle (off := 5) (tgt := 18) (by decide +kernel) (by decide) (sb_10_read_18 l) (sb_10_read_16 l)))))))))
theorem ss_10_read (l : Launch) : jw_Met l yy_10_read cb_10_read 3 (some .int) { frames := 3, cells := 0, slots := 0, locals := 72 } cc_10_read := by
  refine jw_met (by decide) (fun pc => ?_)
  intro p e s m args below meth c Q D aC ad base K X RT ls st h z hf
  unfold qq_10_read at hf
  by_cases h0 : pc = 0
  · subst h0; simp only [if_true, if_false, reduceIte, ↓reduceIte] at hf; exact sb_10_read_0 l p e s m args below meth c Q D aC ad base K X RT ls st h z hf
  rw [if_neg h0] at hf
  exact hf.elim
abbrev cb_10_rule : ByteArray := prog_1_method_6_code
abbrev yy_10_rule : MethodName := ⟨"SwipedStripe", "rule", "(I)I"⟩
def bb_10_rule_22 (K : jw_K) (J : Nat → jw_S) : jw_S := xo_ri 0 0 K
def bb_10_rule_14 (K : jw_K) (J : Nat → jw_S) : jw_S := xo_al 0 (xo_gf 10 0 (xo_il 1 (xo_cv 5 cc_5_of 2 (bb_10_rule_22 K J))))
def bb_10_rule_10 (K : jw_K) (J : Nat → jw_S) : jw_S := xo_ci (-1) (bb_10_rule_22 K J)
def bb_10_rule_0 (K : jw_K) (J : Nat → jw_S) : jw_S := xo_il 1 (xo_zlt (bb_10_rule_10 K J) (xo_il 1 (xo_ci 9 (xo_clt (bb_10_rule_14 K J) (bb_10_rule_10 K J)))))
def qq_10_rule (K : jw_K) (pc : Nat) (J : Nat → jw_S) : jw_S := if pc = 0 then bb_10_rule_0 K J else fun _ _ _ _ => False
def cc_10_rule : jw_T := jw_C 2 qq_10_rule
theorem sb_10_rule_22 (l : Launch) : jo_Ok l cb_10_rule 2 "SwipedStripe" "rule" jw_ro { frames := 2, cells := 0, slots := 0, locals := 42 } (some .int) 0 0 bb_10_rule_22 22 := (jo_ri rfl (by decide +kernel))
theorem sb_10_rule_14 (l : Launch) : jo_Ok l cb_10_rule 2 "SwipedStripe" "rule" jw_ro { frames := 2, cells := 0, slots := 0, locals := 42 } (some .int) 0 0 bb_10_rule_14 14 := (jo_aln (i := 0) (j := 0) (by decide +kernel) rfl (jo_gf (j := 0) jw_F10 (by decide) kw_254 (by decide +kernel) (jo_iln (i := 1) (j := 1) (by decide +kernel) rfl (jo_cv (n := 1) (ss_5_of l) kw_457 kw_2 kw_495 kw_455 jw_F5 kw_456 ⟨by decide, by decide, by decide +kernel⟩ ⟨by decide, by decide⟩ (fun _ _ h => h) ⟨rfl, rfl⟩ (by decide +kernel) (sb_10_rule_22 l)))))
theorem sb_10_rule_10 (l : Launch) : jo_Ok l cb_10_rule 2 "SwipedStripe" "rule" jw_ro { frames := 2, cells := 0, slots := 0, locals := 42 } (some .int) 0 0 bb_10_rule_10 10 := (jo_ici (n := -1) (by decide +kernel) (by decide) (jo_goto (off := 11) (tgt := 22) (by decide +kernel) (by decide) (sb_10_rule_22 l)))
theorem sb_10_rule_0 (l : Launch) : jo_Ok l cb_10_rule 2 "SwipedStripe" "rule" jw_ro { frames := 2, cells := 0, slots := 0, locals := 42 } (some .int) 0 0 bb_10_rule_0 0 := (jo_iln (i := 1) (j := 1) (by decide +kernel) rfl (jo_zlt (off := 9) (tgt := 10) (by decide +kernel) (by decide) (sb_10_rule_10 l) (jo_iln (i := 1) (j := 1) (by decide +kernel) rfl (jo_bpi (n := 9) (by decide +kernel) (by decide) (jo_clt (off := 7) (tgt := 14) (by decide +kernel) (by decide) (sb_10_rule_14 l) (sb_10_rule_10 l))))))
theorem ss_10_rule (l : Launch) : jw_Met l yy_10_rule cb_10_rule 2 (some .int) { frames := 2, cells := 0, slots := 0, locals := 42 } cc_10_rule := by
  refine jw_met (by decide) (fun pc => ?_)
  intro p e s m args below meth c Q D aC ad base K X RT ls st h z hf
  unfold qq_10_rule at hf
  by_cases h0 : pc = 0
  · subst h0; simp only [if_true, if_false, reduceIte, ↓reduceIte] at hf; exact sb_10_rule_0 l p e s m args below meth c Q D aC ad base K X RT ls st h z hf
  rw [if_neg h0] at hf
  exact hf.elim
abbrev cb_4_zeros : ByteArray := prog_6_method_11_code
abbrev yy_4_zeros : MethodName := ⟨"SwipedStripe$Row", "zeros", "(I)V"⟩
def bb_4_zeros_40 (K : jw_K) (J : Nat → jw_S) : jw_S := xo_rv 0 0 K
def bb_4_zeros_19 (K : jw_K) (J : Nat → jw_S) : jw_S := xo_il 2 (xo_al 0 (xo_gf 4 1 (xo_cge (bb_4_zeros_40 K J) (xo_al 0 (xo_gf 4 0 (xo_il 2 (xo_ci 0 (xo_iast (xo_ic 2 1 (J 19))))))))))
def bb_4_zeros_0 (K : jw_K) (J : Nat → jw_S) : jw_S := xo_al 0 (xo_ci 0 (xo_il 1 (xo_al 0 (xo_gf 4 0 (xo_alen jw_ro (xo_mmin (xo_mmax (xo_pfi 4 1 (xo_ci 0 (xo_is 2 (J 19)))))))))))
def qq_4_zeros (K : jw_K) (pc : Nat) (J : Nat → jw_S) : jw_S := if pc = 0 then bb_4_zeros_0 K J else if pc = 19 then bb_4_zeros_19 K J else fun _ _ _ _ => False
def cc_4_zeros : jw_T := jw_C 3 qq_4_zeros
theorem sb_4_zeros_40 (l : Launch) : jo_Ok l cb_4_zeros 3 "SwipedStripe$Row" "zeros" jw_ro { frames := 1, cells := 0, slots := 0, locals := 24 } none 0 0 bb_4_zeros_40 40 := (jo_rv rfl (by decide +kernel))
theorem sb_4_zeros_19 (l : Launch) : jo_Ok l cb_4_zeros 3 "SwipedStripe$Row" "zeros" jw_ro { frames := 1, cells := 0, slots := 0, locals := 24 } none 0 0 bb_4_zeros_19 19 := (jo_iln (i := 2) (j := 2) (by decide +kernel) rfl (jo_aln (i := 0) (j := 0) (by decide +kernel) rfl (jo_gf (j := 1) jw_F4 (by decide) kw_57 (by decide +kernel) (jo_cge (off := 16) (tgt := 40) (by decide +kernel) (by decide) (sb_4_zeros_40 l) (jo_aln (i := 0) (j := 0) (by decide +kernel) rfl (jo_gf (j := 0) jw_F4 (by decide) kw_56 (by decide +kernel) (jo_iln (i := 2) (j := 2) (by decide +kernel) rfl (jo_ici (n := 0) (by decide +kernel) (by decide) (jo_iast (by decide +kernel) (jo_ic (n0 := 1) (by decide +kernel) (by decide) (by decide) (jo_goto (off := -18) (tgt := 19) (by decide +kernel) (by decide) (jo_J))))))))))))
theorem sb_4_zeros_0 (l : Launch) : jo_Ok l cb_4_zeros 3 "SwipedStripe$Row" "zeros" jw_ro { frames := 1, cells := 0, slots := 0, locals := 24 } none 0 0 bb_4_zeros_0 0 := (jo_aln (i := 0) (j := 0) (by decide +kernel) rfl (jo_ici (n := 0) (by decide +kernel) (by decide) (jo_iln (i := 1) (j := 1) (by decide +kernel) rfl (jo_aln (i := 0) (j := 0) (by decide +kernel) rfl (jo_gf (j := 0) jw_F4 (by decide) kw_56 (by decide +kernel) (jo_alen (by decide +kernel) (jo_mmin kw_800 kw_574 kw_4 kw_575 ⟨by decide, by decide⟩ (by decide +kernel) (jo_mmax kw_53 kw_54 kw_4 kw_55 ⟨by decide, by decide⟩ (by decide +kernel) (jo_pfi (j := 1) jw_F4 (by decide) kw_57 rfl rfl (by decide +kernel) (jo_ici (n := 0) (by decide +kernel) (by decide) (jo_isn (i := 2) (j := 2) (by decide +kernel) rfl (by decide) jo_J)))))))))))
theorem ss_4_zeros (l : Launch) : jw_Met l yy_4_zeros cb_4_zeros 3 none { frames := 1, cells := 0, slots := 0, locals := 24 } cc_4_zeros := by
  refine jw_met (by decide) (fun pc => ?_)
  intro p e s m args below meth c Q D aC ad base K X RT ls st h z hf
  unfold qq_4_zeros at hf
  by_cases h0 : pc = 0
  · subst h0; simp only [if_true, if_false, reduceIte, ↓reduceIte] at hf; exact sb_4_zeros_0 l p e s m args below meth c Q D aC ad base K X RT ls st h z hf
  rw [if_neg h0] at hf
  by_cases h19 : pc = 19
  · subst h19; simp only [if_true, if_false, reduceIte, ↓reduceIte] at hf; exact sb_4_zeros_19 l p e s m args below meth c Q D aC ad base K X RT ls st h z hf
  rw [if_neg h19] at hf
  exact hf.elim
abbrev cb_6_renew : ByteArray := prog_8_method_4_code
abbrev yy_6_renew : MethodName := ⟨"SwipedStripe$Sheet", "renew", "(II)V"⟩
def bb_6_renew_0 (K : jw_K) (J : Nat → jw_S) : jw_S := xo_al 0 (xo_il 1 (xo_pfi 6 1 (xo_al 0 (xo_gf 6 0 (xo_il 2 (xo_cv 4 cc_4_zeros 2 (xo_rv 0 0 K)))))))
def qq_6_renew (K : jw_K) (pc : Nat) (J : Nat → jw_S) : jw_S := if pc = 0 then bb_6_renew_0 K J else fun _ _ _ _ => False
def cc_6_renew : jw_T := jw_C 3 qq_6_renew
theorem sb_6_renew_0 (l : Launch) : jo_Ok l cb_6_renew 3 "SwipedStripe$Sheet" "renew" jw_ro { frames := 2, cells := 0, slots := 0, locals := 46 } none 0 0 bb_6_renew_0 0 := (jo_aln (i := 0) (j := 0) (by decide +kernel) rfl (jo_iln (i := 1) (j := 1) (by decide +kernel) rfl (jo_pfi (j := 1) jw_F6 (by decide) kw_248 rfl rfl (by decide +kernel) (jo_aln (i := 0) (j := 0) (by decide +kernel) rfl (jo_gf (j := 0) jw_F6 (by decide) kw_247 (by decide +kernel) (jo_iln (i := 2) (j := 2) (by decide +kernel) rfl (jo_cv (n := 1) (ss_4_zeros l) kw_799 kw_3 kw_975 kw_797 jw_F4 kw_798 ⟨by decide, by decide, by decide +kernel⟩ ⟨by decide, by decide⟩ (fun _ _ h => h) ⟨rfl, rfl⟩ (by decide +kernel) (jo_rv rfl (by decide +kernel)))))))))
theorem ss_6_renew (l : Launch) : jw_Met l yy_6_renew cb_6_renew 3 none { frames := 2, cells := 0, slots := 0, locals := 46 } cc_6_renew := by
  refine jw_met (by decide) (fun pc => ?_)
  intro p e s m args below meth c Q D aC ad base K X RT ls st h z hf
  unfold qq_6_renew at hf
  by_cases h0 : pc = 0
  · subst h0; simp only [if_true, if_false, reduceIte, ↓reduceIte] at hf; exact sb_6_renew_0 l p e s m args below meth c Q D aC ad base K X RT ls st h z hf
  rw [if_neg h0] at hf
  exact hf.elim
abbrev cb_10_sheet : ByteArray := prog_1_method_32_code
abbrev yy_10_sheet : MethodName := ⟨"SwipedStripe", "sheet", "(III)I"⟩
def bb_10_sheet_29 (K : jw_K) (J : Nat → jw_S) : jw_S := xo_al 0 (xo_gf 10 10 (xo_il 1 (xo_aald (xo_il 2 (xo_il 3 (xo_cv 6 cc_6_renew 3 (xo_ci 1 (xo_ri 0 0 K))))))))
def bb_10_sheet_22 (K : jw_K) (J : Nat → jw_S) : jw_S := xo_il 3 (xo_zge (bb_10_sheet_29 K J) (xo_ci (-14) (xo_ri 0 0 K)))
def bb_10_sheet_20 (K : jw_K) (J : Nat → jw_S) : jw_S := xo_ci (-1) (xo_ri 0 0 K)
def bb_10_sheet_0 (K : jw_K) (J : Nat → jw_S) : jw_S := xo_il 1 (xo_cs cc_10_isSheet 1 (xo_zeq (bb_10_sheet_20 K J) (xo_il 2 (xo_cs cc_10_isLane 1 (xo_zeq (bb_10_sheet_20 K J) (xo_il 3 (xo_ci 64 (xo_cle (bb_10_sheet_22 K J) (bb_10_sheet_20 K J)))))))))
def qq_10_sheet (K : jw_K) (pc : Nat) (J : Nat → jw_S) : jw_S := if pc = 0 then bb_10_sheet_0 K J else fun _ _ _ _ => False
def cc_10_sheet : jw_T := jw_C 4 qq_10_sheet
theorem sb_10_sheet_29 (l : Launch) : jo_Ok l cb_10_sheet 4 "SwipedStripe" "sheet" jw_ro { frames := 3, cells := 0, slots := 0, locals := 68 } (some .int) 0 0 bb_10_sheet_29 29 := (jo_aln (i := 0) (j := 0) (by decide +kernel) rfl (jo_gf (j := 10) jw_F10 (by decide) kw_264 (by decide +kernel) (jo_iln (i := 1) (j := 1) (by decide +kernel) rfl (jo_aald (by decide +kernel) (jo_iln (i := 2) (j := 2) (by decide +kernel) rfl (jo_iln (i := 3) (j := 3) (by decide +kernel) rfl (jo_cv (n := 2) (ss_6_renew l) kw_974 kw_12 kw_971 kw_972 jw_F6 kw_973 ⟨by decide, by decide, by decide +kernel⟩ ⟨by decide, by decide⟩ (fun _ _ h => h) ⟨rfl, rfl⟩ (by decide +kernel) (jo_ici (n := 1) (by decide +kernel) (by decide) (jo_ri rfl (by decide +kernel))))))))))
theorem sb_10_sheet_22 (l : Launch) : jo_Ok l cb_10_sheet 4 "SwipedStripe" "sheet" jw_ro { frames := 3, cells := 0, slots := 0, locals := 68 } (some .int) 0 0 bb_10_sheet_22 22 := (jo_iln (i := 3) (j := 3) (by decide +kernel) rfl (jo_zge (off := 6) (tgt := 29) (by decide +kernel) (by decide) (sb_10_sheet_29 l) (jo_bpi (n := -14) (by decide +kernel) (by decide) (jo_ri rfl (by decide +kernel)))))
theorem sb_10_sheet_20 (l : Launch) : jo_Ok l cb_10_sheet 4 "SwipedStripe" "sheet" jw_ro { frames := 3, cells := 0, slots := 0, locals := 68 } (some .int) 0 0 bb_10_sheet_20 20 := (jo_ici (n := -1) (by decide +kernel) (by decide) (jo_ri rfl (by decide +kernel)))
theorem sb_10_sheet_0 (l : Launch) : jo_Ok l cb_10_sheet 4 "SwipedStripe" "sheet" jw_ro { frames := 3, cells := 0, slots := 0, locals := 68 } (some .int) 0 0 bb_10_sheet_0 0 := (jo_iln (i := 1) (j := 1) (by decide +kernel) rfl (jo_cs (n := 1) (idx := 278) (ss_10_isSheet l) kw_967 kw_1 kw_965 kw_966 ⟨by decide, by decide, by decide +kernel⟩ ⟨by decide, by decide⟩ (fun _ _ h => h) ⟨rfl, rfl⟩ (by decide +kernel) (jo_zeq (off := 16) (tgt := 20) (by decide +kernel) (by decide) (sb_10_sheet_20 l) (jo_iln (i := 2) (j := 2) (by decide +kernel) rfl (jo_cs (n := 1) (idx := 281) (ss_10_isLane l) kw_970 kw_1 kw_968 kw_969 ⟨by decide, by decide, by decide +kernel⟩ ⟨by decide, by decide⟩ (fun _ _ h => h) ⟨rfl, rfl⟩ (by decide +kernel) (jo_zeq (off := 9) (tgt := 20) (by decide +kernel) (by decide) (sb_10_sheet_20 l) (jo_iln (i := 3) (j := 3) (by decide +kernel) rfl (jo_bpi (n := 64) (by decide +kernel) (by decide) (jo_cle (off := 5) (tgt := 22) (by decide +kernel) (by decide) (sb_10_sheet_22 l) (sb_10_sheet_20 l))))))))))
theorem ss_10_sheet (l : Launch) : jw_Met l yy_10_sheet cb_10_sheet 4 (some .int) { frames := 3, cells := 0, slots := 0, locals := 68 } cc_10_sheet := by
  refine jw_met (by decide) (fun pc => ?_)
  intro p e s m args below meth c Q D aC ad base K X RT ls st h z hf
  unfold qq_10_sheet at hf
  by_cases h0 : pc = 0
  · subst h0; simp only [if_true, if_false, reduceIte, ↓reduceIte] at hf; exact sb_10_sheet_0 l p e s m args below meth c Q D aC ad base K X RT ls st h z hf
  rw [if_neg h0] at hf
  exact hf.elim
abbrev cb_7_bits : ByteArray := prog_9_method_2_code
abbrev yy_7_bits : MethodName := ⟨"SwipedStripe$Smoothest", "bits", "()LSwipedStripe$Row;"⟩
def bb_7_bits_0 (K : jw_K) (J : Nat → jw_S) : jw_S := xo_al 0 (xo_gf 7 0 (xo_ra 0 0 K))
def qq_7_bits (K : jw_K) (pc : Nat) (J : Nat → jw_S) : jw_S := if pc = 0 then bb_7_bits_0 K J else fun _ _ _ _ => False
def cc_7_bits : jw_T := jw_C 1 qq_7_bits
theorem sb_7_bits_0 (l : Launch) : jo_Ok l cb_7_bits 1 "SwipedStripe$Smoothest" "bits" jw_ro { frames := 0, cells := 0, slots := 0, locals := 0 } (some (.object "SwipedStripe$Row")) 0 0 bb_7_bits_0 0 := (jo_aln (i := 0) (j := 0) (by decide +kernel) rfl (jo_gf (j := 0) jw_F7 (by decide) kw_196 (by decide +kernel) (jo_ra ⟨_, rfl⟩ (by decide +kernel))))
theorem ss_7_bits (l : Launch) : jw_Met l yy_7_bits cb_7_bits 1 (some (.object "SwipedStripe$Row")) { frames := 0, cells := 0, slots := 0, locals := 0 } cc_7_bits := by
  refine jw_met (by decide) (fun pc => ?_)
  intro p e s m args below meth c Q D aC ad base K X RT ls st h z hf
  unfold qq_7_bits at hf
  by_cases h0 : pc = 0
  · subst h0; simp only [if_true, if_false, reduceIte, ↓reduceIte] at hf; exact sb_7_bits_0 l p e s m args below meth c Q D aC ad base K X RT ls st h z hf
  rw [if_neg h0] at hf
  exact hf.elim
abbrev cb_7_step : ByteArray := prog_9_method_9_code
abbrev yy_7_step : MethodName := ⟨"SwipedStripe$Smoothest", "step", "(II)I"⟩
def bb_7_step_15 (K : jw_K) (J : Nat → jw_S) : jw_S := xo_ri 0 0 K
def bb_7_step_9 (K : jw_K) (J : Nat → jw_S) : jw_S := xo_il 0 (xo_il 1 (xo_isub (xo_mabs (bb_7_step_15 K J))))
def bb_7_step_0 (K : jw_K) (J : Nat → jw_S) : jw_S := xo_il 1 (xo_ci (-1) (xo_cne (bb_7_step_9 K J) (xo_ci 0 (bb_7_step_15 K J))))
def qq_7_step (K : jw_K) (pc : Nat) (J : Nat → jw_S) : jw_S := if pc = 0 then bb_7_step_0 K J else fun _ _ _ _ => False
def cc_7_step : jw_T := jw_C 2 qq_7_step
theorem sb_7_step_15 (l : Launch) : jo_Ok l cb_7_step 2 "SwipedStripe$Smoothest" "step" jw_ro { frames := 1, cells := 0, slots := 0, locals := 24 } (some .int) 0 0 bb_7_step_15 15 := (jo_ri rfl (by decide +kernel))
theorem sb_7_step_9 (l : Launch) : jo_Ok l cb_7_step 2 "SwipedStripe$Smoothest" "step" jw_ro { frames := 1, cells := 0, slots := 0, locals := 24 } (some .int) 0 0 bb_7_step_9 9 := (jo_iln (i := 0) (j := 0) (by decide +kernel) rfl (jo_iln (i := 1) (j := 1) (by decide +kernel) rfl (jo_isub (by decide +kernel) (jo_mabs kw_813 kw_657 kw_4 kw_658 ⟨by decide, by decide⟩ (by decide +kernel) (sb_7_step_15 l)))))
theorem sb_7_step_0 (l : Launch) : jo_Ok l cb_7_step 2 "SwipedStripe$Smoothest" "step" jw_ro { frames := 1, cells := 0, slots := 0, locals := 24 } (some .int) 0 0 bb_7_step_0 0 := (jo_iln (i := 1) (j := 1) (by decide +kernel) rfl (jo_ici (n := -1) (by decide +kernel) (by decide) (jo_cne (off := 7) (tgt := 9) (by decide +kernel) (by decide) (sb_7_step_9 l) (jo_ici (n := 0) (by decide +kernel) (by decide) (jo_goto (off := 9) (tgt := 15) (by decide +kernel) (by decide) (sb_7_step_15 l))))))
theorem ss_7_step (l : Launch) : jw_Met l yy_7_step cb_7_step 2 (some .int) { frames := 1, cells := 0, slots := 0, locals := 24 } cc_7_step := by
  refine jw_met (by decide) (fun pc => ?_)
  intro p e s m args below meth c Q D aC ad base K X RT ls st h z hf
  unfold qq_7_step at hf
  by_cases h0 : pc = 0
  · subst h0; simp only [if_true, if_false, reduceIte, ↓reduceIte] at hf; exact sb_7_step_0 l p e s m args below meth c Q D aC ad base K X RT ls st h z hf
  rw [if_neg h0] at hf
  exact hf.elim
abbrev cb_7_withOne : ByteArray := prog_9_method_8_code
abbrev yy_7_withOne : MethodName := ⟨"SwipedStripe$Smoothest", "withOne", "(LSwipedStripe$Row;II)I"⟩
def bb_7_withOne_53 (K : jw_K) (J : Nat → jw_S) : jw_S := xo_iadd (xo_cv 4 cc_4_at 2 (xo_iadd (xo_ri 0 0 K)))
def bb_7_withOne_13 (K : jw_K) (J : Nat → jw_S) : jw_S := xo_al 1 (xo_il 2 (xo_cv 4 cc_4_at 2 (xo_is 4 (xo_al 1 (xo_il 2 (xo_ci 1 (xo_iadd (xo_cv 4 cc_4_at 2 (xo_is 5 (xo_il 4 (xo_il 5 (xo_iadd (xo_il 3 (xo_cs cc_7_step 2 (xo_il 4 (xo_il 5 (xo_isub (xo_mabs (xo_iadd (xo_al 0 (xo_gf 7 2 (xo_il 2 (xo_ci 2 (bb_7_withOne_53 K J))))))))))))))))))))))))
def bb_7_withOne_0 (K : jw_K) (J : Nat → jw_S) : jw_S := xo_al 1 (xo_il 2 (xo_ci 1 (xo_iadd (xo_cv 4 cc_4_has 2 (xo_zne (bb_7_withOne_13 K J) (xo_ci 1000000000 (xo_ri 0 0 K)))))))
def qq_7_withOne (K : jw_K) (pc : Nat) (J : Nat → jw_S) : jw_S := if pc = 0 then bb_7_withOne_0 K J else fun _ _ _ _ => False
def cc_7_withOne : jw_T := jw_C 6 qq_7_withOne
theorem sb_7_withOne_53 (l : Launch) : jo_Ok l cb_7_withOne 6 "SwipedStripe$Smoothest" "withOne" jw_ro { frames := 2, cells := 0, slots := 0, locals := 45 } (some .int) 0 0 bb_7_withOne_53 53 := (jo_iadd (by decide +kernel) (jo_cv (n := 1) (ss_4_at l) kw_330 kw_3 kw_801 kw_328 jw_F4 kw_329 ⟨by decide, by decide, by decide +kernel⟩ ⟨by decide, by decide⟩ (fun _ _ h => h) ⟨rfl, rfl⟩ (by decide +kernel) (jo_iadd (by decide +kernel) (jo_ri rfl (by decide +kernel)))))
theorem sb_7_withOne_13 (l : Launch) : jo_Ok l cb_7_withOne 6 "SwipedStripe$Smoothest" "withOne" jw_ro { frames := 2, cells := 0, slots := 0, locals := 45 } (some .int) 0 0 bb_7_withOne_13 13 := (jo_aln (i := 1) (j := 1) (by decide +kernel) rfl (jo_iln (i := 2) (j := 2) (by decide +kernel) rfl (jo_cv (n := 1) (ss_4_at l) kw_330 kw_3 kw_801 kw_328 jw_F4 kw_329 ⟨by decide, by decide, by decide +kernel⟩ ⟨by decide, by decide⟩ (fun _ _ h => h) ⟨rfl, rfl⟩ (by decide +kernel) (jo_is (by decide +kernel) (by decide) (jo_aln (i := 1) (j := 1) (by decide +kernel) rfl (jo_iln (i := 2) (j := 2) (by decide +kernel) rfl (jo_ici (n := 1) (by decide +kernel) (by decide) (jo_iadd (by decide +kernel) (jo_cv (n := 1) (ss_4_at l) kw_330 kw_3 kw_801 kw_328 jw_F4 kw_329 ⟨by decide, by decide, by decide +kernel⟩ ⟨by decide, by decide⟩ (fun _ _ h => h) ⟨rfl, rfl⟩ (by decide +kernel) (jo_is (by decide +kernel) (by decide) (jo_il (by decide +kernel) (jo_il (by decide +kernel) (jo_iadd (by decide +kernel) (jo_iln (i := 3) (j := 3) (by decide +kernel) rfl (jo_cs (n := 2) (idx := 76) (ss_7_step l) kw_812 kw_9 kw_810 kw_811 ⟨by decide, by decide, by decide +kernel⟩ ⟨by decide, by decide⟩ (fun _ _ h => h) ⟨rfl, rfl⟩ (by decide +kernel) (jo_il (by decide +kernel) (jo_il (by decide +kernel) (jo_isub (by decide +kernel) (jo_mabs kw_813 kw_657 kw_4 kw_658 ⟨by decide, by decide⟩ (by decide +kernel) (jo_iadd (by decide +kernel) (jo_aln (i := 0) (j := 0) (by decide +kernel) rfl (jo_gf (j := 2) jw_F7 (by decide) kw_198 (by decide +kernel) (jo_iln (i := 2) (j := 2) (by decide +kernel) rfl (jo_ici (n := 2) (by decide +kernel) (by decide) (sb_7_withOne_53 l)))))))))))))))))))))))))
theorem sb_7_withOne_0 (l : Launch) : jo_Ok l cb_7_withOne 6 "SwipedStripe$Smoothest" "withOne" jw_ro { frames := 2, cells := 0, slots := 0, locals := 45 } (some .int) 0 0 bb_7_withOne_0 0 := (jo_aln (i := 1) (j := 1) (by decide +kernel) rfl (jo_iln (i := 2) (j := 2) (by decide +kernel) rfl (jo_ici (n := 1) (by decide +kernel) (by decide) (jo_iadd (by decide +kernel) (jo_cv (n := 1) (ss_4_has l) kw_346 kw_3 kw_818 kw_344 jw_F4 kw_345 ⟨by decide, by decide, by decide +kernel⟩ ⟨by decide, by decide⟩ (fun _ _ h => h) ⟨rfl, rfl⟩ (by decide +kernel) (jo_zne (off := 6) (tgt := 13) (by decide +kernel) (by decide) (sb_7_withOne_13 l) (jo_ldc (by decide +kernel) kw_819 (jo_ri rfl (by decide +kernel)))))))))
theorem ss_7_withOne (l : Launch) : jw_Met l yy_7_withOne cb_7_withOne 6 (some .int) { frames := 2, cells := 0, slots := 0, locals := 45 } cc_7_withOne := by
  refine jw_met (by decide) (fun pc => ?_)
  intro p e s m args below meth c Q D aC ad base K X RT ls st h z hf
  unfold qq_7_withOne at hf
  by_cases h0 : pc = 0
  · subst h0; simp only [if_true, if_false, reduceIte, ↓reduceIte] at hf; exact sb_7_withOne_0 l p e s m args below meth c Q D aC ad base K X RT ls st h z hf
  rw [if_neg h0] at hf
  exact hf.elim
abbrev cb_7_withZero : ByteArray := prog_9_method_7_code
abbrev yy_7_withZero : MethodName := ⟨"SwipedStripe$Smoothest", "withZero", "(LSwipedStripe$Row;II)I"⟩
def bb_7_withZero_0 (K : jw_K) (J : Nat → jw_S) : jw_S := xo_al 1 (xo_il 2 (xo_cv 4 cc_4_at 2 (xo_il 3 (xo_cs cc_7_step 2 (xo_al 0 (xo_gf 7 1 (xo_il 2 (xo_ci 1 (xo_iadd (xo_cv 4 cc_4_at 2 (xo_iadd (xo_ri 0 0 K))))))))))))
def qq_7_withZero (K : jw_K) (pc : Nat) (J : Nat → jw_S) : jw_S := if pc = 0 then bb_7_withZero_0 K J else fun _ _ _ _ => False
def cc_7_withZero : jw_T := jw_C 4 qq_7_withZero
theorem sb_7_withZero_0 (l : Launch) : jo_Ok l cb_7_withZero 4 "SwipedStripe$Smoothest" "withZero" jw_ro { frames := 2, cells := 0, slots := 0, locals := 45 } (some .int) 0 0 bb_7_withZero_0 0 := (jo_aln (i := 1) (j := 1) (by decide +kernel) rfl (jo_iln (i := 2) (j := 2) (by decide +kernel) rfl (jo_cv (n := 1) (ss_4_at l) kw_330 kw_3 kw_801 kw_328 jw_F4 kw_329 ⟨by decide, by decide, by decide +kernel⟩ ⟨by decide, by decide⟩ (fun _ _ h => h) ⟨rfl, rfl⟩ (by decide +kernel) (jo_iln (i := 3) (j := 3) (by decide +kernel) rfl (jo_cs (n := 2) (idx := 76) (ss_7_step l) kw_812 kw_9 kw_810 kw_811 ⟨by decide, by decide, by decide +kernel⟩ ⟨by decide, by decide⟩ (fun _ _ h => h) ⟨rfl, rfl⟩ (by decide +kernel) (jo_aln (i := 0) (j := 0) (by decide +kernel) rfl (jo_gf (j := 1) jw_F7 (by decide) kw_197 (by decide +kernel) (jo_iln (i := 2) (j := 2) (by decide +kernel) rfl (jo_ici (n := 1) (by decide +kernel) (by decide) (jo_iadd (by decide +kernel) (jo_cv (n := 1) (ss_4_at l) kw_330 kw_3 kw_801 kw_328 jw_F4 kw_329 ⟨by decide, by decide, by decide +kernel⟩ ⟨by decide, by decide⟩ (fun _ _ h => h) ⟨rfl, rfl⟩ (by decide +kernel) (jo_iadd (by decide +kernel) (jo_ri rfl (by decide +kernel))))))))))))))
theorem ss_7_withZero (l : Launch) : jw_Met l yy_7_withZero cb_7_withZero 4 (some .int) { frames := 2, cells := 0, slots := 0, locals := 45 } cc_7_withZero := by
  refine jw_met (by decide) (fun pc => ?_)
  intro p e s m args below meth c Q D aC ad base K X RT ls st h z hf
  unfold qq_7_withZero at hf
  by_cases h0 : pc = 0
  · subst h0; simp only [if_true, if_false, reduceIte, ↓reduceIte] at hf; exact sb_7_withZero_0 l p e s m args below meth c Q D aC ad base K X RT ls st h z hf
  rw [if_neg h0] at hf
  exact hf.elim
abbrev cb_7_least : ByteArray := prog_9_method_6_code
abbrev yy_7_least : MethodName := ⟨"SwipedStripe$Smoothest", "least", "(LSwipedStripe$Row;II)I"⟩
def bb_7_least_0 (K : jw_K) (J : Nat → jw_S) : jw_S := xo_al 0 (xo_al 1 (xo_il 2 (xo_il 3 (xo_cv 7 cc_7_withZero 4 (xo_al 0 (xo_al 1 (xo_il 2 (xo_il 3 (xo_cv 7 cc_7_withOne 4 (xo_mmin (xo_ri 0 0 K)))))))))))
def qq_7_least (K : jw_K) (pc : Nat) (J : Nat → jw_S) : jw_S := if pc = 0 then bb_7_least_0 K J else fun _ _ _ _ => False
def cc_7_least : jw_T := jw_C 4 qq_7_least
theorem sb_7_least_0 (l : Launch) : jo_Ok l cb_7_least 4 "SwipedStripe$Smoothest" "least" jw_ro { frames := 3, cells := 0, slots := 0, locals := 70 } (some .int) 0 0 bb_7_least_0 0 := (jo_aln (i := 0) (j := 0) (by decide +kernel) rfl (jo_aln (i := 1) (j := 1) (by decide +kernel) rfl (jo_iln (i := 2) (j := 2) (by decide +kernel) rfl (jo_iln (i := 3) (j := 3) (by decide +kernel) rfl (jo_cv (n := 3) (ss_7_withZero l) kw_809 kw_9 kw_806 kw_808 jw_F7 kp_24 ⟨by decide, by decide, by decide +kernel⟩ ⟨by decide, by decide⟩ (fun _ _ h => h) ⟨rfl, rfl⟩ (by decide +kernel) (jo_aln (i := 0) (j := 0) (by decide +kernel) rfl (jo_aln (i := 1) (j := 1) (by decide +kernel) rfl (jo_iln (i := 2) (j := 2) (by decide +kernel) rfl (jo_iln (i := 3) (j := 3) (by decide +kernel) rfl (jo_cv (n := 3) (ss_7_withOne l) kw_817 kw_9 kw_814 kw_816 jw_F7 kp_25 ⟨by decide, by decide, by decide +kernel⟩ ⟨by decide, by decide⟩ (fun _ _ h => h) ⟨rfl, rfl⟩ (by decide +kernel) (jo_mmin kw_820 kw_574 kw_4 kw_575 ⟨by decide, by decide⟩ (by decide +kernel) (jo_ri rfl (by decide +kernel)))))))))))))
theorem ss_7_least (l : Launch) : jw_Met l yy_7_least cb_7_least 4 (some .int) { frames := 3, cells := 0, slots := 0, locals := 70 } cc_7_least := by
  refine jw_met (by decide) (fun pc => ?_)
  intro p e s m args below meth c Q D aC ad base K X RT ls st h z hf
  unfold qq_7_least at hf
  by_cases h0 : pc = 0
  · subst h0; simp only [if_true, if_false, reduceIte, ↓reduceIte] at hf; exact sb_7_least_0 l p e s m args below meth c Q D aC ad base K X RT ls st h z hf
  rw [if_neg h0] at hf
  exact hf.elim
abbrev cb_7_walk : ByteArray := prog_9_method_5_code
abbrev yy_7_walk : MethodName := ⟨"SwipedStripe$Smoothest", "walk", "(LSwipedStripe$Row;)V"⟩
def bb_7_walk_87 (K : jw_K) (J : Nat → jw_S) : jw_S := xo_rv 0 0 K
def bb_7_walk_81 (K : jw_K) (J : Nat → jw_S) : jw_S := xo_ic 3 1 (J 12)
def bb_7_walk_55 (K : jw_K) (J : Nat → jw_S) : jw_S := xo_al 0 (xo_gf 7 0 (xo_ci 1 (xo_cv 4 cc_4_push 2 (xo_pop (xo_al 1 (xo_il 3 (xo_cv 4 cc_4_at 2 (xo_al 1 (xo_il 3 (xo_ci 1 (xo_iadd (xo_cv 4 cc_4_at 2 (xo_iadd (xo_is 2 (xo_ic 3 1 (bb_7_walk_81 K J))))))))))))))))
def bb_7_walk_12 (K : jw_K) (J : Nat → jw_S) : jw_S := xo_il 3 (xo_al 1 (xo_cv 4 cc_4_size 1 (xo_cge (bb_7_walk_87 K J) (xo_al 0 (xo_al 1 (xo_il 3 (xo_il 2 (xo_cv 7 cc_7_withZero 4 (xo_al 0 (xo_al 1 (xo_il 3 (xo_il 2 (xo_cv 7 cc_7_withOne 4 (xo_cgt (bb_7_walk_55 K J) (xo_al 0 (xo_gf 7 0 (xo_ci 0 (xo_cv 4 cc_4_push 2 (xo_pop (xo_al 1 (xo_il 3 (xo_cv 4 cc_4_at 2 (xo_is 2 (bb_7_walk_81 K J))))))))))))))))))))))))
def bb_7_walk_0 (K : jw_K) (J : Nat → jw_S) : jw_S := xo_al 0 (xo_gf 7 0 (xo_ci 0 (xo_cv 4 cc_4_cut 2 (xo_ci (-1) (xo_is 2 (xo_ci 0 (xo_is 3 (J 12))))))))
def qq_7_walk (K : jw_K) (pc : Nat) (J : Nat → jw_S) : jw_S := if pc = 0 then bb_7_walk_0 K J else if pc = 12 then bb_7_walk_12 K J else fun _ _ _ _ => False
def cc_7_walk : jw_T := jw_C 4 qq_7_walk
theorem sb_7_walk_87 (l : Launch) : jo_Ok l cb_7_walk 4 "SwipedStripe$Smoothest" "walk" jw_ro { frames := 3, cells := 0, slots := 0, locals := 70 } none 0 0 bb_7_walk_87 87 := (jo_rv rfl (by decide +kernel))
theorem sb_7_walk_81 (l : Launch) : jo_Ok l cb_7_walk 4 "SwipedStripe$Smoothest" "walk" jw_ro { frames := 3, cells := 0, slots := 0, locals := 70 } none 0 0 bb_7_walk_81 81 := (jo_ic (n0 := 1) (by decide +kernel) (by decide) (by decide) (jo_goto (off := -72) (tgt := 12) (by decide +kernel) (by decide) (jo_J)))
theorem sb_7_walk_55 (l : Launch) : jo_Ok l cb_7_walk 4 "SwipedStripe$Smoothest" "walk" jw_ro { frames := 3, cells := 0, slots := 0, locals := 70 } none 0 0 bb_7_walk_55 55 := (jo_aln (i := 0) (j := 0) (by decide +kernel) rfl (jo_gf (j := 0) jw_F7 (by decide) kw_196 (by decide +kernel) (jo_ici (n := 1) (by decide +kernel) (by decide) (jo_cv (n := 1) (ss_4_push l) kw_305 kw_3 kw_828 kw_303 jw_F4 kw_304 ⟨by decide, by decide, by decide +kernel⟩ ⟨by decide, by decide⟩ (fun _ _ h => h) ⟨rfl, rfl⟩ (by decide +kernel) (jo_pop (by decide +kernel) (jo_aln (i := 1) (j := 1) (by decide +kernel) rfl (jo_iln (i := 3) (j := 3) (by decide +kernel) rfl (jo_cv (n := 1) (ss_4_at l) kw_330 kw_3 kw_801 kw_328 jw_F4 kw_329 ⟨by decide, by decide, by decide +kernel⟩ ⟨by decide, by decide⟩ (fun _ _ h => h) ⟨rfl, rfl⟩ (by decide +kernel) (jo_aln (i := 1) (j := 1) (by decide +kernel) rfl (jo_iln (i := 3) (j := 3) (by decide +kernel) rfl (jo_ici (n := 1) (by decide +kernel) (by decide) (jo_iadd (by decide +kernel) (jo_cv (n := 1) (ss_4_at l) kw_330 kw_3 kw_801 kw_328 jw_F4 kw_329 ⟨by decide, by decide, by decide +kernel⟩ ⟨by decide, by decide⟩ (fun _ _ h => h) ⟨rfl, rfl⟩ (by decide +kernel) (jo_iadd (by decide +kernel) (jo_isn (i := 2) (j := 2) (by decide +kernel) rfl (by decide) (jo_ic (n0 := 1) (by decide +kernel) (by decide) (by decide) (sb_7_walk_81 l)))))))))))))))))
theorem sb_7_walk_12 (l : Launch) : jo_Ok l cb_7_walk 4 "SwipedStripe$Smoothest" "walk" jw_ro { frames := 3, cells := 0, slots := 0, locals := 70 } none 0 0 bb_7_walk_12 12 := (jo_iln (i := 3) (j := 3) (by decide +kernel) rfl (jo_aln (i := 1) (j := 1) (by decide +kernel) rfl (jo_cv (n := 0) (ss_4_size l) kw_301 kw_3 kw_795 kw_299 jw_F4 kw_300 ⟨by decide, by decide, by decide +kernel⟩ ⟨by decide, by decide⟩ (fun _ _ h => h) ⟨rfl, rfl⟩ (by decide +kernel) (jo_cge (off := 70) (tgt := 87) (by decide +kernel) (by decide) (sb_7_walk_87 l) (jo_aln (i := 0) (j := 0) (by decide +kernel) rfl (jo_aln (i := 1) (j := 1) (by decide +kernel) rfl (jo_iln (i := 3) (j := 3) (by decide +kernel) rfl (jo_iln (i := 2) (j := 2) (by decide +kernel) rfl (jo_cv (n := 3) (ss_7_withZero l) kw_809 kw_9 kw_806 kw_808 jw_F7 kp_24 ⟨by decide, by decide, by decide +kernel⟩ ⟨by decide, by decide⟩ (fun _ _ h => h) ⟨rfl, rfl⟩ (by decide +kernel) (jo_aln (i := 0) (j := 0) (by decide +kernel) rfl (jo_aln (i := 1) (j := 1) (by decide +kernel) rfl (jo_iln (i := 3) (j := 3) (by decide +kernel) rfl (jo_iln (i := 2) (j := 2) (by decide +kernel) rfl (jo_cv (n := 3) (ss_7_withOne l) kw_817 kw_9 kw_814 kw_816 jw_F7 kp_25 ⟨by decide, by decide, by decide +kernel⟩ ⟨by decide, by decide⟩ (fun _ _ h => h) ⟨rfl, rfl⟩ (by decide +kernel) (jo_cgt (off := 21) (tgt := 55) (by decide +kernel) (by decide) (sb_7_walk_55 l) (jo_aln (i := 0) (j := 0) (by decide +kernel) rfl (jo_gf (j := 0) jw_F7 (by decide) kw_196 (by decide +kernel) (jo_ici (n := 0) (by decide +kernel) (by decide) (jo_cv (n := 1) (ss_4_push l) kw_305 kw_3 kw_828 kw_303 jw_F4 kw_304 ⟨by decide, by decide, by decide +kernel⟩ ⟨by decide, by decide⟩ (fun _ _ h => h) ⟨rfl, rfl⟩ (by decide +kernel) (jo_pop (by decide +kernel) (jo_aln (i := 1) (j := 1) (by decide +kernel) rfl (jo_iln (i := 3) (j := 3) (by decide +kernel) rfl (jo_cv (n := 1) (ss_4_at l) kw_330 kw_3 kw_801 kw_328 jw_F4 kw_329 ⟨by decide, by decide, by decide +kernel⟩ ⟨by decide, by decide⟩ (fun _ _ h => h) ⟨rfl, rfl⟩ (by decide +kernel) (jo_isn (i := 2) (j := 2) (by decide +kernel) rfl (by decide) (jo_goto (off := 29) (tgt := 81) (by decide +kernel) (by decide) (sb_7_walk_81 l))))))))))))))))))))))))))
theorem sb_7_walk_0 (l : Launch) : jo_Ok l cb_7_walk 4 "SwipedStripe$Smoothest" "walk" jw_ro { frames := 3, cells := 0, slots := 0, locals := 70 } none 0 0 bb_7_walk_0 0 := (jo_aln (i := 0) (j := 0) (by decide +kernel) rfl (jo_gf (j := 0) jw_F7 (by decide) kw_196 (by decide +kernel) (jo_ici (n := 0) (by decide +kernel) (by decide) (jo_cv (n := 1) (ss_4_cut l) kw_313 kw_3 kw_827 kw_311 jw_F4 kw_312 ⟨by decide, by decide, by decide +kernel⟩ ⟨by decide, by decide⟩ (fun _ _ h => h) ⟨rfl, rfl⟩ (by decide +kernel) (jo_ici (n := -1) (by decide +kernel) (by decide) (jo_isn (i := 2) (j := 2) (by decide +kernel) rfl (by decide) (jo_ici (n := 0) (by decide +kernel) (by decide) (jo_isn (i := 3) (j := 3) (by decide +kernel) rfl (by decide) jo_J))))))))
theorem ss_7_walk (l : Launch) : jw_Met l yy_7_walk cb_7_walk 4 none { frames := 3, cells := 0, slots := 0, locals := 70 } cc_7_walk := by
  refine jw_met (by decide) (fun pc => ?_)
  intro p e s m args below meth c Q D aC ad base K X RT ls st h z hf
  unfold qq_7_walk at hf
  by_cases h0 : pc = 0
  · subst h0; simp only [if_true, if_false, reduceIte, ↓reduceIte] at hf; exact sb_7_walk_0 l p e s m args below meth c Q D aC ad base K X RT ls st h z hf
  rw [if_neg h0] at hf
  by_cases h12 : pc = 12
  · subst h12; simp only [if_true, if_false, reduceIte, ↓reduceIte] at hf; exact sb_7_walk_12 l p e s m args below meth c Q D aC ad base K X RT ls st h z hf
  rw [if_neg h12] at hf
  exact hf.elim
abbrev cb_7_part : ByteArray := prog_9_method_4_code
abbrev yy_7_part : MethodName := ⟨"SwipedStripe$Smoothest", "part", "(LSwipedStripe$Row;)V"⟩
def bb_7_part_112 (K : jw_K) (J : Nat → jw_S) : jw_S := xo_pfi 7 3 (xo_al 0 (xo_al 1 (xo_cv 7 cc_7_walk 2 (xo_rv 0 0 K))))
def bb_7_part_105 (K : jw_K) (J : Nat → jw_S) : jw_S := xo_al 0 (xo_al 1 (xo_ci 0 (xo_ci (-1) (xo_cv 7 cc_7_least 4 (bb_7_part_112 K J)))))
def bb_7_part_93 (K : jw_K) (J : Nat → jw_S) : jw_S := xo_al 0 (xo_al 1 (xo_cv 4 cc_4_isEmpty 1 (xo_zeq (bb_7_part_105 K J) (xo_ci 0 (bb_7_part_112 K J)))))
def bb_7_part_69 (K : jw_K) (J : Nat → jw_S) : jw_S := xo_isub (xo_cv 4 cc_4_at 2 (xo_al 1 (xo_il 2 (xo_ci 2 (xo_isub (xo_cv 4 cc_4_at 2 (xo_iadd (xo_cv 7 cc_7_least 4 (xo_cv 4 cc_4_put 3 (xo_ic 2 (-1) (J 33)))))))))))
def bb_7_part_33 (K : jw_K) (J : Nat → jw_S) : jw_S := xo_il 2 (xo_zle (bb_7_part_93 K J) (xo_al 0 (xo_gf 7 1 (xo_il 2 (xo_al 0 (xo_al 1 (xo_il 2 (xo_al 1 (xo_il 2 (xo_ci 1 (xo_isub (xo_cv 4 cc_4_at 2 (xo_cv 7 cc_7_least 4 (xo_cv 4 cc_4_put 3 (xo_al 0 (xo_gf 7 2 (xo_il 2 (xo_al 0 (xo_al 1 (xo_il 2 (xo_al 1 (xo_il 2 (xo_ci 1 (bb_7_part_69 K J))))))))))))))))))))))))
def bb_7_part_0 (K : jw_K) (J : Nat → jw_S) : jw_S := xo_al 0 (xo_gf 7 1 (xo_al 1 (xo_cv 4 cc_4_size 1 (xo_ci 1 (xo_iadd (xo_cv 4 cc_4_zeros 2 (xo_al 0 (xo_gf 7 2 (xo_al 1 (xo_cv 4 cc_4_size 1 (xo_ci 1 (xo_iadd (xo_cv 4 cc_4_zeros 2 (xo_al 1 (xo_cv 4 cc_4_size 1 (xo_ci 1 (xo_isub (xo_is 2 (J 33)))))))))))))))))))
def qq_7_part (K : jw_K) (pc : Nat) (J : Nat → jw_S) : jw_S := if pc = 0 then bb_7_part_0 K J else if pc = 33 then bb_7_part_33 K J else fun _ _ _ _ => False
def cc_7_part : jw_T := jw_C 3 qq_7_part
theorem sb_7_part_112 (l : Launch) : jo_Ok l cb_7_part 3 "SwipedStripe$Smoothest" "part" jw_ro { frames := 4, cells := 0, slots := 0, locals := 93 } none 0 0 bb_7_part_112 112 := (jo_pfi (j := 3) jw_F7 (by decide) kw_199 rfl rfl (by decide +kernel) (jo_aln (i := 0) (j := 0) (by decide +kernel) rfl (jo_aln (i := 1) (j := 1) (by decide +kernel) rfl (jo_cv (n := 1) (ss_7_walk l) kw_826 kw_9 kw_823 kw_825 jw_F7 kp_26 ⟨by decide, by decide, by decide +kernel⟩ ⟨by decide, by decide⟩ (fun _ _ h => h) ⟨rfl, rfl⟩ (by decide +kernel) (jo_rv rfl (by decide +kernel))))))
theorem sb_7_part_105 (l : Launch) : jo_Ok l cb_7_part 3 "SwipedStripe$Smoothest" "part" jw_ro { frames := 4, cells := 0, slots := 0, locals := 93 } none 0 0 bb_7_part_105 105 := (jo_aln (i := 0) (j := 0) (by decide +kernel) rfl (jo_aln (i := 1) (j := 1) (by decide +kernel) rfl (jo_ici (n := 0) (by decide +kernel) (by decide) (jo_ici (n := -1) (by decide +kernel) (by decide) (jo_cv (n := 3) (ss_7_least l) kw_805 kw_9 kw_802 kw_804 jw_F7 kp_23 ⟨by decide, by decide, by decide +kernel⟩ ⟨by decide, by decide⟩ (fun _ _ h => h) ⟨rfl, rfl⟩ (by decide +kernel) (sb_7_part_112 l))))))
theorem sb_7_part_93 (l : Launch) : jo_Ok l cb_7_part 3 "SwipedStripe$Smoothest" "part" jw_ro { frames := 4, cells := 0, slots := 0, locals := 93 } none 0 0 bb_7_part_93 93 := (jo_aln (i := 0) (j := 0) (by decide +kernel) rfl (jo_aln (i := 1) (j := 1) (by decide +kernel) rfl (jo_cv (n := 0) (ss_4_isEmpty l) kw_633 kw_3 kw_822 kw_631 jw_F4 kw_632 ⟨by decide, by decide, by decide +kernel⟩ ⟨by decide, by decide⟩ (fun _ _ h => h) ⟨rfl, rfl⟩ (by decide +kernel) (jo_zeq (off := 7) (tgt := 105) (by decide +kernel) (by decide) (sb_7_part_105 l) (jo_ici (n := 0) (by decide +kernel) (by decide) (jo_goto (off := 10) (tgt := 112) (by decide +kernel) (by decide) (sb_7_part_112 l)))))))
theorem sb_7_part_69 (l : Launch) : jo_Ok l cb_7_part 3 "SwipedStripe$Smoothest" "part" jw_ro { frames := 4, cells := 0, slots := 0, locals := 93 } none 0 0 bb_7_part_69 69 := (jo_isub (by decide +kernel) (jo_cv (n := 1) (ss_4_at l) kw_330 kw_3 kw_801 kw_328 jw_F4 kw_329 ⟨by decide, by decide, by decide +kernel⟩ ⟨by decide, by decide⟩ (fun _ _ h => h) ⟨rfl, rfl⟩ (by decide +kernel) (jo_aln (i := 1) (j := 1) (by decide +kernel) rfl (jo_iln (i := 2) (j := 2) (by decide +kernel) rfl (jo_ici (n := 2) (by decide +kernel) (by decide) (jo_isub (by decide +kernel) (jo_cv (n := 1) (ss_4_at l) kw_330 kw_3 kw_801 kw_328 jw_F4 kw_329 ⟨by decide, by decide, by decide +kernel⟩ ⟨by decide, by decide⟩ (fun _ _ h => h) ⟨rfl, rfl⟩ (by decide +kernel) (jo_iadd (by decide +kernel) (jo_cv (n := 3) (ss_7_least l) kw_805 kw_9 kw_802 kw_804 jw_F7 kp_23 ⟨by decide, by decide, by decide +kernel⟩ ⟨by decide, by decide⟩ (fun _ _ h => h) ⟨rfl, rfl⟩ (by decide +kernel) (jo_cv (n := 2) (ss_4_put l) kw_596 kw_3 kw_821 kw_594 jw_F4 kw_595 ⟨by decide, by decide, by decide +kernel⟩ ⟨by decide, by decide⟩ (fun _ _ h => h) ⟨rfl, rfl⟩ (by decide +kernel) (jo_ic (n0 := -1) (by decide +kernel) (by decide) (by decide) (jo_goto (off := -57) (tgt := 33) (by decide +kernel) (by decide) (jo_J)))))))))))))
theorem sb_7_part_33 (l : Launch) : jo_Ok l cb_7_part 3 "SwipedStripe$Smoothest" "part" jw_ro { frames := 4, cells := 0, slots := 0, locals := 93 } none 0 0 bb_7_part_33 33 := (jo_iln (i := 2) (j := 2) (by decide +kernel) rfl (jo_zle (off := 59) (tgt := 93) (by decide +kernel) (by decide) (sb_7_part_93 l) (jo_aln (i := 0) (j := 0) (by decide +kernel) rfl (jo_gf (j := 1) jw_F7 (by decide) kw_197 (by decide +kernel) (jo_iln (i := 2) (j := 2) (by decide +kernel) rfl (jo_aln (i := 0) (j := 0) (by decide +kernel) rfl (jo_aln (i := 1) (j := 1) (by decide +kernel) rfl (jo_iln (i := 2) (j := 2) (by decide +kernel) rfl (jo_aln (i := 1) (j := 1) (by decide +kernel) rfl (jo_iln (i := 2) (j := 2) (by decide +kernel) rfl (jo_ici (n := 1) (by decide +kernel) (by decide) (jo_isub (by decide +kernel) (jo_cv (n := 1) (ss_4_at l) kw_330 kw_3 kw_801 kw_328 jw_F4 kw_329 ⟨by decide, by decide, by decide +kernel⟩ ⟨by decide, by decide⟩ (fun _ _ h => h) ⟨rfl, rfl⟩ (by decide +kernel) (jo_cv (n := 3) (ss_7_least l) kw_805 kw_9 kw_802 kw_804 jw_F7 kp_23 ⟨by decide, by decide, by decide +kernel⟩ ⟨by decide, by decide⟩ (fun _ _ h => h) ⟨rfl, rfl⟩ (by decide +kernel) (jo_cv (n := 2) (ss_4_put l) kw_596 kw_3 kw_821 kw_594 jw_F4 kw_595 ⟨by decide, by decide, by decide +kernel⟩ ⟨by decide, by decide⟩ (fun _ _ h => h) ⟨rfl, rfl⟩ (by decide +kernel) (jo_aln (i := 0) (j := 0) (by decide +kernel) rfl (jo_gf (j := 2) jw_F7 (by decide) kw_198 (by decide +kernel) (jo_iln (i := 2) (j := 2) (by decide +kernel) rfl (jo_aln (i := 0) (j := 0) (by decide +kernel) rfl (jo_aln (i := 1) (j := 1) (by decide +kernel) rfl (jo_iln (i := 2) (j := 2) (by decide +kernel) rfl (jo_aln (i := 1) (j := 1) (by decide +kernel) rfl (jo_iln (i := 2) (j := 2) (by decide +kernel) rfl (jo_ici (n := 1) (by decide +kernel) (by decide) (sb_7_part_69 l)))))))))))))))))))))))))
theorem sb_7_part_0 (l : Launch) : jo_Ok l cb_7_part 3 "SwipedStripe$Smoothest" "part" jw_ro { frames := 4, cells := 0, slots := 0, locals := 93 } none 0 0 bb_7_part_0 0 := (jo_aln (i := 0) (j := 0) (by decide +kernel) rfl (jo_gf (j := 1) jw_F7 (by decide) kw_197 (by decide +kernel) (jo_aln (i := 1) (j := 1) (by decide +kernel) rfl (jo_cv (n := 0) (ss_4_size l) kw_301 kw_3 kw_795 kw_299 jw_F4 kw_300 ⟨by decide, by decide, by decide +kernel⟩ ⟨by decide, by decide⟩ (fun _ _ h => h) ⟨rfl, rfl⟩ (by decide +kernel) (jo_ici (n := 1) (by decide +kernel) (by decide) (jo_iadd (by decide +kernel) (jo_cv (n := 1) (ss_4_zeros l) kw_799 kw_3 kw_796 kw_797 jw_F4 kw_798 ⟨by decide, by decide, by decide +kernel⟩ ⟨by decide, by decide⟩ (fun _ _ h => h) ⟨rfl, rfl⟩ (by decide +kernel) (jo_aln (i := 0) (j := 0) (by decide +kernel) rfl (jo_gf (j := 2) jw_F7 (by decide) kw_198 (by decide +kernel) (jo_aln (i := 1) (j := 1) (by decide +kernel) rfl (jo_cv (n := 0) (ss_4_size l) kw_301 kw_3 kw_795 kw_299 jw_F4 kw_300 ⟨by decide, by decide, by decide +kernel⟩ ⟨by decide, by decide⟩ (fun _ _ h => h) ⟨rfl, rfl⟩ (by decide +kernel) (jo_ici (n := 1) (by decide +kernel) (by decide) (jo_iadd (by decide +kernel) (jo_cv (n := 1) (ss_4_zeros l) kw_799 kw_3 kw_796 kw_797 jw_F4 kw_798 ⟨by decide, by decide, by decide +kernel⟩ ⟨by decide, by decide⟩ (fun _ _ h => h) ⟨rfl, rfl⟩ (by decide +kernel) (jo_aln (i := 1) (j := 1) (by decide +kernel) rfl (jo_cv (n := 0) (ss_4_size l) kw_301 kw_3 kw_795 kw_299 jw_F4 kw_300 ⟨by decide, by decide, by decide +kernel⟩ ⟨by decide, by decide⟩ (fun _ _ h => h) ⟨rfl, rfl⟩ (by decide +kernel) (jo_ici (n := 1) (by decide +kernel) (by decide) (jo_isub (by decide +kernel) (jo_isn (i := 2) (j := 2) (by decide +kernel) rfl (by decide) jo_J)))))))))))))))))))
theorem ss_7_part (l : Launch) : jw_Met l yy_7_part cb_7_part 3 none { frames := 4, cells := 0, slots := 0, locals := 93 } cc_7_part := by
  refine jw_met (by decide) (fun pc => ?_)
  intro p e s m args below meth c Q D aC ad base K X RT ls st h z hf
  unfold qq_7_part at hf
  by_cases h0 : pc = 0
  · subst h0; simp only [if_true, if_false, reduceIte, ↓reduceIte] at hf; exact sb_7_part_0 l p e s m args below meth c Q D aC ad base K X RT ls st h z hf
  rw [if_neg h0] at hf
  by_cases h33 : pc = 33
  · subst h33; simp only [if_true, if_false, reduceIte, ↓reduceIte] at hf; exact sb_7_part_33 l p e s m args below meth c Q D aC ad base K X RT ls st h z hf
  rw [if_neg h33] at hf
  exact hf.elim
abbrev cb_7_roughness : ByteArray := prog_9_method_3_code
abbrev yy_7_roughness : MethodName := ⟨"SwipedStripe$Smoothest", "roughness", "()I"⟩
def bb_7_roughness_0 (K : jw_K) (J : Nat → jw_S) : jw_S := xo_al 0 (xo_gf 7 3 (xo_ri 0 0 K))
def qq_7_roughness (K : jw_K) (pc : Nat) (J : Nat → jw_S) : jw_S := if pc = 0 then bb_7_roughness_0 K J else fun _ _ _ _ => False
def cc_7_roughness : jw_T := jw_C 1 qq_7_roughness
theorem sb_7_roughness_0 (l : Launch) : jo_Ok l cb_7_roughness 1 "SwipedStripe$Smoothest" "roughness" jw_ro { frames := 0, cells := 0, slots := 0, locals := 0 } (some .int) 0 0 bb_7_roughness_0 0 := (jo_aln (i := 0) (j := 0) (by decide +kernel) rfl (jo_gf (j := 3) jw_F7 (by decide) kw_199 (by decide +kernel) (jo_ri rfl (by decide +kernel))))
theorem ss_7_roughness (l : Launch) : jw_Met l yy_7_roughness cb_7_roughness 1 (some .int) { frames := 0, cells := 0, slots := 0, locals := 0 } cc_7_roughness := by
  refine jw_met (by decide) (fun pc => ?_)
  intro p e s m args below meth c Q D aC ad base K X RT ls st h z hf
  unfold qq_7_roughness at hf
  by_cases h0 : pc = 0
  · subst h0; simp only [if_true, if_false, reduceIte, ↓reduceIte] at hf; exact sb_7_roughness_0 l p e s m args below meth c Q D aC ad base K X RT ls st h z hf
  rw [if_neg h0] at hf
  exact hf.elim
abbrev cb_10_smooth : ByteArray := prog_1_method_24_code
abbrev yy_10_smooth : MethodName := ⟨"SwipedStripe", "smooth", "(I)I"⟩
def bb_10_smooth_75 (K : jw_K) (J : Nat → jw_S) : jw_S := xo_ri 0 0 K
def bb_10_smooth_65 (K : jw_K) (J : Nat → jw_S) : jw_S := xo_al 0 (xo_gf 10 8 (xo_cv 7 cc_7_bits 1 (xo_cv 4 cc_4_sum 1 (bb_10_smooth_75 K J))))
def bb_10_smooth_47 (K : jw_K) (J : Nat → jw_S) : jw_S := xo_il 1 (xo_ci 1 (xo_cne (bb_10_smooth_65 K J) (xo_al 0 (xo_gf 10 8 (xo_cv 7 cc_7_bits 1 (xo_cv 4 cc_4_size 1 (bb_10_smooth_75 K J)))))))
def bb_10_smooth_24 (K : jw_K) (J : Nat → jw_S) : jw_S := xo_al 0 (xo_gf 10 8 (xo_al 0 (xo_gf 10 5 (xo_cv 7 cc_7_part 2 (xo_il 1 (xo_zne (bb_10_smooth_47 K J) (xo_al 0 (xo_gf 10 8 (xo_cv 7 cc_7_roughness 1 (xo_ri 0 0 K))))))))))
def bb_10_smooth_11 (K : jw_K) (J : Nat → jw_S) : jw_S := xo_al 0 (xo_gf 10 5 (xo_cv 4 cc_4_isEmpty 1 (xo_zeq (bb_10_smooth_24 K J) (xo_ci (-2) (xo_ri 0 0 K)))))
def bb_10_smooth_9 (K : jw_K) (J : Nat → jw_S) : jw_S := xo_ci (-1) (xo_ri 0 0 K)
def bb_10_smooth_0 (K : jw_K) (J : Nat → jw_S) : jw_S := xo_il 1 (xo_zlt (bb_10_smooth_9 K J) (xo_il 1 (xo_ci 2 (xo_cle (bb_10_smooth_11 K J) (bb_10_smooth_9 K J)))))
def qq_10_smooth (K : jw_K) (pc : Nat) (J : Nat → jw_S) : jw_S := if pc = 0 then bb_10_smooth_0 K J else fun _ _ _ _ => False
def cc_10_smooth : jw_T := jw_C 2 qq_10_smooth
theorem sb_10_smooth_75 (l : Launch) : jo_Ok l cb_10_smooth 2 "SwipedStripe" "smooth" jw_ro { frames := 5, cells := 0, slots := 0, locals := 115 } (some .int) 0 0 bb_10_smooth_75 75 := (jo_ri rfl (by decide +kernel))
theorem sb_10_smooth_65 (l : Launch) : jo_Ok l cb_10_smooth 2 "SwipedStripe" "smooth" jw_ro { frames := 5, cells := 0, slots := 0, locals := 115 } (some .int) 0 0 bb_10_smooth_65 65 := (jo_aln (i := 0) (j := 0) (by decide +kernel) rfl (jo_gf (j := 8) jw_F10 (by decide) kw_262 (by decide +kernel) (jo_cv (n := 0) (ss_7_bits l) kw_836 kw_9 kw_833 kw_834 jw_F7 kw_835 ⟨by decide, by decide, by decide +kernel⟩ ⟨by decide, by decide⟩ (fun _ _ h => h) ⟨rfl, rfl⟩ (by decide +kernel) (jo_cv (n := 0) (ss_4_sum l) kw_556 kw_3 kw_553 kw_554 jw_F4 kw_555 ⟨by decide, by decide, by decide +kernel⟩ ⟨by decide, by decide⟩ (fun _ _ h => h) ⟨rfl, rfl⟩ (by decide +kernel) (sb_10_smooth_75 l)))))
theorem sb_10_smooth_47 (l : Launch) : jo_Ok l cb_10_smooth 2 "SwipedStripe" "smooth" jw_ro { frames := 5, cells := 0, slots := 0, locals := 115 } (some .int) 0 0 bb_10_smooth_47 47 := (jo_iln (i := 1) (j := 1) (by decide +kernel) rfl (jo_ici (n := 1) (by decide +kernel) (by decide) (jo_cne (off := 16) (tgt := 65) (by decide +kernel) (by decide) (sb_10_smooth_65 l) (jo_aln (i := 0) (j := 0) (by decide +kernel) rfl (jo_gf (j := 8) jw_F10 (by decide) kw_262 (by decide +kernel) (jo_cv (n := 0) (ss_7_bits l) kw_836 kw_9 kw_833 kw_834 jw_F7 kw_835 ⟨by decide, by decide, by decide +kernel⟩ ⟨by decide, by decide⟩ (fun _ _ h => h) ⟨rfl, rfl⟩ (by decide +kernel) (jo_cv (n := 0) (ss_4_size l) kw_301 kw_3 kw_298 kw_299 jw_F4 kw_300 ⟨by decide, by decide, by decide +kernel⟩ ⟨by decide, by decide⟩ (fun _ _ h => h) ⟨rfl, rfl⟩ (by decide +kernel) (jo_goto (off := 13) (tgt := 75) (by decide +kernel) (by decide) (sb_10_smooth_75 l)))))))))
theorem sb_10_smooth_24 (l : Launch) : jo_Ok l cb_10_smooth 2 "SwipedStripe" "smooth" jw_ro { frames := 5, cells := 0, slots := 0, locals := 115 } (some .int) 0 0 bb_10_smooth_24 24 := (jo_aln (i := 0) (j := 0) (by decide +kernel) rfl (jo_gf (j := 8) jw_F10 (by decide) kw_262 (by decide +kernel) (jo_aln (i := 0) (j := 0) (by decide +kernel) rfl (jo_gf (j := 5) jw_F10 (by decide) kw_259 (by decide +kernel) (jo_cv (n := 1) (ss_7_part l) kw_794 kw_9 kw_791 kw_792 jw_F7 kw_793 ⟨by decide, by decide, by decide +kernel⟩ ⟨by decide, by decide⟩ (fun _ _ h => h) ⟨rfl, rfl⟩ (by decide +kernel) (jo_iln (i := 1) (j := 1) (by decide +kernel) rfl (jo_zne (off := 11) (tgt := 47) (by decide +kernel) (by decide) (sb_10_smooth_47 l) (jo_aln (i := 0) (j := 0) (by decide +kernel) rfl (jo_gf (j := 8) jw_F10 (by decide) kw_262 (by decide +kernel) (jo_cv (n := 0) (ss_7_roughness l) kw_832 kw_9 kw_829 kw_830 jw_F7 kw_831 ⟨by decide, by decide, by decide +kernel⟩ ⟨by decide, by decide⟩ (fun _ _ h => h) ⟨rfl, rfl⟩ (by decide +kernel) (jo_ri rfl (by decide +kernel))))))))))))
theorem sb_10_smooth_11 (l : Launch) : jo_Ok l cb_10_smooth 2 "SwipedStripe" "smooth" jw_ro { frames := 5, cells := 0, slots := 0, locals := 115 } (some .int) 0 0 bb_10_smooth_11 11 := (jo_aln (i := 0) (j := 0) (by decide +kernel) rfl (jo_gf (j := 5) jw_F10 (by decide) kw_259 (by decide +kernel) (jo_cv (n := 0) (ss_4_isEmpty l) kw_633 kw_3 kw_630 kw_631 jw_F4 kw_632 ⟨by decide, by decide, by decide +kernel⟩ ⟨by decide, by decide⟩ (fun _ _ h => h) ⟨rfl, rfl⟩ (by decide +kernel) (jo_zeq (off := 6) (tgt := 24) (by decide +kernel) (by decide) (sb_10_smooth_24 l) (jo_bpi (n := -2) (by decide +kernel) (by decide) (jo_ri rfl (by decide +kernel)))))))
theorem sb_10_smooth_9 (l : Launch) : jo_Ok l cb_10_smooth 2 "SwipedStripe" "smooth" jw_ro { frames := 5, cells := 0, slots := 0, locals := 115 } (some .int) 0 0 bb_10_smooth_9 9 := (jo_ici (n := -1) (by decide +kernel) (by decide) (jo_ri rfl (by decide +kernel)))
theorem sb_10_smooth_0 (l : Launch) : jo_Ok l cb_10_smooth 2 "SwipedStripe" "smooth" jw_ro { frames := 5, cells := 0, slots := 0, locals := 115 } (some .int) 0 0 bb_10_smooth_0 0 := (jo_iln (i := 1) (j := 1) (by decide +kernel) rfl (jo_zlt (off := 8) (tgt := 9) (by decide +kernel) (by decide) (sb_10_smooth_9 l) (jo_iln (i := 1) (j := 1) (by decide +kernel) rfl (jo_ici (n := 2) (by decide +kernel) (by decide) (jo_cle (off := 5) (tgt := 11) (by decide +kernel) (by decide) (sb_10_smooth_11 l) (sb_10_smooth_9 l))))))
theorem ss_10_smooth (l : Launch) : jw_Met l yy_10_smooth cb_10_smooth 2 (some .int) { frames := 5, cells := 0, slots := 0, locals := 115 } cc_10_smooth := by
  refine jw_met (by decide) (fun pc => ?_)
  intro p e s m args below meth c Q D aC ad base K X RT ls st h z hf
  unfold qq_10_smooth at hf
  by_cases h0 : pc = 0
  · subst h0; simp only [if_true, if_false, reduceIte, ↓reduceIte] at hf; exact sb_10_smooth_0 l p e s m args below meth c Q D aC ad base K X RT ls st h z hf
  rw [if_neg h0] at hf
  exact hf.elim
abbrev cb_10_smoothBit : ByteArray := prog_1_method_25_code
abbrev yy_10_smoothBit : MethodName := ⟨"SwipedStripe", "smoothBit", "(I)I"⟩
def bb_10_smoothBit_40 (K : jw_K) (J : Nat → jw_S) : jw_S := xo_ri 0 0 K
def bb_10_smoothBit_39 (K : jw_K) (J : Nat → jw_S) : jw_S := xo_ci (-1) (bb_10_smoothBit_40 K J)
def bb_10_smoothBit_0 (K : jw_K) (J : Nat → jw_S) : jw_S := xo_al 0 (xo_gf 10 8 (xo_al 0 (xo_gf 10 5 (xo_cv 7 cc_7_part 2 (xo_al 0 (xo_gf 10 8 (xo_cv 7 cc_7_bits 1 (xo_il 1 (xo_cv 4 cc_4_has 2 (xo_zeq (bb_10_smoothBit_39 K J) (xo_al 0 (xo_gf 10 8 (xo_cv 7 cc_7_bits 1 (xo_il 1 (xo_cv 4 cc_4_at 2 (bb_10_smoothBit_40 K J))))))))))))))))
def qq_10_smoothBit (K : jw_K) (pc : Nat) (J : Nat → jw_S) : jw_S := if pc = 0 then bb_10_smoothBit_0 K J else fun _ _ _ _ => False
def cc_10_smoothBit : jw_T := jw_C 2 qq_10_smoothBit
theorem sb_10_smoothBit_40 (l : Launch) : jo_Ok l cb_10_smoothBit 2 "SwipedStripe" "smoothBit" jw_ro { frames := 5, cells := 0, slots := 0, locals := 115 } (some .int) 0 0 bb_10_smoothBit_40 40 := (jo_ri rfl (by decide +kernel))
theorem sb_10_smoothBit_39 (l : Launch) : jo_Ok l cb_10_smoothBit 2 "SwipedStripe" "smoothBit" jw_ro { frames := 5, cells := 0, slots := 0, locals := 115 } (some .int) 0 0 bb_10_smoothBit_39 39 := (jo_ici (n := -1) (by decide +kernel) (by decide) (sb_10_smoothBit_40 l))
theorem sb_10_smoothBit_0 (l : Launch) : jo_Ok l cb_10_smoothBit 2 "SwipedStripe" "smoothBit" jw_ro { frames := 5, cells := 0, slots := 0, locals := 115 } (some .int) 0 0 bb_10_smoothBit_0 0 := (jo_aln (i := 0) (j := 0) (by decide +kernel) rfl (jo_gf (j := 8) jw_F10 (by decide) kw_262 (by decide +kernel) (jo_aln (i := 0) (j := 0) (by decide +kernel) rfl (jo_gf (j := 5) jw_F10 (by decide) kw_259 (by decide +kernel) (jo_cv (n := 1) (ss_7_part l) kw_794 kw_9 kw_791 kw_792 jw_F7 kw_793 ⟨by decide, by decide, by decide +kernel⟩ ⟨by decide, by decide⟩ (fun _ _ h => h) ⟨rfl, rfl⟩ (by decide +kernel) (jo_aln (i := 0) (j := 0) (by decide +kernel) rfl (jo_gf (j := 8) jw_F10 (by decide) kw_262 (by decide +kernel) (jo_cv (n := 0) (ss_7_bits l) kw_836 kw_9 kw_833 kw_834 jw_F7 kw_835 ⟨by decide, by decide, by decide +kernel⟩ ⟨by decide, by decide⟩ (fun _ _ h => h) ⟨rfl, rfl⟩ (by decide +kernel) (jo_iln (i := 1) (j := 1) (by decide +kernel) rfl (jo_cv (n := 1) (ss_4_has l) kw_346 kw_3 kw_512 kw_344 jw_F4 kw_345 ⟨by decide, by decide, by decide +kernel⟩ ⟨by decide, by decide⟩ (fun _ _ h => h) ⟨rfl, rfl⟩ (by decide +kernel) (jo_zeq (off := 17) (tgt := 39) (by decide +kernel) (by decide) (sb_10_smoothBit_39 l) (jo_aln (i := 0) (j := 0) (by decide +kernel) rfl (jo_gf (j := 8) jw_F10 (by decide) kw_262 (by decide +kernel) (jo_cv (n := 0) (ss_7_bits l) kw_836 kw_9 kw_833 kw_834 jw_F7 kw_835 ⟨by decide, by decide, by decide +kernel⟩ ⟨by decide, by decide⟩ (fun _ _ h => h) ⟨rfl, rfl⟩ (by decide +kernel) (jo_iln (i := 1) (j := 1) (by decide +kernel) rfl (jo_cv (n := 1) (ss_4_at l) kw_330 kw_3 kw_513 kw_328 jw_F4 kw_329 ⟨by decide, by decide, by decide +kernel⟩ ⟨by decide, by decide⟩ (fun _ _ h => h) ⟨rfl, rfl⟩ (by decide +kernel) (jo_goto (off := 4) (tgt := 40) (by decide +kernel) (by decide) (sb_10_smoothBit_40 l))))))))))))))))))
theorem ss_10_smoothBit (l : Launch) : jw_Met l yy_10_smoothBit cb_10_smoothBit 2 (some .int) { frames := 5, cells := 0, slots := 0, locals := 115 } cc_10_smoothBit := by
  refine jw_met (by decide) (fun pc => ?_)
  intro p e s m args below meth c Q D aC ad base K X RT ls st h z hf
  unfold qq_10_smoothBit at hf
  by_cases h0 : pc = 0
  · subst h0; simp only [if_true, if_false, reduceIte, ↓reduceIte] at hf; exact sb_10_smoothBit_0 l p e s m args below meth c Q D aC ad base K X RT ls st h z hf
  rw [if_neg h0] at hf
  exact hf.elim
abbrev cb_4_putIn : ByteArray := prog_6_method_8_code
abbrev yy_4_putIn : MethodName := ⟨"SwipedStripe$Row", "putIn", "(II)V"⟩
def bb_4_putIn_49 (K : jw_K) (J : Nat → jw_S) : jw_S := xo_al 0 (xo_gf 4 0 (xo_il 1 (xo_il 2 (xo_iast (xo_rv 0 0 K)))))
def bb_4_putIn_24 (K : jw_K) (J : Nat → jw_S) : jw_S := xo_il 3 (xo_il 1 (xo_cle (bb_4_putIn_49 K J) (xo_al 0 (xo_gf 4 0 (xo_il 3 (xo_al 0 (xo_gf 4 0 (xo_il 3 (xo_ci 1 (xo_isub (xo_iald jw_ro (xo_iast (xo_ic 3 (-1) (J 24))))))))))))))
def bb_4_putIn_17 (K : jw_K) (J : Nat → jw_S) : jw_S := xo_al 0 (xo_gf 4 1 (xo_ci 1 (xo_isub (xo_is 3 (J 24)))))
def bb_4_putIn_16 (K : jw_K) (J : Nat → jw_S) : jw_S := xo_rv 0 0 K
def bb_4_putIn_0 (K : jw_K) (J : Nat → jw_S) : jw_S := xo_al 0 (xo_il 1 (xo_cv 4 cc_4_has 2 (xo_zeq (bb_4_putIn_16 K J) (xo_al 0 (xo_ci 0 (xo_cv 4 cc_4_push 2 (xo_zne (bb_4_putIn_17 K J) (bb_4_putIn_16 K J))))))))
def qq_4_putIn (K : jw_K) (pc : Nat) (J : Nat → jw_S) : jw_S := if pc = 0 then bb_4_putIn_0 K J else if pc = 24 then bb_4_putIn_24 K J else fun _ _ _ _ => False
def cc_4_putIn : jw_T := jw_C 4 qq_4_putIn
theorem sb_4_putIn_49 (l : Launch) : jo_Ok l cb_4_putIn 4 "SwipedStripe$Row" "putIn" jw_ro { frames := 1, cells := 0, slots := 0, locals := 21 } none 0 0 bb_4_putIn_49 49 := (jo_aln (i := 0) (j := 0) (by decide +kernel) rfl (jo_gf (j := 0) jw_F4 (by decide) kw_56 (by decide +kernel) (jo_iln (i := 1) (j := 1) (by decide +kernel) rfl (jo_iln (i := 2) (j := 2) (by decide +kernel) rfl (jo_iast (by decide +kernel) (jo_rv rfl (by decide +kernel)))))))
theorem sb_4_putIn_24 (l : Launch) : jo_Ok l cb_4_putIn 4 "SwipedStripe$Row" "putIn" jw_ro { frames := 1, cells := 0, slots := 0, locals := 21 } none 0 0 bb_4_putIn_24 24 := (jo_iln (i := 3) (j := 3) (by decide +kernel) rfl (jo_iln (i := 1) (j := 1) (by decide +kernel) rfl (jo_cle (off := 23) (tgt := 49) (by decide +kernel) (by decide) (sb_4_putIn_49 l) (jo_aln (i := 0) (j := 0) (by decide +kernel) rfl (jo_gf (j := 0) jw_F4 (by decide) kw_56 (by decide +kernel) (jo_iln (i := 3) (j := 3) (by decide +kernel) rfl (jo_aln (i := 0) (j := 0) (by decide +kernel) rfl (jo_gf (j := 0) jw_F4 (by decide) kw_56 (by decide +kernel) (jo_iln (i := 3) (j := 3) (by decide +kernel) rfl (jo_ici (n := 1) (by decide +kernel) (by decide) (jo_isub (by decide +kernel) (jo_iald (by decide +kernel) (jo_iast (by decide +kernel) (jo_ic (n0 := -1) (by decide +kernel) (by decide) (by decide) (jo_goto (off := -22) (tgt := 24) (by decide +kernel) (by decide) (jo_J))))))))))))))))
theorem sb_4_putIn_17 (l : Launch) : jo_Ok l cb_4_putIn 4 "SwipedStripe$Row" "putIn" jw_ro { frames := 1, cells := 0, slots := 0, locals := 21 } none 0 0 bb_4_putIn_17 17 := (jo_aln (i := 0) (j := 0) (by decide +kernel) rfl (jo_gf (j := 1) jw_F4 (by decide) kw_57 (by decide +kernel) (jo_ici (n := 1) (by decide +kernel) (by decide) (jo_isub (by decide +kernel) (jo_isn (i := 3) (j := 3) (by decide +kernel) rfl (by decide) jo_J)))))
theorem sb_4_putIn_16 (l : Launch) : jo_Ok l cb_4_putIn 4 "SwipedStripe$Row" "putIn" jw_ro { frames := 1, cells := 0, slots := 0, locals := 21 } none 0 0 bb_4_putIn_16 16 := (jo_rv rfl (by decide +kernel))
theorem sb_4_putIn_0 (l : Launch) : jo_Ok l cb_4_putIn 4 "SwipedStripe$Row" "putIn" jw_ro { frames := 1, cells := 0, slots := 0, locals := 21 } none 0 0 bb_4_putIn_0 0 := (jo_aln (i := 0) (j := 0) (by decide +kernel) rfl (jo_iln (i := 1) (j := 1) (by decide +kernel) rfl (jo_cv (n := 1) (ss_4_has l) kw_346 kw_3 kw_606 kw_344 jw_F4 kw_345 ⟨by decide, by decide, by decide +kernel⟩ ⟨by decide, by decide⟩ (fun _ _ h => h) ⟨rfl, rfl⟩ (by decide +kernel) (jo_zeq (off := 11) (tgt := 16) (by decide +kernel) (by decide) (sb_4_putIn_16 l) (jo_aln (i := 0) (j := 0) (by decide +kernel) rfl (jo_ici (n := 0) (by decide +kernel) (by decide) (jo_cv (n := 1) (ss_4_push l) kw_305 kw_3 kw_331 kw_303 jw_F4 kw_304 ⟨by decide, by decide, by decide +kernel⟩ ⟨by decide, by decide⟩ (fun _ _ h => h) ⟨rfl, rfl⟩ (by decide +kernel) (jo_zne (off := 4) (tgt := 17) (by decide +kernel) (by decide) (sb_4_putIn_17 l) (sb_4_putIn_16 l)))))))))
theorem ss_4_putIn (l : Launch) : jw_Met l yy_4_putIn cb_4_putIn 4 none { frames := 1, cells := 0, slots := 0, locals := 21 } cc_4_putIn := by
  refine jw_met (by decide) (fun pc => ?_)
  intro p e s m args below meth c Q D aC ad base K X RT ls st h z hf
  unfold qq_4_putIn at hf
  by_cases h0 : pc = 0
  · subst h0; simp only [if_true, if_false, reduceIte, ↓reduceIte] at hf; exact sb_4_putIn_0 l p e s m args below meth c Q D aC ad base K X RT ls st h z hf
  rw [if_neg h0] at hf
  by_cases h24 : pc = 24
  · subst h24; simp only [if_true, if_false, reduceIte, ↓reduceIte] at hf; exact sb_4_putIn_24 l p e s m args below meth c Q D aC ad base K X RT ls st h z hf
  rw [if_neg h24] at hf
  exact hf.elim
abbrev cb_10_split : ByteArray := prog_1_method_16_code
abbrev yy_10_split : MethodName := ⟨"SwipedStripe", "split", "(II)I"⟩
def bb_10_split_46 (K : jw_K) (J : Nat → jw_S) : jw_S := xo_al 0 (xo_gf 10 5 (xo_il 1 (xo_il 2 (xo_cv 4 cc_4_putIn 3 (xo_al 0 (xo_gf 10 5 (xo_il 1 (xo_ci 1 (xo_iadd (xo_al 0 (xo_gf 10 5 (xo_il 1 (xo_ci 1 (xo_iadd (xo_cv 4 cc_4_at 2 (xo_il 2 (xo_isub (xo_cv 4 cc_4_put 3 (xo_al 0 (xo_gf 10 5 (xo_cv 4 cc_4_size 1 (xo_ri 0 0 K))))))))))))))))))))))
def bb_10_split_30 (K : jw_K) (J : Nat → jw_S) : jw_S := xo_al 0 (xo_gf 10 5 (xo_cv 4 cc_4_size 1 (xo_ci 320 (xo_clt (bb_10_split_46 K J) (xo_ci (-3) (xo_ri 0 0 K))))))
def bb_10_split_28 (K : jw_K) (J : Nat → jw_S) : jw_S := xo_ci (-1) (xo_ri 0 0 K)
def bb_10_split_0 (K : jw_K) (J : Nat → jw_S) : jw_S := xo_al 0 (xo_gf 10 5 (xo_il 1 (xo_cv 4 cc_4_has 2 (xo_zeq (bb_10_split_28 K J) (xo_il 2 (xo_ci 1 (xo_clt (bb_10_split_28 K J) (xo_il 2 (xo_al 0 (xo_gf 10 5 (xo_il 1 (xo_cv 4 cc_4_at 2 (xo_clt (bb_10_split_30 K J) (bb_10_split_28 K J))))))))))))))
def qq_10_split (K : jw_K) (pc : Nat) (J : Nat → jw_S) : jw_S := if pc = 0 then bb_10_split_0 K J else fun _ _ _ _ => False
def cc_10_split : jw_T := jw_C 3 qq_10_split
theorem sb_10_split_46 (l : Launch) : jo_Ok l cb_10_split 3 "SwipedStripe" "split" jw_ro { frames := 2, cells := 0, slots := 0, locals := 44 } (some .int) 0 0 bb_10_split_46 46 := (jo_aln (i := 0) (j := 0) (by decide +kernel) rfl (jo_gf (j := 5) jw_F10 (by decide) kw_259 (by decide +kernel) (jo_iln (i := 1) (j := 1) (by decide +kernel) rfl (jo_iln (i := 2) (j := 2) (by decide +kernel) rfl (jo_cv (n := 2) (ss_4_putIn l) kw_614 kw_3 kw_611 kw_612 jw_F4 kw_613 ⟨by decide, by decide, by decide +kernel⟩ ⟨by decide, by decide⟩ (fun _ _ h => h) ⟨rfl, rfl⟩ (by decide +kernel) (jo_aln (i := 0) (j := 0) (by decide +kernel) rfl (jo_gf (j := 5) jw_F10 (by decide) kw_259 (by decide +kernel) (jo_iln (i := 1) (j := 1) (by decide +kernel) rfl (jo_ici (n := 1) (by decide +kernel) (by decide) (jo_iadd (by decide +kernel) (jo_aln (i := 0) (j := 0) (by decide +kernel) rfl (jo_gf (j := 5) jw_F10 (by decide) kw_259 (by decide +kernel) (jo_iln (i := 1) (j := 1) (by decide +kernel) rfl (jo_ici (n := 1) (by decide +kernel) (by decide) (jo_iadd (by decide +kernel) (jo_cv (n := 1) (ss_4_at l) kw_330 kw_3 kw_513 kw_328 jw_F4 kw_329 ⟨by decide, by decide, by decide +kernel⟩ ⟨by decide, by decide⟩ (fun _ _ h => h) ⟨rfl, rfl⟩ (by decide +kernel) (jo_iln (i := 2) (j := 2) (by decide +kernel) rfl (jo_isub (by decide +kernel) (jo_cv (n := 2) (ss_4_put l) kw_596 kw_3 kw_593 kw_594 jw_F4 kw_595 ⟨by decide, by decide, by decide +kernel⟩ ⟨by decide, by decide⟩ (fun _ _ h => h) ⟨rfl, rfl⟩ (by decide +kernel) (jo_aln (i := 0) (j := 0) (by decide +kernel) rfl (jo_gf (j := 5) jw_F10 (by decide) kw_259 (by decide +kernel) (jo_cv (n := 0) (ss_4_size l) kw_301 kw_3 kw_298 kw_299 jw_F4 kw_300 ⟨by decide, by decide, by decide +kernel⟩ ⟨by decide, by decide⟩ (fun _ _ h => h) ⟨rfl, rfl⟩ (by decide +kernel) (jo_ri rfl (by decide +kernel))))))))))))))))))))))))
theorem sb_10_split_30 (l : Launch) : jo_Ok l cb_10_split 3 "SwipedStripe" "split" jw_ro { frames := 2, cells := 0, slots := 0, locals := 44 } (some .int) 0 0 bb_10_split_30 30 := (jo_aln (i := 0) (j := 0) (by decide +kernel) rfl (jo_gf (j := 5) jw_F10 (by decide) kw_259 (by decide +kernel) (jo_cv (n := 0) (ss_4_size l) kw_301 kw_3 kw_298 kw_299 jw_F4 kw_300 ⟨by decide, by decide, by decide +kernel⟩ ⟨by decide, by decide⟩ (fun _ _ h => h) ⟨rfl, rfl⟩ (by decide +kernel) (jo_spi (n := 320) (by decide +kernel) (by decide) (jo_clt (off := 6) (tgt := 46) (by decide +kernel) (by decide) (sb_10_split_46 l) (jo_bpi (n := -3) (by decide +kernel) (by decide) (jo_ri rfl (by decide +kernel))))))))
theorem sb_10_split_28 (l : Launch) : jo_Ok l cb_10_split 3 "SwipedStripe" "split" jw_ro { frames := 2, cells := 0, slots := 0, locals := 44 } (some .int) 0 0 bb_10_split_28 28 := (jo_ici (n := -1) (by decide +kernel) (by decide) (jo_ri rfl (by decide +kernel)))
theorem sb_10_split_0 (l : Launch) : jo_Ok l cb_10_split 3 "SwipedStripe" "split" jw_ro { frames := 2, cells := 0, slots := 0, locals := 44 } (some .int) 0 0 bb_10_split_0 0 := (jo_aln (i := 0) (j := 0) (by decide +kernel) rfl (jo_gf (j := 5) jw_F10 (by decide) kw_259 (by decide +kernel) (jo_iln (i := 1) (j := 1) (by decide +kernel) rfl (jo_cv (n := 1) (ss_4_has l) kw_346 kw_3 kw_512 kw_344 jw_F4 kw_345 ⟨by decide, by decide, by decide +kernel⟩ ⟨by decide, by decide⟩ (fun _ _ h => h) ⟨rfl, rfl⟩ (by decide +kernel) (jo_zeq (off := 20) (tgt := 28) (by decide +kernel) (by decide) (sb_10_split_28 l) (jo_iln (i := 2) (j := 2) (by decide +kernel) rfl (jo_ici (n := 1) (by decide +kernel) (by decide) (jo_clt (off := 15) (tgt := 28) (by decide +kernel) (by decide) (sb_10_split_28 l) (jo_iln (i := 2) (j := 2) (by decide +kernel) rfl (jo_aln (i := 0) (j := 0) (by decide +kernel) rfl (jo_gf (j := 5) jw_F10 (by decide) kw_259 (by decide +kernel) (jo_iln (i := 1) (j := 1) (by decide +kernel) rfl (jo_cv (n := 1) (ss_4_at l) kw_330 kw_3 kw_513 kw_328 jw_F4 kw_329 ⟨by decide, by decide, by decide +kernel⟩ ⟨by decide, by decide⟩ (fun _ _ h => h) ⟨rfl, rfl⟩ (by decide +kernel) (jo_clt (off := 5) (tgt := 30) (by decide +kernel) (by decide) (sb_10_split_30 l) (sb_10_split_28 l)))))))))))))))
theorem ss_10_split (l : Launch) : jw_Met l yy_10_split cb_10_split 3 (some .int) { frames := 2, cells := 0, slots := 0, locals := 44 } cc_10_split := by
  refine jw_met (by decide) (fun pc => ?_)
  intro p e s m args below meth c Q D aC ad base K X RT ls st h z hf
  unfold qq_10_split at hf
  by_cases h0 : pc = 0
  · subst h0; simp only [if_true, if_false, reduceIte, ↓reduceIte] at hf; exact sb_10_split_0 l p e s m args below meth c Q D aC ad base K X RT ls st h z hf
  rw [if_neg h0] at hf
  exact hf.elim
abbrev cb_8_checks : ByteArray := prog_10_method_3_code
abbrev yy_8_checks : MethodName := ⟨"SwipedStripe$Stripe", "checks", "()I"⟩
def bb_8_checks_0 (K : jw_K) (J : Nat → jw_S) : jw_S := xo_al 0 (xo_gf 8 1 (xo_ri 0 0 K))
def qq_8_checks (K : jw_K) (pc : Nat) (J : Nat → jw_S) : jw_S := if pc = 0 then bb_8_checks_0 K J else fun _ _ _ _ => False
def cc_8_checks : jw_T := jw_C 1 qq_8_checks
theorem sb_8_checks_0 (l : Launch) : jo_Ok l cb_8_checks 1 "SwipedStripe$Stripe" "checks" jw_ro { frames := 0, cells := 0, slots := 0, locals := 0 } (some .int) 0 0 bb_8_checks_0 0 := (jo_aln (i := 0) (j := 0) (by decide +kernel) rfl (jo_gf (j := 1) jw_F8 (by decide) kw_113 (by decide +kernel) (jo_ri rfl (by decide +kernel))))
theorem ss_8_checks (l : Launch) : jw_Met l yy_8_checks cb_8_checks 1 (some .int) { frames := 0, cells := 0, slots := 0, locals := 0 } cc_8_checks := by
  refine jw_met (by decide) (fun pc => ?_)
  intro p e s m args below meth c Q D aC ad base K X RT ls st h z hf
  unfold qq_8_checks at hf
  by_cases h0 : pc = 0
  · subst h0; simp only [if_true, if_false, reduceIte, ↓reduceIte] at hf; exact sb_8_checks_0 l p e s m args below meth c Q D aC ad base K X RT ls st h z hf
  rw [if_neg h0] at hf
  exact hf.elim
abbrev cb_10_stripe : ByteArray := prog_1_method_10_code
abbrev yy_10_stripe : MethodName := ⟨"SwipedStripe", "stripe", "(I)I"⟩
def bb_10_stripe_66 (K : jw_K) (J : Nat → jw_S) : jw_S := xo_ri 0 0 K
def bb_10_stripe_59 (K : jw_K) (J : Nat → jw_S) : jw_S := xo_al 0 (xo_gf 10 4 (xo_cv 8 cc_8_checks 1 (bb_10_stripe_66 K J)))
def bb_10_stripe_41 (K : jw_K) (J : Nat → jw_S) : jw_S := xo_il 1 (xo_ci 1 (xo_cne (bb_10_stripe_59 K J) (xo_al 0 (xo_gf 10 4 (xo_cv 8 cc_8_bits 1 (xo_cv 4 cc_4_sum 1 (bb_10_stripe_66 K J)))))))
def bb_10_stripe_11 (K : jw_K) (J : Nat → jw_S) : jw_S := xo_al 0 (xo_gf 10 4 (xo_al 0 (xo_gf 10 0 (xo_al 0 (xo_gf 10 3 (xo_cv 8 cc_8_build 3 (xo_il 1 (xo_zne (bb_10_stripe_41 K J) (xo_al 0 (xo_gf 10 4 (xo_cv 8 cc_8_bits 1 (xo_cv 4 cc_4_size 1 (xo_ri 0 0 K)))))))))))))
def bb_10_stripe_9 (K : jw_K) (J : Nat → jw_S) : jw_S := xo_ci (-1) (xo_ri 0 0 K)
def bb_10_stripe_0 (K : jw_K) (J : Nat → jw_S) : jw_S := xo_il 1 (xo_zlt (bb_10_stripe_9 K J) (xo_il 1 (xo_ci 2 (xo_cle (bb_10_stripe_11 K J) (bb_10_stripe_9 K J)))))
def qq_10_stripe (K : jw_K) (pc : Nat) (J : Nat → jw_S) : jw_S := if pc = 0 then bb_10_stripe_0 K J else fun _ _ _ _ => False
def cc_10_stripe : jw_T := jw_C 2 qq_10_stripe
theorem sb_10_stripe_66 (l : Launch) : jo_Ok l cb_10_stripe 2 "SwipedStripe" "stripe" jw_ro { frames := 5, cells := 0, slots := 0, locals := 112 } (some .int) 0 0 bb_10_stripe_66 66 := (jo_ri rfl (by decide +kernel))
theorem sb_10_stripe_59 (l : Launch) : jo_Ok l cb_10_stripe 2 "SwipedStripe" "stripe" jw_ro { frames := 5, cells := 0, slots := 0, locals := 112 } (some .int) 0 0 bb_10_stripe_59 59 := (jo_aln (i := 0) (j := 0) (by decide +kernel) rfl (jo_gf (j := 4) jw_F10 (by decide) kw_258 (by decide +kernel) (jo_cv (n := 0) (ss_8_checks l) kw_560 kw_6 kw_557 kw_558 jw_F8 kw_559 ⟨by decide, by decide, by decide +kernel⟩ ⟨by decide, by decide⟩ (fun _ _ h => h) ⟨rfl, rfl⟩ (by decide +kernel) (sb_10_stripe_66 l))))
theorem sb_10_stripe_41 (l : Launch) : jo_Ok l cb_10_stripe 2 "SwipedStripe" "stripe" jw_ro { frames := 5, cells := 0, slots := 0, locals := 112 } (some .int) 0 0 bb_10_stripe_41 41 := (jo_iln (i := 1) (j := 1) (by decide +kernel) rfl (jo_ici (n := 1) (by decide +kernel) (by decide) (jo_cne (off := 16) (tgt := 59) (by decide +kernel) (by decide) (sb_10_stripe_59 l) (jo_aln (i := 0) (j := 0) (by decide +kernel) rfl (jo_gf (j := 4) jw_F10 (by decide) kw_258 (by decide +kernel) (jo_cv (n := 0) (ss_8_bits l) kw_552 kw_6 kw_549 kw_550 jw_F8 kw_551 ⟨by decide, by decide, by decide +kernel⟩ ⟨by decide, by decide⟩ (fun _ _ h => h) ⟨rfl, rfl⟩ (by decide +kernel) (jo_cv (n := 0) (ss_4_sum l) kw_556 kw_3 kw_553 kw_554 jw_F4 kw_555 ⟨by decide, by decide, by decide +kernel⟩ ⟨by decide, by decide⟩ (fun _ _ h => h) ⟨rfl, rfl⟩ (by decide +kernel) (jo_goto (off := 10) (tgt := 66) (by decide +kernel) (by decide) (sb_10_stripe_66 l)))))))))
theorem sb_10_stripe_11 (l : Launch) : jo_Ok l cb_10_stripe 2 "SwipedStripe" "stripe" jw_ro { frames := 5, cells := 0, slots := 0, locals := 112 } (some .int) 0 0 bb_10_stripe_11 11 := (jo_aln (i := 0) (j := 0) (by decide +kernel) rfl (jo_gf (j := 4) jw_F10 (by decide) kw_258 (by decide +kernel) (jo_aln (i := 0) (j := 0) (by decide +kernel) rfl (jo_gf (j := 0) jw_F10 (by decide) kw_254 (by decide +kernel) (jo_aln (i := 0) (j := 0) (by decide +kernel) rfl (jo_gf (j := 3) jw_F10 (by decide) kw_257 (by decide +kernel) (jo_cv (n := 2) (ss_8_build l) kw_521 kw_6 kw_518 kw_519 jw_F8 kw_520 ⟨by decide, by decide, by decide +kernel⟩ ⟨by decide, by decide⟩ (fun _ _ h => h) ⟨rfl, rfl⟩ (by decide +kernel) (jo_iln (i := 1) (j := 1) (by decide +kernel) rfl (jo_zne (off := 14) (tgt := 41) (by decide +kernel) (by decide) (sb_10_stripe_41 l) (jo_aln (i := 0) (j := 0) (by decide +kernel) rfl (jo_gf (j := 4) jw_F10 (by decide) kw_258 (by decide +kernel) (jo_cv (n := 0) (ss_8_bits l) kw_552 kw_6 kw_549 kw_550 jw_F8 kw_551 ⟨by decide, by decide, by decide +kernel⟩ ⟨by decide, by decide⟩ (fun _ _ h => h) ⟨rfl, rfl⟩ (by decide +kernel) (jo_cv (n := 0) (ss_4_size l) kw_301 kw_3 kw_298 kw_299 jw_F4 kw_300 ⟨by decide, by decide, by decide +kernel⟩ ⟨by decide, by decide⟩ (fun _ _ h => h) ⟨rfl, rfl⟩ (by decide +kernel) (jo_ri rfl (by decide +kernel)))))))))))))))
theorem sb_10_stripe_9 (l : Launch) : jo_Ok l cb_10_stripe 2 "SwipedStripe" "stripe" jw_ro { frames := 5, cells := 0, slots := 0, locals := 112 } (some .int) 0 0 bb_10_stripe_9 9 := (jo_ici (n := -1) (by decide +kernel) (by decide) (jo_ri rfl (by decide +kernel)))
theorem sb_10_stripe_0 (l : Launch) : jo_Ok l cb_10_stripe 2 "SwipedStripe" "stripe" jw_ro { frames := 5, cells := 0, slots := 0, locals := 112 } (some .int) 0 0 bb_10_stripe_0 0 := (jo_iln (i := 1) (j := 1) (by decide +kernel) rfl (jo_zlt (off := 8) (tgt := 9) (by decide +kernel) (by decide) (sb_10_stripe_9 l) (jo_iln (i := 1) (j := 1) (by decide +kernel) rfl (jo_ici (n := 2) (by decide +kernel) (by decide) (jo_cle (off := 5) (tgt := 11) (by decide +kernel) (by decide) (sb_10_stripe_11 l) (sb_10_stripe_9 l))))))
theorem ss_10_stripe (l : Launch) : jw_Met l yy_10_stripe cb_10_stripe 2 (some .int) { frames := 5, cells := 0, slots := 0, locals := 112 } cc_10_stripe := by
  refine jw_met (by decide) (fun pc => ?_)
  intro p e s m args below meth c Q D aC ad base K X RT ls st h z hf
  unfold qq_10_stripe at hf
  by_cases h0 : pc = 0
  · subst h0; simp only [if_true, if_false, reduceIte, ↓reduceIte] at hf; exact sb_10_stripe_0 l p e s m args below meth c Q D aC ad base K X RT ls st h z hf
  rw [if_neg h0] at hf
  exact hf.elim
abbrev cb_3_withstands : ByteArray := prog_5_method_15_code
abbrev yy_3_withstands : MethodName := ⟨"SwipedStripe$Reading", "withstands", "(II)Z"⟩
def bb_3_withstands_71 (K : jw_K) (J : Nat → jw_S) : jw_S := xo_rz 0 0 K
def bb_3_withstands_70 (K : jw_K) (J : Nat → jw_S) : jw_S := xo_ci 0 (bb_3_withstands_71 K J)
def bb_3_withstands_52 (K : jw_K) (J : Nat → jw_S) : jw_S := xo_ci 4 (xo_il 3 (xo_il 2 (xo_iadd (xo_imul (xo_ci 3 (xo_il 4 (xo_il 2 (xo_isub (xo_imul (xo_cgt (bb_3_withstands_70 K J) (xo_ci 1 (bb_3_withstands_71 K J))))))))))))
def bb_3_withstands_48 (K : jw_K) (J : Nat → jw_S) : jw_S := xo_ci 0 (bb_3_withstands_71 K J)
def bb_3_withstands_40 (K : jw_K) (J : Nat → jw_S) : jw_S := xo_imul (xo_cle (bb_3_withstands_48 K J) (xo_ci 1 (bb_3_withstands_71 K J)))
def bb_3_withstands_0 (K : jw_K) (J : Nat → jw_S) : jw_S := xo_al 0 (xo_gf 3 1 (xo_il 1 (xo_cv 4 cc_4_at 2 (xo_is 3 (xo_al 0 (xo_gf 3 2 (xo_il 1 (xo_cv 4 cc_4_at 2 (xo_is 4 (xo_al 0 (xo_gf 3 0 (xo_il 1 (xo_cv 4 cc_4_at 2 (xo_zne (bb_3_withstands_52 K J) (xo_ci 4 (xo_il 3 (xo_il 2 (xo_isub (xo_imul (xo_ci 3 (xo_il 4 (xo_il 2 (xo_iadd (bb_3_withstands_40 K J))))))))))))))))))))))))
def qq_3_withstands (K : jw_K) (pc : Nat) (J : Nat → jw_S) : jw_S := if pc = 0 then bb_3_withstands_0 K J else fun _ _ _ _ => False
def cc_3_withstands : jw_T := jw_C 5 qq_3_withstands
theorem sb_3_withstands_71 (l : Launch) : jo_Ok l cb_3_withstands 5 "SwipedStripe$Reading" "withstands" jw_ro { frames := 1, cells := 0, slots := 0, locals := 21 } (some .boolean) 0 0 bb_3_withstands_71 71 := (jo_rz rfl (by decide +kernel))
theorem sb_3_withstands_70 (l : Launch) : jo_Ok l cb_3_withstands 5 "SwipedStripe$Reading" "withstands" jw_ro { frames := 1, cells := 0, slots := 0, locals := 21 } (some .boolean) 0 0 bb_3_withstands_70 70 := (jo_ici (n := 0) (by decide +kernel) (by decide) (sb_3_withstands_71 l))
theorem sb_3_withstands_52 (l : Launch) : jo_Ok l cb_3_withstands 5 "SwipedStripe$Reading" "withstands" jw_ro { frames := 1, cells := 0, slots := 0, locals := 21 } (some .boolean) 0 0 bb_3_withstands_52 52 := (jo_ici (n := 4) (by decide +kernel) (by decide) (jo_iln (i := 3) (j := 3) (by decide +kernel) rfl (jo_iln (i := 2) (j := 2) (by decide +kernel) rfl (jo_iadd (by decide +kernel) (jo_imul (by decide +kernel) (jo_ici (n := 3) (by decide +kernel) (by decide) (jo_il (by decide +kernel) (jo_iln (i := 2) (j := 2) (by decide +kernel) rfl (jo_isub (by decide +kernel) (jo_imul (by decide +kernel) (jo_cgt (off := 7) (tgt := 70) (by decide +kernel) (by decide) (sb_3_withstands_70 l) (jo_ici (n := 1) (by decide +kernel) (by decide) (jo_goto (off := 4) (tgt := 71) (by decide +kernel) (by decide) (sb_3_withstands_71 l))))))))))))))
theorem sb_3_withstands_48 (l : Launch) : jo_Ok l cb_3_withstands 5 "SwipedStripe$Reading" "withstands" jw_ro { frames := 1, cells := 0, slots := 0, locals := 21 } (some .boolean) 0 0 bb_3_withstands_48 48 := (jo_ici (n := 0) (by decide +kernel) (by decide) (jo_goto (off := 22) (tgt := 71) (by decide +kernel) (by decide) (sb_3_withstands_71 l)))
theorem sb_3_withstands_40 (l : Launch) : jo_Ok l cb_3_withstands 5 "SwipedStripe$Reading" "withstands" jw_ro { frames := 1, cells := 0, slots := 0, locals := 21 } (some .boolean) 0 0 bb_3_withstands_40 40 := (jo_imul (by decide +kernel) (jo_cle (off := 7) (tgt := 48) (by decide +kernel) (by decide) (sb_3_withstands_48 l) (jo_ici (n := 1) (by decide +kernel) (by decide) (jo_goto (off := 26) (tgt := 71) (by decide +kernel) (by decide) (sb_3_withstands_71 l)))))
theorem sb_3_withstands_0 (l : Launch) : jo_Ok l cb_3_withstands 5 "SwipedStripe$Reading" "withstands" jw_ro { frames := 1, cells := 0, slots := 0, locals := 21 } (some .boolean) 0 0 bb_3_withstands_0 0 := (jo_aln (i := 0) (j := 0) (by decide +kernel) rfl (jo_gf (j := 1) jw_F3 (by decide) kw_131 (by decide +kernel) (jo_iln (i := 1) (j := 1) (by decide +kernel) rfl (jo_cv (n := 1) (ss_4_at l) kw_330 kw_3 kw_644 kw_328 jw_F4 kw_329 ⟨by decide, by decide, by decide +kernel⟩ ⟨by decide, by decide⟩ (fun _ _ h => h) ⟨rfl, rfl⟩ (by decide +kernel) (jo_isn (i := 3) (j := 3) (by decide +kernel) rfl (by decide) (jo_aln (i := 0) (j := 0) (by decide +kernel) rfl (jo_gf (j := 2) jw_F3 (by decide) kw_132 (by decide +kernel) (jo_iln (i := 1) (j := 1) (by decide +kernel) rfl (jo_cv (n := 1) (ss_4_at l) kw_330 kw_3 kw_644 kw_328 jw_F4 kw_329 ⟨by decide, by decide, by decide +kernel⟩ ⟨by decide, by decide⟩ (fun _ _ h => h) ⟨rfl, rfl⟩ (by decide +kernel) (jo_is (by decide +kernel) (by decide) (jo_aln (i := 0) (j := 0) (by decide +kernel) rfl (jo_gf (j := 0) jw_F3 (by decide) kw_130 (by decide +kernel) (jo_iln (i := 1) (j := 1) (by decide +kernel) rfl (jo_cv (n := 1) (ss_4_at l) kw_330 kw_3 kw_644 kw_328 jw_F4 kw_329 ⟨by decide, by decide, by decide +kernel⟩ ⟨by decide, by decide⟩ (fun _ _ h => h) ⟨rfl, rfl⟩ (by decide +kernel) (jo_zne (off := 25) (tgt := 52) (by decide +kernel) (by decide) (sb_3_withstands_52 l) (jo_ici (n := 4) (by decide +kernel) (by decide) (jo_iln (i := 3) (j := 3) (by decide +kernel) rfl (jo_iln (i := 2) (j := 2) (by decide +kernel) rfl (jo_isub (by decide +kernel) (jo_imul (by decide +kernel) (jo_ici (n := 3) (by decide +kernel) (by decide) (jo_il (by decide +kernel) (jo_iln (i := 2) (j := 2) (by decide +kernel) rfl (jo_iadd (by decide +kernel) (sb_3_withstands_40 l)))))))))))))))))))))))))
theorem ss_3_withstands (l : Launch) : jw_Met l yy_3_withstands cb_3_withstands 5 (some .boolean) { frames := 1, cells := 0, slots := 0, locals := 21 } cc_3_withstands := by
  refine jw_met (by decide) (fun pc => ?_)
  intro p e s m args below meth c Q D aC ad base K X RT ls st h z hf
  unfold qq_3_withstands at hf
  by_cases h0 : pc = 0
  · subst h0; simp only [if_true, if_false, reduceIte, ↓reduceIte] at hf; exact sb_3_withstands_0 l p e s m args below meth c Q D aC ad base K X RT ls st h z hf
  rw [if_neg h0] at hf
  exact hf.elim
abbrev cb_3_harmlessSway : ByteArray := prog_5_method_14_code
abbrev yy_3_harmlessSway : MethodName := ⟨"SwipedStripe$Reading", "harmlessSway", "()I"⟩
def bb_3_harmlessSway_41 (K : jw_K) (J : Nat → jw_S) : jw_S := xo_il 1 (xo_ri 0 0 K)
def bb_3_harmlessSway_35 (K : jw_K) (J : Nat → jw_S) : jw_S := xo_ic 2 1 (J 5)
def bb_3_harmlessSway_16 (K : jw_K) (J : Nat → jw_S) : jw_S := xo_il 1 (xo_zle (bb_3_harmlessSway_35 K J) (xo_al 0 (xo_il 2 (xo_il 1 (xo_cv 3 cc_3_withstands 3 (xo_zne (bb_3_harmlessSway_35 K J) (xo_ic 1 (-1) (J 16))))))))
def bb_3_harmlessSway_5 (K : jw_K) (J : Nat → jw_S) : jw_S := xo_il 2 (xo_al 0 (xo_gf 3 0 (xo_cv 4 cc_4_size 1 (xo_cge (bb_3_harmlessSway_41 K J) (J 16)))))
def bb_3_harmlessSway_0 (K : jw_K) (J : Nat → jw_S) : jw_S := xo_ci 99 (xo_is 1 (xo_ci 1 (xo_is 2 (J 5))))
def qq_3_harmlessSway (K : jw_K) (pc : Nat) (J : Nat → jw_S) : jw_S := if pc = 0 then bb_3_harmlessSway_0 K J else if pc = 5 then bb_3_harmlessSway_5 K J else if pc = 16 then bb_3_harmlessSway_16 K J else fun _ _ _ _ => False
def cc_3_harmlessSway : jw_T := jw_C 3 qq_3_harmlessSway
theorem sb_3_harmlessSway_41 (l : Launch) : jo_Ok l cb_3_harmlessSway 3 "SwipedStripe$Reading" "harmlessSway" jw_ro { frames := 2, cells := 0, slots := 0, locals := 45 } (some .int) 0 0 bb_3_harmlessSway_41 41 := (jo_iln (i := 1) (j := 1) (by decide +kernel) rfl (jo_ri rfl (by decide +kernel)))
theorem sb_3_harmlessSway_35 (l : Launch) : jo_Ok l cb_3_harmlessSway 3 "SwipedStripe$Reading" "harmlessSway" jw_ro { frames := 2, cells := 0, slots := 0, locals := 45 } (some .int) 0 0 bb_3_harmlessSway_35 35 := (jo_ic (n0 := 1) (by decide +kernel) (by decide) (by decide) (jo_goto (off := -33) (tgt := 5) (by decide +kernel) (by decide) (jo_J)))
theorem sb_3_harmlessSway_16 (l : Launch) : jo_Ok l cb_3_harmlessSway 3 "SwipedStripe$Reading" "harmlessSway" jw_ro { frames := 2, cells := 0, slots := 0, locals := 45 } (some .int) 0 0 bb_3_harmlessSway_16 16 := (jo_iln (i := 1) (j := 1) (by decide +kernel) rfl (jo_zle (off := 18) (tgt := 35) (by decide +kernel) (by decide) (sb_3_harmlessSway_35 l) (jo_aln (i := 0) (j := 0) (by decide +kernel) rfl (jo_iln (i := 2) (j := 2) (by decide +kernel) rfl (jo_iln (i := 1) (j := 1) (by decide +kernel) rfl (jo_cv (n := 2) (ss_3_withstands l) kw_879 kw_7 kw_876 kw_878 jw_F3 kp_27 ⟨by decide, by decide, by decide +kernel⟩ ⟨by decide, by decide⟩ (fun _ _ h => h) ⟨rfl, rfl⟩ (by decide +kernel) (jo_zne (off := 9) (tgt := 35) (by decide +kernel) (by decide) (sb_3_harmlessSway_35 l) (jo_ic (n0 := -1) (by decide +kernel) (by decide) (by decide) (jo_goto (off := -16) (tgt := 16) (by decide +kernel) (by decide) (jo_J))))))))))
theorem sb_3_harmlessSway_5 (l : Launch) : jo_Ok l cb_3_harmlessSway 3 "SwipedStripe$Reading" "harmlessSway" jw_ro { frames := 2, cells := 0, slots := 0, locals := 45 } (some .int) 0 0 bb_3_harmlessSway_5 5 := (jo_iln (i := 2) (j := 2) (by decide +kernel) rfl (jo_aln (i := 0) (j := 0) (by decide +kernel) rfl (jo_gf (j := 0) jw_F3 (by decide) kw_130 (by decide +kernel) (jo_cv (n := 0) (ss_4_size l) kw_301 kw_3 kw_650 kw_299 jw_F4 kw_300 ⟨by decide, by decide, by decide +kernel⟩ ⟨by decide, by decide⟩ (fun _ _ h => h) ⟨rfl, rfl⟩ (by decide +kernel) (jo_cge (off := 28) (tgt := 41) (by decide +kernel) (by decide) (sb_3_harmlessSway_41 l) jo_J)))))
theorem sb_3_harmlessSway_0 (l : Launch) : jo_Ok l cb_3_harmlessSway 3 "SwipedStripe$Reading" "harmlessSway" jw_ro { frames := 2, cells := 0, slots := 0, locals := 45 } (some .int) 0 0 bb_3_harmlessSway_0 0 := (jo_bpi (n := 99) (by decide +kernel) (by decide) (jo_isn (i := 1) (j := 1) (by decide +kernel) rfl (by decide) (jo_ici (n := 1) (by decide +kernel) (by decide) (jo_isn (i := 2) (j := 2) (by decide +kernel) rfl (by decide) jo_J))))
theorem ss_3_harmlessSway (l : Launch) : jw_Met l yy_3_harmlessSway cb_3_harmlessSway 3 (some .int) { frames := 2, cells := 0, slots := 0, locals := 45 } cc_3_harmlessSway := by
  refine jw_met (by decide) (fun pc => ?_)
  intro p e s m args below meth c Q D aC ad base K X RT ls st h z hf
  unfold qq_3_harmlessSway at hf
  by_cases h0 : pc = 0
  · subst h0; simp only [if_true, if_false, reduceIte, ↓reduceIte] at hf; exact sb_3_harmlessSway_0 l p e s m args below meth c Q D aC ad base K X RT ls st h z hf
  rw [if_neg h0] at hf
  by_cases h5 : pc = 5
  · subst h5; simp only [if_true, if_false, reduceIte, ↓reduceIte] at hf; exact sb_3_harmlessSway_5 l p e s m args below meth c Q D aC ad base K X RT ls st h z hf
  rw [if_neg h5] at hf
  by_cases h16 : pc = 16
  · subst h16; simp only [if_true, if_false, reduceIte, ↓reduceIte] at hf; exact sb_3_harmlessSway_16 l p e s m args below meth c Q D aC ad base K X RT ls st h z hf
  rw [if_neg h16] at hf
  exact hf.elim
abbrev cb_10_sway : ByteArray := prog_1_method_27_code
abbrev yy_10_sway : MethodName := ⟨"SwipedStripe", "sway", "()I"⟩
def bb_10_sway_48 (K : jw_K) (J : Nat → jw_S) : jw_S := xo_ri 0 0 K
def bb_10_sway_46 (K : jw_K) (J : Nat → jw_S) : jw_S := xo_ci (-2) (bb_10_sway_48 K J)
def bb_10_sway_13 (K : jw_K) (J : Nat → jw_S) : jw_S := xo_al 0 (xo_gf 10 6 (xo_al 0 (xo_gf 10 5 (xo_ci 0 (xo_ci (-1) (xo_cv 3 cc_3_hear 4 (xo_al 0 (xo_gf 10 6 (xo_cv 3 cc_3_fails 1 (xo_zne (bb_10_sway_46 K J) (xo_al 0 (xo_gf 10 6 (xo_cv 3 cc_3_harmlessSway 1 (bb_10_sway_48 K J))))))))))))))
def bb_10_sway_0 (K : jw_K) (J : Nat → jw_S) : jw_S := xo_al 0 (xo_gf 10 5 (xo_cv 4 cc_4_isEmpty 1 (xo_zeq (bb_10_sway_13 K J) (xo_ci (-2) (xo_ri 0 0 K)))))
def qq_10_sway (K : jw_K) (pc : Nat) (J : Nat → jw_S) : jw_S := if pc = 0 then bb_10_sway_0 K J else fun _ _ _ _ => False
def cc_10_sway : jw_T := jw_C 1 qq_10_sway
theorem sb_10_sway_48 (l : Launch) : jo_Ok l cb_10_sway 1 "SwipedStripe" "sway" jw_ro { frames := 3, cells := 0, slots := 0, locals := 72 } (some .int) 0 0 bb_10_sway_48 48 := (jo_ri rfl (by decide +kernel))
theorem sb_10_sway_46 (l : Launch) : jo_Ok l cb_10_sway 1 "SwipedStripe" "sway" jw_ro { frames := 3, cells := 0, slots := 0, locals := 72 } (some .int) 0 0 bb_10_sway_46 46 := (jo_bpi (n := -2) (by decide +kernel) (by decide) (sb_10_sway_48 l))
theorem sb_10_sway_13 (l : Launch) : jo_Ok l cb_10_sway 1 "SwipedStripe" "sway" jw_ro { frames := 3, cells := 0, slots := 0, locals := 72 } (some .int) 0 0 bb_10_sway_13 13 := (jo_aln (i := 0) (j := 0) (by decide +kernel) rfl (jo_gf (j := 6) jw_F10 (by decide) kw_260 (by decide +kernel) (jo_aln (i := 0) (j := 0) (by decide +kernel) rfl (jo_gf (j := 5) jw_F10 (by decide) kw_259 (by decide +kernel) (jo_ici (n := 0) (by decide +kernel) (by decide) (jo_ici (n := -1) (by decide +kernel) (by decide) (jo_cv (n := 3) (ss_3_hear l) kw_637 kw_7 kw_634 kw_635 jw_F3 kw_636 ⟨by decide, by decide, by decide +kernel⟩ ⟨by decide, by decide⟩ (fun _ _ h => h) ⟨rfl, rfl⟩ (by decide +kernel) (jo_aln (i := 0) (j := 0) (by decide +kernel) rfl (jo_gf (j := 6) jw_F10 (by decide) kw_260 (by decide +kernel) (jo_cv (n := 0) (ss_3_fails l) kw_669 kw_7 kw_666 kw_667 jw_F3 kw_668 ⟨by decide, by decide, by decide +kernel⟩ ⟨by decide, by decide⟩ (fun _ _ h => h) ⟨rfl, rfl⟩ (by decide +kernel) (jo_zne (off := 13) (tgt := 46) (by decide +kernel) (by decide) (sb_10_sway_46 l) (jo_aln (i := 0) (j := 0) (by decide +kernel) rfl (jo_gf (j := 6) jw_F10 (by decide) kw_260 (by decide +kernel) (jo_cv (n := 0) (ss_3_harmlessSway l) kw_875 kw_7 kw_872 kw_873 jw_F3 kw_874 ⟨by decide, by decide, by decide +kernel⟩ ⟨by decide, by decide⟩ (fun _ _ h => h) ⟨rfl, rfl⟩ (by decide +kernel) (jo_goto (off := 5) (tgt := 48) (by decide +kernel) (by decide) (sb_10_sway_48 l))))))))))))))))
theorem sb_10_sway_0 (l : Launch) : jo_Ok l cb_10_sway 1 "SwipedStripe" "sway" jw_ro { frames := 3, cells := 0, slots := 0, locals := 72 } (some .int) 0 0 bb_10_sway_0 0 := (jo_aln (i := 0) (j := 0) (by decide +kernel) rfl (jo_gf (j := 5) jw_F10 (by decide) kw_259 (by decide +kernel) (jo_cv (n := 0) (ss_4_isEmpty l) kw_633 kw_3 kw_630 kw_631 jw_F4 kw_632 ⟨by decide, by decide, by decide +kernel⟩ ⟨by decide, by decide⟩ (fun _ _ h => h) ⟨rfl, rfl⟩ (by decide +kernel) (jo_zeq (off := 6) (tgt := 13) (by decide +kernel) (by decide) (sb_10_sway_13 l) (jo_bpi (n := -2) (by decide +kernel) (by decide) (jo_ri rfl (by decide +kernel)))))))
theorem ss_10_sway (l : Launch) : jw_Met l yy_10_sway cb_10_sway 1 (some .int) { frames := 3, cells := 0, slots := 0, locals := 72 } cc_10_sway := by
  refine jw_met (by decide) (fun pc => ?_)
  intro p e s m args below meth c Q D aC ad base K X RT ls st h z hf
  unfold qq_10_sway at hf
  by_cases h0 : pc = 0
  · subst h0; simp only [if_true, if_false, reduceIte, ↓reduceIte] at hf; exact sb_10_sway_0 l p e s m args below meth c Q D aC ad base K X RT ls st h z hf
  rw [if_neg h0] at hf
  exact hf.elim
abbrev cb_10_symbol : ByteArray := prog_1_method_21_code
abbrev yy_10_symbol : MethodName := ⟨"SwipedStripe", "symbol", "(I)I"⟩
def bb_10_symbol_39 (K : jw_K) (J : Nat → jw_S) : jw_S := xo_ri 0 0 K
def bb_10_symbol_38 (K : jw_K) (J : Nat → jw_S) : jw_S := xo_ci (-1) (bb_10_symbol_39 K J)
def bb_10_symbol_16 (K : jw_K) (J : Nat → jw_S) : jw_S := xo_il 1 (xo_al 0 (xo_gf 10 7 (xo_cv 2 cc_2_values 1 (xo_cge (bb_10_symbol_38 K J) (xo_al 0 (xo_gf 10 7 (xo_il 1 (xo_cv 2 cc_2_valueAt 2 (bb_10_symbol_39 K J)))))))))
def bb_10_symbol_6 (K : jw_K) (J : Nat → jw_S) : jw_S := xo_al 0 (xo_cv 10 cc_10_findsValues 1 (xo_zne (bb_10_symbol_16 K J) (xo_ci (-2) (xo_ri 0 0 K))))
def bb_10_symbol_0 (K : jw_K) (J : Nat → jw_S) : jw_S := xo_il 1 (xo_zge (bb_10_symbol_6 K J) (xo_ci (-1) (xo_ri 0 0 K)))
def qq_10_symbol (K : jw_K) (pc : Nat) (J : Nat → jw_S) : jw_S := if pc = 0 then bb_10_symbol_0 K J else fun _ _ _ _ => False
def cc_10_symbol : jw_T := jw_C 2 qq_10_symbol
theorem sb_10_symbol_39 (l : Launch) : jo_Ok l cb_10_symbol 2 "SwipedStripe" "symbol" jw_ro { frames := 6, cells := 0, slots := 0, locals := 133 } (some .int) 0 0 bb_10_symbol_39 39 := (jo_ri rfl (by decide +kernel))
theorem sb_10_symbol_38 (l : Launch) : jo_Ok l cb_10_symbol 2 "SwipedStripe" "symbol" jw_ro { frames := 6, cells := 0, slots := 0, locals := 133 } (some .int) 0 0 bb_10_symbol_38 38 := (jo_ici (n := -1) (by decide +kernel) (by decide) (sb_10_symbol_39 l))
theorem sb_10_symbol_16 (l : Launch) : jo_Ok l cb_10_symbol 2 "SwipedStripe" "symbol" jw_ro { frames := 6, cells := 0, slots := 0, locals := 133 } (some .int) 0 0 bb_10_symbol_16 16 := (jo_iln (i := 1) (j := 1) (by decide +kernel) rfl (jo_aln (i := 0) (j := 0) (by decide +kernel) rfl (jo_gf (j := 7) jw_F10 (by decide) kw_261 (by decide +kernel) (jo_cv (n := 0) (ss_2_values l) kw_744 kw_8 kw_741 kw_742 jw_F2 kw_743 ⟨by decide, by decide, by decide +kernel⟩ ⟨by decide, by decide⟩ (fun _ _ h => h) ⟨rfl, rfl⟩ (by decide +kernel) (jo_cge (off := 14) (tgt := 38) (by decide +kernel) (by decide) (sb_10_symbol_38 l) (jo_aln (i := 0) (j := 0) (by decide +kernel) rfl (jo_gf (j := 7) jw_F10 (by decide) kw_261 (by decide +kernel) (jo_iln (i := 1) (j := 1) (by decide +kernel) rfl (jo_cv (n := 1) (ss_2_valueAt l) kw_761 kw_8 kw_758 kw_759 jw_F2 kw_760 ⟨by decide, by decide, by decide +kernel⟩ ⟨by decide, by decide⟩ (fun _ _ h => h) ⟨rfl, rfl⟩ (by decide +kernel) (jo_goto (off := 4) (tgt := 39) (by decide +kernel) (by decide) (sb_10_symbol_39 l)))))))))))
theorem sb_10_symbol_6 (l : Launch) : jo_Ok l cb_10_symbol 2 "SwipedStripe" "symbol" jw_ro { frames := 6, cells := 0, slots := 0, locals := 133 } (some .int) 0 0 bb_10_symbol_6 6 := (jo_aln (i := 0) (j := 0) (by decide +kernel) rfl (jo_cv (n := 0) (ss_10_findsValues l) kw_757 kw_1 kw_754 kw_756 jw_F10 kp_22 ⟨by decide, by decide, by decide +kernel⟩ ⟨by decide, by decide⟩ (fun _ _ h => h) ⟨rfl, rfl⟩ (by decide +kernel) (jo_zne (off := 6) (tgt := 16) (by decide +kernel) (by decide) (sb_10_symbol_16 l) (jo_bpi (n := -2) (by decide +kernel) (by decide) (jo_ri rfl (by decide +kernel))))))
theorem sb_10_symbol_0 (l : Launch) : jo_Ok l cb_10_symbol 2 "SwipedStripe" "symbol" jw_ro { frames := 6, cells := 0, slots := 0, locals := 133 } (some .int) 0 0 bb_10_symbol_0 0 := (jo_iln (i := 1) (j := 1) (by decide +kernel) rfl (jo_zge (off := 5) (tgt := 6) (by decide +kernel) (by decide) (sb_10_symbol_6 l) (jo_ici (n := -1) (by decide +kernel) (by decide) (jo_ri rfl (by decide +kernel)))))
theorem ss_10_symbol (l : Launch) : jw_Met l yy_10_symbol cb_10_symbol 2 (some .int) { frames := 6, cells := 0, slots := 0, locals := 133 } cc_10_symbol := by
  refine jw_met (by decide) (fun pc => ?_)
  intro p e s m args below meth c Q D aC ad base K X RT ls st h z hf
  unfold qq_10_symbol at hf
  by_cases h0 : pc = 0
  · subst h0; simp only [if_true, if_false, reduceIte, ↓reduceIte] at hf; exact sb_10_symbol_0 l p e s m args below meth c Q D aC ad base K X RT ls st h z hf
  rw [if_neg h0] at hf
  exact hf.elim
abbrev cb_5_become : ByteArray := prog_7_method_5_code
abbrev yy_5_become : MethodName := ⟨"SwipedStripe$Rules", "become", "(LSwipedStripe$Rules;)V"⟩
def bb_5_become_28 (K : jw_K) (J : Nat → jw_S) : jw_S := xo_rv 0 0 K
def bb_5_become_2 (K : jw_K) (J : Nat → jw_S) : jw_S := xo_il 2 (xo_al 0 (xo_gf 5 0 (xo_alen jw_ro (xo_cge (bb_5_become_28 K J) (xo_al 0 (xo_gf 5 0 (xo_il 2 (xo_al 1 (xo_il 2 (xo_cv 5 cc_5_of 2 (xo_iast (xo_ic 2 1 (J 2)))))))))))))
def bb_5_become_0 (K : jw_K) (J : Nat → jw_S) : jw_S := xo_ci 0 (xo_is 2 (J 2))
def qq_5_become (K : jw_K) (pc : Nat) (J : Nat → jw_S) : jw_S := if pc = 0 then bb_5_become_0 K J else if pc = 2 then bb_5_become_2 K J else fun _ _ _ _ => False
def cc_5_become : jw_T := jw_C 3 qq_5_become
theorem sb_5_become_28 (l : Launch) : jo_Ok l cb_5_become 3 "SwipedStripe$Rules" "become" jw_ro { frames := 2, cells := 0, slots := 0, locals := 42 } none 0 0 bb_5_become_28 28 := (jo_rv rfl (by decide +kernel))
theorem sb_5_become_2 (l : Launch) : jo_Ok l cb_5_become 3 "SwipedStripe$Rules" "become" jw_ro { frames := 2, cells := 0, slots := 0, locals := 42 } none 0 0 bb_5_become_2 2 := (jo_iln (i := 2) (j := 2) (by decide +kernel) rfl (jo_aln (i := 0) (j := 0) (by decide +kernel) rfl (jo_gf (j := 0) jw_F5 (by decide) kw_42 (by decide +kernel) (jo_alen (by decide +kernel) (jo_cge (off := 20) (tgt := 28) (by decide +kernel) (by decide) (sb_5_become_28 l) (jo_aln (i := 0) (j := 0) (by decide +kernel) rfl (jo_gf (j := 0) jw_F5 (by decide) kw_42 (by decide +kernel) (jo_iln (i := 2) (j := 2) (by decide +kernel) rfl (jo_aln (i := 1) (j := 1) (by decide +kernel) rfl (jo_iln (i := 2) (j := 2) (by decide +kernel) rfl (jo_cv (n := 1) (ss_5_of l) kw_457 kw_2 kw_454 kw_455 jw_F5 kw_456 ⟨by decide, by decide, by decide +kernel⟩ ⟨by decide, by decide⟩ (fun _ _ h => h) ⟨rfl, rfl⟩ (by decide +kernel) (jo_iast (by decide +kernel) (jo_ic (n0 := 1) (by decide +kernel) (by decide) (by decide) (jo_goto (off := -23) (tgt := 2) (by decide +kernel) (by decide) (jo_J)))))))))))))))
theorem sb_5_become_0 (l : Launch) : jo_Ok l cb_5_become 3 "SwipedStripe$Rules" "become" jw_ro { frames := 2, cells := 0, slots := 0, locals := 42 } none 0 0 bb_5_become_0 0 := (jo_ici (n := 0) (by decide +kernel) (by decide) (jo_isn (i := 2) (j := 2) (by decide +kernel) rfl (by decide) jo_J))
theorem ss_5_become (l : Launch) : jw_Met l yy_5_become cb_5_become 3 none { frames := 2, cells := 0, slots := 0, locals := 42 } cc_5_become := by
  refine jw_met (by decide) (fun pc => ?_)
  intro p e s m args below meth c Q D aC ad base K X RT ls st h z hf
  unfold qq_5_become at hf
  by_cases h0 : pc = 0
  · subst h0; simp only [if_true, if_false, reduceIte, ↓reduceIte] at hf; exact sb_5_become_0 l p e s m args below meth c Q D aC ad base K X RT ls st h z hf
  rw [if_neg h0] at hf
  by_cases h2 : pc = 2
  · subst h2; simp only [if_true, if_false, reduceIte, ↓reduceIte] at hf; exact sb_5_become_2 l p e s m args below meth c Q D aC ad base K X RT ls st h z hf
  rw [if_neg h2] at hf
  exact hf.elim
abbrev cb_9_faultFound : ByteArray := prog_11_method_4_code
abbrev yy_9_faultFound : MethodName := ⟨"SwipedStripe$TextReader", "faultFound", "()I"⟩
def bb_9_faultFound_0 (K : jw_K) (J : Nat → jw_S) : jw_S := xo_al 0 (xo_gf 9 4 (xo_ri 0 0 K))
def qq_9_faultFound (K : jw_K) (pc : Nat) (J : Nat → jw_S) : jw_S := if pc = 0 then bb_9_faultFound_0 K J else fun _ _ _ _ => False
def cc_9_faultFound : jw_T := jw_C 1 qq_9_faultFound
theorem sb_9_faultFound_0 (l : Launch) : jo_Ok l cb_9_faultFound 1 "SwipedStripe$TextReader" "faultFound" jw_ro { frames := 0, cells := 0, slots := 0, locals := 0 } (some .int) 0 0 bb_9_faultFound_0 0 := (jo_aln (i := 0) (j := 0) (by decide +kernel) rfl (jo_gf (j := 4) jw_F9 (by decide) kw_77 (by decide +kernel) (jo_ri rfl (by decide +kernel))))
theorem ss_9_faultFound (l : Launch) : jw_Met l yy_9_faultFound cb_9_faultFound 1 (some .int) { frames := 0, cells := 0, slots := 0, locals := 0 } cc_9_faultFound := by
  refine jw_met (by decide) (fun pc => ?_)
  intro p e s m args below meth c Q D aC ad base K X RT ls st h z hf
  unfold qq_9_faultFound at hf
  by_cases h0 : pc = 0
  · subst h0; simp only [if_true, if_false, reduceIte, ↓reduceIte] at hf; exact sb_9_faultFound_0 l p e s m args below meth c Q D aC ad base K X RT ls st h z hf
  rw [if_neg h0] at hf
  exact hf.elim
abbrev cb_9_faultPlace : ByteArray := prog_11_method_5_code
abbrev yy_9_faultPlace : MethodName := ⟨"SwipedStripe$TextReader", "faultPlace", "()I"⟩
def bb_9_faultPlace_0 (K : jw_K) (J : Nat → jw_S) : jw_S := xo_al 0 (xo_gf 9 5 (xo_ri 0 0 K))
def qq_9_faultPlace (K : jw_K) (pc : Nat) (J : Nat → jw_S) : jw_S := if pc = 0 then bb_9_faultPlace_0 K J else fun _ _ _ _ => False
def cc_9_faultPlace : jw_T := jw_C 1 qq_9_faultPlace
theorem sb_9_faultPlace_0 (l : Launch) : jo_Ok l cb_9_faultPlace 1 "SwipedStripe$TextReader" "faultPlace" jw_ro { frames := 0, cells := 0, slots := 0, locals := 0 } (some .int) 0 0 bb_9_faultPlace_0 0 := (jo_aln (i := 0) (j := 0) (by decide +kernel) rfl (jo_gf (j := 5) jw_F9 (by decide) kw_78 (by decide +kernel) (jo_ri rfl (by decide +kernel))))
theorem ss_9_faultPlace (l : Launch) : jw_Met l yy_9_faultPlace cb_9_faultPlace 1 (some .int) { frames := 0, cells := 0, slots := 0, locals := 0 } cc_9_faultPlace := by
  refine jw_met (by decide) (fun pc => ?_)
  intro p e s m args below meth c Q D aC ad base K X RT ls st h z hf
  unfold qq_9_faultPlace at hf
  by_cases h0 : pc = 0
  · subst h0; simp only [if_true, if_false, reduceIte, ↓reduceIte] at hf; exact sb_9_faultPlace_0 l p e s m args below meth c Q D aC ad base K X RT ls st h z hf
  rw [if_neg h0] at hf
  exact hf.elim
abbrev cb_9_lines : ByteArray := prog_11_method_3_code
abbrev yy_9_lines : MethodName := ⟨"SwipedStripe$TextReader", "lines", "()I"⟩
def bb_9_lines_0 (K : jw_K) (J : Nat → jw_S) : jw_S := xo_al 0 (xo_gf 9 3 (xo_ri 0 0 K))
def qq_9_lines (K : jw_K) (pc : Nat) (J : Nat → jw_S) : jw_S := if pc = 0 then bb_9_lines_0 K J else fun _ _ _ _ => False
def cc_9_lines : jw_T := jw_C 1 qq_9_lines
theorem sb_9_lines_0 (l : Launch) : jo_Ok l cb_9_lines 1 "SwipedStripe$TextReader" "lines" jw_ro { frames := 0, cells := 0, slots := 0, locals := 0 } (some .int) 0 0 bb_9_lines_0 0 := (jo_aln (i := 0) (j := 0) (by decide +kernel) rfl (jo_gf (j := 3) jw_F9 (by decide) kw_76 (by decide +kernel) (jo_ri rfl (by decide +kernel))))
theorem ss_9_lines (l : Launch) : jw_Met l yy_9_lines cb_9_lines 1 (some .int) { frames := 0, cells := 0, slots := 0, locals := 0 } cc_9_lines := by
  refine jw_met (by decide) (fun pc => ?_)
  intro p e s m args below meth c Q D aC ad base K X RT ls st h z hf
  unfold qq_9_lines at hf
  by_cases h0 : pc = 0
  · subst h0; simp only [if_true, if_false, reduceIte, ↓reduceIte] at hf; exact sb_9_lines_0 l p e s m args below meth c Q D aC ad base K X RT ls st h z hf
  rw [if_neg h0] at hf
  exact hf.elim
abbrev cb_4_become : ByteArray := prog_6_method_12_code
abbrev yy_4_become : MethodName := ⟨"SwipedStripe$Row", "become", "(LSwipedStripe$Row;)V"⟩
def bb_4_become_43 (K : jw_K) (J : Nat → jw_S) : jw_S := xo_rv 0 0 K
def bb_4_become_7 (K : jw_K) (J : Nat → jw_S) : jw_S := xo_il 2 (xo_al 1 (xo_cv 4 cc_4_size 1 (xo_cge (bb_4_become_43 K J) (xo_al 0 (xo_gf 4 1 (xo_al 0 (xo_gf 4 0 (xo_alen jw_ro (xo_cge (bb_4_become_43 K J) (xo_al 0 (xo_al 1 (xo_il 2 (xo_cv 4 cc_4_at 2 (xo_cv 4 cc_4_push 2 (xo_pop (xo_ic 2 1 (J 7)))))))))))))))))
def bb_4_become_0 (K : jw_K) (J : Nat → jw_S) : jw_S := xo_al 0 (xo_ci 0 (xo_pfi 4 1 (xo_ci 0 (xo_is 2 (J 7)))))
def qq_4_become (K : jw_K) (pc : Nat) (J : Nat → jw_S) : jw_S := if pc = 0 then bb_4_become_0 K J else if pc = 7 then bb_4_become_7 K J else fun _ _ _ _ => False
def cc_4_become : jw_T := jw_C 3 qq_4_become
theorem sb_4_become_43 (l : Launch) : jo_Ok l cb_4_become 3 "SwipedStripe$Row" "become" jw_ro { frames := 1, cells := 0, slots := 0, locals := 21 } none 0 0 bb_4_become_43 43 := (jo_rv rfl (by decide +kernel))
theorem sb_4_become_7 (l : Launch) : jo_Ok l cb_4_become 3 "SwipedStripe$Row" "become" jw_ro { frames := 1, cells := 0, slots := 0, locals := 21 } none 0 0 bb_4_become_7 7 := (jo_iln (i := 2) (j := 2) (by decide +kernel) rfl (jo_aln (i := 1) (j := 1) (by decide +kernel) rfl (jo_cv (n := 0) (ss_4_size l) kw_301 kw_3 kw_326 kw_299 jw_F4 kw_300 ⟨by decide, by decide, by decide +kernel⟩ ⟨by decide, by decide⟩ (fun _ _ h => h) ⟨rfl, rfl⟩ (by decide +kernel) (jo_cge (off := 31) (tgt := 43) (by decide +kernel) (by decide) (sb_4_become_43 l) (jo_aln (i := 0) (j := 0) (by decide +kernel) rfl (jo_gf (j := 1) jw_F4 (by decide) kw_57 (by decide +kernel) (jo_aln (i := 0) (j := 0) (by decide +kernel) rfl (jo_gf (j := 0) jw_F4 (by decide) kw_56 (by decide +kernel) (jo_alen (by decide +kernel) (jo_cge (off := 19) (tgt := 43) (by decide +kernel) (by decide) (sb_4_become_43 l) (jo_aln (i := 0) (j := 0) (by decide +kernel) rfl (jo_aln (i := 1) (j := 1) (by decide +kernel) rfl (jo_iln (i := 2) (j := 2) (by decide +kernel) rfl (jo_cv (n := 1) (ss_4_at l) kw_330 kw_3 kw_327 kw_328 jw_F4 kw_329 ⟨by decide, by decide, by decide +kernel⟩ ⟨by decide, by decide⟩ (fun _ _ h => h) ⟨rfl, rfl⟩ (by decide +kernel) (jo_cv (n := 1) (ss_4_push l) kw_305 kw_3 kw_331 kw_303 jw_F4 kw_304 ⟨by decide, by decide, by decide +kernel⟩ ⟨by decide, by decide⟩ (fun _ _ h => h) ⟨rfl, rfl⟩ (by decide +kernel) (jo_pop (by decide +kernel) (jo_ic (n0 := 1) (by decide +kernel) (by decide) (by decide) (jo_goto (off := -33) (tgt := 7) (by decide +kernel) (by decide) (jo_J)))))))))))))))))))
theorem sb_4_become_0 (l : Launch) : jo_Ok l cb_4_become 3 "SwipedStripe$Row" "become" jw_ro { frames := 1, cells := 0, slots := 0, locals := 21 } none 0 0 bb_4_become_0 0 := (jo_aln (i := 0) (j := 0) (by decide +kernel) rfl (jo_ici (n := 0) (by decide +kernel) (by decide) (jo_pfi (j := 1) jw_F4 (by decide) kw_57 rfl rfl (by decide +kernel) (jo_ici (n := 0) (by decide +kernel) (by decide) (jo_isn (i := 2) (j := 2) (by decide +kernel) rfl (by decide) jo_J)))))
theorem ss_4_become (l : Launch) : jw_Met l yy_4_become cb_4_become 3 none { frames := 1, cells := 0, slots := 0, locals := 21 } cc_4_become := by
  refine jw_met (by decide) (fun pc => ?_)
  intro p e s m args below meth c Q D aC ad base K X RT ls st h z hf
  unfold qq_4_become at hf
  by_cases h0 : pc = 0
  · subst h0; simp only [if_true, if_false, reduceIte, ↓reduceIte] at hf; exact sb_4_become_0 l p e s m args below meth c Q D aC ad base K X RT ls st h z hf
  rw [if_neg h0] at hf
  by_cases h7 : pc = 7
  · subst h7; simp only [if_true, if_false, reduceIte, ↓reduceIte] at hf; exact sb_4_become_7 l p e s m args below meth c Q D aC ad base K X RT ls st h z hf
  rw [if_neg h7] at hf
  exact hf.elim
abbrev cb_5_isSound : ByteArray := prog_7_method_8_code
abbrev yy_5_isSound : MethodName := ⟨"SwipedStripe$Rules", "isSound", "()Z"⟩
def bb_5_isSound_42 (K : jw_K) (J : Nat → jw_S) : jw_S := xo_rz 0 0 K
def bb_5_isSound_41 (K : jw_K) (J : Nat → jw_S) : jw_S := xo_ci 0 (bb_5_isSound_42 K J)
def bb_5_isSound_0 (K : jw_K) (J : Nat → jw_S) : jw_S := xo_al 0 (xo_al 0 (xo_ci 2 (xo_cv 5 cc_5_of 2 (xo_cv 5 cc_5_isValue 2 (xo_zeq (bb_5_isSound_41 K J) (xo_al 0 (xo_al 0 (xo_ci 3 (xo_cv 5 cc_5_of 2 (xo_cv 5 cc_5_isValue 2 (xo_zeq (bb_5_isSound_41 K J) (xo_al 0 (xo_ci 2 (xo_cv 5 cc_5_of 2 (xo_al 0 (xo_ci 3 (xo_cv 5 cc_5_of 2 (xo_ceq (bb_5_isSound_41 K J) (xo_ci 1 (bb_5_isSound_42 K J))))))))))))))))))))
def qq_5_isSound (K : jw_K) (pc : Nat) (J : Nat → jw_S) : jw_S := if pc = 0 then bb_5_isSound_0 K J else fun _ _ _ _ => False
def cc_5_isSound : jw_T := jw_C 1 qq_5_isSound
theorem sb_5_isSound_42 (l : Launch) : jo_Ok l cb_5_isSound 1 "SwipedStripe$Rules" "isSound" jw_ro { frames := 3, cells := 0, slots := 0, locals := 63 } (some .boolean) 0 0 bb_5_isSound_42 42 := (jo_rz rfl (by decide +kernel))
theorem sb_5_isSound_41 (l : Launch) : jo_Ok l cb_5_isSound 1 "SwipedStripe$Rules" "isSound" jw_ro { frames := 3, cells := 0, slots := 0, locals := 63 } (some .boolean) 0 0 bb_5_isSound_41 41 := (jo_ici (n := 0) (by decide +kernel) (by decide) (sb_5_isSound_42 l))
theorem sb_5_isSound_0 (l : Launch) : jo_Ok l cb_5_isSound 1 "SwipedStripe$Rules" "isSound" jw_ro { frames := 3, cells := 0, slots := 0, locals := 63 } (some .boolean) 0 0 bb_5_isSound_0 0 := (jo_aln (i := 0) (j := 0) (by decide +kernel) rfl (jo_aln (i := 0) (j := 0) (by decide +kernel) rfl (jo_ici (n := 2) (by decide +kernel) (by decide) (jo_cv (n := 1) (ss_5_of l) kw_457 kw_2 kw_454 kw_455 jw_F5 kw_456 ⟨by decide, by decide, by decide +kernel⟩ ⟨by decide, by decide⟩ (fun _ _ h => h) ⟨rfl, rfl⟩ (by decide +kernel) (jo_cv (n := 1) (ss_5_isValue l) kw_461 kw_2 kw_458 kw_459 jw_F5 kw_460 ⟨by decide, by decide, by decide +kernel⟩ ⟨by decide, by decide⟩ (fun _ _ h => h) ⟨rfl, rfl⟩ (by decide +kernel) (jo_zeq (off := 32) (tgt := 41) (by decide +kernel) (by decide) (sb_5_isSound_41 l) (jo_aln (i := 0) (j := 0) (by decide +kernel) rfl (jo_aln (i := 0) (j := 0) (by decide +kernel) rfl (jo_ici (n := 3) (by decide +kernel) (by decide) (jo_cv (n := 1) (ss_5_of l) kw_457 kw_2 kw_454 kw_455 jw_F5 kw_456 ⟨by decide, by decide, by decide +kernel⟩ ⟨by decide, by decide⟩ (fun _ _ h => h) ⟨rfl, rfl⟩ (by decide +kernel) (jo_cv (n := 1) (ss_5_isValue l) kw_461 kw_2 kw_458 kw_459 jw_F5 kw_460 ⟨by decide, by decide, by decide +kernel⟩ ⟨by decide, by decide⟩ (fun _ _ h => h) ⟨rfl, rfl⟩ (by decide +kernel) (jo_zeq (off := 20) (tgt := 41) (by decide +kernel) (by decide) (sb_5_isSound_41 l) (jo_aln (i := 0) (j := 0) (by decide +kernel) rfl (jo_ici (n := 2) (by decide +kernel) (by decide) (jo_cv (n := 1) (ss_5_of l) kw_457 kw_2 kw_454 kw_455 jw_F5 kw_456 ⟨by decide, by decide, by decide +kernel⟩ ⟨by decide, by decide⟩ (fun _ _ h => h) ⟨rfl, rfl⟩ (by decide +kernel) (jo_aln (i := 0) (j := 0) (by decide +kernel) rfl (jo_ici (n := 3) (by decide +kernel) (by decide) (jo_cv (n := 1) (ss_5_of l) kw_457 kw_2 kw_454 kw_455 jw_F5 kw_456 ⟨by decide, by decide, by decide +kernel⟩ ⟨by decide, by decide⟩ (fun _ _ h => h) ⟨rfl, rfl⟩ (by decide +kernel) (jo_ceq (off := 7) (tgt := 41) (by decide +kernel) (by decide) (sb_5_isSound_41 l) (jo_ici (n := 1) (by decide +kernel) (by decide) (jo_goto (off := 4) (tgt := 42) (by decide +kernel) (by decide) (sb_5_isSound_42 l))))))))))))))))))))))
theorem ss_5_isSound (l : Launch) : jw_Met l yy_5_isSound cb_5_isSound 1 (some .boolean) { frames := 3, cells := 0, slots := 0, locals := 63 } cc_5_isSound := by
  refine jw_met (by decide) (fun pc => ?_)
  intro p e s m args below meth c Q D aC ad base K X RT ls st h z hf
  unfold qq_5_isSound at hf
  by_cases h0 : pc = 0
  · subst h0; simp only [if_true, if_false, reduceIte, ↓reduceIte] at hf; exact sb_5_isSound_0 l p e s m args below meth c Q D aC ad base K X RT ls st h z hf
  rw [if_neg h0] at hf
  exact hf.elim
abbrev cb_9_refuse : ByteArray := prog_11_method_9_code
abbrev yy_9_refuse : MethodName := ⟨"SwipedStripe$TextReader", "refuse", "(II)V"⟩
def bb_9_refuse_17 (K : jw_K) (J : Nat → jw_S) : jw_S := xo_rv 0 0 K
def bb_9_refuse_0 (K : jw_K) (J : Nat → jw_S) : jw_S := xo_al 0 (xo_gf 9 4 (xo_zne (bb_9_refuse_17 K J) (xo_al 0 (xo_il 1 (xo_pfi 9 4 (xo_al 0 (xo_il 2 (xo_pfi 9 5 (bb_9_refuse_17 K J)))))))))
def qq_9_refuse (K : jw_K) (pc : Nat) (J : Nat → jw_S) : jw_S := if pc = 0 then bb_9_refuse_0 K J else fun _ _ _ _ => False
def cc_9_refuse : jw_T := jw_C 3 qq_9_refuse
theorem sb_9_refuse_17 (l : Launch) : jo_Ok l cb_9_refuse 3 "SwipedStripe$TextReader" "refuse" jw_ro { frames := 0, cells := 0, slots := 0, locals := 0 } none 0 0 bb_9_refuse_17 17 := (jo_rv rfl (by decide +kernel))
theorem sb_9_refuse_0 (l : Launch) : jo_Ok l cb_9_refuse 3 "SwipedStripe$TextReader" "refuse" jw_ro { frames := 0, cells := 0, slots := 0, locals := 0 } none 0 0 bb_9_refuse_0 0 := (jo_aln (i := 0) (j := 0) (by decide +kernel) rfl (jo_gf (j := 4) jw_F9 (by decide) kw_77 (by decide +kernel) (jo_zne (off := 13) (tgt := 17) (by decide +kernel) (by decide) (sb_9_refuse_17 l) (jo_aln (i := 0) (j := 0) (by decide +kernel) rfl (jo_iln (i := 1) (j := 1) (by decide +kernel) rfl (jo_pfi (j := 4) jw_F9 (by decide) kw_77 rfl rfl (by decide +kernel) (jo_aln (i := 0) (j := 0) (by decide +kernel) rfl (jo_iln (i := 2) (j := 2) (by decide +kernel) rfl (jo_pfi (j := 5) jw_F9 (by decide) kw_78 rfl rfl (by decide +kernel) (sb_9_refuse_17 l))))))))))
theorem ss_9_refuse (l : Launch) : jw_Met l yy_9_refuse cb_9_refuse 3 none { frames := 0, cells := 0, slots := 0, locals := 0 } cc_9_refuse := by
  refine jw_met (by decide) (fun pc => ?_)
  intro p e s m args below meth c Q D aC ad base K X RT ls st h z hf
  unfold qq_9_refuse at hf
  by_cases h0 : pc = 0
  · subst h0; simp only [if_true, if_false, reduceIte, ↓reduceIte] at hf; exact sb_9_refuse_0 l p e s m args below meth c Q D aC ad base K X RT ls st h z hf
  rw [if_neg h0] at hf
  exact hf.elim
abbrev cb_5_set : ByteArray := prog_7_method_4_code
abbrev yy_5_set : MethodName := ⟨"SwipedStripe$Rules", "set", "(II)V"⟩
def bb_5_set_20 (K : jw_K) (J : Nat → jw_S) : jw_S := xo_rv 0 0 K
def bb_5_set_0 (K : jw_K) (J : Nat → jw_S) : jw_S := xo_il 1 (xo_zlt (bb_5_set_20 K J) (xo_il 1 (xo_al 0 (xo_gf 5 0 (xo_alen jw_ro (xo_cge (bb_5_set_20 K J) (xo_al 0 (xo_gf 5 0 (xo_il 1 (xo_il 2 (xo_iast (bb_5_set_20 K J))))))))))))
def qq_5_set (K : jw_K) (pc : Nat) (J : Nat → jw_S) : jw_S := if pc = 0 then bb_5_set_0 K J else fun _ _ _ _ => False
def cc_5_set : jw_T := jw_C 3 qq_5_set
theorem sb_5_set_20 (l : Launch) : jo_Ok l cb_5_set 3 "SwipedStripe$Rules" "set" jw_ro { frames := 0, cells := 0, slots := 0, locals := 0 } none 0 0 bb_5_set_20 20 := (jo_rv rfl (by decide +kernel))
theorem sb_5_set_0 (l : Launch) : jo_Ok l cb_5_set 3 "SwipedStripe$Rules" "set" jw_ro { frames := 0, cells := 0, slots := 0, locals := 0 } none 0 0 bb_5_set_0 0 := (jo_iln (i := 1) (j := 1) (by decide +kernel) rfl (jo_zlt (off := 19) (tgt := 20) (by decide +kernel) (by decide) (sb_5_set_20 l) (jo_iln (i := 1) (j := 1) (by decide +kernel) rfl (jo_aln (i := 0) (j := 0) (by decide +kernel) rfl (jo_gf (j := 0) jw_F5 (by decide) kw_42 (by decide +kernel) (jo_alen (by decide +kernel) (jo_cge (off := 10) (tgt := 20) (by decide +kernel) (by decide) (sb_5_set_20 l) (jo_aln (i := 0) (j := 0) (by decide +kernel) rfl (jo_gf (j := 0) jw_F5 (by decide) kw_42 (by decide +kernel) (jo_iln (i := 1) (j := 1) (by decide +kernel) rfl (jo_iln (i := 2) (j := 2) (by decide +kernel) rfl (jo_iast (by decide +kernel) (sb_5_set_20 l)))))))))))))
theorem ss_5_set (l : Launch) : jw_Met l yy_5_set cb_5_set 3 none { frames := 0, cells := 0, slots := 0, locals := 0 } cc_5_set := by
  refine jw_met (by decide) (fun pc => ?_)
  intro p e s m args below meth c Q D aC ad base K X RT ls st h z hf
  unfold qq_5_set at hf
  by_cases h0 : pc = 0
  · subst h0; simp only [if_true, if_false, reduceIte, ↓reduceIte] at hf; exact sb_5_set_0 l p e s m args below meth c Q D aC ad base K X RT ls st h z hf
  rw [if_neg h0] at hf
  exact hf.elim
abbrev cb_9_standsHere : ByteArray := prog_11_method_8_code
abbrev yy_9_standsHere : MethodName := ⟨"SwipedStripe$TextReader", "standsHere", "(I)Z"⟩
def bb_9_standsHere_30 (K : jw_K) (J : Nat → jw_S) : jw_S := xo_rz 0 0 K
def bb_9_standsHere_29 (K : jw_K) (J : Nat → jw_S) : jw_S := xo_ci 0 (bb_9_standsHere_30 K J)
def bb_9_standsHere_17 (K : jw_K) (J : Nat → jw_S) : jw_S := xo_al 0 (xo_gf 9 6 (xo_il 1 (xo_cne (bb_9_standsHere_29 K J) (xo_ci 1 (bb_9_standsHere_30 K J)))))
def bb_9_standsHere_0 (K : jw_K) (J : Nat → jw_S) : jw_S := xo_al 0 (xo_gf 9 6 (xo_il 1 (xo_ceq (bb_9_standsHere_17 K J) (xo_al 0 (xo_ci 2 (xo_al 0 (xo_gf 9 7 (xo_cv 9 cc_9_refuse 3 (bb_9_standsHere_17 K J)))))))))
def qq_9_standsHere (K : jw_K) (pc : Nat) (J : Nat → jw_S) : jw_S := if pc = 0 then bb_9_standsHere_0 K J else fun _ _ _ _ => False
def cc_9_standsHere : jw_T := jw_C 2 qq_9_standsHere
theorem sb_9_standsHere_30 (l : Launch) : jo_Ok l cb_9_standsHere 2 "SwipedStripe$TextReader" "standsHere" jw_ro { frames := 1, cells := 0, slots := 0, locals := 22 } (some .boolean) 0 0 bb_9_standsHere_30 30 := (jo_rz rfl (by decide +kernel))
theorem sb_9_standsHere_29 (l : Launch) : jo_Ok l cb_9_standsHere 2 "SwipedStripe$TextReader" "standsHere" jw_ro { frames := 1, cells := 0, slots := 0, locals := 22 } (some .boolean) 0 0 bb_9_standsHere_29 29 := (jo_ici (n := 0) (by decide +kernel) (by decide) (sb_9_standsHere_30 l))
theorem sb_9_standsHere_17 (l : Launch) : jo_Ok l cb_9_standsHere 2 "SwipedStripe$TextReader" "standsHere" jw_ro { frames := 1, cells := 0, slots := 0, locals := 22 } (some .boolean) 0 0 bb_9_standsHere_17 17 := (jo_aln (i := 0) (j := 0) (by decide +kernel) rfl (jo_gf (j := 6) jw_F9 (by decide) kw_79 (by decide +kernel) (jo_iln (i := 1) (j := 1) (by decide +kernel) rfl (jo_cne (off := 7) (tgt := 29) (by decide +kernel) (by decide) (sb_9_standsHere_29 l) (jo_ici (n := 1) (by decide +kernel) (by decide) (jo_goto (off := 4) (tgt := 30) (by decide +kernel) (by decide) (sb_9_standsHere_30 l)))))))
theorem sb_9_standsHere_0 (l : Launch) : jo_Ok l cb_9_standsHere 2 "SwipedStripe$TextReader" "standsHere" jw_ro { frames := 1, cells := 0, slots := 0, locals := 22 } (some .boolean) 0 0 bb_9_standsHere_0 0 := (jo_aln (i := 0) (j := 0) (by decide +kernel) rfl (jo_gf (j := 6) jw_F9 (by decide) kw_79 (by decide +kernel) (jo_iln (i := 1) (j := 1) (by decide +kernel) rfl (jo_ceq (off := 12) (tgt := 17) (by decide +kernel) (by decide) (sb_9_standsHere_17 l) (jo_aln (i := 0) (j := 0) (by decide +kernel) rfl (jo_ici (n := 2) (by decide +kernel) (by decide) (jo_aln (i := 0) (j := 0) (by decide +kernel) rfl (jo_gf (j := 7) jw_F9 (by decide) kw_80 (by decide +kernel) (jo_cv (n := 2) (ss_9_refuse l) kw_428 kw_5 kw_425 kw_427 jw_F9 kp_6 ⟨by decide, by decide, by decide +kernel⟩ ⟨by decide, by decide⟩ (fun _ _ h => h) ⟨rfl, rfl⟩ (by decide +kernel) (sb_9_standsHere_17 l))))))))))
theorem ss_9_standsHere (l : Launch) : jw_Met l yy_9_standsHere cb_9_standsHere 2 (some .boolean) { frames := 1, cells := 0, slots := 0, locals := 22 } cc_9_standsHere := by
  refine jw_met (by decide) (fun pc => ?_)
  intro p e s m args below meth c Q D aC ad base K X RT ls st h z hf
  unfold qq_9_standsHere at hf
  by_cases h0 : pc = 0
  · subst h0; simp only [if_true, if_false, reduceIte, ↓reduceIte] at hf; exact sb_9_standsHere_0 l p e s m args below meth c Q D aC ad base K X RT ls st h z hf
  rw [if_neg h0] at hf
  exact hf.elim
abbrev cb_9_isBetween : ByteArray := prog_11_method_11_code
abbrev yy_9_isBetween : MethodName := ⟨"SwipedStripe$TextReader", "isBetween", "(ICC)Z"⟩
def bb_9_isBetween_40 (K : jw_K) (J : Nat → jw_S) : jw_S := xo_rz 0 0 K
def bb_9_isBetween_39 (K : jw_K) (J : Nat → jw_S) : jw_S := xo_ci 0 (bb_9_isBetween_40 K J)
def bb_9_isBetween_0 (K : jw_K) (J : Nat → jw_S) : jw_S := xo_al 0 (xo_gf 9 0 (xo_il 1 (xo_cv 4 cc_4_has 2 (xo_zeq (bb_9_isBetween_39 K J) (xo_al 0 (xo_gf 9 0 (xo_il 1 (xo_cv 4 cc_4_at 2 (xo_il 2 (xo_clt (bb_9_isBetween_39 K J) (xo_al 0 (xo_gf 9 0 (xo_il 1 (xo_cv 4 cc_4_at 2 (xo_il 3 (xo_cgt (bb_9_isBetween_39 K J) (xo_ci 1 (bb_9_isBetween_40 K J))))))))))))))))))
def qq_9_isBetween (K : jw_K) (pc : Nat) (J : Nat → jw_S) : jw_S := if pc = 0 then bb_9_isBetween_0 K J else fun _ _ _ _ => False
def cc_9_isBetween : jw_T := jw_C 4 qq_9_isBetween
theorem sb_9_isBetween_40 (l : Launch) : jo_Ok l cb_9_isBetween 4 "SwipedStripe$TextReader" "isBetween" jw_ro { frames := 1, cells := 0, slots := 0, locals := 21 } (some .boolean) 0 0 bb_9_isBetween_40 40 := (jo_rz rfl (by decide +kernel))
theorem sb_9_isBetween_39 (l : Launch) : jo_Ok l cb_9_isBetween 4 "SwipedStripe$TextReader" "isBetween" jw_ro { frames := 1, cells := 0, slots := 0, locals := 21 } (some .boolean) 0 0 bb_9_isBetween_39 39 := (jo_ici (n := 0) (by decide +kernel) (by decide) (sb_9_isBetween_40 l))
theorem sb_9_isBetween_0 (l : Launch) : jo_Ok l cb_9_isBetween 4 "SwipedStripe$TextReader" "isBetween" jw_ro { frames := 1, cells := 0, slots := 0, locals := 21 } (some .boolean) 0 0 bb_9_isBetween_0 0 := (jo_aln (i := 0) (j := 0) (by decide +kernel) rfl (jo_gf (j := 0) jw_F9 (by decide) kw_73 (by decide +kernel) (jo_iln (i := 1) (j := 1) (by decide +kernel) rfl (jo_cv (n := 1) (ss_4_has l) kw_346 kw_3 kw_343 kw_344 jw_F4 kw_345 ⟨by decide, by decide, by decide +kernel⟩ ⟨by decide, by decide⟩ (fun _ _ h => h) ⟨rfl, rfl⟩ (by decide +kernel) (jo_zeq (off := 31) (tgt := 39) (by decide +kernel) (by decide) (sb_9_isBetween_39 l) (jo_aln (i := 0) (j := 0) (by decide +kernel) rfl (jo_gf (j := 0) jw_F9 (by decide) kw_73 (by decide +kernel) (jo_iln (i := 1) (j := 1) (by decide +kernel) rfl (jo_cv (n := 1) (ss_4_at l) kw_330 kw_3 kw_338 kw_328 jw_F4 kw_329 ⟨by decide, by decide, by decide +kernel⟩ ⟨by decide, by decide⟩ (fun _ _ h => h) ⟨rfl, rfl⟩ (by decide +kernel) (jo_iln (i := 2) (j := 2) (by decide +kernel) rfl (jo_clt (off := 19) (tgt := 39) (by decide +kernel) (by decide) (sb_9_isBetween_39 l) (jo_aln (i := 0) (j := 0) (by decide +kernel) rfl (jo_gf (j := 0) jw_F9 (by decide) kw_73 (by decide +kernel) (jo_iln (i := 1) (j := 1) (by decide +kernel) rfl (jo_cv (n := 1) (ss_4_at l) kw_330 kw_3 kw_338 kw_328 jw_F4 kw_329 ⟨by decide, by decide, by decide +kernel⟩ ⟨by decide, by decide⟩ (fun _ _ h => h) ⟨rfl, rfl⟩ (by decide +kernel) (jo_iln (i := 3) (j := 3) (by decide +kernel) rfl (jo_cgt (off := 7) (tgt := 39) (by decide +kernel) (by decide) (sb_9_isBetween_39 l) (jo_ici (n := 1) (by decide +kernel) (by decide) (jo_goto (off := 4) (tgt := 40) (by decide +kernel) (by decide) (sb_9_isBetween_40 l))))))))))))))))))))
theorem ss_9_isBetween (l : Launch) : jw_Met l yy_9_isBetween cb_9_isBetween 4 (some .boolean) { frames := 1, cells := 0, slots := 0, locals := 21 } cc_9_isBetween := by
  refine jw_met (by decide) (fun pc => ?_)
  intro p e s m args below meth c Q D aC ad base K X RT ls st h z hf
  unfold qq_9_isBetween at hf
  by_cases h0 : pc = 0
  · subst h0; simp only [if_true, if_false, reduceIte, ↓reduceIte] at hf; exact sb_9_isBetween_0 l p e s m args below meth c Q D aC ad base K X RT ls st h z hf
  rw [if_neg h0] at hf
  exact hf.elim
abbrev cb_9_numberFrom : ByteArray := prog_11_method_13_code
abbrev yy_9_numberFrom : MethodName := ⟨"SwipedStripe$TextReader", "numberFrom", "(II)I"⟩
def bb_9_numberFrom_45 (K : jw_K) (J : Nat → jw_S) : jw_S := xo_il 3 (xo_ri 0 0 K)
def bb_9_numberFrom_13 (K : jw_K) (J : Nat → jw_S) : jw_S := xo_il 4 (xo_il 2 (xo_cge (bb_9_numberFrom_45 K J) (xo_ci 10 (xo_il 3 (xo_imul (xo_al 0 (xo_gf 9 0 (xo_il 1 (xo_il 4 (xo_iadd (xo_cv 4 cc_4_at 2 (xo_iadd (xo_ci 48 (xo_isub (xo_is 3 (xo_ic 4 1 (J 13)))))))))))))))))
def bb_9_numberFrom_8 (K : jw_K) (J : Nat → jw_S) : jw_S := xo_ci 0 (xo_is 3 (xo_ci 0 (xo_is 4 (J 13))))
def bb_9_numberFrom_0 (K : jw_K) (J : Nat → jw_S) : jw_S := xo_il 2 (xo_ci 2 (xo_cle (bb_9_numberFrom_8 K J) (xo_ci (-4) (xo_ri 0 0 K))))
def qq_9_numberFrom (K : jw_K) (pc : Nat) (J : Nat → jw_S) : jw_S := if pc = 0 then bb_9_numberFrom_0 K J else if pc = 13 then bb_9_numberFrom_13 K J else fun _ _ _ _ => False
def cc_9_numberFrom : jw_T := jw_C 5 qq_9_numberFrom
theorem sb_9_numberFrom_45 (l : Launch) : jo_Ok l cb_9_numberFrom 5 "SwipedStripe$TextReader" "numberFrom" jw_ro { frames := 1, cells := 0, slots := 0, locals := 21 } (some .int) 0 0 bb_9_numberFrom_45 45 := (jo_iln (i := 3) (j := 3) (by decide +kernel) rfl (jo_ri rfl (by decide +kernel)))
theorem sb_9_numberFrom_13 (l : Launch) : jo_Ok l cb_9_numberFrom 5 "SwipedStripe$TextReader" "numberFrom" jw_ro { frames := 1, cells := 0, slots := 0, locals := 21 } (some .int) 0 0 bb_9_numberFrom_13 13 := (jo_il (by decide +kernel) (jo_iln (i := 2) (j := 2) (by decide +kernel) rfl (jo_cge (off := 29) (tgt := 45) (by decide +kernel) (by decide) (sb_9_numberFrom_45 l) (jo_bpi (n := 10) (by decide +kernel) (by decide) (jo_iln (i := 3) (j := 3) (by decide +kernel) rfl (jo_imul (by decide +kernel) (jo_aln (i := 0) (j := 0) (by decide +kernel) rfl (jo_gf (j := 0) jw_F9 (by decide) kw_73 (by decide +kernel) (jo_iln (i := 1) (j := 1) (by decide +kernel) rfl (jo_il (by decide +kernel) (jo_iadd (by decide +kernel) (jo_cv (n := 1) (ss_4_at l) kw_330 kw_3 kw_338 kw_328 jw_F4 kw_329 ⟨by decide, by decide, by decide +kernel⟩ ⟨by decide, by decide⟩ (fun _ _ h => h) ⟨rfl, rfl⟩ (by decide +kernel) (jo_iadd (by decide +kernel) (jo_bpi (n := 48) (by decide +kernel) (by decide) (jo_isub (by decide +kernel) (jo_isn (i := 3) (j := 3) (by decide +kernel) rfl (by decide) (jo_ic (n0 := 1) (by decide +kernel) (by decide) (by decide) (jo_goto (off := -29) (tgt := 13) (by decide +kernel) (by decide) (jo_J)))))))))))))))))))
theorem sb_9_numberFrom_8 (l : Launch) : jo_Ok l cb_9_numberFrom 5 "SwipedStripe$TextReader" "numberFrom" jw_ro { frames := 1, cells := 0, slots := 0, locals := 21 } (some .int) 0 0 bb_9_numberFrom_8 8 := (jo_ici (n := 0) (by decide +kernel) (by decide) (jo_isn (i := 3) (j := 3) (by decide +kernel) rfl (by decide) (jo_ici (n := 0) (by decide +kernel) (by decide) (jo_is (by decide +kernel) (by decide) jo_J))))
theorem sb_9_numberFrom_0 (l : Launch) : jo_Ok l cb_9_numberFrom 5 "SwipedStripe$TextReader" "numberFrom" jw_ro { frames := 1, cells := 0, slots := 0, locals := 21 } (some .int) 0 0 bb_9_numberFrom_0 0 := (jo_iln (i := 2) (j := 2) (by decide +kernel) rfl (jo_ici (n := 2) (by decide +kernel) (by decide) (jo_cle (off := 6) (tgt := 8) (by decide +kernel) (by decide) (sb_9_numberFrom_8 l) (jo_bpi (n := -4) (by decide +kernel) (by decide) (jo_ri rfl (by decide +kernel))))))
theorem ss_9_numberFrom (l : Launch) : jw_Met l yy_9_numberFrom cb_9_numberFrom 5 (some .int) { frames := 1, cells := 0, slots := 0, locals := 21 } cc_9_numberFrom := by
  refine jw_met (by decide) (fun pc => ?_)
  intro p e s m args below meth c Q D aC ad base K X RT ls st h z hf
  unfold qq_9_numberFrom at hf
  by_cases h0 : pc = 0
  · subst h0; simp only [if_true, if_false, reduceIte, ↓reduceIte] at hf; exact sb_9_numberFrom_0 l p e s m args below meth c Q D aC ad base K X RT ls st h z hf
  rw [if_neg h0] at hf
  by_cases h13 : pc = 13
  · subst h13; simp only [if_true, if_false, reduceIte, ↓reduceIte] at hf; exact sb_9_numberFrom_13 l p e s m args below meth c Q D aC ad base K X RT ls st h z hf
  rw [if_neg h13] at hf
  exact hf.elim
abbrev cb_9_passBetween : ByteArray := prog_11_method_12_code
abbrev yy_9_passBetween : MethodName := ⟨"SwipedStripe$TextReader", "passBetween", "(CC)V"⟩
def bb_9_passBetween_40 (K : jw_K) (J : Nat → jw_S) : jw_S := xo_rv 0 0 K
def bb_9_passBetween_0 (K : jw_K) (J : Nat → jw_S) : jw_S := xo_al 0 (xo_gf 9 8 (xo_al 0 (xo_gf 9 0 (xo_cv 4 cc_4_size 1 (xo_cge (bb_9_passBetween_40 K J) (xo_al 0 (xo_al 0 (xo_gf 9 8 (xo_il 1 (xo_il 2 (xo_cv 9 cc_9_isBetween 4 (xo_zeq (bb_9_passBetween_40 K J) (xo_al 0 (xo_dup (xo_gf 9 8 (xo_ci 1 (xo_iadd (xo_pfi 9 8 (J 0)))))))))))))))))))
def qq_9_passBetween (K : jw_K) (pc : Nat) (J : Nat → jw_S) : jw_S := if pc = 0 then bb_9_passBetween_0 K J else fun _ _ _ _ => False
def cc_9_passBetween : jw_T := jw_C 3 qq_9_passBetween
theorem sb_9_passBetween_40 (l : Launch) : jo_Ok l cb_9_passBetween 3 "SwipedStripe$TextReader" "passBetween" jw_ro { frames := 2, cells := 0, slots := 0, locals := 44 } none 0 0 bb_9_passBetween_40 40 := (jo_rv rfl (by decide +kernel))
theorem sb_9_passBetween_0 (l : Launch) : jo_Ok l cb_9_passBetween 3 "SwipedStripe$TextReader" "passBetween" jw_ro { frames := 2, cells := 0, slots := 0, locals := 44 } none 0 0 bb_9_passBetween_0 0 := (jo_aln (i := 0) (j := 0) (by decide +kernel) rfl (jo_gf (j := 8) jw_F9 (by decide) kw_81 (by decide +kernel) (jo_aln (i := 0) (j := 0) (by decide +kernel) rfl (jo_gf (j := 0) jw_F9 (by decide) kw_73 (by decide +kernel) (jo_cv (n := 0) (ss_4_size l) kw_301 kw_3 kw_337 kw_299 jw_F4 kw_300 ⟨by decide, by decide, by decide +kernel⟩ ⟨by decide, by decide⟩ (fun _ _ h => h) ⟨rfl, rfl⟩ (by decide +kernel) (jo_cge (off := 29) (tgt := 40) (by decide +kernel) (by decide) (sb_9_passBetween_40 l) (jo_aln (i := 0) (j := 0) (by decide +kernel) rfl (jo_aln (i := 0) (j := 0) (by decide +kernel) rfl (jo_gf (j := 8) jw_F9 (by decide) kw_81 (by decide +kernel) (jo_iln (i := 1) (j := 1) (by decide +kernel) rfl (jo_iln (i := 2) (j := 2) (by decide +kernel) rfl (jo_cv (n := 3) (ss_9_isBetween l) kw_342 kw_5 kw_339 kw_341 jw_F9 kp_1 ⟨by decide, by decide, by decide +kernel⟩ ⟨by decide, by decide⟩ (fun _ _ h => h) ⟨rfl, rfl⟩ (by decide +kernel) (jo_zeq (off := 16) (tgt := 40) (by decide +kernel) (by decide) (sb_9_passBetween_40 l) (jo_aln (i := 0) (j := 0) (by decide +kernel) rfl (jo_dup (by decide +kernel) (jo_gf (j := 8) jw_F9 (by decide) kw_81 (by decide +kernel) (jo_ici (n := 1) (by decide +kernel) (by decide) (jo_iadd (by decide +kernel) (jo_pfi (j := 8) jw_F9 (by decide) kw_81 rfl rfl (by decide +kernel) (jo_goto (off := -37) (tgt := 0) (by decide +kernel) (by decide) (jo_J)))))))))))))))))))))
theorem ss_9_passBetween (l : Launch) : jw_Met l yy_9_passBetween cb_9_passBetween 3 none { frames := 2, cells := 0, slots := 0, locals := 44 } cc_9_passBetween := by
  refine jw_met (by decide) (fun pc => ?_)
  intro p e s m args below meth c Q D aC ad base K X RT ls st h z hf
  unfold qq_9_passBetween at hf
  by_cases h0 : pc = 0
  · subst h0; simp only [if_true, if_false, reduceIte, ↓reduceIte] at hf; exact sb_9_passBetween_0 l p e s m args below meth c Q D aC ad base K X RT ls st h z hf
  rw [if_neg h0] at hf
  exact hf.elim
abbrev cb_9_wordAt : ByteArray := prog_11_method_16_code
abbrev yy_9_wordAt : MethodName := ⟨"SwipedStripe$TextReader", "wordAt", "(I)Ljava/lang/String;"⟩
def bb_9_wordAt_86 (K : jw_K) (J : Nat → jw_S) : jw_S := xo_gs 2010 (xo_ra 0 0 K)
def bb_9_wordAt_83 (K : jw_K) (J : Nat → jw_S) : jw_S := xo_gs 2009 (xo_ra 0 0 K)
def bb_9_wordAt_80 (K : jw_K) (J : Nat → jw_S) : jw_S := xo_gs 2008 (xo_ra 0 0 K)
def bb_9_wordAt_77 (K : jw_K) (J : Nat → jw_S) : jw_S := xo_gs 2007 (xo_ra 0 0 K)
def bb_9_wordAt_74 (K : jw_K) (J : Nat → jw_S) : jw_S := xo_gs 2006 (xo_ra 0 0 K)
def bb_9_wordAt_71 (K : jw_K) (J : Nat → jw_S) : jw_S := xo_gs 2005 (xo_ra 0 0 K)
def bb_9_wordAt_68 (K : jw_K) (J : Nat → jw_S) : jw_S := xo_gs 2004 (xo_ra 0 0 K)
def bb_9_wordAt_65 (K : jw_K) (J : Nat → jw_S) : jw_S := xo_gs 2003 (xo_ra 0 0 K)
def bb_9_wordAt_62 (K : jw_K) (J : Nat → jw_S) : jw_S := xo_gs 2002 (xo_ra 0 0 K)
def bb_9_wordAt_59 (K : jw_K) (J : Nat → jw_S) : jw_S := xo_gs 2001 (xo_ra 0 0 K)
def bb_9_wordAt_56 (K : jw_K) (J : Nat → jw_S) : jw_S := xo_gs 2000 (xo_ra 0 0 K)
def bb_9_wordAt_0 (K : jw_K) (J : Nat → jw_S) : jw_S := xo_il 0 (xo_ts 0 9 ([fun K J => bb_9_wordAt_56 K J, fun K J => bb_9_wordAt_59 K J, fun K J => bb_9_wordAt_62 K J, fun K J => bb_9_wordAt_65 K J, fun K J => bb_9_wordAt_68 K J, fun K J => bb_9_wordAt_71 K J, fun K J => bb_9_wordAt_74 K J, fun K J => bb_9_wordAt_77 K J, fun K J => bb_9_wordAt_80 K J, fun K J => bb_9_wordAt_83 K J].map (fun f => f K J)) (bb_9_wordAt_86 K J))
def qq_9_wordAt (K : jw_K) (pc : Nat) (J : Nat → jw_S) : jw_S := if pc = 0 then bb_9_wordAt_0 K J else fun _ _ _ _ => False
def cc_9_wordAt : jw_T := jw_C 1 qq_9_wordAt
theorem sb_9_wordAt_86 (l : Launch) : jo_Ok l cb_9_wordAt 1 "SwipedStripe$TextReader" "wordAt" jw_ro { frames := 0, cells := 0, slots := 0, locals := 0 } (some (.object "java/lang/String")) 0 0 bb_9_wordAt_86 86 := (jo_ldcS (idx := 160) (tx := "clock") (by decide) (by decide +kernel) (jo_ra ⟨_, rfl⟩ (by decide +kernel)))
theorem sb_9_wordAt_83 (l : Launch) : jo_Ok l cb_9_wordAt 1 "SwipedStripe$TextReader" "wordAt" jw_ro { frames := 0, cells := 0, slots := 0, locals := 0 } (some (.object "java/lang/String")) 0 0 bb_9_wordAt_83 83 := (jo_ldcS (idx := 158) (tx := "plain") (by decide) (by decide +kernel) (jo_ra ⟨_, rfl⟩ (by decide +kernel)))
theorem sb_9_wordAt_80 (l : Launch) : jo_Ok l cb_9_wordAt 1 "SwipedStripe$TextReader" "wordAt" jw_ro { frames := 0, cells := 0, slots := 0, locals := 0 } (some (.object "java/lang/String")) 0 0 bb_9_wordAt_80 80 := (jo_ldcS (idx := 156) (tx := "checked") (by decide) (by decide +kernel) (jo_ra ⟨_, rfl⟩ (by decide +kernel)))
theorem sb_9_wordAt_77 (l : Launch) : jo_Ok l cb_9_wordAt 1 "SwipedStripe$TextReader" "wordAt" jw_ro { frames := 0, cells := 0, slots := 0, locals := 0 } (some (.object "java/lang/String")) 0 0 bb_9_wordAt_77 77 := (jo_ldcS (idx := 154) (tx := "limit") (by decide) (by decide +kernel) (jo_ra ⟨_, rfl⟩ (by decide +kernel)))
theorem sb_9_wordAt_74 (l : Launch) : jo_Ok l cb_9_wordAt 1 "SwipedStripe$TextReader" "wordAt" jw_ro { frames := 0, cells := 0, slots := 0, locals := 0 } (some (.object "java/lang/String")) 0 0 bb_9_wordAt_74 74 := (jo_ldcS (idx := 152) (tx := "tail") (by decide) (by decide +kernel) (jo_ra ⟨_, rfl⟩ (by decide +kernel)))
theorem sb_9_wordAt_71 (l : Launch) : jo_Ok l cb_9_wordAt 1 "SwipedStripe$TextReader" "wordAt" jw_ro { frames := 0, cells := 0, slots := 0, locals := 0 } (some (.object "java/lang/String")) 0 0 bb_9_wordAt_71 71 := (jo_ldcS (idx := 150) (tx := "lead") (by decide) (by decide +kernel) (jo_ra ⟨_, rfl⟩ (by decide +kernel)))
theorem sb_9_wordAt_68 (l : Launch) : jo_Ok l cb_9_wordAt 1 "SwipedStripe$TextReader" "wordAt" jw_ro { frames := 0, cells := 0, slots := 0, locals := 0 } (some (.object "java/lang/String")) 0 0 bb_9_wordAt_68 68 := (jo_ldcS (idx := 148) (tx := "close") (by decide) (by decide +kernel) (jo_ra ⟨_, rfl⟩ (by decide +kernel)))
theorem sb_9_wordAt_65 (l : Launch) : jo_Ok l cb_9_wordAt 1 "SwipedStripe$TextReader" "wordAt" jw_ro { frames := 0, cells := 0, slots := 0, locals := 0 } (some (.object "java/lang/String")) 0 0 bb_9_wordAt_65 65 := (jo_ldcS (idx := 146) (tx := "begin") (by decide) (by decide +kernel) (jo_ra ⟨_, rfl⟩ (by decide +kernel)))
theorem sb_9_wordAt_62 (l : Launch) : jo_Ok l cb_9_wordAt 1 "SwipedStripe$TextReader" "wordAt" jw_ro { frames := 0, cells := 0, slots := 0, locals := 0 } (some (.object "java/lang/String")) 0 0 bb_9_wordAt_62 62 := (jo_ldcS (idx := 144) (tx := "even") (by decide) (by decide +kernel) (jo_ra ⟨_, rfl⟩ (by decide +kernel)))
theorem sb_9_wordAt_59 (l : Launch) : jo_Ok l cb_9_wordAt 1 "SwipedStripe$TextReader" "wordAt" jw_ro { frames := 0, cells := 0, slots := 0, locals := 0 } (some (.object "java/lang/String")) 0 0 bb_9_wordAt_59 59 := (jo_ldcS (idx := 142) (tx := "odd") (by decide) (by decide +kernel) (jo_ra ⟨_, rfl⟩ (by decide +kernel)))
theorem sb_9_wordAt_56 (l : Launch) : jo_Ok l cb_9_wordAt 1 "SwipedStripe$TextReader" "wordAt" jw_ro { frames := 0, cells := 0, slots := 0, locals := 0 } (some (.object "java/lang/String")) 0 0 bb_9_wordAt_56 56 := (jo_ldcS (idx := 140) (tx := "bits") (by decide) (by decide +kernel) (jo_ra ⟨_, rfl⟩ (by decide +kernel)))
theorem sb_9_wordAt_0 (l : Launch) : jo_Ok l cb_9_wordAt 1 "SwipedStripe$TextReader" "wordAt" jw_ro { frames := 0, cells := 0, slots := 0, locals := 0 } (some (.object "java/lang/String")) 0 0 bb_9_wordAt_0 0 := (jo_iln (i := 0) (j := 0) (by decide +kernel) rfl (jo_ts (dflt := 85) (offs := #[55, 58, 61, 64, 67, 70, 73, 76, 79, 82]) (len := 55) (tg := [56, 59, 62, 65, 68, 71, 74, 77, 80, 83]) (dt := 86) (by decide +kernel) (by decide) (by decide +kernel) (by decide) rfl (sb_9_wordAt_86 l) (fun i q f h1 h2 => by
    match i, h1, h2 with
    | 0, h1, h2 => cases h1; cases h2; exact (sb_9_wordAt_56 l)
    | 1, h1, h2 => cases h1; cases h2; exact (sb_9_wordAt_59 l)
    | 2, h1, h2 => cases h1; cases h2; exact (sb_9_wordAt_62 l)
    | 3, h1, h2 => cases h1; cases h2; exact (sb_9_wordAt_65 l)
    | 4, h1, h2 => cases h1; cases h2; exact (sb_9_wordAt_68 l)
    | 5, h1, h2 => cases h1; cases h2; exact (sb_9_wordAt_71 l)
    | 6, h1, h2 => cases h1; cases h2; exact (sb_9_wordAt_74 l)
    | 7, h1, h2 => cases h1; cases h2; exact (sb_9_wordAt_77 l)
    | 8, h1, h2 => cases h1; cases h2; exact (sb_9_wordAt_80 l)
    | 9, h1, h2 => cases h1; cases h2; exact (sb_9_wordAt_83 l)
    | i + 10, h1, h2 => simp at h1)))
theorem ss_9_wordAt (l : Launch) : jw_Met l yy_9_wordAt cb_9_wordAt 1 (some (.object "java/lang/String")) { frames := 0, cells := 0, slots := 0, locals := 0 } cc_9_wordAt := by
  refine jw_met (by decide) (fun pc => ?_)
  intro p e s m args below meth c Q D aC ad base K X RT ls st h z hf
  unfold qq_9_wordAt at hf
  by_cases h0 : pc = 0
  · subst h0; simp only [if_true, if_false, reduceIte, ↓reduceIte] at hf; exact sb_9_wordAt_0 l p e s m args below meth c Q D aC ad base K X RT ls st h z hf
  rw [if_neg h0] at hf
  exact hf.elim
abbrev cb_9_told : ByteArray := prog_11_method_2_code
abbrev yy_9_told : MethodName := ⟨"SwipedStripe$TextReader", "told", "()LSwipedStripe$Rules;"⟩
def bb_9_told_0 (K : jw_K) (J : Nat → jw_S) : jw_S := xo_al 0 (xo_gf 9 1 (xo_ra 0 0 K))
def qq_9_told (K : jw_K) (pc : Nat) (J : Nat → jw_S) : jw_S := if pc = 0 then bb_9_told_0 K J else fun _ _ _ _ => False
def cc_9_told : jw_T := jw_C 1 qq_9_told
theorem sb_9_told_0 (l : Launch) : jo_Ok l cb_9_told 1 "SwipedStripe$TextReader" "told" jw_ro { frames := 0, cells := 0, slots := 0, locals := 0 } (some (.object "SwipedStripe$Rules")) 0 0 bb_9_told_0 0 := (jo_aln (i := 0) (j := 0) (by decide +kernel) rfl (jo_gf (j := 1) jw_F9 (by decide) kw_74 (by decide +kernel) (jo_ra ⟨_, rfl⟩ (by decide +kernel))))
theorem ss_9_told (l : Launch) : jw_Met l yy_9_told cb_9_told 1 (some (.object "SwipedStripe$Rules")) { frames := 0, cells := 0, slots := 0, locals := 0 } cc_9_told := by
  refine jw_met (by decide) (fun pc => ?_)
  intro p e s m args below meth c Q D aC ad base K X RT ls st h z hf
  unfold qq_9_told at hf
  by_cases h0 : pc = 0
  · subst h0; simp only [if_true, if_false, reduceIte, ↓reduceIte] at hf; exact sb_9_told_0 l p e s m args below meth c Q D aC ad base K X RT ls st h z hf
  rw [if_neg h0] at hf
  exact hf.elim
abbrev cb_10_torn : ByteArray := prog_1_method_36_code
abbrev yy_10_torn : MethodName := ⟨"SwipedStripe", "torn", "()I"⟩
def bb_10_torn_0 (K : jw_K) (J : Nat → jw_S) : jw_S := xo_al 0 (xo_gf 10 12 (xo_ri 0 0 K))
def qq_10_torn (K : jw_K) (pc : Nat) (J : Nat → jw_S) : jw_S := if pc = 0 then bb_10_torn_0 K J else fun _ _ _ _ => False
def cc_10_torn : jw_T := jw_C 1 qq_10_torn
theorem sb_10_torn_0 (l : Launch) : jo_Ok l cb_10_torn 1 "SwipedStripe" "torn" jw_ro { frames := 0, cells := 0, slots := 0, locals := 0 } (some .int) 0 0 bb_10_torn_0 0 := (jo_aln (i := 0) (j := 0) (by decide +kernel) rfl (jo_gf (j := 12) jw_F10 (by decide) kw_266 (by decide +kernel) (jo_ri rfl (by decide +kernel))))
theorem ss_10_torn (l : Launch) : jw_Met l yy_10_torn cb_10_torn 1 (some .int) { frames := 0, cells := 0, slots := 0, locals := 0 } cc_10_torn := by
  refine jw_met (by decide) (fun pc => ?_)
  intro p e s m args below meth c Q D aC ad base K X RT ls st h z hf
  unfold qq_10_torn at hf
  by_cases h0 : pc = 0
  · subst h0; simp only [if_true, if_false, reduceIte, ↓reduceIte] at hf; exact sb_10_torn_0 l p e s m args below meth c Q D aC ad base K X RT ls st h z hf
  rw [if_neg h0] at hf
  exact hf.elim
abbrev cb_4_reverse : ByteArray := prog_6_method_13_code
abbrev yy_4_reverse : MethodName := ⟨"SwipedStripe$Row", "reverse", "()V"⟩
def bb_4_reverse_53 (K : jw_K) (J : Nat → jw_S) : jw_S := xo_rv 0 0 K
def bb_4_reverse_38 (K : jw_K) (J : Nat → jw_S) : jw_S := xo_iald jw_ro (xo_iast (xo_al 0 (xo_gf 4 0 (xo_il 2 (xo_il 3 (xo_iast (xo_ic 1 1 (J 2))))))))
def bb_4_reverse_2 (K : jw_K) (J : Nat → jw_S) : jw_S := xo_il 1 (xo_al 0 (xo_gf 4 1 (xo_ci 2 (xo_idiv (xo_cge (bb_4_reverse_53 K J) (xo_al 0 (xo_gf 4 1 (xo_ci 1 (xo_isub (xo_il 1 (xo_isub (xo_is 2 (xo_al 0 (xo_gf 4 0 (xo_il 1 (xo_iald jw_ro (xo_is 3 (xo_al 0 (xo_gf 4 0 (xo_il 1 (xo_al 0 (xo_gf 4 0 (xo_il 2 (bb_4_reverse_38 K J))))))))))))))))))))))))
def bb_4_reverse_0 (K : jw_K) (J : Nat → jw_S) : jw_S := xo_ci 0 (xo_is 1 (J 2))
def qq_4_reverse (K : jw_K) (pc : Nat) (J : Nat → jw_S) : jw_S := if pc = 0 then bb_4_reverse_0 K J else if pc = 2 then bb_4_reverse_2 K J else fun _ _ _ _ => False
def cc_4_reverse : jw_T := jw_C 4 qq_4_reverse
theorem sb_4_reverse_53 (l : Launch) : jo_Ok l cb_4_reverse 4 "SwipedStripe$Row" "reverse" jw_ro { frames := 0, cells := 0, slots := 0, locals := 0 } none 0 0 bb_4_reverse_53 53 := (jo_rv rfl (by decide +kernel))
theorem sb_4_reverse_38 (l : Launch) : jo_Ok l cb_4_reverse 4 "SwipedStripe$Row" "reverse" jw_ro { frames := 0, cells := 0, slots := 0, locals := 0 } none 0 0 bb_4_reverse_38 38 := (jo_iald (by decide +kernel) (jo_iast (by decide +kernel) (jo_aln (i := 0) (j := 0) (by decide +kernel) rfl (jo_gf (j := 0) jw_F4 (by decide) kw_56 (by decide +kernel) (jo_iln (i := 2) (j := 2) (by decide +kernel) rfl (jo_iln (i := 3) (j := 3) (by decide +kernel) rfl (jo_iast (by decide +kernel) (jo_ic (n0 := 1) (by decide +kernel) (by decide) (by decide) (jo_goto (off := -48) (tgt := 2) (by decide +kernel) (by decide) (jo_J))))))))))
theorem sb_4_reverse_2 (l : Launch) : jo_Ok l cb_4_reverse 4 "SwipedStripe$Row" "reverse" jw_ro { frames := 0, cells := 0, slots := 0, locals := 0 } none 0 0 bb_4_reverse_2 2 := (jo_iln (i := 1) (j := 1) (by decide +kernel) rfl (jo_aln (i := 0) (j := 0) (by decide +kernel) rfl (jo_gf (j := 1) jw_F4 (by decide) kw_57 (by decide +kernel) (jo_ici (n := 2) (by decide +kernel) (by decide) (jo_idiv (by decide +kernel) (jo_cge (off := 44) (tgt := 53) (by decide +kernel) (by decide) (sb_4_reverse_53 l) (jo_aln (i := 0) (j := 0) (by decide +kernel) rfl (jo_gf (j := 1) jw_F4 (by decide) kw_57 (by decide +kernel) (jo_ici (n := 1) (by decide +kernel) (by decide) (jo_isub (by decide +kernel) (jo_iln (i := 1) (j := 1) (by decide +kernel) rfl (jo_isub (by decide +kernel) (jo_isn (i := 2) (j := 2) (by decide +kernel) rfl (by decide) (jo_aln (i := 0) (j := 0) (by decide +kernel) rfl (jo_gf (j := 0) jw_F4 (by decide) kw_56 (by decide +kernel) (jo_iln (i := 1) (j := 1) (by decide +kernel) rfl (jo_iald (by decide +kernel) (jo_isn (i := 3) (j := 3) (by decide +kernel) rfl (by decide) (jo_aln (i := 0) (j := 0) (by decide +kernel) rfl (jo_gf (j := 0) jw_F4 (by decide) kw_56 (by decide +kernel) (jo_iln (i := 1) (j := 1) (by decide +kernel) rfl (jo_aln (i := 0) (j := 0) (by decide +kernel) rfl (jo_gf (j := 0) jw_F4 (by decide) kw_56 (by decide +kernel) (jo_iln (i := 2) (j := 2) (by decide +kernel) rfl (sb_4_reverse_38 l)))))))))))))))))))))))))
theorem sb_4_reverse_0 (l : Launch) : jo_Ok l cb_4_reverse 4 "SwipedStripe$Row" "reverse" jw_ro { frames := 0, cells := 0, slots := 0, locals := 0 } none 0 0 bb_4_reverse_0 0 := (jo_ici (n := 0) (by decide +kernel) (by decide) (jo_isn (i := 1) (j := 1) (by decide +kernel) rfl (by decide) jo_J))
theorem ss_4_reverse (l : Launch) : jw_Met l yy_4_reverse cb_4_reverse 4 none { frames := 0, cells := 0, slots := 0, locals := 0 } cc_4_reverse := by
  refine jw_met (by decide) (fun pc => ?_)
  intro p e s m args below meth c Q D aC ad base K X RT ls st h z hf
  unfold qq_4_reverse at hf
  by_cases h0 : pc = 0
  · subst h0; simp only [if_true, if_false, reduceIte, ↓reduceIte] at hf; exact sb_4_reverse_0 l p e s m args below meth c Q D aC ad base K X RT ls st h z hf
  rw [if_neg h0] at hf
  by_cases h2 : pc = 2
  · subst h2; simp only [if_true, if_false, reduceIte, ↓reduceIte] at hf; exact sb_4_reverse_2 l p e s m args below meth c Q D aC ad base K X RT ls st h z hf
  rw [if_neg h2] at hf
  exact hf.elim
