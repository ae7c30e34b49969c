/-! blocks of methods, and that the machine does them: printed from the bytes -/
abbrev cb_10_entry : ByteArray := prog_1_method_46_code
abbrev yy_10_entry : MethodName := ⟨"SwipedStripe", "entry", "([II)I"⟩
def bb_10_entry_17 (K : jw_K) (J : Nat → jw_S) : jw_S := xo_ri 0 0 K
def bb_10_entry_16 (K : jw_K) (J : Nat → jw_S) : jw_S := xo_ci 0 (bb_10_entry_17 K J)
def bb_10_entry_0 (K : jw_K) (J : Nat → jw_S) : jw_S := xo_il 1 (xo_zlt (bb_10_entry_16 K J) (xo_il 1 (xo_al 0 (xo_alen jw_ro (xo_cge (bb_10_entry_16 K J) (xo_al 0 (xo_il 1 (xo_iald jw_ro (bb_10_entry_17 K J)))))))))
def qq_10_entry (K : jw_K) (pc : Nat) (J : Nat → jw_S) : jw_S := if pc = 0 then bb_10_entry_0 K J else fun _ _ _ _ => False
def cc_10_entry : jw_T := jw_C 2 qq_10_entry
theorem sb_10_entry_17 (l : Launch) : jo_Ok l cb_10_entry 2 "SwipedStripe" "entry" jw_ro { frames := 0, cells := 0, slots := 0, locals := 0 } (some .int) 0 0 bb_10_entry_17 17 := (jo_ri rfl (by decide +kernel))
theorem sb_10_entry_16 (l : Launch) : jo_Ok l cb_10_entry 2 "SwipedStripe" "entry" jw_ro { frames := 0, cells := 0, slots := 0, locals := 0 } (some .int) 0 0 bb_10_entry_16 16 := (jo_ici (n := 0) (by decide +kernel) (by decide) (sb_10_entry_17 l))
theorem sb_10_entry_0 (l : Launch) : jo_Ok l cb_10_entry 2 "SwipedStripe" "entry" jw_ro { frames := 0, cells := 0, slots := 0, locals := 0 } (some .int) 0 0 bb_10_entry_0 0 := (jo_iln (i := 1) (j := 1) (by decide +kernel) rfl (jo_zlt (off := 15) (tgt := 16) (by decide +kernel) (by decide) (sb_10_entry_16 l) (jo_iln (i := 1) (j := 1) (by decide +kernel) rfl (jo_aln (i := 0) (j := 0) (by decide +kernel) rfl (jo_alen (by decide +kernel) (jo_cge (off := 9) (tgt := 16) (by decide +kernel) (by decide) (sb_10_entry_16 l) (jo_aln (i := 0) (j := 0) (by decide +kernel) rfl (jo_iln (i := 1) (j := 1) (by decide +kernel) rfl (jo_iald (by decide +kernel) (jo_goto (off := 4) (tgt := 17) (by decide +kernel) (by decide) (sb_10_entry_17 l)))))))))))
theorem ss_10_entry (l : Launch) : jw_Met l yy_10_entry cb_10_entry 2 (some .int) { frames := 0, cells := 0, slots := 0, locals := 0 } cc_10_entry := by
  refine jw_met (by decide) (fun pc => ?_)
  intro p e s m args below meth c Q D aC ad base K X RT ls st h z hf
  unfold qq_10_entry at hf
  by_cases h0 : pc = 0
  · subst h0; simp only [if_true, if_false, reduceIte, ↓reduceIte] at hf; exact sb_10_entry_0 l p e s m args below meth c Q D aC ad base K X RT ls st h z hf
  rw [if_neg h0] at hf
  exact hf.elim
abbrev cb_5_startAgain : ByteArray := prog_7_method_2_code
abbrev yy_5_startAgain : MethodName := ⟨"SwipedStripe$Rules", "startAgain", "()V"⟩
def bb_5_startAgain_30 (K : jw_K) (J : Nat → jw_S) : jw_S := xo_rv 0 0 K
def bb_5_startAgain_2 (K : jw_K) (J : Nat → jw_S) : jw_S := xo_il 1 (xo_al 0 (xo_gf 5 0 (xo_alen jw_ro (xo_cge (bb_5_startAgain_30 K J) (xo_al 0 (xo_gf 5 0 (xo_il 1 (xo_gs 1000 (xo_il 1 (xo_cs cc_10_entry 2 (xo_iast (xo_ic 1 1 (J 2)))))))))))))
def bb_5_startAgain_0 (K : jw_K) (J : Nat → jw_S) : jw_S := xo_ci 0 (xo_is 1 (J 2))
def qq_5_startAgain (K : jw_K) (pc : Nat) (J : Nat → jw_S) : jw_S := if pc = 0 then bb_5_startAgain_0 K J else if pc = 2 then bb_5_startAgain_2 K J else fun _ _ _ _ => False
def cc_5_startAgain : jw_T := jw_C 2 qq_5_startAgain
theorem sb_5_startAgain_30 (l : Launch) : jo_Ok l cb_5_startAgain 2 "SwipedStripe$Rules" "startAgain" jw_ro { frames := 1, cells := 0, slots := 0, locals := 21 } none 0 0 bb_5_startAgain_30 30 := (jo_rv rfl (by decide +kernel))
theorem sb_5_startAgain_2 (l : Launch) : jo_Ok l cb_5_startAgain 2 "SwipedStripe$Rules" "startAgain" jw_ro { frames := 1, cells := 0, slots := 0, locals := 21 } none 0 0 bb_5_startAgain_2 2 := (jo_iln (i := 1) (j := 1) (by decide +kernel) rfl (jo_aln (i := 0) (j := 0) (by decide +kernel) rfl (jo_gf (j := 0) jw_F5 (by decide) kw_42 (by decide +kernel) (jo_alen (by decide +kernel) (jo_cge (off := 22) (tgt := 30) (by decide +kernel) (by decide) (sb_5_startAgain_30 l) (jo_aln (i := 0) (j := 0) (by decide +kernel) rfl (jo_gf (j := 0) jw_F5 (by decide) kw_42 (by decide +kernel) (jo_iln (i := 1) (j := 1) (by decide +kernel) rfl (jo_gsN (idx := 18) (C := "SwipedStripe") (n := "AT_FIRST") (d0 := "[I") (host := "SwipedStripe") (by decide) (by decide) (by decide +kernel) (jo_iln (i := 1) (j := 1) (by decide +kernel) rfl (jo_csN (host := "SwipedStripe") (n := 2) (idx := 21) (ss_10_entry l) kw_41 kw_1 (by decide) kw_40 ⟨by decide, by decide, by decide +kernel⟩ ⟨by decide, by decide⟩ (fun _ _ h => h) ⟨rfl, rfl⟩ (by decide +kernel) (jo_iast (by decide +kernel) (jo_ic (n0 := 1) (by decide +kernel) (by decide) (by decide) (jo_goto (off := -25) (tgt := 2) (by decide +kernel) (by decide) (jo_J)))))))))))))))
theorem sb_5_startAgain_0 (l : Launch) : jo_Ok l cb_5_startAgain 2 "SwipedStripe$Rules" "startAgain" jw_ro { frames := 1, cells := 0, slots := 0, locals := 21 } none 0 0 bb_5_startAgain_0 0 := (jo_ici (n := 0) (by decide +kernel) (by decide) (jo_isn (i := 1) (j := 1) (by decide +kernel) rfl (by decide) jo_J))
theorem ss_5_startAgain (l : Launch) : jw_Met l yy_5_startAgain cb_5_startAgain 2 none { frames := 1, cells := 0, slots := 0, locals := 21 } cc_5_startAgain := by
  refine jw_met (by decide) (fun pc => ?_)
  intro p e s m args below meth c Q D aC ad base K X RT ls st h z hf
  unfold qq_5_startAgain at hf
  by_cases h0 : pc = 0
  · subst h0; simp only [if_true, if_false, reduceIte, ↓reduceIte] at hf; exact sb_5_startAgain_0 l p e s m args below meth c Q D aC ad base K X RT ls st h z hf
  rw [if_neg h0] at hf
  by_cases h2 : pc = 2
  · subst h2; simp only [if_true, if_false, reduceIte, ↓reduceIte] at hf; exact sb_5_startAgain_2 l p e s m args below meth c Q D aC ad base K X RT ls st h z hf
  rw [if_neg h2] at hf
  exact hf.elim
abbrev cb_4_push : ByteArray := prog_6_method_7_code
abbrev yy_4_push : MethodName := ⟨"SwipedStripe$Row", "push", "(I)Z"⟩
def bb_4_push_14 (K : jw_K) (J : Nat → jw_S) : jw_S := xo_al 0 (xo_gf 4 0 (xo_al 0 (xo_gf 4 1 (xo_il 1 (xo_iast (xo_al 0 (xo_dup (xo_gf 4 1 (xo_ci 1 (xo_iadd (xo_pfi 4 1 (xo_ci 1 (xo_rz 0 0 K)))))))))))))
def bb_4_push_0 (K : jw_K) (J : Nat → jw_S) : jw_S := xo_al 0 (xo_gf 4 1 (xo_al 0 (xo_gf 4 0 (xo_alen jw_ro (xo_clt (bb_4_push_14 K J) (xo_ci 0 (xo_rz 0 0 K)))))))
def qq_4_push (K : jw_K) (pc : Nat) (J : Nat → jw_S) : jw_S := if pc = 0 then bb_4_push_0 K J else fun _ _ _ _ => False
def cc_4_push : jw_T := jw_C 2 qq_4_push
theorem sb_4_push_14 (l : Launch) : jo_Ok l cb_4_push 2 "SwipedStripe$Row" "push" jw_ro { frames := 0, cells := 0, slots := 0, locals := 0 } (some .boolean) 0 0 bb_4_push_14 14 := (jo_aln (i := 0) (j := 0) (by decide +kernel) rfl (jo_gf (j := 0) jw_F4 (by decide) kw_56 (by decide +kernel) (jo_aln (i := 0) (j := 0) (by decide +kernel) rfl (jo_gf (j := 1) jw_F4 (by decide) kw_57 (by decide +kernel) (jo_iln (i := 1) (j := 1) (by decide +kernel) rfl (jo_iast (by decide +kernel) (jo_aln (i := 0) (j := 0) (by decide +kernel) rfl (jo_dup (by decide +kernel) (jo_gf (j := 1) jw_F4 (by decide) kw_57 (by decide +kernel) (jo_ici (n := 1) (by decide +kernel) (by decide) (jo_iadd (by decide +kernel) (jo_pfi (j := 1) jw_F4 (by decide) kw_57 rfl rfl (by decide +kernel) (jo_ici (n := 1) (by decide +kernel) (by decide) (jo_rz rfl (by decide +kernel)))))))))))))))
theorem sb_4_push_0 (l : Launch) : jo_Ok l cb_4_push 2 "SwipedStripe$Row" "push" jw_ro { frames := 0, cells := 0, slots := 0, locals := 0 } (some .boolean) 0 0 bb_4_push_0 0 := (jo_aln (i := 0) (j := 0) (by decide +kernel) rfl (jo_gf (j := 1) jw_F4 (by decide) kw_57 (by decide +kernel) (jo_aln (i := 0) (j := 0) (by decide +kernel) rfl (jo_gf (j := 0) jw_F4 (by decide) kw_56 (by decide +kernel) (jo_alen (by decide +kernel) (jo_clt (off := 5) (tgt := 14) (by decide +kernel) (by decide) (sb_4_push_14 l) (jo_ici (n := 0) (by decide +kernel) (by decide) (jo_rz rfl (by decide +kernel)))))))))
theorem ss_4_push (l : Launch) : jw_Met l yy_4_push cb_4_push 2 (some .boolean) { frames := 0, cells := 0, slots := 0, locals := 0 } cc_4_push := by
  refine jw_met (by decide) (fun pc => ?_)
  intro p e s m args below meth c Q D aC ad base K X RT ls st h z hf
  unfold qq_4_push at hf
  by_cases h0 : pc = 0
  · subst h0; simp only [if_true, if_false, reduceIte, ↓reduceIte] at hf; exact sb_4_push_0 l p e s m args below meth c Q D aC ad base K X RT ls st h z hf
  rw [if_neg h0] at hf
  exact hf.elim
abbrev cb_4_size : ByteArray := prog_6_method_2_code
abbrev yy_4_size : MethodName := ⟨"SwipedStripe$Row", "size", "()I"⟩
def bb_4_size_0 (K : jw_K) (J : Nat → jw_S) : jw_S := xo_al 0 (xo_gf 4 1 (xo_ri 0 0 K))
def qq_4_size (K : jw_K) (pc : Nat) (J : Nat → jw_S) : jw_S := if pc = 0 then bb_4_size_0 K J else fun _ _ _ _ => False
def cc_4_size : jw_T := jw_C 1 qq_4_size
theorem sb_4_size_0 (l : Launch) : jo_Ok l cb_4_size 1 "SwipedStripe$Row" "size" jw_ro { frames := 0, cells := 0, slots := 0, locals := 0 } (some .int) 0 0 bb_4_size_0 0 := (jo_aln (i := 0) (j := 0) (by decide +kernel) rfl (jo_gf (j := 1) jw_F4 (by decide) kw_57 (by decide +kernel) (jo_ri rfl (by decide +kernel))))
theorem ss_4_size (l : Launch) : jw_Met l yy_4_size cb_4_size 1 (some .int) { frames := 0, cells := 0, slots := 0, locals := 0 } cc_4_size := by
  refine jw_met (by decide) (fun pc => ?_)
  intro p e s m args below meth c Q D aC ad base K X RT ls st h z hf
  unfold qq_4_size at hf
  by_cases h0 : pc = 0
  · subst h0; simp only [if_true, if_false, reduceIte, ↓reduceIte] at hf; exact sb_4_size_0 l p e s m args below meth c Q D aC ad base K X RT ls st h z hf
  rw [if_neg h0] at hf
  exact hf.elim
abbrev cb_5_of : ByteArray := prog_7_method_3_code
abbrev yy_5_of : MethodName := ⟨"SwipedStripe$Rules", "of", "(I)I"⟩
def bb_5_of_0 (K : jw_K) (J : Nat → jw_S) : jw_S := xo_al 0 (xo_gf 5 0 (xo_il 1 (xo_cs cc_10_entry 2 (xo_ri 0 0 K))))
def qq_5_of (K : jw_K) (pc : Nat) (J : Nat → jw_S) : jw_S := if pc = 0 then bb_5_of_0 K J else fun _ _ _ _ => False
def cc_5_of : jw_T := jw_C 2 qq_5_of
theorem sb_5_of_0 (l : Launch) : jo_Ok l cb_5_of 2 "SwipedStripe$Rules" "of" jw_ro { frames := 1, cells := 0, slots := 0, locals := 21 } (some .int) 0 0 bb_5_of_0 0 := (jo_aln (i := 0) (j := 0) (by decide +kernel) rfl (jo_gf (j := 0) jw_F5 (by decide) kw_42 (by decide +kernel) (jo_iln (i := 1) (j := 1) (by decide +kernel) rfl (jo_csN (host := "SwipedStripe") (n := 2) (idx := 21) (ss_10_entry l) kw_41 kw_1 (by decide) kw_40 ⟨by decide, by decide, by decide +kernel⟩ ⟨by decide, by decide⟩ (fun _ _ h => h) ⟨rfl, rfl⟩ (by decide +kernel) (jo_ri rfl (by decide +kernel))))))
theorem ss_5_of (l : Launch) : jw_Met l yy_5_of cb_5_of 2 (some .int) { frames := 1, cells := 0, slots := 0, locals := 21 } cc_5_of := by
  refine jw_met (by decide) (fun pc => ?_)
  intro p e s m args below meth c Q D aC ad base K X RT ls st h z hf
  unfold qq_5_of at hf
  by_cases h0 : pc = 0
  · subst h0; simp only [if_true, if_false, reduceIte, ↓reduceIte] at hf; exact sb_5_of_0 l p e s m args below meth c Q D aC ad base K X RT ls st h z hf
  rw [if_neg h0] at hf
  exact hf.elim
abbrev cb_5_isValue : ByteArray := prog_7_method_7_code
abbrev yy_5_isValue : MethodName := ⟨"SwipedStripe$Rules", "isValue", "(I)Z"⟩
def bb_5_isValue_20 (K : jw_K) (J : Nat → jw_S) : jw_S := xo_rz 0 0 K
def bb_5_isValue_19 (K : jw_K) (J : Nat → jw_S) : jw_S := xo_ci 0 (bb_5_isValue_20 K J)
def bb_5_isValue_0 (K : jw_K) (J : Nat → jw_S) : jw_S := xo_il 1 (xo_zlt (bb_5_isValue_19 K J) (xo_il 1 (xo_ci 1 (xo_al 0 (xo_ci 0 (xo_cv 5 cc_5_of 2 (xo_ishl (xo_cge (bb_5_isValue_19 K J) (xo_ci 1 (bb_5_isValue_20 K J))))))))))
def qq_5_isValue (K : jw_K) (pc : Nat) (J : Nat → jw_S) : jw_S := if pc = 0 then bb_5_isValue_0 K J else fun _ _ _ _ => False
def cc_5_isValue : jw_T := jw_C 2 qq_5_isValue
theorem sb_5_isValue_20 (l : Launch) : jo_Ok l cb_5_isValue 2 "SwipedStripe$Rules" "isValue" jw_ro { frames := 2, cells := 0, slots := 0, locals := 42 } (some .boolean) 0 0 bb_5_isValue_20 20 := (jo_rz rfl (by decide +kernel))
theorem sb_5_isValue_19 (l : Launch) : jo_Ok l cb_5_isValue 2 "SwipedStripe$Rules" "isValue" jw_ro { frames := 2, cells := 0, slots := 0, locals := 42 } (some .boolean) 0 0 bb_5_isValue_19 19 := (jo_ici (n := 0) (by decide +kernel) (by decide) (sb_5_isValue_20 l))
theorem sb_5_isValue_0 (l : Launch) : jo_Ok l cb_5_isValue 2 "SwipedStripe$Rules" "isValue" jw_ro { frames := 2, cells := 0, slots := 0, locals := 42 } (some .boolean) 0 0 bb_5_isValue_0 0 := (jo_iln (i := 1) (j := 1) (by decide +kernel) rfl (jo_zlt (off := 18) (tgt := 19) (by decide +kernel) (by decide) (sb_5_isValue_19 l) (jo_iln (i := 1) (j := 1) (by decide +kernel) rfl (jo_ici (n := 1) (by decide +kernel) (by decide) (jo_aln (i := 0) (j := 0) (by decide +kernel) rfl (jo_ici (n := 0) (by decide +kernel) (by decide) (jo_cv (n := 1) (ss_5_of l) kw_457 kw_2 kw_454 kw_455 jw_F5 kw_456 ⟨by decide, by decide, by decide +kernel⟩ ⟨by decide, by decide⟩ (fun _ _ h => h) ⟨rfl, rfl⟩ (by decide +kernel) (jo_ishl (by decide +kernel) (jo_cge (off := 7) (tgt := 19) (by decide +kernel) (by decide) (sb_5_isValue_19 l) (jo_ici (n := 1) (by decide +kernel) (by decide) (jo_goto (off := 4) (tgt := 20) (by decide +kernel) (by decide) (sb_5_isValue_20 l))))))))))))
theorem ss_5_isValue (l : Launch) : jw_Met l yy_5_isValue cb_5_isValue 2 (some .boolean) { frames := 2, cells := 0, slots := 0, locals := 42 } cc_5_isValue := by
  refine jw_met (by decide) (fun pc => ?_)
  intro p e s m args below meth c Q D aC ad base K X RT ls st h z hf
  unfold qq_5_isValue at hf
  by_cases h0 : pc = 0
  · subst h0; simp only [if_true, if_false, reduceIte, ↓reduceIte] at hf; exact sb_5_isValue_0 l p e s m args below meth c Q D aC ad base K X RT ls st h z hf
  rw [if_neg h0] at hf
  exact hf.elim
abbrev cb_10_add : ByteArray := prog_1_method_7_code
abbrev yy_10_add : MethodName := ⟨"SwipedStripe", "add", "(I)I"⟩
def bb_10_add_60 (K : jw_K) (J : Nat → jw_S) : jw_S := xo_ri 0 0 K
def bb_10_add_58 (K : jw_K) (J : Nat → jw_S) : jw_S := xo_ci (-3) (bb_10_add_60 K J)
def bb_10_add_37 (K : jw_K) (J : Nat → jw_S) : jw_S := xo_al 0 (xo_gf 10 3 (xo_il 1 (xo_cv 4 cc_4_push 2 (xo_zeq (bb_10_add_58 K J) (xo_al 0 (xo_gf 10 3 (xo_cv 4 cc_4_size 1 (bb_10_add_60 K J))))))))
def bb_10_add_35 (K : jw_K) (J : Nat → jw_S) : jw_S := xo_ci (-1) (xo_ri 0 0 K)
def bb_10_add_0 (K : jw_K) (J : Nat → jw_S) : jw_S := xo_al 0 (xo_gf 10 0 (xo_il 1 (xo_cv 5 cc_5_isValue 2 (xo_zeq (bb_10_add_35 K J) (xo_il 1 (xo_al 0 (xo_gf 10 0 (xo_ci 2 (xo_cv 5 cc_5_of 2 (xo_ceq (bb_10_add_35 K J) (xo_il 1 (xo_al 0 (xo_gf 10 0 (xo_ci 3 (xo_cv 5 cc_5_of 2 (xo_cne (bb_10_add_37 K J) (bb_10_add_35 K J)))))))))))))))))
def qq_10_add (K : jw_K) (pc : Nat) (J : Nat → jw_S) : jw_S := if pc = 0 then bb_10_add_0 K J else fun _ _ _ _ => False
def cc_10_add : jw_T := jw_C 2 qq_10_add
theorem sb_10_add_60 (l : Launch) : jo_Ok l cb_10_add 2 "SwipedStripe" "add" jw_ro { frames := 3, cells := 0, slots := 0, locals := 63 } (some .int) 0 0 bb_10_add_60 60 := (jo_ri rfl (by decide +kernel))
theorem sb_10_add_58 (l : Launch) : jo_Ok l cb_10_add 2 "SwipedStripe" "add" jw_ro { frames := 3, cells := 0, slots := 0, locals := 63 } (some .int) 0 0 bb_10_add_58 58 := (jo_bpi (n := -3) (by decide +kernel) (by decide) (sb_10_add_60 l))
theorem sb_10_add_37 (l : Launch) : jo_Ok l cb_10_add 2 "SwipedStripe" "add" jw_ro { frames := 3, cells := 0, slots := 0, locals := 63 } (some .int) 0 0 bb_10_add_37 37 := (jo_aln (i := 0) (j := 0) (by decide +kernel) rfl (jo_gf (j := 3) jw_F10 (by decide) kw_257 (by decide +kernel) (jo_iln (i := 1) (j := 1) (by decide +kernel) rfl (jo_cv (n := 1) (ss_4_push l) kw_305 kw_3 kw_302 kw_303 jw_F4 kw_304 ⟨by decide, by decide, by decide +kernel⟩ ⟨by decide, by decide⟩ (fun _ _ h => h) ⟨rfl, rfl⟩ (by decide +kernel) (jo_zeq (off := 13) (tgt := 58) (by decide +kernel) (by decide) (sb_10_add_58 l) (jo_aln (i := 0) (j := 0) (by decide +kernel) rfl (jo_gf (j := 3) jw_F10 (by decide) kw_257 (by decide +kernel) (jo_cv (n := 0) (ss_4_size l) kw_301 kw_3 kw_298 kw_299 jw_F4 kw_300 ⟨by decide, by decide, by decide +kernel⟩ ⟨by decide, by decide⟩ (fun _ _ h => h) ⟨rfl, rfl⟩ (by decide +kernel) (jo_goto (off := 5) (tgt := 60) (by decide +kernel) (by decide) (sb_10_add_60 l))))))))))
theorem sb_10_add_35 (l : Launch) : jo_Ok l cb_10_add 2 "SwipedStripe" "add" jw_ro { frames := 3, cells := 0, slots := 0, locals := 63 } (some .int) 0 0 bb_10_add_35 35 := (jo_ici (n := -1) (by decide +kernel) (by decide) (jo_ri rfl (by decide +kernel)))
theorem sb_10_add_0 (l : Launch) : jo_Ok l cb_10_add 2 "SwipedStripe" "add" jw_ro { frames := 3, cells := 0, slots := 0, locals := 63 } (some .int) 0 0 bb_10_add_0 0 := (jo_aln (i := 0) (j := 0) (by decide +kernel) rfl (jo_gf (j := 0) jw_F10 (by decide) kw_254 (by decide +kernel) (jo_iln (i := 1) (j := 1) (by decide +kernel) rfl (jo_cv (n := 1) (ss_5_isValue l) kw_461 kw_2 kw_500 kw_459 jw_F5 kw_460 ⟨by decide, by decide, by decide +kernel⟩ ⟨by decide, by decide⟩ (fun _ _ h => h) ⟨rfl, rfl⟩ (by decide +kernel) (jo_zeq (off := 27) (tgt := 35) (by decide +kernel) (by decide) (sb_10_add_35 l) (jo_iln (i := 1) (j := 1) (by decide +kernel) rfl (jo_aln (i := 0) (j := 0) (by decide +kernel) rfl (jo_gf (j := 0) jw_F10 (by decide) kw_254 (by decide +kernel) (jo_ici (n := 2) (by decide +kernel) (by decide) (jo_cv (n := 1) (ss_5_of l) kw_457 kw_2 kw_495 kw_455 jw_F5 kw_456 ⟨by decide, by decide, by decide +kernel⟩ ⟨by decide, by decide⟩ (fun _ _ h => h) ⟨rfl, rfl⟩ (by decide +kernel) (jo_ceq (off := 15) (tgt := 35) (by decide +kernel) (by decide) (sb_10_add_35 l) (jo_iln (i := 1) (j := 1) (by decide +kernel) rfl (jo_aln (i := 0) (j := 0) (by decide +kernel) rfl (jo_gf (j := 0) jw_F10 (by decide) kw_254 (by decide +kernel) (jo_ici (n := 3) (by decide +kernel) (by decide) (jo_cv (n := 1) (ss_5_of l) kw_457 kw_2 kw_495 kw_455 jw_F5 kw_456 ⟨by decide, by decide, by decide +kernel⟩ ⟨by decide, by decide⟩ (fun _ _ h => h) ⟨rfl, rfl⟩ (by decide +kernel) (jo_cne (off := 5) (tgt := 37) (by decide +kernel) (by decide) (sb_10_add_37 l) (sb_10_add_35 l))))))))))))))))))
theorem ss_10_add (l : Launch) : jw_Met l yy_10_add cb_10_add 2 (some .int) { frames := 3, cells := 0, slots := 0, locals := 63 } cc_10_add := by
  refine jw_met (by decide) (fun pc => ?_)
  intro p e s m args below meth c Q D aC ad base K X RT ls st h z hf
  unfold qq_10_add at hf
  by_cases h0 : pc = 0
  · subst h0; simp only [if_true, if_false, reduceIte, ↓reduceIte] at hf; exact sb_10_add_0 l p e s m args below meth c Q D aC ad base K X RT ls st h z hf
  rw [if_neg h0] at hf
  exact hf.elim
abbrev cb_10_isGap : ByteArray := prog_1_method_42_code
abbrev yy_10_isGap : MethodName := ⟨"SwipedStripe", "isGap", "(I)Z"⟩
def bb_10_isGap_17 (K : jw_K) (J : Nat → jw_S) : jw_S := xo_rz 0 0 K
def bb_10_isGap_16 (K : jw_K) (J : Nat → jw_S) : jw_S := xo_ci 0 (bb_10_isGap_17 K J)
def bb_10_isGap_0 (K : jw_K) (J : Nat → jw_S) : jw_S := xo_il 0 (xo_ci 1 (xo_clt (bb_10_isGap_16 K J) (xo_il 0 (xo_ci 9999 (xo_cgt (bb_10_isGap_16 K J) (xo_ci 1 (bb_10_isGap_17 K J)))))))
def qq_10_isGap (K : jw_K) (pc : Nat) (J : Nat → jw_S) : jw_S := if pc = 0 then bb_10_isGap_0 K J else fun _ _ _ _ => False
def cc_10_isGap : jw_T := jw_C 1 qq_10_isGap
theorem sb_10_isGap_17 (l : Launch) : jo_Ok l cb_10_isGap 1 "SwipedStripe" "isGap" jw_ro { frames := 0, cells := 0, slots := 0, locals := 0 } (some .boolean) 0 0 bb_10_isGap_17 17 := (jo_rz rfl (by decide +kernel))
theorem sb_10_isGap_16 (l : Launch) : jo_Ok l cb_10_isGap 1 "SwipedStripe" "isGap" jw_ro { frames := 0, cells := 0, slots := 0, locals := 0 } (some .boolean) 0 0 bb_10_isGap_16 16 := (jo_ici (n := 0) (by decide +kernel) (by decide) (sb_10_isGap_17 l))
theorem sb_10_isGap_0 (l : Launch) : jo_Ok l cb_10_isGap 1 "SwipedStripe" "isGap" jw_ro { frames := 0, cells := 0, slots := 0, locals := 0 } (some .boolean) 0 0 bb_10_isGap_0 0 := (jo_iln (i := 0) (j := 0) (by decide +kernel) rfl (jo_ici (n := 1) (by decide +kernel) (by decide) (jo_clt (off := 14) (tgt := 16) (by decide +kernel) (by decide) (sb_10_isGap_16 l) (jo_iln (i := 0) (j := 0) (by decide +kernel) rfl (jo_spi (n := 9999) (by decide +kernel) (by decide) (jo_cgt (off := 7) (tgt := 16) (by decide +kernel) (by decide) (sb_10_isGap_16 l) (jo_ici (n := 1) (by decide +kernel) (by decide) (jo_goto (off := 4) (tgt := 17) (by decide +kernel) (by decide) (sb_10_isGap_17 l)))))))))
theorem ss_10_isGap (l : Launch) : jw_Met l yy_10_isGap cb_10_isGap 1 (some .boolean) { frames := 0, cells := 0, slots := 0, locals := 0 } cc_10_isGap := by
  refine jw_met (by decide) (fun pc => ?_)
  intro p e s m args below meth c Q D aC ad base K X RT ls st h z hf
  unfold qq_10_isGap at hf
  by_cases h0 : pc = 0
  · subst h0; simp only [if_true, if_false, reduceIte, ↓reduceIte] at hf; exact sb_10_isGap_0 l p e s m args below meth c Q D aC ad base K X RT ls st h z hf
  rw [if_neg h0] at hf
  exact hf.elim
abbrev cb_4_at : ByteArray := prog_6_method_5_code
abbrev yy_4_at : MethodName := ⟨"SwipedStripe$Row", "at", "(I)I"⟩
def bb_4_at_22 (K : jw_K) (J : Nat → jw_S) : jw_S := xo_ri 0 0 K
def bb_4_at_21 (K : jw_K) (J : Nat → jw_S) : jw_S := xo_ci 0 (bb_4_at_22 K J)
def bb_4_at_0 (K : jw_K) (J : Nat → jw_S) : jw_S := xo_il 1 (xo_zlt (bb_4_at_21 K J) (xo_il 1 (xo_al 0 (xo_gf 4 1 (xo_cge (bb_4_at_21 K J) (xo_al 0 (xo_gf 4 0 (xo_il 1 (xo_iald jw_ro (bb_4_at_22 K J))))))))))
def qq_4_at (K : jw_K) (pc : Nat) (J : Nat → jw_S) : jw_S := if pc = 0 then bb_4_at_0 K J else fun _ _ _ _ => False
def cc_4_at : jw_T := jw_C 2 qq_4_at
theorem sb_4_at_22 (l : Launch) : jo_Ok l cb_4_at 2 "SwipedStripe$Row" "at" jw_ro { frames := 0, cells := 0, slots := 0, locals := 0 } (some .int) 0 0 bb_4_at_22 22 := (jo_ri rfl (by decide +kernel))
theorem sb_4_at_21 (l : Launch) : jo_Ok l cb_4_at 2 "SwipedStripe$Row" "at" jw_ro { frames := 0, cells := 0, slots := 0, locals := 0 } (some .int) 0 0 bb_4_at_21 21 := (jo_ici (n := 0) (by decide +kernel) (by decide) (sb_4_at_22 l))
theorem sb_4_at_0 (l : Launch) : jo_Ok l cb_4_at 2 "SwipedStripe$Row" "at" jw_ro { frames := 0, cells := 0, slots := 0, locals := 0 } (some .int) 0 0 bb_4_at_0 0 := (jo_iln (i := 1) (j := 1) (by decide +kernel) rfl (jo_zlt (off := 20) (tgt := 21) (by decide +kernel) (by decide) (sb_4_at_21 l) (jo_iln (i := 1) (j := 1) (by decide +kernel) rfl (jo_aln (i := 0) (j := 0) (by decide +kernel) rfl (jo_gf (j := 1) jw_F4 (by decide) kw_57 (by decide +kernel) (jo_cge (off := 12) (tgt := 21) (by decide +kernel) (by decide) (sb_4_at_21 l) (jo_aln (i := 0) (j := 0) (by decide +kernel) rfl (jo_gf (j := 0) jw_F4 (by decide) kw_56 (by decide +kernel) (jo_iln (i := 1) (j := 1) (by decide +kernel) rfl (jo_iald (by decide +kernel) (jo_goto (off := 4) (tgt := 22) (by decide +kernel) (by decide) (sb_4_at_22 l))))))))))))
theorem ss_4_at (l : Launch) : jw_Met l yy_4_at cb_4_at 2 (some .int) { frames := 0, cells := 0, slots := 0, locals := 0 } cc_4_at := by
  refine jw_met (by decide) (fun pc => ?_)
  intro p e s m args below meth c Q D aC ad base K X RT ls st h z hf
  unfold qq_4_at at hf
  by_cases h0 : pc = 0
  · subst h0; simp only [if_true, if_false, reduceIte, ↓reduceIte] at hf; exact sb_4_at_0 l p e s m args below meth c Q D aC ad base K X RT ls st h z hf
  rw [if_neg h0] at hf
  exact hf.elim
abbrev cb_4_has : ByteArray := prog_6_method_4_code
abbrev yy_4_has : MethodName := ⟨"SwipedStripe$Row", "has", "(I)Z"⟩
def bb_4_has_17 (K : jw_K) (J : Nat → jw_S) : jw_S := xo_rz 0 0 K
def bb_4_has_16 (K : jw_K) (J : Nat → jw_S) : jw_S := xo_ci 0 (bb_4_has_17 K J)
def bb_4_has_0 (K : jw_K) (J : Nat → jw_S) : jw_S := xo_il 1 (xo_zlt (bb_4_has_16 K J) (xo_il 1 (xo_al 0 (xo_gf 4 1 (xo_cge (bb_4_has_16 K J) (xo_ci 1 (bb_4_has_17 K J)))))))
def qq_4_has (K : jw_K) (pc : Nat) (J : Nat → jw_S) : jw_S := if pc = 0 then bb_4_has_0 K J else fun _ _ _ _ => False
def cc_4_has : jw_T := jw_C 2 qq_4_has
theorem sb_4_has_17 (l : Launch) : jo_Ok l cb_4_has 2 "SwipedStripe$Row" "has" jw_ro { frames := 0, cells := 0, slots := 0, locals := 0 } (some .boolean) 0 0 bb_4_has_17 17 := (jo_rz rfl (by decide +kernel))
theorem sb_4_has_16 (l : Launch) : jo_Ok l cb_4_has 2 "SwipedStripe$Row" "has" jw_ro { frames := 0, cells := 0, slots := 0, locals := 0 } (some .boolean) 0 0 bb_4_has_16 16 := (jo_ici (n := 0) (by decide +kernel) (by decide) (sb_4_has_17 l))
theorem sb_4_has_0 (l : Launch) : jo_Ok l cb_4_has 2 "SwipedStripe$Row" "has" jw_ro { frames := 0, cells := 0, slots := 0, locals := 0 } (some .boolean) 0 0 bb_4_has_0 0 := (jo_iln (i := 1) (j := 1) (by decide +kernel) rfl (jo_zlt (off := 15) (tgt := 16) (by decide +kernel) (by decide) (sb_4_has_16 l) (jo_iln (i := 1) (j := 1) (by decide +kernel) rfl (jo_aln (i := 0) (j := 0) (by decide +kernel) rfl (jo_gf (j := 1) jw_F4 (by decide) kw_57 (by decide +kernel) (jo_cge (off := 7) (tgt := 16) (by decide +kernel) (by decide) (sb_4_has_16 l) (jo_ici (n := 1) (by decide +kernel) (by decide) (jo_goto (off := 4) (tgt := 17) (by decide +kernel) (by decide) (sb_4_has_17 l)))))))))
theorem ss_4_has (l : Launch) : jw_Met l yy_4_has cb_4_has 2 (some .boolean) { frames := 0, cells := 0, slots := 0, locals := 0 } cc_4_has := by
  refine jw_met (by decide) (fun pc => ?_)
  intro p e s m args below meth c Q D aC ad base K X RT ls st h z hf
  unfold qq_4_has at hf
  by_cases h0 : pc = 0
  · subst h0; simp only [if_true, if_false, reduceIte, ↓reduceIte] at hf; exact sb_4_has_0 l p e s m args below meth c Q D aC ad base K X RT ls st h z hf
  rw [if_neg h0] at hf
  exact hf.elim
abbrev cb_4_put : ByteArray := prog_6_method_6_code
abbrev yy_4_put : MethodName := ⟨"SwipedStripe$Row", "put", "(II)V"⟩
def bb_4_put_19 (K : jw_K) (J : Nat → jw_S) : jw_S := xo_rv 0 0 K
def bb_4_put_0 (K : jw_K) (J : Nat → jw_S) : jw_S := xo_il 1 (xo_zlt (bb_4_put_19 K J) (xo_il 1 (xo_al 0 (xo_gf 4 1 (xo_cge (bb_4_put_19 K J) (xo_al 0 (xo_gf 4 0 (xo_il 1 (xo_il 2 (xo_iast (bb_4_put_19 K J)))))))))))
def qq_4_put (K : jw_K) (pc : Nat) (J : Nat → jw_S) : jw_S := if pc = 0 then bb_4_put_0 K J else fun _ _ _ _ => False
def cc_4_put : jw_T := jw_C 3 qq_4_put
theorem sb_4_put_19 (l : Launch) : jo_Ok l cb_4_put 3 "SwipedStripe$Row" "put" jw_ro { frames := 0, cells := 0, slots := 0, locals := 0 } none 0 0 bb_4_put_19 19 := (jo_rv rfl (by decide +kernel))
theorem sb_4_put_0 (l : Launch) : jo_Ok l cb_4_put 3 "SwipedStripe$Row" "put" jw_ro { frames := 0, cells := 0, slots := 0, locals := 0 } none 0 0 bb_4_put_0 0 := (jo_iln (i := 1) (j := 1) (by decide +kernel) rfl (jo_zlt (off := 18) (tgt := 19) (by decide +kernel) (by decide) (sb_4_put_19 l) (jo_iln (i := 1) (j := 1) (by decide +kernel) rfl (jo_aln (i := 0) (j := 0) (by decide +kernel) rfl (jo_gf (j := 1) jw_F4 (by decide) kw_57 (by decide +kernel) (jo_cge (off := 10) (tgt := 19) (by decide +kernel) (by decide) (sb_4_put_19 l) (jo_aln (i := 0) (j := 0) (by decide +kernel) rfl (jo_gf (j := 0) jw_F4 (by decide) kw_56 (by decide +kernel) (jo_iln (i := 1) (j := 1) (by decide +kernel) rfl (jo_iln (i := 2) (j := 2) (by decide +kernel) rfl (jo_iast (by decide +kernel) (sb_4_put_19 l))))))))))))
theorem ss_4_put (l : Launch) : jw_Met l yy_4_put cb_4_put 3 none { frames := 0, cells := 0, slots := 0, locals := 0 } cc_4_put := by
  refine jw_met (by decide) (fun pc => ?_)
  intro p e s m args below meth c Q D aC ad base K X RT ls st h z hf
  unfold qq_4_put at hf
  by_cases h0 : pc = 0
  · subst h0; simp only [if_true, if_false, reduceIte, ↓reduceIte] at hf; exact sb_4_put_0 l p e s m args below meth c Q D aC ad base K X RT ls st h z hf
  rw [if_neg h0] at hf
  exact hf.elim
abbrev cb_10_alter : ByteArray := prog_1_method_14_code
abbrev yy_10_alter : MethodName := ⟨"SwipedStripe", "alter", "(II)I"⟩
def bb_10_alter_20 (K : jw_K) (J : Nat → jw_S) : jw_S := xo_al 0 (xo_gf 10 5 (xo_il 1 (xo_cv 4 cc_4_at 2 (xo_is 3 (xo_al 0 (xo_gf 10 5 (xo_il 1 (xo_il 2 (xo_cv 4 cc_4_put 3 (xo_il 3 (xo_ri 0 0 K)))))))))))
def bb_10_alter_18 (K : jw_K) (J : Nat → jw_S) : jw_S := xo_ci (-1) (xo_ri 0 0 K)
def bb_10_alter_0 (K : jw_K) (J : Nat → jw_S) : jw_S := xo_al 0 (xo_gf 10 5 (xo_il 1 (xo_cv 4 cc_4_has 2 (xo_zeq (bb_10_alter_18 K J) (xo_il 2 (xo_cs cc_10_isGap 1 (xo_zne (bb_10_alter_20 K J) (bb_10_alter_18 K J))))))))
def qq_10_alter (K : jw_K) (pc : Nat) (J : Nat → jw_S) : jw_S := if pc = 0 then bb_10_alter_0 K J else fun _ _ _ _ => False
def cc_10_alter : jw_T := jw_C 4 qq_10_alter
theorem sb_10_alter_20 (l : Launch) : jo_Ok l cb_10_alter 4 "SwipedStripe" "alter" jw_ro { frames := 1, cells := 0, slots := 0, locals := 22 } (some .int) 0 0 bb_10_alter_20 20 := (jo_aln (i := 0) (j := 0) (by decide +kernel) rfl (jo_gf (j := 5) jw_F10 (by decide) kw_259 (by decide +kernel) (jo_iln (i := 1) (j := 1) (by decide +kernel) rfl (jo_cv (n := 1) (ss_4_at l) kw_330 kw_3 kw_513 kw_328 jw_F4 kw_329 ⟨by decide, by decide, by decide +kernel⟩ ⟨by decide, by decide⟩ (fun _ _ h => h) ⟨rfl, rfl⟩ (by decide +kernel) (jo_isn (i := 3) (j := 3) (by decide +kernel) rfl (by decide) (jo_aln (i := 0) (j := 0) (by decide +kernel) rfl (jo_gf (j := 5) jw_F10 (by decide) kw_259 (by decide +kernel) (jo_iln (i := 1) (j := 1) (by decide +kernel) rfl (jo_iln (i := 2) (j := 2) (by decide +kernel) rfl (jo_cv (n := 2) (ss_4_put l) kw_596 kw_3 kw_593 kw_594 jw_F4 kw_595 ⟨by decide, by decide, by decide +kernel⟩ ⟨by decide, by decide⟩ (fun _ _ h => h) ⟨rfl, rfl⟩ (by decide +kernel) (jo_iln (i := 3) (j := 3) (by decide +kernel) rfl (jo_ri rfl (by decide +kernel)))))))))))))
theorem sb_10_alter_18 (l : Launch) : jo_Ok l cb_10_alter 4 "SwipedStripe" "alter" jw_ro { frames := 1, cells := 0, slots := 0, locals := 22 } (some .int) 0 0 bb_10_alter_18 18 := (jo_ici (n := -1) (by decide +kernel) (by decide) (jo_ri rfl (by decide +kernel)))
theorem sb_10_alter_0 (l : Launch) : jo_Ok l cb_10_alter 4 "SwipedStripe" "alter" jw_ro { frames := 1, cells := 0, slots := 0, locals := 22 } (some .int) 0 0 bb_10_alter_0 0 := (jo_aln (i := 0) (j := 0) (by decide +kernel) rfl (jo_gf (j := 5) jw_F10 (by decide) kw_259 (by decide +kernel) (jo_iln (i := 1) (j := 1) (by decide +kernel) rfl (jo_cv (n := 1) (ss_4_has l) kw_346 kw_3 kw_512 kw_344 jw_F4 kw_345 ⟨by decide, by decide, by decide +kernel⟩ ⟨by decide, by decide⟩ (fun _ _ h => h) ⟨rfl, rfl⟩ (by decide +kernel) (jo_zeq (off := 10) (tgt := 18) (by decide +kernel) (by decide) (sb_10_alter_18 l) (jo_iln (i := 2) (j := 2) (by decide +kernel) rfl (jo_cs (n := 1) (idx := 157) (ss_10_isGap l) kw_592 kw_1 kw_590 kw_591 ⟨by decide, by decide, by decide +kernel⟩ ⟨by decide, by decide⟩ (fun _ _ h => h) ⟨rfl, rfl⟩ (by decide +kernel) (jo_zne (off := 5) (tgt := 20) (by decide +kernel) (by decide) (sb_10_alter_20 l) (sb_10_alter_18 l)))))))))
theorem ss_10_alter (l : Launch) : jw_Met l yy_10_alter cb_10_alter 4 (some .int) { frames := 1, cells := 0, slots := 0, locals := 22 } cc_10_alter := by
  refine jw_met (by decide) (fun pc => ?_)
  intro p e s m args below meth c Q D aC ad base K X RT ls st h z hf
  unfold qq_10_alter at hf
  by_cases h0 : pc = 0
  · subst h0; simp only [if_true, if_false, reduceIte, ↓reduceIte] at hf; exact sb_10_alter_0 l p e s m args below meth c Q D aC ad base K X RT ls st h z hf
  rw [if_neg h0] at hf
  exact hf.elim
abbrev cb_8_bits : ByteArray := prog_10_method_2_code
abbrev yy_8_bits : MethodName := ⟨"SwipedStripe$Stripe", "bits", "()LSwipedStripe$Row;"⟩
def bb_8_bits_0 (K : jw_K) (J : Nat → jw_S) : jw_S := xo_al 0 (xo_gf 8 0 (xo_ra 0 0 K))
def qq_8_bits (K : jw_K) (pc : Nat) (J : Nat → jw_S) : jw_S := if pc = 0 then bb_8_bits_0 K J else fun _ _ _ _ => False
def cc_8_bits : jw_T := jw_C 1 qq_8_bits
theorem sb_8_bits_0 (l : Launch) : jo_Ok l cb_8_bits 1 "SwipedStripe$Stripe" "bits" jw_ro { frames := 0, cells := 0, slots := 0, locals := 0 } (some (.object "SwipedStripe$Row")) 0 0 bb_8_bits_0 0 := (jo_aln (i := 0) (j := 0) (by decide +kernel) rfl (jo_gf (j := 0) jw_F8 (by decide) kw_112 (by decide +kernel) (jo_ra ⟨_, rfl⟩ (by decide +kernel))))
theorem ss_8_bits (l : Launch) : jw_Met l yy_8_bits cb_8_bits 1 (some (.object "SwipedStripe$Row")) { frames := 0, cells := 0, slots := 0, locals := 0 } cc_8_bits := by
  refine jw_met (by decide) (fun pc => ?_)
  intro p e s m args below meth c Q D aC ad base K X RT ls st h z hf
  unfold qq_8_bits at hf
  by_cases h0 : pc = 0
  · subst h0; simp only [if_true, if_false, reduceIte, ↓reduceIte] at hf; exact sb_8_bits_0 l p e s m args below meth c Q D aC ad base K X RT ls st h z hf
  rw [if_neg h0] at hf
  exact hf.elim
abbrev cb_4_cut : ByteArray := prog_6_method_10_code
abbrev yy_4_cut : MethodName := ⟨"SwipedStripe$Row", "cut", "(I)V"⟩
def bb_4_cut_17 (K : jw_K) (J : Nat → jw_S) : jw_S := xo_rv 0 0 K
def bb_4_cut_0 (K : jw_K) (J : Nat → jw_S) : jw_S := xo_il 1 (xo_zlt (bb_4_cut_17 K J) (xo_il 1 (xo_al 0 (xo_gf 4 1 (xo_cge (bb_4_cut_17 K J) (xo_al 0 (xo_il 1 (xo_pfi 4 1 (bb_4_cut_17 K J)))))))))
def qq_4_cut (K : jw_K) (pc : Nat) (J : Nat → jw_S) : jw_S := if pc = 0 then bb_4_cut_0 K J else fun _ _ _ _ => False
def cc_4_cut : jw_T := jw_C 2 qq_4_cut
theorem sb_4_cut_17 (l : Launch) : jo_Ok l cb_4_cut 2 "SwipedStripe$Row" "cut" jw_ro { frames := 0, cells := 0, slots := 0, locals := 0 } none 0 0 bb_4_cut_17 17 := (jo_rv rfl (by decide +kernel))
theorem sb_4_cut_0 (l : Launch) : jo_Ok l cb_4_cut 2 "SwipedStripe$Row" "cut" jw_ro { frames := 0, cells := 0, slots := 0, locals := 0 } none 0 0 bb_4_cut_0 0 := (jo_iln (i := 1) (j := 1) (by decide +kernel) rfl (jo_zlt (off := 16) (tgt := 17) (by decide +kernel) (by decide) (sb_4_cut_17 l) (jo_iln (i := 1) (j := 1) (by decide +kernel) rfl (jo_aln (i := 0) (j := 0) (by decide +kernel) rfl (jo_gf (j := 1) jw_F4 (by decide) kw_57 (by decide +kernel) (jo_cge (off := 8) (tgt := 17) (by decide +kernel) (by decide) (sb_4_cut_17 l) (jo_aln (i := 0) (j := 0) (by decide +kernel) rfl (jo_iln (i := 1) (j := 1) (by decide +kernel) rfl (jo_pfi (j := 1) jw_F4 (by decide) kw_57 rfl rfl (by decide +kernel) (sb_4_cut_17 l))))))))))
theorem ss_4_cut (l : Launch) : jw_Met l yy_4_cut cb_4_cut 2 none { frames := 0, cells := 0, slots := 0, locals := 0 } cc_4_cut := by
  refine jw_met (by decide) (fun pc => ?_)
  intro p e s m args below meth c Q D aC ad base K X RT ls st h z hf
  unfold qq_4_cut at hf
  by_cases h0 : pc = 0
  · subst h0; simp only [if_true, if_false, reduceIte, ↓reduceIte] at hf; exact sb_4_cut_0 l p e s m args below meth c Q D aC ad base K X RT ls st h z hf
  rw [if_neg h0] at hf
  exact hf.elim
abbrev cb_5_isChecked : ByteArray := prog_7_method_6_code
abbrev yy_5_isChecked : MethodName := ⟨"SwipedStripe$Rules", "isChecked", "()Z"⟩
def bb_5_isChecked_15 (K : jw_K) (J : Nat → jw_S) : jw_S := xo_rz 0 0 K
def bb_5_isChecked_14 (K : jw_K) (J : Nat → jw_S) : jw_S := xo_ci 0 (bb_5_isChecked_15 K J)
def bb_5_isChecked_0 (K : jw_K) (J : Nat → jw_S) : jw_S := xo_al 0 (xo_ci 7 (xo_cv 5 cc_5_of 2 (xo_ci 1 (xo_cne (bb_5_isChecked_14 K J) (xo_ci 1 (bb_5_isChecked_15 K J))))))
def qq_5_isChecked (K : jw_K) (pc : Nat) (J : Nat → jw_S) : jw_S := if pc = 0 then bb_5_isChecked_0 K J else fun _ _ _ _ => False
def cc_5_isChecked : jw_T := jw_C 1 qq_5_isChecked
theorem sb_5_isChecked_15 (l : Launch) : jo_Ok l cb_5_isChecked 1 "SwipedStripe$Rules" "isChecked" jw_ro { frames := 2, cells := 0, slots := 0, locals := 42 } (some .boolean) 0 0 bb_5_isChecked_15 15 := (jo_rz rfl (by decide +kernel))
theorem sb_5_isChecked_14 (l : Launch) : jo_Ok l cb_5_isChecked 1 "SwipedStripe$Rules" "isChecked" jw_ro { frames := 2, cells := 0, slots := 0, locals := 42 } (some .boolean) 0 0 bb_5_isChecked_14 14 := (jo_ici (n := 0) (by decide +kernel) (by decide) (sb_5_isChecked_15 l))
theorem sb_5_isChecked_0 (l : Launch) : jo_Ok l cb_5_isChecked 1 "SwipedStripe$Rules" "isChecked" jw_ro { frames := 2, cells := 0, slots := 0, locals := 42 } (some .boolean) 0 0 bb_5_isChecked_0 0 := (jo_aln (i := 0) (j := 0) (by decide +kernel) rfl (jo_bpi (n := 7) (by decide +kernel) (by decide) (jo_cv (n := 1) (ss_5_of l) kw_457 kw_2 kw_454 kw_455 jw_F5 kw_456 ⟨by decide, by decide, by decide +kernel⟩ ⟨by decide, by decide⟩ (fun _ _ h => h) ⟨rfl, rfl⟩ (by decide +kernel) (jo_ici (n := 1) (by decide +kernel) (by decide) (jo_cne (off := 7) (tgt := 14) (by decide +kernel) (by decide) (sb_5_isChecked_14 l) (jo_ici (n := 1) (by decide +kernel) (by decide) (jo_goto (off := 4) (tgt := 15) (by decide +kernel) (by decide) (sb_5_isChecked_15 l))))))))
theorem ss_5_isChecked (l : Launch) : jw_Met l yy_5_isChecked cb_5_isChecked 1 (some .boolean) { frames := 2, cells := 0, slots := 0, locals := 42 } cc_5_isChecked := by
  refine jw_met (by decide) (fun pc => ?_)
  intro p e s m args below meth c Q D aC ad base K X RT ls st h z hf
  unfold qq_5_isChecked at hf
  by_cases h0 : pc = 0
  · subst h0; simp only [if_true, if_false, reduceIte, ↓reduceIte] at hf; exact sb_5_isChecked_0 l p e s m args below meth c Q D aC ad base K X RT ls st h z hf
  rw [if_neg h0] at hf
  exact hf.elim
abbrev cb_N_bitCount : ByteArray := prog_14_method_49_code
abbrev yy_N_bitCount : MethodName := ⟨"java/lang/Integer", "bitCount", "(I)I"⟩
def bb_N_bitCount_32 (K : jw_K) (J : Nat → jw_S) : jw_S := xo_iand (xo_is 0 (xo_il 0 (xo_il 0 (xo_ci 8 (xo_iushr (xo_iadd (xo_is 0 (xo_il 0 (xo_il 0 (xo_ci 16 (xo_iushr (xo_iadd (xo_is 0 (xo_il 0 (xo_ci 63 (xo_iand (xo_ri 0 0 K)))))))))))))))))
def bb_N_bitCount_0 (K : jw_K) (J : Nat → jw_S) : jw_S := xo_il 0 (xo_il 0 (xo_ci 1 (xo_iushr (xo_ci 1431655765 (xo_iand (xo_isub (xo_is 0 (xo_il 0 (xo_ci 858993459 (xo_iand (xo_il 0 (xo_ci 2 (xo_iushr (xo_ci 858993459 (xo_iand (xo_iadd (xo_is 0 (xo_il 0 (xo_il 0 (xo_ci 4 (xo_iushr (xo_iadd (xo_ci 252645135 (bb_N_bitCount_32 K J))))))))))))))))))))))))
def qq_N_bitCount (K : jw_K) (pc : Nat) (J : Nat → jw_S) : jw_S := if pc = 0 then bb_N_bitCount_0 K J else fun _ _ _ _ => False
def cc_N_bitCount : jw_T := jw_C 1 qq_N_bitCount
theorem sb_N_bitCount_32 (l : Launch) : jo_Ok l cb_N_bitCount 1 "java/lang/Integer" "bitCount" jw_ro { frames := 0, cells := 0, slots := 0, locals := 0 } (some .int) 0 0 bb_N_bitCount_32 32 := (jo_iand (by decide +kernel) (jo_isn (i := 0) (j := 0) (by decide +kernel) rfl (by decide) (jo_iln (i := 0) (j := 0) (by decide +kernel) rfl (jo_iln (i := 0) (j := 0) (by decide +kernel) rfl (jo_bpi (n := 8) (by decide +kernel) (by decide) (jo_iushr (by decide +kernel) (jo_iadd (by decide +kernel) (jo_isn (i := 0) (j := 0) (by decide +kernel) rfl (by decide) (jo_iln (i := 0) (j := 0) (by decide +kernel) rfl (jo_iln (i := 0) (j := 0) (by decide +kernel) rfl (jo_bpi (n := 16) (by decide +kernel) (by decide) (jo_iushr (by decide +kernel) (jo_iadd (by decide +kernel) (jo_isn (i := 0) (j := 0) (by decide +kernel) rfl (by decide) (jo_iln (i := 0) (j := 0) (by decide +kernel) rfl (jo_bpi (n := 63) (by decide +kernel) (by decide) (jo_iand (by decide +kernel) (jo_ri rfl (by decide +kernel)))))))))))))))))))
theorem sb_N_bitCount_0 (l : Launch) : jo_Ok l cb_N_bitCount 1 "java/lang/Integer" "bitCount" jw_ro { frames := 0, cells := 0, slots := 0, locals := 0 } (some .int) 0 0 bb_N_bitCount_0 0 := (jo_iln (i := 0) (j := 0) (by decide +kernel) rfl (jo_iln (i := 0) (j := 0) (by decide +kernel) rfl (jo_ici (n := 1) (by decide +kernel) (by decide) (jo_iushr (by decide +kernel) (jo_ldcw (by decide +kernel) kw_540 (jo_iand (by decide +kernel) (jo_isub (by decide +kernel) (jo_isn (i := 0) (j := 0) (by decide +kernel) rfl (by decide) (jo_iln (i := 0) (j := 0) (by decide +kernel) rfl (jo_ldcw (by decide +kernel) kw_541 (jo_iand (by decide +kernel) (jo_iln (i := 0) (j := 0) (by decide +kernel) rfl (jo_ici (n := 2) (by decide +kernel) (by decide) (jo_iushr (by decide +kernel) (jo_ldcw (by decide +kernel) kw_541 (jo_iand (by decide +kernel) (jo_iadd (by decide +kernel) (jo_isn (i := 0) (j := 0) (by decide +kernel) rfl (by decide) (jo_iln (i := 0) (j := 0) (by decide +kernel) rfl (jo_iln (i := 0) (j := 0) (by decide +kernel) rfl (jo_ici (n := 4) (by decide +kernel) (by decide) (jo_iushr (by decide +kernel) (jo_iadd (by decide +kernel) (jo_ldcw (by decide +kernel) kw_542 (sb_N_bitCount_32 l)))))))))))))))))))))))))
theorem ss_N_bitCount (l : Launch) : jw_Met l yy_N_bitCount cb_N_bitCount 1 (some .int) { frames := 0, cells := 0, slots := 0, locals := 0 } cc_N_bitCount := by
  refine jw_met (by decide) (fun pc => ?_)
  intro p e s m args below meth c Q D aC ad base K X RT ls st h z hf
  unfold qq_N_bitCount at hf
  by_cases h0 : pc = 0
  · subst h0; simp only [if_true, if_false, reduceIte, ↓reduceIte] at hf; exact sb_N_bitCount_0 l p e s m args below meth c Q D aC ad base K X RT ls st h z hf
  rw [if_neg h0] at hf
  exact hf.elim
abbrev cb_5_coded : ByteArray := prog_7_method_9_code
abbrev yy_5_coded : MethodName := ⟨"SwipedStripe$Rules", "coded", "(I)I"⟩
def bb_5_coded_0 (K : jw_K) (J : Nat → jw_S) : jw_S := xo_il 1 (xo_cs cc_N_bitCount 1 (xo_al 0 (xo_ci 1 (xo_cv 5 cc_5_of 2 (xo_iadd (xo_ci 1 (xo_iand (xo_is 2 (xo_il 1 (xo_il 2 (xo_al 0 (xo_ci 0 (xo_cv 5 cc_5_of 2 (xo_ishl (xo_ior (xo_ri 0 0 K))))))))))))))))
def qq_5_coded (K : jw_K) (pc : Nat) (J : Nat → jw_S) : jw_S := if pc = 0 then bb_5_coded_0 K J else fun _ _ _ _ => False
def cc_5_coded : jw_T := jw_C 3 qq_5_coded
theorem sb_5_coded_0 (l : Launch) : jo_Ok l cb_5_coded 3 "SwipedStripe$Rules" "coded" jw_ro { frames := 2, cells := 0, slots := 0, locals := 42 } (some .int) 0 0 bb_5_coded_0 0 := (jo_iln (i := 1) (j := 1) (by decide +kernel) rfl (jo_cs (n := 1) (idx := 33) (ss_N_bitCount l) kw_539 kw_18 kw_537 kw_538 ⟨by decide, by decide, by decide +kernel⟩ ⟨by decide, by decide⟩ (fun _ _ h => h) ⟨rfl, rfl⟩ (by decide +kernel) (jo_aln (i := 0) (j := 0) (by decide +kernel) rfl (jo_ici (n := 1) (by decide +kernel) (by decide) (jo_cv (n := 1) (ss_5_of l) kw_457 kw_2 kw_454 kw_455 jw_F5 kw_456 ⟨by decide, by decide, by decide +kernel⟩ ⟨by decide, by decide⟩ (fun _ _ h => h) ⟨rfl, rfl⟩ (by decide +kernel) (jo_iadd (by decide +kernel) (jo_ici (n := 1) (by decide +kernel) (by decide) (jo_iand (by decide +kernel) (jo_isn (i := 2) (j := 2) (by decide +kernel) rfl (by decide) (jo_iln (i := 1) (j := 1) (by decide +kernel) rfl (jo_iln (i := 2) (j := 2) (by decide +kernel) rfl (jo_aln (i := 0) (j := 0) (by decide +kernel) rfl (jo_ici (n := 0) (by decide +kernel) (by decide) (jo_cv (n := 1) (ss_5_of l) kw_457 kw_2 kw_454 kw_455 jw_F5 kw_456 ⟨by decide, by decide, by decide +kernel⟩ ⟨by decide, by decide⟩ (fun _ _ h => h) ⟨rfl, rfl⟩ (by decide +kernel) (jo_ishl (by decide +kernel) (jo_ior (by decide +kernel) (jo_ri rfl (by decide +kernel))))))))))))))))))
theorem ss_5_coded (l : Launch) : jw_Met l yy_5_coded cb_5_coded 3 (some .int) { frames := 2, cells := 0, slots := 0, locals := 42 } cc_5_coded := by
  refine jw_met (by decide) (fun pc => ?_)
  intro p e s m args below meth c Q D aC ad base K X RT ls st h z hf
  unfold qq_5_coded at hf
  by_cases h0 : pc = 0
  · subst h0; simp only [if_true, if_false, reduceIte, ↓reduceIte] at hf; exact sb_5_coded_0 l p e s m args below meth c Q D aC ad base K X RT ls st h z hf
  rw [if_neg h0] at hf
  exact hf.elim
abbrev cb_8_pushSymbol : ByteArray := prog_10_method_8_code
abbrev yy_8_pushSymbol : MethodName := ⟨"SwipedStripe$Stripe", "pushSymbol", "(LSwipedStripe$Rules;I)V"⟩
def bb_8_pushSymbol_39 (K : jw_K) (J : Nat → jw_S) : jw_S := xo_rv 0 0 K
def bb_8_pushSymbol_9 (K : jw_K) (J : Nat → jw_S) : jw_S := xo_il 4 (xo_al 1 (xo_ci 0 (xo_cv 5 cc_5_of 2 (xo_cgt (bb_8_pushSymbol_39 K J) (xo_al 0 (xo_gf 8 0 (xo_il 3 (xo_il 4 (xo_ishr (xo_ci 1 (xo_iand (xo_cv 4 cc_4_push 2 (xo_pop (xo_ic 4 1 (J 9)))))))))))))))
def bb_8_pushSymbol_0 (K : jw_K) (J : Nat → jw_S) : jw_S := xo_al 1 (xo_il 2 (xo_cv 5 cc_5_coded 2 (xo_is 3 (xo_ci 0 (xo_is 4 (J 9))))))
def qq_8_pushSymbol (K : jw_K) (pc : Nat) (J : Nat → jw_S) : jw_S := if pc = 0 then bb_8_pushSymbol_0 K J else if pc = 9 then bb_8_pushSymbol_9 K J else fun _ _ _ _ => False
def cc_8_pushSymbol : jw_T := jw_C 5 qq_8_pushSymbol
theorem sb_8_pushSymbol_39 (l : Launch) : jo_Ok l cb_8_pushSymbol 5 "SwipedStripe$Stripe" "pushSymbol" jw_ro { frames := 3, cells := 0, slots := 0, locals := 64 } none 0 0 bb_8_pushSymbol_39 39 := (jo_rv rfl (by decide +kernel))
theorem sb_8_pushSymbol_9 (l : Launch) : jo_Ok l cb_8_pushSymbol 5 "SwipedStripe$Stripe" "pushSymbol" jw_ro { frames := 3, cells := 0, slots := 0, locals := 64 } none 0 0 bb_8_pushSymbol_9 9 := (jo_il (by decide +kernel) (jo_aln (i := 1) (j := 1) (by decide +kernel) rfl (jo_ici (n := 0) (by decide +kernel) (by decide) (jo_cv (n := 1) (ss_5_of l) kw_457 kw_2 kw_523 kw_455 jw_F5 kw_456 ⟨by decide, by decide, by decide +kernel⟩ ⟨by decide, by decide⟩ (fun _ _ h => h) ⟨rfl, rfl⟩ (by decide +kernel) (jo_cgt (off := 23) (tgt := 39) (by decide +kernel) (by decide) (sb_8_pushSymbol_39 l) (jo_aln (i := 0) (j := 0) (by decide +kernel) rfl (jo_gf (j := 0) jw_F8 (by decide) kw_112 (by decide +kernel) (jo_iln (i := 3) (j := 3) (by decide +kernel) rfl (jo_il (by decide +kernel) (jo_ishr (by decide +kernel) (jo_ici (n := 1) (by decide +kernel) (by decide) (jo_iand (by decide +kernel) (jo_cv (n := 1) (ss_4_push l) kw_305 kw_3 kw_528 kw_303 jw_F4 kw_304 ⟨by decide, by decide, by decide +kernel⟩ ⟨by decide, by decide⟩ (fun _ _ h => h) ⟨rfl, rfl⟩ (by decide +kernel) (jo_pop (by decide +kernel) (jo_ic (n0 := 1) (by decide +kernel) (by decide) (by decide) (jo_goto (off := -27) (tgt := 9) (by decide +kernel) (by decide) (jo_J)))))))))))))))))
theorem sb_8_pushSymbol_0 (l : Launch) : jo_Ok l cb_8_pushSymbol 5 "SwipedStripe$Stripe" "pushSymbol" jw_ro { frames := 3, cells := 0, slots := 0, locals := 64 } none 0 0 bb_8_pushSymbol_0 0 := (jo_aln (i := 1) (j := 1) (by decide +kernel) rfl (jo_iln (i := 2) (j := 2) (by decide +kernel) rfl (jo_cv (n := 1) (ss_5_coded l) kw_536 kw_2 kw_533 kw_534 jw_F5 kw_535 ⟨by decide, by decide, by decide +kernel⟩ ⟨by decide, by decide⟩ (fun _ _ h => h) ⟨rfl, rfl⟩ (by decide +kernel) (jo_isn (i := 3) (j := 3) (by decide +kernel) rfl (by decide) (jo_ici (n := 0) (by decide +kernel) (by decide) (jo_is (by decide +kernel) (by decide) jo_J))))))
theorem ss_8_pushSymbol (l : Launch) : jw_Met l yy_8_pushSymbol cb_8_pushSymbol 5 none { frames := 3, cells := 0, slots := 0, locals := 64 } cc_8_pushSymbol := by
  refine jw_met (by decide) (fun pc => ?_)
  intro p e s m args below meth c Q D aC ad base K X RT ls st h z hf
  unfold qq_8_pushSymbol at hf
  by_cases h0 : pc = 0
  · subst h0; simp only [if_true, if_false, reduceIte, ↓reduceIte] at hf; exact sb_8_pushSymbol_0 l p e s m args below meth c Q D aC ad base K X RT ls st h z hf
  rw [if_neg h0] at hf
  by_cases h9 : pc = 9
  · subst h9; simp only [if_true, if_false, reduceIte, ↓reduceIte] at hf; exact sb_8_pushSymbol_9 l p e s m args below meth c Q D aC ad base K X RT ls st h z hf
  rw [if_neg h9] at hf
  exact hf.elim
abbrev cb_8_pushZeros : ByteArray := prog_10_method_7_code
abbrev yy_8_pushZeros : MethodName := ⟨"SwipedStripe$Stripe", "pushZeros", "(I)V"⟩
def bb_8_pushZeros_22 (K : jw_K) (J : Nat → jw_S) : jw_S := xo_rv 0 0 K
def bb_8_pushZeros_2 (K : jw_K) (J : Nat → jw_S) : jw_S := xo_il 2 (xo_il 1 (xo_cge (bb_8_pushZeros_22 K J) (xo_al 0 (xo_gf 8 0 (xo_ci 0 (xo_cv 4 cc_4_push 2 (xo_pop (xo_ic 2 1 (J 2)))))))))
def bb_8_pushZeros_0 (K : jw_K) (J : Nat → jw_S) : jw_S := xo_ci 0 (xo_is 2 (J 2))
def qq_8_pushZeros (K : jw_K) (pc : Nat) (J : Nat → jw_S) : jw_S := if pc = 0 then bb_8_pushZeros_0 K J else if pc = 2 then bb_8_pushZeros_2 K J else fun _ _ _ _ => False
def cc_8_pushZeros : jw_T := jw_C 3 qq_8_pushZeros
theorem sb_8_pushZeros_22 (l : Launch) : jo_Ok l cb_8_pushZeros 3 "SwipedStripe$Stripe" "pushZeros" jw_ro { frames := 1, cells := 0, slots := 0, locals := 21 } none 0 0 bb_8_pushZeros_22 22 := (jo_rv rfl (by decide +kernel))
theorem sb_8_pushZeros_2 (l : Launch) : jo_Ok l cb_8_pushZeros 3 "SwipedStripe$Stripe" "pushZeros" jw_ro { frames := 1, cells := 0, slots := 0, locals := 21 } none 0 0 bb_8_pushZeros_2 2 := (jo_iln (i := 2) (j := 2) (by decide +kernel) rfl (jo_iln (i := 1) (j := 1) (by decide +kernel) rfl (jo_cge (off := 18) (tgt := 22) (by decide +kernel) (by decide) (sb_8_pushZeros_22 l) (jo_aln (i := 0) (j := 0) (by decide +kernel) rfl (jo_gf (j := 0) jw_F8 (by decide) kw_112 (by decide +kernel) (jo_ici (n := 0) (by decide +kernel) (by decide) (jo_cv (n := 1) (ss_4_push l) kw_305 kw_3 kw_528 kw_303 jw_F4 kw_304 ⟨by decide, by decide, by decide +kernel⟩ ⟨by decide, by decide⟩ (fun _ _ h => h) ⟨rfl, rfl⟩ (by decide +kernel) (jo_pop (by decide +kernel) (jo_ic (n0 := 1) (by decide +kernel) (by decide) (by decide) (jo_goto (off := -17) (tgt := 2) (by decide +kernel) (by decide) (jo_J)))))))))))
theorem sb_8_pushZeros_0 (l : Launch) : jo_Ok l cb_8_pushZeros 3 "SwipedStripe$Stripe" "pushZeros" jw_ro { frames := 1, cells := 0, slots := 0, locals := 21 } none 0 0 bb_8_pushZeros_0 0 := (jo_ici (n := 0) (by decide +kernel) (by decide) (jo_isn (i := 2) (j := 2) (by decide +kernel) rfl (by decide) jo_J))
theorem ss_8_pushZeros (l : Launch) : jw_Met l yy_8_pushZeros cb_8_pushZeros 3 none { frames := 1, cells := 0, slots := 0, locals := 21 } cc_8_pushZeros := by
  refine jw_met (by decide) (fun pc => ?_)
  intro p e s m args below meth c Q D aC ad base K X RT ls st h z hf
  unfold qq_8_pushZeros at hf
  by_cases h0 : pc = 0
  · subst h0; simp only [if_true, if_false, reduceIte, ↓reduceIte] at hf; exact sb_8_pushZeros_0 l p e s m args below meth c Q D aC ad base K X RT ls st h z hf
  rw [if_neg h0] at hf
  by_cases h2 : pc = 2
  · subst h2; simp only [if_true, if_false, reduceIte, ↓reduceIte] at hf; exact sb_8_pushZeros_2 l p e s m args below meth c Q D aC ad base K X RT ls st h z hf
  rw [if_neg h2] at hf
  exact hf.elim
abbrev cb_8_build : ByteArray := prog_10_method_4_code
abbrev yy_8_build : MethodName := ⟨"SwipedStripe$Stripe", "build", "(LSwipedStripe$Rules;LSwipedStripe$Row;)V"⟩
def bb_8_build_114 (K : jw_K) (J : Nat → jw_S) : jw_S := xo_al 0 (xo_al 1 (xo_ci 5 (xo_cv 5 cc_5_of 2 (xo_cv 8 cc_8_pushZeros 2 (xo_rv 0 0 K)))))
def bb_8_build_77 (K : jw_K) (J : Nat → jw_S) : jw_S := xo_al 0 (xo_al 1 (xo_al 1 (xo_ci 3 (xo_cv 5 cc_5_of 2 (xo_cv 8 cc_8_pushSymbol 3 (xo_al 0 (xo_ci (-4) (xo_pfi 8 1 (xo_al 1 (xo_cv 5 cc_5_isChecked 1 (xo_zeq (bb_8_build_114 K J) (xo_al 0 (xo_il 3 (xo_pfi 8 1 (xo_al 0 (xo_al 1 (xo_al 0 (xo_gf 8 1 (xo_cv 8 cc_8_pushSymbol 3 (bb_8_build_114 K J))))))))))))))))))))
def bb_8_build_42 (K : jw_K) (J : Nat → jw_S) : jw_S := xo_il 4 (xo_al 2 (xo_cv 4 cc_4_size 1 (xo_cge (bb_8_build_77 K J) (xo_al 0 (xo_al 1 (xo_al 2 (xo_il 4 (xo_cv 4 cc_4_at 2 (xo_cv 8 cc_8_pushSymbol 3 (xo_il 3 (xo_al 2 (xo_il 4 (xo_cv 4 cc_4_at 2 (xo_ixor (xo_is 3 (xo_ic 4 1 (J 42)))))))))))))))))
def bb_8_build_40 (K : jw_K) (J : Nat → jw_S) : jw_S := xo_is 4 (J 42)
def bb_8_build_0 (K : jw_K) (J : Nat → jw_S) : jw_S := xo_al 0 (xo_gf 8 0 (xo_ci 0 (xo_cv 4 cc_4_cut 2 (xo_al 0 (xo_al 1 (xo_ci 4 (xo_cv 5 cc_5_of 2 (xo_cv 8 cc_8_pushZeros 2 (xo_al 1 (xo_ci 2 (xo_cv 5 cc_5_of 2 (xo_al 1 (xo_ci 3 (xo_cv 5 cc_5_of 2 (xo_ixor (xo_is 3 (xo_al 0 (xo_al 1 (xo_al 1 (xo_ci 2 (xo_cv 5 cc_5_of 2 (xo_cv 8 cc_8_pushSymbol 3 (xo_ci 0 (bb_8_build_40 K J))))))))))))))))))))))))
def qq_8_build (K : jw_K) (pc : Nat) (J : Nat → jw_S) : jw_S := if pc = 0 then bb_8_build_0 K J else if pc = 42 then bb_8_build_42 K J else fun _ _ _ _ => False
def cc_8_build : jw_T := jw_C 5 qq_8_build
theorem sb_8_build_114 (l : Launch) : jo_Ok l cb_8_build 5 "SwipedStripe$Stripe" "build" jw_ro { frames := 4, cells := 0, slots := 0, locals := 88 } none 0 0 bb_8_build_114 114 := (jo_aln (i := 0) (j := 0) (by decide +kernel) rfl (jo_aln (i := 1) (j := 1) (by decide +kernel) rfl (jo_ici (n := 5) (by decide +kernel) (by decide) (jo_cv (n := 1) (ss_5_of l) kw_457 kw_2 kw_523 kw_455 jw_F5 kw_456 ⟨by decide, by decide, by decide +kernel⟩ ⟨by decide, by decide⟩ (fun _ _ h => h) ⟨rfl, rfl⟩ (by decide +kernel) (jo_cv (n := 1) (ss_8_pushZeros l) kw_527 kw_6 kw_524 kw_526 jw_F8 kp_9 ⟨by decide, by decide, by decide +kernel⟩ ⟨by decide, by decide⟩ (fun _ _ h => h) ⟨rfl, rfl⟩ (by decide +kernel) (jo_rv rfl (by decide +kernel)))))))
theorem sb_8_build_77 (l : Launch) : jo_Ok l cb_8_build 5 "SwipedStripe$Stripe" "build" jw_ro { frames := 4, cells := 0, slots := 0, locals := 88 } none 0 0 bb_8_build_77 77 := (jo_aln (i := 0) (j := 0) (by decide +kernel) rfl (jo_aln (i := 1) (j := 1) (by decide +kernel) rfl (jo_aln (i := 1) (j := 1) (by decide +kernel) rfl (jo_ici (n := 3) (by decide +kernel) (by decide) (jo_cv (n := 1) (ss_5_of l) kw_457 kw_2 kw_523 kw_455 jw_F5 kw_456 ⟨by decide, by decide, by decide +kernel⟩ ⟨by decide, by decide⟩ (fun _ _ h => h) ⟨rfl, rfl⟩ (by decide +kernel) (jo_cv (n := 2) (ss_8_pushSymbol l) kw_532 kw_6 kw_529 kw_531 jw_F8 kp_10 ⟨by decide, by decide, by decide +kernel⟩ ⟨by decide, by decide⟩ (fun _ _ h => h) ⟨rfl, rfl⟩ (by decide +kernel) (jo_aln (i := 0) (j := 0) (by decide +kernel) rfl (jo_bpi (n := -4) (by decide +kernel) (by decide) (jo_pfi (j := 1) jw_F8 (by decide) kw_113 rfl rfl (by decide +kernel) (jo_aln (i := 1) (j := 1) (by decide +kernel) rfl (jo_cv (n := 0) (ss_5_isChecked l) kw_548 kw_2 kw_545 kw_546 jw_F5 kw_547 ⟨by decide, by decide, by decide +kernel⟩ ⟨by decide, by decide⟩ (fun _ _ h => h) ⟨rfl, rfl⟩ (by decide +kernel) (jo_zeq (off := 17) (tgt := 114) (by decide +kernel) (by decide) (sb_8_build_114 l) (jo_aln (i := 0) (j := 0) (by decide +kernel) rfl (jo_iln (i := 3) (j := 3) (by decide +kernel) rfl (jo_pfi (j := 1) jw_F8 (by decide) kw_113 rfl rfl (by decide +kernel) (jo_aln (i := 0) (j := 0) (by decide +kernel) rfl (jo_aln (i := 1) (j := 1) (by decide +kernel) rfl (jo_aln (i := 0) (j := 0) (by decide +kernel) rfl (jo_gf (j := 1) jw_F8 (by decide) kw_113 (by decide +kernel) (jo_cv (n := 2) (ss_8_pushSymbol l) kw_532 kw_6 kw_529 kw_531 jw_F8 kp_10 ⟨by decide, by decide, by decide +kernel⟩ ⟨by decide, by decide⟩ (fun _ _ h => h) ⟨rfl, rfl⟩ (by decide +kernel) (sb_8_build_114 l)))))))))))))))))))))
theorem sb_8_build_42 (l : Launch) : jo_Ok l cb_8_build 5 "SwipedStripe$Stripe" "build" jw_ro { frames := 4, cells := 0, slots := 0, locals := 88 } none 0 0 bb_8_build_42 42 := (jo_il (by decide +kernel) (jo_aln (i := 2) (j := 2) (by decide +kernel) rfl (jo_cv (n := 0) (ss_4_size l) kw_301 kw_3 kw_543 kw_299 jw_F4 kw_300 ⟨by decide, by decide, by decide +kernel⟩ ⟨by decide, by decide⟩ (fun _ _ h => h) ⟨rfl, rfl⟩ (by decide +kernel) (jo_cge (off := 29) (tgt := 77) (by decide +kernel) (by decide) (sb_8_build_77 l) (jo_aln (i := 0) (j := 0) (by decide +kernel) rfl (jo_aln (i := 1) (j := 1) (by decide +kernel) rfl (jo_aln (i := 2) (j := 2) (by decide +kernel) rfl (jo_il (by decide +kernel) (jo_cv (n := 1) (ss_4_at l) kw_330 kw_3 kw_544 kw_328 jw_F4 kw_329 ⟨by decide, by decide, by decide +kernel⟩ ⟨by decide, by decide⟩ (fun _ _ h => h) ⟨rfl, rfl⟩ (by decide +kernel) (jo_cv (n := 2) (ss_8_pushSymbol l) kw_532 kw_6 kw_529 kw_531 jw_F8 kp_10 ⟨by decide, by decide, by decide +kernel⟩ ⟨by decide, by decide⟩ (fun _ _ h => h) ⟨rfl, rfl⟩ (by decide +kernel) (jo_iln (i := 3) (j := 3) (by decide +kernel) rfl (jo_aln (i := 2) (j := 2) (by decide +kernel) rfl (jo_il (by decide +kernel) (jo_cv (n := 1) (ss_4_at l) kw_330 kw_3 kw_544 kw_328 jw_F4 kw_329 ⟨by decide, by decide, by decide +kernel⟩ ⟨by decide, by decide⟩ (fun _ _ h => h) ⟨rfl, rfl⟩ (by decide +kernel) (jo_ixor (by decide +kernel) (jo_isn (i := 3) (j := 3) (by decide +kernel) rfl (by decide) (jo_ic (n0 := 1) (by decide +kernel) (by decide) (by decide) (jo_goto (off := -32) (tgt := 42) (by decide +kernel) (by decide) (jo_J)))))))))))))))))))
theorem sb_8_build_40 (l : Launch) : jo_Ok l cb_8_build 5 "SwipedStripe$Stripe" "build" jw_ro { frames := 4, cells := 0, slots := 0, locals := 88 } none 0 0 bb_8_build_40 40 := (jo_is (by decide +kernel) (by decide) jo_J)
theorem sb_8_build_0 (l : Launch) : jo_Ok l cb_8_build 5 "SwipedStripe$Stripe" "build" jw_ro { frames := 4, cells := 0, slots := 0, locals := 88 } none 0 0 bb_8_build_0 0 := (jo_aln (i := 0) (j := 0) (by decide +kernel) rfl (jo_gf (j := 0) jw_F8 (by decide) kw_112 (by decide +kernel) (jo_ici (n := 0) (by decide +kernel) (by decide) (jo_cv (n := 1) (ss_4_cut l) kw_313 kw_3 kw_522 kw_311 jw_F4 kw_312 ⟨by decide, by decide, by decide +kernel⟩ ⟨by decide, by decide⟩ (fun _ _ h => h) ⟨rfl, rfl⟩ (by decide +kernel) (jo_aln (i := 0) (j := 0) (by decide +kernel) rfl (jo_aln (i := 1) (j := 1) (by decide +kernel) rfl (jo_ici (n := 4) (by decide +kernel) (by decide) (jo_cv (n := 1) (ss_5_of l) kw_457 kw_2 kw_523 kw_455 jw_F5 kw_456 ⟨by decide, by decide, by decide +kernel⟩ ⟨by decide, by decide⟩ (fun _ _ h => h) ⟨rfl, rfl⟩ (by decide +kernel) (jo_cv (n := 1) (ss_8_pushZeros l) kw_527 kw_6 kw_524 kw_526 jw_F8 kp_9 ⟨by decide, by decide, by decide +kernel⟩ ⟨by decide, by decide⟩ (fun _ _ h => h) ⟨rfl, rfl⟩ (by decide +kernel) (jo_aln (i := 1) (j := 1) (by decide +kernel) rfl (jo_ici (n := 2) (by decide +kernel) (by decide) (jo_cv (n := 1) (ss_5_of l) kw_457 kw_2 kw_523 kw_455 jw_F5 kw_456 ⟨by decide, by decide, by decide +kernel⟩ ⟨by decide, by decide⟩ (fun _ _ h => h) ⟨rfl, rfl⟩ (by decide +kernel) (jo_aln (i := 1) (j := 1) (by decide +kernel) rfl (jo_ici (n := 3) (by decide +kernel) (by decide) (jo_cv (n := 1) (ss_5_of l) kw_457 kw_2 kw_523 kw_455 jw_F5 kw_456 ⟨by decide, by decide, by decide +kernel⟩ ⟨by decide, by decide⟩ (fun _ _ h => h) ⟨rfl, rfl⟩ (by decide +kernel) (jo_ixor (by decide +kernel) (jo_isn (i := 3) (j := 3) (by decide +kernel) rfl (by decide) (jo_aln (i := 0) (j := 0) (by decide +kernel) rfl (jo_aln (i := 1) (j := 1) (by decide +kernel) rfl (jo_aln (i := 1) (j := 1) (by decide +kernel) rfl (jo_ici (n := 2) (by decide +kernel) (by decide) (jo_cv (n := 1) (ss_5_of l) kw_457 kw_2 kw_523 kw_455 jw_F5 kw_456 ⟨by decide, by decide, by decide +kernel⟩ ⟨by decide, by decide⟩ (fun _ _ h => h) ⟨rfl, rfl⟩ (by decide +kernel) (jo_cv (n := 2) (ss_8_pushSymbol l) kw_532 kw_6 kw_529 kw_531 jw_F8 kp_10 ⟨by decide, by decide, by decide +kernel⟩ ⟨by decide, by decide⟩ (fun _ _ h => h) ⟨rfl, rfl⟩ (by decide +kernel) (jo_ici (n := 0) (by decide +kernel) (by decide) (sb_8_build_40 l)))))))))))))))))))))))))
theorem ss_8_build (l : Launch) : jw_Met l yy_8_build cb_8_build 5 none { frames := 4, cells := 0, slots := 0, locals := 88 } cc_8_build := by
  refine jw_met (by decide) (fun pc => ?_)
  intro p e s m args below meth c Q D aC ad base K X RT ls st h z hf
  unfold qq_8_build at hf
  by_cases h0 : pc = 0
  · subst h0; simp only [if_true, if_false, reduceIte, ↓reduceIte] at hf; exact sb_8_build_0 l p e s m args below meth c Q D aC ad base K X RT ls st h z hf
  rw [if_neg h0] at hf
  by_cases h42 : pc = 42
  · subst h42; simp only [if_true, if_false, reduceIte, ↓reduceIte] at hf; exact sb_8_build_42 l p e s m args below meth c Q D aC ad base K X RT ls st h z hf
  rw [if_neg h42] at hf
  exact hf.elim
abbrev cb_10_bit : ByteArray := prog_1_method_11_code
abbrev yy_10_bit : MethodName := ⟨"SwipedStripe", "bit", "(I)I"⟩
def bb_10_bit_44 (K : jw_K) (J : Nat → jw_S) : jw_S := xo_ri 0 0 K
def bb_10_bit_43 (K : jw_K) (J : Nat → jw_S) : jw_S := xo_ci (-1) (bb_10_bit_44 K J)
def bb_10_bit_0 (K : jw_K) (J : Nat → jw_S) : jw_S := xo_al 0 (xo_gf 10 4 (xo_al 0 (xo_gf 10 0 (xo_al 0 (xo_gf 10 3 (xo_cv 8 cc_8_build 3 (xo_al 0 (xo_gf 10 4 (xo_cv 8 cc_8_bits 1 (xo_il 1 (xo_cv 4 cc_4_has 2 (xo_zeq (bb_10_bit_43 K J) (xo_al 0 (xo_gf 10 4 (xo_cv 8 cc_8_bits 1 (xo_il 1 (xo_cv 4 cc_4_at 2 (bb_10_bit_44 K J))))))))))))))))))
def qq_10_bit (K : jw_K) (pc : Nat) (J : Nat → jw_S) : jw_S := if pc = 0 then bb_10_bit_0 K J else fun _ _ _ _ => False
def cc_10_bit : jw_T := jw_C 2 qq_10_bit
theorem sb_10_bit_44 (l : Launch) : jo_Ok l cb_10_bit 2 "SwipedStripe" "bit" jw_ro { frames := 5, cells := 0, slots := 0, locals := 112 } (some .int) 0 0 bb_10_bit_44 44 := (jo_ri rfl (by decide +kernel))
theorem sb_10_bit_43 (l : Launch) : jo_Ok l cb_10_bit 2 "SwipedStripe" "bit" jw_ro { frames := 5, cells := 0, slots := 0, locals := 112 } (some .int) 0 0 bb_10_bit_43 43 := (jo_ici (n := -1) (by decide +kernel) (by decide) (sb_10_bit_44 l))
theorem sb_10_bit_0 (l : Launch) : jo_Ok l cb_10_bit 2 "SwipedStripe" "bit" jw_ro { frames := 5, cells := 0, slots := 0, locals := 112 } (some .int) 0 0 bb_10_bit_0 0 := (jo_aln (i := 0) (j := 0) (by decide +kernel) rfl (jo_gf (j := 4) jw_F10 (by decide) kw_258 (by decide +kernel) (jo_aln (i := 0) (j := 0) (by decide +kernel) rfl (jo_gf (j := 0) jw_F10 (by decide) kw_254 (by decide +kernel) (jo_aln (i := 0) (j := 0) (by decide +kernel) rfl (jo_gf (j := 3) jw_F10 (by decide) kw_257 (by decide +kernel) (jo_cv (n := 2) (ss_8_build l) kw_521 kw_6 kw_518 kw_519 jw_F8 kw_520 ⟨by decide, by decide, by decide +kernel⟩ ⟨by decide, by decide⟩ (fun _ _ h => h) ⟨rfl, rfl⟩ (by decide +kernel) (jo_aln (i := 0) (j := 0) (by decide +kernel) rfl (jo_gf (j := 4) jw_F10 (by decide) kw_258 (by decide +kernel) (jo_cv (n := 0) (ss_8_bits l) kw_552 kw_6 kw_549 kw_550 jw_F8 kw_551 ⟨by decide, by decide, by decide +kernel⟩ ⟨by decide, by decide⟩ (fun _ _ h => h) ⟨rfl, rfl⟩ (by decide +kernel) (jo_iln (i := 1) (j := 1) (by decide +kernel) rfl (jo_cv (n := 1) (ss_4_has l) kw_346 kw_3 kw_512 kw_344 jw_F4 kw_345 ⟨by decide, by decide, by decide +kernel⟩ ⟨by decide, by decide⟩ (fun _ _ h => h) ⟨rfl, rfl⟩ (by decide +kernel) (jo_zeq (off := 17) (tgt := 43) (by decide +kernel) (by decide) (sb_10_bit_43 l) (jo_aln (i := 0) (j := 0) (by decide +kernel) rfl (jo_gf (j := 4) jw_F10 (by decide) kw_258 (by decide +kernel) (jo_cv (n := 0) (ss_8_bits l) kw_552 kw_6 kw_549 kw_550 jw_F8 kw_551 ⟨by decide, by decide, by decide +kernel⟩ ⟨by decide, by decide⟩ (fun _ _ h => h) ⟨rfl, rfl⟩ (by decide +kernel) (jo_iln (i := 1) (j := 1) (by decide +kernel) rfl (jo_cv (n := 1) (ss_4_at l) kw_330 kw_3 kw_513 kw_328 jw_F4 kw_329 ⟨by decide, by decide, by decide +kernel⟩ ⟨by decide, by decide⟩ (fun _ _ h => h) ⟨rfl, rfl⟩ (by decide +kernel) (jo_goto (off := 4) (tgt := 44) (by decide +kernel) (by decide) (sb_10_bit_44 l))))))))))))))))))))
theorem ss_10_bit (l : Launch) : jw_Met l yy_10_bit cb_10_bit 2 (some .int) { frames := 5, cells := 0, slots := 0, locals := 112 } cc_10_bit := by
  refine jw_met (by decide) (fun pc => ?_)
  intro p e s m args below meth c Q D aC ad base K X RT ls st h z hf
  unfold qq_10_bit at hf
  by_cases h0 : pc = 0
  · subst h0; simp only [if_true, if_false, reduceIte, ↓reduceIte] at hf; exact sb_10_bit_0 l p e s m args below meth c Q D aC ad base K X RT ls st h z hf
  rw [if_neg h0] at hf
  exact hf.elim
abbrev cb_10_emptied : ByteArray := prog_1_method_41_code
abbrev yy_10_emptied : MethodName := ⟨"SwipedStripe", "emptied", "(LSwipedStripe$Row;)I"⟩
def bb_10_emptied_0 (K : jw_K) (J : Nat → jw_S) : jw_S := xo_al 0 (xo_cv 4 cc_4_size 1 (xo_is 1 (xo_al 0 (xo_ci 0 (xo_cv 4 cc_4_cut 2 (xo_il 1 (xo_ri 0 0 K)))))))
def qq_10_emptied (K : jw_K) (pc : Nat) (J : Nat → jw_S) : jw_S := if pc = 0 then bb_10_emptied_0 K J else fun _ _ _ _ => False
def cc_10_emptied : jw_T := jw_C 2 qq_10_emptied
theorem sb_10_emptied_0 (l : Launch) : jo_Ok l cb_10_emptied 2 "SwipedStripe" "emptied" jw_ro { frames := 1, cells := 0, slots := 0, locals := 21 } (some .int) 0 0 bb_10_emptied_0 0 := (jo_aln (i := 0) (j := 0) (by decide +kernel) rfl (jo_cv (n := 0) (ss_4_size l) kw_301 kw_3 kw_298 kw_299 jw_F4 kw_300 ⟨by decide, by decide, by decide +kernel⟩ ⟨by decide, by decide⟩ (fun _ _ h => h) ⟨rfl, rfl⟩ (by decide +kernel) (jo_isn (i := 1) (j := 1) (by decide +kernel) rfl (by decide) (jo_aln (i := 0) (j := 0) (by decide +kernel) rfl (jo_ici (n := 0) (by decide +kernel) (by decide) (jo_cv (n := 1) (ss_4_cut l) kw_313 kw_3 kw_310 kw_311 jw_F4 kw_312 ⟨by decide, by decide, by decide +kernel⟩ ⟨by decide, by decide⟩ (fun _ _ h => h) ⟨rfl, rfl⟩ (by decide +kernel) (jo_iln (i := 1) (j := 1) (by decide +kernel) rfl (jo_ri rfl (by decide +kernel)))))))))
theorem ss_10_emptied (l : Launch) : jw_Met l yy_10_emptied cb_10_emptied 2 (some .int) { frames := 1, cells := 0, slots := 0, locals := 21 } cc_10_emptied := by
  refine jw_met (by decide) (fun pc => ?_)
  intro p e s m args below meth c Q D aC ad base K X RT ls st h z hf
  unfold qq_10_emptied at hf
  by_cases h0 : pc = 0
  · subst h0; simp only [if_true, if_false, reduceIte, ↓reduceIte] at hf; exact sb_10_emptied_0 l p e s m args below meth c Q D aC ad base K X RT ls st h z hf
  rw [if_neg h0] at hf
  exact hf.elim
abbrev cb_10_clear : ByteArray := prog_1_method_8_code
abbrev yy_10_clear : MethodName := ⟨"SwipedStripe", "clear", "()I"⟩
def bb_10_clear_0 (K : jw_K) (J : Nat → jw_S) : jw_S := xo_al 0 (xo_gf 10 3 (xo_cs cc_10_emptied 1 (xo_ri 0 0 K)))
def qq_10_clear (K : jw_K) (pc : Nat) (J : Nat → jw_S) : jw_S := if pc = 0 then bb_10_clear_0 K J else fun _ _ _ _ => False
def cc_10_clear : jw_T := jw_C 1 qq_10_clear
theorem sb_10_clear_0 (l : Launch) : jo_Ok l cb_10_clear 1 "SwipedStripe" "clear" jw_ro { frames := 2, cells := 0, slots := 0, locals := 42 } (some .int) 0 0 bb_10_clear_0 0 := (jo_aln (i := 0) (j := 0) (by decide +kernel) rfl (jo_gf (j := 3) jw_F10 (by decide) kw_257 (by decide +kernel) (jo_cs (n := 1) (idx := 129) (ss_10_emptied l) kw_507 kw_1 kw_505 kw_506 ⟨by decide, by decide, by decide +kernel⟩ ⟨by decide, by decide⟩ (fun _ _ h => h) ⟨rfl, rfl⟩ (by decide +kernel) (jo_ri rfl (by decide +kernel)))))
theorem ss_10_clear (l : Launch) : jw_Met l yy_10_clear cb_10_clear 1 (some .int) { frames := 2, cells := 0, slots := 0, locals := 42 } cc_10_clear := by
  refine jw_met (by decide) (fun pc => ?_)
  intro p e s m args below meth c Q D aC ad base K X RT ls st h z hf
  unfold qq_10_clear at hf
  by_cases h0 : pc = 0
  · subst h0; simp only [if_true, if_false, reduceIte, ↓reduceIte] at hf; exact sb_10_clear_0 l p e s m args below meth c Q D aC ad base K X RT ls st h z hf
  rw [if_neg h0] at hf
  exact hf.elim
abbrev cb_1_size : ByteArray := prog_3_method_2_code
abbrev yy_1_size : MethodName := ⟨"SwipedStripe$Draws", "size", "()I"⟩
def bb_1_size_0 (K : jw_K) (J : Nat → jw_S) : jw_S := xo_al 0 (xo_gf 1 1 (xo_ri 0 0 K))
def qq_1_size (K : jw_K) (pc : Nat) (J : Nat → jw_S) : jw_S := if pc = 0 then bb_1_size_0 K J else fun _ _ _ _ => False
def cc_1_size : jw_T := jw_C 1 qq_1_size
theorem sb_1_size_0 (l : Launch) : jo_Ok l cb_1_size 1 "SwipedStripe$Draws" "size" jw_ro { frames := 0, cells := 0, slots := 0, locals := 0 } (some .int) 0 0 bb_1_size_0 0 := (jo_aln (i := 0) (j := 0) (by decide +kernel) rfl (jo_gf (j := 1) jw_F1 (by decide) kw_232 (by decide +kernel) (jo_ri rfl (by decide +kernel))))
theorem ss_1_size (l : Launch) : jw_Met l yy_1_size cb_1_size 1 (some .int) { frames := 0, cells := 0, slots := 0, locals := 0 } cc_1_size := by
  refine jw_met (by decide) (fun pc => ?_)
  intro p e s m args below meth c Q D aC ad base K X RT ls st h z hf
  unfold qq_1_size at hf
  by_cases h0 : pc = 0
  · subst h0; simp only [if_true, if_false, reduceIte, ↓reduceIte] at hf; exact sb_1_size_0 l p e s m args below meth c Q D aC ad base K X RT ls st h z hf
  rw [if_neg h0] at hf
  exact hf.elim
abbrev cb_4_sum : ByteArray := prog_6_method_14_code
abbrev yy_4_sum : MethodName := ⟨"SwipedStripe$Row", "sum", "()I"⟩
def bb_4_sum_27 (K : jw_K) (J : Nat → jw_S) : jw_S := xo_il 1 (xo_ri 0 0 K)
def bb_4_sum_4 (K : jw_K) (J : Nat → jw_S) : jw_S := xo_il 2 (xo_al 0 (xo_gf 4 1 (xo_cge (bb_4_sum_27 K J) (xo_il 1 (xo_al 0 (xo_gf 4 0 (xo_il 2 (xo_iald jw_ro (xo_iadd (xo_is 1 (xo_ic 2 1 (J 4))))))))))))
def bb_4_sum_0 (K : jw_K) (J : Nat → jw_S) : jw_S := xo_ci 0 (xo_is 1 (xo_ci 0 (xo_is 2 (J 4))))
def qq_4_sum (K : jw_K) (pc : Nat) (J : Nat → jw_S) : jw_S := if pc = 0 then bb_4_sum_0 K J else if pc = 4 then bb_4_sum_4 K J else fun _ _ _ _ => False
def cc_4_sum : jw_T := jw_C 3 qq_4_sum
theorem sb_4_sum_27 (l : Launch) : jo_Ok l cb_4_sum 3 "SwipedStripe$Row" "sum" jw_ro { frames := 0, cells := 0, slots := 0, locals := 0 } (some .int) 0 0 bb_4_sum_27 27 := (jo_iln (i := 1) (j := 1) (by decide +kernel) rfl (jo_ri rfl (by decide +kernel)))
theorem sb_4_sum_4 (l : Launch) : jo_Ok l cb_4_sum 3 "SwipedStripe$Row" "sum" jw_ro { frames := 0, cells := 0, slots := 0, locals := 0 } (some .int) 0 0 bb_4_sum_4 4 := (jo_iln (i := 2) (j := 2) (by decide +kernel) rfl (jo_aln (i := 0) (j := 0) (by decide +kernel) rfl (jo_gf (j := 1) jw_F4 (by decide) kw_57 (by decide +kernel) (jo_cge (off := 18) (tgt := 27) (by decide +kernel) (by decide) (sb_4_sum_27 l) (jo_iln (i := 1) (j := 1) (by decide +kernel) rfl (jo_aln (i := 0) (j := 0) (by decide +kernel) rfl (jo_gf (j := 0) jw_F4 (by decide) kw_56 (by decide +kernel) (jo_iln (i := 2) (j := 2) (by decide +kernel) rfl (jo_iald (by decide +kernel) (jo_iadd (by decide +kernel) (jo_isn (i := 1) (j := 1) (by decide +kernel) rfl (by decide) (jo_ic (n0 := 1) (by decide +kernel) (by decide) (by decide) (jo_goto (off := -20) (tgt := 4) (by decide +kernel) (by decide) (jo_J))))))))))))))
theorem sb_4_sum_0 (l : Launch) : jo_Ok l cb_4_sum 3 "SwipedStripe$Row" "sum" jw_ro { frames := 0, cells := 0, slots := 0, locals := 0 } (some .int) 0 0 bb_4_sum_0 0 := (jo_ici (n := 0) (by decide +kernel) (by decide) (jo_isn (i := 1) (j := 1) (by decide +kernel) rfl (by decide) (jo_ici (n := 0) (by decide +kernel) (by decide) (jo_isn (i := 2) (j := 2) (by decide +kernel) rfl (by decide) jo_J))))
theorem ss_4_sum (l : Launch) : jw_Met l yy_4_sum cb_4_sum 3 (some .int) { frames := 0, cells := 0, slots := 0, locals := 0 } cc_4_sum := by
  refine jw_met (by decide) (fun pc => ?_)
  intro p e s m args below meth c Q D aC ad base K X RT ls st h z hf
  unfold qq_4_sum at hf
  by_cases h0 : pc = 0
  · subst h0; simp only [if_true, if_false, reduceIte, ↓reduceIte] at hf; exact sb_4_sum_0 l p e s m args below meth c Q D aC ad base K X RT ls st h z hf
  rw [if_neg h0] at hf
  by_cases h4 : pc = 4
  · subst h4; simp only [if_true, if_false, reduceIte, ↓reduceIte] at hf; exact sb_4_sum_4 l p e s m args below meth c Q D aC ad base K X RT ls st h z hf
  rw [if_neg h4] at hf
  exact hf.elim
abbrev cb_6_isNothing : ByteArray := prog_8_method_2_code
abbrev yy_6_isNothing : MethodName := ⟨"SwipedStripe$Sheet", "isNothing", "()Z"⟩
def bb_6_isNothing_13 (K : jw_K) (J : Nat → jw_S) : jw_S := xo_rz 0 0 K
def bb_6_isNothing_12 (K : jw_K) (J : Nat → jw_S) : jw_S := xo_ci 0 (bb_6_isNothing_13 K J)
def bb_6_isNothing_0 (K : jw_K) (J : Nat → jw_S) : jw_S := xo_al 0 (xo_gf 6 1 (xo_ci (-1) (xo_cne (bb_6_isNothing_12 K J) (xo_ci 1 (bb_6_isNothing_13 K J)))))
def qq_6_isNothing (K : jw_K) (pc : Nat) (J : Nat → jw_S) : jw_S := if pc = 0 then bb_6_isNothing_0 K J else fun _ _ _ _ => False
def cc_6_isNothing : jw_T := jw_C 1 qq_6_isNothing
theorem sb_6_isNothing_13 (l : Launch) : jo_Ok l cb_6_isNothing 1 "SwipedStripe$Sheet" "isNothing" jw_ro { frames := 0, cells := 0, slots := 0, locals := 0 } (some .boolean) 0 0 bb_6_isNothing_13 13 := (jo_rz rfl (by decide +kernel))
theorem sb_6_isNothing_12 (l : Launch) : jo_Ok l cb_6_isNothing 1 "SwipedStripe$Sheet" "isNothing" jw_ro { frames := 0, cells := 0, slots := 0, locals := 0 } (some .boolean) 0 0 bb_6_isNothing_12 12 := (jo_ici (n := 0) (by decide +kernel) (by decide) (sb_6_isNothing_13 l))
theorem sb_6_isNothing_0 (l : Launch) : jo_Ok l cb_6_isNothing 1 "SwipedStripe$Sheet" "isNothing" jw_ro { frames := 0, cells := 0, slots := 0, locals := 0 } (some .boolean) 0 0 bb_6_isNothing_0 0 := (jo_aln (i := 0) (j := 0) (by decide +kernel) rfl (jo_gf (j := 1) jw_F6 (by decide) kw_248 (by decide +kernel) (jo_ici (n := -1) (by decide +kernel) (by decide) (jo_cne (off := 7) (tgt := 12) (by decide +kernel) (by decide) (sb_6_isNothing_12 l) (jo_ici (n := 1) (by decide +kernel) (by decide) (jo_goto (off := 4) (tgt := 13) (by decide +kernel) (by decide) (sb_6_isNothing_13 l)))))))
theorem ss_6_isNothing (l : Launch) : jw_Met l yy_6_isNothing cb_6_isNothing 1 (some .boolean) { frames := 0, cells := 0, slots := 0, locals := 0 } cc_6_isNothing := by
  refine jw_met (by decide) (fun pc => ?_)
  intro p e s m args below meth c Q D aC ad base K X RT ls st h z hf
  unfold qq_6_isNothing at hf
  by_cases h0 : pc = 0
  · subst h0; simp only [if_true, if_false, reduceIte, ↓reduceIte] at hf; exact sb_6_isNothing_0 l p e s m args below meth c Q D aC ad base K X RT ls st h z hf
  rw [if_neg h0] at hf
  exact hf.elim
abbrev cb_6_size : ByteArray := prog_8_method_3_code
abbrev yy_6_size : MethodName := ⟨"SwipedStripe$Sheet", "size", "()I"⟩
def bb_6_size_0 (K : jw_K) (J : Nat → jw_S) : jw_S := xo_al 0 (xo_gf 6 0 (xo_cv 4 cc_4_size 1 (xo_ri 0 0 K)))
def qq_6_size (K : jw_K) (pc : Nat) (J : Nat → jw_S) : jw_S := if pc = 0 then bb_6_size_0 K J else fun _ _ _ _ => False
def cc_6_size : jw_T := jw_C 1 qq_6_size
theorem sb_6_size_0 (l : Launch) : jo_Ok l cb_6_size 1 "SwipedStripe$Sheet" "size" jw_ro { frames := 1, cells := 0, slots := 0, locals := 20 } (some .int) 0 0 bb_6_size_0 0 := (jo_aln (i := 0) (j := 0) (by decide +kernel) rfl (jo_gf (j := 0) jw_F6 (by decide) kw_247 (by decide +kernel) (jo_cv (n := 0) (ss_4_size l) kw_301 kw_3 kw_1025 kw_299 jw_F4 kw_300 ⟨by decide, by decide, by decide +kernel⟩ ⟨by decide, by decide⟩ (fun _ _ h => h) ⟨rfl, rfl⟩ (by decide +kernel) (jo_ri rfl (by decide +kernel)))))
theorem ss_6_size (l : Launch) : jw_Met l yy_6_size cb_6_size 1 (some .int) { frames := 1, cells := 0, slots := 0, locals := 20 } cc_6_size := by
  refine jw_met (by decide) (fun pc => ?_)
  intro p e s m args below meth c Q D aC ad base K X RT ls st h z hf
  unfold qq_6_size at hf
  by_cases h0 : pc = 0
  · subst h0; simp only [if_true, if_false, reduceIte, ↓reduceIte] at hf; exact sb_6_size_0 l p e s m args below meth c Q D aC ad base K X RT ls st h z hf
  rw [if_neg h0] at hf
  exact hf.elim
abbrev cb_10_count : ByteArray := prog_1_method_37_code
abbrev yy_10_count : MethodName := ⟨"SwipedStripe", "count", "(I)I"⟩
def bb_10_count_107 (K : jw_K) (J : Nat → jw_S) : jw_S := xo_ci (-1) (xo_ri 0 0 K)
def bb_10_count_106 (K : jw_K) (J : Nat → jw_S) : jw_S := xo_ri 0 0 K
def bb_10_count_97 (K : jw_K) (J : Nat → jw_S) : jw_S := xo_al 0 (xo_gf 10 10 (xo_ci 0 (xo_aald (xo_cv 6 cc_6_size 1 (bb_10_count_106 K J)))))
def bb_10_count_80 (K : jw_K) (J : Nat → jw_S) : jw_S := xo_al 0 (xo_gf 10 10 (xo_ci 0 (xo_aald (xo_cv 6 cc_6_isNothing 1 (xo_zeq (bb_10_count_97 K J) (xo_ci (-4) (bb_10_count_106 K J)))))))
def bb_10_count_72 (K : jw_K) (J : Nat → jw_S) : jw_S := xo_al 0 (xo_gf 10 1 (xo_cv 4 cc_4_size 1 (xo_ri 0 0 K)))
def bb_10_count_64 (K : jw_K) (J : Nat → jw_S) : jw_S := xo_al 0 (xo_gf 10 9 (xo_cv 1 cc_1_size 1 (xo_ri 0 0 K)))
def bb_10_count_56 (K : jw_K) (J : Nat → jw_S) : jw_S := xo_al 0 (xo_gf 10 5 (xo_cv 4 cc_4_sum 1 (xo_ri 0 0 K)))
def bb_10_count_48 (K : jw_K) (J : Nat → jw_S) : jw_S := xo_al 0 (xo_gf 10 5 (xo_cv 4 cc_4_size 1 (xo_ri 0 0 K)))
def bb_10_count_40 (K : jw_K) (J : Nat → jw_S) : jw_S := xo_al 0 (xo_gf 10 3 (xo_cv 4 cc_4_size 1 (xo_ri 0 0 K)))
def bb_10_count_0 (K : jw_K) (J : Nat → jw_S) : jw_S := xo_il 1 (xo_ts 0 5 ([fun K J => bb_10_count_40 K J, fun K J => bb_10_count_48 K J, fun K J => bb_10_count_56 K J, fun K J => bb_10_count_64 K J, fun K J => bb_10_count_72 K J, fun K J => bb_10_count_80 K J].map (fun f => f K J)) (bb_10_count_107 K J))
def qq_10_count (K : jw_K) (pc : Nat) (J : Nat → jw_S) : jw_S := if pc = 0 then bb_10_count_0 K J else fun _ _ _ _ => False
def cc_10_count : jw_T := jw_C 2 qq_10_count
theorem sb_10_count_107 (l : Launch) : jo_Ok l cb_10_count 2 "SwipedStripe" "count" jw_ro { frames := 2, cells := 0, slots := 0, locals := 40 } (some .int) 0 0 bb_10_count_107 107 := (jo_ici (n := -1) (by decide +kernel) (by decide) (jo_ri rfl (by decide +kernel)))
theorem sb_10_count_106 (l : Launch) : jo_Ok l cb_10_count 2 "SwipedStripe" "count" jw_ro { frames := 2, cells := 0, slots := 0, locals := 40 } (some .int) 0 0 bb_10_count_106 106 := (jo_ri rfl (by decide +kernel))
theorem sb_10_count_97 (l : Launch) : jo_Ok l cb_10_count 2 "SwipedStripe" "count" jw_ro { frames := 2, cells := 0, slots := 0, locals := 40 } (some .int) 0 0 bb_10_count_97 97 := (jo_aln (i := 0) (j := 0) (by decide +kernel) rfl (jo_gf (j := 10) jw_F10 (by decide) kw_264 (by decide +kernel) (jo_ici (n := 0) (by decide +kernel) (by decide) (jo_aald (by decide +kernel) (jo_cv (n := 0) (ss_6_size l) kw_1024 kw_12 kw_1021 kw_1022 jw_F6 kw_1023 ⟨by decide, by decide, by decide +kernel⟩ ⟨by decide, by decide⟩ (fun _ _ h => h) ⟨rfl, rfl⟩ (by decide +kernel) (sb_10_count_106 l))))))
theorem sb_10_count_80 (l : Launch) : jo_Ok l cb_10_count 2 "SwipedStripe" "count" jw_ro { frames := 2, cells := 0, slots := 0, locals := 40 } (some .int) 0 0 bb_10_count_80 80 := (jo_aln (i := 0) (j := 0) (by decide +kernel) rfl (jo_gf (j := 10) jw_F10 (by decide) kw_264 (by decide +kernel) (jo_ici (n := 0) (by decide +kernel) (by decide) (jo_aald (by decide +kernel) (jo_cv (n := 0) (ss_6_isNothing l) kw_987 kw_12 kw_1020 kw_985 jw_F6 kw_986 ⟨by decide, by decide, by decide +kernel⟩ ⟨by decide, by decide⟩ (fun _ _ h => h) ⟨rfl, rfl⟩ (by decide +kernel) (jo_zeq (off := 8) (tgt := 97) (by decide +kernel) (by decide) (sb_10_count_97 l) (jo_bpi (n := -4) (by decide +kernel) (by decide) (jo_goto (off := 12) (tgt := 106) (by decide +kernel) (by decide) (sb_10_count_106 l)))))))))
theorem sb_10_count_72 (l : Launch) : jo_Ok l cb_10_count 2 "SwipedStripe" "count" jw_ro { frames := 2, cells := 0, slots := 0, locals := 40 } (some .int) 0 0 bb_10_count_72 72 := (jo_aln (i := 0) (j := 0) (by decide +kernel) rfl (jo_gf (j := 1) jw_F10 (by decide) kw_255 (by decide +kernel) (jo_cv (n := 0) (ss_4_size l) kw_301 kw_3 kw_298 kw_299 jw_F4 kw_300 ⟨by decide, by decide, by decide +kernel⟩ ⟨by decide, by decide⟩ (fun _ _ h => h) ⟨rfl, rfl⟩ (by decide +kernel) (jo_ri rfl (by decide +kernel)))))
theorem sb_10_count_64 (l : Launch) : jo_Ok l cb_10_count 2 "SwipedStripe" "count" jw_ro { frames := 2, cells := 0, slots := 0, locals := 40 } (some .int) 0 0 bb_10_count_64 64 := (jo_aln (i := 0) (j := 0) (by decide +kernel) rfl (jo_gf (j := 9) jw_F10 (by decide) kw_263 (by decide +kernel) (jo_cv (n := 0) (ss_1_size l) kw_887 kw_10 kw_884 kw_885 jw_F1 kw_886 ⟨by decide, by decide, by decide +kernel⟩ ⟨by decide, by decide⟩ (fun _ _ h => h) ⟨rfl, rfl⟩ (by decide +kernel) (jo_ri rfl (by decide +kernel)))))
theorem sb_10_count_56 (l : Launch) : jo_Ok l cb_10_count 2 "SwipedStripe" "count" jw_ro { frames := 2, cells := 0, slots := 0, locals := 40 } (some .int) 0 0 bb_10_count_56 56 := (jo_aln (i := 0) (j := 0) (by decide +kernel) rfl (jo_gf (j := 5) jw_F10 (by decide) kw_259 (by decide +kernel) (jo_cv (n := 0) (ss_4_sum l) kw_556 kw_3 kw_553 kw_554 jw_F4 kw_555 ⟨by decide, by decide, by decide +kernel⟩ ⟨by decide, by decide⟩ (fun _ _ h => h) ⟨rfl, rfl⟩ (by decide +kernel) (jo_ri rfl (by decide +kernel)))))
theorem sb_10_count_48 (l : Launch) : jo_Ok l cb_10_count 2 "SwipedStripe" "count" jw_ro { frames := 2, cells := 0, slots := 0, locals := 40 } (some .int) 0 0 bb_10_count_48 48 := (jo_aln (i := 0) (j := 0) (by decide +kernel) rfl (jo_gf (j := 5) jw_F10 (by decide) kw_259 (by decide +kernel) (jo_cv (n := 0) (ss_4_size l) kw_301 kw_3 kw_298 kw_299 jw_F4 kw_300 ⟨by decide, by decide, by decide +kernel⟩ ⟨by decide, by decide⟩ (fun _ _ h => h) ⟨rfl, rfl⟩ (by decide +kernel) (jo_ri rfl (by decide +kernel)))))
theorem sb_10_count_40 (l : Launch) : jo_Ok l cb_10_count 2 "SwipedStripe" "count" jw_ro { frames := 2, cells := 0, slots := 0, locals := 40 } (some .int) 0 0 bb_10_count_40 40 := (jo_aln (i := 0) (j := 0) (by decide +kernel) rfl (jo_gf (j := 3) jw_F10 (by decide) kw_257 (by decide +kernel) (jo_cv (n := 0) (ss_4_size l) kw_301 kw_3 kw_298 kw_299 jw_F4 kw_300 ⟨by decide, by decide, by decide +kernel⟩ ⟨by decide, by decide⟩ (fun _ _ h => h) ⟨rfl, rfl⟩ (by decide +kernel) (jo_ri rfl (by decide +kernel)))))
theorem sb_10_count_0 (l : Launch) : jo_Ok l cb_10_count 2 "SwipedStripe" "count" jw_ro { frames := 2, cells := 0, slots := 0, locals := 40 } (some .int) 0 0 bb_10_count_0 0 := (jo_iln (i := 1) (j := 1) (by decide +kernel) rfl (jo_ts (dflt := 106) (offs := #[39, 47, 55, 63, 71, 79]) (len := 39) (tg := [40, 48, 56, 64, 72, 80]) (dt := 107) (by decide +kernel) (by decide) (by decide +kernel) (by decide) rfl (sb_10_count_107 l) (fun i q f h1 h2 => by
    match i, h1, h2 with
    | 0, h1, h2 => cases h1; cases h2; exact (sb_10_count_40 l)
    | 1, h1, h2 => cases h1; cases h2; exact (sb_10_count_48 l)
    | 2, h1, h2 => cases h1; cases h2; exact (sb_10_count_56 l)
    | 3, h1, h2 => cases h1; cases h2; exact (sb_10_count_64 l)
    | 4, h1, h2 => cases h1; cases h2; exact (sb_10_count_72 l)
    | 5, h1, h2 => cases h1; cases h2; exact (sb_10_count_80 l)
    | i + 6, h1, h2 => simp at h1)))
theorem ss_10_count (l : Launch) : jw_Met l yy_10_count cb_10_count 2 (some .int) { frames := 2, cells := 0, slots := 0, locals := 40 } cc_10_count := by
  refine jw_met (by decide) (fun pc => ?_)
  intro p e s m args below meth c Q D aC ad base K X RT ls st h z hf
  unfold qq_10_count at hf
  by_cases h0 : pc = 0
  · subst h0; simp only [if_true, if_false, reduceIte, ↓reduceIte] at hf; exact sb_10_count_0 l p e s m args below meth c Q D aC ad base K X RT ls st h z hf
  rw [if_neg h0] at hf
  exact hf.elim
abbrev cb_1_forget : ByteArray := prog_3_method_3_code
abbrev yy_1_forget : MethodName := ⟨"SwipedStripe$Draws", "forget", "()V"⟩
def bb_1_forget_0 (K : jw_K) (J : Nat → jw_S) : jw_S := xo_al 0 (xo_ci 0 (xo_pfi 1 1 (xo_rv 0 0 K)))
def qq_1_forget (K : jw_K) (pc : Nat) (J : Nat → jw_S) : jw_S := if pc = 0 then bb_1_forget_0 K J else fun _ _ _ _ => False
def cc_1_forget : jw_T := jw_C 1 qq_1_forget
theorem sb_1_forget_0 (l : Launch) : jo_Ok l cb_1_forget 1 "SwipedStripe$Draws" "forget" jw_ro { frames := 0, cells := 0, slots := 0, locals := 0 } none 0 0 bb_1_forget_0 0 := (jo_aln (i := 0) (j := 0) (by decide +kernel) rfl (jo_ici (n := 0) (by decide +kernel) (by decide) (jo_pfi (j := 1) jw_F1 (by decide) kw_232 rfl rfl (by decide +kernel) (jo_rv rfl (by decide +kernel)))))
theorem ss_1_forget (l : Launch) : jw_Met l yy_1_forget cb_1_forget 1 none { frames := 0, cells := 0, slots := 0, locals := 0 } cc_1_forget := by
  refine jw_met (by decide) (fun pc => ?_)
  intro p e s m args below meth c Q D aC ad base K X RT ls st h z hf
  unfold qq_1_forget at hf
  by_cases h0 : pc = 0
  · subst h0; simp only [if_true, if_false, reduceIte, ↓reduceIte] at hf; exact sb_1_forget_0 l p e s m args below meth c Q D aC ad base K X RT ls st h z hf
  rw [if_neg h0] at hf
  exact hf.elim
abbrev cb_10_drop : ByteArray := prog_1_method_31_code
abbrev yy_10_drop : MethodName := ⟨"SwipedStripe", "drop", "()I"⟩
def bb_10_drop_0 (K : jw_K) (J : Nat → jw_S) : jw_S := xo_al 0 (xo_gf 10 9 (xo_cv 1 cc_1_size 1 (xo_is 1 (xo_al 0 (xo_gf 10 9 (xo_cv 1 cc_1_forget 1 (xo_il 1 (xo_ri 0 0 K))))))))
def qq_10_drop (K : jw_K) (pc : Nat) (J : Nat → jw_S) : jw_S := if pc = 0 then bb_10_drop_0 K J else fun _ _ _ _ => False
def cc_10_drop : jw_T := jw_C 2 qq_10_drop
theorem sb_10_drop_0 (l : Launch) : jo_Ok l cb_10_drop 2 "SwipedStripe" "drop" jw_ro { frames := 1, cells := 0, slots := 0, locals := 20 } (some .int) 0 0 bb_10_drop_0 0 := (jo_aln (i := 0) (j := 0) (by decide +kernel) rfl (jo_gf (j := 9) jw_F10 (by decide) kw_263 (by decide +kernel) (jo_cv (n := 0) (ss_1_size l) kw_887 kw_10 kw_884 kw_885 jw_F1 kw_886 ⟨by decide, by decide, by decide +kernel⟩ ⟨by decide, by decide⟩ (fun _ _ h => h) ⟨rfl, rfl⟩ (by decide +kernel) (jo_isn (i := 1) (j := 1) (by decide +kernel) rfl (by decide) (jo_aln (i := 0) (j := 0) (by decide +kernel) rfl (jo_gf (j := 9) jw_F10 (by decide) kw_263 (by decide +kernel) (jo_cv (n := 0) (ss_1_forget l) kw_481 kw_10 kw_478 kw_479 jw_F1 kw_480 ⟨by decide, by decide, by decide +kernel⟩ ⟨by decide, by decide⟩ (fun _ _ h => h) ⟨rfl, rfl⟩ (by decide +kernel) (jo_iln (i := 1) (j := 1) (by decide +kernel) rfl (jo_ri rfl (by decide +kernel))))))))))
theorem ss_10_drop (l : Launch) : jw_Met l yy_10_drop cb_10_drop 2 (some .int) { frames := 1, cells := 0, slots := 0, locals := 20 } cc_10_drop := by
  refine jw_met (by decide) (fun pc => ?_)
  intro p e s m args below meth c Q D aC ad base K X RT ls st h z hf
  unfold qq_10_drop at hf
  by_cases h0 : pc = 0
  · subst h0; simp only [if_true, if_false, reduceIte, ↓reduceIte] at hf; exact sb_10_drop_0 l p e s m args below meth c Q D aC ad base K X RT ls st h z hf
  rw [if_neg h0] at hf
  exact hf.elim
abbrev cb_10_end : ByteArray := prog_1_method_3_code
abbrev yy_10_end : MethodName := ⟨"SwipedStripe", "end", "(I)I"⟩
def bb_10_end_19 (K : jw_K) (J : Nat → jw_S) : jw_S := xo_al 0 (xo_gf 10 1 (xo_il 1 (xo_cv 4 cc_4_cut 2 (xo_il 2 (xo_ri 0 0 K)))))
def bb_10_end_17 (K : jw_K) (J : Nat → jw_S) : jw_S := xo_ci (-1) (xo_ri 0 0 K)
def bb_10_end_0 (K : jw_K) (J : Nat → jw_S) : jw_S := xo_al 0 (xo_gf 10 1 (xo_cv 4 cc_4_size 1 (xo_is 2 (xo_il 1 (xo_zlt (bb_10_end_17 K J) (xo_il 1 (xo_il 2 (xo_cle (bb_10_end_19 K J) (bb_10_end_17 K J)))))))))
def qq_10_end (K : jw_K) (pc : Nat) (J : Nat → jw_S) : jw_S := if pc = 0 then bb_10_end_0 K J else fun _ _ _ _ => False
def cc_10_end : jw_T := jw_C 3 qq_10_end
theorem sb_10_end_19 (l : Launch) : jo_Ok l cb_10_end 3 "SwipedStripe" "end" jw_ro { frames := 1, cells := 0, slots := 0, locals := 21 } (some .int) 0 0 bb_10_end_19 19 := (jo_aln (i := 0) (j := 0) (by decide +kernel) rfl (jo_gf (j := 1) jw_F10 (by decide) kw_255 (by decide +kernel) (jo_iln (i := 1) (j := 1) (by decide +kernel) rfl (jo_cv (n := 1) (ss_4_cut l) kw_313 kw_3 kw_310 kw_311 jw_F4 kw_312 ⟨by decide, by decide, by decide +kernel⟩ ⟨by decide, by decide⟩ (fun _ _ h => h) ⟨rfl, rfl⟩ (by decide +kernel) (jo_iln (i := 2) (j := 2) (by decide +kernel) rfl (jo_ri rfl (by decide +kernel)))))))
theorem sb_10_end_17 (l : Launch) : jo_Ok l cb_10_end 3 "SwipedStripe" "end" jw_ro { frames := 1, cells := 0, slots := 0, locals := 21 } (some .int) 0 0 bb_10_end_17 17 := (jo_ici (n := -1) (by decide +kernel) (by decide) (jo_ri rfl (by decide +kernel)))
theorem sb_10_end_0 (l : Launch) : jo_Ok l cb_10_end 3 "SwipedStripe" "end" jw_ro { frames := 1, cells := 0, slots := 0, locals := 21 } (some .int) 0 0 bb_10_end_0 0 := (jo_aln (i := 0) (j := 0) (by decide +kernel) rfl (jo_gf (j := 1) jw_F10 (by decide) kw_255 (by decide +kernel) (jo_cv (n := 0) (ss_4_size l) kw_301 kw_3 kw_298 kw_299 jw_F4 kw_300 ⟨by decide, by decide, by decide +kernel⟩ ⟨by decide, by decide⟩ (fun _ _ h => h) ⟨rfl, rfl⟩ (by decide +kernel) (jo_isn (i := 2) (j := 2) (by decide +kernel) rfl (by decide) (jo_iln (i := 1) (j := 1) (by decide +kernel) rfl (jo_zlt (off := 8) (tgt := 17) (by decide +kernel) (by decide) (sb_10_end_17 l) (jo_iln (i := 1) (j := 1) (by decide +kernel) rfl (jo_iln (i := 2) (j := 2) (by decide +kernel) rfl (jo_cle (off := 5) (tgt := 19) (by decide +kernel) (by decide) (sb_10_end_19 l) (sb_10_end_17 l))))))))))
theorem ss_10_end (l : Launch) : jw_Met l yy_10_end cb_10_end 3 (some .int) { frames := 1, cells := 0, slots := 0, locals := 21 } cc_10_end := by
  refine jw_met (by decide) (fun pc => ?_)
  intro p e s m args below meth c Q D aC ad base K X RT ls st h z hf
  unfold qq_10_end at hf
  by_cases h0 : pc = 0
  · subst h0; simp only [if_true, if_false, reduceIte, ↓reduceIte] at hf; exact sb_10_end_0 l p e s m args below meth c Q D aC ad base K X RT ls st h z hf
  rw [if_neg h0] at hf
  exact hf.elim
abbrev cb_10_fault : ByteArray := prog_1_method_5_code
abbrev yy_10_fault : MethodName := ⟨"SwipedStripe", "fault", "()I"⟩
def bb_10_fault_0 (K : jw_K) (J : Nat → jw_S) : jw_S := xo_al 0 (xo_gf 10 11 (xo_ri 0 0 K))
def qq_10_fault (K : jw_K) (pc : Nat) (J : Nat → jw_S) : jw_S := if pc = 0 then bb_10_fault_0 K J else fun _ _ _ _ => False
def cc_10_fault : jw_T := jw_C 1 qq_10_fault
theorem sb_10_fault_0 (l : Launch) : jo_Ok l cb_10_fault 1 "SwipedStripe" "fault" jw_ro { frames := 0, cells := 0, slots := 0, locals := 0 } (some .int) 0 0 bb_10_fault_0 0 := (jo_aln (i := 0) (j := 0) (by decide +kernel) rfl (jo_gf (j := 11) jw_F10 (by decide) kw_265 (by decide +kernel) (jo_ri rfl (by decide +kernel))))
theorem ss_10_fault (l : Launch) : jw_Met l yy_10_fault cb_10_fault 1 (some .int) { frames := 0, cells := 0, slots := 0, locals := 0 } cc_10_fault := by
  refine jw_met (by decide) (fun pc => ?_)
  intro p e s m args below meth c Q D aC ad base K X RT ls st h z hf
  unfold qq_10_fault at hf
  by_cases h0 : pc = 0
  · subst h0; simp only [if_true, if_false, reduceIte, ↓reduceIte] at hf; exact sb_10_fault_0 l p e s m args below meth c Q D aC ad base K X RT ls st h z hf
  rw [if_neg h0] at hf
  exact hf.elim
abbrev cb_10_feed : ByteArray := prog_1_method_2_code
abbrev yy_10_feed : MethodName := ⟨"SwipedStripe", "feed", "(J)I"⟩
def bb_10_feed_48 (K : jw_K) (J : Nat → jw_S) : jw_S := xo_al 0 (xo_gf 10 1 (xo_cv 4 cc_4_size 1 (xo_ri 0 0 K)))
def bb_10_feed_22 (K : jw_K) (J : Nat → jw_S) : jw_S := xo_il 3 (xo_zlt (bb_10_feed_48 K J) (xo_al 0 (xo_gf 10 1 (xo_ll 1 (xo_il 3 (xo_lushr (xo_l2i (xo_ci 255 (xo_iand (xo_cv 4 cc_4_push 2 (xo_pop (xo_ic 3 (-8) (J 22)))))))))))))
def bb_10_feed_19 (K : jw_K) (J : Nat → jw_S) : jw_S := xo_ci 56 (xo_is 3 (J 22))
def bb_10_feed_0 (K : jw_K) (J : Nat → jw_S) : jw_S := xo_al 0 (xo_gf 10 1 (xo_cv 4 cc_4_size 1 (xo_ci 8 (xo_iadd (xo_ci 160 (xo_cle (bb_10_feed_19 K J) (xo_ci (-3) (xo_ri 0 0 K))))))))
def qq_10_feed (K : jw_K) (pc : Nat) (J : Nat → jw_S) : jw_S := if pc = 0 then bb_10_feed_0 K J else if pc = 22 then bb_10_feed_22 K J else fun _ _ _ _ => False
def cc_10_feed : jw_T := jw_C 4 qq_10_feed
theorem sb_10_feed_48 (l : Launch) : jo_Ok l cb_10_feed 4 "SwipedStripe" "feed" jw_ro { frames := 1, cells := 0, slots := 0, locals := 21 } (some .int) 0 0 bb_10_feed_48 48 := (jo_aln (i := 0) (j := 0) (by decide +kernel) rfl (jo_gf (j := 1) jw_F10 (by decide) kw_255 (by decide +kernel) (jo_cv (n := 0) (ss_4_size l) kw_301 kw_3 kw_298 kw_299 jw_F4 kw_300 ⟨by decide, by decide, by decide +kernel⟩ ⟨by decide, by decide⟩ (fun _ _ h => h) ⟨rfl, rfl⟩ (by decide +kernel) (jo_ri rfl (by decide +kernel)))))
theorem sb_10_feed_22 (l : Launch) : jo_Ok l cb_10_feed 4 "SwipedStripe" "feed" jw_ro { frames := 1, cells := 0, slots := 0, locals := 21 } (some .int) 0 0 bb_10_feed_22 22 := (jo_iln (i := 3) (j := 3) (by decide +kernel) rfl (jo_zlt (off := 25) (tgt := 48) (by decide +kernel) (by decide) (sb_10_feed_48 l) (jo_aln (i := 0) (j := 0) (by decide +kernel) rfl (jo_gf (j := 1) jw_F10 (by decide) kw_255 (by decide +kernel) (jo_lln (i := 1) (j := 1) (by decide +kernel) rfl (jo_iln (i := 3) (j := 3) (by decide +kernel) rfl (jo_lushr (by decide +kernel) (jo_l2i (by decide +kernel) (jo_spi (n := 255) (by decide +kernel) (by decide) (jo_iand (by decide +kernel) (jo_cv (n := 1) (ss_4_push l) kw_305 kw_3 kw_302 kw_303 jw_F4 kw_304 ⟨by decide, by decide, by decide +kernel⟩ ⟨by decide, by decide⟩ (fun _ _ h => h) ⟨rfl, rfl⟩ (by decide +kernel) (jo_pop (by decide +kernel) (jo_ic (n0 := -8) (by decide +kernel) (by decide) (by decide) (jo_goto (off := -23) (tgt := 22) (by decide +kernel) (by decide) (jo_J)))))))))))))))
theorem sb_10_feed_19 (l : Launch) : jo_Ok l cb_10_feed 4 "SwipedStripe" "feed" jw_ro { frames := 1, cells := 0, slots := 0, locals := 21 } (some .int) 0 0 bb_10_feed_19 19 := (jo_bpi (n := 56) (by decide +kernel) (by decide) (jo_isn (i := 3) (j := 3) (by decide +kernel) rfl (by decide) jo_J))
theorem sb_10_feed_0 (l : Launch) : jo_Ok l cb_10_feed 4 "SwipedStripe" "feed" jw_ro { frames := 1, cells := 0, slots := 0, locals := 21 } (some .int) 0 0 bb_10_feed_0 0 := (jo_aln (i := 0) (j := 0) (by decide +kernel) rfl (jo_gf (j := 1) jw_F10 (by decide) kw_255 (by decide +kernel) (jo_cv (n := 0) (ss_4_size l) kw_301 kw_3 kw_298 kw_299 jw_F4 kw_300 ⟨by decide, by decide, by decide +kernel⟩ ⟨by decide, by decide⟩ (fun _ _ h => h) ⟨rfl, rfl⟩ (by decide +kernel) (jo_bpi (n := 8) (by decide +kernel) (by decide) (jo_iadd (by decide +kernel) (jo_spi (n := 160) (by decide +kernel) (by decide) (jo_cle (off := 6) (tgt := 19) (by decide +kernel) (by decide) (sb_10_feed_19 l) (jo_bpi (n := -3) (by decide +kernel) (by decide) (jo_ri rfl (by decide +kernel))))))))))
theorem ss_10_feed (l : Launch) : jw_Met l yy_10_feed cb_10_feed 4 (some .int) { frames := 1, cells := 0, slots := 0, locals := 21 } cc_10_feed := by
  refine jw_met (by decide) (fun pc => ?_)
  intro p e s m args below meth c Q D aC ad base K X RT ls st h z hf
  unfold qq_10_feed at hf
  by_cases h0 : pc = 0
  · subst h0; simp only [if_true, if_false, reduceIte, ↓reduceIte] at hf; exact sb_10_feed_0 l p e s m args below meth c Q D aC ad base K X RT ls st h z hf
  rw [if_neg h0] at hf
  by_cases h22 : pc = 22
  · subst h22; simp only [if_true, if_false, reduceIte, ↓reduceIte] at hf; exact sb_10_feed_22 l p e s m args below meth c Q D aC ad base K X RT ls st h z hf
  rw [if_neg h22] at hf
  exact hf.elim
abbrev cb_3_fail : ByteArray := prog_5_method_10_code
abbrev yy_3_fail : MethodName := ⟨"SwipedStripe$Reading", "fail", "(II)V"⟩
def bb_3_fail_0 (K : jw_K) (J : Nat → jw_S) : jw_S := xo_al 0 (xo_il 1 (xo_pfi 3 3 (xo_al 0 (xo_il 2 (xo_pfi 3 4 (xo_rv 0 0 K))))))
def qq_3_fail (K : jw_K) (pc : Nat) (J : Nat → jw_S) : jw_S := if pc = 0 then bb_3_fail_0 K J else fun _ _ _ _ => False
def cc_3_fail : jw_T := jw_C 3 qq_3_fail
theorem sb_3_fail_0 (l : Launch) : jo_Ok l cb_3_fail 3 "SwipedStripe$Reading" "fail" jw_ro { frames := 0, cells := 0, slots := 0, locals := 0 } none 0 0 bb_3_fail_0 0 := (jo_aln (i := 0) (j := 0) (by decide +kernel) rfl (jo_iln (i := 1) (j := 1) (by decide +kernel) rfl (jo_pfi (j := 3) jw_F3 (by decide) kw_133 rfl rfl (by decide +kernel) (jo_aln (i := 0) (j := 0) (by decide +kernel) rfl (jo_iln (i := 2) (j := 2) (by decide +kernel) rfl (jo_pfi (j := 4) jw_F3 (by decide) kw_134 rfl rfl (by decide +kernel) (jo_rv rfl (by decide +kernel))))))))
theorem ss_3_fail (l : Launch) : jw_Met l yy_3_fail cb_3_fail 3 none { frames := 0, cells := 0, slots := 0, locals := 0 } cc_3_fail := by
  refine jw_met (by decide) (fun pc => ?_)
  intro p e s m args below meth c Q D aC ad base K X RT ls st h z hf
  unfold qq_3_fail at hf
  by_cases h0 : pc = 0
  · subst h0; simp only [if_true, if_false, reduceIte, ↓reduceIte] at hf; exact sb_3_fail_0 l p e s m args below meth c Q D aC ad base K X RT ls st h z hf
  rw [if_neg h0] at hf
  exact hf.elim
abbrev cb_3_followed : ByteArray := prog_5_method_11_code
abbrev yy_3_followed : MethodName := ⟨"SwipedStripe$Reading", "followed", "(III)I"⟩
def bb_3_followed_23 (K : jw_K) (J : Nat → jw_S) : jw_S := xo_ri 0 0 K
def bb_3_followed_22 (K : jw_K) (J : Nat → jw_S) : jw_S := xo_il 1 (bb_3_followed_23 K J)
def bb_3_followed_7 (K : jw_K) (J : Nat → jw_S) : jw_S := xo_il 0 (xo_ci 2 (xo_cne (bb_3_followed_22 K J) (xo_ci 3 (xo_il 1 (xo_imul (xo_il 2 (xo_iadd (xo_ci 4 (xo_idiv (bb_3_followed_23 K J))))))))))
def bb_3_followed_0 (K : jw_K) (J : Nat → jw_S) : jw_S := xo_il 0 (xo_ci 1 (xo_cne (bb_3_followed_7 K J) (xo_il 2 (xo_ri 0 0 K))))
def qq_3_followed (K : jw_K) (pc : Nat) (J : Nat → jw_S) : jw_S := if pc = 0 then bb_3_followed_0 K J else fun _ _ _ _ => False
def cc_3_followed : jw_T := jw_C 3 qq_3_followed
theorem sb_3_followed_23 (l : Launch) : jo_Ok l cb_3_followed 3 "SwipedStripe$Reading" "followed" jw_ro { frames := 0, cells := 0, slots := 0, locals := 0 } (some .int) 0 0 bb_3_followed_23 23 := (jo_ri rfl (by decide +kernel))
theorem sb_3_followed_22 (l : Launch) : jo_Ok l cb_3_followed 3 "SwipedStripe$Reading" "followed" jw_ro { frames := 0, cells := 0, slots := 0, locals := 0 } (some .int) 0 0 bb_3_followed_22 22 := (jo_iln (i := 1) (j := 1) (by decide +kernel) rfl (sb_3_followed_23 l))
theorem sb_3_followed_7 (l : Launch) : jo_Ok l cb_3_followed 3 "SwipedStripe$Reading" "followed" jw_ro { frames := 0, cells := 0, slots := 0, locals := 0 } (some .int) 0 0 bb_3_followed_7 7 := (jo_iln (i := 0) (j := 0) (by decide +kernel) rfl (jo_ici (n := 2) (by decide +kernel) (by decide) (jo_cne (off := 13) (tgt := 22) (by decide +kernel) (by decide) (sb_3_followed_22 l) (jo_ici (n := 3) (by decide +kernel) (by decide) (jo_iln (i := 1) (j := 1) (by decide +kernel) rfl (jo_imul (by decide +kernel) (jo_iln (i := 2) (j := 2) (by decide +kernel) rfl (jo_iadd (by decide +kernel) (jo_ici (n := 4) (by decide +kernel) (by decide) (jo_idiv (by decide +kernel) (jo_goto (off := 4) (tgt := 23) (by decide +kernel) (by decide) (sb_3_followed_23 l))))))))))))
theorem sb_3_followed_0 (l : Launch) : jo_Ok l cb_3_followed 3 "SwipedStripe$Reading" "followed" jw_ro { frames := 0, cells := 0, slots := 0, locals := 0 } (some .int) 0 0 bb_3_followed_0 0 := (jo_iln (i := 0) (j := 0) (by decide +kernel) rfl (jo_ici (n := 1) (by decide +kernel) (by decide) (jo_cne (off := 5) (tgt := 7) (by decide +kernel) (by decide) (sb_3_followed_7 l) (jo_iln (i := 2) (j := 2) (by decide +kernel) rfl (jo_ri rfl (by decide +kernel))))))
theorem ss_3_followed (l : Launch) : jw_Met l yy_3_followed cb_3_followed 3 (some .int) { frames := 0, cells := 0, slots := 0, locals := 0 } cc_3_followed := by
  refine jw_met (by decide) (fun pc => ?_)
  intro p e s m args below meth c Q D aC ad base K X RT ls st h z hf
  unfold qq_3_followed at hf
  by_cases h0 : pc = 0
  · subst h0; simp only [if_true, if_false, reduceIte, ↓reduceIte] at hf; exact sb_3_followed_0 l p e s m args below meth c Q D aC ad base K X RT ls st h z hf
  rw [if_neg h0] at hf
  exact hf.elim
abbrev cb_3_note : ByteArray := prog_5_method_9_code
abbrev yy_3_note : MethodName := ⟨"SwipedStripe$Reading", "note", "(III)V"⟩
def bb_3_note_0 (K : jw_K) (J : Nat → jw_S) : jw_S := xo_al 0 (xo_gf 3 0 (xo_il 1 (xo_cv 4 cc_4_push 2 (xo_pop (xo_al 0 (xo_gf 3 1 (xo_il 2 (xo_cv 4 cc_4_push 2 (xo_pop (xo_al 0 (xo_gf 3 2 (xo_il 3 (xo_cv 4 cc_4_push 2 (xo_pop (xo_rv 0 0 K)))))))))))))))
def qq_3_note (K : jw_K) (pc : Nat) (J : Nat → jw_S) : jw_S := if pc = 0 then bb_3_note_0 K J else fun _ _ _ _ => False
def cc_3_note : jw_T := jw_C 4 qq_3_note
theorem sb_3_note_0 (l : Launch) : jo_Ok l cb_3_note 4 "SwipedStripe$Reading" "note" jw_ro { frames := 1, cells := 0, slots := 0, locals := 21 } none 0 0 bb_3_note_0 0 := (jo_aln (i := 0) (j := 0) (by decide +kernel) rfl (jo_gf (j := 0) jw_F3 (by decide) kw_130 (by decide +kernel) (jo_iln (i := 1) (j := 1) (by decide +kernel) rfl (jo_cv (n := 1) (ss_4_push l) kw_305 kw_3 kw_649 kw_303 jw_F4 kw_304 ⟨by decide, by decide, by decide +kernel⟩ ⟨by decide, by decide⟩ (fun _ _ h => h) ⟨rfl, rfl⟩ (by decide +kernel) (jo_pop (by decide +kernel) (jo_aln (i := 0) (j := 0) (by decide +kernel) rfl (jo_gf (j := 1) jw_F3 (by decide) kw_131 (by decide +kernel) (jo_iln (i := 2) (j := 2) (by decide +kernel) rfl (jo_cv (n := 1) (ss_4_push l) kw_305 kw_3 kw_649 kw_303 jw_F4 kw_304 ⟨by decide, by decide, by decide +kernel⟩ ⟨by decide, by decide⟩ (fun _ _ h => h) ⟨rfl, rfl⟩ (by decide +kernel) (jo_pop (by decide +kernel) (jo_aln (i := 0) (j := 0) (by decide +kernel) rfl (jo_gf (j := 2) jw_F3 (by decide) kw_132 (by decide +kernel) (jo_iln (i := 3) (j := 3) (by decide +kernel) rfl (jo_cv (n := 1) (ss_4_push l) kw_305 kw_3 kw_649 kw_303 jw_F4 kw_304 ⟨by decide, by decide, by decide +kernel⟩ ⟨by decide, by decide⟩ (fun _ _ h => h) ⟨rfl, rfl⟩ (by decide +kernel) (jo_pop (by decide +kernel) (jo_rv rfl (by decide +kernel)))))))))))))))))
theorem ss_3_note (l : Launch) : jw_Met l yy_3_note cb_3_note 4 none { frames := 1, cells := 0, slots := 0, locals := 21 } cc_3_note := by
  refine jw_met (by decide) (fun pc => ?_)
  intro p e s m args below meth c Q D aC ad base K X RT ls st h z hf
  unfold qq_3_note at hf
  by_cases h0 : pc = 0
  · subst h0; simp only [if_true, if_false, reduceIte, ↓reduceIte] at hf; exact sb_3_note_0 l p e s m args below meth c Q D aC ad base K X RT ls st h z hf
  rw [if_neg h0] at hf
  exact hf.elim
abbrev cb_3_startAgain : ByteArray := prog_5_method_8_code
abbrev yy_3_startAgain : MethodName := ⟨"SwipedStripe$Reading", "startAgain", "()V"⟩
def bb_3_startAgain_0 (K : jw_K) (J : Nat → jw_S) : jw_S := xo_al 0 (xo_gf 3 0 (xo_ci 0 (xo_cv 4 cc_4_cut 2 (xo_al 0 (xo_gf 3 1 (xo_ci 0 (xo_cv 4 cc_4_cut 2 (xo_al 0 (xo_gf 3 2 (xo_ci 0 (xo_cv 4 cc_4_cut 2 (xo_al 0 (xo_ci 0 (xo_pfi 3 3 (xo_al 0 (xo_ci (-4) (xo_pfi 3 4 (xo_rv 0 0 K))))))))))))))))))
def qq_3_startAgain (K : jw_K) (pc : Nat) (J : Nat → jw_S) : jw_S := if pc = 0 then bb_3_startAgain_0 K J else fun _ _ _ _ => False
def cc_3_startAgain : jw_T := jw_C 1 qq_3_startAgain
theorem sb_3_startAgain_0 (l : Launch) : jo_Ok l cb_3_startAgain 1 "SwipedStripe$Reading" "startAgain" jw_ro { frames := 1, cells := 0, slots := 0, locals := 21 } none 0 0 bb_3_startAgain_0 0 := (jo_aln (i := 0) (j := 0) (by decide +kernel) rfl (jo_gf (j := 0) jw_F3 (by decide) kw_130 (by decide +kernel) (jo_ici (n := 0) (by decide +kernel) (by decide) (jo_cv (n := 1) (ss_4_cut l) kw_313 kw_3 kw_642 kw_311 jw_F4 kw_312 ⟨by decide, by decide, by decide +kernel⟩ ⟨by decide, by decide⟩ (fun _ _ h => h) ⟨rfl, rfl⟩ (by decide +kernel) (jo_aln (i := 0) (j := 0) (by decide +kernel) rfl (jo_gf (j := 1) jw_F3 (by decide) kw_131 (by decide +kernel) (jo_ici (n := 0) (by decide +kernel) (by decide) (jo_cv (n := 1) (ss_4_cut l) kw_313 kw_3 kw_642 kw_311 jw_F4 kw_312 ⟨by decide, by decide, by decide +kernel⟩ ⟨by decide, by decide⟩ (fun _ _ h => h) ⟨rfl, rfl⟩ (by decide +kernel) (jo_aln (i := 0) (j := 0) (by decide +kernel) rfl (jo_gf (j := 2) jw_F3 (by decide) kw_132 (by decide +kernel) (jo_ici (n := 0) (by decide +kernel) (by decide) (jo_cv (n := 1) (ss_4_cut l) kw_313 kw_3 kw_642 kw_311 jw_F4 kw_312 ⟨by decide, by decide, by decide +kernel⟩ ⟨by decide, by decide⟩ (fun _ _ h => h) ⟨rfl, rfl⟩ (by decide +kernel) (jo_aln (i := 0) (j := 0) (by decide +kernel) rfl (jo_ici (n := 0) (by decide +kernel) (by decide) (jo_pfi (j := 3) jw_F3 (by decide) kw_133 rfl rfl (by decide +kernel) (jo_aln (i := 0) (j := 0) (by decide +kernel) rfl (jo_bpi (n := -4) (by decide +kernel) (by decide) (jo_pfi (j := 4) jw_F3 (by decide) kw_134 rfl rfl (by decide +kernel) (jo_rv rfl (by decide +kernel))))))))))))))))))))
theorem ss_3_startAgain (l : Launch) : jw_Met l yy_3_startAgain cb_3_startAgain 1 none { frames := 1, cells := 0, slots := 0, locals := 21 } cc_3_startAgain := by
  refine jw_met (by decide) (fun pc => ?_)
  intro p e s m args below meth c Q D aC ad base K X RT ls st h z hf
  unfold qq_3_startAgain at hf
  by_cases h0 : pc = 0
  · subst h0; simp only [if_true, if_false, reduceIte, ↓reduceIte] at hf; exact sb_3_startAgain_0 l p e s m args below meth c Q D aC ad base K X RT ls st h z hf
  rw [if_neg h0] at hf
  exact hf.elim
abbrev cb_4_isEmpty : ByteArray := prog_6_method_3_code
abbrev yy_4_isEmpty : MethodName := ⟨"SwipedStripe$Row", "isEmpty", "()Z"⟩
def bb_4_isEmpty_12 (K : jw_K) (J : Nat → jw_S) : jw_S := xo_rz 0 0 K
def bb_4_isEmpty_11 (K : jw_K) (J : Nat → jw_S) : jw_S := xo_ci 0 (bb_4_isEmpty_12 K J)
def bb_4_isEmpty_0 (K : jw_K) (J : Nat → jw_S) : jw_S := xo_al 0 (xo_gf 4 1 (xo_zne (bb_4_isEmpty_11 K J) (xo_ci 1 (bb_4_isEmpty_12 K J))))
def qq_4_isEmpty (K : jw_K) (pc : Nat) (J : Nat → jw_S) : jw_S := if pc = 0 then bb_4_isEmpty_0 K J else fun _ _ _ _ => False
def cc_4_isEmpty : jw_T := jw_C 1 qq_4_isEmpty
theorem sb_4_isEmpty_12 (l : Launch) : jo_Ok l cb_4_isEmpty 1 "SwipedStripe$Row" "isEmpty" jw_ro { frames := 0, cells := 0, slots := 0, locals := 0 } (some .boolean) 0 0 bb_4_isEmpty_12 12 := (jo_rz rfl (by decide +kernel))
theorem sb_4_isEmpty_11 (l : Launch) : jo_Ok l cb_4_isEmpty 1 "SwipedStripe$Row" "isEmpty" jw_ro { frames := 0, cells := 0, slots := 0, locals := 0 } (some .boolean) 0 0 bb_4_isEmpty_11 11 := (jo_ici (n := 0) (by decide +kernel) (by decide) (sb_4_isEmpty_12 l))
theorem sb_4_isEmpty_0 (l : Launch) : jo_Ok l cb_4_isEmpty 1 "SwipedStripe$Row" "isEmpty" jw_ro { frames := 0, cells := 0, slots := 0, locals := 0 } (some .boolean) 0 0 bb_4_isEmpty_0 0 := (jo_aln (i := 0) (j := 0) (by decide +kernel) rfl (jo_gf (j := 1) jw_F4 (by decide) kw_57 (by decide +kernel) (jo_zne (off := 7) (tgt := 11) (by decide +kernel) (by decide) (sb_4_isEmpty_11 l) (jo_ici (n := 1) (by decide +kernel) (by decide) (jo_goto (off := 4) (tgt := 12) (by decide +kernel) (by decide) (sb_4_isEmpty_12 l))))))
theorem ss_4_isEmpty (l : Launch) : jw_Met l yy_4_isEmpty cb_4_isEmpty 1 (some .boolean) { frames := 0, cells := 0, slots := 0, locals := 0 } cc_4_isEmpty := by
  refine jw_met (by decide) (fun pc => ?_)
  intro p e s m args below meth c Q D aC ad base K X RT ls st h z hf
  unfold qq_4_isEmpty at hf
  by_cases h0 : pc = 0
  · subst h0; simp only [if_true, if_false, reduceIte, ↓reduceIte] at hf; exact sb_4_isEmpty_0 l p e s m args below meth c Q D aC ad base K X RT ls st h z hf
  rw [if_neg h0] at hf
  exact hf.elim
abbrev cb_3_hear : ByteArray := prog_5_method_7_code
abbrev yy_3_hear : MethodName := ⟨"SwipedStripe$Reading", "hear", "(LSwipedStripe$Row;II)V"⟩
def bb_3_hear_189 (K : jw_K) (J : Nat → jw_S) : jw_S := xo_rv 0 0 K
def bb_3_hear_183 (K : jw_K) (J : Nat → jw_S) : jw_S := xo_ic 5 1 (J 31)
def bb_3_hear_156 (K : jw_K) (J : Nat → jw_S) : jw_S := xo_al 0 (xo_il 7 (xo_il 6 (xo_il 4 (xo_cv 3 cc_3_note 4 (xo_il 2 (xo_il 4 (xo_il 8 (xo_cs cc_3_followed 3 (xo_is 4 (xo_il 5 (xo_il 7 (xo_iadd (xo_is 5 (bb_3_hear_183 K J))))))))))))))
def bb_3_hear_123 (K : jw_K) (J : Nat → jw_S) : jw_S := xo_il 3 (xo_ci (-1) (xo_ceq (bb_3_hear_156 K J) (xo_ci 100 (xo_il 8 (xo_il 4 (xo_isub (xo_mabs (xo_imul (xo_il 3 (xo_il 4 (xo_imul (xo_cle (bb_3_hear_156 K J) (xo_al 0 (xo_ci 2 (xo_il 5 (xo_cv 3 cc_3_fail 3 (bb_3_hear_183 K J)))))))))))))))))
def bb_3_hear_94 (K : jw_K) (J : Nat → jw_S) : jw_S := xo_is 8 (xo_il 7 (xo_ci 1 (xo_cne (bb_3_hear_123 K J) (xo_al 1 (xo_il 5 (xo_ci 1 (xo_iadd (xo_cv 4 cc_4_has 2 (xo_zne (bb_3_hear_123 K J) (xo_al 0 (xo_ci 1 (xo_il 5 (xo_cv 3 cc_3_fail 3 (bb_3_hear_183 K J))))))))))))))
def bb_3_hear_83 (K : jw_K) (J : Nat → jw_S) : jw_S := xo_il 6 (xo_al 1 (xo_il 5 (xo_ci 1 (xo_iadd (xo_cv 4 cc_4_at 2 (xo_iadd (bb_3_hear_94 K J)))))))
def bb_3_hear_71 (K : jw_K) (J : Nat → jw_S) : jw_S := xo_is 7 (xo_il 7 (xo_zne (bb_3_hear_83 K J) (xo_il 6 (bb_3_hear_94 K J))))
def bb_3_hear_70 (K : jw_K) (J : Nat → jw_S) : jw_S := xo_ci 1 (bb_3_hear_71 K J)
def bb_3_hear_31 (K : jw_K) (J : Nat → jw_S) : jw_S := xo_il 5 (xo_al 1 (xo_cv 4 cc_4_size 1 (xo_cge (bb_3_hear_189 K J) (xo_al 0 (xo_gf 3 3 (xo_zne (bb_3_hear_189 K J) (xo_al 1 (xo_il 5 (xo_cv 4 cc_4_at 2 (xo_is 6 (xo_ci 4 (xo_il 6 (xo_imul (xo_ci 3 (xo_il 4 (xo_imul (xo_cle (bb_3_hear_70 K J) (xo_ci 0 (bb_3_hear_71 K J)))))))))))))))))))
def bb_3_hear_12 (K : jw_K) (J : Nat → jw_S) : jw_S := xo_al 1 (xo_ci 0 (xo_cv 4 cc_4_at 2 (xo_is 4 (xo_al 0 (xo_ci 0 (xo_il 4 (xo_il 4 (xo_cv 3 cc_3_note 4 (xo_ci 1 (xo_is 5 (J 31)))))))))))
def bb_3_hear_0 (K : jw_K) (J : Nat → jw_S) : jw_S := xo_al 0 (xo_cv 3 cc_3_startAgain 1 (xo_al 1 (xo_cv 4 cc_4_isEmpty 1 (xo_zeq (bb_3_hear_12 K J) (xo_rv 0 0 K)))))
def qq_3_hear (K : jw_K) (pc : Nat) (J : Nat → jw_S) : jw_S := if pc = 0 then bb_3_hear_0 K J else if pc = 31 then bb_3_hear_31 K J else fun _ _ _ _ => False
def cc_3_hear : jw_T := jw_C 9 qq_3_hear
theorem sb_3_hear_189 (l : Launch) : jo_Ok l cb_3_hear 9 "SwipedStripe$Reading" "hear" jw_ro { frames := 2, cells := 0, slots := 0, locals := 44 } none 0 0 bb_3_hear_189 189 := (jo_rv rfl (by decide +kernel))
theorem sb_3_hear_183 (l : Launch) : jo_Ok l cb_3_hear 9 "SwipedStripe$Reading" "hear" jw_ro { frames := 2, cells := 0, slots := 0, locals := 44 } none 0 0 bb_3_hear_183 183 := (jo_ic (n0 := 1) (by decide +kernel) (by decide) (by decide) (jo_goto (off := -155) (tgt := 31) (by decide +kernel) (by decide) (jo_J)))
theorem sb_3_hear_156 (l : Launch) : jo_Ok l cb_3_hear 9 "SwipedStripe$Reading" "hear" jw_ro { frames := 2, cells := 0, slots := 0, locals := 44 } none 0 0 bb_3_hear_156 156 := (jo_aln (i := 0) (j := 0) (by decide +kernel) rfl (jo_il (by decide +kernel) (jo_il (by decide +kernel) (jo_il (by decide +kernel) (jo_cv (n := 3) (ss_3_note l) kw_648 kw_7 kw_645 kw_647 jw_F3 kp_13 ⟨by decide, by decide, by decide +kernel⟩ ⟨by decide, by decide⟩ (fun _ _ h => h) ⟨rfl, rfl⟩ (by decide +kernel) (jo_iln (i := 2) (j := 2) (by decide +kernel) rfl (jo_il (by decide +kernel) (jo_il (by decide +kernel) (jo_cs (n := 3) (idx := 71) (ss_3_followed l) kw_661 kw_7 kw_659 kw_660 ⟨by decide, by decide, by decide +kernel⟩ ⟨by decide, by decide⟩ (fun _ _ h => h) ⟨rfl, rfl⟩ (by decide +kernel) (jo_is (by decide +kernel) (by decide) (jo_il (by decide +kernel) (jo_il (by decide +kernel) (jo_iadd (by decide +kernel) (jo_is (by decide +kernel) (by decide) (sb_3_hear_183 l)))))))))))))))
theorem sb_3_hear_123 (l : Launch) : jo_Ok l cb_3_hear 9 "SwipedStripe$Reading" "hear" jw_ro { frames := 2, cells := 0, slots := 0, locals := 44 } none 0 0 bb_3_hear_123 123 := (jo_iln (i := 3) (j := 3) (by decide +kernel) rfl (jo_ici (n := -1) (by decide +kernel) (by decide) (jo_ceq (off := 31) (tgt := 156) (by decide +kernel) (by decide) (sb_3_hear_156 l) (jo_bpi (n := 100) (by decide +kernel) (by decide) (jo_il (by decide +kernel) (jo_il (by decide +kernel) (jo_isub (by decide +kernel) (jo_mabs kw_656 kw_657 kw_4 kw_658 ⟨by decide, by decide⟩ (by decide +kernel) (jo_imul (by decide +kernel) (jo_iln (i := 3) (j := 3) (by decide +kernel) rfl (jo_il (by decide +kernel) (jo_imul (by decide +kernel) (jo_cle (off := 13) (tgt := 156) (by decide +kernel) (by decide) (sb_3_hear_156 l) (jo_aln (i := 0) (j := 0) (by decide +kernel) rfl (jo_ici (n := 2) (by decide +kernel) (by decide) (jo_il (by decide +kernel) (jo_cv (n := 2) (ss_3_fail l) kw_655 kw_7 kw_652 kw_654 jw_F3 kp_14 ⟨by decide, by decide, by decide +kernel⟩ ⟨by decide, by decide⟩ (fun _ _ h => h) ⟨rfl, rfl⟩ (by decide +kernel) (jo_goto (off := 30) (tgt := 183) (by decide +kernel) (by decide) (sb_3_hear_183 l)))))))))))))))))))
theorem sb_3_hear_94 (l : Launch) : jo_Ok l cb_3_hear 9 "SwipedStripe$Reading" "hear" jw_ro { frames := 2, cells := 0, slots := 0, locals := 44 } none 0 0 bb_3_hear_94 94 := (jo_is (by decide +kernel) (by decide) (jo_il (by decide +kernel) (jo_ici (n := 1) (by decide +kernel) (by decide) (jo_cne (off := 24) (tgt := 123) (by decide +kernel) (by decide) (sb_3_hear_123 l) (jo_aln (i := 1) (j := 1) (by decide +kernel) rfl (jo_il (by decide +kernel) (jo_ici (n := 1) (by decide +kernel) (by decide) (jo_iadd (by decide +kernel) (jo_cv (n := 1) (ss_4_has l) kw_346 kw_3 kw_651 kw_344 jw_F4 kw_345 ⟨by decide, by decide, by decide +kernel⟩ ⟨by decide, by decide⟩ (fun _ _ h => h) ⟨rfl, rfl⟩ (by decide +kernel) (jo_zne (off := 13) (tgt := 123) (by decide +kernel) (by decide) (sb_3_hear_123 l) (jo_aln (i := 0) (j := 0) (by decide +kernel) rfl (jo_ici (n := 1) (by decide +kernel) (by decide) (jo_il (by decide +kernel) (jo_cv (n := 2) (ss_3_fail l) kw_655 kw_7 kw_652 kw_654 jw_F3 kp_14 ⟨by decide, by decide, by decide +kernel⟩ ⟨by decide, by decide⟩ (fun _ _ h => h) ⟨rfl, rfl⟩ (by decide +kernel) (jo_goto (off := 63) (tgt := 183) (by decide +kernel) (by decide) (sb_3_hear_183 l))))))))))))))))
theorem sb_3_hear_83 (l : Launch) : jo_Ok l cb_3_hear 9 "SwipedStripe$Reading" "hear" jw_ro { frames := 2, cells := 0, slots := 0, locals := 44 } none 0 0 bb_3_hear_83 83 := (jo_il (by decide +kernel) (jo_aln (i := 1) (j := 1) (by decide +kernel) rfl (jo_il (by decide +kernel) (jo_ici (n := 1) (by decide +kernel) (by decide) (jo_iadd (by decide +kernel) (jo_cv (n := 1) (ss_4_at l) kw_330 kw_3 kw_644 kw_328 jw_F4 kw_329 ⟨by decide, by decide, by decide +kernel⟩ ⟨by decide, by decide⟩ (fun _ _ h => h) ⟨rfl, rfl⟩ (by decide +kernel) (jo_iadd (by decide +kernel) (sb_3_hear_94 l))))))))
theorem sb_3_hear_71 (l : Launch) : jo_Ok l cb_3_hear 9 "SwipedStripe$Reading" "hear" jw_ro { frames := 2, cells := 0, slots := 0, locals := 44 } none 0 0 bb_3_hear_71 71 := (jo_is (by decide +kernel) (by decide) (jo_il (by decide +kernel) (jo_zne (off := 8) (tgt := 83) (by decide +kernel) (by decide) (sb_3_hear_83 l) (jo_il (by decide +kernel) (jo_goto (off := 14) (tgt := 94) (by decide +kernel) (by decide) (sb_3_hear_94 l))))))
theorem sb_3_hear_70 (l : Launch) : jo_Ok l cb_3_hear 9 "SwipedStripe$Reading" "hear" jw_ro { frames := 2, cells := 0, slots := 0, locals := 44 } none 0 0 bb_3_hear_70 70 := (jo_ici (n := 1) (by decide +kernel) (by decide) (sb_3_hear_71 l))
theorem sb_3_hear_31 (l : Launch) : jo_Ok l cb_3_hear 9 "SwipedStripe$Reading" "hear" jw_ro { frames := 2, cells := 0, slots := 0, locals := 44 } none 0 0 bb_3_hear_31 31 := (jo_il (by decide +kernel) (jo_aln (i := 1) (j := 1) (by decide +kernel) rfl (jo_cv (n := 0) (ss_4_size l) kw_301 kw_3 kw_650 kw_299 jw_F4 kw_300 ⟨by decide, by decide, by decide +kernel⟩ ⟨by decide, by decide⟩ (fun _ _ h => h) ⟨rfl, rfl⟩ (by decide +kernel) (jo_cge (off := 152) (tgt := 189) (by decide +kernel) (by decide) (sb_3_hear_189 l) (jo_aln (i := 0) (j := 0) (by decide +kernel) rfl (jo_gf (j := 3) jw_F3 (by decide) kw_133 (by decide +kernel) (jo_zne (off := 145) (tgt := 189) (by decide +kernel) (by decide) (sb_3_hear_189 l) (jo_aln (i := 1) (j := 1) (by decide +kernel) rfl (jo_il (by decide +kernel) (jo_cv (n := 1) (ss_4_at l) kw_330 kw_3 kw_644 kw_328 jw_F4 kw_329 ⟨by decide, by decide, by decide +kernel⟩ ⟨by decide, by decide⟩ (fun _ _ h => h) ⟨rfl, rfl⟩ (by decide +kernel) (jo_is (by decide +kernel) (by decide) (jo_ici (n := 4) (by decide +kernel) (by decide) (jo_il (by decide +kernel) (jo_imul (by decide +kernel) (jo_ici (n := 3) (by decide +kernel) (by decide) (jo_il (by decide +kernel) (jo_imul (by decide +kernel) (jo_cle (off := 7) (tgt := 70) (by decide +kernel) (by decide) (sb_3_hear_70 l) (jo_ici (n := 0) (by decide +kernel) (by decide) (jo_goto (off := 4) (tgt := 71) (by decide +kernel) (by decide) (sb_3_hear_71 l)))))))))))))))))))))
theorem sb_3_hear_12 (l : Launch) : jo_Ok l cb_3_hear 9 "SwipedStripe$Reading" "hear" jw_ro { frames := 2, cells := 0, slots := 0, locals := 44 } none 0 0 bb_3_hear_12 12 := (jo_aln (i := 1) (j := 1) (by decide +kernel) rfl (jo_ici (n := 0) (by decide +kernel) (by decide) (jo_cv (n := 1) (ss_4_at l) kw_330 kw_3 kw_644 kw_328 jw_F4 kw_329 ⟨by decide, by decide, by decide +kernel⟩ ⟨by decide, by decide⟩ (fun _ _ h => h) ⟨rfl, rfl⟩ (by decide +kernel) (jo_is (by decide +kernel) (by decide) (jo_aln (i := 0) (j := 0) (by decide +kernel) rfl (jo_ici (n := 0) (by decide +kernel) (by decide) (jo_il (by decide +kernel) (jo_il (by decide +kernel) (jo_cv (n := 3) (ss_3_note l) kw_648 kw_7 kw_645 kw_647 jw_F3 kp_13 ⟨by decide, by decide, by decide +kernel⟩ ⟨by decide, by decide⟩ (fun _ _ h => h) ⟨rfl, rfl⟩ (by decide +kernel) (jo_ici (n := 1) (by decide +kernel) (by decide) (jo_is (by decide +kernel) (by decide) jo_J)))))))))))
theorem sb_3_hear_0 (l : Launch) : jo_Ok l cb_3_hear 9 "SwipedStripe$Reading" "hear" jw_ro { frames := 2, cells := 0, slots := 0, locals := 44 } none 0 0 bb_3_hear_0 0 := (jo_aln (i := 0) (j := 0) (by decide +kernel) rfl (jo_cv (n := 0) (ss_3_startAgain l) kw_641 kw_7 kw_638 kw_640 jw_F3 kp_12 ⟨by decide, by decide, by decide +kernel⟩ ⟨by decide, by decide⟩ (fun _ _ h => h) ⟨rfl, rfl⟩ (by decide +kernel) (jo_aln (i := 1) (j := 1) (by decide +kernel) rfl (jo_cv (n := 0) (ss_4_isEmpty l) kw_633 kw_3 kw_643 kw_631 jw_F4 kw_632 ⟨by decide, by decide, by decide +kernel⟩ ⟨by decide, by decide⟩ (fun _ _ h => h) ⟨rfl, rfl⟩ (by decide +kernel) (jo_zeq (off := 4) (tgt := 12) (by decide +kernel) (by decide) (sb_3_hear_12 l) (jo_rv rfl (by decide +kernel)))))))
theorem ss_3_hear (l : Launch) : jw_Met l yy_3_hear cb_3_hear 9 none { frames := 2, cells := 0, slots := 0, locals := 44 } cc_3_hear := by
  refine jw_met (by decide) (fun pc => ?_)
  intro p e s m args below meth c Q D aC ad base K X RT ls st h z hf
  unfold qq_3_hear at hf
  by_cases h0 : pc = 0
  · subst h0; simp only [if_true, if_false, reduceIte, ↓reduceIte] at hf; exact sb_3_hear_0 l p e s m args below meth c Q D aC ad base K X RT ls st h z hf
  rw [if_neg h0] at hf
  by_cases h31 : pc = 31
  · subst h31; simp only [if_true, if_false, reduceIte, ↓reduceIte] at hf; exact sb_3_hear_31 l p e s m args below meth c Q D aC ad base K X RT ls st h z hf
  rw [if_neg h31] at hf
  exact hf.elim
abbrev cb_10_hearByText : ByteArray := prog_1_method_38_code
abbrev yy_10_hearByText : MethodName := ⟨"SwipedStripe", "hearByText", "()V"⟩
def bb_10_hearByText_0 (K : jw_K) (J : Nat → jw_S) : jw_S := xo_al 0 (xo_gf 10 6 (xo_al 0 (xo_gf 10 5 (xo_al 0 (xo_gf 10 0 (xo_ci 8 (xo_cv 5 cc_5_of 2 (xo_al 0 (xo_gf 10 0 (xo_ci 6 (xo_cv 5 cc_5_of 2 (xo_cv 3 cc_3_hear 4 (xo_rv 0 0 K)))))))))))))
def qq_10_hearByText (K : jw_K) (pc : Nat) (J : Nat → jw_S) : jw_S := if pc = 0 then bb_10_hearByText_0 K J else fun _ _ _ _ => False
def cc_10_hearByText : jw_T := jw_C 1 qq_10_hearByText
theorem sb_10_hearByText_0 (l : Launch) : jo_Ok l cb_10_hearByText 1 "SwipedStripe" "hearByText" jw_ro { frames := 3, cells := 0, slots := 0, locals := 72 } none 0 0 bb_10_hearByText_0 0 := (jo_aln (i := 0) (j := 0) (by decide +kernel) rfl (jo_gf (j := 6) jw_F10 (by decide) kw_260 (by decide +kernel) (jo_aln (i := 0) (j := 0) (by decide +kernel) rfl (jo_gf (j := 5) jw_F10 (by decide) kw_259 (by decide +kernel) (jo_aln (i := 0) (j := 0) (by decide +kernel) rfl (jo_gf (j := 0) jw_F10 (by decide) kw_254 (by decide +kernel) (jo_bpi (n := 8) (by decide +kernel) (by decide) (jo_cv (n := 1) (ss_5_of l) kw_457 kw_2 kw_495 kw_455 jw_F5 kw_456 ⟨by decide, by decide, by decide +kernel⟩ ⟨by decide, by decide⟩ (fun _ _ h => h) ⟨rfl, rfl⟩ (by decide +kernel) (jo_aln (i := 0) (j := 0) (by decide +kernel) rfl (jo_gf (j := 0) jw_F10 (by decide) kw_254 (by decide +kernel) (jo_bpi (n := 6) (by decide +kernel) (by decide) (jo_cv (n := 1) (ss_5_of l) kw_457 kw_2 kw_495 kw_455 jw_F5 kw_456 ⟨by decide, by decide, by decide +kernel⟩ ⟨by decide, by decide⟩ (fun _ _ h => h) ⟨rfl, rfl⟩ (by decide +kernel) (jo_cv (n := 3) (ss_3_hear l) kw_637 kw_7 kw_634 kw_635 jw_F3 kw_636 ⟨by decide, by decide, by decide +kernel⟩ ⟨by decide, by decide⟩ (fun _ _ h => h) ⟨rfl, rfl⟩ (by decide +kernel) (jo_rv rfl (by decide +kernel)))))))))))))))
theorem ss_10_hearByText (l : Launch) : jw_Met l yy_10_hearByText cb_10_hearByText 1 none { frames := 3, cells := 0, slots := 0, locals := 72 } cc_10_hearByText := by
  refine jw_met (by decide) (fun pc => ?_)
  intro p e s m args below meth c Q D aC ad base K X RT ls st h z hf
  unfold qq_10_hearByText at hf
  by_cases h0 : pc = 0
  · subst h0; simp only [if_true, if_false, reduceIte, ↓reduceIte] at hf; exact sb_10_hearByText_0 l p e s m args below meth c Q D aC ad base K X RT ls st h z hf
  rw [if_neg h0] at hf
  exact hf.elim
abbrev cb_2_codedFrom : ByteArray := prog_4_method_14_code
abbrev yy_2_codedFrom : MethodName := ⟨"SwipedStripe$Finding", "codedFrom", "(LSwipedStripe$Row;I)I"⟩
def bb_2_codedFrom_50 (K : jw_K) (J : Nat → jw_S) : jw_S := xo_il 3 (xo_ri 0 0 K)
def bb_2_codedFrom_21 (K : jw_K) (J : Nat → jw_S) : jw_S := xo_il 4 (xo_al 0 (xo_gf 2 5 (xo_cgt (bb_2_codedFrom_50 K J) (xo_il 3 (xo_al 1 (xo_il 2 (xo_il 4 (xo_iadd (xo_cv 4 cc_4_at 2 (xo_il 4 (xo_ishl (xo_ior (xo_is 3 (xo_ic 4 1 (J 21)))))))))))))))
def bb_2_codedFrom_16 (K : jw_K) (J : Nat → jw_S) : jw_S := xo_ci 0 (xo_is 3 (xo_ci 0 (xo_is 4 (J 21))))
def bb_2_codedFrom_0 (K : jw_K) (J : Nat → jw_S) : jw_S := xo_il 2 (xo_al 0 (xo_gf 2 5 (xo_iadd (xo_al 1 (xo_cv 4 cc_4_size 1 (xo_clt (bb_2_codedFrom_16 K J) (xo_ci (-4) (xo_ri 0 0 K))))))))
def qq_2_codedFrom (K : jw_K) (pc : Nat) (J : Nat → jw_S) : jw_S := if pc = 0 then bb_2_codedFrom_0 K J else if pc = 21 then bb_2_codedFrom_21 K J else fun _ _ _ _ => False
def cc_2_codedFrom : jw_T := jw_C 5 qq_2_codedFrom
theorem sb_2_codedFrom_50 (l : Launch) : jo_Ok l cb_2_codedFrom 5 "SwipedStripe$Finding" "codedFrom" jw_ro { frames := 1, cells := 0, slots := 0, locals := 21 } (some .int) 0 0 bb_2_codedFrom_50 50 := (jo_iln (i := 3) (j := 3) (by decide +kernel) rfl (jo_ri rfl (by decide +kernel)))
theorem sb_2_codedFrom_21 (l : Launch) : jo_Ok l cb_2_codedFrom 5 "SwipedStripe$Finding" "codedFrom" jw_ro { frames := 1, cells := 0, slots := 0, locals := 21 } (some .int) 0 0 bb_2_codedFrom_21 21 := (jo_il (by decide +kernel) (jo_aln (i := 0) (j := 0) (by decide +kernel) rfl (jo_gf (j := 5) jw_F2 (by decide) kw_165 (by decide +kernel) (jo_cgt (off := 23) (tgt := 50) (by decide +kernel) (by decide) (sb_2_codedFrom_50 l) (jo_iln (i := 3) (j := 3) (by decide +kernel) rfl (jo_aln (i := 1) (j := 1) (by decide +kernel) rfl (jo_iln (i := 2) (j := 2) (by decide +kernel) rfl (jo_il (by decide +kernel) (jo_iadd (by decide +kernel) (jo_cv (n := 1) (ss_4_at l) kw_330 kw_3 kw_708 kw_328 jw_F4 kw_329 ⟨by decide, by decide, by decide +kernel⟩ ⟨by decide, by decide⟩ (fun _ _ h => h) ⟨rfl, rfl⟩ (by decide +kernel) (jo_il (by decide +kernel) (jo_ishl (by decide +kernel) (jo_ior (by decide +kernel) (jo_isn (i := 3) (j := 3) (by decide +kernel) rfl (by decide) (jo_ic (n0 := 1) (by decide +kernel) (by decide) (by decide) (jo_goto (off := -26) (tgt := 21) (by decide +kernel) (by decide) (jo_J)))))))))))))))))
theorem sb_2_codedFrom_16 (l : Launch) : jo_Ok l cb_2_codedFrom 5 "SwipedStripe$Finding" "codedFrom" jw_ro { frames := 1, cells := 0, slots := 0, locals := 21 } (some .int) 0 0 bb_2_codedFrom_16 16 := (jo_ici (n := 0) (by decide +kernel) (by decide) (jo_isn (i := 3) (j := 3) (by decide +kernel) rfl (by decide) (jo_ici (n := 0) (by decide +kernel) (by decide) (jo_is (by decide +kernel) (by decide) jo_J))))
theorem sb_2_codedFrom_0 (l : Launch) : jo_Ok l cb_2_codedFrom 5 "SwipedStripe$Finding" "codedFrom" jw_ro { frames := 1, cells := 0, slots := 0, locals := 21 } (some .int) 0 0 bb_2_codedFrom_0 0 := (jo_iln (i := 2) (j := 2) (by decide +kernel) rfl (jo_aln (i := 0) (j := 0) (by decide +kernel) rfl (jo_gf (j := 5) jw_F2 (by decide) kw_165 (by decide +kernel) (jo_iadd (by decide +kernel) (jo_aln (i := 1) (j := 1) (by decide +kernel) rfl (jo_cv (n := 0) (ss_4_size l) kw_301 kw_3 kw_703 kw_299 jw_F4 kw_300 ⟨by decide, by decide, by decide +kernel⟩ ⟨by decide, by decide⟩ (fun _ _ h => h) ⟨rfl, rfl⟩ (by decide +kernel) (jo_clt (off := 6) (tgt := 16) (by decide +kernel) (by decide) (sb_2_codedFrom_16 l) (jo_bpi (n := -4) (by decide +kernel) (by decide) (jo_ri rfl (by decide +kernel))))))))))
theorem ss_2_codedFrom (l : Launch) : jw_Met l yy_2_codedFrom cb_2_codedFrom 5 (some .int) { frames := 1, cells := 0, slots := 0, locals := 21 } cc_2_codedFrom := by
  refine jw_met (by decide) (fun pc => ?_)
  intro p e s m args below meth c Q D aC ad base K X RT ls st h z hf
  unfold qq_2_codedFrom at hf
  by_cases h0 : pc = 0
  · subst h0; simp only [if_true, if_false, reduceIte, ↓reduceIte] at hf; exact sb_2_codedFrom_0 l p e s m args below meth c Q D aC ad base K X RT ls st h z hf
  rw [if_neg h0] at hf
  by_cases h21 : pc = 21
  · subst h21; simp only [if_true, if_false, reduceIte, ↓reduceIte] at hf; exact sb_2_codedFrom_21 l p e s m args below meth c Q D aC ad base K X RT ls st h z hf
  rw [if_neg h21] at hf
  exact hf.elim
abbrev cb_2_placeOf : ByteArray := prog_4_method_11_code
abbrev yy_2_placeOf : MethodName := ⟨"SwipedStripe$Finding", "placeOf", "(ILSwipedStripe$Row;)I"⟩
def bb_2_placeOf_28 (K : jw_K) (J : Nat → jw_S) : jw_S := xo_ci (-4) (xo_ri 0 0 K)
def bb_2_placeOf_22 (K : jw_K) (J : Nat → jw_S) : jw_S := xo_ic 3 1 (J 2)
def bb_2_placeOf_2 (K : jw_K) (J : Nat → jw_S) : jw_S := xo_il 3 (xo_al 2 (xo_cv 4 cc_4_size 1 (xo_cge (bb_2_placeOf_28 K J) (xo_al 0 (xo_al 2 (xo_il 3 (xo_cv 2 cc_2_codedFrom 3 (xo_il 1 (xo_cne (bb_2_placeOf_22 K J) (xo_il 3 (xo_ri 0 0 K)))))))))))
def bb_2_placeOf_0 (K : jw_K) (J : Nat → jw_S) : jw_S := xo_ci 0 (xo_is 3 (J 2))
def qq_2_placeOf (K : jw_K) (pc : Nat) (J : Nat → jw_S) : jw_S := if pc = 0 then bb_2_placeOf_0 K J else if pc = 2 then bb_2_placeOf_2 K J else fun _ _ _ _ => False
def cc_2_placeOf : jw_T := jw_C 4 qq_2_placeOf
theorem sb_2_placeOf_28 (l : Launch) : jo_Ok l cb_2_placeOf 4 "SwipedStripe$Finding" "placeOf" jw_ro { frames := 2, cells := 0, slots := 0, locals := 45 } (some .int) 0 0 bb_2_placeOf_28 28 := (jo_bpi (n := -4) (by decide +kernel) (by decide) (jo_ri rfl (by decide +kernel)))
theorem sb_2_placeOf_22 (l : Launch) : jo_Ok l cb_2_placeOf 4 "SwipedStripe$Finding" "placeOf" jw_ro { frames := 2, cells := 0, slots := 0, locals := 45 } (some .int) 0 0 bb_2_placeOf_22 22 := (jo_ic (n0 := 1) (by decide +kernel) (by decide) (by decide) (jo_goto (off := -23) (tgt := 2) (by decide +kernel) (by decide) (jo_J)))
theorem sb_2_placeOf_2 (l : Launch) : jo_Ok l cb_2_placeOf 4 "SwipedStripe$Finding" "placeOf" jw_ro { frames := 2, cells := 0, slots := 0, locals := 45 } (some .int) 0 0 bb_2_placeOf_2 2 := (jo_iln (i := 3) (j := 3) (by decide +kernel) rfl (jo_aln (i := 2) (j := 2) (by decide +kernel) rfl (jo_cv (n := 0) (ss_4_size l) kw_301 kw_3 kw_703 kw_299 jw_F4 kw_300 ⟨by decide, by decide, by decide +kernel⟩ ⟨by decide, by decide⟩ (fun _ _ h => h) ⟨rfl, rfl⟩ (by decide +kernel) (jo_cge (off := 21) (tgt := 28) (by decide +kernel) (by decide) (sb_2_placeOf_28 l) (jo_aln (i := 0) (j := 0) (by decide +kernel) rfl (jo_aln (i := 2) (j := 2) (by decide +kernel) rfl (jo_iln (i := 3) (j := 3) (by decide +kernel) rfl (jo_cv (n := 2) (ss_2_codedFrom l) kw_707 kw_8 kw_704 kw_706 jw_F2 kp_18 ⟨by decide, by decide, by decide +kernel⟩ ⟨by decide, by decide⟩ (fun _ _ h => h) ⟨rfl, rfl⟩ (by decide +kernel) (jo_iln (i := 1) (j := 1) (by decide +kernel) rfl (jo_cne (off := 5) (tgt := 22) (by decide +kernel) (by decide) (sb_2_placeOf_22 l) (jo_iln (i := 3) (j := 3) (by decide +kernel) rfl (jo_ri rfl (by decide +kernel)))))))))))))
theorem sb_2_placeOf_0 (l : Launch) : jo_Ok l cb_2_placeOf 4 "SwipedStripe$Finding" "placeOf" jw_ro { frames := 2, cells := 0, slots := 0, locals := 45 } (some .int) 0 0 bb_2_placeOf_0 0 := (jo_ici (n := 0) (by decide +kernel) (by decide) (jo_isn (i := 3) (j := 3) (by decide +kernel) rfl (by decide) jo_J))
theorem ss_2_placeOf (l : Launch) : jw_Met l yy_2_placeOf cb_2_placeOf 4 (some .int) { frames := 2, cells := 0, slots := 0, locals := 45 } cc_2_placeOf := by
  refine jw_met (by decide) (fun pc => ?_)
  intro p e s m args below meth c Q D aC ad base K X RT ls st h z hf
  unfold qq_2_placeOf at hf
  by_cases h0 : pc = 0
  · subst h0; simp only [if_true, if_false, reduceIte, ↓reduceIte] at hf; exact sb_2_placeOf_0 l p e s m args below meth c Q D aC ad base K X RT ls st h z hf
  rw [if_neg h0] at hf
  by_cases h2 : pc = 2
  · subst h2; simp only [if_true, if_false, reduceIte, ↓reduceIte] at hf; exact sb_2_placeOf_2 l p e s m args below meth c Q D aC ad base K X RT ls st h z hf
  rw [if_neg h2] at hf
  exact hf.elim
abbrev cb_2_take : ByteArray := prog_4_method_13_code
abbrev yy_2_take : MethodName := ⟨"SwipedStripe$Finding", "take", "(I)Z"⟩
def bb_2_take_48 (K : jw_K) (J : Nat → jw_S) : jw_S := xo_cv 4 cc_4_push 2 (xo_rz 0 0 K)
def bb_2_take_47 (K : jw_K) (J : Nat → jw_S) : jw_S := xo_ci 0 (bb_2_take_48 K J)
def bb_2_take_8 (K : jw_K) (J : Nat → jw_S) : jw_S := xo_al 0 (xo_gf 2 0 (xo_il 1 (xo_ci 1 (xo_al 0 (xo_gf 2 5 (xo_ishl (xo_ci 1 (xo_isub (xo_iand (xo_cv 4 cc_4_push 2 (xo_pop (xo_al 0 (xo_gf 2 1 (xo_il 1 (xo_cs cc_N_bitCount 1 (xo_ci 1 (xo_iand (xo_al 0 (xo_gf 2 6 (xo_cne (bb_2_take_47 K J) (xo_ci 1 (bb_2_take_48 K J))))))))))))))))))))))
def bb_2_take_0 (K : jw_K) (J : Nat → jw_S) : jw_S := xo_il 1 (xo_ci (-4) (xo_cne (bb_2_take_8 K J) (xo_ci 0 (xo_rz 0 0 K))))
def qq_2_take (K : jw_K) (pc : Nat) (J : Nat → jw_S) : jw_S := if pc = 0 then bb_2_take_0 K J else fun _ _ _ _ => False
def cc_2_take : jw_T := jw_C 2 qq_2_take
theorem sb_2_take_48 (l : Launch) : jo_Ok l cb_2_take 2 "SwipedStripe$Finding" "take" jw_ro { frames := 1, cells := 0, slots := 0, locals := 21 } (some .boolean) 0 0 bb_2_take_48 48 := (jo_cv (n := 1) (ss_4_push l) kw_305 kw_3 kw_717 kw_303 jw_F4 kw_304 ⟨by decide, by decide, by decide +kernel⟩ ⟨by decide, by decide⟩ (fun _ _ h => h) ⟨rfl, rfl⟩ (by decide +kernel) (jo_rz rfl (by decide +kernel)))
theorem sb_2_take_47 (l : Launch) : jo_Ok l cb_2_take 2 "SwipedStripe$Finding" "take" jw_ro { frames := 1, cells := 0, slots := 0, locals := 21 } (some .boolean) 0 0 bb_2_take_47 47 := (jo_ici (n := 0) (by decide +kernel) (by decide) (sb_2_take_48 l))
theorem sb_2_take_8 (l : Launch) : jo_Ok l cb_2_take 2 "SwipedStripe$Finding" "take" jw_ro { frames := 1, cells := 0, slots := 0, locals := 21 } (some .boolean) 0 0 bb_2_take_8 8 := (jo_aln (i := 0) (j := 0) (by decide +kernel) rfl (jo_gf (j := 0) jw_F2 (by decide) kw_160 (by decide +kernel) (jo_iln (i := 1) (j := 1) (by decide +kernel) rfl (jo_ici (n := 1) (by decide +kernel) (by decide) (jo_aln (i := 0) (j := 0) (by decide +kernel) rfl (jo_gf (j := 5) jw_F2 (by decide) kw_165 (by decide +kernel) (jo_ishl (by decide +kernel) (jo_ici (n := 1) (by decide +kernel) (by decide) (jo_isub (by decide +kernel) (jo_iand (by decide +kernel) (jo_cv (n := 1) (ss_4_push l) kw_305 kw_3 kw_717 kw_303 jw_F4 kw_304 ⟨by decide, by decide, by decide +kernel⟩ ⟨by decide, by decide⟩ (fun _ _ h => h) ⟨rfl, rfl⟩ (by decide +kernel) (jo_pop (by decide +kernel) (jo_aln (i := 0) (j := 0) (by decide +kernel) rfl (jo_gf (j := 1) jw_F2 (by decide) kw_161 (by decide +kernel) (jo_iln (i := 1) (j := 1) (by decide +kernel) rfl (jo_cs (n := 1) (idx := 106) (ss_N_bitCount l) kw_539 kw_18 kw_718 kw_538 ⟨by decide, by decide, by decide +kernel⟩ ⟨by decide, by decide⟩ (fun _ _ h => h) ⟨rfl, rfl⟩ (by decide +kernel) (jo_ici (n := 1) (by decide +kernel) (by decide) (jo_iand (by decide +kernel) (jo_aln (i := 0) (j := 0) (by decide +kernel) rfl (jo_gf (j := 6) jw_F2 (by decide) kw_166 (by decide +kernel) (jo_cne (off := 7) (tgt := 47) (by decide +kernel) (by decide) (sb_2_take_47 l) (jo_ici (n := 1) (by decide +kernel) (by decide) (jo_goto (off := 4) (tgt := 48) (by decide +kernel) (by decide) (sb_2_take_48 l))))))))))))))))))))))))
theorem sb_2_take_0 (l : Launch) : jo_Ok l cb_2_take 2 "SwipedStripe$Finding" "take" jw_ro { frames := 1, cells := 0, slots := 0, locals := 21 } (some .boolean) 0 0 bb_2_take_0 0 := (jo_iln (i := 1) (j := 1) (by decide +kernel) rfl (jo_bpi (n := -4) (by decide +kernel) (by decide) (jo_cne (off := 5) (tgt := 8) (by decide +kernel) (by decide) (sb_2_take_8 l) (jo_ici (n := 0) (by decide +kernel) (by decide) (jo_rz rfl (by decide +kernel))))))
theorem ss_2_take (l : Launch) : jw_Met l yy_2_take cb_2_take 2 (some .boolean) { frames := 1, cells := 0, slots := 0, locals := 21 } cc_2_take := by
  refine jw_met (by decide) (fun pc => ?_)
  intro p e s m args below meth c Q D aC ad base K X RT ls st h z hf
  unfold qq_2_take at hf
  by_cases h0 : pc = 0
  · subst h0; simp only [if_true, if_false, reduceIte, ↓reduceIte] at hf; exact sb_2_take_0 l p e s m args below meth c Q D aC ad base K X RT ls st h z hf
  rw [if_neg h0] at hf
  exact hf.elim
abbrev cb_2_takeSymbols : ByteArray := prog_4_method_12_code
abbrev yy_2_takeSymbols : MethodName := ⟨"SwipedStripe$Finding", "takeSymbols", "(ILSwipedStripe$Row;)Z"⟩
def bb_2_takeSymbols_111 (K : jw_K) (J : Nat → jw_S) : jw_S := xo_ci 0 (xo_rz 0 0 K)
def bb_2_takeSymbols_105 (K : jw_K) (J : Nat → jw_S) : jw_S := xo_ic 4 1 (J 24)
def bb_2_takeSymbols_104 (K : jw_K) (J : Nat → jw_S) : jw_S := xo_rz 0 0 K
def bb_2_takeSymbols_103 (K : jw_K) (J : Nat → jw_S) : jw_S := xo_ci 0 (bb_2_takeSymbols_104 K J)
def bb_2_takeSymbols_99 (K : jw_K) (J : Nat → jw_S) : jw_S := xo_ci 1 (bb_2_takeSymbols_104 K J)
def bb_2_takeSymbols_64 (K : jw_K) (J : Nat → jw_S) : jw_S := xo_il 6 (xo_il 1 (xo_cne (bb_2_takeSymbols_105 K J) (xo_al 0 (xo_il 4 (xo_pfi 2 4 (xo_al 0 (xo_gf 2 7 (xo_zeq (bb_2_takeSymbols_99 K J) (xo_al 0 (xo_al 0 (xo_al 2 (xo_il 5 (xo_il 3 (xo_iadd (xo_cv 2 cc_2_codedFrom 3 (xo_cv 2 cc_2_take 2 (xo_zeq (bb_2_takeSymbols_103 K J) (bb_2_takeSymbols_99 K J))))))))))))))))))
def bb_2_takeSymbols_24 (K : jw_K) (J : Nat → jw_S) : jw_S := xo_il 4 (xo_ci 32 (xo_cgt (bb_2_takeSymbols_111 K J) (xo_al 0 (xo_gf 2 3 (xo_il 4 (xo_ci 1 (xo_iadd (xo_il 3 (xo_imul (xo_iadd (xo_is 5 (xo_al 0 (xo_al 2 (xo_il 5 (xo_cv 2 cc_2_codedFrom 3 (xo_is 6 (xo_al 0 (xo_il 6 (xo_cv 2 cc_2_take 2 (xo_zne (bb_2_takeSymbols_64 K J) (xo_ci 0 (xo_rz 0 0 K))))))))))))))))))))))
def bb_2_takeSymbols_0 (K : jw_K) (J : Nat → jw_S) : jw_S := xo_al 0 (xo_gf 2 5 (xo_ci 1 (xo_iadd (xo_is 3 (xo_al 0 (xo_al 0 (xo_al 2 (xo_al 0 (xo_gf 2 3 (xo_cv 2 cc_2_codedFrom 3 (xo_cv 2 cc_2_take 2 (xo_pop (xo_ci 0 (xo_is 4 (J 24)))))))))))))))
def qq_2_takeSymbols (K : jw_K) (pc : Nat) (J : Nat → jw_S) : jw_S := if pc = 0 then bb_2_takeSymbols_0 K J else if pc = 24 then bb_2_takeSymbols_24 K J else fun _ _ _ _ => False
def cc_2_takeSymbols : jw_T := jw_C 7 qq_2_takeSymbols
theorem sb_2_takeSymbols_111 (l : Launch) : jo_Ok l cb_2_takeSymbols 7 "SwipedStripe$Finding" "takeSymbols" jw_ro { frames := 2, cells := 0, slots := 0, locals := 45 } (some .boolean) 0 0 bb_2_takeSymbols_111 111 := (jo_ici (n := 0) (by decide +kernel) (by decide) (jo_rz rfl (by decide +kernel)))
theorem sb_2_takeSymbols_105 (l : Launch) : jo_Ok l cb_2_takeSymbols 7 "SwipedStripe$Finding" "takeSymbols" jw_ro { frames := 2, cells := 0, slots := 0, locals := 45 } (some .boolean) 0 0 bb_2_takeSymbols_105 105 := (jo_ic (n0 := 1) (by decide +kernel) (by decide) (by decide) (jo_goto (off := -84) (tgt := 24) (by decide +kernel) (by decide) (jo_J)))
theorem sb_2_takeSymbols_104 (l : Launch) : jo_Ok l cb_2_takeSymbols 7 "SwipedStripe$Finding" "takeSymbols" jw_ro { frames := 2, cells := 0, slots := 0, locals := 45 } (some .boolean) 0 0 bb_2_takeSymbols_104 104 := (jo_rz rfl (by decide +kernel))
theorem sb_2_takeSymbols_103 (l : Launch) : jo_Ok l cb_2_takeSymbols 7 "SwipedStripe$Finding" "takeSymbols" jw_ro { frames := 2, cells := 0, slots := 0, locals := 45 } (some .boolean) 0 0 bb_2_takeSymbols_103 103 := (jo_ici (n := 0) (by decide +kernel) (by decide) (sb_2_takeSymbols_104 l))
theorem sb_2_takeSymbols_99 (l : Launch) : jo_Ok l cb_2_takeSymbols 7 "SwipedStripe$Finding" "takeSymbols" jw_ro { frames := 2, cells := 0, slots := 0, locals := 45 } (some .boolean) 0 0 bb_2_takeSymbols_99 99 := (jo_ici (n := 1) (by decide +kernel) (by decide) (jo_goto (off := 4) (tgt := 104) (by decide +kernel) (by decide) (sb_2_takeSymbols_104 l)))
theorem sb_2_takeSymbols_64 (l : Launch) : jo_Ok l cb_2_takeSymbols 7 "SwipedStripe$Finding" "takeSymbols" jw_ro { frames := 2, cells := 0, slots := 0, locals := 45 } (some .boolean) 0 0 bb_2_takeSymbols_64 64 := (jo_il (by decide +kernel) (jo_iln (i := 1) (j := 1) (by decide +kernel) rfl (jo_cne (off := 38) (tgt := 105) (by decide +kernel) (by decide) (sb_2_takeSymbols_105 l) (jo_aln (i := 0) (j := 0) (by decide +kernel) rfl (jo_il (by decide +kernel) (jo_pfi (j := 4) jw_F2 (by decide) kw_164 rfl rfl (by decide +kernel) (jo_aln (i := 0) (j := 0) (by decide +kernel) rfl (jo_gf (j := 7) jw_F2 (by decide) kw_167 (by decide +kernel) (jo_zeq (off := 19) (tgt := 99) (by decide +kernel) (by decide) (sb_2_takeSymbols_99 l) (jo_aln (i := 0) (j := 0) (by decide +kernel) rfl (jo_aln (i := 0) (j := 0) (by decide +kernel) rfl (jo_aln (i := 2) (j := 2) (by decide +kernel) rfl (jo_il (by decide +kernel) (jo_iln (i := 3) (j := 3) (by decide +kernel) rfl (jo_iadd (by decide +kernel) (jo_cv (n := 2) (ss_2_codedFrom l) kw_707 kw_8 kw_704 kw_706 jw_F2 kp_18 ⟨by decide, by decide, by decide +kernel⟩ ⟨by decide, by decide⟩ (fun _ _ h => h) ⟨rfl, rfl⟩ (by decide +kernel) (jo_cv (n := 1) (ss_2_take l) kw_716 kw_8 kw_713 kw_715 jw_F2 kp_20 ⟨by decide, by decide, by decide +kernel⟩ ⟨by decide, by decide⟩ (fun _ _ h => h) ⟨rfl, rfl⟩ (by decide +kernel) (jo_zeq (off := 7) (tgt := 103) (by decide +kernel) (by decide) (sb_2_takeSymbols_103 l) (sb_2_takeSymbols_99 l)))))))))))))))))))
theorem sb_2_takeSymbols_24 (l : Launch) : jo_Ok l cb_2_takeSymbols 7 "SwipedStripe$Finding" "takeSymbols" jw_ro { frames := 2, cells := 0, slots := 0, locals := 45 } (some .boolean) 0 0 bb_2_takeSymbols_24 24 := (jo_il (by decide +kernel) (jo_bpi (n := 32) (by decide +kernel) (by decide) (jo_cgt (off := 83) (tgt := 111) (by decide +kernel) (by decide) (sb_2_takeSymbols_111 l) (jo_aln (i := 0) (j := 0) (by decide +kernel) rfl (jo_gf (j := 3) jw_F2 (by decide) kw_163 (by decide +kernel) (jo_il (by decide +kernel) (jo_ici (n := 1) (by decide +kernel) (by decide) (jo_iadd (by decide +kernel) (jo_iln (i := 3) (j := 3) (by decide +kernel) rfl (jo_imul (by decide +kernel) (jo_iadd (by decide +kernel) (jo_is (by decide +kernel) (by decide) (jo_aln (i := 0) (j := 0) (by decide +kernel) rfl (jo_aln (i := 2) (j := 2) (by decide +kernel) rfl (jo_il (by decide +kernel) (jo_cv (n := 2) (ss_2_codedFrom l) kw_707 kw_8 kw_704 kw_706 jw_F2 kp_18 ⟨by decide, by decide, by decide +kernel⟩ ⟨by decide, by decide⟩ (fun _ _ h => h) ⟨rfl, rfl⟩ (by decide +kernel) (jo_is (by decide +kernel) (by decide) (jo_aln (i := 0) (j := 0) (by decide +kernel) rfl (jo_il (by decide +kernel) (jo_cv (n := 1) (ss_2_take l) kw_716 kw_8 kw_713 kw_715 jw_F2 kp_20 ⟨by decide, by decide, by decide +kernel⟩ ⟨by decide, by decide⟩ (fun _ _ h => h) ⟨rfl, rfl⟩ (by decide +kernel) (jo_zne (off := 5) (tgt := 64) (by decide +kernel) (by decide) (sb_2_takeSymbols_64 l) (jo_ici (n := 0) (by decide +kernel) (by decide) (jo_rz rfl (by decide +kernel))))))))))))))))))))))))
theorem sb_2_takeSymbols_0 (l : Launch) : jo_Ok l cb_2_takeSymbols 7 "SwipedStripe$Finding" "takeSymbols" jw_ro { frames := 2, cells := 0, slots := 0, locals := 45 } (some .boolean) 0 0 bb_2_takeSymbols_0 0 := (jo_aln (i := 0) (j := 0) (by decide +kernel) rfl (jo_gf (j := 5) jw_F2 (by decide) kw_165 (by decide +kernel) (jo_ici (n := 1) (by decide +kernel) (by decide) (jo_iadd (by decide +kernel) (jo_isn (i := 3) (j := 3) (by decide +kernel) rfl (by decide) (jo_aln (i := 0) (j := 0) (by decide +kernel) rfl (jo_aln (i := 0) (j := 0) (by decide +kernel) rfl (jo_aln (i := 2) (j := 2) (by decide +kernel) rfl (jo_aln (i := 0) (j := 0) (by decide +kernel) rfl (jo_gf (j := 3) jw_F2 (by decide) kw_163 (by decide +kernel) (jo_cv (n := 2) (ss_2_codedFrom l) kw_707 kw_8 kw_704 kw_706 jw_F2 kp_18 ⟨by decide, by decide, by decide +kernel⟩ ⟨by decide, by decide⟩ (fun _ _ h => h) ⟨rfl, rfl⟩ (by decide +kernel) (jo_cv (n := 1) (ss_2_take l) kw_716 kw_8 kw_713 kw_715 jw_F2 kp_20 ⟨by decide, by decide, by decide +kernel⟩ ⟨by decide, by decide⟩ (fun _ _ h => h) ⟨rfl, rfl⟩ (by decide +kernel) (jo_pop (by decide +kernel) (jo_ici (n := 0) (by decide +kernel) (by decide) (jo_is (by decide +kernel) (by decide) jo_J)))))))))))))))
theorem ss_2_takeSymbols (l : Launch) : jw_Met l yy_2_takeSymbols cb_2_takeSymbols 7 (some .boolean) { frames := 2, cells := 0, slots := 0, locals := 45 } cc_2_takeSymbols := by
  refine jw_met (by decide) (fun pc => ?_)
  intro p e s m args below meth c Q D aC ad base K X RT ls st h z hf
  unfold qq_2_takeSymbols at hf
  by_cases h0 : pc = 0
  · subst h0; simp only [if_true, if_false, reduceIte, ↓reduceIte] at hf; exact sb_2_takeSymbols_0 l p e s m args below meth c Q D aC ad base K X RT ls st h z hf
  rw [if_neg h0] at hf
  by_cases h24 : pc = 24
  · subst h24; simp only [if_true, if_false, reduceIte, ↓reduceIte] at hf; exact sb_2_takeSymbols_24 l p e s m args below meth c Q D aC ad base K X RT ls st h z hf
  rw [if_neg h24] at hf
  exact hf.elim
abbrev cb_2_weighChecks : ByteArray := prog_4_method_15_code
abbrev yy_2_weighChecks : MethodName := ⟨"SwipedStripe$Finding", "weighChecks", "()V"⟩
def bb_2_weighChecks_45 (K : jw_K) (J : Nat → jw_S) : jw_S := xo_pfi 2 8 (xo_rv 0 0 K)
def bb_2_weighChecks_44 (K : jw_K) (J : Nat → jw_S) : jw_S := xo_ci 0 (bb_2_weighChecks_45 K J)
def bb_2_weighChecks_32 (K : jw_K) (J : Nat → jw_S) : jw_S := xo_al 0 (xo_al 0 (xo_gf 2 7 (xo_zeq (bb_2_weighChecks_44 K J) (xo_il 1 (bb_2_weighChecks_45 K J)))))
def bb_2_weighChecks_4 (K : jw_K) (J : Nat → jw_S) : jw_S := xo_il 2 (xo_al 0 (xo_gf 2 0 (xo_cv 4 cc_4_size 1 (xo_cge (bb_2_weighChecks_32 K J) (xo_il 1 (xo_al 0 (xo_gf 2 0 (xo_il 2 (xo_cv 4 cc_4_at 2 (xo_ixor (xo_is 1 (xo_ic 2 1 (J 4)))))))))))))
def bb_2_weighChecks_0 (K : jw_K) (J : Nat → jw_S) : jw_S := xo_ci 0 (xo_is 1 (xo_ci 0 (xo_is 2 (J 4))))
def qq_2_weighChecks (K : jw_K) (pc : Nat) (J : Nat → jw_S) : jw_S := if pc = 0 then bb_2_weighChecks_0 K J else if pc = 4 then bb_2_weighChecks_4 K J else fun _ _ _ _ => False
def cc_2_weighChecks : jw_T := jw_C 3 qq_2_weighChecks
theorem sb_2_weighChecks_45 (l : Launch) : jo_Ok l cb_2_weighChecks 3 "SwipedStripe$Finding" "weighChecks" jw_ro { frames := 1, cells := 0, slots := 0, locals := 21 } none 0 0 bb_2_weighChecks_45 45 := (jo_pfi (j := 8) jw_F2 (by decide) kw_168 rfl rfl (by decide +kernel) (jo_rv rfl (by decide +kernel)))
theorem sb_2_weighChecks_44 (l : Launch) : jo_Ok l cb_2_weighChecks 3 "SwipedStripe$Finding" "weighChecks" jw_ro { frames := 1, cells := 0, slots := 0, locals := 21 } none 0 0 bb_2_weighChecks_44 44 := (jo_ici (n := 0) (by decide +kernel) (by decide) (sb_2_weighChecks_45 l))
theorem sb_2_weighChecks_32 (l : Launch) : jo_Ok l cb_2_weighChecks 3 "SwipedStripe$Finding" "weighChecks" jw_ro { frames := 1, cells := 0, slots := 0, locals := 21 } none 0 0 bb_2_weighChecks_32 32 := (jo_aln (i := 0) (j := 0) (by decide +kernel) rfl (jo_aln (i := 0) (j := 0) (by decide +kernel) rfl (jo_gf (j := 7) jw_F2 (by decide) kw_167 (by decide +kernel) (jo_zeq (off := 7) (tgt := 44) (by decide +kernel) (by decide) (sb_2_weighChecks_44 l) (jo_iln (i := 1) (j := 1) (by decide +kernel) rfl (jo_goto (off := 4) (tgt := 45) (by decide +kernel) (by decide) (sb_2_weighChecks_45 l)))))))
theorem sb_2_weighChecks_4 (l : Launch) : jo_Ok l cb_2_weighChecks 3 "SwipedStripe$Finding" "weighChecks" jw_ro { frames := 1, cells := 0, slots := 0, locals := 21 } none 0 0 bb_2_weighChecks_4 4 := (jo_iln (i := 2) (j := 2) (by decide +kernel) rfl (jo_aln (i := 0) (j := 0) (by decide +kernel) rfl (jo_gf (j := 0) jw_F2 (by decide) kw_160 (by decide +kernel) (jo_cv (n := 0) (ss_4_size l) kw_301 kw_3 kw_703 kw_299 jw_F4 kw_300 ⟨by decide, by decide, by decide +kernel⟩ ⟨by decide, by decide⟩ (fun _ _ h => h) ⟨rfl, rfl⟩ (by decide +kernel) (jo_cge (off := 20) (tgt := 32) (by decide +kernel) (by decide) (sb_2_weighChecks_32 l) (jo_iln (i := 1) (j := 1) (by decide +kernel) rfl (jo_aln (i := 0) (j := 0) (by decide +kernel) rfl (jo_gf (j := 0) jw_F2 (by decide) kw_160 (by decide +kernel) (jo_iln (i := 2) (j := 2) (by decide +kernel) rfl (jo_cv (n := 1) (ss_4_at l) kw_330 kw_3 kw_708 kw_328 jw_F4 kw_329 ⟨by decide, by decide, by decide +kernel⟩ ⟨by decide, by decide⟩ (fun _ _ h => h) ⟨rfl, rfl⟩ (by decide +kernel) (jo_ixor (by decide +kernel) (jo_isn (i := 1) (j := 1) (by decide +kernel) rfl (by decide) (jo_ic (n0 := 1) (by decide +kernel) (by decide) (by decide) (jo_goto (off := -25) (tgt := 4) (by decide +kernel) (by decide) (jo_J)))))))))))))))
theorem sb_2_weighChecks_0 (l : Launch) : jo_Ok l cb_2_weighChecks 3 "SwipedStripe$Finding" "weighChecks" jw_ro { frames := 1, cells := 0, slots := 0, locals := 21 } none 0 0 bb_2_weighChecks_0 0 := (jo_ici (n := 0) (by decide +kernel) (by decide) (jo_isn (i := 1) (j := 1) (by decide +kernel) rfl (by decide) (jo_ici (n := 0) (by decide +kernel) (by decide) (jo_isn (i := 2) (j := 2) (by decide +kernel) rfl (by decide) jo_J))))
theorem ss_2_weighChecks (l : Launch) : jw_Met l yy_2_weighChecks cb_2_weighChecks 3 none { frames := 1, cells := 0, slots := 0, locals := 21 } cc_2_weighChecks := by
  refine jw_met (by decide) (fun pc => ?_)
  intro p e s m args below meth c Q D aC ad base K X RT ls st h z hf
  unfold qq_2_weighChecks at hf
  by_cases h0 : pc = 0
  · subst h0; simp only [if_true, if_false, reduceIte, ↓reduceIte] at hf; exact sb_2_weighChecks_0 l p e s m args below meth c Q D aC ad base K X RT ls st h z hf
  rw [if_neg h0] at hf
  by_cases h4 : pc = 4
  · subst h4; simp only [if_true, if_false, reduceIte, ↓reduceIte] at hf; exact sb_2_weighChecks_4 l p e s m args below meth c Q D aC ad base K X RT ls st h z hf
  rw [if_neg h4] at hf
  exact hf.elim
abbrev cb_2_wrongSymbols : ByteArray := prog_4_method_8_code
abbrev yy_2_wrongSymbols : MethodName := ⟨"SwipedStripe$Finding", "wrongSymbols", "()I"⟩
def bb_2_wrongSymbols_0 (K : jw_K) (J : Nat → jw_S) : jw_S := xo_al 0 (xo_gf 2 1 (xo_cv 4 cc_4_size 1 (xo_al 0 (xo_gf 2 1 (xo_cv 4 cc_4_sum 1 (xo_isub (xo_ri 0 0 K)))))))
def qq_2_wrongSymbols (K : jw_K) (pc : Nat) (J : Nat → jw_S) : jw_S := if pc = 0 then bb_2_wrongSymbols_0 K J else fun _ _ _ _ => False
def cc_2_wrongSymbols : jw_T := jw_C 1 qq_2_wrongSymbols
theorem sb_2_wrongSymbols_0 (l : Launch) : jo_Ok l cb_2_wrongSymbols 1 "SwipedStripe$Finding" "wrongSymbols" jw_ro { frames := 1, cells := 0, slots := 0, locals := 22 } (some .int) 0 0 bb_2_wrongSymbols_0 0 := (jo_aln (i := 0) (j := 0) (by decide +kernel) rfl (jo_gf (j := 1) jw_F2 (by decide) kw_161 (by decide +kernel) (jo_cv (n := 0) (ss_4_size l) kw_301 kw_3 kw_703 kw_299 jw_F4 kw_300 ⟨by decide, by decide, by decide +kernel⟩ ⟨by decide, by decide⟩ (fun _ _ h => h) ⟨rfl, rfl⟩ (by decide +kernel) (jo_aln (i := 0) (j := 0) (by decide +kernel) rfl (jo_gf (j := 1) jw_F2 (by decide) kw_161 (by decide +kernel) (jo_cv (n := 0) (ss_4_sum l) kw_556 kw_3 kw_727 kw_554 jw_F4 kw_555 ⟨by decide, by decide, by decide +kernel⟩ ⟨by decide, by decide⟩ (fun _ _ h => h) ⟨rfl, rfl⟩ (by decide +kernel) (jo_isub (by decide +kernel) (jo_ri rfl (by decide +kernel)))))))))
theorem ss_2_wrongSymbols (l : Launch) : jw_Met l yy_2_wrongSymbols cb_2_wrongSymbols 1 (some .int) { frames := 1, cells := 0, slots := 0, locals := 22 } cc_2_wrongSymbols := by
  refine jw_met (by decide) (fun pc => ?_)
  intro p e s m args below meth c Q D aC ad base K X RT ls st h z hf
  unfold qq_2_wrongSymbols at hf
  by_cases h0 : pc = 0
  · subst h0; simp only [if_true, if_false, reduceIte, ↓reduceIte] at hf; exact sb_2_wrongSymbols_0 l p e s m args below meth c Q D aC ad base K X RT ls st h z hf
  rw [if_neg h0] at hf
  exact hf.elim
abbrev cb_3_bits : ByteArray := prog_5_method_2_code
abbrev yy_3_bits : MethodName := ⟨"SwipedStripe$Reading", "bits", "()LSwipedStripe$Row;"⟩
def bb_3_bits_0 (K : jw_K) (J : Nat → jw_S) : jw_S := xo_al 0 (xo_gf 3 0 (xo_ra 0 0 K))
def qq_3_bits (K : jw_K) (pc : Nat) (J : Nat → jw_S) : jw_S := if pc = 0 then bb_3_bits_0 K J else fun _ _ _ _ => False
def cc_3_bits : jw_T := jw_C 1 qq_3_bits
theorem sb_3_bits_0 (l : Launch) : jo_Ok l cb_3_bits 1 "SwipedStripe$Reading" "bits" jw_ro { frames := 0, cells := 0, slots := 0, locals := 0 } (some (.object "SwipedStripe$Row")) 0 0 bb_3_bits_0 0 := (jo_aln (i := 0) (j := 0) (by decide +kernel) rfl (jo_gf (j := 0) jw_F3 (by decide) kw_130 (by decide +kernel) (jo_ra ⟨_, rfl⟩ (by decide +kernel))))
theorem ss_3_bits (l : Launch) : jw_Met l yy_3_bits cb_3_bits 1 (some (.object "SwipedStripe$Row")) { frames := 0, cells := 0, slots := 0, locals := 0 } cc_3_bits := by
  refine jw_met (by decide) (fun pc => ?_)
  intro p e s m args below meth c Q D aC ad base K X RT ls st h z hf
  unfold qq_3_bits at hf
  by_cases h0 : pc = 0
  · subst h0; simp only [if_true, if_false, reduceIte, ↓reduceIte] at hf; exact sb_3_bits_0 l p e s m args below meth c Q D aC ad base K X RT ls st h z hf
  rw [if_neg h0] at hf
  exact hf.elim
abbrev cb_3_fails : ByteArray := prog_5_method_3_code
abbrev yy_3_fails : MethodName := ⟨"SwipedStripe$Reading", "fails", "()I"⟩
def bb_3_fails_0 (K : jw_K) (J : Nat → jw_S) : jw_S := xo_al 0 (xo_gf 3 3 (xo_ri 0 0 K))
def qq_3_fails (K : jw_K) (pc : Nat) (J : Nat → jw_S) : jw_S := if pc = 0 then bb_3_fails_0 K J else fun _ _ _ _ => False
def cc_3_fails : jw_T := jw_C 1 qq_3_fails
theorem sb_3_fails_0 (l : Launch) : jo_Ok l cb_3_fails 1 "SwipedStripe$Reading" "fails" jw_ro { frames := 0, cells := 0, slots := 0, locals := 0 } (some .int) 0 0 bb_3_fails_0 0 := (jo_aln (i := 0) (j := 0) (by decide +kernel) rfl (jo_gf (j := 3) jw_F3 (by decide) kw_133 (by decide +kernel) (jo_ri rfl (by decide +kernel))))
theorem ss_3_fails (l : Launch) : jw_Met l yy_3_fails cb_3_fails 1 (some .int) { frames := 0, cells := 0, slots := 0, locals := 0 } cc_3_fails := by
  refine jw_met (by decide) (fun pc => ?_)
  intro p e s m args below meth c Q D aC ad base K X RT ls st h z hf
  unfold qq_3_fails at hf
  by_cases h0 : pc = 0
  · subst h0; simp only [if_true, if_false, reduceIte, ↓reduceIte] at hf; exact sb_3_fails_0 l p e s m args below meth c Q D aC ad base K X RT ls st h z hf
  rw [if_neg h0] at hf
  exact hf.elim
abbrev cb_2_search : ByteArray := prog_4_method_10_code
abbrev yy_2_search : MethodName := ⟨"SwipedStripe$Finding", "search", "(LSwipedStripe$Reading;LSwipedStripe$Rules;)V"⟩
def bb_2_search_173 (K : jw_K) (J : Nat → jw_S) : jw_S := xo_rv 0 0 K
def bb_2_search_170 (K : jw_K) (J : Nat → jw_S) : jw_S := xo_pfi 2 2 (bb_2_search_173 K J)
def bb_2_search_169 (K : jw_K) (J : Nat → jw_S) : jw_S := xo_ci 4 (bb_2_search_170 K J)
def bb_2_search_155 (K : jw_K) (J : Nat → jw_S) : jw_S := xo_al 0 (xo_al 0 (xo_gf 2 3 (xo_ci (-4) (xo_cne (bb_2_search_169 K J) (xo_ci 3 (bb_2_search_170 K J))))))
def bb_2_search_137 (K : jw_K) (J : Nat → jw_S) : jw_S := xo_al 1 (xo_cv 3 cc_3_fails 1 (xo_zeq (bb_2_search_155 K J) (xo_al 0 (xo_al 1 (xo_cv 3 cc_3_fails 1 (xo_pfi 2 2 (bb_2_search_173 K J)))))))
def bb_2_search_131 (K : jw_K) (J : Nat → jw_S) : jw_S := xo_pfi 2 2 (bb_2_search_173 K J)
def bb_2_search_130 (K : jw_K) (J : Nat → jw_S) : jw_S := xo_ci 0 (bb_2_search_131 K J)
def bb_2_search_118 (K : jw_K) (J : Nat → jw_S) : jw_S := xo_al 0 (xo_gf 2 8 (xo_zeq (bb_2_search_130 K J) (xo_ci 6 (bb_2_search_131 K J))))
def bb_2_search_92 (K : jw_K) (J : Nat → jw_S) : jw_S := xo_al 1 (xo_cv 3 cc_3_bits 1 (xo_cv 2 cc_2_takeSymbols 3 (xo_zeq (bb_2_search_137 K J) (xo_al 0 (xo_cv 2 cc_2_weighChecks 1 (xo_al 0 (xo_al 0 (xo_cv 2 cc_2_wrongSymbols 1 (xo_zle (bb_2_search_118 K J) (xo_ci 5 (bb_2_search_131 K J)))))))))))
def bb_2_search_44 (K : jw_K) (J : Nat → jw_S) : jw_S := xo_al 0 (xo_al 2 (xo_cv 5 cc_5_isChecked 1 (xo_pfz 2 7 (xo_al 0 (xo_al 0 (xo_al 2 (xo_al 2 (xo_ci 2 (xo_cv 5 cc_5_of 2 (xo_cv 5 cc_5_coded 2 (xo_al 1 (xo_cv 3 cc_3_bits 1 (xo_cv 2 cc_2_placeOf 3 (xo_pfi 2 3 (xo_al 0 (xo_gf 2 3 (xo_ci (-4) (xo_ceq (bb_2_search_137 K J) (xo_al 0 (xo_al 2 (xo_al 2 (xo_ci 3 (xo_cv 5 cc_5_of 2 (xo_cv 5 cc_5_coded 2 (bb_2_search_92 K J)))))))))))))))))))))))))
def bb_2_search_0 (K : jw_K) (J : Nat → jw_S) : jw_S := xo_al 0 (xo_gf 2 0 (xo_ci 0 (xo_cv 4 cc_4_cut 2 (xo_al 0 (xo_gf 2 1 (xo_ci 0 (xo_cv 4 cc_4_cut 2 (xo_al 0 (xo_ci 0 (xo_pfi 2 4 (xo_al 0 (xo_ci 0 (xo_pfi 2 8 (xo_al 0 (xo_al 2 (xo_ci 0 (xo_cv 5 cc_5_of 2 (xo_pfi 2 5 (xo_al 0 (xo_al 2 (xo_ci 1 (xo_cv 5 cc_5_of 2 (xo_pfi 2 6 (bb_2_search_44 K J))))))))))))))))))))))))
def qq_2_search (K : jw_K) (pc : Nat) (J : Nat → jw_S) : jw_S := if pc = 0 then bb_2_search_0 K J else fun _ _ _ _ => False
def cc_2_search : jw_T := jw_C 3 qq_2_search
theorem sb_2_search_173 (l : Launch) : jo_Ok l cb_2_search 3 "SwipedStripe$Finding" "search" jw_ro { frames := 3, cells := 0, slots := 0, locals := 71 } none 0 0 bb_2_search_173 173 := (jo_rv rfl (by decide +kernel))
theorem sb_2_search_170 (l : Launch) : jo_Ok l cb_2_search 3 "SwipedStripe$Finding" "search" jw_ro { frames := 3, cells := 0, slots := 0, locals := 71 } none 0 0 bb_2_search_170 170 := (jo_pfi (j := 2) jw_F2 (by decide) kw_162 rfl rfl (by decide +kernel) (sb_2_search_173 l))
theorem sb_2_search_169 (l : Launch) : jo_Ok l cb_2_search 3 "SwipedStripe$Finding" "search" jw_ro { frames := 3, cells := 0, slots := 0, locals := 71 } none 0 0 bb_2_search_169 169 := (jo_ici (n := 4) (by decide +kernel) (by decide) (sb_2_search_170 l))
theorem sb_2_search_155 (l : Launch) : jo_Ok l cb_2_search 3 "SwipedStripe$Finding" "search" jw_ro { frames := 3, cells := 0, slots := 0, locals := 71 } none 0 0 bb_2_search_155 155 := (jo_aln (i := 0) (j := 0) (by decide +kernel) rfl (jo_aln (i := 0) (j := 0) (by decide +kernel) rfl (jo_gf (j := 3) jw_F2 (by decide) kw_163 (by decide +kernel) (jo_bpi (n := -4) (by decide +kernel) (by decide) (jo_cne (off := 7) (tgt := 169) (by decide +kernel) (by decide) (sb_2_search_169 l) (jo_ici (n := 3) (by decide +kernel) (by decide) (jo_goto (off := 4) (tgt := 170) (by decide +kernel) (by decide) (sb_2_search_170 l))))))))
theorem sb_2_search_137 (l : Launch) : jo_Ok l cb_2_search 3 "SwipedStripe$Finding" "search" jw_ro { frames := 3, cells := 0, slots := 0, locals := 71 } none 0 0 bb_2_search_137 137 := (jo_aln (i := 1) (j := 1) (by decide +kernel) rfl (jo_cv (n := 0) (ss_3_fails l) kw_669 kw_7 kw_728 kw_667 jw_F3 kw_668 ⟨by decide, by decide, by decide +kernel⟩ ⟨by decide, by decide⟩ (fun _ _ h => h) ⟨rfl, rfl⟩ (by decide +kernel) (jo_zeq (off := 14) (tgt := 155) (by decide +kernel) (by decide) (sb_2_search_155 l) (jo_aln (i := 0) (j := 0) (by decide +kernel) rfl (jo_aln (i := 1) (j := 1) (by decide +kernel) rfl (jo_cv (n := 0) (ss_3_fails l) kw_669 kw_7 kw_728 kw_667 jw_F3 kw_668 ⟨by decide, by decide, by decide +kernel⟩ ⟨by decide, by decide⟩ (fun _ _ h => h) ⟨rfl, rfl⟩ (by decide +kernel) (jo_pfi (j := 2) jw_F2 (by decide) kw_162 rfl rfl (by decide +kernel) (jo_goto (off := 21) (tgt := 173) (by decide +kernel) (by decide) (sb_2_search_173 l)))))))))
theorem sb_2_search_131 (l : Launch) : jo_Ok l cb_2_search 3 "SwipedStripe$Finding" "search" jw_ro { frames := 3, cells := 0, slots := 0, locals := 71 } none 0 0 bb_2_search_131 131 := (jo_pfi (j := 2) jw_F2 (by decide) kw_162 rfl rfl (by decide +kernel) (jo_goto (off := 39) (tgt := 173) (by decide +kernel) (by decide) (sb_2_search_173 l)))
theorem sb_2_search_130 (l : Launch) : jo_Ok l cb_2_search 3 "SwipedStripe$Finding" "search" jw_ro { frames := 3, cells := 0, slots := 0, locals := 71 } none 0 0 bb_2_search_130 130 := (jo_ici (n := 0) (by decide +kernel) (by decide) (sb_2_search_131 l))
theorem sb_2_search_118 (l : Launch) : jo_Ok l cb_2_search 3 "SwipedStripe$Finding" "search" jw_ro { frames := 3, cells := 0, slots := 0, locals := 71 } none 0 0 bb_2_search_118 118 := (jo_aln (i := 0) (j := 0) (by decide +kernel) rfl (jo_gf (j := 8) jw_F2 (by decide) kw_168 (by decide +kernel) (jo_zeq (off := 8) (tgt := 130) (by decide +kernel) (by decide) (sb_2_search_130 l) (jo_bpi (n := 6) (by decide +kernel) (by decide) (jo_goto (off := 4) (tgt := 131) (by decide +kernel) (by decide) (sb_2_search_131 l))))))
theorem sb_2_search_92 (l : Launch) : jo_Ok l cb_2_search 3 "SwipedStripe$Finding" "search" jw_ro { frames := 3, cells := 0, slots := 0, locals := 71 } none 0 0 bb_2_search_92 92 := (jo_aln (i := 1) (j := 1) (by decide +kernel) rfl (jo_cv (n := 0) (ss_3_bits l) kw_665 kw_7 kw_698 kw_663 jw_F3 kw_664 ⟨by decide, by decide, by decide +kernel⟩ ⟨by decide, by decide⟩ (fun _ _ h => h) ⟨rfl, rfl⟩ (by decide +kernel) (jo_cv (n := 2) (ss_2_takeSymbols l) kw_712 kw_8 kw_709 kw_711 jw_F2 kp_19 ⟨by decide, by decide, by decide +kernel⟩ ⟨by decide, by decide⟩ (fun _ _ h => h) ⟨rfl, rfl⟩ (by decide +kernel) (jo_zeq (off := 38) (tgt := 137) (by decide +kernel) (by decide) (sb_2_search_137 l) (jo_aln (i := 0) (j := 0) (by decide +kernel) rfl (jo_cv (n := 0) (ss_2_weighChecks l) kw_722 kw_8 kw_719 kw_721 jw_F2 kp_21 ⟨by decide, by decide, by decide +kernel⟩ ⟨by decide, by decide⟩ (fun _ _ h => h) ⟨rfl, rfl⟩ (by decide +kernel) (jo_aln (i := 0) (j := 0) (by decide +kernel) rfl (jo_aln (i := 0) (j := 0) (by decide +kernel) rfl (jo_cv (n := 0) (ss_2_wrongSymbols l) kw_726 kw_8 kw_723 kw_724 jw_F2 kw_725 ⟨by decide, by decide, by decide +kernel⟩ ⟨by decide, by decide⟩ (fun _ _ h => h) ⟨rfl, rfl⟩ (by decide +kernel) (jo_zle (off := 7) (tgt := 118) (by decide +kernel) (by decide) (sb_2_search_118 l) (jo_ici (n := 5) (by decide +kernel) (by decide) (jo_goto (off := 16) (tgt := 131) (by decide +kernel) (by decide) (sb_2_search_131 l)))))))))))))
theorem sb_2_search_44 (l : Launch) : jo_Ok l cb_2_search 3 "SwipedStripe$Finding" "search" jw_ro { frames := 3, cells := 0, slots := 0, locals := 71 } none 0 0 bb_2_search_44 44 := (jo_aln (i := 0) (j := 0) (by decide +kernel) rfl (jo_aln (i := 2) (j := 2) (by decide +kernel) rfl (jo_cv (n := 0) (ss_5_isChecked l) kw_548 kw_2 kw_696 kw_546 jw_F5 kw_547 ⟨by decide, by decide, by decide +kernel⟩ ⟨by decide, by decide⟩ (fun _ _ h => h) ⟨rfl, rfl⟩ (by decide +kernel) (jo_pfz (j := 7) jw_F2 (by decide) kw_167 rfl rfl (by decide +kernel) (jo_aln (i := 0) (j := 0) (by decide +kernel) rfl (jo_aln (i := 0) (j := 0) (by decide +kernel) rfl (jo_aln (i := 2) (j := 2) (by decide +kernel) rfl (jo_aln (i := 2) (j := 2) (by decide +kernel) rfl (jo_ici (n := 2) (by decide +kernel) (by decide) (jo_cv (n := 1) (ss_5_of l) kw_457 kw_2 kw_695 kw_455 jw_F5 kw_456 ⟨by decide, by decide, by decide +kernel⟩ ⟨by decide, by decide⟩ (fun _ _ h => h) ⟨rfl, rfl⟩ (by decide +kernel) (jo_cv (n := 1) (ss_5_coded l) kw_536 kw_2 kw_697 kw_534 jw_F5 kw_535 ⟨by decide, by decide, by decide +kernel⟩ ⟨by decide, by decide⟩ (fun _ _ h => h) ⟨rfl, rfl⟩ (by decide +kernel) (jo_aln (i := 1) (j := 1) (by decide +kernel) rfl (jo_cv (n := 0) (ss_3_bits l) kw_665 kw_7 kw_698 kw_663 jw_F3 kw_664 ⟨by decide, by decide, by decide +kernel⟩ ⟨by decide, by decide⟩ (fun _ _ h => h) ⟨rfl, rfl⟩ (by decide +kernel) (jo_cv (n := 2) (ss_2_placeOf l) kw_702 kw_8 kw_699 kw_701 jw_F2 kp_17 ⟨by decide, by decide, by decide +kernel⟩ ⟨by decide, by decide⟩ (fun _ _ h => h) ⟨rfl, rfl⟩ (by decide +kernel) (jo_pfi (j := 3) jw_F2 (by decide) kw_163 rfl rfl (by decide +kernel) (jo_aln (i := 0) (j := 0) (by decide +kernel) rfl (jo_gf (j := 3) jw_F2 (by decide) kw_163 (by decide +kernel) (jo_bpi (n := -4) (by decide +kernel) (by decide) (jo_ceq (off := 58) (tgt := 137) (by decide +kernel) (by decide) (sb_2_search_137 l) (jo_aln (i := 0) (j := 0) (by decide +kernel) rfl (jo_aln (i := 2) (j := 2) (by decide +kernel) rfl (jo_aln (i := 2) (j := 2) (by decide +kernel) rfl (jo_ici (n := 3) (by decide +kernel) (by decide) (jo_cv (n := 1) (ss_5_of l) kw_457 kw_2 kw_695 kw_455 jw_F5 kw_456 ⟨by decide, by decide, by decide +kernel⟩ ⟨by decide, by decide⟩ (fun _ _ h => h) ⟨rfl, rfl⟩ (by decide +kernel) (jo_cv (n := 1) (ss_5_coded l) kw_536 kw_2 kw_697 kw_534 jw_F5 kw_535 ⟨by decide, by decide, by decide +kernel⟩ ⟨by decide, by decide⟩ (fun _ _ h => h) ⟨rfl, rfl⟩ (by decide +kernel) (sb_2_search_92 l))))))))))))))))))))))))))
theorem sb_2_search_0 (l : Launch) : jo_Ok l cb_2_search 3 "SwipedStripe$Finding" "search" jw_ro { frames := 3, cells := 0, slots := 0, locals := 71 } none 0 0 bb_2_search_0 0 := (jo_aln (i := 0) (j := 0) (by decide +kernel) rfl (jo_gf (j := 0) jw_F2 (by decide) kw_160 (by decide +kernel) (jo_ici (n := 0) (by decide +kernel) (by decide) (jo_cv (n := 1) (ss_4_cut l) kw_313 kw_3 kw_694 kw_311 jw_F4 kw_312 ⟨by decide, by decide, by decide +kernel⟩ ⟨by decide, by decide⟩ (fun _ _ h => h) ⟨rfl, rfl⟩ (by decide +kernel) (jo_aln (i := 0) (j := 0) (by decide +kernel) rfl (jo_gf (j := 1) jw_F2 (by decide) kw_161 (by decide +kernel) (jo_ici (n := 0) (by decide +kernel) (by decide) (jo_cv (n := 1) (ss_4_cut l) kw_313 kw_3 kw_694 kw_311 jw_F4 kw_312 ⟨by decide, by decide, by decide +kernel⟩ ⟨by decide, by decide⟩ (fun _ _ h => h) ⟨rfl, rfl⟩ (by decide +kernel) (jo_aln (i := 0) (j := 0) (by decide +kernel) rfl (jo_ici (n := 0) (by decide +kernel) (by decide) (jo_pfi (j := 4) jw_F2 (by decide) kw_164 rfl rfl (by decide +kernel) (jo_aln (i := 0) (j := 0) (by decide +kernel) rfl (jo_ici (n := 0) (by decide +kernel) (by decide) (jo_pfi (j := 8) jw_F2 (by decide) kw_168 rfl rfl (by decide +kernel) (jo_aln (i := 0) (j := 0) (by decide +kernel) rfl (jo_aln (i := 2) (j := 2) (by decide +kernel) rfl (jo_ici (n := 0) (by decide +kernel) (by decide) (jo_cv (n := 1) (ss_5_of l) kw_457 kw_2 kw_695 kw_455 jw_F5 kw_456 ⟨by decide, by decide, by decide +kernel⟩ ⟨by decide, by decide⟩ (fun _ _ h => h) ⟨rfl, rfl⟩ (by decide +kernel) (jo_pfi (j := 5) jw_F2 (by decide) kw_165 rfl rfl (by decide +kernel) (jo_aln (i := 0) (j := 0) (by decide +kernel) rfl (jo_aln (i := 2) (j := 2) (by decide +kernel) rfl (jo_ici (n := 1) (by decide +kernel) (by decide) (jo_cv (n := 1) (ss_5_of l) kw_457 kw_2 kw_695 kw_455 jw_F5 kw_456 ⟨by decide, by decide, by decide +kernel⟩ ⟨by decide, by decide⟩ (fun _ _ h => h) ⟨rfl, rfl⟩ (by decide +kernel) (jo_pfi (j := 6) jw_F2 (by decide) kw_166 rfl rfl (by decide +kernel) (sb_2_search_44 l)))))))))))))))))))))))))
theorem ss_2_search (l : Launch) : jw_Met l yy_2_search cb_2_search 3 none { frames := 3, cells := 0, slots := 0, locals := 71 } cc_2_search := by
  refine jw_met (by decide) (fun pc => ?_)
  intro p e s m args below meth c Q D aC ad base K X RT ls st h z hf
  unfold qq_2_search at hf
  by_cases h0 : pc = 0
  · subst h0; simp only [if_true, if_false, reduceIte, ↓reduceIte] at hf; exact sb_2_search_0 l p e s m args below meth c Q D aC ad base K X RT ls st h z hf
  rw [if_neg h0] at hf
  exact hf.elim
