def jt_al (Pr : (jw_K → (Nat → jw_S) → jw_S) → Nat → Prop) : List Nat → List (jw_K → (Nat → jw_S) → jw_S) → Prop
  | q :: qs, f :: fs => Pr f q ∧ jt_al Pr qs fs
  | _, _ => True
theorem jt_al_at {Pr : (jw_K → (Nat → jw_S) → jw_S) → Nat → Prop} : ∀ {qs : List Nat} {fs : List (jw_K → (Nat → jw_S) → jw_S)}, jt_al Pr qs fs → ∀ (i q : Nat) (f : jw_K → (Nat → jw_S) → jw_S), qs[i]? = some q → fs[i]? = some f → Pr f q
  | [], _, _, i, q, f, h1, _ => by simp at h1
  | _ :: _, [], _, i, q, f, _, h2 => by simp at h2
  | q0 :: qs, f0 :: fs, h, i, q, f, h1, h2 => by
    cases i with
    | zero => simp only [List.getElem?_cons_zero, Option.some.injEq] at h1 h2; subst h1 h2; exact h.1
    | succ i => simp only [List.getElem?_cons_succ] at h1 h2; exact jt_al_at h.2 i q f h1 h2
set_option maxHeartbeats 8000000 in
set_option maxRecDepth 20000 in
theorem sb_W_law_18 (l : Launch) (L : Nat) (xs : Nat → Int32) : jo_Ok l cb_W_law 4 "SwipedStripeLaw" "law" (jw_roL L xs) room_1 (some .boolean) 600000 7302250 (bb_W_law_18 L xs) 18 := (jo_iln (i := 3) (j := 3) (by decide +kernel) rfl (jo_aln (i := 0) (j := 0) (by decide +kernel) rfl (jo_alen (by decide +kernel) (jo_ici (n := 5) (by decide +kernel) (by decide) (jo_isub (by decide +kernel) (jo_cgt (off := 1073) (tgt := 1096) (by decide +kernel) (by decide) (sb_W_law_1096 l L xs) (jo_aln (i := 0) (j := 0) (by decide +kernel) rfl (jo_iln (i := 3) (j := 3) (by decide +kernel) rfl (jo_iald (by decide +kernel) (jo_bpi (n := 63) (by decide +kernel) (by decide) (jo_iand (by decide +kernel) (jo_ts (dflt := 1058) (offs := #[160, 213, 236, 249, 262, 285, 308, 321, 344, 367, 390, 443, 466, 499, 522, 555, 568, 601, 624, 647, 670, 693, 706, 729, 752, 785, 798, 811, 834, 857, 870, 913, 956, 1009, 1022, 1035]) (len := 160) (tg := [192, 245, 268, 281, 294, 317, 340, 353, 376, 399, 422, 475, 498, 531, 554, 587, 600, 633, 656, 679, 702, 725, 738, 761, 784, 817, 830, 843, 866, 889, 902, 945, 988, 1041, 1054, 1067]) (dt := 1090) (by decide +kernel) (by decide) (by decide +kernel) rfl rfl (sb_W_law_1090 l L xs) (jt_al_at ⟨sb_W_law_192 l L xs, sb_W_law_245 l L xs, sb_W_law_268 l L xs, sb_W_law_281 l L xs, sb_W_law_294 l L xs, sb_W_law_317 l L xs, sb_W_law_340 l L xs, sb_W_law_353 l L xs, sb_W_law_376 l L xs, sb_W_law_399 l L xs, sb_W_law_422 l L xs, sb_W_law_475 l L xs, sb_W_law_498 l L xs, sb_W_law_531 l L xs, sb_W_law_554 l L xs, sb_W_law_587 l L xs, sb_W_law_600 l L xs, sb_W_law_633 l L xs, sb_W_law_656 l L xs, sb_W_law_679 l L xs, sb_W_law_702 l L xs, sb_W_law_725 l L xs, sb_W_law_738 l L xs, sb_W_law_761 l L xs, sb_W_law_784 l L xs, sb_W_law_817 l L xs, sb_W_law_830 l L xs, sb_W_law_843 l L xs, sb_W_law_866 l L xs, sb_W_law_889 l L xs, sb_W_law_902 l L xs, sb_W_law_945 l L xs, sb_W_law_988 l L xs, sb_W_law_1041 l L xs, sb_W_law_1054 l L xs, sb_W_law_1067 l L xs, trivial⟩)))))))))))))
theorem sb_W_law_0 (l : Launch) (L : Nat) (xs : Nat → Int32) : jo_Ok l cb_W_law 4 "SwipedStripeLaw" "law" (jw_roL L xs) room_1 (some .boolean) 600000 7302250 (bb_W_law_0 L xs) 0 := (jo_new jw_F10 kw_19 kw_20 kw_1 rfl rfl (by decide +kernel) (fun _ => rfl) (by decide +kernel) (jo_dup (by decide +kernel) (jo_ca (n := 0) (idx := 9) (ss_10_init l) kw_23 kw_1 kw_21 kw_22 rfl rfl rfl rfl rfl ⟨by decide, by decide, by decide +kernel⟩ ⟨by decide, by decide⟩ jw_roL_in (by decide +kernel) (jo_asn (i := 1) (j := 1) (by decide +kernel) rfl (by decide) (jo_new jw_F11 kw_1026 kw_1027 kw_13 rfl rfl (by decide +kernel) (fun _ => rfl) (by decide +kernel) (jo_dup (by decide +kernel) (jo_ca (n := 0) (idx := 12) (ss_11_init l) kw_1030 kw_13 kw_1028 kw_1029 rfl rfl rfl rfl rfl ⟨by decide, by decide, by decide +kernel⟩ ⟨by decide, by decide⟩ jw_roL_in (by decide +kernel) (jo_asn (i := 2) (j := 2) (by decide +kernel) rfl (by decide) (jo_ici (n := 0) (by decide +kernel) (by decide) (jo_isn (i := 3) (j := 3) (by decide +kernel) rfl (by decide) jo_J))))))))))
theorem ss_W_law (l : Launch) (L : Nat) (xs : Nat → Int32) (pc : Nat) : jo_Ok l cb_W_law 4 "SwipedStripeLaw" "law" (jw_roL L xs) room_1 (some .boolean) 600000 7302250 (fun K J => qq_W_law L xs K pc J) pc := by
  intro p e s m args below meth c Q D aC ad base K X RT ls st h z hf
  unfold qq_W_law at hf
  by_cases h0 : pc = 0
  · subst h0; simp only [if_true, if_false, reduceIte, ↓reduceIte] at hf; exact sb_W_law_0 l L xs p e s m args below meth c Q D aC ad base K X RT ls st h z hf
  rw [if_neg h0] at hf
  by_cases h18 : pc = 18
  · subst h18; simp only [if_true, if_false, reduceIte, ↓reduceIte] at hf; exact sb_W_law_18 l L xs p e s m args below meth c Q D aC ad base K X RT ls st h z hf
  rw [if_neg h18] at hf
  exact hf.elim
