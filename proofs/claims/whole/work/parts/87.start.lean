/-! both are made: what they hold then -/
def zz_ (I : Nat → Nat → Int32) (J : Nat → Nat → Int64) : List hs_T → Nat → jw_H
  | [], _ => []
  | s :: l, k => s (I k) (J k) :: zz_ I J l (k + 1)
theorem zz_m (I : Nat → Nat → Int32) (J : Nat → Nat → Int64) : ∀ (l : List hs_T) (k : Nat), l.mapIdx (fun i s => s (I (k + i)) (J (k + i))) = zz_ I J l k
  | [], _ => by simp [zz_]
  | s :: l, k => by
    rw [List.mapIdx_cons, zz_, ← zz_m I J l (k + 1)]
    simp only [Nat.add_zero]
    congr 2
    funext i s
    rw [show k + (i + 1) = k + 1 + i by omega]
theorem hp_zz (I : Nat → Nat → Int32) (J : Nat → Nat → Int64) : hp_ I J = zz_ I J hs_L 0 := by
  rw [← zz_m I J hs_L 0]
  unfold hp_
  simp only [Nat.zero_add]
def i0_ (q : Nat) : Nat → Int32 := if q = 2 then r9_ 9 else if q = 9 then r9_ 9 else if q = 12 then (fun j => if j = 1 then -4 else 0) else if q = 17 then (fun j => if j = 4 then -4 else 0) else if q = 24 then (fun j => if j = 3 then -4 else 0) else if q = 57 ∨ q = 60 ∨ q = 63 ∨ q = 66 then (fun j => if j = 1 then -1 else 0) else if q = 70 then fa_100 else if q = 71 then fa_101 else if q = 72 then fa_102 else if q = 73 then fa_103 else if q = 74 then fa_104 else if q = 75 then fa_105 else if q = 76 then fa_106 else if q = 77 then fa_107 else if q = 78 then fa_108 else if q = 79 then fa_109 else if q = 80 then fa_110 else if q = 81 then fa_111 else if q = 82 then fa_112 else if q = 83 then fa_113 else if q = 84 then fa_114 else if q = 85 then fa_115 else if q = 86 then fa_116 else if q = 87 then fa_117 else if q = 88 then fa_118 else if q = 89 then fa_119 else if q = 90 then fa_120 else if q = 91 then fa_121 else fun _ => 0
def j0_ (q j : Nat) : Int64 := 0
def x0_ : jw_H := mo_ 0 :: (mR_ 0 ++ .inl (3, 4, .inr (.inr (.inr (.inr (dg2_ (0 + 57) 4))))) :: se_ (0 + 57) 4)
theorem x0_l : x0_.length = 69 := rfl
set_option maxRecDepth 100000 in
set_option maxHeartbeats 20000000 in
theorem h0_ : x0_ ++ m11_ 69 :: ra_22 = hp_ i0_ j0_ := by
  rw [hp_zz]
  rfl
theorem i0_c : ic_ i0_ [] 0 r0_ [] [] [] (fun _ => none) 0 := by
  have e : ∀ r, i0_ r 1 = nI 0 → rn_ i0_ r [] := fun r h => ⟨h, fun i hi => by simp at hi⟩
  have r0e : ∀ j, j < 9 → r9_ 9 j = nI (r0_ j) := by decide +kernel
  have dz : ∀ k, k < 6 → i0_ (39 + 3 * k) 1 = nI 0 ∧ i0_ (38 + 3 * k) 1 = nI 0 := by decide +kernel
  have sz : ∀ k, k < 4 → i0_ (57 + 3 * k) 1 = -1 ∧ i0_ (58 + 3 * k) 1 = nI 0 := by decide +kernel
  refine ⟨⟨e 3 rfl, rfl, fun j hj => r0e j hj, e 10 rfl, e 15 rfl, ⟨rfl, by simp, fun k hk => ⟨[], ⟨e _ (dz k hk).1, by simp, (dz k hk).2, fun x hx => by simp at hx⟩, fun d2 h => by simp at h⟩⟩, fun k hk => ⟨(sz k hk).1, ⟨(sz k hk).2, fun i hi => by simp [shc_] at hi⟩, by simp [shc_], fun q hq => by cases hq⟩, rfl⟩, ⟨[], e 13 rfl, by simp⟩, ⟨[], [], [], 0, -4, ⟨e 18 rfl, e 20 rfl, e 22 rfl, rfl, rfl⟩, by simp, by simp, by simp⟩, ⟨[], [], e 25 rfl, by simp, e 27 rfl, by simp⟩, ⟨[], e 30 rfl, by simp⟩⟩
theorem i0_m : im_ i0_ [] 0 r0_ [] [] [] (fun _ => none) 0 := by
  have e : ∀ a c, i0_ 69 c = nI 0 → mn_ i0_ a c [] := fun a c h => ⟨h, fun i hi => by simp at hi⟩
  have k1 : ∀ j, j < 12 → fa_101 j = nI (cu_.getD j 0) := by decide +kernel
  have k2 : ∀ j, j < 51 → fa_102 j = nI (lr_.getD j 0) := by decide +kernel
  have k3 : ∀ j, j < 9 → fa_103 j = nI (r0_ j) := by decide +kernel
  have k4 : ∀ j, j < 9 → fa_104 j = nI (lt_.getD j 0) := by decide +kernel
  have k5 : ∀ j, j < 9 → fa_105 j = nI (mm2_.getD j 0) := by decide +kernel
  have k6 : ∀ j, j < 9 → fa_106 j = nI (r0_ j) := by decide +kernel
  have k7 : ∀ j, j < 4 → fa_119 j = -4 := by decide +kernel
  exact ⟨e 70 1 rfl, rfl, fun j hj => k6 j hj, e 78 18 rfl, e 80 22 rfl, ⟨rfl, by simp, fun k d h => by simp at h⟩, fun k hk => k7 k hk, rfl, k1, k2, k3, k4, k5⟩
theorem v0_ : vs_ [] r0_ [] [] := ⟨⟨by simp, fun b hb => by simp at hb⟩, ⟨r0_b, by unfold ok_; decide⟩, ⟨by simp, fun v hv => by simp at hv⟩, ⟨by simp, fun g hg => by simp at hg⟩⟩
/-! what holds of what is held stays -/
section VS
variable {tp : List Nat} {u : Nat → Nat} {wr gp : List Nat}
theorem vs_feed (h : vs_ tp u wr gp) (v : Int64) : vs_ (fe_ tp v).2 u wr gp := by
  refine ⟨?_, h.2⟩
  unfold fe_
  split
  · exact h.1
  · refine ⟨by simp only [List.length_append, fb_l]; omega, fun b hb => ?_⟩
    rcases List.mem_append.mp hb with q | q
    · exact h.1.2 b q
    · exact fb_b v 8 b q
theorem vs_end (h : vs_ tp u wr gp) (n : Int32) : vs_ (en_ tp n).2 u wr gp := by
  refine ⟨?_, h.2⟩
  unfold en_
  split
  · exact h.1
  · exact ⟨by have := h.1.1; simp only [List.length_take]; omega, fun b hb => h.1.2 b (List.mem_of_mem_take hb)⟩
theorem vs_text (h : vs_ tp u wr gp) (ds : List (List (Nat × Nat))) : vs_ [] (txt_ tp u wr gp ds).2.2.1 (txt_ tp u wr gp ds).2.2.2.1 (txt_ tp u wr gp ds).2.2.2.2.1 := by
  refine ⟨v0_.1, ?_⟩
  have hte := te_in h.1.2
  unfold txt_
  cases ht : te_ tp with
  | inl e => exact h.2
  | inr x =>
    have := hte.2 x ht
    exact ⟨⟨this.1, this.2.1⟩, ⟨by simp, fun v hv => by simp at hv⟩, v0_.2.2.2⟩
theorem vs_add (h : vs_ tp u wr gp) (v : Int32) : vs_ tp u (ad_ u wr v).2 gp := by
  refine ⟨h.1, h.2.1, ?_, h.2.2.2⟩
  unfold ad_
  split
  · exact h.2.2.1
  · rename_i k hk
    split
    · exact h.2.2.1
    · split
      · exact h.2.2.1
      · rename_i q
        have hk2 := (ix_s hk).2
        refine ⟨by have := h.2.2.1.1; simp only [List.length_append, List.length_singleton]; omega, fun v hv => ?_⟩
        rcases List.mem_append.mp hv with q | q
        · exact h.2.2.1.2 v q
        · rw [List.mem_singleton] at q; subst q; exact hk2
theorem vs_clear (h : vs_ tp u wr gp) : vs_ tp u [] gp := ⟨h.1, h.2.1, ⟨by simp, fun v hv => by simp at hv⟩, h.2.2.2⟩
theorem vs_wipe (h : vs_ tp u wr gp) : vs_ tp u wr [] := ⟨h.1, h.2.1, h.2.2.1, v0_.2.2.2⟩
theorem vs_write (h : vs_ tp u wr gp) (unit change j seed : Int32) : vs_ tp u wr (wt_ u wr gp unit change j seed).2 := by
  refine ⟨h.1, h.2.1, h.2.2.1, ?_⟩
  unfold wt_
  split
  · exact h.2.2.2
  · rename_i q
    split
    · exact h.2.2.2
    · rename_i q2
      refine ⟨by rw [lo_len _ _ _ _ _ _ st_01]; omega, fun g hg => ?_⟩
      have hj : j.toNatClampNeg ≤ 99 := by
        rcases bz_01 0 99 j with c | c
        · exact absurd (Or.inr (Or.inr c)) q
        · obtain ⟨k, -, hk, rfl⟩ := bz_nI (a := 0) (n := 99) (by decide) (by decide) c
          rw [nI_clamp (by omega)]; exact hk
      exact lo_in unit change hj _ _ _ g hg
theorem vs_alter (h : vs_ tp u wr gp) (i v : Int32) : vs_ tp u wr (al2_ gp i v).2 := by
  refine ⟨h.1, h.2.1, h.2.2.1, ?_⟩
  unfold al2_
  split
  · exact h.2.2.2
  · split
    · exact h.2.2.2
    · rename_i k hk q
      refine ⟨by simp only [List.length_set]; exact h.2.2.2.1, fun g hg => ?_⟩
      rcases List.mem_or_eq_of_mem_set hg with c | c
      · exact h.2.2.2.2 g c
      · rcases bz_01 1 9999 v with d | d
        · exact absurd d q
        · obtain ⟨w, hw1, hw2, rfl⟩ := bz_nI (a := 1) (n := 9999) (by decide) (by decide) d
          rw [nI_clamp (by omega)] at c
          omega
theorem gb_g {gp : List Nat} (h : gb_ gp) {k : Nat} (hk : k < gp.length) : 1 ≤ gp.getD k 0 ∧ gp.getD k 0 ≤ 9999 := h _ (gd_mem hk)
theorem vs_miss (h : vs_ tp u wr gp) (i : Int32) : vs_ tp u wr (mi_ gp i).2 := by
  refine ⟨h.1, h.2.1, h.2.2.1, ?_⟩
  unfold mi_
  split
  · exact h.2.2.2
  · rename_i k hk
    have hk2 := (ix_s hk).2
    have a1 := gb_g h.2.2.2.2 (show k < gp.length by omega)
    refine ⟨?_, fun g hg => ?_⟩
    · have := h.2.2.2.1
      simp only [List.length_eraseIdx, List.length_set]; split <;> omega
    · have hg2 := List.mem_of_mem_eraseIdx hg
      rcases List.mem_or_eq_of_mem_set hg2 with c | c
      · exact h.2.2.2.2 g c
      · omega
theorem vs_split (h : vs_ tp u wr gp) (i v : Int32) : vs_ tp u wr (sp2_ gp i v).2 := by
  refine ⟨h.1, h.2.1, h.2.2.1, ?_⟩
  unfold sp2_
  split
  · exact h.2.2.2
  · rename_i k hk
    have hk2 := (ix_s hk).2
    have a1 := gb_g h.2.2.2.2 hk2
    split
    · exact h.2.2.2
    · rename_i w hw
      have hw2 := (ix_s hw).2
      split
      · exact h.2.2.2
      · split
        · exact h.2.2.2
        · rename_i q1 q2
          refine ⟨?_, fun g hg => ?_⟩
          · simp only [List.length_set]
            rw [List.length_insertIdx_of_le_length (by omega)]; omega
          · rcases List.mem_or_eq_of_mem_set hg with c | c
            · rcases (List.mem_insertIdx (by omega)).mp c with d | d
              · omega
              · exact h.2.2.2.2 g d
            · omega
theorem vs_load (h : vs_ tp u wr gp) (sh : Nat → sh_T) (tn k l f n : Int32) : vs_ tp u wr (lod_ sh gp tn k l f n).2.1 := by
  refine ⟨h.1, h.2.1, h.2.2.1, ?_⟩
  have hl := h.2.2.2.1
  unfold lod_
  split
  · rename_i k' l' n' hk hl' hn'
    have key : ∀ (m i c : Nat) (b : Int32), gp.length + i ≤ 320 → ld_ (sh k') l' f gp.length m i = .inr (c, b) → gp.length + c ≤ 320 ∧ i ≤ c ∧ ∀ q, i ≤ q → q < c → bz_ 1 9999 (ra_ (shc_ (sh k')) (f + nI q)) = 1 := by
      intro m
      induction m with
      | zero =>
        intro i c b hi hld
        rw [ld_] at hld
        cases hld
        exact ⟨hi, Nat.le_refl _, fun q a b => by omega⟩
      | succ m ih =>
        intro i c b hi hld
        rw [ld_] at hld
        split at hld
        · split at hld
          · cases hld
          · rename_i q1
            split at hld
            · cases hld
            · rename_i q2
              obtain ⟨e1, e2, e3⟩ := ih (i + 1) c b (by omega) hld
              refine ⟨e1, by omega, fun q a b => ?_⟩
              by_cases e : q = i
              · subst e; exact (bz_01 _ _ _).resolve_left q1
              · exact e3 q (by omega) b
        · cases hld
          exact ⟨hi, Nat.le_refl _, fun q a b => by omega⟩
    cases hld : ld_ (sh k') l' f gp.length n' 0 with
    | inl r => exact h.2.2.2
    | inr x =>
      obtain ⟨e1, -, e3⟩ := key n' 0 x.1 x.2 (by omega) hld
      refine ⟨by simp only [List.length_append, lc_, List.length_map, List.length_range]; exact e1, fun g hg => ?_⟩
      rcases List.mem_append.mp hg with c | c
      · exact h.2.2.2.2 g c
      · unfold lc_ at c
        obtain ⟨q, hq, rfl⟩ := List.mem_map.mp c
        rw [List.mem_range] at hq
        obtain ⟨w, hw1, hw2, hw⟩ := bz_nI (a := 1) (n := 9999) (by decide) (by decide) (e3 q (Nat.zero_le _) hq)
        rw [hw, nI_clamp (by omega)]
        omega
  · exact h.2.2.2
end VS
