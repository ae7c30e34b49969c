/-! the cells of the two objects, by their numbers: what is the same for ever, and the numbers in them -/
abbrev hs_T : Type := (Nat → Int32) → (Nat → Int64) → va_E
def hs_L : List hs_T := [
  fun f g => .inr (10, [.ref 1, .ref 3, .ref 5, .ref 10, .ref 12, .ref 15, .ref 17, .ref 24, .ref 29, .ref 36, .ref 56, .int (f 11), .int (f 12)]),
  fun f g => .inr (5, [.ref 2]),
  fun f _ => .inl (0, 9, .inl f),
  fun f g => .inr (4, [.ref 4, .int (f 1)]),
  fun f _ => .inl (0, 160, .inl f),
  fun f g => .inr (9, [.ref 6, .ref 8, .int (f 2), .int (f 3), .int (f 4), .int (f 5), .int (f 6), .int (f 7), .int (f 8), .int (f 9)]),
  fun f g => .inr (4, [.ref 7, .int (f 1)]),
  fun f _ => .inl (0, 160, .inl f),
  fun f g => .inr (5, [.ref 9]),
  fun f _ => .inl (0, 9, .inl f),
  fun f g => .inr (4, [.ref 11, .int (f 1)]),
  fun f _ => .inl (0, 16, .inl f),
  fun f g => .inr (8, [.ref 13, .int (f 1), .int (f 2)]),
  fun f g => .inr (4, [.ref 14, .int (f 1)]),
  fun f _ => .inl (0, 173, .inl f),
  fun f g => .inr (4, [.ref 16, .int (f 1)]),
  fun f _ => .inl (0, 320, .inl f),
  fun f g => .inr (3, [.ref 18, .ref 20, .ref 22, .int (f 3), .int (f 4), .int (f 5), .int (f 6)]),
  fun f g => .inr (4, [.ref 19, .int (f 1)]),
  fun f _ => .inl (0, 320, .inl f),
  fun f g => .inr (4, [.ref 21, .int (f 1)]),
  fun f _ => .inl (0, 320, .inl f),
  fun f g => .inr (4, [.ref 23, .int (f 1)]),
  fun f _ => .inl (0, 320, .inl f),
  fun f g => .inr (2, [.ref 25, .ref 27, .int (f 2), .int (f 3), .int (f 4), .int (f 5), .int (f 6), .int (f 7), .int (f 8)]),
  fun f g => .inr (4, [.ref 26, .int (f 1)]),
  fun f _ => .inl (0, 35, .inl f),
  fun f g => .inr (4, [.ref 28, .int (f 1)]),
  fun f _ => .inl (0, 35, .inl f),
  fun f g => .inr (7, [.ref 30, .ref 32, .ref 34, .int (f 3)]),
  fun f g => .inr (4, [.ref 31, .int (f 1)]),
  fun f _ => .inl (0, 320, .inl f),
  fun f g => .inr (4, [.ref 33, .int (f 1)]),
  fun f _ => .inl (0, 321, .inl f),
  fun f g => .inr (4, [.ref 35, .int (f 1)]),
  fun f _ => .inl (0, 321, .inl f),
  fun f g => .inr (1, [.ref 37, .int (f 1)]),
  fun _ _ => .inl (2, 6, .inr (.inr (.inr (.inr (fun i => if i < 6 then some (38 + 3 * i) else none))))),
  fun f g => .inr (0, [.ref 39, .int (f 1)]),
  fun f g => .inr (4, [.ref 40, .int (f 1)]),
  fun f _ => .inl (0, 32, .inl f),
  fun f g => .inr (0, [.ref 42, .int (f 1)]),
  fun f g => .inr (4, [.ref 43, .int (f 1)]),
  fun f _ => .inl (0, 32, .inl f),
  fun f g => .inr (0, [.ref 45, .int (f 1)]),
  fun f g => .inr (4, [.ref 46, .int (f 1)]),
  fun f _ => .inl (0, 32, .inl f),
  fun f g => .inr (0, [.ref 48, .int (f 1)]),
  fun f g => .inr (4, [.ref 49, .int (f 1)]),
  fun f _ => .inl (0, 32, .inl f),
  fun f g => .inr (0, [.ref 51, .int (f 1)]),
  fun f g => .inr (4, [.ref 52, .int (f 1)]),
  fun f _ => .inl (0, 32, .inl f),
  fun f g => .inr (0, [.ref 54, .int (f 1)]),
  fun f g => .inr (4, [.ref 55, .int (f 1)]),
  fun f _ => .inl (0, 32, .inl f),
  fun _ _ => .inl (3, 4, .inr (.inr (.inr (.inr (fun i => if i < 4 then some (57 + 3 * i) else none))))),
  fun f g => .inr (6, [.ref 58, .int (f 1)]),
  fun f g => .inr (4, [.ref 59, .int (f 1)]),
  fun f _ => .inl (0, 64, .inl f),
  fun f g => .inr (6, [.ref 61, .int (f 1)]),
  fun f g => .inr (4, [.ref 62, .int (f 1)]),
  fun f _ => .inl (0, 64, .inl f),
  fun f g => .inr (6, [.ref 64, .int (f 1)]),
  fun f g => .inr (4, [.ref 65, .int (f 1)]),
  fun f _ => .inl (0, 64, .inl f),
  fun f g => .inr (6, [.ref 67, .int (f 1)]),
  fun f g => .inr (4, [.ref 68, .int (f 1)]),
  fun f _ => .inl (0, 64, .inl f),
  fun f g => .inr (11, [.ref 70, .int (f 1), .int (f 2), .int (f 3), .int (f 4), .int (f 5), .int (f 6), .int (f 7), .int (f 8), .ref 71, .ref 72, .ref 73, .ref 74, .ref 75, .ref 76, .ref 77, .int (f 16), .ref 78, .int (f 18), .ref 79, .int (f 20), .ref 80, .int (f 22), .int (f 23), .ref 81, .int (f 25), .int (f 26), .int (f 27), .long (g 28), .long (g 29), .int (f 30), .int (f 31), .int (f 32), .ref 82, .ref 83, .int (f 35), .int (f 36), .int (f 37), .ref 84, .ref 85, .int (f 40), .int (f 41), .ref 86, .ref 87, .ref 88, .int (f 45), .ref 89, .ref 90, .ref 91, .int (f 49)]),
  fun f _ => .inl (0, 160, .inl f),
  fun f _ => .inl (0, 12, .inl f),
  fun f _ => .inl (0, 51, .inl f),
  fun f _ => .inl (0, 9, .inl f),
  fun f _ => .inl (0, 9, .inl f),
  fun f _ => .inl (0, 9, .inl f),
  fun f _ => .inl (0, 9, .inl f),
  fun f _ => .inl (0, 9, .inl f),
  fun f _ => .inl (0, 16, .inl f),
  fun f _ => .inl (0, 200, .inl f),
  fun f _ => .inl (0, 320, .inl f),
  fun f _ => .inl (0, 320, .inl f),
  fun f _ => .inl (0, 40, .inl f),
  fun f _ => .inl (1, 40, .inl f),
  fun f _ => .inl (0, 966, .inl f),
  fun f _ => .inl (0, 320, .inl f),
  fun f _ => .inl (0, 6, .inl f),
  fun f _ => .inl (0, 192, .inl f),
  fun f _ => .inl (1, 192, .inl f),
  fun f _ => .inl (0, 4, .inl f),
  fun f _ => .inl (0, 4, .inl f),
  fun f _ => .inl (0, 256, .inl f)]
def hp_ (I : Nat → Nat → Int32) (J : Nat → Nat → Int64) : jw_H := hs_L.mapIdx (fun k s => s (I k) (J k))
theorem hp_at {I : Nat → Nat → Int32} {J : Nat → Nat → Int64} {k : Nat} {s : hs_T} (hs : hs_L[k]? = some s) : (hp_ I J)[k]? = some (s (I k) (J k)) := by
  simp [hp_, List.getElem?_mapIdx, hs]
theorem hp_no {I : Nat → Nat → Int32} {J : Nat → Nat → Int64} {k : Nat} (hk : 92 ≤ k) : (hp_ I J)[k]? = none := by
  have h : hs_L.length = 92 := rfl
  simp [hp_, List.getElem?_eq_none_iff, h, hk]
theorem hp_set {I I2 : Nat → Nat → Int32} {J J2 : Nat → Nat → Int64} {a : Nat} {s : hs_T} (hs : hs_L[a]? = some s) (hI : ∀ k, k ≠ a → I2 k = I k) (hJ : ∀ k, k ≠ a → J2 k = J k) : (hp_ I J).set a (s (I2 a) (J2 a)) = hp_ I2 J2 := by
  apply List.ext_getElem?
  intro j
  by_cases hj : a = j
  · subst hj
    rw [List.getElem?_set_self', hp_at hs, hp_at hs]
    rfl
  · rw [List.getElem?_set_ne hj]
    simp only [hp_, List.getElem?_mapIdx, hI j (Ne.symm hj), hJ j (Ne.symm hj)]
/-- a number is written -/
def hw_ (I : Nat → Nat → Int32) (o j : Nat) (v : Int32) : Nat → Nat → Int32 := fun q => if q = o then upd (I o) j v else I q
def hw2_ (J : Nat → Nat → Int64) (o j : Nat) (v : Int64) : Nat → Nat → Int64 := fun q => if q = o then vp_updL (J o) j v else J q
theorem hw_o {I : Nat → Nat → Int32} {o j q : Nat} {v : Int32} (h : q ≠ o) : hw_ I o j v q = I q := if_neg h
theorem hw_s {I : Nat → Nat → Int32} {o j : Nat} {v : Int32} : hw_ I o j v o j = v := by simp [hw_, upd]
theorem hw_i {I : Nat → Nat → Int32} {o j q i : Nat} {v : Int32} (h : i ≠ j) : hw_ I o j v q i = I q i := by
  unfold hw_
  split
  · rename_i e; subst e; simp [upd, h]
  · rfl
theorem hw2_o {J : Nat → Nat → Int64} {o j q : Nat} {v : Int64} (h : q ≠ o) : hw2_ J o j v q = J q := if_neg h
/-- an int field is read and written -/
theorem hp_gf {I : Nat → Nat → Int32} {J : Nat → Nat → Int64} {ci o j : Nat} {s : hs_T} {fs : List Value} {v : Value} (hs : hs_L[o]? = some s) (he : s (I o) (J o) = .inr (ci, fs)) (hv : fs[j]? = some v) : jw_gf (hp_ I J) ci o j = some v := by
  unfold jw_gf
  rw [hp_at hs, he]
  simp [hv]
theorem hp_pf {I : Nat → Nat → Int32} {J : Nat → Nat → Int64} {ci o j : Nat} {s : hs_T} {fs : List Value} {v : Int32} (hs : hs_L[o]? = some s) (he : s (I o) (J o) = .inr (ci, fs)) (hj : j < fs.length) (h2 : s (upd (I o) j v) (J o) = .inr (ci, fs.set j (.int v))) : jw_pf (hp_ I J) ci o j (.int v) = some (hp_ (hw_ I o j v) J) := by
  unfold jw_pf
  rw [hp_at hs, he]
  simp only [true_and, hj, if_true, Option.some.injEq]
  have h3 := hp_set (I := I) (I2 := hw_ I o j v) (J := J) (J2 := J) hs (fun k hk => hw_o hk) (fun _ _ => rfl)
  rw [← h3, ← h2]
  simp [hw_]
theorem hp_pl {I : Nat → Nat → Int32} {J : Nat → Nat → Int64} {ci o j : Nat} {s : hs_T} {fs : List Value} {v : Int64} (hs : hs_L[o]? = some s) (he : s (I o) (J o) = .inr (ci, fs)) (hj : j < fs.length) (h2 : s (I o) (vp_updL (J o) j v) = .inr (ci, fs.set j (.long v))) : jw_pf (hp_ I J) ci o j (.long v) = some (hp_ I (hw2_ J o j v)) := by
  unfold jw_pf
  rw [hp_at hs, he]
  simp only [true_and, hj, if_true, Option.some.injEq]
  have h3 := hp_set (I := I) (I2 := I) (J := J) (J2 := hw2_ J o j v) hs (fun _ _ => rfl) (fun k hk => hw2_o hk)
  rw [← h3, ← h2]
  simp [hw2_]
theorem hp_as {I : Nat → Nat → Int32} {J : Nat → Nat → Int64} {a i n t : Nat} {v : Int32} (hs : hs_L[a]? = some (fun f _ => .inl (t, n, .inl f))) : (hp_ I J).set a (.inl (t, n, .inl (upd (I a) i v))) = hp_ (hw_ I a i v) J := by
  have h3 := hp_set (I := I) (I2 := hw_ I a i v) (J := J) (J2 := J) hs (fun k hk => hw_o hk) (fun _ _ => rfl)
  rw [← h3]
  simp [hw_]
theorem hp_is {I : Nat → Nat → Int32} {J : Nat → Nat → Int64} {ci o : Nat} {s : hs_T} {fs : List Value} (hs : hs_L[o]? = some s) (he : s (I o) (J o) = .inr (ci, fs)) : jw_is (hp_ I J) o ci := ⟨fs, by rw [hp_at hs, he]⟩
theorem hg_0_0 (I : Nat → Nat → Int32) (J : Nat → Nat → Int64) : jw_gf (hp_ I J) 10 0 0 = some (.ref 1) := hp_gf rfl rfl rfl
theorem hg_0_1 (I : Nat → Nat → Int32) (J : Nat → Nat → Int64) : jw_gf (hp_ I J) 10 0 1 = some (.ref 3) := hp_gf rfl rfl rfl
theorem hg_0_2 (I : Nat → Nat → Int32) (J : Nat → Nat → Int64) : jw_gf (hp_ I J) 10 0 2 = some (.ref 5) := hp_gf rfl rfl rfl
theorem hg_0_3 (I : Nat → Nat → Int32) (J : Nat → Nat → Int64) : jw_gf (hp_ I J) 10 0 3 = some (.ref 10) := hp_gf rfl rfl rfl
theorem hg_0_4 (I : Nat → Nat → Int32) (J : Nat → Nat → Int64) : jw_gf (hp_ I J) 10 0 4 = some (.ref 12) := hp_gf rfl rfl rfl
theorem hg_0_5 (I : Nat → Nat → Int32) (J : Nat → Nat → Int64) : jw_gf (hp_ I J) 10 0 5 = some (.ref 15) := hp_gf rfl rfl rfl
theorem hg_0_6 (I : Nat → Nat → Int32) (J : Nat → Nat → Int64) : jw_gf (hp_ I J) 10 0 6 = some (.ref 17) := hp_gf rfl rfl rfl
theorem hg_0_7 (I : Nat → Nat → Int32) (J : Nat → Nat → Int64) : jw_gf (hp_ I J) 10 0 7 = some (.ref 24) := hp_gf rfl rfl rfl
theorem hg_0_8 (I : Nat → Nat → Int32) (J : Nat → Nat → Int64) : jw_gf (hp_ I J) 10 0 8 = some (.ref 29) := hp_gf rfl rfl rfl
theorem hg_0_9 (I : Nat → Nat → Int32) (J : Nat → Nat → Int64) : jw_gf (hp_ I J) 10 0 9 = some (.ref 36) := hp_gf rfl rfl rfl
theorem hg_0_10 (I : Nat → Nat → Int32) (J : Nat → Nat → Int64) : jw_gf (hp_ I J) 10 0 10 = some (.ref 56) := hp_gf rfl rfl rfl
theorem hg_0_11 (I : Nat → Nat → Int32) (J : Nat → Nat → Int64) : jw_gf (hp_ I J) 10 0 11 = some (.int (I 0 11)) := hp_gf rfl rfl rfl
theorem hq_0_11 (I : Nat → Nat → Int32) (J : Nat → Nat → Int64) (v : Int32) : jw_pf (hp_ I J) 10 0 11 (.int v) = some (hp_ (hw_ I 0 11 v) J) := hp_pf rfl rfl (by simp) rfl
theorem hg_0_12 (I : Nat → Nat → Int32) (J : Nat → Nat → Int64) : jw_gf (hp_ I J) 10 0 12 = some (.int (I 0 12)) := hp_gf rfl rfl rfl
theorem hq_0_12 (I : Nat → Nat → Int32) (J : Nat → Nat → Int64) (v : Int32) : jw_pf (hp_ I J) 10 0 12 (.int v) = some (hp_ (hw_ I 0 12 v) J) := hp_pf rfl rfl (by simp) rfl
theorem hi_0 (I : Nat → Nat → Int32) (J : Nat → Nat → Int64) : jw_is (hp_ I J) 0 10 := hp_is rfl rfl
theorem hg_5_0 (I : Nat → Nat → Int32) (J : Nat → Nat → Int64) : jw_gf (hp_ I J) 9 5 0 = some (.ref 6) := hp_gf rfl rfl rfl
theorem hg_5_1 (I : Nat → Nat → Int32) (J : Nat → Nat → Int64) : jw_gf (hp_ I J) 9 5 1 = some (.ref 8) := hp_gf rfl rfl rfl
theorem hg_5_2 (I : Nat → Nat → Int32) (J : Nat → Nat → Int64) : jw_gf (hp_ I J) 9 5 2 = some (.int (I 5 2)) := hp_gf rfl rfl rfl
theorem hq_5_2 (I : Nat → Nat → Int32) (J : Nat → Nat → Int64) (v : Int32) : jw_pf (hp_ I J) 9 5 2 (.int v) = some (hp_ (hw_ I 5 2 v) J) := hp_pf rfl rfl (by simp) rfl
theorem hg_5_3 (I : Nat → Nat → Int32) (J : Nat → Nat → Int64) : jw_gf (hp_ I J) 9 5 3 = some (.int (I 5 3)) := hp_gf rfl rfl rfl
theorem hq_5_3 (I : Nat → Nat → Int32) (J : Nat → Nat → Int64) (v : Int32) : jw_pf (hp_ I J) 9 5 3 (.int v) = some (hp_ (hw_ I 5 3 v) J) := hp_pf rfl rfl (by simp) rfl
theorem hg_5_4 (I : Nat → Nat → Int32) (J : Nat → Nat → Int64) : jw_gf (hp_ I J) 9 5 4 = some (.int (I 5 4)) := hp_gf rfl rfl rfl
theorem hq_5_4 (I : Nat → Nat → Int32) (J : Nat → Nat → Int64) (v : Int32) : jw_pf (hp_ I J) 9 5 4 (.int v) = some (hp_ (hw_ I 5 4 v) J) := hp_pf rfl rfl (by simp) rfl
theorem hg_5_5 (I : Nat → Nat → Int32) (J : Nat → Nat → Int64) : jw_gf (hp_ I J) 9 5 5 = some (.int (I 5 5)) := hp_gf rfl rfl rfl
theorem hq_5_5 (I : Nat → Nat → Int32) (J : Nat → Nat → Int64) (v : Int32) : jw_pf (hp_ I J) 9 5 5 (.int v) = some (hp_ (hw_ I 5 5 v) J) := hp_pf rfl rfl (by simp) rfl
theorem hg_5_6 (I : Nat → Nat → Int32) (J : Nat → Nat → Int64) : jw_gf (hp_ I J) 9 5 6 = some (.int (I 5 6)) := hp_gf rfl rfl rfl
theorem hq_5_6 (I : Nat → Nat → Int32) (J : Nat → Nat → Int64) (v : Int32) : jw_pf (hp_ I J) 9 5 6 (.int v) = some (hp_ (hw_ I 5 6 v) J) := hp_pf rfl rfl (by simp) rfl
theorem hg_5_7 (I : Nat → Nat → Int32) (J : Nat → Nat → Int64) : jw_gf (hp_ I J) 9 5 7 = some (.int (I 5 7)) := hp_gf rfl rfl rfl
theorem hq_5_7 (I : Nat → Nat → Int32) (J : Nat → Nat → Int64) (v : Int32) : jw_pf (hp_ I J) 9 5 7 (.int v) = some (hp_ (hw_ I 5 7 v) J) := hp_pf rfl rfl (by simp) rfl
theorem hg_5_8 (I : Nat → Nat → Int32) (J : Nat → Nat → Int64) : jw_gf (hp_ I J) 9 5 8 = some (.int (I 5 8)) := hp_gf rfl rfl rfl
theorem hq_5_8 (I : Nat → Nat → Int32) (J : Nat → Nat → Int64) (v : Int32) : jw_pf (hp_ I J) 9 5 8 (.int v) = some (hp_ (hw_ I 5 8 v) J) := hp_pf rfl rfl (by simp) rfl
theorem hg_5_9 (I : Nat → Nat → Int32) (J : Nat → Nat → Int64) : jw_gf (hp_ I J) 9 5 9 = some (.int (I 5 9)) := hp_gf rfl rfl rfl
theorem hq_5_9 (I : Nat → Nat → Int32) (J : Nat → Nat → Int64) (v : Int32) : jw_pf (hp_ I J) 9 5 9 (.int v) = some (hp_ (hw_ I 5 9 v) J) := hp_pf rfl rfl (by simp) rfl
theorem hi_5 (I : Nat → Nat → Int32) (J : Nat → Nat → Int64) : jw_is (hp_ I J) 5 9 := hp_is rfl rfl
theorem hg_12_0 (I : Nat → Nat → Int32) (J : Nat → Nat → Int64) : jw_gf (hp_ I J) 8 12 0 = some (.ref 13) := hp_gf rfl rfl rfl
theorem hg_12_1 (I : Nat → Nat → Int32) (J : Nat → Nat → Int64) : jw_gf (hp_ I J) 8 12 1 = some (.int (I 12 1)) := hp_gf rfl rfl rfl
theorem hq_12_1 (I : Nat → Nat → Int32) (J : Nat → Nat → Int64) (v : Int32) : jw_pf (hp_ I J) 8 12 1 (.int v) = some (hp_ (hw_ I 12 1 v) J) := hp_pf rfl rfl (by simp) rfl
theorem hg_12_2 (I : Nat → Nat → Int32) (J : Nat → Nat → Int64) : jw_gf (hp_ I J) 8 12 2 = some (.int (I 12 2)) := hp_gf rfl rfl rfl
theorem hq_12_2 (I : Nat → Nat → Int32) (J : Nat → Nat → Int64) (v : Int32) : jw_pf (hp_ I J) 8 12 2 (.int v) = some (hp_ (hw_ I 12 2 v) J) := hp_pf rfl rfl (by simp) rfl
theorem hi_12 (I : Nat → Nat → Int32) (J : Nat → Nat → Int64) : jw_is (hp_ I J) 12 8 := hp_is rfl rfl
theorem hg_17_0 (I : Nat → Nat → Int32) (J : Nat → Nat → Int64) : jw_gf (hp_ I J) 3 17 0 = some (.ref 18) := hp_gf rfl rfl rfl
theorem hg_17_1 (I : Nat → Nat → Int32) (J : Nat → Nat → Int64) : jw_gf (hp_ I J) 3 17 1 = some (.ref 20) := hp_gf rfl rfl rfl
theorem hg_17_2 (I : Nat → Nat → Int32) (J : Nat → Nat → Int64) : jw_gf (hp_ I J) 3 17 2 = some (.ref 22) := hp_gf rfl rfl rfl
theorem hg_17_3 (I : Nat → Nat → Int32) (J : Nat → Nat → Int64) : jw_gf (hp_ I J) 3 17 3 = some (.int (I 17 3)) := hp_gf rfl rfl rfl
theorem hq_17_3 (I : Nat → Nat → Int32) (J : Nat → Nat → Int64) (v : Int32) : jw_pf (hp_ I J) 3 17 3 (.int v) = some (hp_ (hw_ I 17 3 v) J) := hp_pf rfl rfl (by simp) rfl
theorem hg_17_4 (I : Nat → Nat → Int32) (J : Nat → Nat → Int64) : jw_gf (hp_ I J) 3 17 4 = some (.int (I 17 4)) := hp_gf rfl rfl rfl
theorem hq_17_4 (I : Nat → Nat → Int32) (J : Nat → Nat → Int64) (v : Int32) : jw_pf (hp_ I J) 3 17 4 (.int v) = some (hp_ (hw_ I 17 4 v) J) := hp_pf rfl rfl (by simp) rfl
theorem hg_17_5 (I : Nat → Nat → Int32) (J : Nat → Nat → Int64) : jw_gf (hp_ I J) 3 17 5 = some (.int (I 17 5)) := hp_gf rfl rfl rfl
theorem hq_17_5 (I : Nat → Nat → Int32) (J : Nat → Nat → Int64) (v : Int32) : jw_pf (hp_ I J) 3 17 5 (.int v) = some (hp_ (hw_ I 17 5 v) J) := hp_pf rfl rfl (by simp) rfl
theorem hg_17_6 (I : Nat → Nat → Int32) (J : Nat → Nat → Int64) : jw_gf (hp_ I J) 3 17 6 = some (.int (I 17 6)) := hp_gf rfl rfl rfl
theorem hq_17_6 (I : Nat → Nat → Int32) (J : Nat → Nat → Int64) (v : Int32) : jw_pf (hp_ I J) 3 17 6 (.int v) = some (hp_ (hw_ I 17 6 v) J) := hp_pf rfl rfl (by simp) rfl
theorem hi_17 (I : Nat → Nat → Int32) (J : Nat → Nat → Int64) : jw_is (hp_ I J) 17 3 := hp_is rfl rfl
theorem hg_24_0 (I : Nat → Nat → Int32) (J : Nat → Nat → Int64) : jw_gf (hp_ I J) 2 24 0 = some (.ref 25) := hp_gf rfl rfl rfl
theorem hg_24_1 (I : Nat → Nat → Int32) (J : Nat → Nat → Int64) : jw_gf (hp_ I J) 2 24 1 = some (.ref 27) := hp_gf rfl rfl rfl
theorem hg_24_2 (I : Nat → Nat → Int32) (J : Nat → Nat → Int64) : jw_gf (hp_ I J) 2 24 2 = some (.int (I 24 2)) := hp_gf rfl rfl rfl
theorem hq_24_2 (I : Nat → Nat → Int32) (J : Nat → Nat → Int64) (v : Int32) : jw_pf (hp_ I J) 2 24 2 (.int v) = some (hp_ (hw_ I 24 2 v) J) := hp_pf rfl rfl (by simp) rfl
theorem hg_24_3 (I : Nat → Nat → Int32) (J : Nat → Nat → Int64) : jw_gf (hp_ I J) 2 24 3 = some (.int (I 24 3)) := hp_gf rfl rfl rfl
theorem hq_24_3 (I : Nat → Nat → Int32) (J : Nat → Nat → Int64) (v : Int32) : jw_pf (hp_ I J) 2 24 3 (.int v) = some (hp_ (hw_ I 24 3 v) J) := hp_pf rfl rfl (by simp) rfl
theorem hg_24_4 (I : Nat → Nat → Int32) (J : Nat → Nat → Int64) : jw_gf (hp_ I J) 2 24 4 = some (.int (I 24 4)) := hp_gf rfl rfl rfl
theorem hq_24_4 (I : Nat → Nat → Int32) (J : Nat → Nat → Int64) (v : Int32) : jw_pf (hp_ I J) 2 24 4 (.int v) = some (hp_ (hw_ I 24 4 v) J) := hp_pf rfl rfl (by simp) rfl
theorem hg_24_5 (I : Nat → Nat → Int32) (J : Nat → Nat → Int64) : jw_gf (hp_ I J) 2 24 5 = some (.int (I 24 5)) := hp_gf rfl rfl rfl
theorem hq_24_5 (I : Nat → Nat → Int32) (J : Nat → Nat → Int64) (v : Int32) : jw_pf (hp_ I J) 2 24 5 (.int v) = some (hp_ (hw_ I 24 5 v) J) := hp_pf rfl rfl (by simp) rfl
theorem hg_24_6 (I : Nat → Nat → Int32) (J : Nat → Nat → Int64) : jw_gf (hp_ I J) 2 24 6 = some (.int (I 24 6)) := hp_gf rfl rfl rfl
theorem hq_24_6 (I : Nat → Nat → Int32) (J : Nat → Nat → Int64) (v : Int32) : jw_pf (hp_ I J) 2 24 6 (.int v) = some (hp_ (hw_ I 24 6 v) J) := hp_pf rfl rfl (by simp) rfl
theorem hg_24_7 (I : Nat → Nat → Int32) (J : Nat → Nat → Int64) : jw_gf (hp_ I J) 2 24 7 = some (.int (I 24 7)) := hp_gf rfl rfl rfl
theorem hq_24_7 (I : Nat → Nat → Int32) (J : Nat → Nat → Int64) (v : Int32) : jw_pf (hp_ I J) 2 24 7 (.int v) = some (hp_ (hw_ I 24 7 v) J) := hp_pf rfl rfl (by simp) rfl
theorem hg_24_8 (I : Nat → Nat → Int32) (J : Nat → Nat → Int64) : jw_gf (hp_ I J) 2 24 8 = some (.int (I 24 8)) := hp_gf rfl rfl rfl
theorem hq_24_8 (I : Nat → Nat → Int32) (J : Nat → Nat → Int64) (v : Int32) : jw_pf (hp_ I J) 2 24 8 (.int v) = some (hp_ (hw_ I 24 8 v) J) := hp_pf rfl rfl (by simp) rfl
theorem hi_24 (I : Nat → Nat → Int32) (J : Nat → Nat → Int64) : jw_is (hp_ I J) 24 2 := hp_is rfl rfl
theorem hg_29_0 (I : Nat → Nat → Int32) (J : Nat → Nat → Int64) : jw_gf (hp_ I J) 7 29 0 = some (.ref 30) := hp_gf rfl rfl rfl
theorem hg_29_1 (I : Nat → Nat → Int32) (J : Nat → Nat → Int64) : jw_gf (hp_ I J) 7 29 1 = some (.ref 32) := hp_gf rfl rfl rfl
theorem hg_29_2 (I : Nat → Nat → Int32) (J : Nat → Nat → Int64) : jw_gf (hp_ I J) 7 29 2 = some (.ref 34) := hp_gf rfl rfl rfl
theorem hg_29_3 (I : Nat → Nat → Int32) (J : Nat → Nat → Int64) : jw_gf (hp_ I J) 7 29 3 = some (.int (I 29 3)) := hp_gf rfl rfl rfl
theorem hq_29_3 (I : Nat → Nat → Int32) (J : Nat → Nat → Int64) (v : Int32) : jw_pf (hp_ I J) 7 29 3 (.int v) = some (hp_ (hw_ I 29 3 v) J) := hp_pf rfl rfl (by simp) rfl
theorem hi_29 (I : Nat → Nat → Int32) (J : Nat → Nat → Int64) : jw_is (hp_ I J) 29 7 := hp_is rfl rfl
theorem hg_36_0 (I : Nat → Nat → Int32) (J : Nat → Nat → Int64) : jw_gf (hp_ I J) 1 36 0 = some (.ref 37) := hp_gf rfl rfl rfl
theorem hg_36_1 (I : Nat → Nat → Int32) (J : Nat → Nat → Int64) : jw_gf (hp_ I J) 1 36 1 = some (.int (I 36 1)) := hp_gf rfl rfl rfl
theorem hq_36_1 (I : Nat → Nat → Int32) (J : Nat → Nat → Int64) (v : Int32) : jw_pf (hp_ I J) 1 36 1 (.int v) = some (hp_ (hw_ I 36 1 v) J) := hp_pf rfl rfl (by simp) rfl
theorem hi_36 (I : Nat → Nat → Int32) (J : Nat → Nat → Int64) : jw_is (hp_ I J) 36 1 := hp_is rfl rfl
theorem hg_69_0 (I : Nat → Nat → Int32) (J : Nat → Nat → Int64) : jw_gf (hp_ I J) 11 69 0 = some (.ref 70) := hp_gf rfl rfl rfl
theorem hg_69_1 (I : Nat → Nat → Int32) (J : Nat → Nat → Int64) : jw_gf (hp_ I J) 11 69 1 = some (.int (I 69 1)) := hp_gf rfl rfl rfl
theorem hq_69_1 (I : Nat → Nat → Int32) (J : Nat → Nat → Int64) (v : Int32) : jw_pf (hp_ I J) 11 69 1 (.int v) = some (hp_ (hw_ I 69 1 v) J) := hp_pf rfl rfl (by simp) rfl
theorem hg_69_2 (I : Nat → Nat → Int32) (J : Nat → Nat → Int64) : jw_gf (hp_ I J) 11 69 2 = some (.int (I 69 2)) := hp_gf rfl rfl rfl
theorem hq_69_2 (I : Nat → Nat → Int32) (J : Nat → Nat → Int64) (v : Int32) : jw_pf (hp_ I J) 11 69 2 (.int v) = some (hp_ (hw_ I 69 2 v) J) := hp_pf rfl rfl (by simp) rfl
theorem hg_69_3 (I : Nat → Nat → Int32) (J : Nat → Nat → Int64) : jw_gf (hp_ I J) 11 69 3 = some (.int (I 69 3)) := hp_gf rfl rfl rfl
theorem hq_69_3 (I : Nat → Nat → Int32) (J : Nat → Nat → Int64) (v : Int32) : jw_pf (hp_ I J) 11 69 3 (.int v) = some (hp_ (hw_ I 69 3 v) J) := hp_pf rfl rfl (by simp) rfl
theorem hg_69_4 (I : Nat → Nat → Int32) (J : Nat → Nat → Int64) : jw_gf (hp_ I J) 11 69 4 = some (.int (I 69 4)) := hp_gf rfl rfl rfl
theorem hq_69_4 (I : Nat → Nat → Int32) (J : Nat → Nat → Int64) (v : Int32) : jw_pf (hp_ I J) 11 69 4 (.int v) = some (hp_ (hw_ I 69 4 v) J) := hp_pf rfl rfl (by simp) rfl
theorem hg_69_5 (I : Nat → Nat → Int32) (J : Nat → Nat → Int64) : jw_gf (hp_ I J) 11 69 5 = some (.int (I 69 5)) := hp_gf rfl rfl rfl
theorem hq_69_5 (I : Nat → Nat → Int32) (J : Nat → Nat → Int64) (v : Int32) : jw_pf (hp_ I J) 11 69 5 (.int v) = some (hp_ (hw_ I 69 5 v) J) := hp_pf rfl rfl (by simp) rfl
theorem hg_69_6 (I : Nat → Nat → Int32) (J : Nat → Nat → Int64) : jw_gf (hp_ I J) 11 69 6 = some (.int (I 69 6)) := hp_gf rfl rfl rfl
theorem hq_69_6 (I : Nat → Nat → Int32) (J : Nat → Nat → Int64) (v : Int32) : jw_pf (hp_ I J) 11 69 6 (.int v) = some (hp_ (hw_ I 69 6 v) J) := hp_pf rfl rfl (by simp) rfl
theorem hg_69_7 (I : Nat → Nat → Int32) (J : Nat → Nat → Int64) : jw_gf (hp_ I J) 11 69 7 = some (.int (I 69 7)) := hp_gf rfl rfl rfl
theorem hq_69_7 (I : Nat → Nat → Int32) (J : Nat → Nat → Int64) (v : Int32) : jw_pf (hp_ I J) 11 69 7 (.int v) = some (hp_ (hw_ I 69 7 v) J) := hp_pf rfl rfl (by simp) rfl
theorem hg_69_8 (I : Nat → Nat → Int32) (J : Nat → Nat → Int64) : jw_gf (hp_ I J) 11 69 8 = some (.int (I 69 8)) := hp_gf rfl rfl rfl
theorem hq_69_8 (I : Nat → Nat → Int32) (J : Nat → Nat → Int64) (v : Int32) : jw_pf (hp_ I J) 11 69 8 (.int v) = some (hp_ (hw_ I 69 8 v) J) := hp_pf rfl rfl (by simp) rfl
theorem hg_69_9 (I : Nat → Nat → Int32) (J : Nat → Nat → Int64) : jw_gf (hp_ I J) 11 69 9 = some (.ref 71) := hp_gf rfl rfl rfl
theorem hg_69_10 (I : Nat → Nat → Int32) (J : Nat → Nat → Int64) : jw_gf (hp_ I J) 11 69 10 = some (.ref 72) := hp_gf rfl rfl rfl
theorem hg_69_11 (I : Nat → Nat → Int32) (J : Nat → Nat → Int64) : jw_gf (hp_ I J) 11 69 11 = some (.ref 73) := hp_gf rfl rfl rfl
theorem hg_69_12 (I : Nat → Nat → Int32) (J : Nat → Nat → Int64) : jw_gf (hp_ I J) 11 69 12 = some (.ref 74) := hp_gf rfl rfl rfl
theorem hg_69_13 (I : Nat → Nat → Int32) (J : Nat → Nat → Int64) : jw_gf (hp_ I J) 11 69 13 = some (.ref 75) := hp_gf rfl rfl rfl
theorem hg_69_14 (I : Nat → Nat → Int32) (J : Nat → Nat → Int64) : jw_gf (hp_ I J) 11 69 14 = some (.ref 76) := hp_gf rfl rfl rfl
theorem hg_69_15 (I : Nat → Nat → Int32) (J : Nat → Nat → Int64) : jw_gf (hp_ I J) 11 69 15 = some (.ref 77) := hp_gf rfl rfl rfl
theorem hg_69_16 (I : Nat → Nat → Int32) (J : Nat → Nat → Int64) : jw_gf (hp_ I J) 11 69 16 = some (.int (I 69 16)) := hp_gf rfl rfl rfl
theorem hq_69_16 (I : Nat → Nat → Int32) (J : Nat → Nat → Int64) (v : Int32) : jw_pf (hp_ I J) 11 69 16 (.int v) = some (hp_ (hw_ I 69 16 v) J) := hp_pf rfl rfl (by simp) rfl
theorem hg_69_17 (I : Nat → Nat → Int32) (J : Nat → Nat → Int64) : jw_gf (hp_ I J) 11 69 17 = some (.ref 78) := hp_gf rfl rfl rfl
theorem hg_69_18 (I : Nat → Nat → Int32) (J : Nat → Nat → Int64) : jw_gf (hp_ I J) 11 69 18 = some (.int (I 69 18)) := hp_gf rfl rfl rfl
theorem hq_69_18 (I : Nat → Nat → Int32) (J : Nat → Nat → Int64) (v : Int32) : jw_pf (hp_ I J) 11 69 18 (.int v) = some (hp_ (hw_ I 69 18 v) J) := hp_pf rfl rfl (by simp) rfl
theorem hg_69_19 (I : Nat → Nat → Int32) (J : Nat → Nat → Int64) : jw_gf (hp_ I J) 11 69 19 = some (.ref 79) := hp_gf rfl rfl rfl
theorem hg_69_20 (I : Nat → Nat → Int32) (J : Nat → Nat → Int64) : jw_gf (hp_ I J) 11 69 20 = some (.int (I 69 20)) := hp_gf rfl rfl rfl
theorem hq_69_20 (I : Nat → Nat → Int32) (J : Nat → Nat → Int64) (v : Int32) : jw_pf (hp_ I J) 11 69 20 (.int v) = some (hp_ (hw_ I 69 20 v) J) := hp_pf rfl rfl (by simp) rfl
theorem hg_69_21 (I : Nat → Nat → Int32) (J : Nat → Nat → Int64) : jw_gf (hp_ I J) 11 69 21 = some (.ref 80) := hp_gf rfl rfl rfl
theorem hg_69_22 (I : Nat → Nat → Int32) (J : Nat → Nat → Int64) : jw_gf (hp_ I J) 11 69 22 = some (.int (I 69 22)) := hp_gf rfl rfl rfl
theorem hq_69_22 (I : Nat → Nat → Int32) (J : Nat → Nat → Int64) (v : Int32) : jw_pf (hp_ I J) 11 69 22 (.int v) = some (hp_ (hw_ I 69 22 v) J) := hp_pf rfl rfl (by simp) rfl
theorem hg_69_23 (I : Nat → Nat → Int32) (J : Nat → Nat → Int64) : jw_gf (hp_ I J) 11 69 23 = some (.int (I 69 23)) := hp_gf rfl rfl rfl
theorem hq_69_23 (I : Nat → Nat → Int32) (J : Nat → Nat → Int64) (v : Int32) : jw_pf (hp_ I J) 11 69 23 (.int v) = some (hp_ (hw_ I 69 23 v) J) := hp_pf rfl rfl (by simp) rfl
theorem hg_69_24 (I : Nat → Nat → Int32) (J : Nat → Nat → Int64) : jw_gf (hp_ I J) 11 69 24 = some (.ref 81) := hp_gf rfl rfl rfl
theorem hg_69_25 (I : Nat → Nat → Int32) (J : Nat → Nat → Int64) : jw_gf (hp_ I J) 11 69 25 = some (.int (I 69 25)) := hp_gf rfl rfl rfl
theorem hq_69_25 (I : Nat → Nat → Int32) (J : Nat → Nat → Int64) (v : Int32) : jw_pf (hp_ I J) 11 69 25 (.int v) = some (hp_ (hw_ I 69 25 v) J) := hp_pf rfl rfl (by simp) rfl
theorem hg_69_26 (I : Nat → Nat → Int32) (J : Nat → Nat → Int64) : jw_gf (hp_ I J) 11 69 26 = some (.int (I 69 26)) := hp_gf rfl rfl rfl
theorem hq_69_26 (I : Nat → Nat → Int32) (J : Nat → Nat → Int64) (v : Int32) : jw_pf (hp_ I J) 11 69 26 (.int v) = some (hp_ (hw_ I 69 26 v) J) := hp_pf rfl rfl (by simp) rfl
theorem hg_69_27 (I : Nat → Nat → Int32) (J : Nat → Nat → Int64) : jw_gf (hp_ I J) 11 69 27 = some (.int (I 69 27)) := hp_gf rfl rfl rfl
theorem hq_69_27 (I : Nat → Nat → Int32) (J : Nat → Nat → Int64) (v : Int32) : jw_pf (hp_ I J) 11 69 27 (.int v) = some (hp_ (hw_ I 69 27 v) J) := hp_pf rfl rfl (by simp) rfl
theorem hg_69_28 (I : Nat → Nat → Int32) (J : Nat → Nat → Int64) : jw_gf (hp_ I J) 11 69 28 = some (.long (J 69 28)) := hp_gf rfl rfl rfl
theorem hq_69_28 (I : Nat → Nat → Int32) (J : Nat → Nat → Int64) (v : Int64) : jw_pf (hp_ I J) 11 69 28 (.long v) = some (hp_ I (hw2_ J 69 28 v)) := hp_pl rfl rfl (by simp) rfl
theorem hg_69_29 (I : Nat → Nat → Int32) (J : Nat → Nat → Int64) : jw_gf (hp_ I J) 11 69 29 = some (.long (J 69 29)) := hp_gf rfl rfl rfl
theorem hq_69_29 (I : Nat → Nat → Int32) (J : Nat → Nat → Int64) (v : Int64) : jw_pf (hp_ I J) 11 69 29 (.long v) = some (hp_ I (hw2_ J 69 29 v)) := hp_pl rfl rfl (by simp) rfl
theorem hg_69_30 (I : Nat → Nat → Int32) (J : Nat → Nat → Int64) : jw_gf (hp_ I J) 11 69 30 = some (.int (I 69 30)) := hp_gf rfl rfl rfl
theorem hq_69_30 (I : Nat → Nat → Int32) (J : Nat → Nat → Int64) (v : Int32) : jw_pf (hp_ I J) 11 69 30 (.int v) = some (hp_ (hw_ I 69 30 v) J) := hp_pf rfl rfl (by simp) rfl
theorem hg_69_31 (I : Nat → Nat → Int32) (J : Nat → Nat → Int64) : jw_gf (hp_ I J) 11 69 31 = some (.int (I 69 31)) := hp_gf rfl rfl rfl
theorem hq_69_31 (I : Nat → Nat → Int32) (J : Nat → Nat → Int64) (v : Int32) : jw_pf (hp_ I J) 11 69 31 (.int v) = some (hp_ (hw_ I 69 31 v) J) := hp_pf rfl rfl (by simp) rfl
theorem hg_69_32 (I : Nat → Nat → Int32) (J : Nat → Nat → Int64) : jw_gf (hp_ I J) 11 69 32 = some (.int (I 69 32)) := hp_gf rfl rfl rfl
theorem hq_69_32 (I : Nat → Nat → Int32) (J : Nat → Nat → Int64) (v : Int32) : jw_pf (hp_ I J) 11 69 32 (.int v) = some (hp_ (hw_ I 69 32 v) J) := hp_pf rfl rfl (by simp) rfl
theorem hg_69_33 (I : Nat → Nat → Int32) (J : Nat → Nat → Int64) : jw_gf (hp_ I J) 11 69 33 = some (.ref 82) := hp_gf rfl rfl rfl
theorem hg_69_34 (I : Nat → Nat → Int32) (J : Nat → Nat → Int64) : jw_gf (hp_ I J) 11 69 34 = some (.ref 83) := hp_gf rfl rfl rfl
theorem hg_69_35 (I : Nat → Nat → Int32) (J : Nat → Nat → Int64) : jw_gf (hp_ I J) 11 69 35 = some (.int (I 69 35)) := hp_gf rfl rfl rfl
theorem hq_69_35 (I : Nat → Nat → Int32) (J : Nat → Nat → Int64) (v : Int32) : jw_pf (hp_ I J) 11 69 35 (.int v) = some (hp_ (hw_ I 69 35 v) J) := hp_pf rfl rfl (by simp) rfl
theorem hg_69_36 (I : Nat → Nat → Int32) (J : Nat → Nat → Int64) : jw_gf (hp_ I J) 11 69 36 = some (.int (I 69 36)) := hp_gf rfl rfl rfl
theorem hq_69_36 (I : Nat → Nat → Int32) (J : Nat → Nat → Int64) (v : Int32) : jw_pf (hp_ I J) 11 69 36 (.int v) = some (hp_ (hw_ I 69 36 v) J) := hp_pf rfl rfl (by simp) rfl
theorem hg_69_37 (I : Nat → Nat → Int32) (J : Nat → Nat → Int64) : jw_gf (hp_ I J) 11 69 37 = some (.int (I 69 37)) := hp_gf rfl rfl rfl
theorem hq_69_37 (I : Nat → Nat → Int32) (J : Nat → Nat → Int64) (v : Int32) : jw_pf (hp_ I J) 11 69 37 (.int v) = some (hp_ (hw_ I 69 37 v) J) := hp_pf rfl rfl (by simp) rfl
theorem hg_69_38 (I : Nat → Nat → Int32) (J : Nat → Nat → Int64) : jw_gf (hp_ I J) 11 69 38 = some (.ref 84) := hp_gf rfl rfl rfl
theorem hg_69_39 (I : Nat → Nat → Int32) (J : Nat → Nat → Int64) : jw_gf (hp_ I J) 11 69 39 = some (.ref 85) := hp_gf rfl rfl rfl
theorem hg_69_40 (I : Nat → Nat → Int32) (J : Nat → Nat → Int64) : jw_gf (hp_ I J) 11 69 40 = some (.int (I 69 40)) := hp_gf rfl rfl rfl
theorem hq_69_40 (I : Nat → Nat → Int32) (J : Nat → Nat → Int64) (v : Int32) : jw_pf (hp_ I J) 11 69 40 (.int v) = some (hp_ (hw_ I 69 40 v) J) := hp_pf rfl rfl (by simp) rfl
theorem hg_69_41 (I : Nat → Nat → Int32) (J : Nat → Nat → Int64) : jw_gf (hp_ I J) 11 69 41 = some (.int (I 69 41)) := hp_gf rfl rfl rfl
theorem hq_69_41 (I : Nat → Nat → Int32) (J : Nat → Nat → Int64) (v : Int32) : jw_pf (hp_ I J) 11 69 41 (.int v) = some (hp_ (hw_ I 69 41 v) J) := hp_pf rfl rfl (by simp) rfl
theorem hg_69_42 (I : Nat → Nat → Int32) (J : Nat → Nat → Int64) : jw_gf (hp_ I J) 11 69 42 = some (.ref 86) := hp_gf rfl rfl rfl
theorem hg_69_43 (I : Nat → Nat → Int32) (J : Nat → Nat → Int64) : jw_gf (hp_ I J) 11 69 43 = some (.ref 87) := hp_gf rfl rfl rfl
theorem hg_69_44 (I : Nat → Nat → Int32) (J : Nat → Nat → Int64) : jw_gf (hp_ I J) 11 69 44 = some (.ref 88) := hp_gf rfl rfl rfl
theorem hg_69_45 (I : Nat → Nat → Int32) (J : Nat → Nat → Int64) : jw_gf (hp_ I J) 11 69 45 = some (.int (I 69 45)) := hp_gf rfl rfl rfl
theorem hq_69_45 (I : Nat → Nat → Int32) (J : Nat → Nat → Int64) (v : Int32) : jw_pf (hp_ I J) 11 69 45 (.int v) = some (hp_ (hw_ I 69 45 v) J) := hp_pf rfl rfl (by simp) rfl
theorem hg_69_46 (I : Nat → Nat → Int32) (J : Nat → Nat → Int64) : jw_gf (hp_ I J) 11 69 46 = some (.ref 89) := hp_gf rfl rfl rfl
theorem hg_69_47 (I : Nat → Nat → Int32) (J : Nat → Nat → Int64) : jw_gf (hp_ I J) 11 69 47 = some (.ref 90) := hp_gf rfl rfl rfl
theorem hg_69_48 (I : Nat → Nat → Int32) (J : Nat → Nat → Int64) : jw_gf (hp_ I J) 11 69 48 = some (.ref 91) := hp_gf rfl rfl rfl
theorem hg_69_49 (I : Nat → Nat → Int32) (J : Nat → Nat → Int64) : jw_gf (hp_ I J) 11 69 49 = some (.int (I 69 49)) := hp_gf rfl rfl rfl
theorem hq_69_49 (I : Nat → Nat → Int32) (J : Nat → Nat → Int64) (v : Int32) : jw_pf (hp_ I J) 11 69 49 (.int v) = some (hp_ (hw_ I 69 49 v) J) := hp_pf rfl rfl (by simp) rfl
theorem hi_69 (I : Nat → Nat → Int32) (J : Nat → Nat → Int64) : jw_is (hp_ I J) 69 11 := hp_is rfl rfl
theorem ha_70 (I : Nat → Nat → Int32) (J : Nat → Nat → Int64) : (hp_ I J)[70]? = some (.inl (0, 160, .inl (I 70))) := hp_at (s := fun f _ => .inl (0, 160, .inl f)) rfl
theorem hb_70 (I : Nat → Nat → Int32) (J : Nat → Nat → Int64) (i : Nat) (v : Int32) : (hp_ I J).set 70 (.inl (0, 160, .inl (upd (I 70) i v))) = hp_ (hw_ I 70 i v) J := hp_as rfl
theorem ha_71 (I : Nat → Nat → Int32) (J : Nat → Nat → Int64) : (hp_ I J)[71]? = some (.inl (0, 12, .inl (I 71))) := hp_at (s := fun f _ => .inl (0, 12, .inl f)) rfl
theorem hb_71 (I : Nat → Nat → Int32) (J : Nat → Nat → Int64) (i : Nat) (v : Int32) : (hp_ I J).set 71 (.inl (0, 12, .inl (upd (I 71) i v))) = hp_ (hw_ I 71 i v) J := hp_as rfl
theorem ha_72 (I : Nat → Nat → Int32) (J : Nat → Nat → Int64) : (hp_ I J)[72]? = some (.inl (0, 51, .inl (I 72))) := hp_at (s := fun f _ => .inl (0, 51, .inl f)) rfl
theorem hb_72 (I : Nat → Nat → Int32) (J : Nat → Nat → Int64) (i : Nat) (v : Int32) : (hp_ I J).set 72 (.inl (0, 51, .inl (upd (I 72) i v))) = hp_ (hw_ I 72 i v) J := hp_as rfl
theorem ha_73 (I : Nat → Nat → Int32) (J : Nat → Nat → Int64) : (hp_ I J)[73]? = some (.inl (0, 9, .inl (I 73))) := hp_at (s := fun f _ => .inl (0, 9, .inl f)) rfl
theorem hb_73 (I : Nat → Nat → Int32) (J : Nat → Nat → Int64) (i : Nat) (v : Int32) : (hp_ I J).set 73 (.inl (0, 9, .inl (upd (I 73) i v))) = hp_ (hw_ I 73 i v) J := hp_as rfl
theorem ha_74 (I : Nat → Nat → Int32) (J : Nat → Nat → Int64) : (hp_ I J)[74]? = some (.inl (0, 9, .inl (I 74))) := hp_at (s := fun f _ => .inl (0, 9, .inl f)) rfl
theorem hb_74 (I : Nat → Nat → Int32) (J : Nat → Nat → Int64) (i : Nat) (v : Int32) : (hp_ I J).set 74 (.inl (0, 9, .inl (upd (I 74) i v))) = hp_ (hw_ I 74 i v) J := hp_as rfl
theorem ha_75 (I : Nat → Nat → Int32) (J : Nat → Nat → Int64) : (hp_ I J)[75]? = some (.inl (0, 9, .inl (I 75))) := hp_at (s := fun f _ => .inl (0, 9, .inl f)) rfl
theorem hb_75 (I : Nat → Nat → Int32) (J : Nat → Nat → Int64) (i : Nat) (v : Int32) : (hp_ I J).set 75 (.inl (0, 9, .inl (upd (I 75) i v))) = hp_ (hw_ I 75 i v) J := hp_as rfl
theorem ha_76 (I : Nat → Nat → Int32) (J : Nat → Nat → Int64) : (hp_ I J)[76]? = some (.inl (0, 9, .inl (I 76))) := hp_at (s := fun f _ => .inl (0, 9, .inl f)) rfl
theorem hb_76 (I : Nat → Nat → Int32) (J : Nat → Nat → Int64) (i : Nat) (v : Int32) : (hp_ I J).set 76 (.inl (0, 9, .inl (upd (I 76) i v))) = hp_ (hw_ I 76 i v) J := hp_as rfl
theorem ha_77 (I : Nat → Nat → Int32) (J : Nat → Nat → Int64) : (hp_ I J)[77]? = some (.inl (0, 9, .inl (I 77))) := hp_at (s := fun f _ => .inl (0, 9, .inl f)) rfl
theorem hb_77 (I : Nat → Nat → Int32) (J : Nat → Nat → Int64) (i : Nat) (v : Int32) : (hp_ I J).set 77 (.inl (0, 9, .inl (upd (I 77) i v))) = hp_ (hw_ I 77 i v) J := hp_as rfl
theorem ha_78 (I : Nat → Nat → Int32) (J : Nat → Nat → Int64) : (hp_ I J)[78]? = some (.inl (0, 16, .inl (I 78))) := hp_at (s := fun f _ => .inl (0, 16, .inl f)) rfl
theorem hb_78 (I : Nat → Nat → Int32) (J : Nat → Nat → Int64) (i : Nat) (v : Int32) : (hp_ I J).set 78 (.inl (0, 16, .inl (upd (I 78) i v))) = hp_ (hw_ I 78 i v) J := hp_as rfl
theorem ha_79 (I : Nat → Nat → Int32) (J : Nat → Nat → Int64) : (hp_ I J)[79]? = some (.inl (0, 200, .inl (I 79))) := hp_at (s := fun f _ => .inl (0, 200, .inl f)) rfl
theorem hb_79 (I : Nat → Nat → Int32) (J : Nat → Nat → Int64) (i : Nat) (v : Int32) : (hp_ I J).set 79 (.inl (0, 200, .inl (upd (I 79) i v))) = hp_ (hw_ I 79 i v) J := hp_as rfl
theorem ha_80 (I : Nat → Nat → Int32) (J : Nat → Nat → Int64) : (hp_ I J)[80]? = some (.inl (0, 320, .inl (I 80))) := hp_at (s := fun f _ => .inl (0, 320, .inl f)) rfl
theorem hb_80 (I : Nat → Nat → Int32) (J : Nat → Nat → Int64) (i : Nat) (v : Int32) : (hp_ I J).set 80 (.inl (0, 320, .inl (upd (I 80) i v))) = hp_ (hw_ I 80 i v) J := hp_as rfl
theorem ha_81 (I : Nat → Nat → Int32) (J : Nat → Nat → Int64) : (hp_ I J)[81]? = some (.inl (0, 320, .inl (I 81))) := hp_at (s := fun f _ => .inl (0, 320, .inl f)) rfl
theorem hb_81 (I : Nat → Nat → Int32) (J : Nat → Nat → Int64) (i : Nat) (v : Int32) : (hp_ I J).set 81 (.inl (0, 320, .inl (upd (I 81) i v))) = hp_ (hw_ I 81 i v) J := hp_as rfl
theorem ha_82 (I : Nat → Nat → Int32) (J : Nat → Nat → Int64) : (hp_ I J)[82]? = some (.inl (0, 40, .inl (I 82))) := hp_at (s := fun f _ => .inl (0, 40, .inl f)) rfl
theorem hb_82 (I : Nat → Nat → Int32) (J : Nat → Nat → Int64) (i : Nat) (v : Int32) : (hp_ I J).set 82 (.inl (0, 40, .inl (upd (I 82) i v))) = hp_ (hw_ I 82 i v) J := hp_as rfl
theorem ha_83 (I : Nat → Nat → Int32) (J : Nat → Nat → Int64) : (hp_ I J)[83]? = some (.inl (1, 40, .inl (I 83))) := hp_at (s := fun f _ => .inl (1, 40, .inl f)) rfl
theorem hb_83 (I : Nat → Nat → Int32) (J : Nat → Nat → Int64) (i : Nat) (v : Int32) : (hp_ I J).set 83 (.inl (1, 40, .inl (upd (I 83) i v))) = hp_ (hw_ I 83 i v) J := hp_as rfl
theorem ha_84 (I : Nat → Nat → Int32) (J : Nat → Nat → Int64) : (hp_ I J)[84]? = some (.inl (0, 966, .inl (I 84))) := hp_at (s := fun f _ => .inl (0, 966, .inl f)) rfl
theorem hb_84 (I : Nat → Nat → Int32) (J : Nat → Nat → Int64) (i : Nat) (v : Int32) : (hp_ I J).set 84 (.inl (0, 966, .inl (upd (I 84) i v))) = hp_ (hw_ I 84 i v) J := hp_as rfl
theorem ha_85 (I : Nat → Nat → Int32) (J : Nat → Nat → Int64) : (hp_ I J)[85]? = some (.inl (0, 320, .inl (I 85))) := hp_at (s := fun f _ => .inl (0, 320, .inl f)) rfl
theorem hb_85 (I : Nat → Nat → Int32) (J : Nat → Nat → Int64) (i : Nat) (v : Int32) : (hp_ I J).set 85 (.inl (0, 320, .inl (upd (I 85) i v))) = hp_ (hw_ I 85 i v) J := hp_as rfl
theorem ha_86 (I : Nat → Nat → Int32) (J : Nat → Nat → Int64) : (hp_ I J)[86]? = some (.inl (0, 6, .inl (I 86))) := hp_at (s := fun f _ => .inl (0, 6, .inl f)) rfl
theorem hb_86 (I : Nat → Nat → Int32) (J : Nat → Nat → Int64) (i : Nat) (v : Int32) : (hp_ I J).set 86 (.inl (0, 6, .inl (upd (I 86) i v))) = hp_ (hw_ I 86 i v) J := hp_as rfl
theorem ha_87 (I : Nat → Nat → Int32) (J : Nat → Nat → Int64) : (hp_ I J)[87]? = some (.inl (0, 192, .inl (I 87))) := hp_at (s := fun f _ => .inl (0, 192, .inl f)) rfl
theorem hb_87 (I : Nat → Nat → Int32) (J : Nat → Nat → Int64) (i : Nat) (v : Int32) : (hp_ I J).set 87 (.inl (0, 192, .inl (upd (I 87) i v))) = hp_ (hw_ I 87 i v) J := hp_as rfl
theorem ha_88 (I : Nat → Nat → Int32) (J : Nat → Nat → Int64) : (hp_ I J)[88]? = some (.inl (1, 192, .inl (I 88))) := hp_at (s := fun f _ => .inl (1, 192, .inl f)) rfl
theorem hb_88 (I : Nat → Nat → Int32) (J : Nat → Nat → Int64) (i : Nat) (v : Int32) : (hp_ I J).set 88 (.inl (1, 192, .inl (upd (I 88) i v))) = hp_ (hw_ I 88 i v) J := hp_as rfl
theorem ha_89 (I : Nat → Nat → Int32) (J : Nat → Nat → Int64) : (hp_ I J)[89]? = some (.inl (0, 4, .inl (I 89))) := hp_at (s := fun f _ => .inl (0, 4, .inl f)) rfl
theorem hb_89 (I : Nat → Nat → Int32) (J : Nat → Nat → Int64) (i : Nat) (v : Int32) : (hp_ I J).set 89 (.inl (0, 4, .inl (upd (I 89) i v))) = hp_ (hw_ I 89 i v) J := hp_as rfl
theorem ha_90 (I : Nat → Nat → Int32) (J : Nat → Nat → Int64) : (hp_ I J)[90]? = some (.inl (0, 4, .inl (I 90))) := hp_at (s := fun f _ => .inl (0, 4, .inl f)) rfl
theorem hb_90 (I : Nat → Nat → Int32) (J : Nat → Nat → Int64) (i : Nat) (v : Int32) : (hp_ I J).set 90 (.inl (0, 4, .inl (upd (I 90) i v))) = hp_ (hw_ I 90 i v) J := hp_as rfl
theorem ha_91 (I : Nat → Nat → Int32) (J : Nat → Nat → Int64) : (hp_ I J)[91]? = some (.inl (0, 256, .inl (I 91))) := hp_at (s := fun f _ => .inl (0, 256, .inl f)) rfl
theorem hb_91 (I : Nat → Nat → Int32) (J : Nat → Nat → Int64) (i : Nat) (v : Int32) : (hp_ I J).set 91 (.inl (0, 256, .inl (upd (I 91) i v))) = hp_ (hw_ I 91 i v) J := hp_as rfl
