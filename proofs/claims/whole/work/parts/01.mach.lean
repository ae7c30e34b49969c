/-! A MACHINE OF ITS OWN OVER CELLS BY THEIR NUMBERS: what a block of code does, as a predicate of locals, stack, cells and what was made. Cell number k stands at base + k; numbers from 1000 on are cells that nobody writes. -/
abbrev jw_H : Type := List va_E
abbrev jw_S : Type := List Value → List Value → jw_H → Nat × Nat → Prop
abbrev jw_K : Type := Option Value → jw_H → Prop
abbrev jw_N : Value := .retAddr 0
def jw_v (ad : Nat → Nat) : Value → Value
  | .ref k => .ref (ad k)
  | .int x => .int x
  | .long x => .long x
  | .null => .null
  | .float x => .float x
  | .double x => .double x
  | .retAddr x => .retAddr x
def jw_set : Value → Bool
  | .retAddr _ => false
  | _ => true
theorem jw_v_cat (ad : Nat → Nat) (v : Value) : (jw_v ad v).category = v.category := by cases v <;> rfl
/-- reading and writing locals -/
def jw_ge : List Value → Nat → Option Value
  | [], _ => none
  | a :: _, 0 => some a
  | _ :: l, i + 1 => jw_ge l i
def jw_se : List Value → Nat → Value → List Value
  | [], _, _ => []
  | _ :: l, 0, v => v :: l
  | a :: l, i + 1, v => a :: jw_se l i v
def jw_un : Value → Value
  | .long _ => jw_N
  | .double _ => jw_N
  | .int x => .int x
  | .ref x => .ref x
  | .null => .null
  | .float x => .float x
  | .retAddr x => .retAddr x
/-- a value of one slot is stored: a long that stands across it goes -/
def jw_st : List Value → Nat → Value → List Value
  | [], _, _ => []
  | _ :: l, 0, v => v :: l
  | a :: l, 1, v => jw_un a :: jw_se l 0 v
  | a :: l, i + 2, v => a :: jw_st l (i + 1) v
def jw_st2 (l : List Value) (i : Nat) (v : Value) : List Value := jw_st (jw_se l (i + 1) jw_N) i v
theorem jw_ge_eq : ∀ (l : List Value) (i : Nat), jw_ge l i = l[i]?
  | [], i => by simp [jw_ge]
  | a :: l, 0 => by simp [jw_ge]
  | a :: l, i + 1 => by simp [jw_ge, jw_ge_eq l i]
theorem jw_se_ge : ∀ (l : List Value) (i j : Nat) (v w : Value), jw_ge (jw_se l i v) j = some w → (j = i ∧ w = v) ∨ (j ≠ i ∧ jw_ge l j = some w)
  | [], i, j, v, w, h => by simp [jw_se, jw_ge] at h
  | a :: l, 0, 0, v, w, h => by simp [jw_se, jw_ge] at h; exact Or.inl ⟨rfl, h.symm⟩
  | a :: l, 0, j + 1, v, w, h => by simp [jw_se, jw_ge] at h; exact Or.inr ⟨by omega, by simpa [jw_ge] using h⟩
  | a :: l, i + 1, 0, v, w, h => by simp [jw_se, jw_ge] at h; exact Or.inr ⟨by omega, by simpa [jw_ge] using h⟩
  | a :: l, i + 1, j + 1, v, w, h => by
    simp only [jw_se, jw_ge] at h
    rcases jw_se_ge l i j v w h with ⟨h1, h2⟩ | ⟨h1, h2⟩
    · exact Or.inl ⟨by omega, h2⟩
    · exact Or.inr ⟨by omega, by simpa [jw_ge] using h2⟩
theorem jw_st_ge : ∀ (l : List Value) (i j : Nat) (v w : Value), jw_ge (jw_st l i v) j = some w → jw_set w = true → (j = i ∧ w = v) ∨ (j ≠ i ∧ jw_ge l j = some w ∧ ¬ (j + 1 = i ∧ w.category = 2))
  | [], i, j, v, w, h, _ => by simp [jw_st, jw_ge] at h
  | a :: l, 0, 0, v, w, h, _ => by simp [jw_st, jw_ge] at h; exact Or.inl ⟨rfl, h.symm⟩
  | a :: l, 0, j + 1, v, w, h, _ => by simp [jw_st, jw_ge] at h; exact Or.inr ⟨by omega, by simpa [jw_ge] using h, by omega⟩
  | a :: l, 1, 0, v, w, h, hs => by
    simp only [jw_st, jw_ge, Option.some.injEq] at h
    subst h
    refine Or.inr ⟨by omega, ?_, ?_⟩
    · cases a <;> simp_all [jw_un, jw_ge, jw_set]
    · cases a <;> simp_all [jw_un, Value.category, jw_set]
  | a :: l, 1, j + 1, v, w, h, hs => by
    simp only [jw_st, jw_ge] at h
    rcases jw_se_ge l 0 j v w h with ⟨h1, h2⟩ | ⟨h1, h2⟩
    · exact Or.inl ⟨by omega, h2⟩
    · exact Or.inr ⟨by omega, by simpa [jw_ge] using h2, by omega⟩
  | a :: l, i + 2, 0, v, w, h, hs => by
    simp only [jw_st, jw_ge, Option.some.injEq] at h
    exact Or.inr ⟨by omega, by simpa [jw_ge] using h, by omega⟩
  | a :: l, i + 2, j + 1, v, w, h, hs => by
    simp only [jw_st, jw_ge] at h
    rcases jw_st_ge l (i + 1) j v w h hs with ⟨h1, h2⟩ | ⟨h1, h2, h3⟩
    · exact Or.inl ⟨by omega, h2⟩
    · exact Or.inr ⟨by omega, by simpa [jw_ge] using h2, by omega⟩
/-- cells as the kit has them -/
def jw_e (aC ad : Nat → Nat) : va_E → va_E
  | .inl (t, n, .inr (.inr (.inr (.inr g)))) => .inl (aC t, n, .inr (.inr (.inr (.inr (fun i => (g i).map ad)))))
  | .inl (t, n, .inl f) => .inl (aC t, n, .inl f)
  | .inl (t, n, .inr (.inl f)) => .inl (aC t, n, .inr (.inl f))
  | .inl (t, n, .inr (.inr (.inl f))) => .inl (aC t, n, .inr (.inr (.inl f)))
  | .inl (t, n, .inr (.inr (.inr (.inl f)))) => .inl (aC t, n, .inr (.inr (.inr (.inl f))))
  | .inr (ci, fs) => .inr (ci, fs.map (jw_v ad))
def jw_w (aC ad : Nat → Nat) (h : jw_H) : va_W := h.mapIdx (fun k c => (ad k, jw_e aC ad c))
theorem jw_w_at {aC ad : Nat → Nat} {h : jw_H} {k : Nat} {c : va_E} (hk : h[k]? = some c) : (jw_w aC ad h)[k]? = some (ad k, jw_e aC ad c) := by
  simp [jw_w, List.getElem?_mapIdx, hk]
theorem jw_w_at' {aC ad : Nat → Nat} {h : jw_H} {k : Nat} {q : Nat × va_E} (hk : (jw_w aC ad h)[k]? = some q) : k < h.length ∧ q.1 = ad k := by
  simp only [jw_w, List.getElem?_mapIdx] at hk
  cases hc : h[k]? with
  | none => rw [hc] at hk; cases hk
  | some c =>
    rw [hc] at hk
    cases hk
    exact ⟨(List.getElem?_eq_some_iff.mp hc).1, rfl⟩
theorem jw_w_set {aC ad : Nat → Nat} {h : jw_H} {k : Nat} {c : va_E} : (jw_w aC ad h).set k (ad k, jw_e aC ad c) = jw_w aC ad (h.set k c) := by
  apply List.ext_getElem?
  intro j
  by_cases hj : k = j
  · subst hj
    simp only [jw_w, List.getElem?_set_self', List.getElem?_mapIdx]
    cases h[k]? <;> rfl
  · simp only [jw_w, List.getElem?_set_ne hj, List.getElem?_mapIdx]
theorem jw_w_push {aC ad : Nat → Nat} {h : jw_H} {c : va_E} : jw_w aC ad (h ++ [c]) = jw_w aC ad h ++ [(ad h.length, jw_e aC ad c)] := by
  simp [jw_w, List.mapIdx_append]
theorem jw_w_D {aC ad : Nat → Nat} {h : jw_H} {base : Nat} (hl : h.length ≤ 1000) (ha : ∀ k, k < 1000 → ad k = base + k) : va_D (fun q => base ≤ q) (jw_w aC ad h) := by
  refine ⟨fun i j p q hi hj hpq => ?_, fun k q hk => ?_⟩
  · obtain ⟨h1, h2⟩ := jw_w_at' hi
    obtain ⟨h3, h4⟩ := jw_w_at' hj
    rw [h2, h4, ha _ (by omega), ha _ (by omega)] at hpq
    omega
  · obtain ⟨h1, h2⟩ := jw_w_at' hk
    show base ≤ q.1
    rw [h2, ha _ (by omega)]
    omega
/-- a field is read, written -/
def jw_gf (h : jw_H) (ci o j : Nat) : Option Value := match h[o]? with
  | some (.inr (c, fs)) => if c = ci then fs[j]? else none
  | _ => none
def jw_pf (h : jw_H) (ci o j : Nat) (v : Value) : Option jw_H := match h[o]? with
  | some (.inr (c, fs)) => if c = ci ∧ j < fs.length then some (h.set o (.inr (c, fs.set j v))) else none
  | _ => none
def jw_is (h : jw_H) (o ci : Nat) : Prop := ∃ fs, h[o]? = some (.inr (ci, fs))
theorem jw_gf_at {h : jw_H} {ci o j : Nat} {v : Value} (hv : jw_gf h ci o j = some v) : ∃ fs, h[o]? = some (.inr (ci, fs)) ∧ fs[j]? = some v := by
  unfold jw_gf at hv
  split at hv
  · rename_i c fs he
    split at hv
    · rename_i hc; subst hc; exact ⟨fs, he, hv⟩
    · cases hv
  · cases hv
theorem jw_pf_at {h h' : jw_H} {ci o j : Nat} {v : Value} (hv : jw_pf h ci o j v = some h') : ∃ fs, h[o]? = some (.inr (ci, fs)) ∧ j < fs.length ∧ h' = h.set o (.inr (ci, fs.set j v)) := by
  unfold jw_pf at hv
  split at hv
  · rename_i c fs he
    split at hv
    · rename_i hc; obtain ⟨hc, hl⟩ := hc; subst hc; exact ⟨fs, he, hl, (Option.some.inj hv).symm⟩
    · cases hv
  · cases hv
