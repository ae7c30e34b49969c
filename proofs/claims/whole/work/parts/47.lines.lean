/-! lines -/
def rw_ : List Nat := [0, 1, 1, 2, 3, 4, 5, 6, 7, 7, 8]
def sa_ : List (Option Nat) := [none, some 1, some 0, none, none, none, none, none, some 1, some 0, none]
def lt_ : List Nat := [3, 0, 0, 0, 1, 1, 5, 0, 0]
def mt_ : List Nat := [6, 1, 63, 63, 20, 20, 60, 1, 2]
def sai_ (o : Option Nat) : Int32 := match o with
  | none => -1
  | some b => nI b
def ud_ (u : Nat → Nat) (j v : Nat) : Nat → Nat := fun q => if q = j then v else u q
abbrev li_T : Type := (Nat × Nat) ⊕ (Nat × (Nat → Nat) × Nat)
def lf_ (t : List Nat) (T : Nat) (u : Nat → Nat) (k : Nat × Nat × Nat × Nat) : li_T := if k.1 = 4 then .inl (1, k.2.2.1) else if k.1 = 3 then .inr (T, u, k.2.2.2) else .inl (2, k.2.2.1)
def lg_ (t : List Nat) (T : Nat) (u : Nat → Nat) (w : Nat) (k : Nat × Nat × Nat × Nat) : li_T := if k.1 = 4 then .inl (1, k.2.2.1) else if k.1 = 2 then (if k.2.1 < lt_.getD w 0 ∨ mt_.getD w 0 < k.2.1 then .inl (3, k.2.2.1) else lf_ t T (ud_ u w k.2.1) (tk_ t k.2.2.2)) else .inl (2, k.2.2.1)
/-- a line, behind its name's token -/
def li_ (t : List Nat) (k : Nat × Nat × Nat × Nat) (T : Nat) (u : Nat → Nat) : li_T :=
  if k.1 = 1 then
    if T / 2 ^ rw_.getD k.2.1 0 % 2 = 1 then .inl (4, k.2.2.1) else
    match sa_.getD k.2.1 none with
    | some b => lf_ t (T ||| 2 ^ rw_.getD k.2.1 0) (ud_ u (rw_.getD k.2.1 0) b) (tk_ t k.2.2.2)
    | none => lg_ t (T ||| 2 ^ rw_.getD k.2.1 0) u (rw_.getD k.2.1 0) (tk_ t k.2.2.2)
  else .inl (2, k.2.2.1)
abbrev pz_T : Type := (Nat × Nat) ⊕ ((Nat → Nat) × Nat)
/-- all lines -/
def pz_ (t : List Nat) : Nat → (Nat × Nat × Nat × Nat) → Nat → (Nat → Nat) → Nat → pz_T
  | 0, _, _, _, _ => .inl (0, 0)
  | m + 1, k, T, u, n => if k.1 = 4 then .inl (1, k.2.2.1) else if k.1 = 0 then .inr (u, n) else
    match li_ t k T u with
    | .inl e => .inl e
    | .inr x => pz_ t m (tk_ t x.2.2) x.1 x.2.1 (n + 1)
/-- the text -/
def te_ (t : List Nat) : pz_T := match pz_ t (t.length + 1) (tk_ t 0) 0 r0_ 0 with
  | .inl e => .inl e
  | .inr x => if x.1 2 < 2 ^ x.1 0 ∧ x.1 3 < 2 ^ x.1 0 ∧ x.1 2 ≠ x.1 3 then .inr x else .inl (5, t.length)
/-- a token's bounds -/
def ti_ (t : List Nat) (p : Nat) (k : Nat × Nat × Nat × Nat) : Prop := k.1 ≤ 4 ∧ k.2.2.1 ≤ t.length ∧ (k.1 ≠ 4 → p ≤ k.2.2.2 ∧ k.2.2.2 ≤ t.length) ∧ (k.1 = 1 ∨ k.1 = 2 ∨ k.1 = 3 → p < k.2.2.2) ∧ (k.1 = 1 → k.2.1 < 11) ∧ (k.1 = 2 → k.2.1 ≤ 2805)
theorem tk_in {t : List Nat} {p : Nat} (hp : p ≤ t.length) (h8 : ∀ b ∈ t, b < 256) : ti_ t p (tk_ t p) := by
  have h1 : ru_ bl_ t p ≤ t.length := ru_le (t.length - p) p (by omega)
  have h2 : p ≤ ru_ bl_ t p := ru_ge
  unfold tk_
  generalize ru_ bl_ t p = s at h1 h2 ⊢
  by_cases hs : s < t.length
  · rw [if_pos hs]
    by_cases ha : al_ (t.getD s 0) = true
    · rw [if_pos ha]
      have h3 : s < ru_ al_ t s := by rw [ru_s hs ha]; exact ru_ge
      have h4 : ru_ al_ t s ≤ t.length := ru_le (t.length - s) s (by omega)
      cases hw : wi_ ((t.drop s).take (ru_ al_ t s - s)) with
      | none => simp [ti_]; omega
      | some w => have := (wi_in hw).2; simp [ti_]; omega
    · rw [if_neg ha]
      by_cases hd : dg_ (t.getD s 0) = true
      · rw [if_pos hd]
        have h3 : s < ru_ dg_ t s := by rw [ru_s hs hd]; exact ru_ge
        have h4 : ru_ dg_ t s ≤ t.length := ru_le (t.length - s) s (by omega)
        by_cases h5 : ru_ dg_ t s - s ≤ 2
        · rw [if_pos h5]
          have hnv := nv_le (t := t) (s := s) (t_256 h8)
          have hnv2 : nv_ t s (ru_ dg_ t s - s) ≤ 2805 := by
            rcases (by omega : ru_ dg_ t s - s = 0 ∨ ru_ dg_ t s - s = 1 ∨ ru_ dg_ t s - s = 2) with h | h | h <;> rw [h] <;> omega
          simp [ti_]; omega
        · rw [if_neg h5]; simp [ti_]; omega
      · rw [if_neg hd]
        by_cases h5 : t.getD s 0 = 59
        · rw [if_pos h5]; simp [ti_]; omega
        · rw [if_neg h5]; simp [ti_]; omega
  · rw [if_neg hs]; simp [ti_]; omega
theorem rw_lt : ∀ w, w < 11 → rw_.getD w 0 < 9 ∧ ∀ b, sa_.getD w none = some b → b ≤ 1 ∧ (rw_.getD w 0 = 1 ∨ rw_.getD w 0 = 7) := by
  intro w hw
  match w, hw with
  | 0, _ => exact ⟨by decide, fun b h => by simp [sa_] at h⟩
  | 1, _ => exact ⟨by decide, fun b h => by simp [sa_] at h; subst h; decide⟩
  | 2, _ => exact ⟨by decide, fun b h => by simp [sa_] at h; subst h; decide⟩
  | 3, _ => exact ⟨by decide, fun b h => by simp [sa_] at h⟩
  | 4, _ => exact ⟨by decide, fun b h => by simp [sa_] at h⟩
  | 5, _ => exact ⟨by decide, fun b h => by simp [sa_] at h⟩
  | 6, _ => exact ⟨by decide, fun b h => by simp [sa_] at h⟩
  | 7, _ => exact ⟨by decide, fun b h => by simp [sa_] at h⟩
  | 8, _ => exact ⟨by decide, fun b h => by simp [sa_] at h; subst h; decide⟩
  | 9, _ => exact ⟨by decide, fun b h => by simp [sa_] at h; subst h; decide⟩
  | 10, _ => exact ⟨by decide, fun b h => by simp [sa_] at h⟩
  | k + 11, h => exact absurd h (by omega)
theorem rb_ud {u : Nat → Nat} {w v : Nat} (hb : rb_ u) (hw : w < 9) (h1 : lt_.getD w 0 ≤ v) (h2 : v ≤ mt_.getD w 0) : rb_ (ud_ u w v) := by
  match w, hw, h1, h2 with
  | 0, _, h1, h2 => simp [lt_, mt_] at h1 h2; simp [rb_, ud_] at hb ⊢; omega
  | 1, _, h1, h2 => simp [lt_, mt_] at h1 h2; simp [rb_, ud_] at hb ⊢; omega
  | 2, _, h1, h2 => simp [lt_, mt_] at h1 h2; simp [rb_, ud_] at hb ⊢; omega
  | 3, _, h1, h2 => simp [lt_, mt_] at h1 h2; simp [rb_, ud_] at hb ⊢; omega
  | 4, _, h1, h2 => simp [lt_, mt_] at h1 h2; simp [rb_, ud_] at hb ⊢; omega
  | 5, _, h1, h2 => simp [lt_, mt_] at h1 h2; simp [rb_, ud_] at hb ⊢; omega
  | 6, _, h1, h2 => simp [lt_, mt_] at h1 h2; simp [rb_, ud_] at hb ⊢; omega
  | 7, _, h1, h2 => simp [lt_, mt_] at h1 h2; simp [rb_, ud_] at hb ⊢; omega
  | 8, _, h1, h2 => simp [lt_, mt_] at h1 h2; simp [rb_, ud_] at hb ⊢; omega
  | k + 9, h, _, _ => exact absurd h (by omega)
/-- a line's bounds: a fault is told by a number, all else stays in its bounds -/
theorem lf_in {t : List Nat} {T p : Nat} {u : Nat → Nat} (hp : p ≤ t.length) (h8 : ∀ b ∈ t, b < 256) : (∀ e, lf_ t T u (tk_ t p) = .inl e → (1 ≤ e.1 ∧ e.1 ≤ 4) ∧ e.2 ≤ t.length) ∧ ∀ x, lf_ t T u (tk_ t p) = .inr x → x.1 = T ∧ x.2.1 = u ∧ p < x.2.2 ∧ x.2.2 ≤ t.length := by
  have h := tk_in hp h8
  unfold ti_ at h
  unfold lf_
  split
  · refine ⟨fun e he => ?_, fun x hx => by cases hx⟩
    cases he; exact ⟨by simp, h.2.1⟩
  · split
    · refine ⟨fun e he => (by cases he), fun x hx => ?_⟩
      cases hx
      exact ⟨rfl, rfl, h.2.2.2.1 (by omega), (h.2.2.1 (by omega)).2⟩
    · refine ⟨fun e he => ?_, fun x hx => by cases hx⟩
      cases he; exact ⟨by simp, h.2.1⟩
theorem li_in {t : List Nat} {T p : Nat} {k : Nat × Nat × Nat × Nat} {u : Nat → Nat} (hk : ti_ t p k) (hT : T < 512) (hb : rb_ u) (h8 : ∀ b ∈ t, b < 256) : (∀ e, li_ t k T u = .inl e → (1 ≤ e.1 ∧ e.1 ≤ 4) ∧ e.2 ≤ t.length) ∧ ∀ x, li_ t k T u = .inr x → x.1 < 512 ∧ rb_ x.2.1 ∧ p < x.2.2 ∧ x.2.2 ≤ t.length := by
  unfold ti_ at hk
  unfold li_
  by_cases h1 : k.1 = 1
  · rw [if_pos h1]
    have hp := hk.2.2.1 (by omega)
    have hpl := hk.2.2.2.1 (Or.inl h1)
    obtain ⟨hr9, hsa⟩ := rw_lt _ (hk.2.2.2.2.1 h1)
    generalize rw_.getD k.2.1 0 = w at hr9 hsa ⊢
    have hT2 : T ||| 2 ^ w < 512 := Nat.or_lt_two_pow (n := 9) hT (Nat.pow_lt_pow_right (by omega) hr9)
    split
    · refine ⟨fun e he => ?_, fun x hx => by cases hx⟩
      cases he; exact ⟨by simp, hk.2.1⟩
    · cases hs : sa_.getD k.2.1 none with
      | some b =>
        have hb1 := hsa b hs
        have h := lf_in (t := t) (T := T ||| 2 ^ w) (u := ud_ u w b) hp.2 h8
        refine ⟨h.1, fun x hx => ?_⟩
        obtain ⟨g1, g2, g3, g4⟩ := h.2 x hx
        refine ⟨by rw [g1]; exact hT2, ?_, by omega, g4⟩
        rw [g2]
        rcases hb1.2 with rfl | rfl
        · exact rb_ud hb (by omega) (by simp [lt_]) (by simp [mt_]; omega)
        · exact rb_ud hb (by omega) (by simp [lt_]) (by simp [mt_]; omega)
      | none =>
        show (∀ e, lg_ t _ _ _ _ = .inl e → _) ∧ (∀ x, lg_ t _ _ _ _ = .inr x → _)
        have hk2 := tk_in hp.2 h8
        unfold ti_ at hk2
        unfold lg_
        split
        · refine ⟨fun e he => ?_, fun x hx => by cases hx⟩
          cases he; exact ⟨by simp, hk2.2.1⟩
        · split
          · split
            · refine ⟨fun e he => ?_, fun x hx => by cases hx⟩
              cases he; exact ⟨by simp, hk2.2.1⟩
            · rename_i hv
              have hp2 := hk2.2.2.1 (by omega)
              have h := lf_in (t := t) (T := T ||| 2 ^ w) (u := ud_ u w (tk_ t k.2.2.2).2.1) hp2.2 h8
              refine ⟨h.1, fun x hx => ?_⟩
              obtain ⟨g1, g2, g3, g4⟩ := h.2 x hx
              refine ⟨by rw [g1]; exact hT2, ?_, by omega, g4⟩
              rw [g2]
              exact rb_ud hb hr9 (by omega) (by omega)
          · refine ⟨fun e he => ?_, fun x hx => by cases hx⟩
            cases he; exact ⟨by simp, hk2.2.1⟩
  · rw [if_neg h1]
    refine ⟨fun e he => ?_, fun x hx => by cases hx⟩
    cases he; exact ⟨by simp, hk.2.1⟩
theorem r0_b : rb_ r0_ := by unfold rb_; decide
theorem pz_in {t : List Nat} (h8 : ∀ b ∈ t, b < 256) : ∀ (m p T n : Nat) (u : Nat → Nat), p ≤ t.length → t.length < p + m → T < 512 → rb_ u → n ≤ p → (∀ e, pz_ t m (tk_ t p) T u n = .inl e → (1 ≤ e.1 ∧ e.1 ≤ 4) ∧ e.2 ≤ t.length) ∧ ∀ x, pz_ t m (tk_ t p) T u n = .inr x → rb_ x.1 ∧ x.2 ≤ t.length
  | 0, p, T, n, u, h1, h2, _, _, _ => by omega
  | m + 1, p, T, n, u, h1, h2, hT, hb, hn => by
    have hk := tk_in h1 h8
    have hl := li_in (u := u) hk hT hb h8
    unfold pz_
    split
    · refine ⟨fun e he => ?_, fun x hx => by cases hx⟩
      cases he; exact ⟨by simp, hk.2.1⟩
    · split
      · refine ⟨fun e he => (by cases he), fun x hx => ?_⟩
        cases hx; exact ⟨hb, by omega⟩
      · cases hli : li_ t (tk_ t p) T u with
        | inl e => exact ⟨fun e2 he => by cases he; exact hl.1 e hli, fun x hx => by cases hx⟩
        | inr x =>
          obtain ⟨g1, g2, g3, g4⟩ := hl.2 x hli
          exact pz_in h8 m x.2.2 x.1 (n + 1) x.2.1 g4 (by omega) g1 g2 (by omega)
theorem te_in {t : List Nat} (h8 : ∀ b ∈ t, b < 256) : (∀ e, te_ t = .inl e → (1 ≤ e.1 ∧ e.1 ≤ 5) ∧ e.2 ≤ t.length) ∧ ∀ x, te_ t = .inr x → rb_ x.1 ∧ ok_ x.1 ∧ x.2 ≤ t.length := by
  have h := pz_in h8 (t.length + 1) 0 0 0 r0_ (by omega) (by omega) (by omega) r0_b (by omega)
  unfold te_
  cases hp : pz_ t (t.length + 1) (tk_ t 0) 0 r0_ 0 with
  | inl e =>
    have := h.1 e hp
    exact ⟨fun e2 he => by cases he; omega, fun x hx => by cases hx⟩
  | inr x =>
    have := h.2 x hp
    dsimp only
    by_cases q : x.1 2 < 2 ^ x.1 0 ∧ x.1 3 < 2 ^ x.1 0 ∧ x.1 2 ≠ x.1 3
    · rw [if_pos q]
      exact ⟨fun e he => (by cases he), fun y hy => by cases hy; exact ⟨this.1, q, this.2⟩⟩
    · rw [if_neg q]
      exact ⟨fun e he => by cases he; exact ⟨by simp, Nat.le_refl _⟩, fun y hy => by cases hy⟩
