theorem idx_g {w b q0 i : Nat} (hq : q0 < b) (hi : i < w) : w * q0 + i < w * b := by
  have h1 : w * (q0 + 1) ≤ w * b := Nat.mul_le_mul_left w hq
  have h2 : w * (q0 + 1) = w * q0 + w := Nat.mul_succ w q0
  omega
theorem idx_m {w b : Nat} (zw0 : 12 ≤ w) (zw : w ≤ 40) (zb0 : 4 ≤ b) (zb : b ≤ 64) (zwb : w * b ≤ 2560) {x y : Int32} (h1 : ¬ x < 0) (h2 : ¬ nI b ≤ x) (h3 : ¬ y < 0) (h4 : ¬ nI w ≤ y) : vp_in (nI w * x + y) (w * b) := by
  rcases pk_ix x (n := b) (by omega) with h | h | ⟨i, hi, rfl⟩
  · exact absurd h h1
  · exact absurd h h2
  · rcases pk_ix y (n := w) (by omega) with h | h | ⟨j, hj, rfl⟩
    · exact absurd h h3
    · exact absurd h h4
    · rw [pk_mul, nI_add]
      exact vp_in_nI (idx_g hi hj) (by omega)
theorem min_le {x y z : Int32} (h : z = if y < x then y else x) : z ≤ x := by
  subst h
  by_cases c : y < x
  · rw [if_pos c]; exact Int32.le_of_lt c
  · rw [if_neg c]; exact Int32.le_refl _
theorem lt_of_min {z : Int32} {w i : Nat} (h : z ≤ nI w) (hc : ¬ z ≤ nI i) (hw : w < 2 ^ 31) (hi : i < 2 ^ 31) : i < w := by
  apply Nat.lt_of_not_le
  intro h9
  exact hc (Int32.le_trans h (nI_le h9 hi))
theorem inv_empty {b : Nat} {k mm bl vl : Nat → Int32} (h : ∀ x, x < 140 → k x = 0) : Inv b k mm bl vl (-1) := by
  refine ⟨fun _ => 0, fun _ => 0, fun _ => 0, fun _ => 0, fun _ _ => 0, ?_, ?_, ?_, Or.inl rfl⟩
  · intro x hx
    exact ⟨h x hx, fun h9 => absurd rfl h9, fun h9 => absurd (show (0 : Nat) = 2 from h9) (by decide)⟩
  · intro x hx
    exact ⟨Nat.zero_le 2, fun h9 => absurd rfl h9, fun h9 => absurd (show (0 : Nat) = 1 from h9) (by decide), fun h9 => absurd (show (0 : Nat) = 2 from h9) (by decide)⟩
  · exact ⟨fun x hx h9 => absurd rfl h9, fun x y hx hy h9 => absurd rfl h9⟩
theorem isT_step {k bl : Nat → Int32} {p0 : Int32} {i : Nat} (h : ∀ y, y < i → ¬ k y = 0 → ¬ bl y = p0) (hc : k i = 0 ∨ ¬ bl i = p0) : ∀ y, y < i + 1 → ¬ k y = 0 → ¬ bl y = p0 := by
  intro y hy h1
  by_cases e : y = i
  · subst e
    rcases hc with h2 | h2
    · exact absurd h2 h1
    · exact h2
  · exact h y (by omega) h1
def FreeR (k bl fv : Nat → Int32) (nc i : Nat) : Prop := (∀ j, j < nc → ∃ q, fv j = nI q ∧ 2 ≤ q ∧ q < i ∧ ∀ x, x < 140 → ¬ k x = 0 → ¬ bl x = nI q) ∧ ∀ j, j < nc → ∀ j2, j2 < nc → fv j = fv j2 → j = j2
theorem FreeR.nil (k bl fv : Nat → Int32) (i : Nat) : FreeR k bl fv 0 i := ⟨fun j h => absurd h (Nat.not_lt_zero j), fun j h => absurd h (Nat.not_lt_zero j)⟩
theorem FreeR.mono {k bl fv : Nat → Int32} {nc i i2 : Nat} (h : FreeR k bl fv nc i) (hi : i ≤ i2) : FreeR k bl fv nc i2 := ⟨fun j hj => by
  obtain ⟨q, h1, h2, h3, h4⟩ := h.1 j hj
  exact ⟨q, h1, h2, by omega, h4⟩, h.2⟩
theorem FreeR.add {k bl fv fv2 : Nat → Int32} {nc i : Nat} (h : FreeR k bl fv nc i) (hf : ∀ x, x < 140 → ¬ k x = 0 → ¬ bl x = nI i) (e : fv2 = upd fv nc (nI i)) (h2 : 2 ≤ i) (hi : i < 2 ^ 31) : FreeR k bl fv2 (nc + 1) (i + 1) := by
  subst e
  have old : ∀ j, j < nc → upd fv nc (nI i) j = fv j := fun j hj => pk_un (by omega)
  have new : upd fv nc (nI i) nc = nI i := pk_us
  constructor
  · intro j hj
    by_cases e : j = nc
    · subst e
      exact ⟨i, new, h2, by omega, hf⟩
    · obtain ⟨q, a1, a2, a3, a4⟩ := h.1 j (by omega)
      exact ⟨q, by rw [old j (by omega)]; exact a1, a2, by omega, a4⟩
  · intro j hj j2 hj2 e
    by_cases e1 : j = nc <;> by_cases e2 : j2 = nc
    · omega
    · subst e1
      obtain ⟨q, a1, a2, a3, a4⟩ := h.1 j2 (by omega)
      rw [new, old j2 (by omega), a1] at e
      have := (nI_eq hi (by omega)).mp e
      omega
    · subst e2
      obtain ⟨q, a1, a2, a3, a4⟩ := h.1 j (by omega)
      rw [new, old j (by omega), a1] at e
      have := (nI_eq (by omega) hi).mp e
      omega
    · rw [old j (by omega), old j2 (by omega)] at e
      exact h.2 j (by omega) j2 (by omega) e
theorem cpy_all {f g g2 : Nat → Int32} {n : Nat} (e : g2 = va_cpy f g (0 : Int32).toNatClampNeg (0 : Int32).toNatClampNeg (nI n).toNatClampNeg) (hn : n < 2 ^ 31) : ∀ j, j < n → g2 j = f j := by
  intro j hj
  rw [e, show (0 : Int32).toNatClampNeg = 0 from rfl, nI_clamp hn, pk_cpy_in (by omega) (by omega)]
  show f (0 + (j - 0)) = f j
  rw [Nat.sub_zero, Nat.zero_add]
theorem cpy_bool {f g g2 : Nat → Int32} (e : g2 = va_cpy f g (0 : Int32).toNatClampNeg (0 : Int32).toNatClampNeg (nI 140).toNatClampNeg) (h : ∀ j, j < 140 → f j = 0 ∨ f j = 1) : ∀ j, j < 140 → g2 j = 0 ∨ g2 j = 1 := by
  intro j hj
  rw [cpy_all e (by omega) j hj]
  exact h j hj
