theorem idx_r {w b r0 i : Nat} (zr : r0 ≤ 1) (zb0 : 4 ≤ b) (hlt : i < w) : w * r0 + i < w * b := by
  have h1 : w * r0 ≤ w * 1 := Nat.mul_le_mul_left w zr
  have h2 : w * 2 ≤ w * b := Nat.mul_le_mul_left w (by omega)
  omega
theorem idx_0 {w b r0 : Nat} (zr : r0 ≤ 1) (zb0 : 4 ≤ b) (zw0 : 12 ≤ w) : w * r0 < w * b := by
  have h := idx_r (w := w) (b := b) (r0 := r0) (i := 0) zr zb0 (by omega)
  omega
theorem idx_m {w b : Nat} (zw0 : 12 ≤ w) (zw : w ≤ 40) (zb0 : 4 ≤ b) (zb : b ≤ 64) (zwb : w * b ≤ 2560) {x y : Int32} (h1 : ¬ x < 0) (h2 : ¬ nI b ≤ x) (h3 : ¬ y < 0) (h4 : ¬ nI w ≤ y) : vp_in (nI w * x + y) (w * b) := by
  rcases pk_ix x (n := b) (by omega) with h | h | ⟨i, hi, rfl⟩
  · exact absurd h h1
  · exact absurd h h2
  rcases pk_ix y (n := w) (by omega) with h | h | ⟨k, hk, rfl⟩
  · exact absurd h h3
  · exact absurd h h4
  rw [pk_mul, nI_add]
  refine vp_in_nI ?_ (by omega)
  have e1 : w * (i + 1) ≤ w * b := Nat.mul_le_mul_left w hi
  have e2 : w * (i + 1) = w * i + w := Nat.mul_succ w i
  omega
