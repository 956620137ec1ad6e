/-! The numbers of p1: the clamped sizes, the place of a WORD, what a fresh object counts. -/
def cellF (w b : Nat) (x y : Int32) : Int32 := if x < 0 then -1 else if nI b ≤ x then -1 else if y < 0 then -1 else if nI w ≤ y then -1 else x * nI w + y
def decF (w b : Nat) (x y : Int32) : Int32 := if x < 0 then 0 else if nI b ≤ x then 0 else if y < 0 then 0 else if nI w ≤ y then 0 else 1
theorem in_guard {x : Int32} {n : Nat} (h1 : ¬ x < 0) (h2 : ¬ nI n ≤ x) (hn : n < 2 ^ 31) : vp_in x n := by
  rcases pk_ix x hn with h | h | ⟨j, hj, rfl⟩
  · exact absurd h h1
  · exact absurd h h2
  · exact vp_in_nI hj hn
theorem in_guard2 {x : Int32} {n : Nat} (h1 : ¬ x < 0) (h2 : x < nI n) (hn : n < 2 ^ 31) : vp_in x n := in_guard h1 (fun h => absurd h2 (Int32.not_lt.mpr h)) hn
theorem cellF_spec {w b : Nat} (zw0 : 12 ≤ w) (zw : w ≤ 40) (zb0 : 4 ≤ b) (zb : b ≤ 64) (zwb : w * b ≤ 2560) (x y : Int32) : (cellF w b x y = -1 ∧ decF w b x y = 0) ∨ (∃ j : Nat, j < w * b ∧ cellF w b x y = nI j ∧ decF w b x y = 1) := by
  unfold cellF decF
  rcases pk_ix x (n := b) (by omega) with h | h | ⟨i, hi, rfl⟩
  · left; simp [h]
  · left; by_cases h0 : x < 0 <;> simp [h, h0]
  · have h1 : ¬ nI i < 0 := nI_pos (by omega)
    have h2 : ¬ nI b ≤ nI i := nI_ge hi (by omega)
    rcases pk_ix y (n := w) (by omega) with h | h | ⟨k, hk, rfl⟩
    · left; simp only [if_neg h1, if_neg h2, if_pos h, and_self]
    · left
      by_cases h0 : y < 0
      · simp only [if_neg h1, if_neg h2, if_pos h0, and_self]
      · simp only [if_neg h1, if_neg h2, if_neg h0, if_pos h, and_self]
    · right
      have h3 : ¬ nI k < 0 := nI_pos (by omega)
      have h4 : ¬ nI w ≤ nI k := nI_ge hk (by omega)
      refine ⟨i * w + k, ?_, ?_, ?_⟩
      · have e1 : (i + 1) * w ≤ b * w := Nat.mul_le_mul_right w hi
        have e2 : (i + 1) * w = i * w + w := Nat.succ_mul i w
        have e3 : b * w = w * b := Nat.mul_comm b w
        omega
      · simp only [if_neg h1, if_neg h2, if_neg h3, if_neg h4]
        rw [pk_mul, nI_add]
      · simp only [if_neg h1, if_neg h2, if_neg h3, if_neg h4]
theorem decF_lt {w b : Nat} (zw0 : 12 ≤ w) (zw : w ≤ 40) (zb0 : 4 ≤ b) (zb : b ≤ 64) (zwb : w * b ≤ 2560) {x y : Int32} (c : cellF w b x y < 0) : decF w b x y = 0 := by
  rcases cellF_spec zw0 zw zb0 zb zwb x y with ⟨-, h⟩ | ⟨j, hj, h, -⟩
  · exact h
  · rw [h] at c; exact absurd c (nI_pos (by omega))
theorem decF_ge {w b : Nat} (zw0 : 12 ≤ w) (zw : w ≤ 40) (zb0 : 4 ≤ b) (zb : b ≤ 64) (zwb : w * b ≤ 2560) {x y : Int32} (_ : ¬ cellF w b x y < 0) (c : ¬ cellF w b x y < nI (w * b)) : decF w b x y = 0 := by
  rcases cellF_spec zw0 zw zb0 zb zwb x y with ⟨-, h⟩ | ⟨j, hj, h, -⟩
  · exact h
  · rw [h] at c; exact absurd (nI_lt hj (by omega)) c
theorem decF_in {w b : Nat} (zw0 : 12 ≤ w) (zw : w ≤ 40) (zb0 : 4 ≤ b) (zb : b ≤ 64) (zwb : w * b ≤ 2560) {x y : Int32} (c : ¬ cellF w b x y < 0) : decF w b x y = 1 := by
  rcases cellF_spec zw0 zw zb0 zb zwb x y with ⟨h, -⟩ | ⟨j, hj, -, h⟩
  · rw [h] at c; exact absurd (by decide) c
  · exact h
/-- the clamped words and blocks of the constructor's arguments -/
def clW (x : Int32) : Int32 := if 12 < (if x < 40 then x else 40) then (if x < 40 then x else 40) else 12
def clB (x : Int32) : Int32 := if 4 < (if x < 64 then x else 64) then (if x < 64 then x else 64) else 4
def nW (x : Int32) : Nat := (clW x).toNatClampNeg
def nB (x : Int32) : Nat := (clB x).toNatClampNeg
theorem clW_nI (x : Int32) : clW x = nI (nW x) ∧ 12 ≤ nW x ∧ nW x ≤ 40 := by
  have h : ¬ clW x < 0 ∧ (12 : Int32) ≤ clW x ∧ clW x ≤ 40 := by
    unfold clW
    split <;> split <;> rename_i h1 h2 <;> (try rw [if_pos h2] at h1) <;> (try rw [if_neg h2] at h1) <;> simp only [Int32.lt_iff_toInt_lt, Int32.le_iff_toInt_le] at * <;> simp at * <;> omega
  obtain ⟨h0, h1, h2⟩ := h
  obtain ⟨j, hj, e⟩ := nI_of2 (x := clW x) (M := 40) (n := 40) (by decide) h0 h2
  have e2 : nW x = j := by unfold nW; rw [e]; exact nI_clamp (by omega)
  rw [e2]
  refine ⟨e, ?_, hj⟩
  rw [e] at h1
  exact (nI_leI (a := 12) (by decide) (by omega)).mp h1
theorem clB_nI (x : Int32) : clB x = nI (nB x) ∧ 4 ≤ nB x ∧ nB x ≤ 64 := by
  have h : ¬ clB x < 0 ∧ (4 : Int32) ≤ clB x ∧ clB x ≤ 64 := by
    unfold clB
    split <;> split <;> rename_i h1 h2 <;> (try rw [if_pos h2] at h1) <;> (try rw [if_neg h2] at h1) <;> simp only [Int32.lt_iff_toInt_lt, Int32.le_iff_toInt_le] at * <;> simp at * <;> omega
  obtain ⟨h0, h1, h2⟩ := h
  obtain ⟨j, hj, e⟩ := nI_of2 (x := clB x) (M := 64) (n := 64) (by decide) h0 h2
  have e2 : nB x = j := by unfold nB; rw [e]; exact nI_clamp (by omega)
  rw [e2]
  refine ⟨e, ?_, hj⟩
  rw [e] at h1
  exact (nI_leI (a := 4) (by decide) (by omega)).mp h1
theorem nWB (x y : Int32) : nW x * nB y ≤ 2560 := Nat.mul_le_mul (clW_nI x).2.2 (clB_nI y).2.2
/-- what count answers on a fresh object -/
def cntF (w b : Nat) (x : Int32) : Int32 := if x = 0 then nI b else if x = 1 then nI w else if x = 2 then 0 else if x = 3 then 1 else if x = 4 then -1 else 0
theorem cb_int {n : Nat} (h : n ≤ 4096) : n * componentBytes .int ≤ 536870912 := by
  have e : componentBytes .int = 4 := by first | rfl | decide
  rw [e]; omega
theorem cb_long {n : Nat} (h : n ≤ 4096) : n * componentBytes .long ≤ 536870912 := by
  have e : componentBytes .long = 8 := by first | rfl | decide
  rw [e]; omega
theorem cb_boolean {n : Nat} (h : n ≤ 4096) : n * componentBytes .boolean ≤ 536870912 := by
  have e : componentBytes .boolean = 1 := by first | rfl | decide
  rw [e]; omega
theorem decF_nar {w b : Nat} {x y : Int32} : narrow .boolean (.int (decF w b x y)) = .int (decF w b x y) := by
  unfold decF
  split
  · rfl
  · split
    · rfl
    · split
      · rfl
      · split <;> rfl
