/-! The disk's trees: what isRight finds and reads takes in. -/
def dn (d : Nat → Int32) (w q : Nat) : Nat := (d (w * q + 1)).toNatClampNeg
def dch (d : Nat → Int32) (w q i : Nat) : Nat := (d (w * q + 2 + 2 * i)).toNatClampNeg
def DT (d : Nat → Int32) (w b lm cm : Nat) : Nat → Nat → Prop
  | 0, q => 2 ≤ q ∧ q < b ∧ d (w * q) = 1 ∧ d (w * q + 1) = nI (dn d w q) ∧ 1 ≤ dn d w q ∧ dn d w q ≤ lm
  | h + 1, q => 2 ≤ q ∧ q < b ∧ d (w * q) = 2 ∧ d (w * q + 1) = nI (dn d w q) ∧ 2 ≤ dn d w q ∧ dn d w q ≤ cm ∧ ∀ i, i < dn d w q → d (w * q + 2 + 2 * i) = nI (dch d w q i) ∧ DT d w b lm cm h (dch d w q i)
def DB (d : Nat → Int32) (w : Nat) : Nat → Nat → List Nat
  | 0, q => [q]
  | h + 1, q => q :: (List.range (dn d w q)).flatMap (fun i => DB d w h (dch d w q i))
theorem dt_rng {d : Nat → Int32} {w b lm cm : Nat} : ∀ {h q : Nat}, DT d w b lm cm h q → 2 ≤ q ∧ q < b
  | 0, _, h => ⟨h.1, h.2.1⟩
  | _ + 1, _, h => ⟨h.1, h.2.1⟩
theorem db_self {d : Nat → Int32} {w : Nat} : ∀ {h q : Nat}, q ∈ DB d w h q
  | 0, _ => List.mem_cons_self
  | _ + 1, _ => List.mem_cons_self
theorem db_rng {d : Nat → Int32} {w b lm cm : Nat} : ∀ {h q : Nat}, DT d w b lm cm h q → ∀ x ∈ DB d w h q, 2 ≤ x ∧ x < b := by
  intro h
  induction h with
  | zero =>
    intro q hq x hx
    rw [List.mem_singleton.mp hx]
    exact ⟨hq.1, hq.2.1⟩
  | succ h ih =>
    intro q hq x hx
    rcases List.mem_cons.mp hx with e | hx
    · rw [e]; exact ⟨hq.1, hq.2.1⟩
    · obtain ⟨i, h1, h2⟩ := List.mem_flatMap.mp hx
      exact ih (hq.2.2.2.2.2.2 i (List.mem_range.mp h1)).2 x h2
theorem flat_congr {f g : Nat → List Nat} : ∀ (n : Nat), (∀ i, i < n → f i = g i) → (List.range n).flatMap f = (List.range n).flatMap g := by
  intro n
  induction n with
  | zero => intro _; rfl
  | succ n ih =>
    intro h
    rw [List.range_succ, List.flatMap_append, List.flatMap_append, ih (fun i hi => h i (by omega))]
    show _ ++ (f n ++ []) = _ ++ (g n ++ [])
    rw [h n (by omega)]
theorem dt_ext {d d2 : Nat → Int32} {w b lm cm : Nat} (hw : 12 ≤ w) (h1 : 2 * lm + 3 ≤ w) (h2 : 2 * cm + 2 ≤ w) (he : ∀ q, 2 ≤ q → ∀ j, j < w → d2 (w * q + j) = d (w * q + j)) : ∀ (h q : Nat), DT d w b lm cm h q → DT d2 w b lm cm h q ∧ DB d2 w h q = DB d w h q := by
  have hdn : ∀ q, 2 ≤ q → dn d2 w q = dn d w q := fun q hq => by unfold dn; rw [he q hq 1 (by omega)]
  intro h
  induction h with
  | zero =>
    intro q ⟨a1, a2, a3, a4, a5, a6⟩
    refine ⟨⟨a1, a2, ?_, ?_, ?_, ?_⟩, rfl⟩
    · have := he q a1 0 (by omega)
      rw [Nat.add_zero] at this
      rw [this]; exact a3
    · rw [he q a1 1 (by omega), hdn q a1]; exact a4
    · rw [hdn q a1]; exact a5
    · rw [hdn q a1]; exact a6
  | succ h ih =>
    intro q ⟨a1, a2, a3, a4, a5, a6, a7⟩
    have hc : ∀ i, i < dn d w q → d2 (w * q + 2 + 2 * i) = d (w * q + 2 + 2 * i) := by
      intro i hi
      have := he q a1 (2 + 2 * i) (by omega)
      rw [← Nat.add_assoc] at this
      exact this
    have hdc : ∀ i, i < dn d w q → dch d2 w q i = dch d w q i := fun i hi => by unfold dch; rw [hc i hi]
    refine ⟨⟨a1, a2, ?_, ?_, ?_, ?_, fun i hi => ?_⟩, ?_⟩
    · have := he q a1 0 (by omega)
      rw [Nat.add_zero] at this
      rw [this]; exact a3
    · rw [he q a1 1 (by omega), hdn q a1]; exact a4
    · rw [hdn q a1]; exact a5
    · rw [hdn q a1]; exact a6
    · rw [hdn q a1] at hi
      rw [hc i hi, hdc i hi]
      exact ⟨(a7 i hi).1, (ih _ (a7 i hi).2).1⟩
    · show q :: _ = q :: _
      rw [hdn q a1]
      congr 1
      refine flat_congr _ (fun i hi => ?_)
      rw [hdc i hi]
      exact (ih _ (a7 i hi).2).2
def IsR (d : Nat → Int32) (w b lm cm r0 dp : Nat) (p1 : Int32) (rc rc2 : Nat → Int32) (lf lf2 r : Int32) : Prop := r = 0 ∨ (r = 1 ∧ (∀ y, ¬ rc y = 0 → ¬ rc2 y = 0) ∧ (¬ lf = 0 → lf2 = lf) ∧ ∃ h q, p1 = nI q ∧ dp + h ≤ 12 ∧ lf2 = nI (dp + h) ∧ DT d w b lm cm h q ∧ (DB d w h q).Nodup ∧ ∀ x ∈ DB d w h q, rc (120 * r0 + x) = 0 ∧ ¬ rc2 (120 * r0 + x) = 0)
theorem upd1_ne {rc rc1 : Nat → Int32} {z : Nat} (e : rc1 = upd rc z 1) : ∀ y, ¬ rc y = 0 → ¬ rc1 y = 0 := by
  subst e
  intro y h
  by_cases c : y = z
  · subst c; rw [pk_us]; decide
  · rw [pk_un c]; exact h
theorem isR_leaf {d : Nat → Int32} {w b lm cm r0 dp q n : Nat} {rc rc1 : Nat → Int32} {lf : Int32} (hq1 : 2 ≤ q) (hq2 : q < b) (hd : d (w * q) = 1) (hn : d (w * q + 1) = nI n) (n1 : 1 ≤ n) (n2 : n ≤ lm) (hlm : lm ≤ 18) (hdp : dp ≤ 12) (hlf : lf = 0 ∨ lf = nI dp) (h0 : rc (120 * r0 + q) = 0) (e : rc1 = upd rc (120 * r0 + q) 1) : IsR d w b lm cm r0 dp (nI q) rc rc1 lf (nI dp) 1 := by
  have hdn : dn d w q = n := by unfold dn; rw [hn]; exact nI_clamp (by omega)
  refine Or.inr ⟨rfl, upd1_ne e, fun h9 => by rcases hlf with h | h; exact absurd h h9; exact h.symm, 0, q, rfl, by omega, rfl, ⟨hq1, hq2, hd, by rw [hdn]; exact hn, by omega, by omega⟩, nd1, fun x hx => ?_⟩
  rw [List.mem_singleton.mp hx]
  exact ⟨h0, by rw [e, pk_us]; decide⟩
def IrF (d : Nat → Int32) (w b lm cm r0 dp q : Nat) (rc1 rcv : Nat → Int32) (lf lfv : Int32) (i : Nat) : Prop := (∀ y, ¬ rc1 y = 0 → ¬ rcv y = 0) ∧ (¬ lf = 0 → lfv = lf) ∧ (i = 0 → lfv = lf) ∧ ∃ h, (0 < i → dp + 1 + h ≤ 12 ∧ lfv = nI (dp + 1 + h)) ∧ (∀ j, j < i → d (w * q + 2 + 2 * j) = nI (dch d w q j) ∧ DT d w b lm cm h (dch d w q j)) ∧ ((List.range i).flatMap (fun j => DB d w h (dch d w q j))).Nodup ∧ ∀ x ∈ (List.range i).flatMap (fun j => DB d w h (dch d w q j)), rc1 (120 * r0 + x) = 0 ∧ ¬ rcv (120 * r0 + x) = 0
theorem irF_start (d : Nat → Int32) (w b lm cm r0 dp q : Nat) (rc1 : Nat → Int32) (lf : Int32) : IrF d w b lm cm r0 dp q rc1 rc1 lf lf 0 := ⟨fun _ h => h, fun _ => rfl, fun _ => rfl, 0, fun h => absurd h (Nat.lt_irrefl 0), fun j h => absurd h (Nat.not_lt_zero j), List.nodup_nil, fun x h => absurd h (by show ¬ x ∈ []; exact List.not_mem_nil)⟩
theorem irF_step {d : Nat → Int32} {w b lm cm r0 dp q i : Nat} {rc1 rcv rc2 : Nat → Int32} {lf lfv lf2 r : Int32} (h : IrF d w b lm cm r0 dp q rc1 rcv lf lfv i) (hdp : dp ≤ 12) (hb : b ≤ 64) (hs : IsR d w b lm cm r0 (dp + 1) (d (w * q + 2 + 2 * i)) rcv rc2 lfv lf2 r) (hr : ¬ r = 0) : IrF d w b lm cm r0 dp q rc1 rc2 lf lf2 (i + 1) := by
  obtain ⟨a1, a2, a3, h, a4, a5, a6, a7⟩ := h
  rcases hs with e | ⟨_, s1, s2, h', q', s3, s4, s5, s6, s7, s8⟩
  · exact absurd e hr
  have hq' := dt_rng s6
  have hdc : dch d w q i = q' := by unfold dch; rw [s3]; exact nI_clamp (by omega)
  have hlf : ¬ lfv = 0 → lf2 = lfv := s2
  have hh : 0 < i → h' = h := by
    intro hi
    obtain ⟨c1, c2⟩ := a4 hi
    have c3 : ¬ lfv = 0 := by
      rw [c2]; intro e
      have := (nI_eq (b := 0) (by omega) (by decide)).mp e
      omega
    have c4 := s2 c3
    rw [s5, c2] at c4
    have := (nI_eq (by omega) (by omega)).mp c4
    omega
  have hall : ∀ j, j < i → d (w * q + 2 + 2 * j) = nI (dch d w q j) ∧ DT d w b lm cm h' (dch d w q j) := by
    intro j hj
    rw [hh (by omega)]; exact a5 j hj
  have hfl : (List.range i).flatMap (fun j => DB d w h' (dch d w q j)) = (List.range i).flatMap (fun j => DB d w h (dch d w q j)) := flat_congr i (fun j hj => by rw [hh (by omega)])
  have hsplit : (List.range (i + 1)).flatMap (fun j => DB d w h' (dch d w q j)) = (List.range i).flatMap (fun j => DB d w h (dch d w q j)) ++ DB d w h' q' := by
    rw [List.range_succ, List.flatMap_append, hfl]
    show _ ++ (DB d w h' (dch d w q i) ++ []) = _
    rw [List.append_nil, hdc]
  refine ⟨fun y hy => s1 y (a1 y hy), fun h9 => ?_, fun h9 => by omega, h', fun _ => ⟨by omega, s5⟩, fun j hj => ?_, ?_, fun x hx => ?_⟩
  · by_cases hi : i = 0
    · have := a3 hi
      rw [s2 (by rw [this]; exact h9), this]
    · have := a2 h9
      rw [s2 (by rw [this]; exact h9), this]
  · by_cases c : j = i
    · subst c
      rw [hdc]; exact ⟨s3, s6⟩
    · exact hall j (by omega)
  · rw [hsplit]
    refine List.nodup_append.mpr ⟨a6, s7, fun x hx y hy e => ?_⟩
    subst e
    exact (a7 x hx).2 (s8 x hy).1
  · rw [hsplit] at hx
    rcases List.mem_append.mp hx with hx | hx
    · exact ⟨(a7 x hx).1, s1 _ (a7 x hx).2⟩
    · refine ⟨?_, (s8 x hx).2⟩
      apply Classical.byContradiction
      intro h9
      exact a1 _ h9 (s8 x hx).1
theorem isR_inner {d : Nat → Int32} {w b lm cm r0 dp q n i : Nat} {rc rc1 rcv : Nat → Int32} {lf lfv : Int32} (h : IrF d w b lm cm r0 dp q rc1 rcv lf lfv i) (hi : n ≤ i) (hi2 : i ≤ n) (hq1 : 2 ≤ q) (hq2 : q < b) (hd : d (w * q) = 2) (hn : d (w * q + 1) = nI n) (n1 : 2 ≤ n) (n2 : n ≤ cm) (hcm : cm ≤ 19) (h0 : rc (120 * r0 + q) = 0) (e : rc1 = upd rc (120 * r0 + q) 1) : IsR d w b lm cm r0 dp (nI q) rc rcv lf lfv 1 := by
  obtain ⟨a1, a2, a3, h, a4, a5, a6, a7⟩ := h
  have hin : i = n := by omega
  subst hin
  have hdn : dn d w q = i := by unfold dn; rw [hn]; exact nI_clamp (by omega)
  obtain ⟨c1, c2⟩ := a4 (by omega)
  have hx : ∀ x, rc1 (120 * r0 + x) = 0 → x ≠ q ∧ rc (120 * r0 + x) = 0 := by
    intro x h9
    have hne : x ≠ q := by
      intro e9
      rw [e9, e, pk_us] at h9
      exact absurd h9 (by decide)
    rw [e, pk_un (by omega)] at h9
    exact ⟨hne, h9⟩
  refine Or.inr ⟨rfl, fun y hy => a1 y (upd1_ne e y hy), a2, h + 1, q, rfl, by omega, by rw [c2]; congr 1; omega, ⟨hq1, hq2, hd, by rw [hdn]; exact hn, by omega, by omega, fun j hj => a5 j (by omega)⟩, ?_, fun x hx9 => ?_⟩
  · show (q :: (List.range (dn d w q)).flatMap (fun i => DB d w h (dch d w q i))).Nodup
    rw [hdn]
    exact List.nodup_cons.mpr ⟨fun h9 => (hx q (a7 q h9).1).1 rfl, a6⟩
  · have hx8 : x ∈ q :: (List.range (dn d w q)).flatMap (fun i => DB d w h (dch d w q i)) := hx9
    rw [hdn] at hx8
    rcases List.mem_cons.mp hx8 with e9 | h9
    · rw [e9]; exact ⟨h0, a1 _ (by rw [e, pk_us]; decide)⟩
    · exact ⟨(hx x (a7 x h9).1).2, (a7 x h9).2⟩
def RootP (d : Nat → Int32) (w b lm cm r0 : Nat) : Prop := d (w * r0 + 2) = 0 ∨ ∃ h q, d (w * r0 + 2) = nI q ∧ h ≤ 11 ∧ DT d w b lm cm h q ∧ (DB d w h q).Nodup
theorem rootP_of {d : Nat → Int32} {w b lm cm r0 : Nat} {rc rc2 : Nat → Int32} {lf lf2 r : Int32} (h : IsR d w b lm cm r0 1 (d (w * r0 + 2)) rc rc2 lf lf2 r) (hr : ¬ r = 0) : RootP d w b lm cm r0 := by
  rcases h with e | ⟨_, _, _, h, q, s3, s4, s5, s6, s7, _⟩
  · exact absurd e hr
  · exact Or.inr ⟨h, q, s3, by omega, s6, s7⟩
theorem rootP_ext {d d2 : Nat → Int32} {w b lm cm r0 o : Nat} (hw : 12 ≤ w) (h1 : 2 * lm + 3 ≤ w) (h2 : 2 * cm + 2 ≤ w) (ho : o ≤ 1) (hr : r0 ≤ 1) (hne : o ≠ r0) (he : ∀ q, (q < w * o ∨ w * o + w ≤ q) → d2 q = d q) (h : RootP d w b lm cm r0) : RootP d2 w b lm cm r0 := by
  have e0 : d2 (w * r0 + 2) = d (w * r0 + 2) := by
    refine he _ ?_
    by_cases c : o = 0
    · have e1 : r0 = 1 := by omega
      subst c e1; omega
    · have e1 : r0 = 0 := by omega
      have e2 : o = 1 := by omega
      subst e1 e2; omega
  rcases h with h | ⟨h, q, s1, s2, s3, s4⟩
  · exact Or.inl (by rw [e0]; exact h)
  · have := dt_ext (b := b) (lm := lm) (cm := cm) (d2 := d2) hw h1 h2 (fun q hq j hj => he _ (Or.inr (by
      have h9 : w * 2 ≤ w * q := Nat.mul_le_mul_left w hq
      have h8 : w * o ≤ w * 1 := Nat.mul_le_mul_left w ho
      omega))) h q s3
    exact Or.inr ⟨h, q, by rw [e0]; exact s1, s2, this.1, by rw [this.2]; exact s4⟩
