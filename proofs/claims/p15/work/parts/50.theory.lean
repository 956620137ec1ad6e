/-! The reference's NODES as numbers: kn 0 free, 1 LEAF, 2 INNER; n how many; c the children; L the level from below; pa the parent (140: none). e: the one NODE that may have too many or too few just now (140: none). -/
def Tr (kn n L pa : Nat → Nat) (c : Nat → Nat → Nat) (e : Nat) : Prop := ∀ x, x < 140 → kn x ≤ 2 ∧ (kn x ≠ 0 → 1 ≤ L x ∧ n x ≤ 20 ∧ (x ≠ e → n x ≤ 19)) ∧ (kn x = 1 → L x = 1) ∧ (kn x = 2 → (x ≠ e → 2 ≤ n x) ∧ ∀ i, i < n x → c x i < 140 ∧ kn (c x i) ≠ 0 ∧ L (c x i) + 1 = L x ∧ pa (c x i) = x ∧ ∀ j, j < n x → c x i = c x j → i = j)
def Rl (k m vs : Nat → Int32) (kn n : Nat → Nat) (c : Nat → Nat → Nat) : Prop := ∀ x, x < 140 → k x = nI (kn x) ∧ (kn x ≠ 0 → m x = nI (n x)) ∧ (kn x = 2 → ∀ i, i < n x → vs (24 * x + i) = nI (c x i))
def Bk (bl : Nat → Int32) (kn : Nat → Nat) (b : Nat) : Prop := (∀ x, x < 140 → kn x ≠ 0 → ∃ q, bl x = nI q ∧ 2 ≤ q ∧ q < b) ∧ ∀ x y, x < 140 → y < 140 → kn x ≠ 0 → kn y ≠ 0 → bl x = bl y → x = y
def Rt (rt : Int32) (kn pa : Nat → Nat) : Prop := rt = -1 ∨ ∃ r, r < 140 ∧ rt = nI r ∧ kn r ≠ 0 ∧ pa r = 140
def Inv (b : Nat) (k m bl vs : Nat → Int32) (rt : Int32) : Prop := ∃ (kn n L pa : Nat → Nat) (c : Nat → Nat → Nat), Rl k m vs kn n c ∧ Tr kn n L pa c 140 ∧ Bk bl kn b ∧ Rt rt kn pa
theorem pig : ∀ (n : Nat) (l : List Nat), l.Nodup → (∀ x ∈ l, x < n) → l.length ≤ n := by
  intro n
  induction n with
  | zero =>
    intro l _ h
    cases l with
    | nil => exact Nat.le_refl _
    | cons a t => exact absurd (h a List.mem_cons_self) (Nat.not_lt_zero _)
  | succ n ih =>
    intro l hn h
    by_cases hm : n ∈ l
    · have h1 := ih (l.erase n) (hn.erase n) (fun x hx => by
        have h2 := h x (List.mem_of_mem_erase hx)
        have h3 : x ≠ n := fun e => hn.not_mem_erase (e ▸ hx)
        omega)
      have h2 := List.length_erase_of_mem hm
      have h3 : 0 < l.length := List.length_pos_of_mem hm
      omega
    · exact Nat.le_succ_of_le (ih l hn (fun x hx => by
        have h2 := h x hx
        have h3 : x ≠ n := fun e => hm (e ▸ hx)
        omega))
theorem sublen : ∀ (l1 l2 : List Nat), l1.Nodup → (∀ x ∈ l1, x ∈ l2) → l1.length ≤ l2.length := by
  intro l1
  induction l1 with
  | nil => intro l2 _ _; exact Nat.zero_le _
  | cons a t ih =>
    intro l2 hn h
    have hn2 := List.pairwise_cons.mp hn
    have ha := h a List.mem_cons_self
    have h1 := ih (l2.erase a) hn2.2 (fun x hx => (List.mem_erase_of_ne (fun e => hn2.1 x hx e.symm)).mpr (h x (List.mem_cons_of_mem _ hx)))
    have h2 := List.length_erase_of_mem ha
    have h3 : 0 < l2.length := List.length_pos_of_mem ha
    have h4 : (a :: t).length = t.length + 1 := rfl
    omega
def Cov (kn : Nat → Nat) (j : Nat) : Prop := ∃ l : List Nat, l.length ≤ j ∧ ∀ x, x < 140 → kn x ≠ 0 → x ∈ l
theorem Cov.free {kn : Nat → Nat} {j : Nat} (h : Cov kn j) (hj : j < 140) : ∃ x, x < 140 ∧ kn x = 0 := by
  obtain ⟨l, h1, h2⟩ := h
  apply Classical.byContradiction
  intro hc
  have h3 : ∀ x ∈ List.range 140, x ∈ l := fun x hx => h2 x (List.mem_range.mp hx) (fun e => hc ⟨x, List.mem_range.mp hx, e⟩)
  have h4 := sublen (List.range 140) l List.nodup_range h3
  rw [List.length_range] at h4
  omega
theorem Cov.up {kn kn2 : Nat → Nat} {j y : Nat} (h : Cov kn j) (hx : ∀ x, x < 140 → x ≠ y → kn2 x ≠ 0 → kn x ≠ 0) : Cov kn2 (j + 1) := by
  obtain ⟨l, h1, h2⟩ := h
  refine ⟨y :: l, Nat.succ_le_succ h1, fun x h3 h4 => ?_⟩
  by_cases e : x = y
  · subst e; exact List.mem_cons_self
  · exact List.mem_cons_of_mem _ (h2 x h3 (hx x h3 e h4))
theorem Cov.mono {kn kn2 : Nat → Nat} {j i : Nat} (h : Cov kn j) (hij : j ≤ i) (hx : ∀ x, x < 140 → kn2 x ≠ 0 → kn x ≠ 0) : Cov kn2 i := by
  obtain ⟨l, h1, h2⟩ := h
  exact ⟨l, Nat.le_trans h1 hij, fun x h3 h4 => h2 x h3 (hx x h3 h4)⟩
theorem live_len {bl : Nat → Int32} {kn : Nat → Nat} {b : Nat} (hB : Bk bl kn b) (hb : b ≤ 64) (l : List Nat) (hn : l.Nodup) (hl : ∀ x ∈ l, x < 140 ∧ kn x ≠ 0) : l.length ≤ 62 := by
  have hq : ∀ x ∈ l, ∃ q, bl x = nI q ∧ (bl x).toNatClampNeg = q ∧ 2 ≤ q ∧ q < b := by
    intro x hx
    obtain ⟨q, h1, h2, h3⟩ := hB.1 x (hl x hx).1 (hl x hx).2
    exact ⟨q, h1, by rw [h1]; exact nI_clamp (by omega), h2, h3⟩
  have h1 : (l.map (fun x => (bl x).toNatClampNeg - 2)).Nodup := by
    refine List.pairwise_map.mpr (List.Pairwise.imp_of_mem ?_ hn)
    intro x y hx hy hxy e
    obtain ⟨q, a1, a2, a3, -⟩ := hq x hx
    obtain ⟨q2, b1, b2, b3, -⟩ := hq y hy
    have e2 : q = q2 := by omega
    exact hxy (hB.2 x y (hl x hx).1 (hl y hy).1 (hl x hx).2 (hl y hy).2 (by rw [a1, b1, e2]))
  have h2 := pig 62 _ h1 (fun z hz => by
    obtain ⟨x, hx, rfl⟩ := List.mem_map.mp hz
    obtain ⟨q, a1, a2, a3, a4⟩ := hq x hx
    omega)
  rw [List.length_map] at h2
  exact h2
theorem Bk.cov {bl : Nat → Int32} {kn : Nat → Nat} {b : Nat} (hB : Bk bl kn b) (hb : b ≤ 64) : Cov kn 62 := by
  refine ⟨(List.range 140).filter (fun x => decide (kn x ≠ 0)), live_len hB hb _ (List.Pairwise.filter _ List.nodup_range) ?_, ?_⟩
  · intro x hx
    obtain ⟨h1, h2⟩ := List.mem_filter.mp hx
    exact ⟨List.mem_range.mp h1, of_decide_eq_true h2⟩
  · intro x h1 h2
    exact List.mem_filter.mpr ⟨List.mem_range.mpr h1, decide_eq_true h2⟩
theorem tr_inner {kn n L pa : Nat → Nat} {c : Nat → Nat → Nat} {e : Nat} (hT : Tr kn n L pa c e) {x : Nat} (hx : x < 140) (h0 : kn x ≠ 0) (h2 : 2 ≤ L x) : kn x = 2 := by
  obtain ⟨t1, t2, t3, t4⟩ := hT x hx
  have : kn x ≠ 1 := fun e => by have := t3 e; omega
  omega
theorem tr_pow {kn n L pa : Nat → Nat} {c : Nat → Nat → Nat} (hT : Tr kn n L pa c 140) : ∀ (j : Nat) (l : List Nat), l.Nodup → (∀ x ∈ l, x < 140 ∧ kn x ≠ 0 ∧ L x = j + 1) → ∃ l2 : List Nat, l2.Nodup ∧ (∀ y ∈ l2, y < 140 ∧ kn y ≠ 0) ∧ l2.length = 2 ^ j * l.length := by
  intro j
  induction j with
  | zero => intro l hn h; exact ⟨l, hn, fun y hy => ⟨(h y hy).1, (h y hy).2.1⟩, by omega⟩
  | succ j ih =>
    intro l hn h
    have hc : ∀ x ∈ l, ∀ i, i < 2 → c x i < 140 ∧ kn (c x i) ≠ 0 ∧ L (c x i) = j + 1 ∧ pa (c x i) = x := by
      intro x hx i hi
      obtain ⟨h1, h2, h3⟩ := h x hx
      have hk := tr_inner hT h1 h2 (by omega)
      have hn2 := ((hT x h1).2.2.2 hk).1 (by omega)
      obtain ⟨a1, a2, a3, a4, -⟩ := ((hT x h1).2.2.2 hk).2 i (by omega)
      exact ⟨a1, a2, by omega, a4⟩
    have hne : ∀ x ∈ l, c x 0 ≠ c x 1 := by
      intro x hx e
      obtain ⟨h1, h2, h3⟩ := h x hx
      have hk := tr_inner hT h1 h2 (by omega)
      have hn2 := ((hT x h1).2.2.2 hk).1 (by omega)
      have := (((hT x h1).2.2.2 hk).2 0 (by omega)).2.2.2.2 1 (by omega) e
      omega
    have hnd : (l.flatMap (fun x => [c x 0, c x 1])).Nodup := by
      refine List.pairwise_flatMap.mpr ⟨fun x hx => nd2 (hne x hx), List.Pairwise.imp_of_mem ?_ hn⟩
      intro x y hx hy hxy u hu v hv e
      have e1 : pa u = x := by
        rcases List.mem_cons.mp hu with rfl | hu
        · exact (hc x hx 0 (by omega)).2.2.2
        · rw [List.mem_singleton.mp hu]; exact (hc x hx 1 (by omega)).2.2.2
      have e2 : pa v = y := by
        rcases List.mem_cons.mp hv with rfl | hv
        · exact (hc y hy 0 (by omega)).2.2.2
        · rw [List.mem_singleton.mp hv]; exact (hc y hy 1 (by omega)).2.2.2
      exact hxy (e1.symm.trans ((congrArg pa e).trans e2))
    obtain ⟨l2, g1, g2, g3⟩ := ih _ hnd (by
      intro u hu
      obtain ⟨x, hx, hu⟩ := List.mem_flatMap.mp hu
      rcases List.mem_cons.mp hu with rfl | hu
      · exact ⟨(hc x hx 0 (by omega)).1, (hc x hx 0 (by omega)).2.1, (hc x hx 0 (by omega)).2.2.1⟩
      · rw [List.mem_singleton.mp hu]
        exact ⟨(hc x hx 1 (by omega)).1, (hc x hx 1 (by omega)).2.1, (hc x hx 1 (by omega)).2.2.1⟩)
    refine ⟨l2, g1, g2, ?_⟩
    have hlen : ∀ t : List Nat, (t.flatMap (fun x => [c x 0, c x 1])).length = 2 * t.length := by
      intro t
      induction t with
      | nil => rfl
      | cons a t iht =>
        show ([c a 0, c a 1] ++ t.flatMap (fun x => [c x 0, c x 1])).length = 2 * (t.length + 1)
        rw [List.length_append, iht]
        show 2 + 2 * t.length = 2 * (t.length + 1)
        omega
    rw [g3, hlen, Nat.pow_succ, Nat.mul_assoc]
theorem tr_high {kn n L pa : Nat → Nat} {c : Nat → Nat → Nat} {bl : Nat → Int32} {b : Nat} (hT : Tr kn n L pa c 140) (hB : Bk bl kn b) (hb : b ≤ 64) {x : Nat} (hx : x < 140) (h0 : kn x ≠ 0) : L x ≤ 6 := by
  have h1 := ((hT x hx).2.1 h0).1
  obtain ⟨l2, g1, g2, g3⟩ := tr_pow hT (L x - 1) [x] nd1 (fun y hy => by rw [List.mem_singleton.mp hy]; exact ⟨hx, h0, by omega⟩)
  have h2 := live_len hB hb l2 g1 g2
  have h3 : l2.length = 2 ^ (L x - 1) := by rw [g3]; show 2 ^ (L x - 1) * 1 = _; omega
  apply Classical.byContradiction
  intro h
  have h4 : 2 ^ 6 ≤ 2 ^ (L x - 1) := Nat.pow_le_pow_right (by omega) (by omega)
  omega
def sumTo (g : Nat → Nat) : Nat → Nat
  | 0 => 0
  | i + 1 => sumTo g i + g i
theorem range_flat_len (g : Nat → List Nat) (m : Nat) : ((List.range m).flatMap g).length = sumTo (fun i => (g i).length) m := by
  induction m with
  | zero => rfl
  | succ m ih =>
    rw [List.range_succ, List.flatMap_append, List.length_append, ih]
    show _ + (g m ++ []).length = _ + _
    rw [List.append_nil]
def lfs (n : Nat → Nat) (c : Nat → Nat → Nat) : Nat → Nat → List Nat
  | 0, _ => []
  | 1, x => [x]
  | f + 2, x => (List.range (n x)).flatMap (fun i => lfs n c (f + 1) (c x i))
def anc (pa : Nat → Nat) : Nat → Nat → Nat
  | 0, y => y
  | j + 1, y => pa (anc pa j y)
theorem lfs_ok {kn n L pa : Nat → Nat} {c : Nat → Nat → Nat} {e : Nat} (hT : Tr kn n L pa c e) : ∀ (f x : Nat), x < 140 → kn x ≠ 0 → L x = f + 1 → (lfs n c (f + 1) x).Nodup ∧ ∀ y ∈ lfs n c (f + 1) x, y < 140 ∧ kn y ≠ 0 ∧ anc pa f y = x := by
  intro f
  induction f with
  | zero =>
    intro x hx h0 _
    refine ⟨nd1, fun y hy => ?_⟩
    rw [List.mem_singleton.mp hy]
    exact ⟨hx, h0, rfl⟩
  | succ f ih =>
    intro x hx h0 hL
    have hk := tr_inner hT hx h0 (by omega)
    have hc := ((hT x hx).2.2.2 hk).2
    have hi := fun i (h : i < n x) => ih (c x i) (hc i h).1 (hc i h).2.1 (by have := (hc i h).2.2.1; omega)
    refine ⟨List.pairwise_flatMap.mpr ⟨fun i h => (hi i (List.mem_range.mp h)).1, List.Pairwise.imp_of_mem ?_ List.nodup_range⟩, ?_⟩
    · intro i j h1 h2 hij u hu v hv e2
      have a1 := ((hi i (List.mem_range.mp h1)).2 u hu).2.2
      have a2 := ((hi j (List.mem_range.mp h2)).2 v hv).2.2
      rw [e2] at a1
      exact hij ((hc i (List.mem_range.mp h1)).2.2.2.2 j (List.mem_range.mp h2) (a1.symm.trans a2))
    · intro y hy
      obtain ⟨i, h1, h2⟩ := List.mem_flatMap.mp hy
      obtain ⟨a1, a2, a3⟩ := (hi i (List.mem_range.mp h1)).2 y h2
      refine ⟨a1, a2, ?_⟩
      show pa (anc pa f y) = x
      rw [a3]
      exact (hc i (List.mem_range.mp h1)).2.2.2.1
theorem lfs_len {kn n L pa : Nat → Nat} {c : Nat → Nat → Nat} {bl : Nat → Int32} {b e : Nat} (hT : Tr kn n L pa c e) (hB : Bk bl kn b) (hb : b ≤ 64) {x : Nat} (hx : x < 140) (h0 : kn x ≠ 0) : (lfs n c (L x) x).length ≤ 62 := by
  have h1 := ((hT x hx).2.1 h0).1
  have h2 := lfs_ok hT (L x - 1) x hx h0 (by omega)
  rw [show L x - 1 + 1 = L x by omega] at h2
  exact live_len hB hb _ h2.1 (fun y hy => ⟨(h2.2 y hy).1, (h2.2 y hy).2.1⟩)
theorem sumTo_mono (g : Nat → Nat) {i j : Nat} (h : i ≤ j) : sumTo g i ≤ sumTo g j := by
  induction h with
  | refl => exact Nat.le_refl _
  | step _ ih => exact Nat.le_trans ih (Nat.le_add_right _ _)
