/-! Changes of the reference's tree: ghost functions with one place set anew, a path from the root, a state between two WRITES. -/
def gup (f : Nat → Nat) (x v : Nat) : Nat → Nat := fun z => if z = x then v else f z
theorem gup_s {f : Nat → Nat} {x v : Nat} : gup f x v x = v := if_pos rfl
theorem gup_n {f : Nat → Nat} {x v z : Nat} (h : z ≠ x) : gup f x v z = f z := if_neg h
noncomputable def gif (P : Nat → Prop) (a : Nat) (f : Nat → Nat) : Nat → Nat := fun y => @ite Nat (P y) (Classical.propDecidable (P y)) a (f y)
theorem gif_t {P : Nat → Prop} {a y : Nat} {f : Nat → Nat} (h : P y) : gif P a f y = a := if_pos h
theorem gif_f {P : Nat → Prop} {a y : Nat} {f : Nat → Nat} (h : ¬ P y) : gif P a f y = f y := if_neg h
def TrC (kn n L pa : Nat → Nat) (c : Nat → Nat → Nat) (e x : Nat) : Prop := kn x ≤ 2 ∧ (kn x ≠ 0 → 1 ≤ L x ∧ n x ≤ 20 ∧ (x ≠ e → n x ≤ 19)) ∧ (kn x = 1 → L x = 1) ∧ (kn x = 2 → (x ≠ e → 2 ≤ n x) ∧ ∀ i, i < n x → c x i < 140 ∧ kn (c x i) ≠ 0 ∧ L (c x i) + 1 = L x ∧ pa (c x i) = x ∧ ∀ j, j < n x → c x i = c x j → i = j)
theorem tr_mod {kn n L pa kn2 n2 L2 pa2 : Nat → Nat} {c c2 : Nat → Nat → Nat} {e e2 : Nat} (T : Nat → Prop) (hT : Tr kn n L pa c e) (he : e = 140 ∨ T e)
    (ho : ∀ x, x < 140 → ¬ T x → kn2 x = kn x ∧ (kn x ≠ 0 → n2 x = n x ∧ L2 x = L x ∧ ∀ i, i < n x → c2 x i = c x i))
    (hc : ∀ y, y < 140 → kn y ≠ 0 → pa y < 140 → ¬ T (pa y) → kn2 y ≠ 0 ∧ L2 y = L y ∧ pa2 y = pa y)
    (ht : ∀ x, x < 140 → T x → TrC kn2 n2 L2 pa2 c2 e2 x) : Tr kn2 n2 L2 pa2 c2 e2 := by
  intro x hx
  by_cases hTx : T x
  · exact ht x hx hTx
  · obtain ⟨a1, a2, a3, a4⟩ := hT x hx
    obtain ⟨o1, o2⟩ := ho x hx hTx
    have hxe : x ≠ e := by
      intro h
      rcases he with h9 | h9
      · omega
      · exact hTx (h ▸ h9)
    refine ⟨by omega, ?_, ?_, ?_⟩
    · intro h
      have h1 := o2 (by omega)
      have h2 := a2 (by omega)
      have h3 := h2.2.2 hxe
      exact ⟨by omega, by omega, fun _ => by omega⟩
    · intro h
      have h1 := o2 (by omega)
      have h2 := a3 (by omega)
      omega
    · intro h
      have h1 := o2 (by omega)
      obtain ⟨b1, b2⟩ := a4 (by omega)
      refine ⟨fun _ => by have := b1 hxe; omega, fun i hi => ?_⟩
      obtain ⟨d1, d2, d3, d4, d5⟩ := b2 i (by omega)
      have e1 := h1.2.2 i (by omega)
      obtain ⟨f1, f2, f3⟩ := hc (c x i) d1 d2 (by omega) (by rw [d4]; exact hTx)
      rw [e1]
      refine ⟨d1, f1, by omega, by omega, fun j hj h9 => ?_⟩
      rw [h1.2.2 j (by omega)] at h9
      exact d5 j (by omega) h9
theorem tr_fix {kn n L pa : Nat → Nat} {c : Nat → Nat → Nat} {e : Nat} (hT : Tr kn n L pa c e) (h1 : n e ≤ 19) (h2 : kn e = 2 → 2 ≤ n e) : Tr kn n L pa c 140 := by
  intro x hx
  obtain ⟨a1, a2, a3, a4⟩ := hT x hx
  by_cases h : x = e
  · subst h
    exact ⟨a1, fun h9 => ⟨(a2 h9).1, (a2 h9).2.1, fun _ => h1⟩, a3, fun h9 => ⟨fun _ => h2 h9, (a4 h9).2⟩⟩
  · exact ⟨a1, fun h9 => ⟨(a2 h9).1, (a2 h9).2.1, fun _ => (a2 h9).2.2 h⟩, a3, fun h9 => ⟨fun _ => (a4 h9).1 h, (a4 h9).2⟩⟩
theorem tr_weak {kn n L pa : Nat → Nat} {c : Nat → Nat → Nat} (hT : Tr kn n L pa c 140) (e : Nat) : Tr kn n L pa c e := by
  intro x hx
  obtain ⟨a1, a2, a3, a4⟩ := hT x hx
  have h : x ≠ 140 := by omega
  exact ⟨a1, fun h9 => ⟨(a2 h9).1, (a2 h9).2.1, fun _ => (a2 h9).2.2 h⟩, a3, fun h9 => ⟨fun _ => (a4 h9).1 h, (a4 h9).2⟩⟩
def Pth (kn nn L : Nat → Nat) (ch : Nat → Nat → Nat) (ph pc : Nat → Int32) (D lev y rt : Nat) : Prop := ∃ pth pl : Nat → Nat, pth 0 = rt ∧ pth lev = y ∧ ∀ j, j < lev → ph j = nI (pth j) ∧ pc j = nI (pl j) ∧ pth j < 140 ∧ kn (pth j) = 2 ∧ L (pth j) + j = D ∧ pl j < nn (pth j) ∧ ch (pth j) (pl j) = pth (j + 1)
theorem Pth.pop {kn nn L : Nat → Nat} {ch : Nat → Nat → Nat} {ph pc : Nat → Int32} {D l y rt : Nat} (h : Pth kn nn L ch ph pc D (l + 1) y rt) : ∃ x i, ph l = nI x ∧ pc l = nI i ∧ x < 140 ∧ kn x = 2 ∧ L x + l = D ∧ i < nn x ∧ ch x i = y ∧ Pth kn nn L ch ph pc D l x rt := by
  obtain ⟨pth, pl, h0, h1, h2⟩ := h
  obtain ⟨a1, a2, a3, a4, a5, a6, a7⟩ := h2 l (by omega)
  exact ⟨pth l, pl l, a1, a2, a3, a4, a5, a6, a7.trans h1, pth, pl, h0, rfl, fun j hj => h2 j (by omega)⟩
theorem Pth.keep {kn nn L kn2 nn2 L2 : Nat → Nat} {ch ch2 : Nat → Nat → Nat} {ph pc : Nat → Int32} {D l x rt : Nat} (h : Pth kn nn L ch ph pc D l x rt) (hk : ∀ z, z < 140 → kn z = 2 → D < L z + l → kn2 z = 2 ∧ nn2 z = nn z ∧ L2 z = L z ∧ ∀ i, i < nn z → ch2 z i = ch z i) : Pth kn2 nn2 L2 ch2 ph pc D l x rt := by
  obtain ⟨pth, pl, h0, h1, h2⟩ := h
  refine ⟨pth, pl, h0, h1, fun j hj => ?_⟩
  obtain ⟨a1, a2, a3, a4, a5, a6, a7⟩ := h2 j hj
  obtain ⟨b1, b2, b3, b4⟩ := hk (pth j) a3 a4 (by omega)
  exact ⟨a1, a2, a3, b1, by omega, by omega, (b4 _ a6).trans a7⟩
theorem Pth.rows {kn nn L : Nat → Nat} {ch : Nat → Nat → Nat} {ph pc ph2 pc2 : Nat → Int32} {D l x rt : Nat} (h : Pth kn nn L ch ph pc D l x rt) (h1 : ∀ j, j < l → ph2 j = ph j) (h2 : ∀ j, j < l → pc2 j = pc j) : Pth kn nn L ch ph2 pc2 D l x rt := by
  obtain ⟨pth, pl, a0, a1, a2⟩ := h
  refine ⟨pth, pl, a0, a1, fun j hj => ?_⟩
  rw [h1 j hj, h2 j hj]
  exact a2 j hj
theorem Pth.push {kn nn L : Nat → Nat} {ch : Nat → Nat → Nat} {ph pc : Nat → Int32} {D l x rt i : Nat} (h : Pth kn nn L ch ph pc D l x rt) (h1 : ph l = nI x) (h2 : pc l = nI i) (hx : x < 140) (hk : kn x = 2) (hL : L x + l = D) (hi : i < nn x) : Pth kn nn L ch ph pc D (l + 1) (ch x i) rt := by
  obtain ⟨pth, pl, a0, a1, a2⟩ := h
  refine ⟨gup pth (l + 1) (ch x i), gup pl l i, ?_, gup_s, fun j hj => ?_⟩
  · rw [gup_n (by omega)]; exact a0
  · by_cases e : j = l
    · subst e
      rw [gup_n (show j ≠ j + 1 by omega), a1, gup_s, gup_s]
      exact ⟨h1, h2, hx, hk, hL, hi, rfl⟩
    · have h9 := a2 j (by omega)
      rw [gup_n (show j ≠ l + 1 by omega), gup_n (show j ≠ l by omega), gup_n (show j + 1 ≠ l + 1 by omega)]
      exact h9
def Wr (kn : Nat → Nat) (wt : Nat → Int32) (wm : Nat) : Prop := ∀ j, j < wm → ∃ x, wt j = nI x ∧ x < 140 ∧ kn x ≠ 0
def Bq (k0 bl0 : Nat → Int32) (kn : Nat → Nat) (bl fr wt : Nat → Int32) (wm pend : Nat) : Prop := (∀ x, x < 140 → kn x ≠ 0 → x ≠ pend → (¬ k0 x = 0 ∧ bl x = bl0 x) ∨ ∃ j, j < wm ∧ wt j = nI x ∧ fr x = 0) ∧ (pend < 140 → fr pend = 0)
def St (k0 bl0 k mm vl bl fr ph pc wt : Nat → Int32) (rt D lev y wm e pend sl : Nat) (kn nn L pa : Nat → Nat) (ch : Nat → Nat → Nat) : Prop := Rl k mm vl kn nn ch ∧ Tr kn nn L pa ch e ∧ (rt < 140 ∧ kn rt ≠ 0 ∧ pa rt = 140 ∧ L rt = D) ∧ Pth kn nn L ch ph pc D lev y rt ∧ (y < 140 ∧ kn y ≠ 0 ∧ L y + lev = D) ∧ Wr kn wt wm ∧ Bq k0 bl0 kn bl fr wt wm pend ∧ Cov kn (63 + wm + sl)
theorem rl_kn {k mm vl : Nat → Int32} {kn nn : Nat → Nat} {ch : Nat → Nat → Nat} (hR : Rl k mm vl kn nn ch) {kn' : Nat → Nat} {e : Nat} {L pa : Nat → Nat} (hT : Tr kn nn L pa ch e) {x : Nat} (hx : x < 140) : k x = 0 ↔ kn x = 0 := by
  rw [(hR x hx).1]
  exact nI_eq (b := 0) (by have := (hT x hx).1; omega) (by decide)
/-- writes(x) of the NODE that was waiting for it -/
theorem st_wrp {k0 bl0 k mm vl bl fr ph pc wt wt2 : Nat → Int32} {rt D lev y wm e x : Nat} {kn nn L pa : Nat → Nat} {ch : Nat → Nat → Nat} (h : St k0 bl0 k mm vl bl fr ph pc wt rt D lev y wm e x 1 kn nn L pa ch) (hx : x < 140) (h0 : kn x ≠ 0) (hw : wt2 = upd wt wm (nI x)) : St k0 bl0 k mm vl bl fr ph pc wt2 rt D lev y (wm + 1) e 140 0 kn nn L pa ch := by
  subst hw
  obtain ⟨h1, h2, h3, h4, h5, h6, h7, h8⟩ := h
  refine ⟨h1, h2, h3, h4, h5, fun j hj => ?_, ⟨fun z hz hz0 _ => ?_, fun h9 => absurd h9 (by omega)⟩, h8⟩
  · by_cases ej : j = wm
    · subst ej; exact ⟨x, pk_us, hx, h0⟩
    · rw [pk_un ej]; exact h6 j (by omega)
  · by_cases ez : z = x
    · subst ez; exact Or.inr ⟨wm, by omega, pk_us, h7.2 hx⟩
    · rcases h7.1 z hz hz0 ez with h9 | ⟨j, a1, a2, a3⟩
      · exact Or.inl h9
      · exact Or.inr ⟨j, by omega, by rw [pk_un (by omega)]; exact a2, a3⟩
theorem st_wr {k0 bl0 k mm vl bl fr ph pc wt wt2 : Nat → Int32} {rt D lev y wm e x : Nat} {kn nn L pa : Nat → Nat} {ch : Nat → Nat → Nat} (h : St k0 bl0 k mm vl bl fr ph pc wt rt D lev y wm e 140 0 kn nn L pa ch) (hx : x < 140) (h0 : kn x ≠ 0) (hw : wt2 = upd wt wm (nI x)) : St k0 bl0 k mm vl bl fr ph pc wt2 rt D lev y (wm + 1) e 140 0 kn nn L pa ch := by
  subst hw
  obtain ⟨h1, h2, h3, h4, h5, h6, h7, h8⟩ := h
  refine ⟨h1, h2, h3, h4, h5, fun j hj => ?_, ⟨fun z hz hz0 hp => ?_, fun h9 => absurd h9 (by omega)⟩, h8.mono (by omega) (fun _ _ h9 => h9)⟩
  · by_cases ej : j = wm
    · subst ej; exact ⟨x, pk_us, hx, h0⟩
    · rw [pk_un ej]; exact h6 j (by omega)
  · rcases h7.1 z hz hz0 hp with h9 | ⟨j, a1, a2, a3⟩
    · exact Or.inl h9
    · exact Or.inr ⟨j, by omega, by rw [pk_un (by omega)]; exact a2, a3⟩
/-- a LEAF has another number of keys -/
theorem st_leaf {k0 bl0 k mm vl bl fr ph pc wt mm2 vl2 : Nat → Int32} {rt D lev y wm pend sl x m : Nat} {kn nn L pa : Nat → Nat} {ch : Nat → Nat → Nat} (h : St k0 bl0 k mm vl bl fr ph pc wt rt D lev y wm 140 pend sl kn nn L pa ch) (hx : x < 140) (hk : kn x = 1) (hm : m ≤ 20) (h1 : mm2 x = nI m) (h2 : ∀ q, q < 140 → q ≠ x → mm2 q = mm q) (h3 : ∀ q, (q < 24 * x ∨ 24 * x + 24 ≤ q) → vl2 q = vl q) : St k0 bl0 k mm2 vl2 bl fr ph pc wt rt D lev y wm x pend sl kn (gup nn x m) L pa ch := by
  obtain ⟨a1, a2, a3, a4, a5, a6, a7, a8⟩ := h
  refine ⟨fun q hq => ?_, ?_, a3, a4.keep (fun z hz hz2 hz3 => ?_), a5, a6, a7, a8⟩
  · obtain ⟨b1, b2, b3⟩ := a1 q hq
    by_cases eq : q = x
    · subst eq
      exact ⟨b1, fun _ => by rw [gup_s]; exact h1, fun h9 => by omega⟩
    · refine ⟨b1, fun h9 => by rw [gup_n eq, h2 q hq eq]; exact b2 h9, fun h9 i hi => ?_⟩
      rw [gup_n eq] at hi
      have hn := ((a2 q hq).2.1 (by omega)).2.1
      rw [h3 _ (by omega)]
      exact b3 h9 i hi
  · refine tr_mod (fun q => q = x) a2 (Or.inl rfl) (fun q hq hne => ⟨rfl, fun _ => ⟨gup_n hne, rfl, fun _ _ => rfl⟩⟩) (fun q hq h0 _ _ => ⟨h0, rfl, rfl⟩) (fun q hq he => ?_)
    subst he
    obtain ⟨c1, c2, c3, c4⟩ := a2 q hq
    refine ⟨c1, fun h9 => ⟨(c2 h9).1, by rw [gup_s]; exact hm, fun h8 => absurd rfl h8⟩, c3, fun h9 => by omega⟩
  · exact ⟨hz2, gup_n (by intro e9; rw [e9] at hz2; omega), rfl, fun _ _ => rfl⟩
theorem st_fix {k0 bl0 k mm vl bl fr ph pc wt : Nat → Int32} {rt D lev y wm e pend sl : Nat} {kn nn L pa : Nat → Nat} {ch : Nat → Nat → Nat} (h : St k0 bl0 k mm vl bl fr ph pc wt rt D lev y wm e pend sl kn nn L pa ch) (h1 : nn e ≤ 19) (h2 : kn e = 2 → 2 ≤ nn e) : St k0 bl0 k mm vl bl fr ph pc wt rt D lev y wm 140 pend sl kn nn L pa ch := by
  obtain ⟨a1, a2, a3, a4, a5, a6, a7, a8⟩ := h
  exact ⟨a1, tr_fix a2 h1 h2, a3, a4, a5, a6, a7, a8⟩
theorem st_weak {k0 bl0 k mm vl bl fr ph pc wt : Nat → Int32} {rt D lev y wm pend sl : Nat} {kn nn L pa : Nat → Nat} {ch : Nat → Nat → Nat} (h : St k0 bl0 k mm vl bl fr ph pc wt rt D lev y wm 140 pend sl kn nn L pa ch) (e : Nat) : St k0 bl0 k mm vl bl fr ph pc wt rt D lev y wm e pend sl kn nn L pa ch := by
  obtain ⟨a1, a2, a3, a4, a5, a6, a7, a8⟩ := h
  exact ⟨a1, tr_weak a2 e, a3, a4, a5, a6, a7, a8⟩
/-- what part(x) did: z is the new NODE, s stay, n were there -/
def PartR (k mm vl bl fr k2 mm2 vl2 bl2 fr2 : Nat → Int32) (x z n s : Nat) : Prop := z < 140 ∧ k z = 0 ∧ k2 = upd k z (k x) ∧ mm2 z = nI (n - s) ∧ mm2 x = nI s ∧ (∀ q, q ≠ x → q ≠ z → mm2 q = mm q) ∧ bl2 = upd bl z 0 ∧ fr2 = upd fr z 0 ∧ (∀ q, (q < 24 * z ∨ 24 * z + 24 ≤ q) → vl2 q = vl q) ∧ ∀ j, j < n - s → vl2 (24 * z + j) = vl (24 * x + (s + j))
theorem rl_k0 {k mm vl : Nat → Int32} {kn nn L pa : Nat → Nat} {ch : Nat → Nat → Nat} {e x : Nat} (hR : Rl k mm vl kn nn ch) (hT : Tr kn nn L pa ch e) (hx : x < 140) : k x = 0 ↔ kn x = 0 := by
  rw [(hR x hx).1]
  exact nI_eq (b := 0) (by have := (hT x hx).1; omega) (by decide)
theorem st_part {k0 bl0 k mm vl bl fr ph pc wt k2 mm2 vl2 bl2 fr2 : Nat → Int32} {rt D lev wm x z : Nat} {kn nn L pa : Nat → Nat} {ch : Nat → Nat → Nat} (h : St k0 bl0 k mm vl bl fr ph pc wt rt D lev x wm x 140 0 kn nn L pa ch) (h4 : kn x = 2 → 4 ≤ nn x)
    (hp : PartR k mm vl bl fr k2 mm2 vl2 bl2 fr2 x z (nn x) ((nn x + 1) / 2)) : ∃ (kn2 nn2 L2 pa2 : Nat → Nat) (ch2 : Nat → Nat → Nat), St k0 bl0 k2 mm2 vl2 bl2 fr2 ph pc wt rt D lev x wm 140 z 1 kn2 nn2 L2 pa2 ch2 ∧ (z < 140 ∧ kn2 z ≠ 0 ∧ pa2 z = 140 ∧ L2 z + lev = D ∧ z ≠ rt) := by
  obtain ⟨hR, hT, ⟨r1, r2, r3, r4⟩, hP, ⟨y1, y2, y3⟩, hW, hB, hC⟩ := h
  obtain ⟨p1, p2, p3, p4, p5, p6, p7, p8, p9, p10⟩ := hp
  have hz0 : kn z = 0 := (rl_k0 hR hT p1).mp p2
  have hxz : x ≠ z := fun e => y2 (e ▸ hz0)
  have hzx : z ≠ x := fun e => hxz e.symm
  obtain ⟨x1, x2, x3, x4⟩ := hT x y1
  have hx20 := (x2 y2).2.1
  obtain ⟨s, hs⟩ : ∃ s, s = (nn x + 1) / 2 := ⟨_, rfl⟩
  rw [← hs] at p4 p5 p10
  have mv_pa : ∀ q, (∃ j, s ≤ j ∧ j < nn x ∧ q = ch x j ∧ kn x = 2) → pa q = x := by
    intro q ⟨j, a1, a2, a3, a4⟩
    rw [a3]
    exact ((x4 a4).2 j a2).2.2.2.1
  have live_z : ∀ q, kn q ≠ 0 → q ≠ z := fun q h9 e => h9 (e ▸ hz0)
  refine ⟨gup kn z (kn x), gup (gup nn z (nn x - s)) x s, gup L z (L x), gif (fun q => ∃ j, s ≤ j ∧ j < nn x ∧ q = ch x j ∧ kn x = 2) z (gup pa z 140), fun q i => if q = z then ch x (s + i) else ch q i, ⟨?_, ?_, ⟨r1, ?_, ?_, ?_⟩, hP.keep ?_, ⟨y1, ?_, ?_⟩, ?_, ⟨?_, ?_⟩, ?_⟩, p1, ?_, ?_, ?_, ?_⟩
  · intro q hq
    obtain ⟨b1, b2, b3⟩ := hR q hq
    by_cases eq : q = z
    · subst eq
      refine ⟨?_, fun _ => ?_, fun h9 i hi => ?_⟩
      · rw [p3, pk_us, gup_s]; exact (hR x y1).1
      · rw [gup_n hzx, gup_s]; exact p4
      · rw [gup_s] at h9
        rw [gup_n hzx, gup_s] at hi
        show vl2 (24 * q + i) = nI (if q = q then ch x (s + i) else ch q i)
        rw [if_pos rfl, p10 i hi]
        exact (hR x y1).2.2 h9 (s + i) (by omega)
    · rw [gup_n eq]
      refine ⟨by rw [p3, pk_un eq]; exact b1, fun h9 => ?_, fun h9 i hi => ?_⟩
      · by_cases ex : q = x
        · subst ex; rw [gup_s]; exact p5
        · rw [gup_n ex, gup_n eq, p6 q ex eq]; exact b2 h9
      · show vl2 (24 * q + i) = nI (if q = z then ch x (s + i) else ch q i)
        rw [if_neg eq]
        have hn := ((hT q hq).2.1 (by omega)).2.1
        have hi2 : i < nn q := by
          by_cases ex : q = x
          · subst ex; rw [gup_s] at hi; omega
          · rw [gup_n ex, gup_n eq] at hi; exact hi
        rw [p9 _ (by omega)]
        exact b3 h9 i hi2
  · refine tr_mod (fun q => q = x ∨ q = z) hT (Or.inr (Or.inl rfl)) ?_ ?_ ?_
    · intro q hq hn
      have e1 : q ≠ x := fun e => hn (Or.inl e)
      have e2 : q ≠ z := fun e => hn (Or.inr e)
      refine ⟨gup_n e2, fun _ => ⟨by rw [gup_n e1, gup_n e2], gup_n e2, fun i _ => if_neg e2⟩⟩
    · intro q hq h0 hp2 hn
      have e1 : pa q ≠ x := fun e => hn (Or.inl e)
      have e2 := live_z q h0
      refine ⟨by rw [gup_n e2]; exact h0, gup_n e2, ?_⟩
      rw [gif_f (fun h9 => e1 (mv_pa q h9)), gup_n e2]
    · intro q hq hxq
      rcases hxq with e | e
      · subst e
        refine ⟨by rw [gup_n hxz]; exact x1, fun _ => ?_, fun h9 => ?_, fun h9 => ?_⟩
        · rw [gup_n hxz, gup_s]; exact ⟨(x2 y2).1, by omega, fun _ => by omega⟩
        · rw [gup_n hxz] at h9; rw [gup_n hxz]; exact x3 h9
        · rw [gup_n hxz] at h9
          have h49 := h4 h9
          rw [gup_s]
          refine ⟨fun _ => by omega, fun i hi => ?_⟩
          obtain ⟨d1, d2, d3, d4, d5⟩ := (x4 h9).2 i (by omega)
          have e2 := live_z _ d2
          show (if q = z then ch q (s + i) else ch q i) < 140 ∧ gup kn z (kn q) (if q = z then ch q (s + i) else ch q i) ≠ 0 ∧ gup L z (L q) (if q = z then ch q (s + i) else ch q i) + 1 = gup L z (L q) q ∧ gif _ z (gup pa z 140) (if q = z then ch q (s + i) else ch q i) = q ∧ ∀ j, j < s → (if q = z then ch q (s + i) else ch q i) = (if q = z then ch q (s + j) else ch q j) → i = j
          rw [if_neg hxz, gup_n e2, gup_n e2, gup_n hxz]
          refine ⟨d1, d2, d3, ?_, fun j hj h8 => ?_⟩
          · rw [gif_f, gup_n e2]
            · exact d4
            · intro ⟨j, a1, a2, a3, _⟩
              have := d5 j a2 a3
              omega
          · rw [if_neg hxz] at h8
            exact d5 j (by omega) h8
      · subst e
        refine ⟨by rw [gup_s]; exact x1, fun _ => ?_, fun h9 => ?_, fun h9 => ?_⟩
        · rw [gup_s, gup_n hzx, gup_s]; exact ⟨(x2 y2).1, by omega, fun _ => by omega⟩
        · rw [gup_s] at h9; rw [gup_s]; exact x3 h9
        · rw [gup_s] at h9
          have h49 := h4 h9
          rw [gup_n hzx, gup_s]
          refine ⟨fun _ => by omega, fun i hi => ?_⟩
          obtain ⟨d1, d2, d3, d4, d5⟩ := (x4 h9).2 (s + i) (by omega)
          have e2 := live_z _ d2
          show (if q = q then ch x (s + i) else ch q i) < 140 ∧ gup kn q (kn x) (if q = q then ch x (s + i) else ch q i) ≠ 0 ∧ gup L q (L x) (if q = q then ch x (s + i) else ch q i) + 1 = gup L q (L x) q ∧ gif _ q (gup pa q 140) (if q = q then ch x (s + i) else ch q i) = q ∧ ∀ j, j < nn x - s → (if q = q then ch x (s + i) else ch q i) = (if q = q then ch x (s + j) else ch q j) → i = j
          rw [if_pos rfl, gup_n e2, gup_n e2, gup_s]
          refine ⟨d1, d2, d3, ?_, fun j hj h8 => ?_⟩
          · exact gif_t ⟨s + i, by omega, by omega, rfl, h9⟩
          · rw [if_pos rfl] at h8
            have := d5 (s + j) (by omega) h8
            omega
  · rw [gup_n (live_z rt r2)]; exact r2
  · rw [gif_f, gup_n (live_z rt r2)]
    · exact r3
    · intro h9
      have := mv_pa rt h9
      omega
  · rw [gup_n (live_z rt r2)]; exact r4
  · intro q hq hq2 hq3
    have e1 : q ≠ x := fun e => by subst e; omega
    have e2 := live_z q (by omega)
    exact ⟨by rw [gup_n e2]; exact hq2, by rw [gup_n e1, gup_n e2], gup_n e2, fun i _ => if_neg e2⟩
  · rw [gup_n hxz]; exact y2
  · rw [gup_n hxz]; exact y3
  · intro j hj
    obtain ⟨q, a1, a2, a3⟩ := hW j hj
    exact ⟨q, a1, a2, by rw [gup_n (live_z q a3)]; exact a3⟩
  · intro q hq h0 hne
    rw [gup_n hne] at h0
    rw [p7, pk_un hne, p8, pk_un hne]
    exact hB.1 q hq h0 (by omega)
  · intro _
    rw [p8]; exact pk_us
  · exact hC.up (y := z) (fun q hq hne h9 => by rw [gup_n hne] at h9; exact h9)
  · rw [gup_s]; exact y2
  · rw [gif_f, gup_s]
    intro ⟨j, a1, a2, a3, a4⟩
    exact live_z _ ((x4 a4).2 j a2).2.1 a3.symm
  · rw [gup_s]; exact y3
  · exact fun e => r2 (e ▸ hz0)
/-- what insert(x, p, _, v) did -/
def InsR (mm vl mm2 vl2 : Nat → Int32) (x p n : Nat) (v : Int32) : Prop := mm2 = upd mm x (nI (n + 1)) ∧ (∀ q, (q < 24 * x ∨ 24 * x + 24 ≤ q) → vl2 q = vl q) ∧ (∀ j, j < p → vl2 (24 * x + j) = vl (24 * x + j)) ∧ vl2 (24 * x + p) = v ∧ ∀ j, p ≤ j → j < n → vl2 (24 * x + (j + 1)) = vl (24 * x + j)
theorem st_ins {k0 bl0 k mm vl bl fr ph pc wt mm2 vl2 : Nat → Int32} {rt D lev wm x y p : Nat} {kn nn L pa : Nat → Nat} {ch : Nat → Nat → Nat} (h : St k0 bl0 k mm vl bl fr ph pc wt rt D lev x wm 140 140 0 kn nn L pa ch) (hk : kn x = 2) (hp : p ≤ nn x) (m1 : y < 140) (m2 : kn y ≠ 0) (m3 : pa y = 140) (m4 : L y + 1 = L x) (m5 : y ≠ rt)
    (hi : InsR mm vl mm2 vl2 x p (nn x) (nI y)) : ∃ (pa2 : Nat → Nat) (ch2 : Nat → Nat → Nat), St k0 bl0 k mm2 vl2 bl fr ph pc wt rt D lev x wm x 140 0 kn (gup nn x (nn x + 1)) L pa2 ch2 := by
  obtain ⟨hR, hT, ⟨r1, r2, r3, r4⟩, hP, ⟨y1, y2, y3⟩, hW, hB, hC⟩ := h
  obtain ⟨i1, i2, i3, i4, i5⟩ := hi
  obtain ⟨x1, x2, x3, x4⟩ := hT x y1
  have hx19 := (x2 y2).2.2 (by omega)
  have hch := (x4 hk).2
  have hny : ∀ i, i < nn x → ch x i ≠ y := fun i h9 e => by have := (hch i h9).2.2.2.1; rw [e] at this; omega
  refine ⟨gup pa y x, fun q i => if q = x then (if i < p then ch x i else if i = p then y else ch x (i - 1)) else ch q i, ?_, ?_, ⟨r1, r2, ?_, r4⟩, hP.keep ?_, ⟨y1, y2, y3⟩, hW, hB, hC⟩
  · intro q hq
    obtain ⟨b1, b2, b3⟩ := hR q hq
    by_cases eq : q = x
    · subst eq
      refine ⟨b1, fun _ => by rw [i1, pk_us, gup_s], fun h9 i hi => ?_⟩
      rw [gup_s] at hi
      show vl2 (24 * q + i) = nI (if q = q then (if i < p then ch q i else if i = p then y else ch q (i - 1)) else ch q i)
      rw [if_pos rfl]
      by_cases c1 : i < p
      · rw [if_pos c1, i3 i c1]; exact b3 h9 i (by omega)
      · rw [if_neg c1]
        by_cases c2 : i = p
        · rw [if_pos c2, c2]; exact i4
        · rw [if_neg c2]
          have := i5 (i - 1) (by omega) (by omega)
          rw [show i - 1 + 1 = i by omega] at this
          rw [this]; exact b3 h9 (i - 1) (by omega)
    · refine ⟨b1, fun h9 => by rw [i1, pk_un eq, gup_n eq]; exact b2 h9, fun h9 i hi => ?_⟩
      rw [gup_n eq] at hi
      show vl2 (24 * q + i) = nI (if q = x then (if i < p then ch x i else if i = p then y else ch x (i - 1)) else ch q i)
      rw [if_neg eq]
      have hn := ((hT q hq).2.1 (by omega)).2.1
      rw [i2 _ (by omega)]
      exact b3 h9 i hi
  · refine tr_mod (fun q => q = x) hT (Or.inl rfl) ?_ ?_ ?_
    · intro q hq hn
      exact ⟨rfl, fun _ => ⟨gup_n hn, rfl, fun i _ => if_neg hn⟩⟩
    · intro q hq h0 hp2 hn
      exact ⟨h0, rfl, gup_n (fun e => by subst e; omega)⟩
    · intro q hq e
      subst e
      refine ⟨x1, fun _ => ⟨(x2 y2).1, by rw [gup_s]; omega, fun h9 => absurd rfl h9⟩, x3, fun h9 => ⟨fun h8 => absurd rfl h8, fun i hi => ?_⟩⟩
      rw [gup_s] at hi ⊢
      have key : ∀ i, i < nn q + 1 → (if i < p then ch q i else if i = p then y else ch q (i - 1)) = y ∧ i = p ∨ ∃ j, j < nn q ∧ (if i < p then ch q i else if i = p then y else ch q (i - 1)) = ch q j ∧ (i < p ∧ j = i ∨ p < i ∧ j + 1 = i) := by
        intro i hi
        by_cases c1 : i < p
        · exact Or.inr ⟨i, by omega, if_pos c1, Or.inl ⟨c1, rfl⟩⟩
        · rw [if_neg c1]
          by_cases c2 : i = p
          · exact Or.inl ⟨if_pos c2, c2⟩
          · exact Or.inr ⟨i - 1, by omega, if_neg c2, Or.inr ⟨by omega, by omega⟩⟩
      show (if q = q then (if i < p then ch q i else if i = p then y else ch q (i - 1)) else ch q i) < 140 ∧ kn (if q = q then (if i < p then ch q i else if i = p then y else ch q (i - 1)) else ch q i) ≠ 0 ∧ L (if q = q then (if i < p then ch q i else if i = p then y else ch q (i - 1)) else ch q i) + 1 = L q ∧ gup pa y q (if q = q then (if i < p then ch q i else if i = p then y else ch q (i - 1)) else ch q i) = q ∧ ∀ j, j < nn q + 1 → (if q = q then (if i < p then ch q i else if i = p then y else ch q (i - 1)) else ch q i) = (if q = q then (if j < p then ch q j else if j = p then y else ch q (j - 1)) else ch q j) → i = j
      rw [if_pos rfl]
      rcases key i hi with ⟨k1, k2⟩ | ⟨j1, k1, k2, k3⟩
      · rw [k1]
        refine ⟨m1, m2, m4, gup_s, fun j hj h8 => ?_⟩
        rw [if_pos rfl] at h8
        rcases key j hj with ⟨u1, u2⟩ | ⟨j2, u1, u2, u3⟩
        · omega
        · rw [u2] at h8; exact absurd h8.symm (hny j2 u1)
      · rw [k2]
        obtain ⟨d1, d2, d3, d4, d5⟩ := hch j1 k1
        refine ⟨d1, d2, d3, by rw [gup_n (hny j1 k1)]; exact d4, fun j hj h8 => ?_⟩
        rw [if_pos rfl] at h8
        rcases key j hj with ⟨u1, u2⟩ | ⟨j2, u1, u2, u3⟩
        · rw [u1] at h8; exact absurd h8 (hny j1 k1)
        · rw [u2] at h8
          have := d5 j2 u1 h8
          omega
  · rw [gup_n (fun e => m5 e.symm)]; exact r3
  · intro q hq hq2 hq3
    have e1 : q ≠ x := fun e => by subst e; omega
    exact ⟨hq2, gup_n e1, rfl, fun i _ => if_neg e1⟩
def NewR (k mm bl fr k2 mm2 bl2 fr2 : Nat → Int32) (z : Nat) (kd : Int32) : Prop := z < 140 ∧ k z = 0 ∧ k2 = upd k z kd ∧ mm2 = upd mm z 0 ∧ bl2 = upd bl z 0 ∧ fr2 = upd fr z 0
/-- a new uppermost NODE over two -/
theorem st_top {k0 bl0 k mm vl bl fr ph pc wt k2 mm2 vl2 mm3 bl2 fr2 : Nat → Int32} {rt D y0 wm z y : Nat} {kn nn L pa : Nat → Nat} {ch : Nat → Nat → Nat} (h : St k0 bl0 k mm vl bl fr ph pc wt rt D 0 y0 wm 140 140 0 kn nn L pa ch) (m1 : y < 140) (m2 : kn y ≠ 0) (m3 : pa y = 140) (m4 : L y = D) (m5 : y ≠ rt)
    (hn : NewR k mm bl fr k2 mm2 bl2 fr2 z 2) (h3 : mm3 = upd mm2 z 2) (v1 : ∀ q, (q < 24 * z ∨ 24 * z + 24 ≤ q) → vl2 q = vl q) (v2 : vl2 (24 * z) = nI rt) (v3 : vl2 (24 * z + 1) = nI y) : ∃ (kn2 nn2 L2 pa2 : Nat → Nat) (ch2 : Nat → Nat → Nat), St k0 bl0 k2 mm3 vl2 bl2 fr2 ph pc wt z (D + 1) 0 z wm 140 z 1 kn2 nn2 L2 pa2 ch2 ∧ kn2 z ≠ 0 := by
  obtain ⟨hR, hT, ⟨r1, r2, r3, r4⟩, hP, ⟨y1, y2, y3⟩, hW, hB, hC⟩ := h
  obtain ⟨p1, p2, p3, p4, p5, p6⟩ := hn
  have hz0 : kn z = 0 := (rl_k0 hR hT p1).mp p2
  have live_z : ∀ q, kn q ≠ 0 → q ≠ z := fun q h9 e => h9 (e ▸ hz0)
  have ery := live_z rt r2
  have eyz := live_z y m2
  refine ⟨gup kn z 2, gup nn z 2, gup L z (D + 1), gup (gup (gup pa z 140) rt z) y z, fun q i => if q = z then (if i = 0 then rt else y) else ch q i, ⟨?_, ?_, ⟨p1, by rw [gup_s]; decide, ?_, gup_s⟩, ?_, ⟨p1, by rw [gup_s]; decide, by rw [gup_s]⟩, ?_, ⟨?_, ?_⟩, ?_⟩, by rw [gup_s]; decide⟩
  · intro q hq
    obtain ⟨b1, b2, b3⟩ := hR q hq
    by_cases eq : q = z
    · subst eq
      refine ⟨by rw [p3, pk_us, gup_s]; rfl, fun _ => by rw [h3, pk_us, gup_s]; rfl, fun _ i hi => ?_⟩
      rw [gup_s] at hi
      show vl2 (24 * q + i) = nI (if q = q then (if i = 0 then rt else y) else ch q i)
      rw [if_pos rfl]
      by_cases c : i = 0
      · subst c; rw [if_pos rfl]; exact v2
      · rw [if_neg c, show i = 1 by omega]; exact v3
    · rw [gup_n eq]
      refine ⟨by rw [p3, pk_un eq]; exact b1, fun h9 => by rw [h3, pk_un eq, p4, pk_un eq, gup_n eq]; exact b2 h9, fun h9 i hi => ?_⟩
      rw [gup_n eq] at hi
      show vl2 (24 * q + i) = nI (if q = z then (if i = 0 then rt else y) else ch q i)
      rw [if_neg eq]
      have hn := ((hT q hq).2.1 (by omega)).2.1
      rw [v1 _ (by omega)]
      exact b3 h9 i hi
  · refine tr_mod (fun q => q = z) hT (Or.inl rfl) ?_ ?_ ?_
    · intro q hq hn
      exact ⟨gup_n hn, fun _ => ⟨gup_n hn, gup_n hn, fun i _ => if_neg hn⟩⟩
    · intro q hq h0 hp2 hn
      have e2 := live_z q h0
      have e3 : q ≠ rt := fun e => by subst e; omega
      have e4 : q ≠ y := fun e => by subst e; omega
      exact ⟨by rw [gup_n e2]; exact h0, gup_n e2, by rw [gup_n e4, gup_n e3, gup_n e2]⟩
    · intro q hq e
      subst e
      refine ⟨by rw [gup_s]; decide, fun _ => by rw [gup_s, gup_s]; exact ⟨by omega, by decide, fun _ => by decide⟩, fun h9 => by rw [gup_s] at h9; exact absurd h9 (by decide), fun _ => ⟨fun _ => by rw [gup_s]; decide, fun i hi => ?_⟩⟩
      rw [gup_s] at hi
      rw [show gup nn q 2 q = 2 from gup_s]
      show (if q = q then (if i = 0 then rt else y) else ch q i) < 140 ∧ gup kn q 2 (if q = q then (if i = 0 then rt else y) else ch q i) ≠ 0 ∧ gup L q (D + 1) (if q = q then (if i = 0 then rt else y) else ch q i) + 1 = gup L q (D + 1) q ∧ gup (gup (gup pa q 140) rt q) y q (if q = q then (if i = 0 then rt else y) else ch q i) = q ∧ ∀ j, j < 2 → (if q = q then (if i = 0 then rt else y) else ch q i) = (if q = q then (if j = 0 then rt else y) else ch q j) → i = j
      rw [if_pos rfl, gup_s]
      by_cases c : i = 0
      · rw [if_pos c, gup_n ery, gup_n ery, gup_n (fun e => m5 e.symm), gup_s]
        refine ⟨r1, r2, by omega, rfl, fun j hj h8 => ?_⟩
        rw [if_pos rfl] at h8
        by_cases c2 : j = 0
        · omega
        · rw [if_neg c2] at h8; exact absurd h8.symm m5
      · rw [if_neg c, gup_n eyz, gup_n eyz, gup_s]
        refine ⟨m1, m2, by omega, rfl, fun j hj h8 => ?_⟩
        rw [if_pos rfl] at h8
        by_cases c2 : j = 0
        · rw [if_pos c2] at h8; exact absurd h8 m5
        · omega
  · rw [gup_n (fun e => eyz e.symm), gup_n (fun e => ery e.symm), gup_s]
  · exact ⟨fun _ => z, fun _ => 0, rfl, rfl, fun j hj => absurd hj (Nat.not_lt_zero j)⟩
  · intro j hj
    obtain ⟨q, a1, a2, a3⟩ := hW j hj
    exact ⟨q, a1, a2, by rw [gup_n (live_z q a3)]; exact a3⟩
  · intro q hq h0 hne
    rw [gup_n hne] at h0
    rw [p5, pk_un hne, p6, pk_un hne]
    exact hB.1 q hq h0 (by omega)
  · intro _
    rw [p6]; exact pk_us
  · exact hC.up (y := z) (fun q hq hne h9 => by rw [gup_n hne] at h9; exact h9)
theorem bo_upd {f : Nat → Int32} {z : Nat} {v : Int32} (h : ∀ j, j < 140 → f j = 0 ∨ f j = 1) (hv : v = 0 ∨ v = 1) : ∀ j, j < 140 → upd f z v j = 0 ∨ upd f z v j = 1 := by
  intro j hj
  by_cases e : j = z
  · subst e; rw [pk_us]; exact hv
  · rw [pk_un e]; exact h j hj
