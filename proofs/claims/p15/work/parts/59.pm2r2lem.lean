/-- what is known of the two NODES that are MENDED -/
theorem mend_pre {k0 bl0 k mm vl bl fr ph pc wt : Nat → Int32} {rt D l y wm : Nat} {kn nn L pa : Nat → Nat} {ch : Nat → Nat → Nat} (h : St k0 bl0 k mm vl bl fr ph pc wt rt D (l + 1) y wm y 140 0 kn nn L pa ch) (hy19 : nn y ≤ 19) (hy1 : kn y = 2 → 1 ≤ nn y) : ∃ x a r l0 r1, ph l = nI x ∧ pc l = nI a ∧ x < 140 ∧ kn x = 2 ∧ L x + l = D ∧ ((0 < a ∧ r = a) ∨ (a = 0 ∧ r = 1)) ∧ r < nn x ∧ 1 ≤ r ∧ nn x ≤ 19 ∧ mm x = nI (nn x) ∧ vl (24 * x + r - 1) = nI l0 ∧ vl (24 * x + r) = nI r1 ∧ ch x (r - 1) = l0 ∧ ch x r = r1 ∧ (y = l0 ∨ y = r1) ∧ l0 < 140 ∧ r1 < 140 ∧ l0 ≠ r1 ∧ x ≠ l0 ∧ x ≠ r1 ∧ mm l0 = nI (nn l0) ∧ mm r1 = nI (nn r1) ∧ nn l0 ≤ 19 ∧ nn r1 ≤ 19 ∧ kn l0 ≠ 0 ∧ kn r1 = kn l0 ∧ L l0 + 1 = L x ∧ L r1 + 1 = L x ∧ pa l0 = x ∧ pa r1 = x ∧ (kn l0 = 2 → 3 ≤ nn l0 + nn r1) ∧ a < nn x ∧ St k0 bl0 k mm vl bl fr ph pc wt rt D l x wm y 140 0 kn nn L pa ch := by
  obtain ⟨x, a, a1, a2, a3, a4, a5, a6, a7, a8, a9, hst⟩ := st_pop h
  obtain ⟨hR, hT, hr, hP, hy, hW, hB, hC⟩ := h
  have hLy : L y + (l + 1) = D := hy.2.2
  have hxy : x ≠ y := fun e => by subst e; omega
  obtain ⟨n2, n19⟩ := a9 hxy
  obtain ⟨r, hr0⟩ : ∃ r, (0 < a ∧ r = a) ∨ (a = 0 ∧ r = 1) := by
    by_cases c : a = 0
    · exact ⟨1, Or.inr ⟨c, rfl⟩⟩
    · exact ⟨a, Or.inl ⟨by omega, rfl⟩⟩
  have hr1 : r < nn x := by omega
  have hr2 : 1 ≤ r := by omega
  have hch := ((hT x a3).2.2.2 a4).2
  obtain ⟨l1, l2, l3, l4, l5⟩ := hch (r - 1) (by omega)
  obtain ⟨q1, q2, q3, q4, q5⟩ := hch r hr1
  have hv := (hR x a3).2.2 a4
  have hy2 : y = ch x (r - 1) ∨ y = ch x r := by
    rcases hr0 with ⟨_, e⟩ | ⟨e0, e⟩
    · exact Or.inr (by rw [e, a7])
    · exact Or.inl (by rw [e, show 1 - 1 = a by omega, a7])
  have hne : ch x (r - 1) ≠ ch x r := fun e => by have := l5 r hr1 e; omega
  have n1 : ∀ z, z < 140 → kn z ≠ 0 → nn z ≤ 19 ∧ (kn z = 2 → 1 ≤ nn z) ∧ (z ≠ y → kn z = 2 → 2 ≤ nn z) := by
    intro z hz h0
    by_cases e : z = y
    · subst e; exact ⟨hy19, hy1, fun h9 => absurd rfl h9⟩
    · exact ⟨((hT z hz).2.1 h0).2.2 e, fun h9 => by have := ((hT z hz).2.2.2 h9).1 e; omega, fun _ h9 => ((hT z hz).2.2.2 h9).1 e⟩
  have kk : ∀ z, z < 140 → kn z ≠ 0 → (kn z = 1 ∧ L z = 1) ∨ (kn z = 2 ∧ 2 ≤ L z) := by
    intro z hz h0
    rcases tr_kind hT hz h0 with e | e
    · exact Or.inl ⟨e, (hT z hz).2.2.1 e⟩
    · refine Or.inr ⟨e, ?_⟩
      have h1 := (n1 z hz h0).2.1 e
      obtain ⟨c1, c2, c3, -⟩ := ((hT z hz).2.2.2 e).2 0 (by omega)
      have := ((hT _ c1).2.1 c2).1
      omega
  have g1 := n1 _ l1 l2
  have g2 := n1 _ q1 q2
  refine ⟨x, a, r, ch x (r - 1), ch x r, a1, a2, a3, a4, a5, hr0, hr1, hr2, n19, a8, ?_, hv r hr1, rfl, rfl, hy2, l1, q1, hne, ?_, ?_, (hR _ l1).2.1 l2, (hR _ q1).2.1 q2, g1.1, g2.1, l2, ?_, l3, q3, l4, q4, ?_, a6, hst⟩
  · rw [show 24 * x + r - 1 = 24 * x + (r - 1) by omega]; exact hv (r - 1) (by omega)
  · intro e; rw [← e] at l3; omega
  · intro e; rw [← e] at q3; omega
  · rcases kk _ l1 l2 with ⟨e1, e2⟩ | ⟨e1, e2⟩ <;> rcases kk _ q1 q2 with ⟨e3, e4⟩ | ⟨e3, e4⟩ <;> omega
  · intro e
    have e3 : kn (ch x r) = 2 := by rcases kk _ l1 l2 with ⟨e1, e2⟩ | ⟨e1, e2⟩ <;> rcases kk _ q1 q2 with ⟨e3, e4⟩ | ⟨e3, e4⟩ <;> omega
    have h1 := g1.2.1 e
    have h2 := g2.2.1 e3
    rcases hy2 with e9 | e9
    · have := g2.2.2 (fun h9 => hne (e9 ▸ h9.symm)) e3
      omega
    · have := g1.2.2 (fun h9 => hne (e9 ▸ h9)) e
      omega
theorem wr_app {kn kn2 : Nat → Nat} {wt wt2 : Nat → Int32} {wm x : Nat} (h : Wr kn wt wm) (hk : ∀ j, j < wm → ∀ q, q < 140 → wt j = nI q → kn q ≠ 0 → kn2 q ≠ 0) (hx : x < 140) (h0 : kn2 x ≠ 0) (e : wt2 = upd wt wm (nI x)) : Wr kn2 wt2 (wm + 1) := by
  subst e
  intro j hj
  by_cases c : j = wm
  · subst c; exact ⟨x, pk_us, hx, h0⟩
  · obtain ⟨q, a1, a2, a3⟩ := h j (by omega)
    exact ⟨q, by rw [pk_un c]; exact a1, a2, hk j (by omega) q a2 a1 a3⟩
theorem bq_app {k0 bl0 : Nat → Int32} {kn kn2 : Nat → Nat} {bl fr wt wt2 : Nat → Int32} {wm wm2 : Nat} (h : Bq k0 bl0 kn bl fr wt wm 140) (hk : ∀ q, q < 140 → kn2 q ≠ 0 → kn q ≠ 0) (hw : wm ≤ wm2) (he : ∀ j, j < wm → wt2 j = wt j) : Bq k0 bl0 kn2 bl fr wt2 wm2 140 := by
  refine ⟨fun q hq h0 hne => ?_, fun h9 => absurd h9 (by omega)⟩
  rcases h.1 q hq (hk q hq h0) hne with h9 | ⟨j, a1, a2, a3⟩
  · exact Or.inl h9
  · exact Or.inr ⟨j, by omega, by rw [he j a1]; exact a2, a3⟩
theorem st_mendJ {k0 bl0 k mm vl bl fr ph pc wt k2 mm2 vl2 wt2 : Nat → Int32} {rt D l y x r l0 r1 wm wm2 : Nat} {kn nn L pa : Nat → Nat} {ch : Nat → Nat → Nat} (h : St k0 bl0 k mm vl bl fr ph pc wt rt D l x wm y 140 0 kn nn L pa ch) (hx : kn x = 2) (hr1 : r < nn x) (hr2 : 1 ≤ r) (hx19 : nn x ≤ 19) (c0 : ch x (r - 1) = l0) (c1 : ch x r = r1) (hy : y = l0 ∨ y = r1) (b1 : l0 < 140) (b2 : r1 < 140) (hne : l0 ≠ r1) (hxl : x ≠ l0) (hxr : x ≠ r1) (hl0 : kn l0 ≠ 0) (hkk : kn r1 = kn l0) (L1 : L l0 + 1 = L x) (L2 : L r1 + 1 = L x) (p1 : pa l0 = x) (p2 : pa r1 = x) (h3 : kn l0 = 2 → 3 ≤ nn l0 + nn r1) (hwl : WrL L wt wm (L y))
    (hm : MendJ k mm vl wt k2 mm2 vl2 wt2 x r l0 r1 (nn x) (nn l0) (nn r1) wm wm2) : ∃ (kn2 nn2 pa2 : Nat → Nat) (ch2 : Nat → Nat → Nat), St k0 bl0 k2 mm2 vl2 bl fr ph pc wt2 rt D l x wm2 x 140 0 kn2 nn2 L pa2 ch2 ∧ kn2 x = 2 ∧ nn2 x = nn x - 1 ∧ WrL L wt2 wm2 (L x) := by
  obtain ⟨hR, hT, ⟨r1', r2', r3', r4'⟩, hP, ⟨y1, y2, y3⟩, hW, hB, hC⟩ := h
  obtain ⟨m1, m2, m3, m4, m5, m6, m7, m8, m9, m10, m11⟩ := hm
  subst m6
  have hLy : L y + 1 = L x := by rcases hy with e | e <;> subst e <;> assumption
  have hxch := ((hT x y1).2.2.2 hx).2
  have ne_l : ∀ i, i < nn x → ch x i = l0 → i = r - 1 := fun i hi e => ((hxch i hi).2.2.2.2 (r - 1) (by omega) (e.trans c0.symm))
  have ne_r : ∀ i, i < nn x → ch x i = r1 → i = r := fun i hi e => ((hxch i hi).2.2.2.2 r hr1 (e.trans c1.symm))
  have hkey : ∀ i, i < nn x - 1 → ∃ j, j < nn x ∧ j ≠ r ∧ (if i < r then ch x i else ch x (i + 1)) = ch x j ∧ (i < r ∧ j = i ∨ r ≤ i ∧ j = i + 1) := by
    intro i hi
    by_cases c : i < r
    · exact ⟨i, by omega, by omega, if_pos c, Or.inl ⟨c, rfl⟩⟩
    · exact ⟨i + 1, by omega, by omega, if_neg c, Or.inr ⟨by omega, rfl⟩⟩
  have knr : ∀ q, q ≠ r1 → gup kn r1 0 q = kn q := fun q hq => gup_n hq
  obtain ⟨mv, hmv⟩ : ∃ mv : Nat → Prop, mv = fun q => kn l0 = 2 ∧ ∃ j, j < nn r1 ∧ q = ch r1 j := ⟨_, rfl⟩
  have mv_pa : ∀ q, mv q → pa q = r1 := by
    intro q hq
    rw [hmv] at hq
    obtain ⟨a0, j, a1, a2⟩ := hq
    rw [a2]; exact (((hT r1 b2).2.2.2 (by omega)).2 j a1).2.2.2.1
  have hcb : kn l0 = 2 → ∀ j, j < nn l0 + nn r1 → gif mv l0 pa (cbN ch l0 r1 (nn l0) j) = l0 := by
    intro hk j hj
    unfold cbN
    by_cases c : j < nn l0
    · rw [if_pos c, gif_f]
      · exact (((hT l0 b1).2.2.2 hk).2 j c).2.2.2.1
      · intro h9
        have h8 := mv_pa _ h9
        rw [(((hT l0 b1).2.2.2 hk).2 j c).2.2.2.1] at h8
        exact hne h8
    · rw [if_neg c]
      exact gif_t (by rw [hmv]; exact ⟨hk, j - nn l0, by omega, rfl⟩)
  have live_cb : kn l0 = 2 → ∀ j, j < nn l0 + nn r1 → cbN ch l0 r1 (nn l0) j ≠ r1 := by
    intro hk j hj e
    have h9 := (cb_ok hT b1 b2 hne hk (by omega) (by omega) j hj).2.2.1
    rw [e] at h9
    omega
  refine ⟨gup kn r1 0, gup (gup nn l0 (nn l0 + nn r1)) x (nn x - 1), gif mv l0 pa, fun q i => if q = l0 then cbN ch l0 r1 (nn l0) i else if q = x then (if i < r then ch x i else ch x (i + 1)) else ch q i, ⟨?_, ?_, ⟨r1', ?_, ?_, r4'⟩, hP.keep ?_, ⟨y1, ?_, y3⟩, ?_, ?_, ?_⟩, ?_, gup_s, ?_⟩
  · intro q hq
    obtain ⟨d1, d2, d3⟩ := hR q hq
    by_cases er : q = r1
    · subst er
      refine ⟨by rw [m2, pk_us, gup_s]; rfl, fun h9 => absurd gup_s h9, fun h9 => by rw [gup_s] at h9; exact absurd h9 (by decide)⟩
    · rw [knr q er]
      refine ⟨by rw [m2, pk_un er]; exact d1, fun h9 => ?_, fun h9 i hi => ?_⟩
      · by_cases ex : q = x
        · subst ex; rw [gup_s]; exact m4
        · rw [gup_n ex]
          by_cases el : q = l0
          · subst el; rw [gup_s]; exact m3
          · rw [gup_n el, m5 q el ex]; exact d2 h9
      · show vl2 (24 * q + i) = nI (if q = l0 then cbN ch l0 r1 (nn l0) i else if q = x then (if i < r then ch x i else ch x (i + 1)) else ch q i)
        have hn := ((hT q hq).2.1 (by omega)).2.1
        by_cases el : q = l0
        · subst el
          rw [gup_n (fun e => hxl e.symm), gup_s] at hi
          rw [if_pos rfl, m9 i hi]
          exact cb_rel hR b1 b2 h9 (by omega) i hi
        · rw [if_neg el]
          by_cases ex : q = x
          · subst ex
            rw [gup_s] at hi
            rw [if_pos rfl]
            by_cases c : i < r
            · rw [if_pos c, m10 i c]; exact d3 h9 i (by omega)
            · rw [if_neg c, m11 i (by omega) hi]; exact d3 h9 (i + 1) (by omega)
          · rw [gup_n ex, gup_n el] at hi
            rw [if_neg ex, m8 _ (by omega) (by omega)]
            exact d3 h9 i hi
  · refine tr_mod (fun q => q = l0 ∨ q = r1 ∨ q = x) hT (Or.inr (by rcases hy with e | e; exact Or.inl e; exact Or.inr (Or.inl e))) ?_ ?_ ?_
    · intro q hq hn
      have e1 : q ≠ l0 := fun e => hn (Or.inl e)
      have e2 : q ≠ r1 := fun e => hn (Or.inr (Or.inl e))
      have e3 : q ≠ x := fun e => hn (Or.inr (Or.inr e))
      exact ⟨gup_n e2, fun _ => ⟨by rw [gup_n e3, gup_n e1], rfl, fun i _ => by show (if q = l0 then _ else if q = x then _ else ch q i) = ch q i; rw [if_neg e1, if_neg e3]⟩⟩
    · intro q hq h0 hp2 hn
      have e1 : pa q ≠ l0 := fun e => hn (Or.inl e)
      have e2 : pa q ≠ r1 := fun e => hn (Or.inr (Or.inl e))
      have e3 : pa q ≠ x := fun e => hn (Or.inr (Or.inr e))
      have e4 : q ≠ r1 := fun e => e3 (e ▸ p2)
      exact ⟨by rw [gup_n e4]; exact h0, rfl, gif_f (fun h9 => e2 (mv_pa q h9))⟩
    · intro q hq hxq
      by_cases er : q = r1
      · subst er
        refine ⟨by rw [gup_s]; decide, fun h9 => absurd gup_s h9, fun h9 => by rw [gup_s] at h9; exact absurd h9 (by decide), fun h9 => by rw [gup_s] at h9; exact absurd h9 (by decide)⟩
      · by_cases ex : q = x
        · subst ex
          have hxc := hT q hq
          refine ⟨by rw [knr q er]; exact hxc.1, fun _ => ⟨(hxc.2.1 y2).1, by rw [gup_s]; omega, fun h9 => absurd rfl h9⟩, fun h9 => by rw [knr q er] at h9; omega, fun _ => ⟨fun h9 => absurd rfl h9, fun i hi => ?_⟩⟩
          rw [gup_s] at hi ⊢
          obtain ⟨j, j1, j2, j3, j4⟩ := hkey i hi
          obtain ⟨d1, d2, d3, d4, d5⟩ := hxch j j1
          have er2 : ch q j ≠ r1 := fun e => j2 (ne_r j j1 e)
          show (if q = l0 then cbN ch l0 r1 (nn l0) i else if q = q then (if i < r then ch q i else ch q (i + 1)) else ch q i) < 140 ∧ gup kn r1 0 (if q = l0 then cbN ch l0 r1 (nn l0) i else if q = q then (if i < r then ch q i else ch q (i + 1)) else ch q i) ≠ 0 ∧ L (if q = l0 then cbN ch l0 r1 (nn l0) i else if q = q then (if i < r then ch q i else ch q (i + 1)) else ch q i) + 1 = L q ∧ gif mv l0 pa (if q = l0 then cbN ch l0 r1 (nn l0) i else if q = q then (if i < r then ch q i else ch q (i + 1)) else ch q i) = q ∧ ∀ i2, i2 < nn q - 1 → (if q = l0 then cbN ch l0 r1 (nn l0) i else if q = q then (if i < r then ch q i else ch q (i + 1)) else ch q i) = (if q = l0 then cbN ch l0 r1 (nn l0) i2 else if q = q then (if i2 < r then ch q i2 else ch q (i2 + 1)) else ch q i2) → i = i2
          rw [if_neg hxl, if_pos rfl, j3]
          refine ⟨d1, by rw [knr _ er2]; exact d2, d3, ?_, fun i2 hi2 h9 => ?_⟩
          · rw [gif_f]
            · exact d4
            · intro h9
              have := mv_pa _ h9
              omega
          · rw [if_neg hxl, if_pos rfl] at h9
            obtain ⟨j', j1', j2', j3', j4'⟩ := hkey i2 hi2
            rw [j3'] at h9
            have := d5 j' j1' h9
            omega
        · have el : q = l0 := by rcases hxq with e | e | e; exact e; exact absurd e er; exact absurd e ex
          subst el
          have hlc := hT q hq
          refine ⟨by rw [knr q er]; exact hlc.1, fun _ => ⟨(hlc.2.1 hl0).1, by rw [gup_n ex, gup_s]; omega, fun _ => by rw [gup_n ex, gup_s]; omega⟩, fun h9 => by rw [knr q er] at h9; exact hlc.2.2.1 h9, fun h9 => ?_⟩
          rw [knr q er] at h9
          rw [gup_n ex, gup_s]
          have h33 := h3 h9
          refine ⟨fun _ => by omega, fun i hi => ?_⟩
          obtain ⟨d1, d2, d3, d4, d5⟩ := cb_ok hT b1 b2 hne h9 (by omega) (by omega) i hi
          show (if q = q then cbN ch q r1 (nn q) i else if q = x then (if i < r then ch x i else ch x (i + 1)) else ch q i) < 140 ∧ gup kn r1 0 (if q = q then cbN ch q r1 (nn q) i else if q = x then (if i < r then ch x i else ch x (i + 1)) else ch q i) ≠ 0 ∧ L (if q = q then cbN ch q r1 (nn q) i else if q = x then (if i < r then ch x i else ch x (i + 1)) else ch q i) + 1 = L q ∧ gif mv q pa (if q = q then cbN ch q r1 (nn q) i else if q = x then (if i < r then ch x i else ch x (i + 1)) else ch q i) = q ∧ ∀ i2, i2 < nn q + nn r1 → (if q = q then cbN ch q r1 (nn q) i else if q = x then (if i < r then ch x i else ch x (i + 1)) else ch q i) = (if q = q then cbN ch q r1 (nn q) i2 else if q = x then (if i2 < r then ch x i2 else ch x (i2 + 1)) else ch q i2) → i = i2
          rw [if_pos rfl]
          refine ⟨d1, by rw [knr _ (live_cb h9 i hi)]; exact d2, d3, hcb h9 i hi, fun i2 hi2 h8 => ?_⟩
          rw [if_pos rfl] at h8
          exact d5 i2 hi2 h8
  · rw [knr rt (fun e => by rw [e, p2] at r3'; omega)]; exact r2'
  · rw [gif_f]
    · exact r3'
    · intro h9
      have := mv_pa _ h9
      omega
  · intro q hq hq2 hq3
    have e1 : q ≠ l0 := fun e => by subst e; omega
    have e2 : q ≠ r1 := fun e => by subst e; omega
    have e3 : q ≠ x := fun e => by subst e; omega
    exact ⟨by rw [gup_n e2]; exact hq2, by rw [gup_n e3, gup_n e1], rfl, fun i _ => by show (if q = l0 then _ else if q = x then _ else ch q i) = ch q i; rw [if_neg e1, if_neg e3]⟩
  · rw [knr x hxr]; exact y2
  · refine wr_app hW (fun j hj q hq e h0 => ?_) b1 (by rw [knr l0 hne]; exact hl0) m7
    have := hwl j hj q hq e
    rw [knr q (fun e9 => by subst e9; omega)]
    exact h0
  · exact bq_app hB (fun q hq h9 => by by_cases e : q = r1; (subst e; exact absurd gup_s h9); (rw [gup_n e] at h9; exact h9)) (by omega) (fun j hj => by rw [m7, pk_un (by omega)])
  · refine hC.mono (by omega) (fun q hq h9 => ?_)
    by_cases e : q = r1
    · subst e; exact absurd gup_s h9
    · rw [gup_n e] at h9; exact h9
  · rw [knr x hxr]; exact hx
  · exact hwl.up (by omega) b1 (by omega) m7
theorem st_mendS {k0 bl0 k mm vl bl fr ph pc wt k2 mm2 vl2 wt2 : Nat → Int32} {rt D l y x l0 r1 wm wm2 : Nat} {kn nn L pa : Nat → Nat} {ch : Nat → Nat → Nat} (h : St k0 bl0 k mm vl bl fr ph pc wt rt D l x wm y 140 0 kn nn L pa ch) (hx : kn x = 2) (hy : y = l0 ∨ y = r1) (b1 : l0 < 140) (b2 : r1 < 140) (hne : l0 ≠ r1) (hxl : x ≠ l0) (hxr : x ≠ r1) (n1 : nn l0 ≤ 19) (n2 : nn r1 ≤ 19) (hl0 : kn l0 ≠ 0) (hkk : kn r1 = kn l0) (L1 : L l0 + 1 = L x) (L2 : L r1 + 1 = L x) (p1 : pa l0 = x) (p2 : pa r1 = x) (hwl : WrL L wt wm (L y))
    (hm : MendS k mm vl wt k2 mm2 vl2 wt2 l0 r1 (nn l0) (nn r1) wm wm2) : ∃ (nn2 pa2 : Nat → Nat) (ch2 : Nat → Nat → Nat), St k0 bl0 k2 mm2 vl2 bl fr ph pc wt2 rt D l x wm2 140 140 0 kn nn2 L pa2 ch2 ∧ WrL L wt2 wm2 (L x) := by
  obtain ⟨hR, hT, ⟨r1', r2', r3', r4'⟩, hP, ⟨y1, y2, y3⟩, hW, hB, hC⟩ := h
  obtain ⟨m1, m2, m3, m4, m5, m6, m7, m8, m9, m10⟩ := hm
  subst m6 m2
  have hLy : L y + 1 = L x := by rcases hy with e | e <;> subst e <;> assumption
  obtain ⟨s, hs⟩ : ∃ s, s = (nn l0 + nn r1 + 1) / 2 := ⟨_, rfl⟩
  rw [← hs] at m3 m4 m9 m10
  obtain ⟨cb, hcb⟩ : ∃ cb : Nat → Nat, cb = cbN ch l0 r1 (nn l0) := ⟨_, rfl⟩
  have hok : kn l0 = 2 → ∀ j, j < nn l0 + nn r1 → cb j < 140 ∧ kn (cb j) ≠ 0 ∧ L (cb j) + 1 = L l0 ∧ (pa (cb j) = l0 ∨ pa (cb j) = r1) ∧ ∀ i, i < nn l0 + nn r1 → cb j = cb i → j = i := by
    intro hk; rw [hcb]; exact cb_ok hT b1 b2 hne hk (by omega) (by omega)
  have hrel : kn l0 = 2 → ∀ j, j < nn l0 + nn r1 → cbF vl l0 r1 (nn l0) j = nI (cb j) := by
    intro hk; rw [hcb]; exact cb_rel hR b1 b2 hk (by omega)
  have hk5 : kn l0 = 2 → 5 < nn l0 + nn r1 := fun e => m1 (by rw [(hR l0 b1).1, e]; rfl)
  obtain ⟨ma, hma⟩ : ∃ ma : Nat → Prop, ma = fun q => kn l0 = 2 ∧ ∃ j, j < s ∧ q = cb j := ⟨_, rfl⟩
  obtain ⟨mb, hmb⟩ : ∃ mb : Nat → Prop, mb = fun q => kn l0 = 2 ∧ ∃ j, s ≤ j ∧ j < nn l0 + nn r1 ∧ q = cb j := ⟨_, rfl⟩
  have ma_pa : ∀ q, ma q → pa q = l0 ∨ pa q = r1 := by
    intro q hq
    rw [hma] at hq
    obtain ⟨a0, j, a1, a2⟩ := hq
    rw [a2]; exact (hok a0 j (by omega)).2.2.2.1
  have mb_pa : ∀ q, mb q → pa q = l0 ∨ pa q = r1 := by
    intro q hq
    rw [hmb] at hq
    obtain ⟨a0, j, a1, a2, a3⟩ := hq
    rw [a3]; exact (hok a0 j a2).2.2.2.1
  have pa_o : ∀ q, pa q ≠ l0 → pa q ≠ r1 → gif ma l0 (gif mb r1 pa) q = pa q := by
    intro q e1 e2
    rw [gif_f (fun h9 => by rcases ma_pa q h9 with e | e; exact e1 e; exact e2 e), gif_f (fun h9 => by rcases mb_pa q h9 with e | e; exact e1 e; exact e2 e)]
  refine ⟨gup (gup nn l0 s) r1 (nn l0 + nn r1 - s), gif ma l0 (gif mb r1 pa), fun q i => if q = l0 then cb i else if q = r1 then cb (s + i) else ch q i, ⟨?_, ?_, ⟨r1', r2', ?_, r4'⟩, hP.keep ?_, ⟨y1, y2, y3⟩, ?_, ?_, ?_⟩, ?_⟩
  · intro q hq
    obtain ⟨d1, d2, d3⟩ := hR q hq
    refine ⟨d1, fun h9 => ?_, fun h9 i hi => ?_⟩
    · by_cases er : q = r1
      · subst er; rw [gup_s]; exact m4
      · rw [gup_n er]
        by_cases el : q = l0
        · subst el; rw [gup_s]; exact m3
        · rw [gup_n el, m5 q el er]; exact d2 h9
    · show vl2 (24 * q + i) = nI (if q = l0 then cb i else if q = r1 then cb (s + i) else ch q i)
      have hn := ((hT q hq).2.1 (by omega)).2.1
      by_cases el : q = l0
      · subst el
        rw [gup_n hne, gup_s] at hi
        rw [if_pos rfl, m9 i hi]
        exact hrel h9 i (by omega)
      · rw [if_neg el]
        by_cases er : q = r1
        · subst er
          rw [gup_s] at hi
          rw [if_pos rfl, m10 i hi]
          exact hrel (by omega) (s + i) (by omega)
        · rw [gup_n er, gup_n el] at hi
          rw [if_neg er, m8 _ (by omega) (by omega)]
          exact d3 h9 i hi
  · refine tr_mod (fun q => q = l0 ∨ q = r1) hT (Or.inr hy) ?_ ?_ ?_
    · intro q hq hn
      have e1 : q ≠ l0 := fun e => hn (Or.inl e)
      have e2 : q ≠ r1 := fun e => hn (Or.inr e)
      exact ⟨rfl, fun _ => ⟨by rw [gup_n e2, gup_n e1], rfl, fun i _ => by show (if q = l0 then _ else if q = r1 then _ else ch q i) = ch q i; rw [if_neg e1, if_neg e2]⟩⟩
    · intro q hq h0 hp2 hn
      exact ⟨h0, rfl, pa_o q (fun e => hn (Or.inl e)) (fun e => hn (Or.inr e))⟩
    · intro q hq hxq
      by_cases er : q = r1
      · subst er
        have hqc := hT q hq
        have el : q ≠ l0 := fun e => hne e.symm
        refine ⟨hqc.1, fun h9 => ⟨(hqc.2.1 h9).1, by rw [gup_s]; omega, fun _ => by rw [gup_s]; omega⟩, hqc.2.2.1, fun h9 => ?_⟩
        have h55 := hk5 (by omega)
        rw [gup_s]
        refine ⟨fun _ => by omega, fun i hi => ?_⟩
        obtain ⟨d1, d2, d3, d4, d5⟩ := hok (by omega) (s + i) (by omega)
        show (if q = l0 then cb i else if q = q then cb (s + i) else ch q i) < 140 ∧ kn (if q = l0 then cb i else if q = q then cb (s + i) else ch q i) ≠ 0 ∧ L (if q = l0 then cb i else if q = q then cb (s + i) else ch q i) + 1 = L q ∧ gif ma l0 (gif mb q pa) (if q = l0 then cb i else if q = q then cb (s + i) else ch q i) = q ∧ ∀ i2, i2 < nn l0 + nn q - s → (if q = l0 then cb i else if q = q then cb (s + i) else ch q i) = (if q = l0 then cb i2 else if q = q then cb (s + i2) else ch q i2) → i = i2
        rw [if_neg el, if_pos rfl]
        refine ⟨d1, d2, by omega, ?_, fun i2 hi2 h8 => ?_⟩
        · rw [gif_f]
          · exact gif_t (by rw [hmb]; exact ⟨by omega, s + i, by omega, by omega, rfl⟩)
          · intro h8
            rw [hma] at h8
            obtain ⟨_, j, a1, a2⟩ := h8
            have := d5 j (by omega) a2
            omega
        · rw [if_neg el, if_pos rfl] at h8
          have := d5 (s + i2) (by omega) h8
          omega
      · have el : q = l0 := by rcases hxq with e | e; exact e; exact absurd e er
        subst el
        have hqc := hT q hq
        refine ⟨hqc.1, fun h9 => ⟨(hqc.2.1 h9).1, by rw [gup_n er, gup_s]; omega, fun _ => by rw [gup_n er, gup_s]; omega⟩, hqc.2.2.1, fun h9 => ?_⟩
        have h55 := hk5 h9
        rw [gup_n er, gup_s]
        refine ⟨fun _ => by omega, fun i hi => ?_⟩
        obtain ⟨d1, d2, d3, d4, d5⟩ := hok h9 i (by omega)
        show (if q = q then cb i else if q = r1 then cb (s + i) else ch q i) < 140 ∧ kn (if q = q then cb i else if q = r1 then cb (s + i) else ch q i) ≠ 0 ∧ L (if q = q then cb i else if q = r1 then cb (s + i) else ch q i) + 1 = L q ∧ gif ma q (gif mb r1 pa) (if q = q then cb i else if q = r1 then cb (s + i) else ch q i) = q ∧ ∀ i2, i2 < s → (if q = q then cb i else if q = r1 then cb (s + i) else ch q i) = (if q = q then cb i2 else if q = r1 then cb (s + i2) else ch q i2) → i = i2
        rw [if_pos rfl]
        refine ⟨d1, d2, d3, gif_t (by rw [hma]; exact ⟨h9, i, hi, rfl⟩), fun i2 hi2 h8 => ?_⟩
        rw [if_pos rfl] at h8
        exact d5 i2 (by omega) h8
  · rw [pa_o rt (by omega) (by omega)]; exact r3'
  · intro q hq hq2 hq3
    have e1 : q ≠ l0 := fun e => by subst e; omega
    have e2 : q ≠ r1 := fun e => by subst e; omega
    exact ⟨hq2, by rw [gup_n e2, gup_n e1], rfl, fun i _ => by show (if q = l0 then _ else if q = r1 then _ else ch q i) = ch q i; rw [if_neg e1, if_neg e2]⟩
  · exact wr_app (wr_app hW (fun _ _ _ _ _ h9 => h9) b1 hl0 rfl) (fun _ _ _ _ _ h9 => h9) b2 (by omega) m7
  · exact bq_app hB (fun q hq h9 => h9) (by omega) (fun j hj => by rw [m7, pk_un (by omega), pk_un (by omega)])
  · exact hC.mono (by omega) (fun q hq h9 => h9)
  · exact (hwl.up (lv2 := L x) (by omega) b1 (by omega) rfl).up (Nat.le_refl _) b2 (by omega) m7
/-- the NODE y is MENDED with its neighbour: the state behind it, a level up -/
theorem st_mend {k0 bl0 k mm vl bl fr ph pc wt k2 mm2 vl2 wt2 : Nat → Int32} {rt D l y x r l0 r1 wm wm2 : Nat} {io : Int32} {kn nn L pa : Nat → Nat} {ch : Nat → Nat → Nat} (hph : ph l = nI x) (h : St k0 bl0 k mm vl bl fr ph pc wt rt D l x wm y 140 0 kn nn L pa ch) (hx : kn x = 2) (hr1 : r < nn x) (hr2 : 1 ≤ r) (hx19 : nn x ≤ 19) (c0 : ch x (r - 1) = l0) (c1 : ch x r = r1) (hy : y = l0 ∨ y = r1) (b1 : l0 < 140) (b2 : r1 < 140) (hne : l0 ≠ r1) (hxl : x ≠ l0) (hxr : x ≠ r1) (n1 : nn l0 ≤ 19) (n2 : nn r1 ≤ 19) (hl0 : kn l0 ≠ 0) (hkk : kn r1 = kn l0) (L1 : L l0 + 1 = L x) (L2 : L r1 + 1 = L x) (p1 : pa l0 = x) (p2 : pa r1 = x) (h3 : kn l0 = 2 → 3 ≤ nn l0 + nn r1) (hwl : WrL L wt wm (L y))
    (hm : MendR k mm vl wt k2 mm2 vl2 wt2 x r l0 r1 (nn x) (nn l0) (nn r1) wm wm2 io) : RH k0 bl0 k2 mm2 vl2 bl fr ph pc wt2 rt D l wm2 io := by
  rcases hm with ⟨hio, hm⟩ | hm
  · obtain ⟨kn2, nn2, pa2, ch2, a1, a2, a3, a4⟩ := st_mendJ h hx hr1 hr2 hx19 c0 c1 hy b1 b2 hne hxl hxr hl0 hkk L1 L2 p1 p2 h3 hwl hm
    exact ⟨kn2, nn2, L, pa2, ch2, x, hph, a1, a2, by omega, by omega, fun h9 => absurd (hio.symm.trans h9) (by decide), a4⟩
  · obtain ⟨nn2, pa2, ch2, a1, a4⟩ := st_mendS h hx hy b1 b2 hne hxl hxr n1 n2 hl0 hkk L1 L2 p1 p2 hwl hm
    have h9 := a1.2.1 x a1.2.2.2.2.1.1
    have h8 := (h9.2.2.2 hx).1 (by have := a1.2.2.2.2.1.1; omega)
    have h7 := (h9.2.1 (by omega)).2.2 (by have := a1.2.2.2.2.1.1; omega)
    exact ⟨kn, nn2, L, pa2, ch2, x, hph, st_weak a1 x, hx, by omega, h7, fun _ => h8, a4⟩
/-- the NODE y is WRITTEN and has enough: a level up -/
theorem rh_up {k0 bl0 k mm vl bl fr ph pc wt wt2 : Nat → Int32} {rt D l y wm : Nat} {io : Int32} {kn nn L pa : Nat → Nat} {ch : Nat → Nat → Nat} (h : St k0 bl0 k mm vl bl fr ph pc wt rt D (l + 1) y wm 140 140 0 kn nn L pa ch) (hwl : WrL L wt wm (L y)) (hw : wt2 = upd wt wm (nI y)) : RH k0 bl0 k mm vl bl fr ph pc wt2 rt D l (wm + 1) io := by
  obtain ⟨-, -, -, y1, y2, y3⟩ := st_live h
  have h1 := st_wr h y1 y2 hw
  obtain ⟨x, a, a1, a2, a3, a4, a5, a6, a7, a8, a9, hst⟩ := st_pop h1
  obtain ⟨b1, b2⟩ := a9 (by omega)
  exact ⟨kn, nn, L, pa, ch, x, a1, st_weak hst x, a4, by omega, b2, fun _ => b1, hwl.up (by omega) y1 (by omega) hw⟩
theorem rl_kill {k k2 mm vl : Nat → Int32} {kn nn : Nat → Nat} {ch : Nat → Nat → Nat} {x : Nat} (hR : Rl k mm vl kn nn ch) (e : k2 = upd k x 0) : Rl k2 mm vl (gup kn x 0) nn ch := by
  intro q hq
  obtain ⟨a, b, c⟩ := hR q hq
  by_cases eq : q = x
  · subst eq
    exact ⟨by rw [e, pk_us, gup_s]; rfl, fun h9 => absurd gup_s h9, fun h9 => by rw [gup_s] at h9; exact absurd h9 (by decide)⟩
  · rw [gup_n eq]
    exact ⟨by rw [e, pk_un eq]; exact a, b, c⟩
theorem tr_kill {kn n L pa : Nat → Nat} {c : Nat → Nat → Nat} {e x : Nat} (hT : Tr kn n L pa c e) (he : e = 140 ∨ e = x) (hx : x < 140) (hp : pa x = 140) : Tr (gup kn x 0) n L pa c 140 := by
  refine tr_mod (fun q => q = x) hT (by rcases he with h | h; exact Or.inl h; exact Or.inr h) ?_ ?_ ?_
  · intro q hq hn
    exact ⟨gup_n hn, fun _ => ⟨rfl, rfl, fun _ _ => rfl⟩⟩
  · intro q hq h0 hp2 hn
    exact ⟨by rw [gup_n (fun e => by subst e; omega)]; exact h0, rfl, rfl⟩
  · intro q hq e9
    subst e9
    exact ⟨by rw [gup_s]; decide, fun h9 => absurd gup_s h9, fun h9 => by rw [gup_s] at h9; exact absurd h9 (by decide), fun h9 => by rw [gup_s] at h9; exact absurd h9 (by decide)⟩
theorem bq_kill {k0 bl0 : Nat → Int32} {kn : Nat → Nat} {bl fr wt : Nat → Int32} {wm x : Nat} (h : Bq k0 bl0 kn bl fr wt wm 140) : Bq k0 bl0 (gup kn x 0) bl fr wt wm 140 := bq_app h (fun q hq h9 => by by_cases e : q = x; (subst e; exact absurd gup_s h9); (rw [gup_n e] at h9; exact h9)) (Nat.le_refl _) (fun _ _ => rfl)
theorem wr_kill {kn L : Nat → Nat} {wt : Nat → Int32} {wm x : Nat} (h : Wr kn wt wm) (hl : WrL L wt wm (L x)) : Wr (gup kn x 0) wt wm := by
  intro j hj
  obtain ⟨q, a1, a2, a3⟩ := h j hj
  have := hl j hj q a2 a1
  exact ⟨q, a1, a2, by rw [gup_n (fun e => by subst e; omega)]; exact a3⟩
/-- the only LEAF is gone -/
theorem do_none {k0 bl0 k mm vl bl fr ph pc wt k2 : Nat → Int32} {rt D y : Nat} {kn nn L pa : Nat → Nat} {ch : Nat → Nat → Nat} (h : St k0 bl0 k mm vl bl fr ph pc wt rt D 0 y 0 140 140 0 kn nn L pa ch) (e : k2 = upd k y 0) : DoP k0 bl0 k2 mm vl bl fr wt 0 (-1) := by
  obtain ⟨hR, hT, ⟨r1, r2, r3, r4⟩, ⟨pth, pl, p0, p1, p2⟩, ⟨y1, y2, y3⟩, hW, hB, hC⟩ := h
  have e9 : y = rt := p1.symm.trans p0
  exact ⟨_, nn, L, pa, ch, rl_kill hR e, tr_kill hT (Or.inl rfl) y1 (by rw [e9]; exact r3), Or.inl rfl, fun j hj => absurd hj (Nat.not_lt_zero j), bq_kill hB⟩
/-- the uppermost NODE has one child, and that takes its place -/
theorem do_drop {k0 bl0 k mm vl bl fr ph pc wt : Nat → Int32} {rt D x wm : Nat} {kn nn L pa : Nat → Nat} {ch : Nat → Nat → Nat} (h : St k0 bl0 k mm vl bl fr ph pc wt rt D 0 x wm x 140 0 kn nn L pa ch) (hk : kn x = 2) (hn : nn x = 1) (hwl : WrL L wt wm (L x)) : rt < 140 ∧ k rt = 2 ∧ mm rt = 1 ∧ ∃ y, y < 140 ∧ vl (24 * rt) = nI y ∧ y ≠ rt ∧ (k y = 2 → ¬ mm y = 1) ∧ ∀ k2 : Nat → Int32, k2 = upd k rt 0 → DoP k0 bl0 k2 mm vl bl fr wt wm (nI y) := by
  obtain ⟨hR, hT, ⟨r1, r2, r3, r4⟩, ⟨pth, pl, p0, p1, p2⟩, ⟨y1, y2, y3⟩, hW, hB, hC⟩ := h
  have e9 : x = rt := p1.symm.trans p0
  subst e9
  obtain ⟨c1, c2, c3, c4, -⟩ := ((hT x y1).2.2.2 hk).2 0 (by omega)
  have hyx : ch x 0 ≠ x := fun e => by rw [e] at c3; omega
  refine ⟨y1, by rw [(hR x y1).1, hk]; rfl, by rw [(hR x y1).2.1 y2, hn]; rfl, ch x 0, c1, (hR x y1).2.2 hk 0 (by omega), hyx, fun h9 h8 => ?_, fun k2 e => ?_⟩
  · have hk2 : kn (ch x 0) = 2 := by
      rw [(hR _ c1).1] at h9
      exact (nI_eq (b := 2) (by have := (hT _ c1).1; omega) (by decide)).mp h9
    have h7 := ((hT _ c1).2.2.2 hk2).1 hyx
    have h6 := ((hT _ c1).2.1 c2).2.1
    rw [(hR _ c1).2.1 c2] at h8
    have := (nI_eq (b := 1) (by omega) (by decide)).mp h8
    omega
  · have t1 := tr_kill (x := x) hT (Or.inr rfl) y1 r3
    refine ⟨gup kn x 0, nn, L, gup pa (ch x 0) 140, ch, rl_kill hR e, ?_, Or.inr ⟨ch x 0, c1, rfl, by rw [gup_n hyx]; exact c2, gup_s⟩, wr_kill hW hwl, bq_kill hB⟩
    refine tr_mod (fun q => q = x) t1 (Or.inl rfl) (fun q hq hn9 => ⟨rfl, fun _ => ⟨rfl, rfl, fun _ _ => rfl⟩⟩) (fun q hq h0 hp2 hn9 => ⟨h0, rfl, gup_n (fun e9 => hn9 (by show pa q = x; rw [e9]; exact c4))⟩) (fun q hq e8 => ?_)
    subst e8
    exact ⟨by rw [gup_s]; decide, fun h9 => absurd gup_s h9, fun h9 => by rw [gup_s] at h9; exact absurd h9 (by decide), fun h9 => by rw [gup_s] at h9; exact absurd h9 (by decide)⟩
theorem RE.get {k0 bl0 k mm vl bl fr ph pc wt : Nat → Int32} {rt D l wm : Nat} {io root : Int32} (h : RE k0 bl0 k mm vl bl fr ph pc wt rt D (l + 1) wm io root) : root = nI rt ∧ RH k0 bl0 k mm vl bl fr ph pc wt rt D l wm io := by
  rcases h with ⟨e, _⟩ | ⟨l', e, er, h⟩
  · exact absurd e (by omega)
  · have : l' = l := by omega
    subst this
    exact ⟨er, h⟩
theorem mend_wm {k mm vl wt k2 mm2 vl2 wt2 : Nat → Int32} {x r l0 r1 np nl nr wm wm2 : Nat} {io : Int32} (h : MendR k mm vl wt k2 mm2 vl2 wt2 x r l0 r1 np nl nr wm wm2 io) : wm2 ≤ wm + 2 := by
  rcases h with ⟨_, h⟩ | h
  · have := h.2.2.2.2.2.1; omega
  · have := h.2.2.2.2.2.1; omega
theorem st_old {b : Nat} {k mm bl vl fr ph pc wt : Nat → Int32} {l rt lf : Nat} {kn nn L pa : Nat → Nat} {ch : Nat → Nat → Nat} (hb : b ≤ 64) (hR : Rl k mm vl kn nn ch) (hT : Tr kn nn L pa ch 140) (hB : Bk bl kn b) (hRt : Rt (nI rt) kn pa) (hrt : rt < 140) (h1 : lf < 140) (h2 : kn lf = 1) (hP : Pth kn nn L ch ph pc (l + 1) l lf rt) : St k bl k mm vl bl fr ph pc wt rt (l + 1) l lf 0 140 140 0 kn nn L pa ch := by
  have hL1 := (hT lf h1).2.2.1 h2
  obtain ⟨r, r1, r2, r3, r4⟩ : ∃ r, r < 140 ∧ nI rt = nI r ∧ kn r ≠ 0 ∧ pa r = 140 := by
    rcases hRt with h | h
    · exact absurd h (nI_ne_m1 hrt)
    · exact h
  have e := (nI_eq (by omega) (by omega)).mp r2
  subst e
  refine ⟨hR, hT, ⟨hrt, r3, r4, ?_⟩, hP, ⟨h1, by omega, by omega⟩, fun j hj => absurd hj (Nat.not_lt_zero j), ⟨fun x hx h0 _ => Or.inl ⟨fun h9 => h0 ((rl_k0 hR hT hx).mp h9), rfl⟩, fun h9 => absurd h9 (by omega)⟩, (hB.cov hb).mono (by omega) (fun _ _ h9 => h9)⟩
  obtain ⟨pth, pl, a0, a1, a2⟩ := hP
  by_cases hl : l = 0
  · subst hl
    rw [← a0, a1]; omega
  · have := (a2 0 (by omega)).2.2.2.2.1
    rw [a0] at this
    omega
theorem era_o {mm vl mm2 vl2 : Nat → Int32} {x p n : Nat} (h : EraR mm vl mm2 vl2 x p n) : mm2 x = nI (n - 1) ∧ (∀ q, q < 140 → q ≠ x → mm2 q = mm q) ∧ ∀ q, (q < 24 * x ∨ 24 * x + 24 ≤ q) → vl2 q = vl q := by
  obtain ⟨a, b, -⟩ := h
  exact ⟨by rw [a, pk_us], fun q _ hq => by rw [a, pk_un hq], b⟩
