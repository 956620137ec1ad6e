abbrev MA9 (a : Nat) (cA : ClassId) (n : Nat) (f : Nat → Int32) : Nat × va_E := (a, .inl (cA, n, .inl f))
abbrev MO9 (h0 : Nat) (f0 : Int32) (f1 : Int32) (f2 : Int32) (f3 : Int32) (f4 : Int32) (f5 : Int32) (f6 : Nat) (f7 : Int32) (f8 : Int32) (f9 : Int32) (f10 : Int32) (f11 : Int32) (f12 : Nat) (f13 : Nat) (f14 : Nat) (f15 : Nat) (f16 : Nat) (f17 : Nat) (f18 : Nat) (f19 : Nat) (f20 : Nat) (f21 : Nat) (f22 : Nat) (f23 : Nat) (f24 : Int32) (f25 : Int32) (f26 : Int32) (f27 : Int32) (f28 : Nat) (f29 : Nat) (f30 : Nat) (f31 : Nat) (f32 : Nat) (f33 : Int32) (f34 : Int32) (f35 : Nat) (f36 : Nat) (f37 : Int32) (f38 : Nat) (f39 : Nat) (f40 : Int32) (f41 : Nat) (f42 : Int32) (f43 : Int32) (f44 : Nat) (f45 : Nat) (f46 : Int32) (f47 : Int32) (f48 : Int32) (f49 : Int32) : Nat × va_E := (h0, .inr (9, [.int f0, .int f1, .int f2, .int f3, .int f4, .int f5, .ref f6, .int f7, .int f8, .int f9, .int f10, .int f11, .ref f12, .ref f13, .ref f14, .ref f15, .ref f16, .ref f17, .ref f18, .ref f19, .ref f20, .ref f21, .ref f22, .ref f23, .int f24, .int f25, .int f26, .int f27, .ref f28, .ref f29, .ref f30, .ref f31, .ref f32, .int f33, .int f34, .ref f35, .ref f36, .int f37, .ref f38, .ref f39, .int f40, .ref f41, .int f42, .int f43, .ref f44, .ref f45, .int f46, .int f47, .int f48, .int f49]))
def MoreP (kn pa L : Nat → Nat) (more : Int32) (lev D rt : Nat) : Prop := more = -1 ∨ ∃ y, more = nI y ∧ y < 140 ∧ kn y ≠ 0 ∧ pa y = 140 ∧ L y + lev = D ∧ y ≠ rt
def PE (k0 bl0 k mm vl bl fr ph pc wt : Nat → Int32) (rt D lev wm : Nat) (more : Int32) : Prop := ∃ (kn nn L pa : Nat → Nat) (ch : Nat → Nat → Nat) (y : Nat), St k0 bl0 k mm vl bl fr ph pc wt rt D lev y wm 140 140 0 kn nn L pa ch ∧ MoreP kn pa L more lev D rt
def PutA (k0 bl0 k mm vl bl fr ph pc wt : Nat → Int32) (rt D lev y wm e : Nat) : Prop := ∃ (kn nn L pa : Nat → Nat) (ch : Nat → Nat → Nat), (St k0 bl0 k mm vl bl fr ph pc wt rt D lev y wm e 140 0 kn nn L pa ch ∨ St k0 bl0 k mm vl bl fr ph pc wt rt D lev y wm e y 1 kn nn L pa ch) ∧ kn y = 1
def PutB (k0 bl0 k mm vl bl fr ph pc wt : Nat → Int32) (rt D lev x wm : Nat) : Prop := ∃ (kn nn L pa : Nat → Nat) (ch : Nat → Nat → Nat), St k0 bl0 k mm vl bl fr ph pc wt rt D lev x wm x 140 0 kn nn L pa ch ∧ kn x = 2 ∧ 2 ≤ nn x
theorem st_pop {k0 bl0 k mm vl bl fr ph pc wt : Nat → Int32} {rt D l y wm e pend sl : Nat} {kn nn L pa : Nat → Nat} {ch : Nat → Nat → Nat} (h : St k0 bl0 k mm vl bl fr ph pc wt rt D (l + 1) y wm e pend sl kn nn L pa ch) : ∃ x i, ph l = nI x ∧ pc l = nI i ∧ x < 140 ∧ kn x = 2 ∧ L x + l = D ∧ i < nn x ∧ ch x i = y ∧ mm x = nI (nn x) ∧ (x ≠ e → 2 ≤ nn x ∧ nn x ≤ 19) ∧ St k0 bl0 k mm vl bl fr ph pc wt rt D l x wm e pend sl kn nn L pa ch := by
  obtain ⟨hR, hT, hr, hP, hy, hW, hB, hC⟩ := h
  obtain ⟨x, i, a1, a2, a3, a4, a5, a6, a7, a8⟩ := hP.pop
  refine ⟨x, i, a1, a2, a3, a4, a5, a6, a7, (hR x a3).2.1 (by omega), fun h9 => ⟨((hT x a3).2.2.2 a4).1 h9, ((hT x a3).2.1 (by omega)).2.2 h9⟩, hR, hT, hr, a8, ⟨a3, by omega, a5⟩, hW, hB, hC⟩
theorem st_free {k0 bl0 k mm vl bl fr ph pc wt : Nat → Int32} {rt D lev y wm e pend sl : Nat} {kn nn L pa : Nat → Nat} {ch : Nat → Nat → Nat} (h : St k0 bl0 k mm vl bl fr ph pc wt rt D lev y wm e pend sl kn nn L pa ch) (hw : wm + sl ≤ 70) : ∃ x, x < 140 ∧ k x = 0 := by
  obtain ⟨hR, hT, hr, hP, hy, hW, hB, hC⟩ := h
  obtain ⟨x, h1, h2⟩ := hC.free (by omega)
  exact ⟨x, h1, (rl_k0 hR hT h1).mpr h2⟩
theorem st_live {k0 bl0 k mm vl bl fr ph pc wt : Nat → Int32} {rt D lev y wm e pend sl : Nat} {kn nn L pa : Nat → Nat} {ch : Nat → Nat → Nat} (h : St k0 bl0 k mm vl bl fr ph pc wt rt D lev y wm e pend sl kn nn L pa ch) : ¬ k y = 0 ∧ mm y = nI (nn y) ∧ nn y ≤ 20 ∧ y < 140 ∧ kn y ≠ 0 ∧ L y + lev = D := by
  obtain ⟨hR, hT, hr, hP, ⟨y1, y2, y3⟩, hW, hB, hC⟩ := h
  exact ⟨fun h9 => y2 ((rl_k0 hR hT y1).mp h9), (hR y y1).2.1 y2, ((hT y y1).2.1 y2).2.1, y1, y2, y3⟩
theorem inv_free {b : Nat} {k mm bl vl : Nat → Int32} {rt : Int32} (h : Inv b k mm bl vl rt) (hb : b ≤ 64) : ∃ x, x < 140 ∧ k x = 0 := by
  obtain ⟨kn, nn, L, pa, ch, hR, hT, hB, hRt⟩ := h
  obtain ⟨x, h1, h2⟩ := (hB.cov hb).free (by omega)
  exact ⟨x, h1, (rl_k0 hR hT h1).mpr h2⟩
theorem putA_old {b : Nat} {k mm bl vl fr ph pc wt : Nat → Int32} {l rt lf : Nat} {kn nn L pa : Nat → Nat} {ch : Nat → Nat → Nat} (hb : b ≤ 64) (hR : Rl k mm vl kn nn ch) (hT : Tr kn nn L pa ch 140) (hB : Bk bl kn b) (hRt : Rt (nI rt) kn pa) (hrt : rt < 140) (h1 : lf < 140) (h2 : kn lf = 1) (hP : Pth kn nn L ch ph pc (l + 1) l lf rt) : PutA k bl k mm vl bl fr ph pc wt rt (l + 1) l lf 0 140 := by
  have hL1 := (hT lf h1).2.2.1 h2
  obtain ⟨r, r1, r2, r3, r4⟩ : ∃ r, r < 140 ∧ nI rt = nI r ∧ kn r ≠ 0 ∧ pa r = 140 := by
    rcases hRt with h | h
    · exact absurd h (nI_ne_m1 hrt)
    · exact h
  have e := (nI_eq (by omega) (by omega)).mp r2
  subst e
  refine ⟨kn, nn, L, pa, ch, Or.inl ⟨hR, hT, ⟨hrt, r3, r4, ?_⟩, hP, ⟨h1, by omega, by omega⟩, fun j hj => absurd hj (Nat.not_lt_zero j), ⟨fun x hx h0 _ => Or.inl ⟨fun h9 => h0 ((rl_k0 hR hT hx).mp h9), rfl⟩, fun h9 => absurd h9 (by omega)⟩, (hB.cov hb).mono (by omega) (fun _ _ h9 => h9)⟩, h2⟩
  obtain ⟨pth, pl, a0, a1, a2⟩ := hP
  by_cases hl : l = 0
  · subst hl
    rw [← a0, a1]; omega
  · have := (a2 0 (by omega)).2.2.2.2.1
    rw [a0] at this
    omega
theorem putA_new {b : Nat} {k mm bl vl fr k2 mm2 bl2 fr2 ph pc wt : Nat → Int32} {z : Nat} {kn nn L pa : Nat → Nat} {ch : Nat → Nat → Nat} (hb : b ≤ 64) (hR : Rl k mm vl kn nn ch) (hT : Tr kn nn L pa ch 140) (hB : Bk bl kn b) (hn : NewR k mm bl fr k2 mm2 bl2 fr2 z 1) : PutA k bl k2 mm2 vl bl2 fr2 ph pc wt z 1 0 z 0 140 := by
  obtain ⟨p1, p2, p3, p4, p5, p6⟩ := hn
  have hz0 : kn z = 0 := (rl_k0 hR hT p1).mp p2
  have live_z : ∀ q, kn q ≠ 0 → q ≠ z := fun q h9 e => h9 (e ▸ hz0)
  refine ⟨gup kn z 1, gup nn z 0, gup L z 1, gup pa z 140, ch, Or.inr ⟨?_, ?_, ⟨p1, by rw [gup_s]; decide, gup_s, gup_s⟩, ⟨fun _ => z, fun _ => 0, rfl, rfl, fun j hj => absurd hj (Nat.not_lt_zero j)⟩, ⟨p1, by rw [gup_s]; decide, by rw [gup_s]⟩, fun j hj => absurd hj (Nat.not_lt_zero j), ⟨?_, ?_⟩, ?_⟩, gup_s⟩
  · intro q hq
    obtain ⟨b1, b2, b3⟩ := hR q hq
    by_cases eq : q = z
    · subst eq
      exact ⟨by rw [p3, pk_us, gup_s]; rfl, fun _ => by rw [p4, pk_us, gup_s]; rfl, fun h9 => by rw [gup_s] at h9; exact absurd h9 (by decide)⟩
    · rw [gup_n eq, gup_n eq]
      exact ⟨by rw [p3, pk_un eq]; exact b1, fun h9 => by rw [p4, pk_un eq]; exact b2 h9, b3⟩
  · refine tr_mod (fun q => q = z) hT (Or.inl rfl) ?_ ?_ ?_
    · intro q hq hn
      exact ⟨gup_n hn, fun _ => ⟨gup_n hn, gup_n hn, fun i _ => rfl⟩⟩
    · intro q hq h0 hp2 hn
      have e2 := live_z q h0
      exact ⟨by rw [gup_n e2]; exact h0, gup_n e2, gup_n e2⟩
    · intro q hq e
      subst e
      refine ⟨by rw [gup_s]; decide, fun _ => by rw [gup_s, gup_s]; exact ⟨by decide, by decide, fun _ => by decide⟩, fun _ => gup_s, fun h9 => by rw [gup_s] at h9; exact absurd h9 (by decide)⟩
  · intro q hq h0 hne
    rw [gup_n hne] at h0
    exact Or.inl ⟨fun h9 => h0 ((rl_k0 hR hT hq).mp h9), by rw [p5, pk_un hne]⟩
  · intro _
    rw [p6]; exact pk_us
  · exact ((hB.cov hb).up (y := z) (fun q hq hne h9 => by rw [gup_n hne] at h9; exact h9)).mono (by omega) (fun _ _ h9 => h9)
theorem putA_n {k0 bl0 k mm vl bl fr ph pc wt : Nat → Int32} {rt D lev y wm : Nat} (h : PutA k0 bl0 k mm vl bl fr ph pc wt rt D lev y wm 140) : ∃ n, n ≤ 19 ∧ mm y = nI n := by
  obtain ⟨kn, nn, L, pa, ch, h1, h2⟩ := h
  rcases h1 with h1 | h1
  · obtain ⟨hR, hT, hr, hP, ⟨y1, y2, y3⟩, -⟩ := h1
    exact ⟨nn y, ((hT y y1).2.1 y2).2.2 (by omega), (hR y y1).2.1 y2⟩
  · obtain ⟨hR, hT, hr, hP, ⟨y1, y2, y3⟩, -⟩ := h1
    exact ⟨nn y, ((hT y y1).2.1 y2).2.2 (by omega), (hR y y1).2.1 y2⟩
theorem putA_leaf {k0 bl0 k mm vl bl fr ph pc wt mm2 vl2 : Nat → Int32} {rt D lev y wm m : Nat} (h : PutA k0 bl0 k mm vl bl fr ph pc wt rt D lev y wm 140) (hm : m ≤ 20) (h1 : mm2 y = nI m) (h2 : ∀ q, q < 140 → q ≠ y → mm2 q = mm q) (h3 : ∀ q, (q < 24 * y ∨ 24 * y + 24 ≤ q) → vl2 q = vl q) : PutA k0 bl0 k mm2 vl2 bl fr ph pc wt rt D lev y wm y := by
  obtain ⟨kn, nn, L, pa, ch, g1, g2⟩ := h
  rcases g1 with g1 | g1
  · exact ⟨kn, _, L, pa, ch, Or.inl (st_leaf g1 g1.2.2.2.2.1.1 g2 hm h1 h2 h3), g2⟩
  · exact ⟨kn, _, L, pa, ch, Or.inr (st_leaf g1 g1.2.2.2.2.1.1 g2 hm h1 h2 h3), g2⟩
theorem putA_wr {k0 bl0 k mm vl bl fr ph pc wt wt2 : Nat → Int32} {rt D lev y wm e : Nat} (h : PutA k0 bl0 k mm vl bl fr ph pc wt rt D lev y wm e) (hw : wt2 = upd wt wm (nI y)) : ∃ (kn nn L pa : Nat → Nat) (ch : Nat → Nat → Nat), St k0 bl0 k mm vl bl fr ph pc wt2 rt D lev y (wm + 1) e 140 0 kn nn L pa ch ∧ kn y = 1 := by
  obtain ⟨kn, nn, L, pa, ch, g1, g2⟩ := h
  rcases g1 with g1 | g1
  · exact ⟨kn, nn, L, pa, ch, st_wr g1 g1.2.2.2.2.1.1 g1.2.2.2.2.1.2.1 hw, g2⟩
  · exact ⟨kn, nn, L, pa, ch, st_wrp g1 g1.2.2.2.2.1.1 g1.2.2.2.2.1.2.1 hw, g2⟩
theorem lev_dec {l : Nat} {x : Int32} (h : nI l + Int32.ofInt (-1) = x) : (l = 0 ∧ x = -1) ∨ ∃ l9, l = l9 + 1 ∧ x = nI l9 := by
  by_cases e : l = 0
  · subst e
    exact Or.inl ⟨rfl, h.symm.trans (by decide)⟩
  · refine Or.inr ⟨l - 1, by omega, h.symm.trans (nI_dec (by omega))⟩
theorem lev_start {l : Nat} {x : Int32} (h : x = nI (l + 1) - 2) : (l = 0 ∧ x = -1) ∨ ∃ l9, l = l9 + 1 ∧ x = nI l9 := by
  by_cases e : l = 0
  · subst e
    exact Or.inl ⟨rfl, h.trans (by decide)⟩
  · refine Or.inr ⟨l - 1, by omega, h.trans ?_⟩
    have := pk_sub (a := l + 1) (b := 2) (by omega)
    rw [show l - 1 = l + 1 - 2 by omega]
    exact this
theorem ins_other {mm vl mm2 vl2 : Nat → Int32} {x p n : Nat} {v : Int32} (h : InsR mm vl mm2 vl2 x p n v) : mm2 x = nI (n + 1) ∧ (∀ q, q < 140 → q ≠ x → mm2 q = mm q) ∧ ∀ q, (q < 24 * x ∨ 24 * x + 24 ≤ q) → vl2 q = vl q := by
  obtain ⟨a, b, -⟩ := h
  exact ⟨by rw [a, pk_us], fun q _ hq => by rw [a, pk_un hq], b⟩
theorem upd_out {vl vl2 : Nat → Int32} {x i : Nat} {v : Int32} (h : vl2 = upd vl (24 * x + i) v) (hi : i < 24) : ∀ q, (q < 24 * x ∨ 24 * x + 24 ≤ q) → vl2 q = vl q := by
  intro q hq
  rw [h, pk_un (by omega)]
theorem does_put {b : Nat} {k mm bl vl fr : Nat → Int32} {rt dn dn2 : Int32} (h : (dn2 = 1 ∨ (dn2 = dn ∧ Inv b k mm bl vl rt)) ∧ (∀ j, j < 140 → fr j = 0 ∨ fr j = 1)) : (dn2 = 0 → Inv b k mm bl vl rt) ∧ (∀ j, j < 140 → fr j = 0 ∨ fr j = 1) := by
  refine ⟨fun h9 => ?_, h.2⟩
  rcases h.1 with h1 | h1
  · exact absurd (h1.symm.trans h9) (by decide)
  · exact h1.2
theorem pth_rt {kn nn L : Nat → Nat} {ch : Nat → Nat → Nat} {ph pc : Nat → Int32} {D l lf rt : Nat} (h : Pth kn nn L ch ph pc D l lf rt) (h1 : lf < 140) : rt < 140 := by
  obtain ⟨pth, pl, a0, a1, a2⟩ := h
  by_cases hl : l = 0
  · subst hl; rw [← a0, a1]; exact h1
  · rw [← a0]; exact (a2 0 (by omega)).2.2.1
theorem upd_out2 {vl v1 vl2 : Nat → Int32} {x : Nat} {u v : Int32} (h2 : vl2 = upd v1 (24 * x + 1) v) (h1 : v1 = upd vl (24 * x) u) : ∀ q, (q < 24 * x ∨ 24 * x + 24 ≤ q) → vl2 q = vl q := by
  intro q hq
  rw [h2, pk_un (by omega), h1, pk_un (by omega)]
