def cbF (vl : Nat → Int32) (l0 r1 nl j : Nat) : Int32 := if j < nl then vl (24 * l0 + j) else vl (24 * r1 + (j - nl))
def BoF (vl bv : Nat → Int32) (l0 r1 nl n : Nat) : Prop := ∀ j, j < n → bv j = cbF vl l0 r1 nl j
theorem boF_start (vl bv : Nat → Int32) (l0 r1 nl : Nat) : BoF vl bv l0 r1 nl 0 := fun j h => absurd h (Nat.not_lt_zero j)
theorem boF_left {vl bv bv2 : Nat → Int32} {l0 r1 nl i : Nat} (h : BoF vl bv l0 r1 nl i) (hi : i < nl) (e : bv2 = upd bv i (vl (24 * l0 + i))) : BoF vl bv2 l0 r1 nl (i + 1) := by
  subst e
  intro j hj
  by_cases c : j = i
  · subst c; rw [pk_us]; unfold cbF; rw [if_pos hi]
  · rw [pk_un c]; exact h j (by omega)
theorem boF_right {vl bv bv2 : Nat → Int32} {l0 r1 nl n i : Nat} (h : BoF vl bv l0 r1 nl n) (hn : n = nl + i) (e : bv2 = upd bv n (vl (24 * r1 + i))) : BoF vl bv2 l0 r1 nl (n + 1) := by
  subst e
  intro j hj
  by_cases c : j = n
  · subst c; rw [pk_us]; unfold cbF; rw [if_neg (by omega), show j - nl = i by omega]
  · rw [pk_un c]; exact h j (by omega)
def LeF (vl vv bv : Nat → Int32) (z i : Nat) : Prop := (∀ q, (q < 24 * z ∨ 24 * z + 24 ≤ q) → vv q = vl q) ∧ ∀ j, j < i → vv (24 * z + j) = bv j
theorem leF_start (vl bv : Nat → Int32) (z : Nat) : LeF vl vl bv z 0 := ⟨fun _ _ => rfl, fun j h => absurd h (Nat.not_lt_zero j)⟩
theorem leF_step {vl vv vv2 bv : Nat → Int32} {z i : Nat} (h : LeF vl vv bv z i) (hi : i < 24) (e : vv2 = upd vv (24 * z + i) (bv i)) : LeF vl vv2 bv z (i + 1) := by
  subst e
  refine ⟨fun q hq => by rw [pk_un (by omega)]; exact h.1 q hq, fun j hj => ?_⟩
  by_cases c : j = i
  · subst c; rw [pk_us]
  · rw [pk_un (by omega)]; exact h.2 j (by omega)
def RiF (vl vv bv : Nat → Int32) (z s i : Nat) : Prop := (∀ q, (q < 24 * z ∨ 24 * z + 24 ≤ q) → vv q = vl q) ∧ ∀ j, j + s < i → vv (24 * z + j) = bv (s + j)
theorem riF_start (vl bv : Nat → Int32) (z s : Nat) : RiF vl vl bv z s s := ⟨fun _ _ => rfl, fun j h => by omega⟩
theorem riF_step {vl vv vv2 bv : Nat → Int32} {z s i : Nat} (h : RiF vl vv bv z s i) (hs : s ≤ i) (hi : i < s + 24) (e : vv2 = upd vv (24 * z + i - s) (bv i)) : RiF vl vv2 bv z s (i + 1) := by
  subst e
  refine ⟨fun q hq => by rw [pk_un (by omega)]; exact h.1 q hq, fun j hj => ?_⟩
  by_cases c : j + s = i
  · rw [show 24 * z + j = 24 * z + i - s by omega, pk_us, show s + j = i by omega]
  · rw [pk_un (by omega)]; exact h.2 j (by omega)
def MendJ (k mm vl wt k2 mm2 vl2 wt2 : Nat → Int32) (x r l0 r1 np nl nr wm wm2 : Nat) : Prop := nl + nr ≤ 19 ∧ k2 = upd k r1 0 ∧ mm2 l0 = nI (nl + nr) ∧ mm2 x = nI (np - 1) ∧ (∀ q, q ≠ l0 → q ≠ x → mm2 q = mm q) ∧ wm2 = wm + 1 ∧ wt2 = upd wt wm (nI l0) ∧ (∀ q, (q < 24 * l0 ∨ 24 * l0 + 24 ≤ q) → (q < 24 * x ∨ 24 * x + 24 ≤ q) → vl2 q = vl q) ∧ (∀ j, j < nl + nr → vl2 (24 * l0 + j) = cbF vl l0 r1 nl j) ∧ (∀ j, j < r → vl2 (24 * x + j) = vl (24 * x + j)) ∧ ∀ j, r ≤ j → j < np - 1 → vl2 (24 * x + j) = vl (24 * x + (j + 1))
def MendS (k mm vl wt k2 mm2 vl2 wt2 : Nat → Int32) (l0 r1 nl nr wm wm2 : Nat) : Prop := (k l0 = 2 → 5 < nl + nr) ∧ k2 = k ∧ mm2 l0 = nI ((nl + nr + 1) / 2) ∧ mm2 r1 = nI (nl + nr - (nl + nr + 1) / 2) ∧ (∀ q, q ≠ l0 → q ≠ r1 → mm2 q = mm q) ∧ wm2 = wm + 2 ∧ wt2 = upd (upd wt wm (nI l0)) (wm + 1) (nI r1) ∧ (∀ q, (q < 24 * l0 ∨ 24 * l0 + 24 ≤ q) → (q < 24 * r1 ∨ 24 * r1 + 24 ≤ q) → vl2 q = vl q) ∧ (∀ j, j < (nl + nr + 1) / 2 → vl2 (24 * l0 + j) = cbF vl l0 r1 nl j) ∧ ∀ j, j < nl + nr - (nl + nr + 1) / 2 → vl2 (24 * r1 + j) = cbF vl l0 r1 nl ((nl + nr + 1) / 2 + j)
def MendR (k mm vl wt k2 mm2 vl2 wt2 : Nat → Int32) (x r l0 r1 np nl nr wm wm2 : Nat) (io : Int32) : Prop := (io = 1 ∧ MendJ k mm vl wt k2 mm2 vl2 wt2 x r l0 r1 np nl nr wm wm2) ∨ MendS k mm vl wt k2 mm2 vl2 wt2 l0 r1 nl nr wm wm2
theorem mend_join {k mm vl wt k2 m1 mm2 v1 vl2 wt2 bv : Nat → Int32} {x r l0 r1 np nl nr wm t : Nat} (hxl : x ≠ l0) (hn : nl + nr ≤ 19) (hb : BoF vl bv l0 r1 nl (nl + nr)) (hv : LeF vl v1 bv l0 t) (ht : nl + nr ≤ t) (e1 : m1 = upd mm l0 (nI (nl + nr))) (ek : k2 = upd k r1 0) (hw : wt2 = upd wt wm (nI l0)) (hE : EraR m1 v1 mm2 vl2 x r np) (hr : r ≤ 19) (hp : np ≤ 20) : MendR k mm vl wt k2 mm2 vl2 wt2 x r l0 r1 np nl nr wm (wm + 1) 1 := by
  obtain ⟨a, b, c, d⟩ := hE
  refine Or.inl ⟨rfl, hn, ek, ?_, ?_, ?_, rfl, hw, ?_, ?_, ?_, ?_⟩
  · rw [a, pk_un (fun e => hxl e.symm), e1, pk_us]
  · rw [a, pk_us]
  · intro q h1 h2; rw [a, pk_un h2, e1, pk_un h1]
  · intro q h1 h2; rw [b q h2]; exact hv.1 q h1
  · intro j hj
    rw [b _ (by omega), hv.2 j (by omega)]
    exact hb j hj
  · intro j hj; rw [c j hj]; exact hv.1 _ (by omega)
  · intro j h1 h2; rw [d j h1 h2]; exact hv.1 _ (by omega)
theorem mend_split {k mm vl wt m1 mm2 v1 vl2 wt1 wt2 bv : Nat → Int32} {x r l0 r1 np nl nr wm t u : Nat} {io : Int32} (hlr : l0 ≠ r1) (hk : k l0 = 2 → 5 < nl + nr) (hn : nl + nr ≤ 38) (hb : BoF vl bv l0 r1 nl (nl + nr)) (hv : LeF vl v1 bv l0 t) (ht : (nl + nr + 1) / 2 ≤ t) (hv2 : RiF v1 vl2 bv r1 ((nl + nr + 1) / 2) u) (hu : nl + nr ≤ u) (e1 : m1 = upd mm l0 (nI ((nl + nr + 1) / 2))) (e2 : mm2 = upd m1 r1 (nI (nl + nr - (nl + nr + 1) / 2))) (hw : wt1 = upd wt wm (nI l0)) (hw2 : wt2 = upd wt1 (wm + 1) (nI r1)) : MendR k mm vl wt k mm2 vl2 wt2 x r l0 r1 np nl nr wm (wm + 1 + 1) io := by
  refine Or.inr ⟨hk, rfl, ?_, ?_, ?_, rfl, by rw [hw2, hw], ?_, ?_, ?_⟩
  · rw [e2, pk_un hlr, e1, pk_us]
  · rw [e2, pk_us]
  · intro q h1 h2; rw [e2, pk_un h2, e1, pk_un h1]
  · intro q h1 h2; rw [hv2.1 q h2]; exact hv.1 q h1
  · intro j hj
    rw [hv2.1 _ (by omega), hv.2 j (by omega)]
    exact hb j (by omega)
  · intro j hj
    rw [hv2.2 j (by omega)]
    exact hb _ (by omega)
/-- the children of two NODES in a row -/
def cbN (ch : Nat → Nat → Nat) (l0 r1 nl j : Nat) : Nat := if j < nl then ch l0 j else ch r1 (j - nl)
theorem cb_rel {k mm vl : Nat → Int32} {kn nn : Nat → Nat} {ch : Nat → Nat → Nat} (hR : Rl k mm vl kn nn ch) {l0 r1 : Nat} (h1 : l0 < 140) (h2 : r1 < 140) (k1 : kn l0 = 2) (k2 : kn r1 = 2) : ∀ j, j < nn l0 + nn r1 → cbF vl l0 r1 (nn l0) j = nI (cbN ch l0 r1 (nn l0) j) := by
  intro j hj
  unfold cbF cbN
  by_cases c : j < nn l0
  · rw [if_pos c, if_pos c]; exact (hR l0 h1).2.2 k1 j c
  · rw [if_neg c, if_neg c]; exact (hR r1 h2).2.2 k2 _ (by omega)
theorem cb_ok {kn n L pa : Nat → Nat} {c : Nat → Nat → Nat} {e : Nat} (hT : Tr kn n L pa c e) {l0 r1 : Nat} (h1 : l0 < 140) (h2 : r1 < 140) (hne : l0 ≠ r1) (k1 : kn l0 = 2) (k2 : kn r1 = 2) (hL : L r1 = L l0) : ∀ j, j < n l0 + n r1 → cbN c l0 r1 (n l0) j < 140 ∧ kn (cbN c l0 r1 (n l0) j) ≠ 0 ∧ L (cbN c l0 r1 (n l0) j) + 1 = L l0 ∧ (pa (cbN c l0 r1 (n l0) j) = l0 ∨ pa (cbN c l0 r1 (n l0) j) = r1) ∧ ∀ i, i < n l0 + n r1 → cbN c l0 r1 (n l0) j = cbN c l0 r1 (n l0) i → j = i := by
  have g1 := ((hT l0 h1).2.2.2 k1).2
  have g2 := ((hT r1 h2).2.2.2 k2).2
  intro j hj
  have key : ∀ j, j < n l0 + n r1 → (j < n l0 ∧ cbN c l0 r1 (n l0) j = c l0 j) ∨ (n l0 ≤ j ∧ cbN c l0 r1 (n l0) j = c r1 (j - n l0)) := by
    intro j hj
    unfold cbN
    by_cases c9 : j < n l0
    · exact Or.inl ⟨c9, if_pos c9⟩
    · exact Or.inr ⟨by omega, if_neg c9⟩
  rcases key j hj with ⟨a1, a2⟩ | ⟨a1, a2⟩
  · rw [a2]
    obtain ⟨d1, d2, d3, d4, d5⟩ := g1 j a1
    refine ⟨d1, d2, d3, Or.inl d4, fun i hi h9 => ?_⟩
    rcases key i hi with ⟨b1, b2⟩ | ⟨b1, b2⟩
    · rw [b2] at h9; exact d5 i b1 h9
    · rw [b2] at h9
      have := (g2 (i - n l0) (by omega)).2.2.2.1
      rw [← h9, d4] at this
      exact absurd this hne
  · rw [a2]
    obtain ⟨d1, d2, d3, d4, d5⟩ := g2 (j - n l0) (by omega)
    refine ⟨d1, d2, by omega, Or.inr d4, fun i hi h9 => ?_⟩
    rcases key i hi with ⟨b1, b2⟩ | ⟨b1, b2⟩
    · rw [b2] at h9
      have := (g1 i b1).2.2.2.1
      rw [← h9, d4] at this
      exact absurd this.symm hne
    · rw [b2] at h9
      have := d5 (i - n l0) (by omega) h9
      omega
def WrL (L : Nat → Nat) (wt : Nat → Int32) (wm lv : Nat) : Prop := ∀ j, j < wm → ∀ q, q < 140 → wt j = nI q → L q < lv
theorem WrL.up {L : Nat → Nat} {wt wt2 : Nat → Int32} {wm lv lv2 x : Nat} (h : WrL L wt wm lv) (hv : lv ≤ lv2) (hx : x < 140) (hL : L x < lv2) (e : wt2 = upd wt wm (nI x)) : WrL L wt2 (wm + 1) lv2 := by
  subst e
  intro j hj q hq h9
  by_cases c : j = wm
  · subst c
    rw [pk_us] at h9
    have := (nI_eq (by omega) (by omega)).mp h9
    rw [← this]; exact hL
  · rw [pk_un c] at h9
    have := h j (by omega) q hq h9
    omega
/-- a NODE that lost something: fewer than wanted, or as it was -/
def RH (k0 bl0 k mm vl bl fr ph pc wt : Nat → Int32) (rt D l wm : Nat) (io : Int32) : Prop := ∃ (kn nn L pa : Nat → Nat) (ch : Nat → Nat → Nat) (x : Nat), ph l = nI x ∧ St k0 bl0 k mm vl bl fr ph pc wt rt D l x wm x 140 0 kn nn L pa ch ∧ kn x = 2 ∧ 1 ≤ nn x ∧ nn x ≤ 19 ∧ (io = 0 → 2 ≤ nn x) ∧ WrL L wt wm (L x)
def DoP (k0 bl0 k mm vl bl fr wt : Nat → Int32) (wm : Nat) (root : Int32) : Prop := ∃ (kn nn L pa : Nat → Nat) (ch : Nat → Nat → Nat), Rl k mm vl kn nn ch ∧ Tr kn nn L pa ch 140 ∧ Rt root kn pa ∧ Wr kn wt wm ∧ Bq k0 bl0 kn bl fr wt wm 140
def RE (k0 bl0 k mm vl bl fr ph pc wt : Nat → Int32) (rt D lev wm : Nat) (io root : Int32) : Prop := (lev = 0 ∧ DoP k0 bl0 k mm vl bl fr wt wm root) ∨ ∃ l, lev = l + 1 ∧ root = nI rt ∧ RH k0 bl0 k mm vl bl fr ph pc wt rt D l wm io
theorem st_do {k0 bl0 k mm vl bl fr ph pc wt : Nat → Int32} {rt D lev y wm : Nat} {kn nn L pa : Nat → Nat} {ch : Nat → Nat → Nat} (h : St k0 bl0 k mm vl bl fr ph pc wt rt D lev y wm 140 140 0 kn nn L pa ch) : DoP k0 bl0 k mm vl bl fr wt wm (nI rt) := by
  obtain ⟨hR, hT, ⟨r1, r2, r3, r4⟩, hP, hy, hW, hB, hC⟩ := h
  exact ⟨kn, nn, L, pa, ch, hR, hT, Or.inr ⟨rt, r1, rfl, r2, r3⟩, hW, hB⟩
theorem RE.fin {k0 bl0 k mm vl bl fr ph pc wt : Nat → Int32} {rt D lev wm : Nat} {io root : Int32} (h : RE k0 bl0 k mm vl bl fr ph pc wt rt D lev wm io root) (h2 : lev = 0 ∨ io = 0) : DoP k0 bl0 k mm vl bl fr wt wm root := by
  rcases h with ⟨_, h⟩ | ⟨l, e, er, kn, nn, L, pa, ch, x, h1, h2', h3, h4, h5, h6, h7⟩
  · exact h
  · subst er
    exact st_do (st_fix h2' h5 (fun _ => h6 (h2.resolve_left (by omega))))
