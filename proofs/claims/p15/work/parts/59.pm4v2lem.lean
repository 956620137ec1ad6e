def RdS (U : Nat → Prop) (k mm vl bl : Nat → Int32) (b : Nat) (kn nn L pa : Nat → Nat) (ch : Nat → Nat → Nat) : Prop := (∀ x, x < 140 → ¬ U x → k x = nI (kn x) ∧ (kn x ≠ 0 → mm x = nI (nn x)) ∧ (kn x = 2 → ∀ i, i < nn x → vl (24 * x + i) = nI (ch x i))) ∧ (∀ x, x < 140 → U x → kn x = 0 ∧ ¬ k x = 0) ∧ Tr kn nn L pa ch 140 ∧ BkR k bl b
def RdF (k mm vl bl k2 mm2 vl2 bl2 : Nat → Int32) : Prop := ∀ x, x < 140 → ¬ k x = 0 → k2 x = k x ∧ mm2 x = mm x ∧ bl2 x = bl x ∧ ∀ i, i < 24 → vl2 (24 * x + i) = vl (24 * x + i)
def RdN (k k2 bl2 : Nat → Int32) (B : List Nat) : Prop := ∀ x, x < 140 → ¬ k2 x = 0 → k x = 0 → ∃ q, bl2 x = nI q ∧ q ∈ B
def RdG (kn nn L pa : Nat → Nat) (ch : Nat → Nat → Nat) (kn2 nn2 L2 pa2 : Nat → Nat) (ch2 : Nat → Nat → Nat) : Prop := ∀ x, x < 140 → kn x ≠ 0 → kn2 x = kn x ∧ nn2 x = nn x ∧ L2 x = L x ∧ pa2 x = pa x ∧ ∀ i, ch2 x i = ch x i
def RdO (k bl : Nat → Int32) (B : List Nat) : Prop := ∀ x, x < 140 → ¬ k x = 0 → ∀ q ∈ B, ¬ bl x = nI q
/-- what reads(q0) did: z is the NODE -/
def RdP (U : Nat → Prop) (k mm vl bl k2 mm2 vl2 bl2 : Nat → Int32) (b : Nat) (B : List Nat) (h z : Nat) (kn nn L pa : Nat → Nat) (ch : Nat → Nat → Nat) : Prop := z < 140 ∧ k z = 0 ∧ RdF k mm vl bl k2 mm2 vl2 bl2 ∧ RdN k k2 bl2 B ∧ ∃ (kn2 nn2 L2 pa2 : Nat → Nat) (ch2 : Nat → Nat → Nat), RdS U k2 mm2 vl2 bl2 b kn2 nn2 L2 pa2 ch2 ∧ kn2 z ≠ 0 ∧ L2 z = h + 1 ∧ pa2 z = 140 ∧ RdG kn nn L pa ch kn2 nn2 L2 pa2 ch2
theorem rdS_free {U : Nat → Prop} {k mm vl bl : Nat → Int32} {b : Nat} {kn nn L pa : Nat → Nat} {ch : Nat → Nat → Nat} (h : RdS U k mm vl bl b kn nn L pa ch) (hb : b ≤ 64) : ∃ x, x < 140 ∧ k x = 0 := by
  obtain ⟨-, -, -, hB⟩ := h
  obtain ⟨kx, ekx⟩ : ∃ kx : Nat → Nat, kx = fun x => if k x = 0 then 0 else 1 := ⟨_, rfl⟩
  have e0 : ∀ x, kx x ≠ 0 → ¬ k x = 0 := fun x h9 e => h9 (by rw [ekx]; exact if_pos e)
  have hBk : Bk bl kx b := ⟨fun x hx h0 => hB.1 x hx (e0 x h0), fun x y hx hy h1 h2 => hB.2 x y hx hy (e0 x h1) (e0 y h2)⟩
  obtain ⟨x, h1, h2⟩ := (hBk.cov hb).free (by omega)
  refine ⟨x, h1, ?_⟩
  apply Classical.byContradiction
  intro h9
  rw [ekx] at h2
  have h8 : (if k x = 0 then 0 else 1) = 0 := h2
  rw [if_neg h9] at h8
  exact absurd h8 (by decide)
/-- the NODE z that is being read: n told, i of its places are filled -/
def RdL (U : Nat → Prop) (k mm vl bl k1 mm1 vl1 bl1 : Nat → Int32) (b : Nat) (d : Nat → Int32) (w q0 h z n i : Nat) (kd : Int32) (kn nn L pa : Nat → Nat) (ch : Nat → Nat → Nat) : Prop := (z < 140 ∧ k z = 0 ∧ ¬ U z ∧ kn z = 0) ∧ (bl1 z = nI q0 ∧ mm1 z = nI n ∧ k1 z = kd) ∧ RdF k mm vl bl k1 mm1 vl1 bl1 ∧ (∀ x, x < 140 → x ≠ z → ¬ k1 x = 0 → k x = 0 → ∃ q, bl1 x = nI q ∧ q ∈ (List.range i).flatMap (fun j => DB d w (h - 1) (dch d w q0 j))) ∧ ∃ (kn1 nn1 L1 pa1 : Nat → Nat) (ch1 : Nat → Nat → Nat) (c : Nat → Nat), RdS (fun x => U x ∨ x = z) k1 mm1 vl1 bl1 b kn1 nn1 L1 pa1 ch1 ∧ RdG kn nn L pa ch kn1 nn1 L1 pa1 ch1 ∧ ∀ j, j < i → vl1 (24 * z + j) = nI (c j) ∧ c j < 140 ∧ kn1 (c j) ≠ 0 ∧ L1 (c j) = h ∧ pa1 (c j) = 140 ∧ kn (c j) = 0 ∧ ∀ j2, j2 < i → c j = c j2 → j = j2
theorem rdL_start {U : Nat → Prop} {k mm vl bl fr k2 mm2 bl2 fr2 mm3 bl3 : Nat → Int32} {b : Nat} {d : Nat → Int32} {w q0 h z n : Nat} {kd : Int32} {kn nn L pa : Nat → Nat} {ch : Nat → Nat → Nat} (hS : RdS U k mm vl bl b kn nn L pa ch) (hN : NewR k mm bl fr k2 mm2 bl2 fr2 z kd) (hkd : ¬ kd = 0) (e1 : bl3 = upd bl2 z (nI q0)) (e2 : mm3 = upd mm2 z (nI n)) (hq : 2 ≤ q0 ∧ q0 < b) (hO : RdO k bl (DB d w h q0)) : RdL U k mm vl bl k2 mm3 vl bl3 b d w q0 h z n 0 kd kn nn L pa ch := by
  obtain ⟨s1, s2, s3, s4⟩ := hS
  obtain ⟨p1, p2, p3, p4, p5, p6⟩ := hN
  have hUz : ¬ U z := fun h9 => (s2 z p1 h9).2 p2
  have hkz : kn z = 0 := by
    have h9 := (s1 z p1 hUz).1
    rw [p2] at h9
    exact ((nI_eq (a := 0) (by decide) (by have := (s3 z p1).1; omega)).mp h9).symm
  have hkx : ∀ x, ¬ k x = 0 → x ≠ z := fun x h9 e => h9 (e ▸ p2)
  have hbl : ∀ x, x ≠ z → bl3 x = bl x := fun x hx => by rw [e1, pk_un hx, p5, pk_un hx]
  have hbz : bl3 z = nI q0 := by rw [e1, pk_us]
  refine ⟨⟨p1, p2, hUz, hkz⟩, ⟨hbz, by rw [e2, pk_us], by rw [p3, pk_us]⟩, fun x hx h0 => ?_, fun x hx hne h1 h2 => ?_, kn, nn, L, pa, ch, fun _ => 0, ⟨fun x hx hU => ?_, fun x hx hU => ?_, s3, ?_⟩, fun x hx h0 => ⟨rfl, rfl, rfl, rfl, fun _ => rfl⟩, fun j hj => absurd hj (Nat.not_lt_zero j)⟩
  · have hne := hkx x h0
    exact ⟨by rw [p3, pk_un hne], by rw [e2, pk_un hne, p4, pk_un hne], hbl x hne, fun _ _ => rfl⟩
  · rw [p3, pk_un hne] at h1
    exact absurd h2 h1
  · have hne : x ≠ z := fun e => hU (Or.inr e)
    have h9 := s1 x hx (fun h8 => hU (Or.inl h8))
    exact ⟨by rw [p3, pk_un hne]; exact h9.1, fun h8 => by rw [e2, pk_un hne, p4, pk_un hne]; exact h9.2.1 h8, h9.2.2⟩
  · rcases hU with hU | e
    · have hne : x ≠ z := fun e => hUz (e ▸ hU)
      exact ⟨(s2 x hx hU).1, by rw [p3, pk_un hne]; exact (s2 x hx hU).2⟩
    · subst e
      exact ⟨hkz, by rw [p3, pk_us]; exact hkd⟩
  · have hk2 : ∀ x, x ≠ z → ¬ k2 x = 0 → ¬ k x = 0 := fun x hne h9 => by rw [p3, pk_un hne] at h9; exact h9
    refine ⟨fun x hx h0 => ?_, fun x y hx hy h1 h2 h3 => ?_⟩
    · by_cases e : x = z
      · subst e; exact ⟨q0, hbz, hq.1, hq.2⟩
      · rw [hbl x e]; exact s4.1 x hx (hk2 x e h0)
    · by_cases ex : x = z
      · by_cases ey : y = z
        · omega
        · rw [ex, hbz, hbl y ey] at h3
          exact absurd h3.symm (hO y hy (hk2 y ey h2) q0 db_self)
      · by_cases ey : y = z
        · rw [ey, hbz, hbl x ex] at h3
          exact absurd h3 (hO x hx (hk2 x ex h1) q0 db_self)
        · rw [hbl x ex, hbl y ey] at h3
          exact s4.2 x y hx hy (hk2 x ex h1) (hk2 y ey h2) h3
/-- a LEAF's place is filled -/
theorem rdL_leaf {U : Nat → Prop} {k mm vl bl k1 mm1 vl1 bl1 vl2 : Nat → Int32} {b : Nat} {d : Nat → Int32} {w q0 h z n t : Nat} {v kd : Int32} {kn nn L pa : Nat → Nat} {ch : Nat → Nat → Nat} (hL : RdL U k mm vl bl k1 mm1 vl1 bl1 b d w q0 h z n 0 kd kn nn L pa ch) (ht : t < 24) (e : vl2 = upd vl1 (24 * z + t) v) : RdL U k mm vl bl k1 mm1 vl2 bl1 b d w q0 h z n 0 kd kn nn L pa ch := by
  obtain ⟨h1, h2, h3, h4, kn1, nn1, L1, pa1, ch1, c, ⟨s1, s2, s3, s4⟩, h6, h7⟩ := hL
  have hv : ∀ x, x ≠ z → ∀ i, i < 24 → vl2 (24 * x + i) = vl1 (24 * x + i) := fun x hx i hi => by rw [e, pk_un (by omega)]
  refine ⟨h1, h2, fun x hx h0 => ?_, h4, kn1, nn1, L1, pa1, ch1, c, ⟨fun x hx hU => ?_, s2, s3, s4⟩, h6, fun j hj => absurd hj (Nat.not_lt_zero j)⟩
  · obtain ⟨a1, a2, a3, a4⟩ := h3 x hx h0
    have hne : x ≠ z := fun e9 => h0 (e9 ▸ h1.2.1)
    exact ⟨a1, a2, a3, fun i hi => by rw [hv x hne i hi]; exact a4 i hi⟩
  · obtain ⟨a1, a2, a3⟩ := s1 x hx hU
    have hne : x ≠ z := fun e9 => hU (Or.inr e9)
    refine ⟨a1, a2, fun h9 i hi => ?_⟩
    have hn := ((s3 x hx).2.1 (by omega)).2.1
    rw [hv x hne i (by omega)]; exact a3 h9 i hi
/-- what the child's reads may begin with -/
theorem rdL_child {U : Nat → Prop} {k mm vl bl k1 mm1 vl1 bl1 : Nat → Int32} {b lm cm : Nat} {d : Nat → Int32} {w q0 h z n i : Nat} {kd : Int32} {kn nn L pa : Nat → Nat} {ch : Nat → Nat → Nat} (hL : RdL U k mm vl bl k1 mm1 vl1 bl1 b d w q0 (h + 1) z n i kd kn nn L pa ch) (hb : b ≤ 64) (hD : DT d w b lm cm (h + 1) q0) (hN : (DB d w (h + 1) q0).Nodup) (hO : RdO k bl (DB d w (h + 1) q0)) (hi : i < dn d w q0) : DT d w b lm cm h (dch d w q0 i) ∧ (DB d w h (dch d w q0 i)).Nodup ∧ RdO k1 bl1 (DB d w h (dch d w q0 i)) := by
  obtain ⟨h1, h2, h3, h4, -⟩ := hL
  have hmem : ∀ q ∈ DB d w h (dch d w q0 i), q ∈ (List.range (dn d w q0)).flatMap (fun i => DB d w h (dch d w q0 i)) := fun q hq => List.mem_flatMap.mpr ⟨i, List.mem_range.mpr hi, hq⟩
  have hN2 := List.nodup_cons.mp (show (q0 :: (List.range (dn d w q0)).flatMap (fun i => DB d w h (dch d w q0 i))).Nodup from hN)
  have hpw := List.pairwise_flatMap.mp hN2.2
  have hchild := (hD.2.2.2.2.2.2 i hi).2
  refine ⟨hchild, hpw.1 i (List.mem_range.mpr hi), fun x hx h0 q hq e => ?_⟩
  have hqr := db_rng hchild q hq
  by_cases ez : x = z
  · rw [ez, h2.1] at e
    have hq0 : q0 < b := hD.2.1
    have := (nI_eq (by omega) (by omega)).mp e
    have h9 := hmem q hq
    rw [← this] at h9
    exact hN2.1 h9
  · by_cases hk : k x = 0
    · obtain ⟨q', e1, e2⟩ := h4 x hx ez h0 hk
      obtain ⟨j, j1, j2⟩ := List.mem_flatMap.mp e2
      have hj := List.mem_range.mp j1
      have hq'r := db_rng (hD.2.2.2.2.2.2 j (by omega)).2 q' j2
      rw [e1] at e
      have e9 := (nI_eq (by omega) (by omega)).mp e
      subst e9
      have := pw_sym (R := fun a b => ∀ x ∈ DB d w h (dch d w q0 a), ∀ y ∈ DB d w h (dch d w q0 b), x ≠ y) (fun a b hab x hx y hy e => hab y hy x hx e.symm) hpw.2 (List.mem_range.mpr (show j < dn d w q0 by omega)) (List.mem_range.mpr hi) (by omega)
      exact this q' j2 q' hq rfl
    · obtain ⟨a1, a2, a3, a4⟩ := h3 x hx hk
      rw [a3] at e
      exact hO x hx hk q (List.mem_cons_of_mem _ (hmem q hq)) e
/-- a child is read and its place filled -/
theorem rdL_step {U : Nat → Prop} {k mm vl bl k1 mm1 vl1 bl1 k2 mm2 vl2 bl2 vl3 : Nat → Int32} {b : Nat} {d : Nat → Int32} {w q0 h z n i y : Nat} {kd : Int32} {kn nn L pa kn1 nn1 L1 pa1 : Nat → Nat} {ch ch1 : Nat → Nat → Nat} {c : Nat → Nat} (hi : i < 24)
    (hA : (z < 140 ∧ k z = 0 ∧ ¬ U z ∧ kn z = 0) ∧ (bl1 z = nI q0 ∧ mm1 z = nI n ∧ k1 z = kd) ∧ RdF k mm vl bl k1 mm1 vl1 bl1 ∧ (∀ x, x < 140 → x ≠ z → ¬ k1 x = 0 → k x = 0 → ∃ q, bl1 x = nI q ∧ q ∈ (List.range i).flatMap (fun j => DB d w (h + 1 - 1) (dch d w q0 j)))) (hS : RdS (fun x => U x ∨ x = z) k1 mm1 vl1 bl1 b kn1 nn1 L1 pa1 ch1) (hG : RdG kn nn L pa ch kn1 nn1 L1 pa1 ch1) (hC : ∀ j, j < i → vl1 (24 * z + j) = nI (c j) ∧ c j < 140 ∧ kn1 (c j) ≠ 0 ∧ L1 (c j) = h + 1 ∧ pa1 (c j) = 140 ∧ kn (c j) = 0 ∧ ∀ j2, j2 < i → c j = c j2 → j = j2)
    (hP : RdP (fun x => U x ∨ x = z) k1 mm1 vl1 bl1 k2 mm2 vl2 bl2 b (DB d w h (dch d w q0 i)) h y kn1 nn1 L1 pa1 ch1) (e : vl3 = upd vl2 (24 * z + i) (nI y)) : RdL U k mm vl bl k2 mm2 vl3 bl2 b d w q0 (h + 1) z n (i + 1) kd kn nn L pa ch := by
  obtain ⟨⟨z1, z2, z3, z4⟩, ⟨z5, z6, z7⟩, hF, hNw⟩ := hA
  obtain ⟨y1, y2, yF, yN, kn2, nn2, L2, pa2, ch2, ⟨t1, t2, t3, t4⟩, y3, y4, y5, yG⟩ := hP
  have hkz := (hS.2.1 z z1 (Or.inr rfl)).2
  have hyz : y ≠ z := fun e9 => hkz (e9 ▸ y2)
  have hF2 := yF z z1 hkz
  have hv : ∀ x, x ≠ z → ∀ j, j < 24 → vl3 (24 * x + j) = vl2 (24 * x + j) := fun x hx j hj => by rw [e, pk_un (by omega)]
  have hk1k : ∀ x, x < 140 → ¬ k x = 0 → ¬ k1 x = 0 := fun x hx h9 => by rw [(hF x hx h9).1]; exact h9
  have hk1n : ∀ x, x < 140 → kn1 x ≠ 0 → ¬ k1 x = 0 := by
    intro x hx h9 h8
    by_cases hU : U x ∨ x = z
    · exact h9 (hS.2.1 x hx hU).1
    · have h7 := (hS.1 x hx hU).1
      rw [h8] at h7
      exact h9 ((nI_eq (a := 0) (by decide) (by have := (hS.2.2.1 x hx).1; omega)).mp h7).symm
  have hkny : kn y = 0 := by
    apply Classical.byContradiction
    intro h9
    exact hk1n y y1 (by rw [(hG y y1 h9).1]; exact h9) y2
  refine ⟨⟨z1, z2, z3, z4⟩, ⟨by rw [hF2.2.2.1]; exact z5, by rw [hF2.2.1]; exact z6, by rw [hF2.1]; exact z7⟩, fun x hx h0 => ?_, fun x hx hne h1 h2 => ?_, kn2, nn2, L2, pa2, ch2, gup c i y, ⟨fun x hx hU => ?_, t2, t3, t4⟩, fun x hx h0 => ?_, fun j hj => ?_⟩
  · obtain ⟨a1, a2, a3, a4⟩ := hF x hx h0
    obtain ⟨b1, b2, b3, b4⟩ := yF x hx (hk1k x hx h0)
    have hne : x ≠ z := fun e9 => h0 (e9 ▸ z2)
    exact ⟨b1.trans a1, b2.trans a2, b3.trans a3, fun j hj => by rw [hv x hne j hj, b4 j hj]; exact a4 j hj⟩
  · have hsp : (List.range (i + 1)).flatMap (fun j => DB d w (h + 1 - 1) (dch d w q0 j)) = (List.range i).flatMap (fun j => DB d w (h + 1 - 1) (dch d w q0 j)) ++ DB d w h (dch d w q0 i) := by
      rw [List.range_succ, List.flatMap_append]
      show _ ++ (DB d w h (dch d w q0 i) ++ []) = _
      rw [List.append_nil]
    by_cases hk : k1 x = 0
    · obtain ⟨q, q1, q2⟩ := yN x hx h1 hk
      exact ⟨q, q1, by rw [hsp]; exact List.mem_append_right _ q2⟩
    · obtain ⟨q, q1, q2⟩ := hNw x hx hne hk h2
      exact ⟨q, by rw [(yF x hx hk).2.2.1]; exact q1, by rw [hsp]; exact List.mem_append_left _ q2⟩
  · obtain ⟨a1, a2, a3⟩ := t1 x hx hU
    have hne : x ≠ z := fun e9 => hU (Or.inr e9)
    refine ⟨a1, a2, fun h9 j hj => ?_⟩
    have hn := ((t3 x hx).2.1 (by omega)).2.1
    rw [hv x hne j (by omega)]; exact a3 h9 j hj
  · obtain ⟨a1, a2, a3, a4, a5⟩ := hG x hx h0
    obtain ⟨b1, b2, b3, b4, b5⟩ := yG x hx (by rw [a1]; exact h0)
    exact ⟨b1.trans a1, b2.trans a2, b3.trans a3, b4.trans a4, fun i => (b5 i).trans (a5 i)⟩
  · by_cases ej : j = i
    · subst ej
      rw [gup_s]
      refine ⟨by rw [e, pk_us], y1, y3, y4, y5, hkny, fun j2 hj2 h9 => ?_⟩
      by_cases e2 : j2 = j
      · exact e2.symm
      · rw [gup_n e2] at h9
        obtain ⟨-, g2, g3, -⟩ := hC j2 (by omega)
        rw [← h9] at g3
        exact absurd y2 (hk1n y y1 g3)
    · obtain ⟨g1, g2, g3, g4, g5, g7, g6⟩ := hC j (by omega)
      obtain ⟨b1, b2, b3, b4, b5⟩ := yG (c j) g2 g3
      rw [gup_n ej]
      refine ⟨by rw [e, pk_un (by omega), hF2.2.2.2 j (by omega)]; exact g1, g2, by rw [b1]; exact g3, b3.trans g4, b4.trans g5, g7, fun j2 hj2 h9 => ?_⟩
      by_cases e2 : j2 = i
      · rw [e2, gup_s] at h9
        rw [h9] at g3
        exact absurd y2 (hk1n y y1 g3)
      · rw [gup_n e2] at h9
        exact g6 j2 (by omega) h9
theorem rdL_endL {U : Nat → Prop} {k mm vl bl k1 mm1 vl1 bl1 : Nat → Int32} {b : Nat} {d : Nat → Int32} {w q0 z n : Nat} {kn nn L pa : Nat → Nat} {ch : Nat → Nat → Nat} (hL : RdL U k mm vl bl k1 mm1 vl1 bl1 b d w q0 0 z n 0 1 kn nn L pa ch) (hn : n ≤ 19) : RdP U k mm vl bl k1 mm1 vl1 bl1 b (DB d w 0 q0) 0 z kn nn L pa ch := by
  obtain ⟨⟨z1, z2, z3, z4⟩, ⟨z5, z6, z7⟩, hF, hNw, kn1, nn1, L1, pa1, ch1, c, ⟨s1, s2, s3, s4⟩, hG, -⟩ := hL
  have hk1 : kn1 z = 0 := (s2 z z1 (Or.inr rfl)).1
  have live_z : ∀ q, kn1 q ≠ 0 → q ≠ z := fun q h9 e => h9 (e ▸ hk1)
  refine ⟨z1, z2, hF, fun x hx h1 h2 => ?_, gup kn1 z 1, gup nn1 z n, gup L1 z 1, gup pa1 z 140, ch1, ⟨fun x hx hU => ?_, fun x hx hU => ?_, ?_, s4⟩, by rw [gup_s]; decide, gup_s, gup_s, fun x hx h0 => ?_⟩
  · by_cases e : x = z
    · subst e; exact ⟨q0, z5, db_self⟩
    · obtain ⟨q, _, q2⟩ := hNw x hx e h1 h2
      exact absurd q2 (by show ¬ q ∈ []; exact List.not_mem_nil)
  · by_cases e : x = z
    · subst e
      rw [gup_s, gup_s]
      exact ⟨z7, fun _ => z6, fun h9 => absurd h9 (by decide)⟩
    · rw [gup_n e, gup_n e]
      exact s1 x hx (fun h9 => by rcases h9 with h9 | h9; exact hU h9; exact e h9)
  · have e : x ≠ z := fun e => z3 (e ▸ hU)
    rw [gup_n e]
    exact s2 x hx (Or.inl hU)
  · refine tr_mod (fun q => q = z) s3 (Or.inl rfl) (fun q hq hne => ⟨gup_n hne, fun _ => ⟨gup_n hne, gup_n hne, fun _ _ => rfl⟩⟩) (fun q hq h0 _ _ => ⟨by rw [gup_n (live_z q h0)]; exact h0, gup_n (live_z q h0), gup_n (live_z q h0)⟩) (fun q hq e => ?_)
    subst e
    exact ⟨by rw [gup_s]; decide, fun _ => by rw [gup_s, gup_s]; exact ⟨by decide, by omega, fun _ => by omega⟩, fun _ => gup_s, fun h9 => by rw [gup_s] at h9; exact absurd h9 (by decide)⟩
  · obtain ⟨a1, a2, a3, a4, a5⟩ := hG x hx h0
    have e : x ≠ z := fun e => h0 (e ▸ z4)
    exact ⟨by rw [gup_n e]; exact a1, by rw [gup_n e]; exact a2, by rw [gup_n e]; exact a3, by rw [gup_n e]; exact a4, a5⟩
theorem rdL_endI {U : Nat → Prop} {k mm vl bl k1 mm1 vl1 bl1 : Nat → Int32} {b : Nat} {d : Nat → Int32} {w q0 h z i : Nat} {kn nn L pa : Nat → Nat} {ch : Nat → Nat → Nat} (hL : RdL U k mm vl bl k1 mm1 vl1 bl1 b d w q0 (h + 1) z (dn d w q0) i 2 kn nn L pa ch) (hi : dn d w q0 ≤ i) (hi2 : i ≤ dn d w q0) (hn : dn d w q0 ≤ 19) (hn2 : 2 ≤ dn d w q0) : RdP U k mm vl bl k1 mm1 vl1 bl1 b (DB d w (h + 1) q0) (h + 1) z kn nn L pa ch := by
  obtain ⟨⟨z1, z2, z3, z4⟩, ⟨z5, z6, z7⟩, hF, hNw, kn1, nn1, L1, pa1, ch1, c, ⟨s1, s2, s3, s4⟩, hG, hC⟩ := hL
  have ein : i = dn d w q0 := by omega
  subst ein
  obtain ⟨n, en⟩ : ∃ n, n = dn d w q0 := ⟨_, rfl⟩
  have hk1 : kn1 z = 0 := (s2 z z1 (Or.inr rfl)).1
  have live_z : ∀ q, kn1 q ≠ 0 → q ≠ z := fun q h9 e => h9 (e ▸ hk1)
  obtain ⟨mv, hmv⟩ : ∃ mv : Nat → Prop, mv = fun q => ∃ j, j < dn d w q0 ∧ q = c j := ⟨_, rfl⟩
  have mv_pa : ∀ q, mv q → pa1 q = 140 ∧ kn1 q ≠ 0 := by
    intro q hq
    rw [hmv] at hq
    obtain ⟨j, a1, a2⟩ := hq
    rw [a2]; exact ⟨(hC j a1).2.2.2.2.1, (hC j a1).2.2.1⟩
  refine ⟨z1, z2, hF, fun x hx h1 h2 => ?_, gup kn1 z 2, gup nn1 z (dn d w q0), gup L1 z (h + 1 + 1), gif mv z (gup pa1 z 140), fun q i => if q = z then c i else ch1 q i, ⟨fun x hx hU => ?_, fun x hx hU => ?_, ?_, s4⟩, by rw [gup_s]; decide, gup_s, ?_, fun x hx h0 => ?_⟩
  · by_cases e : x = z
    · subst e; exact ⟨q0, z5, db_self⟩
    · obtain ⟨q, q1, q2⟩ := hNw x hx e h1 h2
      exact ⟨q, q1, List.mem_cons_of_mem _ q2⟩
  · by_cases e : x = z
    · subst e
      rw [gup_s, gup_s]
      refine ⟨z7, fun _ => z6, fun _ i hi => ?_⟩
      show vl1 (24 * x + i) = nI (if x = x then c i else ch1 x i)
      rw [if_pos rfl]; exact (hC i hi).1
    · rw [gup_n e, gup_n e]
      obtain ⟨a1, a2, a3⟩ := s1 x hx (fun h9 => by rcases h9 with h9 | h9; exact hU h9; exact e h9)
      refine ⟨a1, a2, fun h9 i hi => ?_⟩
      show vl1 (24 * x + i) = nI (if x = z then c i else ch1 x i)
      rw [if_neg e]; exact a3 h9 i hi
  · have e : x ≠ z := fun e => z3 (e ▸ hU)
    rw [gup_n e]
    exact s2 x hx (Or.inl hU)
  · refine tr_mod (fun q => q = z) s3 (Or.inl rfl) (fun q hq hne => ⟨gup_n hne, fun _ => ⟨gup_n hne, gup_n hne, fun i _ => if_neg hne⟩⟩) (fun q hq h0 hp hne => ⟨by rw [gup_n (live_z q h0)]; exact h0, gup_n (live_z q h0), ?_⟩) (fun q hq e => ?_)
    · rw [gif_f (fun h9 => by have := (mv_pa q h9).1; omega), gup_n (live_z q h0)]
    · subst e
      refine ⟨by rw [gup_s]; decide, fun _ => by rw [gup_s, gup_s]; exact ⟨by omega, by omega, fun _ => hn⟩, fun h9 => by rw [gup_s] at h9; exact absurd h9 (by decide), fun _ => ?_⟩
      rw [gup_s, gup_s]
      refine ⟨fun _ => hn2, fun i hi => ?_⟩
      obtain ⟨g1, g2, g3, g4, g5, g7, g6⟩ := hC i hi
      have e2 := live_z _ g3
      show (if q = q then c i else ch1 q i) < 140 ∧ gup kn1 q 2 (if q = q then c i else ch1 q i) ≠ 0 ∧ gup L1 q (h + 1 + 1) (if q = q then c i else ch1 q i) + 1 = h + 1 + 1 ∧ gif mv q (gup pa1 q 140) (if q = q then c i else ch1 q i) = q ∧ ∀ j, j < dn d w q0 → (if q = q then c i else ch1 q i) = (if q = q then c j else ch1 q j) → i = j
      rw [if_pos rfl, gup_n e2, gup_n e2]
      refine ⟨g2, g3, by omega, gif_t (by rw [hmv]; exact ⟨i, hi, rfl⟩), fun j hj h9 => ?_⟩
      rw [if_pos rfl] at h9
      exact g6 j hj h9
  · rw [gif_f, gup_s]
    intro h9
    exact (mv_pa z h9).2 hk1
  · obtain ⟨a1, a2, a3, a4, a5⟩ := hG x hx h0
    have e : x ≠ z := fun e => h0 (e ▸ z4)
    refine ⟨by rw [gup_n e]; exact a1, by rw [gup_n e]; exact a2, by rw [gup_n e]; exact a3, ?_, fun i => ?_⟩
    · by_cases hm : mv x
      · rw [hmv] at hm
        obtain ⟨j, j1, j2⟩ := hm
        exact absurd (by rw [j2]; exact (hC j j1).2.2.2.2.2.1) h0
      · rw [gif_f hm, gup_n e]; exact a4
    · show (if x = z then c i else ch1 x i) = ch x i
      rw [if_neg e]; exact a5 i
theorem nat_c (h : Nat) : h = 0 ∨ ∃ j, h = j + 1 := by
  cases h with
  | zero => exact Or.inl rfl
  | succ j => exact Or.inr ⟨j, rfl⟩
theorem rdS_empty {k mm vl bl : Nat → Int32} {b : Nat} (h : ∀ x, x < 140 → k x = 0) : RdS (fun _ => False) k mm vl bl b (fun _ => 0) (fun _ => 0) (fun _ => 0) (fun _ => 0) (fun _ _ => 0) := by
  refine ⟨fun x hx _ => ⟨h x hx, fun h9 => absurd rfl h9, fun h9 => absurd (show (0 : Nat) = 2 from h9) (by decide)⟩, fun x _ hU => hU.elim, fun x hx => ⟨Nat.zero_le 2, fun h9 => absurd rfl h9, fun h9 => absurd (show (0 : Nat) = 1 from h9) (by decide), fun h9 => absurd (show (0 : Nat) = 2 from h9) (by decide)⟩, fun x hx h0 => absurd (h x hx) h0, fun x y hx _ h0 => absurd (h x hx) h0⟩
theorem rdO_empty {k bl : Nat → Int32} {B : List Nat} (h : ∀ x, x < 140 → k x = 0) : RdO k bl B := fun x hx h0 => absurd (h x hx) h0
theorem inv_rd {k mm vl bl k2 mm2 vl2 bl2 : Nat → Int32} {b h z : Nat} {B : List Nat} {kn nn L pa : Nat → Nat} {ch : Nat → Nat → Nat} (hP : RdP (fun _ => False) k mm vl bl k2 mm2 vl2 bl2 b B h z kn nn L pa ch) : Inv b k2 mm2 bl2 vl2 (nI z) := by
  obtain ⟨z1, z2, -, -, kn2, nn2, L2, pa2, ch2, ⟨s1, s2, s3, s4⟩, y3, y4, y5, -⟩ := hP
  have hk : ∀ x, x < 140 → kn2 x ≠ 0 → ¬ k2 x = 0 := by
    intro x hx h0 h9
    have h8 := (s1 x hx (fun h7 => h7)).1
    rw [h9] at h8
    exact h0 ((nI_eq (a := 0) (by decide) (by have := (s3 x hx).1; omega)).mp h8).symm
  exact ⟨kn2, nn2, L2, pa2, ch2, fun x hx => s1 x hx (fun h7 => h7), s3, ⟨fun x hx h0 => s4.1 x hx (hk x hx h0), fun x y hx hy h1 h2 => s4.2 x y hx hy (hk x hx h1) (hk y hy h2)⟩, Or.inr ⟨z, z1, rfl, y3, y5⟩⟩
theorem rt_in {b : Nat} {k mm bl vl : Nat → Int32} {rt : Int32} (h : Inv b k mm bl vl rt) (hr : ¬ rt = -1) : vp_in rt 140 := by
  obtain ⟨kn, nn, L, pa, ch, hR, hT, hB, h9 | ⟨r, h1, h2, -⟩⟩ := h
  · exact absurd h9 hr
  · rw [h2]; exact vp_in_nI h1 (by omega)
theorem rr_of {d : Nat → Int32} {w b lm cm r0 : Nat} {r : Int32} (h : r = 0 ∨ (r = 1 ∧ RootP d w b lm cm r0)) (hr : ¬ r = 0) : RootP d w b lm cm r0 := by
  rcases h with h | h
  · exact absurd h hr
  · exact h.2
theorem rr_b {d : Nat → Int32} {w b lm cm r0 : Nat} {r : Int32} (h : r = 0 ∨ (r = 1 ∧ RootP d w b lm cm r0)) : r = 0 ∨ r = 1 := by
  rcases h with h | h
  · exact Or.inl h
  · exact Or.inr h.1
