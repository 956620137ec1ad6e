/-- what a Page holds, by its address: leaf, many, keys, refs -/
abbrev pgS : Type := Nat → Int32 × Nat × (Nat → Int32) × (Nat → Int32)
/-- what of a Page never changes: its two rows' addresses, their room, what it is for -/
abbrev pgG : Type := Nat → Nat × Nat × Nat × Nat
def pg3 (G : pgG) (cI : ClassId) (S : pgS) (a : Nat) : va_W := [(a, .inr (4, [.int (S a).1, .int (nI (S a).2.1), .ref (G a).1, .ref (G a).2.1])), ((G a).1, .inl (cI, (G a).2.2.1, .inl (S a).2.2.1)), ((G a).2.1, .inl (cI, (G a).2.2.1, .inl (S a).2.2.2))]
def pool (G : pgG) (cI : ClassId) (Pg : List Nat) (S : pgS) : va_W := Pg.flatMap (pg3 G cI S)
def pgJ (T : List Nat) (S1 S : pgS) : pgS := fun a => if a ∈ T then S1 a else S a
def pgI (G : pgG) (Pg : List Nat) (S : pgS) : Prop := ∀ a ∈ Pg, ((S a).1 = 0 ∨ (S a).1 = 1) ∧ (S a).2.1 ≤ (G a).2.2.1 ∧ (G a).2.2.1 ≤ 40
theorem vaP_iff {D : va_G} {cl : List vw_C} {ws : va_W} {H : Heap} : va_P D cl ws H ↔ ∀ q ∈ ws, va_at D cl q H := by
  constructor
  · intro h q hq
    obtain ⟨k, hk⟩ := List.getElem?_of_mem hq
    exact h k q hk
  · intro h k q hk
    exact h q (List.mem_of_getElem? hk)
theorem vaD_iff {A : Nat → Prop} {ws : va_W} : va_D A ws ↔ ws.Pairwise (fun p q => p.1 ≠ q.1) ∧ ∀ q ∈ ws, A q.1 := by
  constructor
  · intro h
    refine ⟨List.pairwise_iff_getElem.mpr ?_, ?_⟩
    · intro i j hi hj hij e
      have := h.1 i j _ _ (List.getElem?_eq_getElem hi) (List.getElem?_eq_getElem hj) e
      omega
    · intro q hq
      obtain ⟨k, hk⟩ := List.getElem?_of_mem hq
      exact h.2 k q hk
  · intro h
    refine ⟨?_, fun k q hk => h.2 q (List.mem_of_getElem? hk)⟩
    intro i j p q hp hq e
    obtain ⟨hi, ei⟩ := List.getElem?_eq_some_iff.mp hp
    obtain ⟨hj, ej⟩ := List.getElem?_eq_some_iff.mp hq
    rcases Nat.lt_trichotomy i j with h9 | h9 | h9
    · exact absurd (by rw [ei, ej]; exact e) (List.pairwise_iff_getElem.mp h.1 i j hi hj h9)
    · exact h9
    · exact absurd (by rw [ei, ej]; exact e.symm) (List.pairwise_iff_getElem.mp h.1 j i hj hi h9)
theorem vaD_app_ne {A : Nat → Prop} {X Y : va_W} (h : va_D A (X ++ Y)) {p q : Nat × va_E} (hp : p ∈ X) (hq : q ∈ Y) : p.1 ≠ q.1 := (List.pairwise_append.mp (vaD_iff.mp h).1).2.2 p hp q hq
theorem pw_sym {l : List Nat} {R : Nat → Nat → Prop} (hs : ∀ a b, R a b → R b a) (h : l.Pairwise R) : ∀ {a b : Nat}, a ∈ l → b ∈ l → a ≠ b → R a b := by
  induction h with
  | nil => intro a b ha; cases ha
  | cons h1 _ ih =>
    intro a b ha hb hab
    rcases List.mem_cons.mp ha with ea | ha2
    · rcases List.mem_cons.mp hb with eb | hb2
      · exact absurd (ea.trans eb.symm) hab
      · rw [ea]; exact h1 b hb2
    · rcases List.mem_cons.mp hb with eb | hb2
      · rw [eb]; exact hs _ _ (h1 a ha2)
      · exact ih ha2 hb2 hab
theorem mem_cx {X cx : va_W} (is : List Nat) (hs : is.map (fun i => X[i]?) = cx.map some) {q : Nat × va_E} (h : q ∈ cx) : ∃ i, i ∈ is ∧ X[i]? = some q := by
  obtain ⟨k, hk⟩ := List.getElem?_of_mem h
  obtain ⟨i, h1, h2⟩ := va_in_of is hs hk
  exact ⟨i, List.mem_of_getElem? h1, h2⟩
theorem pool_mem {G : pgG} {cI : ClassId} {Pg : List Nat} {S : pgS} {q : Nat × va_E} : q ∈ pool G cI Pg S ↔ ∃ a ∈ Pg, q ∈ pg3 G cI S a := List.mem_flatMap
theorem pg3_adr {G : pgG} {cI : ClassId} {S : pgS} {a : Nat} {q : Nat × va_E} (h : q ∈ pg3 G cI S a) (S1 : pgS) : ∃ y ∈ pg3 G cI S1 a, y.1 = q.1 := by
  simp only [pg3, List.mem_cons, List.not_mem_nil, or_false] at h
  rcases h with rfl | rfl | rfl
  · exact ⟨_, List.mem_cons_self, rfl⟩
  · exact ⟨_, List.mem_cons_of_mem _ List.mem_cons_self, rfl⟩
  · exact ⟨_, List.mem_cons_of_mem _ (List.mem_cons_of_mem _ List.mem_cons_self), rfl⟩
theorem pool_pw {G : pgG} {cI : ClassId} {Pg : List Nat} {S : pgS} : (pool G cI Pg S).Pairwise (fun p q => p.1 ≠ q.1) ↔ (∀ a ∈ Pg, (pg3 G cI S a).Pairwise (fun p q => p.1 ≠ q.1)) ∧ Pg.Pairwise (fun a b => ∀ x ∈ pg3 G cI S a, ∀ y ∈ pg3 G cI S b, x.1 ≠ y.1) := List.pairwise_flatMap
theorem pool_ne {G : pgG} {cI : ClassId} {Pg : List Nat} {S : pgS} (h : (pool G cI Pg S).Pairwise (fun p q => p.1 ≠ q.1)) {a b : Nat} (ha : a ∈ Pg) (hb : b ∈ Pg) (hab : a ≠ b) : ∀ x ∈ pg3 G cI S a, ∀ y ∈ pg3 G cI S b, x.1 ≠ y.1 :=
  pw_sym (R := fun a b => ∀ x ∈ pg3 G cI S a, ∀ y ∈ pg3 G cI S b, x.1 ≠ y.1) (fun _ _ h x hx y hy e => h y hy x hx e.symm) (pool_pw.mp h).2 ha hb hab
theorem pg3_pw {G : pgG} {cI : ClassId} {S S1 : pgS} {a : Nat} (h : (pg3 G cI S a).Pairwise (fun p q => p.1 ≠ q.1)) : (pg3 G cI S1 a).Pairwise (fun p q => p.1 ≠ q.1) := by
  simp only [pg3, List.pairwise_cons, List.mem_cons, List.not_mem_nil, or_false, forall_eq_or_imp, forall_eq] at h ⊢
  exact ⟨h.1, h.2.1, fun _ h => h.elim, List.Pairwise.nil⟩
theorem pool_at {G : pgG} {cI : ClassId} {Pg : List Nat} {S : pgS} (X : va_W) {a : Nat} (ha : a ∈ Pg) : ∃ k : Nat, (X ++ pool G cI Pg S)[k]? = some (a, .inr (4, [.int (S a).1, .int (nI (S a).2.1), .ref (G a).1, .ref (G a).2.1])) :=
  List.getElem?_of_mem (List.mem_append_right _ (pool_mem.mpr ⟨a, ha, List.mem_cons_self⟩))
theorem pool_cut {D : va_G} {cl : List vw_C} {X cx : va_W} {G : pgG} {cI : ClassId} {Pg T : List Nat} {S : pgS} {H : Heap} (hP : va_P D cl (X ++ pool G cI Pg S) H) (hT : ∀ a ∈ T, a ∈ Pg) (isC : List Nat) (hC : isC.map (fun i => X[i]?) = cx.map some) : va_P D cl (cx ++ pool G cI T S) H := by
  refine vaP_iff.mpr fun q hq => ?_
  rcases List.mem_append.mp hq with h | h
  · obtain ⟨i, -, hi⟩ := mem_cx isC hC h
    exact vaP_iff.mp hP q (List.mem_append_left _ (List.mem_of_getElem? hi))
  · obtain ⟨a, ha, h⟩ := pool_mem.mp h
    exact vaP_iff.mp hP q (List.mem_append_right _ (pool_mem.mpr ⟨a, hT a ha, h⟩))
theorem pool_cutD {A : Nat → Prop} {X cx : va_W} {G : pgG} {cI : ClassId} {Pg T : List Nat} {S : pgS} (hD : va_D A (X ++ pool G cI Pg S)) (hT : ∀ a ∈ T, a ∈ Pg) (hN : T.Nodup) (isC : List Nat) (hn : va_nd isC = true) (hC : isC.map (fun i => X[i]?) = cx.map some) : va_D A (cx ++ pool G cI T S) := by
  have h1 := vaD_iff.mp (hD.part isC hn hC)
  obtain ⟨p1, p2, p3⟩ := List.pairwise_append.mp h1.1
  refine vaD_iff.mpr ⟨List.pairwise_append.mpr ⟨p1, pool_pw.mpr ⟨fun a ha => (pool_pw.mp p2).1 a (hT a ha), List.Pairwise.imp_of_mem (fun ha hb hab => pool_ne p2 (hT _ ha) (hT _ hb) hab) hN⟩, ?_⟩, ?_⟩
  · intro x hx y hy
    obtain ⟨a, ha, h⟩ := pool_mem.mp hy
    exact p3 x hx y (pool_mem.mpr ⟨a, hT a ha, h⟩)
  · intro q hq
    rcases List.mem_append.mp hq with h | h
    · exact h1.2 q (List.mem_append_left _ h)
    · obtain ⟨a, ha, h⟩ := pool_mem.mp h
      exact h1.2 q (List.mem_append_right _ (pool_mem.mpr ⟨a, hT a ha, h⟩))
theorem pool_free {A0 : Nat → Prop} {X cx : va_W} {G : pgG} {cI : ClassId} {Pg T : List Nat} {S : pgS} {H0 H : Heap} {locs : List Loc} (hD : va_D A0 (X ++ pool G cI Pg S)) (hS : va_S A0 H0 H locs) (hA : ∀ q, H0.size ≤ q → A0 q) (hT : ∀ a ∈ T, a ∈ Pg) (isC : List Nat) (hC : isC.map (fun i => X[i]?) = cx.map some) : ∀ q, va_A (cx ++ pool G cI T S) H.size q → A0 q := by
  intro q h
  have h1 := vaD_iff.mp hD
  rcases h with ⟨k, e, h⟩ | h
  · rcases List.mem_append.mp (List.mem_of_getElem? h) with h | h
    · obtain ⟨i, -, hi⟩ := mem_cx isC hC h
      exact h1.2 (q, e) (List.mem_append_left _ (List.mem_of_getElem? hi))
    · obtain ⟨a, ha, h⟩ := pool_mem.mp h
      exact h1.2 (q, e) (List.mem_append_right _ (pool_mem.mpr ⟨a, hT a ha, h⟩))
  · exact hA q (Nat.le_trans hS.1 h)
theorem pgJ_in {T : List Nat} {S1 S : pgS} {a : Nat} (h : a ∈ T) : pgJ T S1 S a = S1 a := if_pos h
theorem pgJ_out {T : List Nat} {S1 S : pgS} {a : Nat} (h : ¬ a ∈ T) : pgJ T S1 S a = S a := if_neg h
theorem pg3_congr {G : pgG} {cI : ClassId} {S S1 : pgS} {a : Nat} (h : S a = S1 a) : pg3 G cI S a = pg3 G cI S1 a := by unfold pg3; rw [h]
theorem pool_join {A0 : Nat → Prop} {D : va_G} {cl : List vw_C} {X cx wr rx : va_W} {G : pgG} {cI : ClassId} {Pg T : List Nat} {S S1 : pgS} {H H1 : Heap} (hP : va_P D cl (X ++ pool G cI Pg S) H) (hD : va_D A0 (X ++ pool G cI Pg S)) (hT : ∀ a ∈ T, a ∈ Pg) (isC isR : List Nat) (hC : isC.map (fun i => X[i]?) = cx.map some) (hR : isR.map (fun i => X[i]?) = wr.map some) (hn : va_nd isR = true) (hdis : ∀ i ∈ isR, i ∉ isC)
    (hk : ∀ q : Nat, q < H.size → ¬ va_A (cx ++ pool G cI T S) H.size q → H1[q]? = H[q]?) (hF : ∀ q, va_A (cx ++ pool G cI T S) H.size q → A0 q) (hP1 : va_P D cl (rx ++ pool G cI T S1) H1) (hD1 : va_D (va_A (cx ++ pool G cI T S) H.size) (rx ++ pool G cI T S1)) : va_P D cl ((wr ++ rx) ++ pool G cI Pg (pgJ T S1 S)) H1 ∧ va_D A0 ((wr ++ rx) ++ pool G cI Pg (pgJ T S1 S)) := by
  have d0 := vaD_iff.mp hD
  have d1 := vaD_iff.mp hD1
  have dpool := (List.pairwise_append.mp d0.1).2.1
  have far : ∀ q ∈ wr, q ∈ X ∧ q.1 < H.size ∧ ¬ va_A (cx ++ pool G cI T S) H.size q.1 := by
    intro q hq
    obtain ⟨i, hi, hx⟩ := mem_cx isR hR hq
    have hX : q ∈ X := List.mem_of_getElem? hx
    have hlt := (vaP_iff.mp hP q (List.mem_append_left _ hX)).lt
    refine ⟨hX, hlt, fun h => ?_⟩
    rcases h with ⟨k, e, h⟩ | h
    · rcases List.mem_append.mp (List.mem_of_getElem? h) with h | h
      · obtain ⟨j, hj, hy⟩ := mem_cx isC hC h
        have li := (List.getElem?_eq_some_iff.mp hx).1
        have lj := (List.getElem?_eq_some_iff.mp hy).1
        have e9 := hD.1 i j q (q.1, e) (by rw [List.getElem?_append_left li]; exact hx) (by rw [List.getElem?_append_left lj]; exact hy) rfl
        subst e9
        exact hdis i hi hj
      · obtain ⟨a, ha, h⟩ := pool_mem.mp h
        exact vaD_app_ne hD hX (pool_mem.mpr ⟨a, hT a ha, h⟩) rfl
    · omega
  have farp : ∀ a ∈ Pg, a ∉ T → ∀ q ∈ pg3 G cI S a, q.1 < H.size ∧ ¬ va_A (cx ++ pool G cI T S) H.size q.1 := by
    intro a ha hna q hq
    have hm : q ∈ pool G cI Pg S := pool_mem.mpr ⟨a, ha, hq⟩
    have hlt := (vaP_iff.mp hP q (List.mem_append_right _ hm)).lt
    refine ⟨hlt, fun h => ?_⟩
    rcases h with ⟨k, e, h⟩ | h
    · rcases List.mem_append.mp (List.mem_of_getElem? h) with h | h
      · obtain ⟨j, hj, hy⟩ := mem_cx isC hC h
        exact vaD_app_ne hD (List.mem_of_getElem? hy) hm rfl
      · obtain ⟨b, hb, h⟩ := pool_mem.mp h
        have hab : a ≠ b := fun e9 => hna (e9 ▸ hb)
        exact pool_ne dpool ha (hT b hb) hab q hq _ h rfl
    · omega
  constructor
  · refine vaP_iff.mpr fun q hq => ?_
    rcases List.mem_append.mp hq with h | h
    · rcases List.mem_append.mp h with h | h
      · obtain ⟨f1, f2, f3⟩ := far q h
        exact (vaP_iff.mp hP q (List.mem_append_left _ f1)).kept (hk q.1 f2 f3)
      · exact vaP_iff.mp hP1 q (List.mem_append_left _ h)
    · obtain ⟨a, ha, h⟩ := pool_mem.mp h
      by_cases ht : a ∈ T
      · rw [pg3_congr (pgJ_in ht)] at h
        exact vaP_iff.mp hP1 q (List.mem_append_right _ (pool_mem.mpr ⟨a, ht, h⟩))
      · rw [pg3_congr (pgJ_out ht)] at h
        obtain ⟨f2, f3⟩ := farp a ha ht q h
        exact (vaP_iff.mp hP q (List.mem_append_right _ (pool_mem.mpr ⟨a, ha, h⟩))).kept (hk q.1 f2 f3)
  · refine vaD_iff.mpr ⟨List.pairwise_append.mpr ⟨List.pairwise_append.mpr ⟨(List.pairwise_append.mp (vaD_iff.mp (hD.part isR hn hR)).1).1, (List.pairwise_append.mp d1.1).1, ?_⟩, ?_, ?_⟩, ?_⟩
    · intro x hx y hy e
      have h2 := d1.2 y (List.mem_append_left _ hy)
      rw [← e] at h2
      exact (far x hx).2.2 h2
    · refine pool_pw.mpr ⟨fun a ha => pg3_pw ((pool_pw.mp dpool).1 a ha), List.Pairwise.imp ?_ (pool_pw.mp dpool).2⟩
      intro a b h x hx y hy
      obtain ⟨x', hx', ex⟩ := pg3_adr hx S
      obtain ⟨y', hy', ey⟩ := pg3_adr hy S
      rw [← ex, ← ey]
      exact h x' hx' y' hy'
    · intro x hx y hy
      obtain ⟨a, ha, h⟩ := pool_mem.mp hy
      rcases List.mem_append.mp hx with hx | hx
      · obtain ⟨y', hy', ey⟩ := pg3_adr h S
        rw [← ey]
        exact vaD_app_ne hD (far x hx).1 (pool_mem.mpr ⟨a, ha, hy'⟩)
      · by_cases ht : a ∈ T
        · obtain ⟨y', hy', ey⟩ := pg3_adr h S1
          rw [← ey]
          exact vaD_app_ne hD1 hx (pool_mem.mpr ⟨a, ht, hy'⟩)
        · obtain ⟨y', hy', ey⟩ := pg3_adr h S
          rw [← ey]
          intro e
          have h2 := d1.2 x (List.mem_append_left _ hx)
          rw [e] at h2
          exact (farp a ha ht y' hy').2 h2
    · intro q hq
      rcases List.mem_append.mp hq with h | h
      · rcases List.mem_append.mp h with h | h
        · exact d0.2 q (List.mem_append_left _ (far q h).1)
        · exact hF _ (d1.2 q (List.mem_append_left _ h))
      · obtain ⟨a, ha, h⟩ := pool_mem.mp h
        obtain ⟨y', hy', ey⟩ := pg3_adr h S
        rw [← ey]
        exact d0.2 y' (List.mem_append_right _ (pool_mem.mpr ⟨a, ha, hy'⟩))
theorem pgJ_same (T : List Nat) (S : pgS) : pgJ T S S = S := by
  funext a
  unfold pgJ
  split <;> rfl
theorem pgI_1 {G : pgG} {Pg : List Nat} {S : pgS} {a n : Nat} {x : Int32} {f g : Nat → Int32} (hI : pgI G Pg S) (h1 : x = 0 ∨ x = 1) (h2 : n ≤ (G a).2.2.1) : pgI G Pg (pgJ [a] (fun _ => (x, n, f, g)) S) := by
  intro b hb
  by_cases h : b = a
  · subst h
    rw [pgJ_in List.mem_cons_self]
    exact ⟨h1, h2, (hI b hb).2.2⟩
  · rw [pgJ_out (fun h9 => h (List.mem_singleton.mp h9))]
    exact hI b hb
theorem pool2 {G : pgG} {cI : ClassId} {a b : Nat} (h : a ≠ b) (s1 s2 : Int32 × Nat × (Nat → Int32) × (Nat → Int32)) : pool G cI [a, b] (pgJ [a] (fun _ => s1) (fun _ => s2)) = pg3 G cI (fun _ => s1) a ++ pg3 G cI (fun _ => s2) b := by
  have e1 : pg3 G cI (pgJ [a] (fun _ => s1) (fun _ => s2)) a = pg3 G cI (fun _ => s1) a := pg3_congr (pgJ_in List.mem_cons_self)
  have e2 : pg3 G cI (pgJ [a] (fun _ => s1) (fun _ => s2)) b = pg3 G cI (fun _ => s2) b := pg3_congr (pgJ_out (fun h9 => h (List.mem_singleton.mp h9).symm))
  show pg3 G cI _ a ++ (pg3 G cI _ b ++ []) = _
  rw [e1, e2, List.append_nil]
theorem pgI_2 {G : pgG} {Pg : List Nat} {S : pgS} {a b n n2 : Nat} {x x2 : Int32} {f g f2 g2 : Nat → Int32} (hI : pgI G Pg S) (h : a ≠ b) (h1 : x = 0 ∨ x = 1) (h2 : n ≤ (G a).2.2.1) (h3 : x2 = 0 ∨ x2 = 1) (h4 : n2 ≤ (G b).2.2.1) : pgI G Pg (pgJ [a, b] (pgJ [a] (fun _ => (x, n, f, g)) (fun _ => (x2, n2, f2, g2))) S) := by
  intro c hc
  by_cases ha : c = a
  · subst ha
    rw [pgJ_in List.mem_cons_self, pgJ_in List.mem_cons_self]
    exact ⟨h1, h2, (hI c hc).2.2⟩
  · by_cases hb : c = b
    · subst hb
      rw [pgJ_in (List.mem_cons_of_mem _ List.mem_cons_self), pgJ_out (fun h9 => ha (List.mem_singleton.mp h9))]
      exact ⟨h3, h4, (hI c hc).2.2⟩
    · rw [pgJ_out (fun h9 => by rcases List.mem_cons.mp h9 with h9 | h9; exact ha h9; exact hb (List.mem_singleton.mp h9))]
      exact hI c hc
theorem in1 {Pg : List Nat} {a : Nat} (h : a ∈ Pg) : ∀ x ∈ [a], x ∈ Pg := fun x hx => by rw [List.mem_singleton.mp hx]; exact h
theorem in2 {Pg : List Nat} {a b : Nat} (h : a ∈ Pg) (h2 : b ∈ Pg) : ∀ x ∈ [a, b], x ∈ Pg := fun x hx => by
  rcases List.mem_cons.mp hx with rfl | hx
  · exact h
  · rw [List.mem_singleton.mp hx]; exact h2
theorem nd1 {a : Nat} : [a].Nodup := List.pairwise_singleton _ _
theorem nd2 {a b : Nat} (h : a ≠ b) : [a, b].Nodup := List.pairwise_cons.mpr ⟨fun x hx => by rw [List.mem_singleton.mp hx]; exact h, List.pairwise_singleton _ _⟩
section LVRF
variable {p : Program} {l : Launch} {e : Env} {R : Room} {s : State} {m : MethodId} {args : Array Value} {below : List Frame} {meth : Method} {c : Code} {H : Heap} {locs : List Loc} {cells slots : Nat} {Q : State → Prop}
variable {pc : Nat} {ls : Array Slot} {rest : List Value}
theorem lv_rf {x : Option Nat} {a : Nat} (h : x = some a) (k : W p l e R s m args below meth c H locs cells slots Q (F0 m pc ls (.ref a :: rest))) : W p l e R s m args below meth c H locs cells slots Q (F0 m pc ls (va_rf x :: rest)) := by
  subst h
  exact k
theorem jn_cut {g : JFrame} {P : (State → Prop) → Prop} (h1 : P Q) (h2 : P Q → W p l e R s m args below meth c H locs cells slots Q g) : W p l e R s m args below meth c H locs cells slots Q g := h2 h1
end LVRF
