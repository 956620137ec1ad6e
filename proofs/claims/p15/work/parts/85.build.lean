/-! How the constructors make the pool: a page more, the rest as it was. -/
theorem cA_int {D : va_G} {cl : List vw_C} {tys : List (ClassId × FieldType)} {U : State} (hK : va_K D cl tys U) {i j : Nat} {c d : ClassId} (hi : tys[i]? = some (c, .int)) (hj : tys[j]? = some (d, .int)) : c = d := Option.some.inj ((hK.2 i _ hi).2.symm.trans (hK.2 j _ hj).2)
theorem cA_long {D : va_G} {cl : List vw_C} {tys : List (ClassId × FieldType)} {U : State} (hK : va_K D cl tys U) {i j : Nat} {c d : ClassId} (hi : tys[i]? = some (c, .long)) (hj : tys[j]? = some (d, .long)) : c = d := Option.some.inj ((hK.2 i _ hi).2.symm.trans (hK.2 j _ hj).2)
theorem cA_obj {D : va_G} {cl : List vw_C} {tys : List (ClassId × FieldType)} {U : State} (hK : va_K D cl tys U) {i j : Nat} {c d : ClassId} {C : String} (hi : tys[i]? = some (c, .object C)) (hj : tys[j]? = some (d, .object C)) : c = d := by
  obtain ⟨_, _, _, _, _, h1⟩ := (hK.2 i _ hi).2
  obtain ⟨_, _, _, _, _, h2⟩ := (hK.2 j _ hj).2
  exact Option.some.inj (h1.symm.trans h2)
def pgX (G : pgG) (Pg : List Nat) (G2 : pgG) (Pg2 : List Nat) : Prop := ∀ a ∈ Pg, a ∈ Pg2 ∧ G2 a = G a
theorem pgX_rf (G : pgG) (Pg : List Nat) : pgX G Pg G Pg := fun _ h => ⟨h, rfl⟩
theorem pgX_tr {G G2 G3 : pgG} {P P2 P3 : List Nat} (h1 : pgX G P G2 P2) (h2 : pgX G2 P2 G3 P3) : pgX G P G3 P3 := fun a h => ⟨(h2 a (h1 a h).1).1, ((h2 a (h1 a h).1).2).trans (h1 a h).2⟩
theorem pgX_up {G : pgG} {P : List Nat} {a : Nat} (x : Nat × Nat × Nat × Nat) (h : a ∉ P) : pgX G P (va_up G a x) (a :: P) := fun b hb => ⟨List.mem_cons_of_mem _ hb, by
  have hba : b ≠ a := fun e => h (e ▸ hb)
  simp only [va_up, hba, if_false]⟩
theorem va_up_at {α : Type} (f : Nat → α) (a : Nat) (x : α) : va_up f a x a = x := by simp only [va_up, if_true]
theorem pgI_up {G : pgG} {P : List Nat} {S : pgS} {a k r n t m : Nat} {x : Int32} {f g : Nat → Int32} (hI : pgI G P S) (h1 : x = 0 ∨ x = 1) (h2 : m ≤ n) (h3 : n ≤ 40) : pgI (va_up G a (k, r, n, t)) (a :: P) (va_up S a (x, m, f, g)) := by
  intro b hb
  by_cases h : b = a
  · subst h
    rw [va_up_at, va_up_at]
    exact ⟨h1, h2, h3⟩
  · rw [va_up_ne _ _ h, va_up_ne _ _ h]
    rcases List.mem_cons.mp hb with e | hb
    · exact absurd e h
    · exact hI b hb
theorem pgA_x {G G2 : pgG} {P P2 : List Nat} {n t : Nat} {g : Nat → Option Nat} (h : ∀ j, j < n → ∃ a, a ∈ P ∧ (G a).2.2.2 = t ∧ g j = some a) (hx : pgX G P G2 P2) : ∀ j, j < n → ∃ a, a ∈ P2 ∧ (G2 a).2.2.2 = t ∧ g j = some a := by
  intro j hj
  obtain ⟨a, h1, h2, h3⟩ := h j hj
  exact ⟨a, (hx a h1).1, by rw [(hx a h1).2]; exact h2, h3⟩
theorem pgA_up {G : pgG} {P : List Nat} {i t a k r n : Nat} {g g2 : Nat → Option Nat} (h : ∀ j, j < i → ∃ a, a ∈ P ∧ (G a).2.2.2 = t ∧ g j = some a) (hna : a ∉ P) (hi : i < 2 ^ 31) (eg : g2 = va_up g (nI i).toNatClampNeg (some a)) : ∀ j, j < i + 1 → ∃ b, b ∈ a :: P ∧ ((va_up G a (k, r, n, t)) b).2.2.2 = t ∧ g2 j = some b := by
  intro j hj
  rw [nI_clamp hi] at eg
  subst eg
  by_cases hji : j = i
  · subst hji
    exact ⟨a, List.mem_cons_self, by rw [va_up_at], va_up_at _ _ _⟩
  · obtain ⟨b, h1, h2, h3⟩ := h j (by omega)
    have hba : b ≠ a := fun e => hna (e ▸ h1)
    exact ⟨b, List.mem_cons_of_mem _ h1, by rw [va_up_ne _ _ hba]; exact h2, by rw [va_up_ne _ _ hji]; exact h3⟩
theorem pool_congr {G G2 : pgG} {cI : ClassId} {S S2 : pgS} : ∀ {P : List Nat}, (∀ a ∈ P, G a = G2 a ∧ S a = S2 a) → pool G cI P S = pool G2 cI P S2 := by
  intro P
  induction P with
  | nil => intro _; rfl
  | cons a t ih =>
    intro h
    have e1 : pg3 G cI S a = pg3 G2 cI S2 a := by
      unfold pg3
      rw [(h a List.mem_cons_self).1, (h a List.mem_cons_self).2]
    show pg3 G cI S a ++ pool G cI t S = pg3 G2 cI S2 a ++ pool G2 cI t S2
    rw [e1, ih (fun b hb => h b (List.mem_cons_of_mem _ hb))]
theorem pool_add {A : Nat → Prop} {D : va_G} {cl : List vw_C} {X wr : va_W} {G : pgG} {cI : ClassId} {P : List Nat} {S : pgS} {H : Heap} {a k r n m : Nat} (t : Nat) {x : Int32} {f g : Nat → Int32} (hP : va_P D cl (X ++ pool G cI P S) H) (hD : va_D A (X ++ pool G cI P S)) (isR : List Nat) (i1 i2 i3 : Nat)
    (hR : (isR ++ [i1, i2, i3]).map (fun i => X[i]?) = (wr ++ ([(a, .inr (4, [.int x, .int (nI m), .ref k, .ref r])), (k, .inl (cI, n, .inl f)), (r, .inl (cI, n, .inl g))] : va_W)).map some) (hn : va_nd (isR ++ [i1, i2, i3]) = true) :
    a ∉ P ∧ va_P D cl (wr ++ pool (va_up G a (k, r, n, t)) cI (a :: P) (va_up S a (x, m, f, g))) H ∧ va_D A (wr ++ pool (va_up G a (k, r, n, t)) cI (a :: P) (va_up S a (x, m, f, g))) := by
  have h1 := hP.part _ hR
  have h2 := hD.part _ hn hR
  have hna : a ∉ P := fun h => vaD_app_ne h2 (p := (a, .inr (4, [.int x, .int (nI m), .ref k, .ref r]))) (List.mem_append_right _ List.mem_cons_self) (pool_mem.mpr ⟨a, h, List.mem_cons_self⟩) rfl
  have e : wr ++ pool (va_up G a (k, r, n, t)) cI (a :: P) (va_up S a (x, m, f, g)) = (wr ++ ([(a, .inr (4, [.int x, .int (nI m), .ref k, .ref r])), (k, .inl (cI, n, .inl f)), (r, .inl (cI, n, .inl g))] : va_W)) ++ pool G cI P S := by
    have e1 : pg3 (va_up G a (k, r, n, t)) cI (va_up S a (x, m, f, g)) a = [(a, .inr (4, [.int x, .int (nI m), .ref k, .ref r])), (k, .inl (cI, n, .inl f)), (r, .inl (cI, n, .inl g))] := by
      unfold pg3
      rw [va_up_at, va_up_at]
    have e2 : pool (va_up G a (k, r, n, t)) cI P (va_up S a (x, m, f, g)) = pool G cI P S := pool_congr (fun b hb => by
      have hba : b ≠ a := fun e => hna (e ▸ hb)
      exact ⟨va_up_ne _ _ hba, va_up_ne _ _ hba⟩)
    show wr ++ (pg3 _ cI _ a ++ pool _ cI P _) = _
    rw [e1, e2, List.append_assoc]
  rw [e]
  exact ⟨hna, h1, h2⟩
