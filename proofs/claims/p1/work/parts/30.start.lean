set_option maxHeartbeats 8000000 in
set_option maxRecDepth 100000 in
/-- THE LAW, from its entry -/
theorem whole_start {p : Program} {e : Env} {s : State} {m : MethodId} {below : List Frame} {meth : Method} {c : Code} (l : Launch) {b L : Nat} {xs : Nat → Int32} (hL : L ≤ 6) (C0 : lw_At p s m meth c b L xs) : W p l e room_1 s m #[Value.ref b] below meth c s.heap [] 0 0 (lw_Z below #[Value.ref b] s) (entryFrame m ([Value.ref b] : List Value).toArray 4) := by
  obtain ⟨hx, hb, hr, hml, hown, hts, hX, hbl, hlocks, hgv⟩ := id C0
  have hA : ∀ q : Nat, s.heap.size ≤ q → (fun q : Nat => s.heap.size ≤ q) q := fun _ h => h
  have hbA : ¬ (fun q : Nat => s.heap.size ≤ q) b := Nat.not_le.mpr hbl
  obtain ⟨cX0, iX0, hKnX0⟩ := u_known (C := RX0) (T := TX0) (N := 7) (n := 7) hts inT_X0 (hts _ law_is_X0)
  obtain ⟨cX1, iX1, hKnX1⟩ := u_known (C := RX1) (T := TX1) (N := 9) (n := 9) hts inT_X1 (hts _ law_is_X1)
  obtain ⟨cX2, iX2, hKnX2⟩ := u_known (C := RX2) (T := TX2) (N := 6) (n := 6) hts inT_X2 (hts _ law_is_X2)
  obtain ⟨cX3, iX3, hKnX3⟩ := u_known (C := RX3) (T := TX3) (N := 2) (n := 2) hts inT_X3 (hts _ law_is_X3)
  obtain ⟨cX4, iX4, hKnX4⟩ := u_known (C := RX4) (T := TX4) (N := 4) (n := 4) hts inT_X4 (hts _ law_is_X4)
  obtain ⟨cX5, iX5, hKnX5⟩ := u_known (C := RX5) (T := TX5) (N := 8) (n := 8) hts inT_X5 (hts _ law_is_X5)
  obtain ⟨cX6, iX6, hKnX6⟩ := u_known (C := RX6) (T := TX6) (N := 10) (n := 10) hts inT_X6 (hts _ law_is_X6)
  obtain ⟨cX7, iX7, hKnX7⟩ := u_known (C := RX7) (T := TX7) (N := 4) (n := 4) hts inT_X7 (hts _ law_is_X7)
  obtain ⟨cX8, iX8, hKnX8⟩ := u_known (C := RX8) (T := TX8) (N := 11) (n := 11) hts inT_X8 (hts _ law_is_X8)
  obtain ⟨cX9, iX9, hKnX9⟩ := u_known (C := RX9) (T := TX9) (N := 50) (n := 50) hts inT_X9 (hts _ law_is_X9)
  obtain ⟨dC, dI, hKc⟩ : ∃ (dC : Nat → ClassId) (dI : Nat → Nat → Nat), ∀ (k : Nat) (q : vw_C), vwCl[k]? = some q → u_Kn s q.1 q.2.1 q.2.2 (dC k) (dI k) := by
    refine ⟨fun k => if k = 0 then cX0 else if k = 1 then cX1 else if k = 2 then cX2 else if k = 3 then cX3 else if k = 4 then cX4 else if k = 5 then cX5 else if k = 6 then cX6 else if k = 7 then cX7 else if k = 8 then cX8 else cX9, fun k => if k = 0 then iX0 else if k = 1 then iX1 else if k = 2 then iX2 else if k = 3 then iX3 else if k = 4 then iX4 else if k = 5 then iX5 else if k = 6 then iX6 else if k = 7 then iX7 else if k = 8 then iX8 else iX9, ?_⟩
    intro k q hq
    match k, hq with
    | 0, hq => cases hq; exact hKnX0
    | 1, hq => cases hq; exact hKnX1
    | 2, hq => cases hq; exact hKnX2
    | 3, hq => cases hq; exact hKnX3
    | 4, hq => cases hq; exact hKnX4
    | 5, hq => cases hq; exact hKnX5
    | 6, hq => cases hq; exact hKnX6
    | 7, hq => cases hq; exact hKnX7
    | 8, hq => cases hq; exact hKnX8
    | 9, hq => cases hq; exact hKnX9
    | k + 10, hq => simp [vwCl] at hq
  have hAO : va_AO RX4 s := va_AO.of (hts _ law_ao)
  have hNw : va_Nw (.methodLinkNest RX8 66 yX7_init "TwinRoots") s := va_Nw.of rfl (hts _ law_nw)
  have hts : ∀ w ∈ v_law, w.before #[Value.ref b] s = true := fun w h => hts w (v_law_in w h)
  have hown : s.vm.findClass RL = some m.cls := hown
  have hS : va_S (fun q : Nat => s.heap.size ≤ q) s.heap s.heap [] := va_S.rf
  have hK : va_K (dC, dI) vwCl [] s := ⟨hKc, fun k q h => by simp at h⟩
  have hP : va_P (dC, dI) vwCl [] s.heap := fun k q h => by simp at h
  have hD : va_D (fun q : Nat => s.heap.size ≤ q) [] := ⟨fun i j p q h => by simp at h, fun k q h => by simp at h⟩
  have hl := lv_entry ([.ref b]) (n := 4) (Nat.le_of_ble_eq_true rfl)
  rw [lg_entry_eq]
  generalize (lg_sl ([.ref b]) ++ List.replicate (4 - (lg_sl ([.ref b])).length) Slot.unset).toArray = ls at hl ⊢
  have hl : lv_has ls 4 [(0, .ref b)] := hl
  have k_1 := inlw_X8
  have k_2 := hts (.classLink RL 7 RX8) (List.mem_of_getElem? (i := 0) rfl)
  have k_3 := hts (.instantiable RX8 11) (List.mem_of_getElem? (i := 1) rfl)
  have k_4 := hts (.initialized RX8) (List.mem_of_getElem? (i := 2) rfl)
  have k_5 := hts (.methodLink RL 15 yX8_init) (List.mem_of_getElem? (i := 119) rfl)
  have k_6 := hts (.instanceMethod yX8_init) (List.mem_of_getElem? (i := 120) rfl)
  have k_7 := inlw_X9
  have k_8 := hts (.classLink RL 18 RX9) (List.mem_of_getElem? (i := 121) rfl)
  have k_9 := hts (.instantiable RX9 50) (List.mem_of_getElem? (i := 122) rfl)
  have k_10 := hts (.initialized RX9) (List.mem_of_getElem? (i := 123) rfl)
  have k_11 := hts (.methodLink RL 20 yX9_init) (List.mem_of_getElem? (i := 162) rfl)
  have k_12 := hts (.instanceMethod yX9_init) (List.mem_of_getElem? (i := 163) rfl)
  refine va_new (ci := 8) (fs := [.null, .null, .null, .null, .null, .null, .null, .null, .int 0, .long 0, .int 0]) (C := RX8) (T := TX8) (N := 11) hx hb hts k_1 tyX8 tyX8_ok hown k_2 k_3 k_4 hK hP hD hS hA rfl (fun j hj => by rcases (show j = 0 ∨ j = 1 ∨ j = 2 ∨ j = 3 ∨ j = 4 ∨ j = 5 ∨ j = 6 ∨ j = 7 ∨ j = 8 ∨ j = 9 ∨ j = 10 by omega) with rfl | rfl | rfl | rfl | rfl | rfl | rfl | rfl | rfl | rfl | rfl <;> rfl) (show 0 + 1 ≤ 600000 by omega) (show 0 + 11 ≤ 7302250 by omega) dL_law_0 (fun hC H hP hD hS => ?_)
  have hP : va_P (dC, dI) vwCl [(hC, .inr (8, [.null, .null, .null, .null, .null, .null, .null, .null, .int 0, .long 0, .int 0]))] H := hP
  have hD : va_D (fun q : Nat => s.heap.size ≤ q) [(hC, .inr (8, [.null, .null, .null, .null, .null, .null, .null, .null, .int 0, .long 0, .int 0]))] := hD
  refine W.widen (k := 1) (n := 11) (by omega) (by omega) ?_
  refine lv_dup hx hb dL_law_3 rfl ?_
  refine lv_aload_n hx hb dL_law_4 rfl (lv_at hl 0 rfl) ?_
  refine lv_iconst (v := 0) hx hb dL_law_5 (by decide) ?_
  have hPc := hP.sub (ws' := []) [] rfl
  have hDc := hD.sub (ws' := []) [] (by decide) rfl
  have hKc := hK.sub (tys' := []) [] rfl
  have hFc := va_free (wc := []) hD hS hA [] rfl
  refine va_calli (va_runS (As := [.ref b, .int 0]) (rest := [.ref hC, .ref hC]) ⟨hx, hb, hml, hown, hts⟩ (c_L_cell l dC dI H.size b L xs 0 (by first | assumption | omega | decide) (by first | assumption | omega | decide)) (va_cwS 2 hts g_law_L_cell rfl rfl rfl (by decide +kernel) ⟨Nat.le_of_ble_eq_true rfl, Nat.le_of_ble_eq_true rfl⟩) ⟨fun a U g mk q => by obtain ⟨q0, q1, qP, qK, qD, qX0⟩ := q; exact ⟨q0, q1, qP, va_K.moved (u := U) (U := U.calling g mk a) (Vm.Alike.refl U.vm) qK, qD, va_X.moved (u := U) (U := U.calling g mk a) (Vm.Alike.refl U.vm) qX0⟩, fun U hU hW => ⟨rfl, by rw [hU], by rw [hU]; exact hPc, va_K.moved hW.alike hKc, hDc.weaken (fun _ _ _ _ => trivial), (by rw [hU]; exact (va_X.kept hX (hS.2.1 b hbl hbA)).moved hW.alike)⟩⟩ rfl rfl hl.1 rfl (lv_room (Nat.le_of_ble_eq_true rfl)) dL_law_6 ⟨(show 1 + 0 ≤ 600000 by omega), (show 11 + 0 ≤ 7302250 by omega)⟩) hS (fun q _ h => hFc q h) hFc (fun r_1 u t H1 locs ht hvm hw hB hz1 hk1 hS => ?_)
  obtain ⟨hP1, hK1, hD1⟩ := hB
  rw [ht] at hP1
  have hK1 := va_K.moved hvm.symm hK1
  try dsimp only at hw
  obtain ⟨hP, hD⟩ := va_join (wr := [(hC, .inr (8, [.null, .null, .null, .null, .null, .null, .null, .null, .int 0, .long 0, .int 0]))]) (w1 := []) hP hD [] [0] rfl rfl (by decide) (by decide) hk1 hFc hP1 hD1
  have hK := (hK.sub (tys' := []) [] rfl).app hK1
  generalize H1 = H at hP hS ⊢
  have hP : va_P (dC, dI) vwCl [(hC, .inr (8, [.null, .null, .null, .null, .null, .null, .null, .null, .int 0, .long 0, .int 0]))] H := hP
  have hD : va_D (fun q : Nat => s.heap.size ≤ q) [(hC, .inr (8, [.null, .null, .null, .null, .null, .null, .null, .null, .int 0, .long 0, .int 0]))] := hD
  have hK : va_K (dC, dI) vwCl [] s := hK
  obtain rfl : r_1 = celF L xs 0 := hw
  refine lv_aload_n hx hb dL_law_9 rfl (lv_at hl 0 rfl) ?_
  refine lv_iconst (v := 1) hx hb dL_law_10 (by decide) ?_
  have hPc := hP.sub (ws' := []) [] rfl
  have hDc := hD.sub (ws' := []) [] (by decide) rfl
  have hKc := hK.sub (tys' := []) [] rfl
  have hFc := va_free (wc := []) hD hS hA [] rfl
  refine va_calli (va_runS (As := [.ref b, .int 1]) (rest := [.int (celF L xs 0), .ref hC, .ref hC]) ⟨hx, hb, hml, hown, hts⟩ (c_L_cell l dC dI H.size b L xs 1 (by first | assumption | omega | decide) (by first | assumption | omega | decide)) (va_cwS 2 hts g_law_L_cell rfl rfl rfl (by decide +kernel) ⟨Nat.le_of_ble_eq_true rfl, Nat.le_of_ble_eq_true rfl⟩) ⟨fun a U g mk q => by obtain ⟨q0, q1, qP, qK, qD, qX0⟩ := q; exact ⟨q0, q1, qP, va_K.moved (u := U) (U := U.calling g mk a) (Vm.Alike.refl U.vm) qK, qD, va_X.moved (u := U) (U := U.calling g mk a) (Vm.Alike.refl U.vm) qX0⟩, fun U hU hW => ⟨rfl, by rw [hU], by rw [hU]; exact hPc, va_K.moved hW.alike hKc, hDc.weaken (fun _ _ _ _ => trivial), (by rw [hU]; exact (va_X.kept hX (hS.2.1 b hbl hbA)).moved hW.alike)⟩⟩ rfl rfl hl.1 rfl (lv_room (Nat.le_of_ble_eq_true rfl)) dL_law_11 ⟨(show 1 + 0 ≤ 600000 by omega), (show 11 + 0 ≤ 7302250 by omega)⟩) hS (fun q _ h => hFc q h) hFc (fun r_2 u t H1 locs ht hvm hw hB hz1 hk1 hS => ?_)
  obtain ⟨hP1, hK1, hD1⟩ := hB
  rw [ht] at hP1
  have hK1 := va_K.moved hvm.symm hK1
  try dsimp only at hw
  obtain ⟨hP, hD⟩ := va_join (wr := [(hC, .inr (8, [.null, .null, .null, .null, .null, .null, .null, .null, .int 0, .long 0, .int 0]))]) (w1 := []) hP hD [] [0] rfl rfl (by decide) (by decide) hk1 hFc hP1 hD1
  have hK := (hK.sub (tys' := []) [] rfl).app hK1
  generalize H1 = H at hP hS ⊢
  have hP : va_P (dC, dI) vwCl [(hC, .inr (8, [.null, .null, .null, .null, .null, .null, .null, .null, .int 0, .long 0, .int 0]))] H := hP
  have hD : va_D (fun q : Nat => s.heap.size ≤ q) [(hC, .inr (8, [.null, .null, .null, .null, .null, .null, .null, .null, .int 0, .long 0, .int 0]))] := hD
  have hK : va_K (dC, dI) vwCl [] s := hK
  obtain rfl : r_2 = celF L xs 1 := hw
  have hPc := hP.sub (ws' := [(hC, .inr (8, [.null, .null, .null, .null, .null, .null, .null, .null, .int 0, .long 0, .int 0]))]) [0] rfl
  have hDc := hD.sub (ws' := [(hC, .inr (8, [.null, .null, .null, .null, .null, .null, .null, .null, .int 0, .long 0, .int 0]))]) [0] (by decide) rfl
  have hKc := hK.sub (tys' := []) [] rfl
  have hFc := va_free (wc := [(hC, .inr (8, [.null, .null, .null, .null, .null, .null, .null, .null, .int 0, .long 0, .int 0]))]) hD hS hA [0] rfl
  refine va_callv (va_runI (As := [.int (celF L xs 0), .int (celF L xs 1)]) (rest := [.ref hC]) ⟨hx, hb, hml, hown, hts⟩ (c_X8_init l dC dI H.size hC (celF L xs 0) (celF L xs 1)) (cwI 2 hts g_law_X8_init rfl rfl rfl k_4 k_5 k_6 rfl (by decide +kernel) ⟨Nat.le_of_ble_eq_true rfl, Nat.le_of_ble_eq_true rfl⟩) ⟨fun a U g mk q => by obtain ⟨q0, q1, qP, qK, qD, qX0, qX1⟩ := q; exact ⟨q0, q1, qP, va_K.moved (u := U) (U := U.calling g mk a) (Vm.Alike.refl U.vm) qK, qD, va_AO.moved (u := U) (U := U.calling g mk a) (Vm.Alike.refl U.vm) qX0, va_Nw.same (u := U) (U := U.calling g mk a) rfl rfl qX1⟩, fun U hU hW => ⟨rfl, by rw [hU], by rw [hU]; exact hPc, va_K.moved hW.alike hKc, hDc.weaken (fun _ _ _ _ => trivial), va_AO.moved hW.alike hAO, va_Nw.warmM hW hNw⟩⟩ rfl rfl hl.1 rfl (lv_room (Nat.le_of_ble_eq_true rfl)) dL_law_14 ⟨(show 1 + 302 ≤ 600000 by omega), (show 11 + 10944 ≤ 7302250 by omega)⟩) hS (fun q _ h => hFc q h) hFc (fun u t H1 locs ht hvm hw hB hz1 hk1 hS => ?_)
  obtain ⟨qd_4, qf_5, qs_6, qp_7, qe_8, q0_9, q1_10, qk_11, qc_12, qi_13, hm_14, l1_15, l2_16, l3_17, cC_18, cI_19⟩ := u
  obtain ⟨hP1, hK1, hD1⟩ := hB
  rw [ht] at hP1
  have hK1 := va_K.moved hvm.symm hK1
  try dsimp only at hw
  obtain ⟨hP, hD⟩ := va_join (wr := []) (w1 := [(hC, .inr (8, [.ref qd_4, .ref qf_5, .ref qs_6, .ref qp_7, .ref qe_8, .ref q0_9, .ref q1_10, .ref qk_11, .int 0, .long 0, .int 1])), (qd_4, .inr (0, [.int (nI (nW (celF L xs 0))), .int (nI (nB (celF L xs 1))), .int 0, .ref qc_12, .ref qi_13, .int (-1), .int 0])), (qc_12, .inl (cC_18, (nW (celF L xs 0)) * (nB (celF L xs 1)), .inl (fun _ => 0))), (qi_13, .inl (cI_19, nW (celF L xs 0), .inl (fun _ => 0))), (qs_6, .inr (6, [.ref qd_4, .ref qf_5, .ref hm_14, .ref l1_15, .ref l2_16, .ref l3_17, .int 0, .long 0, .int 0, .long 0])), (q0_9, .inr (7, [.int 0, .int 0, .int 0, .long 0])), (q1_10, .inr (7, [.int 0, .int 0, .int 0, .long 0])), (qk_11, .inr (7, [.int 0, .int 0, .int 0, .long 0]))]) hP hD [0] [] rfl rfl (by decide) (by decide) hk1 hFc hP1 hD1
  have hK := (hK.sub (tys' := []) [] rfl).app hK1
  generalize H1 = H at hP hS ⊢
  have hP : va_P (dC, dI) vwCl [(hC, .inr (8, [.ref qd_4, .ref qf_5, .ref qs_6, .ref qp_7, .ref qe_8, .ref q0_9, .ref q1_10, .ref qk_11, .int 0, .long 0, .int 1])), (qd_4, .inr (0, [.int (nI (nW (celF L xs 0))), .int (nI (nB (celF L xs 1))), .int 0, .ref qc_12, .ref qi_13, .int (-1), .int 0])), (qc_12, .inl (cC_18, (nW (celF L xs 0)) * (nB (celF L xs 1)), .inl (fun _ => 0))), (qi_13, .inl (cI_19, nW (celF L xs 0), .inl (fun _ => 0))), (qs_6, .inr (6, [.ref qd_4, .ref qf_5, .ref hm_14, .ref l1_15, .ref l2_16, .ref l3_17, .int 0, .long 0, .int 0, .long 0])), (q0_9, .inr (7, [.int 0, .int 0, .int 0, .long 0])), (q1_10, .inr (7, [.int 0, .int 0, .int 0, .long 0])), (qk_11, .inr (7, [.int 0, .int 0, .int 0, .long 0]))] H := hP
  have hD : va_D (fun q : Nat => s.heap.size ≤ q) [(hC, .inr (8, [.ref qd_4, .ref qf_5, .ref qs_6, .ref qp_7, .ref qe_8, .ref q0_9, .ref q1_10, .ref qk_11, .int 0, .long 0, .int 1])), (qd_4, .inr (0, [.int (nI (nW (celF L xs 0))), .int (nI (nB (celF L xs 1))), .int 0, .ref qc_12, .ref qi_13, .int (-1), .int 0])), (qc_12, .inl (cC_18, (nW (celF L xs 0)) * (nB (celF L xs 1)), .inl (fun _ => 0))), (qi_13, .inl (cI_19, nW (celF L xs 0), .inl (fun _ => 0))), (qs_6, .inr (6, [.ref qd_4, .ref qf_5, .ref hm_14, .ref l1_15, .ref l2_16, .ref l3_17, .int 0, .long 0, .int 0, .long 0])), (q0_9, .inr (7, [.int 0, .int 0, .int 0, .long 0])), (q1_10, .inr (7, [.int 0, .int 0, .int 0, .long 0])), (qk_11, .inr (7, [.int 0, .int 0, .int 0, .long 0]))] := hD
  have hK : va_K (dC, dI) vwCl [(cC_18, .int), (cI_19, .int)] s := hK
  refine W.widen (k := 303) (n := 10955) (by omega) (by omega) ?_
  refine lv_astore_n (lv' := [(1, .ref hC), (0, .ref b)]) hx hb dL_law_17 rfl hl (by decide) rfl (fun ls hl => ?_)
  refine va_new (ci := 9) (fs := [.int 0, .int 0, .int 0, .int 0, .int 0, .int 0, .null, .int 0, .int 0, .int 0, .int 0, .int 0, .null, .null, .null, .null, .null, .null, .null, .null, .null, .null, .null, .null, .int 0, .int 0, .int 0, .int 0, .null, .null, .null, .null, .null, .int 0, .int 0, .null, .null, .int 0, .null, .null, .int 0, .null, .int 0, .int 0, .null, .null, .int 0, .int 0, .int 0, .int 0]) (C := RX9) (T := TX9) (N := 50) hx hb hts k_7 tyX9 tyX9_ok hown k_8 k_9 k_10 hK hP hD hS hA rfl (fun j hj => by rcases (show j = 0 ∨ j = 1 ∨ j = 2 ∨ j = 3 ∨ j = 4 ∨ j = 5 ∨ j = 6 ∨ j = 7 ∨ j = 8 ∨ j = 9 ∨ j = 10 ∨ j = 11 ∨ j = 12 ∨ j = 13 ∨ j = 14 ∨ j = 15 ∨ j = 16 ∨ j = 17 ∨ j = 18 ∨ j = 19 ∨ j = 20 ∨ j = 21 ∨ j = 22 ∨ j = 23 ∨ j = 24 ∨ j = 25 ∨ j = 26 ∨ j = 27 ∨ j = 28 ∨ j = 29 ∨ j = 30 ∨ j = 31 ∨ j = 32 ∨ j = 33 ∨ j = 34 ∨ j = 35 ∨ j = 36 ∨ j = 37 ∨ j = 38 ∨ j = 39 ∨ j = 40 ∨ j = 41 ∨ j = 42 ∨ j = 43 ∨ j = 44 ∨ j = 45 ∨ j = 46 ∨ j = 47 ∨ j = 48 ∨ j = 49 by omega) with rfl | rfl | rfl | rfl | rfl | rfl | rfl | rfl | rfl | rfl | rfl | rfl | rfl | rfl | rfl | rfl | rfl | rfl | rfl | rfl | rfl | rfl | rfl | rfl | rfl | rfl | rfl | rfl | rfl | rfl | rfl | rfl | rfl | rfl | rfl | rfl | rfl | rfl | rfl | rfl | rfl | rfl | rfl | rfl | rfl | rfl | rfl | rfl | rfl | rfl <;> rfl) (show 303 + 1 ≤ 600000 by omega) (show 10955 + 50 ≤ 7302250 by omega) dL_law_18 (fun hM H hP hD hS => ?_)
  have hP : va_P (dC, dI) vwCl [(hC, .inr (8, [.ref qd_4, .ref qf_5, .ref qs_6, .ref qp_7, .ref qe_8, .ref q0_9, .ref q1_10, .ref qk_11, .int 0, .long 0, .int 1])), (qd_4, .inr (0, [.int (nI (nW (celF L xs 0))), .int (nI (nB (celF L xs 1))), .int 0, .ref qc_12, .ref qi_13, .int (-1), .int 0])), (qc_12, .inl (cC_18, (nW (celF L xs 0)) * (nB (celF L xs 1)), .inl (fun _ => 0))), (qi_13, .inl (cI_19, nW (celF L xs 0), .inl (fun _ => 0))), (qs_6, .inr (6, [.ref qd_4, .ref qf_5, .ref hm_14, .ref l1_15, .ref l2_16, .ref l3_17, .int 0, .long 0, .int 0, .long 0])), (q0_9, .inr (7, [.int 0, .int 0, .int 0, .long 0])), (q1_10, .inr (7, [.int 0, .int 0, .int 0, .long 0])), (qk_11, .inr (7, [.int 0, .int 0, .int 0, .long 0])), (hM, .inr (9, [.int 0, .int 0, .int 0, .int 0, .int 0, .int 0, .null, .int 0, .int 0, .int 0, .int 0, .int 0, .null, .null, .null, .null, .null, .null, .null, .null, .null, .null, .null, .null, .int 0, .int 0, .int 0, .int 0, .null, .null, .null, .null, .null, .int 0, .int 0, .null, .null, .int 0, .null, .null, .int 0, .null, .int 0, .int 0, .null, .null, .int 0, .int 0, .int 0, .int 0]))] H := hP
  have hD : va_D (fun q : Nat => s.heap.size ≤ q) [(hC, .inr (8, [.ref qd_4, .ref qf_5, .ref qs_6, .ref qp_7, .ref qe_8, .ref q0_9, .ref q1_10, .ref qk_11, .int 0, .long 0, .int 1])), (qd_4, .inr (0, [.int (nI (nW (celF L xs 0))), .int (nI (nB (celF L xs 1))), .int 0, .ref qc_12, .ref qi_13, .int (-1), .int 0])), (qc_12, .inl (cC_18, (nW (celF L xs 0)) * (nB (celF L xs 1)), .inl (fun _ => 0))), (qi_13, .inl (cI_19, nW (celF L xs 0), .inl (fun _ => 0))), (qs_6, .inr (6, [.ref qd_4, .ref qf_5, .ref hm_14, .ref l1_15, .ref l2_16, .ref l3_17, .int 0, .long 0, .int 0, .long 0])), (q0_9, .inr (7, [.int 0, .int 0, .int 0, .long 0])), (q1_10, .inr (7, [.int 0, .int 0, .int 0, .long 0])), (qk_11, .inr (7, [.int 0, .int 0, .int 0, .long 0])), (hM, .inr (9, [.int 0, .int 0, .int 0, .int 0, .int 0, .int 0, .null, .int 0, .int 0, .int 0, .int 0, .int 0, .null, .null, .null, .null, .null, .null, .null, .null, .null, .null, .null, .null, .int 0, .int 0, .int 0, .int 0, .null, .null, .null, .null, .null, .int 0, .int 0, .null, .null, .int 0, .null, .null, .int 0, .null, .int 0, .int 0, .null, .null, .int 0, .int 0, .int 0, .int 0]))] := hD
  refine W.widen (k := 304) (n := 11005) (by omega) (by omega) ?_
  refine lv_dup hx hb dL_law_21 rfl ?_
  refine lv_aload_n hx hb dL_law_22 rfl (lv_at hl 1 rfl) ?_
  refine lv_iconst (v := 0) hx hb dL_law_23 (by decide) ?_
  have hPc := hP.sub (ws' := []) [] rfl
  have hDc := hD.sub (ws' := []) [] (by decide) rfl
  have hKc := hK.sub (tys' := []) [] rfl
  have hFc := va_free (wc := []) hD hS hA [] rfl
  refine va_calli (va_runS (As := [.ref b, .int 0]) (rest := [.ref hM, .ref hM]) ⟨hx, hb, hml, hown, hts⟩ (c_L_cell l dC dI H.size b L xs 0 (by first | assumption | omega | decide) (by first | assumption | omega | decide)) (va_cwS 2 hts g_law_L_cell rfl rfl rfl (by decide +kernel) ⟨Nat.le_of_ble_eq_true rfl, Nat.le_of_ble_eq_true rfl⟩) ⟨fun a U g mk q => by obtain ⟨q0, q1, qP, qK, qD, qX0⟩ := q; exact ⟨q0, q1, qP, va_K.moved (u := U) (U := U.calling g mk a) (Vm.Alike.refl U.vm) qK, qD, va_X.moved (u := U) (U := U.calling g mk a) (Vm.Alike.refl U.vm) qX0⟩, fun U hU hW => ⟨rfl, by rw [hU], by rw [hU]; exact hPc, va_K.moved hW.alike hKc, hDc.weaken (fun _ _ _ _ => trivial), (by rw [hU]; exact (va_X.kept hX (hS.2.1 b hbl hbA)).moved hW.alike)⟩⟩ rfl rfl hl.1 rfl (lv_room (Nat.le_of_ble_eq_true rfl)) dL_law_24 ⟨(show 304 + 0 ≤ 600000 by omega), (show 11005 + 0 ≤ 7302250 by omega)⟩) hS (fun q _ h => hFc q h) hFc (fun r_20 u t H1 locs ht hvm hw hB hz1 hk1 hS => ?_)
  obtain ⟨hP1, hK1, hD1⟩ := hB
  rw [ht] at hP1
  have hK1 := va_K.moved hvm.symm hK1
  try dsimp only at hw
  obtain ⟨hP, hD⟩ := va_join (wr := [(hC, .inr (8, [.ref qd_4, .ref qf_5, .ref qs_6, .ref qp_7, .ref qe_8, .ref q0_9, .ref q1_10, .ref qk_11, .int 0, .long 0, .int 1])), (qd_4, .inr (0, [.int (nI (nW (celF L xs 0))), .int (nI (nB (celF L xs 1))), .int 0, .ref qc_12, .ref qi_13, .int (-1), .int 0])), (qc_12, .inl (cC_18, (nW (celF L xs 0)) * (nB (celF L xs 1)), .inl (fun _ => 0))), (qi_13, .inl (cI_19, nW (celF L xs 0), .inl (fun _ => 0))), (qs_6, .inr (6, [.ref qd_4, .ref qf_5, .ref hm_14, .ref l1_15, .ref l2_16, .ref l3_17, .int 0, .long 0, .int 0, .long 0])), (q0_9, .inr (7, [.int 0, .int 0, .int 0, .long 0])), (q1_10, .inr (7, [.int 0, .int 0, .int 0, .long 0])), (qk_11, .inr (7, [.int 0, .int 0, .int 0, .long 0])), (hM, .inr (9, [.int 0, .int 0, .int 0, .int 0, .int 0, .int 0, .null, .int 0, .int 0, .int 0, .int 0, .int 0, .null, .null, .null, .null, .null, .null, .null, .null, .null, .null, .null, .null, .int 0, .int 0, .int 0, .int 0, .null, .null, .null, .null, .null, .int 0, .int 0, .null, .null, .int 0, .null, .null, .int 0, .null, .int 0, .int 0, .null, .null, .int 0, .int 0, .int 0, .int 0]))]) (w1 := []) hP hD [] [0, 1, 2, 3, 4, 5, 6, 7, 8] rfl rfl (by decide) (by decide) hk1 hFc hP1 hD1
  have hK := (hK.sub (tys' := [(cC_18, .int), (cI_19, .int)]) [0, 1] rfl).app hK1
  generalize H1 = H at hP hS ⊢
  have hP : va_P (dC, dI) vwCl [(hC, .inr (8, [.ref qd_4, .ref qf_5, .ref qs_6, .ref qp_7, .ref qe_8, .ref q0_9, .ref q1_10, .ref qk_11, .int 0, .long 0, .int 1])), (qd_4, .inr (0, [.int (nI (nW (celF L xs 0))), .int (nI (nB (celF L xs 1))), .int 0, .ref qc_12, .ref qi_13, .int (-1), .int 0])), (qc_12, .inl (cC_18, (nW (celF L xs 0)) * (nB (celF L xs 1)), .inl (fun _ => 0))), (qi_13, .inl (cI_19, nW (celF L xs 0), .inl (fun _ => 0))), (qs_6, .inr (6, [.ref qd_4, .ref qf_5, .ref hm_14, .ref l1_15, .ref l2_16, .ref l3_17, .int 0, .long 0, .int 0, .long 0])), (q0_9, .inr (7, [.int 0, .int 0, .int 0, .long 0])), (q1_10, .inr (7, [.int 0, .int 0, .int 0, .long 0])), (qk_11, .inr (7, [.int 0, .int 0, .int 0, .long 0])), (hM, .inr (9, [.int 0, .int 0, .int 0, .int 0, .int 0, .int 0, .null, .int 0, .int 0, .int 0, .int 0, .int 0, .null, .null, .null, .null, .null, .null, .null, .null, .null, .null, .null, .null, .int 0, .int 0, .int 0, .int 0, .null, .null, .null, .null, .null, .int 0, .int 0, .null, .null, .int 0, .null, .null, .int 0, .null, .int 0, .int 0, .null, .null, .int 0, .int 0, .int 0, .int 0]))] H := hP
  have hD : va_D (fun q : Nat => s.heap.size ≤ q) [(hC, .inr (8, [.ref qd_4, .ref qf_5, .ref qs_6, .ref qp_7, .ref qe_8, .ref q0_9, .ref q1_10, .ref qk_11, .int 0, .long 0, .int 1])), (qd_4, .inr (0, [.int (nI (nW (celF L xs 0))), .int (nI (nB (celF L xs 1))), .int 0, .ref qc_12, .ref qi_13, .int (-1), .int 0])), (qc_12, .inl (cC_18, (nW (celF L xs 0)) * (nB (celF L xs 1)), .inl (fun _ => 0))), (qi_13, .inl (cI_19, nW (celF L xs 0), .inl (fun _ => 0))), (qs_6, .inr (6, [.ref qd_4, .ref qf_5, .ref hm_14, .ref l1_15, .ref l2_16, .ref l3_17, .int 0, .long 0, .int 0, .long 0])), (q0_9, .inr (7, [.int 0, .int 0, .int 0, .long 0])), (q1_10, .inr (7, [.int 0, .int 0, .int 0, .long 0])), (qk_11, .inr (7, [.int 0, .int 0, .int 0, .long 0])), (hM, .inr (9, [.int 0, .int 0, .int 0, .int 0, .int 0, .int 0, .null, .int 0, .int 0, .int 0, .int 0, .int 0, .null, .null, .null, .null, .null, .null, .null, .null, .null, .null, .null, .null, .int 0, .int 0, .int 0, .int 0, .null, .null, .null, .null, .null, .int 0, .int 0, .null, .null, .int 0, .null, .null, .int 0, .null, .int 0, .int 0, .null, .null, .int 0, .int 0, .int 0, .int 0]))] := hD
  have hK : va_K (dC, dI) vwCl [(cC_18, .int), (cI_19, .int)] s := hK
  obtain rfl : r_20 = celF L xs 0 := hw
  refine lv_aload_n hx hb dL_law_27 rfl (lv_at hl 1 rfl) ?_
  refine lv_iconst (v := 1) hx hb dL_law_28 (by decide) ?_
  have hPc := hP.sub (ws' := []) [] rfl
  have hDc := hD.sub (ws' := []) [] (by decide) rfl
  have hKc := hK.sub (tys' := []) [] rfl
  have hFc := va_free (wc := []) hD hS hA [] rfl
  refine va_calli (va_runS (As := [.ref b, .int 1]) (rest := [.int (celF L xs 0), .ref hM, .ref hM]) ⟨hx, hb, hml, hown, hts⟩ (c_L_cell l dC dI H.size b L xs 1 (by first | assumption | omega | decide) (by first | assumption | omega | decide)) (va_cwS 2 hts g_law_L_cell rfl rfl rfl (by decide +kernel) ⟨Nat.le_of_ble_eq_true rfl, Nat.le_of_ble_eq_true rfl⟩) ⟨fun a U g mk q => by obtain ⟨q0, q1, qP, qK, qD, qX0⟩ := q; exact ⟨q0, q1, qP, va_K.moved (u := U) (U := U.calling g mk a) (Vm.Alike.refl U.vm) qK, qD, va_X.moved (u := U) (U := U.calling g mk a) (Vm.Alike.refl U.vm) qX0⟩, fun U hU hW => ⟨rfl, by rw [hU], by rw [hU]; exact hPc, va_K.moved hW.alike hKc, hDc.weaken (fun _ _ _ _ => trivial), (by rw [hU]; exact (va_X.kept hX (hS.2.1 b hbl hbA)).moved hW.alike)⟩⟩ rfl rfl hl.1 rfl (lv_room (Nat.le_of_ble_eq_true rfl)) dL_law_29 ⟨(show 304 + 0 ≤ 600000 by omega), (show 11005 + 0 ≤ 7302250 by omega)⟩) hS (fun q _ h => hFc q h) hFc (fun r_21 u t H1 locs ht hvm hw hB hz1 hk1 hS => ?_)
  obtain ⟨hP1, hK1, hD1⟩ := hB
  rw [ht] at hP1
  have hK1 := va_K.moved hvm.symm hK1
  try dsimp only at hw
  obtain ⟨hP, hD⟩ := va_join (wr := [(hC, .inr (8, [.ref qd_4, .ref qf_5, .ref qs_6, .ref qp_7, .ref qe_8, .ref q0_9, .ref q1_10, .ref qk_11, .int 0, .long 0, .int 1])), (qd_4, .inr (0, [.int (nI (nW (celF L xs 0))), .int (nI (nB (celF L xs 1))), .int 0, .ref qc_12, .ref qi_13, .int (-1), .int 0])), (qc_12, .inl (cC_18, (nW (celF L xs 0)) * (nB (celF L xs 1)), .inl (fun _ => 0))), (qi_13, .inl (cI_19, nW (celF L xs 0), .inl (fun _ => 0))), (qs_6, .inr (6, [.ref qd_4, .ref qf_5, .ref hm_14, .ref l1_15, .ref l2_16, .ref l3_17, .int 0, .long 0, .int 0, .long 0])), (q0_9, .inr (7, [.int 0, .int 0, .int 0, .long 0])), (q1_10, .inr (7, [.int 0, .int 0, .int 0, .long 0])), (qk_11, .inr (7, [.int 0, .int 0, .int 0, .long 0])), (hM, .inr (9, [.int 0, .int 0, .int 0, .int 0, .int 0, .int 0, .null, .int 0, .int 0, .int 0, .int 0, .int 0, .null, .null, .null, .null, .null, .null, .null, .null, .null, .null, .null, .null, .int 0, .int 0, .int 0, .int 0, .null, .null, .null, .null, .null, .int 0, .int 0, .null, .null, .int 0, .null, .null, .int 0, .null, .int 0, .int 0, .null, .null, .int 0, .int 0, .int 0, .int 0]))]) (w1 := []) hP hD [] [0, 1, 2, 3, 4, 5, 6, 7, 8] rfl rfl (by decide) (by decide) hk1 hFc hP1 hD1
  have hK := (hK.sub (tys' := [(cC_18, .int), (cI_19, .int)]) [0, 1] rfl).app hK1
  generalize H1 = H at hP hS ⊢
  have hP : va_P (dC, dI) vwCl [(hC, .inr (8, [.ref qd_4, .ref qf_5, .ref qs_6, .ref qp_7, .ref qe_8, .ref q0_9, .ref q1_10, .ref qk_11, .int 0, .long 0, .int 1])), (qd_4, .inr (0, [.int (nI (nW (celF L xs 0))), .int (nI (nB (celF L xs 1))), .int 0, .ref qc_12, .ref qi_13, .int (-1), .int 0])), (qc_12, .inl (cC_18, (nW (celF L xs 0)) * (nB (celF L xs 1)), .inl (fun _ => 0))), (qi_13, .inl (cI_19, nW (celF L xs 0), .inl (fun _ => 0))), (qs_6, .inr (6, [.ref qd_4, .ref qf_5, .ref hm_14, .ref l1_15, .ref l2_16, .ref l3_17, .int 0, .long 0, .int 0, .long 0])), (q0_9, .inr (7, [.int 0, .int 0, .int 0, .long 0])), (q1_10, .inr (7, [.int 0, .int 0, .int 0, .long 0])), (qk_11, .inr (7, [.int 0, .int 0, .int 0, .long 0])), (hM, .inr (9, [.int 0, .int 0, .int 0, .int 0, .int 0, .int 0, .null, .int 0, .int 0, .int 0, .int 0, .int 0, .null, .null, .null, .null, .null, .null, .null, .null, .null, .null, .null, .null, .int 0, .int 0, .int 0, .int 0, .null, .null, .null, .null, .null, .int 0, .int 0, .null, .null, .int 0, .null, .null, .int 0, .null, .int 0, .int 0, .null, .null, .int 0, .int 0, .int 0, .int 0]))] H := hP
  have hD : va_D (fun q : Nat => s.heap.size ≤ q) [(hC, .inr (8, [.ref qd_4, .ref qf_5, .ref qs_6, .ref qp_7, .ref qe_8, .ref q0_9, .ref q1_10, .ref qk_11, .int 0, .long 0, .int 1])), (qd_4, .inr (0, [.int (nI (nW (celF L xs 0))), .int (nI (nB (celF L xs 1))), .int 0, .ref qc_12, .ref qi_13, .int (-1), .int 0])), (qc_12, .inl (cC_18, (nW (celF L xs 0)) * (nB (celF L xs 1)), .inl (fun _ => 0))), (qi_13, .inl (cI_19, nW (celF L xs 0), .inl (fun _ => 0))), (qs_6, .inr (6, [.ref qd_4, .ref qf_5, .ref hm_14, .ref l1_15, .ref l2_16, .ref l3_17, .int 0, .long 0, .int 0, .long 0])), (q0_9, .inr (7, [.int 0, .int 0, .int 0, .long 0])), (q1_10, .inr (7, [.int 0, .int 0, .int 0, .long 0])), (qk_11, .inr (7, [.int 0, .int 0, .int 0, .long 0])), (hM, .inr (9, [.int 0, .int 0, .int 0, .int 0, .int 0, .int 0, .null, .int 0, .int 0, .int 0, .int 0, .int 0, .null, .null, .null, .null, .null, .null, .null, .null, .null, .null, .null, .null, .int 0, .int 0, .int 0, .int 0, .null, .null, .null, .null, .null, .int 0, .int 0, .null, .null, .int 0, .null, .null, .int 0, .null, .int 0, .int 0, .null, .null, .int 0, .int 0, .int 0, .int 0]))] := hD
  have hK : va_K (dC, dI) vwCl [(cC_18, .int), (cI_19, .int)] s := hK
  obtain rfl : r_21 = celF L xs 1 := hw
  have hPc := hP.sub (ws' := [(hM, .inr (9, [.int 0, .int 0, .int 0, .int 0, .int 0, .int 0, .null, .int 0, .int 0, .int 0, .int 0, .int 0, .null, .null, .null, .null, .null, .null, .null, .null, .null, .null, .null, .null, .int 0, .int 0, .int 0, .int 0, .null, .null, .null, .null, .null, .int 0, .int 0, .null, .null, .int 0, .null, .null, .int 0, .null, .int 0, .int 0, .null, .null, .int 0, .int 0, .int 0, .int 0]))]) [8] rfl
  have hDc := hD.sub (ws' := [(hM, .inr (9, [.int 0, .int 0, .int 0, .int 0, .int 0, .int 0, .null, .int 0, .int 0, .int 0, .int 0, .int 0, .null, .null, .null, .null, .null, .null, .null, .null, .null, .null, .null, .null, .int 0, .int 0, .int 0, .int 0, .null, .null, .null, .null, .null, .int 0, .int 0, .null, .null, .int 0, .null, .null, .int 0, .null, .int 0, .int 0, .null, .null, .int 0, .int 0, .int 0, .int 0]))]) [8] (by decide) rfl
  have hKc := hK.sub (tys' := []) [] rfl
  have hFc := va_free (wc := [(hM, .inr (9, [.int 0, .int 0, .int 0, .int 0, .int 0, .int 0, .null, .int 0, .int 0, .int 0, .int 0, .int 0, .null, .null, .null, .null, .null, .null, .null, .null, .null, .null, .null, .null, .int 0, .int 0, .int 0, .int 0, .null, .null, .null, .null, .null, .int 0, .int 0, .null, .null, .int 0, .null, .null, .int 0, .null, .int 0, .int 0, .null, .null, .int 0, .int 0, .int 0, .int 0]))]) hD hS hA [8] rfl
  refine va_callv (va_runI (As := [.int (celF L xs 0), .int (celF L xs 1)]) (rest := [.ref hM]) ⟨hx, hb, hml, hown, hts⟩ (c_X9_init l dC dI H.size hM (celF L xs 0) (celF L xs 1)) (cwI 2 hts g_law_X9_init rfl rfl rfl k_10 k_11 k_12 rfl (by decide +kernel) ⟨Nat.le_of_ble_eq_true rfl, Nat.le_of_ble_eq_true rfl⟩) ⟨fun a U g mk q => by obtain ⟨q0, q1, qP, qK, qD⟩ := q; exact ⟨q0, q1, qP, va_K.moved (u := U) (U := U.calling g mk a) (Vm.Alike.refl U.vm) qK, qD⟩, fun U hU hW => ⟨rfl, by rw [hU], by rw [hU]; exact hPc, va_K.moved hW.alike hKc, hDc.weaken (fun _ _ _ _ => trivial)⟩⟩ rfl rfl hl.1 rfl (lv_room (Nat.le_of_ble_eq_true rfl)) dL_law_32 ⟨(show 304 + 25 ≤ 600000 by omega), (show 11005 + 27308 ≤ 7302250 by omega)⟩) hS (fun q _ h => hFc q h) hFc (fun u t H1 locs ht hvm hw hB hz1 hk1 hS => ?_)
  obtain ⟨a_disk_23, a_kind_24, a_many_25, a_block_26, a_keys_27, a_vals_28, a_isFresh_29, a_kindWas_30, a_manyWas_31, a_blockWas_32, a_keysWas_33, a_valsWas_34, a_freshWas_35, a_reached_36, a_oldKeys_37, a_oldVals_38, a_allKeys_39, a_allVals_40, a_row_41, a_written_42, a_path_43, a_place_44, a_freeRow_45, a_bothKeys_46, a_bothVals_47, v_lmost_48, v_cmost_49, v_lmin_50, v_cmin_51, cK_52, cR_53, cW_54, cD_55⟩ := u
  obtain ⟨hP1, hK1, hD1⟩ := hB
  rw [ht] at hP1
  have hK1 := va_K.moved hvm.symm hK1
  try dsimp only at hw
  obtain ⟨hP, hD⟩ := va_join (wr := [(hC, .inr (8, [.ref qd_4, .ref qf_5, .ref qs_6, .ref qp_7, .ref qe_8, .ref q0_9, .ref q1_10, .ref qk_11, .int 0, .long 0, .int 1])), (qd_4, .inr (0, [.int (nI (nW (celF L xs 0))), .int (nI (nB (celF L xs 1))), .int 0, .ref qc_12, .ref qi_13, .int (-1), .int 0])), (qc_12, .inl (cC_18, (nW (celF L xs 0)) * (nB (celF L xs 1)), .inl (fun _ => 0))), (qi_13, .inl (cI_19, nW (celF L xs 0), .inl (fun _ => 0))), (qs_6, .inr (6, [.ref qd_4, .ref qf_5, .ref hm_14, .ref l1_15, .ref l2_16, .ref l3_17, .int 0, .long 0, .int 0, .long 0])), (q0_9, .inr (7, [.int 0, .int 0, .int 0, .long 0])), (q1_10, .inr (7, [.int 0, .int 0, .int 0, .long 0])), (qk_11, .inr (7, [.int 0, .int 0, .int 0, .long 0]))]) (w1 := [(hM, .inr (9, [.int (nI (nW (celF L xs 0))), .int (nI (nB (celF L xs 1))), .int v_lmost_48, .int v_cmost_49, .int v_lmin_50, .int v_cmin_51, .ref a_disk_23, .int 1, .int 0, .int 0, .int 0, .int 0, .ref a_kind_24, .ref a_many_25, .ref a_block_26, .ref a_keys_27, .ref a_vals_28, .ref a_isFresh_29, .ref a_kindWas_30, .ref a_manyWas_31, .ref a_blockWas_32, .ref a_keysWas_33, .ref a_valsWas_34, .ref a_freshWas_35, .int (-1), .int 0, .int 0, .int 0, .ref a_reached_36, .ref a_oldKeys_37, .ref a_oldVals_38, .ref a_allKeys_39, .ref a_allVals_40, .int 0, .int 0, .ref a_row_41, .ref a_written_42, .int 0, .ref a_path_43, .ref a_place_44, .int 0, .ref a_freeRow_45, .int 0, .int 0, .ref a_bothKeys_46, .ref a_bothVals_47, .int 0, .int 0, .int 0, .int 0])), (a_kind_24, .inl (cK_52, 140, .inl (fun _ => 0))), (a_reached_36, .inl (cR_53, 240, .inl (fun _ => 0))), (a_row_41, .inl (cW_54, 40, .inl (fun _ => 0))), (a_disk_23, .inl (cD_55, (nW (celF L xs 0)) * (nB (celF L xs 1)), .inl (fun _ => 0)))]) hP hD [8] [0, 1, 2, 3, 4, 5, 6, 7] rfl rfl (by decide) (by decide) hk1 hFc hP1 hD1
  have hK := (hK.sub (tys' := [(cC_18, .int), (cI_19, .int)]) [0, 1] rfl).app hK1
  generalize H1 = H at hP hS ⊢
  have hP : va_P (dC, dI) vwCl [(hC, .inr (8, [.ref qd_4, .ref qf_5, .ref qs_6, .ref qp_7, .ref qe_8, .ref q0_9, .ref q1_10, .ref qk_11, .int 0, .long 0, .int 1])), (qd_4, .inr (0, [.int (nI (nW (celF L xs 0))), .int (nI (nB (celF L xs 1))), .int 0, .ref qc_12, .ref qi_13, .int (-1), .int 0])), (qc_12, .inl (cC_18, (nW (celF L xs 0)) * (nB (celF L xs 1)), .inl (fun _ => 0))), (qi_13, .inl (cI_19, nW (celF L xs 0), .inl (fun _ => 0))), (qs_6, .inr (6, [.ref qd_4, .ref qf_5, .ref hm_14, .ref l1_15, .ref l2_16, .ref l3_17, .int 0, .long 0, .int 0, .long 0])), (q0_9, .inr (7, [.int 0, .int 0, .int 0, .long 0])), (q1_10, .inr (7, [.int 0, .int 0, .int 0, .long 0])), (qk_11, .inr (7, [.int 0, .int 0, .int 0, .long 0])), (hM, .inr (9, [.int (nI (nW (celF L xs 0))), .int (nI (nB (celF L xs 1))), .int v_lmost_48, .int v_cmost_49, .int v_lmin_50, .int v_cmin_51, .ref a_disk_23, .int 1, .int 0, .int 0, .int 0, .int 0, .ref a_kind_24, .ref a_many_25, .ref a_block_26, .ref a_keys_27, .ref a_vals_28, .ref a_isFresh_29, .ref a_kindWas_30, .ref a_manyWas_31, .ref a_blockWas_32, .ref a_keysWas_33, .ref a_valsWas_34, .ref a_freshWas_35, .int (-1), .int 0, .int 0, .int 0, .ref a_reached_36, .ref a_oldKeys_37, .ref a_oldVals_38, .ref a_allKeys_39, .ref a_allVals_40, .int 0, .int 0, .ref a_row_41, .ref a_written_42, .int 0, .ref a_path_43, .ref a_place_44, .int 0, .ref a_freeRow_45, .int 0, .int 0, .ref a_bothKeys_46, .ref a_bothVals_47, .int 0, .int 0, .int 0, .int 0])), (a_kind_24, .inl (cK_52, 140, .inl (fun _ => 0))), (a_reached_36, .inl (cR_53, 240, .inl (fun _ => 0))), (a_row_41, .inl (cW_54, 40, .inl (fun _ => 0))), (a_disk_23, .inl (cD_55, (nW (celF L xs 0)) * (nB (celF L xs 1)), .inl (fun _ => 0)))] H := hP
  have hD : va_D (fun q : Nat => s.heap.size ≤ q) [(hC, .inr (8, [.ref qd_4, .ref qf_5, .ref qs_6, .ref qp_7, .ref qe_8, .ref q0_9, .ref q1_10, .ref qk_11, .int 0, .long 0, .int 1])), (qd_4, .inr (0, [.int (nI (nW (celF L xs 0))), .int (nI (nB (celF L xs 1))), .int 0, .ref qc_12, .ref qi_13, .int (-1), .int 0])), (qc_12, .inl (cC_18, (nW (celF L xs 0)) * (nB (celF L xs 1)), .inl (fun _ => 0))), (qi_13, .inl (cI_19, nW (celF L xs 0), .inl (fun _ => 0))), (qs_6, .inr (6, [.ref qd_4, .ref qf_5, .ref hm_14, .ref l1_15, .ref l2_16, .ref l3_17, .int 0, .long 0, .int 0, .long 0])), (q0_9, .inr (7, [.int 0, .int 0, .int 0, .long 0])), (q1_10, .inr (7, [.int 0, .int 0, .int 0, .long 0])), (qk_11, .inr (7, [.int 0, .int 0, .int 0, .long 0])), (hM, .inr (9, [.int (nI (nW (celF L xs 0))), .int (nI (nB (celF L xs 1))), .int v_lmost_48, .int v_cmost_49, .int v_lmin_50, .int v_cmin_51, .ref a_disk_23, .int 1, .int 0, .int 0, .int 0, .int 0, .ref a_kind_24, .ref a_many_25, .ref a_block_26, .ref a_keys_27, .ref a_vals_28, .ref a_isFresh_29, .ref a_kindWas_30, .ref a_manyWas_31, .ref a_blockWas_32, .ref a_keysWas_33, .ref a_valsWas_34, .ref a_freshWas_35, .int (-1), .int 0, .int 0, .int 0, .ref a_reached_36, .ref a_oldKeys_37, .ref a_oldVals_38, .ref a_allKeys_39, .ref a_allVals_40, .int 0, .int 0, .ref a_row_41, .ref a_written_42, .int 0, .ref a_path_43, .ref a_place_44, .int 0, .ref a_freeRow_45, .int 0, .int 0, .ref a_bothKeys_46, .ref a_bothVals_47, .int 0, .int 0, .int 0, .int 0])), (a_kind_24, .inl (cK_52, 140, .inl (fun _ => 0))), (a_reached_36, .inl (cR_53, 240, .inl (fun _ => 0))), (a_row_41, .inl (cW_54, 40, .inl (fun _ => 0))), (a_disk_23, .inl (cD_55, (nW (celF L xs 0)) * (nB (celF L xs 1)), .inl (fun _ => 0)))] := hD
  have hK : va_K (dC, dI) vwCl [(cC_18, .int), (cI_19, .int), (cK_52, .int), (cR_53, .boolean), (cW_54, .int), (cD_55, .int)] s := hK
  refine W.widen (k := 329) (n := 38313) (by omega) (by omega) ?_
  refine lv_astore_n (lv' := [(2, .ref hM), (1, .ref hC), (0, .ref b)]) hx hb dL_law_35 rfl hl (by decide) rfl (fun ls hl => ?_)
  refine lv_iconst (v := 2) hx hb dL_law_36 (by decide) ?_
  refine lv_istore_n (lv' := [(3, .int 2), (2, .ref hM), (1, .ref hC), (0, .ref b)]) hx hb dL_law_37 rfl hl (by decide) rfl (fun ls hl => ?_)
  refine lv_iload_n hx hb dL_law_38 rfl (lv_at hl 0 rfl) ?_
  refine lv_aload_n hx hb dL_law_39 rfl (lv_at hl 3 rfl) ?_
  refine va_slen hx hb hX hbl hbA hS dL_law_40 ?_
  refine lv_iconst (v := 4) hx hb dL_law_41 (by decide) ?_
  refine lv_isub hx hb dL_law_42 ?_
  refine lv_icmp_gt (tgt := 549) hx hb dL_law_43 (by decide) (fun c_56 => ?_) (fun c_56 => ?_)
  · refine lv_iconst (v := 1) hx hb dL_law_549 (by decide) ?_
    refine va_forget (fun q hq => hS.2.2 q hq) ?_
    refine W.widen (k := 600000) (n := 7302250) (by omega) (by omega) ?_
    exact lw_ret hx hb hr hlocks dL_law_550
  · have hL6 : L = 6 := by
      rcases (show L = 0 ∨ L = 1 ∨ L = 2 ∨ L = 3 ∨ L = 4 ∨ L = 5 ∨ L = 6 by omega) with h | h | h | h | h | h | h <;> first | exact h | (subst h; exact absurd (by decide) c_56)
    subst hL6
    refine lv_aload_n hx hb dL_law_46 rfl (lv_at hl 3 rfl) ?_
    refine lv_iload_n hx hb dL_law_47 rfl (lv_at hl 0 rfl) ?_
    refine va_sld hx hb hX hbl hbA hS (show vp_in (nI 2) 6 from vp_in_nI (by omega) (by omega)) dL_law_48 ?_
    refine lv_bipush (v := 31) hx hb dL_law_49 (by decide) ?_
    refine lv_iand hx hb dL_law_51 ?_
    by_cases h_57 : ((xs ((2 : Int32).toNatClampNeg)) &&& 31) = 0
    · refine lv_tableIn (off := 84) (tgt := 136) hx hb dL_law_52 (by rw [h_57]; decide) (by rw [h_57]; decide) (by rw [h_57]; decide) (by decide) ?_
      exact law_case_0 l C0 (celF 6 xs 0) (celF 6 xs 1) hC hM qd_4 qf_5 qs_6 qp_7 qe_8 q0_9 q1_10 qk_11 qc_12 qi_13 hm_14 l1_15 l2_16 l3_17 cC_18 cI_19 a_disk_23 a_kind_24 a_many_25 a_block_26 a_keys_27 a_vals_28 a_isFresh_29 a_kindWas_30 a_manyWas_31 a_blockWas_32 a_keysWas_33 a_valsWas_34 a_freshWas_35 a_reached_36 a_oldKeys_37 a_oldVals_38 a_allKeys_39 a_allVals_40 a_row_41 a_written_42 a_path_43 a_place_44 a_freeRow_45 a_bothKeys_46 a_bothVals_47 v_lmost_48 v_cmost_49 v_lmin_50 v_cmin_51 cK_52 cR_53 cW_54 cD_55 (hK.sub [0, 1, 2, 3, 4, 5] rfl) (hP.sub [0, 1, 2, 3, 4, 5, 6, 7, 8, 9, 10, 11, 12] rfl) (hD.sub [0, 1, 2, 3, 4, 5, 6, 7, 8, 9, 10, 11, 12] (by decide) rfl) hS (lv_sub hl [0, 1, 2, 3] rfl)
    by_cases h_58 : ((xs ((2 : Int32).toNatClampNeg)) &&& 31) = 1
    · refine lv_tableIn (off := 95) (tgt := 147) hx hb dL_law_52 (by rw [h_58]; decide) (by rw [h_58]; decide) (by rw [h_58]; decide) (by decide) ?_
      exact law_case_1 l C0 (celF 6 xs 0) (celF 6 xs 1) hC hM qd_4 qf_5 qs_6 qp_7 qe_8 q0_9 q1_10 qk_11 qc_12 qi_13 hm_14 l1_15 l2_16 l3_17 cC_18 cI_19 a_disk_23 a_kind_24 a_many_25 a_block_26 a_keys_27 a_vals_28 a_isFresh_29 a_kindWas_30 a_manyWas_31 a_blockWas_32 a_keysWas_33 a_valsWas_34 a_freshWas_35 a_reached_36 a_oldKeys_37 a_oldVals_38 a_allKeys_39 a_allVals_40 a_row_41 a_written_42 a_path_43 a_place_44 a_freeRow_45 a_bothKeys_46 a_bothVals_47 v_lmost_48 v_cmost_49 v_lmin_50 v_cmin_51 cK_52 cR_53 cW_54 cD_55 (hK.sub [0, 1, 2, 3, 4, 5] rfl) (hP.sub [0, 1, 2, 3, 4, 5, 6, 7, 8, 9, 10, 11, 12] rfl) (hD.sub [0, 1, 2, 3, 4, 5, 6, 7, 8, 9, 10, 11, 12] (by decide) rfl) hS (lv_sub hl [0, 1, 2, 3] rfl)
    by_cases h_59 : ((xs ((2 : Int32).toNatClampNeg)) &&& 31) = 2
    · refine lv_tableIn (off := 128) (tgt := 180) hx hb dL_law_52 (by rw [h_59]; decide) (by rw [h_59]; decide) (by rw [h_59]; decide) (by decide) ?_
      exact law_case_2 l C0 (celF 6 xs 0) (celF 6 xs 1) hC hM qd_4 qf_5 qs_6 qp_7 qe_8 q0_9 q1_10 qk_11 qc_12 qi_13 hm_14 l1_15 l2_16 l3_17 cC_18 cI_19 a_disk_23 a_kind_24 a_many_25 a_block_26 a_keys_27 a_vals_28 a_isFresh_29 a_kindWas_30 a_manyWas_31 a_blockWas_32 a_keysWas_33 a_valsWas_34 a_freshWas_35 a_reached_36 a_oldKeys_37 a_oldVals_38 a_allKeys_39 a_allVals_40 a_row_41 a_written_42 a_path_43 a_place_44 a_freeRow_45 a_bothKeys_46 a_bothVals_47 v_lmost_48 v_cmost_49 v_lmin_50 v_cmin_51 cK_52 cR_53 cW_54 cD_55 (hK.sub [0, 1, 2, 3, 4, 5] rfl) (hP.sub [0, 1, 2, 3, 4, 5, 6, 7, 8, 9, 10, 11, 12] rfl) (hD.sub [0, 1, 2, 3, 4, 5, 6, 7, 8, 9, 10, 11, 12] (by decide) rfl) hS (lv_sub hl [0, 1, 2, 3] rfl)
    by_cases h_60 : ((xs ((2 : Int32).toNatClampNeg)) &&& 31) = 3
    · refine lv_tableIn (off := 151) (tgt := 203) hx hb dL_law_52 (by rw [h_60]; decide) (by rw [h_60]; decide) (by rw [h_60]; decide) (by decide) ?_
      exact law_case_3 l C0 (celF 6 xs 0) (celF 6 xs 1) hC hM qd_4 qf_5 qs_6 qp_7 qe_8 q0_9 q1_10 qk_11 qc_12 qi_13 hm_14 l1_15 l2_16 l3_17 cC_18 cI_19 a_disk_23 a_kind_24 a_many_25 a_block_26 a_keys_27 a_vals_28 a_isFresh_29 a_kindWas_30 a_manyWas_31 a_blockWas_32 a_keysWas_33 a_valsWas_34 a_freshWas_35 a_reached_36 a_oldKeys_37 a_oldVals_38 a_allKeys_39 a_allVals_40 a_row_41 a_written_42 a_path_43 a_place_44 a_freeRow_45 a_bothKeys_46 a_bothVals_47 v_lmost_48 v_cmost_49 v_lmin_50 v_cmin_51 cK_52 cR_53 cW_54 cD_55 (hK.sub [0, 1, 2, 3, 4, 5] rfl) (hP.sub [0, 1, 2, 3, 4, 5, 6, 7, 8, 9, 10, 11, 12] rfl) (hD.sub [0, 1, 2, 3, 4, 5, 6, 7, 8, 9, 10, 11, 12] (by decide) rfl) hS (lv_sub hl [0, 1, 2, 3] rfl)
    by_cases h_61 : ((xs ((2 : Int32).toNatClampNeg)) &&& 31) = 4
    · refine lv_tableIn (off := 174) (tgt := 226) hx hb dL_law_52 (by rw [h_61]; decide) (by rw [h_61]; decide) (by rw [h_61]; decide) (by decide) ?_
      exact law_case_4 l C0 (celF 6 xs 0) (celF 6 xs 1) hC hM qd_4 qf_5 qs_6 qp_7 qe_8 q0_9 q1_10 qk_11 qc_12 qi_13 hm_14 l1_15 l2_16 l3_17 cC_18 cI_19 a_disk_23 a_kind_24 a_many_25 a_block_26 a_keys_27 a_vals_28 a_isFresh_29 a_kindWas_30 a_manyWas_31 a_blockWas_32 a_keysWas_33 a_valsWas_34 a_freshWas_35 a_reached_36 a_oldKeys_37 a_oldVals_38 a_allKeys_39 a_allVals_40 a_row_41 a_written_42 a_path_43 a_place_44 a_freeRow_45 a_bothKeys_46 a_bothVals_47 v_lmost_48 v_cmost_49 v_lmin_50 v_cmin_51 cK_52 cR_53 cW_54 cD_55 (hK.sub [0, 1, 2, 3, 4, 5] rfl) (hP.sub [0, 1, 2, 3, 4, 5, 6, 7, 8, 9, 10, 11, 12] rfl) (hD.sub [0, 1, 2, 3, 4, 5, 6, 7, 8, 9, 10, 11, 12] (by decide) rfl) hS (lv_sub hl [0, 1, 2, 3] rfl)
    by_cases h_62 : ((xs ((2 : Int32).toNatClampNeg)) &&& 31) = 5
    · refine lv_tableIn (off := 197) (tgt := 249) hx hb dL_law_52 (by rw [h_62]; decide) (by rw [h_62]; decide) (by rw [h_62]; decide) (by decide) ?_
      exact law_case_5 l C0 (celF 6 xs 0) (celF 6 xs 1) hC hM qd_4 qf_5 qs_6 qp_7 qe_8 q0_9 q1_10 qk_11 qc_12 qi_13 hm_14 l1_15 l2_16 l3_17 cC_18 cI_19 a_disk_23 a_kind_24 a_many_25 a_block_26 a_keys_27 a_vals_28 a_isFresh_29 a_kindWas_30 a_manyWas_31 a_blockWas_32 a_keysWas_33 a_valsWas_34 a_freshWas_35 a_reached_36 a_oldKeys_37 a_oldVals_38 a_allKeys_39 a_allVals_40 a_row_41 a_written_42 a_path_43 a_place_44 a_freeRow_45 a_bothKeys_46 a_bothVals_47 v_lmost_48 v_cmost_49 v_lmin_50 v_cmin_51 cK_52 cR_53 cW_54 cD_55 (hK.sub [0, 1, 2, 3, 4, 5] rfl) (hP.sub [0, 1, 2, 3, 4, 5, 6, 7, 8, 9, 10, 11, 12] rfl) (hD.sub [0, 1, 2, 3, 4, 5, 6, 7, 8, 9, 10, 11, 12] (by decide) rfl) hS (lv_sub hl [0, 1, 2, 3] rfl)
    by_cases h_63 : ((xs ((2 : Int32).toNatClampNeg)) &&& 31) = 6
    · refine lv_tableIn (off := 220) (tgt := 272) hx hb dL_law_52 (by rw [h_63]; decide) (by rw [h_63]; decide) (by rw [h_63]; decide) (by decide) ?_
      exact law_case_6 l C0 (celF 6 xs 0) (celF 6 xs 1) hC hM qd_4 qf_5 qs_6 qp_7 qe_8 q0_9 q1_10 qk_11 qc_12 qi_13 hm_14 l1_15 l2_16 l3_17 cC_18 cI_19 a_disk_23 a_kind_24 a_many_25 a_block_26 a_keys_27 a_vals_28 a_isFresh_29 a_kindWas_30 a_manyWas_31 a_blockWas_32 a_keysWas_33 a_valsWas_34 a_freshWas_35 a_reached_36 a_oldKeys_37 a_oldVals_38 a_allKeys_39 a_allVals_40 a_row_41 a_written_42 a_path_43 a_place_44 a_freeRow_45 a_bothKeys_46 a_bothVals_47 v_lmost_48 v_cmost_49 v_lmin_50 v_cmin_51 cK_52 cR_53 cW_54 cD_55 (hK.sub [0, 1, 2, 3, 4, 5] rfl) (hP.sub [0, 1, 2, 3, 4, 5, 6, 7, 8, 9, 10, 11, 12] rfl) (hD.sub [0, 1, 2, 3, 4, 5, 6, 7, 8, 9, 10, 11, 12] (by decide) rfl) hS (lv_sub hl [0, 1, 2, 3] rfl)
    by_cases h_64 : ((xs ((2 : Int32).toNatClampNeg)) &&& 31) = 7
    · refine lv_tableIn (off := 233) (tgt := 285) hx hb dL_law_52 (by rw [h_64]; decide) (by rw [h_64]; decide) (by rw [h_64]; decide) (by decide) ?_
      exact law_case_7 l C0 (celF 6 xs 0) (celF 6 xs 1) hC hM qd_4 qf_5 qs_6 qp_7 qe_8 q0_9 q1_10 qk_11 qc_12 qi_13 hm_14 l1_15 l2_16 l3_17 cC_18 cI_19 a_disk_23 a_kind_24 a_many_25 a_block_26 a_keys_27 a_vals_28 a_isFresh_29 a_kindWas_30 a_manyWas_31 a_blockWas_32 a_keysWas_33 a_valsWas_34 a_freshWas_35 a_reached_36 a_oldKeys_37 a_oldVals_38 a_allKeys_39 a_allVals_40 a_row_41 a_written_42 a_path_43 a_place_44 a_freeRow_45 a_bothKeys_46 a_bothVals_47 v_lmost_48 v_cmost_49 v_lmin_50 v_cmin_51 cK_52 cR_53 cW_54 cD_55 (hK.sub [0, 1, 2, 3, 4, 5] rfl) (hP.sub [0, 1, 2, 3, 4, 5, 6, 7, 8, 9, 10, 11, 12] rfl) (hD.sub [0, 1, 2, 3, 4, 5, 6, 7, 8, 9, 10, 11, 12] (by decide) rfl) hS (lv_sub hl [0, 1, 2, 3] rfl)
    by_cases h_65 : ((xs ((2 : Int32).toNatClampNeg)) &&& 31) = 8
    · refine lv_tableIn (off := 256) (tgt := 308) hx hb dL_law_52 (by rw [h_65]; decide) (by rw [h_65]; decide) (by rw [h_65]; decide) (by decide) ?_
      exact law_case_8 l C0 (celF 6 xs 0) (celF 6 xs 1) hC hM qd_4 qf_5 qs_6 qp_7 qe_8 q0_9 q1_10 qk_11 qc_12 qi_13 hm_14 l1_15 l2_16 l3_17 cC_18 cI_19 a_disk_23 a_kind_24 a_many_25 a_block_26 a_keys_27 a_vals_28 a_isFresh_29 a_kindWas_30 a_manyWas_31 a_blockWas_32 a_keysWas_33 a_valsWas_34 a_freshWas_35 a_reached_36 a_oldKeys_37 a_oldVals_38 a_allKeys_39 a_allVals_40 a_row_41 a_written_42 a_path_43 a_place_44 a_freeRow_45 a_bothKeys_46 a_bothVals_47 v_lmost_48 v_cmost_49 v_lmin_50 v_cmin_51 cK_52 cR_53 cW_54 cD_55 (hK.sub [0, 1, 2, 3, 4, 5] rfl) (hP.sub [0, 1, 2, 3, 4, 5, 6, 7, 8, 9, 10, 11, 12] rfl) (hD.sub [0, 1, 2, 3, 4, 5, 6, 7, 8, 9, 10, 11, 12] (by decide) rfl) hS (lv_sub hl [0, 1, 2, 3] rfl)
    by_cases h_66 : ((xs ((2 : Int32).toNatClampNeg)) &&& 31) = 9
    · refine lv_tableIn (off := 279) (tgt := 331) hx hb dL_law_52 (by rw [h_66]; decide) (by rw [h_66]; decide) (by rw [h_66]; decide) (by decide) ?_
      exact law_case_9 l C0 (celF 6 xs 0) (celF 6 xs 1) hC hM qd_4 qf_5 qs_6 qp_7 qe_8 q0_9 q1_10 qk_11 qc_12 qi_13 hm_14 l1_15 l2_16 l3_17 cC_18 cI_19 a_disk_23 a_kind_24 a_many_25 a_block_26 a_keys_27 a_vals_28 a_isFresh_29 a_kindWas_30 a_manyWas_31 a_blockWas_32 a_keysWas_33 a_valsWas_34 a_freshWas_35 a_reached_36 a_oldKeys_37 a_oldVals_38 a_allKeys_39 a_allVals_40 a_row_41 a_written_42 a_path_43 a_place_44 a_freeRow_45 a_bothKeys_46 a_bothVals_47 v_lmost_48 v_cmost_49 v_lmin_50 v_cmin_51 cK_52 cR_53 cW_54 cD_55 (hK.sub [0, 1, 2, 3, 4, 5] rfl) (hP.sub [0, 1, 2, 3, 4, 5, 6, 7, 8, 9, 10, 11, 12] rfl) (hD.sub [0, 1, 2, 3, 4, 5, 6, 7, 8, 9, 10, 11, 12] (by decide) rfl) hS (lv_sub hl [0, 1, 2, 3] rfl)
    by_cases h_67 : ((xs ((2 : Int32).toNatClampNeg)) &&& 31) = 10
    · refine lv_tableIn (off := 312) (tgt := 364) hx hb dL_law_52 (by rw [h_67]; decide) (by rw [h_67]; decide) (by rw [h_67]; decide) (by decide) ?_
      exact law_case_10 l C0 (celF 6 xs 0) (celF 6 xs 1) hC hM qd_4 qf_5 qs_6 qp_7 qe_8 q0_9 q1_10 qk_11 qc_12 qi_13 hm_14 l1_15 l2_16 l3_17 cC_18 cI_19 a_disk_23 a_kind_24 a_many_25 a_block_26 a_keys_27 a_vals_28 a_isFresh_29 a_kindWas_30 a_manyWas_31 a_blockWas_32 a_keysWas_33 a_valsWas_34 a_freshWas_35 a_reached_36 a_oldKeys_37 a_oldVals_38 a_allKeys_39 a_allVals_40 a_row_41 a_written_42 a_path_43 a_place_44 a_freeRow_45 a_bothKeys_46 a_bothVals_47 v_lmost_48 v_cmost_49 v_lmin_50 v_cmin_51 cK_52 cR_53 cW_54 cD_55 (hK.sub [0, 1, 2, 3, 4, 5] rfl) (hP.sub [0, 1, 2, 3, 4, 5, 6, 7, 8, 9, 10, 11, 12] rfl) (hD.sub [0, 1, 2, 3, 4, 5, 6, 7, 8, 9, 10, 11, 12] (by decide) rfl) hS (lv_sub hl [0, 1, 2, 3] rfl)
    by_cases h_68 : ((xs ((2 : Int32).toNatClampNeg)) &&& 31) = 11
    · refine lv_tableIn (off := 325) (tgt := 377) hx hb dL_law_52 (by rw [h_68]; decide) (by rw [h_68]; decide) (by rw [h_68]; decide) (by decide) ?_
      exact law_case_11 l C0 (celF 6 xs 0) (celF 6 xs 1) hC hM qd_4 qf_5 qs_6 qp_7 qe_8 q0_9 q1_10 qk_11 qc_12 qi_13 hm_14 l1_15 l2_16 l3_17 cC_18 cI_19 a_disk_23 a_kind_24 a_many_25 a_block_26 a_keys_27 a_vals_28 a_isFresh_29 a_kindWas_30 a_manyWas_31 a_blockWas_32 a_keysWas_33 a_valsWas_34 a_freshWas_35 a_reached_36 a_oldKeys_37 a_oldVals_38 a_allKeys_39 a_allVals_40 a_row_41 a_written_42 a_path_43 a_place_44 a_freeRow_45 a_bothKeys_46 a_bothVals_47 v_lmost_48 v_cmost_49 v_lmin_50 v_cmin_51 cK_52 cR_53 cW_54 cD_55 (hK.sub [0, 1, 2, 3, 4, 5] rfl) (hP.sub [0, 1, 2, 3, 4, 5, 6, 7, 8, 9, 10, 11, 12] rfl) (hD.sub [0, 1, 2, 3, 4, 5, 6, 7, 8, 9, 10, 11, 12] (by decide) rfl) hS (lv_sub hl [0, 1, 2, 3] rfl)
    by_cases h_69 : ((xs ((2 : Int32).toNatClampNeg)) &&& 31) = 12
    · refine lv_tableIn (off := 356) (tgt := 408) hx hb dL_law_52 (by rw [h_69]; decide) (by rw [h_69]; decide) (by rw [h_69]; decide) (by decide) ?_
      exact law_case_12 l C0 (celF 6 xs 0) (celF 6 xs 1) hC hM qd_4 qf_5 qs_6 qp_7 qe_8 q0_9 q1_10 qk_11 qc_12 qi_13 hm_14 l1_15 l2_16 l3_17 cC_18 cI_19 a_disk_23 a_kind_24 a_many_25 a_block_26 a_keys_27 a_vals_28 a_isFresh_29 a_kindWas_30 a_manyWas_31 a_blockWas_32 a_keysWas_33 a_valsWas_34 a_freshWas_35 a_reached_36 a_oldKeys_37 a_oldVals_38 a_allKeys_39 a_allVals_40 a_row_41 a_written_42 a_path_43 a_place_44 a_freeRow_45 a_bothKeys_46 a_bothVals_47 v_lmost_48 v_cmost_49 v_lmin_50 v_cmin_51 cK_52 cR_53 cW_54 cD_55 (hK.sub [0, 1, 2, 3, 4, 5] rfl) (hP.sub [0, 1, 2, 3, 4, 5, 6, 7, 8, 9, 10, 11, 12] rfl) (hD.sub [0, 1, 2, 3, 4, 5, 6, 7, 8, 9, 10, 11, 12] (by decide) rfl) hS (lv_sub hl [0, 1, 2, 3] rfl)
    by_cases h_70 : ((xs ((2 : Int32).toNatClampNeg)) &&& 31) = 13
    · refine lv_tableIn (off := 369) (tgt := 421) hx hb dL_law_52 (by rw [h_70]; decide) (by rw [h_70]; decide) (by rw [h_70]; decide) (by decide) ?_
      exact law_case_13 l C0 (celF 6 xs 0) (celF 6 xs 1) hC hM qd_4 qf_5 qs_6 qp_7 qe_8 q0_9 q1_10 qk_11 qc_12 qi_13 hm_14 l1_15 l2_16 l3_17 cC_18 cI_19 a_disk_23 a_kind_24 a_many_25 a_block_26 a_keys_27 a_vals_28 a_isFresh_29 a_kindWas_30 a_manyWas_31 a_blockWas_32 a_keysWas_33 a_valsWas_34 a_freshWas_35 a_reached_36 a_oldKeys_37 a_oldVals_38 a_allKeys_39 a_allVals_40 a_row_41 a_written_42 a_path_43 a_place_44 a_freeRow_45 a_bothKeys_46 a_bothVals_47 v_lmost_48 v_cmost_49 v_lmin_50 v_cmin_51 cK_52 cR_53 cW_54 cD_55 (hK.sub [0, 1, 2, 3, 4, 5] rfl) (hP.sub [0, 1, 2, 3, 4, 5, 6, 7, 8, 9, 10, 11, 12] rfl) (hD.sub [0, 1, 2, 3, 4, 5, 6, 7, 8, 9, 10, 11, 12] (by decide) rfl) hS (lv_sub hl [0, 1, 2, 3] rfl)
    by_cases h_71 : ((xs ((2 : Int32).toNatClampNeg)) &&& 31) = 14
    · refine lv_tableIn (off := 412) (tgt := 464) hx hb dL_law_52 (by rw [h_71]; decide) (by rw [h_71]; decide) (by rw [h_71]; decide) (by decide) ?_
      exact law_case_14 l C0 (celF 6 xs 0) (celF 6 xs 1) hC hM qd_4 qf_5 qs_6 qp_7 qe_8 q0_9 q1_10 qk_11 qc_12 qi_13 hm_14 l1_15 l2_16 l3_17 cC_18 cI_19 a_disk_23 a_kind_24 a_many_25 a_block_26 a_keys_27 a_vals_28 a_isFresh_29 a_kindWas_30 a_manyWas_31 a_blockWas_32 a_keysWas_33 a_valsWas_34 a_freshWas_35 a_reached_36 a_oldKeys_37 a_oldVals_38 a_allKeys_39 a_allVals_40 a_row_41 a_written_42 a_path_43 a_place_44 a_freeRow_45 a_bothKeys_46 a_bothVals_47 v_lmost_48 v_cmost_49 v_lmin_50 v_cmin_51 cK_52 cR_53 cW_54 cD_55 (hK.sub [0, 1, 2, 3, 4, 5] rfl) (hP.sub [0, 1, 2, 3, 4, 5, 6, 7, 8, 9, 10, 11, 12] rfl) (hD.sub [0, 1, 2, 3, 4, 5, 6, 7, 8, 9, 10, 11, 12] (by decide) rfl) hS (lv_sub hl [0, 1, 2, 3] rfl)
    by_cases h_72 : ((xs ((2 : Int32).toNatClampNeg)) &&& 31) = 15
    · refine lv_tableIn (off := 445) (tgt := 497) hx hb dL_law_52 (by rw [h_72]; decide) (by rw [h_72]; decide) (by rw [h_72]; decide) (by decide) ?_
      exact law_case_15 l C0 (celF 6 xs 0) (celF 6 xs 1) hC hM qd_4 qf_5 qs_6 qp_7 qe_8 q0_9 q1_10 qk_11 qc_12 qi_13 hm_14 l1_15 l2_16 l3_17 cC_18 cI_19 a_disk_23 a_kind_24 a_many_25 a_block_26 a_keys_27 a_vals_28 a_isFresh_29 a_kindWas_30 a_manyWas_31 a_blockWas_32 a_keysWas_33 a_valsWas_34 a_freshWas_35 a_reached_36 a_oldKeys_37 a_oldVals_38 a_allKeys_39 a_allVals_40 a_row_41 a_written_42 a_path_43 a_place_44 a_freeRow_45 a_bothKeys_46 a_bothVals_47 v_lmost_48 v_cmost_49 v_lmin_50 v_cmin_51 cK_52 cR_53 cW_54 cD_55 (hK.sub [0, 1, 2, 3, 4, 5] rfl) (hP.sub [0, 1, 2, 3, 4, 5, 6, 7, 8, 9, 10, 11, 12] rfl) (hD.sub [0, 1, 2, 3, 4, 5, 6, 7, 8, 9, 10, 11, 12] (by decide) rfl) hS (lv_sub hl [0, 1, 2, 3] rfl)
    by_cases h_73 : ((xs ((2 : Int32).toNatClampNeg)) &&& 31) = 16
    · refine lv_tableIn (off := 468) (tgt := 520) hx hb dL_law_52 (by rw [h_73]; decide) (by rw [h_73]; decide) (by rw [h_73]; decide) (by decide) ?_
      exact law_case_16 l C0 (celF 6 xs 0) (celF 6 xs 1) hC hM qd_4 qf_5 qs_6 qp_7 qe_8 q0_9 q1_10 qk_11 qc_12 qi_13 hm_14 l1_15 l2_16 l3_17 cC_18 cI_19 a_disk_23 a_kind_24 a_many_25 a_block_26 a_keys_27 a_vals_28 a_isFresh_29 a_kindWas_30 a_manyWas_31 a_blockWas_32 a_keysWas_33 a_valsWas_34 a_freshWas_35 a_reached_36 a_oldKeys_37 a_oldVals_38 a_allKeys_39 a_allVals_40 a_row_41 a_written_42 a_path_43 a_place_44 a_freeRow_45 a_bothKeys_46 a_bothVals_47 v_lmost_48 v_cmost_49 v_lmin_50 v_cmin_51 cK_52 cR_53 cW_54 cD_55 (hK.sub [0, 1, 2, 3, 4, 5] rfl) (hP.sub [0, 1, 2, 3, 4, 5, 6, 7, 8, 9, 10, 11, 12] rfl) (hD.sub [0, 1, 2, 3, 4, 5, 6, 7, 8, 9, 10, 11, 12] (by decide) rfl) hS (lv_sub hl [0, 1, 2, 3] rfl)
    have th_57 : ¬ ((xs ((2 : Int32).toNatClampNeg)) &&& 31).toInt = 0 := lv_neT h_57 (by decide)
    have th_58 : ¬ ((xs ((2 : Int32).toNatClampNeg)) &&& 31).toInt = 1 := lv_neT h_58 (by decide)
    have th_59 : ¬ ((xs ((2 : Int32).toNatClampNeg)) &&& 31).toInt = 2 := lv_neT h_59 (by decide)
    have th_60 : ¬ ((xs ((2 : Int32).toNatClampNeg)) &&& 31).toInt = 3 := lv_neT h_60 (by decide)
    have th_61 : ¬ ((xs ((2 : Int32).toNatClampNeg)) &&& 31).toInt = 4 := lv_neT h_61 (by decide)
    have th_62 : ¬ ((xs ((2 : Int32).toNatClampNeg)) &&& 31).toInt = 5 := lv_neT h_62 (by decide)
    have th_63 : ¬ ((xs ((2 : Int32).toNatClampNeg)) &&& 31).toInt = 6 := lv_neT h_63 (by decide)
    have th_64 : ¬ ((xs ((2 : Int32).toNatClampNeg)) &&& 31).toInt = 7 := lv_neT h_64 (by decide)
    have th_65 : ¬ ((xs ((2 : Int32).toNatClampNeg)) &&& 31).toInt = 8 := lv_neT h_65 (by decide)
    have th_66 : ¬ ((xs ((2 : Int32).toNatClampNeg)) &&& 31).toInt = 9 := lv_neT h_66 (by decide)
    have th_67 : ¬ ((xs ((2 : Int32).toNatClampNeg)) &&& 31).toInt = 10 := lv_neT h_67 (by decide)
    have th_68 : ¬ ((xs ((2 : Int32).toNatClampNeg)) &&& 31).toInt = 11 := lv_neT h_68 (by decide)
    have th_69 : ¬ ((xs ((2 : Int32).toNatClampNeg)) &&& 31).toInt = 12 := lv_neT h_69 (by decide)
    have th_70 : ¬ ((xs ((2 : Int32).toNatClampNeg)) &&& 31).toInt = 13 := lv_neT h_70 (by decide)
    have th_71 : ¬ ((xs ((2 : Int32).toNatClampNeg)) &&& 31).toInt = 14 := lv_neT h_71 (by decide)
    have th_72 : ¬ ((xs ((2 : Int32).toNatClampNeg)) &&& 31).toInt = 15 := lv_neT h_72 (by decide)
    have th_73 : ¬ ((xs ((2 : Int32).toNatClampNeg)) &&& 31).toInt = 16 := lv_neT h_73 (by decide)
    refine lv_tableOut (tgt := 543) hx hb dL_law_52 (by omega) (by decide) ?_
    refine lv_iinc (v := 6) (lv' := [(3, .int 6), (2, .ref hM), (1, .ref hC), (0, .ref b)]) hx hb dL_law_543 hl (k := 0) rfl (by decide) (by decide) rfl (fun ls hl => ?_)
    refine lv_goto (tgt := 38) hx hb dL_law_546 (by decide) ?_
    refine lv_iload_n hx hb dL_law_38 rfl (lv_at hl 0 rfl) ?_
    refine lv_aload_n hx hb dL_law_39 rfl (lv_at hl 3 rfl) ?_
    refine va_slen hx hb hX hbl hbA hS dL_law_40 ?_
    refine lv_iconst (v := 4) hx hb dL_law_41 (by decide) ?_
    refine lv_isub hx hb dL_law_42 ?_
    refine lv_topi (fun z_74 ez_74 => ?_)
    obtain rfl : z_74 = 2 := ez_74.trans (by decide)
    refine lv_icmp_gt (tgt := 549) hx hb dL_law_43 (by decide) (fun c_75 => ?_) (fun c_75 => ?_)
    rotate_left
    · exact absurd (by decide) c_75
    refine lv_iconst (v := 1) hx hb dL_law_549 (by decide) ?_
    refine va_forget (fun q hq => hS.2.2 q hq) ?_
    refine W.widen (k := 600000) (n := 7302250) (by omega) (by omega) ?_
    exact lw_ret hx hb hr hlocks dL_law_550
-- ===== YOUR PART ENDS =====
set_option maxHeartbeats 4000000 in
theorem lw_walk (l : Launch) (b : Addr) (xs : List Int32) : MetFree l x (headSpec (Jvm.Cond.code x code maxLocals ret :: tables_1) room_1) (lw_P b xs) (fun _ _ _ _ _ => True) lw_Q := by
  refine MetFree.of_bodyS (code := code) (maxLocals := maxLocals) (ret := ret) (by decide) ?_ ?_
  · intro args s m h hn
    obtain ⟨meth, c, h1, h2, h3, h4, h5, h6, -, -⟩ := Cond.code_spec hn (atoms_spec (ws := Jvm.Cond.code x code maxLocals ret :: tables_1) h _ List.mem_cons_self)
    exact ⟨meth, c, h1, h2, h3, h4, h5, h6⟩
  · intro p e s m args below meth c s₁ B hml0 hP _
    obtain ⟨rfl, hx, hbd, hgv⟩ := hP
    obtain ⟨scr, harrAt, hlist, hof, hsmall⟩ := hx
    obtain ⟨hcb, hkn, -, -⟩ := State.arrayAt?_spec harrAt
    have hown : s.vm.findClass R_law = some m.cls := findClass_of_methodNamed B.named
    have hts0 : ∀ c ∈ (Jvm.Cond.code x code maxLocals ret :: tables_1), c.before #[Value.ref b] s = true := atoms_spec (ws := Jvm.Cond.code x code maxLocals ret :: tables_1) B.pre
    have hts : ∀ w ∈ lw_tbl, w.before #[Value.ref b] s = true := k2_hts_sels lw_privs (fun w hw => hts0 w (List.mem_cons_of_mem _ hw)) lw_privs_ok
    have hml : c.maxLocals = 4 := B.maxLocals_eq (hts0 _ List.mem_cons_self)
    have X₀ : Stand p l e room_1 s m #[Value.ref b] below meth c s₁ [] 0 0 := Stand.of_body B
    have hh0 : s₁.heap = s.heap := by rw [B.state]; rfl
    have hsz : scr.slots.size = xs.length := by rw [← Array.length_toList, hlist, List.length_map]
    have hval : ∀ j : Nat, j < xs.length → scr.slots[j]? = some (.int (xs.getD j 0)) := fun j hj => by
      rw [← Array.getElem?_toList, hlist]
      simp [hj]
    have hbl : b < s.heap.size := (Array.getElem?_eq_some_iff.mp hcb).1
    have hX : va_X b xs.length (fun j => xs.getD j 0) s s.heap := ⟨scr, hcb, hof, hkn, hsz, hval⟩
    have K : W p l e room_1 s m #[Value.ref b] below meth c s₁.heap [] 0 0 (lw_Z below #[Value.ref b] s) (entryFrame m ([Value.ref b] : List Value).toArray 4) := by
      rw [hh0]
      exact whole_start l hbd ⟨B.exec, B.bytes, B.returns, hml, hown, hts, hX, hbl, B.notSynchronized, hgv⟩
    obtain ⟨t, a1, o, b1, b2, b3⟩ := K s₁ rfl X₀
    exact ⟨t, o, a1, b1, b2, b3⟩
theorem lw_pre_spec {args : Array Value} {s : State} (h : (Jvm.Cond.and given_1 narrow_1).before args s = true) (hr : rest_1_c.before args s = true) : ∃ (b : Addr) (xs : List Int32), lw_P b xs args s := by
  have hs := flat_of_before _ h
  have hq := flat_of_before _ hr
  have hc : (Cond.count 1).before args s = true := hs _ (by decide +kernel)
  have harr : (Cond.arrayOf (.arg 0) .int).before args s = true := hs _ (by decide +kernel)
  have hle : (Cond.le (.length (.arg 0)) (.int 6)).before args s = true := hs _ (by decide +kernel)
  have hlen : (Cond.isInt (.length (.arg 0))).before args s = true := hq _ (by decide +kernel)
  have hall : (Cond.all (.arg 0) (.isInt (.elem (.arg 0) (.index 0)))).before args s = true := hq _ (by decide +kernel)
  obtain ⟨b, xs, hb, hx⟩ := State.ints_of_pre rfl harr hlen hall
  have hsm : xs.length < 2 ^ 31 := hx.choose_spec.2.2.2
  have hev : (Term.length (.arg 0)).eval args s none [] s = some (.int xs.length.toInt32) := hx.length_eval hb
  have hv := Cond.le_ints hev (show (Term.int 6).eval args s none [] s = some (.int 6) from rfl)
  have hd : xs.length.toInt32 ≤ 6 := by
    simpa [Cond.before, Cond.holds, hv] using hle
  have hN : xs.length ≤ 6 := (Int32.ofNat_le_ofNat hsm (by decide)).mp (show Int32.ofNat xs.length ≤ Int32.ofNat 6 from hd)
  exact ⟨b, xs, Cond.one_arg hc (show args[0]? = some (.ref b) from hb), hx, hN, h⟩
theorem lw_comes (l : Launch) : Comes l x (Jvm.Cond.code x code maxLocals ret :: tables_1) room_1 (fun tb e args s => Calls_1 tb e args s ∧ rest_1 tb e args s ∧ Pre_1 tb e args s)
    (fun _ _ args s o t => lw_Q args s o t) := by
  intro p e ha hc hk s m args below hf hfit hheap happ hpre
  obtain ⟨b, xs, hP⟩ := lw_pre_spec hpre.2.2 hpre.2.1
  obtain ⟨k, o, h1, h2, h3, hQ⟩ := lw_walk l b xs p e ha hc hk s m args below hf ((Spec.applies_iff_loose hf).mp happ).1 hP trivial
  exact ⟨k, o, h1, h2, h3, hQ⟩
theorem lw_frame {s t : State} {o : Outcome} {args : Array Value} (h : Framed s o t [] 600000 7302250) :
    Framed s o t (fieldLocs frame_1_writes args s ++ arrayLocs frame_1_arrays args s ++ staticLocs frame_1_statics s) 600000 7302250 := h
theorem lw_limb (L : Cond) (hL : ∀ (args : Array Value) (s t : State), L.after args s (.returned (some (.int 1))) t = true) :
    ArmFor flags0 classFile x code maxLocals ret World_1 tables_1 room_1 Calls_1 rest_1 Pre_1
      (fun tb e a s o t => postC L tb e a s o t ∧ Framed s o t (fieldLocs frame_1_writes a s ++ arrayLocs frame_1_arrays a s ++ staticLocs frame_1_statics s) 600000 7302250) := by
  intro l _ _ _ p e ha hc hk s m args below hf hfit hheap happ hpre
  obtain ⟨k, o, h1, h2, h3, rfl, hF⟩ := lw_comes l p e ha hc hk s m args below hf hfit hheap happ hpre
  exact ⟨k, _, h1, h2, h3, hL args s _, lw_frame hF⟩
theorem i_vc : Claimed_1_1 ∧ Claimed_1_2 := ⟨lw_limb limb_1_1 (fun args s t => by simp [limb_1_1, Cond.after, Cond.holds, Cond.value]), lw_limb limb_1_2 (fun args s t => Cond.after_iff.mpr (by
  first | (rw [show limb_1_2 = Cond.eq .result (.int 1) from rfl, Cond.eq_ints (x := 1) (y := 1) rfl rfl]; simp; done) | (simp [limb_1_2, Cond.value, Term.eval]; done)))⟩
