set_option maxHeartbeats 4000000 in
set_option maxRecDepth 100000 in
/-- the law behind its constructors -/
theorem law_mid {p : Program} {e : Env} {s : State} {m : MethodId} {below : List Frame} {meth : Method} {c : Code} (l : Launch) {b L : Nat} {xs : Nat → Int32} (hL : L ≤ 6) (C0 : lw_At p s m meth c b L xs) {dC : Nat → ClassId} {dI : Nat → Nat → Nat} (p0 p1 : Int32) (hC : Nat) (hM : Nat) (qd : Nat) (qf : Nat) (qs : Nat) (qp : Nat) (qe : Nat) (q0 : Nat) (q1 : Nat) (qk : Nat) (qc : Nat) (qi : Nat) (hm : Nat) (l1 : Nat) (l2 : Nat) (l3 : Nat) (cC : ClassId) (cI : ClassId) (a_disk : Nat) (a_kind : Nat) (a_many : Nat) (a_block : Nat) (a_keys : Nat) (a_vals : Nat) (a_isFresh : Nat) (a_kindWas : Nat) (a_manyWas : Nat) (a_blockWas : Nat) (a_keysWas : Nat) (a_valsWas : Nat) (a_freshWas : Nat) (a_reached : Nat) (a_oldKeys : Nat) (a_oldVals : Nat) (a_allKeys : Nat) (a_allVals : Nat) (a_row : Nat) (a_written : Nat) (a_path : Nat) (a_place : Nat) (a_freeRow : Nat) (a_bothKeys : Nat) (a_bothVals : Nat) (v_lmost : Int32) (v_cmost : Int32) (v_lmin : Int32) (v_cmin : Int32) (cK : ClassId) (cR : ClassId) (cW : ClassId) (cD : ClassId) {H : Heap} {locs : List Loc} {ls : Array Slot} (hK : va_K (dC, dI) vwCl [(cC, .int), (cI, .int), (cK, .int), (cR, .boolean), (cW, .int), (cD, .int)] s) (hP : va_P (dC, dI) vwCl [(hC, .inr (8, [.ref qd, .ref qf, .ref qs, .ref qp, .ref qe, .ref q0, .ref q1, .ref qk, .int 0, .long 0, .int 1])), (qd, .inr (0, [.int (nI (nW p0)), .int (nI (nB p1)), .int 0, .ref qc, .ref qi, .int (-1), .int 0])), (qc, .inl (cC, (nW p0) * (nB p1), .inl (fun _ => 0))), (qi, .inl (cI, nW p0, .inl (fun _ => 0))), (qs, .inr (6, [.ref qd, .ref qf, .ref hm, .ref l1, .ref l2, .ref l3, .int 0, .long 0, .int 0, .long 0])), (q0, .inr (7, [.int 0, .int 0, .int 0, .long 0])), (q1, .inr (7, [.int 0, .int 0, .int 0, .long 0])), (qk, .inr (7, [.int 0, .int 0, .int 0, .long 0])), (hM, .inr (9, [.int (nI (nW p0)), .int (nI (nB p1)), .int v_lmost, .int v_cmost, .int v_lmin, .int v_cmin, .ref a_disk, .int 1, .int 0, .int 0, .int 0, .int 0, .ref a_kind, .ref a_many, .ref a_block, .ref a_keys, .ref a_vals, .ref a_isFresh, .ref a_kindWas, .ref a_manyWas, .ref a_blockWas, .ref a_keysWas, .ref a_valsWas, .ref a_freshWas, .int (-1), .int 0, .int 0, .int 0, .ref a_reached, .ref a_oldKeys, .ref a_oldVals, .ref a_allKeys, .ref a_allVals, .int 0, .int 0, .ref a_row, .ref a_written, .int 0, .ref a_path, .ref a_place, .int 0, .ref a_freeRow, .int 0, .int 0, .ref a_bothKeys, .ref a_bothVals, .int 0, .int 0, .int 0, .int 0])), (a_kind, .inl (cK, 140, .inl (fun _ => 0))), (a_reached, .inl (cR, 240, .inl (fun _ => 0))), (a_row, .inl (cW, 40, .inl (fun _ => 0))), (a_disk, .inl (cD, (nW p0) * (nB p1), .inl (fun _ => 0)))] H) (hD : va_D (fun q : Nat => s.heap.size ≤ q) [(hC, .inr (8, [.ref qd, .ref qf, .ref qs, .ref qp, .ref qe, .ref q0, .ref q1, .ref qk, .int 0, .long 0, .int 1])), (qd, .inr (0, [.int (nI (nW p0)), .int (nI (nB p1)), .int 0, .ref qc, .ref qi, .int (-1), .int 0])), (qc, .inl (cC, (nW p0) * (nB p1), .inl (fun _ => 0))), (qi, .inl (cI, nW p0, .inl (fun _ => 0))), (qs, .inr (6, [.ref qd, .ref qf, .ref hm, .ref l1, .ref l2, .ref l3, .int 0, .long 0, .int 0, .long 0])), (q0, .inr (7, [.int 0, .int 0, .int 0, .long 0])), (q1, .inr (7, [.int 0, .int 0, .int 0, .long 0])), (qk, .inr (7, [.int 0, .int 0, .int 0, .long 0])), (hM, .inr (9, [.int (nI (nW p0)), .int (nI (nB p1)), .int v_lmost, .int v_cmost, .int v_lmin, .int v_cmin, .ref a_disk, .int 1, .int 0, .int 0, .int 0, .int 0, .ref a_kind, .ref a_many, .ref a_block, .ref a_keys, .ref a_vals, .ref a_isFresh, .ref a_kindWas, .ref a_manyWas, .ref a_blockWas, .ref a_keysWas, .ref a_valsWas, .ref a_freshWas, .int (-1), .int 0, .int 0, .int 0, .ref a_reached, .ref a_oldKeys, .ref a_oldVals, .ref a_allKeys, .ref a_allVals, .int 0, .int 0, .ref a_row, .ref a_written, .int 0, .ref a_path, .ref a_place, .int 0, .ref a_freeRow, .int 0, .int 0, .ref a_bothKeys, .ref a_bothVals, .int 0, .int 0, .int 0, .int 0])), (a_kind, .inl (cK, 140, .inl (fun _ => 0))), (a_reached, .inl (cR, 240, .inl (fun _ => 0))), (a_row, .inl (cW, 40, .inl (fun _ => 0))), (a_disk, .inl (cD, (nW p0) * (nB p1), .inl (fun _ => 0)))]) (hS : va_S (fun q : Nat => s.heap.size ≤ q) s.heap H locs) (hl : lv_has ls 4 [(2, .ref hM), (1, .ref hC), (0, .ref b)]) : W p l e room_1 s m #[Value.ref b] below meth c H locs 329 38313 (lw_Z below #[Value.ref b] s) (F0 m 36 ls []) := by
  obtain ⟨hx, hb, hr, hml, hown, hts, hX, hbl, hlocks, hgv⟩ := id C0
  have hbA : ¬ (fun q : Nat => s.heap.size ≤ q) b := Nat.not_le.mpr hbl
  refine lv_iconst (v := 2) hx hb dL_law_36 (by decide) ?_
  refine lv_istore_n (lv' := [(3, .int 2), (2, .ref hM), (1, .ref hC), (0, .ref b)]) hx hb dL_law_37 rfl hl (by decide) rfl (fun ls hl => ?_)
  refine lv_iload_n hx hb dL_law_38 rfl (lv_at hl 0 rfl) ?_
  refine lv_aload_n hx hb dL_law_39 rfl (lv_at hl 3 rfl) ?_
  refine va_slen hx hb hX hbl hbA hS dL_law_40 ?_
  refine lv_iconst (v := 4) hx hb dL_law_41 (by decide) ?_
  refine lv_isub hx hb dL_law_42 ?_
  refine lv_icmp_gt (tgt := 549) hx hb dL_law_43 (by decide) (fun c_1 => ?_) (fun c_1 => ?_)
  · refine lv_iconst (v := 1) hx hb dL_law_549 (by decide) ?_
    refine va_forget (fun q hq => hS.2.2 q hq) ?_
    refine W.widen (k := 600000) (n := 7302250) (by omega) (by omega) ?_
    exact lw_ret hx hb hr hlocks dL_law_550
  · have hL6 : L = 6 := by
      rcases (show L = 0 ∨ L = 1 ∨ L = 2 ∨ L = 3 ∨ L = 4 ∨ L = 5 ∨ L = 6 by omega) with h | h | h | h | h | h | h <;> first | exact h | (subst h; exact absurd (by decide) c_1)
    subst hL6
    refine lv_aload_n hx hb dL_law_46 rfl (lv_at hl 3 rfl) ?_
    refine lv_iload_n hx hb dL_law_47 rfl (lv_at hl 0 rfl) ?_
    refine va_sld hx hb hX hbl hbA hS (show vp_in (nI 2) 6 from vp_in_nI (by omega) (by omega)) dL_law_48 ?_
    refine lv_bipush (v := 31) hx hb dL_law_49 (by decide) ?_
    refine lv_iand hx hb dL_law_51 ?_
    by_cases h_2 : ((xs ((2 : Int32).toNatClampNeg)) &&& 31) = 0
    · refine lv_tableIn (off := 84) (tgt := 136) hx hb dL_law_52 (by rw [h_2]; decide) (by rw [h_2]; decide) (by rw [h_2]; decide) (by decide) ?_
      exact law_case_0 l C0 p0 p1 hC hM qd qf qs qp qe q0 q1 qk qc qi hm l1 l2 l3 cC cI a_disk a_kind a_many a_block a_keys a_vals a_isFresh a_kindWas a_manyWas a_blockWas a_keysWas a_valsWas a_freshWas a_reached a_oldKeys a_oldVals a_allKeys a_allVals a_row a_written a_path a_place a_freeRow a_bothKeys a_bothVals v_lmost v_cmost v_lmin v_cmin cK cR cW cD hK hP hD hS (lv_sub hl [0, 1, 2, 3] rfl)
    by_cases h_3 : ((xs ((2 : Int32).toNatClampNeg)) &&& 31) = 1
    · refine lv_tableIn (off := 95) (tgt := 147) hx hb dL_law_52 (by rw [h_3]; decide) (by rw [h_3]; decide) (by rw [h_3]; decide) (by decide) ?_
      exact law_case_1 l C0 p0 p1 hC hM qd qf qs qp qe q0 q1 qk qc qi hm l1 l2 l3 cC cI a_disk a_kind a_many a_block a_keys a_vals a_isFresh a_kindWas a_manyWas a_blockWas a_keysWas a_valsWas a_freshWas a_reached a_oldKeys a_oldVals a_allKeys a_allVals a_row a_written a_path a_place a_freeRow a_bothKeys a_bothVals v_lmost v_cmost v_lmin v_cmin cK cR cW cD hK hP hD hS (lv_sub hl [0, 1, 2, 3] rfl)
    by_cases h_4 : ((xs ((2 : Int32).toNatClampNeg)) &&& 31) = 2
    · refine lv_tableIn (off := 128) (tgt := 180) hx hb dL_law_52 (by rw [h_4]; decide) (by rw [h_4]; decide) (by rw [h_4]; decide) (by decide) ?_
      exact law_case_2 l C0 p0 p1 hC hM qd qf qs qp qe q0 q1 qk qc qi hm l1 l2 l3 cC cI a_disk a_kind a_many a_block a_keys a_vals a_isFresh a_kindWas a_manyWas a_blockWas a_keysWas a_valsWas a_freshWas a_reached a_oldKeys a_oldVals a_allKeys a_allVals a_row a_written a_path a_place a_freeRow a_bothKeys a_bothVals v_lmost v_cmost v_lmin v_cmin cK cR cW cD hK hP hD hS (lv_sub hl [0, 1, 2, 3] rfl)
    by_cases h_5 : ((xs ((2 : Int32).toNatClampNeg)) &&& 31) = 3
    · refine lv_tableIn (off := 151) (tgt := 203) hx hb dL_law_52 (by rw [h_5]; decide) (by rw [h_5]; decide) (by rw [h_5]; decide) (by decide) ?_
      exact law_case_3 l C0 p0 p1 hC hM qd qf qs qp qe q0 q1 qk qc qi hm l1 l2 l3 cC cI a_disk a_kind a_many a_block a_keys a_vals a_isFresh a_kindWas a_manyWas a_blockWas a_keysWas a_valsWas a_freshWas a_reached a_oldKeys a_oldVals a_allKeys a_allVals a_row a_written a_path a_place a_freeRow a_bothKeys a_bothVals v_lmost v_cmost v_lmin v_cmin cK cR cW cD hK hP hD hS (lv_sub hl [0, 1, 2, 3] rfl)
    by_cases h_6 : ((xs ((2 : Int32).toNatClampNeg)) &&& 31) = 4
    · refine lv_tableIn (off := 174) (tgt := 226) hx hb dL_law_52 (by rw [h_6]; decide) (by rw [h_6]; decide) (by rw [h_6]; decide) (by decide) ?_
      exact law_case_4 l C0 p0 p1 hC hM qd qf qs qp qe q0 q1 qk qc qi hm l1 l2 l3 cC cI a_disk a_kind a_many a_block a_keys a_vals a_isFresh a_kindWas a_manyWas a_blockWas a_keysWas a_valsWas a_freshWas a_reached a_oldKeys a_oldVals a_allKeys a_allVals a_row a_written a_path a_place a_freeRow a_bothKeys a_bothVals v_lmost v_cmost v_lmin v_cmin cK cR cW cD hK hP hD hS (lv_sub hl [0, 1, 2, 3] rfl)
    by_cases h_7 : ((xs ((2 : Int32).toNatClampNeg)) &&& 31) = 5
    · refine lv_tableIn (off := 197) (tgt := 249) hx hb dL_law_52 (by rw [h_7]; decide) (by rw [h_7]; decide) (by rw [h_7]; decide) (by decide) ?_
      exact law_case_5 l C0 p0 p1 hC hM qd qf qs qp qe q0 q1 qk qc qi hm l1 l2 l3 cC cI a_disk a_kind a_many a_block a_keys a_vals a_isFresh a_kindWas a_manyWas a_blockWas a_keysWas a_valsWas a_freshWas a_reached a_oldKeys a_oldVals a_allKeys a_allVals a_row a_written a_path a_place a_freeRow a_bothKeys a_bothVals v_lmost v_cmost v_lmin v_cmin cK cR cW cD hK hP hD hS (lv_sub hl [0, 1, 2, 3] rfl)
    by_cases h_8 : ((xs ((2 : Int32).toNatClampNeg)) &&& 31) = 6
    · refine lv_tableIn (off := 220) (tgt := 272) hx hb dL_law_52 (by rw [h_8]; decide) (by rw [h_8]; decide) (by rw [h_8]; decide) (by decide) ?_
      exact law_case_6 l C0 p0 p1 hC hM qd qf qs qp qe q0 q1 qk qc qi hm l1 l2 l3 cC cI a_disk a_kind a_many a_block a_keys a_vals a_isFresh a_kindWas a_manyWas a_blockWas a_keysWas a_valsWas a_freshWas a_reached a_oldKeys a_oldVals a_allKeys a_allVals a_row a_written a_path a_place a_freeRow a_bothKeys a_bothVals v_lmost v_cmost v_lmin v_cmin cK cR cW cD hK hP hD hS (lv_sub hl [0, 1, 2, 3] rfl)
    by_cases h_9 : ((xs ((2 : Int32).toNatClampNeg)) &&& 31) = 7
    · refine lv_tableIn (off := 233) (tgt := 285) hx hb dL_law_52 (by rw [h_9]; decide) (by rw [h_9]; decide) (by rw [h_9]; decide) (by decide) ?_
      exact law_case_7 l C0 p0 p1 hC hM qd qf qs qp qe q0 q1 qk qc qi hm l1 l2 l3 cC cI a_disk a_kind a_many a_block a_keys a_vals a_isFresh a_kindWas a_manyWas a_blockWas a_keysWas a_valsWas a_freshWas a_reached a_oldKeys a_oldVals a_allKeys a_allVals a_row a_written a_path a_place a_freeRow a_bothKeys a_bothVals v_lmost v_cmost v_lmin v_cmin cK cR cW cD hK hP hD hS (lv_sub hl [0, 1, 2, 3] rfl)
    by_cases h_10 : ((xs ((2 : Int32).toNatClampNeg)) &&& 31) = 8
    · refine lv_tableIn (off := 256) (tgt := 308) hx hb dL_law_52 (by rw [h_10]; decide) (by rw [h_10]; decide) (by rw [h_10]; decide) (by decide) ?_
      exact law_case_8 l C0 p0 p1 hC hM qd qf qs qp qe q0 q1 qk qc qi hm l1 l2 l3 cC cI a_disk a_kind a_many a_block a_keys a_vals a_isFresh a_kindWas a_manyWas a_blockWas a_keysWas a_valsWas a_freshWas a_reached a_oldKeys a_oldVals a_allKeys a_allVals a_row a_written a_path a_place a_freeRow a_bothKeys a_bothVals v_lmost v_cmost v_lmin v_cmin cK cR cW cD hK hP hD hS (lv_sub hl [0, 1, 2, 3] rfl)
    by_cases h_11 : ((xs ((2 : Int32).toNatClampNeg)) &&& 31) = 9
    · refine lv_tableIn (off := 279) (tgt := 331) hx hb dL_law_52 (by rw [h_11]; decide) (by rw [h_11]; decide) (by rw [h_11]; decide) (by decide) ?_
      exact law_case_9 l C0 p0 p1 hC hM qd qf qs qp qe q0 q1 qk qc qi hm l1 l2 l3 cC cI a_disk a_kind a_many a_block a_keys a_vals a_isFresh a_kindWas a_manyWas a_blockWas a_keysWas a_valsWas a_freshWas a_reached a_oldKeys a_oldVals a_allKeys a_allVals a_row a_written a_path a_place a_freeRow a_bothKeys a_bothVals v_lmost v_cmost v_lmin v_cmin cK cR cW cD hK hP hD hS (lv_sub hl [0, 1, 2, 3] rfl)
    by_cases h_12 : ((xs ((2 : Int32).toNatClampNeg)) &&& 31) = 10
    · refine lv_tableIn (off := 312) (tgt := 364) hx hb dL_law_52 (by rw [h_12]; decide) (by rw [h_12]; decide) (by rw [h_12]; decide) (by decide) ?_
      exact law_case_10 l C0 p0 p1 hC hM qd qf qs qp qe q0 q1 qk qc qi hm l1 l2 l3 cC cI a_disk a_kind a_many a_block a_keys a_vals a_isFresh a_kindWas a_manyWas a_blockWas a_keysWas a_valsWas a_freshWas a_reached a_oldKeys a_oldVals a_allKeys a_allVals a_row a_written a_path a_place a_freeRow a_bothKeys a_bothVals v_lmost v_cmost v_lmin v_cmin cK cR cW cD hK hP hD hS (lv_sub hl [0, 1, 2, 3] rfl)
    by_cases h_13 : ((xs ((2 : Int32).toNatClampNeg)) &&& 31) = 11
    · refine lv_tableIn (off := 325) (tgt := 377) hx hb dL_law_52 (by rw [h_13]; decide) (by rw [h_13]; decide) (by rw [h_13]; decide) (by decide) ?_
      exact law_case_11 l C0 p0 p1 hC hM qd qf qs qp qe q0 q1 qk qc qi hm l1 l2 l3 cC cI a_disk a_kind a_many a_block a_keys a_vals a_isFresh a_kindWas a_manyWas a_blockWas a_keysWas a_valsWas a_freshWas a_reached a_oldKeys a_oldVals a_allKeys a_allVals a_row a_written a_path a_place a_freeRow a_bothKeys a_bothVals v_lmost v_cmost v_lmin v_cmin cK cR cW cD hK hP hD hS (lv_sub hl [0, 1, 2, 3] rfl)
    by_cases h_14 : ((xs ((2 : Int32).toNatClampNeg)) &&& 31) = 12
    · refine lv_tableIn (off := 356) (tgt := 408) hx hb dL_law_52 (by rw [h_14]; decide) (by rw [h_14]; decide) (by rw [h_14]; decide) (by decide) ?_
      exact law_case_12 l C0 p0 p1 hC hM qd qf qs qp qe q0 q1 qk qc qi hm l1 l2 l3 cC cI a_disk a_kind a_many a_block a_keys a_vals a_isFresh a_kindWas a_manyWas a_blockWas a_keysWas a_valsWas a_freshWas a_reached a_oldKeys a_oldVals a_allKeys a_allVals a_row a_written a_path a_place a_freeRow a_bothKeys a_bothVals v_lmost v_cmost v_lmin v_cmin cK cR cW cD hK hP hD hS (lv_sub hl [0, 1, 2, 3] rfl)
    by_cases h_15 : ((xs ((2 : Int32).toNatClampNeg)) &&& 31) = 13
    · refine lv_tableIn (off := 369) (tgt := 421) hx hb dL_law_52 (by rw [h_15]; decide) (by rw [h_15]; decide) (by rw [h_15]; decide) (by decide) ?_
      exact law_case_13 l C0 p0 p1 hC hM qd qf qs qp qe q0 q1 qk qc qi hm l1 l2 l3 cC cI a_disk a_kind a_many a_block a_keys a_vals a_isFresh a_kindWas a_manyWas a_blockWas a_keysWas a_valsWas a_freshWas a_reached a_oldKeys a_oldVals a_allKeys a_allVals a_row a_written a_path a_place a_freeRow a_bothKeys a_bothVals v_lmost v_cmost v_lmin v_cmin cK cR cW cD hK hP hD hS (lv_sub hl [0, 1, 2, 3] rfl)
    by_cases h_16 : ((xs ((2 : Int32).toNatClampNeg)) &&& 31) = 14
    · refine lv_tableIn (off := 412) (tgt := 464) hx hb dL_law_52 (by rw [h_16]; decide) (by rw [h_16]; decide) (by rw [h_16]; decide) (by decide) ?_
      exact law_case_14 l C0 p0 p1 hC hM qd qf qs qp qe q0 q1 qk qc qi hm l1 l2 l3 cC cI a_disk a_kind a_many a_block a_keys a_vals a_isFresh a_kindWas a_manyWas a_blockWas a_keysWas a_valsWas a_freshWas a_reached a_oldKeys a_oldVals a_allKeys a_allVals a_row a_written a_path a_place a_freeRow a_bothKeys a_bothVals v_lmost v_cmost v_lmin v_cmin cK cR cW cD hK hP hD hS (lv_sub hl [0, 1, 2, 3] rfl)
    by_cases h_17 : ((xs ((2 : Int32).toNatClampNeg)) &&& 31) = 15
    · refine lv_tableIn (off := 445) (tgt := 497) hx hb dL_law_52 (by rw [h_17]; decide) (by rw [h_17]; decide) (by rw [h_17]; decide) (by decide) ?_
      exact law_case_15 l C0 p0 p1 hC hM qd qf qs qp qe q0 q1 qk qc qi hm l1 l2 l3 cC cI a_disk a_kind a_many a_block a_keys a_vals a_isFresh a_kindWas a_manyWas a_blockWas a_keysWas a_valsWas a_freshWas a_reached a_oldKeys a_oldVals a_allKeys a_allVals a_row a_written a_path a_place a_freeRow a_bothKeys a_bothVals v_lmost v_cmost v_lmin v_cmin cK cR cW cD hK hP hD hS (lv_sub hl [0, 1, 2, 3] rfl)
    by_cases h_18 : ((xs ((2 : Int32).toNatClampNeg)) &&& 31) = 16
    · refine lv_tableIn (off := 468) (tgt := 520) hx hb dL_law_52 (by rw [h_18]; decide) (by rw [h_18]; decide) (by rw [h_18]; decide) (by decide) ?_
      exact law_case_16 l C0 p0 p1 hC hM qd qf qs qp qe q0 q1 qk qc qi hm l1 l2 l3 cC cI a_disk a_kind a_many a_block a_keys a_vals a_isFresh a_kindWas a_manyWas a_blockWas a_keysWas a_valsWas a_freshWas a_reached a_oldKeys a_oldVals a_allKeys a_allVals a_row a_written a_path a_place a_freeRow a_bothKeys a_bothVals v_lmost v_cmost v_lmin v_cmin cK cR cW cD hK hP hD hS (lv_sub hl [0, 1, 2, 3] rfl)
    have th_2 : ¬ ((xs ((2 : Int32).toNatClampNeg)) &&& 31).toInt = 0 := lv_neT h_2 (by decide)
    have th_3 : ¬ ((xs ((2 : Int32).toNatClampNeg)) &&& 31).toInt = 1 := lv_neT h_3 (by decide)
    have th_4 : ¬ ((xs ((2 : Int32).toNatClampNeg)) &&& 31).toInt = 2 := lv_neT h_4 (by decide)
    have th_5 : ¬ ((xs ((2 : Int32).toNatClampNeg)) &&& 31).toInt = 3 := lv_neT h_5 (by decide)
    have th_6 : ¬ ((xs ((2 : Int32).toNatClampNeg)) &&& 31).toInt = 4 := lv_neT h_6 (by decide)
    have th_7 : ¬ ((xs ((2 : Int32).toNatClampNeg)) &&& 31).toInt = 5 := lv_neT h_7 (by decide)
    have th_8 : ¬ ((xs ((2 : Int32).toNatClampNeg)) &&& 31).toInt = 6 := lv_neT h_8 (by decide)
    have th_9 : ¬ ((xs ((2 : Int32).toNatClampNeg)) &&& 31).toInt = 7 := lv_neT h_9 (by decide)
    have th_10 : ¬ ((xs ((2 : Int32).toNatClampNeg)) &&& 31).toInt = 8 := lv_neT h_10 (by decide)
    have th_11 : ¬ ((xs ((2 : Int32).toNatClampNeg)) &&& 31).toInt = 9 := lv_neT h_11 (by decide)
    have th_12 : ¬ ((xs ((2 : Int32).toNatClampNeg)) &&& 31).toInt = 10 := lv_neT h_12 (by decide)
    have th_13 : ¬ ((xs ((2 : Int32).toNatClampNeg)) &&& 31).toInt = 11 := lv_neT h_13 (by decide)
    have th_14 : ¬ ((xs ((2 : Int32).toNatClampNeg)) &&& 31).toInt = 12 := lv_neT h_14 (by decide)
    have th_15 : ¬ ((xs ((2 : Int32).toNatClampNeg)) &&& 31).toInt = 13 := lv_neT h_15 (by decide)
    have th_16 : ¬ ((xs ((2 : Int32).toNatClampNeg)) &&& 31).toInt = 14 := lv_neT h_16 (by decide)
    have th_17 : ¬ ((xs ((2 : Int32).toNatClampNeg)) &&& 31).toInt = 15 := lv_neT h_17 (by decide)
    have th_18 : ¬ ((xs ((2 : Int32).toNatClampNeg)) &&& 31).toInt = 16 := lv_neT h_18 (by decide)
    refine lv_tableOut (tgt := 543) hx hb dL_law_52 (by omega) (by decide) ?_
    refine lv_iinc (v := 6) (lv' := [(3, .int 6), (2, .ref hM), (1, .ref hC), (0, .ref b)]) hx hb dL_law_543 hl (k := 0) rfl (by decide) (by decide) rfl (fun ls hl => ?_)
    refine lv_goto (tgt := 38) hx hb dL_law_546 (by decide) ?_
    refine lv_iload_n hx hb dL_law_38 rfl (lv_at hl 0 rfl) ?_
    refine lv_aload_n hx hb dL_law_39 rfl (lv_at hl 3 rfl) ?_
    refine va_slen hx hb hX hbl hbA hS dL_law_40 ?_
    refine lv_iconst (v := 4) hx hb dL_law_41 (by decide) ?_
    refine lv_isub hx hb dL_law_42 ?_
    refine lv_topi (fun z_19 ez_19 => ?_)
    obtain rfl : z_19 = 2 := ez_19.trans (by decide)
    refine lv_icmp_gt (tgt := 549) hx hb dL_law_43 (by decide) (fun c_20 => ?_) (fun c_20 => ?_)
    rotate_left
    · exact absurd (by decide) c_20
    refine lv_iconst (v := 1) hx hb dL_law_549 (by decide) ?_
    refine va_forget (fun q hq => hS.2.2 q hq) ?_
    refine W.widen (k := 600000) (n := 7302250) (by omega) (by omega) ?_
    exact lw_ret hx hb hr hlocks dL_law_550
