theorem law_six (j : Nat) : nI (6 * j) + 6 = nI (6 * (j + 1)) := by
  have h : (6 : Int32) = nI 6 := rfl
  rw [h, nI_add]
  rfl
theorem law_in {j L : Nat} (h : 6 * j + 6 ≤ L) (hL : L ≤ 384) : ∀ k : Int32, (0 ≤ k ∧ k ≤ 5) → vp_in (nI (6 * j) + k) L := by
  intro k hk
  obtain ⟨t, ht, rfl⟩ := nI_of2 (M := 5) (n := 5) rfl (Int32.not_lt.mpr hk.1) hk.2
  rw [nI_add]
  exact vp_in_nI (by omega) (by omega)
theorem law_len {j L : Nat} (hL : L ≤ 384) (hj : 6 * j ≤ 400) : (Int32.ofNat L - 6 < nI (6 * j)) ↔ L < 6 * j + 6 := by
  have h1 : (Int32.ofNat L - 6).toInt = (L : Int) - 6 := pk_sub_toInt (a := L) (b := 6) (by omega) (by omega)
  have h2 : (nI (6 * j)).toInt = ((6 * j : Nat) : Int) := nI_toInt (by omega)
  rw [Int32.lt_iff_toInt_lt, h1, h2]
  omega
theorem law_gt {j L : Nat} (h : L < 6 * j + 6) (hL : L ≤ 384) (hj : 6 * j ≤ 400) : Int32.ofNat L - 6 < nI (6 * j) := (law_len hL hj).mpr h
theorem law_ngt {j L : Nat} (h : ¬ L < 6 * j + 6) (hL : L ≤ 384) : ¬ Int32.ofNat L - 6 < nI (6 * j) := fun q => h ((law_len hL (by omega)).mp q)
theorem law_out {p : Program} {l : Launch} {e : Env} {s : State} {m : MethodId} {below : List Frame} {meth : Method} {c : Code} {b L : Nat} {xs : Nat → Int32} {D : va_G} {q : Nat → ClassId} {ρ1 ρ2 : Nat → Nat} {ws : va_W} {i : Int32} {H : Heap} {locs : List Loc} {ls : Array Slot} (hC : zC p s m #[Value.ref b] c cL_law RL D q 4 (fun x : Nat => s.heap.size ≤ x)) (hX : va_X b L xs s s.heap) (hbl : b < s.heap.size) (hL : L ≤ 384) (hr : meth.sig.returnType = ret) (hlocks : meth.locks = false) (hi : Int32.ofNat L - 6 < i) (hW : zW D (fun x : Nat => s.heap.size ≤ x) s.heap ws H locs) (hl : lv_has ls 4 [(0, .ref b), (1, .ref (ρ1 0)), (2, .ref (ρ2 0)), (3, .int i)]) : W p l e room_1 s m #[Value.ref b] below meth c H locs 600000 7302250 (lw_Z below #[Value.ref b] s) (F0 m 18 ls []) := by
  have hx := hC.1
  have hb := hC.2.1
  have hbA : ¬ (fun x : Nat => s.heap.size ≤ x) b := Nat.not_le.mpr hbl
  refine lv_iload_n hx hb dL_law_18 rfl (lv_at hl 3 rfl) ?_
  refine lv_aload_n hx hb dL_law_19 rfl (lv_at hl 0 rfl) ?_
  refine va_slen hx hb hX hbl hbA hW.2.2.1 dL_law_20 ?_
  refine lv_bipush (v := 6) hx hb dL_law_21 (by decide) ?_
  refine lv_isub hx hb dL_law_23 ?_
  refine lv_icmp_gt (tgt := 1304) hx hb dL_law_24 (by decide) (fun _ => ?_) (fun c => absurd hi c)
  refine lv_iconst (v := 1) hx hb dL_law_1304 (by decide) ?_
  refine va_forget (fun x hx => hW.2.2.1.2.2 x hx) ?_
  exact lw_ret hx hb hr hlocks dL_law_1305
set_option maxHeartbeats 8000000 in
set_option maxRecDepth 100000 in
/-- THE LAW'S LOOP: at its head, behind j calls -/
theorem law_loop {p : Program} {l : Launch} {e : Env} {s : State} {m : MethodId} {below : List Frame} {meth : Method} {c : Code} {b L : Nat} {xs : Nat → Int32} {D : va_G} {q : Nat → ClassId} {ρ1 ρ2 : Nat → Nat} (hL : L ≤ 384) (hC : zC p s m #[Value.ref b] c cL_law RL D q 4 (fun x : Nat => s.heap.size ≤ x)) (hX : va_X b L xs s s.heap) (hbl : b < s.heap.size) (hr : meth.sig.returnType = ret) (hlocks : meth.locks = false) : ∀ (n : Nat) {j : Nat} {i : Int32}, i = nI (6 * j) → L < 6 * j + 6 * n → 6 * j ≤ L + 6 → ∀ {H : Heap} {locs : List Loc} {ls : Array Slot}, LW D (fun x : Nat => s.heap.size ≤ x) s.heap q ρ1 ρ2 H locs → lv_has ls 4 [(0, .ref b), (1, .ref (ρ1 0)), (2, .ref (ρ2 0)), (3, .int i)] → W p l e room_1 s m #[Value.ref b] below meth c H locs 600000 7302250 (lw_Z below #[Value.ref b] s) (F0 m 18 ls []) := by
  have hx := hC.1
  have hb := hC.2.1
  have hbA : ¬ (fun x : Nat => s.heap.size ≤ x) b := Nat.not_le.mpr hbl
  intro n
  induction n with
  | zero =>
    intro j i ei h1 h2 H locs ls hLW hl
    have hW : ∃ ws, zW D (fun x : Nat => s.heap.size ≤ x) s.heap ws H locs := by
      exact LW_elim hLW (fun _ hW => ⟨_, hW⟩)
    obtain ⟨ws, hW⟩ := hW
    exact law_out hC hX hbl hL hr hlocks (by rw [ei]; exact law_gt (by omega) hL (by omega)) hW hl
  | succ n ih =>
    intro j i ei h1 h2 H locs ls hLW hl
    have hW : ∃ ws, zW D (fun x : Nat => s.heap.size ≤ x) s.heap ws H locs := by
      exact LW_elim hLW (fun _ hW => ⟨_, hW⟩)
    obtain ⟨ws, hW⟩ := hW
    by_cases hc : L < 6 * j + 6
    · exact law_out hC hX hbl hL hr hlocks (by rw [ei]; exact law_gt hc hL (by omega)) hW hl
    have hi6 : ∀ k : Int32, (0 ≤ k ∧ k ≤ 5) → vp_in (i + k) L := by rw [ei]; exact law_in (by omega) hL
    refine lv_iload_n hx hb dL_law_18 rfl (lv_at hl 3 rfl) ?_
    refine lv_aload_n hx hb dL_law_19 rfl (lv_at hl 0 rfl) ?_
    refine va_slen hx hb hX hbl hbA hW.2.2.1 dL_law_20 ?_
    refine lv_bipush (v := 6) hx hb dL_law_21 (by decide) ?_
    refine lv_isub hx hb dL_law_23 ?_
    refine lv_icmp_gt (tgt := 1304) hx hb dL_law_24 (by decide) (fun c => absurd c (by rw [ei]; exact law_ngt (by omega) hL)) (fun _ => ?_)
    refine lv_aload_n hx hb dL_law_27 rfl (lv_at hl 0 rfl) ?_
    refine lv_iload_n hx hb dL_law_28 rfl (lv_at hl 3 rfl) ?_
    refine va_sld hx hb hX hbl hbA hW.2.2.1 (by have := hi6 0 (by decide); rwa [Int32.add_zero] at this) dL_law_29 ?_
    refine lv_bipush (v := 63) hx hb dL_law_30 (by decide) ?_
    refine lv_iand hx hb dL_law_32 ?_
    have next : ∀ (H : Heap) (locs : List Loc) (ls : Array Slot), LW D (fun x : Nat => s.heap.size ≤ x) s.heap q ρ1 ρ2 H locs → lv_has ls 4 [(0, .ref b), (1, .ref (ρ1 0)), (2, .ref (ρ2 0)), (3, .int i)] → W p l e room_1 s m #[Value.ref b] below meth c H locs 600000 7302250 (lw_Z below #[Value.ref b] s) (F0 m 1298 ls []) := by
      intro H locs ls hLW hl
      refine lv_iinc (v := i + 6) (lv' := [(3, .int (i + 6)), (0, .ref b), (1, .ref (ρ1 0)), (2, .ref (ρ2 0))]) hx hb dL_law_1298 hl (k := 3) rfl rfl (by decide) rfl (fun ls hl => ?_)
      refine lv_goto (tgt := 18) hx hb dL_law_1301 (by decide) ?_
      exact ih (j := j + 1) (by rw [ei]; exact law_six j) (by omega) (by omega) hLW (lv_sub hl [1, 2, 3, 0] rfl)
    by_cases c0 : xs (Int32.toNatClampNeg i) &&& 63 = 0
    · refine z_tabIn hx hb (off := 163) (tgt := 196) 0 c0 (by decide) dL_law_33 (by decide) ?_
      exact law_door hL hC hX hbl hi6 hLW hl next
    by_cases c1 : xs (Int32.toNatClampNeg i) &&& 63 = 1
    · refine z_tabIn hx hb (off := 196) (tgt := 229) 1 c1 (by decide) dL_law_33 (by decide) ?_
      exact law_join hL hC hX hbl hi6 hLW hl next
    by_cases c2 : xs (Int32.toNatClampNeg i) &&& 63 = 2
    · refine z_tabIn hx hb (off := 219) (tgt := 252) 2 c2 (by decide) dL_law_33 (by decide) ?_
      exact law_joins hL hC hX hbl hi6 hLW hl next
    by_cases c3 : xs (Int32.toNatClampNeg i) &&& 63 = 3
    · refine z_tabIn hx hb (off := 262) (tgt := 295) 3 c3 (by decide) dL_law_33 (by decide) ?_
      exact law_wall hL hC hX hbl hi6 hLW hl next
    by_cases c4 : xs (Int32.toNatClampNeg i) &&& 63 = 4
    · refine z_tabIn hx hb (off := 295) (tgt := 328) 4 c4 (by decide) dL_law_33 (by decide) ?_
      exact law_old hL hC hX hbl hi6 hLW hl next
    by_cases c5 : xs (Int32.toNatClampNeg i) &&& 63 = 5
    · refine z_tabIn hx hb (off := 318) (tgt := 351) 5 c5 (by decide) dL_law_33 (by decide) ?_
      exact law_near hL hC hX hbl hi6 hLW hl next
    by_cases c6 : xs (Int32.toNatClampNeg i) &&& 63 = 6
    · refine z_tabIn hx hb (off := 341) (tgt := 374) 6 c6 (by decide) dL_law_33 (by decide) ?_
      exact law_mend hL hC hX hbl hi6 hLW hl next
    by_cases c7 : xs (Int32.toNatClampNeg i) &&& 63 = 7
    · refine z_tabIn hx hb (off := 384) (tgt := 417) 7 c7 (by decide) dL_law_33 (by decide) ?_
      exact law_of hL hC hX hbl hi6 hLW hl next
    by_cases c8 : xs (Int32.toNatClampNeg i) &&& 63 = 8
    · refine z_tabIn hx hb (off := 417) (tgt := 450) 8 c8 (by decide) dL_law_33 (by decide) ?_
      exact law_feed hL hC hX hbl hi6 hLW hl next
    by_cases c9 : xs (Int32.toNatClampNeg i) &&& 63 = 9
    · refine z_tabIn hx hb (off := 440) (tgt := 473) 9 c9 (by decide) dL_law_33 (by decide) ?_
      exact law_law hL hC hX hbl hi6 hLW hl next
    by_cases c10 : xs (Int32.toNatClampNeg i) &&& 63 = 10
    · refine z_tabIn hx hb (off := 453) (tgt := 486) 10 c10 (by decide) dL_law_33 (by decide) ?_
      exact law_far hL hC hX hbl hi6 hLW hl next
    by_cases c11 : xs (Int32.toNatClampNeg i) &&& 63 = 11
    · refine z_tabIn hx hb (off := 476) (tgt := 509) 11 c11 (by decide) dL_law_33 (by decide) ?_
      exact law_judge hL hC hX hbl hi6 hLW hl next
    by_cases c12 : xs (Int32.toNatClampNeg i) &&& 63 = 12
    · refine z_tabIn hx hb (off := 499) (tgt := 532) 12 c12 (by decide) dL_law_33 (by decide) ?_
      exact law_best hL hC hX hbl hi6 hLW hl next
    by_cases c13 : xs (Int32.toNatClampNeg i) &&& 63 = 13
    · refine z_tabIn hx hb (off := 522) (tgt := 555) 13 c13 (by decide) dL_law_33 (by decide) ?_
      exact law_all hL hC hX hbl hi6 hLW hl next
    by_cases c14 : xs (Int32.toNatClampNeg i) &&& 63 = 14
    · refine z_tabIn hx hb (off := 545) (tgt := 578) 14 c14 (by decide) dL_law_33 (by decide) ?_
      exact law_even hL hC hX hbl hi6 hLW hl next
    by_cases c15 : xs (Int32.toNatClampNeg i) &&& 63 = 15
    · refine z_tabIn hx hb (off := 558) (tgt := 591) 15 c15 (by decide) dL_law_33 (by decide) ?_
      exact law_greedy hL hC hX hbl hi6 hLW hl next
    by_cases c16 : xs (Int32.toNatClampNeg i) &&& 63 = 16
    · refine z_tabIn hx hb (off := 581) (tgt := 614) 16 c16 (by decide) dL_law_33 (by decide) ?_
      exact law_dry hL hC hX hbl hi6 hLW hl next
    by_cases c17 : xs (Int32.toNatClampNeg i) &&& 63 = 17
    · refine z_tabIn hx hb (off := 624) (tgt := 657) 17 c17 (by decide) dL_law_33 (by decide) ?_
      exact law_grow hL hC hX hbl hi6 hLW hl next
    by_cases c18 : xs (Int32.toNatClampNeg i) &&& 63 = 18
    · refine z_tabIn hx hb (off := 637) (tgt := 670) 18 c18 (by decide) dL_law_33 (by decide) ?_
      exact law_breaks hL hC hX hbl hi6 hLW hl next
    by_cases c19 : xs (Int32.toNatClampNeg i) &&& 63 = 19
    · refine z_tabIn hx hb (off := 660) (tgt := 693) 19 c19 (by decide) dL_law_33 (by decide) ?_
      exact law_goes hL hC hX hbl hi6 hLW hl next
    by_cases c20 : xs (Int32.toNatClampNeg i) &&& 63 = 20
    · refine z_tabIn hx hb (off := 693) (tgt := 726) 20 c20 (by decide) dL_law_33 (by decide) ?_
      exact law_worth hL hC hX hbl hi6 hLW hl next
    by_cases c21 : xs (Int32.toNatClampNeg i) &&& 63 = 21
    · refine z_tabIn hx hb (off := 726) (tgt := 759) 21 c21 (by decide) dL_law_33 (by decide) ?_
      exact law_steps hL hC hX hbl hi6 hLW hl next
    by_cases c22 : xs (Int32.toNatClampNeg i) &&& 63 = 22
    · refine z_tabIn hx hb (off := 759) (tgt := 792) 22 c22 (by decide) dL_law_33 (by decide) ?_
      exact law_missed hL hC hX hbl hi6 hLW hl next
    by_cases c23 : xs (Int32.toNatClampNeg i) &&& 63 = 23
    · refine z_tabIn hx hb (off := 782) (tgt := 815) 23 c23 (by decide) dL_law_33 (by decide) ?_
      exact law_stood hL hC hX hbl hi6 hLW hl next
    by_cases c24 : xs (Int32.toNatClampNeg i) &&& 63 = 24
    · refine z_tabIn hx hb (off := 815) (tgt := 848) 24 c24 (by decide) dL_law_33 (by decide) ?_
      exact law_turn hL hC hX hbl hi6 hLW hl next
    by_cases c25 : xs (Int32.toNatClampNeg i) &&& 63 = 25
    · refine z_tabIn hx hb (off := 848) (tgt := 881) 25 c25 (by decide) dL_law_33 (by decide) ?_
      exact law_undo hL hC hX hbl hi6 hLW hl next
    by_cases c26 : xs (Int32.toNatClampNeg i) &&& 63 = 26
    · refine z_tabIn hx hb (off := 861) (tgt := 894) 26 c26 (by decide) dL_law_33 (by decide) ?_
      exact law_redo hL hC hX hbl hi6 hLW hl next
    by_cases c27 : xs (Int32.toNatClampNeg i) &&& 63 = 27
    · refine z_tabIn hx hb (off := 874) (tgt := 907) 27 c27 (by decide) dL_law_33 (by decide) ?_
      exact law_body hL hC hX hbl hi6 hLW hl next
    by_cases c28 : xs (Int32.toNatClampNeg i) &&& 63 = 28
    · refine z_tabIn hx hb (off := 897) (tgt := 930) 28 c28 (by decide) dL_law_33 (by decide) ?_
      exact law_act hL hC hX hbl hi6 hLW hl next
    by_cases c29 : xs (Int32.toNatClampNeg i) &&& 63 = 29
    · refine z_tabIn hx hb (off := 940) (tgt := 973) 29 c29 (by decide) dL_law_33 (by decide) ?_
      exact law_trace hL hC hX hbl hi6 hLW hl next
    by_cases c30 : xs (Int32.toNatClampNeg i) &&& 63 = 30
    · refine z_tabIn hx hb (off := 963) (tgt := 996) 30 c30 (by decide) dL_law_33 (by decide) ?_
      exact law_keep hL hC hX hbl hi6 hLW hl next
    by_cases c31 : xs (Int32.toNatClampNeg i) &&& 63 = 31
    · refine z_tabIn hx hb (off := 996) (tgt := 1029) 31 c31 (by decide) dL_law_33 (by decide) ?_
      exact law_row hL hC hX hbl hi6 hLW hl next
    by_cases c32 : xs (Int32.toNatClampNeg i) &&& 63 = 32
    · refine z_tabIn hx hb (off := 1039) (tgt := 1072) 32 c32 (by decide) dL_law_33 (by decide) ?_
      exact law_put hL hC hX hbl hi6 hLW hl next
    by_cases c33 : xs (Int32.toNatClampNeg i) &&& 63 = 33
    · refine z_tabIn hx hb (off := 1112) (tgt := 1145) 33 c33 (by decide) dL_law_33 (by decide) ?_
      exact law_element hL hC hX hbl hi6 hLW hl next
    by_cases c34 : xs (Int32.toNatClampNeg i) &&& 63 = 34
    · refine z_tabIn hx hb (off := 1146) (tgt := 1179) 34 c34 (by decide) dL_law_33 (by decide) ?_
      exact law_shift hL hC hX hbl hi6 hLW hl next
    by_cases c35 : xs (Int32.toNatClampNeg i) &&& 63 = 35
    · refine z_tabIn hx hb (off := 1209) (tgt := 1242) 35 c35 (by decide) dL_law_33 (by decide) ?_
      exact law_taken hL hC hX hbl hi6 hLW hl next
    by_cases c36 : xs (Int32.toNatClampNeg i) &&& 63 = 36
    · refine z_tabIn hx hb (off := 1242) (tgt := 1275) 36 c36 (by decide) dL_law_33 (by decide) ?_
      exact law_count hL hC hX hbl hi6 hLW hl next
    refine z_tabD hx hb (tgt := 1298) [0, 1, 2, 3, 4, 5, 6, 7, 8, 9, 10, 11, 12, 13, 14, 15, 16, 17, 18, 19, 20, 21, 22, 23, 24, 25, 26, 27, 28, 29, 30, 31, 32, 33, 34, 35, 36] (List.forall_mem_cons.mpr ⟨c0, List.forall_mem_cons.mpr ⟨c1, List.forall_mem_cons.mpr ⟨c2, List.forall_mem_cons.mpr ⟨c3, List.forall_mem_cons.mpr ⟨c4, List.forall_mem_cons.mpr ⟨c5, List.forall_mem_cons.mpr ⟨c6, List.forall_mem_cons.mpr ⟨c7, List.forall_mem_cons.mpr ⟨c8, List.forall_mem_cons.mpr ⟨c9, List.forall_mem_cons.mpr ⟨c10, List.forall_mem_cons.mpr ⟨c11, List.forall_mem_cons.mpr ⟨c12, List.forall_mem_cons.mpr ⟨c13, List.forall_mem_cons.mpr ⟨c14, List.forall_mem_cons.mpr ⟨c15, List.forall_mem_cons.mpr ⟨c16, List.forall_mem_cons.mpr ⟨c17, List.forall_mem_cons.mpr ⟨c18, List.forall_mem_cons.mpr ⟨c19, List.forall_mem_cons.mpr ⟨c20, List.forall_mem_cons.mpr ⟨c21, List.forall_mem_cons.mpr ⟨c22, List.forall_mem_cons.mpr ⟨c23, List.forall_mem_cons.mpr ⟨c24, List.forall_mem_cons.mpr ⟨c25, List.forall_mem_cons.mpr ⟨c26, List.forall_mem_cons.mpr ⟨c27, List.forall_mem_cons.mpr ⟨c28, List.forall_mem_cons.mpr ⟨c29, List.forall_mem_cons.mpr ⟨c30, List.forall_mem_cons.mpr ⟨c31, List.forall_mem_cons.mpr ⟨c32, List.forall_mem_cons.mpr ⟨c33, List.forall_mem_cons.mpr ⟨c34, List.forall_mem_cons.mpr ⟨c35, List.forall_mem_cons.mpr ⟨c36, List.forall_mem_nil _⟩⟩⟩⟩⟩⟩⟩⟩⟩⟩⟩⟩⟩⟩⟩⟩⟩⟩⟩⟩⟩⟩⟩⟩⟩⟩⟩⟩⟩⟩⟩⟩⟩⟩⟩⟩⟩) (by decide) dL_law_33 (by decide) ?_
    exact next H locs ls hLW hl
