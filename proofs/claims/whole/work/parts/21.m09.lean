section CT21_m09
variable {l : Launch} {D : va_G} {q : Nat → ClassId} {ρ : Nat → Nat} {sz : Nat} {M_code : Int32} {M_doors : Int32} {M_price : Nat → Int32} {M_year : Nat → Int32} {M_joins : Int32} {M_joinA : Nat → Int32} {M_joinB : Nat → Int32} {M_walls : Int32} {M_wallA : Nat → Int32} {M_wallB : Nat → Int32} {M_cost : Nat → Int32} {M_olds : Int32} {M_near : Int32} {M_doneMany : Int32} {M_undoneMany : Int32} {M_changeOf : Nat → Int32} {M_changeAt : Nat → Int32} {M_before : Nat → Int32} {M_behind : Nat → Int32} {M_tape : Nat → Int32} {M_taped : Int32} {M_here : Int32} {M_fault : Int32} {M_open : Int32} {M_laid : Int32} {M_act : Nat → Int32} {M_with : Nat → Int32} {M_lineMany : Nat → Int32} {M_testEnd : Nat → Int32} {M_lineEnd : Nat → Int32} {M_facts : Nat → Int32} {M_pile : Nat → Int32} {M_hasLaw : Int32} {M_far : Nat → Int32} {M_within : Nat → Int32} {M_tooNear : Nat → Int32} {M_dried : Int32} {M_isOn : Nat → Int32} {M_wasOn : Nat → Int32} {M_bodies : Int32} {M_kind : Nat → Int32} {M_traces : Int32} {M_traced : Nat → Int32} {M_holds : Nat → Int32} {M_size : Nat → Int32} {M_elements : Nat → Int64} {M_shifted : Nat → Int64}
set_option maxHeartbeats 4000000 in
set_option maxRecDepth 100000 in
theorem c_X7_mayBe {a1 : Int32} {d : Nat} {res : Int32} (hd : 1 ≤ d) (h : f_X7_mayBe a1 M_doors M_price M_olds M_within M_tooNear M_dried = some res) : zMi l yX7_mayBe cX7_mayBe 2 .boolean (zrm d) [.ref (ρ 0), .int a1] D q (WM q ρ M_code M_doors M_price M_year M_joins M_joinA M_joinB M_walls M_wallA M_wallB M_cost M_olds M_near M_doneMany M_undoneMany M_changeOf M_changeAt M_before M_behind M_tape M_taped M_here M_fault M_open M_laid M_act M_with M_lineMany M_testEnd M_lineEnd M_facts M_pile M_hasLaw M_far M_within M_tooNear M_dried M_isOn M_wasOn M_bodies M_kind M_traces M_traced M_holds M_size M_elements M_shifted) sz res (WM q ρ M_code M_doors M_price M_year M_joins M_joinA M_joinB M_walls M_wallA M_wallB M_cost M_olds M_near M_doneMany M_undoneMany M_changeOf M_changeAt M_before M_behind M_tape M_taped M_here M_fault M_open M_laid M_act M_with M_lineMany M_testEnd M_lineEnd M_facts M_pile M_hasLaw M_far M_within M_tooNear M_dried M_isOn M_wasOn M_bodies M_kind M_traces M_traced M_holds M_size M_elements M_shifted) := by
  refine zMet_i (own := RX7) _ (by decide) rfl (Nat.le_of_ble_eq_true rfl) ?_
  intro p e s m args below meth c A ls Q hC hW hl hret
  have hx := hC.1
  have hb := hC.2.1
  have hl : lv_has ls 2 [(0, .ref (ρ 0)), (1, .int a1)] := hl
  unfold f_X7_mayBe at h
  refine lv_aload_n hx hb dX7_mayBe_0 rfl (lv_at hl 0 rfl) ?_
  refine z_get hC hW fg_X7_141 0 WM_0 rfl dX7_mayBe_1 ?_
  refine lv_iload_n hx hb dX7_mayBe_4 rfl (lv_at hl 1 rfl) ?_
  refine lv_iconst (v := (-1)) hx hb dX7_mayBe_5 (by decide) ?_
  refine lv_ixor hx hb dX7_mayBe_6 ?_
  refine lv_iand hx hb dX7_mayBe_7 ?_
  refine lv_if_ne (tgt := 43) hx hb dX7_mayBe_8 (by decide) (fun c1 => ?_) (fun c1 => ?_)
  · have h := ifn c1 h
    refine lv_iconst (v := 0) hx hb dX7_mayBe_43 (by decide) ?_
    have h := Option.some.inj h
    subst h
    exact hret _ _ _ _ _ dX7_mayBe_44 rfl rfl hW
  · have h := ifp c1 h
    refine lv_iload_n hx hb dX7_mayBe_11 rfl (lv_at hl 1 rfl) ?_
    refine lv_aload_n hx hb dX7_mayBe_12 rfl (lv_at hl 0 rfl) ?_
    obtain ⟨u2, eu2, h⟩ := bd_some h
    refine z_callV_i hC hW (rest := [.int a1]) (c_X7_rock (d := 0) (Nat.le_refl _) eu2) vw_X7_254 WM_0 rfl ⟨rfl, rfl⟩ (zrm_ok (by omega) (by decide)) rfl rfl hl.1 (Nat.le_of_ble_eq_true rfl) dX7_mayBe_13 (fun H locs hW => ?_)
    refine lv_iand hx hb dX7_mayBe_16 ?_
    refine lv_aload_n hx hb dX7_mayBe_17 rfl (lv_at hl 0 rfl) ?_
    refine z_get hC hW fg_X7_141 0 WM_0 rfl dX7_mayBe_18 ?_
    refine lv_iconst (v := (-1)) hx hb dX7_mayBe_21 (by decide) ?_
    refine lv_ixor hx hb dX7_mayBe_22 ?_
    refine lv_iand hx hb dX7_mayBe_23 ?_
    refine lv_if_ne (tgt := 43) hx hb dX7_mayBe_24 (by decide) (fun c3 => ?_) (fun c3 => ?_)
    · have h := ifn c3 h
      refine lv_iconst (v := 0) hx hb dX7_mayBe_43 (by decide) ?_
      have h := Option.some.inj h
      subst h
      exact hret _ _ _ _ _ dX7_mayBe_44 rfl rfl hW
    · have h := ifp c3 h
      refine lv_aload_n hx hb dX7_mayBe_27 rfl (lv_at hl 0 rfl) ?_
      refine lv_iload_n hx hb dX7_mayBe_28 rfl (lv_at hl 1 rfl) ?_
      refine lv_aload_n hx hb dX7_mayBe_29 rfl (lv_at hl 0 rfl) ?_
      obtain ⟨u4, eu4, h⟩ := bd_some h
      refine z_callV_i hC hW (rest := [.int a1, .ref (ρ 0)]) (c_X7_allDoors (d := 0) (Nat.le_refl _) eu4) vw_X7_248 WM_0 rfl ⟨rfl, rfl⟩ (zrm_ok (by omega) (by decide)) rfl rfl hl.1 (Nat.le_of_ble_eq_true rfl) dX7_mayBe_30 (fun H locs hW => ?_)
      obtain ⟨u5, eu5, h⟩ := bd_some h
      refine z_callV_i hC hW (rest := []) (c_X7_isLawful (d := 0) (Nat.le_refl _) eu5) vw_X7_257 WM_0 rfl ⟨rfl, rfl⟩ (zrm_ok (by omega) (by decide)) rfl rfl hl.1 (Nat.le_of_ble_eq_true rfl) dX7_mayBe_33 (fun H locs hW => ?_)
      refine lv_if_eq (tgt := 43) hx hb dX7_mayBe_36 (by decide) (fun c6 => ?_) (fun c6 => ?_)
      · have h := ifp c6 h
        refine lv_iconst (v := 0) hx hb dX7_mayBe_43 (by decide) ?_
        have h := Option.some.inj h
        subst h
        exact hret _ _ _ _ _ dX7_mayBe_44 rfl rfl hW
      · have h := ifn c6 h
        refine lv_iconst (v := 1) hx hb dX7_mayBe_39 (by decide) ?_
        refine lv_goto (tgt := 44) hx hb dX7_mayBe_40 (by decide) ?_
        have h := Option.some.inj h
        subst h
        exact hret _ _ _ _ _ dX7_mayBe_44 rfl rfl hW
set_option maxHeartbeats 4000000 in
set_option maxRecDepth 100000 in
theorem c_X7_priceOf {a1 : Int32} {d : Nat} {res : Int32} (hd : 0 ≤ d) (h : f_X7_priceOf a1 M_doors M_price M_olds = some res) : zMi l yX7_priceOf cX7_priceOf 4 .int (zrm d) [.ref (ρ 0), .int a1] D q (WM q ρ M_code M_doors M_price M_year M_joins M_joinA M_joinB M_walls M_wallA M_wallB M_cost M_olds M_near M_doneMany M_undoneMany M_changeOf M_changeAt M_before M_behind M_tape M_taped M_here M_fault M_open M_laid M_act M_with M_lineMany M_testEnd M_lineEnd M_facts M_pile M_hasLaw M_far M_within M_tooNear M_dried M_isOn M_wasOn M_bodies M_kind M_traces M_traced M_holds M_size M_elements M_shifted) sz res (WM q ρ M_code M_doors M_price M_year M_joins M_joinA M_joinB M_walls M_wallA M_wallB M_cost M_olds M_near M_doneMany M_undoneMany M_changeOf M_changeAt M_before M_behind M_tape M_taped M_here M_fault M_open M_laid M_act M_with M_lineMany M_testEnd M_lineEnd M_facts M_pile M_hasLaw M_far M_within M_tooNear M_dried M_isOn M_wasOn M_bodies M_kind M_traces M_traced M_holds M_size M_elements M_shifted) := by
  refine zMet_i (own := RX7) _ (by decide) rfl (Nat.le_of_ble_eq_true rfl) ?_
  intro p e s m args below meth c A ls Q hC hW hl hret
  have hx := hC.1
  have hb := hC.2.1
  have hl : lv_has ls 4 [(0, .ref (ρ 0)), (1, .int a1)] := hl
  have b37 : ∀ {x1 : Int32} {x2 : Int32} {x3 : Int32} {k4 : Int32 → Int32 → Option (Int32)} (hk4 : ∀ {x2 : Int32} {x3 : Int32} {H : Heap} {locs : List Loc} {ls : Array Slot}, k4 x2 x3 = some res → zW D A s.heap (WM q ρ M_code M_doors M_price M_year M_joins M_joinA M_joinB M_walls M_wallA M_wallB M_cost M_olds M_near M_doneMany M_undoneMany M_changeOf M_changeAt M_before M_behind M_tape M_taped M_here M_fault M_open M_laid M_act M_with M_lineMany M_testEnd M_lineEnd M_facts M_pile M_hasLaw M_far M_within M_tooNear M_dried M_isOn M_wasOn M_bodies M_kind M_traces M_traced M_holds M_size M_elements M_shifted) H locs → lv_has ls 4 [(0, .ref (ρ 0)), (1, .int x1), (2, .int x2), (3, .int x3)] → W p l e (zrm d) s m args below meth c H locs 0 0 Q (F0 m 4 ls [])) {H : Heap} {locs : List Loc} {ls : Array Slot}, f_X7_priceOf_b37 k4 x1 x2 x3 M_doors M_price M_olds = some res → zW D A s.heap (WM q ρ M_code M_doors M_price M_year M_joins M_joinA M_joinB M_walls M_wallA M_wallB M_cost M_olds M_near M_doneMany M_undoneMany M_changeOf M_changeAt M_before M_behind M_tape M_taped M_here M_fault M_open M_laid M_act M_with M_lineMany M_testEnd M_lineEnd M_facts M_pile M_hasLaw M_far M_within M_tooNear M_dried M_isOn M_wasOn M_bodies M_kind M_traces M_traced M_holds M_size M_elements M_shifted) H locs → lv_has ls 4 [(0, .ref (ρ 0)), (1, .int x1), (2, .int x2), (3, .int x3)] → W p l e (zrm d) s m args below meth c H locs 0 0 Q (F0 m 37 ls []) := by
    intro x1 x2 x3 k4 hk4 H locs ls h hW hl
    unfold f_X7_priceOf_b37 at h
    refine lv_iinc (v := (x3 + 1)) (lv' := [(3, .int (x3 + 1)), (0, .ref (ρ 0)), (1, .int x1), (2, .int x2)]) hx hb dX7_priceOf_37 hl (k := 3) rfl rfl (by decide) rfl (fun ls hl => ?_)
    refine lv_goto (tgt := 4) hx hb dX7_priceOf_40 (by decide) ?_
    exact hk4 h hW (lv_sub hl [1, 2, 3, 0] rfl)
  have b4 : ∀ {x1 : Int32} {n : Nat} {x2 : Int32} {x3 : Int32} {H : Heap} {locs : List Loc} {ls : Array Slot}, f_X7_priceOf_b4 x1 M_doors M_price M_olds n x2 x3 = some res → zW D A s.heap (WM q ρ M_code M_doors M_price M_year M_joins M_joinA M_joinB M_walls M_wallA M_wallB M_cost M_olds M_near M_doneMany M_undoneMany M_changeOf M_changeAt M_before M_behind M_tape M_taped M_here M_fault M_open M_laid M_act M_with M_lineMany M_testEnd M_lineEnd M_facts M_pile M_hasLaw M_far M_within M_tooNear M_dried M_isOn M_wasOn M_bodies M_kind M_traces M_traced M_holds M_size M_elements M_shifted) H locs → lv_has ls 4 [(0, .ref (ρ 0)), (1, .int x1), (2, .int x2), (3, .int x3)] → W p l e (zrm d) s m args below meth c H locs 0 0 Q (F0 m 4 ls []) := by
    intro x1
    intro n
    induction n with
    | zero =>
      intro x2 x3 H locs ls h
      rw [f_X7_priceOf_b4] at h
      cases h
    | succ n ih =>
      intro x2 x3 H locs ls h hW hl
      rw [f_X7_priceOf_b4] at h
      refine lv_iload_n hx hb dX7_priceOf_4 rfl (lv_at hl 3 rfl) ?_
      refine lv_aload_n hx hb dX7_priceOf_5 rfl (lv_at hl 0 rfl) ?_
      refine z_get hC hW fg_X7_111 0 WM_0 rfl dX7_priceOf_6 ?_
      refine lv_icmp_ge (tgt := 43) hx hb dX7_priceOf_9 (by decide) (fun c1 => ?_) (fun c1 => ?_)
      · have h := ifp c1 h
        refine lv_iload_n hx hb dX7_priceOf_43 rfl (lv_at hl 2 rfl) ?_
        have h := Option.some.inj h
        subst h
        exact hret _ _ _ _ _ dX7_priceOf_44 rfl rfl hW
      · have h := ifn c1 h
        refine lv_iload_n hx hb dX7_priceOf_12 rfl (lv_at hl 1 rfl) ?_
        refine lv_aload_n hx hb dX7_priceOf_13 rfl (lv_at hl 0 rfl) ?_
        refine z_get hC hW fg_X7_141 0 WM_0 rfl dX7_priceOf_14 ?_
        refine lv_iconst (v := (-1)) hx hb dX7_priceOf_17 (by decide) ?_
        refine lv_ixor hx hb dX7_priceOf_18 ?_
        refine lv_iand hx hb dX7_priceOf_19 ?_
        refine lv_iload_n hx hb dX7_priceOf_20 rfl (lv_at hl 3 rfl) ?_
        refine lv_ishr hx hb dX7_priceOf_21 ?_
        refine lv_iconst (v := 1) hx hb dX7_priceOf_22 (by decide) ?_
        refine lv_iand hx hb dX7_priceOf_23 ?_
        refine lv_iconst (v := 1) hx hb dX7_priceOf_24 (by decide) ?_
        refine lv_icmp_ne (tgt := 37) hx hb dX7_priceOf_25 (by decide) (fun c2 => ?_) (fun c2 => ?_)
        · have h := ifn c2 h
          exact b37 ih h hW (lv_sub hl [0, 1, 2, 3] rfl)
        · have h := ifp c2 h
          refine lv_iload_n hx hb dX7_priceOf_28 rfl (lv_at hl 2 rfl) ?_
          refine lv_aload_n hx hb dX7_priceOf_29 rfl (lv_at hl 0 rfl) ?_
          refine z_get hC hW fg_X7_7 0 WM_0 rfl dX7_priceOf_30 ?_
          refine lv_iload_n hx hb dX7_priceOf_33 rfl (lv_at hl 3 rfl) ?_
          obtain ⟨g3, h⟩ := ix_some h
          refine z_iald hC hW 1 WM_1 g3 dX7_priceOf_34 ?_
          refine lv_iadd hx hb dX7_priceOf_35 ?_
          refine lv_istore_n (lv' := [(2, .int (x2 + (M_price (Int32.toNatClampNeg x3)))), (0, .ref (ρ 0)), (1, .int x1), (3, .int x3)]) hx hb dX7_priceOf_36 rfl hl (by decide) rfl (fun ls hl => ?_)
          exact b37 ih h hW (lv_sub hl [1, 2, 0, 3] rfl)
  unfold f_X7_priceOf at h
  refine lv_iconst (v := 0) hx hb dX7_priceOf_0 (by decide) ?_
  refine lv_istore_n (lv' := [(2, .int 0), (0, .ref (ρ 0)), (1, .int a1)]) hx hb dX7_priceOf_1 rfl hl (by decide) rfl (fun ls hl => ?_)
  refine lv_iconst (v := 0) hx hb dX7_priceOf_2 (by decide) ?_
  refine lv_istore_n (lv' := [(3, .int 0), (2, .int 0), (0, .ref (ρ 0)), (1, .int a1)]) hx hb dX7_priceOf_3 rfl hl (by decide) rfl (fun ls hl => ?_)
  exact b4 h hW (lv_sub hl [2, 3, 1, 0] rfl)
set_option maxHeartbeats 4000000 in
set_option maxRecDepth 100000 in
theorem c_X7_bitsOf {a0 : Int32} {d : Nat} {res : Int32} (hd : 0 ≤ d) (h : f_X7_bitsOf a0 = some res) : zMi l yX7_bitsOf cX7_bitsOf 3 .int (zrm d) [.int a0] D q (WM q ρ M_code M_doors M_price M_year M_joins M_joinA M_joinB M_walls M_wallA M_wallB M_cost M_olds M_near M_doneMany M_undoneMany M_changeOf M_changeAt M_before M_behind M_tape M_taped M_here M_fault M_open M_laid M_act M_with M_lineMany M_testEnd M_lineEnd M_facts M_pile M_hasLaw M_far M_within M_tooNear M_dried M_isOn M_wasOn M_bodies M_kind M_traces M_traced M_holds M_size M_elements M_shifted) sz res (WM q ρ M_code M_doors M_price M_year M_joins M_joinA M_joinB M_walls M_wallA M_wallB M_cost M_olds M_near M_doneMany M_undoneMany M_changeOf M_changeAt M_before M_behind M_tape M_taped M_here M_fault M_open M_laid M_act M_with M_lineMany M_testEnd M_lineEnd M_facts M_pile M_hasLaw M_far M_within M_tooNear M_dried M_isOn M_wasOn M_bodies M_kind M_traces M_traced M_holds M_size M_elements M_shifted) := by
  refine zMet_i (own := RX7) _ (by decide) rfl (Nat.le_of_ble_eq_true rfl) ?_
  intro p e s m args below meth c A ls Q hC hW hl hret
  have hx := hC.1
  have hb := hC.2.1
  have hl : lv_has ls 3 [(0, .int a0)] := hl
  have b4 : ∀ {n : Nat} {x1 : Int32} {x2 : Int32} {H : Heap} {locs : List Loc} {ls : Array Slot}, f_X7_bitsOf_b4 n x1 x2 = some res → zW D A s.heap (WM q ρ M_code M_doors M_price M_year M_joins M_joinA M_joinB M_walls M_wallA M_wallB M_cost M_olds M_near M_doneMany M_undoneMany M_changeOf M_changeAt M_before M_behind M_tape M_taped M_here M_fault M_open M_laid M_act M_with M_lineMany M_testEnd M_lineEnd M_facts M_pile M_hasLaw M_far M_within M_tooNear M_dried M_isOn M_wasOn M_bodies M_kind M_traces M_traced M_holds M_size M_elements M_shifted) H locs → lv_has ls 3 [(1, .int x1), (2, .int x2)] → W p l e (zrm d) s m args below meth c H locs 0 0 Q (F0 m 4 ls []) := by
    intro n
    induction n with
    | zero =>
      intro x1 x2 H locs ls h
      rw [f_X7_bitsOf_b4] at h
      cases h
    | succ n ih =>
      intro x1 x2 H locs ls h hW hl
      rw [f_X7_bitsOf_b4] at h
      refine lv_iload_n hx hb dX7_bitsOf_4 rfl (lv_at hl 1 rfl) ?_
      refine lv_if_eq (tgt := 20) hx hb dX7_bitsOf_5 (by decide) (fun c1 => ?_) (fun c1 => ?_)
      · have h := ifp c1 h
        refine lv_iload_n hx hb dX7_bitsOf_20 rfl (lv_at hl 0 rfl) ?_
        have h := Option.some.inj h
        subst h
        exact hret _ _ _ _ _ dX7_bitsOf_21 rfl rfl hW
      · have h := ifn c1 h
        refine lv_iinc (v := (x1 + 1)) (lv' := [(1, .int (x1 + 1)), (2, .int x2)]) hx hb dX7_bitsOf_8 hl (k := 0) rfl rfl (by decide) rfl (fun ls hl => ?_)
        refine lv_iload_n hx hb dX7_bitsOf_11 rfl (lv_at hl 1 rfl) ?_
        refine lv_iload_n hx hb dX7_bitsOf_12 rfl (lv_at hl 1 rfl) ?_
        refine lv_iconst (v := 1) hx hb dX7_bitsOf_13 (by decide) ?_
        refine lv_isub hx hb dX7_bitsOf_14 ?_
        refine lv_iand hx hb dX7_bitsOf_15 ?_
        refine lv_istore_n (lv' := [(2, .int (x2 &&& (x2 - 1))), (1, .int (x1 + 1))]) hx hb dX7_bitsOf_16 rfl hl (by decide) rfl (fun ls hl => ?_)
        refine lv_goto (tgt := 4) hx hb dX7_bitsOf_17 (by decide) ?_
        exact ih h hW (lv_sub hl [1, 0] rfl)
  unfold f_X7_bitsOf at h
  refine lv_iconst (v := 0) hx hb dX7_bitsOf_0 (by decide) ?_
  refine lv_istore_n (lv' := [(1, .int 0), (0, .int a0)]) hx hb dX7_bitsOf_1 rfl hl (by decide) rfl (fun ls hl => ?_)
  refine lv_iload_n hx hb dX7_bitsOf_2 rfl (lv_at hl 1 rfl) ?_
  refine lv_istore_n (lv' := [(2, .int a0), (1, .int 0), (0, .int a0)]) hx hb dX7_bitsOf_3 rfl hl (by decide) rfl (fun ls hl => ?_)
  exact b4 h hW (lv_sub hl [1, 0] rfl)
set_option maxHeartbeats 4000000 in
set_option maxRecDepth 100000 in
theorem c_X7_rank {a1 : Int32} {a2 : Int32} {d : Nat} {res : Int32} (hd : 1 ≤ d) (h : f_X7_rank a1 a2 M_doors M_price M_olds = some res) : zMi l yX7_rank cX7_rank 3 .int (zrm d) [.ref (ρ 0), .int a1, .int a2] D q (WM q ρ M_code M_doors M_price M_year M_joins M_joinA M_joinB M_walls M_wallA M_wallB M_cost M_olds M_near M_doneMany M_undoneMany M_changeOf M_changeAt M_before M_behind M_tape M_taped M_here M_fault M_open M_laid M_act M_with M_lineMany M_testEnd M_lineEnd M_facts M_pile M_hasLaw M_far M_within M_tooNear M_dried M_isOn M_wasOn M_bodies M_kind M_traces M_traced M_holds M_size M_elements M_shifted) sz res (WM q ρ M_code M_doors M_price M_year M_joins M_joinA M_joinB M_walls M_wallA M_wallB M_cost M_olds M_near M_doneMany M_undoneMany M_changeOf M_changeAt M_before M_behind M_tape M_taped M_here M_fault M_open M_laid M_act M_with M_lineMany M_testEnd M_lineEnd M_facts M_pile M_hasLaw M_far M_within M_tooNear M_dried M_isOn M_wasOn M_bodies M_kind M_traces M_traced M_holds M_size M_elements M_shifted) := by
  refine zMet_i (own := RX7) _ (by decide) rfl (Nat.le_of_ble_eq_true rfl) ?_
  intro p e s m args below meth c A ls Q hC hW hl hret
  have hx := hC.1
  have hb := hC.2.1
  have hl : lv_has ls 3 [(0, .ref (ρ 0)), (1, .int a1), (2, .int a2)] := hl
  unfold f_X7_rank at h
  refine lv_iload_n hx hb dX7_rank_0 rfl (lv_at hl 2 rfl) ?_
  refine lv_if_ne (tgt := 11) hx hb dX7_rank_1 (by decide) (fun c1 => ?_) (fun c1 => ?_)
  · have h := ifn c1 h
    refine lv_iload_n hx hb dX7_rank_11 rfl (lv_at hl 2 rfl) ?_
    refine lv_iconst (v := 1) hx hb dX7_rank_12 (by decide) ?_
    refine lv_icmp_ne (tgt := 24) hx hb dX7_rank_13 (by decide) (fun c2 => ?_) (fun c2 => ?_)
    · have h := ifn c2 h
      refine lv_aload_n hx hb dX7_rank_24 rfl (lv_at hl 0 rfl) ?_
      refine lv_iload_n hx hb dX7_rank_25 rfl (lv_at hl 1 rfl) ?_
      obtain ⟨u3, eu3, h⟩ := bd_some h
      refine z_callV_i hC hW (rest := []) (c_X7_priceOf (d := 0) (Nat.le_refl _) eu3) vw_X7_267 WM_0 rfl ⟨rfl, rfl⟩ (zrm_ok (by omega) (by decide)) rfl rfl hl.1 (Nat.le_of_ble_eq_true rfl) dX7_rank_26 (fun H locs hW => ?_)
      have h := Option.some.inj h
      subst h
      exact hret _ _ _ _ _ dX7_rank_29 rfl rfl hW
    · have h := ifp c2 h
      refine lv_iload_n hx hb dX7_rank_16 rfl (lv_at hl 1 rfl) ?_
      obtain ⟨u4, eu4, h⟩ := bd_some h
      refine z_callS_i hC hW (rest := []) (c_X7_bitsOf (d := 0) (Nat.le_refl _) eu4) sw_X7_264 ⟨rfl, rfl⟩ (zrm_ok (by omega) (by decide)) rfl rfl hl.1 (Nat.le_of_ble_eq_true rfl) dX7_rank_17 (fun H locs hW => ?_)
      refine lv_ineg hx hb dX7_rank_20 ?_
      refine lv_goto (tgt := 29) hx hb dX7_rank_21 (by decide) ?_
      have h := Option.some.inj h
      subst h
      exact hret _ _ _ _ _ dX7_rank_29 rfl rfl hW
  · have h := ifp c1 h
    refine lv_iload_n hx hb dX7_rank_4 rfl (lv_at hl 1 rfl) ?_
    obtain ⟨u5, eu5, h⟩ := bd_some h
    refine z_callS_i hC hW (rest := []) (c_X7_bitsOf (d := 0) (Nat.le_refl _) eu5) sw_X7_264 ⟨rfl, rfl⟩ (zrm_ok (by omega) (by decide)) rfl rfl hl.1 (Nat.le_of_ble_eq_true rfl) dX7_rank_5 (fun H locs hW => ?_)
    refine lv_goto (tgt := 29) hx hb dX7_rank_8 (by decide) ?_
    have h := Option.some.inj h
    subst h
    exact hret _ _ _ _ _ dX7_rank_29 rfl rfl hW
set_option maxHeartbeats 4000000 in
set_option maxRecDepth 100000 in
theorem c_X7_bestBy {a1 : Int32} {d : Nat} {res : Int32 × (Nat → Int32) × (Nat → Int32) × (Nat → Int32) × (Nat → Int32) × (Nat → Int32)} (hd : 5 ≤ d) (h : f_X7_bestBy a1 M_doors M_price M_year M_joins M_joinA M_joinB M_olds M_near M_act M_with M_lineMany M_testEnd M_lineEnd M_facts M_pile M_hasLaw M_far M_within M_tooNear M_dried = some res) : zMi l yX7_bestBy cX7_bestBy 5 .int (zrm d) [.ref (ρ 0), .int a1] D q (WM q ρ M_code M_doors M_price M_year M_joins M_joinA M_joinB M_walls M_wallA M_wallB M_cost M_olds M_near M_doneMany M_undoneMany M_changeOf M_changeAt M_before M_behind M_tape M_taped M_here M_fault M_open M_laid M_act M_with M_lineMany M_testEnd M_lineEnd M_facts M_pile M_hasLaw M_far M_within M_tooNear M_dried M_isOn M_wasOn M_bodies M_kind M_traces M_traced M_holds M_size M_elements M_shifted) sz res.1 (WM q ρ M_code M_doors M_price M_year M_joins M_joinA M_joinB M_walls M_wallA M_wallB M_cost M_olds M_near M_doneMany M_undoneMany M_changeOf M_changeAt M_before M_behind M_tape M_taped M_here M_fault M_open M_laid M_act M_with M_lineMany M_testEnd M_lineEnd res.2.1 res.2.2.1 M_hasLaw res.2.2.2.1 res.2.2.2.2.1 res.2.2.2.2.2 M_dried M_isOn M_wasOn M_bodies M_kind M_traces M_traced M_holds M_size M_elements M_shifted) := by
  refine zMet_i (own := RX7) _ (by decide) rfl (Nat.le_of_ble_eq_true rfl) ?_
  intro p e s m args below meth c A ls Q hC hW hl hret
  have hx := hC.1
  have hb := hC.2.1
  have hl : lv_has ls 5 [(0, .ref (ρ 0)), (1, .int a1)] := hl
  have b63 : ∀ {x1 : Int32} {x2 : Int32} {x3 : Int32} {x4 : Int32} {M_facts : Nat → Int32} {M_pile : Nat → Int32} {M_far : Nat → Int32} {M_within : Nat → Int32} {M_tooNear : Nat → Int32} {k16 : Int32 → Int32 → Int32 → Option (Int32 × (Nat → Int32) × (Nat → Int32) × (Nat → Int32) × (Nat → Int32) × (Nat → Int32))} (hk16 : ∀ {x2 : Int32} {x3 : Int32} {x4 : Int32} {H : Heap} {locs : List Loc} {ls : Array Slot}, k16 x2 x3 x4 = some res → zW D A s.heap (WM q ρ M_code M_doors M_price M_year M_joins M_joinA M_joinB M_walls M_wallA M_wallB M_cost M_olds M_near M_doneMany M_undoneMany M_changeOf M_changeAt M_before M_behind M_tape M_taped M_here M_fault M_open M_laid M_act M_with M_lineMany M_testEnd M_lineEnd M_facts M_pile M_hasLaw M_far M_within M_tooNear M_dried M_isOn M_wasOn M_bodies M_kind M_traces M_traced M_holds M_size M_elements M_shifted) H locs → lv_has ls 5 [(0, .ref (ρ 0)), (1, .int x1), (2, .int x2), (3, .int x3), (4, .int x4)] → W p l e (zrm d) s m args below meth c H locs 0 0 Q (F0 m 16 ls [])) {H : Heap} {locs : List Loc} {ls : Array Slot}, f_X7_bestBy_b63 k16 x1 x2 x3 x4 M_doors M_price M_olds M_facts M_pile M_far M_within M_tooNear M_dried = some res → zW D A s.heap (WM q ρ M_code M_doors M_price M_year M_joins M_joinA M_joinB M_walls M_wallA M_wallB M_cost M_olds M_near M_doneMany M_undoneMany M_changeOf M_changeAt M_before M_behind M_tape M_taped M_here M_fault M_open M_laid M_act M_with M_lineMany M_testEnd M_lineEnd M_facts M_pile M_hasLaw M_far M_within M_tooNear M_dried M_isOn M_wasOn M_bodies M_kind M_traces M_traced M_holds M_size M_elements M_shifted) H locs → lv_has ls 5 [(0, .ref (ρ 0)), (1, .int x1), (2, .int x2), (3, .int x3), (4, .int x4)] → W p l e (zrm d) s m args below meth c H locs 0 0 Q (F0 m 63 ls []) := by
    intro x1 x2 x3 x4 M_facts M_pile M_far M_within M_tooNear k16 hk16 H locs ls h hW hl
    unfold f_X7_bestBy_b63 at h
    refine lv_iinc (v := (x4 + 1)) (lv' := [(4, .int (x4 + 1)), (0, .ref (ρ 0)), (1, .int x1), (2, .int x2), (3, .int x3)]) hx hb dX7_bestBy_63 hl (k := 4) rfl rfl (by decide) rfl (fun ls hl => ?_)
    refine lv_goto (tgt := 16) hx hb dX7_bestBy_66 (by decide) ?_
    exact hk16 h hW (lv_sub hl [1, 2, 3, 4, 0] rfl)
  have b52 : ∀ {x1 : Int32} {x4 : Int32} {M_facts : Nat → Int32} {M_pile : Nat → Int32} {M_far : Nat → Int32} {M_within : Nat → Int32} {M_tooNear : Nat → Int32} {k16 : Int32 → Int32 → Int32 → Option (Int32 × (Nat → Int32) × (Nat → Int32) × (Nat → Int32) × (Nat → Int32) × (Nat → Int32))} (hk16 : ∀ {x2 : Int32} {x3 : Int32} {x4 : Int32} {H : Heap} {locs : List Loc} {ls : Array Slot}, k16 x2 x3 x4 = some res → zW D A s.heap (WM q ρ M_code M_doors M_price M_year M_joins M_joinA M_joinB M_walls M_wallA M_wallB M_cost M_olds M_near M_doneMany M_undoneMany M_changeOf M_changeAt M_before M_behind M_tape M_taped M_here M_fault M_open M_laid M_act M_with M_lineMany M_testEnd M_lineEnd M_facts M_pile M_hasLaw M_far M_within M_tooNear M_dried M_isOn M_wasOn M_bodies M_kind M_traces M_traced M_holds M_size M_elements M_shifted) H locs → lv_has ls 5 [(0, .ref (ρ 0)), (1, .int x1), (2, .int x2), (3, .int x3), (4, .int x4)] → W p l e (zrm d) s m args below meth c H locs 0 0 Q (F0 m 16 ls [])) {H : Heap} {locs : List Loc} {ls : Array Slot}, f_X7_bestBy_b52 k16 x1 x4 M_doors M_price M_olds M_facts M_pile M_far M_within M_tooNear M_dried = some res → zW D A s.heap (WM q ρ M_code M_doors M_price M_year M_joins M_joinA M_joinB M_walls M_wallA M_wallB M_cost M_olds M_near M_doneMany M_undoneMany M_changeOf M_changeAt M_before M_behind M_tape M_taped M_here M_fault M_open M_laid M_act M_with M_lineMany M_testEnd M_lineEnd M_facts M_pile M_hasLaw M_far M_within M_tooNear M_dried M_isOn M_wasOn M_bodies M_kind M_traces M_traced M_holds M_size M_elements M_shifted) H locs → lv_has ls 5 [(0, .ref (ρ 0)), (1, .int x1), (4, .int x4)] → W p l e (zrm d) s m args below meth c H locs 0 0 Q (F0 m 52 ls []) := by
    intro x1 x4 M_facts M_pile M_far M_within M_tooNear k16 hk16 H locs ls h hW hl
    unfold f_X7_bestBy_b52 at h
    refine lv_iload hx hb dX7_bestBy_52 (lv_at hl 2 rfl) ?_
    refine lv_istore_n (lv' := [(2, .int x4), (0, .ref (ρ 0)), (1, .int x1), (4, .int x4)]) hx hb dX7_bestBy_54 rfl hl (by decide) rfl (fun ls hl => ?_)
    refine lv_aload_n hx hb dX7_bestBy_55 rfl (lv_at hl 1 rfl) ?_
    refine lv_iload hx hb dX7_bestBy_56 (lv_at hl 3 rfl) ?_
    refine lv_iload_n hx hb dX7_bestBy_58 rfl (lv_at hl 2 rfl) ?_
    obtain ⟨u8, eu8, h⟩ := bd_some h
    refine z_callV_i hC hW (rest := []) (c_X7_rank (d := 1) (Nat.le_refl _) eu8) vw_X7_273 WM_0 rfl ⟨rfl, rfl⟩ (zrm_ok (by omega) (by decide)) rfl rfl hl.1 (Nat.le_of_ble_eq_true rfl) dX7_bestBy_59 (fun H locs hW => ?_)
    refine lv_istore_n (lv' := [(3, .int u8), (2, .int x4), (0, .ref (ρ 0)), (1, .int x1), (4, .int x4)]) hx hb dX7_bestBy_62 rfl hl (by decide) rfl (fun ls hl => ?_)
    exact b63 hk16 h hW (lv_sub hl [2, 3, 1, 0, 4] rfl)
  have b16 : ∀ {x1 : Int32} {M_facts : Nat → Int32} {M_pile : Nat → Int32} {M_far : Nat → Int32} {M_within : Nat → Int32} {M_tooNear : Nat → Int32} {n : Nat} {x2 : Int32} {x3 : Int32} {x4 : Int32} {H : Heap} {locs : List Loc} {ls : Array Slot}, f_X7_bestBy_b16 x1 M_doors M_price M_olds M_facts M_pile M_far M_within M_tooNear M_dried n x2 x3 x4 = some res → zW D A s.heap (WM q ρ M_code M_doors M_price M_year M_joins M_joinA M_joinB M_walls M_wallA M_wallB M_cost M_olds M_near M_doneMany M_undoneMany M_changeOf M_changeAt M_before M_behind M_tape M_taped M_here M_fault M_open M_laid M_act M_with M_lineMany M_testEnd M_lineEnd M_facts M_pile M_hasLaw M_far M_within M_tooNear M_dried M_isOn M_wasOn M_bodies M_kind M_traces M_traced M_holds M_size M_elements M_shifted) H locs → lv_has ls 5 [(0, .ref (ρ 0)), (1, .int x1), (2, .int x2), (3, .int x3), (4, .int x4)] → W p l e (zrm d) s m args below meth c H locs 0 0 Q (F0 m 16 ls []) := by
    intro x1 M_facts M_pile M_far M_within M_tooNear
    intro n
    induction n with
    | zero =>
      intro x2 x3 x4 H locs ls h
      rw [f_X7_bestBy_b16] at h
      cases h
    | succ n ih =>
      intro x2 x3 x4 H locs ls h hW hl
      rw [f_X7_bestBy_b16] at h
      refine lv_iload hx hb dX7_bestBy_16 (lv_at hl 4 rfl) ?_
      refine lv_aload_n hx hb dX7_bestBy_18 rfl (lv_at hl 0 rfl) ?_
      obtain ⟨u3, eu3, h⟩ := bd_some h
      refine z_callV_i hC hW (rest := [.int x4]) (c_X7_allDoors (d := 0) (Nat.le_refl _) eu3) vw_X7_248 WM_0 rfl ⟨rfl, rfl⟩ (zrm_ok (by omega) (by decide)) rfl rfl hl.1 (Nat.le_of_ble_eq_true rfl) dX7_bestBy_19 (fun H locs hW => ?_)
      refine lv_icmp_gt (tgt := 69) hx hb dX7_bestBy_22 (by decide) (fun c4 => ?_) (fun c4 => ?_)
      · have h := ifp c4 h
        refine lv_iload_n hx hb dX7_bestBy_69 rfl (lv_at hl 2 rfl) ?_
        have h := Option.some.inj h
        subst h
        exact hret _ _ _ _ _ dX7_bestBy_70 rfl rfl hW
      · have h := ifn c4 h
        refine lv_aload_n hx hb dX7_bestBy_25 rfl (lv_at hl 0 rfl) ?_
        refine lv_iload hx hb dX7_bestBy_26 (lv_at hl 4 rfl) ?_
        obtain ⟨u5, eu5, h⟩ := bd_some h
        refine z_callV_i hC hW (rest := []) (c_X7_mayBe (d := 1) (Nat.le_refl _) eu5) vw_X7_270 WM_0 rfl ⟨rfl, rfl⟩ (zrm_ok (by omega) (by decide)) rfl rfl hl.1 (Nat.le_of_ble_eq_true rfl) dX7_bestBy_28 (fun H locs hW => ?_)
        refine lv_if_eq (tgt := 63) hx hb dX7_bestBy_31 (by decide) (fun c6 => ?_) (fun c6 => ?_)
        · have h := ifp c6 h
          exact b63 ih h hW (lv_sub hl [0, 1, 2, 3, 4] rfl)
        · have h := ifn c6 h
          refine lv_iload_n hx hb dX7_bestBy_34 rfl (lv_at hl 2 rfl) ?_
          refine lv_if_lt (tgt := 52) hx hb dX7_bestBy_35 (by decide) (fun c7 => ?_) (fun c7 => ?_)
          · have h := ifp c7 h
            exact b52 ih h hW (lv_sub hl [0, 1, 4] rfl)
          · have h := ifn c7 h
            refine lv_aload_n hx hb dX7_bestBy_38 rfl (lv_at hl 0 rfl) ?_
            refine lv_iload hx hb dX7_bestBy_39 (lv_at hl 4 rfl) ?_
            refine lv_iload_n hx hb dX7_bestBy_41 rfl (lv_at hl 1 rfl) ?_
            obtain ⟨u9, eu9, h⟩ := bd_some h
            refine z_callV_i hC hW (rest := []) (c_X7_rank (d := 1) (Nat.le_refl _) eu9) vw_X7_273 WM_0 rfl ⟨rfl, rfl⟩ (zrm_ok (by omega) (by decide)) rfl rfl hl.1 (Nat.le_of_ble_eq_true rfl) dX7_bestBy_42 (fun H locs hW => ?_)
            refine lv_iload_n hx hb dX7_bestBy_45 rfl (lv_at hl 3 rfl) ?_
            refine lv_icmp_lt (tgt := 52) hx hb dX7_bestBy_46 (by decide) (fun c10 => ?_) (fun c10 => ?_)
            · have h := ifp c10 h
              exact b52 ih h hW (lv_sub hl [0, 1, 4] rfl)
            · have h := ifn c10 h
              refine lv_goto (tgt := 63) hx hb dX7_bestBy_49 (by decide) ?_
              exact b63 ih h hW (lv_sub hl [0, 1, 2, 3, 4] rfl)
  unfold f_X7_bestBy at h
  refine lv_aload_n hx hb dX7_bestBy_0 rfl (lv_at hl 0 rfl) ?_
  refine lv_aload_n hx hb dX7_bestBy_1 rfl (lv_at hl 0 rfl) ?_
  obtain ⟨u1, eu1, h⟩ := bd_some h
  refine z_callV_i hC hW (rest := [.ref (ρ 0)]) (c_X7_allDoors (d := 0) (Nat.le_refl _) eu1) vw_X7_248 WM_0 rfl ⟨rfl, rfl⟩ (zrm_ok (by omega) (by decide)) rfl rfl hl.1 (Nat.le_of_ble_eq_true rfl) dX7_bestBy_2 (fun H locs hW => ?_)
  obtain ⟨u2, eu2, h⟩ := bd_some h
  refine z_callV_v hC hW (rest := []) (c_X7_findAll (d := 4) (Nat.le_refl _) eu2) vw_X7_261 WM_0 rfl ⟨rfl, rfl⟩ (zrm_ok (by omega) (by decide)) rfl rfl hl.1 (Nat.le_of_ble_eq_true rfl) dX7_bestBy_5 (fun H locs hW => ?_)
  refine lv_bipush (v := (-2)) hx hb dX7_bestBy_8 (by decide) ?_
  refine lv_istore_n (lv' := [(2, .int (-2)), (0, .ref (ρ 0)), (1, .int a1)]) hx hb dX7_bestBy_10 rfl hl (by decide) rfl (fun ls hl => ?_)
  refine lv_iconst (v := 0) hx hb dX7_bestBy_11 (by decide) ?_
  refine lv_istore_n (lv' := [(3, .int 0), (2, .int (-2)), (0, .ref (ρ 0)), (1, .int a1)]) hx hb dX7_bestBy_12 rfl hl (by decide) rfl (fun ls hl => ?_)
  refine lv_iconst (v := 0) hx hb dX7_bestBy_13 (by decide) ?_
  refine lv_istore (lv' := [(4, .int 0), (3, .int 0), (2, .int (-2)), (0, .ref (ρ 0)), (1, .int a1)]) hx hb dX7_bestBy_14 hl (by decide) rfl (fun ls hl => ?_)
  exact b16 h hW (lv_sub hl [3, 4, 2, 1, 0] rfl)
set_option maxHeartbeats 4000000 in
set_option maxRecDepth 100000 in
theorem c_X7_best {a1 : Int32} {d : Nat} {res : Int32 × (Nat → Int32) × (Nat → Int32) × (Nat → Int32) × (Nat → Int32) × (Nat → Int32)} (hd : 6 ≤ d) (h : f_X7_best a1 M_doors M_price M_year M_joins M_joinA M_joinB M_olds M_near M_act M_with M_lineMany M_testEnd M_lineEnd M_facts M_pile M_hasLaw M_far M_within M_tooNear M_dried = some res) : zMi l yX7_best cX7_best 2 .int (zrm d) [.ref (ρ 0), .int a1] D q (WM q ρ M_code M_doors M_price M_year M_joins M_joinA M_joinB M_walls M_wallA M_wallB M_cost M_olds M_near M_doneMany M_undoneMany M_changeOf M_changeAt M_before M_behind M_tape M_taped M_here M_fault M_open M_laid M_act M_with M_lineMany M_testEnd M_lineEnd M_facts M_pile M_hasLaw M_far M_within M_tooNear M_dried M_isOn M_wasOn M_bodies M_kind M_traces M_traced M_holds M_size M_elements M_shifted) sz res.1 (WM q ρ M_code M_doors M_price M_year M_joins M_joinA M_joinB M_walls M_wallA M_wallB M_cost M_olds M_near M_doneMany M_undoneMany M_changeOf M_changeAt M_before M_behind M_tape M_taped M_here M_fault M_open M_laid M_act M_with M_lineMany M_testEnd M_lineEnd res.2.1 res.2.2.1 M_hasLaw res.2.2.2.1 res.2.2.2.2.1 res.2.2.2.2.2 M_dried M_isOn M_wasOn M_bodies M_kind M_traces M_traced M_holds M_size M_elements M_shifted) := by
  refine zMet_i (own := RX7) _ (by decide) rfl (Nat.le_of_ble_eq_true rfl) ?_
  intro p e s m args below meth c A ls Q hC hW hl hret
  have hx := hC.1
  have hb := hC.2.1
  have hl : lv_has ls 2 [(0, .ref (ρ 0)), (1, .int a1)] := hl
  unfold f_X7_best at h
  refine lv_iload_n hx hb dX7_best_0 rfl (lv_at hl 1 rfl) ?_
  refine lv_iconst (v := 0) hx hb dX7_best_1 (by decide) ?_
  refine lv_iconst (v := 2) hx hb dX7_best_2 (by decide) ?_
  obtain ⟨u1, eu1, h⟩ := bd_some h
  refine z_callS_i hC hW (rest := []) (c_X7_in (d := 0) (Nat.le_refl _) eu1) sw_X7_114 ⟨rfl, rfl⟩ (zrm_ok (by omega) (by decide)) rfl rfl hl.1 (Nat.le_of_ble_eq_true rfl) dX7_best_3 (fun H locs hW => ?_)
  refine lv_if_eq (tgt := 17) hx hb dX7_best_6 (by decide) (fun c2 => ?_) (fun c2 => ?_)
  · have h := ifp c2 h
    refine lv_iconst (v := (-1)) hx hb dX7_best_17 (by decide) ?_
    have h := Option.some.inj h
    subst h
    exact hret _ _ _ _ _ dX7_best_18 rfl rfl hW
  · have h := ifn c2 h
    refine lv_aload_n hx hb dX7_best_9 rfl (lv_at hl 0 rfl) ?_
    refine lv_iload_n hx hb dX7_best_10 rfl (lv_at hl 1 rfl) ?_
    obtain ⟨u3, eu3, h⟩ := bd_some h
    refine z_callV_i hC hW (rest := []) (c_X7_bestBy (d := 5) (Nat.le_refl _) eu3) vw_X7_276 WM_0 rfl ⟨rfl, rfl⟩ (zrm_ok (by omega) (by decide)) rfl rfl hl.1 (Nat.le_of_ble_eq_true rfl) dX7_best_11 (fun H locs hW => ?_)
    refine lv_goto (tgt := 18) hx hb dX7_best_14 (by decide) ?_
    have h := Option.some.inj h
    subst h
    exact hret _ _ _ _ _ dX7_best_18 rfl rfl hW
set_option maxHeartbeats 4000000 in
set_option maxRecDepth 100000 in
theorem c_X7_all {a1 : Int32} {d : Nat} {res : Int32 × (Nat → Int32) × (Nat → Int32) × (Nat → Int32) × (Nat → Int32) × (Nat → Int32)} (hd : 5 ≤ d) (h : f_X7_all a1 M_doors M_price M_year M_joins M_joinA M_joinB M_olds M_near M_act M_with M_lineMany M_testEnd M_lineEnd M_facts M_pile M_hasLaw M_far M_within M_tooNear M_dried = some res) : zMi l yX7_all cX7_all 6 .int (zrm d) [.ref (ρ 0), .int a1] D q (WM q ρ M_code M_doors M_price M_year M_joins M_joinA M_joinB M_walls M_wallA M_wallB M_cost M_olds M_near M_doneMany M_undoneMany M_changeOf M_changeAt M_before M_behind M_tape M_taped M_here M_fault M_open M_laid M_act M_with M_lineMany M_testEnd M_lineEnd M_facts M_pile M_hasLaw M_far M_within M_tooNear M_dried M_isOn M_wasOn M_bodies M_kind M_traces M_traced M_holds M_size M_elements M_shifted) sz res.1 (WM q ρ M_code M_doors M_price M_year M_joins M_joinA M_joinB M_walls M_wallA M_wallB M_cost M_olds M_near M_doneMany M_undoneMany M_changeOf M_changeAt M_before M_behind M_tape M_taped M_here M_fault M_open M_laid M_act M_with M_lineMany M_testEnd M_lineEnd res.2.1 res.2.2.1 M_hasLaw res.2.2.2.1 res.2.2.2.2.1 res.2.2.2.2.2 M_dried M_isOn M_wasOn M_bodies M_kind M_traces M_traced M_holds M_size M_elements M_shifted) := by
  refine zMet_i (own := RX7) _ (by decide) rfl (Nat.le_of_ble_eq_true rfl) ?_
  intro p e s m args below meth c A ls Q hC hW hl hret
  have hx := hC.1
  have hb := hC.2.1
  have hl : lv_has ls 6 [(0, .ref (ρ 0)), (1, .int a1)] := hl
  have b68 : ∀ {x1 : Int32} {x2 : Int32} {x3 : Int32} {x4 : Int32} {x5 : Int32} {M_facts : Nat → Int32} {M_pile : Nat → Int32} {M_far : Nat → Int32} {M_within : Nat → Int32} {M_tooNear : Nat → Int32} {k32 : Int32 → Int32 → Int32 → Int32 → Option (Int32 × (Nat → Int32) × (Nat → Int32) × (Nat → Int32) × (Nat → Int32) × (Nat → Int32))} (hk32 : ∀ {x2 : Int32} {x3 : Int32} {x4 : Int32} {x5 : Int32} {H : Heap} {locs : List Loc} {ls : Array Slot}, k32 x2 x3 x4 x5 = some res → zW D A s.heap (WM q ρ M_code M_doors M_price M_year M_joins M_joinA M_joinB M_walls M_wallA M_wallB M_cost M_olds M_near M_doneMany M_undoneMany M_changeOf M_changeAt M_before M_behind M_tape M_taped M_here M_fault M_open M_laid M_act M_with M_lineMany M_testEnd M_lineEnd M_facts M_pile M_hasLaw M_far M_within M_tooNear M_dried M_isOn M_wasOn M_bodies M_kind M_traces M_traced M_holds M_size M_elements M_shifted) H locs → lv_has ls 6 [(0, .ref (ρ 0)), (1, .int x1), (2, .int x2), (3, .int x3), (4, .int x4), (5, .int x5)] → W p l e (zrm d) s m args below meth c H locs 0 0 Q (F0 m 32 ls [])) {H : Heap} {locs : List Loc} {ls : Array Slot}, f_X7_all_b68 k32 x1 x2 x3 x4 x5 M_doors M_price M_olds M_facts M_pile M_far M_within M_tooNear M_dried = some res → zW D A s.heap (WM q ρ M_code M_doors M_price M_year M_joins M_joinA M_joinB M_walls M_wallA M_wallB M_cost M_olds M_near M_doneMany M_undoneMany M_changeOf M_changeAt M_before M_behind M_tape M_taped M_here M_fault M_open M_laid M_act M_with M_lineMany M_testEnd M_lineEnd M_facts M_pile M_hasLaw M_far M_within M_tooNear M_dried M_isOn M_wasOn M_bodies M_kind M_traces M_traced M_holds M_size M_elements M_shifted) H locs → lv_has ls 6 [(0, .ref (ρ 0)), (1, .int x1), (2, .int x2), (3, .int x3), (4, .int x4), (5, .int x5)] → W p l e (zrm d) s m args below meth c H locs 0 0 Q (F0 m 68 ls []) := by
    intro x1 x2 x3 x4 x5 M_facts M_pile M_far M_within M_tooNear k32 hk32 H locs ls h hW hl
    unfold f_X7_all_b68 at h
    refine lv_iinc (v := (x5 + 1)) (lv' := [(5, .int (x5 + 1)), (0, .ref (ρ 0)), (1, .int x1), (2, .int x2), (3, .int x3), (4, .int x4)]) hx hb dX7_all_68 hl (k := 5) rfl rfl (by decide) rfl (fun ls hl => ?_)
    refine lv_goto (tgt := 32) hx hb dX7_all_71 (by decide) ?_
    exact hk32 h hW (lv_sub hl [1, 2, 3, 4, 5, 0] rfl)
  have b32 : ∀ {x1 : Int32} {M_facts : Nat → Int32} {M_pile : Nat → Int32} {M_far : Nat → Int32} {M_within : Nat → Int32} {M_tooNear : Nat → Int32} {n : Nat} {x2 : Int32} {x3 : Int32} {x4 : Int32} {x5 : Int32} {H : Heap} {locs : List Loc} {ls : Array Slot}, f_X7_all_b32 x1 M_doors M_price M_olds M_facts M_pile M_far M_within M_tooNear M_dried n x2 x3 x4 x5 = some res → zW D A s.heap (WM q ρ M_code M_doors M_price M_year M_joins M_joinA M_joinB M_walls M_wallA M_wallB M_cost M_olds M_near M_doneMany M_undoneMany M_changeOf M_changeAt M_before M_behind M_tape M_taped M_here M_fault M_open M_laid M_act M_with M_lineMany M_testEnd M_lineEnd M_facts M_pile M_hasLaw M_far M_within M_tooNear M_dried M_isOn M_wasOn M_bodies M_kind M_traces M_traced M_holds M_size M_elements M_shifted) H locs → lv_has ls 6 [(0, .ref (ρ 0)), (1, .int x1), (2, .int x2), (3, .int x3), (4, .int x4), (5, .int x5)] → W p l e (zrm d) s m args below meth c H locs 0 0 Q (F0 m 32 ls []) := by
    intro x1 M_facts M_pile M_far M_within M_tooNear
    intro n
    induction n with
    | zero =>
      intro x2 x3 x4 x5 H locs ls h
      rw [f_X7_all_b32] at h
      cases h
    | succ n ih =>
      intro x2 x3 x4 x5 H locs ls h hW hl
      rw [f_X7_all_b32] at h
      refine lv_iload hx hb dX7_all_32 (lv_at hl 5 rfl) ?_
      refine lv_aload_n hx hb dX7_all_34 rfl (lv_at hl 0 rfl) ?_
      obtain ⟨u6, eu6, h⟩ := bd_some h
      refine z_callV_i hC hW (rest := [.int x5]) (c_X7_allDoors (d := 0) (Nat.le_refl _) eu6) vw_X7_248 WM_0 rfl ⟨rfl, rfl⟩ (zrm_ok (by omega) (by decide)) rfl rfl hl.1 (Nat.le_of_ble_eq_true rfl) dX7_all_35 (fun H locs hW => ?_)
      refine lv_icmp_gt (tgt := 74) hx hb dX7_all_38 (by decide) (fun c7 => ?_) (fun c7 => ?_)
      · have h := ifp c7 h
        refine lv_iload_n hx hb dX7_all_74 rfl (lv_at hl 1 rfl) ?_
        refine lv_if_ne (tgt := 80) hx hb dX7_all_75 (by decide) (fun c8 => ?_) (fun c8 => ?_)
        · have h := ifn c8 h
          refine lv_iload_n hx hb dX7_all_80 rfl (lv_at hl 2 rfl) ?_
          refine lv_if_ne (tgt := 89) hx hb dX7_all_81 (by decide) (fun c9 => ?_) (fun c9 => ?_)
          · have h := ifn c9 h
            refine lv_iload_n hx hb dX7_all_89 rfl (lv_at hl 1 rfl) ?_
            refine lv_iconst (v := 1) hx hb dX7_all_90 (by decide) ?_
            refine lv_icmp_ne (tgt := 98) hx hb dX7_all_91 (by decide) (fun c10 => ?_) (fun c10 => ?_)
            · have h := ifn c10 h
              refine lv_aload_n hx hb dX7_all_98 rfl (lv_at hl 0 rfl) ?_
              obtain ⟨u11, eu11, h⟩ := bd_some h
              refine z_callV_i hC hW (rest := []) (c_X7_allDoors (d := 0) (Nat.le_refl _) eu11) vw_X7_248 WM_0 rfl ⟨rfl, rfl⟩ (zrm_ok (by omega) (by decide)) rfl rfl hl.1 (Nat.le_of_ble_eq_true rfl) dX7_all_99 (fun H locs hW => ?_)
              refine lv_iload hx hb dX7_all_102 (lv_at hl 4 rfl) ?_
              refine lv_iconst (v := (-1)) hx hb dX7_all_104 (by decide) ?_
              refine lv_ixor hx hb dX7_all_105 ?_
              refine lv_iand hx hb dX7_all_106 ?_
              have h := Option.some.inj h
              subst h
              exact hret _ _ _ _ _ dX7_all_107 rfl rfl hW
            · have h := ifp c10 h
              refine lv_iload_n hx hb dX7_all_94 rfl (lv_at hl 3 rfl) ?_
              refine lv_goto (tgt := 107) hx hb dX7_all_95 (by decide) ?_
              have h := Option.some.inj h
              subst h
              exact hret _ _ _ _ _ dX7_all_107 rfl rfl hW
          · have h := ifp c9 h
            refine lv_bipush (v := (-2)) hx hb dX7_all_84 (by decide) ?_
            refine lv_goto (tgt := 107) hx hb dX7_all_86 (by decide) ?_
            have h := Option.some.inj h
            subst h
            exact hret _ _ _ _ _ dX7_all_107 rfl rfl hW
        · have h := ifp c8 h
          refine lv_iload_n hx hb dX7_all_78 rfl (lv_at hl 2 rfl) ?_
          have h := Option.some.inj h
          subst h
          exact hret _ _ _ _ _ dX7_all_79 rfl rfl hW
      · have h := ifn c7 h
        refine lv_aload_n hx hb dX7_all_41 rfl (lv_at hl 0 rfl) ?_
        refine lv_iload hx hb dX7_all_42 (lv_at hl 5 rfl) ?_
        obtain ⟨u12, eu12, h⟩ := bd_some h
        refine z_callV_i hC hW (rest := []) (c_X7_mayBe (d := 1) (Nat.le_refl _) eu12) vw_X7_270 WM_0 rfl ⟨rfl, rfl⟩ (zrm_ok (by omega) (by decide)) rfl rfl hl.1 (Nat.le_of_ble_eq_true rfl) dX7_all_44 (fun H locs hW => ?_)
        refine lv_if_ne (tgt := 53) hx hb dX7_all_47 (by decide) (fun c13 => ?_) (fun c13 => ?_)
        · have h := ifn c13 h
          refine lv_iinc (v := (x2 + 1)) (lv' := [(2, .int (x2 + 1)), (0, .ref (ρ 0)), (1, .int x1), (3, .int x3), (4, .int x4), (5, .int x5)]) hx hb dX7_all_53 hl (k := 2) rfl rfl (by decide) rfl (fun ls hl => ?_)
          refine lv_iload_n hx hb dX7_all_56 rfl (lv_at hl 3 rfl) ?_
          refine lv_iload hx hb dX7_all_57 (lv_at hl 5 rfl) ?_
          refine lv_iand hx hb dX7_all_59 ?_
          refine lv_istore_n (lv' := [(3, .int (x3 &&& x5)), (2, .int (x2 + 1)), (0, .ref (ρ 0)), (1, .int x1), (4, .int x4), (5, .int x5)]) hx hb dX7_all_60 rfl hl (by decide) rfl (fun ls hl => ?_)
          refine lv_iload hx hb dX7_all_61 (lv_at hl 4 rfl) ?_
          refine lv_iload hx hb dX7_all_63 (lv_at hl 5 rfl) ?_
          refine lv_ior hx hb dX7_all_65 ?_
          refine lv_istore (lv' := [(4, .int (x4 ||| x5)), (3, .int (x3 &&& x5)), (2, .int (x2 + 1)), (0, .ref (ρ 0)), (1, .int x1), (5, .int x5)]) hx hb dX7_all_66 hl (by decide) rfl (fun ls hl => ?_)
          exact b68 ih h hW (lv_sub hl [3, 4, 2, 1, 0, 5] rfl)
        · have h := ifp c13 h
          refine lv_goto (tgt := 68) hx hb dX7_all_50 (by decide) ?_
          exact b68 ih h hW (lv_sub hl [0, 1, 2, 3, 4, 5] rfl)
  unfold f_X7_all at h
  refine lv_iload_n hx hb dX7_all_0 rfl (lv_at hl 1 rfl) ?_
  refine lv_iconst (v := 0) hx hb dX7_all_1 (by decide) ?_
  refine lv_iconst (v := 2) hx hb dX7_all_2 (by decide) ?_
  obtain ⟨u1, eu1, h⟩ := bd_some h
  refine z_callS_i hC hW (rest := []) (c_X7_in (d := 0) (Nat.le_refl _) eu1) sw_X7_114 ⟨rfl, rfl⟩ (zrm_ok (by omega) (by decide)) rfl rfl hl.1 (Nat.le_of_ble_eq_true rfl) dX7_all_3 (fun H locs hW => ?_)
  refine lv_if_ne (tgt := 11) hx hb dX7_all_6 (by decide) (fun c2 => ?_) (fun c2 => ?_)
  · have h := ifn c2 h
    refine lv_aload_n hx hb dX7_all_11 rfl (lv_at hl 0 rfl) ?_
    refine lv_aload_n hx hb dX7_all_12 rfl (lv_at hl 0 rfl) ?_
    obtain ⟨u3, eu3, h⟩ := bd_some h
    refine z_callV_i hC hW (rest := [.ref (ρ 0)]) (c_X7_allDoors (d := 0) (Nat.le_refl _) eu3) vw_X7_248 WM_0 rfl ⟨rfl, rfl⟩ (zrm_ok (by omega) (by decide)) rfl rfl hl.1 (Nat.le_of_ble_eq_true rfl) dX7_all_13 (fun H locs hW => ?_)
    obtain ⟨u4, eu4, h⟩ := bd_some h
    refine z_callV_v hC hW (rest := []) (c_X7_findAll (d := 4) (Nat.le_refl _) eu4) vw_X7_261 WM_0 rfl ⟨rfl, rfl⟩ (zrm_ok (by omega) (by decide)) rfl rfl hl.1 (Nat.le_of_ble_eq_true rfl) dX7_all_16 (fun H locs hW => ?_)
    refine lv_iconst (v := 0) hx hb dX7_all_19 (by decide) ?_
    refine lv_istore_n (lv' := [(2, .int 0), (0, .ref (ρ 0)), (1, .int a1)]) hx hb dX7_all_20 rfl hl (by decide) rfl (fun ls hl => ?_)
    refine lv_aload_n hx hb dX7_all_21 rfl (lv_at hl 1 rfl) ?_
    obtain ⟨u5, eu5, h⟩ := bd_some h
    refine z_callV_i hC hW (rest := []) (c_X7_allDoors (d := 0) (Nat.le_refl _) eu5) vw_X7_248 WM_0 rfl ⟨rfl, rfl⟩ (zrm_ok (by omega) (by decide)) rfl rfl hl.1 (Nat.le_of_ble_eq_true rfl) dX7_all_22 (fun H locs hW => ?_)
    refine lv_istore_n (lv' := [(3, .int u5), (2, .int 0), (0, .ref (ρ 0)), (1, .int a1)]) hx hb dX7_all_25 rfl hl (by decide) rfl (fun ls hl => ?_)
    refine lv_iconst (v := 0) hx hb dX7_all_26 (by decide) ?_
    refine lv_istore (lv' := [(4, .int 0), (3, .int u5), (2, .int 0), (0, .ref (ρ 0)), (1, .int a1)]) hx hb dX7_all_27 hl (by decide) rfl (fun ls hl => ?_)
    refine lv_iconst (v := 0) hx hb dX7_all_29 (by decide) ?_
    refine lv_istore (lv' := [(5, .int 0), (4, .int 0), (3, .int u5), (2, .int 0), (0, .ref (ρ 0)), (1, .int a1)]) hx hb dX7_all_30 hl (by decide) rfl (fun ls hl => ?_)
    exact b32 h hW (lv_sub hl [4, 5, 3, 2, 1, 0] rfl)
  · have h := ifp c2 h
    refine lv_iconst (v := (-1)) hx hb dX7_all_9 (by decide) ?_
    have h := Option.some.inj h
    subst h
    exact hret _ _ _ _ _ dX7_all_10 rfl rfl hW
set_option maxHeartbeats 4000000 in
set_option maxRecDepth 100000 in
theorem c_X7_isEven {a1 : Int32} {d : Nat} {res : Int32} (hd : 1 ≤ d) (h : f_X7_isEven a1 M_doors M_within = some res) : zMi l yX7_isEven cX7_isEven 3 .boolean (zrm d) [.ref (ρ 0), .int a1] D q (WM q ρ M_code M_doors M_price M_year M_joins M_joinA M_joinB M_walls M_wallA M_wallB M_cost M_olds M_near M_doneMany M_undoneMany M_changeOf M_changeAt M_before M_behind M_tape M_taped M_here M_fault M_open M_laid M_act M_with M_lineMany M_testEnd M_lineEnd M_facts M_pile M_hasLaw M_far M_within M_tooNear M_dried M_isOn M_wasOn M_bodies M_kind M_traces M_traced M_holds M_size M_elements M_shifted) sz res (WM q ρ M_code M_doors M_price M_year M_joins M_joinA M_joinB M_walls M_wallA M_wallB M_cost M_olds M_near M_doneMany M_undoneMany M_changeOf M_changeAt M_before M_behind M_tape M_taped M_here M_fault M_open M_laid M_act M_with M_lineMany M_testEnd M_lineEnd M_facts M_pile M_hasLaw M_far M_within M_tooNear M_dried M_isOn M_wasOn M_bodies M_kind M_traces M_traced M_holds M_size M_elements M_shifted) := by
  refine zMet_i (own := RX7) _ (by decide) rfl (Nat.le_of_ble_eq_true rfl) ?_
  intro p e s m args below meth c A ls Q hC hW hl hret
  have hx := hC.1
  have hb := hC.2.1
  have hl : lv_has ls 3 [(0, .ref (ρ 0)), (1, .int a1)] := hl
  have b2 : ∀ {x1 : Int32} {n : Nat} {x2 : Int32} {H : Heap} {locs : List Loc} {ls : Array Slot}, f_X7_isEven_b2 x1 M_doors M_within n x2 = some res → zW D A s.heap (WM q ρ M_code M_doors M_price M_year M_joins M_joinA M_joinB M_walls M_wallA M_wallB M_cost M_olds M_near M_doneMany M_undoneMany M_changeOf M_changeAt M_before M_behind M_tape M_taped M_here M_fault M_open M_laid M_act M_with M_lineMany M_testEnd M_lineEnd M_facts M_pile M_hasLaw M_far M_within M_tooNear M_dried M_isOn M_wasOn M_bodies M_kind M_traces M_traced M_holds M_size M_elements M_shifted) H locs → lv_has ls 3 [(0, .ref (ρ 0)), (1, .int x1), (2, .int x2)] → W p l e (zrm d) s m args below meth c H locs 0 0 Q (F0 m 2 ls []) := by
    intro x1
    intro n
    induction n with
    | zero =>
      intro x2 H locs ls h
      rw [f_X7_isEven_b2] at h
      cases h
    | succ n ih =>
      intro x2 H locs ls h hW hl
      rw [f_X7_isEven_b2] at h
      refine lv_iload_n hx hb dX7_isEven_2 rfl (lv_at hl 2 rfl) ?_
      refine lv_aload_n hx hb dX7_isEven_3 rfl (lv_at hl 0 rfl) ?_
      refine z_get hC hW fg_X7_111 0 WM_0 rfl dX7_isEven_4 ?_
      refine lv_icmp_ge (tgt := 33) hx hb dX7_isEven_7 (by decide) (fun c1 => ?_) (fun c1 => ?_)
      · have h := ifp c1 h
        refine lv_iconst (v := 1) hx hb dX7_isEven_33 (by decide) ?_
        have h := Option.some.inj h
        subst h
        exact hret _ _ _ _ _ dX7_isEven_34 rfl rfl hW
      · have h := ifn c1 h
        refine lv_iload_n hx hb dX7_isEven_10 rfl (lv_at hl 1 rfl) ?_
        refine lv_aload_n hx hb dX7_isEven_11 rfl (lv_at hl 0 rfl) ?_
        refine z_get hC hW fg_X7_76 0 WM_0 rfl dX7_isEven_12 ?_
        refine lv_iload_n hx hb dX7_isEven_15 rfl (lv_at hl 2 rfl) ?_
        obtain ⟨g2, h⟩ := ix_some h
        refine z_iald hC hW 21 WM_21 g2 dX7_isEven_16 ?_
        refine lv_iand hx hb dX7_isEven_17 ?_
        obtain ⟨u3, eu3, h⟩ := bd_some h
        refine z_callS_i hC hW (rest := []) (c_X7_bitsOf (d := 0) (Nat.le_refl _) eu3) sw_X7_264 ⟨rfl, rfl⟩ (zrm_ok (by omega) (by decide)) rfl rfl hl.1 (Nat.le_of_ble_eq_true rfl) dX7_isEven_18 (fun H locs hW => ?_)
        refine lv_iconst (v := 1) hx hb dX7_isEven_21 (by decide) ?_
        refine lv_icmp_eq (tgt := 27) hx hb dX7_isEven_22 (by decide) (fun c4 => ?_) (fun c4 => ?_)
        · have h := ifp c4 h
          refine lv_iinc (v := (x2 + 1)) (lv' := [(2, .int (x2 + 1)), (0, .ref (ρ 0)), (1, .int x1)]) hx hb dX7_isEven_27 hl (k := 2) rfl rfl (by decide) rfl (fun ls hl => ?_)
          refine lv_goto (tgt := 2) hx hb dX7_isEven_30 (by decide) ?_
          exact ih h hW (lv_sub hl [1, 2, 0] rfl)
        · have h := ifn c4 h
          refine lv_iconst (v := 0) hx hb dX7_isEven_25 (by decide) ?_
          have h := Option.some.inj h
          subst h
          exact hret _ _ _ _ _ dX7_isEven_26 rfl rfl hW
  unfold f_X7_isEven at h
  refine lv_iconst (v := 0) hx hb dX7_isEven_0 (by decide) ?_
  refine lv_istore_n (lv' := [(2, .int 0), (0, .ref (ρ 0)), (1, .int a1)]) hx hb dX7_isEven_1 rfl hl (by decide) rfl (fun ls hl => ?_)
  exact b2 h hW (lv_sub hl [1, 2, 0] rfl)
end CT21_m09
