section CT21_m10
variable {l : Launch} {D : va_G} {q : Nat → ClassId} {ρ : Nat → Nat} {sz : Nat} {M_code : Int32} {M_doors : Int32} {M_price : Nat → Int32} {M_year : Nat → Int32} {M_joins : Int32} {M_joinA : Nat → Int32} {M_joinB : Nat → Int32} {M_walls : Int32} {M_wallA : Nat → Int32} {M_wallB : Nat → Int32} {M_cost : Nat → Int32} {M_olds : Int32} {M_near : Int32} {M_doneMany : Int32} {M_undoneMany : Int32} {M_changeOf : Nat → Int32} {M_changeAt : Nat → Int32} {M_before : Nat → Int32} {M_behind : Nat → Int32} {M_tape : Nat → Int32} {M_taped : Int32} {M_here : Int32} {M_fault : Int32} {M_open : Int32} {M_laid : Int32} {M_act : Nat → Int32} {M_with : Nat → Int32} {M_lineMany : Nat → Int32} {M_testEnd : Nat → Int32} {M_lineEnd : Nat → Int32} {M_facts : Nat → Int32} {M_pile : Nat → Int32} {M_hasLaw : Int32} {M_far : Nat → Int32} {M_within : Nat → Int32} {M_tooNear : Nat → Int32} {M_dried : Int32} {M_isOn : Nat → Int32} {M_wasOn : Nat → Int32} {M_bodies : Int32} {M_kind : Nat → Int32} {M_traces : Int32} {M_traced : Nat → Int32} {M_holds : Nat → Int32} {M_size : Nat → Int32} {M_elements : Nat → Int64} {M_shifted : Nat → Int64}
set_option maxHeartbeats 4000000 in
set_option maxRecDepth 100000 in
theorem c_X7_even {d : Nat} {res : Int32 × (Nat → Int32) × (Nat → Int32) × (Nat → Int32) × (Nat → Int32) × (Nat → Int32)} (hd : 5 ≤ d) (h : f_X7_even M_doors M_price M_year M_joins M_joinA M_joinB M_olds M_near M_act M_with M_lineMany M_testEnd M_lineEnd M_facts M_pile M_hasLaw M_far M_within M_tooNear M_dried = some res) : zMi l yX7_even cX7_even 2 .int (zrm d) [.ref (ρ 0)] D q (WM q ρ M_code M_doors M_price M_year M_joins M_joinA M_joinB M_walls M_wallA M_wallB M_cost M_olds M_near M_doneMany M_undoneMany M_changeOf M_changeAt M_before M_behind M_tape M_taped M_here M_fault M_open M_laid M_act M_with M_lineMany M_testEnd M_lineEnd M_facts M_pile M_hasLaw M_far M_within M_tooNear M_dried M_isOn M_wasOn M_bodies M_kind M_traces M_traced M_holds M_size M_elements M_shifted) sz res.1 (WM q ρ M_code M_doors M_price M_year M_joins M_joinA M_joinB M_walls M_wallA M_wallB M_cost M_olds M_near M_doneMany M_undoneMany M_changeOf M_changeAt M_before M_behind M_tape M_taped M_here M_fault M_open M_laid M_act M_with M_lineMany M_testEnd M_lineEnd res.2.1 res.2.2.1 M_hasLaw res.2.2.2.1 res.2.2.2.2.1 res.2.2.2.2.2 M_dried M_isOn M_wasOn M_bodies M_kind M_traces M_traced M_holds M_size M_elements M_shifted) := by
  refine zMet_i (own := RX7) _ (by decide) rfl (Nat.le_of_ble_eq_true rfl) ?_
  intro p e s m args below meth c A ls Q hC hW hl hret
  have hx := hC.1
  have hb := hC.2.1
  have hl : lv_has ls 2 [(0, .ref (ρ 0))] := hl
  have b36 : ∀ {x1 : Int32} {M_facts : Nat → Int32} {M_pile : Nat → Int32} {M_far : Nat → Int32} {M_within : Nat → Int32} {M_tooNear : Nat → Int32} {k10 : Int32 → Option (Int32 × (Nat → Int32) × (Nat → Int32) × (Nat → Int32) × (Nat → Int32) × (Nat → Int32))} (hk10 : ∀ {x1 : Int32} {H : Heap} {locs : List Loc} {ls : Array Slot}, k10 x1 = some res → zW D A s.heap (WM q ρ M_code M_doors M_price M_year M_joins M_joinA M_joinB M_walls M_wallA M_wallB M_cost M_olds M_near M_doneMany M_undoneMany M_changeOf M_changeAt M_before M_behind M_tape M_taped M_here M_fault M_open M_laid M_act M_with M_lineMany M_testEnd M_lineEnd M_facts M_pile M_hasLaw M_far M_within M_tooNear M_dried M_isOn M_wasOn M_bodies M_kind M_traces M_traced M_holds M_size M_elements M_shifted) H locs → lv_has ls 2 [(0, .ref (ρ 0)), (1, .int x1)] → W p l e (zrm d) s m args below meth c H locs 0 0 Q (F0 m 10 ls [])) {H : Heap} {locs : List Loc} {ls : Array Slot}, f_X7_even_b36 k10 x1 M_doors M_price M_olds M_facts M_pile M_far M_within M_tooNear M_dried = some res → zW D A s.heap (WM q ρ M_code M_doors M_price M_year M_joins M_joinA M_joinB M_walls M_wallA M_wallB M_cost M_olds M_near M_doneMany M_undoneMany M_changeOf M_changeAt M_before M_behind M_tape M_taped M_here M_fault M_open M_laid M_act M_with M_lineMany M_testEnd M_lineEnd M_facts M_pile M_hasLaw M_far M_within M_tooNear M_dried M_isOn M_wasOn M_bodies M_kind M_traces M_traced M_holds M_size M_elements M_shifted) H locs → lv_has ls 2 [(0, .ref (ρ 0)), (1, .int x1)] → W p l e (zrm d) s m args below meth c H locs 0 0 Q (F0 m 36 ls []) := by
    intro x1 M_facts M_pile M_far M_within M_tooNear k10 hk10 H locs ls h hW hl
    unfold f_X7_even_b36 at h
    refine lv_iinc (v := (x1 + 1)) (lv' := [(1, .int (x1 + 1)), (0, .ref (ρ 0))]) hx hb dX7_even_36 hl (k := 1) rfl rfl (by decide) rfl (fun ls hl => ?_)
    refine lv_goto (tgt := 10) hx hb dX7_even_39 (by decide) ?_
    exact hk10 h hW (lv_sub hl [1, 0] rfl)
  have b10 : ∀ {M_facts : Nat → Int32} {M_pile : Nat → Int32} {M_far : Nat → Int32} {M_within : Nat → Int32} {M_tooNear : Nat → Int32} {n : Nat} {x1 : Int32} {H : Heap} {locs : List Loc} {ls : Array Slot}, f_X7_even_b10 M_doors M_price M_olds M_facts M_pile M_far M_within M_tooNear M_dried n x1 = some res → zW D A s.heap (WM q ρ M_code M_doors M_price M_year M_joins M_joinA M_joinB M_walls M_wallA M_wallB M_cost M_olds M_near M_doneMany M_undoneMany M_changeOf M_changeAt M_before M_behind M_tape M_taped M_here M_fault M_open M_laid M_act M_with M_lineMany M_testEnd M_lineEnd M_facts M_pile M_hasLaw M_far M_within M_tooNear M_dried M_isOn M_wasOn M_bodies M_kind M_traces M_traced M_holds M_size M_elements M_shifted) H locs → lv_has ls 2 [(0, .ref (ρ 0)), (1, .int x1)] → W p l e (zrm d) s m args below meth c H locs 0 0 Q (F0 m 10 ls []) := by
    intro M_facts M_pile M_far M_within M_tooNear
    intro n
    induction n with
    | zero =>
      intro x1 H locs ls h
      rw [f_X7_even_b10] at h
      cases h
    | succ n ih =>
      intro x1 H locs ls h hW hl
      rw [f_X7_even_b10] at h
      refine lv_iload_n hx hb dX7_even_10 rfl (lv_at hl 1 rfl) ?_
      refine lv_aload_n hx hb dX7_even_11 rfl (lv_at hl 0 rfl) ?_
      obtain ⟨u3, eu3, h⟩ := bd_some h
      refine z_callV_i hC hW (rest := [.int x1]) (c_X7_allDoors (d := 0) (Nat.le_refl _) eu3) vw_X7_248 WM_0 rfl ⟨rfl, rfl⟩ (zrm_ok (by omega) (by decide)) rfl rfl hl.1 (Nat.le_of_ble_eq_true rfl) dX7_even_12 (fun H locs hW => ?_)
      refine lv_icmp_gt (tgt := 42) hx hb dX7_even_15 (by decide) (fun c4 => ?_) (fun c4 => ?_)
      · have h := ifp c4 h
        refine lv_bipush (v := (-2)) hx hb dX7_even_42 (by decide) ?_
        have h := Option.some.inj h
        subst h
        exact hret _ _ _ _ _ dX7_even_44 rfl rfl hW
      · have h := ifn c4 h
        refine lv_aload_n hx hb dX7_even_18 rfl (lv_at hl 0 rfl) ?_
        refine lv_iload_n hx hb dX7_even_19 rfl (lv_at hl 1 rfl) ?_
        obtain ⟨u5, eu5, h⟩ := bd_some h
        refine z_callV_i hC hW (rest := []) (c_X7_isEven (d := 1) (Nat.le_refl _) eu5) vw_X7_279 WM_0 rfl ⟨rfl, rfl⟩ (zrm_ok (by omega) (by decide)) rfl rfl hl.1 (Nat.le_of_ble_eq_true rfl) dX7_even_20 (fun H locs hW => ?_)
        refine lv_if_eq (tgt := 36) hx hb dX7_even_23 (by decide) (fun c6 => ?_) (fun c6 => ?_)
        · have h := ifp c6 h
          exact b36 ih h hW (lv_sub hl [0, 1] rfl)
        · have h := ifn c6 h
          refine lv_aload_n hx hb dX7_even_26 rfl (lv_at hl 0 rfl) ?_
          refine lv_iload_n hx hb dX7_even_27 rfl (lv_at hl 1 rfl) ?_
          obtain ⟨u7, eu7, h⟩ := bd_some h
          refine z_callV_i hC hW (rest := []) (c_X7_mayBe (d := 1) (Nat.le_refl _) eu7) vw_X7_270 WM_0 rfl ⟨rfl, rfl⟩ (zrm_ok (by omega) (by decide)) rfl rfl hl.1 (Nat.le_of_ble_eq_true rfl) dX7_even_28 (fun H locs hW => ?_)
          refine lv_if_eq (tgt := 36) hx hb dX7_even_31 (by decide) (fun c8 => ?_) (fun c8 => ?_)
          · have h := ifp c8 h
            exact b36 ih h hW (lv_sub hl [0, 1] rfl)
          · have h := ifn c8 h
            refine lv_iload_n hx hb dX7_even_34 rfl (lv_at hl 1 rfl) ?_
            have h := Option.some.inj h
            subst h
            exact hret _ _ _ _ _ dX7_even_35 rfl rfl hW
  unfold f_X7_even at h
  refine lv_aload_n hx hb dX7_even_0 rfl (lv_at hl 0 rfl) ?_
  refine lv_aload_n hx hb dX7_even_1 rfl (lv_at hl 0 rfl) ?_
  obtain ⟨u1, eu1, h⟩ := bd_some h
  refine z_callV_i hC hW (rest := [.ref (ρ 0)]) (c_X7_allDoors (d := 0) (Nat.le_refl _) eu1) vw_X7_248 WM_0 rfl ⟨rfl, rfl⟩ (zrm_ok (by omega) (by decide)) rfl rfl hl.1 (Nat.le_of_ble_eq_true rfl) dX7_even_2 (fun H locs hW => ?_)
  obtain ⟨u2, eu2, h⟩ := bd_some h
  refine z_callV_v hC hW (rest := []) (c_X7_findAll (d := 4) (Nat.le_refl _) eu2) vw_X7_261 WM_0 rfl ⟨rfl, rfl⟩ (zrm_ok (by omega) (by decide)) rfl rfl hl.1 (Nat.le_of_ble_eq_true rfl) dX7_even_5 (fun H locs hW => ?_)
  refine lv_iconst (v := 0) hx hb dX7_even_8 (by decide) ?_
  refine lv_istore_n (lv' := [(1, .int 0), (0, .ref (ρ 0))]) hx hb dX7_even_9 rfl hl (by decide) rfl (fun ls hl => ?_)
  exact b10 h hW (lv_sub hl [1, 0] rfl)
set_option maxHeartbeats 4000000 in
set_option maxRecDepth 100000 in
theorem c_X7_mayDig {a1 : Int32} {a2 : Int32} {d : Nat} {res : Int32} (hd : 0 ≤ d) (h : f_X7_mayDig a1 a2 M_price M_tooNear = some res) : zMi l yX7_mayDig cX7_mayDig 3 .boolean (zrm d) [.ref (ρ 0), .int a1, .int a2] D q (WM q ρ M_code M_doors M_price M_year M_joins M_joinA M_joinB M_walls M_wallA M_wallB M_cost M_olds M_near M_doneMany M_undoneMany M_changeOf M_changeAt M_before M_behind M_tape M_taped M_here M_fault M_open M_laid M_act M_with M_lineMany M_testEnd M_lineEnd M_facts M_pile M_hasLaw M_far M_within M_tooNear M_dried M_isOn M_wasOn M_bodies M_kind M_traces M_traced M_holds M_size M_elements M_shifted) sz res (WM q ρ M_code M_doors M_price M_year M_joins M_joinA M_joinB M_walls M_wallA M_wallB M_cost M_olds M_near M_doneMany M_undoneMany M_changeOf M_changeAt M_before M_behind M_tape M_taped M_here M_fault M_open M_laid M_act M_with M_lineMany M_testEnd M_lineEnd M_facts M_pile M_hasLaw M_far M_within M_tooNear M_dried M_isOn M_wasOn M_bodies M_kind M_traces M_traced M_holds M_size M_elements M_shifted) := by
  refine zMet_i (own := RX7) _ (by decide) rfl (Nat.le_of_ble_eq_true rfl) ?_
  intro p e s m args below meth c A ls Q hC hW hl hret
  have hx := hC.1
  have hb := hC.2.1
  have hl : lv_has ls 3 [(0, .ref (ρ 0)), (1, .int a1), (2, .int a2)] := hl
  unfold f_X7_mayDig at h
  refine lv_aload_n hx hb dX7_mayDig_0 rfl (lv_at hl 0 rfl) ?_
  refine z_get hC hW fg_X7_7 0 WM_0 rfl dX7_mayDig_1 ?_
  refine lv_iload_n hx hb dX7_mayDig_4 rfl (lv_at hl 2 rfl) ?_
  obtain ⟨g1, h⟩ := ix_some h
  refine z_iald hC hW 1 WM_1 g1 dX7_mayDig_5 ?_
  refine lv_if_le (tgt := 24) hx hb dX7_mayDig_6 (by decide) (fun c2 => ?_) (fun c2 => ?_)
  · have h := ifp c2 h
    refine lv_iconst (v := 0) hx hb dX7_mayDig_24 (by decide) ?_
    have h := Option.some.inj h
    subst h
    exact hret _ _ _ _ _ dX7_mayDig_25 rfl rfl hW
  · have h := ifn c2 h
    refine lv_iload_n hx hb dX7_mayDig_9 rfl (lv_at hl 1 rfl) ?_
    refine lv_aload_n hx hb dX7_mayDig_10 rfl (lv_at hl 0 rfl) ?_
    refine z_get hC hW fg_X7_79 0 WM_0 rfl dX7_mayDig_11 ?_
    refine lv_iload_n hx hb dX7_mayDig_14 rfl (lv_at hl 2 rfl) ?_
    obtain ⟨g3, h⟩ := ix_some h
    refine z_iald hC hW 22 WM_22 g3 dX7_mayDig_15 ?_
    refine lv_iand hx hb dX7_mayDig_16 ?_
    refine lv_if_ne (tgt := 24) hx hb dX7_mayDig_17 (by decide) (fun c4 => ?_) (fun c4 => ?_)
    · have h := ifn c4 h
      refine lv_iconst (v := 0) hx hb dX7_mayDig_24 (by decide) ?_
      have h := Option.some.inj h
      subst h
      exact hret _ _ _ _ _ dX7_mayDig_25 rfl rfl hW
    · have h := ifp c4 h
      refine lv_iconst (v := 1) hx hb dX7_mayDig_20 (by decide) ?_
      refine lv_goto (tgt := 25) hx hb dX7_mayDig_21 (by decide) ?_
      have h := Option.some.inj h
      subst h
      exact hret _ _ _ _ _ dX7_mayDig_25 rfl rfl hW
set_option maxHeartbeats 4000000 in
set_option maxRecDepth 100000 in
theorem c_X7_greedy {a1 : Int32} {d : Nat} {res : Int32 × (Nat → Int32) × (Nat → Int32) × (Nat → Int32) × (Nat → Int32) × (Nat → Int32)} (hd : 5 ≤ d) (h : f_X7_greedy a1 M_doors M_price M_year M_joins M_joinA M_joinB M_olds M_near M_act M_with M_lineMany M_testEnd M_lineEnd M_facts M_pile M_hasLaw M_far M_within M_tooNear = some res) : zMi l yX7_greedy cX7_greedy 5 .int (zrm d) [.ref (ρ 0), .int a1] D q (WM q ρ M_code M_doors M_price M_year M_joins M_joinA M_joinB M_walls M_wallA M_wallB M_cost M_olds M_near M_doneMany M_undoneMany M_changeOf M_changeAt M_before M_behind M_tape M_taped M_here M_fault M_open M_laid M_act M_with M_lineMany M_testEnd M_lineEnd M_facts M_pile M_hasLaw M_far M_within M_tooNear M_dried M_isOn M_wasOn M_bodies M_kind M_traces M_traced M_holds M_size M_elements M_shifted) sz res.1 (WM q ρ M_code M_doors M_price M_year M_joins M_joinA M_joinB M_walls M_wallA M_wallB M_cost M_olds M_near M_doneMany M_undoneMany M_changeOf M_changeAt M_before M_behind M_tape M_taped M_here M_fault M_open M_laid M_act M_with M_lineMany M_testEnd M_lineEnd res.2.1 res.2.2.1 M_hasLaw res.2.2.2.1 res.2.2.2.2.1 res.2.2.2.2.2 M_dried M_isOn M_wasOn M_bodies M_kind M_traces M_traced M_holds M_size M_elements M_shifted) := by
  refine zMet_i (own := RX7) _ (by decide) rfl (Nat.le_of_ble_eq_true rfl) ?_
  intro p e s m args below meth c A ls Q hC hW hl hret
  have hx := hC.1
  have hb := hC.2.1
  have hl : lv_has ls 5 [(0, .ref (ρ 0)), (1, .int a1)] := hl
  have b81 : ∀ {x1 : Int32} {x2 : Int32} {x3 : Int32} {x4 : Int32} {M_facts : Nat → Int32} {M_pile : Nat → Int32} {M_far : Nat → Int32} {M_within : Nat → Int32} {M_tooNear : Nat → Int32} {k30 : Int32 → Int32 → Int32 → Option (Int32 × (Nat → Int32) × (Nat → Int32) × (Nat → Int32) × (Nat → Int32) × (Nat → Int32))} (hk30 : ∀ {x2 : Int32} {x3 : Int32} {x4 : Int32} {H : Heap} {locs : List Loc} {ls : Array Slot}, k30 x2 x3 x4 = some res → zW D A s.heap (WM q ρ M_code M_doors M_price M_year M_joins M_joinA M_joinB M_walls M_wallA M_wallB M_cost M_olds M_near M_doneMany M_undoneMany M_changeOf M_changeAt M_before M_behind M_tape M_taped M_here M_fault M_open M_laid M_act M_with M_lineMany M_testEnd M_lineEnd M_facts M_pile M_hasLaw M_far M_within M_tooNear M_dried M_isOn M_wasOn M_bodies M_kind M_traces M_traced M_holds M_size M_elements M_shifted) H locs → lv_has ls 5 [(0, .ref (ρ 0)), (1, .int x1), (2, .int x2), (3, .int x3), (4, .int x4)] → W p l e (zrm d) s m args below meth c H locs 0 0 Q (F0 m 30 ls [])) {H : Heap} {locs : List Loc} {ls : Array Slot}, f_X7_greedy_b81 k30 x1 x2 x3 x4 M_doors M_price M_facts M_pile M_far M_within M_tooNear = some res → zW D A s.heap (WM q ρ M_code M_doors M_price M_year M_joins M_joinA M_joinB M_walls M_wallA M_wallB M_cost M_olds M_near M_doneMany M_undoneMany M_changeOf M_changeAt M_before M_behind M_tape M_taped M_here M_fault M_open M_laid M_act M_with M_lineMany M_testEnd M_lineEnd M_facts M_pile M_hasLaw M_far M_within M_tooNear M_dried M_isOn M_wasOn M_bodies M_kind M_traces M_traced M_holds M_size M_elements M_shifted) H locs → lv_has ls 5 [(0, .ref (ρ 0)), (1, .int x1), (2, .int x2), (3, .int x3), (4, .int x4)] → W p l e (zrm d) s m args below meth c H locs 0 0 Q (F0 m 81 ls []) := by
    intro x1 x2 x3 x4 M_facts M_pile M_far M_within M_tooNear k30 hk30 H locs ls h hW hl
    unfold f_X7_greedy_b81 at h
    refine lv_iinc (v := (x4 + 1)) (lv' := [(4, .int (x4 + 1)), (0, .ref (ρ 0)), (1, .int x1), (2, .int x2), (3, .int x3)]) hx hb dX7_greedy_81 hl (k := 4) rfl rfl (by decide) rfl (fun ls hl => ?_)
    refine lv_goto (tgt := 30) hx hb dX7_greedy_84 (by decide) ?_
    exact hk30 h hW (lv_sub hl [1, 2, 3, 4, 0] rfl)
  have b30 : ∀ {x1 : Int32} {M_facts : Nat → Int32} {M_pile : Nat → Int32} {M_far : Nat → Int32} {M_within : Nat → Int32} {M_tooNear : Nat → Int32} {n : Nat} {x2 : Int32} {x3 : Int32} {x4 : Int32} {H : Heap} {locs : List Loc} {ls : Array Slot}, f_X7_greedy_b30 x1 M_doors M_price M_facts M_pile M_far M_within M_tooNear n x2 x3 x4 = some res → zW D A s.heap (WM q ρ M_code M_doors M_price M_year M_joins M_joinA M_joinB M_walls M_wallA M_wallB M_cost M_olds M_near M_doneMany M_undoneMany M_changeOf M_changeAt M_before M_behind M_tape M_taped M_here M_fault M_open M_laid M_act M_with M_lineMany M_testEnd M_lineEnd M_facts M_pile M_hasLaw M_far M_within M_tooNear M_dried M_isOn M_wasOn M_bodies M_kind M_traces M_traced M_holds M_size M_elements M_shifted) H locs → lv_has ls 5 [(0, .ref (ρ 0)), (1, .int x1), (2, .int x2), (3, .int x3), (4, .int x4)] → W p l e (zrm d) s m args below meth c H locs 0 0 Q (F0 m 30 ls []) := by
    intro x1 M_facts M_pile M_far M_within M_tooNear
    intro n
    induction n with
    | zero =>
      intro x2 x3 x4 H locs ls h
      rw [f_X7_greedy_b30] at h
      cases h
    | succ n ih =>
      intro x2 x3 x4 H locs ls h hW hl
      rw [f_X7_greedy_b30] at h
      refine lv_iload hx hb dX7_greedy_30 (lv_at hl 4 rfl) ?_
      refine lv_aload_n hx hb dX7_greedy_32 rfl (lv_at hl 0 rfl) ?_
      refine z_get hC hW fg_X7_111 0 WM_0 rfl dX7_greedy_33 ?_
      refine lv_icmp_ge (tgt := 87) hx hb dX7_greedy_36 (by decide) (fun c5 => ?_) (fun c5 => ?_)
      · have h := ifp c5 h
        refine lv_iload_n hx hb dX7_greedy_87 rfl (lv_at hl 1 rfl) ?_
        refine lv_if_ne (tgt := 95) hx hb dX7_greedy_88 (by decide) (fun c6 => ?_) (fun c6 => ?_)
        · have h := ifn c6 h
          refine lv_iload_n hx hb dX7_greedy_95 rfl (lv_at hl 3 rfl) ?_
          have h := Option.some.inj h
          subst h
          exact hret _ _ _ _ _ dX7_greedy_96 rfl rfl hW
        · have h := ifp c6 h
          refine lv_iload_n hx hb dX7_greedy_91 rfl (lv_at hl 2 rfl) ?_
          refine lv_goto (tgt := 96) hx hb dX7_greedy_92 (by decide) ?_
          have h := Option.some.inj h
          subst h
          exact hret _ _ _ _ _ dX7_greedy_96 rfl rfl hW
      · have h := ifn c5 h
        refine lv_iload_n hx hb dX7_greedy_39 rfl (lv_at hl 2 rfl) ?_
        refine lv_aload_n hx hb dX7_greedy_40 rfl (lv_at hl 0 rfl) ?_
        refine z_get hC hW fg_X7_76 0 WM_0 rfl dX7_greedy_41 ?_
        refine lv_iload hx hb dX7_greedy_44 (lv_at hl 4 rfl) ?_
        obtain ⟨g7, h⟩ := ix_some h
        refine z_iald hC hW 21 WM_21 g7 dX7_greedy_46 ?_
        refine lv_iand hx hb dX7_greedy_47 ?_
        refine lv_if_eq (tgt := 54) hx hb dX7_greedy_48 (by decide) (fun c8 => ?_) (fun c8 => ?_)
        · have h := ifp c8 h
          refine lv_aload_n hx hb dX7_greedy_54 rfl (lv_at hl 0 rfl) ?_
          refine lv_iload_n hx hb dX7_greedy_55 rfl (lv_at hl 2 rfl) ?_
          refine lv_iload hx hb dX7_greedy_56 (lv_at hl 4 rfl) ?_
          obtain ⟨u9, eu9, h⟩ := bd_some h
          refine z_callV_i hC hW (rest := []) (c_X7_mayDig (d := 0) (Nat.le_refl _) eu9) vw_X7_282 WM_0 rfl ⟨rfl, rfl⟩ (zrm_ok (by omega) (by decide)) rfl rfl hl.1 (Nat.le_of_ble_eq_true rfl) dX7_greedy_58 (fun H locs hW => ?_)
          refine lv_if_eq (tgt := 74) hx hb dX7_greedy_61 (by decide) (fun c10 => ?_) (fun c10 => ?_)
          · have h := ifp c10 h
            refine lv_iload_n hx hb dX7_greedy_74 rfl (lv_at hl 3 rfl) ?_
            refine lv_if_ge (tgt := 81) hx hb dX7_greedy_75 (by decide) (fun c11 => ?_) (fun c11 => ?_)
            · have h := ifp c11 h
              exact b81 ih h hW (lv_sub hl [0, 1, 2, 3, 4] rfl)
            · have h := ifn c11 h
              refine lv_iload hx hb dX7_greedy_78 (lv_at hl 4 rfl) ?_
              refine lv_istore_n (lv' := [(3, .int x4), (0, .ref (ρ 0)), (1, .int x1), (2, .int x2), (4, .int x4)]) hx hb dX7_greedy_80 rfl hl (by decide) rfl (fun ls hl => ?_)
              exact b81 ih h hW (lv_sub hl [1, 2, 3, 0, 4] rfl)
          · have h := ifn c10 h
            refine lv_iload_n hx hb dX7_greedy_64 rfl (lv_at hl 2 rfl) ?_
            refine lv_iconst (v := 1) hx hb dX7_greedy_65 (by decide) ?_
            refine lv_iload hx hb dX7_greedy_66 (lv_at hl 4 rfl) ?_
            refine lv_ishl hx hb dX7_greedy_68 ?_
            refine lv_ior hx hb dX7_greedy_69 ?_
            refine lv_istore_n (lv' := [(2, .int (x2 ||| (1 <<< (x4 &&& 31)))), (0, .ref (ρ 0)), (1, .int x1), (3, .int x3), (4, .int x4)]) hx hb dX7_greedy_70 rfl hl (by decide) rfl (fun ls hl => ?_)
            refine lv_goto (tgt := 81) hx hb dX7_greedy_71 (by decide) ?_
            exact b81 ih h hW (lv_sub hl [1, 2, 0, 3, 4] rfl)
        · have h := ifn c8 h
          refine lv_goto (tgt := 81) hx hb dX7_greedy_51 (by decide) ?_
          exact b81 ih h hW (lv_sub hl [0, 1, 2, 3, 4] rfl)
  unfold f_X7_greedy at h
  refine lv_iload_n hx hb dX7_greedy_0 rfl (lv_at hl 1 rfl) ?_
  refine lv_iconst (v := 0) hx hb dX7_greedy_1 (by decide) ?_
  refine lv_iconst (v := 1) hx hb dX7_greedy_2 (by decide) ?_
  obtain ⟨u1, eu1, h⟩ := bd_some h
  refine z_callS_i hC hW (rest := []) (c_X7_in (d := 0) (Nat.le_refl _) eu1) sw_X7_114 ⟨rfl, rfl⟩ (zrm_ok (by omega) (by decide)) rfl rfl hl.1 (Nat.le_of_ble_eq_true rfl) dX7_greedy_3 (fun H locs hW => ?_)
  refine lv_if_ne (tgt := 11) hx hb dX7_greedy_6 (by decide) (fun c2 => ?_) (fun c2 => ?_)
  · have h := ifn c2 h
    refine lv_aload_n hx hb dX7_greedy_11 rfl (lv_at hl 0 rfl) ?_
    refine lv_aload_n hx hb dX7_greedy_12 rfl (lv_at hl 0 rfl) ?_
    obtain ⟨u3, eu3, h⟩ := bd_some h
    refine z_callV_i hC hW (rest := [.ref (ρ 0)]) (c_X7_allDoors (d := 0) (Nat.le_refl _) eu3) vw_X7_248 WM_0 rfl ⟨rfl, rfl⟩ (zrm_ok (by omega) (by decide)) rfl rfl hl.1 (Nat.le_of_ble_eq_true rfl) dX7_greedy_13 (fun H locs hW => ?_)
    obtain ⟨u4, eu4, h⟩ := bd_some h
    refine z_callV_v hC hW (rest := []) (c_X7_findAll (d := 4) (Nat.le_refl _) eu4) vw_X7_261 WM_0 rfl ⟨rfl, rfl⟩ (zrm_ok (by omega) (by decide)) rfl rfl hl.1 (Nat.le_of_ble_eq_true rfl) dX7_greedy_16 (fun H locs hW => ?_)
    refine lv_aload_n hx hb dX7_greedy_19 rfl (lv_at hl 0 rfl) ?_
    refine z_get hC hW fg_X7_141 0 WM_0 rfl dX7_greedy_20 ?_
    refine lv_istore_n (lv' := [(2, .int M_olds), (0, .ref (ρ 0)), (1, .int a1)]) hx hb dX7_greedy_23 rfl hl (by decide) rfl (fun ls hl => ?_)
    refine lv_bipush (v := (-2)) hx hb dX7_greedy_24 (by decide) ?_
    refine lv_istore_n (lv' := [(3, .int (-2)), (2, .int M_olds), (0, .ref (ρ 0)), (1, .int a1)]) hx hb dX7_greedy_26 rfl hl (by decide) rfl (fun ls hl => ?_)
    refine lv_iconst (v := 0) hx hb dX7_greedy_27 (by decide) ?_
    refine lv_istore (lv' := [(4, .int 0), (3, .int (-2)), (2, .int M_olds), (0, .ref (ρ 0)), (1, .int a1)]) hx hb dX7_greedy_28 hl (by decide) rfl (fun ls hl => ?_)
    exact b30 h hW (lv_sub hl [3, 4, 2, 1, 0] rfl)
  · have h := ifp c2 h
    refine lv_iconst (v := (-1)) hx hb dX7_greedy_9 (by decide) ?_
    have h := Option.some.inj h
    subst h
    exact hret _ _ _ _ _ dX7_greedy_10 rfl rfl hW
set_option maxHeartbeats 4000000 in
set_option maxRecDepth 100000 in
theorem c_X7_dry {a1 : Int32} {a2 : Int32} {a3 : Int32} {d : Nat} {res : Int32 × Int32 × (Nat → Int32) × (Nat → Int32) × (Nat → Int32) × (Nat → Int32) × (Nat → Int32) × Int32} (hd : 5 ≤ d) (h : f_X7_dry a1 a2 a3 M_doors M_price M_year M_joins M_joinA M_joinB M_olds M_near M_act M_with M_lineMany M_testEnd M_lineEnd M_facts M_pile M_hasLaw M_far M_within M_tooNear M_dried = some res) : zMi l yX7_dry cX7_dry 9 .int (zrm d) [.ref (ρ 0), .int a1, .int a2, .int a3] D q (WM q ρ M_code M_doors M_price M_year M_joins M_joinA M_joinB M_walls M_wallA M_wallB M_cost M_olds M_near M_doneMany M_undoneMany M_changeOf M_changeAt M_before M_behind M_tape M_taped M_here M_fault M_open M_laid M_act M_with M_lineMany M_testEnd M_lineEnd M_facts M_pile M_hasLaw M_far M_within M_tooNear M_dried M_isOn M_wasOn M_bodies M_kind M_traces M_traced M_holds M_size M_elements M_shifted) sz res.1 (WM q ρ M_code M_doors M_price M_year M_joins M_joinA M_joinB M_walls M_wallA M_wallB M_cost res.2.1 M_near M_doneMany M_undoneMany M_changeOf M_changeAt M_before M_behind M_tape M_taped M_here M_fault M_open M_laid M_act M_with M_lineMany M_testEnd M_lineEnd res.2.2.1 res.2.2.2.1 M_hasLaw res.2.2.2.2.1 res.2.2.2.2.2.1 res.2.2.2.2.2.2.1 res.2.2.2.2.2.2.2 M_isOn M_wasOn M_bodies M_kind M_traces M_traced M_holds M_size M_elements M_shifted) := by
  refine zMet_i (own := RX7) _ (by decide) rfl (Nat.le_of_ble_eq_true rfl) ?_
  intro p e s m args below meth c A ls Q hC hW hl hret
  have hx := hC.1
  have hb := hC.2.1
  have hl : lv_has ls 9 [(0, .ref (ρ 0)), (1, .int a1), (2, .int a2), (3, .int a3)] := hl
  have b155 : ∀ {x1 : Int32} {x2 : Int32} {x3 : Int32} {x4 : Int32} {x5 : Int32} {x6 : Int32} {x7 : Int32} {M_olds : Int32} {M_facts : Nat → Int32} {M_pile : Nat → Int32} {M_far : Nat → Int32} {M_within : Nat → Int32} {M_tooNear : Nat → Int32} {M_dried : Int32} {k99 : Int32 → Int32 → Int32 → Option (Int32 × Int32 × (Nat → Int32) × (Nat → Int32) × (Nat → Int32) × (Nat → Int32) × (Nat → Int32) × Int32)} (hk99 : ∀ {x5 : Int32} {x6 : Int32} {x7 : Int32} {H : Heap} {locs : List Loc} {ls : Array Slot}, k99 x5 x6 x7 = some res → zW D A s.heap (WM q ρ M_code M_doors M_price M_year M_joins M_joinA M_joinB M_walls M_wallA M_wallB M_cost M_olds M_near M_doneMany M_undoneMany M_changeOf M_changeAt M_before M_behind M_tape M_taped M_here M_fault M_open M_laid M_act M_with M_lineMany M_testEnd M_lineEnd M_facts M_pile M_hasLaw M_far M_within M_tooNear M_dried M_isOn M_wasOn M_bodies M_kind M_traces M_traced M_holds M_size M_elements M_shifted) H locs → lv_has ls 9 [(0, .ref (ρ 0)), (1, .int x1), (2, .int x2), (3, .int x3), (4, .int x4), (5, .int x5), (6, .int x6), (7, .int x7)] → W p l e (zrm d) s m args below meth c H locs 0 0 Q (F0 m 99 ls [])) {H : Heap} {locs : List Loc} {ls : Array Slot}, f_X7_dry_b155 k99 x1 x2 x3 x4 x5 x6 x7 M_doors M_price M_olds M_facts M_pile M_far M_within M_tooNear M_dried = some res → zW D A s.heap (WM q ρ M_code M_doors M_price M_year M_joins M_joinA M_joinB M_walls M_wallA M_wallB M_cost M_olds M_near M_doneMany M_undoneMany M_changeOf M_changeAt M_before M_behind M_tape M_taped M_here M_fault M_open M_laid M_act M_with M_lineMany M_testEnd M_lineEnd M_facts M_pile M_hasLaw M_far M_within M_tooNear M_dried M_isOn M_wasOn M_bodies M_kind M_traces M_traced M_holds M_size M_elements M_shifted) H locs → lv_has ls 9 [(0, .ref (ρ 0)), (1, .int x1), (2, .int x2), (3, .int x3), (4, .int x4), (5, .int x5), (6, .int x6), (7, .int x7)] → W p l e (zrm d) s m args below meth c H locs 0 0 Q (F0 m 155 ls []) := by
    intro x1 x2 x3 x4 x5 x6 x7 M_olds M_facts M_pile M_far M_within M_tooNear M_dried k99 hk99 H locs ls h hW hl
    unfold f_X7_dry_b155 at h
    refine lv_iinc (v := (x7 + 1)) (lv' := [(7, .int (x7 + 1)), (0, .ref (ρ 0)), (1, .int x1), (2, .int x2), (3, .int x3), (4, .int x4), (5, .int x5), (6, .int x6)]) hx hb dX7_dry_155 hl (k := 7) rfl rfl (by decide) rfl (fun ls hl => ?_)
    refine lv_goto (tgt := 99) hx hb dX7_dry_158 (by decide) ?_
    exact hk99 h hW (lv_sub hl [1, 2, 3, 4, 5, 6, 7, 0] rfl)
  have b135 : ∀ {x1 : Int32} {x2 : Int32} {x3 : Int32} {x4 : Int32} {x5 : Int32} {x6 : Int32} {x7 : Int32} {x8 : Int32} {M_olds : Int32} {M_facts : Nat → Int32} {M_pile : Nat → Int32} {M_far : Nat → Int32} {M_within : Nat → Int32} {M_tooNear : Nat → Int32} {M_dried : Int32} {k99 : Int32 → Int32 → Int32 → Option (Int32 × Int32 × (Nat → Int32) × (Nat → Int32) × (Nat → Int32) × (Nat → Int32) × (Nat → Int32) × Int32)} (hk99 : ∀ {x5 : Int32} {x6 : Int32} {x7 : Int32} {H : Heap} {locs : List Loc} {ls : Array Slot}, k99 x5 x6 x7 = some res → zW D A s.heap (WM q ρ M_code M_doors M_price M_year M_joins M_joinA M_joinB M_walls M_wallA M_wallB M_cost M_olds M_near M_doneMany M_undoneMany M_changeOf M_changeAt M_before M_behind M_tape M_taped M_here M_fault M_open M_laid M_act M_with M_lineMany M_testEnd M_lineEnd M_facts M_pile M_hasLaw M_far M_within M_tooNear M_dried M_isOn M_wasOn M_bodies M_kind M_traces M_traced M_holds M_size M_elements M_shifted) H locs → lv_has ls 9 [(0, .ref (ρ 0)), (1, .int x1), (2, .int x2), (3, .int x3), (4, .int x4), (5, .int x5), (6, .int x6), (7, .int x7)] → W p l e (zrm d) s m args below meth c H locs 0 0 Q (F0 m 99 ls [])) {H : Heap} {locs : List Loc} {ls : Array Slot}, f_X7_dry_b135 k99 x1 x2 x3 x4 x5 x6 x7 x8 M_doors M_price M_olds M_facts M_pile M_far M_within M_tooNear M_dried = some res → zW D A s.heap (WM q ρ M_code M_doors M_price M_year M_joins M_joinA M_joinB M_walls M_wallA M_wallB M_cost M_olds M_near M_doneMany M_undoneMany M_changeOf M_changeAt M_before M_behind M_tape M_taped M_here M_fault M_open M_laid M_act M_with M_lineMany M_testEnd M_lineEnd M_facts M_pile M_hasLaw M_far M_within M_tooNear M_dried M_isOn M_wasOn M_bodies M_kind M_traces M_traced M_holds M_size M_elements M_shifted) H locs → lv_has ls 9 [(0, .ref (ρ 0)), (1, .int x1), (2, .int x2), (3, .int x3), (4, .int x4), (5, .int x5), (6, .int x6), (7, .int x7), (8, .int x8)] → W p l e (zrm d) s m args below meth c H locs 0 0 Q (F0 m 135 ls []) := by
    intro x1 x2 x3 x4 x5 x6 x7 x8 M_olds M_facts M_pile M_far M_within M_tooNear M_dried k99 hk99 H locs ls h hW hl
    unfold f_X7_dry_b135 at h
    refine lv_aload_n hx hb dX7_dry_135 rfl (lv_at hl 0 rfl) ?_
    refine lv_iload hx hb dX7_dry_136 (lv_at hl 7 rfl) ?_
    obtain ⟨u20, eu20, h⟩ := bd_some h
    refine z_callV_i hC hW (rest := []) (c_X7_mayBe (d := 1) (Nat.le_refl _) eu20) vw_X7_270 WM_0 rfl ⟨rfl, rfl⟩ (zrm_ok (by omega) (by decide)) rfl rfl hl.1 (Nat.le_of_ble_eq_true rfl) dX7_dry_138 (fun H locs hW => ?_)
    refine lv_if_ne (tgt := 147) hx hb dX7_dry_141 (by decide) (fun c21 => ?_) (fun c21 => ?_)
    · have h := ifn c21 h
      refine lv_iload hx hb dX7_dry_147 (lv_at hl 7 rfl) ?_
      refine lv_istore (lv' := [(5, .int x7), (0, .ref (ρ 0)), (1, .int x1), (2, .int x2), (3, .int x3), (4, .int x4), (6, .int x6), (7, .int x7), (8, .int x8)]) hx hb dX7_dry_149 hl (by decide) rfl (fun ls hl => ?_)
      refine lv_iload hx hb dX7_dry_151 (lv_at hl 8 rfl) ?_
      refine lv_istore (lv' := [(6, .int x8), (5, .int x7), (0, .ref (ρ 0)), (1, .int x1), (2, .int x2), (3, .int x3), (4, .int x4), (7, .int x7), (8, .int x8)]) hx hb dX7_dry_153 hl (by decide) rfl (fun ls hl => ?_)
      exact b155 hk99 h hW (lv_sub hl [2, 3, 4, 5, 6, 1, 0, 7] rfl)
    · have h := ifp c21 h
      refine lv_goto (tgt := 155) hx hb dX7_dry_144 (by decide) ?_
      exact b155 hk99 h hW (lv_sub hl [0, 1, 2, 3, 4, 5, 6, 7] rfl)
  have b99 : ∀ {x1 : Int32} {x2 : Int32} {x3 : Int32} {x4 : Int32} {M_olds : Int32} {M_facts : Nat → Int32} {M_pile : Nat → Int32} {M_far : Nat → Int32} {M_within : Nat → Int32} {M_tooNear : Nat → Int32} {M_dried : Int32} {n : Nat} {x5 : Int32} {x6 : Int32} {x7 : Int32} {H : Heap} {locs : List Loc} {ls : Array Slot}, f_X7_dry_b99 x1 x2 x3 x4 M_doors M_price M_olds M_facts M_pile M_far M_within M_tooNear M_dried n x5 x6 x7 = some res → zW D A s.heap (WM q ρ M_code M_doors M_price M_year M_joins M_joinA M_joinB M_walls M_wallA M_wallB M_cost M_olds M_near M_doneMany M_undoneMany M_changeOf M_changeAt M_before M_behind M_tape M_taped M_here M_fault M_open M_laid M_act M_with M_lineMany M_testEnd M_lineEnd M_facts M_pile M_hasLaw M_far M_within M_tooNear M_dried M_isOn M_wasOn M_bodies M_kind M_traces M_traced M_holds M_size M_elements M_shifted) H locs → lv_has ls 9 [(0, .ref (ρ 0)), (1, .int x1), (2, .int x2), (3, .int x3), (4, .int x4), (5, .int x5), (6, .int x6), (7, .int x7)] → W p l e (zrm d) s m args below meth c H locs 0 0 Q (F0 m 99 ls []) := by
    intro x1 x2 x3 x4 M_olds M_facts M_pile M_far M_within M_tooNear M_dried
    intro n
    induction n with
    | zero =>
      intro x5 x6 x7 H locs ls h
      rw [f_X7_dry_b99] at h
      cases h
    | succ n ih =>
      intro x5 x6 x7 H locs ls h hW hl
      rw [f_X7_dry_b99] at h
      refine lv_iload hx hb dX7_dry_99 (lv_at hl 7 rfl) ?_
      refine lv_aload_n hx hb dX7_dry_101 rfl (lv_at hl 0 rfl) ?_
      obtain ⟨u14, eu14, h⟩ := bd_some h
      refine z_callV_i hC hW (rest := [.int x7]) (c_X7_allDoors (d := 0) (Nat.le_refl _) eu14) vw_X7_248 WM_0 rfl ⟨rfl, rfl⟩ (zrm_ok (by omega) (by decide)) rfl rfl hl.1 (Nat.le_of_ble_eq_true rfl) dX7_dry_102 (fun H locs hW => ?_)
      refine lv_icmp_gt (tgt := 161) hx hb dX7_dry_105 (by decide) (fun c15 => ?_) (fun c15 => ?_)
      · have h := ifp c15 h
        refine lv_aload_n hx hb dX7_dry_161 rfl (lv_at hl 0 rfl) ?_
        refine lv_iload hx hb dX7_dry_162 (lv_at hl 4 rfl) ?_
        refine z_put hC hW fp_X7_141 0 WM_0 (Nat.le_of_ble_eq_true rfl) rfl rfl WMs_M_olds dX7_dry_164 (fun H locs hW => ?_)
        refine lv_aload_n hx hb dX7_dry_167 rfl (lv_at hl 0 rfl) ?_
        refine lv_iconst (v := 0) hx hb dX7_dry_168 (by decide) ?_
        refine z_put hC hW fp_X7_251 0 WM_0 (Nat.le_of_ble_eq_true rfl) rfl rfl WMs_M_dried dX7_dry_169 (fun H locs hW => ?_)
        refine lv_iload hx hb dX7_dry_172 (lv_at hl 5 rfl) ?_
        refine lv_if_lt (tgt := 181) hx hb dX7_dry_174 (by decide) (fun c16 => ?_) (fun c16 => ?_)
        · have h := ifp c16 h
          refine lv_iload hx hb dX7_dry_181 (lv_at hl 5 rfl) ?_
          refine lv_goto (tgt := 188) hx hb dX7_dry_183 (by decide) ?_
          have h := Option.some.inj h
          subst h
          exact hret _ _ _ _ _ dX7_dry_188 rfl rfl hW
        · have h := ifn c16 h
          refine lv_iload_n hx hb dX7_dry_177 rfl (lv_at hl 3 rfl) ?_
          refine lv_if_ne (tgt := 186) hx hb dX7_dry_178 (by decide) (fun c17 => ?_) (fun c17 => ?_)
          · have h := ifn c17 h
            refine lv_iload hx hb dX7_dry_186 (lv_at hl 6 rfl) ?_
            have h := Option.some.inj h
            subst h
            exact hret _ _ _ _ _ dX7_dry_188 rfl rfl hW
          · have h := ifp c17 h
            refine lv_iload hx hb dX7_dry_181 (lv_at hl 5 rfl) ?_
            refine lv_goto (tgt := 188) hx hb dX7_dry_183 (by decide) ?_
            have h := Option.some.inj h
            subst h
            exact hret _ _ _ _ _ dX7_dry_188 rfl rfl hW
      · have h := ifn c15 h
        refine lv_iload hx hb dX7_dry_108 (lv_at hl 7 rfl) ?_
        refine lv_iload_n hx hb dX7_dry_110 rfl (lv_at hl 1 rfl) ?_
        refine lv_ixor hx hb dX7_dry_111 ?_
        refine lv_iconst (v := 1) hx hb dX7_dry_112 (by decide) ?_
        refine lv_iload_n hx hb dX7_dry_113 rfl (lv_at hl 2 rfl) ?_
        refine lv_ishl hx hb dX7_dry_114 ?_
        refine lv_iconst (v := (-1)) hx hb dX7_dry_115 (by decide) ?_
        refine lv_ixor hx hb dX7_dry_116 ?_
        refine lv_iand hx hb dX7_dry_117 ?_
        obtain ⟨u18, eu18, h⟩ := bd_some h
        refine z_callS_i hC hW (rest := []) (c_X7_bitsOf (d := 0) (Nat.le_refl _) eu18) sw_X7_264 ⟨rfl, rfl⟩ (zrm_ok (by omega) (by decide)) rfl rfl hl.1 (Nat.le_of_ble_eq_true rfl) dX7_dry_118 (fun H locs hW => ?_)
        refine lv_istore (lv' := [(8, .int u18), (0, .ref (ρ 0)), (1, .int x1), (2, .int x2), (3, .int x3), (4, .int x4), (5, .int x5), (6, .int x6), (7, .int x7)]) hx hb dX7_dry_121 hl (by decide) rfl (fun ls hl => ?_)
        refine lv_iload hx hb dX7_dry_123 (lv_at hl 6 rfl) ?_
        refine lv_if_lt (tgt := 135) hx hb dX7_dry_125 (by decide) (fun c19 => ?_) (fun c19 => ?_)
        · have h := ifp c19 h
          exact b135 ih h hW (lv_sub hl [1, 2, 3, 4, 5, 6, 7, 8, 0] rfl)
        · have h := ifn c19 h
          refine lv_iload hx hb dX7_dry_128 (lv_at hl 0 rfl) ?_
          refine lv_iload hx hb dX7_dry_130 (lv_at hl 7 rfl) ?_
          refine lv_icmp_ge (tgt := 155) hx hb dX7_dry_132 (by decide) (fun c22 => ?_) (fun c22 => ?_)
          · have h := ifp c22 h
            exact b155 ih h hW (lv_sub hl [1, 2, 3, 4, 5, 6, 7, 8] rfl)
          · have h := ifn c22 h
            exact b135 ih h hW (lv_sub hl [1, 2, 3, 4, 5, 6, 7, 8, 0] rfl)
  unfold f_X7_dry at h
  refine lv_aload_n hx hb dX7_dry_0 rfl (lv_at hl 0 rfl) ?_
  refine lv_iload_n hx hb dX7_dry_1 rfl (lv_at hl 1 rfl) ?_
  obtain ⟨u1, eu1, h⟩ := bd_some h
  refine z_callV_i hC hW (rest := []) (c_X7_isLaying (d := 0) (Nat.le_refl _) eu1) vw_X7_138 WM_0 rfl ⟨rfl, rfl⟩ (zrm_ok (by omega) (by decide)) rfl rfl hl.1 (Nat.le_of_ble_eq_true rfl) dX7_dry_2 (fun H locs hW => ?_)
  refine lv_if_eq (tgt := 33) hx hb dX7_dry_5 (by decide) (fun c2 => ?_) (fun c2 => ?_)
  · have h := ifp c2 h
    refine lv_iconst (v := (-1)) hx hb dX7_dry_33 (by decide) ?_
    have h := Option.some.inj h
    subst h
    exact hret _ _ _ _ _ dX7_dry_34 rfl rfl hW
  · have h := ifn c2 h
    refine lv_aload_n hx hb dX7_dry_8 rfl (lv_at hl 0 rfl) ?_
    refine lv_iload_n hx hb dX7_dry_9 rfl (lv_at hl 2 rfl) ?_
    obtain ⟨u3, eu3, h⟩ := bd_some h
    refine z_callV_i hC hW (rest := []) (c_X7_isDoor (d := 1) (Nat.le_refl _) eu3) vw_X7_118 WM_0 rfl ⟨rfl, rfl⟩ (zrm_ok (by omega) (by decide)) rfl rfl hl.1 (Nat.le_of_ble_eq_true rfl) dX7_dry_10 (fun H locs hW => ?_)
    refine lv_if_eq (tgt := 33) hx hb dX7_dry_13 (by decide) (fun c4 => ?_) (fun c4 => ?_)
    · have h := ifp c4 h
      refine lv_iconst (v := (-1)) hx hb dX7_dry_33 (by decide) ?_
      have h := Option.some.inj h
      subst h
      exact hret _ _ _ _ _ dX7_dry_34 rfl rfl hW
    · have h := ifn c4 h
      refine lv_iload_n hx hb dX7_dry_16 rfl (lv_at hl 1 rfl) ?_
      refine lv_iload_n hx hb dX7_dry_17 rfl (lv_at hl 2 rfl) ?_
      refine lv_ishr hx hb dX7_dry_18 ?_
      refine lv_iconst (v := 1) hx hb dX7_dry_19 (by decide) ?_
      refine lv_iand hx hb dX7_dry_20 ?_
      refine lv_if_eq (tgt := 33) hx hb dX7_dry_21 (by decide) (fun c5 => ?_) (fun c5 => ?_)
      · have h := ifp c5 h
        refine lv_iconst (v := (-1)) hx hb dX7_dry_33 (by decide) ?_
        have h := Option.some.inj h
        subst h
        exact hret _ _ _ _ _ dX7_dry_34 rfl rfl hW
      · have h := ifn c5 h
        refine lv_iload_n hx hb dX7_dry_24 rfl (lv_at hl 3 rfl) ?_
        refine lv_iconst (v := 0) hx hb dX7_dry_25 (by decide) ?_
        refine lv_iconst (v := 1) hx hb dX7_dry_26 (by decide) ?_
        obtain ⟨u6, eu6, h⟩ := bd_some h
        refine z_callS_i hC hW (rest := []) (c_X7_in (d := 0) (Nat.le_refl _) eu6) sw_X7_114 ⟨rfl, rfl⟩ (zrm_ok (by omega) (by decide)) rfl rfl hl.1 (Nat.le_of_ble_eq_true rfl) dX7_dry_27 (fun H locs hW => ?_)
        refine lv_if_ne (tgt := 35) hx hb dX7_dry_30 (by decide) (fun c7 => ?_) (fun c7 => ?_)
        · have h := ifn c7 h
          refine lv_aload_n hx hb dX7_dry_35 rfl (lv_at hl 0 rfl) ?_
          refine lv_aload_n hx hb dX7_dry_36 rfl (lv_at hl 0 rfl) ?_
          obtain ⟨u8, eu8, h⟩ := bd_some h
          refine z_callV_i hC hW (rest := [.ref (ρ 0)]) (c_X7_allDoors (d := 0) (Nat.le_refl _) eu8) vw_X7_248 WM_0 rfl ⟨rfl, rfl⟩ (zrm_ok (by omega) (by decide)) rfl rfl hl.1 (Nat.le_of_ble_eq_true rfl) dX7_dry_37 (fun H locs hW => ?_)
          obtain ⟨u9, eu9, h⟩ := bd_some h
          refine z_callV_v hC hW (rest := []) (c_X7_findAll (d := 4) (Nat.le_refl _) eu9) vw_X7_261 WM_0 rfl ⟨rfl, rfl⟩ (zrm_ok (by omega) (by decide)) rfl rfl hl.1 (Nat.le_of_ble_eq_true rfl) dX7_dry_40 (fun H locs hW => ?_)
          refine lv_aload_n hx hb dX7_dry_43 rfl (lv_at hl 0 rfl) ?_
          refine lv_iload_n hx hb dX7_dry_44 rfl (lv_at hl 1 rfl) ?_
          obtain ⟨u10, eu10, h⟩ := bd_some h
          refine z_callV_i hC hW (rest := []) (c_X7_mayBe (d := 1) (Nat.le_refl _) eu10) vw_X7_270 WM_0 rfl ⟨rfl, rfl⟩ (zrm_ok (by omega) (by decide)) rfl rfl hl.1 (Nat.le_of_ble_eq_true rfl) dX7_dry_45 (fun H locs hW => ?_)
          refine lv_if_ne (tgt := 54) hx hb dX7_dry_48 (by decide) (fun c11 => ?_) (fun c11 => ?_)
          · have h := ifn c11 h
            refine lv_aload_n hx hb dX7_dry_54 rfl (lv_at hl 0 rfl) ?_
            refine z_get hC hW fg_X7_141 0 WM_0 rfl dX7_dry_55 ?_
            refine lv_istore (lv' := [(4, .int M_olds), (0, .ref (ρ 0)), (1, .int a1), (2, .int a2), (3, .int a3)]) hx hb dX7_dry_58 hl (by decide) rfl (fun ls hl => ?_)
            refine lv_aload_n hx hb dX7_dry_60 rfl (lv_at hl 1 rfl) ?_
            refine lv_dup hx hb dX7_dry_61 rfl ?_
            refine z_get hC hW fg_X7_141 0 WM_0 rfl dX7_dry_62 ?_
            refine lv_iconst (v := 1) hx hb dX7_dry_65 (by decide) ?_
            refine lv_iload_n hx hb dX7_dry_66 rfl (lv_at hl 3 rfl) ?_
            refine lv_ishl hx hb dX7_dry_67 ?_
            refine lv_iconst (v := (-1)) hx hb dX7_dry_68 (by decide) ?_
            refine lv_ixor hx hb dX7_dry_69 ?_
            refine lv_iand hx hb dX7_dry_70 ?_
            refine z_put hC hW fp_X7_141 0 WM_0 (Nat.le_of_ble_eq_true rfl) rfl rfl WMs_M_olds dX7_dry_71 (fun H locs hW => ?_)
            refine lv_aload_n hx hb dX7_dry_74 rfl (lv_at hl 1 rfl) ?_
            refine lv_iconst (v := 1) hx hb dX7_dry_75 (by decide) ?_
            refine lv_iload_n hx hb dX7_dry_76 rfl (lv_at hl 3 rfl) ?_
            refine lv_ishl hx hb dX7_dry_77 ?_
            refine z_put hC hW fp_X7_251 0 WM_0 (Nat.le_of_ble_eq_true rfl) rfl rfl WMs_M_dried dX7_dry_78 (fun H locs hW => ?_)
            refine lv_aload_n hx hb dX7_dry_81 rfl (lv_at hl 1 rfl) ?_
            refine lv_aload_n hx hb dX7_dry_82 rfl (lv_at hl 1 rfl) ?_
            obtain ⟨u12, eu12, h⟩ := bd_some h
            refine z_callV_i hC hW (rest := [.ref (ρ 0)]) (c_X7_allDoors (d := 0) (Nat.le_refl _) eu12) vw_X7_248 WM_0 rfl ⟨rfl, rfl⟩ (zrm_ok (by omega) (by decide)) rfl rfl hl.1 (Nat.le_of_ble_eq_true rfl) dX7_dry_83 (fun H locs hW => ?_)
            obtain ⟨u13, eu13, h⟩ := bd_some h
            refine z_callV_v hC hW (rest := []) (c_X7_findAll (d := 4) (Nat.le_refl _) eu13) vw_X7_261 WM_0 rfl ⟨rfl, rfl⟩ (zrm_ok (by omega) (by decide)) rfl rfl hl.1 (Nat.le_of_ble_eq_true rfl) dX7_dry_86 (fun H locs hW => ?_)
            refine lv_bipush (v := (-2)) hx hb dX7_dry_89 (by decide) ?_
            refine lv_istore (lv' := [(5, .int (-2)), (4, .int M_olds), (0, .ref (ρ 0)), (1, .int a1), (2, .int a2), (3, .int a3)]) hx hb dX7_dry_91 hl (by decide) rfl (fun ls hl => ?_)
            refine lv_iconst (v := 0) hx hb dX7_dry_93 (by decide) ?_
            refine lv_istore (lv' := [(6, .int 0), (5, .int (-2)), (4, .int M_olds), (0, .ref (ρ 0)), (1, .int a1), (2, .int a2), (3, .int a3)]) hx hb dX7_dry_94 hl (by decide) rfl (fun ls hl => ?_)
            refine lv_iconst (v := 0) hx hb dX7_dry_96 (by decide) ?_
            refine lv_istore (lv' := [(7, .int 0), (6, .int 0), (5, .int (-2)), (4, .int M_olds), (0, .ref (ρ 0)), (1, .int a1), (2, .int a2), (3, .int a3)]) hx hb dX7_dry_97 hl (by decide) rfl (fun ls hl => ?_)
            exact b99 h hW (lv_sub hl [4, 5, 6, 7, 3, 2, 1, 0] rfl)
          · have h := ifp c11 h
            refine lv_bipush (v := (-5)) hx hb dX7_dry_51 (by decide) ?_
            have h := Option.some.inj h
            subst h
            exact hret _ _ _ _ _ dX7_dry_53 rfl rfl hW
        · have h := ifp c7 h
          refine lv_iconst (v := (-1)) hx hb dX7_dry_33 (by decide) ?_
          have h := Option.some.inj h
          subst h
          exact hret _ _ _ _ _ dX7_dry_34 rfl rfl hW
set_option maxHeartbeats 4000000 in
set_option maxRecDepth 100000 in
theorem c_X7_thereIn {a1 : Int32} {d : Nat} {res : Int32} (hd : 0 ≤ d) (h : f_X7_thereIn a1 M_doors M_year = some res) : zMi l yX7_thereIn cX7_thereIn 4 .int (zrm d) [.ref (ρ 0), .int a1] D q (WM q ρ M_code M_doors M_price M_year M_joins M_joinA M_joinB M_walls M_wallA M_wallB M_cost M_olds M_near M_doneMany M_undoneMany M_changeOf M_changeAt M_before M_behind M_tape M_taped M_here M_fault M_open M_laid M_act M_with M_lineMany M_testEnd M_lineEnd M_facts M_pile M_hasLaw M_far M_within M_tooNear M_dried M_isOn M_wasOn M_bodies M_kind M_traces M_traced M_holds M_size M_elements M_shifted) sz res (WM q ρ M_code M_doors M_price M_year M_joins M_joinA M_joinB M_walls M_wallA M_wallB M_cost M_olds M_near M_doneMany M_undoneMany M_changeOf M_changeAt M_before M_behind M_tape M_taped M_here M_fault M_open M_laid M_act M_with M_lineMany M_testEnd M_lineEnd M_facts M_pile M_hasLaw M_far M_within M_tooNear M_dried M_isOn M_wasOn M_bodies M_kind M_traces M_traced M_holds M_size M_elements M_shifted) := by
  refine zMet_i (own := RX7) _ (by decide) rfl (Nat.le_of_ble_eq_true rfl) ?_
  intro p e s m args below meth c A ls Q hC hW hl hret
  have hx := hC.1
  have hb := hC.2.1
  have hl : lv_has ls 4 [(0, .ref (ρ 0)), (1, .int a1)] := hl
  have b28 : ∀ {x1 : Int32} {x2 : Int32} {x3 : Int32} {k4 : Int32 → Int32 → Option (Int32)} (hk4 : ∀ {x2 : Int32} {x3 : Int32} {H : Heap} {locs : List Loc} {ls : Array Slot}, k4 x2 x3 = some res → zW D A s.heap (WM q ρ M_code M_doors M_price M_year M_joins M_joinA M_joinB M_walls M_wallA M_wallB M_cost M_olds M_near M_doneMany M_undoneMany M_changeOf M_changeAt M_before M_behind M_tape M_taped M_here M_fault M_open M_laid M_act M_with M_lineMany M_testEnd M_lineEnd M_facts M_pile M_hasLaw M_far M_within M_tooNear M_dried M_isOn M_wasOn M_bodies M_kind M_traces M_traced M_holds M_size M_elements M_shifted) H locs → lv_has ls 4 [(0, .ref (ρ 0)), (1, .int x1), (2, .int x2), (3, .int x3)] → W p l e (zrm d) s m args below meth c H locs 0 0 Q (F0 m 4 ls [])) {H : Heap} {locs : List Loc} {ls : Array Slot}, f_X7_thereIn_b28 k4 x1 x2 x3 M_doors M_year = some res → zW D A s.heap (WM q ρ M_code M_doors M_price M_year M_joins M_joinA M_joinB M_walls M_wallA M_wallB M_cost M_olds M_near M_doneMany M_undoneMany M_changeOf M_changeAt M_before M_behind M_tape M_taped M_here M_fault M_open M_laid M_act M_with M_lineMany M_testEnd M_lineEnd M_facts M_pile M_hasLaw M_far M_within M_tooNear M_dried M_isOn M_wasOn M_bodies M_kind M_traces M_traced M_holds M_size M_elements M_shifted) H locs → lv_has ls 4 [(0, .ref (ρ 0)), (1, .int x1), (2, .int x2), (3, .int x3)] → W p l e (zrm d) s m args below meth c H locs 0 0 Q (F0 m 28 ls []) := by
    intro x1 x2 x3 k4 hk4 H locs ls h hW hl
    unfold f_X7_thereIn_b28 at h
    refine lv_iinc (v := (x3 + 1)) (lv' := [(3, .int (x3 + 1)), (0, .ref (ρ 0)), (1, .int x1), (2, .int x2)]) hx hb dX7_thereIn_28 hl (k := 3) rfl rfl (by decide) rfl (fun ls hl => ?_)
    refine lv_goto (tgt := 4) hx hb dX7_thereIn_31 (by decide) ?_
    exact hk4 h hW (lv_sub hl [1, 2, 3, 0] rfl)
  have b4 : ∀ {x1 : Int32} {n : Nat} {x2 : Int32} {x3 : Int32} {H : Heap} {locs : List Loc} {ls : Array Slot}, f_X7_thereIn_b4 x1 M_doors M_year n x2 x3 = some res → zW D A s.heap (WM q ρ M_code M_doors M_price M_year M_joins M_joinA M_joinB M_walls M_wallA M_wallB M_cost M_olds M_near M_doneMany M_undoneMany M_changeOf M_changeAt M_before M_behind M_tape M_taped M_here M_fault M_open M_laid M_act M_with M_lineMany M_testEnd M_lineEnd M_facts M_pile M_hasLaw M_far M_within M_tooNear M_dried M_isOn M_wasOn M_bodies M_kind M_traces M_traced M_holds M_size M_elements M_shifted) H locs → lv_has ls 4 [(0, .ref (ρ 0)), (1, .int x1), (2, .int x2), (3, .int x3)] → W p l e (zrm d) s m args below meth c H locs 0 0 Q (F0 m 4 ls []) := by
    intro x1
    intro n
    induction n with
    | zero =>
      intro x2 x3 H locs ls h
      rw [f_X7_thereIn_b4] at h
      cases h
    | succ n ih =>
      intro x2 x3 H locs ls h hW hl
      rw [f_X7_thereIn_b4] at h
      refine lv_iload_n hx hb dX7_thereIn_4 rfl (lv_at hl 3 rfl) ?_
      refine lv_aload_n hx hb dX7_thereIn_5 rfl (lv_at hl 0 rfl) ?_
      refine z_get hC hW fg_X7_111 0 WM_0 rfl dX7_thereIn_6 ?_
      refine lv_icmp_ge (tgt := 34) hx hb dX7_thereIn_9 (by decide) (fun c1 => ?_) (fun c1 => ?_)
      · have h := ifp c1 h
        refine lv_iload_n hx hb dX7_thereIn_34 rfl (lv_at hl 2 rfl) ?_
        have h := Option.some.inj h
        subst h
        exact hret _ _ _ _ _ dX7_thereIn_35 rfl rfl hW
      · have h := ifn c1 h
        refine lv_aload_n hx hb dX7_thereIn_12 rfl (lv_at hl 0 rfl) ?_
        refine z_get hC hW fg_X7_13 0 WM_0 rfl dX7_thereIn_13 ?_
        refine lv_iload_n hx hb dX7_thereIn_16 rfl (lv_at hl 3 rfl) ?_
        obtain ⟨g2, h⟩ := ix_some h
        refine z_iald hC hW 2 WM_2 g2 dX7_thereIn_17 ?_
        refine lv_iload_n hx hb dX7_thereIn_18 rfl (lv_at hl 1 rfl) ?_
        refine lv_icmp_gt (tgt := 28) hx hb dX7_thereIn_19 (by decide) (fun c3 => ?_) (fun c3 => ?_)
        · have h := ifp c3 h
          exact b28 ih h hW (lv_sub hl [0, 1, 2, 3] rfl)
        · have h := ifn c3 h
          refine lv_iload_n hx hb dX7_thereIn_22 rfl (lv_at hl 2 rfl) ?_
          refine lv_iconst (v := 1) hx hb dX7_thereIn_23 (by decide) ?_
          refine lv_iload_n hx hb dX7_thereIn_24 rfl (lv_at hl 3 rfl) ?_
          refine lv_ishl hx hb dX7_thereIn_25 ?_
          refine lv_ior hx hb dX7_thereIn_26 ?_
          refine lv_istore_n (lv' := [(2, .int (x2 ||| (1 <<< (x3 &&& 31)))), (0, .ref (ρ 0)), (1, .int x1), (3, .int x3)]) hx hb dX7_thereIn_27 rfl hl (by decide) rfl (fun ls hl => ?_)
          exact b28 ih h hW (lv_sub hl [1, 2, 0, 3] rfl)
  unfold f_X7_thereIn at h
  refine lv_iconst (v := 0) hx hb dX7_thereIn_0 (by decide) ?_
  refine lv_istore_n (lv' := [(2, .int 0), (0, .ref (ρ 0)), (1, .int a1)]) hx hb dX7_thereIn_1 rfl hl (by decide) rfl (fun ls hl => ?_)
  refine lv_iconst (v := 0) hx hb dX7_thereIn_2 (by decide) ?_
  refine lv_istore_n (lv' := [(3, .int 0), (2, .int 0), (0, .ref (ρ 0)), (1, .int a1)]) hx hb dX7_thereIn_3 rfl hl (by decide) rfl (fun ls hl => ?_)
  exact b4 h hW (lv_sub hl [2, 3, 1, 0] rfl)
end CT21_m10
