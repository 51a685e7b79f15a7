section CT21_m00
variable {l : Launch} {D : va_G} {q : Nat → ClassId} {ρ : Nat → Nat} {sz : Nat} {M_code : Int32} {M_doors : Int32} {M_price : Nat → Int32} {M_year : Nat → Int32} {M_joins : Int32} {M_joinA : Nat → Int32} {M_joinB : Nat → Int32} {M_walls : Int32} {M_wallA : Nat → Int32} {M_wallB : Nat → Int32} {M_cost : Nat → Int32} {M_olds : Int32} {M_near : Int32} {M_doneMany : Int32} {M_undoneMany : Int32} {M_changeOf : Nat → Int32} {M_changeAt : Nat → Int32} {M_before : Nat → Int32} {M_behind : Nat → Int32} {M_tape : Nat → Int32} {M_taped : Int32} {M_here : Int32} {M_fault : Int32} {M_open : Int32} {M_laid : Int32} {M_act : Nat → Int32} {M_with : Nat → Int32} {M_lineMany : Nat → Int32} {M_testEnd : Nat → Int32} {M_lineEnd : Nat → Int32} {M_facts : Nat → Int32} {M_pile : Nat → Int32} {M_hasLaw : Int32} {M_far : Nat → Int32} {M_within : Nat → Int32} {M_tooNear : Nat → Int32} {M_dried : Int32} {M_isOn : Nat → Int32} {M_wasOn : Nat → Int32} {M_bodies : Int32} {M_kind : Nat → Int32} {M_traces : Int32} {M_traced : Nat → Int32} {M_holds : Nat → Int32} {M_size : Nat → Int32} {M_elements : Nat → Int64} {M_shifted : Nat → Int64}
set_option maxHeartbeats 4000000 in
set_option maxRecDepth 100000 in
theorem c_X7_in {a0 : Int32} {a1 : Int32} {a2 : Int32} {d : Nat} {res : Int32} (hd : 0 ≤ d) (h : f_X7_in a0 a1 a2 = some res) : zMi l yX7_in cX7_in 3 .boolean (zrm d) [.int a0, .int a1, .int a2] D q (WM q ρ M_code M_doors M_price M_year M_joins M_joinA M_joinB M_walls M_wallA M_wallB M_cost M_olds M_near M_doneMany M_undoneMany M_changeOf M_changeAt M_before M_behind M_tape M_taped M_here M_fault M_open M_laid M_act M_with M_lineMany M_testEnd M_lineEnd M_facts M_pile M_hasLaw M_far M_within M_tooNear M_dried M_isOn M_wasOn M_bodies M_kind M_traces M_traced M_holds M_size M_elements M_shifted) sz res (WM q ρ M_code M_doors M_price M_year M_joins M_joinA M_joinB M_walls M_wallA M_wallB M_cost M_olds M_near M_doneMany M_undoneMany M_changeOf M_changeAt M_before M_behind M_tape M_taped M_here M_fault M_open M_laid M_act M_with M_lineMany M_testEnd M_lineEnd M_facts M_pile M_hasLaw M_far M_within M_tooNear M_dried M_isOn M_wasOn M_bodies M_kind M_traces M_traced M_holds M_size M_elements M_shifted) := by
  refine zMet_i (own := RX7) _ (by decide) rfl (Nat.le_of_ble_eq_true rfl) ?_
  intro p e s m args below meth c A ls Q hC hW hl hret
  have hx := hC.1
  have hb := hC.2.1
  have hl : lv_has ls 3 [(0, .int a0), (1, .int a1), (2, .int a2)] := hl
  unfold f_X7_in at h
  refine lv_iload_n hx hb dX7_in_0 rfl (lv_at hl 0 rfl) ?_
  refine lv_iload_n hx hb dX7_in_1 rfl (lv_at hl 1 rfl) ?_
  refine lv_icmp_lt (tgt := 14) hx hb dX7_in_2 (by decide) (fun c1 => ?_) (fun c1 => ?_)
  · have h := ifp c1 h
    refine lv_iconst (v := 0) hx hb dX7_in_14 (by decide) ?_
    have h := Option.some.inj h
    subst h
    exact hret _ _ _ _ _ dX7_in_15 rfl rfl hW
  · have h := ifn c1 h
    refine lv_iload_n hx hb dX7_in_5 rfl (lv_at hl 0 rfl) ?_
    refine lv_iload_n hx hb dX7_in_6 rfl (lv_at hl 2 rfl) ?_
    refine lv_icmp_gt (tgt := 14) hx hb dX7_in_7 (by decide) (fun c2 => ?_) (fun c2 => ?_)
    · have h := ifp c2 h
      refine lv_iconst (v := 0) hx hb dX7_in_14 (by decide) ?_
      have h := Option.some.inj h
      subst h
      exact hret _ _ _ _ _ dX7_in_15 rfl rfl hW
    · have h := ifn c2 h
      refine lv_iconst (v := 1) hx hb dX7_in_10 (by decide) ?_
      refine lv_goto (tgt := 15) hx hb dX7_in_11 (by decide) ?_
      have h := Option.some.inj h
      subst h
      exact hret _ _ _ _ _ dX7_in_15 rfl rfl hW
set_option maxHeartbeats 4000000 in
set_option maxRecDepth 100000 in
theorem c_X7_door {a1 : Int32} {a2 : Int32} {d : Nat} {res : Int32 × Int32 × (Nat → Int32) × (Nat → Int32)} (hd : 1 ≤ d) (h : f_X7_door a1 a2 M_doors M_price M_year = some res) : zMi l yX7_door cX7_door 3 .int (zrm d) [.ref (ρ 0), .int a1, .int a2] D q (WM q ρ M_code M_doors M_price M_year M_joins M_joinA M_joinB M_walls M_wallA M_wallB M_cost M_olds M_near M_doneMany M_undoneMany M_changeOf M_changeAt M_before M_behind M_tape M_taped M_here M_fault M_open M_laid M_act M_with M_lineMany M_testEnd M_lineEnd M_facts M_pile M_hasLaw M_far M_within M_tooNear M_dried M_isOn M_wasOn M_bodies M_kind M_traces M_traced M_holds M_size M_elements M_shifted) sz res.1 (WM q ρ M_code res.2.1 res.2.2.1 res.2.2.2 M_joins M_joinA M_joinB M_walls M_wallA M_wallB M_cost M_olds M_near M_doneMany M_undoneMany M_changeOf M_changeAt M_before M_behind M_tape M_taped M_here M_fault M_open M_laid M_act M_with M_lineMany M_testEnd M_lineEnd M_facts M_pile M_hasLaw M_far M_within M_tooNear M_dried M_isOn M_wasOn M_bodies M_kind M_traces M_traced M_holds M_size M_elements M_shifted) := by
  refine zMet_i (own := RX7) _ (by decide) rfl (Nat.le_of_ble_eq_true rfl) ?_
  intro p e s m args below meth c A ls Q hC hW hl hret
  have hx := hC.1
  have hb := hC.2.1
  have hl : lv_has ls 3 [(0, .ref (ρ 0)), (1, .int a1), (2, .int a2)] := hl
  unfold f_X7_door at h
  refine lv_iload_n hx hb dX7_door_0 rfl (lv_at hl 1 rfl) ?_
  refine lv_iconst (v := 0) hx hb dX7_door_1 (by decide) ?_
  refine lv_bipush (v := 99) hx hb dX7_door_2 (by decide) ?_
  obtain ⟨u1, eu1, h⟩ := bd_some h
  refine z_callS_i hC hW (rest := []) (c_X7_in (d := 0) (Nat.le_refl _) eu1) sw_X7_114 ⟨rfl, rfl⟩ (zrm_ok (by omega) (by decide)) rfl rfl hl.1 (Nat.le_of_ble_eq_true rfl) dX7_door_4 (fun H locs hW => ?_)
  refine lv_if_eq (tgt := 20) hx hb dX7_door_7 (by decide) (fun c2 => ?_) (fun c2 => ?_)
  · have h := ifp c2 h
    refine lv_iconst (v := (-1)) hx hb dX7_door_20 (by decide) ?_
    have h := Option.some.inj h
    subst h
    exact hret _ _ _ _ _ dX7_door_21 rfl rfl hW
  · have h := ifn c2 h
    refine lv_iload_n hx hb dX7_door_10 rfl (lv_at hl 2 rfl) ?_
    refine lv_iconst (v := 0) hx hb dX7_door_11 (by decide) ?_
    refine lv_bipush (v := 9) hx hb dX7_door_12 (by decide) ?_
    obtain ⟨u3, eu3, h⟩ := bd_some h
    refine z_callS_i hC hW (rest := []) (c_X7_in (d := 0) (Nat.le_refl _) eu3) sw_X7_114 ⟨rfl, rfl⟩ (zrm_ok (by omega) (by decide)) rfl rfl hl.1 (Nat.le_of_ble_eq_true rfl) dX7_door_14 (fun H locs hW => ?_)
    refine lv_if_ne (tgt := 22) hx hb dX7_door_17 (by decide) (fun c4 => ?_) (fun c4 => ?_)
    · have h := ifn c4 h
      refine lv_aload_n hx hb dX7_door_22 rfl (lv_at hl 0 rfl) ?_
      refine z_get hC hW fg_X7_111 0 WM_0 rfl dX7_door_23 ?_
      refine lv_bipush (v := 14) hx hb dX7_door_26 (by decide) ?_
      refine lv_icmp_ne (tgt := 34) hx hb dX7_door_28 (by decide) (fun c5 => ?_) (fun c5 => ?_)
      · have h := ifn c5 h
        refine lv_aload_n hx hb dX7_door_34 rfl (lv_at hl 0 rfl) ?_
        refine z_get hC hW fg_X7_7 0 WM_0 rfl dX7_door_35 ?_
        refine lv_aload_n hx hb dX7_door_38 rfl (lv_at hl 0 rfl) ?_
        refine z_get hC hW fg_X7_111 0 WM_0 rfl dX7_door_39 ?_
        refine lv_iload_n hx hb dX7_door_42 rfl (lv_at hl 1 rfl) ?_
        obtain ⟨g6, h⟩ := ix_some h
        refine z_iast hC hW 1 WM_1 g6 WMs_M_price dX7_door_43 (fun H locs hW => ?_)
        refine lv_aload_n hx hb dX7_door_44 rfl (lv_at hl 0 rfl) ?_
        refine z_get hC hW fg_X7_13 0 WM_0 rfl dX7_door_45 ?_
        refine lv_aload_n hx hb dX7_door_48 rfl (lv_at hl 0 rfl) ?_
        refine z_get hC hW fg_X7_111 0 WM_0 rfl dX7_door_49 ?_
        refine lv_iload_n hx hb dX7_door_52 rfl (lv_at hl 2 rfl) ?_
        obtain ⟨g7, h⟩ := ix_some h
        refine z_iast hC hW 2 WM_2 g7 WMs_M_year dX7_door_53 (fun H locs hW => ?_)
        refine lv_aload_n hx hb dX7_door_54 rfl (lv_at hl 0 rfl) ?_
        refine lv_dup hx hb dX7_door_55 rfl ?_
        refine z_get hC hW fg_X7_111 0 WM_0 rfl dX7_door_56 ?_
        refine lv_iconst (v := 1) hx hb dX7_door_59 (by decide) ?_
        refine lv_iadd hx hb dX7_door_60 ?_
        refine z_put hC hW fp_X7_111 0 WM_0 (Nat.le_of_ble_eq_true rfl) rfl rfl WMs_M_doors dX7_door_61 (fun H locs hW => ?_)
        refine lv_aload_n hx hb dX7_door_64 rfl (lv_at hl 0 rfl) ?_
        refine z_get hC hW fg_X7_111 0 WM_0 rfl dX7_door_65 ?_
        refine lv_iconst (v := 1) hx hb dX7_door_68 (by decide) ?_
        refine lv_isub hx hb dX7_door_69 ?_
        have h := Option.some.inj h
        subst h
        exact hret _ _ _ _ _ dX7_door_70 rfl rfl hW
      · have h := ifp c5 h
        refine lv_bipush (v := (-3)) hx hb dX7_door_31 (by decide) ?_
        have h := Option.some.inj h
        subst h
        exact hret _ _ _ _ _ dX7_door_33 rfl rfl hW
    · have h := ifp c4 h
      refine lv_iconst (v := (-1)) hx hb dX7_door_20 (by decide) ?_
      have h := Option.some.inj h
      subst h
      exact hret _ _ _ _ _ dX7_door_21 rfl rfl hW
set_option maxHeartbeats 4000000 in
set_option maxRecDepth 100000 in
theorem c_X7_isDoor {a1 : Int32} {d : Nat} {res : Int32} (hd : 1 ≤ d) (h : f_X7_isDoor a1 M_doors = some res) : zMi l yX7_isDoor cX7_isDoor 2 .boolean (zrm d) [.ref (ρ 0), .int a1] D q (WM q ρ M_code M_doors M_price M_year M_joins M_joinA M_joinB M_walls M_wallA M_wallB M_cost M_olds M_near M_doneMany M_undoneMany M_changeOf M_changeAt M_before M_behind M_tape M_taped M_here M_fault M_open M_laid M_act M_with M_lineMany M_testEnd M_lineEnd M_facts M_pile M_hasLaw M_far M_within M_tooNear M_dried M_isOn M_wasOn M_bodies M_kind M_traces M_traced M_holds M_size M_elements M_shifted) sz res (WM q ρ M_code M_doors M_price M_year M_joins M_joinA M_joinB M_walls M_wallA M_wallB M_cost M_olds M_near M_doneMany M_undoneMany M_changeOf M_changeAt M_before M_behind M_tape M_taped M_here M_fault M_open M_laid M_act M_with M_lineMany M_testEnd M_lineEnd M_facts M_pile M_hasLaw M_far M_within M_tooNear M_dried M_isOn M_wasOn M_bodies M_kind M_traces M_traced M_holds M_size M_elements M_shifted) := by
  refine zMet_i (own := RX7) _ (by decide) rfl (Nat.le_of_ble_eq_true rfl) ?_
  intro p e s m args below meth c A ls Q hC hW hl hret
  have hx := hC.1
  have hb := hC.2.1
  have hl : lv_has ls 2 [(0, .ref (ρ 0)), (1, .int a1)] := hl
  unfold f_X7_isDoor at h
  refine lv_iload_n hx hb dX7_isDoor_0 rfl (lv_at hl 1 rfl) ?_
  refine lv_iconst (v := 0) hx hb dX7_isDoor_1 (by decide) ?_
  refine lv_aload_n hx hb dX7_isDoor_2 rfl (lv_at hl 0 rfl) ?_
  refine z_get hC hW fg_X7_111 0 WM_0 rfl dX7_isDoor_3 ?_
  refine lv_iconst (v := 1) hx hb dX7_isDoor_6 (by decide) ?_
  refine lv_isub hx hb dX7_isDoor_7 ?_
  obtain ⟨u1, eu1, h⟩ := bd_some h
  refine z_callS_i hC hW (rest := []) (c_X7_in (d := 0) (Nat.le_refl _) eu1) sw_X7_114 ⟨rfl, rfl⟩ (zrm_ok (by omega) (by decide)) rfl rfl hl.1 (Nat.le_of_ble_eq_true rfl) dX7_isDoor_8 (fun H locs hW => ?_)
  obtain ⟨g2, h⟩ := bz_some h
  have h := Option.some.inj h
  subst h
  exact hret _ _ _ _ _ dX7_isDoor_11 rfl g2 hW
set_option maxHeartbeats 4000000 in
set_option maxRecDepth 100000 in
theorem c_X7_areTwo {a1 : Int32} {d : Nat} {res : Int32} (hd : 2 ≤ d) (h : f_X7_areTwo a1 M_doors = some res) : zMi l yX7_areTwo cX7_areTwo 2 .boolean (zrm d) [.ref (ρ 0), .int a1] D q (WM q ρ M_code M_doors M_price M_year M_joins M_joinA M_joinB M_walls M_wallA M_wallB M_cost M_olds M_near M_doneMany M_undoneMany M_changeOf M_changeAt M_before M_behind M_tape M_taped M_here M_fault M_open M_laid M_act M_with M_lineMany M_testEnd M_lineEnd M_facts M_pile M_hasLaw M_far M_within M_tooNear M_dried M_isOn M_wasOn M_bodies M_kind M_traces M_traced M_holds M_size M_elements M_shifted) sz res (WM q ρ M_code M_doors M_price M_year M_joins M_joinA M_joinB M_walls M_wallA M_wallB M_cost M_olds M_near M_doneMany M_undoneMany M_changeOf M_changeAt M_before M_behind M_tape M_taped M_here M_fault M_open M_laid M_act M_with M_lineMany M_testEnd M_lineEnd M_facts M_pile M_hasLaw M_far M_within M_tooNear M_dried M_isOn M_wasOn M_bodies M_kind M_traces M_traced M_holds M_size M_elements M_shifted) := by
  refine zMet_i (own := RX7) _ (by decide) rfl (Nat.le_of_ble_eq_true rfl) ?_
  intro p e s m args below meth c A ls Q hC hW hl hret
  have hx := hC.1
  have hb := hC.2.1
  have hl : lv_has ls 2 [(0, .ref (ρ 0)), (1, .int a1)] := hl
  unfold f_X7_areTwo at h
  refine lv_iload_n hx hb dX7_areTwo_0 rfl (lv_at hl 1 rfl) ?_
  refine lv_if_lt (tgt := 41) hx hb dX7_areTwo_1 (by decide) (fun c1 => ?_) (fun c1 => ?_)
  · have h := ifp c1 h
    refine lv_iconst (v := 0) hx hb dX7_areTwo_41 (by decide) ?_
    have h := Option.some.inj h
    subst h
    exact hret _ _ _ _ _ dX7_areTwo_42 rfl rfl hW
  · have h := ifn c1 h
    refine lv_aload_n hx hb dX7_areTwo_4 rfl (lv_at hl 0 rfl) ?_
    refine lv_iload_n hx hb dX7_areTwo_5 rfl (lv_at hl 1 rfl) ?_
    refine lv_bipush (v := 100) hx hb dX7_areTwo_6 (by decide) ?_
    refine lv_idiv hx hb dX7_areTwo_8 (by decide) ?_
    obtain ⟨u2, eu2, h⟩ := bd_some h
    refine z_callV_i hC hW (rest := []) (c_X7_isDoor (d := 1) (Nat.le_refl _) eu2) vw_X7_118 WM_0 rfl ⟨rfl, rfl⟩ (zrm_ok (by omega) (by decide)) rfl rfl hl.1 (Nat.le_of_ble_eq_true rfl) dX7_areTwo_9 (fun H locs hW => ?_)
    refine lv_if_eq (tgt := 41) hx hb dX7_areTwo_12 (by decide) (fun c3 => ?_) (fun c3 => ?_)
    · have h := ifp c3 h
      refine lv_iconst (v := 0) hx hb dX7_areTwo_41 (by decide) ?_
      have h := Option.some.inj h
      subst h
      exact hret _ _ _ _ _ dX7_areTwo_42 rfl rfl hW
    · have h := ifn c3 h
      refine lv_aload_n hx hb dX7_areTwo_15 rfl (lv_at hl 0 rfl) ?_
      refine lv_iload_n hx hb dX7_areTwo_16 rfl (lv_at hl 1 rfl) ?_
      refine lv_bipush (v := 100) hx hb dX7_areTwo_17 (by decide) ?_
      refine lv_irem hx hb dX7_areTwo_19 (by decide) ?_
      obtain ⟨u4, eu4, h⟩ := bd_some h
      refine z_callV_i hC hW (rest := []) (c_X7_isDoor (d := 1) (Nat.le_refl _) eu4) vw_X7_118 WM_0 rfl ⟨rfl, rfl⟩ (zrm_ok (by omega) (by decide)) rfl rfl hl.1 (Nat.le_of_ble_eq_true rfl) dX7_areTwo_20 (fun H locs hW => ?_)
      refine lv_if_eq (tgt := 41) hx hb dX7_areTwo_23 (by decide) (fun c5 => ?_) (fun c5 => ?_)
      · have h := ifp c5 h
        refine lv_iconst (v := 0) hx hb dX7_areTwo_41 (by decide) ?_
        have h := Option.some.inj h
        subst h
        exact hret _ _ _ _ _ dX7_areTwo_42 rfl rfl hW
      · have h := ifn c5 h
        refine lv_iload_n hx hb dX7_areTwo_26 rfl (lv_at hl 1 rfl) ?_
        refine lv_bipush (v := 100) hx hb dX7_areTwo_27 (by decide) ?_
        refine lv_idiv hx hb dX7_areTwo_29 (by decide) ?_
        refine lv_iload_n hx hb dX7_areTwo_30 rfl (lv_at hl 1 rfl) ?_
        refine lv_bipush (v := 100) hx hb dX7_areTwo_31 (by decide) ?_
        refine lv_irem hx hb dX7_areTwo_33 (by decide) ?_
        refine lv_icmp_eq (tgt := 41) hx hb dX7_areTwo_34 (by decide) (fun c6 => ?_) (fun c6 => ?_)
        · have h := ifp c6 h
          refine lv_iconst (v := 0) hx hb dX7_areTwo_41 (by decide) ?_
          have h := Option.some.inj h
          subst h
          exact hret _ _ _ _ _ dX7_areTwo_42 rfl rfl hW
        · have h := ifn c6 h
          refine lv_iconst (v := 1) hx hb dX7_areTwo_37 (by decide) ?_
          refine lv_goto (tgt := 42) hx hb dX7_areTwo_38 (by decide) ?_
          have h := Option.some.inj h
          subst h
          exact hret _ _ _ _ _ dX7_areTwo_42 rfl rfl hW
set_option maxHeartbeats 4000000 in
set_option maxRecDepth 100000 in
theorem c_X7_addJoin {a1 : Int32} {a2 : Int32} {d : Nat} {res : Int32 × Int32 × (Nat → Int32) × (Nat → Int32)} (hd : 0 ≤ d) (h : f_X7_addJoin a1 a2 M_joins M_joinA M_joinB = some res) : zMi l yX7_addJoin cX7_addJoin 3 .int (zrm d) [.ref (ρ 0), .int a1, .int a2] D q (WM q ρ M_code M_doors M_price M_year M_joins M_joinA M_joinB M_walls M_wallA M_wallB M_cost M_olds M_near M_doneMany M_undoneMany M_changeOf M_changeAt M_before M_behind M_tape M_taped M_here M_fault M_open M_laid M_act M_with M_lineMany M_testEnd M_lineEnd M_facts M_pile M_hasLaw M_far M_within M_tooNear M_dried M_isOn M_wasOn M_bodies M_kind M_traces M_traced M_holds M_size M_elements M_shifted) sz res.1 (WM q ρ M_code M_doors M_price M_year res.2.1 res.2.2.1 res.2.2.2 M_walls M_wallA M_wallB M_cost M_olds M_near M_doneMany M_undoneMany M_changeOf M_changeAt M_before M_behind M_tape M_taped M_here M_fault M_open M_laid M_act M_with M_lineMany M_testEnd M_lineEnd M_facts M_pile M_hasLaw M_far M_within M_tooNear M_dried M_isOn M_wasOn M_bodies M_kind M_traces M_traced M_holds M_size M_elements M_shifted) := by
  refine zMet_i (own := RX7) _ (by decide) rfl (Nat.le_of_ble_eq_true rfl) ?_
  intro p e s m args below meth c A ls Q hC hW hl hret
  have hx := hC.1
  have hb := hC.2.1
  have hl : lv_has ls 3 [(0, .ref (ρ 0)), (1, .int a1), (2, .int a2)] := hl
  unfold f_X7_addJoin at h
  refine lv_aload_n hx hb dX7_addJoin_0 rfl (lv_at hl 0 rfl) ?_
  refine z_get hC hW fg_X7_16 0 WM_0 rfl dX7_addJoin_1 ?_
  refine lv_aload_n hx hb dX7_addJoin_4 rfl (lv_at hl 0 rfl) ?_
  refine z_get hC hW fg_X7_122 0 WM_0 rfl dX7_addJoin_5 ?_
  refine lv_iload_n hx hb dX7_addJoin_8 rfl (lv_at hl 1 rfl) ?_
  obtain ⟨g1, h⟩ := ix_some h
  refine z_iast hC hW 3 WM_3 g1 WMs_M_joinA dX7_addJoin_9 (fun H locs hW => ?_)
  refine lv_aload_n hx hb dX7_addJoin_10 rfl (lv_at hl 0 rfl) ?_
  refine z_get hC hW fg_X7_19 0 WM_0 rfl dX7_addJoin_11 ?_
  refine lv_aload_n hx hb dX7_addJoin_14 rfl (lv_at hl 0 rfl) ?_
  refine z_get hC hW fg_X7_122 0 WM_0 rfl dX7_addJoin_15 ?_
  refine lv_iload_n hx hb dX7_addJoin_18 rfl (lv_at hl 2 rfl) ?_
  obtain ⟨g2, h⟩ := ix_some h
  refine z_iast hC hW 4 WM_4 g2 WMs_M_joinB dX7_addJoin_19 (fun H locs hW => ?_)
  refine lv_aload_n hx hb dX7_addJoin_20 rfl (lv_at hl 0 rfl) ?_
  refine lv_dup hx hb dX7_addJoin_21 rfl ?_
  refine z_get hC hW fg_X7_122 0 WM_0 rfl dX7_addJoin_22 ?_
  refine lv_iconst (v := 1) hx hb dX7_addJoin_25 (by decide) ?_
  refine lv_iadd hx hb dX7_addJoin_26 ?_
  refine z_put hC hW fp_X7_122 0 WM_0 (Nat.le_of_ble_eq_true rfl) rfl rfl WMs_M_joins dX7_addJoin_27 (fun H locs hW => ?_)
  refine lv_aload_n hx hb dX7_addJoin_30 rfl (lv_at hl 0 rfl) ?_
  refine z_get hC hW fg_X7_122 0 WM_0 rfl dX7_addJoin_31 ?_
  refine lv_iconst (v := 1) hx hb dX7_addJoin_34 (by decide) ?_
  refine lv_isub hx hb dX7_addJoin_35 ?_
  have h := Option.some.inj h
  subst h
  exact hret _ _ _ _ _ dX7_addJoin_36 rfl rfl hW
set_option maxHeartbeats 4000000 in
set_option maxRecDepth 100000 in
theorem c_X7_join {a1 : Int32} {d : Nat} {res : Int32 × Int32 × (Nat → Int32) × (Nat → Int32)} (hd : 3 ≤ d) (h : f_X7_join a1 M_doors M_joins M_joinA M_joinB = some res) : zMi l yX7_join cX7_join 2 .int (zrm d) [.ref (ρ 0), .int a1] D q (WM q ρ M_code M_doors M_price M_year M_joins M_joinA M_joinB M_walls M_wallA M_wallB M_cost M_olds M_near M_doneMany M_undoneMany M_changeOf M_changeAt M_before M_behind M_tape M_taped M_here M_fault M_open M_laid M_act M_with M_lineMany M_testEnd M_lineEnd M_facts M_pile M_hasLaw M_far M_within M_tooNear M_dried M_isOn M_wasOn M_bodies M_kind M_traces M_traced M_holds M_size M_elements M_shifted) sz res.1 (WM q ρ M_code M_doors M_price M_year res.2.1 res.2.2.1 res.2.2.2 M_walls M_wallA M_wallB M_cost M_olds M_near M_doneMany M_undoneMany M_changeOf M_changeAt M_before M_behind M_tape M_taped M_here M_fault M_open M_laid M_act M_with M_lineMany M_testEnd M_lineEnd M_facts M_pile M_hasLaw M_far M_within M_tooNear M_dried M_isOn M_wasOn M_bodies M_kind M_traces M_traced M_holds M_size M_elements M_shifted) := by
  refine zMet_i (own := RX7) _ (by decide) rfl (Nat.le_of_ble_eq_true rfl) ?_
  intro p e s m args below meth c A ls Q hC hW hl hret
  have hx := hC.1
  have hb := hC.2.1
  have hl : lv_has ls 2 [(0, .ref (ρ 0)), (1, .int a1)] := hl
  unfold f_X7_join at h
  refine lv_aload_n hx hb dX7_join_0 rfl (lv_at hl 0 rfl) ?_
  refine lv_iload_n hx hb dX7_join_1 rfl (lv_at hl 1 rfl) ?_
  obtain ⟨u1, eu1, h⟩ := bd_some h
  refine z_callV_i hC hW (rest := []) (c_X7_areTwo (d := 2) (Nat.le_refl _) eu1) vw_X7_125 WM_0 rfl ⟨rfl, rfl⟩ (zrm_ok (by omega) (by decide)) rfl rfl hl.1 (Nat.le_of_ble_eq_true rfl) dX7_join_2 (fun H locs hW => ?_)
  refine lv_if_ne (tgt := 10) hx hb dX7_join_5 (by decide) (fun c2 => ?_) (fun c2 => ?_)
  · have h := ifn c2 h
    refine lv_aload_n hx hb dX7_join_10 rfl (lv_at hl 0 rfl) ?_
    refine z_get hC hW fg_X7_122 0 WM_0 rfl dX7_join_11 ?_
    refine lv_bipush (v := 40) hx hb dX7_join_14 (by decide) ?_
    refine lv_icmp_ne (tgt := 24) hx hb dX7_join_16 (by decide) (fun c3 => ?_) (fun c3 => ?_)
    · have h := ifn c3 h
      refine lv_aload_n hx hb dX7_join_24 rfl (lv_at hl 0 rfl) ?_
      refine lv_iload_n hx hb dX7_join_25 rfl (lv_at hl 1 rfl) ?_
      refine lv_bipush (v := 100) hx hb dX7_join_26 (by decide) ?_
      refine lv_idiv hx hb dX7_join_28 (by decide) ?_
      refine lv_iload_n hx hb dX7_join_29 rfl (lv_at hl 1 rfl) ?_
      refine lv_bipush (v := 100) hx hb dX7_join_30 (by decide) ?_
      refine lv_irem hx hb dX7_join_32 (by decide) ?_
      obtain ⟨u4, eu4, h⟩ := bd_some h
      refine z_callV_i hC hW (rest := []) (c_X7_addJoin (d := 0) (Nat.le_refl _) eu4) vw_X7_128 WM_0 rfl ⟨rfl, rfl⟩ (zrm_ok (by omega) (by decide)) rfl rfl hl.1 (Nat.le_of_ble_eq_true rfl) dX7_join_33 (fun H locs hW => ?_)
      have h := Option.some.inj h
      subst h
      exact hret _ _ _ _ _ dX7_join_36 rfl rfl hW
    · have h := ifp c3 h
      refine lv_bipush (v := (-3)) hx hb dX7_join_19 (by decide) ?_
      refine lv_goto (tgt := 36) hx hb dX7_join_21 (by decide) ?_
      have h := Option.some.inj h
      subst h
      exact hret _ _ _ _ _ dX7_join_36 rfl rfl hW
  · have h := ifp c2 h
    refine lv_iconst (v := (-1)) hx hb dX7_join_8 (by decide) ?_
    have h := Option.some.inj h
    subst h
    exact hret _ _ _ _ _ dX7_join_9 rfl rfl hW
set_option maxHeartbeats 4000000 in
set_option maxRecDepth 100000 in
theorem c_X7_isShelf {a0 : Int32} {d : Nat} {res : Int32} (hd : 1 ≤ d) (h : f_X7_isShelf a0 = some res) : zMi l yX7_isShelf cX7_isShelf 1 .boolean (zrm d) [.int a0] D q (WM q ρ M_code M_doors M_price M_year M_joins M_joinA M_joinB M_walls M_wallA M_wallB M_cost M_olds M_near M_doneMany M_undoneMany M_changeOf M_changeAt M_before M_behind M_tape M_taped M_here M_fault M_open M_laid M_act M_with M_lineMany M_testEnd M_lineEnd M_facts M_pile M_hasLaw M_far M_within M_tooNear M_dried M_isOn M_wasOn M_bodies M_kind M_traces M_traced M_holds M_size M_elements M_shifted) sz res (WM q ρ M_code M_doors M_price M_year M_joins M_joinA M_joinB M_walls M_wallA M_wallB M_cost M_olds M_near M_doneMany M_undoneMany M_changeOf M_changeAt M_before M_behind M_tape M_taped M_here M_fault M_open M_laid M_act M_with M_lineMany M_testEnd M_lineEnd M_facts M_pile M_hasLaw M_far M_within M_tooNear M_dried M_isOn M_wasOn M_bodies M_kind M_traces M_traced M_holds M_size M_elements M_shifted) := by
  refine zMet_i (own := RX7) _ (by decide) rfl (Nat.le_of_ble_eq_true rfl) ?_
  intro p e s m args below meth c A ls Q hC hW hl hret
  have hx := hC.1
  have hb := hC.2.1
  have hl : lv_has ls 1 [(0, .int a0)] := hl
  unfold f_X7_isShelf at h
  refine lv_iload_n hx hb dX7_isShelf_0 rfl (lv_at hl 0 rfl) ?_
  refine lv_iconst (v := 0) hx hb dX7_isShelf_1 (by decide) ?_
  refine lv_iconst (v := 5) hx hb dX7_isShelf_2 (by decide) ?_
  obtain ⟨u1, eu1, h⟩ := bd_some h
  refine z_callS_i hC hW (rest := []) (c_X7_in (d := 0) (Nat.le_refl _) eu1) sw_X7_114 ⟨rfl, rfl⟩ (zrm_ok (by omega) (by decide)) rfl rfl hl.1 (Nat.le_of_ble_eq_true rfl) dX7_isShelf_3 (fun H locs hW => ?_)
  obtain ⟨g2, h⟩ := bz_some h
  have h := Option.some.inj h
  subst h
  exact hret _ _ _ _ _ dX7_isShelf_6 rfl g2 hW
set_option maxHeartbeats 4000000 in
set_option maxRecDepth 100000 in
theorem c_X7_joins {a1 : Int32} {a2 : Int32} {a3 : Int32} {d : Nat} {res : Int32 × Int32 × (Nat → Int32) × (Nat → Int32)} (hd : 2 ≤ d) (h : f_X7_joins a1 a2 a3 M_doors M_joins M_joinA M_joinB M_holds M_size M_elements = some res) : zMi l yX7_joins cX7_joins 10 .int (zrm d) [.ref (ρ 0), .int a1, .int a2, .int a3] D q (WM q ρ M_code M_doors M_price M_year M_joins M_joinA M_joinB M_walls M_wallA M_wallB M_cost M_olds M_near M_doneMany M_undoneMany M_changeOf M_changeAt M_before M_behind M_tape M_taped M_here M_fault M_open M_laid M_act M_with M_lineMany M_testEnd M_lineEnd M_facts M_pile M_hasLaw M_far M_within M_tooNear M_dried M_isOn M_wasOn M_bodies M_kind M_traces M_traced M_holds M_size M_elements M_shifted) sz res.1 (WM q ρ M_code M_doors M_price M_year res.2.1 res.2.2.1 res.2.2.2 M_walls M_wallA M_wallB M_cost M_olds M_near M_doneMany M_undoneMany M_changeOf M_changeAt M_before M_behind M_tape M_taped M_here M_fault M_open M_laid M_act M_with M_lineMany M_testEnd M_lineEnd M_facts M_pile M_hasLaw M_far M_within M_tooNear M_dried M_isOn M_wasOn M_bodies M_kind M_traces M_traced M_holds M_size M_elements M_shifted) := by
  refine zMet_i (own := RX7) _ (by decide) rfl (Nat.le_of_ble_eq_true rfl) ?_
  intro p e s m args below meth c A ls Q hC hW hl hret
  have hx := hC.1
  have hb := hC.2.1
  have hl : lv_has ls 10 [(0, .ref (ρ 0)), (1, .int a1), (2, .int a2), (3, .int a3)] := hl
  have b58 : ∀ {x1 : Int32} {x2 : Int32} {x3 : Int32} {n : Nat} {x4 : Int32} {M_joins : Int32} {M_joinA : Nat → Int32} {M_joinB : Nat → Int32} {H : Heap} {locs : List Loc} {ls : Array Slot}, f_X7_joins_b58 x1 x2 x3 M_doors M_size M_elements n x4 M_joins M_joinA M_joinB = some res → zW D A s.heap (WM q ρ M_code M_doors M_price M_year M_joins M_joinA M_joinB M_walls M_wallA M_wallB M_cost M_olds M_near M_doneMany M_undoneMany M_changeOf M_changeAt M_before M_behind M_tape M_taped M_here M_fault M_open M_laid M_act M_with M_lineMany M_testEnd M_lineEnd M_facts M_pile M_hasLaw M_far M_within M_tooNear M_dried M_isOn M_wasOn M_bodies M_kind M_traces M_traced M_holds M_size M_elements M_shifted) H locs → lv_has ls 10 [(0, .ref (ρ 0)), (1, .int x1), (2, .int x2), (3, .int x3), (4, .int x4)] → W p l e (zrm d) s m args below meth c H locs 0 0 Q (F0 m 58 ls []) := by
    intro x1 x2 x3
    intro n
    induction n with
    | zero =>
      intro x4 M_joins M_joinA M_joinB H locs ls h
      rw [f_X7_joins_b58] at h
      cases h
    | succ n ih =>
      intro x4 M_joins M_joinA M_joinB H locs ls h hW hl
      rw [f_X7_joins_b58] at h
      refine lv_iload hx hb dX7_joins_58 (lv_at hl 4 rfl) ?_
      refine lv_iload_n hx hb dX7_joins_60 rfl (lv_at hl 3 rfl) ?_
      refine lv_icmp_ge (tgt := 183) hx hb dX7_joins_61 (by decide) (fun c9 => ?_) (fun c9 => ?_)
      · have h := ifp c9 h
        refine lv_iload_n hx hb dX7_joins_183 rfl (lv_at hl 3 rfl) ?_
        have h := Option.some.inj h
        subst h
        exact hret _ _ _ _ _ dX7_joins_184 rfl rfl hW
      · have h := ifn c9 h
        refine lv_iload_n hx hb dX7_joins_64 rfl (lv_at hl 2 rfl) ?_
        refine lv_i2l hx hb dX7_joins_65 rfl ?_
        refine lv_iconst (v := 2) hx hb dX7_joins_66 (by decide) ?_
        refine lv_iload hx hb dX7_joins_67 (lv_at hl 4 rfl) ?_
        refine lv_imul hx hb dX7_joins_69 ?_
        refine lv_i2l hx hb dX7_joins_70 rfl ?_
        refine lv_ladd hx hb dX7_joins_71 ?_
        refine lv_lstore (lv' := [(5, .long ((Int32.toInt64 x2) + (Int32.toInt64 (2 * x4)))), (0, .ref (ρ 0)), (1, .int x1), (2, .int x2), (3, .int x3), (4, .int x4)]) hx hb dX7_joins_72 hl (by decide) rfl (fun ls hl => ?_)
        refine lv_lload hx hb dX7_joins_74 (lv_at hl 0 rfl) ?_
        refine lv_lconst (v := 0) hx hb dX7_joins_76 (by decide) ?_
        refine W.lcmp hx hb dX7_joins_77 ?_
        refine lv_if_lt (tgt := 105) hx hb dX7_joins_78 (by decide) (fun c10 => ?_) (fun c10 => ?_)
        · have h := ifp c10 h
          refine lv_iload hx hb dX7_joins_105 (lv_at hl 5 rfl) ?_
          have h := Option.some.inj h
          subst h
          exact hret _ _ _ _ _ dX7_joins_107 rfl rfl hW
        · have h := ifn c10 h
          refine lv_lload hx hb dX7_joins_81 (lv_at hl 0 rfl) ?_
          refine lv_lconst (v := 1) hx hb dX7_joins_83 (by decide) ?_
          refine lv_ladd hx hb dX7_joins_84 ?_
          refine lv_aload_n hx hb dX7_joins_85 rfl (lv_at hl 1 rfl) ?_
          refine z_get hC hW fg_X7_98 0 WM_0 rfl dX7_joins_86 ?_
          refine lv_iload_n hx hb dX7_joins_89 rfl (lv_at hl 2 rfl) ?_
          obtain ⟨g11, h⟩ := ix_some h
          refine z_iald hC hW 28 WM_28 g11 dX7_joins_90 ?_
          refine lv_i2l hx hb dX7_joins_91 rfl ?_
          refine W.lcmp hx hb dX7_joins_92 ?_
          refine lv_if_ge (tgt := 105) hx hb dX7_joins_93 (by decide) (fun c12 => ?_) (fun c12 => ?_)
          · have h := ifp c12 h
            refine lv_iload hx hb dX7_joins_105 (lv_at hl 5 rfl) ?_
            have h := Option.some.inj h
            subst h
            exact hret _ _ _ _ _ dX7_joins_107 rfl rfl hW
          · have h := ifn c12 h
            refine lv_aload_n hx hb dX7_joins_96 rfl (lv_at hl 1 rfl) ?_
            refine z_get hC hW fg_X7_122 0 WM_0 rfl dX7_joins_97 ?_
            refine lv_bipush (v := 40) hx hb dX7_joins_100 (by decide) ?_
            refine lv_icmp_ne (tgt := 108) hx hb dX7_joins_102 (by decide) (fun c13 => ?_) (fun c13 => ?_)
            · have h := ifn c13 h
              refine lv_bipush (v := 60) hx hb dX7_joins_108 (by decide) ?_
              refine lv_iload_n hx hb dX7_joins_110 rfl (lv_at hl 2 rfl) ?_
              refine lv_imul hx hb dX7_joins_111 ?_
              refine lv_lload hx hb dX7_joins_112 (lv_at hl 0 rfl) ?_
              refine lv_l2i hx hb dX7_joins_114 rfl ?_
              refine lv_iadd hx hb dX7_joins_115 ?_
              refine lv_istore (lv' := [(7, .int ((60 * x1) + (Int64.toInt32 ((Int32.toInt64 x2) + (Int32.toInt64 (2 * x4)))))), (5, .long ((Int32.toInt64 x2) + (Int32.toInt64 (2 * x4)))), (0, .ref (ρ 0)), (1, .int x1), (2, .int x2), (3, .int x3), (4, .int x4)]) hx hb dX7_joins_116 hl (by decide) rfl (fun ls hl => ?_)
              refine lv_aload_n hx hb dX7_joins_118 rfl (lv_at hl 2 rfl) ?_
              refine z_get hC hW fg_X7_101 0 WM_0 rfl dX7_joins_119 ?_
              refine lv_iload hx hb dX7_joins_122 (lv_at hl 0 rfl) ?_
              obtain ⟨g14, h⟩ := ix_some h
              refine z_lald hC hW 29 WM_29 g14 dX7_joins_124 ?_
              refine lv_l2i hx hb dX7_joins_125 rfl ?_
              refine lv_istore (lv' := [(8, .int (Int64.toInt32 (M_elements (Int32.toNatClampNeg ((60 * x1) + (Int64.toInt32 ((Int32.toInt64 x2) + (Int32.toInt64 (2 * x4))))))))), (7, .int ((60 * x1) + (Int64.toInt32 ((Int32.toInt64 x2) + (Int32.toInt64 (2 * x4)))))), (5, .long ((Int32.toInt64 x2) + (Int32.toInt64 (2 * x4)))), (0, .ref (ρ 0)), (1, .int x1), (2, .int x2), (3, .int x3), (4, .int x4)]) hx hb dX7_joins_126 hl (by decide) rfl (fun ls hl => ?_)
              refine lv_aload_n hx hb dX7_joins_128 rfl (lv_at hl 3 rfl) ?_
              refine z_get hC hW fg_X7_101 0 WM_0 rfl dX7_joins_129 ?_
              refine lv_iload hx hb dX7_joins_132 (lv_at hl 1 rfl) ?_
              refine lv_iconst (v := 1) hx hb dX7_joins_134 (by decide) ?_
              refine lv_iadd hx hb dX7_joins_135 ?_
              obtain ⟨g15, h⟩ := ix_some h
              refine z_lald hC hW 29 WM_29 g15 dX7_joins_136 ?_
              refine lv_l2i hx hb dX7_joins_137 rfl ?_
              refine lv_istore (lv' := [(9, .int (Int64.toInt32 (M_elements (Int32.toNatClampNeg (((60 * x1) + (Int64.toInt32 ((Int32.toInt64 x2) + (Int32.toInt64 (2 * x4))))) + 1))))), (8, .int (Int64.toInt32 (M_elements (Int32.toNatClampNeg ((60 * x1) + (Int64.toInt32 ((Int32.toInt64 x2) + (Int32.toInt64 (2 * x4))))))))), (7, .int ((60 * x1) + (Int64.toInt32 ((Int32.toInt64 x2) + (Int32.toInt64 (2 * x4)))))), (5, .long ((Int32.toInt64 x2) + (Int32.toInt64 (2 * x4)))), (0, .ref (ρ 0)), (1, .int x1), (2, .int x2), (3, .int x3), (4, .int x4)]) hx hb dX7_joins_138 hl (by decide) rfl (fun ls hl => ?_)
              refine lv_aload_n hx hb dX7_joins_140 rfl (lv_at hl 4 rfl) ?_
              refine lv_iload hx hb dX7_joins_141 (lv_at hl 1 rfl) ?_
              obtain ⟨u16, eu16, h⟩ := bd_some h
              refine z_callV_i hC hW (rest := []) (c_X7_isDoor (d := 1) (Nat.le_refl _) eu16) vw_X7_118 WM_0 rfl ⟨rfl, rfl⟩ (zrm_ok (by omega) (by decide)) rfl rfl hl.1 (Nat.le_of_ble_eq_true rfl) dX7_joins_143 (fun H locs hW => ?_)
              refine lv_if_eq (tgt := 165) hx hb dX7_joins_146 (by decide) (fun c17 => ?_) (fun c17 => ?_)
              · have h := ifp c17 h
                refine lv_iload hx hb dX7_joins_165 (lv_at hl 8 rfl) ?_
                have h := Option.some.inj h
                subst h
                exact hret _ _ _ _ _ dX7_joins_167 rfl rfl hW
              · have h := ifn c17 h
                refine lv_aload_n hx hb dX7_joins_149 rfl (lv_at hl 4 rfl) ?_
                refine lv_iload hx hb dX7_joins_150 (lv_at hl 0 rfl) ?_
                obtain ⟨u18, eu18, h⟩ := bd_some h
                refine z_callV_i hC hW (rest := []) (c_X7_isDoor (d := 1) (Nat.le_refl _) eu18) vw_X7_118 WM_0 rfl ⟨rfl, rfl⟩ (zrm_ok (by omega) (by decide)) rfl rfl hl.1 (Nat.le_of_ble_eq_true rfl) dX7_joins_152 (fun H locs hW => ?_)
                refine lv_if_eq (tgt := 165) hx hb dX7_joins_155 (by decide) (fun c19 => ?_) (fun c19 => ?_)
                · have h := ifp c19 h
                  refine lv_iload hx hb dX7_joins_165 (lv_at hl 8 rfl) ?_
                  have h := Option.some.inj h
                  subst h
                  exact hret _ _ _ _ _ dX7_joins_167 rfl rfl hW
                · have h := ifn c19 h
                  refine lv_iload hx hb dX7_joins_158 (lv_at hl 1 rfl) ?_
                  refine lv_iload hx hb dX7_joins_160 (lv_at hl 0 rfl) ?_
                  refine lv_icmp_ne (tgt := 168) hx hb dX7_joins_162 (by decide) (fun c20 => ?_) (fun c20 => ?_)
                  · have h := ifn c20 h
                    refine lv_aload_n hx hb dX7_joins_168 rfl (lv_at hl 4 rfl) ?_
                    refine lv_iload hx hb dX7_joins_169 (lv_at hl 1 rfl) ?_
                    refine lv_iload hx hb dX7_joins_171 (lv_at hl 0 rfl) ?_
                    obtain ⟨u21, eu21, h⟩ := bd_some h
                    refine z_callV_i hC hW (rest := []) (c_X7_addJoin (d := 0) (Nat.le_refl _) eu21) vw_X7_128 WM_0 rfl ⟨rfl, rfl⟩ (zrm_ok (by omega) (by decide)) rfl rfl hl.1 (Nat.le_of_ble_eq_true rfl) dX7_joins_173 (fun H locs hW => ?_)
                    refine lv_pop hx hb dX7_joins_176 rfl ?_
                    refine lv_iinc (v := (x4 + 1)) (lv' := [(4, .int (x4 + 1)), (9, .int (Int64.toInt32 (M_elements (Int32.toNatClampNeg (((60 * x1) + (Int64.toInt32 ((Int32.toInt64 x2) + (Int32.toInt64 (2 * x4))))) + 1))))), (8, .int (Int64.toInt32 (M_elements (Int32.toNatClampNeg ((60 * x1) + (Int64.toInt32 ((Int32.toInt64 x2) + (Int32.toInt64 (2 * x4))))))))), (7, .int ((60 * x1) + (Int64.toInt32 ((Int32.toInt64 x2) + (Int32.toInt64 (2 * x4)))))), (5, .long ((Int32.toInt64 x2) + (Int32.toInt64 (2 * x4)))), (0, .ref (ρ 0)), (1, .int x1), (2, .int x2), (3, .int x3)]) hx hb dX7_joins_177 hl (k := 8) rfl rfl (by decide) rfl (fun ls hl => ?_)
                    refine lv_goto (tgt := 58) hx hb dX7_joins_180 (by decide) ?_
                    exact ih h hW (lv_sub hl [5, 6, 7, 8, 0] rfl)
                  · have h := ifp c20 h
                    refine lv_iload hx hb dX7_joins_165 (lv_at hl 8 rfl) ?_
                    have h := Option.some.inj h
                    subst h
                    exact hret _ _ _ _ _ dX7_joins_167 rfl rfl hW
            · have h := ifp c13 h
              refine lv_iload hx hb dX7_joins_105 (lv_at hl 5 rfl) ?_
              have h := Option.some.inj h
              subst h
              exact hret _ _ _ _ _ dX7_joins_107 rfl rfl hW
  have b43 : ∀ {x1 : Int32} {x2 : Int32} {x3 : Int32} {M_joins : Int32} {M_joinA : Nat → Int32} {M_joinB : Nat → Int32} {H : Heap} {locs : List Loc} {ls : Array Slot}, f_X7_joins_b43 x1 x2 x3 M_doors M_joins M_joinA M_joinB M_holds M_size M_elements = some res → zW D A s.heap (WM q ρ M_code M_doors M_price M_year M_joins M_joinA M_joinB M_walls M_wallA M_wallB M_cost M_olds M_near M_doneMany M_undoneMany M_changeOf M_changeAt M_before M_behind M_tape M_taped M_here M_fault M_open M_laid M_act M_with M_lineMany M_testEnd M_lineEnd M_facts M_pile M_hasLaw M_far M_within M_tooNear M_dried M_isOn M_wasOn M_bodies M_kind M_traces M_traced M_holds M_size M_elements M_shifted) H locs → lv_has ls 10 [(0, .ref (ρ 0)), (1, .int x1), (2, .int x2), (3, .int x3)] → W p l e (zrm d) s m args below meth c H locs 0 0 Q (F0 m 43 ls []) := by
    intro x1 x2 x3 M_joins M_joinA M_joinB H locs ls h hW hl
    unfold f_X7_joins_b43 at h
    refine lv_aload_n hx hb dX7_joins_43 rfl (lv_at hl 0 rfl) ?_
    refine z_get hC hW fg_X7_95 0 WM_0 rfl dX7_joins_44 ?_
    refine lv_iload_n hx hb dX7_joins_47 rfl (lv_at hl 1 rfl) ?_
    obtain ⟨g7, h⟩ := ix_some h
    refine z_iald hC hW 27 WM_27 g7 dX7_joins_48 ?_
    refine lv_iconst (v := (-1)) hx hb dX7_joins_49 (by decide) ?_
    refine lv_icmp_ne (tgt := 55) hx hb dX7_joins_50 (by decide) (fun c8 => ?_) (fun c8 => ?_)
    · have h := ifn c8 h
      refine lv_iconst (v := 0) hx hb dX7_joins_55 (by decide) ?_
      refine lv_istore (lv' := [(4, .int 0), (0, .ref (ρ 0)), (1, .int x1), (2, .int x2), (3, .int x3)]) hx hb dX7_joins_56 hl (by decide) rfl (fun ls hl => ?_)
      exact b58 h hW (lv_sub hl [1, 2, 3, 4, 0] rfl)
    · have h := ifp c8 h
      refine lv_iconst (v := 0) hx hb dX7_joins_53 (by decide) ?_
      have h := Option.some.inj h
      subst h
      exact hret _ _ _ _ _ dX7_joins_54 rfl rfl hW
  unfold f_X7_joins at h
  refine lv_iload_n hx hb dX7_joins_0 rfl (lv_at hl 1 rfl) ?_
  obtain ⟨u1, eu1, h⟩ := bd_some h
  refine z_callS_i hC hW (rest := []) (c_X7_isShelf (d := 1) (Nat.le_refl _) eu1) sw_X7_132 ⟨rfl, rfl⟩ (zrm_ok (by omega) (by decide)) rfl rfl hl.1 (Nat.le_of_ble_eq_true rfl) dX7_joins_1 (fun H locs hW => ?_)
  refine lv_if_eq (tgt := 17) hx hb dX7_joins_4 (by decide) (fun c2 => ?_) (fun c2 => ?_)
  · have h := ifp c2 h
    refine lv_iconst (v := (-1)) hx hb dX7_joins_17 (by decide) ?_
    have h := Option.some.inj h
    subst h
    exact hret _ _ _ _ _ dX7_joins_18 rfl rfl hW
  · have h := ifn c2 h
    refine lv_iload_n hx hb dX7_joins_7 rfl (lv_at hl 3 rfl) ?_
    refine lv_iconst (v := 1) hx hb dX7_joins_8 (by decide) ?_
    refine lv_bipush (v := 30) hx hb dX7_joins_9 (by decide) ?_
    obtain ⟨u3, eu3, h⟩ := bd_some h
    refine z_callS_i hC hW (rest := []) (c_X7_in (d := 0) (Nat.le_refl _) eu3) sw_X7_114 ⟨rfl, rfl⟩ (zrm_ok (by omega) (by decide)) rfl rfl hl.1 (Nat.le_of_ble_eq_true rfl) dX7_joins_11 (fun H locs hW => ?_)
    refine lv_if_ne (tgt := 19) hx hb dX7_joins_14 (by decide) (fun c4 => ?_) (fun c4 => ?_)
    · have h := ifn c4 h
      refine lv_aload_n hx hb dX7_joins_19 rfl (lv_at hl 0 rfl) ?_
      refine z_get hC hW fg_X7_95 0 WM_0 rfl dX7_joins_20 ?_
      refine lv_iload_n hx hb dX7_joins_23 rfl (lv_at hl 1 rfl) ?_
      obtain ⟨g5, h⟩ := ix_some h
      refine z_iald hC hW 27 WM_27 g5 dX7_joins_24 ?_
      refine lv_iconst (v := (-1)) hx hb dX7_joins_25 (by decide) ?_
      refine lv_icmp_eq (tgt := 43) hx hb dX7_joins_26 (by decide) (fun c6 => ?_) (fun c6 => ?_)
      · have h := ifp c6 h
        exact b43 h hW (lv_sub hl [0, 1, 2, 3] rfl)
      · have h := ifn c6 h
        refine lv_aload_n hx hb dX7_joins_29 rfl (lv_at hl 0 rfl) ?_
        refine z_get hC hW fg_X7_95 0 WM_0 rfl dX7_joins_30 ?_
        refine lv_iload_n hx hb dX7_joins_33 rfl (lv_at hl 1 rfl) ?_
        obtain ⟨g22, h⟩ := ix_some h
        refine z_iald hC hW 27 WM_27 g22 dX7_joins_34 ?_
        refine lv_bipush (v := (-2)) hx hb dX7_joins_35 (by decide) ?_
        refine lv_icmp_eq (tgt := 43) hx hb dX7_joins_37 (by decide) (fun c23 => ?_) (fun c23 => ?_)
        · have h := ifp c23 h
          exact b43 h hW (lv_sub hl [0, 1, 2, 3] rfl)
        · have h := ifn c23 h
          refine lv_bipush (v := (-12)) hx hb dX7_joins_40 (by decide) ?_
          have h := Option.some.inj h
          subst h
          exact hret _ _ _ _ _ dX7_joins_42 rfl rfl hW
    · have h := ifp c4 h
      refine lv_iconst (v := (-1)) hx hb dX7_joins_17 (by decide) ?_
      have h := Option.some.inj h
      subst h
      exact hret _ _ _ _ _ dX7_joins_18 rfl rfl hW
end CT21_m00
