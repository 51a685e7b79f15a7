section CT20_c00
variable {l : Launch} {D : va_G} {q : Nat → ClassId} {ρ : Nat → Nat} {sz : Nat} {T_price : Nat → Int32} {T_year : Nat → Int32} {T_joinEnds : Nat → Int32} {T_wallEnds : Nat → Int32} {T_cost : Nat → Int32} {T_doors : Int32} {T_joins : Int32} {T_walls : Int32} {T_oldWells : Int32} {T_apart : Int32} {L_tape : Nat → Int32} {L_text : Nat → Int32} {L_fed : Int32} {L_length : Int32} {L_read : Nat} {L_end : Int32} {L_at : Int32} {L_fault : Int32} {L_d : Int32} {L_p : Int32} {L_y : Int32} {L_j : Int32} {L_o : Int32} {P_away : Nat → Nat → Int32} {P_beside : Nat → Int32} {P_reach : Nat → Int32} {P_serves : Nat → Int32} {P_crowds : Nat → Int32} {P_servedLow : Nat → Int32} {P_servedHigh : Nat → Int32} {P_crowdedLow : Nat → Int32} {P_crowdedHigh : Nat → Int32} {P_there : Int32} {P_must : Int32} {P_can : Int32} {C_what : Nat → Int32} {C_number : Nat → Int32} {C_before : Nat → Int32} {C_after : Nat → Int32} {C_done : Int32} {C_kept : Int32} {A_kinds : Nat → Int32} {A_traced : Nat → Int32} {A_bodies : Int32} {A_began : Int32} {A_self : Int32} {A_kindOfSelf : Int32} {S_holds : Nat → Int32} {S_body : Nat → Int32} {S_sort : Nat → Int32} {S_size : Nat → Int32} {S_elements : Nat → Nat → Int64} {G_grown : Nat → Int32}
set_option maxHeartbeats 4000000 in
set_option maxRecDepth 100000 in
theorem c_X6_isWithin {a0 : Int32} {a1 : Int32} {d : Nat} {res : Int32} (hd : 0 ≤ d) (h : f_X6_isWithin a0 a1 = some res) : zMi l yX6_isWithin cX6_isWithin 2 .boolean (zrm d) [.int a0, .int a1] D q (WC q ρ T_price T_year T_joinEnds T_wallEnds T_cost T_doors T_joins T_walls T_oldWells T_apart L_tape L_text L_fed L_length L_read L_end L_at L_fault L_d L_p L_y L_j L_o P_away P_beside P_reach P_serves P_crowds P_servedLow P_servedHigh P_crowdedLow P_crowdedHigh P_there P_must P_can C_what C_number C_before C_after C_done C_kept A_kinds A_traced A_bodies A_began A_self A_kindOfSelf S_holds S_body S_sort S_size S_elements G_grown) sz res (WC q ρ T_price T_year T_joinEnds T_wallEnds T_cost T_doors T_joins T_walls T_oldWells T_apart L_tape L_text L_fed L_length L_read L_end L_at L_fault L_d L_p L_y L_j L_o P_away P_beside P_reach P_serves P_crowds P_servedLow P_servedHigh P_crowdedLow P_crowdedHigh P_there P_must P_can C_what C_number C_before C_after C_done C_kept A_kinds A_traced A_bodies A_began A_self A_kindOfSelf S_holds S_body S_sort S_size S_elements G_grown) := by
  refine zMet_i (own := RX6) _ (by decide) rfl (Nat.le_of_ble_eq_true rfl) ?_
  intro p e s m args below meth c A ls Q hC hW hl hret
  have hx := hC.1
  have hb := hC.2.1
  have hl : lv_has ls 2 [(0, .int a0), (1, .int a1)] := hl
  unfold f_X6_isWithin at h
  refine lv_iload_n hx hb dX6_isWithin_0 rfl (lv_at hl 0 rfl) ?_
  refine lv_if_lt (tgt := 13) hx hb dX6_isWithin_1 (by decide) (fun c1 => ?_) (fun c1 => ?_)
  · have h := ifp c1 h
    refine lv_iconst (v := 0) hx hb dX6_isWithin_13 (by decide) ?_
    have h := Option.some.inj h
    subst h
    exact hret _ _ _ _ _ dX6_isWithin_14 rfl rfl hW
  · have h := ifn c1 h
    refine lv_iload_n hx hb dX6_isWithin_4 rfl (lv_at hl 0 rfl) ?_
    refine lv_iload_n hx hb dX6_isWithin_5 rfl (lv_at hl 1 rfl) ?_
    refine lv_icmp_gt (tgt := 13) hx hb dX6_isWithin_6 (by decide) (fun c2 => ?_) (fun c2 => ?_)
    · have h := ifp c2 h
      refine lv_iconst (v := 0) hx hb dX6_isWithin_13 (by decide) ?_
      have h := Option.some.inj h
      subst h
      exact hret _ _ _ _ _ dX6_isWithin_14 rfl rfl hW
    · have h := ifn c2 h
      refine lv_iconst (v := 1) hx hb dX6_isWithin_9 (by decide) ?_
      refine lv_goto (tgt := 14) hx hb dX6_isWithin_10 (by decide) ?_
      have h := Option.some.inj h
      subst h
      exact hret _ _ _ _ _ dX6_isWithin_14 rfl rfl hW
set_option maxHeartbeats 4000000 in
set_option maxRecDepth 100000 in
theorem c_X5_addDoor {a1 : Int32} {a2 : Int32} {d : Nat} {res : Int32 × (Nat → Int32) × (Nat → Int32) × Int32} (hd : 0 ≤ d) (h : f_X5_addDoor a1 a2 T_price T_year T_doors = some res) : zMi l yX5_addDoor cX5_addDoor 3 .int (zrm d) [.ref (ρ 1), .int a1, .int a2] D q (WC q ρ T_price T_year T_joinEnds T_wallEnds T_cost T_doors T_joins T_walls T_oldWells T_apart L_tape L_text L_fed L_length L_read L_end L_at L_fault L_d L_p L_y L_j L_o P_away P_beside P_reach P_serves P_crowds P_servedLow P_servedHigh P_crowdedLow P_crowdedHigh P_there P_must P_can C_what C_number C_before C_after C_done C_kept A_kinds A_traced A_bodies A_began A_self A_kindOfSelf S_holds S_body S_sort S_size S_elements G_grown) sz res.1 (WC q ρ res.2.1 res.2.2.1 T_joinEnds T_wallEnds T_cost res.2.2.2 T_joins T_walls T_oldWells T_apart L_tape L_text L_fed L_length L_read L_end L_at L_fault L_d L_p L_y L_j L_o P_away P_beside P_reach P_serves P_crowds P_servedLow P_servedHigh P_crowdedLow P_crowdedHigh P_there P_must P_can C_what C_number C_before C_after C_done C_kept A_kinds A_traced A_bodies A_began A_self A_kindOfSelf S_holds S_body S_sort S_size S_elements G_grown) := by
  refine zMet_i (own := RX5) _ (by decide) rfl (Nat.le_of_ble_eq_true rfl) ?_
  intro p e s m args below meth c A ls Q hC hW hl hret
  have hx := hC.1
  have hb := hC.2.1
  have hl : lv_has ls 3 [(0, .ref (ρ 1)), (1, .int a1), (2, .int a2)] := hl
  unfold f_X5_addDoor at h
  refine lv_aload_n hx hb dX5_addDoor_0 rfl (lv_at hl 0 rfl) ?_
  refine z_get hC hW fg_X5_9 1 WC_1 rfl dX5_addDoor_1 ?_
  refine lv_aload_n hx hb dX5_addDoor_4 rfl (lv_at hl 0 rfl) ?_
  refine z_get hC hW fg_X5_31 1 WC_1 rfl dX5_addDoor_5 ?_
  refine lv_iload_n hx hb dX5_addDoor_8 rfl (lv_at hl 1 rfl) ?_
  obtain ⟨g1, h⟩ := ix_some h
  refine z_iast hC hW 8 WC_8 g1 WCs_T_price dX5_addDoor_9 (fun H locs hW => ?_)
  refine lv_aload_n hx hb dX5_addDoor_10 rfl (lv_at hl 0 rfl) ?_
  refine z_get hC hW fg_X5_15 1 WC_1 rfl dX5_addDoor_11 ?_
  refine lv_aload_n hx hb dX5_addDoor_14 rfl (lv_at hl 0 rfl) ?_
  refine z_get hC hW fg_X5_31 1 WC_1 rfl dX5_addDoor_15 ?_
  refine lv_iload_n hx hb dX5_addDoor_18 rfl (lv_at hl 2 rfl) ?_
  obtain ⟨g2, h⟩ := ix_some h
  refine z_iast hC hW 9 WC_9 g2 WCs_T_year dX5_addDoor_19 (fun H locs hW => ?_)
  refine lv_aload_n hx hb dX5_addDoor_20 rfl (lv_at hl 0 rfl) ?_
  refine lv_dup hx hb dX5_addDoor_21 rfl ?_
  refine z_get hC hW fg_X5_31 1 WC_1 rfl dX5_addDoor_22 ?_
  refine lv_dup_x1 hx hb dX5_addDoor_25 rfl rfl ?_
  refine lv_iconst (v := 1) hx hb dX5_addDoor_26 (by decide) ?_
  refine lv_iadd hx hb dX5_addDoor_27 ?_
  refine z_put hC hW fp_X5_31 1 WC_1 (Nat.le_of_ble_eq_true rfl) rfl rfl WCs_T_doors dX5_addDoor_28 (fun H locs hW => ?_)
  have h := Option.some.inj h
  subst h
  exact hret _ _ _ _ _ dX5_addDoor_31 rfl rfl hW
set_option maxHeartbeats 4000000 in
set_option maxRecDepth 100000 in
theorem c_X6_door {a1 : Int32} {a2 : Int32} {d : Nat} {res : Int32 × (Nat → Int32) × (Nat → Int32) × Int32} (hd : 1 ≤ d) (h : f_X6_door a1 a2 T_price T_year T_doors = some res) : zMi l yX6_door cX6_door 3 .int (zrm d) [.ref (ρ 0), .int a1, .int a2] D q (WC q ρ T_price T_year T_joinEnds T_wallEnds T_cost T_doors T_joins T_walls T_oldWells T_apart L_tape L_text L_fed L_length L_read L_end L_at L_fault L_d L_p L_y L_j L_o P_away P_beside P_reach P_serves P_crowds P_servedLow P_servedHigh P_crowdedLow P_crowdedHigh P_there P_must P_can C_what C_number C_before C_after C_done C_kept A_kinds A_traced A_bodies A_began A_self A_kindOfSelf S_holds S_body S_sort S_size S_elements G_grown) sz res.1 (WC q ρ res.2.1 res.2.2.1 T_joinEnds T_wallEnds T_cost res.2.2.2 T_joins T_walls T_oldWells T_apart L_tape L_text L_fed L_length L_read L_end L_at L_fault L_d L_p L_y L_j L_o P_away P_beside P_reach P_serves P_crowds P_servedLow P_servedHigh P_crowdedLow P_crowdedHigh P_there P_must P_can C_what C_number C_before C_after C_done C_kept A_kinds A_traced A_bodies A_began A_self A_kindOfSelf S_holds S_body S_sort S_size S_elements G_grown) := by
  refine zMet_i (own := RX6) _ (by decide) rfl (Nat.le_of_ble_eq_true rfl) ?_
  intro p e s m args below meth c A ls Q hC hW hl hret
  have hx := hC.1
  have hb := hC.2.1
  have hl : lv_has ls 3 [(0, .ref (ρ 0)), (1, .int a1), (2, .int a2)] := hl
  unfold f_X6_door at h
  refine lv_iload_n hx hb dX6_door_0 rfl (lv_at hl 1 rfl) ?_
  refine lv_bipush (v := 99) hx hb dX6_door_1 (by decide) ?_
  obtain ⟨u1, eu1, h⟩ := bd_some h
  refine z_callS_i hC hW (rest := []) (c_X6_isWithin (d := 0) (Nat.le_refl _) eu1) sw_X6_55 ⟨rfl, rfl⟩ (zrm_ok (by omega) (by decide)) rfl rfl hl.1 (Nat.le_of_ble_eq_true rfl) dX6_door_3 (fun H locs hW => ?_)
  refine lv_if_eq (tgt := 18) hx hb dX6_door_6 (by decide) (fun c2 => ?_) (fun c2 => ?_)
  · have h := ifp c2 h
    refine lv_iconst (v := (-1)) hx hb dX6_door_18 (by decide) ?_
    have h := Option.some.inj h
    subst h
    exact hret _ _ _ _ _ dX6_door_19 rfl rfl hW
  · have h := ifn c2 h
    refine lv_iload_n hx hb dX6_door_9 rfl (lv_at hl 2 rfl) ?_
    refine lv_bipush (v := 9) hx hb dX6_door_10 (by decide) ?_
    obtain ⟨u3, eu3, h⟩ := bd_some h
    refine z_callS_i hC hW (rest := []) (c_X6_isWithin (d := 0) (Nat.le_refl _) eu3) sw_X6_55 ⟨rfl, rfl⟩ (zrm_ok (by omega) (by decide)) rfl rfl hl.1 (Nat.le_of_ble_eq_true rfl) dX6_door_12 (fun H locs hW => ?_)
    refine lv_if_ne (tgt := 20) hx hb dX6_door_15 (by decide) (fun c4 => ?_) (fun c4 => ?_)
    · have h := ifn c4 h
      refine lv_aload_n hx hb dX6_door_20 rfl (lv_at hl 0 rfl) ?_
      refine z_get hC hW fg_X6_10 0 WC_0 rfl dX6_door_21 ?_
      refine z_get hC hW fg_X6_59 1 WC_1 rfl dX6_door_24 ?_
      refine lv_bipush (v := 14) hx hb dX6_door_27 (by decide) ?_
      refine lv_icmp_lt (tgt := 37) hx hb dX6_door_29 (by decide) (fun c5 => ?_) (fun c5 => ?_)
      · have h := ifp c5 h
        refine lv_aload_n hx hb dX6_door_37 rfl (lv_at hl 0 rfl) ?_
        refine z_get hC hW fg_X6_10 0 WC_0 rfl dX6_door_38 ?_
        refine lv_iload_n hx hb dX6_door_41 rfl (lv_at hl 1 rfl) ?_
        refine lv_iload_n hx hb dX6_door_42 rfl (lv_at hl 2 rfl) ?_
        obtain ⟨u6, eu6, h⟩ := bd_some h
        refine z_callV_i hC hW (rest := []) (c_X5_addDoor (d := 0) (Nat.le_refl _) eu6) vw_X6_63 WC_1 rfl ⟨rfl, rfl⟩ (zrm_ok (by omega) (by decide)) rfl rfl hl.1 (Nat.le_of_ble_eq_true rfl) dX6_door_43 (fun H locs hW => ?_)
        have h := Option.some.inj h
        subst h
        exact hret _ _ _ _ _ dX6_door_46 rfl rfl hW
      · have h := ifn c5 h
        refine lv_bipush (v := (-3)) hx hb dX6_door_32 (by decide) ?_
        refine lv_goto (tgt := 46) hx hb dX6_door_34 (by decide) ?_
        have h := Option.some.inj h
        subst h
        exact hret _ _ _ _ _ dX6_door_46 rfl rfl hW
    · have h := ifp c4 h
      refine lv_iconst (v := (-1)) hx hb dX6_door_18 (by decide) ?_
      have h := Option.some.inj h
      subst h
      exact hret _ _ _ _ _ dX6_door_19 rfl rfl hW
set_option maxHeartbeats 4000000 in
set_option maxRecDepth 100000 in
theorem c_X5_isDoor {a1 : Int32} {d : Nat} {res : Int32} (hd : 0 ≤ d) (h : f_X5_isDoor a1 T_doors = some res) : zMi l yX5_isDoor cX5_isDoor 2 .boolean (zrm d) [.ref (ρ 1), .int a1] D q (WC q ρ T_price T_year T_joinEnds T_wallEnds T_cost T_doors T_joins T_walls T_oldWells T_apart L_tape L_text L_fed L_length L_read L_end L_at L_fault L_d L_p L_y L_j L_o P_away P_beside P_reach P_serves P_crowds P_servedLow P_servedHigh P_crowdedLow P_crowdedHigh P_there P_must P_can C_what C_number C_before C_after C_done C_kept A_kinds A_traced A_bodies A_began A_self A_kindOfSelf S_holds S_body S_sort S_size S_elements G_grown) sz res (WC q ρ T_price T_year T_joinEnds T_wallEnds T_cost T_doors T_joins T_walls T_oldWells T_apart L_tape L_text L_fed L_length L_read L_end L_at L_fault L_d L_p L_y L_j L_o P_away P_beside P_reach P_serves P_crowds P_servedLow P_servedHigh P_crowdedLow P_crowdedHigh P_there P_must P_can C_what C_number C_before C_after C_done C_kept A_kinds A_traced A_bodies A_began A_self A_kindOfSelf S_holds S_body S_sort S_size S_elements G_grown) := by
  refine zMet_i (own := RX5) _ (by decide) rfl (Nat.le_of_ble_eq_true rfl) ?_
  intro p e s m args below meth c A ls Q hC hW hl hret
  have hx := hC.1
  have hb := hC.2.1
  have hl : lv_has ls 2 [(0, .ref (ρ 1)), (1, .int a1)] := hl
  unfold f_X5_isDoor at h
  refine lv_iload_n hx hb dX5_isDoor_0 rfl (lv_at hl 1 rfl) ?_
  refine lv_if_lt (tgt := 16) hx hb dX5_isDoor_1 (by decide) (fun c1 => ?_) (fun c1 => ?_)
  · have h := ifp c1 h
    refine lv_iconst (v := 0) hx hb dX5_isDoor_16 (by decide) ?_
    have h := Option.some.inj h
    subst h
    exact hret _ _ _ _ _ dX5_isDoor_17 rfl rfl hW
  · have h := ifn c1 h
    refine lv_iload_n hx hb dX5_isDoor_4 rfl (lv_at hl 1 rfl) ?_
    refine lv_aload_n hx hb dX5_isDoor_5 rfl (lv_at hl 0 rfl) ?_
    refine z_get hC hW fg_X5_31 1 WC_1 rfl dX5_isDoor_6 ?_
    refine lv_icmp_ge (tgt := 16) hx hb dX5_isDoor_9 (by decide) (fun c2 => ?_) (fun c2 => ?_)
    · have h := ifp c2 h
      refine lv_iconst (v := 0) hx hb dX5_isDoor_16 (by decide) ?_
      have h := Option.some.inj h
      subst h
      exact hret _ _ _ _ _ dX5_isDoor_17 rfl rfl hW
    · have h := ifn c2 h
      refine lv_iconst (v := 1) hx hb dX5_isDoor_12 (by decide) ?_
      refine lv_goto (tgt := 17) hx hb dX5_isDoor_13 (by decide) ?_
      have h := Option.some.inj h
      subst h
      exact hret _ _ _ _ _ dX5_isDoor_17 rfl rfl hW
set_option maxHeartbeats 4000000 in
set_option maxRecDepth 100000 in
theorem c_X5_areUnlike {a1 : Int32} {a2 : Int32} {d : Nat} {res : Int32} (hd : 1 ≤ d) (h : f_X5_areUnlike a1 a2 T_doors = some res) : zMi l yX5_areUnlike cX5_areUnlike 3 .boolean (zrm d) [.ref (ρ 1), .int a1, .int a2] D q (WC q ρ T_price T_year T_joinEnds T_wallEnds T_cost T_doors T_joins T_walls T_oldWells T_apart L_tape L_text L_fed L_length L_read L_end L_at L_fault L_d L_p L_y L_j L_o P_away P_beside P_reach P_serves P_crowds P_servedLow P_servedHigh P_crowdedLow P_crowdedHigh P_there P_must P_can C_what C_number C_before C_after C_done C_kept A_kinds A_traced A_bodies A_began A_self A_kindOfSelf S_holds S_body S_sort S_size S_elements G_grown) sz res (WC q ρ T_price T_year T_joinEnds T_wallEnds T_cost T_doors T_joins T_walls T_oldWells T_apart L_tape L_text L_fed L_length L_read L_end L_at L_fault L_d L_p L_y L_j L_o P_away P_beside P_reach P_serves P_crowds P_servedLow P_servedHigh P_crowdedLow P_crowdedHigh P_there P_must P_can C_what C_number C_before C_after C_done C_kept A_kinds A_traced A_bodies A_began A_self A_kindOfSelf S_holds S_body S_sort S_size S_elements G_grown) := by
  refine zMet_i (own := RX5) _ (by decide) rfl (Nat.le_of_ble_eq_true rfl) ?_
  intro p e s m args below meth c A ls Q hC hW hl hret
  have hx := hC.1
  have hb := hC.2.1
  have hl : lv_has ls 3 [(0, .ref (ρ 1)), (1, .int a1), (2, .int a2)] := hl
  unfold f_X5_areUnlike at h
  refine lv_aload_n hx hb dX5_areUnlike_0 rfl (lv_at hl 0 rfl) ?_
  refine lv_iload_n hx hb dX5_areUnlike_1 rfl (lv_at hl 1 rfl) ?_
  obtain ⟨u1, eu1, h⟩ := bd_some h
  refine z_callV_i hC hW (rest := []) (c_X5_isDoor (d := 0) (Nat.le_refl _) eu1) vw_X5_40 WC_1 rfl ⟨rfl, rfl⟩ (zrm_ok (by omega) (by decide)) rfl rfl hl.1 (Nat.le_of_ble_eq_true rfl) dX5_areUnlike_2 (fun H locs hW => ?_)
  refine lv_if_eq (tgt := 25) hx hb dX5_areUnlike_5 (by decide) (fun c2 => ?_) (fun c2 => ?_)
  · have h := ifp c2 h
    refine lv_iconst (v := 0) hx hb dX5_areUnlike_25 (by decide) ?_
    have h := Option.some.inj h
    subst h
    exact hret _ _ _ _ _ dX5_areUnlike_26 rfl rfl hW
  · have h := ifn c2 h
    refine lv_aload_n hx hb dX5_areUnlike_8 rfl (lv_at hl 0 rfl) ?_
    refine lv_iload_n hx hb dX5_areUnlike_9 rfl (lv_at hl 2 rfl) ?_
    obtain ⟨u3, eu3, h⟩ := bd_some h
    refine z_callV_i hC hW (rest := []) (c_X5_isDoor (d := 0) (Nat.le_refl _) eu3) vw_X5_40 WC_1 rfl ⟨rfl, rfl⟩ (zrm_ok (by omega) (by decide)) rfl rfl hl.1 (Nat.le_of_ble_eq_true rfl) dX5_areUnlike_10 (fun H locs hW => ?_)
    refine lv_if_eq (tgt := 25) hx hb dX5_areUnlike_13 (by decide) (fun c4 => ?_) (fun c4 => ?_)
    · have h := ifp c4 h
      refine lv_iconst (v := 0) hx hb dX5_areUnlike_25 (by decide) ?_
      have h := Option.some.inj h
      subst h
      exact hret _ _ _ _ _ dX5_areUnlike_26 rfl rfl hW
    · have h := ifn c4 h
      refine lv_iload_n hx hb dX5_areUnlike_16 rfl (lv_at hl 1 rfl) ?_
      refine lv_iload_n hx hb dX5_areUnlike_17 rfl (lv_at hl 2 rfl) ?_
      refine lv_icmp_eq (tgt := 25) hx hb dX5_areUnlike_18 (by decide) (fun c5 => ?_) (fun c5 => ?_)
      · have h := ifp c5 h
        refine lv_iconst (v := 0) hx hb dX5_areUnlike_25 (by decide) ?_
        have h := Option.some.inj h
        subst h
        exact hret _ _ _ _ _ dX5_areUnlike_26 rfl rfl hW
      · have h := ifn c5 h
        refine lv_iconst (v := 1) hx hb dX5_areUnlike_21 (by decide) ?_
        refine lv_goto (tgt := 26) hx hb dX5_areUnlike_22 (by decide) ?_
        have h := Option.some.inj h
        subst h
        exact hret _ _ _ _ _ dX5_areUnlike_26 rfl rfl hW
set_option maxHeartbeats 4000000 in
set_option maxRecDepth 100000 in
theorem c_X5_addJoin {a1 : Int32} {d : Nat} {res : Int32 × (Nat → Int32) × Int32} (hd : 0 ≤ d) (h : f_X5_addJoin a1 T_joinEnds T_joins = some res) : zMi l yX5_addJoin cX5_addJoin 2 .int (zrm d) [.ref (ρ 1), .int a1] D q (WC q ρ T_price T_year T_joinEnds T_wallEnds T_cost T_doors T_joins T_walls T_oldWells T_apart L_tape L_text L_fed L_length L_read L_end L_at L_fault L_d L_p L_y L_j L_o P_away P_beside P_reach P_serves P_crowds P_servedLow P_servedHigh P_crowdedLow P_crowdedHigh P_there P_must P_can C_what C_number C_before C_after C_done C_kept A_kinds A_traced A_bodies A_began A_self A_kindOfSelf S_holds S_body S_sort S_size S_elements G_grown) sz res.1 (WC q ρ T_price T_year res.2.1 T_wallEnds T_cost T_doors res.2.2 T_walls T_oldWells T_apart L_tape L_text L_fed L_length L_read L_end L_at L_fault L_d L_p L_y L_j L_o P_away P_beside P_reach P_serves P_crowds P_servedLow P_servedHigh P_crowdedLow P_crowdedHigh P_there P_must P_can C_what C_number C_before C_after C_done C_kept A_kinds A_traced A_bodies A_began A_self A_kindOfSelf S_holds S_body S_sort S_size S_elements G_grown) := by
  refine zMet_i (own := RX5) _ (by decide) rfl (Nat.le_of_ble_eq_true rfl) ?_
  intro p e s m args below meth c A ls Q hC hW hl hret
  have hx := hC.1
  have hb := hC.2.1
  have hl : lv_has ls 2 [(0, .ref (ρ 1)), (1, .int a1)] := hl
  unfold f_X5_addJoin at h
  refine lv_aload_n hx hb dX5_addJoin_0 rfl (lv_at hl 0 rfl) ?_
  refine z_get hC hW fg_X5_18 1 WC_1 rfl dX5_addJoin_1 ?_
  refine lv_aload_n hx hb dX5_addJoin_4 rfl (lv_at hl 0 rfl) ?_
  refine z_get hC hW fg_X5_34 1 WC_1 rfl dX5_addJoin_5 ?_
  refine lv_iload_n hx hb dX5_addJoin_8 rfl (lv_at hl 1 rfl) ?_
  obtain ⟨g1, h⟩ := ix_some h
  refine z_iast hC hW 10 WC_10 g1 WCs_T_joinEnds dX5_addJoin_9 (fun H locs hW => ?_)
  refine lv_aload_n hx hb dX5_addJoin_10 rfl (lv_at hl 0 rfl) ?_
  refine lv_dup hx hb dX5_addJoin_11 rfl ?_
  refine z_get hC hW fg_X5_34 1 WC_1 rfl dX5_addJoin_12 ?_
  refine lv_dup_x1 hx hb dX5_addJoin_15 rfl rfl ?_
  refine lv_iconst (v := 1) hx hb dX5_addJoin_16 (by decide) ?_
  refine lv_iadd hx hb dX5_addJoin_17 ?_
  refine z_put hC hW fp_X5_34 1 WC_1 (Nat.le_of_ble_eq_true rfl) rfl rfl WCs_T_joins dX5_addJoin_18 (fun H locs hW => ?_)
  have h := Option.some.inj h
  subst h
  exact hret _ _ _ _ _ dX5_addJoin_21 rfl rfl hW
set_option maxHeartbeats 4000000 in
set_option maxRecDepth 100000 in
theorem c_X6_join {a1 : Int32} {d : Nat} {res : Int32 × (Nat → Int32) × Int32} (hd : 2 ≤ d) (h : f_X6_join a1 T_joinEnds T_doors T_joins = some res) : zMi l yX6_join cX6_join 2 .int (zrm d) [.ref (ρ 0), .int a1] D q (WC q ρ T_price T_year T_joinEnds T_wallEnds T_cost T_doors T_joins T_walls T_oldWells T_apart L_tape L_text L_fed L_length L_read L_end L_at L_fault L_d L_p L_y L_j L_o P_away P_beside P_reach P_serves P_crowds P_servedLow P_servedHigh P_crowdedLow P_crowdedHigh P_there P_must P_can C_what C_number C_before C_after C_done C_kept A_kinds A_traced A_bodies A_began A_self A_kindOfSelf S_holds S_body S_sort S_size S_elements G_grown) sz res.1 (WC q ρ T_price T_year res.2.1 T_wallEnds T_cost T_doors res.2.2 T_walls T_oldWells T_apart L_tape L_text L_fed L_length L_read L_end L_at L_fault L_d L_p L_y L_j L_o P_away P_beside P_reach P_serves P_crowds P_servedLow P_servedHigh P_crowdedLow P_crowdedHigh P_there P_must P_can C_what C_number C_before C_after C_done C_kept A_kinds A_traced A_bodies A_began A_self A_kindOfSelf S_holds S_body S_sort S_size S_elements G_grown) := by
  refine zMet_i (own := RX6) _ (by decide) rfl (Nat.le_of_ble_eq_true rfl) ?_
  intro p e s m args below meth c A ls Q hC hW hl hret
  have hx := hC.1
  have hb := hC.2.1
  have hl : lv_has ls 2 [(0, .ref (ρ 0)), (1, .int a1)] := hl
  unfold f_X6_join at h
  refine lv_iload_n hx hb dX6_join_0 rfl (lv_at hl 1 rfl) ?_
  refine lv_if_lt (tgt := 22) hx hb dX6_join_1 (by decide) (fun c1 => ?_) (fun c1 => ?_)
  · have h := ifp c1 h
    refine lv_iconst (v := (-1)) hx hb dX6_join_22 (by decide) ?_
    have h := Option.some.inj h
    subst h
    exact hret _ _ _ _ _ dX6_join_23 rfl rfl hW
  · have h := ifn c1 h
    refine lv_aload_n hx hb dX6_join_4 rfl (lv_at hl 0 rfl) ?_
    refine z_get hC hW fg_X6_10 0 WC_0 rfl dX6_join_5 ?_
    refine lv_iload_n hx hb dX6_join_8 rfl (lv_at hl 1 rfl) ?_
    refine lv_bipush (v := 100) hx hb dX6_join_9 (by decide) ?_
    refine lv_idiv hx hb dX6_join_11 (by decide) ?_
    refine lv_iload_n hx hb dX6_join_12 rfl (lv_at hl 1 rfl) ?_
    refine lv_bipush (v := 100) hx hb dX6_join_13 (by decide) ?_
    refine lv_irem hx hb dX6_join_15 (by decide) ?_
    obtain ⟨u2, eu2, h⟩ := bd_some h
    refine z_callV_i hC hW (rest := []) (c_X5_areUnlike (d := 1) (Nat.le_refl _) eu2) vw_X6_67 WC_1 rfl ⟨rfl, rfl⟩ (zrm_ok (by omega) (by decide)) rfl rfl hl.1 (Nat.le_of_ble_eq_true rfl) dX6_join_16 (fun H locs hW => ?_)
    refine lv_if_ne (tgt := 24) hx hb dX6_join_19 (by decide) (fun c3 => ?_) (fun c3 => ?_)
    · have h := ifn c3 h
      refine lv_aload_n hx hb dX6_join_24 rfl (lv_at hl 0 rfl) ?_
      refine z_get hC hW fg_X6_10 0 WC_0 rfl dX6_join_25 ?_
      refine z_get hC hW fg_X6_70 1 WC_1 rfl dX6_join_28 ?_
      refine lv_bipush (v := 40) hx hb dX6_join_31 (by decide) ?_
      refine lv_icmp_lt (tgt := 41) hx hb dX6_join_33 (by decide) (fun c4 => ?_) (fun c4 => ?_)
      · have h := ifp c4 h
        refine lv_aload_n hx hb dX6_join_41 rfl (lv_at hl 0 rfl) ?_
        refine z_get hC hW fg_X6_10 0 WC_0 rfl dX6_join_42 ?_
        refine lv_iload_n hx hb dX6_join_45 rfl (lv_at hl 1 rfl) ?_
        obtain ⟨u5, eu5, h⟩ := bd_some h
        refine z_callV_i hC hW (rest := []) (c_X5_addJoin (d := 0) (Nat.le_refl _) eu5) vw_X6_73 WC_1 rfl ⟨rfl, rfl⟩ (zrm_ok (by omega) (by decide)) rfl rfl hl.1 (Nat.le_of_ble_eq_true rfl) dX6_join_46 (fun H locs hW => ?_)
        have h := Option.some.inj h
        subst h
        exact hret _ _ _ _ _ dX6_join_49 rfl rfl hW
      · have h := ifn c4 h
        refine lv_bipush (v := (-3)) hx hb dX6_join_36 (by decide) ?_
        refine lv_goto (tgt := 49) hx hb dX6_join_38 (by decide) ?_
        have h := Option.some.inj h
        subst h
        exact hret _ _ _ _ _ dX6_join_49 rfl rfl hW
    · have h := ifp c3 h
      refine lv_iconst (v := (-1)) hx hb dX6_join_22 (by decide) ?_
      have h := Option.some.inj h
      subst h
      exact hret _ _ _ _ _ dX6_join_23 rfl rfl hW
set_option maxHeartbeats 4000000 in
set_option maxRecDepth 100000 in
theorem c_X6_isShelf {a0 : Int32} {d : Nat} {res : Int32} (hd : 0 ≤ d) (h : f_X6_isShelf a0 = some res) : zMi l yX6_isShelf cX6_isShelf 1 .boolean (zrm d) [.int a0] D q (WC q ρ T_price T_year T_joinEnds T_wallEnds T_cost T_doors T_joins T_walls T_oldWells T_apart L_tape L_text L_fed L_length L_read L_end L_at L_fault L_d L_p L_y L_j L_o P_away P_beside P_reach P_serves P_crowds P_servedLow P_servedHigh P_crowdedLow P_crowdedHigh P_there P_must P_can C_what C_number C_before C_after C_done C_kept A_kinds A_traced A_bodies A_began A_self A_kindOfSelf S_holds S_body S_sort S_size S_elements G_grown) sz res (WC q ρ T_price T_year T_joinEnds T_wallEnds T_cost T_doors T_joins T_walls T_oldWells T_apart L_tape L_text L_fed L_length L_read L_end L_at L_fault L_d L_p L_y L_j L_o P_away P_beside P_reach P_serves P_crowds P_servedLow P_servedHigh P_crowdedLow P_crowdedHigh P_there P_must P_can C_what C_number C_before C_after C_done C_kept A_kinds A_traced A_bodies A_began A_self A_kindOfSelf S_holds S_body S_sort S_size S_elements G_grown) := by
  refine zMet_i (own := RX6) _ (by decide) rfl (Nat.le_of_ble_eq_true rfl) ?_
  intro p e s m args below meth c A ls Q hC hW hl hret
  have hx := hC.1
  have hb := hC.2.1
  have hl : lv_has ls 1 [(0, .int a0)] := hl
  unfold f_X6_isShelf at h
  refine lv_iload_n hx hb dX6_isShelf_0 rfl (lv_at hl 0 rfl) ?_
  refine lv_if_lt (tgt := 14) hx hb dX6_isShelf_1 (by decide) (fun c1 => ?_) (fun c1 => ?_)
  · have h := ifp c1 h
    refine lv_iconst (v := 0) hx hb dX6_isShelf_14 (by decide) ?_
    have h := Option.some.inj h
    subst h
    exact hret _ _ _ _ _ dX6_isShelf_15 rfl rfl hW
  · have h := ifn c1 h
    refine lv_iload_n hx hb dX6_isShelf_4 rfl (lv_at hl 0 rfl) ?_
    refine lv_bipush (v := 6) hx hb dX6_isShelf_5 (by decide) ?_
    refine lv_icmp_ge (tgt := 14) hx hb dX6_isShelf_7 (by decide) (fun c2 => ?_) (fun c2 => ?_)
    · have h := ifp c2 h
      refine lv_iconst (v := 0) hx hb dX6_isShelf_14 (by decide) ?_
      have h := Option.some.inj h
      subst h
      exact hret _ _ _ _ _ dX6_isShelf_15 rfl rfl hW
    · have h := ifn c2 h
      refine lv_iconst (v := 1) hx hb dX6_isShelf_10 (by decide) ?_
      refine lv_goto (tgt := 15) hx hb dX6_isShelf_11 (by decide) ?_
      have h := Option.some.inj h
      subst h
      exact hret _ _ _ _ _ dX6_isShelf_15 rfl rfl hW
set_option maxHeartbeats 4000000 in
set_option maxRecDepth 100000 in
theorem c_X4_isRowOf {j0 : Nat} {a1 : Int32} {d : Nat} {res : Int32} (hd : 0 ≤ d) (hj0 : j0 < 6) (h : f_X4_isRowOf j0 a1 S_holds S_sort = some res) : zMi l yX4_isRowOf cX4_isRowOf 2 .boolean (zrm d) [.ref (ρ (30 + j0)), .int a1] D q (WC q ρ T_price T_year T_joinEnds T_wallEnds T_cost T_doors T_joins T_walls T_oldWells T_apart L_tape L_text L_fed L_length L_read L_end L_at L_fault L_d L_p L_y L_j L_o P_away P_beside P_reach P_serves P_crowds P_servedLow P_servedHigh P_crowdedLow P_crowdedHigh P_there P_must P_can C_what C_number C_before C_after C_done C_kept A_kinds A_traced A_bodies A_began A_self A_kindOfSelf S_holds S_body S_sort S_size S_elements G_grown) sz res (WC q ρ T_price T_year T_joinEnds T_wallEnds T_cost T_doors T_joins T_walls T_oldWells T_apart L_tape L_text L_fed L_length L_read L_end L_at L_fault L_d L_p L_y L_j L_o P_away P_beside P_reach P_serves P_crowds P_servedLow P_servedHigh P_crowdedLow P_crowdedHigh P_there P_must P_can C_what C_number C_before C_after C_done C_kept A_kinds A_traced A_bodies A_began A_self A_kindOfSelf S_holds S_body S_sort S_size S_elements G_grown) := by
  refine zMet_i (own := RX4) _ (by decide) rfl (Nat.le_of_ble_eq_true rfl) ?_
  intro p e s m args below meth c A ls Q hC hW hl hret
  have hx := hC.1
  have hb := hC.2.1
  have hl : lv_has ls 2 [(0, .ref (ρ (30 + j0))), (1, .int a1)] := hl
  unfold f_X4_isRowOf at h
  refine lv_aload_n hx hb dX4_isRowOf_0 rfl (lv_at hl 0 rfl) ?_
  refine z_get hC hW fg_X4_15 (30 + j0) (WC_sh hj0) rfl dX4_isRowOf_1 ?_
  refine lv_iconst (v := 2) hx hb dX4_isRowOf_4 (by decide) ?_
  refine lv_icmp_ne (tgt := 20) hx hb dX4_isRowOf_5 (by decide) (fun c1 => ?_) (fun c1 => ?_)
  · have h := ifn c1 h
    refine lv_iconst (v := 0) hx hb dX4_isRowOf_20 (by decide) ?_
    have h := Option.some.inj h
    subst h
    exact hret _ _ _ _ _ dX4_isRowOf_21 rfl rfl hW
  · have h := ifp c1 h
    refine lv_aload_n hx hb dX4_isRowOf_8 rfl (lv_at hl 0 rfl) ?_
    refine z_get hC hW fg_X4_19 (30 + j0) (WC_sh hj0) rfl dX4_isRowOf_9 ?_
    refine lv_iload_n hx hb dX4_isRowOf_12 rfl (lv_at hl 1 rfl) ?_
    refine lv_icmp_ne (tgt := 20) hx hb dX4_isRowOf_13 (by decide) (fun c2 => ?_) (fun c2 => ?_)
    · have h := ifn c2 h
      refine lv_iconst (v := 0) hx hb dX4_isRowOf_20 (by decide) ?_
      have h := Option.some.inj h
      subst h
      exact hret _ _ _ _ _ dX4_isRowOf_21 rfl rfl hW
    · have h := ifp c2 h
      refine lv_iconst (v := 1) hx hb dX4_isRowOf_16 (by decide) ?_
      refine lv_goto (tgt := 21) hx hb dX4_isRowOf_17 (by decide) ?_
      have h := Option.some.inj h
      subst h
      exact hret _ _ _ _ _ dX4_isRowOf_21 rfl rfl hW
set_option maxHeartbeats 4000000 in
set_option maxRecDepth 100000 in
theorem c_X6_joinsCome {j1 : Nat} {a2 : Int32} {a3 : Int32} {d : Nat} {res : Int32 × (Nat → Int32) × Int32} (hd : 2 ≤ d) (hj1 : j1 < 6) (h : f_X6_joinsCome j1 a2 a3 T_joinEnds T_doors T_joins S_size S_elements = some res) : zMi l yX6_joinsCome cX6_joinsCome 9 .int (zrm d) [.ref (ρ 0), .ref (ρ (30 + j1)), .int a2, .int a3] D q (WC q ρ T_price T_year T_joinEnds T_wallEnds T_cost T_doors T_joins T_walls T_oldWells T_apart L_tape L_text L_fed L_length L_read L_end L_at L_fault L_d L_p L_y L_j L_o P_away P_beside P_reach P_serves P_crowds P_servedLow P_servedHigh P_crowdedLow P_crowdedHigh P_there P_must P_can C_what C_number C_before C_after C_done C_kept A_kinds A_traced A_bodies A_began A_self A_kindOfSelf S_holds S_body S_sort S_size S_elements G_grown) sz res.1 (WC q ρ T_price T_year res.2.1 T_wallEnds T_cost T_doors res.2.2 T_walls T_oldWells T_apart L_tape L_text L_fed L_length L_read L_end L_at L_fault L_d L_p L_y L_j L_o P_away P_beside P_reach P_serves P_crowds P_servedLow P_servedHigh P_crowdedLow P_crowdedHigh P_there P_must P_can C_what C_number C_before C_after C_done C_kept A_kinds A_traced A_bodies A_began A_self A_kindOfSelf S_holds S_body S_sort S_size S_elements G_grown) := by
  refine zMet_i (own := RX6) _ (by decide) rfl (Nat.le_of_ble_eq_true rfl) ?_
  intro p e s m args below meth c A ls Q hC hW hl hret
  have hx := hC.1
  have hb := hC.2.1
  have hl : lv_has ls 9 [(0, .ref (ρ 0)), (1, .ref (ρ (30 + j1))), (2, .int a2), (3, .int a3)] := hl
  have b3 : ∀ {j1 : Nat} {x2 : Int32} {x3 : Int32} {n : Nat} {x4 : Int32} {T_joinEnds : Nat → Int32} {T_joins : Int32} {H : Heap} {locs : List Loc} {ls : Array Slot} (hj1 : j1 < 6), f_X6_joinsCome_b3 j1 x2 x3 T_doors S_size S_elements n x4 T_joinEnds T_joins = some res → zW D A s.heap (WC q ρ T_price T_year T_joinEnds T_wallEnds T_cost T_doors T_joins T_walls T_oldWells T_apart L_tape L_text L_fed L_length L_read L_end L_at L_fault L_d L_p L_y L_j L_o P_away P_beside P_reach P_serves P_crowds P_servedLow P_servedHigh P_crowdedLow P_crowdedHigh P_there P_must P_can C_what C_number C_before C_after C_done C_kept A_kinds A_traced A_bodies A_began A_self A_kindOfSelf S_holds S_body S_sort S_size S_elements G_grown) H locs → lv_has ls 9 [(0, .ref (ρ 0)), (1, .ref (ρ (30 + j1))), (2, .int x2), (3, .int x3), (4, .int x4)] → W p l e (zrm d) s m args below meth c H locs 0 0 Q (F0 m 3 ls []) := by
    intro j1 x2 x3
    intro n
    induction n with
    | zero =>
      intro x4 T_joinEnds T_joins H locs ls hj1 h
      rw [f_X6_joinsCome_b3] at h
      cases h
    | succ n ih =>
      intro x4 T_joinEnds T_joins H locs ls hj1 h hW hl
      rw [f_X6_joinsCome_b3] at h
      refine lv_iload hx hb dX6_joinsCome_3 (lv_at hl 4 rfl) ?_
      refine lv_iload_n hx hb dX6_joinsCome_5 rfl (lv_at hl 3 rfl) ?_
      refine lv_icmp_ge (tgt := 107) hx hb dX6_joinsCome_6 (by decide) (fun c1 => ?_) (fun c1 => ?_)
      · have h := ifp c1 h
        refine lv_iload hx hb dX6_joinsCome_107 (lv_at hl 4 rfl) ?_
        have h := Option.some.inj h
        subst h
        exact hret _ _ _ _ _ dX6_joinsCome_109 rfl rfl hW
      · have h := ifn c1 h
        refine lv_iload_n hx hb dX6_joinsCome_9 rfl (lv_at hl 2 rfl) ?_
        refine lv_aload_n hx hb dX6_joinsCome_10 rfl (lv_at hl 1 rfl) ?_
        refine z_get hC hW fg_X6_218 (30 + j1) (WC_sh hj1) rfl dX6_joinsCome_11 ?_
        refine lv_iconst (v := 2) hx hb dX6_joinsCome_14 (by decide) ?_
        refine lv_iload hx hb dX6_joinsCome_15 (lv_at hl 4 rfl) ?_
        refine lv_imul hx hb dX6_joinsCome_17 ?_
        refine lv_isub hx hb dX6_joinsCome_18 ?_
        refine lv_iconst (v := 1) hx hb dX6_joinsCome_19 (by decide) ?_
        refine lv_isub hx hb dX6_joinsCome_20 ?_
        refine lv_icmp_ge (tgt := 107) hx hb dX6_joinsCome_21 (by decide) (fun c2 => ?_) (fun c2 => ?_)
        · have h := ifp c2 h
          refine lv_iload hx hb dX6_joinsCome_107 (lv_at hl 4 rfl) ?_
          have h := Option.some.inj h
          subst h
          exact hret _ _ _ _ _ dX6_joinsCome_109 rfl rfl hW
        · have h := ifn c2 h
          refine lv_aload_n hx hb dX6_joinsCome_24 rfl (lv_at hl 0 rfl) ?_
          refine z_get hC hW fg_X6_10 0 WC_0 rfl dX6_joinsCome_25 ?_
          refine z_get hC hW fg_X6_70 1 WC_1 rfl dX6_joinsCome_28 ?_
          refine lv_bipush (v := 40) hx hb dX6_joinsCome_31 (by decide) ?_
          refine lv_icmp_ge (tgt := 107) hx hb dX6_joinsCome_33 (by decide) (fun c3 => ?_) (fun c3 => ?_)
          · have h := ifp c3 h
            refine lv_iload hx hb dX6_joinsCome_107 (lv_at hl 4 rfl) ?_
            have h := Option.some.inj h
            subst h
            exact hret _ _ _ _ _ dX6_joinsCome_109 rfl rfl hW
          · have h := ifn c3 h
            refine lv_aload_n hx hb dX6_joinsCome_36 rfl (lv_at hl 1 rfl) ?_
            refine z_get hC hW fg_X6_266 (30 + j1) (WC_sh hj1) rfl dX6_joinsCome_37 ?_
            refine lv_iload_n hx hb dX6_joinsCome_40 rfl (lv_at hl 2 rfl) ?_
            refine lv_iconst (v := 2) hx hb dX6_joinsCome_41 (by decide) ?_
            refine lv_iload hx hb dX6_joinsCome_42 (lv_at hl 4 rfl) ?_
            refine lv_imul hx hb dX6_joinsCome_44 ?_
            refine lv_iadd hx hb dX6_joinsCome_45 ?_
            obtain ⟨g4, h⟩ := ix_some h
            refine z_lald hC hW (36 + j1) (WC_el hj1) g4 dX6_joinsCome_46 ?_
            refine lv_lstore (lv' := [(5, .long (S_elements j1 (Int32.toNatClampNeg (x2 + (2 * x4))))), (0, .ref (ρ 0)), (1, .ref (ρ (30 + j1))), (2, .int x2), (3, .int x3), (4, .int x4)]) hx hb dX6_joinsCome_47 hl (by decide) rfl (fun ls hl => ?_)
            refine lv_aload_n hx hb dX6_joinsCome_49 rfl (lv_at hl 2 rfl) ?_
            refine z_get hC hW fg_X6_266 (30 + j1) (WC_sh hj1) rfl dX6_joinsCome_50 ?_
            refine lv_iload_n hx hb dX6_joinsCome_53 rfl (lv_at hl 3 rfl) ?_
            refine lv_iconst (v := 2) hx hb dX6_joinsCome_54 (by decide) ?_
            refine lv_iload hx hb dX6_joinsCome_55 (lv_at hl 5 rfl) ?_
            refine lv_imul hx hb dX6_joinsCome_57 ?_
            refine lv_iadd hx hb dX6_joinsCome_58 ?_
            refine lv_iconst (v := 1) hx hb dX6_joinsCome_59 (by decide) ?_
            refine lv_iadd hx hb dX6_joinsCome_60 ?_
            obtain ⟨g5, h⟩ := ix_some h
            refine z_lald hC hW (36 + j1) (WC_el hj1) g5 dX6_joinsCome_61 ?_
            refine lv_lstore (lv' := [(7, .long (S_elements j1 (Int32.toNatClampNeg ((x2 + (2 * x4)) + 1)))), (5, .long (S_elements j1 (Int32.toNatClampNeg (x2 + (2 * x4))))), (0, .ref (ρ 0)), (1, .ref (ρ (30 + j1))), (2, .int x2), (3, .int x3), (4, .int x4)]) hx hb dX6_joinsCome_62 hl (by decide) rfl (fun ls hl => ?_)
            refine lv_aload_n hx hb dX6_joinsCome_64 rfl (lv_at hl 2 rfl) ?_
            refine z_get hC hW fg_X6_10 0 WC_0 rfl dX6_joinsCome_65 ?_
            refine lv_lload hx hb dX6_joinsCome_68 (lv_at hl 1 rfl) ?_
            refine lv_l2i hx hb dX6_joinsCome_70 rfl ?_
            refine lv_lload hx hb dX6_joinsCome_71 (lv_at hl 0 rfl) ?_
            refine lv_l2i hx hb dX6_joinsCome_73 rfl ?_
            obtain ⟨u6, eu6, h⟩ := bd_some h
            refine z_callV_i hC hW (rest := []) (c_X5_areUnlike (d := 1) (Nat.le_refl _) eu6) vw_X6_67 WC_1 rfl ⟨rfl, rfl⟩ (zrm_ok (by omega) (by decide)) rfl rfl hl.1 (Nat.le_of_ble_eq_true rfl) dX6_joinsCome_74 (fun H locs hW => ?_)
            refine lv_if_ne (tgt := 83) hx hb dX6_joinsCome_77 (by decide) (fun c7 => ?_) (fun c7 => ?_)
            · have h := ifn c7 h
              refine lv_aload_n hx hb dX6_joinsCome_83 rfl (lv_at hl 2 rfl) ?_
              refine z_get hC hW fg_X6_10 0 WC_0 rfl dX6_joinsCome_84 ?_
              refine lv_bipush (v := 100) hx hb dX6_joinsCome_87 (by decide) ?_
              refine lv_lload hx hb dX6_joinsCome_89 (lv_at hl 1 rfl) ?_
              refine lv_l2i hx hb dX6_joinsCome_91 rfl ?_
              refine lv_imul hx hb dX6_joinsCome_92 ?_
              refine lv_lload hx hb dX6_joinsCome_93 (lv_at hl 0 rfl) ?_
              refine lv_l2i hx hb dX6_joinsCome_95 rfl ?_
              refine lv_iadd hx hb dX6_joinsCome_96 ?_
              obtain ⟨u8, eu8, h⟩ := bd_some h
              refine z_callV_i hC hW (rest := []) (c_X5_addJoin (d := 0) (Nat.le_refl _) eu8) vw_X6_73 WC_1 rfl ⟨rfl, rfl⟩ (zrm_ok (by omega) (by decide)) rfl rfl hl.1 (Nat.le_of_ble_eq_true rfl) dX6_joinsCome_97 (fun H locs hW => ?_)
              refine lv_pop hx hb dX6_joinsCome_100 rfl ?_
              refine lv_iinc (v := (x4 + 1)) (lv' := [(4, .int (x4 + 1)), (7, .long (S_elements j1 (Int32.toNatClampNeg ((x2 + (2 * x4)) + 1)))), (5, .long (S_elements j1 (Int32.toNatClampNeg (x2 + (2 * x4))))), (0, .ref (ρ 0)), (1, .ref (ρ (30 + j1))), (2, .int x2), (3, .int x3)]) hx hb dX6_joinsCome_101 hl (k := 6) rfl rfl (by decide) rfl (fun ls hl => ?_)
              refine lv_goto (tgt := 3) hx hb dX6_joinsCome_104 (by decide) ?_
              exact ih hj1 h hW (lv_sub hl [3, 4, 5, 6, 0] rfl)
            · have h := ifp c7 h
              refine lv_goto (tgt := 107) hx hb dX6_joinsCome_80 (by decide) ?_
              refine lv_iload hx hb dX6_joinsCome_107 (lv_at hl 6 rfl) ?_
              have h := Option.some.inj h
              subst h
              exact hret _ _ _ _ _ dX6_joinsCome_109 rfl rfl hW
  unfold f_X6_joinsCome at h
  refine lv_iconst (v := 0) hx hb dX6_joinsCome_0 (by decide) ?_
  refine lv_istore (lv' := [(4, .int 0), (0, .ref (ρ 0)), (1, .ref (ρ (30 + j1))), (2, .int a2), (3, .int a3)]) hx hb dX6_joinsCome_1 hl (by decide) rfl (fun ls hl => ?_)
  exact b3 hj1 h hW (lv_sub hl [1, 2, 3, 4, 0] rfl)
end CT20_c00
