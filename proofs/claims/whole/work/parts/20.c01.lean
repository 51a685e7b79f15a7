section CT20_c01
variable {l : Launch} {D : va_G} {q : Nat → ClassId} {ρ : Nat → Nat} {sz : Nat} {T_price : Nat → Int32} {T_year : Nat → Int32} {T_joinEnds : Nat → Int32} {T_wallEnds : Nat → Int32} {T_cost : Nat → Int32} {T_doors : Int32} {T_joins : Int32} {T_walls : Int32} {T_oldWells : Int32} {T_apart : Int32} {L_tape : Nat → Int32} {L_text : Nat → Int32} {L_fed : Int32} {L_length : Int32} {L_read : Nat} {L_end : Int32} {L_at : Int32} {L_fault : Int32} {L_d : Int32} {L_p : Int32} {L_y : Int32} {L_j : Int32} {L_o : Int32} {P_away : Nat → Nat → Int32} {P_beside : Nat → Int32} {P_reach : Nat → Int32} {P_serves : Nat → Int32} {P_crowds : Nat → Int32} {P_servedLow : Nat → Int32} {P_servedHigh : Nat → Int32} {P_crowdedLow : Nat → Int32} {P_crowdedHigh : Nat → Int32} {P_there : Int32} {P_must : Int32} {P_can : Int32} {C_what : Nat → Int32} {C_number : Nat → Int32} {C_before : Nat → Int32} {C_after : Nat → Int32} {C_done : Int32} {C_kept : Int32} {A_kinds : Nat → Int32} {A_traced : Nat → Int32} {A_bodies : Int32} {A_began : Int32} {A_self : Int32} {A_kindOfSelf : Int32} {S_holds : Nat → Int32} {S_body : Nat → Int32} {S_sort : Nat → Int32} {S_size : Nat → Int32} {S_elements : Nat → Nat → Int64} {G_grown : Nat → Int32}
set_option maxHeartbeats 4000000 in
set_option maxRecDepth 100000 in
theorem c_X6_joins {a1 : Int32} {a2 : Int32} {a3 : Int32} {d : Nat} {res : Int32 × (Nat → Int32) × Int32} (hd : 3 ≤ d) (h : f_X6_joins a1 a2 a3 T_joinEnds T_doors T_joins S_holds S_sort S_size S_elements = some res) : zMi l yX6_joins cX6_joins 5 .int (zrm d) [.ref (ρ 0), .int a1, .int a2, .int a3] D q (WC q ρ T_price T_year T_joinEnds T_wallEnds T_cost T_doors T_joins T_walls T_oldWells T_apart L_tape L_text L_fed L_length L_read L_end L_at L_fault L_d L_p L_y L_j L_o P_away P_beside P_reach P_serves P_crowds P_servedLow P_servedHigh P_crowdedLow P_crowdedHigh P_there P_must P_can C_what C_number C_before C_after C_done C_kept A_kinds A_traced A_bodies A_began A_self A_kindOfSelf S_holds S_body S_sort S_size S_elements G_grown) sz res.1 (WC q ρ T_price T_year res.2.1 T_wallEnds T_cost T_doors res.2.2 T_walls T_oldWells T_apart L_tape L_text L_fed L_length L_read L_end L_at L_fault L_d L_p L_y L_j L_o P_away P_beside P_reach P_serves P_crowds P_servedLow P_servedHigh P_crowdedLow P_crowdedHigh P_there P_must P_can C_what C_number C_before C_after C_done C_kept A_kinds A_traced A_bodies A_began A_self A_kindOfSelf S_holds S_body S_sort S_size S_elements G_grown) := by
  refine zMet_i (own := RX6) _ (by decide) rfl (Nat.le_of_ble_eq_true rfl) ?_
  intro p e s m args below meth c A ls Q hC hW hl hret
  have hx := hC.1
  have hb := hC.2.1
  have hl : lv_has ls 5 [(0, .ref (ρ 0)), (1, .int a1), (2, .int a2), (3, .int a3)] := hl
  unfold f_X6_joins at h
  refine lv_iload_n hx hb dX6_joins_0 rfl (lv_at hl 1 rfl) ?_
  obtain ⟨u1, eu1, h⟩ := bd_some h
  refine z_callS_i hC hW (rest := []) (c_X6_isShelf (d := 0) (Nat.le_refl _) eu1) sw_X6_77 ⟨rfl, rfl⟩ (zrm_ok (by omega) (by decide)) rfl rfl hl.1 (Nat.le_of_ble_eq_true rfl) dX6_joins_1 (fun H locs hW => ?_)
  refine lv_if_eq (tgt := 18) hx hb dX6_joins_4 (by decide) (fun c2 => ?_) (fun c2 => ?_)
  · have h := ifp c2 h
    refine lv_iconst (v := (-1)) hx hb dX6_joins_18 (by decide) ?_
    have h := Option.some.inj h
    subst h
    exact hret _ _ _ _ _ dX6_joins_19 rfl rfl hW
  · have h := ifn c2 h
    refine lv_iload_n hx hb dX6_joins_7 rfl (lv_at hl 3 rfl) ?_
    refine lv_iconst (v := 1) hx hb dX6_joins_8 (by decide) ?_
    refine lv_icmp_lt (tgt := 18) hx hb dX6_joins_9 (by decide) (fun c3 => ?_) (fun c3 => ?_)
    · have h := ifp c3 h
      refine lv_iconst (v := (-1)) hx hb dX6_joins_18 (by decide) ?_
      have h := Option.some.inj h
      subst h
      exact hret _ _ _ _ _ dX6_joins_19 rfl rfl hW
    · have h := ifn c3 h
      refine lv_iload_n hx hb dX6_joins_12 rfl (lv_at hl 3 rfl) ?_
      refine lv_bipush (v := 30) hx hb dX6_joins_13 (by decide) ?_
      refine lv_icmp_le (tgt := 20) hx hb dX6_joins_15 (by decide) (fun c4 => ?_) (fun c4 => ?_)
      · have h := ifp c4 h
        refine lv_aload_n hx hb dX6_joins_20 rfl (lv_at hl 0 rfl) ?_
        refine z_get hC hW fg_X6_46 0 WC_0 rfl dX6_joins_21 ?_
        refine lv_iload_n hx hb dX6_joins_24 rfl (lv_at hl 1 rfl) ?_
        obtain ⟨g5, h⟩ := ix_some h
        refine z_aald hC hW 6 WC_6 g5 dX6_joins_25 ?_
        refine lv_astore (lv' := [(4, .ref (ρ (30 + (Int32.toNatClampNeg a1)))), (0, .ref (ρ 0)), (1, .int a1), (2, .int a2), (3, .int a3)]) hx hb dX6_joins_26 hl (by decide) rfl (fun ls hl => ?_)
        refine lv_aload hx hb dX6_joins_28 (lv_at hl 0 rfl) ?_
        refine z_get hC hW fg_X6_81 (30 + (Int32.toNatClampNeg a1)) (WC_sh (vlt g5)) rfl dX6_joins_30 ?_
        refine lv_if_ne (tgt := 38) hx hb dX6_joins_33 (by decide) (fun c6 => ?_) (fun c6 => ?_)
        · have h := ifn c6 h
          refine lv_aload hx hb dX6_joins_38 (lv_at hl 0 rfl) ?_
          refine lv_iconst (v := 0) hx hb dX6_joins_40 (by decide) ?_
          obtain ⟨u7, eu7, h⟩ := bd_some h
          refine z_callV_i hC hW (q0 := 30 + (Int32.toNatClampNeg a1)) (rest := []) (c_X4_isRowOf (d := 0) (Nat.le_refl _) (vlt g5) eu7) vw_X6_84 (WC_sh (vlt g5)) rfl ⟨rfl, rfl⟩ (zrm_ok (by omega) (by decide)) rfl rfl hl.1 (Nat.le_of_ble_eq_true rfl) dX6_joins_41 (fun H locs hW => ?_)
          refine lv_if_ne (tgt := 50) hx hb dX6_joins_44 (by decide) (fun c8 => ?_) (fun c8 => ?_)
          · have h := ifn c8 h
            refine lv_iload_n hx hb dX6_joins_50 rfl (lv_at hl 3 rfl) ?_
            refine lv_if_ge (tgt := 58) hx hb dX6_joins_51 (by decide) (fun c9 => ?_) (fun c9 => ?_)
            · have h := ifp c9 h
              refine lv_aload_n hx hb dX6_joins_58 rfl (lv_at hl 1 rfl) ?_
              refine lv_aload hx hb dX6_joins_59 (lv_at hl 0 rfl) ?_
              refine lv_iload_n hx hb dX6_joins_61 rfl (lv_at hl 3 rfl) ?_
              refine lv_iload_n hx hb dX6_joins_62 rfl (lv_at hl 4 rfl) ?_
              obtain ⟨u10, eu10, h⟩ := bd_some h
              refine z_callV_i hC hW (rest := []) (c_X6_joinsCome (d := 2) (Nat.le_refl _) (vlt g5) eu10) vw_X6_87 WC_0 rfl ⟨rfl, rfl⟩ (zrm_ok (by omega) (by decide)) rfl rfl hl.1 (Nat.le_of_ble_eq_true rfl) dX6_joins_63 (fun H locs hW => ?_)
              have h := Option.some.inj h
              subst h
              exact hret _ _ _ _ _ dX6_joins_66 rfl rfl hW
            · have h := ifn c9 h
              refine lv_iconst (v := 0) hx hb dX6_joins_54 (by decide) ?_
              refine lv_goto (tgt := 66) hx hb dX6_joins_55 (by decide) ?_
              have h := Option.some.inj h
              subst h
              exact hret _ _ _ _ _ dX6_joins_66 rfl rfl hW
          · have h := ifp c8 h
            refine lv_bipush (v := (-12)) hx hb dX6_joins_47 (by decide) ?_
            have h := Option.some.inj h
            subst h
            exact hret _ _ _ _ _ dX6_joins_49 rfl rfl hW
        · have h := ifp c6 h
          refine lv_iconst (v := 0) hx hb dX6_joins_36 (by decide) ?_
          have h := Option.some.inj h
          subst h
          exact hret _ _ _ _ _ dX6_joins_37 rfl rfl hW
      · have h := ifn c4 h
        refine lv_iconst (v := (-1)) hx hb dX6_joins_18 (by decide) ?_
        have h := Option.some.inj h
        subst h
        exact hret _ _ _ _ _ dX6_joins_19 rfl rfl hW
set_option maxHeartbeats 4000000 in
set_option maxRecDepth 100000 in
theorem c_X5_addWall {a1 : Int32} {a2 : Int32} {d : Nat} {res : Int32 × (Nat → Int32) × (Nat → Int32) × Int32} (hd : 0 ≤ d) (h : f_X5_addWall a1 a2 T_wallEnds T_cost T_walls = some res) : zMi l yX5_addWall cX5_addWall 3 .int (zrm d) [.ref (ρ 1), .int a1, .int a2] D q (WC q ρ T_price T_year T_joinEnds T_wallEnds T_cost T_doors T_joins T_walls T_oldWells T_apart L_tape L_text L_fed L_length L_read L_end L_at L_fault L_d L_p L_y L_j L_o P_away P_beside P_reach P_serves P_crowds P_servedLow P_servedHigh P_crowdedLow P_crowdedHigh P_there P_must P_can C_what C_number C_before C_after C_done C_kept A_kinds A_traced A_bodies A_began A_self A_kindOfSelf S_holds S_body S_sort S_size S_elements G_grown) sz res.1 (WC q ρ T_price T_year T_joinEnds res.2.1 res.2.2.1 T_doors T_joins res.2.2.2 T_oldWells T_apart L_tape L_text L_fed L_length L_read L_end L_at L_fault L_d L_p L_y L_j L_o P_away P_beside P_reach P_serves P_crowds P_servedLow P_servedHigh P_crowdedLow P_crowdedHigh P_there P_must P_can C_what C_number C_before C_after C_done C_kept A_kinds A_traced A_bodies A_began A_self A_kindOfSelf S_holds S_body S_sort S_size S_elements G_grown) := by
  refine zMet_i (own := RX5) _ (by decide) rfl (Nat.le_of_ble_eq_true rfl) ?_
  intro p e s m args below meth c A ls Q hC hW hl hret
  have hx := hC.1
  have hb := hC.2.1
  have hl : lv_has ls 3 [(0, .ref (ρ 1)), (1, .int a1), (2, .int a2)] := hl
  unfold f_X5_addWall at h
  refine lv_aload_n hx hb dX5_addWall_0 rfl (lv_at hl 0 rfl) ?_
  refine z_get hC hW fg_X5_21 1 WC_1 rfl dX5_addWall_1 ?_
  refine lv_aload_n hx hb dX5_addWall_4 rfl (lv_at hl 0 rfl) ?_
  refine z_get hC hW fg_X5_37 1 WC_1 rfl dX5_addWall_5 ?_
  refine lv_iload_n hx hb dX5_addWall_8 rfl (lv_at hl 1 rfl) ?_
  obtain ⟨g1, h⟩ := ix_some h
  refine z_iast hC hW 11 WC_11 g1 WCs_T_wallEnds dX5_addWall_9 (fun H locs hW => ?_)
  refine lv_aload_n hx hb dX5_addWall_10 rfl (lv_at hl 0 rfl) ?_
  refine z_get hC hW fg_X5_24 1 WC_1 rfl dX5_addWall_11 ?_
  refine lv_aload_n hx hb dX5_addWall_14 rfl (lv_at hl 0 rfl) ?_
  refine z_get hC hW fg_X5_37 1 WC_1 rfl dX5_addWall_15 ?_
  refine lv_iload_n hx hb dX5_addWall_18 rfl (lv_at hl 2 rfl) ?_
  obtain ⟨g2, h⟩ := ix_some h
  refine z_iast hC hW 12 WC_12 g2 WCs_T_cost dX5_addWall_19 (fun H locs hW => ?_)
  refine lv_aload_n hx hb dX5_addWall_20 rfl (lv_at hl 0 rfl) ?_
  refine lv_dup hx hb dX5_addWall_21 rfl ?_
  refine z_get hC hW fg_X5_37 1 WC_1 rfl dX5_addWall_22 ?_
  refine lv_dup_x1 hx hb dX5_addWall_25 rfl rfl ?_
  refine lv_iconst (v := 1) hx hb dX5_addWall_26 (by decide) ?_
  refine lv_iadd hx hb dX5_addWall_27 ?_
  refine z_put hC hW fp_X5_37 1 WC_1 (Nat.le_of_ble_eq_true rfl) rfl rfl WCs_T_walls dX5_addWall_28 (fun H locs hW => ?_)
  have h := Option.some.inj h
  subst h
  exact hret _ _ _ _ _ dX5_addWall_31 rfl rfl hW
set_option maxHeartbeats 4000000 in
set_option maxRecDepth 100000 in
theorem c_X6_wall {a1 : Int32} {a2 : Int32} {d : Nat} {res : Int32 × (Nat → Int32) × (Nat → Int32) × Int32} (hd : 2 ≤ d) (h : f_X6_wall a1 a2 T_wallEnds T_cost T_doors T_walls = some res) : zMi l yX6_wall cX6_wall 3 .int (zrm d) [.ref (ρ 0), .int a1, .int a2] D q (WC q ρ T_price T_year T_joinEnds T_wallEnds T_cost T_doors T_joins T_walls T_oldWells T_apart L_tape L_text L_fed L_length L_read L_end L_at L_fault L_d L_p L_y L_j L_o P_away P_beside P_reach P_serves P_crowds P_servedLow P_servedHigh P_crowdedLow P_crowdedHigh P_there P_must P_can C_what C_number C_before C_after C_done C_kept A_kinds A_traced A_bodies A_began A_self A_kindOfSelf S_holds S_body S_sort S_size S_elements G_grown) sz res.1 (WC q ρ T_price T_year T_joinEnds res.2.1 res.2.2.1 T_doors T_joins res.2.2.2 T_oldWells T_apart L_tape L_text L_fed L_length L_read L_end L_at L_fault L_d L_p L_y L_j L_o P_away P_beside P_reach P_serves P_crowds P_servedLow P_servedHigh P_crowdedLow P_crowdedHigh P_there P_must P_can C_what C_number C_before C_after C_done C_kept A_kinds A_traced A_bodies A_began A_self A_kindOfSelf S_holds S_body S_sort S_size S_elements G_grown) := by
  refine zMet_i (own := RX6) _ (by decide) rfl (Nat.le_of_ble_eq_true rfl) ?_
  intro p e s m args below meth c A ls Q hC hW hl hret
  have hx := hC.1
  have hb := hC.2.1
  have hl : lv_has ls 3 [(0, .ref (ρ 0)), (1, .int a1), (2, .int a2)] := hl
  unfold f_X6_wall at h
  refine lv_iload_n hx hb dX6_wall_0 rfl (lv_at hl 1 rfl) ?_
  refine lv_if_lt (tgt := 31) hx hb dX6_wall_1 (by decide) (fun c1 => ?_) (fun c1 => ?_)
  · have h := ifp c1 h
    refine lv_iconst (v := (-1)) hx hb dX6_wall_31 (by decide) ?_
    have h := Option.some.inj h
    subst h
    exact hret _ _ _ _ _ dX6_wall_32 rfl rfl hW
  · have h := ifn c1 h
    refine lv_aload_n hx hb dX6_wall_4 rfl (lv_at hl 0 rfl) ?_
    refine z_get hC hW fg_X6_10 0 WC_0 rfl dX6_wall_5 ?_
    refine lv_iload_n hx hb dX6_wall_8 rfl (lv_at hl 1 rfl) ?_
    refine lv_bipush (v := 100) hx hb dX6_wall_9 (by decide) ?_
    refine lv_idiv hx hb dX6_wall_11 (by decide) ?_
    refine lv_iload_n hx hb dX6_wall_12 rfl (lv_at hl 1 rfl) ?_
    refine lv_bipush (v := 100) hx hb dX6_wall_13 (by decide) ?_
    refine lv_irem hx hb dX6_wall_15 (by decide) ?_
    obtain ⟨u2, eu2, h⟩ := bd_some h
    refine z_callV_i hC hW (rest := []) (c_X5_areUnlike (d := 1) (Nat.le_refl _) eu2) vw_X6_67 WC_1 rfl ⟨rfl, rfl⟩ (zrm_ok (by omega) (by decide)) rfl rfl hl.1 (Nat.le_of_ble_eq_true rfl) dX6_wall_16 (fun H locs hW => ?_)
    refine lv_if_eq (tgt := 31) hx hb dX6_wall_19 (by decide) (fun c3 => ?_) (fun c3 => ?_)
    · have h := ifp c3 h
      refine lv_iconst (v := (-1)) hx hb dX6_wall_31 (by decide) ?_
      have h := Option.some.inj h
      subst h
      exact hret _ _ _ _ _ dX6_wall_32 rfl rfl hW
    · have h := ifn c3 h
      refine lv_iload_n hx hb dX6_wall_22 rfl (lv_at hl 2 rfl) ?_
      refine lv_bipush (v := 99) hx hb dX6_wall_23 (by decide) ?_
      obtain ⟨u4, eu4, h⟩ := bd_some h
      refine z_callS_i hC hW (rest := []) (c_X6_isWithin (d := 0) (Nat.le_refl _) eu4) sw_X6_55 ⟨rfl, rfl⟩ (zrm_ok (by omega) (by decide)) rfl rfl hl.1 (Nat.le_of_ble_eq_true rfl) dX6_wall_25 (fun H locs hW => ?_)
      refine lv_if_ne (tgt := 33) hx hb dX6_wall_28 (by decide) (fun c5 => ?_) (fun c5 => ?_)
      · have h := ifn c5 h
        refine lv_aload_n hx hb dX6_wall_33 rfl (lv_at hl 0 rfl) ?_
        refine z_get hC hW fg_X6_10 0 WC_0 rfl dX6_wall_34 ?_
        refine z_get hC hW fg_X6_91 1 WC_1 rfl dX6_wall_37 ?_
        refine lv_bipush (v := 10) hx hb dX6_wall_40 (by decide) ?_
        refine lv_icmp_lt (tgt := 50) hx hb dX6_wall_42 (by decide) (fun c6 => ?_) (fun c6 => ?_)
        · have h := ifp c6 h
          refine lv_aload_n hx hb dX6_wall_50 rfl (lv_at hl 0 rfl) ?_
          refine z_get hC hW fg_X6_10 0 WC_0 rfl dX6_wall_51 ?_
          refine lv_iload_n hx hb dX6_wall_54 rfl (lv_at hl 1 rfl) ?_
          refine lv_iload_n hx hb dX6_wall_55 rfl (lv_at hl 2 rfl) ?_
          obtain ⟨u7, eu7, h⟩ := bd_some h
          refine z_callV_i hC hW (rest := []) (c_X5_addWall (d := 0) (Nat.le_refl _) eu7) vw_X6_94 WC_1 rfl ⟨rfl, rfl⟩ (zrm_ok (by omega) (by decide)) rfl rfl hl.1 (Nat.le_of_ble_eq_true rfl) dX6_wall_56 (fun H locs hW => ?_)
          have h := Option.some.inj h
          subst h
          exact hret _ _ _ _ _ dX6_wall_59 rfl rfl hW
        · have h := ifn c6 h
          refine lv_bipush (v := (-3)) hx hb dX6_wall_45 (by decide) ?_
          refine lv_goto (tgt := 59) hx hb dX6_wall_47 (by decide) ?_
          have h := Option.some.inj h
          subst h
          exact hret _ _ _ _ _ dX6_wall_59 rfl rfl hW
      · have h := ifp c5 h
        refine lv_iconst (v := (-1)) hx hb dX6_wall_31 (by decide) ?_
        have h := Option.some.inj h
        subst h
        exact hret _ _ _ _ _ dX6_wall_32 rfl rfl hW
set_option maxHeartbeats 4000000 in
set_option maxRecDepth 100000 in
theorem c_X5_everyDoor {d : Nat} {res : Int32} (hd : 0 ≤ d) (h : f_X5_everyDoor T_doors = some res) : zMi l yX5_everyDoor cX5_everyDoor 1 .int (zrm d) [.ref (ρ 1)] D q (WC q ρ T_price T_year T_joinEnds T_wallEnds T_cost T_doors T_joins T_walls T_oldWells T_apart L_tape L_text L_fed L_length L_read L_end L_at L_fault L_d L_p L_y L_j L_o P_away P_beside P_reach P_serves P_crowds P_servedLow P_servedHigh P_crowdedLow P_crowdedHigh P_there P_must P_can C_what C_number C_before C_after C_done C_kept A_kinds A_traced A_bodies A_began A_self A_kindOfSelf S_holds S_body S_sort S_size S_elements G_grown) sz res (WC q ρ T_price T_year T_joinEnds T_wallEnds T_cost T_doors T_joins T_walls T_oldWells T_apart L_tape L_text L_fed L_length L_read L_end L_at L_fault L_d L_p L_y L_j L_o P_away P_beside P_reach P_serves P_crowds P_servedLow P_servedHigh P_crowdedLow P_crowdedHigh P_there P_must P_can C_what C_number C_before C_after C_done C_kept A_kinds A_traced A_bodies A_began A_self A_kindOfSelf S_holds S_body S_sort S_size S_elements G_grown) := by
  refine zMet_i (own := RX5) _ (by decide) rfl (Nat.le_of_ble_eq_true rfl) ?_
  intro p e s m args below meth c A ls Q hC hW hl hret
  have hx := hC.1
  have hb := hC.2.1
  have hl : lv_has ls 1 [(0, .ref (ρ 1))] := hl
  unfold f_X5_everyDoor at h
  refine lv_iconst (v := 1) hx hb dX5_everyDoor_0 (by decide) ?_
  refine lv_aload_n hx hb dX5_everyDoor_1 rfl (lv_at hl 0 rfl) ?_
  refine z_get hC hW fg_X5_31 1 WC_1 rfl dX5_everyDoor_2 ?_
  refine lv_ishl hx hb dX5_everyDoor_5 ?_
  refine lv_iconst (v := 1) hx hb dX5_everyDoor_6 (by decide) ?_
  refine lv_isub hx hb dX5_everyDoor_7 ?_
  have h := Option.some.inj h
  subst h
  exact hret _ _ _ _ _ dX5_everyDoor_8 rfl rfl hW
set_option maxHeartbeats 4000000 in
set_option maxRecDepth 100000 in
theorem c_X5_areDoors {a1 : Int32} {d : Nat} {res : Int32} (hd : 1 ≤ d) (h : f_X5_areDoors a1 T_doors = some res) : zMi l yX5_areDoors cX5_areDoors 2 .boolean (zrm d) [.ref (ρ 1), .int a1] D q (WC q ρ T_price T_year T_joinEnds T_wallEnds T_cost T_doors T_joins T_walls T_oldWells T_apart L_tape L_text L_fed L_length L_read L_end L_at L_fault L_d L_p L_y L_j L_o P_away P_beside P_reach P_serves P_crowds P_servedLow P_servedHigh P_crowdedLow P_crowdedHigh P_there P_must P_can C_what C_number C_before C_after C_done C_kept A_kinds A_traced A_bodies A_began A_self A_kindOfSelf S_holds S_body S_sort S_size S_elements G_grown) sz res (WC q ρ T_price T_year T_joinEnds T_wallEnds T_cost T_doors T_joins T_walls T_oldWells T_apart L_tape L_text L_fed L_length L_read L_end L_at L_fault L_d L_p L_y L_j L_o P_away P_beside P_reach P_serves P_crowds P_servedLow P_servedHigh P_crowdedLow P_crowdedHigh P_there P_must P_can C_what C_number C_before C_after C_done C_kept A_kinds A_traced A_bodies A_began A_self A_kindOfSelf S_holds S_body S_sort S_size S_elements G_grown) := by
  refine zMet_i (own := RX5) _ (by decide) rfl (Nat.le_of_ble_eq_true rfl) ?_
  intro p e s m args below meth c A ls Q hC hW hl hret
  have hx := hC.1
  have hb := hC.2.1
  have hl : lv_has ls 2 [(0, .ref (ρ 1)), (1, .int a1)] := hl
  unfold f_X5_areDoors at h
  refine lv_iload_n hx hb dX5_areDoors_0 rfl (lv_at hl 1 rfl) ?_
  refine lv_aload_n hx hb dX5_areDoors_1 rfl (lv_at hl 0 rfl) ?_
  obtain ⟨u1, eu1, h⟩ := bd_some h
  refine z_callV_i hC hW (rest := [.int a1]) (c_X5_everyDoor (d := 0) (Nat.le_refl _) eu1) vw_X5_44 WC_1 rfl ⟨rfl, rfl⟩ (zrm_ok (by omega) (by decide)) rfl rfl hl.1 (Nat.le_of_ble_eq_true rfl) dX5_areDoors_2 (fun H locs hW => ?_)
  refine lv_iconst (v := (-1)) hx hb dX5_areDoors_5 (by decide) ?_
  refine lv_ixor hx hb dX5_areDoors_6 ?_
  refine lv_iand hx hb dX5_areDoors_7 ?_
  refine lv_if_ne (tgt := 15) hx hb dX5_areDoors_8 (by decide) (fun c2 => ?_) (fun c2 => ?_)
  · have h := ifn c2 h
    refine lv_iconst (v := 0) hx hb dX5_areDoors_15 (by decide) ?_
    have h := Option.some.inj h
    subst h
    exact hret _ _ _ _ _ dX5_areDoors_16 rfl rfl hW
  · have h := ifp c2 h
    refine lv_iconst (v := 1) hx hb dX5_areDoors_11 (by decide) ?_
    refine lv_goto (tgt := 16) hx hb dX5_areDoors_12 (by decide) ?_
    have h := Option.some.inj h
    subst h
    exact hret _ _ _ _ _ dX5_areDoors_16 rfl rfl hW
set_option maxHeartbeats 4000000 in
set_option maxRecDepth 100000 in
theorem c_X6_old {a1 : Int32} {d : Nat} {res : Int32 × Int32} (hd : 2 ≤ d) (h : f_X6_old a1 T_doors T_oldWells = some res) : zMi l yX6_old cX6_old 3 .int (zrm d) [.ref (ρ 0), .int a1] D q (WC q ρ T_price T_year T_joinEnds T_wallEnds T_cost T_doors T_joins T_walls T_oldWells T_apart L_tape L_text L_fed L_length L_read L_end L_at L_fault L_d L_p L_y L_j L_o P_away P_beside P_reach P_serves P_crowds P_servedLow P_servedHigh P_crowdedLow P_crowdedHigh P_there P_must P_can C_what C_number C_before C_after C_done C_kept A_kinds A_traced A_bodies A_began A_self A_kindOfSelf S_holds S_body S_sort S_size S_elements G_grown) sz res.1 (WC q ρ T_price T_year T_joinEnds T_wallEnds T_cost T_doors T_joins T_walls res.2 T_apart L_tape L_text L_fed L_length L_read L_end L_at L_fault L_d L_p L_y L_j L_o P_away P_beside P_reach P_serves P_crowds P_servedLow P_servedHigh P_crowdedLow P_crowdedHigh P_there P_must P_can C_what C_number C_before C_after C_done C_kept A_kinds A_traced A_bodies A_began A_self A_kindOfSelf S_holds S_body S_sort S_size S_elements G_grown) := by
  refine zMet_i (own := RX6) _ (by decide) rfl (Nat.le_of_ble_eq_true rfl) ?_
  intro p e s m args below meth c A ls Q hC hW hl hret
  have hx := hC.1
  have hb := hC.2.1
  have hl : lv_has ls 3 [(0, .ref (ρ 0)), (1, .int a1)] := hl
  unfold f_X6_old at h
  refine lv_aload_n hx hb dX6_old_0 rfl (lv_at hl 0 rfl) ?_
  refine z_get hC hW fg_X6_10 0 WC_0 rfl dX6_old_1 ?_
  refine lv_iload_n hx hb dX6_old_4 rfl (lv_at hl 1 rfl) ?_
  obtain ⟨u1, eu1, h⟩ := bd_some h
  refine z_callV_i hC hW (rest := []) (c_X5_areDoors (d := 1) (Nat.le_refl _) eu1) vw_X6_97 WC_1 rfl ⟨rfl, rfl⟩ (zrm_ok (by omega) (by decide)) rfl rfl hl.1 (Nat.le_of_ble_eq_true rfl) dX6_old_5 (fun H locs hW => ?_)
  refine lv_if_ne (tgt := 13) hx hb dX6_old_8 (by decide) (fun c2 => ?_) (fun c2 => ?_)
  · have h := ifn c2 h
    refine lv_aload_n hx hb dX6_old_13 rfl (lv_at hl 0 rfl) ?_
    refine z_get hC hW fg_X6_10 0 WC_0 rfl dX6_old_14 ?_
    refine z_get hC hW fg_X6_100 1 WC_1 rfl dX6_old_17 ?_
    refine lv_istore_n (lv' := [(2, .int T_oldWells), (0, .ref (ρ 0)), (1, .int a1)]) hx hb dX6_old_20 rfl hl (by decide) rfl (fun ls hl => ?_)
    refine lv_aload_n hx hb dX6_old_21 rfl (lv_at hl 1 rfl) ?_
    refine z_get hC hW fg_X6_10 0 WC_0 rfl dX6_old_22 ?_
    refine lv_iload_n hx hb dX6_old_25 rfl (lv_at hl 2 rfl) ?_
    refine z_put hC hW fp_X6_100 1 WC_1 (Nat.le_of_ble_eq_true rfl) rfl rfl WCs_T_oldWells dX6_old_26 (fun H locs hW => ?_)
    refine lv_iload_n hx hb dX6_old_29 rfl (lv_at hl 0 rfl) ?_
    have h := Option.some.inj h
    subst h
    exact hret _ _ _ _ _ dX6_old_30 rfl rfl hW
  · have h := ifp c2 h
    refine lv_iconst (v := (-1)) hx hb dX6_old_11 (by decide) ?_
    have h := Option.some.inj h
    subst h
    exact hret _ _ _ _ _ dX6_old_12 rfl rfl hW
set_option maxHeartbeats 4000000 in
set_option maxRecDepth 100000 in
theorem c_X6_near {a1 : Int32} {d : Nat} {res : Int32 × Int32} (hd : 1 ≤ d) (h : f_X6_near a1 T_apart = some res) : zMi l yX6_near cX6_near 3 .int (zrm d) [.ref (ρ 0), .int a1] D q (WC q ρ T_price T_year T_joinEnds T_wallEnds T_cost T_doors T_joins T_walls T_oldWells T_apart L_tape L_text L_fed L_length L_read L_end L_at L_fault L_d L_p L_y L_j L_o P_away P_beside P_reach P_serves P_crowds P_servedLow P_servedHigh P_crowdedLow P_crowdedHigh P_there P_must P_can C_what C_number C_before C_after C_done C_kept A_kinds A_traced A_bodies A_began A_self A_kindOfSelf S_holds S_body S_sort S_size S_elements G_grown) sz res.1 (WC q ρ T_price T_year T_joinEnds T_wallEnds T_cost T_doors T_joins T_walls T_oldWells res.2 L_tape L_text L_fed L_length L_read L_end L_at L_fault L_d L_p L_y L_j L_o P_away P_beside P_reach P_serves P_crowds P_servedLow P_servedHigh P_crowdedLow P_crowdedHigh P_there P_must P_can C_what C_number C_before C_after C_done C_kept A_kinds A_traced A_bodies A_began A_self A_kindOfSelf S_holds S_body S_sort S_size S_elements G_grown) := by
  refine zMet_i (own := RX6) _ (by decide) rfl (Nat.le_of_ble_eq_true rfl) ?_
  intro p e s m args below meth c A ls Q hC hW hl hret
  have hx := hC.1
  have hb := hC.2.1
  have hl : lv_has ls 3 [(0, .ref (ρ 0)), (1, .int a1)] := hl
  unfold f_X6_near at h
  refine lv_iload_n hx hb dX6_near_0 rfl (lv_at hl 1 rfl) ?_
  refine lv_bipush (v := 9) hx hb dX6_near_1 (by decide) ?_
  obtain ⟨u1, eu1, h⟩ := bd_some h
  refine z_callS_i hC hW (rest := []) (c_X6_isWithin (d := 0) (Nat.le_refl _) eu1) sw_X6_55 ⟨rfl, rfl⟩ (zrm_ok (by omega) (by decide)) rfl rfl hl.1 (Nat.le_of_ble_eq_true rfl) dX6_near_3 (fun H locs hW => ?_)
  refine lv_if_ne (tgt := 11) hx hb dX6_near_6 (by decide) (fun c2 => ?_) (fun c2 => ?_)
  · have h := ifn c2 h
    refine lv_aload_n hx hb dX6_near_11 rfl (lv_at hl 0 rfl) ?_
    refine z_get hC hW fg_X6_10 0 WC_0 rfl dX6_near_12 ?_
    refine z_get hC hW fg_X6_103 1 WC_1 rfl dX6_near_15 ?_
    refine lv_istore_n (lv' := [(2, .int T_apart), (0, .ref (ρ 0)), (1, .int a1)]) hx hb dX6_near_18 rfl hl (by decide) rfl (fun ls hl => ?_)
    refine lv_aload_n hx hb dX6_near_19 rfl (lv_at hl 1 rfl) ?_
    refine z_get hC hW fg_X6_10 0 WC_0 rfl dX6_near_20 ?_
    refine lv_iload_n hx hb dX6_near_23 rfl (lv_at hl 2 rfl) ?_
    refine z_put hC hW fp_X6_103 1 WC_1 (Nat.le_of_ble_eq_true rfl) rfl rfl WCs_T_apart dX6_near_24 (fun H locs hW => ?_)
    refine lv_iload_n hx hb dX6_near_27 rfl (lv_at hl 0 rfl) ?_
    have h := Option.some.inj h
    subst h
    exact hret _ _ _ _ _ dX6_near_28 rfl rfl hW
  · have h := ifp c2 h
    refine lv_iconst (v := (-1)) hx hb dX6_near_9 (by decide) ?_
    have h := Option.some.inj h
    subst h
    exact hret _ _ _ _ _ dX6_near_10 rfl rfl hW
set_option maxHeartbeats 4000000 in
set_option maxRecDepth 100000 in
theorem c_X5_isWall {a1 : Int32} {d : Nat} {res : Int32} (hd : 0 ≤ d) (h : f_X5_isWall a1 T_walls = some res) : zMi l yX5_isWall cX5_isWall 2 .boolean (zrm d) [.ref (ρ 1), .int a1] D q (WC q ρ T_price T_year T_joinEnds T_wallEnds T_cost T_doors T_joins T_walls T_oldWells T_apart L_tape L_text L_fed L_length L_read L_end L_at L_fault L_d L_p L_y L_j L_o P_away P_beside P_reach P_serves P_crowds P_servedLow P_servedHigh P_crowdedLow P_crowdedHigh P_there P_must P_can C_what C_number C_before C_after C_done C_kept A_kinds A_traced A_bodies A_began A_self A_kindOfSelf S_holds S_body S_sort S_size S_elements G_grown) sz res (WC q ρ T_price T_year T_joinEnds T_wallEnds T_cost T_doors T_joins T_walls T_oldWells T_apart L_tape L_text L_fed L_length L_read L_end L_at L_fault L_d L_p L_y L_j L_o P_away P_beside P_reach P_serves P_crowds P_servedLow P_servedHigh P_crowdedLow P_crowdedHigh P_there P_must P_can C_what C_number C_before C_after C_done C_kept A_kinds A_traced A_bodies A_began A_self A_kindOfSelf S_holds S_body S_sort S_size S_elements G_grown) := by
  refine zMet_i (own := RX5) _ (by decide) rfl (Nat.le_of_ble_eq_true rfl) ?_
  intro p e s m args below meth c A ls Q hC hW hl hret
  have hx := hC.1
  have hb := hC.2.1
  have hl : lv_has ls 2 [(0, .ref (ρ 1)), (1, .int a1)] := hl
  unfold f_X5_isWall at h
  refine lv_iload_n hx hb dX5_isWall_0 rfl (lv_at hl 1 rfl) ?_
  refine lv_if_lt (tgt := 16) hx hb dX5_isWall_1 (by decide) (fun c1 => ?_) (fun c1 => ?_)
  · have h := ifp c1 h
    refine lv_iconst (v := 0) hx hb dX5_isWall_16 (by decide) ?_
    have h := Option.some.inj h
    subst h
    exact hret _ _ _ _ _ dX5_isWall_17 rfl rfl hW
  · have h := ifn c1 h
    refine lv_iload_n hx hb dX5_isWall_4 rfl (lv_at hl 1 rfl) ?_
    refine lv_aload_n hx hb dX5_isWall_5 rfl (lv_at hl 0 rfl) ?_
    refine z_get hC hW fg_X5_37 1 WC_1 rfl dX5_isWall_6 ?_
    refine lv_icmp_ge (tgt := 16) hx hb dX5_isWall_9 (by decide) (fun c2 => ?_) (fun c2 => ?_)
    · have h := ifp c2 h
      refine lv_iconst (v := 0) hx hb dX5_isWall_16 (by decide) ?_
      have h := Option.some.inj h
      subst h
      exact hret _ _ _ _ _ dX5_isWall_17 rfl rfl hW
    · have h := ifn c2 h
      refine lv_iconst (v := 1) hx hb dX5_isWall_12 (by decide) ?_
      refine lv_goto (tgt := 17) hx hb dX5_isWall_13 (by decide) ?_
      have h := Option.some.inj h
      subst h
      exact hret _ _ _ _ _ dX5_isWall_17 rfl rfl hW
set_option maxHeartbeats 4000000 in
set_option maxRecDepth 100000 in
theorem c_X5_canBecome {a1 : Int32} {a2 : Int32} {a3 : Int32} {d : Nat} {res : Int32} (hd : 1 ≤ d) (h : f_X5_canBecome a1 a2 a3 T_doors T_walls = some res) : zMi l yX5_canBecome cX5_canBecome 4 .boolean (zrm d) [.ref (ρ 1), .int a1, .int a2, .int a3] D q (WC q ρ T_price T_year T_joinEnds T_wallEnds T_cost T_doors T_joins T_walls T_oldWells T_apart L_tape L_text L_fed L_length L_read L_end L_at L_fault L_d L_p L_y L_j L_o P_away P_beside P_reach P_serves P_crowds P_servedLow P_servedHigh P_crowdedLow P_crowdedHigh P_there P_must P_can C_what C_number C_before C_after C_done C_kept A_kinds A_traced A_bodies A_began A_self A_kindOfSelf S_holds S_body S_sort S_size S_elements G_grown) sz res (WC q ρ T_price T_year T_joinEnds T_wallEnds T_cost T_doors T_joins T_walls T_oldWells T_apart L_tape L_text L_fed L_length L_read L_end L_at L_fault L_d L_p L_y L_j L_o P_away P_beside P_reach P_serves P_crowds P_servedLow P_servedHigh P_crowdedLow P_crowdedHigh P_there P_must P_can C_what C_number C_before C_after C_done C_kept A_kinds A_traced A_bodies A_began A_self A_kindOfSelf S_holds S_body S_sort S_size S_elements G_grown) := by
  refine zMet_i (own := RX5) _ (by decide) rfl (Nat.le_of_ble_eq_true rfl) ?_
  intro p e s m args below meth c A ls Q hC hW hl hret
  have hx := hC.1
  have hb := hC.2.1
  have hl : lv_has ls 4 [(0, .ref (ρ 1)), (1, .int a1), (2, .int a2), (3, .int a3)] := hl
  unfold f_X5_canBecome at h
  refine lv_iload_n hx hb dX5_canBecome_0 rfl (lv_at hl 1 rfl) ?_
  by_cases c1 : a1 = 0
  · have h := ifp c1 h
    refine z_tabIn hx hb (off := 27) (tgt := 28) 0 c1 (by decide) dX5_canBecome_1 (by decide) ?_
    refine lv_aload_n hx hb dX5_canBecome_28 rfl (lv_at hl 0 rfl) ?_
    refine lv_iload_n hx hb dX5_canBecome_29 rfl (lv_at hl 2 rfl) ?_
    obtain ⟨u2, eu2, h⟩ := bd_some h
    refine z_callV_i hC hW (rest := []) (c_X5_isDoor (d := 0) (Nat.le_refl _) eu2) vw_X5_40 WC_1 rfl ⟨rfl, rfl⟩ (zrm_ok (by omega) (by decide)) rfl rfl hl.1 (Nat.le_of_ble_eq_true rfl) dX5_canBecome_30 (fun H locs hW => ?_)
    refine lv_if_eq (tgt := 49) hx hb dX5_canBecome_33 (by decide) (fun c3 => ?_) (fun c3 => ?_)
    · have h := ifp c3 h
      refine lv_iconst (v := 0) hx hb dX5_canBecome_49 (by decide) ?_
      have h := Option.some.inj h
      subst h
      exact hret _ _ _ _ _ dX5_canBecome_50 rfl rfl hW
    · have h := ifn c3 h
      refine lv_iload_n hx hb dX5_canBecome_36 rfl (lv_at hl 3 rfl) ?_
      refine lv_bipush (v := 99) hx hb dX5_canBecome_37 (by decide) ?_
      obtain ⟨u4, eu4, h⟩ := bd_some h
      refine z_callN_i hC hW (rest := []) (c_X6_isWithin (d := 0) (Nat.le_refl _) eu4) hC.2.2.2.2.2.2.2.1 nw_isWithin ⟨rfl, rfl⟩ (zrm_ok (by omega) (by decide)) rfl rfl hl.1 (Nat.le_of_ble_eq_true rfl) dX5_canBecome_39 (fun H locs hW => ?_)
      refine lv_if_eq (tgt := 49) hx hb dX5_canBecome_42 (by decide) (fun c5 => ?_) (fun c5 => ?_)
      · have h := ifp c5 h
        refine lv_iconst (v := 0) hx hb dX5_canBecome_49 (by decide) ?_
        have h := Option.some.inj h
        subst h
        exact hret _ _ _ _ _ dX5_canBecome_50 rfl rfl hW
      · have h := ifn c5 h
        refine lv_iconst (v := 1) hx hb dX5_canBecome_45 (by decide) ?_
        refine lv_goto (tgt := 50) hx hb dX5_canBecome_46 (by decide) ?_
        have h := Option.some.inj h
        subst h
        exact hret _ _ _ _ _ dX5_canBecome_50 rfl rfl hW
  · have h := ifn c1 h
    by_cases c6 : a1 = 1
    · have h := ifp c6 h
      refine z_tabIn hx hb (off := 50) (tgt := 51) 1 c6 (by decide) dX5_canBecome_1 (by decide) ?_
      refine lv_aload_n hx hb dX5_canBecome_51 rfl (lv_at hl 0 rfl) ?_
      refine lv_iload_n hx hb dX5_canBecome_52 rfl (lv_at hl 2 rfl) ?_
      obtain ⟨u7, eu7, h⟩ := bd_some h
      refine z_callV_i hC hW (rest := []) (c_X5_isDoor (d := 0) (Nat.le_refl _) eu7) vw_X5_40 WC_1 rfl ⟨rfl, rfl⟩ (zrm_ok (by omega) (by decide)) rfl rfl hl.1 (Nat.le_of_ble_eq_true rfl) dX5_canBecome_53 (fun H locs hW => ?_)
      refine lv_if_eq (tgt := 72) hx hb dX5_canBecome_56 (by decide) (fun c8 => ?_) (fun c8 => ?_)
      · have h := ifp c8 h
        refine lv_iconst (v := 0) hx hb dX5_canBecome_72 (by decide) ?_
        have h := Option.some.inj h
        subst h
        exact hret _ _ _ _ _ dX5_canBecome_73 rfl rfl hW
      · have h := ifn c8 h
        refine lv_iload_n hx hb dX5_canBecome_59 rfl (lv_at hl 3 rfl) ?_
        refine lv_bipush (v := 9) hx hb dX5_canBecome_60 (by decide) ?_
        obtain ⟨u9, eu9, h⟩ := bd_some h
        refine z_callN_i hC hW (rest := []) (c_X6_isWithin (d := 0) (Nat.le_refl _) eu9) hC.2.2.2.2.2.2.2.1 nw_isWithin ⟨rfl, rfl⟩ (zrm_ok (by omega) (by decide)) rfl rfl hl.1 (Nat.le_of_ble_eq_true rfl) dX5_canBecome_62 (fun H locs hW => ?_)
        refine lv_if_eq (tgt := 72) hx hb dX5_canBecome_65 (by decide) (fun c10 => ?_) (fun c10 => ?_)
        · have h := ifp c10 h
          refine lv_iconst (v := 0) hx hb dX5_canBecome_72 (by decide) ?_
          have h := Option.some.inj h
          subst h
          exact hret _ _ _ _ _ dX5_canBecome_73 rfl rfl hW
        · have h := ifn c10 h
          refine lv_iconst (v := 1) hx hb dX5_canBecome_68 (by decide) ?_
          refine lv_goto (tgt := 73) hx hb dX5_canBecome_69 (by decide) ?_
          have h := Option.some.inj h
          subst h
          exact hret _ _ _ _ _ dX5_canBecome_73 rfl rfl hW
    · have h := ifn c6 h
      by_cases c11 : a1 = 2
      · have h := ifp c11 h
        refine z_tabIn hx hb (off := 73) (tgt := 74) 2 c11 (by decide) dX5_canBecome_1 (by decide) ?_
        refine lv_aload_n hx hb dX5_canBecome_74 rfl (lv_at hl 0 rfl) ?_
        refine lv_iload_n hx hb dX5_canBecome_75 rfl (lv_at hl 2 rfl) ?_
        obtain ⟨u12, eu12, h⟩ := bd_some h
        refine z_callV_i hC hW (rest := []) (c_X5_isWall (d := 0) (Nat.le_refl _) eu12) vw_X5_48 WC_1 rfl ⟨rfl, rfl⟩ (zrm_ok (by omega) (by decide)) rfl rfl hl.1 (Nat.le_of_ble_eq_true rfl) dX5_canBecome_76 (fun H locs hW => ?_)
        refine lv_if_eq (tgt := 95) hx hb dX5_canBecome_79 (by decide) (fun c13 => ?_) (fun c13 => ?_)
        · have h := ifp c13 h
          refine lv_iconst (v := 0) hx hb dX5_canBecome_95 (by decide) ?_
          have h := Option.some.inj h
          subst h
          exact hret _ _ _ _ _ dX5_canBecome_96 rfl rfl hW
        · have h := ifn c13 h
          refine lv_iload_n hx hb dX5_canBecome_82 rfl (lv_at hl 3 rfl) ?_
          refine lv_bipush (v := 99) hx hb dX5_canBecome_83 (by decide) ?_
          obtain ⟨u14, eu14, h⟩ := bd_some h
          refine z_callN_i hC hW (rest := []) (c_X6_isWithin (d := 0) (Nat.le_refl _) eu14) hC.2.2.2.2.2.2.2.1 nw_isWithin ⟨rfl, rfl⟩ (zrm_ok (by omega) (by decide)) rfl rfl hl.1 (Nat.le_of_ble_eq_true rfl) dX5_canBecome_85 (fun H locs hW => ?_)
          refine lv_if_eq (tgt := 95) hx hb dX5_canBecome_88 (by decide) (fun c15 => ?_) (fun c15 => ?_)
          · have h := ifp c15 h
            refine lv_iconst (v := 0) hx hb dX5_canBecome_95 (by decide) ?_
            have h := Option.some.inj h
            subst h
            exact hret _ _ _ _ _ dX5_canBecome_96 rfl rfl hW
          · have h := ifn c15 h
            refine lv_iconst (v := 1) hx hb dX5_canBecome_91 (by decide) ?_
            refine lv_goto (tgt := 96) hx hb dX5_canBecome_92 (by decide) ?_
            have h := Option.some.inj h
            subst h
            exact hret _ _ _ _ _ dX5_canBecome_96 rfl rfl hW
      · have h := ifn c11 h
        refine z_tabD hx hb (tgt := 97) [0, 1, 2] (List.forall_mem_cons.mpr ⟨c1, List.forall_mem_cons.mpr ⟨c6, List.forall_mem_cons.mpr ⟨c11, List.forall_mem_nil _⟩⟩⟩) (by decide) dX5_canBecome_1 (by decide) ?_
        refine lv_iconst (v := 0) hx hb dX5_canBecome_97 (by decide) ?_
        have h := Option.some.inj h
        subst h
        exact hret _ _ _ _ _ dX5_canBecome_98 rfl rfl hW
end CT20_c01
