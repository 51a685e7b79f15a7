section CT20_c18
variable {l : Launch} {D : va_G} {q : Nat → ClassId} {ρ : Nat → Nat} {sz : Nat} {T_price : Nat → Int32} {T_year : Nat → Int32} {T_joinEnds : Nat → Int32} {T_wallEnds : Nat → Int32} {T_cost : Nat → Int32} {T_doors : Int32} {T_joins : Int32} {T_walls : Int32} {T_oldWells : Int32} {T_apart : Int32} {L_tape : Nat → Int32} {L_text : Nat → Int32} {L_fed : Int32} {L_length : Int32} {L_read : Nat} {L_end : Int32} {L_at : Int32} {L_fault : Int32} {L_d : Int32} {L_p : Int32} {L_y : Int32} {L_j : Int32} {L_o : Int32} {P_away : Nat → Nat → Int32} {P_beside : Nat → Int32} {P_reach : Nat → Int32} {P_serves : Nat → Int32} {P_crowds : Nat → Int32} {P_servedLow : Nat → Int32} {P_servedHigh : Nat → Int32} {P_crowdedLow : Nat → Int32} {P_crowdedHigh : Nat → Int32} {P_there : Int32} {P_must : Int32} {P_can : Int32} {C_what : Nat → Int32} {C_number : Nat → Int32} {C_before : Nat → Int32} {C_after : Nat → Int32} {C_done : Int32} {C_kept : Int32} {A_kinds : Nat → Int32} {A_traced : Nat → Int32} {A_bodies : Int32} {A_began : Int32} {A_self : Int32} {A_kindOfSelf : Int32} {S_holds : Nat → Int32} {S_body : Nat → Int32} {S_sort : Nat → Int32} {S_size : Nat → Int32} {S_elements : Nat → Nat → Int64} {G_grown : Nat → Int32}
set_option maxHeartbeats 4000000 in
set_option maxRecDepth 100000 in
theorem c_X6_put {a1 : Int32} {a2 : Int32} {a3 : Int64} {d : Nat} {res : Int32 × (Nat → Nat → Int64)} (hd : 2 ≤ d) (h : f_X6_put a1 a2 a3 S_holds S_sort S_size S_elements = some res) : zMi l yX6_put cX6_put 6 .int (zrm d) [.ref (ρ 0), .int a1, .int a2, .long a3] D q (WC q ρ T_price T_year T_joinEnds T_wallEnds T_cost T_doors T_joins T_walls T_oldWells T_apart L_tape L_text L_fed L_length L_read L_end L_at L_fault L_d L_p L_y L_j L_o P_away P_beside P_reach P_serves P_crowds P_servedLow P_servedHigh P_crowdedLow P_crowdedHigh P_there P_must P_can C_what C_number C_before C_after C_done C_kept A_kinds A_traced A_bodies A_began A_self A_kindOfSelf S_holds S_body S_sort S_size S_elements G_grown) sz res.1 (WC q ρ T_price T_year T_joinEnds T_wallEnds T_cost T_doors T_joins T_walls T_oldWells T_apart L_tape L_text L_fed L_length L_read L_end L_at L_fault L_d L_p L_y L_j L_o P_away P_beside P_reach P_serves P_crowds P_servedLow P_servedHigh P_crowdedLow P_crowdedHigh P_there P_must P_can C_what C_number C_before C_after C_done C_kept A_kinds A_traced A_bodies A_began A_self A_kindOfSelf S_holds S_body S_sort S_size res.2 G_grown) := by
  refine zMet_i (own := RX6) _ (by decide) rfl (Nat.le_of_ble_eq_true rfl) ?_
  intro p e s m args below meth c A ls Q hC hW hl hret
  have hx := hC.1
  have hb := hC.2.1
  have hl : lv_has ls 6 [(0, .ref (ρ 0)), (1, .int a1), (2, .int a2), (3, .long a3)] := hl
  unfold f_X6_put at h
  refine lv_aload_n hx hb dX6_put_0 rfl (lv_at hl 0 rfl) ?_
  refine lv_iload_n hx hb dX6_put_1 rfl (lv_at hl 1 rfl) ?_
  refine lv_iload_n hx hb dX6_put_2 rfl (lv_at hl 2 rfl) ?_
  obtain ⟨u1, eu1, h⟩ := bd_some h
  refine z_callV_i hC hW (rest := []) (c_X6_refusalOf (d := 1) (Nat.le_refl _) eu1) vw_X6_263 WC_0 rfl ⟨rfl, rfl⟩ (zrm_ok (by omega) (by decide)) rfl rfl hl.1 (Nat.le_of_ble_eq_true rfl) dX6_put_3 (fun H locs hW => ?_)
  refine lv_istore (lv' := [(5, .int u1), (0, .ref (ρ 0)), (1, .int a1), (2, .int a2), (3, .long a3)]) hx hb dX6_put_6 hl (by decide) rfl (fun ls hl => ?_)
  refine lv_iload hx hb dX6_put_8 (lv_at hl 0 rfl) ?_
  refine lv_if_eq (tgt := 16) hx hb dX6_put_10 (by decide) (fun c2 => ?_) (fun c2 => ?_)
  · have h := ifp c2 h
    refine lv_aload_n hx hb dX6_put_16 rfl (lv_at hl 1 rfl) ?_
    refine z_get hC hW fg_X6_46 0 WC_0 rfl dX6_put_17 ?_
    refine lv_iload_n hx hb dX6_put_20 rfl (lv_at hl 2 rfl) ?_
    obtain ⟨g3, h⟩ := ix_some h
    refine z_aald hC hW 6 WC_6 g3 dX6_put_21 ?_
    refine z_get hC hW fg_X6_266 (30 + (Int32.toNatClampNeg a1)) (WC_sh (vlt g3)) rfl dX6_put_22 ?_
    refine lv_iload_n hx hb dX6_put_25 rfl (lv_at hl 3 rfl) ?_
    refine lv_aload_n hx hb dX6_put_26 rfl (lv_at hl 1 rfl) ?_
    refine z_get hC hW fg_X6_46 0 WC_0 rfl dX6_put_27 ?_
    refine lv_iload_n hx hb dX6_put_30 rfl (lv_at hl 2 rfl) ?_
    obtain ⟨g4, h⟩ := ix_some h
    refine z_aald hC hW 6 WC_6 g4 dX6_put_31 ?_
    refine lv_lload_n hx hb dX6_put_32 rfl (lv_at hl 4 rfl) ?_
    obtain ⟨u5, eu5, h⟩ := bd_some h
    refine z_callV_l hC hW (q0 := 30 + (Int32.toNatClampNeg a1)) (rest := [.int a2, .ref (ρ (36 + (Int32.toNatClampNeg a1)))]) (c_X4_lowestBits (d := 0) (Nat.le_refl _) (vlt g4) eu5) vw_X6_270 (WC_sh (vlt g4)) rfl ⟨rfl, rfl⟩ (zrm_ok (by omega) (by decide)) rfl rfl hl.1 (Nat.le_of_ble_eq_true rfl) dX6_put_33 (fun H locs hW => ?_)
    obtain ⟨g6, h⟩ := ix_some h
    refine z_last hC hW (36 + (Int32.toNatClampNeg a1)) (WC_el (vlt g3)) g6 (WCs_S_elements (vlt g3)) dX6_put_36 (fun H locs hW => ?_)
    refine lv_iconst (v := 1) hx hb dX6_put_37 (by decide) ?_
    have h := Option.some.inj h
    subst h
    exact hret _ _ _ _ _ dX6_put_38 rfl rfl hW
  · have h := ifn c2 h
    refine lv_iload hx hb dX6_put_13 (lv_at hl 0 rfl) ?_
    have h := Option.some.inj h
    subst h
    exact hret _ _ _ _ _ dX6_put_15 rfl rfl hW
set_option maxHeartbeats 4000000 in
set_option maxRecDepth 100000 in
theorem c_X6_element {a1 : Int32} {a2 : Int32} {d : Nat} {res : Int64} (hd : 2 ≤ d) (h : f_X6_element a1 a2 S_holds S_size S_elements = some res) : zMl l yX6_element cX6_element 3 (zrm d) [.ref (ρ 0), .int a1, .int a2] D q (WC q ρ T_price T_year T_joinEnds T_wallEnds T_cost T_doors T_joins T_walls T_oldWells T_apart L_tape L_text L_fed L_length L_read L_end L_at L_fault L_d L_p L_y L_j L_o P_away P_beside P_reach P_serves P_crowds P_servedLow P_servedHigh P_crowdedLow P_crowdedHigh P_there P_must P_can C_what C_number C_before C_after C_done C_kept A_kinds A_traced A_bodies A_began A_self A_kindOfSelf S_holds S_body S_sort S_size S_elements G_grown) sz res (WC q ρ T_price T_year T_joinEnds T_wallEnds T_cost T_doors T_joins T_walls T_oldWells T_apart L_tape L_text L_fed L_length L_read L_end L_at L_fault L_d L_p L_y L_j L_o P_away P_beside P_reach P_serves P_crowds P_servedLow P_servedHigh P_crowdedLow P_crowdedHigh P_there P_must P_can C_what C_number C_before C_after C_done C_kept A_kinds A_traced A_bodies A_began A_self A_kindOfSelf S_holds S_body S_sort S_size S_elements G_grown) := by
  refine zMet_l (own := RX6) _ (by decide) rfl (Nat.le_of_ble_eq_true rfl) ?_
  intro p e s m args below meth c A ls Q hC hW hl hret
  have hx := hC.1
  have hb := hC.2.1
  have hl : lv_has ls 3 [(0, .ref (ρ 0)), (1, .int a1), (2, .int a2)] := hl
  unfold f_X6_element at h
  refine lv_aload_n hx hb dX6_element_0 rfl (lv_at hl 0 rfl) ?_
  refine lv_iload_n hx hb dX6_element_1 rfl (lv_at hl 1 rfl) ?_
  refine lv_iload_n hx hb dX6_element_2 rfl (lv_at hl 2 rfl) ?_
  obtain ⟨u1, eu1, h⟩ := bd_some h
  refine z_callV_i hC hW (rest := []) (c_X6_refusalOf (d := 1) (Nat.le_refl _) eu1) vw_X6_263 WC_0 rfl ⟨rfl, rfl⟩ (zrm_ok (by omega) (by decide)) rfl rfl hl.1 (Nat.le_of_ble_eq_true rfl) dX6_element_3 (fun H locs hW => ?_)
  refine lv_if_eq (tgt := 15) hx hb dX6_element_6 (by decide) (fun c2 => ?_) (fun c2 => ?_)
  · have h := ifp c2 h
    refine lv_aload_n hx hb dX6_element_15 rfl (lv_at hl 0 rfl) ?_
    refine z_get hC hW fg_X6_46 0 WC_0 rfl dX6_element_16 ?_
    refine lv_iload_n hx hb dX6_element_19 rfl (lv_at hl 1 rfl) ?_
    obtain ⟨g3, h⟩ := ix_some h
    refine z_aald hC hW 6 WC_6 g3 dX6_element_20 ?_
    refine z_get hC hW fg_X6_266 (30 + (Int32.toNatClampNeg a1)) (WC_sh (vlt g3)) rfl dX6_element_21 ?_
    refine lv_iload_n hx hb dX6_element_24 rfl (lv_at hl 2 rfl) ?_
    obtain ⟨g4, h⟩ := ix_some h
    refine z_lald hC hW (36 + (Int32.toNatClampNeg a1)) (WC_el (vlt g3)) g4 dX6_element_25 ?_
    have h := Option.some.inj h
    subst h
    exact hret _ _ _ _ _ dX6_element_26 rfl hW
  · have h := ifn c2 h
    refine lv_ldc2 (v := (-9223372036854775808)) hx hb hC.2.2.1 (hC.2.2.2.1 _ wd_786) dX6_element_9 ?_
    refine lv_goto (tgt := 26) hx hb dX6_element_12 (by decide) ?_
    have h := Option.some.inj h
    subst h
    exact hret _ _ _ _ _ dX6_element_26 rfl hW
set_option maxHeartbeats 4000000 in
set_option maxRecDepth 100000 in
theorem c_X4_hasRun {j0 : Nat} {a1 : Int32} {a2 : Int32} {d : Nat} {res : Int32} (hd : 0 ≤ d) (hj0 : j0 < 6) (h : f_X4_hasRun j0 a1 a2 S_size = some res) : zMi l yX4_hasRun cX4_hasRun 3 .boolean (zrm d) [.ref (ρ (30 + j0)), .int a1, .int a2] D q (WC q ρ T_price T_year T_joinEnds T_wallEnds T_cost T_doors T_joins T_walls T_oldWells T_apart L_tape L_text L_fed L_length L_read L_end L_at L_fault L_d L_p L_y L_j L_o P_away P_beside P_reach P_serves P_crowds P_servedLow P_servedHigh P_crowdedLow P_crowdedHigh P_there P_must P_can C_what C_number C_before C_after C_done C_kept A_kinds A_traced A_bodies A_began A_self A_kindOfSelf S_holds S_body S_sort S_size S_elements G_grown) sz res (WC q ρ T_price T_year T_joinEnds T_wallEnds T_cost T_doors T_joins T_walls T_oldWells T_apart L_tape L_text L_fed L_length L_read L_end L_at L_fault L_d L_p L_y L_j L_o P_away P_beside P_reach P_serves P_crowds P_servedLow P_servedHigh P_crowdedLow P_crowdedHigh P_there P_must P_can C_what C_number C_before C_after C_done C_kept A_kinds A_traced A_bodies A_began A_self A_kindOfSelf S_holds S_body S_sort S_size S_elements G_grown) := by
  refine zMet_i (own := RX4) _ (by decide) rfl (Nat.le_of_ble_eq_true rfl) ?_
  intro p e s m args below meth c A ls Q hC hW hl hret
  have hx := hC.1
  have hb := hC.2.1
  have hl : lv_has ls 3 [(0, .ref (ρ (30 + j0))), (1, .int a1), (2, .int a2)] := hl
  unfold f_X4_hasRun at h
  refine lv_iload_n hx hb dX4_hasRun_0 rfl (lv_at hl 2 rfl) ?_
  refine lv_if_lt (tgt := 30) hx hb dX4_hasRun_1 (by decide) (fun c1 => ?_) (fun c1 => ?_)
  · have h := ifp c1 h
    refine lv_iconst (v := 0) hx hb dX4_hasRun_30 (by decide) ?_
    have h := Option.some.inj h
    subst h
    exact hret _ _ _ _ _ dX4_hasRun_31 rfl rfl hW
  · have h := ifn c1 h
    refine lv_iload_n hx hb dX4_hasRun_4 rfl (lv_at hl 1 rfl) ?_
    refine lv_if_lt (tgt := 30) hx hb dX4_hasRun_5 (by decide) (fun c2 => ?_) (fun c2 => ?_)
    · have h := ifp c2 h
      refine lv_iconst (v := 0) hx hb dX4_hasRun_30 (by decide) ?_
      have h := Option.some.inj h
      subst h
      exact hret _ _ _ _ _ dX4_hasRun_31 rfl rfl hW
    · have h := ifn c2 h
      refine lv_iload_n hx hb dX4_hasRun_8 rfl (lv_at hl 2 rfl) ?_
      refine lv_aload_n hx hb dX4_hasRun_9 rfl (lv_at hl 0 rfl) ?_
      refine z_get hC hW fg_X4_22 (30 + j0) (WC_sh hj0) rfl dX4_hasRun_10 ?_
      refine lv_icmp_gt (tgt := 30) hx hb dX4_hasRun_13 (by decide) (fun c3 => ?_) (fun c3 => ?_)
      · have h := ifp c3 h
        refine lv_iconst (v := 0) hx hb dX4_hasRun_30 (by decide) ?_
        have h := Option.some.inj h
        subst h
        exact hret _ _ _ _ _ dX4_hasRun_31 rfl rfl hW
      · have h := ifn c3 h
        refine lv_iload_n hx hb dX4_hasRun_16 rfl (lv_at hl 1 rfl) ?_
        refine lv_aload_n hx hb dX4_hasRun_17 rfl (lv_at hl 0 rfl) ?_
        refine z_get hC hW fg_X4_22 (30 + j0) (WC_sh hj0) rfl dX4_hasRun_18 ?_
        refine lv_iload_n hx hb dX4_hasRun_21 rfl (lv_at hl 2 rfl) ?_
        refine lv_isub hx hb dX4_hasRun_22 ?_
        refine lv_icmp_gt (tgt := 30) hx hb dX4_hasRun_23 (by decide) (fun c4 => ?_) (fun c4 => ?_)
        · have h := ifp c4 h
          refine lv_iconst (v := 0) hx hb dX4_hasRun_30 (by decide) ?_
          have h := Option.some.inj h
          subst h
          exact hret _ _ _ _ _ dX4_hasRun_31 rfl rfl hW
        · have h := ifn c4 h
          refine lv_iconst (v := 1) hx hb dX4_hasRun_26 (by decide) ?_
          refine lv_goto (tgt := 31) hx hb dX4_hasRun_27 (by decide) ?_
          have h := Option.some.inj h
          subst h
          exact hret _ _ _ _ _ dX4_hasRun_31 rfl rfl hW
set_option maxHeartbeats 4000000 in
set_option maxRecDepth 100000 in
theorem c_X6_shift {a1 : Int32} {a2 : Int32} {a3 : Int32} {a4 : Int32} {a5 : Int32} {d : Nat} {res : Int32 × (Nat → Nat → Int64)} (hd : 1 ≤ d) (h : f_X6_shift a1 a2 a3 a4 a5 S_holds S_sort S_size S_elements = some res) : zMi l yX6_shift cX6_shift 8 .int (zrm d) [.ref (ρ 0), .int a1, .int a2, .int a3, .int a4, .int a5] D q (WC q ρ T_price T_year T_joinEnds T_wallEnds T_cost T_doors T_joins T_walls T_oldWells T_apart L_tape L_text L_fed L_length L_read L_end L_at L_fault L_d L_p L_y L_j L_o P_away P_beside P_reach P_serves P_crowds P_servedLow P_servedHigh P_crowdedLow P_crowdedHigh P_there P_must P_can C_what C_number C_before C_after C_done C_kept A_kinds A_traced A_bodies A_began A_self A_kindOfSelf S_holds S_body S_sort S_size S_elements G_grown) sz res.1 (WC q ρ T_price T_year T_joinEnds T_wallEnds T_cost T_doors T_joins T_walls T_oldWells T_apart L_tape L_text L_fed L_length L_read L_end L_at L_fault L_d L_p L_y L_j L_o P_away P_beside P_reach P_serves P_crowds P_servedLow P_servedHigh P_crowdedLow P_crowdedHigh P_there P_must P_can C_what C_number C_before C_after C_done C_kept A_kinds A_traced A_bodies A_began A_self A_kindOfSelf S_holds S_body S_sort S_size res.2 G_grown) := by
  refine zMet_i (own := RX6) _ (by decide) rfl (Nat.le_of_ble_eq_true rfl) ?_
  intro p e s m args below meth c A ls Q hC hW hl hret
  have hx := hC.1
  have hb := hC.2.1
  have hl : lv_has ls 8 [(0, .ref (ρ 0)), (1, .int a1), (2, .int a2), (3, .int a3), (4, .int a4), (5, .int a5)] := hl
  unfold f_X6_shift at h
  refine lv_iload_n hx hb dX6_shift_0 rfl (lv_at hl 1 rfl) ?_
  obtain ⟨u1, eu1, h⟩ := bd_some h
  refine z_callS_i hC hW (rest := []) (c_X6_isShelf (d := 0) (Nat.le_refl _) eu1) sw_X6_77 ⟨rfl, rfl⟩ (zrm_ok (by omega) (by decide)) rfl rfl hl.1 (Nat.le_of_ble_eq_true rfl) dX6_shift_1 (fun H locs hW => ?_)
  refine lv_if_eq (tgt := 14) hx hb dX6_shift_4 (by decide) (fun c2 => ?_) (fun c2 => ?_)
  · have h := ifp c2 h
    refine lv_iconst (v := (-1)) hx hb dX6_shift_14 (by decide) ?_
    have h := Option.some.inj h
    subst h
    exact hret _ _ _ _ _ dX6_shift_15 rfl rfl hW
  · have h := ifn c2 h
    refine lv_iload_n hx hb dX6_shift_7 rfl (lv_at hl 3 rfl) ?_
    obtain ⟨u3, eu3, h⟩ := bd_some h
    refine z_callS_i hC hW (rest := []) (c_X6_isShelf (d := 0) (Nat.le_refl _) eu3) sw_X6_77 ⟨rfl, rfl⟩ (zrm_ok (by omega) (by decide)) rfl rfl hl.1 (Nat.le_of_ble_eq_true rfl) dX6_shift_8 (fun H locs hW => ?_)
    refine lv_if_ne (tgt := 16) hx hb dX6_shift_11 (by decide) (fun c4 => ?_) (fun c4 => ?_)
    · have h := ifn c4 h
      refine lv_aload_n hx hb dX6_shift_16 rfl (lv_at hl 0 rfl) ?_
      refine z_get hC hW fg_X6_46 0 WC_0 rfl dX6_shift_17 ?_
      refine lv_iload_n hx hb dX6_shift_20 rfl (lv_at hl 1 rfl) ?_
      obtain ⟨g5, h⟩ := ix_some h
      refine z_aald hC hW 6 WC_6 g5 dX6_shift_21 ?_
      refine lv_astore (lv' := [(6, .ref (ρ (30 + (Int32.toNatClampNeg a1)))), (0, .ref (ρ 0)), (1, .int a1), (2, .int a2), (3, .int a3), (4, .int a4), (5, .int a5)]) hx hb dX6_shift_22 hl (by decide) rfl (fun ls hl => ?_)
      refine lv_aload_n hx hb dX6_shift_24 rfl (lv_at hl 1 rfl) ?_
      refine z_get hC hW fg_X6_46 0 WC_0 rfl dX6_shift_25 ?_
      refine lv_iload_n hx hb dX6_shift_28 rfl (lv_at hl 4 rfl) ?_
      obtain ⟨g6, h⟩ := ix_some h
      refine z_aald hC hW 6 WC_6 g6 dX6_shift_29 ?_
      refine lv_astore (lv' := [(7, .ref (ρ (30 + (Int32.toNatClampNeg a3)))), (6, .ref (ρ (30 + (Int32.toNatClampNeg a1)))), (0, .ref (ρ 0)), (1, .int a1), (2, .int a2), (3, .int a3), (4, .int a4), (5, .int a5)]) hx hb dX6_shift_30 hl (by decide) rfl (fun ls hl => ?_)
      refine lv_aload hx hb dX6_shift_32 (lv_at hl 1 rfl) ?_
      refine z_get hC hW fg_X6_81 (30 + (Int32.toNatClampNeg a1)) (WC_sh (vlt g5)) rfl dX6_shift_34 ?_
      refine lv_if_eq (tgt := 48) hx hb dX6_shift_37 (by decide) (fun c7 => ?_) (fun c7 => ?_)
      · have h := ifp c7 h
        refine lv_bipush (v := (-11)) hx hb dX6_shift_48 (by decide) ?_
        have h := Option.some.inj h
        subst h
        exact hret _ _ _ _ _ dX6_shift_50 rfl rfl hW
      · have h := ifn c7 h
        refine lv_aload hx hb dX6_shift_40 (lv_at hl 0 rfl) ?_
        refine z_get hC hW fg_X6_81 (30 + (Int32.toNatClampNeg a3)) (WC_sh (vlt g6)) rfl dX6_shift_42 ?_
        refine lv_if_ne (tgt := 51) hx hb dX6_shift_45 (by decide) (fun c8 => ?_) (fun c8 => ?_)
        · have h := ifn c8 h
          refine lv_aload hx hb dX6_shift_51 (lv_at hl 1 rfl) ?_
          refine z_get hC hW fg_X6_81 (30 + (Int32.toNatClampNeg a1)) (WC_sh (vlt g5)) rfl dX6_shift_53 ?_
          refine lv_iconst (v := 2) hx hb dX6_shift_56 (by decide) ?_
          refine lv_icmp_ne (tgt := 73) hx hb dX6_shift_57 (by decide) (fun c9 => ?_) (fun c9 => ?_)
          · have h := ifn c9 h
            refine lv_bipush (v := (-12)) hx hb dX6_shift_73 (by decide) ?_
            have h := Option.some.inj h
            subst h
            exact hret _ _ _ _ _ dX6_shift_75 rfl rfl hW
          · have h := ifp c9 h
            refine lv_aload hx hb dX6_shift_60 (lv_at hl 0 rfl) ?_
            refine lv_aload hx hb dX6_shift_62 (lv_at hl 1 rfl) ?_
            refine z_get hC hW fg_X6_278 (30 + (Int32.toNatClampNeg a1)) (WC_sh (vlt g5)) rfl dX6_shift_64 ?_
            obtain ⟨u10, eu10, h⟩ := bd_some h
            refine z_callV_i hC hW (q0 := 30 + (Int32.toNatClampNeg a3)) (rest := []) (c_X4_isRowOf (d := 0) (Nat.le_refl _) (vlt g6) eu10) vw_X6_84 (WC_sh (vlt g6)) rfl ⟨rfl, rfl⟩ (zrm_ok (by omega) (by decide)) rfl rfl hl.1 (Nat.le_of_ble_eq_true rfl) dX6_shift_67 (fun H locs hW => ?_)
            refine lv_if_ne (tgt := 76) hx hb dX6_shift_70 (by decide) (fun c11 => ?_) (fun c11 => ?_)
            · have h := ifn c11 h
              refine lv_aload hx hb dX6_shift_76 (lv_at hl 1 rfl) ?_
              refine lv_iload_n hx hb dX6_shift_78 rfl (lv_at hl 4 rfl) ?_
              refine lv_iload hx hb dX6_shift_79 (lv_at hl 7 rfl) ?_
              obtain ⟨u12, eu12, h⟩ := bd_some h
              refine z_callV_i hC hW (q0 := 30 + (Int32.toNatClampNeg a1)) (rest := []) (c_X4_hasRun (d := 0) (Nat.le_refl _) (vlt g5) eu12) vw_X6_281 (WC_sh (vlt g5)) rfl ⟨rfl, rfl⟩ (zrm_ok (by omega) (by decide)) rfl rfl hl.1 (Nat.le_of_ble_eq_true rfl) dX6_shift_81 (fun H locs hW => ?_)
              refine lv_if_eq (tgt := 99) hx hb dX6_shift_84 (by decide) (fun c13 => ?_) (fun c13 => ?_)
              · have h := ifp c13 h
                refine lv_bipush (v := (-13)) hx hb dX6_shift_99 (by decide) ?_
                have h := Option.some.inj h
                subst h
                exact hret _ _ _ _ _ dX6_shift_101 rfl rfl hW
              · have h := ifn c13 h
                refine lv_aload hx hb dX6_shift_87 (lv_at hl 0 rfl) ?_
                refine lv_iload hx hb dX6_shift_89 (lv_at hl 6 rfl) ?_
                refine lv_iload hx hb dX6_shift_91 (lv_at hl 7 rfl) ?_
                obtain ⟨u14, eu14, h⟩ := bd_some h
                refine z_callV_i hC hW (q0 := 30 + (Int32.toNatClampNeg a3)) (rest := []) (c_X4_hasRun (d := 0) (Nat.le_refl _) (vlt g6) eu14) vw_X6_281 (WC_sh (vlt g6)) rfl ⟨rfl, rfl⟩ (zrm_ok (by omega) (by decide)) rfl rfl hl.1 (Nat.le_of_ble_eq_true rfl) dX6_shift_93 (fun H locs hW => ?_)
                refine lv_if_ne (tgt := 102) hx hb dX6_shift_96 (by decide) (fun c15 => ?_) (fun c15 => ?_)
                · have h := ifn c15 h
                  refine lv_aload hx hb dX6_shift_102 (lv_at hl 1 rfl) ?_
                  refine z_get hC hW fg_X6_266 (30 + (Int32.toNatClampNeg a1)) (WC_sh (vlt g5)) rfl dX6_shift_104 ?_
                  refine lv_iload_n hx hb dX6_shift_107 rfl (lv_at hl 4 rfl) ?_
                  refine lv_aload hx hb dX6_shift_108 (lv_at hl 0 rfl) ?_
                  refine z_get hC hW fg_X6_266 (30 + (Int32.toNatClampNeg a3)) (WC_sh (vlt g6)) rfl dX6_shift_110 ?_
                  refine lv_iload hx hb dX6_shift_113 (lv_at hl 6 rfl) ?_
                  refine lv_iload hx hb dX6_shift_115 (lv_at hl 7 rfl) ?_
                  obtain ⟨⟨g16, g16f⟩, h⟩ := cpg_some h
                  refine z_copyl hC hW 2 ac_X6_284 (36 + (Int32.toNatClampNeg a1)) (36 + (Int32.toNatClampNeg a3)) (WC_el (vlt g5)) (WC_el (vlt g6)) rfl rfl g16 (fun _ _ => rfl) hl.1 (zrm_f (by omega)) (zrm_lo (by omega) (by decide)) (WCs_S_elements (vlt g6)) dX6_shift_117 (fun H locs hW => ?_)
                  refine lv_iload hx hb dX6_shift_120 (lv_at hl 7 rfl) ?_
                  have h := Option.some.inj h
                  subst h
                  exact hret _ _ _ _ _ dX6_shift_122 rfl rfl hW
                · have h := ifp c15 h
                  refine lv_bipush (v := (-13)) hx hb dX6_shift_99 (by decide) ?_
                  have h := Option.some.inj h
                  subst h
                  exact hret _ _ _ _ _ dX6_shift_101 rfl rfl hW
            · have h := ifp c11 h
              refine lv_bipush (v := (-12)) hx hb dX6_shift_73 (by decide) ?_
              have h := Option.some.inj h
              subst h
              exact hret _ _ _ _ _ dX6_shift_75 rfl rfl hW
        · have h := ifp c8 h
          refine lv_bipush (v := (-11)) hx hb dX6_shift_48 (by decide) ?_
          have h := Option.some.inj h
          subst h
          exact hret _ _ _ _ _ dX6_shift_50 rfl rfl hW
    · have h := ifp c4 h
      refine lv_iconst (v := (-1)) hx hb dX6_shift_14 (by decide) ?_
      have h := Option.some.inj h
      subst h
      exact hret _ _ _ _ _ dX6_shift_15 rfl rfl hW
set_option maxHeartbeats 4000000 in
set_option maxRecDepth 100000 in
theorem c_X0_isUnder {a0 : Int32} {a1 : Int32} {d : Nat} {res : Int32} (hd : 0 ≤ d) (h : f_X0_isUnder a0 a1 = some res) : zMi l yX0_isUnder cX0_isUnder 4 .boolean (zrm d) [.int a0, .int a1] D q (WC q ρ T_price T_year T_joinEnds T_wallEnds T_cost T_doors T_joins T_walls T_oldWells T_apart L_tape L_text L_fed L_length L_read L_end L_at L_fault L_d L_p L_y L_j L_o P_away P_beside P_reach P_serves P_crowds P_servedLow P_servedHigh P_crowdedLow P_crowdedHigh P_there P_must P_can C_what C_number C_before C_after C_done C_kept A_kinds A_traced A_bodies A_began A_self A_kindOfSelf S_holds S_body S_sort S_size S_elements G_grown) sz res (WC q ρ T_price T_year T_joinEnds T_wallEnds T_cost T_doors T_joins T_walls T_oldWells T_apart L_tape L_text L_fed L_length L_read L_end L_at L_fault L_d L_p L_y L_j L_o P_away P_beside P_reach P_serves P_crowds P_servedLow P_servedHigh P_crowdedLow P_crowdedHigh P_there P_must P_can C_what C_number C_before C_after C_done C_kept A_kinds A_traced A_bodies A_began A_self A_kindOfSelf S_holds S_body S_sort S_size S_elements G_grown) := by
  refine zMet_i (own := RX0) _ (by decide) rfl (Nat.le_of_ble_eq_true rfl) ?_
  intro p e s m args below meth c A ls Q hC hW hl hret
  have hx := hC.1
  have hb := hC.2.1
  have hl : lv_has ls 4 [(0, .int a0), (1, .int a1)] := hl
  have b31 : ∀ {x1 : Int32} {x2 : Int32} {H : Heap} {locs : List Loc} {ls : Array Slot}, f_X0_isUnder_b31 x1 x2 = some res → zW D A s.heap (WC q ρ T_price T_year T_joinEnds T_wallEnds T_cost T_doors T_joins T_walls T_oldWells T_apart L_tape L_text L_fed L_length L_read L_end L_at L_fault L_d L_p L_y L_j L_o P_away P_beside P_reach P_serves P_crowds P_servedLow P_servedHigh P_crowdedLow P_crowdedHigh P_there P_must P_can C_what C_number C_before C_after C_done C_kept A_kinds A_traced A_bodies A_began A_self A_kindOfSelf S_holds S_body S_sort S_size S_elements G_grown) H locs → lv_has ls 4 [(1, .int x1), (2, .int x2)] → W p l e (zrm d) s m args below meth c H locs 0 0 Q (F0 m 31 ls []) := by
    intro x1 x2 H locs ls h hW hl
    unfold f_X0_isUnder_b31 at h
    refine lv_iload_n hx hb dX0_isUnder_31 rfl (lv_at hl 1 rfl) ?_
    refine lv_iload_n hx hb dX0_isUnder_32 rfl (lv_at hl 0 rfl) ?_
    refine lv_icmp_ne (tgt := 40) hx hb dX0_isUnder_33 (by decide) (fun c2 => ?_) (fun c2 => ?_)
    · have h := ifn c2 h
      refine lv_iconst (v := 0) hx hb dX0_isUnder_40 (by decide) ?_
      have h := Option.some.inj h
      subst h
      exact hret _ _ _ _ _ dX0_isUnder_41 rfl rfl hW
    · have h := ifp c2 h
      refine lv_iconst (v := 1) hx hb dX0_isUnder_36 (by decide) ?_
      refine lv_goto (tgt := 41) hx hb dX0_isUnder_37 (by decide) ?_
      have h := Option.some.inj h
      subst h
      exact hret _ _ _ _ _ dX0_isUnder_41 rfl rfl hW
  have b4 : ∀ {x1 : Int32} {n : Nat} {x2 : Int32} {x3 : Int32} {H : Heap} {locs : List Loc} {ls : Array Slot}, f_X0_isUnder_b4 x1 n x2 x3 = some res → zW D A s.heap (WC q ρ T_price T_year T_joinEnds T_wallEnds T_cost T_doors T_joins T_walls T_oldWells T_apart L_tape L_text L_fed L_length L_read L_end L_at L_fault L_d L_p L_y L_j L_o P_away P_beside P_reach P_serves P_crowds P_servedLow P_servedHigh P_crowdedLow P_crowdedHigh P_there P_must P_can C_what C_number C_before C_after C_done C_kept A_kinds A_traced A_bodies A_began A_self A_kindOfSelf S_holds S_body S_sort S_size S_elements G_grown) H locs → lv_has ls 4 [(1, .int x1), (2, .int x2), (3, .int x3)] → W p l e (zrm d) s m args below meth c H locs 0 0 Q (F0 m 4 ls []) := by
    intro x1
    intro n
    induction n with
    | zero =>
      intro x2 x3 H locs ls h
      rw [f_X0_isUnder_b4] at h
      cases h
    | succ n ih =>
      intro x2 x3 H locs ls h hW hl
      rw [f_X0_isUnder_b4] at h
      refine lv_iload_n hx hb dX0_isUnder_4 rfl (lv_at hl 2 rfl) ?_
      refine lv_bipush (v := 8) hx hb dX0_isUnder_5 (by decide) ?_
      refine lv_icmp_ge (tgt := 31) hx hb dX0_isUnder_7 (by decide) (fun c1 => ?_) (fun c1 => ?_)
      · have h := ifp c1 h
        exact b31 h hW (lv_sub hl [0, 1] rfl)
      · have h := ifn c1 h
        refine lv_iload_n hx hb dX0_isUnder_10 rfl (lv_at hl 1 rfl) ?_
        refine lv_if_lt (tgt := 31) hx hb dX0_isUnder_11 (by decide) (fun c3 => ?_) (fun c3 => ?_)
        · have h := ifp c3 h
          exact b31 h hW (lv_sub hl [0, 1] rfl)
        · have h := ifn c3 h
          refine lv_iload_n hx hb dX0_isUnder_14 rfl (lv_at hl 1 rfl) ?_
          refine lv_iload_n hx hb dX0_isUnder_15 rfl (lv_at hl 0 rfl) ?_
          refine lv_icmp_eq (tgt := 31) hx hb dX0_isUnder_16 (by decide) (fun c4 => ?_) (fun c4 => ?_)
          · have h := ifp c4 h
            exact b31 h hW (lv_sub hl [0, 1] rfl)
          · have h := ifn c4 h
            refine z_stat_ABOVE hC hW wd_748 dX0_isUnder_19 (fun t5 hTt5 => ?_)
            refine lv_iload_n hx hb dX0_isUnder_22 rfl (lv_at hl 1 rfl) ?_
            obtain ⟨g6, h⟩ := ix_some h
            refine z_stld hC hW hTt5 g6 dX0_isUnder_23 ?_
            refine lv_istore_n (lv' := [(2, .int (zABOVE (Int32.toNatClampNeg x2))), (1, .int x1), (3, .int x3)]) hx hb dX0_isUnder_24 rfl hl (by decide) rfl (fun ls hl => ?_)
            refine lv_iinc (v := (x3 + 1)) (lv' := [(3, .int (x3 + 1)), (2, .int (zABOVE (Int32.toNatClampNeg x2))), (1, .int x1)]) hx hb dX0_isUnder_25 hl (k := 2) rfl rfl (by decide) rfl (fun ls hl => ?_)
            refine lv_goto (tgt := 4) hx hb dX0_isUnder_28 (by decide) ?_
            exact ih h hW (lv_sub hl [2, 1, 0] rfl)
  unfold f_X0_isUnder at h
  refine lv_iload_n hx hb dX0_isUnder_0 rfl (lv_at hl 0 rfl) ?_
  refine lv_istore_n (lv' := [(2, .int a0), (0, .int a0), (1, .int a1)]) hx hb dX0_isUnder_1 rfl hl (by decide) rfl (fun ls hl => ?_)
  refine lv_iconst (v := 0) hx hb dX0_isUnder_2 (by decide) ?_
  refine lv_istore_n (lv' := [(3, .int 0), (2, .int a0), (0, .int a0), (1, .int a1)]) hx hb dX0_isUnder_3 rfl hl (by decide) rfl (fun ls hl => ?_)
  exact b4 h hW (lv_sub hl [3, 1, 0] rfl)
set_option maxHeartbeats 4000000 in
set_option maxRecDepth 100000 in
theorem c_X6_taken {a1 : Int32} {a2 : Int32} {d : Nat} {res : Int32} (hd : 1 ≤ d) (h : f_X6_taken a1 a2 A_kinds A_bodies S_holds S_body = some res) : zMi l yX6_taken cX6_taken 5 .int (zrm d) [.ref (ρ 0), .int a1, .int a2] D q (WC q ρ T_price T_year T_joinEnds T_wallEnds T_cost T_doors T_joins T_walls T_oldWells T_apart L_tape L_text L_fed L_length L_read L_end L_at L_fault L_d L_p L_y L_j L_o P_away P_beside P_reach P_serves P_crowds P_servedLow P_servedHigh P_crowdedLow P_crowdedHigh P_there P_must P_can C_what C_number C_before C_after C_done C_kept A_kinds A_traced A_bodies A_began A_self A_kindOfSelf S_holds S_body S_sort S_size S_elements G_grown) sz res (WC q ρ T_price T_year T_joinEnds T_wallEnds T_cost T_doors T_joins T_walls T_oldWells T_apart L_tape L_text L_fed L_length L_read L_end L_at L_fault L_d L_p L_y L_j L_o P_away P_beside P_reach P_serves P_crowds P_servedLow P_servedHigh P_crowdedLow P_crowdedHigh P_there P_must P_can C_what C_number C_before C_after C_done C_kept A_kinds A_traced A_bodies A_began A_self A_kindOfSelf S_holds S_body S_sort S_size S_elements G_grown) := by
  refine zMet_i (own := RX6) _ (by decide) rfl (Nat.le_of_ble_eq_true rfl) ?_
  intro p e s m args below meth c A ls Q hC hW hl hret
  have hx := hC.1
  have hb := hC.2.1
  have hl : lv_has ls 5 [(0, .ref (ρ 0)), (1, .int a1), (2, .int a2)] := hl
  unfold f_X6_taken at h
  refine lv_iload_n hx hb dX6_taken_0 rfl (lv_at hl 1 rfl) ?_
  obtain ⟨u1, eu1, h⟩ := bd_some h
  refine z_callS_i hC hW (rest := []) (c_X6_isShelf (d := 0) (Nat.le_refl _) eu1) sw_X6_77 ⟨rfl, rfl⟩ (zrm_ok (by omega) (by decide)) rfl rfl hl.1 (Nat.le_of_ble_eq_true rfl) dX6_taken_1 (fun H locs hW => ?_)
  refine lv_if_eq (tgt := 14) hx hb dX6_taken_4 (by decide) (fun c2 => ?_) (fun c2 => ?_)
  · have h := ifp c2 h
    refine lv_iconst (v := (-1)) hx hb dX6_taken_14 (by decide) ?_
    have h := Option.some.inj h
    subst h
    exact hret _ _ _ _ _ dX6_taken_15 rfl rfl hW
  · have h := ifn c2 h
    refine lv_iload_n hx hb dX6_taken_7 rfl (lv_at hl 2 rfl) ?_
    obtain ⟨u3, eu3, h⟩ := bd_some h
    refine z_callS_i hC hW (rest := []) (c_X6_isKind (d := 0) (Nat.le_refl _) eu3) sw_X6_238 ⟨rfl, rfl⟩ (zrm_ok (by omega) (by decide)) rfl rfl hl.1 (Nat.le_of_ble_eq_true rfl) dX6_taken_8 (fun H locs hW => ?_)
    refine lv_if_ne (tgt := 16) hx hb dX6_taken_11 (by decide) (fun c4 => ?_) (fun c4 => ?_)
    · have h := ifn c4 h
      refine lv_aload_n hx hb dX6_taken_16 rfl (lv_at hl 0 rfl) ?_
      refine z_get hC hW fg_X6_46 0 WC_0 rfl dX6_taken_17 ?_
      refine lv_iload_n hx hb dX6_taken_20 rfl (lv_at hl 1 rfl) ?_
      obtain ⟨g5, h⟩ := ix_some h
      refine z_aald hC hW 6 WC_6 g5 dX6_taken_21 ?_
      refine lv_astore_n (lv' := [(3, .ref (ρ (30 + (Int32.toNatClampNeg a1)))), (0, .ref (ρ 0)), (1, .int a1), (2, .int a2)]) hx hb dX6_taken_22 rfl hl (by decide) rfl (fun ls hl => ?_)
      refine lv_aload_n hx hb dX6_taken_23 rfl (lv_at hl 0 rfl) ?_
      refine z_get hC hW fg_X6_81 (30 + (Int32.toNatClampNeg a1)) (WC_sh (vlt g5)) rfl dX6_taken_24 ?_
      refine lv_if_ne (tgt := 33) hx hb dX6_taken_27 (by decide) (fun c6 => ?_) (fun c6 => ?_)
      · have h := ifn c6 h
        refine lv_aload_n hx hb dX6_taken_33 rfl (lv_at hl 0 rfl) ?_
        refine z_get hC hW fg_X6_81 (30 + (Int32.toNatClampNeg a1)) (WC_sh (vlt g5)) rfl dX6_taken_34 ?_
        refine lv_iconst (v := 1) hx hb dX6_taken_37 (by decide) ?_
        refine lv_icmp_ne (tgt := 62) hx hb dX6_taken_38 (by decide) (fun c7 => ?_) (fun c7 => ?_)
        · have h := ifn c7 h
          refine lv_bipush (v := (-12)) hx hb dX6_taken_62 (by decide) ?_
          have h := Option.some.inj h
          subst h
          exact hret _ _ _ _ _ dX6_taken_64 rfl rfl hW
        · have h := ifp c7 h
          refine lv_aload_n hx hb dX6_taken_41 rfl (lv_at hl 0 rfl) ?_
          refine z_get hC hW fg_X6_256 (30 + (Int32.toNatClampNeg a1)) (WC_sh (vlt g5)) rfl dX6_taken_42 ?_
          refine lv_if_lt (tgt := 62) hx hb dX6_taken_45 (by decide) (fun c8 => ?_) (fun c8 => ?_)
          · have h := ifp c8 h
            refine lv_bipush (v := (-12)) hx hb dX6_taken_62 (by decide) ?_
            have h := Option.some.inj h
            subst h
            exact hret _ _ _ _ _ dX6_taken_64 rfl rfl hW
          · have h := ifn c8 h
            refine lv_aload_n hx hb dX6_taken_48 rfl (lv_at hl 0 rfl) ?_
            refine z_get hC hW fg_X6_256 (30 + (Int32.toNatClampNeg a1)) (WC_sh (vlt g5)) rfl dX6_taken_49 ?_
            refine lv_aload_n hx hb dX6_taken_52 rfl (lv_at hl 1 rfl) ?_
            refine z_get hC hW fg_X6_40 0 WC_0 rfl dX6_taken_53 ?_
            refine z_get hC hW fg_X6_241 5 WC_5 rfl dX6_taken_56 ?_
            refine lv_icmp_lt (tgt := 65) hx hb dX6_taken_59 (by decide) (fun c9 => ?_) (fun c9 => ?_)
            · have h := ifp c9 h
              refine lv_aload_n hx hb dX6_taken_65 rfl (lv_at hl 1 rfl) ?_
              refine z_get hC hW fg_X6_40 0 WC_0 rfl dX6_taken_66 ?_
              refine z_get hC hW fg_X6_290 5 WC_5 rfl dX6_taken_69 ?_
              refine lv_aload_n hx hb dX6_taken_72 rfl (lv_at hl 0 rfl) ?_
              refine z_get hC hW fg_X6_256 (30 + (Int32.toNatClampNeg a1)) (WC_sh (vlt g5)) rfl dX6_taken_73 ?_
              obtain ⟨g10, h⟩ := ix_some h
              refine z_iald hC hW 28 WC_28 g10 dX6_taken_76 ?_
              refine lv_istore (lv' := [(4, .int (A_kinds (Int32.toNatClampNeg (S_body (Int32.toNatClampNeg a1))))), (3, .ref (ρ (30 + (Int32.toNatClampNeg a1)))), (0, .ref (ρ 0)), (1, .int a1), (2, .int a2)]) hx hb dX6_taken_77 hl (by decide) rfl (fun ls hl => ?_)
              refine lv_iload hx hb dX6_taken_79 (lv_at hl 0 rfl) ?_
              refine lv_iload_n hx hb dX6_taken_81 rfl (lv_at hl 4 rfl) ?_
              obtain ⟨u11, eu11, h⟩ := bd_some h
              refine z_callS_i hC hW (rest := []) (c_X0_isUnder (d := 0) (Nat.le_refl _) eu11) sw_X6_293 ⟨rfl, rfl⟩ (zrm_ok (by omega) (by decide)) rfl rfl hl.1 (Nat.le_of_ble_eq_true rfl) dX6_taken_82 (fun H locs hW => ?_)
              refine lv_if_eq (tgt := 93) hx hb dX6_taken_85 (by decide) (fun c12 => ?_) (fun c12 => ?_)
              · have h := ifp c12 h
                refine lv_bipush (v := (-12)) hx hb dX6_taken_93 (by decide) ?_
                have h := Option.some.inj h
                subst h
                exact hret _ _ _ _ _ dX6_taken_95 rfl rfl hW
              · have h := ifn c12 h
                refine lv_iload hx hb dX6_taken_88 (lv_at hl 0 rfl) ?_
                refine lv_goto (tgt := 95) hx hb dX6_taken_90 (by decide) ?_
                have h := Option.some.inj h
                subst h
                exact hret _ _ _ _ _ dX6_taken_95 rfl rfl hW
            · have h := ifn c9 h
              refine lv_bipush (v := (-12)) hx hb dX6_taken_62 (by decide) ?_
              have h := Option.some.inj h
              subst h
              exact hret _ _ _ _ _ dX6_taken_64 rfl rfl hW
      · have h := ifp c6 h
        refine lv_bipush (v := (-11)) hx hb dX6_taken_30 (by decide) ?_
        have h := Option.some.inj h
        subst h
        exact hret _ _ _ _ _ dX6_taken_32 rfl rfl hW
    · have h := ifp c4 h
      refine lv_iconst (v := (-1)) hx hb dX6_taken_14 (by decide) ?_
      have h := Option.some.inj h
      subst h
      exact hret _ _ _ _ _ dX6_taken_15 rfl rfl hW
set_option maxHeartbeats 4000000 in
set_option maxRecDepth 100000 in
theorem c_X6_count {a1 : Int32} {d : Nat} {res : Int32} (hd : 0 ≤ d) (h : f_X6_count a1 T_doors T_joins T_walls L_fed C_done A_bodies A_began = some res) : zMi l yX6_count cX6_count 2 .int (zrm d) [.ref (ρ 0), .int a1] D q (WC q ρ T_price T_year T_joinEnds T_wallEnds T_cost T_doors T_joins T_walls T_oldWells T_apart L_tape L_text L_fed L_length L_read L_end L_at L_fault L_d L_p L_y L_j L_o P_away P_beside P_reach P_serves P_crowds P_servedLow P_servedHigh P_crowdedLow P_crowdedHigh P_there P_must P_can C_what C_number C_before C_after C_done C_kept A_kinds A_traced A_bodies A_began A_self A_kindOfSelf S_holds S_body S_sort S_size S_elements G_grown) sz res (WC q ρ T_price T_year T_joinEnds T_wallEnds T_cost T_doors T_joins T_walls T_oldWells T_apart L_tape L_text L_fed L_length L_read L_end L_at L_fault L_d L_p L_y L_j L_o P_away P_beside P_reach P_serves P_crowds P_servedLow P_servedHigh P_crowdedLow P_crowdedHigh P_there P_must P_can C_what C_number C_before C_after C_done C_kept A_kinds A_traced A_bodies A_began A_self A_kindOfSelf S_holds S_body S_sort S_size S_elements G_grown) := by
  refine zMet_i (own := RX6) _ (by decide) rfl (Nat.le_of_ble_eq_true rfl) ?_
  intro p e s m args below meth c A ls Q hC hW hl hret
  have hx := hC.1
  have hb := hC.2.1
  have hl : lv_has ls 2 [(0, .ref (ρ 0)), (1, .int a1)] := hl
  unfold f_X6_count at h
  refine lv_iload_n hx hb dX6_count_0 rfl (lv_at hl 1 rfl) ?_
  by_cases c1 : a1 = 0
  · have h := ifp c1 h
    refine z_tabIn hx hb (off := 43) (tgt := 44) 0 c1 (by decide) dX6_count_1 (by decide) ?_
    refine lv_aload_n hx hb dX6_count_44 rfl (lv_at hl 0 rfl) ?_
    refine z_get hC hW fg_X6_10 0 WC_0 rfl dX6_count_45 ?_
    refine z_get hC hW fg_X6_59 1 WC_1 rfl dX6_count_48 ?_
    have h := Option.some.inj h
    subst h
    exact hret _ _ _ _ _ dX6_count_51 rfl rfl hW
  · have h := ifn c1 h
    by_cases c2 : a1 = 1
    · have h := ifp c2 h
      refine z_tabIn hx hb (off := 51) (tgt := 52) 1 c2 (by decide) dX6_count_1 (by decide) ?_
      refine lv_aload_n hx hb dX6_count_52 rfl (lv_at hl 0 rfl) ?_
      refine z_get hC hW fg_X6_10 0 WC_0 rfl dX6_count_53 ?_
      refine z_get hC hW fg_X6_70 1 WC_1 rfl dX6_count_56 ?_
      have h := Option.some.inj h
      subst h
      exact hret _ _ _ _ _ dX6_count_59 rfl rfl hW
    · have h := ifn c2 h
      by_cases c3 : a1 = 2
      · have h := ifp c3 h
        refine z_tabIn hx hb (off := 59) (tgt := 60) 2 c3 (by decide) dX6_count_1 (by decide) ?_
        refine lv_aload_n hx hb dX6_count_60 rfl (lv_at hl 0 rfl) ?_
        refine z_get hC hW fg_X6_10 0 WC_0 rfl dX6_count_61 ?_
        refine z_get hC hW fg_X6_91 1 WC_1 rfl dX6_count_64 ?_
        have h := Option.some.inj h
        subst h
        exact hret _ _ _ _ _ dX6_count_67 rfl rfl hW
      · have h := ifn c3 h
        by_cases c4 : a1 = 3
        · have h := ifp c4 h
          refine z_tabIn hx hb (off := 67) (tgt := 68) 3 c4 (by decide) dX6_count_1 (by decide) ?_
          refine lv_aload_n hx hb dX6_count_68 rfl (lv_at hl 0 rfl) ?_
          refine z_get hC hW fg_X6_19 0 WC_0 rfl dX6_count_69 ?_
          refine z_get hC hW fg_X6_137 2 WC_2 rfl dX6_count_72 ?_
          have h := Option.some.inj h
          subst h
          exact hret _ _ _ _ _ dX6_count_75 rfl rfl hW
        · have h := ifn c4 h
          by_cases c5 : a1 = 4
          · have h := ifp c5 h
            refine z_tabIn hx hb (off := 75) (tgt := 76) 4 c5 (by decide) dX6_count_1 (by decide) ?_
            refine lv_aload_n hx hb dX6_count_76 rfl (lv_at hl 0 rfl) ?_
            refine z_get hC hW fg_X6_33 0 WC_0 rfl dX6_count_77 ?_
            refine z_get hC hW fg_X6_225 4 WC_4 rfl dX6_count_80 ?_
            have h := Option.some.inj h
            subst h
            exact hret _ _ _ _ _ dX6_count_83 rfl rfl hW
          · have h := ifn c5 h
            by_cases c6 : a1 = 5
            · have h := ifp c6 h
              refine z_tabIn hx hb (off := 83) (tgt := 84) 5 c6 (by decide) dX6_count_1 (by decide) ?_
              refine lv_aload_n hx hb dX6_count_84 rfl (lv_at hl 0 rfl) ?_
              refine z_get hC hW fg_X6_40 0 WC_0 rfl dX6_count_85 ?_
              refine z_get hC hW fg_X6_241 5 WC_5 rfl dX6_count_88 ?_
              have h := Option.some.inj h
              subst h
              exact hret _ _ _ _ _ dX6_count_91 rfl rfl hW
            · have h := ifn c6 h
              by_cases c7 : a1 = 6
              · have h := ifp c7 h
                refine z_tabIn hx hb (off := 91) (tgt := 92) 6 c7 (by decide) dX6_count_1 (by decide) ?_
                refine lv_aload_n hx hb dX6_count_92 rfl (lv_at hl 0 rfl) ?_
                refine z_get hC hW fg_X6_40 0 WC_0 rfl dX6_count_93 ?_
                refine z_get hC hW fg_X6_250 5 WC_5 rfl dX6_count_96 ?_
                have h := Option.some.inj h
                subst h
                exact hret _ _ _ _ _ dX6_count_99 rfl rfl hW
              · have h := ifn c7 h
                refine z_tabD hx hb (tgt := 100) [0, 1, 2, 3, 4, 5, 6] (List.forall_mem_cons.mpr ⟨c1, List.forall_mem_cons.mpr ⟨c2, List.forall_mem_cons.mpr ⟨c3, List.forall_mem_cons.mpr ⟨c4, List.forall_mem_cons.mpr ⟨c5, List.forall_mem_cons.mpr ⟨c6, List.forall_mem_cons.mpr ⟨c7, List.forall_mem_nil _⟩⟩⟩⟩⟩⟩⟩) (by decide) dX6_count_1 (by decide) ?_
                refine lv_iconst (v := (-1)) hx hb dX6_count_100 (by decide) ?_
                have h := Option.some.inj h
                subst h
                exact hret _ _ _ _ _ dX6_count_101 rfl rfl hW
end CT20_c18
