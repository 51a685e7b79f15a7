section CT20_c17
variable {l : Launch} {D : va_G} {q : Nat → ClassId} {ρ : Nat → Nat} {sz : Nat} {T_price : Nat → Int32} {T_year : Nat → Int32} {T_joinEnds : Nat → Int32} {T_wallEnds : Nat → Int32} {T_cost : Nat → Int32} {T_doors : Int32} {T_joins : Int32} {T_walls : Int32} {T_oldWells : Int32} {T_apart : Int32} {L_tape : Nat → Int32} {L_text : Nat → Int32} {L_fed : Int32} {L_length : Int32} {L_read : Nat} {L_end : Int32} {L_at : Int32} {L_fault : Int32} {L_d : Int32} {L_p : Int32} {L_y : Int32} {L_j : Int32} {L_o : Int32} {P_away : Nat → Nat → Int32} {P_beside : Nat → Int32} {P_reach : Nat → Int32} {P_serves : Nat → Int32} {P_crowds : Nat → Int32} {P_servedLow : Nat → Int32} {P_servedHigh : Nat → Int32} {P_crowdedLow : Nat → Int32} {P_crowdedHigh : Nat → Int32} {P_there : Int32} {P_must : Int32} {P_can : Int32} {C_what : Nat → Int32} {C_number : Nat → Int32} {C_before : Nat → Int32} {C_after : Nat → Int32} {C_done : Int32} {C_kept : Int32} {A_kinds : Nat → Int32} {A_traced : Nat → Int32} {A_bodies : Int32} {A_began : Int32} {A_self : Int32} {A_kindOfSelf : Int32} {S_holds : Nat → Int32} {S_body : Nat → Int32} {S_sort : Nat → Int32} {S_size : Nat → Int32} {S_elements : Nat → Nat → Int64} {G_grown : Nat → Int32}
set_option maxHeartbeats 4000000 in
set_option maxRecDepth 100000 in
theorem c_X0_start {a1 : Int32} {a2 : Int32} {a3 : Int32} {d : Nat} {res : Int32 × (Nat → Int32) × Int32 × Int32 × Int32} (hd : 41 ≤ d) (h : f_X0_start a1 a2 a3 A_kinds A_traced A_bodies A_began A_self A_kindOfSelf = some res) : zMi l yX0_start cX0_start 4 .int (zrm d) [.ref (ρ 5), .int a1, .int a2, .int a3] D q (WC q ρ T_price T_year T_joinEnds T_wallEnds T_cost T_doors T_joins T_walls T_oldWells T_apart L_tape L_text L_fed L_length L_read L_end L_at L_fault L_d L_p L_y L_j L_o P_away P_beside P_reach P_serves P_crowds P_servedLow P_servedHigh P_crowdedLow P_crowdedHigh P_there P_must P_can C_what C_number C_before C_after C_done C_kept A_kinds A_traced A_bodies A_began A_self A_kindOfSelf S_holds S_body S_sort S_size S_elements G_grown) sz res.1 (WC q ρ T_price T_year T_joinEnds T_wallEnds T_cost T_doors T_joins T_walls T_oldWells T_apart L_tape L_text L_fed L_length L_read L_end L_at L_fault L_d L_p L_y L_j L_o P_away P_beside P_reach P_serves P_crowds P_servedLow P_servedHigh P_crowdedLow P_crowdedHigh P_there P_must P_can C_what C_number C_before C_after C_done C_kept A_kinds res.2.1 A_bodies res.2.2.1 res.2.2.2.1 res.2.2.2.2 S_holds S_body S_sort S_size S_elements G_grown) := by
  refine zMet_i (own := RX0) _ (by decide) rfl (Nat.le_of_ble_eq_true rfl) ?_
  intro p e s m args below meth c A ls Q hC hW hl hret
  have hx := hC.1
  have hb := hC.2.1
  have hl : lv_has ls 4 [(0, .ref (ρ 5)), (1, .int a1), (2, .int a2), (3, .int a3)] := hl
  unfold f_X0_start at h
  refine lv_aload_n hx hb dX0_start_0 rfl (lv_at hl 0 rfl) ?_
  refine lv_iconst (v := 0) hx hb dX0_start_1 (by decide) ?_
  refine z_put hC hW fp_X0_22 5 WC_5 (Nat.le_of_ble_eq_true rfl) rfl rfl WCs_A_began dX0_start_2 (fun H locs hW => ?_)
  refine lv_iload_n hx hb dX0_start_5 rfl (lv_at hl 1 rfl) ?_
  refine lv_if_lt (tgt := 26) hx hb dX0_start_6 (by decide) (fun c1 => ?_) (fun c1 => ?_)
  · have h := ifp c1 h
    refine lv_iconst (v := 0) hx hb dX0_start_26 (by decide) ?_
    have h := Option.some.inj h
    subst h
    exact hret _ _ _ _ _ dX0_start_27 rfl rfl hW
  · have h := ifn c1 h
    refine lv_iload_n hx hb dX0_start_9 rfl (lv_at hl 1 rfl) ?_
    refine lv_aload_n hx hb dX0_start_10 rfl (lv_at hl 0 rfl) ?_
    refine z_get hC hW fg_X0_18 5 WC_5 rfl dX0_start_11 ?_
    refine lv_icmp_ge (tgt := 26) hx hb dX0_start_14 (by decide) (fun c2 => ?_) (fun c2 => ?_)
    · have h := ifp c2 h
      refine lv_iconst (v := 0) hx hb dX0_start_26 (by decide) ?_
      have h := Option.some.inj h
      subst h
      exact hret _ _ _ _ _ dX0_start_27 rfl rfl hW
    · have h := ifn c2 h
      refine lv_iload_n hx hb dX0_start_17 rfl (lv_at hl 2 rfl) ?_
      refine lv_if_lt (tgt := 26) hx hb dX0_start_18 (by decide) (fun c3 => ?_) (fun c3 => ?_)
      · have h := ifp c3 h
        refine lv_iconst (v := 0) hx hb dX0_start_26 (by decide) ?_
        have h := Option.some.inj h
        subst h
        exact hret _ _ _ _ _ dX0_start_27 rfl rfl hW
      · have h := ifn c3 h
        refine lv_iload_n hx hb dX0_start_21 rfl (lv_at hl 2 rfl) ?_
        refine lv_iconst (v := 4) hx hb dX0_start_22 (by decide) ?_
        refine lv_icmp_lt (tgt := 28) hx hb dX0_start_23 (by decide) (fun c4 => ?_) (fun c4 => ?_)
        · have h := ifp c4 h
          refine lv_aload_n hx hb dX0_start_28 rfl (lv_at hl 0 rfl) ?_
          refine lv_iload_n hx hb dX0_start_29 rfl (lv_at hl 1 rfl) ?_
          refine z_put hC hW fp_X0_25 5 WC_5 (Nat.le_of_ble_eq_true rfl) rfl rfl WCs_A_self dX0_start_30 (fun H locs hW => ?_)
          refine lv_aload_n hx hb dX0_start_33 rfl (lv_at hl 0 rfl) ?_
          refine lv_aload_n hx hb dX0_start_34 rfl (lv_at hl 0 rfl) ?_
          refine z_get hC hW fg_X0_9 5 WC_5 rfl dX0_start_35 ?_
          refine lv_iload_n hx hb dX0_start_38 rfl (lv_at hl 1 rfl) ?_
          obtain ⟨g5, h⟩ := ix_some h
          refine z_iald hC hW 28 WC_28 g5 dX0_start_39 ?_
          refine z_put hC hW fp_X0_28 5 WC_5 (Nat.le_of_ble_eq_true rfl) rfl rfl WCs_A_kindOfSelf dX0_start_40 (fun H locs hW => ?_)
          refine lv_aload_n hx hb dX0_start_43 rfl (lv_at hl 0 rfl) ?_
          refine lv_aload_n hx hb dX0_start_44 rfl (lv_at hl 0 rfl) ?_
          refine z_get hC hW fg_X0_28 5 WC_5 rfl dX0_start_45 ?_
          refine lv_iload_n hx hb dX0_start_48 rfl (lv_at hl 2 rfl) ?_
          refine lv_iload_n hx hb dX0_start_49 rfl (lv_at hl 3 rfl) ?_
          refine lv_iconst (v := 0) hx hb dX0_start_50 (by decide) ?_
          obtain ⟨u6, eu6, h⟩ := bd_some h
          refine z_callV_i hC hW (rest := []) (c_t_run (d := 40) (Nat.le_refl _) eu6) vw_X0_31 WC_5 rfl ⟨rfl, rfl⟩ (zrm_ok (by omega) (by decide)) rfl rfl hl.1 (Nat.le_of_ble_eq_true rfl) dX0_start_51 (fun H locs hW => ?_)
          have h := Option.some.inj h
          subst h
          exact hret _ _ _ _ _ dX0_start_54 rfl rfl hW
        · have h := ifn c4 h
          refine lv_iconst (v := 0) hx hb dX0_start_26 (by decide) ?_
          have h := Option.some.inj h
          subst h
          exact hret _ _ _ _ _ dX0_start_27 rfl rfl hW
set_option maxHeartbeats 4000000 in
set_option maxRecDepth 100000 in
theorem c_X6_act {a1 : Int32} {a2 : Int32} {a3 : Int32} {d : Nat} {res : Int32 × (Nat → Int32) × Int32 × Int32 × Int32} (hd : 42 ≤ d) (h : f_X6_act a1 a2 a3 A_kinds A_traced A_bodies A_began A_self A_kindOfSelf = some res) : zMi l yX6_act cX6_act 4 .int (zrm d) [.ref (ρ 0), .int a1, .int a2, .int a3] D q (WC q ρ T_price T_year T_joinEnds T_wallEnds T_cost T_doors T_joins T_walls T_oldWells T_apart L_tape L_text L_fed L_length L_read L_end L_at L_fault L_d L_p L_y L_j L_o P_away P_beside P_reach P_serves P_crowds P_servedLow P_servedHigh P_crowdedLow P_crowdedHigh P_there P_must P_can C_what C_number C_before C_after C_done C_kept A_kinds A_traced A_bodies A_began A_self A_kindOfSelf S_holds S_body S_sort S_size S_elements G_grown) sz res.1 (WC q ρ T_price T_year T_joinEnds T_wallEnds T_cost T_doors T_joins T_walls T_oldWells T_apart L_tape L_text L_fed L_length L_read L_end L_at L_fault L_d L_p L_y L_j L_o P_away P_beside P_reach P_serves P_crowds P_servedLow P_servedHigh P_crowdedLow P_crowdedHigh P_there P_must P_can C_what C_number C_before C_after C_done C_kept A_kinds res.2.1 A_bodies res.2.2.1 res.2.2.2.1 res.2.2.2.2 S_holds S_body S_sort S_size S_elements G_grown) := by
  refine zMet_i (own := RX6) _ (by decide) rfl (Nat.le_of_ble_eq_true rfl) ?_
  intro p e s m args below meth c A ls Q hC hW hl hret
  have hx := hC.1
  have hb := hC.2.1
  have hl : lv_has ls 4 [(0, .ref (ρ 0)), (1, .int a1), (2, .int a2), (3, .int a3)] := hl
  unfold f_X6_act at h
  refine lv_aload_n hx hb dX6_act_0 rfl (lv_at hl 0 rfl) ?_
  refine z_get hC hW fg_X6_40 0 WC_0 rfl dX6_act_1 ?_
  refine lv_iload_n hx hb dX6_act_4 rfl (lv_at hl 1 rfl) ?_
  refine lv_iload_n hx hb dX6_act_5 rfl (lv_at hl 2 rfl) ?_
  refine lv_iload_n hx hb dX6_act_6 rfl (lv_at hl 3 rfl) ?_
  obtain ⟨u1, eu1, h⟩ := bd_some h
  refine z_callV_i hC hW (rest := []) (c_X0_start (d := 41) (Nat.le_refl _) eu1) vw_X6_247 WC_5 rfl ⟨rfl, rfl⟩ (zrm_ok (by omega) (by decide)) rfl rfl hl.1 (Nat.le_of_ble_eq_true rfl) dX6_act_7 (fun H locs hW => ?_)
  have h := Option.some.inj h
  subst h
  exact hret _ _ _ _ _ dX6_act_10 rfl rfl hW
set_option maxHeartbeats 4000000 in
set_option maxRecDepth 100000 in
theorem c_X6_trace {a1 : Int32} {d : Nat} {res : Int32} (hd : 0 ≤ d) (h : f_X6_trace a1 A_traced A_began = some res) : zMi l yX6_trace cX6_trace 2 .int (zrm d) [.ref (ρ 0), .int a1] D q (WC q ρ T_price T_year T_joinEnds T_wallEnds T_cost T_doors T_joins T_walls T_oldWells T_apart L_tape L_text L_fed L_length L_read L_end L_at L_fault L_d L_p L_y L_j L_o P_away P_beside P_reach P_serves P_crowds P_servedLow P_servedHigh P_crowdedLow P_crowdedHigh P_there P_must P_can C_what C_number C_before C_after C_done C_kept A_kinds A_traced A_bodies A_began A_self A_kindOfSelf S_holds S_body S_sort S_size S_elements G_grown) sz res (WC q ρ T_price T_year T_joinEnds T_wallEnds T_cost T_doors T_joins T_walls T_oldWells T_apart L_tape L_text L_fed L_length L_read L_end L_at L_fault L_d L_p L_y L_j L_o P_away P_beside P_reach P_serves P_crowds P_servedLow P_servedHigh P_crowdedLow P_crowdedHigh P_there P_must P_can C_what C_number C_before C_after C_done C_kept A_kinds A_traced A_bodies A_began A_self A_kindOfSelf S_holds S_body S_sort S_size S_elements G_grown) := by
  refine zMet_i (own := RX6) _ (by decide) rfl (Nat.le_of_ble_eq_true rfl) ?_
  intro p e s m args below meth c A ls Q hC hW hl hret
  have hx := hC.1
  have hb := hC.2.1
  have hl : lv_has ls 2 [(0, .ref (ρ 0)), (1, .int a1)] := hl
  unfold f_X6_trace at h
  refine lv_iload_n hx hb dX6_trace_0 rfl (lv_at hl 1 rfl) ?_
  refine lv_if_lt (tgt := 33) hx hb dX6_trace_1 (by decide) (fun c1 => ?_) (fun c1 => ?_)
  · have h := ifp c1 h
    refine lv_iconst (v := (-1)) hx hb dX6_trace_33 (by decide) ?_
    have h := Option.some.inj h
    subst h
    exact hret _ _ _ _ _ dX6_trace_34 rfl rfl hW
  · have h := ifn c1 h
    refine lv_iload_n hx hb dX6_trace_4 rfl (lv_at hl 1 rfl) ?_
    refine lv_bipush (v := 24) hx hb dX6_trace_5 (by decide) ?_
    refine lv_icmp_ge (tgt := 33) hx hb dX6_trace_7 (by decide) (fun c2 => ?_) (fun c2 => ?_)
    · have h := ifp c2 h
      refine lv_iconst (v := (-1)) hx hb dX6_trace_33 (by decide) ?_
      have h := Option.some.inj h
      subst h
      exact hret _ _ _ _ _ dX6_trace_34 rfl rfl hW
    · have h := ifn c2 h
      refine lv_iload_n hx hb dX6_trace_10 rfl (lv_at hl 1 rfl) ?_
      refine lv_aload_n hx hb dX6_trace_11 rfl (lv_at hl 0 rfl) ?_
      refine z_get hC hW fg_X6_40 0 WC_0 rfl dX6_trace_12 ?_
      refine z_get hC hW fg_X6_250 5 WC_5 rfl dX6_trace_15 ?_
      refine lv_icmp_ge (tgt := 33) hx hb dX6_trace_18 (by decide) (fun c3 => ?_) (fun c3 => ?_)
      · have h := ifp c3 h
        refine lv_iconst (v := (-1)) hx hb dX6_trace_33 (by decide) ?_
        have h := Option.some.inj h
        subst h
        exact hret _ _ _ _ _ dX6_trace_34 rfl rfl hW
      · have h := ifn c3 h
        refine lv_aload_n hx hb dX6_trace_21 rfl (lv_at hl 0 rfl) ?_
        refine z_get hC hW fg_X6_40 0 WC_0 rfl dX6_trace_22 ?_
        refine z_get hC hW fg_X6_253 5 WC_5 rfl dX6_trace_25 ?_
        refine lv_iload_n hx hb dX6_trace_28 rfl (lv_at hl 1 rfl) ?_
        obtain ⟨g4, h⟩ := ix_some h
        refine z_iald hC hW 29 WC_29 g4 dX6_trace_29 ?_
        refine lv_goto (tgt := 34) hx hb dX6_trace_30 (by decide) ?_
        have h := Option.some.inj h
        subst h
        exact hret _ _ _ _ _ dX6_trace_34 rfl rfl hW
set_option maxHeartbeats 4000000 in
set_option maxRecDepth 100000 in
theorem c_X6_keep {a1 : Int32} {a2 : Int32} {d : Nat} {res : Int32 × (Nat → Int32) × (Nat → Int32)} (hd : 1 ≤ d) (h : f_X6_keep a1 a2 A_bodies S_holds S_body = some res) : zMi l yX6_keep cX6_keep 3 .int (zrm d) [.ref (ρ 0), .int a1, .int a2] D q (WC q ρ T_price T_year T_joinEnds T_wallEnds T_cost T_doors T_joins T_walls T_oldWells T_apart L_tape L_text L_fed L_length L_read L_end L_at L_fault L_d L_p L_y L_j L_o P_away P_beside P_reach P_serves P_crowds P_servedLow P_servedHigh P_crowdedLow P_crowdedHigh P_there P_must P_can C_what C_number C_before C_after C_done C_kept A_kinds A_traced A_bodies A_began A_self A_kindOfSelf S_holds S_body S_sort S_size S_elements G_grown) sz res.1 (WC q ρ T_price T_year T_joinEnds T_wallEnds T_cost T_doors T_joins T_walls T_oldWells T_apart L_tape L_text L_fed L_length L_read L_end L_at L_fault L_d L_p L_y L_j L_o P_away P_beside P_reach P_serves P_crowds P_servedLow P_servedHigh P_crowdedLow P_crowdedHigh P_there P_must P_can C_what C_number C_before C_after C_done C_kept A_kinds A_traced A_bodies A_began A_self A_kindOfSelf res.2.1 res.2.2 S_sort S_size S_elements G_grown) := by
  refine zMet_i (own := RX6) _ (by decide) rfl (Nat.le_of_ble_eq_true rfl) ?_
  intro p e s m args below meth c A ls Q hC hW hl hret
  have hx := hC.1
  have hb := hC.2.1
  have hl : lv_has ls 3 [(0, .ref (ρ 0)), (1, .int a1), (2, .int a2)] := hl
  have b40 : ∀ {x1 : Int32} {x2 : Int32} {s0 : Int32} {js1 : Nat} {S_holds : Nat → Int32} {S_body : Nat → Int32} {H : Heap} {locs : List Loc} {ls : Array Slot} (hjs1 : js1 < 6), f_X6_keep_b40 x1 x2 s0 js1 S_holds S_body = some res → zW D A s.heap (WC q ρ T_price T_year T_joinEnds T_wallEnds T_cost T_doors T_joins T_walls T_oldWells T_apart L_tape L_text L_fed L_length L_read L_end L_at L_fault L_d L_p L_y L_j L_o P_away P_beside P_reach P_serves P_crowds P_servedLow P_servedHigh P_crowdedLow P_crowdedHigh P_there P_must P_can C_what C_number C_before C_after C_done C_kept A_kinds A_traced A_bodies A_began A_self A_kindOfSelf S_holds S_body S_sort S_size S_elements G_grown) H locs → lv_has ls 3 [(0, .ref (ρ 0)), (1, .int x1), (2, .int x2)] → W p l e (zrm d) s m args below meth c H locs 0 0 Q (F0 m 40 ls [.int s0, .ref (ρ (30 + js1))]) := by
    intro x1 x2 s0 js1 S_holds S_body H locs ls hjs1 h hW hl
    unfold f_X6_keep_b40 at h
    refine z_put hC hW fp_X6_81 (30 + js1) (WC_sh hjs1) (Nat.le_of_ble_eq_true rfl) rfl rfl (WCs_S_holds hjs1) dX6_keep_40 (fun H locs hW => ?_)
    refine lv_aload_n hx hb dX6_keep_43 rfl (lv_at hl 0 rfl) ?_
    refine z_get hC hW fg_X6_46 0 WC_0 rfl dX6_keep_44 ?_
    refine lv_iload_n hx hb dX6_keep_47 rfl (lv_at hl 1 rfl) ?_
    obtain ⟨g7, h⟩ := ix_some h
    refine z_aald hC hW 6 WC_6 g7 dX6_keep_48 ?_
    refine lv_iload_n hx hb dX6_keep_49 rfl (lv_at hl 2 rfl) ?_
    refine z_put hC hW fp_X6_256 (30 + (Int32.toNatClampNeg x1)) (WC_sh (vlt g7)) (Nat.le_of_ble_eq_true rfl) rfl rfl (WCs_S_body (vlt g7)) dX6_keep_50 (fun H locs hW => ?_)
    refine lv_iconst (v := 1) hx hb dX6_keep_53 (by decide) ?_
    have h := Option.some.inj h
    subst h
    exact hret _ _ _ _ _ dX6_keep_54 rfl rfl hW
  unfold f_X6_keep at h
  refine lv_iload_n hx hb dX6_keep_0 rfl (lv_at hl 1 rfl) ?_
  obtain ⟨u1, eu1, h⟩ := bd_some h
  refine z_callS_i hC hW (rest := []) (c_X6_isShelf (d := 0) (Nat.le_refl _) eu1) sw_X6_77 ⟨rfl, rfl⟩ (zrm_ok (by omega) (by decide)) rfl rfl hl.1 (Nat.le_of_ble_eq_true rfl) dX6_keep_1 (fun H locs hW => ?_)
  refine lv_if_eq (tgt := 23) hx hb dX6_keep_4 (by decide) (fun c2 => ?_) (fun c2 => ?_)
  · have h := ifp c2 h
    refine lv_iconst (v := (-1)) hx hb dX6_keep_23 (by decide) ?_
    have h := Option.some.inj h
    subst h
    exact hret _ _ _ _ _ dX6_keep_24 rfl rfl hW
  · have h := ifn c2 h
    refine lv_iload_n hx hb dX6_keep_7 rfl (lv_at hl 2 rfl) ?_
    refine lv_iconst (v := (-1)) hx hb dX6_keep_8 (by decide) ?_
    refine lv_icmp_lt (tgt := 23) hx hb dX6_keep_9 (by decide) (fun c3 => ?_) (fun c3 => ?_)
    · have h := ifp c3 h
      refine lv_iconst (v := (-1)) hx hb dX6_keep_23 (by decide) ?_
      have h := Option.some.inj h
      subst h
      exact hret _ _ _ _ _ dX6_keep_24 rfl rfl hW
    · have h := ifn c3 h
      refine lv_iload_n hx hb dX6_keep_12 rfl (lv_at hl 2 rfl) ?_
      refine lv_aload_n hx hb dX6_keep_13 rfl (lv_at hl 0 rfl) ?_
      refine z_get hC hW fg_X6_40 0 WC_0 rfl dX6_keep_14 ?_
      refine z_get hC hW fg_X6_241 5 WC_5 rfl dX6_keep_17 ?_
      refine lv_icmp_lt (tgt := 25) hx hb dX6_keep_20 (by decide) (fun c4 => ?_) (fun c4 => ?_)
      · have h := ifp c4 h
        refine lv_aload_n hx hb dX6_keep_25 rfl (lv_at hl 0 rfl) ?_
        refine z_get hC hW fg_X6_46 0 WC_0 rfl dX6_keep_26 ?_
        refine lv_iload_n hx hb dX6_keep_29 rfl (lv_at hl 1 rfl) ?_
        obtain ⟨g5, h⟩ := ix_some h
        refine z_aald hC hW 6 WC_6 g5 dX6_keep_30 ?_
        refine lv_iload_n hx hb dX6_keep_31 rfl (lv_at hl 2 rfl) ?_
        refine lv_if_ge (tgt := 39) hx hb dX6_keep_32 (by decide) (fun c6 => ?_) (fun c6 => ?_)
        · have h := ifp c6 h
          refine lv_iconst (v := 1) hx hb dX6_keep_39 (by decide) ?_
          exact b40 (vlt g5) h hW (lv_sub hl [0, 1, 2] rfl)
        · have h := ifn c6 h
          refine lv_iconst (v := 0) hx hb dX6_keep_35 (by decide) ?_
          refine lv_goto (tgt := 40) hx hb dX6_keep_36 (by decide) ?_
          exact b40 (vlt g5) h hW (lv_sub hl [0, 1, 2] rfl)
      · have h := ifn c4 h
        refine lv_iconst (v := (-1)) hx hb dX6_keep_23 (by decide) ?_
        have h := Option.some.inj h
        subst h
        exact hret _ _ _ _ _ dX6_keep_24 rfl rfl hW
set_option maxHeartbeats 4000000 in
set_option maxRecDepth 100000 in
theorem c_X4_becomeRow {j0 : Nat} {a1 : Int32} {a2 : Int32} {d : Nat} {res : (Nat → Int32) × (Nat → Int32) × (Nat → Int32) × (Nat → Nat → Int64)} (hd : 0 ≤ d) (hj0 : j0 < 6) (h : f_X4_becomeRow j0 a1 a2 S_holds S_sort S_size S_elements = some res) : zMv l yX4_becomeRow cX4_becomeRow 4 (zrm d) [.ref (ρ (30 + j0)), .int a1, .int a2] D q (WC q ρ T_price T_year T_joinEnds T_wallEnds T_cost T_doors T_joins T_walls T_oldWells T_apart L_tape L_text L_fed L_length L_read L_end L_at L_fault L_d L_p L_y L_j L_o P_away P_beside P_reach P_serves P_crowds P_servedLow P_servedHigh P_crowdedLow P_crowdedHigh P_there P_must P_can C_what C_number C_before C_after C_done C_kept A_kinds A_traced A_bodies A_began A_self A_kindOfSelf S_holds S_body S_sort S_size S_elements G_grown) sz (WC q ρ T_price T_year T_joinEnds T_wallEnds T_cost T_doors T_joins T_walls T_oldWells T_apart L_tape L_text L_fed L_length L_read L_end L_at L_fault L_d L_p L_y L_j L_o P_away P_beside P_reach P_serves P_crowds P_servedLow P_servedHigh P_crowdedLow P_crowdedHigh P_there P_must P_can C_what C_number C_before C_after C_done C_kept A_kinds A_traced A_bodies A_began A_self A_kindOfSelf res.1 S_body res.2.1 res.2.2.1 res.2.2.2 G_grown) := by
  refine zMet_v (own := RX4) (by decide) rfl (Nat.le_of_ble_eq_true rfl) ?_
  intro p e s m args below meth c A ls Q hC hW hl hret
  have hx := hC.1
  have hb := hC.2.1
  have hl : lv_has ls 4 [(0, .ref (ρ (30 + j0))), (1, .int a1), (2, .int a2)] := hl
  have b17 : ∀ {j0 : Nat} {S_holds : Nat → Int32} {S_sort : Nat → Int32} {S_size : Nat → Int32} {n : Nat} {x3 : Int32} {S_elements : Nat → Nat → Int64} {H : Heap} {locs : List Loc} {ls : Array Slot} (hj0 : j0 < 6), f_X4_becomeRow_b17 j0 S_holds S_sort S_size n x3 S_elements = some res → zW D A s.heap (WC q ρ T_price T_year T_joinEnds T_wallEnds T_cost T_doors T_joins T_walls T_oldWells T_apart L_tape L_text L_fed L_length L_read L_end L_at L_fault L_d L_p L_y L_j L_o P_away P_beside P_reach P_serves P_crowds P_servedLow P_servedHigh P_crowdedLow P_crowdedHigh P_there P_must P_can C_what C_number C_before C_after C_done C_kept A_kinds A_traced A_bodies A_began A_self A_kindOfSelf S_holds S_body S_sort S_size S_elements G_grown) H locs → lv_has ls 4 [(0, .ref (ρ (30 + j0))), (3, .int x3)] → W p l e (zrm d) s m args below meth c H locs 0 0 Q (F0 m 17 ls []) := by
    intro j0 S_holds S_sort S_size
    intro n
    induction n with
    | zero =>
      intro x3 S_elements H locs ls hj0 h
      rw [f_X4_becomeRow_b17] at h
      cases h
    | succ n ih =>
      intro x3 S_elements H locs ls hj0 h hW hl
      rw [f_X4_becomeRow_b17] at h
      refine lv_iload_n hx hb dX4_becomeRow_17 rfl (lv_at hl 1 rfl) ?_
      refine lv_bipush (v := 60) hx hb dX4_becomeRow_18 (by decide) ?_
      refine lv_icmp_ge (tgt := 36) hx hb dX4_becomeRow_20 (by decide) (fun c1 => ?_) (fun c1 => ?_)
      · have h := ifp c1 h
        have h := Option.some.inj h
        subst h
        exact hret _ _ _ _ dX4_becomeRow_36 hW
      · have h := ifn c1 h
        refine lv_aload_n hx hb dX4_becomeRow_23 rfl (lv_at hl 0 rfl) ?_
        refine z_get hC hW fg_X4_9 (30 + j0) (WC_sh hj0) rfl dX4_becomeRow_24 ?_
        refine lv_iload_n hx hb dX4_becomeRow_27 rfl (lv_at hl 1 rfl) ?_
        refine lv_lconst (v := 0) hx hb dX4_becomeRow_28 (by decide) ?_
        obtain ⟨g2, h⟩ := ix_some h
        refine z_last hC hW (36 + j0) (WC_el hj0) g2 (WCs_S_elements hj0) dX4_becomeRow_29 (fun H locs hW => ?_)
        refine lv_iinc (v := (x3 + 1)) (lv' := [(3, .int (x3 + 1)), (0, .ref (ρ (30 + j0)))]) hx hb dX4_becomeRow_30 hl (k := 1) rfl rfl (by decide) rfl (fun ls hl => ?_)
        refine lv_goto (tgt := 17) hx hb dX4_becomeRow_33 (by decide) ?_
        exact ih hj0 h hW (lv_sub hl [1, 0] rfl)
  unfold f_X4_becomeRow at h
  refine lv_aload_n hx hb dX4_becomeRow_0 rfl (lv_at hl 0 rfl) ?_
  refine lv_iconst (v := 2) hx hb dX4_becomeRow_1 (by decide) ?_
  refine z_put hC hW fp_X4_15 (30 + j0) (WC_sh hj0) (Nat.le_of_ble_eq_true rfl) rfl rfl (WCs_S_holds hj0) dX4_becomeRow_2 (fun H locs hW => ?_)
  refine lv_aload_n hx hb dX4_becomeRow_5 rfl (lv_at hl 0 rfl) ?_
  refine lv_iload_n hx hb dX4_becomeRow_6 rfl (lv_at hl 1 rfl) ?_
  refine z_put hC hW fp_X4_19 (30 + j0) (WC_sh hj0) (Nat.le_of_ble_eq_true rfl) rfl rfl (WCs_S_sort hj0) dX4_becomeRow_7 (fun H locs hW => ?_)
  refine lv_aload_n hx hb dX4_becomeRow_10 rfl (lv_at hl 0 rfl) ?_
  refine lv_iload_n hx hb dX4_becomeRow_11 rfl (lv_at hl 2 rfl) ?_
  refine z_put hC hW fp_X4_22 (30 + j0) (WC_sh hj0) (Nat.le_of_ble_eq_true rfl) rfl rfl (WCs_S_size hj0) dX4_becomeRow_12 (fun H locs hW => ?_)
  refine lv_iconst (v := 0) hx hb dX4_becomeRow_15 (by decide) ?_
  refine lv_istore_n (lv' := [(3, .int 0), (0, .ref (ρ (30 + j0))), (1, .int a1), (2, .int a2)]) hx hb dX4_becomeRow_16 rfl hl (by decide) rfl (fun ls hl => ?_)
  exact b17 hj0 h hW (lv_sub hl [1, 0] rfl)
set_option maxHeartbeats 4000000 in
set_option maxRecDepth 100000 in
theorem c_X6_row {a1 : Int32} {a2 : Int32} {a3 : Int32} {d : Nat} {res : Int32 × (Nat → Int32) × (Nat → Int32) × (Nat → Int32) × (Nat → Nat → Int64)} (hd : 1 ≤ d) (h : f_X6_row a1 a2 a3 S_holds S_sort S_size S_elements = some res) : zMi l yX6_row cX6_row 4 .int (zrm d) [.ref (ρ 0), .int a1, .int a2, .int a3] D q (WC q ρ T_price T_year T_joinEnds T_wallEnds T_cost T_doors T_joins T_walls T_oldWells T_apart L_tape L_text L_fed L_length L_read L_end L_at L_fault L_d L_p L_y L_j L_o P_away P_beside P_reach P_serves P_crowds P_servedLow P_servedHigh P_crowdedLow P_crowdedHigh P_there P_must P_can C_what C_number C_before C_after C_done C_kept A_kinds A_traced A_bodies A_began A_self A_kindOfSelf S_holds S_body S_sort S_size S_elements G_grown) sz res.1 (WC q ρ T_price T_year T_joinEnds T_wallEnds T_cost T_doors T_joins T_walls T_oldWells T_apart L_tape L_text L_fed L_length L_read L_end L_at L_fault L_d L_p L_y L_j L_o P_away P_beside P_reach P_serves P_crowds P_servedLow P_servedHigh P_crowdedLow P_crowdedHigh P_there P_must P_can C_what C_number C_before C_after C_done C_kept A_kinds A_traced A_bodies A_began A_self A_kindOfSelf res.2.1 S_body res.2.2.1 res.2.2.2.1 res.2.2.2.2 G_grown) := by
  refine zMet_i (own := RX6) _ (by decide) rfl (Nat.le_of_ble_eq_true rfl) ?_
  intro p e s m args below meth c A ls Q hC hW hl hret
  have hx := hC.1
  have hb := hC.2.1
  have hl : lv_has ls 4 [(0, .ref (ρ 0)), (1, .int a1), (2, .int a2), (3, .int a3)] := hl
  unfold f_X6_row at h
  refine lv_iload_n hx hb dX6_row_0 rfl (lv_at hl 1 rfl) ?_
  obtain ⟨u1, eu1, h⟩ := bd_some h
  refine z_callS_i hC hW (rest := []) (c_X6_isShelf (d := 0) (Nat.le_refl _) eu1) sw_X6_77 ⟨rfl, rfl⟩ (zrm_ok (by omega) (by decide)) rfl rfl hl.1 (Nat.le_of_ble_eq_true rfl) dX6_row_1 (fun H locs hW => ?_)
  refine lv_if_eq (tgt := 22) hx hb dX6_row_4 (by decide) (fun c2 => ?_) (fun c2 => ?_)
  · have h := ifp c2 h
    refine lv_iconst (v := (-1)) hx hb dX6_row_22 (by decide) ?_
    have h := Option.some.inj h
    subst h
    exact hret _ _ _ _ _ dX6_row_23 rfl rfl hW
  · have h := ifn c2 h
    refine lv_iload_n hx hb dX6_row_7 rfl (lv_at hl 2 rfl) ?_
    refine lv_if_lt (tgt := 22) hx hb dX6_row_8 (by decide) (fun c3 => ?_) (fun c3 => ?_)
    · have h := ifp c3 h
      refine lv_iconst (v := (-1)) hx hb dX6_row_22 (by decide) ?_
      have h := Option.some.inj h
      subst h
      exact hret _ _ _ _ _ dX6_row_23 rfl rfl hW
    · have h := ifn c3 h
      refine lv_iload_n hx hb dX6_row_11 rfl (lv_at hl 2 rfl) ?_
      refine lv_iconst (v := 5) hx hb dX6_row_12 (by decide) ?_
      refine lv_icmp_ge (tgt := 22) hx hb dX6_row_13 (by decide) (fun c4 => ?_) (fun c4 => ?_)
      · have h := ifp c4 h
        refine lv_iconst (v := (-1)) hx hb dX6_row_22 (by decide) ?_
        have h := Option.some.inj h
        subst h
        exact hret _ _ _ _ _ dX6_row_23 rfl rfl hW
      · have h := ifn c4 h
        refine lv_iload_n hx hb dX6_row_16 rfl (lv_at hl 3 rfl) ?_
        refine lv_bipush (v := 60) hx hb dX6_row_17 (by decide) ?_
        refine lv_icmp_le (tgt := 24) hx hb dX6_row_19 (by decide) (fun c5 => ?_) (fun c5 => ?_)
        · have h := ifp c5 h
          refine lv_iload_n hx hb dX6_row_24 rfl (lv_at hl 3 rfl) ?_
          refine lv_if_ge (tgt := 31) hx hb dX6_row_25 (by decide) (fun c6 => ?_) (fun c6 => ?_)
          · have h := ifp c6 h
            refine lv_aload_n hx hb dX6_row_31 rfl (lv_at hl 0 rfl) ?_
            refine z_get hC hW fg_X6_46 0 WC_0 rfl dX6_row_32 ?_
            refine lv_iload_n hx hb dX6_row_35 rfl (lv_at hl 1 rfl) ?_
            obtain ⟨g7, h⟩ := ix_some h
            refine z_aald hC hW 6 WC_6 g7 dX6_row_36 ?_
            refine lv_iload_n hx hb dX6_row_37 rfl (lv_at hl 2 rfl) ?_
            refine lv_iload_n hx hb dX6_row_38 rfl (lv_at hl 3 rfl) ?_
            obtain ⟨u8, eu8, h⟩ := bd_some h
            refine z_callV_v hC hW (q0 := 30 + (Int32.toNatClampNeg a1)) (rest := []) (c_X4_becomeRow (d := 0) (Nat.le_refl _) (vlt g7) eu8) vw_X6_259 (WC_sh (vlt g7)) rfl ⟨rfl, rfl⟩ (zrm_ok (by omega) (by decide)) rfl rfl hl.1 (Nat.le_of_ble_eq_true rfl) dX6_row_39 (fun H locs hW => ?_)
            refine lv_iconst (v := 1) hx hb dX6_row_42 (by decide) ?_
            have h := Option.some.inj h
            subst h
            exact hret _ _ _ _ _ dX6_row_43 rfl rfl hW
          · have h := ifn c6 h
            refine lv_bipush (v := (-14)) hx hb dX6_row_28 (by decide) ?_
            have h := Option.some.inj h
            subst h
            exact hret _ _ _ _ _ dX6_row_30 rfl rfl hW
        · have h := ifn c5 h
          refine lv_iconst (v := (-1)) hx hb dX6_row_22 (by decide) ?_
          have h := Option.some.inj h
          subst h
          exact hret _ _ _ _ _ dX6_row_23 rfl rfl hW
set_option maxHeartbeats 4000000 in
set_option maxRecDepth 100000 in
theorem c_X6_refusalOf {a1 : Int32} {a2 : Int32} {d : Nat} {res : Int32} (hd : 1 ≤ d) (h : f_X6_refusalOf a1 a2 S_holds S_size = some res) : zMi l yX6_refusalOf cX6_refusalOf 3 .int (zrm d) [.ref (ρ 0), .int a1, .int a2] D q (WC q ρ T_price T_year T_joinEnds T_wallEnds T_cost T_doors T_joins T_walls T_oldWells T_apart L_tape L_text L_fed L_length L_read L_end L_at L_fault L_d L_p L_y L_j L_o P_away P_beside P_reach P_serves P_crowds P_servedLow P_servedHigh P_crowdedLow P_crowdedHigh P_there P_must P_can C_what C_number C_before C_after C_done C_kept A_kinds A_traced A_bodies A_began A_self A_kindOfSelf S_holds S_body S_sort S_size S_elements G_grown) sz res (WC q ρ T_price T_year T_joinEnds T_wallEnds T_cost T_doors T_joins T_walls T_oldWells T_apart L_tape L_text L_fed L_length L_read L_end L_at L_fault L_d L_p L_y L_j L_o P_away P_beside P_reach P_serves P_crowds P_servedLow P_servedHigh P_crowdedLow P_crowdedHigh P_there P_must P_can C_what C_number C_before C_after C_done C_kept A_kinds A_traced A_bodies A_began A_self A_kindOfSelf S_holds S_body S_sort S_size S_elements G_grown) := by
  refine zMet_i (own := RX6) _ (by decide) rfl (Nat.le_of_ble_eq_true rfl) ?_
  intro p e s m args below meth c A ls Q hC hW hl hret
  have hx := hC.1
  have hb := hC.2.1
  have hl : lv_has ls 3 [(0, .ref (ρ 0)), (1, .int a1), (2, .int a2)] := hl
  unfold f_X6_refusalOf at h
  refine lv_iload_n hx hb dX6_refusalOf_0 rfl (lv_at hl 1 rfl) ?_
  obtain ⟨u1, eu1, h⟩ := bd_some h
  refine z_callS_i hC hW (rest := []) (c_X6_isShelf (d := 0) (Nat.le_refl _) eu1) sw_X6_77 ⟨rfl, rfl⟩ (zrm_ok (by omega) (by decide)) rfl rfl hl.1 (Nat.le_of_ble_eq_true rfl) dX6_refusalOf_1 (fun H locs hW => ?_)
  refine lv_if_ne (tgt := 9) hx hb dX6_refusalOf_4 (by decide) (fun c2 => ?_) (fun c2 => ?_)
  · have h := ifn c2 h
    refine lv_aload_n hx hb dX6_refusalOf_9 rfl (lv_at hl 0 rfl) ?_
    refine z_get hC hW fg_X6_46 0 WC_0 rfl dX6_refusalOf_10 ?_
    refine lv_iload_n hx hb dX6_refusalOf_13 rfl (lv_at hl 1 rfl) ?_
    obtain ⟨g3, h⟩ := ix_some h
    refine z_aald hC hW 6 WC_6 g3 dX6_refusalOf_14 ?_
    refine z_get hC hW fg_X6_81 (30 + (Int32.toNatClampNeg a1)) (WC_sh (vlt g3)) rfl dX6_refusalOf_15 ?_
    refine lv_if_ne (tgt := 24) hx hb dX6_refusalOf_18 (by decide) (fun c4 => ?_) (fun c4 => ?_)
    · have h := ifn c4 h
      refine lv_aload_n hx hb dX6_refusalOf_24 rfl (lv_at hl 0 rfl) ?_
      refine z_get hC hW fg_X6_46 0 WC_0 rfl dX6_refusalOf_25 ?_
      refine lv_iload_n hx hb dX6_refusalOf_28 rfl (lv_at hl 1 rfl) ?_
      obtain ⟨g5, h⟩ := ix_some h
      refine z_aald hC hW 6 WC_6 g5 dX6_refusalOf_29 ?_
      refine z_get hC hW fg_X6_81 (30 + (Int32.toNatClampNeg a1)) (WC_sh (vlt g5)) rfl dX6_refusalOf_30 ?_
      refine lv_iconst (v := 2) hx hb dX6_refusalOf_33 (by decide) ?_
      refine lv_icmp_eq (tgt := 40) hx hb dX6_refusalOf_34 (by decide) (fun c6 => ?_) (fun c6 => ?_)
      · have h := ifp c6 h
        refine lv_iload_n hx hb dX6_refusalOf_40 rfl (lv_at hl 2 rfl) ?_
        refine lv_if_lt (tgt := 61) hx hb dX6_refusalOf_41 (by decide) (fun c7 => ?_) (fun c7 => ?_)
        · have h := ifp c7 h
          refine lv_bipush (v := (-13)) hx hb dX6_refusalOf_61 (by decide) ?_
          have h := Option.some.inj h
          subst h
          exact hret _ _ _ _ _ dX6_refusalOf_63 rfl rfl hW
        · have h := ifn c7 h
          refine lv_iload_n hx hb dX6_refusalOf_44 rfl (lv_at hl 2 rfl) ?_
          refine lv_aload_n hx hb dX6_refusalOf_45 rfl (lv_at hl 0 rfl) ?_
          refine z_get hC hW fg_X6_46 0 WC_0 rfl dX6_refusalOf_46 ?_
          refine lv_iload_n hx hb dX6_refusalOf_49 rfl (lv_at hl 1 rfl) ?_
          obtain ⟨g8, h⟩ := ix_some h
          refine z_aald hC hW 6 WC_6 g8 dX6_refusalOf_50 ?_
          refine z_get hC hW fg_X6_218 (30 + (Int32.toNatClampNeg a1)) (WC_sh (vlt g8)) rfl dX6_refusalOf_51 ?_
          refine lv_icmp_ge (tgt := 61) hx hb dX6_refusalOf_54 (by decide) (fun c9 => ?_) (fun c9 => ?_)
          · have h := ifp c9 h
            refine lv_bipush (v := (-13)) hx hb dX6_refusalOf_61 (by decide) ?_
            have h := Option.some.inj h
            subst h
            exact hret _ _ _ _ _ dX6_refusalOf_63 rfl rfl hW
          · have h := ifn c9 h
            refine lv_iconst (v := 0) hx hb dX6_refusalOf_57 (by decide) ?_
            refine lv_goto (tgt := 63) hx hb dX6_refusalOf_58 (by decide) ?_
            have h := Option.some.inj h
            subst h
            exact hret _ _ _ _ _ dX6_refusalOf_63 rfl rfl hW
      · have h := ifn c6 h
        refine lv_bipush (v := (-12)) hx hb dX6_refusalOf_37 (by decide) ?_
        have h := Option.some.inj h
        subst h
        exact hret _ _ _ _ _ dX6_refusalOf_39 rfl rfl hW
    · have h := ifp c4 h
      refine lv_bipush (v := (-11)) hx hb dX6_refusalOf_21 (by decide) ?_
      have h := Option.some.inj h
      subst h
      exact hret _ _ _ _ _ dX6_refusalOf_23 rfl rfl hW
  · have h := ifp c2 h
    refine lv_iconst (v := (-1)) hx hb dX6_refusalOf_7 (by decide) ?_
    have h := Option.some.inj h
    subst h
    exact hret _ _ _ _ _ dX6_refusalOf_8 rfl rfl hW
set_option maxHeartbeats 4000000 in
set_option maxRecDepth 100000 in
theorem c_X4_lowestBits {j0 : Nat} {a1 : Int64} {d : Nat} {res : Int64} (hd : 0 ≤ d) (hj0 : j0 < 6) (h : f_X4_lowestBits j0 a1 S_sort = some res) : zMl l yX4_lowestBits cX4_lowestBits 3 (zrm d) [.ref (ρ (30 + j0)), .long a1] D q (WC q ρ T_price T_year T_joinEnds T_wallEnds T_cost T_doors T_joins T_walls T_oldWells T_apart L_tape L_text L_fed L_length L_read L_end L_at L_fault L_d L_p L_y L_j L_o P_away P_beside P_reach P_serves P_crowds P_servedLow P_servedHigh P_crowdedLow P_crowdedHigh P_there P_must P_can C_what C_number C_before C_after C_done C_kept A_kinds A_traced A_bodies A_began A_self A_kindOfSelf S_holds S_body S_sort S_size S_elements G_grown) sz res (WC q ρ T_price T_year T_joinEnds T_wallEnds T_cost T_doors T_joins T_walls T_oldWells T_apart L_tape L_text L_fed L_length L_read L_end L_at L_fault L_d L_p L_y L_j L_o P_away P_beside P_reach P_serves P_crowds P_servedLow P_servedHigh P_crowdedLow P_crowdedHigh P_there P_must P_can C_what C_number C_before C_after C_done C_kept A_kinds A_traced A_bodies A_began A_self A_kindOfSelf S_holds S_body S_sort S_size S_elements G_grown) := by
  refine zMet_l (own := RX4) _ (by decide) rfl (Nat.le_of_ble_eq_true rfl) ?_
  intro p e s m args below meth c A ls Q hC hW hl hret
  have hx := hC.1
  have hb := hC.2.1
  have hl : lv_has ls 3 [(0, .ref (ρ (30 + j0))), (1, .long a1)] := hl
  unfold f_X4_lowestBits at h
  refine lv_aload_n hx hb dX4_lowestBits_0 rfl (lv_at hl 0 rfl) ?_
  refine z_get hC hW fg_X4_19 (30 + j0) (WC_sh hj0) rfl dX4_lowestBits_1 ?_
  by_cases c1 : (S_sort j0) = 0
  · have h := ifp c1 h
    refine z_tabIn hx hb (off := 32) (tgt := 36) 0 c1 (by decide) dX4_lowestBits_4 (by decide) ?_
    refine lv_lload_n hx hb dX4_lowestBits_36 rfl (lv_at hl 1 rfl) ?_
    refine lv_l2i hx hb dX4_lowestBits_37 rfl ?_
    refine lv_i2b hx hb dX4_lowestBits_38 rfl ?_
    refine lv_i2l hx hb dX4_lowestBits_39 rfl ?_
    have h := Option.some.inj h
    subst h
    exact hret _ _ _ _ _ dX4_lowestBits_40 rfl hW
  · have h := ifn c1 h
    by_cases c2 : (S_sort j0) = 1
    · have h := ifp c2 h
      refine z_tabIn hx hb (off := 37) (tgt := 41) 1 c2 (by decide) dX4_lowestBits_4 (by decide) ?_
      refine lv_lload_n hx hb dX4_lowestBits_41 rfl (lv_at hl 1 rfl) ?_
      refine lv_l2i hx hb dX4_lowestBits_42 rfl ?_
      refine lv_i2s hx hb dX4_lowestBits_43 rfl ?_
      refine lv_i2l hx hb dX4_lowestBits_44 rfl ?_
      have h := Option.some.inj h
      subst h
      exact hret _ _ _ _ _ dX4_lowestBits_45 rfl hW
    · have h := ifn c2 h
      by_cases c3 : (S_sort j0) = 2
      · have h := ifp c3 h
        refine z_tabIn hx hb (off := 42) (tgt := 46) 2 c3 (by decide) dX4_lowestBits_4 (by decide) ?_
        refine lv_lload_n hx hb dX4_lowestBits_46 rfl (lv_at hl 1 rfl) ?_
        refine lv_l2i hx hb dX4_lowestBits_47 rfl ?_
        refine lv_i2l hx hb dX4_lowestBits_48 rfl ?_
        have h := Option.some.inj h
        subst h
        exact hret _ _ _ _ _ dX4_lowestBits_49 rfl hW
      · have h := ifn c3 h
        by_cases c4 : (S_sort j0) = 3
        · have h := ifp c4 h
          refine z_tabIn hx hb (off := 46) (tgt := 50) 3 c4 (by decide) dX4_lowestBits_4 (by decide) ?_
          refine lv_lload_n hx hb dX4_lowestBits_50 rfl (lv_at hl 1 rfl) ?_
          have h := Option.some.inj h
          subst h
          exact hret _ _ _ _ _ dX4_lowestBits_51 rfl hW
        · have h := ifn c4 h
          refine z_tabD hx hb (tgt := 52) [0, 1, 2, 3] (List.forall_mem_cons.mpr ⟨c1, List.forall_mem_cons.mpr ⟨c2, List.forall_mem_cons.mpr ⟨c3, List.forall_mem_cons.mpr ⟨c4, List.forall_mem_nil _⟩⟩⟩⟩) (by decide) dX4_lowestBits_4 (by decide) ?_
          refine lv_lload_n hx hb dX4_lowestBits_52 rfl (lv_at hl 1 rfl) ?_
          refine lv_lconst (v := 0) hx hb dX4_lowestBits_53 (by decide) ?_
          refine W.lcmp hx hb dX4_lowestBits_54 ?_
          refine lv_if_eq (tgt := 62) hx hb dX4_lowestBits_55 (by decide) (fun c5 => ?_) (fun c5 => ?_)
          · have h := ifp c5 h
            refine lv_lconst (v := 0) hx hb dX4_lowestBits_62 (by decide) ?_
            have h := Option.some.inj h
            subst h
            exact hret _ _ _ _ _ dX4_lowestBits_63 rfl hW
          · have h := ifn c5 h
            refine lv_lconst (v := 1) hx hb dX4_lowestBits_58 (by decide) ?_
            refine lv_goto (tgt := 63) hx hb dX4_lowestBits_59 (by decide) ?_
            have h := Option.some.inj h
            subst h
            exact hret _ _ _ _ _ dX4_lowestBits_63 rfl hW
end CT20_c17
