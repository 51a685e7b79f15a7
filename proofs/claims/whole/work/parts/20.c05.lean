section CT20_c05
variable {l : Launch} {D : va_G} {q : Nat → ClassId} {ρ : Nat → Nat} {sz : Nat} {T_price : Nat → Int32} {T_year : Nat → Int32} {T_joinEnds : Nat → Int32} {T_wallEnds : Nat → Int32} {T_cost : Nat → Int32} {T_doors : Int32} {T_joins : Int32} {T_walls : Int32} {T_oldWells : Int32} {T_apart : Int32} {L_tape : Nat → Int32} {L_text : Nat → Int32} {L_fed : Int32} {L_length : Int32} {L_read : Nat} {L_end : Int32} {L_at : Int32} {L_fault : Int32} {L_d : Int32} {L_p : Int32} {L_y : Int32} {L_j : Int32} {L_o : Int32} {P_away : Nat → Nat → Int32} {P_beside : Nat → Int32} {P_reach : Nat → Int32} {P_serves : Nat → Int32} {P_crowds : Nat → Int32} {P_servedLow : Nat → Int32} {P_servedHigh : Nat → Int32} {P_crowdedLow : Nat → Int32} {P_crowdedHigh : Nat → Int32} {P_there : Int32} {P_must : Int32} {P_can : Int32} {C_what : Nat → Int32} {C_number : Nat → Int32} {C_before : Nat → Int32} {C_after : Nat → Int32} {C_done : Int32} {C_kept : Int32} {A_kinds : Nat → Int32} {A_traced : Nat → Int32} {A_bodies : Int32} {A_began : Int32} {A_self : Int32} {A_kindOfSelf : Int32} {S_holds : Nat → Int32} {S_body : Nat → Int32} {S_sort : Nat → Int32} {S_size : Nat → Int32} {S_elements : Nat → Nat → Int64} {G_grown : Nat → Int32}
set_option maxHeartbeats 4000000 in
set_option maxRecDepth 100000 in
theorem c_X2_reachOf {a2 : Int32} {a3 : Int32} {a4 : Int32} {d : Nat} {res : Int32 × Nat × Int32 × Int32 × Int32 × Int32 × Int32 × Int32 × Int32 × Int32} (hd : 81 ≤ d) (h : f_X2_reachOf a2 a3 a4 T_price T_year T_joinEnds T_wallEnds T_joins T_walls L_text L_length L_read L_end L_at L_fault L_d L_p L_y L_j L_o = some res) : zMi l yX2_reachOf cX2_reachOf 5 .int (zrm d) [.ref (ρ 2), .ref (ρ 1), .int a2, .int a3, .int a4] D q (WC q ρ T_price T_year T_joinEnds T_wallEnds T_cost T_doors T_joins T_walls T_oldWells T_apart L_tape L_text L_fed L_length L_read L_end L_at L_fault L_d L_p L_y L_j L_o P_away P_beside P_reach P_serves P_crowds P_servedLow P_servedHigh P_crowdedLow P_crowdedHigh P_there P_must P_can C_what C_number C_before C_after C_done C_kept A_kinds A_traced A_bodies A_began A_self A_kindOfSelf S_holds S_body S_sort S_size S_elements G_grown) sz res.1 (WC q ρ T_price T_year T_joinEnds T_wallEnds T_cost T_doors T_joins T_walls T_oldWells T_apart L_tape L_text L_fed L_length res.2.1 res.2.2.1 res.2.2.2.1 res.2.2.2.2.1 res.2.2.2.2.2.1 res.2.2.2.2.2.2.1 res.2.2.2.2.2.2.2.1 res.2.2.2.2.2.2.2.2.1 res.2.2.2.2.2.2.2.2.2 P_away P_beside P_reach P_serves P_crowds P_servedLow P_servedHigh P_crowdedLow P_crowdedHigh P_there P_must P_can C_what C_number C_before C_after C_done C_kept A_kinds A_traced A_bodies A_began A_self A_kindOfSelf S_holds S_body S_sort S_size S_elements G_grown) := by
  refine zMet_i (own := RX2) _ (by decide) rfl (Nat.le_of_ble_eq_true rfl) ?_
  intro p e s m args below meth c A ls Q hC hW hl hret
  have hx := hC.1
  have hb := hC.2.1
  have hl : lv_has ls 5 [(0, .ref (ρ 2)), (1, .ref (ρ 1)), (2, .int a2), (3, .int a3), (4, .int a4)] := hl
  unfold f_X2_reachOf at h
  refine lv_aload_n hx hb dX2_reachOf_0 rfl (lv_at hl 0 rfl) ?_
  refine z_get hC hW fg_X2_38 2 WC_2 rfl dX2_reachOf_1 ?_
  refine lv_if_ne (tgt := 9) hx hb dX2_reachOf_4 (by decide) (fun c1 => ?_) (fun c1 => ?_)
  · have h := ifn c1 h
    refine lv_aload_n hx hb dX2_reachOf_9 rfl (lv_at hl 0 rfl) ?_
    refine lv_iload_n hx hb dX2_reachOf_10 rfl (lv_at hl 2 rfl) ?_
    refine z_put hC hW fp_X2_41 2 WC_2 (Nat.le_of_ble_eq_true rfl) rfl rfl WCs_L_d dX2_reachOf_11 (fun H locs hW => ?_)
    refine lv_aload_n hx hb dX2_reachOf_14 rfl (lv_at hl 0 rfl) ?_
    refine lv_aload_n hx hb dX2_reachOf_15 rfl (lv_at hl 1 rfl) ?_
    refine z_get hC hW fg_X2_44 1 WC_1 rfl dX2_reachOf_16 ?_
    refine lv_iload_n hx hb dX2_reachOf_19 rfl (lv_at hl 2 rfl) ?_
    obtain ⟨g2, h⟩ := ix_some h
    refine z_iald hC hW 8 WC_8 g2 dX2_reachOf_20 ?_
    refine z_put hC hW fp_X2_50 2 WC_2 (Nat.le_of_ble_eq_true rfl) rfl rfl WCs_L_p dX2_reachOf_21 (fun H locs hW => ?_)
    refine lv_aload_n hx hb dX2_reachOf_24 rfl (lv_at hl 0 rfl) ?_
    refine lv_aload_n hx hb dX2_reachOf_25 rfl (lv_at hl 1 rfl) ?_
    refine z_get hC hW fg_X2_53 1 WC_1 rfl dX2_reachOf_26 ?_
    refine lv_iload_n hx hb dX2_reachOf_29 rfl (lv_at hl 2 rfl) ?_
    obtain ⟨g3, h⟩ := ix_some h
    refine z_iald hC hW 9 WC_9 g3 dX2_reachOf_30 ?_
    refine z_put hC hW fp_X2_56 2 WC_2 (Nat.le_of_ble_eq_true rfl) rfl rfl WCs_L_y dX2_reachOf_31 (fun H locs hW => ?_)
    refine lv_aload_n hx hb dX2_reachOf_34 rfl (lv_at hl 0 rfl) ?_
    refine lv_aload_n hx hb dX2_reachOf_35 rfl (lv_at hl 1 rfl) ?_
    refine lv_iload_n hx hb dX2_reachOf_36 rfl (lv_at hl 2 rfl) ?_
    refine lv_iload hx hb dX2_reachOf_37 (lv_at hl 4 rfl) ?_
    obtain ⟨u4, eu4, h⟩ := bd_some h
    refine z_callV_i hC hW (rest := [.ref (ρ 2)]) (c_X5_joinsAt (d := 1) (Nat.le_refl _) eu4) vw_X2_59 WC_1 rfl ⟨rfl, rfl⟩ (zrm_ok (by omega) (by decide)) rfl rfl hl.1 (Nat.le_of_ble_eq_true rfl) dX2_reachOf_39 (fun H locs hW => ?_)
    refine z_put hC hW fp_X2_63 2 WC_2 (Nat.le_of_ble_eq_true rfl) rfl rfl WCs_L_j dX2_reachOf_42 (fun H locs hW => ?_)
    refine lv_aload_n hx hb dX2_reachOf_45 rfl (lv_at hl 0 rfl) ?_
    refine lv_iload_n hx hb dX2_reachOf_46 rfl (lv_at hl 3 rfl) ?_
    refine lv_iload_n hx hb dX2_reachOf_47 rfl (lv_at hl 2 rfl) ?_
    refine lv_ishr hx hb dX2_reachOf_48 ?_
    refine lv_iconst (v := 1) hx hb dX2_reachOf_49 (by decide) ?_
    refine lv_iand hx hb dX2_reachOf_50 ?_
    refine z_put hC hW fp_X2_66 2 WC_2 (Nat.le_of_ble_eq_true rfl) rfl rfl WCs_L_o dX2_reachOf_51 (fun H locs hW => ?_)
    refine lv_iconst (v := 0) hx hb dX2_reachOf_54 (by decide) ?_
    refine lv_bipush (v := 20) hx hb dX2_reachOf_55 (by decide) ?_
    refine lv_aload_n hx hb dX2_reachOf_57 rfl (lv_at hl 0 rfl) ?_
    refine lv_aload_n hx hb dX2_reachOf_58 rfl (lv_at hl 0 rfl) ?_
    refine z_get hC hW fg_X2_15 2 WC_2 rfl dX2_reachOf_59 ?_
    refine lv_aload_n hx hb dX2_reachOf_62 rfl (lv_at hl 0 rfl) ?_
    refine z_get hC hW fg_X2_38 2 WC_2 rfl dX2_reachOf_63 ?_
    obtain ⟨u5, eu5, h⟩ := bd_some h
    refine z_callV_i hC hW (rest := [.int 20, .int 0]) (c_X2_worked_text (d := 80) (Nat.le_refl _) eu5) vw_X2_25 WC_2 rfl ⟨rfl, rfl⟩ (zrm_ok (by omega) (by decide)) rfl rfl hl.1 (Nat.le_of_ble_eq_true rfl) dX2_reachOf_66 (fun H locs hW => ?_)
    refine z_mmin hC mm_X2_69 hl.1 (zrm_f (by omega)) (zrm_lo (by omega) (by decide)) dX2_reachOf_69 ?_
    refine z_mmax hC mm_X2_74 hl.1 (zrm_f (by omega)) (zrm_lo (by omega) (by decide)) dX2_reachOf_72 ?_
    have h := Option.some.inj h
    subst h
    exact hret _ _ _ _ _ dX2_reachOf_75 rfl rfl hW
  · have h := ifp c1 h
    refine lv_iconst (v := 3) hx hb dX2_reachOf_7 (by decide) ?_
    have h := Option.some.inj h
    subst h
    exact hret _ _ _ _ _ dX2_reachOf_8 rfl rfl hW
set_option maxHeartbeats 4000000 in
set_option maxRecDepth 100000 in
theorem c_X6_ofDoor {a1 : Int32} {a2 : Int32} {d : Nat} {res : Int32 × Nat × Int32 × Int32 × Int32 × Int32 × Int32 × Int32 × Int32 × Int32} (hd : 82 ≤ d) (h : f_X6_ofDoor a1 a2 T_price T_year T_joinEnds T_wallEnds T_joins T_walls T_oldWells L_text L_length L_read L_end L_at L_fault L_d L_p L_y L_j L_o = some res) : zMi l yX6_ofDoor cX6_ofDoor 3 .int (zrm d) [.ref (ρ 0), .int a1, .int a2] D q (WC q ρ T_price T_year T_joinEnds T_wallEnds T_cost T_doors T_joins T_walls T_oldWells T_apart L_tape L_text L_fed L_length L_read L_end L_at L_fault L_d L_p L_y L_j L_o P_away P_beside P_reach P_serves P_crowds P_servedLow P_servedHigh P_crowdedLow P_crowdedHigh P_there P_must P_can C_what C_number C_before C_after C_done C_kept A_kinds A_traced A_bodies A_began A_self A_kindOfSelf S_holds S_body S_sort S_size S_elements G_grown) sz res.1 (WC q ρ T_price T_year T_joinEnds T_wallEnds T_cost T_doors T_joins T_walls T_oldWells T_apart L_tape L_text L_fed L_length res.2.1 res.2.2.1 res.2.2.2.1 res.2.2.2.2.1 res.2.2.2.2.2.1 res.2.2.2.2.2.2.1 res.2.2.2.2.2.2.2.1 res.2.2.2.2.2.2.2.2.1 res.2.2.2.2.2.2.2.2.2 P_away P_beside P_reach P_serves P_crowds P_servedLow P_servedHigh P_crowdedLow P_crowdedHigh P_there P_must P_can C_what C_number C_before C_after C_done C_kept A_kinds A_traced A_bodies A_began A_self A_kindOfSelf S_holds S_body S_sort S_size S_elements G_grown) := by
  refine zMet_i (own := RX6) _ (by decide) rfl (Nat.le_of_ble_eq_true rfl) ?_
  intro p e s m args below meth c A ls Q hC hW hl hret
  have hx := hC.1
  have hb := hC.2.1
  have hl : lv_has ls 3 [(0, .ref (ρ 0)), (1, .int a1), (2, .int a2)] := hl
  unfold f_X6_ofDoor at h
  refine lv_iload_n hx hb dX6_ofDoor_0 rfl (lv_at hl 2 rfl) ?_
  by_cases c1 : a2 = 0
  · have h := ifp c1 h
    refine z_tabIn hx hb (off := 27) (tgt := 28) 0 c1 (by decide) dX6_ofDoor_1 (by decide) ?_
    refine lv_aload_n hx hb dX6_ofDoor_28 rfl (lv_at hl 0 rfl) ?_
    refine z_get hC hW fg_X6_10 0 WC_0 rfl dX6_ofDoor_29 ?_
    refine z_get hC hW fg_X6_173 1 WC_1 rfl dX6_ofDoor_32 ?_
    refine lv_iload_n hx hb dX6_ofDoor_35 rfl (lv_at hl 1 rfl) ?_
    obtain ⟨g2, h⟩ := ix_some h
    refine z_iald hC hW 8 WC_8 g2 dX6_ofDoor_36 ?_
    have h := Option.some.inj h
    subst h
    exact hret _ _ _ _ _ dX6_ofDoor_37 rfl rfl hW
  · have h := ifn c1 h
    by_cases c3 : a2 = 1
    · have h := ifp c3 h
      refine z_tabIn hx hb (off := 37) (tgt := 38) 1 c3 (by decide) dX6_ofDoor_1 (by decide) ?_
      refine lv_aload_n hx hb dX6_ofDoor_38 rfl (lv_at hl 0 rfl) ?_
      refine z_get hC hW fg_X6_10 0 WC_0 rfl dX6_ofDoor_39 ?_
      refine z_get hC hW fg_X6_296 1 WC_1 rfl dX6_ofDoor_42 ?_
      refine lv_iload_n hx hb dX6_ofDoor_45 rfl (lv_at hl 1 rfl) ?_
      obtain ⟨g4, h⟩ := ix_some h
      refine z_iald hC hW 9 WC_9 g4 dX6_ofDoor_46 ?_
      have h := Option.some.inj h
      subst h
      exact hret _ _ _ _ _ dX6_ofDoor_47 rfl rfl hW
    · have h := ifn c3 h
      by_cases c5 : a2 = 2
      · have h := ifp c5 h
        refine z_tabIn hx hb (off := 47) (tgt := 48) 2 c5 (by decide) dX6_ofDoor_1 (by decide) ?_
        refine lv_aload_n hx hb dX6_ofDoor_48 rfl (lv_at hl 0 rfl) ?_
        refine z_get hC hW fg_X6_10 0 WC_0 rfl dX6_ofDoor_49 ?_
        refine lv_iload_n hx hb dX6_ofDoor_52 rfl (lv_at hl 1 rfl) ?_
        refine lv_iconst (v := (-1)) hx hb dX6_ofDoor_53 (by decide) ?_
        obtain ⟨u6, eu6, h⟩ := bd_some h
        refine z_callV_i hC hW (rest := []) (c_X5_joinsAt (d := 1) (Nat.le_refl _) eu6) vw_X6_299 WC_1 rfl ⟨rfl, rfl⟩ (zrm_ok (by omega) (by decide)) rfl rfl hl.1 (Nat.le_of_ble_eq_true rfl) dX6_ofDoor_54 (fun H locs hW => ?_)
        have h := Option.some.inj h
        subst h
        exact hret _ _ _ _ _ dX6_ofDoor_57 rfl rfl hW
      · have h := ifn c5 h
        refine z_tabD hx hb (tgt := 58) [0, 1, 2] (List.forall_mem_cons.mpr ⟨c1, List.forall_mem_cons.mpr ⟨c3, List.forall_mem_cons.mpr ⟨c5, List.forall_mem_nil _⟩⟩⟩) (by decide) dX6_ofDoor_1 (by decide) ?_
        refine lv_aload_n hx hb dX6_ofDoor_58 rfl (lv_at hl 0 rfl) ?_
        refine z_get hC hW fg_X6_19 0 WC_0 rfl dX6_ofDoor_59 ?_
        refine lv_aload_n hx hb dX6_ofDoor_62 rfl (lv_at hl 0 rfl) ?_
        refine z_get hC hW fg_X6_10 0 WC_0 rfl dX6_ofDoor_63 ?_
        refine lv_iload_n hx hb dX6_ofDoor_66 rfl (lv_at hl 1 rfl) ?_
        refine lv_aload_n hx hb dX6_ofDoor_67 rfl (lv_at hl 0 rfl) ?_
        refine z_get hC hW fg_X6_10 0 WC_0 rfl dX6_ofDoor_68 ?_
        refine z_get hC hW fg_X6_100 1 WC_1 rfl dX6_ofDoor_71 ?_
        refine lv_iconst (v := (-1)) hx hb dX6_ofDoor_74 (by decide) ?_
        obtain ⟨u7, eu7, h⟩ := bd_some h
        refine z_callV_i hC hW (rest := []) (c_X2_reachOf (d := 81) (Nat.le_refl _) eu7) vw_X6_302 WC_2 rfl ⟨rfl, rfl⟩ (zrm_ok (by omega) (by decide)) rfl rfl hl.1 (Nat.le_of_ble_eq_true rfl) dX6_ofDoor_75 (fun H locs hW => ?_)
        have h := Option.some.inj h
        subst h
        exact hret _ _ _ _ _ dX6_ofDoor_78 rfl rfl hW
set_option maxHeartbeats 4000000 in
set_option maxRecDepth 100000 in
theorem c_X6_of {a1 : Int32} {a2 : Int32} {d : Nat} {res : Int32 × Nat × Int32 × Int32 × Int32 × Int32 × Int32 × Int32 × Int32 × Int32} (hd : 83 ≤ d) (h : f_X6_of a1 a2 T_price T_year T_joinEnds T_wallEnds T_cost T_doors T_joins T_walls T_oldWells L_text L_length L_read L_end L_at L_fault L_d L_p L_y L_j L_o = some res) : zMi l yX6_of cX6_of 3 .int (zrm d) [.ref (ρ 0), .int a1, .int a2] D q (WC q ρ T_price T_year T_joinEnds T_wallEnds T_cost T_doors T_joins T_walls T_oldWells T_apart L_tape L_text L_fed L_length L_read L_end L_at L_fault L_d L_p L_y L_j L_o P_away P_beside P_reach P_serves P_crowds P_servedLow P_servedHigh P_crowdedLow P_crowdedHigh P_there P_must P_can C_what C_number C_before C_after C_done C_kept A_kinds A_traced A_bodies A_began A_self A_kindOfSelf S_holds S_body S_sort S_size S_elements G_grown) sz res.1 (WC q ρ T_price T_year T_joinEnds T_wallEnds T_cost T_doors T_joins T_walls T_oldWells T_apart L_tape L_text L_fed L_length res.2.1 res.2.2.1 res.2.2.2.1 res.2.2.2.2.1 res.2.2.2.2.2.1 res.2.2.2.2.2.2.1 res.2.2.2.2.2.2.2.1 res.2.2.2.2.2.2.2.2.1 res.2.2.2.2.2.2.2.2.2 P_away P_beside P_reach P_serves P_crowds P_servedLow P_servedHigh P_crowdedLow P_crowdedHigh P_there P_must P_can C_what C_number C_before C_after C_done C_kept A_kinds A_traced A_bodies A_began A_self A_kindOfSelf S_holds S_body S_sort S_size S_elements G_grown) := by
  refine zMet_i (own := RX6) _ (by decide) rfl (Nat.le_of_ble_eq_true rfl) ?_
  intro p e s m args below meth c A ls Q hC hW hl hret
  have hx := hC.1
  have hb := hC.2.1
  have hl : lv_has ls 3 [(0, .ref (ρ 0)), (1, .int a1), (2, .int a2)] := hl
  have b78 : ∀ {x1 : Int32} {x2 : Int32} {L_read : Nat} {L_end : Int32} {L_at : Int32} {L_fault : Int32} {L_d : Int32} {L_p : Int32} {L_y : Int32} {L_j : Int32} {L_o : Int32} {H : Heap} {locs : List Loc} {ls : Array Slot}, f_X6_of_b78 x1 x2 T_wallEnds T_cost T_walls L_read L_end L_at L_fault L_d L_p L_y L_j L_o = some res → zW D A s.heap (WC q ρ T_price T_year T_joinEnds T_wallEnds T_cost T_doors T_joins T_walls T_oldWells T_apart L_tape L_text L_fed L_length L_read L_end L_at L_fault L_d L_p L_y L_j L_o P_away P_beside P_reach P_serves P_crowds P_servedLow P_servedHigh P_crowdedLow P_crowdedHigh P_there P_must P_can C_what C_number C_before C_after C_done C_kept A_kinds A_traced A_bodies A_began A_self A_kindOfSelf S_holds S_body S_sort S_size S_elements G_grown) H locs → lv_has ls 3 [(0, .ref (ρ 0)), (1, .int x1), (2, .int x2)] → W p l e (zrm d) s m args below meth c H locs 0 0 Q (F0 m 78 ls []) := by
    intro x1 x2 L_read L_end L_at L_fault L_d L_p L_y L_j L_o H locs ls h hW hl
    unfold f_X6_of_b78 at h
    refine lv_aload_n hx hb dX6_of_78 rfl (lv_at hl 0 rfl) ?_
    refine z_get hC hW fg_X6_10 0 WC_0 rfl dX6_of_79 ?_
    refine lv_iload_n hx hb dX6_of_82 rfl (lv_at hl 1 rfl) ?_
    obtain ⟨u4, eu4, h⟩ := bd_some h
    refine z_callV_i hC hW (rest := []) (c_X5_isWall (d := 0) (Nat.le_refl _) eu4) vw_X6_128 WC_1 rfl ⟨rfl, rfl⟩ (zrm_ok (by omega) (by decide)) rfl rfl hl.1 (Nat.le_of_ble_eq_true rfl) dX6_of_83 (fun H locs hW => ?_)
    refine lv_if_eq (tgt := 117) hx hb dX6_of_86 (by decide) (fun c5 => ?_) (fun c5 => ?_)
    · have h := ifp c5 h
      refine lv_iconst (v := (-1)) hx hb dX6_of_117 (by decide) ?_
      have h := Option.some.inj h
      subst h
      exact hret _ _ _ _ _ dX6_of_118 rfl rfl hW
    · have h := ifn c5 h
      refine lv_iload_n hx hb dX6_of_89 rfl (lv_at hl 2 rfl) ?_
      refine lv_bipush (v := 20) hx hb dX6_of_90 (by decide) ?_
      refine lv_icmp_ne (tgt := 107) hx hb dX6_of_92 (by decide) (fun c6 => ?_) (fun c6 => ?_)
      · have h := ifn c6 h
        refine lv_aload_n hx hb dX6_of_107 rfl (lv_at hl 0 rfl) ?_
        refine z_get hC hW fg_X6_10 0 WC_0 rfl dX6_of_108 ?_
        refine z_get hC hW fg_X6_134 1 WC_1 rfl dX6_of_111 ?_
        refine lv_iload_n hx hb dX6_of_114 rfl (lv_at hl 1 rfl) ?_
        obtain ⟨g7, h⟩ := ix_some h
        refine z_iald hC hW 12 WC_12 g7 dX6_of_115 ?_
        have h := Option.some.inj h
        subst h
        exact hret _ _ _ _ _ dX6_of_116 rfl rfl hW
      · have h := ifp c6 h
        refine lv_aload_n hx hb dX6_of_95 rfl (lv_at hl 0 rfl) ?_
        refine z_get hC hW fg_X6_10 0 WC_0 rfl dX6_of_96 ?_
        refine z_get hC hW fg_X6_131 1 WC_1 rfl dX6_of_99 ?_
        refine lv_iload_n hx hb dX6_of_102 rfl (lv_at hl 1 rfl) ?_
        obtain ⟨g8, h⟩ := ix_some h
        refine z_iald hC hW 11 WC_11 g8 dX6_of_103 ?_
        refine lv_goto (tgt := 116) hx hb dX6_of_104 (by decide) ?_
        have h := Option.some.inj h
        subst h
        exact hret _ _ _ _ _ dX6_of_116 rfl rfl hW
  have b31 : ∀ {x1 : Int32} {x2 : Int32} {L_read : Nat} {L_end : Int32} {L_at : Int32} {L_fault : Int32} {L_d : Int32} {L_p : Int32} {L_y : Int32} {L_j : Int32} {L_o : Int32} {H : Heap} {locs : List Loc} {ls : Array Slot}, f_X6_of_b31 x1 x2 T_joinEnds T_wallEnds T_cost T_joins T_walls L_read L_end L_at L_fault L_d L_p L_y L_j L_o = some res → zW D A s.heap (WC q ρ T_price T_year T_joinEnds T_wallEnds T_cost T_doors T_joins T_walls T_oldWells T_apart L_tape L_text L_fed L_length L_read L_end L_at L_fault L_d L_p L_y L_j L_o P_away P_beside P_reach P_serves P_crowds P_servedLow P_servedHigh P_crowdedLow P_crowdedHigh P_there P_must P_can C_what C_number C_before C_after C_done C_kept A_kinds A_traced A_bodies A_began A_self A_kindOfSelf S_holds S_body S_sort S_size S_elements G_grown) H locs → lv_has ls 3 [(0, .ref (ρ 0)), (1, .int x1), (2, .int x2)] → W p l e (zrm d) s m args below meth c H locs 0 0 Q (F0 m 31 ls []) := by
    intro x1 x2 L_read L_end L_at L_fault L_d L_p L_y L_j L_o H locs ls h hW hl
    unfold f_X6_of_b31 at h
    refine lv_iload_n hx hb dX6_of_31 rfl (lv_at hl 2 rfl) ?_
    refine lv_bipush (v := 10) hx hb dX6_of_32 (by decide) ?_
    refine lv_icmp_ne (tgt := 66) hx hb dX6_of_34 (by decide) (fun c2 => ?_) (fun c2 => ?_)
    · have h := ifn c2 h
      refine lv_iload_n hx hb dX6_of_66 rfl (lv_at hl 2 rfl) ?_
      refine lv_bipush (v := 20) hx hb dX6_of_67 (by decide) ?_
      refine lv_icmp_eq (tgt := 78) hx hb dX6_of_69 (by decide) (fun c3 => ?_) (fun c3 => ?_)
      · have h := ifp c3 h
        exact b78 h hW (lv_sub hl [0, 1, 2] rfl)
      · have h := ifn c3 h
        refine lv_iload_n hx hb dX6_of_72 rfl (lv_at hl 2 rfl) ?_
        refine lv_bipush (v := 21) hx hb dX6_of_73 (by decide) ?_
        refine lv_icmp_ne (tgt := 117) hx hb dX6_of_75 (by decide) (fun c9 => ?_) (fun c9 => ?_)
        · have h := ifn c9 h
          refine lv_iconst (v := (-1)) hx hb dX6_of_117 (by decide) ?_
          have h := Option.some.inj h
          subst h
          exact hret _ _ _ _ _ dX6_of_118 rfl rfl hW
        · have h := ifp c9 h
          exact b78 h hW (lv_sub hl [0, 1, 2] rfl)
    · have h := ifp c2 h
      refine lv_iload_n hx hb dX6_of_37 rfl (lv_at hl 1 rfl) ?_
      refine lv_if_lt (tgt := 64) hx hb dX6_of_38 (by decide) (fun c10 => ?_) (fun c10 => ?_)
      · have h := ifp c10 h
        refine lv_iconst (v := (-1)) hx hb dX6_of_64 (by decide) ?_
        have h := Option.some.inj h
        subst h
        exact hret _ _ _ _ _ dX6_of_65 rfl rfl hW
      · have h := ifn c10 h
        refine lv_iload_n hx hb dX6_of_41 rfl (lv_at hl 1 rfl) ?_
        refine lv_aload_n hx hb dX6_of_42 rfl (lv_at hl 0 rfl) ?_
        refine z_get hC hW fg_X6_10 0 WC_0 rfl dX6_of_43 ?_
        refine z_get hC hW fg_X6_70 1 WC_1 rfl dX6_of_46 ?_
        refine lv_icmp_ge (tgt := 64) hx hb dX6_of_49 (by decide) (fun c11 => ?_) (fun c11 => ?_)
        · have h := ifp c11 h
          refine lv_iconst (v := (-1)) hx hb dX6_of_64 (by decide) ?_
          have h := Option.some.inj h
          subst h
          exact hret _ _ _ _ _ dX6_of_65 rfl rfl hW
        · have h := ifn c11 h
          refine lv_aload_n hx hb dX6_of_52 rfl (lv_at hl 0 rfl) ?_
          refine z_get hC hW fg_X6_10 0 WC_0 rfl dX6_of_53 ?_
          refine z_get hC hW fg_X6_124 1 WC_1 rfl dX6_of_56 ?_
          refine lv_iload_n hx hb dX6_of_59 rfl (lv_at hl 1 rfl) ?_
          obtain ⟨g12, h⟩ := ix_some h
          refine z_iald hC hW 10 WC_10 g12 dX6_of_60 ?_
          refine lv_goto (tgt := 65) hx hb dX6_of_61 (by decide) ?_
          have h := Option.some.inj h
          subst h
          exact hret _ _ _ _ _ dX6_of_65 rfl rfl hW
  unfold f_X6_of at h
  refine lv_iload_n hx hb dX6_of_0 rfl (lv_at hl 2 rfl) ?_
  refine lv_if_lt (tgt := 31) hx hb dX6_of_1 (by decide) (fun c1 => ?_) (fun c1 => ?_)
  · have h := ifp c1 h
    exact b31 h hW (lv_sub hl [0, 1, 2] rfl)
  · have h := ifn c1 h
    refine lv_iload_n hx hb dX6_of_4 rfl (lv_at hl 2 rfl) ?_
    refine lv_iconst (v := 3) hx hb dX6_of_5 (by decide) ?_
    refine lv_icmp_gt (tgt := 31) hx hb dX6_of_6 (by decide) (fun c13 => ?_) (fun c13 => ?_)
    · have h := ifp c13 h
      exact b31 h hW (lv_sub hl [0, 1, 2] rfl)
    · have h := ifn c13 h
      refine lv_aload_n hx hb dX6_of_9 rfl (lv_at hl 0 rfl) ?_
      refine z_get hC hW fg_X6_10 0 WC_0 rfl dX6_of_10 ?_
      refine lv_iload_n hx hb dX6_of_13 rfl (lv_at hl 1 rfl) ?_
      obtain ⟨u14, eu14, h⟩ := bd_some h
      refine z_callV_i hC hW (rest := []) (c_X5_isDoor (d := 0) (Nat.le_refl _) eu14) vw_X6_118 WC_1 rfl ⟨rfl, rfl⟩ (zrm_ok (by omega) (by decide)) rfl rfl hl.1 (Nat.le_of_ble_eq_true rfl) dX6_of_14 (fun H locs hW => ?_)
      refine lv_if_eq (tgt := 29) hx hb dX6_of_17 (by decide) (fun c15 => ?_) (fun c15 => ?_)
      · have h := ifp c15 h
        refine lv_iconst (v := (-1)) hx hb dX6_of_29 (by decide) ?_
        have h := Option.some.inj h
        subst h
        exact hret _ _ _ _ _ dX6_of_30 rfl rfl hW
      · have h := ifn c15 h
        refine lv_aload_n hx hb dX6_of_20 rfl (lv_at hl 0 rfl) ?_
        refine lv_iload_n hx hb dX6_of_21 rfl (lv_at hl 1 rfl) ?_
        refine lv_iload_n hx hb dX6_of_22 rfl (lv_at hl 2 rfl) ?_
        obtain ⟨u16, eu16, h⟩ := bd_some h
        refine z_callV_i hC hW (rest := []) (c_X6_ofDoor (d := 82) (Nat.le_refl _) eu16) vw_X6_121 WC_0 rfl ⟨rfl, rfl⟩ (zrm_ok (by omega) (by decide)) rfl rfl hl.1 (Nat.le_of_ble_eq_true rfl) dX6_of_23 (fun H locs hW => ?_)
        refine lv_goto (tgt := 30) hx hb dX6_of_26 (by decide) ?_
        have h := Option.some.inj h
        subst h
        exact hret _ _ _ _ _ dX6_of_30 rfl rfl hW
set_option maxHeartbeats 4000000 in
set_option maxRecDepth 100000 in
theorem c_X2_takeByte {a1 : Int32} {d : Nat} {res : Int32 × (Nat → Int32) × Int32} (hd : 0 ≤ d) (h : f_X2_takeByte a1 L_tape L_fed = some res) : zMi l yX2_takeByte cX2_takeByte 2 .int (zrm d) [.ref (ρ 2), .int a1] D q (WC q ρ T_price T_year T_joinEnds T_wallEnds T_cost T_doors T_joins T_walls T_oldWells T_apart L_tape L_text L_fed L_length L_read L_end L_at L_fault L_d L_p L_y L_j L_o P_away P_beside P_reach P_serves P_crowds P_servedLow P_servedHigh P_crowdedLow P_crowdedHigh P_there P_must P_can C_what C_number C_before C_after C_done C_kept A_kinds A_traced A_bodies A_began A_self A_kindOfSelf S_holds S_body S_sort S_size S_elements G_grown) sz res.1 (WC q ρ T_price T_year T_joinEnds T_wallEnds T_cost T_doors T_joins T_walls T_oldWells T_apart res.2.1 L_text res.2.2 L_length L_read L_end L_at L_fault L_d L_p L_y L_j L_o P_away P_beside P_reach P_serves P_crowds P_servedLow P_servedHigh P_crowdedLow P_crowdedHigh P_there P_must P_can C_what C_number C_before C_after C_done C_kept A_kinds A_traced A_bodies A_began A_self A_kindOfSelf S_holds S_body S_sort S_size S_elements G_grown) := by
  refine zMet_i (own := RX2) _ (by decide) rfl (Nat.le_of_ble_eq_true rfl) ?_
  intro p e s m args below meth c A ls Q hC hW hl hret
  have hx := hC.1
  have hb := hC.2.1
  have hl : lv_has ls 2 [(0, .ref (ρ 2)), (1, .int a1)] := hl
  unfold f_X2_takeByte at h
  refine lv_aload_n hx hb dX2_takeByte_0 rfl (lv_at hl 0 rfl) ?_
  refine z_get hC hW fg_X2_9 2 WC_2 rfl dX2_takeByte_1 ?_
  refine lv_aload_n hx hb dX2_takeByte_4 rfl (lv_at hl 0 rfl) ?_
  refine z_get hC hW fg_X2_21 2 WC_2 rfl dX2_takeByte_5 ?_
  refine lv_iload_n hx hb dX2_takeByte_8 rfl (lv_at hl 1 rfl) ?_
  refine lv_i2b hx hb dX2_takeByte_9 rfl ?_
  obtain ⟨g1, h⟩ := ix_some h
  refine z_bast hC hW 13 WC_13 g1 WCs_L_tape dX2_takeByte_10 (fun H locs hW => ?_)
  refine lv_aload_n hx hb dX2_takeByte_11 rfl (lv_at hl 0 rfl) ?_
  refine lv_dup hx hb dX2_takeByte_12 rfl ?_
  refine z_get hC hW fg_X2_21 2 WC_2 rfl dX2_takeByte_13 ?_
  refine lv_iconst (v := 1) hx hb dX2_takeByte_16 (by decide) ?_
  refine lv_iadd hx hb dX2_takeByte_17 ?_
  refine z_put hC hW fp_X2_21 2 WC_2 (Nat.le_of_ble_eq_true rfl) rfl rfl WCs_L_fed dX2_takeByte_18 (fun H locs hW => ?_)
  refine lv_aload_n hx hb dX2_takeByte_21 rfl (lv_at hl 0 rfl) ?_
  refine z_get hC hW fg_X2_21 2 WC_2 rfl dX2_takeByte_22 ?_
  have h := Option.some.inj h
  subst h
  exact hret _ _ _ _ _ dX2_takeByte_25 rfl rfl hW
set_option maxHeartbeats 4000000 in
set_option maxRecDepth 100000 in
theorem c_X6_feed {a1 : Int32} {d : Nat} {res : Int32 × (Nat → Int32) × Int32} (hd : 1 ≤ d) (h : f_X6_feed a1 L_tape L_fed = some res) : zMi l yX6_feed cX6_feed 2 .int (zrm d) [.ref (ρ 0), .int a1] D q (WC q ρ T_price T_year T_joinEnds T_wallEnds T_cost T_doors T_joins T_walls T_oldWells T_apart L_tape L_text L_fed L_length L_read L_end L_at L_fault L_d L_p L_y L_j L_o P_away P_beside P_reach P_serves P_crowds P_servedLow P_servedHigh P_crowdedLow P_crowdedHigh P_there P_must P_can C_what C_number C_before C_after C_done C_kept A_kinds A_traced A_bodies A_began A_self A_kindOfSelf S_holds S_body S_sort S_size S_elements G_grown) sz res.1 (WC q ρ T_price T_year T_joinEnds T_wallEnds T_cost T_doors T_joins T_walls T_oldWells T_apart res.2.1 L_text res.2.2 L_length L_read L_end L_at L_fault L_d L_p L_y L_j L_o P_away P_beside P_reach P_serves P_crowds P_servedLow P_servedHigh P_crowdedLow P_crowdedHigh P_there P_must P_can C_what C_number C_before C_after C_done C_kept A_kinds A_traced A_bodies A_began A_self A_kindOfSelf S_holds S_body S_sort S_size S_elements G_grown) := by
  refine zMet_i (own := RX6) _ (by decide) rfl (Nat.le_of_ble_eq_true rfl) ?_
  intro p e s m args below meth c A ls Q hC hW hl hret
  have hx := hC.1
  have hb := hC.2.1
  have hl : lv_has ls 2 [(0, .ref (ρ 0)), (1, .int a1)] := hl
  unfold f_X6_feed at h
  refine lv_iload_n hx hb dX6_feed_0 rfl (lv_at hl 1 rfl) ?_
  refine lv_sipush (v := 255) hx hb dX6_feed_1 (by decide) ?_
  obtain ⟨u1, eu1, h⟩ := bd_some h
  refine z_callS_i hC hW (rest := []) (c_X6_isWithin (d := 0) (Nat.le_refl _) eu1) sw_X6_55 ⟨rfl, rfl⟩ (zrm_ok (by omega) (by decide)) rfl rfl hl.1 (Nat.le_of_ble_eq_true rfl) dX6_feed_4 (fun H locs hW => ?_)
  refine lv_if_ne (tgt := 12) hx hb dX6_feed_7 (by decide) (fun c2 => ?_) (fun c2 => ?_)
  · have h := ifn c2 h
    refine lv_aload_n hx hb dX6_feed_12 rfl (lv_at hl 0 rfl) ?_
    refine z_get hC hW fg_X6_19 0 WC_0 rfl dX6_feed_13 ?_
    refine z_get hC hW fg_X6_137 2 WC_2 rfl dX6_feed_16 ?_
    refine lv_bipush (v := 120) hx hb dX6_feed_19 (by decide) ?_
    refine lv_icmp_lt (tgt := 29) hx hb dX6_feed_21 (by decide) (fun c3 => ?_) (fun c3 => ?_)
    · have h := ifp c3 h
      refine lv_aload_n hx hb dX6_feed_29 rfl (lv_at hl 0 rfl) ?_
      refine z_get hC hW fg_X6_19 0 WC_0 rfl dX6_feed_30 ?_
      refine lv_iload_n hx hb dX6_feed_33 rfl (lv_at hl 1 rfl) ?_
      obtain ⟨u4, eu4, h⟩ := bd_some h
      refine z_callV_i hC hW (rest := []) (c_X2_takeByte (d := 0) (Nat.le_refl _) eu4) vw_X6_140 WC_2 rfl ⟨rfl, rfl⟩ (zrm_ok (by omega) (by decide)) rfl rfl hl.1 (Nat.le_of_ble_eq_true rfl) dX6_feed_34 (fun H locs hW => ?_)
      have h := Option.some.inj h
      subst h
      exact hret _ _ _ _ _ dX6_feed_37 rfl rfl hW
    · have h := ifn c3 h
      refine lv_bipush (v := (-3)) hx hb dX6_feed_24 (by decide) ?_
      refine lv_goto (tgt := 37) hx hb dX6_feed_26 (by decide) ?_
      have h := Option.some.inj h
      subst h
      exact hret _ _ _ _ _ dX6_feed_37 rfl rfl hW
  · have h := ifp c2 h
    refine lv_iconst (v := (-1)) hx hb dX6_feed_10 (by decide) ?_
    have h := Option.some.inj h
    subst h
    exact hret _ _ _ _ _ dX6_feed_11 rfl rfl hW
set_option maxHeartbeats 4000000 in
set_option maxRecDepth 100000 in
theorem c_X2_next_r13 {d : Nat} {res : Int32} (hd : 0 ≤ d) (h : f_X2_next_r13 L_tape L_end L_at L_fault = some res) : zMi l yX2_next cX2_next 1 .int (zrm d) [.ref (ρ 2)] D q (WC q ρ T_price T_year T_joinEnds T_wallEnds T_cost T_doors T_joins T_walls T_oldWells T_apart L_tape L_text L_fed L_length 13 L_end L_at L_fault L_d L_p L_y L_j L_o P_away P_beside P_reach P_serves P_crowds P_servedLow P_servedHigh P_crowdedLow P_crowdedHigh P_there P_must P_can C_what C_number C_before C_after C_done C_kept A_kinds A_traced A_bodies A_began A_self A_kindOfSelf S_holds S_body S_sort S_size S_elements G_grown) sz res (WC q ρ T_price T_year T_joinEnds T_wallEnds T_cost T_doors T_joins T_walls T_oldWells T_apart L_tape L_text L_fed L_length 13 L_end L_at L_fault L_d L_p L_y L_j L_o P_away P_beside P_reach P_serves P_crowds P_servedLow P_servedHigh P_crowdedLow P_crowdedHigh P_there P_must P_can C_what C_number C_before C_after C_done C_kept A_kinds A_traced A_bodies A_began A_self A_kindOfSelf S_holds S_body S_sort S_size S_elements G_grown) := by
  refine zMet_i (own := RX2) _ (by decide) rfl (Nat.le_of_ble_eq_true rfl) ?_
  intro p e s m args below meth c A ls Q hC hW hl hret
  have hx := hC.1
  have hb := hC.2.1
  have hl : lv_has ls 1 [(0, .ref (ρ 2))] := hl
  unfold f_X2_next_r13 at h
  refine lv_aload_n hx hb dX2_next_0 rfl (lv_at hl 0 rfl) ?_
  refine z_get hC hW fg_X2_29 2 WC_2 rfl dX2_next_1 ?_
  refine lv_if_ge (tgt := 46) hx hb dX2_next_4 (by decide) (fun c1 => ?_) (fun c1 => ?_)
  · have h := ifp c1 h
    refine lv_iconst (v := (-1)) hx hb dX2_next_46 (by decide) ?_
    have h := Option.some.inj h
    subst h
    exact hret _ _ _ _ _ dX2_next_47 rfl rfl hW
  · have h := ifn c1 h
    refine lv_aload_n hx hb dX2_next_7 rfl (lv_at hl 0 rfl) ?_
    refine z_get hC hW fg_X2_80 2 WC_2 rfl dX2_next_8 ?_
    refine lv_aload_n hx hb dX2_next_11 rfl (lv_at hl 0 rfl) ?_
    refine z_get hC hW fg_X2_77 2 WC_2 rfl dX2_next_12 ?_
    refine lv_icmp_ge (tgt := 46) hx hb dX2_next_15 (by decide) (fun c2 => ?_) (fun c2 => ?_)
    · have h := ifp c2 h
      refine lv_iconst (v := (-1)) hx hb dX2_next_46 (by decide) ?_
      have h := Option.some.inj h
      subst h
      exact hret _ _ _ _ _ dX2_next_47 rfl rfl hW
    · have h := ifn c2 h
      refine lv_aload_n hx hb dX2_next_18 rfl (lv_at hl 0 rfl) ?_
      refine z_get hC hW fg_X2_80 2 WC_2 rfl dX2_next_19 ?_
      refine lv_aload_n hx hb dX2_next_22 rfl (lv_at hl 0 rfl) ?_
      refine z_get hC hW fg_X2_18 2 WC_2 rfl dX2_next_23 ?_
      refine z_alen hC hW 13 1 WC_13 rfl (v := 120) rfl dX2_next_26 ?_
      refine lv_icmp_ge (tgt := 46) hx hb dX2_next_27 (by decide) (fun c3 => ?_) (fun c3 => ?_)
      · have h := ifp c3 h
        refine lv_iconst (v := (-1)) hx hb dX2_next_46 (by decide) ?_
        have h := Option.some.inj h
        subst h
        exact hret _ _ _ _ _ dX2_next_47 rfl rfl hW
      · have h := ifn c3 h
        refine lv_aload_n hx hb dX2_next_30 rfl (lv_at hl 0 rfl) ?_
        refine z_get hC hW fg_X2_18 2 WC_2 rfl dX2_next_31 ?_
        refine lv_aload_n hx hb dX2_next_34 rfl (lv_at hl 0 rfl) ?_
        refine z_get hC hW fg_X2_80 2 WC_2 rfl dX2_next_35 ?_
        obtain ⟨g4, h⟩ := ix_some h
        refine z_bald hC hW 13 WC_13 g4 dX2_next_38 ?_
        refine lv_sipush (v := 255) hx hb dX2_next_39 (by decide) ?_
        refine lv_iand hx hb dX2_next_42 ?_
        refine lv_goto (tgt := 47) hx hb dX2_next_43 (by decide) ?_
        have h := Option.some.inj h
        subst h
        exact hret _ _ _ _ _ dX2_next_47 rfl rfl hW
set_option maxHeartbeats 4000000 in
set_option maxRecDepth 100000 in
theorem c_X2_number_r13 {d : Nat} {res : Int32 × Int32} (hd : 1 ≤ d) (h : f_X2_number_r13 L_tape L_end L_at L_fault = some res) : zMi l yX2_number cX2_number 3 .int (zrm d) [.ref (ρ 2)] D q (WC q ρ T_price T_year T_joinEnds T_wallEnds T_cost T_doors T_joins T_walls T_oldWells T_apart L_tape L_text L_fed L_length 13 L_end L_at L_fault L_d L_p L_y L_j L_o P_away P_beside P_reach P_serves P_crowds P_servedLow P_servedHigh P_crowdedLow P_crowdedHigh P_there P_must P_can C_what C_number C_before C_after C_done C_kept A_kinds A_traced A_bodies A_began A_self A_kindOfSelf S_holds S_body S_sort S_size S_elements G_grown) sz res.1 (WC q ρ T_price T_year T_joinEnds T_wallEnds T_cost T_doors T_joins T_walls T_oldWells T_apart L_tape L_text L_fed L_length 13 L_end res.2 L_fault L_d L_p L_y L_j L_o P_away P_beside P_reach P_serves P_crowds P_servedLow P_servedHigh P_crowdedLow P_crowdedHigh P_there P_must P_can C_what C_number C_before C_after C_done C_kept A_kinds A_traced A_bodies A_began A_self A_kindOfSelf S_holds S_body S_sort S_size S_elements G_grown) := by
  refine zMet_i (own := RX2) _ (by decide) rfl (Nat.le_of_ble_eq_true rfl) ?_
  intro p e s m args below meth c A ls Q hC hW hl hret
  have hx := hC.1
  have hb := hC.2.1
  have hl : lv_has ls 3 [(0, .ref (ρ 2))] := hl
  have b4 : ∀ {n : Nat} {x1 : Int32} {x2 : Int32} {L_at : Int32} {H : Heap} {locs : List Loc} {ls : Array Slot}, f_X2_number_r13_b4 L_tape L_end L_fault n x1 x2 L_at = some res → zW D A s.heap (WC q ρ T_price T_year T_joinEnds T_wallEnds T_cost T_doors T_joins T_walls T_oldWells T_apart L_tape L_text L_fed L_length 13 L_end L_at L_fault L_d L_p L_y L_j L_o P_away P_beside P_reach P_serves P_crowds P_servedLow P_servedHigh P_crowdedLow P_crowdedHigh P_there P_must P_can C_what C_number C_before C_after C_done C_kept A_kinds A_traced A_bodies A_began A_self A_kindOfSelf S_holds S_body S_sort S_size S_elements G_grown) H locs → lv_has ls 3 [(0, .ref (ρ 2)), (1, .int x1), (2, .int x2)] → W p l e (zrm d) s m args below meth c H locs 0 0 Q (F0 m 4 ls []) := by
    intro n
    induction n with
    | zero =>
      intro x1 x2 L_at H locs ls h
      rw [f_X2_number_r13_b4] at h
      cases h
    | succ n ih =>
      intro x1 x2 L_at H locs ls h hW hl
      rw [f_X2_number_r13_b4] at h
      refine lv_iload_n hx hb dX2_number_4 rfl (lv_at hl 2 rfl) ?_
      refine lv_iconst (v := 4) hx hb dX2_number_5 (by decide) ?_
      refine lv_icmp_ge (tgt := 48) hx hb dX2_number_6 (by decide) (fun c1 => ?_) (fun c1 => ?_)
      · have h := ifp c1 h
        refine lv_iload_n hx hb dX2_number_48 rfl (lv_at hl 1 rfl) ?_
        have h := Option.some.inj h
        subst h
        exact hret _ _ _ _ _ dX2_number_49 rfl rfl hW
      · have h := ifn c1 h
        refine lv_aload_n hx hb dX2_number_9 rfl (lv_at hl 0 rfl) ?_
        obtain ⟨u2, eu2, h⟩ := bd_some h
        refine z_callV_i hC hW (rest := []) (c_X2_next_r13 (d := 0) (Nat.le_refl _) eu2) vw_X2_86 WC_2 rfl ⟨rfl, rfl⟩ (zrm_ok (by omega) (by decide)) rfl rfl hl.1 (Nat.le_of_ble_eq_true rfl) dX2_number_10 (fun H locs hW => ?_)
        obtain ⟨u3, eu3, h⟩ := bd_some h
        refine z_callS_i hC hW (rest := []) (c_X2_isDigit (d := 0) (Nat.le_refl _) eu3) sw_X2_104 ⟨rfl, rfl⟩ (zrm_ok (by omega) (by decide)) rfl rfl hl.1 (Nat.le_of_ble_eq_true rfl) dX2_number_13 (fun H locs hW => ?_)
        refine lv_if_eq (tgt := 48) hx hb dX2_number_16 (by decide) (fun c4 => ?_) (fun c4 => ?_)
        · have h := ifp c4 h
          refine lv_iload_n hx hb dX2_number_48 rfl (lv_at hl 1 rfl) ?_
          have h := Option.some.inj h
          subst h
          exact hret _ _ _ _ _ dX2_number_49 rfl rfl hW
        · have h := ifn c4 h
          refine lv_bipush (v := 10) hx hb dX2_number_19 (by decide) ?_
          refine lv_iload_n hx hb dX2_number_21 rfl (lv_at hl 1 rfl) ?_
          refine lv_imul hx hb dX2_number_22 ?_
          refine lv_aload_n hx hb dX2_number_23 rfl (lv_at hl 0 rfl) ?_
          obtain ⟨u5, eu5, h⟩ := bd_some h
          refine z_callV_i hC hW (rest := [.int (10 * x1)]) (c_X2_next_r13 (d := 0) (Nat.le_refl _) eu5) vw_X2_86 WC_2 rfl ⟨rfl, rfl⟩ (zrm_ok (by omega) (by decide)) rfl rfl hl.1 (Nat.le_of_ble_eq_true rfl) dX2_number_24 (fun H locs hW => ?_)
          refine lv_iadd hx hb dX2_number_27 ?_
          refine lv_bipush (v := 48) hx hb dX2_number_28 (by decide) ?_
          refine lv_isub hx hb dX2_number_30 ?_
          refine lv_istore_n (lv' := [(1, .int (((10 * x1) + u5) - 48)), (0, .ref (ρ 2)), (2, .int x2)]) hx hb dX2_number_31 rfl hl (by decide) rfl (fun ls hl => ?_)
          refine lv_aload_n hx hb dX2_number_32 rfl (lv_at hl 1 rfl) ?_
          refine lv_dup hx hb dX2_number_33 rfl ?_
          refine z_get hC hW fg_X2_80 2 WC_2 rfl dX2_number_34 ?_
          refine lv_iconst (v := 1) hx hb dX2_number_37 (by decide) ?_
          refine lv_iadd hx hb dX2_number_38 ?_
          refine z_put hC hW fp_X2_80 2 WC_2 (Nat.le_of_ble_eq_true rfl) rfl rfl WCs_L_at dX2_number_39 (fun H locs hW => ?_)
          refine lv_iinc (v := (x2 + 1)) (lv' := [(2, .int (x2 + 1)), (1, .int (((10 * x1) + u5) - 48)), (0, .ref (ρ 2))]) hx hb dX2_number_42 hl (k := 2) rfl rfl (by decide) rfl (fun ls hl => ?_)
          refine lv_goto (tgt := 4) hx hb dX2_number_45 (by decide) ?_
          exact ih h hW (lv_sub hl [2, 1, 0] rfl)
  unfold f_X2_number_r13 at h
  refine lv_iconst (v := 0) hx hb dX2_number_0 (by decide) ?_
  refine lv_istore_n (lv' := [(1, .int 0), (0, .ref (ρ 2))]) hx hb dX2_number_1 rfl hl (by decide) rfl (fun ls hl => ?_)
  refine lv_iconst (v := 0) hx hb dX2_number_2 (by decide) ?_
  refine lv_istore_n (lv' := [(2, .int 0), (1, .int 0), (0, .ref (ρ 2))]) hx hb dX2_number_3 rfl hl (by decide) rfl (fun ls hl => ?_)
  exact b4 h hW (lv_sub hl [2, 1, 0] rfl)
end CT20_c05
