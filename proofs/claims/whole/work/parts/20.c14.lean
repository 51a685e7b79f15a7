section CT20_c14
variable {l : Launch} {D : va_G} {q : Nat → ClassId} {ρ : Nat → Nat} {sz : Nat} {T_price : Nat → Int32} {T_year : Nat → Int32} {T_joinEnds : Nat → Int32} {T_wallEnds : Nat → Int32} {T_cost : Nat → Int32} {T_doors : Int32} {T_joins : Int32} {T_walls : Int32} {T_oldWells : Int32} {T_apart : Int32} {L_tape : Nat → Int32} {L_text : Nat → Int32} {L_fed : Int32} {L_length : Int32} {L_read : Nat} {L_end : Int32} {L_at : Int32} {L_fault : Int32} {L_d : Int32} {L_p : Int32} {L_y : Int32} {L_j : Int32} {L_o : Int32} {P_away : Nat → Nat → Int32} {P_beside : Nat → Int32} {P_reach : Nat → Int32} {P_serves : Nat → Int32} {P_crowds : Nat → Int32} {P_servedLow : Nat → Int32} {P_servedHigh : Nat → Int32} {P_crowdedLow : Nat → Int32} {P_crowdedHigh : Nat → Int32} {P_there : Int32} {P_must : Int32} {P_can : Int32} {C_what : Nat → Int32} {C_number : Nat → Int32} {C_before : Nat → Int32} {C_after : Nat → Int32} {C_done : Int32} {C_kept : Int32} {A_kinds : Nat → Int32} {A_traced : Nat → Int32} {A_bodies : Int32} {A_began : Int32} {A_self : Int32} {A_kindOfSelf : Int32} {S_holds : Nat → Int32} {S_body : Nat → Int32} {S_sort : Nat → Int32} {S_size : Nat → Int32} {S_elements : Nat → Nat → Int64} {G_grown : Nat → Int32}
set_option maxHeartbeats 4000000 in
set_option maxRecDepth 100000 in
theorem c_X6_goes {a1 : Int32} {a2 : Int32} {d : Nat} {res : Int32 × Nat × Int32 × Int32 × Int32 × Int32 × Int32 × Int32 × Int32 × Int32 × (Nat → Nat → Int32) × (Nat → Int32) × (Nat → Int32) × (Nat → Int32) × (Nat → Int32) × (Nat → Int32) × (Nat → Int32) × (Nat → Int32) × (Nat → Int32) × Int32 × Int32 × Int32} (hd : 84 ≤ d) (h : f_X6_goes a1 a2 T_price T_year T_joinEnds T_wallEnds T_doors T_joins T_walls T_oldWells T_apart L_text L_length L_read L_end L_at L_fault L_d L_p L_y L_j L_o P_away P_beside P_reach P_serves P_crowds P_servedLow P_servedHigh P_crowdedLow P_crowdedHigh P_there P_must P_can = some res) : zMi l yX6_goes cX6_goes 3 .int (zrm d) [.ref (ρ 0), .int a1, .int a2] D q (WC q ρ T_price T_year T_joinEnds T_wallEnds T_cost T_doors T_joins T_walls T_oldWells T_apart L_tape L_text L_fed L_length L_read L_end L_at L_fault L_d L_p L_y L_j L_o P_away P_beside P_reach P_serves P_crowds P_servedLow P_servedHigh P_crowdedLow P_crowdedHigh P_there P_must P_can C_what C_number C_before C_after C_done C_kept A_kinds A_traced A_bodies A_began A_self A_kindOfSelf S_holds S_body S_sort S_size S_elements G_grown) sz res.1 (WC q ρ T_price T_year T_joinEnds T_wallEnds T_cost T_doors T_joins T_walls T_oldWells T_apart L_tape L_text L_fed L_length res.2.1 res.2.2.1 res.2.2.2.1 res.2.2.2.2.1 res.2.2.2.2.2.1 res.2.2.2.2.2.2.1 res.2.2.2.2.2.2.2.1 res.2.2.2.2.2.2.2.2.1 res.2.2.2.2.2.2.2.2.2.1 res.2.2.2.2.2.2.2.2.2.2.1 res.2.2.2.2.2.2.2.2.2.2.2.1 res.2.2.2.2.2.2.2.2.2.2.2.2.1 res.2.2.2.2.2.2.2.2.2.2.2.2.2.1 res.2.2.2.2.2.2.2.2.2.2.2.2.2.2.1 res.2.2.2.2.2.2.2.2.2.2.2.2.2.2.2.1 res.2.2.2.2.2.2.2.2.2.2.2.2.2.2.2.2.1 res.2.2.2.2.2.2.2.2.2.2.2.2.2.2.2.2.2.1 res.2.2.2.2.2.2.2.2.2.2.2.2.2.2.2.2.2.2.1 res.2.2.2.2.2.2.2.2.2.2.2.2.2.2.2.2.2.2.2.1 res.2.2.2.2.2.2.2.2.2.2.2.2.2.2.2.2.2.2.2.2.1 res.2.2.2.2.2.2.2.2.2.2.2.2.2.2.2.2.2.2.2.2.2 C_what C_number C_before C_after C_done C_kept A_kinds A_traced A_bodies A_began A_self A_kindOfSelf S_holds S_body S_sort S_size S_elements G_grown) := by
  refine zMet_i (own := RX6) _ (by decide) rfl (Nat.le_of_ble_eq_true rfl) ?_
  intro p e s m args below meth c A ls Q hC hW hl hret
  have hx := hC.1
  have hb := hC.2.1
  have hl : lv_has ls 3 [(0, .ref (ρ 0)), (1, .int a1), (2, .int a2)] := hl
  unfold f_X6_goes at h
  refine lv_aload_n hx hb dX6_goes_0 rfl (lv_at hl 0 rfl) ?_
  refine z_get hC hW fg_X6_10 0 WC_0 rfl dX6_goes_1 ?_
  refine lv_iload_n hx hb dX6_goes_4 rfl (lv_at hl 1 rfl) ?_
  obtain ⟨u1, eu1, h⟩ := bd_some h
  refine z_callV_i hC hW (rest := []) (c_X5_areDoors (d := 1) (Nat.le_refl _) eu1) vw_X6_97 WC_1 rfl ⟨rfl, rfl⟩ (zrm_ok (by omega) (by decide)) rfl rfl hl.1 (Nat.le_of_ble_eq_true rfl) dX6_goes_5 (fun H locs hW => ?_)
  refine lv_if_eq (tgt := 22) hx hb dX6_goes_8 (by decide) (fun c2 => ?_) (fun c2 => ?_)
  · have h := ifp c2 h
    refine lv_iconst (v := (-1)) hx hb dX6_goes_22 (by decide) ?_
    have h := Option.some.inj h
    subst h
    exact hret _ _ _ _ _ dX6_goes_23 rfl rfl hW
  · have h := ifn c2 h
    refine lv_aload_n hx hb dX6_goes_11 rfl (lv_at hl 0 rfl) ?_
    refine z_get hC hW fg_X6_10 0 WC_0 rfl dX6_goes_12 ?_
    refine lv_iload_n hx hb dX6_goes_15 rfl (lv_at hl 2 rfl) ?_
    obtain ⟨u3, eu3, h⟩ := bd_some h
    refine z_callV_i hC hW (rest := []) (c_X5_isDoor (d := 0) (Nat.le_refl _) eu3) vw_X6_118 WC_1 rfl ⟨rfl, rfl⟩ (zrm_ok (by omega) (by decide)) rfl rfl hl.1 (Nat.le_of_ble_eq_true rfl) dX6_goes_16 (fun H locs hW => ?_)
    refine lv_if_ne (tgt := 24) hx hb dX6_goes_19 (by decide) (fun c4 => ?_) (fun c4 => ?_)
    · have h := ifn c4 h
      refine lv_aload_n hx hb dX6_goes_24 rfl (lv_at hl 0 rfl) ?_
      obtain ⟨u5, eu5, h⟩ := bd_some h
      refine z_callV_v hC hW (rest := []) (c_X6_settle (d := 83) (Nat.le_refl _) eu5) vw_X6_147 WC_0 rfl ⟨rfl, rfl⟩ (zrm_ok (by omega) (by decide)) rfl rfl hl.1 (Nat.le_of_ble_eq_true rfl) dX6_goes_25 (fun H locs hW => ?_)
      refine lv_aload_n hx hb dX6_goes_28 rfl (lv_at hl 0 rfl) ?_
      refine z_get hC hW fg_X6_26 0 WC_0 rfl dX6_goes_29 ?_
      refine lv_iload_n hx hb dX6_goes_32 rfl (lv_at hl 1 rfl) ?_
      refine lv_iload_n hx hb dX6_goes_33 rfl (lv_at hl 2 rfl) ?_
      obtain ⟨u6, eu6, h⟩ := bd_some h
      refine z_callV_i hC hW (rest := []) (c_X3_nearest (d := 0) (Nat.le_refl _) eu6) vw_X6_207 WC_3 rfl ⟨rfl, rfl⟩ (zrm_ok (by omega) (by decide)) rfl rfl hl.1 (Nat.le_of_ble_eq_true rfl) dX6_goes_34 (fun H locs hW => ?_)
      have h := Option.some.inj h
      subst h
      exact hret _ _ _ _ _ dX6_goes_37 rfl rfl hW
    · have h := ifp c4 h
      refine lv_iconst (v := (-1)) hx hb dX6_goes_22 (by decide) ?_
      have h := Option.some.inj h
      subst h
      exact hret _ _ _ _ _ dX6_goes_23 rfl rfl hW
set_option maxHeartbeats 4000000 in
set_option maxRecDepth 100000 in
theorem c_X6_worth {a1 : Int32} {a2 : Int32} {d : Nat} {res : Int32 × Nat × Int32 × Int32 × Int32 × Int32 × Int32 × Int32 × Int32 × Int32 × (Nat → Nat → Int32) × (Nat → Int32) × (Nat → Int32) × (Nat → Int32) × (Nat → Int32) × (Nat → Int32) × (Nat → Int32) × (Nat → Int32) × (Nat → Int32) × Int32 × Int32 × Int32} (hd : 84 ≤ d) (h : f_X6_worth a1 a2 T_price T_year T_joinEnds T_wallEnds T_doors T_joins T_walls T_oldWells T_apart L_text L_length L_read L_end L_at L_fault L_d L_p L_y L_j L_o P_away P_beside P_reach P_serves P_crowds P_servedLow P_servedHigh P_crowdedLow P_crowdedHigh P_there P_must P_can = some res) : zMi l yX6_worth cX6_worth 5 .int (zrm d) [.ref (ρ 0), .int a1, .int a2] D q (WC q ρ T_price T_year T_joinEnds T_wallEnds T_cost T_doors T_joins T_walls T_oldWells T_apart L_tape L_text L_fed L_length L_read L_end L_at L_fault L_d L_p L_y L_j L_o P_away P_beside P_reach P_serves P_crowds P_servedLow P_servedHigh P_crowdedLow P_crowdedHigh P_there P_must P_can C_what C_number C_before C_after C_done C_kept A_kinds A_traced A_bodies A_began A_self A_kindOfSelf S_holds S_body S_sort S_size S_elements G_grown) sz res.1 (WC q ρ T_price T_year T_joinEnds T_wallEnds T_cost T_doors T_joins T_walls T_oldWells T_apart L_tape L_text L_fed L_length res.2.1 res.2.2.1 res.2.2.2.1 res.2.2.2.2.1 res.2.2.2.2.2.1 res.2.2.2.2.2.2.1 res.2.2.2.2.2.2.2.1 res.2.2.2.2.2.2.2.2.1 res.2.2.2.2.2.2.2.2.2.1 res.2.2.2.2.2.2.2.2.2.2.1 res.2.2.2.2.2.2.2.2.2.2.2.1 res.2.2.2.2.2.2.2.2.2.2.2.2.1 res.2.2.2.2.2.2.2.2.2.2.2.2.2.1 res.2.2.2.2.2.2.2.2.2.2.2.2.2.2.1 res.2.2.2.2.2.2.2.2.2.2.2.2.2.2.2.1 res.2.2.2.2.2.2.2.2.2.2.2.2.2.2.2.2.1 res.2.2.2.2.2.2.2.2.2.2.2.2.2.2.2.2.2.1 res.2.2.2.2.2.2.2.2.2.2.2.2.2.2.2.2.2.2.1 res.2.2.2.2.2.2.2.2.2.2.2.2.2.2.2.2.2.2.2.1 res.2.2.2.2.2.2.2.2.2.2.2.2.2.2.2.2.2.2.2.2.1 res.2.2.2.2.2.2.2.2.2.2.2.2.2.2.2.2.2.2.2.2.2 C_what C_number C_before C_after C_done C_kept A_kinds A_traced A_bodies A_began A_self A_kindOfSelf S_holds S_body S_sort S_size S_elements G_grown) := by
  refine zMet_i (own := RX6) _ (by decide) rfl (Nat.le_of_ble_eq_true rfl) ?_
  intro p e s m args below meth c A ls Q hC hW hl hret
  have hx := hC.1
  have hb := hC.2.1
  have hl : lv_has ls 5 [(0, .ref (ρ 0)), (1, .int a1), (2, .int a2)] := hl
  have b49 : ∀ {x1 : Int32} {x2 : Int32} {x3 : Int32} {x4 : Int32} {L_read : Nat} {L_end : Int32} {L_at : Int32} {L_fault : Int32} {L_d : Int32} {L_p : Int32} {L_y : Int32} {L_j : Int32} {L_o : Int32} {P_away : Nat → Nat → Int32} {P_beside : Nat → Int32} {P_reach : Nat → Int32} {P_serves : Nat → Int32} {P_crowds : Nat → Int32} {P_servedLow : Nat → Int32} {P_servedHigh : Nat → Int32} {P_crowdedLow : Nat → Int32} {P_crowdedHigh : Nat → Int32} {P_there : Int32} {P_must : Int32} {P_can : Int32} {k20 : Int32 → Int32 → Option (Int32 × Nat × Int32 × Int32 × Int32 × Int32 × Int32 × Int32 × Int32 × Int32 × (Nat → Nat → Int32) × (Nat → Int32) × (Nat → Int32) × (Nat → Int32) × (Nat → Int32) × (Nat → Int32) × (Nat → Int32) × (Nat → Int32) × (Nat → Int32) × Int32 × Int32 × Int32)} (hk20 : ∀ {x3 : Int32} {x4 : Int32} {H : Heap} {locs : List Loc} {ls : Array Slot}, k20 x3 x4 = some res → zW D A s.heap (WC q ρ T_price T_year T_joinEnds T_wallEnds T_cost T_doors T_joins T_walls T_oldWells T_apart L_tape L_text L_fed L_length L_read L_end L_at L_fault L_d L_p L_y L_j L_o P_away P_beside P_reach P_serves P_crowds P_servedLow P_servedHigh P_crowdedLow P_crowdedHigh P_there P_must P_can C_what C_number C_before C_after C_done C_kept A_kinds A_traced A_bodies A_began A_self A_kindOfSelf S_holds S_body S_sort S_size S_elements G_grown) H locs → lv_has ls 5 [(0, .ref (ρ 0)), (1, .int x1), (2, .int x2), (3, .int x3), (4, .int x4)] → W p l e (zrm d) s m args below meth c H locs 0 0 Q (F0 m 20 ls [])) {H : Heap} {locs : List Loc} {ls : Array Slot}, f_X6_worth_b49 k20 x1 x2 x3 x4 T_doors L_read L_end L_at L_fault L_d L_p L_y L_j L_o P_away P_beside P_reach P_serves P_crowds P_servedLow P_servedHigh P_crowdedLow P_crowdedHigh P_there P_must P_can = some res → zW D A s.heap (WC q ρ T_price T_year T_joinEnds T_wallEnds T_cost T_doors T_joins T_walls T_oldWells T_apart L_tape L_text L_fed L_length L_read L_end L_at L_fault L_d L_p L_y L_j L_o P_away P_beside P_reach P_serves P_crowds P_servedLow P_servedHigh P_crowdedLow P_crowdedHigh P_there P_must P_can C_what C_number C_before C_after C_done C_kept A_kinds A_traced A_bodies A_began A_self A_kindOfSelf S_holds S_body S_sort S_size S_elements G_grown) H locs → lv_has ls 5 [(0, .ref (ρ 0)), (1, .int x1), (2, .int x2), (3, .int x3), (4, .int x4)] → W p l e (zrm d) s m args below meth c H locs 0 0 Q (F0 m 49 ls []) := by
    intro x1 x2 x3 x4 L_read L_end L_at L_fault L_d L_p L_y L_j L_o P_away P_beside P_reach P_serves P_crowds P_servedLow P_servedHigh P_crowdedLow P_crowdedHigh P_there P_must P_can k20 hk20 H locs ls h hW hl
    unfold f_X6_worth_b49 at h
    refine lv_iinc (v := (x4 + 1)) (lv' := [(4, .int (x4 + 1)), (0, .ref (ρ 0)), (1, .int x1), (2, .int x2), (3, .int x3)]) hx hb dX6_worth_49 hl (k := 4) rfl rfl (by decide) rfl (fun ls hl => ?_)
    refine lv_goto (tgt := 20) hx hb dX6_worth_52 (by decide) ?_
    exact hk20 h hW (lv_sub hl [1, 2, 3, 4, 0] rfl)
  have b20 : ∀ {x1 : Int32} {x2 : Int32} {L_read : Nat} {L_end : Int32} {L_at : Int32} {L_fault : Int32} {L_d : Int32} {L_p : Int32} {L_y : Int32} {L_j : Int32} {L_o : Int32} {P_away : Nat → Nat → Int32} {P_beside : Nat → Int32} {P_reach : Nat → Int32} {P_serves : Nat → Int32} {P_crowds : Nat → Int32} {P_servedLow : Nat → Int32} {P_servedHigh : Nat → Int32} {P_crowdedLow : Nat → Int32} {P_crowdedHigh : Nat → Int32} {P_there : Int32} {P_must : Int32} {P_can : Int32} {n : Nat} {x3 : Int32} {x4 : Int32} {H : Heap} {locs : List Loc} {ls : Array Slot}, f_X6_worth_b20 x1 x2 T_doors L_read L_end L_at L_fault L_d L_p L_y L_j L_o P_away P_beside P_reach P_serves P_crowds P_servedLow P_servedHigh P_crowdedLow P_crowdedHigh P_there P_must P_can n x3 x4 = some res → zW D A s.heap (WC q ρ T_price T_year T_joinEnds T_wallEnds T_cost T_doors T_joins T_walls T_oldWells T_apart L_tape L_text L_fed L_length L_read L_end L_at L_fault L_d L_p L_y L_j L_o P_away P_beside P_reach P_serves P_crowds P_servedLow P_servedHigh P_crowdedLow P_crowdedHigh P_there P_must P_can C_what C_number C_before C_after C_done C_kept A_kinds A_traced A_bodies A_began A_self A_kindOfSelf S_holds S_body S_sort S_size S_elements G_grown) H locs → lv_has ls 5 [(0, .ref (ρ 0)), (1, .int x1), (2, .int x2), (3, .int x3), (4, .int x4)] → W p l e (zrm d) s m args below meth c H locs 0 0 Q (F0 m 20 ls []) := by
    intro x1 x2 L_read L_end L_at L_fault L_d L_p L_y L_j L_o P_away P_beside P_reach P_serves P_crowds P_servedLow P_servedHigh P_crowdedLow P_crowdedHigh P_there P_must P_can
    intro n
    induction n with
    | zero =>
      intro x3 x4 H locs ls h
      rw [f_X6_worth_b20] at h
      cases h
    | succ n ih =>
      intro x3 x4 H locs ls h hW hl
      rw [f_X6_worth_b20] at h
      refine lv_iload hx hb dX6_worth_20 (lv_at hl 4 rfl) ?_
      refine lv_aload_n hx hb dX6_worth_22 rfl (lv_at hl 0 rfl) ?_
      refine z_get hC hW fg_X6_10 0 WC_0 rfl dX6_worth_23 ?_
      refine z_get hC hW fg_X6_59 1 WC_1 rfl dX6_worth_26 ?_
      refine lv_icmp_ge (tgt := 55) hx hb dX6_worth_29 (by decide) (fun c4 => ?_) (fun c4 => ?_)
      · have h := ifp c4 h
        refine lv_iload_n hx hb dX6_worth_55 rfl (lv_at hl 3 rfl) ?_
        have h := Option.some.inj h
        subst h
        exact hret _ _ _ _ _ dX6_worth_56 rfl rfl hW
      · have h := ifn c4 h
        refine lv_aload_n hx hb dX6_worth_32 rfl (lv_at hl 0 rfl) ?_
        refine z_get hC hW fg_X6_26 0 WC_0 rfl dX6_worth_33 ?_
        refine lv_iload_n hx hb dX6_worth_36 rfl (lv_at hl 1 rfl) ?_
        refine lv_iload hx hb dX6_worth_37 (lv_at hl 4 rfl) ?_
        obtain ⟨u5, eu5, h⟩ := bd_some h
        refine z_callV_i hC hW (rest := []) (c_X3_nearest (d := 0) (Nat.le_refl _) eu5) vw_X6_207 WC_3 rfl ⟨rfl, rfl⟩ (zrm_ok (by omega) (by decide)) rfl rfl hl.1 (Nat.le_of_ble_eq_true rfl) dX6_worth_39 (fun H locs hW => ?_)
        refine lv_iload_n hx hb dX6_worth_42 rfl (lv_at hl 2 rfl) ?_
        refine lv_icmp_ne (tgt := 49) hx hb dX6_worth_43 (by decide) (fun c6 => ?_) (fun c6 => ?_)
        · have h := ifn c6 h
          exact b49 ih h hW (lv_sub hl [0, 1, 2, 3, 4] rfl)
        · have h := ifp c6 h
          refine lv_iinc (v := (x3 + 1)) (lv' := [(3, .int (x3 + 1)), (0, .ref (ρ 0)), (1, .int x1), (2, .int x2), (4, .int x4)]) hx hb dX6_worth_46 hl (k := 3) rfl rfl (by decide) rfl (fun ls hl => ?_)
          exact b49 ih h hW (lv_sub hl [1, 2, 3, 0, 4] rfl)
  unfold f_X6_worth at h
  refine lv_aload_n hx hb dX6_worth_0 rfl (lv_at hl 0 rfl) ?_
  refine lv_iload_n hx hb dX6_worth_1 rfl (lv_at hl 1 rfl) ?_
  refine lv_iload_n hx hb dX6_worth_2 rfl (lv_at hl 2 rfl) ?_
  obtain ⟨u1, eu1, h⟩ := bd_some h
  refine z_callV_i hC hW (rest := []) (c_X6_hasWell (d := 2) (Nat.le_refl _) eu1) vw_X6_179 WC_0 rfl ⟨rfl, rfl⟩ (zrm_ok (by omega) (by decide)) rfl rfl hl.1 (Nat.le_of_ble_eq_true rfl) dX6_worth_3 (fun H locs hW => ?_)
  refine lv_if_ne (tgt := 11) hx hb dX6_worth_6 (by decide) (fun c2 => ?_) (fun c2 => ?_)
  · have h := ifn c2 h
    refine lv_aload_n hx hb dX6_worth_11 rfl (lv_at hl 0 rfl) ?_
    obtain ⟨u3, eu3, h⟩ := bd_some h
    refine z_callV_v hC hW (rest := []) (c_X6_settle (d := 83) (Nat.le_refl _) eu3) vw_X6_147 WC_0 rfl ⟨rfl, rfl⟩ (zrm_ok (by omega) (by decide)) rfl rfl hl.1 (Nat.le_of_ble_eq_true rfl) dX6_worth_12 (fun H locs hW => ?_)
    refine lv_iconst (v := 0) hx hb dX6_worth_15 (by decide) ?_
    refine lv_istore_n (lv' := [(3, .int 0), (0, .ref (ρ 0)), (1, .int a1), (2, .int a2)]) hx hb dX6_worth_16 rfl hl (by decide) rfl (fun ls hl => ?_)
    refine lv_iconst (v := 0) hx hb dX6_worth_17 (by decide) ?_
    refine lv_istore (lv' := [(4, .int 0), (3, .int 0), (0, .ref (ρ 0)), (1, .int a1), (2, .int a2)]) hx hb dX6_worth_18 hl (by decide) rfl (fun ls hl => ?_)
    exact b20 h hW (lv_sub hl [2, 3, 4, 1, 0] rfl)
  · have h := ifp c2 h
    refine lv_iconst (v := (-1)) hx hb dX6_worth_9 (by decide) ?_
    have h := Option.some.inj h
    subst h
    exact hret _ _ _ _ _ dX6_worth_10 rfl rfl hW
set_option maxHeartbeats 4000000 in
set_option maxRecDepth 100000 in
theorem c_X6_steps {a1 : Int32} {a2 : Int32} {d : Nat} {res : Int32 × Nat × Int32 × Int32 × Int32 × Int32 × Int32 × Int32 × Int32 × Int32 × (Nat → Nat → Int32) × (Nat → Int32) × (Nat → Int32) × (Nat → Int32) × (Nat → Int32) × (Nat → Int32) × (Nat → Int32) × (Nat → Int32) × (Nat → Int32) × Int32 × Int32 × Int32} (hd : 84 ≤ d) (h : f_X6_steps a1 a2 T_price T_year T_joinEnds T_wallEnds T_doors T_joins T_walls T_oldWells T_apart L_text L_length L_read L_end L_at L_fault L_d L_p L_y L_j L_o P_away P_beside P_reach P_serves P_crowds P_servedLow P_servedHigh P_crowdedLow P_crowdedHigh P_there P_must P_can = some res) : zMi l yX6_steps cX6_steps 8 .int (zrm d) [.ref (ρ 0), .int a1, .int a2] D q (WC q ρ T_price T_year T_joinEnds T_wallEnds T_cost T_doors T_joins T_walls T_oldWells T_apart L_tape L_text L_fed L_length L_read L_end L_at L_fault L_d L_p L_y L_j L_o P_away P_beside P_reach P_serves P_crowds P_servedLow P_servedHigh P_crowdedLow P_crowdedHigh P_there P_must P_can C_what C_number C_before C_after C_done C_kept A_kinds A_traced A_bodies A_began A_self A_kindOfSelf S_holds S_body S_sort S_size S_elements G_grown) sz res.1 (WC q ρ T_price T_year T_joinEnds T_wallEnds T_cost T_doors T_joins T_walls T_oldWells T_apart L_tape L_text L_fed L_length res.2.1 res.2.2.1 res.2.2.2.1 res.2.2.2.2.1 res.2.2.2.2.2.1 res.2.2.2.2.2.2.1 res.2.2.2.2.2.2.2.1 res.2.2.2.2.2.2.2.2.1 res.2.2.2.2.2.2.2.2.2.1 res.2.2.2.2.2.2.2.2.2.2.1 res.2.2.2.2.2.2.2.2.2.2.2.1 res.2.2.2.2.2.2.2.2.2.2.2.2.1 res.2.2.2.2.2.2.2.2.2.2.2.2.2.1 res.2.2.2.2.2.2.2.2.2.2.2.2.2.2.1 res.2.2.2.2.2.2.2.2.2.2.2.2.2.2.2.1 res.2.2.2.2.2.2.2.2.2.2.2.2.2.2.2.2.1 res.2.2.2.2.2.2.2.2.2.2.2.2.2.2.2.2.2.1 res.2.2.2.2.2.2.2.2.2.2.2.2.2.2.2.2.2.2.1 res.2.2.2.2.2.2.2.2.2.2.2.2.2.2.2.2.2.2.2.1 res.2.2.2.2.2.2.2.2.2.2.2.2.2.2.2.2.2.2.2.2.1 res.2.2.2.2.2.2.2.2.2.2.2.2.2.2.2.2.2.2.2.2.2 C_what C_number C_before C_after C_done C_kept A_kinds A_traced A_bodies A_began A_self A_kindOfSelf S_holds S_body S_sort S_size S_elements G_grown) := by
  refine zMet_i (own := RX6) _ (by decide) rfl (Nat.le_of_ble_eq_true rfl) ?_
  intro p e s m args below meth c A ls Q hC hW hl hret
  have hx := hC.1
  have hb := hC.2.1
  have hl : lv_has ls 8 [(0, .ref (ρ 0)), (1, .int a1), (2, .int a2)] := hl
  have b94 : ∀ {x1 : Int32} {x2 : Int32} {x4 : Int32} {x5 : Int32} {x7 : Int32} {s0 : Int32} {s1 : Int32} {L_read : Nat} {L_end : Int32} {L_at : Int32} {L_fault : Int32} {L_d : Int32} {L_p : Int32} {L_y : Int32} {L_j : Int32} {L_o : Int32} {P_away : Nat → Nat → Int32} {P_beside : Nat → Int32} {P_reach : Nat → Int32} {P_serves : Nat → Int32} {P_crowds : Nat → Int32} {P_servedLow : Nat → Int32} {P_servedHigh : Nat → Int32} {P_crowdedLow : Nat → Int32} {P_crowdedHigh : Nat → Int32} {P_there : Int32} {P_must : Int32} {P_can : Int32} {k33 : Int32 → Int32 → Int32 → Option (Int32 × Nat × Int32 × Int32 × Int32 × Int32 × Int32 × Int32 × Int32 × Int32 × (Nat → Nat → Int32) × (Nat → Int32) × (Nat → Int32) × (Nat → Int32) × (Nat → Int32) × (Nat → Int32) × (Nat → Int32) × (Nat → Int32) × (Nat → Int32) × Int32 × Int32 × Int32)} (hk33 : ∀ {x3 : Int32} {x4 : Int32} {x5 : Int32} {H : Heap} {locs : List Loc} {ls : Array Slot}, k33 x3 x4 x5 = some res → zW D A s.heap (WC q ρ T_price T_year T_joinEnds T_wallEnds T_cost T_doors T_joins T_walls T_oldWells T_apart L_tape L_text L_fed L_length L_read L_end L_at L_fault L_d L_p L_y L_j L_o P_away P_beside P_reach P_serves P_crowds P_servedLow P_servedHigh P_crowdedLow P_crowdedHigh P_there P_must P_can C_what C_number C_before C_after C_done C_kept A_kinds A_traced A_bodies A_began A_self A_kindOfSelf S_holds S_body S_sort S_size S_elements G_grown) H locs → lv_has ls 8 [(0, .ref (ρ 0)), (1, .int x1), (2, .int x2), (3, .int x3), (4, .int x4), (5, .int x5)] → W p l e (zrm d) s m args below meth c H locs 0 0 Q (F0 m 33 ls [])) {H : Heap} {locs : List Loc} {ls : Array Slot}, f_X6_steps_b94 k33 x1 x2 x4 x5 x7 s0 s1 T_doors L_read L_end L_at L_fault L_d L_p L_y L_j L_o P_away P_beside P_reach P_serves P_crowds P_servedLow P_servedHigh P_crowdedLow P_crowdedHigh P_there P_must P_can = some res → zW D A s.heap (WC q ρ T_price T_year T_joinEnds T_wallEnds T_cost T_doors T_joins T_walls T_oldWells T_apart L_tape L_text L_fed L_length L_read L_end L_at L_fault L_d L_p L_y L_j L_o P_away P_beside P_reach P_serves P_crowds P_servedLow P_servedHigh P_crowdedLow P_crowdedHigh P_there P_must P_can C_what C_number C_before C_after C_done C_kept A_kinds A_traced A_bodies A_began A_self A_kindOfSelf S_holds S_body S_sort S_size S_elements G_grown) H locs → lv_has ls 8 [(0, .ref (ρ 0)), (1, .int x1), (2, .int x2), (4, .int x4), (5, .int x5), (7, .int x7)] → W p l e (zrm d) s m args below meth c H locs 0 0 Q (F0 m 94 ls [.int s0, .int s1]) := by
    intro x1 x2 x4 x5 x7 s0 s1 L_read L_end L_at L_fault L_d L_p L_y L_j L_o P_away P_beside P_reach P_serves P_crowds P_servedLow P_servedHigh P_crowdedLow P_crowdedHigh P_there P_must P_can k33 hk33 H locs ls h hW hl
    unfold f_X6_steps_b94 at h
    refine lv_iadd hx hb dX6_steps_94 ?_
    refine lv_istore_n (lv' := [(3, .int (s1 + s0)), (0, .ref (ρ 0)), (1, .int x1), (2, .int x2), (4, .int x4), (5, .int x5), (7, .int x7)]) hx hb dX6_steps_95 rfl hl (by decide) rfl (fun ls hl => ?_)
    refine lv_iload hx hb dX6_steps_96 (lv_at hl 4 rfl) ?_
    refine lv_iload hx hb dX6_steps_98 (lv_at hl 6 rfl) ?_
    refine z_mmax hC mm_X6_210 hl.1 (zrm_f (by omega)) (zrm_lo (by omega) (by decide)) dX6_steps_100 ?_
    refine lv_istore (lv' := [(4, .int (if x4 < x7 then x7 else x4)), (3, .int (s1 + s0)), (0, .ref (ρ 0)), (1, .int x1), (2, .int x2), (5, .int x5), (7, .int x7)]) hx hb dX6_steps_103 hl (by decide) rfl (fun ls hl => ?_)
    refine lv_iinc (v := (x5 + 1)) (lv' := [(5, .int (x5 + 1)), (4, .int (if x4 < x7 then x7 else x4)), (3, .int (s1 + s0)), (0, .ref (ρ 0)), (1, .int x1), (2, .int x2), (7, .int x7)]) hx hb dX6_steps_105 hl (k := 5) rfl rfl (by decide) rfl (fun ls hl => ?_)
    refine lv_goto (tgt := 33) hx hb dX6_steps_108 (by decide) ?_
    exact hk33 h hW (lv_sub hl [3, 4, 5, 2, 1, 0] rfl)
  have b80 : ∀ {x1 : Int32} {x2 : Int32} {x3 : Int32} {x4 : Int32} {x5 : Int32} {x6 : Int32} {s0 : Int32} {L_read : Nat} {L_end : Int32} {L_at : Int32} {L_fault : Int32} {L_d : Int32} {L_p : Int32} {L_y : Int32} {L_j : Int32} {L_o : Int32} {P_away : Nat → Nat → Int32} {P_beside : Nat → Int32} {P_reach : Nat → Int32} {P_serves : Nat → Int32} {P_crowds : Nat → Int32} {P_servedLow : Nat → Int32} {P_servedHigh : Nat → Int32} {P_crowdedLow : Nat → Int32} {P_crowdedHigh : Nat → Int32} {P_there : Int32} {P_must : Int32} {P_can : Int32} {k33 : Int32 → Int32 → Int32 → Option (Int32 × Nat × Int32 × Int32 × Int32 × Int32 × Int32 × Int32 × Int32 × Int32 × (Nat → Nat → Int32) × (Nat → Int32) × (Nat → Int32) × (Nat → Int32) × (Nat → Int32) × (Nat → Int32) × (Nat → Int32) × (Nat → Int32) × (Nat → Int32) × Int32 × Int32 × Int32)} (hk33 : ∀ {x3 : Int32} {x4 : Int32} {x5 : Int32} {H : Heap} {locs : List Loc} {ls : Array Slot}, k33 x3 x4 x5 = some res → zW D A s.heap (WC q ρ T_price T_year T_joinEnds T_wallEnds T_cost T_doors T_joins T_walls T_oldWells T_apart L_tape L_text L_fed L_length L_read L_end L_at L_fault L_d L_p L_y L_j L_o P_away P_beside P_reach P_serves P_crowds P_servedLow P_servedHigh P_crowdedLow P_crowdedHigh P_there P_must P_can C_what C_number C_before C_after C_done C_kept A_kinds A_traced A_bodies A_began A_self A_kindOfSelf S_holds S_body S_sort S_size S_elements G_grown) H locs → lv_has ls 8 [(0, .ref (ρ 0)), (1, .int x1), (2, .int x2), (3, .int x3), (4, .int x4), (5, .int x5)] → W p l e (zrm d) s m args below meth c H locs 0 0 Q (F0 m 33 ls [])) {H : Heap} {locs : List Loc} {ls : Array Slot}, f_X6_steps_b80 k33 x1 x2 x3 x4 x5 x6 s0 T_doors L_read L_end L_at L_fault L_d L_p L_y L_j L_o P_away P_beside P_reach P_serves P_crowds P_servedLow P_servedHigh P_crowdedLow P_crowdedHigh P_there P_must P_can = some res → zW D A s.heap (WC q ρ T_price T_year T_joinEnds T_wallEnds T_cost T_doors T_joins T_walls T_oldWells T_apart L_tape L_text L_fed L_length L_read L_end L_at L_fault L_d L_p L_y L_j L_o P_away P_beside P_reach P_serves P_crowds P_servedLow P_servedHigh P_crowdedLow P_crowdedHigh P_there P_must P_can C_what C_number C_before C_after C_done C_kept A_kinds A_traced A_bodies A_began A_self A_kindOfSelf S_holds S_body S_sort S_size S_elements G_grown) H locs → lv_has ls 8 [(0, .ref (ρ 0)), (1, .int x1), (2, .int x2), (3, .int x3), (4, .int x4), (5, .int x5), (6, .int x6)] → W p l e (zrm d) s m args below meth c H locs 0 0 Q (F0 m 80 ls [.int s0]) := by
    intro x1 x2 x3 x4 x5 x6 s0 L_read L_end L_at L_fault L_d L_p L_y L_j L_o P_away P_beside P_reach P_serves P_crowds P_servedLow P_servedHigh P_crowdedLow P_crowdedHigh P_there P_must P_can k33 hk33 H locs ls h hW hl
    unfold f_X6_steps_b80 at h
    refine lv_istore (lv' := [(7, .int s0), (0, .ref (ρ 0)), (1, .int x1), (2, .int x2), (3, .int x3), (4, .int x4), (5, .int x5), (6, .int x6)]) hx hb dX6_steps_80 hl (by decide) rfl (fun ls hl => ?_)
    refine lv_iload_n hx hb dX6_steps_82 rfl (lv_at hl 4 rfl) ?_
    refine lv_iload hx hb dX6_steps_83 (lv_at hl 7 rfl) ?_
    refine lv_if_ge (tgt := 92) hx hb dX6_steps_85 (by decide) (fun c12 => ?_) (fun c12 => ?_)
    · have h := ifp c12 h
      refine lv_iload hx hb dX6_steps_92 (lv_at hl 0 rfl) ?_
      exact b94 hk33 h hW (lv_sub hl [1, 2, 3, 5, 6, 0] rfl)
    · have h := ifn c12 h
      refine lv_iconst (v := 0) hx hb dX6_steps_88 (by decide) ?_
      refine lv_goto (tgt := 94) hx hb dX6_steps_89 (by decide) ?_
      exact b94 hk33 h hW (lv_sub hl [1, 2, 3, 5, 6, 0] rfl)
  have b33 : ∀ {x1 : Int32} {x2 : Int32} {L_read : Nat} {L_end : Int32} {L_at : Int32} {L_fault : Int32} {L_d : Int32} {L_p : Int32} {L_y : Int32} {L_j : Int32} {L_o : Int32} {P_away : Nat → Nat → Int32} {P_beside : Nat → Int32} {P_reach : Nat → Int32} {P_serves : Nat → Int32} {P_crowds : Nat → Int32} {P_servedLow : Nat → Int32} {P_servedHigh : Nat → Int32} {P_crowdedLow : Nat → Int32} {P_crowdedHigh : Nat → Int32} {P_there : Int32} {P_must : Int32} {P_can : Int32} {n : Nat} {x3 : Int32} {x4 : Int32} {x5 : Int32} {H : Heap} {locs : List Loc} {ls : Array Slot}, f_X6_steps_b33 x1 x2 T_doors L_read L_end L_at L_fault L_d L_p L_y L_j L_o P_away P_beside P_reach P_serves P_crowds P_servedLow P_servedHigh P_crowdedLow P_crowdedHigh P_there P_must P_can n x3 x4 x5 = some res → zW D A s.heap (WC q ρ T_price T_year T_joinEnds T_wallEnds T_cost T_doors T_joins T_walls T_oldWells T_apart L_tape L_text L_fed L_length L_read L_end L_at L_fault L_d L_p L_y L_j L_o P_away P_beside P_reach P_serves P_crowds P_servedLow P_servedHigh P_crowdedLow P_crowdedHigh P_there P_must P_can C_what C_number C_before C_after C_done C_kept A_kinds A_traced A_bodies A_began A_self A_kindOfSelf S_holds S_body S_sort S_size S_elements G_grown) H locs → lv_has ls 8 [(0, .ref (ρ 0)), (1, .int x1), (2, .int x2), (3, .int x3), (4, .int x4), (5, .int x5)] → W p l e (zrm d) s m args below meth c H locs 0 0 Q (F0 m 33 ls []) := by
    intro x1 x2 L_read L_end L_at L_fault L_d L_p L_y L_j L_o P_away P_beside P_reach P_serves P_crowds P_servedLow P_servedHigh P_crowdedLow P_crowdedHigh P_there P_must P_can
    intro n
    induction n with
    | zero =>
      intro x3 x4 x5 H locs ls h
      rw [f_X6_steps_b33] at h
      cases h
    | succ n ih =>
      intro x3 x4 x5 H locs ls h hW hl
      rw [f_X6_steps_b33] at h
      refine lv_iload hx hb dX6_steps_33 (lv_at hl 5 rfl) ?_
      refine lv_aload_n hx hb dX6_steps_35 rfl (lv_at hl 0 rfl) ?_
      refine z_get hC hW fg_X6_10 0 WC_0 rfl dX6_steps_36 ?_
      refine z_get hC hW fg_X6_59 1 WC_1 rfl dX6_steps_39 ?_
      refine lv_icmp_ge (tgt := 111) hx hb dX6_steps_42 (by decide) (fun c6 => ?_) (fun c6 => ?_)
      · have h := ifp c6 h
        refine lv_iload_n hx hb dX6_steps_111 rfl (lv_at hl 2 rfl) ?_
        refine lv_if_ne (tgt := 119) hx hb dX6_steps_112 (by decide) (fun c7 => ?_) (fun c7 => ?_)
        · have h := ifn c7 h
          refine lv_iload hx hb dX6_steps_119 (lv_at hl 4 rfl) ?_
          have h := Option.some.inj h
          subst h
          exact hret _ _ _ _ _ dX6_steps_121 rfl rfl hW
        · have h := ifp c7 h
          refine lv_iload_n hx hb dX6_steps_115 rfl (lv_at hl 3 rfl) ?_
          refine lv_goto (tgt := 121) hx hb dX6_steps_116 (by decide) ?_
          have h := Option.some.inj h
          subst h
          exact hret _ _ _ _ _ dX6_steps_121 rfl rfl hW
      · have h := ifn c6 h
        refine lv_aload_n hx hb dX6_steps_45 rfl (lv_at hl 0 rfl) ?_
        refine z_get hC hW fg_X6_26 0 WC_0 rfl dX6_steps_46 ?_
        refine lv_iload_n hx hb dX6_steps_49 rfl (lv_at hl 1 rfl) ?_
        refine lv_iload hx hb dX6_steps_50 (lv_at hl 5 rfl) ?_
        obtain ⟨u8, eu8, h⟩ := bd_some h
        refine z_callV_i hC hW (rest := []) (c_X3_nearest (d := 0) (Nat.le_refl _) eu8) vw_X6_207 WC_3 rfl ⟨rfl, rfl⟩ (zrm_ok (by omega) (by decide)) rfl rfl hl.1 (Nat.le_of_ble_eq_true rfl) dX6_steps_52 (fun H locs hW => ?_)
        refine lv_istore (lv' := [(6, .int u8), (0, .ref (ρ 0)), (1, .int x1), (2, .int x2), (3, .int x3), (4, .int x4), (5, .int x5)]) hx hb dX6_steps_55 hl (by decide) rfl (fun ls hl => ?_)
        refine lv_iload hx hb dX6_steps_57 (lv_at hl 0 rfl) ?_
        refine lv_if_ge (tgt := 67) hx hb dX6_steps_59 (by decide) (fun c9 => ?_) (fun c9 => ?_)
        · have h := ifp c9 h
          refine lv_aload_n hx hb dX6_steps_67 rfl (lv_at hl 1 rfl) ?_
          refine z_get hC hW fg_X6_26 0 WC_0 rfl dX6_steps_68 ?_
          refine z_get hC hW fg_X6_150 3 WC_3 rfl dX6_steps_71 ?_
          refine lv_iload hx hb dX6_steps_74 (lv_at hl 6 rfl) ?_
          obtain ⟨g10, h⟩ := ix_some h
          refine z_aaldA hC hW 15 WC_15 g10 dX6_steps_76 ?_
          refine lv_iload hx hb dX6_steps_77 (lv_at hl 0 rfl) ?_
          obtain ⟨g11, h⟩ := ix_some h
          refine z_iald hC hW (42 + (Int32.toNatClampNeg x5)) (WC_row (vlt g10)) g11 dX6_steps_79 ?_
          exact b80 ih h hW (lv_sub hl [1, 2, 3, 4, 5, 6, 0] rfl)
        · have h := ifn c9 h
          refine lv_bipush (v := 99) hx hb dX6_steps_62 (by decide) ?_
          refine lv_goto (tgt := 80) hx hb dX6_steps_64 (by decide) ?_
          exact b80 ih h hW (lv_sub hl [1, 2, 3, 4, 5, 6, 0] rfl)
  unfold f_X6_steps at h
  refine lv_aload_n hx hb dX6_steps_0 rfl (lv_at hl 0 rfl) ?_
  refine z_get hC hW fg_X6_10 0 WC_0 rfl dX6_steps_1 ?_
  refine lv_iload_n hx hb dX6_steps_4 rfl (lv_at hl 1 rfl) ?_
  obtain ⟨u1, eu1, h⟩ := bd_some h
  refine z_callV_i hC hW (rest := []) (c_X5_areDoors (d := 1) (Nat.le_refl _) eu1) vw_X6_97 WC_1 rfl ⟨rfl, rfl⟩ (zrm_ok (by omega) (by decide)) rfl rfl hl.1 (Nat.le_of_ble_eq_true rfl) dX6_steps_5 (fun H locs hW => ?_)
  refine lv_if_eq (tgt := 19) hx hb dX6_steps_8 (by decide) (fun c2 => ?_) (fun c2 => ?_)
  · have h := ifp c2 h
    refine lv_iconst (v := (-1)) hx hb dX6_steps_19 (by decide) ?_
    have h := Option.some.inj h
    subst h
    exact hret _ _ _ _ _ dX6_steps_20 rfl rfl hW
  · have h := ifn c2 h
    refine lv_iload_n hx hb dX6_steps_11 rfl (lv_at hl 2 rfl) ?_
    refine lv_iconst (v := 1) hx hb dX6_steps_12 (by decide) ?_
    obtain ⟨u3, eu3, h⟩ := bd_some h
    refine z_callS_i hC hW (rest := []) (c_X6_isWithin (d := 0) (Nat.le_refl _) eu3) sw_X6_55 ⟨rfl, rfl⟩ (zrm_ok (by omega) (by decide)) rfl rfl hl.1 (Nat.le_of_ble_eq_true rfl) dX6_steps_13 (fun H locs hW => ?_)
    refine lv_if_ne (tgt := 21) hx hb dX6_steps_16 (by decide) (fun c4 => ?_) (fun c4 => ?_)
    · have h := ifn c4 h
      refine lv_aload_n hx hb dX6_steps_21 rfl (lv_at hl 0 rfl) ?_
      obtain ⟨u5, eu5, h⟩ := bd_some h
      refine z_callV_v hC hW (rest := []) (c_X6_settle (d := 83) (Nat.le_refl _) eu5) vw_X6_147 WC_0 rfl ⟨rfl, rfl⟩ (zrm_ok (by omega) (by decide)) rfl rfl hl.1 (Nat.le_of_ble_eq_true rfl) dX6_steps_22 (fun H locs hW => ?_)
      refine lv_iconst (v := 0) hx hb dX6_steps_25 (by decide) ?_
      refine lv_istore_n (lv' := [(3, .int 0), (0, .ref (ρ 0)), (1, .int a1), (2, .int a2)]) hx hb dX6_steps_26 rfl hl (by decide) rfl (fun ls hl => ?_)
      refine lv_iconst (v := 0) hx hb dX6_steps_27 (by decide) ?_
      refine lv_istore (lv' := [(4, .int 0), (3, .int 0), (0, .ref (ρ 0)), (1, .int a1), (2, .int a2)]) hx hb dX6_steps_28 hl (by decide) rfl (fun ls hl => ?_)
      refine lv_iconst (v := 0) hx hb dX6_steps_30 (by decide) ?_
      refine lv_istore (lv' := [(5, .int 0), (4, .int 0), (3, .int 0), (0, .ref (ρ 0)), (1, .int a1), (2, .int a2)]) hx hb dX6_steps_31 hl (by decide) rfl (fun ls hl => ?_)
      exact b33 h hW (lv_sub hl [3, 4, 5, 2, 1, 0] rfl)
    · have h := ifp c4 h
      refine lv_iconst (v := (-1)) hx hb dX6_steps_19 (by decide) ?_
      have h := Option.some.inj h
      subst h
      exact hret _ _ _ _ _ dX6_steps_20 rfl rfl hW
set_option maxHeartbeats 4000000 in
set_option maxRecDepth 100000 in
theorem c_X6_missed {a1 : Int32} {d : Nat} {res : Int32 × Nat × Int32 × Int32 × Int32 × Int32 × Int32 × Int32 × Int32 × Int32 × (Nat → Nat → Int32) × (Nat → Int32) × (Nat → Int32) × (Nat → Int32) × (Nat → Int32) × (Nat → Int32) × (Nat → Int32) × (Nat → Int32) × (Nat → Int32) × Int32 × Int32 × Int32} (hd : 84 ≤ d) (h : f_X6_missed a1 T_price T_year T_joinEnds T_wallEnds T_doors T_joins T_walls T_oldWells T_apart L_text L_length L_read L_end L_at L_fault L_d L_p L_y L_j L_o P_away P_beside P_reach P_serves P_crowds P_servedLow P_servedHigh P_crowdedLow P_crowdedHigh P_there P_must P_can = some res) : zMi l yX6_missed cX6_missed 5 .int (zrm d) [.ref (ρ 0), .int a1] D q (WC q ρ T_price T_year T_joinEnds T_wallEnds T_cost T_doors T_joins T_walls T_oldWells T_apart L_tape L_text L_fed L_length L_read L_end L_at L_fault L_d L_p L_y L_j L_o P_away P_beside P_reach P_serves P_crowds P_servedLow P_servedHigh P_crowdedLow P_crowdedHigh P_there P_must P_can C_what C_number C_before C_after C_done C_kept A_kinds A_traced A_bodies A_began A_self A_kindOfSelf S_holds S_body S_sort S_size S_elements G_grown) sz res.1 (WC q ρ T_price T_year T_joinEnds T_wallEnds T_cost T_doors T_joins T_walls T_oldWells T_apart L_tape L_text L_fed L_length res.2.1 res.2.2.1 res.2.2.2.1 res.2.2.2.2.1 res.2.2.2.2.2.1 res.2.2.2.2.2.2.1 res.2.2.2.2.2.2.2.1 res.2.2.2.2.2.2.2.2.1 res.2.2.2.2.2.2.2.2.2.1 res.2.2.2.2.2.2.2.2.2.2.1 res.2.2.2.2.2.2.2.2.2.2.2.1 res.2.2.2.2.2.2.2.2.2.2.2.2.1 res.2.2.2.2.2.2.2.2.2.2.2.2.2.1 res.2.2.2.2.2.2.2.2.2.2.2.2.2.2.1 res.2.2.2.2.2.2.2.2.2.2.2.2.2.2.2.1 res.2.2.2.2.2.2.2.2.2.2.2.2.2.2.2.2.1 res.2.2.2.2.2.2.2.2.2.2.2.2.2.2.2.2.2.1 res.2.2.2.2.2.2.2.2.2.2.2.2.2.2.2.2.2.2.1 res.2.2.2.2.2.2.2.2.2.2.2.2.2.2.2.2.2.2.2.1 res.2.2.2.2.2.2.2.2.2.2.2.2.2.2.2.2.2.2.2.2.1 res.2.2.2.2.2.2.2.2.2.2.2.2.2.2.2.2.2.2.2.2.2 C_what C_number C_before C_after C_done C_kept A_kinds A_traced A_bodies A_began A_self A_kindOfSelf S_holds S_body S_sort S_size S_elements G_grown) := by
  refine zMet_i (own := RX6) _ (by decide) rfl (Nat.le_of_ble_eq_true rfl) ?_
  intro p e s m args below meth c A ls Q hC hW hl hret
  have hx := hC.1
  have hb := hC.2.1
  have hl : lv_has ls 5 [(0, .ref (ρ 0)), (1, .int a1)] := hl
  have b79 : ∀ {x1 : Int32} {x2 : Int32} {x3 : Int32} {L_read : Nat} {L_end : Int32} {L_at : Int32} {L_fault : Int32} {L_d : Int32} {L_p : Int32} {L_y : Int32} {L_j : Int32} {L_o : Int32} {P_away : Nat → Nat → Int32} {P_beside : Nat → Int32} {P_reach : Nat → Int32} {P_serves : Nat → Int32} {P_crowds : Nat → Int32} {P_servedLow : Nat → Int32} {P_servedHigh : Nat → Int32} {P_crowdedLow : Nat → Int32} {P_crowdedHigh : Nat → Int32} {P_there : Int32} {P_must : Int32} {P_can : Int32} {k35 : Int32 → Int32 → Option (Int32 × Nat × Int32 × Int32 × Int32 × Int32 × Int32 × Int32 × Int32 × Int32 × (Nat → Nat → Int32) × (Nat → Int32) × (Nat → Int32) × (Nat → Int32) × (Nat → Int32) × (Nat → Int32) × (Nat → Int32) × (Nat → Int32) × (Nat → Int32) × Int32 × Int32 × Int32)} (hk35 : ∀ {x2 : Int32} {x3 : Int32} {H : Heap} {locs : List Loc} {ls : Array Slot}, k35 x2 x3 = some res → zW D A s.heap (WC q ρ T_price T_year T_joinEnds T_wallEnds T_cost T_doors T_joins T_walls T_oldWells T_apart L_tape L_text L_fed L_length L_read L_end L_at L_fault L_d L_p L_y L_j L_o P_away P_beside P_reach P_serves P_crowds P_servedLow P_servedHigh P_crowdedLow P_crowdedHigh P_there P_must P_can C_what C_number C_before C_after C_done C_kept A_kinds A_traced A_bodies A_began A_self A_kindOfSelf S_holds S_body S_sort S_size S_elements G_grown) H locs → lv_has ls 5 [(0, .ref (ρ 0)), (1, .int x1), (2, .int x2), (3, .int x3)] → W p l e (zrm d) s m args below meth c H locs 0 0 Q (F0 m 35 ls [])) {H : Heap} {locs : List Loc} {ls : Array Slot}, f_X6_missed_b79 k35 x1 x2 x3 T_doors L_read L_end L_at L_fault L_d L_p L_y L_j L_o P_away P_beside P_reach P_serves P_crowds P_servedLow P_servedHigh P_crowdedLow P_crowdedHigh P_there P_must P_can = some res → zW D A s.heap (WC q ρ T_price T_year T_joinEnds T_wallEnds T_cost T_doors T_joins T_walls T_oldWells T_apart L_tape L_text L_fed L_length L_read L_end L_at L_fault L_d L_p L_y L_j L_o P_away P_beside P_reach P_serves P_crowds P_servedLow P_servedHigh P_crowdedLow P_crowdedHigh P_there P_must P_can C_what C_number C_before C_after C_done C_kept A_kinds A_traced A_bodies A_began A_self A_kindOfSelf S_holds S_body S_sort S_size S_elements G_grown) H locs → lv_has ls 5 [(0, .ref (ρ 0)), (1, .int x1), (2, .int x2), (3, .int x3)] → W p l e (zrm d) s m args below meth c H locs 0 0 Q (F0 m 79 ls []) := by
    intro x1 x2 x3 L_read L_end L_at L_fault L_d L_p L_y L_j L_o P_away P_beside P_reach P_serves P_crowds P_servedLow P_servedHigh P_crowdedLow P_crowdedHigh P_there P_must P_can k35 hk35 H locs ls h hW hl
    unfold f_X6_missed_b79 at h
    refine lv_iinc (v := (x3 + 1)) (lv' := [(3, .int (x3 + 1)), (0, .ref (ρ 0)), (1, .int x1), (2, .int x2)]) hx hb dX6_missed_79 hl (k := 3) rfl rfl (by decide) rfl (fun ls hl => ?_)
    refine lv_goto (tgt := 35) hx hb dX6_missed_82 (by decide) ?_
    exact hk35 h hW (lv_sub hl [1, 2, 3, 0] rfl)
  have b35 : ∀ {x1 : Int32} {L_read : Nat} {L_end : Int32} {L_at : Int32} {L_fault : Int32} {L_d : Int32} {L_p : Int32} {L_y : Int32} {L_j : Int32} {L_o : Int32} {P_away : Nat → Nat → Int32} {P_beside : Nat → Int32} {P_reach : Nat → Int32} {P_serves : Nat → Int32} {P_crowds : Nat → Int32} {P_servedLow : Nat → Int32} {P_servedHigh : Nat → Int32} {P_crowdedLow : Nat → Int32} {P_crowdedHigh : Nat → Int32} {P_there : Int32} {P_must : Int32} {P_can : Int32} {n : Nat} {x2 : Int32} {x3 : Int32} {H : Heap} {locs : List Loc} {ls : Array Slot}, f_X6_missed_b35 x1 T_doors L_read L_end L_at L_fault L_d L_p L_y L_j L_o P_away P_beside P_reach P_serves P_crowds P_servedLow P_servedHigh P_crowdedLow P_crowdedHigh P_there P_must P_can n x2 x3 = some res → zW D A s.heap (WC q ρ T_price T_year T_joinEnds T_wallEnds T_cost T_doors T_joins T_walls T_oldWells T_apart L_tape L_text L_fed L_length L_read L_end L_at L_fault L_d L_p L_y L_j L_o P_away P_beside P_reach P_serves P_crowds P_servedLow P_servedHigh P_crowdedLow P_crowdedHigh P_there P_must P_can C_what C_number C_before C_after C_done C_kept A_kinds A_traced A_bodies A_began A_self A_kindOfSelf S_holds S_body S_sort S_size S_elements G_grown) H locs → lv_has ls 5 [(0, .ref (ρ 0)), (1, .int x1), (2, .int x2), (3, .int x3)] → W p l e (zrm d) s m args below meth c H locs 0 0 Q (F0 m 35 ls []) := by
    intro x1 L_read L_end L_at L_fault L_d L_p L_y L_j L_o P_away P_beside P_reach P_serves P_crowds P_servedLow P_servedHigh P_crowdedLow P_crowdedHigh P_there P_must P_can
    intro n
    induction n with
    | zero =>
      intro x2 x3 H locs ls h
      rw [f_X6_missed_b35] at h
      cases h
    | succ n ih =>
      intro x2 x3 H locs ls h hW hl
      rw [f_X6_missed_b35] at h
      refine lv_iload_n hx hb dX6_missed_35 rfl (lv_at hl 3 rfl) ?_
      refine lv_aload_n hx hb dX6_missed_36 rfl (lv_at hl 0 rfl) ?_
      refine z_get hC hW fg_X6_10 0 WC_0 rfl dX6_missed_37 ?_
      refine z_get hC hW fg_X6_59 1 WC_1 rfl dX6_missed_40 ?_
      refine lv_icmp_ge (tgt := 85) hx hb dX6_missed_43 (by decide) (fun c6 => ?_) (fun c6 => ?_)
      · have h := ifp c6 h
        refine lv_iload_n hx hb dX6_missed_85 rfl (lv_at hl 2 rfl) ?_
        have h := Option.some.inj h
        subst h
        exact hret _ _ _ _ _ dX6_missed_86 rfl rfl hW
      · have h := ifn c6 h
        refine lv_iload_n hx hb dX6_missed_46 rfl (lv_at hl 1 rfl) ?_
        refine lv_iconst (v := 1) hx hb dX6_missed_47 (by decide) ?_
        refine lv_iload_n hx hb dX6_missed_48 rfl (lv_at hl 3 rfl) ?_
        refine lv_ishl hx hb dX6_missed_49 ?_
        refine lv_iand hx hb dX6_missed_50 ?_
        refine lv_istore (lv' := [(4, .int (x1 &&& (1 <<< (x3 &&& 31)))), (0, .ref (ρ 0)), (1, .int x1), (2, .int x2), (3, .int x3)]) hx hb dX6_missed_51 hl (by decide) rfl (fun ls hl => ?_)
        refine lv_iload hx hb dX6_missed_53 (lv_at hl 0 rfl) ?_
        refine lv_if_eq (tgt := 79) hx hb dX6_missed_55 (by decide) (fun c7 => ?_) (fun c7 => ?_)
        · have h := ifp c7 h
          exact b79 ih h hW (lv_sub hl [1, 2, 3, 4] rfl)
        · have h := ifn c7 h
          refine lv_aload_n hx hb dX6_missed_58 rfl (lv_at hl 1 rfl) ?_
          refine z_get hC hW fg_X6_26 0 WC_0 rfl dX6_missed_59 ?_
          refine lv_iload_n hx hb dX6_missed_62 rfl (lv_at hl 2 rfl) ?_
          refine lv_iload hx hb dX6_missed_63 (lv_at hl 0 rfl) ?_
          refine lv_iconst (v := (-1)) hx hb dX6_missed_65 (by decide) ?_
          refine lv_ixor hx hb dX6_missed_66 ?_
          refine lv_iand hx hb dX6_missed_67 ?_
          obtain ⟨u8, eu8, h⟩ := bd_some h
          refine z_callV_i hC hW (rest := []) (c_X3_isLawful (d := 1) (Nat.le_refl _) eu8) vw_X6_215 WC_3 rfl ⟨rfl, rfl⟩ (zrm_ok (by omega) (by decide)) rfl rfl hl.1 (Nat.le_of_ble_eq_true rfl) dX6_missed_68 (fun H locs hW => ?_)
          refine lv_if_eq (tgt := 79) hx hb dX6_missed_71 (by decide) (fun c9 => ?_) (fun c9 => ?_)
          · have h := ifp c9 h
            exact b79 ih h hW (lv_sub hl [1, 2, 3, 4] rfl)
          · have h := ifn c9 h
            refine lv_iload_n hx hb dX6_missed_74 rfl (lv_at hl 3 rfl) ?_
            refine lv_iload hx hb dX6_missed_75 (lv_at hl 0 rfl) ?_
            refine lv_ior hx hb dX6_missed_77 ?_
            refine lv_istore_n (lv' := [(2, .int (x2 ||| (x1 &&& (1 <<< (x3 &&& 31))))), (4, .int (x1 &&& (1 <<< (x3 &&& 31)))), (0, .ref (ρ 0)), (1, .int x1), (3, .int x3)]) hx hb dX6_missed_78 rfl hl (by decide) rfl (fun ls hl => ?_)
            exact b79 ih h hW (lv_sub hl [2, 3, 0, 4] rfl)
  unfold f_X6_missed at h
  refine lv_aload_n hx hb dX6_missed_0 rfl (lv_at hl 0 rfl) ?_
  refine z_get hC hW fg_X6_10 0 WC_0 rfl dX6_missed_1 ?_
  refine lv_iload_n hx hb dX6_missed_4 rfl (lv_at hl 1 rfl) ?_
  obtain ⟨u1, eu1, h⟩ := bd_some h
  refine z_callV_i hC hW (rest := []) (c_X5_areDoors (d := 1) (Nat.le_refl _) eu1) vw_X6_97 WC_1 rfl ⟨rfl, rfl⟩ (zrm_ok (by omega) (by decide)) rfl rfl hl.1 (Nat.le_of_ble_eq_true rfl) dX6_missed_5 (fun H locs hW => ?_)
  refine lv_if_ne (tgt := 13) hx hb dX6_missed_8 (by decide) (fun c2 => ?_) (fun c2 => ?_)
  · have h := ifn c2 h
    refine lv_aload_n hx hb dX6_missed_13 rfl (lv_at hl 0 rfl) ?_
    obtain ⟨u3, eu3, h⟩ := bd_some h
    refine z_callV_v hC hW (rest := []) (c_X6_settle (d := 83) (Nat.le_refl _) eu3) vw_X6_147 WC_0 rfl ⟨rfl, rfl⟩ (zrm_ok (by omega) (by decide)) rfl rfl hl.1 (Nat.le_of_ble_eq_true rfl) dX6_missed_14 (fun H locs hW => ?_)
    refine lv_aload_n hx hb dX6_missed_17 rfl (lv_at hl 0 rfl) ?_
    refine z_get hC hW fg_X6_26 0 WC_0 rfl dX6_missed_18 ?_
    refine lv_iload_n hx hb dX6_missed_21 rfl (lv_at hl 1 rfl) ?_
    obtain ⟨u4, eu4, h⟩ := bd_some h
    refine z_callV_i hC hW (rest := []) (c_X3_isLawful (d := 1) (Nat.le_refl _) eu4) vw_X6_215 WC_3 rfl ⟨rfl, rfl⟩ (zrm_ok (by omega) (by decide)) rfl rfl hl.1 (Nat.le_of_ble_eq_true rfl) dX6_missed_22 (fun H locs hW => ?_)
    refine lv_if_ne (tgt := 31) hx hb dX6_missed_25 (by decide) (fun c5 => ?_) (fun c5 => ?_)
    · have h := ifn c5 h
      refine lv_iconst (v := 0) hx hb dX6_missed_31 (by decide) ?_
      refine lv_istore_n (lv' := [(2, .int 0), (0, .ref (ρ 0)), (1, .int a1)]) hx hb dX6_missed_32 rfl hl (by decide) rfl (fun ls hl => ?_)
      refine lv_iconst (v := 0) hx hb dX6_missed_33 (by decide) ?_
      refine lv_istore_n (lv' := [(3, .int 0), (2, .int 0), (0, .ref (ρ 0)), (1, .int a1)]) hx hb dX6_missed_34 rfl hl (by decide) rfl (fun ls hl => ?_)
      exact b35 h hW (lv_sub hl [2, 3, 1, 0] rfl)
    · have h := ifp c5 h
      refine lv_bipush (v := (-5)) hx hb dX6_missed_28 (by decide) ?_
      have h := Option.some.inj h
      subst h
      exact hret _ _ _ _ _ dX6_missed_30 rfl rfl hW
  · have h := ifp c2 h
    refine lv_iconst (v := (-1)) hx hb dX6_missed_11 (by decide) ?_
    have h := Option.some.inj h
    subst h
    exact hret _ _ _ _ _ dX6_missed_12 rfl rfl hW
set_option maxHeartbeats 4000000 in
set_option maxRecDepth 100000 in
theorem c_X6_isToldFrom {a1 : Int32} {a2 : Int32} {j3 : Nat} {d : Nat} {res : Int32} (hd : 0 ≤ d) (hj3 : j3 < 6) (h : f_X6_isToldFrom a1 a2 j3 T_doors P_away S_size S_elements = some res) : zMi l yX6_isToldFrom cX6_isToldFrom 6 .boolean (zrm d) [.ref (ρ 0), .int a1, .int a2, .ref (ρ (30 + j3))] D q (WC q ρ T_price T_year T_joinEnds T_wallEnds T_cost T_doors T_joins T_walls T_oldWells T_apart L_tape L_text L_fed L_length L_read L_end L_at L_fault L_d L_p L_y L_j L_o P_away P_beside P_reach P_serves P_crowds P_servedLow P_servedHigh P_crowdedLow P_crowdedHigh P_there P_must P_can C_what C_number C_before C_after C_done C_kept A_kinds A_traced A_bodies A_began A_self A_kindOfSelf S_holds S_body S_sort S_size S_elements G_grown) sz res (WC q ρ T_price T_year T_joinEnds T_wallEnds T_cost T_doors T_joins T_walls T_oldWells T_apart L_tape L_text L_fed L_length L_read L_end L_at L_fault L_d L_p L_y L_j L_o P_away P_beside P_reach P_serves P_crowds P_servedLow P_servedHigh P_crowdedLow P_crowdedHigh P_there P_must P_can C_what C_number C_before C_after C_done C_kept A_kinds A_traced A_bodies A_began A_self A_kindOfSelf S_holds S_body S_sort S_size S_elements G_grown) := by
  refine zMet_i (own := RX6) _ (by decide) rfl (Nat.le_of_ble_eq_true rfl) ?_
  intro p e s m args below meth c A ls Q hC hW hl hret
  have hx := hC.1
  have hb := hC.2.1
  have hl : lv_has ls 6 [(0, .ref (ρ 0)), (1, .int a1), (2, .int a2), (3, .ref (ρ (30 + j3)))] := hl
  have b68 : ∀ {x1 : Int32} {x2 : Int32} {j3 : Nat} {x4 : Int32} {x5 : Int32} {k6 : Int32 → Int32 → Option (Int32)} (hk6 : ∀ {x4 : Int32} {x5 : Int32} {H : Heap} {locs : List Loc} {ls : Array Slot}, j3 < 6 → k6 x4 x5 = some res → zW D A s.heap (WC q ρ T_price T_year T_joinEnds T_wallEnds T_cost T_doors T_joins T_walls T_oldWells T_apart L_tape L_text L_fed L_length L_read L_end L_at L_fault L_d L_p L_y L_j L_o P_away P_beside P_reach P_serves P_crowds P_servedLow P_servedHigh P_crowdedLow P_crowdedHigh P_there P_must P_can C_what C_number C_before C_after C_done C_kept A_kinds A_traced A_bodies A_began A_self A_kindOfSelf S_holds S_body S_sort S_size S_elements G_grown) H locs → lv_has ls 6 [(0, .ref (ρ 0)), (1, .int x1), (2, .int x2), (3, .ref (ρ (30 + j3))), (4, .int x4), (5, .int x5)] → W p l e (zrm d) s m args below meth c H locs 0 0 Q (F0 m 6 ls [])) {H : Heap} {locs : List Loc} {ls : Array Slot} (hj3 : j3 < 6), f_X6_isToldFrom_b68 k6 x1 x2 j3 x4 x5 T_doors P_away S_size S_elements = some res → zW D A s.heap (WC q ρ T_price T_year T_joinEnds T_wallEnds T_cost T_doors T_joins T_walls T_oldWells T_apart L_tape L_text L_fed L_length L_read L_end L_at L_fault L_d L_p L_y L_j L_o P_away P_beside P_reach P_serves P_crowds P_servedLow P_servedHigh P_crowdedLow P_crowdedHigh P_there P_must P_can C_what C_number C_before C_after C_done C_kept A_kinds A_traced A_bodies A_began A_self A_kindOfSelf S_holds S_body S_sort S_size S_elements G_grown) H locs → lv_has ls 6 [(0, .ref (ρ 0)), (1, .int x1), (2, .int x2), (3, .ref (ρ (30 + j3))), (4, .int x4), (5, .int x5)] → W p l e (zrm d) s m args below meth c H locs 0 0 Q (F0 m 68 ls []) := by
    intro x1 x2 j3 x4 x5 k6 hk6 H locs ls hj3 h hW hl
    unfold f_X6_isToldFrom_b68 at h
    refine lv_iinc (v := (x5 + 1)) (lv' := [(5, .int (x5 + 1)), (0, .ref (ρ 0)), (1, .int x1), (2, .int x2), (3, .ref (ρ (30 + j3))), (4, .int x4)]) hx hb dX6_isToldFrom_68 hl (k := 5) rfl rfl (by decide) rfl (fun ls hl => ?_)
    refine lv_goto (tgt := 6) hx hb dX6_isToldFrom_71 (by decide) ?_
    exact hk6 hj3 h hW (lv_sub hl [1, 2, 3, 4, 5, 0] rfl)
  have b6 : ∀ {x1 : Int32} {x2 : Int32} {j3 : Nat} {n : Nat} {x4 : Int32} {x5 : Int32} {H : Heap} {locs : List Loc} {ls : Array Slot} (hj3 : j3 < 6), f_X6_isToldFrom_b6 x1 x2 j3 T_doors P_away S_size S_elements n x4 x5 = some res → zW D A s.heap (WC q ρ T_price T_year T_joinEnds T_wallEnds T_cost T_doors T_joins T_walls T_oldWells T_apart L_tape L_text L_fed L_length L_read L_end L_at L_fault L_d L_p L_y L_j L_o P_away P_beside P_reach P_serves P_crowds P_servedLow P_servedHigh P_crowdedLow P_crowdedHigh P_there P_must P_can C_what C_number C_before C_after C_done C_kept A_kinds A_traced A_bodies A_began A_self A_kindOfSelf S_holds S_body S_sort S_size S_elements G_grown) H locs → lv_has ls 6 [(0, .ref (ρ 0)), (1, .int x1), (2, .int x2), (3, .ref (ρ (30 + j3))), (4, .int x4), (5, .int x5)] → W p l e (zrm d) s m args below meth c H locs 0 0 Q (F0 m 6 ls []) := by
    intro x1 x2 j3
    intro n
    induction n with
    | zero =>
      intro x4 x5 H locs ls hj3 h
      rw [f_X6_isToldFrom_b6] at h
      cases h
    | succ n ih =>
      intro x4 x5 H locs ls hj3 h hW hl
      rw [f_X6_isToldFrom_b6] at h
      refine lv_iload hx hb dX6_isToldFrom_6 (lv_at hl 5 rfl) ?_
      refine lv_aload_n hx hb dX6_isToldFrom_8 rfl (lv_at hl 0 rfl) ?_
      refine z_get hC hW fg_X6_10 0 WC_0 rfl dX6_isToldFrom_9 ?_
      refine z_get hC hW fg_X6_59 1 WC_1 rfl dX6_isToldFrom_12 ?_
      refine lv_icmp_ge (tgt := 74) hx hb dX6_isToldFrom_15 (by decide) (fun c1 => ?_) (fun c1 => ?_)
      · have h := ifp c1 h
        refine lv_iconst (v := 1) hx hb dX6_isToldFrom_74 (by decide) ?_
        have h := Option.some.inj h
        subst h
        exact hret _ _ _ _ _ dX6_isToldFrom_75 rfl rfl hW
      · have h := ifn c1 h
        refine lv_iload_n hx hb dX6_isToldFrom_18 rfl (lv_at hl 2 rfl) ?_
        refine lv_iload hx hb dX6_isToldFrom_19 (lv_at hl 5 rfl) ?_
        refine lv_ishr hx hb dX6_isToldFrom_21 ?_
        refine lv_iconst (v := 1) hx hb dX6_isToldFrom_22 (by decide) ?_
        refine lv_iand hx hb dX6_isToldFrom_23 ?_
        refine lv_if_ne (tgt := 30) hx hb dX6_isToldFrom_24 (by decide) (fun c2 => ?_) (fun c2 => ?_)
        · have h := ifn c2 h
          refine lv_iload hx hb dX6_isToldFrom_30 (lv_at hl 4 rfl) ?_
          refine lv_aload_n hx hb dX6_isToldFrom_32 rfl (lv_at hl 3 rfl) ?_
          refine z_get hC hW fg_X6_218 (30 + j3) (WC_sh hj3) rfl dX6_isToldFrom_33 ?_
          refine lv_icmp_ge (tgt := 63) hx hb dX6_isToldFrom_36 (by decide) (fun c3 => ?_) (fun c3 => ?_)
          · have h := ifp c3 h
            refine lv_iconst (v := 0) hx hb dX6_isToldFrom_63 (by decide) ?_
            have h := Option.some.inj h
            subst h
            exact hret _ _ _ _ _ dX6_isToldFrom_64 rfl rfl hW
          · have h := ifn c3 h
            refine lv_aload_n hx hb dX6_isToldFrom_39 rfl (lv_at hl 3 rfl) ?_
            refine z_get hC hW fg_X6_266 (30 + j3) (WC_sh hj3) rfl dX6_isToldFrom_40 ?_
            refine lv_iload hx hb dX6_isToldFrom_43 (lv_at hl 4 rfl) ?_
            obtain ⟨g4, h⟩ := ix_some h
            refine z_lald hC hW (36 + j3) (WC_el hj3) g4 dX6_isToldFrom_45 ?_
            refine lv_aload_n hx hb dX6_isToldFrom_46 rfl (lv_at hl 0 rfl) ?_
            refine z_get hC hW fg_X6_26 0 WC_0 rfl dX6_isToldFrom_47 ?_
            refine z_get hC hW fg_X6_150 3 WC_3 rfl dX6_isToldFrom_50 ?_
            refine lv_iload_n hx hb dX6_isToldFrom_53 rfl (lv_at hl 1 rfl) ?_
            obtain ⟨g5, h⟩ := ix_some h
            refine z_aaldA hC hW 15 WC_15 g5 dX6_isToldFrom_54 ?_
            refine lv_iload hx hb dX6_isToldFrom_55 (lv_at hl 5 rfl) ?_
            obtain ⟨g6, h⟩ := ix_some h
            refine z_iald hC hW (42 + (Int32.toNatClampNeg x1)) (WC_row (vlt g5)) g6 dX6_isToldFrom_57 ?_
            refine lv_i2l hx hb dX6_isToldFrom_58 rfl ?_
            refine W.lcmp hx hb dX6_isToldFrom_59 ?_
            refine lv_if_eq (tgt := 65) hx hb dX6_isToldFrom_60 (by decide) (fun c7 => ?_) (fun c7 => ?_)
            · have h := ifp c7 h
              refine lv_iinc (v := (x4 + 1)) (lv' := [(4, .int (x4 + 1)), (0, .ref (ρ 0)), (1, .int x1), (2, .int x2), (3, .ref (ρ (30 + j3))), (5, .int x5)]) hx hb dX6_isToldFrom_65 hl (k := 4) rfl rfl (by decide) rfl (fun ls hl => ?_)
              exact b68 ih hj3 h hW (lv_sub hl [1, 2, 3, 4, 0, 5] rfl)
            · have h := ifn c7 h
              refine lv_iconst (v := 0) hx hb dX6_isToldFrom_63 (by decide) ?_
              have h := Option.some.inj h
              subst h
              exact hret _ _ _ _ _ dX6_isToldFrom_64 rfl rfl hW
        · have h := ifp c2 h
          refine lv_goto (tgt := 68) hx hb dX6_isToldFrom_27 (by decide) ?_
          exact b68 ih hj3 h hW (lv_sub hl [0, 1, 2, 3, 4, 5] rfl)
  unfold f_X6_isToldFrom at h
  refine lv_iconst (v := 0) hx hb dX6_isToldFrom_0 (by decide) ?_
  refine lv_istore (lv' := [(4, .int 0), (0, .ref (ρ 0)), (1, .int a1), (2, .int a2), (3, .ref (ρ (30 + j3)))]) hx hb dX6_isToldFrom_1 hl (by decide) rfl (fun ls hl => ?_)
  refine lv_iconst (v := 0) hx hb dX6_isToldFrom_3 (by decide) ?_
  refine lv_istore (lv' := [(5, .int 0), (4, .int 0), (0, .ref (ρ 0)), (1, .int a1), (2, .int a2), (3, .ref (ρ (30 + j3)))]) hx hb dX6_isToldFrom_4 hl (by decide) rfl (fun ls hl => ?_)
  exact b6 hj3 h hW (lv_sub hl [2, 3, 4, 5, 1, 0] rfl)
end CT20_c14
