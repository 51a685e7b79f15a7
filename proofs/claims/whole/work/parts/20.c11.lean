section CT20_c11
variable {l : Launch} {D : va_G} {q : Nat → ClassId} {ρ : Nat → Nat} {sz : Nat} {T_price : Nat → Int32} {T_year : Nat → Int32} {T_joinEnds : Nat → Int32} {T_wallEnds : Nat → Int32} {T_cost : Nat → Int32} {T_doors : Int32} {T_joins : Int32} {T_walls : Int32} {T_oldWells : Int32} {T_apart : Int32} {L_tape : Nat → Int32} {L_text : Nat → Int32} {L_fed : Int32} {L_length : Int32} {L_read : Nat} {L_end : Int32} {L_at : Int32} {L_fault : Int32} {L_d : Int32} {L_p : Int32} {L_y : Int32} {L_j : Int32} {L_o : Int32} {P_away : Nat → Nat → Int32} {P_beside : Nat → Int32} {P_reach : Nat → Int32} {P_serves : Nat → Int32} {P_crowds : Nat → Int32} {P_servedLow : Nat → Int32} {P_servedHigh : Nat → Int32} {P_crowdedLow : Nat → Int32} {P_crowdedHigh : Nat → Int32} {P_there : Int32} {P_must : Int32} {P_can : Int32} {C_what : Nat → Int32} {C_number : Nat → Int32} {C_before : Nat → Int32} {C_after : Nat → Int32} {C_done : Int32} {C_kept : Int32} {A_kinds : Nat → Int32} {A_traced : Nat → Int32} {A_bodies : Int32} {A_began : Int32} {A_self : Int32} {A_kindOfSelf : Int32} {S_holds : Nat → Int32} {S_body : Nat → Int32} {S_sort : Nat → Int32} {S_size : Nat → Int32} {S_elements : Nat → Nat → Int64} {G_grown : Nat → Int32}
set_option maxHeartbeats 4000000 in
set_option maxRecDepth 100000 in
theorem c_X3_least {a2 : Int32} {a3 : Int32} {d : Nat} {res : Int32} (hd : 3 ≤ d) (h : f_X3_least a2 a3 T_price T_doors P_servedLow P_servedHigh P_crowdedLow P_crowdedHigh P_there P_must P_can = some res) : zMi l yX3_least cX3_least 8 .int (zrm d) [.ref (ρ 3), .ref (ρ 1), .int a2, .int a3] D q (WC q ρ T_price T_year T_joinEnds T_wallEnds T_cost T_doors T_joins T_walls T_oldWells T_apart L_tape L_text L_fed L_length L_read L_end L_at L_fault L_d L_p L_y L_j L_o P_away P_beside P_reach P_serves P_crowds P_servedLow P_servedHigh P_crowdedLow P_crowdedHigh P_there P_must P_can C_what C_number C_before C_after C_done C_kept A_kinds A_traced A_bodies A_began A_self A_kindOfSelf S_holds S_body S_sort S_size S_elements G_grown) sz res (WC q ρ T_price T_year T_joinEnds T_wallEnds T_cost T_doors T_joins T_walls T_oldWells T_apart L_tape L_text L_fed L_length L_read L_end L_at L_fault L_d L_p L_y L_j L_o P_away P_beside P_reach P_serves P_crowds P_servedLow P_servedHigh P_crowdedLow P_crowdedHigh P_there P_must P_can C_what C_number C_before C_after C_done C_kept A_kinds A_traced A_bodies A_began A_self A_kindOfSelf S_holds S_body S_sort S_size S_elements G_grown) := by
  refine zMet_i (own := RX3) _ (by decide) rfl (Nat.le_of_ble_eq_true rfl) ?_
  intro p e s m args below meth c A ls Q hC hW hl hret
  have hx := hC.1
  have hb := hC.2.1
  have hl : lv_has ls 8 [(0, .ref (ρ 3)), (1, .ref (ρ 1)), (2, .int a2), (3, .int a3)] := hl
  have b62 : ∀ {x2 : Int32} {x3 : Int32} {x4 : Int32} {x5 : Int32} {x6 : Int32} {k10 : Int32 → Int32 → Int32 → Option (Int32)} (hk10 : ∀ {x4 : Int32} {x5 : Int32} {x6 : Int32} {H : Heap} {locs : List Loc} {ls : Array Slot}, k10 x4 x5 x6 = some res → zW D A s.heap (WC q ρ T_price T_year T_joinEnds T_wallEnds T_cost T_doors T_joins T_walls T_oldWells T_apart L_tape L_text L_fed L_length L_read L_end L_at L_fault L_d L_p L_y L_j L_o P_away P_beside P_reach P_serves P_crowds P_servedLow P_servedHigh P_crowdedLow P_crowdedHigh P_there P_must P_can C_what C_number C_before C_after C_done C_kept A_kinds A_traced A_bodies A_began A_self A_kindOfSelf S_holds S_body S_sort S_size S_elements G_grown) H locs → lv_has ls 8 [(0, .ref (ρ 3)), (1, .ref (ρ 1)), (2, .int x2), (3, .int x3), (4, .int x4), (5, .int x5), (6, .int x6)] → W p l e (zrm d) s m args below meth c H locs 0 0 Q (F0 m 10 ls [])) {H : Heap} {locs : List Loc} {ls : Array Slot}, f_X3_least_b62 k10 x2 x3 x4 x5 x6 T_price T_doors P_servedLow P_servedHigh P_crowdedLow P_crowdedHigh P_there P_must P_can = some res → zW D A s.heap (WC q ρ T_price T_year T_joinEnds T_wallEnds T_cost T_doors T_joins T_walls T_oldWells T_apart L_tape L_text L_fed L_length L_read L_end L_at L_fault L_d L_p L_y L_j L_o P_away P_beside P_reach P_serves P_crowds P_servedLow P_servedHigh P_crowdedLow P_crowdedHigh P_there P_must P_can C_what C_number C_before C_after C_done C_kept A_kinds A_traced A_bodies A_began A_self A_kindOfSelf S_holds S_body S_sort S_size S_elements G_grown) H locs → lv_has ls 8 [(0, .ref (ρ 3)), (1, .ref (ρ 1)), (2, .int x2), (3, .int x3), (4, .int x4), (5, .int x5), (6, .int x6)] → W p l e (zrm d) s m args below meth c H locs 0 0 Q (F0 m 62 ls []) := by
    intro x2 x3 x4 x5 x6 k10 hk10 H locs ls h hW hl
    unfold f_X3_least_b62 at h
    refine lv_iinc (v := (x6 + 1)) (lv' := [(6, .int (x6 + 1)), (0, .ref (ρ 3)), (1, .ref (ρ 1)), (2, .int x2), (3, .int x3), (4, .int x4), (5, .int x5)]) hx hb dX3_least_62 hl (k := 6) rfl rfl (by decide) rfl (fun ls hl => ?_)
    refine lv_goto (tgt := 10) hx hb dX3_least_65 (by decide) ?_
    exact hk10 h hW (lv_sub hl [1, 2, 3, 4, 5, 6, 0] rfl)
  have b54 : ∀ {x2 : Int32} {x3 : Int32} {x6 : Int32} {x7 : Int32} {k10 : Int32 → Int32 → Int32 → Option (Int32)} (hk10 : ∀ {x4 : Int32} {x5 : Int32} {x6 : Int32} {H : Heap} {locs : List Loc} {ls : Array Slot}, k10 x4 x5 x6 = some res → zW D A s.heap (WC q ρ T_price T_year T_joinEnds T_wallEnds T_cost T_doors T_joins T_walls T_oldWells T_apart L_tape L_text L_fed L_length L_read L_end L_at L_fault L_d L_p L_y L_j L_o P_away P_beside P_reach P_serves P_crowds P_servedLow P_servedHigh P_crowdedLow P_crowdedHigh P_there P_must P_can C_what C_number C_before C_after C_done C_kept A_kinds A_traced A_bodies A_began A_self A_kindOfSelf S_holds S_body S_sort S_size S_elements G_grown) H locs → lv_has ls 8 [(0, .ref (ρ 3)), (1, .ref (ρ 1)), (2, .int x2), (3, .int x3), (4, .int x4), (5, .int x5), (6, .int x6)] → W p l e (zrm d) s m args below meth c H locs 0 0 Q (F0 m 10 ls [])) {H : Heap} {locs : List Loc} {ls : Array Slot}, f_X3_least_b54 k10 x2 x3 x6 x7 T_price T_doors P_servedLow P_servedHigh P_crowdedLow P_crowdedHigh P_there P_must P_can = some res → zW D A s.heap (WC q ρ T_price T_year T_joinEnds T_wallEnds T_cost T_doors T_joins T_walls T_oldWells T_apart L_tape L_text L_fed L_length L_read L_end L_at L_fault L_d L_p L_y L_j L_o P_away P_beside P_reach P_serves P_crowds P_servedLow P_servedHigh P_crowdedLow P_crowdedHigh P_there P_must P_can C_what C_number C_before C_after C_done C_kept A_kinds A_traced A_bodies A_began A_self A_kindOfSelf S_holds S_body S_sort S_size S_elements G_grown) H locs → lv_has ls 8 [(0, .ref (ρ 3)), (1, .ref (ρ 1)), (2, .int x2), (3, .int x3), (6, .int x6), (7, .int x7)] → W p l e (zrm d) s m args below meth c H locs 0 0 Q (F0 m 54 ls []) := by
    intro x2 x3 x6 x7 k10 hk10 H locs ls h hW hl
    unfold f_X3_least_b54 at h
    refine lv_iload hx hb dX3_least_54 (lv_at hl 4 rfl) ?_
    refine lv_istore (lv' := [(4, .int x6), (0, .ref (ρ 3)), (1, .ref (ρ 1)), (2, .int x2), (3, .int x3), (6, .int x6), (7, .int x7)]) hx hb dX3_least_56 hl (by decide) rfl (fun ls hl => ?_)
    refine lv_iload hx hb dX3_least_58 (lv_at hl 6 rfl) ?_
    refine lv_istore (lv' := [(5, .int x7), (4, .int x6), (0, .ref (ρ 3)), (1, .ref (ρ 1)), (2, .int x2), (3, .int x3), (6, .int x6), (7, .int x7)]) hx hb dX3_least_60 hl (by decide) rfl (fun ls hl => ?_)
    exact b62 hk10 h hW (lv_sub hl [2, 3, 4, 5, 1, 0, 6] rfl)
  have b10 : ∀ {x2 : Int32} {x3 : Int32} {n : Nat} {x4 : Int32} {x5 : Int32} {x6 : Int32} {H : Heap} {locs : List Loc} {ls : Array Slot}, f_X3_least_b10 x2 x3 T_price T_doors P_servedLow P_servedHigh P_crowdedLow P_crowdedHigh P_there P_must P_can n x4 x5 x6 = some res → zW D A s.heap (WC q ρ T_price T_year T_joinEnds T_wallEnds T_cost T_doors T_joins T_walls T_oldWells T_apart L_tape L_text L_fed L_length L_read L_end L_at L_fault L_d L_p L_y L_j L_o P_away P_beside P_reach P_serves P_crowds P_servedLow P_servedHigh P_crowdedLow P_crowdedHigh P_there P_must P_can C_what C_number C_before C_after C_done C_kept A_kinds A_traced A_bodies A_began A_self A_kindOfSelf S_holds S_body S_sort S_size S_elements G_grown) H locs → lv_has ls 8 [(0, .ref (ρ 3)), (1, .ref (ρ 1)), (2, .int x2), (3, .int x3), (4, .int x4), (5, .int x5), (6, .int x6)] → W p l e (zrm d) s m args below meth c H locs 0 0 Q (F0 m 10 ls []) := by
    intro x2 x3
    intro n
    induction n with
    | zero =>
      intro x4 x5 x6 H locs ls h
      rw [f_X3_least_b10] at h
      cases h
    | succ n ih =>
      intro x4 x5 x6 H locs ls h hW hl
      rw [f_X3_least_b10] at h
      refine lv_iload hx hb dX3_least_10 (lv_at hl 6 rfl) ?_
      refine lv_aload_n hx hb dX3_least_12 rfl (lv_at hl 0 rfl) ?_
      refine z_get hC hW fg_X3_41 3 WC_3 rfl dX3_least_13 ?_
      refine lv_icmp_gt (tgt := 68) hx hb dX3_least_16 (by decide) (fun c1 => ?_) (fun c1 => ?_)
      · have h := ifp c1 h
        refine lv_iload hx hb dX3_least_68 (lv_at hl 4 rfl) ?_
        have h := Option.some.inj h
        subst h
        exact hret _ _ _ _ _ dX3_least_70 rfl rfl hW
      · have h := ifn c1 h
        refine lv_aload_n hx hb dX3_least_19 rfl (lv_at hl 0 rfl) ?_
        refine lv_iload hx hb dX3_least_20 (lv_at hl 6 rfl) ?_
        obtain ⟨u2, eu2, h⟩ := bd_some h
        refine z_callV_i hC hW (rest := []) (c_X3_mayBe (d := 2) (Nat.le_refl _) eu2) vw_X3_111 WC_3 rfl ⟨rfl, rfl⟩ (zrm_ok (by omega) (by decide)) rfl rfl hl.1 (Nat.le_of_ble_eq_true rfl) dX3_least_22 (fun H locs hW => ?_)
        refine lv_if_ne (tgt := 31) hx hb dX3_least_25 (by decide) (fun c3 => ?_) (fun c3 => ?_)
        · have h := ifn c3 h
          refine lv_aload_n hx hb dX3_least_31 rfl (lv_at hl 0 rfl) ?_
          refine lv_aload_n hx hb dX3_least_32 rfl (lv_at hl 1 rfl) ?_
          refine lv_iload_n hx hb dX3_least_33 rfl (lv_at hl 2 rfl) ?_
          refine lv_iload hx hb dX3_least_34 (lv_at hl 6 rfl) ?_
          refine lv_iload_n hx hb dX3_least_36 rfl (lv_at hl 3 rfl) ?_
          obtain ⟨u4, eu4, h⟩ := bd_some h
          refine z_callV_i hC hW (rest := []) (c_X3_weight (d := 1) (Nat.le_refl _) eu4) vw_X3_114 WC_3 rfl ⟨rfl, rfl⟩ (zrm_ok (by omega) (by decide)) rfl rfl hl.1 (Nat.le_of_ble_eq_true rfl) dX3_least_37 (fun H locs hW => ?_)
          refine lv_istore (lv' := [(7, .int u4), (0, .ref (ρ 3)), (1, .ref (ρ 1)), (2, .int x2), (3, .int x3), (4, .int x4), (5, .int x5), (6, .int x6)]) hx hb dX3_least_40 hl (by decide) rfl (fun ls hl => ?_)
          refine lv_iload hx hb dX3_least_42 (lv_at hl 5 rfl) ?_
          refine lv_if_lt (tgt := 54) hx hb dX3_least_44 (by decide) (fun c5 => ?_) (fun c5 => ?_)
          · have h := ifp c5 h
            exact b54 ih h hW (lv_sub hl [1, 2, 3, 4, 7, 0] rfl)
          · have h := ifn c5 h
            refine lv_iload hx hb dX3_least_47 (lv_at hl 0 rfl) ?_
            refine lv_iload hx hb dX3_least_49 (lv_at hl 6 rfl) ?_
            refine lv_icmp_ge (tgt := 62) hx hb dX3_least_51 (by decide) (fun c6 => ?_) (fun c6 => ?_)
            · have h := ifp c6 h
              exact b62 ih h hW (lv_sub hl [1, 2, 3, 4, 5, 6, 7] rfl)
            · have h := ifn c6 h
              exact b54 ih h hW (lv_sub hl [1, 2, 3, 4, 7, 0] rfl)
        · have h := ifp c3 h
          refine lv_goto (tgt := 62) hx hb dX3_least_28 (by decide) ?_
          exact b62 ih h hW (lv_sub hl [0, 1, 2, 3, 4, 5, 6] rfl)
  unfold f_X3_least at h
  refine lv_bipush (v := (-2)) hx hb dX3_least_0 (by decide) ?_
  refine lv_istore (lv' := [(4, .int (-2)), (0, .ref (ρ 3)), (1, .ref (ρ 1)), (2, .int a2), (3, .int a3)]) hx hb dX3_least_2 hl (by decide) rfl (fun ls hl => ?_)
  refine lv_iconst (v := 0) hx hb dX3_least_4 (by decide) ?_
  refine lv_istore (lv' := [(5, .int 0), (4, .int (-2)), (0, .ref (ρ 3)), (1, .ref (ρ 1)), (2, .int a2), (3, .int a3)]) hx hb dX3_least_5 hl (by decide) rfl (fun ls hl => ?_)
  refine lv_iconst (v := 0) hx hb dX3_least_7 (by decide) ?_
  refine lv_istore (lv' := [(6, .int 0), (5, .int 0), (4, .int (-2)), (0, .ref (ρ 3)), (1, .ref (ρ 1)), (2, .int a2), (3, .int a3)]) hx hb dX3_least_8 hl (by decide) rfl (fun ls hl => ?_)
  exact b10 h hW (lv_sub hl [3, 4, 5, 6, 2, 1, 0] rfl)
set_option maxHeartbeats 4000000 in
set_option maxRecDepth 100000 in
theorem c_X6_best {a1 : Int32} {d : Nat} {res : Int32 × Nat × Int32 × Int32 × Int32 × Int32 × Int32 × Int32 × Int32 × Int32 × (Nat → Nat → Int32) × (Nat → Int32) × (Nat → Int32) × (Nat → Int32) × (Nat → Int32) × (Nat → Int32) × (Nat → Int32) × (Nat → Int32) × (Nat → Int32) × Int32 × Int32 × Int32} (hd : 84 ≤ d) (h : f_X6_best a1 T_price T_year T_joinEnds T_wallEnds T_doors T_joins T_walls T_oldWells T_apart L_text L_length L_read L_end L_at L_fault L_d L_p L_y L_j L_o P_away P_beside P_reach P_serves P_crowds P_servedLow P_servedHigh P_crowdedLow P_crowdedHigh P_there P_must P_can = some res) : zMi l yX6_best cX6_best 2 .int (zrm d) [.ref (ρ 0), .int a1] D q (WC q ρ T_price T_year T_joinEnds T_wallEnds T_cost T_doors T_joins T_walls T_oldWells T_apart L_tape L_text L_fed L_length L_read L_end L_at L_fault L_d L_p L_y L_j L_o P_away P_beside P_reach P_serves P_crowds P_servedLow P_servedHigh P_crowdedLow P_crowdedHigh P_there P_must P_can C_what C_number C_before C_after C_done C_kept A_kinds A_traced A_bodies A_began A_self A_kindOfSelf S_holds S_body S_sort S_size S_elements G_grown) sz res.1 (WC q ρ T_price T_year T_joinEnds T_wallEnds T_cost T_doors T_joins T_walls T_oldWells T_apart L_tape L_text L_fed L_length res.2.1 res.2.2.1 res.2.2.2.1 res.2.2.2.2.1 res.2.2.2.2.2.1 res.2.2.2.2.2.2.1 res.2.2.2.2.2.2.2.1 res.2.2.2.2.2.2.2.2.1 res.2.2.2.2.2.2.2.2.2.1 res.2.2.2.2.2.2.2.2.2.2.1 res.2.2.2.2.2.2.2.2.2.2.2.1 res.2.2.2.2.2.2.2.2.2.2.2.2.1 res.2.2.2.2.2.2.2.2.2.2.2.2.2.1 res.2.2.2.2.2.2.2.2.2.2.2.2.2.2.1 res.2.2.2.2.2.2.2.2.2.2.2.2.2.2.2.1 res.2.2.2.2.2.2.2.2.2.2.2.2.2.2.2.2.1 res.2.2.2.2.2.2.2.2.2.2.2.2.2.2.2.2.2.1 res.2.2.2.2.2.2.2.2.2.2.2.2.2.2.2.2.2.2.1 res.2.2.2.2.2.2.2.2.2.2.2.2.2.2.2.2.2.2.2.1 res.2.2.2.2.2.2.2.2.2.2.2.2.2.2.2.2.2.2.2.2.1 res.2.2.2.2.2.2.2.2.2.2.2.2.2.2.2.2.2.2.2.2.2 C_what C_number C_before C_after C_done C_kept A_kinds A_traced A_bodies A_began A_self A_kindOfSelf S_holds S_body S_sort S_size S_elements G_grown) := by
  refine zMet_i (own := RX6) _ (by decide) rfl (Nat.le_of_ble_eq_true rfl) ?_
  intro p e s m args below meth c A ls Q hC hW hl hret
  have hx := hC.1
  have hb := hC.2.1
  have hl : lv_has ls 2 [(0, .ref (ρ 0)), (1, .int a1)] := hl
  have b16 : ∀ {x1 : Int32} {L_read : Nat} {L_end : Int32} {L_at : Int32} {L_fault : Int32} {L_d : Int32} {L_p : Int32} {L_y : Int32} {L_j : Int32} {L_o : Int32} {P_away : Nat → Nat → Int32} {P_beside : Nat → Int32} {P_reach : Nat → Int32} {P_serves : Nat → Int32} {P_crowds : Nat → Int32} {P_servedLow : Nat → Int32} {P_servedHigh : Nat → Int32} {P_crowdedLow : Nat → Int32} {P_crowdedHigh : Nat → Int32} {P_there : Int32} {P_must : Int32} {P_can : Int32} {H : Heap} {locs : List Loc} {ls : Array Slot}, f_X6_best_b16 x1 T_price T_year T_joinEnds T_wallEnds T_doors T_joins T_walls T_oldWells T_apart L_text L_length L_read L_end L_at L_fault L_d L_p L_y L_j L_o P_away P_beside P_reach P_serves P_crowds P_servedLow P_servedHigh P_crowdedLow P_crowdedHigh P_there P_must P_can = some res → zW D A s.heap (WC q ρ T_price T_year T_joinEnds T_wallEnds T_cost T_doors T_joins T_walls T_oldWells T_apart L_tape L_text L_fed L_length L_read L_end L_at L_fault L_d L_p L_y L_j L_o P_away P_beside P_reach P_serves P_crowds P_servedLow P_servedHigh P_crowdedLow P_crowdedHigh P_there P_must P_can C_what C_number C_before C_after C_done C_kept A_kinds A_traced A_bodies A_began A_self A_kindOfSelf S_holds S_body S_sort S_size S_elements G_grown) H locs → lv_has ls 2 [(0, .ref (ρ 0)), (1, .int x1)] → W p l e (zrm d) s m args below meth c H locs 0 0 Q (F0 m 16 ls []) := by
    intro x1 L_read L_end L_at L_fault L_d L_p L_y L_j L_o P_away P_beside P_reach P_serves P_crowds P_servedLow P_servedHigh P_crowdedLow P_crowdedHigh P_there P_must P_can H locs ls h hW hl
    unfold f_X6_best_b16 at h
    refine lv_aload_n hx hb dX6_best_16 rfl (lv_at hl 0 rfl) ?_
    obtain ⟨u2, eu2, h⟩ := bd_some h
    refine z_callV_v hC hW (rest := []) (c_X6_settle (d := 83) (Nat.le_refl _) eu2) vw_X6_147 WC_0 rfl ⟨rfl, rfl⟩ (zrm_ok (by omega) (by decide)) rfl rfl hl.1 (Nat.le_of_ble_eq_true rfl) dX6_best_17 (fun H locs hW => ?_)
    refine lv_aload_n hx hb dX6_best_20 rfl (lv_at hl 0 rfl) ?_
    refine z_get hC hW fg_X6_26 0 WC_0 rfl dX6_best_21 ?_
    refine lv_aload_n hx hb dX6_best_24 rfl (lv_at hl 0 rfl) ?_
    refine z_get hC hW fg_X6_10 0 WC_0 rfl dX6_best_25 ?_
    refine lv_iload_n hx hb dX6_best_28 rfl (lv_at hl 1 rfl) ?_
    refine lv_iconst (v := 0) hx hb dX6_best_29 (by decide) ?_
    obtain ⟨u3, eu3, h⟩ := bd_some h
    refine z_callV_i hC hW (rest := []) (c_X3_least (d := 3) (Nat.le_refl _) eu3) vw_X6_157 WC_3 rfl ⟨rfl, rfl⟩ (zrm_ok (by omega) (by decide)) rfl rfl hl.1 (Nat.le_of_ble_eq_true rfl) dX6_best_30 (fun H locs hW => ?_)
    have h := Option.some.inj h
    subst h
    exact hret _ _ _ _ _ dX6_best_33 rfl rfl hW
  unfold f_X6_best at h
  refine lv_iload_n hx hb dX6_best_0 rfl (lv_at hl 1 rfl) ?_
  refine lv_if_eq (tgt := 16) hx hb dX6_best_1 (by decide) (fun c1 => ?_) (fun c1 => ?_)
  · have h := ifp c1 h
    exact b16 h hW (lv_sub hl [0, 1] rfl)
  · have h := ifn c1 h
    refine lv_iload_n hx hb dX6_best_4 rfl (lv_at hl 1 rfl) ?_
    refine lv_iconst (v := 1) hx hb dX6_best_5 (by decide) ?_
    refine lv_icmp_eq (tgt := 16) hx hb dX6_best_6 (by decide) (fun c4 => ?_) (fun c4 => ?_)
    · have h := ifp c4 h
      exact b16 h hW (lv_sub hl [0, 1] rfl)
    · have h := ifn c4 h
      refine lv_iload_n hx hb dX6_best_9 rfl (lv_at hl 1 rfl) ?_
      refine lv_iconst (v := 2) hx hb dX6_best_10 (by decide) ?_
      refine lv_icmp_eq (tgt := 16) hx hb dX6_best_11 (by decide) (fun c5 => ?_) (fun c5 => ?_)
      · have h := ifp c5 h
        exact b16 h hW (lv_sub hl [0, 1] rfl)
      · have h := ifn c5 h
        refine lv_iconst (v := (-1)) hx hb dX6_best_14 (by decide) ?_
        have h := Option.some.inj h
        subst h
        exact hret _ _ _ _ _ dX6_best_15 rfl rfl hW
set_option maxHeartbeats 4000000 in
set_option maxRecDepth 100000 in
theorem c_X6_all {a1 : Int32} {d : Nat} {res : Int32 × Nat × Int32 × Int32 × Int32 × Int32 × Int32 × Int32 × Int32 × Int32 × (Nat → Nat → Int32) × (Nat → Int32) × (Nat → Int32) × (Nat → Int32) × (Nat → Int32) × (Nat → Int32) × (Nat → Int32) × (Nat → Int32) × (Nat → Int32) × Int32 × Int32 × Int32} (hd : 84 ≤ d) (h : f_X6_all a1 T_price T_year T_joinEnds T_wallEnds T_doors T_joins T_walls T_oldWells T_apart L_text L_length L_read L_end L_at L_fault L_d L_p L_y L_j L_o P_away P_beside P_reach P_serves P_crowds P_servedLow P_servedHigh P_crowdedLow P_crowdedHigh P_there P_must P_can = some res) : zMi l yX6_all cX6_all 6 .int (zrm d) [.ref (ρ 0), .int a1] D q (WC q ρ T_price T_year T_joinEnds T_wallEnds T_cost T_doors T_joins T_walls T_oldWells T_apart L_tape L_text L_fed L_length L_read L_end L_at L_fault L_d L_p L_y L_j L_o P_away P_beside P_reach P_serves P_crowds P_servedLow P_servedHigh P_crowdedLow P_crowdedHigh P_there P_must P_can C_what C_number C_before C_after C_done C_kept A_kinds A_traced A_bodies A_began A_self A_kindOfSelf S_holds S_body S_sort S_size S_elements G_grown) sz res.1 (WC q ρ T_price T_year T_joinEnds T_wallEnds T_cost T_doors T_joins T_walls T_oldWells T_apart L_tape L_text L_fed L_length res.2.1 res.2.2.1 res.2.2.2.1 res.2.2.2.2.1 res.2.2.2.2.2.1 res.2.2.2.2.2.2.1 res.2.2.2.2.2.2.2.1 res.2.2.2.2.2.2.2.2.1 res.2.2.2.2.2.2.2.2.2.1 res.2.2.2.2.2.2.2.2.2.2.1 res.2.2.2.2.2.2.2.2.2.2.2.1 res.2.2.2.2.2.2.2.2.2.2.2.2.1 res.2.2.2.2.2.2.2.2.2.2.2.2.2.1 res.2.2.2.2.2.2.2.2.2.2.2.2.2.2.1 res.2.2.2.2.2.2.2.2.2.2.2.2.2.2.2.1 res.2.2.2.2.2.2.2.2.2.2.2.2.2.2.2.2.1 res.2.2.2.2.2.2.2.2.2.2.2.2.2.2.2.2.2.1 res.2.2.2.2.2.2.2.2.2.2.2.2.2.2.2.2.2.2.1 res.2.2.2.2.2.2.2.2.2.2.2.2.2.2.2.2.2.2.2.1 res.2.2.2.2.2.2.2.2.2.2.2.2.2.2.2.2.2.2.2.2.1 res.2.2.2.2.2.2.2.2.2.2.2.2.2.2.2.2.2.2.2.2.2 C_what C_number C_before C_after C_done C_kept A_kinds A_traced A_bodies A_began A_self A_kindOfSelf S_holds S_body S_sort S_size S_elements G_grown) := by
  refine zMet_i (own := RX6) _ (by decide) rfl (Nat.le_of_ble_eq_true rfl) ?_
  intro p e s m args below meth c A ls Q hC hW hl hret
  have hx := hC.1
  have hb := hC.2.1
  have hl : lv_has ls 6 [(0, .ref (ρ 0)), (1, .int a1)] := hl
  have b69 : ∀ {x1 : Int32} {x2 : Int32} {x3 : Int32} {x4 : Int32} {x5 : Int32} {L_read : Nat} {L_end : Int32} {L_at : Int32} {L_fault : Int32} {L_d : Int32} {L_p : Int32} {L_y : Int32} {L_j : Int32} {L_o : Int32} {P_away : Nat → Nat → Int32} {P_beside : Nat → Int32} {P_reach : Nat → Int32} {P_serves : Nat → Int32} {P_crowds : Nat → Int32} {P_servedLow : Nat → Int32} {P_servedHigh : Nat → Int32} {P_crowdedLow : Nat → Int32} {P_crowdedHigh : Nat → Int32} {P_there : Int32} {P_must : Int32} {P_can : Int32} {k30 : Int32 → Int32 → Int32 → Int32 → Option (Int32 × Nat × Int32 × Int32 × Int32 × Int32 × Int32 × Int32 × Int32 × Int32 × (Nat → Nat → Int32) × (Nat → Int32) × (Nat → Int32) × (Nat → Int32) × (Nat → Int32) × (Nat → Int32) × (Nat → Int32) × (Nat → Int32) × (Nat → Int32) × Int32 × Int32 × Int32)} (hk30 : ∀ {x2 : Int32} {x3 : Int32} {x4 : Int32} {x5 : Int32} {H : Heap} {locs : List Loc} {ls : Array Slot}, k30 x2 x3 x4 x5 = some res → zW D A s.heap (WC q ρ T_price T_year T_joinEnds T_wallEnds T_cost T_doors T_joins T_walls T_oldWells T_apart L_tape L_text L_fed L_length L_read L_end L_at L_fault L_d L_p L_y L_j L_o P_away P_beside P_reach P_serves P_crowds P_servedLow P_servedHigh P_crowdedLow P_crowdedHigh P_there P_must P_can C_what C_number C_before C_after C_done C_kept A_kinds A_traced A_bodies A_began A_self A_kindOfSelf S_holds S_body S_sort S_size S_elements G_grown) H locs → lv_has ls 6 [(0, .ref (ρ 0)), (1, .int x1), (2, .int x2), (3, .int x3), (4, .int x4), (5, .int x5)] → W p l e (zrm d) s m args below meth c H locs 0 0 Q (F0 m 30 ls [])) {H : Heap} {locs : List Loc} {ls : Array Slot}, f_X6_all_b69 k30 x1 x2 x3 x4 x5 L_read L_end L_at L_fault L_d L_p L_y L_j L_o P_away P_beside P_reach P_serves P_crowds P_servedLow P_servedHigh P_crowdedLow P_crowdedHigh P_there P_must P_can = some res → zW D A s.heap (WC q ρ T_price T_year T_joinEnds T_wallEnds T_cost T_doors T_joins T_walls T_oldWells T_apart L_tape L_text L_fed L_length L_read L_end L_at L_fault L_d L_p L_y L_j L_o P_away P_beside P_reach P_serves P_crowds P_servedLow P_servedHigh P_crowdedLow P_crowdedHigh P_there P_must P_can C_what C_number C_before C_after C_done C_kept A_kinds A_traced A_bodies A_began A_self A_kindOfSelf S_holds S_body S_sort S_size S_elements G_grown) H locs → lv_has ls 6 [(0, .ref (ρ 0)), (1, .int x1), (2, .int x2), (3, .int x3), (4, .int x4), (5, .int x5)] → W p l e (zrm d) s m args below meth c H locs 0 0 Q (F0 m 69 ls []) := by
    intro x1 x2 x3 x4 x5 L_read L_end L_at L_fault L_d L_p L_y L_j L_o P_away P_beside P_reach P_serves P_crowds P_servedLow P_servedHigh P_crowdedLow P_crowdedHigh P_there P_must P_can k30 hk30 H locs ls h hW hl
    unfold f_X6_all_b69 at h
    refine lv_iinc (v := (x5 + 1)) (lv' := [(5, .int (x5 + 1)), (0, .ref (ρ 0)), (1, .int x1), (2, .int x2), (3, .int x3), (4, .int x4)]) hx hb dX6_all_69 hl (k := 5) rfl rfl (by decide) rfl (fun ls hl => ?_)
    refine lv_goto (tgt := 30) hx hb dX6_all_72 (by decide) ?_
    exact hk30 h hW (lv_sub hl [1, 2, 3, 4, 5, 0] rfl)
  have b30 : ∀ {x1 : Int32} {L_read : Nat} {L_end : Int32} {L_at : Int32} {L_fault : Int32} {L_d : Int32} {L_p : Int32} {L_y : Int32} {L_j : Int32} {L_o : Int32} {P_away : Nat → Nat → Int32} {P_beside : Nat → Int32} {P_reach : Nat → Int32} {P_serves : Nat → Int32} {P_crowds : Nat → Int32} {P_servedLow : Nat → Int32} {P_servedHigh : Nat → Int32} {P_crowdedLow : Nat → Int32} {P_crowdedHigh : Nat → Int32} {P_there : Int32} {P_must : Int32} {P_can : Int32} {n : Nat} {x2 : Int32} {x3 : Int32} {x4 : Int32} {x5 : Int32} {H : Heap} {locs : List Loc} {ls : Array Slot}, f_X6_all_b30 x1 L_read L_end L_at L_fault L_d L_p L_y L_j L_o P_away P_beside P_reach P_serves P_crowds P_servedLow P_servedHigh P_crowdedLow P_crowdedHigh P_there P_must P_can n x2 x3 x4 x5 = some res → zW D A s.heap (WC q ρ T_price T_year T_joinEnds T_wallEnds T_cost T_doors T_joins T_walls T_oldWells T_apart L_tape L_text L_fed L_length L_read L_end L_at L_fault L_d L_p L_y L_j L_o P_away P_beside P_reach P_serves P_crowds P_servedLow P_servedHigh P_crowdedLow P_crowdedHigh P_there P_must P_can C_what C_number C_before C_after C_done C_kept A_kinds A_traced A_bodies A_began A_self A_kindOfSelf S_holds S_body S_sort S_size S_elements G_grown) H locs → lv_has ls 6 [(0, .ref (ρ 0)), (1, .int x1), (2, .int x2), (3, .int x3), (4, .int x4), (5, .int x5)] → W p l e (zrm d) s m args below meth c H locs 0 0 Q (F0 m 30 ls []) := by
    intro x1 L_read L_end L_at L_fault L_d L_p L_y L_j L_o P_away P_beside P_reach P_serves P_crowds P_servedLow P_servedHigh P_crowdedLow P_crowdedHigh P_there P_must P_can
    intro n
    induction n with
    | zero =>
      intro x2 x3 x4 x5 H locs ls h
      rw [f_X6_all_b30] at h
      cases h
    | succ n ih =>
      intro x2 x3 x4 x5 H locs ls h hW hl
      rw [f_X6_all_b30] at h
      refine lv_iload hx hb dX6_all_30 (lv_at hl 5 rfl) ?_
      refine lv_aload_n hx hb dX6_all_32 rfl (lv_at hl 0 rfl) ?_
      refine z_get hC hW fg_X6_26 0 WC_0 rfl dX6_all_33 ?_
      refine z_get hC hW fg_X6_161 3 WC_3 rfl dX6_all_36 ?_
      refine lv_icmp_gt (tgt := 75) hx hb dX6_all_39 (by decide) (fun c4 => ?_) (fun c4 => ?_)
      · have h := ifp c4 h
        refine lv_iload_n hx hb dX6_all_75 rfl (lv_at hl 1 rfl) ?_
        refine lv_if_ne (tgt := 81) hx hb dX6_all_76 (by decide) (fun c5 => ?_) (fun c5 => ?_)
        · have h := ifn c5 h
          refine lv_iload_n hx hb dX6_all_81 rfl (lv_at hl 2 rfl) ?_
          refine lv_if_ne (tgt := 88) hx hb dX6_all_82 (by decide) (fun c6 => ?_) (fun c6 => ?_)
          · have h := ifn c6 h
            refine lv_iload_n hx hb dX6_all_88 rfl (lv_at hl 1 rfl) ?_
            refine lv_iconst (v := 1) hx hb dX6_all_89 (by decide) ?_
            refine lv_icmp_ne (tgt := 97) hx hb dX6_all_90 (by decide) (fun c7 => ?_) (fun c7 => ?_)
            · have h := ifn c7 h
              refine lv_aload_n hx hb dX6_all_97 rfl (lv_at hl 0 rfl) ?_
              refine z_get hC hW fg_X6_26 0 WC_0 rfl dX6_all_98 ?_
              refine z_get hC hW fg_X6_161 3 WC_3 rfl dX6_all_101 ?_
              refine lv_iload hx hb dX6_all_104 (lv_at hl 4 rfl) ?_
              refine lv_iconst (v := (-1)) hx hb dX6_all_106 (by decide) ?_
              refine lv_ixor hx hb dX6_all_107 ?_
              refine lv_iand hx hb dX6_all_108 ?_
              have h := Option.some.inj h
              subst h
              exact hret _ _ _ _ _ dX6_all_109 rfl rfl hW
            · have h := ifp c7 h
              refine lv_iload_n hx hb dX6_all_93 rfl (lv_at hl 3 rfl) ?_
              refine lv_goto (tgt := 109) hx hb dX6_all_94 (by decide) ?_
              have h := Option.some.inj h
              subst h
              exact hret _ _ _ _ _ dX6_all_109 rfl rfl hW
          · have h := ifp c6 h
            refine lv_bipush (v := (-2)) hx hb dX6_all_85 (by decide) ?_
            have h := Option.some.inj h
            subst h
            exact hret _ _ _ _ _ dX6_all_87 rfl rfl hW
        · have h := ifp c5 h
          refine lv_iload_n hx hb dX6_all_79 rfl (lv_at hl 2 rfl) ?_
          have h := Option.some.inj h
          subst h
          exact hret _ _ _ _ _ dX6_all_80 rfl rfl hW
      · have h := ifn c4 h
        refine lv_aload_n hx hb dX6_all_42 rfl (lv_at hl 0 rfl) ?_
        refine z_get hC hW fg_X6_26 0 WC_0 rfl dX6_all_43 ?_
        refine lv_iload hx hb dX6_all_46 (lv_at hl 5 rfl) ?_
        obtain ⟨u8, eu8, h⟩ := bd_some h
        refine z_callV_i hC hW (rest := []) (c_X3_mayBe (d := 2) (Nat.le_refl _) eu8) vw_X6_164 WC_3 rfl ⟨rfl, rfl⟩ (zrm_ok (by omega) (by decide)) rfl rfl hl.1 (Nat.le_of_ble_eq_true rfl) dX6_all_48 (fun H locs hW => ?_)
        refine lv_if_eq (tgt := 69) hx hb dX6_all_51 (by decide) (fun c9 => ?_) (fun c9 => ?_)
        · have h := ifp c9 h
          exact b69 ih h hW (lv_sub hl [0, 1, 2, 3, 4, 5] rfl)
        · have h := ifn c9 h
          refine lv_iinc (v := (x2 + 1)) (lv' := [(2, .int (x2 + 1)), (0, .ref (ρ 0)), (1, .int x1), (3, .int x3), (4, .int x4), (5, .int x5)]) hx hb dX6_all_54 hl (k := 2) rfl rfl (by decide) rfl (fun ls hl => ?_)
          refine lv_iload_n hx hb dX6_all_57 rfl (lv_at hl 3 rfl) ?_
          refine lv_iload hx hb dX6_all_58 (lv_at hl 5 rfl) ?_
          refine lv_iand hx hb dX6_all_60 ?_
          refine lv_istore_n (lv' := [(3, .int (x3 &&& x5)), (2, .int (x2 + 1)), (0, .ref (ρ 0)), (1, .int x1), (4, .int x4), (5, .int x5)]) hx hb dX6_all_61 rfl hl (by decide) rfl (fun ls hl => ?_)
          refine lv_iload hx hb dX6_all_62 (lv_at hl 4 rfl) ?_
          refine lv_iload hx hb dX6_all_64 (lv_at hl 5 rfl) ?_
          refine lv_ior hx hb dX6_all_66 ?_
          refine lv_istore (lv' := [(4, .int (x4 ||| x5)), (3, .int (x3 &&& x5)), (2, .int (x2 + 1)), (0, .ref (ρ 0)), (1, .int x1), (5, .int x5)]) hx hb dX6_all_67 hl (by decide) rfl (fun ls hl => ?_)
          exact b69 ih h hW (lv_sub hl [3, 4, 2, 1, 0, 5] rfl)
  unfold f_X6_all at h
  refine lv_iload_n hx hb dX6_all_0 rfl (lv_at hl 1 rfl) ?_
  refine lv_iconst (v := 2) hx hb dX6_all_1 (by decide) ?_
  obtain ⟨u1, eu1, h⟩ := bd_some h
  refine z_callS_i hC hW (rest := []) (c_X6_isWithin (d := 0) (Nat.le_refl _) eu1) sw_X6_55 ⟨rfl, rfl⟩ (zrm_ok (by omega) (by decide)) rfl rfl hl.1 (Nat.le_of_ble_eq_true rfl) dX6_all_2 (fun H locs hW => ?_)
  refine lv_if_ne (tgt := 10) hx hb dX6_all_5 (by decide) (fun c2 => ?_) (fun c2 => ?_)
  · have h := ifn c2 h
    refine lv_aload_n hx hb dX6_all_10 rfl (lv_at hl 0 rfl) ?_
    obtain ⟨u3, eu3, h⟩ := bd_some h
    refine z_callV_v hC hW (rest := []) (c_X6_settle (d := 83) (Nat.le_refl _) eu3) vw_X6_147 WC_0 rfl ⟨rfl, rfl⟩ (zrm_ok (by omega) (by decide)) rfl rfl hl.1 (Nat.le_of_ble_eq_true rfl) dX6_all_11 (fun H locs hW => ?_)
    refine lv_iconst (v := 0) hx hb dX6_all_14 (by decide) ?_
    refine lv_istore_n (lv' := [(2, .int 0), (0, .ref (ρ 0)), (1, .int a1)]) hx hb dX6_all_15 rfl hl (by decide) rfl (fun ls hl => ?_)
    refine lv_aload_n hx hb dX6_all_16 rfl (lv_at hl 1 rfl) ?_
    refine z_get hC hW fg_X6_26 0 WC_0 rfl dX6_all_17 ?_
    refine z_get hC hW fg_X6_161 3 WC_3 rfl dX6_all_20 ?_
    refine lv_istore_n (lv' := [(3, .int u3.2.2.2.2.2.2.2.2.2.2.2.2.2.2.2.2.2.2.1), (2, .int 0), (0, .ref (ρ 0)), (1, .int a1)]) hx hb dX6_all_23 rfl hl (by decide) rfl (fun ls hl => ?_)
    refine lv_iconst (v := 0) hx hb dX6_all_24 (by decide) ?_
    refine lv_istore (lv' := [(4, .int 0), (3, .int u3.2.2.2.2.2.2.2.2.2.2.2.2.2.2.2.2.2.2.1), (2, .int 0), (0, .ref (ρ 0)), (1, .int a1)]) hx hb dX6_all_25 hl (by decide) rfl (fun ls hl => ?_)
    refine lv_iconst (v := 0) hx hb dX6_all_27 (by decide) ?_
    refine lv_istore (lv' := [(5, .int 0), (4, .int 0), (3, .int u3.2.2.2.2.2.2.2.2.2.2.2.2.2.2.2.2.2.2.1), (2, .int 0), (0, .ref (ρ 0)), (1, .int a1)]) hx hb dX6_all_28 hl (by decide) rfl (fun ls hl => ?_)
    exact b30 h hW (lv_sub hl [4, 5, 3, 2, 1, 0] rfl)
  · have h := ifp c2 h
    refine lv_iconst (v := (-1)) hx hb dX6_all_8 (by decide) ?_
    have h := Option.some.inj h
    subst h
    exact hret _ _ _ _ _ dX6_all_9 rfl rfl hW
set_option maxHeartbeats 4000000 in
set_option maxRecDepth 100000 in
theorem c_X3_isEven {a1 : Int32} {d : Nat} {res : Int32} (hd : 0 ≤ d) (h : f_X3_isEven a1 P_serves P_there = some res) : zMi l yX3_isEven cX3_isEven 4 .boolean (zrm d) [.ref (ρ 3), .int a1] D q (WC q ρ T_price T_year T_joinEnds T_wallEnds T_cost T_doors T_joins T_walls T_oldWells T_apart L_tape L_text L_fed L_length L_read L_end L_at L_fault L_d L_p L_y L_j L_o P_away P_beside P_reach P_serves P_crowds P_servedLow P_servedHigh P_crowdedLow P_crowdedHigh P_there P_must P_can C_what C_number C_before C_after C_done C_kept A_kinds A_traced A_bodies A_began A_self A_kindOfSelf S_holds S_body S_sort S_size S_elements G_grown) sz res (WC q ρ T_price T_year T_joinEnds T_wallEnds T_cost T_doors T_joins T_walls T_oldWells T_apart L_tape L_text L_fed L_length L_read L_end L_at L_fault L_d L_p L_y L_j L_o P_away P_beside P_reach P_serves P_crowds P_servedLow P_servedHigh P_crowdedLow P_crowdedHigh P_there P_must P_can C_what C_number C_before C_after C_done C_kept A_kinds A_traced A_bodies A_began A_self A_kindOfSelf S_holds S_body S_sort S_size S_elements G_grown) := by
  refine zMet_i (own := RX3) _ (by decide) rfl (Nat.le_of_ble_eq_true rfl) ?_
  intro p e s m args below meth c A ls Q hC hW hl hret
  have hx := hC.1
  have hb := hC.2.1
  have hl : lv_has ls 4 [(0, .ref (ρ 3)), (1, .int a1)] := hl
  have b40 : ∀ {x1 : Int32} {x2 : Int32} {x3 : Int32} {k4 : Int32 → Int32 → Option (Int32)} (hk4 : ∀ {x2 : Int32} {x3 : Int32} {H : Heap} {locs : List Loc} {ls : Array Slot}, k4 x2 x3 = some res → zW D A s.heap (WC q ρ T_price T_year T_joinEnds T_wallEnds T_cost T_doors T_joins T_walls T_oldWells T_apart L_tape L_text L_fed L_length L_read L_end L_at L_fault L_d L_p L_y L_j L_o P_away P_beside P_reach P_serves P_crowds P_servedLow P_servedHigh P_crowdedLow P_crowdedHigh P_there P_must P_can C_what C_number C_before C_after C_done C_kept A_kinds A_traced A_bodies A_began A_self A_kindOfSelf S_holds S_body S_sort S_size S_elements G_grown) H locs → lv_has ls 4 [(0, .ref (ρ 3)), (1, .int x1), (2, .int x2), (3, .int x3)] → W p l e (zrm d) s m args below meth c H locs 0 0 Q (F0 m 4 ls [])) {H : Heap} {locs : List Loc} {ls : Array Slot}, f_X3_isEven_b40 k4 x1 x2 x3 P_serves P_there = some res → zW D A s.heap (WC q ρ T_price T_year T_joinEnds T_wallEnds T_cost T_doors T_joins T_walls T_oldWells T_apart L_tape L_text L_fed L_length L_read L_end L_at L_fault L_d L_p L_y L_j L_o P_away P_beside P_reach P_serves P_crowds P_servedLow P_servedHigh P_crowdedLow P_crowdedHigh P_there P_must P_can C_what C_number C_before C_after C_done C_kept A_kinds A_traced A_bodies A_began A_self A_kindOfSelf S_holds S_body S_sort S_size S_elements G_grown) H locs → lv_has ls 4 [(0, .ref (ρ 3)), (1, .int x1), (2, .int x2), (3, .int x3)] → W p l e (zrm d) s m args below meth c H locs 0 0 Q (F0 m 40 ls []) := by
    intro x1 x2 x3 k4 hk4 H locs ls h hW hl
    unfold f_X3_isEven_b40 at h
    refine lv_iinc (v := (x3 + 1)) (lv' := [(3, .int (x3 + 1)), (0, .ref (ρ 3)), (1, .int x1), (2, .int x2)]) hx hb dX3_isEven_40 hl (k := 3) rfl rfl (by decide) rfl (fun ls hl => ?_)
    refine lv_goto (tgt := 4) hx hb dX3_isEven_43 (by decide) ?_
    exact hk4 h hW (lv_sub hl [1, 2, 3, 0] rfl)
  have b4 : ∀ {x1 : Int32} {n : Nat} {x2 : Int32} {x3 : Int32} {H : Heap} {locs : List Loc} {ls : Array Slot}, f_X3_isEven_b4 x1 P_serves P_there n x2 x3 = some res → zW D A s.heap (WC q ρ T_price T_year T_joinEnds T_wallEnds T_cost T_doors T_joins T_walls T_oldWells T_apart L_tape L_text L_fed L_length L_read L_end L_at L_fault L_d L_p L_y L_j L_o P_away P_beside P_reach P_serves P_crowds P_servedLow P_servedHigh P_crowdedLow P_crowdedHigh P_there P_must P_can C_what C_number C_before C_after C_done C_kept A_kinds A_traced A_bodies A_began A_self A_kindOfSelf S_holds S_body S_sort S_size S_elements G_grown) H locs → lv_has ls 4 [(0, .ref (ρ 3)), (1, .int x1), (2, .int x2), (3, .int x3)] → W p l e (zrm d) s m args below meth c H locs 0 0 Q (F0 m 4 ls []) := by
    intro x1
    intro n
    induction n with
    | zero =>
      intro x2 x3 H locs ls h
      rw [f_X3_isEven_b4] at h
      cases h
    | succ n ih =>
      intro x2 x3 H locs ls h hW hl
      rw [f_X3_isEven_b4] at h
      refine lv_iload_n hx hb dX3_isEven_4 rfl (lv_at hl 3 rfl) ?_
      refine lv_bipush (v := 14) hx hb dX3_isEven_5 (by decide) ?_
      refine lv_icmp_ge (tgt := 46) hx hb dX3_isEven_7 (by decide) (fun c1 => ?_) (fun c1 => ?_)
      · have h := ifp c1 h
        refine lv_iload_n hx hb dX3_isEven_46 rfl (lv_at hl 2 rfl) ?_
        refine lv_aload_n hx hb dX3_isEven_47 rfl (lv_at hl 0 rfl) ?_
        refine z_get hC hW fg_X3_41 3 WC_3 rfl dX3_isEven_48 ?_
        refine lv_icmp_ne (tgt := 58) hx hb dX3_isEven_51 (by decide) (fun c2 => ?_) (fun c2 => ?_)
        · have h := ifn c2 h
          refine lv_iconst (v := 0) hx hb dX3_isEven_58 (by decide) ?_
          have h := Option.some.inj h
          subst h
          exact hret _ _ _ _ _ dX3_isEven_59 rfl rfl hW
        · have h := ifp c2 h
          refine lv_iconst (v := 1) hx hb dX3_isEven_54 (by decide) ?_
          refine lv_goto (tgt := 59) hx hb dX3_isEven_55 (by decide) ?_
          have h := Option.some.inj h
          subst h
          exact hret _ _ _ _ _ dX3_isEven_59 rfl rfl hW
      · have h := ifn c1 h
        refine lv_iload_n hx hb dX3_isEven_10 rfl (lv_at hl 1 rfl) ?_
        refine lv_iload_n hx hb dX3_isEven_11 rfl (lv_at hl 3 rfl) ?_
        refine lv_ishr hx hb dX3_isEven_12 ?_
        refine lv_iconst (v := 1) hx hb dX3_isEven_13 (by decide) ?_
        refine lv_iand hx hb dX3_isEven_14 ?_
        refine lv_if_eq (tgt := 40) hx hb dX3_isEven_15 (by decide) (fun c3 => ?_) (fun c3 => ?_)
        · have h := ifp c3 h
          exact b40 ih h hW (lv_sub hl [0, 1, 2, 3] rfl)
        · have h := ifn c3 h
          refine lv_iload_n hx hb dX3_isEven_18 rfl (lv_at hl 2 rfl) ?_
          refine lv_aload_n hx hb dX3_isEven_19 rfl (lv_at hl 0 rfl) ?_
          refine z_get hC hW fg_X3_23 3 WC_3 rfl dX3_isEven_20 ?_
          refine lv_iload_n hx hb dX3_isEven_23 rfl (lv_at hl 3 rfl) ?_
          obtain ⟨g4, h⟩ := ix_some h
          refine z_iald hC hW 18 WC_18 g4 dX3_isEven_24 ?_
          refine lv_iand hx hb dX3_isEven_25 ?_
          refine lv_if_eq (tgt := 31) hx hb dX3_isEven_26 (by decide) (fun c5 => ?_) (fun c5 => ?_)
          · have h := ifp c5 h
            refine lv_iload_n hx hb dX3_isEven_31 rfl (lv_at hl 2 rfl) ?_
            refine lv_aload_n hx hb dX3_isEven_32 rfl (lv_at hl 0 rfl) ?_
            refine z_get hC hW fg_X3_23 3 WC_3 rfl dX3_isEven_33 ?_
            refine lv_iload_n hx hb dX3_isEven_36 rfl (lv_at hl 3 rfl) ?_
            obtain ⟨g6, h⟩ := ix_some h
            refine z_iald hC hW 18 WC_18 g6 dX3_isEven_37 ?_
            refine lv_ior hx hb dX3_isEven_38 ?_
            refine lv_istore_n (lv' := [(2, .int (x2 ||| (P_serves (Int32.toNatClampNeg x3)))), (0, .ref (ρ 3)), (1, .int x1), (3, .int x3)]) hx hb dX3_isEven_39 rfl hl (by decide) rfl (fun ls hl => ?_)
            exact b40 ih h hW (lv_sub hl [1, 2, 0, 3] rfl)
          · have h := ifn c5 h
            refine lv_iconst (v := 0) hx hb dX3_isEven_29 (by decide) ?_
            have h := Option.some.inj h
            subst h
            exact hret _ _ _ _ _ dX3_isEven_30 rfl rfl hW
  unfold f_X3_isEven at h
  refine lv_iconst (v := 0) hx hb dX3_isEven_0 (by decide) ?_
  refine lv_istore_n (lv' := [(2, .int 0), (0, .ref (ρ 3)), (1, .int a1)]) hx hb dX3_isEven_1 rfl hl (by decide) rfl (fun ls hl => ?_)
  refine lv_iconst (v := 0) hx hb dX3_isEven_2 (by decide) ?_
  refine lv_istore_n (lv' := [(3, .int 0), (2, .int 0), (0, .ref (ρ 3)), (1, .int a1)]) hx hb dX3_isEven_3 rfl hl (by decide) rfl (fun ls hl => ?_)
  exact b4 h hW (lv_sub hl [2, 3, 1, 0] rfl)
set_option maxHeartbeats 4000000 in
set_option maxRecDepth 100000 in
theorem c_X6_even {d : Nat} {res : Int32 × Nat × Int32 × Int32 × Int32 × Int32 × Int32 × Int32 × Int32 × Int32 × (Nat → Nat → Int32) × (Nat → Int32) × (Nat → Int32) × (Nat → Int32) × (Nat → Int32) × (Nat → Int32) × (Nat → Int32) × (Nat → Int32) × (Nat → Int32) × Int32 × Int32 × Int32} (hd : 84 ≤ d) (h : f_X6_even T_price T_year T_joinEnds T_wallEnds T_doors T_joins T_walls T_oldWells T_apart L_text L_length L_read L_end L_at L_fault L_d L_p L_y L_j L_o P_away P_beside P_reach P_serves P_crowds P_servedLow P_servedHigh P_crowdedLow P_crowdedHigh P_there P_must P_can = some res) : zMi l yX6_even cX6_even 2 .int (zrm d) [.ref (ρ 0)] D q (WC q ρ T_price T_year T_joinEnds T_wallEnds T_cost T_doors T_joins T_walls T_oldWells T_apart L_tape L_text L_fed L_length L_read L_end L_at L_fault L_d L_p L_y L_j L_o P_away P_beside P_reach P_serves P_crowds P_servedLow P_servedHigh P_crowdedLow P_crowdedHigh P_there P_must P_can C_what C_number C_before C_after C_done C_kept A_kinds A_traced A_bodies A_began A_self A_kindOfSelf S_holds S_body S_sort S_size S_elements G_grown) sz res.1 (WC q ρ T_price T_year T_joinEnds T_wallEnds T_cost T_doors T_joins T_walls T_oldWells T_apart L_tape L_text L_fed L_length res.2.1 res.2.2.1 res.2.2.2.1 res.2.2.2.2.1 res.2.2.2.2.2.1 res.2.2.2.2.2.2.1 res.2.2.2.2.2.2.2.1 res.2.2.2.2.2.2.2.2.1 res.2.2.2.2.2.2.2.2.2.1 res.2.2.2.2.2.2.2.2.2.2.1 res.2.2.2.2.2.2.2.2.2.2.2.1 res.2.2.2.2.2.2.2.2.2.2.2.2.1 res.2.2.2.2.2.2.2.2.2.2.2.2.2.1 res.2.2.2.2.2.2.2.2.2.2.2.2.2.2.1 res.2.2.2.2.2.2.2.2.2.2.2.2.2.2.2.1 res.2.2.2.2.2.2.2.2.2.2.2.2.2.2.2.2.1 res.2.2.2.2.2.2.2.2.2.2.2.2.2.2.2.2.2.1 res.2.2.2.2.2.2.2.2.2.2.2.2.2.2.2.2.2.2.1 res.2.2.2.2.2.2.2.2.2.2.2.2.2.2.2.2.2.2.2.1 res.2.2.2.2.2.2.2.2.2.2.2.2.2.2.2.2.2.2.2.2.1 res.2.2.2.2.2.2.2.2.2.2.2.2.2.2.2.2.2.2.2.2.2 C_what C_number C_before C_after C_done C_kept A_kinds A_traced A_bodies A_began A_self A_kindOfSelf S_holds S_body S_sort S_size S_elements G_grown) := by
  refine zMet_i (own := RX6) _ (by decide) rfl (Nat.le_of_ble_eq_true rfl) ?_
  intro p e s m args below meth c A ls Q hC hW hl hret
  have hx := hC.1
  have hb := hC.2.1
  have hl : lv_has ls 2 [(0, .ref (ρ 0))] := hl
  have b41 : ∀ {x1 : Int32} {L_read : Nat} {L_end : Int32} {L_at : Int32} {L_fault : Int32} {L_d : Int32} {L_p : Int32} {L_y : Int32} {L_j : Int32} {L_o : Int32} {P_away : Nat → Nat → Int32} {P_beside : Nat → Int32} {P_reach : Nat → Int32} {P_serves : Nat → Int32} {P_crowds : Nat → Int32} {P_servedLow : Nat → Int32} {P_servedHigh : Nat → Int32} {P_crowdedLow : Nat → Int32} {P_crowdedHigh : Nat → Int32} {P_there : Int32} {P_must : Int32} {P_can : Int32} {k6 : Int32 → Option (Int32 × Nat × Int32 × Int32 × Int32 × Int32 × Int32 × Int32 × Int32 × Int32 × (Nat → Nat → Int32) × (Nat → Int32) × (Nat → Int32) × (Nat → Int32) × (Nat → Int32) × (Nat → Int32) × (Nat → Int32) × (Nat → Int32) × (Nat → Int32) × Int32 × Int32 × Int32)} (hk6 : ∀ {x1 : Int32} {H : Heap} {locs : List Loc} {ls : Array Slot}, k6 x1 = some res → zW D A s.heap (WC q ρ T_price T_year T_joinEnds T_wallEnds T_cost T_doors T_joins T_walls T_oldWells T_apart L_tape L_text L_fed L_length L_read L_end L_at L_fault L_d L_p L_y L_j L_o P_away P_beside P_reach P_serves P_crowds P_servedLow P_servedHigh P_crowdedLow P_crowdedHigh P_there P_must P_can C_what C_number C_before C_after C_done C_kept A_kinds A_traced A_bodies A_began A_self A_kindOfSelf S_holds S_body S_sort S_size S_elements G_grown) H locs → lv_has ls 2 [(0, .ref (ρ 0)), (1, .int x1)] → W p l e (zrm d) s m args below meth c H locs 0 0 Q (F0 m 6 ls [])) {H : Heap} {locs : List Loc} {ls : Array Slot}, f_X6_even_b41 k6 x1 L_read L_end L_at L_fault L_d L_p L_y L_j L_o P_away P_beside P_reach P_serves P_crowds P_servedLow P_servedHigh P_crowdedLow P_crowdedHigh P_there P_must P_can = some res → zW D A s.heap (WC q ρ T_price T_year T_joinEnds T_wallEnds T_cost T_doors T_joins T_walls T_oldWells T_apart L_tape L_text L_fed L_length L_read L_end L_at L_fault L_d L_p L_y L_j L_o P_away P_beside P_reach P_serves P_crowds P_servedLow P_servedHigh P_crowdedLow P_crowdedHigh P_there P_must P_can C_what C_number C_before C_after C_done C_kept A_kinds A_traced A_bodies A_began A_self A_kindOfSelf S_holds S_body S_sort S_size S_elements G_grown) H locs → lv_has ls 2 [(0, .ref (ρ 0)), (1, .int x1)] → W p l e (zrm d) s m args below meth c H locs 0 0 Q (F0 m 41 ls []) := by
    intro x1 L_read L_end L_at L_fault L_d L_p L_y L_j L_o P_away P_beside P_reach P_serves P_crowds P_servedLow P_servedHigh P_crowdedLow P_crowdedHigh P_there P_must P_can k6 hk6 H locs ls h hW hl
    unfold f_X6_even_b41 at h
    refine lv_iinc (v := (x1 + 1)) (lv' := [(1, .int (x1 + 1)), (0, .ref (ρ 0))]) hx hb dX6_even_41 hl (k := 1) rfl rfl (by decide) rfl (fun ls hl => ?_)
    refine lv_goto (tgt := 6) hx hb dX6_even_44 (by decide) ?_
    exact hk6 h hW (lv_sub hl [1, 0] rfl)
  have b6 : ∀ {L_read : Nat} {L_end : Int32} {L_at : Int32} {L_fault : Int32} {L_d : Int32} {L_p : Int32} {L_y : Int32} {L_j : Int32} {L_o : Int32} {P_away : Nat → Nat → Int32} {P_beside : Nat → Int32} {P_reach : Nat → Int32} {P_serves : Nat → Int32} {P_crowds : Nat → Int32} {P_servedLow : Nat → Int32} {P_servedHigh : Nat → Int32} {P_crowdedLow : Nat → Int32} {P_crowdedHigh : Nat → Int32} {P_there : Int32} {P_must : Int32} {P_can : Int32} {n : Nat} {x1 : Int32} {H : Heap} {locs : List Loc} {ls : Array Slot}, f_X6_even_b6 L_read L_end L_at L_fault L_d L_p L_y L_j L_o P_away P_beside P_reach P_serves P_crowds P_servedLow P_servedHigh P_crowdedLow P_crowdedHigh P_there P_must P_can n x1 = some res → zW D A s.heap (WC q ρ T_price T_year T_joinEnds T_wallEnds T_cost T_doors T_joins T_walls T_oldWells T_apart L_tape L_text L_fed L_length L_read L_end L_at L_fault L_d L_p L_y L_j L_o P_away P_beside P_reach P_serves P_crowds P_servedLow P_servedHigh P_crowdedLow P_crowdedHigh P_there P_must P_can C_what C_number C_before C_after C_done C_kept A_kinds A_traced A_bodies A_began A_self A_kindOfSelf S_holds S_body S_sort S_size S_elements G_grown) H locs → lv_has ls 2 [(0, .ref (ρ 0)), (1, .int x1)] → W p l e (zrm d) s m args below meth c H locs 0 0 Q (F0 m 6 ls []) := by
    intro L_read L_end L_at L_fault L_d L_p L_y L_j L_o P_away P_beside P_reach P_serves P_crowds P_servedLow P_servedHigh P_crowdedLow P_crowdedHigh P_there P_must P_can
    intro n
    induction n with
    | zero =>
      intro x1 H locs ls h
      rw [f_X6_even_b6] at h
      cases h
    | succ n ih =>
      intro x1 H locs ls h hW hl
      rw [f_X6_even_b6] at h
      refine lv_iload_n hx hb dX6_even_6 rfl (lv_at hl 1 rfl) ?_
      refine lv_aload_n hx hb dX6_even_7 rfl (lv_at hl 0 rfl) ?_
      refine z_get hC hW fg_X6_26 0 WC_0 rfl dX6_even_8 ?_
      refine z_get hC hW fg_X6_161 3 WC_3 rfl dX6_even_11 ?_
      refine lv_icmp_gt (tgt := 47) hx hb dX6_even_14 (by decide) (fun c2 => ?_) (fun c2 => ?_)
      · have h := ifp c2 h
        refine lv_bipush (v := (-2)) hx hb dX6_even_47 (by decide) ?_
        have h := Option.some.inj h
        subst h
        exact hret _ _ _ _ _ dX6_even_49 rfl rfl hW
      · have h := ifn c2 h
        refine lv_aload_n hx hb dX6_even_17 rfl (lv_at hl 0 rfl) ?_
        refine z_get hC hW fg_X6_26 0 WC_0 rfl dX6_even_18 ?_
        refine lv_iload_n hx hb dX6_even_21 rfl (lv_at hl 1 rfl) ?_
        obtain ⟨u3, eu3, h⟩ := bd_some h
        refine z_callV_i hC hW (rest := []) (c_X3_mayBe (d := 2) (Nat.le_refl _) eu3) vw_X6_164 WC_3 rfl ⟨rfl, rfl⟩ (zrm_ok (by omega) (by decide)) rfl rfl hl.1 (Nat.le_of_ble_eq_true rfl) dX6_even_22 (fun H locs hW => ?_)
        refine lv_if_eq (tgt := 41) hx hb dX6_even_25 (by decide) (fun c4 => ?_) (fun c4 => ?_)
        · have h := ifp c4 h
          exact b41 ih h hW (lv_sub hl [0, 1] rfl)
        · have h := ifn c4 h
          refine lv_aload_n hx hb dX6_even_28 rfl (lv_at hl 0 rfl) ?_
          refine z_get hC hW fg_X6_26 0 WC_0 rfl dX6_even_29 ?_
          refine lv_iload_n hx hb dX6_even_32 rfl (lv_at hl 1 rfl) ?_
          obtain ⟨u5, eu5, h⟩ := bd_some h
          refine z_callV_i hC hW (rest := []) (c_X3_isEven (d := 0) (Nat.le_refl _) eu5) vw_X6_167 WC_3 rfl ⟨rfl, rfl⟩ (zrm_ok (by omega) (by decide)) rfl rfl hl.1 (Nat.le_of_ble_eq_true rfl) dX6_even_33 (fun H locs hW => ?_)
          refine lv_if_eq (tgt := 41) hx hb dX6_even_36 (by decide) (fun c6 => ?_) (fun c6 => ?_)
          · have h := ifp c6 h
            exact b41 ih h hW (lv_sub hl [0, 1] rfl)
          · have h := ifn c6 h
            refine lv_iload_n hx hb dX6_even_39 rfl (lv_at hl 1 rfl) ?_
            have h := Option.some.inj h
            subst h
            exact hret _ _ _ _ _ dX6_even_40 rfl rfl hW
  unfold f_X6_even at h
  refine lv_aload_n hx hb dX6_even_0 rfl (lv_at hl 0 rfl) ?_
  obtain ⟨u1, eu1, h⟩ := bd_some h
  refine z_callV_v hC hW (rest := []) (c_X6_settle (d := 83) (Nat.le_refl _) eu1) vw_X6_147 WC_0 rfl ⟨rfl, rfl⟩ (zrm_ok (by omega) (by decide)) rfl rfl hl.1 (Nat.le_of_ble_eq_true rfl) dX6_even_1 (fun H locs hW => ?_)
  refine lv_iconst (v := 0) hx hb dX6_even_4 (by decide) ?_
  refine lv_istore_n (lv' := [(1, .int 0), (0, .ref (ρ 0))]) hx hb dX6_even_5 rfl hl (by decide) rfl (fun ls hl => ?_)
  exact b6 h hW (lv_sub hl [1, 0] rfl)
set_option maxHeartbeats 4000000 in
set_option maxRecDepth 100000 in
theorem c_X3_isClear {a1 : Int32} {a2 : Int32} {d : Nat} {res : Int32} (hd : 1 ≤ d) (h : f_X3_isClear a1 a2 P_crowdedLow P_crowdedHigh = some res) : zMi l yX3_isClear cX3_isClear 3 .boolean (zrm d) [.ref (ρ 3), .int a1, .int a2] D q (WC q ρ T_price T_year T_joinEnds T_wallEnds T_cost T_doors T_joins T_walls T_oldWells T_apart L_tape L_text L_fed L_length L_read L_end L_at L_fault L_d L_p L_y L_j L_o P_away P_beside P_reach P_serves P_crowds P_servedLow P_servedHigh P_crowdedLow P_crowdedHigh P_there P_must P_can C_what C_number C_before C_after C_done C_kept A_kinds A_traced A_bodies A_began A_self A_kindOfSelf S_holds S_body S_sort S_size S_elements G_grown) sz res (WC q ρ T_price T_year T_joinEnds T_wallEnds T_cost T_doors T_joins T_walls T_oldWells T_apart L_tape L_text L_fed L_length L_read L_end L_at L_fault L_d L_p L_y L_j L_o P_away P_beside P_reach P_serves P_crowds P_servedLow P_servedHigh P_crowdedLow P_crowdedHigh P_there P_must P_can C_what C_number C_before C_after C_done C_kept A_kinds A_traced A_bodies A_began A_self A_kindOfSelf S_holds S_body S_sort S_size S_elements G_grown) := by
  refine zMet_i (own := RX3) _ (by decide) rfl (Nat.le_of_ble_eq_true rfl) ?_
  intro p e s m args below meth c A ls Q hC hW hl hret
  have hx := hC.1
  have hb := hC.2.1
  have hl : lv_has ls 3 [(0, .ref (ρ 3)), (1, .int a1), (2, .int a2)] := hl
  unfold f_X3_isClear at h
  refine lv_aload_n hx hb dX3_isClear_0 rfl (lv_at hl 0 rfl) ?_
  refine lv_iload_n hx hb dX3_isClear_1 rfl (lv_at hl 2 rfl) ?_
  obtain ⟨u1, eu1, h⟩ := bd_some h
  refine z_callV_i hC hW (rest := []) (c_X3_crowded (d := 0) (Nat.le_refl _) eu1) vw_X3_101 WC_3 rfl ⟨rfl, rfl⟩ (zrm_ok (by omega) (by decide)) rfl rfl hl.1 (Nat.le_of_ble_eq_true rfl) dX3_isClear_2 (fun H locs hW => ?_)
  refine lv_iload_n hx hb dX3_isClear_5 rfl (lv_at hl 1 rfl) ?_
  refine lv_ishr hx hb dX3_isClear_6 ?_
  refine lv_iconst (v := 1) hx hb dX3_isClear_7 (by decide) ?_
  refine lv_iand hx hb dX3_isClear_8 ?_
  refine lv_if_ne (tgt := 16) hx hb dX3_isClear_9 (by decide) (fun c2 => ?_) (fun c2 => ?_)
  · have h := ifn c2 h
    refine lv_iconst (v := 0) hx hb dX3_isClear_16 (by decide) ?_
    have h := Option.some.inj h
    subst h
    exact hret _ _ _ _ _ dX3_isClear_17 rfl rfl hW
  · have h := ifp c2 h
    refine lv_iconst (v := 1) hx hb dX3_isClear_12 (by decide) ?_
    refine lv_goto (tgt := 17) hx hb dX3_isClear_13 (by decide) ?_
    have h := Option.some.inj h
    subst h
    exact hret _ _ _ _ _ dX3_isClear_17 rfl rfl hW
end CT20_c11
