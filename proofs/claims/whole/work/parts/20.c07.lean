section CT20_c07
variable {l : Launch} {D : va_G} {q : Nat → ClassId} {ρ : Nat → Nat} {sz : Nat} {T_price : Nat → Int32} {T_year : Nat → Int32} {T_joinEnds : Nat → Int32} {T_wallEnds : Nat → Int32} {T_cost : Nat → Int32} {T_doors : Int32} {T_joins : Int32} {T_walls : Int32} {T_oldWells : Int32} {T_apart : Int32} {L_tape : Nat → Int32} {L_text : Nat → Int32} {L_fed : Int32} {L_length : Int32} {L_read : Nat} {L_end : Int32} {L_at : Int32} {L_fault : Int32} {L_d : Int32} {L_p : Int32} {L_y : Int32} {L_j : Int32} {L_o : Int32} {P_away : Nat → Nat → Int32} {P_beside : Nat → Int32} {P_reach : Nat → Int32} {P_serves : Nat → Int32} {P_crowds : Nat → Int32} {P_servedLow : Nat → Int32} {P_servedHigh : Nat → Int32} {P_crowdedLow : Nat → Int32} {P_crowdedHigh : Nat → Int32} {P_there : Int32} {P_must : Int32} {P_can : Int32} {C_what : Nat → Int32} {C_number : Nat → Int32} {C_before : Nat → Int32} {C_after : Nat → Int32} {C_done : Int32} {C_kept : Int32} {A_kinds : Nat → Int32} {A_traced : Nat → Int32} {A_bodies : Int32} {A_began : Int32} {A_self : Int32} {A_kindOfSelf : Int32} {S_holds : Nat → Int32} {S_body : Nat → Int32} {S_sort : Nat → Int32} {S_size : Nat → Int32} {S_elements : Nat → Nat → Int64} {G_grown : Nat → Int32}
set_option maxHeartbeats 4000000 in
set_option maxRecDepth 100000 in
theorem c_X6_law {d : Nat} {res : Int32 × (Nat → Int32) × Int32 × Int32 × Nat × Int32 × Int32 × Int32} (hd : 82 ≤ d) (h : f_X6_law L_tape L_text L_fed L_length L_read L_end L_at L_fault L_d L_p L_y L_j L_o = some res) : zMi l yX6_law cX6_law 2 .int (zrm d) [.ref (ρ 0)] D q (WC q ρ T_price T_year T_joinEnds T_wallEnds T_cost T_doors T_joins T_walls T_oldWells T_apart L_tape L_text L_fed L_length L_read L_end L_at L_fault L_d L_p L_y L_j L_o P_away P_beside P_reach P_serves P_crowds P_servedLow P_servedHigh P_crowdedLow P_crowdedHigh P_there P_must P_can C_what C_number C_before C_after C_done C_kept A_kinds A_traced A_bodies A_began A_self A_kindOfSelf S_holds S_body S_sort S_size S_elements G_grown) sz res.1 (WC q ρ T_price T_year T_joinEnds T_wallEnds T_cost T_doors T_joins T_walls T_oldWells T_apart L_tape res.2.1 res.2.2.1 res.2.2.2.1 res.2.2.2.2.1 res.2.2.2.2.2.1 res.2.2.2.2.2.2.1 res.2.2.2.2.2.2.2 L_d L_p L_y L_j L_o P_away P_beside P_reach P_serves P_crowds P_servedLow P_servedHigh P_crowdedLow P_crowdedHigh P_there P_must P_can C_what C_number C_before C_after C_done C_kept A_kinds A_traced A_bodies A_began A_self A_kindOfSelf S_holds S_body S_sort S_size S_elements G_grown) := by
  refine zMet_i (own := RX6) _ (by decide) rfl (Nat.le_of_ble_eq_true rfl) ?_
  intro p e s m args below meth c A ls Q hC hW hl hret
  have hx := hC.1
  have hb := hC.2.1
  have hl : lv_has ls 2 [(0, .ref (ρ 0))] := hl
  unfold f_X6_law at h
  refine lv_aload_n hx hb dX6_law_0 rfl (lv_at hl 0 rfl) ?_
  refine z_get hC hW fg_X6_19 0 WC_0 rfl dX6_law_1 ?_
  obtain ⟨u1, eu1, h⟩ := bd_some h
  refine z_callV_i hC hW (rest := []) (c_X2_enact (d := 81) (Nat.le_refl _) eu1) vw_X6_143 WC_2 rfl ⟨rfl, rfl⟩ (zrm_ok (by omega) (by decide)) rfl rfl hl.1 (Nat.le_of_ble_eq_true rfl) dX6_law_4 (fun H locs hW => ?_)
  refine lv_istore_n (lv' := [(1, .int u1.1), (0, .ref (ρ 0))]) hx hb dX6_law_7 rfl hl (by decide) rfl (fun ls hl => ?_)
  refine lv_iload_n hx hb dX6_law_8 rfl (lv_at hl 0 rfl) ?_
  refine lv_if_ge (tgt := 16) hx hb dX6_law_9 (by decide) (fun c2 => ?_) (fun c2 => ?_)
  · have h := ifp c2 h
    refine lv_bipush (v := (-100)) hx hb dX6_law_16 (by decide) ?_
    refine lv_iload_n hx hb dX6_law_18 rfl (lv_at hl 0 rfl) ?_
    refine lv_isub hx hb dX6_law_19 ?_
    have h := Option.some.inj h
    subst h
    exact hret _ _ _ _ _ dX6_law_20 rfl rfl hW
  · have h := ifn c2 h
    refine lv_iconst (v := 1) hx hb dX6_law_12 (by decide) ?_
    refine lv_goto (tgt := 20) hx hb dX6_law_13 (by decide) ?_
    have h := Option.some.inj h
    subst h
    exact hret _ _ _ _ _ dX6_law_20 rfl rfl hW
set_option maxHeartbeats 4000000 in
set_option maxRecDepth 100000 in
theorem c_X5_soil {d : Nat} {res : Int32} (hd : 0 ≤ d) (h : f_X5_soil T_price T_doors = some res) : zMi l yX5_soil cX5_soil 3 .int (zrm d) [.ref (ρ 1)] D q (WC q ρ T_price T_year T_joinEnds T_wallEnds T_cost T_doors T_joins T_walls T_oldWells T_apart L_tape L_text L_fed L_length L_read L_end L_at L_fault L_d L_p L_y L_j L_o P_away P_beside P_reach P_serves P_crowds P_servedLow P_servedHigh P_crowdedLow P_crowdedHigh P_there P_must P_can C_what C_number C_before C_after C_done C_kept A_kinds A_traced A_bodies A_began A_self A_kindOfSelf S_holds S_body S_sort S_size S_elements G_grown) sz res (WC q ρ T_price T_year T_joinEnds T_wallEnds T_cost T_doors T_joins T_walls T_oldWells T_apart L_tape L_text L_fed L_length L_read L_end L_at L_fault L_d L_p L_y L_j L_o P_away P_beside P_reach P_serves P_crowds P_servedLow P_servedHigh P_crowdedLow P_crowdedHigh P_there P_must P_can C_what C_number C_before C_after C_done C_kept A_kinds A_traced A_bodies A_began A_self A_kindOfSelf S_holds S_body S_sort S_size S_elements G_grown) := by
  refine zMet_i (own := RX5) _ (by decide) rfl (Nat.le_of_ble_eq_true rfl) ?_
  intro p e s m args below meth c A ls Q hC hW hl hret
  have hx := hC.1
  have hb := hC.2.1
  have hl : lv_has ls 3 [(0, .ref (ρ 1))] := hl
  have b29 : ∀ {x2 : Int32} {s0 : Int32} {s1 : Int32} {k4 : Int32 → Int32 → Option (Int32)} (hk4 : ∀ {x1 : Int32} {x2 : Int32} {H : Heap} {locs : List Loc} {ls : Array Slot}, k4 x1 x2 = some res → zW D A s.heap (WC q ρ T_price T_year T_joinEnds T_wallEnds T_cost T_doors T_joins T_walls T_oldWells T_apart L_tape L_text L_fed L_length L_read L_end L_at L_fault L_d L_p L_y L_j L_o P_away P_beside P_reach P_serves P_crowds P_servedLow P_servedHigh P_crowdedLow P_crowdedHigh P_there P_must P_can C_what C_number C_before C_after C_done C_kept A_kinds A_traced A_bodies A_began A_self A_kindOfSelf S_holds S_body S_sort S_size S_elements G_grown) H locs → lv_has ls 3 [(0, .ref (ρ 1)), (1, .int x1), (2, .int x2)] → W p l e (zrm d) s m args below meth c H locs 0 0 Q (F0 m 4 ls [])) {H : Heap} {locs : List Loc} {ls : Array Slot}, f_X5_soil_b29 k4 x2 s0 s1 T_price T_doors = some res → zW D A s.heap (WC q ρ T_price T_year T_joinEnds T_wallEnds T_cost T_doors T_joins T_walls T_oldWells T_apart L_tape L_text L_fed L_length L_read L_end L_at L_fault L_d L_p L_y L_j L_o P_away P_beside P_reach P_serves P_crowds P_servedLow P_servedHigh P_crowdedLow P_crowdedHigh P_there P_must P_can C_what C_number C_before C_after C_done C_kept A_kinds A_traced A_bodies A_began A_self A_kindOfSelf S_holds S_body S_sort S_size S_elements G_grown) H locs → lv_has ls 3 [(0, .ref (ρ 1)), (2, .int x2)] → W p l e (zrm d) s m args below meth c H locs 0 0 Q (F0 m 29 ls [.int s0, .int s1]) := by
    intro x2 s0 s1 k4 hk4 H locs ls h hW hl
    unfold f_X5_soil_b29 at h
    refine lv_ior hx hb dX5_soil_29 ?_
    refine lv_istore_n (lv' := [(1, .int (s1 ||| s0)), (0, .ref (ρ 1)), (2, .int x2)]) hx hb dX5_soil_30 rfl hl (by decide) rfl (fun ls hl => ?_)
    refine lv_iinc (v := (x2 + 1)) (lv' := [(2, .int (x2 + 1)), (1, .int (s1 ||| s0)), (0, .ref (ρ 1))]) hx hb dX5_soil_31 hl (k := 2) rfl rfl (by decide) rfl (fun ls hl => ?_)
    refine lv_goto (tgt := 4) hx hb dX5_soil_34 (by decide) ?_
    exact hk4 h hW (lv_sub hl [2, 1, 0] rfl)
  have b4 : ∀ {n : Nat} {x1 : Int32} {x2 : Int32} {H : Heap} {locs : List Loc} {ls : Array Slot}, f_X5_soil_b4 T_price T_doors n x1 x2 = some res → zW D A s.heap (WC q ρ T_price T_year T_joinEnds T_wallEnds T_cost T_doors T_joins T_walls T_oldWells T_apart L_tape L_text L_fed L_length L_read L_end L_at L_fault L_d L_p L_y L_j L_o P_away P_beside P_reach P_serves P_crowds P_servedLow P_servedHigh P_crowdedLow P_crowdedHigh P_there P_must P_can C_what C_number C_before C_after C_done C_kept A_kinds A_traced A_bodies A_began A_self A_kindOfSelf S_holds S_body S_sort S_size S_elements G_grown) H locs → lv_has ls 3 [(0, .ref (ρ 1)), (1, .int x1), (2, .int x2)] → W p l e (zrm d) s m args below meth c H locs 0 0 Q (F0 m 4 ls []) := by
    intro n
    induction n with
    | zero =>
      intro x1 x2 H locs ls h
      rw [f_X5_soil_b4] at h
      cases h
    | succ n ih =>
      intro x1 x2 H locs ls h hW hl
      rw [f_X5_soil_b4] at h
      refine lv_iload_n hx hb dX5_soil_4 rfl (lv_at hl 2 rfl) ?_
      refine lv_aload_n hx hb dX5_soil_5 rfl (lv_at hl 0 rfl) ?_
      refine z_get hC hW fg_X5_31 1 WC_1 rfl dX5_soil_6 ?_
      refine lv_icmp_ge (tgt := 37) hx hb dX5_soil_9 (by decide) (fun c1 => ?_) (fun c1 => ?_)
      · have h := ifp c1 h
        refine lv_iload_n hx hb dX5_soil_37 rfl (lv_at hl 1 rfl) ?_
        have h := Option.some.inj h
        subst h
        exact hret _ _ _ _ _ dX5_soil_38 rfl rfl hW
      · have h := ifn c1 h
        refine lv_iload_n hx hb dX5_soil_12 rfl (lv_at hl 1 rfl) ?_
        refine lv_aload_n hx hb dX5_soil_13 rfl (lv_at hl 0 rfl) ?_
        refine z_get hC hW fg_X5_9 1 WC_1 rfl dX5_soil_14 ?_
        refine lv_iload_n hx hb dX5_soil_17 rfl (lv_at hl 2 rfl) ?_
        obtain ⟨g2, h⟩ := ix_some h
        refine z_iald hC hW 8 WC_8 g2 dX5_soil_18 ?_
        refine lv_if_le (tgt := 28) hx hb dX5_soil_19 (by decide) (fun c3 => ?_) (fun c3 => ?_)
        · have h := ifp c3 h
          refine lv_iconst (v := 0) hx hb dX5_soil_28 (by decide) ?_
          exact b29 ih h hW (lv_sub hl [0, 2] rfl)
        · have h := ifn c3 h
          refine lv_iconst (v := 1) hx hb dX5_soil_22 (by decide) ?_
          refine lv_iload_n hx hb dX5_soil_23 rfl (lv_at hl 2 rfl) ?_
          refine lv_ishl hx hb dX5_soil_24 ?_
          refine lv_goto (tgt := 29) hx hb dX5_soil_25 (by decide) ?_
          exact b29 ih h hW (lv_sub hl [0, 2] rfl)
  unfold f_X5_soil at h
  refine lv_iconst (v := 0) hx hb dX5_soil_0 (by decide) ?_
  refine lv_istore_n (lv' := [(1, .int 0), (0, .ref (ρ 1))]) hx hb dX5_soil_1 rfl hl (by decide) rfl (fun ls hl => ?_)
  refine lv_iconst (v := 0) hx hb dX5_soil_2 (by decide) ?_
  refine lv_istore_n (lv' := [(2, .int 0), (1, .int 0), (0, .ref (ρ 1))]) hx hb dX5_soil_3 rfl hl (by decide) rfl (fun ls hl => ?_)
  exact b4 h hW (lv_sub hl [2, 1, 0] rfl)
set_option maxHeartbeats 4000000 in
set_option maxRecDepth 100000 in
theorem c_X3_gather_serves_servedLow {a1 : Int32} {d : Nat} {res : (Nat → Int32)} (hd : 0 ≤ d) (h : f_X3_gather_serves_servedLow a1 P_serves P_servedLow = some res) : zMv l yX3_gather cX3_gather 5 (zrm d) [.ref (ρ 18), .int a1, .ref (ρ 20)] D q (WC q ρ T_price T_year T_joinEnds T_wallEnds T_cost T_doors T_joins T_walls T_oldWells T_apart L_tape L_text L_fed L_length L_read L_end L_at L_fault L_d L_p L_y L_j L_o P_away P_beside P_reach P_serves P_crowds P_servedLow P_servedHigh P_crowdedLow P_crowdedHigh P_there P_must P_can C_what C_number C_before C_after C_done C_kept A_kinds A_traced A_bodies A_began A_self A_kindOfSelf S_holds S_body S_sort S_size S_elements G_grown) sz (WC q ρ T_price T_year T_joinEnds T_wallEnds T_cost T_doors T_joins T_walls T_oldWells T_apart L_tape L_text L_fed L_length L_read L_end L_at L_fault L_d L_p L_y L_j L_o P_away P_beside P_reach P_serves P_crowds res P_servedHigh P_crowdedLow P_crowdedHigh P_there P_must P_can C_what C_number C_before C_after C_done C_kept A_kinds A_traced A_bodies A_began A_self A_kindOfSelf S_holds S_body S_sort S_size S_elements G_grown) := by
  refine zMet_v (own := RX3) (by decide) rfl (Nat.le_of_ble_eq_true rfl) ?_
  intro p e s m args below meth c A ls Q hC hW hl hret
  have hx := hC.1
  have hb := hC.2.1
  have hl : lv_has ls 5 [(0, .ref (ρ 18)), (1, .int a1), (2, .ref (ρ 20))] := hl
  have b17 : ∀ {x1 : Int32} {x3 : Int32} {k6 : Int32 → (Nat → Int32) → Option ((Nat → Int32))} (hk6 : ∀ {x3 : Int32} {P_servedLow : Nat → Int32} {H : Heap} {locs : List Loc} {ls : Array Slot}, k6 x3 P_servedLow = some res → zW D A s.heap (WC q ρ T_price T_year T_joinEnds T_wallEnds T_cost T_doors T_joins T_walls T_oldWells T_apart L_tape L_text L_fed L_length L_read L_end L_at L_fault L_d L_p L_y L_j L_o P_away P_beside P_reach P_serves P_crowds P_servedLow P_servedHigh P_crowdedLow P_crowdedHigh P_there P_must P_can C_what C_number C_before C_after C_done C_kept A_kinds A_traced A_bodies A_began A_self A_kindOfSelf S_holds S_body S_sort S_size S_elements G_grown) H locs → lv_has ls 5 [(0, .ref (ρ 18)), (1, .int x1), (2, .ref (ρ 20)), (3, .int x3)] → W p l e (zrm d) s m args below meth c H locs 0 0 Q (F0 m 6 ls [])) {n : Nat} {x4 : Int32} {P_servedLow : Nat → Int32} {H : Heap} {locs : List Loc} {ls : Array Slot}, f_X3_gather_serves_servedLow_b17 k6 x1 x3 P_serves n x4 P_servedLow = some res → zW D A s.heap (WC q ρ T_price T_year T_joinEnds T_wallEnds T_cost T_doors T_joins T_walls T_oldWells T_apart L_tape L_text L_fed L_length L_read L_end L_at L_fault L_d L_p L_y L_j L_o P_away P_beside P_reach P_serves P_crowds P_servedLow P_servedHigh P_crowdedLow P_crowdedHigh P_there P_must P_can C_what C_number C_before C_after C_done C_kept A_kinds A_traced A_bodies A_began A_self A_kindOfSelf S_holds S_body S_sort S_size S_elements G_grown) H locs → lv_has ls 5 [(0, .ref (ρ 18)), (1, .int x1), (2, .ref (ρ 20)), (3, .int x3), (4, .int x4)] → W p l e (zrm d) s m args below meth c H locs 0 0 Q (F0 m 17 ls []) := by
    intro x1 x3 k6 hk6
    intro n
    induction n with
    | zero =>
      intro x4 P_servedLow H locs ls h
      rw [f_X3_gather_serves_servedLow_b17] at h
      cases h
    | succ n ih =>
      intro x4 P_servedLow H locs ls h hW hl
      rw [f_X3_gather_serves_servedLow_b17] at h
      refine lv_iload hx hb dX3_gather_17 (lv_at hl 4 rfl) ?_
      refine lv_iconst (v := 2) hx hb dX3_gather_19 (by decide) ?_
      refine lv_iload_n hx hb dX3_gather_20 rfl (lv_at hl 3 rfl) ?_
      refine lv_ishl hx hb dX3_gather_21 ?_
      refine lv_icmp_ge (tgt := 49) hx hb dX3_gather_22 (by decide) (fun c3 => ?_) (fun c3 => ?_)
      · have h := ifp c3 h
        refine lv_iinc (v := (x3 + 1)) (lv' := [(3, .int (x3 + 1)), (0, .ref (ρ 18)), (1, .int x1), (2, .ref (ρ 20)), (4, .int x4)]) hx hb dX3_gather_49 hl (k := 3) rfl rfl (by decide) rfl (fun ls hl => ?_)
        refine lv_goto (tgt := 6) hx hb dX3_gather_52 (by decide) ?_
        exact hk6 h hW (lv_sub hl [1, 2, 3, 0] rfl)
      · have h := ifn c3 h
        refine lv_aload_n hx hb dX3_gather_25 rfl (lv_at hl 2 rfl) ?_
        refine lv_iload hx hb dX3_gather_26 (lv_at hl 4 rfl) ?_
        refine lv_aload_n hx hb dX3_gather_28 rfl (lv_at hl 2 rfl) ?_
        refine lv_iload hx hb dX3_gather_29 (lv_at hl 4 rfl) ?_
        refine lv_iconst (v := 1) hx hb dX3_gather_31 (by decide) ?_
        refine lv_iload_n hx hb dX3_gather_32 rfl (lv_at hl 3 rfl) ?_
        refine lv_ishl hx hb dX3_gather_33 ?_
        refine lv_ixor hx hb dX3_gather_34 ?_
        obtain ⟨g4, h⟩ := ix_some h
        refine z_iald hC hW 20 WC_20 g4 dX3_gather_35 ?_
        refine lv_aload_n hx hb dX3_gather_36 rfl (lv_at hl 0 rfl) ?_
        refine lv_iload_n hx hb dX3_gather_37 rfl (lv_at hl 1 rfl) ?_
        refine lv_iload_n hx hb dX3_gather_38 rfl (lv_at hl 3 rfl) ?_
        refine lv_iadd hx hb dX3_gather_39 ?_
        obtain ⟨g5, h⟩ := ix_some h
        refine z_iald hC hW 18 WC_18 g5 dX3_gather_40 ?_
        refine lv_ior hx hb dX3_gather_41 ?_
        obtain ⟨g6, h⟩ := ix_some h
        refine z_iast hC hW 20 WC_20 g6 WCs_P_servedLow dX3_gather_42 (fun H locs hW => ?_)
        refine lv_iinc (v := (x4 + 1)) (lv' := [(4, .int (x4 + 1)), (0, .ref (ρ 18)), (1, .int x1), (2, .ref (ρ 20)), (3, .int x3)]) hx hb dX3_gather_43 hl (k := 4) rfl rfl (by decide) rfl (fun ls hl => ?_)
        refine lv_goto (tgt := 17) hx hb dX3_gather_46 (by decide) ?_
        exact ih h hW (lv_sub hl [1, 2, 3, 4, 0] rfl)
  have b6 : ∀ {x1 : Int32} {n : Nat} {x3 : Int32} {P_servedLow : Nat → Int32} {H : Heap} {locs : List Loc} {ls : Array Slot}, f_X3_gather_serves_servedLow_b6 x1 P_serves n x3 P_servedLow = some res → zW D A s.heap (WC q ρ T_price T_year T_joinEnds T_wallEnds T_cost T_doors T_joins T_walls T_oldWells T_apart L_tape L_text L_fed L_length L_read L_end L_at L_fault L_d L_p L_y L_j L_o P_away P_beside P_reach P_serves P_crowds P_servedLow P_servedHigh P_crowdedLow P_crowdedHigh P_there P_must P_can C_what C_number C_before C_after C_done C_kept A_kinds A_traced A_bodies A_began A_self A_kindOfSelf S_holds S_body S_sort S_size S_elements G_grown) H locs → lv_has ls 5 [(0, .ref (ρ 18)), (1, .int x1), (2, .ref (ρ 20)), (3, .int x3)] → W p l e (zrm d) s m args below meth c H locs 0 0 Q (F0 m 6 ls []) := by
    intro x1
    intro n
    induction n with
    | zero =>
      intro x3 P_servedLow H locs ls h
      rw [f_X3_gather_serves_servedLow_b6] at h
      cases h
    | succ n ih =>
      intro x3 P_servedLow H locs ls h hW hl
      rw [f_X3_gather_serves_servedLow_b6] at h
      refine lv_iload_n hx hb dX3_gather_6 rfl (lv_at hl 3 rfl) ?_
      refine lv_bipush (v := 7) hx hb dX3_gather_7 (by decide) ?_
      refine lv_icmp_ge (tgt := 55) hx hb dX3_gather_9 (by decide) (fun c2 => ?_) (fun c2 => ?_)
      · have h := ifp c2 h
        have h := Option.some.inj h
        subst h
        exact hret _ _ _ _ dX3_gather_55 hW
      · have h := ifn c2 h
        refine lv_iconst (v := 1) hx hb dX3_gather_12 (by decide) ?_
        refine lv_iload_n hx hb dX3_gather_13 rfl (lv_at hl 3 rfl) ?_
        refine lv_ishl hx hb dX3_gather_14 ?_
        refine lv_istore (lv' := [(4, .int (1 <<< (x3 &&& 31))), (0, .ref (ρ 18)), (1, .int x1), (2, .ref (ρ 20)), (3, .int x3)]) hx hb dX3_gather_15 hl (by decide) rfl (fun ls hl => ?_)
        exact b17 ih h hW (lv_sub hl [1, 2, 3, 4, 0] rfl)
  unfold f_X3_gather_serves_servedLow at h
  refine lv_aload_n hx hb dX3_gather_0 rfl (lv_at hl 2 rfl) ?_
  refine lv_iconst (v := 0) hx hb dX3_gather_1 (by decide) ?_
  refine lv_iconst (v := 0) hx hb dX3_gather_2 (by decide) ?_
  obtain ⟨g1, h⟩ := ix_some h
  refine z_iast hC hW 20 WC_20 g1 WCs_P_servedLow dX3_gather_3 (fun H locs hW => ?_)
  refine lv_iconst (v := 0) hx hb dX3_gather_4 (by decide) ?_
  refine lv_istore_n (lv' := [(3, .int 0), (0, .ref (ρ 18)), (1, .int a1), (2, .ref (ρ 20))]) hx hb dX3_gather_5 rfl hl (by decide) rfl (fun ls hl => ?_)
  exact b6 h hW (lv_sub hl [1, 2, 3, 0] rfl)
set_option maxHeartbeats 4000000 in
set_option maxRecDepth 100000 in
theorem c_X3_gather_serves_servedHigh {a1 : Int32} {d : Nat} {res : (Nat → Int32)} (hd : 0 ≤ d) (h : f_X3_gather_serves_servedHigh a1 P_serves P_servedHigh = some res) : zMv l yX3_gather cX3_gather 5 (zrm d) [.ref (ρ 18), .int a1, .ref (ρ 21)] D q (WC q ρ T_price T_year T_joinEnds T_wallEnds T_cost T_doors T_joins T_walls T_oldWells T_apart L_tape L_text L_fed L_length L_read L_end L_at L_fault L_d L_p L_y L_j L_o P_away P_beside P_reach P_serves P_crowds P_servedLow P_servedHigh P_crowdedLow P_crowdedHigh P_there P_must P_can C_what C_number C_before C_after C_done C_kept A_kinds A_traced A_bodies A_began A_self A_kindOfSelf S_holds S_body S_sort S_size S_elements G_grown) sz (WC q ρ T_price T_year T_joinEnds T_wallEnds T_cost T_doors T_joins T_walls T_oldWells T_apart L_tape L_text L_fed L_length L_read L_end L_at L_fault L_d L_p L_y L_j L_o P_away P_beside P_reach P_serves P_crowds P_servedLow res P_crowdedLow P_crowdedHigh P_there P_must P_can C_what C_number C_before C_after C_done C_kept A_kinds A_traced A_bodies A_began A_self A_kindOfSelf S_holds S_body S_sort S_size S_elements G_grown) := by
  refine zMet_v (own := RX3) (by decide) rfl (Nat.le_of_ble_eq_true rfl) ?_
  intro p e s m args below meth c A ls Q hC hW hl hret
  have hx := hC.1
  have hb := hC.2.1
  have hl : lv_has ls 5 [(0, .ref (ρ 18)), (1, .int a1), (2, .ref (ρ 21))] := hl
  have b17 : ∀ {x1 : Int32} {x3 : Int32} {k6 : Int32 → (Nat → Int32) → Option ((Nat → Int32))} (hk6 : ∀ {x3 : Int32} {P_servedHigh : Nat → Int32} {H : Heap} {locs : List Loc} {ls : Array Slot}, k6 x3 P_servedHigh = some res → zW D A s.heap (WC q ρ T_price T_year T_joinEnds T_wallEnds T_cost T_doors T_joins T_walls T_oldWells T_apart L_tape L_text L_fed L_length L_read L_end L_at L_fault L_d L_p L_y L_j L_o P_away P_beside P_reach P_serves P_crowds P_servedLow P_servedHigh P_crowdedLow P_crowdedHigh P_there P_must P_can C_what C_number C_before C_after C_done C_kept A_kinds A_traced A_bodies A_began A_self A_kindOfSelf S_holds S_body S_sort S_size S_elements G_grown) H locs → lv_has ls 5 [(0, .ref (ρ 18)), (1, .int x1), (2, .ref (ρ 21)), (3, .int x3)] → W p l e (zrm d) s m args below meth c H locs 0 0 Q (F0 m 6 ls [])) {n : Nat} {x4 : Int32} {P_servedHigh : Nat → Int32} {H : Heap} {locs : List Loc} {ls : Array Slot}, f_X3_gather_serves_servedHigh_b17 k6 x1 x3 P_serves n x4 P_servedHigh = some res → zW D A s.heap (WC q ρ T_price T_year T_joinEnds T_wallEnds T_cost T_doors T_joins T_walls T_oldWells T_apart L_tape L_text L_fed L_length L_read L_end L_at L_fault L_d L_p L_y L_j L_o P_away P_beside P_reach P_serves P_crowds P_servedLow P_servedHigh P_crowdedLow P_crowdedHigh P_there P_must P_can C_what C_number C_before C_after C_done C_kept A_kinds A_traced A_bodies A_began A_self A_kindOfSelf S_holds S_body S_sort S_size S_elements G_grown) H locs → lv_has ls 5 [(0, .ref (ρ 18)), (1, .int x1), (2, .ref (ρ 21)), (3, .int x3), (4, .int x4)] → W p l e (zrm d) s m args below meth c H locs 0 0 Q (F0 m 17 ls []) := by
    intro x1 x3 k6 hk6
    intro n
    induction n with
    | zero =>
      intro x4 P_servedHigh H locs ls h
      rw [f_X3_gather_serves_servedHigh_b17] at h
      cases h
    | succ n ih =>
      intro x4 P_servedHigh H locs ls h hW hl
      rw [f_X3_gather_serves_servedHigh_b17] at h
      refine lv_iload hx hb dX3_gather_17 (lv_at hl 4 rfl) ?_
      refine lv_iconst (v := 2) hx hb dX3_gather_19 (by decide) ?_
      refine lv_iload_n hx hb dX3_gather_20 rfl (lv_at hl 3 rfl) ?_
      refine lv_ishl hx hb dX3_gather_21 ?_
      refine lv_icmp_ge (tgt := 49) hx hb dX3_gather_22 (by decide) (fun c3 => ?_) (fun c3 => ?_)
      · have h := ifp c3 h
        refine lv_iinc (v := (x3 + 1)) (lv' := [(3, .int (x3 + 1)), (0, .ref (ρ 18)), (1, .int x1), (2, .ref (ρ 21)), (4, .int x4)]) hx hb dX3_gather_49 hl (k := 3) rfl rfl (by decide) rfl (fun ls hl => ?_)
        refine lv_goto (tgt := 6) hx hb dX3_gather_52 (by decide) ?_
        exact hk6 h hW (lv_sub hl [1, 2, 3, 0] rfl)
      · have h := ifn c3 h
        refine lv_aload_n hx hb dX3_gather_25 rfl (lv_at hl 2 rfl) ?_
        refine lv_iload hx hb dX3_gather_26 (lv_at hl 4 rfl) ?_
        refine lv_aload_n hx hb dX3_gather_28 rfl (lv_at hl 2 rfl) ?_
        refine lv_iload hx hb dX3_gather_29 (lv_at hl 4 rfl) ?_
        refine lv_iconst (v := 1) hx hb dX3_gather_31 (by decide) ?_
        refine lv_iload_n hx hb dX3_gather_32 rfl (lv_at hl 3 rfl) ?_
        refine lv_ishl hx hb dX3_gather_33 ?_
        refine lv_ixor hx hb dX3_gather_34 ?_
        obtain ⟨g4, h⟩ := ix_some h
        refine z_iald hC hW 21 WC_21 g4 dX3_gather_35 ?_
        refine lv_aload_n hx hb dX3_gather_36 rfl (lv_at hl 0 rfl) ?_
        refine lv_iload_n hx hb dX3_gather_37 rfl (lv_at hl 1 rfl) ?_
        refine lv_iload_n hx hb dX3_gather_38 rfl (lv_at hl 3 rfl) ?_
        refine lv_iadd hx hb dX3_gather_39 ?_
        obtain ⟨g5, h⟩ := ix_some h
        refine z_iald hC hW 18 WC_18 g5 dX3_gather_40 ?_
        refine lv_ior hx hb dX3_gather_41 ?_
        obtain ⟨g6, h⟩ := ix_some h
        refine z_iast hC hW 21 WC_21 g6 WCs_P_servedHigh dX3_gather_42 (fun H locs hW => ?_)
        refine lv_iinc (v := (x4 + 1)) (lv' := [(4, .int (x4 + 1)), (0, .ref (ρ 18)), (1, .int x1), (2, .ref (ρ 21)), (3, .int x3)]) hx hb dX3_gather_43 hl (k := 4) rfl rfl (by decide) rfl (fun ls hl => ?_)
        refine lv_goto (tgt := 17) hx hb dX3_gather_46 (by decide) ?_
        exact ih h hW (lv_sub hl [1, 2, 3, 4, 0] rfl)
  have b6 : ∀ {x1 : Int32} {n : Nat} {x3 : Int32} {P_servedHigh : Nat → Int32} {H : Heap} {locs : List Loc} {ls : Array Slot}, f_X3_gather_serves_servedHigh_b6 x1 P_serves n x3 P_servedHigh = some res → zW D A s.heap (WC q ρ T_price T_year T_joinEnds T_wallEnds T_cost T_doors T_joins T_walls T_oldWells T_apart L_tape L_text L_fed L_length L_read L_end L_at L_fault L_d L_p L_y L_j L_o P_away P_beside P_reach P_serves P_crowds P_servedLow P_servedHigh P_crowdedLow P_crowdedHigh P_there P_must P_can C_what C_number C_before C_after C_done C_kept A_kinds A_traced A_bodies A_began A_self A_kindOfSelf S_holds S_body S_sort S_size S_elements G_grown) H locs → lv_has ls 5 [(0, .ref (ρ 18)), (1, .int x1), (2, .ref (ρ 21)), (3, .int x3)] → W p l e (zrm d) s m args below meth c H locs 0 0 Q (F0 m 6 ls []) := by
    intro x1
    intro n
    induction n with
    | zero =>
      intro x3 P_servedHigh H locs ls h
      rw [f_X3_gather_serves_servedHigh_b6] at h
      cases h
    | succ n ih =>
      intro x3 P_servedHigh H locs ls h hW hl
      rw [f_X3_gather_serves_servedHigh_b6] at h
      refine lv_iload_n hx hb dX3_gather_6 rfl (lv_at hl 3 rfl) ?_
      refine lv_bipush (v := 7) hx hb dX3_gather_7 (by decide) ?_
      refine lv_icmp_ge (tgt := 55) hx hb dX3_gather_9 (by decide) (fun c2 => ?_) (fun c2 => ?_)
      · have h := ifp c2 h
        have h := Option.some.inj h
        subst h
        exact hret _ _ _ _ dX3_gather_55 hW
      · have h := ifn c2 h
        refine lv_iconst (v := 1) hx hb dX3_gather_12 (by decide) ?_
        refine lv_iload_n hx hb dX3_gather_13 rfl (lv_at hl 3 rfl) ?_
        refine lv_ishl hx hb dX3_gather_14 ?_
        refine lv_istore (lv' := [(4, .int (1 <<< (x3 &&& 31))), (0, .ref (ρ 18)), (1, .int x1), (2, .ref (ρ 21)), (3, .int x3)]) hx hb dX3_gather_15 hl (by decide) rfl (fun ls hl => ?_)
        exact b17 ih h hW (lv_sub hl [1, 2, 3, 4, 0] rfl)
  unfold f_X3_gather_serves_servedHigh at h
  refine lv_aload_n hx hb dX3_gather_0 rfl (lv_at hl 2 rfl) ?_
  refine lv_iconst (v := 0) hx hb dX3_gather_1 (by decide) ?_
  refine lv_iconst (v := 0) hx hb dX3_gather_2 (by decide) ?_
  obtain ⟨g1, h⟩ := ix_some h
  refine z_iast hC hW 21 WC_21 g1 WCs_P_servedHigh dX3_gather_3 (fun H locs hW => ?_)
  refine lv_iconst (v := 0) hx hb dX3_gather_4 (by decide) ?_
  refine lv_istore_n (lv' := [(3, .int 0), (0, .ref (ρ 18)), (1, .int a1), (2, .ref (ρ 21))]) hx hb dX3_gather_5 rfl hl (by decide) rfl (fun ls hl => ?_)
  exact b6 h hW (lv_sub hl [1, 2, 3, 0] rfl)
set_option maxHeartbeats 4000000 in
set_option maxRecDepth 100000 in
theorem c_X3_gather_crowds_crowdedLow {a1 : Int32} {d : Nat} {res : (Nat → Int32)} (hd : 0 ≤ d) (h : f_X3_gather_crowds_crowdedLow a1 P_crowds P_crowdedLow = some res) : zMv l yX3_gather cX3_gather 5 (zrm d) [.ref (ρ 19), .int a1, .ref (ρ 22)] D q (WC q ρ T_price T_year T_joinEnds T_wallEnds T_cost T_doors T_joins T_walls T_oldWells T_apart L_tape L_text L_fed L_length L_read L_end L_at L_fault L_d L_p L_y L_j L_o P_away P_beside P_reach P_serves P_crowds P_servedLow P_servedHigh P_crowdedLow P_crowdedHigh P_there P_must P_can C_what C_number C_before C_after C_done C_kept A_kinds A_traced A_bodies A_began A_self A_kindOfSelf S_holds S_body S_sort S_size S_elements G_grown) sz (WC q ρ T_price T_year T_joinEnds T_wallEnds T_cost T_doors T_joins T_walls T_oldWells T_apart L_tape L_text L_fed L_length L_read L_end L_at L_fault L_d L_p L_y L_j L_o P_away P_beside P_reach P_serves P_crowds P_servedLow P_servedHigh res P_crowdedHigh P_there P_must P_can C_what C_number C_before C_after C_done C_kept A_kinds A_traced A_bodies A_began A_self A_kindOfSelf S_holds S_body S_sort S_size S_elements G_grown) := by
  refine zMet_v (own := RX3) (by decide) rfl (Nat.le_of_ble_eq_true rfl) ?_
  intro p e s m args below meth c A ls Q hC hW hl hret
  have hx := hC.1
  have hb := hC.2.1
  have hl : lv_has ls 5 [(0, .ref (ρ 19)), (1, .int a1), (2, .ref (ρ 22))] := hl
  have b17 : ∀ {x1 : Int32} {x3 : Int32} {k6 : Int32 → (Nat → Int32) → Option ((Nat → Int32))} (hk6 : ∀ {x3 : Int32} {P_crowdedLow : Nat → Int32} {H : Heap} {locs : List Loc} {ls : Array Slot}, k6 x3 P_crowdedLow = some res → zW D A s.heap (WC q ρ T_price T_year T_joinEnds T_wallEnds T_cost T_doors T_joins T_walls T_oldWells T_apart L_tape L_text L_fed L_length L_read L_end L_at L_fault L_d L_p L_y L_j L_o P_away P_beside P_reach P_serves P_crowds P_servedLow P_servedHigh P_crowdedLow P_crowdedHigh P_there P_must P_can C_what C_number C_before C_after C_done C_kept A_kinds A_traced A_bodies A_began A_self A_kindOfSelf S_holds S_body S_sort S_size S_elements G_grown) H locs → lv_has ls 5 [(0, .ref (ρ 19)), (1, .int x1), (2, .ref (ρ 22)), (3, .int x3)] → W p l e (zrm d) s m args below meth c H locs 0 0 Q (F0 m 6 ls [])) {n : Nat} {x4 : Int32} {P_crowdedLow : Nat → Int32} {H : Heap} {locs : List Loc} {ls : Array Slot}, f_X3_gather_crowds_crowdedLow_b17 k6 x1 x3 P_crowds n x4 P_crowdedLow = some res → zW D A s.heap (WC q ρ T_price T_year T_joinEnds T_wallEnds T_cost T_doors T_joins T_walls T_oldWells T_apart L_tape L_text L_fed L_length L_read L_end L_at L_fault L_d L_p L_y L_j L_o P_away P_beside P_reach P_serves P_crowds P_servedLow P_servedHigh P_crowdedLow P_crowdedHigh P_there P_must P_can C_what C_number C_before C_after C_done C_kept A_kinds A_traced A_bodies A_began A_self A_kindOfSelf S_holds S_body S_sort S_size S_elements G_grown) H locs → lv_has ls 5 [(0, .ref (ρ 19)), (1, .int x1), (2, .ref (ρ 22)), (3, .int x3), (4, .int x4)] → W p l e (zrm d) s m args below meth c H locs 0 0 Q (F0 m 17 ls []) := by
    intro x1 x3 k6 hk6
    intro n
    induction n with
    | zero =>
      intro x4 P_crowdedLow H locs ls h
      rw [f_X3_gather_crowds_crowdedLow_b17] at h
      cases h
    | succ n ih =>
      intro x4 P_crowdedLow H locs ls h hW hl
      rw [f_X3_gather_crowds_crowdedLow_b17] at h
      refine lv_iload hx hb dX3_gather_17 (lv_at hl 4 rfl) ?_
      refine lv_iconst (v := 2) hx hb dX3_gather_19 (by decide) ?_
      refine lv_iload_n hx hb dX3_gather_20 rfl (lv_at hl 3 rfl) ?_
      refine lv_ishl hx hb dX3_gather_21 ?_
      refine lv_icmp_ge (tgt := 49) hx hb dX3_gather_22 (by decide) (fun c3 => ?_) (fun c3 => ?_)
      · have h := ifp c3 h
        refine lv_iinc (v := (x3 + 1)) (lv' := [(3, .int (x3 + 1)), (0, .ref (ρ 19)), (1, .int x1), (2, .ref (ρ 22)), (4, .int x4)]) hx hb dX3_gather_49 hl (k := 3) rfl rfl (by decide) rfl (fun ls hl => ?_)
        refine lv_goto (tgt := 6) hx hb dX3_gather_52 (by decide) ?_
        exact hk6 h hW (lv_sub hl [1, 2, 3, 0] rfl)
      · have h := ifn c3 h
        refine lv_aload_n hx hb dX3_gather_25 rfl (lv_at hl 2 rfl) ?_
        refine lv_iload hx hb dX3_gather_26 (lv_at hl 4 rfl) ?_
        refine lv_aload_n hx hb dX3_gather_28 rfl (lv_at hl 2 rfl) ?_
        refine lv_iload hx hb dX3_gather_29 (lv_at hl 4 rfl) ?_
        refine lv_iconst (v := 1) hx hb dX3_gather_31 (by decide) ?_
        refine lv_iload_n hx hb dX3_gather_32 rfl (lv_at hl 3 rfl) ?_
        refine lv_ishl hx hb dX3_gather_33 ?_
        refine lv_ixor hx hb dX3_gather_34 ?_
        obtain ⟨g4, h⟩ := ix_some h
        refine z_iald hC hW 22 WC_22 g4 dX3_gather_35 ?_
        refine lv_aload_n hx hb dX3_gather_36 rfl (lv_at hl 0 rfl) ?_
        refine lv_iload_n hx hb dX3_gather_37 rfl (lv_at hl 1 rfl) ?_
        refine lv_iload_n hx hb dX3_gather_38 rfl (lv_at hl 3 rfl) ?_
        refine lv_iadd hx hb dX3_gather_39 ?_
        obtain ⟨g5, h⟩ := ix_some h
        refine z_iald hC hW 19 WC_19 g5 dX3_gather_40 ?_
        refine lv_ior hx hb dX3_gather_41 ?_
        obtain ⟨g6, h⟩ := ix_some h
        refine z_iast hC hW 22 WC_22 g6 WCs_P_crowdedLow dX3_gather_42 (fun H locs hW => ?_)
        refine lv_iinc (v := (x4 + 1)) (lv' := [(4, .int (x4 + 1)), (0, .ref (ρ 19)), (1, .int x1), (2, .ref (ρ 22)), (3, .int x3)]) hx hb dX3_gather_43 hl (k := 4) rfl rfl (by decide) rfl (fun ls hl => ?_)
        refine lv_goto (tgt := 17) hx hb dX3_gather_46 (by decide) ?_
        exact ih h hW (lv_sub hl [1, 2, 3, 4, 0] rfl)
  have b6 : ∀ {x1 : Int32} {n : Nat} {x3 : Int32} {P_crowdedLow : Nat → Int32} {H : Heap} {locs : List Loc} {ls : Array Slot}, f_X3_gather_crowds_crowdedLow_b6 x1 P_crowds n x3 P_crowdedLow = some res → zW D A s.heap (WC q ρ T_price T_year T_joinEnds T_wallEnds T_cost T_doors T_joins T_walls T_oldWells T_apart L_tape L_text L_fed L_length L_read L_end L_at L_fault L_d L_p L_y L_j L_o P_away P_beside P_reach P_serves P_crowds P_servedLow P_servedHigh P_crowdedLow P_crowdedHigh P_there P_must P_can C_what C_number C_before C_after C_done C_kept A_kinds A_traced A_bodies A_began A_self A_kindOfSelf S_holds S_body S_sort S_size S_elements G_grown) H locs → lv_has ls 5 [(0, .ref (ρ 19)), (1, .int x1), (2, .ref (ρ 22)), (3, .int x3)] → W p l e (zrm d) s m args below meth c H locs 0 0 Q (F0 m 6 ls []) := by
    intro x1
    intro n
    induction n with
    | zero =>
      intro x3 P_crowdedLow H locs ls h
      rw [f_X3_gather_crowds_crowdedLow_b6] at h
      cases h
    | succ n ih =>
      intro x3 P_crowdedLow H locs ls h hW hl
      rw [f_X3_gather_crowds_crowdedLow_b6] at h
      refine lv_iload_n hx hb dX3_gather_6 rfl (lv_at hl 3 rfl) ?_
      refine lv_bipush (v := 7) hx hb dX3_gather_7 (by decide) ?_
      refine lv_icmp_ge (tgt := 55) hx hb dX3_gather_9 (by decide) (fun c2 => ?_) (fun c2 => ?_)
      · have h := ifp c2 h
        have h := Option.some.inj h
        subst h
        exact hret _ _ _ _ dX3_gather_55 hW
      · have h := ifn c2 h
        refine lv_iconst (v := 1) hx hb dX3_gather_12 (by decide) ?_
        refine lv_iload_n hx hb dX3_gather_13 rfl (lv_at hl 3 rfl) ?_
        refine lv_ishl hx hb dX3_gather_14 ?_
        refine lv_istore (lv' := [(4, .int (1 <<< (x3 &&& 31))), (0, .ref (ρ 19)), (1, .int x1), (2, .ref (ρ 22)), (3, .int x3)]) hx hb dX3_gather_15 hl (by decide) rfl (fun ls hl => ?_)
        exact b17 ih h hW (lv_sub hl [1, 2, 3, 4, 0] rfl)
  unfold f_X3_gather_crowds_crowdedLow at h
  refine lv_aload_n hx hb dX3_gather_0 rfl (lv_at hl 2 rfl) ?_
  refine lv_iconst (v := 0) hx hb dX3_gather_1 (by decide) ?_
  refine lv_iconst (v := 0) hx hb dX3_gather_2 (by decide) ?_
  obtain ⟨g1, h⟩ := ix_some h
  refine z_iast hC hW 22 WC_22 g1 WCs_P_crowdedLow dX3_gather_3 (fun H locs hW => ?_)
  refine lv_iconst (v := 0) hx hb dX3_gather_4 (by decide) ?_
  refine lv_istore_n (lv' := [(3, .int 0), (0, .ref (ρ 19)), (1, .int a1), (2, .ref (ρ 22))]) hx hb dX3_gather_5 rfl hl (by decide) rfl (fun ls hl => ?_)
  exact b6 h hW (lv_sub hl [1, 2, 3, 0] rfl)
set_option maxHeartbeats 4000000 in
set_option maxRecDepth 100000 in
theorem c_X3_gather_crowds_crowdedHigh {a1 : Int32} {d : Nat} {res : (Nat → Int32)} (hd : 0 ≤ d) (h : f_X3_gather_crowds_crowdedHigh a1 P_crowds P_crowdedHigh = some res) : zMv l yX3_gather cX3_gather 5 (zrm d) [.ref (ρ 19), .int a1, .ref (ρ 23)] D q (WC q ρ T_price T_year T_joinEnds T_wallEnds T_cost T_doors T_joins T_walls T_oldWells T_apart L_tape L_text L_fed L_length L_read L_end L_at L_fault L_d L_p L_y L_j L_o P_away P_beside P_reach P_serves P_crowds P_servedLow P_servedHigh P_crowdedLow P_crowdedHigh P_there P_must P_can C_what C_number C_before C_after C_done C_kept A_kinds A_traced A_bodies A_began A_self A_kindOfSelf S_holds S_body S_sort S_size S_elements G_grown) sz (WC q ρ T_price T_year T_joinEnds T_wallEnds T_cost T_doors T_joins T_walls T_oldWells T_apart L_tape L_text L_fed L_length L_read L_end L_at L_fault L_d L_p L_y L_j L_o P_away P_beside P_reach P_serves P_crowds P_servedLow P_servedHigh P_crowdedLow res P_there P_must P_can C_what C_number C_before C_after C_done C_kept A_kinds A_traced A_bodies A_began A_self A_kindOfSelf S_holds S_body S_sort S_size S_elements G_grown) := by
  refine zMet_v (own := RX3) (by decide) rfl (Nat.le_of_ble_eq_true rfl) ?_
  intro p e s m args below meth c A ls Q hC hW hl hret
  have hx := hC.1
  have hb := hC.2.1
  have hl : lv_has ls 5 [(0, .ref (ρ 19)), (1, .int a1), (2, .ref (ρ 23))] := hl
  have b17 : ∀ {x1 : Int32} {x3 : Int32} {k6 : Int32 → (Nat → Int32) → Option ((Nat → Int32))} (hk6 : ∀ {x3 : Int32} {P_crowdedHigh : Nat → Int32} {H : Heap} {locs : List Loc} {ls : Array Slot}, k6 x3 P_crowdedHigh = some res → zW D A s.heap (WC q ρ T_price T_year T_joinEnds T_wallEnds T_cost T_doors T_joins T_walls T_oldWells T_apart L_tape L_text L_fed L_length L_read L_end L_at L_fault L_d L_p L_y L_j L_o P_away P_beside P_reach P_serves P_crowds P_servedLow P_servedHigh P_crowdedLow P_crowdedHigh P_there P_must P_can C_what C_number C_before C_after C_done C_kept A_kinds A_traced A_bodies A_began A_self A_kindOfSelf S_holds S_body S_sort S_size S_elements G_grown) H locs → lv_has ls 5 [(0, .ref (ρ 19)), (1, .int x1), (2, .ref (ρ 23)), (3, .int x3)] → W p l e (zrm d) s m args below meth c H locs 0 0 Q (F0 m 6 ls [])) {n : Nat} {x4 : Int32} {P_crowdedHigh : Nat → Int32} {H : Heap} {locs : List Loc} {ls : Array Slot}, f_X3_gather_crowds_crowdedHigh_b17 k6 x1 x3 P_crowds n x4 P_crowdedHigh = some res → zW D A s.heap (WC q ρ T_price T_year T_joinEnds T_wallEnds T_cost T_doors T_joins T_walls T_oldWells T_apart L_tape L_text L_fed L_length L_read L_end L_at L_fault L_d L_p L_y L_j L_o P_away P_beside P_reach P_serves P_crowds P_servedLow P_servedHigh P_crowdedLow P_crowdedHigh P_there P_must P_can C_what C_number C_before C_after C_done C_kept A_kinds A_traced A_bodies A_began A_self A_kindOfSelf S_holds S_body S_sort S_size S_elements G_grown) H locs → lv_has ls 5 [(0, .ref (ρ 19)), (1, .int x1), (2, .ref (ρ 23)), (3, .int x3), (4, .int x4)] → W p l e (zrm d) s m args below meth c H locs 0 0 Q (F0 m 17 ls []) := by
    intro x1 x3 k6 hk6
    intro n
    induction n with
    | zero =>
      intro x4 P_crowdedHigh H locs ls h
      rw [f_X3_gather_crowds_crowdedHigh_b17] at h
      cases h
    | succ n ih =>
      intro x4 P_crowdedHigh H locs ls h hW hl
      rw [f_X3_gather_crowds_crowdedHigh_b17] at h
      refine lv_iload hx hb dX3_gather_17 (lv_at hl 4 rfl) ?_
      refine lv_iconst (v := 2) hx hb dX3_gather_19 (by decide) ?_
      refine lv_iload_n hx hb dX3_gather_20 rfl (lv_at hl 3 rfl) ?_
      refine lv_ishl hx hb dX3_gather_21 ?_
      refine lv_icmp_ge (tgt := 49) hx hb dX3_gather_22 (by decide) (fun c3 => ?_) (fun c3 => ?_)
      · have h := ifp c3 h
        refine lv_iinc (v := (x3 + 1)) (lv' := [(3, .int (x3 + 1)), (0, .ref (ρ 19)), (1, .int x1), (2, .ref (ρ 23)), (4, .int x4)]) hx hb dX3_gather_49 hl (k := 3) rfl rfl (by decide) rfl (fun ls hl => ?_)
        refine lv_goto (tgt := 6) hx hb dX3_gather_52 (by decide) ?_
        exact hk6 h hW (lv_sub hl [1, 2, 3, 0] rfl)
      · have h := ifn c3 h
        refine lv_aload_n hx hb dX3_gather_25 rfl (lv_at hl 2 rfl) ?_
        refine lv_iload hx hb dX3_gather_26 (lv_at hl 4 rfl) ?_
        refine lv_aload_n hx hb dX3_gather_28 rfl (lv_at hl 2 rfl) ?_
        refine lv_iload hx hb dX3_gather_29 (lv_at hl 4 rfl) ?_
        refine lv_iconst (v := 1) hx hb dX3_gather_31 (by decide) ?_
        refine lv_iload_n hx hb dX3_gather_32 rfl (lv_at hl 3 rfl) ?_
        refine lv_ishl hx hb dX3_gather_33 ?_
        refine lv_ixor hx hb dX3_gather_34 ?_
        obtain ⟨g4, h⟩ := ix_some h
        refine z_iald hC hW 23 WC_23 g4 dX3_gather_35 ?_
        refine lv_aload_n hx hb dX3_gather_36 rfl (lv_at hl 0 rfl) ?_
        refine lv_iload_n hx hb dX3_gather_37 rfl (lv_at hl 1 rfl) ?_
        refine lv_iload_n hx hb dX3_gather_38 rfl (lv_at hl 3 rfl) ?_
        refine lv_iadd hx hb dX3_gather_39 ?_
        obtain ⟨g5, h⟩ := ix_some h
        refine z_iald hC hW 19 WC_19 g5 dX3_gather_40 ?_
        refine lv_ior hx hb dX3_gather_41 ?_
        obtain ⟨g6, h⟩ := ix_some h
        refine z_iast hC hW 23 WC_23 g6 WCs_P_crowdedHigh dX3_gather_42 (fun H locs hW => ?_)
        refine lv_iinc (v := (x4 + 1)) (lv' := [(4, .int (x4 + 1)), (0, .ref (ρ 19)), (1, .int x1), (2, .ref (ρ 23)), (3, .int x3)]) hx hb dX3_gather_43 hl (k := 4) rfl rfl (by decide) rfl (fun ls hl => ?_)
        refine lv_goto (tgt := 17) hx hb dX3_gather_46 (by decide) ?_
        exact ih h hW (lv_sub hl [1, 2, 3, 4, 0] rfl)
  have b6 : ∀ {x1 : Int32} {n : Nat} {x3 : Int32} {P_crowdedHigh : Nat → Int32} {H : Heap} {locs : List Loc} {ls : Array Slot}, f_X3_gather_crowds_crowdedHigh_b6 x1 P_crowds n x3 P_crowdedHigh = some res → zW D A s.heap (WC q ρ T_price T_year T_joinEnds T_wallEnds T_cost T_doors T_joins T_walls T_oldWells T_apart L_tape L_text L_fed L_length L_read L_end L_at L_fault L_d L_p L_y L_j L_o P_away P_beside P_reach P_serves P_crowds P_servedLow P_servedHigh P_crowdedLow P_crowdedHigh P_there P_must P_can C_what C_number C_before C_after C_done C_kept A_kinds A_traced A_bodies A_began A_self A_kindOfSelf S_holds S_body S_sort S_size S_elements G_grown) H locs → lv_has ls 5 [(0, .ref (ρ 19)), (1, .int x1), (2, .ref (ρ 23)), (3, .int x3)] → W p l e (zrm d) s m args below meth c H locs 0 0 Q (F0 m 6 ls []) := by
    intro x1
    intro n
    induction n with
    | zero =>
      intro x3 P_crowdedHigh H locs ls h
      rw [f_X3_gather_crowds_crowdedHigh_b6] at h
      cases h
    | succ n ih =>
      intro x3 P_crowdedHigh H locs ls h hW hl
      rw [f_X3_gather_crowds_crowdedHigh_b6] at h
      refine lv_iload_n hx hb dX3_gather_6 rfl (lv_at hl 3 rfl) ?_
      refine lv_bipush (v := 7) hx hb dX3_gather_7 (by decide) ?_
      refine lv_icmp_ge (tgt := 55) hx hb dX3_gather_9 (by decide) (fun c2 => ?_) (fun c2 => ?_)
      · have h := ifp c2 h
        have h := Option.some.inj h
        subst h
        exact hret _ _ _ _ dX3_gather_55 hW
      · have h := ifn c2 h
        refine lv_iconst (v := 1) hx hb dX3_gather_12 (by decide) ?_
        refine lv_iload_n hx hb dX3_gather_13 rfl (lv_at hl 3 rfl) ?_
        refine lv_ishl hx hb dX3_gather_14 ?_
        refine lv_istore (lv' := [(4, .int (1 <<< (x3 &&& 31))), (0, .ref (ρ 19)), (1, .int x1), (2, .ref (ρ 23)), (3, .int x3)]) hx hb dX3_gather_15 hl (by decide) rfl (fun ls hl => ?_)
        exact b17 ih h hW (lv_sub hl [1, 2, 3, 4, 0] rfl)
  unfold f_X3_gather_crowds_crowdedHigh at h
  refine lv_aload_n hx hb dX3_gather_0 rfl (lv_at hl 2 rfl) ?_
  refine lv_iconst (v := 0) hx hb dX3_gather_1 (by decide) ?_
  refine lv_iconst (v := 0) hx hb dX3_gather_2 (by decide) ?_
  obtain ⟨g1, h⟩ := ix_some h
  refine z_iast hC hW 23 WC_23 g1 WCs_P_crowdedHigh dX3_gather_3 (fun H locs hW => ?_)
  refine lv_iconst (v := 0) hx hb dX3_gather_4 (by decide) ?_
  refine lv_istore_n (lv' := [(3, .int 0), (0, .ref (ρ 19)), (1, .int a1), (2, .ref (ρ 23))]) hx hb dX3_gather_5 rfl hl (by decide) rfl (fun ls hl => ?_)
  exact b6 h hW (lv_sub hl [1, 2, 3, 0] rfl)
set_option maxHeartbeats 4000000 in
set_option maxRecDepth 100000 in
theorem c_X3_isThere {a1 : Int32} {d : Nat} {res : Int32} (hd : 0 ≤ d) (h : f_X3_isThere a1 P_there = some res) : zMi l yX3_isThere cX3_isThere 2 .boolean (zrm d) [.ref (ρ 3), .int a1] D q (WC q ρ T_price T_year T_joinEnds T_wallEnds T_cost T_doors T_joins T_walls T_oldWells T_apart L_tape L_text L_fed L_length L_read L_end L_at L_fault L_d L_p L_y L_j L_o P_away P_beside P_reach P_serves P_crowds P_servedLow P_servedHigh P_crowdedLow P_crowdedHigh P_there P_must P_can C_what C_number C_before C_after C_done C_kept A_kinds A_traced A_bodies A_began A_self A_kindOfSelf S_holds S_body S_sort S_size S_elements G_grown) sz res (WC q ρ T_price T_year T_joinEnds T_wallEnds T_cost T_doors T_joins T_walls T_oldWells T_apart L_tape L_text L_fed L_length L_read L_end L_at L_fault L_d L_p L_y L_j L_o P_away P_beside P_reach P_serves P_crowds P_servedLow P_servedHigh P_crowdedLow P_crowdedHigh P_there P_must P_can C_what C_number C_before C_after C_done C_kept A_kinds A_traced A_bodies A_began A_self A_kindOfSelf S_holds S_body S_sort S_size S_elements G_grown) := by
  refine zMet_i (own := RX3) _ (by decide) rfl (Nat.le_of_ble_eq_true rfl) ?_
  intro p e s m args below meth c A ls Q hC hW hl hret
  have hx := hC.1
  have hb := hC.2.1
  have hl : lv_has ls 2 [(0, .ref (ρ 3)), (1, .int a1)] := hl
  unfold f_X3_isThere at h
  refine lv_aload_n hx hb dX3_isThere_0 rfl (lv_at hl 0 rfl) ?_
  refine z_get hC hW fg_X3_41 3 WC_3 rfl dX3_isThere_1 ?_
  refine lv_iload_n hx hb dX3_isThere_4 rfl (lv_at hl 1 rfl) ?_
  refine lv_ishr hx hb dX3_isThere_5 ?_
  refine lv_iconst (v := 1) hx hb dX3_isThere_6 (by decide) ?_
  refine lv_iand hx hb dX3_isThere_7 ?_
  refine lv_if_eq (tgt := 15) hx hb dX3_isThere_8 (by decide) (fun c1 => ?_) (fun c1 => ?_)
  · have h := ifp c1 h
    refine lv_iconst (v := 0) hx hb dX3_isThere_15 (by decide) ?_
    have h := Option.some.inj h
    subst h
    exact hret _ _ _ _ _ dX3_isThere_16 rfl rfl hW
  · have h := ifn c1 h
    refine lv_iconst (v := 1) hx hb dX3_isThere_11 (by decide) ?_
    refine lv_goto (tgt := 16) hx hb dX3_isThere_12 (by decide) ?_
    have h := Option.some.inj h
    subst h
    exact hret _ _ _ _ _ dX3_isThere_16 rfl rfl hW
end CT20_c07
