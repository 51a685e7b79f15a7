section CT20_c02
variable {l : Launch} {D : va_G} {q : Nat → ClassId} {ρ : Nat → Nat} {sz : Nat} {T_price : Nat → Int32} {T_year : Nat → Int32} {T_joinEnds : Nat → Int32} {T_wallEnds : Nat → Int32} {T_cost : Nat → Int32} {T_doors : Int32} {T_joins : Int32} {T_walls : Int32} {T_oldWells : Int32} {T_apart : Int32} {L_tape : Nat → Int32} {L_text : Nat → Int32} {L_fed : Int32} {L_length : Int32} {L_read : Nat} {L_end : Int32} {L_at : Int32} {L_fault : Int32} {L_d : Int32} {L_p : Int32} {L_y : Int32} {L_j : Int32} {L_o : Int32} {P_away : Nat → Nat → Int32} {P_beside : Nat → Int32} {P_reach : Nat → Int32} {P_serves : Nat → Int32} {P_crowds : Nat → Int32} {P_servedLow : Nat → Int32} {P_servedHigh : Nat → Int32} {P_crowdedLow : Nat → Int32} {P_crowdedHigh : Nat → Int32} {P_there : Int32} {P_must : Int32} {P_can : Int32} {C_what : Nat → Int32} {C_number : Nat → Int32} {C_before : Nat → Int32} {C_after : Nat → Int32} {C_done : Int32} {C_kept : Int32} {A_kinds : Nat → Int32} {A_traced : Nat → Int32} {A_bodies : Int32} {A_began : Int32} {A_self : Int32} {A_kindOfSelf : Int32} {S_holds : Nat → Int32} {S_body : Nat → Int32} {S_sort : Nat → Int32} {S_size : Nat → Int32} {S_elements : Nat → Nat → Int64} {G_grown : Nat → Int32}
set_option maxHeartbeats 4000000 in
set_option maxRecDepth 100000 in
theorem c_X5_become {a1 : Int32} {a2 : Int32} {a3 : Int32} {d : Nat} {res : Int32 × (Nat → Int32) × (Nat → Int32) × (Nat → Int32)} (hd : 0 ≤ d) (h : f_X5_become a1 a2 a3 T_price T_year T_cost = some res) : zMi l yX5_become cX5_become 6 .int (zrm d) [.ref (ρ 1), .int a1, .int a2, .int a3] D q (WC q ρ T_price T_year T_joinEnds T_wallEnds T_cost T_doors T_joins T_walls T_oldWells T_apart L_tape L_text L_fed L_length L_read L_end L_at L_fault L_d L_p L_y L_j L_o P_away P_beside P_reach P_serves P_crowds P_servedLow P_servedHigh P_crowdedLow P_crowdedHigh P_there P_must P_can C_what C_number C_before C_after C_done C_kept A_kinds A_traced A_bodies A_began A_self A_kindOfSelf S_holds S_body S_sort S_size S_elements G_grown) sz res.1 (WC q ρ res.2.1 res.2.2.1 T_joinEnds T_wallEnds res.2.2.2 T_doors T_joins T_walls T_oldWells T_apart L_tape L_text L_fed L_length L_read L_end L_at L_fault L_d L_p L_y L_j L_o P_away P_beside P_reach P_serves P_crowds P_servedLow P_servedHigh P_crowdedLow P_crowdedHigh P_there P_must P_can C_what C_number C_before C_after C_done C_kept A_kinds A_traced A_bodies A_began A_self A_kindOfSelf S_holds S_body S_sort S_size S_elements G_grown) := by
  refine zMet_i (own := RX5) _ (by decide) rfl (Nat.le_of_ble_eq_true rfl) ?_
  intro p e s m args below meth c A ls Q hC hW hl hret
  have hx := hC.1
  have hb := hC.2.1
  have hl : lv_has ls 6 [(0, .ref (ρ 1)), (1, .int a1), (2, .int a2), (3, .int a3)] := hl
  have b27 : ∀ {x2 : Int32} {x3 : Int32} {T_price : Nat → Int32} {T_year : Nat → Int32} {T_cost : Nat → Int32} {H : Heap} {locs : List Loc} {ls : Array Slot}, f_X5_become_b27 x2 x3 T_price T_year T_cost = some res → zW D A s.heap (WC q ρ T_price T_year T_joinEnds T_wallEnds T_cost T_doors T_joins T_walls T_oldWells T_apart L_tape L_text L_fed L_length L_read L_end L_at L_fault L_d L_p L_y L_j L_o P_away P_beside P_reach P_serves P_crowds P_servedLow P_servedHigh P_crowdedLow P_crowdedHigh P_there P_must P_can C_what C_number C_before C_after C_done C_kept A_kinds A_traced A_bodies A_began A_self A_kindOfSelf S_holds S_body S_sort S_size S_elements G_grown) H locs → lv_has ls 6 [(2, .int x2), (3, .int x3)] → W p l e (zrm d) s m args below meth c H locs 0 0 Q (F0 m 27 ls [.ref (ρ 12)]) := by
    intro x2 x3 T_price T_year T_cost H locs ls h hW hl
    unfold f_X5_become_b27 at h
    refine lv_astore (lv' := [(4, .ref (ρ 12)), (2, .int x2), (3, .int x3)]) hx hb dX5_become_27 hl (by decide) rfl (fun ls hl => ?_)
    refine lv_iload_n hx hb dX5_become_29 rfl (lv_at hl 1 rfl) ?_
    refine lv_if_lt (tgt := 40) hx hb dX5_become_30 (by decide) (fun c3 => ?_) (fun c3 => ?_)
    · have h := ifp c3 h
      refine lv_iconst (v := (-1)) hx hb dX5_become_40 (by decide) ?_
      have h := Option.some.inj h
      subst h
      exact hret _ _ _ _ _ dX5_become_41 rfl rfl hW
    · have h := ifn c3 h
      refine lv_iload_n hx hb dX5_become_33 rfl (lv_at hl 1 rfl) ?_
      refine lv_aload hx hb dX5_become_34 (lv_at hl 0 rfl) ?_
      refine z_alen hC hW 12 0 WC_12 rfl (v := 10) rfl dX5_become_36 ?_
      refine lv_icmp_lt (tgt := 42) hx hb dX5_become_37 (by decide) (fun c4 => ?_) (fun c4 => ?_)
      · have h := ifp c4 h
        refine lv_aload hx hb dX5_become_42 (lv_at hl 0 rfl) ?_
        refine lv_iload_n hx hb dX5_become_44 rfl (lv_at hl 1 rfl) ?_
        obtain ⟨g5, h⟩ := ix_some h
        refine z_iald hC hW 12 WC_12 g5 dX5_become_45 ?_
        refine lv_istore (lv' := [(5, .int (T_cost (Int32.toNatClampNeg x2))), (4, .ref (ρ 12)), (2, .int x2), (3, .int x3)]) hx hb dX5_become_46 hl (by decide) rfl (fun ls hl => ?_)
        refine lv_aload hx hb dX5_become_48 (lv_at hl 1 rfl) ?_
        refine lv_iload_n hx hb dX5_become_50 rfl (lv_at hl 2 rfl) ?_
        refine lv_iload_n hx hb dX5_become_51 rfl (lv_at hl 3 rfl) ?_
        obtain ⟨g6, h⟩ := ix_some h
        refine z_iast hC hW 12 WC_12 g6 WCs_T_cost dX5_become_52 (fun H locs hW => ?_)
        refine lv_iload hx hb dX5_become_53 (lv_at hl 0 rfl) ?_
        have h := Option.some.inj h
        subst h
        exact hret _ _ _ _ _ dX5_become_55 rfl rfl hW
      · have h := ifn c4 h
        refine lv_iconst (v := (-1)) hx hb dX5_become_40 (by decide) ?_
        have h := Option.some.inj h
        subst h
        exact hret _ _ _ _ _ dX5_become_41 rfl rfl hW
  have b27_2 : ∀ {x2 : Int32} {x3 : Int32} {T_price : Nat → Int32} {T_year : Nat → Int32} {T_cost : Nat → Int32} {H : Heap} {locs : List Loc} {ls : Array Slot}, f_X5_become_b27_2 x2 x3 T_price T_year T_cost = some res → zW D A s.heap (WC q ρ T_price T_year T_joinEnds T_wallEnds T_cost T_doors T_joins T_walls T_oldWells T_apart L_tape L_text L_fed L_length L_read L_end L_at L_fault L_d L_p L_y L_j L_o P_away P_beside P_reach P_serves P_crowds P_servedLow P_servedHigh P_crowdedLow P_crowdedHigh P_there P_must P_can C_what C_number C_before C_after C_done C_kept A_kinds A_traced A_bodies A_began A_self A_kindOfSelf S_holds S_body S_sort S_size S_elements G_grown) H locs → lv_has ls 6 [(2, .int x2), (3, .int x3)] → W p l e (zrm d) s m args below meth c H locs 0 0 Q (F0 m 27 ls [.ref (ρ 9)]) := by
    intro x2 x3 T_price T_year T_cost H locs ls h hW hl
    unfold f_X5_become_b27_2 at h
    refine lv_astore (lv' := [(4, .ref (ρ 9)), (2, .int x2), (3, .int x3)]) hx hb dX5_become_27 hl (by decide) rfl (fun ls hl => ?_)
    refine lv_iload_n hx hb dX5_become_29 rfl (lv_at hl 1 rfl) ?_
    refine lv_if_lt (tgt := 40) hx hb dX5_become_30 (by decide) (fun c7 => ?_) (fun c7 => ?_)
    · have h := ifp c7 h
      refine lv_iconst (v := (-1)) hx hb dX5_become_40 (by decide) ?_
      have h := Option.some.inj h
      subst h
      exact hret _ _ _ _ _ dX5_become_41 rfl rfl hW
    · have h := ifn c7 h
      refine lv_iload_n hx hb dX5_become_33 rfl (lv_at hl 1 rfl) ?_
      refine lv_aload hx hb dX5_become_34 (lv_at hl 0 rfl) ?_
      refine z_alen hC hW 9 0 WC_9 rfl (v := 14) rfl dX5_become_36 ?_
      refine lv_icmp_lt (tgt := 42) hx hb dX5_become_37 (by decide) (fun c8 => ?_) (fun c8 => ?_)
      · have h := ifp c8 h
        refine lv_aload hx hb dX5_become_42 (lv_at hl 0 rfl) ?_
        refine lv_iload_n hx hb dX5_become_44 rfl (lv_at hl 1 rfl) ?_
        obtain ⟨g9, h⟩ := ix_some h
        refine z_iald hC hW 9 WC_9 g9 dX5_become_45 ?_
        refine lv_istore (lv' := [(5, .int (T_year (Int32.toNatClampNeg x2))), (4, .ref (ρ 9)), (2, .int x2), (3, .int x3)]) hx hb dX5_become_46 hl (by decide) rfl (fun ls hl => ?_)
        refine lv_aload hx hb dX5_become_48 (lv_at hl 1 rfl) ?_
        refine lv_iload_n hx hb dX5_become_50 rfl (lv_at hl 2 rfl) ?_
        refine lv_iload_n hx hb dX5_become_51 rfl (lv_at hl 3 rfl) ?_
        obtain ⟨g10, h⟩ := ix_some h
        refine z_iast hC hW 9 WC_9 g10 WCs_T_year dX5_become_52 (fun H locs hW => ?_)
        refine lv_iload hx hb dX5_become_53 (lv_at hl 0 rfl) ?_
        have h := Option.some.inj h
        subst h
        exact hret _ _ _ _ _ dX5_become_55 rfl rfl hW
      · have h := ifn c8 h
        refine lv_iconst (v := (-1)) hx hb dX5_become_40 (by decide) ?_
        have h := Option.some.inj h
        subst h
        exact hret _ _ _ _ _ dX5_become_41 rfl rfl hW
  have b27_3 : ∀ {x2 : Int32} {x3 : Int32} {T_price : Nat → Int32} {T_year : Nat → Int32} {T_cost : Nat → Int32} {H : Heap} {locs : List Loc} {ls : Array Slot}, f_X5_become_b27_3 x2 x3 T_price T_year T_cost = some res → zW D A s.heap (WC q ρ T_price T_year T_joinEnds T_wallEnds T_cost T_doors T_joins T_walls T_oldWells T_apart L_tape L_text L_fed L_length L_read L_end L_at L_fault L_d L_p L_y L_j L_o P_away P_beside P_reach P_serves P_crowds P_servedLow P_servedHigh P_crowdedLow P_crowdedHigh P_there P_must P_can C_what C_number C_before C_after C_done C_kept A_kinds A_traced A_bodies A_began A_self A_kindOfSelf S_holds S_body S_sort S_size S_elements G_grown) H locs → lv_has ls 6 [(2, .int x2), (3, .int x3)] → W p l e (zrm d) s m args below meth c H locs 0 0 Q (F0 m 27 ls [.ref (ρ 8)]) := by
    intro x2 x3 T_price T_year T_cost H locs ls h hW hl
    unfold f_X5_become_b27_3 at h
    refine lv_astore (lv' := [(4, .ref (ρ 8)), (2, .int x2), (3, .int x3)]) hx hb dX5_become_27 hl (by decide) rfl (fun ls hl => ?_)
    refine lv_iload_n hx hb dX5_become_29 rfl (lv_at hl 1 rfl) ?_
    refine lv_if_lt (tgt := 40) hx hb dX5_become_30 (by decide) (fun c11 => ?_) (fun c11 => ?_)
    · have h := ifp c11 h
      refine lv_iconst (v := (-1)) hx hb dX5_become_40 (by decide) ?_
      have h := Option.some.inj h
      subst h
      exact hret _ _ _ _ _ dX5_become_41 rfl rfl hW
    · have h := ifn c11 h
      refine lv_iload_n hx hb dX5_become_33 rfl (lv_at hl 1 rfl) ?_
      refine lv_aload hx hb dX5_become_34 (lv_at hl 0 rfl) ?_
      refine z_alen hC hW 8 0 WC_8 rfl (v := 14) rfl dX5_become_36 ?_
      refine lv_icmp_lt (tgt := 42) hx hb dX5_become_37 (by decide) (fun c12 => ?_) (fun c12 => ?_)
      · have h := ifp c12 h
        refine lv_aload hx hb dX5_become_42 (lv_at hl 0 rfl) ?_
        refine lv_iload_n hx hb dX5_become_44 rfl (lv_at hl 1 rfl) ?_
        obtain ⟨g13, h⟩ := ix_some h
        refine z_iald hC hW 8 WC_8 g13 dX5_become_45 ?_
        refine lv_istore (lv' := [(5, .int (T_price (Int32.toNatClampNeg x2))), (4, .ref (ρ 8)), (2, .int x2), (3, .int x3)]) hx hb dX5_become_46 hl (by decide) rfl (fun ls hl => ?_)
        refine lv_aload hx hb dX5_become_48 (lv_at hl 1 rfl) ?_
        refine lv_iload_n hx hb dX5_become_50 rfl (lv_at hl 2 rfl) ?_
        refine lv_iload_n hx hb dX5_become_51 rfl (lv_at hl 3 rfl) ?_
        obtain ⟨g14, h⟩ := ix_some h
        refine z_iast hC hW 8 WC_8 g14 WCs_T_price dX5_become_52 (fun H locs hW => ?_)
        refine lv_iload hx hb dX5_become_53 (lv_at hl 0 rfl) ?_
        have h := Option.some.inj h
        subst h
        exact hret _ _ _ _ _ dX5_become_55 rfl rfl hW
      · have h := ifn c12 h
        refine lv_iconst (v := (-1)) hx hb dX5_become_40 (by decide) ?_
        have h := Option.some.inj h
        subst h
        exact hret _ _ _ _ _ dX5_become_41 rfl rfl hW
  unfold f_X5_become at h
  refine lv_iload_n hx hb dX5_become_0 rfl (lv_at hl 1 rfl) ?_
  refine lv_if_ne (tgt := 11) hx hb dX5_become_1 (by decide) (fun c1 => ?_) (fun c1 => ?_)
  · have h := ifn c1 h
    refine lv_iload_n hx hb dX5_become_11 rfl (lv_at hl 1 rfl) ?_
    refine lv_iconst (v := 1) hx hb dX5_become_12 (by decide) ?_
    refine lv_icmp_ne (tgt := 23) hx hb dX5_become_13 (by decide) (fun c2 => ?_) (fun c2 => ?_)
    · have h := ifn c2 h
      refine lv_aload_n hx hb dX5_become_23 rfl (lv_at hl 0 rfl) ?_
      refine z_get hC hW fg_X5_24 1 WC_1 rfl dX5_become_24 ?_
      exact b27 h hW (lv_sub hl [2, 3] rfl)
    · have h := ifp c2 h
      refine lv_aload_n hx hb dX5_become_16 rfl (lv_at hl 0 rfl) ?_
      refine z_get hC hW fg_X5_15 1 WC_1 rfl dX5_become_17 ?_
      refine lv_goto (tgt := 27) hx hb dX5_become_20 (by decide) ?_
      exact b27_2 h hW (lv_sub hl [2, 3] rfl)
  · have h := ifp c1 h
    refine lv_aload_n hx hb dX5_become_4 rfl (lv_at hl 0 rfl) ?_
    refine z_get hC hW fg_X5_9 1 WC_1 rfl dX5_become_5 ?_
    refine lv_goto (tgt := 27) hx hb dX5_become_8 (by decide) ?_
    exact b27_3 h hW (lv_sub hl [2, 3] rfl)
set_option maxHeartbeats 4000000 in
set_option maxRecDepth 100000 in
theorem c_X1_forgetFirst {d : Nat} {res : (Nat → Int32) × (Nat → Int32) × (Nat → Int32) × (Nat → Int32) × Int32} (hd : 1 ≤ d) (h : f_X1_forgetFirst C_what C_number C_before C_after C_done = some res) : zMv l yX1_forgetFirst cX1_forgetFirst 1 (zrm d) [.ref (ρ 4)] D q (WC q ρ T_price T_year T_joinEnds T_wallEnds T_cost T_doors T_joins T_walls T_oldWells T_apart L_tape L_text L_fed L_length L_read L_end L_at L_fault L_d L_p L_y L_j L_o P_away P_beside P_reach P_serves P_crowds P_servedLow P_servedHigh P_crowdedLow P_crowdedHigh P_there P_must P_can C_what C_number C_before C_after C_done C_kept A_kinds A_traced A_bodies A_began A_self A_kindOfSelf S_holds S_body S_sort S_size S_elements G_grown) sz (WC q ρ T_price T_year T_joinEnds T_wallEnds T_cost T_doors T_joins T_walls T_oldWells T_apart L_tape L_text L_fed L_length L_read L_end L_at L_fault L_d L_p L_y L_j L_o P_away P_beside P_reach P_serves P_crowds P_servedLow P_servedHigh P_crowdedLow P_crowdedHigh P_there P_must P_can res.1 res.2.1 res.2.2.1 res.2.2.2.1 res.2.2.2.2 C_kept A_kinds A_traced A_bodies A_began A_self A_kindOfSelf S_holds S_body S_sort S_size S_elements G_grown) := by
  refine zMet_v (own := RX1) (by decide) rfl (Nat.le_of_ble_eq_true rfl) ?_
  intro p e s m args below meth c A ls Q hC hW hl hret
  have hx := hC.1
  have hb := hC.2.1
  have hl : lv_has ls 1 [(0, .ref (ρ 4))] := hl
  unfold f_X1_forgetFirst at h
  refine lv_aload_n hx hb dX1_forgetFirst_0 rfl (lv_at hl 0 rfl) ?_
  refine z_get hC hW fg_X1_9 4 WC_4 rfl dX1_forgetFirst_1 ?_
  refine lv_iconst (v := 1) hx hb dX1_forgetFirst_4 (by decide) ?_
  refine lv_aload_n hx hb dX1_forgetFirst_5 rfl (lv_at hl 0 rfl) ?_
  refine z_get hC hW fg_X1_9 4 WC_4 rfl dX1_forgetFirst_6 ?_
  refine lv_iconst (v := 0) hx hb dX1_forgetFirst_9 (by decide) ?_
  refine lv_bipush (v := 39) hx hb dX1_forgetFirst_10 (by decide) ?_
  obtain ⟨⟨g1, g1f⟩, h⟩ := cpg_some h
  refine z_copyi hC hW 0 ac_X1_34 24 24 WC_24 WC_24 rfl rfl g1 (fun _ _ => rfl) hl.1 (zrm_f (by omega)) (zrm_lo (by omega) (by decide)) WCs_C_what dX1_forgetFirst_12 (fun H locs hW => ?_)
  refine lv_aload_n hx hb dX1_forgetFirst_15 rfl (lv_at hl 0 rfl) ?_
  refine z_get hC hW fg_X1_15 4 WC_4 rfl dX1_forgetFirst_16 ?_
  refine lv_iconst (v := 1) hx hb dX1_forgetFirst_19 (by decide) ?_
  refine lv_aload_n hx hb dX1_forgetFirst_20 rfl (lv_at hl 0 rfl) ?_
  refine z_get hC hW fg_X1_15 4 WC_4 rfl dX1_forgetFirst_21 ?_
  refine lv_iconst (v := 0) hx hb dX1_forgetFirst_24 (by decide) ?_
  refine lv_bipush (v := 39) hx hb dX1_forgetFirst_25 (by decide) ?_
  obtain ⟨⟨g2, g2f⟩, h⟩ := cpg_some h
  refine z_copyi hC hW 0 ac_X1_34 25 25 WC_25 WC_25 rfl rfl g2 (fun _ _ => rfl) hl.1 (zrm_f (by omega)) (zrm_lo (by omega) (by decide)) WCs_C_number dX1_forgetFirst_27 (fun H locs hW => ?_)
  refine lv_aload_n hx hb dX1_forgetFirst_30 rfl (lv_at hl 0 rfl) ?_
  refine z_get hC hW fg_X1_18 4 WC_4 rfl dX1_forgetFirst_31 ?_
  refine lv_iconst (v := 1) hx hb dX1_forgetFirst_34 (by decide) ?_
  refine lv_aload_n hx hb dX1_forgetFirst_35 rfl (lv_at hl 0 rfl) ?_
  refine z_get hC hW fg_X1_18 4 WC_4 rfl dX1_forgetFirst_36 ?_
  refine lv_iconst (v := 0) hx hb dX1_forgetFirst_39 (by decide) ?_
  refine lv_bipush (v := 39) hx hb dX1_forgetFirst_40 (by decide) ?_
  obtain ⟨⟨g3, g3f⟩, h⟩ := cpg_some h
  refine z_copyi hC hW 0 ac_X1_34 26 26 WC_26 WC_26 rfl rfl g3 (fun _ _ => rfl) hl.1 (zrm_f (by omega)) (zrm_lo (by omega) (by decide)) WCs_C_before dX1_forgetFirst_42 (fun H locs hW => ?_)
  refine lv_aload_n hx hb dX1_forgetFirst_45 rfl (lv_at hl 0 rfl) ?_
  refine z_get hC hW fg_X1_21 4 WC_4 rfl dX1_forgetFirst_46 ?_
  refine lv_iconst (v := 1) hx hb dX1_forgetFirst_49 (by decide) ?_
  refine lv_aload_n hx hb dX1_forgetFirst_50 rfl (lv_at hl 0 rfl) ?_
  refine z_get hC hW fg_X1_21 4 WC_4 rfl dX1_forgetFirst_51 ?_
  refine lv_iconst (v := 0) hx hb dX1_forgetFirst_54 (by decide) ?_
  refine lv_bipush (v := 39) hx hb dX1_forgetFirst_55 (by decide) ?_
  obtain ⟨⟨g4, g4f⟩, h⟩ := cpg_some h
  refine z_copyi hC hW 0 ac_X1_34 27 27 WC_27 WC_27 rfl rfl g4 (fun _ _ => rfl) hl.1 (zrm_f (by omega)) (zrm_lo (by omega) (by decide)) WCs_C_after dX1_forgetFirst_57 (fun H locs hW => ?_)
  refine lv_aload_n hx hb dX1_forgetFirst_60 rfl (lv_at hl 0 rfl) ?_
  refine lv_bipush (v := 39) hx hb dX1_forgetFirst_61 (by decide) ?_
  refine z_put hC hW fp_X1_24 4 WC_4 (Nat.le_of_ble_eq_true rfl) rfl rfl WCs_C_done dX1_forgetFirst_63 (fun H locs hW => ?_)
  have h := Option.some.inj h
  subst h
  exact hret _ _ _ _ dX1_forgetFirst_66 hW
set_option maxHeartbeats 4000000 in
set_option maxRecDepth 100000 in
theorem c_X1_note {a1 : Int32} {a2 : Int32} {a3 : Int32} {a4 : Int32} {d : Nat} {res : (Nat → Int32) × (Nat → Int32) × (Nat → Int32) × (Nat → Int32) × Int32 × Int32} (hd : 2 ≤ d) (h : f_X1_note a1 a2 a3 a4 C_what C_number C_before C_after C_done C_kept = some res) : zMv l yX1_note cX1_note 5 (zrm d) [.ref (ρ 4), .int a1, .int a2, .int a3, .int a4] D q (WC q ρ T_price T_year T_joinEnds T_wallEnds T_cost T_doors T_joins T_walls T_oldWells T_apart L_tape L_text L_fed L_length L_read L_end L_at L_fault L_d L_p L_y L_j L_o P_away P_beside P_reach P_serves P_crowds P_servedLow P_servedHigh P_crowdedLow P_crowdedHigh P_there P_must P_can C_what C_number C_before C_after C_done C_kept A_kinds A_traced A_bodies A_began A_self A_kindOfSelf S_holds S_body S_sort S_size S_elements G_grown) sz (WC q ρ T_price T_year T_joinEnds T_wallEnds T_cost T_doors T_joins T_walls T_oldWells T_apart L_tape L_text L_fed L_length L_read L_end L_at L_fault L_d L_p L_y L_j L_o P_away P_beside P_reach P_serves P_crowds P_servedLow P_servedHigh P_crowdedLow P_crowdedHigh P_there P_must P_can res.1 res.2.1 res.2.2.1 res.2.2.2.1 res.2.2.2.2.1 res.2.2.2.2.2 A_kinds A_traced A_bodies A_began A_self A_kindOfSelf S_holds S_body S_sort S_size S_elements G_grown) := by
  refine zMet_v (own := RX1) (by decide) rfl (Nat.le_of_ble_eq_true rfl) ?_
  intro p e s m args below meth c A ls Q hC hW hl hret
  have hx := hC.1
  have hb := hC.2.1
  have hl : lv_has ls 5 [(0, .ref (ρ 4)), (1, .int a1), (2, .int a2), (3, .int a3), (4, .int a4)] := hl
  have b13 : ∀ {x1 : Int32} {x2 : Int32} {x3 : Int32} {x4 : Int32} {C_what : Nat → Int32} {C_number : Nat → Int32} {C_before : Nat → Int32} {C_after : Nat → Int32} {C_done : Int32} {C_kept : Int32} {H : Heap} {locs : List Loc} {ls : Array Slot}, f_X1_note_b13 x1 x2 x3 x4 C_what C_number C_before C_after C_done C_kept = some res → zW D A s.heap (WC q ρ T_price T_year T_joinEnds T_wallEnds T_cost T_doors T_joins T_walls T_oldWells T_apart L_tape L_text L_fed L_length L_read L_end L_at L_fault L_d L_p L_y L_j L_o P_away P_beside P_reach P_serves P_crowds P_servedLow P_servedHigh P_crowdedLow P_crowdedHigh P_there P_must P_can C_what C_number C_before C_after C_done C_kept A_kinds A_traced A_bodies A_began A_self A_kindOfSelf S_holds S_body S_sort S_size S_elements G_grown) H locs → lv_has ls 5 [(0, .ref (ρ 4)), (1, .int x1), (2, .int x2), (3, .int x3), (4, .int x4)] → W p l e (zrm d) s m args below meth c H locs 0 0 Q (F0 m 13 ls []) := by
    intro x1 x2 x3 x4 C_what C_number C_before C_after C_done C_kept H locs ls h hW hl
    unfold f_X1_note_b13 at h
    refine lv_aload_n hx hb dX1_note_13 rfl (lv_at hl 0 rfl) ?_
    refine z_get hC hW fg_X1_9 4 WC_4 rfl dX1_note_14 ?_
    refine lv_aload_n hx hb dX1_note_17 rfl (lv_at hl 0 rfl) ?_
    refine z_get hC hW fg_X1_24 4 WC_4 rfl dX1_note_18 ?_
    refine lv_iload_n hx hb dX1_note_21 rfl (lv_at hl 1 rfl) ?_
    obtain ⟨g2, h⟩ := ix_some h
    refine z_iast hC hW 24 WC_24 g2 WCs_C_what dX1_note_22 (fun H locs hW => ?_)
    refine lv_aload_n hx hb dX1_note_23 rfl (lv_at hl 0 rfl) ?_
    refine z_get hC hW fg_X1_15 4 WC_4 rfl dX1_note_24 ?_
    refine lv_aload_n hx hb dX1_note_27 rfl (lv_at hl 0 rfl) ?_
    refine z_get hC hW fg_X1_24 4 WC_4 rfl dX1_note_28 ?_
    refine lv_iload_n hx hb dX1_note_31 rfl (lv_at hl 2 rfl) ?_
    obtain ⟨g3, h⟩ := ix_some h
    refine z_iast hC hW 25 WC_25 g3 WCs_C_number dX1_note_32 (fun H locs hW => ?_)
    refine lv_aload_n hx hb dX1_note_33 rfl (lv_at hl 0 rfl) ?_
    refine z_get hC hW fg_X1_18 4 WC_4 rfl dX1_note_34 ?_
    refine lv_aload_n hx hb dX1_note_37 rfl (lv_at hl 0 rfl) ?_
    refine z_get hC hW fg_X1_24 4 WC_4 rfl dX1_note_38 ?_
    refine lv_iload_n hx hb dX1_note_41 rfl (lv_at hl 3 rfl) ?_
    obtain ⟨g4, h⟩ := ix_some h
    refine z_iast hC hW 26 WC_26 g4 WCs_C_before dX1_note_42 (fun H locs hW => ?_)
    refine lv_aload_n hx hb dX1_note_43 rfl (lv_at hl 0 rfl) ?_
    refine z_get hC hW fg_X1_21 4 WC_4 rfl dX1_note_44 ?_
    refine lv_aload_n hx hb dX1_note_47 rfl (lv_at hl 0 rfl) ?_
    refine z_get hC hW fg_X1_24 4 WC_4 rfl dX1_note_48 ?_
    refine lv_iload hx hb dX1_note_51 (lv_at hl 4 rfl) ?_
    obtain ⟨g5, h⟩ := ix_some h
    refine z_iast hC hW 27 WC_27 g5 WCs_C_after dX1_note_53 (fun H locs hW => ?_)
    refine lv_aload_n hx hb dX1_note_54 rfl (lv_at hl 0 rfl) ?_
    refine lv_dup hx hb dX1_note_55 rfl ?_
    refine z_get hC hW fg_X1_24 4 WC_4 rfl dX1_note_56 ?_
    refine lv_iconst (v := 1) hx hb dX1_note_59 (by decide) ?_
    refine lv_iadd hx hb dX1_note_60 ?_
    refine z_put hC hW fp_X1_24 4 WC_4 (Nat.le_of_ble_eq_true rfl) rfl rfl WCs_C_done dX1_note_61 (fun H locs hW => ?_)
    refine lv_aload_n hx hb dX1_note_64 rfl (lv_at hl 0 rfl) ?_
    refine lv_aload_n hx hb dX1_note_65 rfl (lv_at hl 0 rfl) ?_
    refine z_get hC hW fg_X1_24 4 WC_4 rfl dX1_note_66 ?_
    refine z_put hC hW fp_X1_31 4 WC_4 (Nat.le_of_ble_eq_true rfl) rfl rfl WCs_C_kept dX1_note_69 (fun H locs hW => ?_)
    have h := Option.some.inj h
    subst h
    exact hret _ _ _ _ dX1_note_72 hW
  unfold f_X1_note at h
  refine lv_aload_n hx hb dX1_note_0 rfl (lv_at hl 0 rfl) ?_
  refine z_get hC hW fg_X1_24 4 WC_4 rfl dX1_note_1 ?_
  refine lv_bipush (v := 40) hx hb dX1_note_4 (by decide) ?_
  refine lv_icmp_lt (tgt := 13) hx hb dX1_note_6 (by decide) (fun c1 => ?_) (fun c1 => ?_)
  · have h := ifp c1 h
    exact b13 h hW (lv_sub hl [0, 1, 2, 3, 4] rfl)
  · have h := ifn c1 h
    refine lv_aload_n hx hb dX1_note_9 rfl (lv_at hl 0 rfl) ?_
    obtain ⟨u6, eu6, h⟩ := bd_some h
    refine z_callV_v hC hW (rest := []) (c_X1_forgetFirst (d := 1) (Nat.le_refl _) eu6) vw_X1_28 WC_4 rfl ⟨rfl, rfl⟩ (zrm_ok (by omega) (by decide)) rfl rfl hl.1 (Nat.le_of_ble_eq_true rfl) dX1_note_10 (fun H locs hW => ?_)
    exact b13 h hW (lv_sub hl [0, 1, 2, 3, 4] rfl)
set_option maxHeartbeats 4000000 in
set_option maxRecDepth 100000 in
theorem c_X6_mend {a1 : Int32} {a2 : Int32} {a3 : Int32} {d : Nat} {res : Int32 × (Nat → Int32) × (Nat → Int32) × (Nat → Int32) × (Nat → Int32) × (Nat → Int32) × (Nat → Int32) × (Nat → Int32) × Int32 × Int32} (hd : 3 ≤ d) (h : f_X6_mend a1 a2 a3 T_price T_year T_cost T_doors T_walls C_what C_number C_before C_after C_done C_kept = some res) : zMi l yX6_mend cX6_mend 5 .int (zrm d) [.ref (ρ 0), .int a1, .int a2, .int a3] D q (WC q ρ T_price T_year T_joinEnds T_wallEnds T_cost T_doors T_joins T_walls T_oldWells T_apart L_tape L_text L_fed L_length L_read L_end L_at L_fault L_d L_p L_y L_j L_o P_away P_beside P_reach P_serves P_crowds P_servedLow P_servedHigh P_crowdedLow P_crowdedHigh P_there P_must P_can C_what C_number C_before C_after C_done C_kept A_kinds A_traced A_bodies A_began A_self A_kindOfSelf S_holds S_body S_sort S_size S_elements G_grown) sz res.1 (WC q ρ res.2.1 res.2.2.1 T_joinEnds T_wallEnds res.2.2.2.1 T_doors T_joins T_walls T_oldWells T_apart L_tape L_text L_fed L_length L_read L_end L_at L_fault L_d L_p L_y L_j L_o P_away P_beside P_reach P_serves P_crowds P_servedLow P_servedHigh P_crowdedLow P_crowdedHigh P_there P_must P_can res.2.2.2.2.1 res.2.2.2.2.2.1 res.2.2.2.2.2.2.1 res.2.2.2.2.2.2.2.1 res.2.2.2.2.2.2.2.2.1 res.2.2.2.2.2.2.2.2.2 A_kinds A_traced A_bodies A_began A_self A_kindOfSelf S_holds S_body S_sort S_size S_elements G_grown) := by
  refine zMet_i (own := RX6) _ (by decide) rfl (Nat.le_of_ble_eq_true rfl) ?_
  intro p e s m args below meth c A ls Q hC hW hl hret
  have hx := hC.1
  have hb := hC.2.1
  have hl : lv_has ls 5 [(0, .ref (ρ 0)), (1, .int a1), (2, .int a2), (3, .int a3)] := hl
  unfold f_X6_mend at h
  refine lv_aload_n hx hb dX6_mend_0 rfl (lv_at hl 0 rfl) ?_
  refine z_get hC hW fg_X6_10 0 WC_0 rfl dX6_mend_1 ?_
  refine lv_iload_n hx hb dX6_mend_4 rfl (lv_at hl 2 rfl) ?_
  refine lv_iload_n hx hb dX6_mend_5 rfl (lv_at hl 1 rfl) ?_
  refine lv_iload_n hx hb dX6_mend_6 rfl (lv_at hl 3 rfl) ?_
  obtain ⟨u1, eu1, h⟩ := bd_some h
  refine z_callV_i hC hW (rest := []) (c_X5_canBecome (d := 1) (Nat.le_refl _) eu1) vw_X6_106 WC_1 rfl ⟨rfl, rfl⟩ (zrm_ok (by omega) (by decide)) rfl rfl hl.1 (Nat.le_of_ble_eq_true rfl) dX6_mend_7 (fun H locs hW => ?_)
  refine lv_if_ne (tgt := 15) hx hb dX6_mend_10 (by decide) (fun c2 => ?_) (fun c2 => ?_)
  · have h := ifn c2 h
    refine lv_aload_n hx hb dX6_mend_15 rfl (lv_at hl 0 rfl) ?_
    refine z_get hC hW fg_X6_10 0 WC_0 rfl dX6_mend_16 ?_
    refine lv_iload_n hx hb dX6_mend_19 rfl (lv_at hl 2 rfl) ?_
    refine lv_iload_n hx hb dX6_mend_20 rfl (lv_at hl 1 rfl) ?_
    refine lv_iload_n hx hb dX6_mend_21 rfl (lv_at hl 3 rfl) ?_
    obtain ⟨u3, eu3, h⟩ := bd_some h
    refine z_callV_i hC hW (rest := []) (c_X5_become (d := 0) (Nat.le_refl _) eu3) vw_X6_110 WC_1 rfl ⟨rfl, rfl⟩ (zrm_ok (by omega) (by decide)) rfl rfl hl.1 (Nat.le_of_ble_eq_true rfl) dX6_mend_22 (fun H locs hW => ?_)
    refine lv_istore (lv' := [(4, .int u3.1), (0, .ref (ρ 0)), (1, .int a1), (2, .int a2), (3, .int a3)]) hx hb dX6_mend_25 hl (by decide) rfl (fun ls hl => ?_)
    refine lv_iload hx hb dX6_mend_27 (lv_at hl 0 rfl) ?_
    refine lv_iload_n hx hb dX6_mend_29 rfl (lv_at hl 4 rfl) ?_
    refine lv_icmp_eq (tgt := 45) hx hb dX6_mend_30 (by decide) (fun c4 => ?_) (fun c4 => ?_)
    · have h := ifp c4 h
      refine lv_iload hx hb dX6_mend_45 (lv_at hl 0 rfl) ?_
      have h := Option.some.inj h
      subst h
      exact hret _ _ _ _ _ dX6_mend_47 rfl rfl hW
    · have h := ifn c4 h
      refine lv_aload_n hx hb dX6_mend_33 rfl (lv_at hl 1 rfl) ?_
      refine z_get hC hW fg_X6_33 0 WC_0 rfl dX6_mend_34 ?_
      refine lv_iload_n hx hb dX6_mend_37 rfl (lv_at hl 3 rfl) ?_
      refine lv_iload_n hx hb dX6_mend_38 rfl (lv_at hl 2 rfl) ?_
      refine lv_iload hx hb dX6_mend_39 (lv_at hl 0 rfl) ?_
      refine lv_iload_n hx hb dX6_mend_41 rfl (lv_at hl 4 rfl) ?_
      obtain ⟨u5, eu5, h⟩ := bd_some h
      refine z_callV_v hC hW (rest := []) (c_X1_note (d := 2) (Nat.le_refl _) eu5) vw_X6_114 WC_4 rfl ⟨rfl, rfl⟩ (zrm_ok (by omega) (by decide)) rfl rfl hl.1 (Nat.le_of_ble_eq_true rfl) dX6_mend_42 (fun H locs hW => ?_)
      refine lv_iload hx hb dX6_mend_45 (lv_at hl 0 rfl) ?_
      have h := Option.some.inj h
      subst h
      exact hret _ _ _ _ _ dX6_mend_47 rfl rfl hW
  · have h := ifp c2 h
    refine lv_iconst (v := (-1)) hx hb dX6_mend_13 (by decide) ?_
    have h := Option.some.inj h
    subst h
    exact hret _ _ _ _ _ dX6_mend_14 rfl rfl hW
set_option maxHeartbeats 4000000 in
set_option maxRecDepth 100000 in
theorem c_X5_isEnd {a0 : Int32} {a1 : Int32} {d : Nat} {res : Int32} (hd : 0 ≤ d) (h : f_X5_isEnd a0 a1 = some res) : zMi l yX5_isEnd cX5_isEnd 2 .boolean (zrm d) [.int a0, .int a1] D q (WC q ρ T_price T_year T_joinEnds T_wallEnds T_cost T_doors T_joins T_walls T_oldWells T_apart L_tape L_text L_fed L_length L_read L_end L_at L_fault L_d L_p L_y L_j L_o P_away P_beside P_reach P_serves P_crowds P_servedLow P_servedHigh P_crowdedLow P_crowdedHigh P_there P_must P_can C_what C_number C_before C_after C_done C_kept A_kinds A_traced A_bodies A_began A_self A_kindOfSelf S_holds S_body S_sort S_size S_elements G_grown) sz res (WC q ρ T_price T_year T_joinEnds T_wallEnds T_cost T_doors T_joins T_walls T_oldWells T_apart L_tape L_text L_fed L_length L_read L_end L_at L_fault L_d L_p L_y L_j L_o P_away P_beside P_reach P_serves P_crowds P_servedLow P_servedHigh P_crowdedLow P_crowdedHigh P_there P_must P_can C_what C_number C_before C_after C_done C_kept A_kinds A_traced A_bodies A_began A_self A_kindOfSelf S_holds S_body S_sort S_size S_elements G_grown) := by
  refine zMet_i (own := RX5) _ (by decide) rfl (Nat.le_of_ble_eq_true rfl) ?_
  intro p e s m args below meth c A ls Q hC hW hl hret
  have hx := hC.1
  have hb := hC.2.1
  have hl : lv_has ls 2 [(0, .int a0), (1, .int a1)] := hl
  unfold f_X5_isEnd at h
  refine lv_iload_n hx hb dX5_isEnd_0 rfl (lv_at hl 0 rfl) ?_
  refine lv_bipush (v := 100) hx hb dX5_isEnd_1 (by decide) ?_
  refine lv_idiv hx hb dX5_isEnd_3 (by decide) ?_
  refine lv_iload_n hx hb dX5_isEnd_4 rfl (lv_at hl 1 rfl) ?_
  refine lv_icmp_eq (tgt := 16) hx hb dX5_isEnd_5 (by decide) (fun c1 => ?_) (fun c1 => ?_)
  · have h := ifp c1 h
    refine lv_iconst (v := 1) hx hb dX5_isEnd_16 (by decide) ?_
    refine lv_goto (tgt := 21) hx hb dX5_isEnd_17 (by decide) ?_
    have h := Option.some.inj h
    subst h
    exact hret _ _ _ _ _ dX5_isEnd_21 rfl rfl hW
  · have h := ifn c1 h
    refine lv_iload_n hx hb dX5_isEnd_8 rfl (lv_at hl 0 rfl) ?_
    refine lv_bipush (v := 100) hx hb dX5_isEnd_9 (by decide) ?_
    refine lv_irem hx hb dX5_isEnd_11 (by decide) ?_
    refine lv_iload_n hx hb dX5_isEnd_12 rfl (lv_at hl 1 rfl) ?_
    refine lv_icmp_ne (tgt := 20) hx hb dX5_isEnd_13 (by decide) (fun c2 => ?_) (fun c2 => ?_)
    · have h := ifn c2 h
      refine lv_iconst (v := 0) hx hb dX5_isEnd_20 (by decide) ?_
      have h := Option.some.inj h
      subst h
      exact hret _ _ _ _ _ dX5_isEnd_21 rfl rfl hW
    · have h := ifp c2 h
      refine lv_iconst (v := 1) hx hb dX5_isEnd_16 (by decide) ?_
      refine lv_goto (tgt := 21) hx hb dX5_isEnd_17 (by decide) ?_
      have h := Option.some.inj h
      subst h
      exact hret _ _ _ _ _ dX5_isEnd_21 rfl rfl hW
set_option maxHeartbeats 4000000 in
set_option maxRecDepth 100000 in
theorem c_X5_joinsAt {a1 : Int32} {a2 : Int32} {d : Nat} {res : Int32} (hd : 1 ≤ d) (h : f_X5_joinsAt a1 a2 T_joinEnds T_wallEnds T_joins T_walls = some res) : zMi l yX5_joinsAt cX5_joinsAt 5 .int (zrm d) [.ref (ρ 1), .int a1, .int a2] D q (WC q ρ T_price T_year T_joinEnds T_wallEnds T_cost T_doors T_joins T_walls T_oldWells T_apart L_tape L_text L_fed L_length L_read L_end L_at L_fault L_d L_p L_y L_j L_o P_away P_beside P_reach P_serves P_crowds P_servedLow P_servedHigh P_crowdedLow P_crowdedHigh P_there P_must P_can C_what C_number C_before C_after C_done C_kept A_kinds A_traced A_bodies A_began A_self A_kindOfSelf S_holds S_body S_sort S_size S_elements G_grown) sz res (WC q ρ T_price T_year T_joinEnds T_wallEnds T_cost T_doors T_joins T_walls T_oldWells T_apart L_tape L_text L_fed L_length L_read L_end L_at L_fault L_d L_p L_y L_j L_o P_away P_beside P_reach P_serves P_crowds P_servedLow P_servedHigh P_crowdedLow P_crowdedHigh P_there P_must P_can C_what C_number C_before C_after C_done C_kept A_kinds A_traced A_bodies A_began A_self A_kindOfSelf S_holds S_body S_sort S_size S_elements G_grown) := by
  refine zMet_i (own := RX5) _ (by decide) rfl (Nat.le_of_ble_eq_true rfl) ?_
  intro p e s m args below meth c A ls Q hC hW hl hret
  have hx := hC.1
  have hb := hC.2.1
  have hl : lv_has ls 5 [(0, .ref (ρ 1)), (1, .int a1), (2, .int a2)] := hl
  have b59 : ∀ {x1 : Int32} {x4 : Int32} {s0 : Int32} {s1 : Int32} {k30 : Int32 → Int32 → Option (Int32)} (hk30 : ∀ {x3 : Int32} {x4 : Int32} {H : Heap} {locs : List Loc} {ls : Array Slot}, k30 x3 x4 = some res → zW D A s.heap (WC q ρ T_price T_year T_joinEnds T_wallEnds T_cost T_doors T_joins T_walls T_oldWells T_apart L_tape L_text L_fed L_length L_read L_end L_at L_fault L_d L_p L_y L_j L_o P_away P_beside P_reach P_serves P_crowds P_servedLow P_servedHigh P_crowdedLow P_crowdedHigh P_there P_must P_can C_what C_number C_before C_after C_done C_kept A_kinds A_traced A_bodies A_began A_self A_kindOfSelf S_holds S_body S_sort S_size S_elements G_grown) H locs → lv_has ls 5 [(0, .ref (ρ 1)), (1, .int x1), (3, .int x3), (4, .int x4)] → W p l e (zrm d) s m args below meth c H locs 0 0 Q (F0 m 30 ls [])) {H : Heap} {locs : List Loc} {ls : Array Slot}, f_X5_joinsAt_b59 k30 x1 x4 s0 s1 T_joinEnds T_joins = some res → zW D A s.heap (WC q ρ T_price T_year T_joinEnds T_wallEnds T_cost T_doors T_joins T_walls T_oldWells T_apart L_tape L_text L_fed L_length L_read L_end L_at L_fault L_d L_p L_y L_j L_o P_away P_beside P_reach P_serves P_crowds P_servedLow P_servedHigh P_crowdedLow P_crowdedHigh P_there P_must P_can C_what C_number C_before C_after C_done C_kept A_kinds A_traced A_bodies A_began A_self A_kindOfSelf S_holds S_body S_sort S_size S_elements G_grown) H locs → lv_has ls 5 [(0, .ref (ρ 1)), (1, .int x1), (4, .int x4)] → W p l e (zrm d) s m args below meth c H locs 0 0 Q (F0 m 59 ls [.int s0, .int s1]) := by
    intro x1 x4 s0 s1 k30 hk30 H locs ls h hW hl
    unfold f_X5_joinsAt_b59 at h
    refine lv_iadd hx hb dX5_joinsAt_59 ?_
    refine lv_istore_n (lv' := [(3, .int (s1 + s0)), (0, .ref (ρ 1)), (1, .int x1), (4, .int x4)]) hx hb dX5_joinsAt_60 rfl hl (by decide) rfl (fun ls hl => ?_)
    refine lv_iinc (v := (x4 + 1)) (lv' := [(4, .int (x4 + 1)), (3, .int (s1 + s0)), (0, .ref (ρ 1)), (1, .int x1)]) hx hb dX5_joinsAt_61 hl (k := 3) rfl rfl (by decide) rfl (fun ls hl => ?_)
    refine lv_goto (tgt := 30) hx hb dX5_joinsAt_64 (by decide) ?_
    exact hk30 h hW (lv_sub hl [2, 3, 1, 0] rfl)
  have b30 : ∀ {x1 : Int32} {n : Nat} {x3 : Int32} {x4 : Int32} {H : Heap} {locs : List Loc} {ls : Array Slot}, f_X5_joinsAt_b30 x1 T_joinEnds T_joins n x3 x4 = some res → zW D A s.heap (WC q ρ T_price T_year T_joinEnds T_wallEnds T_cost T_doors T_joins T_walls T_oldWells T_apart L_tape L_text L_fed L_length L_read L_end L_at L_fault L_d L_p L_y L_j L_o P_away P_beside P_reach P_serves P_crowds P_servedLow P_servedHigh P_crowdedLow P_crowdedHigh P_there P_must P_can C_what C_number C_before C_after C_done C_kept A_kinds A_traced A_bodies A_began A_self A_kindOfSelf S_holds S_body S_sort S_size S_elements G_grown) H locs → lv_has ls 5 [(0, .ref (ρ 1)), (1, .int x1), (3, .int x3), (4, .int x4)] → W p l e (zrm d) s m args below meth c H locs 0 0 Q (F0 m 30 ls []) := by
    intro x1
    intro n
    induction n with
    | zero =>
      intro x3 x4 H locs ls h
      rw [f_X5_joinsAt_b30] at h
      cases h
    | succ n ih =>
      intro x3 x4 H locs ls h hW hl
      rw [f_X5_joinsAt_b30] at h
      refine lv_iload hx hb dX5_joinsAt_30 (lv_at hl 3 rfl) ?_
      refine lv_aload_n hx hb dX5_joinsAt_32 rfl (lv_at hl 0 rfl) ?_
      refine z_get hC hW fg_X5_34 1 WC_1 rfl dX5_joinsAt_33 ?_
      refine lv_icmp_ge (tgt := 67) hx hb dX5_joinsAt_36 (by decide) (fun c3 => ?_) (fun c3 => ?_)
      · have h := ifp c3 h
        refine lv_iload_n hx hb dX5_joinsAt_67 rfl (lv_at hl 2 rfl) ?_
        have h := Option.some.inj h
        subst h
        exact hret _ _ _ _ _ dX5_joinsAt_68 rfl rfl hW
      · have h := ifn c3 h
        refine lv_iload_n hx hb dX5_joinsAt_39 rfl (lv_at hl 2 rfl) ?_
        refine lv_aload_n hx hb dX5_joinsAt_40 rfl (lv_at hl 0 rfl) ?_
        refine z_get hC hW fg_X5_18 1 WC_1 rfl dX5_joinsAt_41 ?_
        refine lv_iload hx hb dX5_joinsAt_44 (lv_at hl 3 rfl) ?_
        obtain ⟨g4, h⟩ := ix_some h
        refine z_iald hC hW 10 WC_10 g4 dX5_joinsAt_46 ?_
        refine lv_iload_n hx hb dX5_joinsAt_47 rfl (lv_at hl 1 rfl) ?_
        obtain ⟨u5, eu5, h⟩ := bd_some h
        refine z_callS_i hC hW (rest := [.int x3]) (c_X5_isEnd (d := 0) (Nat.le_refl _) eu5) sw_X5_51 ⟨rfl, rfl⟩ (zrm_ok (by omega) (by decide)) rfl rfl hl.1 (Nat.le_of_ble_eq_true rfl) dX5_joinsAt_48 (fun H locs hW => ?_)
        refine lv_if_eq (tgt := 58) hx hb dX5_joinsAt_51 (by decide) (fun c6 => ?_) (fun c6 => ?_)
        · have h := ifp c6 h
          refine lv_iconst (v := 0) hx hb dX5_joinsAt_58 (by decide) ?_
          exact b59 ih h hW (lv_sub hl [0, 1, 3] rfl)
        · have h := ifn c6 h
          refine lv_iconst (v := 1) hx hb dX5_joinsAt_54 (by decide) ?_
          refine lv_goto (tgt := 59) hx hb dX5_joinsAt_55 (by decide) ?_
          exact b59 ih h hW (lv_sub hl [0, 1, 3] rfl)
  have b26 : ∀ {x1 : Int32} {s0 : Int32} {H : Heap} {locs : List Loc} {ls : Array Slot}, f_X5_joinsAt_b26 x1 s0 T_joinEnds T_joins = some res → zW D A s.heap (WC q ρ T_price T_year T_joinEnds T_wallEnds T_cost T_doors T_joins T_walls T_oldWells T_apart L_tape L_text L_fed L_length L_read L_end L_at L_fault L_d L_p L_y L_j L_o P_away P_beside P_reach P_serves P_crowds P_servedLow P_servedHigh P_crowdedLow P_crowdedHigh P_there P_must P_can C_what C_number C_before C_after C_done C_kept A_kinds A_traced A_bodies A_began A_self A_kindOfSelf S_holds S_body S_sort S_size S_elements G_grown) H locs → lv_has ls 5 [(0, .ref (ρ 1)), (1, .int x1)] → W p l e (zrm d) s m args below meth c H locs 0 0 Q (F0 m 26 ls [.int s0]) := by
    intro x1 s0 H locs ls h hW hl
    unfold f_X5_joinsAt_b26 at h
    refine lv_istore_n (lv' := [(3, .int s0), (0, .ref (ρ 1)), (1, .int x1)]) hx hb dX5_joinsAt_26 rfl hl (by decide) rfl (fun ls hl => ?_)
    refine lv_iconst (v := 0) hx hb dX5_joinsAt_27 (by decide) ?_
    refine lv_istore (lv' := [(4, .int 0), (3, .int s0), (0, .ref (ρ 1)), (1, .int x1)]) hx hb dX5_joinsAt_28 hl (by decide) rfl (fun ls hl => ?_)
    exact b30 h hW (lv_sub hl [2, 3, 1, 0] rfl)
  have b25 : ∀ {x1 : Int32} {H : Heap} {locs : List Loc} {ls : Array Slot}, f_X5_joinsAt_b25 x1 T_joinEnds T_joins = some res → zW D A s.heap (WC q ρ T_price T_year T_joinEnds T_wallEnds T_cost T_doors T_joins T_walls T_oldWells T_apart L_tape L_text L_fed L_length L_read L_end L_at L_fault L_d L_p L_y L_j L_o P_away P_beside P_reach P_serves P_crowds P_servedLow P_servedHigh P_crowdedLow P_crowdedHigh P_there P_must P_can C_what C_number C_before C_after C_done C_kept A_kinds A_traced A_bodies A_began A_self A_kindOfSelf S_holds S_body S_sort S_size S_elements G_grown) H locs → lv_has ls 5 [(0, .ref (ρ 1)), (1, .int x1)] → W p l e (zrm d) s m args below meth c H locs 0 0 Q (F0 m 25 ls []) := by
    intro x1 H locs ls h hW hl
    unfold f_X5_joinsAt_b25 at h
    refine lv_iconst (v := 0) hx hb dX5_joinsAt_25 (by decide) ?_
    exact b26 h hW (lv_sub hl [0, 1] rfl)
  unfold f_X5_joinsAt at h
  refine lv_aload_n hx hb dX5_joinsAt_0 rfl (lv_at hl 0 rfl) ?_
  refine lv_iload_n hx hb dX5_joinsAt_1 rfl (lv_at hl 2 rfl) ?_
  obtain ⟨u1, eu1, h⟩ := bd_some h
  refine z_callV_i hC hW (rest := []) (c_X5_isWall (d := 0) (Nat.le_refl _) eu1) vw_X5_48 WC_1 rfl ⟨rfl, rfl⟩ (zrm_ok (by omega) (by decide)) rfl rfl hl.1 (Nat.le_of_ble_eq_true rfl) dX5_joinsAt_2 (fun H locs hW => ?_)
  refine lv_if_eq (tgt := 25) hx hb dX5_joinsAt_5 (by decide) (fun c2 => ?_) (fun c2 => ?_)
  · have h := ifp c2 h
    exact b25 h hW (lv_sub hl [0, 1] rfl)
  · have h := ifn c2 h
    refine lv_aload_n hx hb dX5_joinsAt_8 rfl (lv_at hl 0 rfl) ?_
    refine z_get hC hW fg_X5_21 1 WC_1 rfl dX5_joinsAt_9 ?_
    refine lv_iload_n hx hb dX5_joinsAt_12 rfl (lv_at hl 2 rfl) ?_
    obtain ⟨g7, h⟩ := ix_some h
    refine z_iald hC hW 11 WC_11 g7 dX5_joinsAt_13 ?_
    refine lv_iload_n hx hb dX5_joinsAt_14 rfl (lv_at hl 1 rfl) ?_
    obtain ⟨u8, eu8, h⟩ := bd_some h
    refine z_callS_i hC hW (rest := []) (c_X5_isEnd (d := 0) (Nat.le_refl _) eu8) sw_X5_51 ⟨rfl, rfl⟩ (zrm_ok (by omega) (by decide)) rfl rfl hl.1 (Nat.le_of_ble_eq_true rfl) dX5_joinsAt_15 (fun H locs hW => ?_)
    refine lv_if_eq (tgt := 25) hx hb dX5_joinsAt_18 (by decide) (fun c9 => ?_) (fun c9 => ?_)
    · have h := ifp c9 h
      exact b25 h hW (lv_sub hl [0, 1] rfl)
    · have h := ifn c9 h
      refine lv_iconst (v := 1) hx hb dX5_joinsAt_21 (by decide) ?_
      refine lv_goto (tgt := 26) hx hb dX5_joinsAt_22 (by decide) ?_
      exact b26 h hW (lv_sub hl [0, 1] rfl)
set_option maxHeartbeats 4000000 in
set_option maxRecDepth 100000 in
theorem c_X2_broken {d : Nat} {res : Int32 × Int32} (hd : 0 ≤ d) (h : f_X2_broken L_at L_fault = some res) : zMi l yX2_broken cX2_broken 1 .int (zrm d) [.ref (ρ 2)] D q (WC q ρ T_price T_year T_joinEnds T_wallEnds T_cost T_doors T_joins T_walls T_oldWells T_apart L_tape L_text L_fed L_length L_read L_end L_at L_fault L_d L_p L_y L_j L_o P_away P_beside P_reach P_serves P_crowds P_servedLow P_servedHigh P_crowdedLow P_crowdedHigh P_there P_must P_can C_what C_number C_before C_after C_done C_kept A_kinds A_traced A_bodies A_began A_self A_kindOfSelf S_holds S_body S_sort S_size S_elements G_grown) sz res.1 (WC q ρ T_price T_year T_joinEnds T_wallEnds T_cost T_doors T_joins T_walls T_oldWells T_apart L_tape L_text L_fed L_length L_read L_end L_at res.2 L_d L_p L_y L_j L_o P_away P_beside P_reach P_serves P_crowds P_servedLow P_servedHigh P_crowdedLow P_crowdedHigh P_there P_must P_can C_what C_number C_before C_after C_done C_kept A_kinds A_traced A_bodies A_began A_self A_kindOfSelf S_holds S_body S_sort S_size S_elements G_grown) := by
  refine zMet_i (own := RX2) _ (by decide) rfl (Nat.le_of_ble_eq_true rfl) ?_
  intro p e s m args below meth c A ls Q hC hW hl hret
  have hx := hC.1
  have hb := hC.2.1
  have hl : lv_has ls 1 [(0, .ref (ρ 2))] := hl
  have b19 : ∀ {s0 : Int32} {L_fault : Int32} {H : Heap} {locs : List Loc} {ls : Array Slot}, f_X2_broken_b19 s0 L_fault = some res → zW D A s.heap (WC q ρ T_price T_year T_joinEnds T_wallEnds T_cost T_doors T_joins T_walls T_oldWells T_apart L_tape L_text L_fed L_length L_read L_end L_at L_fault L_d L_p L_y L_j L_o P_away P_beside P_reach P_serves P_crowds P_servedLow P_servedHigh P_crowdedLow P_crowdedHigh P_there P_must P_can C_what C_number C_before C_after C_done C_kept A_kinds A_traced A_bodies A_began A_self A_kindOfSelf S_holds S_body S_sort S_size S_elements G_grown) H locs → lv_has ls 1 [] → W p l e (zrm d) s m args below meth c H locs 0 0 Q (F0 m 19 ls [.int s0, .ref (ρ 2)]) := by
    intro s0 L_fault H locs ls h hW hl
    unfold f_X2_broken_b19 at h
    refine z_put hC hW fp_X2_29 2 WC_2 (Nat.le_of_ble_eq_true rfl) rfl rfl WCs_L_fault dX2_broken_19 (fun H locs hW => ?_)
    refine lv_iconst (v := 0) hx hb dX2_broken_22 (by decide) ?_
    have h := Option.some.inj h
    subst h
    exact hret _ _ _ _ _ dX2_broken_23 rfl rfl hW
  unfold f_X2_broken at h
  refine lv_aload_n hx hb dX2_broken_0 rfl (lv_at hl 0 rfl) ?_
  refine lv_aload_n hx hb dX2_broken_1 rfl (lv_at hl 0 rfl) ?_
  refine z_get hC hW fg_X2_29 2 WC_2 rfl dX2_broken_2 ?_
  refine lv_if_ge (tgt := 15) hx hb dX2_broken_5 (by decide) (fun c1 => ?_) (fun c1 => ?_)
  · have h := ifp c1 h
    refine lv_aload_n hx hb dX2_broken_15 rfl (lv_at hl 0 rfl) ?_
    refine z_get hC hW fg_X2_29 2 WC_2 rfl dX2_broken_16 ?_
    exact b19 h hW (lv_sub hl [] rfl)
  · have h := ifn c1 h
    refine lv_aload_n hx hb dX2_broken_8 rfl (lv_at hl 0 rfl) ?_
    refine z_get hC hW fg_X2_80 2 WC_2 rfl dX2_broken_9 ?_
    refine lv_goto (tgt := 19) hx hb dX2_broken_12 (by decide) ?_
    exact b19 h hW (lv_sub hl [] rfl)
end CT20_c02
