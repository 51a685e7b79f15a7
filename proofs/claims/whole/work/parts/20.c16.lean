section CT20_c16
variable {l : Launch} {D : va_G} {q : Nat → ClassId} {ρ : Nat → Nat} {sz : Nat} {T_price : Nat → Int32} {T_year : Nat → Int32} {T_joinEnds : Nat → Int32} {T_wallEnds : Nat → Int32} {T_cost : Nat → Int32} {T_doors : Int32} {T_joins : Int32} {T_walls : Int32} {T_oldWells : Int32} {T_apart : Int32} {L_tape : Nat → Int32} {L_text : Nat → Int32} {L_fed : Int32} {L_length : Int32} {L_read : Nat} {L_end : Int32} {L_at : Int32} {L_fault : Int32} {L_d : Int32} {L_p : Int32} {L_y : Int32} {L_j : Int32} {L_o : Int32} {P_away : Nat → Nat → Int32} {P_beside : Nat → Int32} {P_reach : Nat → Int32} {P_serves : Nat → Int32} {P_crowds : Nat → Int32} {P_servedLow : Nat → Int32} {P_servedHigh : Nat → Int32} {P_crowdedLow : Nat → Int32} {P_crowdedHigh : Nat → Int32} {P_there : Int32} {P_must : Int32} {P_can : Int32} {C_what : Nat → Int32} {C_number : Nat → Int32} {C_before : Nat → Int32} {C_after : Nat → Int32} {C_done : Int32} {C_kept : Int32} {A_kinds : Nat → Int32} {A_traced : Nat → Int32} {A_bodies : Int32} {A_began : Int32} {A_self : Int32} {A_kindOfSelf : Int32} {S_holds : Nat → Int32} {S_body : Nat → Int32} {S_sort : Nat → Int32} {S_size : Nat → Int32} {S_elements : Nat → Nat → Int64} {G_grown : Nat → Int32}
set_option maxHeartbeats 4000000 in
set_option maxRecDepth 100000 in
theorem c_X0_addBody {a1 : Int32} {d : Nat} {res : Int32 × (Nat → Int32) × Int32} (hd : 0 ≤ d) (h : f_X0_addBody a1 A_kinds A_bodies = some res) : zMi l yX0_addBody cX0_addBody 2 .int (zrm d) [.ref (ρ 5), .int a1] D q (WC q ρ T_price T_year T_joinEnds T_wallEnds T_cost T_doors T_joins T_walls T_oldWells T_apart L_tape L_text L_fed L_length L_read L_end L_at L_fault L_d L_p L_y L_j L_o P_away P_beside P_reach P_serves P_crowds P_servedLow P_servedHigh P_crowdedLow P_crowdedHigh P_there P_must P_can C_what C_number C_before C_after C_done C_kept A_kinds A_traced A_bodies A_began A_self A_kindOfSelf S_holds S_body S_sort S_size S_elements G_grown) sz res.1 (WC q ρ T_price T_year T_joinEnds T_wallEnds T_cost T_doors T_joins T_walls T_oldWells T_apart L_tape L_text L_fed L_length L_read L_end L_at L_fault L_d L_p L_y L_j L_o P_away P_beside P_reach P_serves P_crowds P_servedLow P_servedHigh P_crowdedLow P_crowdedHigh P_there P_must P_can C_what C_number C_before C_after C_done C_kept res.2.1 A_traced res.2.2 A_began A_self A_kindOfSelf S_holds S_body S_sort S_size S_elements G_grown) := by
  refine zMet_i (own := RX0) _ (by decide) rfl (Nat.le_of_ble_eq_true rfl) ?_
  intro p e s m args below meth c A ls Q hC hW hl hret
  have hx := hC.1
  have hb := hC.2.1
  have hl : lv_has ls 2 [(0, .ref (ρ 5)), (1, .int a1)] := hl
  unfold f_X0_addBody at h
  refine lv_aload_n hx hb dX0_addBody_0 rfl (lv_at hl 0 rfl) ?_
  refine z_get hC hW fg_X0_9 5 WC_5 rfl dX0_addBody_1 ?_
  refine lv_aload_n hx hb dX0_addBody_4 rfl (lv_at hl 0 rfl) ?_
  refine z_get hC hW fg_X0_18 5 WC_5 rfl dX0_addBody_5 ?_
  refine lv_iload_n hx hb dX0_addBody_8 rfl (lv_at hl 1 rfl) ?_
  obtain ⟨g1, h⟩ := ix_some h
  refine z_iast hC hW 28 WC_28 g1 WCs_A_kinds dX0_addBody_9 (fun H locs hW => ?_)
  refine lv_aload_n hx hb dX0_addBody_10 rfl (lv_at hl 0 rfl) ?_
  refine lv_dup hx hb dX0_addBody_11 rfl ?_
  refine z_get hC hW fg_X0_18 5 WC_5 rfl dX0_addBody_12 ?_
  refine lv_dup_x1 hx hb dX0_addBody_15 rfl rfl ?_
  refine lv_iconst (v := 1) hx hb dX0_addBody_16 (by decide) ?_
  refine lv_iadd hx hb dX0_addBody_17 ?_
  refine z_put hC hW fp_X0_18 5 WC_5 (Nat.le_of_ble_eq_true rfl) rfl rfl WCs_A_bodies dX0_addBody_18 (fun H locs hW => ?_)
  have h := Option.some.inj h
  subst h
  exact hret _ _ _ _ _ dX0_addBody_21 rfl rfl hW
set_option maxHeartbeats 4000000 in
set_option maxRecDepth 100000 in
theorem c_X6_body {a1 : Int32} {d : Nat} {res : Int32 × (Nat → Int32) × Int32} (hd : 1 ≤ d) (h : f_X6_body a1 A_kinds A_bodies = some res) : zMi l yX6_body cX6_body 2 .int (zrm d) [.ref (ρ 0), .int a1] D q (WC q ρ T_price T_year T_joinEnds T_wallEnds T_cost T_doors T_joins T_walls T_oldWells T_apart L_tape L_text L_fed L_length L_read L_end L_at L_fault L_d L_p L_y L_j L_o P_away P_beside P_reach P_serves P_crowds P_servedLow P_servedHigh P_crowdedLow P_crowdedHigh P_there P_must P_can C_what C_number C_before C_after C_done C_kept A_kinds A_traced A_bodies A_began A_self A_kindOfSelf S_holds S_body S_sort S_size S_elements G_grown) sz res.1 (WC q ρ T_price T_year T_joinEnds T_wallEnds T_cost T_doors T_joins T_walls T_oldWells T_apart L_tape L_text L_fed L_length L_read L_end L_at L_fault L_d L_p L_y L_j L_o P_away P_beside P_reach P_serves P_crowds P_servedLow P_servedHigh P_crowdedLow P_crowdedHigh P_there P_must P_can C_what C_number C_before C_after C_done C_kept res.2.1 A_traced res.2.2 A_began A_self A_kindOfSelf S_holds S_body S_sort S_size S_elements G_grown) := by
  refine zMet_i (own := RX6) _ (by decide) rfl (Nat.le_of_ble_eq_true rfl) ?_
  intro p e s m args below meth c A ls Q hC hW hl hret
  have hx := hC.1
  have hb := hC.2.1
  have hl : lv_has ls 2 [(0, .ref (ρ 0)), (1, .int a1)] := hl
  unfold f_X6_body at h
  refine lv_iload_n hx hb dX6_body_0 rfl (lv_at hl 1 rfl) ?_
  obtain ⟨u1, eu1, h⟩ := bd_some h
  refine z_callS_i hC hW (rest := []) (c_X6_isKind (d := 0) (Nat.le_refl _) eu1) sw_X6_238 ⟨rfl, rfl⟩ (zrm_ok (by omega) (by decide)) rfl rfl hl.1 (Nat.le_of_ble_eq_true rfl) dX6_body_1 (fun H locs hW => ?_)
  refine lv_if_ne (tgt := 9) hx hb dX6_body_4 (by decide) (fun c2 => ?_) (fun c2 => ?_)
  · have h := ifn c2 h
    refine lv_aload_n hx hb dX6_body_9 rfl (lv_at hl 0 rfl) ?_
    refine z_get hC hW fg_X6_40 0 WC_0 rfl dX6_body_10 ?_
    refine z_get hC hW fg_X6_241 5 WC_5 rfl dX6_body_13 ?_
    refine lv_bipush (v := 50) hx hb dX6_body_16 (by decide) ?_
    refine lv_icmp_lt (tgt := 26) hx hb dX6_body_18 (by decide) (fun c3 => ?_) (fun c3 => ?_)
    · have h := ifp c3 h
      refine lv_aload_n hx hb dX6_body_26 rfl (lv_at hl 0 rfl) ?_
      refine z_get hC hW fg_X6_40 0 WC_0 rfl dX6_body_27 ?_
      refine lv_iload_n hx hb dX6_body_30 rfl (lv_at hl 1 rfl) ?_
      obtain ⟨u4, eu4, h⟩ := bd_some h
      refine z_callV_i hC hW (rest := []) (c_X0_addBody (d := 0) (Nat.le_refl _) eu4) vw_X6_244 WC_5 rfl ⟨rfl, rfl⟩ (zrm_ok (by omega) (by decide)) rfl rfl hl.1 (Nat.le_of_ble_eq_true rfl) dX6_body_31 (fun H locs hW => ?_)
      have h := Option.some.inj h
      subst h
      exact hret _ _ _ _ _ dX6_body_34 rfl rfl hW
    · have h := ifn c3 h
      refine lv_bipush (v := (-3)) hx hb dX6_body_21 (by decide) ?_
      refine lv_goto (tgt := 34) hx hb dX6_body_23 (by decide) ?_
      have h := Option.some.inj h
      subst h
      exact hret _ _ _ _ _ dX6_body_34 rfl rfl hW
  · have h := ifp c2 h
    refine lv_iconst (v := (-1)) hx hb dX6_body_7 (by decide) ?_
    have h := Option.some.inj h
    subst h
    exact hret _ _ _ _ _ dX6_body_8 rfl rfl hW
set_option maxHeartbeats 4000000 in
set_option maxRecDepth 100000 in
theorem c_X0_ownerOf {a0 : Int32} {a1 : Int32} {d : Nat} {res : Int32} (hd : 0 ≤ d) (h : f_X0_ownerOf a0 a1 = some res) : zMi l yX0_ownerOf cX0_ownerOf 4 .int (zrm d) [.int a0, .int a1] D q (WC q ρ T_price T_year T_joinEnds T_wallEnds T_cost T_doors T_joins T_walls T_oldWells T_apart L_tape L_text L_fed L_length L_read L_end L_at L_fault L_d L_p L_y L_j L_o P_away P_beside P_reach P_serves P_crowds P_servedLow P_servedHigh P_crowdedLow P_crowdedHigh P_there P_must P_can C_what C_number C_before C_after C_done C_kept A_kinds A_traced A_bodies A_began A_self A_kindOfSelf S_holds S_body S_sort S_size S_elements G_grown) sz res (WC q ρ T_price T_year T_joinEnds T_wallEnds T_cost T_doors T_joins T_walls T_oldWells T_apart L_tape L_text L_fed L_length L_read L_end L_at L_fault L_d L_p L_y L_j L_o P_away P_beside P_reach P_serves P_crowds P_servedLow P_servedHigh P_crowdedLow P_crowdedHigh P_there P_must P_can C_what C_number C_before C_after C_done C_kept A_kinds A_traced A_bodies A_began A_self A_kindOfSelf S_holds S_body S_sort S_size S_elements G_grown) := by
  refine zMet_i (own := RX0) _ (by decide) rfl (Nat.le_of_ble_eq_true rfl) ?_
  intro p e s m args below meth c A ls Q hC hW hl hret
  have hx := hC.1
  have hb := hC.2.1
  have hl : lv_has ls 4 [(0, .int a0), (1, .int a1)] := hl
  have b4 : ∀ {x1 : Int32} {n : Nat} {x2 : Int32} {x3 : Int32} {H : Heap} {locs : List Loc} {ls : Array Slot}, f_X0_ownerOf_b4 x1 n x2 x3 = some res → zW D A s.heap (WC q ρ T_price T_year T_joinEnds T_wallEnds T_cost T_doors T_joins T_walls T_oldWells T_apart L_tape L_text L_fed L_length L_read L_end L_at L_fault L_d L_p L_y L_j L_o P_away P_beside P_reach P_serves P_crowds P_servedLow P_servedHigh P_crowdedLow P_crowdedHigh P_there P_must P_can C_what C_number C_before C_after C_done C_kept A_kinds A_traced A_bodies A_began A_self A_kindOfSelf S_holds S_body S_sort S_size S_elements G_grown) H locs → lv_has ls 4 [(1, .int x1), (2, .int x2), (3, .int x3)] → W p l e (zrm d) s m args below meth c H locs 0 0 Q (F0 m 4 ls []) := by
    intro x1
    intro n
    induction n with
    | zero =>
      intro x2 x3 H locs ls h
      rw [f_X0_ownerOf_b4] at h
      cases h
    | succ n ih =>
      intro x2 x3 H locs ls h hW hl
      rw [f_X0_ownerOf_b4] at h
      refine lv_iload_n hx hb dX0_ownerOf_4 rfl (lv_at hl 2 rfl) ?_
      refine lv_bipush (v := 8) hx hb dX0_ownerOf_5 (by decide) ?_
      refine lv_icmp_ge (tgt := 38) hx hb dX0_ownerOf_7 (by decide) (fun c1 => ?_) (fun c1 => ?_)
      · have h := ifp c1 h
        refine lv_iload_n hx hb dX0_ownerOf_38 rfl (lv_at hl 1 rfl) ?_
        have h := Option.some.inj h
        subst h
        exact hret _ _ _ _ _ dX0_ownerOf_39 rfl rfl hW
      · have h := ifn c1 h
        refine lv_iload_n hx hb dX0_ownerOf_10 rfl (lv_at hl 1 rfl) ?_
        refine lv_if_lt (tgt := 38) hx hb dX0_ownerOf_11 (by decide) (fun c2 => ?_) (fun c2 => ?_)
        · have h := ifp c2 h
          refine lv_iload_n hx hb dX0_ownerOf_38 rfl (lv_at hl 1 rfl) ?_
          have h := Option.some.inj h
          subst h
          exact hret _ _ _ _ _ dX0_ownerOf_39 rfl rfl hW
        · have h := ifn c2 h
          refine z_stat_OWN hC hW wd_746 dX0_ownerOf_14 (fun t3 hTt3 => ?_)
          refine lv_iconst (v := 4) hx hb dX0_ownerOf_17 (by decide) ?_
          refine lv_iload_n hx hb dX0_ownerOf_18 rfl (lv_at hl 1 rfl) ?_
          refine lv_imul hx hb dX0_ownerOf_19 ?_
          refine lv_iload_n hx hb dX0_ownerOf_20 rfl (lv_at hl 0 rfl) ?_
          refine lv_iadd hx hb dX0_ownerOf_21 ?_
          obtain ⟨g4, h⟩ := ix_some h
          refine z_stld hC hW hTt3 g4 dX0_ownerOf_22 ?_
          refine lv_if_ne (tgt := 38) hx hb dX0_ownerOf_23 (by decide) (fun c5 => ?_) (fun c5 => ?_)
          · have h := ifn c5 h
            refine lv_iload_n hx hb dX0_ownerOf_38 rfl (lv_at hl 1 rfl) ?_
            have h := Option.some.inj h
            subst h
            exact hret _ _ _ _ _ dX0_ownerOf_39 rfl rfl hW
          · have h := ifp c5 h
            refine z_stat_ABOVE hC hW wd_748 dX0_ownerOf_26 (fun t6 hTt6 => ?_)
            refine lv_iload_n hx hb dX0_ownerOf_29 rfl (lv_at hl 1 rfl) ?_
            obtain ⟨g7, h⟩ := ix_some h
            refine z_stld hC hW hTt6 g7 dX0_ownerOf_30 ?_
            refine lv_istore_n (lv' := [(2, .int (zABOVE (Int32.toNatClampNeg x2))), (1, .int x1), (3, .int x3)]) hx hb dX0_ownerOf_31 rfl hl (by decide) rfl (fun ls hl => ?_)
            refine lv_iinc (v := (x3 + 1)) (lv' := [(3, .int (x3 + 1)), (2, .int (zABOVE (Int32.toNatClampNeg x2))), (1, .int x1)]) hx hb dX0_ownerOf_32 hl (k := 2) rfl rfl (by decide) rfl (fun ls hl => ?_)
            refine lv_goto (tgt := 4) hx hb dX0_ownerOf_35 (by decide) ?_
            exact ih h hW (lv_sub hl [2, 1, 0] rfl)
  unfold f_X0_ownerOf at h
  refine lv_iload_n hx hb dX0_ownerOf_0 rfl (lv_at hl 0 rfl) ?_
  refine lv_istore_n (lv' := [(2, .int a0), (0, .int a0), (1, .int a1)]) hx hb dX0_ownerOf_1 rfl hl (by decide) rfl (fun ls hl => ?_)
  refine lv_iconst (v := 0) hx hb dX0_ownerOf_2 (by decide) ?_
  refine lv_istore_n (lv' := [(3, .int 0), (2, .int a0), (0, .int a0), (1, .int a1)]) hx hb dX0_ownerOf_3 rfl hl (by decide) rfl (fun ls hl => ?_)
  exact b4 h hW (lv_sub hl [3, 1, 0] rfl)
set_option maxHeartbeats 4000000 in
set_option maxRecDepth 100000 in
theorem c_X0_note {a1 : Int32} {d : Nat} {res : (Nat → Int32) × Int32} (hd : 0 ≤ d) (h : f_X0_note a1 A_traced A_began = some res) : zMv l yX0_note cX0_note 2 (zrm d) [.ref (ρ 5), .int a1] D q (WC q ρ T_price T_year T_joinEnds T_wallEnds T_cost T_doors T_joins T_walls T_oldWells T_apart L_tape L_text L_fed L_length L_read L_end L_at L_fault L_d L_p L_y L_j L_o P_away P_beside P_reach P_serves P_crowds P_servedLow P_servedHigh P_crowdedLow P_crowdedHigh P_there P_must P_can C_what C_number C_before C_after C_done C_kept A_kinds A_traced A_bodies A_began A_self A_kindOfSelf S_holds S_body S_sort S_size S_elements G_grown) sz (WC q ρ T_price T_year T_joinEnds T_wallEnds T_cost T_doors T_joins T_walls T_oldWells T_apart L_tape L_text L_fed L_length L_read L_end L_at L_fault L_d L_p L_y L_j L_o P_away P_beside P_reach P_serves P_crowds P_servedLow P_servedHigh P_crowdedLow P_crowdedHigh P_there P_must P_can C_what C_number C_before C_after C_done C_kept A_kinds res.1 A_bodies res.2 A_self A_kindOfSelf S_holds S_body S_sort S_size S_elements G_grown) := by
  refine zMet_v (own := RX0) (by decide) rfl (Nat.le_of_ble_eq_true rfl) ?_
  intro p e s m args below meth c A ls Q hC hW hl hret
  have hx := hC.1
  have hb := hC.2.1
  have hl : lv_has ls 2 [(0, .ref (ρ 5)), (1, .int a1)] := hl
  have b19 : ∀ {A_traced : Nat → Int32} {A_began : Int32} {H : Heap} {locs : List Loc} {ls : Array Slot}, f_X0_note_b19 A_traced A_began = some res → zW D A s.heap (WC q ρ T_price T_year T_joinEnds T_wallEnds T_cost T_doors T_joins T_walls T_oldWells T_apart L_tape L_text L_fed L_length L_read L_end L_at L_fault L_d L_p L_y L_j L_o P_away P_beside P_reach P_serves P_crowds P_servedLow P_servedHigh P_crowdedLow P_crowdedHigh P_there P_must P_can C_what C_number C_before C_after C_done C_kept A_kinds A_traced A_bodies A_began A_self A_kindOfSelf S_holds S_body S_sort S_size S_elements G_grown) H locs → lv_has ls 2 [(0, .ref (ρ 5))] → W p l e (zrm d) s m args below meth c H locs 0 0 Q (F0 m 19 ls []) := by
    intro A_traced A_began H locs ls h hW hl
    unfold f_X0_note_b19 at h
    refine lv_aload_n hx hb dX0_note_19 rfl (lv_at hl 0 rfl) ?_
    refine lv_dup hx hb dX0_note_20 rfl ?_
    refine z_get hC hW fg_X0_22 5 WC_5 rfl dX0_note_21 ?_
    refine lv_iconst (v := 1) hx hb dX0_note_24 (by decide) ?_
    refine lv_iadd hx hb dX0_note_25 ?_
    refine z_put hC hW fp_X0_22 5 WC_5 (Nat.le_of_ble_eq_true rfl) rfl rfl WCs_A_began dX0_note_26 (fun H locs hW => ?_)
    have h := Option.some.inj h
    subst h
    exact hret _ _ _ _ dX0_note_29 hW
  unfold f_X0_note at h
  refine lv_aload_n hx hb dX0_note_0 rfl (lv_at hl 0 rfl) ?_
  refine z_get hC hW fg_X0_22 5 WC_5 rfl dX0_note_1 ?_
  refine lv_bipush (v := 24) hx hb dX0_note_4 (by decide) ?_
  refine lv_icmp_ge (tgt := 19) hx hb dX0_note_6 (by decide) (fun c1 => ?_) (fun c1 => ?_)
  · have h := ifp c1 h
    exact b19 h hW (lv_sub hl [0] rfl)
  · have h := ifn c1 h
    refine lv_aload_n hx hb dX0_note_9 rfl (lv_at hl 0 rfl) ?_
    refine z_get hC hW fg_X0_15 5 WC_5 rfl dX0_note_10 ?_
    refine lv_aload_n hx hb dX0_note_13 rfl (lv_at hl 0 rfl) ?_
    refine z_get hC hW fg_X0_22 5 WC_5 rfl dX0_note_14 ?_
    refine lv_iload_n hx hb dX0_note_17 rfl (lv_at hl 1 rfl) ?_
    obtain ⟨g2, h⟩ := ix_some h
    refine z_iast hC hW 29 WC_29 g2 WCs_A_traced dX0_note_18 (fun H locs hW => ?_)
    exact b19 h hW (lv_sub hl [0] rfl)
set_option maxHeartbeats 4000000 in
set_option maxRecDepth 100000 in
theorem c_X0_run {a1 : Int32} {a2 : Int32} {a3 : Int32} {a4 : Int32} {rr : Int32 → Int32 → Int32 → Int32 → (Nat → Int32) → Int32 → Int32 → Int32 → Option (Int32 × (Nat → Int32) × Int32)} {dr : Nat} {d : Nat} {res : Int32 × (Nat → Int32) × Int32} (hrr : ∀ {a1 : Int32} {a2 : Int32} {a3 : Int32} {a4 : Int32} {T_price : Nat → Int32} {T_year : Nat → Int32} {T_joinEnds : Nat → Int32} {T_wallEnds : Nat → Int32} {T_cost : Nat → Int32} {T_doors : Int32} {T_joins : Int32} {T_walls : Int32} {T_oldWells : Int32} {T_apart : Int32} {L_tape : Nat → Int32} {L_text : Nat → Int32} {L_fed : Int32} {L_length : Int32} {L_read : Nat} {L_end : Int32} {L_at : Int32} {L_fault : Int32} {L_d : Int32} {L_p : Int32} {L_y : Int32} {L_j : Int32} {L_o : Int32} {P_away : Nat → Nat → Int32} {P_beside : Nat → Int32} {P_reach : Nat → Int32} {P_serves : Nat → Int32} {P_crowds : Nat → Int32} {P_servedLow : Nat → Int32} {P_servedHigh : Nat → Int32} {P_crowdedLow : Nat → Int32} {P_crowdedHigh : Nat → Int32} {P_there : Int32} {P_must : Int32} {P_can : Int32} {C_what : Nat → Int32} {C_number : Nat → Int32} {C_before : Nat → Int32} {C_after : Nat → Int32} {C_done : Int32} {C_kept : Int32} {A_kinds : Nat → Int32} {A_traced : Nat → Int32} {A_bodies : Int32} {A_began : Int32} {A_self : Int32} {A_kindOfSelf : Int32} {S_holds : Nat → Int32} {S_body : Nat → Int32} {S_sort : Nat → Int32} {S_size : Nat → Int32} {S_elements : Nat → Nat → Int64} {G_grown : Nat → Int32} {sz : Nat} {res : Int32 × (Nat → Int32) × Int32}, rr a1 a2 a3 a4 A_traced A_began A_self A_kindOfSelf = some res → zMi l yX0_run cX0_run 9 .int (zrm dr) [.ref (ρ 5), .int a1, .int a2, .int a3, .int a4] D q (WC q ρ T_price T_year T_joinEnds T_wallEnds T_cost T_doors T_joins T_walls T_oldWells T_apart L_tape L_text L_fed L_length L_read L_end L_at L_fault L_d L_p L_y L_j L_o P_away P_beside P_reach P_serves P_crowds P_servedLow P_servedHigh P_crowdedLow P_crowdedHigh P_there P_must P_can C_what C_number C_before C_after C_done C_kept A_kinds A_traced A_bodies A_began A_self A_kindOfSelf S_holds S_body S_sort S_size S_elements G_grown) sz res.1 (WC q ρ T_price T_year T_joinEnds T_wallEnds T_cost T_doors T_joins T_walls T_oldWells T_apart L_tape L_text L_fed L_length L_read L_end L_at L_fault L_d L_p L_y L_j L_o P_away P_beside P_reach P_serves P_crowds P_servedLow P_servedHigh P_crowdedLow P_crowdedHigh P_there P_must P_can C_what C_number C_before C_after C_done C_kept A_kinds res.2.1 A_bodies res.2.2 A_self A_kindOfSelf S_holds S_body S_sort S_size S_elements G_grown)) (hd : dr + 1 ≤ d) (h : f_X0_run rr a1 a2 a3 a4 A_traced A_began A_self A_kindOfSelf = some res) : zMi l yX0_run cX0_run 9 .int (zrm d) [.ref (ρ 5), .int a1, .int a2, .int a3, .int a4] D q (WC q ρ T_price T_year T_joinEnds T_wallEnds T_cost T_doors T_joins T_walls T_oldWells T_apart L_tape L_text L_fed L_length L_read L_end L_at L_fault L_d L_p L_y L_j L_o P_away P_beside P_reach P_serves P_crowds P_servedLow P_servedHigh P_crowdedLow P_crowdedHigh P_there P_must P_can C_what C_number C_before C_after C_done C_kept A_kinds A_traced A_bodies A_began A_self A_kindOfSelf S_holds S_body S_sort S_size S_elements G_grown) sz res.1 (WC q ρ T_price T_year T_joinEnds T_wallEnds T_cost T_doors T_joins T_walls T_oldWells T_apart L_tape L_text L_fed L_length L_read L_end L_at L_fault L_d L_p L_y L_j L_o P_away P_beside P_reach P_serves P_crowds P_servedLow P_servedHigh P_crowdedLow P_crowdedHigh P_there P_must P_can C_what C_number C_before C_after C_done C_kept A_kinds res.2.1 A_bodies res.2.2 A_self A_kindOfSelf S_holds S_body S_sort S_size S_elements G_grown) := by
  refine zMet_i (own := RX0) _ (by decide) rfl (Nat.le_of_ble_eq_true rfl) ?_
  intro p e s m args below meth c A ls Q hC hW hl hret
  have hx := hC.1
  have hb := hC.2.1
  have hl : lv_has ls 9 [(0, .ref (ρ 5)), (1, .int a1), (2, .int a2), (3, .int a3), (4, .int a4)] := hl
  unfold f_X0_run at h
  refine lv_iload_n hx hb dX0_run_0 rfl (lv_at hl 1 rfl) ?_
  refine lv_iload_n hx hb dX0_run_1 rfl (lv_at hl 2 rfl) ?_
  obtain ⟨u1, eu1, h⟩ := bd_some h
  refine z_callS_i hC hW (rest := []) (c_X0_ownerOf (d := 0) (Nat.le_refl _) eu1) sw_X0_41 ⟨rfl, rfl⟩ (zrm_ok (by omega) (by decide)) rfl rfl hl.1 (Nat.le_of_ble_eq_true rfl) dX0_run_2 (fun H locs hW => ?_)
  refine lv_istore (lv' := [(5, .int u1), (0, .ref (ρ 5)), (1, .int a1), (2, .int a2), (3, .int a3), (4, .int a4)]) hx hb dX0_run_5 hl (by decide) rfl (fun ls hl => ?_)
  refine lv_iload hx hb dX0_run_7 (lv_at hl 0 rfl) ?_
  refine lv_if_lt (tgt := 19) hx hb dX0_run_9 (by decide) (fun c2 => ?_) (fun c2 => ?_)
  · have h := ifp c2 h
    refine lv_iconst (v := 0) hx hb dX0_run_19 (by decide) ?_
    have h := Option.some.inj h
    subst h
    exact hret _ _ _ _ _ dX0_run_20 rfl rfl hW
  · have h := ifn c2 h
    refine lv_iload hx hb dX0_run_12 (lv_at hl 5 rfl) ?_
    refine lv_bipush (v := 30) hx hb dX0_run_14 (by decide) ?_
    refine lv_icmp_le (tgt := 21) hx hb dX0_run_16 (by decide) (fun c3 => ?_) (fun c3 => ?_)
    · have h := ifp c3 h
      refine z_stat_ABOVE hC hW wd_748 dX0_run_21 (fun t4 hTt4 => ?_)
      refine lv_iload hx hb dX0_run_24 (lv_at hl 0 rfl) ?_
      obtain ⟨g5, h⟩ := ix_some h
      refine z_stld hC hW hTt4 g5 dX0_run_26 ?_
      refine lv_istore (lv' := [(6, .int (zABOVE (Int32.toNatClampNeg u1))), (5, .int u1), (0, .ref (ρ 5)), (1, .int a1), (2, .int a2), (3, .int a3), (4, .int a4)]) hx hb dX0_run_27 hl (by decide) rfl (fun ls hl => ?_)
      refine lv_iload hx hb dX0_run_29 (lv_at hl 6 rfl) ?_
      refine lv_iconst (v := 1) hx hb dX0_run_31 (by decide) ?_
      refine lv_iadd hx hb dX0_run_32 ?_
      refine lv_istore (lv' := [(7, .int (a4 + 1)), (6, .int (zABOVE (Int32.toNatClampNeg u1))), (5, .int u1), (0, .ref (ρ 5)), (1, .int a1), (2, .int a2), (3, .int a3), (4, .int a4)]) hx hb dX0_run_33 hl (by decide) rfl (fun ls hl => ?_)
      refine z_stat_OWN hC hW wd_746 dX0_run_35 (fun t6 hTt6 => ?_)
      refine lv_iconst (v := 4) hx hb dX0_run_38 (by decide) ?_
      refine lv_iload hx hb dX0_run_39 (lv_at hl 2 rfl) ?_
      refine lv_imul hx hb dX0_run_41 ?_
      refine lv_iload_n hx hb dX0_run_42 rfl (lv_at hl 5 rfl) ?_
      refine lv_iadd hx hb dX0_run_43 ?_
      obtain ⟨g7, h⟩ := ix_some h
      refine z_stld hC hW hTt6 g7 dX0_run_44 ?_
      refine lv_istore (lv' := [(8, .int (zOWN (Int32.toNatClampNeg ((4 * u1) + a2)))), (7, .int (a4 + 1)), (6, .int (zABOVE (Int32.toNatClampNeg u1))), (5, .int u1), (0, .ref (ρ 5)), (1, .int a1), (2, .int a2), (3, .int a3), (4, .int a4)]) hx hb dX0_run_45 hl (by decide) rfl (fun ls hl => ?_)
      refine lv_aload_n hx hb dX0_run_47 rfl (lv_at hl 4 rfl) ?_
      refine lv_iload hx hb dX0_run_48 (lv_at hl 0 rfl) ?_
      obtain ⟨u8, eu8, h⟩ := bd_some h
      refine z_callV_v hC hW (rest := []) (c_X0_note (d := 0) (Nat.le_refl _) eu8) vw_X0_45 WC_5 rfl ⟨rfl, rfl⟩ (zrm_ok (by omega) (by decide)) rfl rfl hl.1 (Nat.le_of_ble_eq_true rfl) dX0_run_50 (fun H locs hW => ?_)
      refine lv_iload hx hb dX0_run_53 (lv_at hl 0 rfl) ?_
      by_cases c9 : (zOWN (Int32.toNatClampNeg ((4 * u1) + a2))) = 1
      · have h := ifp c9 h
        refine z_luk hx hb (off := 113) (tgt := 168) 1 c9 (by decide) (by decide) dX0_run_55 (by decide) ?_
        refine lv_iload_n hx hb dX0_run_168 rfl (lv_at hl 7 rfl) ?_
        refine lv_aload_n hx hb dX0_run_169 rfl (lv_at hl 4 rfl) ?_
        refine z_get hC hW fg_X0_25 5 WC_5 rfl dX0_run_170 ?_
        refine lv_iadd hx hb dX0_run_173 ?_
        have h := Option.some.inj h
        subst h
        exact hret _ _ _ _ _ dX0_run_174 rfl rfl hW
      · have h := ifn c9 h
        by_cases c10 : (zOWN (Int32.toNatClampNeg ((4 * u1) + a2))) = 2
        · have h := ifp c10 h
          refine z_luk hx hb (off := 120) (tgt := 175) 2 c10 (by decide) (by decide) dX0_run_55 (by decide) ?_
          refine lv_aload_n hx hb dX0_run_175 rfl (lv_at hl 4 rfl) ?_
          refine lv_aload_n hx hb dX0_run_176 rfl (lv_at hl 4 rfl) ?_
          refine z_get hC hW fg_X0_28 5 WC_5 rfl dX0_run_177 ?_
          refine lv_iconst (v := 1) hx hb dX0_run_180 (by decide) ?_
          refine lv_iload_n hx hb dX0_run_181 rfl (lv_at hl 7 rfl) ?_
          refine lv_iload hx hb dX0_run_182 (lv_at hl 1 rfl) ?_
          obtain ⟨u11, eu11, h⟩ := bd_some h
          refine z_callV_i hC hW (rest := []) (hrr eu11) vw_X0_31 WC_5 rfl ⟨rfl, rfl⟩ (zrm_ok (by omega) (by decide)) rfl rfl hl.1 (Nat.le_of_ble_eq_true rfl) dX0_run_184 (fun H locs hW => ?_)
          refine lv_aload_n hx hb dX0_run_187 rfl (lv_at hl 4 rfl) ?_
          refine lv_aload_n hx hb dX0_run_188 rfl (lv_at hl 4 rfl) ?_
          refine z_get hC hW fg_X0_28 5 WC_5 rfl dX0_run_189 ?_
          refine lv_iconst (v := 2) hx hb dX0_run_192 (by decide) ?_
          refine lv_iconst (v := 1) hx hb dX0_run_193 (by decide) ?_
          refine lv_iload hx hb dX0_run_194 (lv_at hl 1 rfl) ?_
          obtain ⟨u12, eu12, h⟩ := bd_some h
          refine z_callV_i hC hW (rest := [.int u11.1]) (hrr eu12) vw_X0_31 WC_5 rfl ⟨rfl, rfl⟩ (zrm_ok (by omega) (by decide)) rfl rfl hl.1 (Nat.le_of_ble_eq_true rfl) dX0_run_196 (fun H locs hW => ?_)
          refine lv_isub hx hb dX0_run_199 ?_
          have h := Option.some.inj h
          subst h
          exact hret _ _ _ _ _ dX0_run_200 rfl rfl hW
        · have h := ifn c10 h
          by_cases c13 : (zOWN (Int32.toNatClampNeg ((4 * u1) + a2))) = 10
          · have h := ifp c13 h
            refine z_luk hx hb (off := 146) (tgt := 201) 10 c13 (by decide) (by decide) dX0_run_55 (by decide) ?_
            refine lv_aload_n hx hb dX0_run_201 rfl (lv_at hl 4 rfl) ?_
            refine lv_aload_n hx hb dX0_run_202 rfl (lv_at hl 4 rfl) ?_
            refine z_get hC hW fg_X0_28 5 WC_5 rfl dX0_run_203 ?_
            refine lv_iconst (v := 0) hx hb dX0_run_206 (by decide) ?_
            refine lv_iload_n hx hb dX0_run_207 rfl (lv_at hl 7 rfl) ?_
            refine lv_iload hx hb dX0_run_208 (lv_at hl 1 rfl) ?_
            obtain ⟨u14, eu14, h⟩ := bd_some h
            refine z_callV_i hC hW (rest := []) (hrr eu14) vw_X0_31 WC_5 rfl ⟨rfl, rfl⟩ (zrm_ok (by omega) (by decide)) rfl rfl hl.1 (Nat.le_of_ble_eq_true rfl) dX0_run_210 (fun H locs hW => ?_)
            refine lv_iconst (v := 2) hx hb dX0_run_213 (by decide) ?_
            refine lv_imul hx hb dX0_run_214 ?_
            have h := Option.some.inj h
            subst h
            exact hret _ _ _ _ _ dX0_run_215 rfl rfl hW
          · have h := ifn c13 h
            by_cases c15 : (zOWN (Int32.toNatClampNeg ((4 * u1) + a2))) = 11
            · have h := ifp c15 h
              refine z_luk hx hb (off := 161) (tgt := 216) 11 c15 (by decide) (by decide) dX0_run_55 (by decide) ?_
              refine lv_iload_n hx hb dX0_run_216 rfl (lv_at hl 7 rfl) ?_
              refine lv_aload_n hx hb dX0_run_217 rfl (lv_at hl 4 rfl) ?_
              refine z_get hC hW fg_X0_25 5 WC_5 rfl dX0_run_218 ?_
              refine lv_ixor hx hb dX0_run_221 ?_
              have h := Option.some.inj h
              subst h
              exact hret _ _ _ _ _ dX0_run_222 rfl rfl hW
            · have h := ifn c15 h
              by_cases c16 : (zOWN (Int32.toNatClampNeg ((4 * u1) + a2))) = 20
              · have h := ifp c16 h
                refine z_luk hx hb (off := 168) (tgt := 223) 20 c16 (by decide) (by decide) dX0_run_55 (by decide) ?_
                refine lv_aload_n hx hb dX0_run_223 rfl (lv_at hl 4 rfl) ?_
                refine lv_iload hx hb dX0_run_224 (lv_at hl 2 rfl) ?_
                refine lv_iconst (v := 0) hx hb dX0_run_226 (by decide) ?_
                refine lv_iload_n hx hb dX0_run_227 rfl (lv_at hl 7 rfl) ?_
                refine lv_iload hx hb dX0_run_228 (lv_at hl 1 rfl) ?_
                obtain ⟨u17, eu17, h⟩ := bd_some h
                refine z_callV_i hC hW (rest := []) (hrr eu17) vw_X0_31 WC_5 rfl ⟨rfl, rfl⟩ (zrm_ok (by omega) (by decide)) rfl rfl hl.1 (Nat.le_of_ble_eq_true rfl) dX0_run_230 (fun H locs hW => ?_)
                refine lv_iconst (v := 3) hx hb dX0_run_233 (by decide) ?_
                refine lv_iadd hx hb dX0_run_234 ?_
                have h := Option.some.inj h
                subst h
                exact hret _ _ _ _ _ dX0_run_235 rfl rfl hW
              · have h := ifn c16 h
                by_cases c18 : (zOWN (Int32.toNatClampNeg ((4 * u1) + a2))) = 30
                · have h := ifp c18 h
                  refine z_luk hx hb (off := 181) (tgt := 236) 30 c18 (by decide) (by decide) dX0_run_55 (by decide) ?_
                  refine lv_aload_n hx hb dX0_run_236 rfl (lv_at hl 4 rfl) ?_
                  refine lv_iload hx hb dX0_run_237 (lv_at hl 2 rfl) ?_
                  refine lv_iconst (v := 1) hx hb dX0_run_239 (by decide) ?_
                  refine lv_iload_n hx hb dX0_run_240 rfl (lv_at hl 7 rfl) ?_
                  refine lv_iload hx hb dX0_run_241 (lv_at hl 1 rfl) ?_
                  obtain ⟨u19, eu19, h⟩ := bd_some h
                  refine z_callV_i hC hW (rest := []) (hrr eu19) vw_X0_31 WC_5 rfl ⟨rfl, rfl⟩ (zrm_ok (by omega) (by decide)) rfl rfl hl.1 (Nat.le_of_ble_eq_true rfl) dX0_run_243 (fun H locs hW => ?_)
                  refine lv_ineg hx hb dX0_run_246 ?_
                  have h := Option.some.inj h
                  subst h
                  exact hret _ _ _ _ _ dX0_run_247 rfl rfl hW
                · have h := ifn c18 h
                  by_cases c20 : (zOWN (Int32.toNatClampNeg ((4 * u1) + a2))) = 40
                  · have h := ifp c20 h
                    refine z_luk hx hb (off := 193) (tgt := 248) 40 c20 (by decide) (by decide) dX0_run_55 (by decide) ?_
                    refine lv_aload_n hx hb dX0_run_248 rfl (lv_at hl 4 rfl) ?_
                    refine lv_iload hx hb dX0_run_249 (lv_at hl 2 rfl) ?_
                    refine lv_iconst (v := 2) hx hb dX0_run_251 (by decide) ?_
                    refine lv_iload_n hx hb dX0_run_252 rfl (lv_at hl 7 rfl) ?_
                    refine lv_iload hx hb dX0_run_253 (lv_at hl 1 rfl) ?_
                    obtain ⟨u21, eu21, h⟩ := bd_some h
                    refine z_callV_i hC hW (rest := []) (hrr eu21) vw_X0_31 WC_5 rfl ⟨rfl, rfl⟩ (zrm_ok (by omega) (by decide)) rfl rfl hl.1 (Nat.le_of_ble_eq_true rfl) dX0_run_255 (fun H locs hW => ?_)
                    refine lv_iconst (v := 3) hx hb dX0_run_258 (by decide) ?_
                    refine lv_imul hx hb dX0_run_259 ?_
                    have h := Option.some.inj h
                    subst h
                    exact hret _ _ _ _ _ dX0_run_260 rfl rfl hW
                  · have h := ifn c20 h
                    by_cases c22 : (zOWN (Int32.toNatClampNeg ((4 * u1) + a2))) = 41
                    · have h := ifp c22 h
                      refine z_luk hx hb (off := 206) (tgt := 261) 41 c22 (by decide) (by decide) dX0_run_55 (by decide) ?_
                      refine lv_aload_n hx hb dX0_run_261 rfl (lv_at hl 4 rfl) ?_
                      refine lv_iload hx hb dX0_run_262 (lv_at hl 2 rfl) ?_
                      refine lv_iconst (v := 1) hx hb dX0_run_264 (by decide) ?_
                      refine lv_iload_n hx hb dX0_run_265 rfl (lv_at hl 7 rfl) ?_
                      refine lv_iconst (v := 1) hx hb dX0_run_266 (by decide) ?_
                      refine lv_iadd hx hb dX0_run_267 ?_
                      refine lv_iload hx hb dX0_run_268 (lv_at hl 1 rfl) ?_
                      obtain ⟨u23, eu23, h⟩ := bd_some h
                      refine z_callV_i hC hW (rest := []) (hrr eu23) vw_X0_31 WC_5 rfl ⟨rfl, rfl⟩ (zrm_ok (by omega) (by decide)) rfl rfl hl.1 (Nat.le_of_ble_eq_true rfl) dX0_run_270 (fun H locs hW => ?_)
                      have h := Option.some.inj h
                      subst h
                      exact hret _ _ _ _ _ dX0_run_273 rfl rfl hW
                    · have h := ifn c22 h
                      by_cases c24 : (zOWN (Int32.toNatClampNeg ((4 * u1) + a2))) = 50
                      · have h := ifp c24 h
                        refine z_luk hx hb (off := 219) (tgt := 274) 50 c24 (by decide) (by decide) dX0_run_55 (by decide) ?_
                        refine lv_aload_n hx hb dX0_run_274 rfl (lv_at hl 4 rfl) ?_
                        refine lv_iload hx hb dX0_run_275 (lv_at hl 2 rfl) ?_
                        refine lv_iconst (v := 3) hx hb dX0_run_277 (by decide) ?_
                        refine lv_iload_n hx hb dX0_run_278 rfl (lv_at hl 7 rfl) ?_
                        refine lv_iload hx hb dX0_run_279 (lv_at hl 1 rfl) ?_
                        obtain ⟨u25, eu25, h⟩ := bd_some h
                        refine z_callV_i hC hW (rest := []) (hrr eu25) vw_X0_31 WC_5 rfl ⟨rfl, rfl⟩ (zrm_ok (by omega) (by decide)) rfl rfl hl.1 (Nat.le_of_ble_eq_true rfl) dX0_run_281 (fun H locs hW => ?_)
                        refine lv_iconst (v := 5) hx hb dX0_run_284 (by decide) ?_
                        refine lv_ixor hx hb dX0_run_285 ?_
                        have h := Option.some.inj h
                        subst h
                        exact hret _ _ _ _ _ dX0_run_286 rfl rfl hW
                      · have h := ifn c24 h
                        by_cases c26 : (zOWN (Int32.toNatClampNeg ((4 * u1) + a2))) = 60
                        · have h := ifp c26 h
                          refine z_luk hx hb (off := 232) (tgt := 287) 60 c26 (by decide) (by decide) dX0_run_55 (by decide) ?_
                          refine lv_aload_n hx hb dX0_run_287 rfl (lv_at hl 4 rfl) ?_
                          refine lv_iload hx hb dX0_run_288 (lv_at hl 2 rfl) ?_
                          refine lv_iconst (v := 2) hx hb dX0_run_290 (by decide) ?_
                          refine lv_iload_n hx hb dX0_run_291 rfl (lv_at hl 7 rfl) ?_
                          refine lv_iload hx hb dX0_run_292 (lv_at hl 1 rfl) ?_
                          obtain ⟨u27, eu27, h⟩ := bd_some h
                          refine z_callV_i hC hW (rest := []) (hrr eu27) vw_X0_31 WC_5 rfl ⟨rfl, rfl⟩ (zrm_ok (by omega) (by decide)) rfl rfl hl.1 (Nat.le_of_ble_eq_true rfl) dX0_run_294 (fun H locs hW => ?_)
                          refine lv_aload_n hx hb dX0_run_297 rfl (lv_at hl 4 rfl) ?_
                          refine lv_aload_n hx hb dX0_run_298 rfl (lv_at hl 4 rfl) ?_
                          refine z_get hC hW fg_X0_28 5 WC_5 rfl dX0_run_299 ?_
                          refine lv_iconst (v := 0) hx hb dX0_run_302 (by decide) ?_
                          refine lv_iconst (v := 2) hx hb dX0_run_303 (by decide) ?_
                          refine lv_iload hx hb dX0_run_304 (lv_at hl 1 rfl) ?_
                          obtain ⟨u28, eu28, h⟩ := bd_some h
                          refine z_callV_i hC hW (rest := [.int u27.1]) (hrr eu28) vw_X0_31 WC_5 rfl ⟨rfl, rfl⟩ (zrm_ok (by omega) (by decide)) rfl rfl hl.1 (Nat.le_of_ble_eq_true rfl) dX0_run_306 (fun H locs hW => ?_)
                          refine lv_isub hx hb dX0_run_309 ?_
                          have h := Option.some.inj h
                          subst h
                          exact hret _ _ _ _ _ dX0_run_310 rfl rfl hW
                        · have h := ifn c26 h
                          by_cases c29 : (zOWN (Int32.toNatClampNeg ((4 * u1) + a2))) = 61
                          · have h := ifp c29 h
                            refine z_luk hx hb (off := 256) (tgt := 311) 61 c29 (by decide) (by decide) dX0_run_55 (by decide) ?_
                            refine lv_aload_n hx hb dX0_run_311 rfl (lv_at hl 4 rfl) ?_
                            refine lv_iload hx hb dX0_run_312 (lv_at hl 2 rfl) ?_
                            refine lv_iconst (v := 3) hx hb dX0_run_314 (by decide) ?_
                            refine lv_iload_n hx hb dX0_run_315 rfl (lv_at hl 7 rfl) ?_
                            refine lv_iload hx hb dX0_run_316 (lv_at hl 1 rfl) ?_
                            obtain ⟨u30, eu30, h⟩ := bd_some h
                            refine z_callV_i hC hW (rest := []) (hrr eu30) vw_X0_31 WC_5 rfl ⟨rfl, rfl⟩ (zrm_ok (by omega) (by decide)) rfl rfl hl.1 (Nat.le_of_ble_eq_true rfl) dX0_run_318 (fun H locs hW => ?_)
                            refine lv_iconst (v := 1) hx hb dX0_run_321 (by decide) ?_
                            refine lv_iadd hx hb dX0_run_322 ?_
                            have h := Option.some.inj h
                            subst h
                            exact hret _ _ _ _ _ dX0_run_323 rfl rfl hW
                          · have h := ifn c29 h
                            by_cases c31 : (zOWN (Int32.toNatClampNeg ((4 * u1) + a2))) = 70
                            · have h := ifp c31 h
                              refine z_luk hx hb (off := 269) (tgt := 324) 70 c31 (by decide) (by decide) dX0_run_55 (by decide) ?_
                              refine lv_aload_n hx hb dX0_run_324 rfl (lv_at hl 4 rfl) ?_
                              refine lv_iload hx hb dX0_run_325 (lv_at hl 2 rfl) ?_
                              refine lv_iconst (v := 0) hx hb dX0_run_327 (by decide) ?_
                              refine lv_iload_n hx hb dX0_run_328 rfl (lv_at hl 7 rfl) ?_
                              refine lv_iload hx hb dX0_run_329 (lv_at hl 1 rfl) ?_
                              obtain ⟨u32, eu32, h⟩ := bd_some h
                              refine z_callV_i hC hW (rest := []) (hrr eu32) vw_X0_31 WC_5 rfl ⟨rfl, rfl⟩ (zrm_ok (by omega) (by decide)) rfl rfl hl.1 (Nat.le_of_ble_eq_true rfl) dX0_run_331 (fun H locs hW => ?_)
                              refine lv_iconst (v := 2) hx hb dX0_run_334 (by decide) ?_
                              refine lv_imul hx hb dX0_run_335 ?_
                              have h := Option.some.inj h
                              subst h
                              exact hret _ _ _ _ _ dX0_run_336 rfl rfl hW
                            · have h := ifn c31 h
                              by_cases c33 : (zOWN (Int32.toNatClampNeg ((4 * u1) + a2))) = 80
                              · have h := ifp c33 h
                                refine z_luk hx hb (off := 282) (tgt := 337) 80 c33 (by decide) (by decide) dX0_run_55 (by decide) ?_
                                refine lv_aload_n hx hb dX0_run_337 rfl (lv_at hl 4 rfl) ?_
                                refine lv_iload hx hb dX0_run_338 (lv_at hl 2 rfl) ?_
                                refine lv_iconst (v := 1) hx hb dX0_run_340 (by decide) ?_
                                refine lv_iload_n hx hb dX0_run_341 rfl (lv_at hl 7 rfl) ?_
                                refine lv_iload hx hb dX0_run_342 (lv_at hl 1 rfl) ?_
                                obtain ⟨u34, eu34, h⟩ := bd_some h
                                refine z_callV_i hC hW (rest := []) (hrr eu34) vw_X0_31 WC_5 rfl ⟨rfl, rfl⟩ (zrm_ok (by omega) (by decide)) rfl rfl hl.1 (Nat.le_of_ble_eq_true rfl) dX0_run_344 (fun H locs hW => ?_)
                                refine lv_aload_n hx hb dX0_run_347 rfl (lv_at hl 4 rfl) ?_
                                refine lv_aload_n hx hb dX0_run_348 rfl (lv_at hl 4 rfl) ?_
                                refine z_get hC hW fg_X0_28 5 WC_5 rfl dX0_run_349 ?_
                                refine lv_iconst (v := 2) hx hb dX0_run_352 (by decide) ?_
                                refine lv_iconst (v := 2) hx hb dX0_run_353 (by decide) ?_
                                refine lv_iload hx hb dX0_run_354 (lv_at hl 1 rfl) ?_
                                obtain ⟨u35, eu35, h⟩ := bd_some h
                                refine z_callV_i hC hW (rest := [.int u34.1]) (hrr eu35) vw_X0_31 WC_5 rfl ⟨rfl, rfl⟩ (zrm_ok (by omega) (by decide)) rfl rfl hl.1 (Nat.le_of_ble_eq_true rfl) dX0_run_356 (fun H locs hW => ?_)
                                refine lv_iadd hx hb dX0_run_359 ?_
                                have h := Option.some.inj h
                                subst h
                                exact hret _ _ _ _ _ dX0_run_360 rfl rfl hW
                              · have h := ifn c33 h
                                refine z_lukD hx hb (tgt := 361) [1, 2, 10, 11, 20, 30, 40, 41, 50, 60, 61, 70, 80] (List.forall_mem_cons.mpr ⟨c9, List.forall_mem_cons.mpr ⟨c10, List.forall_mem_cons.mpr ⟨c13, List.forall_mem_cons.mpr ⟨c15, List.forall_mem_cons.mpr ⟨c16, List.forall_mem_cons.mpr ⟨c18, List.forall_mem_cons.mpr ⟨c20, List.forall_mem_cons.mpr ⟨c22, List.forall_mem_cons.mpr ⟨c24, List.forall_mem_cons.mpr ⟨c26, List.forall_mem_cons.mpr ⟨c29, List.forall_mem_cons.mpr ⟨c31, List.forall_mem_cons.mpr ⟨c33, List.forall_mem_nil _⟩⟩⟩⟩⟩⟩⟩⟩⟩⟩⟩⟩⟩) (by decide) (by decide) dX0_run_55 (by decide) ?_
                                refine lv_aload_n hx hb dX0_run_361 rfl (lv_at hl 4 rfl) ?_
                                refine lv_iload hx hb dX0_run_362 (lv_at hl 2 rfl) ?_
                                refine lv_iconst (v := 0) hx hb dX0_run_364 (by decide) ?_
                                refine lv_iload_n hx hb dX0_run_365 rfl (lv_at hl 7 rfl) ?_
                                refine lv_iload hx hb dX0_run_366 (lv_at hl 1 rfl) ?_
                                obtain ⟨u36, eu36, h⟩ := bd_some h
                                refine z_callV_i hC hW (rest := []) (hrr eu36) vw_X0_31 WC_5 rfl ⟨rfl, rfl⟩ (zrm_ok (by omega) (by decide)) rfl rfl hl.1 (Nat.le_of_ble_eq_true rfl) dX0_run_368 (fun H locs hW => ?_)
                                refine lv_iconst (v := 1) hx hb dX0_run_371 (by decide) ?_
                                refine lv_isub hx hb dX0_run_372 ?_
                                have h := Option.some.inj h
                                subst h
                                exact hret _ _ _ _ _ dX0_run_373 rfl rfl hW
    · have h := ifn c3 h
      refine lv_iconst (v := 0) hx hb dX0_run_19 (by decide) ?_
      have h := Option.some.inj h
      subst h
      exact hret _ _ _ _ _ dX0_run_20 rfl rfl hW
theorem cg_run : ∀ (n : Nat) {d : Nat}, 1 * n ≤ d → ∀ {a1 : Int32} {a2 : Int32} {a3 : Int32} {a4 : Int32} {T_price : Nat → Int32} {T_year : Nat → Int32} {T_joinEnds : Nat → Int32} {T_wallEnds : Nat → Int32} {T_cost : Nat → Int32} {T_doors : Int32} {T_joins : Int32} {T_walls : Int32} {T_oldWells : Int32} {T_apart : Int32} {L_tape : Nat → Int32} {L_text : Nat → Int32} {L_fed : Int32} {L_length : Int32} {L_read : Nat} {L_end : Int32} {L_at : Int32} {L_fault : Int32} {L_d : Int32} {L_p : Int32} {L_y : Int32} {L_j : Int32} {L_o : Int32} {P_away : Nat → Nat → Int32} {P_beside : Nat → Int32} {P_reach : Nat → Int32} {P_serves : Nat → Int32} {P_crowds : Nat → Int32} {P_servedLow : Nat → Int32} {P_servedHigh : Nat → Int32} {P_crowdedLow : Nat → Int32} {P_crowdedHigh : Nat → Int32} {P_there : Int32} {P_must : Int32} {P_can : Int32} {C_what : Nat → Int32} {C_number : Nat → Int32} {C_before : Nat → Int32} {C_after : Nat → Int32} {C_done : Int32} {C_kept : Int32} {A_kinds : Nat → Int32} {A_traced : Nat → Int32} {A_bodies : Int32} {A_began : Int32} {A_self : Int32} {A_kindOfSelf : Int32} {S_holds : Nat → Int32} {S_body : Nat → Int32} {S_sort : Nat → Int32} {S_size : Nat → Int32} {S_elements : Nat → Nat → Int64} {G_grown : Nat → Int32} {sz : Nat} {res : Int32 × (Nat → Int32) × Int32}, g_run n a1 a2 a3 a4 A_traced A_began A_self A_kindOfSelf = some res → zMi l yX0_run cX0_run 9 .int (zrm d) [.ref (ρ 5), .int a1, .int a2, .int a3, .int a4] D q (WC q ρ T_price T_year T_joinEnds T_wallEnds T_cost T_doors T_joins T_walls T_oldWells T_apart L_tape L_text L_fed L_length L_read L_end L_at L_fault L_d L_p L_y L_j L_o P_away P_beside P_reach P_serves P_crowds P_servedLow P_servedHigh P_crowdedLow P_crowdedHigh P_there P_must P_can C_what C_number C_before C_after C_done C_kept A_kinds A_traced A_bodies A_began A_self A_kindOfSelf S_holds S_body S_sort S_size S_elements G_grown) sz res.1 (WC q ρ T_price T_year T_joinEnds T_wallEnds T_cost T_doors T_joins T_walls T_oldWells T_apart L_tape L_text L_fed L_length L_read L_end L_at L_fault L_d L_p L_y L_j L_o P_away P_beside P_reach P_serves P_crowds P_servedLow P_servedHigh P_crowdedLow P_crowdedHigh P_there P_must P_can C_what C_number C_before C_after C_done C_kept A_kinds res.2.1 A_bodies res.2.2 A_self A_kindOfSelf S_holds S_body S_sort S_size S_elements G_grown)
  | 0, _, _ => by intros; rename_i h; cases h
  | n + 1, d, hd => fun h => c_X0_run (dr := 1 * n) (fun h => cg_run n (Nat.le_refl _) h) (by omega) h
theorem c_t_run {d : Nat} (hd : 1 * 40 ≤ d) : ∀ {a1 : Int32} {a2 : Int32} {a3 : Int32} {a4 : Int32} {T_price : Nat → Int32} {T_year : Nat → Int32} {T_joinEnds : Nat → Int32} {T_wallEnds : Nat → Int32} {T_cost : Nat → Int32} {T_doors : Int32} {T_joins : Int32} {T_walls : Int32} {T_oldWells : Int32} {T_apart : Int32} {L_tape : Nat → Int32} {L_text : Nat → Int32} {L_fed : Int32} {L_length : Int32} {L_read : Nat} {L_end : Int32} {L_at : Int32} {L_fault : Int32} {L_d : Int32} {L_p : Int32} {L_y : Int32} {L_j : Int32} {L_o : Int32} {P_away : Nat → Nat → Int32} {P_beside : Nat → Int32} {P_reach : Nat → Int32} {P_serves : Nat → Int32} {P_crowds : Nat → Int32} {P_servedLow : Nat → Int32} {P_servedHigh : Nat → Int32} {P_crowdedLow : Nat → Int32} {P_crowdedHigh : Nat → Int32} {P_there : Int32} {P_must : Int32} {P_can : Int32} {C_what : Nat → Int32} {C_number : Nat → Int32} {C_before : Nat → Int32} {C_after : Nat → Int32} {C_done : Int32} {C_kept : Int32} {A_kinds : Nat → Int32} {A_traced : Nat → Int32} {A_bodies : Int32} {A_began : Int32} {A_self : Int32} {A_kindOfSelf : Int32} {S_holds : Nat → Int32} {S_body : Nat → Int32} {S_sort : Nat → Int32} {S_size : Nat → Int32} {S_elements : Nat → Nat → Int64} {G_grown : Nat → Int32} {sz : Nat} {res : Int32 × (Nat → Int32) × Int32}, t_run a1 a2 a3 a4 A_traced A_began A_self A_kindOfSelf = some res → zMi l yX0_run cX0_run 9 .int (zrm d) [.ref (ρ 5), .int a1, .int a2, .int a3, .int a4] D q (WC q ρ T_price T_year T_joinEnds T_wallEnds T_cost T_doors T_joins T_walls T_oldWells T_apart L_tape L_text L_fed L_length L_read L_end L_at L_fault L_d L_p L_y L_j L_o P_away P_beside P_reach P_serves P_crowds P_servedLow P_servedHigh P_crowdedLow P_crowdedHigh P_there P_must P_can C_what C_number C_before C_after C_done C_kept A_kinds A_traced A_bodies A_began A_self A_kindOfSelf S_holds S_body S_sort S_size S_elements G_grown) sz res.1 (WC q ρ T_price T_year T_joinEnds T_wallEnds T_cost T_doors T_joins T_walls T_oldWells T_apart L_tape L_text L_fed L_length L_read L_end L_at L_fault L_d L_p L_y L_j L_o P_away P_beside P_reach P_serves P_crowds P_servedLow P_servedHigh P_crowdedLow P_crowdedHigh P_there P_must P_can C_what C_number C_before C_after C_done C_kept A_kinds res.2.1 A_bodies res.2.2 A_self A_kindOfSelf S_holds S_body S_sort S_size S_elements G_grown) := fun h => cg_run 40 hd h
end CT20_c16
