section CT20_c04
variable {l : Launch} {D : va_G} {q : Nat → ClassId} {ρ : Nat → Nat} {sz : Nat} {T_price : Nat → Int32} {T_year : Nat → Int32} {T_joinEnds : Nat → Int32} {T_wallEnds : Nat → Int32} {T_cost : Nat → Int32} {T_doors : Int32} {T_joins : Int32} {T_walls : Int32} {T_oldWells : Int32} {T_apart : Int32} {L_tape : Nat → Int32} {L_text : Nat → Int32} {L_fed : Int32} {L_length : Int32} {L_read : Nat} {L_end : Int32} {L_at : Int32} {L_fault : Int32} {L_d : Int32} {L_p : Int32} {L_y : Int32} {L_j : Int32} {L_o : Int32} {P_away : Nat → Nat → Int32} {P_beside : Nat → Int32} {P_reach : Nat → Int32} {P_serves : Nat → Int32} {P_crowds : Nat → Int32} {P_servedLow : Nat → Int32} {P_servedHigh : Nat → Int32} {P_crowdedLow : Nat → Int32} {P_crowdedHigh : Nat → Int32} {P_there : Int32} {P_must : Int32} {P_can : Int32} {C_what : Nat → Int32} {C_number : Nat → Int32} {C_before : Nat → Int32} {C_after : Nat → Int32} {C_done : Int32} {C_kept : Int32} {A_kinds : Nat → Int32} {A_traced : Nat → Int32} {A_bodies : Int32} {A_began : Int32} {A_self : Int32} {A_kindOfSelf : Int32} {S_holds : Nat → Int32} {S_body : Nat → Int32} {S_sort : Nat → Int32} {S_size : Nat → Int32} {S_elements : Nat → Nat → Int64} {G_grown : Nat → Int32}
set_option maxHeartbeats 4000000 in
set_option maxRecDepth 100000 in
theorem c_X2_number_r14 {d : Nat} {res : Int32 × Int32} (hd : 1 ≤ d) (h : f_X2_number_r14 L_text L_end L_at L_fault = some res) : zMi l yX2_number cX2_number 3 .int (zrm d) [.ref (ρ 2)] D q (WC q ρ T_price T_year T_joinEnds T_wallEnds T_cost T_doors T_joins T_walls T_oldWells T_apart L_tape L_text L_fed L_length 14 L_end L_at L_fault L_d L_p L_y L_j L_o P_away P_beside P_reach P_serves P_crowds P_servedLow P_servedHigh P_crowdedLow P_crowdedHigh P_there P_must P_can C_what C_number C_before C_after C_done C_kept A_kinds A_traced A_bodies A_began A_self A_kindOfSelf S_holds S_body S_sort S_size S_elements G_grown) sz res.1 (WC q ρ T_price T_year T_joinEnds T_wallEnds T_cost T_doors T_joins T_walls T_oldWells T_apart L_tape L_text L_fed L_length 14 L_end res.2 L_fault L_d L_p L_y L_j L_o P_away P_beside P_reach P_serves P_crowds P_servedLow P_servedHigh P_crowdedLow P_crowdedHigh P_there P_must P_can C_what C_number C_before C_after C_done C_kept A_kinds A_traced A_bodies A_began A_self A_kindOfSelf S_holds S_body S_sort S_size S_elements G_grown) := by
  refine zMet_i (own := RX2) _ (by decide) rfl (Nat.le_of_ble_eq_true rfl) ?_
  intro p e s m args below meth c A ls Q hC hW hl hret
  have hx := hC.1
  have hb := hC.2.1
  have hl : lv_has ls 3 [(0, .ref (ρ 2))] := hl
  have b4 : ∀ {n : Nat} {x1 : Int32} {x2 : Int32} {L_at : Int32} {H : Heap} {locs : List Loc} {ls : Array Slot}, f_X2_number_r14_b4 L_text L_end L_fault n x1 x2 L_at = some res → zW D A s.heap (WC q ρ T_price T_year T_joinEnds T_wallEnds T_cost T_doors T_joins T_walls T_oldWells T_apart L_tape L_text L_fed L_length 14 L_end L_at L_fault L_d L_p L_y L_j L_o P_away P_beside P_reach P_serves P_crowds P_servedLow P_servedHigh P_crowdedLow P_crowdedHigh P_there P_must P_can C_what C_number C_before C_after C_done C_kept A_kinds A_traced A_bodies A_began A_self A_kindOfSelf S_holds S_body S_sort S_size S_elements G_grown) H locs → lv_has ls 3 [(0, .ref (ρ 2)), (1, .int x1), (2, .int x2)] → W p l e (zrm d) s m args below meth c H locs 0 0 Q (F0 m 4 ls []) := by
    intro n
    induction n with
    | zero =>
      intro x1 x2 L_at H locs ls h
      rw [f_X2_number_r14_b4] at h
      cases h
    | succ n ih =>
      intro x1 x2 L_at H locs ls h hW hl
      rw [f_X2_number_r14_b4] at h
      refine lv_iload_n hx hb dX2_number_4 rfl (lv_at hl 2 rfl) ?_
      refine lv_iconst (v := 4) hx hb dX2_number_5 (by decide) ?_
      refine lv_icmp_ge (tgt := 48) hx hb dX2_number_6 (by decide) (fun c1 => ?_) (fun c1 => ?_)
      · have h := ifp c1 h
        refine lv_iload_n hx hb dX2_number_48 rfl (lv_at hl 1 rfl) ?_
        have h := Option.some.inj h
        subst h
        exact hret _ _ _ _ _ dX2_number_49 rfl rfl hW
      · have h := ifn c1 h
        refine lv_aload_n hx hb dX2_number_9 rfl (lv_at hl 0 rfl) ?_
        obtain ⟨u2, eu2, h⟩ := bd_some h
        refine z_callV_i hC hW (rest := []) (c_X2_next_r14 (d := 0) (Nat.le_refl _) eu2) vw_X2_86 WC_2 rfl ⟨rfl, rfl⟩ (zrm_ok (by omega) (by decide)) rfl rfl hl.1 (Nat.le_of_ble_eq_true rfl) dX2_number_10 (fun H locs hW => ?_)
        obtain ⟨u3, eu3, h⟩ := bd_some h
        refine z_callS_i hC hW (rest := []) (c_X2_isDigit (d := 0) (Nat.le_refl _) eu3) sw_X2_104 ⟨rfl, rfl⟩ (zrm_ok (by omega) (by decide)) rfl rfl hl.1 (Nat.le_of_ble_eq_true rfl) dX2_number_13 (fun H locs hW => ?_)
        refine lv_if_eq (tgt := 48) hx hb dX2_number_16 (by decide) (fun c4 => ?_) (fun c4 => ?_)
        · have h := ifp c4 h
          refine lv_iload_n hx hb dX2_number_48 rfl (lv_at hl 1 rfl) ?_
          have h := Option.some.inj h
          subst h
          exact hret _ _ _ _ _ dX2_number_49 rfl rfl hW
        · have h := ifn c4 h
          refine lv_bipush (v := 10) hx hb dX2_number_19 (by decide) ?_
          refine lv_iload_n hx hb dX2_number_21 rfl (lv_at hl 1 rfl) ?_
          refine lv_imul hx hb dX2_number_22 ?_
          refine lv_aload_n hx hb dX2_number_23 rfl (lv_at hl 0 rfl) ?_
          obtain ⟨u5, eu5, h⟩ := bd_some h
          refine z_callV_i hC hW (rest := [.int (10 * x1)]) (c_X2_next_r14 (d := 0) (Nat.le_refl _) eu5) vw_X2_86 WC_2 rfl ⟨rfl, rfl⟩ (zrm_ok (by omega) (by decide)) rfl rfl hl.1 (Nat.le_of_ble_eq_true rfl) dX2_number_24 (fun H locs hW => ?_)
          refine lv_iadd hx hb dX2_number_27 ?_
          refine lv_bipush (v := 48) hx hb dX2_number_28 (by decide) ?_
          refine lv_isub hx hb dX2_number_30 ?_
          refine lv_istore_n (lv' := [(1, .int (((10 * x1) + u5) - 48)), (0, .ref (ρ 2)), (2, .int x2)]) hx hb dX2_number_31 rfl hl (by decide) rfl (fun ls hl => ?_)
          refine lv_aload_n hx hb dX2_number_32 rfl (lv_at hl 1 rfl) ?_
          refine lv_dup hx hb dX2_number_33 rfl ?_
          refine z_get hC hW fg_X2_80 2 WC_2 rfl dX2_number_34 ?_
          refine lv_iconst (v := 1) hx hb dX2_number_37 (by decide) ?_
          refine lv_iadd hx hb dX2_number_38 ?_
          refine z_put hC hW fp_X2_80 2 WC_2 (Nat.le_of_ble_eq_true rfl) rfl rfl WCs_L_at dX2_number_39 (fun H locs hW => ?_)
          refine lv_iinc (v := (x2 + 1)) (lv' := [(2, .int (x2 + 1)), (1, .int (((10 * x1) + u5) - 48)), (0, .ref (ρ 2))]) hx hb dX2_number_42 hl (k := 2) rfl rfl (by decide) rfl (fun ls hl => ?_)
          refine lv_goto (tgt := 4) hx hb dX2_number_45 (by decide) ?_
          exact ih h hW (lv_sub hl [2, 1, 0] rfl)
  unfold f_X2_number_r14 at h
  refine lv_iconst (v := 0) hx hb dX2_number_0 (by decide) ?_
  refine lv_istore_n (lv' := [(1, .int 0), (0, .ref (ρ 2))]) hx hb dX2_number_1 rfl hl (by decide) rfl (fun ls hl => ?_)
  refine lv_iconst (v := 0) hx hb dX2_number_2 (by decide) ?_
  refine lv_istore_n (lv' := [(2, .int 0), (1, .int 0), (0, .ref (ρ 2))]) hx hb dX2_number_3 rfl hl (by decide) rfl (fun ls hl => ?_)
  exact b4 h hW (lv_sub hl [2, 1, 0] rfl)
set_option maxHeartbeats 4000000 in
set_option maxRecDepth 100000 in
theorem c_X2_operand_r14 {a1 : Int32} {ro : Int32 → (Nat → Int32) → Int32 → Int32 → Int32 → Int32 → Int32 → Int32 → Int32 → Int32 → Option (Int32 × Int32 × Int32)} {rr : Int32 → Int32 → (Nat → Int32) → Int32 → Int32 → Int32 → Int32 → Int32 → Int32 → Int32 → Int32 → Option (Int32 × Int32 × Int32)} {dr : Nat} {d : Nat} {res : Int32 × Int32 × Int32} (hro : ∀ {a1 : Int32} {T_price : Nat → Int32} {T_year : Nat → Int32} {T_joinEnds : Nat → Int32} {T_wallEnds : Nat → Int32} {T_cost : Nat → Int32} {T_doors : Int32} {T_joins : Int32} {T_walls : Int32} {T_oldWells : Int32} {T_apart : Int32} {L_tape : Nat → Int32} {L_text : Nat → Int32} {L_fed : Int32} {L_length : Int32} {L_end : Int32} {L_at : Int32} {L_fault : Int32} {L_d : Int32} {L_p : Int32} {L_y : Int32} {L_j : Int32} {L_o : Int32} {P_away : Nat → Nat → Int32} {P_beside : Nat → Int32} {P_reach : Nat → Int32} {P_serves : Nat → Int32} {P_crowds : Nat → Int32} {P_servedLow : Nat → Int32} {P_servedHigh : Nat → Int32} {P_crowdedLow : Nat → Int32} {P_crowdedHigh : Nat → Int32} {P_there : Int32} {P_must : Int32} {P_can : Int32} {C_what : Nat → Int32} {C_number : Nat → Int32} {C_before : Nat → Int32} {C_after : Nat → Int32} {C_done : Int32} {C_kept : Int32} {A_kinds : Nat → Int32} {A_traced : Nat → Int32} {A_bodies : Int32} {A_began : Int32} {A_self : Int32} {A_kindOfSelf : Int32} {S_holds : Nat → Int32} {S_body : Nat → Int32} {S_sort : Nat → Int32} {S_size : Nat → Int32} {S_elements : Nat → Nat → Int64} {G_grown : Nat → Int32} {sz : Nat} {res : Int32 × Int32 × Int32}, ro a1 L_text L_end L_at L_fault L_d L_p L_y L_j L_o = some res → zMi l yX2_operand cX2_operand 4 .int (zrm dr) [.ref (ρ 2), .int a1] D q (WC q ρ T_price T_year T_joinEnds T_wallEnds T_cost T_doors T_joins T_walls T_oldWells T_apart L_tape L_text L_fed L_length 14 L_end L_at L_fault L_d L_p L_y L_j L_o P_away P_beside P_reach P_serves P_crowds P_servedLow P_servedHigh P_crowdedLow P_crowdedHigh P_there P_must P_can C_what C_number C_before C_after C_done C_kept A_kinds A_traced A_bodies A_began A_self A_kindOfSelf S_holds S_body S_sort S_size S_elements G_grown) sz res.1 (WC q ρ T_price T_year T_joinEnds T_wallEnds T_cost T_doors T_joins T_walls T_oldWells T_apart L_tape L_text L_fed L_length 14 L_end res.2.1 res.2.2 L_d L_p L_y L_j L_o P_away P_beside P_reach P_serves P_crowds P_servedLow P_servedHigh P_crowdedLow P_crowdedHigh P_there P_must P_can C_what C_number C_before C_after C_done C_kept A_kinds A_traced A_bodies A_began A_self A_kindOfSelf S_holds S_body S_sort S_size S_elements G_grown)) (hrr : ∀ {a1 : Int32} {a2 : Int32} {T_price : Nat → Int32} {T_year : Nat → Int32} {T_joinEnds : Nat → Int32} {T_wallEnds : Nat → Int32} {T_cost : Nat → Int32} {T_doors : Int32} {T_joins : Int32} {T_walls : Int32} {T_oldWells : Int32} {T_apart : Int32} {L_tape : Nat → Int32} {L_text : Nat → Int32} {L_fed : Int32} {L_length : Int32} {L_end : Int32} {L_at : Int32} {L_fault : Int32} {L_d : Int32} {L_p : Int32} {L_y : Int32} {L_j : Int32} {L_o : Int32} {P_away : Nat → Nat → Int32} {P_beside : Nat → Int32} {P_reach : Nat → Int32} {P_serves : Nat → Int32} {P_crowds : Nat → Int32} {P_servedLow : Nat → Int32} {P_servedHigh : Nat → Int32} {P_crowdedLow : Nat → Int32} {P_crowdedHigh : Nat → Int32} {P_there : Int32} {P_must : Int32} {P_can : Int32} {C_what : Nat → Int32} {C_number : Nat → Int32} {C_before : Nat → Int32} {C_after : Nat → Int32} {C_done : Int32} {C_kept : Int32} {A_kinds : Nat → Int32} {A_traced : Nat → Int32} {A_bodies : Int32} {A_began : Int32} {A_self : Int32} {A_kindOfSelf : Int32} {S_holds : Nat → Int32} {S_body : Nat → Int32} {S_sort : Nat → Int32} {S_size : Nat → Int32} {S_elements : Nat → Nat → Int64} {G_grown : Nat → Int32} {sz : Nat} {res : Int32 × Int32 × Int32}, rr a1 a2 L_text L_end L_at L_fault L_d L_p L_y L_j L_o = some res → zMi l yX2_ranked cX2_ranked 7 .int (zrm dr) [.ref (ρ 2), .int a1, .int a2] D q (WC q ρ T_price T_year T_joinEnds T_wallEnds T_cost T_doors T_joins T_walls T_oldWells T_apart L_tape L_text L_fed L_length 14 L_end L_at L_fault L_d L_p L_y L_j L_o P_away P_beside P_reach P_serves P_crowds P_servedLow P_servedHigh P_crowdedLow P_crowdedHigh P_there P_must P_can C_what C_number C_before C_after C_done C_kept A_kinds A_traced A_bodies A_began A_self A_kindOfSelf S_holds S_body S_sort S_size S_elements G_grown) sz res.1 (WC q ρ T_price T_year T_joinEnds T_wallEnds T_cost T_doors T_joins T_walls T_oldWells T_apart L_tape L_text L_fed L_length 14 L_end res.2.1 res.2.2 L_d L_p L_y L_j L_o P_away P_beside P_reach P_serves P_crowds P_servedLow P_servedHigh P_crowdedLow P_crowdedHigh P_there P_must P_can C_what C_number C_before C_after C_done C_kept A_kinds A_traced A_bodies A_began A_self A_kindOfSelf S_holds S_body S_sort S_size S_elements G_grown)) (hd : dr + 2 ≤ d) (h : f_X2_operand_r14 ro rr a1 L_text L_end L_at L_fault L_d L_p L_y L_j L_o = some res) : zMi l yX2_operand cX2_operand 4 .int (zrm d) [.ref (ρ 2), .int a1] D q (WC q ρ T_price T_year T_joinEnds T_wallEnds T_cost T_doors T_joins T_walls T_oldWells T_apart L_tape L_text L_fed L_length 14 L_end L_at L_fault L_d L_p L_y L_j L_o P_away P_beside P_reach P_serves P_crowds P_servedLow P_servedHigh P_crowdedLow P_crowdedHigh P_there P_must P_can C_what C_number C_before C_after C_done C_kept A_kinds A_traced A_bodies A_began A_self A_kindOfSelf S_holds S_body S_sort S_size S_elements G_grown) sz res.1 (WC q ρ T_price T_year T_joinEnds T_wallEnds T_cost T_doors T_joins T_walls T_oldWells T_apart L_tape L_text L_fed L_length 14 L_end res.2.1 res.2.2 L_d L_p L_y L_j L_o P_away P_beside P_reach P_serves P_crowds P_servedLow P_servedHigh P_crowdedLow P_crowdedHigh P_there P_must P_can C_what C_number C_before C_after C_done C_kept A_kinds A_traced A_bodies A_began A_self A_kindOfSelf S_holds S_body S_sort S_size S_elements G_grown) := by
  refine zMet_i (own := RX2) _ (by decide) rfl (Nat.le_of_ble_eq_true rfl) ?_
  intro p e s m args below meth c A ls Q hC hW hl hret
  have hx := hC.1
  have hb := hC.2.1
  have hl : lv_has ls 4 [(0, .ref (ρ 2)), (1, .int a1)] := hl
  have b41 : ∀ {x1 : Int32} {x2 : Int32} {L_at : Int32} {L_fault : Int32} {H : Heap} {locs : List Loc} {ls : Array Slot}, f_X2_operand_r14_b41 ro rr x1 x2 L_text L_end L_at L_fault L_d L_p L_y L_j L_o = some res → zW D A s.heap (WC q ρ T_price T_year T_joinEnds T_wallEnds T_cost T_doors T_joins T_walls T_oldWells T_apart L_tape L_text L_fed L_length 14 L_end L_at L_fault L_d L_p L_y L_j L_o P_away P_beside P_reach P_serves P_crowds P_servedLow P_servedHigh P_crowdedLow P_crowdedHigh P_there P_must P_can C_what C_number C_before C_after C_done C_kept A_kinds A_traced A_bodies A_began A_self A_kindOfSelf S_holds S_body S_sort S_size S_elements G_grown) H locs → lv_has ls 4 [(0, .ref (ρ 2)), (1, .int x1), (2, .int x2)] → W p l e (zrm d) s m args below meth c H locs 0 0 Q (F0 m 41 ls []) := by
    intro x1 x2 L_at L_fault H locs ls h hW hl
    unfold f_X2_operand_r14_b41 at h
    refine lv_iload_n hx hb dX2_operand_41 rfl (lv_at hl 1 rfl) ?_
    refine lv_bipush (v := 6) hx hb dX2_operand_42 (by decide) ?_
    refine lv_icmp_lt (tgt := 52) hx hb dX2_operand_44 (by decide) (fun c5 => ?_) (fun c5 => ?_)
    · have h := ifp c5 h
      refine lv_aload_n hx hb dX2_operand_52 rfl (lv_at hl 0 rfl) ?_
      refine lv_dup hx hb dX2_operand_53 rfl ?_
      refine z_get hC hW fg_X2_80 2 WC_2 rfl dX2_operand_54 ?_
      refine lv_iconst (v := 1) hx hb dX2_operand_57 (by decide) ?_
      refine lv_iadd hx hb dX2_operand_58 ?_
      refine z_put hC hW fp_X2_80 2 WC_2 (Nat.le_of_ble_eq_true rfl) rfl rfl WCs_L_at dX2_operand_59 (fun H locs hW => ?_)
      refine lv_iload_n hx hb dX2_operand_62 rfl (lv_at hl 2 rfl) ?_
      refine lv_bipush (v := 40) hx hb dX2_operand_63 (by decide) ?_
      refine lv_icmp_eq (tgt := 97) hx hb dX2_operand_65 (by decide) (fun c6 => ?_) (fun c6 => ?_)
      · have h := ifp c6 h
        refine lv_aload_n hx hb dX2_operand_97 rfl (lv_at hl 0 rfl) ?_
        refine lv_iconst (v := 0) hx hb dX2_operand_98 (by decide) ?_
        refine lv_iload_n hx hb dX2_operand_99 rfl (lv_at hl 1 rfl) ?_
        refine lv_iconst (v := 1) hx hb dX2_operand_100 (by decide) ?_
        refine lv_iadd hx hb dX2_operand_101 ?_
        obtain ⟨u7, eu7, h⟩ := bd_some h
        refine z_callV_i hC hW (rest := []) (hrr eu7) vw_X2_83 WC_2 rfl ⟨rfl, rfl⟩ (zrm_ok (by omega) (by decide)) rfl rfl hl.1 (Nat.le_of_ble_eq_true rfl) dX2_operand_102 (fun H locs hW => ?_)
        refine lv_istore_n (lv' := [(3, .int u7.1), (0, .ref (ρ 2)), (1, .int x1), (2, .int x2)]) hx hb dX2_operand_105 rfl hl (by decide) rfl (fun ls hl => ?_)
        refine lv_aload_n hx hb dX2_operand_106 rfl (lv_at hl 1 rfl) ?_
        obtain ⟨u8, eu8, h⟩ := bd_some h
        refine z_callV_i hC hW (rest := []) (c_X2_next_r14 (d := 0) (Nat.le_refl _) eu8) vw_X2_86 WC_2 rfl ⟨rfl, rfl⟩ (zrm_ok (by omega) (by decide)) rfl rfl hl.1 (Nat.le_of_ble_eq_true rfl) dX2_operand_107 (fun H locs hW => ?_)
        refine lv_bipush (v := 41) hx hb dX2_operand_110 (by decide) ?_
        refine lv_icmp_eq (tgt := 120) hx hb dX2_operand_112 (by decide) (fun c9 => ?_) (fun c9 => ?_)
        · have h := ifp c9 h
          refine lv_aload_n hx hb dX2_operand_120 rfl (lv_at hl 1 rfl) ?_
          refine lv_dup hx hb dX2_operand_121 rfl ?_
          refine z_get hC hW fg_X2_80 2 WC_2 rfl dX2_operand_122 ?_
          refine lv_iconst (v := 1) hx hb dX2_operand_125 (by decide) ?_
          refine lv_iadd hx hb dX2_operand_126 ?_
          refine z_put hC hW fp_X2_80 2 WC_2 (Nat.le_of_ble_eq_true rfl) rfl rfl WCs_L_at dX2_operand_127 (fun H locs hW => ?_)
          refine lv_iload_n hx hb dX2_operand_130 rfl (lv_at hl 0 rfl) ?_
          have h := Option.some.inj h
          subst h
          exact hret _ _ _ _ _ dX2_operand_131 rfl rfl hW
        · have h := ifn c9 h
          refine lv_aload_n hx hb dX2_operand_115 rfl (lv_at hl 1 rfl) ?_
          obtain ⟨u10, eu10, h⟩ := bd_some h
          refine z_callV_i hC hW (rest := []) (c_X2_broken (d := 0) (Nat.le_refl _) eu10) vw_X2_90 WC_2 rfl ⟨rfl, rfl⟩ (zrm_ok (by omega) (by decide)) rfl rfl hl.1 (Nat.le_of_ble_eq_true rfl) dX2_operand_116 (fun H locs hW => ?_)
          have h := Option.some.inj h
          subst h
          exact hret _ _ _ _ _ dX2_operand_119 rfl rfl hW
      · have h := ifn c6 h
        refine lv_aload_n hx hb dX2_operand_68 rfl (lv_at hl 0 rfl) ?_
        refine lv_iload_n hx hb dX2_operand_69 rfl (lv_at hl 1 rfl) ?_
        refine lv_iconst (v := 1) hx hb dX2_operand_70 (by decide) ?_
        refine lv_iadd hx hb dX2_operand_71 ?_
        obtain ⟨u11, eu11, h⟩ := bd_some h
        refine z_callV_i hC hW (rest := []) (hro eu11) vw_X2_93 WC_2 rfl ⟨rfl, rfl⟩ (zrm_ok (by omega) (by decide)) rfl rfl hl.1 (Nat.le_of_ble_eq_true rfl) dX2_operand_72 (fun H locs hW => ?_)
        refine lv_istore_n (lv' := [(3, .int u11.1), (0, .ref (ρ 2)), (1, .int x1), (2, .int x2)]) hx hb dX2_operand_75 rfl hl (by decide) rfl (fun ls hl => ?_)
        refine lv_iload_n hx hb dX2_operand_76 rfl (lv_at hl 3 rfl) ?_
        refine lv_bipush (v := 45) hx hb dX2_operand_77 (by decide) ?_
        refine lv_icmp_ne (tgt := 87) hx hb dX2_operand_79 (by decide) (fun c12 => ?_) (fun c12 => ?_)
        · have h := ifn c12 h
          refine lv_iload_n hx hb dX2_operand_87 rfl (lv_at hl 0 rfl) ?_
          refine lv_if_ne (tgt := 95) hx hb dX2_operand_88 (by decide) (fun c13 => ?_) (fun c13 => ?_)
          · have h := ifn c13 h
            refine lv_iconst (v := 0) hx hb dX2_operand_95 (by decide) ?_
            have h := Option.some.inj h
            subst h
            exact hret _ _ _ _ _ dX2_operand_96 rfl rfl hW
          · have h := ifp c13 h
            refine lv_iconst (v := 1) hx hb dX2_operand_91 (by decide) ?_
            refine lv_goto (tgt := 96) hx hb dX2_operand_92 (by decide) ?_
            have h := Option.some.inj h
            subst h
            exact hret _ _ _ _ _ dX2_operand_96 rfl rfl hW
        · have h := ifp c12 h
          refine lv_iload_n hx hb dX2_operand_82 rfl (lv_at hl 0 rfl) ?_
          refine lv_ineg hx hb dX2_operand_83 ?_
          refine lv_goto (tgt := 96) hx hb dX2_operand_84 (by decide) ?_
          have h := Option.some.inj h
          subst h
          exact hret _ _ _ _ _ dX2_operand_96 rfl rfl hW
    · have h := ifn c5 h
      refine lv_aload_n hx hb dX2_operand_47 rfl (lv_at hl 0 rfl) ?_
      obtain ⟨u14, eu14, h⟩ := bd_some h
      refine z_callV_i hC hW (rest := []) (c_X2_broken (d := 0) (Nat.le_refl _) eu14) vw_X2_90 WC_2 rfl ⟨rfl, rfl⟩ (zrm_ok (by omega) (by decide)) rfl rfl hl.1 (Nat.le_of_ble_eq_true rfl) dX2_operand_48 (fun H locs hW => ?_)
      have h := Option.some.inj h
      subst h
      exact hret _ _ _ _ _ dX2_operand_51 rfl rfl hW
  unfold f_X2_operand_r14 at h
  refine lv_aload_n hx hb dX2_operand_0 rfl (lv_at hl 0 rfl) ?_
  obtain ⟨u1, eu1, h⟩ := bd_some h
  refine z_callV_i hC hW (rest := []) (c_X2_next_r14 (d := 0) (Nat.le_refl _) eu1) vw_X2_86 WC_2 rfl ⟨rfl, rfl⟩ (zrm_ok (by omega) (by decide)) rfl rfl hl.1 (Nat.le_of_ble_eq_true rfl) dX2_operand_1 (fun H locs hW => ?_)
  refine lv_istore_n (lv' := [(2, .int u1), (0, .ref (ρ 2)), (1, .int a1)]) hx hb dX2_operand_4 rfl hl (by decide) rfl (fun ls hl => ?_)
  refine lv_iload_n hx hb dX2_operand_5 rfl (lv_at hl 0 rfl) ?_
  obtain ⟨u2, eu2, h⟩ := bd_some h
  refine z_callS_i hC hW (rest := []) (c_X2_isDigit (d := 0) (Nat.le_refl _) eu2) sw_X2_104 ⟨rfl, rfl⟩ (zrm_ok (by omega) (by decide)) rfl rfl hl.1 (Nat.le_of_ble_eq_true rfl) dX2_operand_6 (fun H locs hW => ?_)
  refine lv_if_eq (tgt := 17) hx hb dX2_operand_9 (by decide) (fun c3 => ?_) (fun c3 => ?_)
  · have h := ifp c3 h
    refine lv_iload_n hx hb dX2_operand_17 rfl (lv_at hl 0 rfl) ?_
    refine lv_bipush (v := 40) hx hb dX2_operand_18 (by decide) ?_
    refine lv_icmp_eq (tgt := 41) hx hb dX2_operand_20 (by decide) (fun c4 => ?_) (fun c4 => ?_)
    · have h := ifp c4 h
      exact b41 h hW (lv_sub hl [1, 2, 0] rfl)
    · have h := ifn c4 h
      refine lv_iload_n hx hb dX2_operand_23 rfl (lv_at hl 0 rfl) ?_
      refine lv_bipush (v := 33) hx hb dX2_operand_24 (by decide) ?_
      refine lv_icmp_eq (tgt := 41) hx hb dX2_operand_26 (by decide) (fun c15 => ?_) (fun c15 => ?_)
      · have h := ifp c15 h
        exact b41 h hW (lv_sub hl [1, 2, 0] rfl)
      · have h := ifn c15 h
        refine lv_iload_n hx hb dX2_operand_29 rfl (lv_at hl 0 rfl) ?_
        refine lv_bipush (v := 45) hx hb dX2_operand_30 (by decide) ?_
        refine lv_icmp_eq (tgt := 41) hx hb dX2_operand_32 (by decide) (fun c16 => ?_) (fun c16 => ?_)
        · have h := ifp c16 h
          exact b41 h hW (lv_sub hl [1, 2, 0] rfl)
        · have h := ifn c16 h
          refine lv_aload_n hx hb dX2_operand_35 rfl (lv_at hl 1 rfl) ?_
          refine lv_iload_n hx hb dX2_operand_36 rfl (lv_at hl 0 rfl) ?_
          obtain ⟨u17, eu17, h⟩ := bd_some h
          refine z_callV_i hC hW (rest := []) (c_X2_named (d := 1) (Nat.le_refl _) eu17) vw_X2_111 WC_2 rfl ⟨rfl, rfl⟩ (zrm_ok (by omega) (by decide)) rfl rfl hl.1 (Nat.le_of_ble_eq_true rfl) dX2_operand_37 (fun H locs hW => ?_)
          have h := Option.some.inj h
          subst h
          exact hret _ _ _ _ _ dX2_operand_40 rfl rfl hW
  · have h := ifn c3 h
    refine lv_aload_n hx hb dX2_operand_12 rfl (lv_at hl 1 rfl) ?_
    obtain ⟨u18, eu18, h⟩ := bd_some h
    refine z_callV_i hC hW (rest := []) (c_X2_number_r14 (d := 1) (Nat.le_refl _) eu18) vw_X2_108 WC_2 rfl ⟨rfl, rfl⟩ (zrm_ok (by omega) (by decide)) rfl rfl hl.1 (Nat.le_of_ble_eq_true rfl) dX2_operand_13 (fun H locs hW => ?_)
    have h := Option.some.inj h
    subst h
    exact hret _ _ _ _ _ dX2_operand_16 rfl rfl hW
set_option maxHeartbeats 4000000 in
set_option maxRecDepth 100000 in
theorem c_X2_ranked_r14 {a1 : Int32} {a2 : Int32} {rr : Int32 → Int32 → (Nat → Int32) → Int32 → Int32 → Int32 → Int32 → Int32 → Int32 → Int32 → Int32 → Option (Int32 × Int32 × Int32)} {ro : Int32 → (Nat → Int32) → Int32 → Int32 → Int32 → Int32 → Int32 → Int32 → Int32 → Int32 → Option (Int32 × Int32 × Int32)} {dr : Nat} {d : Nat} {res : Int32 × Int32 × Int32} (hrr : ∀ {a1 : Int32} {a2 : Int32} {T_price : Nat → Int32} {T_year : Nat → Int32} {T_joinEnds : Nat → Int32} {T_wallEnds : Nat → Int32} {T_cost : Nat → Int32} {T_doors : Int32} {T_joins : Int32} {T_walls : Int32} {T_oldWells : Int32} {T_apart : Int32} {L_tape : Nat → Int32} {L_text : Nat → Int32} {L_fed : Int32} {L_length : Int32} {L_end : Int32} {L_at : Int32} {L_fault : Int32} {L_d : Int32} {L_p : Int32} {L_y : Int32} {L_j : Int32} {L_o : Int32} {P_away : Nat → Nat → Int32} {P_beside : Nat → Int32} {P_reach : Nat → Int32} {P_serves : Nat → Int32} {P_crowds : Nat → Int32} {P_servedLow : Nat → Int32} {P_servedHigh : Nat → Int32} {P_crowdedLow : Nat → Int32} {P_crowdedHigh : Nat → Int32} {P_there : Int32} {P_must : Int32} {P_can : Int32} {C_what : Nat → Int32} {C_number : Nat → Int32} {C_before : Nat → Int32} {C_after : Nat → Int32} {C_done : Int32} {C_kept : Int32} {A_kinds : Nat → Int32} {A_traced : Nat → Int32} {A_bodies : Int32} {A_began : Int32} {A_self : Int32} {A_kindOfSelf : Int32} {S_holds : Nat → Int32} {S_body : Nat → Int32} {S_sort : Nat → Int32} {S_size : Nat → Int32} {S_elements : Nat → Nat → Int64} {G_grown : Nat → Int32} {sz : Nat} {res : Int32 × Int32 × Int32}, rr a1 a2 L_text L_end L_at L_fault L_d L_p L_y L_j L_o = some res → zMi l yX2_ranked cX2_ranked 7 .int (zrm dr) [.ref (ρ 2), .int a1, .int a2] D q (WC q ρ T_price T_year T_joinEnds T_wallEnds T_cost T_doors T_joins T_walls T_oldWells T_apart L_tape L_text L_fed L_length 14 L_end L_at L_fault L_d L_p L_y L_j L_o P_away P_beside P_reach P_serves P_crowds P_servedLow P_servedHigh P_crowdedLow P_crowdedHigh P_there P_must P_can C_what C_number C_before C_after C_done C_kept A_kinds A_traced A_bodies A_began A_self A_kindOfSelf S_holds S_body S_sort S_size S_elements G_grown) sz res.1 (WC q ρ T_price T_year T_joinEnds T_wallEnds T_cost T_doors T_joins T_walls T_oldWells T_apart L_tape L_text L_fed L_length 14 L_end res.2.1 res.2.2 L_d L_p L_y L_j L_o P_away P_beside P_reach P_serves P_crowds P_servedLow P_servedHigh P_crowdedLow P_crowdedHigh P_there P_must P_can C_what C_number C_before C_after C_done C_kept A_kinds A_traced A_bodies A_began A_self A_kindOfSelf S_holds S_body S_sort S_size S_elements G_grown)) (hro : ∀ {a1 : Int32} {T_price : Nat → Int32} {T_year : Nat → Int32} {T_joinEnds : Nat → Int32} {T_wallEnds : Nat → Int32} {T_cost : Nat → Int32} {T_doors : Int32} {T_joins : Int32} {T_walls : Int32} {T_oldWells : Int32} {T_apart : Int32} {L_tape : Nat → Int32} {L_text : Nat → Int32} {L_fed : Int32} {L_length : Int32} {L_end : Int32} {L_at : Int32} {L_fault : Int32} {L_d : Int32} {L_p : Int32} {L_y : Int32} {L_j : Int32} {L_o : Int32} {P_away : Nat → Nat → Int32} {P_beside : Nat → Int32} {P_reach : Nat → Int32} {P_serves : Nat → Int32} {P_crowds : Nat → Int32} {P_servedLow : Nat → Int32} {P_servedHigh : Nat → Int32} {P_crowdedLow : Nat → Int32} {P_crowdedHigh : Nat → Int32} {P_there : Int32} {P_must : Int32} {P_can : Int32} {C_what : Nat → Int32} {C_number : Nat → Int32} {C_before : Nat → Int32} {C_after : Nat → Int32} {C_done : Int32} {C_kept : Int32} {A_kinds : Nat → Int32} {A_traced : Nat → Int32} {A_bodies : Int32} {A_began : Int32} {A_self : Int32} {A_kindOfSelf : Int32} {S_holds : Nat → Int32} {S_body : Nat → Int32} {S_sort : Nat → Int32} {S_size : Nat → Int32} {S_elements : Nat → Nat → Int64} {G_grown : Nat → Int32} {sz : Nat} {res : Int32 × Int32 × Int32}, ro a1 L_text L_end L_at L_fault L_d L_p L_y L_j L_o = some res → zMi l yX2_operand cX2_operand 4 .int (zrm dr) [.ref (ρ 2), .int a1] D q (WC q ρ T_price T_year T_joinEnds T_wallEnds T_cost T_doors T_joins T_walls T_oldWells T_apart L_tape L_text L_fed L_length 14 L_end L_at L_fault L_d L_p L_y L_j L_o P_away P_beside P_reach P_serves P_crowds P_servedLow P_servedHigh P_crowdedLow P_crowdedHigh P_there P_must P_can C_what C_number C_before C_after C_done C_kept A_kinds A_traced A_bodies A_began A_self A_kindOfSelf S_holds S_body S_sort S_size S_elements G_grown) sz res.1 (WC q ρ T_price T_year T_joinEnds T_wallEnds T_cost T_doors T_joins T_walls T_oldWells T_apart L_tape L_text L_fed L_length 14 L_end res.2.1 res.2.2 L_d L_p L_y L_j L_o P_away P_beside P_reach P_serves P_crowds P_servedLow P_servedHigh P_crowdedLow P_crowdedHigh P_there P_must P_can C_what C_number C_before C_after C_done C_kept A_kinds A_traced A_bodies A_began A_self A_kindOfSelf S_holds S_body S_sort S_size S_elements G_grown)) (hd : dr + 1 ≤ d) (h : f_X2_ranked_r14 rr ro a1 a2 L_text L_end L_at L_fault L_d L_p L_y L_j L_o = some res) : zMi l yX2_ranked cX2_ranked 7 .int (zrm d) [.ref (ρ 2), .int a1, .int a2] D q (WC q ρ T_price T_year T_joinEnds T_wallEnds T_cost T_doors T_joins T_walls T_oldWells T_apart L_tape L_text L_fed L_length 14 L_end L_at L_fault L_d L_p L_y L_j L_o P_away P_beside P_reach P_serves P_crowds P_servedLow P_servedHigh P_crowdedLow P_crowdedHigh P_there P_must P_can C_what C_number C_before C_after C_done C_kept A_kinds A_traced A_bodies A_began A_self A_kindOfSelf S_holds S_body S_sort S_size S_elements G_grown) sz res.1 (WC q ρ T_price T_year T_joinEnds T_wallEnds T_cost T_doors T_joins T_walls T_oldWells T_apart L_tape L_text L_fed L_length 14 L_end res.2.1 res.2.2 L_d L_p L_y L_j L_o P_away P_beside P_reach P_serves P_crowds P_servedLow P_servedHigh P_crowdedLow P_crowdedHigh P_there P_must P_can C_what C_number C_before C_after C_done C_kept A_kinds A_traced A_bodies A_began A_self A_kindOfSelf S_holds S_body S_sort S_size S_elements G_grown) := by
  refine zMet_i (own := RX2) _ (by decide) rfl (Nat.le_of_ble_eq_true rfl) ?_
  intro p e s m args below meth c A ls Q hC hW hl hret
  have hx := hC.1
  have hb := hC.2.1
  have hl : lv_has ls 7 [(0, .ref (ρ 2)), (1, .int a1), (2, .int a2)] := hl
  have b36 : ∀ {x1 : Int32} {x2 : Int32} {x4 : Int32} {n : Nat} {x3 : Int32} {x5 : Int32} {L_at : Int32} {L_fault : Int32} {H : Heap} {locs : List Loc} {ls : Array Slot}, f_X2_ranked_r14_b36 rr ro x1 x2 x4 L_text L_end L_d L_p L_y L_j L_o n x3 x5 L_at L_fault = some res → zW D A s.heap (WC q ρ T_price T_year T_joinEnds T_wallEnds T_cost T_doors T_joins T_walls T_oldWells T_apart L_tape L_text L_fed L_length 14 L_end L_at L_fault L_d L_p L_y L_j L_o P_away P_beside P_reach P_serves P_crowds P_servedLow P_servedHigh P_crowdedLow P_crowdedHigh P_there P_must P_can C_what C_number C_before C_after C_done C_kept A_kinds A_traced A_bodies A_began A_self A_kindOfSelf S_holds S_body S_sort S_size S_elements G_grown) H locs → lv_has ls 7 [(0, .ref (ρ 2)), (1, .int x1), (2, .int x2), (3, .int x3), (4, .int x4), (5, .int x5)] → W p l e (zrm d) s m args below meth c H locs 0 0 Q (F0 m 36 ls []) := by
    intro x1 x2 x4
    intro n
    induction n with
    | zero =>
      intro x3 x5 L_at L_fault H locs ls h
      rw [f_X2_ranked_r14_b36] at h
      cases h
    | succ n ih =>
      intro x3 x5 L_at L_fault H locs ls h hW hl
      rw [f_X2_ranked_r14_b36] at h
      refine lv_iload hx hb dX2_ranked_36 (lv_at hl 5 rfl) ?_
      refine lv_iload hx hb dX2_ranked_38 (lv_at hl 4 rfl) ?_
      refine lv_icmp_ge (tgt := 91) hx hb dX2_ranked_40 (by decide) (fun c4 => ?_) (fun c4 => ?_)
      · have h := ifp c4 h
        refine lv_iload_n hx hb dX2_ranked_91 rfl (lv_at hl 3 rfl) ?_
        have h := Option.some.inj h
        subst h
        exact hret _ _ _ _ _ dX2_ranked_92 rfl rfl hW
      · have h := ifn c4 h
        refine lv_aload_n hx hb dX2_ranked_43 rfl (lv_at hl 0 rfl) ?_
        obtain ⟨u5, eu5, h⟩ := bd_some h
        refine z_callV_i hC hW (rest := []) (c_X2_next_r14 (d := 0) (Nat.le_refl _) eu5) vw_X2_86 WC_2 rfl ⟨rfl, rfl⟩ (zrm_ok (by omega) (by decide)) rfl rfl hl.1 (Nat.le_of_ble_eq_true rfl) dX2_ranked_44 (fun H locs hW => ?_)
        obtain ⟨u6, eu6, h⟩ := bd_some h
        refine z_callS_i hC hW (rest := []) (c_X2_rankOf (d := 0) (Nat.le_refl _) eu6) sw_X2_97 ⟨rfl, rfl⟩ (zrm_ok (by omega) (by decide)) rfl rfl hl.1 (Nat.le_of_ble_eq_true rfl) dX2_ranked_47 (fun H locs hW => ?_)
        refine lv_iload_n hx hb dX2_ranked_50 rfl (lv_at hl 1 rfl) ?_
        refine lv_icmp_ne (tgt := 91) hx hb dX2_ranked_51 (by decide) (fun c7 => ?_) (fun c7 => ?_)
        · have h := ifn c7 h
          refine lv_iload_n hx hb dX2_ranked_91 rfl (lv_at hl 3 rfl) ?_
          have h := Option.some.inj h
          subst h
          exact hret _ _ _ _ _ dX2_ranked_92 rfl rfl hW
        · have h := ifp c7 h
          refine lv_aload_n hx hb dX2_ranked_54 rfl (lv_at hl 0 rfl) ?_
          obtain ⟨u8, eu8, h⟩ := bd_some h
          refine z_callV_i hC hW (rest := []) (c_X2_next_r14 (d := 0) (Nat.le_refl _) eu8) vw_X2_86 WC_2 rfl ⟨rfl, rfl⟩ (zrm_ok (by omega) (by decide)) rfl rfl hl.1 (Nat.le_of_ble_eq_true rfl) dX2_ranked_55 (fun H locs hW => ?_)
          refine lv_istore (lv' := [(6, .int u8), (0, .ref (ρ 2)), (1, .int x1), (2, .int x2), (3, .int x3), (4, .int x4), (5, .int x5)]) hx hb dX2_ranked_58 hl (by decide) rfl (fun ls hl => ?_)
          refine lv_aload_n hx hb dX2_ranked_60 rfl (lv_at hl 1 rfl) ?_
          refine lv_dup hx hb dX2_ranked_61 rfl ?_
          refine z_get hC hW fg_X2_80 2 WC_2 rfl dX2_ranked_62 ?_
          refine lv_iconst (v := 1) hx hb dX2_ranked_65 (by decide) ?_
          refine lv_iadd hx hb dX2_ranked_66 ?_
          refine z_put hC hW fp_X2_80 2 WC_2 (Nat.le_of_ble_eq_true rfl) rfl rfl WCs_L_at dX2_ranked_67 (fun H locs hW => ?_)
          refine lv_iload hx hb dX2_ranked_70 (lv_at hl 0 rfl) ?_
          refine lv_iload_n hx hb dX2_ranked_72 rfl (lv_at hl 4 rfl) ?_
          refine lv_aload_n hx hb dX2_ranked_73 rfl (lv_at hl 1 rfl) ?_
          refine lv_iload_n hx hb dX2_ranked_74 rfl (lv_at hl 2 rfl) ?_
          refine lv_iconst (v := 1) hx hb dX2_ranked_75 (by decide) ?_
          refine lv_iadd hx hb dX2_ranked_76 ?_
          refine lv_iload_n hx hb dX2_ranked_77 rfl (lv_at hl 3 rfl) ?_
          obtain ⟨u9, eu9, h⟩ := bd_some h
          refine z_callV_i hC hW (rest := [.int x3, .int u8]) (hrr eu9) vw_X2_83 WC_2 rfl ⟨rfl, rfl⟩ (zrm_ok (by omega) (by decide)) rfl rfl hl.1 (Nat.le_of_ble_eq_true rfl) dX2_ranked_78 (fun H locs hW => ?_)
          obtain ⟨u10, eu10, h⟩ := bd_some h
          refine z_callS_i hC hW (rest := []) (c_X2_joined (d := 0) (Nat.le_refl _) eu10) sw_X2_100 ⟨rfl, rfl⟩ (zrm_ok (by omega) (by decide)) rfl rfl hl.1 (Nat.le_of_ble_eq_true rfl) dX2_ranked_81 (fun H locs hW => ?_)
          refine lv_istore_n (lv' := [(3, .int u10), (6, .int u8), (0, .ref (ρ 2)), (1, .int x1), (2, .int x2), (4, .int x4), (5, .int x5)]) hx hb dX2_ranked_84 rfl hl (by decide) rfl (fun ls hl => ?_)
          refine lv_iinc (v := (x5 + 1)) (lv' := [(5, .int (x5 + 1)), (3, .int u10), (6, .int u8), (0, .ref (ρ 2)), (1, .int x1), (2, .int x2), (4, .int x4)]) hx hb dX2_ranked_85 hl (k := 6) rfl rfl (by decide) rfl (fun ls hl => ?_)
          refine lv_goto (tgt := 36) hx hb dX2_ranked_88 (by decide) ?_
          exact ih h hW (lv_sub hl [3, 4, 5, 1, 6, 0] rfl)
  have b31 : ∀ {x1 : Int32} {x2 : Int32} {x3 : Int32} {s0 : Int32} {L_at : Int32} {L_fault : Int32} {H : Heap} {locs : List Loc} {ls : Array Slot}, f_X2_ranked_r14_b31 rr ro x1 x2 x3 s0 L_text L_end L_at L_fault L_d L_p L_y L_j L_o = some res → zW D A s.heap (WC q ρ T_price T_year T_joinEnds T_wallEnds T_cost T_doors T_joins T_walls T_oldWells T_apart L_tape L_text L_fed L_length 14 L_end L_at L_fault L_d L_p L_y L_j L_o P_away P_beside P_reach P_serves P_crowds P_servedLow P_servedHigh P_crowdedLow P_crowdedHigh P_there P_must P_can C_what C_number C_before C_after C_done C_kept A_kinds A_traced A_bodies A_began A_self A_kindOfSelf S_holds S_body S_sort S_size S_elements G_grown) H locs → lv_has ls 7 [(0, .ref (ρ 2)), (1, .int x1), (2, .int x2), (3, .int x3)] → W p l e (zrm d) s m args below meth c H locs 0 0 Q (F0 m 31 ls [.int s0]) := by
    intro x1 x2 x3 s0 L_at L_fault H locs ls h hW hl
    unfold f_X2_ranked_r14_b31 at h
    refine lv_istore (lv' := [(4, .int s0), (0, .ref (ρ 2)), (1, .int x1), (2, .int x2), (3, .int x3)]) hx hb dX2_ranked_31 hl (by decide) rfl (fun ls hl => ?_)
    refine lv_iconst (v := 0) hx hb dX2_ranked_33 (by decide) ?_
    refine lv_istore (lv' := [(5, .int 0), (4, .int s0), (0, .ref (ρ 2)), (1, .int x1), (2, .int x2), (3, .int x3)]) hx hb dX2_ranked_34 hl (by decide) rfl (fun ls hl => ?_)
    exact b36 h hW (lv_sub hl [2, 3, 4, 5, 1, 0] rfl)
  unfold f_X2_ranked_r14 at h
  refine lv_iload_n hx hb dX2_ranked_0 rfl (lv_at hl 1 rfl) ?_
  refine lv_iconst (v := 5) hx hb dX2_ranked_1 (by decide) ?_
  refine lv_icmp_lt (tgt := 11) hx hb dX2_ranked_2 (by decide) (fun c1 => ?_) (fun c1 => ?_)
  · have h := ifp c1 h
    refine lv_aload_n hx hb dX2_ranked_11 rfl (lv_at hl 0 rfl) ?_
    refine lv_iload_n hx hb dX2_ranked_12 rfl (lv_at hl 1 rfl) ?_
    refine lv_iconst (v := 1) hx hb dX2_ranked_13 (by decide) ?_
    refine lv_iadd hx hb dX2_ranked_14 ?_
    refine lv_iload_n hx hb dX2_ranked_15 rfl (lv_at hl 2 rfl) ?_
    obtain ⟨u2, eu2, h⟩ := bd_some h
    refine z_callV_i hC hW (rest := []) (hrr eu2) vw_X2_83 WC_2 rfl ⟨rfl, rfl⟩ (zrm_ok (by omega) (by decide)) rfl rfl hl.1 (Nat.le_of_ble_eq_true rfl) dX2_ranked_16 (fun H locs hW => ?_)
    refine lv_istore_n (lv' := [(3, .int u2.1), (0, .ref (ρ 2)), (1, .int a1), (2, .int a2)]) hx hb dX2_ranked_19 rfl hl (by decide) rfl (fun ls hl => ?_)
    refine lv_iload_n hx hb dX2_ranked_20 rfl (lv_at hl 2 rfl) ?_
    refine lv_iconst (v := 2) hx hb dX2_ranked_21 (by decide) ?_
    refine lv_icmp_ne (tgt := 29) hx hb dX2_ranked_22 (by decide) (fun c3 => ?_) (fun c3 => ?_)
    · have h := ifn c3 h
      refine lv_bipush (v := 120) hx hb dX2_ranked_29 (by decide) ?_
      exact b31 h hW (lv_sub hl [1, 2, 3, 0] rfl)
    · have h := ifp c3 h
      refine lv_iconst (v := 1) hx hb dX2_ranked_25 (by decide) ?_
      refine lv_goto (tgt := 31) hx hb dX2_ranked_26 (by decide) ?_
      exact b31 h hW (lv_sub hl [1, 2, 3, 0] rfl)
  · have h := ifn c1 h
    refine lv_aload_n hx hb dX2_ranked_5 rfl (lv_at hl 0 rfl) ?_
    refine lv_iload_n hx hb dX2_ranked_6 rfl (lv_at hl 2 rfl) ?_
    obtain ⟨u11, eu11, h⟩ := bd_some h
    refine z_callV_i hC hW (rest := []) (hro eu11) vw_X2_93 WC_2 rfl ⟨rfl, rfl⟩ (zrm_ok (by omega) (by decide)) rfl rfl hl.1 (Nat.le_of_ble_eq_true rfl) dX2_ranked_7 (fun H locs hW => ?_)
    have h := Option.some.inj h
    subst h
    exact hret _ _ _ _ _ dX2_ranked_10 rfl rfl hW
theorem cg_rk_r14 {op : Int32 → (Nat → Int32) → Int32 → Int32 → Int32 → Int32 → Int32 → Int32 → Int32 → Int32 → Option (Int32 × Int32 × Int32)} {dr : Nat} (hop : ∀ {d : Nat}, dr ≤ d → ∀ {a1 : Int32} {T_price : Nat → Int32} {T_year : Nat → Int32} {T_joinEnds : Nat → Int32} {T_wallEnds : Nat → Int32} {T_cost : Nat → Int32} {T_doors : Int32} {T_joins : Int32} {T_walls : Int32} {T_oldWells : Int32} {T_apart : Int32} {L_tape : Nat → Int32} {L_text : Nat → Int32} {L_fed : Int32} {L_length : Int32} {L_end : Int32} {L_at : Int32} {L_fault : Int32} {L_d : Int32} {L_p : Int32} {L_y : Int32} {L_j : Int32} {L_o : Int32} {P_away : Nat → Nat → Int32} {P_beside : Nat → Int32} {P_reach : Nat → Int32} {P_serves : Nat → Int32} {P_crowds : Nat → Int32} {P_servedLow : Nat → Int32} {P_servedHigh : Nat → Int32} {P_crowdedLow : Nat → Int32} {P_crowdedHigh : Nat → Int32} {P_there : Int32} {P_must : Int32} {P_can : Int32} {C_what : Nat → Int32} {C_number : Nat → Int32} {C_before : Nat → Int32} {C_after : Nat → Int32} {C_done : Int32} {C_kept : Int32} {A_kinds : Nat → Int32} {A_traced : Nat → Int32} {A_bodies : Int32} {A_began : Int32} {A_self : Int32} {A_kindOfSelf : Int32} {S_holds : Nat → Int32} {S_body : Nat → Int32} {S_sort : Nat → Int32} {S_size : Nat → Int32} {S_elements : Nat → Nat → Int64} {G_grown : Nat → Int32} {sz : Nat} {res : Int32 × Int32 × Int32}, op a1 L_text L_end L_at L_fault L_d L_p L_y L_j L_o = some res → zMi l yX2_operand cX2_operand 4 .int (zrm d) [.ref (ρ 2), .int a1] D q (WC q ρ T_price T_year T_joinEnds T_wallEnds T_cost T_doors T_joins T_walls T_oldWells T_apart L_tape L_text L_fed L_length 14 L_end L_at L_fault L_d L_p L_y L_j L_o P_away P_beside P_reach P_serves P_crowds P_servedLow P_servedHigh P_crowdedLow P_crowdedHigh P_there P_must P_can C_what C_number C_before C_after C_done C_kept A_kinds A_traced A_bodies A_began A_self A_kindOfSelf S_holds S_body S_sort S_size S_elements G_grown) sz res.1 (WC q ρ T_price T_year T_joinEnds T_wallEnds T_cost T_doors T_joins T_walls T_oldWells T_apart L_tape L_text L_fed L_length 14 L_end res.2.1 res.2.2 L_d L_p L_y L_j L_o P_away P_beside P_reach P_serves P_crowds P_servedLow P_servedHigh P_crowdedLow P_crowdedHigh P_there P_must P_can C_what C_number C_before C_after C_done C_kept A_kinds A_traced A_bodies A_began A_self A_kindOfSelf S_holds S_body S_sort S_size S_elements G_grown)) : ∀ (k : Nat) {d : Nat}, dr + 1 * k ≤ d → ∀ {a1 : Int32} {a2 : Int32} {T_price : Nat → Int32} {T_year : Nat → Int32} {T_joinEnds : Nat → Int32} {T_wallEnds : Nat → Int32} {T_cost : Nat → Int32} {T_doors : Int32} {T_joins : Int32} {T_walls : Int32} {T_oldWells : Int32} {T_apart : Int32} {L_tape : Nat → Int32} {L_text : Nat → Int32} {L_fed : Int32} {L_length : Int32} {L_end : Int32} {L_at : Int32} {L_fault : Int32} {L_d : Int32} {L_p : Int32} {L_y : Int32} {L_j : Int32} {L_o : Int32} {P_away : Nat → Nat → Int32} {P_beside : Nat → Int32} {P_reach : Nat → Int32} {P_serves : Nat → Int32} {P_crowds : Nat → Int32} {P_servedLow : Nat → Int32} {P_servedHigh : Nat → Int32} {P_crowdedLow : Nat → Int32} {P_crowdedHigh : Nat → Int32} {P_there : Int32} {P_must : Int32} {P_can : Int32} {C_what : Nat → Int32} {C_number : Nat → Int32} {C_before : Nat → Int32} {C_after : Nat → Int32} {C_done : Int32} {C_kept : Int32} {A_kinds : Nat → Int32} {A_traced : Nat → Int32} {A_bodies : Int32} {A_began : Int32} {A_self : Int32} {A_kindOfSelf : Int32} {S_holds : Nat → Int32} {S_body : Nat → Int32} {S_sort : Nat → Int32} {S_size : Nat → Int32} {S_elements : Nat → Nat → Int64} {G_grown : Nat → Int32} {sz : Nat} {res : Int32 × Int32 × Int32}, g_rk_r14 op k a1 a2 L_text L_end L_at L_fault L_d L_p L_y L_j L_o = some res → zMi l yX2_ranked cX2_ranked 7 .int (zrm d) [.ref (ρ 2), .int a1, .int a2] D q (WC q ρ T_price T_year T_joinEnds T_wallEnds T_cost T_doors T_joins T_walls T_oldWells T_apart L_tape L_text L_fed L_length 14 L_end L_at L_fault L_d L_p L_y L_j L_o P_away P_beside P_reach P_serves P_crowds P_servedLow P_servedHigh P_crowdedLow P_crowdedHigh P_there P_must P_can C_what C_number C_before C_after C_done C_kept A_kinds A_traced A_bodies A_began A_self A_kindOfSelf S_holds S_body S_sort S_size S_elements G_grown) sz res.1 (WC q ρ T_price T_year T_joinEnds T_wallEnds T_cost T_doors T_joins T_walls T_oldWells T_apart L_tape L_text L_fed L_length 14 L_end res.2.1 res.2.2 L_d L_p L_y L_j L_o P_away P_beside P_reach P_serves P_crowds P_servedLow P_servedHigh P_crowdedLow P_crowdedHigh P_there P_must P_can C_what C_number C_before C_after C_done C_kept A_kinds A_traced A_bodies A_began A_self A_kindOfSelf S_holds S_body S_sort S_size S_elements G_grown)
  | 0, _, _ => by intros; rename_i h; cases h
  | k + 1, d, hd => fun h => c_X2_ranked_r14 (dr := dr + 1 * k) (fun h => cg_rk_r14 hop k (Nat.le_refl _) h) (fun h => hop (by omega) h) (by omega) h
theorem cg_op_r14 : ∀ (n : Nat) {d : Nat}, 9 * n ≤ d → ∀ {a1 : Int32} {T_price : Nat → Int32} {T_year : Nat → Int32} {T_joinEnds : Nat → Int32} {T_wallEnds : Nat → Int32} {T_cost : Nat → Int32} {T_doors : Int32} {T_joins : Int32} {T_walls : Int32} {T_oldWells : Int32} {T_apart : Int32} {L_tape : Nat → Int32} {L_text : Nat → Int32} {L_fed : Int32} {L_length : Int32} {L_end : Int32} {L_at : Int32} {L_fault : Int32} {L_d : Int32} {L_p : Int32} {L_y : Int32} {L_j : Int32} {L_o : Int32} {P_away : Nat → Nat → Int32} {P_beside : Nat → Int32} {P_reach : Nat → Int32} {P_serves : Nat → Int32} {P_crowds : Nat → Int32} {P_servedLow : Nat → Int32} {P_servedHigh : Nat → Int32} {P_crowdedLow : Nat → Int32} {P_crowdedHigh : Nat → Int32} {P_there : Int32} {P_must : Int32} {P_can : Int32} {C_what : Nat → Int32} {C_number : Nat → Int32} {C_before : Nat → Int32} {C_after : Nat → Int32} {C_done : Int32} {C_kept : Int32} {A_kinds : Nat → Int32} {A_traced : Nat → Int32} {A_bodies : Int32} {A_began : Int32} {A_self : Int32} {A_kindOfSelf : Int32} {S_holds : Nat → Int32} {S_body : Nat → Int32} {S_sort : Nat → Int32} {S_size : Nat → Int32} {S_elements : Nat → Nat → Int64} {G_grown : Nat → Int32} {sz : Nat} {res : Int32 × Int32 × Int32}, g_op_r14 n a1 L_text L_end L_at L_fault L_d L_p L_y L_j L_o = some res → zMi l yX2_operand cX2_operand 4 .int (zrm d) [.ref (ρ 2), .int a1] D q (WC q ρ T_price T_year T_joinEnds T_wallEnds T_cost T_doors T_joins T_walls T_oldWells T_apart L_tape L_text L_fed L_length 14 L_end L_at L_fault L_d L_p L_y L_j L_o P_away P_beside P_reach P_serves P_crowds P_servedLow P_servedHigh P_crowdedLow P_crowdedHigh P_there P_must P_can C_what C_number C_before C_after C_done C_kept A_kinds A_traced A_bodies A_began A_self A_kindOfSelf S_holds S_body S_sort S_size S_elements G_grown) sz res.1 (WC q ρ T_price T_year T_joinEnds T_wallEnds T_cost T_doors T_joins T_walls T_oldWells T_apart L_tape L_text L_fed L_length 14 L_end res.2.1 res.2.2 L_d L_p L_y L_j L_o P_away P_beside P_reach P_serves P_crowds P_servedLow P_servedHigh P_crowdedLow P_crowdedHigh P_there P_must P_can C_what C_number C_before C_after C_done C_kept A_kinds A_traced A_bodies A_began A_self A_kindOfSelf S_holds S_body S_sort S_size S_elements G_grown)
  | 0, _, _ => by intros; rename_i h; cases h
  | n + 1, d, hd => fun h => c_X2_operand_r14 (dr := 9 * n + 7) (fun h => cg_op_r14 n (by omega) h) (fun h => cg_rk_r14 (dr := 9 * n) (fun hd => fun h => cg_op_r14 n hd h) 7 (by omega) h) (by omega) h
theorem c_t_ranked_r14 {d : Nat} (hd : 79 ≤ d) : ∀ {a1 : Int32} {a2 : Int32} {T_price : Nat → Int32} {T_year : Nat → Int32} {T_joinEnds : Nat → Int32} {T_wallEnds : Nat → Int32} {T_cost : Nat → Int32} {T_doors : Int32} {T_joins : Int32} {T_walls : Int32} {T_oldWells : Int32} {T_apart : Int32} {L_tape : Nat → Int32} {L_text : Nat → Int32} {L_fed : Int32} {L_length : Int32} {L_end : Int32} {L_at : Int32} {L_fault : Int32} {L_d : Int32} {L_p : Int32} {L_y : Int32} {L_j : Int32} {L_o : Int32} {P_away : Nat → Nat → Int32} {P_beside : Nat → Int32} {P_reach : Nat → Int32} {P_serves : Nat → Int32} {P_crowds : Nat → Int32} {P_servedLow : Nat → Int32} {P_servedHigh : Nat → Int32} {P_crowdedLow : Nat → Int32} {P_crowdedHigh : Nat → Int32} {P_there : Int32} {P_must : Int32} {P_can : Int32} {C_what : Nat → Int32} {C_number : Nat → Int32} {C_before : Nat → Int32} {C_after : Nat → Int32} {C_done : Int32} {C_kept : Int32} {A_kinds : Nat → Int32} {A_traced : Nat → Int32} {A_bodies : Int32} {A_began : Int32} {A_self : Int32} {A_kindOfSelf : Int32} {S_holds : Nat → Int32} {S_body : Nat → Int32} {S_sort : Nat → Int32} {S_size : Nat → Int32} {S_elements : Nat → Nat → Int64} {G_grown : Nat → Int32} {sz : Nat} {res : Int32 × Int32 × Int32}, t_ranked_r14 a1 a2 L_text L_end L_at L_fault L_d L_p L_y L_j L_o = some res → zMi l yX2_ranked cX2_ranked 7 .int (zrm d) [.ref (ρ 2), .int a1, .int a2] D q (WC q ρ T_price T_year T_joinEnds T_wallEnds T_cost T_doors T_joins T_walls T_oldWells T_apart L_tape L_text L_fed L_length 14 L_end L_at L_fault L_d L_p L_y L_j L_o P_away P_beside P_reach P_serves P_crowds P_servedLow P_servedHigh P_crowdedLow P_crowdedHigh P_there P_must P_can C_what C_number C_before C_after C_done C_kept A_kinds A_traced A_bodies A_began A_self A_kindOfSelf S_holds S_body S_sort S_size S_elements G_grown) sz res.1 (WC q ρ T_price T_year T_joinEnds T_wallEnds T_cost T_doors T_joins T_walls T_oldWells T_apart L_tape L_text L_fed L_length 14 L_end res.2.1 res.2.2 L_d L_p L_y L_j L_o P_away P_beside P_reach P_serves P_crowds P_servedLow P_servedHigh P_crowdedLow P_crowdedHigh P_there P_must P_can C_what C_number C_before C_after C_done C_kept A_kinds A_traced A_bodies A_began A_self A_kindOfSelf S_holds S_body S_sort S_size S_elements G_grown) := fun h => cg_rk_r14 (dr := 72) (fun hd => fun h => cg_op_r14 8 hd h) 7 hd h
set_option maxHeartbeats 4000000 in
set_option maxRecDepth 100000 in
theorem c_X2_worked_text {a2 : Int32} {d : Nat} {res : Int32 × Nat × Int32 × Int32 × Int32} (hd : 80 ≤ d) (h : f_X2_worked_text a2 L_text L_read L_end L_at L_fault L_d L_p L_y L_j L_o = some res) : zMi l yX2_worked cX2_worked 10 .int (zrm d) [.ref (ρ 2), .ref (ρ 14), .int a2] D q (WC q ρ T_price T_year T_joinEnds T_wallEnds T_cost T_doors T_joins T_walls T_oldWells T_apart L_tape L_text L_fed L_length L_read L_end L_at L_fault L_d L_p L_y L_j L_o P_away P_beside P_reach P_serves P_crowds P_servedLow P_servedHigh P_crowdedLow P_crowdedHigh P_there P_must P_can C_what C_number C_before C_after C_done C_kept A_kinds A_traced A_bodies A_began A_self A_kindOfSelf S_holds S_body S_sort S_size S_elements G_grown) sz res.1 (WC q ρ T_price T_year T_joinEnds T_wallEnds T_cost T_doors T_joins T_walls T_oldWells T_apart L_tape L_text L_fed L_length res.2.1 res.2.2.1 res.2.2.2.1 res.2.2.2.2 L_d L_p L_y L_j L_o P_away P_beside P_reach P_serves P_crowds P_servedLow P_servedHigh P_crowdedLow P_crowdedHigh P_there P_must P_can C_what C_number C_before C_after C_done C_kept A_kinds A_traced A_bodies A_began A_self A_kindOfSelf S_holds S_body S_sort S_size S_elements G_grown) := by
  refine zMet_i (own := RX2) _ (by decide) rfl (Nat.le_of_ble_eq_true rfl) ?_
  intro p e s m args below meth c A ls Q hC hW hl hret
  have hx := hC.1
  have hb := hC.2.1
  have hl : lv_has ls 10 [(0, .ref (ρ 2)), (1, .ref (ρ 14)), (2, .int a2)] := hl
  have b156 : ∀ {x3 : Int32} {L_end : Int32} {L_at : Int32} {L_fault : Int32} {H : Heap} {locs : List Loc} {ls : Array Slot}, f_X2_worked_text_b156 x3 L_end L_at L_fault = some res → zW D A s.heap (WC q ρ T_price T_year T_joinEnds T_wallEnds T_cost T_doors T_joins T_walls T_oldWells T_apart L_tape L_text L_fed L_length 14 L_end L_at L_fault L_d L_p L_y L_j L_o P_away P_beside P_reach P_serves P_crowds P_servedLow P_servedHigh P_crowdedLow P_crowdedHigh P_there P_must P_can C_what C_number C_before C_after C_done C_kept A_kinds A_traced A_bodies A_began A_self A_kindOfSelf S_holds S_body S_sort S_size S_elements G_grown) H locs → lv_has ls 10 [(0, .ref (ρ 2)), (3, .int x3)] → W p l e (zrm d) s m args below meth c H locs 0 0 Q (F0 m 156 ls []) := by
    intro x3 L_end L_at L_fault H locs ls h hW hl
    unfold f_X2_worked_text_b156 at h
    refine lv_aload_n hx hb dX2_worked_156 rfl (lv_at hl 0 rfl) ?_
    refine z_get hC hW fg_X2_80 2 WC_2 rfl dX2_worked_157 ?_
    refine lv_aload_n hx hb dX2_worked_160 rfl (lv_at hl 0 rfl) ?_
    refine z_get hC hW fg_X2_77 2 WC_2 rfl dX2_worked_161 ?_
    refine lv_icmp_ge (tgt := 172) hx hb dX2_worked_164 (by decide) (fun c2 => ?_) (fun c2 => ?_)
    · have h := ifp c2 h
      refine lv_iload_n hx hb dX2_worked_172 rfl (lv_at hl 1 rfl) ?_
      have h := Option.some.inj h
      subst h
      exact hret _ _ _ _ _ dX2_worked_173 rfl rfl hW
    · have h := ifn c2 h
      refine lv_aload_n hx hb dX2_worked_167 rfl (lv_at hl 0 rfl) ?_
      obtain ⟨u3, eu3, h⟩ := bd_some h
      refine z_callV_i hC hW (rest := []) (c_X2_broken (d := 0) (Nat.le_refl _) eu3) vw_X2_90 WC_2 rfl ⟨rfl, rfl⟩ (zrm_ok (by omega) (by decide)) rfl rfl hl.1 (Nat.le_of_ble_eq_true rfl) dX2_worked_168 (fun H locs hW => ?_)
      refine lv_pop hx hb dX2_worked_171 rfl ?_
      refine lv_iload_n hx hb dX2_worked_172 rfl (lv_at hl 1 rfl) ?_
      have h := Option.some.inj h
      subst h
      exact hret _ _ _ _ _ dX2_worked_173 rfl rfl hW
  have b146 : ∀ {x3 : Int32} {x4 : Int32} {x5 : Int32} {x6 : Int32} {s0 : Int32} {s1 : Int32} {L_end : Int32} {L_at : Int32} {L_fault : Int32} {k31 : Int32 → Int32 → Int32 → Int32 → Int32 → Int32 → Option (Int32 × Nat × Int32 × Int32 × Int32)} (hk31 : ∀ {x3 : Int32} {x4 : Int32} {x5 : Int32} {x6 : Int32} {L_at : Int32} {L_fault : Int32} {H : Heap} {locs : List Loc} {ls : Array Slot}, k31 x3 x4 x5 x6 L_at L_fault = some res → zW D A s.heap (WC q ρ T_price T_year T_joinEnds T_wallEnds T_cost T_doors T_joins T_walls T_oldWells T_apart L_tape L_text L_fed L_length 14 L_end L_at L_fault L_d L_p L_y L_j L_o P_away P_beside P_reach P_serves P_crowds P_servedLow P_servedHigh P_crowdedLow P_crowdedHigh P_there P_must P_can C_what C_number C_before C_after C_done C_kept A_kinds A_traced A_bodies A_began A_self A_kindOfSelf S_holds S_body S_sort S_size S_elements G_grown) H locs → lv_has ls 10 [(0, .ref (ρ 2)), (3, .int x3), (4, .int x4), (5, .int x5), (6, .int x6)] → W p l e (zrm d) s m args below meth c H locs 0 0 Q (F0 m 31 ls [])) {H : Heap} {locs : List Loc} {ls : Array Slot}, f_X2_worked_text_b146 k31 x3 x4 x5 x6 s0 s1 L_text L_end L_at L_fault L_d L_p L_y L_j L_o = some res → zW D A s.heap (WC q ρ T_price T_year T_joinEnds T_wallEnds T_cost T_doors T_joins T_walls T_oldWells T_apart L_tape L_text L_fed L_length 14 L_end L_at L_fault L_d L_p L_y L_j L_o P_away P_beside P_reach P_serves P_crowds P_servedLow P_servedHigh P_crowdedLow P_crowdedHigh P_there P_must P_can C_what C_number C_before C_after C_done C_kept A_kinds A_traced A_bodies A_began A_self A_kindOfSelf S_holds S_body S_sort S_size S_elements G_grown) H locs → lv_has ls 10 [(0, .ref (ρ 2)), (3, .int x3), (4, .int x4), (5, .int x5), (6, .int x6)] → W p l e (zrm d) s m args below meth c H locs 0 0 Q (F0 m 146 ls [.int s0, .int s1, .ref (ρ 2)]) := by
    intro x3 x4 x5 x6 s0 s1 L_end L_at L_fault k31 hk31 H locs ls h hW hl
    unfold f_X2_worked_text_b146 at h
    refine lv_iadd hx hb dX2_worked_146 ?_
    refine z_put hC hW fp_X2_80 2 WC_2 (Nat.le_of_ble_eq_true rfl) rfl rfl WCs_L_at dX2_worked_147 (fun H locs hW => ?_)
    refine lv_iinc (v := (x6 + 1)) (lv' := [(6, .int (x6 + 1)), (0, .ref (ρ 2)), (3, .int x3), (4, .int x4), (5, .int x5)]) hx hb dX2_worked_150 hl (k := 4) rfl rfl (by decide) rfl (fun ls hl => ?_)
    refine lv_goto (tgt := 31) hx hb dX2_worked_153 (by decide) ?_
    exact hk31 h hW (lv_sub hl [1, 2, 3, 4, 0] rfl)
  have b129 : ∀ {x3 : Int32} {x4 : Int32} {x6 : Int32} {s0 : Int32} {L_end : Int32} {L_at : Int32} {L_fault : Int32} {k31 : Int32 → Int32 → Int32 → Int32 → Int32 → Int32 → Option (Int32 × Nat × Int32 × Int32 × Int32)} (hk31 : ∀ {x3 : Int32} {x4 : Int32} {x5 : Int32} {x6 : Int32} {L_at : Int32} {L_fault : Int32} {H : Heap} {locs : List Loc} {ls : Array Slot}, k31 x3 x4 x5 x6 L_at L_fault = some res → zW D A s.heap (WC q ρ T_price T_year T_joinEnds T_wallEnds T_cost T_doors T_joins T_walls T_oldWells T_apart L_tape L_text L_fed L_length 14 L_end L_at L_fault L_d L_p L_y L_j L_o P_away P_beside P_reach P_serves P_crowds P_servedLow P_servedHigh P_crowdedLow P_crowdedHigh P_there P_must P_can C_what C_number C_before C_after C_done C_kept A_kinds A_traced A_bodies A_began A_self A_kindOfSelf S_holds S_body S_sort S_size S_elements G_grown) H locs → lv_has ls 10 [(0, .ref (ρ 2)), (3, .int x3), (4, .int x4), (5, .int x5), (6, .int x6)] → W p l e (zrm d) s m args below meth c H locs 0 0 Q (F0 m 31 ls [])) {H : Heap} {locs : List Loc} {ls : Array Slot}, f_X2_worked_text_b129 k31 x3 x4 x6 s0 L_text L_end L_at L_fault L_d L_p L_y L_j L_o = some res → zW D A s.heap (WC q ρ T_price T_year T_joinEnds T_wallEnds T_cost T_doors T_joins T_walls T_oldWells T_apart L_tape L_text L_fed L_length 14 L_end L_at L_fault L_d L_p L_y L_j L_o P_away P_beside P_reach P_serves P_crowds P_servedLow P_servedHigh P_crowdedLow P_crowdedHigh P_there P_must P_can C_what C_number C_before C_after C_done C_kept A_kinds A_traced A_bodies A_began A_self A_kindOfSelf S_holds S_body S_sort S_size S_elements G_grown) H locs → lv_has ls 10 [(0, .ref (ρ 2)), (3, .int x3), (4, .int x4), (6, .int x6)] → W p l e (zrm d) s m args below meth c H locs 0 0 Q (F0 m 129 ls [.int s0]) := by
    intro x3 x4 x6 s0 L_end L_at L_fault k31 hk31 H locs ls h hW hl
    unfold f_X2_worked_text_b129 at h
    refine lv_istore (lv' := [(5, .int s0), (0, .ref (ρ 2)), (3, .int x3), (4, .int x4), (6, .int x6)]) hx hb dX2_worked_129 hl (by decide) rfl (fun ls hl => ?_)
    refine lv_aload_n hx hb dX2_worked_131 rfl (lv_at hl 1 rfl) ?_
    refine lv_dup hx hb dX2_worked_132 rfl ?_
    refine z_get hC hW fg_X2_80 2 WC_2 rfl dX2_worked_133 ?_
    refine lv_iload hx hb dX2_worked_136 (lv_at hl 0 rfl) ?_
    refine lv_if_eq (tgt := 145) hx hb dX2_worked_138 (by decide) (fun c12 => ?_) (fun c12 => ?_)
    · have h := ifp c12 h
      refine lv_iconst (v := 0) hx hb dX2_worked_145 (by decide) ?_
      exact b146 hk31 h hW (lv_sub hl [1, 2, 3, 0, 4] rfl)
    · have h := ifn c12 h
      refine lv_iconst (v := 1) hx hb dX2_worked_141 (by decide) ?_
      refine lv_goto (tgt := 146) hx hb dX2_worked_142 (by decide) ?_
      exact b146 hk31 h hW (lv_sub hl [1, 2, 3, 0, 4] rfl)
  have b115 : ∀ {x3 : Int32} {x4 : Int32} {x6 : Int32} {L_end : Int32} {L_at : Int32} {L_fault : Int32} {k31 : Int32 → Int32 → Int32 → Int32 → Int32 → Int32 → Option (Int32 × Nat × Int32 × Int32 × Int32)} (hk31 : ∀ {x3 : Int32} {x4 : Int32} {x5 : Int32} {x6 : Int32} {L_at : Int32} {L_fault : Int32} {H : Heap} {locs : List Loc} {ls : Array Slot}, k31 x3 x4 x5 x6 L_at L_fault = some res → zW D A s.heap (WC q ρ T_price T_year T_joinEnds T_wallEnds T_cost T_doors T_joins T_walls T_oldWells T_apart L_tape L_text L_fed L_length 14 L_end L_at L_fault L_d L_p L_y L_j L_o P_away P_beside P_reach P_serves P_crowds P_servedLow P_servedHigh P_crowdedLow P_crowdedHigh P_there P_must P_can C_what C_number C_before C_after C_done C_kept A_kinds A_traced A_bodies A_began A_self A_kindOfSelf S_holds S_body S_sort S_size S_elements G_grown) H locs → lv_has ls 10 [(0, .ref (ρ 2)), (3, .int x3), (4, .int x4), (5, .int x5), (6, .int x6)] → W p l e (zrm d) s m args below meth c H locs 0 0 Q (F0 m 31 ls [])) {H : Heap} {locs : List Loc} {ls : Array Slot}, f_X2_worked_text_b115 k31 x3 x4 x6 L_text L_end L_at L_fault L_d L_p L_y L_j L_o = some res → zW D A s.heap (WC q ρ T_price T_year T_joinEnds T_wallEnds T_cost T_doors T_joins T_walls T_oldWells T_apart L_tape L_text L_fed L_length 14 L_end L_at L_fault L_d L_p L_y L_j L_o P_away P_beside P_reach P_serves P_crowds P_servedLow P_servedHigh P_crowdedLow P_crowdedHigh P_there P_must P_can C_what C_number C_before C_after C_done C_kept A_kinds A_traced A_bodies A_began A_self A_kindOfSelf S_holds S_body S_sort S_size S_elements G_grown) H locs → lv_has ls 10 [(0, .ref (ρ 2)), (3, .int x3), (4, .int x4), (6, .int x6)] → W p l e (zrm d) s m args below meth c H locs 0 0 Q (F0 m 115 ls []) := by
    intro x3 x4 x6 L_end L_at L_fault k31 hk31 H locs ls h hW hl
    unfold f_X2_worked_text_b115 at h
    refine lv_aload_n hx hb dX2_worked_115 rfl (lv_at hl 0 rfl) ?_
    obtain ⟨u10, eu10, h⟩ := bd_some h
    refine z_callV_i hC hW (rest := []) (c_X2_next_r14 (d := 0) (Nat.le_refl _) eu10) vw_X2_86 WC_2 rfl ⟨rfl, rfl⟩ (zrm_ok (by omega) (by decide)) rfl rfl hl.1 (Nat.le_of_ble_eq_true rfl) dX2_worked_116 (fun H locs hW => ?_)
    refine lv_bipush (v := 59) hx hb dX2_worked_119 (by decide) ?_
    refine lv_icmp_ne (tgt := 128) hx hb dX2_worked_121 (by decide) (fun c11 => ?_) (fun c11 => ?_)
    · have h := ifn c11 h
      refine lv_iconst (v := 0) hx hb dX2_worked_128 (by decide) ?_
      exact b129 hk31 h hW (lv_sub hl [0, 1, 2, 3] rfl)
    · have h := ifp c11 h
      refine lv_iconst (v := 1) hx hb dX2_worked_124 (by decide) ?_
      refine lv_goto (tgt := 129) hx hb dX2_worked_125 (by decide) ?_
      exact b129 hk31 h hW (lv_sub hl [0, 1, 2, 3] rfl)
  have b109 : ∀ {x6 : Int32} {x8 : Int32} {L_end : Int32} {L_at : Int32} {L_fault : Int32} {k31 : Int32 → Int32 → Int32 → Int32 → Int32 → Int32 → Option (Int32 × Nat × Int32 × Int32 × Int32)} (hk31 : ∀ {x3 : Int32} {x4 : Int32} {x5 : Int32} {x6 : Int32} {L_at : Int32} {L_fault : Int32} {H : Heap} {locs : List Loc} {ls : Array Slot}, k31 x3 x4 x5 x6 L_at L_fault = some res → zW D A s.heap (WC q ρ T_price T_year T_joinEnds T_wallEnds T_cost T_doors T_joins T_walls T_oldWells T_apart L_tape L_text L_fed L_length 14 L_end L_at L_fault L_d L_p L_y L_j L_o P_away P_beside P_reach P_serves P_crowds P_servedLow P_servedHigh P_crowdedLow P_crowdedHigh P_there P_must P_can C_what C_number C_before C_after C_done C_kept A_kinds A_traced A_bodies A_began A_self A_kindOfSelf S_holds S_body S_sort S_size S_elements G_grown) H locs → lv_has ls 10 [(0, .ref (ρ 2)), (3, .int x3), (4, .int x4), (5, .int x5), (6, .int x6)] → W p l e (zrm d) s m args below meth c H locs 0 0 Q (F0 m 31 ls [])) {H : Heap} {locs : List Loc} {ls : Array Slot}, f_X2_worked_text_b109 k31 x6 x8 L_text L_end L_at L_fault L_d L_p L_y L_j L_o = some res → zW D A s.heap (WC q ρ T_price T_year T_joinEnds T_wallEnds T_cost T_doors T_joins T_walls T_oldWells T_apart L_tape L_text L_fed L_length 14 L_end L_at L_fault L_d L_p L_y L_j L_o P_away P_beside P_reach P_serves P_crowds P_servedLow P_servedHigh P_crowdedLow P_crowdedHigh P_there P_must P_can C_what C_number C_before C_after C_done C_kept A_kinds A_traced A_bodies A_began A_self A_kindOfSelf S_holds S_body S_sort S_size S_elements G_grown) H locs → lv_has ls 10 [(0, .ref (ρ 2)), (6, .int x6), (8, .int x8)] → W p l e (zrm d) s m args below meth c H locs 0 0 Q (F0 m 109 ls []) := by
    intro x6 x8 L_end L_at L_fault k31 hk31 H locs ls h hW hl
    unfold f_X2_worked_text_b109 at h
    refine lv_iconst (v := 1) hx hb dX2_worked_109 (by decide) ?_
    refine lv_istore (lv' := [(4, .int 1), (0, .ref (ρ 2)), (6, .int x6), (8, .int x8)]) hx hb dX2_worked_110 hl (by decide) rfl (fun ls hl => ?_)
    refine lv_iload hx hb dX2_worked_112 (lv_at hl 3 rfl) ?_
    refine lv_istore_n (lv' := [(3, .int x8), (4, .int 1), (0, .ref (ρ 2)), (6, .int x6), (8, .int x8)]) hx hb dX2_worked_114 rfl hl (by decide) rfl (fun ls hl => ?_)
    exact b115 hk31 h hW (lv_sub hl [2, 0, 1, 3] rfl)
  have b94 : ∀ {x3 : Int32} {x4 : Int32} {x6 : Int32} {x7 : Int32} {x8 : Int32} {x9 : Int32} {L_end : Int32} {L_at : Int32} {L_fault : Int32} {k31 : Int32 → Int32 → Int32 → Int32 → Int32 → Int32 → Option (Int32 × Nat × Int32 × Int32 × Int32)} (hk31 : ∀ {x3 : Int32} {x4 : Int32} {x5 : Int32} {x6 : Int32} {L_at : Int32} {L_fault : Int32} {H : Heap} {locs : List Loc} {ls : Array Slot}, k31 x3 x4 x5 x6 L_at L_fault = some res → zW D A s.heap (WC q ρ T_price T_year T_joinEnds T_wallEnds T_cost T_doors T_joins T_walls T_oldWells T_apart L_tape L_text L_fed L_length 14 L_end L_at L_fault L_d L_p L_y L_j L_o P_away P_beside P_reach P_serves P_crowds P_servedLow P_servedHigh P_crowdedLow P_crowdedHigh P_there P_must P_can C_what C_number C_before C_after C_done C_kept A_kinds A_traced A_bodies A_began A_self A_kindOfSelf S_holds S_body S_sort S_size S_elements G_grown) H locs → lv_has ls 10 [(0, .ref (ρ 2)), (3, .int x3), (4, .int x4), (5, .int x5), (6, .int x6)] → W p l e (zrm d) s m args below meth c H locs 0 0 Q (F0 m 31 ls [])) {H : Heap} {locs : List Loc} {ls : Array Slot}, f_X2_worked_text_b94 k31 x3 x4 x6 x7 x8 x9 L_text L_end L_at L_fault L_d L_p L_y L_j L_o = some res → zW D A s.heap (WC q ρ T_price T_year T_joinEnds T_wallEnds T_cost T_doors T_joins T_walls T_oldWells T_apart L_tape L_text L_fed L_length 14 L_end L_at L_fault L_d L_p L_y L_j L_o P_away P_beside P_reach P_serves P_crowds P_servedLow P_servedHigh P_crowdedLow P_crowdedHigh P_there P_must P_can C_what C_number C_before C_after C_done C_kept A_kinds A_traced A_bodies A_began A_self A_kindOfSelf S_holds S_body S_sort S_size S_elements G_grown) H locs → lv_has ls 10 [(0, .ref (ρ 2)), (3, .int x3), (4, .int x4), (6, .int x6), (7, .int x7), (8, .int x8), (9, .int x9)] → W p l e (zrm d) s m args below meth c H locs 0 0 Q (F0 m 94 ls []) := by
    intro x3 x4 x6 x7 x8 x9 L_end L_at L_fault k31 hk31 H locs ls h hW hl
    unfold f_X2_worked_text_b94 at h
    refine lv_iload hx hb dX2_worked_94 (lv_at hl 2 rfl) ?_
    refine lv_if_ne (tgt := 115) hx hb dX2_worked_96 (by decide) (fun c9 => ?_) (fun c9 => ?_)
    · have h := ifn c9 h
      exact b115 hk31 h hW (lv_sub hl [0, 1, 2, 3] rfl)
    · have h := ifp c9 h
      refine lv_iload hx hb dX2_worked_99 (lv_at hl 6 rfl) ?_
      refine lv_if_eq (tgt := 109) hx hb dX2_worked_101 (by decide) (fun c13 => ?_) (fun c13 => ?_)
      · have h := ifp c13 h
        exact b109 hk31 h hW (lv_sub hl [0, 3, 5] rfl)
      · have h := ifn c13 h
        refine lv_iload hx hb dX2_worked_104 (lv_at hl 4 rfl) ?_
        refine lv_if_eq (tgt := 115) hx hb dX2_worked_106 (by decide) (fun c14 => ?_) (fun c14 => ?_)
        · have h := ifp c14 h
          exact b115 hk31 h hW (lv_sub hl [0, 1, 2, 3] rfl)
        · have h := ifn c14 h
          exact b109 hk31 h hW (lv_sub hl [0, 3, 5] rfl)
  have b69 : ∀ {x3 : Int32} {x4 : Int32} {x6 : Int32} {x7 : Int32} {x8 : Int32} {s0 : Int32} {L_end : Int32} {L_at : Int32} {L_fault : Int32} {k31 : Int32 → Int32 → Int32 → Int32 → Int32 → Int32 → Option (Int32 × Nat × Int32 × Int32 × Int32)} (hk31 : ∀ {x3 : Int32} {x4 : Int32} {x5 : Int32} {x6 : Int32} {L_at : Int32} {L_fault : Int32} {H : Heap} {locs : List Loc} {ls : Array Slot}, k31 x3 x4 x5 x6 L_at L_fault = some res → zW D A s.heap (WC q ρ T_price T_year T_joinEnds T_wallEnds T_cost T_doors T_joins T_walls T_oldWells T_apart L_tape L_text L_fed L_length 14 L_end L_at L_fault L_d L_p L_y L_j L_o P_away P_beside P_reach P_serves P_crowds P_servedLow P_servedHigh P_crowdedLow P_crowdedHigh P_there P_must P_can C_what C_number C_before C_after C_done C_kept A_kinds A_traced A_bodies A_began A_self A_kindOfSelf S_holds S_body S_sort S_size S_elements G_grown) H locs → lv_has ls 10 [(0, .ref (ρ 2)), (3, .int x3), (4, .int x4), (5, .int x5), (6, .int x6)] → W p l e (zrm d) s m args below meth c H locs 0 0 Q (F0 m 31 ls [])) {H : Heap} {locs : List Loc} {ls : Array Slot}, f_X2_worked_text_b69 k31 x3 x4 x6 x7 x8 s0 L_text L_end L_at L_fault L_d L_p L_y L_j L_o = some res → zW D A s.heap (WC q ρ T_price T_year T_joinEnds T_wallEnds T_cost T_doors T_joins T_walls T_oldWells T_apart L_tape L_text L_fed L_length 14 L_end L_at L_fault L_d L_p L_y L_j L_o P_away P_beside P_reach P_serves P_crowds P_servedLow P_servedHigh P_crowdedLow P_crowdedHigh P_there P_must P_can C_what C_number C_before C_after C_done C_kept A_kinds A_traced A_bodies A_began A_self A_kindOfSelf S_holds S_body S_sort S_size S_elements G_grown) H locs → lv_has ls 10 [(0, .ref (ρ 2)), (3, .int x3), (4, .int x4), (6, .int x6), (7, .int x7), (8, .int x8)] → W p l e (zrm d) s m args below meth c H locs 0 0 Q (F0 m 69 ls [.int s0]) := by
    intro x3 x4 x6 x7 x8 s0 L_end L_at L_fault k31 hk31 H locs ls h hW hl
    unfold f_X2_worked_text_b69 at h
    refine lv_istore (lv' := [(9, .int s0), (0, .ref (ρ 2)), (3, .int x3), (4, .int x4), (6, .int x6), (7, .int x7), (8, .int x8)]) hx hb dX2_worked_69 hl (by decide) rfl (fun ls hl => ?_)
    refine lv_iload hx hb dX2_worked_71 (lv_at hl 0 rfl) ?_
    refine lv_if_eq (tgt := 94) hx hb dX2_worked_73 (by decide) (fun c8 => ?_) (fun c8 => ?_)
    · have h := ifp c8 h
      exact b94 hk31 h hW (lv_sub hl [1, 2, 3, 4, 5, 6, 0] rfl)
    · have h := ifn c8 h
      refine lv_aload_n hx hb dX2_worked_76 rfl (lv_at hl 1 rfl) ?_
      refine lv_dup hx hb dX2_worked_77 rfl ?_
      refine z_get hC hW fg_X2_80 2 WC_2 rfl dX2_worked_78 ?_
      refine lv_iconst (v := 1) hx hb dX2_worked_81 (by decide) ?_
      refine lv_iadd hx hb dX2_worked_82 ?_
      refine z_put hC hW fp_X2_80 2 WC_2 (Nat.le_of_ble_eq_true rfl) rfl rfl WCs_L_at dX2_worked_83 (fun H locs hW => ?_)
      refine lv_aload_n hx hb dX2_worked_86 rfl (lv_at hl 1 rfl) ?_
      refine lv_iconst (v := 0) hx hb dX2_worked_87 (by decide) ?_
      refine lv_iconst (v := 0) hx hb dX2_worked_88 (by decide) ?_
      obtain ⟨u15, eu15, h⟩ := bd_some h
      refine z_callV_i hC hW (rest := []) (c_t_ranked_r14 (d := 79) (Nat.le_refl _) eu15) vw_X2_83 WC_2 rfl ⟨rfl, rfl⟩ (zrm_ok (by omega) (by decide)) rfl rfl hl.1 (Nat.le_of_ble_eq_true rfl) dX2_worked_89 (fun H locs hW => ?_)
      refine lv_istore (lv' := [(8, .int u15.1), (9, .int s0), (0, .ref (ρ 2)), (3, .int x3), (4, .int x4), (6, .int x6), (7, .int x7)]) hx hb dX2_worked_92 hl (by decide) rfl (fun ls hl => ?_)
      exact b94 hk31 h hW (lv_sub hl [2, 3, 4, 5, 6, 0, 1] rfl)
  have b31 : ∀ {L_end : Int32} {n : Nat} {x3 : Int32} {x4 : Int32} {x5 : Int32} {x6 : Int32} {L_at : Int32} {L_fault : Int32} {H : Heap} {locs : List Loc} {ls : Array Slot}, f_X2_worked_text_b31 L_text L_end L_d L_p L_y L_j L_o n x3 x4 x5 x6 L_at L_fault = some res → zW D A s.heap (WC q ρ T_price T_year T_joinEnds T_wallEnds T_cost T_doors T_joins T_walls T_oldWells T_apart L_tape L_text L_fed L_length 14 L_end L_at L_fault L_d L_p L_y L_j L_o P_away P_beside P_reach P_serves P_crowds P_servedLow P_servedHigh P_crowdedLow P_crowdedHigh P_there P_must P_can C_what C_number C_before C_after C_done C_kept A_kinds A_traced A_bodies A_began A_self A_kindOfSelf S_holds S_body S_sort S_size S_elements G_grown) H locs → lv_has ls 10 [(0, .ref (ρ 2)), (3, .int x3), (4, .int x4), (5, .int x5), (6, .int x6)] → W p l e (zrm d) s m args below meth c H locs 0 0 Q (F0 m 31 ls []) := by
    intro L_end
    intro n
    induction n with
    | zero =>
      intro x3 x4 x5 x6 L_at L_fault H locs ls h
      rw [f_X2_worked_text_b31] at h
      cases h
    | succ n ih =>
      intro x3 x4 x5 x6 L_at L_fault H locs ls h hW hl
      rw [f_X2_worked_text_b31] at h
      refine lv_iload hx hb dX2_worked_31 (lv_at hl 4 rfl) ?_
      refine lv_bipush (v := 120) hx hb dX2_worked_33 (by decide) ?_
      refine lv_icmp_gt (tgt := 156) hx hb dX2_worked_35 (by decide) (fun c1 => ?_) (fun c1 => ?_)
      · have h := ifp c1 h
        exact b156 h hW (lv_sub hl [0, 1] rfl)
      · have h := ifn c1 h
        refine lv_iload hx hb dX2_worked_38 (lv_at hl 3 rfl) ?_
        refine lv_if_eq (tgt := 156) hx hb dX2_worked_40 (by decide) (fun c4 => ?_) (fun c4 => ?_)
        · have h := ifp c4 h
          exact b156 h hW (lv_sub hl [0, 1] rfl)
        · have h := ifn c4 h
          refine lv_aload_n hx hb dX2_worked_43 rfl (lv_at hl 0 rfl) ?_
          refine lv_iconst (v := 0) hx hb dX2_worked_44 (by decide) ?_
          refine lv_iconst (v := 0) hx hb dX2_worked_45 (by decide) ?_
          obtain ⟨u5, eu5, h⟩ := bd_some h
          refine z_callV_i hC hW (rest := []) (c_t_ranked_r14 (d := 79) (Nat.le_refl _) eu5) vw_X2_83 WC_2 rfl ⟨rfl, rfl⟩ (zrm_ok (by omega) (by decide)) rfl rfl hl.1 (Nat.le_of_ble_eq_true rfl) dX2_worked_46 (fun H locs hW => ?_)
          refine lv_istore (lv' := [(7, .int u5.1), (0, .ref (ρ 2)), (3, .int x3), (4, .int x4), (5, .int x5), (6, .int x6)]) hx hb dX2_worked_49 hl (by decide) rfl (fun ls hl => ?_)
          refine lv_iload hx hb dX2_worked_51 (lv_at hl 0 rfl) ?_
          refine lv_istore (lv' := [(8, .int u5.1), (7, .int u5.1), (0, .ref (ρ 2)), (3, .int x3), (4, .int x4), (5, .int x5), (6, .int x6)]) hx hb dX2_worked_53 hl (by decide) rfl (fun ls hl => ?_)
          refine lv_aload_n hx hb dX2_worked_55 rfl (lv_at hl 2 rfl) ?_
          obtain ⟨u6, eu6, h⟩ := bd_some h
          refine z_callV_i hC hW (rest := []) (c_X2_next_r14 (d := 0) (Nat.le_refl _) eu6) vw_X2_86 WC_2 rfl ⟨rfl, rfl⟩ (zrm_ok (by omega) (by decide)) rfl rfl hl.1 (Nat.le_of_ble_eq_true rfl) dX2_worked_56 (fun H locs hW => ?_)
          refine lv_bipush (v := 63) hx hb dX2_worked_59 (by decide) ?_
          refine lv_icmp_ne (tgt := 68) hx hb dX2_worked_61 (by decide) (fun c7 => ?_) (fun c7 => ?_)
          · have h := ifn c7 h
            refine lv_iconst (v := 0) hx hb dX2_worked_68 (by decide) ?_
            exact b69 ih h hW (lv_sub hl [2, 3, 4, 6, 1, 0] rfl)
          · have h := ifp c7 h
            refine lv_iconst (v := 1) hx hb dX2_worked_64 (by decide) ?_
            refine lv_goto (tgt := 69) hx hb dX2_worked_65 (by decide) ?_
            exact b69 ih h hW (lv_sub hl [2, 3, 4, 6, 1, 0] rfl)
  unfold f_X2_worked_text at h
  refine lv_aload_n hx hb dX2_worked_0 rfl (lv_at hl 0 rfl) ?_
  refine lv_aload_n hx hb dX2_worked_1 rfl (lv_at hl 1 rfl) ?_
  refine z_put hC hW fp_X2_18 2 WC_2 (Nat.le_of_ble_eq_true rfl) rfl rfl WCs_L_read dX2_worked_2 (fun H locs hW => ?_)
  refine lv_aload_n hx hb dX2_worked_5 rfl (lv_at hl 0 rfl) ?_
  refine lv_iload_n hx hb dX2_worked_6 rfl (lv_at hl 2 rfl) ?_
  refine z_put hC hW fp_X2_77 2 WC_2 (Nat.le_of_ble_eq_true rfl) rfl rfl WCs_L_end dX2_worked_7 (fun H locs hW => ?_)
  refine lv_aload_n hx hb dX2_worked_10 rfl (lv_at hl 0 rfl) ?_
  refine lv_iconst (v := 0) hx hb dX2_worked_11 (by decide) ?_
  refine z_put hC hW fp_X2_80 2 WC_2 (Nat.le_of_ble_eq_true rfl) rfl rfl WCs_L_at dX2_worked_12 (fun H locs hW => ?_)
  refine lv_aload_n hx hb dX2_worked_15 rfl (lv_at hl 0 rfl) ?_
  refine lv_iconst (v := (-1)) hx hb dX2_worked_16 (by decide) ?_
  refine z_put hC hW fp_X2_29 2 WC_2 (Nat.le_of_ble_eq_true rfl) rfl rfl WCs_L_fault dX2_worked_17 (fun H locs hW => ?_)
  refine lv_iconst (v := 0) hx hb dX2_worked_20 (by decide) ?_
  refine lv_istore_n (lv' := [(3, .int 0), (0, .ref (ρ 2)), (1, .ref (ρ 14)), (2, .int a2)]) hx hb dX2_worked_21 rfl hl (by decide) rfl (fun ls hl => ?_)
  refine lv_iconst (v := 0) hx hb dX2_worked_22 (by decide) ?_
  refine lv_istore (lv' := [(4, .int 0), (3, .int 0), (0, .ref (ρ 2)), (1, .ref (ρ 14)), (2, .int a2)]) hx hb dX2_worked_23 hl (by decide) rfl (fun ls hl => ?_)
  refine lv_iconst (v := 1) hx hb dX2_worked_25 (by decide) ?_
  refine lv_istore (lv' := [(5, .int 1), (4, .int 0), (3, .int 0), (0, .ref (ρ 2)), (1, .ref (ρ 14)), (2, .int a2)]) hx hb dX2_worked_26 hl (by decide) rfl (fun ls hl => ?_)
  refine lv_iconst (v := 0) hx hb dX2_worked_28 (by decide) ?_
  refine lv_istore (lv' := [(6, .int 0), (5, .int 1), (4, .int 0), (3, .int 0), (0, .ref (ρ 2)), (1, .ref (ρ 14)), (2, .int a2)]) hx hb dX2_worked_29 hl (by decide) rfl (fun ls hl => ?_)
  exact b31 h hW (lv_sub hl [4, 3, 2, 1, 0] rfl)
end CT20_c04
