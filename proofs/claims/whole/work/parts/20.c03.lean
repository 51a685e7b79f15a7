section CT20_c03
variable {l : Launch} {D : va_G} {q : Nat → ClassId} {ρ : Nat → Nat} {sz : Nat} {T_price : Nat → Int32} {T_year : Nat → Int32} {T_joinEnds : Nat → Int32} {T_wallEnds : Nat → Int32} {T_cost : Nat → Int32} {T_doors : Int32} {T_joins : Int32} {T_walls : Int32} {T_oldWells : Int32} {T_apart : Int32} {L_tape : Nat → Int32} {L_text : Nat → Int32} {L_fed : Int32} {L_length : Int32} {L_read : Nat} {L_end : Int32} {L_at : Int32} {L_fault : Int32} {L_d : Int32} {L_p : Int32} {L_y : Int32} {L_j : Int32} {L_o : Int32} {P_away : Nat → Nat → Int32} {P_beside : Nat → Int32} {P_reach : Nat → Int32} {P_serves : Nat → Int32} {P_crowds : Nat → Int32} {P_servedLow : Nat → Int32} {P_servedHigh : Nat → Int32} {P_crowdedLow : Nat → Int32} {P_crowdedHigh : Nat → Int32} {P_there : Int32} {P_must : Int32} {P_can : Int32} {C_what : Nat → Int32} {C_number : Nat → Int32} {C_before : Nat → Int32} {C_after : Nat → Int32} {C_done : Int32} {C_kept : Int32} {A_kinds : Nat → Int32} {A_traced : Nat → Int32} {A_bodies : Int32} {A_began : Int32} {A_self : Int32} {A_kindOfSelf : Int32} {S_holds : Nat → Int32} {S_body : Nat → Int32} {S_sort : Nat → Int32} {S_size : Nat → Int32} {S_elements : Nat → Nat → Int64} {G_grown : Nat → Int32}
set_option maxHeartbeats 4000000 in
set_option maxRecDepth 100000 in
theorem c_X2_next_r14 {d : Nat} {res : Int32} (hd : 0 ≤ d) (h : f_X2_next_r14 L_text L_end L_at L_fault = some res) : zMi l yX2_next cX2_next 1 .int (zrm d) [.ref (ρ 2)] D q (WC q ρ T_price T_year T_joinEnds T_wallEnds T_cost T_doors T_joins T_walls T_oldWells T_apart L_tape L_text L_fed L_length 14 L_end L_at L_fault L_d L_p L_y L_j L_o P_away P_beside P_reach P_serves P_crowds P_servedLow P_servedHigh P_crowdedLow P_crowdedHigh P_there P_must P_can C_what C_number C_before C_after C_done C_kept A_kinds A_traced A_bodies A_began A_self A_kindOfSelf S_holds S_body S_sort S_size S_elements G_grown) sz res (WC q ρ T_price T_year T_joinEnds T_wallEnds T_cost T_doors T_joins T_walls T_oldWells T_apart L_tape L_text L_fed L_length 14 L_end L_at L_fault L_d L_p L_y L_j L_o P_away P_beside P_reach P_serves P_crowds P_servedLow P_servedHigh P_crowdedLow P_crowdedHigh P_there P_must P_can C_what C_number C_before C_after C_done C_kept A_kinds A_traced A_bodies A_began A_self A_kindOfSelf S_holds S_body S_sort S_size S_elements G_grown) := by
  refine zMet_i (own := RX2) _ (by decide) rfl (Nat.le_of_ble_eq_true rfl) ?_
  intro p e s m args below meth c A ls Q hC hW hl hret
  have hx := hC.1
  have hb := hC.2.1
  have hl : lv_has ls 1 [(0, .ref (ρ 2))] := hl
  unfold f_X2_next_r14 at h
  refine lv_aload_n hx hb dX2_next_0 rfl (lv_at hl 0 rfl) ?_
  refine z_get hC hW fg_X2_29 2 WC_2 rfl dX2_next_1 ?_
  refine lv_if_ge (tgt := 46) hx hb dX2_next_4 (by decide) (fun c1 => ?_) (fun c1 => ?_)
  · have h := ifp c1 h
    refine lv_iconst (v := (-1)) hx hb dX2_next_46 (by decide) ?_
    have h := Option.some.inj h
    subst h
    exact hret _ _ _ _ _ dX2_next_47 rfl rfl hW
  · have h := ifn c1 h
    refine lv_aload_n hx hb dX2_next_7 rfl (lv_at hl 0 rfl) ?_
    refine z_get hC hW fg_X2_80 2 WC_2 rfl dX2_next_8 ?_
    refine lv_aload_n hx hb dX2_next_11 rfl (lv_at hl 0 rfl) ?_
    refine z_get hC hW fg_X2_77 2 WC_2 rfl dX2_next_12 ?_
    refine lv_icmp_ge (tgt := 46) hx hb dX2_next_15 (by decide) (fun c2 => ?_) (fun c2 => ?_)
    · have h := ifp c2 h
      refine lv_iconst (v := (-1)) hx hb dX2_next_46 (by decide) ?_
      have h := Option.some.inj h
      subst h
      exact hret _ _ _ _ _ dX2_next_47 rfl rfl hW
    · have h := ifn c2 h
      refine lv_aload_n hx hb dX2_next_18 rfl (lv_at hl 0 rfl) ?_
      refine z_get hC hW fg_X2_80 2 WC_2 rfl dX2_next_19 ?_
      refine lv_aload_n hx hb dX2_next_22 rfl (lv_at hl 0 rfl) ?_
      refine z_get hC hW fg_X2_18 2 WC_2 rfl dX2_next_23 ?_
      refine z_alen hC hW 14 1 WC_14 rfl (v := 120) rfl dX2_next_26 ?_
      refine lv_icmp_ge (tgt := 46) hx hb dX2_next_27 (by decide) (fun c3 => ?_) (fun c3 => ?_)
      · have h := ifp c3 h
        refine lv_iconst (v := (-1)) hx hb dX2_next_46 (by decide) ?_
        have h := Option.some.inj h
        subst h
        exact hret _ _ _ _ _ dX2_next_47 rfl rfl hW
      · have h := ifn c3 h
        refine lv_aload_n hx hb dX2_next_30 rfl (lv_at hl 0 rfl) ?_
        refine z_get hC hW fg_X2_18 2 WC_2 rfl dX2_next_31 ?_
        refine lv_aload_n hx hb dX2_next_34 rfl (lv_at hl 0 rfl) ?_
        refine z_get hC hW fg_X2_80 2 WC_2 rfl dX2_next_35 ?_
        obtain ⟨g4, h⟩ := ix_some h
        refine z_bald hC hW 14 WC_14 g4 dX2_next_38 ?_
        refine lv_sipush (v := 255) hx hb dX2_next_39 (by decide) ?_
        refine lv_iand hx hb dX2_next_42 ?_
        refine lv_goto (tgt := 47) hx hb dX2_next_43 (by decide) ?_
        have h := Option.some.inj h
        subst h
        exact hret _ _ _ _ _ dX2_next_47 rfl rfl hW
set_option maxHeartbeats 4000000 in
set_option maxRecDepth 100000 in
theorem c_X2_rankOf {a0 : Int32} {d : Nat} {res : Int32} (hd : 0 ≤ d) (h : f_X2_rankOf a0 = some res) : zMi l yX2_rankOf cX2_rankOf 1 .int (zrm d) [.int a0] D q (WC q ρ T_price T_year T_joinEnds T_wallEnds T_cost T_doors T_joins T_walls T_oldWells T_apart L_tape L_text L_fed L_length L_read L_end L_at L_fault L_d L_p L_y L_j L_o P_away P_beside P_reach P_serves P_crowds P_servedLow P_servedHigh P_crowdedLow P_crowdedHigh P_there P_must P_can C_what C_number C_before C_after C_done C_kept A_kinds A_traced A_bodies A_began A_self A_kindOfSelf S_holds S_body S_sort S_size S_elements G_grown) sz res (WC q ρ T_price T_year T_joinEnds T_wallEnds T_cost T_doors T_joins T_walls T_oldWells T_apart L_tape L_text L_fed L_length L_read L_end L_at L_fault L_d L_p L_y L_j L_o P_away P_beside P_reach P_serves P_crowds P_servedLow P_servedHigh P_crowdedLow P_crowdedHigh P_there P_must P_can C_what C_number C_before C_after C_done C_kept A_kinds A_traced A_bodies A_began A_self A_kindOfSelf S_holds S_body S_sort S_size S_elements G_grown) := by
  refine zMet_i (own := RX2) _ (by decide) rfl (Nat.le_of_ble_eq_true rfl) ?_
  intro p e s m args below meth c A ls Q hC hW hl hret
  have hx := hC.1
  have hb := hC.2.1
  have hl : lv_has ls 1 [(0, .int a0)] := hl
  unfold f_X2_rankOf at h
  refine lv_iload_n hx hb dX2_rankOf_0 rfl (lv_at hl 0 rfl) ?_
  by_cases c1 : a0 = 37
  · have h := ifp c1 h
    refine z_luk hx hb (off := 99) (tgt := 100) 37 c1 (by decide) (by decide) dX2_rankOf_1 (by decide) ?_
    refine lv_iconst (v := 4) hx hb dX2_rankOf_100 (by decide) ?_
    have h := Option.some.inj h
    subst h
    exact hret _ _ _ _ _ dX2_rankOf_101 rfl rfl hW
  · have h := ifn c1 h
    by_cases c2 : a0 = 38
    · have h := ifp c2 h
      refine z_luk hx hb (off := 93) (tgt := 94) 38 c2 (by decide) (by decide) dX2_rankOf_1 (by decide) ?_
      refine lv_iconst (v := 1) hx hb dX2_rankOf_94 (by decide) ?_
      have h := Option.some.inj h
      subst h
      exact hret _ _ _ _ _ dX2_rankOf_95 rfl rfl hW
    · have h := ifn c2 h
      by_cases c3 : a0 = 42
      · have h := ifp c3 h
        refine z_luk hx hb (off := 99) (tgt := 100) 42 c3 (by decide) (by decide) dX2_rankOf_1 (by decide) ?_
        refine lv_iconst (v := 4) hx hb dX2_rankOf_100 (by decide) ?_
        have h := Option.some.inj h
        subst h
        exact hret _ _ _ _ _ dX2_rankOf_101 rfl rfl hW
      · have h := ifn c3 h
        by_cases c4 : a0 = 43
        · have h := ifp c4 h
          refine z_luk hx hb (off := 97) (tgt := 98) 43 c4 (by decide) (by decide) dX2_rankOf_1 (by decide) ?_
          refine lv_iconst (v := 3) hx hb dX2_rankOf_98 (by decide) ?_
          have h := Option.some.inj h
          subst h
          exact hret _ _ _ _ _ dX2_rankOf_99 rfl rfl hW
        · have h := ifn c4 h
          by_cases c5 : a0 = 45
          · have h := ifp c5 h
            refine z_luk hx hb (off := 97) (tgt := 98) 45 c5 (by decide) (by decide) dX2_rankOf_1 (by decide) ?_
            refine lv_iconst (v := 3) hx hb dX2_rankOf_98 (by decide) ?_
            have h := Option.some.inj h
            subst h
            exact hret _ _ _ _ _ dX2_rankOf_99 rfl rfl hW
          · have h := ifn c5 h
            by_cases c6 : a0 = 47
            · have h := ifp c6 h
              refine z_luk hx hb (off := 99) (tgt := 100) 47 c6 (by decide) (by decide) dX2_rankOf_1 (by decide) ?_
              refine lv_iconst (v := 4) hx hb dX2_rankOf_100 (by decide) ?_
              have h := Option.some.inj h
              subst h
              exact hret _ _ _ _ _ dX2_rankOf_101 rfl rfl hW
            · have h := ifn c6 h
              by_cases c7 : a0 = 60
              · have h := ifp c7 h
                refine z_luk hx hb (off := 95) (tgt := 96) 60 c7 (by decide) (by decide) dX2_rankOf_1 (by decide) ?_
                refine lv_iconst (v := 2) hx hb dX2_rankOf_96 (by decide) ?_
                have h := Option.some.inj h
                subst h
                exact hret _ _ _ _ _ dX2_rankOf_97 rfl rfl hW
              · have h := ifn c7 h
                by_cases c8 : a0 = 61
                · have h := ifp c8 h
                  refine z_luk hx hb (off := 95) (tgt := 96) 61 c8 (by decide) (by decide) dX2_rankOf_1 (by decide) ?_
                  refine lv_iconst (v := 2) hx hb dX2_rankOf_96 (by decide) ?_
                  have h := Option.some.inj h
                  subst h
                  exact hret _ _ _ _ _ dX2_rankOf_97 rfl rfl hW
                · have h := ifn c8 h
                  by_cases c9 : a0 = 62
                  · have h := ifp c9 h
                    refine z_luk hx hb (off := 95) (tgt := 96) 62 c9 (by decide) (by decide) dX2_rankOf_1 (by decide) ?_
                    refine lv_iconst (v := 2) hx hb dX2_rankOf_96 (by decide) ?_
                    have h := Option.some.inj h
                    subst h
                    exact hret _ _ _ _ _ dX2_rankOf_97 rfl rfl hW
                  · have h := ifn c9 h
                    by_cases c10 : a0 = 124
                    · have h := ifp c10 h
                      refine z_luk hx hb (off := 91) (tgt := 92) 124 c10 (by decide) (by decide) dX2_rankOf_1 (by decide) ?_
                      refine lv_iconst (v := 0) hx hb dX2_rankOf_92 (by decide) ?_
                      have h := Option.some.inj h
                      subst h
                      exact hret _ _ _ _ _ dX2_rankOf_93 rfl rfl hW
                    · have h := ifn c10 h
                      refine z_lukD hx hb (tgt := 102) [37, 38, 42, 43, 45, 47, 60, 61, 62, 124] (List.forall_mem_cons.mpr ⟨c1, List.forall_mem_cons.mpr ⟨c2, List.forall_mem_cons.mpr ⟨c3, List.forall_mem_cons.mpr ⟨c4, List.forall_mem_cons.mpr ⟨c5, List.forall_mem_cons.mpr ⟨c6, List.forall_mem_cons.mpr ⟨c7, List.forall_mem_cons.mpr ⟨c8, List.forall_mem_cons.mpr ⟨c9, List.forall_mem_cons.mpr ⟨c10, List.forall_mem_nil _⟩⟩⟩⟩⟩⟩⟩⟩⟩⟩) (by decide) (by decide) dX2_rankOf_1 (by decide) ?_
                      refine lv_iconst (v := (-1)) hx hb dX2_rankOf_102 (by decide) ?_
                      have h := Option.some.inj h
                      subst h
                      exact hret _ _ _ _ _ dX2_rankOf_103 rfl rfl hW
set_option maxHeartbeats 4000000 in
set_option maxRecDepth 100000 in
theorem c_X2_joined {a0 : Int32} {a1 : Int32} {a2 : Int32} {d : Nat} {res : Int32} (hd : 0 ≤ d) (h : f_X2_joined a0 a1 a2 = some res) : zMi l yX2_joined cX2_joined 3 .int (zrm d) [.int a0, .int a1, .int a2] D q (WC q ρ T_price T_year T_joinEnds T_wallEnds T_cost T_doors T_joins T_walls T_oldWells T_apart L_tape L_text L_fed L_length L_read L_end L_at L_fault L_d L_p L_y L_j L_o P_away P_beside P_reach P_serves P_crowds P_servedLow P_servedHigh P_crowdedLow P_crowdedHigh P_there P_must P_can C_what C_number C_before C_after C_done C_kept A_kinds A_traced A_bodies A_began A_self A_kindOfSelf S_holds S_body S_sort S_size S_elements G_grown) sz res (WC q ρ T_price T_year T_joinEnds T_wallEnds T_cost T_doors T_joins T_walls T_oldWells T_apart L_tape L_text L_fed L_length L_read L_end L_at L_fault L_d L_p L_y L_j L_o P_away P_beside P_reach P_serves P_crowds P_servedLow P_servedHigh P_crowdedLow P_crowdedHigh P_there P_must P_can C_what C_number C_before C_after C_done C_kept A_kinds A_traced A_bodies A_began A_self A_kindOfSelf S_holds S_body S_sort S_size S_elements G_grown) := by
  refine zMet_i (own := RX2) _ (by decide) rfl (Nat.le_of_ble_eq_true rfl) ?_
  intro p e s m args below meth c A ls Q hC hW hl hret
  have hx := hC.1
  have hb := hC.2.1
  have hl : lv_has ls 3 [(0, .int a0), (1, .int a1), (2, .int a2)] := hl
  unfold f_X2_joined at h
  refine lv_iload_n hx hb dX2_joined_0 rfl (lv_at hl 0 rfl) ?_
  by_cases c1 : a0 = 38
  · have h := ifp c1 h
    refine z_luk hx hb (off := 97) (tgt := 98) 38 c1 (by decide) (by decide) dX2_joined_1 (by decide) ?_
    refine lv_iload_n hx hb dX2_joined_98 rfl (lv_at hl 1 rfl) ?_
    refine lv_if_eq (tgt := 110) hx hb dX2_joined_99 (by decide) (fun c2 => ?_) (fun c2 => ?_)
    · have h := ifp c2 h
      refine lv_iconst (v := 0) hx hb dX2_joined_110 (by decide) ?_
      have h := Option.some.inj h
      subst h
      exact hret _ _ _ _ _ dX2_joined_111 rfl rfl hW
    · have h := ifn c2 h
      refine lv_iload_n hx hb dX2_joined_102 rfl (lv_at hl 2 rfl) ?_
      refine lv_if_eq (tgt := 110) hx hb dX2_joined_103 (by decide) (fun c3 => ?_) (fun c3 => ?_)
      · have h := ifp c3 h
        refine lv_iconst (v := 0) hx hb dX2_joined_110 (by decide) ?_
        have h := Option.some.inj h
        subst h
        exact hret _ _ _ _ _ dX2_joined_111 rfl rfl hW
      · have h := ifn c3 h
        refine lv_iconst (v := 1) hx hb dX2_joined_106 (by decide) ?_
        refine lv_goto (tgt := 111) hx hb dX2_joined_107 (by decide) ?_
        have h := Option.some.inj h
        subst h
        exact hret _ _ _ _ _ dX2_joined_111 rfl rfl hW
  · have h := ifn c1 h
    by_cases c4 : a0 = 42
    · have h := ifp c4 h
      refine z_luk hx hb (off := 152) (tgt := 153) 42 c4 (by decide) (by decide) dX2_joined_1 (by decide) ?_
      refine lv_iload_n hx hb dX2_joined_153 rfl (lv_at hl 1 rfl) ?_
      refine lv_iload_n hx hb dX2_joined_154 rfl (lv_at hl 2 rfl) ?_
      refine lv_imul hx hb dX2_joined_155 ?_
      have h := Option.some.inj h
      subst h
      exact hret _ _ _ _ _ dX2_joined_156 rfl rfl hW
    · have h := ifn c4 h
      by_cases c5 : a0 = 43
      · have h := ifp c5 h
        refine z_luk hx hb (off := 144) (tgt := 145) 43 c5 (by decide) (by decide) dX2_joined_1 (by decide) ?_
        refine lv_iload_n hx hb dX2_joined_145 rfl (lv_at hl 1 rfl) ?_
        refine lv_iload_n hx hb dX2_joined_146 rfl (lv_at hl 2 rfl) ?_
        refine lv_iadd hx hb dX2_joined_147 ?_
        have h := Option.some.inj h
        subst h
        exact hret _ _ _ _ _ dX2_joined_148 rfl rfl hW
      · have h := ifn c5 h
        by_cases c6 : a0 = 45
        · have h := ifp c6 h
          refine z_luk hx hb (off := 148) (tgt := 149) 45 c6 (by decide) (by decide) dX2_joined_1 (by decide) ?_
          refine lv_iload_n hx hb dX2_joined_149 rfl (lv_at hl 1 rfl) ?_
          refine lv_iload_n hx hb dX2_joined_150 rfl (lv_at hl 2 rfl) ?_
          refine lv_isub hx hb dX2_joined_151 ?_
          have h := Option.some.inj h
          subst h
          exact hret _ _ _ _ _ dX2_joined_152 rfl rfl hW
        · have h := ifn c6 h
          by_cases c7 : a0 = 47
          · have h := ifp c7 h
            refine z_luk hx hb (off := 156) (tgt := 157) 47 c7 (by decide) (by decide) dX2_joined_1 (by decide) ?_
            refine lv_iload_n hx hb dX2_joined_157 rfl (lv_at hl 2 rfl) ?_
            refine lv_if_ne (tgt := 165) hx hb dX2_joined_158 (by decide) (fun c8 => ?_) (fun c8 => ?_)
            · have h := ifn c8 h
              refine lv_iload_n hx hb dX2_joined_165 rfl (lv_at hl 1 rfl) ?_
              refine lv_iload_n hx hb dX2_joined_166 rfl (lv_at hl 2 rfl) ?_
              obtain ⟨g9, h⟩ := nz_some h
              refine lv_idiv hx hb dX2_joined_167 g9 ?_
              have h := Option.some.inj h
              subst h
              exact hret _ _ _ _ _ dX2_joined_168 rfl rfl hW
            · have h := ifp c8 h
              refine lv_iconst (v := 0) hx hb dX2_joined_161 (by decide) ?_
              refine lv_goto (tgt := 168) hx hb dX2_joined_162 (by decide) ?_
              have h := Option.some.inj h
              subst h
              exact hret _ _ _ _ _ dX2_joined_168 rfl rfl hW
          · have h := ifn c7 h
            by_cases c10 : a0 = 60
            · have h := ifp c10 h
              refine z_luk hx hb (off := 111) (tgt := 112) 60 c10 (by decide) (by decide) dX2_joined_1 (by decide) ?_
              refine lv_iload_n hx hb dX2_joined_112 rfl (lv_at hl 1 rfl) ?_
              refine lv_iload_n hx hb dX2_joined_113 rfl (lv_at hl 2 rfl) ?_
              refine lv_icmp_ge (tgt := 121) hx hb dX2_joined_114 (by decide) (fun c11 => ?_) (fun c11 => ?_)
              · have h := ifp c11 h
                refine lv_iconst (v := 0) hx hb dX2_joined_121 (by decide) ?_
                have h := Option.some.inj h
                subst h
                exact hret _ _ _ _ _ dX2_joined_122 rfl rfl hW
              · have h := ifn c11 h
                refine lv_iconst (v := 1) hx hb dX2_joined_117 (by decide) ?_
                refine lv_goto (tgt := 122) hx hb dX2_joined_118 (by decide) ?_
                have h := Option.some.inj h
                subst h
                exact hret _ _ _ _ _ dX2_joined_122 rfl rfl hW
            · have h := ifn c10 h
              by_cases c12 : a0 = 61
              · have h := ifp c12 h
                refine z_luk hx hb (off := 122) (tgt := 123) 61 c12 (by decide) (by decide) dX2_joined_1 (by decide) ?_
                refine lv_iload_n hx hb dX2_joined_123 rfl (lv_at hl 1 rfl) ?_
                refine lv_iload_n hx hb dX2_joined_124 rfl (lv_at hl 2 rfl) ?_
                refine lv_icmp_ne (tgt := 132) hx hb dX2_joined_125 (by decide) (fun c13 => ?_) (fun c13 => ?_)
                · have h := ifn c13 h
                  refine lv_iconst (v := 0) hx hb dX2_joined_132 (by decide) ?_
                  have h := Option.some.inj h
                  subst h
                  exact hret _ _ _ _ _ dX2_joined_133 rfl rfl hW
                · have h := ifp c13 h
                  refine lv_iconst (v := 1) hx hb dX2_joined_128 (by decide) ?_
                  refine lv_goto (tgt := 133) hx hb dX2_joined_129 (by decide) ?_
                  have h := Option.some.inj h
                  subst h
                  exact hret _ _ _ _ _ dX2_joined_133 rfl rfl hW
              · have h := ifn c12 h
                by_cases c14 : a0 = 62
                · have h := ifp c14 h
                  refine z_luk hx hb (off := 133) (tgt := 134) 62 c14 (by decide) (by decide) dX2_joined_1 (by decide) ?_
                  refine lv_iload_n hx hb dX2_joined_134 rfl (lv_at hl 1 rfl) ?_
                  refine lv_iload_n hx hb dX2_joined_135 rfl (lv_at hl 2 rfl) ?_
                  refine lv_icmp_le (tgt := 143) hx hb dX2_joined_136 (by decide) (fun c15 => ?_) (fun c15 => ?_)
                  · have h := ifp c15 h
                    refine lv_iconst (v := 0) hx hb dX2_joined_143 (by decide) ?_
                    have h := Option.some.inj h
                    subst h
                    exact hret _ _ _ _ _ dX2_joined_144 rfl rfl hW
                  · have h := ifn c15 h
                    refine lv_iconst (v := 1) hx hb dX2_joined_139 (by decide) ?_
                    refine lv_goto (tgt := 144) hx hb dX2_joined_140 (by decide) ?_
                    have h := Option.some.inj h
                    subst h
                    exact hret _ _ _ _ _ dX2_joined_144 rfl rfl hW
                · have h := ifn c14 h
                  by_cases c16 : a0 = 124
                  · have h := ifp c16 h
                    refine z_luk hx hb (off := 83) (tgt := 84) 124 c16 (by decide) (by decide) dX2_joined_1 (by decide) ?_
                    refine lv_iload_n hx hb dX2_joined_84 rfl (lv_at hl 1 rfl) ?_
                    refine lv_if_ne (tgt := 92) hx hb dX2_joined_85 (by decide) (fun c17 => ?_) (fun c17 => ?_)
                    · have h := ifn c17 h
                      refine lv_iconst (v := 1) hx hb dX2_joined_92 (by decide) ?_
                      refine lv_goto (tgt := 97) hx hb dX2_joined_93 (by decide) ?_
                      have h := Option.some.inj h
                      subst h
                      exact hret _ _ _ _ _ dX2_joined_97 rfl rfl hW
                    · have h := ifp c17 h
                      refine lv_iload_n hx hb dX2_joined_88 rfl (lv_at hl 2 rfl) ?_
                      refine lv_if_eq (tgt := 96) hx hb dX2_joined_89 (by decide) (fun c18 => ?_) (fun c18 => ?_)
                      · have h := ifp c18 h
                        refine lv_iconst (v := 0) hx hb dX2_joined_96 (by decide) ?_
                        have h := Option.some.inj h
                        subst h
                        exact hret _ _ _ _ _ dX2_joined_97 rfl rfl hW
                      · have h := ifn c18 h
                        refine lv_iconst (v := 1) hx hb dX2_joined_92 (by decide) ?_
                        refine lv_goto (tgt := 97) hx hb dX2_joined_93 (by decide) ?_
                        have h := Option.some.inj h
                        subst h
                        exact hret _ _ _ _ _ dX2_joined_97 rfl rfl hW
                  · have h := ifn c16 h
                    refine z_lukD hx hb (tgt := 169) [38, 42, 43, 45, 47, 60, 61, 62, 124] (List.forall_mem_cons.mpr ⟨c1, List.forall_mem_cons.mpr ⟨c4, List.forall_mem_cons.mpr ⟨c5, List.forall_mem_cons.mpr ⟨c6, List.forall_mem_cons.mpr ⟨c7, List.forall_mem_cons.mpr ⟨c10, List.forall_mem_cons.mpr ⟨c12, List.forall_mem_cons.mpr ⟨c14, List.forall_mem_cons.mpr ⟨c16, List.forall_mem_nil _⟩⟩⟩⟩⟩⟩⟩⟩⟩) (by decide) (by decide) dX2_joined_1 (by decide) ?_
                    refine lv_iload_n hx hb dX2_joined_169 rfl (lv_at hl 2 rfl) ?_
                    refine lv_if_ne (tgt := 177) hx hb dX2_joined_170 (by decide) (fun c19 => ?_) (fun c19 => ?_)
                    · have h := ifn c19 h
                      refine lv_iload_n hx hb dX2_joined_177 rfl (lv_at hl 1 rfl) ?_
                      refine lv_iload_n hx hb dX2_joined_178 rfl (lv_at hl 2 rfl) ?_
                      obtain ⟨g20, h⟩ := nz_some h
                      refine lv_irem hx hb dX2_joined_179 g20 ?_
                      have h := Option.some.inj h
                      subst h
                      exact hret _ _ _ _ _ dX2_joined_180 rfl rfl hW
                    · have h := ifp c19 h
                      refine lv_iconst (v := 0) hx hb dX2_joined_173 (by decide) ?_
                      refine lv_goto (tgt := 180) hx hb dX2_joined_174 (by decide) ?_
                      have h := Option.some.inj h
                      subst h
                      exact hret _ _ _ _ _ dX2_joined_180 rfl rfl hW
set_option maxHeartbeats 4000000 in
set_option maxRecDepth 100000 in
theorem c_X2_isDigit {a0 : Int32} {d : Nat} {res : Int32} (hd : 0 ≤ d) (h : f_X2_isDigit a0 = some res) : zMi l yX2_isDigit cX2_isDigit 1 .boolean (zrm d) [.int a0] D q (WC q ρ T_price T_year T_joinEnds T_wallEnds T_cost T_doors T_joins T_walls T_oldWells T_apart L_tape L_text L_fed L_length L_read L_end L_at L_fault L_d L_p L_y L_j L_o P_away P_beside P_reach P_serves P_crowds P_servedLow P_servedHigh P_crowdedLow P_crowdedHigh P_there P_must P_can C_what C_number C_before C_after C_done C_kept A_kinds A_traced A_bodies A_began A_self A_kindOfSelf S_holds S_body S_sort S_size S_elements G_grown) sz res (WC q ρ T_price T_year T_joinEnds T_wallEnds T_cost T_doors T_joins T_walls T_oldWells T_apart L_tape L_text L_fed L_length L_read L_end L_at L_fault L_d L_p L_y L_j L_o P_away P_beside P_reach P_serves P_crowds P_servedLow P_servedHigh P_crowdedLow P_crowdedHigh P_there P_must P_can C_what C_number C_before C_after C_done C_kept A_kinds A_traced A_bodies A_began A_self A_kindOfSelf S_holds S_body S_sort S_size S_elements G_grown) := by
  refine zMet_i (own := RX2) _ (by decide) rfl (Nat.le_of_ble_eq_true rfl) ?_
  intro p e s m args below meth c A ls Q hC hW hl hret
  have hx := hC.1
  have hb := hC.2.1
  have hl : lv_has ls 1 [(0, .int a0)] := hl
  unfold f_X2_isDigit at h
  refine lv_iload_n hx hb dX2_isDigit_0 rfl (lv_at hl 0 rfl) ?_
  refine lv_bipush (v := 48) hx hb dX2_isDigit_1 (by decide) ?_
  refine lv_icmp_lt (tgt := 16) hx hb dX2_isDigit_3 (by decide) (fun c1 => ?_) (fun c1 => ?_)
  · have h := ifp c1 h
    refine lv_iconst (v := 0) hx hb dX2_isDigit_16 (by decide) ?_
    have h := Option.some.inj h
    subst h
    exact hret _ _ _ _ _ dX2_isDigit_17 rfl rfl hW
  · have h := ifn c1 h
    refine lv_iload_n hx hb dX2_isDigit_6 rfl (lv_at hl 0 rfl) ?_
    refine lv_bipush (v := 57) hx hb dX2_isDigit_7 (by decide) ?_
    refine lv_icmp_gt (tgt := 16) hx hb dX2_isDigit_9 (by decide) (fun c2 => ?_) (fun c2 => ?_)
    · have h := ifp c2 h
      refine lv_iconst (v := 0) hx hb dX2_isDigit_16 (by decide) ?_
      have h := Option.some.inj h
      subst h
      exact hret _ _ _ _ _ dX2_isDigit_17 rfl rfl hW
    · have h := ifn c2 h
      refine lv_iconst (v := 1) hx hb dX2_isDigit_12 (by decide) ?_
      refine lv_goto (tgt := 17) hx hb dX2_isDigit_13 (by decide) ?_
      have h := Option.some.inj h
      subst h
      exact hret _ _ _ _ _ dX2_isDigit_17 rfl rfl hW
set_option maxHeartbeats 4000000 in
set_option maxRecDepth 100000 in
theorem c_X2_named {a1 : Int32} {d : Nat} {res : Int32 × Int32 × Int32} (hd : 1 ≤ d) (h : f_X2_named a1 L_at L_fault L_d L_p L_y L_j L_o = some res) : zMi l yX2_named cX2_named 3 .int (zrm d) [.ref (ρ 2), .int a1] D q (WC q ρ T_price T_year T_joinEnds T_wallEnds T_cost T_doors T_joins T_walls T_oldWells T_apart L_tape L_text L_fed L_length L_read L_end L_at L_fault L_d L_p L_y L_j L_o P_away P_beside P_reach P_serves P_crowds P_servedLow P_servedHigh P_crowdedLow P_crowdedHigh P_there P_must P_can C_what C_number C_before C_after C_done C_kept A_kinds A_traced A_bodies A_began A_self A_kindOfSelf S_holds S_body S_sort S_size S_elements G_grown) sz res.1 (WC q ρ T_price T_year T_joinEnds T_wallEnds T_cost T_doors T_joins T_walls T_oldWells T_apart L_tape L_text L_fed L_length L_read L_end res.2.1 res.2.2 L_d L_p L_y L_j L_o P_away P_beside P_reach P_serves P_crowds P_servedLow P_servedHigh P_crowdedLow P_crowdedHigh P_there P_must P_can C_what C_number C_before C_after C_done C_kept A_kinds A_traced A_bodies A_began A_self A_kindOfSelf S_holds S_body S_sort S_size S_elements G_grown) := by
  refine zMet_i (own := RX2) _ (by decide) rfl (Nat.le_of_ble_eq_true rfl) ?_
  intro p e s m args below meth c A ls Q hC hW hl hret
  have hx := hC.1
  have hb := hC.2.1
  have hl : lv_has ls 3 [(0, .ref (ρ 2)), (1, .int a1)] := hl
  have b97 : ∀ {x2 : Int32} {L_at : Int32} {L_fault : Int32} {H : Heap} {locs : List Loc} {ls : Array Slot}, f_X2_named_b97 x2 L_at L_fault = some res → zW D A s.heap (WC q ρ T_price T_year T_joinEnds T_wallEnds T_cost T_doors T_joins T_walls T_oldWells T_apart L_tape L_text L_fed L_length L_read L_end L_at L_fault L_d L_p L_y L_j L_o P_away P_beside P_reach P_serves P_crowds P_servedLow P_servedHigh P_crowdedLow P_crowdedHigh P_there P_must P_can C_what C_number C_before C_after C_done C_kept A_kinds A_traced A_bodies A_began A_self A_kindOfSelf S_holds S_body S_sort S_size S_elements G_grown) H locs → lv_has ls 3 [(0, .ref (ρ 2)), (2, .int x2)] → W p l e (zrm d) s m args below meth c H locs 0 0 Q (F0 m 97 ls []) := by
    intro x2 L_at L_fault H locs ls h hW hl
    unfold f_X2_named_b97 at h
    refine lv_aload_n hx hb dX2_named_97 rfl (lv_at hl 0 rfl) ?_
    refine lv_dup hx hb dX2_named_98 rfl ?_
    refine z_get hC hW fg_X2_80 2 WC_2 rfl dX2_named_99 ?_
    refine lv_iconst (v := 1) hx hb dX2_named_102 (by decide) ?_
    refine lv_iadd hx hb dX2_named_103 ?_
    refine z_put hC hW fp_X2_80 2 WC_2 (Nat.le_of_ble_eq_true rfl) rfl rfl WCs_L_at dX2_named_104 (fun H locs hW => ?_)
    refine lv_iload_n hx hb dX2_named_107 rfl (lv_at hl 1 rfl) ?_
    have h := Option.some.inj h
    subst h
    exact hret _ _ _ _ _ dX2_named_108 rfl rfl hW
  unfold f_X2_named at h
  refine lv_iload_n hx hb dX2_named_0 rfl (lv_at hl 1 rfl) ?_
  by_cases c1 : a1 = 100
  · have h := ifp c1 h
    refine z_luk hx hb (off := 51) (tgt := 52) 100 c1 (by decide) (by decide) dX2_named_1 (by decide) ?_
    refine lv_aload_n hx hb dX2_named_52 rfl (lv_at hl 0 rfl) ?_
    refine z_get hC hW fg_X2_41 2 WC_2 rfl dX2_named_53 ?_
    refine lv_istore_n (lv' := [(2, .int L_d), (0, .ref (ρ 2)), (1, .int a1)]) hx hb dX2_named_56 rfl hl (by decide) rfl (fun ls hl => ?_)
    refine lv_goto (tgt := 97) hx hb dX2_named_57 (by decide) ?_
    exact b97 h hW (lv_sub hl [1, 0] rfl)
  · have h := ifn c1 h
    by_cases c2 : a1 = 106
    · have h := ifp c2 h
      refine z_luk hx hb (off := 75) (tgt := 76) 106 c2 (by decide) (by decide) dX2_named_1 (by decide) ?_
      refine lv_aload_n hx hb dX2_named_76 rfl (lv_at hl 0 rfl) ?_
      refine z_get hC hW fg_X2_63 2 WC_2 rfl dX2_named_77 ?_
      refine lv_istore_n (lv' := [(2, .int L_j), (0, .ref (ρ 2)), (1, .int a1)]) hx hb dX2_named_80 rfl hl (by decide) rfl (fun ls hl => ?_)
      refine lv_goto (tgt := 97) hx hb dX2_named_81 (by decide) ?_
      exact b97 h hW (lv_sub hl [1, 0] rfl)
    · have h := ifn c2 h
      by_cases c3 : a1 = 111
      · have h := ifp c3 h
        refine z_luk hx hb (off := 83) (tgt := 84) 111 c3 (by decide) (by decide) dX2_named_1 (by decide) ?_
        refine lv_aload_n hx hb dX2_named_84 rfl (lv_at hl 0 rfl) ?_
        refine z_get hC hW fg_X2_66 2 WC_2 rfl dX2_named_85 ?_
        refine lv_istore_n (lv' := [(2, .int L_o), (0, .ref (ρ 2)), (1, .int a1)]) hx hb dX2_named_88 rfl hl (by decide) rfl (fun ls hl => ?_)
        refine lv_goto (tgt := 97) hx hb dX2_named_89 (by decide) ?_
        exact b97 h hW (lv_sub hl [1, 0] rfl)
      · have h := ifn c3 h
        by_cases c4 : a1 = 112
        · have h := ifp c4 h
          refine z_luk hx hb (off := 59) (tgt := 60) 112 c4 (by decide) (by decide) dX2_named_1 (by decide) ?_
          refine lv_aload_n hx hb dX2_named_60 rfl (lv_at hl 0 rfl) ?_
          refine z_get hC hW fg_X2_50 2 WC_2 rfl dX2_named_61 ?_
          refine lv_istore_n (lv' := [(2, .int L_p), (0, .ref (ρ 2)), (1, .int a1)]) hx hb dX2_named_64 rfl hl (by decide) rfl (fun ls hl => ?_)
          refine lv_goto (tgt := 97) hx hb dX2_named_65 (by decide) ?_
          exact b97 h hW (lv_sub hl [1, 0] rfl)
        · have h := ifn c4 h
          by_cases c5 : a1 = 121
          · have h := ifp c5 h
            refine z_luk hx hb (off := 67) (tgt := 68) 121 c5 (by decide) (by decide) dX2_named_1 (by decide) ?_
            refine lv_aload_n hx hb dX2_named_68 rfl (lv_at hl 0 rfl) ?_
            refine z_get hC hW fg_X2_56 2 WC_2 rfl dX2_named_69 ?_
            refine lv_istore_n (lv' := [(2, .int L_y), (0, .ref (ρ 2)), (1, .int a1)]) hx hb dX2_named_72 rfl hl (by decide) rfl (fun ls hl => ?_)
            refine lv_goto (tgt := 97) hx hb dX2_named_73 (by decide) ?_
            exact b97 h hW (lv_sub hl [1, 0] rfl)
          · have h := ifn c5 h
            refine z_lukD hx hb (tgt := 92) [100, 106, 111, 112, 121] (List.forall_mem_cons.mpr ⟨c1, List.forall_mem_cons.mpr ⟨c2, List.forall_mem_cons.mpr ⟨c3, List.forall_mem_cons.mpr ⟨c4, List.forall_mem_cons.mpr ⟨c5, List.forall_mem_nil _⟩⟩⟩⟩⟩) (by decide) (by decide) dX2_named_1 (by decide) ?_
            refine lv_aload_n hx hb dX2_named_92 rfl (lv_at hl 0 rfl) ?_
            obtain ⟨u6, eu6, h⟩ := bd_some h
            refine z_callV_i hC hW (rest := []) (c_X2_broken (d := 0) (Nat.le_refl _) eu6) vw_X2_90 WC_2 rfl ⟨rfl, rfl⟩ (zrm_ok (by omega) (by decide)) rfl rfl hl.1 (Nat.le_of_ble_eq_true rfl) dX2_named_93 (fun H locs hW => ?_)
            have h := Option.some.inj h
            subst h
            exact hret _ _ _ _ _ dX2_named_96 rfl rfl hW
end CT20_c03
