section CT20_c09
variable {l : Launch} {D : va_G} {q : Nat → ClassId} {ρ : Nat → Nat} {sz : Nat} {T_price : Nat → Int32} {T_year : Nat → Int32} {T_joinEnds : Nat → Int32} {T_wallEnds : Nat → Int32} {T_cost : Nat → Int32} {T_doors : Int32} {T_joins : Int32} {T_walls : Int32} {T_oldWells : Int32} {T_apart : Int32} {L_tape : Nat → Int32} {L_text : Nat → Int32} {L_fed : Int32} {L_length : Int32} {L_read : Nat} {L_end : Int32} {L_at : Int32} {L_fault : Int32} {L_d : Int32} {L_p : Int32} {L_y : Int32} {L_j : Int32} {L_o : Int32} {P_away : Nat → Nat → Int32} {P_beside : Nat → Int32} {P_reach : Nat → Int32} {P_serves : Nat → Int32} {P_crowds : Nat → Int32} {P_servedLow : Nat → Int32} {P_servedHigh : Nat → Int32} {P_crowdedLow : Nat → Int32} {P_crowdedHigh : Nat → Int32} {P_there : Int32} {P_must : Int32} {P_can : Int32} {C_what : Nat → Int32} {C_number : Nat → Int32} {C_before : Nat → Int32} {C_after : Nat → Int32} {C_done : Int32} {C_kept : Int32} {A_kinds : Nat → Int32} {A_traced : Nat → Int32} {A_bodies : Int32} {A_began : Int32} {A_self : Int32} {A_kindOfSelf : Int32} {S_holds : Nat → Int32} {S_body : Nat → Int32} {S_sort : Nat → Int32} {S_size : Nat → Int32} {S_elements : Nat → Nat → Int64} {G_grown : Nat → Int32}
set_option maxHeartbeats 4000000 in
set_option maxRecDepth 100000 in
theorem c_X3_lay {a3 : Int32} {a4 : Int32} {a5 : Int32} {d : Nat} {res : Nat × Int32 × Int32 × Int32 × Int32 × Int32 × Int32 × Int32 × Int32 × (Nat → Nat → Int32) × (Nat → Int32) × (Nat → Int32) × (Nat → Int32) × (Nat → Int32) × (Nat → Int32) × (Nat → Int32) × (Nat → Int32) × (Nat → Int32) × Int32 × Int32 × Int32} (hd : 82 ≤ d) (h : f_X3_lay a3 a4 a5 T_price T_year T_joinEnds T_wallEnds T_doors T_joins T_walls T_apart L_text L_length L_read L_end L_at L_fault L_d L_p L_y L_j L_o P_away P_beside P_reach P_serves P_crowds P_servedLow P_servedHigh P_crowdedLow P_crowdedHigh P_there P_must P_can = some res) : zMv l yX3_lay cX3_lay 7 (zrm d) [.ref (ρ 3), .ref (ρ 1), .ref (ρ 2), .int a3, .int a4, .int a5] D q (WC q ρ T_price T_year T_joinEnds T_wallEnds T_cost T_doors T_joins T_walls T_oldWells T_apart L_tape L_text L_fed L_length L_read L_end L_at L_fault L_d L_p L_y L_j L_o P_away P_beside P_reach P_serves P_crowds P_servedLow P_servedHigh P_crowdedLow P_crowdedHigh P_there P_must P_can C_what C_number C_before C_after C_done C_kept A_kinds A_traced A_bodies A_began A_self A_kindOfSelf S_holds S_body S_sort S_size S_elements G_grown) sz (WC q ρ T_price T_year T_joinEnds T_wallEnds T_cost T_doors T_joins T_walls T_oldWells T_apart L_tape L_text L_fed L_length res.1 res.2.1 res.2.2.1 res.2.2.2.1 res.2.2.2.2.1 res.2.2.2.2.2.1 res.2.2.2.2.2.2.1 res.2.2.2.2.2.2.2.1 res.2.2.2.2.2.2.2.2.1 res.2.2.2.2.2.2.2.2.2.1 res.2.2.2.2.2.2.2.2.2.2.1 res.2.2.2.2.2.2.2.2.2.2.2.1 res.2.2.2.2.2.2.2.2.2.2.2.2.1 res.2.2.2.2.2.2.2.2.2.2.2.2.2.1 res.2.2.2.2.2.2.2.2.2.2.2.2.2.2.1 res.2.2.2.2.2.2.2.2.2.2.2.2.2.2.2.1 res.2.2.2.2.2.2.2.2.2.2.2.2.2.2.2.2.1 res.2.2.2.2.2.2.2.2.2.2.2.2.2.2.2.2.2.1 res.2.2.2.2.2.2.2.2.2.2.2.2.2.2.2.2.2.2.1 res.2.2.2.2.2.2.2.2.2.2.2.2.2.2.2.2.2.2.2.1 res.2.2.2.2.2.2.2.2.2.2.2.2.2.2.2.2.2.2.2.2 C_what C_number C_before C_after C_done C_kept A_kinds A_traced A_bodies A_began A_self A_kindOfSelf S_holds S_body S_sort S_size S_elements G_grown) := by
  refine zMet_v (own := RX3) (by decide) rfl (Nat.le_of_ble_eq_true rfl) ?_
  intro p e s m args below meth c A ls Q hC hW hl hret
  have hx := hC.1
  have hb := hC.2.1
  have hl : lv_has ls 7 [(0, .ref (ρ 3)), (1, .ref (ρ 1)), (2, .ref (ρ 2)), (3, .int a3), (4, .int a4), (5, .int a5)] := hl
  have b157 : ∀ {L_read : Nat} {L_end : Int32} {L_at : Int32} {L_fault : Int32} {L_d : Int32} {L_p : Int32} {L_y : Int32} {L_j : Int32} {L_o : Int32} {P_away : Nat → Nat → Int32} {P_beside : Nat → Int32} {P_reach : Nat → Int32} {P_servedLow : Nat → Int32} {P_servedHigh : Nat → Int32} {P_crowdedLow : Nat → Int32} {P_crowdedHigh : Nat → Int32} {P_there : Int32} {P_must : Int32} {P_can : Int32} {n : Nat} {x6 : Int32} {P_serves : Nat → Int32} {P_crowds : Nat → Int32} {H : Heap} {locs : List Loc} {ls : Array Slot}, f_X3_lay_b157 T_apart L_read L_end L_at L_fault L_d L_p L_y L_j L_o P_away P_beside P_reach P_servedLow P_servedHigh P_crowdedLow P_crowdedHigh P_there P_must P_can n x6 P_serves P_crowds = some res → zW D A s.heap (WC q ρ T_price T_year T_joinEnds T_wallEnds T_cost T_doors T_joins T_walls T_oldWells T_apart L_tape L_text L_fed L_length L_read L_end L_at L_fault L_d L_p L_y L_j L_o P_away P_beside P_reach P_serves P_crowds P_servedLow P_servedHigh P_crowdedLow P_crowdedHigh P_there P_must P_can C_what C_number C_before C_after C_done C_kept A_kinds A_traced A_bodies A_began A_self A_kindOfSelf S_holds S_body S_sort S_size S_elements G_grown) H locs → lv_has ls 7 [(0, .ref (ρ 3)), (1, .ref (ρ 1)), (6, .int x6)] → W p l e (zrm d) s m args below meth c H locs 0 0 Q (F0 m 157 ls []) := by
    intro L_read L_end L_at L_fault L_d L_p L_y L_j L_o P_away P_beside P_reach P_servedLow P_servedHigh P_crowdedLow P_crowdedHigh P_there P_must P_can
    intro n
    induction n with
    | zero =>
      intro x6 P_serves P_crowds H locs ls h
      rw [f_X3_lay_b157] at h
      cases h
    | succ n ih =>
      intro x6 P_serves P_crowds H locs ls h hW hl
      rw [f_X3_lay_b157] at h
      refine lv_iload hx hb dX3_lay_157 (lv_at hl 2 rfl) ?_
      refine lv_bipush (v := 14) hx hb dX3_lay_159 (by decide) ?_
      refine lv_icmp_ge (tgt := 180) hx hb dX3_lay_161 (by decide) (fun c7 => ?_) (fun c7 => ?_)
      · have h := ifp c7 h
        refine lv_aload_n hx hb dX3_lay_180 rfl (lv_at hl 0 rfl) ?_
        refine z_get hC hW fg_X3_23 3 WC_3 rfl dX3_lay_181 ?_
        refine lv_iconst (v := 0) hx hb dX3_lay_184 (by decide) ?_
        refine lv_aload_n hx hb dX3_lay_185 rfl (lv_at hl 0 rfl) ?_
        refine z_get hC hW fg_X3_29 3 WC_3 rfl dX3_lay_186 ?_
        obtain ⟨u8, eu8, h⟩ := bd_some h
        refine z_callS_v hC hW (rest := []) (c_X3_gather_serves_servedLow (d := 0) (Nat.le_refl _) eu8) sw_X3_93 ⟨rfl, rfl⟩ (zrm_ok (by omega) (by decide)) rfl rfl hl.1 (Nat.le_of_ble_eq_true rfl) dX3_lay_189 (fun H locs hW => ?_)
        refine lv_aload_n hx hb dX3_lay_192 rfl (lv_at hl 0 rfl) ?_
        refine z_get hC hW fg_X3_23 3 WC_3 rfl dX3_lay_193 ?_
        refine lv_bipush (v := 7) hx hb dX3_lay_196 (by decide) ?_
        refine lv_aload_n hx hb dX3_lay_198 rfl (lv_at hl 0 rfl) ?_
        refine z_get hC hW fg_X3_32 3 WC_3 rfl dX3_lay_199 ?_
        obtain ⟨u9, eu9, h⟩ := bd_some h
        refine z_callS_v hC hW (rest := []) (c_X3_gather_serves_servedHigh (d := 0) (Nat.le_refl _) eu9) sw_X3_93 ⟨rfl, rfl⟩ (zrm_ok (by omega) (by decide)) rfl rfl hl.1 (Nat.le_of_ble_eq_true rfl) dX3_lay_202 (fun H locs hW => ?_)
        refine lv_aload_n hx hb dX3_lay_205 rfl (lv_at hl 0 rfl) ?_
        refine z_get hC hW fg_X3_26 3 WC_3 rfl dX3_lay_206 ?_
        refine lv_iconst (v := 0) hx hb dX3_lay_209 (by decide) ?_
        refine lv_aload_n hx hb dX3_lay_210 rfl (lv_at hl 0 rfl) ?_
        refine z_get hC hW fg_X3_35 3 WC_3 rfl dX3_lay_211 ?_
        obtain ⟨u10, eu10, h⟩ := bd_some h
        refine z_callS_v hC hW (rest := []) (c_X3_gather_crowds_crowdedLow (d := 0) (Nat.le_refl _) eu10) sw_X3_93 ⟨rfl, rfl⟩ (zrm_ok (by omega) (by decide)) rfl rfl hl.1 (Nat.le_of_ble_eq_true rfl) dX3_lay_214 (fun H locs hW => ?_)
        refine lv_aload_n hx hb dX3_lay_217 rfl (lv_at hl 0 rfl) ?_
        refine z_get hC hW fg_X3_26 3 WC_3 rfl dX3_lay_218 ?_
        refine lv_bipush (v := 7) hx hb dX3_lay_221 (by decide) ?_
        refine lv_aload_n hx hb dX3_lay_223 rfl (lv_at hl 0 rfl) ?_
        refine z_get hC hW fg_X3_38 3 WC_3 rfl dX3_lay_224 ?_
        obtain ⟨u11, eu11, h⟩ := bd_some h
        refine z_callS_v hC hW (rest := []) (c_X3_gather_crowds_crowdedHigh (d := 0) (Nat.le_refl _) eu11) sw_X3_93 ⟨rfl, rfl⟩ (zrm_ok (by omega) (by decide)) rfl rfl hl.1 (Nat.le_of_ble_eq_true rfl) dX3_lay_227 (fun H locs hW => ?_)
        have h := Option.some.inj h
        subst h
        exact hret _ _ _ _ dX3_lay_230 hW
      · have h := ifn c7 h
        refine lv_aload_n hx hb dX3_lay_164 rfl (lv_at hl 0 rfl) ?_
        refine lv_iload hx hb dX3_lay_165 (lv_at hl 2 rfl) ?_
        refine lv_aload_n hx hb dX3_lay_167 rfl (lv_at hl 1 rfl) ?_
        refine z_get hC hW fg_X3_86 1 WC_1 rfl dX3_lay_168 ?_
        obtain ⟨u12, eu12, h⟩ := bd_some h
        refine z_callV_v hC hW (rest := []) (c_X3_measure (d := 1) (Nat.le_refl _) eu12) vw_X3_89 WC_3 rfl ⟨rfl, rfl⟩ (zrm_ok (by omega) (by decide)) rfl rfl hl.1 (Nat.le_of_ble_eq_true rfl) dX3_lay_171 (fun H locs hW => ?_)
        refine lv_iinc (v := (x6 + 1)) (lv' := [(6, .int (x6 + 1)), (0, .ref (ρ 3)), (1, .ref (ρ 1))]) hx hb dX3_lay_174 hl (k := 2) rfl rfl (by decide) rfl (fun ls hl => ?_)
        refine lv_goto (tgt := 157) hx hb dX3_lay_177 (by decide) ?_
        exact ih h hW (lv_sub hl [1, 2, 0] rfl)
  have b135 : ∀ {L_read : Nat} {L_end : Int32} {L_at : Int32} {L_fault : Int32} {L_d : Int32} {L_p : Int32} {L_y : Int32} {L_j : Int32} {L_o : Int32} {P_beside : Nat → Int32} {P_reach : Nat → Int32} {P_serves : Nat → Int32} {P_crowds : Nat → Int32} {P_servedLow : Nat → Int32} {P_servedHigh : Nat → Int32} {P_crowdedLow : Nat → Int32} {P_crowdedHigh : Nat → Int32} {P_there : Int32} {P_must : Int32} {P_can : Int32} {n : Nat} {x6 : Int32} {P_away : Nat → Nat → Int32} {H : Heap} {locs : List Loc} {ls : Array Slot}, f_X3_lay_b135 T_apart L_read L_end L_at L_fault L_d L_p L_y L_j L_o P_beside P_reach P_serves P_crowds P_servedLow P_servedHigh P_crowdedLow P_crowdedHigh P_there P_must P_can n x6 P_away = some res → zW D A s.heap (WC q ρ T_price T_year T_joinEnds T_wallEnds T_cost T_doors T_joins T_walls T_oldWells T_apart L_tape L_text L_fed L_length L_read L_end L_at L_fault L_d L_p L_y L_j L_o P_away P_beside P_reach P_serves P_crowds P_servedLow P_servedHigh P_crowdedLow P_crowdedHigh P_there P_must P_can C_what C_number C_before C_after C_done C_kept A_kinds A_traced A_bodies A_began A_self A_kindOfSelf S_holds S_body S_sort S_size S_elements G_grown) H locs → lv_has ls 7 [(0, .ref (ρ 3)), (1, .ref (ρ 1)), (6, .int x6)] → W p l e (zrm d) s m args below meth c H locs 0 0 Q (F0 m 135 ls []) := by
    intro L_read L_end L_at L_fault L_d L_p L_y L_j L_o P_beside P_reach P_serves P_crowds P_servedLow P_servedHigh P_crowdedLow P_crowdedHigh P_there P_must P_can
    intro n
    induction n with
    | zero =>
      intro x6 P_away H locs ls h
      rw [f_X3_lay_b135] at h
      cases h
    | succ n ih =>
      intro x6 P_away H locs ls h hW hl
      rw [f_X3_lay_b135] at h
      refine lv_iload hx hb dX3_lay_135 (lv_at hl 2 rfl) ?_
      refine lv_bipush (v := 14) hx hb dX3_lay_137 (by decide) ?_
      refine lv_icmp_ge (tgt := 154) hx hb dX3_lay_139 (by decide) (fun c6 => ?_) (fun c6 => ?_)
      · have h := ifp c6 h
        refine lv_iconst (v := 0) hx hb dX3_lay_154 (by decide) ?_
        refine lv_istore (lv' := [(6, .int 0), (0, .ref (ρ 3)), (1, .ref (ρ 1))]) hx hb dX3_lay_155 hl (by decide) rfl (fun ls hl => ?_)
        exact b157 h hW (lv_sub hl [1, 2, 0] rfl)
      · have h := ifn c6 h
        refine lv_aload_n hx hb dX3_lay_142 rfl (lv_at hl 0 rfl) ?_
        refine lv_iload hx hb dX3_lay_143 (lv_at hl 2 rfl) ?_
        obtain ⟨u13, eu13, h⟩ := bd_some h
        refine z_callV_v hC hW (rest := []) (c_X3_walk (d := 0) (Nat.le_refl _) eu13) vw_X3_83 WC_3 rfl ⟨rfl, rfl⟩ (zrm_ok (by omega) (by decide)) rfl rfl hl.1 (Nat.le_of_ble_eq_true rfl) dX3_lay_145 (fun H locs hW => ?_)
        refine lv_iinc (v := (x6 + 1)) (lv' := [(6, .int (x6 + 1)), (0, .ref (ρ 3)), (1, .ref (ρ 1))]) hx hb dX3_lay_148 hl (k := 2) rfl rfl (by decide) rfl (fun ls hl => ?_)
        refine lv_goto (tgt := 135) hx hb dX3_lay_151 (by decide) ?_
        exact ih h hW (lv_sub hl [1, 2, 0] rfl)
  have b132 : ∀ {L_read : Nat} {L_end : Int32} {L_at : Int32} {L_fault : Int32} {L_d : Int32} {L_p : Int32} {L_y : Int32} {L_j : Int32} {L_o : Int32} {P_away : Nat → Nat → Int32} {P_beside : Nat → Int32} {P_reach : Nat → Int32} {P_serves : Nat → Int32} {P_crowds : Nat → Int32} {P_servedLow : Nat → Int32} {P_servedHigh : Nat → Int32} {P_crowdedLow : Nat → Int32} {P_crowdedHigh : Nat → Int32} {P_there : Int32} {P_must : Int32} {P_can : Int32} {H : Heap} {locs : List Loc} {ls : Array Slot}, f_X3_lay_b132 T_apart L_read L_end L_at L_fault L_d L_p L_y L_j L_o P_away P_beside P_reach P_serves P_crowds P_servedLow P_servedHigh P_crowdedLow P_crowdedHigh P_there P_must P_can = some res → zW D A s.heap (WC q ρ T_price T_year T_joinEnds T_wallEnds T_cost T_doors T_joins T_walls T_oldWells T_apart L_tape L_text L_fed L_length L_read L_end L_at L_fault L_d L_p L_y L_j L_o P_away P_beside P_reach P_serves P_crowds P_servedLow P_servedHigh P_crowdedLow P_crowdedHigh P_there P_must P_can C_what C_number C_before C_after C_done C_kept A_kinds A_traced A_bodies A_began A_self A_kindOfSelf S_holds S_body S_sort S_size S_elements G_grown) H locs → lv_has ls 7 [(0, .ref (ρ 3)), (1, .ref (ρ 1))] → W p l e (zrm d) s m args below meth c H locs 0 0 Q (F0 m 132 ls []) := by
    intro L_read L_end L_at L_fault L_d L_p L_y L_j L_o P_away P_beside P_reach P_serves P_crowds P_servedLow P_servedHigh P_crowdedLow P_crowdedHigh P_there P_must P_can H locs ls h hW hl
    unfold f_X3_lay_b132 at h
    refine lv_iconst (v := 0) hx hb dX3_lay_132 (by decide) ?_
    refine lv_istore (lv' := [(6, .int 0), (0, .ref (ρ 3)), (1, .ref (ρ 1))]) hx hb dX3_lay_133 hl (by decide) rfl (fun ls hl => ?_)
    exact b135 h hW (lv_sub hl [1, 2, 0] rfl)
  have b86 : ∀ {x5 : Int32} {L_read : Nat} {L_end : Int32} {L_at : Int32} {L_fault : Int32} {L_d : Int32} {L_p : Int32} {L_y : Int32} {L_j : Int32} {L_o : Int32} {P_away : Nat → Nat → Int32} {P_reach : Nat → Int32} {P_serves : Nat → Int32} {P_crowds : Nat → Int32} {P_servedLow : Nat → Int32} {P_servedHigh : Nat → Int32} {P_crowdedLow : Nat → Int32} {P_crowdedHigh : Nat → Int32} {P_there : Int32} {P_must : Int32} {P_can : Int32} {n : Nat} {x6 : Int32} {P_beside : Nat → Int32} {H : Heap} {locs : List Loc} {ls : Array Slot}, f_X3_lay_b86 x5 T_joinEnds T_wallEnds T_joins T_walls T_apart L_read L_end L_at L_fault L_d L_p L_y L_j L_o P_away P_reach P_serves P_crowds P_servedLow P_servedHigh P_crowdedLow P_crowdedHigh P_there P_must P_can n x6 P_beside = some res → zW D A s.heap (WC q ρ T_price T_year T_joinEnds T_wallEnds T_cost T_doors T_joins T_walls T_oldWells T_apart L_tape L_text L_fed L_length L_read L_end L_at L_fault L_d L_p L_y L_j L_o P_away P_beside P_reach P_serves P_crowds P_servedLow P_servedHigh P_crowdedLow P_crowdedHigh P_there P_must P_can C_what C_number C_before C_after C_done C_kept A_kinds A_traced A_bodies A_began A_self A_kindOfSelf S_holds S_body S_sort S_size S_elements G_grown) H locs → lv_has ls 7 [(0, .ref (ρ 3)), (1, .ref (ρ 1)), (5, .int x5), (6, .int x6)] → W p l e (zrm d) s m args below meth c H locs 0 0 Q (F0 m 86 ls []) := by
    intro x5 L_read L_end L_at L_fault L_d L_p L_y L_j L_o P_away P_reach P_serves P_crowds P_servedLow P_servedHigh P_crowdedLow P_crowdedHigh P_there P_must P_can
    intro n
    induction n with
    | zero =>
      intro x6 P_beside H locs ls h
      rw [f_X3_lay_b86] at h
      cases h
    | succ n ih =>
      intro x6 P_beside H locs ls h hW hl
      rw [f_X3_lay_b86] at h
      refine lv_iload hx hb dX3_lay_86 (lv_at hl 3 rfl) ?_
      refine lv_aload_n hx hb dX3_lay_88 rfl (lv_at hl 1 rfl) ?_
      refine z_get hC hW fg_X3_67 1 WC_1 rfl dX3_lay_89 ?_
      refine lv_icmp_ge (tgt := 112) hx hb dX3_lay_92 (by decide) (fun c3 => ?_) (fun c3 => ?_)
      · have h := ifp c3 h
        refine lv_aload_n hx hb dX3_lay_112 rfl (lv_at hl 1 rfl) ?_
        refine lv_iload hx hb dX3_lay_113 (lv_at hl 2 rfl) ?_
        obtain ⟨u4, eu4, h⟩ := bd_some h
        refine z_callV_i hC hW (rest := []) (c_X5_isWall (d := 0) (Nat.le_refl _) eu4) vw_X3_77 WC_1 rfl ⟨rfl, rfl⟩ (zrm_ok (by omega) (by decide)) rfl rfl hl.1 (Nat.le_of_ble_eq_true rfl) dX3_lay_115 (fun H locs hW => ?_)
        refine lv_if_eq (tgt := 132) hx hb dX3_lay_118 (by decide) (fun c5 => ?_) (fun c5 => ?_)
        · have h := ifp c5 h
          exact b132 h hW (lv_sub hl [0, 1] rfl)
        · have h := ifn c5 h
          refine lv_aload_n hx hb dX3_lay_121 rfl (lv_at hl 0 rfl) ?_
          refine lv_aload_n hx hb dX3_lay_122 rfl (lv_at hl 1 rfl) ?_
          refine z_get hC hW fg_X3_80 1 WC_1 rfl dX3_lay_123 ?_
          refine lv_iload hx hb dX3_lay_126 (lv_at hl 2 rfl) ?_
          obtain ⟨g14, h⟩ := ix_some h
          refine z_iald hC hW 11 WC_11 g14 dX3_lay_128 ?_
          obtain ⟨u15, eu15, h⟩ := bd_some h
          refine z_callV_v hC hW (rest := []) (c_X3_link (d := 1) (Nat.le_refl _) eu15) vw_X3_73 WC_3 rfl ⟨rfl, rfl⟩ (zrm_ok (by omega) (by decide)) rfl rfl hl.1 (Nat.le_of_ble_eq_true rfl) dX3_lay_129 (fun H locs hW => ?_)
          exact b132 h hW (lv_sub hl [0, 1] rfl)
      · have h := ifn c3 h
        refine lv_aload_n hx hb dX3_lay_95 rfl (lv_at hl 0 rfl) ?_
        refine lv_aload_n hx hb dX3_lay_96 rfl (lv_at hl 1 rfl) ?_
        refine z_get hC hW fg_X3_70 1 WC_1 rfl dX3_lay_97 ?_
        refine lv_iload hx hb dX3_lay_100 (lv_at hl 3 rfl) ?_
        obtain ⟨g16, h⟩ := ix_some h
        refine z_iald hC hW 10 WC_10 g16 dX3_lay_102 ?_
        obtain ⟨u17, eu17, h⟩ := bd_some h
        refine z_callV_v hC hW (rest := []) (c_X3_link (d := 1) (Nat.le_refl _) eu17) vw_X3_73 WC_3 rfl ⟨rfl, rfl⟩ (zrm_ok (by omega) (by decide)) rfl rfl hl.1 (Nat.le_of_ble_eq_true rfl) dX3_lay_103 (fun H locs hW => ?_)
        refine lv_iinc (v := (x6 + 1)) (lv' := [(6, .int (x6 + 1)), (0, .ref (ρ 3)), (1, .ref (ρ 1)), (5, .int x5)]) hx hb dX3_lay_106 hl (k := 3) rfl rfl (by decide) rfl (fun ls hl => ?_)
        refine lv_goto (tgt := 86) hx hb dX3_lay_109 (by decide) ?_
        exact ih h hW (lv_sub hl [1, 2, 3, 0] rfl)
  have b76 : ∀ {x4 : Int32} {x5 : Int32} {x6 : Int32} {s0 : Int32} {s1 : Int32} {L_read : Nat} {L_end : Int32} {L_at : Int32} {L_fault : Int32} {L_d : Int32} {L_p : Int32} {L_y : Int32} {L_j : Int32} {L_o : Int32} {P_away : Nat → Nat → Int32} {P_beside : Nat → Int32} {P_reach : Nat → Int32} {P_serves : Nat → Int32} {P_crowds : Nat → Int32} {P_servedLow : Nat → Int32} {P_servedHigh : Nat → Int32} {P_crowdedLow : Nat → Int32} {P_crowdedHigh : Nat → Int32} {P_there : Int32} {P_must : Int32} {P_can : Int32} {k31 : Int32 → Nat → Int32 → Int32 → Int32 → Int32 → Int32 → Int32 → Int32 → Int32 → (Nat → Int32) → (Nat → Int32) → Option (Nat × Int32 × Int32 × Int32 × Int32 × Int32 × Int32 × Int32 × Int32 × (Nat → Nat → Int32) × (Nat → Int32) × (Nat → Int32) × (Nat → Int32) × (Nat → Int32) × (Nat → Int32) × (Nat → Int32) × (Nat → Int32) × (Nat → Int32) × Int32 × Int32 × Int32)} (hk31 : ∀ {x6 : Int32} {L_read : Nat} {L_end : Int32} {L_at : Int32} {L_fault : Int32} {L_d : Int32} {L_p : Int32} {L_y : Int32} {L_j : Int32} {L_o : Int32} {P_beside : Nat → Int32} {P_reach : Nat → Int32} {H : Heap} {locs : List Loc} {ls : Array Slot}, k31 x6 L_read L_end L_at L_fault L_d L_p L_y L_j L_o P_beside P_reach = some res → zW D A s.heap (WC q ρ T_price T_year T_joinEnds T_wallEnds T_cost T_doors T_joins T_walls T_oldWells T_apart L_tape L_text L_fed L_length L_read L_end L_at L_fault L_d L_p L_y L_j L_o P_away P_beside P_reach P_serves P_crowds P_servedLow P_servedHigh P_crowdedLow P_crowdedHigh P_there P_must P_can C_what C_number C_before C_after C_done C_kept A_kinds A_traced A_bodies A_began A_self A_kindOfSelf S_holds S_body S_sort S_size S_elements G_grown) H locs → lv_has ls 7 [(0, .ref (ρ 3)), (1, .ref (ρ 1)), (2, .ref (ρ 2)), (4, .int x4), (5, .int x5), (6, .int x6)] → W p l e (zrm d) s m args below meth c H locs 0 0 Q (F0 m 31 ls [])) {H : Heap} {locs : List Loc} {ls : Array Slot}, f_X3_lay_b76 k31 x4 x5 x6 s0 s1 T_price T_year T_joinEnds T_wallEnds T_joins T_walls T_apart L_text L_length L_read L_end L_at L_fault L_d L_p L_y L_j L_o P_away P_beside P_reach P_serves P_crowds P_servedLow P_servedHigh P_crowdedLow P_crowdedHigh P_there P_must P_can = some res → zW D A s.heap (WC q ρ T_price T_year T_joinEnds T_wallEnds T_cost T_doors T_joins T_walls T_oldWells T_apart L_tape L_text L_fed L_length L_read L_end L_at L_fault L_d L_p L_y L_j L_o P_away P_beside P_reach P_serves P_crowds P_servedLow P_servedHigh P_crowdedLow P_crowdedHigh P_there P_must P_can C_what C_number C_before C_after C_done C_kept A_kinds A_traced A_bodies A_began A_self A_kindOfSelf S_holds S_body S_sort S_size S_elements G_grown) H locs → lv_has ls 7 [(0, .ref (ρ 3)), (1, .ref (ρ 1)), (2, .ref (ρ 2)), (4, .int x4), (5, .int x5), (6, .int x6)] → W p l e (zrm d) s m args below meth c H locs 0 0 Q (F0 m 76 ls [.int s0, .int s1, .ref (ρ 17)]) := by
    intro x4 x5 x6 s0 s1 L_read L_end L_at L_fault L_d L_p L_y L_j L_o P_away P_beside P_reach P_serves P_crowds P_servedLow P_servedHigh P_crowdedLow P_crowdedHigh P_there P_must P_can k31 hk31 H locs ls h hW hl
    unfold f_X3_lay_b76 at h
    obtain ⟨g21, h⟩ := ix_some h
    refine z_iast hC hW 17 WC_17 g21 WCs_P_reach dX3_lay_76 (fun H locs hW => ?_)
    refine lv_iinc (v := (x6 + 1)) (lv' := [(6, .int (x6 + 1)), (0, .ref (ρ 3)), (1, .ref (ρ 1)), (2, .ref (ρ 2)), (4, .int x4), (5, .int x5)]) hx hb dX3_lay_77 hl (k := 5) rfl rfl (by decide) rfl (fun ls hl => ?_)
    refine lv_goto (tgt := 31) hx hb dX3_lay_80 (by decide) ?_
    exact hk31 h hW (lv_sub hl [1, 2, 3, 4, 5, 0] rfl)
  have b31 : ∀ {x4 : Int32} {x5 : Int32} {P_away : Nat → Nat → Int32} {P_serves : Nat → Int32} {P_crowds : Nat → Int32} {P_servedLow : Nat → Int32} {P_servedHigh : Nat → Int32} {P_crowdedLow : Nat → Int32} {P_crowdedHigh : Nat → Int32} {P_there : Int32} {P_must : Int32} {P_can : Int32} {n : Nat} {x6 : Int32} {L_read : Nat} {L_end : Int32} {L_at : Int32} {L_fault : Int32} {L_d : Int32} {L_p : Int32} {L_y : Int32} {L_j : Int32} {L_o : Int32} {P_beside : Nat → Int32} {P_reach : Nat → Int32} {H : Heap} {locs : List Loc} {ls : Array Slot}, f_X3_lay_b31 x4 x5 T_price T_year T_joinEnds T_wallEnds T_joins T_walls T_apart L_text L_length P_away P_serves P_crowds P_servedLow P_servedHigh P_crowdedLow P_crowdedHigh P_there P_must P_can n x6 L_read L_end L_at L_fault L_d L_p L_y L_j L_o P_beside P_reach = some res → zW D A s.heap (WC q ρ T_price T_year T_joinEnds T_wallEnds T_cost T_doors T_joins T_walls T_oldWells T_apart L_tape L_text L_fed L_length L_read L_end L_at L_fault L_d L_p L_y L_j L_o P_away P_beside P_reach P_serves P_crowds P_servedLow P_servedHigh P_crowdedLow P_crowdedHigh P_there P_must P_can C_what C_number C_before C_after C_done C_kept A_kinds A_traced A_bodies A_began A_self A_kindOfSelf S_holds S_body S_sort S_size S_elements G_grown) H locs → lv_has ls 7 [(0, .ref (ρ 3)), (1, .ref (ρ 1)), (2, .ref (ρ 2)), (4, .int x4), (5, .int x5), (6, .int x6)] → W p l e (zrm d) s m args below meth c H locs 0 0 Q (F0 m 31 ls []) := by
    intro x4 x5 P_away P_serves P_crowds P_servedLow P_servedHigh P_crowdedLow P_crowdedHigh P_there P_must P_can
    intro n
    induction n with
    | zero =>
      intro x6 L_read L_end L_at L_fault L_d L_p L_y L_j L_o P_beside P_reach H locs ls h
      rw [f_X3_lay_b31] at h
      cases h
    | succ n ih =>
      intro x6 L_read L_end L_at L_fault L_d L_p L_y L_j L_o P_beside P_reach H locs ls h hW hl
      rw [f_X3_lay_b31] at h
      refine lv_iload hx hb dX3_lay_31 (lv_at hl 5 rfl) ?_
      refine lv_bipush (v := 14) hx hb dX3_lay_33 (by decide) ?_
      refine lv_icmp_ge (tgt := 83) hx hb dX3_lay_35 (by decide) (fun c2 => ?_) (fun c2 => ?_)
      · have h := ifp c2 h
        refine lv_iconst (v := 0) hx hb dX3_lay_83 (by decide) ?_
        refine lv_istore (lv' := [(6, .int 0), (0, .ref (ρ 3)), (1, .ref (ρ 1)), (2, .ref (ρ 2)), (4, .int x4), (5, .int x5)]) hx hb dX3_lay_84 hl (by decide) rfl (fun ls hl => ?_)
        exact b86 h hW (lv_sub hl [1, 2, 5, 0] rfl)
      · have h := ifn c2 h
        refine lv_aload_n hx hb dX3_lay_38 rfl (lv_at hl 0 rfl) ?_
        refine z_get hC hW fg_X3_16 3 WC_3 rfl dX3_lay_39 ?_
        refine lv_iload hx hb dX3_lay_42 (lv_at hl 5 rfl) ?_
        refine lv_iconst (v := 0) hx hb dX3_lay_44 (by decide) ?_
        obtain ⟨g18, h⟩ := ix_some h
        refine z_iast hC hW 16 WC_16 g18 WCs_P_beside dX3_lay_45 (fun H locs hW => ?_)
        refine lv_aload_n hx hb dX3_lay_46 rfl (lv_at hl 0 rfl) ?_
        refine z_get hC hW fg_X3_20 3 WC_3 rfl dX3_lay_47 ?_
        refine lv_iload hx hb dX3_lay_50 (lv_at hl 5 rfl) ?_
        refine lv_aload_n hx hb dX3_lay_52 rfl (lv_at hl 0 rfl) ?_
        refine lv_iload hx hb dX3_lay_53 (lv_at hl 5 rfl) ?_
        obtain ⟨u19, eu19, h⟩ := bd_some h
        refine z_callV_i hC hW (rest := [.int x6, .ref (ρ 17)]) (c_X3_isThere (d := 0) (Nat.le_refl _) eu19) vw_X3_57 WC_3 rfl ⟨rfl, rfl⟩ (zrm_ok (by omega) (by decide)) rfl rfl hl.1 (Nat.le_of_ble_eq_true rfl) dX3_lay_55 (fun H locs hW => ?_)
        refine lv_if_eq (tgt := 75) hx hb dX3_lay_58 (by decide) (fun c20 => ?_) (fun c20 => ?_)
        · have h := ifp c20 h
          refine lv_iconst (v := (-1)) hx hb dX3_lay_75 (by decide) ?_
          exact b76 ih h hW (lv_sub hl [0, 1, 2, 3, 4, 5] rfl)
        · have h := ifn c20 h
          refine lv_aload_n hx hb dX3_lay_61 rfl (lv_at hl 2 rfl) ?_
          refine lv_aload_n hx hb dX3_lay_62 rfl (lv_at hl 1 rfl) ?_
          refine lv_iload hx hb dX3_lay_63 (lv_at hl 5 rfl) ?_
          refine lv_iload hx hb dX3_lay_65 (lv_at hl 3 rfl) ?_
          refine lv_iload hx hb dX3_lay_67 (lv_at hl 4 rfl) ?_
          obtain ⟨u22, eu22, h⟩ := bd_some h
          refine z_callV_i hC hW (rest := [.int x6, .ref (ρ 17)]) (c_X2_reachOf (d := 81) (Nat.le_refl _) eu22) vw_X3_61 WC_2 rfl ⟨rfl, rfl⟩ (zrm_ok (by omega) (by decide)) rfl rfl hl.1 (Nat.le_of_ble_eq_true rfl) dX3_lay_69 (fun H locs hW => ?_)
          refine lv_goto (tgt := 76) hx hb dX3_lay_72 (by decide) ?_
          exact b76 ih h hW (lv_sub hl [0, 1, 2, 3, 4, 5] rfl)
  unfold f_X3_lay at h
  refine lv_aload_n hx hb dX3_lay_0 rfl (lv_at hl 0 rfl) ?_
  refine lv_iload_n hx hb dX3_lay_1 rfl (lv_at hl 3 rfl) ?_
  refine z_put hC hW fp_X3_41 3 WC_3 (Nat.le_of_ble_eq_true rfl) rfl rfl WCs_P_there dX3_lay_2 (fun H locs hW => ?_)
  refine lv_aload_n hx hb dX3_lay_5 rfl (lv_at hl 0 rfl) ?_
  refine lv_iload hx hb dX3_lay_6 (lv_at hl 4 rfl) ?_
  refine lv_iload_n hx hb dX3_lay_8 rfl (lv_at hl 3 rfl) ?_
  refine lv_iand hx hb dX3_lay_9 ?_
  refine z_put hC hW fp_X3_45 3 WC_3 (Nat.le_of_ble_eq_true rfl) rfl rfl WCs_P_must dX3_lay_10 (fun H locs hW => ?_)
  refine lv_aload_n hx hb dX3_lay_13 rfl (lv_at hl 0 rfl) ?_
  refine lv_aload_n hx hb dX3_lay_14 rfl (lv_at hl 0 rfl) ?_
  refine z_get hC hW fg_X3_45 3 WC_3 rfl dX3_lay_15 ?_
  refine lv_aload_n hx hb dX3_lay_18 rfl (lv_at hl 1 rfl) ?_
  obtain ⟨u1, eu1, h⟩ := bd_some h
  refine z_callV_i hC hW (rest := [.int (a4 &&& a3), .ref (ρ 3)]) (c_X5_soil (d := 0) (Nat.le_refl _) eu1) vw_X3_48 WC_1 rfl ⟨rfl, rfl⟩ (zrm_ok (by omega) (by decide)) rfl rfl hl.1 (Nat.le_of_ble_eq_true rfl) dX3_lay_19 (fun H locs hW => ?_)
  refine lv_iload_n hx hb dX3_lay_22 rfl (lv_at hl 3 rfl) ?_
  refine lv_iand hx hb dX3_lay_23 ?_
  refine lv_ior hx hb dX3_lay_24 ?_
  refine z_put hC hW fp_X3_54 3 WC_3 (Nat.le_of_ble_eq_true rfl) rfl rfl WCs_P_can dX3_lay_25 (fun H locs hW => ?_)
  refine lv_iconst (v := 0) hx hb dX3_lay_28 (by decide) ?_
  refine lv_istore (lv' := [(6, .int 0), (0, .ref (ρ 3)), (1, .ref (ρ 1)), (2, .ref (ρ 2)), (3, .int a3), (4, .int a4), (5, .int a5)]) hx hb dX3_lay_29 hl (by decide) rfl (fun ls hl => ?_)
  exact b31 h hW (lv_sub hl [1, 2, 3, 5, 6, 0] rfl)
set_option maxHeartbeats 4000000 in
set_option maxRecDepth 100000 in
theorem c_X6_settle {d : Nat} {res : Nat × Int32 × Int32 × Int32 × Int32 × Int32 × Int32 × Int32 × Int32 × (Nat → Nat → Int32) × (Nat → Int32) × (Nat → Int32) × (Nat → Int32) × (Nat → Int32) × (Nat → Int32) × (Nat → Int32) × (Nat → Int32) × (Nat → Int32) × Int32 × Int32 × Int32} (hd : 83 ≤ d) (h : f_X6_settle T_price T_year T_joinEnds T_wallEnds T_doors T_joins T_walls T_oldWells T_apart L_text L_length L_read L_end L_at L_fault L_d L_p L_y L_j L_o P_away P_beside P_reach P_serves P_crowds P_servedLow P_servedHigh P_crowdedLow P_crowdedHigh P_there P_must P_can = some res) : zMv l yX6_settle cX6_settle 1 (zrm d) [.ref (ρ 0)] D q (WC q ρ T_price T_year T_joinEnds T_wallEnds T_cost T_doors T_joins T_walls T_oldWells T_apart L_tape L_text L_fed L_length L_read L_end L_at L_fault L_d L_p L_y L_j L_o P_away P_beside P_reach P_serves P_crowds P_servedLow P_servedHigh P_crowdedLow P_crowdedHigh P_there P_must P_can C_what C_number C_before C_after C_done C_kept A_kinds A_traced A_bodies A_began A_self A_kindOfSelf S_holds S_body S_sort S_size S_elements G_grown) sz (WC q ρ T_price T_year T_joinEnds T_wallEnds T_cost T_doors T_joins T_walls T_oldWells T_apart L_tape L_text L_fed L_length res.1 res.2.1 res.2.2.1 res.2.2.2.1 res.2.2.2.2.1 res.2.2.2.2.2.1 res.2.2.2.2.2.2.1 res.2.2.2.2.2.2.2.1 res.2.2.2.2.2.2.2.2.1 res.2.2.2.2.2.2.2.2.2.1 res.2.2.2.2.2.2.2.2.2.2.1 res.2.2.2.2.2.2.2.2.2.2.2.1 res.2.2.2.2.2.2.2.2.2.2.2.2.1 res.2.2.2.2.2.2.2.2.2.2.2.2.2.1 res.2.2.2.2.2.2.2.2.2.2.2.2.2.2.1 res.2.2.2.2.2.2.2.2.2.2.2.2.2.2.2.1 res.2.2.2.2.2.2.2.2.2.2.2.2.2.2.2.2.1 res.2.2.2.2.2.2.2.2.2.2.2.2.2.2.2.2.2.1 res.2.2.2.2.2.2.2.2.2.2.2.2.2.2.2.2.2.2.1 res.2.2.2.2.2.2.2.2.2.2.2.2.2.2.2.2.2.2.2.1 res.2.2.2.2.2.2.2.2.2.2.2.2.2.2.2.2.2.2.2.2 C_what C_number C_before C_after C_done C_kept A_kinds A_traced A_bodies A_began A_self A_kindOfSelf S_holds S_body S_sort S_size S_elements G_grown) := by
  refine zMet_v (own := RX6) (by decide) rfl (Nat.le_of_ble_eq_true rfl) ?_
  intro p e s m args below meth c A ls Q hC hW hl hret
  have hx := hC.1
  have hb := hC.2.1
  have hl : lv_has ls 1 [(0, .ref (ρ 0))] := hl
  unfold f_X6_settle at h
  refine lv_aload_n hx hb dX6_settle_0 rfl (lv_at hl 0 rfl) ?_
  refine z_get hC hW fg_X6_26 0 WC_0 rfl dX6_settle_1 ?_
  refine lv_aload_n hx hb dX6_settle_4 rfl (lv_at hl 0 rfl) ?_
  refine z_get hC hW fg_X6_10 0 WC_0 rfl dX6_settle_5 ?_
  refine lv_aload_n hx hb dX6_settle_8 rfl (lv_at hl 0 rfl) ?_
  refine z_get hC hW fg_X6_19 0 WC_0 rfl dX6_settle_9 ?_
  refine lv_aload_n hx hb dX6_settle_12 rfl (lv_at hl 0 rfl) ?_
  refine z_get hC hW fg_X6_10 0 WC_0 rfl dX6_settle_13 ?_
  obtain ⟨u1, eu1, h⟩ := bd_some h
  refine z_callV_i hC hW (rest := [.ref (ρ 2), .ref (ρ 1), .ref (ρ 3)]) (c_X5_everyDoor (d := 0) (Nat.le_refl _) eu1) vw_X6_182 WC_1 rfl ⟨rfl, rfl⟩ (zrm_ok (by omega) (by decide)) rfl rfl hl.1 (Nat.le_of_ble_eq_true rfl) dX6_settle_16 (fun H locs hW => ?_)
  refine lv_aload_n hx hb dX6_settle_19 rfl (lv_at hl 0 rfl) ?_
  refine z_get hC hW fg_X6_10 0 WC_0 rfl dX6_settle_20 ?_
  refine z_get hC hW fg_X6_100 1 WC_1 rfl dX6_settle_23 ?_
  refine lv_iconst (v := (-1)) hx hb dX6_settle_26 (by decide) ?_
  obtain ⟨u2, eu2, h⟩ := bd_some h
  refine z_callV_v hC hW (rest := []) (c_X3_lay (d := 82) (Nat.le_refl _) eu2) vw_X6_185 WC_3 rfl ⟨rfl, rfl⟩ (zrm_ok (by omega) (by decide)) rfl rfl hl.1 (Nat.le_of_ble_eq_true rfl) dX6_settle_27 (fun H locs hW => ?_)
  have h := Option.some.inj h
  subst h
  exact hret _ _ _ _ dX6_settle_30 hW
set_option maxHeartbeats 4000000 in
set_option maxRecDepth 100000 in
theorem c_X6_far {a1 : Int32} {d : Nat} {res : Int32 × Nat × Int32 × Int32 × Int32 × Int32 × Int32 × Int32 × Int32 × Int32 × (Nat → Nat → Int32) × (Nat → Int32) × (Nat → Int32) × (Nat → Int32) × (Nat → Int32) × (Nat → Int32) × (Nat → Int32) × (Nat → Int32) × (Nat → Int32) × Int32 × Int32 × Int32} (hd : 84 ≤ d) (h : f_X6_far a1 T_price T_year T_joinEnds T_wallEnds T_doors T_joins T_walls T_oldWells T_apart L_text L_length L_read L_end L_at L_fault L_d L_p L_y L_j L_o P_away P_beside P_reach P_serves P_crowds P_servedLow P_servedHigh P_crowdedLow P_crowdedHigh P_there P_must P_can = some res) : zMi l yX6_far cX6_far 2 .int (zrm d) [.ref (ρ 0), .int a1] D q (WC q ρ T_price T_year T_joinEnds T_wallEnds T_cost T_doors T_joins T_walls T_oldWells T_apart L_tape L_text L_fed L_length L_read L_end L_at L_fault L_d L_p L_y L_j L_o P_away P_beside P_reach P_serves P_crowds P_servedLow P_servedHigh P_crowdedLow P_crowdedHigh P_there P_must P_can C_what C_number C_before C_after C_done C_kept A_kinds A_traced A_bodies A_began A_self A_kindOfSelf S_holds S_body S_sort S_size S_elements G_grown) sz res.1 (WC q ρ T_price T_year T_joinEnds T_wallEnds T_cost T_doors T_joins T_walls T_oldWells T_apart L_tape L_text L_fed L_length res.2.1 res.2.2.1 res.2.2.2.1 res.2.2.2.2.1 res.2.2.2.2.2.1 res.2.2.2.2.2.2.1 res.2.2.2.2.2.2.2.1 res.2.2.2.2.2.2.2.2.1 res.2.2.2.2.2.2.2.2.2.1 res.2.2.2.2.2.2.2.2.2.2.1 res.2.2.2.2.2.2.2.2.2.2.2.1 res.2.2.2.2.2.2.2.2.2.2.2.2.1 res.2.2.2.2.2.2.2.2.2.2.2.2.2.1 res.2.2.2.2.2.2.2.2.2.2.2.2.2.2.1 res.2.2.2.2.2.2.2.2.2.2.2.2.2.2.2.1 res.2.2.2.2.2.2.2.2.2.2.2.2.2.2.2.2.1 res.2.2.2.2.2.2.2.2.2.2.2.2.2.2.2.2.2.1 res.2.2.2.2.2.2.2.2.2.2.2.2.2.2.2.2.2.2.1 res.2.2.2.2.2.2.2.2.2.2.2.2.2.2.2.2.2.2.2.1 res.2.2.2.2.2.2.2.2.2.2.2.2.2.2.2.2.2.2.2.2.1 res.2.2.2.2.2.2.2.2.2.2.2.2.2.2.2.2.2.2.2.2.2 C_what C_number C_before C_after C_done C_kept A_kinds A_traced A_bodies A_began A_self A_kindOfSelf S_holds S_body S_sort S_size S_elements G_grown) := by
  refine zMet_i (own := RX6) _ (by decide) rfl (Nat.le_of_ble_eq_true rfl) ?_
  intro p e s m args below meth c A ls Q hC hW hl hret
  have hx := hC.1
  have hb := hC.2.1
  have hl : lv_has ls 2 [(0, .ref (ρ 0)), (1, .int a1)] := hl
  unfold f_X6_far at h
  refine lv_iload_n hx hb dX6_far_0 rfl (lv_at hl 1 rfl) ?_
  refine lv_if_lt (tgt := 32) hx hb dX6_far_1 (by decide) (fun c1 => ?_) (fun c1 => ?_)
  · have h := ifp c1 h
    refine lv_iconst (v := (-1)) hx hb dX6_far_32 (by decide) ?_
    have h := Option.some.inj h
    subst h
    exact hret _ _ _ _ _ dX6_far_33 rfl rfl hW
  · have h := ifn c1 h
    refine lv_aload_n hx hb dX6_far_4 rfl (lv_at hl 0 rfl) ?_
    refine z_get hC hW fg_X6_10 0 WC_0 rfl dX6_far_5 ?_
    refine lv_iload_n hx hb dX6_far_8 rfl (lv_at hl 1 rfl) ?_
    refine lv_bipush (v := 100) hx hb dX6_far_9 (by decide) ?_
    refine lv_idiv hx hb dX6_far_11 (by decide) ?_
    obtain ⟨u2, eu2, h⟩ := bd_some h
    refine z_callV_i hC hW (rest := []) (c_X5_isDoor (d := 0) (Nat.le_refl _) eu2) vw_X6_118 WC_1 rfl ⟨rfl, rfl⟩ (zrm_ok (by omega) (by decide)) rfl rfl hl.1 (Nat.le_of_ble_eq_true rfl) dX6_far_12 (fun H locs hW => ?_)
    refine lv_if_eq (tgt := 32) hx hb dX6_far_15 (by decide) (fun c3 => ?_) (fun c3 => ?_)
    · have h := ifp c3 h
      refine lv_iconst (v := (-1)) hx hb dX6_far_32 (by decide) ?_
      have h := Option.some.inj h
      subst h
      exact hret _ _ _ _ _ dX6_far_33 rfl rfl hW
    · have h := ifn c3 h
      refine lv_aload_n hx hb dX6_far_18 rfl (lv_at hl 0 rfl) ?_
      refine z_get hC hW fg_X6_10 0 WC_0 rfl dX6_far_19 ?_
      refine lv_iload_n hx hb dX6_far_22 rfl (lv_at hl 1 rfl) ?_
      refine lv_bipush (v := 100) hx hb dX6_far_23 (by decide) ?_
      refine lv_irem hx hb dX6_far_25 (by decide) ?_
      obtain ⟨u4, eu4, h⟩ := bd_some h
      refine z_callV_i hC hW (rest := []) (c_X5_isDoor (d := 0) (Nat.le_refl _) eu4) vw_X6_118 WC_1 rfl ⟨rfl, rfl⟩ (zrm_ok (by omega) (by decide)) rfl rfl hl.1 (Nat.le_of_ble_eq_true rfl) dX6_far_26 (fun H locs hW => ?_)
      refine lv_if_ne (tgt := 34) hx hb dX6_far_29 (by decide) (fun c5 => ?_) (fun c5 => ?_)
      · have h := ifn c5 h
        refine lv_aload_n hx hb dX6_far_34 rfl (lv_at hl 0 rfl) ?_
        obtain ⟨u6, eu6, h⟩ := bd_some h
        refine z_callV_v hC hW (rest := []) (c_X6_settle (d := 83) (Nat.le_refl _) eu6) vw_X6_147 WC_0 rfl ⟨rfl, rfl⟩ (zrm_ok (by omega) (by decide)) rfl rfl hl.1 (Nat.le_of_ble_eq_true rfl) dX6_far_35 (fun H locs hW => ?_)
        refine lv_aload_n hx hb dX6_far_38 rfl (lv_at hl 0 rfl) ?_
        refine z_get hC hW fg_X6_26 0 WC_0 rfl dX6_far_39 ?_
        refine z_get hC hW fg_X6_150 3 WC_3 rfl dX6_far_42 ?_
        refine lv_iload_n hx hb dX6_far_45 rfl (lv_at hl 1 rfl) ?_
        refine lv_bipush (v := 100) hx hb dX6_far_46 (by decide) ?_
        refine lv_idiv hx hb dX6_far_48 (by decide) ?_
        obtain ⟨g7, h⟩ := ix_some h
        refine z_aaldA hC hW 15 WC_15 g7 dX6_far_49 ?_
        refine lv_iload_n hx hb dX6_far_50 rfl (lv_at hl 1 rfl) ?_
        refine lv_bipush (v := 100) hx hb dX6_far_51 (by decide) ?_
        refine lv_irem hx hb dX6_far_53 (by decide) ?_
        obtain ⟨g8, h⟩ := ix_some h
        refine z_iald hC hW (42 + (Int32.toNatClampNeg (a1 / 100))) (WC_row (vlt g7)) g8 dX6_far_54 ?_
        have h := Option.some.inj h
        subst h
        exact hret _ _ _ _ _ dX6_far_55 rfl rfl hW
      · have h := ifp c5 h
        refine lv_iconst (v := (-1)) hx hb dX6_far_32 (by decide) ?_
        have h := Option.some.inj h
        subst h
        exact hret _ _ _ _ _ dX6_far_33 rfl rfl hW
set_option maxHeartbeats 4000000 in
set_option maxRecDepth 100000 in
theorem c_X3_served {a1 : Int32} {d : Nat} {res : Int32} (hd : 0 ≤ d) (h : f_X3_served a1 P_servedLow P_servedHigh = some res) : zMi l yX3_served cX3_served 2 .int (zrm d) [.ref (ρ 3), .int a1] D q (WC q ρ T_price T_year T_joinEnds T_wallEnds T_cost T_doors T_joins T_walls T_oldWells T_apart L_tape L_text L_fed L_length L_read L_end L_at L_fault L_d L_p L_y L_j L_o P_away P_beside P_reach P_serves P_crowds P_servedLow P_servedHigh P_crowdedLow P_crowdedHigh P_there P_must P_can C_what C_number C_before C_after C_done C_kept A_kinds A_traced A_bodies A_began A_self A_kindOfSelf S_holds S_body S_sort S_size S_elements G_grown) sz res (WC q ρ T_price T_year T_joinEnds T_wallEnds T_cost T_doors T_joins T_walls T_oldWells T_apart L_tape L_text L_fed L_length L_read L_end L_at L_fault L_d L_p L_y L_j L_o P_away P_beside P_reach P_serves P_crowds P_servedLow P_servedHigh P_crowdedLow P_crowdedHigh P_there P_must P_can C_what C_number C_before C_after C_done C_kept A_kinds A_traced A_bodies A_began A_self A_kindOfSelf S_holds S_body S_sort S_size S_elements G_grown) := by
  refine zMet_i (own := RX3) _ (by decide) rfl (Nat.le_of_ble_eq_true rfl) ?_
  intro p e s m args below meth c A ls Q hC hW hl hret
  have hx := hC.1
  have hb := hC.2.1
  have hl : lv_has ls 2 [(0, .ref (ρ 3)), (1, .int a1)] := hl
  unfold f_X3_served at h
  refine lv_aload_n hx hb dX3_served_0 rfl (lv_at hl 0 rfl) ?_
  refine z_get hC hW fg_X3_29 3 WC_3 rfl dX3_served_1 ?_
  refine lv_iload_n hx hb dX3_served_4 rfl (lv_at hl 1 rfl) ?_
  refine lv_bipush (v := 127) hx hb dX3_served_5 (by decide) ?_
  refine lv_iand hx hb dX3_served_7 ?_
  obtain ⟨g1, h⟩ := ix_some h
  refine z_iald hC hW 20 WC_20 g1 dX3_served_8 ?_
  refine lv_aload_n hx hb dX3_served_9 rfl (lv_at hl 0 rfl) ?_
  refine z_get hC hW fg_X3_32 3 WC_3 rfl dX3_served_10 ?_
  refine lv_iload_n hx hb dX3_served_13 rfl (lv_at hl 1 rfl) ?_
  refine lv_bipush (v := 7) hx hb dX3_served_14 (by decide) ?_
  refine lv_ishr hx hb dX3_served_16 ?_
  refine lv_bipush (v := 127) hx hb dX3_served_17 (by decide) ?_
  refine lv_iand hx hb dX3_served_19 ?_
  obtain ⟨g2, h⟩ := ix_some h
  refine z_iald hC hW 21 WC_21 g2 dX3_served_20 ?_
  refine lv_ior hx hb dX3_served_21 ?_
  have h := Option.some.inj h
  subst h
  exact hret _ _ _ _ _ dX3_served_22 rfl rfl hW
set_option maxHeartbeats 4000000 in
set_option maxRecDepth 100000 in
theorem c_X3_isServed {a1 : Int32} {a2 : Int32} {d : Nat} {res : Int32} (hd : 1 ≤ d) (h : f_X3_isServed a1 a2 P_servedLow P_servedHigh = some res) : zMi l yX3_isServed cX3_isServed 3 .boolean (zrm d) [.ref (ρ 3), .int a1, .int a2] D q (WC q ρ T_price T_year T_joinEnds T_wallEnds T_cost T_doors T_joins T_walls T_oldWells T_apart L_tape L_text L_fed L_length L_read L_end L_at L_fault L_d L_p L_y L_j L_o P_away P_beside P_reach P_serves P_crowds P_servedLow P_servedHigh P_crowdedLow P_crowdedHigh P_there P_must P_can C_what C_number C_before C_after C_done C_kept A_kinds A_traced A_bodies A_began A_self A_kindOfSelf S_holds S_body S_sort S_size S_elements G_grown) sz res (WC q ρ T_price T_year T_joinEnds T_wallEnds T_cost T_doors T_joins T_walls T_oldWells T_apart L_tape L_text L_fed L_length L_read L_end L_at L_fault L_d L_p L_y L_j L_o P_away P_beside P_reach P_serves P_crowds P_servedLow P_servedHigh P_crowdedLow P_crowdedHigh P_there P_must P_can C_what C_number C_before C_after C_done C_kept A_kinds A_traced A_bodies A_began A_self A_kindOfSelf S_holds S_body S_sort S_size S_elements G_grown) := by
  refine zMet_i (own := RX3) _ (by decide) rfl (Nat.le_of_ble_eq_true rfl) ?_
  intro p e s m args below meth c A ls Q hC hW hl hret
  have hx := hC.1
  have hb := hC.2.1
  have hl : lv_has ls 3 [(0, .ref (ρ 3)), (1, .int a1), (2, .int a2)] := hl
  unfold f_X3_isServed at h
  refine lv_aload_n hx hb dX3_isServed_0 rfl (lv_at hl 0 rfl) ?_
  refine lv_iload_n hx hb dX3_isServed_1 rfl (lv_at hl 2 rfl) ?_
  obtain ⟨u1, eu1, h⟩ := bd_some h
  refine z_callV_i hC hW (rest := []) (c_X3_served (d := 0) (Nat.le_refl _) eu1) vw_X3_97 WC_3 rfl ⟨rfl, rfl⟩ (zrm_ok (by omega) (by decide)) rfl rfl hl.1 (Nat.le_of_ble_eq_true rfl) dX3_isServed_2 (fun H locs hW => ?_)
  refine lv_iload_n hx hb dX3_isServed_5 rfl (lv_at hl 1 rfl) ?_
  refine lv_ishr hx hb dX3_isServed_6 ?_
  refine lv_iconst (v := 1) hx hb dX3_isServed_7 (by decide) ?_
  refine lv_iand hx hb dX3_isServed_8 ?_
  refine lv_if_eq (tgt := 16) hx hb dX3_isServed_9 (by decide) (fun c2 => ?_) (fun c2 => ?_)
  · have h := ifp c2 h
    refine lv_iconst (v := 0) hx hb dX3_isServed_16 (by decide) ?_
    have h := Option.some.inj h
    subst h
    exact hret _ _ _ _ _ dX3_isServed_17 rfl rfl hW
  · have h := ifn c2 h
    refine lv_iconst (v := 1) hx hb dX3_isServed_12 (by decide) ?_
    refine lv_goto (tgt := 17) hx hb dX3_isServed_13 (by decide) ?_
    have h := Option.some.inj h
    subst h
    exact hret _ _ _ _ _ dX3_isServed_17 rfl rfl hW
end CT20_c09
