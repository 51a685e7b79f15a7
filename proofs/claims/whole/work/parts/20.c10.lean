section CT20_c10
variable {l : Launch} {D : va_G} {q : Nat → ClassId} {ρ : Nat → Nat} {sz : Nat} {T_price : Nat → Int32} {T_year : Nat → Int32} {T_joinEnds : Nat → Int32} {T_wallEnds : Nat → Int32} {T_cost : Nat → Int32} {T_doors : Int32} {T_joins : Int32} {T_walls : Int32} {T_oldWells : Int32} {T_apart : Int32} {L_tape : Nat → Int32} {L_text : Nat → Int32} {L_fed : Int32} {L_length : Int32} {L_read : Nat} {L_end : Int32} {L_at : Int32} {L_fault : Int32} {L_d : Int32} {L_p : Int32} {L_y : Int32} {L_j : Int32} {L_o : Int32} {P_away : Nat → Nat → Int32} {P_beside : Nat → Int32} {P_reach : Nat → Int32} {P_serves : Nat → Int32} {P_crowds : Nat → Int32} {P_servedLow : Nat → Int32} {P_servedHigh : Nat → Int32} {P_crowdedLow : Nat → Int32} {P_crowdedHigh : Nat → Int32} {P_there : Int32} {P_must : Int32} {P_can : Int32} {C_what : Nat → Int32} {C_number : Nat → Int32} {C_before : Nat → Int32} {C_after : Nat → Int32} {C_done : Int32} {C_kept : Int32} {A_kinds : Nat → Int32} {A_traced : Nat → Int32} {A_bodies : Int32} {A_began : Int32} {A_self : Int32} {A_kindOfSelf : Int32} {S_holds : Nat → Int32} {S_body : Nat → Int32} {S_sort : Nat → Int32} {S_size : Nat → Int32} {S_elements : Nat → Nat → Int64} {G_grown : Nat → Int32}
set_option maxHeartbeats 4000000 in
set_option maxRecDepth 100000 in
theorem c_X3_judged {a1 : Int32} {d : Nat} {res : Int32} (hd : 2 ≤ d) (h : f_X3_judged a1 P_crowds P_servedLow P_servedHigh P_there = some res) : zMi l yX3_judged cX3_judged 5 .int (zrm d) [.ref (ρ 3), .int a1] D q (WC q ρ T_price T_year T_joinEnds T_wallEnds T_cost T_doors T_joins T_walls T_oldWells T_apart L_tape L_text L_fed L_length L_read L_end L_at L_fault L_d L_p L_y L_j L_o P_away P_beside P_reach P_serves P_crowds P_servedLow P_servedHigh P_crowdedLow P_crowdedHigh P_there P_must P_can C_what C_number C_before C_after C_done C_kept A_kinds A_traced A_bodies A_began A_self A_kindOfSelf S_holds S_body S_sort S_size S_elements G_grown) sz res (WC q ρ T_price T_year T_joinEnds T_wallEnds T_cost T_doors T_joins T_walls T_oldWells T_apart L_tape L_text L_fed L_length L_read L_end L_at L_fault L_d L_p L_y L_j L_o P_away P_beside P_reach P_serves P_crowds P_servedLow P_servedHigh P_crowdedLow P_crowdedHigh P_there P_must P_can C_what C_number C_before C_after C_done C_kept A_kinds A_traced A_bodies A_began A_self A_kindOfSelf S_holds S_body S_sort S_size S_elements G_grown) := by
  refine zMet_i (own := RX3) _ (by decide) rfl (Nat.le_of_ble_eq_true rfl) ?_
  intro p e s m args below meth c A ls Q hC hW hl hret
  have hx := hC.1
  have hb := hC.2.1
  have hl : lv_has ls 5 [(0, .ref (ρ 3)), (1, .int a1)] := hl
  have b67 : ∀ {x1 : Int32} {x2 : Int32} {x3 : Int32} {k35 : Int32 → Option (Int32)} (hk35 : ∀ {x2 : Int32} {H : Heap} {locs : List Loc} {ls : Array Slot}, k35 x2 = some res → zW D A s.heap (WC q ρ T_price T_year T_joinEnds T_wallEnds T_cost T_doors T_joins T_walls T_oldWells T_apart L_tape L_text L_fed L_length L_read L_end L_at L_fault L_d L_p L_y L_j L_o P_away P_beside P_reach P_serves P_crowds P_servedLow P_servedHigh P_crowdedLow P_crowdedHigh P_there P_must P_can C_what C_number C_before C_after C_done C_kept A_kinds A_traced A_bodies A_began A_self A_kindOfSelf S_holds S_body S_sort S_size S_elements G_grown) H locs → lv_has ls 5 [(0, .ref (ρ 3)), (1, .int x1), (2, .int x2)] → W p l e (zrm d) s m args below meth c H locs 0 0 Q (F0 m 35 ls [])) {n : Nat} {x4 : Int32} {H : Heap} {locs : List Loc} {ls : Array Slot}, f_X3_judged_b67 k35 x1 x2 x3 P_crowds n x4 = some res → zW D A s.heap (WC q ρ T_price T_year T_joinEnds T_wallEnds T_cost T_doors T_joins T_walls T_oldWells T_apart L_tape L_text L_fed L_length L_read L_end L_at L_fault L_d L_p L_y L_j L_o P_away P_beside P_reach P_serves P_crowds P_servedLow P_servedHigh P_crowdedLow P_crowdedHigh P_there P_must P_can C_what C_number C_before C_after C_done C_kept A_kinds A_traced A_bodies A_began A_self A_kindOfSelf S_holds S_body S_sort S_size S_elements G_grown) H locs → lv_has ls 5 [(0, .ref (ρ 3)), (1, .int x1), (2, .int x2), (3, .int x3), (4, .int x4)] → W p l e (zrm d) s m args below meth c H locs 0 0 Q (F0 m 67 ls []) := by
    intro x1 x2 x3 k35 hk35
    intro n
    induction n with
    | zero =>
      intro x4 H locs ls h
      rw [f_X3_judged_b67] at h
      cases h
    | succ n ih =>
      intro x4 H locs ls h hW hl
      rw [f_X3_judged_b67] at h
      refine lv_iload hx hb dX3_judged_67 (lv_at hl 4 rfl) ?_
      refine lv_bipush (v := 14) hx hb dX3_judged_69 (by decide) ?_
      refine lv_icmp_ge (tgt := 100) hx hb dX3_judged_71 (by decide) (fun c4 => ?_) (fun c4 => ?_)
      · have h := ifp c4 h
        refine lv_iinc (v := (x2 + 1)) (lv' := [(2, .int (x2 + 1)), (0, .ref (ρ 3)), (1, .int x1), (3, .int x3), (4, .int x4)]) hx hb dX3_judged_100 hl (k := 2) rfl rfl (by decide) rfl (fun ls hl => ?_)
        refine lv_goto (tgt := 35) hx hb dX3_judged_103 (by decide) ?_
        exact hk35 h hW (lv_sub hl [1, 2, 0] rfl)
      · have h := ifn c4 h
        refine lv_iload_n hx hb dX3_judged_74 rfl (lv_at hl 3 rfl) ?_
        refine lv_iload hx hb dX3_judged_75 (lv_at hl 4 rfl) ?_
        refine lv_ishr hx hb dX3_judged_77 ?_
        refine lv_iconst (v := 1) hx hb dX3_judged_78 (by decide) ?_
        refine lv_iand hx hb dX3_judged_79 ?_
        refine lv_if_eq (tgt := 94) hx hb dX3_judged_80 (by decide) (fun c5 => ?_) (fun c5 => ?_)
        · have h := ifp c5 h
          refine lv_iinc (v := (x4 + 1)) (lv' := [(4, .int (x4 + 1)), (0, .ref (ρ 3)), (1, .int x1), (2, .int x2), (3, .int x3)]) hx hb dX3_judged_94 hl (k := 4) rfl rfl (by decide) rfl (fun ls hl => ?_)
          refine lv_goto (tgt := 67) hx hb dX3_judged_97 (by decide) ?_
          exact ih h hW (lv_sub hl [1, 2, 3, 4, 0] rfl)
        · have h := ifn c5 h
          refine lv_bipush (v := 100) hx hb dX3_judged_83 (by decide) ?_
          refine lv_bipush (v := 16) hx hb dX3_judged_85 (by decide) ?_
          refine lv_iload_n hx hb dX3_judged_87 rfl (lv_at hl 2 rfl) ?_
          refine lv_imul hx hb dX3_judged_88 ?_
          refine lv_iadd hx hb dX3_judged_89 ?_
          refine lv_iload hx hb dX3_judged_90 (lv_at hl 4 rfl) ?_
          refine lv_iadd hx hb dX3_judged_92 ?_
          have h := Option.some.inj h
          subst h
          exact hret _ _ _ _ _ dX3_judged_93 rfl rfl hW
  have b61 : ∀ {x1 : Int32} {x2 : Int32} {s0 : Int32} {k35 : Int32 → Option (Int32)} (hk35 : ∀ {x2 : Int32} {H : Heap} {locs : List Loc} {ls : Array Slot}, k35 x2 = some res → zW D A s.heap (WC q ρ T_price T_year T_joinEnds T_wallEnds T_cost T_doors T_joins T_walls T_oldWells T_apart L_tape L_text L_fed L_length L_read L_end L_at L_fault L_d L_p L_y L_j L_o P_away P_beside P_reach P_serves P_crowds P_servedLow P_servedHigh P_crowdedLow P_crowdedHigh P_there P_must P_can C_what C_number C_before C_after C_done C_kept A_kinds A_traced A_bodies A_began A_self A_kindOfSelf S_holds S_body S_sort S_size S_elements G_grown) H locs → lv_has ls 5 [(0, .ref (ρ 3)), (1, .int x1), (2, .int x2)] → W p l e (zrm d) s m args below meth c H locs 0 0 Q (F0 m 35 ls [])) {H : Heap} {locs : List Loc} {ls : Array Slot}, f_X3_judged_b61 k35 x1 x2 s0 P_crowds = some res → zW D A s.heap (WC q ρ T_price T_year T_joinEnds T_wallEnds T_cost T_doors T_joins T_walls T_oldWells T_apart L_tape L_text L_fed L_length L_read L_end L_at L_fault L_d L_p L_y L_j L_o P_away P_beside P_reach P_serves P_crowds P_servedLow P_servedHigh P_crowdedLow P_crowdedHigh P_there P_must P_can C_what C_number C_before C_after C_done C_kept A_kinds A_traced A_bodies A_began A_self A_kindOfSelf S_holds S_body S_sort S_size S_elements G_grown) H locs → lv_has ls 5 [(0, .ref (ρ 3)), (1, .int x1), (2, .int x2)] → W p l e (zrm d) s m args below meth c H locs 0 0 Q (F0 m 61 ls [.int s0]) := by
    intro x1 x2 s0 k35 hk35 H locs ls h hW hl
    unfold f_X3_judged_b61 at h
    refine lv_istore_n (lv' := [(3, .int s0), (0, .ref (ρ 3)), (1, .int x1), (2, .int x2)]) hx hb dX3_judged_61 rfl hl (by decide) rfl (fun ls hl => ?_)
    refine lv_iload_n hx hb dX3_judged_62 rfl (lv_at hl 3 rfl) ?_
    refine lv_iconst (v := 1) hx hb dX3_judged_63 (by decide) ?_
    refine lv_iadd hx hb dX3_judged_64 ?_
    refine lv_istore (lv' := [(4, .int (x2 + 1)), (3, .int s0), (0, .ref (ρ 3)), (1, .int x1), (2, .int x2)]) hx hb dX3_judged_65 hl (by decide) rfl (fun ls hl => ?_)
    exact b67 hk35 h hW (lv_sub hl [2, 3, 4, 1, 0] rfl)
  have b35 : ∀ {x1 : Int32} {n : Nat} {x2 : Int32} {H : Heap} {locs : List Loc} {ls : Array Slot}, f_X3_judged_b35 x1 P_crowds n x2 = some res → zW D A s.heap (WC q ρ T_price T_year T_joinEnds T_wallEnds T_cost T_doors T_joins T_walls T_oldWells T_apart L_tape L_text L_fed L_length L_read L_end L_at L_fault L_d L_p L_y L_j L_o P_away P_beside P_reach P_serves P_crowds P_servedLow P_servedHigh P_crowdedLow P_crowdedHigh P_there P_must P_can C_what C_number C_before C_after C_done C_kept A_kinds A_traced A_bodies A_began A_self A_kindOfSelf S_holds S_body S_sort S_size S_elements G_grown) H locs → lv_has ls 5 [(0, .ref (ρ 3)), (1, .int x1), (2, .int x2)] → W p l e (zrm d) s m args below meth c H locs 0 0 Q (F0 m 35 ls []) := by
    intro x1
    intro n
    induction n with
    | zero =>
      intro x2 H locs ls h
      rw [f_X3_judged_b35] at h
      cases h
    | succ n ih =>
      intro x2 H locs ls h hW hl
      rw [f_X3_judged_b35] at h
      refine lv_iload_n hx hb dX3_judged_35 rfl (lv_at hl 2 rfl) ?_
      refine lv_bipush (v := 14) hx hb dX3_judged_36 (by decide) ?_
      refine lv_icmp_ge (tgt := 106) hx hb dX3_judged_38 (by decide) (fun c2 => ?_) (fun c2 => ?_)
      · have h := ifp c2 h
        refine lv_bipush (v := (-2)) hx hb dX3_judged_106 (by decide) ?_
        have h := Option.some.inj h
        subst h
        exact hret _ _ _ _ _ dX3_judged_108 rfl rfl hW
      · have h := ifn c2 h
        refine lv_iload_n hx hb dX3_judged_41 rfl (lv_at hl 1 rfl) ?_
        refine lv_iload_n hx hb dX3_judged_42 rfl (lv_at hl 2 rfl) ?_
        refine lv_ishr hx hb dX3_judged_43 ?_
        refine lv_iconst (v := 1) hx hb dX3_judged_44 (by decide) ?_
        refine lv_iand hx hb dX3_judged_45 ?_
        refine lv_if_eq (tgt := 60) hx hb dX3_judged_46 (by decide) (fun c3 => ?_) (fun c3 => ?_)
        · have h := ifp c3 h
          refine lv_iconst (v := 0) hx hb dX3_judged_60 (by decide) ?_
          exact b61 ih h hW (lv_sub hl [0, 1, 2] rfl)
        · have h := ifn c3 h
          refine lv_aload_n hx hb dX3_judged_49 rfl (lv_at hl 0 rfl) ?_
          refine z_get hC hW fg_X3_26 3 WC_3 rfl dX3_judged_50 ?_
          refine lv_iload_n hx hb dX3_judged_53 rfl (lv_at hl 2 rfl) ?_
          obtain ⟨g6, h⟩ := ix_some h
          refine z_iald hC hW 19 WC_19 g6 dX3_judged_54 ?_
          refine lv_iload_n hx hb dX3_judged_55 rfl (lv_at hl 1 rfl) ?_
          refine lv_iand hx hb dX3_judged_56 ?_
          refine lv_goto (tgt := 61) hx hb dX3_judged_57 (by decide) ?_
          exact b61 ih h hW (lv_sub hl [0, 1, 2] rfl)
  have b27 : ∀ {x1 : Int32} {x2 : Int32} {k2 : Int32 → Option (Int32)} (hk2 : ∀ {x2 : Int32} {H : Heap} {locs : List Loc} {ls : Array Slot}, k2 x2 = some res → zW D A s.heap (WC q ρ T_price T_year T_joinEnds T_wallEnds T_cost T_doors T_joins T_walls T_oldWells T_apart L_tape L_text L_fed L_length L_read L_end L_at L_fault L_d L_p L_y L_j L_o P_away P_beside P_reach P_serves P_crowds P_servedLow P_servedHigh P_crowdedLow P_crowdedHigh P_there P_must P_can C_what C_number C_before C_after C_done C_kept A_kinds A_traced A_bodies A_began A_self A_kindOfSelf S_holds S_body S_sort S_size S_elements G_grown) H locs → lv_has ls 5 [(0, .ref (ρ 3)), (1, .int x1), (2, .int x2)] → W p l e (zrm d) s m args below meth c H locs 0 0 Q (F0 m 2 ls [])) {H : Heap} {locs : List Loc} {ls : Array Slot}, f_X3_judged_b27 k2 x1 x2 P_crowds P_servedLow P_servedHigh P_there = some res → zW D A s.heap (WC q ρ T_price T_year T_joinEnds T_wallEnds T_cost T_doors T_joins T_walls T_oldWells T_apart L_tape L_text L_fed L_length L_read L_end L_at L_fault L_d L_p L_y L_j L_o P_away P_beside P_reach P_serves P_crowds P_servedLow P_servedHigh P_crowdedLow P_crowdedHigh P_there P_must P_can C_what C_number C_before C_after C_done C_kept A_kinds A_traced A_bodies A_began A_self A_kindOfSelf S_holds S_body S_sort S_size S_elements G_grown) H locs → lv_has ls 5 [(0, .ref (ρ 3)), (1, .int x1), (2, .int x2)] → W p l e (zrm d) s m args below meth c H locs 0 0 Q (F0 m 27 ls []) := by
    intro x1 x2 k2 hk2 H locs ls h hW hl
    unfold f_X3_judged_b27 at h
    refine lv_iinc (v := (x2 + 1)) (lv' := [(2, .int (x2 + 1)), (0, .ref (ρ 3)), (1, .int x1)]) hx hb dX3_judged_27 hl (k := 2) rfl rfl (by decide) rfl (fun ls hl => ?_)
    refine lv_goto (tgt := 2) hx hb dX3_judged_30 (by decide) ?_
    exact hk2 h hW (lv_sub hl [1, 2, 0] rfl)
  have b2 : ∀ {x1 : Int32} {n : Nat} {x2 : Int32} {H : Heap} {locs : List Loc} {ls : Array Slot}, f_X3_judged_b2 x1 P_crowds P_servedLow P_servedHigh P_there n x2 = some res → zW D A s.heap (WC q ρ T_price T_year T_joinEnds T_wallEnds T_cost T_doors T_joins T_walls T_oldWells T_apart L_tape L_text L_fed L_length L_read L_end L_at L_fault L_d L_p L_y L_j L_o P_away P_beside P_reach P_serves P_crowds P_servedLow P_servedHigh P_crowdedLow P_crowdedHigh P_there P_must P_can C_what C_number C_before C_after C_done C_kept A_kinds A_traced A_bodies A_began A_self A_kindOfSelf S_holds S_body S_sort S_size S_elements G_grown) H locs → lv_has ls 5 [(0, .ref (ρ 3)), (1, .int x1), (2, .int x2)] → W p l e (zrm d) s m args below meth c H locs 0 0 Q (F0 m 2 ls []) := by
    intro x1
    intro n
    induction n with
    | zero =>
      intro x2 H locs ls h
      rw [f_X3_judged_b2] at h
      cases h
    | succ n ih =>
      intro x2 H locs ls h hW hl
      rw [f_X3_judged_b2] at h
      refine lv_iload_n hx hb dX3_judged_2 rfl (lv_at hl 2 rfl) ?_
      refine lv_bipush (v := 14) hx hb dX3_judged_3 (by decide) ?_
      refine lv_icmp_ge (tgt := 33) hx hb dX3_judged_5 (by decide) (fun c1 => ?_) (fun c1 => ?_)
      · have h := ifp c1 h
        refine lv_iconst (v := 0) hx hb dX3_judged_33 (by decide) ?_
        refine lv_istore_n (lv' := [(2, .int 0), (0, .ref (ρ 3)), (1, .int x1)]) hx hb dX3_judged_34 rfl hl (by decide) rfl (fun ls hl => ?_)
        exact b35 h hW (lv_sub hl [1, 2, 0] rfl)
      · have h := ifn c1 h
        refine lv_aload_n hx hb dX3_judged_8 rfl (lv_at hl 0 rfl) ?_
        refine lv_iload_n hx hb dX3_judged_9 rfl (lv_at hl 2 rfl) ?_
        obtain ⟨u7, eu7, h⟩ := bd_some h
        refine z_callV_i hC hW (rest := []) (c_X3_isThere (d := 0) (Nat.le_refl _) eu7) vw_X3_57 WC_3 rfl ⟨rfl, rfl⟩ (zrm_ok (by omega) (by decide)) rfl rfl hl.1 (Nat.le_of_ble_eq_true rfl) dX3_judged_10 (fun H locs hW => ?_)
        refine lv_if_eq (tgt := 27) hx hb dX3_judged_13 (by decide) (fun c8 => ?_) (fun c8 => ?_)
        · have h := ifp c8 h
          exact b27 ih h hW (lv_sub hl [0, 1, 2] rfl)
        · have h := ifn c8 h
          refine lv_aload_n hx hb dX3_judged_16 rfl (lv_at hl 0 rfl) ?_
          refine lv_iload_n hx hb dX3_judged_17 rfl (lv_at hl 2 rfl) ?_
          refine lv_iload_n hx hb dX3_judged_18 rfl (lv_at hl 1 rfl) ?_
          obtain ⟨u9, eu9, h⟩ := bd_some h
          refine z_callV_i hC hW (rest := []) (c_X3_isServed (d := 1) (Nat.le_refl _) eu9) vw_X3_107 WC_3 rfl ⟨rfl, rfl⟩ (zrm_ok (by omega) (by decide)) rfl rfl hl.1 (Nat.le_of_ble_eq_true rfl) dX3_judged_19 (fun H locs hW => ?_)
          refine lv_if_ne (tgt := 27) hx hb dX3_judged_22 (by decide) (fun c10 => ?_) (fun c10 => ?_)
          · have h := ifn c10 h
            exact b27 ih h hW (lv_sub hl [0, 1, 2] rfl)
          · have h := ifp c10 h
            refine lv_iload_n hx hb dX3_judged_25 rfl (lv_at hl 2 rfl) ?_
            have h := Option.some.inj h
            subst h
            exact hret _ _ _ _ _ dX3_judged_26 rfl rfl hW
  unfold f_X3_judged at h
  refine lv_iconst (v := 0) hx hb dX3_judged_0 (by decide) ?_
  refine lv_istore_n (lv' := [(2, .int 0), (0, .ref (ρ 3)), (1, .int a1)]) hx hb dX3_judged_1 rfl hl (by decide) rfl (fun ls hl => ?_)
  exact b2 h hW (lv_sub hl [1, 2, 0] rfl)
set_option maxHeartbeats 4000000 in
set_option maxRecDepth 100000 in
theorem c_X6_judge {a1 : Int32} {d : Nat} {res : Int32 × Nat × Int32 × Int32 × Int32 × Int32 × Int32 × Int32 × Int32 × Int32 × (Nat → Nat → Int32) × (Nat → Int32) × (Nat → Int32) × (Nat → Int32) × (Nat → Int32) × (Nat → Int32) × (Nat → Int32) × (Nat → Int32) × (Nat → Int32) × Int32 × Int32 × Int32} (hd : 84 ≤ d) (h : f_X6_judge a1 T_price T_year T_joinEnds T_wallEnds T_doors T_joins T_walls T_oldWells T_apart L_text L_length L_read L_end L_at L_fault L_d L_p L_y L_j L_o P_away P_beside P_reach P_serves P_crowds P_servedLow P_servedHigh P_crowdedLow P_crowdedHigh P_there P_must P_can = some res) : zMi l yX6_judge cX6_judge 2 .int (zrm d) [.ref (ρ 0), .int a1] D q (WC q ρ T_price T_year T_joinEnds T_wallEnds T_cost T_doors T_joins T_walls T_oldWells T_apart L_tape L_text L_fed L_length L_read L_end L_at L_fault L_d L_p L_y L_j L_o P_away P_beside P_reach P_serves P_crowds P_servedLow P_servedHigh P_crowdedLow P_crowdedHigh P_there P_must P_can C_what C_number C_before C_after C_done C_kept A_kinds A_traced A_bodies A_began A_self A_kindOfSelf S_holds S_body S_sort S_size S_elements G_grown) sz res.1 (WC q ρ T_price T_year T_joinEnds T_wallEnds T_cost T_doors T_joins T_walls T_oldWells T_apart L_tape L_text L_fed L_length res.2.1 res.2.2.1 res.2.2.2.1 res.2.2.2.2.1 res.2.2.2.2.2.1 res.2.2.2.2.2.2.1 res.2.2.2.2.2.2.2.1 res.2.2.2.2.2.2.2.2.1 res.2.2.2.2.2.2.2.2.2.1 res.2.2.2.2.2.2.2.2.2.2.1 res.2.2.2.2.2.2.2.2.2.2.2.1 res.2.2.2.2.2.2.2.2.2.2.2.2.1 res.2.2.2.2.2.2.2.2.2.2.2.2.2.1 res.2.2.2.2.2.2.2.2.2.2.2.2.2.2.1 res.2.2.2.2.2.2.2.2.2.2.2.2.2.2.2.1 res.2.2.2.2.2.2.2.2.2.2.2.2.2.2.2.2.1 res.2.2.2.2.2.2.2.2.2.2.2.2.2.2.2.2.2.1 res.2.2.2.2.2.2.2.2.2.2.2.2.2.2.2.2.2.2.1 res.2.2.2.2.2.2.2.2.2.2.2.2.2.2.2.2.2.2.2.1 res.2.2.2.2.2.2.2.2.2.2.2.2.2.2.2.2.2.2.2.2.1 res.2.2.2.2.2.2.2.2.2.2.2.2.2.2.2.2.2.2.2.2.2 C_what C_number C_before C_after C_done C_kept A_kinds A_traced A_bodies A_began A_self A_kindOfSelf S_holds S_body S_sort S_size S_elements G_grown) := by
  refine zMet_i (own := RX6) _ (by decide) rfl (Nat.le_of_ble_eq_true rfl) ?_
  intro p e s m args below meth c A ls Q hC hW hl hret
  have hx := hC.1
  have hb := hC.2.1
  have hl : lv_has ls 2 [(0, .ref (ρ 0)), (1, .int a1)] := hl
  unfold f_X6_judge at h
  refine lv_aload_n hx hb dX6_judge_0 rfl (lv_at hl 0 rfl) ?_
  refine z_get hC hW fg_X6_10 0 WC_0 rfl dX6_judge_1 ?_
  refine lv_iload_n hx hb dX6_judge_4 rfl (lv_at hl 1 rfl) ?_
  obtain ⟨u1, eu1, h⟩ := bd_some h
  refine z_callV_i hC hW (rest := []) (c_X5_areDoors (d := 1) (Nat.le_refl _) eu1) vw_X6_97 WC_1 rfl ⟨rfl, rfl⟩ (zrm_ok (by omega) (by decide)) rfl rfl hl.1 (Nat.le_of_ble_eq_true rfl) dX6_judge_5 (fun H locs hW => ?_)
  refine lv_if_ne (tgt := 13) hx hb dX6_judge_8 (by decide) (fun c2 => ?_) (fun c2 => ?_)
  · have h := ifn c2 h
    refine lv_aload_n hx hb dX6_judge_13 rfl (lv_at hl 0 rfl) ?_
    obtain ⟨u3, eu3, h⟩ := bd_some h
    refine z_callV_v hC hW (rest := []) (c_X6_settle (d := 83) (Nat.le_refl _) eu3) vw_X6_147 WC_0 rfl ⟨rfl, rfl⟩ (zrm_ok (by omega) (by decide)) rfl rfl hl.1 (Nat.le_of_ble_eq_true rfl) dX6_judge_14 (fun H locs hW => ?_)
    refine lv_aload_n hx hb dX6_judge_17 rfl (lv_at hl 0 rfl) ?_
    refine z_get hC hW fg_X6_26 0 WC_0 rfl dX6_judge_18 ?_
    refine lv_iload_n hx hb dX6_judge_21 rfl (lv_at hl 1 rfl) ?_
    obtain ⟨u4, eu4, h⟩ := bd_some h
    refine z_callV_i hC hW (rest := []) (c_X3_judged (d := 2) (Nat.le_refl _) eu4) vw_X6_154 WC_3 rfl ⟨rfl, rfl⟩ (zrm_ok (by omega) (by decide)) rfl rfl hl.1 (Nat.le_of_ble_eq_true rfl) dX6_judge_22 (fun H locs hW => ?_)
    have h := Option.some.inj h
    subst h
    exact hret _ _ _ _ _ dX6_judge_25 rfl rfl hW
  · have h := ifp c2 h
    refine lv_iconst (v := (-1)) hx hb dX6_judge_11 (by decide) ?_
    have h := Option.some.inj h
    subst h
    exact hret _ _ _ _ _ dX6_judge_12 rfl rfl hW
set_option maxHeartbeats 4000000 in
set_option maxRecDepth 100000 in
theorem c_X3_crowded {a1 : Int32} {d : Nat} {res : Int32} (hd : 0 ≤ d) (h : f_X3_crowded a1 P_crowdedLow P_crowdedHigh = some res) : zMi l yX3_crowded cX3_crowded 2 .int (zrm d) [.ref (ρ 3), .int a1] D q (WC q ρ T_price T_year T_joinEnds T_wallEnds T_cost T_doors T_joins T_walls T_oldWells T_apart L_tape L_text L_fed L_length L_read L_end L_at L_fault L_d L_p L_y L_j L_o P_away P_beside P_reach P_serves P_crowds P_servedLow P_servedHigh P_crowdedLow P_crowdedHigh P_there P_must P_can C_what C_number C_before C_after C_done C_kept A_kinds A_traced A_bodies A_began A_self A_kindOfSelf S_holds S_body S_sort S_size S_elements G_grown) sz res (WC q ρ T_price T_year T_joinEnds T_wallEnds T_cost T_doors T_joins T_walls T_oldWells T_apart L_tape L_text L_fed L_length L_read L_end L_at L_fault L_d L_p L_y L_j L_o P_away P_beside P_reach P_serves P_crowds P_servedLow P_servedHigh P_crowdedLow P_crowdedHigh P_there P_must P_can C_what C_number C_before C_after C_done C_kept A_kinds A_traced A_bodies A_began A_self A_kindOfSelf S_holds S_body S_sort S_size S_elements G_grown) := by
  refine zMet_i (own := RX3) _ (by decide) rfl (Nat.le_of_ble_eq_true rfl) ?_
  intro p e s m args below meth c A ls Q hC hW hl hret
  have hx := hC.1
  have hb := hC.2.1
  have hl : lv_has ls 2 [(0, .ref (ρ 3)), (1, .int a1)] := hl
  unfold f_X3_crowded at h
  refine lv_aload_n hx hb dX3_crowded_0 rfl (lv_at hl 0 rfl) ?_
  refine z_get hC hW fg_X3_35 3 WC_3 rfl dX3_crowded_1 ?_
  refine lv_iload_n hx hb dX3_crowded_4 rfl (lv_at hl 1 rfl) ?_
  refine lv_bipush (v := 127) hx hb dX3_crowded_5 (by decide) ?_
  refine lv_iand hx hb dX3_crowded_7 ?_
  obtain ⟨g1, h⟩ := ix_some h
  refine z_iald hC hW 22 WC_22 g1 dX3_crowded_8 ?_
  refine lv_aload_n hx hb dX3_crowded_9 rfl (lv_at hl 0 rfl) ?_
  refine z_get hC hW fg_X3_38 3 WC_3 rfl dX3_crowded_10 ?_
  refine lv_iload_n hx hb dX3_crowded_13 rfl (lv_at hl 1 rfl) ?_
  refine lv_bipush (v := 7) hx hb dX3_crowded_14 (by decide) ?_
  refine lv_ishr hx hb dX3_crowded_16 ?_
  refine lv_bipush (v := 127) hx hb dX3_crowded_17 (by decide) ?_
  refine lv_iand hx hb dX3_crowded_19 ?_
  obtain ⟨g2, h⟩ := ix_some h
  refine z_iald hC hW 23 WC_23 g2 dX3_crowded_20 ?_
  refine lv_ior hx hb dX3_crowded_21 ?_
  have h := Option.some.inj h
  subst h
  exact hret _ _ _ _ _ dX3_crowded_22 rfl rfl hW
set_option maxHeartbeats 4000000 in
set_option maxRecDepth 100000 in
theorem c_X3_isLawful {a1 : Int32} {d : Nat} {res : Int32} (hd : 1 ≤ d) (h : f_X3_isLawful a1 P_servedLow P_servedHigh P_crowdedLow P_crowdedHigh P_there = some res) : zMi l yX3_isLawful cX3_isLawful 2 .boolean (zrm d) [.ref (ρ 3), .int a1] D q (WC q ρ T_price T_year T_joinEnds T_wallEnds T_cost T_doors T_joins T_walls T_oldWells T_apart L_tape L_text L_fed L_length L_read L_end L_at L_fault L_d L_p L_y L_j L_o P_away P_beside P_reach P_serves P_crowds P_servedLow P_servedHigh P_crowdedLow P_crowdedHigh P_there P_must P_can C_what C_number C_before C_after C_done C_kept A_kinds A_traced A_bodies A_began A_self A_kindOfSelf S_holds S_body S_sort S_size S_elements G_grown) sz res (WC q ρ T_price T_year T_joinEnds T_wallEnds T_cost T_doors T_joins T_walls T_oldWells T_apart L_tape L_text L_fed L_length L_read L_end L_at L_fault L_d L_p L_y L_j L_o P_away P_beside P_reach P_serves P_crowds P_servedLow P_servedHigh P_crowdedLow P_crowdedHigh P_there P_must P_can C_what C_number C_before C_after C_done C_kept A_kinds A_traced A_bodies A_began A_self A_kindOfSelf S_holds S_body S_sort S_size S_elements G_grown) := by
  refine zMet_i (own := RX3) _ (by decide) rfl (Nat.le_of_ble_eq_true rfl) ?_
  intro p e s m args below meth c A ls Q hC hW hl hret
  have hx := hC.1
  have hb := hC.2.1
  have hl : lv_has ls 2 [(0, .ref (ρ 3)), (1, .int a1)] := hl
  unfold f_X3_isLawful at h
  refine lv_aload_n hx hb dX3_isLawful_0 rfl (lv_at hl 0 rfl) ?_
  refine lv_iload_n hx hb dX3_isLawful_1 rfl (lv_at hl 1 rfl) ?_
  obtain ⟨u1, eu1, h⟩ := bd_some h
  refine z_callV_i hC hW (rest := []) (c_X3_served (d := 0) (Nat.le_refl _) eu1) vw_X3_97 WC_3 rfl ⟨rfl, rfl⟩ (zrm_ok (by omega) (by decide)) rfl rfl hl.1 (Nat.le_of_ble_eq_true rfl) dX3_isLawful_2 (fun H locs hW => ?_)
  refine lv_aload_n hx hb dX3_isLawful_5 rfl (lv_at hl 0 rfl) ?_
  refine z_get hC hW fg_X3_41 3 WC_3 rfl dX3_isLawful_6 ?_
  refine lv_icmp_ne (tgt := 26) hx hb dX3_isLawful_9 (by decide) (fun c2 => ?_) (fun c2 => ?_)
  · have h := ifn c2 h
    refine lv_iconst (v := 0) hx hb dX3_isLawful_26 (by decide) ?_
    have h := Option.some.inj h
    subst h
    exact hret _ _ _ _ _ dX3_isLawful_27 rfl rfl hW
  · have h := ifp c2 h
    refine lv_aload_n hx hb dX3_isLawful_12 rfl (lv_at hl 0 rfl) ?_
    refine lv_iload_n hx hb dX3_isLawful_13 rfl (lv_at hl 1 rfl) ?_
    obtain ⟨u3, eu3, h⟩ := bd_some h
    refine z_callV_i hC hW (rest := []) (c_X3_crowded (d := 0) (Nat.le_refl _) eu3) vw_X3_101 WC_3 rfl ⟨rfl, rfl⟩ (zrm_ok (by omega) (by decide)) rfl rfl hl.1 (Nat.le_of_ble_eq_true rfl) dX3_isLawful_14 (fun H locs hW => ?_)
    refine lv_iload_n hx hb dX3_isLawful_17 rfl (lv_at hl 1 rfl) ?_
    refine lv_iand hx hb dX3_isLawful_18 ?_
    refine lv_if_ne (tgt := 26) hx hb dX3_isLawful_19 (by decide) (fun c4 => ?_) (fun c4 => ?_)
    · have h := ifn c4 h
      refine lv_iconst (v := 0) hx hb dX3_isLawful_26 (by decide) ?_
      have h := Option.some.inj h
      subst h
      exact hret _ _ _ _ _ dX3_isLawful_27 rfl rfl hW
    · have h := ifp c4 h
      refine lv_iconst (v := 1) hx hb dX3_isLawful_22 (by decide) ?_
      refine lv_goto (tgt := 27) hx hb dX3_isLawful_23 (by decide) ?_
      have h := Option.some.inj h
      subst h
      exact hret _ _ _ _ _ dX3_isLawful_27 rfl rfl hW
set_option maxHeartbeats 4000000 in
set_option maxRecDepth 100000 in
theorem c_X3_mayBe {a1 : Int32} {d : Nat} {res : Int32} (hd : 2 ≤ d) (h : f_X3_mayBe a1 P_servedLow P_servedHigh P_crowdedLow P_crowdedHigh P_there P_must P_can = some res) : zMi l yX3_mayBe cX3_mayBe 2 .boolean (zrm d) [.ref (ρ 3), .int a1] D q (WC q ρ T_price T_year T_joinEnds T_wallEnds T_cost T_doors T_joins T_walls T_oldWells T_apart L_tape L_text L_fed L_length L_read L_end L_at L_fault L_d L_p L_y L_j L_o P_away P_beside P_reach P_serves P_crowds P_servedLow P_servedHigh P_crowdedLow P_crowdedHigh P_there P_must P_can C_what C_number C_before C_after C_done C_kept A_kinds A_traced A_bodies A_began A_self A_kindOfSelf S_holds S_body S_sort S_size S_elements G_grown) sz res (WC q ρ T_price T_year T_joinEnds T_wallEnds T_cost T_doors T_joins T_walls T_oldWells T_apart L_tape L_text L_fed L_length L_read L_end L_at L_fault L_d L_p L_y L_j L_o P_away P_beside P_reach P_serves P_crowds P_servedLow P_servedHigh P_crowdedLow P_crowdedHigh P_there P_must P_can C_what C_number C_before C_after C_done C_kept A_kinds A_traced A_bodies A_began A_self A_kindOfSelf S_holds S_body S_sort S_size S_elements G_grown) := by
  refine zMet_i (own := RX3) _ (by decide) rfl (Nat.le_of_ble_eq_true rfl) ?_
  intro p e s m args below meth c A ls Q hC hW hl hret
  have hx := hC.1
  have hb := hC.2.1
  have hl : lv_has ls 2 [(0, .ref (ρ 3)), (1, .int a1)] := hl
  unfold f_X3_mayBe at h
  refine lv_iload_n hx hb dX3_mayBe_0 rfl (lv_at hl 1 rfl) ?_
  refine lv_aload_n hx hb dX3_mayBe_1 rfl (lv_at hl 0 rfl) ?_
  refine z_get hC hW fg_X3_45 3 WC_3 rfl dX3_mayBe_2 ?_
  refine lv_iand hx hb dX3_mayBe_5 ?_
  refine lv_aload_n hx hb dX3_mayBe_6 rfl (lv_at hl 0 rfl) ?_
  refine z_get hC hW fg_X3_45 3 WC_3 rfl dX3_mayBe_7 ?_
  refine lv_icmp_ne (tgt := 36) hx hb dX3_mayBe_10 (by decide) (fun c1 => ?_) (fun c1 => ?_)
  · have h := ifn c1 h
    refine lv_iconst (v := 0) hx hb dX3_mayBe_36 (by decide) ?_
    have h := Option.some.inj h
    subst h
    exact hret _ _ _ _ _ dX3_mayBe_37 rfl rfl hW
  · have h := ifp c1 h
    refine lv_iload_n hx hb dX3_mayBe_13 rfl (lv_at hl 1 rfl) ?_
    refine lv_aload_n hx hb dX3_mayBe_14 rfl (lv_at hl 0 rfl) ?_
    refine z_get hC hW fg_X3_54 3 WC_3 rfl dX3_mayBe_15 ?_
    refine lv_iconst (v := (-1)) hx hb dX3_mayBe_18 (by decide) ?_
    refine lv_ixor hx hb dX3_mayBe_19 ?_
    refine lv_iand hx hb dX3_mayBe_20 ?_
    refine lv_if_ne (tgt := 36) hx hb dX3_mayBe_21 (by decide) (fun c2 => ?_) (fun c2 => ?_)
    · have h := ifn c2 h
      refine lv_iconst (v := 0) hx hb dX3_mayBe_36 (by decide) ?_
      have h := Option.some.inj h
      subst h
      exact hret _ _ _ _ _ dX3_mayBe_37 rfl rfl hW
    · have h := ifp c2 h
      refine lv_aload_n hx hb dX3_mayBe_24 rfl (lv_at hl 0 rfl) ?_
      refine lv_iload_n hx hb dX3_mayBe_25 rfl (lv_at hl 1 rfl) ?_
      obtain ⟨u3, eu3, h⟩ := bd_some h
      refine z_callV_i hC hW (rest := []) (c_X3_isLawful (d := 1) (Nat.le_refl _) eu3) vw_X3_104 WC_3 rfl ⟨rfl, rfl⟩ (zrm_ok (by omega) (by decide)) rfl rfl hl.1 (Nat.le_of_ble_eq_true rfl) dX3_mayBe_26 (fun H locs hW => ?_)
      refine lv_if_eq (tgt := 36) hx hb dX3_mayBe_29 (by decide) (fun c4 => ?_) (fun c4 => ?_)
      · have h := ifp c4 h
        refine lv_iconst (v := 0) hx hb dX3_mayBe_36 (by decide) ?_
        have h := Option.some.inj h
        subst h
        exact hret _ _ _ _ _ dX3_mayBe_37 rfl rfl hW
      · have h := ifn c4 h
        refine lv_iconst (v := 1) hx hb dX3_mayBe_32 (by decide) ?_
        refine lv_goto (tgt := 37) hx hb dX3_mayBe_33 (by decide) ?_
        have h := Option.some.inj h
        subst h
        exact hret _ _ _ _ _ dX3_mayBe_37 rfl rfl hW
set_option maxHeartbeats 4000000 in
set_option maxRecDepth 100000 in
theorem c_X3_priceOf {a1 : Int32} {d : Nat} {res : Int32} (hd : 0 ≤ d) (h : f_X3_priceOf a1 T_price T_doors = some res) : zMi l yX3_priceOf cX3_priceOf 4 .int (zrm d) [.ref (ρ 1), .int a1] D q (WC q ρ T_price T_year T_joinEnds T_wallEnds T_cost T_doors T_joins T_walls T_oldWells T_apart L_tape L_text L_fed L_length L_read L_end L_at L_fault L_d L_p L_y L_j L_o P_away P_beside P_reach P_serves P_crowds P_servedLow P_servedHigh P_crowdedLow P_crowdedHigh P_there P_must P_can C_what C_number C_before C_after C_done C_kept A_kinds A_traced A_bodies A_began A_self A_kindOfSelf S_holds S_body S_sort S_size S_elements G_grown) sz res (WC q ρ T_price T_year T_joinEnds T_wallEnds T_cost T_doors T_joins T_walls T_oldWells T_apart L_tape L_text L_fed L_length L_read L_end L_at L_fault L_d L_p L_y L_j L_o P_away P_beside P_reach P_serves P_crowds P_servedLow P_servedHigh P_crowdedLow P_crowdedHigh P_there P_must P_can C_what C_number C_before C_after C_done C_kept A_kinds A_traced A_bodies A_began A_self A_kindOfSelf S_holds S_body S_sort S_size S_elements G_grown) := by
  refine zMet_i (own := RX3) _ (by decide) rfl (Nat.le_of_ble_eq_true rfl) ?_
  intro p e s m args below meth c A ls Q hC hW hl hret
  have hx := hC.1
  have hb := hC.2.1
  have hl : lv_has ls 4 [(0, .ref (ρ 1)), (1, .int a1)] := hl
  have b31 : ∀ {x1 : Int32} {x3 : Int32} {s0 : Int32} {s1 : Int32} {k4 : Int32 → Int32 → Option (Int32)} (hk4 : ∀ {x2 : Int32} {x3 : Int32} {H : Heap} {locs : List Loc} {ls : Array Slot}, k4 x2 x3 = some res → zW D A s.heap (WC q ρ T_price T_year T_joinEnds T_wallEnds T_cost T_doors T_joins T_walls T_oldWells T_apart L_tape L_text L_fed L_length L_read L_end L_at L_fault L_d L_p L_y L_j L_o P_away P_beside P_reach P_serves P_crowds P_servedLow P_servedHigh P_crowdedLow P_crowdedHigh P_there P_must P_can C_what C_number C_before C_after C_done C_kept A_kinds A_traced A_bodies A_began A_self A_kindOfSelf S_holds S_body S_sort S_size S_elements G_grown) H locs → lv_has ls 4 [(0, .ref (ρ 1)), (1, .int x1), (2, .int x2), (3, .int x3)] → W p l e (zrm d) s m args below meth c H locs 0 0 Q (F0 m 4 ls [])) {H : Heap} {locs : List Loc} {ls : Array Slot}, f_X3_priceOf_b31 k4 x1 x3 s0 s1 T_price T_doors = some res → zW D A s.heap (WC q ρ T_price T_year T_joinEnds T_wallEnds T_cost T_doors T_joins T_walls T_oldWells T_apart L_tape L_text L_fed L_length L_read L_end L_at L_fault L_d L_p L_y L_j L_o P_away P_beside P_reach P_serves P_crowds P_servedLow P_servedHigh P_crowdedLow P_crowdedHigh P_there P_must P_can C_what C_number C_before C_after C_done C_kept A_kinds A_traced A_bodies A_began A_self A_kindOfSelf S_holds S_body S_sort S_size S_elements G_grown) H locs → lv_has ls 4 [(0, .ref (ρ 1)), (1, .int x1), (3, .int x3)] → W p l e (zrm d) s m args below meth c H locs 0 0 Q (F0 m 31 ls [.int s0, .int s1]) := by
    intro x1 x3 s0 s1 k4 hk4 H locs ls h hW hl
    unfold f_X3_priceOf_b31 at h
    refine lv_iadd hx hb dX3_priceOf_31 ?_
    refine lv_istore_n (lv' := [(2, .int (s1 + s0)), (0, .ref (ρ 1)), (1, .int x1), (3, .int x3)]) hx hb dX3_priceOf_32 rfl hl (by decide) rfl (fun ls hl => ?_)
    refine lv_iinc (v := (x3 + 1)) (lv' := [(3, .int (x3 + 1)), (2, .int (s1 + s0)), (0, .ref (ρ 1)), (1, .int x1)]) hx hb dX3_priceOf_33 hl (k := 3) rfl rfl (by decide) rfl (fun ls hl => ?_)
    refine lv_goto (tgt := 4) hx hb dX3_priceOf_36 (by decide) ?_
    exact hk4 h hW (lv_sub hl [2, 3, 1, 0] rfl)
  have b4 : ∀ {x1 : Int32} {n : Nat} {x2 : Int32} {x3 : Int32} {H : Heap} {locs : List Loc} {ls : Array Slot}, f_X3_priceOf_b4 x1 T_price T_doors n x2 x3 = some res → zW D A s.heap (WC q ρ T_price T_year T_joinEnds T_wallEnds T_cost T_doors T_joins T_walls T_oldWells T_apart L_tape L_text L_fed L_length L_read L_end L_at L_fault L_d L_p L_y L_j L_o P_away P_beside P_reach P_serves P_crowds P_servedLow P_servedHigh P_crowdedLow P_crowdedHigh P_there P_must P_can C_what C_number C_before C_after C_done C_kept A_kinds A_traced A_bodies A_began A_self A_kindOfSelf S_holds S_body S_sort S_size S_elements G_grown) H locs → lv_has ls 4 [(0, .ref (ρ 1)), (1, .int x1), (2, .int x2), (3, .int x3)] → W p l e (zrm d) s m args below meth c H locs 0 0 Q (F0 m 4 ls []) := by
    intro x1
    intro n
    induction n with
    | zero =>
      intro x2 x3 H locs ls h
      rw [f_X3_priceOf_b4] at h
      cases h
    | succ n ih =>
      intro x2 x3 H locs ls h hW hl
      rw [f_X3_priceOf_b4] at h
      refine lv_iload_n hx hb dX3_priceOf_4 rfl (lv_at hl 3 rfl) ?_
      refine lv_aload_n hx hb dX3_priceOf_5 rfl (lv_at hl 0 rfl) ?_
      refine z_get hC hW fg_X3_126 1 WC_1 rfl dX3_priceOf_6 ?_
      refine lv_icmp_ge (tgt := 39) hx hb dX3_priceOf_9 (by decide) (fun c1 => ?_) (fun c1 => ?_)
      · have h := ifp c1 h
        refine lv_iload_n hx hb dX3_priceOf_39 rfl (lv_at hl 2 rfl) ?_
        have h := Option.some.inj h
        subst h
        exact hret _ _ _ _ _ dX3_priceOf_40 rfl rfl hW
      · have h := ifn c1 h
        refine lv_iload_n hx hb dX3_priceOf_12 rfl (lv_at hl 2 rfl) ?_
        refine lv_iload_n hx hb dX3_priceOf_13 rfl (lv_at hl 1 rfl) ?_
        refine lv_iload_n hx hb dX3_priceOf_14 rfl (lv_at hl 3 rfl) ?_
        refine lv_ishr hx hb dX3_priceOf_15 ?_
        refine lv_iconst (v := 1) hx hb dX3_priceOf_16 (by decide) ?_
        refine lv_iand hx hb dX3_priceOf_17 ?_
        refine lv_if_eq (tgt := 30) hx hb dX3_priceOf_18 (by decide) (fun c2 => ?_) (fun c2 => ?_)
        · have h := ifp c2 h
          refine lv_iconst (v := 0) hx hb dX3_priceOf_30 (by decide) ?_
          exact b31 ih h hW (lv_sub hl [0, 1, 3] rfl)
        · have h := ifn c2 h
          refine lv_aload_n hx hb dX3_priceOf_21 rfl (lv_at hl 0 rfl) ?_
          refine z_get hC hW fg_X3_129 1 WC_1 rfl dX3_priceOf_22 ?_
          refine lv_iload_n hx hb dX3_priceOf_25 rfl (lv_at hl 3 rfl) ?_
          obtain ⟨g3, h⟩ := ix_some h
          refine z_iald hC hW 8 WC_8 g3 dX3_priceOf_26 ?_
          refine lv_goto (tgt := 31) hx hb dX3_priceOf_27 (by decide) ?_
          exact b31 ih h hW (lv_sub hl [0, 1, 3] rfl)
  unfold f_X3_priceOf at h
  refine lv_iconst (v := 0) hx hb dX3_priceOf_0 (by decide) ?_
  refine lv_istore_n (lv' := [(2, .int 0), (0, .ref (ρ 1)), (1, .int a1)]) hx hb dX3_priceOf_1 rfl hl (by decide) rfl (fun ls hl => ?_)
  refine lv_iconst (v := 0) hx hb dX3_priceOf_2 (by decide) ?_
  refine lv_istore_n (lv' := [(3, .int 0), (2, .int 0), (0, .ref (ρ 1)), (1, .int a1)]) hx hb dX3_priceOf_3 rfl hl (by decide) rfl (fun ls hl => ?_)
  exact b4 h hW (lv_sub hl [2, 3, 1, 0] rfl)
set_option maxHeartbeats 4000000 in
set_option maxRecDepth 100000 in
theorem c_J6_bitCount_0f7a4 {a0 : Int32} {ws : va_W} {d : Nat} {res : Int32} (hd : 0 ≤ d) (h : f_J6_bitCount_0f7a4 a0 = some res) : zMi l yJ6_bitCount_0f7a4 cJ6_bitCount_0f7a4 1 .int (zrm d) [.int a0] D q ws sz res ws := by
  refine zMet_i (own := RJ6) _ (by decide) rfl (Nat.le_of_ble_eq_true rfl) ?_
  intro p e s m args below meth c A ls Q hC hW hl hret
  have hx := hC.1
  have hb := hC.2.1
  have hl : lv_has ls 1 [(0, .int a0)] := hl
  unfold f_J6_bitCount_0f7a4 at h
  refine lv_iload_n hx hb dJ6_bitCount_0f7a4_0 rfl (lv_at hl 0 rfl) ?_
  refine lv_iload_n hx hb dJ6_bitCount_0f7a4_1 rfl (lv_at hl 0 rfl) ?_
  refine lv_iconst (v := 1) hx hb dJ6_bitCount_0f7a4_2 (by decide) ?_
  refine lv_iushr hx hb dJ6_bitCount_0f7a4_3 rfl ?_
  refine lv_ldcw (v := 1431655765) hx hb hC.2.2.1 (hC.2.2.2.1 _ wd_612) dJ6_bitCount_0f7a4_4 ?_
  refine lv_iand hx hb dJ6_bitCount_0f7a4_7 ?_
  refine lv_isub hx hb dJ6_bitCount_0f7a4_8 ?_
  refine lv_istore_n (lv' := [(0, .int (a0 - ((a0.toUInt32 >>> (((1 : Int32)).toUInt32 &&& Int32.toUInt32 31)).toInt32 &&& 1431655765)))]) hx hb dJ6_bitCount_0f7a4_9 rfl hl (by decide) rfl (fun ls hl => ?_)
  refine lv_iload_n hx hb dJ6_bitCount_0f7a4_10 rfl (lv_at hl 0 rfl) ?_
  refine lv_ldcw (v := 858993459) hx hb hC.2.2.1 (hC.2.2.2.1 _ wd_613) dJ6_bitCount_0f7a4_11 ?_
  refine lv_iand hx hb dJ6_bitCount_0f7a4_14 ?_
  refine lv_iload_n hx hb dJ6_bitCount_0f7a4_15 rfl (lv_at hl 0 rfl) ?_
  refine lv_iconst (v := 2) hx hb dJ6_bitCount_0f7a4_16 (by decide) ?_
  refine lv_iushr hx hb dJ6_bitCount_0f7a4_17 rfl ?_
  refine lv_ldcw (v := 858993459) hx hb hC.2.2.1 (hC.2.2.2.1 _ wd_613) dJ6_bitCount_0f7a4_18 ?_
  refine lv_iand hx hb dJ6_bitCount_0f7a4_21 ?_
  refine lv_iadd hx hb dJ6_bitCount_0f7a4_22 ?_
  refine lv_istore_n (lv' := [(0, .int (((a0 - ((a0.toUInt32 >>> (((1 : Int32)).toUInt32 &&& Int32.toUInt32 31)).toInt32 &&& 1431655765)) &&& 858993459) + (((a0 - ((a0.toUInt32 >>> (((1 : Int32)).toUInt32 &&& Int32.toUInt32 31)).toInt32 &&& 1431655765)).toUInt32 >>> (((2 : Int32)).toUInt32 &&& Int32.toUInt32 31)).toInt32 &&& 858993459)))]) hx hb dJ6_bitCount_0f7a4_23 rfl hl (by decide) rfl (fun ls hl => ?_)
  refine lv_iload_n hx hb dJ6_bitCount_0f7a4_24 rfl (lv_at hl 0 rfl) ?_
  refine lv_iload_n hx hb dJ6_bitCount_0f7a4_25 rfl (lv_at hl 0 rfl) ?_
  refine lv_iconst (v := 4) hx hb dJ6_bitCount_0f7a4_26 (by decide) ?_
  refine lv_iushr hx hb dJ6_bitCount_0f7a4_27 rfl ?_
  refine lv_iadd hx hb dJ6_bitCount_0f7a4_28 ?_
  refine lv_ldcw (v := 252645135) hx hb hC.2.2.1 (hC.2.2.2.1 _ wd_614) dJ6_bitCount_0f7a4_29 ?_
  refine lv_iand hx hb dJ6_bitCount_0f7a4_32 ?_
  refine lv_istore_n (lv' := [(0, .int (((((a0 - ((a0.toUInt32 >>> (((1 : Int32)).toUInt32 &&& Int32.toUInt32 31)).toInt32 &&& 1431655765)) &&& 858993459) + (((a0 - ((a0.toUInt32 >>> (((1 : Int32)).toUInt32 &&& Int32.toUInt32 31)).toInt32 &&& 1431655765)).toUInt32 >>> (((2 : Int32)).toUInt32 &&& Int32.toUInt32 31)).toInt32 &&& 858993459)) + ((((a0 - ((a0.toUInt32 >>> (((1 : Int32)).toUInt32 &&& Int32.toUInt32 31)).toInt32 &&& 1431655765)) &&& 858993459) + (((a0 - ((a0.toUInt32 >>> (((1 : Int32)).toUInt32 &&& Int32.toUInt32 31)).toInt32 &&& 1431655765)).toUInt32 >>> (((2 : Int32)).toUInt32 &&& Int32.toUInt32 31)).toInt32 &&& 858993459)).toUInt32 >>> (((4 : Int32)).toUInt32 &&& Int32.toUInt32 31)).toInt32) &&& 252645135))]) hx hb dJ6_bitCount_0f7a4_33 rfl hl (by decide) rfl (fun ls hl => ?_)
  refine lv_iload_n hx hb dJ6_bitCount_0f7a4_34 rfl (lv_at hl 0 rfl) ?_
  refine lv_iload_n hx hb dJ6_bitCount_0f7a4_35 rfl (lv_at hl 0 rfl) ?_
  refine lv_bipush (v := 8) hx hb dJ6_bitCount_0f7a4_36 (by decide) ?_
  refine lv_iushr hx hb dJ6_bitCount_0f7a4_38 rfl ?_
  refine lv_iadd hx hb dJ6_bitCount_0f7a4_39 ?_
  refine lv_istore_n (lv' := [(0, .int ((((((a0 - ((a0.toUInt32 >>> (((1 : Int32)).toUInt32 &&& Int32.toUInt32 31)).toInt32 &&& 1431655765)) &&& 858993459) + (((a0 - ((a0.toUInt32 >>> (((1 : Int32)).toUInt32 &&& Int32.toUInt32 31)).toInt32 &&& 1431655765)).toUInt32 >>> (((2 : Int32)).toUInt32 &&& Int32.toUInt32 31)).toInt32 &&& 858993459)) + ((((a0 - ((a0.toUInt32 >>> (((1 : Int32)).toUInt32 &&& Int32.toUInt32 31)).toInt32 &&& 1431655765)) &&& 858993459) + (((a0 - ((a0.toUInt32 >>> (((1 : Int32)).toUInt32 &&& Int32.toUInt32 31)).toInt32 &&& 1431655765)).toUInt32 >>> (((2 : Int32)).toUInt32 &&& Int32.toUInt32 31)).toInt32 &&& 858993459)).toUInt32 >>> (((4 : Int32)).toUInt32 &&& Int32.toUInt32 31)).toInt32) &&& 252645135) + ((((((a0 - ((a0.toUInt32 >>> (((1 : Int32)).toUInt32 &&& Int32.toUInt32 31)).toInt32 &&& 1431655765)) &&& 858993459) + (((a0 - ((a0.toUInt32 >>> (((1 : Int32)).toUInt32 &&& Int32.toUInt32 31)).toInt32 &&& 1431655765)).toUInt32 >>> (((2 : Int32)).toUInt32 &&& Int32.toUInt32 31)).toInt32 &&& 858993459)) + ((((a0 - ((a0.toUInt32 >>> (((1 : Int32)).toUInt32 &&& Int32.toUInt32 31)).toInt32 &&& 1431655765)) &&& 858993459) + (((a0 - ((a0.toUInt32 >>> (((1 : Int32)).toUInt32 &&& Int32.toUInt32 31)).toInt32 &&& 1431655765)).toUInt32 >>> (((2 : Int32)).toUInt32 &&& Int32.toUInt32 31)).toInt32 &&& 858993459)).toUInt32 >>> (((4 : Int32)).toUInt32 &&& Int32.toUInt32 31)).toInt32) &&& 252645135).toUInt32 >>> (((8 : Int32)).toUInt32 &&& Int32.toUInt32 31)).toInt32))]) hx hb dJ6_bitCount_0f7a4_40 rfl hl (by decide) rfl (fun ls hl => ?_)
  refine lv_iload_n hx hb dJ6_bitCount_0f7a4_41 rfl (lv_at hl 0 rfl) ?_
  refine lv_iload_n hx hb dJ6_bitCount_0f7a4_42 rfl (lv_at hl 0 rfl) ?_
  refine lv_bipush (v := 16) hx hb dJ6_bitCount_0f7a4_43 (by decide) ?_
  refine lv_iushr hx hb dJ6_bitCount_0f7a4_45 rfl ?_
  refine lv_iadd hx hb dJ6_bitCount_0f7a4_46 ?_
  refine lv_istore_n (lv' := [(0, .int (((((((a0 - ((a0.toUInt32 >>> (((1 : Int32)).toUInt32 &&& Int32.toUInt32 31)).toInt32 &&& 1431655765)) &&& 858993459) + (((a0 - ((a0.toUInt32 >>> (((1 : Int32)).toUInt32 &&& Int32.toUInt32 31)).toInt32 &&& 1431655765)).toUInt32 >>> (((2 : Int32)).toUInt32 &&& Int32.toUInt32 31)).toInt32 &&& 858993459)) + ((((a0 - ((a0.toUInt32 >>> (((1 : Int32)).toUInt32 &&& Int32.toUInt32 31)).toInt32 &&& 1431655765)) &&& 858993459) + (((a0 - ((a0.toUInt32 >>> (((1 : Int32)).toUInt32 &&& Int32.toUInt32 31)).toInt32 &&& 1431655765)).toUInt32 >>> (((2 : Int32)).toUInt32 &&& Int32.toUInt32 31)).toInt32 &&& 858993459)).toUInt32 >>> (((4 : Int32)).toUInt32 &&& Int32.toUInt32 31)).toInt32) &&& 252645135) + ((((((a0 - ((a0.toUInt32 >>> (((1 : Int32)).toUInt32 &&& Int32.toUInt32 31)).toInt32 &&& 1431655765)) &&& 858993459) + (((a0 - ((a0.toUInt32 >>> (((1 : Int32)).toUInt32 &&& Int32.toUInt32 31)).toInt32 &&& 1431655765)).toUInt32 >>> (((2 : Int32)).toUInt32 &&& Int32.toUInt32 31)).toInt32 &&& 858993459)) + ((((a0 - ((a0.toUInt32 >>> (((1 : Int32)).toUInt32 &&& Int32.toUInt32 31)).toInt32 &&& 1431655765)) &&& 858993459) + (((a0 - ((a0.toUInt32 >>> (((1 : Int32)).toUInt32 &&& Int32.toUInt32 31)).toInt32 &&& 1431655765)).toUInt32 >>> (((2 : Int32)).toUInt32 &&& Int32.toUInt32 31)).toInt32 &&& 858993459)).toUInt32 >>> (((4 : Int32)).toUInt32 &&& Int32.toUInt32 31)).toInt32) &&& 252645135).toUInt32 >>> (((8 : Int32)).toUInt32 &&& Int32.toUInt32 31)).toInt32) + (((((((a0 - ((a0.toUInt32 >>> (((1 : Int32)).toUInt32 &&& Int32.toUInt32 31)).toInt32 &&& 1431655765)) &&& 858993459) + (((a0 - ((a0.toUInt32 >>> (((1 : Int32)).toUInt32 &&& Int32.toUInt32 31)).toInt32 &&& 1431655765)).toUInt32 >>> (((2 : Int32)).toUInt32 &&& Int32.toUInt32 31)).toInt32 &&& 858993459)) + ((((a0 - ((a0.toUInt32 >>> (((1 : Int32)).toUInt32 &&& Int32.toUInt32 31)).toInt32 &&& 1431655765)) &&& 858993459) + (((a0 - ((a0.toUInt32 >>> (((1 : Int32)).toUInt32 &&& Int32.toUInt32 31)).toInt32 &&& 1431655765)).toUInt32 >>> (((2 : Int32)).toUInt32 &&& Int32.toUInt32 31)).toInt32 &&& 858993459)).toUInt32 >>> (((4 : Int32)).toUInt32 &&& Int32.toUInt32 31)).toInt32) &&& 252645135) + ((((((a0 - ((a0.toUInt32 >>> (((1 : Int32)).toUInt32 &&& Int32.toUInt32 31)).toInt32 &&& 1431655765)) &&& 858993459) + (((a0 - ((a0.toUInt32 >>> (((1 : Int32)).toUInt32 &&& Int32.toUInt32 31)).toInt32 &&& 1431655765)).toUInt32 >>> (((2 : Int32)).toUInt32 &&& Int32.toUInt32 31)).toInt32 &&& 858993459)) + ((((a0 - ((a0.toUInt32 >>> (((1 : Int32)).toUInt32 &&& Int32.toUInt32 31)).toInt32 &&& 1431655765)) &&& 858993459) + (((a0 - ((a0.toUInt32 >>> (((1 : Int32)).toUInt32 &&& Int32.toUInt32 31)).toInt32 &&& 1431655765)).toUInt32 >>> (((2 : Int32)).toUInt32 &&& Int32.toUInt32 31)).toInt32 &&& 858993459)).toUInt32 >>> (((4 : Int32)).toUInt32 &&& Int32.toUInt32 31)).toInt32) &&& 252645135).toUInt32 >>> (((8 : Int32)).toUInt32 &&& Int32.toUInt32 31)).toInt32).toUInt32 >>> (((16 : Int32)).toUInt32 &&& Int32.toUInt32 31)).toInt32))]) hx hb dJ6_bitCount_0f7a4_47 rfl hl (by decide) rfl (fun ls hl => ?_)
  refine lv_iload_n hx hb dJ6_bitCount_0f7a4_48 rfl (lv_at hl 0 rfl) ?_
  refine lv_bipush (v := 63) hx hb dJ6_bitCount_0f7a4_49 (by decide) ?_
  refine lv_iand hx hb dJ6_bitCount_0f7a4_51 ?_
  have h := Option.some.inj h
  subst h
  exact hret _ _ _ _ _ dJ6_bitCount_0f7a4_52 rfl rfl hW
set_option maxHeartbeats 4000000 in
set_option maxRecDepth 100000 in
theorem c_X3_weight {a2 : Int32} {a3 : Int32} {a4 : Int32} {d : Nat} {res : Int32} (hd : 1 ≤ d) (h : f_X3_weight a2 a3 a4 T_price T_doors P_must = some res) : zMi l yX3_weight cX3_weight 5 .int (zrm d) [.ref (ρ 3), .ref (ρ 1), .int a2, .int a3, .int a4] D q (WC q ρ T_price T_year T_joinEnds T_wallEnds T_cost T_doors T_joins T_walls T_oldWells T_apart L_tape L_text L_fed L_length L_read L_end L_at L_fault L_d L_p L_y L_j L_o P_away P_beside P_reach P_serves P_crowds P_servedLow P_servedHigh P_crowdedLow P_crowdedHigh P_there P_must P_can C_what C_number C_before C_after C_done C_kept A_kinds A_traced A_bodies A_began A_self A_kindOfSelf S_holds S_body S_sort S_size S_elements G_grown) sz res (WC q ρ T_price T_year T_joinEnds T_wallEnds T_cost T_doors T_joins T_walls T_oldWells T_apart L_tape L_text L_fed L_length L_read L_end L_at L_fault L_d L_p L_y L_j L_o P_away P_beside P_reach P_serves P_crowds P_servedLow P_servedHigh P_crowdedLow P_crowdedHigh P_there P_must P_can C_what C_number C_before C_after C_done C_kept A_kinds A_traced A_bodies A_began A_self A_kindOfSelf S_holds S_body S_sort S_size S_elements G_grown) := by
  refine zMet_i (own := RX3) _ (by decide) rfl (Nat.le_of_ble_eq_true rfl) ?_
  intro p e s m args below meth c A ls Q hC hW hl hret
  have hx := hC.1
  have hb := hC.2.1
  have hl : lv_has ls 5 [(0, .ref (ρ 3)), (1, .ref (ρ 1)), (2, .int a2), (3, .int a3), (4, .int a4)] := hl
  have b51 : ∀ {x3 : Int32} {H : Heap} {locs : List Loc} {ls : Array Slot}, f_X3_weight_b51 x3 T_price T_doors P_must = some res → zW D A s.heap (WC q ρ T_price T_year T_joinEnds T_wallEnds T_cost T_doors T_joins T_walls T_oldWells T_apart L_tape L_text L_fed L_length L_read L_end L_at L_fault L_d L_p L_y L_j L_o P_away P_beside P_reach P_serves P_crowds P_servedLow P_servedHigh P_crowdedLow P_crowdedHigh P_there P_must P_can C_what C_number C_before C_after C_done C_kept A_kinds A_traced A_bodies A_began A_self A_kindOfSelf S_holds S_body S_sort S_size S_elements G_grown) H locs → lv_has ls 5 [(0, .ref (ρ 3)), (1, .ref (ρ 1)), (3, .int x3)] → W p l e (zrm d) s m args below meth c H locs 0 0 Q (F0 m 51 ls []) := by
    intro x3 H locs ls h hW hl
    unfold f_X3_weight_b51 at h
    refine lv_aload_n hx hb dX3_weight_51 rfl (lv_at hl 1 rfl) ?_
    refine lv_iload_n hx hb dX3_weight_52 rfl (lv_at hl 2 rfl) ?_
    refine lv_aload_n hx hb dX3_weight_53 rfl (lv_at hl 0 rfl) ?_
    refine z_get hC hW fg_X3_45 3 WC_3 rfl dX3_weight_54 ?_
    refine lv_iconst (v := (-1)) hx hb dX3_weight_57 (by decide) ?_
    refine lv_ixor hx hb dX3_weight_58 ?_
    refine lv_iand hx hb dX3_weight_59 ?_
    obtain ⟨u7, eu7, h⟩ := bd_some h
    refine z_callS_i hC hW (rest := []) (c_X3_priceOf (d := 0) (Nat.le_refl _) eu7) sw_X3_122 ⟨rfl, rfl⟩ (zrm_ok (by omega) (by decide)) rfl rfl hl.1 (Nat.le_of_ble_eq_true rfl) dX3_weight_60 (fun H locs hW => ?_)
    have h := Option.some.inj h
    subst h
    exact hret _ _ _ _ _ dX3_weight_63 rfl rfl hW
  unfold f_X3_weight at h
  refine lv_iload_n hx hb dX3_weight_0 rfl (lv_at hl 2 rfl) ?_
  by_cases c1 : a2 = 0
  · have h := ifp c1 h
    refine z_tabIn hx hb (off := 31) (tgt := 32) 0 c1 (by decide) dX3_weight_1 (by decide) ?_
    refine lv_iload_n hx hb dX3_weight_32 rfl (lv_at hl 3 rfl) ?_
    obtain ⟨u2, eu2, h⟩ := bd_some h
    refine z_callS_i hC hW (rest := []) (c_J6_bitCount_0f7a4 (d := 0) (Nat.le_refl _) eu2) sw_X3_117 ⟨rfl, rfl⟩ (zrm_ok (by omega) (by decide)) rfl rfl hl.1 (Nat.le_of_ble_eq_true rfl) dX3_weight_33 (fun H locs hW => ?_)
    have h := Option.some.inj h
    subst h
    exact hret _ _ _ _ _ dX3_weight_36 rfl rfl hW
  · have h := ifn c1 h
    by_cases c3 : a2 = 1
    · have h := ifp c3 h
      refine z_tabIn hx hb (off := 36) (tgt := 37) 1 c3 (by decide) dX3_weight_1 (by decide) ?_
      refine lv_iload_n hx hb dX3_weight_37 rfl (lv_at hl 3 rfl) ?_
      obtain ⟨u4, eu4, h⟩ := bd_some h
      refine z_callS_i hC hW (rest := []) (c_J6_bitCount_0f7a4 (d := 0) (Nat.le_refl _) eu4) sw_X3_117 ⟨rfl, rfl⟩ (zrm_ok (by omega) (by decide)) rfl rfl hl.1 (Nat.le_of_ble_eq_true rfl) dX3_weight_38 (fun H locs hW => ?_)
      refine lv_ineg hx hb dX3_weight_41 ?_
      have h := Option.some.inj h
      subst h
      exact hret _ _ _ _ _ dX3_weight_42 rfl rfl hW
    · have h := ifn c3 h
      by_cases c5 : a2 = 3
      · have h := ifp c5 h
        refine z_tabIn hx hb (off := 42) (tgt := 43) 3 c5 (by decide) dX3_weight_1 (by decide) ?_
        refine lv_iload_n hx hb dX3_weight_43 rfl (lv_at hl 3 rfl) ?_
        refine lv_iload hx hb dX3_weight_44 (lv_at hl 4 rfl) ?_
        refine lv_ixor hx hb dX3_weight_46 ?_
        obtain ⟨u6, eu6, h⟩ := bd_some h
        refine z_callS_i hC hW (rest := []) (c_J6_bitCount_0f7a4 (d := 0) (Nat.le_refl _) eu6) sw_X3_117 ⟨rfl, rfl⟩ (zrm_ok (by omega) (by decide)) rfl rfl hl.1 (Nat.le_of_ble_eq_true rfl) dX3_weight_47 (fun H locs hW => ?_)
        have h := Option.some.inj h
        subst h
        exact hret _ _ _ _ _ dX3_weight_50 rfl rfl hW
      · have h := ifn c5 h
        refine z_tabD hx hb (tgt := 51) [0, 1, 3] (List.forall_mem_cons.mpr ⟨c1, List.forall_mem_cons.mpr ⟨c3, List.forall_mem_cons.mpr ⟨c5, List.forall_mem_nil _⟩⟩⟩) (by decide) dX3_weight_1 (by decide) ?_
        exact b51 h hW (lv_sub hl [0, 1, 3] rfl)
end CT20_c10
