section CT20_c08
variable {l : Launch} {D : va_G} {q : Nat → ClassId} {ρ : Nat → Nat} {sz : Nat} {T_price : Nat → Int32} {T_year : Nat → Int32} {T_joinEnds : Nat → Int32} {T_wallEnds : Nat → Int32} {T_cost : Nat → Int32} {T_doors : Int32} {T_joins : Int32} {T_walls : Int32} {T_oldWells : Int32} {T_apart : Int32} {L_tape : Nat → Int32} {L_text : Nat → Int32} {L_fed : Int32} {L_length : Int32} {L_read : Nat} {L_end : Int32} {L_at : Int32} {L_fault : Int32} {L_d : Int32} {L_p : Int32} {L_y : Int32} {L_j : Int32} {L_o : Int32} {P_away : Nat → Nat → Int32} {P_beside : Nat → Int32} {P_reach : Nat → Int32} {P_serves : Nat → Int32} {P_crowds : Nat → Int32} {P_servedLow : Nat → Int32} {P_servedHigh : Nat → Int32} {P_crowdedLow : Nat → Int32} {P_crowdedHigh : Nat → Int32} {P_there : Int32} {P_must : Int32} {P_can : Int32} {C_what : Nat → Int32} {C_number : Nat → Int32} {C_before : Nat → Int32} {C_after : Nat → Int32} {C_done : Int32} {C_kept : Int32} {A_kinds : Nat → Int32} {A_traced : Nat → Int32} {A_bodies : Int32} {A_began : Int32} {A_self : Int32} {A_kindOfSelf : Int32} {S_holds : Nat → Int32} {S_body : Nat → Int32} {S_sort : Nat → Int32} {S_size : Nat → Int32} {S_elements : Nat → Nat → Int64} {G_grown : Nat → Int32}
set_option maxHeartbeats 4000000 in
set_option maxRecDepth 100000 in
theorem c_X3_measure {a1 : Int32} {a2 : Int32} {d : Nat} {res : (Nat → Int32) × (Nat → Int32)} (hd : 1 ≤ d) (h : f_X3_measure a1 a2 P_away P_reach P_serves P_crowds P_there = some res) : zMv l yX3_measure cX3_measure 4 (zrm d) [.ref (ρ 3), .int a1, .int a2] D q (WC q ρ T_price T_year T_joinEnds T_wallEnds T_cost T_doors T_joins T_walls T_oldWells T_apart L_tape L_text L_fed L_length L_read L_end L_at L_fault L_d L_p L_y L_j L_o P_away P_beside P_reach P_serves P_crowds P_servedLow P_servedHigh P_crowdedLow P_crowdedHigh P_there P_must P_can C_what C_number C_before C_after C_done C_kept A_kinds A_traced A_bodies A_began A_self A_kindOfSelf S_holds S_body S_sort S_size S_elements G_grown) sz (WC q ρ T_price T_year T_joinEnds T_wallEnds T_cost T_doors T_joins T_walls T_oldWells T_apart L_tape L_text L_fed L_length L_read L_end L_at L_fault L_d L_p L_y L_j L_o P_away P_beside P_reach res.1 res.2 P_servedLow P_servedHigh P_crowdedLow P_crowdedHigh P_there P_must P_can C_what C_number C_before C_after C_done C_kept A_kinds A_traced A_bodies A_began A_self A_kindOfSelf S_holds S_body S_sort S_size S_elements G_grown) := by
  refine zMet_v (own := RX3) (by decide) rfl (Nat.le_of_ble_eq_true rfl) ?_
  intro p e s m args below meth c A ls Q hC hW hl hret
  have hx := hC.1
  have hb := hC.2.1
  have hl : lv_has ls 4 [(0, .ref (ρ 3)), (1, .int a1), (2, .int a2)] := hl
  have b88 : ∀ {x1 : Int32} {x2 : Int32} {x3 : Int32} {P_serves : Nat → Int32} {P_crowds : Nat → Int32} {k16 : Int32 → (Nat → Int32) → (Nat → Int32) → Option ((Nat → Int32) × (Nat → Int32))} (hk16 : ∀ {x3 : Int32} {P_serves : Nat → Int32} {P_crowds : Nat → Int32} {H : Heap} {locs : List Loc} {ls : Array Slot}, k16 x3 P_serves P_crowds = some res → zW D A s.heap (WC q ρ T_price T_year T_joinEnds T_wallEnds T_cost T_doors T_joins T_walls T_oldWells T_apart L_tape L_text L_fed L_length L_read L_end L_at L_fault L_d L_p L_y L_j L_o P_away P_beside P_reach P_serves P_crowds P_servedLow P_servedHigh P_crowdedLow P_crowdedHigh P_there P_must P_can C_what C_number C_before C_after C_done C_kept A_kinds A_traced A_bodies A_began A_self A_kindOfSelf S_holds S_body S_sort S_size S_elements G_grown) H locs → lv_has ls 4 [(0, .ref (ρ 3)), (1, .int x1), (2, .int x2), (3, .int x3)] → W p l e (zrm d) s m args below meth c H locs 0 0 Q (F0 m 16 ls [])) {H : Heap} {locs : List Loc} {ls : Array Slot}, f_X3_measure_b88 k16 x1 x2 x3 P_away P_reach P_serves P_crowds P_there = some res → zW D A s.heap (WC q ρ T_price T_year T_joinEnds T_wallEnds T_cost T_doors T_joins T_walls T_oldWells T_apart L_tape L_text L_fed L_length L_read L_end L_at L_fault L_d L_p L_y L_j L_o P_away P_beside P_reach P_serves P_crowds P_servedLow P_servedHigh P_crowdedLow P_crowdedHigh P_there P_must P_can C_what C_number C_before C_after C_done C_kept A_kinds A_traced A_bodies A_began A_self A_kindOfSelf S_holds S_body S_sort S_size S_elements G_grown) H locs → lv_has ls 4 [(0, .ref (ρ 3)), (1, .int x1), (2, .int x2), (3, .int x3)] → W p l e (zrm d) s m args below meth c H locs 0 0 Q (F0 m 88 ls []) := by
    intro x1 x2 x3 P_serves P_crowds k16 hk16 H locs ls h hW hl
    unfold f_X3_measure_b88 at h
    refine lv_iinc (v := (x3 + 1)) (lv' := [(3, .int (x3 + 1)), (0, .ref (ρ 3)), (1, .int x1), (2, .int x2)]) hx hb dX3_measure_88 hl (k := 3) rfl rfl (by decide) rfl (fun ls hl => ?_)
    refine lv_goto (tgt := 16) hx hb dX3_measure_91 (by decide) ?_
    exact hk16 h hW (lv_sub hl [1, 2, 3, 0] rfl)
  have b59 : ∀ {x1 : Int32} {x2 : Int32} {x3 : Int32} {P_serves : Nat → Int32} {P_crowds : Nat → Int32} {k16 : Int32 → (Nat → Int32) → (Nat → Int32) → Option ((Nat → Int32) × (Nat → Int32))} (hk16 : ∀ {x3 : Int32} {P_serves : Nat → Int32} {P_crowds : Nat → Int32} {H : Heap} {locs : List Loc} {ls : Array Slot}, k16 x3 P_serves P_crowds = some res → zW D A s.heap (WC q ρ T_price T_year T_joinEnds T_wallEnds T_cost T_doors T_joins T_walls T_oldWells T_apart L_tape L_text L_fed L_length L_read L_end L_at L_fault L_d L_p L_y L_j L_o P_away P_beside P_reach P_serves P_crowds P_servedLow P_servedHigh P_crowdedLow P_crowdedHigh P_there P_must P_can C_what C_number C_before C_after C_done C_kept A_kinds A_traced A_bodies A_began A_self A_kindOfSelf S_holds S_body S_sort S_size S_elements G_grown) H locs → lv_has ls 4 [(0, .ref (ρ 3)), (1, .int x1), (2, .int x2), (3, .int x3)] → W p l e (zrm d) s m args below meth c H locs 0 0 Q (F0 m 16 ls [])) {H : Heap} {locs : List Loc} {ls : Array Slot}, f_X3_measure_b59 k16 x1 x2 x3 P_away P_reach P_serves P_crowds P_there = some res → zW D A s.heap (WC q ρ T_price T_year T_joinEnds T_wallEnds T_cost T_doors T_joins T_walls T_oldWells T_apart L_tape L_text L_fed L_length L_read L_end L_at L_fault L_d L_p L_y L_j L_o P_away P_beside P_reach P_serves P_crowds P_servedLow P_servedHigh P_crowdedLow P_crowdedHigh P_there P_must P_can C_what C_number C_before C_after C_done C_kept A_kinds A_traced A_bodies A_began A_self A_kindOfSelf S_holds S_body S_sort S_size S_elements G_grown) H locs → lv_has ls 4 [(0, .ref (ρ 3)), (1, .int x1), (2, .int x2), (3, .int x3)] → W p l e (zrm d) s m args below meth c H locs 0 0 Q (F0 m 59 ls []) := by
    intro x1 x2 x3 P_serves P_crowds k16 hk16 H locs ls h hW hl
    unfold f_X3_measure_b59 at h
    refine lv_iload_n hx hb dX3_measure_59 rfl (lv_at hl 3 rfl) ?_
    refine lv_iload_n hx hb dX3_measure_60 rfl (lv_at hl 1 rfl) ?_
    refine lv_icmp_eq (tgt := 88) hx hb dX3_measure_61 (by decide) (fun c10 => ?_) (fun c10 => ?_)
    · have h := ifp c10 h
      exact b88 hk16 h hW (lv_sub hl [0, 1, 2, 3] rfl)
    · have h := ifn c10 h
      refine lv_aload_n hx hb dX3_measure_64 rfl (lv_at hl 0 rfl) ?_
      refine z_get hC hW fg_X3_13 3 WC_3 rfl dX3_measure_65 ?_
      refine lv_iload_n hx hb dX3_measure_68 rfl (lv_at hl 3 rfl) ?_
      obtain ⟨g11, h⟩ := ix_some h
      refine z_aaldA hC hW 15 WC_15 g11 dX3_measure_69 ?_
      refine lv_iload_n hx hb dX3_measure_70 rfl (lv_at hl 1 rfl) ?_
      obtain ⟨g12, h⟩ := ix_some h
      refine z_iald hC hW (42 + (Int32.toNatClampNeg x3)) (WC_row (vlt g11)) g12 dX3_measure_71 ?_
      refine lv_iload_n hx hb dX3_measure_72 rfl (lv_at hl 2 rfl) ?_
      refine lv_icmp_ge (tgt := 88) hx hb dX3_measure_73 (by decide) (fun c13 => ?_) (fun c13 => ?_)
      · have h := ifp c13 h
        exact b88 hk16 h hW (lv_sub hl [0, 1, 2, 3] rfl)
      · have h := ifn c13 h
        refine lv_aload_n hx hb dX3_measure_76 rfl (lv_at hl 0 rfl) ?_
        refine z_get hC hW fg_X3_26 3 WC_3 rfl dX3_measure_77 ?_
        refine lv_iload_n hx hb dX3_measure_80 rfl (lv_at hl 1 rfl) ?_
        refine lv_dup2_11 hx hb dX3_measure_81 rfl rfl ?_
        obtain ⟨g14, h⟩ := ix_some h
        refine z_iald hC hW 19 WC_19 g14 dX3_measure_82 ?_
        refine lv_iconst (v := 1) hx hb dX3_measure_83 (by decide) ?_
        refine lv_iload_n hx hb dX3_measure_84 rfl (lv_at hl 3 rfl) ?_
        refine lv_ishl hx hb dX3_measure_85 ?_
        refine lv_ior hx hb dX3_measure_86 ?_
        obtain ⟨g15, h⟩ := ix_some h
        refine z_iast hC hW 19 WC_19 g15 WCs_P_crowds dX3_measure_87 (fun H locs hW => ?_)
        exact b88 hk16 h hW (lv_sub hl [0, 1, 2, 3] rfl)
  have b16 : ∀ {x1 : Int32} {x2 : Int32} {n : Nat} {x3 : Int32} {P_serves : Nat → Int32} {P_crowds : Nat → Int32} {H : Heap} {locs : List Loc} {ls : Array Slot}, f_X3_measure_b16 x1 x2 P_away P_reach P_there n x3 P_serves P_crowds = some res → zW D A s.heap (WC q ρ T_price T_year T_joinEnds T_wallEnds T_cost T_doors T_joins T_walls T_oldWells T_apart L_tape L_text L_fed L_length L_read L_end L_at L_fault L_d L_p L_y L_j L_o P_away P_beside P_reach P_serves P_crowds P_servedLow P_servedHigh P_crowdedLow P_crowdedHigh P_there P_must P_can C_what C_number C_before C_after C_done C_kept A_kinds A_traced A_bodies A_began A_self A_kindOfSelf S_holds S_body S_sort S_size S_elements G_grown) H locs → lv_has ls 4 [(0, .ref (ρ 3)), (1, .int x1), (2, .int x2), (3, .int x3)] → W p l e (zrm d) s m args below meth c H locs 0 0 Q (F0 m 16 ls []) := by
    intro x1 x2
    intro n
    induction n with
    | zero =>
      intro x3 P_serves P_crowds H locs ls h
      rw [f_X3_measure_b16] at h
      cases h
    | succ n ih =>
      intro x3 P_serves P_crowds H locs ls h hW hl
      rw [f_X3_measure_b16] at h
      refine lv_iload_n hx hb dX3_measure_16 rfl (lv_at hl 3 rfl) ?_
      refine lv_bipush (v := 14) hx hb dX3_measure_17 (by decide) ?_
      refine lv_icmp_ge (tgt := 94) hx hb dX3_measure_19 (by decide) (fun c3 => ?_) (fun c3 => ?_)
      · have h := ifp c3 h
        have h := Option.some.inj h
        subst h
        exact hret _ _ _ _ dX3_measure_94 hW
      · have h := ifn c3 h
        refine lv_aload_n hx hb dX3_measure_22 rfl (lv_at hl 0 rfl) ?_
        refine lv_iload_n hx hb dX3_measure_23 rfl (lv_at hl 1 rfl) ?_
        obtain ⟨u4, eu4, h⟩ := bd_some h
        refine z_callV_i hC hW (rest := []) (c_X3_isThere (d := 0) (Nat.le_refl _) eu4) vw_X3_57 WC_3 rfl ⟨rfl, rfl⟩ (zrm_ok (by omega) (by decide)) rfl rfl hl.1 (Nat.le_of_ble_eq_true rfl) dX3_measure_24 (fun H locs hW => ?_)
        refine lv_if_eq (tgt := 94) hx hb dX3_measure_27 (by decide) (fun c5 => ?_) (fun c5 => ?_)
        · have h := ifp c5 h
          have h := Option.some.inj h
          subst h
          exact hret _ _ _ _ dX3_measure_94 hW
        · have h := ifn c5 h
          refine lv_aload_n hx hb dX3_measure_30 rfl (lv_at hl 0 rfl) ?_
          refine z_get hC hW fg_X3_13 3 WC_3 rfl dX3_measure_31 ?_
          refine lv_iload_n hx hb dX3_measure_34 rfl (lv_at hl 3 rfl) ?_
          obtain ⟨g6, h⟩ := ix_some h
          refine z_aaldA hC hW 15 WC_15 g6 dX3_measure_35 ?_
          refine lv_iload_n hx hb dX3_measure_36 rfl (lv_at hl 1 rfl) ?_
          obtain ⟨g7, h⟩ := ix_some h
          refine z_iald hC hW (42 + (Int32.toNatClampNeg x3)) (WC_row (vlt g6)) g7 dX3_measure_37 ?_
          refine lv_aload_n hx hb dX3_measure_38 rfl (lv_at hl 0 rfl) ?_
          refine z_get hC hW fg_X3_20 3 WC_3 rfl dX3_measure_39 ?_
          refine lv_iload_n hx hb dX3_measure_42 rfl (lv_at hl 3 rfl) ?_
          obtain ⟨g8, h⟩ := ix_some h
          refine z_iald hC hW 17 WC_17 g8 dX3_measure_43 ?_
          refine lv_icmp_gt (tgt := 59) hx hb dX3_measure_44 (by decide) (fun c9 => ?_) (fun c9 => ?_)
          · have h := ifp c9 h
            exact b59 ih h hW (lv_sub hl [0, 1, 2, 3] rfl)
          · have h := ifn c9 h
            refine lv_aload_n hx hb dX3_measure_47 rfl (lv_at hl 0 rfl) ?_
            refine z_get hC hW fg_X3_23 3 WC_3 rfl dX3_measure_48 ?_
            refine lv_iload_n hx hb dX3_measure_51 rfl (lv_at hl 1 rfl) ?_
            refine lv_dup2_11 hx hb dX3_measure_52 rfl rfl ?_
            obtain ⟨g16, h⟩ := ix_some h
            refine z_iald hC hW 18 WC_18 g16 dX3_measure_53 ?_
            refine lv_iconst (v := 1) hx hb dX3_measure_54 (by decide) ?_
            refine lv_iload_n hx hb dX3_measure_55 rfl (lv_at hl 3 rfl) ?_
            refine lv_ishl hx hb dX3_measure_56 ?_
            refine lv_ior hx hb dX3_measure_57 ?_
            obtain ⟨g17, h⟩ := ix_some h
            refine z_iast hC hW 18 WC_18 g17 WCs_P_serves dX3_measure_58 (fun H locs hW => ?_)
            exact b59 ih h hW (lv_sub hl [0, 1, 2, 3] rfl)
  unfold f_X3_measure at h
  refine lv_aload_n hx hb dX3_measure_0 rfl (lv_at hl 0 rfl) ?_
  refine z_get hC hW fg_X3_23 3 WC_3 rfl dX3_measure_1 ?_
  refine lv_iload_n hx hb dX3_measure_4 rfl (lv_at hl 1 rfl) ?_
  refine lv_iconst (v := 0) hx hb dX3_measure_5 (by decide) ?_
  obtain ⟨g1, h⟩ := ix_some h
  refine z_iast hC hW 18 WC_18 g1 WCs_P_serves dX3_measure_6 (fun H locs hW => ?_)
  refine lv_aload_n hx hb dX3_measure_7 rfl (lv_at hl 0 rfl) ?_
  refine z_get hC hW fg_X3_26 3 WC_3 rfl dX3_measure_8 ?_
  refine lv_iload_n hx hb dX3_measure_11 rfl (lv_at hl 1 rfl) ?_
  refine lv_iconst (v := 0) hx hb dX3_measure_12 (by decide) ?_
  obtain ⟨g2, h⟩ := ix_some h
  refine z_iast hC hW 19 WC_19 g2 WCs_P_crowds dX3_measure_13 (fun H locs hW => ?_)
  refine lv_iconst (v := 0) hx hb dX3_measure_14 (by decide) ?_
  refine lv_istore_n (lv' := [(3, .int 0), (0, .ref (ρ 3)), (1, .int a1), (2, .int a2)]) hx hb dX3_measure_15 rfl hl (by decide) rfl (fun ls hl => ?_)
  exact b16 h hW (lv_sub hl [1, 2, 3, 0] rfl)
set_option maxHeartbeats 4000000 in
set_option maxRecDepth 100000 in
theorem c_X3_walk {a1 : Int32} {d : Nat} {res : (Nat → Nat → Int32)} (hd : 0 ≤ d) (h : f_X3_walk a1 P_away P_beside = some res) : zMv l yX3_walk cX3_walk 7 (zrm d) [.ref (ρ 3), .int a1] D q (WC q ρ T_price T_year T_joinEnds T_wallEnds T_cost T_doors T_joins T_walls T_oldWells T_apart L_tape L_text L_fed L_length L_read L_end L_at L_fault L_d L_p L_y L_j L_o P_away P_beside P_reach P_serves P_crowds P_servedLow P_servedHigh P_crowdedLow P_crowdedHigh P_there P_must P_can C_what C_number C_before C_after C_done C_kept A_kinds A_traced A_bodies A_began A_self A_kindOfSelf S_holds S_body S_sort S_size S_elements G_grown) sz (WC q ρ T_price T_year T_joinEnds T_wallEnds T_cost T_doors T_joins T_walls T_oldWells T_apart L_tape L_text L_fed L_length L_read L_end L_at L_fault L_d L_p L_y L_j L_o res P_beside P_reach P_serves P_crowds P_servedLow P_servedHigh P_crowdedLow P_crowdedHigh P_there P_must P_can C_what C_number C_before C_after C_done C_kept A_kinds A_traced A_bodies A_began A_self A_kindOfSelf S_holds S_body S_sort S_size S_elements G_grown) := by
  refine zMet_v (own := RX3) (by decide) rfl (Nat.le_of_ble_eq_true rfl) ?_
  intro p e s m args below meth c A ls Q hC hW hl hret
  have hx := hC.1
  have hb := hC.2.1
  have hl : lv_has ls 7 [(0, .ref (ρ 3)), (1, .int a1)] := hl
  have b89 : ∀ {x1 : Int32} {x2 : Int32} {x3 : Int32} {x4 : Int32} {x5 : Int32} {x6 : Int32} {P_away : Nat → Nat → Int32} {k33 : Int32 → Int32 → Int32 → (Nat → Nat → Int32) → Option ((Nat → Nat → Int32))} (hk33 : ∀ {x2 : Int32} {x3 : Int32} {x4 : Int32} {P_away : Nat → Nat → Int32} {H : Heap} {locs : List Loc} {ls : Array Slot}, k33 x2 x3 x4 P_away = some res → zW D A s.heap (WC q ρ T_price T_year T_joinEnds T_wallEnds T_cost T_doors T_joins T_walls T_oldWells T_apart L_tape L_text L_fed L_length L_read L_end L_at L_fault L_d L_p L_y L_j L_o P_away P_beside P_reach P_serves P_crowds P_servedLow P_servedHigh P_crowdedLow P_crowdedHigh P_there P_must P_can C_what C_number C_before C_after C_done C_kept A_kinds A_traced A_bodies A_began A_self A_kindOfSelf S_holds S_body S_sort S_size S_elements G_grown) H locs → lv_has ls 7 [(0, .ref (ρ 3)), (1, .int x1), (2, .int x2), (3, .int x3), (4, .int x4)] → W p l e (zrm d) s m args below meth c H locs 0 0 Q (F0 m 33 ls [])) {k50 : Int32 → Int32 → (Nat → Nat → Int32) → Option ((Nat → Nat → Int32))} (hk50 : ∀ {x5 : Int32} {x6 : Int32} {P_away : Nat → Nat → Int32} {H : Heap} {locs : List Loc} {ls : Array Slot}, k50 x5 x6 P_away = some res → zW D A s.heap (WC q ρ T_price T_year T_joinEnds T_wallEnds T_cost T_doors T_joins T_walls T_oldWells T_apart L_tape L_text L_fed L_length L_read L_end L_at L_fault L_d L_p L_y L_j L_o P_away P_beside P_reach P_serves P_crowds P_servedLow P_servedHigh P_crowdedLow P_crowdedHigh P_there P_must P_can C_what C_number C_before C_after C_done C_kept A_kinds A_traced A_bodies A_began A_self A_kindOfSelf S_holds S_body S_sort S_size S_elements G_grown) H locs → lv_has ls 7 [(0, .ref (ρ 3)), (1, .int x1), (2, .int x2), (3, .int x3), (4, .int x4), (5, .int x5), (6, .int x6)] → W p l e (zrm d) s m args below meth c H locs 0 0 Q (F0 m 50 ls [])) {H : Heap} {locs : List Loc} {ls : Array Slot}, f_X3_walk_b89 k33 k50 x1 x2 x3 x4 x5 x6 P_away P_beside = some res → zW D A s.heap (WC q ρ T_price T_year T_joinEnds T_wallEnds T_cost T_doors T_joins T_walls T_oldWells T_apart L_tape L_text L_fed L_length L_read L_end L_at L_fault L_d L_p L_y L_j L_o P_away P_beside P_reach P_serves P_crowds P_servedLow P_servedHigh P_crowdedLow P_crowdedHigh P_there P_must P_can C_what C_number C_before C_after C_done C_kept A_kinds A_traced A_bodies A_began A_self A_kindOfSelf S_holds S_body S_sort S_size S_elements G_grown) H locs → lv_has ls 7 [(0, .ref (ρ 3)), (1, .int x1), (2, .int x2), (3, .int x3), (4, .int x4), (5, .int x5), (6, .int x6)] → W p l e (zrm d) s m args below meth c H locs 0 0 Q (F0 m 89 ls []) := by
    intro x1 x2 x3 x4 x5 x6 P_away k33 hk33 k50 hk50 H locs ls h hW hl
    unfold f_X3_walk_b89 at h
    refine lv_iinc (v := (x6 + 1)) (lv' := [(6, .int (x6 + 1)), (0, .ref (ρ 3)), (1, .int x1), (2, .int x2), (3, .int x3), (4, .int x4), (5, .int x5)]) hx hb dX3_walk_89 hl (k := 6) rfl rfl (by decide) rfl (fun ls hl => ?_)
    refine lv_goto (tgt := 50) hx hb dX3_walk_92 (by decide) ?_
    exact hk50 h hW (lv_sub hl [1, 2, 3, 4, 5, 6, 0] rfl)
  have b50 : ∀ {x1 : Int32} {x2 : Int32} {x3 : Int32} {x4 : Int32} {k33 : Int32 → Int32 → Int32 → (Nat → Nat → Int32) → Option ((Nat → Nat → Int32))} (hk33 : ∀ {x2 : Int32} {x3 : Int32} {x4 : Int32} {P_away : Nat → Nat → Int32} {H : Heap} {locs : List Loc} {ls : Array Slot}, k33 x2 x3 x4 P_away = some res → zW D A s.heap (WC q ρ T_price T_year T_joinEnds T_wallEnds T_cost T_doors T_joins T_walls T_oldWells T_apart L_tape L_text L_fed L_length L_read L_end L_at L_fault L_d L_p L_y L_j L_o P_away P_beside P_reach P_serves P_crowds P_servedLow P_servedHigh P_crowdedLow P_crowdedHigh P_there P_must P_can C_what C_number C_before C_after C_done C_kept A_kinds A_traced A_bodies A_began A_self A_kindOfSelf S_holds S_body S_sort S_size S_elements G_grown) H locs → lv_has ls 7 [(0, .ref (ρ 3)), (1, .int x1), (2, .int x2), (3, .int x3), (4, .int x4)] → W p l e (zrm d) s m args below meth c H locs 0 0 Q (F0 m 33 ls [])) {n : Nat} {x5 : Int32} {x6 : Int32} {P_away : Nat → Nat → Int32} {H : Heap} {locs : List Loc} {ls : Array Slot}, f_X3_walk_b50 k33 x1 x2 x3 x4 P_beside n x5 x6 P_away = some res → zW D A s.heap (WC q ρ T_price T_year T_joinEnds T_wallEnds T_cost T_doors T_joins T_walls T_oldWells T_apart L_tape L_text L_fed L_length L_read L_end L_at L_fault L_d L_p L_y L_j L_o P_away P_beside P_reach P_serves P_crowds P_servedLow P_servedHigh P_crowdedLow P_crowdedHigh P_there P_must P_can C_what C_number C_before C_after C_done C_kept A_kinds A_traced A_bodies A_began A_self A_kindOfSelf S_holds S_body S_sort S_size S_elements G_grown) H locs → lv_has ls 7 [(0, .ref (ρ 3)), (1, .int x1), (2, .int x2), (3, .int x3), (4, .int x4), (5, .int x5), (6, .int x6)] → W p l e (zrm d) s m args below meth c H locs 0 0 Q (F0 m 50 ls []) := by
    intro x1 x2 x3 x4 k33 hk33
    intro n
    induction n with
    | zero =>
      intro x5 x6 P_away H locs ls h
      rw [f_X3_walk_b50] at h
      cases h
    | succ n ih =>
      intro x5 x6 P_away H locs ls h hW hl
      rw [f_X3_walk_b50] at h
      refine lv_iload hx hb dX3_walk_50 (lv_at hl 6 rfl) ?_
      refine lv_bipush (v := 14) hx hb dX3_walk_52 (by decide) ?_
      refine lv_icmp_ge (tgt := 95) hx hb dX3_walk_54 (by decide) (fun c4 => ?_) (fun c4 => ?_)
      · have h := ifp c4 h
        refine lv_iload hx hb dX3_walk_95 (lv_at hl 5 rfl) ?_
        refine lv_iload_n hx hb dX3_walk_97 rfl (lv_at hl 2 rfl) ?_
        refine lv_iconst (v := (-1)) hx hb dX3_walk_98 (by decide) ?_
        refine lv_ixor hx hb dX3_walk_99 ?_
        refine lv_iand hx hb dX3_walk_100 ?_
        refine lv_istore_n (lv' := [(3, .int (x5 &&& (x2 ^^^ (-1)))), (0, .ref (ρ 3)), (1, .int x1), (2, .int x2), (4, .int x4), (5, .int x5), (6, .int x6)]) hx hb dX3_walk_101 rfl hl (by decide) rfl (fun ls hl => ?_)
        refine lv_iload_n hx hb dX3_walk_102 rfl (lv_at hl 3 rfl) ?_
        refine lv_iload_n hx hb dX3_walk_103 rfl (lv_at hl 0 rfl) ?_
        refine lv_ior hx hb dX3_walk_104 ?_
        refine lv_istore_n (lv' := [(2, .int (x2 ||| (x5 &&& (x2 ^^^ (-1))))), (3, .int (x5 &&& (x2 ^^^ (-1)))), (0, .ref (ρ 3)), (1, .int x1), (4, .int x4), (5, .int x5), (6, .int x6)]) hx hb dX3_walk_105 rfl hl (by decide) rfl (fun ls hl => ?_)
        refine lv_iinc (v := (x4 + 1)) (lv' := [(4, .int (x4 + 1)), (2, .int (x2 ||| (x5 &&& (x2 ^^^ (-1))))), (3, .int (x5 &&& (x2 ^^^ (-1)))), (0, .ref (ρ 3)), (1, .int x1), (5, .int x5), (6, .int x6)]) hx hb dX3_walk_106 hl (k := 4) rfl rfl (by decide) rfl (fun ls hl => ?_)
        refine lv_goto (tgt := 33) hx hb dX3_walk_109 (by decide) ?_
        exact hk33 h hW (lv_sub hl [3, 4, 1, 2, 0] rfl)
      · have h := ifn c4 h
        refine lv_iload_n hx hb dX3_walk_57 rfl (lv_at hl 3 rfl) ?_
        refine lv_iload hx hb dX3_walk_58 (lv_at hl 6 rfl) ?_
        refine lv_ishr hx hb dX3_walk_60 ?_
        refine lv_iconst (v := 1) hx hb dX3_walk_61 (by decide) ?_
        refine lv_iand hx hb dX3_walk_62 ?_
        refine lv_if_eq (tgt := 89) hx hb dX3_walk_63 (by decide) (fun c5 => ?_) (fun c5 => ?_)
        · have h := ifp c5 h
          exact b89 hk33 ih h hW (lv_sub hl [0, 1, 2, 3, 4, 5, 6] rfl)
        · have h := ifn c5 h
          refine lv_aload_n hx hb dX3_walk_66 rfl (lv_at hl 0 rfl) ?_
          refine z_get hC hW fg_X3_13 3 WC_3 rfl dX3_walk_67 ?_
          refine lv_iload_n hx hb dX3_walk_70 rfl (lv_at hl 1 rfl) ?_
          obtain ⟨g6, h⟩ := ix_some h
          refine z_aaldA hC hW 15 WC_15 g6 dX3_walk_71 ?_
          refine lv_iload hx hb dX3_walk_72 (lv_at hl 6 rfl) ?_
          refine lv_iload hx hb dX3_walk_74 (lv_at hl 4 rfl) ?_
          obtain ⟨g7, h⟩ := ix_some h
          refine z_iast hC hW (42 + (Int32.toNatClampNeg x1)) (WC_row (vlt g6)) g7 (WCs_P_away (vlt g6)) dX3_walk_76 (fun H locs hW => ?_)
          refine lv_iload hx hb dX3_walk_77 (lv_at hl 5 rfl) ?_
          refine lv_aload_n hx hb dX3_walk_79 rfl (lv_at hl 0 rfl) ?_
          refine z_get hC hW fg_X3_16 3 WC_3 rfl dX3_walk_80 ?_
          refine lv_iload hx hb dX3_walk_83 (lv_at hl 6 rfl) ?_
          obtain ⟨g8, h⟩ := ix_some h
          refine z_iald hC hW 16 WC_16 g8 dX3_walk_85 ?_
          refine lv_ior hx hb dX3_walk_86 ?_
          refine lv_istore (lv' := [(5, .int (x5 ||| (P_beside (Int32.toNatClampNeg x6)))), (0, .ref (ρ 3)), (1, .int x1), (2, .int x2), (3, .int x3), (4, .int x4), (6, .int x6)]) hx hb dX3_walk_87 hl (by decide) rfl (fun ls hl => ?_)
          exact b89 hk33 ih h hW (lv_sub hl [1, 2, 3, 4, 5, 0, 6] rfl)
  have b33 : ∀ {x1 : Int32} {n : Nat} {x2 : Int32} {x3 : Int32} {x4 : Int32} {P_away : Nat → Nat → Int32} {H : Heap} {locs : List Loc} {ls : Array Slot}, f_X3_walk_b33 x1 P_beside n x2 x3 x4 P_away = some res → zW D A s.heap (WC q ρ T_price T_year T_joinEnds T_wallEnds T_cost T_doors T_joins T_walls T_oldWells T_apart L_tape L_text L_fed L_length L_read L_end L_at L_fault L_d L_p L_y L_j L_o P_away P_beside P_reach P_serves P_crowds P_servedLow P_servedHigh P_crowdedLow P_crowdedHigh P_there P_must P_can C_what C_number C_before C_after C_done C_kept A_kinds A_traced A_bodies A_began A_self A_kindOfSelf S_holds S_body S_sort S_size S_elements G_grown) H locs → lv_has ls 7 [(0, .ref (ρ 3)), (1, .int x1), (2, .int x2), (3, .int x3), (4, .int x4)] → W p l e (zrm d) s m args below meth c H locs 0 0 Q (F0 m 33 ls []) := by
    intro x1
    intro n
    induction n with
    | zero =>
      intro x2 x3 x4 P_away H locs ls h
      rw [f_X3_walk_b33] at h
      cases h
    | succ n ih =>
      intro x2 x3 x4 P_away H locs ls h hW hl
      rw [f_X3_walk_b33] at h
      refine lv_iload hx hb dX3_walk_33 (lv_at hl 4 rfl) ?_
      refine lv_bipush (v := 14) hx hb dX3_walk_35 (by decide) ?_
      refine lv_icmp_ge (tgt := 112) hx hb dX3_walk_37 (by decide) (fun c2 => ?_) (fun c2 => ?_)
      · have h := ifp c2 h
        have h := Option.some.inj h
        subst h
        exact hret _ _ _ _ dX3_walk_112 hW
      · have h := ifn c2 h
        refine lv_iload_n hx hb dX3_walk_40 rfl (lv_at hl 3 rfl) ?_
        refine lv_if_eq (tgt := 112) hx hb dX3_walk_41 (by decide) (fun c3 => ?_) (fun c3 => ?_)
        · have h := ifp c3 h
          have h := Option.some.inj h
          subst h
          exact hret _ _ _ _ dX3_walk_112 hW
        · have h := ifn c3 h
          refine lv_iconst (v := 0) hx hb dX3_walk_44 (by decide) ?_
          refine lv_istore (lv' := [(5, .int 0), (0, .ref (ρ 3)), (1, .int x1), (2, .int x2), (3, .int x3), (4, .int x4)]) hx hb dX3_walk_45 hl (by decide) rfl (fun ls hl => ?_)
          refine lv_iconst (v := 0) hx hb dX3_walk_47 (by decide) ?_
          refine lv_istore (lv' := [(6, .int 0), (5, .int 0), (0, .ref (ρ 3)), (1, .int x1), (2, .int x2), (3, .int x3), (4, .int x4)]) hx hb dX3_walk_48 hl (by decide) rfl (fun ls hl => ?_)
          exact b50 ih h hW (lv_sub hl [2, 3, 4, 5, 6, 1, 0] rfl)
  have b2 : ∀ {x1 : Int32} {n : Nat} {x2 : Int32} {P_away : Nat → Nat → Int32} {H : Heap} {locs : List Loc} {ls : Array Slot}, f_X3_walk_b2 x1 P_beside n x2 P_away = some res → zW D A s.heap (WC q ρ T_price T_year T_joinEnds T_wallEnds T_cost T_doors T_joins T_walls T_oldWells T_apart L_tape L_text L_fed L_length L_read L_end L_at L_fault L_d L_p L_y L_j L_o P_away P_beside P_reach P_serves P_crowds P_servedLow P_servedHigh P_crowdedLow P_crowdedHigh P_there P_must P_can C_what C_number C_before C_after C_done C_kept A_kinds A_traced A_bodies A_began A_self A_kindOfSelf S_holds S_body S_sort S_size S_elements G_grown) H locs → lv_has ls 7 [(0, .ref (ρ 3)), (1, .int x1), (2, .int x2)] → W p l e (zrm d) s m args below meth c H locs 0 0 Q (F0 m 2 ls []) := by
    intro x1
    intro n
    induction n with
    | zero =>
      intro x2 P_away H locs ls h
      rw [f_X3_walk_b2] at h
      cases h
    | succ n ih =>
      intro x2 P_away H locs ls h hW hl
      rw [f_X3_walk_b2] at h
      refine lv_iload_n hx hb dX3_walk_2 rfl (lv_at hl 2 rfl) ?_
      refine lv_bipush (v := 14) hx hb dX3_walk_3 (by decide) ?_
      refine lv_icmp_ge (tgt := 24) hx hb dX3_walk_5 (by decide) (fun c1 => ?_) (fun c1 => ?_)
      · have h := ifp c1 h
        refine lv_iconst (v := 1) hx hb dX3_walk_24 (by decide) ?_
        refine lv_iload_n hx hb dX3_walk_25 rfl (lv_at hl 1 rfl) ?_
        refine lv_ishl hx hb dX3_walk_26 ?_
        refine lv_istore_n (lv' := [(2, .int (1 <<< (x1 &&& 31))), (0, .ref (ρ 3)), (1, .int x1)]) hx hb dX3_walk_27 rfl hl (by decide) rfl (fun ls hl => ?_)
        refine lv_iload_n hx hb dX3_walk_28 rfl (lv_at hl 0 rfl) ?_
        refine lv_istore_n (lv' := [(3, .int (1 <<< (x1 &&& 31))), (2, .int (1 <<< (x1 &&& 31))), (0, .ref (ρ 3)), (1, .int x1)]) hx hb dX3_walk_29 rfl hl (by decide) rfl (fun ls hl => ?_)
        refine lv_iconst (v := 0) hx hb dX3_walk_30 (by decide) ?_
        refine lv_istore (lv' := [(4, .int 0), (3, .int (1 <<< (x1 &&& 31))), (2, .int (1 <<< (x1 &&& 31))), (0, .ref (ρ 3)), (1, .int x1)]) hx hb dX3_walk_31 hl (by decide) rfl (fun ls hl => ?_)
        exact b33 h hW (lv_sub hl [3, 4, 2, 1, 0] rfl)
      · have h := ifn c1 h
        refine lv_aload_n hx hb dX3_walk_8 rfl (lv_at hl 0 rfl) ?_
        refine z_get hC hW fg_X3_13 3 WC_3 rfl dX3_walk_9 ?_
        refine lv_iload_n hx hb dX3_walk_12 rfl (lv_at hl 1 rfl) ?_
        obtain ⟨g9, h⟩ := ix_some h
        refine z_aaldA hC hW 15 WC_15 g9 dX3_walk_13 ?_
        refine lv_iload_n hx hb dX3_walk_14 rfl (lv_at hl 2 rfl) ?_
        refine lv_bipush (v := 99) hx hb dX3_walk_15 (by decide) ?_
        obtain ⟨g10, h⟩ := ix_some h
        refine z_iast hC hW (42 + (Int32.toNatClampNeg x1)) (WC_row (vlt g9)) g10 (WCs_P_away (vlt g9)) dX3_walk_17 (fun H locs hW => ?_)
        refine lv_iinc (v := (x2 + 1)) (lv' := [(2, .int (x2 + 1)), (0, .ref (ρ 3)), (1, .int x1)]) hx hb dX3_walk_18 hl (k := 2) rfl rfl (by decide) rfl (fun ls hl => ?_)
        refine lv_goto (tgt := 2) hx hb dX3_walk_21 (by decide) ?_
        exact ih h hW (lv_sub hl [1, 2, 0] rfl)
  unfold f_X3_walk at h
  refine lv_iconst (v := 0) hx hb dX3_walk_0 (by decide) ?_
  refine lv_istore_n (lv' := [(2, .int 0), (0, .ref (ρ 3)), (1, .int a1)]) hx hb dX3_walk_1 rfl hl (by decide) rfl (fun ls hl => ?_)
  exact b2 h hW (lv_sub hl [1, 2, 0] rfl)
set_option maxHeartbeats 4000000 in
set_option maxRecDepth 100000 in
theorem c_X3_link {a1 : Int32} {d : Nat} {res : (Nat → Int32)} (hd : 1 ≤ d) (h : f_X3_link a1 P_beside P_there = some res) : zMv l yX3_link cX3_link 4 (zrm d) [.ref (ρ 3), .int a1] D q (WC q ρ T_price T_year T_joinEnds T_wallEnds T_cost T_doors T_joins T_walls T_oldWells T_apart L_tape L_text L_fed L_length L_read L_end L_at L_fault L_d L_p L_y L_j L_o P_away P_beside P_reach P_serves P_crowds P_servedLow P_servedHigh P_crowdedLow P_crowdedHigh P_there P_must P_can C_what C_number C_before C_after C_done C_kept A_kinds A_traced A_bodies A_began A_self A_kindOfSelf S_holds S_body S_sort S_size S_elements G_grown) sz (WC q ρ T_price T_year T_joinEnds T_wallEnds T_cost T_doors T_joins T_walls T_oldWells T_apart L_tape L_text L_fed L_length L_read L_end L_at L_fault L_d L_p L_y L_j L_o P_away res P_reach P_serves P_crowds P_servedLow P_servedHigh P_crowdedLow P_crowdedHigh P_there P_must P_can C_what C_number C_before C_after C_done C_kept A_kinds A_traced A_bodies A_began A_self A_kindOfSelf S_holds S_body S_sort S_size S_elements G_grown) := by
  refine zMet_v (own := RX3) (by decide) rfl (Nat.le_of_ble_eq_true rfl) ?_
  intro p e s m args below meth c A ls Q hC hW hl hret
  have hx := hC.1
  have hb := hC.2.1
  have hl : lv_has ls 4 [(0, .ref (ρ 3)), (1, .int a1)] := hl
  unfold f_X3_link at h
  refine lv_iload_n hx hb dX3_link_0 rfl (lv_at hl 1 rfl) ?_
  refine lv_bipush (v := 100) hx hb dX3_link_1 (by decide) ?_
  refine lv_idiv hx hb dX3_link_3 (by decide) ?_
  refine lv_istore_n (lv' := [(2, .int (a1 / 100)), (0, .ref (ρ 3)), (1, .int a1)]) hx hb dX3_link_4 rfl hl (by decide) rfl (fun ls hl => ?_)
  refine lv_iload_n hx hb dX3_link_5 rfl (lv_at hl 2 rfl) ?_
  refine lv_bipush (v := 100) hx hb dX3_link_6 (by decide) ?_
  refine lv_irem hx hb dX3_link_8 (by decide) ?_
  refine lv_istore_n (lv' := [(3, .int (a1 - a1 / 100 * 100)), (2, .int (a1 / 100)), (0, .ref (ρ 3)), (1, .int a1)]) hx hb dX3_link_9 rfl hl (by decide) rfl (fun ls hl => ?_)
  refine lv_aload_n hx hb dX3_link_10 rfl (lv_at hl 2 rfl) ?_
  refine lv_iload_n hx hb dX3_link_11 rfl (lv_at hl 1 rfl) ?_
  obtain ⟨u1, eu1, h⟩ := bd_some h
  refine z_callV_i hC hW (rest := []) (c_X3_isThere (d := 0) (Nat.le_refl _) eu1) vw_X3_57 WC_3 rfl ⟨rfl, rfl⟩ (zrm_ok (by omega) (by decide)) rfl rfl hl.1 (Nat.le_of_ble_eq_true rfl) dX3_link_12 (fun H locs hW => ?_)
  refine lv_if_eq (tgt := 50) hx hb dX3_link_15 (by decide) (fun c2 => ?_) (fun c2 => ?_)
  · have h := ifp c2 h
    have h := Option.some.inj h
    subst h
    exact hret _ _ _ _ dX3_link_50 hW
  · have h := ifn c2 h
    refine lv_aload_n hx hb dX3_link_18 rfl (lv_at hl 2 rfl) ?_
    refine lv_iload_n hx hb dX3_link_19 rfl (lv_at hl 0 rfl) ?_
    obtain ⟨u3, eu3, h⟩ := bd_some h
    refine z_callV_i hC hW (rest := []) (c_X3_isThere (d := 0) (Nat.le_refl _) eu3) vw_X3_57 WC_3 rfl ⟨rfl, rfl⟩ (zrm_ok (by omega) (by decide)) rfl rfl hl.1 (Nat.le_of_ble_eq_true rfl) dX3_link_20 (fun H locs hW => ?_)
    refine lv_if_eq (tgt := 50) hx hb dX3_link_23 (by decide) (fun c4 => ?_) (fun c4 => ?_)
    · have h := ifp c4 h
      have h := Option.some.inj h
      subst h
      exact hret _ _ _ _ dX3_link_50 hW
    · have h := ifn c4 h
      refine lv_aload_n hx hb dX3_link_26 rfl (lv_at hl 2 rfl) ?_
      refine z_get hC hW fg_X3_16 3 WC_3 rfl dX3_link_27 ?_
      refine lv_iload_n hx hb dX3_link_30 rfl (lv_at hl 1 rfl) ?_
      refine lv_dup2_11 hx hb dX3_link_31 rfl rfl ?_
      obtain ⟨g5, h⟩ := ix_some h
      refine z_iald hC hW 16 WC_16 g5 dX3_link_32 ?_
      refine lv_iconst (v := 1) hx hb dX3_link_33 (by decide) ?_
      refine lv_iload_n hx hb dX3_link_34 rfl (lv_at hl 0 rfl) ?_
      refine lv_ishl hx hb dX3_link_35 ?_
      refine lv_ior hx hb dX3_link_36 ?_
      obtain ⟨g6, h⟩ := ix_some h
      refine z_iast hC hW 16 WC_16 g6 WCs_P_beside dX3_link_37 (fun H locs hW => ?_)
      refine lv_aload_n hx hb dX3_link_38 rfl (lv_at hl 2 rfl) ?_
      refine z_get hC hW fg_X3_16 3 WC_3 rfl dX3_link_39 ?_
      refine lv_iload_n hx hb dX3_link_42 rfl (lv_at hl 0 rfl) ?_
      refine lv_dup2_11 hx hb dX3_link_43 rfl rfl ?_
      obtain ⟨g7, h⟩ := ix_some h
      refine z_iald hC hW 16 WC_16 g7 dX3_link_44 ?_
      refine lv_iconst (v := 1) hx hb dX3_link_45 (by decide) ?_
      refine lv_iload_n hx hb dX3_link_46 rfl (lv_at hl 1 rfl) ?_
      refine lv_ishl hx hb dX3_link_47 ?_
      refine lv_ior hx hb dX3_link_48 ?_
      obtain ⟨g8, h⟩ := ix_some h
      refine z_iast hC hW 16 WC_16 g8 WCs_P_beside dX3_link_49 (fun H locs hW => ?_)
      have h := Option.some.inj h
      subst h
      exact hret _ _ _ _ dX3_link_50 hW
end CT20_c08
