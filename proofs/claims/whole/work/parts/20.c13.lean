section CT20_c13
variable {l : Launch} {D : va_G} {q : Nat → ClassId} {ρ : Nat → Nat} {sz : Nat} {T_price : Nat → Int32} {T_year : Nat → Int32} {T_joinEnds : Nat → Int32} {T_wallEnds : Nat → Int32} {T_cost : Nat → Int32} {T_doors : Int32} {T_joins : Int32} {T_walls : Int32} {T_oldWells : Int32} {T_apart : Int32} {L_tape : Nat → Int32} {L_text : Nat → Int32} {L_fed : Int32} {L_length : Int32} {L_read : Nat} {L_end : Int32} {L_at : Int32} {L_fault : Int32} {L_d : Int32} {L_p : Int32} {L_y : Int32} {L_j : Int32} {L_o : Int32} {P_away : Nat → Nat → Int32} {P_beside : Nat → Int32} {P_reach : Nat → Int32} {P_serves : Nat → Int32} {P_crowds : Nat → Int32} {P_servedLow : Nat → Int32} {P_servedHigh : Nat → Int32} {P_crowdedLow : Nat → Int32} {P_crowdedHigh : Nat → Int32} {P_there : Int32} {P_must : Int32} {P_can : Int32} {C_what : Nat → Int32} {C_number : Nat → Int32} {C_before : Nat → Int32} {C_after : Nat → Int32} {C_done : Int32} {C_kept : Int32} {A_kinds : Nat → Int32} {A_traced : Nat → Int32} {A_bodies : Int32} {A_began : Int32} {A_self : Int32} {A_kindOfSelf : Int32} {S_holds : Nat → Int32} {S_body : Nat → Int32} {S_sort : Nat → Int32} {S_size : Nat → Int32} {S_elements : Nat → Nat → Int64} {G_grown : Nat → Int32}
set_option maxHeartbeats 4000000 in
set_option maxRecDepth 100000 in
theorem c_X6_growLonger {a1 : Int32} {d : Nat} {res : (Nat → Int32)} (hd : 0 ≤ d) (h : f_X6_growLonger a1 G_grown = some res) : zMv l yX6_growLonger cX6_growLonger 4 (zrm d) [.ref (ρ 0), .int a1] D q (WC q ρ T_price T_year T_joinEnds T_wallEnds T_cost T_doors T_joins T_walls T_oldWells T_apart L_tape L_text L_fed L_length L_read L_end L_at L_fault L_d L_p L_y L_j L_o P_away P_beside P_reach P_serves P_crowds P_servedLow P_servedHigh P_crowdedLow P_crowdedHigh P_there P_must P_can C_what C_number C_before C_after C_done C_kept A_kinds A_traced A_bodies A_began A_self A_kindOfSelf S_holds S_body S_sort S_size S_elements G_grown) sz (WC q ρ T_price T_year T_joinEnds T_wallEnds T_cost T_doors T_joins T_walls T_oldWells T_apart L_tape L_text L_fed L_length L_read L_end L_at L_fault L_d L_p L_y L_j L_o P_away P_beside P_reach P_serves P_crowds P_servedLow P_servedHigh P_crowdedLow P_crowdedHigh P_there P_must P_can C_what C_number C_before C_after C_done C_kept A_kinds A_traced A_bodies A_began A_self A_kindOfSelf S_holds S_body S_sort S_size S_elements res) := by
  refine zMet_v (own := RX6) (by decide) rfl (Nat.le_of_ble_eq_true rfl) ?_
  intro p e s m args below meth c A ls Q hC hW hl hret
  have hx := hC.1
  have hb := hC.2.1
  have hl : lv_has ls 4 [(0, .ref (ρ 0)), (1, .int a1)] := hl
  have b38 : ∀ {x1 : Int32} {x2 : Int32} {x3 : Int32} {G_grown : Nat → Int32} {k2 : Int32 → (Nat → Int32) → Option ((Nat → Int32))} (hk2 : ∀ {x2 : Int32} {G_grown : Nat → Int32} {H : Heap} {locs : List Loc} {ls : Array Slot}, k2 x2 G_grown = some res → zW D A s.heap (WC q ρ T_price T_year T_joinEnds T_wallEnds T_cost T_doors T_joins T_walls T_oldWells T_apart L_tape L_text L_fed L_length L_read L_end L_at L_fault L_d L_p L_y L_j L_o P_away P_beside P_reach P_serves P_crowds P_servedLow P_servedHigh P_crowdedLow P_crowdedHigh P_there P_must P_can C_what C_number C_before C_after C_done C_kept A_kinds A_traced A_bodies A_began A_self A_kindOfSelf S_holds S_body S_sort S_size S_elements G_grown) H locs → lv_has ls 4 [(0, .ref (ρ 0)), (1, .int x1), (2, .int x2)] → W p l e (zrm d) s m args below meth c H locs 0 0 Q (F0 m 2 ls [])) {k9 : Int32 → (Nat → Int32) → Option ((Nat → Int32))} (hk9 : ∀ {x3 : Int32} {G_grown : Nat → Int32} {H : Heap} {locs : List Loc} {ls : Array Slot}, k9 x3 G_grown = some res → zW D A s.heap (WC q ρ T_price T_year T_joinEnds T_wallEnds T_cost T_doors T_joins T_walls T_oldWells T_apart L_tape L_text L_fed L_length L_read L_end L_at L_fault L_d L_p L_y L_j L_o P_away P_beside P_reach P_serves P_crowds P_servedLow P_servedHigh P_crowdedLow P_crowdedHigh P_there P_must P_can C_what C_number C_before C_after C_done C_kept A_kinds A_traced A_bodies A_began A_self A_kindOfSelf S_holds S_body S_sort S_size S_elements G_grown) H locs → lv_has ls 4 [(0, .ref (ρ 0)), (1, .int x1), (2, .int x2), (3, .int x3)] → W p l e (zrm d) s m args below meth c H locs 0 0 Q (F0 m 9 ls [])) {H : Heap} {locs : List Loc} {ls : Array Slot}, f_X6_growLonger_b38 k2 k9 x1 x2 x3 G_grown = some res → zW D A s.heap (WC q ρ T_price T_year T_joinEnds T_wallEnds T_cost T_doors T_joins T_walls T_oldWells T_apart L_tape L_text L_fed L_length L_read L_end L_at L_fault L_d L_p L_y L_j L_o P_away P_beside P_reach P_serves P_crowds P_servedLow P_servedHigh P_crowdedLow P_crowdedHigh P_there P_must P_can C_what C_number C_before C_after C_done C_kept A_kinds A_traced A_bodies A_began A_self A_kindOfSelf S_holds S_body S_sort S_size S_elements G_grown) H locs → lv_has ls 4 [(0, .ref (ρ 0)), (1, .int x1), (2, .int x2), (3, .int x3)] → W p l e (zrm d) s m args below meth c H locs 0 0 Q (F0 m 38 ls []) := by
    intro x1 x2 x3 G_grown k2 hk2 k9 hk9 H locs ls h hW hl
    unfold f_X6_growLonger_b38 at h
    refine lv_iinc (v := (x3 + 1)) (lv' := [(3, .int (x3 + 1)), (0, .ref (ρ 0)), (1, .int x1), (2, .int x2)]) hx hb dX6_growLonger_38 hl (k := 3) rfl rfl (by decide) rfl (fun ls hl => ?_)
    refine lv_goto (tgt := 9) hx hb dX6_growLonger_41 (by decide) ?_
    exact hk9 h hW (lv_sub hl [1, 2, 3, 0] rfl)
  have b9 : ∀ {x1 : Int32} {x2 : Int32} {k2 : Int32 → (Nat → Int32) → Option ((Nat → Int32))} (hk2 : ∀ {x2 : Int32} {G_grown : Nat → Int32} {H : Heap} {locs : List Loc} {ls : Array Slot}, k2 x2 G_grown = some res → zW D A s.heap (WC q ρ T_price T_year T_joinEnds T_wallEnds T_cost T_doors T_joins T_walls T_oldWells T_apart L_tape L_text L_fed L_length L_read L_end L_at L_fault L_d L_p L_y L_j L_o P_away P_beside P_reach P_serves P_crowds P_servedLow P_servedHigh P_crowdedLow P_crowdedHigh P_there P_must P_can C_what C_number C_before C_after C_done C_kept A_kinds A_traced A_bodies A_began A_self A_kindOfSelf S_holds S_body S_sort S_size S_elements G_grown) H locs → lv_has ls 4 [(0, .ref (ρ 0)), (1, .int x1), (2, .int x2)] → W p l e (zrm d) s m args below meth c H locs 0 0 Q (F0 m 2 ls [])) {n : Nat} {x3 : Int32} {G_grown : Nat → Int32} {H : Heap} {locs : List Loc} {ls : Array Slot}, f_X6_growLonger_b9 k2 x1 x2 n x3 G_grown = some res → zW D A s.heap (WC q ρ T_price T_year T_joinEnds T_wallEnds T_cost T_doors T_joins T_walls T_oldWells T_apart L_tape L_text L_fed L_length L_read L_end L_at L_fault L_d L_p L_y L_j L_o P_away P_beside P_reach P_serves P_crowds P_servedLow P_servedHigh P_crowdedLow P_crowdedHigh P_there P_must P_can C_what C_number C_before C_after C_done C_kept A_kinds A_traced A_bodies A_began A_self A_kindOfSelf S_holds S_body S_sort S_size S_elements G_grown) H locs → lv_has ls 4 [(0, .ref (ρ 0)), (1, .int x1), (2, .int x2), (3, .int x3)] → W p l e (zrm d) s m args below meth c H locs 0 0 Q (F0 m 9 ls []) := by
    intro x1 x2 k2 hk2
    intro n
    induction n with
    | zero =>
      intro x3 G_grown H locs ls h
      rw [f_X6_growLonger_b9] at h
      cases h
    | succ n ih =>
      intro x3 G_grown H locs ls h hW hl
      rw [f_X6_growLonger_b9] at h
      refine lv_iload_n hx hb dX6_growLonger_9 rfl (lv_at hl 3 rfl) ?_
      refine lv_iload_n hx hb dX6_growLonger_10 rfl (lv_at hl 1 rfl) ?_
      refine lv_icmp_ge (tgt := 44) hx hb dX6_growLonger_11 (by decide) (fun c2 => ?_) (fun c2 => ?_)
      · have h := ifp c2 h
        refine lv_iload_n hx hb dX6_growLonger_44 rfl (lv_at hl 2 rfl) ?_
        refine lv_iload_n hx hb dX6_growLonger_45 rfl (lv_at hl 2 rfl) ?_
        refine lv_iadd hx hb dX6_growLonger_46 ?_
        refine lv_istore_n (lv' := [(2, .int (x2 + x2)), (0, .ref (ρ 0)), (1, .int x1), (3, .int x3)]) hx hb dX6_growLonger_47 rfl hl (by decide) rfl (fun ls hl => ?_)
        refine lv_goto (tgt := 2) hx hb dX6_growLonger_48 (by decide) ?_
        exact hk2 h hW (lv_sub hl [1, 2, 0] rfl)
      · have h := ifn c2 h
        refine lv_iload_n hx hb dX6_growLonger_14 rfl (lv_at hl 3 rfl) ?_
        refine lv_iload_n hx hb dX6_growLonger_15 rfl (lv_at hl 2 rfl) ?_
        refine lv_iand hx hb dX6_growLonger_16 ?_
        refine lv_if_eq (tgt := 38) hx hb dX6_growLonger_17 (by decide) (fun c3 => ?_) (fun c3 => ?_)
        · have h := ifp c3 h
          exact b38 hk2 ih h hW (lv_sub hl [0, 1, 2, 3] rfl)
        · have h := ifn c3 h
          refine lv_aload_n hx hb dX6_growLonger_20 rfl (lv_at hl 0 rfl) ?_
          refine z_get hC hW fg_X6_50 0 WC_0 rfl dX6_growLonger_21 ?_
          refine lv_iload_n hx hb dX6_growLonger_24 rfl (lv_at hl 3 rfl) ?_
          refine lv_iload_n hx hb dX6_growLonger_25 rfl (lv_at hl 2 rfl) ?_
          refine lv_ixor hx hb dX6_growLonger_26 ?_
          obtain ⟨g4, h⟩ := ix_some h
          refine z_zald hC hW 7 WC_7 g4 dX6_growLonger_27 ?_
          refine lv_if_eq (tgt := 38) hx hb dX6_growLonger_28 (by decide) (fun c5 => ?_) (fun c5 => ?_)
          · have h := ifp c5 h
            exact b38 hk2 ih h hW (lv_sub hl [0, 1, 2, 3] rfl)
          · have h := ifn c5 h
            refine lv_aload_n hx hb dX6_growLonger_31 rfl (lv_at hl 0 rfl) ?_
            refine z_get hC hW fg_X6_50 0 WC_0 rfl dX6_growLonger_32 ?_
            refine lv_iload_n hx hb dX6_growLonger_35 rfl (lv_at hl 3 rfl) ?_
            refine lv_iconst (v := 1) hx hb dX6_growLonger_36 (by decide) ?_
            obtain ⟨g6, h⟩ := ix_some h
            refine z_zast hC hW 7 WC_7 g6 WCs_G_grown dX6_growLonger_37 (fun H locs hW => ?_)
            exact b38 hk2 ih h hW (lv_sub hl [0, 1, 2, 3] rfl)
  have b2 : ∀ {x1 : Int32} {n : Nat} {x2 : Int32} {G_grown : Nat → Int32} {H : Heap} {locs : List Loc} {ls : Array Slot}, f_X6_growLonger_b2 x1 n x2 G_grown = some res → zW D A s.heap (WC q ρ T_price T_year T_joinEnds T_wallEnds T_cost T_doors T_joins T_walls T_oldWells T_apart L_tape L_text L_fed L_length L_read L_end L_at L_fault L_d L_p L_y L_j L_o P_away P_beside P_reach P_serves P_crowds P_servedLow P_servedHigh P_crowdedLow P_crowdedHigh P_there P_must P_can C_what C_number C_before C_after C_done C_kept A_kinds A_traced A_bodies A_began A_self A_kindOfSelf S_holds S_body S_sort S_size S_elements G_grown) H locs → lv_has ls 4 [(0, .ref (ρ 0)), (1, .int x1), (2, .int x2)] → W p l e (zrm d) s m args below meth c H locs 0 0 Q (F0 m 2 ls []) := by
    intro x1
    intro n
    induction n with
    | zero =>
      intro x2 G_grown H locs ls h
      rw [f_X6_growLonger_b2] at h
      cases h
    | succ n ih =>
      intro x2 G_grown H locs ls h hW hl
      rw [f_X6_growLonger_b2] at h
      refine lv_iload_n hx hb dX6_growLonger_2 rfl (lv_at hl 2 rfl) ?_
      refine lv_iload_n hx hb dX6_growLonger_3 rfl (lv_at hl 1 rfl) ?_
      refine lv_icmp_ge (tgt := 51) hx hb dX6_growLonger_4 (by decide) (fun c1 => ?_) (fun c1 => ?_)
      · have h := ifp c1 h
        have h := Option.some.inj h
        subst h
        exact hret _ _ _ _ dX6_growLonger_51 hW
      · have h := ifn c1 h
        refine lv_iconst (v := 0) hx hb dX6_growLonger_7 (by decide) ?_
        refine lv_istore_n (lv' := [(3, .int 0), (0, .ref (ρ 0)), (1, .int x1), (2, .int x2)]) hx hb dX6_growLonger_8 rfl hl (by decide) rfl (fun ls hl => ?_)
        exact b9 ih h hW (lv_sub hl [1, 2, 3, 0] rfl)
  unfold f_X6_growLonger at h
  refine lv_iconst (v := 1) hx hb dX6_growLonger_0 (by decide) ?_
  refine lv_istore_n (lv' := [(2, .int 1), (0, .ref (ρ 0)), (1, .int a1)]) hx hb dX6_growLonger_1 rfl hl (by decide) rfl (fun ls hl => ?_)
  exact b2 h hW (lv_sub hl [1, 2, 0] rfl)
set_option maxHeartbeats 4000000 in
set_option maxRecDepth 100000 in
theorem c_X6_grow {d : Nat} {res : Int32 × Nat × Int32 × Int32 × Int32 × Int32 × Int32 × Int32 × Int32 × Int32 × (Nat → Nat → Int32) × (Nat → Int32) × (Nat → Int32) × (Nat → Int32) × (Nat → Int32) × (Nat → Int32) × (Nat → Int32) × (Nat → Int32) × (Nat → Int32) × Int32 × Int32 × Int32 × (Nat → Int32)} (hd : 83 ≤ d) (h : f_X6_grow T_price T_year T_joinEnds T_wallEnds T_doors T_joins T_walls T_oldWells T_apart L_text L_length L_read L_end L_at L_fault L_d L_p L_y L_j L_o P_away P_beside P_reach P_serves P_crowds P_servedLow P_servedHigh P_crowdedLow P_crowdedHigh P_there P_must P_can G_grown = some res) : zMi l yX6_grow cX6_grow 4 .int (zrm d) [.ref (ρ 0)] D q (WC q ρ T_price T_year T_joinEnds T_wallEnds T_cost T_doors T_joins T_walls T_oldWells T_apart L_tape L_text L_fed L_length L_read L_end L_at L_fault L_d L_p L_y L_j L_o P_away P_beside P_reach P_serves P_crowds P_servedLow P_servedHigh P_crowdedLow P_crowdedHigh P_there P_must P_can C_what C_number C_before C_after C_done C_kept A_kinds A_traced A_bodies A_began A_self A_kindOfSelf S_holds S_body S_sort S_size S_elements G_grown) sz res.1 (WC q ρ T_price T_year T_joinEnds T_wallEnds T_cost T_doors T_joins T_walls T_oldWells T_apart L_tape L_text L_fed L_length res.2.1 res.2.2.1 res.2.2.2.1 res.2.2.2.2.1 res.2.2.2.2.2.1 res.2.2.2.2.2.2.1 res.2.2.2.2.2.2.2.1 res.2.2.2.2.2.2.2.2.1 res.2.2.2.2.2.2.2.2.2.1 res.2.2.2.2.2.2.2.2.2.2.1 res.2.2.2.2.2.2.2.2.2.2.2.1 res.2.2.2.2.2.2.2.2.2.2.2.2.1 res.2.2.2.2.2.2.2.2.2.2.2.2.2.1 res.2.2.2.2.2.2.2.2.2.2.2.2.2.2.1 res.2.2.2.2.2.2.2.2.2.2.2.2.2.2.2.1 res.2.2.2.2.2.2.2.2.2.2.2.2.2.2.2.2.1 res.2.2.2.2.2.2.2.2.2.2.2.2.2.2.2.2.2.1 res.2.2.2.2.2.2.2.2.2.2.2.2.2.2.2.2.2.2.1 res.2.2.2.2.2.2.2.2.2.2.2.2.2.2.2.2.2.2.2.1 res.2.2.2.2.2.2.2.2.2.2.2.2.2.2.2.2.2.2.2.2.1 res.2.2.2.2.2.2.2.2.2.2.2.2.2.2.2.2.2.2.2.2.2.1 C_what C_number C_before C_after C_done C_kept A_kinds A_traced A_bodies A_began A_self A_kindOfSelf S_holds S_body S_sort S_size S_elements res.2.2.2.2.2.2.2.2.2.2.2.2.2.2.2.2.2.2.2.2.2.2) := by
  refine zMet_i (own := RX6) _ (by decide) rfl (Nat.le_of_ble_eq_true rfl) ?_
  intro p e s m args below meth c A ls Q hC hW hl hret
  have hx := hC.1
  have hb := hC.2.1
  have hl : lv_has ls 4 [(0, .ref (ρ 0))] := hl
  have b126 : ∀ {x1 : Int32} {x2 : Int32} {x3 : Int32} {s0 : Int32} {s1 : Int32} {L_read : Nat} {L_end : Int32} {L_at : Int32} {L_fault : Int32} {L_d : Int32} {L_p : Int32} {L_y : Int32} {L_j : Int32} {L_o : Int32} {P_away : Nat → Nat → Int32} {P_beside : Nat → Int32} {P_reach : Nat → Int32} {P_serves : Nat → Int32} {P_crowds : Nat → Int32} {P_servedLow : Nat → Int32} {P_servedHigh : Nat → Int32} {P_crowdedLow : Nat → Int32} {P_crowdedHigh : Nat → Int32} {P_there : Int32} {P_must : Int32} {P_can : Int32} {G_grown : Nat → Int32} {k47 : Int32 → Nat → Int32 → Int32 → Int32 → Int32 → Int32 → Int32 → Int32 → Int32 → (Nat → Nat → Int32) → (Nat → Int32) → (Nat → Int32) → (Nat → Int32) → (Nat → Int32) → (Nat → Int32) → (Nat → Int32) → (Nat → Int32) → (Nat → Int32) → Int32 → Int32 → Int32 → (Nat → Int32) → Option (Int32 × Nat × Int32 × Int32 × Int32 × Int32 × Int32 × Int32 × Int32 × Int32 × (Nat → Nat → Int32) × (Nat → Int32) × (Nat → Int32) × (Nat → Int32) × (Nat → Int32) × (Nat → Int32) × (Nat → Int32) × (Nat → Int32) × (Nat → Int32) × Int32 × Int32 × Int32 × (Nat → Int32))} (hk47 : ∀ {x2 : Int32} {L_read : Nat} {L_end : Int32} {L_at : Int32} {L_fault : Int32} {L_d : Int32} {L_p : Int32} {L_y : Int32} {L_j : Int32} {L_o : Int32} {P_away : Nat → Nat → Int32} {P_beside : Nat → Int32} {P_reach : Nat → Int32} {P_serves : Nat → Int32} {P_crowds : Nat → Int32} {P_servedLow : Nat → Int32} {P_servedHigh : Nat → Int32} {P_crowdedLow : Nat → Int32} {P_crowdedHigh : Nat → Int32} {P_there : Int32} {P_must : Int32} {P_can : Int32} {G_grown : Nat → Int32} {H : Heap} {locs : List Loc} {ls : Array Slot}, k47 x2 L_read L_end L_at L_fault L_d L_p L_y L_j L_o P_away P_beside P_reach P_serves P_crowds P_servedLow P_servedHigh P_crowdedLow P_crowdedHigh P_there P_must P_can G_grown = some res → zW D A s.heap (WC q ρ T_price T_year T_joinEnds T_wallEnds T_cost T_doors T_joins T_walls T_oldWells T_apart L_tape L_text L_fed L_length L_read L_end L_at L_fault L_d L_p L_y L_j L_o P_away P_beside P_reach P_serves P_crowds P_servedLow P_servedHigh P_crowdedLow P_crowdedHigh P_there P_must P_can C_what C_number C_before C_after C_done C_kept A_kinds A_traced A_bodies A_began A_self A_kindOfSelf S_holds S_body S_sort S_size S_elements G_grown) H locs → lv_has ls 4 [(0, .ref (ρ 0)), (1, .int x1), (2, .int x2)] → W p l e (zrm d) s m args below meth c H locs 0 0 Q (F0 m 47 ls [])) {k91 : Int32 → (Nat → Int32) → Option (Int32 × Nat × Int32 × Int32 × Int32 × Int32 × Int32 × Int32 × Int32 × Int32 × (Nat → Nat → Int32) × (Nat → Int32) × (Nat → Int32) × (Nat → Int32) × (Nat → Int32) × (Nat → Int32) × (Nat → Int32) × (Nat → Int32) × (Nat → Int32) × Int32 × Int32 × Int32 × (Nat → Int32))} (hk91 : ∀ {x3 : Int32} {G_grown : Nat → Int32} {H : Heap} {locs : List Loc} {ls : Array Slot}, k91 x3 G_grown = some res → zW D A s.heap (WC q ρ T_price T_year T_joinEnds T_wallEnds T_cost T_doors T_joins T_walls T_oldWells T_apart L_tape L_text L_fed L_length L_read L_end L_at L_fault L_d L_p L_y L_j L_o P_away P_beside P_reach P_serves P_crowds P_servedLow P_servedHigh P_crowdedLow P_crowdedHigh P_there P_must P_can C_what C_number C_before C_after C_done C_kept A_kinds A_traced A_bodies A_began A_self A_kindOfSelf S_holds S_body S_sort S_size S_elements G_grown) H locs → lv_has ls 4 [(0, .ref (ρ 0)), (1, .int x1), (2, .int x2), (3, .int x3)] → W p l e (zrm d) s m args below meth c H locs 0 0 Q (F0 m 91 ls [])) {H : Heap} {locs : List Loc} {ls : Array Slot}, f_X6_grow_b126 k47 k91 x1 x2 x3 s0 s1 T_price T_year T_joinEnds T_wallEnds T_doors T_joins T_walls T_oldWells T_apart L_text L_length L_read L_end L_at L_fault L_d L_p L_y L_j L_o P_away P_beside P_reach P_serves P_crowds P_servedLow P_servedHigh P_crowdedLow P_crowdedHigh P_there P_must P_can G_grown = some res → zW D A s.heap (WC q ρ T_price T_year T_joinEnds T_wallEnds T_cost T_doors T_joins T_walls T_oldWells T_apart L_tape L_text L_fed L_length L_read L_end L_at L_fault L_d L_p L_y L_j L_o P_away P_beside P_reach P_serves P_crowds P_servedLow P_servedHigh P_crowdedLow P_crowdedHigh P_there P_must P_can C_what C_number C_before C_after C_done C_kept A_kinds A_traced A_bodies A_began A_self A_kindOfSelf S_holds S_body S_sort S_size S_elements G_grown) H locs → lv_has ls 4 [(0, .ref (ρ 0)), (1, .int x1), (2, .int x2), (3, .int x3)] → W p l e (zrm d) s m args below meth c H locs 0 0 Q (F0 m 126 ls [.int s0, .int s1, .ref (ρ 7)]) := by
    intro x1 x2 x3 s0 s1 L_read L_end L_at L_fault L_d L_p L_y L_j L_o P_away P_beside P_reach P_serves P_crowds P_servedLow P_servedHigh P_crowdedLow P_crowdedHigh P_there P_must P_can G_grown k47 hk47 k91 hk91 H locs ls h hW hl
    unfold f_X6_grow_b126 at h
    obtain ⟨g11, h⟩ := ix_some h
    refine z_zast hC hW 7 WC_7 g11 WCs_G_grown dX6_grow_126 (fun H locs hW => ?_)
    refine lv_iinc (v := (x3 + 1)) (lv' := [(3, .int (x3 + 1)), (0, .ref (ρ 0)), (1, .int x1), (2, .int x2)]) hx hb dX6_grow_127 hl (k := 3) rfl rfl (by decide) rfl (fun ls hl => ?_)
    refine lv_goto (tgt := 91) hx hb dX6_grow_130 (by decide) ?_
    exact hk91 h hW (lv_sub hl [1, 2, 3, 0] rfl)
  have b125 : ∀ {x1 : Int32} {x2 : Int32} {x3 : Int32} {s0 : Int32} {L_read : Nat} {L_end : Int32} {L_at : Int32} {L_fault : Int32} {L_d : Int32} {L_p : Int32} {L_y : Int32} {L_j : Int32} {L_o : Int32} {P_away : Nat → Nat → Int32} {P_beside : Nat → Int32} {P_reach : Nat → Int32} {P_serves : Nat → Int32} {P_crowds : Nat → Int32} {P_servedLow : Nat → Int32} {P_servedHigh : Nat → Int32} {P_crowdedLow : Nat → Int32} {P_crowdedHigh : Nat → Int32} {P_there : Int32} {P_must : Int32} {P_can : Int32} {G_grown : Nat → Int32} {k47 : Int32 → Nat → Int32 → Int32 → Int32 → Int32 → Int32 → Int32 → Int32 → Int32 → (Nat → Nat → Int32) → (Nat → Int32) → (Nat → Int32) → (Nat → Int32) → (Nat → Int32) → (Nat → Int32) → (Nat → Int32) → (Nat → Int32) → (Nat → Int32) → Int32 → Int32 → Int32 → (Nat → Int32) → Option (Int32 × Nat × Int32 × Int32 × Int32 × Int32 × Int32 × Int32 × Int32 × Int32 × (Nat → Nat → Int32) × (Nat → Int32) × (Nat → Int32) × (Nat → Int32) × (Nat → Int32) × (Nat → Int32) × (Nat → Int32) × (Nat → Int32) × (Nat → Int32) × Int32 × Int32 × Int32 × (Nat → Int32))} (hk47 : ∀ {x2 : Int32} {L_read : Nat} {L_end : Int32} {L_at : Int32} {L_fault : Int32} {L_d : Int32} {L_p : Int32} {L_y : Int32} {L_j : Int32} {L_o : Int32} {P_away : Nat → Nat → Int32} {P_beside : Nat → Int32} {P_reach : Nat → Int32} {P_serves : Nat → Int32} {P_crowds : Nat → Int32} {P_servedLow : Nat → Int32} {P_servedHigh : Nat → Int32} {P_crowdedLow : Nat → Int32} {P_crowdedHigh : Nat → Int32} {P_there : Int32} {P_must : Int32} {P_can : Int32} {G_grown : Nat → Int32} {H : Heap} {locs : List Loc} {ls : Array Slot}, k47 x2 L_read L_end L_at L_fault L_d L_p L_y L_j L_o P_away P_beside P_reach P_serves P_crowds P_servedLow P_servedHigh P_crowdedLow P_crowdedHigh P_there P_must P_can G_grown = some res → zW D A s.heap (WC q ρ T_price T_year T_joinEnds T_wallEnds T_cost T_doors T_joins T_walls T_oldWells T_apart L_tape L_text L_fed L_length L_read L_end L_at L_fault L_d L_p L_y L_j L_o P_away P_beside P_reach P_serves P_crowds P_servedLow P_servedHigh P_crowdedLow P_crowdedHigh P_there P_must P_can C_what C_number C_before C_after C_done C_kept A_kinds A_traced A_bodies A_began A_self A_kindOfSelf S_holds S_body S_sort S_size S_elements G_grown) H locs → lv_has ls 4 [(0, .ref (ρ 0)), (1, .int x1), (2, .int x2)] → W p l e (zrm d) s m args below meth c H locs 0 0 Q (F0 m 47 ls [])) {k91 : Int32 → (Nat → Int32) → Option (Int32 × Nat × Int32 × Int32 × Int32 × Int32 × Int32 × Int32 × Int32 × Int32 × (Nat → Nat → Int32) × (Nat → Int32) × (Nat → Int32) × (Nat → Int32) × (Nat → Int32) × (Nat → Int32) × (Nat → Int32) × (Nat → Int32) × (Nat → Int32) × Int32 × Int32 × Int32 × (Nat → Int32))} (hk91 : ∀ {x3 : Int32} {G_grown : Nat → Int32} {H : Heap} {locs : List Loc} {ls : Array Slot}, k91 x3 G_grown = some res → zW D A s.heap (WC q ρ T_price T_year T_joinEnds T_wallEnds T_cost T_doors T_joins T_walls T_oldWells T_apart L_tape L_text L_fed L_length L_read L_end L_at L_fault L_d L_p L_y L_j L_o P_away P_beside P_reach P_serves P_crowds P_servedLow P_servedHigh P_crowdedLow P_crowdedHigh P_there P_must P_can C_what C_number C_before C_after C_done C_kept A_kinds A_traced A_bodies A_began A_self A_kindOfSelf S_holds S_body S_sort S_size S_elements G_grown) H locs → lv_has ls 4 [(0, .ref (ρ 0)), (1, .int x1), (2, .int x2), (3, .int x3)] → W p l e (zrm d) s m args below meth c H locs 0 0 Q (F0 m 91 ls [])) {H : Heap} {locs : List Loc} {ls : Array Slot}, f_X6_grow_b125 k47 k91 x1 x2 x3 s0 T_price T_year T_joinEnds T_wallEnds T_doors T_joins T_walls T_oldWells T_apart L_text L_length L_read L_end L_at L_fault L_d L_p L_y L_j L_o P_away P_beside P_reach P_serves P_crowds P_servedLow P_servedHigh P_crowdedLow P_crowdedHigh P_there P_must P_can G_grown = some res → zW D A s.heap (WC q ρ T_price T_year T_joinEnds T_wallEnds T_cost T_doors T_joins T_walls T_oldWells T_apart L_tape L_text L_fed L_length L_read L_end L_at L_fault L_d L_p L_y L_j L_o P_away P_beside P_reach P_serves P_crowds P_servedLow P_servedHigh P_crowdedLow P_crowdedHigh P_there P_must P_can C_what C_number C_before C_after C_done C_kept A_kinds A_traced A_bodies A_began A_self A_kindOfSelf S_holds S_body S_sort S_size S_elements G_grown) H locs → lv_has ls 4 [(0, .ref (ρ 0)), (1, .int x1), (2, .int x2), (3, .int x3)] → W p l e (zrm d) s m args below meth c H locs 0 0 Q (F0 m 125 ls [.int s0, .ref (ρ 7)]) := by
    intro x1 x2 x3 s0 L_read L_end L_at L_fault L_d L_p L_y L_j L_o P_away P_beside P_reach P_serves P_crowds P_servedLow P_servedHigh P_crowdedLow P_crowdedHigh P_there P_must P_can G_grown k47 hk47 k91 hk91 H locs ls h hW hl
    unfold f_X6_grow_b125 at h
    refine lv_iconst (v := 0) hx hb dX6_grow_125 (by decide) ?_
    exact b126 hk47 hk91 h hW (lv_sub hl [0, 1, 2, 3] rfl)
  have b91 : ∀ {x1 : Int32} {x2 : Int32} {L_read : Nat} {L_end : Int32} {L_at : Int32} {L_fault : Int32} {L_d : Int32} {L_p : Int32} {L_y : Int32} {L_j : Int32} {L_o : Int32} {P_away : Nat → Nat → Int32} {P_beside : Nat → Int32} {P_reach : Nat → Int32} {P_serves : Nat → Int32} {P_crowds : Nat → Int32} {P_servedLow : Nat → Int32} {P_servedHigh : Nat → Int32} {P_crowdedLow : Nat → Int32} {P_crowdedHigh : Nat → Int32} {P_there : Int32} {P_must : Int32} {P_can : Int32} {k47 : Int32 → Nat → Int32 → Int32 → Int32 → Int32 → Int32 → Int32 → Int32 → Int32 → (Nat → Nat → Int32) → (Nat → Int32) → (Nat → Int32) → (Nat → Int32) → (Nat → Int32) → (Nat → Int32) → (Nat → Int32) → (Nat → Int32) → (Nat → Int32) → Int32 → Int32 → Int32 → (Nat → Int32) → Option (Int32 × Nat × Int32 × Int32 × Int32 × Int32 × Int32 × Int32 × Int32 × Int32 × (Nat → Nat → Int32) × (Nat → Int32) × (Nat → Int32) × (Nat → Int32) × (Nat → Int32) × (Nat → Int32) × (Nat → Int32) × (Nat → Int32) × (Nat → Int32) × Int32 × Int32 × Int32 × (Nat → Int32))} (hk47 : ∀ {x2 : Int32} {L_read : Nat} {L_end : Int32} {L_at : Int32} {L_fault : Int32} {L_d : Int32} {L_p : Int32} {L_y : Int32} {L_j : Int32} {L_o : Int32} {P_away : Nat → Nat → Int32} {P_beside : Nat → Int32} {P_reach : Nat → Int32} {P_serves : Nat → Int32} {P_crowds : Nat → Int32} {P_servedLow : Nat → Int32} {P_servedHigh : Nat → Int32} {P_crowdedLow : Nat → Int32} {P_crowdedHigh : Nat → Int32} {P_there : Int32} {P_must : Int32} {P_can : Int32} {G_grown : Nat → Int32} {H : Heap} {locs : List Loc} {ls : Array Slot}, k47 x2 L_read L_end L_at L_fault L_d L_p L_y L_j L_o P_away P_beside P_reach P_serves P_crowds P_servedLow P_servedHigh P_crowdedLow P_crowdedHigh P_there P_must P_can G_grown = some res → zW D A s.heap (WC q ρ T_price T_year T_joinEnds T_wallEnds T_cost T_doors T_joins T_walls T_oldWells T_apart L_tape L_text L_fed L_length L_read L_end L_at L_fault L_d L_p L_y L_j L_o P_away P_beside P_reach P_serves P_crowds P_servedLow P_servedHigh P_crowdedLow P_crowdedHigh P_there P_must P_can C_what C_number C_before C_after C_done C_kept A_kinds A_traced A_bodies A_began A_self A_kindOfSelf S_holds S_body S_sort S_size S_elements G_grown) H locs → lv_has ls 4 [(0, .ref (ρ 0)), (1, .int x1), (2, .int x2)] → W p l e (zrm d) s m args below meth c H locs 0 0 Q (F0 m 47 ls [])) {n : Nat} {x3 : Int32} {G_grown : Nat → Int32} {H : Heap} {locs : List Loc} {ls : Array Slot}, f_X6_grow_b91 k47 x1 x2 T_price T_year T_joinEnds T_wallEnds T_doors T_joins T_walls T_oldWells T_apart L_text L_length L_read L_end L_at L_fault L_d L_p L_y L_j L_o P_away P_beside P_reach P_serves P_crowds P_servedLow P_servedHigh P_crowdedLow P_crowdedHigh P_there P_must P_can n x3 G_grown = some res → zW D A s.heap (WC q ρ T_price T_year T_joinEnds T_wallEnds T_cost T_doors T_joins T_walls T_oldWells T_apart L_tape L_text L_fed L_length L_read L_end L_at L_fault L_d L_p L_y L_j L_o P_away P_beside P_reach P_serves P_crowds P_servedLow P_servedHigh P_crowdedLow P_crowdedHigh P_there P_must P_can C_what C_number C_before C_after C_done C_kept A_kinds A_traced A_bodies A_began A_self A_kindOfSelf S_holds S_body S_sort S_size S_elements G_grown) H locs → lv_has ls 4 [(0, .ref (ρ 0)), (1, .int x1), (2, .int x2), (3, .int x3)] → W p l e (zrm d) s m args below meth c H locs 0 0 Q (F0 m 91 ls []) := by
    intro x1 x2 L_read L_end L_at L_fault L_d L_p L_y L_j L_o P_away P_beside P_reach P_serves P_crowds P_servedLow P_servedHigh P_crowdedLow P_crowdedHigh P_there P_must P_can k47 hk47
    intro n
    induction n with
    | zero =>
      intro x3 G_grown H locs ls h
      rw [f_X6_grow_b91] at h
      cases h
    | succ n ih =>
      intro x3 G_grown H locs ls h hW hl
      rw [f_X6_grow_b91] at h
      refine lv_iload_n hx hb dX6_grow_91 rfl (lv_at hl 3 rfl) ?_
      refine lv_iload_n hx hb dX6_grow_92 rfl (lv_at hl 1 rfl) ?_
      refine lv_icmp_ge (tgt := 133) hx hb dX6_grow_93 (by decide) (fun c8 => ?_) (fun c8 => ?_)
      · have h := ifp c8 h
        refine lv_iinc (v := (x2 + 1)) (lv' := [(2, .int (x2 + 1)), (0, .ref (ρ 0)), (1, .int x1), (3, .int x3)]) hx hb dX6_grow_133 hl (k := 2) rfl rfl (by decide) rfl (fun ls hl => ?_)
        refine lv_goto (tgt := 47) hx hb dX6_grow_136 (by decide) ?_
        exact hk47 h hW (lv_sub hl [1, 2, 0] rfl)
      · have h := ifn c8 h
        refine lv_aload_n hx hb dX6_grow_96 rfl (lv_at hl 0 rfl) ?_
        refine z_get hC hW fg_X6_50 0 WC_0 rfl dX6_grow_97 ?_
        refine lv_iload_n hx hb dX6_grow_100 rfl (lv_at hl 3 rfl) ?_
        refine lv_aload_n hx hb dX6_grow_101 rfl (lv_at hl 0 rfl) ?_
        refine z_get hC hW fg_X6_50 0 WC_0 rfl dX6_grow_102 ?_
        refine lv_iload_n hx hb dX6_grow_105 rfl (lv_at hl 3 rfl) ?_
        obtain ⟨g9, h⟩ := ix_some h
        refine z_zald hC hW 7 WC_7 g9 dX6_grow_106 ?_
        refine lv_if_eq (tgt := 125) hx hb dX6_grow_107 (by decide) (fun c10 => ?_) (fun c10 => ?_)
        · have h := ifp c10 h
          exact b125 hk47 ih h hW (lv_sub hl [0, 1, 2, 3] rfl)
        · have h := ifn c10 h
          refine lv_aload_n hx hb dX6_grow_110 rfl (lv_at hl 0 rfl) ?_
          refine z_get hC hW fg_X6_26 0 WC_0 rfl dX6_grow_111 ?_
          refine lv_iload_n hx hb dX6_grow_114 rfl (lv_at hl 3 rfl) ?_
          obtain ⟨u12, eu12, h⟩ := bd_some h
          refine z_callV_i hC hW (rest := [.int x3, .ref (ρ 7)]) (c_X3_mayBe (d := 2) (Nat.le_refl _) eu12) vw_X6_164 WC_3 rfl ⟨rfl, rfl⟩ (zrm_ok (by omega) (by decide)) rfl rfl hl.1 (Nat.le_of_ble_eq_true rfl) dX6_grow_115 (fun H locs hW => ?_)
          refine lv_if_eq (tgt := 125) hx hb dX6_grow_118 (by decide) (fun c13 => ?_) (fun c13 => ?_)
          · have h := ifp c13 h
            exact b125 hk47 ih h hW (lv_sub hl [0, 1, 2, 3] rfl)
          · have h := ifn c13 h
            refine lv_iconst (v := 1) hx hb dX6_grow_121 (by decide) ?_
            refine lv_goto (tgt := 126) hx hb dX6_grow_122 (by decide) ?_
            exact b126 hk47 ih h hW (lv_sub hl [0, 1, 2, 3] rfl)
  have b47 : ∀ {x1 : Int32} {n : Nat} {x2 : Int32} {L_read : Nat} {L_end : Int32} {L_at : Int32} {L_fault : Int32} {L_d : Int32} {L_p : Int32} {L_y : Int32} {L_j : Int32} {L_o : Int32} {P_away : Nat → Nat → Int32} {P_beside : Nat → Int32} {P_reach : Nat → Int32} {P_serves : Nat → Int32} {P_crowds : Nat → Int32} {P_servedLow : Nat → Int32} {P_servedHigh : Nat → Int32} {P_crowdedLow : Nat → Int32} {P_crowdedHigh : Nat → Int32} {P_there : Int32} {P_must : Int32} {P_can : Int32} {G_grown : Nat → Int32} {H : Heap} {locs : List Loc} {ls : Array Slot}, f_X6_grow_b47 x1 T_price T_year T_joinEnds T_wallEnds T_doors T_joins T_walls T_oldWells T_apart L_text L_length n x2 L_read L_end L_at L_fault L_d L_p L_y L_j L_o P_away P_beside P_reach P_serves P_crowds P_servedLow P_servedHigh P_crowdedLow P_crowdedHigh P_there P_must P_can G_grown = some res → zW D A s.heap (WC q ρ T_price T_year T_joinEnds T_wallEnds T_cost T_doors T_joins T_walls T_oldWells T_apart L_tape L_text L_fed L_length L_read L_end L_at L_fault L_d L_p L_y L_j L_o P_away P_beside P_reach P_serves P_crowds P_servedLow P_servedHigh P_crowdedLow P_crowdedHigh P_there P_must P_can C_what C_number C_before C_after C_done C_kept A_kinds A_traced A_bodies A_began A_self A_kindOfSelf S_holds S_body S_sort S_size S_elements G_grown) H locs → lv_has ls 4 [(0, .ref (ρ 0)), (1, .int x1), (2, .int x2)] → W p l e (zrm d) s m args below meth c H locs 0 0 Q (F0 m 47 ls []) := by
    intro x1
    intro n
    induction n with
    | zero =>
      intro x2 L_read L_end L_at L_fault L_d L_p L_y L_j L_o P_away P_beside P_reach P_serves P_crowds P_servedLow P_servedHigh P_crowdedLow P_crowdedHigh P_there P_must P_can G_grown H locs ls h
      rw [f_X6_grow_b47] at h
      cases h
    | succ n ih =>
      intro x2 L_read L_end L_at L_fault L_d L_p L_y L_j L_o P_away P_beside P_reach P_serves P_crowds P_servedLow P_servedHigh P_crowdedLow P_crowdedHigh P_there P_must P_can G_grown H locs ls h hW hl
      rw [f_X6_grow_b47] at h
      refine lv_iload_n hx hb dX6_grow_47 rfl (lv_at hl 2 rfl) ?_
      refine lv_bipush (v := 9) hx hb dX6_grow_48 (by decide) ?_
      refine lv_icmp_gt (tgt := 139) hx hb dX6_grow_50 (by decide) (fun c3 => ?_) (fun c3 => ?_)
      · have h := ifp c3 h
        refine lv_aload_n hx hb dX6_grow_139 rfl (lv_at hl 0 rfl) ?_
        refine lv_iload_n hx hb dX6_grow_140 rfl (lv_at hl 1 rfl) ?_
        obtain ⟨u4, eu4, h⟩ := bd_some h
        refine z_callV_i hC hW (rest := []) (c_X6_fewestGrown (d := 1) (Nat.le_refl _) eu4) vw_X6_204 WC_0 rfl ⟨rfl, rfl⟩ (zrm_ok (by omega) (by decide)) rfl rfl hl.1 (Nat.le_of_ble_eq_true rfl) dX6_grow_141 (fun H locs hW => ?_)
        have h := Option.some.inj h
        subst h
        exact hret _ _ _ _ _ dX6_grow_144 rfl rfl hW
      · have h := ifn c3 h
        refine lv_aload_n hx hb dX6_grow_53 rfl (lv_at hl 0 rfl) ?_
        refine z_get hC hW fg_X6_26 0 WC_0 rfl dX6_grow_54 ?_
        refine lv_aload_n hx hb dX6_grow_57 rfl (lv_at hl 0 rfl) ?_
        refine z_get hC hW fg_X6_10 0 WC_0 rfl dX6_grow_58 ?_
        refine lv_aload_n hx hb dX6_grow_61 rfl (lv_at hl 0 rfl) ?_
        refine z_get hC hW fg_X6_19 0 WC_0 rfl dX6_grow_62 ?_
        refine lv_aload_n hx hb dX6_grow_65 rfl (lv_at hl 0 rfl) ?_
        refine z_get hC hW fg_X6_10 0 WC_0 rfl dX6_grow_66 ?_
        refine lv_iload_n hx hb dX6_grow_69 rfl (lv_at hl 2 rfl) ?_
        obtain ⟨u5, eu5, h⟩ := bd_some h
        refine z_callV_i hC hW (rest := [.ref (ρ 2), .ref (ρ 1), .ref (ρ 3)]) (c_X5_builtBy (d := 0) (Nat.le_refl _) eu5) vw_X6_197 WC_1 rfl ⟨rfl, rfl⟩ (zrm_ok (by omega) (by decide)) rfl rfl hl.1 (Nat.le_of_ble_eq_true rfl) dX6_grow_70 (fun H locs hW => ?_)
        refine lv_aload_n hx hb dX6_grow_73 rfl (lv_at hl 0 rfl) ?_
        refine z_get hC hW fg_X6_10 0 WC_0 rfl dX6_grow_74 ?_
        refine z_get hC hW fg_X6_100 1 WC_1 rfl dX6_grow_77 ?_
        refine lv_iconst (v := (-1)) hx hb dX6_grow_80 (by decide) ?_
        obtain ⟨u6, eu6, h⟩ := bd_some h
        refine z_callV_v hC hW (rest := []) (c_X3_lay (d := 82) (Nat.le_refl _) eu6) vw_X6_185 WC_3 rfl ⟨rfl, rfl⟩ (zrm_ok (by omega) (by decide)) rfl rfl hl.1 (Nat.le_of_ble_eq_true rfl) dX6_grow_81 (fun H locs hW => ?_)
        refine lv_aload_n hx hb dX6_grow_84 rfl (lv_at hl 0 rfl) ?_
        refine lv_iload_n hx hb dX6_grow_85 rfl (lv_at hl 1 rfl) ?_
        obtain ⟨u7, eu7, h⟩ := bd_some h
        refine z_callV_v hC hW (rest := []) (c_X6_growLonger (d := 0) (Nat.le_refl _) eu7) vw_X6_200 WC_0 rfl ⟨rfl, rfl⟩ (zrm_ok (by omega) (by decide)) rfl rfl hl.1 (Nat.le_of_ble_eq_true rfl) dX6_grow_86 (fun H locs hW => ?_)
        refine lv_iconst (v := 0) hx hb dX6_grow_89 (by decide) ?_
        refine lv_istore_n (lv' := [(3, .int 0), (0, .ref (ρ 0)), (1, .int x1), (2, .int x2)]) hx hb dX6_grow_90 rfl hl (by decide) rfl (fun ls hl => ?_)
        exact b91 ih h hW (lv_sub hl [1, 2, 3, 0] rfl)
  have b27 : ∀ {x1 : Int32} {L_read : Nat} {L_end : Int32} {L_at : Int32} {L_fault : Int32} {L_d : Int32} {L_p : Int32} {L_y : Int32} {L_j : Int32} {L_o : Int32} {P_away : Nat → Nat → Int32} {P_beside : Nat → Int32} {P_reach : Nat → Int32} {P_serves : Nat → Int32} {P_crowds : Nat → Int32} {P_servedLow : Nat → Int32} {P_servedHigh : Nat → Int32} {P_crowdedLow : Nat → Int32} {P_crowdedHigh : Nat → Int32} {P_there : Int32} {P_must : Int32} {P_can : Int32} {n : Nat} {x2 : Int32} {G_grown : Nat → Int32} {H : Heap} {locs : List Loc} {ls : Array Slot}, f_X6_grow_b27 x1 T_price T_year T_joinEnds T_wallEnds T_doors T_joins T_walls T_oldWells T_apart L_text L_length L_read L_end L_at L_fault L_d L_p L_y L_j L_o P_away P_beside P_reach P_serves P_crowds P_servedLow P_servedHigh P_crowdedLow P_crowdedHigh P_there P_must P_can n x2 G_grown = some res → zW D A s.heap (WC q ρ T_price T_year T_joinEnds T_wallEnds T_cost T_doors T_joins T_walls T_oldWells T_apart L_tape L_text L_fed L_length L_read L_end L_at L_fault L_d L_p L_y L_j L_o P_away P_beside P_reach P_serves P_crowds P_servedLow P_servedHigh P_crowdedLow P_crowdedHigh P_there P_must P_can C_what C_number C_before C_after C_done C_kept A_kinds A_traced A_bodies A_began A_self A_kindOfSelf S_holds S_body S_sort S_size S_elements G_grown) H locs → lv_has ls 4 [(0, .ref (ρ 0)), (1, .int x1), (2, .int x2)] → W p l e (zrm d) s m args below meth c H locs 0 0 Q (F0 m 27 ls []) := by
    intro x1 L_read L_end L_at L_fault L_d L_p L_y L_j L_o P_away P_beside P_reach P_serves P_crowds P_servedLow P_servedHigh P_crowdedLow P_crowdedHigh P_there P_must P_can
    intro n
    induction n with
    | zero =>
      intro x2 G_grown H locs ls h
      rw [f_X6_grow_b27] at h
      cases h
    | succ n ih =>
      intro x2 G_grown H locs ls h hW hl
      rw [f_X6_grow_b27] at h
      refine lv_iload_n hx hb dX6_grow_27 rfl (lv_at hl 2 rfl) ?_
      refine lv_iload_n hx hb dX6_grow_28 rfl (lv_at hl 1 rfl) ?_
      refine lv_icmp_ge (tgt := 45) hx hb dX6_grow_29 (by decide) (fun c2 => ?_) (fun c2 => ?_)
      · have h := ifp c2 h
        refine lv_iconst (v := 0) hx hb dX6_grow_45 (by decide) ?_
        refine lv_istore_n (lv' := [(2, .int 0), (0, .ref (ρ 0)), (1, .int x1)]) hx hb dX6_grow_46 rfl hl (by decide) rfl (fun ls hl => ?_)
        exact b47 h hW (lv_sub hl [1, 2, 0] rfl)
      · have h := ifn c2 h
        refine lv_aload_n hx hb dX6_grow_32 rfl (lv_at hl 0 rfl) ?_
        refine z_get hC hW fg_X6_50 0 WC_0 rfl dX6_grow_33 ?_
        refine lv_iload_n hx hb dX6_grow_36 rfl (lv_at hl 2 rfl) ?_
        refine lv_iconst (v := 1) hx hb dX6_grow_37 (by decide) ?_
        obtain ⟨g14, h⟩ := ix_some h
        refine z_zast hC hW 7 WC_7 g14 WCs_G_grown dX6_grow_38 (fun H locs hW => ?_)
        refine lv_iinc (v := (x2 + 1)) (lv' := [(2, .int (x2 + 1)), (0, .ref (ρ 0)), (1, .int x1)]) hx hb dX6_grow_39 hl (k := 2) rfl rfl (by decide) rfl (fun ls hl => ?_)
        refine lv_goto (tgt := 27) hx hb dX6_grow_42 (by decide) ?_
        exact ih h hW (lv_sub hl [1, 2, 0] rfl)
  unfold f_X6_grow at h
  refine lv_aload_n hx hb dX6_grow_0 rfl (lv_at hl 0 rfl) ?_
  refine z_get hC hW fg_X6_10 0 WC_0 rfl dX6_grow_1 ?_
  refine z_get hC hW fg_X6_59 1 WC_1 rfl dX6_grow_4 ?_
  refine lv_bipush (v := 9) hx hb dX6_grow_7 (by decide) ?_
  refine lv_icmp_le (tgt := 15) hx hb dX6_grow_9 (by decide) (fun c1 => ?_) (fun c1 => ?_)
  · have h := ifp c1 h
    refine lv_iconst (v := 1) hx hb dX6_grow_15 (by decide) ?_
    refine lv_aload_n hx hb dX6_grow_16 rfl (lv_at hl 0 rfl) ?_
    refine z_get hC hW fg_X6_10 0 WC_0 rfl dX6_grow_17 ?_
    refine z_get hC hW fg_X6_59 1 WC_1 rfl dX6_grow_20 ?_
    refine lv_ishl hx hb dX6_grow_23 ?_
    refine lv_istore_n (lv' := [(1, .int (1 <<< (T_doors &&& 31))), (0, .ref (ρ 0))]) hx hb dX6_grow_24 rfl hl (by decide) rfl (fun ls hl => ?_)
    refine lv_iconst (v := 0) hx hb dX6_grow_25 (by decide) ?_
    refine lv_istore_n (lv' := [(2, .int 0), (1, .int (1 <<< (T_doors &&& 31))), (0, .ref (ρ 0))]) hx hb dX6_grow_26 rfl hl (by decide) rfl (fun ls hl => ?_)
    exact b27 h hW (lv_sub hl [2, 1, 0] rfl)
  · have h := ifn c1 h
    refine lv_bipush (v := (-5)) hx hb dX6_grow_12 (by decide) ?_
    have h := Option.some.inj h
    subst h
    exact hret _ _ _ _ _ dX6_grow_14 rfl rfl hW
set_option maxHeartbeats 4000000 in
set_option maxRecDepth 100000 in
theorem c_X6_breaks {a1 : Int32} {d : Nat} {res : Int32 × Nat × Int32 × Int32 × Int32 × Int32 × Int32 × Int32 × Int32 × Int32 × (Nat → Nat → Int32) × (Nat → Int32) × (Nat → Int32) × (Nat → Int32) × (Nat → Int32) × (Nat → Int32) × (Nat → Int32) × (Nat → Int32) × (Nat → Int32) × Int32 × Int32 × Int32} (hd : 83 ≤ d) (h : f_X6_breaks a1 T_price T_year T_joinEnds T_wallEnds T_cost T_doors T_joins T_walls T_oldWells T_apart L_text L_length L_read L_end L_at L_fault L_d L_p L_y L_j L_o P_away P_beside P_reach P_serves P_crowds P_servedLow P_servedHigh P_crowdedLow P_crowdedHigh P_there P_must P_can = some res) : zMi l yX6_breaks cX6_breaks 7 .int (zrm d) [.ref (ρ 0), .int a1] D q (WC q ρ T_price T_year T_joinEnds T_wallEnds T_cost T_doors T_joins T_walls T_oldWells T_apart L_tape L_text L_fed L_length L_read L_end L_at L_fault L_d L_p L_y L_j L_o P_away P_beside P_reach P_serves P_crowds P_servedLow P_servedHigh P_crowdedLow P_crowdedHigh P_there P_must P_can C_what C_number C_before C_after C_done C_kept A_kinds A_traced A_bodies A_began A_self A_kindOfSelf S_holds S_body S_sort S_size S_elements G_grown) sz res.1 (WC q ρ T_price T_year T_joinEnds T_wallEnds T_cost T_doors T_joins T_walls T_oldWells T_apart L_tape L_text L_fed L_length res.2.1 res.2.2.1 res.2.2.2.1 res.2.2.2.2.1 res.2.2.2.2.2.1 res.2.2.2.2.2.2.1 res.2.2.2.2.2.2.2.1 res.2.2.2.2.2.2.2.2.1 res.2.2.2.2.2.2.2.2.2.1 res.2.2.2.2.2.2.2.2.2.2.1 res.2.2.2.2.2.2.2.2.2.2.2.1 res.2.2.2.2.2.2.2.2.2.2.2.2.1 res.2.2.2.2.2.2.2.2.2.2.2.2.2.1 res.2.2.2.2.2.2.2.2.2.2.2.2.2.2.1 res.2.2.2.2.2.2.2.2.2.2.2.2.2.2.2.1 res.2.2.2.2.2.2.2.2.2.2.2.2.2.2.2.2.1 res.2.2.2.2.2.2.2.2.2.2.2.2.2.2.2.2.2.1 res.2.2.2.2.2.2.2.2.2.2.2.2.2.2.2.2.2.2.1 res.2.2.2.2.2.2.2.2.2.2.2.2.2.2.2.2.2.2.2.1 res.2.2.2.2.2.2.2.2.2.2.2.2.2.2.2.2.2.2.2.2.1 res.2.2.2.2.2.2.2.2.2.2.2.2.2.2.2.2.2.2.2.2.2 C_what C_number C_before C_after C_done C_kept A_kinds A_traced A_bodies A_began A_self A_kindOfSelf S_holds S_body S_sort S_size S_elements G_grown) := by
  refine zMet_i (own := RX6) _ (by decide) rfl (Nat.le_of_ble_eq_true rfl) ?_
  intro p e s m args below meth c A ls Q hC hW hl hret
  have hx := hC.1
  have hb := hC.2.1
  have hl : lv_has ls 7 [(0, .ref (ρ 0)), (1, .int a1)] := hl
  have b136 : ∀ {x1 : Int32} {x2 : Int32} {x3 : Int32} {x4 : Int32} {L_read : Nat} {L_end : Int32} {L_at : Int32} {L_fault : Int32} {L_d : Int32} {L_p : Int32} {L_y : Int32} {L_j : Int32} {L_o : Int32} {P_away : Nat → Nat → Int32} {P_beside : Nat → Int32} {P_reach : Nat → Int32} {P_serves : Nat → Int32} {P_crowds : Nat → Int32} {P_servedLow : Nat → Int32} {P_servedHigh : Nat → Int32} {P_crowdedLow : Nat → Int32} {P_crowdedHigh : Nat → Int32} {P_there : Int32} {P_must : Int32} {P_can : Int32} {k19 : Int32 → Int32 → Int32 → Nat → Int32 → Int32 → Int32 → Int32 → Int32 → Int32 → Int32 → Int32 → (Nat → Nat → Int32) → (Nat → Int32) → (Nat → Int32) → (Nat → Int32) → (Nat → Int32) → (Nat → Int32) → (Nat → Int32) → (Nat → Int32) → (Nat → Int32) → Int32 → Int32 → Int32 → Option (Int32 × Nat × Int32 × Int32 × Int32 × Int32 × Int32 × Int32 × Int32 × Int32 × (Nat → Nat → Int32) × (Nat → Int32) × (Nat → Int32) × (Nat → Int32) × (Nat → Int32) × (Nat → Int32) × (Nat → Int32) × (Nat → Int32) × (Nat → Int32) × Int32 × Int32 × Int32)} (hk19 : ∀ {x2 : Int32} {x3 : Int32} {x4 : Int32} {L_read : Nat} {L_end : Int32} {L_at : Int32} {L_fault : Int32} {L_d : Int32} {L_p : Int32} {L_y : Int32} {L_j : Int32} {L_o : Int32} {P_away : Nat → Nat → Int32} {P_beside : Nat → Int32} {P_reach : Nat → Int32} {P_serves : Nat → Int32} {P_crowds : Nat → Int32} {P_servedLow : Nat → Int32} {P_servedHigh : Nat → Int32} {P_crowdedLow : Nat → Int32} {P_crowdedHigh : Nat → Int32} {P_there : Int32} {P_must : Int32} {P_can : Int32} {H : Heap} {locs : List Loc} {ls : Array Slot}, k19 x2 x3 x4 L_read L_end L_at L_fault L_d L_p L_y L_j L_o P_away P_beside P_reach P_serves P_crowds P_servedLow P_servedHigh P_crowdedLow P_crowdedHigh P_there P_must P_can = some res → zW D A s.heap (WC q ρ T_price T_year T_joinEnds T_wallEnds T_cost T_doors T_joins T_walls T_oldWells T_apart L_tape L_text L_fed L_length L_read L_end L_at L_fault L_d L_p L_y L_j L_o P_away P_beside P_reach P_serves P_crowds P_servedLow P_servedHigh P_crowdedLow P_crowdedHigh P_there P_must P_can C_what C_number C_before C_after C_done C_kept A_kinds A_traced A_bodies A_began A_self A_kindOfSelf S_holds S_body S_sort S_size S_elements G_grown) H locs → lv_has ls 7 [(0, .ref (ρ 0)), (1, .int x1), (2, .int x2), (3, .int x3), (4, .int x4)] → W p l e (zrm d) s m args below meth c H locs 0 0 Q (F0 m 19 ls [])) {H : Heap} {locs : List Loc} {ls : Array Slot}, f_X6_breaks_b136 k19 x1 x2 x3 x4 T_price T_year T_joinEnds T_wallEnds T_cost T_doors T_joins T_walls T_oldWells T_apart L_text L_length L_read L_end L_at L_fault L_d L_p L_y L_j L_o P_away P_beside P_reach P_serves P_crowds P_servedLow P_servedHigh P_crowdedLow P_crowdedHigh P_there P_must P_can = some res → zW D A s.heap (WC q ρ T_price T_year T_joinEnds T_wallEnds T_cost T_doors T_joins T_walls T_oldWells T_apart L_tape L_text L_fed L_length L_read L_end L_at L_fault L_d L_p L_y L_j L_o P_away P_beside P_reach P_serves P_crowds P_servedLow P_servedHigh P_crowdedLow P_crowdedHigh P_there P_must P_can C_what C_number C_before C_after C_done C_kept A_kinds A_traced A_bodies A_began A_self A_kindOfSelf S_holds S_body S_sort S_size S_elements G_grown) H locs → lv_has ls 7 [(0, .ref (ρ 0)), (1, .int x1), (2, .int x2), (3, .int x3), (4, .int x4)] → W p l e (zrm d) s m args below meth c H locs 0 0 Q (F0 m 136 ls []) := by
    intro x1 x2 x3 x4 L_read L_end L_at L_fault L_d L_p L_y L_j L_o P_away P_beside P_reach P_serves P_crowds P_servedLow P_servedHigh P_crowdedLow P_crowdedHigh P_there P_must P_can k19 hk19 H locs ls h hW hl
    unfold f_X6_breaks_b136 at h
    refine lv_iinc (v := (x4 + 1)) (lv' := [(4, .int (x4 + 1)), (0, .ref (ρ 0)), (1, .int x1), (2, .int x2), (3, .int x3)]) hx hb dX6_breaks_136 hl (k := 4) rfl rfl (by decide) rfl (fun ls hl => ?_)
    refine lv_goto (tgt := 19) hx hb dX6_breaks_139 (by decide) ?_
    exact hk19 h hW (lv_sub hl [1, 2, 3, 4, 0] rfl)
  have b130 : ∀ {x1 : Int32} {x4 : Int32} {x6 : Int32} {L_read : Nat} {L_end : Int32} {L_at : Int32} {L_fault : Int32} {L_d : Int32} {L_p : Int32} {L_y : Int32} {L_j : Int32} {L_o : Int32} {P_away : Nat → Nat → Int32} {P_beside : Nat → Int32} {P_reach : Nat → Int32} {P_serves : Nat → Int32} {P_crowds : Nat → Int32} {P_servedLow : Nat → Int32} {P_servedHigh : Nat → Int32} {P_crowdedLow : Nat → Int32} {P_crowdedHigh : Nat → Int32} {P_there : Int32} {P_must : Int32} {P_can : Int32} {k19 : Int32 → Int32 → Int32 → Nat → Int32 → Int32 → Int32 → Int32 → Int32 → Int32 → Int32 → Int32 → (Nat → Nat → Int32) → (Nat → Int32) → (Nat → Int32) → (Nat → Int32) → (Nat → Int32) → (Nat → Int32) → (Nat → Int32) → (Nat → Int32) → (Nat → Int32) → Int32 → Int32 → Int32 → Option (Int32 × Nat × Int32 × Int32 × Int32 × Int32 × Int32 × Int32 × Int32 × Int32 × (Nat → Nat → Int32) × (Nat → Int32) × (Nat → Int32) × (Nat → Int32) × (Nat → Int32) × (Nat → Int32) × (Nat → Int32) × (Nat → Int32) × (Nat → Int32) × Int32 × Int32 × Int32)} (hk19 : ∀ {x2 : Int32} {x3 : Int32} {x4 : Int32} {L_read : Nat} {L_end : Int32} {L_at : Int32} {L_fault : Int32} {L_d : Int32} {L_p : Int32} {L_y : Int32} {L_j : Int32} {L_o : Int32} {P_away : Nat → Nat → Int32} {P_beside : Nat → Int32} {P_reach : Nat → Int32} {P_serves : Nat → Int32} {P_crowds : Nat → Int32} {P_servedLow : Nat → Int32} {P_servedHigh : Nat → Int32} {P_crowdedLow : Nat → Int32} {P_crowdedHigh : Nat → Int32} {P_there : Int32} {P_must : Int32} {P_can : Int32} {H : Heap} {locs : List Loc} {ls : Array Slot}, k19 x2 x3 x4 L_read L_end L_at L_fault L_d L_p L_y L_j L_o P_away P_beside P_reach P_serves P_crowds P_servedLow P_servedHigh P_crowdedLow P_crowdedHigh P_there P_must P_can = some res → zW D A s.heap (WC q ρ T_price T_year T_joinEnds T_wallEnds T_cost T_doors T_joins T_walls T_oldWells T_apart L_tape L_text L_fed L_length L_read L_end L_at L_fault L_d L_p L_y L_j L_o P_away P_beside P_reach P_serves P_crowds P_servedLow P_servedHigh P_crowdedLow P_crowdedHigh P_there P_must P_can C_what C_number C_before C_after C_done C_kept A_kinds A_traced A_bodies A_began A_self A_kindOfSelf S_holds S_body S_sort S_size S_elements G_grown) H locs → lv_has ls 7 [(0, .ref (ρ 0)), (1, .int x1), (2, .int x2), (3, .int x3), (4, .int x4)] → W p l e (zrm d) s m args below meth c H locs 0 0 Q (F0 m 19 ls [])) {H : Heap} {locs : List Loc} {ls : Array Slot}, f_X6_breaks_b130 k19 x1 x4 x6 T_price T_year T_joinEnds T_wallEnds T_cost T_doors T_joins T_walls T_oldWells T_apart L_text L_length L_read L_end L_at L_fault L_d L_p L_y L_j L_o P_away P_beside P_reach P_serves P_crowds P_servedLow P_servedHigh P_crowdedLow P_crowdedHigh P_there P_must P_can = some res → zW D A s.heap (WC q ρ T_price T_year T_joinEnds T_wallEnds T_cost T_doors T_joins T_walls T_oldWells T_apart L_tape L_text L_fed L_length L_read L_end L_at L_fault L_d L_p L_y L_j L_o P_away P_beside P_reach P_serves P_crowds P_servedLow P_servedHigh P_crowdedLow P_crowdedHigh P_there P_must P_can C_what C_number C_before C_after C_done C_kept A_kinds A_traced A_bodies A_began A_self A_kindOfSelf S_holds S_body S_sort S_size S_elements G_grown) H locs → lv_has ls 7 [(0, .ref (ρ 0)), (1, .int x1), (4, .int x4), (6, .int x6)] → W p l e (zrm d) s m args below meth c H locs 0 0 Q (F0 m 130 ls []) := by
    intro x1 x4 x6 L_read L_end L_at L_fault L_d L_p L_y L_j L_o P_away P_beside P_reach P_serves P_crowds P_servedLow P_servedHigh P_crowdedLow P_crowdedHigh P_there P_must P_can k19 hk19 H locs ls h hW hl
    unfold f_X6_breaks_b130 at h
    refine lv_iload hx hb dX6_breaks_130 (lv_at hl 2 rfl) ?_
    refine lv_istore_n (lv' := [(2, .int x4), (0, .ref (ρ 0)), (1, .int x1), (4, .int x4), (6, .int x6)]) hx hb dX6_breaks_132 rfl hl (by decide) rfl (fun ls hl => ?_)
    refine lv_iload hx hb dX6_breaks_133 (lv_at hl 4 rfl) ?_
    refine lv_istore_n (lv' := [(3, .int x6), (2, .int x4), (0, .ref (ρ 0)), (1, .int x1), (4, .int x4), (6, .int x6)]) hx hb dX6_breaks_135 rfl hl (by decide) rfl (fun ls hl => ?_)
    exact b136 hk19 h hW (lv_sub hl [2, 3, 1, 0, 4] rfl)
  have b19 : ∀ {x1 : Int32} {n : Nat} {x2 : Int32} {x3 : Int32} {x4 : Int32} {L_read : Nat} {L_end : Int32} {L_at : Int32} {L_fault : Int32} {L_d : Int32} {L_p : Int32} {L_y : Int32} {L_j : Int32} {L_o : Int32} {P_away : Nat → Nat → Int32} {P_beside : Nat → Int32} {P_reach : Nat → Int32} {P_serves : Nat → Int32} {P_crowds : Nat → Int32} {P_servedLow : Nat → Int32} {P_servedHigh : Nat → Int32} {P_crowdedLow : Nat → Int32} {P_crowdedHigh : Nat → Int32} {P_there : Int32} {P_must : Int32} {P_can : Int32} {H : Heap} {locs : List Loc} {ls : Array Slot}, f_X6_breaks_b19 x1 T_price T_year T_joinEnds T_wallEnds T_cost T_doors T_joins T_walls T_oldWells T_apart L_text L_length n x2 x3 x4 L_read L_end L_at L_fault L_d L_p L_y L_j L_o P_away P_beside P_reach P_serves P_crowds P_servedLow P_servedHigh P_crowdedLow P_crowdedHigh P_there P_must P_can = some res → zW D A s.heap (WC q ρ T_price T_year T_joinEnds T_wallEnds T_cost T_doors T_joins T_walls T_oldWells T_apart L_tape L_text L_fed L_length L_read L_end L_at L_fault L_d L_p L_y L_j L_o P_away P_beside P_reach P_serves P_crowds P_servedLow P_servedHigh P_crowdedLow P_crowdedHigh P_there P_must P_can C_what C_number C_before C_after C_done C_kept A_kinds A_traced A_bodies A_began A_self A_kindOfSelf S_holds S_body S_sort S_size S_elements G_grown) H locs → lv_has ls 7 [(0, .ref (ρ 0)), (1, .int x1), (2, .int x2), (3, .int x3), (4, .int x4)] → W p l e (zrm d) s m args below meth c H locs 0 0 Q (F0 m 19 ls []) := by
    intro x1
    intro n
    induction n with
    | zero =>
      intro x2 x3 x4 L_read L_end L_at L_fault L_d L_p L_y L_j L_o P_away P_beside P_reach P_serves P_crowds P_servedLow P_servedHigh P_crowdedLow P_crowdedHigh P_there P_must P_can H locs ls h
      rw [f_X6_breaks_b19] at h
      cases h
    | succ n ih =>
      intro x2 x3 x4 L_read L_end L_at L_fault L_d L_p L_y L_j L_o P_away P_beside P_reach P_serves P_crowds P_servedLow P_servedHigh P_crowdedLow P_crowdedHigh P_there P_must P_can H locs ls h hW hl
      rw [f_X6_breaks_b19] at h
      refine lv_iload hx hb dX6_breaks_19 (lv_at hl 4 rfl) ?_
      refine lv_aload_n hx hb dX6_breaks_21 rfl (lv_at hl 0 rfl) ?_
      refine z_get hC hW fg_X6_10 0 WC_0 rfl dX6_breaks_22 ?_
      refine z_get hC hW fg_X6_91 1 WC_1 rfl dX6_breaks_25 ?_
      refine lv_icmp_ge (tgt := 142) hx hb dX6_breaks_28 (by decide) (fun c3 => ?_) (fun c3 => ?_)
      · have h := ifp c3 h
        refine lv_iload_n hx hb dX6_breaks_142 rfl (lv_at hl 2 rfl) ?_
        refine lv_if_lt (tgt := 150) hx hb dX6_breaks_143 (by decide) (fun c4 => ?_) (fun c4 => ?_)
        · have h := ifp c4 h
          refine lv_iload_n hx hb dX6_breaks_150 rfl (lv_at hl 2 rfl) ?_
          refine lv_goto (tgt := 155) hx hb dX6_breaks_151 (by decide) ?_
          have h := Option.some.inj h
          subst h
          exact hret _ _ _ _ _ dX6_breaks_155 rfl rfl hW
        · have h := ifn c4 h
          refine lv_iload_n hx hb dX6_breaks_146 rfl (lv_at hl 1 rfl) ?_
          refine lv_if_ne (tgt := 154) hx hb dX6_breaks_147 (by decide) (fun c5 => ?_) (fun c5 => ?_)
          · have h := ifn c5 h
            refine lv_iload_n hx hb dX6_breaks_154 rfl (lv_at hl 3 rfl) ?_
            have h := Option.some.inj h
            subst h
            exact hret _ _ _ _ _ dX6_breaks_155 rfl rfl hW
          · have h := ifp c5 h
            refine lv_iload_n hx hb dX6_breaks_150 rfl (lv_at hl 2 rfl) ?_
            refine lv_goto (tgt := 155) hx hb dX6_breaks_151 (by decide) ?_
            have h := Option.some.inj h
            subst h
            exact hret _ _ _ _ _ dX6_breaks_155 rfl rfl hW
      · have h := ifn c3 h
        refine lv_aload_n hx hb dX6_breaks_31 rfl (lv_at hl 0 rfl) ?_
        refine z_get hC hW fg_X6_26 0 WC_0 rfl dX6_breaks_32 ?_
        refine lv_aload_n hx hb dX6_breaks_35 rfl (lv_at hl 0 rfl) ?_
        refine z_get hC hW fg_X6_10 0 WC_0 rfl dX6_breaks_36 ?_
        refine lv_aload_n hx hb dX6_breaks_39 rfl (lv_at hl 0 rfl) ?_
        refine z_get hC hW fg_X6_19 0 WC_0 rfl dX6_breaks_40 ?_
        refine lv_aload_n hx hb dX6_breaks_43 rfl (lv_at hl 0 rfl) ?_
        refine z_get hC hW fg_X6_10 0 WC_0 rfl dX6_breaks_44 ?_
        obtain ⟨u6, eu6, h⟩ := bd_some h
        refine z_callV_i hC hW (rest := [.ref (ρ 2), .ref (ρ 1), .ref (ρ 3)]) (c_X5_everyDoor (d := 0) (Nat.le_refl _) eu6) vw_X6_182 WC_1 rfl ⟨rfl, rfl⟩ (zrm_ok (by omega) (by decide)) rfl rfl hl.1 (Nat.le_of_ble_eq_true rfl) dX6_breaks_47 (fun H locs hW => ?_)
        refine lv_aload_n hx hb dX6_breaks_50 rfl (lv_at hl 0 rfl) ?_
        refine z_get hC hW fg_X6_10 0 WC_0 rfl dX6_breaks_51 ?_
        refine z_get hC hW fg_X6_100 1 WC_1 rfl dX6_breaks_54 ?_
        refine lv_iload hx hb dX6_breaks_57 (lv_at hl 4 rfl) ?_
        obtain ⟨u7, eu7, h⟩ := bd_some h
        refine z_callV_v hC hW (rest := []) (c_X3_lay (d := 82) (Nat.le_refl _) eu7) vw_X6_185 WC_3 rfl ⟨rfl, rfl⟩ (zrm_ok (by omega) (by decide)) rfl rfl hl.1 (Nat.le_of_ble_eq_true rfl) dX6_breaks_59 (fun H locs hW => ?_)
        refine lv_aload_n hx hb dX6_breaks_62 rfl (lv_at hl 0 rfl) ?_
        refine z_get hC hW fg_X6_26 0 WC_0 rfl dX6_breaks_63 ?_
        refine lv_aload_n hx hb dX6_breaks_66 rfl (lv_at hl 0 rfl) ?_
        refine z_get hC hW fg_X6_10 0 WC_0 rfl dX6_breaks_67 ?_
        refine lv_iconst (v := 0) hx hb dX6_breaks_70 (by decide) ?_
        refine lv_iconst (v := 0) hx hb dX6_breaks_71 (by decide) ?_
        obtain ⟨u8, eu8, h⟩ := bd_some h
        refine z_callV_i hC hW (rest := []) (c_X3_least (d := 3) (Nat.le_refl _) eu8) vw_X6_157 WC_3 rfl ⟨rfl, rfl⟩ (zrm_ok (by omega) (by decide)) rfl rfl hl.1 (Nat.le_of_ble_eq_true rfl) dX6_breaks_72 (fun H locs hW => ?_)
        refine lv_istore (lv' := [(5, .int u8), (0, .ref (ρ 0)), (1, .int x1), (2, .int x2), (3, .int x3), (4, .int x4)]) hx hb dX6_breaks_75 hl (by decide) rfl (fun ls hl => ?_)
        refine lv_iload hx hb dX6_breaks_77 (lv_at hl 0 rfl) ?_
        refine lv_if_ge (tgt := 85) hx hb dX6_breaks_79 (by decide) (fun c9 => ?_) (fun c9 => ?_)
        · have h := ifp c9 h
          refine lv_iload hx hb dX6_breaks_85 (lv_at hl 0 rfl) ?_
          obtain ⟨u10, eu10, h⟩ := bd_some h
          refine z_callS_i hC hW (rest := []) (c_J6_bitCount_0f7a4 (d := 0) (Nat.le_refl _) eu10) sw_X6_192 ⟨rfl, rfl⟩ (zrm_ok (by omega) (by decide)) rfl rfl hl.1 (Nat.le_of_ble_eq_true rfl) dX6_breaks_87 (fun H locs hW => ?_)
          refine lv_istore (lv' := [(6, .int u10), (5, .int u8), (0, .ref (ρ 0)), (1, .int x1), (2, .int x2), (3, .int x3), (4, .int x4)]) hx hb dX6_breaks_90 hl (by decide) rfl (fun ls hl => ?_)
          refine lv_iload_n hx hb dX6_breaks_92 rfl (lv_at hl 4 rfl) ?_
          refine lv_if_lt (tgt := 130) hx hb dX6_breaks_93 (by decide) (fun c11 => ?_) (fun c11 => ?_)
          · have h := ifp c11 h
            exact b130 ih h hW (lv_sub hl [2, 3, 6, 0] rfl)
          · have h := ifn c11 h
            refine lv_iload hx hb dX6_breaks_96 (lv_at hl 0 rfl) ?_
            refine lv_iload_n hx hb dX6_breaks_98 rfl (lv_at hl 5 rfl) ?_
            refine lv_icmp_lt (tgt := 130) hx hb dX6_breaks_99 (by decide) (fun c12 => ?_) (fun c12 => ?_)
            · have h := ifp c12 h
              exact b130 ih h hW (lv_sub hl [2, 3, 6, 0] rfl)
            · have h := ifn c12 h
              refine lv_iload hx hb dX6_breaks_102 (lv_at hl 0 rfl) ?_
              refine lv_iload_n hx hb dX6_breaks_104 rfl (lv_at hl 5 rfl) ?_
              refine lv_icmp_ne (tgt := 136) hx hb dX6_breaks_105 (by decide) (fun c13 => ?_) (fun c13 => ?_)
              · have h := ifn c13 h
                exact b136 ih h hW (lv_sub hl [2, 3, 4, 5, 6] rfl)
              · have h := ifp c13 h
                refine lv_aload_n hx hb dX6_breaks_108 rfl (lv_at hl 2 rfl) ?_
                refine z_get hC hW fg_X6_10 0 WC_0 rfl dX6_breaks_109 ?_
                refine z_get hC hW fg_X6_134 1 WC_1 rfl dX6_breaks_112 ?_
                refine lv_iload hx hb dX6_breaks_115 (lv_at hl 6 rfl) ?_
                obtain ⟨g14, h⟩ := ix_some h
                refine z_iald hC hW 12 WC_12 g14 dX6_breaks_117 ?_
                refine lv_aload_n hx hb dX6_breaks_118 rfl (lv_at hl 2 rfl) ?_
                refine z_get hC hW fg_X6_10 0 WC_0 rfl dX6_breaks_119 ?_
                refine z_get hC hW fg_X6_134 1 WC_1 rfl dX6_breaks_122 ?_
                refine lv_iload_n hx hb dX6_breaks_125 rfl (lv_at hl 4 rfl) ?_
                obtain ⟨g15, h⟩ := ix_some h
                refine z_iald hC hW 12 WC_12 g15 dX6_breaks_126 ?_
                refine lv_icmp_ge (tgt := 136) hx hb dX6_breaks_127 (by decide) (fun c16 => ?_) (fun c16 => ?_)
                · have h := ifp c16 h
                  exact b136 ih h hW (lv_sub hl [2, 3, 4, 5, 6] rfl)
                · have h := ifn c16 h
                  exact b130 ih h hW (lv_sub hl [2, 3, 6, 0] rfl)
        · have h := ifn c9 h
          refine lv_goto (tgt := 136) hx hb dX6_breaks_82 (by decide) ?_
          exact b136 ih h hW (lv_sub hl [1, 2, 3, 4, 5] rfl)
  unfold f_X6_breaks at h
  refine lv_iload_n hx hb dX6_breaks_0 rfl (lv_at hl 1 rfl) ?_
  refine lv_iconst (v := 1) hx hb dX6_breaks_1 (by decide) ?_
  obtain ⟨u1, eu1, h⟩ := bd_some h
  refine z_callS_i hC hW (rest := []) (c_X6_isWithin (d := 0) (Nat.le_refl _) eu1) sw_X6_55 ⟨rfl, rfl⟩ (zrm_ok (by omega) (by decide)) rfl rfl hl.1 (Nat.le_of_ble_eq_true rfl) dX6_breaks_2 (fun H locs hW => ?_)
  refine lv_if_ne (tgt := 10) hx hb dX6_breaks_5 (by decide) (fun c2 => ?_) (fun c2 => ?_)
  · have h := ifn c2 h
    refine lv_bipush (v := (-2)) hx hb dX6_breaks_10 (by decide) ?_
    refine lv_istore_n (lv' := [(2, .int (-2)), (0, .ref (ρ 0)), (1, .int a1)]) hx hb dX6_breaks_12 rfl hl (by decide) rfl (fun ls hl => ?_)
    refine lv_bipush (v := 15) hx hb dX6_breaks_13 (by decide) ?_
    refine lv_istore_n (lv' := [(3, .int 15), (2, .int (-2)), (0, .ref (ρ 0)), (1, .int a1)]) hx hb dX6_breaks_15 rfl hl (by decide) rfl (fun ls hl => ?_)
    refine lv_iconst (v := 0) hx hb dX6_breaks_16 (by decide) ?_
    refine lv_istore (lv' := [(4, .int 0), (3, .int 15), (2, .int (-2)), (0, .ref (ρ 0)), (1, .int a1)]) hx hb dX6_breaks_17 hl (by decide) rfl (fun ls hl => ?_)
    exact b19 h hW (lv_sub hl [3, 4, 2, 1, 0] rfl)
  · have h := ifp c2 h
    refine lv_iconst (v := (-1)) hx hb dX6_breaks_8 (by decide) ?_
    have h := Option.some.inj h
    subst h
    exact hret _ _ _ _ _ dX6_breaks_9 rfl rfl hW
set_option maxHeartbeats 4000000 in
set_option maxRecDepth 100000 in
theorem c_X3_nearest {a1 : Int32} {a2 : Int32} {d : Nat} {res : Int32} (hd : 0 ≤ d) (h : f_X3_nearest a1 a2 P_away = some res) : zMi l yX3_nearest cX3_nearest 6 .int (zrm d) [.ref (ρ 3), .int a1, .int a2] D q (WC q ρ T_price T_year T_joinEnds T_wallEnds T_cost T_doors T_joins T_walls T_oldWells T_apart L_tape L_text L_fed L_length L_read L_end L_at L_fault L_d L_p L_y L_j L_o P_away P_beside P_reach P_serves P_crowds P_servedLow P_servedHigh P_crowdedLow P_crowdedHigh P_there P_must P_can C_what C_number C_before C_after C_done C_kept A_kinds A_traced A_bodies A_began A_self A_kindOfSelf S_holds S_body S_sort S_size S_elements G_grown) sz res (WC q ρ T_price T_year T_joinEnds T_wallEnds T_cost T_doors T_joins T_walls T_oldWells T_apart L_tape L_text L_fed L_length L_read L_end L_at L_fault L_d L_p L_y L_j L_o P_away P_beside P_reach P_serves P_crowds P_servedLow P_servedHigh P_crowdedLow P_crowdedHigh P_there P_must P_can C_what C_number C_before C_after C_done C_kept A_kinds A_traced A_bodies A_began A_self A_kindOfSelf S_holds S_body S_sort S_size S_elements G_grown) := by
  refine zMet_i (own := RX3) _ (by decide) rfl (Nat.le_of_ble_eq_true rfl) ?_
  intro p e s m args below meth c A ls Q hC hW hl hret
  have hx := hC.1
  have hb := hC.2.1
  have hl : lv_has ls 6 [(0, .ref (ρ 3)), (1, .int a1), (2, .int a2)] := hl
  have b54 : ∀ {x1 : Int32} {x2 : Int32} {x3 : Int32} {x4 : Int32} {x5 : Int32} {k10 : Int32 → Int32 → Int32 → Option (Int32)} (hk10 : ∀ {x3 : Int32} {x4 : Int32} {x5 : Int32} {H : Heap} {locs : List Loc} {ls : Array Slot}, k10 x3 x4 x5 = some res → zW D A s.heap (WC q ρ T_price T_year T_joinEnds T_wallEnds T_cost T_doors T_joins T_walls T_oldWells T_apart L_tape L_text L_fed L_length L_read L_end L_at L_fault L_d L_p L_y L_j L_o P_away P_beside P_reach P_serves P_crowds P_servedLow P_servedHigh P_crowdedLow P_crowdedHigh P_there P_must P_can C_what C_number C_before C_after C_done C_kept A_kinds A_traced A_bodies A_began A_self A_kindOfSelf S_holds S_body S_sort S_size S_elements G_grown) H locs → lv_has ls 6 [(0, .ref (ρ 3)), (1, .int x1), (2, .int x2), (3, .int x3), (4, .int x4), (5, .int x5)] → W p l e (zrm d) s m args below meth c H locs 0 0 Q (F0 m 10 ls [])) {H : Heap} {locs : List Loc} {ls : Array Slot}, f_X3_nearest_b54 k10 x1 x2 x3 x4 x5 P_away = some res → zW D A s.heap (WC q ρ T_price T_year T_joinEnds T_wallEnds T_cost T_doors T_joins T_walls T_oldWells T_apart L_tape L_text L_fed L_length L_read L_end L_at L_fault L_d L_p L_y L_j L_o P_away P_beside P_reach P_serves P_crowds P_servedLow P_servedHigh P_crowdedLow P_crowdedHigh P_there P_must P_can C_what C_number C_before C_after C_done C_kept A_kinds A_traced A_bodies A_began A_self A_kindOfSelf S_holds S_body S_sort S_size S_elements G_grown) H locs → lv_has ls 6 [(0, .ref (ρ 3)), (1, .int x1), (2, .int x2), (3, .int x3), (4, .int x4), (5, .int x5)] → W p l e (zrm d) s m args below meth c H locs 0 0 Q (F0 m 54 ls []) := by
    intro x1 x2 x3 x4 x5 k10 hk10 H locs ls h hW hl
    unfold f_X3_nearest_b54 at h
    refine lv_iinc (v := (x5 + 1)) (lv' := [(5, .int (x5 + 1)), (0, .ref (ρ 3)), (1, .int x1), (2, .int x2), (3, .int x3), (4, .int x4)]) hx hb dX3_nearest_54 hl (k := 5) rfl rfl (by decide) rfl (fun ls hl => ?_)
    refine lv_goto (tgt := 10) hx hb dX3_nearest_57 (by decide) ?_
    exact hk10 h hW (lv_sub hl [1, 2, 3, 4, 5, 0] rfl)
  have b10 : ∀ {x1 : Int32} {x2 : Int32} {n : Nat} {x3 : Int32} {x4 : Int32} {x5 : Int32} {H : Heap} {locs : List Loc} {ls : Array Slot}, f_X3_nearest_b10 x1 x2 P_away n x3 x4 x5 = some res → zW D A s.heap (WC q ρ T_price T_year T_joinEnds T_wallEnds T_cost T_doors T_joins T_walls T_oldWells T_apart L_tape L_text L_fed L_length L_read L_end L_at L_fault L_d L_p L_y L_j L_o P_away P_beside P_reach P_serves P_crowds P_servedLow P_servedHigh P_crowdedLow P_crowdedHigh P_there P_must P_can C_what C_number C_before C_after C_done C_kept A_kinds A_traced A_bodies A_began A_self A_kindOfSelf S_holds S_body S_sort S_size S_elements G_grown) H locs → lv_has ls 6 [(0, .ref (ρ 3)), (1, .int x1), (2, .int x2), (3, .int x3), (4, .int x4), (5, .int x5)] → W p l e (zrm d) s m args below meth c H locs 0 0 Q (F0 m 10 ls []) := by
    intro x1 x2
    intro n
    induction n with
    | zero =>
      intro x3 x4 x5 H locs ls h
      rw [f_X3_nearest_b10] at h
      cases h
    | succ n ih =>
      intro x3 x4 x5 H locs ls h hW hl
      rw [f_X3_nearest_b10] at h
      refine lv_iload hx hb dX3_nearest_10 (lv_at hl 5 rfl) ?_
      refine lv_bipush (v := 14) hx hb dX3_nearest_12 (by decide) ?_
      refine lv_icmp_ge (tgt := 60) hx hb dX3_nearest_14 (by decide) (fun c1 => ?_) (fun c1 => ?_)
      · have h := ifp c1 h
        refine lv_iload_n hx hb dX3_nearest_60 rfl (lv_at hl 3 rfl) ?_
        have h := Option.some.inj h
        subst h
        exact hret _ _ _ _ _ dX3_nearest_61 rfl rfl hW
      · have h := ifn c1 h
        refine lv_iload_n hx hb dX3_nearest_17 rfl (lv_at hl 1 rfl) ?_
        refine lv_iload hx hb dX3_nearest_18 (lv_at hl 5 rfl) ?_
        refine lv_ishr hx hb dX3_nearest_20 ?_
        refine lv_iconst (v := 1) hx hb dX3_nearest_21 (by decide) ?_
        refine lv_iand hx hb dX3_nearest_22 ?_
        refine lv_if_eq (tgt := 54) hx hb dX3_nearest_23 (by decide) (fun c2 => ?_) (fun c2 => ?_)
        · have h := ifp c2 h
          exact b54 ih h hW (lv_sub hl [0, 1, 2, 3, 4, 5] rfl)
        · have h := ifn c2 h
          refine lv_aload_n hx hb dX3_nearest_26 rfl (lv_at hl 0 rfl) ?_
          refine z_get hC hW fg_X3_13 3 WC_3 rfl dX3_nearest_27 ?_
          refine lv_iload_n hx hb dX3_nearest_30 rfl (lv_at hl 2 rfl) ?_
          obtain ⟨g3, h⟩ := ix_some h
          refine z_aaldA hC hW 15 WC_15 g3 dX3_nearest_31 ?_
          refine lv_iload hx hb dX3_nearest_32 (lv_at hl 5 rfl) ?_
          obtain ⟨g4, h⟩ := ix_some h
          refine z_iald hC hW (42 + (Int32.toNatClampNeg x2)) (WC_row (vlt g3)) g4 dX3_nearest_34 ?_
          refine lv_iload hx hb dX3_nearest_35 (lv_at hl 4 rfl) ?_
          refine lv_icmp_ge (tgt := 54) hx hb dX3_nearest_37 (by decide) (fun c5 => ?_) (fun c5 => ?_)
          · have h := ifp c5 h
            exact b54 ih h hW (lv_sub hl [0, 1, 2, 3, 4, 5] rfl)
          · have h := ifn c5 h
            refine lv_iload hx hb dX3_nearest_40 (lv_at hl 5 rfl) ?_
            refine lv_istore_n (lv' := [(3, .int x5), (0, .ref (ρ 3)), (1, .int x1), (2, .int x2), (4, .int x4), (5, .int x5)]) hx hb dX3_nearest_42 rfl hl (by decide) rfl (fun ls hl => ?_)
            refine lv_aload_n hx hb dX3_nearest_43 rfl (lv_at hl 1 rfl) ?_
            refine z_get hC hW fg_X3_13 3 WC_3 rfl dX3_nearest_44 ?_
            refine lv_iload_n hx hb dX3_nearest_47 rfl (lv_at hl 3 rfl) ?_
            obtain ⟨g6, h⟩ := ix_some h
            refine z_aaldA hC hW 15 WC_15 g6 dX3_nearest_48 ?_
            refine lv_iload hx hb dX3_nearest_49 (lv_at hl 5 rfl) ?_
            obtain ⟨g7, h⟩ := ix_some h
            refine z_iald hC hW (42 + (Int32.toNatClampNeg x2)) (WC_row (vlt g6)) g7 dX3_nearest_51 ?_
            refine lv_istore (lv' := [(4, .int (P_away (Int32.toNatClampNeg x2) (Int32.toNatClampNeg x5))), (3, .int x5), (0, .ref (ρ 3)), (1, .int x1), (2, .int x2), (5, .int x5)]) hx hb dX3_nearest_52 hl (by decide) rfl (fun ls hl => ?_)
            exact b54 ih h hW (lv_sub hl [2, 3, 4, 1, 0, 5] rfl)
  unfold f_X3_nearest at h
  refine lv_bipush (v := (-2)) hx hb dX3_nearest_0 (by decide) ?_
  refine lv_istore_n (lv' := [(3, .int (-2)), (0, .ref (ρ 3)), (1, .int a1), (2, .int a2)]) hx hb dX3_nearest_2 rfl hl (by decide) rfl (fun ls hl => ?_)
  refine lv_bipush (v := 99) hx hb dX3_nearest_3 (by decide) ?_
  refine lv_istore (lv' := [(4, .int 99), (3, .int (-2)), (0, .ref (ρ 3)), (1, .int a1), (2, .int a2)]) hx hb dX3_nearest_5 hl (by decide) rfl (fun ls hl => ?_)
  refine lv_iconst (v := 0) hx hb dX3_nearest_7 (by decide) ?_
  refine lv_istore (lv' := [(5, .int 0), (4, .int 99), (3, .int (-2)), (0, .ref (ρ 3)), (1, .int a1), (2, .int a2)]) hx hb dX3_nearest_8 hl (by decide) rfl (fun ls hl => ?_)
  exact b10 h hW (lv_sub hl [3, 4, 5, 2, 1, 0] rfl)
end CT20_c13
