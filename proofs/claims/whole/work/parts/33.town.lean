/-! joins, walls, mending, undoing -/
theorem s_areTwo (x : Int32) (n : Nat) (hn : n < 2 ^ 31) : f_X7_areTwo x (nI n) = if x < 0 then some 0 else f_X5_areUnlike (x / 100) (x - x / 100 * 100) (nI n) := by
  unfold f_X7_areTwo f_X5_areUnlike
  simp only [s_isDoor7 _ n hn, s_isDoor5]
theorem s_ends {x : Int32} {n : Nat} (hn : n ≤ 14) (hx : ¬ x < 0) (h : two_ n (x / 100) (x - x / 100 * 100)) : ∃ a b : Nat, a < n ∧ b < n ∧ a ≠ b ∧ x = nI (100 * a + b) ∧ x / 100 = nI a ∧ x - x / 100 * 100 = nI b := by
  obtain ⟨a, b, ha, hb, hab, e1, e2⟩ := h
  obtain ⟨j, hj, rfl⟩ := nI_of hx
  have h1 := e1
  have h2 := e2
  rw [L_100, pk_div hj (by decide) (by decide), eq_nI (by omega) (by omega)] at h1
  rw [L_100, pk_rem hj (by decide) (by decide), eq_nI (by omega) (by omega)] at h2
  exact ⟨a, b, ha, hb, hab, by congr 1; omega, e1, e2⟩
set_option maxHeartbeats 1000000 in
theorem pu_join {T_price : Nat → Int32} {T_year : Nat → Int32} {T_joinEnds : Nat → Int32} {T_wallEnds : Nat → Int32} {T_cost : Nat → Int32} {T_doors : Int32} {T_joins : Int32} {T_walls : Int32} {T_oldWells : Int32} {T_apart : Int32} {L_tape : Nat → Int32} {L_text : Nat → Int32} {L_fed : Int32} {L_length : Int32} {L_read : Nat} {L_end : Int32} {L_at : Int32} {L_fault : Int32} {L_d : Int32} {L_p : Int32} {L_y : Int32} {L_j : Int32} {L_o : Int32} {P_away : Nat → Nat → Int32} {P_beside : Nat → Int32} {P_reach : Nat → Int32} {P_serves : Nat → Int32} {P_crowds : Nat → Int32} {P_servedLow : Nat → Int32} {P_servedHigh : Nat → Int32} {P_crowdedLow : Nat → Int32} {P_crowdedHigh : Nat → Int32} {P_there : Int32} {P_must : Int32} {P_can : Int32} {C_what : Nat → Int32} {C_number : Nat → Int32} {C_before : Nat → Int32} {C_after : Nat → Int32} {C_done : Int32} {C_kept : Int32} {A_kinds : Nat → Int32} {A_traced : Nat → Int32} {A_bodies : Int32} {A_began : Int32} {A_self : Int32} {A_kindOfSelf : Int32} {S_holds : Nat → Int32} {S_body : Nat → Int32} {S_sort : Nat → Int32} {S_size : Nat → Int32} {S_elements : Nat → Nat → Int64} {G_grown : Nat → Int32} {M_code : Int32} {M_doors : Int32} {M_price : Nat → Int32} {M_year : Nat → Int32} {M_joins : Int32} {M_joinA : Nat → Int32} {M_joinB : Nat → Int32} {M_walls : Int32} {M_wallA : Nat → Int32} {M_wallB : Nat → Int32} {M_cost : Nat → Int32} {M_olds : Int32} {M_near : Int32} {M_doneMany : Int32} {M_undoneMany : Int32} {M_changeOf : Nat → Int32} {M_changeAt : Nat → Int32} {M_before : Nat → Int32} {M_behind : Nat → Int32} {M_tape : Nat → Int32} {M_taped : Int32} {M_here : Int32} {M_fault : Int32} {M_open : Int32} {M_laid : Int32} {M_act : Nat → Int32} {M_with : Nat → Int32} {M_lineMany : Nat → Int32} {M_testEnd : Nat → Int32} {M_lineEnd : Nat → Int32} {M_facts : Nat → Int32} {M_pile : Nat → Int32} {M_hasLaw : Int32} {M_far : Nat → Int32} {M_within : Nat → Int32} {M_tooNear : Nat → Int32} {M_dried : Int32} {M_isOn : Nat → Int32} {M_wasOn : Nat → Int32} {M_bodies : Int32} {M_kind : Nat → Int32} {M_traces : Int32} {M_traced : Nat → Int32} {M_holds : Nat → Int32} {M_size : Nat → Int32} {M_elements : Nat → Int64} {M_shifted : Nat → Int64} (hI : INV T_price T_year T_joinEnds T_wallEnds T_cost T_doors T_joins T_walls T_oldWells T_apart L_tape L_text L_fed L_length L_read L_end L_at L_fault L_d L_p L_y L_j L_o P_away P_beside P_reach P_serves P_crowds P_servedLow P_servedHigh P_crowdedLow P_crowdedHigh P_there P_must P_can C_what C_number C_before C_after C_done C_kept A_kinds A_traced A_bodies A_began A_self A_kindOfSelf S_holds S_body S_sort S_size S_elements G_grown M_code M_doors M_price M_year M_joins M_joinA M_joinB M_walls M_wallA M_wallB M_cost M_olds M_near M_doneMany M_undoneMany M_changeOf M_changeAt M_before M_behind M_tape M_taped M_here M_fault M_open M_laid M_act M_with M_lineMany M_testEnd M_lineEnd M_facts M_pile M_hasLaw M_far M_within M_tooNear M_dried M_isOn M_wasOn M_bodies M_kind M_traces M_traced M_holds M_size M_elements M_shifted) (a1 : Int32) : ∃ (rc : Int32 × (Nat → Int32) × Int32) (rm : Int32 × Int32 × (Nat → Int32) × (Nat → Int32)), f_X6_join a1 T_joinEnds T_doors T_joins = some rc ∧ f_X7_join a1 M_doors M_joins M_joinA M_joinB = some rm ∧ rc.1 = rm.1 ∧ INV T_price T_year rc.2.1 T_wallEnds T_cost T_doors rc.2.2 T_walls T_oldWells T_apart L_tape L_text L_fed L_length L_read L_end L_at L_fault L_d L_p L_y L_j L_o P_away P_beside P_reach P_serves P_crowds P_servedLow P_servedHigh P_crowdedLow P_crowdedHigh P_there P_must P_can C_what C_number C_before C_after C_done C_kept A_kinds A_traced A_bodies A_began A_self A_kindOfSelf S_holds S_body S_sort S_size S_elements G_grown M_code M_doors M_price M_year rm.2.1 rm.2.2.1 rm.2.2.2 M_walls M_wallA M_wallB M_cost M_olds M_near M_doneMany M_undoneMany M_changeOf M_changeAt M_before M_behind M_tape M_taped M_here M_fault M_open M_laid M_act M_with M_lineMany M_testEnd M_lineEnd M_facts M_pile M_hasLaw M_far M_within M_tooNear M_dried M_isOn M_wasOn M_bodies M_kind M_traces M_traced M_holds M_size M_elements M_shifted := by
  have hI0 := hI
  obtain ⟨n, kj, kw, o, v, nb, hT, hL, hC, hA, hS⟩ := hI
  obtain ⟨⟨b1, b2, b3, b4, b5⟩, ⟨rfl, rfl, rfl, rfl, e5, e6, e7, e8, e9, e10, e11⟩, hp, hy, hj, hw, hc⟩ := hT
  unfold f_X6_join f_X7_join
  rw [s_areTwo a1 n (by omega)]
  by_cases h1 : a1 < 0
  · simp only [if_pos h1, bd_of]
    exact ⟨_, _, rfl, rfl, rfl, hI0⟩
  simp only [if_neg h1]
  rcases s_areUnlike (a1 / 100) (a1 - a1 / 100 * 100) n (by omega) with ⟨g, ht⟩ | ⟨g, -⟩
  · obtain ⟨a, b, ha, hb, hab, rfl, q1, q2⟩ := s_ends b1 h1 ht
    rw [g]
    have z1 : ¬ (1 : Int32) = 0 := by decide
    simp only [bd_of, if_neg z1, L_40, lt_nI (show kj < 2 ^ 31 by omega) (show 40 < 2 ^ 31 by decide), eq_nI (show kj < 2 ^ 31 by omega) (show 40 < 2 ^ 31 by decide)]
    by_cases h3 : kj < 40
    · simp only [if_pos h3, if_neg (show ¬ kj = 40 by omega)]
      unfold f_X5_addJoin f_X7_addJoin
      simp only [ix_nI h3 (by decide), ix_nI (show kj < 41 by omega) (by decide), cl_nI (show kj < 2 ^ 31 by omega), bd_of, nI_1, nI_m1, q1, q2]
      refine ⟨_, _, rfl, rfl, rfl, n, kj + 1, kw, o, v, nb, ⟨⟨b1, by omega, b3, b4, b5⟩, ⟨rfl, rfl, rfl, rfl, e5, e6, e7, e8, e9, e10, e11⟩, hp, hy, fun i hi => ?_, hw, hc⟩, hL, hC, hA, hS⟩
      dsimp only
      by_cases h : i = kj
      · subst h
        rw [upd_eq (α := Nat), upd_eq (α := Nat), upd_eq (α := Nat)]
        exact ⟨a, b, ha, hb, hab, rfl, by rw [q1] at q2; exact q2, rfl⟩
      · rw [upd_ne h, upd_ne h, upd_ne h]
        exact hj i (by omega)
    · simp only [if_neg h3, if_pos (show kj = 40 by omega)]
      exact ⟨_, _, rfl, rfl, rfl, hI0⟩
  · rw [g]
    exact ⟨_, _, rfl, rfl, rfl, hI0⟩
set_option maxHeartbeats 1000000 in
theorem pu_wall {T_price : Nat → Int32} {T_year : Nat → Int32} {T_joinEnds : Nat → Int32} {T_wallEnds : Nat → Int32} {T_cost : Nat → Int32} {T_doors : Int32} {T_joins : Int32} {T_walls : Int32} {T_oldWells : Int32} {T_apart : Int32} {L_tape : Nat → Int32} {L_text : Nat → Int32} {L_fed : Int32} {L_length : Int32} {L_read : Nat} {L_end : Int32} {L_at : Int32} {L_fault : Int32} {L_d : Int32} {L_p : Int32} {L_y : Int32} {L_j : Int32} {L_o : Int32} {P_away : Nat → Nat → Int32} {P_beside : Nat → Int32} {P_reach : Nat → Int32} {P_serves : Nat → Int32} {P_crowds : Nat → Int32} {P_servedLow : Nat → Int32} {P_servedHigh : Nat → Int32} {P_crowdedLow : Nat → Int32} {P_crowdedHigh : Nat → Int32} {P_there : Int32} {P_must : Int32} {P_can : Int32} {C_what : Nat → Int32} {C_number : Nat → Int32} {C_before : Nat → Int32} {C_after : Nat → Int32} {C_done : Int32} {C_kept : Int32} {A_kinds : Nat → Int32} {A_traced : Nat → Int32} {A_bodies : Int32} {A_began : Int32} {A_self : Int32} {A_kindOfSelf : Int32} {S_holds : Nat → Int32} {S_body : Nat → Int32} {S_sort : Nat → Int32} {S_size : Nat → Int32} {S_elements : Nat → Nat → Int64} {G_grown : Nat → Int32} {M_code : Int32} {M_doors : Int32} {M_price : Nat → Int32} {M_year : Nat → Int32} {M_joins : Int32} {M_joinA : Nat → Int32} {M_joinB : Nat → Int32} {M_walls : Int32} {M_wallA : Nat → Int32} {M_wallB : Nat → Int32} {M_cost : Nat → Int32} {M_olds : Int32} {M_near : Int32} {M_doneMany : Int32} {M_undoneMany : Int32} {M_changeOf : Nat → Int32} {M_changeAt : Nat → Int32} {M_before : Nat → Int32} {M_behind : Nat → Int32} {M_tape : Nat → Int32} {M_taped : Int32} {M_here : Int32} {M_fault : Int32} {M_open : Int32} {M_laid : Int32} {M_act : Nat → Int32} {M_with : Nat → Int32} {M_lineMany : Nat → Int32} {M_testEnd : Nat → Int32} {M_lineEnd : Nat → Int32} {M_facts : Nat → Int32} {M_pile : Nat → Int32} {M_hasLaw : Int32} {M_far : Nat → Int32} {M_within : Nat → Int32} {M_tooNear : Nat → Int32} {M_dried : Int32} {M_isOn : Nat → Int32} {M_wasOn : Nat → Int32} {M_bodies : Int32} {M_kind : Nat → Int32} {M_traces : Int32} {M_traced : Nat → Int32} {M_holds : Nat → Int32} {M_size : Nat → Int32} {M_elements : Nat → Int64} {M_shifted : Nat → Int64} (hI : INV T_price T_year T_joinEnds T_wallEnds T_cost T_doors T_joins T_walls T_oldWells T_apart L_tape L_text L_fed L_length L_read L_end L_at L_fault L_d L_p L_y L_j L_o P_away P_beside P_reach P_serves P_crowds P_servedLow P_servedHigh P_crowdedLow P_crowdedHigh P_there P_must P_can C_what C_number C_before C_after C_done C_kept A_kinds A_traced A_bodies A_began A_self A_kindOfSelf S_holds S_body S_sort S_size S_elements G_grown M_code M_doors M_price M_year M_joins M_joinA M_joinB M_walls M_wallA M_wallB M_cost M_olds M_near M_doneMany M_undoneMany M_changeOf M_changeAt M_before M_behind M_tape M_taped M_here M_fault M_open M_laid M_act M_with M_lineMany M_testEnd M_lineEnd M_facts M_pile M_hasLaw M_far M_within M_tooNear M_dried M_isOn M_wasOn M_bodies M_kind M_traces M_traced M_holds M_size M_elements M_shifted) (a1 : Int32) (a2 : Int32) : ∃ (rc : Int32 × (Nat → Int32) × (Nat → Int32) × Int32) (rm : Int32 × Int32 × (Nat → Int32) × (Nat → Int32) × (Nat → Int32)), f_X6_wall a1 a2 T_wallEnds T_cost T_doors T_walls = some rc ∧ f_X7_wall a1 a2 M_doors M_walls M_wallA M_wallB M_cost = some rm ∧ rc.1 = rm.1 ∧ INV T_price T_year T_joinEnds rc.2.1 rc.2.2.1 T_doors T_joins rc.2.2.2 T_oldWells T_apart L_tape L_text L_fed L_length L_read L_end L_at L_fault L_d L_p L_y L_j L_o P_away P_beside P_reach P_serves P_crowds P_servedLow P_servedHigh P_crowdedLow P_crowdedHigh P_there P_must P_can C_what C_number C_before C_after C_done C_kept A_kinds A_traced A_bodies A_began A_self A_kindOfSelf S_holds S_body S_sort S_size S_elements G_grown M_code M_doors M_price M_year M_joins M_joinA M_joinB rm.2.1 rm.2.2.1 rm.2.2.2.1 rm.2.2.2.2 M_olds M_near M_doneMany M_undoneMany M_changeOf M_changeAt M_before M_behind M_tape M_taped M_here M_fault M_open M_laid M_act M_with M_lineMany M_testEnd M_lineEnd M_facts M_pile M_hasLaw M_far M_within M_tooNear M_dried M_isOn M_wasOn M_bodies M_kind M_traces M_traced M_holds M_size M_elements M_shifted := by
  have hI0 := hI
  obtain ⟨n, kj, kw, o, v, nb, hT, hL, hC, hA, hS⟩ := hI
  obtain ⟨⟨b1, b2, b3, b4, b5⟩, ⟨rfl, rfl, e3, e4, rfl, rfl, e7, e8, e9, e10, e11⟩, hp, hy, hj, hw, hc⟩ := hT
  unfold f_X6_wall f_X7_wall
  rw [s_areTwo a1 n (by omega)]
  by_cases h1 : a1 < 0
  · simp only [if_pos h1, bd_of]
    exact ⟨_, _, rfl, rfl, rfl, hI0⟩
  simp only [if_neg h1]
  rcases s_areUnlike (a1 / 100) (a1 - a1 / 100 * 100) n (by omega) with ⟨g, ht⟩ | ⟨g, -⟩
  · obtain ⟨a, b, ha, hb, hab, rfl, q1, q2⟩ := s_ends b1 h1 ht
    rw [g]
    have z1 : ¬ (1 : Int32) = 0 := by decide
    simp only [s_isWithin, s_in, bd_of, i01, if_neg z1]
    by_cases h2 : a2 < 0 ∨ 99 < a2
    · simp only [if_pos h2]
      exact ⟨_, _, rfl, rfl, rfl, hI0⟩
    simp only [if_neg h2]
    obtain ⟨p, hp9, rfl⟩ := nI_in_of (k := 99) (by decide) h2
    simp only [L_10, lt_nI (show kw < 2 ^ 31 by omega) (show 10 < 2 ^ 31 by decide), eq_nI (show kw < 2 ^ 31 by omega) (show 10 < 2 ^ 31 by decide)]
    by_cases h3 : kw < 10
    · simp only [if_pos h3, if_neg (show ¬ kw = 10 by omega)]
      unfold f_X5_addWall
      simp only [ix_nI h3 (by decide), cl_nI (show kw < 2 ^ 31 by omega), bd_of, nI_1, nI_m1, q1, q2]
      refine ⟨_, _, rfl, rfl, rfl, n, kj, kw + 1, o, v, nb, ⟨⟨b1, b2, by omega, b4, b5⟩, ⟨rfl, rfl, e3, e4, rfl, rfl, e7, e8, e9, e10, e11⟩, hp, hy, hj, fun i hi => ?_, fun i hi => ?_⟩, hL, C_grow (by omega) (by omega) hC, hA, hS⟩
      · dsimp only
        by_cases h : i = kw
        · subst h
          rw [upd_eq (α := Nat), upd_eq (α := Nat), upd_eq (α := Nat)]
          exact ⟨a, b, ha, hb, hab, rfl, by rw [q1] at q2; exact q2, rfl⟩
        · rw [upd_ne h, upd_ne h, upd_ne h]
          exact hw i (by omega)
      · dsimp only
        by_cases h : i = kw
        · subst h
          rw [upd_eq (α := Nat), upd_eq (α := Nat)]
          exact ⟨rfl, p, hp9, rfl⟩
        · rw [upd_ne h, upd_ne h]
          exact hc i (by omega)
    · simp only [if_neg h3, if_pos (show kw = 10 by omega)]
      exact ⟨_, _, rfl, rfl, rfl, hI0⟩
  · rw [g]
    exact ⟨_, _, rfl, rfl, rfl, hI0⟩
theorem nar_b (x : Int32) : vp_nar .byte (Int32.toInt8 x).toInt32 = (Int32.toInt8 x).toInt32 := pk_vb x
theorem b88 (x : Int32) : ((Int32.toInt8 x).toInt32).toInt8.toInt32 = (Int32.toInt8 x).toInt32 := by
  have h := pk_nb x
  simp only [narrow] at h
  injection h
theorem pu_feed {T_price : Nat → Int32} {T_year : Nat → Int32} {T_joinEnds : Nat → Int32} {T_wallEnds : Nat → Int32} {T_cost : Nat → Int32} {T_doors : Int32} {T_joins : Int32} {T_walls : Int32} {T_oldWells : Int32} {T_apart : Int32} {L_tape : Nat → Int32} {L_text : Nat → Int32} {L_fed : Int32} {L_length : Int32} {L_read : Nat} {L_end : Int32} {L_at : Int32} {L_fault : Int32} {L_d : Int32} {L_p : Int32} {L_y : Int32} {L_j : Int32} {L_o : Int32} {P_away : Nat → Nat → Int32} {P_beside : Nat → Int32} {P_reach : Nat → Int32} {P_serves : Nat → Int32} {P_crowds : Nat → Int32} {P_servedLow : Nat → Int32} {P_servedHigh : Nat → Int32} {P_crowdedLow : Nat → Int32} {P_crowdedHigh : Nat → Int32} {P_there : Int32} {P_must : Int32} {P_can : Int32} {C_what : Nat → Int32} {C_number : Nat → Int32} {C_before : Nat → Int32} {C_after : Nat → Int32} {C_done : Int32} {C_kept : Int32} {A_kinds : Nat → Int32} {A_traced : Nat → Int32} {A_bodies : Int32} {A_began : Int32} {A_self : Int32} {A_kindOfSelf : Int32} {S_holds : Nat → Int32} {S_body : Nat → Int32} {S_sort : Nat → Int32} {S_size : Nat → Int32} {S_elements : Nat → Nat → Int64} {G_grown : Nat → Int32} {M_code : Int32} {M_doors : Int32} {M_price : Nat → Int32} {M_year : Nat → Int32} {M_joins : Int32} {M_joinA : Nat → Int32} {M_joinB : Nat → Int32} {M_walls : Int32} {M_wallA : Nat → Int32} {M_wallB : Nat → Int32} {M_cost : Nat → Int32} {M_olds : Int32} {M_near : Int32} {M_doneMany : Int32} {M_undoneMany : Int32} {M_changeOf : Nat → Int32} {M_changeAt : Nat → Int32} {M_before : Nat → Int32} {M_behind : Nat → Int32} {M_tape : Nat → Int32} {M_taped : Int32} {M_here : Int32} {M_fault : Int32} {M_open : Int32} {M_laid : Int32} {M_act : Nat → Int32} {M_with : Nat → Int32} {M_lineMany : Nat → Int32} {M_testEnd : Nat → Int32} {M_lineEnd : Nat → Int32} {M_facts : Nat → Int32} {M_pile : Nat → Int32} {M_hasLaw : Int32} {M_far : Nat → Int32} {M_within : Nat → Int32} {M_tooNear : Nat → Int32} {M_dried : Int32} {M_isOn : Nat → Int32} {M_wasOn : Nat → Int32} {M_bodies : Int32} {M_kind : Nat → Int32} {M_traces : Int32} {M_traced : Nat → Int32} {M_holds : Nat → Int32} {M_size : Nat → Int32} {M_elements : Nat → Int64} {M_shifted : Nat → Int64} (hI : INV T_price T_year T_joinEnds T_wallEnds T_cost T_doors T_joins T_walls T_oldWells T_apart L_tape L_text L_fed L_length L_read L_end L_at L_fault L_d L_p L_y L_j L_o P_away P_beside P_reach P_serves P_crowds P_servedLow P_servedHigh P_crowdedLow P_crowdedHigh P_there P_must P_can C_what C_number C_before C_after C_done C_kept A_kinds A_traced A_bodies A_began A_self A_kindOfSelf S_holds S_body S_sort S_size S_elements G_grown M_code M_doors M_price M_year M_joins M_joinA M_joinB M_walls M_wallA M_wallB M_cost M_olds M_near M_doneMany M_undoneMany M_changeOf M_changeAt M_before M_behind M_tape M_taped M_here M_fault M_open M_laid M_act M_with M_lineMany M_testEnd M_lineEnd M_facts M_pile M_hasLaw M_far M_within M_tooNear M_dried M_isOn M_wasOn M_bodies M_kind M_traces M_traced M_holds M_size M_elements M_shifted) (a1 : Int32) : ∃ (rc : Int32 × (Nat → Int32) × Int32) (rm : Int32 × (Nat → Int32) × Int32), f_X6_feed a1 L_tape L_fed = some rc ∧ f_X7_feed a1 M_tape M_taped = some rm ∧ rc.1 = rm.1 ∧ INV T_price T_year T_joinEnds T_wallEnds T_cost T_doors T_joins T_walls T_oldWells T_apart rc.2.1 L_text rc.2.2 L_length L_read L_end L_at L_fault L_d L_p L_y L_j L_o P_away P_beside P_reach P_serves P_crowds P_servedLow P_servedHigh P_crowdedLow P_crowdedHigh P_there P_must P_can C_what C_number C_before C_after C_done C_kept A_kinds A_traced A_bodies A_began A_self A_kindOfSelf S_holds S_body S_sort S_size S_elements G_grown M_code M_doors M_price M_year M_joins M_joinA M_joinB M_walls M_wallA M_wallB M_cost M_olds M_near M_doneMany M_undoneMany M_changeOf M_changeAt M_before M_behind rm.2.1 rm.2.2 M_here M_fault M_open M_laid M_act M_with M_lineMany M_testEnd M_lineEnd M_facts M_pile M_hasLaw M_far M_within M_tooNear M_dried M_isOn M_wasOn M_bodies M_kind M_traces M_traced M_holds M_size M_elements M_shifted := by
  have hI0 := hI
  obtain ⟨n, kj, kw, o, v, nb, hT, ⟨⟨t, ht, rfl, rfl, hz⟩, hL⟩, hC, hA, hS⟩ := hI
  unfold f_X6_feed f_X7_feed
  simp only [s_isWithin, s_in, bd_of, i01]
  by_cases h1 : a1 < 0 ∨ 255 < a1
  · simp only [if_pos h1]
    exact ⟨_, _, rfl, rfl, rfl, hI0⟩
  simp only [if_neg h1, L_120, lt_nI (show t < 2 ^ 31 by omega) (show 120 < 2 ^ 31 by decide), eq_nI (show t < 2 ^ 31 by omega) (show 120 < 2 ^ 31 by decide)]
  by_cases h3 : t < 120
  · simp only [if_pos h3, if_neg (show ¬ t = 120 by omega)]
    unfold f_X2_takeByte
    simp only [ix_nI h3 (by decide), cl_nI (show t < 2 ^ 31 by omega), bd_of, nI_1, nar_b]
    refine ⟨_, _, rfl, rfl, rfl, n, kj, kw, o, v, nb, hT, ⟨⟨t + 1, by omega, rfl, rfl, fun i hi => ?_⟩, hL⟩, hC, hA, hS⟩
    dsimp only
    by_cases h : i = t
    · subst h
      rw [upd_eq (α := Nat), upd_eq (α := Nat)]
      exact ⟨rfl, b88 a1⟩
    · rw [upd_ne h, upd_ne h]
      exact hz i (by omega)
  · simp only [if_neg h3, if_pos (show t = 120 by omega)]
    exact ⟨_, _, rfl, rfl, rfl, hI0⟩
