/-! mending, undoing, redoing -/
def c_val (n kw wt x p : Nat) : Prop := (wt = 0 ∧ x < n ∧ p ≤ 99) ∨ (wt = 1 ∧ x < n ∧ p ≤ 9) ∨ (wt = 2 ∧ x < kw ∧ p ≤ 99)
set_option maxHeartbeats 1000000 in
theorem T_lays {n kj kw o v : Nat} {T_price T_year T_joinEnds T_wallEnds T_cost M_price M_year M_joinA M_joinB M_wallA M_wallB M_cost : Nat → Int32} {T_doors T_joins T_walls T_oldWells T_apart M_doors M_joins M_walls M_olds M_near M_dried : Int32}
    (h : ITown n kj kw o v T_price T_year T_joinEnds T_wallEnds T_cost T_doors T_joins T_walls T_oldWells T_apart M_doors M_price M_year M_joins M_joinA M_joinB M_walls M_wallA M_wallB M_cost M_olds M_near M_dried) {wt x p : Nat} (hv : c_val n kw wt x p) :
    ∃ (pb : Nat) (P Y K P' Y' K' : Nat → Int32), c_val n kw wt x pb ∧ f_X5_become (nI wt) (nI x) (nI p) T_price T_year T_cost = some (nI pb, P, Y, K) ∧ f_X7_valueAt (nI wt) (nI x) M_price M_year M_cost = some (nI pb) ∧ f_X7_lays (nI wt) (nI x) (nI p) M_price M_year M_cost = some (P', Y', K') ∧
      ITown n kj kw o v P Y T_joinEnds T_wallEnds K T_doors T_joins T_walls T_oldWells T_apart M_doors P' Y' M_joins M_joinA M_joinB M_walls M_wallA M_wallB K' M_olds M_near M_dried ∧
      (pb = p → ITown n kj kw o v P Y T_joinEnds T_wallEnds K T_doors T_joins T_walls T_oldWells T_apart M_doors M_price M_year M_joins M_joinA M_joinB M_walls M_wallA M_wallB M_cost M_olds M_near M_dried) := by
  obtain ⟨⟨b1, b2, b3, b4, b5⟩, he, hp, hy, hj, hw, hc⟩ := h
  unfold f_X5_become f_X7_valueAt f_X7_lays
  have z1 : ¬ nI 1 = nI 0 := by decide
  have z2 : ¬ nI 2 = nI 0 := by decide
  have z3 : ¬ nI 2 = nI 1 := by decide
  have L14 : (14 : Int32) = nI 14 := rfl
  have L10 : (10 : Int32) = nI 10 := rfl
  rcases hv with ⟨rfl, hx, hp9⟩ | ⟨rfl, hx, hp9⟩ | ⟨rfl, hx, hp9⟩
  · obtain ⟨q1, pb, q2, q3⟩ := hp x hx
    unfold f_X5_become_b27_3
    simp only [L_0, L_1, if_true, lt_nI (show x < 2 ^ 31 by omega) (show 14 < 2 ^ 31 by decide), lt_nI (show x < 2 ^ 31 by omega) (show 0 < 2 ^ 31 by decide), L14, if_neg (show ¬ x < 0 by omega), if_pos (show x < 14 by omega), ix_nI (show x < 14 by omega) (by decide), cl_nI (show x < 2 ^ 31 by omega)]
    refine ⟨pb, _, _, _, _, _, _, Or.inl ⟨rfl, hx, q2⟩, by rw [q1, q3], by rw [q3], rfl, ⟨⟨b1, b2, b3, b4, b5⟩, he, fun i hi => ?_, hy, hj, hw, hc⟩, fun e => ⟨⟨b1, b2, b3, b4, b5⟩, he, fun i hi => ?_, hy, hj, hw, hc⟩⟩
    · by_cases h : i = x
      · subst h; rw [upd_eq (α := Nat), upd_eq (α := Nat)]; exact ⟨rfl, p, hp9, rfl⟩
      · rw [upd_ne h, upd_ne h]; exact hp i hi
    · by_cases h : i = x
      · subst h; rw [upd_eq (α := Nat), q3, e]; exact ⟨rfl, p, hp9, rfl⟩
      · rw [upd_ne h]; exact hp i hi
  · obtain ⟨q1, pb, q2, q3⟩ := hy x hx
    unfold f_X5_become_b27_2
    simp only [L_0, L_1, if_neg z1, if_true, lt_nI (show x < 2 ^ 31 by omega) (show 14 < 2 ^ 31 by decide), lt_nI (show x < 2 ^ 31 by omega) (show 0 < 2 ^ 31 by decide), L14, if_neg (show ¬ x < 0 by omega), if_pos (show x < 14 by omega), ix_nI (show x < 14 by omega) (by decide), cl_nI (show x < 2 ^ 31 by omega)]
    refine ⟨pb, _, _, _, _, _, _, Or.inr (Or.inl ⟨rfl, hx, q2⟩), by rw [q1, q3], by rw [q3], rfl, ⟨⟨b1, b2, b3, b4, b5⟩, he, hp, fun i hi => ?_, hj, hw, hc⟩, fun e => ⟨⟨b1, b2, b3, b4, b5⟩, he, hp, fun i hi => ?_, hj, hw, hc⟩⟩
    · by_cases h : i = x
      · subst h; rw [upd_eq (α := Nat), upd_eq (α := Nat)]; exact ⟨rfl, p, hp9, rfl⟩
      · rw [upd_ne h, upd_ne h]; exact hy i hi
    · by_cases h : i = x
      · subst h; rw [upd_eq (α := Nat), q3, e]; exact ⟨rfl, p, hp9, rfl⟩
      · rw [upd_ne h]; exact hy i hi
  · obtain ⟨q1, pb, q2, q3⟩ := hc x hx
    unfold f_X5_become_b27
    simp only [L_0, L_1, if_neg z2, if_neg z3, lt_nI (show x < 2 ^ 31 by omega) (show 10 < 2 ^ 31 by decide), lt_nI (show x < 2 ^ 31 by omega) (show 0 < 2 ^ 31 by decide), L10, if_neg (show ¬ x < 0 by omega), if_pos (show x < 10 by omega), ix_nI (show x < 10 by omega) (by decide), cl_nI (show x < 2 ^ 31 by omega)]
    refine ⟨pb, _, _, _, _, _, _, Or.inr (Or.inr ⟨rfl, hx, q2⟩), by rw [q1, q3], by rw [q3], rfl, ⟨⟨b1, b2, b3, b4, b5⟩, he, hp, hy, hj, hw, fun i hi => ?_⟩, fun e => ⟨⟨b1, b2, b3, b4, b5⟩, he, hp, hy, hj, hw, fun i hi => ?_⟩⟩
    · by_cases h : i = x
      · subst h; rw [upd_eq (α := Nat), upd_eq (α := Nat)]; exact ⟨rfl, p, hp9, rfl⟩
      · rw [upd_ne h, upd_ne h]; exact hc i hi
    · by_cases h : i = x
      · subst h; rw [upd_eq (α := Nat), q3, e]; exact ⟨rfl, p, hp9, rfl⟩
      · rw [upd_ne h]; exact hc i hi
set_option maxHeartbeats 1000000 in
theorem pu_undo {T_price : Nat → Int32} {T_year : Nat → Int32} {T_joinEnds : Nat → Int32} {T_wallEnds : Nat → Int32} {T_cost : Nat → Int32} {T_doors : Int32} {T_joins : Int32} {T_walls : Int32} {T_oldWells : Int32} {T_apart : Int32} {L_tape : Nat → Int32} {L_text : Nat → Int32} {L_fed : Int32} {L_length : Int32} {L_read : Nat} {L_end : Int32} {L_at : Int32} {L_fault : Int32} {L_d : Int32} {L_p : Int32} {L_y : Int32} {L_j : Int32} {L_o : Int32} {P_away : Nat → Nat → Int32} {P_beside : Nat → Int32} {P_reach : Nat → Int32} {P_serves : Nat → Int32} {P_crowds : Nat → Int32} {P_servedLow : Nat → Int32} {P_servedHigh : Nat → Int32} {P_crowdedLow : Nat → Int32} {P_crowdedHigh : Nat → Int32} {P_there : Int32} {P_must : Int32} {P_can : Int32} {C_what : Nat → Int32} {C_number : Nat → Int32} {C_before : Nat → Int32} {C_after : Nat → Int32} {C_done : Int32} {C_kept : Int32} {A_kinds : Nat → Int32} {A_traced : Nat → Int32} {A_bodies : Int32} {A_began : Int32} {A_self : Int32} {A_kindOfSelf : Int32} {S_holds : Nat → Int32} {S_body : Nat → Int32} {S_sort : Nat → Int32} {S_size : Nat → Int32} {S_elements : Nat → Nat → Int64} {G_grown : Nat → Int32} {M_code : Int32} {M_doors : Int32} {M_price : Nat → Int32} {M_year : Nat → Int32} {M_joins : Int32} {M_joinA : Nat → Int32} {M_joinB : Nat → Int32} {M_walls : Int32} {M_wallA : Nat → Int32} {M_wallB : Nat → Int32} {M_cost : Nat → Int32} {M_olds : Int32} {M_near : Int32} {M_doneMany : Int32} {M_undoneMany : Int32} {M_changeOf : Nat → Int32} {M_changeAt : Nat → Int32} {M_before : Nat → Int32} {M_behind : Nat → Int32} {M_tape : Nat → Int32} {M_taped : Int32} {M_here : Int32} {M_fault : Int32} {M_open : Int32} {M_laid : Int32} {M_act : Nat → Int32} {M_with : Nat → Int32} {M_lineMany : Nat → Int32} {M_testEnd : Nat → Int32} {M_lineEnd : Nat → Int32} {M_facts : Nat → Int32} {M_pile : Nat → Int32} {M_hasLaw : Int32} {M_far : Nat → Int32} {M_within : Nat → Int32} {M_tooNear : Nat → Int32} {M_dried : Int32} {M_isOn : Nat → Int32} {M_wasOn : Nat → Int32} {M_bodies : Int32} {M_kind : Nat → Int32} {M_traces : Int32} {M_traced : Nat → Int32} {M_holds : Nat → Int32} {M_size : Nat → Int32} {M_elements : Nat → Int64} {M_shifted : Nat → Int64} (hI : INV T_price T_year T_joinEnds T_wallEnds T_cost T_doors T_joins T_walls T_oldWells T_apart L_tape L_text L_fed L_length L_read L_end L_at L_fault L_d L_p L_y L_j L_o P_away P_beside P_reach P_serves P_crowds P_servedLow P_servedHigh P_crowdedLow P_crowdedHigh P_there P_must P_can C_what C_number C_before C_after C_done C_kept A_kinds A_traced A_bodies A_began A_self A_kindOfSelf S_holds S_body S_sort S_size S_elements G_grown M_code M_doors M_price M_year M_joins M_joinA M_joinB M_walls M_wallA M_wallB M_cost M_olds M_near M_doneMany M_undoneMany M_changeOf M_changeAt M_before M_behind M_tape M_taped M_here M_fault M_open M_laid M_act M_with M_lineMany M_testEnd M_lineEnd M_facts M_pile M_hasLaw M_far M_within M_tooNear M_dried M_isOn M_wasOn M_bodies M_kind M_traces M_traced M_holds M_size M_elements M_shifted) : ∃ (rc : Int32 × (Nat → Int32) × (Nat → Int32) × (Nat → Int32) × Int32) (rm : Int32 × (Nat → Int32) × (Nat → Int32) × (Nat → Int32) × Int32 × Int32), f_X6_undo T_price T_year T_cost C_what C_number C_before C_done = some rc ∧ f_X7_undo M_price M_year M_cost M_doneMany M_undoneMany M_changeOf M_changeAt M_before = some rm ∧ rc.1 = rm.1 ∧ INV rc.2.1 rc.2.2.1 T_joinEnds T_wallEnds rc.2.2.2.1 T_doors T_joins T_walls T_oldWells T_apart L_tape L_text L_fed L_length L_read L_end L_at L_fault L_d L_p L_y L_j L_o P_away P_beside P_reach P_serves P_crowds P_servedLow P_servedHigh P_crowdedLow P_crowdedHigh P_there P_must P_can C_what C_number C_before C_after rc.2.2.2.2 C_kept A_kinds A_traced A_bodies A_began A_self A_kindOfSelf S_holds S_body S_sort S_size S_elements G_grown M_code M_doors rm.2.1 rm.2.2.1 M_joins M_joinA M_joinB M_walls M_wallA M_wallB rm.2.2.2.1 M_olds M_near rm.2.2.2.2.1 rm.2.2.2.2.2 M_changeOf M_changeAt M_before M_behind M_tape M_taped M_here M_fault M_open M_laid M_act M_with M_lineMany M_testEnd M_lineEnd M_facts M_pile M_hasLaw M_far M_within M_tooNear M_dried M_isOn M_wasOn M_bodies M_kind M_traces M_traced M_holds M_size M_elements M_shifted := by
  have hI0 := hI
  obtain ⟨n, kj, kw, o, v, nb, hT, hL, ⟨d, kp, h1, h2, rfl, rfl, rfl, rfl, hc⟩, hA, hS⟩ := hI
  unfold f_X6_undo f_X7_undo
  simp only [L_0, eq_nI (show d < 2 ^ 31 by omega) (show 0 < 2 ^ 31 by decide)]
  by_cases h3 : d = 0
  · simp only [if_pos h3]
    exact ⟨_, _, rfl, rfl, rfl, hI0⟩
  obtain ⟨e, rfl⟩ : ∃ e, d = e + 1 := ⟨d - 1, by omega⟩
  simp only [if_neg h3]
  obtain ⟨c1, c2, c3, c4, wt, x, pb, pe, f1, f2, f3, f4, f5⟩ := hc e (by omega)
  have hv : c_val n kw wt x pb := by unfold c_val; omega
  obtain ⟨pc, P, Y, K, P', Y', K', -, t1, t2, t3, t4, -⟩ := T_lays hT hv
  unfold f_X1_takeBack
  simp only [nI_m1, ix_nI (show e < 40 by omega) (by decide), cl_nI (show e < 2 ^ 31 by omega), c1, c2, c3, f1, f2, f3, t1, t3, bd_of]
  refine ⟨_, _, rfl, rfl, rfl, n, kj, kw, o, v, nb, t4, hL, ⟨e, kp, by omega, h2, rfl, rfl, rfl, ?_, hc⟩, hA, hS⟩
  dsimp only
  rw [nI_1]
  congr 1
  omega
set_option maxHeartbeats 1000000 in
theorem pu_redo {T_price : Nat → Int32} {T_year : Nat → Int32} {T_joinEnds : Nat → Int32} {T_wallEnds : Nat → Int32} {T_cost : Nat → Int32} {T_doors : Int32} {T_joins : Int32} {T_walls : Int32} {T_oldWells : Int32} {T_apart : Int32} {L_tape : Nat → Int32} {L_text : Nat → Int32} {L_fed : Int32} {L_length : Int32} {L_read : Nat} {L_end : Int32} {L_at : Int32} {L_fault : Int32} {L_d : Int32} {L_p : Int32} {L_y : Int32} {L_j : Int32} {L_o : Int32} {P_away : Nat → Nat → Int32} {P_beside : Nat → Int32} {P_reach : Nat → Int32} {P_serves : Nat → Int32} {P_crowds : Nat → Int32} {P_servedLow : Nat → Int32} {P_servedHigh : Nat → Int32} {P_crowdedLow : Nat → Int32} {P_crowdedHigh : Nat → Int32} {P_there : Int32} {P_must : Int32} {P_can : Int32} {C_what : Nat → Int32} {C_number : Nat → Int32} {C_before : Nat → Int32} {C_after : Nat → Int32} {C_done : Int32} {C_kept : Int32} {A_kinds : Nat → Int32} {A_traced : Nat → Int32} {A_bodies : Int32} {A_began : Int32} {A_self : Int32} {A_kindOfSelf : Int32} {S_holds : Nat → Int32} {S_body : Nat → Int32} {S_sort : Nat → Int32} {S_size : Nat → Int32} {S_elements : Nat → Nat → Int64} {G_grown : Nat → Int32} {M_code : Int32} {M_doors : Int32} {M_price : Nat → Int32} {M_year : Nat → Int32} {M_joins : Int32} {M_joinA : Nat → Int32} {M_joinB : Nat → Int32} {M_walls : Int32} {M_wallA : Nat → Int32} {M_wallB : Nat → Int32} {M_cost : Nat → Int32} {M_olds : Int32} {M_near : Int32} {M_doneMany : Int32} {M_undoneMany : Int32} {M_changeOf : Nat → Int32} {M_changeAt : Nat → Int32} {M_before : Nat → Int32} {M_behind : Nat → Int32} {M_tape : Nat → Int32} {M_taped : Int32} {M_here : Int32} {M_fault : Int32} {M_open : Int32} {M_laid : Int32} {M_act : Nat → Int32} {M_with : Nat → Int32} {M_lineMany : Nat → Int32} {M_testEnd : Nat → Int32} {M_lineEnd : Nat → Int32} {M_facts : Nat → Int32} {M_pile : Nat → Int32} {M_hasLaw : Int32} {M_far : Nat → Int32} {M_within : Nat → Int32} {M_tooNear : Nat → Int32} {M_dried : Int32} {M_isOn : Nat → Int32} {M_wasOn : Nat → Int32} {M_bodies : Int32} {M_kind : Nat → Int32} {M_traces : Int32} {M_traced : Nat → Int32} {M_holds : Nat → Int32} {M_size : Nat → Int32} {M_elements : Nat → Int64} {M_shifted : Nat → Int64} (hI : INV T_price T_year T_joinEnds T_wallEnds T_cost T_doors T_joins T_walls T_oldWells T_apart L_tape L_text L_fed L_length L_read L_end L_at L_fault L_d L_p L_y L_j L_o P_away P_beside P_reach P_serves P_crowds P_servedLow P_servedHigh P_crowdedLow P_crowdedHigh P_there P_must P_can C_what C_number C_before C_after C_done C_kept A_kinds A_traced A_bodies A_began A_self A_kindOfSelf S_holds S_body S_sort S_size S_elements G_grown M_code M_doors M_price M_year M_joins M_joinA M_joinB M_walls M_wallA M_wallB M_cost M_olds M_near M_doneMany M_undoneMany M_changeOf M_changeAt M_before M_behind M_tape M_taped M_here M_fault M_open M_laid M_act M_with M_lineMany M_testEnd M_lineEnd M_facts M_pile M_hasLaw M_far M_within M_tooNear M_dried M_isOn M_wasOn M_bodies M_kind M_traces M_traced M_holds M_size M_elements M_shifted) : ∃ (rc : Int32 × (Nat → Int32) × (Nat → Int32) × (Nat → Int32) × Int32) (rm : Int32 × (Nat → Int32) × (Nat → Int32) × (Nat → Int32) × Int32 × Int32), f_X6_redo T_price T_year T_cost C_what C_number C_after C_done C_kept = some rc ∧ f_X7_redo M_price M_year M_cost M_doneMany M_undoneMany M_changeOf M_changeAt M_behind = some rm ∧ rc.1 = rm.1 ∧ INV rc.2.1 rc.2.2.1 T_joinEnds T_wallEnds rc.2.2.2.1 T_doors T_joins T_walls T_oldWells T_apart L_tape L_text L_fed L_length L_read L_end L_at L_fault L_d L_p L_y L_j L_o P_away P_beside P_reach P_serves P_crowds P_servedLow P_servedHigh P_crowdedLow P_crowdedHigh P_there P_must P_can C_what C_number C_before C_after rc.2.2.2.2 C_kept A_kinds A_traced A_bodies A_began A_self A_kindOfSelf S_holds S_body S_sort S_size S_elements G_grown M_code M_doors rm.2.1 rm.2.2.1 M_joins M_joinA M_joinB M_walls M_wallA M_wallB rm.2.2.2.1 M_olds M_near rm.2.2.2.2.1 rm.2.2.2.2.2 M_changeOf M_changeAt M_before M_behind M_tape M_taped M_here M_fault M_open M_laid M_act M_with M_lineMany M_testEnd M_lineEnd M_facts M_pile M_hasLaw M_far M_within M_tooNear M_dried M_isOn M_wasOn M_bodies M_kind M_traces M_traced M_holds M_size M_elements M_shifted := by
  have hI0 := hI
  obtain ⟨n, kj, kw, o, v, nb, hT, hL, ⟨d, kp, h1, h2, rfl, rfl, rfl, rfl, hc⟩, hA, hS⟩ := hI
  unfold f_X6_redo f_X7_redo
  simp only [L_0, eq_nI (show d < 2 ^ 31 by omega) (show kp < 2 ^ 31 by omega), eq_nI (show kp - d < 2 ^ 31 by omega) (show 0 < 2 ^ 31 by decide)]
  by_cases h3 : d = kp
  · simp only [if_pos h3, if_pos (show kp - d = 0 by omega)]
    exact ⟨_, _, rfl, rfl, rfl, hI0⟩
  simp only [if_neg h3, if_neg (show ¬ kp - d = 0 by omega)]
  obtain ⟨c1, c2, c3, c4, wt, x, pb, pe, f1, f2, f3, f4, f5⟩ := hc d (by omega)
  have hv : c_val n kw wt x pe := by unfold c_val; omega
  obtain ⟨pc, P, Y, K, P', Y', K', -, t1, t2, t3, t4, -⟩ := T_lays hT hv
  unfold f_X1_doAgain
  have e1 : nI (kp - d) - 1 = nI (kp - (d + 1)) := by rw [show kp - d = (kp - (d + 1)) + 1 by omega, nI_m1]
  have e2 : nI kp - (nI d + 1) = nI (kp - (d + 1)) := by rw [nI_1, pk_sub (by omega)]
  simp only [ix_nI (show d < 40 by omega) (by decide), cl_nI (show d < 2 ^ 31 by omega), c1, c2, c4, f1, f2, f4, t1, t3, bd_of, e1, e2]
  exact ⟨_, _, rfl, rfl, rfl, n, kj, kw, o, v, nb, t4, hL, ⟨d + 1, kp, by omega, h2, nI_1 d, nI_1 d, rfl, rfl, hc⟩, hA, hS⟩
