/-! shifting, telling the kind -/
theorem s_under : ∀ p, p < 8 → ∀ q, q < 8 → ∃ r, f_X0_isUnder (nI p) (nI q) = some r ∧ f_X7_isUnder (nI p) (nI q) = some r := by
  have h : ∀ p, p < 8 → ∀ q, q < 8 → (f_X0_isUnder (nI p) (nI q)).isSome = true ∧ f_X0_isUnder (nI p) (nI q) = f_X7_isUnder (nI p) (nI q) := by decide +kernel
  intro p hp q hq
  obtain ⟨h1, h2⟩ := h p hp q hq
  obtain ⟨r, hr⟩ := Option.isSome_iff_exists.mp h1
  exact ⟨r, hr, by rw [← h2]; exact hr⟩
set_option maxHeartbeats 1000000 in
theorem pu_taken {T_price : Nat → Int32} {T_year : Nat → Int32} {T_joinEnds : Nat → Int32} {T_wallEnds : Nat → Int32} {T_cost : Nat → Int32} {T_doors : Int32} {T_joins : Int32} {T_walls : Int32} {T_oldWells : Int32} {T_apart : Int32} {L_tape : Nat → Int32} {L_text : Nat → Int32} {L_fed : Int32} {L_length : Int32} {L_read : Nat} {L_end : Int32} {L_at : Int32} {L_fault : Int32} {L_d : Int32} {L_p : Int32} {L_y : Int32} {L_j : Int32} {L_o : Int32} {P_away : Nat → Nat → Int32} {P_beside : Nat → Int32} {P_reach : Nat → Int32} {P_serves : Nat → Int32} {P_crowds : Nat → Int32} {P_servedLow : Nat → Int32} {P_servedHigh : Nat → Int32} {P_crowdedLow : Nat → Int32} {P_crowdedHigh : Nat → Int32} {P_there : Int32} {P_must : Int32} {P_can : Int32} {C_what : Nat → Int32} {C_number : Nat → Int32} {C_before : Nat → Int32} {C_after : Nat → Int32} {C_done : Int32} {C_kept : Int32} {A_kinds : Nat → Int32} {A_traced : Nat → Int32} {A_bodies : Int32} {A_began : Int32} {A_self : Int32} {A_kindOfSelf : Int32} {S_holds : Nat → Int32} {S_body : Nat → Int32} {S_sort : Nat → Int32} {S_size : Nat → Int32} {S_elements : Nat → Nat → Int64} {G_grown : Nat → Int32} {M_code : Int32} {M_doors : Int32} {M_price : Nat → Int32} {M_year : Nat → Int32} {M_joins : Int32} {M_joinA : Nat → Int32} {M_joinB : Nat → Int32} {M_walls : Int32} {M_wallA : Nat → Int32} {M_wallB : Nat → Int32} {M_cost : Nat → Int32} {M_olds : Int32} {M_near : Int32} {M_doneMany : Int32} {M_undoneMany : Int32} {M_changeOf : Nat → Int32} {M_changeAt : Nat → Int32} {M_before : Nat → Int32} {M_behind : Nat → Int32} {M_tape : Nat → Int32} {M_taped : Int32} {M_here : Int32} {M_fault : Int32} {M_open : Int32} {M_laid : Int32} {M_act : Nat → Int32} {M_with : Nat → Int32} {M_lineMany : Nat → Int32} {M_testEnd : Nat → Int32} {M_lineEnd : Nat → Int32} {M_facts : Nat → Int32} {M_pile : Nat → Int32} {M_hasLaw : Int32} {M_far : Nat → Int32} {M_within : Nat → Int32} {M_tooNear : Nat → Int32} {M_dried : Int32} {M_isOn : Nat → Int32} {M_wasOn : Nat → Int32} {M_bodies : Int32} {M_kind : Nat → Int32} {M_traces : Int32} {M_traced : Nat → Int32} {M_holds : Nat → Int32} {M_size : Nat → Int32} {M_elements : Nat → Int64} {M_shifted : Nat → Int64} (hI : INV T_price T_year T_joinEnds T_wallEnds T_cost T_doors T_joins T_walls T_oldWells T_apart L_tape L_text L_fed L_length L_read L_end L_at L_fault L_d L_p L_y L_j L_o P_away P_beside P_reach P_serves P_crowds P_servedLow P_servedHigh P_crowdedLow P_crowdedHigh P_there P_must P_can C_what C_number C_before C_after C_done C_kept A_kinds A_traced A_bodies A_began A_self A_kindOfSelf S_holds S_body S_sort S_size S_elements G_grown M_code M_doors M_price M_year M_joins M_joinA M_joinB M_walls M_wallA M_wallB M_cost M_olds M_near M_doneMany M_undoneMany M_changeOf M_changeAt M_before M_behind M_tape M_taped M_here M_fault M_open M_laid M_act M_with M_lineMany M_testEnd M_lineEnd M_facts M_pile M_hasLaw M_far M_within M_tooNear M_dried M_isOn M_wasOn M_bodies M_kind M_traces M_traced M_holds M_size M_elements M_shifted) (a1 : Int32) (a2 : Int32) : ∃ (rc : Int32) (rm : Int32), f_X6_taken a1 a2 A_kinds A_bodies S_holds S_body = some rc ∧ f_X7_taken a1 a2 M_kind M_holds = some rm ∧ rc = rm ∧ INV T_price T_year T_joinEnds T_wallEnds T_cost T_doors T_joins T_walls T_oldWells T_apart L_tape L_text L_fed L_length L_read L_end L_at L_fault L_d L_p L_y L_j L_o P_away P_beside P_reach P_serves P_crowds P_servedLow P_servedHigh P_crowdedLow P_crowdedHigh P_there P_must P_can C_what C_number C_before C_after C_done C_kept A_kinds A_traced A_bodies A_began A_self A_kindOfSelf S_holds S_body S_sort S_size S_elements G_grown M_code M_doors M_price M_year M_joins M_joinA M_joinB M_walls M_wallA M_wallB M_cost M_olds M_near M_doneMany M_undoneMany M_changeOf M_changeAt M_before M_behind M_tape M_taped M_here M_fault M_open M_laid M_act M_with M_lineMany M_testEnd M_lineEnd M_facts M_pile M_hasLaw M_far M_within M_tooNear M_dried M_isOn M_wasOn M_bodies M_kind M_traces M_traced M_holds M_size M_elements M_shifted := by
  have hI0 := hI
  obtain ⟨n, kj, kw, o, v, nb, hT, hL, hC, hA, hS⟩ := hI
  obtain ⟨hb, rfl, rfl, hk, hr⟩ := hA
  unfold f_X6_taken f_X7_taken
  have e8 := le_lt_nI a2 7 (by decide)
  have e7 : (7 : Int32) = nI 7 := rfl
  simp only [s_isShelf6, s_isShelf7, s_isKind, s_in, bd_of, i01, e8, e7]
  by_cases h1 : a1 < 0 ∨ nI 6 ≤ a1
  · simp only [if_pos h1]
    exact ⟨_, _, rfl, rfl, rfl, hI0⟩
  simp only [if_neg h1]
  obtain ⟨x, hx, rfl⟩ := nI_lt_of (k := 6) (by decide) h1
  by_cases h2 : a2 < 0 ∨ nI 7 < a2
  · simp only [if_pos h2]
    exact ⟨_, _, rfl, rfl, rfl, hI0⟩
  simp only [if_neg h2]
  obtain ⟨q, hq, rfl⟩ := nI_in_of (k := 7) (by decide) h2
  simp only [ix_nI hx (by decide), cl_nI (show x < 2 ^ 31 by omega)]
  have z2 : ¬ (2 : Int32) = 0 := by decide
  have z3 : ¬ (1 : Int32) = 0 := by decide
  have z4 : ¬ (2 : Int32) = 1 := by decide
  rcases hS x hx with ⟨g1, g2⟩ | ⟨g1, p, hp, g2, g3⟩ | ⟨g1, t, k, ht, hkk, g2, g3, g4, g5, g6⟩
  · simp only [g1, g2, if_true]
    exact ⟨_, _, rfl, rfl, rfl, hI0⟩
  · have n1 : ¬ nI p = -1 := by
      intro e
      have := nI_pos (n := p) (by omega)
      rw [e] at this
      exact this (by decide)
    obtain ⟨kd, w, hw, e⟩ := hk p hp
    obtain ⟨r, r1, r2⟩ := s_under w (by omega) q (by omega)
    simp only [g1, g2, g3, if_neg z3, if_true, if_neg n1, if_neg (nI_pos (n := p) (by omega)), lt_nI (show p < 2 ^ 31 by omega) (show nb < 2 ^ 31 by omega), if_pos hp, ix_nI (show p < 50 by omega) (by decide), cl_nI (show p < 2 ^ 31 by omega), kd, e, r1, r2, bd_of]
    by_cases h0 : r = 0
    · simp only [if_pos h0]
      exact ⟨_, _, rfl, rfl, rfl, hI0⟩
    · simp only [if_neg h0]
      exact ⟨_, _, rfl, rfl, rfl, hI0⟩
  · obtain ⟨-, n1, n2, -⟩ := neg2 t ht
    simp only [g1, g3, if_neg z2, if_neg z4, if_neg n2, if_pos n1]
    exact ⟨_, _, rfl, rfl, rfl, hI0⟩
theorem s_sub {a c : Nat} (ha : a ≤ 60) (hc : c < 2 ^ 31) : (nI a - nI c).toInt = (a : Int) - c := by
  rw [Int32.toInt_sub, nI_toInt (by omega), nI_toInt hc]
  exact Int.bmod_eq_of_le (by omega) (by omega)
theorem s_run {k c q : Nat} (hk : k ≤ 60) (hc : c < 2 ^ 31) (hq : q < 2 ^ 31) : (nI k - nI c < nI q) = (k < c + q) := by
  rw [Int32.lt_iff_toInt_lt, s_sub hk hc, nI_toInt hq]
  apply propext
  omega
theorem s_run2 {k c q : Nat} (hk : k ≤ 60) (hc : c < 2 ^ 31) (hq : q < 2 ^ 31) : (nI q ≤ nI k - nI c) = (c + q ≤ k) := by
  rw [Int32.le_iff_toInt_le, s_sub hk hc, nI_toInt hq]
  apply propext
  omega
theorem s_hasRun {S_size : Nat → Int32} {x k : Nat} (hs : S_size x = nI k) (hk : k ≤ 60) (a c : Int32) : f_X4_hasRun x a c S_size = some (if (c < 0 ∨ a < 0 ∨ nI k - c < a) then 0 else 1) := by
  unfold f_X4_hasRun
  rw [hs]
  by_cases h1 : c < 0
  · simp [h1]
  by_cases h2 : a < 0
  · simp [h1, h2]
  obtain ⟨c, hc, rfl⟩ := nI_of h1
  obtain ⟨q, hq, rfl⟩ := nI_of h2
  simp only [h1, h2, if_false, false_or, lt_nI (show k < 2 ^ 31 by omega) hc, s_run hk hc hq]
  by_cases h3 : k < c
  · have h5 : k < c + q := by omega
    simp [h3, h5]
  · by_cases h4 : k < c + q
    · simp [h3, h4]
    · simp [h3, h4]
theorem s_sh2 (x3 q3 c : Nat) (hx : x3 < 6) (hq : q3 + c ≤ 60) (Sh : Nat → Int64) : ∀ (r k m : Nat) (E : Nat → Int64), r + m = c → k ≥ r + 1 →
    ∃ E', f_X7_shift_b150 (nI x3) (nI q3) (nI c) Sh k (nI m) E = some (nI c, E', Sh) ∧ (∀ i, m ≤ i → i < c → E' (60 * x3 + q3 + i) = Sh i) ∧ (∀ j, (j < 60 * x3 + q3 + m ∨ 60 * x3 + q3 + c ≤ j) → E' j = E j)
  | 0, k + 1, m, E, h, hk => by
    have e : m = c := by omega
    subst e
    refine ⟨E, ?_, fun i h1 h2 => by omega, fun _ _ => rfl⟩
    rw [f_X7_shift_b150, if_pos]
    rw [le_nI (by omega) (by omega)]
    omega
  | r + 1, k + 1, m, E, h, hk => by
    obtain ⟨E', g, g2, g3⟩ := s_sh2 x3 q3 c hx hq Sh r k (m + 1) (vp_updL E (60 * x3 + q3 + m) (Sh m)) (by omega) (by omega)
    refine ⟨E', ?_, ?_, ?_⟩
    · rw [f_X7_shift_b150, if_neg (by rw [le_nI (by omega) (by omega)]; omega)]
      simp only [L_60, pk_mul, nI_add, ix_nI (show m < 60 by omega) (by decide), ix_nI (show 60 * x3 + q3 + m < 360 by omega) (by decide), cl_nI (show m < 2 ^ 31 by omega), cl_nI (show 60 * x3 + q3 + m < 2 ^ 31 by omega), nI_1]
      exact g
    · intro i h1 h2
      by_cases e : i = m
      · subst e
        rw [g3 _ (by omega), pk_uLs]
      · exact g2 i (by omega) h2
    · intro j h1
      rw [g3 j (by omega), pk_uLn (by omega)]
  | _, 0, _, _, _, hk => by omega
theorem s_sh1 (x1 q1 x3 q3 c : Nat) (hx : x1 < 6) (hq : q1 + c ≤ 60) (E : Nat → Int64) : ∀ (r k m : Nat) (Sh : Nat → Int64), r + m = c → k ≥ r + 1 →
    ∃ Sh', f_X7_shift_b113 (nI x1) (nI q1) (nI x3) (nI q3) (nI c) E k (nI m) Sh = f_X7_shift_b150 (nI x3) (nI q3) (nI c) Sh' fuel 0 E ∧ (∀ i, m ≤ i → i < c → Sh' i = E (60 * x1 + q1 + i)) ∧ (∀ i, i < m → Sh' i = Sh i)
  | 0, k + 1, m, Sh, h, hk => by
    have e : m = c := by omega
    subst e
    refine ⟨Sh, ?_, fun i h1 h2 => by omega, fun _ _ => rfl⟩
    rw [f_X7_shift_b113, if_pos]
    rw [le_nI (by omega) (by omega)]
    omega
  | r + 1, k + 1, m, Sh, h, hk => by
    obtain ⟨Sh', g, g2, g3⟩ := s_sh1 x1 q1 x3 q3 c hx hq E r k (m + 1) (vp_updL Sh m (E (60 * x1 + q1 + m))) (by omega) (by omega)
    refine ⟨Sh', ?_, ?_, ?_⟩
    · rw [f_X7_shift_b113, if_neg (by rw [le_nI (by omega) (by omega)]; omega)]
      simp only [L_60, pk_mul, nI_add, ix_nI (show m < 60 by omega) (by decide), ix_nI (show 60 * x1 + q1 + m < 360 by omega) (by decide), cl_nI (show m < 2 ^ 31 by omega), cl_nI (show 60 * x1 + q1 + m < 2 ^ 31 by omega), nI_1]
      exact g
    · intro i h1 h2
      by_cases e : i = m
      · subst e
        rw [g3 _ (by omega), pk_uLs]
      · exact g2 i (by omega) h2
    · intro i h1
      rw [g3 i (by omega), pk_uLn (by omega)]
  | _, 0, _, _, _, hk => by omega

set_option maxHeartbeats 1000000 in
theorem pu_shift {T_price : Nat → Int32} {T_year : Nat → Int32} {T_joinEnds : Nat → Int32} {T_wallEnds : Nat → Int32} {T_cost : Nat → Int32} {T_doors : Int32} {T_joins : Int32} {T_walls : Int32} {T_oldWells : Int32} {T_apart : Int32} {L_tape : Nat → Int32} {L_text : Nat → Int32} {L_fed : Int32} {L_length : Int32} {L_read : Nat} {L_end : Int32} {L_at : Int32} {L_fault : Int32} {L_d : Int32} {L_p : Int32} {L_y : Int32} {L_j : Int32} {L_o : Int32} {P_away : Nat → Nat → Int32} {P_beside : Nat → Int32} {P_reach : Nat → Int32} {P_serves : Nat → Int32} {P_crowds : Nat → Int32} {P_servedLow : Nat → Int32} {P_servedHigh : Nat → Int32} {P_crowdedLow : Nat → Int32} {P_crowdedHigh : Nat → Int32} {P_there : Int32} {P_must : Int32} {P_can : Int32} {C_what : Nat → Int32} {C_number : Nat → Int32} {C_before : Nat → Int32} {C_after : Nat → Int32} {C_done : Int32} {C_kept : Int32} {A_kinds : Nat → Int32} {A_traced : Nat → Int32} {A_bodies : Int32} {A_began : Int32} {A_self : Int32} {A_kindOfSelf : Int32} {S_holds : Nat → Int32} {S_body : Nat → Int32} {S_sort : Nat → Int32} {S_size : Nat → Int32} {S_elements : Nat → Nat → Int64} {G_grown : Nat → Int32} {M_code : Int32} {M_doors : Int32} {M_price : Nat → Int32} {M_year : Nat → Int32} {M_joins : Int32} {M_joinA : Nat → Int32} {M_joinB : Nat → Int32} {M_walls : Int32} {M_wallA : Nat → Int32} {M_wallB : Nat → Int32} {M_cost : Nat → Int32} {M_olds : Int32} {M_near : Int32} {M_doneMany : Int32} {M_undoneMany : Int32} {M_changeOf : Nat → Int32} {M_changeAt : Nat → Int32} {M_before : Nat → Int32} {M_behind : Nat → Int32} {M_tape : Nat → Int32} {M_taped : Int32} {M_here : Int32} {M_fault : Int32} {M_open : Int32} {M_laid : Int32} {M_act : Nat → Int32} {M_with : Nat → Int32} {M_lineMany : Nat → Int32} {M_testEnd : Nat → Int32} {M_lineEnd : Nat → Int32} {M_facts : Nat → Int32} {M_pile : Nat → Int32} {M_hasLaw : Int32} {M_far : Nat → Int32} {M_within : Nat → Int32} {M_tooNear : Nat → Int32} {M_dried : Int32} {M_isOn : Nat → Int32} {M_wasOn : Nat → Int32} {M_bodies : Int32} {M_kind : Nat → Int32} {M_traces : Int32} {M_traced : Nat → Int32} {M_holds : Nat → Int32} {M_size : Nat → Int32} {M_elements : Nat → Int64} {M_shifted : Nat → Int64} (hI : INV T_price T_year T_joinEnds T_wallEnds T_cost T_doors T_joins T_walls T_oldWells T_apart L_tape L_text L_fed L_length L_read L_end L_at L_fault L_d L_p L_y L_j L_o P_away P_beside P_reach P_serves P_crowds P_servedLow P_servedHigh P_crowdedLow P_crowdedHigh P_there P_must P_can C_what C_number C_before C_after C_done C_kept A_kinds A_traced A_bodies A_began A_self A_kindOfSelf S_holds S_body S_sort S_size S_elements G_grown M_code M_doors M_price M_year M_joins M_joinA M_joinB M_walls M_wallA M_wallB M_cost M_olds M_near M_doneMany M_undoneMany M_changeOf M_changeAt M_before M_behind M_tape M_taped M_here M_fault M_open M_laid M_act M_with M_lineMany M_testEnd M_lineEnd M_facts M_pile M_hasLaw M_far M_within M_tooNear M_dried M_isOn M_wasOn M_bodies M_kind M_traces M_traced M_holds M_size M_elements M_shifted) (a1 : Int32) (a2 : Int32) (a3 : Int32) (a4 : Int32) (a5 : Int32) : ∃ (rc : Int32 × (Nat → Nat → Int64)) (rm : Int32 × (Nat → Int64) × (Nat → Int64)), f_X6_shift a1 a2 a3 a4 a5 S_holds S_sort S_size S_elements = some rc ∧ f_X7_shift a1 a2 a3 a4 a5 M_holds M_size M_elements M_shifted = some rm ∧ rc.1 = rm.1 ∧ INV T_price T_year T_joinEnds T_wallEnds T_cost T_doors T_joins T_walls T_oldWells T_apart L_tape L_text L_fed L_length L_read L_end L_at L_fault L_d L_p L_y L_j L_o P_away P_beside P_reach P_serves P_crowds P_servedLow P_servedHigh P_crowdedLow P_crowdedHigh P_there P_must P_can C_what C_number C_before C_after C_done C_kept A_kinds A_traced A_bodies A_began A_self A_kindOfSelf S_holds S_body S_sort S_size rc.2 G_grown M_code M_doors M_price M_year M_joins M_joinA M_joinB M_walls M_wallA M_wallB M_cost M_olds M_near M_doneMany M_undoneMany M_changeOf M_changeAt M_before M_behind M_tape M_taped M_here M_fault M_open M_laid M_act M_with M_lineMany M_testEnd M_lineEnd M_facts M_pile M_hasLaw M_far M_within M_tooNear M_dried M_isOn M_wasOn M_bodies M_kind M_traces M_traced M_holds M_size rm.2.1 rm.2.2 := by
  have hI0 := hI
  obtain ⟨n, kj, kw, o, v, nb, hT, hL, hC, hA, hS⟩ := hI
  have hb := hA.1
  unfold f_X6_shift f_X7_shift
  simp only [s_isShelf6, s_isShelf7, bd_of, i01]
  by_cases h1 : a1 < 0 ∨ nI 6 ≤ a1
  · simp only [if_pos h1]
    exact ⟨_, _, rfl, rfl, rfl, hI0⟩
  by_cases h2 : a3 < 0 ∨ nI 6 ≤ a3
  · simp only [if_neg h1, if_pos h2]
    exact ⟨_, _, rfl, rfl, rfl, hI0⟩
  simp only [if_neg h1, if_neg h2]
  obtain ⟨x, hx, rfl⟩ := nI_lt_of (k := 6) (by decide) h1
  obtain ⟨y, hy, rfl⟩ := nI_lt_of (k := 6) (by decide) h2
  unfold f_X4_isRowOf
  simp only [ix_nI hx (by decide), cl_nI (show x < 2 ^ 31 by omega), ix_nI hy (by decide), cl_nI (show y < 2 ^ 31 by omega)]
  have z2 : ¬ (2 : Int32) = 0 := by decide
  have z3 : ¬ (1 : Int32) = 0 := by decide
  have z4 : ¬ (1 : Int32) = 2 := by decide
  have pm : ∀ p, p < nb → ¬ nI p = -1 := by
    intro p hp e
    have := nI_pos (n := p) (by omega)
    rw [e] at this
    exact this (by decide)
  rcases hS x hx with ⟨g1, g2⟩ | ⟨g1, p, hp, g2, g3⟩ | ⟨g1, t, k, ht, hk, g2, g3, g4, g5, g6⟩
  · simp only [g1, g2, if_true]
    exact ⟨_, _, rfl, rfl, rfl, hI0⟩
  · rcases hS y hy with ⟨r1, r2⟩ | ⟨r1, p', hp', r2, r3⟩ | ⟨r1, t', k', ht', hk', r2, r3, r4, r5, r6⟩
    · simp only [g1, g3, if_neg z3, if_neg (pm p hp), r1, r2, if_true]
      exact ⟨_, _, rfl, rfl, rfl, hI0⟩
    · simp only [g1, g3, if_neg z3, if_neg z4, if_neg (pm p hp), r1, r3, if_neg (pm p' hp'), if_pos (nI_pos' (n := p) (by omega))]
      exact ⟨_, _, rfl, rfl, rfl, hI0⟩
    · obtain ⟨-, n1, n2, -⟩ := neg2 t' ht'
      simp only [g1, g3, if_neg z3, if_neg z4, if_neg z2, if_neg (pm p hp), r1, r3, if_neg n2, if_pos (nI_pos' (n := p) (by omega))]
      exact ⟨_, _, rfl, rfl, rfl, hI0⟩
  · obtain ⟨-, m1, m2, m3⟩ := neg2 t ht
    rcases hS y hy with ⟨r1, r2⟩ | ⟨r1, p', hp', r2, r3⟩ | ⟨r1, t', k', ht', hk', r2, r3, r4, r5, r6⟩
    · simp only [g1, g3, if_neg z2, if_neg m2, r1, r2, if_true]
      exact ⟨_, _, rfl, rfl, rfl, hI0⟩
    · have q1 : ¬ (-2 - nI t) = nI p' := by
        intro e
        rw [e] at m1
        exact nI_pos (n := p') (by omega) m1
      simp only [g1, g3, if_neg z2, if_neg z3, if_neg z4, if_neg m2, if_neg m3, if_true, r1, r3, if_neg (pm p' hp'), if_neg q1, bd_of]
      exact ⟨_, _, rfl, rfl, rfl, hI0⟩
    · obtain ⟨-, n1, n2, -⟩ := neg2 t' ht'
      simp only [g1, g3, if_neg z2, if_neg m2, if_neg m3, if_true, r1, r3, if_neg n2, g2, r2, bd_of]
      by_cases ett : t = t'
      · subst ett
        simp only [if_true, s_hasRun g4 hk, s_hasRun r4 hk', bd_of, if_neg z3, i01, g5, r5]
        by_cases h3 : a5 < 0
        · simp only [if_pos h3, if_pos (show a5 < 0 ∨ a2 < 0 ∨ nI k - a5 < a2 from Or.inl h3)]
          exact ⟨_, _, rfl, rfl, rfl, hI0⟩
        by_cases h4 : a2 < 0
        · simp only [if_neg h3, if_pos h4, if_pos (show a5 < 0 ∨ a2 < 0 ∨ nI k - a5 < a2 from Or.inr (Or.inl h4))]
          exact ⟨_, _, rfl, rfl, rfl, hI0⟩
        obtain ⟨c, hc, rfl⟩ := nI_of h3
        obtain ⟨q, hq, rfl⟩ := nI_of h4
        simp only [if_neg h3, if_neg h4, h3, h4, false_or, s_run hk hc hq]
        by_cases h5 : a4 < 0
        · simp only [if_pos h5, true_or, if_true]
          by_cases h6 : k < c + q
          · simp only [if_pos h6]
            exact ⟨_, _, rfl, rfl, rfl, hI0⟩
          · simp only [if_neg h6, if_pos (show a4 < 0 ∨ nI k' - nI c < a4 from Or.inl h5)]
            exact ⟨_, _, rfl, rfl, rfl, hI0⟩
        obtain ⟨w, hw, rfl⟩ := nI_of h5
        simp only [h5, if_false, false_or, s_run hk' hc hw, s_run2 hk' hc hw]
        by_cases h6 : k < c + q
        · simp only [if_pos h6]
          exact ⟨_, _, rfl, rfl, rfl, hI0⟩
        by_cases h7 : k' < c + w
        · simp only [if_neg h6, if_pos h7, if_neg (show ¬ c + w ≤ k' by omega)]
          exact ⟨_, _, rfl, rfl, rfl, hI0⟩
        simp only [if_neg h6, if_neg h7, if_pos (show c + w ≤ k' by omega)]
        obtain ⟨Sh', s1, s2, s3⟩ := s_sh1 x q y w c hx (by omega) M_elements c fuel 0 M_shifted (by omega) (by unfold fuel; omega)
        obtain ⟨E', u1, u2, u3⟩ := s_sh2 y w c hy (by omega) Sh' c fuel 0 M_elements (by omega) (by unfold fuel; omega)
        have cp : ∀ {α : Type} (z : Option α), cpg (nI q) (nI w) (nI c) 60 60 (fun _ => 0) false z = z := by
          intro α z
          unfold cpg
          rw [if_pos ⟨⟨⟨h4, h5, h3⟩, by rw [cl_nI hq, cl_nI hc]; omega, by rw [cl_nI hw, cl_nI hc]; omega⟩, fun e => by cases e⟩]
        have s1' : f_X7_shift_b113 (nI x) (nI q) (nI y) (nI w) (nI c) M_elements fuel 0 M_shifted = f_X7_shift_b150 (nI y) (nI w) (nI c) Sh' fuel 0 M_elements := s1
        have u1' : f_X7_shift_b150 (nI y) (nI w) (nI c) Sh' fuel 0 M_elements = some (nI c, E', Sh') := u1
        rw [s1', u1', cp]
        refine ⟨_, _, rfl, rfl, rfl, n, kj, kw, o, v, nb, hT, hL, hC, hA, fun j hj => ?_⟩
        simp only [cl_nI hq, cl_nI hw, cl_nI hc]
        have key : (∀ i, i < 60 → S_elements j i = M_elements (60 * j + i)) → ∀ i, i < 60 → updR S_elements y (va_cpy (S_elements x) (S_elements y) q w c) j i = E' (60 * j + i) := by
          intro h i hi
          unfold updR
          by_cases e : j = y
          · subst e
            rw [if_pos rfl]
            by_cases hin : w ≤ i ∧ i < w + c
            · rw [pk_cpy_in hin.1 hin.2, g6 _ (by omega), show 60 * j + i = 60 * j + w + (i - w) by omega, u2 (i - w) (by omega) (by omega), s2 (i - w) (by omega) (by omega), Nat.add_assoc]
            · rw [pk_cpy_out (by omega), u3 _ (by omega)]
              exact h i hi
          · rw [if_neg e, u3 _ (by omega)]
            exact h i hi
        rcases hS j hj with z | z | ⟨z1, t2, k2, z2, z3, z4, z5, z6, z7, z8⟩
        · exact Or.inl z
        · exact Or.inr (Or.inl z)
        · exact Or.inr (Or.inr ⟨z1, t2, k2, z2, z3, z4, z5, z6, z7, key z8⟩)
      · have q1 : ¬ nI t' = nI t := by rw [eq_nI (by omega) (by omega)]; omega
        have q2 : ¬ (-2 - nI t) = (-2 - nI t') := fun e => ett (neg2_inj t ht t' ht' e)
        simp only [if_neg q1, if_neg q2, if_true]
        exact ⟨_, _, rfl, rfl, rfl, hI0⟩
