/-! shelves -/
theorem m1_of {x : Int32} (h : x < 0) (h2 : ¬ x < -1) : x = -1 := by
  have e : (-1 : Int32).toInt = -1 := by decide
  have e0 : (0 : Int32).toInt = 0 := by decide
  rw [Int32.lt_iff_toInt_lt] at h h2
  apply Int32.toInt_inj.mp
  omega
theorem lt_m1 : ¬ (-1 : Int32) < -1 := by decide
theorem IShelf_set {nb : Nat} {S_holds S_body S_sort S_size : Nat → Int32} {S_elements : Nat → Nat → Int64} {M_holds M_size : Nat → Int32} {M_elements : Nat → Int64} (hS : IShelf nb S_holds S_body S_sort S_size S_elements M_holds M_size M_elements) {x : Nat} {h b m : Int32}
    (hz : ∀ s z el mz mel, shf_ok nb h b s z el m mz mel) : IShelf nb (upd S_holds x h) (upd S_body x b) S_sort S_size S_elements (upd M_holds x m) M_size M_elements := by
  intro j hj
  by_cases e : j = x
  · subst e
    simp only [upd_eq (α := Nat)]
    exact hz _ _ _ _ _
  · simp only [upd_ne e]
    exact hS j hj
set_option maxHeartbeats 1000000 in
theorem pu_keep {T_price : Nat → Int32} {T_year : Nat → Int32} {T_joinEnds : Nat → Int32} {T_wallEnds : Nat → Int32} {T_cost : Nat → Int32} {T_doors : Int32} {T_joins : Int32} {T_walls : Int32} {T_oldWells : Int32} {T_apart : Int32} {L_tape : Nat → Int32} {L_text : Nat → Int32} {L_fed : Int32} {L_length : Int32} {L_read : Nat} {L_end : Int32} {L_at : Int32} {L_fault : Int32} {L_d : Int32} {L_p : Int32} {L_y : Int32} {L_j : Int32} {L_o : Int32} {P_away : Nat → Nat → Int32} {P_beside : Nat → Int32} {P_reach : Nat → Int32} {P_serves : Nat → Int32} {P_crowds : Nat → Int32} {P_servedLow : Nat → Int32} {P_servedHigh : Nat → Int32} {P_crowdedLow : Nat → Int32} {P_crowdedHigh : Nat → Int32} {P_there : Int32} {P_must : Int32} {P_can : Int32} {C_what : Nat → Int32} {C_number : Nat → Int32} {C_before : Nat → Int32} {C_after : Nat → Int32} {C_done : Int32} {C_kept : Int32} {A_kinds : Nat → Int32} {A_traced : Nat → Int32} {A_bodies : Int32} {A_began : Int32} {A_self : Int32} {A_kindOfSelf : Int32} {S_holds : Nat → Int32} {S_body : Nat → Int32} {S_sort : Nat → Int32} {S_size : Nat → Int32} {S_elements : Nat → Nat → Int64} {G_grown : Nat → Int32} {M_code : Int32} {M_doors : Int32} {M_price : Nat → Int32} {M_year : Nat → Int32} {M_joins : Int32} {M_joinA : Nat → Int32} {M_joinB : Nat → Int32} {M_walls : Int32} {M_wallA : Nat → Int32} {M_wallB : Nat → Int32} {M_cost : Nat → Int32} {M_olds : Int32} {M_near : Int32} {M_doneMany : Int32} {M_undoneMany : Int32} {M_changeOf : Nat → Int32} {M_changeAt : Nat → Int32} {M_before : Nat → Int32} {M_behind : Nat → Int32} {M_tape : Nat → Int32} {M_taped : Int32} {M_here : Int32} {M_fault : Int32} {M_open : Int32} {M_laid : Int32} {M_act : Nat → Int32} {M_with : Nat → Int32} {M_lineMany : Nat → Int32} {M_testEnd : Nat → Int32} {M_lineEnd : Nat → Int32} {M_facts : Nat → Int32} {M_pile : Nat → Int32} {M_hasLaw : Int32} {M_far : Nat → Int32} {M_within : Nat → Int32} {M_tooNear : Nat → Int32} {M_dried : Int32} {M_isOn : Nat → Int32} {M_wasOn : Nat → Int32} {M_bodies : Int32} {M_kind : Nat → Int32} {M_traces : Int32} {M_traced : Nat → Int32} {M_holds : Nat → Int32} {M_size : Nat → Int32} {M_elements : Nat → Int64} {M_shifted : Nat → Int64} (hI : INV T_price T_year T_joinEnds T_wallEnds T_cost T_doors T_joins T_walls T_oldWells T_apart L_tape L_text L_fed L_length L_read L_end L_at L_fault L_d L_p L_y L_j L_o P_away P_beside P_reach P_serves P_crowds P_servedLow P_servedHigh P_crowdedLow P_crowdedHigh P_there P_must P_can C_what C_number C_before C_after C_done C_kept A_kinds A_traced A_bodies A_began A_self A_kindOfSelf S_holds S_body S_sort S_size S_elements G_grown M_code M_doors M_price M_year M_joins M_joinA M_joinB M_walls M_wallA M_wallB M_cost M_olds M_near M_doneMany M_undoneMany M_changeOf M_changeAt M_before M_behind M_tape M_taped M_here M_fault M_open M_laid M_act M_with M_lineMany M_testEnd M_lineEnd M_facts M_pile M_hasLaw M_far M_within M_tooNear M_dried M_isOn M_wasOn M_bodies M_kind M_traces M_traced M_holds M_size M_elements M_shifted) (a1 : Int32) (a2 : Int32) : ∃ (rc : Int32 × (Nat → Int32) × (Nat → Int32)) (rm : Int32 × (Nat → Int32)), f_X6_keep a1 a2 A_bodies S_holds S_body = some rc ∧ f_X7_keep a1 a2 M_bodies M_holds = some rm ∧ rc.1 = rm.1 ∧ INV T_price T_year T_joinEnds T_wallEnds T_cost T_doors T_joins T_walls T_oldWells T_apart L_tape L_text L_fed L_length L_read L_end L_at L_fault L_d L_p L_y L_j L_o P_away P_beside P_reach P_serves P_crowds P_servedLow P_servedHigh P_crowdedLow P_crowdedHigh P_there P_must P_can C_what C_number C_before C_after C_done C_kept A_kinds A_traced A_bodies A_began A_self A_kindOfSelf rc.2.1 rc.2.2 S_sort S_size S_elements G_grown M_code M_doors M_price M_year M_joins M_joinA M_joinB M_walls M_wallA M_wallB M_cost M_olds M_near M_doneMany M_undoneMany M_changeOf M_changeAt M_before M_behind M_tape M_taped M_here M_fault M_open M_laid M_act M_with M_lineMany M_testEnd M_lineEnd M_facts M_pile M_hasLaw M_far M_within M_tooNear M_dried M_isOn M_wasOn M_bodies M_kind M_traces M_traced rm.2 M_size M_elements M_shifted := by
  have hI0 := hI
  obtain ⟨n, kj, kw, o, v, nb, hT, hL, hC, hA, hS⟩ := hI
  have hA0 := hA
  obtain ⟨hb, rfl, rfl, hk, hr⟩ := hA
  unfold f_X6_keep f_X7_keep
  simp only [s_isShelf6, s_isShelf7, bd_of, i01]
  by_cases h1 : a1 < 0 ∨ nI 6 ≤ a1
  · simp only [if_pos h1]
    exact ⟨_, _, rfl, rfl, rfl, hI0⟩
  simp only [if_neg h1]
  obtain ⟨x, hx, rfl⟩ := nI_lt_of (k := 6) (by decide) h1
  unfold f_X7_isBody
  simp only [s_isWall7 _ nb (show nb < 2 ^ 31 by omega), bd_of, bz_if, i01, ix_nI hx (by decide)]
  unfold f_X6_keep_b40 f_X7_keep_b22
  simp only [ix_nI hx (by decide), cl_nI (show x < 2 ^ 31 by omega)]
  have m0 : (-1 : Int32) < 0 := by decide
  by_cases h2 : a2 < 0
  · by_cases h3 : a2 < -1
    · have h4 : ¬ a2 = -1 := by rintro rfl; exact lt_m1 h3
      simp only [if_pos h3, if_neg h4, if_pos (show a2 < 0 ∨ nI nb ≤ a2 from Or.inl h2)]
      exact ⟨_, _, rfl, rfl, rfl, hI0⟩
    · have e := m1_of h2 h3
      subst e
      have h5 : (-1 : Int32) < nI nb := Int32.lt_of_lt_of_le m0 (Int32.not_lt.mp (nI_pos (by omega)))
      have h6 : ¬ (0 : Int32) ≤ -1 := by decide
      simp only [if_neg h3, if_true, if_pos h5, if_neg h6]
      exact ⟨_, _, rfl, rfl, rfl, n, kj, kw, o, v, nb, hT, hL, hC, hA0, IShelf_set hS fun _ _ _ _ _ => Or.inl ⟨rfl, rfl⟩⟩
  · have h3 : ¬ a2 < -1 := fun q => h2 (Int32.lt_trans q m0)
    have h4 : ¬ a2 = -1 := by rintro rfl; exact h2 m0
    obtain ⟨p, hp, rfl⟩ := nI_of h2
    by_cases h5 : p < nb
    · have h6 : ¬ (nI p < 0 ∨ nI nb ≤ nI p) := by
        rw [lt0_nI hp, le_nI (by omega) hp]
        simp
        omega
      have h7 : (0 : Int32) ≤ nI p := Int32.not_lt.mp h2
      simp only [if_neg h3, if_neg h4, if_neg h6, lt_nI hp (show nb < 2 ^ 31 by omega), if_pos h5, if_pos h7]
      exact ⟨_, _, rfl, rfl, rfl, n, kj, kw, o, v, nb, hT, hL, hC, hA0, IShelf_set hS fun _ _ _ _ _ => Or.inr (Or.inl ⟨rfl, p, h5, rfl, rfl⟩)⟩
    · have h6 : nI p < 0 ∨ nI nb ≤ nI p := by
        rw [le_nI (by omega) hp]
        exact Or.inr (by omega)
      simp only [if_neg h3, if_neg h4, if_pos h6, lt_nI hp (show nb < 2 ^ 31 by omega), if_neg h5]
      exact ⟨_, _, rfl, rfl, rfl, hI0⟩
theorem s_zero (j : Nat) (H S Z : Nat → Int32) : ∀ (r k m : Nat) (E : Nat → Nat → Int64), r + m = 60 → k ≥ r + 1 →
    ∃ E', f_X4_becomeRow_b17 j H S Z k (nI m) E = some (H, S, Z, E') ∧ (∀ j', j' ≠ j → E' j' = E j') ∧ (∀ i, m ≤ i → i < 60 → E' j i = 0) ∧ (∀ i, i < m → E' j i = E j i)
  | 0, k + 1, m, E, h, hk => by
    have e : m = 60 := by omega
    subst e
    exact ⟨E, by rw [f_X4_becomeRow_b17, if_pos (by decide)], fun _ _ => rfl, fun i h1 h2 => by omega, fun _ _ => rfl⟩
  | r + 1, k + 1, m, E, h, hk => by
    obtain ⟨E', g, g1, g2, g3⟩ := s_zero j H S Z r k (m + 1) (updR E j (vp_updL (E j) m 0)) (by omega) (by omega)
    refine ⟨E', ?_, ?_, ?_, ?_⟩
    · rw [f_X4_becomeRow_b17, L_60, if_neg (by rw [le_nI (by decide) (by omega)]; omega)]
      simp only [ix_nI (show m < 60 by omega) (by decide), cl_nI (show m < 2 ^ 31 by omega), nI_1, g]
    · intro j' hj
      rw [g1 j' hj]
      unfold updR
      rw [if_neg hj]
    · intro i h1 h2
      by_cases e : i = m
      · subst e
        rw [g3 i (by omega)]
        unfold updR
        rw [if_pos rfl, pk_uLs]
      · exact g2 i (by omega) h2
    · intro i h1
      rw [g3 i (by omega)]
      unfold updR
      rw [if_pos rfl, pk_uLn (by omega)]
  | _, 0, _, _, _, hk => by omega
theorem s_zero7 (x : Nat) (hx : x < 6) (H Z : Nat → Int32) : ∀ (r k m : Nat) (E : Nat → Int64), r + m = 60 → k ≥ r + 1 →
    ∃ E', f_X7_row_b54 (nI x) H Z k (nI (60 * x + m)) E = some (1, H, Z, E') ∧ (∀ i, m ≤ i → i < 60 → E' (60 * x + i) = 0) ∧ (∀ i, (i < 60 * x + m ∨ 60 * x + 60 ≤ i) → E' i = E i)
  | 0, k + 1, m, E, h, hk => by
    have e : m = 60 := by omega
    subst e
    refine ⟨E, ?_, fun i h1 h2 => by omega, fun _ _ => rfl⟩
    rw [f_X7_row_b54, L_60, pk_mul, nI_add, if_pos]
    rw [le_nI (by omega) (by omega)]
    omega
  | r + 1, k + 1, m, E, h, hk => by
    obtain ⟨E', g, g2, g3⟩ := s_zero7 x hx H Z r k (m + 1) (vp_updL E (60 * x + m) 0) (by omega) (by omega)
    refine ⟨E', ?_, ?_, ?_⟩
    · rw [f_X7_row_b54, L_60, pk_mul, nI_add, if_neg (by rw [le_nI (by omega) (by omega)]; omega)]
      simp only [ix_nI (show 60 * x + m < 360 by omega) (by decide), cl_nI (show 60 * x + m < 2 ^ 31 by omega), nI_1]
      exact g
    · intro i h1 h2
      by_cases e : i = m
      · subst e
        rw [g3 (60 * x + i) (by omega), pk_uLs]
      · exact g2 i (by omega) h2
    · intro i h1
      rw [g3 i (by omega), pk_uLn (by omega)]
  | _, 0, _, _, _, hk => by omega
set_option maxHeartbeats 1000000 in
theorem pu_row {T_price : Nat → Int32} {T_year : Nat → Int32} {T_joinEnds : Nat → Int32} {T_wallEnds : Nat → Int32} {T_cost : Nat → Int32} {T_doors : Int32} {T_joins : Int32} {T_walls : Int32} {T_oldWells : Int32} {T_apart : Int32} {L_tape : Nat → Int32} {L_text : Nat → Int32} {L_fed : Int32} {L_length : Int32} {L_read : Nat} {L_end : Int32} {L_at : Int32} {L_fault : Int32} {L_d : Int32} {L_p : Int32} {L_y : Int32} {L_j : Int32} {L_o : Int32} {P_away : Nat → Nat → Int32} {P_beside : Nat → Int32} {P_reach : Nat → Int32} {P_serves : Nat → Int32} {P_crowds : Nat → Int32} {P_servedLow : Nat → Int32} {P_servedHigh : Nat → Int32} {P_crowdedLow : Nat → Int32} {P_crowdedHigh : Nat → Int32} {P_there : Int32} {P_must : Int32} {P_can : Int32} {C_what : Nat → Int32} {C_number : Nat → Int32} {C_before : Nat → Int32} {C_after : Nat → Int32} {C_done : Int32} {C_kept : Int32} {A_kinds : Nat → Int32} {A_traced : Nat → Int32} {A_bodies : Int32} {A_began : Int32} {A_self : Int32} {A_kindOfSelf : Int32} {S_holds : Nat → Int32} {S_body : Nat → Int32} {S_sort : Nat → Int32} {S_size : Nat → Int32} {S_elements : Nat → Nat → Int64} {G_grown : Nat → Int32} {M_code : Int32} {M_doors : Int32} {M_price : Nat → Int32} {M_year : Nat → Int32} {M_joins : Int32} {M_joinA : Nat → Int32} {M_joinB : Nat → Int32} {M_walls : Int32} {M_wallA : Nat → Int32} {M_wallB : Nat → Int32} {M_cost : Nat → Int32} {M_olds : Int32} {M_near : Int32} {M_doneMany : Int32} {M_undoneMany : Int32} {M_changeOf : Nat → Int32} {M_changeAt : Nat → Int32} {M_before : Nat → Int32} {M_behind : Nat → Int32} {M_tape : Nat → Int32} {M_taped : Int32} {M_here : Int32} {M_fault : Int32} {M_open : Int32} {M_laid : Int32} {M_act : Nat → Int32} {M_with : Nat → Int32} {M_lineMany : Nat → Int32} {M_testEnd : Nat → Int32} {M_lineEnd : Nat → Int32} {M_facts : Nat → Int32} {M_pile : Nat → Int32} {M_hasLaw : Int32} {M_far : Nat → Int32} {M_within : Nat → Int32} {M_tooNear : Nat → Int32} {M_dried : Int32} {M_isOn : Nat → Int32} {M_wasOn : Nat → Int32} {M_bodies : Int32} {M_kind : Nat → Int32} {M_traces : Int32} {M_traced : Nat → Int32} {M_holds : Nat → Int32} {M_size : Nat → Int32} {M_elements : Nat → Int64} {M_shifted : Nat → Int64} (hI : INV T_price T_year T_joinEnds T_wallEnds T_cost T_doors T_joins T_walls T_oldWells T_apart L_tape L_text L_fed L_length L_read L_end L_at L_fault L_d L_p L_y L_j L_o P_away P_beside P_reach P_serves P_crowds P_servedLow P_servedHigh P_crowdedLow P_crowdedHigh P_there P_must P_can C_what C_number C_before C_after C_done C_kept A_kinds A_traced A_bodies A_began A_self A_kindOfSelf S_holds S_body S_sort S_size S_elements G_grown M_code M_doors M_price M_year M_joins M_joinA M_joinB M_walls M_wallA M_wallB M_cost M_olds M_near M_doneMany M_undoneMany M_changeOf M_changeAt M_before M_behind M_tape M_taped M_here M_fault M_open M_laid M_act M_with M_lineMany M_testEnd M_lineEnd M_facts M_pile M_hasLaw M_far M_within M_tooNear M_dried M_isOn M_wasOn M_bodies M_kind M_traces M_traced M_holds M_size M_elements M_shifted) (a1 : Int32) (a2 : Int32) (a3 : Int32) : ∃ (rc : Int32 × (Nat → Int32) × (Nat → Int32) × (Nat → Int32) × (Nat → Nat → Int64)) (rm : Int32 × (Nat → Int32) × (Nat → Int32) × (Nat → Int64)), f_X6_row a1 a2 a3 S_holds S_sort S_size S_elements = some rc ∧ f_X7_row a1 a2 a3 M_holds M_size M_elements = some rm ∧ rc.1 = rm.1 ∧ INV T_price T_year T_joinEnds T_wallEnds T_cost T_doors T_joins T_walls T_oldWells T_apart L_tape L_text L_fed L_length L_read L_end L_at L_fault L_d L_p L_y L_j L_o P_away P_beside P_reach P_serves P_crowds P_servedLow P_servedHigh P_crowdedLow P_crowdedHigh P_there P_must P_can C_what C_number C_before C_after C_done C_kept A_kinds A_traced A_bodies A_began A_self A_kindOfSelf rc.2.1 S_body rc.2.2.1 rc.2.2.2.1 rc.2.2.2.2 G_grown M_code M_doors M_price M_year M_joins M_joinA M_joinB M_walls M_wallA M_wallB M_cost M_olds M_near M_doneMany M_undoneMany M_changeOf M_changeAt M_before M_behind M_tape M_taped M_here M_fault M_open M_laid M_act M_with M_lineMany M_testEnd M_lineEnd M_facts M_pile M_hasLaw M_far M_within M_tooNear M_dried M_isOn M_wasOn M_bodies M_kind M_traces M_traced rm.2.1 rm.2.2.1 rm.2.2.2 M_shifted := by
  have hI0 := hI
  obtain ⟨n, kj, kw, o, v, nb, hT, hL, hC, hA, hS⟩ := hI
  unfold f_X6_row f_X7_row
  simp only [s_isShelf6, s_isShelf7, s_in, bd_of, i01]
  by_cases h1 : a1 < 0 ∨ nI 6 ≤ a1
  · simp only [if_pos h1]
    exact ⟨_, _, rfl, rfl, rfl, hI0⟩
  simp only [if_neg h1]
  obtain ⟨x, hx, rfl⟩ := nI_lt_of (k := 6) (by decide) h1
  by_cases h2 : a2 < 0
  · simp only [if_pos h2, if_pos (show a2 < 0 ∨ 4 < a2 from Or.inl h2)]
    exact ⟨_, _, rfl, rfl, rfl, hI0⟩
  obtain ⟨t, ht, rfl⟩ := nI_of h2
  have e5 : (5 : Int32) = nI 5 := rfl
  have e4 : (4 : Int32) = nI 4 := rfl
  simp only [if_neg h2, false_or, h2, e4, e5, le_nI (show 5 < 2 ^ 31 by decide) ht, lt_nI (show 4 < 2 ^ 31 by decide) ht]
  by_cases h3 : 5 ≤ t
  · simp only [if_pos h3, if_pos (show 4 < t by omega)]
    exact ⟨_, _, rfl, rfl, rfl, hI0⟩
  simp only [if_neg h3, if_neg (show ¬ 4 < t by omega)]
  by_cases h4 : a3 ≤ 60
  · simp only [if_pos h4]
    by_cases h5 : 0 ≤ a3
    · obtain ⟨k, hk, rfl⟩ := nI_of2 (M := 60) (n := 60) (by decide) (Int32.not_lt.mpr h5) h4
      obtain ⟨E1, g, g1, g2, g3⟩ := s_zero x (upd S_holds x 2) (upd S_sort x (nI t)) (upd S_size x (nI k)) 60 fuel 0 S_elements (by omega) (by unfold fuel; omega)
      obtain ⟨E2, q, q2, q3⟩ := s_zero7 x hx (upd M_holds x (-2 - nI t)) (upd M_size x (nI k)) 60 fuel 0 M_elements (by omega) (by unfold fuel; omega)
      have q' : 60 * nI x = nI (60 * x + 0) := by rw [L_60, pk_mul, Nat.add_zero]
      have g' : f_X4_becomeRow_b17 x (upd S_holds x 2) (upd S_sort x (nI t)) (upd S_size x (nI k)) fuel 0 S_elements = _ := g
      unfold f_X4_becomeRow
      simp only [if_pos h5, ix_nI hx (by decide), cl_nI (show x < 2 ^ 31 by omega), q', q, g', bd_of]
      refine ⟨_, _, rfl, rfl, rfl, n, kj, kw, o, v, nb, hT, hL, hC, hA, fun j hj => ?_⟩
      dsimp only
      by_cases e : j = x
      · subst e
        simp only [upd_eq (α := Nat)]
        refine Or.inr (Or.inr ⟨rfl, t, k, by omega, hk, rfl, rfl, rfl, rfl, fun i hi => ?_⟩)
        exact (g2 i (by omega) hi).trans (q2 i (by omega) hi).symm
      · simp only [upd_ne e, g1 j e]
        have hj2 := hS j hj
        have e3 : ∀ i, i < 60 → E2 (60 * j + i) = M_elements (60 * j + i) := fun i hi => q3 _ (by omega)
        rcases hj2 with z | z | ⟨z1, t', k', z2, z3, z4, z5, z6, z7, z8⟩
        · exact Or.inl z
        · exact Or.inr (Or.inl z)
        · exact Or.inr (Or.inr ⟨z1, t', k', z2, z3, z4, z5, z6, z7, fun i hi => by rw [z8 i hi]; exact (e3 i hi).symm⟩)
    · simp only [if_neg h5]
      exact ⟨_, _, rfl, rfl, rfl, hI0⟩
  · simp only [if_neg h4]
    exact ⟨_, _, rfl, rfl, rfl, hI0⟩
