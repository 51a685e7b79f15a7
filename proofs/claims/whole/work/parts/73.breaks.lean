/-! breaks -/
section BREAKS
variable {n kj kw o v : Nat} {A B : Nat → Nat} {T_price T_year T_joinEnds T_wallEnds T_cost M_price M_year M_wallA M_wallB M_cost : Nat → Int32} {L_text : Nat → Int32} {L_length : Int32} {M_act M_with M_lineMany M_testEnd M_lineEnd : Nat → Int32} {M_hasLaw : Int32}
theorem br_one (b1 : n ≤ 14) (b2 : kj ≤ 40) (b3 : kw ≤ 10) (b4 : o < 2 ^ n) (b5 : v ≤ 9) (h1 : ∀ i, i < n → T_price i = M_price i ∧ le_ (M_price i) 99) (h2 : ∀ i, i < n → T_year i = M_year i ∧ le_ (M_year i) 9)
    (hAB : ∀ i, i < kj → (A i < n ∧ B i < n ∧ A i ≠ B i) ∧ T_joinEnds i = nI (100 * A i + B i)) (h4 : ∀ i, i < kw → ∃ a b, a < n ∧ b < n ∧ a ≠ b ∧ M_wallA i = nI a ∧ M_wallB i = nI b ∧ T_wallEnds i = nI (100 * a + b))
    (hL : (L_length = 0 ∧ M_hasLaw = 0) ∨ (¬ L_length = 0 ∧ M_hasLaw = 1 ∧ IGives L_text L_length M_act M_with M_lineMany M_testEnd M_lineEnd))
    {JA JB : Nat → Int32} (hJ : ∀ i, i < kj → JA i = nI (A i) ∧ JB i = nI (B i)) {m : Nat} (hm : m < kw)
    (L_read : Nat) (L_end L_at L_fault L_d L_p L_y L_j L_o : Int32) (P_away : Nat → Nat → Int32) (P_beside P_reach P_serves P_crowds P_servedLow P_servedHigh P_crowdedLow P_crowdedHigh : Nat → Int32) (P_there0 P_must0 P_can0 : Int32) (fa pi far wi tn : Nat → Int32) :
    ∃ y0, (y0 = -2 ∨ ∃ w, w < 2 ^ n ∧ y0 = nI w) ∧
    (∃ rd e a f' d p y j o' W' Be' P' sv' cw' sl' sh' cl' ch' th mu ca, f_X3_lay (nI (2 ^ n - 1)) (nI o) (nI m) T_price T_year T_joinEnds T_wallEnds (nI n) (nI kj) (nI kw) (nI v) L_text L_length L_read L_end L_at L_fault L_d L_p L_y L_j L_o P_away P_beside P_reach P_serves P_crowds P_servedLow P_servedHigh P_crowdedLow P_crowdedHigh P_there0 P_must0 P_can0 = some (rd, e, a, f', d, p, y, j, o', W', Be', P', sv', cw', sl', sh', cl', ch', th, mu, ca) ∧ f_X3_least 0 0 T_price (nI n) sl' sh' cl' ch' th mu ca = some y0) ∧
    (∃ fa' pi' far' wi' tn', f_X7_bestBy 0 (nI n) M_price M_year (nI (kj + 1)) (upd JA kj (M_wallA m)) (upd JB kj (M_wallB m)) (nI o) (nI v) M_act M_with M_lineMany M_testEnd M_lineEnd fa pi M_hasLaw far wi tn 0 = some (y0, fa', pi', far', wi', tn')) := by
  have hp := p14 b1
  obtain ⟨a, b, e1, e2, e3, e4, e5, e6⟩ := h4 m hm
  have q1 : (fun i => if i = kj then a else A i) kj = a := if_pos rfl
  have q2 : (fun i => if i = kj then b else B i) kj = b := if_pos rfl
  have q3 : ∀ i, i < kj → (fun i => if i = kj then a else A i) i = A i := fun i hi => if_neg (by omega)
  have q4 : ∀ i, i < kj → (fun i => if i = kj then b else B i) i = B i := fun i hi => if_neg (by omega)
  generalize (fun i => if i = kj then a else A i) = A2 at q1 q3
  generalize (fun i => if i = kj then b else B i) = B2 at q2 q4
  have hAB2 : ∀ i, i < kj + 1 → A2 i < n ∧ B2 i < n ∧ A2 i ≠ B2 i := by
    intro i hi
    by_cases q : i = kj
    · subst q
      rw [q1, q2]
      exact ⟨e1, e2, e3⟩
    · rw [q3 i (by omega), q4 i (by omega)]
      exact (hAB i (by omega)).1
  have hC : CJ n (kj + 1) A2 B2 (nI m) T_joinEnds T_wallEnds (nI kj) (nI kw) := by
    refine ⟨hAB2, Or.inr ⟨kj, m, rfl, b2, by omega, ?_, rfl, rfl, fun i hi => ?_, ?_⟩⟩
    · rw [s_isWall5, if_neg]
      rw [lt0_nI (by omega), le_nI (by omega) (by omega)]
      simp
      omega
    · rw [q3 i hi, q4 i hi]
      exact (hAB i hi).2
    · rw [q1, q2]
      exact e6
  have hM : MJ n (kj + 1) A2 B2 (upd JA kj (M_wallA m)) (upd JB kj (M_wallB m)) := by
    refine ⟨by omega, fun i hi => ⟨hAB2 i hi, ?_⟩⟩
    by_cases q : i = kj
    · subst q
      rw [upd_eq (α := Nat), upd_eq (α := Nat), q1, q2]
      exact ⟨e4, e5⟩
    · rw [upd_ne q, upd_ne q, q3 i (by omega), q4 i (by omega)]
      exact hJ i (by omega)
  obtain ⟨rch, r1, r2, r3⟩ := reach_ex (o := nI o) b1 hC hM (fun i hi => (h1 i hi).1) (fun i hi => (h2 i hi).1) hL
  obtain ⟨rd, e, a', f', d, p, y, j, o', W', Be', P', sv', cw', sl', sh', cl', ch', mu, ca, t1, t2⟩ := s_lay (all_lt n) (lt14 b1 b4) b5 b1 hC r1 r2 (fun i hi => by rw [(h1 i hi).1]; exact (h1 i hi).2) L_read L_end L_at L_fault L_d L_p L_y L_j L_o P_away P_beside P_reach P_serves P_crowds P_servedLow P_servedHigh P_crowdedLow P_crowdedHigh P_there0 P_must0 P_can0
  obtain ⟨fa', pi', far', wi', tn', g1, g2⟩ := s_findAll b1 (all_lt n) b5 r1 hM r3 fa pi far wi tn
  obtain ⟨y0, j0, j1, j2⟩ := lb_loop (x2 := 0) (x3 := 0) (fa := fa') (pi := pi') (far := far') b1 (fun w hw => (both_may b1 b4 h1 t2 g2 hw).1) (fun w hw => (both_may b1 b4 h1 t2 g2 hw).2) (fun w hw => s_weight b1 b4 (fun i hi => (h1 i hi).1) t2.2.2.2.2.2.2.2.2.1 (by decide) hw) (2 ^ n) fuel fuel 0 (-2) 0 (by omega) (by unfold fuel; omega) (by unfold fuel; omega) (Or.inl rfl)
  refine ⟨y0, j0, ⟨rd, e, a', f', d, p, y, j, o', W', Be', P', sv', cw', sl', sh', cl', ch', _, mu, ca, t1, j1⟩, fa', pi', far', wi', tn', ?_⟩
  unfold f_X7_bestBy
  rw [s_allDoors b1, bd_of, g1, bd_of]
  exact j2
theorem br_loop {x1 : Int32} {M_joinA0 M_joinB0 : Nat → Int32} (b1 : n ≤ 14) (b2 : kj ≤ 40) (b3 : kw ≤ 10) (b4 : o < 2 ^ n) (b5 : v ≤ 9) (h1 : ∀ i, i < n → T_price i = M_price i ∧ le_ (M_price i) 99) (h2 : ∀ i, i < n → T_year i = M_year i ∧ le_ (M_year i) 9)
    (hAB : ∀ i, i < kj → (A i < n ∧ B i < n ∧ A i ≠ B i) ∧ M_joinA0 i = nI (A i) ∧ M_joinB0 i = nI (B i) ∧ T_joinEnds i = nI (100 * A i + B i)) (h4 : ∀ i, i < kw → ∃ a b, a < n ∧ b < n ∧ a ≠ b ∧ M_wallA i = nI a ∧ M_wallB i = nI b ∧ T_wallEnds i = nI (100 * a + b)) (h5 : ∀ i, i < kw → T_cost i = M_cost i)
    (hL : (L_length = 0 ∧ M_hasLaw = 0) ∨ (¬ L_length = 0 ∧ M_hasLaw = 1 ∧ IGives L_text L_length M_act M_with M_lineMany M_testEnd M_lineEnd)) :
    ∀ (r f f7 m : Nat) (x2 x3 y3 : Int32) (L_read : Nat) (L_end L_at L_fault L_d L_p L_y L_j L_o : Int32) (P_away : Nat → Nat → Int32) (P_beside P_reach P_serves P_crowds P_servedLow P_servedHigh P_crowdedLow P_crowdedHigh : Nat → Int32) (P_there P_must P_can : Int32) (JA JB fa pi far wi tn : Nat → Int32), r + m = kw → f ≥ r + 1 → f7 ≥ r + 1 → (x2 = -2 ∨ ∃ c, c < kw ∧ x2 = nI c ∧ x3 = y3) → (∀ i, i < kj → JA i = M_joinA0 i ∧ JB i = M_joinB0 i) →
    ∃ y c JA' JB' fa' pi' far' wi' tn', f_X6_breaks_b19 x1 T_price T_year T_joinEnds T_wallEnds T_cost (nI n) (nI kj) (nI kw) (nI o) (nI v) L_text L_length f x2 x3 (nI m) L_read L_end L_at L_fault L_d L_p L_y L_j L_o P_away P_beside P_reach P_serves P_crowds P_servedLow P_servedHigh P_crowdedLow P_crowdedHigh P_there P_must P_can = some (y, c) ∧
      f_X7_breaks_b19 x1 (nI n) M_price M_year (nI kw) M_wallA M_wallB M_cost (nI o) (nI v) M_act M_with M_lineMany M_testEnd M_lineEnd M_hasLaw 0 f7 x2 y3 (nI m) (nI kj) JA JB fa pi far wi tn = some (y, nI kj, JA', JB', fa', pi', far', wi', tn') ∧ (∀ i, i < kj → JA' i = M_joinA0 i ∧ JB' i = M_joinB0 i)
  | 0, f + 1, f7 + 1, m, x2, x3, y3, L_read, L_end, L_at, L_fault, L_d, L_p, L_y, L_j, L_o, P_away, P_beside, P_reach, P_serves, P_crowds, P_servedLow, P_servedHigh, P_crowdedLow, P_crowdedHigh, P_there, P_must, P_can, JA, JB, fa, pi, far, wi, tn, h, hf, hf7, hx, hJ => by
    have e : m = kw := by omega
    subst e
    rw [f_X7_breaks_b19, if_pos (by rw [le_nI (by omega) (by omega)]; omega), f_X6_breaks_b19, if_pos (by rw [le_nI (by omega) (by omega)]; omega)]
    by_cases q : x2 < 0
    · rw [if_pos q, if_pos q]
      exact ⟨_, _, JA, JB, fa, pi, far, wi, tn, rfl, rfl, hJ⟩
    rw [if_neg q, if_neg q]
    by_cases q1 : x1 = 0
    · rw [if_pos q1, if_pos q1]
      exact ⟨_, _, JA, JB, fa, pi, far, wi, tn, rfl, rfl, hJ⟩
    · rw [if_neg q1, if_neg q1]
      rcases hx with rfl | ⟨c, -, -, rfl⟩
      · exact absurd (by decide) q
      · exact ⟨_, _, JA, JB, fa, pi, far, wi, tn, rfl, rfl, hJ⟩
  | r + 1, f + 1, f7 + 1, m, x2, x3, y3, L_read, L_end, L_at, L_fault, L_d, L_p, L_y, L_j, L_o, P_away, P_beside, P_reach, P_serves, P_crowds, P_servedLow, P_servedHigh, P_crowdedLow, P_crowdedHigh, P_there, P_must, P_can, JA, JB, fa, pi, far, wi, tn, h, hf, hf7, hx, hJ => by
    have hm : m < kw := by omega
    obtain ⟨y0, j0, ⟨rd, e, a', f', d, p, y, j, o', W', Be', P', sv', cw', sl', sh', cl', ch', th, mu, ca, t1, t2⟩, fa', pi', far', wi', tn', g1⟩ := br_one b1 b2 b3 b4 b5 h1 h2 (fun i hi => ⟨(hAB i hi).1, (hAB i hi).2.2.2⟩) h4 hL (JA := JA) (JB := JB) (fun i hi => ⟨(hJ i hi).1.trans (hAB i hi).2.1, (hJ i hi).2.trans (hAB i hi).2.2.1⟩) hm L_read L_end L_at L_fault L_d L_p L_y L_j L_o P_away P_beside P_reach P_serves P_crowds P_servedLow P_servedHigh P_crowdedLow P_crowdedHigh P_there P_must P_can fa pi far wi tn
    have hJ2 : ∀ i, i < kj → upd JA kj (M_wallA m) i = M_joinA0 i ∧ upd JB kj (M_wallB m) i = M_joinB0 i := fun i hi => by
      rw [upd_ne (by omega), upd_ne (by omega)]
      exact hJ i hi
    have ih := fun x2 x3 y3 hx => br_loop (x1 := x1) b1 b2 b3 b4 b5 h1 h2 hAB h4 h5 hL r f f7 (m + 1) x2 x3 y3 rd e a' f' d p y j o' W' Be' P' sv' cw' sl' sh' cl' ch' th mu ca (upd JA kj (M_wallA m)) (upd JB kj (M_wallB m)) fa' pi' far' wi' tn' (by omega) (by omega) (by omega) hx hJ2
    rw [f_X7_breaks_b19, if_neg (by rw [le_nI (by omega) (by omega)]; omega), f_X6_breaks_b19, if_neg (by rw [le_nI (by omega) (by omega)]; omega), s_everyDoor b1, bd_of, t1, bd_of]
    dsimp only
    rw [t2, bd_of]
    simp only [ix_nI (show m < 10 by omega) (show 10 < 2 ^ 31 by decide), ix_nI (show kj < 41 by omega) (show 41 < 2 ^ 31 by decide), cl_nI (show m < 2 ^ 31 by omega), cl_nI (show kj < 2 ^ 31 by omega), nI_1, nI_m1]
    rw [g1, bd_of]
    unfold f_X6_breaks_b130 f_X6_breaks_b136 f_X7_breaks_b133 f_X7_breaks_b142
    simp only [nI_1]
    rcases j0 with rfl | ⟨w, hw, rfl⟩
    · rw [if_neg (show ¬ (0 : Int32) ≤ -2 by decide), if_pos (show (-2 : Int32) < 0 by decide)]
      exact ih x2 x3 y3 hx
    obtain ⟨c1, c2, c3⟩ := s_pc (lt14 b1 hw)
    have hp := p14 b1
    have n1 : (0 : Int32) ≤ nI w := by
      rw [L_0, le_nI (by decide) (by omega)]
      omega
    rw [if_pos n1, if_neg (nI_pos (n := w) (by omega)), c1, bd_of, c2, bd_of, bd_of, bd_of]
    by_cases q : x2 < 0
    · rw [if_pos q, if_pos q]
      exact ih (nI m) (nI (pc w)) (nI (pc w)) (Or.inr ⟨m, hm, rfl, rfl⟩)
    rw [if_neg q, if_neg q]
    rcases hx with rfl | ⟨c, hc, rfl, rfl⟩
    · exact absurd (by decide) q
    by_cases q1 : nI (pc w) < x3
    · rw [if_pos q1, if_neg (show ¬ x3 < nI (pc w) from fun z => Int32.lt_irrefl (Int32.lt_trans q1 z)), if_neg (show ¬ nI (pc w) = x3 from fun z => Int32.lt_irrefl (by rw [z] at q1; exact q1))]
      exact ih (nI m) (nI (pc w)) (nI (pc w)) (Or.inr ⟨m, hm, rfl, rfl⟩)
    rw [if_neg q1]
    by_cases q2 : nI (pc w) = x3
    · rw [if_pos q2, if_pos q2, if_neg (show ¬ x3 < nI (pc w) from fun z => Int32.lt_irrefl (by rw [q2] at z; exact z)), ix_nI (show c < 10 by omega) (by decide), ix_nI (show c < 10 by omega) (by decide), cl_nI (by omega), h5 c hc, h5 m hm]
      by_cases q3 : M_cost c ≤ M_cost m
      · rw [if_pos q3, if_neg (show ¬ M_cost m < M_cost c from Int32.not_lt.mpr q3)]
        exact ih (nI c) x3 x3 (Or.inr ⟨c, hc, rfl, rfl⟩)
      · rw [if_neg q3, if_pos (show M_cost m < M_cost c from Int32.not_le.mp q3)]
        exact ih (nI m) (nI (pc w)) (nI (pc w)) (Or.inr ⟨m, hm, rfl, rfl⟩)
    · have q4 : x3 < nI (pc w) := by
        rw [Int32.not_lt] at q1
        exact Int32.lt_of_le_of_ne q1 (fun z => q2 z.symm)
      rw [if_neg q2, if_pos q4]
      exact ih (nI c) x3 x3 (Or.inr ⟨c, hc, rfl, rfl⟩)
  | _, 0, _, _, _, _, _, _, _, _, _, _, _, _, _, _, _, _, _, _, _, _, _, _, _, _, _, _, _, _, _, _, _, _, _, _, hf, _, _, _ => by omega
  | _, _ + 1, 0, _, _, _, _, _, _, _, _, _, _, _, _, _, _, _, _, _, _, _, _, _, _, _, _, _, _, _, _, _, _, _, _, _, _, hf, _, _ => by omega
end BREAKS
set_option maxHeartbeats 2000000 in
theorem pu_breaks {T_price : Nat → Int32} {T_year : Nat → Int32} {T_joinEnds : Nat → Int32} {T_wallEnds : Nat → Int32} {T_cost : Nat → Int32} {T_doors : Int32} {T_joins : Int32} {T_walls : Int32} {T_oldWells : Int32} {T_apart : Int32} {L_tape : Nat → Int32} {L_text : Nat → Int32} {L_fed : Int32} {L_length : Int32} {L_read : Nat} {L_end : Int32} {L_at : Int32} {L_fault : Int32} {L_d : Int32} {L_p : Int32} {L_y : Int32} {L_j : Int32} {L_o : Int32} {P_away : Nat → Nat → Int32} {P_beside : Nat → Int32} {P_reach : Nat → Int32} {P_serves : Nat → Int32} {P_crowds : Nat → Int32} {P_servedLow : Nat → Int32} {P_servedHigh : Nat → Int32} {P_crowdedLow : Nat → Int32} {P_crowdedHigh : Nat → Int32} {P_there : Int32} {P_must : Int32} {P_can : Int32} {C_what : Nat → Int32} {C_number : Nat → Int32} {C_before : Nat → Int32} {C_after : Nat → Int32} {C_done : Int32} {C_kept : Int32} {A_kinds : Nat → Int32} {A_traced : Nat → Int32} {A_bodies : Int32} {A_began : Int32} {A_self : Int32} {A_kindOfSelf : Int32} {S_holds : Nat → Int32} {S_body : Nat → Int32} {S_sort : Nat → Int32} {S_size : Nat → Int32} {S_elements : Nat → Nat → Int64} {G_grown : Nat → Int32} {M_code : Int32} {M_doors : Int32} {M_price : Nat → Int32} {M_year : Nat → Int32} {M_joins : Int32} {M_joinA : Nat → Int32} {M_joinB : Nat → Int32} {M_walls : Int32} {M_wallA : Nat → Int32} {M_wallB : Nat → Int32} {M_cost : Nat → Int32} {M_olds : Int32} {M_near : Int32} {M_doneMany : Int32} {M_undoneMany : Int32} {M_changeOf : Nat → Int32} {M_changeAt : Nat → Int32} {M_before : Nat → Int32} {M_behind : Nat → Int32} {M_tape : Nat → Int32} {M_taped : Int32} {M_here : Int32} {M_fault : Int32} {M_open : Int32} {M_laid : Int32} {M_act : Nat → Int32} {M_with : Nat → Int32} {M_lineMany : Nat → Int32} {M_testEnd : Nat → Int32} {M_lineEnd : Nat → Int32} {M_facts : Nat → Int32} {M_pile : Nat → Int32} {M_hasLaw : Int32} {M_far : Nat → Int32} {M_within : Nat → Int32} {M_tooNear : Nat → Int32} {M_dried : Int32} {M_isOn : Nat → Int32} {M_wasOn : Nat → Int32} {M_bodies : Int32} {M_kind : Nat → Int32} {M_traces : Int32} {M_traced : Nat → Int32} {M_holds : Nat → Int32} {M_size : Nat → Int32} {M_elements : Nat → Int64} {M_shifted : Nat → Int64} (hI : INV T_price T_year T_joinEnds T_wallEnds T_cost T_doors T_joins T_walls T_oldWells T_apart L_tape L_text L_fed L_length L_read L_end L_at L_fault L_d L_p L_y L_j L_o P_away P_beside P_reach P_serves P_crowds P_servedLow P_servedHigh P_crowdedLow P_crowdedHigh P_there P_must P_can C_what C_number C_before C_after C_done C_kept A_kinds A_traced A_bodies A_began A_self A_kindOfSelf S_holds S_body S_sort S_size S_elements G_grown M_code M_doors M_price M_year M_joins M_joinA M_joinB M_walls M_wallA M_wallB M_cost M_olds M_near M_doneMany M_undoneMany M_changeOf M_changeAt M_before M_behind M_tape M_taped M_here M_fault M_open M_laid M_act M_with M_lineMany M_testEnd M_lineEnd M_facts M_pile M_hasLaw M_far M_within M_tooNear M_dried M_isOn M_wasOn M_bodies M_kind M_traces M_traced M_holds M_size M_elements M_shifted) (a1 : Int32) : ∃ (rc : Int32 × Nat × Int32 × Int32 × Int32 × Int32 × Int32 × Int32 × Int32 × Int32 × (Nat → Nat → Int32) × (Nat → Int32) × (Nat → Int32) × (Nat → Int32) × (Nat → Int32) × (Nat → Int32) × (Nat → Int32) × (Nat → Int32) × (Nat → Int32) × Int32 × Int32 × Int32) (rm : Int32 × Int32 × (Nat → Int32) × (Nat → Int32) × (Nat → Int32) × (Nat → Int32) × (Nat → Int32) × (Nat → Int32) × (Nat → Int32)), f_X6_breaks a1 T_price T_year T_joinEnds T_wallEnds T_cost T_doors T_joins T_walls T_oldWells T_apart L_text L_length L_read L_end L_at L_fault L_d L_p L_y L_j L_o P_away P_beside P_reach P_serves P_crowds P_servedLow P_servedHigh P_crowdedLow P_crowdedHigh P_there P_must P_can = some rc ∧ f_X7_breaks a1 M_doors M_price M_year M_joins M_joinA M_joinB M_walls M_wallA M_wallB M_cost M_olds M_near M_act M_with M_lineMany M_testEnd M_lineEnd M_facts M_pile M_hasLaw M_far M_within M_tooNear M_dried = some rm ∧ rc.1 = rm.1 ∧ INV T_price T_year T_joinEnds T_wallEnds T_cost T_doors T_joins T_walls T_oldWells T_apart L_tape L_text L_fed L_length rc.2.1 rc.2.2.1 rc.2.2.2.1 rc.2.2.2.2.1 rc.2.2.2.2.2.1 rc.2.2.2.2.2.2.1 rc.2.2.2.2.2.2.2.1 rc.2.2.2.2.2.2.2.2.1 rc.2.2.2.2.2.2.2.2.2.1 rc.2.2.2.2.2.2.2.2.2.2.1 rc.2.2.2.2.2.2.2.2.2.2.2.1 rc.2.2.2.2.2.2.2.2.2.2.2.2.1 rc.2.2.2.2.2.2.2.2.2.2.2.2.2.1 rc.2.2.2.2.2.2.2.2.2.2.2.2.2.2.1 rc.2.2.2.2.2.2.2.2.2.2.2.2.2.2.2.1 rc.2.2.2.2.2.2.2.2.2.2.2.2.2.2.2.2.1 rc.2.2.2.2.2.2.2.2.2.2.2.2.2.2.2.2.2.1 rc.2.2.2.2.2.2.2.2.2.2.2.2.2.2.2.2.2.2.1 rc.2.2.2.2.2.2.2.2.2.2.2.2.2.2.2.2.2.2.2.1 rc.2.2.2.2.2.2.2.2.2.2.2.2.2.2.2.2.2.2.2.2.1 rc.2.2.2.2.2.2.2.2.2.2.2.2.2.2.2.2.2.2.2.2.2 C_what C_number C_before C_after C_done C_kept A_kinds A_traced A_bodies A_began A_self A_kindOfSelf S_holds S_body S_sort S_size S_elements G_grown M_code M_doors M_price M_year rm.2.1 rm.2.2.1 rm.2.2.2.1 M_walls M_wallA M_wallB M_cost M_olds M_near M_doneMany M_undoneMany M_changeOf M_changeAt M_before M_behind M_tape M_taped M_here M_fault M_open M_laid M_act M_with M_lineMany M_testEnd M_lineEnd rm.2.2.2.2.1 rm.2.2.2.2.2.1 M_hasLaw rm.2.2.2.2.2.2.1 rm.2.2.2.2.2.2.2.1 rm.2.2.2.2.2.2.2.2 M_dried M_isOn M_wasOn M_bodies M_kind M_traces M_traced M_holds M_size M_elements M_shifted := by
  have hI0 := hI
  obtain ⟨n, kj, kw, o, v, nb, hT, hL, hC, hA, hS⟩ := hI
  obtain ⟨A, B, hAB⟩ := T_AB hT
  obtain ⟨⟨b1, b2, b3, b4, b5⟩, ⟨rfl, rfl, rfl, rfl, rfl, rfl, rfl, rfl, rfl, rfl, rfl⟩, h1, h2, h3, h4, h5⟩ := hT
  unfold f_X6_breaks f_X7_breaks
  rw [s_isWithin, bd_of, i01, s_in, bd_of, i01]
  by_cases q : a1 < 0 ∨ 1 < a1
  · rw [if_pos q, if_pos q]
    exact ⟨_, _, rfl, rfl, rfl, hI0⟩
  rw [if_neg q, if_neg q]
  obtain ⟨y, c, JA, JB, fa', pi', far', wi', tn', g1, g2, g3⟩ := br_loop (x1 := a1) b1 b2 b3 b4 b5 h1 h2 hAB h4 (fun i hi => (h5 i hi).1) hL.2 kw fuel fuel 0 (-2) 15 0 L_read L_end L_at L_fault L_d L_p L_y L_j L_o P_away P_beside P_reach P_serves P_crowds P_servedLow P_servedHigh P_crowdedLow P_crowdedHigh P_there P_must P_can M_joinA M_joinB M_facts M_pile M_far M_within M_tooNear (by omega) (by unfold fuel; omega) (by unfold fuel; omega) (Or.inl rfl) (fun i _ => ⟨rfl, rfl⟩)
  refine ⟨_, _, g1, g2, rfl, n, kj, kw, o, v, nb, ⟨⟨b1, b2, b3, b4, b5⟩, ⟨rfl, rfl, rfl, rfl, rfl, rfl, rfl, rfl, rfl, rfl, rfl⟩, h1, h2, fun i hi => ?_, h4, h5⟩, hL, hC, hA, hS⟩
  obtain ⟨a, b, e1, e2, e3, e4, e5, e6⟩ := h3 i hi
  exact ⟨a, b, e1, e2, e3, (g3 i hi).1.trans e4, (g3 i hi).2.trans e5, e6⟩
