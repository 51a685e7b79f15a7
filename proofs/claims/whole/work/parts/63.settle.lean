/-! both sides settled for the town as it is -/
theorem T_AB {n kj kw o v : Nat} {T_price T_year T_joinEnds T_wallEnds T_cost M_price M_year M_joinA M_joinB M_wallA M_wallB M_cost : Nat → Int32} {T_doors T_joins T_walls T_oldWells T_apart M_doors M_joins M_walls M_olds M_near M_dried : Int32}
    (h : ITown n kj kw o v T_price T_year T_joinEnds T_wallEnds T_cost T_doors T_joins T_walls T_oldWells T_apart M_doors M_price M_year M_joins M_joinA M_joinB M_walls M_wallA M_wallB M_cost M_olds M_near M_dried) :
    ∃ A B : Nat → Nat, ∀ i, i < kj → (A i < n ∧ B i < n ∧ A i ≠ B i) ∧ M_joinA i = nI (A i) ∧ M_joinB i = nI (B i) ∧ T_joinEnds i = nI (100 * A i + B i) := by
  have hex : ∀ i, ∃ a b : Nat, i < kj → (a < n ∧ b < n ∧ a ≠ b) ∧ M_joinA i = nI a ∧ M_joinB i = nI b ∧ T_joinEnds i = nI (100 * a + b) := by
    intro i
    by_cases q : i < kj
    · obtain ⟨a, b, q1, q2, q3, q4, q5, q6⟩ := h.2.2.2.2.1 i q
      exact ⟨a, b, fun _ => ⟨⟨q1, q2, q3⟩, q4, q5, q6⟩⟩
    · exact ⟨0, 0, fun z => absurd z q⟩
  exact ⟨fun i => Classical.choose (hex i), fun i => Classical.choose (Classical.choose_spec (hex i)), fun i hi => Classical.choose_spec (Classical.choose_spec (hex i)) hi⟩
theorem noWall (T_walls : Int32) : f_X5_isWall (-1) T_walls = some 0 := by
  unfold f_X5_isWall
  rw [if_pos (by decide)]
def SET (n kj o : Nat) (A B : Nat → Nat) (rch : Nat → Nat) (T_price T_year T_joinEnds T_wallEnds : Nat → Int32) (T_walls : Int32) (L_text : Nat → Int32) (L_length : Int32) (M_price M_year M_joinA M_joinB M_act M_with M_lineMany M_testEnd M_lineEnd : Nat → Int32) (M_hasLaw : Int32) : Prop :=
  (∀ d, rch d ≤ 20) ∧ CJ n kj A B (-1) T_joinEnds T_wallEnds (nI kj) T_walls ∧ MJ n kj A B M_joinA M_joinB ∧ RC n rch (nI o) (-1) T_price T_year T_joinEnds T_wallEnds (nI kj) T_walls L_text L_length ∧ zRM n rch (nI o) M_price M_year (nI kj) M_joinA M_joinB M_act M_with M_lineMany M_testEnd M_lineEnd M_hasLaw
theorem SET_ex {n kj kw o v : Nat} {T_price T_year T_joinEnds T_wallEnds T_cost M_price M_year M_joinA M_joinB M_wallA M_wallB M_cost : Nat → Int32} {T_doors T_joins T_walls T_oldWells T_apart M_doors M_joins M_walls M_olds M_near M_dried : Int32}
    {L_tape L_text : Nat → Int32} {L_fed L_length : Int32} {M_tape : Nat → Int32} {M_taped : Int32} {M_act M_with M_lineMany M_testEnd M_lineEnd : Nat → Int32} {M_hasLaw : Int32}
    (h : ITown n kj kw o v T_price T_year T_joinEnds T_wallEnds T_cost T_doors T_joins T_walls T_oldWells T_apart M_doors M_price M_year M_joins M_joinA M_joinB M_walls M_wallA M_wallB M_cost M_olds M_near M_dried)
    (hL : ILaw L_tape L_text L_fed L_length M_tape M_taped M_act M_with M_lineMany M_testEnd M_lineEnd M_hasLaw) (ob : Nat) :
    ∃ A B rch, SET n kj ob A B rch T_price T_year T_joinEnds T_wallEnds T_walls L_text L_length M_price M_year M_joinA M_joinB M_act M_with M_lineMany M_testEnd M_lineEnd M_hasLaw := by
  obtain ⟨A, B, hAB⟩ := T_AB h
  obtain ⟨⟨b1, b2, b3, b4, b5⟩, -, h1, h2, -⟩ := h
  have hC : CJ n kj A B (-1) T_joinEnds T_wallEnds (nI kj) T_walls := ⟨fun i hi => (hAB i hi).1, Or.inl ⟨noWall _, rfl, b2, fun i hi => (hAB i hi).2.2.2⟩⟩
  have hM : MJ n kj A B M_joinA M_joinB := ⟨by omega, fun i hi => ⟨(hAB i hi).1, (hAB i hi).2.1, (hAB i hi).2.2.1⟩⟩
  obtain ⟨rch, r1, r2, r3⟩ := reach_ex (o := nI ob) b1 hC hM (fun i hi => (h1 i hi).1) (fun i hi => (h2 i hi).1) hL.2
  exact ⟨A, B, rch, r1, hC, hM, r2, r3⟩
/-- the doors that a told old one, and no rock, let be -/
theorem s_settle {n kj o v : Nat} {A B : Nat → Nat} {rch : Nat → Nat} {T_price T_year T_joinEnds T_wallEnds : Nat → Int32} {T_walls : Int32} {L_text : Nat → Int32} {L_length : Int32} {M_price M_year M_joinA M_joinB M_act M_with M_lineMany M_testEnd M_lineEnd : Nat → Int32} {M_hasLaw : Int32}
    (hs : SET n kj o A B rch T_price T_year T_joinEnds T_wallEnds T_walls L_text L_length M_price M_year M_joinA M_joinB M_act M_with M_lineMany M_testEnd M_lineEnd M_hasLaw) (hn : n ≤ 14) (ho : o < 2 ^ n) (hv : v ≤ 9) (hp : ∀ i, i < n → T_price i = M_price i ∧ le_ (M_price i) 99)
    (L_read : Nat) (L_end L_at L_fault L_d L_p L_y L_j L_o : Int32) (P_away : Nat → Nat → Int32) (P_beside P_reach P_serves P_crowds P_servedLow P_servedHigh P_crowdedLow P_crowdedHigh : Nat → Int32) (P_there0 P_must0 P_can0 : Int32) :
    ∃ rd e a f' d p y j o' W' Be' P' sv' cw' sl' sh' cl' ch' mu ca, f_X6_settle T_price T_year T_joinEnds T_wallEnds (nI n) (nI kj) T_walls (nI o) (nI v) L_text L_length L_read L_end L_at L_fault L_d L_p L_y L_j L_o P_away P_beside P_reach P_serves P_crowds P_servedLow P_servedHigh P_crowdedLow P_crowdedHigh P_there0 P_must0 P_can0 = some (rd, e, a, f', d, p, y, j, o', W', Be', P', sv', cw', sl', sh', cl', ch', nI (2 ^ n - 1), mu, ca) ∧
      zLaid (2 ^ n - 1) (RJ (2 ^ n - 1) kj A B) rch v (fun d => o.testBit d = true ∧ (2 ^ n - 1).testBit d = true) (fun d => (o.testBit d = true ∧ (2 ^ n - 1).testBit d = true) ∨ ((d < n ∧ ¬ T_price d = 0) ∧ (2 ^ n - 1).testBit d = true)) W' sv' cw' sl' sh' cl' ch' (nI (2 ^ n - 1)) mu ca := by
  obtain ⟨r1, hC, hM, r2, r3⟩ := hs
  obtain ⟨rd, e, a, f', d, p, y, j, o', W', Be', P', sv', cw', sl', sh', cl', ch', mu, ca, t1, t2⟩ := s_lay (all_lt n) (lt14 hn ho) hv hn hC r1 r2 (fun i hi => by rw [(hp i hi).1]; exact (hp i hi).2) L_read L_end L_at L_fault L_d L_p L_y L_j L_o P_away P_beside P_reach P_serves P_crowds P_servedLow P_servedHigh P_crowdedLow P_crowdedHigh P_there0 P_must0 P_can0
  refine ⟨rd, e, a, f', d, p, y, j, o', W', Be', P', sv', cw', sl', sh', cl', ch', mu, ca, ?_, t2⟩
  unfold f_X6_settle
  rw [s_everyDoor hn, bd_of, t1, bd_of]
