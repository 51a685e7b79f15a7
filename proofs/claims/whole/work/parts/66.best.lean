/-! counting bits; best, all -/
theorem s_pc {w : Nat} (hw : w < 2 ^ 14) : f_J6_bitCount_0f7a4 (nI w) = some (nI (pc w)) ∧ f_X7_bitsOf (nI w) = some (nI (pc w)) ∧ pc w ≤ 14 := by
  have e : 128 * (w / 128) + w % 128 = w := Nat.div_add_mod w 128
  have h1 := pc_tab6 (w / 128) (by omega) (w % 128) (Nat.mod_lt _ (by decide))
  rw [e] at h1
  exact ⟨h1, pc_bo hw, pcn_le 14 w⟩
/-- what may be, for the town as it is -/
theorem both_may {n o v : Nat} {R : Nat → Nat → Prop} {rch : Nat → Nat} {T_price M_price M_far M_within M_tooNear : Nat → Int32} {P_away : Nat → Nat → Int32} {P_serves P_crowds P_servedLow P_servedHigh P_crowdedLow P_crowdedHigh : Nat → Int32} {P_there P_must P_can : Int32} (hn : n ≤ 14) (ho : o < 2 ^ n) (hp : ∀ i, i < n → T_price i = M_price i ∧ le_ (M_price i) 99)
    (hL : zLaid (2 ^ n - 1) R rch v (fun d => o.testBit d = true ∧ (2 ^ n - 1).testBit d = true) (fun d => (o.testBit d = true ∧ (2 ^ n - 1).testBit d = true) ∨ ((d < n ∧ ¬ T_price d = 0) ∧ (2 ^ n - 1).testBit d = true)) P_away P_serves P_crowds P_servedLow P_servedHigh P_crowdedLow P_crowdedHigh P_there P_must P_can)
    (hF : zFound n R rch v M_far M_within M_tooNear) {w : Nat} (hw : w < 2 ^ n) :
    f_X3_mayBe (nI w) P_servedLow P_servedHigh P_crowdedLow P_crowdedHigh P_there P_must P_can = some (b01 (MayP n (2 ^ n - 1) o (fun d => M_price d = 0) R rch v w)) ∧
    f_X7_mayBe (nI w) (nI n) M_price (nI o) M_within M_tooNear 0 = some (b01 (MayP n (2 ^ n - 1) o (fun d => M_price d = 0) R rch v w)) := by
  refine ⟨l_mayBe hL hn (all_lt n) (fun d hd => Iff.rfl) (fun d hd => ?_) hw, m_mayBe hF hn M_price isB_0 (fun d hd => ⟨Or.inr, fun z => z.elim False.elim id⟩) ho hw⟩
  rw [(hp d hd).1]
  constructor
  · rintro (⟨z1, z2⟩ | ⟨⟨z1, z2⟩, z3⟩)
    · exact ⟨z2, Or.inl z1⟩
    · exact ⟨z3, Or.inr z2⟩
  · rintro ⟨z1, z2 | z2⟩
    · exact Or.inl ⟨z2, z1⟩
    · exact Or.inr ⟨⟨hd, z2⟩, z1⟩
section BEST
variable {n : Nat} {p : Nat → Prop} {T_price M_price sl sh cl ch wi tn fa pi far : Nat → Int32} {mu ca dr M_olds : Int32}
theorem lb_loop {x2 x3 : Int32} (hn : n ≤ 14) (h6 : ∀ w, w < 2 ^ n → f_X3_mayBe (nI w) sl sh cl ch (nI (2 ^ n - 1)) mu ca = some (b01 (p w))) (h7 : ∀ w, w < 2 ^ n → f_X7_mayBe (nI w) (nI n) M_price M_olds wi tn dr = some (b01 (p w)))
    (hw : ∀ w, w < 2 ^ n → ∃ y, f_X3_weight x2 (nI w) x3 T_price (nI n) mu = some y ∧ f_X7_rank (nI w) x2 (nI n) M_price M_olds = some y) :
    ∀ (r f f7 m : Nat) (x4 x5 : Int32), r + m = 2 ^ n → f ≥ r + 1 → f7 ≥ r + 1 → (x4 = -2 ∨ ∃ w, w < 2 ^ n ∧ x4 = nI w) →
    ∃ y, (y = -2 ∨ ∃ w, w < 2 ^ n ∧ y = nI w) ∧ f_X3_least_b10 x2 x3 T_price (nI n) sl sh cl ch (nI (2 ^ n - 1)) mu ca f x4 x5 (nI m) = some y ∧ f_X7_bestBy_b16 x2 (nI n) M_price M_olds fa pi far wi tn dr f7 x4 x5 (nI m) = some (y, fa, pi, far, wi, tn)
  | 0, f + 1, f7 + 1, m, x4, x5, h, hf, hf7, hx => by
    have e : m = 2 ^ n := by omega
    have hp := p14 hn
    subst e
    refine ⟨x4, hx, ?_, ?_⟩
    · rw [f_X3_least_b10, if_pos (by rw [lt_nI (by omega) (by omega)]; exact all_lt n)]
    · rw [f_X7_bestBy_b16, s_allDoors hn, bd_of, if_pos (by rw [lt_nI (by omega) (by omega)]; exact all_lt n)]
  | r + 1, f + 1, f7 + 1, m, x4, x5, h, hf, hf7, hx => by
    have hm : m < 2 ^ n := by omega
    have hp := p14 hn
    rw [f_X7_bestBy_b16, s_allDoors hn, bd_of, if_neg (by rw [lt_nI (by omega) (by omega)]; omega), f_X3_least_b10, if_neg (by rw [lt_nI (by omega) (by omega)]; omega), h6 m hm, bd_of, b01_if, h7 m hm, bd_of, b01_if]
    unfold f_X3_least_b54 f_X3_least_b62 f_X7_bestBy_b52 f_X7_bestBy_b63
    rw [nI_1]
    obtain ⟨y, g1, g2⟩ := hw m hm
    by_cases q : p m
    · rw [@if_pos _ (Classical.propDecidable _) q, @if_pos _ (Classical.propDecidable _) q, g1, bd_of, g2, bd_of, bd_of]
      by_cases q2 : x4 < 0
      · rw [if_pos q2, if_pos q2]
        exact lb_loop hn h6 h7 hw r f f7 (m + 1) (nI m) y (by omega) (by omega) (by omega) (Or.inr ⟨m, hm, rfl⟩)
      · rw [if_neg q2, if_neg q2]
        by_cases q3 : x5 ≤ y
        · rw [if_pos q3, if_neg (Int32.not_lt.mpr q3)]
          exact lb_loop hn h6 h7 hw r f f7 (m + 1) x4 x5 (by omega) (by omega) (by omega) hx
        · rw [if_neg q3, if_pos (Int32.not_le.mp q3)]
          exact lb_loop hn h6 h7 hw r f f7 (m + 1) (nI m) y (by omega) (by omega) (by omega) (Or.inr ⟨m, hm, rfl⟩)
    · rw [@if_neg _ (Classical.propDecidable _) q, @if_neg _ (Classical.propDecidable _) q]
      exact lb_loop hn h6 h7 hw r f f7 (m + 1) x4 x5 (by omega) (by omega) (by omega) hx
  | _, 0, _, _, _, _, _, hf, _, _ => by omega
  | _, _ + 1, 0, _, _, _, _, _, hf, _ => by omega
theorem pr_loop (hn : n ≤ 14) (hp : ∀ i, i < n → T_price i = M_price i) {x6 x7 : Int32} {Q : Nat → Prop} (i6 : isBt x6 Q) {y7 : Int32} {Q7 : Nat → Prop} (i7 : isBt (x7 &&& (M_olds ^^^ (-1))) Q7) (hQ : ∀ d, d < n → (Q d ↔ Q7 d)) :
    ∀ (r f f7 x3 : Nat) (a : Int32), r + x3 = n → f ≥ r + 1 → f7 ≥ r + 1 → ∃ y, f_X3_priceOf_b4 x6 T_price (nI n) f a (nI x3) = some y ∧ f_X7_priceOf_b4 x7 (nI n) M_price M_olds f7 a (nI x3) = some y
  | 0, f + 1, f7 + 1, x3, a, h, hf, hf7 => by
    have e : x3 = n := by omega
    subst e
    exact ⟨a, by rw [f_X3_priceOf_b4, if_pos (by rw [le_nI (by omega) (by omega)]; omega)], by rw [f_X7_priceOf_b4, if_pos (by rw [le_nI (by omega) (by omega)]; omega)]⟩
  | r + 1, f + 1, f7 + 1, x3, a, h, hf, hf7 => by
    have h3 : x3 < n := by omega
    rw [f_X7_priceOf_b4, if_neg (by rw [le_nI (by omega) (by omega)]; omega), f_X3_priceOf_b4, if_neg (by rw [le_nI (by omega) (by omega)]; omega), ite_eqc (isB_t0 i6 (show x3 < 14 by omega)), ite_eqc (isB_t1 i7 (show x3 < 14 by omega))]
    unfold f_X3_priceOf_b31 f_X7_priceOf_b37
    rw [nI_1]
    by_cases q : Q x3
    · rw [if_neg (fun z => z q), if_pos ((hQ x3 h3).mp q), ix_nI (show x3 < 14 by omega) (by decide), ix_nI (show x3 < 14 by omega) (by decide), cl_nI (by omega), hp x3 h3]
      exact pr_loop hn hp i6 (y7 := y7) i7 hQ r f f7 (x3 + 1) _ (by omega) (by omega) (by omega)
    · rw [if_pos q, if_neg (fun z => q ((hQ x3 h3).mpr z)), Int32.add_zero]
      exact pr_loop hn hp i6 (y7 := y7) i7 hQ r f f7 (x3 + 1) _ (by omega) (by omega) (by omega)
  | _, 0, _, _, _, _, hf, _ => by omega
  | _, _ + 1, 0, _, _, _, _, hf => by omega
theorem s_weight {o : Nat} (hn : n ≤ 14) (ho : o < 2 ^ n) (hp : ∀ i, i < n → T_price i = M_price i) (hm : isBt mu (fun d => o.testBit d = true ∧ (2 ^ n - 1).testBit d = true)) {x2 x3 : Int32} (h3 : ¬ x2 = 3) {w : Nat} (hw : w < 2 ^ n) :
    ∃ y, f_X3_weight x2 (nI w) x3 T_price (nI n) mu = some y ∧ f_X7_rank (nI w) x2 (nI n) M_price (nI o) = some y := by
  obtain ⟨c1, c2, c3⟩ := s_pc (lt14 hn hw)
  unfold f_X3_weight f_X7_rank
  rw [c1, c2]
  by_cases q0 : x2 = 0
  · rw [if_pos q0, if_pos q0]
    exact ⟨_, rfl, rfl⟩
  by_cases q1 : x2 = 1
  · rw [if_neg q0, if_pos q1, if_neg q0, if_pos q1]
    exact ⟨_, rfl, rfl⟩
  rw [if_neg q0, if_neg q1, if_neg h3, if_neg q0, if_neg q1]
  unfold f_X3_weight_b51 f_X3_priceOf f_X7_priceOf
  obtain ⟨y, g1, g2⟩ := pr_loop hn hp (isB_not (isB_n (lt14 hn hw)) hm) (y7 := 0) (isB_not (isB_n (lt14 hn hw)) (isB_n (lt14 hn ho))) (fun d hd => ⟨fun z => ⟨z.1, fun y => z.2 ⟨y, tb_all.mpr hd⟩⟩, fun z => ⟨z.1, fun y => z.2 y.1⟩⟩) n fuel fuel 0 0 (by omega) (by unfold fuel; omega) (by unfold fuel; omega)
  refine ⟨y, ?_, ?_⟩
  · exact congrArg (fun z => bd z fun u7 => some u7) g1
  · exact congrArg (fun z => bd z fun u7 => some u7) g2
end BEST
set_option maxHeartbeats 1000000 in
theorem pu_best {T_price : Nat → Int32} {T_year : Nat → Int32} {T_joinEnds : Nat → Int32} {T_wallEnds : Nat → Int32} {T_cost : Nat → Int32} {T_doors : Int32} {T_joins : Int32} {T_walls : Int32} {T_oldWells : Int32} {T_apart : Int32} {L_tape : Nat → Int32} {L_text : Nat → Int32} {L_fed : Int32} {L_length : Int32} {L_read : Nat} {L_end : Int32} {L_at : Int32} {L_fault : Int32} {L_d : Int32} {L_p : Int32} {L_y : Int32} {L_j : Int32} {L_o : Int32} {P_away : Nat → Nat → Int32} {P_beside : Nat → Int32} {P_reach : Nat → Int32} {P_serves : Nat → Int32} {P_crowds : Nat → Int32} {P_servedLow : Nat → Int32} {P_servedHigh : Nat → Int32} {P_crowdedLow : Nat → Int32} {P_crowdedHigh : Nat → Int32} {P_there : Int32} {P_must : Int32} {P_can : Int32} {C_what : Nat → Int32} {C_number : Nat → Int32} {C_before : Nat → Int32} {C_after : Nat → Int32} {C_done : Int32} {C_kept : Int32} {A_kinds : Nat → Int32} {A_traced : Nat → Int32} {A_bodies : Int32} {A_began : Int32} {A_self : Int32} {A_kindOfSelf : Int32} {S_holds : Nat → Int32} {S_body : Nat → Int32} {S_sort : Nat → Int32} {S_size : Nat → Int32} {S_elements : Nat → Nat → Int64} {G_grown : Nat → Int32} {M_code : Int32} {M_doors : Int32} {M_price : Nat → Int32} {M_year : Nat → Int32} {M_joins : Int32} {M_joinA : Nat → Int32} {M_joinB : Nat → Int32} {M_walls : Int32} {M_wallA : Nat → Int32} {M_wallB : Nat → Int32} {M_cost : Nat → Int32} {M_olds : Int32} {M_near : Int32} {M_doneMany : Int32} {M_undoneMany : Int32} {M_changeOf : Nat → Int32} {M_changeAt : Nat → Int32} {M_before : Nat → Int32} {M_behind : Nat → Int32} {M_tape : Nat → Int32} {M_taped : Int32} {M_here : Int32} {M_fault : Int32} {M_open : Int32} {M_laid : Int32} {M_act : Nat → Int32} {M_with : Nat → Int32} {M_lineMany : Nat → Int32} {M_testEnd : Nat → Int32} {M_lineEnd : Nat → Int32} {M_facts : Nat → Int32} {M_pile : Nat → Int32} {M_hasLaw : Int32} {M_far : Nat → Int32} {M_within : Nat → Int32} {M_tooNear : Nat → Int32} {M_dried : Int32} {M_isOn : Nat → Int32} {M_wasOn : Nat → Int32} {M_bodies : Int32} {M_kind : Nat → Int32} {M_traces : Int32} {M_traced : Nat → Int32} {M_holds : Nat → Int32} {M_size : Nat → Int32} {M_elements : Nat → Int64} {M_shifted : Nat → Int64} (hI : INV T_price T_year T_joinEnds T_wallEnds T_cost T_doors T_joins T_walls T_oldWells T_apart L_tape L_text L_fed L_length L_read L_end L_at L_fault L_d L_p L_y L_j L_o P_away P_beside P_reach P_serves P_crowds P_servedLow P_servedHigh P_crowdedLow P_crowdedHigh P_there P_must P_can C_what C_number C_before C_after C_done C_kept A_kinds A_traced A_bodies A_began A_self A_kindOfSelf S_holds S_body S_sort S_size S_elements G_grown M_code M_doors M_price M_year M_joins M_joinA M_joinB M_walls M_wallA M_wallB M_cost M_olds M_near M_doneMany M_undoneMany M_changeOf M_changeAt M_before M_behind M_tape M_taped M_here M_fault M_open M_laid M_act M_with M_lineMany M_testEnd M_lineEnd M_facts M_pile M_hasLaw M_far M_within M_tooNear M_dried M_isOn M_wasOn M_bodies M_kind M_traces M_traced M_holds M_size M_elements M_shifted) (a1 : Int32) : ∃ (rc : Int32 × Nat × Int32 × Int32 × Int32 × Int32 × Int32 × Int32 × Int32 × Int32 × (Nat → Nat → Int32) × (Nat → Int32) × (Nat → Int32) × (Nat → Int32) × (Nat → Int32) × (Nat → Int32) × (Nat → Int32) × (Nat → Int32) × (Nat → Int32) × Int32 × Int32 × Int32) (rm : Int32 × (Nat → Int32) × (Nat → Int32) × (Nat → Int32) × (Nat → Int32) × (Nat → Int32)), f_X6_best a1 T_price T_year T_joinEnds T_wallEnds T_doors T_joins T_walls T_oldWells T_apart L_text L_length L_read L_end L_at L_fault L_d L_p L_y L_j L_o P_away P_beside P_reach P_serves P_crowds P_servedLow P_servedHigh P_crowdedLow P_crowdedHigh P_there P_must P_can = some rc ∧ f_X7_best a1 M_doors M_price M_year M_joins M_joinA M_joinB M_olds M_near M_act M_with M_lineMany M_testEnd M_lineEnd M_facts M_pile M_hasLaw M_far M_within M_tooNear M_dried = some rm ∧ rc.1 = rm.1 ∧ INV T_price T_year T_joinEnds T_wallEnds T_cost T_doors T_joins T_walls T_oldWells T_apart L_tape L_text L_fed L_length rc.2.1 rc.2.2.1 rc.2.2.2.1 rc.2.2.2.2.1 rc.2.2.2.2.2.1 rc.2.2.2.2.2.2.1 rc.2.2.2.2.2.2.2.1 rc.2.2.2.2.2.2.2.2.1 rc.2.2.2.2.2.2.2.2.2.1 rc.2.2.2.2.2.2.2.2.2.2.1 rc.2.2.2.2.2.2.2.2.2.2.2.1 rc.2.2.2.2.2.2.2.2.2.2.2.2.1 rc.2.2.2.2.2.2.2.2.2.2.2.2.2.1 rc.2.2.2.2.2.2.2.2.2.2.2.2.2.2.1 rc.2.2.2.2.2.2.2.2.2.2.2.2.2.2.2.1 rc.2.2.2.2.2.2.2.2.2.2.2.2.2.2.2.2.1 rc.2.2.2.2.2.2.2.2.2.2.2.2.2.2.2.2.2.1 rc.2.2.2.2.2.2.2.2.2.2.2.2.2.2.2.2.2.2.1 rc.2.2.2.2.2.2.2.2.2.2.2.2.2.2.2.2.2.2.2.1 rc.2.2.2.2.2.2.2.2.2.2.2.2.2.2.2.2.2.2.2.2.1 rc.2.2.2.2.2.2.2.2.2.2.2.2.2.2.2.2.2.2.2.2.2 C_what C_number C_before C_after C_done C_kept A_kinds A_traced A_bodies A_began A_self A_kindOfSelf S_holds S_body S_sort S_size S_elements G_grown M_code M_doors M_price M_year M_joins M_joinA M_joinB M_walls M_wallA M_wallB M_cost M_olds M_near M_doneMany M_undoneMany M_changeOf M_changeAt M_before M_behind M_tape M_taped M_here M_fault M_open M_laid M_act M_with M_lineMany M_testEnd M_lineEnd rm.2.1 rm.2.2.1 M_hasLaw rm.2.2.2.1 rm.2.2.2.2.1 rm.2.2.2.2.2 M_dried M_isOn M_wasOn M_bodies M_kind M_traces M_traced M_holds M_size M_elements M_shifted := by
  have hI0 := hI
  obtain ⟨n, kj, kw, o, v, nb, hT, hL, hC, hA, hS⟩ := hI
  obtain ⟨A, B, rch, hset⟩ := SET_ex hT hL o
  have hT0 := hT
  obtain ⟨⟨b1, b2, b3, b4, b5⟩, ⟨rfl, rfl, rfl, rfl, rfl, rfl, rfl, rfl, rfl, rfl, rfl⟩, h1, h2, h3, h4, h5⟩ := hT
  obtain ⟨rd, e, a', f', d, p, y, j, o', W', Be', P', sv', cw', sl', sh', cl', ch', mu, ca, t1, t2⟩ := s_settle hset b1 b4 b5 h1 L_read L_end L_at L_fault L_d L_p L_y L_j L_o P_away P_beside P_reach P_serves P_crowds P_servedLow P_servedHigh P_crowdedLow P_crowdedHigh P_there P_must P_can
  obtain ⟨fa', pi', far', wi', tn', g1, g2⟩ := s_findAll b1 (all_lt n) b5 hset.1 hset.2.2.1 hset.2.2.2.2 M_facts M_pile M_far M_within M_tooNear
  have key : ∀ x2 : Int32, ¬ x2 = 3 → ∃ y0, f_X3_least x2 0 T_price (nI n) sl' sh' cl' ch' (nI (2 ^ n - 1)) mu ca = some y0 ∧ f_X7_bestBy_b16 x2 (nI n) M_price (nI o) fa' pi' far' wi' tn' 0 fuel (-2) 0 0 = some (y0, fa', pi', far', wi', tn') := by
    intro x2 hx
    have hp := p14 b1
    obtain ⟨y0, -, j1, j2⟩ := lb_loop (x3 := 0) (fa := fa') (pi := pi') (far := far') b1 (fun w hw => (both_may b1 b4 h1 t2 g2 hw).1) (fun w hw => (both_may b1 b4 h1 t2 g2 hw).2) (fun w hw => s_weight b1 b4 (fun i hi => (h1 i hi).1) t2.2.2.2.2.2.2.2.2.1 hx hw) (2 ^ n) fuel fuel 0 (-2) 0 (by omega) (by unfold fuel; omega) (by unfold fuel; omega) (Or.inl rfl)
    exact ⟨y0, j1, j2⟩
  unfold f_X6_best f_X7_best f_X6_best_b16 f_X7_bestBy
  rw [t1, bd_of, s_allDoors b1, bd_of, g1, bd_of, s_in, bd_of, i01]
  by_cases q0 : a1 = 0
  · obtain ⟨y0, j1, j2⟩ := key a1 (by rw [q0]; decide)
    rw [if_pos q0, if_neg (by rw [q0]; decide)]
    dsimp only
    rw [j1, bd_of, j2, bd_of]
    exact ⟨_, _, rfl, rfl, rfl, n, kj, kw, o, v, nb, hT0, hL, hC, hA, hS⟩
  by_cases q1 : a1 = 1
  · obtain ⟨y0, j1, j2⟩ := key a1 (by rw [q1]; decide)
    rw [if_neg q0, if_pos q1, if_neg (by rw [q1]; decide)]
    dsimp only
    rw [j1, bd_of, j2, bd_of]
    exact ⟨_, _, rfl, rfl, rfl, n, kj, kw, o, v, nb, hT0, hL, hC, hA, hS⟩
  by_cases q2 : a1 = 2
  · obtain ⟨y0, j1, j2⟩ := key a1 (by rw [q2]; decide)
    rw [if_neg q0, if_neg q1, if_pos q2, if_neg (by rw [q2]; decide)]
    dsimp only
    rw [j1, bd_of, j2, bd_of]
    exact ⟨_, _, rfl, rfl, rfl, n, kj, kw, o, v, nb, hT0, hL, hC, hA, hS⟩
  · rw [if_neg q0, if_neg q1, if_neg q2, if_pos]
    · exact ⟨_, _, rfl, rfl, rfl, hI0⟩
    · refine Classical.byContradiction fun z => ?_
      obtain ⟨k, hk, rfl⟩ := nI_in_of (k := 2) (by decide) z
      have : k = 0 ∨ k = 1 ∨ k = 2 := by omega
      rcases this with rfl | rfl | rfl
      · exact q0 rfl
      · exact q1 rfl
      · exact q2 rfl
