/-! dry -/
section DRY
variable {n : Nat} {p : Nat → Prop} {T_price M_price sl sh cl ch wi tn fa pi far : Nat → Int32} {mu ca dr M_olds : Int32}
theorem dr_loop {left x1 x2 x3 xo : Int32} (hn : n ≤ 14) (h6 : ∀ w, w < 2 ^ n → f_X3_mayBe (nI w) sl sh cl ch (nI (2 ^ n - 1)) mu ca = some (b01 (p w))) (h7 : ∀ w, w < 2 ^ n → f_X7_mayBe (nI w) (nI n) M_price M_olds wi tn dr = some (b01 (p w)))
    (hw : ∀ w, w < 2 ^ n → ∃ y, f_X7_bitsOf ((nI w ^^^ x1) &&& (((1 : Int32) <<< (x2 &&& 31)) ^^^ (-1))) = some y ∧ (p w → f_J6_bitCount_0f7a4 (nI w ^^^ left) = some y)) :
    ∀ (r f f7 m : Nat) (x4 x5 : Int32), r + m = 2 ^ n → f ≥ r + 1 → f7 ≥ r + 1 → (x4 = -2 ∨ ∃ b, b < 2 ^ n ∧ x4 = nI b ∧ f_J6_bitCount_0f7a4 (nI b ^^^ left) = some x5) →
    ∃ y z, (y = -2 ∨ ∃ b, b < 2 ^ n ∧ y = nI b ∧ f_J6_bitCount_0f7a4 (nI b ^^^ left) = some z) ∧ f_X3_least_b10 3 left T_price (nI n) sl sh cl ch (nI (2 ^ n - 1)) mu ca f x4 x5 (nI m) = some y ∧
      f_X7_dry_b99 x1 x2 x3 xo (nI n) M_price M_olds fa pi far wi tn dr f7 x4 x5 (nI m) = (if y < 0 then some (y, xo, fa, pi, far, wi, tn, 0) else if x3 = 0 then some (y, xo, fa, pi, far, wi, tn, 0) else some (z, xo, fa, pi, far, wi, tn, 0))
  | 0, f + 1, f7 + 1, m, x4, x5, h, hf, hf7, hx => by
    have e : m = 2 ^ n := by omega
    have hp := p14 hn
    subst e
    refine ⟨x4, x5, hx, ?_, ?_⟩
    · rw [f_X3_least_b10, if_pos (by rw [lt_nI (by omega) (by omega)]; exact all_lt n)]
    · rw [f_X7_dry_b99, s_allDoors hn, bd_of, if_pos (by rw [lt_nI (by omega) (by omega)]; exact all_lt n)]
  | r + 1, f + 1, f7 + 1, m, x4, x5, h, hf, hf7, hx => by
    have hm : m < 2 ^ n := by omega
    have hp := p14 hn
    have ih := fun x4 x5 hx => dr_loop (x3 := x3) (xo := xo) hn h6 h7 hw r f f7 (m + 1) x4 x5 (by omega) (by omega) (by omega) hx
    obtain ⟨y, g1, g2⟩ := hw m hm
    rw [f_X7_dry_b99, s_allDoors hn, bd_of, if_neg (by rw [lt_nI (by omega) (by omega)]; omega), g1, bd_of, f_X3_least_b10, if_neg (by rw [lt_nI (by omega) (by omega)]; omega), h6 m hm, bd_of, b01_if]
    unfold f_X3_least_b54 f_X3_least_b62 f_X7_dry_b135 f_X7_dry_b155
    rw [h7 m hm, bd_of, b01_if, nI_1]
    by_cases q : p m
    · have hy := g2 q
      have hwt : f_X3_weight 3 (nI m) left T_price (nI n) mu = some y := by
        unfold f_X3_weight
        rw [if_neg (by decide), if_neg (by decide), if_pos rfl, hy]
        rfl
      rw [if_pos q, if_pos q, hwt, bd_of]
      by_cases q2 : x4 < 0
      · rw [if_pos q2, if_pos q2]
        exact ih (nI m) y (Or.inr ⟨m, hm, rfl, hy⟩)
      · rw [if_neg q2, if_neg q2]
        by_cases q3 : x5 ≤ y
        · rw [if_pos q3, if_pos q3]
          exact ih x4 x5 hx
        · rw [if_neg q3, if_neg q3]
          exact ih (nI m) y (Or.inr ⟨m, hm, rfl, hy⟩)
    · rw [if_neg q, if_neg q, ite_self, ite_self]
      exact ih x4 x5 hx
  | _, 0, _, _, _, _, _, hf, _, _ => by omega
  | _, _ + 1, 0, _, _, _, _, _, hf, _ => by omega
end DRY
theorem isB_xor {x y : Int32} {P Q : Nat → Prop} (h : isBt x P) (g : isBt y Q) : isBt (x ^^^ y) (fun d => ¬ (P d ↔ Q d)) := by
  obtain ⟨u, h1, rfl, h3⟩ := h
  obtain ⟨w, g1, rfl, g3⟩ := g
  refine ⟨u ^^^ w, Nat.xor_lt_two_pow h1 g1, nb_xor u w, fun d hd => ?_⟩
  show _ ↔ ¬ (P d ↔ Q d)
  rw [← h3 d hd, ← g3 d hd, Nat.testBit_xor]
  cases u.testBit d <;> cases w.testBit d <;> simp
theorem isB_pc {x : Int32} {P : Nat → Prop} (h : isBt x P) : ∃ k, f_J6_bitCount_0f7a4 x = some k ∧ f_X7_bitsOf x = some k := by
  obtain ⟨u, h1, rfl, -⟩ := h
  obtain ⟨c1, c2, -⟩ := s_pc h1
  exact ⟨_, c1, c2⟩
set_option maxHeartbeats 2000000 in
theorem pu_dry {T_price : Nat → Int32} {T_year : Nat → Int32} {T_joinEnds : Nat → Int32} {T_wallEnds : Nat → Int32} {T_cost : Nat → Int32} {T_doors : Int32} {T_joins : Int32} {T_walls : Int32} {T_oldWells : Int32} {T_apart : Int32} {L_tape : Nat → Int32} {L_text : Nat → Int32} {L_fed : Int32} {L_length : Int32} {L_read : Nat} {L_end : Int32} {L_at : Int32} {L_fault : Int32} {L_d : Int32} {L_p : Int32} {L_y : Int32} {L_j : Int32} {L_o : Int32} {P_away : Nat → Nat → Int32} {P_beside : Nat → Int32} {P_reach : Nat → Int32} {P_serves : Nat → Int32} {P_crowds : Nat → Int32} {P_servedLow : Nat → Int32} {P_servedHigh : Nat → Int32} {P_crowdedLow : Nat → Int32} {P_crowdedHigh : Nat → Int32} {P_there : Int32} {P_must : Int32} {P_can : Int32} {C_what : Nat → Int32} {C_number : Nat → Int32} {C_before : Nat → Int32} {C_after : Nat → Int32} {C_done : Int32} {C_kept : Int32} {A_kinds : Nat → Int32} {A_traced : Nat → Int32} {A_bodies : Int32} {A_began : Int32} {A_self : Int32} {A_kindOfSelf : Int32} {S_holds : Nat → Int32} {S_body : Nat → Int32} {S_sort : Nat → Int32} {S_size : Nat → Int32} {S_elements : Nat → Nat → Int64} {G_grown : Nat → Int32} {M_code : Int32} {M_doors : Int32} {M_price : Nat → Int32} {M_year : Nat → Int32} {M_joins : Int32} {M_joinA : Nat → Int32} {M_joinB : Nat → Int32} {M_walls : Int32} {M_wallA : Nat → Int32} {M_wallB : Nat → Int32} {M_cost : Nat → Int32} {M_olds : Int32} {M_near : Int32} {M_doneMany : Int32} {M_undoneMany : Int32} {M_changeOf : Nat → Int32} {M_changeAt : Nat → Int32} {M_before : Nat → Int32} {M_behind : Nat → Int32} {M_tape : Nat → Int32} {M_taped : Int32} {M_here : Int32} {M_fault : Int32} {M_open : Int32} {M_laid : Int32} {M_act : Nat → Int32} {M_with : Nat → Int32} {M_lineMany : Nat → Int32} {M_testEnd : Nat → Int32} {M_lineEnd : Nat → Int32} {M_facts : Nat → Int32} {M_pile : Nat → Int32} {M_hasLaw : Int32} {M_far : Nat → Int32} {M_within : Nat → Int32} {M_tooNear : Nat → Int32} {M_dried : Int32} {M_isOn : Nat → Int32} {M_wasOn : Nat → Int32} {M_bodies : Int32} {M_kind : Nat → Int32} {M_traces : Int32} {M_traced : Nat → Int32} {M_holds : Nat → Int32} {M_size : Nat → Int32} {M_elements : Nat → Int64} {M_shifted : Nat → Int64} (hI : INV T_price T_year T_joinEnds T_wallEnds T_cost T_doors T_joins T_walls T_oldWells T_apart L_tape L_text L_fed L_length L_read L_end L_at L_fault L_d L_p L_y L_j L_o P_away P_beside P_reach P_serves P_crowds P_servedLow P_servedHigh P_crowdedLow P_crowdedHigh P_there P_must P_can C_what C_number C_before C_after C_done C_kept A_kinds A_traced A_bodies A_began A_self A_kindOfSelf S_holds S_body S_sort S_size S_elements G_grown M_code M_doors M_price M_year M_joins M_joinA M_joinB M_walls M_wallA M_wallB M_cost M_olds M_near M_doneMany M_undoneMany M_changeOf M_changeAt M_before M_behind M_tape M_taped M_here M_fault M_open M_laid M_act M_with M_lineMany M_testEnd M_lineEnd M_facts M_pile M_hasLaw M_far M_within M_tooNear M_dried M_isOn M_wasOn M_bodies M_kind M_traces M_traced M_holds M_size M_elements M_shifted) (a1 : Int32) (a2 : Int32) (a3 : Int32) : ∃ (rc : Int32 × Nat × Int32 × Int32 × Int32 × Int32 × Int32 × Int32 × Int32 × Int32 × (Nat → Nat → Int32) × (Nat → Int32) × (Nat → Int32) × (Nat → Int32) × (Nat → Int32) × (Nat → Int32) × (Nat → Int32) × (Nat → Int32) × (Nat → Int32) × Int32 × Int32 × Int32) (rm : Int32 × Int32 × (Nat → Int32) × (Nat → Int32) × (Nat → Int32) × (Nat → Int32) × (Nat → Int32) × Int32), f_X6_dry a1 a2 a3 T_price T_year T_joinEnds T_wallEnds T_doors T_joins T_walls T_oldWells T_apart L_text L_length L_read L_end L_at L_fault L_d L_p L_y L_j L_o P_away P_beside P_reach P_serves P_crowds P_servedLow P_servedHigh P_crowdedLow P_crowdedHigh P_there P_must P_can = some rc ∧ f_X7_dry a1 a2 a3 M_doors M_price M_year M_joins M_joinA M_joinB M_olds M_near M_act M_with M_lineMany M_testEnd M_lineEnd M_facts M_pile M_hasLaw M_far M_within M_tooNear M_dried = some rm ∧ rc.1 = rm.1 ∧ INV T_price T_year T_joinEnds T_wallEnds T_cost T_doors T_joins T_walls T_oldWells T_apart L_tape L_text L_fed L_length rc.2.1 rc.2.2.1 rc.2.2.2.1 rc.2.2.2.2.1 rc.2.2.2.2.2.1 rc.2.2.2.2.2.2.1 rc.2.2.2.2.2.2.2.1 rc.2.2.2.2.2.2.2.2.1 rc.2.2.2.2.2.2.2.2.2.1 rc.2.2.2.2.2.2.2.2.2.2.1 rc.2.2.2.2.2.2.2.2.2.2.2.1 rc.2.2.2.2.2.2.2.2.2.2.2.2.1 rc.2.2.2.2.2.2.2.2.2.2.2.2.2.1 rc.2.2.2.2.2.2.2.2.2.2.2.2.2.2.1 rc.2.2.2.2.2.2.2.2.2.2.2.2.2.2.2.1 rc.2.2.2.2.2.2.2.2.2.2.2.2.2.2.2.2.1 rc.2.2.2.2.2.2.2.2.2.2.2.2.2.2.2.2.2.1 rc.2.2.2.2.2.2.2.2.2.2.2.2.2.2.2.2.2.2.1 rc.2.2.2.2.2.2.2.2.2.2.2.2.2.2.2.2.2.2.2.1 rc.2.2.2.2.2.2.2.2.2.2.2.2.2.2.2.2.2.2.2.2.1 rc.2.2.2.2.2.2.2.2.2.2.2.2.2.2.2.2.2.2.2.2.2 C_what C_number C_before C_after C_done C_kept A_kinds A_traced A_bodies A_began A_self A_kindOfSelf S_holds S_body S_sort S_size S_elements G_grown M_code M_doors M_price M_year M_joins M_joinA M_joinB M_walls M_wallA M_wallB M_cost rm.2.1 M_near M_doneMany M_undoneMany M_changeOf M_changeAt M_before M_behind M_tape M_taped M_here M_fault M_open M_laid M_act M_with M_lineMany M_testEnd M_lineEnd rm.2.2.1 rm.2.2.2.1 M_hasLaw rm.2.2.2.2.1 rm.2.2.2.2.2.1 rm.2.2.2.2.2.2.1 rm.2.2.2.2.2.2.2 M_isOn M_wasOn M_bodies M_kind M_traces M_traced M_holds M_size M_elements M_shifted := by
  have hI0 := hI
  obtain ⟨n, kj, kw, o, v, nb, hT, hL, hC, hA, hS⟩ := hI
  obtain ⟨A, B, rch, hset⟩ := SET_ex hT hL o
  have hT0 := hT
  have hset2 := SET_ex hT hL
  obtain ⟨⟨b1, b2, b3, b4, b5⟩, ⟨rfl, rfl, rfl, rfl, rfl, rfl, rfl, rfl, rfl, rfl, rfl⟩, h1, h2, h3, h4, h5⟩ := hT
  have hp := p14 b1
  have z1 : ¬ (1 : Int32) = 0 := by decide
  obtain ⟨rd, e, a', f', d, p, y, j, o', W', Be', P', sv', cw', sl', sh', cl', ch', mu, ca, t1, t2⟩ := s_settle hset b1 b4 b5 h1 L_read L_end L_at L_fault L_d L_p L_y L_j L_o P_away P_beside P_reach P_serves P_crowds P_servedLow P_servedHigh P_crowdedLow P_crowdedHigh P_there P_must P_can
  obtain ⟨fa', pi', far', wi', tn', g1, g2⟩ := s_findAll b1 (all_lt n) b5 hset.1 hset.2.2.1 hset.2.2.2.2 M_facts M_pile M_far M_within M_tooNear
  unfold f_X6_dry f_X7_dry
  rcases s_hasWell a1 a2 n b1 with ⟨k0, k1 | ⟨k1, k2⟩ | ⟨k1, k2, k3⟩⟩ | ⟨k0, k1, k2, k3, w, c, hw, hc, rfl, rfl, hwc⟩
  · rw [k0, bd_of, if_pos rfl, k1, bd_of, if_pos rfl]
    exact ⟨_, _, rfl, rfl, rfl, hI0⟩
  · rw [k0, bd_of, if_pos rfl, k1, bd_of, if_neg z1, k2, bd_of, if_pos rfl]
    exact ⟨_, _, rfl, rfl, rfl, hI0⟩
  · rw [k0, bd_of, if_pos rfl, k1, bd_of, if_neg z1, k2, bd_of, if_neg z1, if_pos k3]
    exact ⟨_, _, rfl, rfl, rfl, hI0⟩
  rw [k0, bd_of, if_neg z1, k1, bd_of, if_neg z1, k2, bd_of, if_neg z1, if_neg k3, s_isWithin, bd_of, i01, s_in, bd_of, i01]
  by_cases q : a3 < 0 ∨ 1 < a3
  · rw [if_pos q, if_pos q]
    exact ⟨_, _, rfl, rfl, rfl, hI0⟩
  rw [if_neg q, if_neg q, t1, bd_of, s_allDoors b1, bd_of, g1, bd_of, s_everyDoor b1]
  obtain ⟨mb6, mb7⟩ := both_may b1 b4 h1 t2 g2 hw
  dsimp only
  rw [mb6, bd_of, b01_if, bd_of, mb7, bd_of, b01_if]
  by_cases q2 : MayP n (2 ^ n - 1) o (fun d => M_price d = 0) (RJ (2 ^ n - 1) kj A B) rch v w
  · rw [if_pos q2, if_pos q2, bd_of]
    obtain ⟨o2, ho1, ho2, ho3⟩ := isB_not (isB_n (lt14 b1 b4)) (isB_one (show c < 14 by omega))
    have ho2n : o2 < 2 ^ n := by
      rcases Nat.lt_or_ge o2 (2 ^ n) with z | z
      · exact z
      · exfalso
        have : ∃ i, i ≥ n ∧ o2.testBit i = true := Nat.exists_ge_and_testBit_of_ge_two_pow z
        obtain ⟨i, hi, hb⟩ := this
        have h14 := tb_lt ho1 hb
        have := tb_lt b4 ((ho3 i h14).mp hb).1
        omega
    obtain ⟨A2, B2, rch2, hs2⟩ := hset2 o2
    obtain ⟨rd2, e2, a2', f2', d2, p2, y2, j2, o2', W2, Be2, P2, sv2, cw2, sl2, sh2, cl2, ch2, mu2, ca2, u1, u2⟩ := s_lay (all_lt n) ho1 b5 b1 hs2.2.1 hs2.1 hs2.2.2.2.1 (fun i hi => by rw [(h1 i hi).1]; exact (h1 i hi).2) rd e a' f' d p y j o' W' Be' P' sv' cw' sl' sh' cl' ch' (nI (2 ^ n - 1)) mu ca
    obtain ⟨fa2, pi2, far2, wi2, tn2, v1, v2⟩ := s_findAll b1 (all_lt n) b5 hs2.1 hs2.2.2.1 hs2.2.2.2.2 fa' pi' far' wi' tn'
    rw [ho2, u1, bd_of, v1, bd_of]
    dsimp only
    have hcan := isB_not u2.2.2.2.2.2.2.2.2.2 (isB_one (show c < 14 by omega))
    have hlaid := And.intro u2.1 (And.intro u2.2.1 (And.intro u2.2.2.1 (And.intro u2.2.2.2.1 (And.intro u2.2.2.2.2.1 (And.intro u2.2.2.2.2.2.1 (And.intro u2.2.2.2.2.2.2.1 (And.intro u2.2.2.2.2.2.2.2.1 (And.intro u2.2.2.2.2.2.2.2.2.1 hcan))))))))
    have ho2c : ¬ o2.testBit c = true := fun z => ((ho3 c (by omega)).mp z).2 rfl
    have m6 : ∀ w, w < 2 ^ n → f_X3_mayBe (nI w) sl2 sh2 cl2 ch2 (nI (2 ^ n - 1)) mu2 (ca2 &&& (((1 : Int32) <<< (nI c &&& 31)) ^^^ (-1))) = some (b01 (MayP n (2 ^ n - 1) o2 (fun d => d = c ∨ M_price d = 0) (RJ (2 ^ n - 1) kj A2 B2) rch2 v w)) := by
      intro w hw
      refine l_mayBe hlaid b1 (all_lt n) (fun d hd => Iff.rfl) (fun d hd => ?_) hw
      rw [(h1 d hd).1]
      constructor
      · rintro ⟨⟨x1, x2⟩ | ⟨⟨x1, x2⟩, x3⟩, x4⟩
        · exact ⟨x2, Or.inl x1⟩
        · exact ⟨x3, Or.inr fun x5 => x5.elim x4 x2⟩
      · rintro ⟨x1, x2 | x2⟩
        · exact ⟨Or.inl ⟨x2, x1⟩, fun x3 => ho2c (by rw [← x3]; exact x2)⟩
        · exact ⟨Or.inr ⟨⟨hd, fun x3 => x2 (Or.inr x3)⟩, x1⟩, fun x3 => x2 (Or.inl x3)⟩
    have m7 : ∀ w, w < 2 ^ n → f_X7_mayBe (nI w) (nI n) M_price (nI o2) wi2 tn2 ((1 : Int32) <<< (nI c &&& 31)) = some (b01 (MayP n (2 ^ n - 1) o2 (fun d => d = c ∨ M_price d = 0) (RJ (2 ^ n - 1) kj A2 B2) rch2 v w)) := fun w hw => m_mayBe v2 b1 M_price (isB_one (show c < 14 by omega)) (fun d hd => Iff.rfl) ho2n hw
    have hleft := isB_not (isB_n (lt14 b1 hw)) (isB_one (show c < 14 by omega))
    obtain ⟨y0, zz, i1, i2, i3⟩ := dr_loop (T_price := T_price) (fa := fa2) (pi := pi2) (far := far2) (left := nI w &&& (((1 : Int32) <<< (nI c &&& 31)) ^^^ (-1))) (x1 := nI w) (x2 := nI c) (x3 := a3) (xo := nI o) b1 m6 m7 (fun u hu => by
      have hx := isB_not (isB_xor (isB_n (lt14 b1 hu)) (isB_n (lt14 b1 hw))) (isB_one (show c < 14 by omega))
      obtain ⟨k, w1, w2⟩ := isB_pc hx
      refine ⟨k, w2, fun hpu => ?_⟩
      have huc : ¬ u.testBit c = true := fun z => ((hpu.2.1 c hc z).2).elim ho2c (fun z2 => z2 (Or.inl rfl))
      have e5 : nI u ^^^ (nI w &&& (((1 : Int32) <<< (nI c &&& 31)) ^^^ (-1))) = (nI u ^^^ nI w) &&& (((1 : Int32) <<< (nI c &&& 31)) ^^^ (-1)) := by
        rw [isB_eq (isB_xor (isB_n (lt14 b1 hu)) hleft) hx]
        intro d hd
        by_cases ed : d = c
        · subst ed
          simp [huc]
        · simp [ed]
      rw [e5]
      exact w1) (2 ^ n) fuel fuel 0 (-2) 0 (by omega) (by unfold fuel; omega) (by unfold fuel; omega) (Or.inl rfl)
    unfold f_X3_least
    have i2' : f_X3_least_b10 3 (nI w &&& (((1 : Int32) <<< (nI c &&& 31)) ^^^ (-1))) T_price (nI n) sl2 sh2 cl2 ch2 (nI (2 ^ n - 1)) mu2 (ca2 &&& (((1 : Int32) <<< (nI c &&& 31)) ^^^ (-1))) fuel (-2) 0 0 = some y0 := i2
    have i3' : f_X7_dry_b99 (nI w) (nI c) a3 (nI o) (nI n) M_price (nI o2) fa2 pi2 far2 wi2 tn2 ((1 : Int32) <<< (nI c &&& 31)) fuel (-2) 0 0 = _ := i3
    rw [i2', bd_of, i3']
    by_cases q3 : y0 < 0
    · rw [if_pos q3, if_pos q3]
      exact ⟨_, _, rfl, rfl, rfl, n, kj, kw, o, v, nb, hT0, hL, hC, hA, hS⟩
    rw [if_neg q3, if_neg q3]
    by_cases q4 : a3 = 0
    · rw [if_pos q4, if_pos q4]
      exact ⟨_, _, rfl, rfl, rfl, n, kj, kw, o, v, nb, hT0, hL, hC, hA, hS⟩
    rw [if_neg q4, if_neg q4]
    rcases i1 with rfl | ⟨b, hb, rfl, i4⟩
    · exact absurd (by decide) q3
    · rw [i4, bd_of]
      exact ⟨_, _, rfl, rfl, rfl, n, kj, kw, o, v, nb, hT0, hL, hC, hA, hS⟩
  · rw [if_neg q2, if_neg q2]
    exact ⟨_, _, rfl, rfl, rfl, n, kj, kw, o, v, nb, hT0, hL, hC, hA, hS⟩
