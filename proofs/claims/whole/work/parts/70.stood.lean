/-! stood, of -/
def cbn (w : Nat) : Nat → Nat
  | 0 => 0
  | k + 1 => cbn w k + (if w.testBit k = true then 1 else 0)
theorem cbn_mono (w : Nat) {a : Nat} : ∀ (k : Nat), cbn w a ≤ cbn w (a + k)
  | 0 => Nat.le_refl _
  | k + 1 => by
    have := cbn_mono w (a := a) k
    have e : cbn w (a + (k + 1)) = cbn w (a + k) + (if w.testBit (a + k) = true then 1 else 0) := rfl
    rw [e]
    omega
theorem cbn_half : ∀ (k w : Nat), cbn w (k + 1) = w % 2 + cbn (w / 2) k
  | 0, w => by
    unfold cbn cbn
    rw [Nat.testBit_zero]
    rcases Nat.mod_two_eq_zero_or_one w with q | q
    · rw [q]; rfl
    · rw [q]; rfl
  | k + 1, w => by
    have ih := cbn_half k w
    show cbn w (k + 1) + (if w.testBit (k + 1) = true then 1 else 0) = w % 2 + (cbn (w / 2) k + (if (w / 2).testBit k = true then 1 else 0))
    rw [ih, Nat.testBit_succ, Nat.add_assoc]
theorem cbn_pcn : ∀ (k w : Nat), pcn k w = cbn w k
  | 0, _ => rfl
  | k + 1, w => by
    rw [cbn_half, ← cbn_pcn k (w / 2)]
    rfl
theorem cbn_le (w : Nat) : ∀ k, cbn w k ≤ k
  | 0 => Nat.le_refl _
  | k + 1 => by
    have := cbn_le w k
    unfold cbn
    by_cases q : w.testBit k = true
    · rw [if_pos q]; omega
    · rw [if_neg q]; omega
theorem cbn_pc {w m : Nat} (hm : m < 14) (h : w.testBit m = true) : cbn w m + 1 ≤ pc w := by
  have e : cbn w (m + 1) = cbn w m + 1 := by
    show cbn w m + (if w.testBit m = true then 1 else 0) = _
    rw [if_pos h]
  have := cbn_mono w (a := m + 1) (14 - (m + 1))
  rw [show m + 1 + (14 - (m + 1)) = 14 by omega, e] at this
  unfold pc
  rw [cbn_pcn]
  exact this
section STOOD
variable {n : Nat} {R : Nat → Nat → Prop} {M_far : Nat → Int32} {P_away : Nat → Nat → Int32} {S_size : Nat → Int32} {S_elements : Nat → Nat → Int64} {M_elements : Nat → Int64}
theorem sd_off {w x d : Nat} (hn : n ≤ 14) (hw : w < 2 ^ n) (hx : x < 6) (hd : d < n) (k73 : Int32 → Int32 → Option (Int32 × (Nat → Int32))) (x3 : Int32) :
    ∀ (r f m : Nat), r + m = n → f ≥ r + 1 → f_X7_stood_b91 k73 (nI x) (nI w) x3 (nI d) (nI n) M_far M_elements f (nI (cbn w m)) 0 (nI m) = k73 x3 (nI (d + 1))
  | 0, f + 1, m, h, hf => by
    have e : m = n := by omega
    subst e
    rw [f_X7_stood_b91, if_pos (by rw [le_nI (by omega) (by omega)]; omega), if_pos rfl]
    unfold f_X7_stood_b166
    rw [nI_1]
  | r + 1, f + 1, m, h, hf => by
    have hm : m < n := by omega
    have hc := cbn_le w m
    have ih := sd_off hn hw hx hd k73 x3 r f (m + 1) (by omega) (by omega)
    have e1 : cbn w (m + 1) = cbn w m + (if w.testBit m = true then 1 else 0) := rfl
    rw [f_X7_stood_b91, if_neg (by rw [le_nI (by omega) (by omega)]; omega), ite_eqc (isB_t0 (isB_n (lt14 hn hw)) (show m < 14 by omega))]
    unfold f_X7_stood_b145 f_X7_stood_b148
    rw [nI_1, nI_1]
    by_cases q : w.testBit m = true
    · rw [if_pos q] at e1
      rw [if_neg (show ¬ ¬ w.testBit m = true from fun z => z q), L_60, L_14, pk_mul, nI_add, pk_mul, nI_add, ix_nI (show 60 * x + cbn w m < 360 by omega) (by decide), ix_nI (show 14 * d + m < 196 by omega) (by decide), ite_self, ← e1]
      exact ih
    · rw [if_neg q] at e1
      rw [if_pos (show ¬ w.testBit m = true from q), ← ih, e1]
      rfl
  | _, 0, _, _, hf => by omega
theorem sd_on {w x d k : Nat} (hn : n ≤ 14) (hw : w < 2 ^ n) (hx : x < 6) (hd : d < n) (hk : k ≤ 60) (hpk : pc w ≤ k) (hs : S_size x = nI k) (hE : ∀ i, i < 60 → S_elements x i = M_elements (60 * x + i)) (hA : ∀ a b, a < 14 → b < 14 → P_away a b = nI (dd R a b)) (hF : ∀ a b, a < n → b < n → M_far (14 * a + b) = nI (dd R a b)) (k73 : Int32 → Int32 → Option (Int32 × (Nat → Int32))) (x3 : Int32) :
    ∀ (r f f7 m : Nat), r + m = n → f ≥ r + 1 → f7 ≥ r + 1 →
    (f_X6_isToldFrom_b6 (nI d) (nI w) x (nI n) P_away S_size S_elements f (nI (cbn w m)) (nI m) = some 1 ∧ f_X7_stood_b91 k73 (nI x) (nI w) x3 (nI d) (nI n) M_far M_elements f7 (nI (cbn w m)) 1 (nI m) = k73 (x3 ||| ((1 : Int32) <<< (nI d &&& 31))) (nI (d + 1))) ∨
    (f_X6_isToldFrom_b6 (nI d) (nI w) x (nI n) P_away S_size S_elements f (nI (cbn w m)) (nI m) = some 0 ∧ f_X7_stood_b91 k73 (nI x) (nI w) x3 (nI d) (nI n) M_far M_elements f7 (nI (cbn w m)) 1 (nI m) = k73 x3 (nI (d + 1)))
  | 0, f + 1, f7 + 1, m, h, hf, hf7 => by
    have e : m = n := by omega
    subst e
    have z1 : ¬ (1 : Int32) = 0 := by decide
    rw [f_X7_stood_b91, if_pos (by rw [le_nI (by omega) (by omega)]; omega), if_neg z1, f_X6_isToldFrom_b6, if_pos (by rw [le_nI (by omega) (by omega)]; omega)]
    unfold f_X7_stood_b166
    rw [nI_1]
    exact Or.inl ⟨rfl, rfl⟩
  | r + 1, f + 1, f7 + 1, m, h, hf, hf7 => by
    have hm : m < n := by omega
    have hc := cbn_le w m
    have ih := sd_on hn hw hx hd hk hpk hs hE hA hF k73 x3 r f f7 (m + 1) (by omega) (by omega) (by omega)
    have off := sd_off (M_far := M_far) (M_elements := M_elements) hn hw hx hd k73 x3 r f7 (m + 1) (by omega) (by omega)
    have e1 : cbn w (m + 1) = cbn w m + (if w.testBit m = true then 1 else 0) := rfl
    rw [f_X7_stood_b91, if_neg (by rw [le_nI (by omega) (by omega)]; omega), f_X6_isToldFrom_b6, if_neg (by rw [le_nI (by omega) (by omega)]; omega), ite_eqc (isB_t0 (isB_n (lt14 hn hw)) (show m < 14 by omega)), ite_eqc (isB_t0 (isB_n (lt14 hn hw)) (show m < 14 by omega))]
    unfold f_X6_isToldFrom_b68 f_X7_stood_b145 f_X7_stood_b148
    by_cases q : w.testBit m = true
    · have hp := cbn_pc (show m < 14 by omega) q
      rw [if_pos q] at e1
      rw [if_neg (show ¬ ¬ w.testBit m = true from fun z => z q), if_neg (show ¬ ¬ w.testBit m = true from fun z => z q), if_neg (show ¬ S_size x ≤ nI (cbn w m) by rw [hs, le_nI (by omega) (by omega)]; omega), L_60, L_14, pk_mul, nI_add, pk_mul, nI_add, ix_nI (show 60 * x + cbn w m < 360 by omega) (by decide), ix_nI (show 14 * d + m < 196 by omega) (by decide), ix_nI (show cbn w m < 60 by omega) (by decide), ix_nI (show d < 14 by omega) (by decide), ix_nI (show m < 14 by omega) (by decide), nI_1, nI_1, cl_nI (show cbn w m < 2 ^ 31 by omega), cl_nI (show d < 2 ^ 31 by omega), cl_nI (show m < 2 ^ 31 by omega), cl_nI (show 60 * x + cbn w m < 2 ^ 31 by omega), cl_nI (show 14 * d + m < 2 ^ 31 by omega), hA d m (by omega) (by omega), hF d m hd hm, hE _ (by omega), ← e1]
      by_cases q2 : lg_cmp (M_elements (60 * x + cbn w m)) (Int32.toInt64 (nI (dd R d m))) = 0
      · rw [if_pos q2, if_pos q2]
        exact ih
      · rw [if_neg q2, if_neg q2]
        exact Or.inr ⟨rfl, off⟩
    · rw [if_neg q] at e1
      rw [if_pos (show ¬ w.testBit m = true from q), if_pos (show ¬ w.testBit m = true from q), nI_1]
      rw [e1] at ih
      exact ih
  | _, 0, _, _, _, hf, _ => by omega
  | _, _ + 1, 0, _, _, _, hf => by omega
variable {L_read : Nat} {L_end L_at L_fault L_d L_p L_y L_j L_o : Int32} {Be P sv cw sl sh cl ch : Nat → Int32} {th mu ca : Int32}
theorem sd_loop {w x k : Nat} (hn : n ≤ 14) (hw : w < 2 ^ n) (hx : x < 6) (hk : k ≤ 60) (hpk : pc w ≤ k) (hs : S_size x = nI k) (hE : ∀ i, i < 60 → S_elements x i = M_elements (60 * x + i)) (hA : ∀ a b, a < 14 → b < 14 → P_away a b = nI (dd R a b)) (hF : ∀ a b, a < n → b < n → M_far (14 * a + b) = nI (dd R a b)) :
    ∀ (r f f7 m : Nat) (x4 : Int32), r + m = n → f ≥ r + 1 → f7 ≥ r + 1 →
    ∃ y, f_X6_stood_b72 (nI w) x (nI n) L_read L_end L_at L_fault L_d L_p L_y L_j L_o P_away Be P sv cw sl sh cl ch th mu ca S_size S_elements f x4 (nI m) = some (y, L_read, L_end, L_at, L_fault, L_d, L_p, L_y, L_j, L_o, P_away, Be, P, sv, cw, sl, sh, cl, ch, th, mu, ca) ∧ f_X7_stood_b73 (nI x) (nI w) (nI n) M_far M_elements f7 x4 (nI m) = some (y, M_far)
  | 0, f + 1, f7 + 1, m, x4, h, hf, hf7 => by
    have e : m = n := by omega
    subst e
    rw [f_X7_stood_b73, if_pos (by rw [le_nI (by omega) (by omega)]; omega), f_X6_stood_b72, if_pos (by rw [le_nI (by omega) (by omega)]; omega)]
    exact ⟨_, rfl, rfl⟩
  | r + 1, f + 1, f7 + 1, m, x4, h, hf, hf7 => by
    have hm : m < n := by omega
    have ih := fun x4 => sd_loop hn hw hx hk hpk hs hE hA hF r f f7 (m + 1) x4 (by omega) (by omega) (by omega)
    rw [f_X7_stood_b73, if_neg (by rw [le_nI (by omega) (by omega)]; omega), f_X6_stood_b72, if_neg (by rw [le_nI (by omega) (by omega)]; omega)]
    unfold f_X6_isToldFrom f_X6_stood_b105
    rw [nI_1]
    rcases sd_on hn hw hx hm hk hpk hs hE hA hF (f_X7_stood_b73 (nI x) (nI w) (nI n) M_far M_elements f7) x4 n fuel fuel 0 (by omega) (by unfold fuel; omega) (by unfold fuel; omega) with ⟨g1, g2⟩ | ⟨g1, g2⟩
    · have e2 : f_X6_isToldFrom_b6 (nI m) (nI w) x (nI n) P_away S_size S_elements fuel 0 0 = some 1 := g1
      have e3 : f_X7_stood_b91 (f_X7_stood_b73 (nI x) (nI w) (nI n) M_far M_elements f7) (nI x) (nI w) x4 (nI m) (nI n) M_far M_elements fuel 0 1 0 = f_X7_stood_b73 (nI x) (nI w) (nI n) M_far M_elements f7 (x4 ||| ((1 : Int32) <<< (nI m &&& 31))) (nI (m + 1)) := g2
      rw [e2, bd_of, if_neg (by decide), e3]
      exact ih _
    · have e2 : f_X6_isToldFrom_b6 (nI m) (nI w) x (nI n) P_away S_size S_elements fuel 0 0 = some 0 := g1
      have e3 : f_X7_stood_b91 (f_X7_stood_b73 (nI x) (nI w) (nI n) M_far M_elements f7) (nI x) (nI w) x4 (nI m) (nI n) M_far M_elements fuel 0 1 0 = f_X7_stood_b73 (nI x) (nI w) (nI n) M_far M_elements f7 x4 (nI (m + 1)) := g2
      rw [e2, bd_of, if_pos rfl, e3, Int32.or_zero]
      exact ih _
  | _, 0, _, _, _, _, hf, _ => by omega
  | _, _ + 1, 0, _, _, _, _, hf => by omega
end STOOD
theorem neg2_t : ∀ t, t ≤ 4 → ((-2 - nI t) = (-2 : Int32) ↔ t = 0) ∧ ¬ (-2 - nI t) = (-1 : Int32) ∧ (nI t = (0 : Int32) ↔ t = 0) := by decide +kernel
set_option maxHeartbeats 1000000 in
theorem pu_stood {T_price : Nat → Int32} {T_year : Nat → Int32} {T_joinEnds : Nat → Int32} {T_wallEnds : Nat → Int32} {T_cost : Nat → Int32} {T_doors : Int32} {T_joins : Int32} {T_walls : Int32} {T_oldWells : Int32} {T_apart : Int32} {L_tape : Nat → Int32} {L_text : Nat → Int32} {L_fed : Int32} {L_length : Int32} {L_read : Nat} {L_end : Int32} {L_at : Int32} {L_fault : Int32} {L_d : Int32} {L_p : Int32} {L_y : Int32} {L_j : Int32} {L_o : Int32} {P_away : Nat → Nat → Int32} {P_beside : Nat → Int32} {P_reach : Nat → Int32} {P_serves : Nat → Int32} {P_crowds : Nat → Int32} {P_servedLow : Nat → Int32} {P_servedHigh : Nat → Int32} {P_crowdedLow : Nat → Int32} {P_crowdedHigh : Nat → Int32} {P_there : Int32} {P_must : Int32} {P_can : Int32} {C_what : Nat → Int32} {C_number : Nat → Int32} {C_before : Nat → Int32} {C_after : Nat → Int32} {C_done : Int32} {C_kept : Int32} {A_kinds : Nat → Int32} {A_traced : Nat → Int32} {A_bodies : Int32} {A_began : Int32} {A_self : Int32} {A_kindOfSelf : Int32} {S_holds : Nat → Int32} {S_body : Nat → Int32} {S_sort : Nat → Int32} {S_size : Nat → Int32} {S_elements : Nat → Nat → Int64} {G_grown : Nat → Int32} {M_code : Int32} {M_doors : Int32} {M_price : Nat → Int32} {M_year : Nat → Int32} {M_joins : Int32} {M_joinA : Nat → Int32} {M_joinB : Nat → Int32} {M_walls : Int32} {M_wallA : Nat → Int32} {M_wallB : Nat → Int32} {M_cost : Nat → Int32} {M_olds : Int32} {M_near : Int32} {M_doneMany : Int32} {M_undoneMany : Int32} {M_changeOf : Nat → Int32} {M_changeAt : Nat → Int32} {M_before : Nat → Int32} {M_behind : Nat → Int32} {M_tape : Nat → Int32} {M_taped : Int32} {M_here : Int32} {M_fault : Int32} {M_open : Int32} {M_laid : Int32} {M_act : Nat → Int32} {M_with : Nat → Int32} {M_lineMany : Nat → Int32} {M_testEnd : Nat → Int32} {M_lineEnd : Nat → Int32} {M_facts : Nat → Int32} {M_pile : Nat → Int32} {M_hasLaw : Int32} {M_far : Nat → Int32} {M_within : Nat → Int32} {M_tooNear : Nat → Int32} {M_dried : Int32} {M_isOn : Nat → Int32} {M_wasOn : Nat → Int32} {M_bodies : Int32} {M_kind : Nat → Int32} {M_traces : Int32} {M_traced : Nat → Int32} {M_holds : Nat → Int32} {M_size : Nat → Int32} {M_elements : Nat → Int64} {M_shifted : Nat → Int64} (hI : INV T_price T_year T_joinEnds T_wallEnds T_cost T_doors T_joins T_walls T_oldWells T_apart L_tape L_text L_fed L_length L_read L_end L_at L_fault L_d L_p L_y L_j L_o P_away P_beside P_reach P_serves P_crowds P_servedLow P_servedHigh P_crowdedLow P_crowdedHigh P_there P_must P_can C_what C_number C_before C_after C_done C_kept A_kinds A_traced A_bodies A_began A_self A_kindOfSelf S_holds S_body S_sort S_size S_elements G_grown M_code M_doors M_price M_year M_joins M_joinA M_joinB M_walls M_wallA M_wallB M_cost M_olds M_near M_doneMany M_undoneMany M_changeOf M_changeAt M_before M_behind M_tape M_taped M_here M_fault M_open M_laid M_act M_with M_lineMany M_testEnd M_lineEnd M_facts M_pile M_hasLaw M_far M_within M_tooNear M_dried M_isOn M_wasOn M_bodies M_kind M_traces M_traced M_holds M_size M_elements M_shifted) (a1 : Int32) (a2 : Int32) : ∃ (rc : Int32 × Nat × Int32 × Int32 × Int32 × Int32 × Int32 × Int32 × Int32 × Int32 × (Nat → Nat → Int32) × (Nat → Int32) × (Nat → Int32) × (Nat → Int32) × (Nat → Int32) × (Nat → Int32) × (Nat → Int32) × (Nat → Int32) × (Nat → Int32) × Int32 × Int32 × Int32) (rm : Int32 × (Nat → Int32)), f_X6_stood a1 a2 T_price T_year T_joinEnds T_wallEnds T_doors T_joins T_walls T_oldWells T_apart L_text L_length L_read L_end L_at L_fault L_d L_p L_y L_j L_o P_away P_beside P_reach P_serves P_crowds P_servedLow P_servedHigh P_crowdedLow P_crowdedHigh P_there P_must P_can S_holds S_sort S_size S_elements = some rc ∧ f_X7_stood a1 a2 M_doors M_joins M_joinA M_joinB M_far M_holds M_size M_elements = some rm ∧ rc.1 = rm.1 ∧ INV T_price T_year T_joinEnds T_wallEnds T_cost T_doors T_joins T_walls T_oldWells T_apart L_tape L_text L_fed L_length rc.2.1 rc.2.2.1 rc.2.2.2.1 rc.2.2.2.2.1 rc.2.2.2.2.2.1 rc.2.2.2.2.2.2.1 rc.2.2.2.2.2.2.2.1 rc.2.2.2.2.2.2.2.2.1 rc.2.2.2.2.2.2.2.2.2.1 rc.2.2.2.2.2.2.2.2.2.2.1 rc.2.2.2.2.2.2.2.2.2.2.2.1 rc.2.2.2.2.2.2.2.2.2.2.2.2.1 rc.2.2.2.2.2.2.2.2.2.2.2.2.2.1 rc.2.2.2.2.2.2.2.2.2.2.2.2.2.2.1 rc.2.2.2.2.2.2.2.2.2.2.2.2.2.2.2.1 rc.2.2.2.2.2.2.2.2.2.2.2.2.2.2.2.2.1 rc.2.2.2.2.2.2.2.2.2.2.2.2.2.2.2.2.2.1 rc.2.2.2.2.2.2.2.2.2.2.2.2.2.2.2.2.2.2.1 rc.2.2.2.2.2.2.2.2.2.2.2.2.2.2.2.2.2.2.2.1 rc.2.2.2.2.2.2.2.2.2.2.2.2.2.2.2.2.2.2.2.2.1 rc.2.2.2.2.2.2.2.2.2.2.2.2.2.2.2.2.2.2.2.2.2 C_what C_number C_before C_after C_done C_kept A_kinds A_traced A_bodies A_began A_self A_kindOfSelf S_holds S_body S_sort S_size S_elements G_grown M_code M_doors M_price M_year M_joins M_joinA M_joinB M_walls M_wallA M_wallB M_cost M_olds M_near M_doneMany M_undoneMany M_changeOf M_changeAt M_before M_behind M_tape M_taped M_here M_fault M_open M_laid M_act M_with M_lineMany M_testEnd M_lineEnd M_facts M_pile M_hasLaw rm.2 M_within M_tooNear M_dried M_isOn M_wasOn M_bodies M_kind M_traces M_traced M_holds M_size M_elements M_shifted := by
  have hI0 := hI
  obtain ⟨n, kj, kw, o, v, nb, hT, hL, hC, hA, hS⟩ := hI
  obtain ⟨A, B, rch, hset⟩ := SET_ex hT hL o
  have hT0 := hT
  have hnb := hA.1
  obtain ⟨⟨b1, b2, b3, b4, b5⟩, ⟨rfl, rfl, rfl, rfl, rfl, rfl, rfl, rfl, rfl, rfl, rfl⟩, h1, h2, h3, h4, h5⟩ := hT
  have hp := p14 b1
  have z1 : ¬ (1 : Int32) = 0 := by decide
  have hR := RJ_lt (s := 2 ^ n - 1) (fun i hi => (hset.2.2.1.2 i hi).1)
  obtain ⟨rd, e, a', f', d, p, y, j, o', W', Be', P', sv', cw', sl', sh', cl', ch', mu, ca, t1, t2⟩ := s_settle hset b1 b4 b5 h1 L_read L_end L_at L_fault L_d L_p L_y L_j L_o P_away P_beside P_reach P_serves P_crowds P_servedLow P_servedHigh P_crowdedLow P_crowdedHigh P_there P_must P_can
  obtain ⟨far', g1, g2⟩ := s_findFar b1 (all_lt n) hset.2.2.1 M_far
  unfold f_X6_stood f_X7_stood
  rw [t1, s_allDoors b1, bd_of, bd_of, g1, bd_of, s_isShelf6, bd_of, i01, s_isShelf7, bd_of, i01]
  by_cases q : a1 < 0 ∨ nI 6 ≤ a1
  · rw [if_pos q, if_pos q]
    exact ⟨_, _, rfl, rfl, rfl, hI0⟩
  rw [if_neg q, if_neg q]
  obtain ⟨x, hx, rfl⟩ := nI_lt_of (k := 6) (by decide) q
  rcases s_areDoors a2 n b1 with ⟨q1, q2, w, hw, rfl⟩ | ⟨q1, q2⟩
  · obtain ⟨c1, c2, c3⟩ := s_pc (lt14 b1 hw)
    rw [q1, bd_of, if_neg z1, q2, bd_of, if_neg z1, c1, bd_of, c2, bd_of]
    simp only [ix_nI hx (show 6 < 2 ^ 31 by decide), cl_nI (show x < 2 ^ 31 by omega)]
    unfold f_X4_isRowOf
    rcases hS x hx with ⟨k1, k2⟩ | ⟨k1, u, hu, k2, k3⟩ | ⟨k1, t, k, ht, hk, k2, k3, k4, k5, k6⟩
    · rw [if_pos k1, if_pos k2]
      exact ⟨_, _, rfl, rfl, rfl, hI0⟩
    · have n0 := nI_pos (n := u) (by omega)
      rw [k1, k3, if_neg z1, if_neg (show ¬ (1 : Int32) = 2 by decide), bd_of, if_pos rfl, if_neg (fun z => n0 (by rw [z]; decide)), if_neg (fun z => n0 (by rw [z]; decide))]
      exact ⟨_, _, rfl, rfl, rfl, hI0⟩
    · obtain ⟨m1, m2, m3⟩ := neg2_t t ht
      rw [k1, k3, k2, k4, k5, if_neg (show ¬ (2 : Int32) = 0 by decide), if_pos rfl, if_neg m2]
      by_cases et : t = 0
      · rw [if_pos (m3.mpr et), bd_of, if_neg z1, if_pos (m1.mpr et)]
        by_cases q3 : nI (pc w) ≤ nI k
        · rw [if_pos q3, if_pos q3]
          rw [le_nI (by omega) (by omega)] at q3
          obtain ⟨y0, j1, j2⟩ := sd_loop (L_read := rd) (L_end := e) (L_at := a') (L_fault := f') (L_d := d) (L_p := p) (L_y := y) (L_j := j) (L_o := o') (Be := Be') (P := P') (sv := sv') (cw := cw') (sl := sl') (sh := sh') (cl := cl') (ch := ch') (th := nI (2 ^ n - 1)) (mu := mu) (ca := ca) b1 hw hx hk q3 k4 k6 t2.1 g2 n fuel fuel 0 0 (by omega) (by unfold fuel; omega) (by unfold fuel; omega)
          exact ⟨_, _, j1, j2, rfl, n, kj, kw, o, v, nb, hT0, hL, hC, hA, hS⟩
        · rw [if_neg q3, if_neg q3]
          exact ⟨_, _, rfl, rfl, rfl, hI0⟩
      · rw [if_neg (fun z => et (m3.mp z)), bd_of, if_pos rfl, if_neg (fun z => et (m1.mp z))]
        exact ⟨_, _, rfl, rfl, rfl, hI0⟩
  · rw [q1, bd_of, if_pos rfl, q2, bd_of, if_pos rfl]
    exact ⟨_, _, rfl, rfl, rfl, hI0⟩
