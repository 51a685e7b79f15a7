/-! all, even, greedy -/
section ALL
variable {n : Nat} {p : Nat → Prop} {M_price wi tn fa pi far : Nat → Int32} {dr M_olds : Int32} {L_read : Nat} {L_end L_at L_fault L_d L_p L_y L_j L_o : Int32} {W : Nat → Nat → Int32} {Be P sv cw sl sh cl ch : Nat → Int32} {mu ca : Int32}
theorem al_loop {x1 : Int32} (hn : n ≤ 14) (h6 : ∀ w, w < 2 ^ n → f_X3_mayBe (nI w) sl sh cl ch (nI (2 ^ n - 1)) mu ca = some (b01 (p w))) (h7 : ∀ w, w < 2 ^ n → f_X7_mayBe (nI w) (nI n) M_price M_olds wi tn dr = some (b01 (p w))) :
    ∀ (r f f7 m : Nat) (x2 x3 x4 : Int32), r + m = 2 ^ n → f ≥ r + 1 → f7 ≥ r + 1 →
    ∃ y, f_X6_all_b30 x1 L_read L_end L_at L_fault L_d L_p L_y L_j L_o W Be P sv cw sl sh cl ch (nI (2 ^ n - 1)) mu ca f x2 x3 x4 (nI m) = some (y, L_read, L_end, L_at, L_fault, L_d, L_p, L_y, L_j, L_o, W, Be, P, sv, cw, sl, sh, cl, ch, nI (2 ^ n - 1), mu, ca) ∧ f_X7_all_b32 x1 (nI n) M_price M_olds fa pi far wi tn dr f7 x2 x3 x4 (nI m) = some (y, fa, pi, far, wi, tn)
  | 0, f + 1, f7 + 1, m, x2, x3, x4, h, hf, hf7 => by
    have e : m = 2 ^ n := by omega
    have hp := p14 hn
    subst e
    rw [f_X7_all_b32, s_allDoors hn, bd_of, if_pos (by rw [lt_nI (by omega) (by omega)]; exact all_lt n), f_X6_all_b30, if_pos (by rw [lt_nI (by omega) (by omega)]; exact all_lt n), bd_of]
    by_cases q1 : x1 = 0
    · rw [if_pos q1, if_pos q1]
      exact ⟨_, rfl, rfl⟩
    rw [if_neg q1, if_neg q1]
    by_cases q2 : x2 = 0
    · rw [if_pos q2, if_pos q2]
      exact ⟨_, rfl, rfl⟩
    rw [if_neg q2, if_neg q2]
    by_cases q3 : x1 = 1
    · rw [if_pos q3, if_pos q3]
      exact ⟨_, rfl, rfl⟩
    rw [if_neg q3, if_neg q3]
    exact ⟨_, rfl, rfl⟩
  | r + 1, f + 1, f7 + 1, m, x2, x3, x4, h, hf, hf7 => by
    have hm : m < 2 ^ n := by omega
    have hp := p14 hn
    rw [f_X7_all_b32, s_allDoors hn, bd_of, if_neg (by rw [lt_nI (by omega) (by omega)]; omega), f_X6_all_b30, if_neg (by rw [lt_nI (by omega) (by omega)]; omega), h6 m hm, bd_of, b01_if, h7 m hm, bd_of, b01_if]
    unfold f_X6_all_b69 f_X7_all_b68
    rw [nI_1]
    by_cases q : p m
    · rw [@if_pos _ (Classical.propDecidable _) q, @if_pos _ (Classical.propDecidable _) q]
      exact al_loop hn h6 h7 r f f7 (m + 1) _ _ _ (by omega) (by omega) (by omega)
    · rw [@if_neg _ (Classical.propDecidable _) q, @if_neg _ (Classical.propDecidable _) q]
      exact al_loop hn h6 h7 r f f7 (m + 1) _ _ _ (by omega) (by omega) (by omega)
  | _, 0, _, _, _, _, _, _, hf, _ => by omega
  | _, _ + 1, 0, _, _, _, _, _, _, hf => by omega
theorem ev_loop (hn : n ≤ 14) {e6 : Nat → Prop} (h6 : ∀ w, w < 2 ^ n → f_X3_mayBe (nI w) sl sh cl ch (nI (2 ^ n - 1)) mu ca = some (b01 (p w))) (h7 : ∀ w, w < 2 ^ n → f_X7_mayBe (nI w) (nI n) M_price M_olds wi tn dr = some (b01 (p w)))
    (g6 : ∀ w, w < 2 ^ n → f_X3_isEven (nI w) sv (nI (2 ^ n - 1)) = some (b01 (e6 w))) (g7 : ∀ w, w < 2 ^ n → f_X7_isEven (nI w) (nI n) wi = some (b01 (e6 w))) :
    ∀ (r f f7 m : Nat), r + m = 2 ^ n → f ≥ r + 1 → f7 ≥ r + 1 →
    ∃ y, f_X6_even_b6 L_read L_end L_at L_fault L_d L_p L_y L_j L_o W Be P sv cw sl sh cl ch (nI (2 ^ n - 1)) mu ca f (nI m) = some (y, L_read, L_end, L_at, L_fault, L_d, L_p, L_y, L_j, L_o, W, Be, P, sv, cw, sl, sh, cl, ch, nI (2 ^ n - 1), mu, ca) ∧ f_X7_even_b10 (nI n) M_price M_olds fa pi far wi tn dr f7 (nI m) = some (y, fa, pi, far, wi, tn)
  | 0, f + 1, f7 + 1, m, h, hf, hf7 => by
    have e : m = 2 ^ n := by omega
    have hp := p14 hn
    subst e
    rw [f_X7_even_b10, s_allDoors hn, bd_of, if_pos (by rw [lt_nI (by omega) (by omega)]; exact all_lt n), f_X6_even_b6, if_pos (by rw [lt_nI (by omega) (by omega)]; exact all_lt n)]
    exact ⟨_, rfl, rfl⟩
  | r + 1, f + 1, f7 + 1, m, h, hf, hf7 => by
    have hm : m < 2 ^ n := by omega
    have hp := p14 hn
    have ih := ev_loop hn h6 h7 g6 g7 r f f7 (m + 1) (by omega) (by omega) (by omega)
    rw [f_X7_even_b10, s_allDoors hn, bd_of, if_neg (by rw [lt_nI (by omega) (by omega)]; omega), f_X6_even_b6, if_neg (by rw [lt_nI (by omega) (by omega)]; omega), h6 m hm, bd_of, b01_if, g6 m hm, bd_of, b01_if, g7 m hm, bd_of, b01_if, h7 m hm, bd_of, b01_if]
    unfold f_X6_even_b41 f_X7_even_b36
    rw [nI_1]
    by_cases q : p m
    · rw [@if_pos _ (Classical.propDecidable _) q, @if_pos _ (Classical.propDecidable _) q]
      by_cases q2 : e6 m
      · rw [@if_pos _ (Classical.propDecidable _) q2, @if_pos _ (Classical.propDecidable _) q2]
        exact ⟨_, rfl, rfl⟩
      · rw [@if_neg _ (Classical.propDecidable _) q2, @if_neg _ (Classical.propDecidable _) q2]
        exact ih
    · rw [@if_neg _ (Classical.propDecidable _) q, @if_neg _ (Classical.propDecidable _) q]
      by_cases q2 : e6 m
      · rw [@if_pos _ (Classical.propDecidable _) q2]
        exact ih
      · rw [@if_neg _ (Classical.propDecidable _) q2]
        exact ih
  | _, 0, _, _, _, hf, _ => by omega
  | _, _ + 1, 0, _, _, _, hf => by omega
end ALL
/-- each door has just one well within its reach -/
def EvP (n : Nat) (R : Nat → Nat → Prop) (rch : Nat → Nat) (w : Nat) : Prop := ∀ d, d < n → ∃ c, c < n ∧ w.testBit c = true ∧ dd R d c ≤ rch d ∧ ∀ c', c' < n → w.testBit c' = true → dd R d c' ≤ rch d → c' = c
theorem isB_pc1 {x : Int32} {P : Nat → Prop} (h : isBt x P) : ∃ k, f_X7_bitsOf x = some k ∧ ((k = 1) ↔ ∃ c, c < 14 ∧ P c ∧ ∀ c', c' < 14 → P c' → c' = c) := by
  obtain ⟨u, h1, rfl, h3⟩ := h
  obtain ⟨-, c2, c3⟩ := s_pc h1
  refine ⟨_, c2, ?_⟩
  have ht := pc_one h1
  rw [L_1, eq_nI (by omega) (by omega), ht]
  constructor
  · rintro ⟨c, hc, rfl⟩
    refine ⟨c, hc, (h3 c hc).mp Nat.testBit_two_pow_self, fun c' hc' hp => ?_⟩
    have := (h3 c' hc').mpr hp
    rw [Nat.testBit_two_pow, decide_eq_true_iff] at this
    exact this.symm
  · rintro ⟨c, hc, hp, hu⟩
    refine ⟨c, hc, n14_eq h1 (Nat.pow_lt_pow_right (by decide) hc) fun d hd => ?_⟩
    rw [Nat.testBit_two_pow, decide_eq_true_iff, h3 d hd]
    constructor
    · intro z
      exact (hu d hd z).symm
    · rintro rfl
      exact hp
section EVEN
variable {n v : Nat} {R : Nat → Nat → Prop} {rch : Nat → Nat} {M_far M_within M_tooNear : Nat → Int32} {mst cn : Nat → Prop} {P_away : Nat → Nat → Int32} {P_serves P_crowds P_servedLow P_servedHigh P_crowdedLow P_crowdedHigh : Nat → Int32} {P_there P_must P_can : Int32}
theorem e7_loop (hF : zFound n R rch v M_far M_within M_tooNear) (hn : n ≤ 14) {w : Nat} (hw : w < 2 ^ n) :
    ∀ (r f x2 : Nat), r + x2 = n → f ≥ r + 1 → f_X7_isEven_b2 (nI w) (nI n) M_within f (nI x2) = some (b01 (∀ d, x2 ≤ d → d < n → ∃ c, c < n ∧ w.testBit c = true ∧ dd R d c ≤ rch d ∧ ∀ c', c' < n → w.testBit c' = true → dd R d c' ≤ rch d → c' = c))
  | 0, f + 1, x2, h, hf => by
    rw [f_X7_isEven_b2, if_pos (by rw [le_nI (by omega) (by omega)]; omega), b01_t]
    intro d h1 h2
    omega
  | r + 1, f + 1, x2, h, hf => by
    have h2 : x2 < n := by omega
    obtain ⟨k, k1, k2⟩ := isB_pc1 (isB_and (isB_n (lt14 hn hw)) (hF.2.1 x2 h2))
    rw [f_X7_isEven_b2, if_neg (by rw [le_nI (by omega) (by omega)]; omega), ix_nI (show x2 < 14 by omega) (by decide), cl_nI (by omega), k1, bd_of, nI_1]
    have hk : (k = 1) ↔ ∃ c, c < n ∧ w.testBit c = true ∧ dd R x2 c ≤ rch x2 ∧ ∀ c', c' < n → w.testBit c' = true → dd R x2 c' ≤ rch x2 → c' = c := by
      rw [k2]
      constructor
      · rintro ⟨c, c1, ⟨c2, c3, c4⟩, c5⟩
        exact ⟨c, c3, c2, c4, fun c' d1 d2 d3 => c5 c' (by omega) ⟨d2, d1, d3⟩⟩
      · rintro ⟨c, c1, c2, c3, c4⟩
        exact ⟨c, by omega, ⟨c2, c1, c3⟩, fun c' _ d2 => c4 c' d2.2.1 d2.1 d2.2.2⟩
    by_cases q : k = 1
    · rw [if_pos q, e7_loop hF hn hw r f (x2 + 1) (by omega) (by omega)]
      congr 2
      apply propext
      constructor
      · intro z d h1 h3
        by_cases e : d = x2
        · subst e
          exact hk.mp q
        · exact z d (by omega) h3
      · intro z d h1 h3
        exact z d (by omega) h3
    · rw [if_neg q, b01_f]
      intro z
      exact q (hk.mpr (z x2 (Nat.le_refl _) h2))
  | _, 0, _, _, hf => by omega
theorem m_isEven (hF : zFound n R rch v M_far M_within M_tooNear) (hn : n ≤ 14) {w : Nat} (hw : w < 2 ^ n) : f_X7_isEven (nI w) (nI n) M_within = some (b01 (EvP n R rch w)) := by
  unfold f_X7_isEven
  refine (e7_loop hF hn hw n fuel 0 (by omega) (by unfold fuel; omega)).trans ?_
  congr 2
  apply propext
  exact ⟨fun z d hd => z d (Nat.zero_le _) hd, fun z d _ hd => z d hd⟩
/-- wells below m that serve a door -/
def SB (V : Nat → Nat → Prop) (w m d : Nat) : Prop := ∃ c, c < m ∧ w.testBit c = true ∧ V c d
theorem e6_loop {V : Nat → Nat → Prop} (hV : ∀ c, c < 14 → isBt (P_serves c) (V c)) {w s : Nat} (hw : w < 2 ^ 14) (hs : s < 2 ^ 14) :
    ∀ (r f x3 : Nat) (x2 : Int32), r + x3 = 14 → f ≥ r + 1 → isBt x2 (SB V w x3) → (∀ d c c', d < 14 → c < x3 → c' < x3 → w.testBit c = true → w.testBit c' = true → V c d → V c' d → c = c') →
    f_X3_isEven_b4 (nI w) P_serves (nI s) f x2 (nI x3) = some (b01 ((∀ d, d < 14 → (SB V w 14 d ↔ s.testBit d = true)) ∧ ∀ d c c', d < 14 → c < 14 → c' < 14 → w.testBit c = true → w.testBit c' = true → V c d → V c' d → c = c'))
  | 0, f + 1, x3, x2, h, hf, i1, i2 => by
    have e : x3 = 14 := by omega
    subst e
    rw [f_X3_isEven_b4, if_pos (by decide), ite_eqc (isB_eq i1 (isB_n hs))]
    by_cases q : ∀ d, d < 14 → (SB V w 14 d ↔ s.testBit d = true)
    · rw [if_pos q, b01_t ⟨q, i2⟩]
    · rw [if_neg q, b01_f (fun z => q z.1)]
  | r + 1, f + 1, x3, x2, h, hf, i1, i2 => by
    have h3 : x3 < 14 := by omega
    rw [f_X3_isEven_b4, if_neg (by rw [L_14, le_nI (by decide) (by omega)]; omega), ite_eqc (isB_t0 (isB_n hw) h3), ix_nI h3 (by decide), ix_nI h3 (by decide), cl_nI (by omega), ite_eqc (isB_z (isB_and i1 (hV x3 h3)))]
    unfold f_X3_isEven_b40
    rw [nI_1]
    by_cases q : w.testBit x3 = true
    · rw [if_neg (fun z => z q)]
      by_cases q2 : ∀ d, d < 14 → ¬ (SB V w x3 d ∧ V x3 d)
      · rw [if_pos q2]
        refine e6_loop hV hw hs r f (x3 + 1) _ (by omega) (by omega) (isB_c (isB_or i1 (hV x3 h3)) fun d _ => ⟨?_, ?_⟩) (fun d c c' hd h1 h2 h4 h5 h6 h7 => ?_)
        · rintro (⟨c, c1, c2, c3⟩ | z)
          · exact ⟨c, by omega, c2, c3⟩
          · exact ⟨x3, by omega, q, z⟩
        · rintro ⟨c, c1, c2, c3⟩
          by_cases e : c = x3
          · subst e
            exact Or.inr c3
          · exact Or.inl ⟨c, by omega, c2, c3⟩
        · by_cases e : c = x3
          · by_cases e' : c' = x3
            · omega
            · subst e
              exact absurd ⟨⟨c', by omega, h5, h7⟩, h6⟩ (q2 d hd)
          · by_cases e' : c' = x3
            · subst e'
              exact absurd ⟨⟨c, by omega, h4, h6⟩, h7⟩ (q2 d hd)
            · exact i2 d c c' hd (by omega) (by omega) h4 h5 h6 h7
      · rw [if_neg q2, b01_f]
        rintro ⟨-, z⟩
        refine q2 fun d hd y => ?_
        obtain ⟨⟨c, c1, c2, c3⟩, c4⟩ := y
        have := z d c x3 hd (by omega) h3 c2 q c3 c4
        omega
    · rw [if_pos q]
      refine e6_loop hV hw hs r f (x3 + 1) _ (by omega) (by omega) (isB_c i1 fun d _ => ⟨?_, ?_⟩) (fun d c c' hd h1 h2 h4 h5 h6 h7 => ?_)
      · rintro ⟨c, c1, c2, c3⟩
        exact ⟨c, by omega, c2, c3⟩
      · rintro ⟨c, c1, c2, c3⟩
        by_cases e : c = x3
        · subst e
          exact absurd c2 q
        · exact ⟨c, by omega, c2, c3⟩
      · by_cases e : c = x3
        · subst e
          exact absurd h4 q
        · by_cases e' : c' = x3
          · subst e'
            exact absurd h5 q
          · exact i2 d c c' hd (by omega) (by omega) h4 h5 h6 h7
  | _, 0, _, _, _, hf, _, _ => by omega
theorem l_isEven (hL : zLaid (2 ^ n - 1) R rch v mst cn P_away P_serves P_crowds P_servedLow P_servedHigh P_crowdedLow P_crowdedHigh P_there P_must P_can) (hn : n ≤ 14) {w : Nat} (hw : w < 2 ^ n) : f_X3_isEven (nI w) P_serves (nI (2 ^ n - 1)) = some (b01 (EvP n R rch w)) := by
  unfold f_X3_isEven
  refine (e6_loop hL.2.1 (lt14 hn hw) (lt14 hn (all_lt n)) 14 fuel 0 0 (by omega) (by unfold fuel; omega) (isB_c isB_0 fun d _ => ⟨False.elim, ?_⟩) (fun d c c' hd h1 => by omega)).trans ?_
  · rintro ⟨c, c1, -⟩
    omega
  · congr 2
    apply propext
    constructor
    · rintro ⟨z1, z2⟩ d hd
      obtain ⟨c, c1, c2, c3, c4, c5⟩ := (z1 d (by omega)).mpr (tb_all.mpr hd)
      exact ⟨c, tb_lt hw c2, c2, c5, fun c' d1 d2 d3 => z2 d c' c (by omega) (by omega) c1 d2 c2 ⟨tb_all.mpr d1, tb_all.mpr hd, d3⟩ ⟨c3, c4, c5⟩⟩
    · intro z
      refine ⟨fun d hd => ⟨?_, fun hsd => ?_⟩, fun d c c' hd h1 h2 h3 h4 h5 h6 => ?_⟩
      · rintro ⟨c, c1, c2, c3, c4, c5⟩
        exact c4
      · obtain ⟨c, c1, c2, c3, -⟩ := z d (tb_all.mp hsd)
        exact ⟨c, by omega, c2, tb_all.mpr c1, hsd, c3⟩
      · obtain ⟨e, e1, e2, e3, e4⟩ := z d (tb_all.mp h5.2.1)
        rw [e4 c (tb_lt hw h3) h3 h5.2.2, e4 c' (tb_lt hw h4) h4 h6.2.2]
end EVEN
set_option maxHeartbeats 1000000 in
theorem pu_all {T_price : Nat → Int32} {T_year : Nat → Int32} {T_joinEnds : Nat → Int32} {T_wallEnds : Nat → Int32} {T_cost : Nat → Int32} {T_doors : Int32} {T_joins : Int32} {T_walls : Int32} {T_oldWells : Int32} {T_apart : Int32} {L_tape : Nat → Int32} {L_text : Nat → Int32} {L_fed : Int32} {L_length : Int32} {L_read : Nat} {L_end : Int32} {L_at : Int32} {L_fault : Int32} {L_d : Int32} {L_p : Int32} {L_y : Int32} {L_j : Int32} {L_o : Int32} {P_away : Nat → Nat → Int32} {P_beside : Nat → Int32} {P_reach : Nat → Int32} {P_serves : Nat → Int32} {P_crowds : Nat → Int32} {P_servedLow : Nat → Int32} {P_servedHigh : Nat → Int32} {P_crowdedLow : Nat → Int32} {P_crowdedHigh : Nat → Int32} {P_there : Int32} {P_must : Int32} {P_can : Int32} {C_what : Nat → Int32} {C_number : Nat → Int32} {C_before : Nat → Int32} {C_after : Nat → Int32} {C_done : Int32} {C_kept : Int32} {A_kinds : Nat → Int32} {A_traced : Nat → Int32} {A_bodies : Int32} {A_began : Int32} {A_self : Int32} {A_kindOfSelf : Int32} {S_holds : Nat → Int32} {S_body : Nat → Int32} {S_sort : Nat → Int32} {S_size : Nat → Int32} {S_elements : Nat → Nat → Int64} {G_grown : Nat → Int32} {M_code : Int32} {M_doors : Int32} {M_price : Nat → Int32} {M_year : Nat → Int32} {M_joins : Int32} {M_joinA : Nat → Int32} {M_joinB : Nat → Int32} {M_walls : Int32} {M_wallA : Nat → Int32} {M_wallB : Nat → Int32} {M_cost : Nat → Int32} {M_olds : Int32} {M_near : Int32} {M_doneMany : Int32} {M_undoneMany : Int32} {M_changeOf : Nat → Int32} {M_changeAt : Nat → Int32} {M_before : Nat → Int32} {M_behind : Nat → Int32} {M_tape : Nat → Int32} {M_taped : Int32} {M_here : Int32} {M_fault : Int32} {M_open : Int32} {M_laid : Int32} {M_act : Nat → Int32} {M_with : Nat → Int32} {M_lineMany : Nat → Int32} {M_testEnd : Nat → Int32} {M_lineEnd : Nat → Int32} {M_facts : Nat → Int32} {M_pile : Nat → Int32} {M_hasLaw : Int32} {M_far : Nat → Int32} {M_within : Nat → Int32} {M_tooNear : Nat → Int32} {M_dried : Int32} {M_isOn : Nat → Int32} {M_wasOn : Nat → Int32} {M_bodies : Int32} {M_kind : Nat → Int32} {M_traces : Int32} {M_traced : Nat → Int32} {M_holds : Nat → Int32} {M_size : Nat → Int32} {M_elements : Nat → Int64} {M_shifted : Nat → Int64} (hI : INV T_price T_year T_joinEnds T_wallEnds T_cost T_doors T_joins T_walls T_oldWells T_apart L_tape L_text L_fed L_length L_read L_end L_at L_fault L_d L_p L_y L_j L_o P_away P_beside P_reach P_serves P_crowds P_servedLow P_servedHigh P_crowdedLow P_crowdedHigh P_there P_must P_can C_what C_number C_before C_after C_done C_kept A_kinds A_traced A_bodies A_began A_self A_kindOfSelf S_holds S_body S_sort S_size S_elements G_grown M_code M_doors M_price M_year M_joins M_joinA M_joinB M_walls M_wallA M_wallB M_cost M_olds M_near M_doneMany M_undoneMany M_changeOf M_changeAt M_before M_behind M_tape M_taped M_here M_fault M_open M_laid M_act M_with M_lineMany M_testEnd M_lineEnd M_facts M_pile M_hasLaw M_far M_within M_tooNear M_dried M_isOn M_wasOn M_bodies M_kind M_traces M_traced M_holds M_size M_elements M_shifted) (a1 : Int32) : ∃ (rc : Int32 × Nat × Int32 × Int32 × Int32 × Int32 × Int32 × Int32 × Int32 × Int32 × (Nat → Nat → Int32) × (Nat → Int32) × (Nat → Int32) × (Nat → Int32) × (Nat → Int32) × (Nat → Int32) × (Nat → Int32) × (Nat → Int32) × (Nat → Int32) × Int32 × Int32 × Int32) (rm : Int32 × (Nat → Int32) × (Nat → Int32) × (Nat → Int32) × (Nat → Int32) × (Nat → Int32)), f_X6_all a1 T_price T_year T_joinEnds T_wallEnds T_doors T_joins T_walls T_oldWells T_apart L_text L_length L_read L_end L_at L_fault L_d L_p L_y L_j L_o P_away P_beside P_reach P_serves P_crowds P_servedLow P_servedHigh P_crowdedLow P_crowdedHigh P_there P_must P_can = some rc ∧ f_X7_all a1 M_doors M_price M_year M_joins M_joinA M_joinB M_olds M_near M_act M_with M_lineMany M_testEnd M_lineEnd M_facts M_pile M_hasLaw M_far M_within M_tooNear M_dried = some rm ∧ rc.1 = rm.1 ∧ INV T_price T_year T_joinEnds T_wallEnds T_cost T_doors T_joins T_walls T_oldWells T_apart L_tape L_text L_fed L_length rc.2.1 rc.2.2.1 rc.2.2.2.1 rc.2.2.2.2.1 rc.2.2.2.2.2.1 rc.2.2.2.2.2.2.1 rc.2.2.2.2.2.2.2.1 rc.2.2.2.2.2.2.2.2.1 rc.2.2.2.2.2.2.2.2.2.1 rc.2.2.2.2.2.2.2.2.2.2.1 rc.2.2.2.2.2.2.2.2.2.2.2.1 rc.2.2.2.2.2.2.2.2.2.2.2.2.1 rc.2.2.2.2.2.2.2.2.2.2.2.2.2.1 rc.2.2.2.2.2.2.2.2.2.2.2.2.2.2.1 rc.2.2.2.2.2.2.2.2.2.2.2.2.2.2.2.1 rc.2.2.2.2.2.2.2.2.2.2.2.2.2.2.2.2.1 rc.2.2.2.2.2.2.2.2.2.2.2.2.2.2.2.2.2.1 rc.2.2.2.2.2.2.2.2.2.2.2.2.2.2.2.2.2.2.1 rc.2.2.2.2.2.2.2.2.2.2.2.2.2.2.2.2.2.2.2.1 rc.2.2.2.2.2.2.2.2.2.2.2.2.2.2.2.2.2.2.2.2.1 rc.2.2.2.2.2.2.2.2.2.2.2.2.2.2.2.2.2.2.2.2.2 C_what C_number C_before C_after C_done C_kept A_kinds A_traced A_bodies A_began A_self A_kindOfSelf S_holds S_body S_sort S_size S_elements G_grown M_code M_doors M_price M_year M_joins M_joinA M_joinB M_walls M_wallA M_wallB M_cost M_olds M_near M_doneMany M_undoneMany M_changeOf M_changeAt M_before M_behind M_tape M_taped M_here M_fault M_open M_laid M_act M_with M_lineMany M_testEnd M_lineEnd rm.2.1 rm.2.2.1 M_hasLaw rm.2.2.2.1 rm.2.2.2.2.1 rm.2.2.2.2.2 M_dried M_isOn M_wasOn M_bodies M_kind M_traces M_traced M_holds M_size M_elements M_shifted := by
  have hI0 := hI
  obtain ⟨n, kj, kw, o, v, nb, hT, hL, hC, hA, hS⟩ := hI
  obtain ⟨A, B, rch, hset⟩ := SET_ex hT hL o
  have hT0 := hT
  obtain ⟨⟨b1, b2, b3, b4, b5⟩, ⟨rfl, rfl, rfl, rfl, rfl, rfl, rfl, rfl, rfl, rfl, rfl⟩, h1, h2, h3, h4, h5⟩ := hT
  have hp := p14 b1
  obtain ⟨rd, e, a', f', d, p, y, j, o', W', Be', P', sv', cw', sl', sh', cl', ch', mu, ca, t1, t2⟩ := s_settle hset b1 b4 b5 h1 L_read L_end L_at L_fault L_d L_p L_y L_j L_o P_away P_beside P_reach P_serves P_crowds P_servedLow P_servedHigh P_crowdedLow P_crowdedHigh P_there P_must P_can
  obtain ⟨fa', pi', far', wi', tn', g1, g2⟩ := s_findAll b1 (all_lt n) b5 hset.1 hset.2.2.1 hset.2.2.2.2 M_facts M_pile M_far M_within M_tooNear
  unfold f_X6_all f_X7_all
  rw [t1, bd_of, s_allDoors b1, bd_of, g1, bd_of, bd_of, s_in, bd_of, i01, s_isWithin, bd_of, i01]
  by_cases q0 : a1 < 0 ∨ 2 < a1
  · rw [if_pos q0, if_pos q0]
    exact ⟨_, _, rfl, rfl, rfl, hI0⟩
  rw [if_neg q0, if_neg q0]
  obtain ⟨y0, j1, j2⟩ := al_loop (x1 := a1) (fa := fa') (pi := pi') (far := far') (L_read := rd) (L_end := e) (L_at := a') (L_fault := f') (L_d := d) (L_p := p) (L_y := y) (L_j := j) (L_o := o') (W := W') (Be := Be') (P := P') (sv := sv') (cw := cw') b1 (fun w hw => (both_may b1 b4 h1 t2 g2 hw).1) (fun w hw => (both_may b1 b4 h1 t2 g2 hw).2) (2 ^ n) fuel fuel 0 0 (nI (2 ^ n - 1)) 0 (by omega) (by unfold fuel; omega) (by unfold fuel; omega)
  exact ⟨_, _, j1, j2, rfl, n, kj, kw, o, v, nb, hT0, hL, hC, hA, hS⟩
set_option maxHeartbeats 1000000 in
theorem pu_even {T_price : Nat → Int32} {T_year : Nat → Int32} {T_joinEnds : Nat → Int32} {T_wallEnds : Nat → Int32} {T_cost : Nat → Int32} {T_doors : Int32} {T_joins : Int32} {T_walls : Int32} {T_oldWells : Int32} {T_apart : Int32} {L_tape : Nat → Int32} {L_text : Nat → Int32} {L_fed : Int32} {L_length : Int32} {L_read : Nat} {L_end : Int32} {L_at : Int32} {L_fault : Int32} {L_d : Int32} {L_p : Int32} {L_y : Int32} {L_j : Int32} {L_o : Int32} {P_away : Nat → Nat → Int32} {P_beside : Nat → Int32} {P_reach : Nat → Int32} {P_serves : Nat → Int32} {P_crowds : Nat → Int32} {P_servedLow : Nat → Int32} {P_servedHigh : Nat → Int32} {P_crowdedLow : Nat → Int32} {P_crowdedHigh : Nat → Int32} {P_there : Int32} {P_must : Int32} {P_can : Int32} {C_what : Nat → Int32} {C_number : Nat → Int32} {C_before : Nat → Int32} {C_after : Nat → Int32} {C_done : Int32} {C_kept : Int32} {A_kinds : Nat → Int32} {A_traced : Nat → Int32} {A_bodies : Int32} {A_began : Int32} {A_self : Int32} {A_kindOfSelf : Int32} {S_holds : Nat → Int32} {S_body : Nat → Int32} {S_sort : Nat → Int32} {S_size : Nat → Int32} {S_elements : Nat → Nat → Int64} {G_grown : Nat → Int32} {M_code : Int32} {M_doors : Int32} {M_price : Nat → Int32} {M_year : Nat → Int32} {M_joins : Int32} {M_joinA : Nat → Int32} {M_joinB : Nat → Int32} {M_walls : Int32} {M_wallA : Nat → Int32} {M_wallB : Nat → Int32} {M_cost : Nat → Int32} {M_olds : Int32} {M_near : Int32} {M_doneMany : Int32} {M_undoneMany : Int32} {M_changeOf : Nat → Int32} {M_changeAt : Nat → Int32} {M_before : Nat → Int32} {M_behind : Nat → Int32} {M_tape : Nat → Int32} {M_taped : Int32} {M_here : Int32} {M_fault : Int32} {M_open : Int32} {M_laid : Int32} {M_act : Nat → Int32} {M_with : Nat → Int32} {M_lineMany : Nat → Int32} {M_testEnd : Nat → Int32} {M_lineEnd : Nat → Int32} {M_facts : Nat → Int32} {M_pile : Nat → Int32} {M_hasLaw : Int32} {M_far : Nat → Int32} {M_within : Nat → Int32} {M_tooNear : Nat → Int32} {M_dried : Int32} {M_isOn : Nat → Int32} {M_wasOn : Nat → Int32} {M_bodies : Int32} {M_kind : Nat → Int32} {M_traces : Int32} {M_traced : Nat → Int32} {M_holds : Nat → Int32} {M_size : Nat → Int32} {M_elements : Nat → Int64} {M_shifted : Nat → Int64} (hI : INV T_price T_year T_joinEnds T_wallEnds T_cost T_doors T_joins T_walls T_oldWells T_apart L_tape L_text L_fed L_length L_read L_end L_at L_fault L_d L_p L_y L_j L_o P_away P_beside P_reach P_serves P_crowds P_servedLow P_servedHigh P_crowdedLow P_crowdedHigh P_there P_must P_can C_what C_number C_before C_after C_done C_kept A_kinds A_traced A_bodies A_began A_self A_kindOfSelf S_holds S_body S_sort S_size S_elements G_grown M_code M_doors M_price M_year M_joins M_joinA M_joinB M_walls M_wallA M_wallB M_cost M_olds M_near M_doneMany M_undoneMany M_changeOf M_changeAt M_before M_behind M_tape M_taped M_here M_fault M_open M_laid M_act M_with M_lineMany M_testEnd M_lineEnd M_facts M_pile M_hasLaw M_far M_within M_tooNear M_dried M_isOn M_wasOn M_bodies M_kind M_traces M_traced M_holds M_size M_elements M_shifted) : ∃ (rc : Int32 × Nat × Int32 × Int32 × Int32 × Int32 × Int32 × Int32 × Int32 × Int32 × (Nat → Nat → Int32) × (Nat → Int32) × (Nat → Int32) × (Nat → Int32) × (Nat → Int32) × (Nat → Int32) × (Nat → Int32) × (Nat → Int32) × (Nat → Int32) × Int32 × Int32 × Int32) (rm : Int32 × (Nat → Int32) × (Nat → Int32) × (Nat → Int32) × (Nat → Int32) × (Nat → Int32)), f_X6_even T_price T_year T_joinEnds T_wallEnds T_doors T_joins T_walls T_oldWells T_apart L_text L_length L_read L_end L_at L_fault L_d L_p L_y L_j L_o P_away P_beside P_reach P_serves P_crowds P_servedLow P_servedHigh P_crowdedLow P_crowdedHigh P_there P_must P_can = some rc ∧ f_X7_even M_doors M_price M_year M_joins M_joinA M_joinB M_olds M_near M_act M_with M_lineMany M_testEnd M_lineEnd M_facts M_pile M_hasLaw M_far M_within M_tooNear M_dried = some rm ∧ rc.1 = rm.1 ∧ INV T_price T_year T_joinEnds T_wallEnds T_cost T_doors T_joins T_walls T_oldWells T_apart L_tape L_text L_fed L_length rc.2.1 rc.2.2.1 rc.2.2.2.1 rc.2.2.2.2.1 rc.2.2.2.2.2.1 rc.2.2.2.2.2.2.1 rc.2.2.2.2.2.2.2.1 rc.2.2.2.2.2.2.2.2.1 rc.2.2.2.2.2.2.2.2.2.1 rc.2.2.2.2.2.2.2.2.2.2.1 rc.2.2.2.2.2.2.2.2.2.2.2.1 rc.2.2.2.2.2.2.2.2.2.2.2.2.1 rc.2.2.2.2.2.2.2.2.2.2.2.2.2.1 rc.2.2.2.2.2.2.2.2.2.2.2.2.2.2.1 rc.2.2.2.2.2.2.2.2.2.2.2.2.2.2.2.1 rc.2.2.2.2.2.2.2.2.2.2.2.2.2.2.2.2.1 rc.2.2.2.2.2.2.2.2.2.2.2.2.2.2.2.2.2.1 rc.2.2.2.2.2.2.2.2.2.2.2.2.2.2.2.2.2.2.1 rc.2.2.2.2.2.2.2.2.2.2.2.2.2.2.2.2.2.2.2.1 rc.2.2.2.2.2.2.2.2.2.2.2.2.2.2.2.2.2.2.2.2.1 rc.2.2.2.2.2.2.2.2.2.2.2.2.2.2.2.2.2.2.2.2.2 C_what C_number C_before C_after C_done C_kept A_kinds A_traced A_bodies A_began A_self A_kindOfSelf S_holds S_body S_sort S_size S_elements G_grown M_code M_doors M_price M_year M_joins M_joinA M_joinB M_walls M_wallA M_wallB M_cost M_olds M_near M_doneMany M_undoneMany M_changeOf M_changeAt M_before M_behind M_tape M_taped M_here M_fault M_open M_laid M_act M_with M_lineMany M_testEnd M_lineEnd rm.2.1 rm.2.2.1 M_hasLaw rm.2.2.2.1 rm.2.2.2.2.1 rm.2.2.2.2.2 M_dried M_isOn M_wasOn M_bodies M_kind M_traces M_traced M_holds M_size M_elements M_shifted := by
  have hI0 := hI
  obtain ⟨n, kj, kw, o, v, nb, hT, hL, hC, hA, hS⟩ := hI
  obtain ⟨A, B, rch, hset⟩ := SET_ex hT hL o
  have hT0 := hT
  obtain ⟨⟨b1, b2, b3, b4, b5⟩, ⟨rfl, rfl, rfl, rfl, rfl, rfl, rfl, rfl, rfl, rfl, rfl⟩, h1, h2, h3, h4, h5⟩ := hT
  have hp := p14 b1
  obtain ⟨rd, e, a', f', d, p, y, j, o', W', Be', P', sv', cw', sl', sh', cl', ch', mu, ca, t1, t2⟩ := s_settle hset b1 b4 b5 h1 L_read L_end L_at L_fault L_d L_p L_y L_j L_o P_away P_beside P_reach P_serves P_crowds P_servedLow P_servedHigh P_crowdedLow P_crowdedHigh P_there P_must P_can
  obtain ⟨fa', pi', far', wi', tn', g1, g2⟩ := s_findAll b1 (all_lt n) b5 hset.1 hset.2.2.1 hset.2.2.2.2 M_facts M_pile M_far M_within M_tooNear
  unfold f_X6_even f_X7_even
  rw [t1, bd_of, s_allDoors b1, bd_of, g1, bd_of]
  obtain ⟨y0, j1, j2⟩ := ev_loop (fa := fa') (pi := pi') (far := far') (L_read := rd) (L_end := e) (L_at := a') (L_fault := f') (L_d := d) (L_p := p) (L_y := y) (L_j := j) (L_o := o') (W := W') (Be := Be') (P := P') (sv := sv') (cw := cw') b1 (fun w hw => (both_may b1 b4 h1 t2 g2 hw).1) (fun w hw => (both_may b1 b4 h1 t2 g2 hw).2) (fun w hw => l_isEven t2 b1 hw) (fun w hw => m_isEven g2 b1 hw) (2 ^ n) fuel fuel 0 (by omega) (by unfold fuel; omega) (by unfold fuel; omega)
  exact ⟨_, _, j1, j2, rfl, n, kj, kw, o, v, nb, hT0, hL, hC, hA, hS⟩
