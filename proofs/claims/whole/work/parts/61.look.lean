/-! what the two sides read off: served, near, lawful, may be -/
theorem tb_lt {w n d : Nat} (hw : w < 2 ^ n) (h : w.testBit d = true) : d < n := by
  by_cases q : d < n
  · exact q
  · rw [Nat.testBit_lt_two_pow (Nat.lt_of_lt_of_le hw (Nat.pow_le_pow_right (by decide) (Nat.le_of_not_lt q)))] at h
    exact Bool.noConfusion h
theorem tb_all {n d : Nat} : (2 ^ n - 1).testBit d = true ↔ d < n := by
  rw [Nat.testBit_two_pow_sub_one, decide_eq_true_iff]
theorem all_lt (n : Nat) : 2 ^ n - 1 < 2 ^ n := by
  have := Nat.two_pow_pos n
  omega
theorem lt14 {w n : Nat} (hn : n ≤ 14) (h : w < 2 ^ n) : w < 2 ^ 14 := Nat.lt_of_lt_of_le h (Nat.pow_le_pow_right (by decide) hn)
def zUS (V : Nat → Nat → Prop) (w e : Nat) : Prop := ∃ c, c < 14 ∧ w.testBit c = true ∧ V c e
theorem GT_US {V : Nat → Nat → Prop} {w e : Nat} : (zGT V 0 (w % 2 ^ 7) e ∨ zGT V 7 (w / 2 ^ 7 % 2 ^ 7) e) ↔ zUS V w e := by
  constructor
  · rintro (⟨c, c1, c2, c3⟩ | ⟨c, c1, c2, c3⟩)
    · rw [Nat.testBit_mod_two_pow] at c2
      rw [Nat.zero_add] at c3
      exact ⟨c, by omega, by simpa [c1] using c2, c3⟩
    · rw [Nat.testBit_mod_two_pow, Nat.testBit_div_two_pow, Nat.add_comm] at c2
      exact ⟨7 + c, by omega, by simpa [c1] using c2, c3⟩
  · rintro ⟨c, c1, c2, c3⟩
    by_cases q : c < 7
    · refine Or.inl ⟨c, q, ?_, ?_⟩
      · rw [Nat.testBit_mod_two_pow]
        simp [q, c2]
      · rw [Nat.zero_add]
        exact c3
    · refine Or.inr ⟨c - 7, by omega, ?_, ?_⟩
      · rw [Nat.testBit_mod_two_pow, Nat.testBit_div_two_pow, show c - 7 + 7 = c by omega, c2]
        simp
        omega
      · rw [show 7 + (c - 7) = c by omega]
        exact c3
theorem h_low {w : Nat} : nI w &&& 127 = nI (w % 2 ^ 7) := by
  rw [show (127 : Int32) = nI (2 ^ 7 - 1) from rfl, nb_and, Nat.and_two_pow_sub_one_eq_mod]
theorem h_high {w : Nat} (hw : w < 2 ^ 14) : (nI w >>> (7 &&& 31)) &&& 127 = nI (w / 2 ^ 7 % 2 ^ 7) := by
  rw [L_7, nb_shr (by omega) (by decide), h_low]
theorem s_served {V : Nat → Nat → Prop} {sl sh : Nat → Int32} (h1 : ∀ m, m < 128 → isBt (sl m) (zGT V 0 m)) (h2 : ∀ m, m < 128 → isBt (sh m) (zGT V 7 m)) {w : Nat} (hw : w < 2 ^ 14) : ∃ y, f_X3_served (nI w) sl sh = some y ∧ isBt y (zUS V w) := by
  have a1 : w % 2 ^ 7 < 128 := Nat.mod_lt _ (by decide)
  have a2 : w / 2 ^ 7 % 2 ^ 7 < 128 := Nat.mod_lt _ (by decide)
  unfold f_X3_served
  rw [h_low, h_high hw, ix_nI a1 (by decide), ix_nI a2 (by decide), cl_nI (by omega), cl_nI (by omega)]
  exact ⟨_, rfl, isB_c (isB_or (h1 _ a1) (h2 _ a2)) fun e _ => GT_US⟩
theorem s_crowded {V : Nat → Nat → Prop} {sl sh : Nat → Int32} (h1 : ∀ m, m < 128 → isBt (sl m) (zGT V 0 m)) (h2 : ∀ m, m < 128 → isBt (sh m) (zGT V 7 m)) {w : Nat} (hw : w < 2 ^ 14) : ∃ y, f_X3_crowded (nI w) sl sh = some y ∧ isBt y (zUS V w) := by
  have a1 : w % 2 ^ 7 < 128 := Nat.mod_lt _ (by decide)
  have a2 : w / 2 ^ 7 % 2 ^ 7 < 128 := Nat.mod_lt _ (by decide)
  unfold f_X3_crowded
  rw [h_low, h_high hw, ix_nI a1 (by decide), ix_nI a2 (by decide), cl_nI (by omega), cl_nI (by omega)]
  exact ⟨_, rfl, isB_c (isB_or (h1 _ a1) (h2 _ a2)) fun e _ => GT_US⟩
/-- a door served, a place clear, a laying lawful, a laying that may be -/
def Srv (n : Nat) (R : Nat → Nat → Prop) (rch : Nat → Nat) (w d : Nat) : Prop := ∃ b, b < n ∧ w.testBit b = true ∧ dd R d b ≤ rch d
def Clr (n : Nat) (R : Nat → Nat → Prop) (v w d : Nat) : Prop := ∀ b, b < n → w.testBit b = true → d ≠ b → ¬ dd R d b < v
def LawP (n s : Nat) (R : Nat → Nat → Prop) (rch : Nat → Nat) (v w : Nat) : Prop := (∀ d, d < n → s.testBit d = true → Srv n R rch w d) ∧ (∀ d, d < n → w.testBit d = true → Clr n R v w d)
def MayP (n s ob : Nat) (rk : Nat → Prop) (R : Nat → Nat → Prop) (rch : Nat → Nat) (v w : Nat) : Prop := (∀ d, d < n → ob.testBit d = true → s.testBit d = true → w.testBit d = true) ∧ (∀ d, d < n → w.testBit d = true → s.testBit d = true ∧ (ob.testBit d = true ∨ ¬ rk d)) ∧ LawP n s R rch v w
theorem US_srv {n s w d : Nat} {R : Nat → Nat → Prop} {rch : Nat → Nat} (hs : s < 2 ^ n) (hn : n ≤ 14) (hws : ∀ b, w.testBit b = true → s.testBit b = true) (hd : s.testBit d = true) : zUS (SVd s R rch) w d ↔ Srv n R rch w d := by
  constructor
  · rintro ⟨c, c1, c2, c3, -, c5⟩
    exact ⟨c, tb_lt hs c3, c2, c5⟩
  · rintro ⟨b, b1, b2, b3⟩
    exact ⟨b, by omega, b2, hws b b2, hd, b3⟩
theorem US_clr {n s w d : Nat} {R : Nat → Nat → Prop} {v : Nat} (hs : s < 2 ^ n) (hn : n ≤ 14) (hws : ∀ b, w.testBit b = true → s.testBit b = true) : ¬ zUS (CWd s R v) w d ↔ Clr n R v w d := by
  constructor
  · intro h b b1 b2 b3 b4
    exact h ⟨b, by omega, b2, hws b b2, b3, b4⟩
  · rintro h ⟨c, c1, c2, c3, c4, c5⟩
    exact h c (tb_lt hs c3) c2 c4 c5
section LOOK
variable {n s v : Nat} {R : Nat → Nat → Prop} {rch : Nat → Nat} {mst cn : Nat → Prop} {P_away : Nat → Nat → Int32} {P_serves P_crowds P_servedLow P_servedHigh P_crowdedLow P_crowdedHigh : Nat → Int32} {P_there P_must P_can : Int32}
theorem l_isServed (hL : zLaid s R rch v mst cn P_away P_serves P_crowds P_servedLow P_servedHigh P_crowdedLow P_crowdedHigh P_there P_must P_can) {w d : Nat} (hw : w < 2 ^ 14) (hd : d < 14) : f_X3_isServed (nI d) (nI w) P_servedLow P_servedHigh = some (b01 (zUS (SVd s R rch) w d)) := by
  obtain ⟨y, g1, g2⟩ := s_served hL.2.2.2.1 hL.2.2.2.2.1 hw
  unfold f_X3_isServed
  rw [g1, bd_of, ite_eqc (isB_t0 g2 hd)]
  by_cases q : zUS (SVd s R rch) w d
  · rw [b01_t q, if_neg (fun z => z q)]
  · rw [b01_f q, if_pos q]
theorem l_isClear (hL : zLaid s R rch v mst cn P_away P_serves P_crowds P_servedLow P_servedHigh P_crowdedLow P_crowdedHigh P_there P_must P_can) {w d : Nat} (hw : w < 2 ^ 14) (hd : d < 14) : f_X3_isClear (nI d) (nI w) P_crowdedLow P_crowdedHigh = some (b01 (¬ zUS (CWd s R v) w d)) := by
  obtain ⟨y, g1, g2⟩ := s_crowded hL.2.2.2.2.2.1 hL.2.2.2.2.2.2.1 hw
  unfold f_X3_isClear
  rw [g1, bd_of, ite_eqc (isB_t0 g2 hd)]
  by_cases q : zUS (CWd s R v) w d
  · rw [b01_f (fun z => z q), if_neg (fun z => z q)]
  · rw [b01_t q, if_pos q]
theorem l_isLawful (hL : zLaid s R rch v mst cn P_away P_serves P_crowds P_servedLow P_servedHigh P_crowdedLow P_crowdedHigh P_there P_must P_can) (hn : n ≤ 14) (hs : s < 2 ^ n) {w : Nat} (hws : ∀ b, w.testBit b = true → s.testBit b = true) (hw : w < 2 ^ 14) :
    f_X3_isLawful (nI w) P_servedLow P_servedHigh P_crowdedLow P_crowdedHigh P_there = some (b01 (LawP n s R rch v w)) := by
  obtain ⟨y, g1, g2⟩ := s_served hL.2.2.2.1 hL.2.2.2.2.1 hw
  obtain ⟨y2, g3, g4⟩ := s_crowded hL.2.2.2.2.2.1 hL.2.2.2.2.2.2.1 hw
  have hth := hL.2.2.2.2.2.2.2.1
  unfold f_X3_isLawful
  rw [g1, bd_of, hth, ite_eqc (isB_eq g2 (isB_n (lt14 hn hs))), g3, bd_of, ite_eqc (isB_z (isB_and g4 (isB_n hw)))]
  by_cases q1 : ∀ d, d < 14 → (zUS (SVd s R rch) w d ↔ s.testBit d = true)
  · rw [if_pos q1]
    by_cases q2 : ∀ d, d < 14 → ¬ (zUS (CWd s R v) w d ∧ w.testBit d = true)
    · rw [if_pos q2, b01_t]
      refine ⟨fun d hd hsd => (US_srv hs hn hws hsd).mp ((q1 d (by omega)).mpr hsd), fun d hd hwd => (US_clr hs hn hws).mp fun z => q2 d (by omega) ⟨z, hwd⟩⟩
    · rw [if_neg q2, b01_f]
      intro z
      exact q2 fun d hd y => (US_clr hs hn hws).mpr (z.2 d (tb_lt hs (hws d y.2)) y.2) y.1
  · rw [if_neg q1, b01_f]
    intro z
    refine q1 fun d hd => ⟨?_, fun hsd => (US_srv hs hn hws hsd).mpr (z.1 d (tb_lt hs hsd) hsd)⟩
    rintro ⟨c, -, -, -, c4, -⟩
    exact c4
theorem l_mayBe (hL : zLaid s R rch v mst cn P_away P_serves P_crowds P_servedLow P_servedHigh P_crowdedLow P_crowdedHigh P_there P_must P_can) (hn : n ≤ 14) (hs : s < 2 ^ n) {ob : Nat} {rk : Nat → Prop} (hm : ∀ d, d < 14 → (mst d ↔ ob.testBit d = true ∧ s.testBit d = true)) (hc : ∀ d, d < n → (cn d ↔ s.testBit d = true ∧ (ob.testBit d = true ∨ ¬ rk d))) {w : Nat} (hw : w < 2 ^ n) :
    f_X3_mayBe (nI w) P_servedLow P_servedHigh P_crowdedLow P_crowdedHigh P_there P_must P_can = some (b01 (MayP n s ob rk R rch v w)) := by
  have im := hL.2.2.2.2.2.2.2.2.1
  have ic := hL.2.2.2.2.2.2.2.2.2
  have hw14 := lt14 hn hw
  unfold f_X3_mayBe
  rw [ite_eqc (isB_eq (isB_and (isB_n hw14) im) im), ite_eqc (isB_z (isB_not (isB_n hw14) ic))]
  by_cases q1 : ∀ d, d < 14 → (w.testBit d = true ∧ mst d ↔ mst d)
  · rw [if_pos q1]
    by_cases q2 : ∀ d, d < 14 → ¬ (w.testBit d = true ∧ ¬ cn d)
    · have hcn : ∀ d, w.testBit d = true → cn d := fun d hd => Classical.byContradiction fun z => q2 d (tb_lt hw14 hd) ⟨hd, z⟩
      have hws : ∀ b, w.testBit b = true → s.testBit b = true := fun b hb => ((hc b (tb_lt hw hb)).mp (hcn b hb)).1
      rw [if_pos q2, l_isLawful hL hn hs hws hw14, bd_of, b01_if]
      by_cases q3 : LawP n s R rch v w
      · rw [@if_pos _ (Classical.propDecidable _) q3, b01_t]
        refine ⟨fun d hd h1 h2 => ((q1 d (by omega)).mpr ((hm d (by omega)).mpr ⟨h1, h2⟩)).1, fun d hd h1 => (hc d hd).mp (hcn d h1), q3⟩
      · rw [@if_neg _ (Classical.propDecidable _) q3, b01_f (fun z => q3 z.2.2)]
    · rw [if_neg q2, b01_f]
      intro z
      exact q2 fun d hd y => y.2 ((hc d (tb_lt hw y.1)).mpr (z.2.1 d (tb_lt hw y.1) y.1))
  · rw [if_neg q1, b01_f]
    intro z
    refine q1 fun d hd => ⟨fun y => y.2, fun y => ⟨?_, y⟩⟩
    obtain ⟨h1, h2⟩ := (hm d hd).mp y
    exact z.1 d (tb_lt hs h2) h1 h2
end LOOK
