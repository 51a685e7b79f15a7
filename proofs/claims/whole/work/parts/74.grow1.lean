/-! grow: the doors of a year, the layings that grow, those that come -/
theorem nar_0 : vp_nar .boolean 0 = 0 := by decide +kernel
theorem nar_1 : vp_nar .boolean 1 = 1 := by decide +kernel
theorem nar_b01 {p : Prop} : vp_nar .boolean (b01 p) = b01 p := by
  by_cases q : p
  · rw [b01_t q, nar_1]
  · rw [b01_f q, nar_0]
theorem b01_01 {p : Prop} : b01 p = 0 ∨ b01 p = 1 := by
  by_cases q : p
  · exact Or.inr (b01_t q)
  · exact Or.inl (b01_f q)
section GROW1
variable {n : Nat} {T_year M_year : Nat → Int32}
theorem by_loop {x1 : Int32} (hn : n ≤ 14) (hy : ∀ i, i < n → T_year i = M_year i) :
    ∀ (r f f7 m : Nat) (a : Int32) (Q : Nat → Prop), r + m = n → f ≥ r + 1 → f7 ≥ r + 1 → isBt a Q → ∃ y, f_X5_builtBy_b4 x1 T_year (nI n) f a (nI m) = some y ∧ f_X7_thereIn_b4 x1 (nI n) M_year f7 a (nI m) = some y ∧ isBt y (fun d => Q d ∨ (m ≤ d ∧ d < n ∧ ¬ x1 < M_year d))
  | 0, f + 1, f7 + 1, m, a, Q, h, hf, hf7, hQ => by
    have e : m = n := by omega
    subst e
    refine ⟨a, by rw [f_X5_builtBy_b4, if_pos (by rw [le_nI (by omega) (by omega)]; omega)], by rw [f_X7_thereIn_b4, if_pos (by rw [le_nI (by omega) (by omega)]; omega)], isB_c hQ fun d _ => ⟨Or.inl, ?_⟩⟩
    rintro (z | ⟨z, y, -⟩)
    · exact z
    · omega
  | r + 1, f + 1, f7 + 1, m, a, Q, h, hf, hf7, hQ => by
    have hm : m < n := by omega
    rw [f_X7_thereIn_b4, if_neg (by rw [le_nI (by omega) (by omega)]; omega), f_X5_builtBy_b4, if_neg (by rw [le_nI (by omega) (by omega)]; omega), ix_nI (show m < 14 by omega) (by decide), ix_nI (show m < 14 by omega) (by decide), cl_nI (by omega), hy m hm]
    unfold f_X5_builtBy_b30 f_X7_thereIn_b28
    rw [nI_1]
    by_cases q : x1 < M_year m
    · obtain ⟨y, g1, g2, g3⟩ := by_loop (x1 := x1) hn hy r f f7 (m + 1) a Q (by omega) (by omega) (by omega) hQ
      rw [if_pos q, if_pos q, Int32.or_zero]
      refine ⟨y, g1, g2, isB_c g3 fun d _ => ⟨?_, ?_⟩⟩
      · rintro (z | ⟨z, z2⟩)
        · exact Or.inl z
        · exact Or.inr ⟨by omega, z2⟩
      · rintro (z | ⟨z, z2, z3⟩)
        · exact Or.inl z
        · by_cases e : d = m
          · subst e
            exact absurd q z3
          · exact Or.inr ⟨by omega, z2, z3⟩
    · obtain ⟨y, g1, g2, g3⟩ := by_loop (x1 := x1) hn hy r f f7 (m + 1) _ _ (by omega) (by omega) (by omega) (isB_add hQ (show m < 14 by omega))
      rw [if_neg q, if_neg q]
      refine ⟨y, g1, g2, isB_c g3 fun d _ => ⟨?_, ?_⟩⟩
      · rintro ((z | rfl) | ⟨z, z2⟩)
        · exact Or.inl z
        · exact Or.inr ⟨Nat.le_refl _, hm, q⟩
        · exact Or.inr ⟨by omega, z2⟩
      · rintro (z | ⟨z, z2, z3⟩)
        · exact Or.inl (Or.inl z)
        · by_cases e : d = m
          · exact Or.inl (Or.inr e)
          · exact Or.inr ⟨by omega, z2, z3⟩
  | _, 0, _, _, _, _, _, hf, _, _ => by omega
  | _, _ + 1, 0, _, _, _, _, _, hf, _ => by omega
theorem lt_of_bits {u n : Nat} (h : ∀ i, u.testBit i = true → i < n) : u < 2 ^ n := by
  rcases Nat.lt_or_ge u (2 ^ n) with z | z
  · exact z
  · obtain ⟨i, hi, hb⟩ := Nat.exists_ge_and_testBit_of_ge_two_pow z
    have := h i hb
    omega
theorem s_there {x1 : Int32} (hn : n ≤ 14) (hy : ∀ i, i < n → T_year i = M_year i) : ∃ s, s < 2 ^ n ∧ f_X5_builtBy x1 T_year (nI n) = some (nI s) ∧ f_X7_thereIn x1 (nI n) M_year = some (nI s) := by
  obtain ⟨y, g1, g2, s, s1, rfl, s3⟩ := by_loop (x1 := x1) hn hy n fuel fuel 0 0 _ (by omega) (by unfold fuel; omega) (by unfold fuel; omega) isB_0
  refine ⟨s, lt_of_bits fun i hi => ?_, g1, g2⟩
  rcases (s3 i (tb_lt s1 hi)).mp hi with z | z
  · exact z.elim
  · exact z.2.1
end GROW1
/-- what grows with the first i doors -/
def Upi (G : Nat → Prop) (i w : Nat) : Prop := ∃ u, G u ∧ (∀ d, u.testBit d = true → w.testBit d = true) ∧ ∀ d, i ≤ d → w.testBit d = true → u.testBit d = true
theorem Upi_0 {G : Nat → Prop} {w : Nat} : Upi G 0 w ↔ G w := by
  constructor
  · rintro ⟨u, h1, h2, h3⟩
    have e : u = w := by
      apply Nat.eq_of_testBit_eq
      intro d
      have a := h2 d
      have b := h3 d (Nat.zero_le _)
      cases h4 : u.testBit d <;> cases h5 : w.testBit d <;> simp [h4, h5] at a b ⊢
    rwa [← e]
  · intro h
    exact ⟨w, h, fun _ z => z, fun _ _ z => z⟩
theorem tb_x2 {w i d : Nat} : (w ^^^ 2 ^ i).testBit d = (if d = i then !w.testBit d else w.testBit d) := by
  rw [Nat.testBit_xor, Nat.testBit_two_pow]
  by_cases q : d = i
  · subst q
    simp
  · rw [if_neg q]
    have : ¬ i = d := fun z => q z.symm
    simp [this]
theorem Upi_s {G : Nat → Prop} {i w : Nat} : Upi G (i + 1) w ↔ (Upi G i w ∨ (w.testBit i = true ∧ Upi G i (w ^^^ 2 ^ i))) := by
  constructor
  · rintro ⟨u, h1, h2, h3⟩
    by_cases q : w.testBit i = true → u.testBit i = true
    · refine Or.inl ⟨u, h1, h2, fun d hd hw => ?_⟩
      by_cases e : d = i
      · subst e
        exact q hw
      · exact h3 d (by omega) hw
    · have q1 : w.testBit i = true := Classical.byContradiction fun z => q fun y => absurd y z
      have q2 : ¬ u.testBit i = true := fun z => q fun _ => z
      refine Or.inr ⟨q1, u, h1, fun d hd => ?_, fun d hd hw => ?_⟩
      · rw [tb_x2]
        by_cases e : d = i
        · subst e
          exact absurd hd q2
        · rw [if_neg e]
          exact h2 d hd
      · rw [tb_x2] at hw
        by_cases e : d = i
        · subst e
          rw [if_pos rfl, q1] at hw
          exact Bool.noConfusion hw
        · rw [if_neg e] at hw
          exact h3 d (by omega) hw
  · rintro (⟨u, h1, h2, h3⟩ | ⟨q, u, h1, h2, h3⟩)
    · exact ⟨u, h1, h2, fun d hd => h3 d (by omega)⟩
    · refine ⟨u, h1, fun d hd => ?_, fun d hd hw => h3 d (by omega) ?_⟩
      · have := h2 d hd
        rw [tb_x2] at this
        by_cases e : d = i
        · subst e
          exact q
        · rwa [if_neg e] at this
      · rw [tb_x2, if_neg (by omega)]
        exact hw
/-- what grows: a laying over one that was -/
def Up (G : Nat → Prop) (w : Nat) : Prop := ∃ u, G u ∧ ∀ d, u.testBit d = true → w.testBit d = true
theorem Upi_n {G : Nat → Prop} {n w : Nat} (hw : w < 2 ^ n) : Upi G n w ↔ Up G w := by
  constructor
  · rintro ⟨u, h1, h2, -⟩
    exact ⟨u, h1, h2⟩
  · rintro ⟨u, h1, h2⟩
    refine ⟨u, h1, h2, fun d hd hb => ?_⟩
    have := tb_lt hw hb
    omega
theorem and_sub {u s : Nat} : u &&& s = u ↔ ∀ d, u.testBit d = true → s.testBit d = true := by
  constructor
  · intro h d hd
    rw [← h, Nat.testBit_and, Bool.and_eq_true] at hd
    exact hd.2
  · intro h
    apply Nat.eq_of_testBit_eq
    intro d
    rw [Nat.testBit_and]
    cases q : u.testBit d
    · rfl
    · rw [h d q]
      rfl
section GROW2
variable {n : Nat} {G : Nat → Prop}
theorem x2_lt {m i : Nat} (h : m.testBit i = true) : m ^^^ 2 ^ i < m := by
  have h1 : (m ^^^ 2 ^ i) &&& m = m ^^^ 2 ^ i := and_sub.mpr fun d hd => by
    rw [tb_x2] at hd
    by_cases e : d = i
    · subst e
      exact h
    · rwa [if_neg e] at hd
  have h2 : m ^^^ 2 ^ i ≤ m := by
    rw [← h1]
    exact Nat.and_le_right
  have h3 : m ^^^ 2 ^ i ≠ m := by
    intro z
    have := congrArg (fun y => y.testBit i) z
    simp only [tb_x2, if_true, h] at this
    exact Bool.noConfusion this
  omega
theorem gl_in {i : Nat} (hn : n ≤ 9) (hi : i < n) (k2 : Int32 → (Nat → Int32) → Option (Nat → Int32)) :
    ∀ (r f m : Nat) (g : Nat → Int32), r + m = 2 ^ n → f ≥ r + 1 → (∀ w, w < m → g w = b01 (Upi G (i + 1) w)) → (∀ w, m ≤ w → w < 2 ^ n → g w = b01 (Upi G i w)) →
    ∃ g', f_X6_growLonger_b9 k2 (nI (2 ^ n)) (nI (2 ^ i)) f (nI m) g = k2 (nI (2 ^ (i + 1))) g' ∧ ∀ w, w < 2 ^ n → g' w = b01 (Upi G (i + 1) w)
  | 0, f + 1, m, g, h, hf, h1, h2 => by
    have hp : 2 ^ n ≤ 512 := Nat.pow_le_pow_right (n := 2) (by decide) hn
    have e : m = 2 ^ n := by omega
    subst e
    refine ⟨g, ?_, h1⟩
    rw [f_X6_growLonger_b9, if_pos (by rw [le_nI (by omega) (by omega)]; omega), nI_add, Nat.pow_succ, Nat.mul_two]
  | r + 1, f + 1, m, g, h, hf, h1, h2 => by
    have hp : 2 ^ n ≤ 512 := Nat.pow_le_pow_right (n := 2) (by decide) hn
    have hm : m < 2 ^ n := by omega
    have hm14 : m < 2 ^ 14 := by omega
    have hin : 2 ^ i < 2 ^ n := Nat.pow_lt_pow_right (by decide) hi
    have ib := isB_and (isB_n hm14) (isB_n (w := 2 ^ i) (by omega))
    have hz : (nI m &&& nI (2 ^ i) = 0) = ¬ m.testBit i = true := by
      rw [isB_z ib]
      apply propext
      constructor
      · intro z y
        exact z i (by omega) ⟨y, Nat.testBit_two_pow_self⟩
      · rintro z d hd ⟨y1, y2⟩
        rw [Nat.testBit_two_pow, decide_eq_true_iff] at y2
        subst y2
        exact z y1
    have step : ∀ g1 : Nat → Int32, g1 m = b01 (Upi G (i + 1) m) → (∀ w, w ≠ m → g1 w = g w) → ∃ g', f_X6_growLonger_b9 k2 (nI (2 ^ n)) (nI (2 ^ i)) f (nI (m + 1)) g1 = k2 (nI (2 ^ (i + 1))) g' ∧ ∀ w, w < 2 ^ n → g' w = b01 (Upi G (i + 1) w) := by
      intro g1 e1 e2
      refine gl_in hn hi k2 r f (m + 1) g1 (by omega) (by omega) (fun w hw => ?_) (fun w hw1 hw2 => ?_)
      · by_cases e : w = m
        · subst e
          exact e1
        · rw [e2 w e]
          exact h1 w (by omega)
      · rw [e2 w (by omega)]
        exact h2 w (by omega) hw2
    rw [f_X6_growLonger_b9, if_neg (by rw [le_nI (by omega) (by omega)]; omega), ite_eqc hz]
    unfold f_X6_growLonger_b38
    rw [nI_1]
    by_cases q : m.testBit i = true
    · have hx := x2_lt q
      have hbit : ¬ (m ^^^ 2 ^ i).testBit i = true := by
        rw [tb_x2, if_pos rfl, q]
        decide
      have hsame : Upi G (i + 1) (m ^^^ 2 ^ i) ↔ Upi G i (m ^^^ 2 ^ i) := by
        rw [Upi_s]
        exact ⟨fun z => z.elim id fun y => absurd y.1 hbit, Or.inl⟩
      rw [if_neg (fun z => z q), nb_xor, ix_nI (show m ^^^ 2 ^ i < 512 by omega) (by decide), cl_nI (by omega), h1 _ hx, b01_if, ix_nI (show m < 512 by omega) (by decide), cl_nI (by omega), nar_1]
      by_cases q2 : Upi G (i + 1) (m ^^^ 2 ^ i)
      · rw [if_pos q2]
        exact step _ (by rw [upd_eq (α := Nat), b01_t]; exact Upi_s.mpr (Or.inr ⟨q, hsame.mp q2⟩)) (fun w hw => upd_ne hw)
      · rw [if_neg q2]
        refine step g ?_ (fun _ _ => rfl)
        rw [h2 m (Nat.le_refl _) hm]
        congr 1
        apply propext
        rw [Upi_s]
        exact ⟨Or.inl, fun z => z.elim id fun y => absurd (hsame.mpr y.2) q2⟩
    · rw [if_pos q]
      refine step g ?_ (fun _ _ => rfl)
      rw [h2 m (Nat.le_refl _) hm]
      congr 1
      apply propext
      rw [Upi_s]
      exact ⟨Or.inl, fun z => z.elim id fun y => absurd y.1 q⟩
  | _, 0, _, _, _, hf, _, _ => by omega
theorem gl_out (hn : n ≤ 9) :
    ∀ (r f i : Nat) (g : Nat → Int32), r + i = n → f ≥ r + 1 → (∀ w, w < 2 ^ n → g w = b01 (Upi G i w)) →
    ∃ g', f_X6_growLonger_b2 (nI (2 ^ n)) f (nI (2 ^ i)) g = some g' ∧ ∀ w, w < 2 ^ n → g' w = b01 (Up G w)
  | 0, f + 1, i, g, h, hf, h1 => by
    have hp : 2 ^ n ≤ 512 := Nat.pow_le_pow_right (n := 2) (by decide) hn
    have e : i = n := by omega
    subst e
    refine ⟨g, by rw [f_X6_growLonger_b2, if_pos (by rw [le_nI (by omega) (by omega)]; omega)], fun w hw => ?_⟩
    rw [h1 w hw]
    congr 1
    exact propext (Upi_n hw)
  | r + 1, f + 1, i, g, h, hf, h1 => by
    have hp : 2 ^ n ≤ 512 := Nat.pow_le_pow_right (n := 2) (by decide) hn
    have hin : 2 ^ i < 2 ^ n := Nat.pow_lt_pow_right (by decide) (by omega)
    obtain ⟨g1, t1, t2⟩ := gl_in hn (show i < n by omega) (f_X6_growLonger_b2 (nI (2 ^ n)) f) (2 ^ n) fuel 0 g (by omega) (by unfold fuel; omega) (fun w hw => by omega) (fun w _ hw => h1 w hw)
    obtain ⟨g', u1, u2⟩ := gl_out hn r f (i + 1) g1 (by omega) (by omega) t2
    refine ⟨g', ?_, u2⟩
    rw [f_X6_growLonger_b2, if_neg (by rw [le_nI (by omega) (by omega)]; omega), ← u1]
    exact t1
  | _, 0, _, _, _, hf, _ => by omega
theorem s_growLonger (hn : n ≤ 9) {g : Nat → Int32} (h : ∀ w, w < 2 ^ n → g w = b01 (G w)) : ∃ g', f_X6_growLonger (nI (2 ^ n)) g = some g' ∧ ∀ w, w < 2 ^ n → g' w = b01 (Up G w) := by
  unfold f_X6_growLonger
  refine gl_out (G := G) hn n fuel 0 g (by omega) (by unfold fuel; omega) fun w hw => ?_
  rw [h w hw]
  congr 1
  exact propext Upi_0.symm
end GROW2
/-- a smaller part of s is no more than the next smaller part -/
theorem sub_next : ∀ (k u s x : Nat), u < 2 ^ k → u &&& s = u → x &&& s = x → x < u → x ≤ (u - 1) &&& s
  | 0, u, s, x, hk, _, _, h => by
    have : 2 ^ 0 = 1 := rfl
    omega
  | k + 1, u, s, x, hk, hu, hx, h => by
    have hk2 : u / 2 < 2 ^ k := by
      rw [Nat.pow_succ] at hk
      omega
    have d1 : u / 2 &&& s / 2 = u / 2 := by rw [← Nat.and_div_two, hu]
    have d2 : x / 2 &&& s / 2 = x / 2 := by rw [← Nat.and_div_two, hx]
    have m2 : ∀ a b : Nat, (a &&& b) % 2 = a % 2 * (b % 2) := by
      intro a b
      have := Nat.and_mod_two_pow (a := a) (b := b) (n := 1)
      rw [Nat.pow_one] at this
      rw [this]
      rcases Nat.mod_two_eq_zero_or_one a with q | q <;> rcases Nat.mod_two_eq_zero_or_one b with q2 | q2 <;> rw [q, q2] <;> rfl
    have m1 := m2 x s
    rw [hx] at m1
    have e1 : ((u - 1) &&& s) / 2 = (u - 1) / 2 &&& s / 2 := Nat.and_div_two
    have e2 := m2 (u - 1) s
    by_cases q : u % 2 = 1
    · rw [show (u - 1) / 2 = u / 2 by omega, d1] at e1
      omega
    · have ih := sub_next k (u / 2) (s / 2) (x / 2) hk2 d1 d2
      by_cases q2 : x / 2 < u / 2
      · have := ih q2
        rw [show (u - 1) / 2 = u / 2 - 1 by omega] at e1
        rw [show (u - 1) % 2 = 1 by omega, Nat.one_mul] at e2
        rcases Nat.mod_two_eq_zero_or_one s with q3 | q3
        · rw [q3, Nat.mul_zero] at m1
          omega
        · omega
      · omega
theorem cf_loop {s : Nat} {wo : Nat → Int32} {M : Nat → Prop} (hM : ∀ w, w ≤ s → wo w = b01 (M w)) (hs9 : s < 512) :
    ∀ (f u : Nat), f ≥ u + 1 → u &&& s = u → f_X7_comesFrom_b2 (nI s) wo f (nI u) = some (b01 (∃ x, x ≤ u ∧ x &&& s = x ∧ M x))
  | 0, _, hf, _ => by omega
  | f + 1, u, hf, hu => by
    have hus : u ≤ s := by
      rw [← hu]
      exact Nat.and_le_right
    by_cases q : u = 0
    · subst q
      rw [f_X7_comesFrom_b2, if_pos (by decide), ix_0 (by decide) (by decide), show Int32.toNatClampNeg 0 = 0 by decide, hM 0 hus, bz_in b01_01]
      congr 2
      apply propext
      constructor
      · intro h
        exact ⟨0, Nat.le_refl _, Nat.zero_and _, h⟩
      · rintro ⟨x, h1, h2, h3⟩
        rwa [show x = 0 by omega] at h3
    · rw [f_X7_comesFrom_b2, if_neg (by rw [L_0, le_nI (by omega) (by decide)]; omega), ix_nI (show u < 512 by omega) (by decide), cl_nI (by omega), hM u hus, b01_if]
      by_cases q2 : M u
      · rw [if_pos q2, b01_t]
        exact ⟨u, Nat.le_refl _, hu, q2⟩
      · have e1 : nI u - 1 = nI (u - 1) := by
          rw [show u = (u - 1) + 1 by omega, nI_m1, Nat.add_sub_cancel]
        have hle : (u - 1) &&& s ≤ u - 1 := Nat.and_le_left
        rw [if_neg q2, e1, nb_and, cf_loop hM hs9 f ((u - 1) &&& s) (by omega) (by rw [Nat.and_assoc, Nat.and_self])]
        congr 2
        apply propext
        constructor
        · rintro ⟨x, h1, h2, h3⟩
          exact ⟨x, by omega, h2, h3⟩
        · rintro ⟨x, h1, h2, h3⟩
          have hxu : x < u := by
            rcases Nat.lt_or_ge x u with z | z
            · exact z
            · exfalso
              have e : x = u := by omega
              subst e
              exact q2 h3
          exact ⟨x, sub_next 9 u s x (by omega) hu h2 hxu, h2, h3⟩
theorem s_comesFrom {s : Nat} {wo : Nat → Int32} {M : Nat → Prop} (hM : ∀ w, w ≤ s → wo w = b01 (M w)) (hs9 : s < 512) : f_X7_comesFrom (nI s) wo = some (b01 (Up M s)) := by
  unfold f_X7_comesFrom
  rw [cf_loop hM hs9 fuel s (by unfold fuel; omega) (Nat.and_self s)]
  congr 2
  apply propext
  constructor
  · rintro ⟨x, h1, h2, h3⟩
    exact ⟨x, h3, and_sub.mp h2⟩
  · rintro ⟨x, h3, h2⟩
    have h4 := and_sub.mpr h2
    exact ⟨x, by rw [← h4]; exact Nat.and_le_right, h4, h3⟩
