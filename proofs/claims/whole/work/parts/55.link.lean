/-! the class's links -/
theorem e_div {a b : Nat} (ha : a < 14) (hb : b < 14) : nI (100 * a + b) / 100 = nI a := by
  rw [L_100, pk_div (by omega) (by decide) (by decide)]
  congr 1
  omega
theorem e_rem {a b : Nat} (ha : a < 14) (hb : b < 14) : nI (100 * a + b) - nI a * 100 = nI b := by
  rw [← e_div ha hb, L_100, pk_rem (by omega) (by decide) (by decide)]
  congr 1
  omega
theorem s_isThere {x : Int32} {S : Nat → Prop} (h : isBt x S) {c : Nat} (hc : c < 14) : f_X3_isThere (nI c) x = some (b01 (S c)) := by
  unfold f_X3_isThere
  rw [ite_eqc (isB_t0 h hc)]
  by_cases q : S c
  · rw [b01_t q, if_neg (fun z => z q)]
  · rw [b01_f q, if_pos q]
theorem s_link {a b : Nat} (ha : a < 14) (hb : b < 14) (hab : a ≠ b) {B : Nat → Int32} {N : Nat → Nat → Prop} (hB : ∀ c, c < 14 → isBt (B c) (N c)) {x : Int32} {S : Nat → Prop} (hS : isBt x S) :
    ∃ B', f_X3_link (nI (100 * a + b)) B x = some B' ∧ ∀ c, c < 14 → isBt (B' c) (fun d => N c d ∨ (S a ∧ S b ∧ ((a = c ∧ b = d) ∨ (a = d ∧ b = c)))) := by
  unfold f_X3_link
  simp only [e_div ha hb, e_rem ha hb, s_isThere hS ha, s_isThere hS hb, bd_of, b01_if]
  by_cases qa : S a
  · by_cases qb : S b
    · rw [@if_pos _ (Classical.propDecidable _) qa, @if_pos _ (Classical.propDecidable _) qb]
      simp only [ix_nI ha (by decide : (14 : Nat) < 2 ^ 31), ix_nI hb (by decide : (14 : Nat) < 2 ^ 31), cl_nI (show a < 2 ^ 31 by omega), cl_nI (show b < 2 ^ 31 by omega)]
      refine ⟨_, rfl, fun c hc => ?_⟩
      rw [upd_ne (f := B) (show b ≠ a from fun z => hab z.symm)]
      by_cases e1 : c = b
      · subst e1
        rw [upd_eq (α := Nat)]
        refine isB_c (isB_add (hB c hc) ha) fun d _ => ⟨?_, ?_⟩
        · rintro (z | z)
          · exact Or.inl z
          · exact Or.inr ⟨qa, qb, Or.inr ⟨z.symm, rfl⟩⟩
        · rintro (z | ⟨-, -, z | z⟩)
          · exact Or.inl z
          · exact absurd z.1 hab
          · exact Or.inr z.1.symm
      · rw [upd_ne e1]
        by_cases e2 : c = a
        · subst e2
          rw [upd_eq (α := Nat)]
          refine isB_c (isB_add (hB c hc) hb) fun d _ => ⟨?_, ?_⟩
          · rintro (z | z)
            · exact Or.inl z
            · exact Or.inr ⟨qa, qb, Or.inl ⟨rfl, z.symm⟩⟩
          · rintro (z | ⟨-, -, z | z⟩)
            · exact Or.inl z
            · exact Or.inr z.2.symm
            · exact absurd z.2.symm hab
        · rw [upd_ne e2]
          refine isB_c (hB c hc) fun d _ => ⟨Or.inl, ?_⟩
          rintro (z | ⟨-, -, z | z⟩)
          · exact z
          · exact absurd z.1.symm e2
          · exact absurd z.2.symm e1
    · rw [@if_pos _ (Classical.propDecidable _) qa, @if_neg _ (Classical.propDecidable _) qb]
      refine ⟨_, rfl, fun c hc => isB_c (hB c hc) fun d _ => ⟨Or.inl, ?_⟩⟩
      rintro (z | ⟨-, z, -⟩)
      · exact z
      · exact absurd z qb
  · rw [@if_neg _ (Classical.propDecidable _) qa]
    refine ⟨_, rfl, fun c hc => isB_c (hB c hc) fun d _ => ⟨Or.inl, ?_⟩⟩
    rintro (z | ⟨z, -⟩)
    · exact z
    · exact absurd z qa
/-- the class's joins: those that came, and a wall that is told (or none) -/
def CJ (n kj : Nat) (A B : Nat → Nat) (wl : Int32) (T_joinEnds T_wallEnds : Nat → Int32) (T_joins T_walls : Int32) : Prop :=
  (∀ i, i < kj → A i < n ∧ B i < n ∧ A i ≠ B i) ∧
  ((f_X5_isWall wl T_walls = some 0 ∧ T_joins = nI kj ∧ kj ≤ 40 ∧ ∀ i, i < kj → T_joinEnds i = nI (100 * A i + B i)) ∨
   (∃ k0 w, kj = k0 + 1 ∧ k0 ≤ 40 ∧ w < 10 ∧ f_X5_isWall wl T_walls = some 1 ∧ wl = nI w ∧ T_joins = nI k0 ∧ (∀ i, i < k0 → T_joinEnds i = nI (100 * A i + B i)) ∧ T_wallEnds w = nI (100 * A k0 + B k0)))
def cntJ (A B : Nat → Nat) (d : Nat) : Nat → Nat
  | 0 => 0
  | k + 1 => cntJ A B d k + (if A k = d ∨ B k = d then 1 else 0)
theorem cntJ_le (A B : Nat → Nat) (d : Nat) : ∀ k, cntJ A B d k ≤ k
  | 0 => Nat.le_refl _
  | k + 1 => by
    have := cntJ_le A B d k
    unfold cntJ
    by_cases h : A k = d ∨ B k = d
    · rw [if_pos h]; omega
    · rw [if_neg h]; omega
theorem s_isEnd {a b d : Nat} (ha : a < 14) (hb : b < 14) (hd : d < 14) : f_X5_isEnd (nI (100 * a + b)) (nI d) = some (if a = d ∨ b = d then 1 else 0) := by
  unfold f_X5_isEnd
  rw [e_div ha hb, e_rem ha hb, ite_eqc (eq_nI (by omega) (by omega)), ite_eqc (eq_nI (by omega) (by omega))]
  by_cases h1 : a = d <;> by_cases h2 : b = d <;> simp [h1, h2]
theorem s_jAt {n k0 d : Nat} (hn : n ≤ 14) (hd : d < 14) {A B : Nat → Nat} (hAB : ∀ i, i < k0 → A i < n ∧ B i < n ∧ A i ≠ B i) {E : Nat → Int32} (hE : ∀ i, i < k0 → E i = nI (100 * A i + B i)) (hk : k0 ≤ 40) :
    ∀ (r f i s : Nat), r + i = k0 → f ≥ r + 1 → f_X5_joinsAt_b30 (nI d) E (nI k0) f (nI (s + cntJ A B d i)) (nI i) = some (nI (s + cntJ A B d k0))
  | 0, f + 1, i, s, h, hf => by
    have e : i = k0 := by omega
    subst e
    rw [f_X5_joinsAt_b30, if_pos (by rw [le_nI (by omega) (by omega)]; omega)]
  | r + 1, f + 1, i, s, h, hf => by
    have hi : i < k0 := by omega
    have := hAB i hi
    rw [f_X5_joinsAt_b30, if_neg (by rw [le_nI (by omega) (by omega)]; omega), ix_nI (show i < 40 by omega) (by decide), cl_nI (by omega), hE i hi, s_isEnd (by omega) (by omega) hd]
    have ih := s_jAt hn hd hAB hE hk r f (i + 1) s (by omega) (by omega)
    unfold f_X5_joinsAt_b59
    simp only [bd_of]
    rw [← ih]
    simp only [cntJ]
    by_cases q : A i = d ∨ B i = d
    · rw [if_pos q, if_pos q, if_neg (by decide), L_1, nI_add, nI_add, Nat.add_assoc]
    · rw [if_neg q, if_neg q, if_pos rfl, L_0, L_1, nI_add, nI_add]
      rfl
  | _, 0, _, _, _, hf => by omega
theorem s_joinsAt {n kj d : Nat} (hn : n ≤ 14) (hd : d < 14) {A B : Nat → Nat} {wl : Int32} {T_joinEnds T_wallEnds : Nat → Int32} {T_joins T_walls : Int32} (h : CJ n kj A B wl T_joinEnds T_wallEnds T_joins T_walls) :
    f_X5_joinsAt (nI d) wl T_joinEnds T_wallEnds T_joins T_walls = some (nI (cntJ A B d kj)) := by
  obtain ⟨hAB, ⟨h1, rfl, h2, h3⟩ | ⟨k0, w, rfl, h2, hw, h1, rfl, rfl, h3, h4⟩⟩ := h
  · unfold f_X5_joinsAt f_X5_joinsAt_b25 f_X5_joinsAt_b26
    simp only [h1, bd_of, if_true]
    have := s_jAt hn hd hAB h3 h2 kj fuel 0 0 (by omega) (by unfold fuel; omega)
    rw [Nat.zero_add, Nat.zero_add] at this
    exact this
  · have q := hAB k0 (by omega)
    have g := fun s => s_jAt hn hd (fun i hi => hAB i (by omega)) h3 h2 k0 fuel 0 s (by omega) (by unfold fuel; omega)
    have z1 : ¬ (1 : Int32) = 0 := by decide
    unfold f_X5_joinsAt f_X5_joinsAt_b25 f_X5_joinsAt_b26
    simp only [h1, bd_of, if_neg z1, ix_nI hw (by decide), cl_nI (show w < 2 ^ 31 by omega), h4, s_isEnd (show A k0 < 14 by omega) (show B k0 < 14 by omega) hd]
    simp only [cntJ] at g ⊢
    by_cases e : A k0 = d ∨ B k0 = d
    · rw [if_pos e, if_pos e, if_neg z1]
      have := g 1
      rw [Nat.add_comm 1 0, Nat.add_comm 1 (cntJ A B d k0)] at this
      exact this
    · rw [if_neg e, if_neg e, if_pos rfl]
      have := g 0
      rw [Nat.zero_add, Nat.zero_add] at this
      exact this
/-- the model's count -/
theorem s_jOf {n kj d : Nat} (hn : n ≤ 14) (hd : d < 14) {A B : Nat → Nat} {M_joinA M_joinB : Nat → Int32} (hJ : MJ n kj A B M_joinA M_joinB) :
    ∀ (r f i : Nat), r + i = kj → f ≥ r + 1 → f_X7_joinsOf_b4 (nI d) (nI kj) M_joinA M_joinB f (nI (cntJ A B d i)) (nI i) = some (nI (cntJ A B d kj))
  | 0, f + 1, i, h, hf => by
    have e : i = kj := by omega
    subst e
    have := hJ.1
    rw [f_X7_joinsOf_b4, if_pos (by rw [le_nI (by omega) (by omega)]; omega)]
  | r + 1, f + 1, i, h, hf => by
    have hk := hJ.1
    obtain ⟨⟨a1, a2, a3⟩, a4, a5⟩ := hJ.2 i (by omega)
    rw [f_X7_joinsOf_b4, if_neg (by rw [le_nI (by omega) (by omega)]; omega)]
    have ih := s_jOf hn hd hJ r f (i + 1) (by omega) (by omega)
    unfold f_X7_joinsOf_b32 f_X7_joinsOf_b35
    simp only [ix_nI (show i < 41 by omega) (by decide), cl_nI (show i < 2 ^ 31 by omega), a4, a5, eq_nI (show A i < 2 ^ 31 by omega) (show d < 2 ^ 31 by omega), eq_nI (show B i < 2 ^ 31 by omega) (show d < 2 ^ 31 by omega), nI_1]
    rw [← ih]
    simp only [cntJ]
    by_cases q1 : A i = d
    · simp [q1]
    · by_cases q2 : B i = d
      · simp [q1, q2]
      · simp [q1, q2]
  | _, 0, _, _, hf => by omega
theorem s_joinsOf {n kj d : Nat} (hn : n ≤ 14) (hd : d < 14) {A B : Nat → Nat} {M_joinA M_joinB : Nat → Int32} (hJ : MJ n kj A B M_joinA M_joinB) : f_X7_joinsOf (nI d) (nI kj) M_joinA M_joinB = some (nI (cntJ A B d kj)) := by
  unfold f_X7_joinsOf
  exact s_jOf hn hd hJ kj fuel 0 (by omega) (by have := hJ.1; unfold fuel; omega)
