/-! the model's distances -/
/-- the joins as a relation: the ends A, B, the doors there s -/
def RJ (s kj : Nat) (A B : Nat → Nat) (a b : Nat) : Prop := s.testBit a = true ∧ s.testBit b = true ∧ ∃ i, i < kj ∧ ((A i = a ∧ B i = b) ∨ (A i = b ∧ B i = a))
theorem RJ_sym {s kj : Nat} {A B : Nat → Nat} {a b : Nat} (h : RJ s kj A B a b) : RJ s kj A B b a := by
  obtain ⟨h1, h2, i, hi, h3⟩ := h
  exact ⟨h2, h1, i, hi, h3.symm⟩
theorem RJ_lt {n s kj : Nat} {A B : Nat → Nat} (hJ : ∀ i, i < kj → A i < n ∧ B i < n ∧ A i ≠ B i) (a b : Nat) (h : RJ s kj A B a b) : a < n ∧ b < n := by
  obtain ⟨-, -, i, hi, h3⟩ := h
  have := hJ i hi
  omega
theorem RJ_ne {n s kj : Nat} {A B : Nat → Nat} (hJ : ∀ i, i < kj → A i < n ∧ B i < n ∧ A i ≠ B i) (a b : Nat) (h : RJ s kj A B a b) : a ≠ b := by
  obtain ⟨-, -, i, hi, h3⟩ := h
  have := hJ i hi
  omega
/-- the table F of the model's numbers -/
def isF (n : Nat) (f : Nat → Int32) (F : Nat → Nat → Nat) : Prop := ∀ a b, a < n → b < n → f (14 * a + b) = nI (F a b) ∧ F a b ≤ 99
theorem ff_inner {n x2 x3 : Nat} (hn : n ≤ 14) (h2 : x2 < n) (h3 : x3 < n) (k145 k155 : Int32 → (Nat → Int32) → Option (Nat → Int32)) :
    ∀ (r f x4 : Nat) (F : Nat → Nat → Nat) (far : Nat → Int32), r + x4 = n → f ≥ r + 1 → isF n far F →
    ∃ far' F', f_X7_findFar_b166 k145 k155 (nI x2) (nI x3) (nI n) f (nI x4) far = k155 (nI (x3 + 1)) far' ∧ isF n far' F' ∧
      (∀ a b, F' a b ≤ F a b) ∧ (∀ b, x4 ≤ b → b < n → F' x3 b ≤ F x3 x2 + F x2 b) ∧ (∀ R : Nat → Nat → Prop, (∀ a b, F a b < 99 → Wk R (F a b) a b) → ∀ a b, F' a b < 99 → Wk R (F' a b) a b)
  | 0, f + 1, x4, F, far, h, hf, hF => by
    have e : x4 = n := by omega
    subst e
    refine ⟨far, F, ?_, hF, fun _ _ => Nat.le_refl _, fun b h1 h2 => by omega, fun R h => h⟩
    rw [f_X7_findFar_b166, if_pos (by rw [le_nI (by omega) (by omega)]; omega), nI_1]
  | r + 1, f + 1, x4, F, far, h, hf, hF => by
    have h4 : x4 < n := by omega
    obtain ⟨a1, a2⟩ := hF x3 x4 h3 h4
    obtain ⟨b1, b2⟩ := hF x3 x2 h3 h2
    obtain ⟨c1, c2⟩ := hF x2 x4 h2 h4
    have e14 : (14 : Int32) = nI 14 := rfl
    rw [f_X7_findFar_b166, if_neg (by rw [le_nI (by omega) (by omega)]; omega)]
    simp only [e14, pk_mul, nI_add, ix_nI (show 14 * x3 + x2 < 196 by omega) (by decide), ix_nI (show 14 * x2 + x4 < 196 by omega) (by decide), ix_nI (show 14 * x3 + x4 < 196 by omega) (by decide), cl_nI (show 14 * x3 + x2 < 2 ^ 31 by omega), cl_nI (show 14 * x2 + x4 < 2 ^ 31 by omega), cl_nI (show 14 * x3 + x4 < 2 ^ 31 by omega), a1, b1, c1, le_nI (show F x3 x4 < 2 ^ 31 by omega) (show F x3 x2 + F x2 x4 < 2 ^ 31 by omega)]
    unfold f_X7_findFar_b250
    by_cases q : F x3 x4 ≤ F x3 x2 + F x2 x4
    · obtain ⟨far', F', g1, g2, g3, g4, g5⟩ := ff_inner hn h2 h3 k145 k155 r f (x4 + 1) F far (by omega) (by omega) hF
      refine ⟨far', F', ?_, g2, g3, fun b hb1 hb2 => ?_, g5⟩
      · rw [if_pos q, nI_1]
        exact g1
      · by_cases e : b = x4
        · subst e
          exact Nat.le_trans (g3 _ _) q
        · exact g4 b (by omega) hb2
    · have hF2 : isF n (upd far (14 * x3 + x4) (nI (F x3 x2 + F x2 x4))) (fun a b => if a = x3 ∧ b = x4 then F x3 x2 + F x2 x4 else F a b) := by
        intro a b ha hb
        by_cases e : a = x3 ∧ b = x4
        · obtain ⟨rfl, rfl⟩ := e
          rw [upd_eq (α := Nat)]
          simp only [true_and, if_true]
          omega
        · rw [upd_ne (show 14 * a + b ≠ 14 * x3 + x4 by omega)]
          simp only [if_neg e]
          exact hF a b ha hb
      obtain ⟨far', F', g1, g2, g3, g4, g5⟩ := ff_inner hn h2 h3 k145 k155 r f (x4 + 1) _ _ (by omega) (by omega) hF2
      have g3' : ∀ a b, F' a b ≤ F a b := by
        intro a b
        refine Nat.le_trans (g3 a b) ?_
        by_cases e : a = x3 ∧ b = x4
        · obtain ⟨rfl, rfl⟩ := e
          simp only [true_and, if_true]
          omega
        · rw [if_neg e]
          exact Nat.le_refl _
      refine ⟨far', F', ?_, g2, g3', fun b hb1 hb2 => ?_, fun R hR => g5 R fun a b hab => ?_⟩
      · rw [if_neg q, nI_1]
        exact g1
      · by_cases e : b = x4
        · subst e
          have := g3 x3 b
          simp only [true_and, if_true] at this
          exact this
        · have h1 := g4 b (by omega) hb2
          have h5 : ∀ a b, (if a = x3 ∧ b = x4 then F x3 x2 + F x2 x4 else F a b) ≤ F a b := by
            intro a b
            by_cases e : a = x3 ∧ b = x4
            · obtain ⟨rfl, rfl⟩ := e
              rw [if_pos ⟨rfl, rfl⟩]
              omega
            · rw [if_neg e]
              exact Nat.le_refl _
          have h6 := h5 x3 x2
          have h7 := h5 x2 b
          omega
      · by_cases e : a = x3 ∧ b = x4
        · obtain ⟨rfl, rfl⟩ := e
          simp only [true_and, if_true] at hab ⊢
          exact Wk_app (hR a x2 (by omega)) _ _ (hR x2 b (by omega))
        · simp only [if_neg e] at hab ⊢
          exact hR a b hab
  | _, 0, _, _, _, _, hf, _ => by omega
theorem ff_mid {n x2 : Nat} (hn : n ≤ 14) (h2 : x2 < n) (k145 : Int32 → (Nat → Int32) → Option (Nat → Int32)) (G : Nat → Nat → Nat) :
    ∀ (r f x3 : Nat) (F : Nat → Nat → Nat) (far : Nat → Int32), r + x3 = n → f ≥ r + 1 → isF n far F → (∀ a b, F a b ≤ G a b) →
    ∃ far' F', f_X7_findFar_b155 k145 (nI x2) (nI n) f (nI x3) far = k145 (nI (x2 + 1)) far' ∧ isF n far' F' ∧
      (∀ a b, F' a b ≤ F a b) ∧ (∀ a b, x3 ≤ a → a < n → b < n → F' a b ≤ G a x2 + G x2 b) ∧ (∀ R : Nat → Nat → Prop, (∀ a b, F a b < 99 → Wk R (F a b) a b) → ∀ a b, F' a b < 99 → Wk R (F' a b) a b)
  | 0, f + 1, x3, F, far, h, hf, hF, hG => by
    have e : x3 = n := by omega
    subst e
    refine ⟨far, F, ?_, hF, fun _ _ => Nat.le_refl _, fun a b h1 h2 => by omega, fun R h => h⟩
    rw [f_X7_findFar_b155, if_pos (by rw [le_nI (by omega) (by omega)]; omega), nI_1]
  | r + 1, f + 1, x3, F, far, h, hf, hF, hG => by
    rw [f_X7_findFar_b155, if_neg (by rw [le_nI (by omega) (by omega)]; omega)]
    obtain ⟨far1, F1, g1, g2, g3, g4, g5⟩ := ff_inner hn h2 (show x3 < n by omega) k145 (f_X7_findFar_b155 k145 (nI x2) (nI n) f) n fuel 0 F far (by omega) (by unfold fuel; omega) hF
    obtain ⟨far', F', t1, t2, t3, t4, t5⟩ := ff_mid hn h2 k145 G r f (x3 + 1) F1 far1 (by omega) (by omega) g2 (fun a b => Nat.le_trans (g3 a b) (hG a b))
    refine ⟨far', F', ?_, t2, fun a b => Nat.le_trans (t3 a b) (g3 a b), fun a b h1 h2' h3 => ?_, fun R hR => t5 R (g5 R hR)⟩
    · rw [← t1]
      exact g1
    · by_cases e : a = x3
      · subst e
        have h5 := g4 b (by omega) h3
        have h6 := t3 a b
        have h7 := hG a x2
        have h8 := hG x2 b
        omega
      · exact t4 a b (by omega) h2' h3
  | _, 0, _, _, _, _, hf, _, _ => by omega
/-- what a phase has reached -/
def FWd (R : Nat → Nat → Prop) (n m : Nat) (F : Nat → Nat → Nat) : Prop := (∀ k a b, a < n → b < n → RW R m k a b → F a b ≤ k) ∧ ∀ a b, F a b < 99 → Wk R (F a b) a b
theorem ff_out {n : Nat} (hn : n ≤ 14) (R : Nat → Nat → Prop) :
    ∀ (r f x2 : Nat) (F : Nat → Nat → Nat) (far : Nat → Int32), r + x2 = n → f ≥ r + 1 → isF n far F → FWd R n x2 F →
    ∃ far' F', f_X7_findFar_b145 (nI n) f (nI x2) far = some far' ∧ isF n far' F' ∧ FWd R n n F'
  | 0, f + 1, x2, F, far, h, hf, hF, hW => by
    have e : x2 = n := by omega
    subst e
    refine ⟨far, F, ?_, hF, hW⟩
    rw [f_X7_findFar_b145, if_pos (by rw [le_nI (by omega) (by omega)]; omega)]
  | r + 1, f + 1, x2, F, far, h, hf, hF, hW => by
    rw [f_X7_findFar_b145, if_neg (by rw [le_nI (by omega) (by omega)]; omega)]
    obtain ⟨far1, F1, g1, g2, g3, g4, g5⟩ := ff_mid hn (show x2 < n by omega) (f_X7_findFar_b145 (nI n) f) F n fuel 0 F far (by omega) (by unfold fuel; omega) hF (fun _ _ => Nat.le_refl _)
    have hW1 : FWd R n (x2 + 1) F1 := by
      refine ⟨fun k a b ha hb hw => ?_, g5 R hW.2⟩
      rcases RW_step k a b hw with z | ⟨k1, k2, z1, z2, z3⟩
      · exact Nat.le_trans (g3 a b) (hW.1 k a b ha hb z)
      · have y1 := hW.1 k1 a x2 ha (by omega) z2
        have y2 := hW.1 k2 x2 b (by omega) hb z3
        have y3 := g4 a b (by omega) ha hb
        omega
    obtain ⟨far', F', t1, t2, t3⟩ := ff_out hn R r f (x2 + 1) F1 far1 (by omega) (by omega) g2 hW1
    refine ⟨far', F', ?_, t2, t3⟩
    rw [← t1]
    exact g1
  | _, 0, _, _, _, _, hf, _, _ => by omega
