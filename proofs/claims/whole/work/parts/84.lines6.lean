/-! the class's lines, of the tape and of the text, as one -/
def sa_ (x3 x4 x7 x8 x9 : Int32) : Int32 := if x4 = 0 then (if x9 = 0 then x8 else if x7 = 0 then x3 else x8) else x3
def sc_ (x4 x7 x9 : Int32) : Int32 := if x4 = 0 then (if x9 = 0 then 1 else if x7 = 0 then x4 else 1) else x4
/-- a line's end -/
def tl_ (kb : Nat → Int32 → Int32 → Int32 → Int32 → Int32 → Int32 → Option (Int32 × Nat × Int32 × Int32 × Int32)) (Tc : Nat → Int32) (t : Nat) (f : Nat) (x3 x4 x6 x7 x8 x9 b fl : Int32) : Option (Int32 × Nat × Int32 × Int32 × Int32) :=
  bd (f_X2_next_r13 Tc (nI t) b fl) fun u10 => if u10 = 59 then kb f (sa_ x3 x4 x7 x8 x9) (sc_ x4 x7 x9) 1 (x6 + 1) (b + 1) fl else kb f (sa_ x3 x4 x7 x8 x9) (sc_ x4 x7 x9) 0 (x6 + 1) b fl
def KB (kb : Nat → Int32 → Int32 → Int32 → Int32 → Int32 → Int32 → Option (Int32 × Nat × Int32 × Int32 × Int32)) (mk : Nat) (Tc F : Nat → Int32) (t : Nat) : Prop :=
  (∀ (f x6 : Nat) (x3 x4 b : Int32), x6 ≤ 120 → kb (f + 1) x3 x4 1 (nI x6) b (-1) = bd (t_ranked_r13 0 0 Tc (nI t) b (-1) (F 0) (F 1) (F 2) (F 3) (F 4)) fun u5 => bd (f_X2_next_r13 Tc (nI t) u5.2.1 u5.2.2) fun u6 => if u6 = 63 then bd (t_ranked_r13 0 0 Tc (nI t) (u5.2.1 + 1) u5.2.2 (F 0) (F 1) (F 2) (F 3) (F 4)) fun u15 => tl_ kb Tc t f x3 x4 (nI x6) u5.1 u15.1 1 u15.2.1 u15.2.2 else tl_ kb Tc t f x3 x4 (nI x6) u5.1 u5.1 0 u5.2.1 u5.2.2) ∧
  (∀ (f : Nat) (x3 x4 x6 b fl : Int32), kb (f + 1) x3 x4 0 x6 b fl = if nI t ≤ b then some (x3, mk, nI t, b, fl) else bd (f_X2_broken b fl) fun u3 => some (x3, mk, nI t, b, u3.2))
theorem e_next14 : @f_X2_next_r14 = @f_X2_next_r13 := rfl
theorem e_num_b4 (Tc : Nat → Int32) (e fl : Int32) : ∀ (f : Nat) (x1 x2 a : Int32), f_X2_number_r14_b4 Tc e fl f x1 x2 a = f_X2_number_r13_b4 Tc e fl f x1 x2 a
  | 0, _, _, _ => by rw [f_X2_number_r14_b4, f_X2_number_r13_b4]
  | f + 1, x1, x2, a => by
    rw [f_X2_number_r14_b4, f_X2_number_r13_b4, e_next14]
    simp only [e_num_b4 Tc e fl f]
theorem e_num14 : f_X2_number_r14 = f_X2_number_r13 := by
  funext Tc e a fl
  unfold f_X2_number_r14 f_X2_number_r13
  exact e_num_b4 Tc e fl fuel 0 0 a
theorem e_b36 (rr : Int32 → Int32 → (Nat → Int32) → Int32 → Int32 → Int32 → Int32 → Int32 → Int32 → Int32 → Int32 → Option (Int32 × Int32 × Int32)) (op : Int32 → (Nat → Int32) → Int32 → Int32 → Int32 → Int32 → Int32 → Int32 → Int32 → Int32 → Option (Int32 × Int32 × Int32)) (x1 x2 x4 : Int32) (Tc : Nat → Int32) (e d p y j o : Int32) : ∀ (f : Nat) (x3 x5 a fl : Int32), f_X2_ranked_r14_b36 rr op x1 x2 x4 Tc e d p y j o f x3 x5 a fl = f_X2_ranked_r13_b36 rr op x1 x2 x4 Tc e d p y j o f x3 x5 a fl
  | 0, _, _, _, _ => by rw [f_X2_ranked_r14_b36, f_X2_ranked_r13_b36]
  | f + 1, x3, x5, a, fl => by
    rw [f_X2_ranked_r14_b36, f_X2_ranked_r13_b36, e_next14]
    simp only [e_b36 rr op x1 x2 x4 Tc e d p y j o f]
theorem e_rk14 : f_X2_ranked_r14 = f_X2_ranked_r13 := by
  funext rr op a1 a2 Tc e a fl d p y j o
  unfold f_X2_ranked_r14 f_X2_ranked_r13 f_X2_ranked_r14_b31 f_X2_ranked_r13_b31
  simp only [e_b36]
theorem e_op14 : f_X2_operand_r14 = f_X2_operand_r13 := by
  funext ro rr a1 Tc e a fl d p y j o
  unfold f_X2_operand_r14 f_X2_operand_r13 f_X2_operand_r14_b41 f_X2_operand_r13_b41
  rw [e_next14, e_num14]
theorem e_grk14 (op : Int32 → (Nat → Int32) → Int32 → Int32 → Int32 → Int32 → Int32 → Int32 → Int32 → Int32 → Option (Int32 × Int32 × Int32)) : ∀ k, g_rk_r14 op k = g_rk_r13 op k
  | 0 => by rw [g_rk_r14, g_rk_r13]
  | k + 1 => by rw [g_rk_r14, g_rk_r13, e_grk14 op k, e_rk14]
theorem e_gop14 : ∀ n, g_op_r14 n = g_op_r13 n
  | 0 => by rw [g_op_r14, g_op_r13]
  | n + 1 => by rw [g_op_r14, g_op_r13, e_gop14 n, e_grk14, e_op14]
theorem e_ranked14 : t_ranked_r14 = t_ranked_r13 := by
  unfold t_ranked_r14 t_ranked_r13
  rw [e_gop14, e_grk14]
theorem KB_tape (Tc F : Nat → Int32) (t : Nat) : KB (f_X2_worked_tape_b31 Tc (nI t) (F 0) (F 1) (F 2) (F 3) (F 4)) 13 Tc F t := by
  refine ⟨fun f x6 x3 x4 b h6 => ?_, fun f x3 x4 x6 b fl => ?_⟩
  · have tail : ∀ (x7 x8 x9 b fl : Int32), f_X2_worked_tape_b94 (f_X2_worked_tape_b31 Tc (nI t) (F 0) (F 1) (F 2) (F 3) (F 4) f) x3 x4 (nI x6) x7 x8 x9 Tc (nI t) b fl (F 0) (F 1) (F 2) (F 3) (F 4) = tl_ (f_X2_worked_tape_b31 Tc (nI t) (F 0) (F 1) (F 2) (F 3) (F 4)) Tc t f x3 x4 (nI x6) x7 x8 x9 b fl := by
      intro x7 x8 x9 b fl
      have inner : ∀ (y3 y4 : Int32), f_X2_worked_tape_b115 (f_X2_worked_tape_b31 Tc (nI t) (F 0) (F 1) (F 2) (F 3) (F 4) f) y3 y4 (nI x6) Tc (nI t) b fl (F 0) (F 1) (F 2) (F 3) (F 4) = bd (f_X2_next_r13 Tc (nI t) b fl) fun u10 => if u10 = 59 then f_X2_worked_tape_b31 Tc (nI t) (F 0) (F 1) (F 2) (F 3) (F 4) f y3 y4 1 (nI x6 + 1) (b + 1) fl else f_X2_worked_tape_b31 Tc (nI t) (F 0) (F 1) (F 2) (F 3) (F 4) f y3 y4 0 (nI x6 + 1) b fl := by
        intro y3 y4
        unfold f_X2_worked_tape_b115 f_X2_worked_tape_b129 f_X2_worked_tape_b146
        simp only [if_neg (show ¬ (1 : Int32) = 0 by decide), if_true, Int32.add_zero]
      unfold f_X2_worked_tape_b94 f_X2_worked_tape_b109 tl_ sa_ sc_
      rw [inner, inner]
      by_cases q1 : x4 = 0
      · by_cases q2 : x9 = 0
        · simp only [if_pos q1, if_pos q2]
        · by_cases q3 : x7 = 0
          · simp only [if_pos q1, if_neg q2, if_pos q3]
          · simp only [if_pos q1, if_neg q2, if_neg q3]
      · simp only [if_neg q1]
    rw [f_X2_worked_tape_b31, if_neg (by rw [L_120, lt_nI (by decide) (by omega)]; omega), if_neg (show ¬ (1 : Int32) = 0 by decide)]
    unfold f_X2_worked_tape_b69
    simp only [tail, if_neg (show ¬ (1 : Int32) = 0 by decide), if_true]
  · rw [f_X2_worked_tape_b31]
    unfold f_X2_worked_tape_b156
    by_cases q : 120 < x6
    · rw [if_pos q]
    · rw [if_neg q, if_pos rfl]
theorem KB_text (Tc F : Nat → Int32) (t : Nat) : KB (f_X2_worked_text_b31 Tc (nI t) (F 0) (F 1) (F 2) (F 3) (F 4)) 14 Tc F t := by
  refine ⟨fun f x6 x3 x4 b h6 => ?_, fun f x3 x4 x6 b fl => ?_⟩
  · have tail : ∀ (x7 x8 x9 b fl : Int32), f_X2_worked_text_b94 (f_X2_worked_text_b31 Tc (nI t) (F 0) (F 1) (F 2) (F 3) (F 4) f) x3 x4 (nI x6) x7 x8 x9 Tc (nI t) b fl (F 0) (F 1) (F 2) (F 3) (F 4) = tl_ (f_X2_worked_text_b31 Tc (nI t) (F 0) (F 1) (F 2) (F 3) (F 4)) Tc t f x3 x4 (nI x6) x7 x8 x9 b fl := by
      intro x7 x8 x9 b fl
      have inner : ∀ (y3 y4 : Int32), f_X2_worked_text_b115 (f_X2_worked_text_b31 Tc (nI t) (F 0) (F 1) (F 2) (F 3) (F 4) f) y3 y4 (nI x6) Tc (nI t) b fl (F 0) (F 1) (F 2) (F 3) (F 4) = bd (f_X2_next_r13 Tc (nI t) b fl) fun u10 => if u10 = 59 then f_X2_worked_text_b31 Tc (nI t) (F 0) (F 1) (F 2) (F 3) (F 4) f y3 y4 1 (nI x6 + 1) (b + 1) fl else f_X2_worked_text_b31 Tc (nI t) (F 0) (F 1) (F 2) (F 3) (F 4) f y3 y4 0 (nI x6 + 1) b fl := by
        intro y3 y4
        unfold f_X2_worked_text_b115 f_X2_worked_text_b129 f_X2_worked_text_b146
        rw [e_next14]
        simp only [if_neg (show ¬ (1 : Int32) = 0 by decide), if_true, Int32.add_zero]
      unfold f_X2_worked_text_b94 f_X2_worked_text_b109 tl_ sa_ sc_
      rw [inner, inner]
      by_cases q1 : x4 = 0
      · by_cases q2 : x9 = 0
        · simp only [if_pos q1, if_pos q2]
        · by_cases q3 : x7 = 0
          · simp only [if_pos q1, if_neg q2, if_pos q3]
          · simp only [if_pos q1, if_neg q2, if_neg q3]
      · simp only [if_neg q1]
    rw [f_X2_worked_text_b31, if_neg (by rw [L_120, lt_nI (by decide) (by omega)]; omega), if_neg (show ¬ (1 : Int32) = 0 by decide)]
    unfold f_X2_worked_text_b69
    simp only [tail, if_neg (show ¬ (1 : Int32) = 0 by decide), if_true]
    rw [e_ranked14, e_next14]
  · rw [f_X2_worked_text_b31]
    unfold f_X2_worked_text_b156
    by_cases q : 120 < x6
    · rw [if_pos q]
    · rw [if_neg q, if_pos rfl]
