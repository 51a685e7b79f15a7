/-! greedy, missed, turn -/
theorem tb_or2 {w d e : Nat} : (w ||| 2 ^ d).testBit e = true ↔ w.testBit e = true ∨ e = d := by
  rw [Nat.testBit_or, Bool.or_eq_true, Nat.testBit_two_pow, decide_eq_true_iff, eq_comm (a := d)]
theorem or2_lt {n w d : Nat} (hw : w < 2 ^ n) (hd : d < n) : w ||| 2 ^ d < 2 ^ n := Nat.or_lt_two_pow hw (Nat.pow_lt_pow_right (by decide) hd)
theorem nb_dig {w d : Nat} (hd : d < 31) : nI w ||| ((1 : Int32) <<< (nI d &&& 31)) = nI (w ||| 2 ^ d) := by rw [nb_shl d hd, nb_or]
section GREEDY
variable {n v : Nat} {R : Nat → Nat → Prop} {rch : Nat → Nat} {M_far M_within M_tooNear M_price T_price fa pi : Nat → Int32} {mst cn : Nat → Prop} {L_read : Nat} {L_end L_at L_fault L_d L_p L_y L_j L_o : Int32} {W : Nat → Nat → Int32} {Be P sv cw sl sh cl ch : Nat → Int32} {mu ca : Int32}
theorem m_mayDig (hF : zFound n R rch v M_far M_within M_tooNear) (hn : n ≤ 14) {w d : Nat} (hw : w < 2 ^ 14) (hd : d < n) : f_X7_mayDig (nI w) (nI d) M_price M_tooNear = some (b01 (¬ M_price d ≤ 0 ∧ Clr n R v w d)) := by
  unfold f_X7_mayDig
  rw [ix_nI (show d < 14 by omega) (by decide), ix_nI (show d < 14 by omega) (by decide), cl_nI (by omega), ite_eqc (m_clr hF hn hw hd)]
  by_cases q : M_price d ≤ 0
  · rw [if_pos q, b01_f (fun z => z.1 q)]
  · rw [if_neg q]
    by_cases q2 : Clr n R v w d
    · rw [if_pos q2, b01_t ⟨q, q2⟩]
    · rw [if_neg q2, b01_f (fun z => q2 z.2)]
theorem b_srv (hL : zLaid (2 ^ n - 1) R rch v mst cn W sv cw sl sh cl ch (nI (2 ^ n - 1)) mu ca) (hn : n ≤ 14) {w d : Nat} (hw : w < 2 ^ n) (hd : d < n) : f_X3_isServed (nI d) (nI w) sl sh = some (b01 (Srv n R rch w d)) := by
  rw [l_isServed hL (lt14 hn hw) (show d < 14 by omega)]
  congr 2
  exact propext (US_srv (all_lt n) hn (fun b hb => tb_all.mpr (tb_lt hw hb)) (tb_all.mpr hd))
theorem b_clr (hL : zLaid (2 ^ n - 1) R rch v mst cn W sv cw sl sh cl ch (nI (2 ^ n - 1)) mu ca) (hn : n ≤ 14) {w d : Nat} (hw : w < 2 ^ n) (hd : d < n) : f_X3_isClear (nI d) (nI w) cl ch = some (b01 (Clr n R v w d)) := by
  rw [l_isClear hL (lt14 hn hw) (show d < 14 by omega)]
  congr 2
  exact propext (US_clr (all_lt n) hn (fun b hb => tb_all.mpr (tb_lt hw hb)))
theorem gr_loop {x1 : Int32} (hn : n ≤ 14) (hp : ∀ i, i < n → T_price i = M_price i) (hF : zFound n R rch v M_far M_within M_tooNear) (hL : zLaid (2 ^ n - 1) R rch v mst cn W sv cw sl sh cl ch (nI (2 ^ n - 1)) mu ca) :
    ∀ (r f f7 m w : Nat) (x3 : Int32), r + m = n → f ≥ r + 1 → f7 ≥ r + 1 → w < 2 ^ n → (x3 = -2 ∨ ∃ c, c < n ∧ x3 = nI c) →
    ∃ y, f_X6_greedy_b28 x1 T_price (nI n) L_read L_end L_at L_fault L_d L_p L_y L_j L_o W Be P sv cw sl sh cl ch (nI (2 ^ n - 1)) mu ca f (nI w) x3 (nI m) = some (y, L_read, L_end, L_at, L_fault, L_d, L_p, L_y, L_j, L_o, W, Be, P, sv, cw, sl, sh, cl, ch, nI (2 ^ n - 1), mu, ca) ∧ f_X7_greedy_b30 x1 (nI n) M_price fa pi M_far M_within M_tooNear f7 (nI w) x3 (nI m) = some (y, fa, pi, M_far, M_within, M_tooNear)
  | 0, f + 1, f7 + 1, m, w, x3, h, hf, hf7, hw, hx => by
    have e : m = n := by omega
    subst e
    rw [f_X7_greedy_b30, if_pos (by rw [le_nI (by omega) (by omega)]; omega), f_X6_greedy_b28, if_pos (by rw [le_nI (by omega) (by omega)]; omega)]
    by_cases q : x1 = 0
    · rw [if_pos q, if_pos q]
      exact ⟨_, rfl, rfl⟩
    · rw [if_neg q, if_neg q]
      exact ⟨_, rfl, rfl⟩
  | r + 1, f + 1, f7 + 1, m, w, x3, h, hf, hf7, hw, hx => by
    have hm : m < n := by omega
    have hw14 := lt14 hn hw
    have ih := fun w x3 hw hx => gr_loop (x1 := x1) hn hp hF hL r f f7 (m + 1) w x3 (by omega) (by omega) (by omega) hw hx
    rw [f_X7_greedy_b30, if_neg (by rw [le_nI (by omega) (by omega)]; omega), f_X6_greedy_b28, if_neg (by rw [le_nI (by omega) (by omega)]; omega), b_srv hL hn hw hm, bd_of, b01_if, b_clr hL hn hw hm, bd_of, b01_if, ix_nI (show m < 14 by omega) (by decide), ix_nI (show m < 14 by omega) (by decide), cl_nI (by omega), ite_eqc (m_srv hF hn hw14 hm), m_mayDig hF hn hw14 hm, bd_of, b01_if, nb_dig (show m < 31 by omega), hp m hm]
    unfold f_X6_greedy_b92 f_X6_greedy_b101 f_X7_greedy_b81
    rw [nI_1]
    by_cases q : Srv n R rch w m
    · rw [if_pos q, if_neg (show ¬ ¬ Srv n R rch w m from fun z => z q)]
      exact ih w x3 hw hx
    · rw [if_neg q, if_pos (show ¬ Srv n R rch w m from q)]
      have stuck : ∃ y, (if x3 = -2 then f_X6_greedy_b28 x1 T_price (nI n) L_read L_end L_at L_fault L_d L_p L_y L_j L_o W Be P sv cw sl sh cl ch (nI (2 ^ n - 1)) mu ca f (nI w) (nI m) (nI (m + 1)) else f_X6_greedy_b28 x1 T_price (nI n) L_read L_end L_at L_fault L_d L_p L_y L_j L_o W Be P sv cw sl sh cl ch (nI (2 ^ n - 1)) mu ca f (nI w) x3 (nI (m + 1))) = some (y, L_read, L_end, L_at, L_fault, L_d, L_p, L_y, L_j, L_o, W, Be, P, sv, cw, sl, sh, cl, ch, nI (2 ^ n - 1), mu, ca) ∧ (if 0 ≤ x3 then f_X7_greedy_b30 x1 (nI n) M_price fa pi M_far M_within M_tooNear f7 (nI w) x3 (nI (m + 1)) else f_X7_greedy_b30 x1 (nI n) M_price fa pi M_far M_within M_tooNear f7 (nI w) (nI m) (nI (m + 1))) = some (y, fa, pi, M_far, M_within, M_tooNear) := by
        rcases hx with rfl | ⟨c, hc, rfl⟩
        · rw [if_pos rfl, if_neg (by decide)]
          exact ih w (nI m) hw (Or.inr ⟨m, hm, rfl⟩)
        · rw [if_neg (fun z => nI_pos (n := c) (by omega) (by rw [z]; decide)), if_pos (by rw [L_0, le_nI (by omega) (by omega)]; omega)]
          exact ih w (nI c) hw (Or.inr ⟨c, hc, rfl⟩)
      by_cases q2 : M_price m ≤ 0
      · rw [if_pos q2, if_neg (show ¬ (¬ M_price m ≤ 0 ∧ Clr n R v w m) from fun z => z.1 q2)]
        exact stuck
      · rw [if_neg q2]
        by_cases q3 : Clr n R v w m
        · rw [if_pos q3, if_pos (show ¬ M_price m ≤ 0 ∧ Clr n R v w m from ⟨q2, q3⟩)]
          exact ih (w ||| 2 ^ m) x3 (or2_lt hw hm) hx
        · rw [if_neg q3, if_neg (show ¬ (¬ M_price m ≤ 0 ∧ Clr n R v w m) from fun z => q3 z.2)]
          exact stuck
  | _, 0, _, _, _, _, _, hf, _, _, _ => by omega
  | _, _ + 1, 0, _, _, _, _, _, hf, _, _ => by omega
theorem ms7_loop {w : Nat} (hn : n ≤ 14) (hF : zFound n R rch v M_far M_within M_tooNear) (hL : zLaid (2 ^ n - 1) R rch v mst cn W sv cw sl sh cl ch (nI (2 ^ n - 1)) mu ca) (hw : w < 2 ^ n) :
    ∀ (r f f7 m : Nat) (x2 : Int32), r + m = n → f ≥ r + 1 → f7 ≥ r + 1 →
    ∃ y, f_X6_missed_b35 (nI w) (nI n) L_read L_end L_at L_fault L_d L_p L_y L_j L_o W Be P sv cw sl sh cl ch (nI (2 ^ n - 1)) mu ca f x2 (nI m) = some (y, L_read, L_end, L_at, L_fault, L_d, L_p, L_y, L_j, L_o, W, Be, P, sv, cw, sl, sh, cl, ch, nI (2 ^ n - 1), mu, ca) ∧ f_X7_missed_b37 (nI w) (nI n) fa pi M_far M_within M_tooNear f7 x2 (nI m) = some (y, fa, pi, M_far, M_within, M_tooNear)
  | 0, f + 1, f7 + 1, m, x2, h, hf, hf7 => by
    have e : m = n := by omega
    subst e
    rw [f_X7_missed_b37, if_pos (by rw [le_nI (by omega) (by omega)]; omega), f_X6_missed_b35, if_pos (by rw [le_nI (by omega) (by omega)]; omega)]
    exact ⟨_, rfl, rfl⟩
  | r + 1, f + 1, f7 + 1, m, x2, h, hf, hf7 => by
    have hm : m < n := by omega
    have hw14 := lt14 hn hw
    have ih := fun x2 => ms7_loop (w := w) hn hF hL hw r f f7 (m + 1) x2 (by omega) (by omega) (by omega)
    have i1 := isB_and (isB_n hw14) (isB_one (show m < 14 by omega))
    have i2 := isB_not (isB_n hw14) i1
    have i3 := isB_not (isB_n hw14) (isB_one (show m < 14 by omega))
    have e1 : nI w &&& ((nI w &&& ((1 : Int32) <<< (nI m &&& 31))) ^^^ (-1)) = nI w &&& (((1 : Int32) <<< (nI m &&& 31)) ^^^ (-1)) := by
      rw [isB_eq i2 i3]
      intro d _
      exact ⟨fun z => ⟨z.1, fun y => z.2 ⟨z.1, y⟩⟩, fun z => ⟨z.1, fun y => z.2 y.2⟩⟩
    obtain ⟨u, u1, u2, u3⟩ := i3
    have hus : ∀ b, u.testBit b = true → (2 ^ n - 1).testBit b = true := fun b hb => tb_all.mpr (tb_lt hw ((u3 b (tb_lt u1 hb)).mp hb).1)
    rw [f_X7_missed_b37, if_neg (by rw [le_nI (by omega) (by omega)]; omega), f_X6_missed_b35, if_neg (by rw [le_nI (by omega) (by omega)]; omega), e1, u2, l_isLawful hL hn (all_lt n) hus u1, bd_of, b01_if, s_allDoors hn, bd_of, m_isLawful hF hn (lt14 hn (all_lt n)) u1, bd_of, b01_if]
    unfold f_X6_missed_b79 f_X7_missed_b78
    rw [nI_1]
    by_cases q : w.testBit m = true
    · have e2 : nI w &&& ((1 : Int32) <<< (nI m &&& 31)) = (1 : Int32) <<< (nI m &&& 31) := by
        rw [isB_eq i1 (isB_one (show m < 14 by omega))]
        intro d _
        exact ⟨fun z => z.2, fun z => ⟨by rw [z]; exact q, z⟩⟩
      rw [if_neg (by rw [isB_z i1]; exact fun z => z m (by omega) ⟨q, rfl⟩), e2, if_pos (show (nI w >>> (nI m &&& 31)) &&& 1 = 1 from by rw [isB_t1 (isB_n hw14) (by omega)]; exact q)]
      by_cases q2 : LawP n (2 ^ n - 1) R rch v u
      · rw [if_pos q2, if_pos q2]
        exact ih _
      · rw [if_neg q2, if_neg q2]
        exact ih _
    · rw [if_pos (by rw [isB_z i1]; rintro d _ ⟨z1, rfl⟩; exact q z1), if_neg (show ¬ (nI w >>> (nI m &&& 31)) &&& 1 = 1 from by rw [isB_t1 (isB_n hw14) (by omega)]; exact q)]
      exact ih _
  | _, 0, _, _, _, _, hf, _ => by omega
  | _, _ + 1, 0, _, _, _, _, hf => by omega
/-- doors without a well -/
def fre (w : Nat) : Nat → Nat
  | 0 => 0
  | k + 1 => fre w k + (if w.testBit k = true then 0 else 1)
theorem fre_le (w : Nat) : ∀ k, fre w k ≤ k
  | 0 => Nat.le_refl _
  | k + 1 => by
    have := fre_le w k
    unfold fre
    by_cases q : w.testBit k = true
    · rw [if_pos q]; omega
    · rw [if_neg q]; omega
theorem fre_or {w d : Nat} (hd : ¬ w.testBit d = true) : ∀ k, fre (w ||| 2 ^ d) k + (if d < k then 1 else 0) = fre w k
  | 0 => by
    rw [if_neg (by omega)]
    rfl
  | k + 1 => by
    have ih := fre_or hd k
    unfold fre
    by_cases e : k = d
    · subst e
      rw [if_pos (tb_or2.mpr (Or.inr rfl)), if_neg hd, if_pos (by omega)]
      rw [if_neg (by omega)] at ih
      omega
    · by_cases q : w.testBit k = true
      · rw [if_pos (tb_or2.mpr (Or.inl q)), if_pos q]
        by_cases h : d < k
        · rw [if_pos (by omega)]
          rw [if_pos h] at ih
          omega
        · rw [if_neg (by omega)]
          rw [if_neg h] at ih
          omega
      · rw [if_neg (fun z => (tb_or2.mp z).elim q e), if_neg q]
        by_cases h : d < k
        · rw [if_pos (by omega)]
          rw [if_pos h] at ih
          omega
        · rw [if_neg (by omega)]
          rw [if_neg h] at ih
          omega
theorem tn_in {x1 x2 : Int32} {kk w0 : Nat} (hn : n ≤ 14) (hp : ∀ i, i < n → T_price i = M_price i) (hF : zFound n R rch v M_far M_within M_tooNear) (hL : zLaid (2 ^ n - 1) R rch v mst cn W sv cw sl sh cl ch (nI (2 ^ n - 1)) mu ca) (hself : ∀ a, dd R a a = 0) (hw0 : w0 < 2 ^ n)
    (k40 : Int32 → Int32 → Int32 → Int32 → Option (Int32 × Nat × Int32 × Int32 × Int32 × Int32 × Int32 × Int32 × Int32 × Int32 × (Nat → Nat → Int32) × (Nat → Int32) × (Nat → Int32) × (Nat → Int32) × (Nat → Int32) × (Nat → Int32) × (Nat → Int32) × (Nat → Int32) × (Nat → Int32) × Int32 × Int32 × Int32)) (k7 : Int32 → Int32 → Int32 → Option (Int32 × (Nat → Int32) × (Nat → Int32) × (Nat → Int32) × (Nat → Int32) × (Nat → Int32))) :
    ∀ (r f f7 m w : Nat) (x4 x5 : Int32), r + m = n → f ≥ r + 1 → f7 ≥ r + 1 → w < 2 ^ n → ((w = w0 ∧ x5 = 0) ∨ (fre w n < fre w0 n ∧ x5 = 1)) →
    ∃ w' y x5', w' < 2 ^ n ∧ ((w' = w0 ∧ x5' = 0) ∨ (fre w' n < fre w0 n ∧ x5' = 1)) ∧
      f_X6_turn_b58 k40 x1 x2 (nI kk) (nI w0) T_price (nI n) L_read L_end L_at L_fault L_d L_p L_y L_j L_o W Be P sv cw sl sh cl ch (nI (2 ^ n - 1)) mu ca f (nI w) x4 (nI m) = k40 (nI w') y x5' (nI (kk + 1)) ∧ f_X7_turn_b51 k7 x1 x2 (nI n) M_price fa pi M_far M_within M_tooNear f7 (nI w) x4 x5 (nI m) = k7 (nI w') y x5'
  | 0, f + 1, f7 + 1, m, w, x4, x5, h, hf, hf7, hw, hx => by
    have e : m = n := by omega
    have hp := p14 hn
    subst e
    refine ⟨w, x4, x5, hw, hx, ?_, by rw [f_X7_turn_b51, if_pos (by rw [le_nI (by omega) (by omega)]; omega)]⟩
    rw [f_X6_turn_b58, if_pos (by rw [le_nI (by omega) (by omega)]; omega)]
    unfold f_X6_turn_b162
    rw [nI_1]
    rcases hx with ⟨rfl, rfl⟩ | ⟨h1, rfl⟩
    · rw [if_pos rfl]
    · rw [if_neg]
      rw [eq_nI (by omega) (by omega)]
      rintro rfl
      omega
  | r + 1, f + 1, f7 + 1, m, w, x4, x5, h, hf, hf7, hw, hx => by
    have hm : m < n := by omega
    have hw14 := lt14 hn hw
    have ih := fun w x4 x5 hw hx => tn_in (x1 := x1) (x2 := x2) (kk := kk) hn hp hF hL hself hw0 k40 k7 r f f7 (m + 1) w x4 x5 (by omega) (by omega) (by omega) hw hx
    rw [f_X7_turn_b51, if_neg (by rw [le_nI (by omega) (by omega)]; omega), f_X6_turn_b58, if_neg (by rw [le_nI (by omega) (by omega)]; omega)]
    unfold f_X6_turn_b101 f_X6_turn_b102 f_X6_turn_b145 f_X7_turn_b109
    rw [b_srv hL hn hw hm, bd_of, b01_if, b_clr hL hn hw hm, bd_of, b01_if, ix_nI (show m < 14 by omega) (by decide), ix_nI (show m < 14 by omega) (by decide), cl_nI (by omega), ix_nI (show m < 14 by omega) (by decide), ite_eqc (m_srv hF hn hw14 hm), m_mayDig hF hn hw14 hm, bd_of, b01_if, ix_nI (show m < 14 by omega) (by decide), nb_dig (show m < 31 by omega), hp m hm, nI_1, if_pos (show (0 : Int32) = 0 from rfl)]
    have z1 : ¬ (1 : Int32) = 0 := by decide
    by_cases q2 : M_price m ≤ 0
    · rw [if_pos q2, if_neg (show ¬ (¬ M_price m ≤ 0 ∧ Clr n R v w m) from fun z => z.1 q2)]
      by_cases q : Srv n R rch w m
      · rw [if_neg (show ¬ ¬ Srv n R rch w m from fun z => z q)]
        exact ih w x4 x5 hw hx
      · rw [if_pos (show ¬ Srv n R rch w m from q)]
        exact ih w x4 x5 hw hx
    rw [if_neg q2]
    by_cases q4 : x1 < M_price m
    · rw [if_pos q4, if_neg (show ¬ M_price m ≤ x1 from Int32.not_le.mpr q4)]
      by_cases q : Srv n R rch w m
      · rw [if_neg (show ¬ ¬ Srv n R rch w m from fun z => z q)]
        exact ih w x4 x5 hw hx
      · rw [if_pos (show ¬ Srv n R rch w m from q)]
        by_cases q3 : Clr n R v w m
        · rw [if_pos (show ¬ M_price m ≤ 0 ∧ Clr n R v w m from ⟨q2, q3⟩)]
          exact ih w x4 x5 hw hx
        · rw [if_neg (show ¬ (¬ M_price m ≤ 0 ∧ Clr n R v w m) from fun z => q3 z.2)]
          exact ih w x4 x5 hw hx
    rw [if_neg q4, if_pos (show M_price m ≤ x1 from Int32.not_lt.mp q4), if_neg z1]
    by_cases q : Srv n R rch w m
    · rw [if_pos q, if_neg (show ¬ ¬ Srv n R rch w m from fun z => z q)]
      exact ih w x4 x5 hw hx
    · rw [if_neg q, if_pos (show ¬ Srv n R rch w m from q)]
      by_cases q3 : Clr n R v w m
      · rw [if_pos q3, if_pos (show ¬ M_price m ≤ 0 ∧ Clr n R v w m from ⟨q2, q3⟩)]
        have hwm : ¬ w.testBit m = true := fun z => q ⟨m, hm, z, by rw [hself]; exact Nat.zero_le _⟩
        have hfr := fre_or hwm n
        rw [if_pos hm] at hfr
        refine ih (w ||| 2 ^ m) (x4 + 1) 1 (or2_lt hw hm) (Or.inr ⟨?_, rfl⟩)
        rcases hx with ⟨rfl, -⟩ | ⟨h1, -⟩
        · omega
        · omega
      · rw [if_neg q3, if_neg (show ¬ (¬ M_price m ≤ 0 ∧ Clr n R v w m) from fun z => q3 z.2)]
        exact ih w x4 x5 hw hx
  | _, 0, _, _, _, _, _, _, hf, _, _, _ => by omega
  | _, _ + 1, 0, _, _, _, _, _, _, hf, _, _ => by omega
theorem tn_out {x1 x2 : Int32} (hn : n ≤ 14) (hp : ∀ i, i < n → T_price i = M_price i) (hF : zFound n R rch v M_far M_within M_tooNear) (hL : zLaid (2 ^ n - 1) R rch v mst cn W sv cw sl sh cl ch (nI (2 ^ n - 1)) mu ca) (hself : ∀ a, dd R a a = 0) :
    ∀ (r f f7 k w : Nat) (x4 x5 : Int32), fre w n ≤ r → r + k = 14 → f ≥ r + 3 → f7 ≥ r + 3 → w < 2 ^ n → (x5 = 0 ∨ x5 = 1) →
    ∃ y, f_X6_turn_b40 x1 x2 T_price (nI n) L_read L_end L_at L_fault L_d L_p L_y L_j L_o W Be P sv cw sl sh cl ch (nI (2 ^ n - 1)) mu ca f (nI w) x4 x5 (nI k) = some (y, L_read, L_end, L_at, L_fault, L_d, L_p, L_y, L_j, L_o, W, Be, P, sv, cw, sl, sh, cl, ch, nI (2 ^ n - 1), mu, ca) ∧ f_X7_turn_b40 x1 x2 (nI n) M_price fa pi M_far M_within M_tooNear f7 (nI w) x4 x5 = some (y, fa, pi, M_far, M_within, M_tooNear) := by
  intro r
  induction r with
  | zero =>
    intro f f7 k w x4 x5 hr hk hf hf7 hw hx
    obtain ⟨f, rfl⟩ : ∃ g, f = g + 1 + 1 := ⟨f - 2, by omega⟩
    obtain ⟨f7, rfl⟩ : ∃ g, f7 = g + 1 + 1 := ⟨f7 - 2, by omega⟩
    have fin : ∀ (f f7 k : Nat) (w : Nat) (x4 : Int32), k ≤ 15 → ∃ y, f_X6_turn_b40 x1 x2 T_price (nI n) L_read L_end L_at L_fault L_d L_p L_y L_j L_o W Be P sv cw sl sh cl ch (nI (2 ^ n - 1)) mu ca (f + 1) (nI w) x4 0 (nI k) = some (y, L_read, L_end, L_at, L_fault, L_d, L_p, L_y, L_j, L_o, W, Be, P, sv, cw, sl, sh, cl, ch, nI (2 ^ n - 1), mu, ca) ∧ f_X7_turn_b40 x1 x2 (nI n) M_price fa pi M_far M_within M_tooNear (f7 + 1) (nI w) x4 0 = some (y, fa, pi, M_far, M_within, M_tooNear) := by
      intro f f7 k w x4 hk
      rw [f_X7_turn_b40, if_pos rfl, f_X6_turn_b40, if_pos rfl]
      unfold f_X6_turn_b170
      by_cases q : x2 = 0
      · by_cases q2 : 14 < nI k
        · rw [if_pos q2, if_pos q, if_pos q]
          exact ⟨_, rfl, rfl⟩
        · rw [if_neg q2, if_pos q, if_pos q]
          exact ⟨_, rfl, rfl⟩
      · by_cases q2 : 14 < nI k
        · rw [if_pos q2, if_neg q, if_neg q]
          exact ⟨_, rfl, rfl⟩
        · rw [if_neg q2, if_neg q, if_neg q]
          exact ⟨_, rfl, rfl⟩
    rcases hx with rfl | rfl
    · exact fin (f + 1) (f7 + 1) k w x4 (by omega)
    · obtain ⟨w', y, x5', g1, g2, g3, g4⟩ := tn_in (x1 := x1) (x2 := x2) (kk := k) (L_read := L_read) (L_end := L_end) (L_at := L_at) (L_fault := L_fault) (L_d := L_d) (L_p := L_p) (L_y := L_y) (L_j := L_j) (L_o := L_o) (Be := Be) (P := P) (fa := fa) (pi := pi) hn hp hF hL hself hw (f_X6_turn_b40 x1 x2 T_price (nI n) L_read L_end L_at L_fault L_d L_p L_y L_j L_o W Be P sv cw sl sh cl ch (nI (2 ^ n - 1)) mu ca (f + 1)) (f_X7_turn_b40 x1 x2 (nI n) M_price fa pi M_far M_within M_tooNear (f7 + 1)) n fuel fuel 0 w x4 0 (by omega) (by unfold fuel; omega) (by unfold fuel; omega) hw (Or.inl ⟨rfl, rfl⟩)
      rcases g2 with ⟨rfl, rfl⟩ | ⟨h1, -⟩
      · obtain ⟨y2, j1, j2⟩ := fin f f7 (k + 1) w' y (by omega)
        refine ⟨y2, ?_, ?_⟩
        · rw [f_X6_turn_b40, if_neg (by rw [L_14, lt_nI (by omega) (by omega)]; omega), if_neg (by decide)]
          exact g3.trans j1
        · rw [f_X7_turn_b40, if_neg (by decide)]
          exact g4.trans j2
      · omega
  | succ r ihr =>
    intro f f7 k w x4 x5 hr hk hf hf7 hw hx
    obtain ⟨f, rfl⟩ : ∃ g, f = g + 1 := ⟨f - 1, by omega⟩
    obtain ⟨f7, rfl⟩ : ∃ g, f7 = g + 1 := ⟨f7 - 1, by omega⟩
    have fin : ∀ (f f7 k : Nat) (w : Nat) (x4 : Int32), k ≤ 15 → ∃ y, f_X6_turn_b40 x1 x2 T_price (nI n) L_read L_end L_at L_fault L_d L_p L_y L_j L_o W Be P sv cw sl sh cl ch (nI (2 ^ n - 1)) mu ca (f + 1) (nI w) x4 0 (nI k) = some (y, L_read, L_end, L_at, L_fault, L_d, L_p, L_y, L_j, L_o, W, Be, P, sv, cw, sl, sh, cl, ch, nI (2 ^ n - 1), mu, ca) ∧ f_X7_turn_b40 x1 x2 (nI n) M_price fa pi M_far M_within M_tooNear (f7 + 1) (nI w) x4 0 = some (y, fa, pi, M_far, M_within, M_tooNear) := by
      intro f f7 k w x4 hk
      rw [f_X7_turn_b40, if_pos rfl, f_X6_turn_b40, if_pos rfl]
      unfold f_X6_turn_b170
      by_cases q : x2 = 0
      · by_cases q2 : 14 < nI k
        · rw [if_pos q2, if_pos q, if_pos q]
          exact ⟨_, rfl, rfl⟩
        · rw [if_neg q2, if_pos q, if_pos q]
          exact ⟨_, rfl, rfl⟩
      · by_cases q2 : 14 < nI k
        · rw [if_pos q2, if_neg q, if_neg q]
          exact ⟨_, rfl, rfl⟩
        · rw [if_neg q2, if_neg q, if_neg q]
          exact ⟨_, rfl, rfl⟩
    rcases hx with rfl | rfl
    · exact fin f f7 k w x4 (by omega)
    · obtain ⟨w', y, x5', g1, g2, g3, g4⟩ := tn_in (x1 := x1) (x2 := x2) (kk := k) (L_read := L_read) (L_end := L_end) (L_at := L_at) (L_fault := L_fault) (L_d := L_d) (L_p := L_p) (L_y := L_y) (L_j := L_j) (L_o := L_o) (Be := Be) (P := P) (fa := fa) (pi := pi) hn hp hF hL hself hw (f_X6_turn_b40 x1 x2 T_price (nI n) L_read L_end L_at L_fault L_d L_p L_y L_j L_o W Be P sv cw sl sh cl ch (nI (2 ^ n - 1)) mu ca f) (f_X7_turn_b40 x1 x2 (nI n) M_price fa pi M_far M_within M_tooNear f7) n fuel fuel 0 w x4 0 (by omega) (by unfold fuel; omega) (by unfold fuel; omega) hw (Or.inl ⟨rfl, rfl⟩)
      have key : ∃ y2, f_X6_turn_b40 x1 x2 T_price (nI n) L_read L_end L_at L_fault L_d L_p L_y L_j L_o W Be P sv cw sl sh cl ch (nI (2 ^ n - 1)) mu ca f (nI w') y x5' (nI (k + 1)) = some (y2, L_read, L_end, L_at, L_fault, L_d, L_p, L_y, L_j, L_o, W, Be, P, sv, cw, sl, sh, cl, ch, nI (2 ^ n - 1), mu, ca) ∧ f_X7_turn_b40 x1 x2 (nI n) M_price fa pi M_far M_within M_tooNear f7 (nI w') y x5' = some (y2, fa, pi, M_far, M_within, M_tooNear) := by
        rcases g2 with ⟨rfl, rfl⟩ | ⟨h1, rfl⟩
        · obtain ⟨f, rfl⟩ : ∃ g, f = g + 1 := ⟨f - 1, by omega⟩
          obtain ⟨f7, rfl⟩ : ∃ g, f7 = g + 1 := ⟨f7 - 1, by omega⟩
          exact fin f f7 (k + 1) w' y (by omega)
        · exact ihr f f7 (k + 1) w' y 1 (by omega) (by omega) (by omega) (by omega) g1 (Or.inr rfl)
      obtain ⟨y2, j1, j2⟩ := key
      refine ⟨y2, ?_, ?_⟩
      · rw [f_X6_turn_b40, if_neg (by rw [L_14, lt_nI (by omega) (by omega)]; omega), if_neg (by decide)]
        exact g3.trans j1
      · rw [f_X7_turn_b40, if_neg (by decide)]
        exact g4.trans j2
end GREEDY
set_option maxHeartbeats 1000000 in
theorem pu_greedy {T_price : Nat → Int32} {T_year : Nat → Int32} {T_joinEnds : Nat → Int32} {T_wallEnds : Nat → Int32} {T_cost : Nat → Int32} {T_doors : Int32} {T_joins : Int32} {T_walls : Int32} {T_oldWells : Int32} {T_apart : Int32} {L_tape : Nat → Int32} {L_text : Nat → Int32} {L_fed : Int32} {L_length : Int32} {L_read : Nat} {L_end : Int32} {L_at : Int32} {L_fault : Int32} {L_d : Int32} {L_p : Int32} {L_y : Int32} {L_j : Int32} {L_o : Int32} {P_away : Nat → Nat → Int32} {P_beside : Nat → Int32} {P_reach : Nat → Int32} {P_serves : Nat → Int32} {P_crowds : Nat → Int32} {P_servedLow : Nat → Int32} {P_servedHigh : Nat → Int32} {P_crowdedLow : Nat → Int32} {P_crowdedHigh : Nat → Int32} {P_there : Int32} {P_must : Int32} {P_can : Int32} {C_what : Nat → Int32} {C_number : Nat → Int32} {C_before : Nat → Int32} {C_after : Nat → Int32} {C_done : Int32} {C_kept : Int32} {A_kinds : Nat → Int32} {A_traced : Nat → Int32} {A_bodies : Int32} {A_began : Int32} {A_self : Int32} {A_kindOfSelf : Int32} {S_holds : Nat → Int32} {S_body : Nat → Int32} {S_sort : Nat → Int32} {S_size : Nat → Int32} {S_elements : Nat → Nat → Int64} {G_grown : Nat → Int32} {M_code : Int32} {M_doors : Int32} {M_price : Nat → Int32} {M_year : Nat → Int32} {M_joins : Int32} {M_joinA : Nat → Int32} {M_joinB : Nat → Int32} {M_walls : Int32} {M_wallA : Nat → Int32} {M_wallB : Nat → Int32} {M_cost : Nat → Int32} {M_olds : Int32} {M_near : Int32} {M_doneMany : Int32} {M_undoneMany : Int32} {M_changeOf : Nat → Int32} {M_changeAt : Nat → Int32} {M_before : Nat → Int32} {M_behind : Nat → Int32} {M_tape : Nat → Int32} {M_taped : Int32} {M_here : Int32} {M_fault : Int32} {M_open : Int32} {M_laid : Int32} {M_act : Nat → Int32} {M_with : Nat → Int32} {M_lineMany : Nat → Int32} {M_testEnd : Nat → Int32} {M_lineEnd : Nat → Int32} {M_facts : Nat → Int32} {M_pile : Nat → Int32} {M_hasLaw : Int32} {M_far : Nat → Int32} {M_within : Nat → Int32} {M_tooNear : Nat → Int32} {M_dried : Int32} {M_isOn : Nat → Int32} {M_wasOn : Nat → Int32} {M_bodies : Int32} {M_kind : Nat → Int32} {M_traces : Int32} {M_traced : Nat → Int32} {M_holds : Nat → Int32} {M_size : Nat → Int32} {M_elements : Nat → Int64} {M_shifted : Nat → Int64} (hI : INV T_price T_year T_joinEnds T_wallEnds T_cost T_doors T_joins T_walls T_oldWells T_apart L_tape L_text L_fed L_length L_read L_end L_at L_fault L_d L_p L_y L_j L_o P_away P_beside P_reach P_serves P_crowds P_servedLow P_servedHigh P_crowdedLow P_crowdedHigh P_there P_must P_can C_what C_number C_before C_after C_done C_kept A_kinds A_traced A_bodies A_began A_self A_kindOfSelf S_holds S_body S_sort S_size S_elements G_grown M_code M_doors M_price M_year M_joins M_joinA M_joinB M_walls M_wallA M_wallB M_cost M_olds M_near M_doneMany M_undoneMany M_changeOf M_changeAt M_before M_behind M_tape M_taped M_here M_fault M_open M_laid M_act M_with M_lineMany M_testEnd M_lineEnd M_facts M_pile M_hasLaw M_far M_within M_tooNear M_dried M_isOn M_wasOn M_bodies M_kind M_traces M_traced M_holds M_size M_elements M_shifted) (a1 : Int32) : ∃ (rc : Int32 × Nat × Int32 × Int32 × Int32 × Int32 × Int32 × Int32 × Int32 × Int32 × (Nat → Nat → Int32) × (Nat → Int32) × (Nat → Int32) × (Nat → Int32) × (Nat → Int32) × (Nat → Int32) × (Nat → Int32) × (Nat → Int32) × (Nat → Int32) × Int32 × Int32 × Int32) (rm : Int32 × (Nat → Int32) × (Nat → Int32) × (Nat → Int32) × (Nat → Int32) × (Nat → Int32)), f_X6_greedy a1 T_price T_year T_joinEnds T_wallEnds T_doors T_joins T_walls T_oldWells T_apart L_text L_length L_read L_end L_at L_fault L_d L_p L_y L_j L_o P_away P_beside P_reach P_serves P_crowds P_servedLow P_servedHigh P_crowdedLow P_crowdedHigh P_there P_must P_can = some rc ∧ f_X7_greedy a1 M_doors M_price M_year M_joins M_joinA M_joinB M_olds M_near M_act M_with M_lineMany M_testEnd M_lineEnd M_facts M_pile M_hasLaw M_far M_within M_tooNear = some rm ∧ rc.1 = rm.1 ∧ INV T_price T_year T_joinEnds T_wallEnds T_cost T_doors T_joins T_walls T_oldWells T_apart L_tape L_text L_fed L_length rc.2.1 rc.2.2.1 rc.2.2.2.1 rc.2.2.2.2.1 rc.2.2.2.2.2.1 rc.2.2.2.2.2.2.1 rc.2.2.2.2.2.2.2.1 rc.2.2.2.2.2.2.2.2.1 rc.2.2.2.2.2.2.2.2.2.1 rc.2.2.2.2.2.2.2.2.2.2.1 rc.2.2.2.2.2.2.2.2.2.2.2.1 rc.2.2.2.2.2.2.2.2.2.2.2.2.1 rc.2.2.2.2.2.2.2.2.2.2.2.2.2.1 rc.2.2.2.2.2.2.2.2.2.2.2.2.2.2.1 rc.2.2.2.2.2.2.2.2.2.2.2.2.2.2.2.1 rc.2.2.2.2.2.2.2.2.2.2.2.2.2.2.2.2.1 rc.2.2.2.2.2.2.2.2.2.2.2.2.2.2.2.2.2.1 rc.2.2.2.2.2.2.2.2.2.2.2.2.2.2.2.2.2.2.1 rc.2.2.2.2.2.2.2.2.2.2.2.2.2.2.2.2.2.2.2.1 rc.2.2.2.2.2.2.2.2.2.2.2.2.2.2.2.2.2.2.2.2.1 rc.2.2.2.2.2.2.2.2.2.2.2.2.2.2.2.2.2.2.2.2.2 C_what C_number C_before C_after C_done C_kept A_kinds A_traced A_bodies A_began A_self A_kindOfSelf S_holds S_body S_sort S_size S_elements G_grown M_code M_doors M_price M_year M_joins M_joinA M_joinB M_walls M_wallA M_wallB M_cost M_olds M_near M_doneMany M_undoneMany M_changeOf M_changeAt M_before M_behind M_tape M_taped M_here M_fault M_open M_laid M_act M_with M_lineMany M_testEnd M_lineEnd rm.2.1 rm.2.2.1 M_hasLaw rm.2.2.2.1 rm.2.2.2.2.1 rm.2.2.2.2.2 M_dried M_isOn M_wasOn M_bodies M_kind M_traces M_traced M_holds M_size M_elements M_shifted := by
  have hI0 := hI
  obtain ⟨n, kj, kw, o, v, nb, hT, hL, hC, hA, hS⟩ := hI
  obtain ⟨A, B, rch, hset⟩ := SET_ex hT hL o
  have hT0 := hT
  obtain ⟨⟨b1, b2, b3, b4, b5⟩, ⟨rfl, rfl, rfl, rfl, rfl, rfl, rfl, rfl, rfl, rfl, rfl⟩, h1, h2, h3, h4, h5⟩ := hT
  have hp := p14 b1
  have z1 : ¬ (1 : Int32) = 0 := by decide
  have hR := RJ_lt (s := 2 ^ n - 1) (fun i hi => (hset.2.2.1.2 i hi).1)
  obtain ⟨rd, e, a', f', d, p, y, j, o', W', Be', P', sv', cw', sl', sh', cl', ch', mu, ca, t1, t2⟩ := s_settle hset b1 b4 b5 h1 L_read L_end L_at L_fault L_d L_p L_y L_j L_o P_away P_beside P_reach P_serves P_crowds P_servedLow P_servedHigh P_crowdedLow P_crowdedHigh P_there P_must P_can
  obtain ⟨fa', pi', far', wi', tn', g1, g2⟩ := s_findAll b1 (all_lt n) b5 hset.1 hset.2.2.1 hset.2.2.2.2 M_facts M_pile M_far M_within M_tooNear
  unfold f_X6_greedy f_X7_greedy
  rw [t1, bd_of, s_allDoors b1, bd_of, g1, bd_of, s_isWithin, bd_of, i01, s_in, bd_of, i01]
  by_cases q : a1 < 0 ∨ 1 < a1
  · rw [if_pos q, if_pos q]
    exact ⟨_, _, rfl, rfl, rfl, hI0⟩
  rw [if_neg q, if_neg q]
  obtain ⟨y0, j1, j2⟩ := gr_loop (x1 := a1) (L_read := rd) (L_end := e) (L_at := a') (L_fault := f') (L_d := d) (L_p := p) (L_y := y) (L_j := j) (L_o := o') (Be := Be') (P := P') (fa := fa') (pi := pi') b1 (fun i hi => (h1 i hi).1) g2 t2 n fuel fuel 0 o (-2) (by omega) (by unfold fuel; omega) (by unfold fuel; omega) b4 (Or.inl rfl)
  exact ⟨_, _, j1, j2, rfl, n, kj, kw, o, v, nb, hT0, hL, hC, hA, hS⟩
set_option maxHeartbeats 1000000 in
theorem pu_missed {T_price : Nat → Int32} {T_year : Nat → Int32} {T_joinEnds : Nat → Int32} {T_wallEnds : Nat → Int32} {T_cost : Nat → Int32} {T_doors : Int32} {T_joins : Int32} {T_walls : Int32} {T_oldWells : Int32} {T_apart : Int32} {L_tape : Nat → Int32} {L_text : Nat → Int32} {L_fed : Int32} {L_length : Int32} {L_read : Nat} {L_end : Int32} {L_at : Int32} {L_fault : Int32} {L_d : Int32} {L_p : Int32} {L_y : Int32} {L_j : Int32} {L_o : Int32} {P_away : Nat → Nat → Int32} {P_beside : Nat → Int32} {P_reach : Nat → Int32} {P_serves : Nat → Int32} {P_crowds : Nat → Int32} {P_servedLow : Nat → Int32} {P_servedHigh : Nat → Int32} {P_crowdedLow : Nat → Int32} {P_crowdedHigh : Nat → Int32} {P_there : Int32} {P_must : Int32} {P_can : Int32} {C_what : Nat → Int32} {C_number : Nat → Int32} {C_before : Nat → Int32} {C_after : Nat → Int32} {C_done : Int32} {C_kept : Int32} {A_kinds : Nat → Int32} {A_traced : Nat → Int32} {A_bodies : Int32} {A_began : Int32} {A_self : Int32} {A_kindOfSelf : Int32} {S_holds : Nat → Int32} {S_body : Nat → Int32} {S_sort : Nat → Int32} {S_size : Nat → Int32} {S_elements : Nat → Nat → Int64} {G_grown : Nat → Int32} {M_code : Int32} {M_doors : Int32} {M_price : Nat → Int32} {M_year : Nat → Int32} {M_joins : Int32} {M_joinA : Nat → Int32} {M_joinB : Nat → Int32} {M_walls : Int32} {M_wallA : Nat → Int32} {M_wallB : Nat → Int32} {M_cost : Nat → Int32} {M_olds : Int32} {M_near : Int32} {M_doneMany : Int32} {M_undoneMany : Int32} {M_changeOf : Nat → Int32} {M_changeAt : Nat → Int32} {M_before : Nat → Int32} {M_behind : Nat → Int32} {M_tape : Nat → Int32} {M_taped : Int32} {M_here : Int32} {M_fault : Int32} {M_open : Int32} {M_laid : Int32} {M_act : Nat → Int32} {M_with : Nat → Int32} {M_lineMany : Nat → Int32} {M_testEnd : Nat → Int32} {M_lineEnd : Nat → Int32} {M_facts : Nat → Int32} {M_pile : Nat → Int32} {M_hasLaw : Int32} {M_far : Nat → Int32} {M_within : Nat → Int32} {M_tooNear : Nat → Int32} {M_dried : Int32} {M_isOn : Nat → Int32} {M_wasOn : Nat → Int32} {M_bodies : Int32} {M_kind : Nat → Int32} {M_traces : Int32} {M_traced : Nat → Int32} {M_holds : Nat → Int32} {M_size : Nat → Int32} {M_elements : Nat → Int64} {M_shifted : Nat → Int64} (hI : INV T_price T_year T_joinEnds T_wallEnds T_cost T_doors T_joins T_walls T_oldWells T_apart L_tape L_text L_fed L_length L_read L_end L_at L_fault L_d L_p L_y L_j L_o P_away P_beside P_reach P_serves P_crowds P_servedLow P_servedHigh P_crowdedLow P_crowdedHigh P_there P_must P_can C_what C_number C_before C_after C_done C_kept A_kinds A_traced A_bodies A_began A_self A_kindOfSelf S_holds S_body S_sort S_size S_elements G_grown M_code M_doors M_price M_year M_joins M_joinA M_joinB M_walls M_wallA M_wallB M_cost M_olds M_near M_doneMany M_undoneMany M_changeOf M_changeAt M_before M_behind M_tape M_taped M_here M_fault M_open M_laid M_act M_with M_lineMany M_testEnd M_lineEnd M_facts M_pile M_hasLaw M_far M_within M_tooNear M_dried M_isOn M_wasOn M_bodies M_kind M_traces M_traced M_holds M_size M_elements M_shifted) (a1 : Int32) : ∃ (rc : Int32 × Nat × Int32 × Int32 × Int32 × Int32 × Int32 × Int32 × Int32 × Int32 × (Nat → Nat → Int32) × (Nat → Int32) × (Nat → Int32) × (Nat → Int32) × (Nat → Int32) × (Nat → Int32) × (Nat → Int32) × (Nat → Int32) × (Nat → Int32) × Int32 × Int32 × Int32) (rm : Int32 × (Nat → Int32) × (Nat → Int32) × (Nat → Int32) × (Nat → Int32) × (Nat → Int32)), f_X6_missed a1 T_price T_year T_joinEnds T_wallEnds T_doors T_joins T_walls T_oldWells T_apart L_text L_length L_read L_end L_at L_fault L_d L_p L_y L_j L_o P_away P_beside P_reach P_serves P_crowds P_servedLow P_servedHigh P_crowdedLow P_crowdedHigh P_there P_must P_can = some rc ∧ f_X7_missed a1 M_doors M_price M_year M_joins M_joinA M_joinB M_olds M_near M_act M_with M_lineMany M_testEnd M_lineEnd M_facts M_pile M_hasLaw M_far M_within M_tooNear = some rm ∧ rc.1 = rm.1 ∧ INV T_price T_year T_joinEnds T_wallEnds T_cost T_doors T_joins T_walls T_oldWells T_apart L_tape L_text L_fed L_length rc.2.1 rc.2.2.1 rc.2.2.2.1 rc.2.2.2.2.1 rc.2.2.2.2.2.1 rc.2.2.2.2.2.2.1 rc.2.2.2.2.2.2.2.1 rc.2.2.2.2.2.2.2.2.1 rc.2.2.2.2.2.2.2.2.2.1 rc.2.2.2.2.2.2.2.2.2.2.1 rc.2.2.2.2.2.2.2.2.2.2.2.1 rc.2.2.2.2.2.2.2.2.2.2.2.2.1 rc.2.2.2.2.2.2.2.2.2.2.2.2.2.1 rc.2.2.2.2.2.2.2.2.2.2.2.2.2.2.1 rc.2.2.2.2.2.2.2.2.2.2.2.2.2.2.2.1 rc.2.2.2.2.2.2.2.2.2.2.2.2.2.2.2.2.1 rc.2.2.2.2.2.2.2.2.2.2.2.2.2.2.2.2.2.1 rc.2.2.2.2.2.2.2.2.2.2.2.2.2.2.2.2.2.2.1 rc.2.2.2.2.2.2.2.2.2.2.2.2.2.2.2.2.2.2.2.1 rc.2.2.2.2.2.2.2.2.2.2.2.2.2.2.2.2.2.2.2.2.1 rc.2.2.2.2.2.2.2.2.2.2.2.2.2.2.2.2.2.2.2.2.2 C_what C_number C_before C_after C_done C_kept A_kinds A_traced A_bodies A_began A_self A_kindOfSelf S_holds S_body S_sort S_size S_elements G_grown M_code M_doors M_price M_year M_joins M_joinA M_joinB M_walls M_wallA M_wallB M_cost M_olds M_near M_doneMany M_undoneMany M_changeOf M_changeAt M_before M_behind M_tape M_taped M_here M_fault M_open M_laid M_act M_with M_lineMany M_testEnd M_lineEnd rm.2.1 rm.2.2.1 M_hasLaw rm.2.2.2.1 rm.2.2.2.2.1 rm.2.2.2.2.2 M_dried M_isOn M_wasOn M_bodies M_kind M_traces M_traced M_holds M_size M_elements M_shifted := by
  have hI0 := hI
  obtain ⟨n, kj, kw, o, v, nb, hT, hL, hC, hA, hS⟩ := hI
  obtain ⟨A, B, rch, hset⟩ := SET_ex hT hL o
  have hT0 := hT
  obtain ⟨⟨b1, b2, b3, b4, b5⟩, ⟨rfl, rfl, rfl, rfl, rfl, rfl, rfl, rfl, rfl, rfl, rfl⟩, h1, h2, h3, h4, h5⟩ := hT
  have hp := p14 b1
  have z1 : ¬ (1 : Int32) = 0 := by decide
  have hR := RJ_lt (s := 2 ^ n - 1) (fun i hi => (hset.2.2.1.2 i hi).1)
  obtain ⟨rd, e, a', f', d, p, y, j, o', W', Be', P', sv', cw', sl', sh', cl', ch', mu, ca, t1, t2⟩ := s_settle hset b1 b4 b5 h1 L_read L_end L_at L_fault L_d L_p L_y L_j L_o P_away P_beside P_reach P_serves P_crowds P_servedLow P_servedHigh P_crowdedLow P_crowdedHigh P_there P_must P_can
  obtain ⟨fa', pi', far', wi', tn', g1, g2⟩ := s_findAll b1 (all_lt n) b5 hset.1 hset.2.2.1 hset.2.2.2.2 M_facts M_pile M_far M_within M_tooNear
  unfold f_X6_missed f_X7_missed
  rw [t1, bd_of, s_allDoors b1, bd_of, g1, bd_of, bd_of]
  rcases s_areDoors a1 n b1 with ⟨q1, q2, w, hw, rfl⟩ | ⟨q1, q2⟩
  · rw [q1, bd_of, if_neg z1, q2, bd_of, if_neg z1]
    dsimp only
    rw [l_isLawful t2 b1 (all_lt n) (fun b hb => tb_all.mpr (tb_lt hw hb)) (lt14 b1 hw), bd_of, b01_if, m_isLawful g2 b1 (lt14 b1 (all_lt n)) (lt14 b1 hw), bd_of, b01_if]
    by_cases q : LawP n (2 ^ n - 1) (RJ (2 ^ n - 1) kj A B) rch v w
    · rw [if_pos q, if_pos q]
      obtain ⟨y0, j1, j2⟩ := ms7_loop (w := w) (L_read := rd) (L_end := e) (L_at := a') (L_fault := f') (L_d := d) (L_p := p) (L_y := y) (L_j := j) (L_o := o') (Be := Be') (P := P') (fa := fa') (pi := pi') b1 g2 t2 hw n fuel fuel 0 0 (by omega) (by unfold fuel; omega) (by unfold fuel; omega)
      exact ⟨_, _, j1, j2, rfl, n, kj, kw, o, v, nb, hT0, hL, hC, hA, hS⟩
    · rw [if_neg q, if_neg q]
      exact ⟨_, _, rfl, rfl, rfl, n, kj, kw, o, v, nb, hT0, hL, hC, hA, hS⟩
  · rw [q1, bd_of, if_pos rfl, q2, bd_of, if_pos rfl]
    exact ⟨_, _, rfl, rfl, rfl, hI0⟩
set_option maxHeartbeats 1000000 in
theorem pu_turn {T_price : Nat → Int32} {T_year : Nat → Int32} {T_joinEnds : Nat → Int32} {T_wallEnds : Nat → Int32} {T_cost : Nat → Int32} {T_doors : Int32} {T_joins : Int32} {T_walls : Int32} {T_oldWells : Int32} {T_apart : Int32} {L_tape : Nat → Int32} {L_text : Nat → Int32} {L_fed : Int32} {L_length : Int32} {L_read : Nat} {L_end : Int32} {L_at : Int32} {L_fault : Int32} {L_d : Int32} {L_p : Int32} {L_y : Int32} {L_j : Int32} {L_o : Int32} {P_away : Nat → Nat → Int32} {P_beside : Nat → Int32} {P_reach : Nat → Int32} {P_serves : Nat → Int32} {P_crowds : Nat → Int32} {P_servedLow : Nat → Int32} {P_servedHigh : Nat → Int32} {P_crowdedLow : Nat → Int32} {P_crowdedHigh : Nat → Int32} {P_there : Int32} {P_must : Int32} {P_can : Int32} {C_what : Nat → Int32} {C_number : Nat → Int32} {C_before : Nat → Int32} {C_after : Nat → Int32} {C_done : Int32} {C_kept : Int32} {A_kinds : Nat → Int32} {A_traced : Nat → Int32} {A_bodies : Int32} {A_began : Int32} {A_self : Int32} {A_kindOfSelf : Int32} {S_holds : Nat → Int32} {S_body : Nat → Int32} {S_sort : Nat → Int32} {S_size : Nat → Int32} {S_elements : Nat → Nat → Int64} {G_grown : Nat → Int32} {M_code : Int32} {M_doors : Int32} {M_price : Nat → Int32} {M_year : Nat → Int32} {M_joins : Int32} {M_joinA : Nat → Int32} {M_joinB : Nat → Int32} {M_walls : Int32} {M_wallA : Nat → Int32} {M_wallB : Nat → Int32} {M_cost : Nat → Int32} {M_olds : Int32} {M_near : Int32} {M_doneMany : Int32} {M_undoneMany : Int32} {M_changeOf : Nat → Int32} {M_changeAt : Nat → Int32} {M_before : Nat → Int32} {M_behind : Nat → Int32} {M_tape : Nat → Int32} {M_taped : Int32} {M_here : Int32} {M_fault : Int32} {M_open : Int32} {M_laid : Int32} {M_act : Nat → Int32} {M_with : Nat → Int32} {M_lineMany : Nat → Int32} {M_testEnd : Nat → Int32} {M_lineEnd : Nat → Int32} {M_facts : Nat → Int32} {M_pile : Nat → Int32} {M_hasLaw : Int32} {M_far : Nat → Int32} {M_within : Nat → Int32} {M_tooNear : Nat → Int32} {M_dried : Int32} {M_isOn : Nat → Int32} {M_wasOn : Nat → Int32} {M_bodies : Int32} {M_kind : Nat → Int32} {M_traces : Int32} {M_traced : Nat → Int32} {M_holds : Nat → Int32} {M_size : Nat → Int32} {M_elements : Nat → Int64} {M_shifted : Nat → Int64} (hI : INV T_price T_year T_joinEnds T_wallEnds T_cost T_doors T_joins T_walls T_oldWells T_apart L_tape L_text L_fed L_length L_read L_end L_at L_fault L_d L_p L_y L_j L_o P_away P_beside P_reach P_serves P_crowds P_servedLow P_servedHigh P_crowdedLow P_crowdedHigh P_there P_must P_can C_what C_number C_before C_after C_done C_kept A_kinds A_traced A_bodies A_began A_self A_kindOfSelf S_holds S_body S_sort S_size S_elements G_grown M_code M_doors M_price M_year M_joins M_joinA M_joinB M_walls M_wallA M_wallB M_cost M_olds M_near M_doneMany M_undoneMany M_changeOf M_changeAt M_before M_behind M_tape M_taped M_here M_fault M_open M_laid M_act M_with M_lineMany M_testEnd M_lineEnd M_facts M_pile M_hasLaw M_far M_within M_tooNear M_dried M_isOn M_wasOn M_bodies M_kind M_traces M_traced M_holds M_size M_elements M_shifted) (a1 : Int32) (a2 : Int32) : ∃ (rc : Int32 × Nat × Int32 × Int32 × Int32 × Int32 × Int32 × Int32 × Int32 × Int32 × (Nat → Nat → Int32) × (Nat → Int32) × (Nat → Int32) × (Nat → Int32) × (Nat → Int32) × (Nat → Int32) × (Nat → Int32) × (Nat → Int32) × (Nat → Int32) × Int32 × Int32 × Int32) (rm : Int32 × (Nat → Int32) × (Nat → Int32) × (Nat → Int32) × (Nat → Int32) × (Nat → Int32)), f_X6_turn a1 a2 T_price T_year T_joinEnds T_wallEnds T_doors T_joins T_walls T_oldWells T_apart L_text L_length L_read L_end L_at L_fault L_d L_p L_y L_j L_o P_away P_beside P_reach P_serves P_crowds P_servedLow P_servedHigh P_crowdedLow P_crowdedHigh P_there P_must P_can = some rc ∧ f_X7_turn a1 a2 M_doors M_price M_year M_joins M_joinA M_joinB M_olds M_near M_act M_with M_lineMany M_testEnd M_lineEnd M_facts M_pile M_hasLaw M_far M_within M_tooNear = some rm ∧ rc.1 = rm.1 ∧ INV T_price T_year T_joinEnds T_wallEnds T_cost T_doors T_joins T_walls T_oldWells T_apart L_tape L_text L_fed L_length rc.2.1 rc.2.2.1 rc.2.2.2.1 rc.2.2.2.2.1 rc.2.2.2.2.2.1 rc.2.2.2.2.2.2.1 rc.2.2.2.2.2.2.2.1 rc.2.2.2.2.2.2.2.2.1 rc.2.2.2.2.2.2.2.2.2.1 rc.2.2.2.2.2.2.2.2.2.2.1 rc.2.2.2.2.2.2.2.2.2.2.2.1 rc.2.2.2.2.2.2.2.2.2.2.2.2.1 rc.2.2.2.2.2.2.2.2.2.2.2.2.2.1 rc.2.2.2.2.2.2.2.2.2.2.2.2.2.2.1 rc.2.2.2.2.2.2.2.2.2.2.2.2.2.2.2.1 rc.2.2.2.2.2.2.2.2.2.2.2.2.2.2.2.2.1 rc.2.2.2.2.2.2.2.2.2.2.2.2.2.2.2.2.2.1 rc.2.2.2.2.2.2.2.2.2.2.2.2.2.2.2.2.2.2.1 rc.2.2.2.2.2.2.2.2.2.2.2.2.2.2.2.2.2.2.2.1 rc.2.2.2.2.2.2.2.2.2.2.2.2.2.2.2.2.2.2.2.2.1 rc.2.2.2.2.2.2.2.2.2.2.2.2.2.2.2.2.2.2.2.2.2 C_what C_number C_before C_after C_done C_kept A_kinds A_traced A_bodies A_began A_self A_kindOfSelf S_holds S_body S_sort S_size S_elements G_grown M_code M_doors M_price M_year M_joins M_joinA M_joinB M_walls M_wallA M_wallB M_cost M_olds M_near M_doneMany M_undoneMany M_changeOf M_changeAt M_before M_behind M_tape M_taped M_here M_fault M_open M_laid M_act M_with M_lineMany M_testEnd M_lineEnd rm.2.1 rm.2.2.1 M_hasLaw rm.2.2.2.1 rm.2.2.2.2.1 rm.2.2.2.2.2 M_dried M_isOn M_wasOn M_bodies M_kind M_traces M_traced M_holds M_size M_elements M_shifted := by
  have hI0 := hI
  obtain ⟨n, kj, kw, o, v, nb, hT, hL, hC, hA, hS⟩ := hI
  obtain ⟨A, B, rch, hset⟩ := SET_ex hT hL o
  have hT0 := hT
  obtain ⟨⟨b1, b2, b3, b4, b5⟩, ⟨rfl, rfl, rfl, rfl, rfl, rfl, rfl, rfl, rfl, rfl, rfl⟩, h1, h2, h3, h4, h5⟩ := hT
  have hp := p14 b1
  have z1 : ¬ (1 : Int32) = 0 := by decide
  have hR := RJ_lt (s := 2 ^ n - 1) (fun i hi => (hset.2.2.1.2 i hi).1)
  obtain ⟨rd, e, a', f', d, p, y, j, o', W', Be', P', sv', cw', sl', sh', cl', ch', mu, ca, t1, t2⟩ := s_settle hset b1 b4 b5 h1 L_read L_end L_at L_fault L_d L_p L_y L_j L_o P_away P_beside P_reach P_serves P_crowds P_servedLow P_servedHigh P_crowdedLow P_crowdedHigh P_there P_must P_can
  obtain ⟨fa', pi', far', wi', tn', g1, g2⟩ := s_findAll b1 (all_lt n) b5 hset.1 hset.2.2.1 hset.2.2.2.2 M_facts M_pile M_far M_within M_tooNear
  unfold f_X6_turn f_X7_turn
  rw [t1, bd_of, s_allDoors b1, bd_of, g1, bd_of, s_isWithin, bd_of, i01, s_isWithin, bd_of, i01, s_in, bd_of, i01, s_in, bd_of, i01]
  by_cases q : a1 < 0 ∨ 99 < a1
  · rw [if_pos q, if_pos q]
    exact ⟨_, _, rfl, rfl, rfl, hI0⟩
  rw [if_neg q, if_neg q]
  by_cases q2 : a2 < 0 ∨ 1 < a2
  · rw [if_pos q2, if_pos q2]
    exact ⟨_, _, rfl, rfl, rfl, hI0⟩
  rw [if_neg q2, if_neg q2]
  have hfr := fre_le o n
  obtain ⟨y0, j1, j2⟩ := tn_out (x1 := a1) (x2 := a2) (L_read := rd) (L_end := e) (L_at := a') (L_fault := f') (L_d := d) (L_p := p) (L_y := y) (L_j := j) (L_o := o') (Be := Be') (P := P') (fa := fa') (pi := pi') b1 (fun i hi => (h1 i hi).1) g2 t2 (dd_self b1 hR) 14 fuel fuel 0 o 0 1 (by omega) (by omega) (by unfold fuel; omega) (by unfold fuel; omega) b4 (Or.inr rfl)
  exact ⟨_, _, j1, j2, rfl, n, kj, kw, o, v, nb, hT0, hL, hC, hA, hS⟩
