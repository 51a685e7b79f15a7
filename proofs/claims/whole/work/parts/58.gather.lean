/-! the class's gather, four times -/
theorem gi_serves_servedLow {first d : Nat} (h1 : first ≤ 7) (hd : d < 7) (k6 : Int32 → (Nat → Int32) → Option (Nat → Int32)) {V : Nat → Nat → Prop} {P : Nat → Int32} (hP : ∀ c, c < 14 → isBt (P c) (V c)) :
    ∀ (r f x4 : Nat) (T : Nat → Int32), r + x4 = 2 ^ (d + 1) → 2 ^ d ≤ x4 → f ≥ r + 1 → (∀ m, m < x4 → isBt (T m) (zGT V first m)) →
    ∃ T', f_X3_gather_serves_servedLow_b17 k6 (nI first) (nI d) P f (nI x4) T = k6 (nI (d + 1)) T' ∧ ∀ m, m < 2 ^ (d + 1) → isBt (T' m) (zGT V first m)
  | 0, f + 1, x4, T, h, h2, hf, hT => by
    have hp : 2 ^ (d + 1) ≤ 2 ^ 7 := Nat.pow_le_pow_right (by decide) hd
    refine ⟨T, ?_, fun m hm => hT m (by omega)⟩
    rw [f_X3_gather_serves_servedLow_b17, nb_shl2 d (by omega), if_pos (by rw [le_nI (by omega) (by omega)]; omega), nI_1]
  | r + 1, f + 1, x4, T, h, h2, hf, hT => by
    have hp : 2 ^ (d + 1) ≤ 2 ^ 7 := Nat.pow_le_pow_right (by decide) hd
    have hx : x4 < 128 := by omega
    obtain ⟨g1, g2⟩ := ga_num d hd x4 hx h2 (by omega)
    obtain ⟨T', t1, t2⟩ := gi_serves_servedLow h1 hd k6 hP r f (x4 + 1) (upd T x4 (T (x4 ^^^ 2 ^ d) ||| P (first + d))) (by omega) (by omega) (by omega) (fun m hm => by
      by_cases e : m = x4
      · subst e
        rw [upd_eq (α := Nat)]
        exact isB_c (isB_or (hT _ (by omega)) (hP (first + d) (by omega))) fun e _ => GT_step hd hx h2 (by omega) e
      · rw [upd_ne e]
        exact hT m (by omega))
    refine ⟨T', ?_, t2⟩
    rw [f_X3_gather_serves_servedLow_b17, nb_shl2 d (by omega), if_neg (by rw [le_nI (by omega) (by omega)]; omega), nb_shl d (by omega), nb_xor, nI_add, ix_nI (show x4 ^^^ 2 ^ d < 128 by omega) (by decide), ix_nI (show first + d < 14 by omega) (by decide), ix_nI hx (by decide), cl_nI (by omega), cl_nI (by omega), cl_nI (by omega), nI_1]
    exact t1
  | _, 0, _, _, _, _, hf, _ => by omega
theorem go_serves_servedLow {first : Nat} (h1 : first ≤ 7) {V : Nat → Nat → Prop} {P : Nat → Int32} (hP : ∀ c, c < 14 → isBt (P c) (V c)) :
    ∀ (r f d : Nat) (T : Nat → Int32), r + d = 7 → f ≥ r + 1 → (∀ m, m < 2 ^ d → isBt (T m) (zGT V first m)) →
    ∃ T', f_X3_gather_serves_servedLow_b6 (nI first) P f (nI d) T = some T' ∧ ∀ m, m < 128 → isBt (T' m) (zGT V first m)
  | 0, f + 1, d, T, h, hf, hT => by
    have e : d = 7 := by omega
    subst e
    refine ⟨T, ?_, hT⟩
    rw [f_X3_gather_serves_servedLow_b6, if_pos (by decide)]
  | r + 1, f + 1, d, T, h, hf, hT => by
    have hp : 2 ^ (d + 1) ≤ 2 ^ 7 := Nat.pow_le_pow_right (by decide) (by omega)
    have hq : 2 ^ (d + 1) = 2 ^ d + 2 ^ d := by rw [Nat.pow_succ]; omega
    obtain ⟨T1, g1, g2⟩ := gi_serves_servedLow h1 (show d < 7 by omega) (f_X3_gather_serves_servedLow_b6 (nI first) P f) hP (2 ^ d) fuel (2 ^ d) T (by omega) (Nat.le_refl _) (by unfold fuel; omega) hT
    obtain ⟨T', t1, t2⟩ := go_serves_servedLow h1 hP r f (d + 1) T1 (by omega) (by omega) g2
    refine ⟨T', ?_, t2⟩
    rw [f_X3_gather_serves_servedLow_b6, if_neg (by rw [L_7, le_nI (by decide) (by omega)]; omega), nb_shl d (by omega), ← t1]
    exact g1
  | _, 0, _, _, _, hf, _ => by omega
theorem s_serves_servedLow {first : Nat} (h1 : first ≤ 7) {V : Nat → Nat → Prop} {P : Nat → Int32} (hP : ∀ c, c < 14 → isBt (P c) (V c)) (T : Nat → Int32) :
    ∃ T', f_X3_gather_serves_servedLow (nI first) P T = some T' ∧ ∀ m, m < 128 → isBt (T' m) (zGT V first m) := by
  unfold f_X3_gather_serves_servedLow
  rw [ix_0 (by decide) (by decide), show Int32.toNatClampNeg 0 = 0 by decide]
  refine go_serves_servedLow h1 hP 7 fuel 0 _ (by omega) (by unfold fuel; omega) fun m hm => ?_
  have e : m = 0 := by omega
  subst e
  rw [upd_eq (α := Nat)]
  refine isB_c isB_0 fun e _ => ⟨False.elim, ?_⟩
  rintro ⟨c, -, z, -⟩
  rw [Nat.zero_testBit] at z
  exact Bool.noConfusion z
theorem gi_serves_servedHigh {first d : Nat} (h1 : first ≤ 7) (hd : d < 7) (k6 : Int32 → (Nat → Int32) → Option (Nat → Int32)) {V : Nat → Nat → Prop} {P : Nat → Int32} (hP : ∀ c, c < 14 → isBt (P c) (V c)) :
    ∀ (r f x4 : Nat) (T : Nat → Int32), r + x4 = 2 ^ (d + 1) → 2 ^ d ≤ x4 → f ≥ r + 1 → (∀ m, m < x4 → isBt (T m) (zGT V first m)) →
    ∃ T', f_X3_gather_serves_servedHigh_b17 k6 (nI first) (nI d) P f (nI x4) T = k6 (nI (d + 1)) T' ∧ ∀ m, m < 2 ^ (d + 1) → isBt (T' m) (zGT V first m)
  | 0, f + 1, x4, T, h, h2, hf, hT => by
    have hp : 2 ^ (d + 1) ≤ 2 ^ 7 := Nat.pow_le_pow_right (by decide) hd
    refine ⟨T, ?_, fun m hm => hT m (by omega)⟩
    rw [f_X3_gather_serves_servedHigh_b17, nb_shl2 d (by omega), if_pos (by rw [le_nI (by omega) (by omega)]; omega), nI_1]
  | r + 1, f + 1, x4, T, h, h2, hf, hT => by
    have hp : 2 ^ (d + 1) ≤ 2 ^ 7 := Nat.pow_le_pow_right (by decide) hd
    have hx : x4 < 128 := by omega
    obtain ⟨g1, g2⟩ := ga_num d hd x4 hx h2 (by omega)
    obtain ⟨T', t1, t2⟩ := gi_serves_servedHigh h1 hd k6 hP r f (x4 + 1) (upd T x4 (T (x4 ^^^ 2 ^ d) ||| P (first + d))) (by omega) (by omega) (by omega) (fun m hm => by
      by_cases e : m = x4
      · subst e
        rw [upd_eq (α := Nat)]
        exact isB_c (isB_or (hT _ (by omega)) (hP (first + d) (by omega))) fun e _ => GT_step hd hx h2 (by omega) e
      · rw [upd_ne e]
        exact hT m (by omega))
    refine ⟨T', ?_, t2⟩
    rw [f_X3_gather_serves_servedHigh_b17, nb_shl2 d (by omega), if_neg (by rw [le_nI (by omega) (by omega)]; omega), nb_shl d (by omega), nb_xor, nI_add, ix_nI (show x4 ^^^ 2 ^ d < 128 by omega) (by decide), ix_nI (show first + d < 14 by omega) (by decide), ix_nI hx (by decide), cl_nI (by omega), cl_nI (by omega), cl_nI (by omega), nI_1]
    exact t1
  | _, 0, _, _, _, _, hf, _ => by omega
theorem go_serves_servedHigh {first : Nat} (h1 : first ≤ 7) {V : Nat → Nat → Prop} {P : Nat → Int32} (hP : ∀ c, c < 14 → isBt (P c) (V c)) :
    ∀ (r f d : Nat) (T : Nat → Int32), r + d = 7 → f ≥ r + 1 → (∀ m, m < 2 ^ d → isBt (T m) (zGT V first m)) →
    ∃ T', f_X3_gather_serves_servedHigh_b6 (nI first) P f (nI d) T = some T' ∧ ∀ m, m < 128 → isBt (T' m) (zGT V first m)
  | 0, f + 1, d, T, h, hf, hT => by
    have e : d = 7 := by omega
    subst e
    refine ⟨T, ?_, hT⟩
    rw [f_X3_gather_serves_servedHigh_b6, if_pos (by decide)]
  | r + 1, f + 1, d, T, h, hf, hT => by
    have hp : 2 ^ (d + 1) ≤ 2 ^ 7 := Nat.pow_le_pow_right (by decide) (by omega)
    have hq : 2 ^ (d + 1) = 2 ^ d + 2 ^ d := by rw [Nat.pow_succ]; omega
    obtain ⟨T1, g1, g2⟩ := gi_serves_servedHigh h1 (show d < 7 by omega) (f_X3_gather_serves_servedHigh_b6 (nI first) P f) hP (2 ^ d) fuel (2 ^ d) T (by omega) (Nat.le_refl _) (by unfold fuel; omega) hT
    obtain ⟨T', t1, t2⟩ := go_serves_servedHigh h1 hP r f (d + 1) T1 (by omega) (by omega) g2
    refine ⟨T', ?_, t2⟩
    rw [f_X3_gather_serves_servedHigh_b6, if_neg (by rw [L_7, le_nI (by decide) (by omega)]; omega), nb_shl d (by omega), ← t1]
    exact g1
  | _, 0, _, _, _, hf, _ => by omega
theorem s_serves_servedHigh {first : Nat} (h1 : first ≤ 7) {V : Nat → Nat → Prop} {P : Nat → Int32} (hP : ∀ c, c < 14 → isBt (P c) (V c)) (T : Nat → Int32) :
    ∃ T', f_X3_gather_serves_servedHigh (nI first) P T = some T' ∧ ∀ m, m < 128 → isBt (T' m) (zGT V first m) := by
  unfold f_X3_gather_serves_servedHigh
  rw [ix_0 (by decide) (by decide), show Int32.toNatClampNeg 0 = 0 by decide]
  refine go_serves_servedHigh h1 hP 7 fuel 0 _ (by omega) (by unfold fuel; omega) fun m hm => ?_
  have e : m = 0 := by omega
  subst e
  rw [upd_eq (α := Nat)]
  refine isB_c isB_0 fun e _ => ⟨False.elim, ?_⟩
  rintro ⟨c, -, z, -⟩
  rw [Nat.zero_testBit] at z
  exact Bool.noConfusion z
theorem gi_crowds_crowdedLow {first d : Nat} (h1 : first ≤ 7) (hd : d < 7) (k6 : Int32 → (Nat → Int32) → Option (Nat → Int32)) {V : Nat → Nat → Prop} {P : Nat → Int32} (hP : ∀ c, c < 14 → isBt (P c) (V c)) :
    ∀ (r f x4 : Nat) (T : Nat → Int32), r + x4 = 2 ^ (d + 1) → 2 ^ d ≤ x4 → f ≥ r + 1 → (∀ m, m < x4 → isBt (T m) (zGT V first m)) →
    ∃ T', f_X3_gather_crowds_crowdedLow_b17 k6 (nI first) (nI d) P f (nI x4) T = k6 (nI (d + 1)) T' ∧ ∀ m, m < 2 ^ (d + 1) → isBt (T' m) (zGT V first m)
  | 0, f + 1, x4, T, h, h2, hf, hT => by
    have hp : 2 ^ (d + 1) ≤ 2 ^ 7 := Nat.pow_le_pow_right (by decide) hd
    refine ⟨T, ?_, fun m hm => hT m (by omega)⟩
    rw [f_X3_gather_crowds_crowdedLow_b17, nb_shl2 d (by omega), if_pos (by rw [le_nI (by omega) (by omega)]; omega), nI_1]
  | r + 1, f + 1, x4, T, h, h2, hf, hT => by
    have hp : 2 ^ (d + 1) ≤ 2 ^ 7 := Nat.pow_le_pow_right (by decide) hd
    have hx : x4 < 128 := by omega
    obtain ⟨g1, g2⟩ := ga_num d hd x4 hx h2 (by omega)
    obtain ⟨T', t1, t2⟩ := gi_crowds_crowdedLow h1 hd k6 hP r f (x4 + 1) (upd T x4 (T (x4 ^^^ 2 ^ d) ||| P (first + d))) (by omega) (by omega) (by omega) (fun m hm => by
      by_cases e : m = x4
      · subst e
        rw [upd_eq (α := Nat)]
        exact isB_c (isB_or (hT _ (by omega)) (hP (first + d) (by omega))) fun e _ => GT_step hd hx h2 (by omega) e
      · rw [upd_ne e]
        exact hT m (by omega))
    refine ⟨T', ?_, t2⟩
    rw [f_X3_gather_crowds_crowdedLow_b17, nb_shl2 d (by omega), if_neg (by rw [le_nI (by omega) (by omega)]; omega), nb_shl d (by omega), nb_xor, nI_add, ix_nI (show x4 ^^^ 2 ^ d < 128 by omega) (by decide), ix_nI (show first + d < 14 by omega) (by decide), ix_nI hx (by decide), cl_nI (by omega), cl_nI (by omega), cl_nI (by omega), nI_1]
    exact t1
  | _, 0, _, _, _, _, hf, _ => by omega
theorem go_crowds_crowdedLow {first : Nat} (h1 : first ≤ 7) {V : Nat → Nat → Prop} {P : Nat → Int32} (hP : ∀ c, c < 14 → isBt (P c) (V c)) :
    ∀ (r f d : Nat) (T : Nat → Int32), r + d = 7 → f ≥ r + 1 → (∀ m, m < 2 ^ d → isBt (T m) (zGT V first m)) →
    ∃ T', f_X3_gather_crowds_crowdedLow_b6 (nI first) P f (nI d) T = some T' ∧ ∀ m, m < 128 → isBt (T' m) (zGT V first m)
  | 0, f + 1, d, T, h, hf, hT => by
    have e : d = 7 := by omega
    subst e
    refine ⟨T, ?_, hT⟩
    rw [f_X3_gather_crowds_crowdedLow_b6, if_pos (by decide)]
  | r + 1, f + 1, d, T, h, hf, hT => by
    have hp : 2 ^ (d + 1) ≤ 2 ^ 7 := Nat.pow_le_pow_right (by decide) (by omega)
    have hq : 2 ^ (d + 1) = 2 ^ d + 2 ^ d := by rw [Nat.pow_succ]; omega
    obtain ⟨T1, g1, g2⟩ := gi_crowds_crowdedLow h1 (show d < 7 by omega) (f_X3_gather_crowds_crowdedLow_b6 (nI first) P f) hP (2 ^ d) fuel (2 ^ d) T (by omega) (Nat.le_refl _) (by unfold fuel; omega) hT
    obtain ⟨T', t1, t2⟩ := go_crowds_crowdedLow h1 hP r f (d + 1) T1 (by omega) (by omega) g2
    refine ⟨T', ?_, t2⟩
    rw [f_X3_gather_crowds_crowdedLow_b6, if_neg (by rw [L_7, le_nI (by decide) (by omega)]; omega), nb_shl d (by omega), ← t1]
    exact g1
  | _, 0, _, _, _, hf, _ => by omega
theorem s_crowds_crowdedLow {first : Nat} (h1 : first ≤ 7) {V : Nat → Nat → Prop} {P : Nat → Int32} (hP : ∀ c, c < 14 → isBt (P c) (V c)) (T : Nat → Int32) :
    ∃ T', f_X3_gather_crowds_crowdedLow (nI first) P T = some T' ∧ ∀ m, m < 128 → isBt (T' m) (zGT V first m) := by
  unfold f_X3_gather_crowds_crowdedLow
  rw [ix_0 (by decide) (by decide), show Int32.toNatClampNeg 0 = 0 by decide]
  refine go_crowds_crowdedLow h1 hP 7 fuel 0 _ (by omega) (by unfold fuel; omega) fun m hm => ?_
  have e : m = 0 := by omega
  subst e
  rw [upd_eq (α := Nat)]
  refine isB_c isB_0 fun e _ => ⟨False.elim, ?_⟩
  rintro ⟨c, -, z, -⟩
  rw [Nat.zero_testBit] at z
  exact Bool.noConfusion z
theorem gi_crowds_crowdedHigh {first d : Nat} (h1 : first ≤ 7) (hd : d < 7) (k6 : Int32 → (Nat → Int32) → Option (Nat → Int32)) {V : Nat → Nat → Prop} {P : Nat → Int32} (hP : ∀ c, c < 14 → isBt (P c) (V c)) :
    ∀ (r f x4 : Nat) (T : Nat → Int32), r + x4 = 2 ^ (d + 1) → 2 ^ d ≤ x4 → f ≥ r + 1 → (∀ m, m < x4 → isBt (T m) (zGT V first m)) →
    ∃ T', f_X3_gather_crowds_crowdedHigh_b17 k6 (nI first) (nI d) P f (nI x4) T = k6 (nI (d + 1)) T' ∧ ∀ m, m < 2 ^ (d + 1) → isBt (T' m) (zGT V first m)
  | 0, f + 1, x4, T, h, h2, hf, hT => by
    have hp : 2 ^ (d + 1) ≤ 2 ^ 7 := Nat.pow_le_pow_right (by decide) hd
    refine ⟨T, ?_, fun m hm => hT m (by omega)⟩
    rw [f_X3_gather_crowds_crowdedHigh_b17, nb_shl2 d (by omega), if_pos (by rw [le_nI (by omega) (by omega)]; omega), nI_1]
  | r + 1, f + 1, x4, T, h, h2, hf, hT => by
    have hp : 2 ^ (d + 1) ≤ 2 ^ 7 := Nat.pow_le_pow_right (by decide) hd
    have hx : x4 < 128 := by omega
    obtain ⟨g1, g2⟩ := ga_num d hd x4 hx h2 (by omega)
    obtain ⟨T', t1, t2⟩ := gi_crowds_crowdedHigh h1 hd k6 hP r f (x4 + 1) (upd T x4 (T (x4 ^^^ 2 ^ d) ||| P (first + d))) (by omega) (by omega) (by omega) (fun m hm => by
      by_cases e : m = x4
      · subst e
        rw [upd_eq (α := Nat)]
        exact isB_c (isB_or (hT _ (by omega)) (hP (first + d) (by omega))) fun e _ => GT_step hd hx h2 (by omega) e
      · rw [upd_ne e]
        exact hT m (by omega))
    refine ⟨T', ?_, t2⟩
    rw [f_X3_gather_crowds_crowdedHigh_b17, nb_shl2 d (by omega), if_neg (by rw [le_nI (by omega) (by omega)]; omega), nb_shl d (by omega), nb_xor, nI_add, ix_nI (show x4 ^^^ 2 ^ d < 128 by omega) (by decide), ix_nI (show first + d < 14 by omega) (by decide), ix_nI hx (by decide), cl_nI (by omega), cl_nI (by omega), cl_nI (by omega), nI_1]
    exact t1
  | _, 0, _, _, _, _, hf, _ => by omega
theorem go_crowds_crowdedHigh {first : Nat} (h1 : first ≤ 7) {V : Nat → Nat → Prop} {P : Nat → Int32} (hP : ∀ c, c < 14 → isBt (P c) (V c)) :
    ∀ (r f d : Nat) (T : Nat → Int32), r + d = 7 → f ≥ r + 1 → (∀ m, m < 2 ^ d → isBt (T m) (zGT V first m)) →
    ∃ T', f_X3_gather_crowds_crowdedHigh_b6 (nI first) P f (nI d) T = some T' ∧ ∀ m, m < 128 → isBt (T' m) (zGT V first m)
  | 0, f + 1, d, T, h, hf, hT => by
    have e : d = 7 := by omega
    subst e
    refine ⟨T, ?_, hT⟩
    rw [f_X3_gather_crowds_crowdedHigh_b6, if_pos (by decide)]
  | r + 1, f + 1, d, T, h, hf, hT => by
    have hp : 2 ^ (d + 1) ≤ 2 ^ 7 := Nat.pow_le_pow_right (by decide) (by omega)
    have hq : 2 ^ (d + 1) = 2 ^ d + 2 ^ d := by rw [Nat.pow_succ]; omega
    obtain ⟨T1, g1, g2⟩ := gi_crowds_crowdedHigh h1 (show d < 7 by omega) (f_X3_gather_crowds_crowdedHigh_b6 (nI first) P f) hP (2 ^ d) fuel (2 ^ d) T (by omega) (Nat.le_refl _) (by unfold fuel; omega) hT
    obtain ⟨T', t1, t2⟩ := go_crowds_crowdedHigh h1 hP r f (d + 1) T1 (by omega) (by omega) g2
    refine ⟨T', ?_, t2⟩
    rw [f_X3_gather_crowds_crowdedHigh_b6, if_neg (by rw [L_7, le_nI (by decide) (by omega)]; omega), nb_shl d (by omega), ← t1]
    exact g1
  | _, 0, _, _, _, hf, _ => by omega
theorem s_crowds_crowdedHigh {first : Nat} (h1 : first ≤ 7) {V : Nat → Nat → Prop} {P : Nat → Int32} (hP : ∀ c, c < 14 → isBt (P c) (V c)) (T : Nat → Int32) :
    ∃ T', f_X3_gather_crowds_crowdedHigh (nI first) P T = some T' ∧ ∀ m, m < 128 → isBt (T' m) (zGT V first m) := by
  unfold f_X3_gather_crowds_crowdedHigh
  rw [ix_0 (by decide) (by decide), show Int32.toNatClampNeg 0 = 0 by decide]
  refine go_crowds_crowdedHigh h1 hP 7 fuel 0 _ (by omega) (by unfold fuel; omega) fun m hm => ?_
  have e : m = 0 := by omega
  subst e
  rw [upd_eq (α := Nat)]
  refine isB_c isB_0 fun e _ => ⟨False.elim, ?_⟩
  rintro ⟨c, -, z, -⟩
  rw [Nat.zero_testBit] at z
  exact Bool.noConfusion z
