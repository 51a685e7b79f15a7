/-! the acts of the bodies: written by gen/act.py -/
theorem s_note {m : Nat} (hm : m < 24) (c : Int32) (tr : Nat → Int32) : f_X0_note c tr (nI m) = some (upd tr m c, nI (m + 1)) := by
  have e : (24 : Int32) = nI 24 := rfl
  unfold f_X0_note f_X0_note_b19
  rw [e, if_neg (by rw [le_nI (by decide) (by omega)]; omega), ix_nI hm (by decide), cl_nI (by omega), nI_1]
theorem s_ran {m : Nat} (hm : m < 24) (c : Int32) (tr : Nat → Int32) : f_X7_ran c (nI m) tr = some (nI (m + 1), upd tr m c) := by
  have e : (24 : Int32) = nI 24 := rfl
  unfold f_X7_ran f_X7_ran_b19
  rw [e, if_neg (by rw [le_nI (by decide) (by omega)]; omega), ix_nI hm (by decide), cl_nI (by omega), nI_1]
/-- a row of codes put from a place on -/
def putl : (Nat → Int32) → Nat → List Int32 → Nat → Int32
  | f, _, [] => f
  | f, m, c :: l => putl (upd f m c) (m + 1) l
theorem putl_ag : ∀ (l : List Int32) (f g : Nat → Int32) (m : Nat), (∀ i, i < m → f i = g i) → ∀ i, i < m + l.length → putl f m l i = putl g m l i
  | [], f, g, m, h, i, hi => h i (by simpa using hi)
  | c :: l, f, g, m, h, i, hi => by
    refine putl_ag l (upd f m c) (upd g m c) (m + 1) (fun j hj => ?_) i (by simp at hi; omega)
    by_cases e : j = m
    · subst e
      rw [upd_eq (α := Nat), upd_eq (α := Nat)]
    · rw [upd_ne e, upd_ne e]
      exact h j (by omega)
theorem rn_0_0 (rr : Int32 → Int32 → Int32 → Int32 → (Nat → Int32) → Int32 → Int32 → Int32 → Option (Int32 × (Nat → Int32) × Int32)) (a : Int32) {d m : Nat} (hd : d ≤ 30) (hm : m < 24) (tr : Nat → Int32) (A_self A_kindOfSelf : Int32) :
    f_X0_run rr (nI 0) (nI 0) a (nI d) tr (nI m) A_self A_kindOfSelf = some (a + A_self, upd tr m 1, nI (m + 1)) := by
  have h1 : f_X0_ownerOf (nI 0) (nI 0) = some (nI 0) := by decide +kernel
  have h2 : zOWN (Int32.toNatClampNeg (4 * nI 0 + nI 0)) = 1 := by decide +kernel
  have h3 : zABOVE (Int32.toNatClampNeg (nI 0)) = -1 := by decide +kernel
  have e : (30 : Int32) = nI 30 := rfl
  have e4 : (4 : Int32) = nI 4 := rfl
  unfold f_X0_run
  simp only [h1, bd_of, h2, h3]
  rw [if_neg (by decide), if_pos (by rw [e, le_nI (by omega) (by decide)]; exact hd), ix_nI (by decide) (by decide), e4, pk_mul, nI_add, ix_nI (by decide) (by decide), s_note hm]
  simp only [bd_of]
  rw [if_pos trivial]
  all_goals simp only [nI_1]
  all_goals rfl
theorem rn_0_1 (rr : Int32 → Int32 → Int32 → Int32 → (Nat → Int32) → Int32 → Int32 → Int32 → Option (Int32 × (Nat → Int32) × Int32)) (a : Int32) {d m : Nat} (hd : d ≤ 30) (hm : m < 24) (tr : Nat → Int32) (A_self A_kindOfSelf : Int32) :
    f_X0_run rr (nI 0) (nI 1) a (nI d) tr (nI m) A_self A_kindOfSelf = bd (rr A_kindOfSelf (nI 0) a (nI (d + 1)) (upd tr m 10) (nI (m + 1)) A_self A_kindOfSelf) fun u => some (u.1 * 2, u.2.1, u.2.2) := by
  have h1 : f_X0_ownerOf (nI 0) (nI 1) = some (nI 0) := by decide +kernel
  have h2 : zOWN (Int32.toNatClampNeg (4 * nI 0 + nI 1)) = 10 := by decide +kernel
  have h3 : zABOVE (Int32.toNatClampNeg (nI 0)) = -1 := by decide +kernel
  have e : (30 : Int32) = nI 30 := rfl
  have e4 : (4 : Int32) = nI 4 := rfl
  unfold f_X0_run
  simp only [h1, bd_of, h2, h3]
  rw [if_neg (by decide), if_pos (by rw [e, le_nI (by omega) (by decide)]; exact hd), ix_nI (by decide) (by decide), e4, pk_mul, nI_add, ix_nI (by decide) (by decide), s_note hm]
  simp only [bd_of]
  rw [if_neg (by decide), if_neg (by decide), if_pos trivial]
  all_goals simp only [nI_1]
  all_goals rfl
theorem rn_0_2 (rr : Int32 → Int32 → Int32 → Int32 → (Nat → Int32) → Int32 → Int32 → Int32 → Option (Int32 × (Nat → Int32) × Int32)) (a : Int32) {d m : Nat} (hd : d ≤ 30) (hm : m < 24) (tr : Nat → Int32) (A_self A_kindOfSelf : Int32) :
    f_X0_run rr (nI 0) (nI 2) a (nI d) tr (nI m) A_self A_kindOfSelf = some (a ^^^ A_self, upd tr m 11, nI (m + 1)) := by
  have h1 : f_X0_ownerOf (nI 0) (nI 2) = some (nI 0) := by decide +kernel
  have h2 : zOWN (Int32.toNatClampNeg (4 * nI 0 + nI 2)) = 11 := by decide +kernel
  have h3 : zABOVE (Int32.toNatClampNeg (nI 0)) = -1 := by decide +kernel
  have e : (30 : Int32) = nI 30 := rfl
  have e4 : (4 : Int32) = nI 4 := rfl
  unfold f_X0_run
  simp only [h1, bd_of, h2, h3]
  rw [if_neg (by decide), if_pos (by rw [e, le_nI (by omega) (by decide)]; exact hd), ix_nI (by decide) (by decide), e4, pk_mul, nI_add, ix_nI (by decide) (by decide), s_note hm]
  simp only [bd_of]
  rw [if_neg (by decide), if_neg (by decide), if_neg (by decide), if_pos trivial]
  all_goals simp only [nI_1]
  all_goals rfl
theorem rn_0_3 (rr : Int32 → Int32 → Int32 → Int32 → (Nat → Int32) → Int32 → Int32 → Int32 → Option (Int32 × (Nat → Int32) × Int32)) (a : Int32) {d m : Nat} (hd : d ≤ 30) (hm : m < 24) (tr : Nat → Int32) (A_self A_kindOfSelf : Int32) :
    f_X0_run rr (nI 0) (nI 3) a (nI d) tr (nI m) A_self A_kindOfSelf = bd (rr A_kindOfSelf (nI 1) a (nI (d + 1)) (upd tr m 2) (nI (m + 1)) A_self A_kindOfSelf) fun u => bd (rr A_kindOfSelf (nI 2) 1 (nI (d + 1)) u.2.1 u.2.2 A_self A_kindOfSelf) fun w => some (u.1 - w.1, w.2.1, w.2.2) := by
  have h1 : f_X0_ownerOf (nI 0) (nI 3) = some (nI 0) := by decide +kernel
  have h2 : zOWN (Int32.toNatClampNeg (4 * nI 0 + nI 3)) = 2 := by decide +kernel
  have h3 : zABOVE (Int32.toNatClampNeg (nI 0)) = -1 := by decide +kernel
  have e : (30 : Int32) = nI 30 := rfl
  have e4 : (4 : Int32) = nI 4 := rfl
  unfold f_X0_run
  simp only [h1, bd_of, h2, h3]
  rw [if_neg (by decide), if_pos (by rw [e, le_nI (by omega) (by decide)]; exact hd), ix_nI (by decide) (by decide), e4, pk_mul, nI_add, ix_nI (by decide) (by decide), s_note hm]
  simp only [bd_of]
  rw [if_neg (by decide), if_pos trivial]
  all_goals simp only [nI_1]
  all_goals rfl
theorem rn_1_0 (rr : Int32 → Int32 → Int32 → Int32 → (Nat → Int32) → Int32 → Int32 → Int32 → Option (Int32 × (Nat → Int32) × Int32)) (a : Int32) {d m : Nat} (hd : d ≤ 30) (hm : m < 24) (tr : Nat → Int32) (A_self A_kindOfSelf : Int32) :
    f_X0_run rr (nI 1) (nI 0) a (nI d) tr (nI m) A_self A_kindOfSelf = bd (rr (nI 0) (nI 0) a (nI (d + 1)) (upd tr m 20) (nI (m + 1)) A_self A_kindOfSelf) fun u => some (u.1 + 3, u.2.1, u.2.2) := by
  have h1 : f_X0_ownerOf (nI 1) (nI 0) = some (nI 1) := by decide +kernel
  have h2 : zOWN (Int32.toNatClampNeg (4 * nI 1 + nI 0)) = 20 := by decide +kernel
  have h3 : zABOVE (Int32.toNatClampNeg (nI 1)) = nI 0 := by decide +kernel
  have e : (30 : Int32) = nI 30 := rfl
  have e4 : (4 : Int32) = nI 4 := rfl
  unfold f_X0_run
  simp only [h1, bd_of, h2, h3]
  rw [if_neg (by decide), if_pos (by rw [e, le_nI (by omega) (by decide)]; exact hd), ix_nI (by decide) (by decide), e4, pk_mul, nI_add, ix_nI (by decide) (by decide), s_note hm]
  simp only [bd_of]
  rw [if_neg (by decide), if_neg (by decide), if_neg (by decide), if_neg (by decide), if_pos trivial]
  all_goals simp only [nI_1]
  all_goals rfl
theorem rn_1_1 (rr : Int32 → Int32 → Int32 → Int32 → (Nat → Int32) → Int32 → Int32 → Int32 → Option (Int32 × (Nat → Int32) × Int32)) (a : Int32) {d m : Nat} (hd : d ≤ 30) (hm : m < 24) (tr : Nat → Int32) (A_self A_kindOfSelf : Int32) :
    f_X0_run rr (nI 1) (nI 1) a (nI d) tr (nI m) A_self A_kindOfSelf = bd (rr A_kindOfSelf (nI 0) a (nI (d + 1)) (upd tr m 10) (nI (m + 1)) A_self A_kindOfSelf) fun u => some (u.1 * 2, u.2.1, u.2.2) := by
  have h1 : f_X0_ownerOf (nI 1) (nI 1) = some (nI 0) := by decide +kernel
  have h2 : zOWN (Int32.toNatClampNeg (4 * nI 0 + nI 1)) = 10 := by decide +kernel
  have h3 : zABOVE (Int32.toNatClampNeg (nI 0)) = -1 := by decide +kernel
  have e : (30 : Int32) = nI 30 := rfl
  have e4 : (4 : Int32) = nI 4 := rfl
  unfold f_X0_run
  simp only [h1, bd_of, h2, h3]
  rw [if_neg (by decide), if_pos (by rw [e, le_nI (by omega) (by decide)]; exact hd), ix_nI (by decide) (by decide), e4, pk_mul, nI_add, ix_nI (by decide) (by decide), s_note hm]
  simp only [bd_of]
  rw [if_neg (by decide), if_neg (by decide), if_pos trivial]
  all_goals simp only [nI_1]
  all_goals rfl
theorem rn_1_2 (rr : Int32 → Int32 → Int32 → Int32 → (Nat → Int32) → Int32 → Int32 → Int32 → Option (Int32 × (Nat → Int32) × Int32)) (a : Int32) {d m : Nat} (hd : d ≤ 30) (hm : m < 24) (tr : Nat → Int32) (A_self A_kindOfSelf : Int32) :
    f_X0_run rr (nI 1) (nI 2) a (nI d) tr (nI m) A_self A_kindOfSelf = some (a ^^^ A_self, upd tr m 11, nI (m + 1)) := by
  have h1 : f_X0_ownerOf (nI 1) (nI 2) = some (nI 0) := by decide +kernel
  have h2 : zOWN (Int32.toNatClampNeg (4 * nI 0 + nI 2)) = 11 := by decide +kernel
  have h3 : zABOVE (Int32.toNatClampNeg (nI 0)) = -1 := by decide +kernel
  have e : (30 : Int32) = nI 30 := rfl
  have e4 : (4 : Int32) = nI 4 := rfl
  unfold f_X0_run
  simp only [h1, bd_of, h2, h3]
  rw [if_neg (by decide), if_pos (by rw [e, le_nI (by omega) (by decide)]; exact hd), ix_nI (by decide) (by decide), e4, pk_mul, nI_add, ix_nI (by decide) (by decide), s_note hm]
  simp only [bd_of]
  rw [if_neg (by decide), if_neg (by decide), if_neg (by decide), if_pos trivial]
  all_goals simp only [nI_1]
  all_goals rfl
theorem rn_1_3 (rr : Int32 → Int32 → Int32 → Int32 → (Nat → Int32) → Int32 → Int32 → Int32 → Option (Int32 × (Nat → Int32) × Int32)) (a : Int32) {d m : Nat} (hd : d ≤ 30) (hm : m < 24) (tr : Nat → Int32) (A_self A_kindOfSelf : Int32) :
    f_X0_run rr (nI 1) (nI 3) a (nI d) tr (nI m) A_self A_kindOfSelf = bd (rr A_kindOfSelf (nI 1) a (nI (d + 1)) (upd tr m 2) (nI (m + 1)) A_self A_kindOfSelf) fun u => bd (rr A_kindOfSelf (nI 2) 1 (nI (d + 1)) u.2.1 u.2.2 A_self A_kindOfSelf) fun w => some (u.1 - w.1, w.2.1, w.2.2) := by
  have h1 : f_X0_ownerOf (nI 1) (nI 3) = some (nI 0) := by decide +kernel
  have h2 : zOWN (Int32.toNatClampNeg (4 * nI 0 + nI 3)) = 2 := by decide +kernel
  have h3 : zABOVE (Int32.toNatClampNeg (nI 0)) = -1 := by decide +kernel
  have e : (30 : Int32) = nI 30 := rfl
  have e4 : (4 : Int32) = nI 4 := rfl
  unfold f_X0_run
  simp only [h1, bd_of, h2, h3]
  rw [if_neg (by decide), if_pos (by rw [e, le_nI (by omega) (by decide)]; exact hd), ix_nI (by decide) (by decide), e4, pk_mul, nI_add, ix_nI (by decide) (by decide), s_note hm]
  simp only [bd_of]
  rw [if_neg (by decide), if_pos trivial]
  all_goals simp only [nI_1]
  all_goals rfl
theorem rn_2_0 (rr : Int32 → Int32 → Int32 → Int32 → (Nat → Int32) → Int32 → Int32 → Int32 → Option (Int32 × (Nat → Int32) × Int32)) (a : Int32) {d m : Nat} (hd : d ≤ 30) (hm : m < 24) (tr : Nat → Int32) (A_self A_kindOfSelf : Int32) :
    f_X0_run rr (nI 2) (nI 0) a (nI d) tr (nI m) A_self A_kindOfSelf = some (a + A_self, upd tr m 1, nI (m + 1)) := by
  have h1 : f_X0_ownerOf (nI 2) (nI 0) = some (nI 0) := by decide +kernel
  have h2 : zOWN (Int32.toNatClampNeg (4 * nI 0 + nI 0)) = 1 := by decide +kernel
  have h3 : zABOVE (Int32.toNatClampNeg (nI 0)) = -1 := by decide +kernel
  have e : (30 : Int32) = nI 30 := rfl
  have e4 : (4 : Int32) = nI 4 := rfl
  unfold f_X0_run
  simp only [h1, bd_of, h2, h3]
  rw [if_neg (by decide), if_pos (by rw [e, le_nI (by omega) (by decide)]; exact hd), ix_nI (by decide) (by decide), e4, pk_mul, nI_add, ix_nI (by decide) (by decide), s_note hm]
  simp only [bd_of]
  rw [if_pos trivial]
  all_goals simp only [nI_1]
  all_goals rfl
theorem rn_2_1 (rr : Int32 → Int32 → Int32 → Int32 → (Nat → Int32) → Int32 → Int32 → Int32 → Option (Int32 × (Nat → Int32) × Int32)) (a : Int32) {d m : Nat} (hd : d ≤ 30) (hm : m < 24) (tr : Nat → Int32) (A_self A_kindOfSelf : Int32) :
    f_X0_run rr (nI 2) (nI 1) a (nI d) tr (nI m) A_self A_kindOfSelf = bd (rr (nI 0) (nI 1) a (nI (d + 1)) (upd tr m 30) (nI (m + 1)) A_self A_kindOfSelf) fun u => some (-u.1, u.2.1, u.2.2) := by
  have h1 : f_X0_ownerOf (nI 2) (nI 1) = some (nI 2) := by decide +kernel
  have h2 : zOWN (Int32.toNatClampNeg (4 * nI 2 + nI 1)) = 30 := by decide +kernel
  have h3 : zABOVE (Int32.toNatClampNeg (nI 2)) = nI 0 := by decide +kernel
  have e : (30 : Int32) = nI 30 := rfl
  have e4 : (4 : Int32) = nI 4 := rfl
  unfold f_X0_run
  simp only [h1, bd_of, h2, h3]
  rw [if_neg (by decide), if_pos (by rw [e, le_nI (by omega) (by decide)]; exact hd), ix_nI (by decide) (by decide), e4, pk_mul, nI_add, ix_nI (by decide) (by decide), s_note hm]
  simp only [bd_of]
  rw [if_neg (by decide), if_neg (by decide), if_neg (by decide), if_neg (by decide), if_neg (by decide), if_pos trivial]
  all_goals simp only [nI_1]
  all_goals rfl
theorem rn_2_2 (rr : Int32 → Int32 → Int32 → Int32 → (Nat → Int32) → Int32 → Int32 → Int32 → Option (Int32 × (Nat → Int32) × Int32)) (a : Int32) {d m : Nat} (hd : d ≤ 30) (hm : m < 24) (tr : Nat → Int32) (A_self A_kindOfSelf : Int32) :
    f_X0_run rr (nI 2) (nI 2) a (nI d) tr (nI m) A_self A_kindOfSelf = some (a ^^^ A_self, upd tr m 11, nI (m + 1)) := by
  have h1 : f_X0_ownerOf (nI 2) (nI 2) = some (nI 0) := by decide +kernel
  have h2 : zOWN (Int32.toNatClampNeg (4 * nI 0 + nI 2)) = 11 := by decide +kernel
  have h3 : zABOVE (Int32.toNatClampNeg (nI 0)) = -1 := by decide +kernel
  have e : (30 : Int32) = nI 30 := rfl
  have e4 : (4 : Int32) = nI 4 := rfl
  unfold f_X0_run
  simp only [h1, bd_of, h2, h3]
  rw [if_neg (by decide), if_pos (by rw [e, le_nI (by omega) (by decide)]; exact hd), ix_nI (by decide) (by decide), e4, pk_mul, nI_add, ix_nI (by decide) (by decide), s_note hm]
  simp only [bd_of]
  rw [if_neg (by decide), if_neg (by decide), if_neg (by decide), if_pos trivial]
  all_goals simp only [nI_1]
  all_goals rfl
theorem rn_2_3 (rr : Int32 → Int32 → Int32 → Int32 → (Nat → Int32) → Int32 → Int32 → Int32 → Option (Int32 × (Nat → Int32) × Int32)) (a : Int32) {d m : Nat} (hd : d ≤ 30) (hm : m < 24) (tr : Nat → Int32) (A_self A_kindOfSelf : Int32) :
    f_X0_run rr (nI 2) (nI 3) a (nI d) tr (nI m) A_self A_kindOfSelf = bd (rr A_kindOfSelf (nI 1) a (nI (d + 1)) (upd tr m 2) (nI (m + 1)) A_self A_kindOfSelf) fun u => bd (rr A_kindOfSelf (nI 2) 1 (nI (d + 1)) u.2.1 u.2.2 A_self A_kindOfSelf) fun w => some (u.1 - w.1, w.2.1, w.2.2) := by
  have h1 : f_X0_ownerOf (nI 2) (nI 3) = some (nI 0) := by decide +kernel
  have h2 : zOWN (Int32.toNatClampNeg (4 * nI 0 + nI 3)) = 2 := by decide +kernel
  have h3 : zABOVE (Int32.toNatClampNeg (nI 0)) = -1 := by decide +kernel
  have e : (30 : Int32) = nI 30 := rfl
  have e4 : (4 : Int32) = nI 4 := rfl
  unfold f_X0_run
  simp only [h1, bd_of, h2, h3]
  rw [if_neg (by decide), if_pos (by rw [e, le_nI (by omega) (by decide)]; exact hd), ix_nI (by decide) (by decide), e4, pk_mul, nI_add, ix_nI (by decide) (by decide), s_note hm]
  simp only [bd_of]
  rw [if_neg (by decide), if_pos trivial]
  all_goals simp only [nI_1]
  all_goals rfl
theorem rn_3_0 (rr : Int32 → Int32 → Int32 → Int32 → (Nat → Int32) → Int32 → Int32 → Int32 → Option (Int32 × (Nat → Int32) × Int32)) (a : Int32) {d m : Nat} (hd : d ≤ 30) (hm : m < 24) (tr : Nat → Int32) (A_self A_kindOfSelf : Int32) :
    f_X0_run rr (nI 3) (nI 0) a (nI d) tr (nI m) A_self A_kindOfSelf = some (a + A_self, upd tr m 1, nI (m + 1)) := by
  have h1 : f_X0_ownerOf (nI 3) (nI 0) = some (nI 0) := by decide +kernel
  have h2 : zOWN (Int32.toNatClampNeg (4 * nI 0 + nI 0)) = 1 := by decide +kernel
  have h3 : zABOVE (Int32.toNatClampNeg (nI 0)) = -1 := by decide +kernel
  have e : (30 : Int32) = nI 30 := rfl
  have e4 : (4 : Int32) = nI 4 := rfl
  unfold f_X0_run
  simp only [h1, bd_of, h2, h3]
  rw [if_neg (by decide), if_pos (by rw [e, le_nI (by omega) (by decide)]; exact hd), ix_nI (by decide) (by decide), e4, pk_mul, nI_add, ix_nI (by decide) (by decide), s_note hm]
  simp only [bd_of]
  rw [if_pos trivial]
  all_goals simp only [nI_1]
  all_goals rfl
theorem rn_3_1 (rr : Int32 → Int32 → Int32 → Int32 → (Nat → Int32) → Int32 → Int32 → Int32 → Option (Int32 × (Nat → Int32) × Int32)) (a : Int32) {d m : Nat} (hd : d ≤ 30) (hm : m < 24) (tr : Nat → Int32) (A_self A_kindOfSelf : Int32) :
    f_X0_run rr (nI 3) (nI 1) a (nI d) tr (nI m) A_self A_kindOfSelf = bd (rr (nI 2) (nI 1) (a + 1) (nI (d + 1)) (upd tr m 41) (nI (m + 1)) A_self A_kindOfSelf) fun u => some (u.1, u.2.1, u.2.2) := by
  have h1 : f_X0_ownerOf (nI 3) (nI 1) = some (nI 3) := by decide +kernel
  have h2 : zOWN (Int32.toNatClampNeg (4 * nI 3 + nI 1)) = 41 := by decide +kernel
  have h3 : zABOVE (Int32.toNatClampNeg (nI 3)) = nI 2 := by decide +kernel
  have e : (30 : Int32) = nI 30 := rfl
  have e4 : (4 : Int32) = nI 4 := rfl
  unfold f_X0_run
  simp only [h1, bd_of, h2, h3]
  rw [if_neg (by decide), if_pos (by rw [e, le_nI (by omega) (by decide)]; exact hd), ix_nI (by decide) (by decide), e4, pk_mul, nI_add, ix_nI (by decide) (by decide), s_note hm]
  simp only [bd_of]
  rw [if_neg (by decide), if_neg (by decide), if_neg (by decide), if_neg (by decide), if_neg (by decide), if_neg (by decide), if_neg (by decide), if_pos trivial]
  all_goals simp only [nI_1]
  all_goals rfl
theorem rn_3_2 (rr : Int32 → Int32 → Int32 → Int32 → (Nat → Int32) → Int32 → Int32 → Int32 → Option (Int32 × (Nat → Int32) × Int32)) (a : Int32) {d m : Nat} (hd : d ≤ 30) (hm : m < 24) (tr : Nat → Int32) (A_self A_kindOfSelf : Int32) :
    f_X0_run rr (nI 3) (nI 2) a (nI d) tr (nI m) A_self A_kindOfSelf = bd (rr (nI 2) (nI 2) a (nI (d + 1)) (upd tr m 40) (nI (m + 1)) A_self A_kindOfSelf) fun u => some (u.1 * 3, u.2.1, u.2.2) := by
  have h1 : f_X0_ownerOf (nI 3) (nI 2) = some (nI 3) := by decide +kernel
  have h2 : zOWN (Int32.toNatClampNeg (4 * nI 3 + nI 2)) = 40 := by decide +kernel
  have h3 : zABOVE (Int32.toNatClampNeg (nI 3)) = nI 2 := by decide +kernel
  have e : (30 : Int32) = nI 30 := rfl
  have e4 : (4 : Int32) = nI 4 := rfl
  unfold f_X0_run
  simp only [h1, bd_of, h2, h3]
  rw [if_neg (by decide), if_pos (by rw [e, le_nI (by omega) (by decide)]; exact hd), ix_nI (by decide) (by decide), e4, pk_mul, nI_add, ix_nI (by decide) (by decide), s_note hm]
  simp only [bd_of]
  rw [if_neg (by decide), if_neg (by decide), if_neg (by decide), if_neg (by decide), if_neg (by decide), if_neg (by decide), if_pos trivial]
  all_goals simp only [nI_1]
  all_goals rfl
theorem rn_3_3 (rr : Int32 → Int32 → Int32 → Int32 → (Nat → Int32) → Int32 → Int32 → Int32 → Option (Int32 × (Nat → Int32) × Int32)) (a : Int32) {d m : Nat} (hd : d ≤ 30) (hm : m < 24) (tr : Nat → Int32) (A_self A_kindOfSelf : Int32) :
    f_X0_run rr (nI 3) (nI 3) a (nI d) tr (nI m) A_self A_kindOfSelf = bd (rr A_kindOfSelf (nI 1) a (nI (d + 1)) (upd tr m 2) (nI (m + 1)) A_self A_kindOfSelf) fun u => bd (rr A_kindOfSelf (nI 2) 1 (nI (d + 1)) u.2.1 u.2.2 A_self A_kindOfSelf) fun w => some (u.1 - w.1, w.2.1, w.2.2) := by
  have h1 : f_X0_ownerOf (nI 3) (nI 3) = some (nI 0) := by decide +kernel
  have h2 : zOWN (Int32.toNatClampNeg (4 * nI 0 + nI 3)) = 2 := by decide +kernel
  have h3 : zABOVE (Int32.toNatClampNeg (nI 0)) = -1 := by decide +kernel
  have e : (30 : Int32) = nI 30 := rfl
  have e4 : (4 : Int32) = nI 4 := rfl
  unfold f_X0_run
  simp only [h1, bd_of, h2, h3]
  rw [if_neg (by decide), if_pos (by rw [e, le_nI (by omega) (by decide)]; exact hd), ix_nI (by decide) (by decide), e4, pk_mul, nI_add, ix_nI (by decide) (by decide), s_note hm]
  simp only [bd_of]
  rw [if_neg (by decide), if_pos trivial]
  all_goals simp only [nI_1]
  all_goals rfl
theorem rn_4_0 (rr : Int32 → Int32 → Int32 → Int32 → (Nat → Int32) → Int32 → Int32 → Int32 → Option (Int32 × (Nat → Int32) × Int32)) (a : Int32) {d m : Nat} (hd : d ≤ 30) (hm : m < 24) (tr : Nat → Int32) (A_self A_kindOfSelf : Int32) :
    f_X0_run rr (nI 4) (nI 0) a (nI d) tr (nI m) A_self A_kindOfSelf = bd (rr (nI 0) (nI 0) a (nI (d + 1)) (upd tr m 20) (nI (m + 1)) A_self A_kindOfSelf) fun u => some (u.1 + 3, u.2.1, u.2.2) := by
  have h1 : f_X0_ownerOf (nI 4) (nI 0) = some (nI 1) := by decide +kernel
  have h2 : zOWN (Int32.toNatClampNeg (4 * nI 1 + nI 0)) = 20 := by decide +kernel
  have h3 : zABOVE (Int32.toNatClampNeg (nI 1)) = nI 0 := by decide +kernel
  have e : (30 : Int32) = nI 30 := rfl
  have e4 : (4 : Int32) = nI 4 := rfl
  unfold f_X0_run
  simp only [h1, bd_of, h2, h3]
  rw [if_neg (by decide), if_pos (by rw [e, le_nI (by omega) (by decide)]; exact hd), ix_nI (by decide) (by decide), e4, pk_mul, nI_add, ix_nI (by decide) (by decide), s_note hm]
  simp only [bd_of]
  rw [if_neg (by decide), if_neg (by decide), if_neg (by decide), if_neg (by decide), if_pos trivial]
  all_goals simp only [nI_1]
  all_goals rfl
theorem rn_4_1 (rr : Int32 → Int32 → Int32 → Int32 → (Nat → Int32) → Int32 → Int32 → Int32 → Option (Int32 × (Nat → Int32) × Int32)) (a : Int32) {d m : Nat} (hd : d ≤ 30) (hm : m < 24) (tr : Nat → Int32) (A_self A_kindOfSelf : Int32) :
    f_X0_run rr (nI 4) (nI 1) a (nI d) tr (nI m) A_self A_kindOfSelf = bd (rr A_kindOfSelf (nI 0) a (nI (d + 1)) (upd tr m 10) (nI (m + 1)) A_self A_kindOfSelf) fun u => some (u.1 * 2, u.2.1, u.2.2) := by
  have h1 : f_X0_ownerOf (nI 4) (nI 1) = some (nI 0) := by decide +kernel
  have h2 : zOWN (Int32.toNatClampNeg (4 * nI 0 + nI 1)) = 10 := by decide +kernel
  have h3 : zABOVE (Int32.toNatClampNeg (nI 0)) = -1 := by decide +kernel
  have e : (30 : Int32) = nI 30 := rfl
  have e4 : (4 : Int32) = nI 4 := rfl
  unfold f_X0_run
  simp only [h1, bd_of, h2, h3]
  rw [if_neg (by decide), if_pos (by rw [e, le_nI (by omega) (by decide)]; exact hd), ix_nI (by decide) (by decide), e4, pk_mul, nI_add, ix_nI (by decide) (by decide), s_note hm]
  simp only [bd_of]
  rw [if_neg (by decide), if_neg (by decide), if_pos trivial]
  all_goals simp only [nI_1]
  all_goals rfl
theorem rn_4_2 (rr : Int32 → Int32 → Int32 → Int32 → (Nat → Int32) → Int32 → Int32 → Int32 → Option (Int32 × (Nat → Int32) × Int32)) (a : Int32) {d m : Nat} (hd : d ≤ 30) (hm : m < 24) (tr : Nat → Int32) (A_self A_kindOfSelf : Int32) :
    f_X0_run rr (nI 4) (nI 2) a (nI d) tr (nI m) A_self A_kindOfSelf = some (a ^^^ A_self, upd tr m 11, nI (m + 1)) := by
  have h1 : f_X0_ownerOf (nI 4) (nI 2) = some (nI 0) := by decide +kernel
  have h2 : zOWN (Int32.toNatClampNeg (4 * nI 0 + nI 2)) = 11 := by decide +kernel
  have h3 : zABOVE (Int32.toNatClampNeg (nI 0)) = -1 := by decide +kernel
  have e : (30 : Int32) = nI 30 := rfl
  have e4 : (4 : Int32) = nI 4 := rfl
  unfold f_X0_run
  simp only [h1, bd_of, h2, h3]
  rw [if_neg (by decide), if_pos (by rw [e, le_nI (by omega) (by decide)]; exact hd), ix_nI (by decide) (by decide), e4, pk_mul, nI_add, ix_nI (by decide) (by decide), s_note hm]
  simp only [bd_of]
  rw [if_neg (by decide), if_neg (by decide), if_neg (by decide), if_pos trivial]
  all_goals simp only [nI_1]
  all_goals rfl
theorem rn_4_3 (rr : Int32 → Int32 → Int32 → Int32 → (Nat → Int32) → Int32 → Int32 → Int32 → Option (Int32 × (Nat → Int32) × Int32)) (a : Int32) {d m : Nat} (hd : d ≤ 30) (hm : m < 24) (tr : Nat → Int32) (A_self A_kindOfSelf : Int32) :
    f_X0_run rr (nI 4) (nI 3) a (nI d) tr (nI m) A_self A_kindOfSelf = bd (rr (nI 1) (nI 3) a (nI (d + 1)) (upd tr m 50) (nI (m + 1)) A_self A_kindOfSelf) fun u => some (u.1 ^^^ 5, u.2.1, u.2.2) := by
  have h1 : f_X0_ownerOf (nI 4) (nI 3) = some (nI 4) := by decide +kernel
  have h2 : zOWN (Int32.toNatClampNeg (4 * nI 4 + nI 3)) = 50 := by decide +kernel
  have h3 : zABOVE (Int32.toNatClampNeg (nI 4)) = nI 1 := by decide +kernel
  have e : (30 : Int32) = nI 30 := rfl
  have e4 : (4 : Int32) = nI 4 := rfl
  unfold f_X0_run
  simp only [h1, bd_of, h2, h3]
  rw [if_neg (by decide), if_pos (by rw [e, le_nI (by omega) (by decide)]; exact hd), ix_nI (by decide) (by decide), e4, pk_mul, nI_add, ix_nI (by decide) (by decide), s_note hm]
  simp only [bd_of]
  rw [if_neg (by decide), if_neg (by decide), if_neg (by decide), if_neg (by decide), if_neg (by decide), if_neg (by decide), if_neg (by decide), if_neg (by decide), if_pos trivial]
  all_goals simp only [nI_1]
  all_goals rfl
theorem rn_5_0 (rr : Int32 → Int32 → Int32 → Int32 → (Nat → Int32) → Int32 → Int32 → Int32 → Option (Int32 × (Nat → Int32) × Int32)) (a : Int32) {d m : Nat} (hd : d ≤ 30) (hm : m < 24) (tr : Nat → Int32) (A_self A_kindOfSelf : Int32) :
    f_X0_run rr (nI 5) (nI 0) a (nI d) tr (nI m) A_self A_kindOfSelf = bd (rr (nI 0) (nI 0) a (nI (d + 1)) (upd tr m 20) (nI (m + 1)) A_self A_kindOfSelf) fun u => some (u.1 + 3, u.2.1, u.2.2) := by
  have h1 : f_X0_ownerOf (nI 5) (nI 0) = some (nI 1) := by decide +kernel
  have h2 : zOWN (Int32.toNatClampNeg (4 * nI 1 + nI 0)) = 20 := by decide +kernel
  have h3 : zABOVE (Int32.toNatClampNeg (nI 1)) = nI 0 := by decide +kernel
  have e : (30 : Int32) = nI 30 := rfl
  have e4 : (4 : Int32) = nI 4 := rfl
  unfold f_X0_run
  simp only [h1, bd_of, h2, h3]
  rw [if_neg (by decide), if_pos (by rw [e, le_nI (by omega) (by decide)]; exact hd), ix_nI (by decide) (by decide), e4, pk_mul, nI_add, ix_nI (by decide) (by decide), s_note hm]
  simp only [bd_of]
  rw [if_neg (by decide), if_neg (by decide), if_neg (by decide), if_neg (by decide), if_pos trivial]
  all_goals simp only [nI_1]
  all_goals rfl
theorem rn_5_1 (rr : Int32 → Int32 → Int32 → Int32 → (Nat → Int32) → Int32 → Int32 → Int32 → Option (Int32 × (Nat → Int32) × Int32)) (a : Int32) {d m : Nat} (hd : d ≤ 30) (hm : m < 24) (tr : Nat → Int32) (A_self A_kindOfSelf : Int32) :
    f_X0_run rr (nI 5) (nI 1) a (nI d) tr (nI m) A_self A_kindOfSelf = bd (rr A_kindOfSelf (nI 0) a (nI (d + 1)) (upd tr m 10) (nI (m + 1)) A_self A_kindOfSelf) fun u => some (u.1 * 2, u.2.1, u.2.2) := by
  have h1 : f_X0_ownerOf (nI 5) (nI 1) = some (nI 0) := by decide +kernel
  have h2 : zOWN (Int32.toNatClampNeg (4 * nI 0 + nI 1)) = 10 := by decide +kernel
  have h3 : zABOVE (Int32.toNatClampNeg (nI 0)) = -1 := by decide +kernel
  have e : (30 : Int32) = nI 30 := rfl
  have e4 : (4 : Int32) = nI 4 := rfl
  unfold f_X0_run
  simp only [h1, bd_of, h2, h3]
  rw [if_neg (by decide), if_pos (by rw [e, le_nI (by omega) (by decide)]; exact hd), ix_nI (by decide) (by decide), e4, pk_mul, nI_add, ix_nI (by decide) (by decide), s_note hm]
  simp only [bd_of]
  rw [if_neg (by decide), if_neg (by decide), if_pos trivial]
  all_goals simp only [nI_1]
  all_goals rfl
theorem rn_5_2 (rr : Int32 → Int32 → Int32 → Int32 → (Nat → Int32) → Int32 → Int32 → Int32 → Option (Int32 × (Nat → Int32) × Int32)) (a : Int32) {d m : Nat} (hd : d ≤ 30) (hm : m < 24) (tr : Nat → Int32) (A_self A_kindOfSelf : Int32) :
    f_X0_run rr (nI 5) (nI 2) a (nI d) tr (nI m) A_self A_kindOfSelf = bd (rr (nI 4) (nI 2) a (nI (d + 1)) (upd tr m 60) (nI (m + 1)) A_self A_kindOfSelf) fun u => bd (rr A_kindOfSelf (nI 0) 2 (nI (d + 1)) u.2.1 u.2.2 A_self A_kindOfSelf) fun w => some (u.1 - w.1, w.2.1, w.2.2) := by
  have h1 : f_X0_ownerOf (nI 5) (nI 2) = some (nI 5) := by decide +kernel
  have h2 : zOWN (Int32.toNatClampNeg (4 * nI 5 + nI 2)) = 60 := by decide +kernel
  have h3 : zABOVE (Int32.toNatClampNeg (nI 5)) = nI 4 := by decide +kernel
  have e : (30 : Int32) = nI 30 := rfl
  have e4 : (4 : Int32) = nI 4 := rfl
  unfold f_X0_run
  simp only [h1, bd_of, h2, h3]
  rw [if_neg (by decide), if_pos (by rw [e, le_nI (by omega) (by decide)]; exact hd), ix_nI (by decide) (by decide), e4, pk_mul, nI_add, ix_nI (by decide) (by decide), s_note hm]
  simp only [bd_of]
  rw [if_neg (by decide), if_neg (by decide), if_neg (by decide), if_neg (by decide), if_neg (by decide), if_neg (by decide), if_neg (by decide), if_neg (by decide), if_neg (by decide), if_pos trivial]
  all_goals simp only [nI_1]
  all_goals rfl
theorem rn_5_3 (rr : Int32 → Int32 → Int32 → Int32 → (Nat → Int32) → Int32 → Int32 → Int32 → Option (Int32 × (Nat → Int32) × Int32)) (a : Int32) {d m : Nat} (hd : d ≤ 30) (hm : m < 24) (tr : Nat → Int32) (A_self A_kindOfSelf : Int32) :
    f_X0_run rr (nI 5) (nI 3) a (nI d) tr (nI m) A_self A_kindOfSelf = bd (rr (nI 4) (nI 3) a (nI (d + 1)) (upd tr m 61) (nI (m + 1)) A_self A_kindOfSelf) fun u => some (u.1 + 1, u.2.1, u.2.2) := by
  have h1 : f_X0_ownerOf (nI 5) (nI 3) = some (nI 5) := by decide +kernel
  have h2 : zOWN (Int32.toNatClampNeg (4 * nI 5 + nI 3)) = 61 := by decide +kernel
  have h3 : zABOVE (Int32.toNatClampNeg (nI 5)) = nI 4 := by decide +kernel
  have e : (30 : Int32) = nI 30 := rfl
  have e4 : (4 : Int32) = nI 4 := rfl
  unfold f_X0_run
  simp only [h1, bd_of, h2, h3]
  rw [if_neg (by decide), if_pos (by rw [e, le_nI (by omega) (by decide)]; exact hd), ix_nI (by decide) (by decide), e4, pk_mul, nI_add, ix_nI (by decide) (by decide), s_note hm]
  simp only [bd_of]
  rw [if_neg (by decide), if_neg (by decide), if_neg (by decide), if_neg (by decide), if_neg (by decide), if_neg (by decide), if_neg (by decide), if_neg (by decide), if_neg (by decide), if_neg (by decide), if_pos trivial]
  all_goals simp only [nI_1]
  all_goals rfl
theorem rn_6_0 (rr : Int32 → Int32 → Int32 → Int32 → (Nat → Int32) → Int32 → Int32 → Int32 → Option (Int32 × (Nat → Int32) × Int32)) (a : Int32) {d m : Nat} (hd : d ≤ 30) (hm : m < 24) (tr : Nat → Int32) (A_self A_kindOfSelf : Int32) :
    f_X0_run rr (nI 6) (nI 0) a (nI d) tr (nI m) A_self A_kindOfSelf = bd (rr (nI 0) (nI 0) a (nI (d + 1)) (upd tr m 70) (nI (m + 1)) A_self A_kindOfSelf) fun u => some (u.1 * 2, u.2.1, u.2.2) := by
  have h1 : f_X0_ownerOf (nI 6) (nI 0) = some (nI 6) := by decide +kernel
  have h2 : zOWN (Int32.toNatClampNeg (4 * nI 6 + nI 0)) = 70 := by decide +kernel
  have h3 : zABOVE (Int32.toNatClampNeg (nI 6)) = nI 0 := by decide +kernel
  have e : (30 : Int32) = nI 30 := rfl
  have e4 : (4 : Int32) = nI 4 := rfl
  unfold f_X0_run
  simp only [h1, bd_of, h2, h3]
  rw [if_neg (by decide), if_pos (by rw [e, le_nI (by omega) (by decide)]; exact hd), ix_nI (by decide) (by decide), e4, pk_mul, nI_add, ix_nI (by decide) (by decide), s_note hm]
  simp only [bd_of]
  rw [if_neg (by decide), if_neg (by decide), if_neg (by decide), if_neg (by decide), if_neg (by decide), if_neg (by decide), if_neg (by decide), if_neg (by decide), if_neg (by decide), if_neg (by decide), if_neg (by decide), if_pos trivial]
  all_goals simp only [nI_1]
  all_goals rfl
theorem rn_6_1 (rr : Int32 → Int32 → Int32 → Int32 → (Nat → Int32) → Int32 → Int32 → Int32 → Option (Int32 × (Nat → Int32) × Int32)) (a : Int32) {d m : Nat} (hd : d ≤ 30) (hm : m < 24) (tr : Nat → Int32) (A_self A_kindOfSelf : Int32) :
    f_X0_run rr (nI 6) (nI 1) a (nI d) tr (nI m) A_self A_kindOfSelf = bd (rr A_kindOfSelf (nI 0) a (nI (d + 1)) (upd tr m 10) (nI (m + 1)) A_self A_kindOfSelf) fun u => some (u.1 * 2, u.2.1, u.2.2) := by
  have h1 : f_X0_ownerOf (nI 6) (nI 1) = some (nI 0) := by decide +kernel
  have h2 : zOWN (Int32.toNatClampNeg (4 * nI 0 + nI 1)) = 10 := by decide +kernel
  have h3 : zABOVE (Int32.toNatClampNeg (nI 0)) = -1 := by decide +kernel
  have e : (30 : Int32) = nI 30 := rfl
  have e4 : (4 : Int32) = nI 4 := rfl
  unfold f_X0_run
  simp only [h1, bd_of, h2, h3]
  rw [if_neg (by decide), if_pos (by rw [e, le_nI (by omega) (by decide)]; exact hd), ix_nI (by decide) (by decide), e4, pk_mul, nI_add, ix_nI (by decide) (by decide), s_note hm]
  simp only [bd_of]
  rw [if_neg (by decide), if_neg (by decide), if_pos trivial]
  all_goals simp only [nI_1]
  all_goals rfl
theorem rn_6_2 (rr : Int32 → Int32 → Int32 → Int32 → (Nat → Int32) → Int32 → Int32 → Int32 → Option (Int32 × (Nat → Int32) × Int32)) (a : Int32) {d m : Nat} (hd : d ≤ 30) (hm : m < 24) (tr : Nat → Int32) (A_self A_kindOfSelf : Int32) :
    f_X0_run rr (nI 6) (nI 2) a (nI d) tr (nI m) A_self A_kindOfSelf = some (a ^^^ A_self, upd tr m 11, nI (m + 1)) := by
  have h1 : f_X0_ownerOf (nI 6) (nI 2) = some (nI 0) := by decide +kernel
  have h2 : zOWN (Int32.toNatClampNeg (4 * nI 0 + nI 2)) = 11 := by decide +kernel
  have h3 : zABOVE (Int32.toNatClampNeg (nI 0)) = -1 := by decide +kernel
  have e : (30 : Int32) = nI 30 := rfl
  have e4 : (4 : Int32) = nI 4 := rfl
  unfold f_X0_run
  simp only [h1, bd_of, h2, h3]
  rw [if_neg (by decide), if_pos (by rw [e, le_nI (by omega) (by decide)]; exact hd), ix_nI (by decide) (by decide), e4, pk_mul, nI_add, ix_nI (by decide) (by decide), s_note hm]
  simp only [bd_of]
  rw [if_neg (by decide), if_neg (by decide), if_neg (by decide), if_pos trivial]
  all_goals simp only [nI_1]
  all_goals rfl
theorem rn_6_3 (rr : Int32 → Int32 → Int32 → Int32 → (Nat → Int32) → Int32 → Int32 → Int32 → Option (Int32 × (Nat → Int32) × Int32)) (a : Int32) {d m : Nat} (hd : d ≤ 30) (hm : m < 24) (tr : Nat → Int32) (A_self A_kindOfSelf : Int32) :
    f_X0_run rr (nI 6) (nI 3) a (nI d) tr (nI m) A_self A_kindOfSelf = bd (rr A_kindOfSelf (nI 1) a (nI (d + 1)) (upd tr m 2) (nI (m + 1)) A_self A_kindOfSelf) fun u => bd (rr A_kindOfSelf (nI 2) 1 (nI (d + 1)) u.2.1 u.2.2 A_self A_kindOfSelf) fun w => some (u.1 - w.1, w.2.1, w.2.2) := by
  have h1 : f_X0_ownerOf (nI 6) (nI 3) = some (nI 0) := by decide +kernel
  have h2 : zOWN (Int32.toNatClampNeg (4 * nI 0 + nI 3)) = 2 := by decide +kernel
  have h3 : zABOVE (Int32.toNatClampNeg (nI 0)) = -1 := by decide +kernel
  have e : (30 : Int32) = nI 30 := rfl
  have e4 : (4 : Int32) = nI 4 := rfl
  unfold f_X0_run
  simp only [h1, bd_of, h2, h3]
  rw [if_neg (by decide), if_pos (by rw [e, le_nI (by omega) (by decide)]; exact hd), ix_nI (by decide) (by decide), e4, pk_mul, nI_add, ix_nI (by decide) (by decide), s_note hm]
  simp only [bd_of]
  rw [if_neg (by decide), if_pos trivial]
  all_goals simp only [nI_1]
  all_goals rfl
theorem rn_7_0 (rr : Int32 → Int32 → Int32 → Int32 → (Nat → Int32) → Int32 → Int32 → Int32 → Option (Int32 × (Nat → Int32) × Int32)) (a : Int32) {d m : Nat} (hd : d ≤ 30) (hm : m < 24) (tr : Nat → Int32) (A_self A_kindOfSelf : Int32) :
    f_X0_run rr (nI 7) (nI 0) a (nI d) tr (nI m) A_self A_kindOfSelf = bd (rr (nI 6) (nI 0) a (nI (d + 1)) (upd tr m 81) (nI (m + 1)) A_self A_kindOfSelf) fun u => some (u.1 - 1, u.2.1, u.2.2) := by
  have h1 : f_X0_ownerOf (nI 7) (nI 0) = some (nI 7) := by decide +kernel
  have h2 : zOWN (Int32.toNatClampNeg (4 * nI 7 + nI 0)) = 81 := by decide +kernel
  have h3 : zABOVE (Int32.toNatClampNeg (nI 7)) = nI 6 := by decide +kernel
  have e : (30 : Int32) = nI 30 := rfl
  have e4 : (4 : Int32) = nI 4 := rfl
  unfold f_X0_run
  simp only [h1, bd_of, h2, h3]
  rw [if_neg (by decide), if_pos (by rw [e, le_nI (by omega) (by decide)]; exact hd), ix_nI (by decide) (by decide), e4, pk_mul, nI_add, ix_nI (by decide) (by decide), s_note hm]
  simp only [bd_of]
  rw [if_neg (by decide), if_neg (by decide), if_neg (by decide), if_neg (by decide), if_neg (by decide), if_neg (by decide), if_neg (by decide), if_neg (by decide), if_neg (by decide), if_neg (by decide), if_neg (by decide), if_neg (by decide), if_neg (by decide)]
  all_goals simp only [nI_1]
  all_goals rfl
theorem rn_7_1 (rr : Int32 → Int32 → Int32 → Int32 → (Nat → Int32) → Int32 → Int32 → Int32 → Option (Int32 × (Nat → Int32) × Int32)) (a : Int32) {d m : Nat} (hd : d ≤ 30) (hm : m < 24) (tr : Nat → Int32) (A_self A_kindOfSelf : Int32) :
    f_X0_run rr (nI 7) (nI 1) a (nI d) tr (nI m) A_self A_kindOfSelf = bd (rr (nI 6) (nI 1) a (nI (d + 1)) (upd tr m 80) (nI (m + 1)) A_self A_kindOfSelf) fun u => bd (rr A_kindOfSelf (nI 2) 2 (nI (d + 1)) u.2.1 u.2.2 A_self A_kindOfSelf) fun w => some (u.1 + w.1, w.2.1, w.2.2) := by
  have h1 : f_X0_ownerOf (nI 7) (nI 1) = some (nI 7) := by decide +kernel
  have h2 : zOWN (Int32.toNatClampNeg (4 * nI 7 + nI 1)) = 80 := by decide +kernel
  have h3 : zABOVE (Int32.toNatClampNeg (nI 7)) = nI 6 := by decide +kernel
  have e : (30 : Int32) = nI 30 := rfl
  have e4 : (4 : Int32) = nI 4 := rfl
  unfold f_X0_run
  simp only [h1, bd_of, h2, h3]
  rw [if_neg (by decide), if_pos (by rw [e, le_nI (by omega) (by decide)]; exact hd), ix_nI (by decide) (by decide), e4, pk_mul, nI_add, ix_nI (by decide) (by decide), s_note hm]
  simp only [bd_of]
  rw [if_neg (by decide), if_neg (by decide), if_neg (by decide), if_neg (by decide), if_neg (by decide), if_neg (by decide), if_neg (by decide), if_neg (by decide), if_neg (by decide), if_neg (by decide), if_neg (by decide), if_neg (by decide), if_pos trivial]
  all_goals simp only [nI_1]
  all_goals rfl
theorem rn_7_2 (rr : Int32 → Int32 → Int32 → Int32 → (Nat → Int32) → Int32 → Int32 → Int32 → Option (Int32 × (Nat → Int32) × Int32)) (a : Int32) {d m : Nat} (hd : d ≤ 30) (hm : m < 24) (tr : Nat → Int32) (A_self A_kindOfSelf : Int32) :
    f_X0_run rr (nI 7) (nI 2) a (nI d) tr (nI m) A_self A_kindOfSelf = some (a ^^^ A_self, upd tr m 11, nI (m + 1)) := by
  have h1 : f_X0_ownerOf (nI 7) (nI 2) = some (nI 0) := by decide +kernel
  have h2 : zOWN (Int32.toNatClampNeg (4 * nI 0 + nI 2)) = 11 := by decide +kernel
  have h3 : zABOVE (Int32.toNatClampNeg (nI 0)) = -1 := by decide +kernel
  have e : (30 : Int32) = nI 30 := rfl
  have e4 : (4 : Int32) = nI 4 := rfl
  unfold f_X0_run
  simp only [h1, bd_of, h2, h3]
  rw [if_neg (by decide), if_pos (by rw [e, le_nI (by omega) (by decide)]; exact hd), ix_nI (by decide) (by decide), e4, pk_mul, nI_add, ix_nI (by decide) (by decide), s_note hm]
  simp only [bd_of]
  rw [if_neg (by decide), if_neg (by decide), if_neg (by decide), if_pos trivial]
  all_goals simp only [nI_1]
  all_goals rfl
theorem rn_7_3 (rr : Int32 → Int32 → Int32 → Int32 → (Nat → Int32) → Int32 → Int32 → Int32 → Option (Int32 × (Nat → Int32) × Int32)) (a : Int32) {d m : Nat} (hd : d ≤ 30) (hm : m < 24) (tr : Nat → Int32) (A_self A_kindOfSelf : Int32) :
    f_X0_run rr (nI 7) (nI 3) a (nI d) tr (nI m) A_self A_kindOfSelf = bd (rr A_kindOfSelf (nI 1) a (nI (d + 1)) (upd tr m 2) (nI (m + 1)) A_self A_kindOfSelf) fun u => bd (rr A_kindOfSelf (nI 2) 1 (nI (d + 1)) u.2.1 u.2.2 A_self A_kindOfSelf) fun w => some (u.1 - w.1, w.2.1, w.2.2) := by
  have h1 : f_X0_ownerOf (nI 7) (nI 3) = some (nI 0) := by decide +kernel
  have h2 : zOWN (Int32.toNatClampNeg (4 * nI 0 + nI 3)) = 2 := by decide +kernel
  have h3 : zABOVE (Int32.toNatClampNeg (nI 0)) = -1 := by decide +kernel
  have e : (30 : Int32) = nI 30 := rfl
  have e4 : (4 : Int32) = nI 4 := rfl
  unfold f_X0_run
  simp only [h1, bd_of, h2, h3]
  rw [if_neg (by decide), if_pos (by rw [e, le_nI (by omega) (by decide)]; exact hd), ix_nI (by decide) (by decide), e4, pk_mul, nI_add, ix_nI (by decide) (by decide), s_note hm]
  simp only [bd_of]
  rw [if_neg (by decide), if_pos trivial]
  all_goals simp only [nI_1]
  all_goals rfl
theorem g_run_40 : g_run 40 = f_X0_run (g_run 39) := rfl
theorem g_run_39 : g_run 39 = f_X0_run (g_run 38) := rfl
theorem g_run_38 : g_run 38 = f_X0_run (g_run 37) := rfl
theorem g_run_37 : g_run 37 = f_X0_run (g_run 36) := rfl
theorem g_run_36 : g_run 36 = f_X0_run (g_run 35) := rfl
theorem g_run_35 : g_run 35 = f_X0_run (g_run 34) := rfl
theorem g_run_34 : g_run 34 = f_X0_run (g_run 33) := rfl
theorem g_run_33 : g_run 33 = f_X0_run (g_run 32) := rfl
theorem g_run_32 : g_run 32 = f_X0_run (g_run 31) := rfl
theorem g_run_31 : g_run 31 = f_X0_run (g_run 30) := rfl
theorem g_run_30 : g_run 30 = f_X0_run (g_run 29) := rfl
theorem g_run_29 : g_run 29 = f_X0_run (g_run 28) := rfl
theorem g_run_28 : g_run 28 = f_X0_run (g_run 27) := rfl
theorem g_run_27 : g_run 27 = f_X0_run (g_run 26) := rfl
theorem g_run_26 : g_run 26 = f_X0_run (g_run 25) := rfl
theorem g_run_25 : g_run 25 = f_X0_run (g_run 24) := rfl
theorem g_run_24 : g_run 24 = f_X0_run (g_run 23) := rfl
theorem g_run_23 : g_run 23 = f_X0_run (g_run 22) := rfl
theorem g_run_22 : g_run 22 = f_X0_run (g_run 21) := rfl
theorem g_run_21 : g_run 21 = f_X0_run (g_run 20) := rfl
theorem nk_0_0 : (nI 0 = 0) = True := by decide +kernel
theorem nk_0_1 : (nI 0 = 1) = False := by decide +kernel
theorem nk_0_2 : (nI 0 = 2) = False := by decide +kernel
theorem nk_0_3 : (nI 0 = 3) = False := by decide +kernel
theorem nk_0_4 : (nI 0 = 4) = False := by decide +kernel
theorem nk_0_5 : (nI 0 = 5) = False := by decide +kernel
theorem nk_0_6 : (nI 0 = 6) = False := by decide +kernel
theorem nk_0_7 : (nI 0 = 7) = False := by decide +kernel
theorem nk_1_0 : (nI 1 = 0) = False := by decide +kernel
theorem nk_1_1 : (nI 1 = 1) = True := by decide +kernel
theorem nk_1_2 : (nI 1 = 2) = False := by decide +kernel
theorem nk_1_3 : (nI 1 = 3) = False := by decide +kernel
theorem nk_1_4 : (nI 1 = 4) = False := by decide +kernel
theorem nk_1_5 : (nI 1 = 5) = False := by decide +kernel
theorem nk_1_6 : (nI 1 = 6) = False := by decide +kernel
theorem nk_1_7 : (nI 1 = 7) = False := by decide +kernel
theorem nk_2_0 : (nI 2 = 0) = False := by decide +kernel
theorem nk_2_1 : (nI 2 = 1) = False := by decide +kernel
theorem nk_2_2 : (nI 2 = 2) = True := by decide +kernel
theorem nk_2_3 : (nI 2 = 3) = False := by decide +kernel
theorem nk_2_4 : (nI 2 = 4) = False := by decide +kernel
theorem nk_2_5 : (nI 2 = 5) = False := by decide +kernel
theorem nk_2_6 : (nI 2 = 6) = False := by decide +kernel
theorem nk_2_7 : (nI 2 = 7) = False := by decide +kernel
theorem nk_3_0 : (nI 3 = 0) = False := by decide +kernel
theorem nk_3_1 : (nI 3 = 1) = False := by decide +kernel
theorem nk_3_2 : (nI 3 = 2) = False := by decide +kernel
theorem nk_3_3 : (nI 3 = 3) = True := by decide +kernel
theorem nk_3_4 : (nI 3 = 4) = False := by decide +kernel
theorem nk_3_5 : (nI 3 = 5) = False := by decide +kernel
theorem nk_3_6 : (nI 3 = 6) = False := by decide +kernel
theorem nk_3_7 : (nI 3 = 7) = False := by decide +kernel
theorem nk_4_0 : (nI 4 = 0) = False := by decide +kernel
theorem nk_4_1 : (nI 4 = 1) = False := by decide +kernel
theorem nk_4_2 : (nI 4 = 2) = False := by decide +kernel
theorem nk_4_3 : (nI 4 = 3) = False := by decide +kernel
theorem nk_4_4 : (nI 4 = 4) = True := by decide +kernel
theorem nk_4_5 : (nI 4 = 5) = False := by decide +kernel
theorem nk_4_6 : (nI 4 = 6) = False := by decide +kernel
theorem nk_4_7 : (nI 4 = 7) = False := by decide +kernel
theorem nk_5_0 : (nI 5 = 0) = False := by decide +kernel
theorem nk_5_1 : (nI 5 = 1) = False := by decide +kernel
theorem nk_5_2 : (nI 5 = 2) = False := by decide +kernel
theorem nk_5_3 : (nI 5 = 3) = False := by decide +kernel
theorem nk_5_4 : (nI 5 = 4) = False := by decide +kernel
theorem nk_5_5 : (nI 5 = 5) = True := by decide +kernel
theorem nk_5_6 : (nI 5 = 6) = False := by decide +kernel
theorem nk_5_7 : (nI 5 = 7) = False := by decide +kernel
theorem nk_6_0 : (nI 6 = 0) = False := by decide +kernel
theorem nk_6_1 : (nI 6 = 1) = False := by decide +kernel
theorem nk_6_2 : (nI 6 = 2) = False := by decide +kernel
theorem nk_6_3 : (nI 6 = 3) = False := by decide +kernel
theorem nk_6_4 : (nI 6 = 4) = False := by decide +kernel
theorem nk_6_5 : (nI 6 = 5) = False := by decide +kernel
theorem nk_6_6 : (nI 6 = 6) = True := by decide +kernel
theorem nk_6_7 : (nI 6 = 7) = False := by decide +kernel
theorem nk_7_0 : (nI 7 = 0) = False := by decide +kernel
theorem nk_7_1 : (nI 7 = 1) = False := by decide +kernel
theorem nk_7_2 : (nI 7 = 2) = False := by decide +kernel
theorem nk_7_3 : (nI 7 = 3) = False := by decide +kernel
theorem nk_7_4 : (nI 7 = 4) = False := by decide +kernel
theorem nk_7_5 : (nI 7 = 5) = False := by decide +kernel
theorem nk_7_6 : (nI 7 = 6) = False := by decide +kernel
theorem nk_7_7 : (nI 7 = 7) = True := by decide +kernel
theorem un_0 : f_X7_isUnder (nI 0) 1 = some 0 := by decide +kernel
theorem un_1 : f_X7_isUnder (nI 1) 1 = some 1 := by decide +kernel
theorem un_2 : f_X7_isUnder (nI 2) 1 = some 0 := by decide +kernel
theorem un_3 : f_X7_isUnder (nI 3) 1 = some 0 := by decide +kernel
theorem un_4 : f_X7_isUnder (nI 4) 1 = some 1 := by decide +kernel
theorem un_5 : f_X7_isUnder (nI 5) 1 = some 1 := by decide +kernel
theorem un_6 : f_X7_isUnder (nI 6) 1 = some 0 := by decide +kernel
theorem un_7 : f_X7_isUnder (nI 7) 1 = some 0 := by decide +kernel
set_option maxRecDepth 4000 in
theorem ac_0_0 (a : Int32) {x : Nat} (hx : x < 50) (K : Nat → Int32) (hk : K x = nI 0) : ∃ v : Int32, (∀ tr, t_run (nI 0) (nI 0) a (nI 0) tr (nI 0) (nI x) (nI 0) = some (v, putl tr 0 [1], nI 1)) ∧ (∀ tr, f_X7_digs (nI x) a K (nI 0) tr = some (v, nI 1, putl tr 0 [1])) := by
  have z1 : ((1 : Int32) = 0) = False := by decide
  refine ⟨(a + nI x), fun tr => ?_, fun tr => ?_⟩
  · unfold t_run
    simp (disch := decide) only [g_run_40, g_run_39, g_run_38, g_run_37, g_run_36, g_run_35, g_run_34, g_run_33, g_run_32, g_run_31, g_run_30, g_run_29, g_run_28, g_run_27, g_run_26, g_run_25, g_run_24, g_run_23, g_run_22, g_run_21, rn_0_0, rn_0_1, rn_0_2, rn_0_3, rn_1_0, rn_1_1, rn_1_2, rn_1_3, rn_2_0, rn_2_1, rn_2_2, rn_2_3, rn_3_0, rn_3_1, rn_3_2, rn_3_3, rn_4_0, rn_4_1, rn_4_2, rn_4_3, rn_5_0, rn_5_1, rn_5_2, rn_5_3, rn_6_0, rn_6_1, rn_6_2, rn_6_3, rn_7_0, rn_7_1, rn_7_2, rn_7_3, bd_of, Nat.zero_add, Nat.reduceAdd]
    rfl
  · simp (maxSteps := 4000000) (disch := decide) only [f_X7_digs, f_X7_plainDigs, f_X7_toldDigs, f_X7_plainReaches, f_X7_evenReaches, f_X7_plainNears, f_X7_nears, f_X7_reaches, f_X7_plainTells, f_X7_lineTells, f_X7_telling, ix_nI hx (by decide), cl_nI (show x < 2 ^ 31 by omega), hk, un_0, nk_0_0, nk_0_1, nk_0_2, nk_0_3, nk_0_4, nk_0_5, nk_0_6, nk_0_7, bd_of, if_true, if_false, z1, s_ran, Nat.zero_add, Nat.reduceAdd]
    rfl
set_option maxRecDepth 4000 in
theorem ac_0_1 (a : Int32) {x : Nat} (hx : x < 50) (K : Nat → Int32) (hk : K x = nI 0) : ∃ v : Int32, (∀ tr, t_run (nI 0) (nI 1) a (nI 0) tr (nI 0) (nI x) (nI 0) = some (v, putl tr 0 [10, 1], nI 2)) ∧ (∀ tr, f_X7_reaches (nI x) a K (nI 0) tr = some (v, nI 2, putl tr 0 [10, 1])) := by
  have z1 : ((1 : Int32) = 0) = False := by decide
  refine ⟨((a + nI x) * 2), fun tr => ?_, fun tr => ?_⟩
  · unfold t_run
    simp (disch := decide) only [g_run_40, g_run_39, g_run_38, g_run_37, g_run_36, g_run_35, g_run_34, g_run_33, g_run_32, g_run_31, g_run_30, g_run_29, g_run_28, g_run_27, g_run_26, g_run_25, g_run_24, g_run_23, g_run_22, g_run_21, rn_0_0, rn_0_1, rn_0_2, rn_0_3, rn_1_0, rn_1_1, rn_1_2, rn_1_3, rn_2_0, rn_2_1, rn_2_2, rn_2_3, rn_3_0, rn_3_1, rn_3_2, rn_3_3, rn_4_0, rn_4_1, rn_4_2, rn_4_3, rn_5_0, rn_5_1, rn_5_2, rn_5_3, rn_6_0, rn_6_1, rn_6_2, rn_6_3, rn_7_0, rn_7_1, rn_7_2, rn_7_3, bd_of, Nat.zero_add, Nat.reduceAdd]
    rfl
  · simp (maxSteps := 4000000) (disch := decide) only [f_X7_digs, f_X7_plainDigs, f_X7_toldDigs, f_X7_plainReaches, f_X7_evenReaches, f_X7_plainNears, f_X7_nears, f_X7_reaches, f_X7_plainTells, f_X7_lineTells, f_X7_telling, ix_nI hx (by decide), cl_nI (show x < 2 ^ 31 by omega), hk, un_0, nk_0_0, nk_0_1, nk_0_2, nk_0_3, nk_0_4, nk_0_5, nk_0_6, nk_0_7, bd_of, if_true, if_false, z1, s_ran, Nat.zero_add, Nat.reduceAdd]
    rfl
set_option maxRecDepth 4000 in
theorem ac_0_2 (a : Int32) {x : Nat} (hx : x < 50) (K : Nat → Int32) (hk : K x = nI 0) : ∃ v : Int32, (∀ tr, t_run (nI 0) (nI 2) a (nI 0) tr (nI 0) (nI x) (nI 0) = some (v, putl tr 0 [11], nI 1)) ∧ (∀ tr, f_X7_nears (nI x) a K (nI 0) tr = some (v, nI 1, putl tr 0 [11])) := by
  have z1 : ((1 : Int32) = 0) = False := by decide
  refine ⟨(a ^^^ nI x), fun tr => ?_, fun tr => ?_⟩
  · unfold t_run
    simp (disch := decide) only [g_run_40, g_run_39, g_run_38, g_run_37, g_run_36, g_run_35, g_run_34, g_run_33, g_run_32, g_run_31, g_run_30, g_run_29, g_run_28, g_run_27, g_run_26, g_run_25, g_run_24, g_run_23, g_run_22, g_run_21, rn_0_0, rn_0_1, rn_0_2, rn_0_3, rn_1_0, rn_1_1, rn_1_2, rn_1_3, rn_2_0, rn_2_1, rn_2_2, rn_2_3, rn_3_0, rn_3_1, rn_3_2, rn_3_3, rn_4_0, rn_4_1, rn_4_2, rn_4_3, rn_5_0, rn_5_1, rn_5_2, rn_5_3, rn_6_0, rn_6_1, rn_6_2, rn_6_3, rn_7_0, rn_7_1, rn_7_2, rn_7_3, bd_of, Nat.zero_add, Nat.reduceAdd]
    rfl
  · simp (maxSteps := 4000000) (disch := decide) only [f_X7_digs, f_X7_plainDigs, f_X7_toldDigs, f_X7_plainReaches, f_X7_evenReaches, f_X7_plainNears, f_X7_nears, f_X7_reaches, f_X7_plainTells, f_X7_lineTells, f_X7_telling, ix_nI hx (by decide), cl_nI (show x < 2 ^ 31 by omega), hk, un_0, nk_0_0, nk_0_1, nk_0_2, nk_0_3, nk_0_4, nk_0_5, nk_0_6, nk_0_7, bd_of, if_true, if_false, z1, s_ran, Nat.zero_add, Nat.reduceAdd]
    rfl
set_option maxRecDepth 4000 in
theorem ac_0_3 (a : Int32) {x : Nat} (hx : x < 50) (K : Nat → Int32) (hk : K x = nI 0) : ∃ v : Int32, (∀ tr, t_run (nI 0) (nI 3) a (nI 0) tr (nI 0) (nI x) (nI 0) = some (v, putl tr 0 [2, 10, 1, 11], nI 4)) ∧ (∀ tr, f_X7_telling (nI x) a K (nI 0) tr = some (v, nI 4, putl tr 0 [2, 10, 1, 11])) := by
  have z1 : ((1 : Int32) = 0) = False := by decide
  refine ⟨(((a + nI x) * 2) - (1 ^^^ nI x)), fun tr => ?_, fun tr => ?_⟩
  · unfold t_run
    simp (disch := decide) only [g_run_40, g_run_39, g_run_38, g_run_37, g_run_36, g_run_35, g_run_34, g_run_33, g_run_32, g_run_31, g_run_30, g_run_29, g_run_28, g_run_27, g_run_26, g_run_25, g_run_24, g_run_23, g_run_22, g_run_21, rn_0_0, rn_0_1, rn_0_2, rn_0_3, rn_1_0, rn_1_1, rn_1_2, rn_1_3, rn_2_0, rn_2_1, rn_2_2, rn_2_3, rn_3_0, rn_3_1, rn_3_2, rn_3_3, rn_4_0, rn_4_1, rn_4_2, rn_4_3, rn_5_0, rn_5_1, rn_5_2, rn_5_3, rn_6_0, rn_6_1, rn_6_2, rn_6_3, rn_7_0, rn_7_1, rn_7_2, rn_7_3, bd_of, Nat.zero_add, Nat.reduceAdd]
    rfl
  · simp (maxSteps := 4000000) (disch := decide) only [f_X7_digs, f_X7_plainDigs, f_X7_toldDigs, f_X7_plainReaches, f_X7_evenReaches, f_X7_plainNears, f_X7_nears, f_X7_reaches, f_X7_plainTells, f_X7_lineTells, f_X7_telling, ix_nI hx (by decide), cl_nI (show x < 2 ^ 31 by omega), hk, un_0, nk_0_0, nk_0_1, nk_0_2, nk_0_3, nk_0_4, nk_0_5, nk_0_6, nk_0_7, bd_of, if_true, if_false, z1, s_ran, Nat.zero_add, Nat.reduceAdd]
    rfl
set_option maxRecDepth 4000 in
theorem ac_1_0 (a : Int32) {x : Nat} (hx : x < 50) (K : Nat → Int32) (hk : K x = nI 1) : ∃ v : Int32, (∀ tr, t_run (nI 1) (nI 0) a (nI 0) tr (nI 0) (nI x) (nI 1) = some (v, putl tr 0 [20, 1], nI 2)) ∧ (∀ tr, f_X7_digs (nI x) a K (nI 0) tr = some (v, nI 2, putl tr 0 [20, 1])) := by
  have z1 : ((1 : Int32) = 0) = False := by decide
  refine ⟨((a + nI x) + 3), fun tr => ?_, fun tr => ?_⟩
  · unfold t_run
    simp (disch := decide) only [g_run_40, g_run_39, g_run_38, g_run_37, g_run_36, g_run_35, g_run_34, g_run_33, g_run_32, g_run_31, g_run_30, g_run_29, g_run_28, g_run_27, g_run_26, g_run_25, g_run_24, g_run_23, g_run_22, g_run_21, rn_0_0, rn_0_1, rn_0_2, rn_0_3, rn_1_0, rn_1_1, rn_1_2, rn_1_3, rn_2_0, rn_2_1, rn_2_2, rn_2_3, rn_3_0, rn_3_1, rn_3_2, rn_3_3, rn_4_0, rn_4_1, rn_4_2, rn_4_3, rn_5_0, rn_5_1, rn_5_2, rn_5_3, rn_6_0, rn_6_1, rn_6_2, rn_6_3, rn_7_0, rn_7_1, rn_7_2, rn_7_3, bd_of, Nat.zero_add, Nat.reduceAdd]
    rfl
  · simp (maxSteps := 4000000) (disch := decide) only [f_X7_digs, f_X7_plainDigs, f_X7_toldDigs, f_X7_plainReaches, f_X7_evenReaches, f_X7_plainNears, f_X7_nears, f_X7_reaches, f_X7_plainTells, f_X7_lineTells, f_X7_telling, ix_nI hx (by decide), cl_nI (show x < 2 ^ 31 by omega), hk, un_1, nk_1_0, nk_1_1, nk_1_2, nk_1_3, nk_1_4, nk_1_5, nk_1_6, nk_1_7, bd_of, if_true, if_false, z1, s_ran, Nat.zero_add, Nat.reduceAdd]
    rfl
set_option maxRecDepth 4000 in
theorem ac_1_1 (a : Int32) {x : Nat} (hx : x < 50) (K : Nat → Int32) (hk : K x = nI 1) : ∃ v : Int32, (∀ tr, t_run (nI 1) (nI 1) a (nI 0) tr (nI 0) (nI x) (nI 1) = some (v, putl tr 0 [10, 20, 1], nI 3)) ∧ (∀ tr, f_X7_reaches (nI x) a K (nI 0) tr = some (v, nI 3, putl tr 0 [10, 20, 1])) := by
  have z1 : ((1 : Int32) = 0) = False := by decide
  refine ⟨(((a + nI x) + 3) * 2), fun tr => ?_, fun tr => ?_⟩
  · unfold t_run
    simp (disch := decide) only [g_run_40, g_run_39, g_run_38, g_run_37, g_run_36, g_run_35, g_run_34, g_run_33, g_run_32, g_run_31, g_run_30, g_run_29, g_run_28, g_run_27, g_run_26, g_run_25, g_run_24, g_run_23, g_run_22, g_run_21, rn_0_0, rn_0_1, rn_0_2, rn_0_3, rn_1_0, rn_1_1, rn_1_2, rn_1_3, rn_2_0, rn_2_1, rn_2_2, rn_2_3, rn_3_0, rn_3_1, rn_3_2, rn_3_3, rn_4_0, rn_4_1, rn_4_2, rn_4_3, rn_5_0, rn_5_1, rn_5_2, rn_5_3, rn_6_0, rn_6_1, rn_6_2, rn_6_3, rn_7_0, rn_7_1, rn_7_2, rn_7_3, bd_of, Nat.zero_add, Nat.reduceAdd]
    rfl
  · simp (maxSteps := 4000000) (disch := decide) only [f_X7_digs, f_X7_plainDigs, f_X7_toldDigs, f_X7_plainReaches, f_X7_evenReaches, f_X7_plainNears, f_X7_nears, f_X7_reaches, f_X7_plainTells, f_X7_lineTells, f_X7_telling, ix_nI hx (by decide), cl_nI (show x < 2 ^ 31 by omega), hk, un_1, nk_1_0, nk_1_1, nk_1_2, nk_1_3, nk_1_4, nk_1_5, nk_1_6, nk_1_7, bd_of, if_true, if_false, z1, s_ran, Nat.zero_add, Nat.reduceAdd]
    rfl
set_option maxRecDepth 4000 in
theorem ac_1_2 (a : Int32) {x : Nat} (hx : x < 50) (K : Nat → Int32) (hk : K x = nI 1) : ∃ v : Int32, (∀ tr, t_run (nI 1) (nI 2) a (nI 0) tr (nI 0) (nI x) (nI 1) = some (v, putl tr 0 [11], nI 1)) ∧ (∀ tr, f_X7_nears (nI x) a K (nI 0) tr = some (v, nI 1, putl tr 0 [11])) := by
  have z1 : ((1 : Int32) = 0) = False := by decide
  refine ⟨(a ^^^ nI x), fun tr => ?_, fun tr => ?_⟩
  · unfold t_run
    simp (disch := decide) only [g_run_40, g_run_39, g_run_38, g_run_37, g_run_36, g_run_35, g_run_34, g_run_33, g_run_32, g_run_31, g_run_30, g_run_29, g_run_28, g_run_27, g_run_26, g_run_25, g_run_24, g_run_23, g_run_22, g_run_21, rn_0_0, rn_0_1, rn_0_2, rn_0_3, rn_1_0, rn_1_1, rn_1_2, rn_1_3, rn_2_0, rn_2_1, rn_2_2, rn_2_3, rn_3_0, rn_3_1, rn_3_2, rn_3_3, rn_4_0, rn_4_1, rn_4_2, rn_4_3, rn_5_0, rn_5_1, rn_5_2, rn_5_3, rn_6_0, rn_6_1, rn_6_2, rn_6_3, rn_7_0, rn_7_1, rn_7_2, rn_7_3, bd_of, Nat.zero_add, Nat.reduceAdd]
    rfl
  · simp (maxSteps := 4000000) (disch := decide) only [f_X7_digs, f_X7_plainDigs, f_X7_toldDigs, f_X7_plainReaches, f_X7_evenReaches, f_X7_plainNears, f_X7_nears, f_X7_reaches, f_X7_plainTells, f_X7_lineTells, f_X7_telling, ix_nI hx (by decide), cl_nI (show x < 2 ^ 31 by omega), hk, un_1, nk_1_0, nk_1_1, nk_1_2, nk_1_3, nk_1_4, nk_1_5, nk_1_6, nk_1_7, bd_of, if_true, if_false, z1, s_ran, Nat.zero_add, Nat.reduceAdd]
    rfl
set_option maxRecDepth 4000 in
theorem ac_1_3 (a : Int32) {x : Nat} (hx : x < 50) (K : Nat → Int32) (hk : K x = nI 1) : ∃ v : Int32, (∀ tr, t_run (nI 1) (nI 3) a (nI 0) tr (nI 0) (nI x) (nI 1) = some (v, putl tr 0 [2, 10, 20, 1, 11], nI 5)) ∧ (∀ tr, f_X7_telling (nI x) a K (nI 0) tr = some (v, nI 5, putl tr 0 [2, 10, 20, 1, 11])) := by
  have z1 : ((1 : Int32) = 0) = False := by decide
  refine ⟨((((a + nI x) + 3) * 2) - (1 ^^^ nI x)), fun tr => ?_, fun tr => ?_⟩
  · unfold t_run
    simp (disch := decide) only [g_run_40, g_run_39, g_run_38, g_run_37, g_run_36, g_run_35, g_run_34, g_run_33, g_run_32, g_run_31, g_run_30, g_run_29, g_run_28, g_run_27, g_run_26, g_run_25, g_run_24, g_run_23, g_run_22, g_run_21, rn_0_0, rn_0_1, rn_0_2, rn_0_3, rn_1_0, rn_1_1, rn_1_2, rn_1_3, rn_2_0, rn_2_1, rn_2_2, rn_2_3, rn_3_0, rn_3_1, rn_3_2, rn_3_3, rn_4_0, rn_4_1, rn_4_2, rn_4_3, rn_5_0, rn_5_1, rn_5_2, rn_5_3, rn_6_0, rn_6_1, rn_6_2, rn_6_3, rn_7_0, rn_7_1, rn_7_2, rn_7_3, bd_of, Nat.zero_add, Nat.reduceAdd]
    rfl
  · simp (maxSteps := 4000000) (disch := decide) only [f_X7_digs, f_X7_plainDigs, f_X7_toldDigs, f_X7_plainReaches, f_X7_evenReaches, f_X7_plainNears, f_X7_nears, f_X7_reaches, f_X7_plainTells, f_X7_lineTells, f_X7_telling, ix_nI hx (by decide), cl_nI (show x < 2 ^ 31 by omega), hk, un_1, nk_1_0, nk_1_1, nk_1_2, nk_1_3, nk_1_4, nk_1_5, nk_1_6, nk_1_7, bd_of, if_true, if_false, z1, s_ran, Nat.zero_add, Nat.reduceAdd]
    rfl
set_option maxRecDepth 4000 in
theorem ac_2_0 (a : Int32) {x : Nat} (hx : x < 50) (K : Nat → Int32) (hk : K x = nI 2) : ∃ v : Int32, (∀ tr, t_run (nI 2) (nI 0) a (nI 0) tr (nI 0) (nI x) (nI 2) = some (v, putl tr 0 [1], nI 1)) ∧ (∀ tr, f_X7_digs (nI x) a K (nI 0) tr = some (v, nI 1, putl tr 0 [1])) := by
  have z1 : ((1 : Int32) = 0) = False := by decide
  refine ⟨(a + nI x), fun tr => ?_, fun tr => ?_⟩
  · unfold t_run
    simp (disch := decide) only [g_run_40, g_run_39, g_run_38, g_run_37, g_run_36, g_run_35, g_run_34, g_run_33, g_run_32, g_run_31, g_run_30, g_run_29, g_run_28, g_run_27, g_run_26, g_run_25, g_run_24, g_run_23, g_run_22, g_run_21, rn_0_0, rn_0_1, rn_0_2, rn_0_3, rn_1_0, rn_1_1, rn_1_2, rn_1_3, rn_2_0, rn_2_1, rn_2_2, rn_2_3, rn_3_0, rn_3_1, rn_3_2, rn_3_3, rn_4_0, rn_4_1, rn_4_2, rn_4_3, rn_5_0, rn_5_1, rn_5_2, rn_5_3, rn_6_0, rn_6_1, rn_6_2, rn_6_3, rn_7_0, rn_7_1, rn_7_2, rn_7_3, bd_of, Nat.zero_add, Nat.reduceAdd]
    rfl
  · simp (maxSteps := 4000000) (disch := decide) only [f_X7_digs, f_X7_plainDigs, f_X7_toldDigs, f_X7_plainReaches, f_X7_evenReaches, f_X7_plainNears, f_X7_nears, f_X7_reaches, f_X7_plainTells, f_X7_lineTells, f_X7_telling, ix_nI hx (by decide), cl_nI (show x < 2 ^ 31 by omega), hk, un_2, nk_2_0, nk_2_1, nk_2_2, nk_2_3, nk_2_4, nk_2_5, nk_2_6, nk_2_7, bd_of, if_true, if_false, z1, s_ran, Nat.zero_add, Nat.reduceAdd]
    rfl
set_option maxRecDepth 4000 in
theorem ac_2_1 (a : Int32) {x : Nat} (hx : x < 50) (K : Nat → Int32) (hk : K x = nI 2) : ∃ v : Int32, (∀ tr, t_run (nI 2) (nI 1) a (nI 0) tr (nI 0) (nI x) (nI 2) = some (v, putl tr 0 [30, 10, 1], nI 3)) ∧ (∀ tr, f_X7_reaches (nI x) a K (nI 0) tr = some (v, nI 3, putl tr 0 [30, 10, 1])) := by
  have z1 : ((1 : Int32) = 0) = False := by decide
  refine ⟨(-((a + nI x) * 2)), fun tr => ?_, fun tr => ?_⟩
  · unfold t_run
    simp (disch := decide) only [g_run_40, g_run_39, g_run_38, g_run_37, g_run_36, g_run_35, g_run_34, g_run_33, g_run_32, g_run_31, g_run_30, g_run_29, g_run_28, g_run_27, g_run_26, g_run_25, g_run_24, g_run_23, g_run_22, g_run_21, rn_0_0, rn_0_1, rn_0_2, rn_0_3, rn_1_0, rn_1_1, rn_1_2, rn_1_3, rn_2_0, rn_2_1, rn_2_2, rn_2_3, rn_3_0, rn_3_1, rn_3_2, rn_3_3, rn_4_0, rn_4_1, rn_4_2, rn_4_3, rn_5_0, rn_5_1, rn_5_2, rn_5_3, rn_6_0, rn_6_1, rn_6_2, rn_6_3, rn_7_0, rn_7_1, rn_7_2, rn_7_3, bd_of, Nat.zero_add, Nat.reduceAdd]
    rfl
  · simp (maxSteps := 4000000) (disch := decide) only [f_X7_digs, f_X7_plainDigs, f_X7_toldDigs, f_X7_plainReaches, f_X7_evenReaches, f_X7_plainNears, f_X7_nears, f_X7_reaches, f_X7_plainTells, f_X7_lineTells, f_X7_telling, ix_nI hx (by decide), cl_nI (show x < 2 ^ 31 by omega), hk, un_2, nk_2_0, nk_2_1, nk_2_2, nk_2_3, nk_2_4, nk_2_5, nk_2_6, nk_2_7, bd_of, if_true, if_false, z1, s_ran, Nat.zero_add, Nat.reduceAdd]
    rfl
set_option maxRecDepth 4000 in
theorem ac_2_2 (a : Int32) {x : Nat} (hx : x < 50) (K : Nat → Int32) (hk : K x = nI 2) : ∃ v : Int32, (∀ tr, t_run (nI 2) (nI 2) a (nI 0) tr (nI 0) (nI x) (nI 2) = some (v, putl tr 0 [11], nI 1)) ∧ (∀ tr, f_X7_nears (nI x) a K (nI 0) tr = some (v, nI 1, putl tr 0 [11])) := by
  have z1 : ((1 : Int32) = 0) = False := by decide
  refine ⟨(a ^^^ nI x), fun tr => ?_, fun tr => ?_⟩
  · unfold t_run
    simp (disch := decide) only [g_run_40, g_run_39, g_run_38, g_run_37, g_run_36, g_run_35, g_run_34, g_run_33, g_run_32, g_run_31, g_run_30, g_run_29, g_run_28, g_run_27, g_run_26, g_run_25, g_run_24, g_run_23, g_run_22, g_run_21, rn_0_0, rn_0_1, rn_0_2, rn_0_3, rn_1_0, rn_1_1, rn_1_2, rn_1_3, rn_2_0, rn_2_1, rn_2_2, rn_2_3, rn_3_0, rn_3_1, rn_3_2, rn_3_3, rn_4_0, rn_4_1, rn_4_2, rn_4_3, rn_5_0, rn_5_1, rn_5_2, rn_5_3, rn_6_0, rn_6_1, rn_6_2, rn_6_3, rn_7_0, rn_7_1, rn_7_2, rn_7_3, bd_of, Nat.zero_add, Nat.reduceAdd]
    rfl
  · simp (maxSteps := 4000000) (disch := decide) only [f_X7_digs, f_X7_plainDigs, f_X7_toldDigs, f_X7_plainReaches, f_X7_evenReaches, f_X7_plainNears, f_X7_nears, f_X7_reaches, f_X7_plainTells, f_X7_lineTells, f_X7_telling, ix_nI hx (by decide), cl_nI (show x < 2 ^ 31 by omega), hk, un_2, nk_2_0, nk_2_1, nk_2_2, nk_2_3, nk_2_4, nk_2_5, nk_2_6, nk_2_7, bd_of, if_true, if_false, z1, s_ran, Nat.zero_add, Nat.reduceAdd]
    rfl
set_option maxRecDepth 4000 in
theorem ac_2_3 (a : Int32) {x : Nat} (hx : x < 50) (K : Nat → Int32) (hk : K x = nI 2) : ∃ v : Int32, (∀ tr, t_run (nI 2) (nI 3) a (nI 0) tr (nI 0) (nI x) (nI 2) = some (v, putl tr 0 [2, 30, 10, 1, 11], nI 5)) ∧ (∀ tr, f_X7_telling (nI x) a K (nI 0) tr = some (v, nI 5, putl tr 0 [2, 30, 10, 1, 11])) := by
  have z1 : ((1 : Int32) = 0) = False := by decide
  refine ⟨((-((a + nI x) * 2)) - (1 ^^^ nI x)), fun tr => ?_, fun tr => ?_⟩
  · unfold t_run
    simp (disch := decide) only [g_run_40, g_run_39, g_run_38, g_run_37, g_run_36, g_run_35, g_run_34, g_run_33, g_run_32, g_run_31, g_run_30, g_run_29, g_run_28, g_run_27, g_run_26, g_run_25, g_run_24, g_run_23, g_run_22, g_run_21, rn_0_0, rn_0_1, rn_0_2, rn_0_3, rn_1_0, rn_1_1, rn_1_2, rn_1_3, rn_2_0, rn_2_1, rn_2_2, rn_2_3, rn_3_0, rn_3_1, rn_3_2, rn_3_3, rn_4_0, rn_4_1, rn_4_2, rn_4_3, rn_5_0, rn_5_1, rn_5_2, rn_5_3, rn_6_0, rn_6_1, rn_6_2, rn_6_3, rn_7_0, rn_7_1, rn_7_2, rn_7_3, bd_of, Nat.zero_add, Nat.reduceAdd]
    rfl
  · simp (maxSteps := 4000000) (disch := decide) only [f_X7_digs, f_X7_plainDigs, f_X7_toldDigs, f_X7_plainReaches, f_X7_evenReaches, f_X7_plainNears, f_X7_nears, f_X7_reaches, f_X7_plainTells, f_X7_lineTells, f_X7_telling, ix_nI hx (by decide), cl_nI (show x < 2 ^ 31 by omega), hk, un_2, nk_2_0, nk_2_1, nk_2_2, nk_2_3, nk_2_4, nk_2_5, nk_2_6, nk_2_7, bd_of, if_true, if_false, z1, s_ran, Nat.zero_add, Nat.reduceAdd]
    rfl
set_option maxRecDepth 4000 in
theorem ac_3_0 (a : Int32) {x : Nat} (hx : x < 50) (K : Nat → Int32) (hk : K x = nI 3) : ∃ v : Int32, (∀ tr, t_run (nI 3) (nI 0) a (nI 0) tr (nI 0) (nI x) (nI 3) = some (v, putl tr 0 [1], nI 1)) ∧ (∀ tr, f_X7_digs (nI x) a K (nI 0) tr = some (v, nI 1, putl tr 0 [1])) := by
  have z1 : ((1 : Int32) = 0) = False := by decide
  refine ⟨(a + nI x), fun tr => ?_, fun tr => ?_⟩
  · unfold t_run
    simp (disch := decide) only [g_run_40, g_run_39, g_run_38, g_run_37, g_run_36, g_run_35, g_run_34, g_run_33, g_run_32, g_run_31, g_run_30, g_run_29, g_run_28, g_run_27, g_run_26, g_run_25, g_run_24, g_run_23, g_run_22, g_run_21, rn_0_0, rn_0_1, rn_0_2, rn_0_3, rn_1_0, rn_1_1, rn_1_2, rn_1_3, rn_2_0, rn_2_1, rn_2_2, rn_2_3, rn_3_0, rn_3_1, rn_3_2, rn_3_3, rn_4_0, rn_4_1, rn_4_2, rn_4_3, rn_5_0, rn_5_1, rn_5_2, rn_5_3, rn_6_0, rn_6_1, rn_6_2, rn_6_3, rn_7_0, rn_7_1, rn_7_2, rn_7_3, bd_of, Nat.zero_add, Nat.reduceAdd]
    rfl
  · simp (maxSteps := 4000000) (disch := decide) only [f_X7_digs, f_X7_plainDigs, f_X7_toldDigs, f_X7_plainReaches, f_X7_evenReaches, f_X7_plainNears, f_X7_nears, f_X7_reaches, f_X7_plainTells, f_X7_lineTells, f_X7_telling, ix_nI hx (by decide), cl_nI (show x < 2 ^ 31 by omega), hk, un_3, nk_3_0, nk_3_1, nk_3_2, nk_3_3, nk_3_4, nk_3_5, nk_3_6, nk_3_7, bd_of, if_true, if_false, z1, s_ran, Nat.zero_add, Nat.reduceAdd]
    rfl
set_option maxRecDepth 4000 in
theorem ac_3_1 (a : Int32) {x : Nat} (hx : x < 50) (K : Nat → Int32) (hk : K x = nI 3) : ∃ v : Int32, (∀ tr, t_run (nI 3) (nI 1) a (nI 0) tr (nI 0) (nI x) (nI 3) = some (v, putl tr 0 [41, 30, 10, 1], nI 4)) ∧ (∀ tr, f_X7_reaches (nI x) a K (nI 0) tr = some (v, nI 4, putl tr 0 [41, 30, 10, 1])) := by
  have z1 : ((1 : Int32) = 0) = False := by decide
  refine ⟨(-(((a + 1) + nI x) * 2)), fun tr => ?_, fun tr => ?_⟩
  · unfold t_run
    simp (disch := decide) only [g_run_40, g_run_39, g_run_38, g_run_37, g_run_36, g_run_35, g_run_34, g_run_33, g_run_32, g_run_31, g_run_30, g_run_29, g_run_28, g_run_27, g_run_26, g_run_25, g_run_24, g_run_23, g_run_22, g_run_21, rn_0_0, rn_0_1, rn_0_2, rn_0_3, rn_1_0, rn_1_1, rn_1_2, rn_1_3, rn_2_0, rn_2_1, rn_2_2, rn_2_3, rn_3_0, rn_3_1, rn_3_2, rn_3_3, rn_4_0, rn_4_1, rn_4_2, rn_4_3, rn_5_0, rn_5_1, rn_5_2, rn_5_3, rn_6_0, rn_6_1, rn_6_2, rn_6_3, rn_7_0, rn_7_1, rn_7_2, rn_7_3, bd_of, Nat.zero_add, Nat.reduceAdd]
    rfl
  · simp (maxSteps := 4000000) (disch := decide) only [f_X7_digs, f_X7_plainDigs, f_X7_toldDigs, f_X7_plainReaches, f_X7_evenReaches, f_X7_plainNears, f_X7_nears, f_X7_reaches, f_X7_plainTells, f_X7_lineTells, f_X7_telling, ix_nI hx (by decide), cl_nI (show x < 2 ^ 31 by omega), hk, un_3, nk_3_0, nk_3_1, nk_3_2, nk_3_3, nk_3_4, nk_3_5, nk_3_6, nk_3_7, bd_of, if_true, if_false, z1, s_ran, Nat.zero_add, Nat.reduceAdd]
    rfl
set_option maxRecDepth 4000 in
theorem ac_3_2 (a : Int32) {x : Nat} (hx : x < 50) (K : Nat → Int32) (hk : K x = nI 3) : ∃ v : Int32, (∀ tr, t_run (nI 3) (nI 2) a (nI 0) tr (nI 0) (nI x) (nI 3) = some (v, putl tr 0 [40, 11], nI 2)) ∧ (∀ tr, f_X7_nears (nI x) a K (nI 0) tr = some (v, nI 2, putl tr 0 [40, 11])) := by
  have z1 : ((1 : Int32) = 0) = False := by decide
  refine ⟨((a ^^^ nI x) * 3), fun tr => ?_, fun tr => ?_⟩
  · unfold t_run
    simp (disch := decide) only [g_run_40, g_run_39, g_run_38, g_run_37, g_run_36, g_run_35, g_run_34, g_run_33, g_run_32, g_run_31, g_run_30, g_run_29, g_run_28, g_run_27, g_run_26, g_run_25, g_run_24, g_run_23, g_run_22, g_run_21, rn_0_0, rn_0_1, rn_0_2, rn_0_3, rn_1_0, rn_1_1, rn_1_2, rn_1_3, rn_2_0, rn_2_1, rn_2_2, rn_2_3, rn_3_0, rn_3_1, rn_3_2, rn_3_3, rn_4_0, rn_4_1, rn_4_2, rn_4_3, rn_5_0, rn_5_1, rn_5_2, rn_5_3, rn_6_0, rn_6_1, rn_6_2, rn_6_3, rn_7_0, rn_7_1, rn_7_2, rn_7_3, bd_of, Nat.zero_add, Nat.reduceAdd]
    rfl
  · simp (maxSteps := 4000000) (disch := decide) only [f_X7_digs, f_X7_plainDigs, f_X7_toldDigs, f_X7_plainReaches, f_X7_evenReaches, f_X7_plainNears, f_X7_nears, f_X7_reaches, f_X7_plainTells, f_X7_lineTells, f_X7_telling, ix_nI hx (by decide), cl_nI (show x < 2 ^ 31 by omega), hk, un_3, nk_3_0, nk_3_1, nk_3_2, nk_3_3, nk_3_4, nk_3_5, nk_3_6, nk_3_7, bd_of, if_true, if_false, z1, s_ran, Nat.zero_add, Nat.reduceAdd]
    rfl
set_option maxRecDepth 4000 in
theorem ac_3_3 (a : Int32) {x : Nat} (hx : x < 50) (K : Nat → Int32) (hk : K x = nI 3) : ∃ v : Int32, (∀ tr, t_run (nI 3) (nI 3) a (nI 0) tr (nI 0) (nI x) (nI 3) = some (v, putl tr 0 [2, 41, 30, 10, 1, 40, 11], nI 7)) ∧ (∀ tr, f_X7_telling (nI x) a K (nI 0) tr = some (v, nI 7, putl tr 0 [2, 41, 30, 10, 1, 40, 11])) := by
  have z1 : ((1 : Int32) = 0) = False := by decide
  refine ⟨((-(((a + 1) + nI x) * 2)) - ((1 ^^^ nI x) * 3)), fun tr => ?_, fun tr => ?_⟩
  · unfold t_run
    simp (disch := decide) only [g_run_40, g_run_39, g_run_38, g_run_37, g_run_36, g_run_35, g_run_34, g_run_33, g_run_32, g_run_31, g_run_30, g_run_29, g_run_28, g_run_27, g_run_26, g_run_25, g_run_24, g_run_23, g_run_22, g_run_21, rn_0_0, rn_0_1, rn_0_2, rn_0_3, rn_1_0, rn_1_1, rn_1_2, rn_1_3, rn_2_0, rn_2_1, rn_2_2, rn_2_3, rn_3_0, rn_3_1, rn_3_2, rn_3_3, rn_4_0, rn_4_1, rn_4_2, rn_4_3, rn_5_0, rn_5_1, rn_5_2, rn_5_3, rn_6_0, rn_6_1, rn_6_2, rn_6_3, rn_7_0, rn_7_1, rn_7_2, rn_7_3, bd_of, Nat.zero_add, Nat.reduceAdd]
    rfl
  · simp (maxSteps := 4000000) (disch := decide) only [f_X7_digs, f_X7_plainDigs, f_X7_toldDigs, f_X7_plainReaches, f_X7_evenReaches, f_X7_plainNears, f_X7_nears, f_X7_reaches, f_X7_plainTells, f_X7_lineTells, f_X7_telling, ix_nI hx (by decide), cl_nI (show x < 2 ^ 31 by omega), hk, un_3, nk_3_0, nk_3_1, nk_3_2, nk_3_3, nk_3_4, nk_3_5, nk_3_6, nk_3_7, bd_of, if_true, if_false, z1, s_ran, Nat.zero_add, Nat.reduceAdd]
    rfl
set_option maxRecDepth 4000 in
theorem ac_4_0 (a : Int32) {x : Nat} (hx : x < 50) (K : Nat → Int32) (hk : K x = nI 4) : ∃ v : Int32, (∀ tr, t_run (nI 4) (nI 0) a (nI 0) tr (nI 0) (nI x) (nI 4) = some (v, putl tr 0 [20, 1], nI 2)) ∧ (∀ tr, f_X7_digs (nI x) a K (nI 0) tr = some (v, nI 2, putl tr 0 [20, 1])) := by
  have z1 : ((1 : Int32) = 0) = False := by decide
  refine ⟨((a + nI x) + 3), fun tr => ?_, fun tr => ?_⟩
  · unfold t_run
    simp (disch := decide) only [g_run_40, g_run_39, g_run_38, g_run_37, g_run_36, g_run_35, g_run_34, g_run_33, g_run_32, g_run_31, g_run_30, g_run_29, g_run_28, g_run_27, g_run_26, g_run_25, g_run_24, g_run_23, g_run_22, g_run_21, rn_0_0, rn_0_1, rn_0_2, rn_0_3, rn_1_0, rn_1_1, rn_1_2, rn_1_3, rn_2_0, rn_2_1, rn_2_2, rn_2_3, rn_3_0, rn_3_1, rn_3_2, rn_3_3, rn_4_0, rn_4_1, rn_4_2, rn_4_3, rn_5_0, rn_5_1, rn_5_2, rn_5_3, rn_6_0, rn_6_1, rn_6_2, rn_6_3, rn_7_0, rn_7_1, rn_7_2, rn_7_3, bd_of, Nat.zero_add, Nat.reduceAdd]
    rfl
  · simp (maxSteps := 4000000) (disch := decide) only [f_X7_digs, f_X7_plainDigs, f_X7_toldDigs, f_X7_plainReaches, f_X7_evenReaches, f_X7_plainNears, f_X7_nears, f_X7_reaches, f_X7_plainTells, f_X7_lineTells, f_X7_telling, ix_nI hx (by decide), cl_nI (show x < 2 ^ 31 by omega), hk, un_4, nk_4_0, nk_4_1, nk_4_2, nk_4_3, nk_4_4, nk_4_5, nk_4_6, nk_4_7, bd_of, if_true, if_false, z1, s_ran, Nat.zero_add, Nat.reduceAdd]
    rfl
set_option maxRecDepth 4000 in
theorem ac_4_1 (a : Int32) {x : Nat} (hx : x < 50) (K : Nat → Int32) (hk : K x = nI 4) : ∃ v : Int32, (∀ tr, t_run (nI 4) (nI 1) a (nI 0) tr (nI 0) (nI x) (nI 4) = some (v, putl tr 0 [10, 20, 1], nI 3)) ∧ (∀ tr, f_X7_reaches (nI x) a K (nI 0) tr = some (v, nI 3, putl tr 0 [10, 20, 1])) := by
  have z1 : ((1 : Int32) = 0) = False := by decide
  refine ⟨(((a + nI x) + 3) * 2), fun tr => ?_, fun tr => ?_⟩
  · unfold t_run
    simp (disch := decide) only [g_run_40, g_run_39, g_run_38, g_run_37, g_run_36, g_run_35, g_run_34, g_run_33, g_run_32, g_run_31, g_run_30, g_run_29, g_run_28, g_run_27, g_run_26, g_run_25, g_run_24, g_run_23, g_run_22, g_run_21, rn_0_0, rn_0_1, rn_0_2, rn_0_3, rn_1_0, rn_1_1, rn_1_2, rn_1_3, rn_2_0, rn_2_1, rn_2_2, rn_2_3, rn_3_0, rn_3_1, rn_3_2, rn_3_3, rn_4_0, rn_4_1, rn_4_2, rn_4_3, rn_5_0, rn_5_1, rn_5_2, rn_5_3, rn_6_0, rn_6_1, rn_6_2, rn_6_3, rn_7_0, rn_7_1, rn_7_2, rn_7_3, bd_of, Nat.zero_add, Nat.reduceAdd]
    rfl
  · simp (maxSteps := 4000000) (disch := decide) only [f_X7_digs, f_X7_plainDigs, f_X7_toldDigs, f_X7_plainReaches, f_X7_evenReaches, f_X7_plainNears, f_X7_nears, f_X7_reaches, f_X7_plainTells, f_X7_lineTells, f_X7_telling, ix_nI hx (by decide), cl_nI (show x < 2 ^ 31 by omega), hk, un_4, nk_4_0, nk_4_1, nk_4_2, nk_4_3, nk_4_4, nk_4_5, nk_4_6, nk_4_7, bd_of, if_true, if_false, z1, s_ran, Nat.zero_add, Nat.reduceAdd]
    rfl
set_option maxRecDepth 4000 in
theorem ac_4_2 (a : Int32) {x : Nat} (hx : x < 50) (K : Nat → Int32) (hk : K x = nI 4) : ∃ v : Int32, (∀ tr, t_run (nI 4) (nI 2) a (nI 0) tr (nI 0) (nI x) (nI 4) = some (v, putl tr 0 [11], nI 1)) ∧ (∀ tr, f_X7_nears (nI x) a K (nI 0) tr = some (v, nI 1, putl tr 0 [11])) := by
  have z1 : ((1 : Int32) = 0) = False := by decide
  refine ⟨(a ^^^ nI x), fun tr => ?_, fun tr => ?_⟩
  · unfold t_run
    simp (disch := decide) only [g_run_40, g_run_39, g_run_38, g_run_37, g_run_36, g_run_35, g_run_34, g_run_33, g_run_32, g_run_31, g_run_30, g_run_29, g_run_28, g_run_27, g_run_26, g_run_25, g_run_24, g_run_23, g_run_22, g_run_21, rn_0_0, rn_0_1, rn_0_2, rn_0_3, rn_1_0, rn_1_1, rn_1_2, rn_1_3, rn_2_0, rn_2_1, rn_2_2, rn_2_3, rn_3_0, rn_3_1, rn_3_2, rn_3_3, rn_4_0, rn_4_1, rn_4_2, rn_4_3, rn_5_0, rn_5_1, rn_5_2, rn_5_3, rn_6_0, rn_6_1, rn_6_2, rn_6_3, rn_7_0, rn_7_1, rn_7_2, rn_7_3, bd_of, Nat.zero_add, Nat.reduceAdd]
    rfl
  · simp (maxSteps := 4000000) (disch := decide) only [f_X7_digs, f_X7_plainDigs, f_X7_toldDigs, f_X7_plainReaches, f_X7_evenReaches, f_X7_plainNears, f_X7_nears, f_X7_reaches, f_X7_plainTells, f_X7_lineTells, f_X7_telling, ix_nI hx (by decide), cl_nI (show x < 2 ^ 31 by omega), hk, un_4, nk_4_0, nk_4_1, nk_4_2, nk_4_3, nk_4_4, nk_4_5, nk_4_6, nk_4_7, bd_of, if_true, if_false, z1, s_ran, Nat.zero_add, Nat.reduceAdd]
    rfl
set_option maxRecDepth 4000 in
theorem ac_4_3 (a : Int32) {x : Nat} (hx : x < 50) (K : Nat → Int32) (hk : K x = nI 4) : ∃ v : Int32, (∀ tr, t_run (nI 4) (nI 3) a (nI 0) tr (nI 0) (nI x) (nI 4) = some (v, putl tr 0 [50, 2, 10, 20, 1, 11], nI 6)) ∧ (∀ tr, f_X7_telling (nI x) a K (nI 0) tr = some (v, nI 6, putl tr 0 [50, 2, 10, 20, 1, 11])) := by
  have z1 : ((1 : Int32) = 0) = False := by decide
  refine ⟨(((((a + nI x) + 3) * 2) - (1 ^^^ nI x)) ^^^ 5), fun tr => ?_, fun tr => ?_⟩
  · unfold t_run
    simp (disch := decide) only [g_run_40, g_run_39, g_run_38, g_run_37, g_run_36, g_run_35, g_run_34, g_run_33, g_run_32, g_run_31, g_run_30, g_run_29, g_run_28, g_run_27, g_run_26, g_run_25, g_run_24, g_run_23, g_run_22, g_run_21, rn_0_0, rn_0_1, rn_0_2, rn_0_3, rn_1_0, rn_1_1, rn_1_2, rn_1_3, rn_2_0, rn_2_1, rn_2_2, rn_2_3, rn_3_0, rn_3_1, rn_3_2, rn_3_3, rn_4_0, rn_4_1, rn_4_2, rn_4_3, rn_5_0, rn_5_1, rn_5_2, rn_5_3, rn_6_0, rn_6_1, rn_6_2, rn_6_3, rn_7_0, rn_7_1, rn_7_2, rn_7_3, bd_of, Nat.zero_add, Nat.reduceAdd]
    rfl
  · simp (maxSteps := 4000000) (disch := decide) only [f_X7_digs, f_X7_plainDigs, f_X7_toldDigs, f_X7_plainReaches, f_X7_evenReaches, f_X7_plainNears, f_X7_nears, f_X7_reaches, f_X7_plainTells, f_X7_lineTells, f_X7_telling, ix_nI hx (by decide), cl_nI (show x < 2 ^ 31 by omega), hk, un_4, nk_4_0, nk_4_1, nk_4_2, nk_4_3, nk_4_4, nk_4_5, nk_4_6, nk_4_7, bd_of, if_true, if_false, z1, s_ran, Nat.zero_add, Nat.reduceAdd]
    rfl
set_option maxRecDepth 4000 in
theorem ac_5_0 (a : Int32) {x : Nat} (hx : x < 50) (K : Nat → Int32) (hk : K x = nI 5) : ∃ v : Int32, (∀ tr, t_run (nI 5) (nI 0) a (nI 0) tr (nI 0) (nI x) (nI 5) = some (v, putl tr 0 [20, 1], nI 2)) ∧ (∀ tr, f_X7_digs (nI x) a K (nI 0) tr = some (v, nI 2, putl tr 0 [20, 1])) := by
  have z1 : ((1 : Int32) = 0) = False := by decide
  refine ⟨((a + nI x) + 3), fun tr => ?_, fun tr => ?_⟩
  · unfold t_run
    simp (disch := decide) only [g_run_40, g_run_39, g_run_38, g_run_37, g_run_36, g_run_35, g_run_34, g_run_33, g_run_32, g_run_31, g_run_30, g_run_29, g_run_28, g_run_27, g_run_26, g_run_25, g_run_24, g_run_23, g_run_22, g_run_21, rn_0_0, rn_0_1, rn_0_2, rn_0_3, rn_1_0, rn_1_1, rn_1_2, rn_1_3, rn_2_0, rn_2_1, rn_2_2, rn_2_3, rn_3_0, rn_3_1, rn_3_2, rn_3_3, rn_4_0, rn_4_1, rn_4_2, rn_4_3, rn_5_0, rn_5_1, rn_5_2, rn_5_3, rn_6_0, rn_6_1, rn_6_2, rn_6_3, rn_7_0, rn_7_1, rn_7_2, rn_7_3, bd_of, Nat.zero_add, Nat.reduceAdd]
    rfl
  · simp (maxSteps := 4000000) (disch := decide) only [f_X7_digs, f_X7_plainDigs, f_X7_toldDigs, f_X7_plainReaches, f_X7_evenReaches, f_X7_plainNears, f_X7_nears, f_X7_reaches, f_X7_plainTells, f_X7_lineTells, f_X7_telling, ix_nI hx (by decide), cl_nI (show x < 2 ^ 31 by omega), hk, un_5, nk_5_0, nk_5_1, nk_5_2, nk_5_3, nk_5_4, nk_5_5, nk_5_6, nk_5_7, bd_of, if_true, if_false, z1, s_ran, Nat.zero_add, Nat.reduceAdd]
    rfl
set_option maxRecDepth 4000 in
theorem ac_5_1 (a : Int32) {x : Nat} (hx : x < 50) (K : Nat → Int32) (hk : K x = nI 5) : ∃ v : Int32, (∀ tr, t_run (nI 5) (nI 1) a (nI 0) tr (nI 0) (nI x) (nI 5) = some (v, putl tr 0 [10, 20, 1], nI 3)) ∧ (∀ tr, f_X7_reaches (nI x) a K (nI 0) tr = some (v, nI 3, putl tr 0 [10, 20, 1])) := by
  have z1 : ((1 : Int32) = 0) = False := by decide
  refine ⟨(((a + nI x) + 3) * 2), fun tr => ?_, fun tr => ?_⟩
  · unfold t_run
    simp (disch := decide) only [g_run_40, g_run_39, g_run_38, g_run_37, g_run_36, g_run_35, g_run_34, g_run_33, g_run_32, g_run_31, g_run_30, g_run_29, g_run_28, g_run_27, g_run_26, g_run_25, g_run_24, g_run_23, g_run_22, g_run_21, rn_0_0, rn_0_1, rn_0_2, rn_0_3, rn_1_0, rn_1_1, rn_1_2, rn_1_3, rn_2_0, rn_2_1, rn_2_2, rn_2_3, rn_3_0, rn_3_1, rn_3_2, rn_3_3, rn_4_0, rn_4_1, rn_4_2, rn_4_3, rn_5_0, rn_5_1, rn_5_2, rn_5_3, rn_6_0, rn_6_1, rn_6_2, rn_6_3, rn_7_0, rn_7_1, rn_7_2, rn_7_3, bd_of, Nat.zero_add, Nat.reduceAdd]
    rfl
  · simp (maxSteps := 4000000) (disch := decide) only [f_X7_digs, f_X7_plainDigs, f_X7_toldDigs, f_X7_plainReaches, f_X7_evenReaches, f_X7_plainNears, f_X7_nears, f_X7_reaches, f_X7_plainTells, f_X7_lineTells, f_X7_telling, ix_nI hx (by decide), cl_nI (show x < 2 ^ 31 by omega), hk, un_5, nk_5_0, nk_5_1, nk_5_2, nk_5_3, nk_5_4, nk_5_5, nk_5_6, nk_5_7, bd_of, if_true, if_false, z1, s_ran, Nat.zero_add, Nat.reduceAdd]
    rfl
set_option maxRecDepth 4000 in
theorem ac_5_2 (a : Int32) {x : Nat} (hx : x < 50) (K : Nat → Int32) (hk : K x = nI 5) : ∃ v : Int32, (∀ tr, t_run (nI 5) (nI 2) a (nI 0) tr (nI 0) (nI x) (nI 5) = some (v, putl tr 0 [60, 11, 20, 1], nI 4)) ∧ (∀ tr, f_X7_nears (nI x) a K (nI 0) tr = some (v, nI 4, putl tr 0 [60, 11, 20, 1])) := by
  have z1 : ((1 : Int32) = 0) = False := by decide
  refine ⟨((a ^^^ nI x) - ((2 + nI x) + 3)), fun tr => ?_, fun tr => ?_⟩
  · unfold t_run
    simp (disch := decide) only [g_run_40, g_run_39, g_run_38, g_run_37, g_run_36, g_run_35, g_run_34, g_run_33, g_run_32, g_run_31, g_run_30, g_run_29, g_run_28, g_run_27, g_run_26, g_run_25, g_run_24, g_run_23, g_run_22, g_run_21, rn_0_0, rn_0_1, rn_0_2, rn_0_3, rn_1_0, rn_1_1, rn_1_2, rn_1_3, rn_2_0, rn_2_1, rn_2_2, rn_2_3, rn_3_0, rn_3_1, rn_3_2, rn_3_3, rn_4_0, rn_4_1, rn_4_2, rn_4_3, rn_5_0, rn_5_1, rn_5_2, rn_5_3, rn_6_0, rn_6_1, rn_6_2, rn_6_3, rn_7_0, rn_7_1, rn_7_2, rn_7_3, bd_of, Nat.zero_add, Nat.reduceAdd]
    rfl
  · simp (maxSteps := 4000000) (disch := decide) only [f_X7_digs, f_X7_plainDigs, f_X7_toldDigs, f_X7_plainReaches, f_X7_evenReaches, f_X7_plainNears, f_X7_nears, f_X7_reaches, f_X7_plainTells, f_X7_lineTells, f_X7_telling, ix_nI hx (by decide), cl_nI (show x < 2 ^ 31 by omega), hk, un_5, nk_5_0, nk_5_1, nk_5_2, nk_5_3, nk_5_4, nk_5_5, nk_5_6, nk_5_7, bd_of, if_true, if_false, z1, s_ran, Nat.zero_add, Nat.reduceAdd]
    rfl
set_option maxRecDepth 4000 in
theorem ac_5_3 (a : Int32) {x : Nat} (hx : x < 50) (K : Nat → Int32) (hk : K x = nI 5) : ∃ v : Int32, (∀ tr, t_run (nI 5) (nI 3) a (nI 0) tr (nI 0) (nI x) (nI 5) = some (v, putl tr 0 [61, 50, 2, 10, 20, 1, 60, 11, 20, 1], nI 10)) ∧ (∀ tr, f_X7_telling (nI x) a K (nI 0) tr = some (v, nI 10, putl tr 0 [61, 50, 2, 10, 20, 1, 60, 11, 20, 1])) := by
  have z1 : ((1 : Int32) = 0) = False := by decide
  refine ⟨((((((a + nI x) + 3) * 2) - ((1 ^^^ nI x) - ((2 + nI x) + 3))) ^^^ 5) + 1), fun tr => ?_, fun tr => ?_⟩
  · unfold t_run
    simp (disch := decide) only [g_run_40, g_run_39, g_run_38, g_run_37, g_run_36, g_run_35, g_run_34, g_run_33, g_run_32, g_run_31, g_run_30, g_run_29, g_run_28, g_run_27, g_run_26, g_run_25, g_run_24, g_run_23, g_run_22, g_run_21, rn_0_0, rn_0_1, rn_0_2, rn_0_3, rn_1_0, rn_1_1, rn_1_2, rn_1_3, rn_2_0, rn_2_1, rn_2_2, rn_2_3, rn_3_0, rn_3_1, rn_3_2, rn_3_3, rn_4_0, rn_4_1, rn_4_2, rn_4_3, rn_5_0, rn_5_1, rn_5_2, rn_5_3, rn_6_0, rn_6_1, rn_6_2, rn_6_3, rn_7_0, rn_7_1, rn_7_2, rn_7_3, bd_of, Nat.zero_add, Nat.reduceAdd]
    rfl
  · simp (maxSteps := 4000000) (disch := decide) only [f_X7_digs, f_X7_plainDigs, f_X7_toldDigs, f_X7_plainReaches, f_X7_evenReaches, f_X7_plainNears, f_X7_nears, f_X7_reaches, f_X7_plainTells, f_X7_lineTells, f_X7_telling, ix_nI hx (by decide), cl_nI (show x < 2 ^ 31 by omega), hk, un_5, nk_5_0, nk_5_1, nk_5_2, nk_5_3, nk_5_4, nk_5_5, nk_5_6, nk_5_7, bd_of, if_true, if_false, z1, s_ran, Nat.zero_add, Nat.reduceAdd]
    rfl
set_option maxRecDepth 4000 in
theorem ac_6_0 (a : Int32) {x : Nat} (hx : x < 50) (K : Nat → Int32) (hk : K x = nI 6) : ∃ v : Int32, (∀ tr, t_run (nI 6) (nI 0) a (nI 0) tr (nI 0) (nI x) (nI 6) = some (v, putl tr 0 [70, 1], nI 2)) ∧ (∀ tr, f_X7_digs (nI x) a K (nI 0) tr = some (v, nI 2, putl tr 0 [70, 1])) := by
  have z1 : ((1 : Int32) = 0) = False := by decide
  refine ⟨((a + nI x) * 2), fun tr => ?_, fun tr => ?_⟩
  · unfold t_run
    simp (disch := decide) only [g_run_40, g_run_39, g_run_38, g_run_37, g_run_36, g_run_35, g_run_34, g_run_33, g_run_32, g_run_31, g_run_30, g_run_29, g_run_28, g_run_27, g_run_26, g_run_25, g_run_24, g_run_23, g_run_22, g_run_21, rn_0_0, rn_0_1, rn_0_2, rn_0_3, rn_1_0, rn_1_1, rn_1_2, rn_1_3, rn_2_0, rn_2_1, rn_2_2, rn_2_3, rn_3_0, rn_3_1, rn_3_2, rn_3_3, rn_4_0, rn_4_1, rn_4_2, rn_4_3, rn_5_0, rn_5_1, rn_5_2, rn_5_3, rn_6_0, rn_6_1, rn_6_2, rn_6_3, rn_7_0, rn_7_1, rn_7_2, rn_7_3, bd_of, Nat.zero_add, Nat.reduceAdd]
    rfl
  · simp (maxSteps := 4000000) (disch := decide) only [f_X7_digs, f_X7_plainDigs, f_X7_toldDigs, f_X7_plainReaches, f_X7_evenReaches, f_X7_plainNears, f_X7_nears, f_X7_reaches, f_X7_plainTells, f_X7_lineTells, f_X7_telling, ix_nI hx (by decide), cl_nI (show x < 2 ^ 31 by omega), hk, un_6, nk_6_0, nk_6_1, nk_6_2, nk_6_3, nk_6_4, nk_6_5, nk_6_6, nk_6_7, bd_of, if_true, if_false, z1, s_ran, Nat.zero_add, Nat.reduceAdd]
    rfl
set_option maxRecDepth 4000 in
theorem ac_6_1 (a : Int32) {x : Nat} (hx : x < 50) (K : Nat → Int32) (hk : K x = nI 6) : ∃ v : Int32, (∀ tr, t_run (nI 6) (nI 1) a (nI 0) tr (nI 0) (nI x) (nI 6) = some (v, putl tr 0 [10, 70, 1], nI 3)) ∧ (∀ tr, f_X7_reaches (nI x) a K (nI 0) tr = some (v, nI 3, putl tr 0 [10, 70, 1])) := by
  have z1 : ((1 : Int32) = 0) = False := by decide
  refine ⟨(((a + nI x) * 2) * 2), fun tr => ?_, fun tr => ?_⟩
  · unfold t_run
    simp (disch := decide) only [g_run_40, g_run_39, g_run_38, g_run_37, g_run_36, g_run_35, g_run_34, g_run_33, g_run_32, g_run_31, g_run_30, g_run_29, g_run_28, g_run_27, g_run_26, g_run_25, g_run_24, g_run_23, g_run_22, g_run_21, rn_0_0, rn_0_1, rn_0_2, rn_0_3, rn_1_0, rn_1_1, rn_1_2, rn_1_3, rn_2_0, rn_2_1, rn_2_2, rn_2_3, rn_3_0, rn_3_1, rn_3_2, rn_3_3, rn_4_0, rn_4_1, rn_4_2, rn_4_3, rn_5_0, rn_5_1, rn_5_2, rn_5_3, rn_6_0, rn_6_1, rn_6_2, rn_6_3, rn_7_0, rn_7_1, rn_7_2, rn_7_3, bd_of, Nat.zero_add, Nat.reduceAdd]
    rfl
  · simp (maxSteps := 4000000) (disch := decide) only [f_X7_digs, f_X7_plainDigs, f_X7_toldDigs, f_X7_plainReaches, f_X7_evenReaches, f_X7_plainNears, f_X7_nears, f_X7_reaches, f_X7_plainTells, f_X7_lineTells, f_X7_telling, ix_nI hx (by decide), cl_nI (show x < 2 ^ 31 by omega), hk, un_6, nk_6_0, nk_6_1, nk_6_2, nk_6_3, nk_6_4, nk_6_5, nk_6_6, nk_6_7, bd_of, if_true, if_false, z1, s_ran, Nat.zero_add, Nat.reduceAdd]
    rfl
set_option maxRecDepth 4000 in
theorem ac_6_2 (a : Int32) {x : Nat} (hx : x < 50) (K : Nat → Int32) (hk : K x = nI 6) : ∃ v : Int32, (∀ tr, t_run (nI 6) (nI 2) a (nI 0) tr (nI 0) (nI x) (nI 6) = some (v, putl tr 0 [11], nI 1)) ∧ (∀ tr, f_X7_nears (nI x) a K (nI 0) tr = some (v, nI 1, putl tr 0 [11])) := by
  have z1 : ((1 : Int32) = 0) = False := by decide
  refine ⟨(a ^^^ nI x), fun tr => ?_, fun tr => ?_⟩
  · unfold t_run
    simp (disch := decide) only [g_run_40, g_run_39, g_run_38, g_run_37, g_run_36, g_run_35, g_run_34, g_run_33, g_run_32, g_run_31, g_run_30, g_run_29, g_run_28, g_run_27, g_run_26, g_run_25, g_run_24, g_run_23, g_run_22, g_run_21, rn_0_0, rn_0_1, rn_0_2, rn_0_3, rn_1_0, rn_1_1, rn_1_2, rn_1_3, rn_2_0, rn_2_1, rn_2_2, rn_2_3, rn_3_0, rn_3_1, rn_3_2, rn_3_3, rn_4_0, rn_4_1, rn_4_2, rn_4_3, rn_5_0, rn_5_1, rn_5_2, rn_5_3, rn_6_0, rn_6_1, rn_6_2, rn_6_3, rn_7_0, rn_7_1, rn_7_2, rn_7_3, bd_of, Nat.zero_add, Nat.reduceAdd]
    rfl
  · simp (maxSteps := 4000000) (disch := decide) only [f_X7_digs, f_X7_plainDigs, f_X7_toldDigs, f_X7_plainReaches, f_X7_evenReaches, f_X7_plainNears, f_X7_nears, f_X7_reaches, f_X7_plainTells, f_X7_lineTells, f_X7_telling, ix_nI hx (by decide), cl_nI (show x < 2 ^ 31 by omega), hk, un_6, nk_6_0, nk_6_1, nk_6_2, nk_6_3, nk_6_4, nk_6_5, nk_6_6, nk_6_7, bd_of, if_true, if_false, z1, s_ran, Nat.zero_add, Nat.reduceAdd]
    rfl
set_option maxRecDepth 4000 in
theorem ac_6_3 (a : Int32) {x : Nat} (hx : x < 50) (K : Nat → Int32) (hk : K x = nI 6) : ∃ v : Int32, (∀ tr, t_run (nI 6) (nI 3) a (nI 0) tr (nI 0) (nI x) (nI 6) = some (v, putl tr 0 [2, 10, 70, 1, 11], nI 5)) ∧ (∀ tr, f_X7_telling (nI x) a K (nI 0) tr = some (v, nI 5, putl tr 0 [2, 10, 70, 1, 11])) := by
  have z1 : ((1 : Int32) = 0) = False := by decide
  refine ⟨((((a + nI x) * 2) * 2) - (1 ^^^ nI x)), fun tr => ?_, fun tr => ?_⟩
  · unfold t_run
    simp (disch := decide) only [g_run_40, g_run_39, g_run_38, g_run_37, g_run_36, g_run_35, g_run_34, g_run_33, g_run_32, g_run_31, g_run_30, g_run_29, g_run_28, g_run_27, g_run_26, g_run_25, g_run_24, g_run_23, g_run_22, g_run_21, rn_0_0, rn_0_1, rn_0_2, rn_0_3, rn_1_0, rn_1_1, rn_1_2, rn_1_3, rn_2_0, rn_2_1, rn_2_2, rn_2_3, rn_3_0, rn_3_1, rn_3_2, rn_3_3, rn_4_0, rn_4_1, rn_4_2, rn_4_3, rn_5_0, rn_5_1, rn_5_2, rn_5_3, rn_6_0, rn_6_1, rn_6_2, rn_6_3, rn_7_0, rn_7_1, rn_7_2, rn_7_3, bd_of, Nat.zero_add, Nat.reduceAdd]
    rfl
  · simp (maxSteps := 4000000) (disch := decide) only [f_X7_digs, f_X7_plainDigs, f_X7_toldDigs, f_X7_plainReaches, f_X7_evenReaches, f_X7_plainNears, f_X7_nears, f_X7_reaches, f_X7_plainTells, f_X7_lineTells, f_X7_telling, ix_nI hx (by decide), cl_nI (show x < 2 ^ 31 by omega), hk, un_6, nk_6_0, nk_6_1, nk_6_2, nk_6_3, nk_6_4, nk_6_5, nk_6_6, nk_6_7, bd_of, if_true, if_false, z1, s_ran, Nat.zero_add, Nat.reduceAdd]
    rfl
set_option maxRecDepth 4000 in
theorem ac_7_0 (a : Int32) {x : Nat} (hx : x < 50) (K : Nat → Int32) (hk : K x = nI 7) : ∃ v : Int32, (∀ tr, t_run (nI 7) (nI 0) a (nI 0) tr (nI 0) (nI x) (nI 7) = some (v, putl tr 0 [81, 70, 1], nI 3)) ∧ (∀ tr, f_X7_digs (nI x) a K (nI 0) tr = some (v, nI 3, putl tr 0 [81, 70, 1])) := by
  have z1 : ((1 : Int32) = 0) = False := by decide
  refine ⟨(((a + nI x) * 2) - 1), fun tr => ?_, fun tr => ?_⟩
  · unfold t_run
    simp (disch := decide) only [g_run_40, g_run_39, g_run_38, g_run_37, g_run_36, g_run_35, g_run_34, g_run_33, g_run_32, g_run_31, g_run_30, g_run_29, g_run_28, g_run_27, g_run_26, g_run_25, g_run_24, g_run_23, g_run_22, g_run_21, rn_0_0, rn_0_1, rn_0_2, rn_0_3, rn_1_0, rn_1_1, rn_1_2, rn_1_3, rn_2_0, rn_2_1, rn_2_2, rn_2_3, rn_3_0, rn_3_1, rn_3_2, rn_3_3, rn_4_0, rn_4_1, rn_4_2, rn_4_3, rn_5_0, rn_5_1, rn_5_2, rn_5_3, rn_6_0, rn_6_1, rn_6_2, rn_6_3, rn_7_0, rn_7_1, rn_7_2, rn_7_3, bd_of, Nat.zero_add, Nat.reduceAdd]
    rfl
  · simp (maxSteps := 4000000) (disch := decide) only [f_X7_digs, f_X7_plainDigs, f_X7_toldDigs, f_X7_plainReaches, f_X7_evenReaches, f_X7_plainNears, f_X7_nears, f_X7_reaches, f_X7_plainTells, f_X7_lineTells, f_X7_telling, ix_nI hx (by decide), cl_nI (show x < 2 ^ 31 by omega), hk, un_7, nk_7_0, nk_7_1, nk_7_2, nk_7_3, nk_7_4, nk_7_5, nk_7_6, nk_7_7, bd_of, if_true, if_false, z1, s_ran, Nat.zero_add, Nat.reduceAdd]
    rfl
set_option maxRecDepth 4000 in
theorem ac_7_1 (a : Int32) {x : Nat} (hx : x < 50) (K : Nat → Int32) (hk : K x = nI 7) : ∃ v : Int32, (∀ tr, t_run (nI 7) (nI 1) a (nI 0) tr (nI 0) (nI x) (nI 7) = some (v, putl tr 0 [80, 10, 81, 70, 1, 11], nI 6)) ∧ (∀ tr, f_X7_reaches (nI x) a K (nI 0) tr = some (v, nI 6, putl tr 0 [80, 10, 81, 70, 1, 11])) := by
  have z1 : ((1 : Int32) = 0) = False := by decide
  refine ⟨(((((a + nI x) * 2) - 1) * 2) + (2 ^^^ nI x)), fun tr => ?_, fun tr => ?_⟩
  · unfold t_run
    simp (disch := decide) only [g_run_40, g_run_39, g_run_38, g_run_37, g_run_36, g_run_35, g_run_34, g_run_33, g_run_32, g_run_31, g_run_30, g_run_29, g_run_28, g_run_27, g_run_26, g_run_25, g_run_24, g_run_23, g_run_22, g_run_21, rn_0_0, rn_0_1, rn_0_2, rn_0_3, rn_1_0, rn_1_1, rn_1_2, rn_1_3, rn_2_0, rn_2_1, rn_2_2, rn_2_3, rn_3_0, rn_3_1, rn_3_2, rn_3_3, rn_4_0, rn_4_1, rn_4_2, rn_4_3, rn_5_0, rn_5_1, rn_5_2, rn_5_3, rn_6_0, rn_6_1, rn_6_2, rn_6_3, rn_7_0, rn_7_1, rn_7_2, rn_7_3, bd_of, Nat.zero_add, Nat.reduceAdd]
    rfl
  · simp (maxSteps := 4000000) (disch := decide) only [f_X7_digs, f_X7_plainDigs, f_X7_toldDigs, f_X7_plainReaches, f_X7_evenReaches, f_X7_plainNears, f_X7_nears, f_X7_reaches, f_X7_plainTells, f_X7_lineTells, f_X7_telling, ix_nI hx (by decide), cl_nI (show x < 2 ^ 31 by omega), hk, un_7, nk_7_0, nk_7_1, nk_7_2, nk_7_3, nk_7_4, nk_7_5, nk_7_6, nk_7_7, bd_of, if_true, if_false, z1, s_ran, Nat.zero_add, Nat.reduceAdd]
    rfl
set_option maxRecDepth 4000 in
theorem ac_7_2 (a : Int32) {x : Nat} (hx : x < 50) (K : Nat → Int32) (hk : K x = nI 7) : ∃ v : Int32, (∀ tr, t_run (nI 7) (nI 2) a (nI 0) tr (nI 0) (nI x) (nI 7) = some (v, putl tr 0 [11], nI 1)) ∧ (∀ tr, f_X7_nears (nI x) a K (nI 0) tr = some (v, nI 1, putl tr 0 [11])) := by
  have z1 : ((1 : Int32) = 0) = False := by decide
  refine ⟨(a ^^^ nI x), fun tr => ?_, fun tr => ?_⟩
  · unfold t_run
    simp (disch := decide) only [g_run_40, g_run_39, g_run_38, g_run_37, g_run_36, g_run_35, g_run_34, g_run_33, g_run_32, g_run_31, g_run_30, g_run_29, g_run_28, g_run_27, g_run_26, g_run_25, g_run_24, g_run_23, g_run_22, g_run_21, rn_0_0, rn_0_1, rn_0_2, rn_0_3, rn_1_0, rn_1_1, rn_1_2, rn_1_3, rn_2_0, rn_2_1, rn_2_2, rn_2_3, rn_3_0, rn_3_1, rn_3_2, rn_3_3, rn_4_0, rn_4_1, rn_4_2, rn_4_3, rn_5_0, rn_5_1, rn_5_2, rn_5_3, rn_6_0, rn_6_1, rn_6_2, rn_6_3, rn_7_0, rn_7_1, rn_7_2, rn_7_3, bd_of, Nat.zero_add, Nat.reduceAdd]
    rfl
  · simp (maxSteps := 4000000) (disch := decide) only [f_X7_digs, f_X7_plainDigs, f_X7_toldDigs, f_X7_plainReaches, f_X7_evenReaches, f_X7_plainNears, f_X7_nears, f_X7_reaches, f_X7_plainTells, f_X7_lineTells, f_X7_telling, ix_nI hx (by decide), cl_nI (show x < 2 ^ 31 by omega), hk, un_7, nk_7_0, nk_7_1, nk_7_2, nk_7_3, nk_7_4, nk_7_5, nk_7_6, nk_7_7, bd_of, if_true, if_false, z1, s_ran, Nat.zero_add, Nat.reduceAdd]
    rfl
set_option maxRecDepth 4000 in
theorem ac_7_3 (a : Int32) {x : Nat} (hx : x < 50) (K : Nat → Int32) (hk : K x = nI 7) : ∃ v : Int32, (∀ tr, t_run (nI 7) (nI 3) a (nI 0) tr (nI 0) (nI x) (nI 7) = some (v, putl tr 0 [2, 80, 10, 81, 70, 1, 11, 11], nI 8)) ∧ (∀ tr, f_X7_telling (nI x) a K (nI 0) tr = some (v, nI 8, putl tr 0 [2, 80, 10, 81, 70, 1, 11, 11])) := by
  have z1 : ((1 : Int32) = 0) = False := by decide
  refine ⟨((((((a + nI x) * 2) - 1) * 2) + (2 ^^^ nI x)) - (1 ^^^ nI x)), fun tr => ?_, fun tr => ?_⟩
  · unfold t_run
    simp (disch := decide) only [g_run_40, g_run_39, g_run_38, g_run_37, g_run_36, g_run_35, g_run_34, g_run_33, g_run_32, g_run_31, g_run_30, g_run_29, g_run_28, g_run_27, g_run_26, g_run_25, g_run_24, g_run_23, g_run_22, g_run_21, rn_0_0, rn_0_1, rn_0_2, rn_0_3, rn_1_0, rn_1_1, rn_1_2, rn_1_3, rn_2_0, rn_2_1, rn_2_2, rn_2_3, rn_3_0, rn_3_1, rn_3_2, rn_3_3, rn_4_0, rn_4_1, rn_4_2, rn_4_3, rn_5_0, rn_5_1, rn_5_2, rn_5_3, rn_6_0, rn_6_1, rn_6_2, rn_6_3, rn_7_0, rn_7_1, rn_7_2, rn_7_3, bd_of, Nat.zero_add, Nat.reduceAdd]
    rfl
  · simp (maxSteps := 4000000) (disch := decide) only [f_X7_digs, f_X7_plainDigs, f_X7_toldDigs, f_X7_plainReaches, f_X7_evenReaches, f_X7_plainNears, f_X7_nears, f_X7_reaches, f_X7_plainTells, f_X7_lineTells, f_X7_telling, ix_nI hx (by decide), cl_nI (show x < 2 ^ 31 by omega), hk, un_7, nk_7_0, nk_7_1, nk_7_2, nk_7_3, nk_7_4, nk_7_5, nk_7_6, nk_7_7, bd_of, if_true, if_false, z1, s_ran, Nat.zero_add, Nat.reduceAdd]
    rfl
