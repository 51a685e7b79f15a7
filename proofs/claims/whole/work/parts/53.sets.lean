/-! sets of doors as ints -/
def isBt (x : Int32) (P : Nat → Prop) : Prop := ∃ u : Nat, u < 2 ^ 14 ∧ x = nI u ∧ ∀ d, d < 14 → (u.testBit d = true ↔ P d)
theorem isB_c {x : Int32} {P Q : Nat → Prop} (h : isBt x P) (hq : ∀ d, d < 14 → (P d ↔ Q d)) : isBt x Q := by
  obtain ⟨u, h1, h2, h3⟩ := h
  exact ⟨u, h1, h2, fun d hd => (h3 d hd).trans (hq d hd)⟩
theorem isB_0 : isBt 0 (fun _ => False) := ⟨0, by decide, rfl, fun d _ => by simp⟩
theorem isB_n {w : Nat} (hw : w < 2 ^ 14) : isBt (nI w) (fun d => w.testBit d = true) := ⟨w, hw, rfl, fun _ _ => Iff.rfl⟩
theorem isB_or {x y : Int32} {P Q : Nat → Prop} (h : isBt x P) (g : isBt y Q) : isBt (x ||| y) (fun d => P d ∨ Q d) := by
  obtain ⟨u, h1, rfl, h3⟩ := h
  obtain ⟨w, g1, rfl, g3⟩ := g
  refine ⟨u ||| w, Nat.or_lt_two_pow h1 g1, nb_or u w, fun d hd => ?_⟩
  rw [Nat.testBit_or, Bool.or_eq_true, h3 d hd, g3 d hd]
theorem isB_and {x y : Int32} {P Q : Nat → Prop} (h : isBt x P) (g : isBt y Q) : isBt (x &&& y) (fun d => P d ∧ Q d) := by
  obtain ⟨u, h1, rfl, h3⟩ := h
  obtain ⟨w, g1, rfl, g3⟩ := g
  refine ⟨u &&& w, Nat.and_lt_two_pow u g1, nb_and u w, fun d hd => ?_⟩
  rw [Nat.testBit_and, Bool.and_eq_true, h3 d hd, g3 d hd]
theorem isB_not {x y : Int32} {P Q : Nat → Prop} (h : isBt x P) (g : isBt y Q) : isBt (x &&& (y ^^^ (-1))) (fun d => P d ∧ ¬ Q d) := by
  obtain ⟨u, h1, rfl, h3⟩ := h
  obtain ⟨w, g1, rfl, g3⟩ := g
  refine ⟨u ^^^ (u &&& w), Nat.xor_lt_two_pow h1 (Nat.and_lt_two_pow u g1), nb_not u w, fun d hd => ?_⟩
  show _ ↔ P d ∧ ¬ Q d
  rw [← h3 d hd, ← g3 d hd, Nat.testBit_xor, Nat.testBit_and]
  cases u.testBit d <;> cases w.testBit d <;> simp
theorem isB_one {c : Nat} (hc : c < 14) : isBt ((1 : Int32) <<< (nI c &&& 31)) (fun d => d = c) := by
  refine ⟨2 ^ c, Nat.pow_lt_pow_right (by decide) hc, nb_shl c (by omega), fun d _ => ?_⟩
  rw [Nat.testBit_two_pow, decide_eq_true_iff]
  exact eq_comm
theorem isB_add {x : Int32} {P : Nat → Prop} (h : isBt x P) {c : Nat} (hc : c < 14) : isBt (x ||| ((1 : Int32) <<< (nI c &&& 31))) (fun d => P d ∨ d = c) := isB_or h (isB_one hc)
theorem isB_t0 {x : Int32} {P : Nat → Prop} (h : isBt x P) {d : Nat} (hd : d < 14) : ((x >>> (nI d &&& 31)) &&& 1 = 0) = ¬ P d := by
  obtain ⟨u, h1, rfl, h3⟩ := h
  rw [tb0 (by omega) (by omega), ← h3 d hd]
  simp
theorem isB_t1 {x : Int32} {P : Nat → Prop} (h : isBt x P) {d : Nat} (hd : d < 14) : ((x >>> (nI d &&& 31)) &&& 1 = 1) = P d := by
  obtain ⟨u, h1, rfl, h3⟩ := h
  rw [tb1 (by omega) (by omega), ← h3 d hd]
theorem n14_eq {u w : Nat} (hu : u < 2 ^ 14) (hw : w < 2 ^ 14) (h : ∀ d, d < 14 → (u.testBit d = true ↔ w.testBit d = true)) : u = w := by
  apply Nat.eq_of_testBit_eq
  intro i
  by_cases hi : i < 14
  · have := h i hi
    cases h1 : u.testBit i <;> cases h2 : w.testBit i <;> simp [h1, h2] at this ⊢
  · have hp : 2 ^ 14 ≤ 2 ^ i := Nat.pow_le_pow_right (by decide) (by omega)
    rw [Nat.testBit_lt_two_pow (Nat.lt_of_lt_of_le hu hp), Nat.testBit_lt_two_pow (Nat.lt_of_lt_of_le hw hp)]
theorem isB_eq {x y : Int32} {P Q : Nat → Prop} (h : isBt x P) (g : isBt y Q) : (x = y) = ∀ d, d < 14 → (P d ↔ Q d) := by
  obtain ⟨u, h1, rfl, h3⟩ := h
  obtain ⟨w, g1, rfl, g3⟩ := g
  rw [eq_nI (by omega) (by omega)]
  apply propext
  constructor
  · rintro rfl d hd
    exact (h3 d hd).symm.trans (g3 d hd)
  · intro q
    exact n14_eq h1 g1 fun d hd => ((h3 d hd).trans (q d hd)).trans (g3 d hd).symm
theorem isB_z {x : Int32} {P : Nat → Prop} (h : isBt x P) : (x = 0) = ∀ d, d < 14 → ¬ P d := by
  rw [isB_eq h isB_0]
  apply propext
  constructor
  · intro q d hd
    exact fun z => (q d hd).mp z
  · intro q d hd
    exact ⟨fun z => q d hd z, False.elim⟩
/-- classical 0 or 1 -/
noncomputable def b01 (p : Prop) : Int32 := @ite _ p (Classical.propDecidable p) 1 0
theorem b01_t {p : Prop} (h : p) : b01 p = 1 := @if_pos p (Classical.propDecidable p) h _ _ _
theorem b01_f {p : Prop} (h : ¬ p) : b01 p = 0 := @if_neg p (Classical.propDecidable p) h _ _ _
theorem b01_0 {p : Prop} : (b01 p = 0) = ¬ p := by
  by_cases h : p
  · rw [b01_t h]
    simp [h]
  · rw [b01_f h]
    simp [h]
theorem b01_if {α : Type} {p : Prop} {a b : α} : (if b01 p = 0 then a else b) = @ite _ p (Classical.propDecidable p) b a := by
  by_cases h : p
  · rw [b01_t h, @if_pos p (Classical.propDecidable p) h, if_neg (by decide)]
  · rw [b01_f h, @if_neg p (Classical.propDecidable p) h, if_pos rfl]
theorem updR_eq {α : Type} {f : Nat → Nat → α} {i : Nat} {g : Nat → α} : updR f i g i = g := if_pos rfl
theorem updR_ne {α : Type} {f : Nat → Nat → α} {i j : Nat} {g : Nat → α} (h : j ≠ i) : updR f i g j = f j := if_neg h
theorem ite_eqc {α : Type} {c c' : Prop} {i : Decidable c} (h : c = c') {a b : α} : @ite α c i a b = @ite α c' (Classical.propDecidable c') a b := by
  subst h
  by_cases q : c
  · rw [if_pos q, if_pos q]
  · rw [if_neg q, if_neg q]
theorem ix_0 {α : Type} {N : Nat} {k : Option α} (h : 0 < N) (hN : N < 2 ^ 31) : ix 0 N k = k := ix_nI (i := 0) h hN
