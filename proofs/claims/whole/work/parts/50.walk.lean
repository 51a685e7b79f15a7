/-! walks from door to door -/
/-- a walk of k joins -/
def Wk (R : Nat → Nat → Prop) : Nat → Nat → Nat → Prop
  | 0, a, b => a = b
  | k + 1, a, b => ∃ c, Wk R k a c ∧ R c b
/-- a walk of k joins, all doors between below m -/
def RW (R : Nat → Nat → Prop) (m : Nat) : Nat → Nat → Nat → Prop
  | 0, a, b => a = b
  | k + 1, a, b => ∃ c, RW R m k a c ∧ R c b ∧ (k = 0 ∨ c < m)
theorem Wk_app {R : Nat → Nat → Prop} {a m : Nat} {j : Nat} (h : Wk R j a m) : ∀ (k b : Nat), Wk R k m b → Wk R (j + k) a b
  | 0, b, hk => by
    have e : m = b := hk
    subst e
    exact h
  | k + 1, b, ⟨c, hc, hr⟩ => ⟨c, Wk_app h k c hc, hr⟩
theorem RW_of_Wk {R : Nat → Nat → Prop} {n : Nat} (hR : ∀ a b, R a b → a < n ∧ b < n) : ∀ (k a b : Nat), Wk R k a b → RW R n k a b
  | 0, _, _, h => h
  | k + 1, a, b, ⟨c, hc, hr⟩ => ⟨c, RW_of_Wk hR k a c hc, hr, Or.inr (hR c b hr).1⟩
theorem RW_step {R : Nat → Nat → Prop} {m : Nat} : ∀ (k a b : Nat), RW R (m + 1) k a b → RW R m k a b ∨ ∃ k1 k2, k1 + k2 ≤ k ∧ RW R m k1 a m ∧ RW R m k2 m b
  | 0, _, _, h => Or.inl h
  | k + 1, a, b, ⟨c, hc, hr, hk⟩ => by
    rcases RW_step k a c hc with h | ⟨k1, k2, h1, h2, h3⟩
    · by_cases q : k = 0 ∨ c < m
      · exact Or.inl ⟨c, h, hr, q⟩
      · have e : c = m := by omega
        subst e
        exact Or.inr ⟨k, 1, by omega, h, c, rfl, hr, Or.inl rfl⟩
    · by_cases q : k2 = 0 ∨ c < m
      · exact Or.inr ⟨k1, k2 + 1, by omega, h2, c, h3, hr, q⟩
      · have e : c = m := by omega
        subst e
        exact Or.inr ⟨k1, 1, by omega, h2, c, rfl, hr, Or.inl rfl⟩
/-- no more unlike numbers below n than n -/
theorem inj_le : ∀ (n m : Nat) (f : Nat → Nat), (∀ i, i < m → f i < n) → (∀ i j, i < m → j < m → f i = f j → i = j) → m ≤ n
  | 0, m, f, h, _ => by
    rcases Nat.eq_zero_or_pos m with e | e
    · omega
    · exact absurd (h 0 e) (by omega)
  | n + 1, 0, _, _, _ => by omega
  | n + 1, m + 1, f, h, hi => by
    have key : m ≤ n := by
      refine inj_le n m (fun i => if f i = n then f m else f i) (fun i hm => ?_) (fun i j hm hj e => ?_)
      · by_cases q : f i = n
        · rw [if_pos q]
          have h1 := h m (by omega)
          have h2 : f m ≠ n := fun z => by
            have := hi i m (by omega) (by omega) (by rw [q, z])
            omega
          omega
        · rw [if_neg q]
          have h1 := h i (by omega)
          omega
      · by_cases q : f i = n
        · by_cases q2 : f j = n
          · exact hi i j (by omega) (by omega) (by rw [q, q2])
          · simp only [if_pos q, if_neg q2] at e
            have := hi m j (by omega) (by omega) e
            omega
        · by_cases q2 : f j = n
          · simp only [if_neg q, if_pos q2] at e
            have := hi i m (by omega) (by omega) e
            omega
          · simp only [if_neg q, if_neg q2] at e
            exact hi i j (by omega) (by omega) e
    omega
/-- how far: the least walk, or 99 -/
def isD (R : Nat → Nat → Prop) (a b d : Nat) : Prop := (d ≤ 13 ∧ Wk R d a b ∧ ∀ k, k < d → ¬ Wk R k a b) ∨ (d = 99 ∧ ∀ k, ¬ Wk R k a b)
theorem isD_one {R : Nat → Nat → Prop} {a b d e : Nat} (h1 : isD R a b d) (h2 : isD R a b e) : d = e := by
  rcases h1 with ⟨x1, x2, x3⟩ | ⟨x1, x2⟩
  · rcases h2 with ⟨y1, y2, y3⟩ | ⟨y1, y2⟩
    · rcases Nat.lt_trichotomy d e with z | z | z
      · exact absurd x2 (y3 d z)
      · exact z
      · exact absurd y2 (x3 e z)
    · exact absurd x2 (y2 d)
  · rcases h2 with ⟨y1, y2, y3⟩ | ⟨y1, y2⟩
    · exact absurd y2 (x2 e)
    · omega
theorem least {P : Nat → Prop} : ∀ k, P k → ∃ d, d ≤ k ∧ P d ∧ ∀ j, j < d → ¬ P j := by
  intro k
  induction k using Nat.strongRecOn with
  | _ k ih =>
    intro h
    by_cases q : ∃ j, j < k ∧ P j
    · obtain ⟨j, hj, hp⟩ := q
      obtain ⟨d, h1, h2, h3⟩ := ih j hj hp
      exact ⟨d, by omega, h2, h3⟩
    · exact ⟨k, by omega, h, fun j hj hp => q ⟨j, hj, hp⟩⟩
/-- on a least walk each number below has its door -/
theorem Wk_pre {R : Nat → Nat → Prop} {a : Nat} : ∀ (d b : Nat), Wk R d a b → (∀ k, k < d → ¬ Wk R k a b) → ∀ j, j < d → ∃ c, Wk R j a c ∧ (∀ k, k < j → ¬ Wk R k a c) ∧ ∃ e, R c e
  | 0, b, _, _, j, hj => by omega
  | d + 1, b, ⟨c, hc, hr⟩, hm, j, hj => by
    have hcm : ∀ k, k < d → ¬ Wk R k a c := fun k hk hw => hm (k + 1) (by omega) ⟨c, hw, hr⟩
    by_cases e : j = d
    · subst e
      exact ⟨c, hc, hcm, b, hr⟩
    · exact Wk_pre d c hc hcm j (by omega)
/-- a least walk is shorter than the doors are many -/
theorem Wk_short {R : Nat → Nat → Prop} {n a b d : Nat} (hR : ∀ a b, R a b → a < n ∧ b < n) (h : Wk R d a b) (hm : ∀ k, k < d → ¬ Wk R k a b) : d = 0 ∨ d + 1 ≤ n := by
  by_cases h0 : d = 0
  · exact Or.inl h0
  refine Or.inr ?_
  have hb : b < n := by
    obtain ⟨e, rfl⟩ : ∃ e, d = e + 1 := ⟨d - 1, by omega⟩
    obtain ⟨c, -, hr⟩ := h
    exact (hR c b hr).2
  have hex : ∀ j, ∃ c, j ≤ d → Wk R j a c ∧ (∀ k, k < j → ¬ Wk R k a c) ∧ c < n := by
    intro j
    by_cases q : j < d
    · obtain ⟨c, h1, h2, e, h3⟩ := Wk_pre d b h hm j q
      exact ⟨c, fun _ => ⟨h1, h2, (hR c e h3).1⟩⟩
    · refine ⟨b, fun z => ?_⟩
      have e : j = d := by omega
      subst e
      exact ⟨h, hm, hb⟩
  have hf : ∃ f : Nat → Nat, ∀ j, j ≤ d → Wk R j a (f j) ∧ (∀ k, k < j → ¬ Wk R k a (f j)) ∧ f j < n := ⟨fun j => Classical.choose (hex j), fun j => Classical.choose_spec (hex j)⟩
  obtain ⟨f, hf⟩ := hf
  refine inj_le n (d + 1) f (fun i hi => (hf i (by omega)).2.2) (fun i j hi hj e => ?_)
  obtain ⟨i1, i2, -⟩ := hf i (by omega)
  obtain ⟨j1, j2, -⟩ := hf j (by omega)
  rcases Nat.lt_trichotomy i j with z | z | z
  · exact absurd (e ▸ i1) (j2 i z)
  · exact z
  · exact absurd (e ▸ j1) (i2 j z)
theorem isD_ex {R : Nat → Nat → Prop} {n : Nat} (hn : n ≤ 14) (hR : ∀ a b, R a b → a < n ∧ b < n) (a b : Nat) : ∃ d, isD R a b d := by
  by_cases h : ∃ k, Wk R k a b
  · obtain ⟨k, hk⟩ := h
    obtain ⟨d, -, h2, h3⟩ := least (P := fun k => Wk R k a b) k hk
    have := Wk_short hR h2 h3
    exact ⟨d, Or.inl ⟨by omega, h2, h3⟩⟩
  · exact ⟨99, Or.inr ⟨rfl, fun k hk => h ⟨k, hk⟩⟩⟩
/-- the number of how far -/
noncomputable def dd (R : Nat → Nat → Prop) (a b : Nat) : Nat := @dite _ (∃ d, isD R a b d) (Classical.propDecidable _) (fun h => Classical.choose h) (fun _ => 0)
theorem dd_is {R : Nat → Nat → Prop} {n : Nat} (hn : n ≤ 14) (hR : ∀ a b, R a b → a < n ∧ b < n) (a b : Nat) : isD R a b (dd R a b) := by
  have h := isD_ex hn hR a b
  unfold dd
  rw [dif_pos h]
  exact Classical.choose_spec h
theorem dd_eq {R : Nat → Nat → Prop} {n : Nat} (hn : n ≤ 14) (hR : ∀ a b, R a b → a < n ∧ b < n) {a b d : Nat} (h : isD R a b d) : dd R a b = d := isD_one (dd_is hn hR a b) h
theorem dd_le {R : Nat → Nat → Prop} {n : Nat} (hn : n ≤ 14) (hR : ∀ a b, R a b → a < n ∧ b < n) (a b : Nat) : dd R a b ≤ 99 := by
  rcases dd_is hn hR a b with h | h
  · omega
  · omega
/-- what lies between the least walk and a walk is the least walk -/
theorem dd_of {R : Nat → Nat → Prop} {n : Nat} (hn : n ≤ 14) (hR : ∀ a b, R a b → a < n ∧ b < n) {a b v : Nat} (h99 : v ≤ 99) (hs : v < 99 → Wk R v a b) (hc : ∀ k, Wk R k a b → v ≤ k) : dd R a b = v := by
  rcases dd_is hn hR a b with ⟨h1, h2, h3⟩ | ⟨h1, h2⟩
  · have h4 := hc _ h2
    rcases Nat.lt_or_ge v (dd R a b) with z | z
    · exact absurd (hs (by omega)) (h3 v z)
    · omega
  · rcases Nat.lt_or_ge v 99 with z | z
    · exact absurd (hs z) (h2 v)
    · omega
