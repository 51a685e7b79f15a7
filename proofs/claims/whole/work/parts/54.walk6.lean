/-! the class's walk from one door -/
theorem wk_fill {x1 : Nat} (h1 : x1 < 14) (B : Nat → Int32) :
    ∀ (r f x2 : Nat) (W : Nat → Nat → Int32), r + x2 = 14 → f ≥ r + 1 →
    ∃ W', f_X3_walk_b2 (nI x1) B f (nI x2) W = f_X3_walk_b33 (nI x1) B fuel (1 <<< (nI x1 &&& 31)) (1 <<< (nI x1 &&& 31)) 0 W' ∧ (∀ b, x2 ≤ b → b < 14 → W' x1 b = 99) ∧ (∀ b, b < x2 → W' x1 b = W x1 b) ∧ (∀ a, a ≠ x1 → W' a = W a)
  | 0, f + 1, x2, W, h, hf => by
    have e : x2 = 14 := by omega
    subst e
    refine ⟨W, ?_, fun b q1 q2 => by omega, fun _ _ => rfl, fun _ _ => rfl⟩
    rw [f_X3_walk_b2, if_pos (by decide)]
  | r + 1, f + 1, x2, W, h, hf => by
    obtain ⟨W', g1, g2, g3, g4⟩ := wk_fill h1 B r f (x2 + 1) (updR W x1 (upd (W x1) x2 99)) (by omega) (by omega)
    refine ⟨W', ?_, fun b q1 q2 => ?_, fun b q => ?_, fun a q => ?_⟩
    · rw [f_X3_walk_b2, if_neg (by rw [L_14, le_nI (by decide) (by omega)]; omega), ix_nI h1 (by decide), ix_nI (show x2 < 14 by omega) (by decide), cl_nI (by omega), cl_nI (by omega), nI_1]
      exact g1
    · by_cases e : b = x2
      · subst e
        rw [g3 b (by omega), updR_eq, upd_eq (α := Nat)]
      · exact g2 b (by omega) q2
    · rw [g3 b (by omega), updR_eq, upd_ne (by omega)]
    · rw [g4 a q, updR_ne q]
  | _, 0, _, _, _, hf => by omega
theorem wk_edge {x1 k : Nat} (h1 : x1 < 14) (k33 : Int32 → Int32 → Int32 → (Nat → Nat → Int32) → Option (Nat → Nat → Int32)) {B : Nat → Int32} {N : Nat → Nat → Prop} (hB : ∀ c, c < 14 → isBt (B c) (N c)) {x2 x3 : Int32} {E : Nat → Prop} (hE : isBt x3 E) :
    ∀ (r f x6 : Nat) (x5 : Int32) (Q : Nat → Prop) (W : Nat → Nat → Int32), r + x6 = 14 → f ≥ r + 1 → isBt x5 Q →
    ∃ y W', f_X3_walk_b50 k33 (nI x1) x2 x3 (nI k) B f x5 (nI x6) W = k33 (x2 ||| (y &&& (x2 ^^^ (-1)))) (y &&& (x2 ^^^ (-1))) (nI (k + 1)) W' ∧ isBt y (fun d => Q d ∨ ∃ c, x6 ≤ c ∧ c < 14 ∧ E c ∧ N c d) ∧ (∀ b, x6 ≤ b → b < 14 → E b → W' x1 b = nI k) ∧ (∀ b, b < x6 ∨ ¬ E b → W' x1 b = W x1 b) ∧ (∀ a, a ≠ x1 → W' a = W a)
  | 0, f + 1, x6, x5, Q, W, h, hf, hQ => by
    have e : x6 = 14 := by omega
    subst e
    refine ⟨x5, W, ?_, isB_c hQ fun d _ => ⟨Or.inl, ?_⟩, fun b q1 q2 => by omega, fun _ _ => rfl, fun _ _ => rfl⟩
    · rw [f_X3_walk_b50, if_pos (by decide), nI_1]
    · rintro (q | ⟨c, c1, c2, -⟩)
      · exact q
      · omega
  | r + 1, f + 1, x6, x5, Q, W, h, hf, hQ => by
    have h6 : x6 < 14 := by omega
    by_cases q : E x6
    · obtain ⟨y, W', g1, g2, g3, g4, g5⟩ := wk_edge h1 k33 hB (x2 := x2) hE r f (x6 + 1) (x5 ||| B x6) _ (updR W x1 (upd (W x1) x6 (nI k))) (by omega) (by omega) (isB_or hQ (hB x6 h6))
      refine ⟨y, W', ?_, isB_c g2 fun d _ => ?_, fun b q1 q2 q3 => ?_, fun b q1 => ?_, fun a q1 => ?_⟩
      · rw [f_X3_walk_b50, if_neg (by rw [L_14, le_nI (by decide) (by omega)]; omega), if_neg (by rw [isB_t0 hE h6]; exact fun z => z q), ix_nI h1 (by decide), ix_nI h6 (by decide), ix_nI h6 (by decide), cl_nI (by omega), cl_nI (by omega)]
        unfold f_X3_walk_b89
        rw [nI_1]
        exact g1
      · constructor
        · rintro ((z | z) | ⟨c, c1, c2, c3⟩)
          · exact Or.inl z
          · exact Or.inr ⟨x6, Nat.le_refl _, h6, q, z⟩
          · exact Or.inr ⟨c, by omega, c2, c3⟩
        · rintro (z | ⟨c, c1, c2, c3, c4⟩)
          · exact Or.inl (Or.inl z)
          · by_cases e : c = x6
            · subst e
              exact Or.inl (Or.inr c4)
            · exact Or.inr ⟨c, by omega, c2, c3, c4⟩
      · by_cases e : b = x6
        · subst e
          rw [g4 b (Or.inl (by omega)), updR_eq, upd_eq (α := Nat)]
        · exact g3 b (by omega) q2 q3
      · have e : b ≠ x6 := by
          rintro rfl
          rcases q1 with z | z
          · omega
          · exact z q
        rw [g4 b (by rcases q1 with z | z; exact Or.inl (by omega); exact Or.inr z), updR_eq, upd_ne e]
      · rw [g5 a q1, updR_ne q1]
    · obtain ⟨y, W', g1, g2, g3, g4, g5⟩ := wk_edge h1 k33 hB (x2 := x2) hE r f (x6 + 1) x5 Q W (by omega) (by omega) hQ
      refine ⟨y, W', ?_, isB_c g2 fun d _ => ?_, fun b q1 q2 q3 => ?_, fun b q1 => ?_, g5⟩
      · rw [f_X3_walk_b50, if_neg (by rw [L_14, le_nI (by decide) (by omega)]; omega), if_pos (by rw [isB_t0 hE h6]; exact q)]
        unfold f_X3_walk_b89
        rw [nI_1]
        exact g1
      · constructor
        · rintro (z | ⟨c, c1, c2, c3⟩)
          · exact Or.inl z
          · exact Or.inr ⟨c, by omega, c2, c3⟩
        · rintro (z | ⟨c, c1, c2, c3, c4⟩)
          · exact Or.inl z
          · by_cases e : c = x6
            · subst e
              exact absurd c3 q
            · exact Or.inr ⟨c, by omega, c2, c3, c4⟩
      · by_cases e : b = x6
        · subst e
          exact absurd q3 q
        · exact g3 b (by omega) q2 q3
      · exact g4 b (by rcases q1 with z | z; exact Or.inl (by omega); exact Or.inr z)
  | _, 0, _, _, _, _, _, hf, _ => by omega
/-- a least walk of k joins -/
def zLW (R : Nat → Nat → Prop) (a k b : Nat) : Prop := Wk R k a b ∧ ∀ j, j < k → ¬ Wk R j a b
theorem wk_end {R : Nat → Nat → Prop} {n x1 k : Nat} (hn : n ≤ 14) (hR : ∀ a b, R a b → a < n ∧ b < n) {W : Nat → Nat → Int32}
    (hl : ∀ b j, b < 14 → j < k → zLW R x1 j b → W x1 b = nI j) (hz : ∀ b, b < 14 → (∀ j, j < k → ¬ Wk R j x1 b) → W x1 b = 99) (hk : ∀ b d, zLW R x1 d b → d < k) : ∀ b, b < 14 → W x1 b = nI (dd R x1 b) := by
  intro b hb
  rcases dd_is hn hR x1 b with ⟨h1, h2, h3⟩ | ⟨h1, h2⟩
  · exact hl b _ hb (hk b _ ⟨h2, h3⟩) ⟨h2, h3⟩
  · rw [hz b hb (fun j _ => h2 j), h1]
    rfl
theorem wk_out {R : Nat → Nat → Prop} {n x1 : Nat} (hn : n ≤ 14) (h1 : x1 < 14) (hR : ∀ a b, R a b → a < n ∧ b < n) {B : Nat → Int32} (hB : ∀ c, c < 14 → isBt (B c) (R c)) :
    ∀ (r f k : Nat) (x2 x3 : Int32) (W : Nat → Nat → Int32), r + k = 14 → f ≥ r + 1 → isBt x2 (fun b => ∃ j, j ≤ k ∧ Wk R j x1 b) → isBt x3 (zLW R x1 k) →
    (∀ b j, b < 14 → j < k → zLW R x1 j b → W x1 b = nI j) → (∀ b, b < 14 → (∀ j, j < k → ¬ Wk R j x1 b) → W x1 b = 99) →
    ∃ W', f_X3_walk_b33 (nI x1) B f x2 x3 (nI k) W = some W' ∧ (∀ b, b < 14 → W' x1 b = nI (dd R x1 b)) ∧ (∀ a, a ≠ x1 → W' a = W a)
  | 0, f + 1, k, x2, x3, W, h, hf, _, _, hl, hz => by
    have e : k = 14 := by omega
    subst e
    refine ⟨W, ?_, wk_end hn hR hl hz fun b d hd => ?_, fun _ _ => rfl⟩
    · rw [f_X3_walk_b33, if_pos (by decide)]
    · have := Wk_short hR hd.1 hd.2
      omega
  | r + 1, f + 1, k, x2, x3, W, h, hf, i2, i3, hl, hz => by
    by_cases q : x3 = 0
    · refine ⟨W, ?_, wk_end hn hR hl hz fun b d hd => ?_, fun _ _ => rfl⟩
      · rw [f_X3_walk_b33, if_neg (by rw [L_14, le_nI (by decide) (by omega)]; omega), if_pos q]
      · rw [isB_z i3] at q
        rcases Nat.lt_trichotomy d k with z | z | z
        · exact z
        · subst z
          have hb : b < 14 := by
            match d, hd with
            | 0, hd =>
              have e : x1 = b := hd.1
              omega
            | d + 1, hd =>
              obtain ⟨c, -, hr⟩ := hd.1
              have := hR _ _ hr
              omega
          exact absurd hd (q b hb)
        · obtain ⟨c, c1, c2, e, c3⟩ := Wk_pre d b hd.1 hd.2 k z
          exact absurd ⟨c1, c2⟩ (q c (by have := hR _ _ c3; omega))
    · rw [f_X3_walk_b33, if_neg (by rw [L_14, le_nI (by decide) (by omega)]; omega), if_neg q]
      obtain ⟨y, W1, g1, g2, g3, g4, g5⟩ := wk_edge h1 (f_X3_walk_b33 (nI x1) B f) hB (x2 := x2) (k := k) i3 14 fuel 0 0 _ W (by omega) (by unfold fuel; omega) isB_0
      have i4 : isBt (y &&& (x2 ^^^ (-1))) (zLW R x1 (k + 1)) := by
        refine isB_c (isB_not g2 i2) fun d hd => ⟨?_, ?_⟩
        · rintro ⟨(z | ⟨c, c1, c2, c3, c4⟩), z2⟩
          · exact z.elim
          · refine ⟨⟨c, c3.1, c4⟩, fun j hj hw => z2 ⟨j, by omega, hw⟩⟩
        · rintro ⟨⟨c, c1, c2⟩, c3⟩
          refine ⟨Or.inr ⟨c, Nat.zero_le _, by have := hR _ _ c2; omega, ⟨c1, fun j hj hw => c3 (j + 1) (by omega) ⟨c, hw, c2⟩⟩, c2⟩, ?_⟩
          rintro ⟨j, hj, hw⟩
          exact c3 j (by omega) hw
      have i5 : isBt (x2 ||| (y &&& (x2 ^^^ (-1)))) (fun b => ∃ j, j ≤ k + 1 ∧ Wk R j x1 b) := by
        refine isB_c (isB_or i2 i4) fun d hd => ⟨?_, ?_⟩
        · rintro (⟨j, hj, hw⟩ | hw)
          · exact ⟨j, by omega, hw⟩
          · exact ⟨k + 1, Nat.le_refl _, hw.1⟩
        · rintro ⟨j, hj, hw⟩
          by_cases z : ∃ j, j ≤ k ∧ Wk R j x1 d
          · exact Or.inl z
          · have e : j = k + 1 := by
              rcases Nat.lt_or_ge k j with y | y
              · omega
              · exact absurd ⟨j, y, hw⟩ z
            subst e
            exact Or.inr ⟨hw, fun i hi hw2 => z ⟨i, by omega, hw2⟩⟩
      obtain ⟨W', t1, t2, t3⟩ := wk_out hn h1 hR hB r f (k + 1) _ _ W1 (by omega) (by omega) i5 i4
        (fun b j hb hj hw => by
          by_cases e : j = k
          · subst e
            exact g3 b (Nat.zero_le _) hb hw
          · rw [g4 b (Or.inr fun z => z.2 j (by omega) hw.1)]
            exact hl b j hb (by omega) hw)
        (fun b hb hw => by
          rw [g4 b (Or.inr fun z => hw k (by omega) z.1)]
          exact hz b hb fun j hj => hw j (by omega))
      refine ⟨W', ?_, t2, fun a ha => by rw [t3 a ha, g5 a ha]⟩
      rw [← t1]
      exact g1
  | _, 0, _, _, _, _, _, hf, _, _, _, _ => by omega
theorem s_walk {R : Nat → Nat → Prop} {n x1 : Nat} (hn : n ≤ 14) (h1 : x1 < 14) (hR : ∀ a b, R a b → a < n ∧ b < n) {B : Nat → Int32} (hB : ∀ c, c < 14 → isBt (B c) (R c)) (W : Nat → Nat → Int32) :
    ∃ W', f_X3_walk (nI x1) W B = some W' ∧ (∀ b, b < 14 → W' x1 b = nI (dd R x1 b)) ∧ (∀ a, a ≠ x1 → W' a = W a) := by
  obtain ⟨W1, g1, g2, -, g4⟩ := wk_fill h1 B 14 fuel 0 W (by omega) (by unfold fuel; omega)
  have i3 : isBt ((1 : Int32) <<< (nI x1 &&& 31)) (zLW R x1 0) := by
    refine isB_c (isB_one h1) fun d _ => ⟨?_, ?_⟩
    · rintro rfl
      exact ⟨rfl, fun j hj => by omega⟩
    · intro h
      exact h.1.symm
  have i2 : isBt ((1 : Int32) <<< (nI x1 &&& 31)) (fun b => ∃ j, j ≤ 0 ∧ Wk R j x1 b) := by
    refine isB_c (isB_one h1) fun d _ => ⟨?_, ?_⟩
    · rintro rfl
      exact ⟨0, Nat.le_refl _, rfl⟩
    · rintro ⟨j, hj, hw⟩
      have e : j = 0 := by omega
      subst e
      exact hw.symm
  obtain ⟨W', t1, t2, t3⟩ := wk_out hn h1 hR hB 14 fuel 0 _ _ W1 (by omega) (by unfold fuel; omega) i2 i3 (fun b j hb hj => by omega) (fun b hb _ => g2 b (Nat.zero_le _) hb)
  refine ⟨W', ?_, t2, fun a ha => by rw [t3 a ha, g4 a ha]⟩
  unfold f_X3_walk
  exact g1.trans t1
