/-! the class's plan, laid -/
theorem so_loop {n : Nat} (hn : n ≤ 14) {T_price : Nat → Int32} (hp : ∀ i, i < n → le_ (T_price i) 99) :
    ∀ (r f x2 : Nat) (x1 : Int32) (Q : Nat → Prop), r + x2 = n → f ≥ r + 1 → isBt x1 Q →
    ∃ y, f_X5_soil_b4 T_price (nI n) f x1 (nI x2) = some y ∧ isBt y (fun d => Q d ∨ (x2 ≤ d ∧ d < n ∧ ¬ T_price d = 0))
  | 0, f + 1, x2, x1, Q, h, hf, i1 => by
    have e : x2 = n := by omega
    subst e
    refine ⟨x1, by rw [f_X5_soil_b4, if_pos (by rw [le_nI (by omega) (by omega)]; omega)], isB_c i1 fun d _ => ⟨Or.inl, ?_⟩⟩
    rintro (z | ⟨z, y, -⟩)
    · exact z
    · omega
  | r + 1, f + 1, x2, x1, Q, h, hf, i1 => by
    obtain ⟨p, hp1, hp2⟩ := hp x2 (by omega)
    have A1 : ∃ x1', isBt x1' (fun d => Q d ∨ (d = x2 ∧ ¬ T_price d = 0)) ∧ f_X5_soil_b4 T_price (nI n) (f + 1) x1 (nI x2) = f_X5_soil_b4 T_price (nI n) f x1' (nI (x2 + 1)) := by
      rw [f_X5_soil_b4, if_neg (by rw [le_nI (by omega) (by omega)]; omega), ix_nI (show x2 < 14 by omega) (by decide), cl_nI (by omega)]
      unfold f_X5_soil_b29
      rw [nI_1]
      by_cases q : T_price x2 = 0
      · refine ⟨x1 ||| 0, ?_, by rw [if_pos (by rw [q]; decide)]⟩
        refine isB_c (isB_or i1 isB_0) fun d _ => ⟨?_, ?_⟩
        · rintro (z | z)
          · exact Or.inl z
          · exact z.elim
        · rintro (z | ⟨rfl, z⟩)
          · exact Or.inl z
          · exact absurd q z
      · refine ⟨x1 ||| ((1 : Int32) <<< (nI x2 &&& 31)), ?_, ?_⟩
        · refine isB_c (isB_add i1 (show x2 < 14 by omega)) fun d _ => ⟨?_, ?_⟩
          · rintro (z | rfl)
            · exact Or.inl z
            · exact Or.inr ⟨rfl, q⟩
          · rintro (z | ⟨z, -⟩)
            · exact Or.inl z
            · exact Or.inr z
        · rw [if_neg]
          rw [hp2, L_0, eq_nI (by omega) (by omega)] at q
          rw [hp2, L_0, le_nI (by omega) (by omega)]
          omega
    obtain ⟨x1', j1, j2⟩ := A1
    obtain ⟨y, t1, t2⟩ := so_loop hn hp r f (x2 + 1) x1' _ (by omega) (by omega) j1
    refine ⟨y, j2.trans t1, isB_c t2 fun d _ => ⟨?_, ?_⟩⟩
    · rintro ((z | ⟨rfl, z⟩) | ⟨z, y, w⟩)
      · exact Or.inl z
      · exact Or.inr ⟨Nat.le_refl _, by omega, z⟩
      · exact Or.inr ⟨by omega, y, w⟩
    · rintro (z | ⟨z, y, w⟩)
      · exact Or.inl (Or.inl z)
      · by_cases e : d = x2
        · exact Or.inl (Or.inr ⟨e, w⟩)
        · exact Or.inr ⟨by omega, y, w⟩
  | _, 0, _, _, _, _, hf, _ => by omega
theorem s_soil {n : Nat} (hn : n ≤ 14) {T_price : Nat → Int32} (hp : ∀ i, i < n → le_ (T_price i) 99) : ∃ y, f_X5_soil T_price (nI n) = some y ∧ isBt y (fun d => d < n ∧ ¬ T_price d = 0) := by
  obtain ⟨y, t1, t2⟩ := so_loop hn hp n fuel 0 0 _ (by omega) (by unfold fuel; omega) isB_0
  refine ⟨y, t1, isB_c t2 fun d _ => ⟨?_, ?_⟩⟩
  · rintro (z | ⟨-, z⟩)
    · exact z.elim
    · exact z
  · intro z
    exact Or.inr ⟨Nat.zero_le _, z⟩
/-- the plan as it is laid for the doors s -/
def zLaid (s : Nat) (R : Nat → Nat → Prop) (rch : Nat → Nat) (v : Nat) (mst cn : Nat → Prop) (P_away : Nat → Nat → Int32) (P_serves P_crowds P_servedLow P_servedHigh P_crowdedLow P_crowdedHigh : Nat → Int32) (P_there P_must P_can : Int32) : Prop :=
  (∀ a b, a < 14 → b < 14 → P_away a b = nI (dd R a b)) ∧ (∀ c, c < 14 → isBt (P_serves c) (SVd s R rch c)) ∧ (∀ c, c < 14 → isBt (P_crowds c) (CWd s R v c)) ∧
  (∀ m, m < 128 → isBt (P_servedLow m) (zGT (SVd s R rch) 0 m)) ∧ (∀ m, m < 128 → isBt (P_servedHigh m) (zGT (SVd s R rch) 7 m)) ∧ (∀ m, m < 128 → isBt (P_crowdedLow m) (zGT (CWd s R v) 0 m)) ∧ (∀ m, m < 128 → isBt (P_crowdedHigh m) (zGT (CWd s R v) 7 m)) ∧
  P_there = nI s ∧ isBt P_must mst ∧ isBt P_can cn
theorem RJ_link {s i : Nat} {A B : Nat → Nat} {a b : Nat} : (RJ s i A B a b ∨ (s.testBit (A i) = true ∧ s.testBit (B i) = true ∧ ((A i = a ∧ B i = b) ∨ (A i = b ∧ B i = a)))) ↔ RJ s (i + 1) A B a b := by
  rw [RJ_more]
  constructor
  · rintro (h | ⟨h1, h2, ⟨rfl, rfl⟩ | ⟨rfl, rfl⟩⟩)
    · exact Or.inl h
    · exact Or.inr ⟨h1, h2, Or.inl ⟨rfl, rfl⟩⟩
    · exact Or.inr ⟨h2, h1, Or.inr ⟨rfl, rfl⟩⟩
  · rintro (h | ⟨h1, h2, ⟨rfl, rfl⟩ | ⟨rfl, rfl⟩⟩)
    · exact Or.inl h
    · exact Or.inr ⟨h1, h2, Or.inl ⟨rfl, rfl⟩⟩
    · exact Or.inr ⟨h2, h1, Or.inr ⟨rfl, rfl⟩⟩
section LAY
variable {n kj s v : Nat} {A B : Nat → Nat} {R : Nat → Nat → Prop} {rch : Nat → Nat} {mst cn : Nat → Prop} {o wl : Int32} {T_price T_year T_joinEnds T_wallEnds : Nat → Int32} {T_joins T_walls : Int32} {L_text : Nat → Int32} {L_length : Int32} {P_must P_can : Int32}
theorem ly_measure (hs : s < 2 ^ 14) (hv : v ≤ 9) (hn : n ≤ 14) (hR : ∀ a b, R a b → a < n ∧ b < n) {W : Nat → Nat → Int32} {P : Nat → Int32} (hW : ∀ a b, a < 14 → b < 14 → W a b = nI (dd R a b)) (hP : isRch s rch P 14) (hrc : ∀ d, rch d ≤ 20)
    (hm : isBt P_must mst) (hc : isBt P_can cn) (Be : Nat → Int32) (L_read : Nat) (L_end L_at L_fault L_d L_p L_y L_j L_o : Int32) (sl sh cl ch : Nat → Int32) :
    ∀ (r f x6 : Nat) (sv cw : Nat → Int32), r + x6 = 14 → f ≥ r + 1 → (∀ c, c < x6 → isBt (sv c) (SVd s R rch c)) → (∀ c, c < x6 → isBt (cw c) (CWd s R v c)) →
    ∃ sv' cw' sl' sh' cl' ch', f_X3_lay_b157 (nI v) L_read L_end L_at L_fault L_d L_p L_y L_j L_o W Be P sl sh cl ch (nI s) P_must P_can f (nI x6) sv cw = some (L_read, L_end, L_at, L_fault, L_d, L_p, L_y, L_j, L_o, W, Be, P, sv', cw', sl', sh', cl', ch', nI s, P_must, P_can) ∧ zLaid s R rch v mst cn W sv' cw' sl' sh' cl' ch' (nI s) P_must P_can
  | 0, f + 1, x6, sv, cw, h, hf, i1, i2 => by
    have e : x6 = 14 := by omega
    subst e
    obtain ⟨sl', a1, a2⟩ := s_serves_servedLow (first := 0) (by decide) i1 sl
    obtain ⟨sh', b1, b2⟩ := s_serves_servedHigh (first := 7) (by decide) i1 sh
    obtain ⟨cl', c1, c2⟩ := s_crowds_crowdedLow (first := 0) (by decide) i2 cl
    obtain ⟨ch', d1, d2⟩ := s_crowds_crowdedHigh (first := 7) (by decide) i2 ch
    refine ⟨sv, cw, sl', sh', cl', ch', ?_, hW, i1, i2, a2, b2, c2, d2, rfl, hm, hc⟩
    rw [f_X3_lay_b157, if_pos (by decide), L_0, L_7, a1, bd_of, b1, bd_of, c1, bd_of, d1, bd_of]
  | r + 1, f + 1, x6, sv, cw, h, hf, i1, i2 => by
    obtain ⟨sv1, cw1, g1, g2, g3, g4⟩ := s_measure hs (show x6 < 14 by omega) hv hn hR hW hP hrc sv cw
    obtain ⟨sv', cw', sl', sh', cl', ch', t1, t2⟩ := ly_measure hs hv hn hR hW hP hrc hm hc Be L_read L_end L_at L_fault L_d L_p L_y L_j L_o sl sh cl ch r f (x6 + 1) sv1 cw1 (by omega) (by omega)
      (fun c hc => by
        by_cases e : c = x6
        · subst e
          exact g2
        · rw [(g4 c e).1]
          exact i1 c (by omega))
      (fun c hc => by
        by_cases e : c = x6
        · subst e
          exact g3
        · rw [(g4 c e).2]
          exact i2 c (by omega))
    refine ⟨sv', cw', sl', sh', cl', ch', ?_, t2⟩
    rw [f_X3_lay_b157, if_neg (by rw [L_14, le_nI (by decide) (by omega)]; omega), g1, bd_of, nI_1]
    exact t1
  | _, 0, _, _, _, _, hf, _, _ => by omega
theorem ly_walk (hs : s < 2 ^ 14) (hv : v ≤ 9) (hn : n ≤ 14) (hR : ∀ a b, R a b → a < n ∧ b < n) {P : Nat → Int32} (hP : isRch s rch P 14) (hrc : ∀ d, rch d ≤ 20)
    (hm : isBt P_must mst) (hc : isBt P_can cn) {Be : Nat → Int32} (hB : ∀ c, c < 14 → isBt (Be c) (R c)) (L_read : Nat) (L_end L_at L_fault L_d L_p L_y L_j L_o : Int32) (sv cw sl sh cl ch : Nat → Int32) :
    ∀ (r f x6 : Nat) (W : Nat → Nat → Int32), r + x6 = 14 → f ≥ r + 1 → (∀ a b, a < x6 → b < 14 → W a b = nI (dd R a b)) →
    ∃ W' sv' cw' sl' sh' cl' ch', f_X3_lay_b135 (nI v) L_read L_end L_at L_fault L_d L_p L_y L_j L_o Be P sv cw sl sh cl ch (nI s) P_must P_can f (nI x6) W = some (L_read, L_end, L_at, L_fault, L_d, L_p, L_y, L_j, L_o, W', Be, P, sv', cw', sl', sh', cl', ch', nI s, P_must, P_can) ∧ zLaid s R rch v mst cn W' sv' cw' sl' sh' cl' ch' (nI s) P_must P_can
  | 0, f + 1, x6, W, h, hf, i1 => by
    have e : x6 = 14 := by omega
    subst e
    obtain ⟨sv', cw', sl', sh', cl', ch', t1, t2⟩ := ly_measure hs hv hn hR i1 hP hrc hm hc Be L_read L_end L_at L_fault L_d L_p L_y L_j L_o sl sh cl ch 14 fuel 0 sv cw (by omega) (by unfold fuel; omega) (fun c hc => by omega) (fun c hc => by omega)
    refine ⟨W, sv', cw', sl', sh', cl', ch', ?_, t2⟩
    rw [f_X3_lay_b135, if_pos (by decide)]
    exact t1
  | r + 1, f + 1, x6, W, h, hf, i1 => by
    obtain ⟨W1, g1, g2, g3⟩ := s_walk hn (show x6 < 14 by omega) hR hB W
    obtain ⟨W', sv', cw', sl', sh', cl', ch', t1, t2⟩ := ly_walk hs hv hn hR hP hrc hm hc hB L_read L_end L_at L_fault L_d L_p L_y L_j L_o sv cw sl sh cl ch r f (x6 + 1) W1 (by omega) (by omega)
      (fun a b ha hb => by
        by_cases e : a = x6
        · subst e
          exact g2 b hb
        · rw [g3 a e]
          exact i1 a b (by omega) hb)
    refine ⟨W', sv', cw', sl', sh', cl', ch', ?_, t2⟩
    rw [f_X3_lay_b135, if_neg (by rw [L_14, le_nI (by decide) (by omega)]; omega), g1, bd_of, nI_1]
    exact t1
  | _, 0, _, _, _, hf, _ => by omega
theorem ly_links (hs : s < 2 ^ 14) (hv : v ≤ 9) (hn : n ≤ 14) (hC : CJ n kj A B wl T_joinEnds T_wallEnds T_joins T_walls) {P : Nat → Int32} (hP : isRch s rch P 14) (hrc : ∀ d, rch d ≤ 20)
    (hm : isBt P_must mst) (hc : isBt P_can cn) (L_read : Nat) (L_end L_at L_fault L_d L_p L_y L_j L_o : Int32) (W : Nat → Nat → Int32) (sv cw sl sh cl ch : Nat → Int32) :
    ∀ (r f x6 k0 : Nat) (Be : Nat → Int32), T_joins = nI k0 → k0 ≤ kj → k0 ≤ 40 → r + x6 = k0 → f ≥ r + 1 → (∀ c, c < 14 → isBt (Be c) (RJ s x6 A B c)) →
    ∃ W' Be' sv' cw' sl' sh' cl' ch', f_X3_lay_b86 wl T_joinEnds T_wallEnds T_joins T_walls (nI v) L_read L_end L_at L_fault L_d L_p L_y L_j L_o W P sv cw sl sh cl ch (nI s) P_must P_can f (nI x6) Be = some (L_read, L_end, L_at, L_fault, L_d, L_p, L_y, L_j, L_o, W', Be', P, sv', cw', sl', sh', cl', ch', nI s, P_must, P_can) ∧ zLaid s (RJ s kj A B) rch v mst cn W' sv' cw' sl' sh' cl' ch' (nI s) P_must P_can
  | 0, f + 1, x6, k0, Be, hk, hk1, hk2, h, hf, i1 => by
    have e : x6 = k0 := by omega
    subst e
    have hR := RJ_lt (s := s) hC.1
    rw [f_X3_lay_b86, hk, if_pos (by rw [le_nI (by omega) (by omega)]; omega)]
    unfold f_X3_lay_b132
    obtain ⟨hAB, ⟨h1, h2, h3, h4⟩ | ⟨k1, w, rfl, h2, hw, h1, rfl, h3, h4, h5⟩⟩ := hC
    · have e : kj = x6 := by
        rw [hk, eq_nI (by omega) (by omega)] at h2
        exact h2.symm
      subst e
      obtain ⟨W', sv', cw', sl', sh', cl', ch', t1, t2⟩ := ly_walk hs hv hn hR hP hrc hm hc i1 L_read L_end L_at L_fault L_d L_p L_y L_j L_o sv cw sl sh cl ch 14 fuel 0 W (by omega) (by unfold fuel; omega) (fun a b ha hb => by omega)
      refine ⟨W', Be, sv', cw', sl', sh', cl', ch', ?_, t2⟩
      rw [h1, bd_of, if_pos rfl]
      exact t1
    · have e : k1 = x6 := by
        rw [hk, eq_nI (by omega) (by omega)] at h3
        exact h3.symm
      subst e
      have q := hAB k1 (by omega)
      obtain ⟨Be1, g1, g2⟩ := s_link (show A k1 < 14 by omega) (show B k1 < 14 by omega) q.2.2 i1 (isB_n hs)
      have i2 : ∀ c, c < 14 → isBt (Be1 c) (RJ s (k1 + 1) A B c) := fun c hc => isB_c (g2 c hc) fun d _ => RJ_link
      obtain ⟨W', sv', cw', sl', sh', cl', ch', t1, t2⟩ := ly_walk hs hv hn hR hP hrc hm hc i2 L_read L_end L_at L_fault L_d L_p L_y L_j L_o sv cw sl sh cl ch 14 fuel 0 W (by omega) (by unfold fuel; omega) (fun a b ha hb => by omega)
      refine ⟨W', Be1, sv', cw', sl', sh', cl', ch', ?_, t2⟩
      rw [h1, bd_of, if_neg (by decide), ix_nI hw (by decide), cl_nI (by omega), h5, g1, bd_of]
      exact t1
  | r + 1, f + 1, x6, k0, Be, hk, hk1, hk2, h, hf, i1 => by
    have q := hC.1 x6 (by omega)
    have hE : T_joinEnds x6 = nI (100 * A x6 + B x6) := by
      obtain ⟨hAB, ⟨h1, h2, h3, h4⟩ | ⟨k1, w, e1, h2, hw, h1, e2, h3, h4, h5⟩⟩ := hC
      · exact h4 x6 (by omega)
      · rw [hk, eq_nI (by omega) (by omega)] at h3
        exact h4 x6 (by omega)
    obtain ⟨Be1, g1, g2⟩ := s_link (show A x6 < 14 by omega) (show B x6 < 14 by omega) q.2.2 i1 (isB_n hs)
    have i2 : ∀ c, c < 14 → isBt (Be1 c) (RJ s (x6 + 1) A B c) := fun c hc => isB_c (g2 c hc) fun d _ => RJ_link
    obtain ⟨W', Be', sv', cw', sl', sh', cl', ch', t1, t2⟩ := ly_links hs hv hn hC hP hrc hm hc L_read L_end L_at L_fault L_d L_p L_y L_j L_o W sv cw sl sh cl ch r f (x6 + 1) k0 Be1 hk hk1 hk2 (by omega) (by omega) i2
    refine ⟨W', Be', sv', cw', sl', sh', cl', ch', ?_, t2⟩
    rw [f_X3_lay_b86, if_neg (by rw [hk, le_nI (by omega) (by omega)]; omega), ix_nI (show x6 < 40 by omega) (by decide), cl_nI (by omega), hE, g1, bd_of, nI_1]
    exact t1
  | _, 0, _, _, _, _, _, _, _, hf, _ => by omega
theorem ly_reach (hs : s < 2 ^ 14) (hsn : ∀ d, s.testBit d = true → d < n) (hv : v ≤ 9) (hn : n ≤ 14) (hC : CJ n kj A B wl T_joinEnds T_wallEnds T_joins T_walls) (hrc : ∀ d, rch d ≤ 20) (hr : RC n rch o wl T_price T_year T_joinEnds T_wallEnds T_joins T_walls L_text L_length)
    (hm : isBt P_must mst) (hc : isBt P_can cn) (W : Nat → Nat → Int32) (sv cw sl sh cl ch : Nat → Int32) :
    ∀ (r f x6 : Nat) (Be P : Nat → Int32) (L_read : Nat) (L_end L_at L_fault L_d L_p L_y L_j L_o : Int32), r + x6 = 14 → f ≥ r + 1 → (∀ c, c < x6 → Be c = 0) → isRch s rch P x6 →
    ∃ rd e a f' d p y j o' W' Be' P' sv' cw' sl' sh' cl' ch', f_X3_lay_b31 o wl T_price T_year T_joinEnds T_wallEnds T_joins T_walls (nI v) L_text L_length W sv cw sl sh cl ch (nI s) P_must P_can f (nI x6) L_read L_end L_at L_fault L_d L_p L_y L_j L_o Be P = some (rd, e, a, f', d, p, y, j, o', W', Be', P', sv', cw', sl', sh', cl', ch', nI s, P_must, P_can) ∧ zLaid s (RJ s kj A B) rch v mst cn W' sv' cw' sl' sh' cl' ch' (nI s) P_must P_can
  | 0, f + 1, x6, Be, P, L_read, L_end, L_at, L_fault, L_d, L_p, L_y, L_j, L_o, h, hf, i1, i2 => by
    have e : x6 = 14 := by omega
    subst e
    have hk : ∃ k0, T_joins = nI k0 ∧ k0 ≤ kj ∧ k0 ≤ 40 := by
      obtain ⟨hAB, ⟨h1, h2, h3, h4⟩ | ⟨k1, w, e1, h2, hw, h1, e2, h3, h4, h5⟩⟩ := hC
      · exact ⟨kj, h2, Nat.le_refl _, h3⟩
      · exact ⟨k1, h3, by omega, h2⟩
    obtain ⟨k0, k1, k2, k3⟩ := hk
    obtain ⟨W', Be', sv', cw', sl', sh', cl', ch', t1, t2⟩ := ly_links hs hv hn hC i2 hrc hm hc L_read L_end L_at L_fault L_d L_p L_y L_j L_o W sv cw sl sh cl ch k0 fuel 0 k0 Be k1 k2 k3 (by omega) (by unfold fuel; omega) (fun c hc => by
      rw [i1 c hc]
      refine isB_c isB_0 fun d _ => ⟨False.elim, ?_⟩
      rintro ⟨-, -, i, hi, -⟩
      omega)
    refine ⟨L_read, L_end, L_at, L_fault, L_d, L_p, L_y, L_j, L_o, W', Be', P, sv', cw', sl', sh', cl', ch', ?_, t2⟩
    rw [f_X3_lay_b31, if_pos (by decide)]
    exact t1
  | r + 1, f + 1, x6, Be, P, L_read, L_end, L_at, L_fault, L_d, L_p, L_y, L_j, L_o, h, hf, i1, i2 => by
    have h6 : x6 < 14 := by omega
    have i3 : ∀ c, c < x6 + 1 → upd Be x6 0 c = 0 := by
      intro c hc
      by_cases e : c = x6
      · subst e
        rw [upd_eq (α := Nat)]
      · rw [upd_ne e]
        exact i1 c (by omega)
    by_cases q : s.testBit x6 = true
    · obtain ⟨rd, e, a, f', d', p', y', j', o', g⟩ := hr x6 (hsn x6 q) L_read L_end L_at L_fault L_d L_p L_y L_j L_o
      obtain ⟨rd2, e2, a2, f2, d2, p2, y2, j2, o2, W', Be', P', sv', cw', sl', sh', cl', ch', t1, t2⟩ := ly_reach hs hsn hv hn hC hrc hr hm hc W sv cw sl sh cl ch r f (x6 + 1) (upd Be x6 0) (upd P x6 (nI (rch x6))) rd e a f' d' p' y' j' o' (by omega) (by omega) i3 (fun d hd => by
        by_cases e : d = x6
        · subst e
          rw [upd_eq (α := Nat)]
          exact ⟨fun _ => rfl, fun z => absurd q z⟩
        · rw [upd_ne e]
          exact i2 d (by omega))
      refine ⟨rd2, e2, a2, f2, d2, p2, y2, j2, o2, W', Be', P', sv', cw', sl', sh', cl', ch', ?_, t2⟩
      rw [f_X3_lay_b31, if_neg (by rw [L_14, le_nI (by decide) (by omega)]; omega), ix_nI h6 (by decide), cl_nI (by omega), s_isThere (isB_n hs) h6, bd_of, b01_t q, if_neg (by decide), g, bd_of]
      unfold f_X3_lay_b76
      rw [ix_nI h6 (by decide), cl_nI (by omega), nI_1]
      exact t1
    · obtain ⟨rd2, e2, a2, f2, d2, p2, y2, j2, o2, W', Be', P', sv', cw', sl', sh', cl', ch', t1, t2⟩ := ly_reach hs hsn hv hn hC hrc hr hm hc W sv cw sl sh cl ch r f (x6 + 1) (upd Be x6 0) (upd P x6 (-1)) L_read L_end L_at L_fault L_d L_p L_y L_j L_o (by omega) (by omega) i3 (fun d hd => by
        by_cases e : d = x6
        · subst e
          rw [upd_eq (α := Nat)]
          exact ⟨fun z => absurd z q, fun _ => rfl⟩
        · rw [upd_ne e]
          exact i2 d (by omega))
      refine ⟨rd2, e2, a2, f2, d2, p2, y2, j2, o2, W', Be', P', sv', cw', sl', sh', cl', ch', ?_, t2⟩
      rw [f_X3_lay_b31, if_neg (by rw [L_14, le_nI (by decide) (by omega)]; omega), ix_nI h6 (by decide), cl_nI (by omega), s_isThere (isB_n hs) h6, bd_of, b01_f q, if_pos rfl]
      unfold f_X3_lay_b76
      rw [ix_nI h6 (by decide), cl_nI (by omega), nI_1]
      exact t1
  | _, 0, _, _, _, _, _, _, _, _, _, _, _, _, _, hf, _, _ => by omega
/-- the plan is laid -/
theorem s_lay {ob : Nat} (hs : s < 2 ^ n) (ho : ob < 2 ^ 14) (hv : v ≤ 9) (hn : n ≤ 14) (hC : CJ n kj A B wl T_joinEnds T_wallEnds T_joins T_walls) (hrc : ∀ d, rch d ≤ 20) (hr : RC n rch (nI ob) wl T_price T_year T_joinEnds T_wallEnds T_joins T_walls L_text L_length) (hp : ∀ i, i < n → le_ (T_price i) 99)
    (L_read : Nat) (L_end L_at L_fault L_d L_p L_y L_j L_o : Int32) (P_away : Nat → Nat → Int32) (P_beside P_reach P_serves P_crowds P_servedLow P_servedHigh P_crowdedLow P_crowdedHigh : Nat → Int32) (P_there0 P_must0 P_can0 : Int32) :
    ∃ rd e a f' d p y j o' W' Be' P' sv' cw' sl' sh' cl' ch' mu ca, f_X3_lay (nI s) (nI ob) wl T_price T_year T_joinEnds T_wallEnds (nI n) T_joins T_walls (nI v) L_text L_length L_read L_end L_at L_fault L_d L_p L_y L_j L_o P_away P_beside P_reach P_serves P_crowds P_servedLow P_servedHigh P_crowdedLow P_crowdedHigh P_there0 P_must0 P_can0 = some (rd, e, a, f', d, p, y, j, o', W', Be', P', sv', cw', sl', sh', cl', ch', nI s, mu, ca) ∧
      zLaid s (RJ s kj A B) rch v (fun d => ob.testBit d = true ∧ s.testBit d = true) (fun d => (ob.testBit d = true ∧ s.testBit d = true) ∨ ((d < n ∧ ¬ T_price d = 0) ∧ s.testBit d = true)) W' sv' cw' sl' sh' cl' ch' (nI s) mu ca := by
  obtain ⟨so, g1, g2⟩ := s_soil hn hp
  have hs14 : s < 2 ^ 14 := Nat.lt_of_lt_of_le hs (Nat.pow_le_pow_right (by decide) hn)
  have hsn : ∀ d, s.testBit d = true → d < n := by
    intro d hd
    by_cases q : d < n
    · exact q
    · have := Nat.testBit_lt_two_pow (Nat.lt_of_lt_of_le hs (Nat.pow_le_pow_right (by decide) (Nat.le_of_not_lt q)))
      rw [this] at hd
      exact Bool.noConfusion hd
  have hm := isB_and (isB_n ho) (isB_n hs14)
  have hc := isB_or hm (isB_and g2 (isB_n hs14))
  obtain ⟨rd, e, a, f', d, p, y, j, o', W', Be', P', sv', cw', sl', sh', cl', ch', t1, t2⟩ := ly_reach hs14 hsn hv hn hC hrc hr hm hc P_away P_serves P_crowds P_servedLow P_servedHigh P_crowdedLow P_crowdedHigh 14 fuel 0 P_beside P_reach L_read L_end L_at L_fault L_d L_p L_y L_j L_o (by omega) (by unfold fuel; omega) (fun c hc => by omega) (fun c hc => by omega)
  refine ⟨rd, e, a, f', d, p, y, j, o', W', Be', P', sv', cw', sl', sh', cl', ch', _, _, ?_, t2⟩
  unfold f_X3_lay
  rw [g1, bd_of]
  exact t1
end LAY
