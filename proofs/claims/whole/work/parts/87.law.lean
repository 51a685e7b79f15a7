/-! the law -/
theorem gv_loop {act wth lm te le F : Nat → Int32} {m : Nat} (hm : m ≤ 61) (hlm : lm 0 = nI m) :
    ∀ (ls : List (List (Int32 × Int32) × List (Int32 × Int32))) (f k b : Nat) (pile : Nat → Int32) (v : Int32), LinesAt act wth te le 0 k b ls → Gv F ls v → k + ls.length = m → b + lnl ls ≤ 130 → f ≥ ls.length + 1 →
    ∃ pl, f_X7_gives_b7 0 act wth lm te le F f (nI b) (nI k) pile = some (v, pl)
  | [], f + 1, k, b, pile, v, _, hv, hk, _, _ => by
    have q0 : ∀ {α : Type} {k : Option α}, ix 0 2 k = k := ix_0 (by decide) (by decide)
    have e : k = m := hk
    subst e
    rw [f_X7_gives_b7, q0, show Int32.toNatClampNeg 0 = 0 by decide, hlm, Int32.mul_zero, Int32.zero_add, if_pos (by rw [le_nI (by omega) (by omega)]; omega), show v = 0 from hv]
    exact ⟨pile, rfl⟩
  | (ct, cv) :: r, f + 1, k, b, pile, v, ⟨g1, g2, g3, g4, g5⟩, hv, hk, hb, hf => by
    have q0 : ∀ {α : Type} {k : Option α}, ix 0 2 k = k := ix_0 (by decide) (by decide)
    have e : lnl ((ct, cv) :: r) = ct.length + cv.length + lnl r := rfl
    rw [e] at hb
    rw [List.length_cons] at hk hf
    rw [Nat.zero_add] at g2 g3
    have val : Runs F cv v → ∀ pile, ∃ pl, f_X7_gives_b47 0 (nI k) act wth te le F pile = some (v, pl) := by
      intro hr pile
      obtain ⟨pl, h⟩ := s_worked (by omega) hr g3 pile
      unfold f_X7_gives_b47
      rw [ix_nI (show k < 122 by omega) (by decide), ix_nI (show k < 122 by omega) (by decide), cl_nI (by omega), g1, g4, h, bd_of]
      exact ⟨pl, rfl⟩
    rw [f_X7_gives_b7, q0, show Int32.toNatClampNeg 0 = 0 by decide, hlm, Int32.mul_zero, Int32.zero_add, if_neg (by rw [le_nI (by omega) (by omega)]; omega), ix_nI (show k < 122 by omega) (by decide), ix_nI (show k < 122 by omega) (by decide), cl_nI (by omega), g1]
    rcases hv with ⟨h1, h2⟩ | ⟨h1, x, h2, h3⟩
    · rw [if_pos (by rw [eq_nI (by omega) (by omega)]; omega)]
      exact val h2 pile
    · rw [if_neg (by rw [eq_nI (by omega) (by omega)]; omega)]
      obtain ⟨pl, h⟩ := s_worked (by omega) h2 g2 pile
      rw [h, bd_of]
      dsimp only
      rcases h3 with ⟨h4, h5⟩ | ⟨h4, h5⟩
      · rw [if_neg h4]
        exact val h5 pl
      · rw [if_pos h4, ix_nI (show k < 122 by omega) (by decide), g4, nI_1]
        exact gv_loop hm hlm r f (k + 1) _ pl v g5 h5 (by omega) (by omega) (by omega)
  | _, 0, _, _, _, _, _, _, _, _, hf => by omega
theorem s_gives {act wth lm te le F : Nat → Int32} {ls : List (List (Int32 × Int32) × List (Int32 × Int32))} {v : Int32} (hl : ls.length ≤ 61) (hlm : lm 0 = nI ls.length) (h : LinesAt act wth te le 0 0 0 ls) (hv : Gv F ls v) (hb : lnl ls ≤ 130) (pile : Nat → Int32) : ∃ pl, f_X7_gives 0 act wth lm te le F pile = some (v, pl) := by
  unfold f_X7_gives
  rw [Int32.mul_zero]
  exact gv_loop hl hlm ls fuel 0 0 pile v h hv (Nat.zero_add _) (by omega) (by unfold fuel; omega)
/-! what was read becomes the law -/
theorem cp_act {h fl o L : Int32} {lm te le act0 wth0 : Nat → Int32} {n : Nat} (hL : L = nI n) (hn : n ≤ 130) :
    ∀ (r f m : Nat) (act wth : Nat → Int32), r + m = n → f ≥ r + 1 → (∀ i, i < m → act i = vp_nar .byte (act0 (130 + i)) ∧ wth i = wth0 (130 + i)) → (∀ i, 130 ≤ i → act i = act0 i ∧ wth i = wth0 i) →
    ∃ act' wth', f_X7_readText_b105 0 0 h fl o L lm te le f (nI m) act wth = ix 1 2 (ix 0 2 (f_X7_readText_b177 0 0 h fl o L act' wth' (upd lm (Int32.toNatClampNeg 0) (lm (Int32.toNatClampNeg 1))) fuel 0 te le)) ∧ ∀ i, i < n → act' i = vp_nar .byte (act0 (130 + i)) ∧ wth' i = wth0 (130 + i)
  | 0, f + 1, m, act, wth, hr, hf, h1, h2 => by
    have e : m = n := by omega
    subst e
    refine ⟨act, wth, ?_, h1⟩
    rw [f_X7_readText_b105, if_pos (by rw [hL, le_nI (by omega) (by omega)]; omega)]
  | r + 1, f + 1, m, act, wth, hr, hf, h1, h2 => by
    obtain ⟨act', wth', t1, t2⟩ := cp_act (h := h) (fl := fl) (o := o) (lm := lm) (te := te) (le := le) (act0 := act0) (wth0 := wth0) hL hn r f (m + 1) (upd act m (vp_nar .byte (act (130 + m)))) (upd wth m (wth (130 + m))) (by omega) (by omega)
      (fun i hi => by
        by_cases e : i = m
        · subst e
          rw [upd_eq (α := Nat), upd_eq (α := Nat), (h2 (130 + i) (by omega)).1, (h2 (130 + i) (by omega)).2]
          exact ⟨rfl, rfl⟩
        · rw [upd_ne e, upd_ne e]
          exact h1 i (by omega))
      (fun i hi => by
        rw [upd_ne (by omega), upd_ne (by omega)]
        exact h2 i hi)
    refine ⟨act', wth', ?_, t2⟩
    rw [f_X7_readText_b105, if_neg (by rw [hL, le_nI (by omega) (by omega)]; omega), Int32.mul_zero, Int32.zero_add, show (130 : Int32) = nI 130 from rfl, nI_add, ix_nI (show 130 + m < 260 by omega) (by decide), ix_nI (show m < 260 by omega) (by decide), ix_nI (show 130 + m < 260 by omega) (by decide), ix_nI (show m < 260 by omega) (by decide), cl_nI (show m < 2 ^ 31 by omega), cl_nI (show 130 + m < 2 ^ 31 by omega), nI_1]
    exact t1
  | _, 0, _, _, _, _, hf, _, _ => by omega
theorem cp_le {h fl o L : Int32} {act wth lm te0 le0 : Nat → Int32} {n : Nat} (hlm : lm 0 = nI n) (hn : n ≤ 61) :
    ∀ (r f m : Nat) (te le : Nat → Int32), r + m = n → f ≥ r + 1 → (∀ i, i < m → te i = vp_nar .short (te0 (61 + i)) ∧ le i = vp_nar .short (le0 (61 + i))) → (∀ i, 61 ≤ i → te i = te0 i ∧ le i = le0 i) →
    ∃ te' le', f_X7_readText_b177 0 0 h fl o L act wth lm f (nI m) te le = some (-1, 0, h, fl, o, L, act, wth, lm, te', le') ∧ ∀ i, i < n → te' i = vp_nar .short (te0 (61 + i)) ∧ le' i = vp_nar .short (le0 (61 + i))
  | 0, f + 1, m, te, le, hr, hf, h1, h2 => by
    have e : m = n := by omega
    subst e
    refine ⟨te, le, ?_, h1⟩
    rw [f_X7_readText_b177, ix_0 (by decide) (by decide), show Int32.toNatClampNeg 0 = 0 by decide, hlm, if_pos (by rw [le_nI (by omega) (by omega)]; omega)]
  | r + 1, f + 1, m, te, le, hr, hf, h1, h2 => by
    obtain ⟨te', le', t1, t2⟩ := cp_le (h := h) (fl := fl) (o := o) (L := L) (act := act) (wth := wth) (te0 := te0) (le0 := le0) hlm hn r f (m + 1) (upd te m (vp_nar .short (te (61 + m)))) (upd le m (vp_nar .short (le (61 + m)))) (by omega) (by omega)
      (fun i hi => by
        by_cases e : i = m
        · subst e
          rw [upd_eq (α := Nat), upd_eq (α := Nat), (h2 (61 + i) (by omega)).1, (h2 (61 + i) (by omega)).2]
          exact ⟨rfl, rfl⟩
        · rw [upd_ne e, upd_ne e]
          exact h1 i (by omega))
      (fun i hi => by
        rw [upd_ne (by omega), upd_ne (by omega)]
        exact h2 i hi)
    refine ⟨te', le', ?_, t2⟩
    rw [f_X7_readText_b177, ix_0 (by decide) (by decide), show Int32.toNatClampNeg 0 = 0 by decide, hlm, if_neg (by rw [le_nI (by omega) (by omega)]; omega), Int32.mul_zero, Int32.zero_add, show (61 : Int32) = nI 61 from rfl, nI_add, ix_nI (show 61 + m < 122 by omega) (by decide), ix_nI (show m < 122 by omega) (by decide), ix_nI (show 61 + m < 122 by omega) (by decide), ix_nI (show m < 122 by omega) (by decide), cl_nI (show m < 2 ^ 31 by omega), cl_nI (show 61 + m < 2 ^ 31 by omega), nI_1]
    exact t1
  | _, 0, _, _, _, _, hf, _, _ => by omega
theorem segm_copy {act wth act' wth' : Nat → Int32} : ∀ (c : List (Int32 × Int32)) (b : Nat), wfc c → (∀ i, i < b + c.length → act' i = vp_nar .byte (act (130 + i)) ∧ wth' i = wth (130 + i)) → segm act wth (130 + b) c → segm act' wth' (0 + b) c
  | [], _, _, _, _ => trivial
  | (w, u) :: c, b, hw, h, ⟨h1, h2, h3⟩ => by
    rw [List.length_cons] at h
    have h0 := h b (by omega)
    refine ⟨?_, ?_, ?_⟩
    · rw [Nat.zero_add, h0.1, h1]
      exact hw (w, u) (List.mem_cons_self ..)
    · rw [Nat.zero_add, h0.2, h2]
    · exact segm_copy c (b + 1) (fun s hs => hw s (List.mem_cons_of_mem _ hs)) (fun i hi => h i (by omega)) h3
theorem Lines_copy {act wth te le act' wth' te' le' : Nat → Int32} : ∀ (ls : List (List (Int32 × Int32) × List (Int32 × Int32))) (k b : Nat), wfl ls → b + lnl ls ≤ 130 → (∀ i, i < b + lnl ls → act' i = vp_nar .byte (act (130 + i)) ∧ wth' i = wth (130 + i)) → (∀ i, i < k + ls.length → te' i = vp_nar .short (te (61 + i)) ∧ le' i = vp_nar .short (le (61 + i))) → LinesAt act wth te le 130 (61 + k) b ls → LinesAt act' wth' te' le' 0 k b ls
  | [], _, _, _, _, _, _, _ => trivial
  | (ct, cv) :: r, k, b, hw, hb, h1, h2, ⟨g1, g2, g3, g4, g5⟩ => by
    have e : lnl ((ct, cv) :: r) = ct.length + cv.length + lnl r := rfl
    rw [e] at h1 hb
    rw [List.length_cons] at h2
    have w1 := hw (ct, cv) (List.mem_cons_self ..)
    have hk := h2 k (by omega)
    refine ⟨?_, segm_copy ct b w1.1 (fun i hi => h1 i (by omega)) g2, segm_copy cv (b + ct.length) w1.2 (fun i hi => h1 i (by omega)) g3, ?_, Lines_copy r (k + 1) _ (fun s hs => hw s (List.mem_cons_of_mem _ hs)) (by omega) (fun i hi => h1 i (by omega)) (fun i hi => h2 i (by omega)) g5⟩
    · rw [hk.1, g1]
      exact (sh_tab _ (by omega)).2
    · rw [hk.2, g4]
      exact (sh_tab _ (by omega)).2
