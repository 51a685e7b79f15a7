/-! the whole text, on both sides -/
theorem nI_lt120 {a : Nat} (h : a ≤ 120) : a < 2 ^ 31 := by omega
section TEXT
variable {T : Nat → Int32} {t : Nat}
/-- the model's line and what comes behind it -/
def ML (T : Nat → Int32) (t : Nat) (x1 : Int32) (f : Nat) (h fl o l : Int32) (act wth lm te le : Nat → Int32) : Option (Int32 × Int32 × Int32 × Int32 × Int32 × Int32 × (Nat → Int32) × (Nat → Int32) × (Nat → Int32) × (Nat → Int32) × (Nat → Int32)) :=
  bd (f_X7_line T (nI t) h fl o l act wth lm te le) fun u => f_X7_readText_b31 x1 T (nI t) f u.1 u.2.1 u.2.2.1 u.2.2.2.1 u.2.2.2.2.1 u.2.2.2.2.2.1 u.2.2.2.2.2.2.1 u.2.2.2.2.2.2.2.1 u.2.2.2.2.2.2.2.2
theorem tl_end {kb : Nat → Int32 → Int32 → Int32 → Int32 → Int32 → Int32 → Option (Int32 × Nat × Int32 × Int32 × Int32)} {mk : Nat} {Tc F : Nat → Int32} (hb : byT T t) (ht : t ≤ 120) (hk : KB kb mk Tc F t) (hA : agr T Tc t) {e : Nat} (he : e ≤ t) (h59 : ¬ cc T t e = 59) (f : Nat) (x3 x4 x6 x7 x8 x9 : Int32) :
    tl_ kb Tc t (f + 1) x3 x4 x6 x7 x8 x9 (nI e) (-1) = if t ≤ e then some (sa_ x3 x4 x7 x8 x9, mk, nI t, nI e, -1) else some (sa_ x3 x4 x7 x8 x9, mk, nI t, nI e, nI e) := by
  have k59 : (nxv T t e = 59) = (cc T t e = 59) := nx_eq hb e 59 (by decide)
  unfold tl_
  rw [s_next ht he hA, bd_of, if_neg (by rw [k59]; exact h59), hk.2, s_broken, if_neg (show ¬ (0 : Int32) ≤ -1 by decide), bd_of, ite_eqc (le_nI (by omega) (by omega))]
  by_cases q : t ≤ e
  · rw [if_pos q, if_pos q]
  · rw [if_neg q, if_neg q]
theorem tl_more {kb : Nat → Int32 → Int32 → Int32 → Int32 → Int32 → Int32 → Option (Int32 × Nat × Int32 × Int32 × Int32)} {Tc : Nat → Int32} (hb : byT T t) (ht : t ≤ 120) (hA : agr T Tc t) {e : Nat} (he : e ≤ t) (h59 : cc T t e = 59) (f x6 : Nat) (x3 x4 x7 x8 x9 : Int32) :
    tl_ kb Tc t f x3 x4 (nI x6) x7 x8 x9 (nI e) (-1) = kb f (sa_ x3 x4 x7 x8 x9) (sc_ x4 x7 x9) 1 (nI (x6 + 1)) (nI (e + 1)) (-1) := by
  have k59 : (nxv T t e = 59) = (cc T t e = 59) := nx_eq hb e 59 (by decide)
  unfold tl_
  rw [s_next ht he hA, bd_of, if_pos (by rw [k59]; exact h59), nI_1, nI_1]
theorem tl_dead {kb : Nat → Int32 → Int32 → Int32 → Int32 → Int32 → Int32 → Option (Int32 × Nat × Int32 × Int32 × Int32)} {mk : Nat} {Tc F : Nat → Int32} (hb : byT T t) (ht : t ≤ 120) (hk : KB kb mk Tc F t) (hA : agr T Tc t) {p : Nat} (hp : p ≤ t) {b fc : Int32} (hd : Dead T t p b fc) (f : Nat) (x3 x4 x6 x7 x8 x9 : Int32) :
    ∃ v, tl_ kb Tc t (f + 1) x3 x4 x6 x7 x8 x9 b fc = some (v, mk, nI t, b, nI p) := by
  obtain ⟨c, c1, -, -, c2, -⟩ := dead_next hb ht hp hA hd
  unfold tl_
  rw [c1, bd_of, if_neg c2, hk.2, dead_br (by omega) hd, bd_of]
  rcases hd with rfl | ⟨rfl, rfl, hd⟩
  · exact ⟨_, ite_self _⟩
  · have h1 := hd.1
    have h2 := hd.2
    have hlt := cc_lt hb (show cc T t p < 128 by omega)
    rw [if_neg (by rw [le_nI (by omega) (by omega)]; omega)]
    exact ⟨_, rfl⟩
theorem sa_done (x3 x7 x8 x9 : Int32) : sa_ x3 1 x7 x8 x9 = x3 := by
  unfold sa_
  rw [if_neg (by decide)]
theorem sc_done (x7 x9 : Int32) : sc_ 1 x7 x9 = 1 := by
  unfold sc_
  rw [if_neg (by decide)]
theorem s_text (hb : byT T t) (ht : t ≤ 120) (x1 : Int32) :
    ∀ (n a l q f7 : Nat) (act wth lm te le : Nat → Int32), n + a = t → l ≤ a → 2 * q ≤ a → lm 1 = nI q → f7 ≥ n + 2 →
    (∃ (ls : List (List (Int32 × Int32) × List (Int32 × Int32))) (act' wth' lm' te' le' : Nat → Int32), a < t ∧ lm' 0 = lm 0 ∧ lm' 1 = nI (q + ls.length) ∧ (∀ i, i < 130 + l → act' i = act i ∧ wth' i = wth i) ∧ (∀ i, i < 61 + q → te' i = te i ∧ le' i = le i) ∧ LinesAt act' wth' te' le' 130 (61 + q) l ls ∧ wfl ls ∧ l + lnl ls ≤ t ∧ q + ls.length ≤ 61 ∧
      ML T t x1 f7 (nI a) (-1) (nI 0) (nI l) act wth lm te le = f_X7_readText_b86 x1 (nI t) (nI t) (-1) (nI 0) (nI (l + lnl ls)) act' wth' lm' te' le' ∧
      ∀ (Tc F : Nat → Int32), agr T Tc t → ∃ v, Gv F ls v ∧ ∀ (kb : Nat → Int32 → Int32 → Int32 → Int32 → Int32 → Int32 → Option (Int32 × Nat × Int32 × Int32 × Int32)) (mk : Nat), KB kb mk Tc F t → ∀ (f x6 : Nat) (x3 : Int32), f ≥ n + 3 → x6 ≤ a → kb f 0 0 1 (nI x6) (nI a) (-1) = some (v, mk, nI t, nI t, -1) ∧ kb f x3 1 1 (nI x6) (nI a) (-1) = some (x3, mk, nI t, nI t, -1)) ∨
    (∃ (p h l' : Nat) (o' : Int32) (act' wth' lm' te' le' : Nat → Int32), p ≤ t ∧ lm' 0 = lm 0 ∧ (∀ i, i < 130 → act' i = act i ∧ wth' i = wth i) ∧ (∀ i, i < 61 → te' i = te i ∧ le' i = le i) ∧
      ML T t x1 f7 (nI a) (-1) (nI 0) (nI l) act wth lm te le = f_X7_readText_b86 x1 (nI t) (nI h) (nI p) o' (nI l') act' wth' lm' te' le' ∧
      ∀ (Tc F : Nat → Int32), agr T Tc t → ∀ (kb : Nat → Int32 → Int32 → Int32 → Int32 → Int32 → Int32 → Option (Int32 × Nat × Int32 × Int32 × Int32)) (mk : Nat), KB kb mk Tc F t → ∀ (f x6 : Nat) (x3 x4 : Int32), f ≥ n + 3 → x6 ≤ a → ∃ v b, kb f x3 x4 1 (nI x6) (nI a) (-1) = some (v, mk, nI t, b, nI p)) := by
  intro n
  induction n using Nat.strongRecOn with
  | _ n ihn =>
  intro a l q f7 act wth lm te le hn hl hq hlm hf7
  obtain ⟨f7, rfl⟩ : ∃ g, f7 = g + 1 := ⟨f7 - 1, by omega⟩
  have hat : a ≤ t := by omega
  unfold ML
  rcases one_line hb ht (te := te) (le := le) (act := act) (wth := wth) hat hl (show q ≤ 60 by omega) hlm with ⟨e, ct, cv, act1, wth1, te1, le1, h1, h2, h3, h4, h5, h6, h7, h8, h9, h10, h11, h12, h13, h14⟩ | ⟨p, h, l1, o1, act1, wth1, te1, le1, lm1, h1, h2, h3, h4, h5, h6⟩
  · rw [h13, bd_of]
    dsimp only
    rw [f_X7_readText_b31, if_neg (show ¬ (0 : Int32) ≤ -1 by decide), s_look ht h2, bd_of]
    have l59 : (lkv T t e = 59) = (cc T t e = 59) := lk_eq hb e 59 (by decide)
    by_cases q59 : cc T t e = 59
    · have hlt := cc_lt hb (show cc T t e < 128 by omega)
      rw [if_pos (by rw [l59]; exact q59), nI_1]
      have hlm1 : upd lm 1 (nI (q + 1)) 1 = nI (q + 1) := upd_eq (α := Nat)
      rcases ihn (t - (e + 1)) (by omega) (e + 1) (l + ct.length + cv.length) (q + 1) f7 act1 wth1 (upd lm 1 (nI (q + 1))) te1 le1 (by omega) (by omega) (by omega) hlm1 (by omega) with ⟨ls, act2, wth2, lm2, te2, le2, -, g1, g2, g3, g4, g5, g6, g7, g8, g9, g10⟩ | ⟨p, h, l', o', act2, wth2, lm2, te2, le2, g1, g2, g3, g4, g5, g6⟩
      · refine Or.inl ⟨(ct, cv) :: ls, act2, wth2, lm2, te2, le2, by omega, g1.trans u1_0, ?_, fun i hi => ?_, fun i hi => ?_, ?_, ?_, ?_, ?_, ?_, fun Tc F hA => ?_⟩
        · rw [g2, List.length_cons, show q + 1 + ls.length = q + (ls.length + 1) by omega]
        · have e1 := g3 i (by omega)
          have e2 := h7 i hi
          exact ⟨e1.1.trans e2.1, e1.2.trans e2.2⟩
        · have e1 := g4 i (by omega)
          have e2 := h8 i hi
          exact ⟨e1.1.trans e2.1, e1.2.trans e2.2⟩
        · have ek := g4 (61 + q) (by omega)
          refine ⟨ek.1.trans h9, segm_move _ _ _ (fun i hi => g3 (130 + l + i) (by omega)) h11, segm_move _ _ _ (fun i hi => g3 (130 + (l + ct.length) + i) (by omega)) h12, ek.2.trans h10, ?_⟩
          exact g5
        · intro s hs
          rcases List.mem_cons.mp hs with rfl | hs
          · exact ⟨h5, h6⟩
          · exact g6 s hs
        · have : lnl ((ct, cv) :: ls) = ct.length + cv.length + lnl ls := rfl
          rw [this]
          omega
        · rw [List.length_cons]
          omega
        · have : lnl ((ct, cv) :: ls) = ct.length + cv.length + lnl ls := rfl
          rw [this, show l + (ct.length + cv.length + lnl ls) = l + ct.length + cv.length + lnl ls by omega]
          exact g9
        · obtain ⟨v, k1, x7, x9, k2, k3⟩ := h14 Tc F hA
          obtain ⟨w, j1, j2⟩ := g10 Tc F hA
          have done : ∀ (kb : Nat → Int32 → Int32 → Int32 → Int32 → Int32 → Int32 → Option (Int32 × Nat × Int32 × Int32 × Int32)) (mk : Nat), KB kb mk Tc F t → ∀ (f x6 : Nat) (x3 : Int32), f ≥ n + 3 → x6 ≤ a → kb f x3 1 1 (nI x6) (nI a) (-1) = some (x3, mk, nI t, nI t, -1) := by
            intro kb mk hk f x6 x3 hf hx
            obtain ⟨f, rfl⟩ : ∃ g, f = g + 1 := ⟨f - 1, by omega⟩
            rw [k3 kb mk hk f x6 x3 1 (by omega), tl_more hb ht hA h2 q59, sa_done, sc_done]
            exact (j2 kb mk hk f (x6 + 1) x3 (by omega) (by omega)).2
          rcases k2 with ⟨k4, rfl⟩ | ⟨k4, k5, k6⟩
          · refine ⟨v, Or.inl ⟨k4, k1⟩, fun kb mk hk f x6 x3 hf hx => ⟨?_, done kb mk hk f x6 x3 hf hx⟩⟩
            obtain ⟨f, rfl⟩ : ∃ g, f = g + 1 := ⟨f - 1, by omega⟩
            rw [k3 kb mk hk f x6 0 0 (by omega), tl_more hb ht hA h2 q59]
            exact (j2 kb mk hk f (x6 + 1) v (by omega) (by omega)).2
          · by_cases q0 : x7 = 0
            · refine ⟨w, Or.inr ⟨k4, x7, k6, Or.inr ⟨q0, j1⟩⟩, fun kb mk hk f x6 x3 hf hx => ⟨?_, done kb mk hk f x6 x3 hf hx⟩⟩
              obtain ⟨f, rfl⟩ : ∃ g, f = g + 1 := ⟨f - 1, by omega⟩
              rw [k3 kb mk hk f x6 0 0 (by omega), tl_more hb ht hA h2 q59]
              unfold sa_ sc_
              rw [if_pos rfl, if_pos rfl, if_neg k5, if_neg k5, if_pos q0, if_pos q0]
              exact (j2 kb mk hk f (x6 + 1) 0 (by omega) (by omega)).1
            · refine ⟨v, Or.inr ⟨k4, x7, k6, Or.inl ⟨q0, k1⟩⟩, fun kb mk hk f x6 x3 hf hx => ⟨?_, done kb mk hk f x6 x3 hf hx⟩⟩
              obtain ⟨f, rfl⟩ : ∃ g, f = g + 1 := ⟨f - 1, by omega⟩
              rw [k3 kb mk hk f x6 0 0 (by omega), tl_more hb ht hA h2 q59]
              unfold sa_ sc_
              rw [if_pos rfl, if_pos rfl, if_neg k5, if_neg k5, if_neg q0, if_neg q0]
              exact (j2 kb mk hk f (x6 + 1) v (by omega) (by omega)).2
      · refine Or.inr ⟨p, h, l', o', act2, wth2, lm2, te2, le2, g1, g2.trans u1_0, fun i hi => ?_, fun i hi => ?_, g5, fun Tc F hA kb mk hk f x6 x3 x4 hf hx => ?_⟩
        · have e1 := g3 i hi
          have e2 := h7 i (by omega)
          exact ⟨e1.1.trans e2.1, e1.2.trans e2.2⟩
        · have e1 := g4 i hi
          have e2 := h8 i (by omega)
          exact ⟨e1.1.trans e2.1, e1.2.trans e2.2⟩
        · obtain ⟨v, -, x7, x9, -, k3⟩ := h14 Tc F hA
          obtain ⟨f, rfl⟩ : ∃ g, f = g + 1 := ⟨f - 1, by omega⟩
          rw [k3 kb mk hk f x6 x3 x4 (by omega), tl_more hb ht hA h2 q59]
          exact g6 Tc F hA kb mk hk f (x6 + 1) _ _ (by omega) (by omega)
    · rw [if_neg (by rw [l59]; exact q59)]
      unfold f_X7_readText_b64
      rw [if_neg (show ¬ (0 : Int32) ≤ -1 by decide), s_faulty, bd_of, ite_eqc (le_nI (by omega) (by omega))]
      by_cases qe : t ≤ e
      · have ee : e = t := by omega
        subst ee
        rw [if_pos qe]
        refine Or.inl ⟨[(ct, cv)], act1, wth1, upd lm 1 (nI (q + 1)), te1, le1, by omega, u1_0, upd_eq (α := Nat), h7, h8, ⟨h9, h11, h12, h10, trivial⟩, ?_, ?_, ?_, ?_, fun Tc F hA => ?_⟩
        · intro s hs
          rw [List.mem_singleton] at hs
          subst hs
          exact ⟨h5, h6⟩
        · show l + (ct.length + cv.length + 0) ≤ e
          omega
        · show q + 1 ≤ 61
          omega
        · show f_X7_readText_b86 x1 (nI e) (nI e) (-1) (nI 0) (nI (l + ct.length + cv.length)) act1 wth1 (upd lm 1 (nI (q + 1))) te1 le1 = f_X7_readText_b86 x1 (nI e) (nI e) (-1) (nI 0) (nI (l + (ct.length + cv.length + 0))) act1 wth1 (upd lm 1 (nI (q + 1))) te1 le1
          rw [show l + (ct.length + cv.length + 0) = l + ct.length + cv.length by omega]
        · obtain ⟨v, k1, x7, x9, k2, k3⟩ := h14 Tc F hA
          have done : ∀ (kb : Nat → Int32 → Int32 → Int32 → Int32 → Int32 → Int32 → Option (Int32 × Nat × Int32 × Int32 × Int32)) (mk : Nat), KB kb mk Tc F e → ∀ (f x6 : Nat) (x3 : Int32), f ≥ n + 3 → x6 ≤ a → kb f x3 1 1 (nI x6) (nI a) (-1) = some (x3, mk, nI e, nI e, -1) := by
            intro kb mk hk f x6 x3 hf hx
            obtain ⟨f, rfl⟩ : ∃ g, f = g + 1 + 1 := ⟨f - 2, by omega⟩
            rw [k3 kb mk hk (f + 1) x6 x3 1 (by omega), tl_end hb ht hk hA h2 q59, if_pos qe, sa_done]
          rcases k2 with ⟨k4, rfl⟩ | ⟨k4, k5, k6⟩
          · refine ⟨v, Or.inl ⟨k4, k1⟩, fun kb mk hk f x6 x3 hf hx => ⟨?_, done kb mk hk f x6 x3 hf hx⟩⟩
            obtain ⟨f, rfl⟩ : ∃ g, f = g + 1 + 1 := ⟨f - 2, by omega⟩
            rw [k3 kb mk hk (f + 1) x6 0 0 (by omega), tl_end hb ht hk hA h2 q59, if_pos qe]
            rfl
          · by_cases q0 : x7 = 0
            · refine ⟨0, Or.inr ⟨k4, x7, k6, Or.inr ⟨q0, rfl⟩⟩, fun kb mk hk f x6 x3 hf hx => ⟨?_, done kb mk hk f x6 x3 hf hx⟩⟩
              obtain ⟨f, rfl⟩ : ∃ g, f = g + 1 + 1 := ⟨f - 2, by omega⟩
              rw [k3 kb mk hk (f + 1) x6 0 0 (by omega), tl_end hb ht hk hA h2 q59, if_pos qe]
              unfold sa_
              rw [if_pos rfl, if_neg k5, if_pos q0]
            · refine ⟨v, Or.inr ⟨k4, x7, k6, Or.inl ⟨q0, k1⟩⟩, fun kb mk hk f x6 x3 hf hx => ⟨?_, done kb mk hk f x6 x3 hf hx⟩⟩
              obtain ⟨f, rfl⟩ : ∃ g, f = g + 1 + 1 := ⟨f - 2, by omega⟩
              rw [k3 kb mk hk (f + 1) x6 0 0 (by omega), tl_end hb ht hk hA h2 q59, if_pos qe]
              unfold sa_
              rw [if_pos rfl, if_neg k5, if_neg q0]
      · rw [if_neg qe]
        refine Or.inr ⟨e, e, l + ct.length + cv.length, nI 0, act1, wth1, upd lm 1 (nI (q + 1)), te1, le1, h2, u1_0, fun i hi => h7 i (by omega), fun i hi => h8 i (by omega), rfl, fun Tc F hA kb mk hk f x6 x3 x4 hf hx => ?_⟩
        obtain ⟨v, -, x7, x9, -, k3⟩ := h14 Tc F hA
        obtain ⟨f, rfl⟩ : ∃ g, f = g + 1 + 1 := ⟨f - 2, by omega⟩
        rw [k3 kb mk hk (f + 1) x6 x3 x4 (by omega), tl_end hb ht hk hA h2 q59, if_neg qe]
        exact ⟨_, _, rfl⟩
  · rw [h5, bd_of]
    dsimp only
    rw [f_X7_readText_b31, if_pos (nI_0le (by omega))]
    unfold f_X7_readText_b64
    rw [if_pos (nI_0le (by omega))]
    refine Or.inr ⟨p, h, l1, o1, act1, wth1, lm1, te1, le1, h1, h2, h3, h4, rfl, fun Tc F hA kb mk hk f x6 x3 x4 hf hx => ?_⟩
    obtain ⟨f, rfl⟩ : ∃ g, f = g + 1 + 1 := ⟨f - 2, by omega⟩
    obtain ⟨x7, x8, x9, b, fc, k1, k2⟩ := h6 Tc F hA kb mk hk (f + 1) x6 x3 x4 (by omega)
    obtain ⟨v, k3⟩ := tl_dead hb ht hk hA h1 k2 f x3 x4 (nI x6) x7 x8 x9
    exact ⟨v, b, k1.trans k3⟩
end TEXT
