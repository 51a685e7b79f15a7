/-! the model's four chains; a comparison; an operand -/
section CHAINS
variable {T : Nat → Int32} {t j : Nat} {ro : (Nat → Int32) → Int32 → Int32 → Int32 → Int32 → Int32 → (Nat → Int32) → (Nat → Int32) → Option (Int32 × Int32 × Int32 × Int32 × (Nat → Int32) × (Nat → Int32))}
theorem lk_nI {a : Nat} (hb : byT T t) (h : cc T t a < 128) : lkv T t a = nI (cc T t a) := by
  rcases cc_cases hb a with ⟨-, -, h2, -⟩ | ⟨h2, -⟩
  · exact h2
  · omega
theorem lk_ne {a k : Nat} (hb : byT T t) (hk : k < 128) (h : ¬ cc T t a = k) : ¬ lkv T t a = nI k := by
  rw [lk_eq hb a k hk]
  exact h
theorem ch_product (hb : byT T t) (ht : t ≤ 120) : LOOPS T t j 4 ro (f_X7_product_b4 ro T (nI t)) := by
  refine ⟨fun f a l act wth ha hr => ?_, fun f a l act wth ha hr => ?_, fun f p h o l act wth hp => ?_⟩
  · have hs : cc T t a = 42 ∨ cc T t a = 47 ∨ cc T t a = 37 := by
      have h1 : ¬ rkc (cc T t a) = -1 := by
        rw [hr]
        decide
      rcases jt_cases h1 with e | e | e | e | e | e | e | e | e | e
      · omega
      · rw [e] at hr; exact absurd hr (by decide)
      · omega
      · rw [e] at hr; exact absurd hr (by decide)
      · rw [e] at hr; exact absurd hr (by decide)
      · omega
      · rw [e] at hr; exact absurd hr (by decide)
      · rw [e] at hr; exact absurd hr (by decide)
      · rw [e] at hr; exact absurd hr (by decide)
      · rw [e] at hr; exact absurd hr (by decide)
    rw [f_X7_product_b4, if_neg (by decide), s_look ht ha, bd_of, bd_of, bd_of]
    unfold f_X7_product_b38
    rw [s_look ht ha, bd_of, nI_1, lk_nI hb (by omega)]
    rcases hs with e | e | e
    · rw [e, if_pos (show nI 42 = 42 from rfl)]
    · rw [e, if_neg (show ¬ nI 47 = 42 by decide), if_pos (show nI 47 = 47 from rfl)]
    · rw [e, if_neg (show ¬ nI 37 = 42 by decide), if_neg (show ¬ nI 37 = 47 by decide), if_pos (show nI 37 = 37 from rfl)]
  · have n1 : ¬ lkv T t a = 42 := lk_ne (k := 42) hb (by decide) (fun z => hr (by rw [z]; rfl))
    have n2 : ¬ lkv T t a = 47 := lk_ne (k := 47) hb (by decide) (fun z => hr (by rw [z]; rfl))
    have n3 : ¬ lkv T t a = 37 := lk_ne (k := 37) hb (by decide) (fun z => hr (by rw [z]; rfl))
    rw [f_X7_product_b4, if_neg (by decide), s_look ht ha, bd_of, bd_of, bd_of, if_neg n1, if_neg n2, if_neg n3]
  · rw [f_X7_product_b4, if_pos (nI_0le (by omega))]
theorem ch_sum (hb : byT T t) (ht : t ≤ 120) : LOOPS T t j 3 (f_X7_product ro) (f_X7_sum_b4 ro T (nI t)) := by
  refine ⟨fun f a l act wth ha hr => ?_, fun f a l act wth ha hr => ?_, fun f p h o l act wth hp => ?_⟩
  · have hs : cc T t a = 43 ∨ cc T t a = 45 := by
      have h1 : ¬ rkc (cc T t a) = -1 := by
        rw [hr]
        decide
      rcases jt_cases h1 with e | e | e | e | e | e | e | e | e | e
      · rw [e] at hr; exact absurd hr (by decide)
      · rw [e] at hr; exact absurd hr (by decide)
      · rw [e] at hr; exact absurd hr (by decide)
      · omega
      · omega
      · rw [e] at hr; exact absurd hr (by decide)
      · rw [e] at hr; exact absurd hr (by decide)
      · rw [e] at hr; exact absurd hr (by decide)
      · rw [e] at hr; exact absurd hr (by decide)
      · rw [e] at hr; exact absurd hr (by decide)
    rw [f_X7_sum_b4, if_neg (by decide), s_look ht ha, bd_of, bd_of]
    unfold f_X7_sum_b29
    rw [s_look ht ha, bd_of, nI_1, lk_nI hb (by omega)]
    rcases hs with e | e
    · rw [e, if_pos (show nI 43 = 43 from rfl)]
    · rw [e, if_neg (show ¬ nI 45 = 43 by decide), if_pos (show nI 45 = 45 from rfl)]
  · have n1 : ¬ lkv T t a = 43 := lk_ne (k := 43) hb (by decide) (fun z => hr (by rw [z]; rfl))
    have n2 : ¬ lkv T t a = 45 := lk_ne (k := 45) hb (by decide) (fun z => hr (by rw [z]; rfl))
    rw [f_X7_sum_b4, if_neg (by decide), s_look ht ha, bd_of, bd_of, if_neg n1, if_neg n2]
  · rw [f_X7_sum_b4, if_pos (nI_0le (by omega))]
theorem ch_both (hb : byT T t) (ht : t ≤ 120) : LOOPS T t j 1 (f_X7_compared ro) (f_X7_both_b4 ro T (nI t)) := by
  refine ⟨fun f a l act wth ha hr => ?_, fun f a l act wth ha hr => ?_, fun f p h o l act wth hp => ?_⟩
  · have hs : cc T t a = 38 := by
      have h1 : ¬ rkc (cc T t a) = -1 := by
        rw [hr]
        decide
      rcases jt_cases h1 with e | e | e | e | e | e | e | e | e | e
      · rw [e] at hr; exact absurd hr (by decide)
      · exact e
      · rw [e] at hr; exact absurd hr (by decide)
      · rw [e] at hr; exact absurd hr (by decide)
      · rw [e] at hr; exact absurd hr (by decide)
      · rw [e] at hr; exact absurd hr (by decide)
      · rw [e] at hr; exact absurd hr (by decide)
      · rw [e] at hr; exact absurd hr (by decide)
      · rw [e] at hr; exact absurd hr (by decide)
      · rw [e] at hr; exact absurd hr (by decide)
    rw [f_X7_both_b4, if_neg (by decide), s_look ht ha, bd_of, lk_nI hb (by omega), hs, if_pos (show nI 38 = 38 from rfl), nI_1]
    rfl
  · have n1 : ¬ lkv T t a = 38 := lk_ne (k := 38) hb (by decide) (fun z => hr (by rw [z]; rfl))
    rw [f_X7_both_b4, if_neg (by decide), s_look ht ha, bd_of, if_neg n1]
  · rw [f_X7_both_b4, if_pos (nI_0le (by omega))]
theorem ch_either (hb : byT T t) (ht : t ≤ 120) : LOOPS T t j 0 (f_X7_both ro) (f_X7_either_b4 ro T (nI t)) := by
  refine ⟨fun f a l act wth ha hr => ?_, fun f a l act wth ha hr => ?_, fun f p h o l act wth hp => ?_⟩
  · have hs : cc T t a = 124 := by
      have h1 : ¬ rkc (cc T t a) = -1 := by
        rw [hr]
        decide
      rcases jt_cases h1 with e | e | e | e | e | e | e | e | e | e
      · rw [e] at hr; exact absurd hr (by decide)
      · rw [e] at hr; exact absurd hr (by decide)
      · rw [e] at hr; exact absurd hr (by decide)
      · rw [e] at hr; exact absurd hr (by decide)
      · rw [e] at hr; exact absurd hr (by decide)
      · rw [e] at hr; exact absurd hr (by decide)
      · rw [e] at hr; exact absurd hr (by decide)
      · rw [e] at hr; exact absurd hr (by decide)
      · rw [e] at hr; exact absurd hr (by decide)
      · exact e
    rw [f_X7_either_b4, if_neg (by decide), s_look ht ha, bd_of, lk_nI hb (by omega), hs, if_pos (show nI 124 = 124 from rfl), nI_1]
    rfl
  · have n1 : ¬ lkv T t a = 124 := lk_ne (k := 124) hb (by decide) (fun z => hr (by rw [z]; rfl))
    rw [f_X7_either_b4, if_neg (by decide), s_look ht ha, bd_of, if_neg n1]
  · rw [f_X7_either_b4, if_pos (nI_0le (by omega))]
variable {rr : Int32 → Int32 → (Nat → Int32) → Int32 → Int32 → Int32 → Int32 → Int32 → Int32 → Int32 → Int32 → Option (Int32 × Int32 × Int32)} {op : Int32 → (Nat → Int32) → Int32 → Int32 → Int32 → Int32 → Int32 → Int32 → Int32 → Int32 → Option (Int32 × Int32 × Int32)}
theorem ch_compared (hb : byT T t) (ht : t ≤ 120) (hsub : SUBR T t j 3 rr (f_X7_sum ro)) : SUBR T t j 2 (f_X2_ranked_r13 rr op) (f_X7_compared ro) := by
  intro a l act wth ha hl
  have cls : ∀ (Tc F : Nat → Int32), f_X2_ranked_r13 rr op (nI 2) (nI j) Tc (nI t) (nI a) (-1) (F 0) (F 1) (F 2) (F 3) (F 4) = bd (rr (nI 3) (nI j) Tc (nI t) (nI a) (-1) (F 0) (F 1) (F 2) (F 3) (F 4)) fun u2 => f_X2_ranked_r13_b36 rr op (nI 2) (nI j) 1 Tc (nI t) (F 0) (F 1) (F 2) (F 3) (F 4) (99998 + 1 + 1) u2.1 (nI 0) u2.2.1 u2.2.2 := by
    intro Tc F
    unfold f_X2_ranked_r13 f_X2_ranked_r13_b31
    rw [if_pos (show nI 2 < 5 by decide), nI_1]
    simp only [if_pos (show nI 2 = 2 from rfl)]
    rfl
  rcases hsub a l act wth ha hl with ⟨a1, code1, act1, wth1, h1, h2, h3, h4, h5, h6, h7, h8, h9⟩ | ⟨p, h, l1, o1, act1, wth1, h1, h2, h3, h4, h5, h6, h7⟩
  · have mod : f_X7_compared ro T (nI t) (nI a) (-1) (nI j) (nI l) act wth = (if lkv T t a1 = 60 then f_X7_compared_b35 ro (lkv T t a1) T (nI t) (nI a1) (-1) (nI j) (nI (l + code1.length)) act1 wth1 else if lkv T t a1 = 61 then f_X7_compared_b35 ro (lkv T t a1) T (nI t) (nI a1) (-1) (nI j) (nI (l + code1.length)) act1 wth1 else if lkv T t a1 = 62 then f_X7_compared_b35 ro (lkv T t a1) T (nI t) (nI a1) (-1) (nI j) (nI (l + code1.length)) act1 wth1 else some (nI a1, -1, nI j, nI (l + code1.length), act1, wth1)) := by
      unfold f_X7_compared
      rw [h8, bd_of]
      dsimp only
      rw [s_look ht h2, bd_of, if_neg (show ¬ (0 : Int32) ≤ -1 by decide)]
    have c2 : ∀ (Tc F : Nat → Int32), agr T Tc t → ∀ v : Int32, f_X2_ranked_r13_b36 rr op (nI 2) (nI j) 1 Tc (nI t) (F 0) (F 1) (F 2) (F 3) (F 4) (99998 + 1 + 1) v (nI 0) (nI a1) (-1) = if rkc (cc T t a1) = nI 2 then bd (rr (nI 3) (nI j) Tc (nI t) (nI (a1 + 1)) (-1) (F 0) (F 1) (F 2) (F 3) (F 4)) fun u9 => bd (f_X2_joined (nxv T t a1) v u9.1) fun u10 => some (u10, u9.2.1, u9.2.2) else some (v, nI a1, -1) := by
      intro Tc F hA v
      rw [f_X2_ranked_r13_b36, if_neg (show ¬ (1 : Int32) ≤ nI 0 by decide), s_next ht h2 hA, bd_of, nx_rank hb, bd_of, bd_of, nI_1, nI_1]
      by_cases q : rkc (cc T t a1) = nI 2
      · rw [if_pos q, if_pos q]
        congr 1
      · rw [if_neg q, if_neg q]
    by_cases q : rkc (cc T t a1) = nI 2
    · have hs : ¬ rkc (cc T t a1) = -1 := by
        rw [q]
        decide
      obtain ⟨hc1, hc2⟩ := sign_lt hs
      have hlt := cc_lt hb hc2
      have hnx : nxv T t a1 = nI (cc T t a1) := by
        rcases cc_cases hb a1 with ⟨-, -, -, h⟩ | ⟨h, -⟩
        · exact h
        · omega
      have hsel : cc T t a1 = 60 ∨ cc T t a1 = 61 ∨ cc T t a1 = 62 := by
        rcases jt_cases hs with e | e | e | e | e | e | e | e | e | e
        · rw [e] at q; exact absurd q (by decide)
        · rw [e] at q; exact absurd q (by decide)
        · rw [e] at q; exact absurd q (by decide)
        · rw [e] at q; exact absurd q (by decide)
        · rw [e] at q; exact absurd q (by decide)
        · rw [e] at q; exact absurd q (by decide)
        · omega
        · omega
        · omega
        · rw [e] at q; exact absurd q (by decide)
      have mod2 : f_X7_compared ro T (nI t) (nI a) (-1) (nI j) (nI l) act wth = f_X7_compared_b35 ro (nI (cc T t a1)) T (nI t) (nI a1) (-1) (nI j) (nI (l + code1.length)) act1 wth1 := by
        rw [mod, lk_nI hb hc2]
        rcases hsel with e | e | e
        · rw [e, if_pos (show nI 60 = 60 from rfl)]
        · rw [e, if_neg (show ¬ nI 61 = 60 by decide), if_pos (show nI 61 = 61 from rfl)]
        · rw [e, if_neg (show ¬ nI 62 = 60 by decide), if_neg (show ¬ nI 62 = 61 by decide), if_pos (show nI 62 = 62 from rfl)]
      rcases hsub (a1 + 1) (l + code1.length) act1 wth1 (by omega) (by omega) with ⟨a2, code2, act2, wth2, g1, g2, g3, g4, g5, g6, g7, g8, g9⟩ | ⟨p, h, l2, o2, act2, wth2, g1, g2, g3, g4, g5, g6, g7⟩
      · have hseg : segm (upd act2 (130 + (l + code1.length + code2.length)) (nI (cc T t a1))) (upd wth2 (130 + (l + code1.length + code2.length)) 0) (130 + (l + code1.length)) (code2 ++ [(nI (cc T t a1), 0)]) := by
          have := segm_put (w := nI (cc T t a1)) (u := 0) g7
          rwa [Nat.add_assoc] at this
        have hpres : ∀ i, i < 130 + (l + code1.length) → upd act2 (130 + (l + code1.length + code2.length)) (nI (cc T t a1)) i = act1 i ∧ upd wth2 (130 + (l + code1.length + code2.length)) 0 i = wth1 i := fun i hi => by
          rw [upd_ne (by omega), upd_ne (by omega)]
          exact g6 i hi
        refine Or.inl ⟨a2, code1 ++ (code2 ++ [(nI (cc T t a1), 0)]), upd act2 (130 + (l + code1.length + code2.length)) (nI (cc T t a1)), upd wth2 (130 + (l + code1.length + code2.length)) 0, by omega, g2, ?_, ?_, wfc_app h5 (wfc_app g5 (wfc_one hc2 0)), fun i hi => ?_, ?_, ?_, fun Tc F hA => ?_⟩
        · rw [List.length_append, List.length_append, List.length_singleton]
          omega
        · rw [List.length_append]
          omega
        · have e1 := hpres i (by omega)
          have e3 := h6 i hi
          exact ⟨e1.1.trans e3.1, e1.2.trans e3.2⟩
        · rw [segm_app]
          refine ⟨segm_move _ _ _ (fun i hi => hpres (130 + l + i) (by omega)) h7, ?_⟩
          rw [show 130 + l + code1.length = 130 + (l + code1.length) by omega]
          exact hseg
        · rw [mod2]
          unfold f_X7_compared_b35
          rw [nI_1, g8, bd_of]
          dsimp only
          rw [s_addStep hc2 (by omega), bd_of, List.length_append, List.length_append, List.length_singleton, show l + (code1.length + (code2.length + 1)) = l + code1.length + code2.length + 1 by omega]
        · obtain ⟨u, k1, k2⟩ := h9 Tc F hA
          obtain ⟨u2, k3, k4⟩ := g9 Tc F hA
          obtain ⟨z, k5, k6⟩ := jt hs u u2
          refine ⟨z, ?_, fun st => Exs_app _ _ _ _ _ (k2 st) (Exs_app _ _ _ _ _ (k4 (u :: st)) (Exs_one (Ex1_sign hs k6)))⟩
          have k1' : rr (nI 3) (nI j) Tc (nI t) (nI a) (-1) (F 0) (F 1) (F 2) (F 3) (F 4) = some (u, nI a1, -1) := k1
          have k3' : rr (nI 3) (nI j) Tc (nI t) (nI (a1 + 1)) (-1) (F 0) (F 1) (F 2) (F 3) (F 4) = some (u2, nI a2, -1) := k3
          show f_X2_ranked_r13 rr op (nI 2) (nI j) Tc (nI t) (nI a) (-1) (F 0) (F 1) (F 2) (F 3) (F 4) = _
          rw [cls Tc F, k1', bd_of]
          dsimp only
          rw [c2 Tc F hA u, if_pos q, k3', bd_of, hnx]
          dsimp only
          rw [k5, bd_of]
      · refine Or.inr ⟨p, h, l2 + 1, o2, upd act2 (130 + l2) (nI (cc T t a1)), upd wth2 (130 + l2) 0, g1, by omega, g3, by omega, fun i hi => ?_, ?_, fun Tc F hA => ?_⟩
        · rw [upd_ne (by omega), upd_ne (by omega)]
          have e1 := g5 i hi
          have e3 := h6 i (by omega)
          exact ⟨e1.1.trans e3.1, e1.2.trans e3.2⟩
        · rw [mod2]
          unfold f_X7_compared_b35
          rw [nI_1, g6, bd_of]
          dsimp only
          rw [s_addStep hc2 (by omega), bd_of]
        · obtain ⟨u, k1, k2⟩ := h9 Tc F hA
          obtain ⟨u2, b, fc, k3, k4⟩ := g7 Tc F hA
          obtain ⟨z, k5, k6⟩ := jt hs u u2
          refine ⟨z, b, fc, ?_, k4⟩
          have k1' : rr (nI 3) (nI j) Tc (nI t) (nI a) (-1) (F 0) (F 1) (F 2) (F 3) (F 4) = some (u, nI a1, -1) := k1
          have k3' : rr (nI 3) (nI j) Tc (nI t) (nI (a1 + 1)) (-1) (F 0) (F 1) (F 2) (F 3) (F 4) = some (u2, b, fc) := k3
          show f_X2_ranked_r13 rr op (nI 2) (nI j) Tc (nI t) (nI a) (-1) (F 0) (F 1) (F 2) (F 3) (F 4) = _
          rw [cls Tc F, k1', bd_of]
          dsimp only
          rw [c2 Tc F hA u, if_pos q, k3', bd_of, hnx]
          dsimp only
          rw [k5, bd_of]
    · have n1 : ¬ lkv T t a1 = 60 := lk_ne (k := 60) hb (by decide) (fun z => q (by rw [z]; rfl))
      have n2 : ¬ lkv T t a1 = 61 := lk_ne (k := 61) hb (by decide) (fun z => q (by rw [z]; rfl))
      have n3 : ¬ lkv T t a1 = 62 := lk_ne (k := 62) hb (by decide) (fun z => q (by rw [z]; rfl))
      refine Or.inl ⟨a1, code1, act1, wth1, h1, h2, h3, h4, h5, h6, h7, ?_, fun Tc F hA => ?_⟩
      · rw [mod, if_neg n1, if_neg n2, if_neg n3]
      · obtain ⟨u, k1, k2⟩ := h9 Tc F hA
        refine ⟨u, ?_, k2⟩
        have k1' : rr (nI 3) (nI j) Tc (nI t) (nI a) (-1) (F 0) (F 1) (F 2) (F 3) (F 4) = some (u, nI a1, -1) := k1
        show f_X2_ranked_r13 rr op (nI 2) (nI j) Tc (nI t) (nI a) (-1) (F 0) (F 1) (F 2) (F 3) (F 4) = _
        rw [cls Tc F, k1', bd_of]
        dsimp only
        rw [c2 Tc F hA u, if_neg q]
  · refine Or.inr ⟨p, h, l1, o1, act1, wth1, h1, h2, h3, h4, h5, ?_, fun Tc F hA => ?_⟩
    · unfold f_X7_compared
      rw [h6, bd_of]
      dsimp only
      rw [s_look ht h3, bd_of, if_pos (nI_0le (by omega))]
    · obtain ⟨u, b, fc, k1, k2⟩ := h7 Tc F hA
      obtain ⟨c, k5, k6, -⟩ := dead_next hb ht h1 hA k2
      refine ⟨u, b, fc, ?_, k2⟩
      have k1' : rr (nI 3) (nI j) Tc (nI t) (nI a) (-1) (F 0) (F 1) (F 2) (F 3) (F 4) = some (u, b, fc) := k1
      show f_X2_ranked_r13 rr op (nI 2) (nI j) Tc (nI t) (nI a) (-1) (F 0) (F 1) (F 2) (F 3) (F 4) = _
      rw [cls Tc F, k1', bd_of]
      dsimp only
      rw [f_X2_ranked_r13_b36, if_neg (show ¬ (1 : Int32) ≤ nI 0 by decide), k5, bd_of, k6, bd_of, if_neg (show ¬ (-1 : Int32) = nI 2 by decide)]
end CHAINS
