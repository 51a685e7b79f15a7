/-! the reach of a door, on both sides -/
def RC (n : Nat) (rch : Nat → Nat) (o wl : Int32) (T_price T_year T_joinEnds T_wallEnds : Nat → Int32) (T_joins T_walls : Int32) (L_text : Nat → Int32) (L_length : Int32) : Prop :=
  ∀ d, d < n → ∀ (L_read : Nat) (L_end L_at L_fault L_d L_p L_y L_j L_o : Int32), ∃ (rd : Nat) (e a f d' p' y' j' o' : Int32), f_X2_reachOf (nI d) o wl T_price T_year T_joinEnds T_wallEnds T_joins T_walls L_text L_length L_read L_end L_at L_fault L_d L_p L_y L_j L_o = some (nI (rch d), rd, e, a, f, d', p', y', j', o')
def zRM (n : Nat) (rch : Nat → Nat) (o : Int32) (M_price M_year : Nat → Int32) (M_joins : Int32) (M_joinA M_joinB M_act M_with M_lineMany M_testEnd M_lineEnd : Nat → Int32) (M_hasLaw : Int32) : Prop :=
  ∀ d, d < n → ∀ (M_facts M_pile : Nat → Int32), ∃ f' p', f_X7_reachOf (nI d) M_price M_year M_joins M_joinA M_joinB o M_act M_with M_lineMany M_testEnd M_lineEnd M_facts M_pile M_hasLaw = some (nI (rch d), f', p')
theorem s_clamp (v : Int32) : ∃ r : Nat, r ≤ 20 ∧ (if 0 < (if v < 20 then v else 20) then (if v < 20 then v else 20) else 0) = nI r ∧ f_X7_held v 0 20 = some (nI r) := by
  unfold f_X7_held
  by_cases h0 : v < 0
  · have h1 : ¬ (0 : Int32) ≤ v := by
      rw [Int32.not_le]
      exact h0
    have h2 : v < 20 := Int32.lt_trans h0 (by decide)
    have h3 : ¬ (0 : Int32) < v := fun z => Int32.lt_irrefl (Int32.lt_trans h0 z)
    exact ⟨0, by decide, by rw [if_pos h2, if_neg h3]; rfl, by rw [if_neg h1]; rfl⟩
  · obtain ⟨k, hk, rfl⟩ := nI_of h0
    have h1 : (0 : Int32) ≤ nI k := by
      rw [L_0, le_nI (by decide) hk]
      omega
    rw [if_pos h1, L_20, ite_eqc (lt_nI hk (by decide)), ite_eqc (le_nI hk (by decide))]
    by_cases h2 : k < 20
    · rw [if_pos h2, if_pos (show k ≤ 20 by omega)]
      refine ⟨k, by omega, ?_, rfl⟩
      rw [L_0, ite_eqc (lt_nI (by decide) hk)]
      by_cases h3 : 0 < k
      · rw [if_pos h3]
      · rw [if_neg h3, show k = 0 by omega]
    · rw [if_neg h2]
      refine ⟨20, by decide, ?_, ?_⟩
      · rw [if_pos (by decide)]
      · by_cases h3 : k ≤ 20
        · rw [if_pos h3, show k = 20 by omega]
        · rw [if_neg h3]
set_option maxHeartbeats 1000000 in
theorem reach_ex {n kj : Nat} {o : Int32} {A B : Nat → Nat} {wl : Int32} {T_price T_year T_joinEnds T_wallEnds : Nat → Int32} {T_joins T_walls : Int32} {L_text : Nat → Int32} {L_length : Int32} {M_price M_year : Nat → Int32} {M_joinA M_joinB M_act M_with M_lineMany M_testEnd M_lineEnd : Nat → Int32} {M_hasLaw : Int32}
    (hn : n ≤ 14) (hC : CJ n kj A B wl T_joinEnds T_wallEnds T_joins T_walls) (hM : MJ n kj A B M_joinA M_joinB) (hp : ∀ i, i < n → T_price i = M_price i) (hy : ∀ i, i < n → T_year i = M_year i)
    (hL : (L_length = 0 ∧ M_hasLaw = 0) ∨ (¬ L_length = 0 ∧ M_hasLaw = 1 ∧ IGives L_text L_length M_act M_with M_lineMany M_testEnd M_lineEnd)) :
    ∃ rch : Nat → Nat, (∀ d, rch d ≤ 20) ∧ RC n rch o wl T_price T_year T_joinEnds T_wallEnds T_joins T_walls L_text L_length ∧ zRM n rch o M_price M_year (nI kj) M_joinA M_joinB M_act M_with M_lineMany M_testEnd M_lineEnd M_hasLaw := by
  have hex : ∀ d, ∃ r, r ≤ 20 ∧ (d < n → (∀ (L_read : Nat) (L_end L_at L_fault L_d L_p L_y L_j L_o : Int32), ∃ (rd : Nat) (e a f d' p' y' j' o' : Int32), f_X2_reachOf (nI d) o wl T_price T_year T_joinEnds T_wallEnds T_joins T_walls L_text L_length L_read L_end L_at L_fault L_d L_p L_y L_j L_o = some (nI r, rd, e, a, f, d', p', y', j', o')) ∧
      (∀ (M_facts M_pile : Nat → Int32), ∃ f' p', f_X7_reachOf (nI d) M_price M_year (nI kj) M_joinA M_joinB o M_act M_with M_lineMany M_testEnd M_lineEnd M_facts M_pile M_hasLaw = some (nI r, f', p'))) := by
    intro d
    by_cases hd : d < n
    · rcases hL with ⟨h1, h2⟩ | ⟨h1, h2, hG⟩
      · refine ⟨3, by decide, fun _ => ⟨fun L_read L_end L_at L_fault L_d L_p L_y L_j L_o => ?_, fun M_facts M_pile => ?_⟩⟩
        · unfold f_X2_reachOf
          rw [if_pos h1]
          exact ⟨_, _, _, _, _, _, _, _, _, rfl⟩
        · unfold f_X7_reachOf
          rw [if_pos h2]
          exact ⟨_, _, rfl⟩
      · have hg := hG M_act M_with M_lineMany M_testEnd M_lineEnd (fun _ _ => rfl) (fun _ _ => rfl) rfl (fun _ _ => rfl) (fun _ _ => rfl)
        have hf : ∀ M_facts : Nat → Int32, ∀ x0 x1 x2 x3 x4 : Int32, (upd (upd (upd (upd (upd M_facts 0 x0) 1 x1) 2 x2) 3 x3) 4 x4) 0 = x0 ∧ (upd (upd (upd (upd (upd M_facts 0 x0) 1 x1) 2 x2) 3 x3) 4 x4) 1 = x1 ∧ (upd (upd (upd (upd (upd M_facts 0 x0) 1 x1) 2 x2) 3 x3) 4 x4) 2 = x2 ∧ (upd (upd (upd (upd (upd M_facts 0 x0) 1 x1) 2 x2) 3 x3) 4 x4) 3 = x3 ∧ (upd (upd (upd (upd (upd M_facts 0 x0) 1 x1) 2 x2) 3 x3) 4 x4) 4 = x4 := by
          intro F x0 x1 x2 x3 x4
          refine ⟨?_, ?_, ?_, ?_, ?_⟩
          · rw [upd_ne (by decide), upd_ne (by decide), upd_ne (by decide), upd_ne (by decide), upd_eq (α := Nat)]
          · rw [upd_ne (by decide), upd_ne (by decide), upd_ne (by decide), upd_eq (α := Nat)]
          · rw [upd_ne (by decide), upd_ne (by decide), upd_eq (α := Nat)]
          · rw [upd_ne (by decide), upd_eq (α := Nat)]
          · rw [upd_eq (α := Nat)]
        have hboth : ∀ (M_facts M_pile : Nat → Int32) (L_read : Nat) (L_end L_at L_fault : Int32), ∃ (v : Int32) (rd : Nat) (e a f : Int32) (pl : Nat → Int32), f_X2_worked_text L_length L_text L_read L_end L_at L_fault (nI d) (M_price d) (M_year d) (nI (cntJ A B d kj)) ((o >>> (nI d &&& 31)) &&& 1) = some (v, rd, e, a, f) ∧ f_X7_gives 0 M_act M_with M_lineMany M_testEnd M_lineEnd (upd (upd (upd (upd (upd M_facts 0 (nI d)) 1 (M_price d)) 2 (M_year d)) 3 (nI (cntJ A B d kj))) 4 ((o >>> (nI d &&& 31)) &&& 1)) M_pile = some (v, pl) := by
          intro M_facts M_pile L_read L_end L_at L_fault
          obtain ⟨g0, g1, g2, g3, g4⟩ := hf M_facts (nI d) (M_price d) (M_year d) (nI (cntJ A B d kj)) ((o >>> (nI d &&& 31)) &&& 1)
          exact hg _ M_pile L_read L_end L_at L_fault _ _ _ _ _ g0 g1 g2 g3 g4
        obtain ⟨v0, rd0, e0, a0, f0, pl0, c0, m0⟩ := hboth (fun _ => 0) (fun _ => 0) 0 0 0 0
        obtain ⟨r, hr, k1, k2⟩ := s_clamp v0
        have z1 : ¬ (1 : Int32) = 0 := by decide
        have c0' : Int32.toNatClampNeg 0 = 0 := by decide
        have c1' : Int32.toNatClampNeg 1 = 1 := by decide
        have c2' : Int32.toNatClampNeg 2 = 2 := by decide
        have c3' : Int32.toNatClampNeg 3 = 3 := by decide
        have c4' : Int32.toNatClampNeg 4 = 4 := by decide
        have q0 : ∀ {α : Type} {k : Option α}, ix 0 5 k = k := ix_nI (i := 0) (by decide) (by decide)
        have q1 : ∀ {α : Type} {k : Option α}, ix 1 5 k = k := ix_nI (i := 1) (by decide) (by decide)
        have q2 : ∀ {α : Type} {k : Option α}, ix 2 5 k = k := ix_nI (i := 2) (by decide) (by decide)
        have q3 : ∀ {α : Type} {k : Option α}, ix 3 5 k = k := ix_nI (i := 3) (by decide) (by decide)
        have q4 : ∀ {α : Type} {k : Option α}, ix 4 5 k = k := ix_nI (i := 4) (by decide) (by decide)
        refine ⟨r, hr, fun _ => ⟨fun L_read L_end L_at L_fault L_d L_p L_y L_j L_o => ?_, fun M_facts M_pile => ?_⟩⟩
        · obtain ⟨v, rd, e, a, f, pl, c, m⟩ := hboth (fun _ => 0) (fun _ => 0) L_read L_end L_at L_fault
          have ev : v = v0 := by
            rw [m0] at m
            exact (Prod.mk.inj (Option.some.inj m)).1.symm
          subst ev
          unfold f_X2_reachOf
          rw [if_neg h1]
          simp only [ix_nI (show d < 14 by omega) (by decide), cl_nI (show d < 2 ^ 31 by omega), s_joinsAt hn (show d < 14 by omega) hC, bd_of, hp d hd, hy d hd, c, k1]
          exact ⟨_, _, _, _, _, _, _, _, _, rfl⟩
        · obtain ⟨v, rd, e, a, f, pl, c, m⟩ := hboth M_facts M_pile 0 0 0 0
          have ev : v = v0 := by
            rw [c0] at c
            exact (Prod.mk.inj (Option.some.inj c)).1.symm
          subst ev
          unfold f_X7_reachOf
          rw [if_neg (by rw [h2]; exact z1)]
          simp only [q0, q1, q2, q3, q4, c0', c1', c2', c3', c4', ix_nI (show d < 14 by omega) (by decide), cl_nI (show d < 2 ^ 31 by omega), s_joinsOf hn (show d < 14 by omega) hM, bd_of, m, k2]
          exact ⟨_, _, rfl⟩
    · exact ⟨0, by decide, fun z => absurd z hd⟩
  refine ⟨fun d => Classical.choose (hex d), fun d => (Classical.choose_spec (hex d)).1, fun d hd => ((Classical.choose_spec (hex d)).2 hd).1, fun d hd => ((Classical.choose_spec (hex d)).2 hd).2⟩
