section CT21_m03
variable {l : Launch} {D : va_G} {q : Nat → ClassId} {ρ : Nat → Nat} {sz : Nat} {M_code : Int32} {M_doors : Int32} {M_price : Nat → Int32} {M_year : Nat → Int32} {M_joins : Int32} {M_joinA : Nat → Int32} {M_joinB : Nat → Int32} {M_walls : Int32} {M_wallA : Nat → Int32} {M_wallB : Nat → Int32} {M_cost : Nat → Int32} {M_olds : Int32} {M_near : Int32} {M_doneMany : Int32} {M_undoneMany : Int32} {M_changeOf : Nat → Int32} {M_changeAt : Nat → Int32} {M_before : Nat → Int32} {M_behind : Nat → Int32} {M_tape : Nat → Int32} {M_taped : Int32} {M_here : Int32} {M_fault : Int32} {M_open : Int32} {M_laid : Int32} {M_act : Nat → Int32} {M_with : Nat → Int32} {M_lineMany : Nat → Int32} {M_testEnd : Nat → Int32} {M_lineEnd : Nat → Int32} {M_facts : Nat → Int32} {M_pile : Nat → Int32} {M_hasLaw : Int32} {M_far : Nat → Int32} {M_within : Nat → Int32} {M_tooNear : Nat → Int32} {M_dried : Int32} {M_isOn : Nat → Int32} {M_wasOn : Nat → Int32} {M_bodies : Int32} {M_kind : Nat → Int32} {M_traces : Int32} {M_traced : Nat → Int32} {M_holds : Nat → Int32} {M_size : Nat → Int32} {M_elements : Nat → Int64} {M_shifted : Nat → Int64}
set_option maxHeartbeats 4000000 in
set_option maxRecDepth 100000 in
theorem c_X7_worked {a1 : Int32} {a2 : Int32} {a3 : Int32} {d : Nat} {res : Int32 × (Nat → Int32)} (hd : 1 ≤ d) (h : f_X7_worked a1 a2 a3 M_act M_with M_facts M_pile = some res) : zMi l yX7_worked cX7_worked 7 .int (zrm d) [.ref (ρ 0), .int a1, .int a2, .int a3] D q (WM q ρ M_code M_doors M_price M_year M_joins M_joinA M_joinB M_walls M_wallA M_wallB M_cost M_olds M_near M_doneMany M_undoneMany M_changeOf M_changeAt M_before M_behind M_tape M_taped M_here M_fault M_open M_laid M_act M_with M_lineMany M_testEnd M_lineEnd M_facts M_pile M_hasLaw M_far M_within M_tooNear M_dried M_isOn M_wasOn M_bodies M_kind M_traces M_traced M_holds M_size M_elements M_shifted) sz res.1 (WM q ρ M_code M_doors M_price M_year M_joins M_joinA M_joinB M_walls M_wallA M_wallB M_cost M_olds M_near M_doneMany M_undoneMany M_changeOf M_changeAt M_before M_behind M_tape M_taped M_here M_fault M_open M_laid M_act M_with M_lineMany M_testEnd M_lineEnd M_facts res.2 M_hasLaw M_far M_within M_tooNear M_dried M_isOn M_wasOn M_bodies M_kind M_traces M_traced M_holds M_size M_elements M_shifted) := by
  refine zMet_i (own := RX7) _ (by decide) rfl (Nat.le_of_ble_eq_true rfl) ?_
  intro p e s m args below meth c A ls Q hC hW hl hret
  have hx := hC.1
  have hb := hC.2.1
  have hl : lv_has ls 7 [(0, .ref (ρ 0)), (1, .int a1), (2, .int a2), (3, .int a3)] := hl
  have b182 : ∀ {x1 : Int32} {x3 : Int32} {x4 : Int32} {x5 : Int32} {M_pile : Nat → Int32} {k12 : Int32 → Int32 → (Nat → Int32) → Option (Int32 × (Nat → Int32))} (hk12 : ∀ {x4 : Int32} {x5 : Int32} {M_pile : Nat → Int32} {H : Heap} {locs : List Loc} {ls : Array Slot}, k12 x4 x5 M_pile = some res → zW D A s.heap (WM q ρ M_code M_doors M_price M_year M_joins M_joinA M_joinB M_walls M_wallA M_wallB M_cost M_olds M_near M_doneMany M_undoneMany M_changeOf M_changeAt M_before M_behind M_tape M_taped M_here M_fault M_open M_laid M_act M_with M_lineMany M_testEnd M_lineEnd M_facts M_pile M_hasLaw M_far M_within M_tooNear M_dried M_isOn M_wasOn M_bodies M_kind M_traces M_traced M_holds M_size M_elements M_shifted) H locs → lv_has ls 7 [(0, .ref (ρ 0)), (1, .int x1), (3, .int x3), (4, .int x4), (5, .int x5)] → W p l e (zrm d) s m args below meth c H locs 0 0 Q (F0 m 12 ls [])) {H : Heap} {locs : List Loc} {ls : Array Slot}, f_X7_worked_b182 k12 x1 x3 x4 x5 M_act M_with M_facts M_pile = some res → zW D A s.heap (WM q ρ M_code M_doors M_price M_year M_joins M_joinA M_joinB M_walls M_wallA M_wallB M_cost M_olds M_near M_doneMany M_undoneMany M_changeOf M_changeAt M_before M_behind M_tape M_taped M_here M_fault M_open M_laid M_act M_with M_lineMany M_testEnd M_lineEnd M_facts M_pile M_hasLaw M_far M_within M_tooNear M_dried M_isOn M_wasOn M_bodies M_kind M_traces M_traced M_holds M_size M_elements M_shifted) H locs → lv_has ls 7 [(0, .ref (ρ 0)), (1, .int x1), (3, .int x3), (4, .int x4), (5, .int x5)] → W p l e (zrm d) s m args below meth c H locs 0 0 Q (F0 m 182 ls []) := by
    intro x1 x3 x4 x5 M_pile k12 hk12 H locs ls h hW hl
    unfold f_X7_worked_b182 at h
    refine lv_iinc (v := (x5 + 1)) (lv' := [(5, .int (x5 + 1)), (0, .ref (ρ 0)), (1, .int x1), (3, .int x3), (4, .int x4)]) hx hb dX7_worked_182 hl (k := 4) rfl rfl (by decide) rfl (fun ls hl => ?_)
    refine lv_goto (tgt := 12) hx hb dX7_worked_185 (by decide) ?_
    exact hk12 h hW (lv_sub hl [1, 2, 3, 4, 0] rfl)
  have b79 : ∀ {x1 : Int32} {x3 : Int32} {x4 : Int32} {x5 : Int32} {s0 : Int32} {s1 : Int32} {M_pile : Nat → Int32} {k12 : Int32 → Int32 → (Nat → Int32) → Option (Int32 × (Nat → Int32))} (hk12 : ∀ {x4 : Int32} {x5 : Int32} {M_pile : Nat → Int32} {H : Heap} {locs : List Loc} {ls : Array Slot}, k12 x4 x5 M_pile = some res → zW D A s.heap (WM q ρ M_code M_doors M_price M_year M_joins M_joinA M_joinB M_walls M_wallA M_wallB M_cost M_olds M_near M_doneMany M_undoneMany M_changeOf M_changeAt M_before M_behind M_tape M_taped M_here M_fault M_open M_laid M_act M_with M_lineMany M_testEnd M_lineEnd M_facts M_pile M_hasLaw M_far M_within M_tooNear M_dried M_isOn M_wasOn M_bodies M_kind M_traces M_traced M_holds M_size M_elements M_shifted) H locs → lv_has ls 7 [(0, .ref (ρ 0)), (1, .int x1), (3, .int x3), (4, .int x4), (5, .int x5)] → W p l e (zrm d) s m args below meth c H locs 0 0 Q (F0 m 12 ls [])) {H : Heap} {locs : List Loc} {ls : Array Slot}, f_X7_worked_b79 k12 x1 x3 x4 x5 s0 s1 M_act M_with M_facts M_pile = some res → zW D A s.heap (WM q ρ M_code M_doors M_price M_year M_joins M_joinA M_joinB M_walls M_wallA M_wallB M_cost M_olds M_near M_doneMany M_undoneMany M_changeOf M_changeAt M_before M_behind M_tape M_taped M_here M_fault M_open M_laid M_act M_with M_lineMany M_testEnd M_lineEnd M_facts M_pile M_hasLaw M_far M_within M_tooNear M_dried M_isOn M_wasOn M_bodies M_kind M_traces M_traced M_holds M_size M_elements M_shifted) H locs → lv_has ls 7 [(0, .ref (ρ 0)), (1, .int x1), (3, .int x3), (4, .int x4), (5, .int x5)] → W p l e (zrm d) s m args below meth c H locs 0 0 Q (F0 m 79 ls [.int s0, .int s1, .ref (ρ 19)]) := by
    intro x1 x3 x4 x5 s0 s1 M_pile k12 hk12 H locs ls h hW hl
    unfold f_X7_worked_b79 at h
    obtain ⟨g8, h⟩ := ix_some h
    refine z_iast hC hW 19 WM_19 g8 WMs_M_pile dX7_worked_79 (fun H locs hW => ?_)
    refine lv_iinc (v := (x4 + 1)) (lv' := [(4, .int (x4 + 1)), (0, .ref (ρ 0)), (1, .int x1), (3, .int x3), (5, .int x5)]) hx hb dX7_worked_80 hl (k := 3) rfl rfl (by decide) rfl (fun ls hl => ?_)
    refine lv_goto (tgt := 182) hx hb dX7_worked_83 (by decide) ?_
    exact b182 hk12 h hW (lv_sub hl [1, 2, 3, 0, 4] rfl)
  have b45 : ∀ {x1 : Int32} {x3 : Int32} {x4 : Int32} {x5 : Int32} {x6 : Int32} {M_pile : Nat → Int32} {k12 : Int32 → Int32 → (Nat → Int32) → Option (Int32 × (Nat → Int32))} (hk12 : ∀ {x4 : Int32} {x5 : Int32} {M_pile : Nat → Int32} {H : Heap} {locs : List Loc} {ls : Array Slot}, k12 x4 x5 M_pile = some res → zW D A s.heap (WM q ρ M_code M_doors M_price M_year M_joins M_joinA M_joinB M_walls M_wallA M_wallB M_cost M_olds M_near M_doneMany M_undoneMany M_changeOf M_changeAt M_before M_behind M_tape M_taped M_here M_fault M_open M_laid M_act M_with M_lineMany M_testEnd M_lineEnd M_facts M_pile M_hasLaw M_far M_within M_tooNear M_dried M_isOn M_wasOn M_bodies M_kind M_traces M_traced M_holds M_size M_elements M_shifted) H locs → lv_has ls 7 [(0, .ref (ρ 0)), (1, .int x1), (3, .int x3), (4, .int x4), (5, .int x5)] → W p l e (zrm d) s m args below meth c H locs 0 0 Q (F0 m 12 ls [])) {H : Heap} {locs : List Loc} {ls : Array Slot}, f_X7_worked_b45 k12 x1 x3 x4 x5 x6 M_act M_with M_facts M_pile = some res → zW D A s.heap (WM q ρ M_code M_doors M_price M_year M_joins M_joinA M_joinB M_walls M_wallA M_wallB M_cost M_olds M_near M_doneMany M_undoneMany M_changeOf M_changeAt M_before M_behind M_tape M_taped M_here M_fault M_open M_laid M_act M_with M_lineMany M_testEnd M_lineEnd M_facts M_pile M_hasLaw M_far M_within M_tooNear M_dried M_isOn M_wasOn M_bodies M_kind M_traces M_traced M_holds M_size M_elements M_shifted) H locs → lv_has ls 7 [(0, .ref (ρ 0)), (1, .int x1), (3, .int x3), (4, .int x4), (5, .int x5), (6, .int x6)] → W p l e (zrm d) s m args below meth c H locs 0 0 Q (F0 m 45 ls []) := by
    intro x1 x3 x4 x5 x6 M_pile k12 hk12 H locs ls h hW hl
    unfold f_X7_worked_b45 at h
    refine lv_aload_n hx hb dX7_worked_45 rfl (lv_at hl 0 rfl) ?_
    refine z_get hC hW fg_X7_70 0 WM_0 rfl dX7_worked_46 ?_
    refine lv_iload hx hb dX7_worked_49 (lv_at hl 3 rfl) ?_
    refine lv_iload hx hb dX7_worked_51 (lv_at hl 5 rfl) ?_
    refine lv_iconst (v := 1) hx hb dX7_worked_53 (by decide) ?_
    refine lv_icmp_ne (tgt := 67) hx hb dX7_worked_54 (by decide) (fun c5 => ?_) (fun c5 => ?_)
    · have h := ifn c5 h
      refine lv_aload_n hx hb dX7_worked_67 rfl (lv_at hl 0 rfl) ?_
      refine z_get hC hW fg_X7_67 0 WM_0 rfl dX7_worked_68 ?_
      refine lv_aload_n hx hb dX7_worked_71 rfl (lv_at hl 0 rfl) ?_
      refine z_get hC hW fg_X7_54 0 WM_0 rfl dX7_worked_72 ?_
      refine lv_iload hx hb dX7_worked_75 (lv_at hl 4 rfl) ?_
      obtain ⟨g6, h⟩ := ix_some h
      refine z_iald hC hW 14 WM_14 g6 dX7_worked_77 ?_
      obtain ⟨g7, h⟩ := ix_some h
      refine z_iald hC hW 18 WM_18 g7 dX7_worked_78 ?_
      exact b79 hk12 h hW (lv_sub hl [0, 1, 2, 3, 4] rfl)
    · have h := ifp c5 h
      refine lv_aload_n hx hb dX7_worked_57 rfl (lv_at hl 0 rfl) ?_
      refine z_get hC hW fg_X7_54 0 WM_0 rfl dX7_worked_58 ?_
      refine lv_iload hx hb dX7_worked_61 (lv_at hl 4 rfl) ?_
      obtain ⟨g9, h⟩ := ix_some h
      refine z_iald hC hW 14 WM_14 g9 dX7_worked_63 ?_
      refine lv_goto (tgt := 79) hx hb dX7_worked_64 (by decide) ?_
      exact b79 hk12 h hW (lv_sub hl [0, 1, 2, 3, 4] rfl)
  have b117 : ∀ {x1 : Int32} {x3 : Int32} {x4 : Int32} {x5 : Int32} {s0 : Int32} {s1 : Int32} {M_pile : Nat → Int32} {k12 : Int32 → Int32 → (Nat → Int32) → Option (Int32 × (Nat → Int32))} (hk12 : ∀ {x4 : Int32} {x5 : Int32} {M_pile : Nat → Int32} {H : Heap} {locs : List Loc} {ls : Array Slot}, k12 x4 x5 M_pile = some res → zW D A s.heap (WM q ρ M_code M_doors M_price M_year M_joins M_joinA M_joinB M_walls M_wallA M_wallB M_cost M_olds M_near M_doneMany M_undoneMany M_changeOf M_changeAt M_before M_behind M_tape M_taped M_here M_fault M_open M_laid M_act M_with M_lineMany M_testEnd M_lineEnd M_facts M_pile M_hasLaw M_far M_within M_tooNear M_dried M_isOn M_wasOn M_bodies M_kind M_traces M_traced M_holds M_size M_elements M_shifted) H locs → lv_has ls 7 [(0, .ref (ρ 0)), (1, .int x1), (3, .int x3), (4, .int x4), (5, .int x5)] → W p l e (zrm d) s m args below meth c H locs 0 0 Q (F0 m 12 ls [])) {H : Heap} {locs : List Loc} {ls : Array Slot}, f_X7_worked_b117 k12 x1 x3 x4 x5 s0 s1 M_act M_with M_facts M_pile = some res → zW D A s.heap (WM q ρ M_code M_doors M_price M_year M_joins M_joinA M_joinB M_walls M_wallA M_wallB M_cost M_olds M_near M_doneMany M_undoneMany M_changeOf M_changeAt M_before M_behind M_tape M_taped M_here M_fault M_open M_laid M_act M_with M_lineMany M_testEnd M_lineEnd M_facts M_pile M_hasLaw M_far M_within M_tooNear M_dried M_isOn M_wasOn M_bodies M_kind M_traces M_traced M_holds M_size M_elements M_shifted) H locs → lv_has ls 7 [(0, .ref (ρ 0)), (1, .int x1), (3, .int x3), (4, .int x4), (5, .int x5)] → W p l e (zrm d) s m args below meth c H locs 0 0 Q (F0 m 117 ls [.int s0, .int s1, .ref (ρ 19)]) := by
    intro x1 x3 x4 x5 s0 s1 M_pile k12 hk12 H locs ls h hW hl
    unfold f_X7_worked_b117 at h
    obtain ⟨g21, h⟩ := ix_some h
    refine z_iast hC hW 19 WM_19 g21 WMs_M_pile dX7_worked_117 (fun H locs hW => ?_)
    refine lv_goto (tgt := 182) hx hb dX7_worked_118 (by decide) ?_
    exact b182 hk12 h hW (lv_sub hl [0, 1, 2, 3, 4] rfl)
  have b12 : ∀ {x1 : Int32} {x3 : Int32} {n : Nat} {x4 : Int32} {x5 : Int32} {M_pile : Nat → Int32} {H : Heap} {locs : List Loc} {ls : Array Slot}, f_X7_worked_b12 x1 x3 M_act M_with M_facts n x4 x5 M_pile = some res → zW D A s.heap (WM q ρ M_code M_doors M_price M_year M_joins M_joinA M_joinB M_walls M_wallA M_wallB M_cost M_olds M_near M_doneMany M_undoneMany M_changeOf M_changeAt M_before M_behind M_tape M_taped M_here M_fault M_open M_laid M_act M_with M_lineMany M_testEnd M_lineEnd M_facts M_pile M_hasLaw M_far M_within M_tooNear M_dried M_isOn M_wasOn M_bodies M_kind M_traces M_traced M_holds M_size M_elements M_shifted) H locs → lv_has ls 7 [(0, .ref (ρ 0)), (1, .int x1), (3, .int x3), (4, .int x4), (5, .int x5)] → W p l e (zrm d) s m args below meth c H locs 0 0 Q (F0 m 12 ls []) := by
    intro x1 x3
    intro n
    induction n with
    | zero =>
      intro x4 x5 M_pile H locs ls h
      rw [f_X7_worked_b12] at h
      cases h
    | succ n ih =>
      intro x4 x5 M_pile H locs ls h hW hl
      rw [f_X7_worked_b12] at h
      refine lv_iload hx hb dX7_worked_12 (lv_at hl 4 rfl) ?_
      refine lv_sipush (v := 130) hx hb dX7_worked_14 (by decide) ?_
      refine lv_iload_n hx hb dX7_worked_17 rfl (lv_at hl 1 rfl) ?_
      refine lv_imul hx hb dX7_worked_18 ?_
      refine lv_iload_n hx hb dX7_worked_19 rfl (lv_at hl 2 rfl) ?_
      refine lv_iadd hx hb dX7_worked_20 ?_
      refine lv_icmp_ge (tgt := 188) hx hb dX7_worked_21 (by decide) (fun c1 => ?_) (fun c1 => ?_)
      · have h := ifp c1 h
        refine lv_aload_n hx hb dX7_worked_188 rfl (lv_at hl 0 rfl) ?_
        refine z_get hC hW fg_X7_70 0 WM_0 rfl dX7_worked_189 ?_
        refine lv_iconst (v := 0) hx hb dX7_worked_192 (by decide) ?_
        obtain ⟨g2, h⟩ := ix_some h
        refine z_iald hC hW 19 WM_19 g2 dX7_worked_193 ?_
        have h := Option.some.inj h
        subst h
        exact hret _ _ _ _ _ dX7_worked_194 rfl rfl hW
      · have h := ifn c1 h
        refine lv_aload_n hx hb dX7_worked_24 rfl (lv_at hl 0 rfl) ?_
        refine z_get hC hW fg_X7_51 0 WM_0 rfl dX7_worked_25 ?_
        refine lv_iload hx hb dX7_worked_28 (lv_at hl 4 rfl) ?_
        obtain ⟨g3, h⟩ := ix_some h
        refine z_bald hC hW 13 WM_13 g3 dX7_worked_30 ?_
        refine lv_istore (lv' := [(6, .int (M_act (Int32.toNatClampNeg x5))), (0, .ref (ρ 0)), (1, .int x1), (3, .int x3), (4, .int x4), (5, .int x5)]) hx hb dX7_worked_31 hl (by decide) rfl (fun ls hl => ?_)
        refine lv_iload hx hb dX7_worked_33 (lv_at hl 0 rfl) ?_
        refine lv_iconst (v := 1) hx hb dX7_worked_35 (by decide) ?_
        refine lv_icmp_eq (tgt := 45) hx hb dX7_worked_36 (by decide) (fun c4 => ?_) (fun c4 => ?_)
        · have h := ifp c4 h
          exact b45 ih h hW (lv_sub hl [1, 2, 3, 4, 5, 0] rfl)
        · have h := ifn c4 h
          refine lv_iload hx hb dX7_worked_39 (lv_at hl 0 rfl) ?_
          refine lv_iconst (v := 2) hx hb dX7_worked_41 (by decide) ?_
          refine lv_icmp_ne (tgt := 86) hx hb dX7_worked_42 (by decide) (fun c10 => ?_) (fun c10 => ?_)
          · have h := ifn c10 h
            refine lv_iload hx hb dX7_worked_86 (lv_at hl 0 rfl) ?_
            refine lv_iconst (v := 3) hx hb dX7_worked_88 (by decide) ?_
            refine lv_icmp_ne (tgt := 121) hx hb dX7_worked_89 (by decide) (fun c11 => ?_) (fun c11 => ?_)
            · have h := ifn c11 h
              refine lv_iload hx hb dX7_worked_121 (lv_at hl 0 rfl) ?_
              refine lv_iconst (v := 4) hx hb dX7_worked_123 (by decide) ?_
              refine lv_icmp_ne (tgt := 149) hx hb dX7_worked_124 (by decide) (fun c12 => ?_) (fun c12 => ?_)
              · have h := ifn c12 h
                refine lv_iinc (v := (x4 + (-1))) (lv' := [(4, .int (x4 + (-1))), (6, .int (M_act (Int32.toNatClampNeg x5))), (0, .ref (ρ 0)), (1, .int x1), (3, .int x3), (5, .int x5)]) hx hb dX7_worked_149 hl (k := 4) rfl rfl (by decide) rfl (fun ls hl => ?_)
                refine lv_aload_n hx hb dX7_worked_152 rfl (lv_at hl 2 rfl) ?_
                refine z_get hC hW fg_X7_70 0 WM_0 rfl dX7_worked_153 ?_
                refine lv_iload hx hb dX7_worked_156 (lv_at hl 0 rfl) ?_
                refine lv_iconst (v := 1) hx hb dX7_worked_158 (by decide) ?_
                refine lv_isub hx hb dX7_worked_159 ?_
                refine lv_iload hx hb dX7_worked_160 (lv_at hl 1 rfl) ?_
                refine lv_aload_n hx hb dX7_worked_162 rfl (lv_at hl 2 rfl) ?_
                refine z_get hC hW fg_X7_70 0 WM_0 rfl dX7_worked_163 ?_
                refine lv_iload hx hb dX7_worked_166 (lv_at hl 0 rfl) ?_
                refine lv_iconst (v := 1) hx hb dX7_worked_168 (by decide) ?_
                refine lv_isub hx hb dX7_worked_169 ?_
                obtain ⟨g13, h⟩ := ix_some h
                refine z_iald hC hW 19 WM_19 g13 dX7_worked_170 ?_
                refine lv_aload_n hx hb dX7_worked_171 rfl (lv_at hl 2 rfl) ?_
                refine z_get hC hW fg_X7_70 0 WM_0 rfl dX7_worked_172 ?_
                refine lv_iload hx hb dX7_worked_175 (lv_at hl 0 rfl) ?_
                obtain ⟨g14, h⟩ := ix_some h
                refine z_iald hC hW 19 WM_19 g14 dX7_worked_177 ?_
                obtain ⟨u15, eu15, h⟩ := bd_some h
                refine z_callS_i hC hW (rest := [.int ((x4 + (-1)) - 1), .ref (ρ 19)]) (c_X7_twoOf (d := 0) (Nat.le_refl _) eu15) sw_X7_225 ⟨rfl, rfl⟩ (zrm_ok (by omega) (by decide)) rfl rfl hl.1 (Nat.le_of_ble_eq_true rfl) dX7_worked_178 (fun H locs hW => ?_)
                obtain ⟨g16, h⟩ := ix_some h
                refine z_iast hC hW 19 WM_19 g16 WMs_M_pile dX7_worked_181 (fun H locs hW => ?_)
                exact b182 ih h hW (lv_sub hl [2, 3, 4, 0, 5] rfl)
              · have h := ifp c12 h
                refine lv_aload_n hx hb dX7_worked_127 rfl (lv_at hl 1 rfl) ?_
                refine z_get hC hW fg_X7_70 0 WM_0 rfl dX7_worked_128 ?_
                refine lv_iload hx hb dX7_worked_131 (lv_at hl 4 rfl) ?_
                refine lv_iconst (v := 1) hx hb dX7_worked_133 (by decide) ?_
                refine lv_isub hx hb dX7_worked_134 ?_
                refine lv_aload_n hx hb dX7_worked_135 rfl (lv_at hl 1 rfl) ?_
                refine z_get hC hW fg_X7_70 0 WM_0 rfl dX7_worked_136 ?_
                refine lv_iload hx hb dX7_worked_139 (lv_at hl 4 rfl) ?_
                refine lv_iconst (v := 1) hx hb dX7_worked_141 (by decide) ?_
                refine lv_isub hx hb dX7_worked_142 ?_
                obtain ⟨g17, h⟩ := ix_some h
                refine z_iald hC hW 19 WM_19 g17 dX7_worked_143 ?_
                refine lv_ineg hx hb dX7_worked_144 ?_
                obtain ⟨g18, h⟩ := ix_some h
                refine z_iast hC hW 19 WM_19 g18 WMs_M_pile dX7_worked_145 (fun H locs hW => ?_)
                refine lv_goto (tgt := 182) hx hb dX7_worked_146 (by decide) ?_
                exact b182 ih h hW (lv_sub hl [1, 2, 3, 4, 5] rfl)
            · have h := ifp c11 h
              refine lv_aload_n hx hb dX7_worked_92 rfl (lv_at hl 1 rfl) ?_
              refine z_get hC hW fg_X7_70 0 WM_0 rfl dX7_worked_93 ?_
              refine lv_iload hx hb dX7_worked_96 (lv_at hl 4 rfl) ?_
              refine lv_iconst (v := 1) hx hb dX7_worked_98 (by decide) ?_
              refine lv_isub hx hb dX7_worked_99 ?_
              refine lv_aload_n hx hb dX7_worked_100 rfl (lv_at hl 1 rfl) ?_
              refine z_get hC hW fg_X7_70 0 WM_0 rfl dX7_worked_101 ?_
              refine lv_iload hx hb dX7_worked_104 (lv_at hl 4 rfl) ?_
              refine lv_iconst (v := 1) hx hb dX7_worked_106 (by decide) ?_
              refine lv_isub hx hb dX7_worked_107 ?_
              obtain ⟨g19, h⟩ := ix_some h
              refine z_iald hC hW 19 WM_19 g19 dX7_worked_108 ?_
              refine lv_if_ne (tgt := 116) hx hb dX7_worked_109 (by decide) (fun c20 => ?_) (fun c20 => ?_)
              · have h := ifn c20 h
                refine lv_iconst (v := 0) hx hb dX7_worked_116 (by decide) ?_
                exact b117 ih h hW (lv_sub hl [1, 2, 3, 4, 5] rfl)
              · have h := ifp c20 h
                refine lv_iconst (v := 1) hx hb dX7_worked_112 (by decide) ?_
                refine lv_goto (tgt := 117) hx hb dX7_worked_113 (by decide) ?_
                exact b117 ih h hW (lv_sub hl [1, 2, 3, 4, 5] rfl)
          · have h := ifp c10 h
            exact b45 ih h hW (lv_sub hl [1, 2, 3, 4, 5, 0] rfl)
  unfold f_X7_worked at h
  refine lv_iconst (v := 0) hx hb dX7_worked_0 (by decide) ?_
  refine lv_istore (lv' := [(4, .int 0), (0, .ref (ρ 0)), (1, .int a1), (2, .int a2), (3, .int a3)]) hx hb dX7_worked_1 hl (by decide) rfl (fun ls hl => ?_)
  refine lv_sipush (v := 130) hx hb dX7_worked_3 (by decide) ?_
  refine lv_iload_n hx hb dX7_worked_6 rfl (lv_at hl 2 rfl) ?_
  refine lv_imul hx hb dX7_worked_7 ?_
  refine lv_iload_n hx hb dX7_worked_8 rfl (lv_at hl 3 rfl) ?_
  refine lv_iadd hx hb dX7_worked_9 ?_
  refine lv_istore (lv' := [(5, .int ((130 * a1) + a2)), (4, .int 0), (0, .ref (ρ 0)), (1, .int a1), (2, .int a2), (3, .int a3)]) hx hb dX7_worked_10 hl (by decide) rfl (fun ls hl => ?_)
  exact b12 h hW (lv_sub hl [2, 3, 5, 1, 0] rfl)
set_option maxHeartbeats 4000000 in
set_option maxRecDepth 100000 in
theorem c_X7_gives {a1 : Int32} {d : Nat} {res : Int32 × (Nat → Int32)} (hd : 2 ≤ d) (h : f_X7_gives a1 M_act M_with M_lineMany M_testEnd M_lineEnd M_facts M_pile = some res) : zMi l yX7_gives cX7_gives 4 .int (zrm d) [.ref (ρ 0), .int a1] D q (WM q ρ M_code M_doors M_price M_year M_joins M_joinA M_joinB M_walls M_wallA M_wallB M_cost M_olds M_near M_doneMany M_undoneMany M_changeOf M_changeAt M_before M_behind M_tape M_taped M_here M_fault M_open M_laid M_act M_with M_lineMany M_testEnd M_lineEnd M_facts M_pile M_hasLaw M_far M_within M_tooNear M_dried M_isOn M_wasOn M_bodies M_kind M_traces M_traced M_holds M_size M_elements M_shifted) sz res.1 (WM q ρ M_code M_doors M_price M_year M_joins M_joinA M_joinB M_walls M_wallA M_wallB M_cost M_olds M_near M_doneMany M_undoneMany M_changeOf M_changeAt M_before M_behind M_tape M_taped M_here M_fault M_open M_laid M_act M_with M_lineMany M_testEnd M_lineEnd M_facts res.2 M_hasLaw M_far M_within M_tooNear M_dried M_isOn M_wasOn M_bodies M_kind M_traces M_traced M_holds M_size M_elements M_shifted) := by
  refine zMet_i (own := RX7) _ (by decide) rfl (Nat.le_of_ble_eq_true rfl) ?_
  intro p e s m args below meth c A ls Q hC hW hl hret
  have hx := hC.1
  have hb := hC.2.1
  have hl : lv_has ls 4 [(0, .ref (ρ 0)), (1, .int a1)] := hl
  have b47 : ∀ {x1 : Int32} {x3 : Int32} {M_pile : Nat → Int32} {H : Heap} {locs : List Loc} {ls : Array Slot}, f_X7_gives_b47 x1 x3 M_act M_with M_testEnd M_lineEnd M_facts M_pile = some res → zW D A s.heap (WM q ρ M_code M_doors M_price M_year M_joins M_joinA M_joinB M_walls M_wallA M_wallB M_cost M_olds M_near M_doneMany M_undoneMany M_changeOf M_changeAt M_before M_behind M_tape M_taped M_here M_fault M_open M_laid M_act M_with M_lineMany M_testEnd M_lineEnd M_facts M_pile M_hasLaw M_far M_within M_tooNear M_dried M_isOn M_wasOn M_bodies M_kind M_traces M_traced M_holds M_size M_elements M_shifted) H locs → lv_has ls 4 [(0, .ref (ρ 0)), (1, .int x1), (3, .int x3)] → W p l e (zrm d) s m args below meth c H locs 0 0 Q (F0 m 47 ls []) := by
    intro x1 x3 M_pile H locs ls h hW hl
    unfold f_X7_gives_b47 at h
    refine lv_aload_n hx hb dX7_gives_47 rfl (lv_at hl 0 rfl) ?_
    refine lv_iload_n hx hb dX7_gives_48 rfl (lv_at hl 1 rfl) ?_
    refine lv_aload_n hx hb dX7_gives_49 rfl (lv_at hl 0 rfl) ?_
    refine z_get hC hW fg_X7_60 0 WM_0 rfl dX7_gives_50 ?_
    refine lv_iload_n hx hb dX7_gives_53 rfl (lv_at hl 2 rfl) ?_
    obtain ⟨g5, h⟩ := ix_some h
    refine z_sald hC hW 16 WM_16 g5 dX7_gives_54 ?_
    refine lv_aload_n hx hb dX7_gives_55 rfl (lv_at hl 0 rfl) ?_
    refine z_get hC hW fg_X7_64 0 WM_0 rfl dX7_gives_56 ?_
    refine lv_iload_n hx hb dX7_gives_59 rfl (lv_at hl 2 rfl) ?_
    obtain ⟨g6, h⟩ := ix_some h
    refine z_sald hC hW 17 WM_17 g6 dX7_gives_60 ?_
    obtain ⟨u7, eu7, h⟩ := bd_some h
    refine z_callV_i hC hW (rest := []) (c_X7_worked (d := 1) (Nat.le_refl _) eu7) vw_X7_228 WM_0 rfl ⟨rfl, rfl⟩ (zrm_ok (by omega) (by decide)) rfl rfl hl.1 (Nat.le_of_ble_eq_true rfl) dX7_gives_61 (fun H locs hW => ?_)
    have h := Option.some.inj h
    subst h
    exact hret _ _ _ _ _ dX7_gives_64 rfl rfl hW
  have b7 : ∀ {x1 : Int32} {n : Nat} {x2 : Int32} {x3 : Int32} {M_pile : Nat → Int32} {H : Heap} {locs : List Loc} {ls : Array Slot}, f_X7_gives_b7 x1 M_act M_with M_lineMany M_testEnd M_lineEnd M_facts n x2 x3 M_pile = some res → zW D A s.heap (WM q ρ M_code M_doors M_price M_year M_joins M_joinA M_joinB M_walls M_wallA M_wallB M_cost M_olds M_near M_doneMany M_undoneMany M_changeOf M_changeAt M_before M_behind M_tape M_taped M_here M_fault M_open M_laid M_act M_with M_lineMany M_testEnd M_lineEnd M_facts M_pile M_hasLaw M_far M_within M_tooNear M_dried M_isOn M_wasOn M_bodies M_kind M_traces M_traced M_holds M_size M_elements M_shifted) H locs → lv_has ls 4 [(0, .ref (ρ 0)), (1, .int x1), (2, .int x2), (3, .int x3)] → W p l e (zrm d) s m args below meth c H locs 0 0 Q (F0 m 7 ls []) := by
    intro x1
    intro n
    induction n with
    | zero =>
      intro x2 x3 M_pile H locs ls h
      rw [f_X7_gives_b7] at h
      cases h
    | succ n ih =>
      intro x2 x3 M_pile H locs ls h hW hl
      rw [f_X7_gives_b7] at h
      refine lv_iload_n hx hb dX7_gives_7 rfl (lv_at hl 3 rfl) ?_
      refine lv_bipush (v := 61) hx hb dX7_gives_8 (by decide) ?_
      refine lv_iload_n hx hb dX7_gives_10 rfl (lv_at hl 1 rfl) ?_
      refine lv_imul hx hb dX7_gives_11 ?_
      refine lv_aload_n hx hb dX7_gives_12 rfl (lv_at hl 0 rfl) ?_
      refine z_get hC hW fg_X7_57 0 WM_0 rfl dX7_gives_13 ?_
      refine lv_iload_n hx hb dX7_gives_16 rfl (lv_at hl 1 rfl) ?_
      obtain ⟨g1, h⟩ := ix_some h
      refine z_iald hC hW 15 WM_15 g1 dX7_gives_17 ?_
      refine lv_iadd hx hb dX7_gives_18 ?_
      refine lv_icmp_ge (tgt := 78) hx hb dX7_gives_19 (by decide) (fun c2 => ?_) (fun c2 => ?_)
      · have h := ifp c2 h
        refine lv_iconst (v := 0) hx hb dX7_gives_78 (by decide) ?_
        have h := Option.some.inj h
        subst h
        exact hret _ _ _ _ _ dX7_gives_79 rfl rfl hW
      · have h := ifn c2 h
        refine lv_aload_n hx hb dX7_gives_22 rfl (lv_at hl 0 rfl) ?_
        refine z_get hC hW fg_X7_60 0 WM_0 rfl dX7_gives_23 ?_
        refine lv_iload_n hx hb dX7_gives_26 rfl (lv_at hl 3 rfl) ?_
        obtain ⟨g3, h⟩ := ix_some h
        refine z_sald hC hW 16 WM_16 g3 dX7_gives_27 ?_
        refine lv_iload_n hx hb dX7_gives_28 rfl (lv_at hl 2 rfl) ?_
        refine lv_icmp_eq (tgt := 47) hx hb dX7_gives_29 (by decide) (fun c4 => ?_) (fun c4 => ?_)
        · have h := ifp c4 h
          exact b47 h hW (lv_sub hl [0, 1, 3] rfl)
        · have h := ifn c4 h
          refine lv_aload_n hx hb dX7_gives_32 rfl (lv_at hl 0 rfl) ?_
          refine lv_iload_n hx hb dX7_gives_33 rfl (lv_at hl 1 rfl) ?_
          refine lv_iload_n hx hb dX7_gives_34 rfl (lv_at hl 2 rfl) ?_
          refine lv_aload_n hx hb dX7_gives_35 rfl (lv_at hl 0 rfl) ?_
          refine z_get hC hW fg_X7_60 0 WM_0 rfl dX7_gives_36 ?_
          refine lv_iload_n hx hb dX7_gives_39 rfl (lv_at hl 3 rfl) ?_
          obtain ⟨g8, h⟩ := ix_some h
          refine z_sald hC hW 16 WM_16 g8 dX7_gives_40 ?_
          obtain ⟨u9, eu9, h⟩ := bd_some h
          refine z_callV_i hC hW (rest := []) (c_X7_worked (d := 1) (Nat.le_refl _) eu9) vw_X7_228 WM_0 rfl ⟨rfl, rfl⟩ (zrm_ok (by omega) (by decide)) rfl rfl hl.1 (Nat.le_of_ble_eq_true rfl) dX7_gives_41 (fun H locs hW => ?_)
          refine lv_if_eq (tgt := 65) hx hb dX7_gives_44 (by decide) (fun c10 => ?_) (fun c10 => ?_)
          · have h := ifp c10 h
            refine lv_aload_n hx hb dX7_gives_65 rfl (lv_at hl 0 rfl) ?_
            refine z_get hC hW fg_X7_64 0 WM_0 rfl dX7_gives_66 ?_
            refine lv_iload_n hx hb dX7_gives_69 rfl (lv_at hl 3 rfl) ?_
            obtain ⟨g11, h⟩ := ix_some h
            refine z_sald hC hW 17 WM_17 g11 dX7_gives_70 ?_
            refine lv_istore_n (lv' := [(2, .int (M_lineEnd (Int32.toNatClampNeg x3))), (0, .ref (ρ 0)), (1, .int x1), (3, .int x3)]) hx hb dX7_gives_71 rfl hl (by decide) rfl (fun ls hl => ?_)
            refine lv_iinc (v := (x3 + 1)) (lv' := [(3, .int (x3 + 1)), (2, .int (M_lineEnd (Int32.toNatClampNeg x3))), (0, .ref (ρ 0)), (1, .int x1)]) hx hb dX7_gives_72 hl (k := 3) rfl rfl (by decide) rfl (fun ls hl => ?_)
            refine lv_goto (tgt := 7) hx hb dX7_gives_75 (by decide) ?_
            exact ih h hW (lv_sub hl [2, 3, 1, 0] rfl)
          · have h := ifn c10 h
            exact b47 h hW (lv_sub hl [0, 1, 3] rfl)
  unfold f_X7_gives at h
  refine lv_iconst (v := 0) hx hb dX7_gives_0 (by decide) ?_
  refine lv_istore_n (lv' := [(2, .int 0), (0, .ref (ρ 0)), (1, .int a1)]) hx hb dX7_gives_1 rfl hl (by decide) rfl (fun ls hl => ?_)
  refine lv_bipush (v := 61) hx hb dX7_gives_2 (by decide) ?_
  refine lv_iload_n hx hb dX7_gives_4 rfl (lv_at hl 2 rfl) ?_
  refine lv_imul hx hb dX7_gives_5 ?_
  refine lv_istore_n (lv' := [(3, .int (61 * a1)), (2, .int 0), (0, .ref (ρ 0)), (1, .int a1)]) hx hb dX7_gives_6 rfl hl (by decide) rfl (fun ls hl => ?_)
  exact b7 h hW (lv_sub hl [2, 3, 1, 0] rfl)
set_option maxHeartbeats 4000000 in
set_option maxRecDepth 100000 in
theorem c_X7_held {a0 : Int32} {a1 : Int32} {a2 : Int32} {d : Nat} {res : Int32} (hd : 0 ≤ d) (h : f_X7_held a0 a1 a2 = some res) : zMi l yX7_held cX7_held 3 .int (zrm d) [.int a0, .int a1, .int a2] D q (WM q ρ M_code M_doors M_price M_year M_joins M_joinA M_joinB M_walls M_wallA M_wallB M_cost M_olds M_near M_doneMany M_undoneMany M_changeOf M_changeAt M_before M_behind M_tape M_taped M_here M_fault M_open M_laid M_act M_with M_lineMany M_testEnd M_lineEnd M_facts M_pile M_hasLaw M_far M_within M_tooNear M_dried M_isOn M_wasOn M_bodies M_kind M_traces M_traced M_holds M_size M_elements M_shifted) sz res (WM q ρ M_code M_doors M_price M_year M_joins M_joinA M_joinB M_walls M_wallA M_wallB M_cost M_olds M_near M_doneMany M_undoneMany M_changeOf M_changeAt M_before M_behind M_tape M_taped M_here M_fault M_open M_laid M_act M_with M_lineMany M_testEnd M_lineEnd M_facts M_pile M_hasLaw M_far M_within M_tooNear M_dried M_isOn M_wasOn M_bodies M_kind M_traces M_traced M_holds M_size M_elements M_shifted) := by
  refine zMet_i (own := RX7) _ (by decide) rfl (Nat.le_of_ble_eq_true rfl) ?_
  intro p e s m args below meth c A ls Q hC hW hl hret
  have hx := hC.1
  have hb := hC.2.1
  have hl : lv_has ls 3 [(0, .int a0), (1, .int a1), (2, .int a2)] := hl
  unfold f_X7_held at h
  refine lv_iload_n hx hb dX7_held_0 rfl (lv_at hl 0 rfl) ?_
  refine lv_iload_n hx hb dX7_held_1 rfl (lv_at hl 1 rfl) ?_
  refine lv_icmp_ge (tgt := 9) hx hb dX7_held_2 (by decide) (fun c1 => ?_) (fun c1 => ?_)
  · have h := ifp c1 h
    refine lv_iload_n hx hb dX7_held_9 rfl (lv_at hl 0 rfl) ?_
    refine lv_iload_n hx hb dX7_held_10 rfl (lv_at hl 2 rfl) ?_
    refine lv_icmp_le (tgt := 18) hx hb dX7_held_11 (by decide) (fun c2 => ?_) (fun c2 => ?_)
    · have h := ifp c2 h
      refine lv_iload_n hx hb dX7_held_18 rfl (lv_at hl 0 rfl) ?_
      have h := Option.some.inj h
      subst h
      exact hret _ _ _ _ _ dX7_held_19 rfl rfl hW
    · have h := ifn c2 h
      refine lv_iload_n hx hb dX7_held_14 rfl (lv_at hl 2 rfl) ?_
      refine lv_goto (tgt := 19) hx hb dX7_held_15 (by decide) ?_
      have h := Option.some.inj h
      subst h
      exact hret _ _ _ _ _ dX7_held_19 rfl rfl hW
  · have h := ifn c1 h
    refine lv_iload_n hx hb dX7_held_5 rfl (lv_at hl 1 rfl) ?_
    refine lv_goto (tgt := 19) hx hb dX7_held_6 (by decide) ?_
    have h := Option.some.inj h
    subst h
    exact hret _ _ _ _ _ dX7_held_19 rfl rfl hW
set_option maxHeartbeats 4000000 in
set_option maxRecDepth 100000 in
theorem c_X7_reachOf {a1 : Int32} {d : Nat} {res : Int32 × (Nat → Int32) × (Nat → Int32)} (hd : 3 ≤ d) (h : f_X7_reachOf a1 M_price M_year M_joins M_joinA M_joinB M_olds M_act M_with M_lineMany M_testEnd M_lineEnd M_facts M_pile M_hasLaw = some res) : zMi l yX7_reachOf cX7_reachOf 2 .int (zrm d) [.ref (ρ 0), .int a1] D q (WM q ρ M_code M_doors M_price M_year M_joins M_joinA M_joinB M_walls M_wallA M_wallB M_cost M_olds M_near M_doneMany M_undoneMany M_changeOf M_changeAt M_before M_behind M_tape M_taped M_here M_fault M_open M_laid M_act M_with M_lineMany M_testEnd M_lineEnd M_facts M_pile M_hasLaw M_far M_within M_tooNear M_dried M_isOn M_wasOn M_bodies M_kind M_traces M_traced M_holds M_size M_elements M_shifted) sz res.1 (WM q ρ M_code M_doors M_price M_year M_joins M_joinA M_joinB M_walls M_wallA M_wallB M_cost M_olds M_near M_doneMany M_undoneMany M_changeOf M_changeAt M_before M_behind M_tape M_taped M_here M_fault M_open M_laid M_act M_with M_lineMany M_testEnd M_lineEnd res.2.1 res.2.2 M_hasLaw M_far M_within M_tooNear M_dried M_isOn M_wasOn M_bodies M_kind M_traces M_traced M_holds M_size M_elements M_shifted) := by
  refine zMet_i (own := RX7) _ (by decide) rfl (Nat.le_of_ble_eq_true rfl) ?_
  intro p e s m args below meth c A ls Q hC hW hl hret
  have hx := hC.1
  have hb := hC.2.1
  have hl : lv_has ls 2 [(0, .ref (ρ 0)), (1, .int a1)] := hl
  unfold f_X7_reachOf at h
  refine lv_aload_n hx hb dX7_reachOf_0 rfl (lv_at hl 0 rfl) ?_
  refine z_get hC hW fg_X7_234 0 WM_0 rfl dX7_reachOf_1 ?_
  refine lv_if_ne (tgt := 9) hx hb dX7_reachOf_4 (by decide) (fun c1 => ?_) (fun c1 => ?_)
  · have h := ifn c1 h
    refine lv_aload_n hx hb dX7_reachOf_9 rfl (lv_at hl 0 rfl) ?_
    refine z_get hC hW fg_X7_67 0 WM_0 rfl dX7_reachOf_10 ?_
    refine lv_iconst (v := 0) hx hb dX7_reachOf_13 (by decide) ?_
    refine lv_iload_n hx hb dX7_reachOf_14 rfl (lv_at hl 1 rfl) ?_
    obtain ⟨g2, h⟩ := ix_some h
    refine z_iast hC hW 18 WM_18 g2 WMs_M_facts dX7_reachOf_15 (fun H locs hW => ?_)
    refine lv_aload_n hx hb dX7_reachOf_16 rfl (lv_at hl 0 rfl) ?_
    refine z_get hC hW fg_X7_67 0 WM_0 rfl dX7_reachOf_17 ?_
    refine lv_iconst (v := 1) hx hb dX7_reachOf_20 (by decide) ?_
    refine lv_aload_n hx hb dX7_reachOf_21 rfl (lv_at hl 0 rfl) ?_
    refine z_get hC hW fg_X7_7 0 WM_0 rfl dX7_reachOf_22 ?_
    refine lv_iload_n hx hb dX7_reachOf_25 rfl (lv_at hl 1 rfl) ?_
    obtain ⟨g3, h⟩ := ix_some h
    refine z_iald hC hW 1 WM_1 g3 dX7_reachOf_26 ?_
    obtain ⟨g4, h⟩ := ix_some h
    refine z_iast hC hW 18 WM_18 g4 WMs_M_facts dX7_reachOf_27 (fun H locs hW => ?_)
    refine lv_aload_n hx hb dX7_reachOf_28 rfl (lv_at hl 0 rfl) ?_
    refine z_get hC hW fg_X7_67 0 WM_0 rfl dX7_reachOf_29 ?_
    refine lv_iconst (v := 2) hx hb dX7_reachOf_32 (by decide) ?_
    refine lv_aload_n hx hb dX7_reachOf_33 rfl (lv_at hl 0 rfl) ?_
    refine z_get hC hW fg_X7_13 0 WM_0 rfl dX7_reachOf_34 ?_
    refine lv_iload_n hx hb dX7_reachOf_37 rfl (lv_at hl 1 rfl) ?_
    obtain ⟨g5, h⟩ := ix_some h
    refine z_iald hC hW 2 WM_2 g5 dX7_reachOf_38 ?_
    obtain ⟨g6, h⟩ := ix_some h
    refine z_iast hC hW 18 WM_18 g6 WMs_M_facts dX7_reachOf_39 (fun H locs hW => ?_)
    refine lv_aload_n hx hb dX7_reachOf_40 rfl (lv_at hl 0 rfl) ?_
    refine z_get hC hW fg_X7_67 0 WM_0 rfl dX7_reachOf_41 ?_
    refine lv_iconst (v := 3) hx hb dX7_reachOf_44 (by decide) ?_
    refine lv_aload_n hx hb dX7_reachOf_45 rfl (lv_at hl 0 rfl) ?_
    refine lv_iload_n hx hb dX7_reachOf_46 rfl (lv_at hl 1 rfl) ?_
    obtain ⟨u7, eu7, h⟩ := bd_some h
    refine z_callV_i hC hW (rest := [.int 3, .ref (ρ 18)]) (c_X7_joinsOf (d := 0) (Nat.le_refl _) eu7) vw_X7_161 WM_0 rfl ⟨rfl, rfl⟩ (zrm_ok (by omega) (by decide)) rfl rfl hl.1 (Nat.le_of_ble_eq_true rfl) dX7_reachOf_47 (fun H locs hW => ?_)
    obtain ⟨g8, h⟩ := ix_some h
    refine z_iast hC hW 18 WM_18 g8 WMs_M_facts dX7_reachOf_50 (fun H locs hW => ?_)
    refine lv_aload_n hx hb dX7_reachOf_51 rfl (lv_at hl 0 rfl) ?_
    refine z_get hC hW fg_X7_67 0 WM_0 rfl dX7_reachOf_52 ?_
    refine lv_iconst (v := 4) hx hb dX7_reachOf_55 (by decide) ?_
    refine lv_aload_n hx hb dX7_reachOf_56 rfl (lv_at hl 0 rfl) ?_
    refine z_get hC hW fg_X7_141 0 WM_0 rfl dX7_reachOf_57 ?_
    refine lv_iload_n hx hb dX7_reachOf_60 rfl (lv_at hl 1 rfl) ?_
    refine lv_ishr hx hb dX7_reachOf_61 ?_
    refine lv_iconst (v := 1) hx hb dX7_reachOf_62 (by decide) ?_
    refine lv_iand hx hb dX7_reachOf_63 ?_
    obtain ⟨g9, h⟩ := ix_some h
    refine z_iast hC hW 18 WM_18 g9 WMs_M_facts dX7_reachOf_64 (fun H locs hW => ?_)
    refine lv_aload_n hx hb dX7_reachOf_65 rfl (lv_at hl 0 rfl) ?_
    refine lv_iconst (v := 0) hx hb dX7_reachOf_66 (by decide) ?_
    obtain ⟨u10, eu10, h⟩ := bd_some h
    refine z_callV_i hC hW (rest := []) (c_X7_gives (d := 2) (Nat.le_refl _) eu10) vw_X7_238 WM_0 rfl ⟨rfl, rfl⟩ (zrm_ok (by omega) (by decide)) rfl rfl hl.1 (Nat.le_of_ble_eq_true rfl) dX7_reachOf_67 (fun H locs hW => ?_)
    refine lv_iconst (v := 0) hx hb dX7_reachOf_70 (by decide) ?_
    refine lv_bipush (v := 20) hx hb dX7_reachOf_71 (by decide) ?_
    obtain ⟨u11, eu11, h⟩ := bd_some h
    refine z_callS_i hC hW (rest := []) (c_X7_held (d := 0) (Nat.le_refl _) eu11) sw_X7_241 ⟨rfl, rfl⟩ (zrm_ok (by omega) (by decide)) rfl rfl hl.1 (Nat.le_of_ble_eq_true rfl) dX7_reachOf_73 (fun H locs hW => ?_)
    have h := Option.some.inj h
    subst h
    exact hret _ _ _ _ _ dX7_reachOf_76 rfl rfl hW
  · have h := ifp c1 h
    refine lv_iconst (v := 3) hx hb dX7_reachOf_7 (by decide) ?_
    have h := Option.some.inj h
    subst h
    exact hret _ _ _ _ _ dX7_reachOf_8 rfl rfl hW
end CT21_m03
