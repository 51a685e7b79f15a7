section CT21_m13
variable {l : Launch} {D : va_G} {q : Nat → ClassId} {ρ : Nat → Nat} {sz : Nat} {M_code : Int32} {M_doors : Int32} {M_price : Nat → Int32} {M_year : Nat → Int32} {M_joins : Int32} {M_joinA : Nat → Int32} {M_joinB : Nat → Int32} {M_walls : Int32} {M_wallA : Nat → Int32} {M_wallB : Nat → Int32} {M_cost : Nat → Int32} {M_olds : Int32} {M_near : Int32} {M_doneMany : Int32} {M_undoneMany : Int32} {M_changeOf : Nat → Int32} {M_changeAt : Nat → Int32} {M_before : Nat → Int32} {M_behind : Nat → Int32} {M_tape : Nat → Int32} {M_taped : Int32} {M_here : Int32} {M_fault : Int32} {M_open : Int32} {M_laid : Int32} {M_act : Nat → Int32} {M_with : Nat → Int32} {M_lineMany : Nat → Int32} {M_testEnd : Nat → Int32} {M_lineEnd : Nat → Int32} {M_facts : Nat → Int32} {M_pile : Nat → Int32} {M_hasLaw : Int32} {M_far : Nat → Int32} {M_within : Nat → Int32} {M_tooNear : Nat → Int32} {M_dried : Int32} {M_isOn : Nat → Int32} {M_wasOn : Nat → Int32} {M_bodies : Int32} {M_kind : Nat → Int32} {M_traces : Int32} {M_traced : Nat → Int32} {M_holds : Nat → Int32} {M_size : Nat → Int32} {M_elements : Nat → Int64} {M_shifted : Nat → Int64}
set_option maxHeartbeats 4000000 in
set_option maxRecDepth 100000 in
theorem c_X7_stood {a1 : Int32} {a2 : Int32} {d : Nat} {res : Int32 × (Nat → Int32)} (hd : 2 ≤ d) (h : f_X7_stood a1 a2 M_doors M_joins M_joinA M_joinB M_far M_holds M_size M_elements = some res) : zMi l yX7_stood cX7_stood 8 .int (zrm d) [.ref (ρ 0), .int a1, .int a2] D q (WM q ρ M_code M_doors M_price M_year M_joins M_joinA M_joinB M_walls M_wallA M_wallB M_cost M_olds M_near M_doneMany M_undoneMany M_changeOf M_changeAt M_before M_behind M_tape M_taped M_here M_fault M_open M_laid M_act M_with M_lineMany M_testEnd M_lineEnd M_facts M_pile M_hasLaw M_far M_within M_tooNear M_dried M_isOn M_wasOn M_bodies M_kind M_traces M_traced M_holds M_size M_elements M_shifted) sz res.1 (WM q ρ M_code M_doors M_price M_year M_joins M_joinA M_joinB M_walls M_wallA M_wallB M_cost M_olds M_near M_doneMany M_undoneMany M_changeOf M_changeAt M_before M_behind M_tape M_taped M_here M_fault M_open M_laid M_act M_with M_lineMany M_testEnd M_lineEnd M_facts M_pile M_hasLaw res.2 M_within M_tooNear M_dried M_isOn M_wasOn M_bodies M_kind M_traces M_traced M_holds M_size M_elements M_shifted) := by
  refine zMet_i (own := RX7) _ (by decide) rfl (Nat.le_of_ble_eq_true rfl) ?_
  intro p e s m args below meth c A ls Q hC hW hl hret
  have hx := hC.1
  have hb := hC.2.1
  have hl : lv_has ls 8 [(0, .ref (ρ 0)), (1, .int a1), (2, .int a2)] := hl
  have b166 : ∀ {x1 : Int32} {x2 : Int32} {x3 : Int32} {x4 : Int32} {M_far : Nat → Int32} {k73 : Int32 → Int32 → Option (Int32 × (Nat → Int32))} (hk73 : ∀ {x3 : Int32} {x4 : Int32} {H : Heap} {locs : List Loc} {ls : Array Slot}, k73 x3 x4 = some res → zW D A s.heap (WM q ρ M_code M_doors M_price M_year M_joins M_joinA M_joinB M_walls M_wallA M_wallB M_cost M_olds M_near M_doneMany M_undoneMany M_changeOf M_changeAt M_before M_behind M_tape M_taped M_here M_fault M_open M_laid M_act M_with M_lineMany M_testEnd M_lineEnd M_facts M_pile M_hasLaw M_far M_within M_tooNear M_dried M_isOn M_wasOn M_bodies M_kind M_traces M_traced M_holds M_size M_elements M_shifted) H locs → lv_has ls 8 [(0, .ref (ρ 0)), (1, .int x1), (2, .int x2), (3, .int x3), (4, .int x4)] → W p l e (zrm d) s m args below meth c H locs 0 0 Q (F0 m 73 ls [])) {H : Heap} {locs : List Loc} {ls : Array Slot}, f_X7_stood_b166 k73 x1 x2 x3 x4 M_doors M_far M_elements = some res → zW D A s.heap (WM q ρ M_code M_doors M_price M_year M_joins M_joinA M_joinB M_walls M_wallA M_wallB M_cost M_olds M_near M_doneMany M_undoneMany M_changeOf M_changeAt M_before M_behind M_tape M_taped M_here M_fault M_open M_laid M_act M_with M_lineMany M_testEnd M_lineEnd M_facts M_pile M_hasLaw M_far M_within M_tooNear M_dried M_isOn M_wasOn M_bodies M_kind M_traces M_traced M_holds M_size M_elements M_shifted) H locs → lv_has ls 8 [(0, .ref (ρ 0)), (1, .int x1), (2, .int x2), (3, .int x3), (4, .int x4)] → W p l e (zrm d) s m args below meth c H locs 0 0 Q (F0 m 166 ls []) := by
    intro x1 x2 x3 x4 M_far k73 hk73 H locs ls h hW hl
    unfold f_X7_stood_b166 at h
    refine lv_iinc (v := (x4 + 1)) (lv' := [(4, .int (x4 + 1)), (0, .ref (ρ 0)), (1, .int x1), (2, .int x2), (3, .int x3)]) hx hb dX7_stood_166 hl (k := 4) rfl rfl (by decide) rfl (fun ls hl => ?_)
    refine lv_goto (tgt := 73) hx hb dX7_stood_169 (by decide) ?_
    exact hk73 h hW (lv_sub hl [1, 2, 3, 4, 0] rfl)
  have b148 : ∀ {x1 : Int32} {x2 : Int32} {x3 : Int32} {x4 : Int32} {x5 : Int32} {x6 : Int32} {x7 : Int32} {M_far : Nat → Int32} {k73 : Int32 → Int32 → Option (Int32 × (Nat → Int32))} (hk73 : ∀ {x3 : Int32} {x4 : Int32} {H : Heap} {locs : List Loc} {ls : Array Slot}, k73 x3 x4 = some res → zW D A s.heap (WM q ρ M_code M_doors M_price M_year M_joins M_joinA M_joinB M_walls M_wallA M_wallB M_cost M_olds M_near M_doneMany M_undoneMany M_changeOf M_changeAt M_before M_behind M_tape M_taped M_here M_fault M_open M_laid M_act M_with M_lineMany M_testEnd M_lineEnd M_facts M_pile M_hasLaw M_far M_within M_tooNear M_dried M_isOn M_wasOn M_bodies M_kind M_traces M_traced M_holds M_size M_elements M_shifted) H locs → lv_has ls 8 [(0, .ref (ρ 0)), (1, .int x1), (2, .int x2), (3, .int x3), (4, .int x4)] → W p l e (zrm d) s m args below meth c H locs 0 0 Q (F0 m 73 ls [])) {k91 : Int32 → Int32 → Int32 → Option (Int32 × (Nat → Int32))} (hk91 : ∀ {x5 : Int32} {x6 : Int32} {x7 : Int32} {H : Heap} {locs : List Loc} {ls : Array Slot}, k91 x5 x6 x7 = some res → zW D A s.heap (WM q ρ M_code M_doors M_price M_year M_joins M_joinA M_joinB M_walls M_wallA M_wallB M_cost M_olds M_near M_doneMany M_undoneMany M_changeOf M_changeAt M_before M_behind M_tape M_taped M_here M_fault M_open M_laid M_act M_with M_lineMany M_testEnd M_lineEnd M_facts M_pile M_hasLaw M_far M_within M_tooNear M_dried M_isOn M_wasOn M_bodies M_kind M_traces M_traced M_holds M_size M_elements M_shifted) H locs → lv_has ls 8 [(0, .ref (ρ 0)), (1, .int x1), (2, .int x2), (3, .int x3), (4, .int x4), (5, .int x5), (6, .int x6), (7, .int x7)] → W p l e (zrm d) s m args below meth c H locs 0 0 Q (F0 m 91 ls [])) {H : Heap} {locs : List Loc} {ls : Array Slot}, f_X7_stood_b148 k73 k91 x1 x2 x3 x4 x5 x6 x7 M_doors M_far M_elements = some res → zW D A s.heap (WM q ρ M_code M_doors M_price M_year M_joins M_joinA M_joinB M_walls M_wallA M_wallB M_cost M_olds M_near M_doneMany M_undoneMany M_changeOf M_changeAt M_before M_behind M_tape M_taped M_here M_fault M_open M_laid M_act M_with M_lineMany M_testEnd M_lineEnd M_facts M_pile M_hasLaw M_far M_within M_tooNear M_dried M_isOn M_wasOn M_bodies M_kind M_traces M_traced M_holds M_size M_elements M_shifted) H locs → lv_has ls 8 [(0, .ref (ρ 0)), (1, .int x1), (2, .int x2), (3, .int x3), (4, .int x4), (5, .int x5), (6, .int x6), (7, .int x7)] → W p l e (zrm d) s m args below meth c H locs 0 0 Q (F0 m 148 ls []) := by
    intro x1 x2 x3 x4 x5 x6 x7 M_far k73 hk73 k91 hk91 H locs ls h hW hl
    unfold f_X7_stood_b148 at h
    refine lv_iinc (v := (x7 + 1)) (lv' := [(7, .int (x7 + 1)), (0, .ref (ρ 0)), (1, .int x1), (2, .int x2), (3, .int x3), (4, .int x4), (5, .int x5), (6, .int x6)]) hx hb dX7_stood_148 hl (k := 7) rfl rfl (by decide) rfl (fun ls hl => ?_)
    refine lv_goto (tgt := 91) hx hb dX7_stood_151 (by decide) ?_
    exact hk91 h hW (lv_sub hl [1, 2, 3, 4, 5, 6, 7, 0] rfl)
  have b145 : ∀ {x1 : Int32} {x2 : Int32} {x3 : Int32} {x4 : Int32} {x5 : Int32} {x6 : Int32} {x7 : Int32} {M_far : Nat → Int32} {k73 : Int32 → Int32 → Option (Int32 × (Nat → Int32))} (hk73 : ∀ {x3 : Int32} {x4 : Int32} {H : Heap} {locs : List Loc} {ls : Array Slot}, k73 x3 x4 = some res → zW D A s.heap (WM q ρ M_code M_doors M_price M_year M_joins M_joinA M_joinB M_walls M_wallA M_wallB M_cost M_olds M_near M_doneMany M_undoneMany M_changeOf M_changeAt M_before M_behind M_tape M_taped M_here M_fault M_open M_laid M_act M_with M_lineMany M_testEnd M_lineEnd M_facts M_pile M_hasLaw M_far M_within M_tooNear M_dried M_isOn M_wasOn M_bodies M_kind M_traces M_traced M_holds M_size M_elements M_shifted) H locs → lv_has ls 8 [(0, .ref (ρ 0)), (1, .int x1), (2, .int x2), (3, .int x3), (4, .int x4)] → W p l e (zrm d) s m args below meth c H locs 0 0 Q (F0 m 73 ls [])) {k91 : Int32 → Int32 → Int32 → Option (Int32 × (Nat → Int32))} (hk91 : ∀ {x5 : Int32} {x6 : Int32} {x7 : Int32} {H : Heap} {locs : List Loc} {ls : Array Slot}, k91 x5 x6 x7 = some res → zW D A s.heap (WM q ρ M_code M_doors M_price M_year M_joins M_joinA M_joinB M_walls M_wallA M_wallB M_cost M_olds M_near M_doneMany M_undoneMany M_changeOf M_changeAt M_before M_behind M_tape M_taped M_here M_fault M_open M_laid M_act M_with M_lineMany M_testEnd M_lineEnd M_facts M_pile M_hasLaw M_far M_within M_tooNear M_dried M_isOn M_wasOn M_bodies M_kind M_traces M_traced M_holds M_size M_elements M_shifted) H locs → lv_has ls 8 [(0, .ref (ρ 0)), (1, .int x1), (2, .int x2), (3, .int x3), (4, .int x4), (5, .int x5), (6, .int x6), (7, .int x7)] → W p l e (zrm d) s m args below meth c H locs 0 0 Q (F0 m 91 ls [])) {H : Heap} {locs : List Loc} {ls : Array Slot}, f_X7_stood_b145 k73 k91 x1 x2 x3 x4 x5 x6 x7 M_doors M_far M_elements = some res → zW D A s.heap (WM q ρ M_code M_doors M_price M_year M_joins M_joinA M_joinB M_walls M_wallA M_wallB M_cost M_olds M_near M_doneMany M_undoneMany M_changeOf M_changeAt M_before M_behind M_tape M_taped M_here M_fault M_open M_laid M_act M_with M_lineMany M_testEnd M_lineEnd M_facts M_pile M_hasLaw M_far M_within M_tooNear M_dried M_isOn M_wasOn M_bodies M_kind M_traces M_traced M_holds M_size M_elements M_shifted) H locs → lv_has ls 8 [(0, .ref (ρ 0)), (1, .int x1), (2, .int x2), (3, .int x3), (4, .int x4), (5, .int x5), (6, .int x6), (7, .int x7)] → W p l e (zrm d) s m args below meth c H locs 0 0 Q (F0 m 145 ls []) := by
    intro x1 x2 x3 x4 x5 x6 x7 M_far k73 hk73 k91 hk91 H locs ls h hW hl
    unfold f_X7_stood_b145 at h
    refine lv_iinc (v := (x5 + 1)) (lv' := [(5, .int (x5 + 1)), (0, .ref (ρ 0)), (1, .int x1), (2, .int x2), (3, .int x3), (4, .int x4), (6, .int x6), (7, .int x7)]) hx hb dX7_stood_145 hl (k := 5) rfl rfl (by decide) rfl (fun ls hl => ?_)
    exact b148 hk73 hk91 h hW (lv_sub hl [1, 2, 3, 4, 5, 0, 6, 7] rfl)
  have b91 : ∀ {x1 : Int32} {x2 : Int32} {x3 : Int32} {x4 : Int32} {M_far : Nat → Int32} {k73 : Int32 → Int32 → Option (Int32 × (Nat → Int32))} (hk73 : ∀ {x3 : Int32} {x4 : Int32} {H : Heap} {locs : List Loc} {ls : Array Slot}, k73 x3 x4 = some res → zW D A s.heap (WM q ρ M_code M_doors M_price M_year M_joins M_joinA M_joinB M_walls M_wallA M_wallB M_cost M_olds M_near M_doneMany M_undoneMany M_changeOf M_changeAt M_before M_behind M_tape M_taped M_here M_fault M_open M_laid M_act M_with M_lineMany M_testEnd M_lineEnd M_facts M_pile M_hasLaw M_far M_within M_tooNear M_dried M_isOn M_wasOn M_bodies M_kind M_traces M_traced M_holds M_size M_elements M_shifted) H locs → lv_has ls 8 [(0, .ref (ρ 0)), (1, .int x1), (2, .int x2), (3, .int x3), (4, .int x4)] → W p l e (zrm d) s m args below meth c H locs 0 0 Q (F0 m 73 ls [])) {n : Nat} {x5 : Int32} {x6 : Int32} {x7 : Int32} {H : Heap} {locs : List Loc} {ls : Array Slot}, f_X7_stood_b91 k73 x1 x2 x3 x4 M_doors M_far M_elements n x5 x6 x7 = some res → zW D A s.heap (WM q ρ M_code M_doors M_price M_year M_joins M_joinA M_joinB M_walls M_wallA M_wallB M_cost M_olds M_near M_doneMany M_undoneMany M_changeOf M_changeAt M_before M_behind M_tape M_taped M_here M_fault M_open M_laid M_act M_with M_lineMany M_testEnd M_lineEnd M_facts M_pile M_hasLaw M_far M_within M_tooNear M_dried M_isOn M_wasOn M_bodies M_kind M_traces M_traced M_holds M_size M_elements M_shifted) H locs → lv_has ls 8 [(0, .ref (ρ 0)), (1, .int x1), (2, .int x2), (3, .int x3), (4, .int x4), (5, .int x5), (6, .int x6), (7, .int x7)] → W p l e (zrm d) s m args below meth c H locs 0 0 Q (F0 m 91 ls []) := by
    intro x1 x2 x3 x4 M_far k73 hk73
    intro n
    induction n with
    | zero =>
      intro x5 x6 x7 H locs ls h
      rw [f_X7_stood_b91] at h
      cases h
    | succ n ih =>
      intro x5 x6 x7 H locs ls h hW hl
      rw [f_X7_stood_b91] at h
      refine lv_iload hx hb dX7_stood_91 (lv_at hl 7 rfl) ?_
      refine lv_aload_n hx hb dX7_stood_93 rfl (lv_at hl 0 rfl) ?_
      refine z_get hC hW fg_X7_111 0 WM_0 rfl dX7_stood_94 ?_
      refine lv_icmp_ge (tgt := 154) hx hb dX7_stood_97 (by decide) (fun c15 => ?_) (fun c15 => ?_)
      · have h := ifp c15 h
        refine lv_iload hx hb dX7_stood_154 (lv_at hl 6 rfl) ?_
        refine lv_if_eq (tgt := 166) hx hb dX7_stood_156 (by decide) (fun c16 => ?_) (fun c16 => ?_)
        · have h := ifp c16 h
          exact b166 hk73 h hW (lv_sub hl [0, 1, 2, 3, 4] rfl)
        · have h := ifn c16 h
          refine lv_iload_n hx hb dX7_stood_159 rfl (lv_at hl 3 rfl) ?_
          refine lv_iconst (v := 1) hx hb dX7_stood_160 (by decide) ?_
          refine lv_iload hx hb dX7_stood_161 (lv_at hl 4 rfl) ?_
          refine lv_ishl hx hb dX7_stood_163 ?_
          refine lv_ior hx hb dX7_stood_164 ?_
          refine lv_istore_n (lv' := [(3, .int (x3 ||| (1 <<< (x4 &&& 31)))), (0, .ref (ρ 0)), (1, .int x1), (2, .int x2), (4, .int x4), (5, .int x5), (6, .int x6), (7, .int x7)]) hx hb dX7_stood_165 rfl hl (by decide) rfl (fun ls hl => ?_)
          exact b166 hk73 h hW (lv_sub hl [1, 2, 3, 0, 4] rfl)
      · have h := ifn c15 h
        refine lv_iload_n hx hb dX7_stood_100 rfl (lv_at hl 2 rfl) ?_
        refine lv_iload hx hb dX7_stood_101 (lv_at hl 7 rfl) ?_
        refine lv_ishr hx hb dX7_stood_103 ?_
        refine lv_iconst (v := 1) hx hb dX7_stood_104 (by decide) ?_
        refine lv_iand hx hb dX7_stood_105 ?_
        refine lv_if_ne (tgt := 112) hx hb dX7_stood_106 (by decide) (fun c17 => ?_) (fun c17 => ?_)
        · have h := ifn c17 h
          refine lv_aload_n hx hb dX7_stood_112 rfl (lv_at hl 0 rfl) ?_
          refine z_get hC hW fg_X7_101 0 WM_0 rfl dX7_stood_113 ?_
          refine lv_bipush (v := 60) hx hb dX7_stood_116 (by decide) ?_
          refine lv_iload_n hx hb dX7_stood_118 rfl (lv_at hl 1 rfl) ?_
          refine lv_imul hx hb dX7_stood_119 ?_
          refine lv_iload hx hb dX7_stood_120 (lv_at hl 5 rfl) ?_
          refine lv_iadd hx hb dX7_stood_122 ?_
          obtain ⟨g18, h⟩ := ix_some h
          refine z_lald hC hW 29 WM_29 g18 dX7_stood_123 ?_
          refine lv_aload_n hx hb dX7_stood_124 rfl (lv_at hl 0 rfl) ?_
          refine z_get hC hW fg_X7_73 0 WM_0 rfl dX7_stood_125 ?_
          refine lv_bipush (v := 14) hx hb dX7_stood_128 (by decide) ?_
          refine lv_iload hx hb dX7_stood_130 (lv_at hl 4 rfl) ?_
          refine lv_imul hx hb dX7_stood_132 ?_
          refine lv_iload hx hb dX7_stood_133 (lv_at hl 7 rfl) ?_
          refine lv_iadd hx hb dX7_stood_135 ?_
          obtain ⟨g19, h⟩ := ix_some h
          refine z_iald hC hW 20 WM_20 g19 dX7_stood_136 ?_
          refine lv_i2l hx hb dX7_stood_137 rfl ?_
          refine W.lcmp hx hb dX7_stood_138 ?_
          refine lv_if_eq (tgt := 145) hx hb dX7_stood_139 (by decide) (fun c20 => ?_) (fun c20 => ?_)
          · have h := ifp c20 h
            exact b145 hk73 ih h hW (lv_sub hl [0, 1, 2, 3, 4, 5, 6, 7] rfl)
          · have h := ifn c20 h
            refine lv_iconst (v := 0) hx hb dX7_stood_142 (by decide) ?_
            refine lv_istore (lv' := [(6, .int 0), (0, .ref (ρ 0)), (1, .int x1), (2, .int x2), (3, .int x3), (4, .int x4), (5, .int x5), (7, .int x7)]) hx hb dX7_stood_143 hl (by decide) rfl (fun ls hl => ?_)
            exact b145 hk73 ih h hW (lv_sub hl [1, 2, 3, 4, 5, 6, 0, 7] rfl)
        · have h := ifp c17 h
          refine lv_goto (tgt := 148) hx hb dX7_stood_109 (by decide) ?_
          exact b148 hk73 ih h hW (lv_sub hl [0, 1, 2, 3, 4, 5, 6, 7] rfl)
  have b73 : ∀ {x1 : Int32} {x2 : Int32} {M_far : Nat → Int32} {n : Nat} {x3 : Int32} {x4 : Int32} {H : Heap} {locs : List Loc} {ls : Array Slot}, f_X7_stood_b73 x1 x2 M_doors M_far M_elements n x3 x4 = some res → zW D A s.heap (WM q ρ M_code M_doors M_price M_year M_joins M_joinA M_joinB M_walls M_wallA M_wallB M_cost M_olds M_near M_doneMany M_undoneMany M_changeOf M_changeAt M_before M_behind M_tape M_taped M_here M_fault M_open M_laid M_act M_with M_lineMany M_testEnd M_lineEnd M_facts M_pile M_hasLaw M_far M_within M_tooNear M_dried M_isOn M_wasOn M_bodies M_kind M_traces M_traced M_holds M_size M_elements M_shifted) H locs → lv_has ls 8 [(0, .ref (ρ 0)), (1, .int x1), (2, .int x2), (3, .int x3), (4, .int x4)] → W p l e (zrm d) s m args below meth c H locs 0 0 Q (F0 m 73 ls []) := by
    intro x1 x2 M_far
    intro n
    induction n with
    | zero =>
      intro x3 x4 H locs ls h
      rw [f_X7_stood_b73] at h
      cases h
    | succ n ih =>
      intro x3 x4 H locs ls h hW hl
      rw [f_X7_stood_b73] at h
      refine lv_iload hx hb dX7_stood_73 (lv_at hl 4 rfl) ?_
      refine lv_aload_n hx hb dX7_stood_75 rfl (lv_at hl 0 rfl) ?_
      refine z_get hC hW fg_X7_111 0 WM_0 rfl dX7_stood_76 ?_
      refine lv_icmp_ge (tgt := 172) hx hb dX7_stood_79 (by decide) (fun c14 => ?_) (fun c14 => ?_)
      · have h := ifp c14 h
        refine lv_iload_n hx hb dX7_stood_172 rfl (lv_at hl 3 rfl) ?_
        have h := Option.some.inj h
        subst h
        exact hret _ _ _ _ _ dX7_stood_173 rfl rfl hW
      · have h := ifn c14 h
        refine lv_iconst (v := 0) hx hb dX7_stood_82 (by decide) ?_
        refine lv_istore (lv' := [(5, .int 0), (0, .ref (ρ 0)), (1, .int x1), (2, .int x2), (3, .int x3), (4, .int x4)]) hx hb dX7_stood_83 hl (by decide) rfl (fun ls hl => ?_)
        refine lv_iconst (v := 1) hx hb dX7_stood_85 (by decide) ?_
        refine lv_istore (lv' := [(6, .int 1), (5, .int 0), (0, .ref (ρ 0)), (1, .int x1), (2, .int x2), (3, .int x3), (4, .int x4)]) hx hb dX7_stood_86 hl (by decide) rfl (fun ls hl => ?_)
        refine lv_iconst (v := 0) hx hb dX7_stood_88 (by decide) ?_
        refine lv_istore (lv' := [(7, .int 0), (6, .int 1), (5, .int 0), (0, .ref (ρ 0)), (1, .int x1), (2, .int x2), (3, .int x3), (4, .int x4)]) hx hb dX7_stood_89 hl (by decide) rfl (fun ls hl => ?_)
        exact b91 ih h hW (lv_sub hl [3, 4, 5, 6, 7, 2, 1, 0] rfl)
  unfold f_X7_stood at h
  refine lv_iload_n hx hb dX7_stood_0 rfl (lv_at hl 1 rfl) ?_
  obtain ⟨u1, eu1, h⟩ := bd_some h
  refine z_callS_i hC hW (rest := []) (c_X7_isShelf (d := 1) (Nat.le_refl _) eu1) sw_X7_132 ⟨rfl, rfl⟩ (zrm_ok (by omega) (by decide)) rfl rfl hl.1 (Nat.le_of_ble_eq_true rfl) dX7_stood_1 (fun H locs hW => ?_)
  refine lv_if_eq (tgt := 15) hx hb dX7_stood_4 (by decide) (fun c2 => ?_) (fun c2 => ?_)
  · have h := ifp c2 h
    refine lv_iconst (v := (-1)) hx hb dX7_stood_15 (by decide) ?_
    have h := Option.some.inj h
    subst h
    exact hret _ _ _ _ _ dX7_stood_16 rfl rfl hW
  · have h := ifn c2 h
    refine lv_aload_n hx hb dX7_stood_7 rfl (lv_at hl 0 rfl) ?_
    refine lv_iload_n hx hb dX7_stood_8 rfl (lv_at hl 2 rfl) ?_
    obtain ⟨u3, eu3, h⟩ := bd_some h
    refine z_callV_i hC hW (rest := []) (c_X7_isLaying (d := 0) (Nat.le_refl _) eu3) vw_X7_138 WM_0 rfl ⟨rfl, rfl⟩ (zrm_ok (by omega) (by decide)) rfl rfl hl.1 (Nat.le_of_ble_eq_true rfl) dX7_stood_9 (fun H locs hW => ?_)
    refine lv_if_ne (tgt := 17) hx hb dX7_stood_12 (by decide) (fun c4 => ?_) (fun c4 => ?_)
    · have h := ifn c4 h
      refine lv_aload_n hx hb dX7_stood_17 rfl (lv_at hl 0 rfl) ?_
      refine z_get hC hW fg_X7_95 0 WM_0 rfl dX7_stood_18 ?_
      refine lv_iload_n hx hb dX7_stood_21 rfl (lv_at hl 1 rfl) ?_
      obtain ⟨g5, h⟩ := ix_some h
      refine z_iald hC hW 27 WM_27 g5 dX7_stood_22 ?_
      refine lv_iconst (v := (-1)) hx hb dX7_stood_23 (by decide) ?_
      refine lv_icmp_ne (tgt := 30) hx hb dX7_stood_24 (by decide) (fun c6 => ?_) (fun c6 => ?_)
      · have h := ifn c6 h
        refine lv_aload_n hx hb dX7_stood_30 rfl (lv_at hl 0 rfl) ?_
        refine z_get hC hW fg_X7_95 0 WM_0 rfl dX7_stood_31 ?_
        refine lv_iload_n hx hb dX7_stood_34 rfl (lv_at hl 1 rfl) ?_
        obtain ⟨g7, h⟩ := ix_some h
        refine z_iald hC hW 27 WM_27 g7 dX7_stood_35 ?_
        refine lv_bipush (v := (-2)) hx hb dX7_stood_36 (by decide) ?_
        refine lv_icmp_eq (tgt := 44) hx hb dX7_stood_38 (by decide) (fun c8 => ?_) (fun c8 => ?_)
        · have h := ifp c8 h
          refine lv_aload_n hx hb dX7_stood_44 rfl (lv_at hl 0 rfl) ?_
          refine z_get hC hW fg_X7_98 0 WM_0 rfl dX7_stood_45 ?_
          refine lv_iload_n hx hb dX7_stood_48 rfl (lv_at hl 1 rfl) ?_
          obtain ⟨g9, h⟩ := ix_some h
          refine z_iald hC hW 28 WM_28 g9 dX7_stood_49 ?_
          refine lv_iload_n hx hb dX7_stood_50 rfl (lv_at hl 2 rfl) ?_
          obtain ⟨u10, eu10, h⟩ := bd_some h
          refine z_callS_i hC hW (rest := [.int (M_size (Int32.toNatClampNeg a1))]) (c_X7_bitsOf (d := 0) (Nat.le_refl _) eu10) sw_X7_264 ⟨rfl, rfl⟩ (zrm_ok (by omega) (by decide)) rfl rfl hl.1 (Nat.le_of_ble_eq_true rfl) dX7_stood_51 (fun H locs hW => ?_)
          refine lv_icmp_ge (tgt := 60) hx hb dX7_stood_54 (by decide) (fun c11 => ?_) (fun c11 => ?_)
          · have h := ifp c11 h
            refine lv_aload_n hx hb dX7_stood_60 rfl (lv_at hl 0 rfl) ?_
            refine lv_aload_n hx hb dX7_stood_61 rfl (lv_at hl 0 rfl) ?_
            obtain ⟨u12, eu12, h⟩ := bd_some h
            refine z_callV_i hC hW (rest := [.ref (ρ 0)]) (c_X7_allDoors (d := 0) (Nat.le_refl _) eu12) vw_X7_248 WM_0 rfl ⟨rfl, rfl⟩ (zrm_ok (by omega) (by decide)) rfl rfl hl.1 (Nat.le_of_ble_eq_true rfl) dX7_stood_62 (fun H locs hW => ?_)
            obtain ⟨u13, eu13, h⟩ := bd_some h
            refine z_callV_v hC hW (rest := []) (c_X7_findFar (d := 0) (Nat.le_refl _) eu13) vw_X7_244 WM_0 rfl ⟨rfl, rfl⟩ (zrm_ok (by omega) (by decide)) rfl rfl hl.1 (Nat.le_of_ble_eq_true rfl) dX7_stood_65 (fun H locs hW => ?_)
            refine lv_iconst (v := 0) hx hb dX7_stood_68 (by decide) ?_
            refine lv_istore_n (lv' := [(3, .int 0), (0, .ref (ρ 0)), (1, .int a1), (2, .int a2)]) hx hb dX7_stood_69 rfl hl (by decide) rfl (fun ls hl => ?_)
            refine lv_iconst (v := 0) hx hb dX7_stood_70 (by decide) ?_
            refine lv_istore (lv' := [(4, .int 0), (3, .int 0), (0, .ref (ρ 0)), (1, .int a1), (2, .int a2)]) hx hb dX7_stood_71 hl (by decide) rfl (fun ls hl => ?_)
            exact b73 h hW (lv_sub hl [2, 3, 4, 1, 0] rfl)
          · have h := ifn c11 h
            refine lv_bipush (v := (-13)) hx hb dX7_stood_57 (by decide) ?_
            have h := Option.some.inj h
            subst h
            exact hret _ _ _ _ _ dX7_stood_59 rfl rfl hW
        · have h := ifn c8 h
          refine lv_bipush (v := (-12)) hx hb dX7_stood_41 (by decide) ?_
          have h := Option.some.inj h
          subst h
          exact hret _ _ _ _ _ dX7_stood_43 rfl rfl hW
      · have h := ifp c6 h
        refine lv_bipush (v := (-11)) hx hb dX7_stood_27 (by decide) ?_
        have h := Option.some.inj h
        subst h
        exact hret _ _ _ _ _ dX7_stood_29 rfl rfl hW
    · have h := ifp c4 h
      refine lv_iconst (v := (-1)) hx hb dX7_stood_15 (by decide) ?_
      have h := Option.some.inj h
      subst h
      exact hret _ _ _ _ _ dX7_stood_16 rfl rfl hW
set_option maxHeartbeats 4000000 in
set_option maxRecDepth 100000 in
theorem c_X7_turn {a1 : Int32} {a2 : Int32} {d : Nat} {res : Int32 × (Nat → Int32) × (Nat → Int32) × (Nat → Int32) × (Nat → Int32) × (Nat → Int32)} (hd : 5 ≤ d) (h : f_X7_turn a1 a2 M_doors M_price M_year M_joins M_joinA M_joinB M_olds M_near M_act M_with M_lineMany M_testEnd M_lineEnd M_facts M_pile M_hasLaw M_far M_within M_tooNear = some res) : zMi l yX7_turn cX7_turn 7 .int (zrm d) [.ref (ρ 0), .int a1, .int a2] D q (WM q ρ M_code M_doors M_price M_year M_joins M_joinA M_joinB M_walls M_wallA M_wallB M_cost M_olds M_near M_doneMany M_undoneMany M_changeOf M_changeAt M_before M_behind M_tape M_taped M_here M_fault M_open M_laid M_act M_with M_lineMany M_testEnd M_lineEnd M_facts M_pile M_hasLaw M_far M_within M_tooNear M_dried M_isOn M_wasOn M_bodies M_kind M_traces M_traced M_holds M_size M_elements M_shifted) sz res.1 (WM q ρ M_code M_doors M_price M_year M_joins M_joinA M_joinB M_walls M_wallA M_wallB M_cost M_olds M_near M_doneMany M_undoneMany M_changeOf M_changeAt M_before M_behind M_tape M_taped M_here M_fault M_open M_laid M_act M_with M_lineMany M_testEnd M_lineEnd res.2.1 res.2.2.1 M_hasLaw res.2.2.2.1 res.2.2.2.2.1 res.2.2.2.2.2 M_dried M_isOn M_wasOn M_bodies M_kind M_traces M_traced M_holds M_size M_elements M_shifted) := by
  refine zMet_i (own := RX7) _ (by decide) rfl (Nat.le_of_ble_eq_true rfl) ?_
  intro p e s m args below meth c A ls Q hC hW hl hret
  have hx := hC.1
  have hb := hC.2.1
  have hl : lv_has ls 7 [(0, .ref (ρ 0)), (1, .int a1), (2, .int a2)] := hl
  have b109 : ∀ {x1 : Int32} {x2 : Int32} {x3 : Int32} {x4 : Int32} {x5 : Int32} {x6 : Int32} {M_facts : Nat → Int32} {M_pile : Nat → Int32} {M_far : Nat → Int32} {M_within : Nat → Int32} {M_tooNear : Nat → Int32} {k40 : Int32 → Int32 → Int32 → Option (Int32 × (Nat → Int32) × (Nat → Int32) × (Nat → Int32) × (Nat → Int32) × (Nat → Int32))} (hk40 : ∀ {x3 : Int32} {x4 : Int32} {x5 : Int32} {H : Heap} {locs : List Loc} {ls : Array Slot}, k40 x3 x4 x5 = some res → zW D A s.heap (WM q ρ M_code M_doors M_price M_year M_joins M_joinA M_joinB M_walls M_wallA M_wallB M_cost M_olds M_near M_doneMany M_undoneMany M_changeOf M_changeAt M_before M_behind M_tape M_taped M_here M_fault M_open M_laid M_act M_with M_lineMany M_testEnd M_lineEnd M_facts M_pile M_hasLaw M_far M_within M_tooNear M_dried M_isOn M_wasOn M_bodies M_kind M_traces M_traced M_holds M_size M_elements M_shifted) H locs → lv_has ls 7 [(0, .ref (ρ 0)), (1, .int x1), (2, .int x2), (3, .int x3), (4, .int x4), (5, .int x5)] → W p l e (zrm d) s m args below meth c H locs 0 0 Q (F0 m 40 ls [])) {k51 : Int32 → Int32 → Int32 → Int32 → Option (Int32 × (Nat → Int32) × (Nat → Int32) × (Nat → Int32) × (Nat → Int32) × (Nat → Int32))} (hk51 : ∀ {x3 : Int32} {x4 : Int32} {x5 : Int32} {x6 : Int32} {H : Heap} {locs : List Loc} {ls : Array Slot}, k51 x3 x4 x5 x6 = some res → zW D A s.heap (WM q ρ M_code M_doors M_price M_year M_joins M_joinA M_joinB M_walls M_wallA M_wallB M_cost M_olds M_near M_doneMany M_undoneMany M_changeOf M_changeAt M_before M_behind M_tape M_taped M_here M_fault M_open M_laid M_act M_with M_lineMany M_testEnd M_lineEnd M_facts M_pile M_hasLaw M_far M_within M_tooNear M_dried M_isOn M_wasOn M_bodies M_kind M_traces M_traced M_holds M_size M_elements M_shifted) H locs → lv_has ls 7 [(0, .ref (ρ 0)), (1, .int x1), (2, .int x2), (3, .int x3), (4, .int x4), (5, .int x5), (6, .int x6)] → W p l e (zrm d) s m args below meth c H locs 0 0 Q (F0 m 51 ls [])) {H : Heap} {locs : List Loc} {ls : Array Slot}, f_X7_turn_b109 k40 k51 x1 x2 x3 x4 x5 x6 M_doors M_price M_facts M_pile M_far M_within M_tooNear = some res → zW D A s.heap (WM q ρ M_code M_doors M_price M_year M_joins M_joinA M_joinB M_walls M_wallA M_wallB M_cost M_olds M_near M_doneMany M_undoneMany M_changeOf M_changeAt M_before M_behind M_tape M_taped M_here M_fault M_open M_laid M_act M_with M_lineMany M_testEnd M_lineEnd M_facts M_pile M_hasLaw M_far M_within M_tooNear M_dried M_isOn M_wasOn M_bodies M_kind M_traces M_traced M_holds M_size M_elements M_shifted) H locs → lv_has ls 7 [(0, .ref (ρ 0)), (1, .int x1), (2, .int x2), (3, .int x3), (4, .int x4), (5, .int x5), (6, .int x6)] → W p l e (zrm d) s m args below meth c H locs 0 0 Q (F0 m 109 ls []) := by
    intro x1 x2 x3 x4 x5 x6 M_facts M_pile M_far M_within M_tooNear k40 hk40 k51 hk51 H locs ls h hW hl
    unfold f_X7_turn_b109 at h
    refine lv_iinc (v := (x6 + 1)) (lv' := [(6, .int (x6 + 1)), (0, .ref (ρ 0)), (1, .int x1), (2, .int x2), (3, .int x3), (4, .int x4), (5, .int x5)]) hx hb dX7_turn_109 hl (k := 6) rfl rfl (by decide) rfl (fun ls hl => ?_)
    refine lv_goto (tgt := 51) hx hb dX7_turn_112 (by decide) ?_
    exact hk51 h hW (lv_sub hl [1, 2, 3, 4, 5, 6, 0] rfl)
  have b51 : ∀ {x1 : Int32} {x2 : Int32} {M_facts : Nat → Int32} {M_pile : Nat → Int32} {M_far : Nat → Int32} {M_within : Nat → Int32} {M_tooNear : Nat → Int32} {k40 : Int32 → Int32 → Int32 → Option (Int32 × (Nat → Int32) × (Nat → Int32) × (Nat → Int32) × (Nat → Int32) × (Nat → Int32))} (hk40 : ∀ {x3 : Int32} {x4 : Int32} {x5 : Int32} {H : Heap} {locs : List Loc} {ls : Array Slot}, k40 x3 x4 x5 = some res → zW D A s.heap (WM q ρ M_code M_doors M_price M_year M_joins M_joinA M_joinB M_walls M_wallA M_wallB M_cost M_olds M_near M_doneMany M_undoneMany M_changeOf M_changeAt M_before M_behind M_tape M_taped M_here M_fault M_open M_laid M_act M_with M_lineMany M_testEnd M_lineEnd M_facts M_pile M_hasLaw M_far M_within M_tooNear M_dried M_isOn M_wasOn M_bodies M_kind M_traces M_traced M_holds M_size M_elements M_shifted) H locs → lv_has ls 7 [(0, .ref (ρ 0)), (1, .int x1), (2, .int x2), (3, .int x3), (4, .int x4), (5, .int x5)] → W p l e (zrm d) s m args below meth c H locs 0 0 Q (F0 m 40 ls [])) {n : Nat} {x3 : Int32} {x4 : Int32} {x5 : Int32} {x6 : Int32} {H : Heap} {locs : List Loc} {ls : Array Slot}, f_X7_turn_b51 k40 x1 x2 M_doors M_price M_facts M_pile M_far M_within M_tooNear n x3 x4 x5 x6 = some res → zW D A s.heap (WM q ρ M_code M_doors M_price M_year M_joins M_joinA M_joinB M_walls M_wallA M_wallB M_cost M_olds M_near M_doneMany M_undoneMany M_changeOf M_changeAt M_before M_behind M_tape M_taped M_here M_fault M_open M_laid M_act M_with M_lineMany M_testEnd M_lineEnd M_facts M_pile M_hasLaw M_far M_within M_tooNear M_dried M_isOn M_wasOn M_bodies M_kind M_traces M_traced M_holds M_size M_elements M_shifted) H locs → lv_has ls 7 [(0, .ref (ρ 0)), (1, .int x1), (2, .int x2), (3, .int x3), (4, .int x4), (5, .int x5), (6, .int x6)] → W p l e (zrm d) s m args below meth c H locs 0 0 Q (F0 m 51 ls []) := by
    intro x1 x2 M_facts M_pile M_far M_within M_tooNear k40 hk40
    intro n
    induction n with
    | zero =>
      intro x3 x4 x5 x6 H locs ls h
      rw [f_X7_turn_b51] at h
      cases h
    | succ n ih =>
      intro x3 x4 x5 x6 H locs ls h hW hl
      rw [f_X7_turn_b51] at h
      refine lv_iload hx hb dX7_turn_51 (lv_at hl 6 rfl) ?_
      refine lv_aload_n hx hb dX7_turn_53 rfl (lv_at hl 0 rfl) ?_
      refine z_get hC hW fg_X7_111 0 WM_0 rfl dX7_turn_54 ?_
      refine lv_icmp_ge (tgt := 115) hx hb dX7_turn_57 (by decide) (fun c9 => ?_) (fun c9 => ?_)
      · have h := ifp c9 h
        refine lv_goto (tgt := 40) hx hb dX7_turn_115 (by decide) ?_
        exact hk40 h hW (lv_sub hl [0, 1, 2, 3, 4, 5] rfl)
      · have h := ifn c9 h
        refine lv_iload_n hx hb dX7_turn_60 rfl (lv_at hl 3 rfl) ?_
        refine lv_aload_n hx hb dX7_turn_61 rfl (lv_at hl 0 rfl) ?_
        refine z_get hC hW fg_X7_76 0 WM_0 rfl dX7_turn_62 ?_
        refine lv_iload hx hb dX7_turn_65 (lv_at hl 6 rfl) ?_
        obtain ⟨g10, h⟩ := ix_some h
        refine z_iald hC hW 21 WM_21 g10 dX7_turn_67 ?_
        refine lv_iand hx hb dX7_turn_68 ?_
        refine lv_if_ne (tgt := 109) hx hb dX7_turn_69 (by decide) (fun c11 => ?_) (fun c11 => ?_)
        · have h := ifn c11 h
          exact b109 hk40 ih h hW (lv_sub hl [0, 1, 2, 3, 4, 5, 6] rfl)
        · have h := ifp c11 h
          refine lv_aload_n hx hb dX7_turn_72 rfl (lv_at hl 0 rfl) ?_
          refine lv_iload_n hx hb dX7_turn_73 rfl (lv_at hl 3 rfl) ?_
          refine lv_iload hx hb dX7_turn_74 (lv_at hl 6 rfl) ?_
          obtain ⟨u12, eu12, h⟩ := bd_some h
          refine z_callV_i hC hW (rest := []) (c_X7_mayDig (d := 0) (Nat.le_refl _) eu12) vw_X7_282 WM_0 rfl ⟨rfl, rfl⟩ (zrm_ok (by omega) (by decide)) rfl rfl hl.1 (Nat.le_of_ble_eq_true rfl) dX7_turn_76 (fun H locs hW => ?_)
          refine lv_if_eq (tgt := 109) hx hb dX7_turn_79 (by decide) (fun c13 => ?_) (fun c13 => ?_)
          · have h := ifp c13 h
            exact b109 hk40 ih h hW (lv_sub hl [0, 1, 2, 3, 4, 5, 6] rfl)
          · have h := ifn c13 h
            refine lv_aload_n hx hb dX7_turn_82 rfl (lv_at hl 0 rfl) ?_
            refine z_get hC hW fg_X7_7 0 WM_0 rfl dX7_turn_83 ?_
            refine lv_iload hx hb dX7_turn_86 (lv_at hl 6 rfl) ?_
            obtain ⟨g14, h⟩ := ix_some h
            refine z_iald hC hW 1 WM_1 g14 dX7_turn_88 ?_
            refine lv_iload_n hx hb dX7_turn_89 rfl (lv_at hl 1 rfl) ?_
            refine lv_icmp_le (tgt := 96) hx hb dX7_turn_90 (by decide) (fun c15 => ?_) (fun c15 => ?_)
            · have h := ifp c15 h
              refine lv_iload_n hx hb dX7_turn_96 rfl (lv_at hl 3 rfl) ?_
              refine lv_iconst (v := 1) hx hb dX7_turn_97 (by decide) ?_
              refine lv_iload hx hb dX7_turn_98 (lv_at hl 6 rfl) ?_
              refine lv_ishl hx hb dX7_turn_100 ?_
              refine lv_ior hx hb dX7_turn_101 ?_
              refine lv_istore_n (lv' := [(3, .int (x3 ||| (1 <<< (x6 &&& 31)))), (0, .ref (ρ 0)), (1, .int x1), (2, .int x2), (4, .int x4), (5, .int x5), (6, .int x6)]) hx hb dX7_turn_102 rfl hl (by decide) rfl (fun ls hl => ?_)
              refine lv_iinc (v := (x4 + 1)) (lv' := [(4, .int (x4 + 1)), (3, .int (x3 ||| (1 <<< (x6 &&& 31)))), (0, .ref (ρ 0)), (1, .int x1), (2, .int x2), (5, .int x5), (6, .int x6)]) hx hb dX7_turn_103 hl (k := 4) rfl rfl (by decide) rfl (fun ls hl => ?_)
              refine lv_iconst (v := 1) hx hb dX7_turn_106 (by decide) ?_
              refine lv_istore (lv' := [(5, .int 1), (4, .int (x4 + 1)), (3, .int (x3 ||| (1 <<< (x6 &&& 31)))), (0, .ref (ρ 0)), (1, .int x1), (2, .int x2), (6, .int x6)]) hx hb dX7_turn_107 hl (by decide) rfl (fun ls hl => ?_)
              exact b109 hk40 ih h hW (lv_sub hl [3, 4, 5, 2, 1, 0, 6] rfl)
            · have h := ifn c15 h
              refine lv_goto (tgt := 109) hx hb dX7_turn_93 (by decide) ?_
              exact b109 hk40 ih h hW (lv_sub hl [0, 1, 2, 3, 4, 5, 6] rfl)
  have b40 : ∀ {x1 : Int32} {x2 : Int32} {M_facts : Nat → Int32} {M_pile : Nat → Int32} {M_far : Nat → Int32} {M_within : Nat → Int32} {M_tooNear : Nat → Int32} {n : Nat} {x3 : Int32} {x4 : Int32} {x5 : Int32} {H : Heap} {locs : List Loc} {ls : Array Slot}, f_X7_turn_b40 x1 x2 M_doors M_price M_facts M_pile M_far M_within M_tooNear n x3 x4 x5 = some res → zW D A s.heap (WM q ρ M_code M_doors M_price M_year M_joins M_joinA M_joinB M_walls M_wallA M_wallB M_cost M_olds M_near M_doneMany M_undoneMany M_changeOf M_changeAt M_before M_behind M_tape M_taped M_here M_fault M_open M_laid M_act M_with M_lineMany M_testEnd M_lineEnd M_facts M_pile M_hasLaw M_far M_within M_tooNear M_dried M_isOn M_wasOn M_bodies M_kind M_traces M_traced M_holds M_size M_elements M_shifted) H locs → lv_has ls 7 [(0, .ref (ρ 0)), (1, .int x1), (2, .int x2), (3, .int x3), (4, .int x4), (5, .int x5)] → W p l e (zrm d) s m args below meth c H locs 0 0 Q (F0 m 40 ls []) := by
    intro x1 x2 M_facts M_pile M_far M_within M_tooNear
    intro n
    induction n with
    | zero =>
      intro x3 x4 x5 H locs ls h
      rw [f_X7_turn_b40] at h
      cases h
    | succ n ih =>
      intro x3 x4 x5 H locs ls h hW hl
      rw [f_X7_turn_b40] at h
      refine lv_iload hx hb dX7_turn_40 (lv_at hl 5 rfl) ?_
      refine lv_if_eq (tgt := 118) hx hb dX7_turn_42 (by decide) (fun c7 => ?_) (fun c7 => ?_)
      · have h := ifp c7 h
        refine lv_iload_n hx hb dX7_turn_118 rfl (lv_at hl 2 rfl) ?_
        refine lv_if_ne (tgt := 127) hx hb dX7_turn_119 (by decide) (fun c8 => ?_) (fun c8 => ?_)
        · have h := ifn c8 h
          refine lv_iload_n hx hb dX7_turn_127 rfl (lv_at hl 3 rfl) ?_
          have h := Option.some.inj h
          subst h
          exact hret _ _ _ _ _ dX7_turn_128 rfl rfl hW
        · have h := ifp c8 h
          refine lv_iload hx hb dX7_turn_122 (lv_at hl 4 rfl) ?_
          refine lv_goto (tgt := 128) hx hb dX7_turn_124 (by decide) ?_
          have h := Option.some.inj h
          subst h
          exact hret _ _ _ _ _ dX7_turn_128 rfl rfl hW
      · have h := ifn c7 h
        refine lv_iconst (v := 0) hx hb dX7_turn_45 (by decide) ?_
        refine lv_istore (lv' := [(5, .int 0), (0, .ref (ρ 0)), (1, .int x1), (2, .int x2), (3, .int x3), (4, .int x4)]) hx hb dX7_turn_46 hl (by decide) rfl (fun ls hl => ?_)
        refine lv_iconst (v := 0) hx hb dX7_turn_48 (by decide) ?_
        refine lv_istore (lv' := [(6, .int 0), (5, .int 0), (0, .ref (ρ 0)), (1, .int x1), (2, .int x2), (3, .int x3), (4, .int x4)]) hx hb dX7_turn_49 hl (by decide) rfl (fun ls hl => ?_)
        exact b51 ih h hW (lv_sub hl [2, 3, 4, 5, 6, 1, 0] rfl)
  unfold f_X7_turn at h
  refine lv_iload_n hx hb dX7_turn_0 rfl (lv_at hl 1 rfl) ?_
  refine lv_iconst (v := 0) hx hb dX7_turn_1 (by decide) ?_
  refine lv_bipush (v := 99) hx hb dX7_turn_2 (by decide) ?_
  obtain ⟨u1, eu1, h⟩ := bd_some h
  refine z_callS_i hC hW (rest := []) (c_X7_in (d := 0) (Nat.le_refl _) eu1) sw_X7_114 ⟨rfl, rfl⟩ (zrm_ok (by omega) (by decide)) rfl rfl hl.1 (Nat.le_of_ble_eq_true rfl) dX7_turn_4 (fun H locs hW => ?_)
  refine lv_if_eq (tgt := 19) hx hb dX7_turn_7 (by decide) (fun c2 => ?_) (fun c2 => ?_)
  · have h := ifp c2 h
    refine lv_iconst (v := (-1)) hx hb dX7_turn_19 (by decide) ?_
    have h := Option.some.inj h
    subst h
    exact hret _ _ _ _ _ dX7_turn_20 rfl rfl hW
  · have h := ifn c2 h
    refine lv_iload_n hx hb dX7_turn_10 rfl (lv_at hl 2 rfl) ?_
    refine lv_iconst (v := 0) hx hb dX7_turn_11 (by decide) ?_
    refine lv_iconst (v := 1) hx hb dX7_turn_12 (by decide) ?_
    obtain ⟨u3, eu3, h⟩ := bd_some h
    refine z_callS_i hC hW (rest := []) (c_X7_in (d := 0) (Nat.le_refl _) eu3) sw_X7_114 ⟨rfl, rfl⟩ (zrm_ok (by omega) (by decide)) rfl rfl hl.1 (Nat.le_of_ble_eq_true rfl) dX7_turn_13 (fun H locs hW => ?_)
    refine lv_if_ne (tgt := 21) hx hb dX7_turn_16 (by decide) (fun c4 => ?_) (fun c4 => ?_)
    · have h := ifn c4 h
      refine lv_aload_n hx hb dX7_turn_21 rfl (lv_at hl 0 rfl) ?_
      refine lv_aload_n hx hb dX7_turn_22 rfl (lv_at hl 0 rfl) ?_
      obtain ⟨u5, eu5, h⟩ := bd_some h
      refine z_callV_i hC hW (rest := [.ref (ρ 0)]) (c_X7_allDoors (d := 0) (Nat.le_refl _) eu5) vw_X7_248 WM_0 rfl ⟨rfl, rfl⟩ (zrm_ok (by omega) (by decide)) rfl rfl hl.1 (Nat.le_of_ble_eq_true rfl) dX7_turn_23 (fun H locs hW => ?_)
      obtain ⟨u6, eu6, h⟩ := bd_some h
      refine z_callV_v hC hW (rest := []) (c_X7_findAll (d := 4) (Nat.le_refl _) eu6) vw_X7_261 WM_0 rfl ⟨rfl, rfl⟩ (zrm_ok (by omega) (by decide)) rfl rfl hl.1 (Nat.le_of_ble_eq_true rfl) dX7_turn_26 (fun H locs hW => ?_)
      refine lv_aload_n hx hb dX7_turn_29 rfl (lv_at hl 0 rfl) ?_
      refine z_get hC hW fg_X7_141 0 WM_0 rfl dX7_turn_30 ?_
      refine lv_istore_n (lv' := [(3, .int M_olds), (0, .ref (ρ 0)), (1, .int a1), (2, .int a2)]) hx hb dX7_turn_33 rfl hl (by decide) rfl (fun ls hl => ?_)
      refine lv_iconst (v := 0) hx hb dX7_turn_34 (by decide) ?_
      refine lv_istore (lv' := [(4, .int 0), (3, .int M_olds), (0, .ref (ρ 0)), (1, .int a1), (2, .int a2)]) hx hb dX7_turn_35 hl (by decide) rfl (fun ls hl => ?_)
      refine lv_iconst (v := 1) hx hb dX7_turn_37 (by decide) ?_
      refine lv_istore (lv' := [(5, .int 1), (4, .int 0), (3, .int M_olds), (0, .ref (ρ 0)), (1, .int a1), (2, .int a2)]) hx hb dX7_turn_38 hl (by decide) rfl (fun ls hl => ?_)
      exact b40 h hW (lv_sub hl [3, 4, 5, 2, 1, 0] rfl)
    · have h := ifp c4 h
      refine lv_iconst (v := (-1)) hx hb dX7_turn_19 (by decide) ?_
      have h := Option.some.inj h
      subst h
      exact hret _ _ _ _ _ dX7_turn_20 rfl rfl hW
set_option maxHeartbeats 4000000 in
set_option maxRecDepth 100000 in
theorem c_X7_undo {d : Nat} {res : Int32 × (Nat → Int32) × (Nat → Int32) × (Nat → Int32) × Int32 × Int32} (hd : 1 ≤ d) (h : f_X7_undo M_price M_year M_cost M_doneMany M_undoneMany M_changeOf M_changeAt M_before = some res) : zMi l yX7_undo cX7_undo 1 .int (zrm d) [.ref (ρ 0)] D q (WM q ρ M_code M_doors M_price M_year M_joins M_joinA M_joinB M_walls M_wallA M_wallB M_cost M_olds M_near M_doneMany M_undoneMany M_changeOf M_changeAt M_before M_behind M_tape M_taped M_here M_fault M_open M_laid M_act M_with M_lineMany M_testEnd M_lineEnd M_facts M_pile M_hasLaw M_far M_within M_tooNear M_dried M_isOn M_wasOn M_bodies M_kind M_traces M_traced M_holds M_size M_elements M_shifted) sz res.1 (WM q ρ M_code M_doors res.2.1 res.2.2.1 M_joins M_joinA M_joinB M_walls M_wallA M_wallB res.2.2.2.1 M_olds M_near res.2.2.2.2.1 res.2.2.2.2.2 M_changeOf M_changeAt M_before M_behind M_tape M_taped M_here M_fault M_open M_laid M_act M_with M_lineMany M_testEnd M_lineEnd M_facts M_pile M_hasLaw M_far M_within M_tooNear M_dried M_isOn M_wasOn M_bodies M_kind M_traces M_traced M_holds M_size M_elements M_shifted) := by
  refine zMet_i (own := RX7) _ (by decide) rfl (Nat.le_of_ble_eq_true rfl) ?_
  intro p e s m args below meth c A ls Q hC hW hl hret
  have hx := hC.1
  have hb := hC.2.1
  have hl : lv_has ls 1 [(0, .ref (ρ 0))] := hl
  unfold f_X7_undo at h
  refine lv_aload_n hx hb dX7_undo_0 rfl (lv_at hl 0 rfl) ?_
  refine z_get hC hW fg_X7_150 0 WM_0 rfl dX7_undo_1 ?_
  refine lv_if_ne (tgt := 10) hx hb dX7_undo_4 (by decide) (fun c1 => ?_) (fun c1 => ?_)
  · have h := ifn c1 h
    refine lv_aload_n hx hb dX7_undo_10 rfl (lv_at hl 0 rfl) ?_
    refine lv_dup hx hb dX7_undo_11 rfl ?_
    refine z_get hC hW fg_X7_150 0 WM_0 rfl dX7_undo_12 ?_
    refine lv_iconst (v := 1) hx hb dX7_undo_15 (by decide) ?_
    refine lv_isub hx hb dX7_undo_16 ?_
    refine z_put hC hW fp_X7_150 0 WM_0 (Nat.le_of_ble_eq_true rfl) rfl rfl WMs_M_doneMany dX7_undo_17 (fun H locs hW => ?_)
    refine lv_aload_n hx hb dX7_undo_20 rfl (lv_at hl 0 rfl) ?_
    refine lv_dup hx hb dX7_undo_21 rfl ?_
    refine z_get hC hW fg_X7_147 0 WM_0 rfl dX7_undo_22 ?_
    refine lv_iconst (v := 1) hx hb dX7_undo_25 (by decide) ?_
    refine lv_iadd hx hb dX7_undo_26 ?_
    refine z_put hC hW fp_X7_147 0 WM_0 (Nat.le_of_ble_eq_true rfl) rfl rfl WMs_M_undoneMany dX7_undo_27 (fun H locs hW => ?_)
    refine lv_aload_n hx hb dX7_undo_30 rfl (lv_at hl 0 rfl) ?_
    refine lv_aload_n hx hb dX7_undo_31 rfl (lv_at hl 0 rfl) ?_
    refine z_get hC hW fg_X7_35 0 WM_0 rfl dX7_undo_32 ?_
    refine lv_aload_n hx hb dX7_undo_35 rfl (lv_at hl 0 rfl) ?_
    refine z_get hC hW fg_X7_150 0 WM_0 rfl dX7_undo_36 ?_
    obtain ⟨g2, h⟩ := ix_some h
    refine z_iald hC hW 8 WM_8 g2 dX7_undo_39 ?_
    refine lv_aload_n hx hb dX7_undo_40 rfl (lv_at hl 0 rfl) ?_
    refine z_get hC hW fg_X7_38 0 WM_0 rfl dX7_undo_41 ?_
    refine lv_aload_n hx hb dX7_undo_44 rfl (lv_at hl 0 rfl) ?_
    refine z_get hC hW fg_X7_150 0 WM_0 rfl dX7_undo_45 ?_
    obtain ⟨g3, h⟩ := ix_some h
    refine z_iald hC hW 9 WM_9 g3 dX7_undo_48 ?_
    refine lv_aload_n hx hb dX7_undo_49 rfl (lv_at hl 0 rfl) ?_
    refine z_get hC hW fg_X7_41 0 WM_0 rfl dX7_undo_50 ?_
    refine lv_aload_n hx hb dX7_undo_53 rfl (lv_at hl 0 rfl) ?_
    refine z_get hC hW fg_X7_150 0 WM_0 rfl dX7_undo_54 ?_
    obtain ⟨g4, h⟩ := ix_some h
    refine z_iald hC hW 10 WM_10 g4 dX7_undo_57 ?_
    obtain ⟨u5, eu5, h⟩ := bd_some h
    refine z_callV_v hC hW (rest := []) (c_X7_lays (d := 0) (Nat.le_refl _) eu5) vw_X7_153 WM_0 rfl ⟨rfl, rfl⟩ (zrm_ok (by omega) (by decide)) rfl rfl hl.1 (Nat.le_of_ble_eq_true rfl) dX7_undo_58 (fun H locs hW => ?_)
    refine lv_aload_n hx hb dX7_undo_61 rfl (lv_at hl 0 rfl) ?_
    refine z_get hC hW fg_X7_150 0 WM_0 rfl dX7_undo_62 ?_
    have h := Option.some.inj h
    subst h
    exact hret _ _ _ _ _ dX7_undo_65 rfl rfl hW
  · have h := ifp c1 h
    refine lv_bipush (v := (-5)) hx hb dX7_undo_7 (by decide) ?_
    have h := Option.some.inj h
    subst h
    exact hret _ _ _ _ _ dX7_undo_9 rfl rfl hW
set_option maxHeartbeats 4000000 in
set_option maxRecDepth 100000 in
theorem c_X7_redo {d : Nat} {res : Int32 × (Nat → Int32) × (Nat → Int32) × (Nat → Int32) × Int32 × Int32} (hd : 1 ≤ d) (h : f_X7_redo M_price M_year M_cost M_doneMany M_undoneMany M_changeOf M_changeAt M_behind = some res) : zMi l yX7_redo cX7_redo 1 .int (zrm d) [.ref (ρ 0)] D q (WM q ρ M_code M_doors M_price M_year M_joins M_joinA M_joinB M_walls M_wallA M_wallB M_cost M_olds M_near M_doneMany M_undoneMany M_changeOf M_changeAt M_before M_behind M_tape M_taped M_here M_fault M_open M_laid M_act M_with M_lineMany M_testEnd M_lineEnd M_facts M_pile M_hasLaw M_far M_within M_tooNear M_dried M_isOn M_wasOn M_bodies M_kind M_traces M_traced M_holds M_size M_elements M_shifted) sz res.1 (WM q ρ M_code M_doors res.2.1 res.2.2.1 M_joins M_joinA M_joinB M_walls M_wallA M_wallB res.2.2.2.1 M_olds M_near res.2.2.2.2.1 res.2.2.2.2.2 M_changeOf M_changeAt M_before M_behind M_tape M_taped M_here M_fault M_open M_laid M_act M_with M_lineMany M_testEnd M_lineEnd M_facts M_pile M_hasLaw M_far M_within M_tooNear M_dried M_isOn M_wasOn M_bodies M_kind M_traces M_traced M_holds M_size M_elements M_shifted) := by
  refine zMet_i (own := RX7) _ (by decide) rfl (Nat.le_of_ble_eq_true rfl) ?_
  intro p e s m args below meth c A ls Q hC hW hl hret
  have hx := hC.1
  have hb := hC.2.1
  have hl : lv_has ls 1 [(0, .ref (ρ 0))] := hl
  unfold f_X7_redo at h
  refine lv_aload_n hx hb dX7_redo_0 rfl (lv_at hl 0 rfl) ?_
  refine z_get hC hW fg_X7_147 0 WM_0 rfl dX7_redo_1 ?_
  refine lv_if_ne (tgt := 10) hx hb dX7_redo_4 (by decide) (fun c1 => ?_) (fun c1 => ?_)
  · have h := ifn c1 h
    refine lv_aload_n hx hb dX7_redo_10 rfl (lv_at hl 0 rfl) ?_
    refine lv_aload_n hx hb dX7_redo_11 rfl (lv_at hl 0 rfl) ?_
    refine z_get hC hW fg_X7_35 0 WM_0 rfl dX7_redo_12 ?_
    refine lv_aload_n hx hb dX7_redo_15 rfl (lv_at hl 0 rfl) ?_
    refine z_get hC hW fg_X7_150 0 WM_0 rfl dX7_redo_16 ?_
    obtain ⟨g2, h⟩ := ix_some h
    refine z_iald hC hW 8 WM_8 g2 dX7_redo_19 ?_
    refine lv_aload_n hx hb dX7_redo_20 rfl (lv_at hl 0 rfl) ?_
    refine z_get hC hW fg_X7_38 0 WM_0 rfl dX7_redo_21 ?_
    refine lv_aload_n hx hb dX7_redo_24 rfl (lv_at hl 0 rfl) ?_
    refine z_get hC hW fg_X7_150 0 WM_0 rfl dX7_redo_25 ?_
    obtain ⟨g3, h⟩ := ix_some h
    refine z_iald hC hW 9 WM_9 g3 dX7_redo_28 ?_
    refine lv_aload_n hx hb dX7_redo_29 rfl (lv_at hl 0 rfl) ?_
    refine z_get hC hW fg_X7_44 0 WM_0 rfl dX7_redo_30 ?_
    refine lv_aload_n hx hb dX7_redo_33 rfl (lv_at hl 0 rfl) ?_
    refine z_get hC hW fg_X7_150 0 WM_0 rfl dX7_redo_34 ?_
    obtain ⟨g4, h⟩ := ix_some h
    refine z_iald hC hW 11 WM_11 g4 dX7_redo_37 ?_
    obtain ⟨u5, eu5, h⟩ := bd_some h
    refine z_callV_v hC hW (rest := []) (c_X7_lays (d := 0) (Nat.le_refl _) eu5) vw_X7_153 WM_0 rfl ⟨rfl, rfl⟩ (zrm_ok (by omega) (by decide)) rfl rfl hl.1 (Nat.le_of_ble_eq_true rfl) dX7_redo_38 (fun H locs hW => ?_)
    refine lv_aload_n hx hb dX7_redo_41 rfl (lv_at hl 0 rfl) ?_
    refine lv_dup hx hb dX7_redo_42 rfl ?_
    refine z_get hC hW fg_X7_150 0 WM_0 rfl dX7_redo_43 ?_
    refine lv_iconst (v := 1) hx hb dX7_redo_46 (by decide) ?_
    refine lv_iadd hx hb dX7_redo_47 ?_
    refine z_put hC hW fp_X7_150 0 WM_0 (Nat.le_of_ble_eq_true rfl) rfl rfl WMs_M_doneMany dX7_redo_48 (fun H locs hW => ?_)
    refine lv_aload_n hx hb dX7_redo_51 rfl (lv_at hl 0 rfl) ?_
    refine lv_dup hx hb dX7_redo_52 rfl ?_
    refine z_get hC hW fg_X7_147 0 WM_0 rfl dX7_redo_53 ?_
    refine lv_iconst (v := 1) hx hb dX7_redo_56 (by decide) ?_
    refine lv_isub hx hb dX7_redo_57 ?_
    refine z_put hC hW fp_X7_147 0 WM_0 (Nat.le_of_ble_eq_true rfl) rfl rfl WMs_M_undoneMany dX7_redo_58 (fun H locs hW => ?_)
    refine lv_aload_n hx hb dX7_redo_61 rfl (lv_at hl 0 rfl) ?_
    refine z_get hC hW fg_X7_147 0 WM_0 rfl dX7_redo_62 ?_
    have h := Option.some.inj h
    subst h
    exact hret _ _ _ _ _ dX7_redo_65 rfl rfl hW
  · have h := ifp c1 h
    refine lv_bipush (v := (-5)) hx hb dX7_redo_7 (by decide) ?_
    have h := Option.some.inj h
    subst h
    exact hret _ _ _ _ _ dX7_redo_9 rfl rfl hW
end CT21_m13
