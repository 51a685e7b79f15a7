section CT21_m08
variable {l : Launch} {D : va_G} {q : Nat → ClassId} {ρ : Nat → Nat} {sz : Nat} {M_code : Int32} {M_doors : Int32} {M_price : Nat → Int32} {M_year : Nat → Int32} {M_joins : Int32} {M_joinA : Nat → Int32} {M_joinB : Nat → Int32} {M_walls : Int32} {M_wallA : Nat → Int32} {M_wallB : Nat → Int32} {M_cost : Nat → Int32} {M_olds : Int32} {M_near : Int32} {M_doneMany : Int32} {M_undoneMany : Int32} {M_changeOf : Nat → Int32} {M_changeAt : Nat → Int32} {M_before : Nat → Int32} {M_behind : Nat → Int32} {M_tape : Nat → Int32} {M_taped : Int32} {M_here : Int32} {M_fault : Int32} {M_open : Int32} {M_laid : Int32} {M_act : Nat → Int32} {M_with : Nat → Int32} {M_lineMany : Nat → Int32} {M_testEnd : Nat → Int32} {M_lineEnd : Nat → Int32} {M_facts : Nat → Int32} {M_pile : Nat → Int32} {M_hasLaw : Int32} {M_far : Nat → Int32} {M_within : Nat → Int32} {M_tooNear : Nat → Int32} {M_dried : Int32} {M_isOn : Nat → Int32} {M_wasOn : Nat → Int32} {M_bodies : Int32} {M_kind : Nat → Int32} {M_traces : Int32} {M_traced : Nat → Int32} {M_holds : Nat → Int32} {M_size : Nat → Int32} {M_elements : Nat → Int64} {M_shifted : Nat → Int64}
set_option maxHeartbeats 4000000 in
set_option maxRecDepth 100000 in
theorem c_X7_findAll {a1 : Int32} {d : Nat} {res : (Nat → Int32) × (Nat → Int32) × (Nat → Int32) × (Nat → Int32) × (Nat → Int32)} (hd : 4 ≤ d) (h : f_X7_findAll a1 M_doors M_price M_year M_joins M_joinA M_joinB M_olds M_near M_act M_with M_lineMany M_testEnd M_lineEnd M_facts M_pile M_hasLaw M_far M_within M_tooNear = some res) : zMv l yX7_findAll cX7_findAll 5 (zrm d) [.ref (ρ 0), .int a1] D q (WM q ρ M_code M_doors M_price M_year M_joins M_joinA M_joinB M_walls M_wallA M_wallB M_cost M_olds M_near M_doneMany M_undoneMany M_changeOf M_changeAt M_before M_behind M_tape M_taped M_here M_fault M_open M_laid M_act M_with M_lineMany M_testEnd M_lineEnd M_facts M_pile M_hasLaw M_far M_within M_tooNear M_dried M_isOn M_wasOn M_bodies M_kind M_traces M_traced M_holds M_size M_elements M_shifted) sz (WM q ρ M_code M_doors M_price M_year M_joins M_joinA M_joinB M_walls M_wallA M_wallB M_cost M_olds M_near M_doneMany M_undoneMany M_changeOf M_changeAt M_before M_behind M_tape M_taped M_here M_fault M_open M_laid M_act M_with M_lineMany M_testEnd M_lineEnd res.1 res.2.1 M_hasLaw res.2.2.1 res.2.2.2.1 res.2.2.2.2 M_dried M_isOn M_wasOn M_bodies M_kind M_traces M_traced M_holds M_size M_elements M_shifted) := by
  refine zMet_v (own := RX7) (by decide) rfl (Nat.le_of_ble_eq_true rfl) ?_
  intro p e s m args below meth c A ls Q hC hW hl hret
  have hx := hC.1
  have hb := hC.2.1
  have hl : lv_has ls 5 [(0, .ref (ρ 0)), (1, .int a1)] := hl
  have b114 : ∀ {x2 : Int32} {x3 : Int32} {x4 : Int32} {M_facts : Nat → Int32} {M_pile : Nat → Int32} {M_far : Nat → Int32} {M_within : Nat → Int32} {M_tooNear : Nat → Int32} {k7 : Int32 → (Nat → Int32) → (Nat → Int32) → (Nat → Int32) → (Nat → Int32) → Option ((Nat → Int32) × (Nat → Int32) × (Nat → Int32) × (Nat → Int32) × (Nat → Int32))} (hk7 : ∀ {x2 : Int32} {M_facts : Nat → Int32} {M_pile : Nat → Int32} {M_within : Nat → Int32} {M_tooNear : Nat → Int32} {H : Heap} {locs : List Loc} {ls : Array Slot}, k7 x2 M_facts M_pile M_within M_tooNear = some res → zW D A s.heap (WM q ρ M_code M_doors M_price M_year M_joins M_joinA M_joinB M_walls M_wallA M_wallB M_cost M_olds M_near M_doneMany M_undoneMany M_changeOf M_changeAt M_before M_behind M_tape M_taped M_here M_fault M_open M_laid M_act M_with M_lineMany M_testEnd M_lineEnd M_facts M_pile M_hasLaw M_far M_within M_tooNear M_dried M_isOn M_wasOn M_bodies M_kind M_traces M_traced M_holds M_size M_elements M_shifted) H locs → lv_has ls 5 [(0, .ref (ρ 0)), (2, .int x2)] → W p l e (zrm d) s m args below meth c H locs 0 0 Q (F0 m 7 ls [])) {k38 : Int32 → (Nat → Int32) → (Nat → Int32) → Option ((Nat → Int32) × (Nat → Int32) × (Nat → Int32) × (Nat → Int32) × (Nat → Int32))} (hk38 : ∀ {x4 : Int32} {M_within : Nat → Int32} {M_tooNear : Nat → Int32} {H : Heap} {locs : List Loc} {ls : Array Slot}, k38 x4 M_within M_tooNear = some res → zW D A s.heap (WM q ρ M_code M_doors M_price M_year M_joins M_joinA M_joinB M_walls M_wallA M_wallB M_cost M_olds M_near M_doneMany M_undoneMany M_changeOf M_changeAt M_before M_behind M_tape M_taped M_here M_fault M_open M_laid M_act M_with M_lineMany M_testEnd M_lineEnd M_facts M_pile M_hasLaw M_far M_within M_tooNear M_dried M_isOn M_wasOn M_bodies M_kind M_traces M_traced M_holds M_size M_elements M_shifted) H locs → lv_has ls 5 [(0, .ref (ρ 0)), (2, .int x2), (3, .int x3), (4, .int x4)] → W p l e (zrm d) s m args below meth c H locs 0 0 Q (F0 m 38 ls [])) {H : Heap} {locs : List Loc} {ls : Array Slot}, f_X7_findAll_b114 k7 k38 x2 x3 x4 M_doors M_price M_year M_joins M_joinA M_joinB M_olds M_near M_act M_with M_lineMany M_testEnd M_lineEnd M_facts M_pile M_hasLaw M_far M_within M_tooNear = some res → zW D A s.heap (WM q ρ M_code M_doors M_price M_year M_joins M_joinA M_joinB M_walls M_wallA M_wallB M_cost M_olds M_near M_doneMany M_undoneMany M_changeOf M_changeAt M_before M_behind M_tape M_taped M_here M_fault M_open M_laid M_act M_with M_lineMany M_testEnd M_lineEnd M_facts M_pile M_hasLaw M_far M_within M_tooNear M_dried M_isOn M_wasOn M_bodies M_kind M_traces M_traced M_holds M_size M_elements M_shifted) H locs → lv_has ls 5 [(0, .ref (ρ 0)), (2, .int x2), (3, .int x3), (4, .int x4)] → W p l e (zrm d) s m args below meth c H locs 0 0 Q (F0 m 114 ls []) := by
    intro x2 x3 x4 M_facts M_pile M_far M_within M_tooNear k7 hk7 k38 hk38 H locs ls h hW hl
    unfold f_X7_findAll_b114 at h
    refine lv_iinc (v := (x4 + 1)) (lv' := [(4, .int (x4 + 1)), (0, .ref (ρ 0)), (2, .int x2), (3, .int x3)]) hx hb dX7_findAll_114 hl (k := 3) rfl rfl (by decide) rfl (fun ls hl => ?_)
    refine lv_goto (tgt := 38) hx hb dX7_findAll_117 (by decide) ?_
    exact hk38 h hW (lv_sub hl [1, 2, 3, 0] rfl)
  have b76 : ∀ {x2 : Int32} {x3 : Int32} {x4 : Int32} {M_facts : Nat → Int32} {M_pile : Nat → Int32} {M_far : Nat → Int32} {M_within : Nat → Int32} {M_tooNear : Nat → Int32} {k7 : Int32 → (Nat → Int32) → (Nat → Int32) → (Nat → Int32) → (Nat → Int32) → Option ((Nat → Int32) × (Nat → Int32) × (Nat → Int32) × (Nat → Int32) × (Nat → Int32))} (hk7 : ∀ {x2 : Int32} {M_facts : Nat → Int32} {M_pile : Nat → Int32} {M_within : Nat → Int32} {M_tooNear : Nat → Int32} {H : Heap} {locs : List Loc} {ls : Array Slot}, k7 x2 M_facts M_pile M_within M_tooNear = some res → zW D A s.heap (WM q ρ M_code M_doors M_price M_year M_joins M_joinA M_joinB M_walls M_wallA M_wallB M_cost M_olds M_near M_doneMany M_undoneMany M_changeOf M_changeAt M_before M_behind M_tape M_taped M_here M_fault M_open M_laid M_act M_with M_lineMany M_testEnd M_lineEnd M_facts M_pile M_hasLaw M_far M_within M_tooNear M_dried M_isOn M_wasOn M_bodies M_kind M_traces M_traced M_holds M_size M_elements M_shifted) H locs → lv_has ls 5 [(0, .ref (ρ 0)), (2, .int x2)] → W p l e (zrm d) s m args below meth c H locs 0 0 Q (F0 m 7 ls [])) {k38 : Int32 → (Nat → Int32) → (Nat → Int32) → Option ((Nat → Int32) × (Nat → Int32) × (Nat → Int32) × (Nat → Int32) × (Nat → Int32))} (hk38 : ∀ {x4 : Int32} {M_within : Nat → Int32} {M_tooNear : Nat → Int32} {H : Heap} {locs : List Loc} {ls : Array Slot}, k38 x4 M_within M_tooNear = some res → zW D A s.heap (WM q ρ M_code M_doors M_price M_year M_joins M_joinA M_joinB M_walls M_wallA M_wallB M_cost M_olds M_near M_doneMany M_undoneMany M_changeOf M_changeAt M_before M_behind M_tape M_taped M_here M_fault M_open M_laid M_act M_with M_lineMany M_testEnd M_lineEnd M_facts M_pile M_hasLaw M_far M_within M_tooNear M_dried M_isOn M_wasOn M_bodies M_kind M_traces M_traced M_holds M_size M_elements M_shifted) H locs → lv_has ls 5 [(0, .ref (ρ 0)), (2, .int x2), (3, .int x3), (4, .int x4)] → W p l e (zrm d) s m args below meth c H locs 0 0 Q (F0 m 38 ls [])) {H : Heap} {locs : List Loc} {ls : Array Slot}, f_X7_findAll_b76 k7 k38 x2 x3 x4 M_doors M_price M_year M_joins M_joinA M_joinB M_olds M_near M_act M_with M_lineMany M_testEnd M_lineEnd M_facts M_pile M_hasLaw M_far M_within M_tooNear = some res → zW D A s.heap (WM q ρ M_code M_doors M_price M_year M_joins M_joinA M_joinB M_walls M_wallA M_wallB M_cost M_olds M_near M_doneMany M_undoneMany M_changeOf M_changeAt M_before M_behind M_tape M_taped M_here M_fault M_open M_laid M_act M_with M_lineMany M_testEnd M_lineEnd M_facts M_pile M_hasLaw M_far M_within M_tooNear M_dried M_isOn M_wasOn M_bodies M_kind M_traces M_traced M_holds M_size M_elements M_shifted) H locs → lv_has ls 5 [(0, .ref (ρ 0)), (2, .int x2), (3, .int x3), (4, .int x4)] → W p l e (zrm d) s m args below meth c H locs 0 0 Q (F0 m 76 ls []) := by
    intro x2 x3 x4 M_facts M_pile M_far M_within M_tooNear k7 hk7 k38 hk38 H locs ls h hW hl
    unfold f_X7_findAll_b76 at h
    refine lv_iload_n hx hb dX7_findAll_76 rfl (lv_at hl 1 rfl) ?_
    refine lv_iload hx hb dX7_findAll_77 (lv_at hl 3 rfl) ?_
    refine lv_icmp_eq (tgt := 114) hx hb dX7_findAll_79 (by decide) (fun c9 => ?_) (fun c9 => ?_)
    · have h := ifp c9 h
      exact b114 hk7 hk38 h hW (lv_sub hl [0, 1, 2, 3] rfl)
    · have h := ifn c9 h
      refine lv_aload_n hx hb dX7_findAll_82 rfl (lv_at hl 0 rfl) ?_
      refine z_get hC hW fg_X7_73 0 WM_0 rfl dX7_findAll_83 ?_
      refine lv_bipush (v := 14) hx hb dX7_findAll_86 (by decide) ?_
      refine lv_iload_n hx hb dX7_findAll_88 rfl (lv_at hl 1 rfl) ?_
      refine lv_imul hx hb dX7_findAll_89 ?_
      refine lv_iload hx hb dX7_findAll_90 (lv_at hl 3 rfl) ?_
      refine lv_iadd hx hb dX7_findAll_92 ?_
      obtain ⟨g10, h⟩ := ix_some h
      refine z_iald hC hW 20 WM_20 g10 dX7_findAll_93 ?_
      refine lv_aload_n hx hb dX7_findAll_94 rfl (lv_at hl 0 rfl) ?_
      refine z_get hC hW fg_X7_31 0 WM_0 rfl dX7_findAll_95 ?_
      refine lv_icmp_ge (tgt := 114) hx hb dX7_findAll_98 (by decide) (fun c11 => ?_) (fun c11 => ?_)
      · have h := ifp c11 h
        exact b114 hk7 hk38 h hW (lv_sub hl [0, 1, 2, 3] rfl)
      · have h := ifn c11 h
        refine lv_aload_n hx hb dX7_findAll_101 rfl (lv_at hl 0 rfl) ?_
        refine z_get hC hW fg_X7_79 0 WM_0 rfl dX7_findAll_102 ?_
        refine lv_iload_n hx hb dX7_findAll_105 rfl (lv_at hl 1 rfl) ?_
        refine lv_dup2_11 hx hb dX7_findAll_106 rfl rfl ?_
        obtain ⟨g12, h⟩ := ix_some h
        refine z_iald hC hW 22 WM_22 g12 dX7_findAll_107 ?_
        refine lv_iconst (v := 1) hx hb dX7_findAll_108 (by decide) ?_
        refine lv_iload hx hb dX7_findAll_109 (lv_at hl 3 rfl) ?_
        refine lv_ishl hx hb dX7_findAll_111 ?_
        refine lv_ior hx hb dX7_findAll_112 ?_
        obtain ⟨g13, h⟩ := ix_some h
        refine z_iast hC hW 22 WM_22 g13 WMs_M_tooNear dX7_findAll_113 (fun H locs hW => ?_)
        exact b114 hk7 hk38 h hW (lv_sub hl [0, 1, 2, 3] rfl)
  have b38 : ∀ {x2 : Int32} {x3 : Int32} {M_facts : Nat → Int32} {M_pile : Nat → Int32} {M_far : Nat → Int32} {k7 : Int32 → (Nat → Int32) → (Nat → Int32) → (Nat → Int32) → (Nat → Int32) → Option ((Nat → Int32) × (Nat → Int32) × (Nat → Int32) × (Nat → Int32) × (Nat → Int32))} (hk7 : ∀ {x2 : Int32} {M_facts : Nat → Int32} {M_pile : Nat → Int32} {M_within : Nat → Int32} {M_tooNear : Nat → Int32} {H : Heap} {locs : List Loc} {ls : Array Slot}, k7 x2 M_facts M_pile M_within M_tooNear = some res → zW D A s.heap (WM q ρ M_code M_doors M_price M_year M_joins M_joinA M_joinB M_walls M_wallA M_wallB M_cost M_olds M_near M_doneMany M_undoneMany M_changeOf M_changeAt M_before M_behind M_tape M_taped M_here M_fault M_open M_laid M_act M_with M_lineMany M_testEnd M_lineEnd M_facts M_pile M_hasLaw M_far M_within M_tooNear M_dried M_isOn M_wasOn M_bodies M_kind M_traces M_traced M_holds M_size M_elements M_shifted) H locs → lv_has ls 5 [(0, .ref (ρ 0)), (2, .int x2)] → W p l e (zrm d) s m args below meth c H locs 0 0 Q (F0 m 7 ls [])) {n : Nat} {x4 : Int32} {M_within : Nat → Int32} {M_tooNear : Nat → Int32} {H : Heap} {locs : List Loc} {ls : Array Slot}, f_X7_findAll_b38 k7 x2 x3 M_doors M_price M_year M_joins M_joinA M_joinB M_olds M_near M_act M_with M_lineMany M_testEnd M_lineEnd M_facts M_pile M_hasLaw M_far n x4 M_within M_tooNear = some res → zW D A s.heap (WM q ρ M_code M_doors M_price M_year M_joins M_joinA M_joinB M_walls M_wallA M_wallB M_cost M_olds M_near M_doneMany M_undoneMany M_changeOf M_changeAt M_before M_behind M_tape M_taped M_here M_fault M_open M_laid M_act M_with M_lineMany M_testEnd M_lineEnd M_facts M_pile M_hasLaw M_far M_within M_tooNear M_dried M_isOn M_wasOn M_bodies M_kind M_traces M_traced M_holds M_size M_elements M_shifted) H locs → lv_has ls 5 [(0, .ref (ρ 0)), (2, .int x2), (3, .int x3), (4, .int x4)] → W p l e (zrm d) s m args below meth c H locs 0 0 Q (F0 m 38 ls []) := by
    intro x2 x3 M_facts M_pile M_far k7 hk7
    intro n
    induction n with
    | zero =>
      intro x4 M_within M_tooNear H locs ls h
      rw [f_X7_findAll_b38] at h
      cases h
    | succ n ih =>
      intro x4 M_within M_tooNear H locs ls h hW hl
      rw [f_X7_findAll_b38] at h
      refine lv_iload hx hb dX7_findAll_38 (lv_at hl 3 rfl) ?_
      refine lv_aload_n hx hb dX7_findAll_40 rfl (lv_at hl 0 rfl) ?_
      refine z_get hC hW fg_X7_111 0 WM_0 rfl dX7_findAll_41 ?_
      refine lv_icmp_ge (tgt := 120) hx hb dX7_findAll_44 (by decide) (fun c6 => ?_) (fun c6 => ?_)
      · have h := ifp c6 h
        refine lv_iinc (v := (x2 + 1)) (lv' := [(2, .int (x2 + 1)), (0, .ref (ρ 0)), (3, .int x3), (4, .int x4)]) hx hb dX7_findAll_120 hl (k := 1) rfl rfl (by decide) rfl (fun ls hl => ?_)
        refine lv_goto (tgt := 7) hx hb dX7_findAll_123 (by decide) ?_
        exact hk7 h hW (lv_sub hl [1, 0] rfl)
      · have h := ifn c6 h
        refine lv_aload_n hx hb dX7_findAll_47 rfl (lv_at hl 0 rfl) ?_
        refine z_get hC hW fg_X7_73 0 WM_0 rfl dX7_findAll_48 ?_
        refine lv_bipush (v := 14) hx hb dX7_findAll_51 (by decide) ?_
        refine lv_iload_n hx hb dX7_findAll_53 rfl (lv_at hl 1 rfl) ?_
        refine lv_imul hx hb dX7_findAll_54 ?_
        refine lv_iload hx hb dX7_findAll_55 (lv_at hl 3 rfl) ?_
        refine lv_iadd hx hb dX7_findAll_57 ?_
        obtain ⟨g7, h⟩ := ix_some h
        refine z_iald hC hW 20 WM_20 g7 dX7_findAll_58 ?_
        refine lv_iload_n hx hb dX7_findAll_59 rfl (lv_at hl 2 rfl) ?_
        refine lv_icmp_gt (tgt := 76) hx hb dX7_findAll_60 (by decide) (fun c8 => ?_) (fun c8 => ?_)
        · have h := ifp c8 h
          exact b76 hk7 ih h hW (lv_sub hl [0, 1, 2, 3] rfl)
        · have h := ifn c8 h
          refine lv_aload_n hx hb dX7_findAll_63 rfl (lv_at hl 0 rfl) ?_
          refine z_get hC hW fg_X7_76 0 WM_0 rfl dX7_findAll_64 ?_
          refine lv_iload_n hx hb dX7_findAll_67 rfl (lv_at hl 1 rfl) ?_
          refine lv_dup2_11 hx hb dX7_findAll_68 rfl rfl ?_
          obtain ⟨g14, h⟩ := ix_some h
          refine z_iald hC hW 21 WM_21 g14 dX7_findAll_69 ?_
          refine lv_iconst (v := 1) hx hb dX7_findAll_70 (by decide) ?_
          refine lv_iload hx hb dX7_findAll_71 (lv_at hl 3 rfl) ?_
          refine lv_ishl hx hb dX7_findAll_73 ?_
          refine lv_ior hx hb dX7_findAll_74 ?_
          obtain ⟨g15, h⟩ := ix_some h
          refine z_iast hC hW 21 WM_21 g15 WMs_M_within dX7_findAll_75 (fun H locs hW => ?_)
          exact b76 hk7 ih h hW (lv_sub hl [0, 1, 2, 3] rfl)
  have b7 : ∀ {M_far : Nat → Int32} {n : Nat} {x2 : Int32} {M_facts : Nat → Int32} {M_pile : Nat → Int32} {M_within : Nat → Int32} {M_tooNear : Nat → Int32} {H : Heap} {locs : List Loc} {ls : Array Slot}, f_X7_findAll_b7 M_doors M_price M_year M_joins M_joinA M_joinB M_olds M_near M_act M_with M_lineMany M_testEnd M_lineEnd M_hasLaw M_far n x2 M_facts M_pile M_within M_tooNear = some res → zW D A s.heap (WM q ρ M_code M_doors M_price M_year M_joins M_joinA M_joinB M_walls M_wallA M_wallB M_cost M_olds M_near M_doneMany M_undoneMany M_changeOf M_changeAt M_before M_behind M_tape M_taped M_here M_fault M_open M_laid M_act M_with M_lineMany M_testEnd M_lineEnd M_facts M_pile M_hasLaw M_far M_within M_tooNear M_dried M_isOn M_wasOn M_bodies M_kind M_traces M_traced M_holds M_size M_elements M_shifted) H locs → lv_has ls 5 [(0, .ref (ρ 0)), (2, .int x2)] → W p l e (zrm d) s m args below meth c H locs 0 0 Q (F0 m 7 ls []) := by
    intro M_far
    intro n
    induction n with
    | zero =>
      intro x2 M_facts M_pile M_within M_tooNear H locs ls h
      rw [f_X7_findAll_b7] at h
      cases h
    | succ n ih =>
      intro x2 M_facts M_pile M_within M_tooNear H locs ls h hW hl
      rw [f_X7_findAll_b7] at h
      refine lv_iload_n hx hb dX7_findAll_7 rfl (lv_at hl 1 rfl) ?_
      refine lv_aload_n hx hb dX7_findAll_8 rfl (lv_at hl 0 rfl) ?_
      refine z_get hC hW fg_X7_111 0 WM_0 rfl dX7_findAll_9 ?_
      refine lv_icmp_ge (tgt := 126) hx hb dX7_findAll_12 (by decide) (fun c2 => ?_) (fun c2 => ?_)
      · have h := ifp c2 h
        have h := Option.some.inj h
        subst h
        exact hret _ _ _ _ dX7_findAll_126 hW
      · have h := ifn c2 h
        refine lv_aload_n hx hb dX7_findAll_15 rfl (lv_at hl 0 rfl) ?_
        refine lv_iload_n hx hb dX7_findAll_16 rfl (lv_at hl 1 rfl) ?_
        obtain ⟨u3, eu3, h⟩ := bd_some h
        refine z_callV_i hC hW (rest := []) (c_X7_reachOf (d := 3) (Nat.le_refl _) eu3) vw_X7_165 WM_0 rfl ⟨rfl, rfl⟩ (zrm_ok (by omega) (by decide)) rfl rfl hl.1 (Nat.le_of_ble_eq_true rfl) dX7_findAll_17 (fun H locs hW => ?_)
        refine lv_istore_n (lv' := [(3, .int u3.1), (0, .ref (ρ 0)), (2, .int x2)]) hx hb dX7_findAll_20 rfl hl (by decide) rfl (fun ls hl => ?_)
        refine lv_aload_n hx hb dX7_findAll_21 rfl (lv_at hl 1 rfl) ?_
        refine z_get hC hW fg_X7_76 0 WM_0 rfl dX7_findAll_22 ?_
        refine lv_iload_n hx hb dX7_findAll_25 rfl (lv_at hl 2 rfl) ?_
        refine lv_iconst (v := 0) hx hb dX7_findAll_26 (by decide) ?_
        obtain ⟨g4, h⟩ := ix_some h
        refine z_iast hC hW 21 WM_21 g4 WMs_M_within dX7_findAll_27 (fun H locs hW => ?_)
        refine lv_aload_n hx hb dX7_findAll_28 rfl (lv_at hl 1 rfl) ?_
        refine z_get hC hW fg_X7_79 0 WM_0 rfl dX7_findAll_29 ?_
        refine lv_iload_n hx hb dX7_findAll_32 rfl (lv_at hl 2 rfl) ?_
        refine lv_iconst (v := 0) hx hb dX7_findAll_33 (by decide) ?_
        obtain ⟨g5, h⟩ := ix_some h
        refine z_iast hC hW 22 WM_22 g5 WMs_M_tooNear dX7_findAll_34 (fun H locs hW => ?_)
        refine lv_iconst (v := 0) hx hb dX7_findAll_35 (by decide) ?_
        refine lv_istore (lv' := [(4, .int 0), (3, .int u3.1), (0, .ref (ρ 0)), (2, .int x2)]) hx hb dX7_findAll_36 hl (by decide) rfl (fun ls hl => ?_)
        exact b38 ih h hW (lv_sub hl [2, 3, 1, 0] rfl)
  unfold f_X7_findAll at h
  refine lv_aload_n hx hb dX7_findAll_0 rfl (lv_at hl 0 rfl) ?_
  refine lv_iload_n hx hb dX7_findAll_1 rfl (lv_at hl 1 rfl) ?_
  obtain ⟨u1, eu1, h⟩ := bd_some h
  refine z_callV_v hC hW (rest := []) (c_X7_findFar (d := 0) (Nat.le_refl _) eu1) vw_X7_244 WM_0 rfl ⟨rfl, rfl⟩ (zrm_ok (by omega) (by decide)) rfl rfl hl.1 (Nat.le_of_ble_eq_true rfl) dX7_findAll_2 (fun H locs hW => ?_)
  refine lv_iconst (v := 0) hx hb dX7_findAll_5 (by decide) ?_
  refine lv_istore_n (lv' := [(2, .int 0), (0, .ref (ρ 0)), (1, .int a1)]) hx hb dX7_findAll_6 rfl hl (by decide) rfl (fun ls hl => ?_)
  exact b7 h hW (lv_sub hl [1, 0] rfl)
set_option maxHeartbeats 4000000 in
set_option maxRecDepth 100000 in
theorem c_X7_judge {a1 : Int32} {d : Nat} {res : Int32 × (Nat → Int32) × (Nat → Int32) × (Nat → Int32) × (Nat → Int32) × (Nat → Int32)} (hd : 5 ≤ d) (h : f_X7_judge a1 M_doors M_price M_year M_joins M_joinA M_joinB M_olds M_near M_act M_with M_lineMany M_testEnd M_lineEnd M_facts M_pile M_hasLaw M_far M_within M_tooNear = some res) : zMi l yX7_judge cX7_judge 4 .int (zrm d) [.ref (ρ 0), .int a1] D q (WM q ρ M_code M_doors M_price M_year M_joins M_joinA M_joinB M_walls M_wallA M_wallB M_cost M_olds M_near M_doneMany M_undoneMany M_changeOf M_changeAt M_before M_behind M_tape M_taped M_here M_fault M_open M_laid M_act M_with M_lineMany M_testEnd M_lineEnd M_facts M_pile M_hasLaw M_far M_within M_tooNear M_dried M_isOn M_wasOn M_bodies M_kind M_traces M_traced M_holds M_size M_elements M_shifted) sz res.1 (WM q ρ M_code M_doors M_price M_year M_joins M_joinA M_joinB M_walls M_wallA M_wallB M_cost M_olds M_near M_doneMany M_undoneMany M_changeOf M_changeAt M_before M_behind M_tape M_taped M_here M_fault M_open M_laid M_act M_with M_lineMany M_testEnd M_lineEnd res.2.1 res.2.2.1 M_hasLaw res.2.2.2.1 res.2.2.2.2.1 res.2.2.2.2.2 M_dried M_isOn M_wasOn M_bodies M_kind M_traces M_traced M_holds M_size M_elements M_shifted) := by
  refine zMet_i (own := RX7) _ (by decide) rfl (Nat.le_of_ble_eq_true rfl) ?_
  intro p e s m args below meth c A ls Q hC hW hl hret
  have hx := hC.1
  have hb := hC.2.1
  have hl : lv_has ls 4 [(0, .ref (ρ 0)), (1, .int a1)] := hl
  have b111 : ∀ {x1 : Int32} {x2 : Int32} {x3 : Int32} {M_facts : Nat → Int32} {M_pile : Nat → Int32} {M_far : Nat → Int32} {M_within : Nat → Int32} {M_tooNear : Nat → Int32} {k49 : Int32 → Option (Int32 × (Nat → Int32) × (Nat → Int32) × (Nat → Int32) × (Nat → Int32) × (Nat → Int32))} (hk49 : ∀ {x2 : Int32} {H : Heap} {locs : List Loc} {ls : Array Slot}, k49 x2 = some res → zW D A s.heap (WM q ρ M_code M_doors M_price M_year M_joins M_joinA M_joinB M_walls M_wallA M_wallB M_cost M_olds M_near M_doneMany M_undoneMany M_changeOf M_changeAt M_before M_behind M_tape M_taped M_here M_fault M_open M_laid M_act M_with M_lineMany M_testEnd M_lineEnd M_facts M_pile M_hasLaw M_far M_within M_tooNear M_dried M_isOn M_wasOn M_bodies M_kind M_traces M_traced M_holds M_size M_elements M_shifted) H locs → lv_has ls 4 [(0, .ref (ρ 0)), (1, .int x1), (2, .int x2)] → W p l e (zrm d) s m args below meth c H locs 0 0 Q (F0 m 49 ls [])) {k61 : Int32 → Option (Int32 × (Nat → Int32) × (Nat → Int32) × (Nat → Int32) × (Nat → Int32) × (Nat → Int32))} (hk61 : ∀ {x3 : Int32} {H : Heap} {locs : List Loc} {ls : Array Slot}, k61 x3 = some res → zW D A s.heap (WM q ρ M_code M_doors M_price M_year M_joins M_joinA M_joinB M_walls M_wallA M_wallB M_cost M_olds M_near M_doneMany M_undoneMany M_changeOf M_changeAt M_before M_behind M_tape M_taped M_here M_fault M_open M_laid M_act M_with M_lineMany M_testEnd M_lineEnd M_facts M_pile M_hasLaw M_far M_within M_tooNear M_dried M_isOn M_wasOn M_bodies M_kind M_traces M_traced M_holds M_size M_elements M_shifted) H locs → lv_has ls 4 [(0, .ref (ρ 0)), (1, .int x1), (2, .int x2), (3, .int x3)] → W p l e (zrm d) s m args below meth c H locs 0 0 Q (F0 m 61 ls [])) {H : Heap} {locs : List Loc} {ls : Array Slot}, f_X7_judge_b111 k49 k61 x1 x2 x3 M_doors M_facts M_pile M_far M_within M_tooNear = some res → zW D A s.heap (WM q ρ M_code M_doors M_price M_year M_joins M_joinA M_joinB M_walls M_wallA M_wallB M_cost M_olds M_near M_doneMany M_undoneMany M_changeOf M_changeAt M_before M_behind M_tape M_taped M_here M_fault M_open M_laid M_act M_with M_lineMany M_testEnd M_lineEnd M_facts M_pile M_hasLaw M_far M_within M_tooNear M_dried M_isOn M_wasOn M_bodies M_kind M_traces M_traced M_holds M_size M_elements M_shifted) H locs → lv_has ls 4 [(0, .ref (ρ 0)), (1, .int x1), (2, .int x2), (3, .int x3)] → W p l e (zrm d) s m args below meth c H locs 0 0 Q (F0 m 111 ls []) := by
    intro x1 x2 x3 M_facts M_pile M_far M_within M_tooNear k49 hk49 k61 hk61 H locs ls h hW hl
    unfold f_X7_judge_b111 at h
    refine lv_iinc (v := (x3 + 1)) (lv' := [(3, .int (x3 + 1)), (0, .ref (ρ 0)), (1, .int x1), (2, .int x2)]) hx hb dX7_judge_111 hl (k := 3) rfl rfl (by decide) rfl (fun ls hl => ?_)
    refine lv_goto (tgt := 61) hx hb dX7_judge_114 (by decide) ?_
    exact hk61 h hW (lv_sub hl [1, 2, 3, 0] rfl)
  have b61 : ∀ {x1 : Int32} {x2 : Int32} {M_facts : Nat → Int32} {M_pile : Nat → Int32} {M_far : Nat → Int32} {M_within : Nat → Int32} {M_tooNear : Nat → Int32} {k49 : Int32 → Option (Int32 × (Nat → Int32) × (Nat → Int32) × (Nat → Int32) × (Nat → Int32) × (Nat → Int32))} (hk49 : ∀ {x2 : Int32} {H : Heap} {locs : List Loc} {ls : Array Slot}, k49 x2 = some res → zW D A s.heap (WM q ρ M_code M_doors M_price M_year M_joins M_joinA M_joinB M_walls M_wallA M_wallB M_cost M_olds M_near M_doneMany M_undoneMany M_changeOf M_changeAt M_before M_behind M_tape M_taped M_here M_fault M_open M_laid M_act M_with M_lineMany M_testEnd M_lineEnd M_facts M_pile M_hasLaw M_far M_within M_tooNear M_dried M_isOn M_wasOn M_bodies M_kind M_traces M_traced M_holds M_size M_elements M_shifted) H locs → lv_has ls 4 [(0, .ref (ρ 0)), (1, .int x1), (2, .int x2)] → W p l e (zrm d) s m args below meth c H locs 0 0 Q (F0 m 49 ls [])) {n : Nat} {x3 : Int32} {H : Heap} {locs : List Loc} {ls : Array Slot}, f_X7_judge_b61 k49 x1 x2 M_doors M_facts M_pile M_far M_within M_tooNear n x3 = some res → zW D A s.heap (WM q ρ M_code M_doors M_price M_year M_joins M_joinA M_joinB M_walls M_wallA M_wallB M_cost M_olds M_near M_doneMany M_undoneMany M_changeOf M_changeAt M_before M_behind M_tape M_taped M_here M_fault M_open M_laid M_act M_with M_lineMany M_testEnd M_lineEnd M_facts M_pile M_hasLaw M_far M_within M_tooNear M_dried M_isOn M_wasOn M_bodies M_kind M_traces M_traced M_holds M_size M_elements M_shifted) H locs → lv_has ls 4 [(0, .ref (ρ 0)), (1, .int x1), (2, .int x2), (3, .int x3)] → W p l e (zrm d) s m args below meth c H locs 0 0 Q (F0 m 61 ls []) := by
    intro x1 x2 M_facts M_pile M_far M_within M_tooNear k49 hk49
    intro n
    induction n with
    | zero =>
      intro x3 H locs ls h
      rw [f_X7_judge_b61] at h
      cases h
    | succ n ih =>
      intro x3 H locs ls h hW hl
      rw [f_X7_judge_b61] at h
      refine lv_iload_n hx hb dX7_judge_61 rfl (lv_at hl 3 rfl) ?_
      refine lv_aload_n hx hb dX7_judge_62 rfl (lv_at hl 0 rfl) ?_
      refine z_get hC hW fg_X7_111 0 WM_0 rfl dX7_judge_63 ?_
      refine lv_icmp_ge (tgt := 117) hx hb dX7_judge_66 (by decide) (fun c7 => ?_) (fun c7 => ?_)
      · have h := ifp c7 h
        refine lv_iinc (v := (x2 + 1)) (lv' := [(2, .int (x2 + 1)), (0, .ref (ρ 0)), (1, .int x1), (3, .int x3)]) hx hb dX7_judge_117 hl (k := 2) rfl rfl (by decide) rfl (fun ls hl => ?_)
        refine lv_goto (tgt := 49) hx hb dX7_judge_120 (by decide) ?_
        exact hk49 h hW (lv_sub hl [1, 2, 0] rfl)
      · have h := ifn c7 h
        refine lv_iload_n hx hb dX7_judge_69 rfl (lv_at hl 1 rfl) ?_
        refine lv_iload_n hx hb dX7_judge_70 rfl (lv_at hl 2 rfl) ?_
        refine lv_ishr hx hb dX7_judge_71 ?_
        refine lv_iconst (v := 1) hx hb dX7_judge_72 (by decide) ?_
        refine lv_iand hx hb dX7_judge_73 ?_
        refine lv_iconst (v := 1) hx hb dX7_judge_74 (by decide) ?_
        refine lv_icmp_ne (tgt := 111) hx hb dX7_judge_75 (by decide) (fun c8 => ?_) (fun c8 => ?_)
        · have h := ifn c8 h
          exact b111 hk49 ih h hW (lv_sub hl [0, 1, 2, 3] rfl)
        · have h := ifp c8 h
          refine lv_iload_n hx hb dX7_judge_78 rfl (lv_at hl 1 rfl) ?_
          refine lv_iload_n hx hb dX7_judge_79 rfl (lv_at hl 3 rfl) ?_
          refine lv_ishr hx hb dX7_judge_80 ?_
          refine lv_iconst (v := 1) hx hb dX7_judge_81 (by decide) ?_
          refine lv_iand hx hb dX7_judge_82 ?_
          refine lv_iconst (v := 1) hx hb dX7_judge_83 (by decide) ?_
          refine lv_icmp_ne (tgt := 111) hx hb dX7_judge_84 (by decide) (fun c9 => ?_) (fun c9 => ?_)
          · have h := ifn c9 h
            exact b111 hk49 ih h hW (lv_sub hl [0, 1, 2, 3] rfl)
          · have h := ifp c9 h
            refine lv_aload_n hx hb dX7_judge_87 rfl (lv_at hl 0 rfl) ?_
            refine z_get hC hW fg_X7_79 0 WM_0 rfl dX7_judge_88 ?_
            refine lv_iload_n hx hb dX7_judge_91 rfl (lv_at hl 2 rfl) ?_
            obtain ⟨g10, h⟩ := ix_some h
            refine z_iald hC hW 22 WM_22 g10 dX7_judge_92 ?_
            refine lv_iload_n hx hb dX7_judge_93 rfl (lv_at hl 3 rfl) ?_
            refine lv_ishr hx hb dX7_judge_94 ?_
            refine lv_iconst (v := 1) hx hb dX7_judge_95 (by decide) ?_
            refine lv_iand hx hb dX7_judge_96 ?_
            refine lv_iconst (v := 1) hx hb dX7_judge_97 (by decide) ?_
            refine lv_icmp_ne (tgt := 111) hx hb dX7_judge_98 (by decide) (fun c11 => ?_) (fun c11 => ?_)
            · have h := ifn c11 h
              exact b111 hk49 ih h hW (lv_sub hl [0, 1, 2, 3] rfl)
            · have h := ifp c11 h
              refine lv_bipush (v := 100) hx hb dX7_judge_101 (by decide) ?_
              refine lv_bipush (v := 16) hx hb dX7_judge_103 (by decide) ?_
              refine lv_iload_n hx hb dX7_judge_105 rfl (lv_at hl 2 rfl) ?_
              refine lv_imul hx hb dX7_judge_106 ?_
              refine lv_iadd hx hb dX7_judge_107 ?_
              refine lv_iload_n hx hb dX7_judge_108 rfl (lv_at hl 3 rfl) ?_
              refine lv_iadd hx hb dX7_judge_109 ?_
              have h := Option.some.inj h
              subst h
              exact hret _ _ _ _ _ dX7_judge_110 rfl rfl hW
  have b49 : ∀ {x1 : Int32} {M_facts : Nat → Int32} {M_pile : Nat → Int32} {M_far : Nat → Int32} {M_within : Nat → Int32} {M_tooNear : Nat → Int32} {n : Nat} {x2 : Int32} {H : Heap} {locs : List Loc} {ls : Array Slot}, f_X7_judge_b49 x1 M_doors M_facts M_pile M_far M_within M_tooNear n x2 = some res → zW D A s.heap (WM q ρ M_code M_doors M_price M_year M_joins M_joinA M_joinB M_walls M_wallA M_wallB M_cost M_olds M_near M_doneMany M_undoneMany M_changeOf M_changeAt M_before M_behind M_tape M_taped M_here M_fault M_open M_laid M_act M_with M_lineMany M_testEnd M_lineEnd M_facts M_pile M_hasLaw M_far M_within M_tooNear M_dried M_isOn M_wasOn M_bodies M_kind M_traces M_traced M_holds M_size M_elements M_shifted) H locs → lv_has ls 4 [(0, .ref (ρ 0)), (1, .int x1), (2, .int x2)] → W p l e (zrm d) s m args below meth c H locs 0 0 Q (F0 m 49 ls []) := by
    intro x1 M_facts M_pile M_far M_within M_tooNear
    intro n
    induction n with
    | zero =>
      intro x2 H locs ls h
      rw [f_X7_judge_b49] at h
      cases h
    | succ n ih =>
      intro x2 H locs ls h hW hl
      rw [f_X7_judge_b49] at h
      refine lv_iload_n hx hb dX7_judge_49 rfl (lv_at hl 2 rfl) ?_
      refine lv_aload_n hx hb dX7_judge_50 rfl (lv_at hl 0 rfl) ?_
      refine z_get hC hW fg_X7_111 0 WM_0 rfl dX7_judge_51 ?_
      refine lv_icmp_ge (tgt := 123) hx hb dX7_judge_54 (by decide) (fun c6 => ?_) (fun c6 => ?_)
      · have h := ifp c6 h
        refine lv_bipush (v := (-2)) hx hb dX7_judge_123 (by decide) ?_
        have h := Option.some.inj h
        subst h
        exact hret _ _ _ _ _ dX7_judge_125 rfl rfl hW
      · have h := ifn c6 h
        refine lv_iload_n hx hb dX7_judge_57 rfl (lv_at hl 2 rfl) ?_
        refine lv_iconst (v := 1) hx hb dX7_judge_58 (by decide) ?_
        refine lv_iadd hx hb dX7_judge_59 ?_
        refine lv_istore_n (lv' := [(3, .int (x2 + 1)), (0, .ref (ρ 0)), (1, .int x1), (2, .int x2)]) hx hb dX7_judge_60 rfl hl (by decide) rfl (fun ls hl => ?_)
        exact b61 ih h hW (lv_sub hl [1, 2, 3, 0] rfl)
  have b20 : ∀ {x1 : Int32} {M_facts : Nat → Int32} {M_pile : Nat → Int32} {M_far : Nat → Int32} {M_within : Nat → Int32} {M_tooNear : Nat → Int32} {n : Nat} {x2 : Int32} {H : Heap} {locs : List Loc} {ls : Array Slot}, f_X7_judge_b20 x1 M_doors M_facts M_pile M_far M_within M_tooNear n x2 = some res → zW D A s.heap (WM q ρ M_code M_doors M_price M_year M_joins M_joinA M_joinB M_walls M_wallA M_wallB M_cost M_olds M_near M_doneMany M_undoneMany M_changeOf M_changeAt M_before M_behind M_tape M_taped M_here M_fault M_open M_laid M_act M_with M_lineMany M_testEnd M_lineEnd M_facts M_pile M_hasLaw M_far M_within M_tooNear M_dried M_isOn M_wasOn M_bodies M_kind M_traces M_traced M_holds M_size M_elements M_shifted) H locs → lv_has ls 4 [(0, .ref (ρ 0)), (1, .int x1), (2, .int x2)] → W p l e (zrm d) s m args below meth c H locs 0 0 Q (F0 m 20 ls []) := by
    intro x1 M_facts M_pile M_far M_within M_tooNear
    intro n
    induction n with
    | zero =>
      intro x2 H locs ls h
      rw [f_X7_judge_b20] at h
      cases h
    | succ n ih =>
      intro x2 H locs ls h hW hl
      rw [f_X7_judge_b20] at h
      refine lv_iload_n hx hb dX7_judge_20 rfl (lv_at hl 2 rfl) ?_
      refine lv_aload_n hx hb dX7_judge_21 rfl (lv_at hl 0 rfl) ?_
      refine z_get hC hW fg_X7_111 0 WM_0 rfl dX7_judge_22 ?_
      refine lv_icmp_ge (tgt := 47) hx hb dX7_judge_25 (by decide) (fun c5 => ?_) (fun c5 => ?_)
      · have h := ifp c5 h
        refine lv_iconst (v := 0) hx hb dX7_judge_47 (by decide) ?_
        refine lv_istore_n (lv' := [(2, .int 0), (0, .ref (ρ 0)), (1, .int x1)]) hx hb dX7_judge_48 rfl hl (by decide) rfl (fun ls hl => ?_)
        exact b49 h hW (lv_sub hl [1, 2, 0] rfl)
      · have h := ifn c5 h
        refine lv_iload_n hx hb dX7_judge_28 rfl (lv_at hl 1 rfl) ?_
        refine lv_aload_n hx hb dX7_judge_29 rfl (lv_at hl 0 rfl) ?_
        refine z_get hC hW fg_X7_76 0 WM_0 rfl dX7_judge_30 ?_
        refine lv_iload_n hx hb dX7_judge_33 rfl (lv_at hl 2 rfl) ?_
        obtain ⟨g12, h⟩ := ix_some h
        refine z_iald hC hW 21 WM_21 g12 dX7_judge_34 ?_
        refine lv_iand hx hb dX7_judge_35 ?_
        refine lv_if_ne (tgt := 41) hx hb dX7_judge_36 (by decide) (fun c13 => ?_) (fun c13 => ?_)
        · have h := ifn c13 h
          refine lv_iinc (v := (x2 + 1)) (lv' := [(2, .int (x2 + 1)), (0, .ref (ρ 0)), (1, .int x1)]) hx hb dX7_judge_41 hl (k := 2) rfl rfl (by decide) rfl (fun ls hl => ?_)
          refine lv_goto (tgt := 20) hx hb dX7_judge_44 (by decide) ?_
          exact ih h hW (lv_sub hl [1, 2, 0] rfl)
        · have h := ifp c13 h
          refine lv_iload_n hx hb dX7_judge_39 rfl (lv_at hl 2 rfl) ?_
          have h := Option.some.inj h
          subst h
          exact hret _ _ _ _ _ dX7_judge_40 rfl rfl hW
  unfold f_X7_judge at h
  refine lv_aload_n hx hb dX7_judge_0 rfl (lv_at hl 0 rfl) ?_
  refine lv_iload_n hx hb dX7_judge_1 rfl (lv_at hl 1 rfl) ?_
  obtain ⟨u1, eu1, h⟩ := bd_some h
  refine z_callV_i hC hW (rest := []) (c_X7_isLaying (d := 0) (Nat.le_refl _) eu1) vw_X7_138 WM_0 rfl ⟨rfl, rfl⟩ (zrm_ok (by omega) (by decide)) rfl rfl hl.1 (Nat.le_of_ble_eq_true rfl) dX7_judge_2 (fun H locs hW => ?_)
  refine lv_if_ne (tgt := 10) hx hb dX7_judge_5 (by decide) (fun c2 => ?_) (fun c2 => ?_)
  · have h := ifn c2 h
    refine lv_aload_n hx hb dX7_judge_10 rfl (lv_at hl 0 rfl) ?_
    refine lv_aload_n hx hb dX7_judge_11 rfl (lv_at hl 0 rfl) ?_
    obtain ⟨u3, eu3, h⟩ := bd_some h
    refine z_callV_i hC hW (rest := [.ref (ρ 0)]) (c_X7_allDoors (d := 0) (Nat.le_refl _) eu3) vw_X7_248 WM_0 rfl ⟨rfl, rfl⟩ (zrm_ok (by omega) (by decide)) rfl rfl hl.1 (Nat.le_of_ble_eq_true rfl) dX7_judge_12 (fun H locs hW => ?_)
    obtain ⟨u4, eu4, h⟩ := bd_some h
    refine z_callV_v hC hW (rest := []) (c_X7_findAll (d := 4) (Nat.le_refl _) eu4) vw_X7_261 WM_0 rfl ⟨rfl, rfl⟩ (zrm_ok (by omega) (by decide)) rfl rfl hl.1 (Nat.le_of_ble_eq_true rfl) dX7_judge_15 (fun H locs hW => ?_)
    refine lv_iconst (v := 0) hx hb dX7_judge_18 (by decide) ?_
    refine lv_istore_n (lv' := [(2, .int 0), (0, .ref (ρ 0)), (1, .int a1)]) hx hb dX7_judge_19 rfl hl (by decide) rfl (fun ls hl => ?_)
    exact b20 h hW (lv_sub hl [1, 2, 0] rfl)
  · have h := ifp c2 h
    refine lv_iconst (v := (-1)) hx hb dX7_judge_8 (by decide) ?_
    have h := Option.some.inj h
    subst h
    exact hret _ _ _ _ _ dX7_judge_9 rfl rfl hW
set_option maxHeartbeats 4000000 in
set_option maxRecDepth 100000 in
theorem c_X7_rock {d : Nat} {res : Int32} (hd : 0 ≤ d) (h : f_X7_rock M_doors M_price M_dried = some res) : zMi l yX7_rock cX7_rock 3 .int (zrm d) [.ref (ρ 0)] D q (WM q ρ M_code M_doors M_price M_year M_joins M_joinA M_joinB M_walls M_wallA M_wallB M_cost M_olds M_near M_doneMany M_undoneMany M_changeOf M_changeAt M_before M_behind M_tape M_taped M_here M_fault M_open M_laid M_act M_with M_lineMany M_testEnd M_lineEnd M_facts M_pile M_hasLaw M_far M_within M_tooNear M_dried M_isOn M_wasOn M_bodies M_kind M_traces M_traced M_holds M_size M_elements M_shifted) sz res (WM q ρ M_code M_doors M_price M_year M_joins M_joinA M_joinB M_walls M_wallA M_wallB M_cost M_olds M_near M_doneMany M_undoneMany M_changeOf M_changeAt M_before M_behind M_tape M_taped M_here M_fault M_open M_laid M_act M_with M_lineMany M_testEnd M_lineEnd M_facts M_pile M_hasLaw M_far M_within M_tooNear M_dried M_isOn M_wasOn M_bodies M_kind M_traces M_traced M_holds M_size M_elements M_shifted) := by
  refine zMet_i (own := RX7) _ (by decide) rfl (Nat.le_of_ble_eq_true rfl) ?_
  intro p e s m args below meth c A ls Q hC hW hl hret
  have hx := hC.1
  have hb := hC.2.1
  have hl : lv_has ls 3 [(0, .ref (ρ 0))] := hl
  have b30 : ∀ {x1 : Int32} {x2 : Int32} {k7 : Int32 → Int32 → Option (Int32)} (hk7 : ∀ {x1 : Int32} {x2 : Int32} {H : Heap} {locs : List Loc} {ls : Array Slot}, k7 x1 x2 = some res → zW D A s.heap (WM q ρ M_code M_doors M_price M_year M_joins M_joinA M_joinB M_walls M_wallA M_wallB M_cost M_olds M_near M_doneMany M_undoneMany M_changeOf M_changeAt M_before M_behind M_tape M_taped M_here M_fault M_open M_laid M_act M_with M_lineMany M_testEnd M_lineEnd M_facts M_pile M_hasLaw M_far M_within M_tooNear M_dried M_isOn M_wasOn M_bodies M_kind M_traces M_traced M_holds M_size M_elements M_shifted) H locs → lv_has ls 3 [(0, .ref (ρ 0)), (1, .int x1), (2, .int x2)] → W p l e (zrm d) s m args below meth c H locs 0 0 Q (F0 m 7 ls [])) {H : Heap} {locs : List Loc} {ls : Array Slot}, f_X7_rock_b30 k7 x1 x2 M_doors M_price = some res → zW D A s.heap (WM q ρ M_code M_doors M_price M_year M_joins M_joinA M_joinB M_walls M_wallA M_wallB M_cost M_olds M_near M_doneMany M_undoneMany M_changeOf M_changeAt M_before M_behind M_tape M_taped M_here M_fault M_open M_laid M_act M_with M_lineMany M_testEnd M_lineEnd M_facts M_pile M_hasLaw M_far M_within M_tooNear M_dried M_isOn M_wasOn M_bodies M_kind M_traces M_traced M_holds M_size M_elements M_shifted) H locs → lv_has ls 3 [(0, .ref (ρ 0)), (1, .int x1), (2, .int x2)] → W p l e (zrm d) s m args below meth c H locs 0 0 Q (F0 m 30 ls []) := by
    intro x1 x2 k7 hk7 H locs ls h hW hl
    unfold f_X7_rock_b30 at h
    refine lv_iinc (v := (x2 + 1)) (lv' := [(2, .int (x2 + 1)), (0, .ref (ρ 0)), (1, .int x1)]) hx hb dX7_rock_30 hl (k := 2) rfl rfl (by decide) rfl (fun ls hl => ?_)
    refine lv_goto (tgt := 7) hx hb dX7_rock_33 (by decide) ?_
    exact hk7 h hW (lv_sub hl [1, 2, 0] rfl)
  have b7 : ∀ {n : Nat} {x1 : Int32} {x2 : Int32} {H : Heap} {locs : List Loc} {ls : Array Slot}, f_X7_rock_b7 M_doors M_price n x1 x2 = some res → zW D A s.heap (WM q ρ M_code M_doors M_price M_year M_joins M_joinA M_joinB M_walls M_wallA M_wallB M_cost M_olds M_near M_doneMany M_undoneMany M_changeOf M_changeAt M_before M_behind M_tape M_taped M_here M_fault M_open M_laid M_act M_with M_lineMany M_testEnd M_lineEnd M_facts M_pile M_hasLaw M_far M_within M_tooNear M_dried M_isOn M_wasOn M_bodies M_kind M_traces M_traced M_holds M_size M_elements M_shifted) H locs → lv_has ls 3 [(0, .ref (ρ 0)), (1, .int x1), (2, .int x2)] → W p l e (zrm d) s m args below meth c H locs 0 0 Q (F0 m 7 ls []) := by
    intro n
    induction n with
    | zero =>
      intro x1 x2 H locs ls h
      rw [f_X7_rock_b7] at h
      cases h
    | succ n ih =>
      intro x1 x2 H locs ls h hW hl
      rw [f_X7_rock_b7] at h
      refine lv_iload_n hx hb dX7_rock_7 rfl (lv_at hl 2 rfl) ?_
      refine lv_aload_n hx hb dX7_rock_8 rfl (lv_at hl 0 rfl) ?_
      refine z_get hC hW fg_X7_111 0 WM_0 rfl dX7_rock_9 ?_
      refine lv_icmp_ge (tgt := 36) hx hb dX7_rock_12 (by decide) (fun c1 => ?_) (fun c1 => ?_)
      · have h := ifp c1 h
        refine lv_iload_n hx hb dX7_rock_36 rfl (lv_at hl 1 rfl) ?_
        have h := Option.some.inj h
        subst h
        exact hret _ _ _ _ _ dX7_rock_37 rfl rfl hW
      · have h := ifn c1 h
        refine lv_aload_n hx hb dX7_rock_15 rfl (lv_at hl 0 rfl) ?_
        refine z_get hC hW fg_X7_7 0 WM_0 rfl dX7_rock_16 ?_
        refine lv_iload_n hx hb dX7_rock_19 rfl (lv_at hl 2 rfl) ?_
        obtain ⟨g2, h⟩ := ix_some h
        refine z_iald hC hW 1 WM_1 g2 dX7_rock_20 ?_
        refine lv_if_ne (tgt := 30) hx hb dX7_rock_21 (by decide) (fun c3 => ?_) (fun c3 => ?_)
        · have h := ifn c3 h
          exact b30 ih h hW (lv_sub hl [0, 1, 2] rfl)
        · have h := ifp c3 h
          refine lv_iload_n hx hb dX7_rock_24 rfl (lv_at hl 1 rfl) ?_
          refine lv_iconst (v := 1) hx hb dX7_rock_25 (by decide) ?_
          refine lv_iload_n hx hb dX7_rock_26 rfl (lv_at hl 2 rfl) ?_
          refine lv_ishl hx hb dX7_rock_27 ?_
          refine lv_ior hx hb dX7_rock_28 ?_
          refine lv_istore_n (lv' := [(1, .int (x1 ||| (1 <<< (x2 &&& 31)))), (0, .ref (ρ 0)), (2, .int x2)]) hx hb dX7_rock_29 rfl hl (by decide) rfl (fun ls hl => ?_)
          exact b30 ih h hW (lv_sub hl [1, 0, 2] rfl)
  unfold f_X7_rock at h
  refine lv_aload_n hx hb dX7_rock_0 rfl (lv_at hl 0 rfl) ?_
  refine z_get hC hW fg_X7_251 0 WM_0 rfl dX7_rock_1 ?_
  refine lv_istore_n (lv' := [(1, .int M_dried), (0, .ref (ρ 0))]) hx hb dX7_rock_4 rfl hl (by decide) rfl (fun ls hl => ?_)
  refine lv_iconst (v := 0) hx hb dX7_rock_5 (by decide) ?_
  refine lv_istore_n (lv' := [(2, .int 0), (1, .int M_dried), (0, .ref (ρ 0))]) hx hb dX7_rock_6 rfl hl (by decide) rfl (fun ls hl => ?_)
  exact b7 h hW (lv_sub hl [2, 1, 0] rfl)
set_option maxHeartbeats 4000000 in
set_option maxRecDepth 100000 in
theorem c_X7_isLawful {a1 : Int32} {a2 : Int32} {d : Nat} {res : Int32} (hd : 0 ≤ d) (h : f_X7_isLawful a1 a2 M_doors M_within M_tooNear = some res) : zMi l yX7_isLawful cX7_isLawful 4 .boolean (zrm d) [.ref (ρ 0), .int a1, .int a2] D q (WM q ρ M_code M_doors M_price M_year M_joins M_joinA M_joinB M_walls M_wallA M_wallB M_cost M_olds M_near M_doneMany M_undoneMany M_changeOf M_changeAt M_before M_behind M_tape M_taped M_here M_fault M_open M_laid M_act M_with M_lineMany M_testEnd M_lineEnd M_facts M_pile M_hasLaw M_far M_within M_tooNear M_dried M_isOn M_wasOn M_bodies M_kind M_traces M_traced M_holds M_size M_elements M_shifted) sz res (WM q ρ M_code M_doors M_price M_year M_joins M_joinA M_joinB M_walls M_wallA M_wallB M_cost M_olds M_near M_doneMany M_undoneMany M_changeOf M_changeAt M_before M_behind M_tape M_taped M_here M_fault M_open M_laid M_act M_with M_lineMany M_testEnd M_lineEnd M_facts M_pile M_hasLaw M_far M_within M_tooNear M_dried M_isOn M_wasOn M_bodies M_kind M_traces M_traced M_holds M_size M_elements M_shifted) := by
  refine zMet_i (own := RX7) _ (by decide) rfl (Nat.le_of_ble_eq_true rfl) ?_
  intro p e s m args below meth c A ls Q hC hW hl hret
  have hx := hC.1
  have hb := hC.2.1
  have hl : lv_has ls 4 [(0, .ref (ρ 0)), (1, .int a1), (2, .int a2)] := hl
  have b54 : ∀ {x1 : Int32} {x2 : Int32} {x3 : Int32} {k2 : Int32 → Option (Int32)} (hk2 : ∀ {x3 : Int32} {H : Heap} {locs : List Loc} {ls : Array Slot}, k2 x3 = some res → zW D A s.heap (WM q ρ M_code M_doors M_price M_year M_joins M_joinA M_joinB M_walls M_wallA M_wallB M_cost M_olds M_near M_doneMany M_undoneMany M_changeOf M_changeAt M_before M_behind M_tape M_taped M_here M_fault M_open M_laid M_act M_with M_lineMany M_testEnd M_lineEnd M_facts M_pile M_hasLaw M_far M_within M_tooNear M_dried M_isOn M_wasOn M_bodies M_kind M_traces M_traced M_holds M_size M_elements M_shifted) H locs → lv_has ls 4 [(0, .ref (ρ 0)), (1, .int x1), (2, .int x2), (3, .int x3)] → W p l e (zrm d) s m args below meth c H locs 0 0 Q (F0 m 2 ls [])) {H : Heap} {locs : List Loc} {ls : Array Slot}, f_X7_isLawful_b54 k2 x1 x2 x3 M_doors M_within M_tooNear = some res → zW D A s.heap (WM q ρ M_code M_doors M_price M_year M_joins M_joinA M_joinB M_walls M_wallA M_wallB M_cost M_olds M_near M_doneMany M_undoneMany M_changeOf M_changeAt M_before M_behind M_tape M_taped M_here M_fault M_open M_laid M_act M_with M_lineMany M_testEnd M_lineEnd M_facts M_pile M_hasLaw M_far M_within M_tooNear M_dried M_isOn M_wasOn M_bodies M_kind M_traces M_traced M_holds M_size M_elements M_shifted) H locs → lv_has ls 4 [(0, .ref (ρ 0)), (1, .int x1), (2, .int x2), (3, .int x3)] → W p l e (zrm d) s m args below meth c H locs 0 0 Q (F0 m 54 ls []) := by
    intro x1 x2 x3 k2 hk2 H locs ls h hW hl
    unfold f_X7_isLawful_b54 at h
    refine lv_iinc (v := (x3 + 1)) (lv' := [(3, .int (x3 + 1)), (0, .ref (ρ 0)), (1, .int x1), (2, .int x2)]) hx hb dX7_isLawful_54 hl (k := 3) rfl rfl (by decide) rfl (fun ls hl => ?_)
    refine lv_goto (tgt := 2) hx hb dX7_isLawful_57 (by decide) ?_
    exact hk2 h hW (lv_sub hl [1, 2, 3, 0] rfl)
  have b32 : ∀ {x1 : Int32} {x2 : Int32} {x3 : Int32} {k2 : Int32 → Option (Int32)} (hk2 : ∀ {x3 : Int32} {H : Heap} {locs : List Loc} {ls : Array Slot}, k2 x3 = some res → zW D A s.heap (WM q ρ M_code M_doors M_price M_year M_joins M_joinA M_joinB M_walls M_wallA M_wallB M_cost M_olds M_near M_doneMany M_undoneMany M_changeOf M_changeAt M_before M_behind M_tape M_taped M_here M_fault M_open M_laid M_act M_with M_lineMany M_testEnd M_lineEnd M_facts M_pile M_hasLaw M_far M_within M_tooNear M_dried M_isOn M_wasOn M_bodies M_kind M_traces M_traced M_holds M_size M_elements M_shifted) H locs → lv_has ls 4 [(0, .ref (ρ 0)), (1, .int x1), (2, .int x2), (3, .int x3)] → W p l e (zrm d) s m args below meth c H locs 0 0 Q (F0 m 2 ls [])) {H : Heap} {locs : List Loc} {ls : Array Slot}, f_X7_isLawful_b32 k2 x1 x2 x3 M_doors M_within M_tooNear = some res → zW D A s.heap (WM q ρ M_code M_doors M_price M_year M_joins M_joinA M_joinB M_walls M_wallA M_wallB M_cost M_olds M_near M_doneMany M_undoneMany M_changeOf M_changeAt M_before M_behind M_tape M_taped M_here M_fault M_open M_laid M_act M_with M_lineMany M_testEnd M_lineEnd M_facts M_pile M_hasLaw M_far M_within M_tooNear M_dried M_isOn M_wasOn M_bodies M_kind M_traces M_traced M_holds M_size M_elements M_shifted) H locs → lv_has ls 4 [(0, .ref (ρ 0)), (1, .int x1), (2, .int x2), (3, .int x3)] → W p l e (zrm d) s m args below meth c H locs 0 0 Q (F0 m 32 ls []) := by
    intro x1 x2 x3 k2 hk2 H locs ls h hW hl
    unfold f_X7_isLawful_b32 at h
    refine lv_iload_n hx hb dX7_isLawful_32 rfl (lv_at hl 1 rfl) ?_
    refine lv_iload_n hx hb dX7_isLawful_33 rfl (lv_at hl 3 rfl) ?_
    refine lv_ishr hx hb dX7_isLawful_34 ?_
    refine lv_iconst (v := 1) hx hb dX7_isLawful_35 (by decide) ?_
    refine lv_iand hx hb dX7_isLawful_36 ?_
    refine lv_iconst (v := 1) hx hb dX7_isLawful_37 (by decide) ?_
    refine lv_icmp_ne (tgt := 54) hx hb dX7_isLawful_38 (by decide) (fun c3 => ?_) (fun c3 => ?_)
    · have h := ifn c3 h
      exact b54 hk2 h hW (lv_sub hl [0, 1, 2, 3] rfl)
    · have h := ifp c3 h
      refine lv_iload_n hx hb dX7_isLawful_41 rfl (lv_at hl 1 rfl) ?_
      refine lv_aload_n hx hb dX7_isLawful_42 rfl (lv_at hl 0 rfl) ?_
      refine z_get hC hW fg_X7_79 0 WM_0 rfl dX7_isLawful_43 ?_
      refine lv_iload_n hx hb dX7_isLawful_46 rfl (lv_at hl 3 rfl) ?_
      obtain ⟨g4, h⟩ := ix_some h
      refine z_iald hC hW 22 WM_22 g4 dX7_isLawful_47 ?_
      refine lv_iand hx hb dX7_isLawful_48 ?_
      refine lv_if_eq (tgt := 54) hx hb dX7_isLawful_49 (by decide) (fun c5 => ?_) (fun c5 => ?_)
      · have h := ifp c5 h
        exact b54 hk2 h hW (lv_sub hl [0, 1, 2, 3] rfl)
      · have h := ifn c5 h
        refine lv_iconst (v := 0) hx hb dX7_isLawful_52 (by decide) ?_
        have h := Option.some.inj h
        subst h
        exact hret _ _ _ _ _ dX7_isLawful_53 rfl rfl hW
  have b2 : ∀ {x1 : Int32} {x2 : Int32} {n : Nat} {x3 : Int32} {H : Heap} {locs : List Loc} {ls : Array Slot}, f_X7_isLawful_b2 x1 x2 M_doors M_within M_tooNear n x3 = some res → zW D A s.heap (WM q ρ M_code M_doors M_price M_year M_joins M_joinA M_joinB M_walls M_wallA M_wallB M_cost M_olds M_near M_doneMany M_undoneMany M_changeOf M_changeAt M_before M_behind M_tape M_taped M_here M_fault M_open M_laid M_act M_with M_lineMany M_testEnd M_lineEnd M_facts M_pile M_hasLaw M_far M_within M_tooNear M_dried M_isOn M_wasOn M_bodies M_kind M_traces M_traced M_holds M_size M_elements M_shifted) H locs → lv_has ls 4 [(0, .ref (ρ 0)), (1, .int x1), (2, .int x2), (3, .int x3)] → W p l e (zrm d) s m args below meth c H locs 0 0 Q (F0 m 2 ls []) := by
    intro x1 x2
    intro n
    induction n with
    | zero =>
      intro x3 H locs ls h
      rw [f_X7_isLawful_b2] at h
      cases h
    | succ n ih =>
      intro x3 H locs ls h hW hl
      rw [f_X7_isLawful_b2] at h
      refine lv_iload_n hx hb dX7_isLawful_2 rfl (lv_at hl 3 rfl) ?_
      refine lv_aload_n hx hb dX7_isLawful_3 rfl (lv_at hl 0 rfl) ?_
      refine z_get hC hW fg_X7_111 0 WM_0 rfl dX7_isLawful_4 ?_
      refine lv_icmp_ge (tgt := 60) hx hb dX7_isLawful_7 (by decide) (fun c1 => ?_) (fun c1 => ?_)
      · have h := ifp c1 h
        refine lv_iconst (v := 1) hx hb dX7_isLawful_60 (by decide) ?_
        have h := Option.some.inj h
        subst h
        exact hret _ _ _ _ _ dX7_isLawful_61 rfl rfl hW
      · have h := ifn c1 h
        refine lv_iload_n hx hb dX7_isLawful_10 rfl (lv_at hl 2 rfl) ?_
        refine lv_iload_n hx hb dX7_isLawful_11 rfl (lv_at hl 3 rfl) ?_
        refine lv_ishr hx hb dX7_isLawful_12 ?_
        refine lv_iconst (v := 1) hx hb dX7_isLawful_13 (by decide) ?_
        refine lv_iand hx hb dX7_isLawful_14 ?_
        refine lv_iconst (v := 1) hx hb dX7_isLawful_15 (by decide) ?_
        refine lv_icmp_ne (tgt := 32) hx hb dX7_isLawful_16 (by decide) (fun c2 => ?_) (fun c2 => ?_)
        · have h := ifn c2 h
          exact b32 ih h hW (lv_sub hl [0, 1, 2, 3] rfl)
        · have h := ifp c2 h
          refine lv_iload_n hx hb dX7_isLawful_19 rfl (lv_at hl 1 rfl) ?_
          refine lv_aload_n hx hb dX7_isLawful_20 rfl (lv_at hl 0 rfl) ?_
          refine z_get hC hW fg_X7_76 0 WM_0 rfl dX7_isLawful_21 ?_
          refine lv_iload_n hx hb dX7_isLawful_24 rfl (lv_at hl 3 rfl) ?_
          obtain ⟨g6, h⟩ := ix_some h
          refine z_iald hC hW 21 WM_21 g6 dX7_isLawful_25 ?_
          refine lv_iand hx hb dX7_isLawful_26 ?_
          refine lv_if_ne (tgt := 32) hx hb dX7_isLawful_27 (by decide) (fun c7 => ?_) (fun c7 => ?_)
          · have h := ifn c7 h
            exact b32 ih h hW (lv_sub hl [0, 1, 2, 3] rfl)
          · have h := ifp c7 h
            refine lv_iconst (v := 0) hx hb dX7_isLawful_30 (by decide) ?_
            have h := Option.some.inj h
            subst h
            exact hret _ _ _ _ _ dX7_isLawful_31 rfl rfl hW
  unfold f_X7_isLawful at h
  refine lv_iconst (v := 0) hx hb dX7_isLawful_0 (by decide) ?_
  refine lv_istore_n (lv' := [(3, .int 0), (0, .ref (ρ 0)), (1, .int a1), (2, .int a2)]) hx hb dX7_isLawful_1 rfl hl (by decide) rfl (fun ls hl => ?_)
  exact b2 h hW (lv_sub hl [1, 2, 3, 0] rfl)
end CT21_m08
