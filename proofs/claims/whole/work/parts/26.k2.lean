set_option maxHeartbeats 4000000 in
set_option maxRecDepth 100000 in
theorem c_X2_init {l : Launch} {D : va_G} {q : Nat → ClassId} {h0 sz : Nat} : zMk l yX2_init cX2_init 1 ({ frames := 1, cells := 2, slots := 240, locals := 32 } : Room) h0 D q [(h0, .inr (2, [.null, .null, .int 0, .int 0, .null, .int 0, .int 0, .int 0, .int 0, .int 0, .int 0, .int 0, .int 0]))] sz (fun u : Nat × Nat => [(h0, .inr (2, [.ref u.1, .ref u.2, .int 0, .int 0, .ref u.2, .int 0, .int 0, .int 0, .int 0, .int 0, .int 0, .int 0, .int 0])), (u.1, .inl (q 1, 120, .inl (fun _ => 0))), (u.2, .inl (q 1, 120, .inl (fun _ => 0)))]) (fun _ => True) 2 240 := by
  refine zMet_k (own := RX2) (by decide) rfl rfl (Nat.le_of_ble_eq_true rfl) ?_
  intro p e s m args below meth c A ls Q hC hin hao hW hl hret
  have hx := hC.1
  have hb := hC.2.1
  refine lv_aload_n hx hb dX2_init_0 rfl (lv_at hl 0 rfl) ?_
  refine zk_objInit hC wd_157 wo_i wo_c hl.1 (Nat.le_of_ble_eq_true rfl) (Nat.le_of_ble_eq_true rfl) dX2_init_1 ?_
  refine lv_aload_n hx hb dX2_init_4 rfl (lv_at hl 0 rfl) ?_
  refine lv_bipush (v := 120) hx hb dX2_init_5 (by decide) ?_
  refine zk_newa (atype := .byte) (ty := .byte) hC hW wd_199 rfl 1 rfl (fun _ _ h => h) (a0 := (120, .inl (fun _ => 0))) (N' := 120) (fun _ => rfl) (by decide) (by decide) (by decide) (Nat.le_of_ble_eq_true rfl) (Nat.le_of_ble_eq_true rfl) dX2_init_7 (fun x1 H hW => ?_)
  have hW : zW D A s.heap [(h0, .inr (2, [.null, .null, .int 0, .int 0, .null, .int 0, .int 0, .int 0, .int 0, .int 0, .int 0, .int 0, .int 0])), (x1, .inl (q 1, 120, .inl (fun _ => 0)))] H _ := hW
  refine zk_putF hC hW hin ff_X2_9 0 rfl (Nat.le_of_ble_eq_true rfl) rfl rfl (ws' := [(h0, .inr (2, [.ref x1, .null, .int 0, .int 0, .null, .int 0, .int 0, .int 0, .int 0, .int 0, .int 0, .int 0, .int 0])), (x1, .inl (q 1, 120, .inl (fun _ => 0)))]) rfl dX2_init_9 (fun H locs hW => ?_)
  refine lv_aload_n hx hb dX2_init_12 rfl (lv_at hl 0 rfl) ?_
  refine lv_bipush (v := 120) hx hb dX2_init_13 (by decide) ?_
  refine zk_newa (atype := .byte) (ty := .byte) hC hW wd_199 rfl 1 rfl (fun _ _ h => h) (a0 := (120, .inl (fun _ => 0))) (N' := 120) (fun _ => rfl) (by decide) (by decide) (by decide) (Nat.le_of_ble_eq_true rfl) (Nat.le_of_ble_eq_true rfl) dX2_init_15 (fun x2 H hW => ?_)
  have hW : zW D A s.heap [(h0, .inr (2, [.ref x1, .null, .int 0, .int 0, .null, .int 0, .int 0, .int 0, .int 0, .int 0, .int 0, .int 0, .int 0])), (x1, .inl (q 1, 120, .inl (fun _ => 0))), (x2, .inl (q 1, 120, .inl (fun _ => 0)))] H _ := hW
  refine zk_putF hC hW hin ff_X2_15 0 rfl (Nat.le_of_ble_eq_true rfl) rfl rfl (ws' := [(h0, .inr (2, [.ref x1, .ref x2, .int 0, .int 0, .null, .int 0, .int 0, .int 0, .int 0, .int 0, .int 0, .int 0, .int 0])), (x1, .inl (q 1, 120, .inl (fun _ => 0))), (x2, .inl (q 1, 120, .inl (fun _ => 0)))]) rfl dX2_init_17 (fun H locs hW => ?_)
  refine lv_aload_n hx hb dX2_init_20 rfl (lv_at hl 0 rfl) ?_
  refine lv_aload_n hx hb dX2_init_21 rfl (lv_at hl 0 rfl) ?_
  refine zk_get hC hW fg_X2_15 0 rfl rfl dX2_init_22 ?_
  refine zk_put hC hW fp_X2_18 0 rfl (Nat.le_of_ble_eq_true rfl) rfl rfl (ws' := [(h0, .inr (2, [.ref x1, .ref x2, .int 0, .int 0, .ref x2, .int 0, .int 0, .int 0, .int 0, .int 0, .int 0, .int 0, .int 0])), (x1, .inl (q 1, 120, .inl (fun _ => 0))), (x2, .inl (q 1, 120, .inl (fun _ => 0)))]) rfl dX2_init_25 (fun H locs hW => ?_)
  exact hret _ _ _ _ (x1, x2) _ _ dX2_init_28 trivial hW (Nat.le_of_ble_eq_true rfl) (Nat.le_of_ble_eq_true rfl)
