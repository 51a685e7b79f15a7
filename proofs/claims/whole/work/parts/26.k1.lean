set_option maxHeartbeats 4000000 in
set_option maxRecDepth 100000 in
theorem c_X5_init {l : Launch} {D : va_G} {q : Nat → ClassId} {h0 sz : Nat} : zMk l yX5_init cX5_init 1 ({ frames := 1, cells := 5, slots := 88, locals := 32 } : Room) h0 D q [(h0, .inr (5, [.null, .null, .null, .null, .null, .int 0, .int 0, .int 0, .int 0, .int 0]))] sz (fun u : Nat × Nat × Nat × Nat × Nat => [(h0, .inr (5, [.ref u.1, .ref u.2.1, .ref u.2.2.1, .ref u.2.2.2.1, .ref u.2.2.2.2, .int 0, .int 0, .int 0, .int 0, .int 4])), (u.1, .inl (q 0, 14, .inl (fun _ => 0))), (u.2.1, .inl (q 0, 14, .inl (fun _ => 0))), (u.2.2.1, .inl (q 0, 40, .inl (fun _ => 0))), (u.2.2.2.1, .inl (q 0, 10, .inl (fun _ => 0))), (u.2.2.2.2, .inl (q 0, 10, .inl (fun _ => 0)))]) (fun _ => True) 5 88 := by
  refine zMet_k (own := RX5) (by decide) rfl rfl (Nat.le_of_ble_eq_true rfl) ?_
  intro p e s m args below meth c A ls Q hC hin hao hW hl hret
  have hx := hC.1
  have hb := hC.2.1
  refine lv_aload_n hx hb dX5_init_0 rfl (lv_at hl 0 rfl) ?_
  refine zk_objInit hC wd_102 wo_i wo_c hl.1 (Nat.le_of_ble_eq_true rfl) (Nat.le_of_ble_eq_true rfl) dX5_init_1 ?_
  refine lv_aload_n hx hb dX5_init_4 rfl (lv_at hl 0 rfl) ?_
  refine lv_bipush (v := 14) hx hb dX5_init_5 (by decide) ?_
  refine zk_newa (atype := .int) (ty := .int) hC hW wd_151 rfl 0 rfl (fun _ _ h => h) (a0 := (14, .inl (fun _ => 0))) (N' := 14) (fun _ => rfl) (by decide) (by decide) (by decide) (Nat.le_of_ble_eq_true rfl) (Nat.le_of_ble_eq_true rfl) dX5_init_7 (fun x1 H hW => ?_)
  have hW : zW D A s.heap [(h0, .inr (5, [.null, .null, .null, .null, .null, .int 0, .int 0, .int 0, .int 0, .int 0])), (x1, .inl (q 0, 14, .inl (fun _ => 0)))] H _ := hW
  refine zk_putF hC hW hin ff_X5_9 0 rfl (Nat.le_of_ble_eq_true rfl) rfl rfl (ws' := [(h0, .inr (5, [.ref x1, .null, .null, .null, .null, .int 0, .int 0, .int 0, .int 0, .int 0])), (x1, .inl (q 0, 14, .inl (fun _ => 0)))]) rfl dX5_init_9 (fun H locs hW => ?_)
  refine lv_aload_n hx hb dX5_init_12 rfl (lv_at hl 0 rfl) ?_
  refine lv_bipush (v := 14) hx hb dX5_init_13 (by decide) ?_
  refine zk_newa (atype := .int) (ty := .int) hC hW wd_151 rfl 0 rfl (fun _ _ h => h) (a0 := (14, .inl (fun _ => 0))) (N' := 14) (fun _ => rfl) (by decide) (by decide) (by decide) (Nat.le_of_ble_eq_true rfl) (Nat.le_of_ble_eq_true rfl) dX5_init_15 (fun x2 H hW => ?_)
  have hW : zW D A s.heap [(h0, .inr (5, [.ref x1, .null, .null, .null, .null, .int 0, .int 0, .int 0, .int 0, .int 0])), (x1, .inl (q 0, 14, .inl (fun _ => 0))), (x2, .inl (q 0, 14, .inl (fun _ => 0)))] H _ := hW
  refine zk_putF hC hW hin ff_X5_15 0 rfl (Nat.le_of_ble_eq_true rfl) rfl rfl (ws' := [(h0, .inr (5, [.ref x1, .ref x2, .null, .null, .null, .int 0, .int 0, .int 0, .int 0, .int 0])), (x1, .inl (q 0, 14, .inl (fun _ => 0))), (x2, .inl (q 0, 14, .inl (fun _ => 0)))]) rfl dX5_init_17 (fun H locs hW => ?_)
  refine lv_aload_n hx hb dX5_init_20 rfl (lv_at hl 0 rfl) ?_
  refine lv_bipush (v := 40) hx hb dX5_init_21 (by decide) ?_
  refine zk_newa (atype := .int) (ty := .int) hC hW wd_151 rfl 0 rfl (fun _ _ h => h) (a0 := (40, .inl (fun _ => 0))) (N' := 40) (fun _ => rfl) (by decide) (by decide) (by decide) (Nat.le_of_ble_eq_true rfl) (Nat.le_of_ble_eq_true rfl) dX5_init_23 (fun x3 H hW => ?_)
  have hW : zW D A s.heap [(h0, .inr (5, [.ref x1, .ref x2, .null, .null, .null, .int 0, .int 0, .int 0, .int 0, .int 0])), (x1, .inl (q 0, 14, .inl (fun _ => 0))), (x2, .inl (q 0, 14, .inl (fun _ => 0))), (x3, .inl (q 0, 40, .inl (fun _ => 0)))] H _ := hW
  refine zk_putF hC hW hin ff_X5_18 0 rfl (Nat.le_of_ble_eq_true rfl) rfl rfl (ws' := [(h0, .inr (5, [.ref x1, .ref x2, .ref x3, .null, .null, .int 0, .int 0, .int 0, .int 0, .int 0])), (x1, .inl (q 0, 14, .inl (fun _ => 0))), (x2, .inl (q 0, 14, .inl (fun _ => 0))), (x3, .inl (q 0, 40, .inl (fun _ => 0)))]) rfl dX5_init_25 (fun H locs hW => ?_)
  refine lv_aload_n hx hb dX5_init_28 rfl (lv_at hl 0 rfl) ?_
  refine lv_bipush (v := 10) hx hb dX5_init_29 (by decide) ?_
  refine zk_newa (atype := .int) (ty := .int) hC hW wd_151 rfl 0 rfl (fun _ _ h => h) (a0 := (10, .inl (fun _ => 0))) (N' := 10) (fun _ => rfl) (by decide) (by decide) (by decide) (Nat.le_of_ble_eq_true rfl) (Nat.le_of_ble_eq_true rfl) dX5_init_31 (fun x4 H hW => ?_)
  have hW : zW D A s.heap [(h0, .inr (5, [.ref x1, .ref x2, .ref x3, .null, .null, .int 0, .int 0, .int 0, .int 0, .int 0])), (x1, .inl (q 0, 14, .inl (fun _ => 0))), (x2, .inl (q 0, 14, .inl (fun _ => 0))), (x3, .inl (q 0, 40, .inl (fun _ => 0))), (x4, .inl (q 0, 10, .inl (fun _ => 0)))] H _ := hW
  refine zk_putF hC hW hin ff_X5_21 0 rfl (Nat.le_of_ble_eq_true rfl) rfl rfl (ws' := [(h0, .inr (5, [.ref x1, .ref x2, .ref x3, .ref x4, .null, .int 0, .int 0, .int 0, .int 0, .int 0])), (x1, .inl (q 0, 14, .inl (fun _ => 0))), (x2, .inl (q 0, 14, .inl (fun _ => 0))), (x3, .inl (q 0, 40, .inl (fun _ => 0))), (x4, .inl (q 0, 10, .inl (fun _ => 0)))]) rfl dX5_init_33 (fun H locs hW => ?_)
  refine lv_aload_n hx hb dX5_init_36 rfl (lv_at hl 0 rfl) ?_
  refine lv_bipush (v := 10) hx hb dX5_init_37 (by decide) ?_
  refine zk_newa (atype := .int) (ty := .int) hC hW wd_151 rfl 0 rfl (fun _ _ h => h) (a0 := (10, .inl (fun _ => 0))) (N' := 10) (fun _ => rfl) (by decide) (by decide) (by decide) (Nat.le_of_ble_eq_true rfl) (Nat.le_of_ble_eq_true rfl) dX5_init_39 (fun x5 H hW => ?_)
  have hW : zW D A s.heap [(h0, .inr (5, [.ref x1, .ref x2, .ref x3, .ref x4, .null, .int 0, .int 0, .int 0, .int 0, .int 0])), (x1, .inl (q 0, 14, .inl (fun _ => 0))), (x2, .inl (q 0, 14, .inl (fun _ => 0))), (x3, .inl (q 0, 40, .inl (fun _ => 0))), (x4, .inl (q 0, 10, .inl (fun _ => 0))), (x5, .inl (q 0, 10, .inl (fun _ => 0)))] H _ := hW
  refine zk_putF hC hW hin ff_X5_24 0 rfl (Nat.le_of_ble_eq_true rfl) rfl rfl (ws' := [(h0, .inr (5, [.ref x1, .ref x2, .ref x3, .ref x4, .ref x5, .int 0, .int 0, .int 0, .int 0, .int 0])), (x1, .inl (q 0, 14, .inl (fun _ => 0))), (x2, .inl (q 0, 14, .inl (fun _ => 0))), (x3, .inl (q 0, 40, .inl (fun _ => 0))), (x4, .inl (q 0, 10, .inl (fun _ => 0))), (x5, .inl (q 0, 10, .inl (fun _ => 0)))]) rfl dX5_init_41 (fun H locs hW => ?_)
  refine lv_aload_n hx hb dX5_init_44 rfl (lv_at hl 0 rfl) ?_
  refine lv_iconst (v := 4) hx hb dX5_init_45 (by decide) ?_
  refine zk_put hC hW fp_X5_27 0 rfl (Nat.le_of_ble_eq_true rfl) rfl rfl (ws' := [(h0, .inr (5, [.ref x1, .ref x2, .ref x3, .ref x4, .ref x5, .int 0, .int 0, .int 0, .int 0, .int 4])), (x1, .inl (q 0, 14, .inl (fun _ => 0))), (x2, .inl (q 0, 14, .inl (fun _ => 0))), (x3, .inl (q 0, 40, .inl (fun _ => 0))), (x4, .inl (q 0, 10, .inl (fun _ => 0))), (x5, .inl (q 0, 10, .inl (fun _ => 0)))]) rfl dX5_init_46 (fun H locs hW => ?_)
  exact hret _ _ _ _ (x1, x2, x3, x4, x5) _ _ dX5_init_49 trivial hW (Nat.le_of_ble_eq_true rfl) (Nat.le_of_ble_eq_true rfl)
