/-! the words that the rows below link by, each by its place in the table -/
theorem inlX0_0 : u_lay RX0 TX0 0 ∈ TB := tb_of (List.mem_of_getElem? (i := 291) (by decide +kernel)) rfl
theorem inlX0_1 : u_lay RX0 TX0 1 ∈ TB := tb_of (List.mem_of_getElem? (i := 293) (by decide +kernel)) rfl
theorem inlX0_2 : u_lay RX0 TX0 2 ∈ TB := tb_of (List.mem_of_getElem? (i := 295) (by decide +kernel)) rfl
theorem inlX0_3 : u_lay RX0 TX0 3 ∈ TB := tb_of (List.mem_of_getElem? (i := 297) (by decide +kernel)) rfl
theorem inlX0_4 : u_lay RX0 TX0 4 ∈ TB := tb_of (List.mem_of_getElem? (i := 299) (by decide +kernel)) rfl
theorem inlX0_5 : u_lay RX0 TX0 5 ∈ TB := tb_of (List.mem_of_getElem? (i := 301) (by decide +kernel)) rfl
theorem inlX0 : ∀ w ∈ u_ws RX0 TX0 6, w ∈ TB := by
  intro w hw
  obtain ⟨k, hk, rfl⟩ := List.mem_map.mp hw
  have hk := List.mem_range.mp hk
  exact match k, hk with
  | 0, _ => inlX0_0
  | 1, _ => inlX0_1
  | 2, _ => inlX0_2
  | 3, _ => inlX0_3
  | 4, _ => inlX0_4
  | 5, _ => inlX0_5
  | n + 6, h => absurd h (by omega)
theorem inlX1_0 : u_lay RX1 TX1 0 ∈ TB := tb_of (List.mem_of_getElem? (i := 262) (by decide +kernel)) rfl
theorem inlX1_1 : u_lay RX1 TX1 1 ∈ TB := tb_of (List.mem_of_getElem? (i := 264) (by decide +kernel)) rfl
theorem inlX1_2 : u_lay RX1 TX1 2 ∈ TB := tb_of (List.mem_of_getElem? (i := 266) (by decide +kernel)) rfl
theorem inlX1_3 : u_lay RX1 TX1 3 ∈ TB := tb_of (List.mem_of_getElem? (i := 268) (by decide +kernel)) rfl
theorem inlX1_4 : u_lay RX1 TX1 4 ∈ TB := tb_of (List.mem_of_getElem? (i := 270) (by decide +kernel)) rfl
theorem inlX1_5 : u_lay RX1 TX1 5 ∈ TB := tb_of (List.mem_of_getElem? (i := 272) (by decide +kernel)) rfl
theorem inlX1 : ∀ w ∈ u_ws RX1 TX1 6, w ∈ TB := by
  intro w hw
  obtain ⟨k, hk, rfl⟩ := List.mem_map.mp hw
  have hk := List.mem_range.mp hk
  exact match k, hk with
  | 0, _ => inlX1_0
  | 1, _ => inlX1_1
  | 2, _ => inlX1_2
  | 3, _ => inlX1_3
  | 4, _ => inlX1_4
  | 5, _ => inlX1_5
  | n + 6, h => absurd h (by omega)
theorem inlX2_0 : u_lay RX2 TX2 0 ∈ TB := tb_of (List.mem_of_getElem? (i := 172) (by decide +kernel)) rfl
theorem inlX2_1 : u_lay RX2 TX2 1 ∈ TB := tb_of (List.mem_of_getElem? (i := 174) (by decide +kernel)) rfl
theorem inlX2_2 : u_lay RX2 TX2 2 ∈ TB := tb_of (List.mem_of_getElem? (i := 176) (by decide +kernel)) rfl
theorem inlX2_3 : u_lay RX2 TX2 3 ∈ TB := tb_of (List.mem_of_getElem? (i := 178) (by decide +kernel)) rfl
theorem inlX2_4 : u_lay RX2 TX2 4 ∈ TB := tb_of (List.mem_of_getElem? (i := 180) (by decide +kernel)) rfl
theorem inlX2_5 : u_lay RX2 TX2 5 ∈ TB := tb_of (List.mem_of_getElem? (i := 182) (by decide +kernel)) rfl
theorem inlX2_6 : u_lay RX2 TX2 6 ∈ TB := tb_of (List.mem_of_getElem? (i := 184) (by decide +kernel)) rfl
theorem inlX2_7 : u_lay RX2 TX2 7 ∈ TB := tb_of (List.mem_of_getElem? (i := 186) (by decide +kernel)) rfl
theorem inlX2_8 : u_lay RX2 TX2 8 ∈ TB := tb_of (List.mem_of_getElem? (i := 188) (by decide +kernel)) rfl
theorem inlX2_9 : u_lay RX2 TX2 9 ∈ TB := tb_of (List.mem_of_getElem? (i := 190) (by decide +kernel)) rfl
theorem inlX2_10 : u_lay RX2 TX2 10 ∈ TB := tb_of (List.mem_of_getElem? (i := 192) (by decide +kernel)) rfl
theorem inlX2_11 : u_lay RX2 TX2 11 ∈ TB := tb_of (List.mem_of_getElem? (i := 194) (by decide +kernel)) rfl
theorem inlX2_12 : u_lay RX2 TX2 12 ∈ TB := tb_of (List.mem_of_getElem? (i := 196) (by decide +kernel)) rfl
theorem inlX2 : ∀ w ∈ u_ws RX2 TX2 13, w ∈ TB := by
  intro w hw
  obtain ⟨k, hk, rfl⟩ := List.mem_map.mp hw
  have hk := List.mem_range.mp hk
  exact match k, hk with
  | 0, _ => inlX2_0
  | 1, _ => inlX2_1
  | 2, _ => inlX2_2
  | 3, _ => inlX2_3
  | 4, _ => inlX2_4
  | 5, _ => inlX2_5
  | 6, _ => inlX2_6
  | 7, _ => inlX2_7
  | 8, _ => inlX2_8
  | 9, _ => inlX2_9
  | 10, _ => inlX2_10
  | 11, _ => inlX2_11
  | 12, _ => inlX2_12
  | n + 13, h => absurd h (by omega)
theorem inlX3_0 : u_lay RX3 TX3 0 ∈ TB := tb_of (List.mem_of_getElem? (i := 223) (by decide +kernel)) rfl
theorem inlX3_1 : u_lay RX3 TX3 1 ∈ TB := tb_of (List.mem_of_getElem? (i := 225) (by decide +kernel)) rfl
theorem inlX3_2 : u_lay RX3 TX3 2 ∈ TB := tb_of (List.mem_of_getElem? (i := 227) (by decide +kernel)) rfl
theorem inlX3_3 : u_lay RX3 TX3 3 ∈ TB := tb_of (List.mem_of_getElem? (i := 229) (by decide +kernel)) rfl
theorem inlX3_4 : u_lay RX3 TX3 4 ∈ TB := tb_of (List.mem_of_getElem? (i := 231) (by decide +kernel)) rfl
theorem inlX3_5 : u_lay RX3 TX3 5 ∈ TB := tb_of (List.mem_of_getElem? (i := 233) (by decide +kernel)) rfl
theorem inlX3_6 : u_lay RX3 TX3 6 ∈ TB := tb_of (List.mem_of_getElem? (i := 235) (by decide +kernel)) rfl
theorem inlX3_7 : u_lay RX3 TX3 7 ∈ TB := tb_of (List.mem_of_getElem? (i := 237) (by decide +kernel)) rfl
theorem inlX3_8 : u_lay RX3 TX3 8 ∈ TB := tb_of (List.mem_of_getElem? (i := 239) (by decide +kernel)) rfl
theorem inlX3_9 : u_lay RX3 TX3 9 ∈ TB := tb_of (List.mem_of_getElem? (i := 241) (by decide +kernel)) rfl
theorem inlX3_10 : u_lay RX3 TX3 10 ∈ TB := tb_of (List.mem_of_getElem? (i := 243) (by decide +kernel)) rfl
theorem inlX3_11 : u_lay RX3 TX3 11 ∈ TB := tb_of (List.mem_of_getElem? (i := 245) (by decide +kernel)) rfl
theorem inlX3 : ∀ w ∈ u_ws RX3 TX3 12, w ∈ TB := by
  intro w hw
  obtain ⟨k, hk, rfl⟩ := List.mem_map.mp hw
  have hk := List.mem_range.mp hk
  exact match k, hk with
  | 0, _ => inlX3_0
  | 1, _ => inlX3_1
  | 2, _ => inlX3_2
  | 3, _ => inlX3_3
  | 4, _ => inlX3_4
  | 5, _ => inlX3_5
  | 6, _ => inlX3_6
  | 7, _ => inlX3_7
  | 8, _ => inlX3_8
  | 9, _ => inlX3_9
  | 10, _ => inlX3_10
  | 11, _ => inlX3_11
  | n + 12, h => absurd h (by omega)
theorem inlX4_0 : u_lay RX4 TX4 0 ∈ TB := tb_of (List.mem_of_getElem? (i := 320) (by decide +kernel)) rfl
theorem inlX4_1 : u_lay RX4 TX4 1 ∈ TB := tb_of (List.mem_of_getElem? (i := 322) (by decide +kernel)) rfl
theorem inlX4_2 : u_lay RX4 TX4 2 ∈ TB := tb_of (List.mem_of_getElem? (i := 324) (by decide +kernel)) rfl
theorem inlX4_3 : u_lay RX4 TX4 3 ∈ TB := tb_of (List.mem_of_getElem? (i := 326) (by decide +kernel)) rfl
theorem inlX4_4 : u_lay RX4 TX4 4 ∈ TB := tb_of (List.mem_of_getElem? (i := 328) (by decide +kernel)) rfl
theorem inlX4 : ∀ w ∈ u_ws RX4 TX4 5, w ∈ TB := by
  intro w hw
  obtain ⟨k, hk, rfl⟩ := List.mem_map.mp hw
  have hk := List.mem_range.mp hk
  exact match k, hk with
  | 0, _ => inlX4_0
  | 1, _ => inlX4_1
  | 2, _ => inlX4_2
  | 3, _ => inlX4_3
  | 4, _ => inlX4_4
  | n + 5, h => absurd h (by omega)
theorem inlX5_0 : u_lay RX5 TX5 0 ∈ TB := tb_of (List.mem_of_getElem? (i := 130) (by decide +kernel)) rfl
theorem inlX5_1 : u_lay RX5 TX5 1 ∈ TB := tb_of (List.mem_of_getElem? (i := 132) (by decide +kernel)) rfl
theorem inlX5_2 : u_lay RX5 TX5 2 ∈ TB := tb_of (List.mem_of_getElem? (i := 134) (by decide +kernel)) rfl
theorem inlX5_3 : u_lay RX5 TX5 3 ∈ TB := tb_of (List.mem_of_getElem? (i := 136) (by decide +kernel)) rfl
theorem inlX5_4 : u_lay RX5 TX5 4 ∈ TB := tb_of (List.mem_of_getElem? (i := 138) (by decide +kernel)) rfl
theorem inlX5_5 : u_lay RX5 TX5 5 ∈ TB := tb_of (List.mem_of_getElem? (i := 140) (by decide +kernel)) rfl
theorem inlX5_6 : u_lay RX5 TX5 6 ∈ TB := tb_of (List.mem_of_getElem? (i := 142) (by decide +kernel)) rfl
theorem inlX5_7 : u_lay RX5 TX5 7 ∈ TB := tb_of (List.mem_of_getElem? (i := 144) (by decide +kernel)) rfl
theorem inlX5_8 : u_lay RX5 TX5 8 ∈ TB := tb_of (List.mem_of_getElem? (i := 146) (by decide +kernel)) rfl
theorem inlX5_9 : u_lay RX5 TX5 9 ∈ TB := tb_of (List.mem_of_getElem? (i := 148) (by decide +kernel)) rfl
theorem inlX5 : ∀ w ∈ u_ws RX5 TX5 10, w ∈ TB := by
  intro w hw
  obtain ⟨k, hk, rfl⟩ := List.mem_map.mp hw
  have hk := List.mem_range.mp hk
  exact match k, hk with
  | 0, _ => inlX5_0
  | 1, _ => inlX5_1
  | 2, _ => inlX5_2
  | 3, _ => inlX5_3
  | 4, _ => inlX5_4
  | 5, _ => inlX5_5
  | 6, _ => inlX5_6
  | 7, _ => inlX5_7
  | 8, _ => inlX5_8
  | 9, _ => inlX5_9
  | n + 10, h => absurd h (by omega)
theorem inlX6_0 : u_lay RX6 TX6 0 ∈ TB := tb_of (List.mem_of_getElem? (i := 340) (by decide +kernel)) rfl
theorem inlX6_1 : u_lay RX6 TX6 1 ∈ TB := tb_of (List.mem_of_getElem? (i := 342) (by decide +kernel)) rfl
theorem inlX6_2 : u_lay RX6 TX6 2 ∈ TB := tb_of (List.mem_of_getElem? (i := 344) (by decide +kernel)) rfl
theorem inlX6_3 : u_lay RX6 TX6 3 ∈ TB := tb_of (List.mem_of_getElem? (i := 346) (by decide +kernel)) rfl
theorem inlX6_4 : u_lay RX6 TX6 4 ∈ TB := tb_of (List.mem_of_getElem? (i := 348) (by decide +kernel)) rfl
theorem inlX6_5 : u_lay RX6 TX6 5 ∈ TB := tb_of (List.mem_of_getElem? (i := 350) (by decide +kernel)) rfl
theorem inlX6_6 : u_lay RX6 TX6 6 ∈ TB := tb_of (List.mem_of_getElem? (i := 352) (by decide +kernel)) rfl
theorem inlX6 : ∀ w ∈ u_ws RX6 TX6 7, w ∈ TB := by
  intro w hw
  obtain ⟨k, hk, rfl⟩ := List.mem_map.mp hw
  have hk := List.mem_range.mp hk
  exact match k, hk with
  | 0, _ => inlX6_0
  | 1, _ => inlX6_1
  | 2, _ => inlX6_2
  | 3, _ => inlX6_3
  | 4, _ => inlX6_4
  | 5, _ => inlX6_5
  | 6, _ => inlX6_6
  | n + 7, h => absurd h (by omega)
theorem inlX7_0 : u_lay RX7 TX7 0 ∈ TB := tb_of (List.mem_of_getElem? (i := 859) (by decide +kernel)) rfl
theorem inlX7_1 : u_lay RX7 TX7 1 ∈ TB := tb_of (List.mem_of_getElem? (i := 861) (by decide +kernel)) rfl
theorem inlX7_2 : u_lay RX7 TX7 2 ∈ TB := tb_of (List.mem_of_getElem? (i := 863) (by decide +kernel)) rfl
theorem inlX7_3 : u_lay RX7 TX7 3 ∈ TB := tb_of (List.mem_of_getElem? (i := 865) (by decide +kernel)) rfl
theorem inlX7_4 : u_lay RX7 TX7 4 ∈ TB := tb_of (List.mem_of_getElem? (i := 867) (by decide +kernel)) rfl
theorem inlX7_5 : u_lay RX7 TX7 5 ∈ TB := tb_of (List.mem_of_getElem? (i := 869) (by decide +kernel)) rfl
theorem inlX7_6 : u_lay RX7 TX7 6 ∈ TB := tb_of (List.mem_of_getElem? (i := 871) (by decide +kernel)) rfl
theorem inlX7_7 : u_lay RX7 TX7 7 ∈ TB := tb_of (List.mem_of_getElem? (i := 873) (by decide +kernel)) rfl
theorem inlX7_8 : u_lay RX7 TX7 8 ∈ TB := tb_of (List.mem_of_getElem? (i := 875) (by decide +kernel)) rfl
theorem inlX7_9 : u_lay RX7 TX7 9 ∈ TB := tb_of (List.mem_of_getElem? (i := 877) (by decide +kernel)) rfl
theorem inlX7_10 : u_lay RX7 TX7 10 ∈ TB := tb_of (List.mem_of_getElem? (i := 879) (by decide +kernel)) rfl
theorem inlX7_11 : u_lay RX7 TX7 11 ∈ TB := tb_of (List.mem_of_getElem? (i := 881) (by decide +kernel)) rfl
theorem inlX7_12 : u_lay RX7 TX7 12 ∈ TB := tb_of (List.mem_of_getElem? (i := 883) (by decide +kernel)) rfl
theorem inlX7_13 : u_lay RX7 TX7 13 ∈ TB := tb_of (List.mem_of_getElem? (i := 885) (by decide +kernel)) rfl
theorem inlX7_14 : u_lay RX7 TX7 14 ∈ TB := tb_of (List.mem_of_getElem? (i := 887) (by decide +kernel)) rfl
theorem inlX7_15 : u_lay RX7 TX7 15 ∈ TB := tb_of (List.mem_of_getElem? (i := 889) (by decide +kernel)) rfl
theorem inlX7_16 : u_lay RX7 TX7 16 ∈ TB := tb_of (List.mem_of_getElem? (i := 891) (by decide +kernel)) rfl
theorem inlX7_17 : u_lay RX7 TX7 17 ∈ TB := tb_of (List.mem_of_getElem? (i := 893) (by decide +kernel)) rfl
theorem inlX7_18 : u_lay RX7 TX7 18 ∈ TB := tb_of (List.mem_of_getElem? (i := 895) (by decide +kernel)) rfl
theorem inlX7_19 : u_lay RX7 TX7 19 ∈ TB := tb_of (List.mem_of_getElem? (i := 897) (by decide +kernel)) rfl
theorem inlX7_20 : u_lay RX7 TX7 20 ∈ TB := tb_of (List.mem_of_getElem? (i := 899) (by decide +kernel)) rfl
theorem inlX7_21 : u_lay RX7 TX7 21 ∈ TB := tb_of (List.mem_of_getElem? (i := 901) (by decide +kernel)) rfl
theorem inlX7_22 : u_lay RX7 TX7 22 ∈ TB := tb_of (List.mem_of_getElem? (i := 903) (by decide +kernel)) rfl
theorem inlX7_23 : u_lay RX7 TX7 23 ∈ TB := tb_of (List.mem_of_getElem? (i := 905) (by decide +kernel)) rfl
theorem inlX7_24 : u_lay RX7 TX7 24 ∈ TB := tb_of (List.mem_of_getElem? (i := 907) (by decide +kernel)) rfl
theorem inlX7_25 : u_lay RX7 TX7 25 ∈ TB := tb_of (List.mem_of_getElem? (i := 909) (by decide +kernel)) rfl
theorem inlX7_26 : u_lay RX7 TX7 26 ∈ TB := tb_of (List.mem_of_getElem? (i := 911) (by decide +kernel)) rfl
theorem inlX7_27 : u_lay RX7 TX7 27 ∈ TB := tb_of (List.mem_of_getElem? (i := 913) (by decide +kernel)) rfl
theorem inlX7_28 : u_lay RX7 TX7 28 ∈ TB := tb_of (List.mem_of_getElem? (i := 915) (by decide +kernel)) rfl
theorem inlX7_29 : u_lay RX7 TX7 29 ∈ TB := tb_of (List.mem_of_getElem? (i := 917) (by decide +kernel)) rfl
theorem inlX7_30 : u_lay RX7 TX7 30 ∈ TB := tb_of (List.mem_of_getElem? (i := 919) (by decide +kernel)) rfl
theorem inlX7_31 : u_lay RX7 TX7 31 ∈ TB := tb_of (List.mem_of_getElem? (i := 921) (by decide +kernel)) rfl
theorem inlX7_32 : u_lay RX7 TX7 32 ∈ TB := tb_of (List.mem_of_getElem? (i := 923) (by decide +kernel)) rfl
theorem inlX7_33 : u_lay RX7 TX7 33 ∈ TB := tb_of (List.mem_of_getElem? (i := 925) (by decide +kernel)) rfl
theorem inlX7_34 : u_lay RX7 TX7 34 ∈ TB := tb_of (List.mem_of_getElem? (i := 927) (by decide +kernel)) rfl
theorem inlX7_35 : u_lay RX7 TX7 35 ∈ TB := tb_of (List.mem_of_getElem? (i := 929) (by decide +kernel)) rfl
theorem inlX7_36 : u_lay RX7 TX7 36 ∈ TB := tb_of (List.mem_of_getElem? (i := 931) (by decide +kernel)) rfl
theorem inlX7_37 : u_lay RX7 TX7 37 ∈ TB := tb_of (List.mem_of_getElem? (i := 933) (by decide +kernel)) rfl
theorem inlX7_38 : u_lay RX7 TX7 38 ∈ TB := tb_of (List.mem_of_getElem? (i := 935) (by decide +kernel)) rfl
theorem inlX7_39 : u_lay RX7 TX7 39 ∈ TB := tb_of (List.mem_of_getElem? (i := 937) (by decide +kernel)) rfl
theorem inlX7_40 : u_lay RX7 TX7 40 ∈ TB := tb_of (List.mem_of_getElem? (i := 939) (by decide +kernel)) rfl
theorem inlX7_41 : u_lay RX7 TX7 41 ∈ TB := tb_of (List.mem_of_getElem? (i := 941) (by decide +kernel)) rfl
theorem inlX7_42 : u_lay RX7 TX7 42 ∈ TB := tb_of (List.mem_of_getElem? (i := 943) (by decide +kernel)) rfl
theorem inlX7_43 : u_lay RX7 TX7 43 ∈ TB := tb_of (List.mem_of_getElem? (i := 945) (by decide +kernel)) rfl
theorem inlX7_44 : u_lay RX7 TX7 44 ∈ TB := tb_of (List.mem_of_getElem? (i := 947) (by decide +kernel)) rfl
theorem inlX7_45 : u_lay RX7 TX7 45 ∈ TB := tb_of (List.mem_of_getElem? (i := 949) (by decide +kernel)) rfl
theorem inlX7_46 : u_lay RX7 TX7 46 ∈ TB := tb_of (List.mem_of_getElem? (i := 951) (by decide +kernel)) rfl
theorem inlX7 : ∀ w ∈ u_ws RX7 TX7 47, w ∈ TB := by
  intro w hw
  obtain ⟨k, hk, rfl⟩ := List.mem_map.mp hw
  have hk := List.mem_range.mp hk
  exact match k, hk with
  | 0, _ => inlX7_0
  | 1, _ => inlX7_1
  | 2, _ => inlX7_2
  | 3, _ => inlX7_3
  | 4, _ => inlX7_4
  | 5, _ => inlX7_5
  | 6, _ => inlX7_6
  | 7, _ => inlX7_7
  | 8, _ => inlX7_8
  | 9, _ => inlX7_9
  | 10, _ => inlX7_10
  | 11, _ => inlX7_11
  | 12, _ => inlX7_12
  | 13, _ => inlX7_13
  | 14, _ => inlX7_14
  | 15, _ => inlX7_15
  | 16, _ => inlX7_16
  | 17, _ => inlX7_17
  | 18, _ => inlX7_18
  | 19, _ => inlX7_19
  | 20, _ => inlX7_20
  | 21, _ => inlX7_21
  | 22, _ => inlX7_22
  | 23, _ => inlX7_23
  | 24, _ => inlX7_24
  | 25, _ => inlX7_25
  | 26, _ => inlX7_26
  | 27, _ => inlX7_27
  | 28, _ => inlX7_28
  | 29, _ => inlX7_29
  | 30, _ => inlX7_30
  | 31, _ => inlX7_31
  | 32, _ => inlX7_32
  | 33, _ => inlX7_33
  | 34, _ => inlX7_34
  | 35, _ => inlX7_35
  | 36, _ => inlX7_36
  | 37, _ => inlX7_37
  | 38, _ => inlX7_38
  | 39, _ => inlX7_39
  | 40, _ => inlX7_40
  | 41, _ => inlX7_41
  | 42, _ => inlX7_42
  | 43, _ => inlX7_43
  | 44, _ => inlX7_44
  | 45, _ => inlX7_45
  | 46, _ => inlX7_46
  | n + 47, h => absurd h (by omega)
theorem wd_360 : Cond.static yX6_isWithin ∈ TB := tb_of (List.mem_of_getElem? (i := 360) (by decide +kernel)) rfl
theorem wd_78 : Cond.initialized RX6 ∈ TB := tb_of (List.mem_of_getElem? (i := 78) (by decide +kernel)) rfl
theorem wd_361 : Cond.code yX6_isWithin cX6_isWithin 2 (some .boolean) ∈ TB := tb_of (List.mem_of_getElem? (i := 361) (by decide +kernel)) rfl
theorem nw_isWithin : NW yX6_isWithin cX6_isWithin 2 (some .boolean) 2 := ⟨⟨wd_360, wd_78, wd_361⟩, by decide +kernel, by decide +kernel, by decide +kernel⟩
theorem wd_281 : Cond.fieldLink RX0 9 "ThreeDoors$Acts" "kinds" "[I" ∈ TB := tb_of (List.mem_of_getElem? (i := 281) (by decide +kernel)) rfl
theorem fg_X0_9 : FG RX0 9 0 0 := ⟨RX0, TX0, 6, rfl, inlX0, by decide, wd_281⟩
theorem wd_285 : Cond.fieldLink RX0 18 "ThreeDoors$Acts" "bodies" "I" ∈ TB := tb_of (List.mem_of_getElem? (i := 285) (by decide +kernel)) rfl
theorem fg_X0_18 : FG RX0 18 0 2 := ⟨RX0, TX0, 6, rfl, inlX0, by decide, wd_285⟩
theorem fp_X0_18 : FP RX0 18 0 2 .int := ⟨RX0, TX0, 6, tyX0, rfl, inlX0, by decide, wd_285, tyX0_ok, nmX0, by decide, by decide +kernel⟩
theorem wd_287 : Cond.fieldLink RX0 22 "ThreeDoors$Acts" "began" "I" ∈ TB := tb_of (List.mem_of_getElem? (i := 287) (by decide +kernel)) rfl
theorem fp_X0_22 : FP RX0 22 0 3 .int := ⟨RX0, TX0, 6, tyX0, rfl, inlX0, by decide, wd_287, tyX0_ok, nmX0, by decide, by decide +kernel⟩
theorem wd_289 : Cond.fieldLink RX0 25 "ThreeDoors$Acts" "self" "I" ∈ TB := tb_of (List.mem_of_getElem? (i := 289) (by decide +kernel)) rfl
theorem fp_X0_25 : FP RX0 25 0 4 .int := ⟨RX0, TX0, 6, tyX0, rfl, inlX0, by decide, wd_289, tyX0_ok, nmX0, by decide, by decide +kernel⟩
theorem wd_290 : Cond.fieldLink RX0 28 "ThreeDoors$Acts" "kindOfSelf" "I" ∈ TB := tb_of (List.mem_of_getElem? (i := 290) (by decide +kernel)) rfl
theorem fp_X0_28 : FP RX0 28 0 5 .int := ⟨RX0, TX0, 6, tyX0, rfl, inlX0, by decide, wd_290, tyX0_ok, nmX0, by decide, by decide +kernel⟩
theorem fg_X0_28 : FG RX0 28 0 5 := ⟨RX0, TX0, 6, rfl, inlX0, by decide, wd_290⟩
theorem wd_739 : Cond.methodLink RX0 31 yX0_run ∈ TB := tb_of (List.mem_of_getElem? (i := 739) (by decide +kernel)) rfl
theorem wd_741 : Cond.instanceMethod yX0_run ∈ TB := tb_of (List.mem_of_getElem? (i := 741) (by decide +kernel)) rfl
theorem wd_22 : Cond.selects RX0 yX0_run yX0_run ∈ TB := tb_of (List.mem_of_getElem? (i := 22) (by decide +kernel)) rfl
theorem wd_83 : Cond.initialized RX0 ∈ TB := tb_of (List.mem_of_getElem? (i := 83) (by decide +kernel)) rfl
theorem wd_742 : Cond.code yX0_run cX0_run 9 (some .int) ∈ TB := tb_of (List.mem_of_getElem? (i := 742) (by decide +kernel)) rfl
theorem vw_X0_31 : VW RX0 31 yX0_run cX0_run 9 (some .int) 4 := ⟨⟨wd_739, wd_741, wd_22, wd_83, wd_742⟩, by decide +kernel, by decide +kernel, by decide +kernel⟩
theorem wd_748 : Cond.fieldLink RX0 35 "ThreeDoors$Acts" "ABOVE" "[I" ∈ TB := tb_of (List.mem_of_getElem? (i := 748) (by decide +kernel)) rfl
theorem wd_746 : Cond.fieldLink RX0 38 "ThreeDoors$Acts" "OWN" "[I" ∈ TB := tb_of (List.mem_of_getElem? (i := 746) (by decide +kernel)) rfl
theorem fg_X0_22 : FG RX0 22 0 3 := ⟨RX0, TX0, 6, rfl, inlX0, by decide, wd_287⟩
theorem wd_283 : Cond.fieldLink RX0 15 "ThreeDoors$Acts" "traced" "[I" ∈ TB := tb_of (List.mem_of_getElem? (i := 283) (by decide +kernel)) rfl
theorem fg_X0_15 : FG RX0 15 0 1 := ⟨RX0, TX0, 6, rfl, inlX0, by decide, wd_283⟩
theorem wd_743 : Cond.methodLink RX0 41 yX0_ownerOf ∈ TB := tb_of (List.mem_of_getElem? (i := 743) (by decide +kernel)) rfl
theorem wd_744 : Cond.static yX0_ownerOf ∈ TB := tb_of (List.mem_of_getElem? (i := 744) (by decide +kernel)) rfl
theorem wd_745 : Cond.code yX0_ownerOf cX0_ownerOf 4 (some .int) ∈ TB := tb_of (List.mem_of_getElem? (i := 745) (by decide +kernel)) rfl
theorem sw_X0_41 : SW RX0 41 yX0_ownerOf cX0_ownerOf 4 (some .int) 2 := ⟨⟨wd_743, wd_744, wd_83, wd_745⟩, by decide +kernel, by decide +kernel, by decide +kernel⟩
theorem wd_750 : Cond.methodLink RX0 45 yX0_note ∈ TB := tb_of (List.mem_of_getElem? (i := 750) (by decide +kernel)) rfl
theorem wd_752 : Cond.instanceMethod yX0_note ∈ TB := tb_of (List.mem_of_getElem? (i := 752) (by decide +kernel)) rfl
theorem wd_23 : Cond.selects RX0 yX0_note yX0_note ∈ TB := tb_of (List.mem_of_getElem? (i := 23) (by decide +kernel)) rfl
theorem wd_753 : Cond.code yX0_note cX0_note 2 none ∈ TB := tb_of (List.mem_of_getElem? (i := 753) (by decide +kernel)) rfl
theorem vw_X0_45 : VW RX0 45 yX0_note cX0_note 2 none 1 := ⟨⟨wd_750, wd_752, wd_23, wd_83, wd_753⟩, by decide +kernel, by decide +kernel, by decide +kernel⟩
theorem fg_X0_25 : FG RX0 25 0 4 := ⟨RX0, TX0, 6, rfl, inlX0, by decide, wd_289⟩
theorem wd_258 : Cond.fieldLink RX1 24 "ThreeDoors$Changes" "done" "I" ∈ TB := tb_of (List.mem_of_getElem? (i := 258) (by decide +kernel)) rfl
theorem fg_X1_24 : FG RX1 24 1 4 := ⟨RX1, TX1, 6, rfl, inlX1, by decide, wd_258⟩
theorem wd_442 : Cond.methodLink RX1 28 yX1_forgetFirst ∈ TB := tb_of (List.mem_of_getElem? (i := 442) (by decide +kernel)) rfl
theorem wd_444 : Cond.instanceMethod yX1_forgetFirst ∈ TB := tb_of (List.mem_of_getElem? (i := 444) (by decide +kernel)) rfl
theorem wd_1 : Cond.selects RX1 yX1_forgetFirst yX1_forgetFirst ∈ TB := tb_of (List.mem_of_getElem? (i := 1) (by decide +kernel)) rfl
theorem wd_82 : Cond.initialized RX1 ∈ TB := tb_of (List.mem_of_getElem? (i := 82) (by decide +kernel)) rfl
theorem wd_445 : Cond.code yX1_forgetFirst cX1_forgetFirst 1 none ∈ TB := tb_of (List.mem_of_getElem? (i := 445) (by decide +kernel)) rfl
theorem vw_X1_28 : VW RX1 28 yX1_forgetFirst cX1_forgetFirst 1 none 0 := ⟨⟨wd_442, wd_444, wd_1, wd_82, wd_445⟩, by decide +kernel, by decide +kernel, by decide +kernel⟩
theorem wd_254 : Cond.fieldLink RX1 9 "ThreeDoors$Changes" "what" "[I" ∈ TB := tb_of (List.mem_of_getElem? (i := 254) (by decide +kernel)) rfl
theorem fg_X1_9 : FG RX1 9 1 0 := ⟨RX1, TX1, 6, rfl, inlX1, by decide, wd_254⟩
theorem wd_255 : Cond.fieldLink RX1 15 "ThreeDoors$Changes" "number" "[I" ∈ TB := tb_of (List.mem_of_getElem? (i := 255) (by decide +kernel)) rfl
theorem fg_X1_15 : FG RX1 15 1 1 := ⟨RX1, TX1, 6, rfl, inlX1, by decide, wd_255⟩
theorem wd_256 : Cond.fieldLink RX1 18 "ThreeDoors$Changes" "before" "[I" ∈ TB := tb_of (List.mem_of_getElem? (i := 256) (by decide +kernel)) rfl
theorem fg_X1_18 : FG RX1 18 1 2 := ⟨RX1, TX1, 6, rfl, inlX1, by decide, wd_256⟩
theorem wd_257 : Cond.fieldLink RX1 21 "ThreeDoors$Changes" "after" "[I" ∈ TB := tb_of (List.mem_of_getElem? (i := 257) (by decide +kernel)) rfl
theorem fg_X1_21 : FG RX1 21 1 3 := ⟨RX1, TX1, 6, rfl, inlX1, by decide, wd_257⟩
theorem fp_X1_24 : FP RX1 24 1 4 .int := ⟨RX1, TX1, 6, tyX1, rfl, inlX1, by decide, wd_258, tyX1_ok, nmX1, by decide, by decide +kernel⟩
theorem wd_260 : Cond.fieldLink RX1 31 "ThreeDoors$Changes" "kept" "I" ∈ TB := tb_of (List.mem_of_getElem? (i := 260) (by decide +kernel)) rfl
theorem fp_X1_31 : FP RX1 31 1 5 .int := ⟨RX1, TX1, 6, tyX1, rfl, inlX1, by decide, wd_260, tyX1_ok, nmX1, by decide, by decide +kernel⟩
theorem wd_86 : Cond.initialized "java/lang/System" ∈ TB := tb_of (List.mem_of_getElem? (i := 86) (by decide +kernel)) rfl
theorem wd_446 : Cond.methodLink RX1 34 arraycopyName ∈ TB := tb_of (List.mem_of_getElem? (i := 446) (by decide +kernel)) rfl
theorem wd_448 : Cond.native arraycopyName ∈ TB := tb_of (List.mem_of_getElem? (i := 448) (by decide +kernel)) rfl
theorem wd_447 : Cond.static arraycopyName ∈ TB := tb_of (List.mem_of_getElem? (i := 447) (by decide +kernel)) rfl
theorem ac_X1_34 : Cond.methodLink RX1 34 arraycopyName ∈ TB ∧ Cond.native arraycopyName ∈ TB ∧ Cond.static arraycopyName ∈ TB ∧ Cond.initialized "java/lang/System" ∈ TB := ⟨wd_446, wd_448, wd_447, wd_86⟩
theorem wd_711 : Cond.methodLink RX1 40 yX5_become ∈ TB := tb_of (List.mem_of_getElem? (i := 711) (by decide +kernel)) rfl
theorem wd_435 : Cond.instanceMethod yX5_become ∈ TB := tb_of (List.mem_of_getElem? (i := 435) (by decide +kernel)) rfl
theorem wd_436 : Cond.selects RX5 yX5_become yX5_become ∈ TB := tb_of (List.mem_of_getElem? (i := 436) (by decide +kernel)) rfl
theorem wd_79 : Cond.initialized RX5 ∈ TB := tb_of (List.mem_of_getElem? (i := 79) (by decide +kernel)) rfl
theorem wd_437 : Cond.code yX5_become cX5_become 6 (some .int) ∈ TB := tb_of (List.mem_of_getElem? (i := 437) (by decide +kernel)) rfl
theorem vw_X1_40 : VW RX1 40 yX5_become cX5_become 6 (some .int) 3 := ⟨⟨wd_711, wd_435, wd_436, wd_79, wd_437⟩, by decide +kernel, by decide +kernel, by decide +kernel⟩
theorem fg_X1_31 : FG RX1 31 1 5 := ⟨RX1, TX1, 6, rfl, inlX1, by decide, wd_260⟩
theorem wd_159 : Cond.fieldLink RX2 15 "ThreeDoors$Law" "text" "[B" ∈ TB := tb_of (List.mem_of_getElem? (i := 159) (by decide +kernel)) rfl
theorem fg_X2_15 : FG RX2 15 2 1 := ⟨RX2, TX2, 13, rfl, inlX2, by decide, wd_159⟩
theorem wd_163 : Cond.fieldLink RX2 18 "ThreeDoors$Law" "read" "[B" ∈ TB := tb_of (List.mem_of_getElem? (i := 163) (by decide +kernel)) rfl
theorem fp_X2_18 : FP RX2 18 2 4 (.array .byte) := ⟨RX2, TX2, 13, tyX2, rfl, inlX2, by decide, wd_163, tyX2_ok, nmX2, by decide, by decide +kernel⟩
theorem wd_158 : Cond.fieldLink RX2 9 "ThreeDoors$Law" "tape" "[B" ∈ TB := tb_of (List.mem_of_getElem? (i := 158) (by decide +kernel)) rfl
theorem fg_X2_9 : FG RX2 9 2 0 := ⟨RX2, TX2, 13, rfl, inlX2, by decide, wd_158⟩
theorem wd_160 : Cond.fieldLink RX2 21 "ThreeDoors$Law" "fed" "I" ∈ TB := tb_of (List.mem_of_getElem? (i := 160) (by decide +kernel)) rfl
theorem fg_X2_21 : FG RX2 21 2 2 := ⟨RX2, TX2, 13, rfl, inlX2, by decide, wd_160⟩
theorem fp_X2_21 : FP RX2 21 2 2 .int := ⟨RX2, TX2, 13, tyX2, rfl, inlX2, by decide, wd_160, tyX2_ok, nmX2, by decide, by decide +kernel⟩
theorem wd_470 : Cond.methodLink RX2 25 yX2_worked ∈ TB := tb_of (List.mem_of_getElem? (i := 470) (by decide +kernel)) rfl
theorem wd_472 : Cond.instanceMethod yX2_worked ∈ TB := tb_of (List.mem_of_getElem? (i := 472) (by decide +kernel)) rfl
theorem wd_3 : Cond.selects RX2 yX2_worked yX2_worked ∈ TB := tb_of (List.mem_of_getElem? (i := 3) (by decide +kernel)) rfl
theorem wd_80 : Cond.initialized RX2 ∈ TB := tb_of (List.mem_of_getElem? (i := 80) (by decide +kernel)) rfl
theorem wd_473 : Cond.code yX2_worked cX2_worked 10 (some .int) ∈ TB := tb_of (List.mem_of_getElem? (i := 473) (by decide +kernel)) rfl
theorem vw_X2_25 : VW RX2 25 yX2_worked cX2_worked 10 (some .int) 2 := ⟨⟨wd_470, wd_472, wd_3, wd_80, wd_473⟩, by decide +kernel, by decide +kernel, by decide +kernel⟩
theorem wd_166 : Cond.fieldLink RX2 29 "ThreeDoors$Law" "fault" "I" ∈ TB := tb_of (List.mem_of_getElem? (i := 166) (by decide +kernel)) rfl
theorem fg_X2_29 : FG RX2 29 2 7 := ⟨RX2, TX2, 13, rfl, inlX2, by decide, wd_166⟩
theorem wd_530 : Cond.methodLink RX2 32 arraycopyName ∈ TB := tb_of (List.mem_of_getElem? (i := 530) (by decide +kernel)) rfl
theorem ac_X2_32 : Cond.methodLink RX2 32 arraycopyName ∈ TB ∧ Cond.native arraycopyName ∈ TB ∧ Cond.static arraycopyName ∈ TB ∧ Cond.initialized "java/lang/System" ∈ TB := ⟨wd_530, wd_448, wd_447, wd_86⟩
theorem wd_162 : Cond.fieldLink RX2 38 "ThreeDoors$Law" "length" "I" ∈ TB := tb_of (List.mem_of_getElem? (i := 162) (by decide +kernel)) rfl
theorem fp_X2_38 : FP RX2 38 2 3 .int := ⟨RX2, TX2, 13, tyX2, rfl, inlX2, by decide, wd_162, tyX2_ok, nmX2, by decide, by decide +kernel⟩
theorem fg_X2_38 : FG RX2 38 2 3 := ⟨RX2, TX2, 13, rfl, inlX2, by decide, wd_162⟩
theorem wd_167 : Cond.fieldLink RX2 41 "ThreeDoors$Law" "d" "I" ∈ TB := tb_of (List.mem_of_getElem? (i := 167) (by decide +kernel)) rfl
theorem fp_X2_41 : FP RX2 41 2 8 .int := ⟨RX2, TX2, 13, tyX2, rfl, inlX2, by decide, wd_167, tyX2_ok, nmX2, by decide, by decide +kernel⟩
theorem wd_104 : Cond.fieldLink RX2 44 "ThreeDoors$Town" "price" "[I" ∈ TB := tb_of (List.mem_of_getElem? (i := 104) (by decide +kernel)) rfl
theorem fg_X2_44 : FG RX2 44 5 0 := ⟨RX5, TX5, 10, rfl, inlX5, by decide, wd_104⟩
theorem wd_168 : Cond.fieldLink RX2 50 "ThreeDoors$Law" "p" "I" ∈ TB := tb_of (List.mem_of_getElem? (i := 168) (by decide +kernel)) rfl
theorem fp_X2_50 : FP RX2 50 2 9 .int := ⟨RX2, TX2, 13, tyX2, rfl, inlX2, by decide, wd_168, tyX2_ok, nmX2, by decide, by decide +kernel⟩
theorem wd_108 : Cond.fieldLink RX2 53 "ThreeDoors$Town" "year" "[I" ∈ TB := tb_of (List.mem_of_getElem? (i := 108) (by decide +kernel)) rfl
theorem fg_X2_53 : FG RX2 53 5 1 := ⟨RX5, TX5, 10, rfl, inlX5, by decide, wd_108⟩
theorem wd_169 : Cond.fieldLink RX2 56 "ThreeDoors$Law" "y" "I" ∈ TB := tb_of (List.mem_of_getElem? (i := 169) (by decide +kernel)) rfl
theorem fp_X2_56 : FP RX2 56 2 10 .int := ⟨RX2, TX2, 13, tyX2, rfl, inlX2, by decide, wd_169, tyX2_ok, nmX2, by decide, by decide +kernel⟩
theorem wd_469 : Cond.methodLink RX2 59 yX5_joinsAt ∈ TB := tb_of (List.mem_of_getElem? (i := 469) (by decide +kernel)) rfl
theorem wd_459 : Cond.instanceMethod yX5_joinsAt ∈ TB := tb_of (List.mem_of_getElem? (i := 459) (by decide +kernel)) rfl
theorem wd_460 : Cond.selects RX5 yX5_joinsAt yX5_joinsAt ∈ TB := tb_of (List.mem_of_getElem? (i := 460) (by decide +kernel)) rfl
theorem wd_461 : Cond.code yX5_joinsAt cX5_joinsAt 5 (some .int) ∈ TB := tb_of (List.mem_of_getElem? (i := 461) (by decide +kernel)) rfl
theorem vw_X2_59 : VW RX2 59 yX5_joinsAt cX5_joinsAt 5 (some .int) 2 := ⟨⟨wd_469, wd_459, wd_460, wd_79, wd_461⟩, by decide +kernel, by decide +kernel, by decide +kernel⟩
theorem wd_170 : Cond.fieldLink RX2 63 "ThreeDoors$Law" "j" "I" ∈ TB := tb_of (List.mem_of_getElem? (i := 170) (by decide +kernel)) rfl
theorem fp_X2_63 : FP RX2 63 2 11 .int := ⟨RX2, TX2, 13, tyX2, rfl, inlX2, by decide, wd_170, tyX2_ok, nmX2, by decide, by decide +kernel⟩
theorem wd_171 : Cond.fieldLink RX2 66 "ThreeDoors$Law" "o" "I" ∈ TB := tb_of (List.mem_of_getElem? (i := 171) (by decide +kernel)) rfl
theorem fp_X2_66 : FP RX2 66 2 12 .int := ⟨RX2, TX2, 13, tyX2, rfl, inlX2, by decide, wd_171, tyX2_ok, nmX2, by decide, by decide +kernel⟩
theorem wd_87 : Cond.initialized "java/lang/Math" ∈ TB := tb_of (List.mem_of_getElem? (i := 87) (by decide +kernel)) rfl
theorem wd_507 : Cond.methodLink RX2 69 Lib.Math.min.name ∈ TB := tb_of (List.mem_of_getElem? (i := 507) (by decide +kernel)) rfl
theorem wd_508 : Cond.static Lib.Math.min.name ∈ TB := tb_of (List.mem_of_getElem? (i := 508) (by decide +kernel)) rfl
theorem wd_509 : Cond.code Lib.Math.min.name Lib.Math.min.code 2 (some .int) ∈ TB := tb_of (List.mem_of_getElem? (i := 509) (by decide +kernel)) rfl
theorem mm_X2_69 : SW RX2 69 Lib.Math.min.name Lib.Math.min.code 2 (some .int) 2 := ⟨⟨wd_507, wd_508, wd_87, wd_509⟩, by decide +kernel, by decide +kernel, by decide +kernel⟩
theorem wd_510 : Cond.methodLink RX2 74 Lib.Math.max.name ∈ TB := tb_of (List.mem_of_getElem? (i := 510) (by decide +kernel)) rfl
theorem wd_511 : Cond.static Lib.Math.max.name ∈ TB := tb_of (List.mem_of_getElem? (i := 511) (by decide +kernel)) rfl
theorem wd_512 : Cond.code Lib.Math.max.name Lib.Math.max.code 2 (some .int) ∈ TB := tb_of (List.mem_of_getElem? (i := 512) (by decide +kernel)) rfl
theorem mm_X2_74 : SW RX2 74 Lib.Math.max.name Lib.Math.max.code 2 (some .int) 2 := ⟨⟨wd_510, wd_511, wd_87, wd_512⟩, by decide +kernel, by decide +kernel, by decide +kernel⟩
theorem wd_164 : Cond.fieldLink RX2 77 "ThreeDoors$Law" "end" "I" ∈ TB := tb_of (List.mem_of_getElem? (i := 164) (by decide +kernel)) rfl
theorem fp_X2_77 : FP RX2 77 2 5 .int := ⟨RX2, TX2, 13, tyX2, rfl, inlX2, by decide, wd_164, tyX2_ok, nmX2, by decide, by decide +kernel⟩
theorem wd_165 : Cond.fieldLink RX2 80 "ThreeDoors$Law" "at" "I" ∈ TB := tb_of (List.mem_of_getElem? (i := 165) (by decide +kernel)) rfl
theorem fp_X2_80 : FP RX2 80 2 6 .int := ⟨RX2, TX2, 13, tyX2, rfl, inlX2, by decide, wd_165, tyX2_ok, nmX2, by decide, by decide +kernel⟩
theorem fp_X2_29 : FP RX2 29 2 7 .int := ⟨RX2, TX2, 13, tyX2, rfl, inlX2, by decide, wd_166, tyX2_ok, nmX2, by decide, by decide +kernel⟩
theorem wd_474 : Cond.methodLink RX2 83 yX2_ranked ∈ TB := tb_of (List.mem_of_getElem? (i := 474) (by decide +kernel)) rfl
theorem wd_476 : Cond.instanceMethod yX2_ranked ∈ TB := tb_of (List.mem_of_getElem? (i := 476) (by decide +kernel)) rfl
theorem wd_4 : Cond.selects RX2 yX2_ranked yX2_ranked ∈ TB := tb_of (List.mem_of_getElem? (i := 4) (by decide +kernel)) rfl
theorem wd_477 : Cond.code yX2_ranked cX2_ranked 7 (some .int) ∈ TB := tb_of (List.mem_of_getElem? (i := 477) (by decide +kernel)) rfl
theorem vw_X2_83 : VW RX2 83 yX2_ranked cX2_ranked 7 (some .int) 2 := ⟨⟨wd_474, wd_476, wd_4, wd_80, wd_477⟩, by decide +kernel, by decide +kernel, by decide +kernel⟩
theorem wd_482 : Cond.methodLink RX2 86 yX2_next ∈ TB := tb_of (List.mem_of_getElem? (i := 482) (by decide +kernel)) rfl
theorem wd_484 : Cond.instanceMethod yX2_next ∈ TB := tb_of (List.mem_of_getElem? (i := 484) (by decide +kernel)) rfl
theorem wd_6 : Cond.selects RX2 yX2_next yX2_next ∈ TB := tb_of (List.mem_of_getElem? (i := 6) (by decide +kernel)) rfl
theorem wd_485 : Cond.code yX2_next cX2_next 1 (some .int) ∈ TB := tb_of (List.mem_of_getElem? (i := 485) (by decide +kernel)) rfl
theorem vw_X2_86 : VW RX2 86 yX2_next cX2_next 1 (some .int) 0 := ⟨⟨wd_482, wd_484, wd_6, wd_80, wd_485⟩, by decide +kernel, by decide +kernel, by decide +kernel⟩
theorem fg_X2_80 : FG RX2 80 2 6 := ⟨RX2, TX2, 13, rfl, inlX2, by decide, wd_165⟩
theorem fg_X2_77 : FG RX2 77 2 5 := ⟨RX2, TX2, 13, rfl, inlX2, by decide, wd_164⟩
theorem wd_497 : Cond.methodLink RX2 90 yX2_broken ∈ TB := tb_of (List.mem_of_getElem? (i := 497) (by decide +kernel)) rfl
theorem wd_499 : Cond.instanceMethod yX2_broken ∈ TB := tb_of (List.mem_of_getElem? (i := 499) (by decide +kernel)) rfl
theorem wd_9 : Cond.selects RX2 yX2_broken yX2_broken ∈ TB := tb_of (List.mem_of_getElem? (i := 9) (by decide +kernel)) rfl
theorem wd_500 : Cond.code yX2_broken cX2_broken 1 (some .int) ∈ TB := tb_of (List.mem_of_getElem? (i := 500) (by decide +kernel)) rfl
theorem vw_X2_90 : VW RX2 90 yX2_broken cX2_broken 1 (some .int) 0 := ⟨⟨wd_497, wd_499, wd_9, wd_80, wd_500⟩, by decide +kernel, by decide +kernel, by decide +kernel⟩
theorem fg_X2_18 : FG RX2 18 2 4 := ⟨RX2, TX2, 13, rfl, inlX2, by decide, wd_163⟩
theorem wd_478 : Cond.methodLink RX2 93 yX2_operand ∈ TB := tb_of (List.mem_of_getElem? (i := 478) (by decide +kernel)) rfl
theorem wd_480 : Cond.instanceMethod yX2_operand ∈ TB := tb_of (List.mem_of_getElem? (i := 480) (by decide +kernel)) rfl
theorem wd_5 : Cond.selects RX2 yX2_operand yX2_operand ∈ TB := tb_of (List.mem_of_getElem? (i := 5) (by decide +kernel)) rfl
theorem wd_481 : Cond.code yX2_operand cX2_operand 4 (some .int) ∈ TB := tb_of (List.mem_of_getElem? (i := 481) (by decide +kernel)) rfl
theorem vw_X2_93 : VW RX2 93 yX2_operand cX2_operand 4 (some .int) 1 := ⟨⟨wd_478, wd_480, wd_5, wd_80, wd_481⟩, by decide +kernel, by decide +kernel, by decide +kernel⟩
theorem wd_501 : Cond.methodLink RX2 97 yX2_rankOf ∈ TB := tb_of (List.mem_of_getElem? (i := 501) (by decide +kernel)) rfl
theorem wd_502 : Cond.static yX2_rankOf ∈ TB := tb_of (List.mem_of_getElem? (i := 502) (by decide +kernel)) rfl
theorem wd_503 : Cond.code yX2_rankOf cX2_rankOf 1 (some .int) ∈ TB := tb_of (List.mem_of_getElem? (i := 503) (by decide +kernel)) rfl
theorem sw_X2_97 : SW RX2 97 yX2_rankOf cX2_rankOf 1 (some .int) 1 := ⟨⟨wd_501, wd_502, wd_80, wd_503⟩, by decide +kernel, by decide +kernel, by decide +kernel⟩
theorem wd_504 : Cond.methodLink RX2 100 yX2_joined ∈ TB := tb_of (List.mem_of_getElem? (i := 504) (by decide +kernel)) rfl
theorem wd_505 : Cond.static yX2_joined ∈ TB := tb_of (List.mem_of_getElem? (i := 505) (by decide +kernel)) rfl
theorem wd_506 : Cond.code yX2_joined cX2_joined 3 (some .int) ∈ TB := tb_of (List.mem_of_getElem? (i := 506) (by decide +kernel)) rfl
theorem sw_X2_100 : SW RX2 100 yX2_joined cX2_joined 3 (some .int) 3 := ⟨⟨wd_504, wd_505, wd_80, wd_506⟩, by decide +kernel, by decide +kernel, by decide +kernel⟩
theorem wd_486 : Cond.methodLink RX2 104 yX2_isDigit ∈ TB := tb_of (List.mem_of_getElem? (i := 486) (by decide +kernel)) rfl
theorem wd_487 : Cond.static yX2_isDigit ∈ TB := tb_of (List.mem_of_getElem? (i := 487) (by decide +kernel)) rfl
theorem wd_488 : Cond.code yX2_isDigit cX2_isDigit 1 (some .boolean) ∈ TB := tb_of (List.mem_of_getElem? (i := 488) (by decide +kernel)) rfl
theorem sw_X2_104 : SW RX2 104 yX2_isDigit cX2_isDigit 1 (some .boolean) 1 := ⟨⟨wd_486, wd_487, wd_80, wd_488⟩, by decide +kernel, by decide +kernel, by decide +kernel⟩
theorem wd_489 : Cond.methodLink RX2 108 yX2_number ∈ TB := tb_of (List.mem_of_getElem? (i := 489) (by decide +kernel)) rfl
theorem wd_491 : Cond.instanceMethod yX2_number ∈ TB := tb_of (List.mem_of_getElem? (i := 491) (by decide +kernel)) rfl
theorem wd_7 : Cond.selects RX2 yX2_number yX2_number ∈ TB := tb_of (List.mem_of_getElem? (i := 7) (by decide +kernel)) rfl
theorem wd_492 : Cond.code yX2_number cX2_number 3 (some .int) ∈ TB := tb_of (List.mem_of_getElem? (i := 492) (by decide +kernel)) rfl
theorem vw_X2_108 : VW RX2 108 yX2_number cX2_number 3 (some .int) 0 := ⟨⟨wd_489, wd_491, wd_7, wd_80, wd_492⟩, by decide +kernel, by decide +kernel, by decide +kernel⟩
theorem wd_493 : Cond.methodLink RX2 111 yX2_named ∈ TB := tb_of (List.mem_of_getElem? (i := 493) (by decide +kernel)) rfl
theorem wd_495 : Cond.instanceMethod yX2_named ∈ TB := tb_of (List.mem_of_getElem? (i := 495) (by decide +kernel)) rfl
theorem wd_8 : Cond.selects RX2 yX2_named yX2_named ∈ TB := tb_of (List.mem_of_getElem? (i := 8) (by decide +kernel)) rfl
theorem wd_496 : Cond.code yX2_named cX2_named 3 (some .int) ∈ TB := tb_of (List.mem_of_getElem? (i := 496) (by decide +kernel)) rfl
theorem vw_X2_111 : VW RX2 111 yX2_named cX2_named 3 (some .int) 1 := ⟨⟨wd_493, wd_495, wd_8, wd_80, wd_496⟩, by decide +kernel, by decide +kernel, by decide +kernel⟩
theorem fg_X2_41 : FG RX2 41 2 8 := ⟨RX2, TX2, 13, rfl, inlX2, by decide, wd_167⟩
theorem fg_X2_50 : FG RX2 50 2 9 := ⟨RX2, TX2, 13, rfl, inlX2, by decide, wd_168⟩
theorem fg_X2_56 : FG RX2 56 2 10 := ⟨RX2, TX2, 13, rfl, inlX2, by decide, wd_169⟩
theorem fg_X2_63 : FG RX2 63 2 11 := ⟨RX2, TX2, 13, rfl, inlX2, by decide, wd_170⟩
theorem fg_X2_66 : FG RX2 66 2 12 := ⟨RX2, TX2, 13, rfl, inlX2, by decide, wd_171⟩
theorem wd_218 : Cond.fieldLink RX3 41 "ThreeDoors$Plan" "there" "I" ∈ TB := tb_of (List.mem_of_getElem? (i := 218) (by decide +kernel)) rfl
theorem fp_X3_41 : FP RX3 41 3 9 .int := ⟨RX3, TX3, 12, tyX3, rfl, inlX3, by decide, wd_218, tyX3_ok, nmX3, by decide, by decide +kernel⟩
theorem wd_220 : Cond.fieldLink RX3 45 "ThreeDoors$Plan" "must" "I" ∈ TB := tb_of (List.mem_of_getElem? (i := 220) (by decide +kernel)) rfl
theorem fp_X3_45 : FP RX3 45 3 10 .int := ⟨RX3, TX3, 12, tyX3, rfl, inlX3, by decide, wd_220, tyX3_ok, nmX3, by decide, by decide +kernel⟩
theorem fg_X3_45 : FG RX3 45 3 10 := ⟨RX3, TX3, 12, rfl, inlX3, by decide, wd_220⟩
theorem wd_544 : Cond.methodLink RX3 48 yX5_soil ∈ TB := tb_of (List.mem_of_getElem? (i := 544) (by decide +kernel)) rfl
theorem wd_545 : Cond.instanceMethod yX5_soil ∈ TB := tb_of (List.mem_of_getElem? (i := 545) (by decide +kernel)) rfl
theorem wd_546 : Cond.selects RX5 yX5_soil yX5_soil ∈ TB := tb_of (List.mem_of_getElem? (i := 546) (by decide +kernel)) rfl
theorem wd_547 : Cond.code yX5_soil cX5_soil 3 (some .int) ∈ TB := tb_of (List.mem_of_getElem? (i := 547) (by decide +kernel)) rfl
theorem vw_X3_48 : VW RX3 48 yX5_soil cX5_soil 3 (some .int) 0 := ⟨⟨wd_544, wd_545, wd_546, wd_79, wd_547⟩, by decide +kernel, by decide +kernel, by decide +kernel⟩
theorem wd_221 : Cond.fieldLink RX3 54 "ThreeDoors$Plan" "can" "I" ∈ TB := tb_of (List.mem_of_getElem? (i := 221) (by decide +kernel)) rfl
theorem fp_X3_54 : FP RX3 54 3 11 .int := ⟨RX3, TX3, 12, tyX3, rfl, inlX3, by decide, wd_221, tyX3_ok, nmX3, by decide, by decide +kernel⟩
theorem wd_210 : Cond.fieldLink RX3 16 "ThreeDoors$Plan" "beside" "[I" ∈ TB := tb_of (List.mem_of_getElem? (i := 210) (by decide +kernel)) rfl
theorem fg_X3_16 : FG RX3 16 3 1 := ⟨RX3, TX3, 12, rfl, inlX3, by decide, wd_210⟩
theorem wd_211 : Cond.fieldLink RX3 20 "ThreeDoors$Plan" "reach" "[I" ∈ TB := tb_of (List.mem_of_getElem? (i := 211) (by decide +kernel)) rfl
theorem fg_X3_20 : FG RX3 20 3 2 := ⟨RX3, TX3, 12, rfl, inlX3, by decide, wd_211⟩
theorem wd_548 : Cond.methodLink RX3 57 yX3_isThere ∈ TB := tb_of (List.mem_of_getElem? (i := 548) (by decide +kernel)) rfl
theorem wd_550 : Cond.instanceMethod yX3_isThere ∈ TB := tb_of (List.mem_of_getElem? (i := 550) (by decide +kernel)) rfl
theorem wd_11 : Cond.selects RX3 yX3_isThere yX3_isThere ∈ TB := tb_of (List.mem_of_getElem? (i := 11) (by decide +kernel)) rfl
theorem wd_81 : Cond.initialized RX3 ∈ TB := tb_of (List.mem_of_getElem? (i := 81) (by decide +kernel)) rfl
theorem wd_551 : Cond.code yX3_isThere cX3_isThere 2 (some .boolean) ∈ TB := tb_of (List.mem_of_getElem? (i := 551) (by decide +kernel)) rfl
theorem vw_X3_57 : VW RX3 57 yX3_isThere cX3_isThere 2 (some .boolean) 1 := ⟨⟨wd_548, wd_550, wd_11, wd_81, wd_551⟩, by decide +kernel, by decide +kernel, by decide +kernel⟩
theorem wd_552 : Cond.methodLink RX3 61 yX2_reachOf ∈ TB := tb_of (List.mem_of_getElem? (i := 552) (by decide +kernel)) rfl
theorem wd_466 : Cond.instanceMethod yX2_reachOf ∈ TB := tb_of (List.mem_of_getElem? (i := 466) (by decide +kernel)) rfl
theorem wd_467 : Cond.selects RX2 yX2_reachOf yX2_reachOf ∈ TB := tb_of (List.mem_of_getElem? (i := 467) (by decide +kernel)) rfl
theorem wd_468 : Cond.code yX2_reachOf cX2_reachOf 5 (some .int) ∈ TB := tb_of (List.mem_of_getElem? (i := 468) (by decide +kernel)) rfl
theorem vw_X3_61 : VW RX3 61 yX2_reachOf cX2_reachOf 5 (some .int) 4 := ⟨⟨wd_552, wd_466, wd_467, wd_80, wd_468⟩, by decide +kernel, by decide +kernel, by decide +kernel⟩
theorem wd_121 : Cond.fieldLink RX3 67 "ThreeDoors$Town" "joins" "I" ∈ TB := tb_of (List.mem_of_getElem? (i := 121) (by decide +kernel)) rfl
theorem fg_X3_67 : FG RX3 67 5 6 := ⟨RX5, TX5, 10, rfl, inlX5, by decide, wd_121⟩
theorem wd_111 : Cond.fieldLink RX3 70 "ThreeDoors$Town" "joinEnds" "[I" ∈ TB := tb_of (List.mem_of_getElem? (i := 111) (by decide +kernel)) rfl
theorem fg_X3_70 : FG RX3 70 5 2 := ⟨RX5, TX5, 10, rfl, inlX5, by decide, wd_111⟩
theorem wd_553 : Cond.methodLink RX3 73 yX3_link ∈ TB := tb_of (List.mem_of_getElem? (i := 553) (by decide +kernel)) rfl
theorem wd_555 : Cond.instanceMethod yX3_link ∈ TB := tb_of (List.mem_of_getElem? (i := 555) (by decide +kernel)) rfl
theorem wd_12 : Cond.selects RX3 yX3_link yX3_link ∈ TB := tb_of (List.mem_of_getElem? (i := 12) (by decide +kernel)) rfl
theorem wd_556 : Cond.code yX3_link cX3_link 4 none ∈ TB := tb_of (List.mem_of_getElem? (i := 556) (by decide +kernel)) rfl
theorem vw_X3_73 : VW RX3 73 yX3_link cX3_link 4 none 1 := ⟨⟨wd_553, wd_555, wd_12, wd_81, wd_556⟩, by decide +kernel, by decide +kernel, by decide +kernel⟩
theorem wd_557 : Cond.methodLink RX3 77 yX5_isWall ∈ TB := tb_of (List.mem_of_getElem? (i := 557) (by decide +kernel)) rfl
theorem wd_431 : Cond.instanceMethod yX5_isWall ∈ TB := tb_of (List.mem_of_getElem? (i := 431) (by decide +kernel)) rfl
theorem wd_432 : Cond.selects RX5 yX5_isWall yX5_isWall ∈ TB := tb_of (List.mem_of_getElem? (i := 432) (by decide +kernel)) rfl
theorem wd_433 : Cond.code yX5_isWall cX5_isWall 2 (some .boolean) ∈ TB := tb_of (List.mem_of_getElem? (i := 433) (by decide +kernel)) rfl
theorem vw_X3_77 : VW RX3 77 yX5_isWall cX5_isWall 2 (some .boolean) 1 := ⟨⟨wd_557, wd_431, wd_432, wd_79, wd_433⟩, by decide +kernel, by decide +kernel, by decide +kernel⟩
theorem wd_114 : Cond.fieldLink RX3 80 "ThreeDoors$Town" "wallEnds" "[I" ∈ TB := tb_of (List.mem_of_getElem? (i := 114) (by decide +kernel)) rfl
theorem fg_X3_80 : FG RX3 80 5 3 := ⟨RX5, TX5, 10, rfl, inlX5, by decide, wd_114⟩
theorem wd_558 : Cond.methodLink RX3 83 yX3_walk ∈ TB := tb_of (List.mem_of_getElem? (i := 558) (by decide +kernel)) rfl
theorem wd_560 : Cond.instanceMethod yX3_walk ∈ TB := tb_of (List.mem_of_getElem? (i := 560) (by decide +kernel)) rfl
theorem wd_13 : Cond.selects RX3 yX3_walk yX3_walk ∈ TB := tb_of (List.mem_of_getElem? (i := 13) (by decide +kernel)) rfl
theorem wd_561 : Cond.code yX3_walk cX3_walk 7 none ∈ TB := tb_of (List.mem_of_getElem? (i := 561) (by decide +kernel)) rfl
theorem vw_X3_83 : VW RX3 83 yX3_walk cX3_walk 7 none 1 := ⟨⟨wd_558, wd_560, wd_13, wd_81, wd_561⟩, by decide +kernel, by decide +kernel, by decide +kernel⟩
theorem wd_128 : Cond.fieldLink RX3 86 "ThreeDoors$Town" "apart" "I" ∈ TB := tb_of (List.mem_of_getElem? (i := 128) (by decide +kernel)) rfl
theorem fg_X3_86 : FG RX3 86 5 9 := ⟨RX5, TX5, 10, rfl, inlX5, by decide, wd_128⟩
theorem wd_562 : Cond.methodLink RX3 89 yX3_measure ∈ TB := tb_of (List.mem_of_getElem? (i := 562) (by decide +kernel)) rfl
theorem wd_564 : Cond.instanceMethod yX3_measure ∈ TB := tb_of (List.mem_of_getElem? (i := 564) (by decide +kernel)) rfl
theorem wd_14 : Cond.selects RX3 yX3_measure yX3_measure ∈ TB := tb_of (List.mem_of_getElem? (i := 14) (by decide +kernel)) rfl
theorem wd_565 : Cond.code yX3_measure cX3_measure 4 none ∈ TB := tb_of (List.mem_of_getElem? (i := 565) (by decide +kernel)) rfl
theorem vw_X3_89 : VW RX3 89 yX3_measure cX3_measure 4 none 2 := ⟨⟨wd_562, wd_564, wd_14, wd_81, wd_565⟩, by decide +kernel, by decide +kernel, by decide +kernel⟩
theorem wd_212 : Cond.fieldLink RX3 23 "ThreeDoors$Plan" "serves" "[I" ∈ TB := tb_of (List.mem_of_getElem? (i := 212) (by decide +kernel)) rfl
theorem fg_X3_23 : FG RX3 23 3 3 := ⟨RX3, TX3, 12, rfl, inlX3, by decide, wd_212⟩
theorem wd_214 : Cond.fieldLink RX3 29 "ThreeDoors$Plan" "servedLow" "[I" ∈ TB := tb_of (List.mem_of_getElem? (i := 214) (by decide +kernel)) rfl
theorem fg_X3_29 : FG RX3 29 3 5 := ⟨RX3, TX3, 12, rfl, inlX3, by decide, wd_214⟩
theorem wd_566 : Cond.methodLink RX3 93 yX3_gather ∈ TB := tb_of (List.mem_of_getElem? (i := 566) (by decide +kernel)) rfl
theorem wd_567 : Cond.static yX3_gather ∈ TB := tb_of (List.mem_of_getElem? (i := 567) (by decide +kernel)) rfl
theorem wd_568 : Cond.code yX3_gather cX3_gather 5 none ∈ TB := tb_of (List.mem_of_getElem? (i := 568) (by decide +kernel)) rfl
theorem sw_X3_93 : SW RX3 93 yX3_gather cX3_gather 5 none 3 := ⟨⟨wd_566, wd_567, wd_81, wd_568⟩, by decide +kernel, by decide +kernel, by decide +kernel⟩
theorem wd_215 : Cond.fieldLink RX3 32 "ThreeDoors$Plan" "servedHigh" "[I" ∈ TB := tb_of (List.mem_of_getElem? (i := 215) (by decide +kernel)) rfl
theorem fg_X3_32 : FG RX3 32 3 6 := ⟨RX3, TX3, 12, rfl, inlX3, by decide, wd_215⟩
theorem wd_213 : Cond.fieldLink RX3 26 "ThreeDoors$Plan" "crowds" "[I" ∈ TB := tb_of (List.mem_of_getElem? (i := 213) (by decide +kernel)) rfl
theorem fg_X3_26 : FG RX3 26 3 4 := ⟨RX3, TX3, 12, rfl, inlX3, by decide, wd_213⟩
theorem wd_216 : Cond.fieldLink RX3 35 "ThreeDoors$Plan" "crowdedLow" "[I" ∈ TB := tb_of (List.mem_of_getElem? (i := 216) (by decide +kernel)) rfl
theorem fg_X3_35 : FG RX3 35 3 7 := ⟨RX3, TX3, 12, rfl, inlX3, by decide, wd_216⟩
theorem wd_217 : Cond.fieldLink RX3 38 "ThreeDoors$Plan" "crowdedHigh" "[I" ∈ TB := tb_of (List.mem_of_getElem? (i := 217) (by decide +kernel)) rfl
theorem fg_X3_38 : FG RX3 38 3 8 := ⟨RX3, TX3, 12, rfl, inlX3, by decide, wd_217⟩
theorem fg_X3_41 : FG RX3 41 3 9 := ⟨RX3, TX3, 12, rfl, inlX3, by decide, wd_218⟩
theorem wd_208 : Cond.fieldLink RX3 13 "ThreeDoors$Plan" "away" "[[I" ∈ TB := tb_of (List.mem_of_getElem? (i := 208) (by decide +kernel)) rfl
theorem fg_X3_13 : FG RX3 13 3 0 := ⟨RX3, TX3, 12, rfl, inlX3, by decide, wd_208⟩
theorem wd_581 : Cond.methodLink RX3 97 yX3_served ∈ TB := tb_of (List.mem_of_getElem? (i := 581) (by decide +kernel)) rfl
theorem wd_583 : Cond.instanceMethod yX3_served ∈ TB := tb_of (List.mem_of_getElem? (i := 583) (by decide +kernel)) rfl
theorem wd_15 : Cond.selects RX3 yX3_served yX3_served ∈ TB := tb_of (List.mem_of_getElem? (i := 15) (by decide +kernel)) rfl
theorem wd_584 : Cond.code yX3_served cX3_served 2 (some .int) ∈ TB := tb_of (List.mem_of_getElem? (i := 584) (by decide +kernel)) rfl
theorem vw_X3_97 : VW RX3 97 yX3_served cX3_served 2 (some .int) 1 := ⟨⟨wd_581, wd_583, wd_15, wd_81, wd_584⟩, by decide +kernel, by decide +kernel, by decide +kernel⟩
theorem wd_601 : Cond.methodLink RX3 101 yX3_crowded ∈ TB := tb_of (List.mem_of_getElem? (i := 601) (by decide +kernel)) rfl
theorem wd_603 : Cond.instanceMethod yX3_crowded ∈ TB := tb_of (List.mem_of_getElem? (i := 603) (by decide +kernel)) rfl
theorem wd_16 : Cond.selects RX3 yX3_crowded yX3_crowded ∈ TB := tb_of (List.mem_of_getElem? (i := 16) (by decide +kernel)) rfl
theorem wd_604 : Cond.code yX3_crowded cX3_crowded 2 (some .int) ∈ TB := tb_of (List.mem_of_getElem? (i := 604) (by decide +kernel)) rfl
theorem vw_X3_101 : VW RX3 101 yX3_crowded cX3_crowded 2 (some .int) 1 := ⟨⟨wd_601, wd_603, wd_16, wd_81, wd_604⟩, by decide +kernel, by decide +kernel, by decide +kernel⟩
theorem fg_X3_54 : FG RX3 54 3 11 := ⟨RX3, TX3, 12, rfl, inlX3, by decide, wd_221⟩
theorem wd_597 : Cond.methodLink RX3 104 yX3_isLawful ∈ TB := tb_of (List.mem_of_getElem? (i := 597) (by decide +kernel)) rfl
theorem wd_598 : Cond.instanceMethod yX3_isLawful ∈ TB := tb_of (List.mem_of_getElem? (i := 598) (by decide +kernel)) rfl
theorem wd_599 : Cond.selects RX3 yX3_isLawful yX3_isLawful ∈ TB := tb_of (List.mem_of_getElem? (i := 599) (by decide +kernel)) rfl
theorem wd_600 : Cond.code yX3_isLawful cX3_isLawful 2 (some .boolean) ∈ TB := tb_of (List.mem_of_getElem? (i := 600) (by decide +kernel)) rfl
theorem vw_X3_104 : VW RX3 104 yX3_isLawful cX3_isLawful 2 (some .boolean) 1 := ⟨⟨wd_597, wd_598, wd_599, wd_81, wd_600⟩, by decide +kernel, by decide +kernel, by decide +kernel⟩
theorem wd_577 : Cond.methodLink RX3 107 yX3_isServed ∈ TB := tb_of (List.mem_of_getElem? (i := 577) (by decide +kernel)) rfl
theorem wd_578 : Cond.instanceMethod yX3_isServed ∈ TB := tb_of (List.mem_of_getElem? (i := 578) (by decide +kernel)) rfl
theorem wd_579 : Cond.selects RX3 yX3_isServed yX3_isServed ∈ TB := tb_of (List.mem_of_getElem? (i := 579) (by decide +kernel)) rfl
theorem wd_580 : Cond.code yX3_isServed cX3_isServed 3 (some .boolean) ∈ TB := tb_of (List.mem_of_getElem? (i := 580) (by decide +kernel)) rfl
theorem vw_X3_107 : VW RX3 107 yX3_isServed cX3_isServed 3 (some .boolean) 2 := ⟨⟨wd_577, wd_578, wd_579, wd_81, wd_580⟩, by decide +kernel, by decide +kernel, by decide +kernel⟩
theorem wd_593 : Cond.methodLink RX3 111 yX3_mayBe ∈ TB := tb_of (List.mem_of_getElem? (i := 593) (by decide +kernel)) rfl
theorem wd_594 : Cond.instanceMethod yX3_mayBe ∈ TB := tb_of (List.mem_of_getElem? (i := 594) (by decide +kernel)) rfl
theorem wd_595 : Cond.selects RX3 yX3_mayBe yX3_mayBe ∈ TB := tb_of (List.mem_of_getElem? (i := 595) (by decide +kernel)) rfl
theorem wd_596 : Cond.code yX3_mayBe cX3_mayBe 2 (some .boolean) ∈ TB := tb_of (List.mem_of_getElem? (i := 596) (by decide +kernel)) rfl
theorem vw_X3_111 : VW RX3 111 yX3_mayBe cX3_mayBe 2 (some .boolean) 1 := ⟨⟨wd_593, wd_594, wd_595, wd_81, wd_596⟩, by decide +kernel, by decide +kernel, by decide +kernel⟩
theorem wd_605 : Cond.methodLink RX3 114 yX3_weight ∈ TB := tb_of (List.mem_of_getElem? (i := 605) (by decide +kernel)) rfl
theorem wd_607 : Cond.instanceMethod yX3_weight ∈ TB := tb_of (List.mem_of_getElem? (i := 607) (by decide +kernel)) rfl
theorem wd_17 : Cond.selects RX3 yX3_weight yX3_weight ∈ TB := tb_of (List.mem_of_getElem? (i := 17) (by decide +kernel)) rfl
theorem wd_608 : Cond.code yX3_weight cX3_weight 5 (some .int) ∈ TB := tb_of (List.mem_of_getElem? (i := 608) (by decide +kernel)) rfl
theorem vw_X3_114 : VW RX3 114 yX3_weight cX3_weight 5 (some .int) 4 := ⟨⟨wd_605, wd_607, wd_17, wd_81, wd_608⟩, by decide +kernel, by decide +kernel, by decide +kernel⟩
theorem wd_609 : Cond.methodLink RX3 117 yJ6_bitCount_0f7a4 ∈ TB := tb_of (List.mem_of_getElem? (i := 609) (by decide +kernel)) rfl
theorem wd_610 : Cond.static yJ6_bitCount_0f7a4 ∈ TB := tb_of (List.mem_of_getElem? (i := 610) (by decide +kernel)) rfl
theorem wd_88 : Cond.initialized RJ6 ∈ TB := tb_of (List.mem_of_getElem? (i := 88) (by decide +kernel)) rfl
theorem wd_611 : Cond.code yJ6_bitCount_0f7a4 cJ6_bitCount_0f7a4 1 (some .int) ∈ TB := tb_of (List.mem_of_getElem? (i := 611) (by decide +kernel)) rfl
theorem sw_X3_117 : SW RX3 117 yJ6_bitCount_0f7a4 cJ6_bitCount_0f7a4 1 (some .int) 1 := ⟨⟨wd_609, wd_610, wd_88, wd_611⟩, by decide +kernel, by decide +kernel, by decide +kernel⟩
theorem wd_615 : Cond.methodLink RX3 122 yX3_priceOf ∈ TB := tb_of (List.mem_of_getElem? (i := 615) (by decide +kernel)) rfl
theorem wd_616 : Cond.static yX3_priceOf ∈ TB := tb_of (List.mem_of_getElem? (i := 616) (by decide +kernel)) rfl
theorem wd_617 : Cond.code yX3_priceOf cX3_priceOf 4 (some .int) ∈ TB := tb_of (List.mem_of_getElem? (i := 617) (by decide +kernel)) rfl
theorem sw_X3_122 : SW RX3 122 yX3_priceOf cX3_priceOf 4 (some .int) 2 := ⟨⟨wd_615, wd_616, wd_81, wd_617⟩, by decide +kernel, by decide +kernel, by decide +kernel⟩
theorem wd_120 : Cond.fieldLink RX3 126 "ThreeDoors$Town" "doors" "I" ∈ TB := tb_of (List.mem_of_getElem? (i := 120) (by decide +kernel)) rfl
theorem fg_X3_126 : FG RX3 126 5 5 := ⟨RX5, TX5, 10, rfl, inlX5, by decide, wd_120⟩
theorem wd_106 : Cond.fieldLink RX3 129 "ThreeDoors$Town" "price" "[I" ∈ TB := tb_of (List.mem_of_getElem? (i := 106) (by decide +kernel)) rfl
theorem fg_X3_129 : FG RX3 129 5 0 := ⟨RX5, TX5, 10, rfl, inlX5, by decide, wd_106⟩
theorem wd_311 : Cond.fieldLink RX4 15 "ThreeDoors$Shelf" "holds" "I" ∈ TB := tb_of (List.mem_of_getElem? (i := 311) (by decide +kernel)) rfl
theorem fg_X4_15 : FG RX4 15 4 0 := ⟨RX4, TX4, 5, rfl, inlX4, by decide, wd_311⟩
theorem wd_314 : Cond.fieldLink RX4 19 "ThreeDoors$Shelf" "sort" "I" ∈ TB := tb_of (List.mem_of_getElem? (i := 314) (by decide +kernel)) rfl
theorem fg_X4_19 : FG RX4 19 4 2 := ⟨RX4, TX4, 5, rfl, inlX4, by decide, wd_314⟩
theorem fp_X4_15 : FP RX4 15 4 0 .int := ⟨RX4, TX4, 5, tyX4, rfl, inlX4, by decide, wd_311, tyX4_ok, nmX4, by decide, by decide +kernel⟩
theorem fp_X4_19 : FP RX4 19 4 2 .int := ⟨RX4, TX4, 5, tyX4, rfl, inlX4, by decide, wd_314, tyX4_ok, nmX4, by decide, by decide +kernel⟩
theorem wd_316 : Cond.fieldLink RX4 22 "ThreeDoors$Shelf" "size" "I" ∈ TB := tb_of (List.mem_of_getElem? (i := 316) (by decide +kernel)) rfl
theorem fp_X4_22 : FP RX4 22 4 3 .int := ⟨RX4, TX4, 5, tyX4, rfl, inlX4, by decide, wd_316, tyX4_ok, nmX4, by decide, by decide +kernel⟩
theorem wd_318 : Cond.fieldLink RX4 9 "ThreeDoors$Shelf" "elements" "[J" ∈ TB := tb_of (List.mem_of_getElem? (i := 318) (by decide +kernel)) rfl
theorem fg_X4_9 : FG RX4 9 4 4 := ⟨RX4, TX4, 5, rfl, inlX4, by decide, wd_318⟩
theorem fg_X4_22 : FG RX4 22 4 3 := ⟨RX4, TX4, 5, rfl, inlX4, by decide, wd_316⟩
theorem wd_127 : Cond.fieldLink RX5 27 "ThreeDoors$Town" "apart" "I" ∈ TB := tb_of (List.mem_of_getElem? (i := 127) (by decide +kernel)) rfl
theorem fp_X5_27 : FP RX5 27 5 9 .int := ⟨RX5, TX5, 10, tyX5, rfl, inlX5, by decide, wd_127, tyX5_ok, nmX5, by decide, by decide +kernel⟩
theorem wd_103 : Cond.fieldLink RX5 9 "ThreeDoors$Town" "price" "[I" ∈ TB := tb_of (List.mem_of_getElem? (i := 103) (by decide +kernel)) rfl
theorem fg_X5_9 : FG RX5 9 5 0 := ⟨RX5, TX5, 10, rfl, inlX5, by decide, wd_103⟩
theorem wd_118 : Cond.fieldLink RX5 31 "ThreeDoors$Town" "doors" "I" ∈ TB := tb_of (List.mem_of_getElem? (i := 118) (by decide +kernel)) rfl
theorem fg_X5_31 : FG RX5 31 5 5 := ⟨RX5, TX5, 10, rfl, inlX5, by decide, wd_118⟩
theorem wd_107 : Cond.fieldLink RX5 15 "ThreeDoors$Town" "year" "[I" ∈ TB := tb_of (List.mem_of_getElem? (i := 107) (by decide +kernel)) rfl
theorem fg_X5_15 : FG RX5 15 5 1 := ⟨RX5, TX5, 10, rfl, inlX5, by decide, wd_107⟩
theorem fp_X5_31 : FP RX5 31 5 5 .int := ⟨RX5, TX5, 10, tyX5, rfl, inlX5, by decide, wd_118, tyX5_ok, nmX5, by decide, by decide +kernel⟩
theorem wd_110 : Cond.fieldLink RX5 18 "ThreeDoors$Town" "joinEnds" "[I" ∈ TB := tb_of (List.mem_of_getElem? (i := 110) (by decide +kernel)) rfl
theorem fg_X5_18 : FG RX5 18 5 2 := ⟨RX5, TX5, 10, rfl, inlX5, by decide, wd_110⟩
theorem wd_122 : Cond.fieldLink RX5 34 "ThreeDoors$Town" "joins" "I" ∈ TB := tb_of (List.mem_of_getElem? (i := 122) (by decide +kernel)) rfl
theorem fg_X5_34 : FG RX5 34 5 6 := ⟨RX5, TX5, 10, rfl, inlX5, by decide, wd_122⟩
theorem fp_X5_34 : FP RX5 34 5 6 .int := ⟨RX5, TX5, 10, tyX5, rfl, inlX5, by decide, wd_122, tyX5_ok, nmX5, by decide, by decide +kernel⟩
theorem wd_113 : Cond.fieldLink RX5 21 "ThreeDoors$Town" "wallEnds" "[I" ∈ TB := tb_of (List.mem_of_getElem? (i := 113) (by decide +kernel)) rfl
theorem fg_X5_21 : FG RX5 21 5 3 := ⟨RX5, TX5, 10, rfl, inlX5, by decide, wd_113⟩
theorem wd_124 : Cond.fieldLink RX5 37 "ThreeDoors$Town" "walls" "I" ∈ TB := tb_of (List.mem_of_getElem? (i := 124) (by decide +kernel)) rfl
theorem fg_X5_37 : FG RX5 37 5 7 := ⟨RX5, TX5, 10, rfl, inlX5, by decide, wd_124⟩
theorem wd_116 : Cond.fieldLink RX5 24 "ThreeDoors$Town" "cost" "[I" ∈ TB := tb_of (List.mem_of_getElem? (i := 116) (by decide +kernel)) rfl
theorem fg_X5_24 : FG RX5 24 5 4 := ⟨RX5, TX5, 10, rfl, inlX5, by decide, wd_116⟩
theorem fp_X5_37 : FP RX5 37 5 7 .int := ⟨RX5, TX5, 10, tyX5, rfl, inlX5, by decide, wd_124, tyX5_ok, nmX5, by decide, by decide +kernel⟩
theorem wd_374 : Cond.methodLink RX5 40 yX5_isDoor ∈ TB := tb_of (List.mem_of_getElem? (i := 374) (by decide +kernel)) rfl
theorem wd_375 : Cond.instanceMethod yX5_isDoor ∈ TB := tb_of (List.mem_of_getElem? (i := 375) (by decide +kernel)) rfl
theorem wd_376 : Cond.selects RX5 yX5_isDoor yX5_isDoor ∈ TB := tb_of (List.mem_of_getElem? (i := 376) (by decide +kernel)) rfl
theorem wd_377 : Cond.code yX5_isDoor cX5_isDoor 2 (some .boolean) ∈ TB := tb_of (List.mem_of_getElem? (i := 377) (by decide +kernel)) rfl
theorem vw_X5_40 : VW RX5 40 yX5_isDoor cX5_isDoor 2 (some .boolean) 1 := ⟨⟨wd_374, wd_375, wd_376, wd_79, wd_377⟩, by decide +kernel, by decide +kernel, by decide +kernel⟩
theorem wd_413 : Cond.methodLink RX5 44 yX5_everyDoor ∈ TB := tb_of (List.mem_of_getElem? (i := 413) (by decide +kernel)) rfl
theorem wd_414 : Cond.instanceMethod yX5_everyDoor ∈ TB := tb_of (List.mem_of_getElem? (i := 414) (by decide +kernel)) rfl
theorem wd_415 : Cond.selects RX5 yX5_everyDoor yX5_everyDoor ∈ TB := tb_of (List.mem_of_getElem? (i := 415) (by decide +kernel)) rfl
theorem wd_416 : Cond.code yX5_everyDoor cX5_everyDoor 1 (some .int) ∈ TB := tb_of (List.mem_of_getElem? (i := 416) (by decide +kernel)) rfl
theorem vw_X5_44 : VW RX5 44 yX5_everyDoor cX5_everyDoor 1 (some .int) 0 := ⟨⟨wd_413, wd_414, wd_415, wd_79, wd_416⟩, by decide +kernel, by decide +kernel, by decide +kernel⟩
theorem wd_430 : Cond.methodLink RX5 48 yX5_isWall ∈ TB := tb_of (List.mem_of_getElem? (i := 430) (by decide +kernel)) rfl
theorem vw_X5_48 : VW RX5 48 yX5_isWall cX5_isWall 2 (some .boolean) 1 := ⟨⟨wd_430, wd_431, wd_432, wd_79, wd_433⟩, by decide +kernel, by decide +kernel, by decide +kernel⟩
theorem wd_462 : Cond.methodLink RX5 51 yX5_isEnd ∈ TB := tb_of (List.mem_of_getElem? (i := 462) (by decide +kernel)) rfl
theorem wd_463 : Cond.static yX5_isEnd ∈ TB := tb_of (List.mem_of_getElem? (i := 463) (by decide +kernel)) rfl
theorem wd_464 : Cond.code yX5_isEnd cX5_isEnd 2 (some .boolean) ∈ TB := tb_of (List.mem_of_getElem? (i := 464) (by decide +kernel)) rfl
theorem sw_X5_51 : SW RX5 51 yX5_isEnd cX5_isEnd 2 (some .boolean) 2 := ⟨⟨wd_462, wd_463, wd_79, wd_464⟩, by decide +kernel, by decide +kernel, by decide +kernel⟩
theorem wd_338 : Cond.fieldLink RX6 46 "ThreeDoors" "shelves" "[LThreeDoors$Shelf;" ∈ TB := tb_of (List.mem_of_getElem? (i := 338) (by decide +kernel)) rfl
theorem fg_X6_46 : FG RX6 46 6 5 := ⟨RX6, TX6, 7, rfl, inlX6, by decide, wd_338⟩
theorem wd_359 : Cond.methodLink RX6 55 yX6_isWithin ∈ TB := tb_of (List.mem_of_getElem? (i := 359) (by decide +kernel)) rfl
theorem sw_X6_55 : SW RX6 55 yX6_isWithin cX6_isWithin 2 (some .boolean) 2 := ⟨⟨wd_359, wd_360, wd_78, wd_361⟩, by decide +kernel, by decide +kernel, by decide +kernel⟩
theorem wd_333 : Cond.fieldLink RX6 10 "ThreeDoors" "town" "LThreeDoors$Town;" ∈ TB := tb_of (List.mem_of_getElem? (i := 333) (by decide +kernel)) rfl
theorem fg_X6_10 : FG RX6 10 6 0 := ⟨RX6, TX6, 7, rfl, inlX6, by decide, wd_333⟩
theorem wd_119 : Cond.fieldLink RX6 59 "ThreeDoors$Town" "doors" "I" ∈ TB := tb_of (List.mem_of_getElem? (i := 119) (by decide +kernel)) rfl
theorem fg_X6_59 : FG RX6 59 5 5 := ⟨RX5, TX5, 10, rfl, inlX5, by decide, wd_119⟩
theorem wd_362 : Cond.methodLink RX6 63 yX5_addDoor ∈ TB := tb_of (List.mem_of_getElem? (i := 362) (by decide +kernel)) rfl
theorem wd_363 : Cond.instanceMethod yX5_addDoor ∈ TB := tb_of (List.mem_of_getElem? (i := 363) (by decide +kernel)) rfl
theorem wd_364 : Cond.selects RX5 yX5_addDoor yX5_addDoor ∈ TB := tb_of (List.mem_of_getElem? (i := 364) (by decide +kernel)) rfl
theorem wd_365 : Cond.code yX5_addDoor cX5_addDoor 3 (some .int) ∈ TB := tb_of (List.mem_of_getElem? (i := 365) (by decide +kernel)) rfl
theorem vw_X6_63 : VW RX6 63 yX5_addDoor cX5_addDoor 3 (some .int) 2 := ⟨⟨wd_362, wd_363, wd_364, wd_79, wd_365⟩, by decide +kernel, by decide +kernel, by decide +kernel⟩
theorem wd_370 : Cond.methodLink RX6 67 yX5_areUnlike ∈ TB := tb_of (List.mem_of_getElem? (i := 370) (by decide +kernel)) rfl
theorem wd_371 : Cond.instanceMethod yX5_areUnlike ∈ TB := tb_of (List.mem_of_getElem? (i := 371) (by decide +kernel)) rfl
theorem wd_372 : Cond.selects RX5 yX5_areUnlike yX5_areUnlike ∈ TB := tb_of (List.mem_of_getElem? (i := 372) (by decide +kernel)) rfl
theorem wd_373 : Cond.code yX5_areUnlike cX5_areUnlike 3 (some .boolean) ∈ TB := tb_of (List.mem_of_getElem? (i := 373) (by decide +kernel)) rfl
theorem vw_X6_67 : VW RX6 67 yX5_areUnlike cX5_areUnlike 3 (some .boolean) 2 := ⟨⟨wd_370, wd_371, wd_372, wd_79, wd_373⟩, by decide +kernel, by decide +kernel, by decide +kernel⟩
theorem wd_123 : Cond.fieldLink RX6 70 "ThreeDoors$Town" "joins" "I" ∈ TB := tb_of (List.mem_of_getElem? (i := 123) (by decide +kernel)) rfl
theorem fg_X6_70 : FG RX6 70 5 6 := ⟨RX5, TX5, 10, rfl, inlX5, by decide, wd_123⟩
theorem wd_378 : Cond.methodLink RX6 73 yX5_addJoin ∈ TB := tb_of (List.mem_of_getElem? (i := 378) (by decide +kernel)) rfl
theorem wd_379 : Cond.instanceMethod yX5_addJoin ∈ TB := tb_of (List.mem_of_getElem? (i := 379) (by decide +kernel)) rfl
theorem wd_380 : Cond.selects RX5 yX5_addJoin yX5_addJoin ∈ TB := tb_of (List.mem_of_getElem? (i := 380) (by decide +kernel)) rfl
theorem wd_381 : Cond.code yX5_addJoin cX5_addJoin 2 (some .int) ∈ TB := tb_of (List.mem_of_getElem? (i := 381) (by decide +kernel)) rfl
theorem vw_X6_73 : VW RX6 73 yX5_addJoin cX5_addJoin 2 (some .int) 1 := ⟨⟨wd_378, wd_379, wd_380, wd_79, wd_381⟩, by decide +kernel, by decide +kernel, by decide +kernel⟩
theorem wd_386 : Cond.methodLink RX6 77 yX6_isShelf ∈ TB := tb_of (List.mem_of_getElem? (i := 386) (by decide +kernel)) rfl
theorem wd_387 : Cond.static yX6_isShelf ∈ TB := tb_of (List.mem_of_getElem? (i := 387) (by decide +kernel)) rfl
theorem wd_388 : Cond.code yX6_isShelf cX6_isShelf 1 (some .boolean) ∈ TB := tb_of (List.mem_of_getElem? (i := 388) (by decide +kernel)) rfl
theorem sw_X6_77 : SW RX6 77 yX6_isShelf cX6_isShelf 1 (some .boolean) 1 := ⟨⟨wd_386, wd_387, wd_78, wd_388⟩, by decide +kernel, by decide +kernel, by decide +kernel⟩
theorem wd_312 : Cond.fieldLink RX6 81 "ThreeDoors$Shelf" "holds" "I" ∈ TB := tb_of (List.mem_of_getElem? (i := 312) (by decide +kernel)) rfl
theorem fg_X6_81 : FG RX6 81 4 0 := ⟨RX4, TX4, 5, rfl, inlX4, by decide, wd_312⟩
theorem wd_389 : Cond.methodLink RX6 84 yX4_isRowOf ∈ TB := tb_of (List.mem_of_getElem? (i := 389) (by decide +kernel)) rfl
theorem wd_390 : Cond.instanceMethod yX4_isRowOf ∈ TB := tb_of (List.mem_of_getElem? (i := 390) (by decide +kernel)) rfl
theorem wd_391 : Cond.selects RX4 yX4_isRowOf yX4_isRowOf ∈ TB := tb_of (List.mem_of_getElem? (i := 391) (by decide +kernel)) rfl
theorem wd_84 : Cond.initialized RX4 ∈ TB := tb_of (List.mem_of_getElem? (i := 84) (by decide +kernel)) rfl
theorem wd_392 : Cond.code yX4_isRowOf cX4_isRowOf 2 (some .boolean) ∈ TB := tb_of (List.mem_of_getElem? (i := 392) (by decide +kernel)) rfl
theorem vw_X6_84 : VW RX6 84 yX4_isRowOf cX4_isRowOf 2 (some .boolean) 1 := ⟨⟨wd_389, wd_390, wd_391, wd_84, wd_392⟩, by decide +kernel, by decide +kernel, by decide +kernel⟩
theorem wd_393 : Cond.methodLink RX6 87 yX6_joinsCome ∈ TB := tb_of (List.mem_of_getElem? (i := 393) (by decide +kernel)) rfl
theorem wd_395 : Cond.instanceMethod yX6_joinsCome ∈ TB := tb_of (List.mem_of_getElem? (i := 395) (by decide +kernel)) rfl
theorem wd_0 : Cond.selects RX6 yX6_joinsCome yX6_joinsCome ∈ TB := tb_of (List.mem_of_getElem? (i := 0) (by decide +kernel)) rfl
theorem wd_396 : Cond.code yX6_joinsCome cX6_joinsCome 9 (some .int) ∈ TB := tb_of (List.mem_of_getElem? (i := 396) (by decide +kernel)) rfl
theorem vw_X6_87 : VW RX6 87 yX6_joinsCome cX6_joinsCome 9 (some .int) 3 := ⟨⟨wd_393, wd_395, wd_0, wd_78, wd_396⟩, by decide +kernel, by decide +kernel, by decide +kernel⟩
theorem wd_125 : Cond.fieldLink RX6 91 "ThreeDoors$Town" "walls" "I" ∈ TB := tb_of (List.mem_of_getElem? (i := 125) (by decide +kernel)) rfl
theorem fg_X6_91 : FG RX6 91 5 7 := ⟨RX5, TX5, 10, rfl, inlX5, by decide, wd_125⟩
theorem wd_401 : Cond.methodLink RX6 94 yX5_addWall ∈ TB := tb_of (List.mem_of_getElem? (i := 401) (by decide +kernel)) rfl
theorem wd_402 : Cond.instanceMethod yX5_addWall ∈ TB := tb_of (List.mem_of_getElem? (i := 402) (by decide +kernel)) rfl
theorem wd_403 : Cond.selects RX5 yX5_addWall yX5_addWall ∈ TB := tb_of (List.mem_of_getElem? (i := 403) (by decide +kernel)) rfl
theorem wd_404 : Cond.code yX5_addWall cX5_addWall 3 (some .int) ∈ TB := tb_of (List.mem_of_getElem? (i := 404) (by decide +kernel)) rfl
theorem vw_X6_94 : VW RX6 94 yX5_addWall cX5_addWall 3 (some .int) 2 := ⟨⟨wd_401, wd_402, wd_403, wd_79, wd_404⟩, by decide +kernel, by decide +kernel, by decide +kernel⟩
theorem wd_409 : Cond.methodLink RX6 97 yX5_areDoors ∈ TB := tb_of (List.mem_of_getElem? (i := 409) (by decide +kernel)) rfl
theorem wd_410 : Cond.instanceMethod yX5_areDoors ∈ TB := tb_of (List.mem_of_getElem? (i := 410) (by decide +kernel)) rfl
theorem wd_411 : Cond.selects RX5 yX5_areDoors yX5_areDoors ∈ TB := tb_of (List.mem_of_getElem? (i := 411) (by decide +kernel)) rfl
theorem wd_412 : Cond.code yX5_areDoors cX5_areDoors 2 (some .boolean) ∈ TB := tb_of (List.mem_of_getElem? (i := 412) (by decide +kernel)) rfl
theorem vw_X6_97 : VW RX6 97 yX5_areDoors cX5_areDoors 2 (some .boolean) 1 := ⟨⟨wd_409, wd_410, wd_411, wd_79, wd_412⟩, by decide +kernel, by decide +kernel, by decide +kernel⟩
theorem wd_126 : Cond.fieldLink RX6 100 "ThreeDoors$Town" "oldWells" "I" ∈ TB := tb_of (List.mem_of_getElem? (i := 126) (by decide +kernel)) rfl
theorem fg_X6_100 : FG RX6 100 5 8 := ⟨RX5, TX5, 10, rfl, inlX5, by decide, wd_126⟩
theorem fp_X6_100 : FP RX6 100 5 8 .int := ⟨RX5, TX5, 10, tyX5, rfl, inlX5, by decide, wd_126, tyX5_ok, nmX5, by decide, by decide +kernel⟩
theorem wd_129 : Cond.fieldLink RX6 103 "ThreeDoors$Town" "apart" "I" ∈ TB := tb_of (List.mem_of_getElem? (i := 129) (by decide +kernel)) rfl
theorem fg_X6_103 : FG RX6 103 5 9 := ⟨RX5, TX5, 10, rfl, inlX5, by decide, wd_129⟩
theorem fp_X6_103 : FP RX6 103 5 9 .int := ⟨RX5, TX5, 10, tyX5, rfl, inlX5, by decide, wd_129, tyX5_ok, nmX5, by decide, by decide +kernel⟩
theorem wd_425 : Cond.methodLink RX6 106 yX5_canBecome ∈ TB := tb_of (List.mem_of_getElem? (i := 425) (by decide +kernel)) rfl
theorem wd_426 : Cond.instanceMethod yX5_canBecome ∈ TB := tb_of (List.mem_of_getElem? (i := 426) (by decide +kernel)) rfl
theorem wd_427 : Cond.selects RX5 yX5_canBecome yX5_canBecome ∈ TB := tb_of (List.mem_of_getElem? (i := 427) (by decide +kernel)) rfl
theorem wd_428 : Cond.code yX5_canBecome cX5_canBecome 4 (some .boolean) ∈ TB := tb_of (List.mem_of_getElem? (i := 428) (by decide +kernel)) rfl
theorem vw_X6_106 : VW RX6 106 yX5_canBecome cX5_canBecome 4 (some .boolean) 3 := ⟨⟨wd_425, wd_426, wd_427, wd_79, wd_428⟩, by decide +kernel, by decide +kernel, by decide +kernel⟩
theorem wd_434 : Cond.methodLink RX6 110 yX5_become ∈ TB := tb_of (List.mem_of_getElem? (i := 434) (by decide +kernel)) rfl
theorem vw_X6_110 : VW RX6 110 yX5_become cX5_become 6 (some .int) 3 := ⟨⟨wd_434, wd_435, wd_436, wd_79, wd_437⟩, by decide +kernel, by decide +kernel, by decide +kernel⟩
theorem wd_336 : Cond.fieldLink RX6 33 "ThreeDoors" "changes" "LThreeDoors$Changes;" ∈ TB := tb_of (List.mem_of_getElem? (i := 336) (by decide +kernel)) rfl
theorem fg_X6_33 : FG RX6 33 6 3 := ⟨RX6, TX6, 7, rfl, inlX6, by decide, wd_336⟩
theorem wd_438 : Cond.methodLink RX6 114 yX1_note ∈ TB := tb_of (List.mem_of_getElem? (i := 438) (by decide +kernel)) rfl
theorem wd_439 : Cond.instanceMethod yX1_note ∈ TB := tb_of (List.mem_of_getElem? (i := 439) (by decide +kernel)) rfl
theorem wd_440 : Cond.selects RX1 yX1_note yX1_note ∈ TB := tb_of (List.mem_of_getElem? (i := 440) (by decide +kernel)) rfl
theorem wd_441 : Cond.code yX1_note cX1_note 5 none ∈ TB := tb_of (List.mem_of_getElem? (i := 441) (by decide +kernel)) rfl
theorem vw_X6_114 : VW RX6 114 yX1_note cX1_note 5 none 4 := ⟨⟨wd_438, wd_439, wd_440, wd_82, wd_441⟩, by decide +kernel, by decide +kernel, by decide +kernel⟩
theorem wd_453 : Cond.methodLink RX6 118 yX5_isDoor ∈ TB := tb_of (List.mem_of_getElem? (i := 453) (by decide +kernel)) rfl
theorem vw_X6_118 : VW RX6 118 yX5_isDoor cX5_isDoor 2 (some .boolean) 1 := ⟨⟨wd_453, wd_375, wd_376, wd_79, wd_377⟩, by decide +kernel, by decide +kernel, by decide +kernel⟩
theorem wd_454 : Cond.methodLink RX6 121 yX6_ofDoor ∈ TB := tb_of (List.mem_of_getElem? (i := 454) (by decide +kernel)) rfl
theorem wd_456 : Cond.instanceMethod yX6_ofDoor ∈ TB := tb_of (List.mem_of_getElem? (i := 456) (by decide +kernel)) rfl
theorem wd_2 : Cond.selects RX6 yX6_ofDoor yX6_ofDoor ∈ TB := tb_of (List.mem_of_getElem? (i := 2) (by decide +kernel)) rfl
theorem wd_457 : Cond.code yX6_ofDoor cX6_ofDoor 3 (some .int) ∈ TB := tb_of (List.mem_of_getElem? (i := 457) (by decide +kernel)) rfl
theorem vw_X6_121 : VW RX6 121 yX6_ofDoor cX6_ofDoor 3 (some .int) 2 := ⟨⟨wd_454, wd_456, wd_2, wd_78, wd_457⟩, by decide +kernel, by decide +kernel, by decide +kernel⟩
theorem wd_112 : Cond.fieldLink RX6 124 "ThreeDoors$Town" "joinEnds" "[I" ∈ TB := tb_of (List.mem_of_getElem? (i := 112) (by decide +kernel)) rfl
theorem fg_X6_124 : FG RX6 124 5 2 := ⟨RX5, TX5, 10, rfl, inlX5, by decide, wd_112⟩
theorem wd_513 : Cond.methodLink RX6 128 yX5_isWall ∈ TB := tb_of (List.mem_of_getElem? (i := 513) (by decide +kernel)) rfl
theorem vw_X6_128 : VW RX6 128 yX5_isWall cX5_isWall 2 (some .boolean) 1 := ⟨⟨wd_513, wd_431, wd_432, wd_79, wd_433⟩, by decide +kernel, by decide +kernel, by decide +kernel⟩
theorem wd_115 : Cond.fieldLink RX6 131 "ThreeDoors$Town" "wallEnds" "[I" ∈ TB := tb_of (List.mem_of_getElem? (i := 115) (by decide +kernel)) rfl
theorem fg_X6_131 : FG RX6 131 5 3 := ⟨RX5, TX5, 10, rfl, inlX5, by decide, wd_115⟩
theorem wd_117 : Cond.fieldLink RX6 134 "ThreeDoors$Town" "cost" "[I" ∈ TB := tb_of (List.mem_of_getElem? (i := 117) (by decide +kernel)) rfl
theorem fg_X6_134 : FG RX6 134 5 4 := ⟨RX5, TX5, 10, rfl, inlX5, by decide, wd_117⟩
theorem wd_334 : Cond.fieldLink RX6 19 "ThreeDoors" "rule" "LThreeDoors$Law;" ∈ TB := tb_of (List.mem_of_getElem? (i := 334) (by decide +kernel)) rfl
theorem fg_X6_19 : FG RX6 19 6 1 := ⟨RX6, TX6, 7, rfl, inlX6, by decide, wd_334⟩
theorem wd_161 : Cond.fieldLink RX6 137 "ThreeDoors$Law" "fed" "I" ∈ TB := tb_of (List.mem_of_getElem? (i := 161) (by decide +kernel)) rfl
theorem fg_X6_137 : FG RX6 137 2 2 := ⟨RX2, TX2, 13, rfl, inlX2, by decide, wd_161⟩
theorem wd_518 : Cond.methodLink RX6 140 yX2_takeByte ∈ TB := tb_of (List.mem_of_getElem? (i := 518) (by decide +kernel)) rfl
theorem wd_519 : Cond.instanceMethod yX2_takeByte ∈ TB := tb_of (List.mem_of_getElem? (i := 519) (by decide +kernel)) rfl
theorem wd_520 : Cond.selects RX2 yX2_takeByte yX2_takeByte ∈ TB := tb_of (List.mem_of_getElem? (i := 520) (by decide +kernel)) rfl
theorem wd_521 : Cond.code yX2_takeByte cX2_takeByte 2 (some .int) ∈ TB := tb_of (List.mem_of_getElem? (i := 521) (by decide +kernel)) rfl
theorem vw_X6_140 : VW RX6 140 yX2_takeByte cX2_takeByte 2 (some .int) 1 := ⟨⟨wd_518, wd_519, wd_520, wd_80, wd_521⟩, by decide +kernel, by decide +kernel, by decide +kernel⟩
theorem wd_526 : Cond.methodLink RX6 143 yX2_enact ∈ TB := tb_of (List.mem_of_getElem? (i := 526) (by decide +kernel)) rfl
theorem wd_527 : Cond.instanceMethod yX2_enact ∈ TB := tb_of (List.mem_of_getElem? (i := 527) (by decide +kernel)) rfl
theorem wd_528 : Cond.selects RX2 yX2_enact yX2_enact ∈ TB := tb_of (List.mem_of_getElem? (i := 528) (by decide +kernel)) rfl
theorem wd_529 : Cond.code yX2_enact cX2_enact 1 (some .int) ∈ TB := tb_of (List.mem_of_getElem? (i := 529) (by decide +kernel)) rfl
theorem vw_X6_143 : VW RX6 143 yX2_enact cX2_enact 1 (some .int) 0 := ⟨⟨wd_526, wd_527, wd_528, wd_80, wd_529⟩, by decide +kernel, by decide +kernel, by decide +kernel⟩
theorem wd_535 : Cond.methodLink RX6 147 yX6_settle ∈ TB := tb_of (List.mem_of_getElem? (i := 535) (by decide +kernel)) rfl
theorem wd_537 : Cond.instanceMethod yX6_settle ∈ TB := tb_of (List.mem_of_getElem? (i := 537) (by decide +kernel)) rfl
theorem wd_10 : Cond.selects RX6 yX6_settle yX6_settle ∈ TB := tb_of (List.mem_of_getElem? (i := 10) (by decide +kernel)) rfl
theorem wd_538 : Cond.code yX6_settle cX6_settle 1 none ∈ TB := tb_of (List.mem_of_getElem? (i := 538) (by decide +kernel)) rfl
theorem vw_X6_147 : VW RX6 147 yX6_settle cX6_settle 1 none 0 := ⟨⟨wd_535, wd_537, wd_10, wd_78, wd_538⟩, by decide +kernel, by decide +kernel, by decide +kernel⟩
theorem wd_335 : Cond.fieldLink RX6 26 "ThreeDoors" "plan" "LThreeDoors$Plan;" ∈ TB := tb_of (List.mem_of_getElem? (i := 335) (by decide +kernel)) rfl
theorem fg_X6_26 : FG RX6 26 6 2 := ⟨RX6, TX6, 7, rfl, inlX6, by decide, wd_335⟩
theorem wd_209 : Cond.fieldLink RX6 150 "ThreeDoors$Plan" "away" "[[I" ∈ TB := tb_of (List.mem_of_getElem? (i := 209) (by decide +kernel)) rfl
theorem fg_X6_150 : FG RX6 150 3 0 := ⟨RX3, TX3, 12, rfl, inlX3, by decide, wd_209⟩
theorem wd_573 : Cond.methodLink RX6 154 yX3_judged ∈ TB := tb_of (List.mem_of_getElem? (i := 573) (by decide +kernel)) rfl
theorem wd_574 : Cond.instanceMethod yX3_judged ∈ TB := tb_of (List.mem_of_getElem? (i := 574) (by decide +kernel)) rfl
theorem wd_575 : Cond.selects RX3 yX3_judged yX3_judged ∈ TB := tb_of (List.mem_of_getElem? (i := 575) (by decide +kernel)) rfl
theorem wd_576 : Cond.code yX3_judged cX3_judged 5 (some .int) ∈ TB := tb_of (List.mem_of_getElem? (i := 576) (by decide +kernel)) rfl
theorem vw_X6_154 : VW RX6 154 yX3_judged cX3_judged 5 (some .int) 1 := ⟨⟨wd_573, wd_574, wd_575, wd_81, wd_576⟩, by decide +kernel, by decide +kernel, by decide +kernel⟩
theorem wd_589 : Cond.methodLink RX6 157 yX3_least ∈ TB := tb_of (List.mem_of_getElem? (i := 589) (by decide +kernel)) rfl
theorem wd_590 : Cond.instanceMethod yX3_least ∈ TB := tb_of (List.mem_of_getElem? (i := 590) (by decide +kernel)) rfl
theorem wd_591 : Cond.selects RX3 yX3_least yX3_least ∈ TB := tb_of (List.mem_of_getElem? (i := 591) (by decide +kernel)) rfl
theorem wd_592 : Cond.code yX3_least cX3_least 8 (some .int) ∈ TB := tb_of (List.mem_of_getElem? (i := 592) (by decide +kernel)) rfl
theorem vw_X6_157 : VW RX6 157 yX3_least cX3_least 8 (some .int) 3 := ⟨⟨wd_589, wd_590, wd_591, wd_81, wd_592⟩, by decide +kernel, by decide +kernel, by decide +kernel⟩
theorem wd_219 : Cond.fieldLink RX6 161 "ThreeDoors$Plan" "there" "I" ∈ TB := tb_of (List.mem_of_getElem? (i := 219) (by decide +kernel)) rfl
theorem fg_X6_161 : FG RX6 161 3 9 := ⟨RX3, TX3, 12, rfl, inlX3, by decide, wd_219⟩
theorem wd_622 : Cond.methodLink RX6 164 yX3_mayBe ∈ TB := tb_of (List.mem_of_getElem? (i := 622) (by decide +kernel)) rfl
theorem vw_X6_164 : VW RX6 164 yX3_mayBe cX3_mayBe 2 (some .boolean) 1 := ⟨⟨wd_622, wd_594, wd_595, wd_81, wd_596⟩, by decide +kernel, by decide +kernel, by decide +kernel⟩
theorem wd_627 : Cond.methodLink RX6 167 yX3_isEven ∈ TB := tb_of (List.mem_of_getElem? (i := 627) (by decide +kernel)) rfl
theorem wd_628 : Cond.instanceMethod yX3_isEven ∈ TB := tb_of (List.mem_of_getElem? (i := 628) (by decide +kernel)) rfl
theorem wd_629 : Cond.selects RX3 yX3_isEven yX3_isEven ∈ TB := tb_of (List.mem_of_getElem? (i := 629) (by decide +kernel)) rfl
theorem wd_630 : Cond.code yX3_isEven cX3_isEven 4 (some .boolean) ∈ TB := tb_of (List.mem_of_getElem? (i := 630) (by decide +kernel)) rfl
theorem vw_X6_167 : VW RX6 167 yX3_isEven cX3_isEven 4 (some .boolean) 1 := ⟨⟨wd_627, wd_628, wd_629, wd_81, wd_630⟩, by decide +kernel, by decide +kernel, by decide +kernel⟩
theorem wd_635 : Cond.methodLink RX6 170 yX3_isServed ∈ TB := tb_of (List.mem_of_getElem? (i := 635) (by decide +kernel)) rfl
theorem vw_X6_170 : VW RX6 170 yX3_isServed cX3_isServed 3 (some .boolean) 2 := ⟨⟨wd_635, wd_578, wd_579, wd_81, wd_580⟩, by decide +kernel, by decide +kernel, by decide +kernel⟩
theorem wd_105 : Cond.fieldLink RX6 173 "ThreeDoors$Town" "price" "[I" ∈ TB := tb_of (List.mem_of_getElem? (i := 105) (by decide +kernel)) rfl
theorem fg_X6_173 : FG RX6 173 5 0 := ⟨RX5, TX5, 10, rfl, inlX5, by decide, wd_105⟩
theorem wd_636 : Cond.methodLink RX6 176 yX3_isClear ∈ TB := tb_of (List.mem_of_getElem? (i := 636) (by decide +kernel)) rfl
theorem wd_637 : Cond.instanceMethod yX3_isClear ∈ TB := tb_of (List.mem_of_getElem? (i := 637) (by decide +kernel)) rfl
theorem wd_638 : Cond.selects RX3 yX3_isClear yX3_isClear ∈ TB := tb_of (List.mem_of_getElem? (i := 638) (by decide +kernel)) rfl
theorem wd_639 : Cond.code yX3_isClear cX3_isClear 3 (some .boolean) ∈ TB := tb_of (List.mem_of_getElem? (i := 639) (by decide +kernel)) rfl
theorem vw_X6_176 : VW RX6 176 yX3_isClear cX3_isClear 3 (some .boolean) 2 := ⟨⟨wd_636, wd_637, wd_638, wd_81, wd_639⟩, by decide +kernel, by decide +kernel, by decide +kernel⟩
theorem wd_644 : Cond.methodLink RX6 179 yX6_hasWell ∈ TB := tb_of (List.mem_of_getElem? (i := 644) (by decide +kernel)) rfl
theorem wd_646 : Cond.instanceMethod yX6_hasWell ∈ TB := tb_of (List.mem_of_getElem? (i := 646) (by decide +kernel)) rfl
theorem wd_18 : Cond.selects RX6 yX6_hasWell yX6_hasWell ∈ TB := tb_of (List.mem_of_getElem? (i := 18) (by decide +kernel)) rfl
theorem wd_647 : Cond.code yX6_hasWell cX6_hasWell 3 (some .boolean) ∈ TB := tb_of (List.mem_of_getElem? (i := 647) (by decide +kernel)) rfl
theorem vw_X6_179 : VW RX6 179 yX6_hasWell cX6_hasWell 3 (some .boolean) 2 := ⟨⟨wd_644, wd_646, wd_18, wd_78, wd_647⟩, by decide +kernel, by decide +kernel, by decide +kernel⟩
theorem wd_539 : Cond.methodLink RX6 182 yX5_everyDoor ∈ TB := tb_of (List.mem_of_getElem? (i := 539) (by decide +kernel)) rfl
theorem vw_X6_182 : VW RX6 182 yX5_everyDoor cX5_everyDoor 1 (some .int) 0 := ⟨⟨wd_539, wd_414, wd_415, wd_79, wd_416⟩, by decide +kernel, by decide +kernel, by decide +kernel⟩
theorem wd_540 : Cond.methodLink RX6 185 yX3_lay ∈ TB := tb_of (List.mem_of_getElem? (i := 540) (by decide +kernel)) rfl
theorem wd_541 : Cond.instanceMethod yX3_lay ∈ TB := tb_of (List.mem_of_getElem? (i := 541) (by decide +kernel)) rfl
theorem wd_542 : Cond.selects RX3 yX3_lay yX3_lay ∈ TB := tb_of (List.mem_of_getElem? (i := 542) (by decide +kernel)) rfl
theorem wd_543 : Cond.code yX3_lay cX3_lay 7 none ∈ TB := tb_of (List.mem_of_getElem? (i := 543) (by decide +kernel)) rfl
theorem vw_X6_185 : VW RX6 185 yX3_lay cX3_lay 7 none 5 := ⟨⟨wd_540, wd_541, wd_542, wd_81, wd_543⟩, by decide +kernel, by decide +kernel, by decide +kernel⟩
theorem wd_222 : Cond.fieldLink RX6 189 "ThreeDoors$Plan" "can" "I" ∈ TB := tb_of (List.mem_of_getElem? (i := 222) (by decide +kernel)) rfl
theorem fg_X6_189 : FG RX6 189 3 11 := ⟨RX3, TX3, 12, rfl, inlX3, by decide, wd_222⟩
theorem fp_X6_189 : FP RX6 189 3 11 .int := ⟨RX3, TX3, 12, tyX3, rfl, inlX3, by decide, wd_222, tyX3_ok, nmX3, by decide, by decide +kernel⟩
theorem wd_648 : Cond.methodLink RX6 192 yJ6_bitCount_0f7a4 ∈ TB := tb_of (List.mem_of_getElem? (i := 648) (by decide +kernel)) rfl
theorem sw_X6_192 : SW RX6 192 yJ6_bitCount_0f7a4 cJ6_bitCount_0f7a4 1 (some .int) 1 := ⟨⟨wd_648, wd_610, wd_88, wd_611⟩, by decide +kernel, by decide +kernel, by decide +kernel⟩
theorem wd_339 : Cond.fieldLink RX6 50 "ThreeDoors" "grown" "[Z" ∈ TB := tb_of (List.mem_of_getElem? (i := 339) (by decide +kernel)) rfl
theorem fg_X6_50 : FG RX6 50 6 6 := ⟨RX6, TX6, 7, rfl, inlX6, by decide, wd_339⟩
theorem wd_653 : Cond.methodLink RX6 197 yX5_builtBy ∈ TB := tb_of (List.mem_of_getElem? (i := 653) (by decide +kernel)) rfl
theorem wd_654 : Cond.instanceMethod yX5_builtBy ∈ TB := tb_of (List.mem_of_getElem? (i := 654) (by decide +kernel)) rfl
theorem wd_655 : Cond.selects RX5 yX5_builtBy yX5_builtBy ∈ TB := tb_of (List.mem_of_getElem? (i := 655) (by decide +kernel)) rfl
theorem wd_656 : Cond.code yX5_builtBy cX5_builtBy 4 (some .int) ∈ TB := tb_of (List.mem_of_getElem? (i := 656) (by decide +kernel)) rfl
theorem vw_X6_197 : VW RX6 197 yX5_builtBy cX5_builtBy 4 (some .int) 1 := ⟨⟨wd_653, wd_654, wd_655, wd_79, wd_656⟩, by decide +kernel, by decide +kernel, by decide +kernel⟩
theorem wd_657 : Cond.methodLink RX6 200 yX6_growLonger ∈ TB := tb_of (List.mem_of_getElem? (i := 657) (by decide +kernel)) rfl
theorem wd_659 : Cond.instanceMethod yX6_growLonger ∈ TB := tb_of (List.mem_of_getElem? (i := 659) (by decide +kernel)) rfl
theorem wd_19 : Cond.selects RX6 yX6_growLonger yX6_growLonger ∈ TB := tb_of (List.mem_of_getElem? (i := 19) (by decide +kernel)) rfl
theorem wd_660 : Cond.code yX6_growLonger cX6_growLonger 4 none ∈ TB := tb_of (List.mem_of_getElem? (i := 660) (by decide +kernel)) rfl
theorem vw_X6_200 : VW RX6 200 yX6_growLonger cX6_growLonger 4 none 1 := ⟨⟨wd_657, wd_659, wd_19, wd_78, wd_660⟩, by decide +kernel, by decide +kernel, by decide +kernel⟩
theorem wd_661 : Cond.methodLink RX6 204 yX6_fewestGrown ∈ TB := tb_of (List.mem_of_getElem? (i := 661) (by decide +kernel)) rfl
theorem wd_663 : Cond.instanceMethod yX6_fewestGrown ∈ TB := tb_of (List.mem_of_getElem? (i := 663) (by decide +kernel)) rfl
theorem wd_20 : Cond.selects RX6 yX6_fewestGrown yX6_fewestGrown ∈ TB := tb_of (List.mem_of_getElem? (i := 20) (by decide +kernel)) rfl
theorem wd_664 : Cond.code yX6_fewestGrown cX6_fewestGrown 4 (some .int) ∈ TB := tb_of (List.mem_of_getElem? (i := 664) (by decide +kernel)) rfl
theorem vw_X6_204 : VW RX6 204 yX6_fewestGrown cX6_fewestGrown 4 (some .int) 1 := ⟨⟨wd_661, wd_663, wd_20, wd_78, wd_664⟩, by decide +kernel, by decide +kernel, by decide +kernel⟩
theorem wd_673 : Cond.methodLink RX6 207 yX3_nearest ∈ TB := tb_of (List.mem_of_getElem? (i := 673) (by decide +kernel)) rfl
theorem wd_674 : Cond.instanceMethod yX3_nearest ∈ TB := tb_of (List.mem_of_getElem? (i := 674) (by decide +kernel)) rfl
theorem wd_675 : Cond.selects RX3 yX3_nearest yX3_nearest ∈ TB := tb_of (List.mem_of_getElem? (i := 675) (by decide +kernel)) rfl
theorem wd_676 : Cond.code yX3_nearest cX3_nearest 6 (some .int) ∈ TB := tb_of (List.mem_of_getElem? (i := 676) (by decide +kernel)) rfl
theorem vw_X6_207 : VW RX6 207 yX3_nearest cX3_nearest 6 (some .int) 2 := ⟨⟨wd_673, wd_674, wd_675, wd_81, wd_676⟩, by decide +kernel, by decide +kernel, by decide +kernel⟩
theorem wd_685 : Cond.methodLink RX6 210 Lib.Math.max.name ∈ TB := tb_of (List.mem_of_getElem? (i := 685) (by decide +kernel)) rfl
theorem mm_X6_210 : SW RX6 210 Lib.Math.max.name Lib.Math.max.code 2 (some .int) 2 := ⟨⟨wd_685, wd_511, wd_87, wd_512⟩, by decide +kernel, by decide +kernel, by decide +kernel⟩
theorem wd_690 : Cond.methodLink RX6 215 yX3_isLawful ∈ TB := tb_of (List.mem_of_getElem? (i := 690) (by decide +kernel)) rfl
theorem vw_X6_215 : VW RX6 215 yX3_isLawful cX3_isLawful 2 (some .boolean) 1 := ⟨⟨wd_690, wd_598, wd_599, wd_81, wd_600⟩, by decide +kernel, by decide +kernel, by decide +kernel⟩
theorem wd_317 : Cond.fieldLink RX6 218 "ThreeDoors$Shelf" "size" "I" ∈ TB := tb_of (List.mem_of_getElem? (i := 317) (by decide +kernel)) rfl
theorem fg_X6_218 : FG RX6 218 4 3 := ⟨RX4, TX4, 5, rfl, inlX4, by decide, wd_317⟩
theorem wd_695 : Cond.methodLink RX6 221 yX6_isToldFrom ∈ TB := tb_of (List.mem_of_getElem? (i := 695) (by decide +kernel)) rfl
theorem wd_697 : Cond.instanceMethod yX6_isToldFrom ∈ TB := tb_of (List.mem_of_getElem? (i := 697) (by decide +kernel)) rfl
theorem wd_21 : Cond.selects RX6 yX6_isToldFrom yX6_isToldFrom ∈ TB := tb_of (List.mem_of_getElem? (i := 21) (by decide +kernel)) rfl
theorem wd_698 : Cond.code yX6_isToldFrom cX6_isToldFrom 6 (some .boolean) ∈ TB := tb_of (List.mem_of_getElem? (i := 698) (by decide +kernel)) rfl
theorem vw_X6_221 : VW RX6 221 yX6_isToldFrom cX6_isToldFrom 6 (some .boolean) 3 := ⟨⟨wd_695, wd_697, wd_21, wd_78, wd_698⟩, by decide +kernel, by decide +kernel, by decide +kernel⟩
theorem wd_259 : Cond.fieldLink RX6 225 "ThreeDoors$Changes" "done" "I" ∈ TB := tb_of (List.mem_of_getElem? (i := 259) (by decide +kernel)) rfl
theorem fg_X6_225 : FG RX6 225 1 4 := ⟨RX1, TX1, 6, rfl, inlX1, by decide, wd_259⟩
theorem wd_707 : Cond.methodLink RX6 228 yX1_takeBack ∈ TB := tb_of (List.mem_of_getElem? (i := 707) (by decide +kernel)) rfl
theorem wd_708 : Cond.instanceMethod yX1_takeBack ∈ TB := tb_of (List.mem_of_getElem? (i := 708) (by decide +kernel)) rfl
theorem wd_709 : Cond.selects RX1 yX1_takeBack yX1_takeBack ∈ TB := tb_of (List.mem_of_getElem? (i := 709) (by decide +kernel)) rfl
theorem wd_710 : Cond.code yX1_takeBack cX1_takeBack 2 (some .int) ∈ TB := tb_of (List.mem_of_getElem? (i := 710) (by decide +kernel)) rfl
theorem vw_X6_228 : VW RX6 228 yX1_takeBack cX1_takeBack 2 (some .int) 1 := ⟨⟨wd_707, wd_708, wd_709, wd_82, wd_710⟩, by decide +kernel, by decide +kernel, by decide +kernel⟩
theorem wd_261 : Cond.fieldLink RX6 232 "ThreeDoors$Changes" "kept" "I" ∈ TB := tb_of (List.mem_of_getElem? (i := 261) (by decide +kernel)) rfl
theorem fg_X6_232 : FG RX6 232 1 5 := ⟨RX1, TX1, 6, rfl, inlX1, by decide, wd_261⟩
theorem wd_716 : Cond.methodLink RX6 235 yX1_doAgain ∈ TB := tb_of (List.mem_of_getElem? (i := 716) (by decide +kernel)) rfl
theorem wd_717 : Cond.instanceMethod yX1_doAgain ∈ TB := tb_of (List.mem_of_getElem? (i := 717) (by decide +kernel)) rfl
theorem wd_718 : Cond.selects RX1 yX1_doAgain yX1_doAgain ∈ TB := tb_of (List.mem_of_getElem? (i := 718) (by decide +kernel)) rfl
theorem wd_719 : Cond.code yX1_doAgain cX1_doAgain 2 (some .int) ∈ TB := tb_of (List.mem_of_getElem? (i := 719) (by decide +kernel)) rfl
theorem vw_X6_235 : VW RX6 235 yX1_doAgain cX1_doAgain 2 (some .int) 1 := ⟨⟨wd_716, wd_717, wd_718, wd_82, wd_719⟩, by decide +kernel, by decide +kernel, by decide +kernel⟩
theorem wd_724 : Cond.methodLink RX6 238 yX6_isKind ∈ TB := tb_of (List.mem_of_getElem? (i := 724) (by decide +kernel)) rfl
theorem wd_725 : Cond.static yX6_isKind ∈ TB := tb_of (List.mem_of_getElem? (i := 725) (by decide +kernel)) rfl
theorem wd_726 : Cond.code yX6_isKind cX6_isKind 1 (some .boolean) ∈ TB := tb_of (List.mem_of_getElem? (i := 726) (by decide +kernel)) rfl
theorem sw_X6_238 : SW RX6 238 yX6_isKind cX6_isKind 1 (some .boolean) 1 := ⟨⟨wd_724, wd_725, wd_78, wd_726⟩, by decide +kernel, by decide +kernel, by decide +kernel⟩
theorem wd_337 : Cond.fieldLink RX6 40 "ThreeDoors" "acts" "LThreeDoors$Acts;" ∈ TB := tb_of (List.mem_of_getElem? (i := 337) (by decide +kernel)) rfl
theorem fg_X6_40 : FG RX6 40 6 4 := ⟨RX6, TX6, 7, rfl, inlX6, by decide, wd_337⟩
theorem wd_286 : Cond.fieldLink RX6 241 "ThreeDoors$Acts" "bodies" "I" ∈ TB := tb_of (List.mem_of_getElem? (i := 286) (by decide +kernel)) rfl
theorem fg_X6_241 : FG RX6 241 0 2 := ⟨RX0, TX0, 6, rfl, inlX0, by decide, wd_286⟩
theorem wd_727 : Cond.methodLink RX6 244 yX0_addBody ∈ TB := tb_of (List.mem_of_getElem? (i := 727) (by decide +kernel)) rfl
theorem wd_728 : Cond.instanceMethod yX0_addBody ∈ TB := tb_of (List.mem_of_getElem? (i := 728) (by decide +kernel)) rfl
theorem wd_729 : Cond.selects RX0 yX0_addBody yX0_addBody ∈ TB := tb_of (List.mem_of_getElem? (i := 729) (by decide +kernel)) rfl
theorem wd_730 : Cond.code yX0_addBody cX0_addBody 2 (some .int) ∈ TB := tb_of (List.mem_of_getElem? (i := 730) (by decide +kernel)) rfl
theorem vw_X6_244 : VW RX6 244 yX0_addBody cX0_addBody 2 (some .int) 1 := ⟨⟨wd_727, wd_728, wd_729, wd_83, wd_730⟩, by decide +kernel, by decide +kernel, by decide +kernel⟩
theorem wd_735 : Cond.methodLink RX6 247 yX0_start ∈ TB := tb_of (List.mem_of_getElem? (i := 735) (by decide +kernel)) rfl
theorem wd_736 : Cond.instanceMethod yX0_start ∈ TB := tb_of (List.mem_of_getElem? (i := 736) (by decide +kernel)) rfl
theorem wd_737 : Cond.selects RX0 yX0_start yX0_start ∈ TB := tb_of (List.mem_of_getElem? (i := 737) (by decide +kernel)) rfl
theorem wd_738 : Cond.code yX0_start cX0_start 4 (some .int) ∈ TB := tb_of (List.mem_of_getElem? (i := 738) (by decide +kernel)) rfl
theorem vw_X6_247 : VW RX6 247 yX0_start cX0_start 4 (some .int) 3 := ⟨⟨wd_735, wd_736, wd_737, wd_83, wd_738⟩, by decide +kernel, by decide +kernel, by decide +kernel⟩
theorem wd_288 : Cond.fieldLink RX6 250 "ThreeDoors$Acts" "began" "I" ∈ TB := tb_of (List.mem_of_getElem? (i := 288) (by decide +kernel)) rfl
theorem fg_X6_250 : FG RX6 250 0 3 := ⟨RX0, TX0, 6, rfl, inlX0, by decide, wd_288⟩
theorem wd_284 : Cond.fieldLink RX6 253 "ThreeDoors$Acts" "traced" "[I" ∈ TB := tb_of (List.mem_of_getElem? (i := 284) (by decide +kernel)) rfl
theorem fg_X6_253 : FG RX6 253 0 1 := ⟨RX0, TX0, 6, rfl, inlX0, by decide, wd_284⟩
theorem fp_X6_81 : FP RX6 81 4 0 .int := ⟨RX4, TX4, 5, tyX4, rfl, inlX4, by decide, wd_312, tyX4_ok, nmX4, by decide, by decide +kernel⟩
theorem wd_313 : Cond.fieldLink RX6 256 "ThreeDoors$Shelf" "body" "I" ∈ TB := tb_of (List.mem_of_getElem? (i := 313) (by decide +kernel)) rfl
theorem fp_X6_256 : FP RX6 256 4 1 .int := ⟨RX4, TX4, 5, tyX4, rfl, inlX4, by decide, wd_313, tyX4_ok, nmX4, by decide, by decide +kernel⟩
theorem wd_766 : Cond.methodLink RX6 259 yX4_becomeRow ∈ TB := tb_of (List.mem_of_getElem? (i := 766) (by decide +kernel)) rfl
theorem wd_767 : Cond.instanceMethod yX4_becomeRow ∈ TB := tb_of (List.mem_of_getElem? (i := 767) (by decide +kernel)) rfl
theorem wd_768 : Cond.selects RX4 yX4_becomeRow yX4_becomeRow ∈ TB := tb_of (List.mem_of_getElem? (i := 768) (by decide +kernel)) rfl
theorem wd_769 : Cond.code yX4_becomeRow cX4_becomeRow 4 none ∈ TB := tb_of (List.mem_of_getElem? (i := 769) (by decide +kernel)) rfl
theorem vw_X6_259 : VW RX6 259 yX4_becomeRow cX4_becomeRow 4 none 2 := ⟨⟨wd_766, wd_767, wd_768, wd_84, wd_769⟩, by decide +kernel, by decide +kernel, by decide +kernel⟩
theorem wd_774 : Cond.methodLink RX6 263 yX6_refusalOf ∈ TB := tb_of (List.mem_of_getElem? (i := 774) (by decide +kernel)) rfl
theorem wd_776 : Cond.instanceMethod yX6_refusalOf ∈ TB := tb_of (List.mem_of_getElem? (i := 776) (by decide +kernel)) rfl
theorem wd_24 : Cond.selects RX6 yX6_refusalOf yX6_refusalOf ∈ TB := tb_of (List.mem_of_getElem? (i := 24) (by decide +kernel)) rfl
theorem wd_777 : Cond.code yX6_refusalOf cX6_refusalOf 3 (some .int) ∈ TB := tb_of (List.mem_of_getElem? (i := 777) (by decide +kernel)) rfl
theorem vw_X6_263 : VW RX6 263 yX6_refusalOf cX6_refusalOf 3 (some .int) 2 := ⟨⟨wd_774, wd_776, wd_24, wd_78, wd_777⟩, by decide +kernel, by decide +kernel, by decide +kernel⟩
theorem wd_319 : Cond.fieldLink RX6 266 "ThreeDoors$Shelf" "elements" "[J" ∈ TB := tb_of (List.mem_of_getElem? (i := 319) (by decide +kernel)) rfl
theorem fg_X6_266 : FG RX6 266 4 4 := ⟨RX4, TX4, 5, rfl, inlX4, by decide, wd_319⟩
theorem wd_778 : Cond.methodLink RX6 270 yX4_lowestBits ∈ TB := tb_of (List.mem_of_getElem? (i := 778) (by decide +kernel)) rfl
theorem wd_779 : Cond.instanceMethod yX4_lowestBits ∈ TB := tb_of (List.mem_of_getElem? (i := 779) (by decide +kernel)) rfl
theorem wd_780 : Cond.selects RX4 yX4_lowestBits yX4_lowestBits ∈ TB := tb_of (List.mem_of_getElem? (i := 780) (by decide +kernel)) rfl
theorem wd_781 : Cond.code yX4_lowestBits cX4_lowestBits 3 (some .long) ∈ TB := tb_of (List.mem_of_getElem? (i := 781) (by decide +kernel)) rfl
theorem vw_X6_270 : VW RX6 270 yX4_lowestBits cX4_lowestBits 3 (some .long) 1 := ⟨⟨wd_778, wd_779, wd_780, wd_84, wd_781⟩, by decide +kernel, by decide +kernel, by decide +kernel⟩
theorem wd_786 : Cond.constantLong RX6 276 (-9223372036854775808) ∈ TB := tb_of (List.mem_of_getElem? (i := 786) (by decide +kernel)) rfl
theorem wd_315 : Cond.fieldLink RX6 278 "ThreeDoors$Shelf" "sort" "I" ∈ TB := tb_of (List.mem_of_getElem? (i := 315) (by decide +kernel)) rfl
theorem fg_X6_278 : FG RX6 278 4 2 := ⟨RX4, TX4, 5, rfl, inlX4, by decide, wd_315⟩
theorem wd_791 : Cond.methodLink RX6 281 yX4_hasRun ∈ TB := tb_of (List.mem_of_getElem? (i := 791) (by decide +kernel)) rfl
theorem wd_792 : Cond.instanceMethod yX4_hasRun ∈ TB := tb_of (List.mem_of_getElem? (i := 792) (by decide +kernel)) rfl
theorem wd_793 : Cond.selects RX4 yX4_hasRun yX4_hasRun ∈ TB := tb_of (List.mem_of_getElem? (i := 793) (by decide +kernel)) rfl
theorem wd_794 : Cond.code yX4_hasRun cX4_hasRun 3 (some .boolean) ∈ TB := tb_of (List.mem_of_getElem? (i := 794) (by decide +kernel)) rfl
theorem vw_X6_281 : VW RX6 281 yX4_hasRun cX4_hasRun 3 (some .boolean) 2 := ⟨⟨wd_791, wd_792, wd_793, wd_84, wd_794⟩, by decide +kernel, by decide +kernel, by decide +kernel⟩
theorem wd_795 : Cond.methodLink RX6 284 arraycopyName ∈ TB := tb_of (List.mem_of_getElem? (i := 795) (by decide +kernel)) rfl
theorem ac_X6_284 : Cond.methodLink RX6 284 arraycopyName ∈ TB ∧ Cond.native arraycopyName ∈ TB ∧ Cond.static arraycopyName ∈ TB ∧ Cond.initialized "java/lang/System" ∈ TB := ⟨wd_795, wd_448, wd_447, wd_86⟩
theorem fg_X6_256 : FG RX6 256 4 1 := ⟨RX4, TX4, 5, rfl, inlX4, by decide, wd_313⟩
theorem wd_282 : Cond.fieldLink RX6 290 "ThreeDoors$Acts" "kinds" "[I" ∈ TB := tb_of (List.mem_of_getElem? (i := 282) (by decide +kernel)) rfl
theorem fg_X6_290 : FG RX6 290 0 0 := ⟨RX0, TX0, 6, rfl, inlX0, by decide, wd_282⟩
theorem wd_800 : Cond.methodLink RX6 293 yX0_isUnder ∈ TB := tb_of (List.mem_of_getElem? (i := 800) (by decide +kernel)) rfl
theorem wd_801 : Cond.static yX0_isUnder ∈ TB := tb_of (List.mem_of_getElem? (i := 801) (by decide +kernel)) rfl
theorem wd_802 : Cond.code yX0_isUnder cX0_isUnder 4 (some .boolean) ∈ TB := tb_of (List.mem_of_getElem? (i := 802) (by decide +kernel)) rfl
theorem sw_X6_293 : SW RX6 293 yX0_isUnder cX0_isUnder 4 (some .boolean) 2 := ⟨⟨wd_800, wd_801, wd_83, wd_802⟩, by decide +kernel, by decide +kernel, by decide +kernel⟩
theorem wd_109 : Cond.fieldLink RX6 296 "ThreeDoors$Town" "year" "[I" ∈ TB := tb_of (List.mem_of_getElem? (i := 109) (by decide +kernel)) rfl
theorem fg_X6_296 : FG RX6 296 5 1 := ⟨RX5, TX5, 10, rfl, inlX5, by decide, wd_109⟩
theorem wd_458 : Cond.methodLink RX6 299 yX5_joinsAt ∈ TB := tb_of (List.mem_of_getElem? (i := 458) (by decide +kernel)) rfl
theorem vw_X6_299 : VW RX6 299 yX5_joinsAt cX5_joinsAt 5 (some .int) 2 := ⟨⟨wd_458, wd_459, wd_460, wd_79, wd_461⟩, by decide +kernel, by decide +kernel, by decide +kernel⟩
theorem wd_465 : Cond.methodLink RX6 302 yX2_reachOf ∈ TB := tb_of (List.mem_of_getElem? (i := 465) (by decide +kernel)) rfl
theorem vw_X6_302 : VW RX6 302 yX2_reachOf cX2_reachOf 5 (some .int) 4 := ⟨⟨wd_465, wd_466, wd_467, wd_80, wd_468⟩, by decide +kernel, by decide +kernel, by decide +kernel⟩
theorem wd_824 : Cond.fieldLink RX7 31 "ThreeDoorsModel" "near" "I" ∈ TB := tb_of (List.mem_of_getElem? (i := 824) (by decide +kernel)) rfl
theorem fp_X7_31 : FP RX7 31 7 12 .int := ⟨RX7, TX7, 47, tyX7, rfl, inlX7, by decide, wd_824, tyX7_ok, nmX7, by decide, by decide +kernel⟩
theorem wd_813 : Cond.fieldLink RX7 111 "ThreeDoorsModel" "doors" "I" ∈ TB := tb_of (List.mem_of_getElem? (i := 813) (by decide +kernel)) rfl
theorem fg_X7_111 : FG RX7 111 7 1 := ⟨RX7, TX7, 47, rfl, inlX7, by decide, wd_813⟩
theorem wd_959 : Cond.methodLink RX7 114 yX7_in ∈ TB := tb_of (List.mem_of_getElem? (i := 959) (by decide +kernel)) rfl
theorem wd_960 : Cond.static yX7_in ∈ TB := tb_of (List.mem_of_getElem? (i := 960) (by decide +kernel)) rfl
theorem wd_85 : Cond.initialized RX7 ∈ TB := tb_of (List.mem_of_getElem? (i := 85) (by decide +kernel)) rfl
theorem wd_961 : Cond.code yX7_in cX7_in 3 (some .boolean) ∈ TB := tb_of (List.mem_of_getElem? (i := 961) (by decide +kernel)) rfl
theorem sw_X7_114 : SW RX7 114 yX7_in cX7_in 3 (some .boolean) 3 := ⟨⟨wd_959, wd_960, wd_85, wd_961⟩, by decide +kernel, by decide +kernel, by decide +kernel⟩
theorem wd_970 : Cond.methodLink RX7 118 yX7_isDoor ∈ TB := tb_of (List.mem_of_getElem? (i := 970) (by decide +kernel)) rfl
theorem wd_972 : Cond.instanceMethod yX7_isDoor ∈ TB := tb_of (List.mem_of_getElem? (i := 972) (by decide +kernel)) rfl
theorem wd_26 : Cond.selects RX7 yX7_isDoor yX7_isDoor ∈ TB := tb_of (List.mem_of_getElem? (i := 26) (by decide +kernel)) rfl
theorem wd_973 : Cond.code yX7_isDoor cX7_isDoor 2 (some .boolean) ∈ TB := tb_of (List.mem_of_getElem? (i := 973) (by decide +kernel)) rfl
theorem vw_X7_118 : VW RX7 118 yX7_isDoor cX7_isDoor 2 (some .boolean) 1 := ⟨⟨wd_970, wd_972, wd_26, wd_85, wd_973⟩, by decide +kernel, by decide +kernel, by decide +kernel⟩
theorem wd_814 : Cond.fieldLink RX7 7 "ThreeDoorsModel" "price" "[I" ∈ TB := tb_of (List.mem_of_getElem? (i := 814) (by decide +kernel)) rfl
theorem fg_X7_7 : FG RX7 7 7 2 := ⟨RX7, TX7, 47, rfl, inlX7, by decide, wd_814⟩
theorem wd_815 : Cond.fieldLink RX7 13 "ThreeDoorsModel" "year" "[I" ∈ TB := tb_of (List.mem_of_getElem? (i := 815) (by decide +kernel)) rfl
theorem fg_X7_13 : FG RX7 13 7 3 := ⟨RX7, TX7, 47, rfl, inlX7, by decide, wd_815⟩
theorem fp_X7_111 : FP RX7 111 7 1 .int := ⟨RX7, TX7, 47, tyX7, rfl, inlX7, by decide, wd_813, tyX7_ok, nmX7, by decide, by decide +kernel⟩
theorem wd_817 : Cond.fieldLink RX7 16 "ThreeDoorsModel" "joinA" "[I" ∈ TB := tb_of (List.mem_of_getElem? (i := 817) (by decide +kernel)) rfl
theorem fg_X7_16 : FG RX7 16 7 5 := ⟨RX7, TX7, 47, rfl, inlX7, by decide, wd_817⟩
theorem wd_816 : Cond.fieldLink RX7 122 "ThreeDoorsModel" "joins" "I" ∈ TB := tb_of (List.mem_of_getElem? (i := 816) (by decide +kernel)) rfl
theorem fg_X7_122 : FG RX7 122 7 4 := ⟨RX7, TX7, 47, rfl, inlX7, by decide, wd_816⟩
theorem wd_818 : Cond.fieldLink RX7 19 "ThreeDoorsModel" "joinB" "[I" ∈ TB := tb_of (List.mem_of_getElem? (i := 818) (by decide +kernel)) rfl
theorem fg_X7_19 : FG RX7 19 7 6 := ⟨RX7, TX7, 47, rfl, inlX7, by decide, wd_818⟩
theorem fp_X7_122 : FP RX7 122 7 4 .int := ⟨RX7, TX7, 47, tyX7, rfl, inlX7, by decide, wd_816, tyX7_ok, nmX7, by decide, by decide +kernel⟩
theorem wd_966 : Cond.methodLink RX7 125 yX7_areTwo ∈ TB := tb_of (List.mem_of_getElem? (i := 966) (by decide +kernel)) rfl
theorem wd_968 : Cond.instanceMethod yX7_areTwo ∈ TB := tb_of (List.mem_of_getElem? (i := 968) (by decide +kernel)) rfl
theorem wd_25 : Cond.selects RX7 yX7_areTwo yX7_areTwo ∈ TB := tb_of (List.mem_of_getElem? (i := 25) (by decide +kernel)) rfl
theorem wd_969 : Cond.code yX7_areTwo cX7_areTwo 2 (some .boolean) ∈ TB := tb_of (List.mem_of_getElem? (i := 969) (by decide +kernel)) rfl
theorem vw_X7_125 : VW RX7 125 yX7_areTwo cX7_areTwo 2 (some .boolean) 1 := ⟨⟨wd_966, wd_968, wd_25, wd_85, wd_969⟩, by decide +kernel, by decide +kernel, by decide +kernel⟩
theorem wd_974 : Cond.methodLink RX7 128 yX7_addJoin ∈ TB := tb_of (List.mem_of_getElem? (i := 974) (by decide +kernel)) rfl
theorem wd_976 : Cond.instanceMethod yX7_addJoin ∈ TB := tb_of (List.mem_of_getElem? (i := 976) (by decide +kernel)) rfl
theorem wd_27 : Cond.selects RX7 yX7_addJoin yX7_addJoin ∈ TB := tb_of (List.mem_of_getElem? (i := 27) (by decide +kernel)) rfl
theorem wd_977 : Cond.code yX7_addJoin cX7_addJoin 3 (some .int) ∈ TB := tb_of (List.mem_of_getElem? (i := 977) (by decide +kernel)) rfl
theorem vw_X7_128 : VW RX7 128 yX7_addJoin cX7_addJoin 3 (some .int) 2 := ⟨⟨wd_974, wd_976, wd_27, wd_85, wd_977⟩, by decide +kernel, by decide +kernel, by decide +kernel⟩
theorem wd_982 : Cond.methodLink RX7 132 yX7_isShelf ∈ TB := tb_of (List.mem_of_getElem? (i := 982) (by decide +kernel)) rfl
theorem wd_983 : Cond.static yX7_isShelf ∈ TB := tb_of (List.mem_of_getElem? (i := 983) (by decide +kernel)) rfl
theorem wd_984 : Cond.code yX7_isShelf cX7_isShelf 1 (some .boolean) ∈ TB := tb_of (List.mem_of_getElem? (i := 984) (by decide +kernel)) rfl
theorem sw_X7_132 : SW RX7 132 yX7_isShelf cX7_isShelf 1 (some .boolean) 1 := ⟨⟨wd_982, wd_983, wd_85, wd_984⟩, by decide +kernel, by decide +kernel, by decide +kernel⟩
theorem wd_855 : Cond.fieldLink RX7 95 "ThreeDoorsModel" "holds" "[I" ∈ TB := tb_of (List.mem_of_getElem? (i := 855) (by decide +kernel)) rfl
theorem fg_X7_95 : FG RX7 95 7 43 := ⟨RX7, TX7, 47, rfl, inlX7, by decide, wd_855⟩
theorem wd_856 : Cond.fieldLink RX7 98 "ThreeDoorsModel" "size" "[I" ∈ TB := tb_of (List.mem_of_getElem? (i := 856) (by decide +kernel)) rfl
theorem fg_X7_98 : FG RX7 98 7 44 := ⟨RX7, TX7, 47, rfl, inlX7, by decide, wd_856⟩
theorem wd_857 : Cond.fieldLink RX7 101 "ThreeDoorsModel" "elements" "[J" ∈ TB := tb_of (List.mem_of_getElem? (i := 857) (by decide +kernel)) rfl
theorem fg_X7_101 : FG RX7 101 7 45 := ⟨RX7, TX7, 47, rfl, inlX7, by decide, wd_857⟩
theorem wd_819 : Cond.fieldLink RX7 135 "ThreeDoorsModel" "walls" "I" ∈ TB := tb_of (List.mem_of_getElem? (i := 819) (by decide +kernel)) rfl
theorem fg_X7_135 : FG RX7 135 7 7 := ⟨RX7, TX7, 47, rfl, inlX7, by decide, wd_819⟩
theorem wd_820 : Cond.fieldLink RX7 22 "ThreeDoorsModel" "wallA" "[I" ∈ TB := tb_of (List.mem_of_getElem? (i := 820) (by decide +kernel)) rfl
theorem fg_X7_22 : FG RX7 22 7 8 := ⟨RX7, TX7, 47, rfl, inlX7, by decide, wd_820⟩
theorem wd_821 : Cond.fieldLink RX7 25 "ThreeDoorsModel" "wallB" "[I" ∈ TB := tb_of (List.mem_of_getElem? (i := 821) (by decide +kernel)) rfl
theorem fg_X7_25 : FG RX7 25 7 9 := ⟨RX7, TX7, 47, rfl, inlX7, by decide, wd_821⟩
theorem wd_822 : Cond.fieldLink RX7 28 "ThreeDoorsModel" "cost" "[I" ∈ TB := tb_of (List.mem_of_getElem? (i := 822) (by decide +kernel)) rfl
theorem fg_X7_28 : FG RX7 28 7 10 := ⟨RX7, TX7, 47, rfl, inlX7, by decide, wd_822⟩
theorem fp_X7_135 : FP RX7 135 7 7 .int := ⟨RX7, TX7, 47, tyX7, rfl, inlX7, by decide, wd_819, tyX7_ok, nmX7, by decide, by decide +kernel⟩
theorem wd_993 : Cond.methodLink RX7 138 yX7_isLaying ∈ TB := tb_of (List.mem_of_getElem? (i := 993) (by decide +kernel)) rfl
theorem wd_995 : Cond.instanceMethod yX7_isLaying ∈ TB := tb_of (List.mem_of_getElem? (i := 995) (by decide +kernel)) rfl
theorem wd_28 : Cond.selects RX7 yX7_isLaying yX7_isLaying ∈ TB := tb_of (List.mem_of_getElem? (i := 28) (by decide +kernel)) rfl
theorem wd_996 : Cond.code yX7_isLaying cX7_isLaying 2 (some .boolean) ∈ TB := tb_of (List.mem_of_getElem? (i := 996) (by decide +kernel)) rfl
theorem vw_X7_138 : VW RX7 138 yX7_isLaying cX7_isLaying 2 (some .boolean) 1 := ⟨⟨wd_993, wd_995, wd_28, wd_85, wd_996⟩, by decide +kernel, by decide +kernel, by decide +kernel⟩
theorem wd_823 : Cond.fieldLink RX7 141 "ThreeDoorsModel" "olds" "I" ∈ TB := tb_of (List.mem_of_getElem? (i := 823) (by decide +kernel)) rfl
theorem fg_X7_141 : FG RX7 141 7 11 := ⟨RX7, TX7, 47, rfl, inlX7, by decide, wd_823⟩
theorem fp_X7_141 : FP RX7 141 7 11 .int := ⟨RX7, TX7, 47, tyX7, rfl, inlX7, by decide, wd_823, tyX7_ok, nmX7, by decide, by decide +kernel⟩
theorem fg_X7_31 : FG RX7 31 7 12 := ⟨RX7, TX7, 47, rfl, inlX7, by decide, wd_824⟩
theorem wd_1021 : Cond.methodLink RX7 144 yX7_valueAt ∈ TB := tb_of (List.mem_of_getElem? (i := 1021) (by decide +kernel)) rfl
theorem wd_1023 : Cond.instanceMethod yX7_valueAt ∈ TB := tb_of (List.mem_of_getElem? (i := 1023) (by decide +kernel)) rfl
theorem wd_31 : Cond.selects RX7 yX7_valueAt yX7_valueAt ∈ TB := tb_of (List.mem_of_getElem? (i := 31) (by decide +kernel)) rfl
theorem wd_1024 : Cond.code yX7_valueAt cX7_valueAt 3 (some .int) ∈ TB := tb_of (List.mem_of_getElem? (i := 1024) (by decide +kernel)) rfl
theorem vw_X7_144 : VW RX7 144 yX7_valueAt cX7_valueAt 3 (some .int) 2 := ⟨⟨wd_1021, wd_1023, wd_31, wd_85, wd_1024⟩, by decide +kernel, by decide +kernel, by decide +kernel⟩
theorem wd_826 : Cond.fieldLink RX7 147 "ThreeDoorsModel" "undoneMany" "I" ∈ TB := tb_of (List.mem_of_getElem? (i := 826) (by decide +kernel)) rfl
theorem fp_X7_147 : FP RX7 147 7 14 .int := ⟨RX7, TX7, 47, tyX7, rfl, inlX7, by decide, wd_826, tyX7_ok, nmX7, by decide, by decide +kernel⟩
theorem wd_825 : Cond.fieldLink RX7 150 "ThreeDoorsModel" "doneMany" "I" ∈ TB := tb_of (List.mem_of_getElem? (i := 825) (by decide +kernel)) rfl
theorem fg_X7_150 : FG RX7 150 7 13 := ⟨RX7, TX7, 47, rfl, inlX7, by decide, wd_825⟩
theorem wd_827 : Cond.fieldLink RX7 35 "ThreeDoorsModel" "changeOf" "[I" ∈ TB := tb_of (List.mem_of_getElem? (i := 827) (by decide +kernel)) rfl
theorem fg_X7_35 : FG RX7 35 7 15 := ⟨RX7, TX7, 47, rfl, inlX7, by decide, wd_827⟩
theorem wd_828 : Cond.fieldLink RX7 38 "ThreeDoorsModel" "changeAt" "[I" ∈ TB := tb_of (List.mem_of_getElem? (i := 828) (by decide +kernel)) rfl
theorem fg_X7_38 : FG RX7 38 7 16 := ⟨RX7, TX7, 47, rfl, inlX7, by decide, wd_828⟩
theorem wd_829 : Cond.fieldLink RX7 41 "ThreeDoorsModel" "before" "[I" ∈ TB := tb_of (List.mem_of_getElem? (i := 829) (by decide +kernel)) rfl
theorem fg_X7_41 : FG RX7 41 7 17 := ⟨RX7, TX7, 47, rfl, inlX7, by decide, wd_829⟩
theorem wd_830 : Cond.fieldLink RX7 44 "ThreeDoorsModel" "behind" "[I" ∈ TB := tb_of (List.mem_of_getElem? (i := 830) (by decide +kernel)) rfl
theorem fg_X7_44 : FG RX7 44 7 18 := ⟨RX7, TX7, 47, rfl, inlX7, by decide, wd_830⟩
theorem fp_X7_150 : FP RX7 150 7 13 .int := ⟨RX7, TX7, 47, tyX7, rfl, inlX7, by decide, wd_825, tyX7_ok, nmX7, by decide, by decide +kernel⟩
theorem wd_1005 : Cond.methodLink RX7 153 yX7_lays ∈ TB := tb_of (List.mem_of_getElem? (i := 1005) (by decide +kernel)) rfl
theorem wd_1007 : Cond.instanceMethod yX7_lays ∈ TB := tb_of (List.mem_of_getElem? (i := 1007) (by decide +kernel)) rfl
theorem wd_29 : Cond.selects RX7 yX7_lays yX7_lays ∈ TB := tb_of (List.mem_of_getElem? (i := 29) (by decide +kernel)) rfl
theorem wd_1008 : Cond.code yX7_lays cX7_lays 4 none ∈ TB := tb_of (List.mem_of_getElem? (i := 1008) (by decide +kernel)) rfl
theorem vw_X7_153 : VW RX7 153 yX7_lays cX7_lays 4 none 3 := ⟨⟨wd_1005, wd_1007, wd_29, wd_85, wd_1008⟩, by decide +kernel, by decide +kernel, by decide +kernel⟩
theorem fg_X7_147 : FG RX7 147 7 14 := ⟨RX7, TX7, 47, rfl, inlX7, by decide, wd_826⟩
theorem wd_1017 : Cond.methodLink RX7 157 yX7_changes ∈ TB := tb_of (List.mem_of_getElem? (i := 1017) (by decide +kernel)) rfl
theorem wd_1019 : Cond.instanceMethod yX7_changes ∈ TB := tb_of (List.mem_of_getElem? (i := 1019) (by decide +kernel)) rfl
theorem wd_30 : Cond.selects RX7 yX7_changes yX7_changes ∈ TB := tb_of (List.mem_of_getElem? (i := 30) (by decide +kernel)) rfl
theorem wd_1020 : Cond.code yX7_changes cX7_changes 6 (some .int) ∈ TB := tb_of (List.mem_of_getElem? (i := 1020) (by decide +kernel)) rfl
theorem vw_X7_157 : VW RX7 157 yX7_changes cX7_changes 6 (some .int) 3 := ⟨⟨wd_1017, wd_1019, wd_30, wd_85, wd_1020⟩, by decide +kernel, by decide +kernel, by decide +kernel⟩
theorem wd_1029 : Cond.methodLink RX7 161 yX7_joinsOf ∈ TB := tb_of (List.mem_of_getElem? (i := 1029) (by decide +kernel)) rfl
theorem wd_1031 : Cond.instanceMethod yX7_joinsOf ∈ TB := tb_of (List.mem_of_getElem? (i := 1031) (by decide +kernel)) rfl
theorem wd_32 : Cond.selects RX7 yX7_joinsOf yX7_joinsOf ∈ TB := tb_of (List.mem_of_getElem? (i := 32) (by decide +kernel)) rfl
theorem wd_1032 : Cond.code yX7_joinsOf cX7_joinsOf 4 (some .int) ∈ TB := tb_of (List.mem_of_getElem? (i := 1032) (by decide +kernel)) rfl
theorem vw_X7_161 : VW RX7 161 yX7_joinsOf cX7_joinsOf 4 (some .int) 1 := ⟨⟨wd_1029, wd_1031, wd_32, wd_85, wd_1032⟩, by decide +kernel, by decide +kernel, by decide +kernel⟩
theorem wd_1033 : Cond.methodLink RX7 165 yX7_reachOf ∈ TB := tb_of (List.mem_of_getElem? (i := 1033) (by decide +kernel)) rfl
theorem wd_1035 : Cond.instanceMethod yX7_reachOf ∈ TB := tb_of (List.mem_of_getElem? (i := 1035) (by decide +kernel)) rfl
theorem wd_33 : Cond.selects RX7 yX7_reachOf yX7_reachOf ∈ TB := tb_of (List.mem_of_getElem? (i := 33) (by decide +kernel)) rfl
theorem wd_1036 : Cond.code yX7_reachOf cX7_reachOf 2 (some .int) ∈ TB := tb_of (List.mem_of_getElem? (i := 1036) (by decide +kernel)) rfl
theorem vw_X7_165 : VW RX7 165 yX7_reachOf cX7_reachOf 2 (some .int) 1 := ⟨⟨wd_1033, wd_1035, wd_33, wd_85, wd_1036⟩, by decide +kernel, by decide +kernel, by decide +kernel⟩
theorem wd_832 : Cond.fieldLink RX7 168 "ThreeDoorsModel" "taped" "I" ∈ TB := tb_of (List.mem_of_getElem? (i := 832) (by decide +kernel)) rfl
theorem fg_X7_168 : FG RX7 168 7 20 := ⟨RX7, TX7, 47, rfl, inlX7, by decide, wd_832⟩
theorem wd_831 : Cond.fieldLink RX7 47 "ThreeDoorsModel" "tape" "[B" ∈ TB := tb_of (List.mem_of_getElem? (i := 831) (by decide +kernel)) rfl
theorem fg_X7_47 : FG RX7 47 7 19 := ⟨RX7, TX7, 47, rfl, inlX7, by decide, wd_831⟩
theorem fp_X7_168 : FP RX7 168 7 20 .int := ⟨RX7, TX7, 47, tyX7, rfl, inlX7, by decide, wd_832, tyX7_ok, nmX7, by decide, by decide +kernel⟩
theorem wd_833 : Cond.fieldLink RX7 171 "ThreeDoorsModel" "here" "I" ∈ TB := tb_of (List.mem_of_getElem? (i := 833) (by decide +kernel)) rfl
theorem fg_X7_171 : FG RX7 171 7 21 := ⟨RX7, TX7, 47, rfl, inlX7, by decide, wd_833⟩
theorem wd_834 : Cond.fieldLink RX7 174 "ThreeDoorsModel" "fault" "I" ∈ TB := tb_of (List.mem_of_getElem? (i := 834) (by decide +kernel)) rfl
theorem fg_X7_174 : FG RX7 174 7 22 := ⟨RX7, TX7, 47, rfl, inlX7, by decide, wd_834⟩
theorem fp_X7_174 : FP RX7 174 7 22 .int := ⟨RX7, TX7, 47, tyX7, rfl, inlX7, by decide, wd_834, tyX7_ok, nmX7, by decide, by decide +kernel⟩
theorem wd_837 : Cond.fieldLink RX7 51 "ThreeDoorsModel" "act" "[B" ∈ TB := tb_of (List.mem_of_getElem? (i := 837) (by decide +kernel)) rfl
theorem fg_X7_51 : FG RX7 51 7 25 := ⟨RX7, TX7, 47, rfl, inlX7, by decide, wd_837⟩
theorem wd_836 : Cond.fieldLink RX7 177 "ThreeDoorsModel" "laid" "I" ∈ TB := tb_of (List.mem_of_getElem? (i := 836) (by decide +kernel)) rfl
theorem fg_X7_177 : FG RX7 177 7 24 := ⟨RX7, TX7, 47, rfl, inlX7, by decide, wd_836⟩
theorem wd_838 : Cond.fieldLink RX7 54 "ThreeDoorsModel" "with" "[I" ∈ TB := tb_of (List.mem_of_getElem? (i := 838) (by decide +kernel)) rfl
theorem fg_X7_54 : FG RX7 54 7 26 := ⟨RX7, TX7, 47, rfl, inlX7, by decide, wd_838⟩
theorem fp_X7_177 : FP RX7 177 7 24 .int := ⟨RX7, TX7, 47, tyX7, rfl, inlX7, by decide, wd_836, tyX7_ok, nmX7, by decide, by decide +kernel⟩
theorem wd_835 : Cond.fieldLink RX7 180 "ThreeDoorsModel" "open" "I" ∈ TB := tb_of (List.mem_of_getElem? (i := 835) (by decide +kernel)) rfl
theorem fg_X7_180 : FG RX7 180 7 23 := ⟨RX7, TX7, 47, rfl, inlX7, by decide, wd_835⟩
theorem wd_1106 : Cond.methodLink RX7 183 yX7_faulty ∈ TB := tb_of (List.mem_of_getElem? (i := 1106) (by decide +kernel)) rfl
theorem wd_1108 : Cond.instanceMethod yX7_faulty ∈ TB := tb_of (List.mem_of_getElem? (i := 1108) (by decide +kernel)) rfl
theorem wd_47 : Cond.selects RX7 yX7_faulty yX7_faulty ∈ TB := tb_of (List.mem_of_getElem? (i := 47) (by decide +kernel)) rfl
theorem wd_1109 : Cond.code yX7_faulty cX7_faulty 1 none ∈ TB := tb_of (List.mem_of_getElem? (i := 1109) (by decide +kernel)) rfl
theorem vw_X7_183 : VW RX7 183 yX7_faulty cX7_faulty 1 none 0 := ⟨⟨wd_1106, wd_1108, wd_47, wd_85, wd_1109⟩, by decide +kernel, by decide +kernel, by decide +kernel⟩
theorem fp_X7_180 : FP RX7 180 7 23 .int := ⟨RX7, TX7, 47, tyX7, rfl, inlX7, by decide, wd_835, tyX7_ok, nmX7, by decide, by decide +kernel⟩
theorem fp_X7_171 : FP RX7 171 7 21 .int := ⟨RX7, TX7, 47, tyX7, rfl, inlX7, by decide, wd_833, tyX7_ok, nmX7, by decide, by decide +kernel⟩
theorem wd_1091 : Cond.methodLink RX7 186 yX7_look ∈ TB := tb_of (List.mem_of_getElem? (i := 1091) (by decide +kernel)) rfl
theorem wd_1093 : Cond.instanceMethod yX7_look ∈ TB := tb_of (List.mem_of_getElem? (i := 1093) (by decide +kernel)) rfl
theorem wd_44 : Cond.selects RX7 yX7_look yX7_look ∈ TB := tb_of (List.mem_of_getElem? (i := 44) (by decide +kernel)) rfl
theorem wd_1094 : Cond.code yX7_look cX7_look 1 (some .int) ∈ TB := tb_of (List.mem_of_getElem? (i := 1094) (by decide +kernel)) rfl
theorem vw_X7_186 : VW RX7 186 yX7_look cX7_look 1 (some .int) 0 := ⟨⟨wd_1091, wd_1093, wd_44, wd_85, wd_1094⟩, by decide +kernel, by decide +kernel, by decide +kernel⟩
theorem wd_1098 : Cond.methodLink RX7 190 yX7_addStep ∈ TB := tb_of (List.mem_of_getElem? (i := 1098) (by decide +kernel)) rfl
theorem wd_1100 : Cond.instanceMethod yX7_addStep ∈ TB := tb_of (List.mem_of_getElem? (i := 1100) (by decide +kernel)) rfl
theorem wd_45 : Cond.selects RX7 yX7_addStep yX7_addStep ∈ TB := tb_of (List.mem_of_getElem? (i := 45) (by decide +kernel)) rfl
theorem wd_1101 : Cond.code yX7_addStep cX7_addStep 3 none ∈ TB := tb_of (List.mem_of_getElem? (i := 1101) (by decide +kernel)) rfl
theorem vw_X7_190 : VW RX7 190 yX7_addStep cX7_addStep 3 none 2 := ⟨⟨wd_1098, wd_1100, wd_45, wd_85, wd_1101⟩, by decide +kernel, by decide +kernel, by decide +kernel⟩
theorem wd_1095 : Cond.methodLink RX7 194 yX7_nameOf ∈ TB := tb_of (List.mem_of_getElem? (i := 1095) (by decide +kernel)) rfl
theorem wd_1096 : Cond.static yX7_nameOf ∈ TB := tb_of (List.mem_of_getElem? (i := 1096) (by decide +kernel)) rfl
theorem wd_1097 : Cond.code yX7_nameOf cX7_nameOf 1 (some .int) ∈ TB := tb_of (List.mem_of_getElem? (i := 1097) (by decide +kernel)) rfl
theorem sw_X7_194 : SW RX7 194 yX7_nameOf cX7_nameOf 1 (some .int) 1 := ⟨⟨wd_1095, wd_1096, wd_85, wd_1097⟩, by decide +kernel, by decide +kernel, by decide +kernel⟩
theorem wd_1102 : Cond.methodLink RX7 197 yX7_opens ∈ TB := tb_of (List.mem_of_getElem? (i := 1102) (by decide +kernel)) rfl
theorem wd_1104 : Cond.instanceMethod yX7_opens ∈ TB := tb_of (List.mem_of_getElem? (i := 1104) (by decide +kernel)) rfl
theorem wd_46 : Cond.selects RX7 yX7_opens yX7_opens ∈ TB := tb_of (List.mem_of_getElem? (i := 46) (by decide +kernel)) rfl
theorem wd_1105 : Cond.code yX7_opens cX7_opens 1 (some .boolean) ∈ TB := tb_of (List.mem_of_getElem? (i := 1105) (by decide +kernel)) rfl
theorem vw_X7_197 : VW RX7 197 yX7_opens cX7_opens 1 (some .boolean) 0 := ⟨⟨wd_1102, wd_1104, wd_46, wd_85, wd_1105⟩, by decide +kernel, by decide +kernel, by decide +kernel⟩
theorem wd_1087 : Cond.methodLink RX7 201 yX7_operand ∈ TB := tb_of (List.mem_of_getElem? (i := 1087) (by decide +kernel)) rfl
theorem wd_1089 : Cond.instanceMethod yX7_operand ∈ TB := tb_of (List.mem_of_getElem? (i := 1089) (by decide +kernel)) rfl
theorem wd_43 : Cond.selects RX7 yX7_operand yX7_operand ∈ TB := tb_of (List.mem_of_getElem? (i := 43) (by decide +kernel)) rfl
theorem wd_1090 : Cond.code yX7_operand cX7_operand 2 none ∈ TB := tb_of (List.mem_of_getElem? (i := 1090) (by decide +kernel)) rfl
theorem vw_X7_201 : VW RX7 201 yX7_operand cX7_operand 2 none 0 := ⟨⟨wd_1087, wd_1089, wd_43, wd_85, wd_1090⟩, by decide +kernel, by decide +kernel, by decide +kernel⟩
theorem wd_1067 : Cond.methodLink RX7 204 yX7_either ∈ TB := tb_of (List.mem_of_getElem? (i := 1067) (by decide +kernel)) rfl
theorem wd_1069 : Cond.instanceMethod yX7_either ∈ TB := tb_of (List.mem_of_getElem? (i := 1069) (by decide +kernel)) rfl
theorem wd_38 : Cond.selects RX7 yX7_either yX7_either ∈ TB := tb_of (List.mem_of_getElem? (i := 38) (by decide +kernel)) rfl
theorem wd_1070 : Cond.code yX7_either cX7_either 1 none ∈ TB := tb_of (List.mem_of_getElem? (i := 1070) (by decide +kernel)) rfl
theorem vw_X7_204 : VW RX7 204 yX7_either cX7_either 1 none 0 := ⟨⟨wd_1067, wd_1069, wd_38, wd_85, wd_1070⟩, by decide +kernel, by decide +kernel, by decide +kernel⟩
theorem wd_1110 : Cond.methodLink RX7 207 yX7_figure ∈ TB := tb_of (List.mem_of_getElem? (i := 1110) (by decide +kernel)) rfl
theorem wd_1112 : Cond.instanceMethod yX7_figure ∈ TB := tb_of (List.mem_of_getElem? (i := 1112) (by decide +kernel)) rfl
theorem wd_48 : Cond.selects RX7 yX7_figure yX7_figure ∈ TB := tb_of (List.mem_of_getElem? (i := 48) (by decide +kernel)) rfl
theorem wd_1113 : Cond.code yX7_figure cX7_figure 3 none ∈ TB := tb_of (List.mem_of_getElem? (i := 1113) (by decide +kernel)) rfl
theorem vw_X7_207 : VW RX7 207 yX7_figure cX7_figure 3 none 0 := ⟨⟨wd_1110, wd_1112, wd_48, wd_85, wd_1113⟩, by decide +kernel, by decide +kernel, by decide +kernel⟩
theorem wd_1083 : Cond.methodLink RX7 210 yX7_product ∈ TB := tb_of (List.mem_of_getElem? (i := 1083) (by decide +kernel)) rfl
theorem wd_1085 : Cond.instanceMethod yX7_product ∈ TB := tb_of (List.mem_of_getElem? (i := 1085) (by decide +kernel)) rfl
theorem wd_42 : Cond.selects RX7 yX7_product yX7_product ∈ TB := tb_of (List.mem_of_getElem? (i := 42) (by decide +kernel)) rfl
theorem wd_1086 : Cond.code yX7_product cX7_product 2 none ∈ TB := tb_of (List.mem_of_getElem? (i := 1086) (by decide +kernel)) rfl
theorem vw_X7_210 : VW RX7 210 yX7_product cX7_product 2 none 0 := ⟨⟨wd_1083, wd_1085, wd_42, wd_85, wd_1086⟩, by decide +kernel, by decide +kernel, by decide +kernel⟩
theorem wd_1079 : Cond.methodLink RX7 213 yX7_sum ∈ TB := tb_of (List.mem_of_getElem? (i := 1079) (by decide +kernel)) rfl
theorem wd_1081 : Cond.instanceMethod yX7_sum ∈ TB := tb_of (List.mem_of_getElem? (i := 1081) (by decide +kernel)) rfl
theorem wd_41 : Cond.selects RX7 yX7_sum yX7_sum ∈ TB := tb_of (List.mem_of_getElem? (i := 41) (by decide +kernel)) rfl
theorem wd_1082 : Cond.code yX7_sum cX7_sum 2 none ∈ TB := tb_of (List.mem_of_getElem? (i := 1082) (by decide +kernel)) rfl
theorem vw_X7_213 : VW RX7 213 yX7_sum cX7_sum 2 none 0 := ⟨⟨wd_1079, wd_1081, wd_41, wd_85, wd_1082⟩, by decide +kernel, by decide +kernel, by decide +kernel⟩
theorem wd_1075 : Cond.methodLink RX7 216 yX7_compared ∈ TB := tb_of (List.mem_of_getElem? (i := 1075) (by decide +kernel)) rfl
theorem wd_1077 : Cond.instanceMethod yX7_compared ∈ TB := tb_of (List.mem_of_getElem? (i := 1077) (by decide +kernel)) rfl
theorem wd_40 : Cond.selects RX7 yX7_compared yX7_compared ∈ TB := tb_of (List.mem_of_getElem? (i := 40) (by decide +kernel)) rfl
theorem wd_1078 : Cond.code yX7_compared cX7_compared 2 none ∈ TB := tb_of (List.mem_of_getElem? (i := 1078) (by decide +kernel)) rfl
theorem vw_X7_216 : VW RX7 216 yX7_compared cX7_compared 2 none 0 := ⟨⟨wd_1075, wd_1077, wd_40, wd_85, wd_1078⟩, by decide +kernel, by decide +kernel, by decide +kernel⟩
theorem wd_1071 : Cond.methodLink RX7 219 yX7_both ∈ TB := tb_of (List.mem_of_getElem? (i := 1071) (by decide +kernel)) rfl
theorem wd_1073 : Cond.instanceMethod yX7_both ∈ TB := tb_of (List.mem_of_getElem? (i := 1073) (by decide +kernel)) rfl
theorem wd_39 : Cond.selects RX7 yX7_both yX7_both ∈ TB := tb_of (List.mem_of_getElem? (i := 39) (by decide +kernel)) rfl
theorem wd_1074 : Cond.code yX7_both cX7_both 1 none ∈ TB := tb_of (List.mem_of_getElem? (i := 1074) (by decide +kernel)) rfl
theorem vw_X7_219 : VW RX7 219 yX7_both cX7_both 1 none 0 := ⟨⟨wd_1071, wd_1073, wd_39, wd_85, wd_1074⟩, by decide +kernel, by decide +kernel, by decide +kernel⟩
theorem wd_839 : Cond.fieldLink RX7 57 "ThreeDoorsModel" "lineMany" "[I" ∈ TB := tb_of (List.mem_of_getElem? (i := 839) (by decide +kernel)) rfl
theorem fg_X7_57 : FG RX7 57 7 27 := ⟨RX7, TX7, 47, rfl, inlX7, by decide, wd_839⟩
theorem wd_840 : Cond.fieldLink RX7 60 "ThreeDoorsModel" "testEnd" "[S" ∈ TB := tb_of (List.mem_of_getElem? (i := 840) (by decide +kernel)) rfl
theorem fg_X7_60 : FG RX7 60 7 28 := ⟨RX7, TX7, 47, rfl, inlX7, by decide, wd_840⟩
theorem wd_841 : Cond.fieldLink RX7 64 "ThreeDoorsModel" "lineEnd" "[S" ∈ TB := tb_of (List.mem_of_getElem? (i := 841) (by decide +kernel)) rfl
theorem fg_X7_64 : FG RX7 64 7 29 := ⟨RX7, TX7, 47, rfl, inlX7, by decide, wd_841⟩
theorem wd_1063 : Cond.methodLink RX7 222 yX7_line ∈ TB := tb_of (List.mem_of_getElem? (i := 1063) (by decide +kernel)) rfl
theorem wd_1065 : Cond.instanceMethod yX7_line ∈ TB := tb_of (List.mem_of_getElem? (i := 1065) (by decide +kernel)) rfl
theorem wd_37 : Cond.selects RX7 yX7_line yX7_line ∈ TB := tb_of (List.mem_of_getElem? (i := 37) (by decide +kernel)) rfl
theorem wd_1066 : Cond.code yX7_line cX7_line 2 none ∈ TB := tb_of (List.mem_of_getElem? (i := 1066) (by decide +kernel)) rfl
theorem vw_X7_222 : VW RX7 222 yX7_line cX7_line 2 none 0 := ⟨⟨wd_1063, wd_1065, wd_37, wd_85, wd_1066⟩, by decide +kernel, by decide +kernel, by decide +kernel⟩
theorem wd_843 : Cond.fieldLink RX7 70 "ThreeDoorsModel" "pile" "[I" ∈ TB := tb_of (List.mem_of_getElem? (i := 843) (by decide +kernel)) rfl
theorem fg_X7_70 : FG RX7 70 7 31 := ⟨RX7, TX7, 47, rfl, inlX7, by decide, wd_843⟩
theorem wd_842 : Cond.fieldLink RX7 67 "ThreeDoorsModel" "facts" "[I" ∈ TB := tb_of (List.mem_of_getElem? (i := 842) (by decide +kernel)) rfl
theorem fg_X7_67 : FG RX7 67 7 30 := ⟨RX7, TX7, 47, rfl, inlX7, by decide, wd_842⟩
theorem wd_1045 : Cond.methodLink RX7 225 yX7_twoOf ∈ TB := tb_of (List.mem_of_getElem? (i := 1045) (by decide +kernel)) rfl
theorem wd_1046 : Cond.static yX7_twoOf ∈ TB := tb_of (List.mem_of_getElem? (i := 1046) (by decide +kernel)) rfl
theorem wd_1047 : Cond.code yX7_twoOf cX7_twoOf 3 (some .int) ∈ TB := tb_of (List.mem_of_getElem? (i := 1047) (by decide +kernel)) rfl
theorem sw_X7_225 : SW RX7 225 yX7_twoOf cX7_twoOf 3 (some .int) 3 := ⟨⟨wd_1045, wd_1046, wd_85, wd_1047⟩, by decide +kernel, by decide +kernel, by decide +kernel⟩
theorem wd_1041 : Cond.methodLink RX7 228 yX7_worked ∈ TB := tb_of (List.mem_of_getElem? (i := 1041) (by decide +kernel)) rfl
theorem wd_1043 : Cond.instanceMethod yX7_worked ∈ TB := tb_of (List.mem_of_getElem? (i := 1043) (by decide +kernel)) rfl
theorem wd_35 : Cond.selects RX7 yX7_worked yX7_worked ∈ TB := tb_of (List.mem_of_getElem? (i := 35) (by decide +kernel)) rfl
theorem wd_1044 : Cond.code yX7_worked cX7_worked 7 (some .int) ∈ TB := tb_of (List.mem_of_getElem? (i := 1044) (by decide +kernel)) rfl
theorem vw_X7_228 : VW RX7 228 yX7_worked cX7_worked 7 (some .int) 3 := ⟨⟨wd_1041, wd_1043, wd_35, wd_85, wd_1044⟩, by decide +kernel, by decide +kernel, by decide +kernel⟩
theorem wd_1059 : Cond.methodLink RX7 231 yX7_readText ∈ TB := tb_of (List.mem_of_getElem? (i := 1059) (by decide +kernel)) rfl
theorem wd_1061 : Cond.instanceMethod yX7_readText ∈ TB := tb_of (List.mem_of_getElem? (i := 1061) (by decide +kernel)) rfl
theorem wd_36 : Cond.selects RX7 yX7_readText yX7_readText ∈ TB := tb_of (List.mem_of_getElem? (i := 36) (by decide +kernel)) rfl
theorem wd_1062 : Cond.code yX7_readText cX7_readText 3 (some .int) ∈ TB := tb_of (List.mem_of_getElem? (i := 1062) (by decide +kernel)) rfl
theorem vw_X7_231 : VW RX7 231 yX7_readText cX7_readText 3 (some .int) 1 := ⟨⟨wd_1059, wd_1061, wd_36, wd_85, wd_1062⟩, by decide +kernel, by decide +kernel, by decide +kernel⟩
theorem wd_844 : Cond.fieldLink RX7 234 "ThreeDoorsModel" "hasLaw" "Z" ∈ TB := tb_of (List.mem_of_getElem? (i := 844) (by decide +kernel)) rfl
theorem fp_X7_234 : FP RX7 234 7 32 .boolean := ⟨RX7, TX7, 47, tyX7, rfl, inlX7, by decide, wd_844, tyX7_ok, nmX7, by decide, by decide +kernel⟩
theorem fg_X7_234 : FG RX7 234 7 32 := ⟨RX7, TX7, 47, rfl, inlX7, by decide, wd_844⟩
theorem wd_1037 : Cond.methodLink RX7 238 yX7_gives ∈ TB := tb_of (List.mem_of_getElem? (i := 1037) (by decide +kernel)) rfl
theorem wd_1039 : Cond.instanceMethod yX7_gives ∈ TB := tb_of (List.mem_of_getElem? (i := 1039) (by decide +kernel)) rfl
theorem wd_34 : Cond.selects RX7 yX7_gives yX7_gives ∈ TB := tb_of (List.mem_of_getElem? (i := 34) (by decide +kernel)) rfl
theorem wd_1040 : Cond.code yX7_gives cX7_gives 4 (some .int) ∈ TB := tb_of (List.mem_of_getElem? (i := 1040) (by decide +kernel)) rfl
theorem vw_X7_238 : VW RX7 238 yX7_gives cX7_gives 4 (some .int) 1 := ⟨⟨wd_1037, wd_1039, wd_34, wd_85, wd_1040⟩, by decide +kernel, by decide +kernel, by decide +kernel⟩
theorem wd_1048 : Cond.methodLink RX7 241 yX7_held ∈ TB := tb_of (List.mem_of_getElem? (i := 1048) (by decide +kernel)) rfl
theorem wd_1049 : Cond.static yX7_held ∈ TB := tb_of (List.mem_of_getElem? (i := 1049) (by decide +kernel)) rfl
theorem wd_1050 : Cond.code yX7_held cX7_held 3 (some .int) ∈ TB := tb_of (List.mem_of_getElem? (i := 1050) (by decide +kernel)) rfl
theorem sw_X7_241 : SW RX7 241 yX7_held cX7_held 3 (some .int) 3 := ⟨⟨wd_1048, wd_1049, wd_85, wd_1050⟩, by decide +kernel, by decide +kernel, by decide +kernel⟩
theorem wd_845 : Cond.fieldLink RX7 73 "ThreeDoorsModel" "far" "[I" ∈ TB := tb_of (List.mem_of_getElem? (i := 845) (by decide +kernel)) rfl
theorem fg_X7_73 : FG RX7 73 7 33 := ⟨RX7, TX7, 47, rfl, inlX7, by decide, wd_845⟩
theorem wd_1122 : Cond.methodLink RX7 244 yX7_findFar ∈ TB := tb_of (List.mem_of_getElem? (i := 1122) (by decide +kernel)) rfl
theorem wd_1124 : Cond.instanceMethod yX7_findFar ∈ TB := tb_of (List.mem_of_getElem? (i := 1124) (by decide +kernel)) rfl
theorem wd_50 : Cond.selects RX7 yX7_findFar yX7_findFar ∈ TB := tb_of (List.mem_of_getElem? (i := 50) (by decide +kernel)) rfl
theorem wd_1125 : Cond.code yX7_findFar cX7_findFar 5 none ∈ TB := tb_of (List.mem_of_getElem? (i := 1125) (by decide +kernel)) rfl
theorem vw_X7_244 : VW RX7 244 yX7_findFar cX7_findFar 5 none 1 := ⟨⟨wd_1122, wd_1124, wd_50, wd_85, wd_1125⟩, by decide +kernel, by decide +kernel, by decide +kernel⟩
theorem wd_846 : Cond.fieldLink RX7 76 "ThreeDoorsModel" "within" "[I" ∈ TB := tb_of (List.mem_of_getElem? (i := 846) (by decide +kernel)) rfl
theorem fg_X7_76 : FG RX7 76 7 34 := ⟨RX7, TX7, 47, rfl, inlX7, by decide, wd_846⟩
theorem wd_847 : Cond.fieldLink RX7 79 "ThreeDoorsModel" "tooNear" "[I" ∈ TB := tb_of (List.mem_of_getElem? (i := 847) (by decide +kernel)) rfl
theorem fg_X7_79 : FG RX7 79 7 35 := ⟨RX7, TX7, 47, rfl, inlX7, by decide, wd_847⟩
theorem wd_1118 : Cond.methodLink RX7 248 yX7_allDoors ∈ TB := tb_of (List.mem_of_getElem? (i := 1118) (by decide +kernel)) rfl
theorem wd_1120 : Cond.instanceMethod yX7_allDoors ∈ TB := tb_of (List.mem_of_getElem? (i := 1120) (by decide +kernel)) rfl
theorem wd_49 : Cond.selects RX7 yX7_allDoors yX7_allDoors ∈ TB := tb_of (List.mem_of_getElem? (i := 49) (by decide +kernel)) rfl
theorem wd_1121 : Cond.code yX7_allDoors cX7_allDoors 1 (some .int) ∈ TB := tb_of (List.mem_of_getElem? (i := 1121) (by decide +kernel)) rfl
theorem vw_X7_248 : VW RX7 248 yX7_allDoors cX7_allDoors 1 (some .int) 0 := ⟨⟨wd_1118, wd_1120, wd_49, wd_85, wd_1121⟩, by decide +kernel, by decide +kernel, by decide +kernel⟩
theorem wd_848 : Cond.fieldLink RX7 251 "ThreeDoorsModel" "dried" "I" ∈ TB := tb_of (List.mem_of_getElem? (i := 848) (by decide +kernel)) rfl
theorem fg_X7_251 : FG RX7 251 7 36 := ⟨RX7, TX7, 47, rfl, inlX7, by decide, wd_848⟩
theorem wd_1146 : Cond.methodLink RX7 254 yX7_rock ∈ TB := tb_of (List.mem_of_getElem? (i := 1146) (by decide +kernel)) rfl
theorem wd_1148 : Cond.instanceMethod yX7_rock ∈ TB := tb_of (List.mem_of_getElem? (i := 1148) (by decide +kernel)) rfl
theorem wd_54 : Cond.selects RX7 yX7_rock yX7_rock ∈ TB := tb_of (List.mem_of_getElem? (i := 54) (by decide +kernel)) rfl
theorem wd_1149 : Cond.code yX7_rock cX7_rock 3 (some .int) ∈ TB := tb_of (List.mem_of_getElem? (i := 1149) (by decide +kernel)) rfl
theorem vw_X7_254 : VW RX7 254 yX7_rock cX7_rock 3 (some .int) 0 := ⟨⟨wd_1146, wd_1148, wd_54, wd_85, wd_1149⟩, by decide +kernel, by decide +kernel, by decide +kernel⟩
theorem wd_1150 : Cond.methodLink RX7 257 yX7_isLawful ∈ TB := tb_of (List.mem_of_getElem? (i := 1150) (by decide +kernel)) rfl
theorem wd_1152 : Cond.instanceMethod yX7_isLawful ∈ TB := tb_of (List.mem_of_getElem? (i := 1152) (by decide +kernel)) rfl
theorem wd_55 : Cond.selects RX7 yX7_isLawful yX7_isLawful ∈ TB := tb_of (List.mem_of_getElem? (i := 55) (by decide +kernel)) rfl
theorem wd_1153 : Cond.code yX7_isLawful cX7_isLawful 4 (some .boolean) ∈ TB := tb_of (List.mem_of_getElem? (i := 1153) (by decide +kernel)) rfl
theorem vw_X7_257 : VW RX7 257 yX7_isLawful cX7_isLawful 4 (some .boolean) 2 := ⟨⟨wd_1150, wd_1152, wd_55, wd_85, wd_1153⟩, by decide +kernel, by decide +kernel, by decide +kernel⟩
theorem wd_1130 : Cond.methodLink RX7 261 yX7_findAll ∈ TB := tb_of (List.mem_of_getElem? (i := 1130) (by decide +kernel)) rfl
theorem wd_1132 : Cond.instanceMethod yX7_findAll ∈ TB := tb_of (List.mem_of_getElem? (i := 1132) (by decide +kernel)) rfl
theorem wd_51 : Cond.selects RX7 yX7_findAll yX7_findAll ∈ TB := tb_of (List.mem_of_getElem? (i := 51) (by decide +kernel)) rfl
theorem wd_1133 : Cond.code yX7_findAll cX7_findAll 5 none ∈ TB := tb_of (List.mem_of_getElem? (i := 1133) (by decide +kernel)) rfl
theorem vw_X7_261 : VW RX7 261 yX7_findAll cX7_findAll 5 none 1 := ⟨⟨wd_1130, wd_1132, wd_51, wd_85, wd_1133⟩, by decide +kernel, by decide +kernel, by decide +kernel⟩
theorem wd_1158 : Cond.methodLink RX7 264 yX7_bitsOf ∈ TB := tb_of (List.mem_of_getElem? (i := 1158) (by decide +kernel)) rfl
theorem wd_1159 : Cond.static yX7_bitsOf ∈ TB := tb_of (List.mem_of_getElem? (i := 1159) (by decide +kernel)) rfl
theorem wd_1160 : Cond.code yX7_bitsOf cX7_bitsOf 3 (some .int) ∈ TB := tb_of (List.mem_of_getElem? (i := 1160) (by decide +kernel)) rfl
theorem sw_X7_264 : SW RX7 264 yX7_bitsOf cX7_bitsOf 3 (some .int) 1 := ⟨⟨wd_1158, wd_1159, wd_85, wd_1160⟩, by decide +kernel, by decide +kernel, by decide +kernel⟩
theorem wd_1161 : Cond.methodLink RX7 267 yX7_priceOf ∈ TB := tb_of (List.mem_of_getElem? (i := 1161) (by decide +kernel)) rfl
theorem wd_1163 : Cond.instanceMethod yX7_priceOf ∈ TB := tb_of (List.mem_of_getElem? (i := 1163) (by decide +kernel)) rfl
theorem wd_57 : Cond.selects RX7 yX7_priceOf yX7_priceOf ∈ TB := tb_of (List.mem_of_getElem? (i := 57) (by decide +kernel)) rfl
theorem wd_1164 : Cond.code yX7_priceOf cX7_priceOf 4 (some .int) ∈ TB := tb_of (List.mem_of_getElem? (i := 1164) (by decide +kernel)) rfl
theorem vw_X7_267 : VW RX7 267 yX7_priceOf cX7_priceOf 4 (some .int) 1 := ⟨⟨wd_1161, wd_1163, wd_57, wd_85, wd_1164⟩, by decide +kernel, by decide +kernel, by decide +kernel⟩
theorem wd_1142 : Cond.methodLink RX7 270 yX7_mayBe ∈ TB := tb_of (List.mem_of_getElem? (i := 1142) (by decide +kernel)) rfl
theorem wd_1144 : Cond.instanceMethod yX7_mayBe ∈ TB := tb_of (List.mem_of_getElem? (i := 1144) (by decide +kernel)) rfl
theorem wd_53 : Cond.selects RX7 yX7_mayBe yX7_mayBe ∈ TB := tb_of (List.mem_of_getElem? (i := 53) (by decide +kernel)) rfl
theorem wd_1145 : Cond.code yX7_mayBe cX7_mayBe 2 (some .boolean) ∈ TB := tb_of (List.mem_of_getElem? (i := 1145) (by decide +kernel)) rfl
theorem vw_X7_270 : VW RX7 270 yX7_mayBe cX7_mayBe 2 (some .boolean) 1 := ⟨⟨wd_1142, wd_1144, wd_53, wd_85, wd_1145⟩, by decide +kernel, by decide +kernel, by decide +kernel⟩
theorem wd_1154 : Cond.methodLink RX7 273 yX7_rank ∈ TB := tb_of (List.mem_of_getElem? (i := 1154) (by decide +kernel)) rfl
theorem wd_1156 : Cond.instanceMethod yX7_rank ∈ TB := tb_of (List.mem_of_getElem? (i := 1156) (by decide +kernel)) rfl
theorem wd_56 : Cond.selects RX7 yX7_rank yX7_rank ∈ TB := tb_of (List.mem_of_getElem? (i := 56) (by decide +kernel)) rfl
theorem wd_1157 : Cond.code yX7_rank cX7_rank 3 (some .int) ∈ TB := tb_of (List.mem_of_getElem? (i := 1157) (by decide +kernel)) rfl
theorem vw_X7_273 : VW RX7 273 yX7_rank cX7_rank 3 (some .int) 2 := ⟨⟨wd_1154, wd_1156, wd_56, wd_85, wd_1157⟩, by decide +kernel, by decide +kernel, by decide +kernel⟩
theorem wd_1138 : Cond.methodLink RX7 276 yX7_bestBy ∈ TB := tb_of (List.mem_of_getElem? (i := 1138) (by decide +kernel)) rfl
theorem wd_1140 : Cond.instanceMethod yX7_bestBy ∈ TB := tb_of (List.mem_of_getElem? (i := 1140) (by decide +kernel)) rfl
theorem wd_52 : Cond.selects RX7 yX7_bestBy yX7_bestBy ∈ TB := tb_of (List.mem_of_getElem? (i := 52) (by decide +kernel)) rfl
theorem wd_1141 : Cond.code yX7_bestBy cX7_bestBy 5 (some .int) ∈ TB := tb_of (List.mem_of_getElem? (i := 1141) (by decide +kernel)) rfl
theorem vw_X7_276 : VW RX7 276 yX7_bestBy cX7_bestBy 5 (some .int) 1 := ⟨⟨wd_1138, wd_1140, wd_52, wd_85, wd_1141⟩, by decide +kernel, by decide +kernel, by decide +kernel⟩
theorem wd_1173 : Cond.methodLink RX7 279 yX7_isEven ∈ TB := tb_of (List.mem_of_getElem? (i := 1173) (by decide +kernel)) rfl
theorem wd_1175 : Cond.instanceMethod yX7_isEven ∈ TB := tb_of (List.mem_of_getElem? (i := 1175) (by decide +kernel)) rfl
theorem wd_58 : Cond.selects RX7 yX7_isEven yX7_isEven ∈ TB := tb_of (List.mem_of_getElem? (i := 58) (by decide +kernel)) rfl
theorem wd_1176 : Cond.code yX7_isEven cX7_isEven 3 (some .boolean) ∈ TB := tb_of (List.mem_of_getElem? (i := 1176) (by decide +kernel)) rfl
theorem vw_X7_279 : VW RX7 279 yX7_isEven cX7_isEven 3 (some .boolean) 1 := ⟨⟨wd_1173, wd_1175, wd_58, wd_85, wd_1176⟩, by decide +kernel, by decide +kernel, by decide +kernel⟩
theorem wd_1181 : Cond.methodLink RX7 282 yX7_mayDig ∈ TB := tb_of (List.mem_of_getElem? (i := 1181) (by decide +kernel)) rfl
theorem wd_1183 : Cond.instanceMethod yX7_mayDig ∈ TB := tb_of (List.mem_of_getElem? (i := 1183) (by decide +kernel)) rfl
theorem wd_59 : Cond.selects RX7 yX7_mayDig yX7_mayDig ∈ TB := tb_of (List.mem_of_getElem? (i := 59) (by decide +kernel)) rfl
theorem wd_1184 : Cond.code yX7_mayDig cX7_mayDig 3 (some .boolean) ∈ TB := tb_of (List.mem_of_getElem? (i := 1184) (by decide +kernel)) rfl
theorem vw_X7_282 : VW RX7 282 yX7_mayDig cX7_mayDig 3 (some .boolean) 2 := ⟨⟨wd_1181, wd_1183, wd_59, wd_85, wd_1184⟩, by decide +kernel, by decide +kernel, by decide +kernel⟩
theorem fp_X7_251 : FP RX7 251 7 36 .int := ⟨RX7, TX7, 47, tyX7, rfl, inlX7, by decide, wd_848, tyX7_ok, nmX7, by decide, by decide +kernel⟩
theorem wd_850 : Cond.fieldLink RX7 86 "ThreeDoorsModel" "wasOn" "[Z" ∈ TB := tb_of (List.mem_of_getElem? (i := 850) (by decide +kernel)) rfl
theorem fg_X7_86 : FG RX7 86 7 38 := ⟨RX7, TX7, 47, rfl, inlX7, by decide, wd_850⟩
theorem wd_849 : Cond.fieldLink RX7 82 "ThreeDoorsModel" "isOn" "[Z" ∈ TB := tb_of (List.mem_of_getElem? (i := 849) (by decide +kernel)) rfl
theorem fg_X7_82 : FG RX7 82 7 37 := ⟨RX7, TX7, 47, rfl, inlX7, by decide, wd_849⟩
theorem wd_1193 : Cond.methodLink RX7 285 yX7_thereIn ∈ TB := tb_of (List.mem_of_getElem? (i := 1193) (by decide +kernel)) rfl
theorem wd_1195 : Cond.instanceMethod yX7_thereIn ∈ TB := tb_of (List.mem_of_getElem? (i := 1195) (by decide +kernel)) rfl
theorem wd_60 : Cond.selects RX7 yX7_thereIn yX7_thereIn ∈ TB := tb_of (List.mem_of_getElem? (i := 60) (by decide +kernel)) rfl
theorem wd_1196 : Cond.code yX7_thereIn cX7_thereIn 4 (some .int) ∈ TB := tb_of (List.mem_of_getElem? (i := 1196) (by decide +kernel)) rfl
theorem vw_X7_285 : VW RX7 285 yX7_thereIn cX7_thereIn 4 (some .int) 1 := ⟨⟨wd_1193, wd_1195, wd_60, wd_85, wd_1196⟩, by decide +kernel, by decide +kernel, by decide +kernel⟩
theorem wd_1197 : Cond.methodLink RX7 288 yX7_comesFrom ∈ TB := tb_of (List.mem_of_getElem? (i := 1197) (by decide +kernel)) rfl
theorem wd_1199 : Cond.instanceMethod yX7_comesFrom ∈ TB := tb_of (List.mem_of_getElem? (i := 1199) (by decide +kernel)) rfl
theorem wd_61 : Cond.selects RX7 yX7_comesFrom yX7_comesFrom ∈ TB := tb_of (List.mem_of_getElem? (i := 61) (by decide +kernel)) rfl
theorem wd_1200 : Cond.code yX7_comesFrom cX7_comesFrom 3 (some .boolean) ∈ TB := tb_of (List.mem_of_getElem? (i := 1200) (by decide +kernel)) rfl
theorem vw_X7_288 : VW RX7 288 yX7_comesFrom cX7_comesFrom 3 (some .boolean) 1 := ⟨⟨wd_1197, wd_1199, wd_61, wd_85, wd_1200⟩, by decide +kernel, by decide +kernel, by decide +kernel⟩
theorem wd_1209 : Cond.methodLink RX7 291 yX7_wellOf ∈ TB := tb_of (List.mem_of_getElem? (i := 1209) (by decide +kernel)) rfl
theorem wd_1211 : Cond.instanceMethod yX7_wellOf ∈ TB := tb_of (List.mem_of_getElem? (i := 1211) (by decide +kernel)) rfl
theorem wd_62 : Cond.selects RX7 yX7_wellOf yX7_wellOf ∈ TB := tb_of (List.mem_of_getElem? (i := 62) (by decide +kernel)) rfl
theorem wd_1212 : Cond.code yX7_wellOf cX7_wellOf 5 (some .int) ∈ TB := tb_of (List.mem_of_getElem? (i := 1212) (by decide +kernel)) rfl
theorem vw_X7_291 : VW RX7 291 yX7_wellOf cX7_wellOf 5 (some .int) 2 := ⟨⟨wd_1209, wd_1211, wd_62, wd_85, wd_1212⟩, by decide +kernel, by decide +kernel, by decide +kernel⟩
theorem wd_851 : Cond.fieldLink RX7 294 "ThreeDoorsModel" "bodies" "I" ∈ TB := tb_of (List.mem_of_getElem? (i := 851) (by decide +kernel)) rfl
theorem fg_X7_294 : FG RX7 294 7 39 := ⟨RX7, TX7, 47, rfl, inlX7, by decide, wd_851⟩
theorem wd_853 : Cond.fieldLink RX7 297 "ThreeDoorsModel" "traces" "I" ∈ TB := tb_of (List.mem_of_getElem? (i := 853) (by decide +kernel)) rfl
theorem fg_X7_297 : FG RX7 297 7 41 := ⟨RX7, TX7, 47, rfl, inlX7, by decide, wd_853⟩
theorem wd_854 : Cond.fieldLink RX7 92 "ThreeDoorsModel" "traced" "[I" ∈ TB := tb_of (List.mem_of_getElem? (i := 854) (by decide +kernel)) rfl
theorem fg_X7_92 : FG RX7 92 7 42 := ⟨RX7, TX7, 47, rfl, inlX7, by decide, wd_854⟩
theorem fp_X7_297 : FP RX7 297 7 41 .int := ⟨RX7, TX7, 47, tyX7, rfl, inlX7, by decide, wd_853, tyX7_ok, nmX7, by decide, by decide +kernel⟩
theorem wd_852 : Cond.fieldLink RX7 89 "ThreeDoorsModel" "kind" "[I" ∈ TB := tb_of (List.mem_of_getElem? (i := 852) (by decide +kernel)) rfl
theorem fg_X7_89 : FG RX7 89 7 40 := ⟨RX7, TX7, 47, rfl, inlX7, by decide, wd_852⟩
theorem fp_X7_294 : FP RX7 294 7 39 .int := ⟨RX7, TX7, 47, tyX7, rfl, inlX7, by decide, wd_851, tyX7_ok, nmX7, by decide, by decide +kernel⟩
theorem wd_1256 : Cond.methodLink RX7 300 yX7_ran ∈ TB := tb_of (List.mem_of_getElem? (i := 1256) (by decide +kernel)) rfl
theorem wd_1258 : Cond.instanceMethod yX7_ran ∈ TB := tb_of (List.mem_of_getElem? (i := 1258) (by decide +kernel)) rfl
theorem wd_65 : Cond.selects RX7 yX7_ran yX7_ran ∈ TB := tb_of (List.mem_of_getElem? (i := 65) (by decide +kernel)) rfl
theorem wd_1259 : Cond.code yX7_ran cX7_ran 2 none ∈ TB := tb_of (List.mem_of_getElem? (i := 1259) (by decide +kernel)) rfl
theorem vw_X7_300 : VW RX7 300 yX7_ran cX7_ran 2 none 1 := ⟨⟨wd_1256, wd_1258, wd_65, wd_85, wd_1259⟩, by decide +kernel, by decide +kernel, by decide +kernel⟩
theorem wd_1260 : Cond.methodLink RX7 303 yX7_plainDigs ∈ TB := tb_of (List.mem_of_getElem? (i := 1260) (by decide +kernel)) rfl
theorem wd_1262 : Cond.instanceMethod yX7_plainDigs ∈ TB := tb_of (List.mem_of_getElem? (i := 1262) (by decide +kernel)) rfl
theorem wd_66 : Cond.selects RX7 yX7_plainDigs yX7_plainDigs ∈ TB := tb_of (List.mem_of_getElem? (i := 66) (by decide +kernel)) rfl
theorem wd_1263 : Cond.code yX7_plainDigs cX7_plainDigs 3 (some .int) ∈ TB := tb_of (List.mem_of_getElem? (i := 1263) (by decide +kernel)) rfl
theorem vw_X7_303 : VW RX7 303 yX7_plainDigs cX7_plainDigs 3 (some .int) 2 := ⟨⟨wd_1260, wd_1262, wd_66, wd_85, wd_1263⟩, by decide +kernel, by decide +kernel, by decide +kernel⟩
theorem wd_1253 : Cond.methodLink RX7 306 yX7_isUnder ∈ TB := tb_of (List.mem_of_getElem? (i := 1253) (by decide +kernel)) rfl
theorem wd_1254 : Cond.static yX7_isUnder ∈ TB := tb_of (List.mem_of_getElem? (i := 1254) (by decide +kernel)) rfl
theorem wd_1255 : Cond.code yX7_isUnder cX7_isUnder 2 (some .boolean) ∈ TB := tb_of (List.mem_of_getElem? (i := 1255) (by decide +kernel)) rfl
theorem sw_X7_306 : SW RX7 306 yX7_isUnder cX7_isUnder 2 (some .boolean) 2 := ⟨⟨wd_1253, wd_1254, wd_85, wd_1255⟩, by decide +kernel, by decide +kernel, by decide +kernel⟩
theorem wd_1264 : Cond.methodLink RX7 309 yX7_toldDigs ∈ TB := tb_of (List.mem_of_getElem? (i := 1264) (by decide +kernel)) rfl
theorem wd_1266 : Cond.instanceMethod yX7_toldDigs ∈ TB := tb_of (List.mem_of_getElem? (i := 1266) (by decide +kernel)) rfl
theorem wd_67 : Cond.selects RX7 yX7_toldDigs yX7_toldDigs ∈ TB := tb_of (List.mem_of_getElem? (i := 67) (by decide +kernel)) rfl
theorem wd_1267 : Cond.code yX7_toldDigs cX7_toldDigs 3 (some .int) ∈ TB := tb_of (List.mem_of_getElem? (i := 1267) (by decide +kernel)) rfl
theorem vw_X7_309 : VW RX7 309 yX7_toldDigs cX7_toldDigs 3 (some .int) 2 := ⟨⟨wd_1264, wd_1266, wd_67, wd_85, wd_1267⟩, by decide +kernel, by decide +kernel, by decide +kernel⟩
theorem wd_1249 : Cond.methodLink RX7 312 yX7_digs ∈ TB := tb_of (List.mem_of_getElem? (i := 1249) (by decide +kernel)) rfl
theorem wd_1251 : Cond.instanceMethod yX7_digs ∈ TB := tb_of (List.mem_of_getElem? (i := 1251) (by decide +kernel)) rfl
theorem wd_64 : Cond.selects RX7 yX7_digs yX7_digs ∈ TB := tb_of (List.mem_of_getElem? (i := 64) (by decide +kernel)) rfl
theorem wd_1252 : Cond.code yX7_digs cX7_digs 3 (some .int) ∈ TB := tb_of (List.mem_of_getElem? (i := 1252) (by decide +kernel)) rfl
theorem vw_X7_312 : VW RX7 312 yX7_digs cX7_digs 3 (some .int) 2 := ⟨⟨wd_1249, wd_1251, wd_64, wd_85, wd_1252⟩, by decide +kernel, by decide +kernel, by decide +kernel⟩
theorem wd_1276 : Cond.methodLink RX7 315 yX7_plainReaches ∈ TB := tb_of (List.mem_of_getElem? (i := 1276) (by decide +kernel)) rfl
theorem wd_1278 : Cond.instanceMethod yX7_plainReaches ∈ TB := tb_of (List.mem_of_getElem? (i := 1278) (by decide +kernel)) rfl
theorem wd_70 : Cond.selects RX7 yX7_plainReaches yX7_plainReaches ∈ TB := tb_of (List.mem_of_getElem? (i := 70) (by decide +kernel)) rfl
theorem wd_1279 : Cond.code yX7_plainReaches cX7_plainReaches 3 (some .int) ∈ TB := tb_of (List.mem_of_getElem? (i := 1279) (by decide +kernel)) rfl
theorem vw_X7_315 : VW RX7 315 yX7_plainReaches cX7_plainReaches 3 (some .int) 2 := ⟨⟨wd_1276, wd_1278, wd_70, wd_85, wd_1279⟩, by decide +kernel, by decide +kernel, by decide +kernel⟩
theorem wd_1272 : Cond.methodLink RX7 318 yX7_evenReaches ∈ TB := tb_of (List.mem_of_getElem? (i := 1272) (by decide +kernel)) rfl
theorem wd_1274 : Cond.instanceMethod yX7_evenReaches ∈ TB := tb_of (List.mem_of_getElem? (i := 1274) (by decide +kernel)) rfl
theorem wd_69 : Cond.selects RX7 yX7_evenReaches yX7_evenReaches ∈ TB := tb_of (List.mem_of_getElem? (i := 69) (by decide +kernel)) rfl
theorem wd_1275 : Cond.code yX7_evenReaches cX7_evenReaches 3 (some .int) ∈ TB := tb_of (List.mem_of_getElem? (i := 1275) (by decide +kernel)) rfl
theorem vw_X7_318 : VW RX7 318 yX7_evenReaches cX7_evenReaches 3 (some .int) 2 := ⟨⟨wd_1272, wd_1274, wd_69, wd_85, wd_1275⟩, by decide +kernel, by decide +kernel, by decide +kernel⟩
theorem wd_1280 : Cond.methodLink RX7 321 yX7_nears ∈ TB := tb_of (List.mem_of_getElem? (i := 1280) (by decide +kernel)) rfl
theorem wd_1282 : Cond.instanceMethod yX7_nears ∈ TB := tb_of (List.mem_of_getElem? (i := 1282) (by decide +kernel)) rfl
theorem wd_71 : Cond.selects RX7 yX7_nears yX7_nears ∈ TB := tb_of (List.mem_of_getElem? (i := 71) (by decide +kernel)) rfl
theorem wd_1283 : Cond.code yX7_nears cX7_nears 4 (some .int) ∈ TB := tb_of (List.mem_of_getElem? (i := 1283) (by decide +kernel)) rfl
theorem vw_X7_321 : VW RX7 321 yX7_nears cX7_nears 4 (some .int) 2 := ⟨⟨wd_1280, wd_1282, wd_71, wd_85, wd_1283⟩, by decide +kernel, by decide +kernel, by decide +kernel⟩
theorem wd_1284 : Cond.methodLink RX7 324 yX7_plainNears ∈ TB := tb_of (List.mem_of_getElem? (i := 1284) (by decide +kernel)) rfl
theorem wd_1286 : Cond.instanceMethod yX7_plainNears ∈ TB := tb_of (List.mem_of_getElem? (i := 1286) (by decide +kernel)) rfl
theorem wd_72 : Cond.selects RX7 yX7_plainNears yX7_plainNears ∈ TB := tb_of (List.mem_of_getElem? (i := 72) (by decide +kernel)) rfl
theorem wd_1287 : Cond.code yX7_plainNears cX7_plainNears 3 (some .int) ∈ TB := tb_of (List.mem_of_getElem? (i := 1287) (by decide +kernel)) rfl
theorem vw_X7_324 : VW RX7 324 yX7_plainNears cX7_plainNears 3 (some .int) 2 := ⟨⟨wd_1284, wd_1286, wd_72, wd_85, wd_1287⟩, by decide +kernel, by decide +kernel, by decide +kernel⟩
theorem wd_1268 : Cond.methodLink RX7 327 yX7_reaches ∈ TB := tb_of (List.mem_of_getElem? (i := 1268) (by decide +kernel)) rfl
theorem wd_1270 : Cond.instanceMethod yX7_reaches ∈ TB := tb_of (List.mem_of_getElem? (i := 1270) (by decide +kernel)) rfl
theorem wd_68 : Cond.selects RX7 yX7_reaches yX7_reaches ∈ TB := tb_of (List.mem_of_getElem? (i := 68) (by decide +kernel)) rfl
theorem wd_1271 : Cond.code yX7_reaches cX7_reaches 4 (some .int) ∈ TB := tb_of (List.mem_of_getElem? (i := 1271) (by decide +kernel)) rfl
theorem vw_X7_327 : VW RX7 327 yX7_reaches cX7_reaches 4 (some .int) 2 := ⟨⟨wd_1268, wd_1270, wd_68, wd_85, wd_1271⟩, by decide +kernel, by decide +kernel, by decide +kernel⟩
theorem wd_1296 : Cond.methodLink RX7 330 yX7_plainTells ∈ TB := tb_of (List.mem_of_getElem? (i := 1296) (by decide +kernel)) rfl
theorem wd_1298 : Cond.instanceMethod yX7_plainTells ∈ TB := tb_of (List.mem_of_getElem? (i := 1298) (by decide +kernel)) rfl
theorem wd_75 : Cond.selects RX7 yX7_plainTells yX7_plainTells ∈ TB := tb_of (List.mem_of_getElem? (i := 75) (by decide +kernel)) rfl
theorem wd_1299 : Cond.code yX7_plainTells cX7_plainTells 4 (some .int) ∈ TB := tb_of (List.mem_of_getElem? (i := 1299) (by decide +kernel)) rfl
theorem vw_X7_330 : VW RX7 330 yX7_plainTells cX7_plainTells 4 (some .int) 2 := ⟨⟨wd_1296, wd_1298, wd_75, wd_85, wd_1299⟩, by decide +kernel, by decide +kernel, by decide +kernel⟩
theorem wd_1292 : Cond.methodLink RX7 333 yX7_lineTells ∈ TB := tb_of (List.mem_of_getElem? (i := 1292) (by decide +kernel)) rfl
theorem wd_1294 : Cond.instanceMethod yX7_lineTells ∈ TB := tb_of (List.mem_of_getElem? (i := 1294) (by decide +kernel)) rfl
theorem wd_74 : Cond.selects RX7 yX7_lineTells yX7_lineTells ∈ TB := tb_of (List.mem_of_getElem? (i := 74) (by decide +kernel)) rfl
theorem wd_1295 : Cond.code yX7_lineTells cX7_lineTells 3 (some .int) ∈ TB := tb_of (List.mem_of_getElem? (i := 1295) (by decide +kernel)) rfl
theorem vw_X7_333 : VW RX7 333 yX7_lineTells cX7_lineTells 3 (some .int) 2 := ⟨⟨wd_1292, wd_1294, wd_74, wd_85, wd_1295⟩, by decide +kernel, by decide +kernel, by decide +kernel⟩
theorem wd_1245 : Cond.methodLink RX7 336 yX7_isBody ∈ TB := tb_of (List.mem_of_getElem? (i := 1245) (by decide +kernel)) rfl
theorem wd_1247 : Cond.instanceMethod yX7_isBody ∈ TB := tb_of (List.mem_of_getElem? (i := 1247) (by decide +kernel)) rfl
theorem wd_63 : Cond.selects RX7 yX7_isBody yX7_isBody ∈ TB := tb_of (List.mem_of_getElem? (i := 63) (by decide +kernel)) rfl
theorem wd_1248 : Cond.code yX7_isBody cX7_isBody 2 (some .boolean) ∈ TB := tb_of (List.mem_of_getElem? (i := 1248) (by decide +kernel)) rfl
theorem vw_X7_336 : VW RX7 336 yX7_isBody cX7_isBody 2 (some .boolean) 1 := ⟨⟨wd_1245, wd_1247, wd_63, wd_85, wd_1248⟩, by decide +kernel, by decide +kernel, by decide +kernel⟩
theorem wd_1288 : Cond.methodLink RX7 339 yX7_telling ∈ TB := tb_of (List.mem_of_getElem? (i := 1288) (by decide +kernel)) rfl
theorem wd_1290 : Cond.instanceMethod yX7_telling ∈ TB := tb_of (List.mem_of_getElem? (i := 1290) (by decide +kernel)) rfl
theorem wd_73 : Cond.selects RX7 yX7_telling yX7_telling ∈ TB := tb_of (List.mem_of_getElem? (i := 73) (by decide +kernel)) rfl
theorem wd_1291 : Cond.code yX7_telling cX7_telling 3 (some .int) ∈ TB := tb_of (List.mem_of_getElem? (i := 1291) (by decide +kernel)) rfl
theorem vw_X7_339 : VW RX7 339 yX7_telling cX7_telling 3 (some .int) 2 := ⟨⟨wd_1288, wd_1290, wd_73, wd_85, wd_1291⟩, by decide +kernel, by decide +kernel, by decide +kernel⟩
theorem wd_1316 : Cond.methodLink RX7 342 yX7_whyNoPlace ∈ TB := tb_of (List.mem_of_getElem? (i := 1316) (by decide +kernel)) rfl
theorem wd_1318 : Cond.instanceMethod yX7_whyNoPlace ∈ TB := tb_of (List.mem_of_getElem? (i := 1318) (by decide +kernel)) rfl
theorem wd_76 : Cond.selects RX7 yX7_whyNoPlace yX7_whyNoPlace ∈ TB := tb_of (List.mem_of_getElem? (i := 76) (by decide +kernel)) rfl
theorem wd_1319 : Cond.code yX7_whyNoPlace cX7_whyNoPlace 3 (some .int) ∈ TB := tb_of (List.mem_of_getElem? (i := 1319) (by decide +kernel)) rfl
theorem vw_X7_342 : VW RX7 342 yX7_whyNoPlace cX7_whyNoPlace 3 (some .int) 2 := ⟨⟨wd_1316, wd_1318, wd_76, wd_85, wd_1319⟩, by decide +kernel, by decide +kernel, by decide +kernel⟩
theorem wd_1324 : Cond.constantLong RX7 347 (-9223372036854775808) ∈ TB := tb_of (List.mem_of_getElem? (i := 1324) (by decide +kernel)) rfl
theorem wd_858 : Cond.fieldLink RX7 105 "ThreeDoorsModel" "shifted" "[J" ∈ TB := tb_of (List.mem_of_getElem? (i := 858) (by decide +kernel)) rfl
theorem fg_X7_105 : FG RX7 105 7 46 := ⟨RX7, TX7, 47, rfl, inlX7, by decide, wd_858⟩
theorem wd_612 : Cond.constant RJ6 265 (1431655765) ∈ TB := tb_of (List.mem_of_getElem? (i := 612) (by decide +kernel)) rfl
theorem wd_613 : Cond.constant RJ6 266 (858993459) ∈ TB := tb_of (List.mem_of_getElem? (i := 613) (by decide +kernel)) rfl
theorem wd_614 : Cond.constant RJ6 267 (252645135) ∈ TB := tb_of (List.mem_of_getElem? (i := 614) (by decide +kernel)) rfl
theorem wd_355 : Cond.methodLink RL 13 yX6_door ∈ TB := tb_of (List.mem_of_getElem? (i := 355) (by decide +kernel)) rfl
theorem wd_356 : Cond.instanceMethod yX6_door ∈ TB := tb_of (List.mem_of_getElem? (i := 356) (by decide +kernel)) rfl
theorem wd_357 : Cond.selects RX6 yX6_door yX6_door ∈ TB := tb_of (List.mem_of_getElem? (i := 357) (by decide +kernel)) rfl
theorem wd_358 : Cond.code yX6_door cX6_door 3 (some .int) ∈ TB := tb_of (List.mem_of_getElem? (i := 358) (by decide +kernel)) rfl
theorem vw_L_13 : VW RL 13 yX6_door cX6_door 3 (some .int) 2 := ⟨⟨wd_355, wd_356, wd_357, wd_78, wd_358⟩, by decide +kernel, by decide +kernel, by decide +kernel⟩
theorem wd_955 : Cond.methodLink RL 17 yX7_door ∈ TB := tb_of (List.mem_of_getElem? (i := 955) (by decide +kernel)) rfl
theorem wd_956 : Cond.instanceMethod yX7_door ∈ TB := tb_of (List.mem_of_getElem? (i := 956) (by decide +kernel)) rfl
theorem wd_957 : Cond.selects RX7 yX7_door yX7_door ∈ TB := tb_of (List.mem_of_getElem? (i := 957) (by decide +kernel)) rfl
theorem wd_958 : Cond.code yX7_door cX7_door 3 (some .int) ∈ TB := tb_of (List.mem_of_getElem? (i := 958) (by decide +kernel)) rfl
theorem vw_L_17 : VW RL 17 yX7_door cX7_door 3 (some .int) 2 := ⟨⟨wd_955, wd_956, wd_957, wd_85, wd_958⟩, by decide +kernel, by decide +kernel, by decide +kernel⟩
theorem wd_366 : Cond.methodLink RL 18 yX6_join ∈ TB := tb_of (List.mem_of_getElem? (i := 366) (by decide +kernel)) rfl
theorem wd_367 : Cond.instanceMethod yX6_join ∈ TB := tb_of (List.mem_of_getElem? (i := 367) (by decide +kernel)) rfl
theorem wd_368 : Cond.selects RX6 yX6_join yX6_join ∈ TB := tb_of (List.mem_of_getElem? (i := 368) (by decide +kernel)) rfl
theorem wd_369 : Cond.code yX6_join cX6_join 2 (some .int) ∈ TB := tb_of (List.mem_of_getElem? (i := 369) (by decide +kernel)) rfl
theorem vw_L_18 : VW RL 18 yX6_join cX6_join 2 (some .int) 1 := ⟨⟨wd_366, wd_367, wd_368, wd_78, wd_369⟩, by decide +kernel, by decide +kernel, by decide +kernel⟩
theorem wd_962 : Cond.methodLink RL 22 yX7_join ∈ TB := tb_of (List.mem_of_getElem? (i := 962) (by decide +kernel)) rfl
theorem wd_963 : Cond.instanceMethod yX7_join ∈ TB := tb_of (List.mem_of_getElem? (i := 963) (by decide +kernel)) rfl
theorem wd_964 : Cond.selects RX7 yX7_join yX7_join ∈ TB := tb_of (List.mem_of_getElem? (i := 964) (by decide +kernel)) rfl
theorem wd_965 : Cond.code yX7_join cX7_join 2 (some .int) ∈ TB := tb_of (List.mem_of_getElem? (i := 965) (by decide +kernel)) rfl
theorem vw_L_22 : VW RL 22 yX7_join cX7_join 2 (some .int) 1 := ⟨⟨wd_962, wd_963, wd_964, wd_85, wd_965⟩, by decide +kernel, by decide +kernel, by decide +kernel⟩
theorem wd_382 : Cond.methodLink RL 23 yX6_joins ∈ TB := tb_of (List.mem_of_getElem? (i := 382) (by decide +kernel)) rfl
theorem wd_383 : Cond.instanceMethod yX6_joins ∈ TB := tb_of (List.mem_of_getElem? (i := 383) (by decide +kernel)) rfl
theorem wd_384 : Cond.selects RX6 yX6_joins yX6_joins ∈ TB := tb_of (List.mem_of_getElem? (i := 384) (by decide +kernel)) rfl
theorem wd_385 : Cond.code yX6_joins cX6_joins 5 (some .int) ∈ TB := tb_of (List.mem_of_getElem? (i := 385) (by decide +kernel)) rfl
theorem vw_L_23 : VW RL 23 yX6_joins cX6_joins 5 (some .int) 3 := ⟨⟨wd_382, wd_383, wd_384, wd_78, wd_385⟩, by decide +kernel, by decide +kernel, by decide +kernel⟩
theorem wd_978 : Cond.methodLink RL 27 yX7_joins ∈ TB := tb_of (List.mem_of_getElem? (i := 978) (by decide +kernel)) rfl
theorem wd_979 : Cond.instanceMethod yX7_joins ∈ TB := tb_of (List.mem_of_getElem? (i := 979) (by decide +kernel)) rfl
theorem wd_980 : Cond.selects RX7 yX7_joins yX7_joins ∈ TB := tb_of (List.mem_of_getElem? (i := 980) (by decide +kernel)) rfl
theorem wd_981 : Cond.code yX7_joins cX7_joins 10 (some .int) ∈ TB := tb_of (List.mem_of_getElem? (i := 981) (by decide +kernel)) rfl
theorem vw_L_27 : VW RL 27 yX7_joins cX7_joins 10 (some .int) 3 := ⟨⟨wd_978, wd_979, wd_980, wd_85, wd_981⟩, by decide +kernel, by decide +kernel, by decide +kernel⟩
theorem wd_397 : Cond.methodLink RL 28 yX6_wall ∈ TB := tb_of (List.mem_of_getElem? (i := 397) (by decide +kernel)) rfl
theorem wd_398 : Cond.instanceMethod yX6_wall ∈ TB := tb_of (List.mem_of_getElem? (i := 398) (by decide +kernel)) rfl
theorem wd_399 : Cond.selects RX6 yX6_wall yX6_wall ∈ TB := tb_of (List.mem_of_getElem? (i := 399) (by decide +kernel)) rfl
theorem wd_400 : Cond.code yX6_wall cX6_wall 3 (some .int) ∈ TB := tb_of (List.mem_of_getElem? (i := 400) (by decide +kernel)) rfl
theorem vw_L_28 : VW RL 28 yX6_wall cX6_wall 3 (some .int) 2 := ⟨⟨wd_397, wd_398, wd_399, wd_78, wd_400⟩, by decide +kernel, by decide +kernel, by decide +kernel⟩
theorem wd_985 : Cond.methodLink RL 31 yX7_wall ∈ TB := tb_of (List.mem_of_getElem? (i := 985) (by decide +kernel)) rfl
theorem wd_986 : Cond.instanceMethod yX7_wall ∈ TB := tb_of (List.mem_of_getElem? (i := 986) (by decide +kernel)) rfl
theorem wd_987 : Cond.selects RX7 yX7_wall yX7_wall ∈ TB := tb_of (List.mem_of_getElem? (i := 987) (by decide +kernel)) rfl
theorem wd_988 : Cond.code yX7_wall cX7_wall 3 (some .int) ∈ TB := tb_of (List.mem_of_getElem? (i := 988) (by decide +kernel)) rfl
theorem vw_L_31 : VW RL 31 yX7_wall cX7_wall 3 (some .int) 2 := ⟨⟨wd_985, wd_986, wd_987, wd_85, wd_988⟩, by decide +kernel, by decide +kernel, by decide +kernel⟩
theorem wd_405 : Cond.methodLink RL 32 yX6_old ∈ TB := tb_of (List.mem_of_getElem? (i := 405) (by decide +kernel)) rfl
theorem wd_406 : Cond.instanceMethod yX6_old ∈ TB := tb_of (List.mem_of_getElem? (i := 406) (by decide +kernel)) rfl
theorem wd_407 : Cond.selects RX6 yX6_old yX6_old ∈ TB := tb_of (List.mem_of_getElem? (i := 407) (by decide +kernel)) rfl
theorem wd_408 : Cond.code yX6_old cX6_old 3 (some .int) ∈ TB := tb_of (List.mem_of_getElem? (i := 408) (by decide +kernel)) rfl
theorem vw_L_32 : VW RL 32 yX6_old cX6_old 3 (some .int) 1 := ⟨⟨wd_405, wd_406, wd_407, wd_78, wd_408⟩, by decide +kernel, by decide +kernel, by decide +kernel⟩
theorem wd_989 : Cond.methodLink RL 35 yX7_old ∈ TB := tb_of (List.mem_of_getElem? (i := 989) (by decide +kernel)) rfl
theorem wd_990 : Cond.instanceMethod yX7_old ∈ TB := tb_of (List.mem_of_getElem? (i := 990) (by decide +kernel)) rfl
theorem wd_991 : Cond.selects RX7 yX7_old yX7_old ∈ TB := tb_of (List.mem_of_getElem? (i := 991) (by decide +kernel)) rfl
theorem wd_992 : Cond.code yX7_old cX7_old 3 (some .int) ∈ TB := tb_of (List.mem_of_getElem? (i := 992) (by decide +kernel)) rfl
theorem vw_L_35 : VW RL 35 yX7_old cX7_old 3 (some .int) 1 := ⟨⟨wd_989, wd_990, wd_991, wd_85, wd_992⟩, by decide +kernel, by decide +kernel, by decide +kernel⟩
theorem wd_417 : Cond.methodLink RL 36 yX6_near ∈ TB := tb_of (List.mem_of_getElem? (i := 417) (by decide +kernel)) rfl
theorem wd_418 : Cond.instanceMethod yX6_near ∈ TB := tb_of (List.mem_of_getElem? (i := 418) (by decide +kernel)) rfl
theorem wd_419 : Cond.selects RX6 yX6_near yX6_near ∈ TB := tb_of (List.mem_of_getElem? (i := 419) (by decide +kernel)) rfl
theorem wd_420 : Cond.code yX6_near cX6_near 3 (some .int) ∈ TB := tb_of (List.mem_of_getElem? (i := 420) (by decide +kernel)) rfl
theorem vw_L_36 : VW RL 36 yX6_near cX6_near 3 (some .int) 1 := ⟨⟨wd_417, wd_418, wd_419, wd_78, wd_420⟩, by decide +kernel, by decide +kernel, by decide +kernel⟩
theorem wd_997 : Cond.methodLink RL 39 yX7_near ∈ TB := tb_of (List.mem_of_getElem? (i := 997) (by decide +kernel)) rfl
theorem wd_998 : Cond.instanceMethod yX7_near ∈ TB := tb_of (List.mem_of_getElem? (i := 998) (by decide +kernel)) rfl
theorem wd_999 : Cond.selects RX7 yX7_near yX7_near ∈ TB := tb_of (List.mem_of_getElem? (i := 999) (by decide +kernel)) rfl
theorem wd_1000 : Cond.code yX7_near cX7_near 3 (some .int) ∈ TB := tb_of (List.mem_of_getElem? (i := 1000) (by decide +kernel)) rfl
theorem vw_L_39 : VW RL 39 yX7_near cX7_near 3 (some .int) 1 := ⟨⟨wd_997, wd_998, wd_999, wd_85, wd_1000⟩, by decide +kernel, by decide +kernel, by decide +kernel⟩
theorem wd_421 : Cond.methodLink RL 40 yX6_mend ∈ TB := tb_of (List.mem_of_getElem? (i := 421) (by decide +kernel)) rfl
theorem wd_422 : Cond.instanceMethod yX6_mend ∈ TB := tb_of (List.mem_of_getElem? (i := 422) (by decide +kernel)) rfl
theorem wd_423 : Cond.selects RX6 yX6_mend yX6_mend ∈ TB := tb_of (List.mem_of_getElem? (i := 423) (by decide +kernel)) rfl
theorem wd_424 : Cond.code yX6_mend cX6_mend 5 (some .int) ∈ TB := tb_of (List.mem_of_getElem? (i := 424) (by decide +kernel)) rfl
theorem vw_L_40 : VW RL 40 yX6_mend cX6_mend 5 (some .int) 3 := ⟨⟨wd_421, wd_422, wd_423, wd_78, wd_424⟩, by decide +kernel, by decide +kernel, by decide +kernel⟩
theorem wd_1013 : Cond.methodLink RL 43 yX7_mend ∈ TB := tb_of (List.mem_of_getElem? (i := 1013) (by decide +kernel)) rfl
theorem wd_1014 : Cond.instanceMethod yX7_mend ∈ TB := tb_of (List.mem_of_getElem? (i := 1014) (by decide +kernel)) rfl
theorem wd_1015 : Cond.selects RX7 yX7_mend yX7_mend ∈ TB := tb_of (List.mem_of_getElem? (i := 1015) (by decide +kernel)) rfl
theorem wd_1016 : Cond.code yX7_mend cX7_mend 4 (some .int) ∈ TB := tb_of (List.mem_of_getElem? (i := 1016) (by decide +kernel)) rfl
theorem vw_L_43 : VW RL 43 yX7_mend cX7_mend 4 (some .int) 3 := ⟨⟨wd_1013, wd_1014, wd_1015, wd_85, wd_1016⟩, by decide +kernel, by decide +kernel, by decide +kernel⟩
theorem wd_449 : Cond.methodLink RL 44 yX6_of ∈ TB := tb_of (List.mem_of_getElem? (i := 449) (by decide +kernel)) rfl
theorem wd_450 : Cond.instanceMethod yX6_of ∈ TB := tb_of (List.mem_of_getElem? (i := 450) (by decide +kernel)) rfl
theorem wd_451 : Cond.selects RX6 yX6_of yX6_of ∈ TB := tb_of (List.mem_of_getElem? (i := 451) (by decide +kernel)) rfl
theorem wd_452 : Cond.code yX6_of cX6_of 3 (some .int) ∈ TB := tb_of (List.mem_of_getElem? (i := 452) (by decide +kernel)) rfl
theorem vw_L_44 : VW RL 44 yX6_of cX6_of 3 (some .int) 2 := ⟨⟨wd_449, wd_450, wd_451, wd_78, wd_452⟩, by decide +kernel, by decide +kernel, by decide +kernel⟩
theorem wd_1025 : Cond.methodLink RL 47 yX7_of ∈ TB := tb_of (List.mem_of_getElem? (i := 1025) (by decide +kernel)) rfl
theorem wd_1026 : Cond.instanceMethod yX7_of ∈ TB := tb_of (List.mem_of_getElem? (i := 1026) (by decide +kernel)) rfl
theorem wd_1027 : Cond.selects RX7 yX7_of yX7_of ∈ TB := tb_of (List.mem_of_getElem? (i := 1027) (by decide +kernel)) rfl
theorem wd_1028 : Cond.code yX7_of cX7_of 3 (some .int) ∈ TB := tb_of (List.mem_of_getElem? (i := 1028) (by decide +kernel)) rfl
theorem vw_L_47 : VW RL 47 yX7_of cX7_of 3 (some .int) 2 := ⟨⟨wd_1025, wd_1026, wd_1027, wd_85, wd_1028⟩, by decide +kernel, by decide +kernel, by decide +kernel⟩
theorem wd_514 : Cond.methodLink RL 48 yX6_feed ∈ TB := tb_of (List.mem_of_getElem? (i := 514) (by decide +kernel)) rfl
theorem wd_515 : Cond.instanceMethod yX6_feed ∈ TB := tb_of (List.mem_of_getElem? (i := 515) (by decide +kernel)) rfl
theorem wd_516 : Cond.selects RX6 yX6_feed yX6_feed ∈ TB := tb_of (List.mem_of_getElem? (i := 516) (by decide +kernel)) rfl
theorem wd_517 : Cond.code yX6_feed cX6_feed 2 (some .int) ∈ TB := tb_of (List.mem_of_getElem? (i := 517) (by decide +kernel)) rfl
theorem vw_L_48 : VW RL 48 yX6_feed cX6_feed 2 (some .int) 1 := ⟨⟨wd_514, wd_515, wd_516, wd_78, wd_517⟩, by decide +kernel, by decide +kernel, by decide +kernel⟩
theorem wd_1051 : Cond.methodLink RL 51 yX7_feed ∈ TB := tb_of (List.mem_of_getElem? (i := 1051) (by decide +kernel)) rfl
theorem wd_1052 : Cond.instanceMethod yX7_feed ∈ TB := tb_of (List.mem_of_getElem? (i := 1052) (by decide +kernel)) rfl
theorem wd_1053 : Cond.selects RX7 yX7_feed yX7_feed ∈ TB := tb_of (List.mem_of_getElem? (i := 1053) (by decide +kernel)) rfl
theorem wd_1054 : Cond.code yX7_feed cX7_feed 2 (some .int) ∈ TB := tb_of (List.mem_of_getElem? (i := 1054) (by decide +kernel)) rfl
theorem vw_L_51 : VW RL 51 yX7_feed cX7_feed 2 (some .int) 1 := ⟨⟨wd_1051, wd_1052, wd_1053, wd_85, wd_1054⟩, by decide +kernel, by decide +kernel, by decide +kernel⟩
theorem wd_522 : Cond.methodLink RL 52 yX6_law ∈ TB := tb_of (List.mem_of_getElem? (i := 522) (by decide +kernel)) rfl
theorem wd_523 : Cond.instanceMethod yX6_law ∈ TB := tb_of (List.mem_of_getElem? (i := 523) (by decide +kernel)) rfl
theorem wd_524 : Cond.selects RX6 yX6_law yX6_law ∈ TB := tb_of (List.mem_of_getElem? (i := 524) (by decide +kernel)) rfl
theorem wd_525 : Cond.code yX6_law cX6_law 2 (some .int) ∈ TB := tb_of (List.mem_of_getElem? (i := 525) (by decide +kernel)) rfl
theorem vw_L_52 : VW RL 52 yX6_law cX6_law 2 (some .int) 0 := ⟨⟨wd_522, wd_523, wd_524, wd_78, wd_525⟩, by decide +kernel, by decide +kernel, by decide +kernel⟩
theorem wd_1055 : Cond.methodLink RL 56 yX7_law ∈ TB := tb_of (List.mem_of_getElem? (i := 1055) (by decide +kernel)) rfl
theorem wd_1056 : Cond.instanceMethod yX7_law ∈ TB := tb_of (List.mem_of_getElem? (i := 1056) (by decide +kernel)) rfl
theorem wd_1057 : Cond.selects RX7 yX7_law yX7_law ∈ TB := tb_of (List.mem_of_getElem? (i := 1057) (by decide +kernel)) rfl
theorem wd_1058 : Cond.code yX7_law cX7_law 2 (some .int) ∈ TB := tb_of (List.mem_of_getElem? (i := 1058) (by decide +kernel)) rfl
theorem vw_L_56 : VW RL 56 yX7_law cX7_law 2 (some .int) 0 := ⟨⟨wd_1055, wd_1056, wd_1057, wd_85, wd_1058⟩, by decide +kernel, by decide +kernel, by decide +kernel⟩
theorem wd_531 : Cond.methodLink RL 57 yX6_far ∈ TB := tb_of (List.mem_of_getElem? (i := 531) (by decide +kernel)) rfl
theorem wd_532 : Cond.instanceMethod yX6_far ∈ TB := tb_of (List.mem_of_getElem? (i := 532) (by decide +kernel)) rfl
theorem wd_533 : Cond.selects RX6 yX6_far yX6_far ∈ TB := tb_of (List.mem_of_getElem? (i := 533) (by decide +kernel)) rfl
theorem wd_534 : Cond.code yX6_far cX6_far 2 (some .int) ∈ TB := tb_of (List.mem_of_getElem? (i := 534) (by decide +kernel)) rfl
theorem vw_L_57 : VW RL 57 yX6_far cX6_far 2 (some .int) 1 := ⟨⟨wd_531, wd_532, wd_533, wd_78, wd_534⟩, by decide +kernel, by decide +kernel, by decide +kernel⟩
theorem wd_1114 : Cond.methodLink RL 60 yX7_far ∈ TB := tb_of (List.mem_of_getElem? (i := 1114) (by decide +kernel)) rfl
theorem wd_1115 : Cond.instanceMethod yX7_far ∈ TB := tb_of (List.mem_of_getElem? (i := 1115) (by decide +kernel)) rfl
theorem wd_1116 : Cond.selects RX7 yX7_far yX7_far ∈ TB := tb_of (List.mem_of_getElem? (i := 1116) (by decide +kernel)) rfl
theorem wd_1117 : Cond.code yX7_far cX7_far 2 (some .int) ∈ TB := tb_of (List.mem_of_getElem? (i := 1117) (by decide +kernel)) rfl
theorem vw_L_60 : VW RL 60 yX7_far cX7_far 2 (some .int) 1 := ⟨⟨wd_1114, wd_1115, wd_1116, wd_85, wd_1117⟩, by decide +kernel, by decide +kernel, by decide +kernel⟩
theorem wd_569 : Cond.methodLink RL 61 yX6_judge ∈ TB := tb_of (List.mem_of_getElem? (i := 569) (by decide +kernel)) rfl
theorem wd_570 : Cond.instanceMethod yX6_judge ∈ TB := tb_of (List.mem_of_getElem? (i := 570) (by decide +kernel)) rfl
theorem wd_571 : Cond.selects RX6 yX6_judge yX6_judge ∈ TB := tb_of (List.mem_of_getElem? (i := 571) (by decide +kernel)) rfl
theorem wd_572 : Cond.code yX6_judge cX6_judge 2 (some .int) ∈ TB := tb_of (List.mem_of_getElem? (i := 572) (by decide +kernel)) rfl
theorem vw_L_61 : VW RL 61 yX6_judge cX6_judge 2 (some .int) 1 := ⟨⟨wd_569, wd_570, wd_571, wd_78, wd_572⟩, by decide +kernel, by decide +kernel, by decide +kernel⟩
theorem wd_1126 : Cond.methodLink RL 64 yX7_judge ∈ TB := tb_of (List.mem_of_getElem? (i := 1126) (by decide +kernel)) rfl
theorem wd_1127 : Cond.instanceMethod yX7_judge ∈ TB := tb_of (List.mem_of_getElem? (i := 1127) (by decide +kernel)) rfl
theorem wd_1128 : Cond.selects RX7 yX7_judge yX7_judge ∈ TB := tb_of (List.mem_of_getElem? (i := 1128) (by decide +kernel)) rfl
theorem wd_1129 : Cond.code yX7_judge cX7_judge 4 (some .int) ∈ TB := tb_of (List.mem_of_getElem? (i := 1129) (by decide +kernel)) rfl
theorem vw_L_64 : VW RL 64 yX7_judge cX7_judge 4 (some .int) 1 := ⟨⟨wd_1126, wd_1127, wd_1128, wd_85, wd_1129⟩, by decide +kernel, by decide +kernel, by decide +kernel⟩
theorem wd_585 : Cond.methodLink RL 65 yX6_best ∈ TB := tb_of (List.mem_of_getElem? (i := 585) (by decide +kernel)) rfl
theorem wd_586 : Cond.instanceMethod yX6_best ∈ TB := tb_of (List.mem_of_getElem? (i := 586) (by decide +kernel)) rfl
theorem wd_587 : Cond.selects RX6 yX6_best yX6_best ∈ TB := tb_of (List.mem_of_getElem? (i := 587) (by decide +kernel)) rfl
theorem wd_588 : Cond.code yX6_best cX6_best 2 (some .int) ∈ TB := tb_of (List.mem_of_getElem? (i := 588) (by decide +kernel)) rfl
theorem vw_L_65 : VW RL 65 yX6_best cX6_best 2 (some .int) 1 := ⟨⟨wd_585, wd_586, wd_587, wd_78, wd_588⟩, by decide +kernel, by decide +kernel, by decide +kernel⟩
theorem wd_1134 : Cond.methodLink RL 68 yX7_best ∈ TB := tb_of (List.mem_of_getElem? (i := 1134) (by decide +kernel)) rfl
theorem wd_1135 : Cond.instanceMethod yX7_best ∈ TB := tb_of (List.mem_of_getElem? (i := 1135) (by decide +kernel)) rfl
theorem wd_1136 : Cond.selects RX7 yX7_best yX7_best ∈ TB := tb_of (List.mem_of_getElem? (i := 1136) (by decide +kernel)) rfl
theorem wd_1137 : Cond.code yX7_best cX7_best 2 (some .int) ∈ TB := tb_of (List.mem_of_getElem? (i := 1137) (by decide +kernel)) rfl
theorem vw_L_68 : VW RL 68 yX7_best cX7_best 2 (some .int) 1 := ⟨⟨wd_1134, wd_1135, wd_1136, wd_85, wd_1137⟩, by decide +kernel, by decide +kernel, by decide +kernel⟩
theorem wd_618 : Cond.methodLink RL 69 yX6_all ∈ TB := tb_of (List.mem_of_getElem? (i := 618) (by decide +kernel)) rfl
theorem wd_619 : Cond.instanceMethod yX6_all ∈ TB := tb_of (List.mem_of_getElem? (i := 619) (by decide +kernel)) rfl
theorem wd_620 : Cond.selects RX6 yX6_all yX6_all ∈ TB := tb_of (List.mem_of_getElem? (i := 620) (by decide +kernel)) rfl
theorem wd_621 : Cond.code yX6_all cX6_all 6 (some .int) ∈ TB := tb_of (List.mem_of_getElem? (i := 621) (by decide +kernel)) rfl
theorem vw_L_69 : VW RL 69 yX6_all cX6_all 6 (some .int) 1 := ⟨⟨wd_618, wd_619, wd_620, wd_78, wd_621⟩, by decide +kernel, by decide +kernel, by decide +kernel⟩
theorem wd_1165 : Cond.methodLink RL 72 yX7_all ∈ TB := tb_of (List.mem_of_getElem? (i := 1165) (by decide +kernel)) rfl
theorem wd_1166 : Cond.instanceMethod yX7_all ∈ TB := tb_of (List.mem_of_getElem? (i := 1166) (by decide +kernel)) rfl
theorem wd_1167 : Cond.selects RX7 yX7_all yX7_all ∈ TB := tb_of (List.mem_of_getElem? (i := 1167) (by decide +kernel)) rfl
theorem wd_1168 : Cond.code yX7_all cX7_all 6 (some .int) ∈ TB := tb_of (List.mem_of_getElem? (i := 1168) (by decide +kernel)) rfl
theorem vw_L_72 : VW RL 72 yX7_all cX7_all 6 (some .int) 1 := ⟨⟨wd_1165, wd_1166, wd_1167, wd_85, wd_1168⟩, by decide +kernel, by decide +kernel, by decide +kernel⟩
theorem wd_623 : Cond.methodLink RL 73 yX6_even ∈ TB := tb_of (List.mem_of_getElem? (i := 623) (by decide +kernel)) rfl
theorem wd_624 : Cond.instanceMethod yX6_even ∈ TB := tb_of (List.mem_of_getElem? (i := 624) (by decide +kernel)) rfl
theorem wd_625 : Cond.selects RX6 yX6_even yX6_even ∈ TB := tb_of (List.mem_of_getElem? (i := 625) (by decide +kernel)) rfl
theorem wd_626 : Cond.code yX6_even cX6_even 2 (some .int) ∈ TB := tb_of (List.mem_of_getElem? (i := 626) (by decide +kernel)) rfl
theorem vw_L_73 : VW RL 73 yX6_even cX6_even 2 (some .int) 0 := ⟨⟨wd_623, wd_624, wd_625, wd_78, wd_626⟩, by decide +kernel, by decide +kernel, by decide +kernel⟩
theorem wd_1169 : Cond.methodLink RL 76 yX7_even ∈ TB := tb_of (List.mem_of_getElem? (i := 1169) (by decide +kernel)) rfl
theorem wd_1170 : Cond.instanceMethod yX7_even ∈ TB := tb_of (List.mem_of_getElem? (i := 1170) (by decide +kernel)) rfl
theorem wd_1171 : Cond.selects RX7 yX7_even yX7_even ∈ TB := tb_of (List.mem_of_getElem? (i := 1171) (by decide +kernel)) rfl
theorem wd_1172 : Cond.code yX7_even cX7_even 2 (some .int) ∈ TB := tb_of (List.mem_of_getElem? (i := 1172) (by decide +kernel)) rfl
theorem vw_L_76 : VW RL 76 yX7_even cX7_even 2 (some .int) 0 := ⟨⟨wd_1169, wd_1170, wd_1171, wd_85, wd_1172⟩, by decide +kernel, by decide +kernel, by decide +kernel⟩
theorem wd_631 : Cond.methodLink RL 77 yX6_greedy ∈ TB := tb_of (List.mem_of_getElem? (i := 631) (by decide +kernel)) rfl
theorem wd_632 : Cond.instanceMethod yX6_greedy ∈ TB := tb_of (List.mem_of_getElem? (i := 632) (by decide +kernel)) rfl
theorem wd_633 : Cond.selects RX6 yX6_greedy yX6_greedy ∈ TB := tb_of (List.mem_of_getElem? (i := 633) (by decide +kernel)) rfl
theorem wd_634 : Cond.code yX6_greedy cX6_greedy 5 (some .int) ∈ TB := tb_of (List.mem_of_getElem? (i := 634) (by decide +kernel)) rfl
theorem vw_L_77 : VW RL 77 yX6_greedy cX6_greedy 5 (some .int) 1 := ⟨⟨wd_631, wd_632, wd_633, wd_78, wd_634⟩, by decide +kernel, by decide +kernel, by decide +kernel⟩
theorem wd_1177 : Cond.methodLink RL 80 yX7_greedy ∈ TB := tb_of (List.mem_of_getElem? (i := 1177) (by decide +kernel)) rfl
theorem wd_1178 : Cond.instanceMethod yX7_greedy ∈ TB := tb_of (List.mem_of_getElem? (i := 1178) (by decide +kernel)) rfl
theorem wd_1179 : Cond.selects RX7 yX7_greedy yX7_greedy ∈ TB := tb_of (List.mem_of_getElem? (i := 1179) (by decide +kernel)) rfl
theorem wd_1180 : Cond.code yX7_greedy cX7_greedy 5 (some .int) ∈ TB := tb_of (List.mem_of_getElem? (i := 1180) (by decide +kernel)) rfl
theorem vw_L_80 : VW RL 80 yX7_greedy cX7_greedy 5 (some .int) 1 := ⟨⟨wd_1177, wd_1178, wd_1179, wd_85, wd_1180⟩, by decide +kernel, by decide +kernel, by decide +kernel⟩
theorem wd_640 : Cond.methodLink RL 81 yX6_dry ∈ TB := tb_of (List.mem_of_getElem? (i := 640) (by decide +kernel)) rfl
theorem wd_641 : Cond.instanceMethod yX6_dry ∈ TB := tb_of (List.mem_of_getElem? (i := 641) (by decide +kernel)) rfl
theorem wd_642 : Cond.selects RX6 yX6_dry yX6_dry ∈ TB := tb_of (List.mem_of_getElem? (i := 642) (by decide +kernel)) rfl
theorem wd_643 : Cond.code yX6_dry cX6_dry 6 (some .int) ∈ TB := tb_of (List.mem_of_getElem? (i := 643) (by decide +kernel)) rfl
theorem vw_L_81 : VW RL 81 yX6_dry cX6_dry 6 (some .int) 3 := ⟨⟨wd_640, wd_641, wd_642, wd_78, wd_643⟩, by decide +kernel, by decide +kernel, by decide +kernel⟩
theorem wd_1185 : Cond.methodLink RL 84 yX7_dry ∈ TB := tb_of (List.mem_of_getElem? (i := 1185) (by decide +kernel)) rfl
theorem wd_1186 : Cond.instanceMethod yX7_dry ∈ TB := tb_of (List.mem_of_getElem? (i := 1186) (by decide +kernel)) rfl
theorem wd_1187 : Cond.selects RX7 yX7_dry yX7_dry ∈ TB := tb_of (List.mem_of_getElem? (i := 1187) (by decide +kernel)) rfl
theorem wd_1188 : Cond.code yX7_dry cX7_dry 9 (some .int) ∈ TB := tb_of (List.mem_of_getElem? (i := 1188) (by decide +kernel)) rfl
theorem vw_L_84 : VW RL 84 yX7_dry cX7_dry 9 (some .int) 3 := ⟨⟨wd_1185, wd_1186, wd_1187, wd_85, wd_1188⟩, by decide +kernel, by decide +kernel, by decide +kernel⟩
theorem wd_649 : Cond.methodLink RL 85 yX6_grow ∈ TB := tb_of (List.mem_of_getElem? (i := 649) (by decide +kernel)) rfl
theorem wd_650 : Cond.instanceMethod yX6_grow ∈ TB := tb_of (List.mem_of_getElem? (i := 650) (by decide +kernel)) rfl
theorem wd_651 : Cond.selects RX6 yX6_grow yX6_grow ∈ TB := tb_of (List.mem_of_getElem? (i := 651) (by decide +kernel)) rfl
theorem wd_652 : Cond.code yX6_grow cX6_grow 4 (some .int) ∈ TB := tb_of (List.mem_of_getElem? (i := 652) (by decide +kernel)) rfl
theorem vw_L_85 : VW RL 85 yX6_grow cX6_grow 4 (some .int) 0 := ⟨⟨wd_649, wd_650, wd_651, wd_78, wd_652⟩, by decide +kernel, by decide +kernel, by decide +kernel⟩
theorem wd_1189 : Cond.methodLink RL 88 yX7_grow ∈ TB := tb_of (List.mem_of_getElem? (i := 1189) (by decide +kernel)) rfl
theorem wd_1190 : Cond.instanceMethod yX7_grow ∈ TB := tb_of (List.mem_of_getElem? (i := 1190) (by decide +kernel)) rfl
theorem wd_1191 : Cond.selects RX7 yX7_grow yX7_grow ∈ TB := tb_of (List.mem_of_getElem? (i := 1191) (by decide +kernel)) rfl
theorem wd_1192 : Cond.code yX7_grow cX7_grow 4 (some .int) ∈ TB := tb_of (List.mem_of_getElem? (i := 1192) (by decide +kernel)) rfl
theorem vw_L_88 : VW RL 88 yX7_grow cX7_grow 4 (some .int) 0 := ⟨⟨wd_1189, wd_1190, wd_1191, wd_85, wd_1192⟩, by decide +kernel, by decide +kernel, by decide +kernel⟩
theorem wd_665 : Cond.methodLink RL 89 yX6_breaks ∈ TB := tb_of (List.mem_of_getElem? (i := 665) (by decide +kernel)) rfl
theorem wd_666 : Cond.instanceMethod yX6_breaks ∈ TB := tb_of (List.mem_of_getElem? (i := 666) (by decide +kernel)) rfl
theorem wd_667 : Cond.selects RX6 yX6_breaks yX6_breaks ∈ TB := tb_of (List.mem_of_getElem? (i := 667) (by decide +kernel)) rfl
theorem wd_668 : Cond.code yX6_breaks cX6_breaks 7 (some .int) ∈ TB := tb_of (List.mem_of_getElem? (i := 668) (by decide +kernel)) rfl
theorem vw_L_89 : VW RL 89 yX6_breaks cX6_breaks 7 (some .int) 1 := ⟨⟨wd_665, wd_666, wd_667, wd_78, wd_668⟩, by decide +kernel, by decide +kernel, by decide +kernel⟩
theorem wd_1201 : Cond.methodLink RL 92 yX7_breaks ∈ TB := tb_of (List.mem_of_getElem? (i := 1201) (by decide +kernel)) rfl
theorem wd_1202 : Cond.instanceMethod yX7_breaks ∈ TB := tb_of (List.mem_of_getElem? (i := 1202) (by decide +kernel)) rfl
theorem wd_1203 : Cond.selects RX7 yX7_breaks yX7_breaks ∈ TB := tb_of (List.mem_of_getElem? (i := 1203) (by decide +kernel)) rfl
theorem wd_1204 : Cond.code yX7_breaks cX7_breaks 6 (some .int) ∈ TB := tb_of (List.mem_of_getElem? (i := 1204) (by decide +kernel)) rfl
theorem vw_L_92 : VW RL 92 yX7_breaks cX7_breaks 6 (some .int) 1 := ⟨⟨wd_1201, wd_1202, wd_1203, wd_85, wd_1204⟩, by decide +kernel, by decide +kernel, by decide +kernel⟩
theorem wd_669 : Cond.methodLink RL 93 yX6_goes ∈ TB := tb_of (List.mem_of_getElem? (i := 669) (by decide +kernel)) rfl
theorem wd_670 : Cond.instanceMethod yX6_goes ∈ TB := tb_of (List.mem_of_getElem? (i := 670) (by decide +kernel)) rfl
theorem wd_671 : Cond.selects RX6 yX6_goes yX6_goes ∈ TB := tb_of (List.mem_of_getElem? (i := 671) (by decide +kernel)) rfl
theorem wd_672 : Cond.code yX6_goes cX6_goes 3 (some .int) ∈ TB := tb_of (List.mem_of_getElem? (i := 672) (by decide +kernel)) rfl
theorem vw_L_93 : VW RL 93 yX6_goes cX6_goes 3 (some .int) 2 := ⟨⟨wd_669, wd_670, wd_671, wd_78, wd_672⟩, by decide +kernel, by decide +kernel, by decide +kernel⟩
theorem wd_1205 : Cond.methodLink RL 96 yX7_goes ∈ TB := tb_of (List.mem_of_getElem? (i := 1205) (by decide +kernel)) rfl
theorem wd_1206 : Cond.instanceMethod yX7_goes ∈ TB := tb_of (List.mem_of_getElem? (i := 1206) (by decide +kernel)) rfl
theorem wd_1207 : Cond.selects RX7 yX7_goes yX7_goes ∈ TB := tb_of (List.mem_of_getElem? (i := 1207) (by decide +kernel)) rfl
theorem wd_1208 : Cond.code yX7_goes cX7_goes 4 (some .int) ∈ TB := tb_of (List.mem_of_getElem? (i := 1208) (by decide +kernel)) rfl
theorem vw_L_96 : VW RL 96 yX7_goes cX7_goes 4 (some .int) 2 := ⟨⟨wd_1205, wd_1206, wd_1207, wd_85, wd_1208⟩, by decide +kernel, by decide +kernel, by decide +kernel⟩
theorem wd_677 : Cond.methodLink RL 97 yX6_worth ∈ TB := tb_of (List.mem_of_getElem? (i := 677) (by decide +kernel)) rfl
theorem wd_678 : Cond.instanceMethod yX6_worth ∈ TB := tb_of (List.mem_of_getElem? (i := 678) (by decide +kernel)) rfl
theorem wd_679 : Cond.selects RX6 yX6_worth yX6_worth ∈ TB := tb_of (List.mem_of_getElem? (i := 679) (by decide +kernel)) rfl
theorem wd_680 : Cond.code yX6_worth cX6_worth 5 (some .int) ∈ TB := tb_of (List.mem_of_getElem? (i := 680) (by decide +kernel)) rfl
theorem vw_L_97 : VW RL 97 yX6_worth cX6_worth 5 (some .int) 2 := ⟨⟨wd_677, wd_678, wd_679, wd_78, wd_680⟩, by decide +kernel, by decide +kernel, by decide +kernel⟩
theorem wd_1213 : Cond.methodLink RL 100 yX7_worth ∈ TB := tb_of (List.mem_of_getElem? (i := 1213) (by decide +kernel)) rfl
theorem wd_1214 : Cond.instanceMethod yX7_worth ∈ TB := tb_of (List.mem_of_getElem? (i := 1214) (by decide +kernel)) rfl
theorem wd_1215 : Cond.selects RX7 yX7_worth yX7_worth ∈ TB := tb_of (List.mem_of_getElem? (i := 1215) (by decide +kernel)) rfl
theorem wd_1216 : Cond.code yX7_worth cX7_worth 5 (some .int) ∈ TB := tb_of (List.mem_of_getElem? (i := 1216) (by decide +kernel)) rfl
theorem vw_L_100 : VW RL 100 yX7_worth cX7_worth 5 (some .int) 2 := ⟨⟨wd_1213, wd_1214, wd_1215, wd_85, wd_1216⟩, by decide +kernel, by decide +kernel, by decide +kernel⟩
theorem wd_681 : Cond.methodLink RL 101 yX6_steps ∈ TB := tb_of (List.mem_of_getElem? (i := 681) (by decide +kernel)) rfl
theorem wd_682 : Cond.instanceMethod yX6_steps ∈ TB := tb_of (List.mem_of_getElem? (i := 682) (by decide +kernel)) rfl
theorem wd_683 : Cond.selects RX6 yX6_steps yX6_steps ∈ TB := tb_of (List.mem_of_getElem? (i := 683) (by decide +kernel)) rfl
theorem wd_684 : Cond.code yX6_steps cX6_steps 8 (some .int) ∈ TB := tb_of (List.mem_of_getElem? (i := 684) (by decide +kernel)) rfl
theorem vw_L_101 : VW RL 101 yX6_steps cX6_steps 8 (some .int) 2 := ⟨⟨wd_681, wd_682, wd_683, wd_78, wd_684⟩, by decide +kernel, by decide +kernel, by decide +kernel⟩
theorem wd_1217 : Cond.methodLink RL 104 yX7_steps ∈ TB := tb_of (List.mem_of_getElem? (i := 1217) (by decide +kernel)) rfl
theorem wd_1218 : Cond.instanceMethod yX7_steps ∈ TB := tb_of (List.mem_of_getElem? (i := 1218) (by decide +kernel)) rfl
theorem wd_1219 : Cond.selects RX7 yX7_steps yX7_steps ∈ TB := tb_of (List.mem_of_getElem? (i := 1219) (by decide +kernel)) rfl
theorem wd_1220 : Cond.code yX7_steps cX7_steps 8 (some .int) ∈ TB := tb_of (List.mem_of_getElem? (i := 1220) (by decide +kernel)) rfl
theorem vw_L_104 : VW RL 104 yX7_steps cX7_steps 8 (some .int) 2 := ⟨⟨wd_1217, wd_1218, wd_1219, wd_85, wd_1220⟩, by decide +kernel, by decide +kernel, by decide +kernel⟩
theorem wd_686 : Cond.methodLink RL 105 yX6_missed ∈ TB := tb_of (List.mem_of_getElem? (i := 686) (by decide +kernel)) rfl
theorem wd_687 : Cond.instanceMethod yX6_missed ∈ TB := tb_of (List.mem_of_getElem? (i := 687) (by decide +kernel)) rfl
theorem wd_688 : Cond.selects RX6 yX6_missed yX6_missed ∈ TB := tb_of (List.mem_of_getElem? (i := 688) (by decide +kernel)) rfl
theorem wd_689 : Cond.code yX6_missed cX6_missed 5 (some .int) ∈ TB := tb_of (List.mem_of_getElem? (i := 689) (by decide +kernel)) rfl
theorem vw_L_105 : VW RL 105 yX6_missed cX6_missed 5 (some .int) 1 := ⟨⟨wd_686, wd_687, wd_688, wd_78, wd_689⟩, by decide +kernel, by decide +kernel, by decide +kernel⟩
theorem wd_1221 : Cond.methodLink RL 108 yX7_missed ∈ TB := tb_of (List.mem_of_getElem? (i := 1221) (by decide +kernel)) rfl
theorem wd_1222 : Cond.instanceMethod yX7_missed ∈ TB := tb_of (List.mem_of_getElem? (i := 1222) (by decide +kernel)) rfl
theorem wd_1223 : Cond.selects RX7 yX7_missed yX7_missed ∈ TB := tb_of (List.mem_of_getElem? (i := 1223) (by decide +kernel)) rfl
theorem wd_1224 : Cond.code yX7_missed cX7_missed 4 (some .int) ∈ TB := tb_of (List.mem_of_getElem? (i := 1224) (by decide +kernel)) rfl
theorem vw_L_108 : VW RL 108 yX7_missed cX7_missed 4 (some .int) 1 := ⟨⟨wd_1221, wd_1222, wd_1223, wd_85, wd_1224⟩, by decide +kernel, by decide +kernel, by decide +kernel⟩
theorem wd_691 : Cond.methodLink RL 109 yX6_stood ∈ TB := tb_of (List.mem_of_getElem? (i := 691) (by decide +kernel)) rfl
theorem wd_692 : Cond.instanceMethod yX6_stood ∈ TB := tb_of (List.mem_of_getElem? (i := 692) (by decide +kernel)) rfl
theorem wd_693 : Cond.selects RX6 yX6_stood yX6_stood ∈ TB := tb_of (List.mem_of_getElem? (i := 693) (by decide +kernel)) rfl
theorem wd_694 : Cond.code yX6_stood cX6_stood 6 (some .int) ∈ TB := tb_of (List.mem_of_getElem? (i := 694) (by decide +kernel)) rfl
theorem vw_L_109 : VW RL 109 yX6_stood cX6_stood 6 (some .int) 2 := ⟨⟨wd_691, wd_692, wd_693, wd_78, wd_694⟩, by decide +kernel, by decide +kernel, by decide +kernel⟩
theorem wd_1225 : Cond.methodLink RL 112 yX7_stood ∈ TB := tb_of (List.mem_of_getElem? (i := 1225) (by decide +kernel)) rfl
theorem wd_1226 : Cond.instanceMethod yX7_stood ∈ TB := tb_of (List.mem_of_getElem? (i := 1226) (by decide +kernel)) rfl
theorem wd_1227 : Cond.selects RX7 yX7_stood yX7_stood ∈ TB := tb_of (List.mem_of_getElem? (i := 1227) (by decide +kernel)) rfl
theorem wd_1228 : Cond.code yX7_stood cX7_stood 8 (some .int) ∈ TB := tb_of (List.mem_of_getElem? (i := 1228) (by decide +kernel)) rfl
theorem vw_L_112 : VW RL 112 yX7_stood cX7_stood 8 (some .int) 2 := ⟨⟨wd_1225, wd_1226, wd_1227, wd_85, wd_1228⟩, by decide +kernel, by decide +kernel, by decide +kernel⟩
theorem wd_699 : Cond.methodLink RL 113 yX6_turn ∈ TB := tb_of (List.mem_of_getElem? (i := 699) (by decide +kernel)) rfl
theorem wd_700 : Cond.instanceMethod yX6_turn ∈ TB := tb_of (List.mem_of_getElem? (i := 700) (by decide +kernel)) rfl
theorem wd_701 : Cond.selects RX6 yX6_turn yX6_turn ∈ TB := tb_of (List.mem_of_getElem? (i := 701) (by decide +kernel)) rfl
theorem wd_702 : Cond.code yX6_turn cX6_turn 10 (some .int) ∈ TB := tb_of (List.mem_of_getElem? (i := 702) (by decide +kernel)) rfl
theorem vw_L_113 : VW RL 113 yX6_turn cX6_turn 10 (some .int) 2 := ⟨⟨wd_699, wd_700, wd_701, wd_78, wd_702⟩, by decide +kernel, by decide +kernel, by decide +kernel⟩
theorem wd_1229 : Cond.methodLink RL 116 yX7_turn ∈ TB := tb_of (List.mem_of_getElem? (i := 1229) (by decide +kernel)) rfl
theorem wd_1230 : Cond.instanceMethod yX7_turn ∈ TB := tb_of (List.mem_of_getElem? (i := 1230) (by decide +kernel)) rfl
theorem wd_1231 : Cond.selects RX7 yX7_turn yX7_turn ∈ TB := tb_of (List.mem_of_getElem? (i := 1231) (by decide +kernel)) rfl
theorem wd_1232 : Cond.code yX7_turn cX7_turn 7 (some .int) ∈ TB := tb_of (List.mem_of_getElem? (i := 1232) (by decide +kernel)) rfl
theorem vw_L_116 : VW RL 116 yX7_turn cX7_turn 7 (some .int) 2 := ⟨⟨wd_1229, wd_1230, wd_1231, wd_85, wd_1232⟩, by decide +kernel, by decide +kernel, by decide +kernel⟩
theorem wd_703 : Cond.methodLink RL 117 yX6_undo ∈ TB := tb_of (List.mem_of_getElem? (i := 703) (by decide +kernel)) rfl
theorem wd_704 : Cond.instanceMethod yX6_undo ∈ TB := tb_of (List.mem_of_getElem? (i := 704) (by decide +kernel)) rfl
theorem wd_705 : Cond.selects RX6 yX6_undo yX6_undo ∈ TB := tb_of (List.mem_of_getElem? (i := 705) (by decide +kernel)) rfl
theorem wd_706 : Cond.code yX6_undo cX6_undo 1 (some .int) ∈ TB := tb_of (List.mem_of_getElem? (i := 706) (by decide +kernel)) rfl
theorem vw_L_117 : VW RL 117 yX6_undo cX6_undo 1 (some .int) 0 := ⟨⟨wd_703, wd_704, wd_705, wd_78, wd_706⟩, by decide +kernel, by decide +kernel, by decide +kernel⟩
theorem wd_1001 : Cond.methodLink RL 120 yX7_undo ∈ TB := tb_of (List.mem_of_getElem? (i := 1001) (by decide +kernel)) rfl
theorem wd_1002 : Cond.instanceMethod yX7_undo ∈ TB := tb_of (List.mem_of_getElem? (i := 1002) (by decide +kernel)) rfl
theorem wd_1003 : Cond.selects RX7 yX7_undo yX7_undo ∈ TB := tb_of (List.mem_of_getElem? (i := 1003) (by decide +kernel)) rfl
theorem wd_1004 : Cond.code yX7_undo cX7_undo 1 (some .int) ∈ TB := tb_of (List.mem_of_getElem? (i := 1004) (by decide +kernel)) rfl
theorem vw_L_120 : VW RL 120 yX7_undo cX7_undo 1 (some .int) 0 := ⟨⟨wd_1001, wd_1002, wd_1003, wd_85, wd_1004⟩, by decide +kernel, by decide +kernel, by decide +kernel⟩
theorem wd_712 : Cond.methodLink RL 121 yX6_redo ∈ TB := tb_of (List.mem_of_getElem? (i := 712) (by decide +kernel)) rfl
theorem wd_713 : Cond.instanceMethod yX6_redo ∈ TB := tb_of (List.mem_of_getElem? (i := 713) (by decide +kernel)) rfl
theorem wd_714 : Cond.selects RX6 yX6_redo yX6_redo ∈ TB := tb_of (List.mem_of_getElem? (i := 714) (by decide +kernel)) rfl
theorem wd_715 : Cond.code yX6_redo cX6_redo 1 (some .int) ∈ TB := tb_of (List.mem_of_getElem? (i := 715) (by decide +kernel)) rfl
theorem vw_L_121 : VW RL 121 yX6_redo cX6_redo 1 (some .int) 0 := ⟨⟨wd_712, wd_713, wd_714, wd_78, wd_715⟩, by decide +kernel, by decide +kernel, by decide +kernel⟩
theorem wd_1009 : Cond.methodLink RL 124 yX7_redo ∈ TB := tb_of (List.mem_of_getElem? (i := 1009) (by decide +kernel)) rfl
theorem wd_1010 : Cond.instanceMethod yX7_redo ∈ TB := tb_of (List.mem_of_getElem? (i := 1010) (by decide +kernel)) rfl
theorem wd_1011 : Cond.selects RX7 yX7_redo yX7_redo ∈ TB := tb_of (List.mem_of_getElem? (i := 1011) (by decide +kernel)) rfl
theorem wd_1012 : Cond.code yX7_redo cX7_redo 1 (some .int) ∈ TB := tb_of (List.mem_of_getElem? (i := 1012) (by decide +kernel)) rfl
theorem vw_L_124 : VW RL 124 yX7_redo cX7_redo 1 (some .int) 0 := ⟨⟨wd_1009, wd_1010, wd_1011, wd_85, wd_1012⟩, by decide +kernel, by decide +kernel, by decide +kernel⟩
theorem wd_720 : Cond.methodLink RL 125 yX6_body ∈ TB := tb_of (List.mem_of_getElem? (i := 720) (by decide +kernel)) rfl
theorem wd_721 : Cond.instanceMethod yX6_body ∈ TB := tb_of (List.mem_of_getElem? (i := 721) (by decide +kernel)) rfl
theorem wd_722 : Cond.selects RX6 yX6_body yX6_body ∈ TB := tb_of (List.mem_of_getElem? (i := 722) (by decide +kernel)) rfl
theorem wd_723 : Cond.code yX6_body cX6_body 2 (some .int) ∈ TB := tb_of (List.mem_of_getElem? (i := 723) (by decide +kernel)) rfl
theorem vw_L_125 : VW RL 125 yX6_body cX6_body 2 (some .int) 1 := ⟨⟨wd_720, wd_721, wd_722, wd_78, wd_723⟩, by decide +kernel, by decide +kernel, by decide +kernel⟩
theorem wd_1237 : Cond.methodLink RL 128 yX7_body ∈ TB := tb_of (List.mem_of_getElem? (i := 1237) (by decide +kernel)) rfl
theorem wd_1238 : Cond.instanceMethod yX7_body ∈ TB := tb_of (List.mem_of_getElem? (i := 1238) (by decide +kernel)) rfl
theorem wd_1239 : Cond.selects RX7 yX7_body yX7_body ∈ TB := tb_of (List.mem_of_getElem? (i := 1239) (by decide +kernel)) rfl
theorem wd_1240 : Cond.code yX7_body cX7_body 2 (some .int) ∈ TB := tb_of (List.mem_of_getElem? (i := 1240) (by decide +kernel)) rfl
theorem vw_L_128 : VW RL 128 yX7_body cX7_body 2 (some .int) 1 := ⟨⟨wd_1237, wd_1238, wd_1239, wd_85, wd_1240⟩, by decide +kernel, by decide +kernel, by decide +kernel⟩
theorem wd_731 : Cond.methodLink RL 129 yX6_act ∈ TB := tb_of (List.mem_of_getElem? (i := 731) (by decide +kernel)) rfl
theorem wd_732 : Cond.instanceMethod yX6_act ∈ TB := tb_of (List.mem_of_getElem? (i := 732) (by decide +kernel)) rfl
theorem wd_733 : Cond.selects RX6 yX6_act yX6_act ∈ TB := tb_of (List.mem_of_getElem? (i := 733) (by decide +kernel)) rfl
theorem wd_734 : Cond.code yX6_act cX6_act 4 (some .int) ∈ TB := tb_of (List.mem_of_getElem? (i := 734) (by decide +kernel)) rfl
theorem vw_L_129 : VW RL 129 yX6_act cX6_act 4 (some .int) 3 := ⟨⟨wd_731, wd_732, wd_733, wd_78, wd_734⟩, by decide +kernel, by decide +kernel, by decide +kernel⟩
theorem wd_1241 : Cond.methodLink RL 132 yX7_act ∈ TB := tb_of (List.mem_of_getElem? (i := 1241) (by decide +kernel)) rfl
theorem wd_1242 : Cond.instanceMethod yX7_act ∈ TB := tb_of (List.mem_of_getElem? (i := 1242) (by decide +kernel)) rfl
theorem wd_1243 : Cond.selects RX7 yX7_act yX7_act ∈ TB := tb_of (List.mem_of_getElem? (i := 1243) (by decide +kernel)) rfl
theorem wd_1244 : Cond.code yX7_act cX7_act 4 (some .int) ∈ TB := tb_of (List.mem_of_getElem? (i := 1244) (by decide +kernel)) rfl
theorem vw_L_132 : VW RL 132 yX7_act cX7_act 4 (some .int) 3 := ⟨⟨wd_1241, wd_1242, wd_1243, wd_85, wd_1244⟩, by decide +kernel, by decide +kernel, by decide +kernel⟩
theorem wd_754 : Cond.methodLink RL 133 yX6_trace ∈ TB := tb_of (List.mem_of_getElem? (i := 754) (by decide +kernel)) rfl
theorem wd_755 : Cond.instanceMethod yX6_trace ∈ TB := tb_of (List.mem_of_getElem? (i := 755) (by decide +kernel)) rfl
theorem wd_756 : Cond.selects RX6 yX6_trace yX6_trace ∈ TB := tb_of (List.mem_of_getElem? (i := 756) (by decide +kernel)) rfl
theorem wd_757 : Cond.code yX6_trace cX6_trace 2 (some .int) ∈ TB := tb_of (List.mem_of_getElem? (i := 757) (by decide +kernel)) rfl
theorem vw_L_133 : VW RL 133 yX6_trace cX6_trace 2 (some .int) 1 := ⟨⟨wd_754, wd_755, wd_756, wd_78, wd_757⟩, by decide +kernel, by decide +kernel, by decide +kernel⟩
theorem wd_1233 : Cond.methodLink RL 136 yX7_trace ∈ TB := tb_of (List.mem_of_getElem? (i := 1233) (by decide +kernel)) rfl
theorem wd_1234 : Cond.instanceMethod yX7_trace ∈ TB := tb_of (List.mem_of_getElem? (i := 1234) (by decide +kernel)) rfl
theorem wd_1235 : Cond.selects RX7 yX7_trace yX7_trace ∈ TB := tb_of (List.mem_of_getElem? (i := 1235) (by decide +kernel)) rfl
theorem wd_1236 : Cond.code yX7_trace cX7_trace 2 (some .int) ∈ TB := tb_of (List.mem_of_getElem? (i := 1236) (by decide +kernel)) rfl
theorem vw_L_136 : VW RL 136 yX7_trace cX7_trace 2 (some .int) 1 := ⟨⟨wd_1233, wd_1234, wd_1235, wd_85, wd_1236⟩, by decide +kernel, by decide +kernel, by decide +kernel⟩
theorem wd_758 : Cond.methodLink RL 137 yX6_keep ∈ TB := tb_of (List.mem_of_getElem? (i := 758) (by decide +kernel)) rfl
theorem wd_759 : Cond.instanceMethod yX6_keep ∈ TB := tb_of (List.mem_of_getElem? (i := 759) (by decide +kernel)) rfl
theorem wd_760 : Cond.selects RX6 yX6_keep yX6_keep ∈ TB := tb_of (List.mem_of_getElem? (i := 760) (by decide +kernel)) rfl
theorem wd_761 : Cond.code yX6_keep cX6_keep 3 (some .int) ∈ TB := tb_of (List.mem_of_getElem? (i := 761) (by decide +kernel)) rfl
theorem vw_L_137 : VW RL 137 yX6_keep cX6_keep 3 (some .int) 2 := ⟨⟨wd_758, wd_759, wd_760, wd_78, wd_761⟩, by decide +kernel, by decide +kernel, by decide +kernel⟩
theorem wd_1304 : Cond.methodLink RL 140 yX7_keep ∈ TB := tb_of (List.mem_of_getElem? (i := 1304) (by decide +kernel)) rfl
theorem wd_1305 : Cond.instanceMethod yX7_keep ∈ TB := tb_of (List.mem_of_getElem? (i := 1305) (by decide +kernel)) rfl
theorem wd_1306 : Cond.selects RX7 yX7_keep yX7_keep ∈ TB := tb_of (List.mem_of_getElem? (i := 1306) (by decide +kernel)) rfl
theorem wd_1307 : Cond.code yX7_keep cX7_keep 3 (some .int) ∈ TB := tb_of (List.mem_of_getElem? (i := 1307) (by decide +kernel)) rfl
theorem vw_L_140 : VW RL 140 yX7_keep cX7_keep 3 (some .int) 2 := ⟨⟨wd_1304, wd_1305, wd_1306, wd_85, wd_1307⟩, by decide +kernel, by decide +kernel, by decide +kernel⟩
theorem wd_762 : Cond.methodLink RL 141 yX6_row ∈ TB := tb_of (List.mem_of_getElem? (i := 762) (by decide +kernel)) rfl
theorem wd_763 : Cond.instanceMethod yX6_row ∈ TB := tb_of (List.mem_of_getElem? (i := 763) (by decide +kernel)) rfl
theorem wd_764 : Cond.selects RX6 yX6_row yX6_row ∈ TB := tb_of (List.mem_of_getElem? (i := 764) (by decide +kernel)) rfl
theorem wd_765 : Cond.code yX6_row cX6_row 4 (some .int) ∈ TB := tb_of (List.mem_of_getElem? (i := 765) (by decide +kernel)) rfl
theorem vw_L_141 : VW RL 141 yX6_row cX6_row 4 (some .int) 3 := ⟨⟨wd_762, wd_763, wd_764, wd_78, wd_765⟩, by decide +kernel, by decide +kernel, by decide +kernel⟩
theorem wd_1308 : Cond.methodLink RL 144 yX7_row ∈ TB := tb_of (List.mem_of_getElem? (i := 1308) (by decide +kernel)) rfl
theorem wd_1309 : Cond.instanceMethod yX7_row ∈ TB := tb_of (List.mem_of_getElem? (i := 1309) (by decide +kernel)) rfl
theorem wd_1310 : Cond.selects RX7 yX7_row yX7_row ∈ TB := tb_of (List.mem_of_getElem? (i := 1310) (by decide +kernel)) rfl
theorem wd_1311 : Cond.code yX7_row cX7_row 5 (some .int) ∈ TB := tb_of (List.mem_of_getElem? (i := 1311) (by decide +kernel)) rfl
theorem vw_L_144 : VW RL 144 yX7_row cX7_row 5 (some .int) 3 := ⟨⟨wd_1308, wd_1309, wd_1310, wd_85, wd_1311⟩, by decide +kernel, by decide +kernel, by decide +kernel⟩
theorem wd_1333 : Cond.constantLong RL 145 (4294967295) ∈ TB := tb_of (List.mem_of_getElem? (i := 1333) (by decide +kernel)) rfl
theorem wd_770 : Cond.methodLink RL 147 yX6_put ∈ TB := tb_of (List.mem_of_getElem? (i := 770) (by decide +kernel)) rfl
theorem wd_771 : Cond.instanceMethod yX6_put ∈ TB := tb_of (List.mem_of_getElem? (i := 771) (by decide +kernel)) rfl
theorem wd_772 : Cond.selects RX6 yX6_put yX6_put ∈ TB := tb_of (List.mem_of_getElem? (i := 772) (by decide +kernel)) rfl
theorem wd_773 : Cond.code yX6_put cX6_put 6 (some .int) ∈ TB := tb_of (List.mem_of_getElem? (i := 773) (by decide +kernel)) rfl
theorem vw_L_147 : VW RL 147 yX6_put cX6_put 6 (some .int) 3 := ⟨⟨wd_770, wd_771, wd_772, wd_78, wd_773⟩, by decide +kernel, by decide +kernel, by decide +kernel⟩
theorem wd_1312 : Cond.methodLink RL 151 yX7_put ∈ TB := tb_of (List.mem_of_getElem? (i := 1312) (by decide +kernel)) rfl
theorem wd_1313 : Cond.instanceMethod yX7_put ∈ TB := tb_of (List.mem_of_getElem? (i := 1313) (by decide +kernel)) rfl
theorem wd_1314 : Cond.selects RX7 yX7_put yX7_put ∈ TB := tb_of (List.mem_of_getElem? (i := 1314) (by decide +kernel)) rfl
theorem wd_1315 : Cond.code yX7_put cX7_put 7 (some .int) ∈ TB := tb_of (List.mem_of_getElem? (i := 1315) (by decide +kernel)) rfl
theorem vw_L_151 : VW RL 151 yX7_put cX7_put 7 (some .int) 3 := ⟨⟨wd_1312, wd_1313, wd_1314, wd_85, wd_1315⟩, by decide +kernel, by decide +kernel, by decide +kernel⟩
theorem wd_782 : Cond.methodLink RL 152 yX6_element ∈ TB := tb_of (List.mem_of_getElem? (i := 782) (by decide +kernel)) rfl
theorem wd_783 : Cond.instanceMethod yX6_element ∈ TB := tb_of (List.mem_of_getElem? (i := 783) (by decide +kernel)) rfl
theorem wd_784 : Cond.selects RX6 yX6_element yX6_element ∈ TB := tb_of (List.mem_of_getElem? (i := 784) (by decide +kernel)) rfl
theorem wd_785 : Cond.code yX6_element cX6_element 3 (some .long) ∈ TB := tb_of (List.mem_of_getElem? (i := 785) (by decide +kernel)) rfl
theorem vw_L_152 : VW RL 152 yX6_element cX6_element 3 (some .long) 2 := ⟨⟨wd_782, wd_783, wd_784, wd_78, wd_785⟩, by decide +kernel, by decide +kernel, by decide +kernel⟩
theorem wd_1320 : Cond.methodLink RL 156 yX7_element ∈ TB := tb_of (List.mem_of_getElem? (i := 1320) (by decide +kernel)) rfl
theorem wd_1321 : Cond.instanceMethod yX7_element ∈ TB := tb_of (List.mem_of_getElem? (i := 1321) (by decide +kernel)) rfl
theorem wd_1322 : Cond.selects RX7 yX7_element yX7_element ∈ TB := tb_of (List.mem_of_getElem? (i := 1322) (by decide +kernel)) rfl
theorem wd_1323 : Cond.code yX7_element cX7_element 3 (some .long) ∈ TB := tb_of (List.mem_of_getElem? (i := 1323) (by decide +kernel)) rfl
theorem vw_L_156 : VW RL 156 yX7_element cX7_element 3 (some .long) 2 := ⟨⟨wd_1320, wd_1321, wd_1322, wd_85, wd_1323⟩, by decide +kernel, by decide +kernel, by decide +kernel⟩
theorem wd_787 : Cond.methodLink RL 157 yX6_shift ∈ TB := tb_of (List.mem_of_getElem? (i := 787) (by decide +kernel)) rfl
theorem wd_788 : Cond.instanceMethod yX6_shift ∈ TB := tb_of (List.mem_of_getElem? (i := 788) (by decide +kernel)) rfl
theorem wd_789 : Cond.selects RX6 yX6_shift yX6_shift ∈ TB := tb_of (List.mem_of_getElem? (i := 789) (by decide +kernel)) rfl
theorem wd_790 : Cond.code yX6_shift cX6_shift 8 (some .int) ∈ TB := tb_of (List.mem_of_getElem? (i := 790) (by decide +kernel)) rfl
theorem vw_L_157 : VW RL 157 yX6_shift cX6_shift 8 (some .int) 5 := ⟨⟨wd_787, wd_788, wd_789, wd_78, wd_790⟩, by decide +kernel, by decide +kernel, by decide +kernel⟩
theorem wd_1325 : Cond.methodLink RL 161 yX7_shift ∈ TB := tb_of (List.mem_of_getElem? (i := 1325) (by decide +kernel)) rfl
theorem wd_1326 : Cond.instanceMethod yX7_shift ∈ TB := tb_of (List.mem_of_getElem? (i := 1326) (by decide +kernel)) rfl
theorem wd_1327 : Cond.selects RX7 yX7_shift yX7_shift ∈ TB := tb_of (List.mem_of_getElem? (i := 1327) (by decide +kernel)) rfl
theorem wd_1328 : Cond.code yX7_shift cX7_shift 7 (some .int) ∈ TB := tb_of (List.mem_of_getElem? (i := 1328) (by decide +kernel)) rfl
theorem vw_L_161 : VW RL 161 yX7_shift cX7_shift 7 (some .int) 5 := ⟨⟨wd_1325, wd_1326, wd_1327, wd_85, wd_1328⟩, by decide +kernel, by decide +kernel, by decide +kernel⟩
theorem wd_796 : Cond.methodLink RL 162 yX6_taken ∈ TB := tb_of (List.mem_of_getElem? (i := 796) (by decide +kernel)) rfl
theorem wd_797 : Cond.instanceMethod yX6_taken ∈ TB := tb_of (List.mem_of_getElem? (i := 797) (by decide +kernel)) rfl
theorem wd_798 : Cond.selects RX6 yX6_taken yX6_taken ∈ TB := tb_of (List.mem_of_getElem? (i := 798) (by decide +kernel)) rfl
theorem wd_799 : Cond.code yX6_taken cX6_taken 5 (some .int) ∈ TB := tb_of (List.mem_of_getElem? (i := 799) (by decide +kernel)) rfl
theorem vw_L_162 : VW RL 162 yX6_taken cX6_taken 5 (some .int) 2 := ⟨⟨wd_796, wd_797, wd_798, wd_78, wd_799⟩, by decide +kernel, by decide +kernel, by decide +kernel⟩
theorem wd_1329 : Cond.methodLink RL 165 yX7_taken ∈ TB := tb_of (List.mem_of_getElem? (i := 1329) (by decide +kernel)) rfl
theorem wd_1330 : Cond.instanceMethod yX7_taken ∈ TB := tb_of (List.mem_of_getElem? (i := 1330) (by decide +kernel)) rfl
theorem wd_1331 : Cond.selects RX7 yX7_taken yX7_taken ∈ TB := tb_of (List.mem_of_getElem? (i := 1331) (by decide +kernel)) rfl
theorem wd_1332 : Cond.code yX7_taken cX7_taken 3 (some .int) ∈ TB := tb_of (List.mem_of_getElem? (i := 1332) (by decide +kernel)) rfl
theorem vw_L_165 : VW RL 165 yX7_taken cX7_taken 3 (some .int) 2 := ⟨⟨wd_1329, wd_1330, wd_1331, wd_85, wd_1332⟩, by decide +kernel, by decide +kernel, by decide +kernel⟩
theorem wd_803 : Cond.methodLink RL 166 yX6_count ∈ TB := tb_of (List.mem_of_getElem? (i := 803) (by decide +kernel)) rfl
theorem wd_804 : Cond.instanceMethod yX6_count ∈ TB := tb_of (List.mem_of_getElem? (i := 804) (by decide +kernel)) rfl
theorem wd_805 : Cond.selects RX6 yX6_count yX6_count ∈ TB := tb_of (List.mem_of_getElem? (i := 805) (by decide +kernel)) rfl
theorem wd_806 : Cond.code yX6_count cX6_count 2 (some .int) ∈ TB := tb_of (List.mem_of_getElem? (i := 806) (by decide +kernel)) rfl
theorem vw_L_166 : VW RL 166 yX6_count cX6_count 2 (some .int) 1 := ⟨⟨wd_803, wd_804, wd_805, wd_78, wd_806⟩, by decide +kernel, by decide +kernel, by decide +kernel⟩
theorem wd_1300 : Cond.methodLink RL 169 yX7_count ∈ TB := tb_of (List.mem_of_getElem? (i := 1300) (by decide +kernel)) rfl
theorem wd_1301 : Cond.instanceMethod yX7_count ∈ TB := tb_of (List.mem_of_getElem? (i := 1301) (by decide +kernel)) rfl
theorem wd_1302 : Cond.selects RX7 yX7_count yX7_count ∈ TB := tb_of (List.mem_of_getElem? (i := 1302) (by decide +kernel)) rfl
theorem wd_1303 : Cond.code yX7_count cX7_count 2 (some .int) ∈ TB := tb_of (List.mem_of_getElem? (i := 1303) (by decide +kernel)) rfl
theorem vw_L_169 : VW RL 169 yX7_count cX7_count 2 (some .int) 1 := ⟨⟨wd_1300, wd_1301, wd_1302, wd_85, wd_1303⟩, by decide +kernel, by decide +kernel, by decide +kernel⟩
