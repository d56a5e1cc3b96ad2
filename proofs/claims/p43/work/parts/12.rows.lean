theorem all_cut {l : List GE} {f : GE → Bool} {a n : Nat} (h1 : ((l.drop a).take n).all f = true) (h2 : (l.drop (a + n)).all f = true) : (l.drop a).all f = true := by
  rw [← List.take_append_drop n (l.drop a), List.all_append, h1, List.drop_drop, h2]; rfl
theorem rc_0 : K_0.all (gCk lk_0 true (g_B 0)) = true := by decide +kernel
theorem mo_0 : gMok g_T g_F g_Y g_B g_R g_Cl g_E g_nests g_good 0 := ⟨by decide +kernel, rfl, g_rows lk_0 lf_0 rc_0⟩
theorem rc_1 : K_1.all (gCk lk_0 false (g_B 1)) = true := by decide +kernel
theorem mo_1 : gMok g_T g_F g_Y g_B g_R g_Cl g_E g_nests g_good 1 := ⟨by decide +kernel, rfl, g_rows lk_0 lf_0 rc_1⟩
theorem rc_2 : K_2.all (gCk lk_0 false (g_B 2)) = true := by decide +kernel
theorem mo_2 : gMok g_T g_F g_Y g_B g_R g_Cl g_E g_nests g_good 2 := ⟨by decide +kernel, rfl, g_rows lk_0 lf_0 rc_2⟩
theorem rc_3 : K_3.all (gCk lk_0 false (g_B 3)) = true := by decide +kernel
theorem mo_3 : gMok g_T g_F g_Y g_B g_R g_Cl g_E g_nests g_good 3 := ⟨by decide +kernel, rfl, g_rows lk_0 lf_0 rc_3⟩
theorem rc_4 : K_4.all (gCk lk_0 false (g_B 4)) = true := by decide +kernel
theorem mo_4 : gMok g_T g_F g_Y g_B g_R g_Cl g_E g_nests g_good 4 := ⟨by decide +kernel, rfl, g_rows lk_0 lf_0 rc_4⟩
theorem rc_5 : K_5.all (gCk lk_0 false (g_B 5)) = true := by decide +kernel
theorem mo_5 : gMok g_T g_F g_Y g_B g_R g_Cl g_E g_nests g_good 5 := ⟨by decide +kernel, rfl, g_rows lk_0 lf_0 rc_5⟩
theorem rc_6 : K_6.all (gCk lk_0 false (g_B 6)) = true := by decide +kernel
theorem mo_6 : gMok g_T g_F g_Y g_B g_R g_Cl g_E g_nests g_good 6 := ⟨by decide +kernel, rfl, g_rows lk_0 lf_0 rc_6⟩
theorem rc_7 : K_7.all (gCk lk_0 false (g_B 7)) = true := by decide +kernel
theorem mo_7 : gMok g_T g_F g_Y g_B g_R g_Cl g_E g_nests g_good 7 := ⟨by decide +kernel, rfl, g_rows lk_0 lf_0 rc_7⟩
theorem rc_8 : K_8.all (gCk lk_0 false (g_B 8)) = true := by decide +kernel
theorem mo_8 : gMok g_T g_F g_Y g_B g_R g_Cl g_E g_nests g_good 8 := ⟨by decide +kernel, rfl, g_rows lk_0 lf_0 rc_8⟩
theorem rc_9 : K_9.all (gCk lk_0 false (g_B 9)) = true := by decide +kernel
theorem mo_9 : gMok g_T g_F g_Y g_B g_R g_Cl g_E g_nests g_good 9 := ⟨by decide +kernel, rfl, g_rows lk_0 lf_0 rc_9⟩
theorem rc_10 : K_10.all (gCk lk_0 false (g_B 10)) = true := by decide +kernel
theorem mo_10 : gMok g_T g_F g_Y g_B g_R g_Cl g_E g_nests g_good 10 := ⟨by decide +kernel, rfl, g_rows lk_0 lf_0 rc_10⟩
theorem rc_11 : K_11.all (gCk lk_0 false (g_B 11)) = true := by decide +kernel
theorem mo_11 : gMok g_T g_F g_Y g_B g_R g_Cl g_E g_nests g_good 11 := ⟨by decide +kernel, rfl, g_rows lk_0 lf_0 rc_11⟩
theorem rc_12 : K_12.all (gCk lk_0 false (g_B 12)) = true := by decide +kernel
theorem mo_12 : gMok g_T g_F g_Y g_B g_R g_Cl g_E g_nests g_good 12 := ⟨by decide +kernel, rfl, g_rows lk_0 lf_0 rc_12⟩
theorem rc_13 : K_13.all (gCk lk_1 true (g_B 13)) = true := by decide +kernel
theorem mo_13 : gMok g_T g_F g_Y g_B g_R g_Cl g_E g_nests g_good 13 := ⟨by decide +kernel, rfl, g_rows lk_1 lf_1 rc_13⟩
theorem rc_15 : K_15.all (gCk lk_1 false (g_B 15)) = true := by decide +kernel
theorem mo_15 : gMok g_T g_F g_Y g_B g_R g_Cl g_E g_nests g_good 15 := ⟨by decide +kernel, rfl, g_rows lk_1 lf_1 rc_15⟩
theorem rc_16 : K_16.all (gCk lk_1 false (g_B 16)) = true := by decide +kernel
theorem mo_16 : gMok g_T g_F g_Y g_B g_R g_Cl g_E g_nests g_good 16 := ⟨by decide +kernel, rfl, g_rows lk_1 lf_1 rc_16⟩
theorem rc_17 : K_17.all (gCk lk_1 false (g_B 17)) = true := by decide +kernel
theorem mo_17 : gMok g_T g_F g_Y g_B g_R g_Cl g_E g_nests g_good 17 := ⟨by decide +kernel, rfl, g_rows lk_1 lf_1 rc_17⟩
theorem rc_18 : K_18.all (gCk lk_1 false (g_B 18)) = true := by decide +kernel
theorem mo_18 : gMok g_T g_F g_Y g_B g_R g_Cl g_E g_nests g_good 18 := ⟨by decide +kernel, rfl, g_rows lk_1 lf_1 rc_18⟩
theorem rc_19 : K_19.all (gCk lk_2 true (g_B 19)) = true := by decide +kernel
theorem mo_19 : gMok g_T g_F g_Y g_B g_R g_Cl g_E g_nests g_good 19 := ⟨by decide +kernel, rfl, g_rows lk_2 lf_2 rc_19⟩
theorem rc_20 : K_20.all (gCk lk_2 false (g_B 20)) = true := by decide +kernel
theorem mo_20 : gMok g_T g_F g_Y g_B g_R g_Cl g_E g_nests g_good 20 := ⟨by decide +kernel, rfl, g_rows lk_2 lf_2 rc_20⟩
theorem rc_21 : K_21.all (gCk lk_2 false (g_B 21)) = true := by decide +kernel
theorem mo_21 : gMok g_T g_F g_Y g_B g_R g_Cl g_E g_nests g_good 21 := ⟨by decide +kernel, rfl, g_rows lk_2 lf_2 rc_21⟩
theorem rc_22 : K_22.all (gCk lk_2 false (g_B 22)) = true := by decide +kernel
theorem mo_22 : gMok g_T g_F g_Y g_B g_R g_Cl g_E g_nests g_good 22 := ⟨by decide +kernel, rfl, g_rows lk_2 lf_2 rc_22⟩
theorem rc_23 : K_23.all (gCk lk_2 false (g_B 23)) = true := by decide +kernel
theorem mo_23 : gMok g_T g_F g_Y g_B g_R g_Cl g_E g_nests g_good 23 := ⟨by decide +kernel, rfl, g_rows lk_2 lf_2 rc_23⟩
theorem rc_24 : K_24.all (gCk lk_2 false (g_B 24)) = true := by decide +kernel
theorem mo_24 : gMok g_T g_F g_Y g_B g_R g_Cl g_E g_nests g_good 24 := ⟨by decide +kernel, rfl, g_rows lk_2 lf_2 rc_24⟩
theorem rc_25 : K_25.all (gCk lk_2 false (g_B 25)) = true := by decide +kernel
theorem mo_25 : gMok g_T g_F g_Y g_B g_R g_Cl g_E g_nests g_good 25 := ⟨by decide +kernel, rfl, g_rows lk_2 lf_2 rc_25⟩
theorem rc_26 : K_26.all (gCk lk_2 false (g_B 26)) = true := by decide +kernel
theorem mo_26 : gMok g_T g_F g_Y g_B g_R g_Cl g_E g_nests g_good 26 := ⟨by decide +kernel, rfl, g_rows lk_2 lf_2 rc_26⟩
theorem rc_27 : K_27.all (gCk lk_2 false (g_B 27)) = true := by decide +kernel
theorem mo_27 : gMok g_T g_F g_Y g_B g_R g_Cl g_E g_nests g_good 27 := ⟨by decide +kernel, rfl, g_rows lk_2 lf_2 rc_27⟩
theorem rc_28 : K_28.all (gCk lk_2 false (g_B 28)) = true := by decide +kernel
theorem mo_28 : gMok g_T g_F g_Y g_B g_R g_Cl g_E g_nests g_good 28 := ⟨by decide +kernel, rfl, g_rows lk_2 lf_2 rc_28⟩
theorem rc_29 : K_29.all (gCk lk_2 false (g_B 29)) = true := by decide +kernel
theorem mo_29 : gMok g_T g_F g_Y g_B g_R g_Cl g_E g_nests g_good 29 := ⟨by decide +kernel, rfl, g_rows lk_2 lf_2 rc_29⟩
theorem rc_30 : K_30.all (gCk lk_2 false (g_B 30)) = true := by decide +kernel
theorem mo_30 : gMok g_T g_F g_Y g_B g_R g_Cl g_E g_nests g_good 30 := ⟨by decide +kernel, rfl, g_rows lk_2 lf_2 rc_30⟩
theorem rc_31 : K_31.all (gCk lk_2 false (g_B 31)) = true := by decide +kernel
theorem mo_31 : gMok g_T g_F g_Y g_B g_R g_Cl g_E g_nests g_good 31 := ⟨by decide +kernel, rfl, g_rows lk_2 lf_2 rc_31⟩
theorem rc_32 : K_32.all (gCk lk_2 false (g_B 32)) = true := by decide +kernel
theorem mo_32 : gMok g_T g_F g_Y g_B g_R g_Cl g_E g_nests g_good 32 := ⟨by decide +kernel, rfl, g_rows lk_2 lf_2 rc_32⟩
theorem rc_33 : K_33.all (gCk lk_2 false (g_B 33)) = true := by decide +kernel
theorem mo_33 : gMok g_T g_F g_Y g_B g_R g_Cl g_E g_nests g_good 33 := ⟨by decide +kernel, rfl, g_rows lk_2 lf_2 rc_33⟩
theorem rc_34 : K_34.all (gCk lk_3 true (g_B 34)) = true := by decide +kernel
theorem mo_34 : gMok g_T g_F g_Y g_B g_R g_Cl g_E g_nests g_good 34 := ⟨by decide +kernel, rfl, g_rows lk_3 lf_3 rc_34⟩
theorem rc_35 : K_35.all (gCk lk_3 false (g_B 35)) = true := by decide +kernel
theorem mo_35 : gMok g_T g_F g_Y g_B g_R g_Cl g_E g_nests g_good 35 := ⟨by decide +kernel, rfl, g_rows lk_3 lf_3 rc_35⟩
theorem rc_36 : K_36.all (gCk lk_3 false (g_B 36)) = true := by decide +kernel
theorem mo_36 : gMok g_T g_F g_Y g_B g_R g_Cl g_E g_nests g_good 36 := ⟨by decide +kernel, rfl, g_rows lk_3 lf_3 rc_36⟩
theorem rc_37 : K_37.all (gCk lk_3 false (g_B 37)) = true := by decide +kernel
theorem mo_37 : gMok g_T g_F g_Y g_B g_R g_Cl g_E g_nests g_good 37 := ⟨by decide +kernel, rfl, g_rows lk_3 lf_3 rc_37⟩
theorem rc_38 : K_38.all (gCk lk_3 false (g_B 38)) = true := by decide +kernel
theorem mo_38 : gMok g_T g_F g_Y g_B g_R g_Cl g_E g_nests g_good 38 := ⟨by decide +kernel, rfl, g_rows lk_3 lf_3 rc_38⟩
theorem rc_39 : K_39.all (gCk lk_3 false (g_B 39)) = true := by decide +kernel
theorem mo_39 : gMok g_T g_F g_Y g_B g_R g_Cl g_E g_nests g_good 39 := ⟨by decide +kernel, rfl, g_rows lk_3 lf_3 rc_39⟩
theorem rc_40 : K_40.all (gCk lk_3 false (g_B 40)) = true := by decide +kernel
theorem mo_40 : gMok g_T g_F g_Y g_B g_R g_Cl g_E g_nests g_good 40 := ⟨by decide +kernel, rfl, g_rows lk_3 lf_3 rc_40⟩
theorem rc_41 : K_41.all (gCk lk_3 false (g_B 41)) = true := by decide +kernel
theorem mo_41 : gMok g_T g_F g_Y g_B g_R g_Cl g_E g_nests g_good 41 := ⟨by decide +kernel, rfl, g_rows lk_3 lf_3 rc_41⟩
theorem rc_42 : K_42.all (gCk lk_3 false (g_B 42)) = true := by decide +kernel
theorem mo_42 : gMok g_T g_F g_Y g_B g_R g_Cl g_E g_nests g_good 42 := ⟨by decide +kernel, rfl, g_rows lk_3 lf_3 rc_42⟩
theorem rc_43 : K_43.all (gCk lk_3 false (g_B 43)) = true := by decide +kernel
theorem mo_43 : gMok g_T g_F g_Y g_B g_R g_Cl g_E g_nests g_good 43 := ⟨by decide +kernel, rfl, g_rows lk_3 lf_3 rc_43⟩
theorem rc_44 : K_44.all (gCk lk_3 false (g_B 44)) = true := by decide +kernel
theorem mo_44 : gMok g_T g_F g_Y g_B g_R g_Cl g_E g_nests g_good 44 := ⟨by decide +kernel, rfl, g_rows lk_3 lf_3 rc_44⟩
theorem rc_45 : K_45.all (gCk lk_3 false (g_B 45)) = true := by decide +kernel
theorem mo_45 : gMok g_T g_F g_Y g_B g_R g_Cl g_E g_nests g_good 45 := ⟨by decide +kernel, rfl, g_rows lk_3 lf_3 rc_45⟩
theorem rc_46 : K_46.all (gCk lk_3 false (g_B 46)) = true := by decide +kernel
theorem mo_46 : gMok g_T g_F g_Y g_B g_R g_Cl g_E g_nests g_good 46 := ⟨by decide +kernel, rfl, g_rows lk_3 lf_3 rc_46⟩
theorem rc_47 : K_47.all (gCk lk_3 false (g_B 47)) = true := by decide +kernel
theorem mo_47 : gMok g_T g_F g_Y g_B g_R g_Cl g_E g_nests g_good 47 := ⟨by decide +kernel, rfl, g_rows lk_3 lf_3 rc_47⟩
theorem rc_48 : K_48.all (gCk lk_3 false (g_B 48)) = true := by decide +kernel
theorem mo_48 : gMok g_T g_F g_Y g_B g_R g_Cl g_E g_nests g_good 48 := ⟨by decide +kernel, rfl, g_rows lk_3 lf_3 rc_48⟩
theorem rc_49 : K_49.all (gCk lk_3 false (g_B 49)) = true := by decide +kernel
theorem mo_49 : gMok g_T g_F g_Y g_B g_R g_Cl g_E g_nests g_good 49 := ⟨by decide +kernel, rfl, g_rows lk_3 lf_3 rc_49⟩
theorem rc_50 : K_50.all (gCk lk_3 false (g_B 50)) = true := by decide +kernel
theorem mo_50 : gMok g_T g_F g_Y g_B g_R g_Cl g_E g_nests g_good 50 := ⟨by decide +kernel, rfl, g_rows lk_3 lf_3 rc_50⟩
theorem rc_51 : K_51.all (gCk lk_3 false (g_B 51)) = true := by decide +kernel
theorem mo_51 : gMok g_T g_F g_Y g_B g_R g_Cl g_E g_nests g_good 51 := ⟨by decide +kernel, rfl, g_rows lk_3 lf_3 rc_51⟩
theorem rc_52 : K_52.all (gCk lk_3 false (g_B 52)) = true := by decide +kernel
theorem mo_52 : gMok g_T g_F g_Y g_B g_R g_Cl g_E g_nests g_good 52 := ⟨by decide +kernel, rfl, g_rows lk_3 lf_3 rc_52⟩
theorem rc_53 : K_53.all (gCk lk_3 false (g_B 53)) = true := by decide +kernel
theorem mo_53 : gMok g_T g_F g_Y g_B g_R g_Cl g_E g_nests g_good 53 := ⟨by decide +kernel, rfl, g_rows lk_3 lf_3 rc_53⟩
theorem rc_54 : K_54.all (gCk lk_3 false (g_B 54)) = true := by decide +kernel
theorem mo_54 : gMok g_T g_F g_Y g_B g_R g_Cl g_E g_nests g_good 54 := ⟨by decide +kernel, rfl, g_rows lk_3 lf_3 rc_54⟩
theorem rc_55 : K_55.all (gCk lk_3 false (g_B 55)) = true := by decide +kernel
theorem mo_55 : gMok g_T g_F g_Y g_B g_R g_Cl g_E g_nests g_good 55 := ⟨by decide +kernel, rfl, g_rows lk_3 lf_3 rc_55⟩
theorem rc_56 : K_56.all (gCk lk_3 false (g_B 56)) = true := by decide +kernel
theorem mo_56 : gMok g_T g_F g_Y g_B g_R g_Cl g_E g_nests g_good 56 := ⟨by decide +kernel, rfl, g_rows lk_3 lf_3 rc_56⟩
theorem rc_57 : K_57.all (gCk lk_3 false (g_B 57)) = true := by decide +kernel
theorem mo_57 : gMok g_T g_F g_Y g_B g_R g_Cl g_E g_nests g_good 57 := ⟨by decide +kernel, rfl, g_rows lk_3 lf_3 rc_57⟩
theorem rc_58 : K_58.all (gCk lk_3 false (g_B 58)) = true := by decide +kernel
theorem mo_58 : gMok g_T g_F g_Y g_B g_R g_Cl g_E g_nests g_good 58 := ⟨by decide +kernel, rfl, g_rows lk_3 lf_3 rc_58⟩
theorem rc_59 : K_59.all (gCk lk_3 false (g_B 59)) = true := by decide +kernel
theorem mo_59 : gMok g_T g_F g_Y g_B g_R g_Cl g_E g_nests g_good 59 := ⟨by decide +kernel, rfl, g_rows lk_3 lf_3 rc_59⟩
theorem rc_60 : K_60.all (gCk lk_3 false (g_B 60)) = true := by decide +kernel
theorem mo_60 : gMok g_T g_F g_Y g_B g_R g_Cl g_E g_nests g_good 60 := ⟨by decide +kernel, rfl, g_rows lk_3 lf_3 rc_60⟩
theorem rc_61 : K_61.all (gCk lk_3 false (g_B 61)) = true := by decide +kernel
theorem mo_61 : gMok g_T g_F g_Y g_B g_R g_Cl g_E g_nests g_good 61 := ⟨by decide +kernel, rfl, g_rows lk_3 lf_3 rc_61⟩
theorem rc_62 : K_62.all (gCk lk_3 false (g_B 62)) = true := by decide +kernel
theorem mo_62 : gMok g_T g_F g_Y g_B g_R g_Cl g_E g_nests g_good 62 := ⟨by decide +kernel, rfl, g_rows lk_3 lf_3 rc_62⟩
theorem rc_63 : K_63.all (gCk lk_3 false (g_B 63)) = true := by decide +kernel
theorem mo_63 : gMok g_T g_F g_Y g_B g_R g_Cl g_E g_nests g_good 63 := ⟨by decide +kernel, rfl, g_rows lk_3 lf_3 rc_63⟩
theorem rc_64 : K_64.all (gCk lk_3 false (g_B 64)) = true := by decide +kernel
theorem mo_64 : gMok g_T g_F g_Y g_B g_R g_Cl g_E g_nests g_good 64 := ⟨by decide +kernel, rfl, g_rows lk_3 lf_3 rc_64⟩
theorem rc_65 : K_65.all (gCk lk_4 true (g_B 65)) = true := by decide +kernel
theorem mo_65 : gMok g_T g_F g_Y g_B g_R g_Cl g_E g_nests g_good 65 := ⟨by decide +kernel, rfl, g_rows lk_4 lf_4 rc_65⟩
theorem rc_66 : K_66.all (gCk lk_5 true (g_B 66)) = true := by decide +kernel
theorem mo_66 : gMok g_T g_F g_Y g_B g_R g_Cl g_E g_nests g_good 66 := ⟨by decide +kernel, rfl, g_rows lk_5 lf_5 rc_66⟩
theorem rc_67 : K_67.all (gCk lk_5 false (g_B 67)) = true := by decide +kernel
theorem mo_67 : gMok g_T g_F g_Y g_B g_R g_Cl g_E g_nests g_good 67 := ⟨by decide +kernel, rfl, g_rows lk_5 lf_5 rc_67⟩
theorem rc_68 : K_68.all (gCk lk_5 false (g_B 68)) = true := by decide +kernel
theorem mo_68 : gMok g_T g_F g_Y g_B g_R g_Cl g_E g_nests g_good 68 := ⟨by decide +kernel, rfl, g_rows lk_5 lf_5 rc_68⟩
theorem rc_69 : K_69.all (gCk lk_5 false (g_B 69)) = true := by decide +kernel
theorem mo_69 : gMok g_T g_F g_Y g_B g_R g_Cl g_E g_nests g_good 69 := ⟨by decide +kernel, rfl, g_rows lk_5 lf_5 rc_69⟩
theorem rc_70 : K_70.all (gCk lk_5 false (g_B 70)) = true := by decide +kernel
theorem mo_70 : gMok g_T g_F g_Y g_B g_R g_Cl g_E g_nests g_good 70 := ⟨by decide +kernel, rfl, g_rows lk_5 lf_5 rc_70⟩
theorem rc_71 : K_71.all (gCk lk_5 false (g_B 71)) = true := by decide +kernel
theorem mo_71 : gMok g_T g_F g_Y g_B g_R g_Cl g_E g_nests g_good 71 := ⟨by decide +kernel, rfl, g_rows lk_5 lf_5 rc_71⟩
theorem rc_72 : K_72.all (gCk lk_5 false (g_B 72)) = true := by decide +kernel
theorem mo_72 : gMok g_T g_F g_Y g_B g_R g_Cl g_E g_nests g_good 72 := ⟨by decide +kernel, rfl, g_rows lk_5 lf_5 rc_72⟩
theorem rc_73 : K_73.all (gCk lk_5 false (g_B 73)) = true := by decide +kernel
theorem mo_73 : gMok g_T g_F g_Y g_B g_R g_Cl g_E g_nests g_good 73 := ⟨by decide +kernel, rfl, g_rows lk_5 lf_5 rc_73⟩
theorem rc_74 : K_74.all (gCk lk_6 true (g_B 74)) = true := by decide +kernel
theorem mo_74 : gMok g_T g_F g_Y g_B g_R g_Cl g_E g_nests g_good 74 := ⟨by decide +kernel, rfl, g_rows lk_6 lf_6 rc_74⟩
theorem rc_76 : K_76.all (gCk lk_6 false (g_B 76)) = true := by decide +kernel
theorem mo_76 : gMok g_T g_F g_Y g_B g_R g_Cl g_E g_nests g_good 76 := ⟨by decide +kernel, rfl, g_rows lk_6 lf_6 rc_76⟩
theorem rc_77 : K_77.all (gCk lk_6 false (g_B 77)) = true := by decide +kernel
theorem mo_77 : gMok g_T g_F g_Y g_B g_R g_Cl g_E g_nests g_good 77 := ⟨by decide +kernel, rfl, g_rows lk_6 lf_6 rc_77⟩
theorem rc_78 : K_78.all (gCk lk_6 false (g_B 78)) = true := by decide +kernel
theorem mo_78 : gMok g_T g_F g_Y g_B g_R g_Cl g_E g_nests g_good 78 := ⟨by decide +kernel, rfl, g_rows lk_6 lf_6 rc_78⟩
theorem rc_79 : K_79.all (gCk lk_6 false (g_B 79)) = true := by decide +kernel
theorem mo_79 : gMok g_T g_F g_Y g_B g_R g_Cl g_E g_nests g_good 79 := ⟨by decide +kernel, rfl, g_rows lk_6 lf_6 rc_79⟩
theorem rc_81 : K_81.all (gCk lk_6 false (g_B 81)) = true := by decide +kernel
theorem mo_81 : gMok g_T g_F g_Y g_B g_R g_Cl g_E g_nests g_good 81 := ⟨by decide +kernel, rfl, g_rows lk_6 lf_6 rc_81⟩
theorem rc_82 : K_82.all (gCk lk_6 false (g_B 82)) = true := by decide +kernel
theorem mo_82 : gMok g_T g_F g_Y g_B g_R g_Cl g_E g_nests g_good 82 := ⟨by decide +kernel, rfl, g_rows lk_6 lf_6 rc_82⟩
theorem rc_83 : K_83.all (gCk lk_6 false (g_B 83)) = true := by decide +kernel
theorem mo_83 : gMok g_T g_F g_Y g_B g_R g_Cl g_E g_nests g_good 83 := ⟨by decide +kernel, rfl, g_rows lk_6 lf_6 rc_83⟩
theorem rc_85 : K_85.all (gCk lk_6 false (g_B 85)) = true := by decide +kernel
theorem mo_85 : gMok g_T g_F g_Y g_B g_R g_Cl g_E g_nests g_good 85 := ⟨by decide +kernel, rfl, g_rows lk_6 lf_6 rc_85⟩
theorem rc_86 : K_86.all (gCk lk_6 false (g_B 86)) = true := by decide +kernel
theorem mo_86 : gMok g_T g_F g_Y g_B g_R g_Cl g_E g_nests g_good 86 := ⟨by decide +kernel, rfl, g_rows lk_6 lf_6 rc_86⟩
theorem rc_87 : K_87.all (gCk lk_6 false (g_B 87)) = true := by decide +kernel
theorem mo_87 : gMok g_T g_F g_Y g_B g_R g_Cl g_E g_nests g_good 87 := ⟨by decide +kernel, rfl, g_rows lk_6 lf_6 rc_87⟩
theorem rc_88 : K_88.all (gCk lk_6 false (g_B 88)) = true := by decide +kernel
theorem mo_88 : gMok g_T g_F g_Y g_B g_R g_Cl g_E g_nests g_good 88 := ⟨by decide +kernel, rfl, g_rows lk_6 lf_6 rc_88⟩
theorem rc_89 : K_89.all (gCk lk_6 false (g_B 89)) = true := by decide +kernel
theorem mo_89 : gMok g_T g_F g_Y g_B g_R g_Cl g_E g_nests g_good 89 := ⟨by decide +kernel, rfl, g_rows lk_6 lf_6 rc_89⟩
theorem rc_90 : K_90.all (gCk lk_6 false (g_B 90)) = true := by decide +kernel
theorem mo_90 : gMok g_T g_F g_Y g_B g_R g_Cl g_E g_nests g_good 90 := ⟨by decide +kernel, rfl, g_rows lk_6 lf_6 rc_90⟩
theorem rc_91 : K_91.all (gCk lk_6 false (g_B 91)) = true := by decide +kernel
theorem mo_91 : gMok g_T g_F g_Y g_B g_R g_Cl g_E g_nests g_good 91 := ⟨by decide +kernel, rfl, g_rows lk_6 lf_6 rc_91⟩
theorem rc_92 : K_92.all (gCk lk_6 false (g_B 92)) = true := by decide +kernel
theorem mo_92 : gMok g_T g_F g_Y g_B g_R g_Cl g_E g_nests g_good 92 := ⟨by decide +kernel, rfl, g_rows lk_6 lf_6 rc_92⟩
theorem rc_93 : K_93.all (gCk lk_6 false (g_B 93)) = true := by decide +kernel
theorem mo_93 : gMok g_T g_F g_Y g_B g_R g_Cl g_E g_nests g_good 93 := ⟨by decide +kernel, rfl, g_rows lk_6 lf_6 rc_93⟩
theorem rc_94 : K_94.all (gCk lk_6 false (g_B 94)) = true := by decide +kernel
theorem mo_94 : gMok g_T g_F g_Y g_B g_R g_Cl g_E g_nests g_good 94 := ⟨by decide +kernel, rfl, g_rows lk_6 lf_6 rc_94⟩
theorem rc_95 : K_95.all (gCk lk_6 false (g_B 95)) = true := by decide +kernel
theorem mo_95 : gMok g_T g_F g_Y g_B g_R g_Cl g_E g_nests g_good 95 := ⟨by decide +kernel, rfl, g_rows lk_6 lf_6 rc_95⟩
theorem rc_96 : K_96.all (gCk lk_6 false (g_B 96)) = true := by decide +kernel
theorem mo_96 : gMok g_T g_F g_Y g_B g_R g_Cl g_E g_nests g_good 96 := ⟨by decide +kernel, rfl, g_rows lk_6 lf_6 rc_96⟩
theorem rc_97 : K_97.all (gCk lk_6 false (g_B 97)) = true := by decide +kernel
theorem mo_97 : gMok g_T g_F g_Y g_B g_R g_Cl g_E g_nests g_good 97 := ⟨by decide +kernel, rfl, g_rows lk_6 lf_6 rc_97⟩
theorem rc_98 : K_98.all (gCk lk_6 false (g_B 98)) = true := by decide +kernel
theorem mo_98 : gMok g_T g_F g_Y g_B g_R g_Cl g_E g_nests g_good 98 := ⟨by decide +kernel, rfl, g_rows lk_6 lf_6 rc_98⟩
theorem rc_99 : K_99.all (gCk lk_6 false (g_B 99)) = true := by decide +kernel
theorem mo_99 : gMok g_T g_F g_Y g_B g_R g_Cl g_E g_nests g_good 99 := ⟨by decide +kernel, rfl, g_rows lk_6 lf_6 rc_99⟩
theorem rc_100 : K_100.all (gCk lk_6 false (g_B 100)) = true := by decide +kernel
theorem mo_100 : gMok g_T g_F g_Y g_B g_R g_Cl g_E g_nests g_good 100 := ⟨by decide +kernel, rfl, g_rows lk_6 lf_6 rc_100⟩
theorem rc_101 : K_101.all (gCk lk_6 false (g_B 101)) = true := by decide +kernel
theorem mo_101 : gMok g_T g_F g_Y g_B g_R g_Cl g_E g_nests g_good 101 := ⟨by decide +kernel, rfl, g_rows lk_6 lf_6 rc_101⟩
theorem rc_102 : K_102.all (gCk lk_6 false (g_B 102)) = true := by decide +kernel
theorem mo_102 : gMok g_T g_F g_Y g_B g_R g_Cl g_E g_nests g_good 102 := ⟨by decide +kernel, rfl, g_rows lk_6 lf_6 rc_102⟩
theorem rc_103 : K_103.all (gCk lk_6 false (g_B 103)) = true := by decide +kernel
theorem mo_103 : gMok g_T g_F g_Y g_B g_R g_Cl g_E g_nests g_good 103 := ⟨by decide +kernel, rfl, g_rows lk_6 lf_6 rc_103⟩
theorem rc_104 : K_104.all (gCk lk_6 false (g_B 104)) = true := by decide +kernel
theorem mo_104 : gMok g_T g_F g_Y g_B g_R g_Cl g_E g_nests g_good 104 := ⟨by decide +kernel, rfl, g_rows lk_6 lf_6 rc_104⟩
theorem rc_105 : K_105.all (gCk lk_6 false (g_B 105)) = true := by decide +kernel
theorem mo_105 : gMok g_T g_F g_Y g_B g_R g_Cl g_E g_nests g_good 105 := ⟨by decide +kernel, rfl, g_rows lk_6 lf_6 rc_105⟩
theorem rc_106 : K_106.all (gCk lk_6 false (g_B 106)) = true := by decide +kernel
theorem mo_106 : gMok g_T g_F g_Y g_B g_R g_Cl g_E g_nests g_good 106 := ⟨by decide +kernel, rfl, g_rows lk_6 lf_6 rc_106⟩
theorem rc_107 : K_107.all (gCk lk_6 false (g_B 107)) = true := by decide +kernel
theorem mo_107 : gMok g_T g_F g_Y g_B g_R g_Cl g_E g_nests g_good 107 := ⟨by decide +kernel, rfl, g_rows lk_6 lf_6 rc_107⟩
theorem rc_108 : K_108.all (gCk lk_6 false (g_B 108)) = true := by decide +kernel
theorem mo_108 : gMok g_T g_F g_Y g_B g_R g_Cl g_E g_nests g_good 108 := ⟨by decide +kernel, rfl, g_rows lk_6 lf_6 rc_108⟩
theorem rc_109 : K_109.all (gCk lk_6 false (g_B 109)) = true := by decide +kernel
theorem mo_109 : gMok g_T g_F g_Y g_B g_R g_Cl g_E g_nests g_good 109 := ⟨by decide +kernel, rfl, g_rows lk_6 lf_6 rc_109⟩
theorem rc_110 : K_110.all (gCk lk_6 false (g_B 110)) = true := by decide +kernel
theorem mo_110 : gMok g_T g_F g_Y g_B g_R g_Cl g_E g_nests g_good 110 := ⟨by decide +kernel, rfl, g_rows lk_6 lf_6 rc_110⟩
theorem rc_111 : K_111.all (gCk lk_6 false (g_B 111)) = true := by decide +kernel
theorem mo_111 : gMok g_T g_F g_Y g_B g_R g_Cl g_E g_nests g_good 111 := ⟨by decide +kernel, rfl, g_rows lk_6 lf_6 rc_111⟩
theorem rc_112 : K_112.all (gCk lk_6 false (g_B 112)) = true := by decide +kernel
theorem mo_112 : gMok g_T g_F g_Y g_B g_R g_Cl g_E g_nests g_good 112 := ⟨by decide +kernel, rfl, g_rows lk_6 lf_6 rc_112⟩
theorem rc_113 : K_113.all (gCk lk_6 false (g_B 113)) = true := by decide +kernel
theorem mo_113 : gMok g_T g_F g_Y g_B g_R g_Cl g_E g_nests g_good 113 := ⟨by decide +kernel, rfl, g_rows lk_6 lf_6 rc_113⟩
theorem rc_114 : K_114.all (gCk lk_6 false (g_B 114)) = true := by decide +kernel
theorem mo_114 : gMok g_T g_F g_Y g_B g_R g_Cl g_E g_nests g_good 114 := ⟨by decide +kernel, rfl, g_rows lk_6 lf_6 rc_114⟩
theorem rc_115 : K_115.all (gCk lk_6 false (g_B 115)) = true := by decide +kernel
theorem mo_115 : gMok g_T g_F g_Y g_B g_R g_Cl g_E g_nests g_good 115 := ⟨by decide +kernel, rfl, g_rows lk_6 lf_6 rc_115⟩
theorem rc_116 : K_116.all (gCk lk_6 false (g_B 116)) = true := by decide +kernel
theorem mo_116 : gMok g_T g_F g_Y g_B g_R g_Cl g_E g_nests g_good 116 := ⟨by decide +kernel, rfl, g_rows lk_6 lf_6 rc_116⟩
theorem rc_117 : K_117.all (gCk lk_6 false (g_B 117)) = true := by decide +kernel
theorem mo_117 : gMok g_T g_F g_Y g_B g_R g_Cl g_E g_nests g_good 117 := ⟨by decide +kernel, rfl, g_rows lk_6 lf_6 rc_117⟩
theorem rc_118 : K_118.all (gCk lk_6 false (g_B 118)) = true := by decide +kernel
theorem mo_118 : gMok g_T g_F g_Y g_B g_R g_Cl g_E g_nests g_good 118 := ⟨by decide +kernel, rfl, g_rows lk_6 lf_6 rc_118⟩
theorem rc_119 : K_119.all (gCk lk_6 false (g_B 119)) = true := by decide +kernel
theorem mo_119 : gMok g_T g_F g_Y g_B g_R g_Cl g_E g_nests g_good 119 := ⟨by decide +kernel, rfl, g_rows lk_6 lf_6 rc_119⟩
theorem rc_120 : K_120.all (gCk lk_6 false (g_B 120)) = true := by decide +kernel
theorem mo_120 : gMok g_T g_F g_Y g_B g_R g_Cl g_E g_nests g_good 120 := ⟨by decide +kernel, rfl, g_rows lk_6 lf_6 rc_120⟩
theorem rc_121 : K_121.all (gCk lk_6 false (g_B 121)) = true := by decide +kernel
theorem mo_121 : gMok g_T g_F g_Y g_B g_R g_Cl g_E g_nests g_good 121 := ⟨by decide +kernel, rfl, g_rows lk_6 lf_6 rc_121⟩
theorem rc_122 : K_122.all (gCk lk_6 false (g_B 122)) = true := by decide +kernel
theorem mo_122 : gMok g_T g_F g_Y g_B g_R g_Cl g_E g_nests g_good 122 := ⟨by decide +kernel, rfl, g_rows lk_6 lf_6 rc_122⟩
theorem rc_123 : K_123.all (gCk lk_6 false (g_B 123)) = true := by decide +kernel
theorem mo_123 : gMok g_T g_F g_Y g_B g_R g_Cl g_E g_nests g_good 123 := ⟨by decide +kernel, Or.inl ⟨_, rfl⟩, g_rows lk_6 lf_6 rc_123⟩
theorem rc_124 : K_124.all (gCk lk_10 false (g_B 124)) = true := by decide +kernel
theorem mo_124 : gMok g_T g_F g_Y g_B g_R g_Cl g_E g_nests g_good 124 := ⟨by decide +kernel, rfl, g_rows lk_10 lf_10 rc_124⟩
theorem rc_125 : K_125.all (gCk lk_10 false (g_B 125)) = true := by decide +kernel
theorem mo_125 : gMok g_T g_F g_Y g_B g_R g_Cl g_E g_nests g_good 125 := ⟨by decide +kernel, rfl, g_rows lk_10 lf_10 rc_125⟩
theorem rc_126 : K_126.all (gCk lk_10 false (g_B 126)) = true := by decide +kernel
theorem mo_126 : gMok g_T g_F g_Y g_B g_R g_Cl g_E g_nests g_good 126 := ⟨by decide +kernel, rfl, g_rows lk_10 lf_10 rc_126⟩
theorem rc_127 : K_127.all (gCk lk_10 false (g_B 127)) = true := by decide +kernel
theorem mo_127 : gMok g_T g_F g_Y g_B g_R g_Cl g_E g_nests g_good 127 := ⟨by decide +kernel, rfl, g_rows lk_10 lf_10 rc_127⟩
theorem rc_128_0 : ((K_128.drop 0).take 60).all (gCk lk_10 false (g_B 128)) = true := by decide +kernel
theorem rc_128_60 : ((K_128.drop 60).take 60).all (gCk lk_10 false (g_B 128)) = true := by decide +kernel
theorem rc_128_120 : ((K_128.drop 120).take 60).all (gCk lk_10 false (g_B 128)) = true := by decide +kernel
theorem rc_128_180 : ((K_128.drop 180).take 60).all (gCk lk_10 false (g_B 128)) = true := by decide +kernel
theorem rc_128_e : (K_128.drop 240).all (gCk lk_10 false (g_B 128)) = true := by decide +kernel
theorem rc_128_180x : (K_128.drop 180).all (gCk lk_10 false (g_B 128)) = true := all_cut (a := 180) (n := 60) rc_128_180 rc_128_e
theorem rc_128_120x : (K_128.drop 120).all (gCk lk_10 false (g_B 128)) = true := all_cut (a := 120) (n := 60) rc_128_120 rc_128_180x
theorem rc_128_60x : (K_128.drop 60).all (gCk lk_10 false (g_B 128)) = true := all_cut (a := 60) (n := 60) rc_128_60 rc_128_120x
theorem rc_128_0x : (K_128.drop 0).all (gCk lk_10 false (g_B 128)) = true := all_cut (a := 0) (n := 60) rc_128_0 rc_128_60x
theorem rc_128 : K_128.all (gCk lk_10 false (g_B 128)) = true := by
  have h := rc_128_0x
  rw [List.drop_zero] at h
  exact h
theorem mo_128 : gMok g_T g_F g_Y g_B g_R g_Cl g_E g_nests g_good 128 := ⟨by decide +kernel, rfl, g_rows lk_10 lf_10 rc_128⟩
theorem rc_129 : K_129.all (gCk lk_10 false (g_B 129)) = true := by decide +kernel
theorem mo_129 : gMok g_T g_F g_Y g_B g_R g_Cl g_E g_nests g_good 129 := ⟨by decide +kernel, rfl, g_rows lk_10 lf_10 rc_129⟩
theorem rc_130 : K_130.all (gCk lk_10 false (g_B 130)) = true := by decide +kernel
theorem mo_130 : gMok g_T g_F g_Y g_B g_R g_Cl g_E g_nests g_good 130 := ⟨by decide +kernel, rfl, g_rows lk_10 lf_10 rc_130⟩
theorem rc_131_0 : ((K_131.drop 0).take 60).all (gCk lk_10 false (g_B 131)) = true := by decide +kernel
theorem rc_131_60 : ((K_131.drop 60).take 60).all (gCk lk_10 false (g_B 131)) = true := by decide +kernel
theorem rc_131_120 : ((K_131.drop 120).take 60).all (gCk lk_10 false (g_B 131)) = true := by decide +kernel
theorem rc_131_180 : ((K_131.drop 180).take 60).all (gCk lk_10 false (g_B 131)) = true := by decide +kernel
theorem rc_131_e : (K_131.drop 240).all (gCk lk_10 false (g_B 131)) = true := by decide +kernel
theorem rc_131_180x : (K_131.drop 180).all (gCk lk_10 false (g_B 131)) = true := all_cut (a := 180) (n := 60) rc_131_180 rc_131_e
theorem rc_131_120x : (K_131.drop 120).all (gCk lk_10 false (g_B 131)) = true := all_cut (a := 120) (n := 60) rc_131_120 rc_131_180x
theorem rc_131_60x : (K_131.drop 60).all (gCk lk_10 false (g_B 131)) = true := all_cut (a := 60) (n := 60) rc_131_60 rc_131_120x
theorem rc_131_0x : (K_131.drop 0).all (gCk lk_10 false (g_B 131)) = true := all_cut (a := 0) (n := 60) rc_131_0 rc_131_60x
theorem rc_131 : K_131.all (gCk lk_10 false (g_B 131)) = true := by
  have h := rc_131_0x
  rw [List.drop_zero] at h
  exact h
theorem mo_131 : gMok g_T g_F g_Y g_B g_R g_Cl g_E g_nests g_good 131 := ⟨by decide +kernel, rfl, g_rows lk_10 lf_10 rc_131⟩
theorem rc_132_0 : ((K_132.drop 0).take 60).all (gCk lk_10 false (g_B 132)) = true := by decide +kernel
theorem rc_132_60 : ((K_132.drop 60).take 60).all (gCk lk_10 false (g_B 132)) = true := by decide +kernel
theorem rc_132_120 : ((K_132.drop 120).take 60).all (gCk lk_10 false (g_B 132)) = true := by decide +kernel
theorem rc_132_e : (K_132.drop 180).all (gCk lk_10 false (g_B 132)) = true := by decide +kernel
theorem rc_132_120x : (K_132.drop 120).all (gCk lk_10 false (g_B 132)) = true := all_cut (a := 120) (n := 60) rc_132_120 rc_132_e
theorem rc_132_60x : (K_132.drop 60).all (gCk lk_10 false (g_B 132)) = true := all_cut (a := 60) (n := 60) rc_132_60 rc_132_120x
theorem rc_132_0x : (K_132.drop 0).all (gCk lk_10 false (g_B 132)) = true := all_cut (a := 0) (n := 60) rc_132_0 rc_132_60x
theorem rc_132 : K_132.all (gCk lk_10 false (g_B 132)) = true := by
  have h := rc_132_0x
  rw [List.drop_zero] at h
  exact h
theorem mo_132 : gMok g_T g_F g_Y g_B g_R g_Cl g_E g_nests g_good 132 := ⟨by decide +kernel, rfl, g_rows lk_10 lf_10 rc_132⟩
theorem rc_133 : K_133.all (gCk lk_10 false (g_B 133)) = true := by decide +kernel
theorem mo_133 : gMok g_T g_F g_Y g_B g_R g_Cl g_E g_nests g_good 133 := ⟨by decide +kernel, rfl, g_rows lk_10 lf_10 rc_133⟩
theorem rc_134_0 : ((K_134.drop 0).take 60).all (gCk lk_10 false (g_B 134)) = true := by decide +kernel
theorem rc_134_60 : ((K_134.drop 60).take 60).all (gCk lk_10 false (g_B 134)) = true := by decide +kernel
theorem rc_134_120 : ((K_134.drop 120).take 60).all (gCk lk_10 false (g_B 134)) = true := by decide +kernel
theorem rc_134_180 : ((K_134.drop 180).take 60).all (gCk lk_10 false (g_B 134)) = true := by decide +kernel
theorem rc_134_e : (K_134.drop 240).all (gCk lk_10 false (g_B 134)) = true := by decide +kernel
theorem rc_134_180x : (K_134.drop 180).all (gCk lk_10 false (g_B 134)) = true := all_cut (a := 180) (n := 60) rc_134_180 rc_134_e
theorem rc_134_120x : (K_134.drop 120).all (gCk lk_10 false (g_B 134)) = true := all_cut (a := 120) (n := 60) rc_134_120 rc_134_180x
theorem rc_134_60x : (K_134.drop 60).all (gCk lk_10 false (g_B 134)) = true := all_cut (a := 60) (n := 60) rc_134_60 rc_134_120x
theorem rc_134_0x : (K_134.drop 0).all (gCk lk_10 false (g_B 134)) = true := all_cut (a := 0) (n := 60) rc_134_0 rc_134_60x
theorem rc_134 : K_134.all (gCk lk_10 false (g_B 134)) = true := by
  have h := rc_134_0x
  rw [List.drop_zero] at h
  exact h
theorem mo_134 : gMok g_T g_F g_Y g_B g_R g_Cl g_E g_nests g_good 134 := ⟨by decide +kernel, rfl, g_rows lk_10 lf_10 rc_134⟩
theorem rc_135_0 : ((K_135.drop 0).take 60).all (gCk lk_10 false (g_B 135)) = true := by decide +kernel
theorem rc_135_60 : ((K_135.drop 60).take 60).all (gCk lk_10 false (g_B 135)) = true := by decide +kernel
theorem rc_135_120 : ((K_135.drop 120).take 60).all (gCk lk_10 false (g_B 135)) = true := by decide +kernel
theorem rc_135_e : (K_135.drop 180).all (gCk lk_10 false (g_B 135)) = true := by decide +kernel
theorem rc_135_120x : (K_135.drop 120).all (gCk lk_10 false (g_B 135)) = true := all_cut (a := 120) (n := 60) rc_135_120 rc_135_e
theorem rc_135_60x : (K_135.drop 60).all (gCk lk_10 false (g_B 135)) = true := all_cut (a := 60) (n := 60) rc_135_60 rc_135_120x
theorem rc_135_0x : (K_135.drop 0).all (gCk lk_10 false (g_B 135)) = true := all_cut (a := 0) (n := 60) rc_135_0 rc_135_60x
theorem rc_135 : K_135.all (gCk lk_10 false (g_B 135)) = true := by
  have h := rc_135_0x
  rw [List.drop_zero] at h
  exact h
theorem mo_135 : gMok g_T g_F g_Y g_B g_R g_Cl g_E g_nests g_good 135 := ⟨by decide +kernel, rfl, g_rows lk_10 lf_10 rc_135⟩
theorem rc_136_0 : ((K_136.drop 0).take 60).all (gCk lk_10 false (g_B 136)) = true := by decide +kernel
theorem rc_136_60 : ((K_136.drop 60).take 60).all (gCk lk_10 false (g_B 136)) = true := by decide +kernel
theorem rc_136_120 : ((K_136.drop 120).take 60).all (gCk lk_10 false (g_B 136)) = true := by decide +kernel
theorem rc_136_180 : ((K_136.drop 180).take 60).all (gCk lk_10 false (g_B 136)) = true := by decide +kernel
theorem rc_136_240 : ((K_136.drop 240).take 60).all (gCk lk_10 false (g_B 136)) = true := by decide +kernel
theorem rc_136_e : (K_136.drop 300).all (gCk lk_10 false (g_B 136)) = true := by decide +kernel
theorem rc_136_240x : (K_136.drop 240).all (gCk lk_10 false (g_B 136)) = true := all_cut (a := 240) (n := 60) rc_136_240 rc_136_e
theorem rc_136_180x : (K_136.drop 180).all (gCk lk_10 false (g_B 136)) = true := all_cut (a := 180) (n := 60) rc_136_180 rc_136_240x
theorem rc_136_120x : (K_136.drop 120).all (gCk lk_10 false (g_B 136)) = true := all_cut (a := 120) (n := 60) rc_136_120 rc_136_180x
theorem rc_136_60x : (K_136.drop 60).all (gCk lk_10 false (g_B 136)) = true := all_cut (a := 60) (n := 60) rc_136_60 rc_136_120x
theorem rc_136_0x : (K_136.drop 0).all (gCk lk_10 false (g_B 136)) = true := all_cut (a := 0) (n := 60) rc_136_0 rc_136_60x
theorem rc_136 : K_136.all (gCk lk_10 false (g_B 136)) = true := by
  have h := rc_136_0x
  rw [List.drop_zero] at h
  exact h
theorem mo_136 : gMok g_T g_F g_Y g_B g_R g_Cl g_E g_nests g_good 136 := ⟨by decide +kernel, rfl, g_rows lk_10 lf_10 rc_136⟩
theorem rc_226 : K_226.all (gCk lk_9 false (g_B 226)) = true := by decide +kernel
theorem mo_226 : gMok g_T g_F g_Y g_B g_R g_Cl g_E g_nests g_good 226 := ⟨by decide +kernel, rfl, g_rows lk_9 lf_9 rc_226⟩
theorem mob_0 (j : Nat) (h1 : 0 ≤ j) (h2 : j < 12) : gMok g_T g_F g_Y g_B g_R g_Cl g_E g_nests g_good j ∨ (g_T j).2.1 = [] := by
  rcases (show j = 0 ∨ j = 1 ∨ j = 2 ∨ j = 3 ∨ j = 4 ∨ j = 5 ∨ j = 6 ∨ j = 7 ∨ j = 8 ∨ j = 9 ∨ j = 10 ∨ j = 11 by omega) with rfl | rfl | rfl | rfl | rfl | rfl | rfl | rfl | rfl | rfl | rfl | rfl
  · exact Or.inl mo_0
  · exact Or.inl mo_1
  · exact Or.inl mo_2
  · exact Or.inl mo_3
  · exact Or.inl mo_4
  · exact Or.inl mo_5
  · exact Or.inl mo_6
  · exact Or.inl mo_7
  · exact Or.inl mo_8
  · exact Or.inl mo_9
  · exact Or.inl mo_10
  · exact Or.inl mo_11
theorem mob_12 (j : Nat) (h1 : 12 ≤ j) (h2 : j < 24) : gMok g_T g_F g_Y g_B g_R g_Cl g_E g_nests g_good j ∨ (g_T j).2.1 = [] := by
  rcases (show j = 12 ∨ j = 13 ∨ j = 14 ∨ j = 15 ∨ j = 16 ∨ j = 17 ∨ j = 18 ∨ j = 19 ∨ j = 20 ∨ j = 21 ∨ j = 22 ∨ j = 23 by omega) with rfl | rfl | rfl | rfl | rfl | rfl | rfl | rfl | rfl | rfl | rfl | rfl
  · exact Or.inl mo_12
  · exact Or.inl mo_13
  · exact Or.inr rfl
  · exact Or.inl mo_15
  · exact Or.inl mo_16
  · exact Or.inl mo_17
  · exact Or.inl mo_18
  · exact Or.inl mo_19
  · exact Or.inl mo_20
  · exact Or.inl mo_21
  · exact Or.inl mo_22
  · exact Or.inl mo_23
theorem mob_24 (j : Nat) (h1 : 24 ≤ j) (h2 : j < 36) : gMok g_T g_F g_Y g_B g_R g_Cl g_E g_nests g_good j ∨ (g_T j).2.1 = [] := by
  rcases (show j = 24 ∨ j = 25 ∨ j = 26 ∨ j = 27 ∨ j = 28 ∨ j = 29 ∨ j = 30 ∨ j = 31 ∨ j = 32 ∨ j = 33 ∨ j = 34 ∨ j = 35 by omega) with rfl | rfl | rfl | rfl | rfl | rfl | rfl | rfl | rfl | rfl | rfl | rfl
  · exact Or.inl mo_24
  · exact Or.inl mo_25
  · exact Or.inl mo_26
  · exact Or.inl mo_27
  · exact Or.inl mo_28
  · exact Or.inl mo_29
  · exact Or.inl mo_30
  · exact Or.inl mo_31
  · exact Or.inl mo_32
  · exact Or.inl mo_33
  · exact Or.inl mo_34
  · exact Or.inl mo_35
theorem mob_36 (j : Nat) (h1 : 36 ≤ j) (h2 : j < 48) : gMok g_T g_F g_Y g_B g_R g_Cl g_E g_nests g_good j ∨ (g_T j).2.1 = [] := by
  rcases (show j = 36 ∨ j = 37 ∨ j = 38 ∨ j = 39 ∨ j = 40 ∨ j = 41 ∨ j = 42 ∨ j = 43 ∨ j = 44 ∨ j = 45 ∨ j = 46 ∨ j = 47 by omega) with rfl | rfl | rfl | rfl | rfl | rfl | rfl | rfl | rfl | rfl | rfl | rfl
  · exact Or.inl mo_36
  · exact Or.inl mo_37
  · exact Or.inl mo_38
  · exact Or.inl mo_39
  · exact Or.inl mo_40
  · exact Or.inl mo_41
  · exact Or.inl mo_42
  · exact Or.inl mo_43
  · exact Or.inl mo_44
  · exact Or.inl mo_45
  · exact Or.inl mo_46
  · exact Or.inl mo_47
theorem mob_48 (j : Nat) (h1 : 48 ≤ j) (h2 : j < 60) : gMok g_T g_F g_Y g_B g_R g_Cl g_E g_nests g_good j ∨ (g_T j).2.1 = [] := by
  rcases (show j = 48 ∨ j = 49 ∨ j = 50 ∨ j = 51 ∨ j = 52 ∨ j = 53 ∨ j = 54 ∨ j = 55 ∨ j = 56 ∨ j = 57 ∨ j = 58 ∨ j = 59 by omega) with rfl | rfl | rfl | rfl | rfl | rfl | rfl | rfl | rfl | rfl | rfl | rfl
  · exact Or.inl mo_48
  · exact Or.inl mo_49
  · exact Or.inl mo_50
  · exact Or.inl mo_51
  · exact Or.inl mo_52
  · exact Or.inl mo_53
  · exact Or.inl mo_54
  · exact Or.inl mo_55
  · exact Or.inl mo_56
  · exact Or.inl mo_57
  · exact Or.inl mo_58
  · exact Or.inl mo_59
theorem mob_60 (j : Nat) (h1 : 60 ≤ j) (h2 : j < 72) : gMok g_T g_F g_Y g_B g_R g_Cl g_E g_nests g_good j ∨ (g_T j).2.1 = [] := by
  rcases (show j = 60 ∨ j = 61 ∨ j = 62 ∨ j = 63 ∨ j = 64 ∨ j = 65 ∨ j = 66 ∨ j = 67 ∨ j = 68 ∨ j = 69 ∨ j = 70 ∨ j = 71 by omega) with rfl | rfl | rfl | rfl | rfl | rfl | rfl | rfl | rfl | rfl | rfl | rfl
  · exact Or.inl mo_60
  · exact Or.inl mo_61
  · exact Or.inl mo_62
  · exact Or.inl mo_63
  · exact Or.inl mo_64
  · exact Or.inl mo_65
  · exact Or.inl mo_66
  · exact Or.inl mo_67
  · exact Or.inl mo_68
  · exact Or.inl mo_69
  · exact Or.inl mo_70
  · exact Or.inl mo_71
theorem mob_72 (j : Nat) (h1 : 72 ≤ j) (h2 : j < 84) : gMok g_T g_F g_Y g_B g_R g_Cl g_E g_nests g_good j ∨ (g_T j).2.1 = [] := by
  rcases (show j = 72 ∨ j = 73 ∨ j = 74 ∨ j = 75 ∨ j = 76 ∨ j = 77 ∨ j = 78 ∨ j = 79 ∨ j = 80 ∨ j = 81 ∨ j = 82 ∨ j = 83 by omega) with rfl | rfl | rfl | rfl | rfl | rfl | rfl | rfl | rfl | rfl | rfl | rfl
  · exact Or.inl mo_72
  · exact Or.inl mo_73
  · exact Or.inl mo_74
  · exact Or.inr rfl
  · exact Or.inl mo_76
  · exact Or.inl mo_77
  · exact Or.inl mo_78
  · exact Or.inl mo_79
  · exact Or.inr rfl
  · exact Or.inl mo_81
  · exact Or.inl mo_82
  · exact Or.inl mo_83
theorem mob_84 (j : Nat) (h1 : 84 ≤ j) (h2 : j < 96) : gMok g_T g_F g_Y g_B g_R g_Cl g_E g_nests g_good j ∨ (g_T j).2.1 = [] := by
  rcases (show j = 84 ∨ j = 85 ∨ j = 86 ∨ j = 87 ∨ j = 88 ∨ j = 89 ∨ j = 90 ∨ j = 91 ∨ j = 92 ∨ j = 93 ∨ j = 94 ∨ j = 95 by omega) with rfl | rfl | rfl | rfl | rfl | rfl | rfl | rfl | rfl | rfl | rfl | rfl
  · exact Or.inr rfl
  · exact Or.inl mo_85
  · exact Or.inl mo_86
  · exact Or.inl mo_87
  · exact Or.inl mo_88
  · exact Or.inl mo_89
  · exact Or.inl mo_90
  · exact Or.inl mo_91
  · exact Or.inl mo_92
  · exact Or.inl mo_93
  · exact Or.inl mo_94
  · exact Or.inl mo_95
theorem mob_96 (j : Nat) (h1 : 96 ≤ j) (h2 : j < 108) : gMok g_T g_F g_Y g_B g_R g_Cl g_E g_nests g_good j ∨ (g_T j).2.1 = [] := by
  rcases (show j = 96 ∨ j = 97 ∨ j = 98 ∨ j = 99 ∨ j = 100 ∨ j = 101 ∨ j = 102 ∨ j = 103 ∨ j = 104 ∨ j = 105 ∨ j = 106 ∨ j = 107 by omega) with rfl | rfl | rfl | rfl | rfl | rfl | rfl | rfl | rfl | rfl | rfl | rfl
  · exact Or.inl mo_96
  · exact Or.inl mo_97
  · exact Or.inl mo_98
  · exact Or.inl mo_99
  · exact Or.inl mo_100
  · exact Or.inl mo_101
  · exact Or.inl mo_102
  · exact Or.inl mo_103
  · exact Or.inl mo_104
  · exact Or.inl mo_105
  · exact Or.inl mo_106
  · exact Or.inl mo_107
theorem mob_108 (j : Nat) (h1 : 108 ≤ j) (h2 : j < 120) : gMok g_T g_F g_Y g_B g_R g_Cl g_E g_nests g_good j ∨ (g_T j).2.1 = [] := by
  rcases (show j = 108 ∨ j = 109 ∨ j = 110 ∨ j = 111 ∨ j = 112 ∨ j = 113 ∨ j = 114 ∨ j = 115 ∨ j = 116 ∨ j = 117 ∨ j = 118 ∨ j = 119 by omega) with rfl | rfl | rfl | rfl | rfl | rfl | rfl | rfl | rfl | rfl | rfl | rfl
  · exact Or.inl mo_108
  · exact Or.inl mo_109
  · exact Or.inl mo_110
  · exact Or.inl mo_111
  · exact Or.inl mo_112
  · exact Or.inl mo_113
  · exact Or.inl mo_114
  · exact Or.inl mo_115
  · exact Or.inl mo_116
  · exact Or.inl mo_117
  · exact Or.inl mo_118
  · exact Or.inl mo_119
theorem mob_120 (j : Nat) (h1 : 120 ≤ j) (h2 : j < 132) : gMok g_T g_F g_Y g_B g_R g_Cl g_E g_nests g_good j ∨ (g_T j).2.1 = [] := by
  rcases (show j = 120 ∨ j = 121 ∨ j = 122 ∨ j = 123 ∨ j = 124 ∨ j = 125 ∨ j = 126 ∨ j = 127 ∨ j = 128 ∨ j = 129 ∨ j = 130 ∨ j = 131 by omega) with rfl | rfl | rfl | rfl | rfl | rfl | rfl | rfl | rfl | rfl | rfl | rfl
  · exact Or.inl mo_120
  · exact Or.inl mo_121
  · exact Or.inl mo_122
  · exact Or.inl mo_123
  · exact Or.inl mo_124
  · exact Or.inl mo_125
  · exact Or.inl mo_126
  · exact Or.inl mo_127
  · exact Or.inl mo_128
  · exact Or.inl mo_129
  · exact Or.inl mo_130
  · exact Or.inl mo_131
theorem mob_132 (j : Nat) (h1 : 132 ≤ j) (h2 : j < 144) : gMok g_T g_F g_Y g_B g_R g_Cl g_E g_nests g_good j ∨ (g_T j).2.1 = [] := by
  rcases (show j = 132 ∨ j = 133 ∨ j = 134 ∨ j = 135 ∨ j = 136 ∨ j = 137 ∨ j = 138 ∨ j = 139 ∨ j = 140 ∨ j = 141 ∨ j = 142 ∨ j = 143 by omega) with rfl | rfl | rfl | rfl | rfl | rfl | rfl | rfl | rfl | rfl | rfl | rfl
  · exact Or.inl mo_132
  · exact Or.inl mo_133
  · exact Or.inl mo_134
  · exact Or.inl mo_135
  · exact Or.inl mo_136
  · exact Or.inr rfl
  · exact Or.inr rfl
  · exact Or.inr rfl
  · exact Or.inr rfl
  · exact Or.inr rfl
  · exact Or.inr rfl
  · exact Or.inr rfl
theorem mob_144 (j : Nat) (h1 : 144 ≤ j) (h2 : j < 156) : gMok g_T g_F g_Y g_B g_R g_Cl g_E g_nests g_good j ∨ (g_T j).2.1 = [] := by
  rcases (show j = 144 ∨ j = 145 ∨ j = 146 ∨ j = 147 ∨ j = 148 ∨ j = 149 ∨ j = 150 ∨ j = 151 ∨ j = 152 ∨ j = 153 ∨ j = 154 ∨ j = 155 by omega) with rfl | rfl | rfl | rfl | rfl | rfl | rfl | rfl | rfl | rfl | rfl | rfl
  · exact Or.inr rfl
  · exact Or.inr rfl
  · exact Or.inr rfl
  · exact Or.inr rfl
  · exact Or.inr rfl
  · exact Or.inr rfl
  · exact Or.inr rfl
  · exact Or.inr rfl
  · exact Or.inr rfl
  · exact Or.inr rfl
  · exact Or.inr rfl
  · exact Or.inr rfl
theorem mob_156 (j : Nat) (h1 : 156 ≤ j) (h2 : j < 168) : gMok g_T g_F g_Y g_B g_R g_Cl g_E g_nests g_good j ∨ (g_T j).2.1 = [] := by
  rcases (show j = 156 ∨ j = 157 ∨ j = 158 ∨ j = 159 ∨ j = 160 ∨ j = 161 ∨ j = 162 ∨ j = 163 ∨ j = 164 ∨ j = 165 ∨ j = 166 ∨ j = 167 by omega) with rfl | rfl | rfl | rfl | rfl | rfl | rfl | rfl | rfl | rfl | rfl | rfl
  · exact Or.inr rfl
  · exact Or.inr rfl
  · exact Or.inr rfl
  · exact Or.inr rfl
  · exact Or.inr rfl
  · exact Or.inr rfl
  · exact Or.inr rfl
  · exact Or.inr rfl
  · exact Or.inr rfl
  · exact Or.inr rfl
  · exact Or.inr rfl
  · exact Or.inr rfl
theorem mob_168 (j : Nat) (h1 : 168 ≤ j) (h2 : j < 180) : gMok g_T g_F g_Y g_B g_R g_Cl g_E g_nests g_good j ∨ (g_T j).2.1 = [] := by
  rcases (show j = 168 ∨ j = 169 ∨ j = 170 ∨ j = 171 ∨ j = 172 ∨ j = 173 ∨ j = 174 ∨ j = 175 ∨ j = 176 ∨ j = 177 ∨ j = 178 ∨ j = 179 by omega) with rfl | rfl | rfl | rfl | rfl | rfl | rfl | rfl | rfl | rfl | rfl | rfl
  · exact Or.inr rfl
  · exact Or.inr rfl
  · exact Or.inr rfl
  · exact Or.inr rfl
  · exact Or.inr rfl
  · exact Or.inr rfl
  · exact Or.inr rfl
  · exact Or.inr rfl
  · exact Or.inr rfl
  · exact Or.inr rfl
  · exact Or.inr rfl
  · exact Or.inr rfl
theorem mob_180 (j : Nat) (h1 : 180 ≤ j) (h2 : j < 192) : gMok g_T g_F g_Y g_B g_R g_Cl g_E g_nests g_good j ∨ (g_T j).2.1 = [] := by
  rcases (show j = 180 ∨ j = 181 ∨ j = 182 ∨ j = 183 ∨ j = 184 ∨ j = 185 ∨ j = 186 ∨ j = 187 ∨ j = 188 ∨ j = 189 ∨ j = 190 ∨ j = 191 by omega) with rfl | rfl | rfl | rfl | rfl | rfl | rfl | rfl | rfl | rfl | rfl | rfl
  · exact Or.inr rfl
  · exact Or.inr rfl
  · exact Or.inr rfl
  · exact Or.inr rfl
  · exact Or.inr rfl
  · exact Or.inr rfl
  · exact Or.inr rfl
  · exact Or.inr rfl
  · exact Or.inr rfl
  · exact Or.inr rfl
  · exact Or.inr rfl
  · exact Or.inr rfl
theorem mob_192 (j : Nat) (h1 : 192 ≤ j) (h2 : j < 204) : gMok g_T g_F g_Y g_B g_R g_Cl g_E g_nests g_good j ∨ (g_T j).2.1 = [] := by
  rcases (show j = 192 ∨ j = 193 ∨ j = 194 ∨ j = 195 ∨ j = 196 ∨ j = 197 ∨ j = 198 ∨ j = 199 ∨ j = 200 ∨ j = 201 ∨ j = 202 ∨ j = 203 by omega) with rfl | rfl | rfl | rfl | rfl | rfl | rfl | rfl | rfl | rfl | rfl | rfl
  · exact Or.inr rfl
  · exact Or.inr rfl
  · exact Or.inr rfl
  · exact Or.inr rfl
  · exact Or.inr rfl
  · exact Or.inr rfl
  · exact Or.inr rfl
  · exact Or.inr rfl
  · exact Or.inr rfl
  · exact Or.inr rfl
  · exact Or.inr rfl
  · exact Or.inr rfl
theorem mob_204 (j : Nat) (h1 : 204 ≤ j) (h2 : j < 216) : gMok g_T g_F g_Y g_B g_R g_Cl g_E g_nests g_good j ∨ (g_T j).2.1 = [] := by
  rcases (show j = 204 ∨ j = 205 ∨ j = 206 ∨ j = 207 ∨ j = 208 ∨ j = 209 ∨ j = 210 ∨ j = 211 ∨ j = 212 ∨ j = 213 ∨ j = 214 ∨ j = 215 by omega) with rfl | rfl | rfl | rfl | rfl | rfl | rfl | rfl | rfl | rfl | rfl | rfl
  · exact Or.inr rfl
  · exact Or.inr rfl
  · exact Or.inr rfl
  · exact Or.inr rfl
  · exact Or.inr rfl
  · exact Or.inr rfl
  · exact Or.inr rfl
  · exact Or.inr rfl
  · exact Or.inr rfl
  · exact Or.inr rfl
  · exact Or.inr rfl
  · exact Or.inr rfl
theorem mob_216 (j : Nat) (h1 : 216 ≤ j) (h2 : j < 227) : gMok g_T g_F g_Y g_B g_R g_Cl g_E g_nests g_good j ∨ (g_T j).2.1 = [] := by
  rcases (show j = 216 ∨ j = 217 ∨ j = 218 ∨ j = 219 ∨ j = 220 ∨ j = 221 ∨ j = 222 ∨ j = 223 ∨ j = 224 ∨ j = 225 ∨ j = 226 by omega) with rfl | rfl | rfl | rfl | rfl | rfl | rfl | rfl | rfl | rfl | rfl
  · exact Or.inr rfl
  · exact Or.inr rfl
  · exact Or.inr rfl
  · exact Or.inr rfl
  · exact Or.inr rfl
  · exact Or.inr rfl
  · exact Or.inr rfl
  · exact Or.inr rfl
  · exact Or.inr rfl
  · exact Or.inr rfl
  · exact Or.inl mo_226
theorem g_all (j : Nat) : gMok g_T g_F g_Y g_B g_R g_Cl g_E g_nests g_good j ∨ (g_T j).2.1 = [] := by
  by_cases h12 : j < 12
  · exact mob_0 j (by omega) h12
  by_cases h24 : j < 24
  · exact mob_12 j (by omega) h24
  by_cases h36 : j < 36
  · exact mob_24 j (by omega) h36
  by_cases h48 : j < 48
  · exact mob_36 j (by omega) h48
  by_cases h60 : j < 60
  · exact mob_48 j (by omega) h60
  by_cases h72 : j < 72
  · exact mob_60 j (by omega) h72
  by_cases h84 : j < 84
  · exact mob_72 j (by omega) h84
  by_cases h96 : j < 96
  · exact mob_84 j (by omega) h96
  by_cases h108 : j < 108
  · exact mob_96 j (by omega) h108
  by_cases h120 : j < 120
  · exact mob_108 j (by omega) h120
  by_cases h132 : j < 132
  · exact mob_120 j (by omega) h132
  by_cases h144 : j < 144
  · exact mob_132 j (by omega) h144
  by_cases h156 : j < 156
  · exact mob_144 j (by omega) h156
  by_cases h168 : j < 168
  · exact mob_156 j (by omega) h168
  by_cases h180 : j < 180
  · exact mob_168 j (by omega) h180
  by_cases h192 : j < 192
  · exact mob_180 j (by omega) h192
  by_cases h204 : j < 204
  · exact mob_192 j (by omega) h204
  by_cases h216 : j < 216
  · exact mob_204 j (by omega) h216
  by_cases h227 : j < 227
  · exact mob_216 j (by omega) h227
  · refine Or.inr ?_
    have h : g_tab[j]? = none := List.getElem?_eq_none (by show 227 ≤ j; omega)
    show (g_tab.getD j (0, [], 0, 9, 0, 0, false)).2.1 = []
    rw [List.getD_eq_getElem?_getD, h]; rfl
theorem g_mlt : ∀ j, j < 227 → (g_T j).2.2.1 ≤ 45 := by decide +kernel
theorem g_ml (j : Nat) : (g_T j).2.2.1 ≤ 45 := by
  by_cases h : j < 227
  · exact g_mlt j h
  · have h : g_tab[j]? = none := List.getElem?_eq_none (by show 227 ≤ j; omega)
    show (g_tab.getD j (0, [], 0, 9, 0, 0, false)).2.2.1 ≤ 45
    rw [List.getD_eq_getElem?_getD, h]; decide
theorem g_gw : ∀ w ∈ g_good, goodWord w = true := fun _ h => (List.mem_filter.mp h).2
theorem g_ar : ∀ w ∈ ([.arrayClass .int, .arrayClass .boolean, .arrayClass .char] : List Jvm.Cond), w ∈ g_good := by decide +kernel
theorem g_met (l : Launch) {D : va_G} {cA : Nat → ClassId} {A : Nat → Prop} {b : Nat} {NN : Int} {XX : Int → Int} : ∀ d, gCt l g_T g_Y (gWs g_T g_Y g_B g_R g_good) (gRm g_T d) D g_Cl cA g_E g_nests A b NN XX (gCall g_T g_F NN XX d) := g_contract g_ar g_gw g_ml g_all
