theorem dL_cell_0 : decode cL_cell 0 = .ok (.iload_n 1, 1) := by decide +kernel
theorem dL_cell_1 : decode cL_cell 1 = .ok (.aload_n 0, 1) := by decide +kernel
theorem dL_cell_2 : decode cL_cell 2 = .ok (.arraylength, 1) := by decide +kernel
theorem dL_cell_3 : decode cL_cell 3 = .ok (.if_icmp .ge 9, 3) := by decide +kernel
theorem dL_cell_6 : decode cL_cell 6 = .ok (.aload_n 0, 1) := by decide +kernel
theorem dL_cell_7 : decode cL_cell 7 = .ok (.iload_n 1, 1) := by decide +kernel
theorem dL_cell_8 : decode cL_cell 8 = .ok (.iaload, 1) := by decide +kernel
theorem dL_cell_9 : decode cL_cell 9 = .ok (.goto 7, 3) := by decide +kernel
theorem dL_cell_12 : decode cL_cell 12 = .ok (.ldc 7, 2) := by decide +kernel
theorem dL_cell_14 : decode cL_cell 14 = .ok (.iload_n 1, 1) := by decide +kernel
theorem dL_cell_15 : decode cL_cell 15 = .ok (.imul, 1) := by decide +kernel
theorem dL_cell_16 : decode cL_cell 16 = .ok (.ireturn, 1) := by decide +kernel
theorem dL_paint_0 : decode cL_paint 0 = .ok (.aload_n 0, 1) := by decide +kernel
theorem dL_paint_1 : decode cL_paint 1 = .ok (.iload_n 1, 1) := by decide +kernel
theorem dL_paint_2 : decode cL_paint 2 = .ok (.iload_n 2, 1) := by decide +kernel
theorem dL_paint_3 : decode cL_paint 3 = .ok (.invokevirtual 8, 3) := by decide +kernel
theorem dL_paint_6 : decode cL_paint 6 = .ok (.ireturn, 1) := by decide +kernel
theorem dL_paint_7 : decode cL_paint 7 = .ok (.astore_n 3, 1) := by decide +kernel
theorem dL_paint_8 : decode cL_paint 8 = .ok (.bipush (-11), 2) := by decide +kernel
theorem dL_paint_10 : decode cL_paint 10 = .ok (.ireturn, 1) := by decide +kernel
theorem dL_paint_11 : decode cL_paint 11 = .ok (.astore_n 3, 1) := by decide +kernel
theorem dL_paint_12 : decode cL_paint 12 = .ok (.bipush (-12), 2) := by decide +kernel
theorem dL_paint_14 : decode cL_paint 14 = .ok (.ireturn, 1) := by decide +kernel
theorem dL_paint_15 : decode cL_paint 15 = .ok (.astore_n 3, 1) := by decide +kernel
theorem dL_paint_16 : decode cL_paint 16 = .ok (.bipush (-14), 2) := by decide +kernel
theorem dL_paint_18 : decode cL_paint 18 = .ok (.ireturn, 1) := by decide +kernel
theorem dL_shave_0 : decode cL_shave 0 = .ok (.aload_n 0, 1) := by decide +kernel
theorem dL_shave_1 : decode cL_shave 1 = .ok (.iload_n 1, 1) := by decide +kernel
theorem dL_shave_2 : decode cL_shave 2 = .ok (.iload_n 2, 1) := by decide +kernel
theorem dL_shave_3 : decode cL_shave 3 = .ok (.invokevirtual 20, 3) := by decide +kernel
theorem dL_shave_6 : decode cL_shave 6 = .ok (.ireturn, 1) := by decide +kernel
theorem dL_shave_7 : decode cL_shave 7 = .ok (.astore_n 3, 1) := by decide +kernel
theorem dL_shave_8 : decode cL_shave 8 = .ok (.bipush (-11), 2) := by decide +kernel
theorem dL_shave_10 : decode cL_shave 10 = .ok (.ireturn, 1) := by decide +kernel
theorem dL_shave_11 : decode cL_shave 11 = .ok (.astore_n 3, 1) := by decide +kernel
theorem dL_shave_12 : decode cL_shave 12 = .ok (.bipush (-14), 2) := by decide +kernel
theorem dL_shave_14 : decode cL_shave 14 = .ok (.ireturn, 1) := by decide +kernel
theorem dL_scale_0 : decode cL_scale 0 = .ok (.aload_n 0, 1) := by decide +kernel
theorem dL_scale_1 : decode cL_scale 1 = .ok (.iload_n 1, 1) := by decide +kernel
theorem dL_scale_2 : decode cL_scale 2 = .ok (.invokevirtual 23, 3) := by decide +kernel
theorem dL_scale_5 : decode cL_scale 5 = .ok (.ireturn, 1) := by decide +kernel
theorem dL_scale_6 : decode cL_scale 6 = .ok (.astore_n 2, 1) := by decide +kernel
theorem dL_scale_7 : decode cL_scale 7 = .ok (.bipush (-12), 2) := by decide +kernel
theorem dL_scale_9 : decode cL_scale 9 = .ok (.ireturn, 1) := by decide +kernel
theorem dL_scale_10 : decode cL_scale 10 = .ok (.astore_n 2, 1) := by decide +kernel
theorem dL_scale_11 : decode cL_scale 11 = .ok (.bipush (-14), 2) := by decide +kernel
theorem dL_scale_13 : decode cL_scale 13 = .ok (.ireturn, 1) := by decide +kernel
theorem dL_river_0 : decode cL_river 0 = .ok (.aload_n 0, 1) := by decide +kernel
theorem dL_river_1 : decode cL_river 1 = .ok (.iload_n 1, 1) := by decide +kernel
theorem dL_river_2 : decode cL_river 2 = .ok (.iload_n 2, 1) := by decide +kernel
theorem dL_river_3 : decode cL_river 3 = .ok (.invokevirtual 27, 3) := by decide +kernel
theorem dL_river_6 : decode cL_river 6 = .ok (.ireturn, 1) := by decide +kernel
theorem dL_river_7 : decode cL_river 7 = .ok (.astore_n 3, 1) := by decide +kernel
theorem dL_river_8 : decode cL_river 8 = .ok (.bipush (-11), 2) := by decide +kernel
theorem dL_river_10 : decode cL_river 10 = .ok (.ireturn, 1) := by decide +kernel
theorem dL_river_11 : decode cL_river 11 = .ok (.astore_n 3, 1) := by decide +kernel
theorem dL_river_12 : decode cL_river 12 = .ok (.bipush (-12), 2) := by decide +kernel
theorem dL_river_14 : decode cL_river 14 = .ok (.ireturn, 1) := by decide +kernel
theorem dL_river_15 : decode cL_river 15 = .ok (.astore_n 3, 1) := by decide +kernel
theorem dL_river_16 : decode cL_river 16 = .ok (.bipush (-13), 2) := by decide +kernel
theorem dL_river_18 : decode cL_river 18 = .ok (.ireturn, 1) := by decide +kernel
theorem dL_river_19 : decode cL_river 19 = .ok (.astore_n 3, 1) := by decide +kernel
theorem dL_river_20 : decode cL_river 20 = .ok (.bipush (-14), 2) := by decide +kernel
theorem dL_river_22 : decode cL_river 22 = .ok (.ireturn, 1) := by decide +kernel
theorem dL_drop_0 : decode cL_drop 0 = .ok (.aload_n 0, 1) := by decide +kernel
theorem dL_drop_1 : decode cL_drop 1 = .ok (.iload_n 1, 1) := by decide +kernel
theorem dL_drop_2 : decode cL_drop 2 = .ok (.invokevirtual 32, 3) := by decide +kernel
theorem dL_drop_5 : decode cL_drop 5 = .ok (.ireturn, 1) := by decide +kernel
theorem dL_drop_6 : decode cL_drop 6 = .ok (.astore_n 2, 1) := by decide +kernel
theorem dL_drop_7 : decode cL_drop 7 = .ok (.bipush (-11), 2) := by decide +kernel
theorem dL_drop_9 : decode cL_drop 9 = .ok (.ireturn, 1) := by decide +kernel
theorem dL_dragon_0 : decode cL_dragon 0 = .ok (.aload_n 0, 1) := by decide +kernel
theorem dL_dragon_1 : decode cL_dragon 1 = .ok (.iload_n 1, 1) := by decide +kernel
theorem dL_dragon_2 : decode cL_dragon 2 = .ok (.iload_n 2, 1) := by decide +kernel
theorem dL_dragon_3 : decode cL_dragon 3 = .ok (.invokevirtual 35, 3) := by decide +kernel
theorem dL_dragon_6 : decode cL_dragon 6 = .ok (.ireturn, 1) := by decide +kernel
theorem dL_dragon_7 : decode cL_dragon 7 = .ok (.astore_n 3, 1) := by decide +kernel
theorem dL_dragon_8 : decode cL_dragon 8 = .ok (.bipush (-11), 2) := by decide +kernel
theorem dL_dragon_10 : decode cL_dragon 10 = .ok (.ireturn, 1) := by decide +kernel
theorem dL_dragon_11 : decode cL_dragon 11 = .ok (.astore_n 3, 1) := by decide +kernel
theorem dL_dragon_12 : decode cL_dragon 12 = .ok (.bipush (-12), 2) := by decide +kernel
theorem dL_dragon_14 : decode cL_dragon 14 = .ok (.ireturn, 1) := by decide +kernel
theorem dL_dragon_15 : decode cL_dragon 15 = .ok (.astore_n 3, 1) := by decide +kernel
theorem dL_dragon_16 : decode cL_dragon 16 = .ok (.bipush (-14), 2) := by decide +kernel
theorem dL_dragon_18 : decode cL_dragon 18 = .ok (.ireturn, 1) := by decide +kernel
theorem dL_scare_0 : decode cL_scare 0 = .ok (.aload_n 0, 1) := by decide +kernel
theorem dL_scare_1 : decode cL_scare 1 = .ok (.iload_n 1, 1) := by decide +kernel
theorem dL_scare_2 : decode cL_scare 2 = .ok (.invokevirtual 38, 3) := by decide +kernel
theorem dL_scare_5 : decode cL_scare 5 = .ok (.ireturn, 1) := by decide +kernel
theorem dL_scare_6 : decode cL_scare 6 = .ok (.astore_n 2, 1) := by decide +kernel
theorem dL_scare_7 : decode cL_scare 7 = .ok (.bipush (-11), 2) := by decide +kernel
theorem dL_scare_9 : decode cL_scare 9 = .ok (.ireturn, 1) := by decide +kernel
theorem dL_realmAt_0 : decode cL_realmAt 0 = .ok (.aload_n 0, 1) := by decide +kernel
theorem dL_realmAt_1 : decode cL_realmAt 1 = .ok (.iload_n 1, 1) := by decide +kernel
theorem dL_realmAt_2 : decode cL_realmAt 2 = .ok (.invokevirtual 41, 3) := by decide +kernel
theorem dL_realmAt_5 : decode cL_realmAt 5 = .ok (.ireturn, 1) := by decide +kernel
theorem dL_realmAt_6 : decode cL_realmAt 6 = .ok (.astore_n 2, 1) := by decide +kernel
theorem dL_realmAt_7 : decode cL_realmAt 7 = .ok (.bipush (-11), 2) := by decide +kernel
theorem dL_realmAt_9 : decode cL_realmAt 9 = .ok (.ireturn, 1) := by decide +kernel
theorem dL_realmOf_0 : decode cL_realmOf 0 = .ok (.aload_n 0, 1) := by decide +kernel
theorem dL_realmOf_1 : decode cL_realmOf 1 = .ok (.iload_n 1, 1) := by decide +kernel
theorem dL_realmOf_2 : decode cL_realmOf 2 = .ok (.iload_n 2, 1) := by decide +kernel
theorem dL_realmOf_3 : decode cL_realmOf 3 = .ok (.invokevirtual 44, 3) := by decide +kernel
theorem dL_realmOf_6 : decode cL_realmOf 6 = .ok (.ireturn, 1) := by decide +kernel
theorem dL_realmOf_7 : decode cL_realmOf 7 = .ok (.astore_n 3, 1) := by decide +kernel
theorem dL_realmOf_8 : decode cL_realmOf 8 = .ok (.bipush (-11), 2) := by decide +kernel
theorem dL_realmOf_10 : decode cL_realmOf 10 = .ok (.ireturn, 1) := by decide +kernel
theorem dL_realmOf_11 : decode cL_realmOf 11 = .ok (.astore_n 3, 1) := by decide +kernel
theorem dL_realmOf_12 : decode cL_realmOf 12 = .ok (.bipush (-12), 2) := by decide +kernel
theorem dL_realmOf_14 : decode cL_realmOf 14 = .ok (.ireturn, 1) := by decide +kernel
theorem dL_riverOf_0 : decode cL_riverOf 0 = .ok (.aload_n 0, 1) := by decide +kernel
theorem dL_riverOf_1 : decode cL_riverOf 1 = .ok (.iload_n 1, 1) := by decide +kernel
theorem dL_riverOf_2 : decode cL_riverOf 2 = .ok (.iload_n 2, 1) := by decide +kernel
theorem dL_riverOf_3 : decode cL_riverOf 3 = .ok (.invokevirtual 47, 3) := by decide +kernel
theorem dL_riverOf_6 : decode cL_riverOf 6 = .ok (.ireturn, 1) := by decide +kernel
theorem dL_riverOf_7 : decode cL_riverOf 7 = .ok (.astore_n 3, 1) := by decide +kernel
theorem dL_riverOf_8 : decode cL_riverOf 8 = .ok (.bipush (-11), 2) := by decide +kernel
theorem dL_riverOf_10 : decode cL_riverOf 10 = .ok (.ireturn, 1) := by decide +kernel
theorem dL_riverOf_11 : decode cL_riverOf 11 = .ok (.astore_n 3, 1) := by decide +kernel
theorem dL_riverOf_12 : decode cL_riverOf 12 = .ok (.bipush (-12), 2) := by decide +kernel
theorem dL_riverOf_14 : decode cL_riverOf 14 = .ok (.ireturn, 1) := by decide +kernel
theorem dL_riverAt_0 : decode cL_riverAt 0 = .ok (.aload_n 0, 1) := by decide +kernel
theorem dL_riverAt_1 : decode cL_riverAt 1 = .ok (.iload_n 1, 1) := by decide +kernel
theorem dL_riverAt_2 : decode cL_riverAt 2 = .ok (.iload_n 2, 1) := by decide +kernel
theorem dL_riverAt_3 : decode cL_riverAt 3 = .ok (.invokevirtual 50, 3) := by decide +kernel
theorem dL_riverAt_6 : decode cL_riverAt 6 = .ok (.ireturn, 1) := by decide +kernel
theorem dL_riverAt_7 : decode cL_riverAt 7 = .ok (.astore_n 3, 1) := by decide +kernel
theorem dL_riverAt_8 : decode cL_riverAt 8 = .ok (.bipush (-11), 2) := by decide +kernel
theorem dL_riverAt_10 : decode cL_riverAt 10 = .ok (.ireturn, 1) := by decide +kernel
theorem dL_riverAt_11 : decode cL_riverAt 11 = .ok (.astore_n 3, 1) := by decide +kernel
theorem dL_riverAt_12 : decode cL_riverAt 12 = .ok (.bipush (-15), 2) := by decide +kernel
theorem dL_riverAt_14 : decode cL_riverAt 14 = .ok (.ireturn, 1) := by decide +kernel
theorem dL_dragonOf_0 : decode cL_dragonOf 0 = .ok (.aload_n 0, 1) := by decide +kernel
theorem dL_dragonOf_1 : decode cL_dragonOf 1 = .ok (.iload_n 1, 1) := by decide +kernel
theorem dL_dragonOf_2 : decode cL_dragonOf 2 = .ok (.iload_n 2, 1) := by decide +kernel
theorem dL_dragonOf_3 : decode cL_dragonOf 3 = .ok (.invokevirtual 55, 3) := by decide +kernel
theorem dL_dragonOf_6 : decode cL_dragonOf 6 = .ok (.ireturn, 1) := by decide +kernel
theorem dL_dragonOf_7 : decode cL_dragonOf 7 = .ok (.astore_n 3, 1) := by decide +kernel
theorem dL_dragonOf_8 : decode cL_dragonOf 8 = .ok (.bipush (-11), 2) := by decide +kernel
theorem dL_dragonOf_10 : decode cL_dragonOf 10 = .ok (.ireturn, 1) := by decide +kernel
theorem dL_dragonOf_11 : decode cL_dragonOf 11 = .ok (.astore_n 3, 1) := by decide +kernel
theorem dL_dragonOf_12 : decode cL_dragonOf 12 = .ok (.bipush (-12), 2) := by decide +kernel
theorem dL_dragonOf_14 : decode cL_dragonOf 14 = .ok (.ireturn, 1) := by decide +kernel
theorem dL_weight_0 : decode cL_weight 0 = .ok (.aload_n 0, 1) := by decide +kernel
theorem dL_weight_1 : decode cL_weight 1 = .ok (.iload_n 1, 1) := by decide +kernel
theorem dL_weight_2 : decode cL_weight 2 = .ok (.invokevirtual 58, 3) := by decide +kernel
theorem dL_weight_5 : decode cL_weight 5 = .ok (.ireturn, 1) := by decide +kernel
theorem dL_weight_6 : decode cL_weight 6 = .ok (.astore_n 2, 1) := by decide +kernel
theorem dL_weight_7 : decode cL_weight 7 = .ok (.bipush (-11), 2) := by decide +kernel
theorem dL_weight_9 : decode cL_weight 9 = .ok (.ireturn, 1) := by decide +kernel
theorem dL_weightAgain_0 : decode cL_weightAgain 0 = .ok (.aload_n 0, 1) := by decide +kernel
theorem dL_weightAgain_1 : decode cL_weightAgain 1 = .ok (.iload_n 1, 1) := by decide +kernel
theorem dL_weightAgain_2 : decode cL_weightAgain 2 = .ok (.invokevirtual 61, 3) := by decide +kernel
theorem dL_weightAgain_5 : decode cL_weightAgain 5 = .ok (.ireturn, 1) := by decide +kernel
theorem dL_weightAgain_6 : decode cL_weightAgain 6 = .ok (.astore_n 2, 1) := by decide +kernel
theorem dL_weightAgain_7 : decode cL_weightAgain 7 = .ok (.bipush (-11), 2) := by decide +kernel
theorem dL_weightAgain_9 : decode cL_weightAgain 9 = .ok (.ireturn, 1) := by decide +kernel
theorem dL_border_0 : decode cL_border 0 = .ok (.aload_n 0, 1) := by decide +kernel
theorem dL_border_1 : decode cL_border 1 = .ok (.iload_n 1, 1) := by decide +kernel
theorem dL_border_2 : decode cL_border 2 = .ok (.iload_n 2, 1) := by decide +kernel
theorem dL_border_3 : decode cL_border 3 = .ok (.invokevirtual 64, 3) := by decide +kernel
theorem dL_border_6 : decode cL_border 6 = .ok (.ireturn, 1) := by decide +kernel
theorem dL_border_7 : decode cL_border 7 = .ok (.astore_n 3, 1) := by decide +kernel
theorem dL_border_8 : decode cL_border 8 = .ok (.bipush (-11), 2) := by decide +kernel
theorem dL_border_10 : decode cL_border 10 = .ok (.ireturn, 1) := by decide +kernel
theorem dL_around_0 : decode cL_around 0 = .ok (.aload_n 0, 1) := by decide +kernel
theorem dL_around_1 : decode cL_around 1 = .ok (.iload_n 1, 1) := by decide +kernel
theorem dL_around_2 : decode cL_around 2 = .ok (.invokevirtual 67, 3) := by decide +kernel
theorem dL_around_5 : decode cL_around 5 = .ok (.ireturn, 1) := by decide +kernel
theorem dL_around_6 : decode cL_around 6 = .ok (.astore_n 2, 1) := by decide +kernel
theorem dL_around_7 : decode cL_around 7 = .ok (.bipush (-11), 2) := by decide +kernel
theorem dL_around_9 : decode cL_around 9 = .ok (.ireturn, 1) := by decide +kernel
theorem dL_aroundAgain_0 : decode cL_aroundAgain 0 = .ok (.aload_n 0, 1) := by decide +kernel
theorem dL_aroundAgain_1 : decode cL_aroundAgain 1 = .ok (.iload_n 1, 1) := by decide +kernel
theorem dL_aroundAgain_2 : decode cL_aroundAgain 2 = .ok (.invokevirtual 70, 3) := by decide +kernel
theorem dL_aroundAgain_5 : decode cL_aroundAgain 5 = .ok (.ireturn, 1) := by decide +kernel
theorem dL_aroundAgain_6 : decode cL_aroundAgain 6 = .ok (.astore_n 2, 1) := by decide +kernel
theorem dL_aroundAgain_7 : decode cL_aroundAgain 7 = .ok (.bipush (-11), 2) := by decide +kernel
theorem dL_aroundAgain_9 : decode cL_aroundAgain 9 = .ok (.ireturn, 1) := by decide +kernel
theorem dL_parts_0 : decode cL_parts 0 = .ok (.aload_n 0, 1) := by decide +kernel
theorem dL_parts_1 : decode cL_parts 1 = .ok (.iload_n 1, 1) := by decide +kernel
theorem dL_parts_2 : decode cL_parts 2 = .ok (.invokevirtual 73, 3) := by decide +kernel
theorem dL_parts_5 : decode cL_parts 5 = .ok (.ireturn, 1) := by decide +kernel
theorem dL_parts_6 : decode cL_parts 6 = .ok (.astore_n 2, 1) := by decide +kernel
theorem dL_parts_7 : decode cL_parts 7 = .ok (.bipush (-11), 2) := by decide +kernel
theorem dL_parts_9 : decode cL_parts 9 = .ok (.ireturn, 1) := by decide +kernel
theorem dL_partsAgain_0 : decode cL_partsAgain 0 = .ok (.aload_n 0, 1) := by decide +kernel
theorem dL_partsAgain_1 : decode cL_partsAgain 1 = .ok (.iload_n 1, 1) := by decide +kernel
theorem dL_partsAgain_2 : decode cL_partsAgain 2 = .ok (.invokevirtual 76, 3) := by decide +kernel
theorem dL_partsAgain_5 : decode cL_partsAgain 5 = .ok (.ireturn, 1) := by decide +kernel
theorem dL_partsAgain_6 : decode cL_partsAgain 6 = .ok (.astore_n 2, 1) := by decide +kernel
theorem dL_partsAgain_7 : decode cL_partsAgain 7 = .ok (.bipush (-11), 2) := by decide +kernel
theorem dL_partsAgain_9 : decode cL_partsAgain 9 = .ok (.ireturn, 1) := by decide +kernel
theorem dL_couldShave_0 : decode cL_couldShave 0 = .ok (.aload_n 0, 1) := by decide +kernel
theorem dL_couldShave_1 : decode cL_couldShave 1 = .ok (.iload_n 1, 1) := by decide +kernel
theorem dL_couldShave_2 : decode cL_couldShave 2 = .ok (.iload_n 2, 1) := by decide +kernel
theorem dL_couldShave_3 : decode cL_couldShave 3 = .ok (.invokevirtual 79, 3) := by decide +kernel
theorem dL_couldShave_6 : decode cL_couldShave 6 = .ok (.ifCond .eq 7, 3) := by decide +kernel
theorem dL_couldShave_9 : decode cL_couldShave 9 = .ok (.iconst 1, 1) := by decide +kernel
theorem dL_couldShave_10 : decode cL_couldShave 10 = .ok (.goto 4, 3) := by decide +kernel
theorem dL_couldShave_13 : decode cL_couldShave 13 = .ok (.iconst 0, 1) := by decide +kernel
theorem dL_couldShave_14 : decode cL_couldShave 14 = .ok (.ireturn, 1) := by decide +kernel
theorem dL_couldShave_15 : decode cL_couldShave 15 = .ok (.astore_n 3, 1) := by decide +kernel
theorem dL_couldShave_16 : decode cL_couldShave 16 = .ok (.bipush (-11), 2) := by decide +kernel
theorem dL_couldShave_18 : decode cL_couldShave 18 = .ok (.ireturn, 1) := by decide +kernel
theorem dL_shavable_0 : decode cL_shavable 0 = .ok (.aload_n 0, 1) := by decide +kernel
theorem dL_shavable_1 : decode cL_shavable 1 = .ok (.iload_n 1, 1) := by decide +kernel
theorem dL_shavable_2 : decode cL_shavable 2 = .ok (.invokevirtual 83, 3) := by decide +kernel
theorem dL_shavable_5 : decode cL_shavable 5 = .ok (.ireturn, 1) := by decide +kernel
theorem dL_shavable_6 : decode cL_shavable 6 = .ok (.astore_n 2, 1) := by decide +kernel
theorem dL_shavable_7 : decode cL_shavable 7 = .ok (.bipush (-11), 2) := by decide +kernel
theorem dL_shavable_9 : decode cL_shavable 9 = .ok (.ireturn, 1) := by decide +kernel
theorem dL_lies_0 : decode cL_lies 0 = .ok (.aload_n 0, 1) := by decide +kernel
theorem dL_lies_1 : decode cL_lies 1 = .ok (.iload_n 1, 1) := by decide +kernel
theorem dL_lies_2 : decode cL_lies 2 = .ok (.iload_n 2, 1) := by decide +kernel
theorem dL_lies_3 : decode cL_lies 3 = .ok (.invokevirtual 86, 3) := by decide +kernel
theorem dL_lies_6 : decode cL_lies 6 = .ok (.ireturn, 1) := by decide +kernel
theorem dL_lies_7 : decode cL_lies 7 = .ok (.astore_n 3, 1) := by decide +kernel
theorem dL_lies_8 : decode cL_lies 8 = .ok (.bipush (-12), 2) := by decide +kernel
theorem dL_lies_10 : decode cL_lies 10 = .ok (.ireturn, 1) := by decide +kernel
theorem dL_liesAgain_0 : decode cL_liesAgain 0 = .ok (.aload_n 0, 1) := by decide +kernel
theorem dL_liesAgain_1 : decode cL_liesAgain 1 = .ok (.iload_n 1, 1) := by decide +kernel
theorem dL_liesAgain_2 : decode cL_liesAgain 2 = .ok (.iload_n 2, 1) := by decide +kernel
theorem dL_liesAgain_3 : decode cL_liesAgain 3 = .ok (.invokevirtual 90, 3) := by decide +kernel
theorem dL_liesAgain_6 : decode cL_liesAgain 6 = .ok (.ireturn, 1) := by decide +kernel
theorem dL_liesAgain_7 : decode cL_liesAgain 7 = .ok (.astore_n 3, 1) := by decide +kernel
theorem dL_liesAgain_8 : decode cL_liesAgain 8 = .ok (.bipush (-12), 2) := by decide +kernel
theorem dL_liesAgain_10 : decode cL_liesAgain 10 = .ok (.ireturn, 1) := by decide +kernel
theorem dL_bestScale_0 : decode cL_bestScale 0 = .ok (.aload_n 0, 1) := by decide +kernel
theorem dL_bestScale_1 : decode cL_bestScale 1 = .ok (.invokevirtual 93, 3) := by decide +kernel
theorem dL_bestScale_4 : decode cL_bestScale 4 = .ok (.ireturn, 1) := by decide +kernel
theorem dL_bestScale_5 : decode cL_bestScale 5 = .ok (.astore_n 1, 1) := by decide +kernel
theorem dL_bestScale_6 : decode cL_bestScale 6 = .ok (.bipush (-15), 2) := by decide +kernel
theorem dL_bestScale_8 : decode cL_bestScale 8 = .ok (.ireturn, 1) := by decide +kernel
theorem dL_ranked_0 : decode cL_ranked 0 = .ok (.aload_n 0, 1) := by decide +kernel
theorem dL_ranked_1 : decode cL_ranked 1 = .ok (.iload_n 1, 1) := by decide +kernel
theorem dL_ranked_2 : decode cL_ranked 2 = .ok (.invokevirtual 97, 3) := by decide +kernel
theorem dL_ranked_5 : decode cL_ranked 5 = .ok (.ireturn, 1) := by decide +kernel
theorem dL_ranked_6 : decode cL_ranked 6 = .ok (.astore_n 2, 1) := by decide +kernel
theorem dL_ranked_7 : decode cL_ranked 7 = .ok (.bipush (-15), 2) := by decide +kernel
theorem dL_ranked_9 : decode cL_ranked 9 = .ok (.ireturn, 1) := by decide +kernel
theorem dL_heaviest_0 : decode cL_heaviest 0 = .ok (.aload_n 0, 1) := by decide +kernel
theorem dL_heaviest_1 : decode cL_heaviest 1 = .ok (.iload_n 1, 1) := by decide +kernel
theorem dL_heaviest_2 : decode cL_heaviest 2 = .ok (.invokevirtual 100, 3) := by decide +kernel
theorem dL_heaviest_5 : decode cL_heaviest 5 = .ok (.ireturn, 1) := by decide +kernel
theorem dL_heaviest_6 : decode cL_heaviest 6 = .ok (.astore_n 2, 1) := by decide +kernel
theorem dL_heaviest_7 : decode cL_heaviest 7 = .ok (.bipush (-15), 2) := by decide +kernel
theorem dL_heaviest_9 : decode cL_heaviest 9 = .ok (.ireturn, 1) := by decide +kernel
theorem dL_row_0 : decode cL_row 0 = .ok (.aload_n 0, 1) := by decide +kernel
theorem dL_row_1 : decode cL_row 1 = .ok (.iload_n 1, 1) := by decide +kernel
theorem dL_row_2 : decode cL_row 2 = .ok (.invokevirtual 103, 3) := by decide +kernel
theorem dL_row_5 : decode cL_row 5 = .ok (.ireturn, 1) := by decide +kernel
theorem dL_row_6 : decode cL_row 6 = .ok (.astore_n 2, 1) := by decide +kernel
theorem dL_row_7 : decode cL_row 7 = .ok (.bipush (-11), 2) := by decide +kernel
theorem dL_row_9 : decode cL_row 9 = .ok (.ireturn, 1) := by decide +kernel
theorem dL_tell_0 : decode cL_tell 0 = .ok (.aload_n 0, 1) := by decide +kernel
theorem dL_tell_1 : decode cL_tell 1 = .ok (.iload_n 1, 1) := by decide +kernel
theorem dL_tell_2 : decode cL_tell 2 = .ok (.invokevirtual 106, 3) := by decide +kernel
theorem dL_tell_5 : decode cL_tell 5 = .ok (.ireturn, 1) := by decide +kernel
theorem dL_tell_6 : decode cL_tell 6 = .ok (.astore_n 2, 1) := by decide +kernel
theorem dL_tell_7 : decode cL_tell 7 = .ok (.bipush (-11), 2) := by decide +kernel
theorem dL_tell_9 : decode cL_tell 9 = .ok (.ireturn, 1) := by decide +kernel
theorem dL_character_0 : decode cL_character 0 = .ok (.aload_n 0, 1) := by decide +kernel
theorem dL_character_1 : decode cL_character 1 = .ok (.iload_n 1, 1) := by decide +kernel
theorem dL_character_2 : decode cL_character 2 = .ok (.invokevirtual 109, 3) := by decide +kernel
theorem dL_character_5 : decode cL_character 5 = .ok (.ireturn, 1) := by decide +kernel
theorem dL_character_6 : decode cL_character 6 = .ok (.astore_n 2, 1) := by decide +kernel
theorem dL_character_7 : decode cL_character 7 = .ok (.bipush (-15), 2) := by decide +kernel
theorem dL_character_9 : decode cL_character 9 = .ok (.ireturn, 1) := by decide +kernel
theorem dL_append_0 : decode cL_append 0 = .ok (.aload_n 0, 1) := by decide +kernel
theorem dL_append_1 : decode cL_append 1 = .ok (.iload_n 1, 1) := by decide +kernel
theorem dL_append_2 : decode cL_append 2 = .ok (.invokevirtual 113, 3) := by decide +kernel
theorem dL_append_5 : decode cL_append 5 = .ok (.ireturn, 1) := by decide +kernel
theorem dL_append_6 : decode cL_append 6 = .ok (.astore_n 2, 1) := by decide +kernel
theorem dL_append_7 : decode cL_append 7 = .ok (.bipush (-12), 2) := by decide +kernel
theorem dL_append_9 : decode cL_append 9 = .ok (.ireturn, 1) := by decide +kernel
theorem dL_append_10 : decode cL_append 10 = .ok (.astore_n 2, 1) := by decide +kernel
theorem dL_append_11 : decode cL_append 11 = .ok (.bipush (-13), 2) := by decide +kernel
theorem dL_append_13 : decode cL_append 13 = .ok (.ireturn, 1) := by decide +kernel
theorem dL_reads_0 : decode cL_reads 0 = .ok (.aload_n 0, 1) := by decide +kernel
theorem dL_reads_1 : decode cL_reads 1 = .ok (.invokevirtual 117, 3) := by decide +kernel
theorem dL_reads_4 : decode cL_reads 4 = .ok (.ireturn, 1) := by decide +kernel
theorem dL_reads_5 : decode cL_reads 5 = .ok (.astore_n 1, 1) := by decide +kernel
theorem dL_reads_6 : decode cL_reads 6 = .ok (.iconst (-1), 1) := by decide +kernel
theorem dL_reads_7 : decode cL_reads 7 = .ok (.ireturn, 1) := by decide +kernel
theorem dL_reads_8 : decode cL_reads 8 = .ok (.astore_n 1, 1) := by decide +kernel
theorem dL_reads_9 : decode cL_reads 9 = .ok (.bipush (-2), 2) := by decide +kernel
theorem dL_reads_11 : decode cL_reads 11 = .ok (.ireturn, 1) := by decide +kernel
theorem dL_reads_12 : decode cL_reads 12 = .ok (.astore_n 1, 1) := by decide +kernel
theorem dL_reads_13 : decode cL_reads 13 = .ok (.bipush (-3), 2) := by decide +kernel
theorem dL_reads_15 : decode cL_reads 15 = .ok (.ireturn, 1) := by decide +kernel
theorem dL_reason_0 : decode cL_reason 0 = .ok (.aload_n 0, 1) := by decide +kernel
theorem dL_reason_1 : decode cL_reason 1 = .ok (.iload_n 1, 1) := by decide +kernel
theorem dL_reason_2 : decode cL_reason 2 = .ok (.iload_n 2, 1) := by decide +kernel
theorem dL_reason_3 : decode cL_reason 3 = .ok (.invokevirtual 123, 3) := by decide +kernel
theorem dL_reason_6 : decode cL_reason 6 = .ok (.ireturn, 1) := by decide +kernel
theorem dL_reason_7 : decode cL_reason 7 = .ok (.astore_n 3, 1) := by decide +kernel
theorem dL_reason_8 : decode cL_reason 8 = .ok (.sipush (-1012), 3) := by decide +kernel
theorem dL_reason_11 : decode cL_reason 11 = .ok (.ireturn, 1) := by decide +kernel
theorem dL_reason_12 : decode cL_reason 12 = .ok (.astore_n 3, 1) := by decide +kernel
theorem dL_reason_13 : decode cL_reason 13 = .ok (.sipush (-1015), 3) := by decide +kernel
theorem dL_reason_16 : decode cL_reason 16 = .ok (.ireturn, 1) := by decide +kernel
theorem dL_undo_0 : decode cL_undo 0 = .ok (.aload_n 0, 1) := by decide +kernel
theorem dL_undo_1 : decode cL_undo 1 = .ok (.invokevirtual 127, 3) := by decide +kernel
theorem dL_undo_4 : decode cL_undo 4 = .ok (.ireturn, 1) := by decide +kernel
theorem dL_undo_5 : decode cL_undo 5 = .ok (.astore_n 1, 1) := by decide +kernel
theorem dL_undo_6 : decode cL_undo 6 = .ok (.bipush (-15), 2) := by decide +kernel
theorem dL_undo_8 : decode cL_undo 8 = .ok (.ireturn, 1) := by decide +kernel
theorem dL_types_0 : decode cL_types 0 = .ok (.iconst 1, 1) := by decide +kernel
theorem dL_types_1 : decode cL_types 1 = .ok (.istore_n 2, 1) := by decide +kernel
theorem dL_types_2 : decode cL_types 2 = .ok (.iconst 0, 1) := by decide +kernel
theorem dL_types_3 : decode cL_types 3 = .ok (.istore_n 3, 1) := by decide +kernel
theorem dL_types_4 : decode cL_types 4 = .ok (.iload_n 3, 1) := by decide +kernel
theorem dL_types_5 : decode cL_types 5 = .ok (.aload_n 1, 1) := by decide +kernel
theorem dL_types_6 : decode cL_types 6 = .ok (.invokevirtual 130, 3) := by decide +kernel
theorem dL_types_9 : decode cL_types 9 = .ok (.if_icmp .ge 34, 3) := by decide +kernel
theorem dL_types_12 : decode cL_types 12 = .ok (.aload_n 0, 1) := by decide +kernel
theorem dL_types_13 : decode cL_types 13 = .ok (.aload_n 1, 1) := by decide +kernel
theorem dL_types_14 : decode cL_types 14 = .ok (.iload_n 3, 1) := by decide +kernel
theorem dL_types_15 : decode cL_types 15 = .ok (.invokevirtual 135, 3) := by decide +kernel
theorem dL_types_18 : decode cL_types 18 = .ok (.invokestatic 138, 3) := by decide +kernel
theorem dL_types_21 : decode cL_types 21 = .ok (.iload_n 3, 1) := by decide +kernel
theorem dL_types_22 : decode cL_types 22 = .ok (.iconst 1, 1) := by decide +kernel
theorem dL_types_23 : decode cL_types 23 = .ok (.iadd, 1) := by decide +kernel
theorem dL_types_24 : decode cL_types 24 = .ok (.if_icmp .ne 11, 3) := by decide +kernel
theorem dL_types_27 : decode cL_types 27 = .ok (.iload_n 2, 1) := by decide +kernel
theorem dL_types_28 : decode cL_types 28 = .ok (.ifCond .eq 7, 3) := by decide +kernel
theorem dL_types_31 : decode cL_types 31 = .ok (.iconst 1, 1) := by decide +kernel
theorem dL_types_32 : decode cL_types 32 = .ok (.goto 4, 3) := by decide +kernel
theorem dL_types_35 : decode cL_types 35 = .ok (.iconst 0, 1) := by decide +kernel
theorem dL_types_36 : decode cL_types 36 = .ok (.istore_n 2, 1) := by decide +kernel
theorem dL_types_37 : decode cL_types 37 = .ok (.iinc 3 1, 3) := by decide +kernel
theorem dL_types_40 : decode cL_types 40 = .ok (.goto (-36), 3) := by decide +kernel
theorem dL_types_43 : decode cL_types 43 = .ok (.iload_n 2, 1) := by decide +kernel
theorem dL_types_44 : decode cL_types 44 = .ok (.ireturn, 1) := by decide +kernel
theorem dL_read_0 : decode cL_read 0 = .ok (.aload_n 0, 1) := by decide +kernel
theorem dL_read_1 : decode cL_read 1 = .ok (.aload_n 1, 1) := by decide +kernel
theorem dL_read_2 : decode cL_read 2 = .ok (.invokestatic 143, 3) := by decide +kernel
theorem dL_read_5 : decode cL_read 5 = .ok (.ifCond .eq 10, 3) := by decide +kernel
theorem dL_read_8 : decode cL_read 8 = .ok (.aload_n 0, 1) := by decide +kernel
theorem dL_read_9 : decode cL_read 9 = .ok (.invokestatic 147, 3) := by decide +kernel
theorem dL_read_12 : decode cL_read 12 = .ok (.goto 5, 3) := by decide +kernel
theorem dL_read_15 : decode cL_read 15 = .ok (.bipush (-9), 2) := by decide +kernel
theorem dL_read_17 : decode cL_read 17 = .ok (.ireturn, 1) := by decide +kernel
theorem dL_draws_0 : decode cL_draws 0 = .ok (.aload_n 0, 1) := by decide +kernel
theorem dL_draws_1 : decode cL_draws 1 = .ok (.aload_n 2, 1) := by decide +kernel
theorem dL_draws_2 : decode cL_draws 2 = .ok (.invokestatic 143, 3) := by decide +kernel
theorem dL_draws_5 : decode cL_draws 5 = .ok (.ifCond .eq 12, 3) := by decide +kernel
theorem dL_draws_8 : decode cL_draws 8 = .ok (.aload_n 0, 1) := by decide +kernel
theorem dL_draws_9 : decode cL_draws 9 = .ok (.iload_n 1, 1) := by decide +kernel
theorem dL_draws_10 : decode cL_draws 10 = .ok (.iload_n 3, 1) := by decide +kernel
theorem dL_draws_11 : decode cL_draws 11 = .ok (.invokestatic 151, 3) := by decide +kernel
theorem dL_draws_14 : decode cL_draws 14 = .ok (.goto 5, 3) := by decide +kernel
theorem dL_draws_17 : decode cL_draws 17 = .ok (.bipush (-9), 2) := by decide +kernel
theorem dL_draws_19 : decode cL_draws 19 = .ok (.ireturn, 1) := by decide +kernel
theorem dL_drawn_0 : decode cL_drawn 0 = .ok (.new 9, 3) := by decide +kernel
theorem dL_drawn_3 : decode cL_drawn 3 = .ok (.dup, 1) := by decide +kernel
theorem dL_drawn_4 : decode cL_drawn 4 = .ok (.invokespecial 154, 3) := by decide +kernel
theorem dL_drawn_7 : decode cL_drawn 7 = .ok (.astore_n 1, 1) := by decide +kernel
theorem dL_drawn_8 : decode cL_drawn 8 = .ok (.iconst 0, 1) := by decide +kernel
theorem dL_drawn_9 : decode cL_drawn 9 = .ok (.istore_n 2, 1) := by decide +kernel
theorem dL_drawn_10 : decode cL_drawn 10 = .ok (.iload_n 2, 1) := by decide +kernel
theorem dL_drawn_11 : decode cL_drawn 11 = .ok (.bipush 12, 2) := by decide +kernel
theorem dL_drawn_13 : decode cL_drawn 13 = .ok (.if_icmp .ge 112, 3) := by decide +kernel
theorem dL_drawn_16 : decode cL_drawn 16 = .ok (.aload_n 0, 1) := by decide +kernel
theorem dL_drawn_17 : decode cL_drawn 17 = .ok (.iload_n 2, 1) := by decide +kernel
theorem dL_drawn_18 : decode cL_drawn 18 = .ok (.invokestatic 155, 3) := by decide +kernel
theorem dL_drawn_21 : decode cL_drawn 21 = .ok (.iconst 1, 1) := by decide +kernel
theorem dL_drawn_22 : decode cL_drawn 22 = .ok (.iushr, 1) := by decide +kernel
theorem dL_drawn_23 : decode cL_drawn 23 = .ok (.istore_n 3, 1) := by decide +kernel
theorem dL_drawn_24 : decode cL_drawn 24 = .ok (.iload_n 3, 1) := by decide +kernel
theorem dL_drawn_25 : decode cL_drawn 25 = .ok (.bipush 6, 2) := by decide +kernel
theorem dL_drawn_27 : decode cL_drawn 27 = .ok (.iushr, 1) := by decide +kernel
theorem dL_drawn_28 : decode cL_drawn 28 = .ok (.bipush 8, 2) := by decide +kernel
theorem dL_drawn_30 : decode cL_drawn 30 = .ok (.irem, 1) := by decide +kernel
theorem dL_drawn_31 : decode cL_drawn 31 = .ok (.istore 4, 2) := by decide +kernel
theorem dL_drawn_33 : decode cL_drawn 33 = .ok (.iload_n 3, 1) := by decide +kernel
theorem dL_drawn_34 : decode cL_drawn 34 = .ok (.bipush 9, 2) := by decide +kernel
theorem dL_drawn_36 : decode cL_drawn 36 = .ok (.iushr, 1) := by decide +kernel
theorem dL_drawn_37 : decode cL_drawn 37 = .ok (.bipush 8, 2) := by decide +kernel
theorem dL_drawn_39 : decode cL_drawn 39 = .ok (.irem, 1) := by decide +kernel
theorem dL_drawn_40 : decode cL_drawn 40 = .ok (.istore 5, 2) := by decide +kernel
theorem dL_drawn_42 : decode cL_drawn 42 = .ok (.bipush 7, 2) := by decide +kernel
theorem dL_drawn_44 : decode cL_drawn 44 = .ok (.iload 5, 2) := by decide +kernel
theorem dL_drawn_46 : decode cL_drawn 46 = .ok (.iload_n 3, 1) := by decide +kernel
theorem dL_drawn_47 : decode cL_drawn 47 = .ok (.bipush 12, 2) := by decide +kernel
theorem dL_drawn_49 : decode cL_drawn 49 = .ok (.iushr, 1) := by decide +kernel
theorem dL_drawn_50 : decode cL_drawn 50 = .ok (.iconst 5, 1) := by decide +kernel
theorem dL_drawn_51 : decode cL_drawn 51 = .ok (.irem, 1) := by decide +kernel
theorem dL_drawn_52 : decode cL_drawn 52 = .ok (.iadd, 1) := by decide +kernel
theorem dL_drawn_53 : decode cL_drawn 53 = .ok (.invokestatic 159, 3) := by decide +kernel
theorem dL_drawn_56 : decode cL_drawn 56 = .ok (.istore 6, 2) := by decide +kernel
theorem dL_drawn_58 : decode cL_drawn 58 = .ok (.iload 5, 2) := by decide +kernel
theorem dL_drawn_60 : decode cL_drawn 60 = .ok (.istore 7, 2) := by decide +kernel
theorem dL_drawn_62 : decode cL_drawn 62 = .ok (.iload 7, 2) := by decide +kernel
theorem dL_drawn_64 : decode cL_drawn 64 = .ok (.iload 6, 2) := by decide +kernel
theorem dL_drawn_66 : decode cL_drawn 66 = .ok (.if_icmp .gt 53, 3) := by decide +kernel
theorem dL_drawn_69 : decode cL_drawn 69 = .ok (.aload_n 1, 1) := by decide +kernel
theorem dL_drawn_70 : decode cL_drawn 70 = .ok (.bipush 8, 2) := by decide +kernel
theorem dL_drawn_72 : decode cL_drawn 72 = .ok (.iload 4, 2) := by decide +kernel
theorem dL_drawn_74 : decode cL_drawn 74 = .ok (.imul, 1) := by decide +kernel
theorem dL_drawn_75 : decode cL_drawn 75 = .ok (.iload 7, 2) := by decide +kernel
theorem dL_drawn_77 : decode cL_drawn 77 = .ok (.iadd, 1) := by decide +kernel
theorem dL_drawn_78 : decode cL_drawn 78 = .ok (.iload_n 3, 1) := by decide +kernel
theorem dL_drawn_79 : decode cL_drawn 79 = .ok (.iconst 5, 1) := by decide +kernel
theorem dL_drawn_80 : decode cL_drawn 80 = .ok (.irem, 1) := by decide +kernel
theorem dL_drawn_81 : decode cL_drawn 81 = .ok (.iconst 1, 1) := by decide +kernel
theorem dL_drawn_82 : decode cL_drawn 82 = .ok (.isub, 1) := by decide +kernel
theorem dL_drawn_83 : decode cL_drawn 83 = .ok (.invokestatic 164, 3) := by decide +kernel
theorem dL_drawn_86 : decode cL_drawn 86 = .ok (.istore 8, 2) := by decide +kernel
theorem dL_drawn_88 : decode cL_drawn 88 = .ok (.iload 8, 2) := by decide +kernel
theorem dL_drawn_90 : decode cL_drawn 90 = .ok (.iconst (-1), 1) := by decide +kernel
theorem dL_drawn_91 : decode cL_drawn 91 = .ok (.if_icmp .ge 22, 3) := by decide +kernel
theorem dL_drawn_94 : decode cL_drawn 94 = .ok (.iload 8, 2) := by decide +kernel
theorem dL_drawn_96 : decode cL_drawn 96 = .ok (.bipush (-14), 2) := by decide +kernel
theorem dL_drawn_98 : decode cL_drawn 98 = .ok (.if_icmp .ne 13, 3) := by decide +kernel
theorem dL_drawn_101 : decode cL_drawn 101 = .ok (.aload_n 1, 1) := by decide +kernel
theorem dL_drawn_102 : decode cL_drawn 102 = .ok (.iconst 0, 1) := by decide +kernel
theorem dL_drawn_103 : decode cL_drawn 103 = .ok (.iconst 0, 1) := by decide +kernel
theorem dL_drawn_104 : decode cL_drawn 104 = .ok (.invokestatic 166, 3) := by decide +kernel
theorem dL_drawn_107 : decode cL_drawn 107 = .ok (.iconst 1, 1) := by decide +kernel
theorem dL_drawn_108 : decode cL_drawn 108 = .ok (.if_icmp .eq 5, 3) := by decide +kernel
theorem dL_drawn_111 : decode cL_drawn 111 = .ok (.aconst_null, 1) := by decide +kernel
theorem dL_drawn_112 : decode cL_drawn 112 = .ok (.areturn, 1) := by decide +kernel
theorem dL_drawn_113 : decode cL_drawn 113 = .ok (.iinc 7 1, 3) := by decide +kernel
theorem dL_drawn_116 : decode cL_drawn 116 = .ok (.goto (-54), 3) := by decide +kernel
theorem dL_drawn_119 : decode cL_drawn 119 = .ok (.iinc 2 1, 3) := by decide +kernel
theorem dL_drawn_122 : decode cL_drawn 122 = .ok (.goto (-112), 3) := by decide +kernel
theorem dL_drawn_125 : decode cL_drawn 125 = .ok (.aload_n 0, 1) := by decide +kernel
theorem dL_drawn_126 : decode cL_drawn 126 = .ok (.bipush 12, 2) := by decide +kernel
theorem dL_drawn_128 : decode cL_drawn 128 = .ok (.invokestatic 155, 3) := by decide +kernel
theorem dL_drawn_131 : decode cL_drawn 131 = .ok (.iconst 1, 1) := by decide +kernel
theorem dL_drawn_132 : decode cL_drawn 132 = .ok (.iushr, 1) := by decide +kernel
theorem dL_drawn_133 : decode cL_drawn 133 = .ok (.istore_n 2, 1) := by decide +kernel
theorem dL_drawn_134 : decode cL_drawn 134 = .ok (.iload_n 2, 1) := by decide +kernel
theorem dL_drawn_135 : decode cL_drawn 135 = .ok (.bipush 9, 2) := by decide +kernel
theorem dL_drawn_137 : decode cL_drawn 137 = .ok (.irem, 1) := by decide +kernel
theorem dL_drawn_138 : decode cL_drawn 138 = .ok (.ifCond .le 19, 3) := by decide +kernel
theorem dL_drawn_141 : decode cL_drawn 141 = .ok (.aload_n 1, 1) := by decide +kernel
theorem dL_drawn_142 : decode cL_drawn 142 = .ok (.iconst 1, 1) := by decide +kernel
theorem dL_drawn_143 : decode cL_drawn 143 = .ok (.iload_n 2, 1) := by decide +kernel
theorem dL_drawn_144 : decode cL_drawn 144 = .ok (.bipush 9, 2) := by decide +kernel
theorem dL_drawn_146 : decode cL_drawn 146 = .ok (.irem, 1) := by decide +kernel
theorem dL_drawn_147 : decode cL_drawn 147 = .ok (.iadd, 1) := by decide +kernel
theorem dL_drawn_148 : decode cL_drawn 148 = .ok (.invokestatic 169, 3) := by decide +kernel
theorem dL_drawn_151 : decode cL_drawn 151 = .ok (.iconst 1, 1) := by decide +kernel
theorem dL_drawn_152 : decode cL_drawn 152 = .ok (.if_icmp .eq 5, 3) := by decide +kernel
theorem dL_drawn_155 : decode cL_drawn 155 = .ok (.aconst_null, 1) := by decide +kernel
theorem dL_drawn_156 : decode cL_drawn 156 = .ok (.areturn, 1) := by decide +kernel
theorem dL_drawn_157 : decode cL_drawn 157 = .ok (.iconst 0, 1) := by decide +kernel
theorem dL_drawn_158 : decode cL_drawn 158 = .ok (.istore_n 3, 1) := by decide +kernel
theorem dL_drawn_159 : decode cL_drawn 159 = .ok (.iload_n 3, 1) := by decide +kernel
theorem dL_drawn_160 : decode cL_drawn 160 = .ok (.iconst 3, 1) := by decide +kernel
theorem dL_drawn_161 : decode cL_drawn 161 = .ok (.if_icmp .ge 132, 3) := by decide +kernel
theorem dL_drawn_164 : decode cL_drawn 164 = .ok (.aload_n 0, 1) := by decide +kernel
theorem dL_drawn_165 : decode cL_drawn 165 = .ok (.bipush 13, 2) := by decide +kernel
theorem dL_drawn_167 : decode cL_drawn 167 = .ok (.iload_n 3, 1) := by decide +kernel
theorem dL_drawn_168 : decode cL_drawn 168 = .ok (.iadd, 1) := by decide +kernel
theorem dL_drawn_169 : decode cL_drawn 169 = .ok (.invokestatic 155, 3) := by decide +kernel
theorem dL_drawn_172 : decode cL_drawn 172 = .ok (.iconst 1, 1) := by decide +kernel
theorem dL_drawn_173 : decode cL_drawn 173 = .ok (.iushr, 1) := by decide +kernel
theorem dL_drawn_174 : decode cL_drawn 174 = .ok (.istore 4, 2) := by decide +kernel
theorem dL_drawn_176 : decode cL_drawn 176 = .ok (.ldc 172, 2) := by decide +kernel
theorem dL_drawn_178 : decode cL_drawn 178 = .ok (.astore 5, 2) := by decide +kernel
theorem dL_drawn_180 : decode cL_drawn 180 = .ok (.iconst 1, 1) := by decide +kernel
theorem dL_drawn_181 : decode cL_drawn 181 = .ok (.iload 4, 2) := by decide +kernel
theorem dL_drawn_183 : decode cL_drawn 183 = .ok (.bipush 12, 2) := by decide +kernel
theorem dL_drawn_185 : decode cL_drawn 185 = .ok (.irem, 1) := by decide +kernel
theorem dL_drawn_186 : decode cL_drawn 186 = .ok (.iadd, 1) := by decide +kernel
theorem dL_drawn_187 : decode cL_drawn 187 = .ok (.istore 6, 2) := by decide +kernel
theorem dL_drawn_189 : decode cL_drawn 189 = .ok (.iconst 0, 1) := by decide +kernel
theorem dL_drawn_190 : decode cL_drawn 190 = .ok (.istore 7, 2) := by decide +kernel
theorem dL_drawn_192 : decode cL_drawn 192 = .ok (.iload 7, 2) := by decide +kernel
theorem dL_drawn_194 : decode cL_drawn 194 = .ok (.iload 6, 2) := by decide +kernel
theorem dL_drawn_196 : decode cL_drawn 196 = .ok (.if_icmp .ge 43, 3) := by decide +kernel
theorem dL_drawn_199 : decode cL_drawn 199 = .ok (.new 174, 3) := by decide +kernel
theorem dL_drawn_202 : decode cL_drawn 202 = .ok (.dup, 1) := by decide +kernel
theorem dL_drawn_203 : decode cL_drawn 203 = .ok (.invokespecial 176, 3) := by decide +kernel
theorem dL_drawn_206 : decode cL_drawn 206 = .ok (.aload 5, 2) := by decide +kernel
theorem dL_drawn_208 : decode cL_drawn 208 = .ok (.invokevirtual 177, 3) := by decide +kernel
theorem dL_drawn_211 : decode cL_drawn 211 = .ok (.ldc 180, 2) := by decide +kernel
theorem dL_drawn_213 : decode cL_drawn 213 = .ok (.iload 4, 2) := by decide +kernel
theorem dL_drawn_215 : decode cL_drawn 215 = .ok (.iconst 4, 1) := by decide +kernel
theorem dL_drawn_216 : decode cL_drawn 216 = .ok (.iload 7, 2) := by decide +kernel
theorem dL_drawn_218 : decode cL_drawn 218 = .ok (.iadd, 1) := by decide +kernel
theorem dL_drawn_219 : decode cL_drawn 219 = .ok (.iushr, 1) := by decide +kernel
theorem dL_drawn_220 : decode cL_drawn 220 = .ok (.iconst 4, 1) := by decide +kernel
theorem dL_drawn_221 : decode cL_drawn 221 = .ok (.irem, 1) := by decide +kernel
theorem dL_drawn_222 : decode cL_drawn 222 = .ok (.invokevirtual 135, 3) := by decide +kernel
theorem dL_drawn_225 : decode cL_drawn 225 = .ok (.invokevirtual 182, 3) := by decide +kernel
theorem dL_drawn_228 : decode cL_drawn 228 = .ok (.invokevirtual 185, 3) := by decide +kernel
theorem dL_drawn_231 : decode cL_drawn 231 = .ok (.astore 5, 2) := by decide +kernel
theorem dL_drawn_233 : decode cL_drawn 233 = .ok (.iinc 7 1, 3) := by decide +kernel
theorem dL_drawn_236 : decode cL_drawn 236 = .ok (.goto (-44), 3) := by decide +kernel
theorem dL_drawn_239 : decode cL_drawn 239 = .ok (.aload_n 1, 1) := by decide +kernel
theorem dL_drawn_240 : decode cL_drawn 240 = .ok (.iload 4, 2) := by decide +kernel
theorem dL_drawn_242 : decode cL_drawn 242 = .ok (.iconst 3, 1) := by decide +kernel
theorem dL_drawn_243 : decode cL_drawn 243 = .ok (.iushr, 1) := by decide +kernel
theorem dL_drawn_244 : decode cL_drawn 244 = .ok (.bipush 64, 2) := by decide +kernel
theorem dL_drawn_246 : decode cL_drawn 246 = .ok (.irem, 1) := by decide +kernel
theorem dL_drawn_247 : decode cL_drawn 247 = .ok (.aload 5, 2) := by decide +kernel
theorem dL_drawn_249 : decode cL_drawn 249 = .ok (.iload_n 2, 1) := by decide +kernel
theorem dL_drawn_250 : decode cL_drawn 250 = .ok (.iconst 4, 1) := by decide +kernel
theorem dL_drawn_251 : decode cL_drawn 251 = .ok (.iload_n 3, 1) := by decide +kernel
theorem dL_drawn_252 : decode cL_drawn 252 = .ok (.iadd, 1) := by decide +kernel
theorem dL_drawn_253 : decode cL_drawn 253 = .ok (.iushr, 1) := by decide +kernel
theorem dL_drawn_254 : decode cL_drawn 254 = .ok (.bipush 100, 2) := by decide +kernel
theorem dL_drawn_256 : decode cL_drawn 256 = .ok (.irem, 1) := by decide +kernel
theorem dL_drawn_257 : decode cL_drawn 257 = .ok (.invokestatic 189, 3) := by decide +kernel
theorem dL_drawn_260 : decode cL_drawn 260 = .ok (.istore 7, 2) := by decide +kernel
theorem dL_drawn_262 : decode cL_drawn 262 = .ok (.iload 7, 2) := by decide +kernel
theorem dL_drawn_264 : decode cL_drawn 264 = .ok (.ifCond .ge 23, 3) := by decide +kernel
theorem dL_drawn_267 : decode cL_drawn 267 = .ok (.iload 7, 2) := by decide +kernel
theorem dL_drawn_269 : decode cL_drawn 269 = .ok (.bipush (-14), 2) := by decide +kernel
theorem dL_drawn_271 : decode cL_drawn 271 = .ok (.if_icmp .ne 14, 3) := by decide +kernel
theorem dL_drawn_274 : decode cL_drawn 274 = .ok (.aload_n 1, 1) := by decide +kernel
theorem dL_drawn_275 : decode cL_drawn 275 = .ok (.iconst 0, 1) := by decide +kernel
theorem dL_drawn_276 : decode cL_drawn 276 = .ok (.iconst 0, 1) := by decide +kernel
theorem dL_drawn_277 : decode cL_drawn 277 = .ok (.invokestatic 166, 3) := by decide +kernel
theorem dL_drawn_280 : decode cL_drawn 280 = .ok (.bipush 7, 2) := by decide +kernel
theorem dL_drawn_282 : decode cL_drawn 282 = .ok (.if_icmp .eq 5, 3) := by decide +kernel
theorem dL_drawn_285 : decode cL_drawn 285 = .ok (.aconst_null, 1) := by decide +kernel
theorem dL_drawn_286 : decode cL_drawn 286 = .ok (.areturn, 1) := by decide +kernel
theorem dL_drawn_287 : decode cL_drawn 287 = .ok (.iinc 3 1, 3) := by decide +kernel
theorem dL_drawn_290 : decode cL_drawn 290 = .ok (.goto (-131), 3) := by decide +kernel
theorem dL_drawn_293 : decode cL_drawn 293 = .ok (.iconst 0, 1) := by decide +kernel
theorem dL_drawn_294 : decode cL_drawn 294 = .ok (.istore_n 3, 1) := by decide +kernel
theorem dL_drawn_295 : decode cL_drawn 295 = .ok (.iload_n 3, 1) := by decide +kernel
theorem dL_drawn_296 : decode cL_drawn 296 = .ok (.iconst 5, 1) := by decide +kernel
theorem dL_drawn_297 : decode cL_drawn 297 = .ok (.if_icmp .ge 56, 3) := by decide +kernel
theorem dL_drawn_300 : decode cL_drawn 300 = .ok (.aload_n 0, 1) := by decide +kernel
theorem dL_drawn_301 : decode cL_drawn 301 = .ok (.bipush 16, 2) := by decide +kernel
theorem dL_drawn_303 : decode cL_drawn 303 = .ok (.iload_n 3, 1) := by decide +kernel
theorem dL_drawn_304 : decode cL_drawn 304 = .ok (.iadd, 1) := by decide +kernel
theorem dL_drawn_305 : decode cL_drawn 305 = .ok (.invokestatic 155, 3) := by decide +kernel
theorem dL_drawn_308 : decode cL_drawn 308 = .ok (.iconst 1, 1) := by decide +kernel
theorem dL_drawn_309 : decode cL_drawn 309 = .ok (.iushr, 1) := by decide +kernel
theorem dL_drawn_310 : decode cL_drawn 310 = .ok (.istore 4, 2) := by decide +kernel
theorem dL_drawn_312 : decode cL_drawn 312 = .ok (.aload_n 1, 1) := by decide +kernel
theorem dL_drawn_313 : decode cL_drawn 313 = .ok (.iload 4, 2) := by decide +kernel
theorem dL_drawn_315 : decode cL_drawn 315 = .ok (.bipush 64, 2) := by decide +kernel
theorem dL_drawn_317 : decode cL_drawn 317 = .ok (.irem, 1) := by decide +kernel
theorem dL_drawn_318 : decode cL_drawn 318 = .ok (.iconst 1, 1) := by decide +kernel
theorem dL_drawn_319 : decode cL_drawn 319 = .ok (.iload 4, 2) := by decide +kernel
theorem dL_drawn_321 : decode cL_drawn 321 = .ok (.bipush 6, 2) := by decide +kernel
theorem dL_drawn_323 : decode cL_drawn 323 = .ok (.iushr, 1) := by decide +kernel
theorem dL_drawn_324 : decode cL_drawn 324 = .ok (.bipush 50, 2) := by decide +kernel
theorem dL_drawn_326 : decode cL_drawn 326 = .ok (.irem, 1) := by decide +kernel
theorem dL_drawn_327 : decode cL_drawn 327 = .ok (.iadd, 1) := by decide +kernel
theorem dL_drawn_328 : decode cL_drawn 328 = .ok (.invokestatic 193, 3) := by decide +kernel
theorem dL_drawn_331 : decode cL_drawn 331 = .ok (.istore 5, 2) := by decide +kernel
theorem dL_drawn_333 : decode cL_drawn 333 = .ok (.iload 5, 2) := by decide +kernel
theorem dL_drawn_335 : decode cL_drawn 335 = .ok (.ifCond .ge 12, 3) := by decide +kernel
theorem dL_drawn_338 : decode cL_drawn 338 = .ok (.iload 5, 2) := by decide +kernel
theorem dL_drawn_340 : decode cL_drawn 340 = .ok (.bipush (-14), 2) := by decide +kernel
theorem dL_drawn_342 : decode cL_drawn 342 = .ok (.if_icmp .eq 5, 3) := by decide +kernel
theorem dL_drawn_345 : decode cL_drawn 345 = .ok (.aconst_null, 1) := by decide +kernel
theorem dL_drawn_346 : decode cL_drawn 346 = .ok (.areturn, 1) := by decide +kernel
theorem dL_drawn_347 : decode cL_drawn 347 = .ok (.iinc 3 1, 3) := by decide +kernel
theorem dL_drawn_350 : decode cL_drawn 350 = .ok (.goto (-55), 3) := by decide +kernel
theorem dL_drawn_353 : decode cL_drawn 353 = .ok (.aload_n 1, 1) := by decide +kernel
theorem dL_drawn_354 : decode cL_drawn 354 = .ok (.areturn, 1) := by decide +kernel
theorem dL_cells_0 : decode cL_cells 0 = .ok (.bipush 64, 2) := by decide +kernel
theorem dL_cells_2 : decode cL_cells 2 = .ok (.newarray .int, 2) := by decide +kernel
theorem dL_cells_4 : decode cL_cells 4 = .ok (.astore_n 1, 1) := by decide +kernel
theorem dL_cells_5 : decode cL_cells 5 = .ok (.iconst 0, 1) := by decide +kernel
theorem dL_cells_6 : decode cL_cells 6 = .ok (.istore_n 2, 1) := by decide +kernel
theorem dL_cells_7 : decode cL_cells 7 = .ok (.iload_n 2, 1) := by decide +kernel
theorem dL_cells_8 : decode cL_cells 8 = .ok (.bipush 64, 2) := by decide +kernel
theorem dL_cells_10 : decode cL_cells 10 = .ok (.if_icmp .ge 17, 3) := by decide +kernel
theorem dL_cells_13 : decode cL_cells 13 = .ok (.aload_n 1, 1) := by decide +kernel
theorem dL_cells_14 : decode cL_cells 14 = .ok (.iload_n 2, 1) := by decide +kernel
theorem dL_cells_15 : decode cL_cells 15 = .ok (.aload_n 0, 1) := by decide +kernel
theorem dL_cells_16 : decode cL_cells 16 = .ok (.iload_n 2, 1) := by decide +kernel
theorem dL_cells_17 : decode cL_cells 17 = .ok (.invokestatic 195, 3) := by decide +kernel
theorem dL_cells_20 : decode cL_cells 20 = .ok (.iastore, 1) := by decide +kernel
theorem dL_cells_21 : decode cL_cells 21 = .ok (.iinc 2 1, 3) := by decide +kernel
theorem dL_cells_24 : decode cL_cells 24 = .ok (.goto (-17), 3) := by decide +kernel
theorem dL_cells_27 : decode cL_cells 27 = .ok (.aload_n 1, 1) := by decide +kernel
theorem dL_cells_28 : decode cL_cells 28 = .ok (.areturn, 1) := by decide +kernel
theorem dL_areBeside_0 : decode cL_areBeside 0 = .ok (.iload_n 0, 1) := by decide +kernel
theorem dL_areBeside_1 : decode cL_areBeside 1 = .ok (.bipush 8, 2) := by decide +kernel
theorem dL_areBeside_3 : decode cL_areBeside 3 = .ok (.idiv, 1) := by decide +kernel
theorem dL_areBeside_4 : decode cL_areBeside 4 = .ok (.iload_n 1, 1) := by decide +kernel
theorem dL_areBeside_5 : decode cL_areBeside 5 = .ok (.bipush 8, 2) := by decide +kernel
theorem dL_areBeside_7 : decode cL_areBeside 7 = .ok (.idiv, 1) := by decide +kernel
theorem dL_areBeside_8 : decode cL_areBeside 8 = .ok (.isub, 1) := by decide +kernel
theorem dL_areBeside_9 : decode cL_areBeside 9 = .ok (.invokestatic 197, 3) := by decide +kernel
theorem dL_areBeside_12 : decode cL_areBeside 12 = .ok (.iload_n 0, 1) := by decide +kernel
theorem dL_areBeside_13 : decode cL_areBeside 13 = .ok (.bipush 8, 2) := by decide +kernel
theorem dL_areBeside_15 : decode cL_areBeside 15 = .ok (.irem, 1) := by decide +kernel
theorem dL_areBeside_16 : decode cL_areBeside 16 = .ok (.iload_n 1, 1) := by decide +kernel
theorem dL_areBeside_17 : decode cL_areBeside 17 = .ok (.bipush 8, 2) := by decide +kernel
theorem dL_areBeside_19 : decode cL_areBeside 19 = .ok (.irem, 1) := by decide +kernel
theorem dL_areBeside_20 : decode cL_areBeside 20 = .ok (.isub, 1) := by decide +kernel
theorem dL_areBeside_21 : decode cL_areBeside 21 = .ok (.invokestatic 197, 3) := by decide +kernel
theorem dL_areBeside_24 : decode cL_areBeside 24 = .ok (.iadd, 1) := by decide +kernel
theorem dL_areBeside_25 : decode cL_areBeside 25 = .ok (.iconst 1, 1) := by decide +kernel
theorem dL_areBeside_26 : decode cL_areBeside 26 = .ok (.if_icmp .ne 7, 3) := by decide +kernel
theorem dL_areBeside_29 : decode cL_areBeside 29 = .ok (.iconst 1, 1) := by decide +kernel
theorem dL_areBeside_30 : decode cL_areBeside 30 = .ok (.goto 4, 3) := by decide +kernel
theorem dL_areBeside_33 : decode cL_areBeside 33 = .ok (.iconst 0, 1) := by decide +kernel
theorem dL_areBeside_34 : decode cL_areBeside 34 = .ok (.ireturn, 1) := by decide +kernel
theorem dL_hinders_0 : decode cL_hinders 0 = .ok (.iconst 0, 1) := by decide +kernel
theorem dL_hinders_1 : decode cL_hinders 1 = .ok (.istore_n 3, 1) := by decide +kernel
theorem dL_hinders_2 : decode cL_hinders 2 = .ok (.iconst 0, 1) := by decide +kernel
theorem dL_hinders_3 : decode cL_hinders 3 = .ok (.istore 4, 2) := by decide +kernel
theorem dL_hinders_5 : decode cL_hinders 5 = .ok (.iconst 0, 1) := by decide +kernel
theorem dL_hinders_6 : decode cL_hinders 6 = .ok (.istore 5, 2) := by decide +kernel
theorem dL_hinders_8 : decode cL_hinders 8 = .ok (.iload 5, 2) := by decide +kernel
theorem dL_hinders_10 : decode cL_hinders 10 = .ok (.bipush 64, 2) := by decide +kernel
theorem dL_hinders_12 : decode cL_hinders 12 = .ok (.if_icmp .ge 56, 3) := by decide +kernel
theorem dL_hinders_15 : decode cL_hinders 15 = .ok (.iload_n 3, 1) := by decide +kernel
theorem dL_hinders_16 : decode cL_hinders 16 = .ok (.ifCond .ne 20, 3) := by decide +kernel
theorem dL_hinders_19 : decode cL_hinders 19 = .ok (.iload_n 1, 1) := by decide +kernel
theorem dL_hinders_20 : decode cL_hinders 20 = .ok (.iload 5, 2) := by decide +kernel
theorem dL_hinders_22 : decode cL_hinders 22 = .ok (.invokestatic 200, 3) := by decide +kernel
theorem dL_hinders_25 : decode cL_hinders 25 = .ok (.ifCond .eq 15, 3) := by decide +kernel
theorem dL_hinders_28 : decode cL_hinders 28 = .ok (.aload_n 0, 1) := by decide +kernel
theorem dL_hinders_29 : decode cL_hinders 29 = .ok (.iload 5, 2) := by decide +kernel
theorem dL_hinders_31 : decode cL_hinders 31 = .ok (.iaload, 1) := by decide +kernel
theorem dL_hinders_32 : decode cL_hinders 32 = .ok (.iload_n 2, 1) := by decide +kernel
theorem dL_hinders_33 : decode cL_hinders 33 = .ok (.if_icmp .ne 7, 3) := by decide +kernel
theorem dL_hinders_36 : decode cL_hinders 36 = .ok (.iconst 1, 1) := by decide +kernel
theorem dL_hinders_37 : decode cL_hinders 37 = .ok (.goto 4, 3) := by decide +kernel
theorem dL_hinders_40 : decode cL_hinders 40 = .ok (.iconst 0, 1) := by decide +kernel
theorem dL_hinders_41 : decode cL_hinders 41 = .ok (.istore_n 3, 1) := by decide +kernel
theorem dL_hinders_42 : decode cL_hinders 42 = .ok (.iload 4, 2) := by decide +kernel
theorem dL_hinders_44 : decode cL_hinders 44 = .ok (.aload_n 0, 1) := by decide +kernel
theorem dL_hinders_45 : decode cL_hinders 45 = .ok (.iload 5, 2) := by decide +kernel
theorem dL_hinders_47 : decode cL_hinders 47 = .ok (.iaload, 1) := by decide +kernel
theorem dL_hinders_48 : decode cL_hinders 48 = .ok (.aload_n 0, 1) := by decide +kernel
theorem dL_hinders_49 : decode cL_hinders 49 = .ok (.iload_n 1, 1) := by decide +kernel
theorem dL_hinders_50 : decode cL_hinders 50 = .ok (.iaload, 1) := by decide +kernel
theorem dL_hinders_51 : decode cL_hinders 51 = .ok (.if_icmp .ne 7, 3) := by decide +kernel
theorem dL_hinders_54 : decode cL_hinders 54 = .ok (.iconst 1, 1) := by decide +kernel
theorem dL_hinders_55 : decode cL_hinders 55 = .ok (.goto 4, 3) := by decide +kernel
theorem dL_hinders_58 : decode cL_hinders 58 = .ok (.iconst 0, 1) := by decide +kernel
theorem dL_hinders_59 : decode cL_hinders 59 = .ok (.iadd, 1) := by decide +kernel
theorem dL_hinders_60 : decode cL_hinders 60 = .ok (.istore 4, 2) := by decide +kernel
theorem dL_hinders_62 : decode cL_hinders 62 = .ok (.iinc 5 1, 3) := by decide +kernel
theorem dL_hinders_65 : decode cL_hinders 65 = .ok (.goto (-57), 3) := by decide +kernel
theorem dL_hinders_68 : decode cL_hinders 68 = .ok (.aload_n 0, 1) := by decide +kernel
theorem dL_hinders_69 : decode cL_hinders 69 = .ok (.iload_n 1, 1) := by decide +kernel
theorem dL_hinders_70 : decode cL_hinders 70 = .ok (.iaload, 1) := by decide +kernel
theorem dL_hinders_71 : decode cL_hinders 71 = .ok (.iload_n 2, 1) := by decide +kernel
theorem dL_hinders_72 : decode cL_hinders 72 = .ok (.if_icmp .ne 7, 3) := by decide +kernel
theorem dL_hinders_75 : decode cL_hinders 75 = .ok (.iconst 1, 1) := by decide +kernel
theorem dL_hinders_76 : decode cL_hinders 76 = .ok (.goto 32, 3) := by decide +kernel
theorem dL_hinders_79 : decode cL_hinders 79 = .ok (.aload_n 0, 1) := by decide +kernel
theorem dL_hinders_80 : decode cL_hinders 80 = .ok (.iload_n 1, 1) := by decide +kernel
theorem dL_hinders_81 : decode cL_hinders 81 = .ok (.iaload, 1) := by decide +kernel
theorem dL_hinders_82 : decode cL_hinders 82 = .ok (.ifCond .ge 7, 3) := by decide +kernel
theorem dL_hinders_85 : decode cL_hinders 85 = .ok (.iconst 3, 1) := by decide +kernel
theorem dL_hinders_86 : decode cL_hinders 86 = .ok (.goto 22, 3) := by decide +kernel
theorem dL_hinders_89 : decode cL_hinders 89 = .ok (.iload_n 3, 1) := by decide +kernel
theorem dL_hinders_90 : decode cL_hinders 90 = .ok (.ifCond .ne 7, 3) := by decide +kernel
theorem dL_hinders_93 : decode cL_hinders 93 = .ok (.iconst 4, 1) := by decide +kernel
theorem dL_hinders_94 : decode cL_hinders 94 = .ok (.goto 14, 3) := by decide +kernel
theorem dL_hinders_97 : decode cL_hinders 97 = .ok (.iload 4, 2) := by decide +kernel
theorem dL_hinders_99 : decode cL_hinders 99 = .ok (.iconst 1, 1) := by decide +kernel
theorem dL_hinders_100 : decode cL_hinders 100 = .ok (.if_icmp .ne 7, 3) := by decide +kernel
theorem dL_hinders_103 : decode cL_hinders 103 = .ok (.iconst 5, 1) := by decide +kernel
theorem dL_hinders_104 : decode cL_hinders 104 = .ok (.goto 4, 3) := by decide +kernel
theorem dL_hinders_107 : decode cL_hinders 107 = .ok (.iconst 0, 1) := by decide +kernel
theorem dL_hinders_108 : decode cL_hinders 108 = .ok (.ireturn, 1) := by decide +kernel
theorem dL_law_0 : decode cL_law 0 = .ok (.aload_n 0, 1) := by decide +kernel
theorem dL_law_1 : decode cL_law 1 = .ok (.invokestatic 203, 3) := by decide +kernel
theorem dL_law_4 : decode cL_law 4 = .ok (.astore_n 1, 1) := by decide +kernel
theorem dL_law_5 : decode cL_law 5 = .ok (.aload_n 1, 1) := by decide +kernel
theorem dL_law_6 : decode cL_law 6 = .ok (.ifnull 50, 3) := by decide +kernel
theorem dL_law_9 : decode cL_law 9 = .ok (.aload_n 1, 1) := by decide +kernel
theorem dL_law_10 : decode cL_law 10 = .ok (.invokestatic 207, 3) := by decide +kernel
theorem dL_law_13 : decode cL_law 13 = .ok (.ifCond .eq 43, 3) := by decide +kernel
theorem dL_law_16 : decode cL_law 16 = .ok (.aload_n 1, 1) := by decide +kernel
theorem dL_law_17 : decode cL_law 17 = .ok (.invokestatic 211, 3) := by decide +kernel
theorem dL_law_20 : decode cL_law 20 = .ok (.ifCond .eq 36, 3) := by decide +kernel
theorem dL_law_23 : decode cL_law 23 = .ok (.aload_n 1, 1) := by decide +kernel
theorem dL_law_24 : decode cL_law 24 = .ok (.invokestatic 214, 3) := by decide +kernel
theorem dL_law_27 : decode cL_law 27 = .ok (.ifCond .eq 29, 3) := by decide +kernel
theorem dL_law_30 : decode cL_law 30 = .ok (.aload_n 1, 1) := by decide +kernel
theorem dL_law_31 : decode cL_law 31 = .ok (.invokestatic 217, 3) := by decide +kernel
theorem dL_law_34 : decode cL_law 34 = .ok (.ifCond .eq 22, 3) := by decide +kernel
theorem dL_law_37 : decode cL_law 37 = .ok (.aload_n 1, 1) := by decide +kernel
theorem dL_law_38 : decode cL_law 38 = .ok (.invokestatic 220, 3) := by decide +kernel
theorem dL_law_41 : decode cL_law 41 = .ok (.ifCond .eq 15, 3) := by decide +kernel
theorem dL_law_44 : decode cL_law 44 = .ok (.aload_n 0, 1) := by decide +kernel
theorem dL_law_45 : decode cL_law 45 = .ok (.aload_n 1, 1) := by decide +kernel
theorem dL_law_46 : decode cL_law 46 = .ok (.invokestatic 223, 3) := by decide +kernel
theorem dL_law_49 : decode cL_law 49 = .ok (.ifCond .eq 7, 3) := by decide +kernel
theorem dL_law_52 : decode cL_law 52 = .ok (.iconst 1, 1) := by decide +kernel
theorem dL_law_53 : decode cL_law 53 = .ok (.goto 4, 3) := by decide +kernel
theorem dL_law_56 : decode cL_law 56 = .ok (.iconst 0, 1) := by decide +kernel
theorem dL_law_57 : decode cL_law 57 = .ok (.ireturn, 1) := by decide +kernel
theorem dL_realms_0 : decode cL_realms 0 = .ok (.aload_n 0, 1) := by decide +kernel
theorem dL_realms_1 : decode cL_realms 1 = .ok (.invokestatic 227, 3) := by decide +kernel
theorem dL_realms_4 : decode cL_realms 4 = .ok (.astore_n 1, 1) := by decide +kernel
theorem dL_realms_5 : decode cL_realms 5 = .ok (.iconst 0, 1) := by decide +kernel
theorem dL_realms_6 : decode cL_realms 6 = .ok (.istore_n 2, 1) := by decide +kernel
theorem dL_realms_7 : decode cL_realms 7 = .ok (.iconst 0, 1) := by decide +kernel
theorem dL_realms_8 : decode cL_realms 8 = .ok (.istore_n 3, 1) := by decide +kernel
theorem dL_realms_9 : decode cL_realms 9 = .ok (.iload_n 3, 1) := by decide +kernel
theorem dL_realms_10 : decode cL_realms 10 = .ok (.iconst 4, 1) := by decide +kernel
theorem dL_realms_11 : decode cL_realms 11 = .ok (.if_icmp .ge 381, 3) := by decide +kernel
theorem dL_realms_14 : decode cL_realms 14 = .ok (.iconst 0, 1) := by decide +kernel
theorem dL_realms_15 : decode cL_realms 15 = .ok (.istore 4, 2) := by decide +kernel
theorem dL_realms_17 : decode cL_realms 17 = .ok (.iconst 0, 1) := by decide +kernel
theorem dL_realms_18 : decode cL_realms 18 = .ok (.istore 5, 2) := by decide +kernel
theorem dL_realms_20 : decode cL_realms 20 = .ok (.iconst 0, 1) := by decide +kernel
theorem dL_realms_21 : decode cL_realms 21 = .ok (.istore 6, 2) := by decide +kernel
theorem dL_realms_23 : decode cL_realms 23 = .ok (.iconst 4, 1) := by decide +kernel
theorem dL_realms_24 : decode cL_realms 24 = .ok (.newarray .int, 2) := by decide +kernel
theorem dL_realms_26 : decode cL_realms 26 = .ok (.astore 7, 2) := by decide +kernel
theorem dL_realms_28 : decode cL_realms 28 = .ok (.iconst 0, 1) := by decide +kernel
theorem dL_realms_29 : decode cL_realms 29 = .ok (.istore 8, 2) := by decide +kernel
theorem dL_realms_31 : decode cL_realms 31 = .ok (.iload 8, 2) := by decide +kernel
theorem dL_realms_33 : decode cL_realms 33 = .ok (.bipush 64, 2) := by decide +kernel
theorem dL_realms_35 : decode cL_realms 35 = .ok (.if_icmp .ge 184, 3) := by decide +kernel
theorem dL_realms_38 : decode cL_realms 38 = .ok (.iconst 0, 1) := by decide +kernel
theorem dL_realms_39 : decode cL_realms 39 = .ok (.istore 9, 2) := by decide +kernel
theorem dL_realms_41 : decode cL_realms 41 = .ok (.iconst 0, 1) := by decide +kernel
theorem dL_realms_42 : decode cL_realms 42 = .ok (.istore 10, 2) := by decide +kernel
theorem dL_realms_44 : decode cL_realms 44 = .ok (.iload 10, 2) := by decide +kernel
theorem dL_realms_46 : decode cL_realms 46 = .ok (.bipush 64, 2) := by decide +kernel
theorem dL_realms_48 : decode cL_realms 48 = .ok (.if_icmp .ge 80, 3) := by decide +kernel
theorem dL_realms_51 : decode cL_realms 51 = .ok (.aload_n 1, 1) := by decide +kernel
theorem dL_realms_52 : decode cL_realms 52 = .ok (.iload 8, 2) := by decide +kernel
theorem dL_realms_54 : decode cL_realms 54 = .ok (.iaload, 1) := by decide +kernel
theorem dL_realms_55 : decode cL_realms 55 = .ok (.iload_n 3, 1) := by decide +kernel
theorem dL_realms_56 : decode cL_realms 56 = .ok (.if_icmp .ne 17, 3) := by decide +kernel
theorem dL_realms_59 : decode cL_realms 59 = .ok (.iload 8, 2) := by decide +kernel
theorem dL_realms_61 : decode cL_realms 61 = .ok (.iload 10, 2) := by decide +kernel
theorem dL_realms_63 : decode cL_realms 63 = .ok (.invokestatic 200, 3) := by decide +kernel
theorem dL_realms_66 : decode cL_realms 66 = .ok (.ifCond .eq 7, 3) := by decide +kernel
theorem dL_realms_69 : decode cL_realms 69 = .ok (.iconst 1, 1) := by decide +kernel
theorem dL_realms_70 : decode cL_realms 70 = .ok (.goto 4, 3) := by decide +kernel
theorem dL_realms_73 : decode cL_realms 73 = .ok (.iconst 0, 1) := by decide +kernel
theorem dL_realms_74 : decode cL_realms 74 = .ok (.istore 11, 2) := by decide +kernel
theorem dL_realms_76 : decode cL_realms 76 = .ok (.iload 9, 2) := by decide +kernel
theorem dL_realms_78 : decode cL_realms 78 = .ok (.iload 11, 2) := by decide +kernel
theorem dL_realms_80 : decode cL_realms 80 = .ok (.ifCond .eq 15, 3) := by decide +kernel
theorem dL_realms_83 : decode cL_realms 83 = .ok (.aload_n 1, 1) := by decide +kernel
theorem dL_realms_84 : decode cL_realms 84 = .ok (.iload 10, 2) := by decide +kernel
theorem dL_realms_86 : decode cL_realms 86 = .ok (.iaload, 1) := by decide +kernel
theorem dL_realms_87 : decode cL_realms 87 = .ok (.iload_n 3, 1) := by decide +kernel
theorem dL_realms_88 : decode cL_realms 88 = .ok (.if_icmp .ne 7, 3) := by decide +kernel
theorem dL_realms_91 : decode cL_realms 91 = .ok (.iconst 1, 1) := by decide +kernel
theorem dL_realms_92 : decode cL_realms 92 = .ok (.goto 4, 3) := by decide +kernel
theorem dL_realms_95 : decode cL_realms 95 = .ok (.iconst 0, 1) := by decide +kernel
theorem dL_realms_96 : decode cL_realms 96 = .ok (.iadd, 1) := by decide +kernel
theorem dL_realms_97 : decode cL_realms 97 = .ok (.istore 9, 2) := by decide +kernel
theorem dL_realms_99 : decode cL_realms 99 = .ok (.iload 11, 2) := by decide +kernel
theorem dL_realms_101 : decode cL_realms 101 = .ok (.ifCond .eq 21, 3) := by decide +kernel
theorem dL_realms_104 : decode cL_realms 104 = .ok (.aload_n 1, 1) := by decide +kernel
theorem dL_realms_105 : decode cL_realms 105 = .ok (.iload 10, 2) := by decide +kernel
theorem dL_realms_107 : decode cL_realms 107 = .ok (.iaload, 1) := by decide +kernel
theorem dL_realms_108 : decode cL_realms 108 = .ok (.ifCond .lt 14, 3) := by decide +kernel
theorem dL_realms_111 : decode cL_realms 111 = .ok (.aload 7, 2) := by decide +kernel
theorem dL_realms_113 : decode cL_realms 113 = .ok (.aload_n 1, 1) := by decide +kernel
theorem dL_realms_114 : decode cL_realms 114 = .ok (.iload 10, 2) := by decide +kernel
theorem dL_realms_116 : decode cL_realms 116 = .ok (.iaload, 1) := by decide +kernel
theorem dL_realms_117 : decode cL_realms 117 = .ok (.dup2, 1) := by decide +kernel
theorem dL_realms_118 : decode cL_realms 118 = .ok (.iaload, 1) := by decide +kernel
theorem dL_realms_119 : decode cL_realms 119 = .ok (.iconst 1, 1) := by decide +kernel
theorem dL_realms_120 : decode cL_realms 120 = .ok (.iadd, 1) := by decide +kernel
theorem dL_realms_121 : decode cL_realms 121 = .ok (.iastore, 1) := by decide +kernel
theorem dL_realms_122 : decode cL_realms 122 = .ok (.iinc 10 1, 3) := by decide +kernel
theorem dL_realms_125 : decode cL_realms 125 = .ok (.goto (-81), 3) := by decide +kernel
theorem dL_realms_128 : decode cL_realms 128 = .ok (.iload 4, 2) := by decide +kernel
theorem dL_realms_130 : decode cL_realms 130 = .ok (.aload_n 1, 1) := by decide +kernel
theorem dL_realms_131 : decode cL_realms 131 = .ok (.iload 8, 2) := by decide +kernel
theorem dL_realms_133 : decode cL_realms 133 = .ok (.iaload, 1) := by decide +kernel
theorem dL_realms_134 : decode cL_realms 134 = .ok (.iload_n 3, 1) := by decide +kernel
theorem dL_realms_135 : decode cL_realms 135 = .ok (.if_icmp .ne 7, 3) := by decide +kernel
theorem dL_realms_138 : decode cL_realms 138 = .ok (.iconst 1, 1) := by decide +kernel
theorem dL_realms_139 : decode cL_realms 139 = .ok (.goto 4, 3) := by decide +kernel
theorem dL_realms_142 : decode cL_realms 142 = .ok (.iconst 0, 1) := by decide +kernel
theorem dL_realms_143 : decode cL_realms 143 = .ok (.iadd, 1) := by decide +kernel
theorem dL_realms_144 : decode cL_realms 144 = .ok (.istore 4, 2) := by decide +kernel
theorem dL_realms_146 : decode cL_realms 146 = .ok (.iload 5, 2) := by decide +kernel
theorem dL_realms_148 : decode cL_realms 148 = .ok (.aload_n 1, 1) := by decide +kernel
theorem dL_realms_149 : decode cL_realms 149 = .ok (.iload 8, 2) := by decide +kernel
theorem dL_realms_151 : decode cL_realms 151 = .ok (.iaload, 1) := by decide +kernel
theorem dL_realms_152 : decode cL_realms 152 = .ok (.iload_n 3, 1) := by decide +kernel
theorem dL_realms_153 : decode cL_realms 153 = .ok (.if_icmp .ne 10, 3) := by decide +kernel
theorem dL_realms_156 : decode cL_realms 156 = .ok (.iconst 4, 1) := by decide +kernel
theorem dL_realms_157 : decode cL_realms 157 = .ok (.iload 9, 2) := by decide +kernel
theorem dL_realms_159 : decode cL_realms 159 = .ok (.isub, 1) := by decide +kernel
theorem dL_realms_160 : decode cL_realms 160 = .ok (.goto 4, 3) := by decide +kernel
theorem dL_realms_163 : decode cL_realms 163 = .ok (.iconst 0, 1) := by decide +kernel
theorem dL_realms_164 : decode cL_realms 164 = .ok (.iadd, 1) := by decide +kernel
theorem dL_realms_165 : decode cL_realms 165 = .ok (.istore 5, 2) := by decide +kernel
theorem dL_realms_167 : decode cL_realms 167 = .ok (.aload_n 1, 1) := by decide +kernel
theorem dL_realms_168 : decode cL_realms 168 = .ok (.iload 8, 2) := by decide +kernel
theorem dL_realms_170 : decode cL_realms 170 = .ok (.iload_n 3, 1) := by decide +kernel
theorem dL_realms_171 : decode cL_realms 171 = .ok (.invokestatic 231, 3) := by decide +kernel
theorem dL_realms_174 : decode cL_realms 174 = .ok (.istore 10, 2) := by decide +kernel
theorem dL_realms_176 : decode cL_realms 176 = .ok (.iload 6, 2) := by decide +kernel
theorem dL_realms_178 : decode cL_realms 178 = .ok (.iload 10, 2) := by decide +kernel
theorem dL_realms_180 : decode cL_realms 180 = .ok (.ifCond .ne 7, 3) := by decide +kernel
theorem dL_realms_183 : decode cL_realms 183 = .ok (.iconst 1, 1) := by decide +kernel
theorem dL_realms_184 : decode cL_realms 184 = .ok (.goto 4, 3) := by decide +kernel
theorem dL_realms_187 : decode cL_realms 187 = .ok (.iconst 0, 1) := by decide +kernel
theorem dL_realms_188 : decode cL_realms 188 = .ok (.iadd, 1) := by decide +kernel
theorem dL_realms_189 : decode cL_realms 189 = .ok (.istore 6, 2) := by decide +kernel
theorem dL_realms_191 : decode cL_realms 191 = .ok (.aload_n 0, 1) := by decide +kernel
theorem dL_realms_192 : decode cL_realms 192 = .ok (.iload 8, 2) := by decide +kernel
theorem dL_realms_194 : decode cL_realms 194 = .ok (.iload_n 3, 1) := by decide +kernel
theorem dL_realms_195 : decode cL_realms 195 = .ok (.invokestatic 235, 3) := by decide +kernel
theorem dL_realms_198 : decode cL_realms 198 = .ok (.iload 10, 2) := by decide +kernel
theorem dL_realms_200 : decode cL_realms 200 = .ok (.ifCond .ne 7, 3) := by decide +kernel
theorem dL_realms_203 : decode cL_realms 203 = .ok (.iconst 1, 1) := by decide +kernel
theorem dL_realms_204 : decode cL_realms 204 = .ok (.goto 4, 3) := by decide +kernel
theorem dL_realms_207 : decode cL_realms 207 = .ok (.iconst 0, 1) := by decide +kernel
theorem dL_realms_208 : decode cL_realms 208 = .ok (.if_icmp .eq 5, 3) := by decide +kernel
theorem dL_realms_211 : decode cL_realms 211 = .ok (.iconst 0, 1) := by decide +kernel
theorem dL_realms_212 : decode cL_realms 212 = .ok (.ireturn, 1) := by decide +kernel
theorem dL_realms_213 : decode cL_realms 213 = .ok (.iinc 8 1, 3) := by decide +kernel
theorem dL_realms_216 : decode cL_realms 216 = .ok (.goto (-185), 3) := by decide +kernel
theorem dL_realms_219 : decode cL_realms 219 = .ok (.iload_n 2, 1) := by decide +kernel
theorem dL_realms_220 : decode cL_realms 220 = .ok (.iload 4, 2) := by decide +kernel
theorem dL_realms_222 : decode cL_realms 222 = .ok (.iadd, 1) := by decide +kernel
theorem dL_realms_223 : decode cL_realms 223 = .ok (.istore_n 2, 1) := by decide +kernel
theorem dL_realms_224 : decode cL_realms 224 = .ok (.aload_n 0, 1) := by decide +kernel
theorem dL_realms_225 : decode cL_realms 225 = .ok (.iload_n 3, 1) := by decide +kernel
theorem dL_realms_226 : decode cL_realms 226 = .ok (.iconst 0, 1) := by decide +kernel
theorem dL_realms_227 : decode cL_realms 227 = .ok (.invokestatic 237, 3) := by decide +kernel
theorem dL_realms_230 : decode cL_realms 230 = .ok (.iload 4, 2) := by decide +kernel
theorem dL_realms_232 : decode cL_realms 232 = .ok (.if_icmp .ne 75, 3) := by decide +kernel
theorem dL_realms_235 : decode cL_realms 235 = .ok (.aload_n 0, 1) := by decide +kernel
theorem dL_realms_236 : decode cL_realms 236 = .ok (.iload_n 3, 1) := by decide +kernel
theorem dL_realms_237 : decode cL_realms 237 = .ok (.invokestatic 239, 3) := by decide +kernel
theorem dL_realms_240 : decode cL_realms 240 = .ok (.iload 5, 2) := by decide +kernel
theorem dL_realms_242 : decode cL_realms 242 = .ok (.if_icmp .ne 65, 3) := by decide +kernel
theorem dL_realms_245 : decode cL_realms 245 = .ok (.aload_n 0, 1) := by decide +kernel
theorem dL_realms_246 : decode cL_realms 246 = .ok (.iload_n 3, 1) := by decide +kernel
theorem dL_realms_247 : decode cL_realms 247 = .ok (.invokestatic 241, 3) := by decide +kernel
theorem dL_realms_250 : decode cL_realms 250 = .ok (.iload 5, 2) := by decide +kernel
theorem dL_realms_252 : decode cL_realms 252 = .ok (.if_icmp .ne 55, 3) := by decide +kernel
theorem dL_realms_255 : decode cL_realms 255 = .ok (.aload_n 0, 1) := by decide +kernel
theorem dL_realms_256 : decode cL_realms 256 = .ok (.iload_n 3, 1) := by decide +kernel
theorem dL_realms_257 : decode cL_realms 257 = .ok (.invokestatic 243, 3) := by decide +kernel
theorem dL_realms_260 : decode cL_realms 260 = .ok (.iload 6, 2) := by decide +kernel
theorem dL_realms_262 : decode cL_realms 262 = .ok (.if_icmp .ne 45, 3) := by decide +kernel
theorem dL_realms_265 : decode cL_realms 265 = .ok (.aload_n 0, 1) := by decide +kernel
theorem dL_realms_266 : decode cL_realms 266 = .ok (.iload_n 3, 1) := by decide +kernel
theorem dL_realms_267 : decode cL_realms 267 = .ok (.invokestatic 245, 3) := by decide +kernel
theorem dL_realms_270 : decode cL_realms 270 = .ok (.aload_n 1, 1) := by decide +kernel
theorem dL_realms_271 : decode cL_realms 271 = .ok (.iload_n 3, 1) := by decide +kernel
theorem dL_realms_272 : decode cL_realms 272 = .ok (.invokestatic 247, 3) := by decide +kernel
theorem dL_realms_275 : decode cL_realms 275 = .ok (.if_icmp .ne 32, 3) := by decide +kernel
theorem dL_realms_278 : decode cL_realms 278 = .ok (.aload_n 0, 1) := by decide +kernel
theorem dL_realms_279 : decode cL_realms 279 = .ok (.iload_n 3, 1) := by decide +kernel
theorem dL_realms_280 : decode cL_realms 280 = .ok (.invokestatic 249, 3) := by decide +kernel
theorem dL_realms_283 : decode cL_realms 283 = .ok (.aload_n 1, 1) := by decide +kernel
theorem dL_realms_284 : decode cL_realms 284 = .ok (.iload_n 3, 1) := by decide +kernel
theorem dL_realms_285 : decode cL_realms 285 = .ok (.invokestatic 247, 3) := by decide +kernel
theorem dL_realms_288 : decode cL_realms 288 = .ok (.if_icmp .ne 19, 3) := by decide +kernel
theorem dL_realms_291 : decode cL_realms 291 = .ok (.aload_n 0, 1) := by decide +kernel
theorem dL_realms_292 : decode cL_realms 292 = .ok (.iload_n 3, 1) := by decide +kernel
theorem dL_realms_293 : decode cL_realms 293 = .ok (.bipush 6, 2) := by decide +kernel
theorem dL_realms_295 : decode cL_realms 295 = .ok (.invokestatic 237, 3) := by decide +kernel
theorem dL_realms_298 : decode cL_realms 298 = .ok (.bipush (-12), 2) := by decide +kernel
theorem dL_realms_300 : decode cL_realms 300 = .ok (.if_icmp .ne 7, 3) := by decide +kernel
theorem dL_realms_303 : decode cL_realms 303 = .ok (.iconst 1, 1) := by decide +kernel
theorem dL_realms_304 : decode cL_realms 304 = .ok (.goto 4, 3) := by decide +kernel
theorem dL_realms_307 : decode cL_realms 307 = .ok (.iconst 0, 1) := by decide +kernel
theorem dL_realms_308 : decode cL_realms 308 = .ok (.istore 8, 2) := by decide +kernel
theorem dL_realms_310 : decode cL_realms 310 = .ok (.iconst 0, 1) := by decide +kernel
theorem dL_realms_311 : decode cL_realms 311 = .ok (.istore 9, 2) := by decide +kernel
theorem dL_realms_313 : decode cL_realms 313 = .ok (.iload 9, 2) := by decide +kernel
theorem dL_realms_315 : decode cL_realms 315 = .ok (.iconst 4, 1) := by decide +kernel
theorem dL_realms_316 : decode cL_realms 316 = .ok (.if_icmp .ge 63, 3) := by decide +kernel
theorem dL_realms_319 : decode cL_realms 319 = .ok (.iload 8, 2) := by decide +kernel
theorem dL_realms_321 : decode cL_realms 321 = .ok (.ifCond .eq 49, 3) := by decide +kernel
theorem dL_realms_324 : decode cL_realms 324 = .ok (.aload_n 0, 1) := by decide +kernel
theorem dL_realms_325 : decode cL_realms 325 = .ok (.iload_n 3, 1) := by decide +kernel
theorem dL_realms_326 : decode cL_realms 326 = .ok (.iload 9, 2) := by decide +kernel
theorem dL_realms_328 : decode cL_realms 328 = .ok (.invokestatic 251, 3) := by decide +kernel
theorem dL_realms_331 : decode cL_realms 331 = .ok (.iload 9, 2) := by decide +kernel
theorem dL_realms_333 : decode cL_realms 333 = .ok (.iload_n 3, 1) := by decide +kernel
theorem dL_realms_334 : decode cL_realms 334 = .ok (.if_icmp .ne 7, 3) := by decide +kernel
theorem dL_realms_337 : decode cL_realms 337 = .ok (.iconst 0, 1) := by decide +kernel
theorem dL_realms_338 : decode cL_realms 338 = .ok (.goto 8, 3) := by decide +kernel
theorem dL_realms_341 : decode cL_realms 341 = .ok (.aload 7, 2) := by decide +kernel
theorem dL_realms_343 : decode cL_realms 343 = .ok (.iload 9, 2) := by decide +kernel
theorem dL_realms_345 : decode cL_realms 345 = .ok (.iaload, 1) := by decide +kernel
theorem dL_realms_346 : decode cL_realms 346 = .ok (.if_icmp .ne 24, 3) := by decide +kernel
theorem dL_realms_349 : decode cL_realms 349 = .ok (.aload_n 0, 1) := by decide +kernel
theorem dL_realms_350 : decode cL_realms 350 = .ok (.iload 9, 2) := by decide +kernel
theorem dL_realms_352 : decode cL_realms 352 = .ok (.iload_n 3, 1) := by decide +kernel
theorem dL_realms_353 : decode cL_realms 353 = .ok (.invokestatic 251, 3) := by decide +kernel
theorem dL_realms_356 : decode cL_realms 356 = .ok (.aload_n 0, 1) := by decide +kernel
theorem dL_realms_357 : decode cL_realms 357 = .ok (.iload_n 3, 1) := by decide +kernel
theorem dL_realms_358 : decode cL_realms 358 = .ok (.iload 9, 2) := by decide +kernel
theorem dL_realms_360 : decode cL_realms 360 = .ok (.invokestatic 251, 3) := by decide +kernel
theorem dL_realms_363 : decode cL_realms 363 = .ok (.if_icmp .ne 7, 3) := by decide +kernel
theorem dL_realms_366 : decode cL_realms 366 = .ok (.iconst 1, 1) := by decide +kernel
theorem dL_realms_367 : decode cL_realms 367 = .ok (.goto 4, 3) := by decide +kernel
theorem dL_realms_370 : decode cL_realms 370 = .ok (.iconst 0, 1) := by decide +kernel
theorem dL_realms_371 : decode cL_realms 371 = .ok (.istore 8, 2) := by decide +kernel
theorem dL_realms_373 : decode cL_realms 373 = .ok (.iinc 9 1, 3) := by decide +kernel
theorem dL_realms_376 : decode cL_realms 376 = .ok (.goto (-63), 3) := by decide +kernel
theorem dL_realms_379 : decode cL_realms 379 = .ok (.iload 8, 2) := by decide +kernel
theorem dL_realms_381 : decode cL_realms 381 = .ok (.ifCond .ne 5, 3) := by decide +kernel
theorem dL_realms_384 : decode cL_realms 384 = .ok (.iconst 0, 1) := by decide +kernel
theorem dL_realms_385 : decode cL_realms 385 = .ok (.ireturn, 1) := by decide +kernel
theorem dL_realms_386 : decode cL_realms 386 = .ok (.iinc 3 1, 3) := by decide +kernel
theorem dL_realms_389 : decode cL_realms 389 = .ok (.goto (-380), 3) := by decide +kernel
theorem dL_realms_392 : decode cL_realms 392 = .ok (.iconst (-1), 1) := by decide +kernel
theorem dL_realms_393 : decode cL_realms 393 = .ok (.istore_n 3, 1) := by decide +kernel
theorem dL_realms_394 : decode cL_realms 394 = .ok (.iconst 0, 1) := by decide +kernel
theorem dL_realms_395 : decode cL_realms 395 = .ok (.istore 4, 2) := by decide +kernel
theorem dL_realms_397 : decode cL_realms 397 = .ok (.iload 4, 2) := by decide +kernel
theorem dL_realms_399 : decode cL_realms 399 = .ok (.iconst 4, 1) := by decide +kernel
theorem dL_realms_400 : decode cL_realms 400 = .ok (.if_icmp .ge 97, 3) := by decide +kernel
theorem dL_realms_403 : decode cL_realms 403 = .ok (.aload_n 0, 1) := by decide +kernel
theorem dL_realms_404 : decode cL_realms 404 = .ok (.iload 4, 2) := by decide +kernel
theorem dL_realms_406 : decode cL_realms 406 = .ok (.invokestatic 253, 3) := by decide +kernel
theorem dL_realms_409 : decode cL_realms 409 = .ok (.istore 5, 2) := by decide +kernel
theorem dL_realms_411 : decode cL_realms 411 = .ok (.iload 5, 2) := by decide +kernel
theorem dL_realms_413 : decode cL_realms 413 = .ok (.ifCond .ge 7, 3) := by decide +kernel
theorem dL_realms_416 : decode cL_realms 416 = .ok (.iconst (-1), 1) := by decide +kernel
theorem dL_realms_417 : decode cL_realms 417 = .ok (.goto 25, 3) := by decide +kernel
theorem dL_realms_420 : decode cL_realms 420 = .ok (.iload_n 3, 1) := by decide +kernel
theorem dL_realms_421 : decode cL_realms 421 = .ok (.ifCond .ge 7, 3) := by decide +kernel
theorem dL_realms_424 : decode cL_realms 424 = .ok (.iconst 1, 1) := by decide +kernel
theorem dL_realms_425 : decode cL_realms 425 = .ok (.goto 17, 3) := by decide +kernel
theorem dL_realms_428 : decode cL_realms 428 = .ok (.aload_n 0, 1) := by decide +kernel
theorem dL_realms_429 : decode cL_realms 429 = .ok (.iload_n 3, 1) := by decide +kernel
theorem dL_realms_430 : decode cL_realms 430 = .ok (.iconst 0, 1) := by decide +kernel
theorem dL_realms_431 : decode cL_realms 431 = .ok (.invokestatic 237, 3) := by decide +kernel
theorem dL_realms_434 : decode cL_realms 434 = .ok (.aload_n 0, 1) := by decide +kernel
theorem dL_realms_435 : decode cL_realms 435 = .ok (.iload 5, 2) := by decide +kernel
theorem dL_realms_437 : decode cL_realms 437 = .ok (.iconst 0, 1) := by decide +kernel
theorem dL_realms_438 : decode cL_realms 438 = .ok (.invokestatic 237, 3) := by decide +kernel
theorem dL_realms_441 : decode cL_realms 441 = .ok (.isub, 1) := by decide +kernel
theorem dL_realms_442 : decode cL_realms 442 = .ok (.istore 6, 2) := by decide +kernel
theorem dL_realms_444 : decode cL_realms 444 = .ok (.iload 6, 2) := by decide +kernel
theorem dL_realms_446 : decode cL_realms 446 = .ok (.ifCond .eq 8, 3) := by decide +kernel
theorem dL_realms_449 : decode cL_realms 449 = .ok (.iload 6, 2) := by decide +kernel
theorem dL_realms_451 : decode cL_realms 451 = .ok (.goto 17, 3) := by decide +kernel
theorem dL_realms_454 : decode cL_realms 454 = .ok (.aload_n 0, 1) := by decide +kernel
theorem dL_realms_455 : decode cL_realms 455 = .ok (.iload_n 3, 1) := by decide +kernel
theorem dL_realms_456 : decode cL_realms 456 = .ok (.iconst 1, 1) := by decide +kernel
theorem dL_realms_457 : decode cL_realms 457 = .ok (.invokestatic 237, 3) := by decide +kernel
theorem dL_realms_460 : decode cL_realms 460 = .ok (.aload_n 0, 1) := by decide +kernel
theorem dL_realms_461 : decode cL_realms 461 = .ok (.iload 5, 2) := by decide +kernel
theorem dL_realms_463 : decode cL_realms 463 = .ok (.iconst 1, 1) := by decide +kernel
theorem dL_realms_464 : decode cL_realms 464 = .ok (.invokestatic 237, 3) := by decide +kernel
theorem dL_realms_467 : decode cL_realms 467 = .ok (.isub, 1) := by decide +kernel
theorem dL_realms_468 : decode cL_realms 468 = .ok (.istore 6, 2) := by decide +kernel
theorem dL_realms_470 : decode cL_realms 470 = .ok (.iload 6, 2) := by decide +kernel
theorem dL_realms_472 : decode cL_realms 472 = .ok (.ifCond .lt 14, 3) := by decide +kernel
theorem dL_realms_475 : decode cL_realms 475 = .ok (.iload 6, 2) := by decide +kernel
theorem dL_realms_477 : decode cL_realms 477 = .ok (.ifCond .ne 11, 3) := by decide +kernel
theorem dL_realms_480 : decode cL_realms 480 = .ok (.iload 5, 2) := by decide +kernel
theorem dL_realms_482 : decode cL_realms 482 = .ok (.iload_n 3, 1) := by decide +kernel
theorem dL_realms_483 : decode cL_realms 483 = .ok (.if_icmp .ge 5, 3) := by decide +kernel
theorem dL_realms_486 : decode cL_realms 486 = .ok (.iconst 0, 1) := by decide +kernel
theorem dL_realms_487 : decode cL_realms 487 = .ok (.ireturn, 1) := by decide +kernel
theorem dL_realms_488 : decode cL_realms 488 = .ok (.iload 5, 2) := by decide +kernel
theorem dL_realms_490 : decode cL_realms 490 = .ok (.istore_n 3, 1) := by decide +kernel
theorem dL_realms_491 : decode cL_realms 491 = .ok (.iinc 4 1, 3) := by decide +kernel
theorem dL_realms_494 : decode cL_realms 494 = .ok (.goto (-97), 3) := by decide +kernel
theorem dL_realms_497 : decode cL_realms 497 = .ok (.aload_n 0, 1) := by decide +kernel
theorem dL_realms_498 : decode cL_realms 498 = .ok (.iconst 0, 1) := by decide +kernel
theorem dL_realms_499 : decode cL_realms 499 = .ok (.invokevirtual 255, 3) := by decide +kernel
theorem dL_realms_502 : decode cL_realms 502 = .ok (.iload_n 2, 1) := by decide +kernel
theorem dL_realms_503 : decode cL_realms 503 = .ok (.if_icmp .ne 113, 3) := by decide +kernel
theorem dL_realms_506 : decode cL_realms 506 = .ok (.aload_n 0, 1) := by decide +kernel
theorem dL_realms_507 : decode cL_realms 507 = .ok (.invokevirtual 258, 3) := by decide +kernel
theorem dL_realms_510 : decode cL_realms 510 = .ok (.iload_n 2, 1) := by decide +kernel
theorem dL_realms_511 : decode cL_realms 511 = .ok (.i2f, 1) := by decide +kernel
theorem dL_realms_512 : decode cL_realms 512 = .ok (.ldc_w 262, 3) := by decide +kernel
theorem dL_realms_515 : decode cL_realms 515 = .ok (.fdiv, 1) := by decide +kernel
theorem dL_realms_516 : decode cL_realms 516 = .ok (.fcmp .l, 1) := by decide +kernel
theorem dL_realms_517 : decode cL_realms 517 = .ok (.ifCond .ne 99, 3) := by decide +kernel
theorem dL_realms_520 : decode cL_realms 520 = .ok (.aload_n 0, 1) := by decide +kernel
theorem dL_realms_521 : decode cL_realms 521 = .ok (.iconst 4, 1) := by decide +kernel
theorem dL_realms_522 : decode cL_realms 522 = .ok (.invokestatic 253, 3) := by decide +kernel
theorem dL_realms_525 : decode cL_realms 525 = .ok (.bipush (-15), 2) := by decide +kernel
theorem dL_realms_527 : decode cL_realms 527 = .ok (.if_icmp .ne 89, 3) := by decide +kernel
theorem dL_realms_530 : decode cL_realms 530 = .ok (.aload_n 0, 1) := by decide +kernel
theorem dL_realms_531 : decode cL_realms 531 = .ok (.iconst 0, 1) := by decide +kernel
theorem dL_realms_532 : decode cL_realms 532 = .ok (.iconst 4, 1) := by decide +kernel
theorem dL_realms_533 : decode cL_realms 533 = .ok (.invokestatic 251, 3) := by decide +kernel
theorem dL_realms_536 : decode cL_realms 536 = .ok (.bipush (-11), 2) := by decide +kernel
theorem dL_realms_538 : decode cL_realms 538 = .ok (.if_icmp .ne 78, 3) := by decide +kernel
theorem dL_realms_541 : decode cL_realms 541 = .ok (.aload_n 0, 1) := by decide +kernel
theorem dL_realms_542 : decode cL_realms 542 = .ok (.iconst 4, 1) := by decide +kernel
theorem dL_realms_543 : decode cL_realms 543 = .ok (.invokestatic 239, 3) := by decide +kernel
theorem dL_realms_546 : decode cL_realms 546 = .ok (.bipush (-11), 2) := by decide +kernel
theorem dL_realms_548 : decode cL_realms 548 = .ok (.if_icmp .ne 68, 3) := by decide +kernel
theorem dL_realms_551 : decode cL_realms 551 = .ok (.aload_n 0, 1) := by decide +kernel
theorem dL_realms_552 : decode cL_realms 552 = .ok (.iconst (-1), 1) := by decide +kernel
theorem dL_realms_553 : decode cL_realms 553 = .ok (.invokestatic 245, 3) := by decide +kernel
theorem dL_realms_556 : decode cL_realms 556 = .ok (.bipush (-11), 2) := by decide +kernel
theorem dL_realms_558 : decode cL_realms 558 = .ok (.if_icmp .ne 58, 3) := by decide +kernel
theorem dL_realms_561 : decode cL_realms 561 = .ok (.aload_n 0, 1) := by decide +kernel
theorem dL_realms_562 : decode cL_realms 562 = .ok (.iconst 4, 1) := by decide +kernel
theorem dL_realms_563 : decode cL_realms 563 = .ok (.invokestatic 243, 3) := by decide +kernel
theorem dL_realms_566 : decode cL_realms 566 = .ok (.bipush (-11), 2) := by decide +kernel
theorem dL_realms_568 : decode cL_realms 568 = .ok (.if_icmp .ne 48, 3) := by decide +kernel
theorem dL_realms_571 : decode cL_realms 571 = .ok (.aload_n 0, 1) := by decide +kernel
theorem dL_realms_572 : decode cL_realms 572 = .ok (.bipush 64, 2) := by decide +kernel
theorem dL_realms_574 : decode cL_realms 574 = .ok (.iconst 0, 1) := by decide +kernel
theorem dL_realms_575 : decode cL_realms 575 = .ok (.invokestatic 235, 3) := by decide +kernel
theorem dL_realms_578 : decode cL_realms 578 = .ok (.bipush (-11), 2) := by decide +kernel
theorem dL_realms_580 : decode cL_realms 580 = .ok (.if_icmp .ne 36, 3) := by decide +kernel
theorem dL_realms_583 : decode cL_realms 583 = .ok (.aload_n 0, 1) := by decide +kernel
theorem dL_realms_584 : decode cL_realms 584 = .ok (.iconst 0, 1) := by decide +kernel
theorem dL_realms_585 : decode cL_realms 585 = .ok (.iconst 4, 1) := by decide +kernel
theorem dL_realms_586 : decode cL_realms 586 = .ok (.invokestatic 235, 3) := by decide +kernel
theorem dL_realms_589 : decode cL_realms 589 = .ok (.bipush (-11), 2) := by decide +kernel
theorem dL_realms_591 : decode cL_realms 591 = .ok (.if_icmp .ne 25, 3) := by decide +kernel
theorem dL_realms_594 : decode cL_realms 594 = .ok (.aload_n 0, 1) := by decide +kernel
theorem dL_realms_595 : decode cL_realms 595 = .ok (.bipush 64, 2) := by decide +kernel
theorem dL_realms_597 : decode cL_realms 597 = .ok (.invokestatic 195, 3) := by decide +kernel
theorem dL_realms_600 : decode cL_realms 600 = .ok (.bipush (-11), 2) := by decide +kernel
theorem dL_realms_602 : decode cL_realms 602 = .ok (.if_icmp .ne 14, 3) := by decide +kernel
theorem dL_realms_605 : decode cL_realms 605 = .ok (.aload_n 0, 1) := by decide +kernel
theorem dL_realms_606 : decode cL_realms 606 = .ok (.invokevirtual 263, 3) := by decide +kernel
theorem dL_realms_609 : decode cL_realms 609 = .ok (.ifCond .eq 7, 3) := by decide +kernel
theorem dL_realms_612 : decode cL_realms 612 = .ok (.iconst 1, 1) := by decide +kernel
theorem dL_realms_613 : decode cL_realms 613 = .ok (.goto 4, 3) := by decide +kernel
theorem dL_realms_616 : decode cL_realms 616 = .ok (.iconst 0, 1) := by decide +kernel
theorem dL_realms_617 : decode cL_realms 617 = .ok (.ireturn, 1) := by decide +kernel
theorem dL_parts__0 : decode cL_parts_ 0 = .ok (.bipush 64, 2) := by decide +kernel
theorem dL_parts__2 : decode cL_parts_ 2 = .ok (.newarray .int, 2) := by decide +kernel
theorem dL_parts__4 : decode cL_parts_ 4 = .ok (.astore_n 2, 1) := by decide +kernel
theorem dL_parts__5 : decode cL_parts_ 5 = .ok (.iconst 0, 1) := by decide +kernel
theorem dL_parts__6 : decode cL_parts_ 6 = .ok (.istore_n 3, 1) := by decide +kernel
theorem dL_parts__7 : decode cL_parts_ 7 = .ok (.iload_n 3, 1) := by decide +kernel
theorem dL_parts__8 : decode cL_parts_ 8 = .ok (.bipush 64, 2) := by decide +kernel
theorem dL_parts__10 : decode cL_parts_ 10 = .ok (.if_icmp .ge 13, 3) := by decide +kernel
theorem dL_parts__13 : decode cL_parts_ 13 = .ok (.aload_n 2, 1) := by decide +kernel
theorem dL_parts__14 : decode cL_parts_ 14 = .ok (.iload_n 3, 1) := by decide +kernel
theorem dL_parts__15 : decode cL_parts_ 15 = .ok (.iload_n 3, 1) := by decide +kernel
theorem dL_parts__16 : decode cL_parts_ 16 = .ok (.iastore, 1) := by decide +kernel
theorem dL_parts__17 : decode cL_parts_ 17 = .ok (.iinc 3 1, 3) := by decide +kernel
theorem dL_parts__20 : decode cL_parts_ 20 = .ok (.goto (-13), 3) := by decide +kernel
theorem dL_parts__23 : decode cL_parts_ 23 = .ok (.iconst 1, 1) := by decide +kernel
theorem dL_parts__24 : decode cL_parts_ 24 = .ok (.istore_n 3, 1) := by decide +kernel
theorem dL_parts__25 : decode cL_parts_ 25 = .ok (.iload_n 3, 1) := by decide +kernel
theorem dL_parts__26 : decode cL_parts_ 26 = .ok (.ifCond .eq 87, 3) := by decide +kernel
theorem dL_parts__29 : decode cL_parts_ 29 = .ok (.iconst 0, 1) := by decide +kernel
theorem dL_parts__30 : decode cL_parts_ 30 = .ok (.istore_n 3, 1) := by decide +kernel
theorem dL_parts__31 : decode cL_parts_ 31 = .ok (.iconst 0, 1) := by decide +kernel
theorem dL_parts__32 : decode cL_parts_ 32 = .ok (.istore 4, 2) := by decide +kernel
theorem dL_parts__34 : decode cL_parts_ 34 = .ok (.iload 4, 2) := by decide +kernel
theorem dL_parts__36 : decode cL_parts_ 36 = .ok (.bipush 64, 2) := by decide +kernel
theorem dL_parts__38 : decode cL_parts_ 38 = .ok (.if_icmp .ge 72, 3) := by decide +kernel
theorem dL_parts__41 : decode cL_parts_ 41 = .ok (.iconst 0, 1) := by decide +kernel
theorem dL_parts__42 : decode cL_parts_ 42 = .ok (.istore 5, 2) := by decide +kernel
theorem dL_parts__44 : decode cL_parts_ 44 = .ok (.iload 5, 2) := by decide +kernel
theorem dL_parts__46 : decode cL_parts_ 46 = .ok (.bipush 64, 2) := by decide +kernel
theorem dL_parts__48 : decode cL_parts_ 48 = .ok (.if_icmp .ge 56, 3) := by decide +kernel
theorem dL_parts__51 : decode cL_parts_ 51 = .ok (.iload 4, 2) := by decide +kernel
theorem dL_parts__53 : decode cL_parts_ 53 = .ok (.iload 5, 2) := by decide +kernel
theorem dL_parts__55 : decode cL_parts_ 55 = .ok (.invokestatic 200, 3) := by decide +kernel
theorem dL_parts__58 : decode cL_parts_ 58 = .ok (.ifCond .eq 40, 3) := by decide +kernel
theorem dL_parts__61 : decode cL_parts_ 61 = .ok (.aload_n 0, 1) := by decide +kernel
theorem dL_parts__62 : decode cL_parts_ 62 = .ok (.iload 4, 2) := by decide +kernel
theorem dL_parts__64 : decode cL_parts_ 64 = .ok (.iaload, 1) := by decide +kernel
theorem dL_parts__65 : decode cL_parts_ 65 = .ok (.iload_n 1, 1) := by decide +kernel
theorem dL_parts__66 : decode cL_parts_ 66 = .ok (.if_icmp .ne 32, 3) := by decide +kernel
theorem dL_parts__69 : decode cL_parts_ 69 = .ok (.aload_n 0, 1) := by decide +kernel
theorem dL_parts__70 : decode cL_parts_ 70 = .ok (.iload 5, 2) := by decide +kernel
theorem dL_parts__72 : decode cL_parts_ 72 = .ok (.iaload, 1) := by decide +kernel
theorem dL_parts__73 : decode cL_parts_ 73 = .ok (.iload_n 1, 1) := by decide +kernel
theorem dL_parts__74 : decode cL_parts_ 74 = .ok (.if_icmp .ne 24, 3) := by decide +kernel
theorem dL_parts__77 : decode cL_parts_ 77 = .ok (.aload_n 2, 1) := by decide +kernel
theorem dL_parts__78 : decode cL_parts_ 78 = .ok (.iload 5, 2) := by decide +kernel
theorem dL_parts__80 : decode cL_parts_ 80 = .ok (.iaload, 1) := by decide +kernel
theorem dL_parts__81 : decode cL_parts_ 81 = .ok (.aload_n 2, 1) := by decide +kernel
theorem dL_parts__82 : decode cL_parts_ 82 = .ok (.iload 4, 2) := by decide +kernel
theorem dL_parts__84 : decode cL_parts_ 84 = .ok (.iaload, 1) := by decide +kernel
theorem dL_parts__85 : decode cL_parts_ 85 = .ok (.if_icmp .ge 13, 3) := by decide +kernel
theorem dL_parts__88 : decode cL_parts_ 88 = .ok (.aload_n 2, 1) := by decide +kernel
theorem dL_parts__89 : decode cL_parts_ 89 = .ok (.iload 4, 2) := by decide +kernel
theorem dL_parts__91 : decode cL_parts_ 91 = .ok (.aload_n 2, 1) := by decide +kernel
theorem dL_parts__92 : decode cL_parts_ 92 = .ok (.iload 5, 2) := by decide +kernel
theorem dL_parts__94 : decode cL_parts_ 94 = .ok (.iaload, 1) := by decide +kernel
theorem dL_parts__95 : decode cL_parts_ 95 = .ok (.iastore, 1) := by decide +kernel
theorem dL_parts__96 : decode cL_parts_ 96 = .ok (.iconst 1, 1) := by decide +kernel
theorem dL_parts__97 : decode cL_parts_ 97 = .ok (.istore_n 3, 1) := by decide +kernel
theorem dL_parts__98 : decode cL_parts_ 98 = .ok (.iinc 5 1, 3) := by decide +kernel
theorem dL_parts__101 : decode cL_parts_ 101 = .ok (.goto (-57), 3) := by decide +kernel
theorem dL_parts__104 : decode cL_parts_ 104 = .ok (.iinc 4 1, 3) := by decide +kernel
theorem dL_parts__107 : decode cL_parts_ 107 = .ok (.goto (-73), 3) := by decide +kernel
theorem dL_parts__110 : decode cL_parts_ 110 = .ok (.goto (-85), 3) := by decide +kernel
theorem dL_parts__113 : decode cL_parts_ 113 = .ok (.iconst 0, 1) := by decide +kernel
theorem dL_parts__114 : decode cL_parts_ 114 = .ok (.istore 4, 2) := by decide +kernel
theorem dL_parts__116 : decode cL_parts_ 116 = .ok (.iconst 0, 1) := by decide +kernel
theorem dL_parts__117 : decode cL_parts_ 117 = .ok (.istore 5, 2) := by decide +kernel
theorem dL_parts__119 : decode cL_parts_ 119 = .ok (.iload 5, 2) := by decide +kernel
theorem dL_parts__121 : decode cL_parts_ 121 = .ok (.bipush 64, 2) := by decide +kernel
theorem dL_parts__123 : decode cL_parts_ 123 = .ok (.if_icmp .ge 36, 3) := by decide +kernel
theorem dL_parts__126 : decode cL_parts_ 126 = .ok (.iload 4, 2) := by decide +kernel
theorem dL_parts__128 : decode cL_parts_ 128 = .ok (.aload_n 0, 1) := by decide +kernel
theorem dL_parts__129 : decode cL_parts_ 129 = .ok (.iload 5, 2) := by decide +kernel
theorem dL_parts__131 : decode cL_parts_ 131 = .ok (.iaload, 1) := by decide +kernel
theorem dL_parts__132 : decode cL_parts_ 132 = .ok (.iload_n 1, 1) := by decide +kernel
theorem dL_parts__133 : decode cL_parts_ 133 = .ok (.if_icmp .ne 16, 3) := by decide +kernel
theorem dL_parts__136 : decode cL_parts_ 136 = .ok (.aload_n 2, 1) := by decide +kernel
theorem dL_parts__137 : decode cL_parts_ 137 = .ok (.iload 5, 2) := by decide +kernel
theorem dL_parts__139 : decode cL_parts_ 139 = .ok (.iaload, 1) := by decide +kernel
theorem dL_parts__140 : decode cL_parts_ 140 = .ok (.iload 5, 2) := by decide +kernel
theorem dL_parts__142 : decode cL_parts_ 142 = .ok (.if_icmp .ne 7, 3) := by decide +kernel
theorem dL_parts__145 : decode cL_parts_ 145 = .ok (.iconst 1, 1) := by decide +kernel
theorem dL_parts__146 : decode cL_parts_ 146 = .ok (.goto 4, 3) := by decide +kernel
theorem dL_parts__149 : decode cL_parts_ 149 = .ok (.iconst 0, 1) := by decide +kernel
theorem dL_parts__150 : decode cL_parts_ 150 = .ok (.iadd, 1) := by decide +kernel
theorem dL_parts__151 : decode cL_parts_ 151 = .ok (.istore 4, 2) := by decide +kernel
theorem dL_parts__153 : decode cL_parts_ 153 = .ok (.iinc 5 1, 3) := by decide +kernel
theorem dL_parts__156 : decode cL_parts_ 156 = .ok (.goto (-37), 3) := by decide +kernel
theorem dL_parts__159 : decode cL_parts_ 159 = .ok (.iload 4, 2) := by decide +kernel
theorem dL_parts__161 : decode cL_parts_ 161 = .ok (.ireturn, 1) := by decide +kernel
theorem dL_folds_0 : decode cL_folds 0 = .ok (.aload_n 0, 1) := by decide +kernel
theorem dL_folds_1 : decode cL_folds 1 = .ok (.invokestatic 227, 3) := by decide +kernel
theorem dL_folds_4 : decode cL_folds 4 = .ok (.astore_n 1, 1) := by decide +kernel
theorem dL_folds_5 : decode cL_folds 5 = .ok (.iconst 0, 1) := by decide +kernel
theorem dL_folds_6 : decode cL_folds 6 = .ok (.istore_n 2, 1) := by decide +kernel
theorem dL_folds_7 : decode cL_folds 7 = .ok (.iload_n 2, 1) := by decide +kernel
theorem dL_folds_8 : decode cL_folds 8 = .ok (.iconst 2, 1) := by decide +kernel
theorem dL_folds_9 : decode cL_folds 9 = .ok (.if_icmp .ge 233, 3) := by decide +kernel
theorem dL_folds_12 : decode cL_folds 12 = .ok (.iconst 0, 1) := by decide +kernel
theorem dL_folds_13 : decode cL_folds 13 = .ok (.istore_n 3, 1) := by decide +kernel
theorem dL_folds_14 : decode cL_folds 14 = .ok (.sipush 1000, 3) := by decide +kernel
theorem dL_folds_17 : decode cL_folds 17 = .ok (.istore 4, 2) := by decide +kernel
theorem dL_folds_19 : decode cL_folds 19 = .ok (.iconst 1, 1) := by decide +kernel
theorem dL_folds_20 : decode cL_folds 20 = .ok (.istore 5, 2) := by decide +kernel
theorem dL_folds_22 : decode cL_folds 22 = .ok (.iload 5, 2) := by decide +kernel
theorem dL_folds_24 : decode cL_folds 24 = .ok (.bipush 8, 2) := by decide +kernel
theorem dL_folds_26 : decode cL_folds 26 = .ok (.if_icmp .ge 191, 3) := by decide +kernel
theorem dL_folds_29 : decode cL_folds 29 = .ok (.iconst 0, 1) := by decide +kernel
theorem dL_folds_30 : decode cL_folds 30 = .ok (.istore 6, 2) := by decide +kernel
theorem dL_folds_32 : decode cL_folds 32 = .ok (.iload 5, 2) := by decide +kernel
theorem dL_folds_34 : decode cL_folds 34 = .ok (.iconst 1, 1) := by decide +kernel
theorem dL_folds_35 : decode cL_folds 35 = .ok (.isub, 1) := by decide +kernel
theorem dL_folds_36 : decode cL_folds 36 = .ok (.istore 7, 2) := by decide +kernel
theorem dL_folds_38 : decode cL_folds 38 = .ok (.iload 7, 2) := by decide +kernel
theorem dL_folds_40 : decode cL_folds 40 = .ok (.ifCond .lt 106, 3) := by decide +kernel
theorem dL_folds_43 : decode cL_folds 43 = .ok (.iconst 2, 1) := by decide +kernel
theorem dL_folds_44 : decode cL_folds 44 = .ok (.iload 5, 2) := by decide +kernel
theorem dL_folds_46 : decode cL_folds 46 = .ok (.imul, 1) := by decide +kernel
theorem dL_folds_47 : decode cL_folds 47 = .ok (.iconst 1, 1) := by decide +kernel
theorem dL_folds_48 : decode cL_folds 48 = .ok (.isub, 1) := by decide +kernel
theorem dL_folds_49 : decode cL_folds 49 = .ok (.iload 7, 2) := by decide +kernel
theorem dL_folds_51 : decode cL_folds 51 = .ok (.isub, 1) := by decide +kernel
theorem dL_folds_52 : decode cL_folds 52 = .ok (.istore 8, 2) := by decide +kernel
theorem dL_folds_54 : decode cL_folds 54 = .ok (.iconst 0, 1) := by decide +kernel
theorem dL_folds_55 : decode cL_folds 55 = .ok (.istore 9, 2) := by decide +kernel
theorem dL_folds_57 : decode cL_folds 57 = .ok (.iload 9, 2) := by decide +kernel
theorem dL_folds_59 : decode cL_folds 59 = .ok (.bipush 8, 2) := by decide +kernel
theorem dL_folds_61 : decode cL_folds 61 = .ok (.if_icmp .ge 79, 3) := by decide +kernel
theorem dL_folds_64 : decode cL_folds 64 = .ok (.iload 8, 2) := by decide +kernel
theorem dL_folds_66 : decode cL_folds 66 = .ok (.bipush 8, 2) := by decide +kernel
theorem dL_folds_68 : decode cL_folds 68 = .ok (.if_icmp .ge 72, 3) := by decide +kernel
theorem dL_folds_71 : decode cL_folds 71 = .ok (.iload 6, 2) := by decide +kernel
theorem dL_folds_73 : decode cL_folds 73 = .ok (.aload_n 1, 1) := by decide +kernel
theorem dL_folds_74 : decode cL_folds 74 = .ok (.iload_n 2, 1) := by decide +kernel
theorem dL_folds_75 : decode cL_folds 75 = .ok (.ifCond .ne 14, 3) := by decide +kernel
theorem dL_folds_78 : decode cL_folds 78 = .ok (.bipush 8, 2) := by decide +kernel
theorem dL_folds_80 : decode cL_folds 80 = .ok (.iload 7, 2) := by decide +kernel
theorem dL_folds_82 : decode cL_folds 82 = .ok (.imul, 1) := by decide +kernel
theorem dL_folds_83 : decode cL_folds 83 = .ok (.iload 9, 2) := by decide +kernel
theorem dL_folds_85 : decode cL_folds 85 = .ok (.iadd, 1) := by decide +kernel
theorem dL_folds_86 : decode cL_folds 86 = .ok (.goto 11, 3) := by decide +kernel
theorem dL_folds_89 : decode cL_folds 89 = .ok (.bipush 8, 2) := by decide +kernel
theorem dL_folds_91 : decode cL_folds 91 = .ok (.iload 9, 2) := by decide +kernel
theorem dL_folds_93 : decode cL_folds 93 = .ok (.imul, 1) := by decide +kernel
theorem dL_folds_94 : decode cL_folds 94 = .ok (.iload 7, 2) := by decide +kernel
theorem dL_folds_96 : decode cL_folds 96 = .ok (.iadd, 1) := by decide +kernel
theorem dL_folds_97 : decode cL_folds 97 = .ok (.iaload, 1) := by decide +kernel
theorem dL_folds_98 : decode cL_folds 98 = .ok (.aload_n 1, 1) := by decide +kernel
theorem dL_folds_99 : decode cL_folds 99 = .ok (.iload_n 2, 1) := by decide +kernel
theorem dL_folds_100 : decode cL_folds 100 = .ok (.ifCond .ne 14, 3) := by decide +kernel
theorem dL_folds_103 : decode cL_folds 103 = .ok (.bipush 8, 2) := by decide +kernel
theorem dL_folds_105 : decode cL_folds 105 = .ok (.iload 8, 2) := by decide +kernel
theorem dL_folds_107 : decode cL_folds 107 = .ok (.imul, 1) := by decide +kernel
theorem dL_folds_108 : decode cL_folds 108 = .ok (.iload 9, 2) := by decide +kernel
theorem dL_folds_110 : decode cL_folds 110 = .ok (.iadd, 1) := by decide +kernel
theorem dL_folds_111 : decode cL_folds 111 = .ok (.goto 11, 3) := by decide +kernel
theorem dL_folds_114 : decode cL_folds 114 = .ok (.bipush 8, 2) := by decide +kernel
theorem dL_folds_116 : decode cL_folds 116 = .ok (.iload 9, 2) := by decide +kernel
theorem dL_folds_118 : decode cL_folds 118 = .ok (.imul, 1) := by decide +kernel
theorem dL_folds_119 : decode cL_folds 119 = .ok (.iload 8, 2) := by decide +kernel
theorem dL_folds_121 : decode cL_folds 121 = .ok (.iadd, 1) := by decide +kernel
theorem dL_folds_122 : decode cL_folds 122 = .ok (.iaload, 1) := by decide +kernel
theorem dL_folds_123 : decode cL_folds 123 = .ok (.if_icmp .eq 7, 3) := by decide +kernel
theorem dL_folds_126 : decode cL_folds 126 = .ok (.iconst 1, 1) := by decide +kernel
theorem dL_folds_127 : decode cL_folds 127 = .ok (.goto 4, 3) := by decide +kernel
theorem dL_folds_130 : decode cL_folds 130 = .ok (.iconst 0, 1) := by decide +kernel
theorem dL_folds_131 : decode cL_folds 131 = .ok (.iadd, 1) := by decide +kernel
theorem dL_folds_132 : decode cL_folds 132 = .ok (.istore 6, 2) := by decide +kernel
theorem dL_folds_134 : decode cL_folds 134 = .ok (.iinc 9 1, 3) := by decide +kernel
theorem dL_folds_137 : decode cL_folds 137 = .ok (.goto (-80), 3) := by decide +kernel
theorem dL_folds_140 : decode cL_folds 140 = .ok (.iinc 7 (-1), 3) := by decide +kernel
theorem dL_folds_143 : decode cL_folds 143 = .ok (.goto (-105), 3) := by decide +kernel
theorem dL_folds_146 : decode cL_folds 146 = .ok (.iload 6, 2) := by decide +kernel
theorem dL_folds_148 : decode cL_folds 148 = .ok (.iload 4, 2) := by decide +kernel
theorem dL_folds_150 : decode cL_folds 150 = .ok (.if_icmp .ge 8, 3) := by decide +kernel
theorem dL_folds_153 : decode cL_folds 153 = .ok (.iload 5, 2) := by decide +kernel
theorem dL_folds_155 : decode cL_folds 155 = .ok (.goto 4, 3) := by decide +kernel
theorem dL_folds_158 : decode cL_folds 158 = .ok (.iload_n 3, 1) := by decide +kernel
