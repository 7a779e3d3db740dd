theorem dL_append_0 : decode cL_append 0 = .ok (.aload 6, 2) := by decide +kernel
theorem dL_append_2 : decode cL_append 2 = .ok (.iconst 0, 1) := by decide +kernel
theorem dL_append_3 : decode cL_append 3 = .ok (.aload_n 0, 1) := by decide +kernel
theorem dL_append_4 : decode cL_append 4 = .ok (.iload_n 1, 1) := by decide +kernel
theorem dL_append_5 : decode cL_append 5 = .ok (.iload_n 2, 1) := by decide +kernel
theorem dL_append_6 : decode cL_append 6 = .ok (.iload_n 3, 1) := by decide +kernel
theorem dL_append_7 : decode cL_append 7 = .ok (.iload 4, 2) := by decide +kernel
theorem dL_append_9 : decode cL_append 9 = .ok (.iload 5, 2) := by decide +kernel
theorem dL_append_11 : decode cL_append 11 = .ok (.invokevirtual 7, 3) := by decide +kernel
theorem dL_append_14 : decode cL_append 14 = .ok (.i2l, 1) := by decide +kernel
theorem dL_append_15 : decode cL_append 15 = .ok (.lastore, 1) := by decide +kernel
theorem dL_append_16 : decode cL_append 16 = .ok (.goto 7, 3) := by decide +kernel
theorem dL_append_19 : decode cL_append 19 = .ok (.astore 7, 2) := by decide +kernel
theorem dL_append_21 : decode cL_append 21 = .ok (.iconst 1, 1) := by decide +kernel
theorem dL_append_22 : decode cL_append 22 = .ok (.ireturn, 1) := by decide +kernel
theorem dL_append_23 : decode cL_append 23 = .ok (.iconst 0, 1) := by decide +kernel
theorem dL_append_24 : decode cL_append 24 = .ok (.ireturn, 1) := by decide +kernel
theorem dL_truncate_0 : decode cL_truncate 0 = .ok (.aload_n 2, 1) := by decide +kernel
theorem dL_truncate_1 : decode cL_truncate 1 = .ok (.iconst 0, 1) := by decide +kernel
theorem dL_truncate_2 : decode cL_truncate 2 = .ok (.aload_n 0, 1) := by decide +kernel
theorem dL_truncate_3 : decode cL_truncate 3 = .ok (.iload_n 1, 1) := by decide +kernel
theorem dL_truncate_4 : decode cL_truncate 4 = .ok (.invokevirtual 15, 3) := by decide +kernel
theorem dL_truncate_7 : decode cL_truncate 7 = .ok (.i2l, 1) := by decide +kernel
theorem dL_truncate_8 : decode cL_truncate 8 = .ok (.lastore, 1) := by decide +kernel
theorem dL_truncate_9 : decode cL_truncate 9 = .ok (.goto 6, 3) := by decide +kernel
theorem dL_truncate_12 : decode cL_truncate 12 = .ok (.astore_n 3, 1) := by decide +kernel
theorem dL_truncate_13 : decode cL_truncate 13 = .ok (.iconst 1, 1) := by decide +kernel
theorem dL_truncate_14 : decode cL_truncate 14 = .ok (.ireturn, 1) := by decide +kernel
theorem dL_truncate_15 : decode cL_truncate 15 = .ok (.iconst 0, 1) := by decide +kernel
theorem dL_truncate_16 : decode cL_truncate 16 = .ok (.ireturn, 1) := by decide +kernel
theorem dL_classBySugar_0 : decode cL_classBySugar 0 = .ok (.aload_n 2, 1) := by decide +kernel
theorem dL_classBySugar_1 : decode cL_classBySugar 1 = .ok (.iconst 0, 1) := by decide +kernel
theorem dL_classBySugar_2 : decode cL_classBySugar 2 = .ok (.aload_n 0, 1) := by decide +kernel
theorem dL_classBySugar_3 : decode cL_classBySugar 3 = .ok (.iload_n 1, 1) := by decide +kernel
theorem dL_classBySugar_4 : decode cL_classBySugar 4 = .ok (.invokevirtual 21, 3) := by decide +kernel
theorem dL_classBySugar_7 : decode cL_classBySugar 7 = .ok (.i2l, 1) := by decide +kernel
theorem dL_classBySugar_8 : decode cL_classBySugar 8 = .ok (.lastore, 1) := by decide +kernel
theorem dL_classBySugar_9 : decode cL_classBySugar 9 = .ok (.goto 6, 3) := by decide +kernel
theorem dL_classBySugar_12 : decode cL_classBySugar 12 = .ok (.astore_n 3, 1) := by decide +kernel
theorem dL_classBySugar_13 : decode cL_classBySugar 13 = .ok (.iconst 1, 1) := by decide +kernel
theorem dL_classBySugar_14 : decode cL_classBySugar 14 = .ok (.ireturn, 1) := by decide +kernel
theorem dL_classBySugar_15 : decode cL_classBySugar 15 = .ok (.iconst 0, 1) := by decide +kernel
theorem dL_classBySugar_16 : decode cL_classBySugar 16 = .ok (.ireturn, 1) := by decide +kernel
theorem dL_price_0 : decode cL_price 0 = .ok (.aload_n 3, 1) := by decide +kernel
theorem dL_price_1 : decode cL_price 1 = .ok (.iconst 0, 1) := by decide +kernel
theorem dL_price_2 : decode cL_price 2 = .ok (.aload_n 0, 1) := by decide +kernel
theorem dL_price_3 : decode cL_price 3 = .ok (.iload_n 1, 1) := by decide +kernel
theorem dL_price_4 : decode cL_price 4 = .ok (.iload_n 2, 1) := by decide +kernel
theorem dL_price_5 : decode cL_price 5 = .ok (.invokevirtual 24, 3) := by decide +kernel
theorem dL_price_8 : decode cL_price 8 = .ok (.i2l, 1) := by decide +kernel
theorem dL_price_9 : decode cL_price 9 = .ok (.lastore, 1) := by decide +kernel
theorem dL_price_10 : decode cL_price 10 = .ok (.goto 7, 3) := by decide +kernel
theorem dL_price_13 : decode cL_price 13 = .ok (.astore 4, 2) := by decide +kernel
theorem dL_price_15 : decode cL_price 15 = .ok (.iconst 1, 1) := by decide +kernel
theorem dL_price_16 : decode cL_price 16 = .ok (.ireturn, 1) := by decide +kernel
theorem dL_price_17 : decode cL_price 17 = .ok (.iconst 0, 1) := by decide +kernel
theorem dL_price_18 : decode cL_price 18 = .ok (.ireturn, 1) := by decide +kernel
theorem dL_weightOfClass_0 : decode cL_weightOfClass 0 = .ok (.aload_n 3, 1) := by decide +kernel
theorem dL_weightOfClass_1 : decode cL_weightOfClass 1 = .ok (.iconst 0, 1) := by decide +kernel
theorem dL_weightOfClass_2 : decode cL_weightOfClass 2 = .ok (.aload_n 0, 1) := by decide +kernel
theorem dL_weightOfClass_3 : decode cL_weightOfClass 3 = .ok (.iload_n 1, 1) := by decide +kernel
theorem dL_weightOfClass_4 : decode cL_weightOfClass 4 = .ok (.iload_n 2, 1) := by decide +kernel
theorem dL_weightOfClass_5 : decode cL_weightOfClass 5 = .ok (.invokevirtual 30, 3) := by decide +kernel
theorem dL_weightOfClass_8 : decode cL_weightOfClass 8 = .ok (.i2l, 1) := by decide +kernel
theorem dL_weightOfClass_9 : decode cL_weightOfClass 9 = .ok (.lastore, 1) := by decide +kernel
theorem dL_weightOfClass_10 : decode cL_weightOfClass 10 = .ok (.goto 7, 3) := by decide +kernel
theorem dL_weightOfClass_13 : decode cL_weightOfClass 13 = .ok (.astore 4, 2) := by decide +kernel
theorem dL_weightOfClass_15 : decode cL_weightOfClass 15 = .ok (.iconst 1, 1) := by decide +kernel
theorem dL_weightOfClass_16 : decode cL_weightOfClass 16 = .ok (.ireturn, 1) := by decide +kernel
theorem dL_weightOfClass_17 : decode cL_weightOfClass 17 = .ok (.iconst 0, 1) := by decide +kernel
theorem dL_weightOfClass_18 : decode cL_weightOfClass 18 = .ok (.ireturn, 1) := by decide +kernel
theorem dL_classInOrder_0 : decode cL_classInOrder 0 = .ok (.aload_n 2, 1) := by decide +kernel
theorem dL_classInOrder_1 : decode cL_classInOrder 1 = .ok (.iconst 0, 1) := by decide +kernel
theorem dL_classInOrder_2 : decode cL_classInOrder 2 = .ok (.aload_n 0, 1) := by decide +kernel
theorem dL_classInOrder_3 : decode cL_classInOrder 3 = .ok (.iload_n 1, 1) := by decide +kernel
theorem dL_classInOrder_4 : decode cL_classInOrder 4 = .ok (.invokevirtual 33, 3) := by decide +kernel
theorem dL_classInOrder_7 : decode cL_classInOrder 7 = .ok (.i2l, 1) := by decide +kernel
theorem dL_classInOrder_8 : decode cL_classInOrder 8 = .ok (.lastore, 1) := by decide +kernel
theorem dL_classInOrder_9 : decode cL_classInOrder 9 = .ok (.goto 6, 3) := by decide +kernel
theorem dL_classInOrder_12 : decode cL_classInOrder 12 = .ok (.astore_n 3, 1) := by decide +kernel
theorem dL_classInOrder_13 : decode cL_classInOrder 13 = .ok (.iconst 1, 1) := by decide +kernel
theorem dL_classInOrder_14 : decode cL_classInOrder 14 = .ok (.ireturn, 1) := by decide +kernel
theorem dL_classInOrder_15 : decode cL_classInOrder 15 = .ok (.iconst 0, 1) := by decide +kernel
theorem dL_classInOrder_16 : decode cL_classInOrder 16 = .ok (.ireturn, 1) := by decide +kernel
theorem dL_plotsOf_0 : decode cL_plotsOf 0 = .ok (.aload_n 2, 1) := by decide +kernel
theorem dL_plotsOf_1 : decode cL_plotsOf 1 = .ok (.iconst 0, 1) := by decide +kernel
theorem dL_plotsOf_2 : decode cL_plotsOf 2 = .ok (.aload_n 0, 1) := by decide +kernel
theorem dL_plotsOf_3 : decode cL_plotsOf 3 = .ok (.iload_n 1, 1) := by decide +kernel
theorem dL_plotsOf_4 : decode cL_plotsOf 4 = .ok (.invokevirtual 38, 3) := by decide +kernel
theorem dL_plotsOf_7 : decode cL_plotsOf 7 = .ok (.i2l, 1) := by decide +kernel
theorem dL_plotsOf_8 : decode cL_plotsOf 8 = .ok (.lastore, 1) := by decide +kernel
theorem dL_plotsOf_9 : decode cL_plotsOf 9 = .ok (.goto 6, 3) := by decide +kernel
theorem dL_plotsOf_12 : decode cL_plotsOf 12 = .ok (.astore_n 3, 1) := by decide +kernel
theorem dL_plotsOf_13 : decode cL_plotsOf 13 = .ok (.iconst 1, 1) := by decide +kernel
theorem dL_plotsOf_14 : decode cL_plotsOf 14 = .ok (.ireturn, 1) := by decide +kernel
theorem dL_plotsOf_15 : decode cL_plotsOf 15 = .ok (.iconst 0, 1) := by decide +kernel
theorem dL_plotsOf_16 : decode cL_plotsOf 16 = .ok (.ireturn, 1) := by decide +kernel
theorem dL_weightOf_0 : decode cL_weightOf 0 = .ok (.aload_n 2, 1) := by decide +kernel
theorem dL_weightOf_1 : decode cL_weightOf 1 = .ok (.iconst 0, 1) := by decide +kernel
theorem dL_weightOf_2 : decode cL_weightOf 2 = .ok (.aload_n 0, 1) := by decide +kernel
theorem dL_weightOf_3 : decode cL_weightOf 3 = .ok (.iload_n 1, 1) := by decide +kernel
theorem dL_weightOf_4 : decode cL_weightOf 4 = .ok (.invokevirtual 41, 3) := by decide +kernel
theorem dL_weightOf_7 : decode cL_weightOf 7 = .ok (.i2l, 1) := by decide +kernel
theorem dL_weightOf_8 : decode cL_weightOf 8 = .ok (.lastore, 1) := by decide +kernel
theorem dL_weightOf_9 : decode cL_weightOf 9 = .ok (.goto 6, 3) := by decide +kernel
theorem dL_weightOf_12 : decode cL_weightOf 12 = .ok (.astore_n 3, 1) := by decide +kernel
theorem dL_weightOf_13 : decode cL_weightOf 13 = .ok (.iconst 1, 1) := by decide +kernel
theorem dL_weightOf_14 : decode cL_weightOf 14 = .ok (.ireturn, 1) := by decide +kernel
theorem dL_weightOf_15 : decode cL_weightOf 15 = .ok (.iconst 0, 1) := by decide +kernel
theorem dL_weightOf_16 : decode cL_weightOf 16 = .ok (.ireturn, 1) := by decide +kernel
theorem dL_owed_0 : decode cL_owed 0 = .ok (.aload_n 2, 1) := by decide +kernel
theorem dL_owed_1 : decode cL_owed 1 = .ok (.iconst 0, 1) := by decide +kernel
theorem dL_owed_2 : decode cL_owed 2 = .ok (.aload_n 0, 1) := by decide +kernel
theorem dL_owed_3 : decode cL_owed 3 = .ok (.iload_n 1, 1) := by decide +kernel
theorem dL_owed_4 : decode cL_owed 4 = .ok (.invokevirtual 44, 3) := by decide +kernel
theorem dL_owed_7 : decode cL_owed 7 = .ok (.i2l, 1) := by decide +kernel
theorem dL_owed_8 : decode cL_owed 8 = .ok (.lastore, 1) := by decide +kernel
theorem dL_owed_9 : decode cL_owed 9 = .ok (.goto 6, 3) := by decide +kernel
theorem dL_owed_12 : decode cL_owed 12 = .ok (.astore_n 3, 1) := by decide +kernel
theorem dL_owed_13 : decode cL_owed 13 = .ok (.iconst 1, 1) := by decide +kernel
theorem dL_owed_14 : decode cL_owed 14 = .ok (.ireturn, 1) := by decide +kernel
theorem dL_owed_15 : decode cL_owed 15 = .ok (.iconst 0, 1) := by decide +kernel
theorem dL_owed_16 : decode cL_owed 16 = .ok (.ireturn, 1) := by decide +kernel
theorem dL_paidTo_0 : decode cL_paidTo 0 = .ok (.aload_n 2, 1) := by decide +kernel
theorem dL_paidTo_1 : decode cL_paidTo 1 = .ok (.iconst 0, 1) := by decide +kernel
theorem dL_paidTo_2 : decode cL_paidTo 2 = .ok (.aload_n 0, 1) := by decide +kernel
theorem dL_paidTo_3 : decode cL_paidTo 3 = .ok (.iload_n 1, 1) := by decide +kernel
theorem dL_paidTo_4 : decode cL_paidTo 4 = .ok (.invokevirtual 47, 3) := by decide +kernel
theorem dL_paidTo_7 : decode cL_paidTo 7 = .ok (.i2l, 1) := by decide +kernel
theorem dL_paidTo_8 : decode cL_paidTo 8 = .ok (.lastore, 1) := by decide +kernel
theorem dL_paidTo_9 : decode cL_paidTo 9 = .ok (.goto 6, 3) := by decide +kernel
theorem dL_paidTo_12 : decode cL_paidTo 12 = .ok (.astore_n 3, 1) := by decide +kernel
theorem dL_paidTo_13 : decode cL_paidTo 13 = .ok (.iconst 1, 1) := by decide +kernel
theorem dL_paidTo_14 : decode cL_paidTo 14 = .ok (.ireturn, 1) := by decide +kernel
theorem dL_paidTo_15 : decode cL_paidTo 15 = .ok (.iconst 0, 1) := by decide +kernel
theorem dL_paidTo_16 : decode cL_paidTo 16 = .ok (.ireturn, 1) := by decide +kernel
theorem dL_varietiesOf_0 : decode cL_varietiesOf 0 = .ok (.aload_n 2, 1) := by decide +kernel
theorem dL_varietiesOf_1 : decode cL_varietiesOf 1 = .ok (.iconst 0, 1) := by decide +kernel
theorem dL_varietiesOf_2 : decode cL_varietiesOf 2 = .ok (.aload_n 0, 1) := by decide +kernel
theorem dL_varietiesOf_3 : decode cL_varietiesOf 3 = .ok (.iload_n 1, 1) := by decide +kernel
theorem dL_varietiesOf_4 : decode cL_varietiesOf 4 = .ok (.invokevirtual 50, 3) := by decide +kernel
theorem dL_varietiesOf_7 : decode cL_varietiesOf 7 = .ok (.i2l, 1) := by decide +kernel
theorem dL_varietiesOf_8 : decode cL_varietiesOf 8 = .ok (.lastore, 1) := by decide +kernel
theorem dL_varietiesOf_9 : decode cL_varietiesOf 9 = .ok (.goto 6, 3) := by decide +kernel
theorem dL_varietiesOf_12 : decode cL_varietiesOf 12 = .ok (.astore_n 3, 1) := by decide +kernel
theorem dL_varietiesOf_13 : decode cL_varietiesOf 13 = .ok (.iconst 1, 1) := by decide +kernel
theorem dL_varietiesOf_14 : decode cL_varietiesOf 14 = .ok (.ireturn, 1) := by decide +kernel
theorem dL_varietiesOf_15 : decode cL_varietiesOf 15 = .ok (.iconst 0, 1) := by decide +kernel
theorem dL_varietiesOf_16 : decode cL_varietiesOf 16 = .ok (.ireturn, 1) := by decide +kernel
theorem dL_yieldLimit_0 : decode cL_yieldLimit 0 = .ok (.aload_n 2, 1) := by decide +kernel
theorem dL_yieldLimit_1 : decode cL_yieldLimit 1 = .ok (.iconst 0, 1) := by decide +kernel
theorem dL_yieldLimit_2 : decode cL_yieldLimit 2 = .ok (.aload_n 0, 1) := by decide +kernel
theorem dL_yieldLimit_3 : decode cL_yieldLimit 3 = .ok (.iload_n 1, 1) := by decide +kernel
theorem dL_yieldLimit_4 : decode cL_yieldLimit 4 = .ok (.invokevirtual 53, 3) := by decide +kernel
theorem dL_yieldLimit_7 : decode cL_yieldLimit 7 = .ok (.i2l, 1) := by decide +kernel
theorem dL_yieldLimit_8 : decode cL_yieldLimit 8 = .ok (.lastore, 1) := by decide +kernel
theorem dL_yieldLimit_9 : decode cL_yieldLimit 9 = .ok (.goto 6, 3) := by decide +kernel
theorem dL_yieldLimit_12 : decode cL_yieldLimit 12 = .ok (.astore_n 3, 1) := by decide +kernel
theorem dL_yieldLimit_13 : decode cL_yieldLimit 13 = .ok (.iconst 1, 1) := by decide +kernel
theorem dL_yieldLimit_14 : decode cL_yieldLimit 14 = .ok (.ireturn, 1) := by decide +kernel
theorem dL_yieldLimit_15 : decode cL_yieldLimit 15 = .ok (.iconst 0, 1) := by decide +kernel
theorem dL_yieldLimit_16 : decode cL_yieldLimit 16 = .ok (.ireturn, 1) := by decide +kernel
theorem dL_harvested_0 : decode cL_harvested 0 = .ok (.aload_n 2, 1) := by decide +kernel
theorem dL_harvested_1 : decode cL_harvested 1 = .ok (.iconst 0, 1) := by decide +kernel
theorem dL_harvested_2 : decode cL_harvested 2 = .ok (.aload_n 0, 1) := by decide +kernel
theorem dL_harvested_3 : decode cL_harvested 3 = .ok (.iload_n 1, 1) := by decide +kernel
theorem dL_harvested_4 : decode cL_harvested 4 = .ok (.invokevirtual 56, 3) := by decide +kernel
theorem dL_harvested_7 : decode cL_harvested 7 = .ok (.i2l, 1) := by decide +kernel
theorem dL_harvested_8 : decode cL_harvested 8 = .ok (.lastore, 1) := by decide +kernel
theorem dL_harvested_9 : decode cL_harvested 9 = .ok (.goto 6, 3) := by decide +kernel
theorem dL_harvested_12 : decode cL_harvested 12 = .ok (.astore_n 3, 1) := by decide +kernel
theorem dL_harvested_13 : decode cL_harvested 13 = .ok (.iconst 1, 1) := by decide +kernel
theorem dL_harvested_14 : decode cL_harvested 14 = .ok (.ireturn, 1) := by decide +kernel
theorem dL_harvested_15 : decode cL_harvested 15 = .ok (.iconst 0, 1) := by decide +kernel
theorem dL_harvested_16 : decode cL_harvested 16 = .ok (.ireturn, 1) := by decide +kernel
theorem dL_yieldLeft_0 : decode cL_yieldLeft 0 = .ok (.aload_n 2, 1) := by decide +kernel
theorem dL_yieldLeft_1 : decode cL_yieldLeft 1 = .ok (.iconst 0, 1) := by decide +kernel
theorem dL_yieldLeft_2 : decode cL_yieldLeft 2 = .ok (.aload_n 0, 1) := by decide +kernel
theorem dL_yieldLeft_3 : decode cL_yieldLeft 3 = .ok (.iload_n 1, 1) := by decide +kernel
theorem dL_yieldLeft_4 : decode cL_yieldLeft 4 = .ok (.invokevirtual 59, 3) := by decide +kernel
theorem dL_yieldLeft_7 : decode cL_yieldLeft 7 = .ok (.i2l, 1) := by decide +kernel
theorem dL_yieldLeft_8 : decode cL_yieldLeft 8 = .ok (.lastore, 1) := by decide +kernel
theorem dL_yieldLeft_9 : decode cL_yieldLeft 9 = .ok (.goto 6, 3) := by decide +kernel
theorem dL_yieldLeft_12 : decode cL_yieldLeft 12 = .ok (.astore_n 3, 1) := by decide +kernel
theorem dL_yieldLeft_13 : decode cL_yieldLeft 13 = .ok (.iconst 1, 1) := by decide +kernel
theorem dL_yieldLeft_14 : decode cL_yieldLeft 14 = .ok (.ireturn, 1) := by decide +kernel
theorem dL_yieldLeft_15 : decode cL_yieldLeft 15 = .ok (.iconst 0, 1) := by decide +kernel
theorem dL_yieldLeft_16 : decode cL_yieldLeft 16 = .ok (.ireturn, 1) := by decide +kernel
theorem dL_plotOfLoad_0 : decode cL_plotOfLoad 0 = .ok (.aload_n 2, 1) := by decide +kernel
theorem dL_plotOfLoad_1 : decode cL_plotOfLoad 1 = .ok (.iconst 0, 1) := by decide +kernel
theorem dL_plotOfLoad_2 : decode cL_plotOfLoad 2 = .ok (.aload_n 0, 1) := by decide +kernel
theorem dL_plotOfLoad_3 : decode cL_plotOfLoad 3 = .ok (.iload_n 1, 1) := by decide +kernel
theorem dL_plotOfLoad_4 : decode cL_plotOfLoad 4 = .ok (.invokevirtual 62, 3) := by decide +kernel
theorem dL_plotOfLoad_7 : decode cL_plotOfLoad 7 = .ok (.i2l, 1) := by decide +kernel
theorem dL_plotOfLoad_8 : decode cL_plotOfLoad 8 = .ok (.lastore, 1) := by decide +kernel
theorem dL_plotOfLoad_9 : decode cL_plotOfLoad 9 = .ok (.goto 6, 3) := by decide +kernel
theorem dL_plotOfLoad_12 : decode cL_plotOfLoad 12 = .ok (.astore_n 3, 1) := by decide +kernel
theorem dL_plotOfLoad_13 : decode cL_plotOfLoad 13 = .ok (.iconst 1, 1) := by decide +kernel
theorem dL_plotOfLoad_14 : decode cL_plotOfLoad 14 = .ok (.ireturn, 1) := by decide +kernel
theorem dL_plotOfLoad_15 : decode cL_plotOfLoad 15 = .ok (.iconst 0, 1) := by decide +kernel
theorem dL_plotOfLoad_16 : decode cL_plotOfLoad 16 = .ok (.ireturn, 1) := by decide +kernel
theorem dL_classOfLoad_0 : decode cL_classOfLoad 0 = .ok (.aload_n 2, 1) := by decide +kernel
theorem dL_classOfLoad_1 : decode cL_classOfLoad 1 = .ok (.iconst 0, 1) := by decide +kernel
theorem dL_classOfLoad_2 : decode cL_classOfLoad 2 = .ok (.aload_n 0, 1) := by decide +kernel
theorem dL_classOfLoad_3 : decode cL_classOfLoad 3 = .ok (.iload_n 1, 1) := by decide +kernel
theorem dL_classOfLoad_4 : decode cL_classOfLoad 4 = .ok (.invokevirtual 65, 3) := by decide +kernel
theorem dL_classOfLoad_7 : decode cL_classOfLoad 7 = .ok (.i2l, 1) := by decide +kernel
theorem dL_classOfLoad_8 : decode cL_classOfLoad 8 = .ok (.lastore, 1) := by decide +kernel
theorem dL_classOfLoad_9 : decode cL_classOfLoad 9 = .ok (.goto 6, 3) := by decide +kernel
theorem dL_classOfLoad_12 : decode cL_classOfLoad 12 = .ok (.astore_n 3, 1) := by decide +kernel
theorem dL_classOfLoad_13 : decode cL_classOfLoad 13 = .ok (.iconst 1, 1) := by decide +kernel
theorem dL_classOfLoad_14 : decode cL_classOfLoad 14 = .ok (.ireturn, 1) := by decide +kernel
theorem dL_classOfLoad_15 : decode cL_classOfLoad 15 = .ok (.iconst 0, 1) := by decide +kernel
theorem dL_classOfLoad_16 : decode cL_classOfLoad 16 = .ok (.ireturn, 1) := by decide +kernel
theorem dL_tankOfLoad_0 : decode cL_tankOfLoad 0 = .ok (.aload_n 2, 1) := by decide +kernel
theorem dL_tankOfLoad_1 : decode cL_tankOfLoad 1 = .ok (.iconst 0, 1) := by decide +kernel
theorem dL_tankOfLoad_2 : decode cL_tankOfLoad 2 = .ok (.aload_n 0, 1) := by decide +kernel
theorem dL_tankOfLoad_3 : decode cL_tankOfLoad 3 = .ok (.iload_n 1, 1) := by decide +kernel
theorem dL_tankOfLoad_4 : decode cL_tankOfLoad 4 = .ok (.invokevirtual 68, 3) := by decide +kernel
theorem dL_tankOfLoad_7 : decode cL_tankOfLoad 7 = .ok (.i2l, 1) := by decide +kernel
theorem dL_tankOfLoad_8 : decode cL_tankOfLoad 8 = .ok (.lastore, 1) := by decide +kernel
theorem dL_tankOfLoad_9 : decode cL_tankOfLoad 9 = .ok (.goto 6, 3) := by decide +kernel
theorem dL_tankOfLoad_12 : decode cL_tankOfLoad 12 = .ok (.astore_n 3, 1) := by decide +kernel
theorem dL_tankOfLoad_13 : decode cL_tankOfLoad 13 = .ok (.iconst 1, 1) := by decide +kernel
theorem dL_tankOfLoad_14 : decode cL_tankOfLoad 14 = .ok (.ireturn, 1) := by decide +kernel
theorem dL_tankOfLoad_15 : decode cL_tankOfLoad 15 = .ok (.iconst 0, 1) := by decide +kernel
theorem dL_tankOfLoad_16 : decode cL_tankOfLoad 16 = .ok (.ireturn, 1) := by decide +kernel
theorem dL_valueOf_0 : decode cL_valueOf 0 = .ok (.aload_n 2, 1) := by decide +kernel
theorem dL_valueOf_1 : decode cL_valueOf 1 = .ok (.iconst 0, 1) := by decide +kernel
theorem dL_valueOf_2 : decode cL_valueOf 2 = .ok (.aload_n 0, 1) := by decide +kernel
theorem dL_valueOf_3 : decode cL_valueOf 3 = .ok (.iload_n 1, 1) := by decide +kernel
theorem dL_valueOf_4 : decode cL_valueOf 4 = .ok (.invokevirtual 71, 3) := by decide +kernel
theorem dL_valueOf_7 : decode cL_valueOf 7 = .ok (.i2l, 1) := by decide +kernel
theorem dL_valueOf_8 : decode cL_valueOf 8 = .ok (.lastore, 1) := by decide +kernel
theorem dL_valueOf_9 : decode cL_valueOf 9 = .ok (.goto 6, 3) := by decide +kernel
theorem dL_valueOf_12 : decode cL_valueOf 12 = .ok (.astore_n 3, 1) := by decide +kernel
theorem dL_valueOf_13 : decode cL_valueOf 13 = .ok (.iconst 1, 1) := by decide +kernel
theorem dL_valueOf_14 : decode cL_valueOf 14 = .ok (.ireturn, 1) := by decide +kernel
theorem dL_valueOf_15 : decode cL_valueOf 15 = .ok (.iconst 0, 1) := by decide +kernel
theorem dL_valueOf_16 : decode cL_valueOf 16 = .ok (.ireturn, 1) := by decide +kernel
theorem dL_isPaid_0 : decode cL_isPaid 0 = .ok (.aload_n 2, 1) := by decide +kernel
theorem dL_isPaid_1 : decode cL_isPaid 1 = .ok (.iconst 0, 1) := by decide +kernel
theorem dL_isPaid_2 : decode cL_isPaid 2 = .ok (.aload_n 0, 1) := by decide +kernel
theorem dL_isPaid_3 : decode cL_isPaid 3 = .ok (.iload_n 1, 1) := by decide +kernel
theorem dL_isPaid_4 : decode cL_isPaid 4 = .ok (.invokevirtual 74, 3) := by decide +kernel
theorem dL_isPaid_7 : decode cL_isPaid 7 = .ok (.ifCond .eq 7, 3) := by decide +kernel
theorem dL_isPaid_10 : decode cL_isPaid 10 = .ok (.lconst 1, 1) := by decide +kernel
theorem dL_isPaid_11 : decode cL_isPaid 11 = .ok (.goto 4, 3) := by decide +kernel
theorem dL_isPaid_14 : decode cL_isPaid 14 = .ok (.lconst 0, 1) := by decide +kernel
theorem dL_isPaid_15 : decode cL_isPaid 15 = .ok (.lastore, 1) := by decide +kernel
theorem dL_isPaid_16 : decode cL_isPaid 16 = .ok (.goto 6, 3) := by decide +kernel
theorem dL_isPaid_19 : decode cL_isPaid 19 = .ok (.astore_n 3, 1) := by decide +kernel
theorem dL_isPaid_20 : decode cL_isPaid 20 = .ok (.iconst 1, 1) := by decide +kernel
theorem dL_isPaid_21 : decode cL_isPaid 21 = .ok (.ireturn, 1) := by decide +kernel
theorem dL_isPaid_22 : decode cL_isPaid 22 = .ok (.iconst 0, 1) := by decide +kernel
theorem dL_isPaid_23 : decode cL_isPaid 23 = .ok (.ireturn, 1) := by decide +kernel
theorem dL_isLowered_0 : decode cL_isLowered 0 = .ok (.aload_n 2, 1) := by decide +kernel
theorem dL_isLowered_1 : decode cL_isLowered 1 = .ok (.iconst 0, 1) := by decide +kernel
theorem dL_isLowered_2 : decode cL_isLowered 2 = .ok (.aload_n 0, 1) := by decide +kernel
theorem dL_isLowered_3 : decode cL_isLowered 3 = .ok (.iload_n 1, 1) := by decide +kernel
theorem dL_isLowered_4 : decode cL_isLowered 4 = .ok (.invokevirtual 78, 3) := by decide +kernel
theorem dL_isLowered_7 : decode cL_isLowered 7 = .ok (.ifCond .eq 7, 3) := by decide +kernel
theorem dL_isLowered_10 : decode cL_isLowered 10 = .ok (.lconst 1, 1) := by decide +kernel
theorem dL_isLowered_11 : decode cL_isLowered 11 = .ok (.goto 4, 3) := by decide +kernel
theorem dL_isLowered_14 : decode cL_isLowered 14 = .ok (.lconst 0, 1) := by decide +kernel
theorem dL_isLowered_15 : decode cL_isLowered 15 = .ok (.lastore, 1) := by decide +kernel
theorem dL_isLowered_16 : decode cL_isLowered 16 = .ok (.goto 6, 3) := by decide +kernel
theorem dL_isLowered_19 : decode cL_isLowered 19 = .ok (.astore_n 3, 1) := by decide +kernel
theorem dL_isLowered_20 : decode cL_isLowered 20 = .ok (.iconst 1, 1) := by decide +kernel
theorem dL_isLowered_21 : decode cL_isLowered 21 = .ok (.ireturn, 1) := by decide +kernel
theorem dL_isLowered_22 : decode cL_isLowered 22 = .ok (.iconst 0, 1) := by decide +kernel
theorem dL_isLowered_23 : decode cL_isLowered 23 = .ok (.ireturn, 1) := by decide +kernel
theorem dL_content_0 : decode cL_content 0 = .ok (.aload_n 2, 1) := by decide +kernel
theorem dL_content_1 : decode cL_content 1 = .ok (.iconst 0, 1) := by decide +kernel
theorem dL_content_2 : decode cL_content 2 = .ok (.aload_n 0, 1) := by decide +kernel
theorem dL_content_3 : decode cL_content 3 = .ok (.iload_n 1, 1) := by decide +kernel
theorem dL_content_4 : decode cL_content 4 = .ok (.invokevirtual 81, 3) := by decide +kernel
theorem dL_content_7 : decode cL_content 7 = .ok (.i2l, 1) := by decide +kernel
theorem dL_content_8 : decode cL_content 8 = .ok (.lastore, 1) := by decide +kernel
theorem dL_content_9 : decode cL_content 9 = .ok (.goto 6, 3) := by decide +kernel
theorem dL_content_12 : decode cL_content 12 = .ok (.astore_n 3, 1) := by decide +kernel
theorem dL_content_13 : decode cL_content 13 = .ok (.iconst 1, 1) := by decide +kernel
theorem dL_content_14 : decode cL_content 14 = .ok (.ireturn, 1) := by decide +kernel
theorem dL_content_15 : decode cL_content 15 = .ok (.iconst 0, 1) := by decide +kernel
theorem dL_content_16 : decode cL_content 16 = .ok (.ireturn, 1) := by decide +kernel
theorem dL_varietyIn_0 : decode cL_varietyIn 0 = .ok (.aload_n 2, 1) := by decide +kernel
theorem dL_varietyIn_1 : decode cL_varietyIn 1 = .ok (.iconst 0, 1) := by decide +kernel
theorem dL_varietyIn_2 : decode cL_varietyIn 2 = .ok (.aload_n 0, 1) := by decide +kernel
theorem dL_varietyIn_3 : decode cL_varietyIn 3 = .ok (.iload_n 1, 1) := by decide +kernel
theorem dL_varietyIn_4 : decode cL_varietyIn 4 = .ok (.invokevirtual 84, 3) := by decide +kernel
theorem dL_varietyIn_7 : decode cL_varietyIn 7 = .ok (.i2l, 1) := by decide +kernel
theorem dL_varietyIn_8 : decode cL_varietyIn 8 = .ok (.lastore, 1) := by decide +kernel
theorem dL_varietyIn_9 : decode cL_varietyIn 9 = .ok (.goto 6, 3) := by decide +kernel
theorem dL_varietyIn_12 : decode cL_varietyIn 12 = .ok (.astore_n 3, 1) := by decide +kernel
theorem dL_varietyIn_13 : decode cL_varietyIn 13 = .ok (.iconst 1, 1) := by decide +kernel
theorem dL_varietyIn_14 : decode cL_varietyIn 14 = .ok (.ireturn, 1) := by decide +kernel
theorem dL_varietyIn_15 : decode cL_varietyIn 15 = .ok (.iconst 0, 1) := by decide +kernel
theorem dL_varietyIn_16 : decode cL_varietyIn 16 = .ok (.ireturn, 1) := by decide +kernel
theorem dL_meanSugar_0 : decode cL_meanSugar 0 = .ok (.aload_n 2, 1) := by decide +kernel
theorem dL_meanSugar_1 : decode cL_meanSugar 1 = .ok (.iconst 0, 1) := by decide +kernel
theorem dL_meanSugar_2 : decode cL_meanSugar 2 = .ok (.aload_n 0, 1) := by decide +kernel
theorem dL_meanSugar_3 : decode cL_meanSugar 3 = .ok (.iload_n 1, 1) := by decide +kernel
theorem dL_meanSugar_4 : decode cL_meanSugar 4 = .ok (.invokevirtual 87, 3) := by decide +kernel
theorem dL_meanSugar_7 : decode cL_meanSugar 7 = .ok (.i2l, 1) := by decide +kernel
theorem dL_meanSugar_8 : decode cL_meanSugar 8 = .ok (.lastore, 1) := by decide +kernel
theorem dL_meanSugar_9 : decode cL_meanSugar 9 = .ok (.goto 6, 3) := by decide +kernel
theorem dL_meanSugar_12 : decode cL_meanSugar 12 = .ok (.astore_n 3, 1) := by decide +kernel
theorem dL_meanSugar_13 : decode cL_meanSugar 13 = .ok (.iconst 1, 1) := by decide +kernel
theorem dL_meanSugar_14 : decode cL_meanSugar 14 = .ok (.ireturn, 1) := by decide +kernel
theorem dL_meanSugar_15 : decode cL_meanSugar 15 = .ok (.iconst 0, 1) := by decide +kernel
theorem dL_meanSugar_16 : decode cL_meanSugar 16 = .ok (.ireturn, 1) := by decide +kernel
theorem dL_tankFor_0 : decode cL_tankFor 0 = .ok (.aload_n 3, 1) := by decide +kernel
theorem dL_tankFor_1 : decode cL_tankFor 1 = .ok (.iconst 0, 1) := by decide +kernel
theorem dL_tankFor_2 : decode cL_tankFor 2 = .ok (.aload_n 0, 1) := by decide +kernel
theorem dL_tankFor_3 : decode cL_tankFor 3 = .ok (.iload_n 1, 1) := by decide +kernel
theorem dL_tankFor_4 : decode cL_tankFor 4 = .ok (.iload_n 2, 1) := by decide +kernel
theorem dL_tankFor_5 : decode cL_tankFor 5 = .ok (.invokevirtual 90, 3) := by decide +kernel
theorem dL_tankFor_8 : decode cL_tankFor 8 = .ok (.i2l, 1) := by decide +kernel
theorem dL_tankFor_9 : decode cL_tankFor 9 = .ok (.lastore, 1) := by decide +kernel
theorem dL_tankFor_10 : decode cL_tankFor 10 = .ok (.goto 11, 3) := by decide +kernel
theorem dL_tankFor_13 : decode cL_tankFor 13 = .ok (.astore 4, 2) := by decide +kernel
theorem dL_tankFor_15 : decode cL_tankFor 15 = .ok (.iconst 1, 1) := by decide +kernel
theorem dL_tankFor_16 : decode cL_tankFor 16 = .ok (.ireturn, 1) := by decide +kernel
theorem dL_tankFor_17 : decode cL_tankFor 17 = .ok (.astore 4, 2) := by decide +kernel
theorem dL_tankFor_19 : decode cL_tankFor 19 = .ok (.iconst 2, 1) := by decide +kernel
theorem dL_tankFor_20 : decode cL_tankFor 20 = .ok (.ireturn, 1) := by decide +kernel
theorem dL_tankFor_21 : decode cL_tankFor 21 = .ok (.iconst 0, 1) := by decide +kernel
theorem dL_tankFor_22 : decode cL_tankFor 22 = .ok (.ireturn, 1) := by decide +kernel
theorem dL_greatestLoad_0 : decode cL_greatestLoad 0 = .ok (.aload_n 2, 1) := by decide +kernel
theorem dL_greatestLoad_1 : decode cL_greatestLoad 1 = .ok (.iconst 0, 1) := by decide +kernel
theorem dL_greatestLoad_2 : decode cL_greatestLoad 2 = .ok (.aload_n 0, 1) := by decide +kernel
theorem dL_greatestLoad_3 : decode cL_greatestLoad 3 = .ok (.iload_n 1, 1) := by decide +kernel
theorem dL_greatestLoad_4 : decode cL_greatestLoad 4 = .ok (.invokevirtual 93, 3) := by decide +kernel
theorem dL_greatestLoad_7 : decode cL_greatestLoad 7 = .ok (.i2l, 1) := by decide +kernel
theorem dL_greatestLoad_8 : decode cL_greatestLoad 8 = .ok (.lastore, 1) := by decide +kernel
theorem dL_greatestLoad_9 : decode cL_greatestLoad 9 = .ok (.goto 6, 3) := by decide +kernel
theorem dL_greatestLoad_12 : decode cL_greatestLoad 12 = .ok (.astore_n 3, 1) := by decide +kernel
theorem dL_greatestLoad_13 : decode cL_greatestLoad 13 = .ok (.iconst 1, 1) := by decide +kernel
theorem dL_greatestLoad_14 : decode cL_greatestLoad 14 = .ok (.ireturn, 1) := by decide +kernel
theorem dL_greatestLoad_15 : decode cL_greatestLoad 15 = .ok (.iconst 0, 1) := by decide +kernel
theorem dL_greatestLoad_16 : decode cL_greatestLoad 16 = .ok (.ireturn, 1) := by decide +kernel
theorem dL_refusal_0 : decode cL_refusal 0 = .ok (.aload 4, 2) := by decide +kernel
theorem dL_refusal_2 : decode cL_refusal 2 = .ok (.iconst 0, 1) := by decide +kernel
theorem dL_refusal_3 : decode cL_refusal 3 = .ok (.aload_n 0, 1) := by decide +kernel
theorem dL_refusal_4 : decode cL_refusal 4 = .ok (.iload_n 1, 1) := by decide +kernel
theorem dL_refusal_5 : decode cL_refusal 5 = .ok (.iload_n 2, 1) := by decide +kernel
theorem dL_refusal_6 : decode cL_refusal 6 = .ok (.iload_n 3, 1) := by decide +kernel
theorem dL_refusal_7 : decode cL_refusal 7 = .ok (.invokevirtual 96, 3) := by decide +kernel
theorem dL_refusal_10 : decode cL_refusal 10 = .ok (.i2l, 1) := by decide +kernel
theorem dL_refusal_11 : decode cL_refusal 11 = .ok (.lastore, 1) := by decide +kernel
theorem dL_refusal_12 : decode cL_refusal 12 = .ok (.goto 11, 3) := by decide +kernel
theorem dL_refusal_15 : decode cL_refusal 15 = .ok (.astore 5, 2) := by decide +kernel
theorem dL_refusal_17 : decode cL_refusal 17 = .ok (.iconst 1, 1) := by decide +kernel
theorem dL_refusal_18 : decode cL_refusal 18 = .ok (.ireturn, 1) := by decide +kernel
theorem dL_refusal_19 : decode cL_refusal 19 = .ok (.astore 5, 2) := by decide +kernel
theorem dL_refusal_21 : decode cL_refusal 21 = .ok (.iconst 2, 1) := by decide +kernel
theorem dL_refusal_22 : decode cL_refusal 22 = .ok (.ireturn, 1) := by decide +kernel
theorem dL_refusal_23 : decode cL_refusal 23 = .ok (.iconst 0, 1) := by decide +kernel
theorem dL_refusal_24 : decode cL_refusal 24 = .ok (.ireturn, 1) := by decide +kernel
theorem dL_valueIfDelivered_0 : decode cL_valueIfDelivered 0 = .ok (.aload 4, 2) := by decide +kernel
theorem dL_valueIfDelivered_2 : decode cL_valueIfDelivered 2 = .ok (.iconst 0, 1) := by decide +kernel
theorem dL_valueIfDelivered_3 : decode cL_valueIfDelivered 3 = .ok (.aload_n 0, 1) := by decide +kernel
theorem dL_valueIfDelivered_4 : decode cL_valueIfDelivered 4 = .ok (.iload_n 1, 1) := by decide +kernel
theorem dL_valueIfDelivered_5 : decode cL_valueIfDelivered 5 = .ok (.iload_n 2, 1) := by decide +kernel
theorem dL_valueIfDelivered_6 : decode cL_valueIfDelivered 6 = .ok (.iload_n 3, 1) := by decide +kernel
theorem dL_valueIfDelivered_7 : decode cL_valueIfDelivered 7 = .ok (.invokevirtual 100, 3) := by decide +kernel
theorem dL_valueIfDelivered_10 : decode cL_valueIfDelivered 10 = .ok (.i2l, 1) := by decide +kernel
theorem dL_valueIfDelivered_11 : decode cL_valueIfDelivered 11 = .ok (.lastore, 1) := by decide +kernel
theorem dL_valueIfDelivered_12 : decode cL_valueIfDelivered 12 = .ok (.goto 11, 3) := by decide +kernel
theorem dL_valueIfDelivered_15 : decode cL_valueIfDelivered 15 = .ok (.astore 5, 2) := by decide +kernel
theorem dL_valueIfDelivered_17 : decode cL_valueIfDelivered 17 = .ok (.iconst 1, 1) := by decide +kernel
theorem dL_valueIfDelivered_18 : decode cL_valueIfDelivered 18 = .ok (.ireturn, 1) := by decide +kernel
theorem dL_valueIfDelivered_19 : decode cL_valueIfDelivered 19 = .ok (.astore 5, 2) := by decide +kernel
theorem dL_valueIfDelivered_21 : decode cL_valueIfDelivered 21 = .ok (.iconst 2, 1) := by decide +kernel
theorem dL_valueIfDelivered_22 : decode cL_valueIfDelivered 22 = .ok (.ireturn, 1) := by decide +kernel
theorem dL_valueIfDelivered_23 : decode cL_valueIfDelivered 23 = .ok (.iconst 0, 1) := by decide +kernel
theorem dL_valueIfDelivered_24 : decode cL_valueIfDelivered 24 = .ok (.ireturn, 1) := by decide +kernel
theorem dL_lotVariety_0 : decode cL_lotVariety 0 = .ok (.aload_n 2, 1) := by decide +kernel
theorem dL_lotVariety_1 : decode cL_lotVariety 1 = .ok (.iconst 0, 1) := by decide +kernel
theorem dL_lotVariety_2 : decode cL_lotVariety 2 = .ok (.aload_n 0, 1) := by decide +kernel
theorem dL_lotVariety_3 : decode cL_lotVariety 3 = .ok (.iload_n 1, 1) := by decide +kernel
theorem dL_lotVariety_4 : decode cL_lotVariety 4 = .ok (.invokevirtual 103, 3) := by decide +kernel
theorem dL_lotVariety_7 : decode cL_lotVariety 7 = .ok (.i2l, 1) := by decide +kernel
theorem dL_lotVariety_8 : decode cL_lotVariety 8 = .ok (.lastore, 1) := by decide +kernel
theorem dL_lotVariety_9 : decode cL_lotVariety 9 = .ok (.goto 6, 3) := by decide +kernel
theorem dL_lotVariety_12 : decode cL_lotVariety 12 = .ok (.astore_n 3, 1) := by decide +kernel
theorem dL_lotVariety_13 : decode cL_lotVariety 13 = .ok (.iconst 1, 1) := by decide +kernel
theorem dL_lotVariety_14 : decode cL_lotVariety 14 = .ok (.ireturn, 1) := by decide +kernel
theorem dL_lotVariety_15 : decode cL_lotVariety 15 = .ok (.iconst 0, 1) := by decide +kernel
theorem dL_lotVariety_16 : decode cL_lotVariety 16 = .ok (.ireturn, 1) := by decide +kernel
theorem dL_lotSugar_0 : decode cL_lotSugar 0 = .ok (.aload_n 2, 1) := by decide +kernel
theorem dL_lotSugar_1 : decode cL_lotSugar 1 = .ok (.iconst 0, 1) := by decide +kernel
theorem dL_lotSugar_2 : decode cL_lotSugar 2 = .ok (.aload_n 0, 1) := by decide +kernel
theorem dL_lotSugar_3 : decode cL_lotSugar 3 = .ok (.iload_n 1, 1) := by decide +kernel
theorem dL_lotSugar_4 : decode cL_lotSugar 4 = .ok (.invokevirtual 106, 3) := by decide +kernel
theorem dL_lotSugar_7 : decode cL_lotSugar 7 = .ok (.i2l, 1) := by decide +kernel
theorem dL_lotSugar_8 : decode cL_lotSugar 8 = .ok (.lastore, 1) := by decide +kernel
theorem dL_lotSugar_9 : decode cL_lotSugar 9 = .ok (.goto 6, 3) := by decide +kernel
theorem dL_lotSugar_12 : decode cL_lotSugar 12 = .ok (.astore_n 3, 1) := by decide +kernel
theorem dL_lotSugar_13 : decode cL_lotSugar 13 = .ok (.iconst 1, 1) := by decide +kernel
theorem dL_lotSugar_14 : decode cL_lotSugar 14 = .ok (.ireturn, 1) := by decide +kernel
theorem dL_lotSugar_15 : decode cL_lotSugar 15 = .ok (.iconst 0, 1) := by decide +kernel
theorem dL_lotSugar_16 : decode cL_lotSugar 16 = .ok (.ireturn, 1) := by decide +kernel
theorem dL_unsold_0 : decode cL_unsold 0 = .ok (.aload_n 2, 1) := by decide +kernel
theorem dL_unsold_1 : decode cL_unsold 1 = .ok (.iconst 0, 1) := by decide +kernel
theorem dL_unsold_2 : decode cL_unsold 2 = .ok (.aload_n 0, 1) := by decide +kernel
theorem dL_unsold_3 : decode cL_unsold 3 = .ok (.iload_n 1, 1) := by decide +kernel
theorem dL_unsold_4 : decode cL_unsold 4 = .ok (.invokevirtual 109, 3) := by decide +kernel
theorem dL_unsold_7 : decode cL_unsold 7 = .ok (.i2l, 1) := by decide +kernel
theorem dL_unsold_8 : decode cL_unsold 8 = .ok (.lastore, 1) := by decide +kernel
theorem dL_unsold_9 : decode cL_unsold 9 = .ok (.goto 6, 3) := by decide +kernel
theorem dL_unsold_12 : decode cL_unsold 12 = .ok (.astore_n 3, 1) := by decide +kernel
theorem dL_unsold_13 : decode cL_unsold 13 = .ok (.iconst 1, 1) := by decide +kernel
theorem dL_unsold_14 : decode cL_unsold 14 = .ok (.ireturn, 1) := by decide +kernel
theorem dL_unsold_15 : decode cL_unsold 15 = .ok (.iconst 0, 1) := by decide +kernel
theorem dL_unsold_16 : decode cL_unsold 16 = .ok (.ireturn, 1) := by decide +kernel
theorem dL_bottlesOf_0 : decode cL_bottlesOf 0 = .ok (.aload_n 2, 1) := by decide +kernel
theorem dL_bottlesOf_1 : decode cL_bottlesOf 1 = .ok (.iconst 0, 1) := by decide +kernel
theorem dL_bottlesOf_2 : decode cL_bottlesOf 2 = .ok (.aload_n 0, 1) := by decide +kernel
theorem dL_bottlesOf_3 : decode cL_bottlesOf 3 = .ok (.iload_n 1, 1) := by decide +kernel
theorem dL_bottlesOf_4 : decode cL_bottlesOf 4 = .ok (.invokevirtual 112, 3) := by decide +kernel
theorem dL_bottlesOf_7 : decode cL_bottlesOf 7 = .ok (.i2l, 1) := by decide +kernel
theorem dL_bottlesOf_8 : decode cL_bottlesOf 8 = .ok (.lastore, 1) := by decide +kernel
theorem dL_bottlesOf_9 : decode cL_bottlesOf 9 = .ok (.goto 6, 3) := by decide +kernel
theorem dL_bottlesOf_12 : decode cL_bottlesOf 12 = .ok (.astore_n 3, 1) := by decide +kernel
theorem dL_bottlesOf_13 : decode cL_bottlesOf 13 = .ok (.iconst 1, 1) := by decide +kernel
theorem dL_bottlesOf_14 : decode cL_bottlesOf 14 = .ok (.ireturn, 1) := by decide +kernel
theorem dL_bottlesOf_15 : decode cL_bottlesOf 15 = .ok (.iconst 0, 1) := by decide +kernel
theorem dL_bottlesOf_16 : decode cL_bottlesOf 16 = .ok (.ireturn, 1) := by decide +kernel
theorem dL_deliver_0 : decode cL_deliver 0 = .ok (.aload 4, 2) := by decide +kernel
theorem dL_deliver_2 : decode cL_deliver 2 = .ok (.iconst 0, 1) := by decide +kernel
theorem dL_deliver_3 : decode cL_deliver 3 = .ok (.aload_n 0, 1) := by decide +kernel
theorem dL_deliver_4 : decode cL_deliver 4 = .ok (.iload_n 1, 1) := by decide +kernel
theorem dL_deliver_5 : decode cL_deliver 5 = .ok (.iload_n 2, 1) := by decide +kernel
theorem dL_deliver_6 : decode cL_deliver 6 = .ok (.iload_n 3, 1) := by decide +kernel
theorem dL_deliver_7 : decode cL_deliver 7 = .ok (.invokevirtual 115, 3) := by decide +kernel
theorem dL_deliver_10 : decode cL_deliver 10 = .ok (.i2l, 1) := by decide +kernel
theorem dL_deliver_11 : decode cL_deliver 11 = .ok (.lastore, 1) := by decide +kernel
theorem dL_deliver_12 : decode cL_deliver 12 = .ok (.goto 15, 3) := by decide +kernel
theorem dL_deliver_15 : decode cL_deliver 15 = .ok (.astore 5, 2) := by decide +kernel
theorem dL_deliver_17 : decode cL_deliver 17 = .ok (.iconst 1, 1) := by decide +kernel
theorem dL_deliver_18 : decode cL_deliver 18 = .ok (.ireturn, 1) := by decide +kernel
theorem dL_deliver_19 : decode cL_deliver 19 = .ok (.astore 5, 2) := by decide +kernel
theorem dL_deliver_21 : decode cL_deliver 21 = .ok (.iconst 2, 1) := by decide +kernel
theorem dL_deliver_22 : decode cL_deliver 22 = .ok (.ireturn, 1) := by decide +kernel
theorem dL_deliver_23 : decode cL_deliver 23 = .ok (.astore 5, 2) := by decide +kernel
theorem dL_deliver_25 : decode cL_deliver 25 = .ok (.iconst 3, 1) := by decide +kernel
theorem dL_deliver_26 : decode cL_deliver 26 = .ok (.ireturn, 1) := by decide +kernel
theorem dL_deliver_27 : decode cL_deliver 27 = .ok (.iconst 0, 1) := by decide +kernel
theorem dL_deliver_28 : decode cL_deliver 28 = .ok (.ireturn, 1) := by decide +kernel
theorem dL_setPrice_0 : decode cL_setPrice 0 = .ok (.aload 4, 2) := by decide +kernel
theorem dL_setPrice_2 : decode cL_setPrice 2 = .ok (.iconst 0, 1) := by decide +kernel
theorem dL_setPrice_3 : decode cL_setPrice 3 = .ok (.aload_n 0, 1) := by decide +kernel
theorem dL_setPrice_4 : decode cL_setPrice 4 = .ok (.iload_n 1, 1) := by decide +kernel
theorem dL_setPrice_5 : decode cL_setPrice 5 = .ok (.iload_n 2, 1) := by decide +kernel
theorem dL_setPrice_6 : decode cL_setPrice 6 = .ok (.iload_n 3, 1) := by decide +kernel
theorem dL_setPrice_7 : decode cL_setPrice 7 = .ok (.invokevirtual 118, 3) := by decide +kernel
theorem dL_setPrice_10 : decode cL_setPrice 10 = .ok (.i2l, 1) := by decide +kernel
theorem dL_setPrice_11 : decode cL_setPrice 11 = .ok (.lastore, 1) := by decide +kernel
theorem dL_setPrice_12 : decode cL_setPrice 12 = .ok (.goto 11, 3) := by decide +kernel
theorem dL_setPrice_15 : decode cL_setPrice 15 = .ok (.astore 5, 2) := by decide +kernel
theorem dL_setPrice_17 : decode cL_setPrice 17 = .ok (.iconst 1, 1) := by decide +kernel
theorem dL_setPrice_18 : decode cL_setPrice 18 = .ok (.ireturn, 1) := by decide +kernel
theorem dL_setPrice_19 : decode cL_setPrice 19 = .ok (.astore 5, 2) := by decide +kernel
theorem dL_setPrice_21 : decode cL_setPrice 21 = .ok (.iconst 2, 1) := by decide +kernel
theorem dL_setPrice_22 : decode cL_setPrice 22 = .ok (.ireturn, 1) := by decide +kernel
theorem dL_setPrice_23 : decode cL_setPrice 23 = .ok (.iconst 0, 1) := by decide +kernel
theorem dL_setPrice_24 : decode cL_setPrice 24 = .ok (.ireturn, 1) := by decide +kernel
theorem dL_bottle_0 : decode cL_bottle 0 = .ok (.aload_n 3, 1) := by decide +kernel
theorem dL_bottle_1 : decode cL_bottle 1 = .ok (.iconst 0, 1) := by decide +kernel
theorem dL_bottle_2 : decode cL_bottle 2 = .ok (.aload_n 0, 1) := by decide +kernel
theorem dL_bottle_3 : decode cL_bottle 3 = .ok (.iload_n 1, 1) := by decide +kernel
theorem dL_bottle_4 : decode cL_bottle 4 = .ok (.iload_n 2, 1) := by decide +kernel
theorem dL_bottle_5 : decode cL_bottle 5 = .ok (.invokevirtual 121, 3) := by decide +kernel
theorem dL_bottle_8 : decode cL_bottle 8 = .ok (.i2l, 1) := by decide +kernel
theorem dL_bottle_9 : decode cL_bottle 9 = .ok (.lastore, 1) := by decide +kernel
theorem dL_bottle_10 : decode cL_bottle 10 = .ok (.goto 15, 3) := by decide +kernel
theorem dL_bottle_13 : decode cL_bottle 13 = .ok (.astore 4, 2) := by decide +kernel
theorem dL_bottle_15 : decode cL_bottle 15 = .ok (.iconst 1, 1) := by decide +kernel
theorem dL_bottle_16 : decode cL_bottle 16 = .ok (.ireturn, 1) := by decide +kernel
theorem dL_bottle_17 : decode cL_bottle 17 = .ok (.astore 4, 2) := by decide +kernel
theorem dL_bottle_19 : decode cL_bottle 19 = .ok (.iconst 2, 1) := by decide +kernel
theorem dL_bottle_20 : decode cL_bottle 20 = .ok (.ireturn, 1) := by decide +kernel
theorem dL_bottle_21 : decode cL_bottle 21 = .ok (.astore 4, 2) := by decide +kernel
theorem dL_bottle_23 : decode cL_bottle 23 = .ok (.iconst 3, 1) := by decide +kernel
theorem dL_bottle_24 : decode cL_bottle 24 = .ok (.ireturn, 1) := by decide +kernel
theorem dL_bottle_25 : decode cL_bottle 25 = .ok (.iconst 0, 1) := by decide +kernel
theorem dL_bottle_26 : decode cL_bottle 26 = .ok (.ireturn, 1) := by decide +kernel
theorem dL_sell_0 : decode cL_sell 0 = .ok (.aload 4, 2) := by decide +kernel
theorem dL_sell_2 : decode cL_sell 2 = .ok (.iconst 0, 1) := by decide +kernel
theorem dL_sell_3 : decode cL_sell 3 = .ok (.aload_n 0, 1) := by decide +kernel
theorem dL_sell_4 : decode cL_sell 4 = .ok (.iload_n 1, 1) := by decide +kernel
theorem dL_sell_5 : decode cL_sell 5 = .ok (.iload_n 2, 1) := by decide +kernel
theorem dL_sell_6 : decode cL_sell 6 = .ok (.iload_n 3, 1) := by decide +kernel
theorem dL_sell_7 : decode cL_sell 7 = .ok (.invokevirtual 124, 3) := by decide +kernel
theorem dL_sell_10 : decode cL_sell 10 = .ok (.i2l, 1) := by decide +kernel
theorem dL_sell_11 : decode cL_sell 11 = .ok (.lastore, 1) := by decide +kernel
theorem dL_sell_12 : decode cL_sell 12 = .ok (.goto 15, 3) := by decide +kernel
theorem dL_sell_15 : decode cL_sell 15 = .ok (.astore 5, 2) := by decide +kernel
theorem dL_sell_17 : decode cL_sell 17 = .ok (.iconst 1, 1) := by decide +kernel
theorem dL_sell_18 : decode cL_sell 18 = .ok (.ireturn, 1) := by decide +kernel
theorem dL_sell_19 : decode cL_sell 19 = .ok (.astore 5, 2) := by decide +kernel
theorem dL_sell_21 : decode cL_sell 21 = .ok (.iconst 2, 1) := by decide +kernel
theorem dL_sell_22 : decode cL_sell 22 = .ok (.ireturn, 1) := by decide +kernel
theorem dL_sell_23 : decode cL_sell 23 = .ok (.astore 5, 2) := by decide +kernel
theorem dL_sell_25 : decode cL_sell 25 = .ok (.iconst 3, 1) := by decide +kernel
theorem dL_sell_26 : decode cL_sell 26 = .ok (.ireturn, 1) := by decide +kernel
theorem dL_sell_27 : decode cL_sell 27 = .ok (.iconst 0, 1) := by decide +kernel
theorem dL_sell_28 : decode cL_sell 28 = .ok (.ireturn, 1) := by decide +kernel
theorem dL_payLoad_0 : decode cL_payLoad 0 = .ok (.aload_n 2, 1) := by decide +kernel
theorem dL_payLoad_1 : decode cL_payLoad 1 = .ok (.iconst 0, 1) := by decide +kernel
theorem dL_payLoad_2 : decode cL_payLoad 2 = .ok (.aload_n 0, 1) := by decide +kernel
theorem dL_payLoad_3 : decode cL_payLoad 3 = .ok (.iload_n 1, 1) := by decide +kernel
theorem dL_payLoad_4 : decode cL_payLoad 4 = .ok (.invokevirtual 127, 3) := by decide +kernel
theorem dL_payLoad_7 : decode cL_payLoad 7 = .ok (.i2l, 1) := by decide +kernel
theorem dL_payLoad_8 : decode cL_payLoad 8 = .ok (.lastore, 1) := by decide +kernel
theorem dL_payLoad_9 : decode cL_payLoad 9 = .ok (.goto 9, 3) := by decide +kernel
theorem dL_payLoad_12 : decode cL_payLoad 12 = .ok (.astore_n 3, 1) := by decide +kernel
theorem dL_payLoad_13 : decode cL_payLoad 13 = .ok (.iconst 1, 1) := by decide +kernel
theorem dL_payLoad_14 : decode cL_payLoad 14 = .ok (.ireturn, 1) := by decide +kernel
theorem dL_payLoad_15 : decode cL_payLoad 15 = .ok (.astore_n 3, 1) := by decide +kernel
theorem dL_payLoad_16 : decode cL_payLoad 16 = .ok (.iconst 2, 1) := by decide +kernel
theorem dL_payLoad_17 : decode cL_payLoad 17 = .ok (.ireturn, 1) := by decide +kernel
theorem dL_payLoad_18 : decode cL_payLoad 18 = .ok (.iconst 0, 1) := by decide +kernel
theorem dL_payLoad_19 : decode cL_payLoad 19 = .ok (.ireturn, 1) := by decide +kernel
theorem dL_payGrower_0 : decode cL_payGrower 0 = .ok (.aload_n 2, 1) := by decide +kernel
theorem dL_payGrower_1 : decode cL_payGrower 1 = .ok (.iconst 0, 1) := by decide +kernel
theorem dL_payGrower_2 : decode cL_payGrower 2 = .ok (.aload_n 0, 1) := by decide +kernel
theorem dL_payGrower_3 : decode cL_payGrower 3 = .ok (.iload_n 1, 1) := by decide +kernel
theorem dL_payGrower_4 : decode cL_payGrower 4 = .ok (.invokevirtual 130, 3) := by decide +kernel
theorem dL_payGrower_7 : decode cL_payGrower 7 = .ok (.i2l, 1) := by decide +kernel
theorem dL_payGrower_8 : decode cL_payGrower 8 = .ok (.lastore, 1) := by decide +kernel
theorem dL_payGrower_9 : decode cL_payGrower 9 = .ok (.goto 9, 3) := by decide +kernel
theorem dL_payGrower_12 : decode cL_payGrower 12 = .ok (.astore_n 3, 1) := by decide +kernel
theorem dL_payGrower_13 : decode cL_payGrower 13 = .ok (.iconst 1, 1) := by decide +kernel
theorem dL_payGrower_14 : decode cL_payGrower 14 = .ok (.ireturn, 1) := by decide +kernel
theorem dL_payGrower_15 : decode cL_payGrower 15 = .ok (.astore_n 3, 1) := by decide +kernel
theorem dL_payGrower_16 : decode cL_payGrower 16 = .ok (.iconst 2, 1) := by decide +kernel
theorem dL_payGrower_17 : decode cL_payGrower 17 = .ok (.ireturn, 1) := by decide +kernel
theorem dL_payGrower_18 : decode cL_payGrower 18 = .ok (.iconst 0, 1) := by decide +kernel
theorem dL_payGrower_19 : decode cL_payGrower 19 = .ok (.ireturn, 1) := by decide +kernel
theorem dL_pump_0 : decode cL_pump 0 = .ok (.aload_n 3, 1) := by decide +kernel
theorem dL_pump_1 : decode cL_pump 1 = .ok (.iconst 0, 1) := by decide +kernel
theorem dL_pump_2 : decode cL_pump 2 = .ok (.aload_n 0, 1) := by decide +kernel
theorem dL_pump_3 : decode cL_pump 3 = .ok (.iload_n 1, 1) := by decide +kernel
theorem dL_pump_4 : decode cL_pump 4 = .ok (.iload_n 2, 1) := by decide +kernel
theorem dL_pump_5 : decode cL_pump 5 = .ok (.invokevirtual 133, 3) := by decide +kernel
theorem dL_pump_8 : decode cL_pump 8 = .ok (.i2l, 1) := by decide +kernel
theorem dL_pump_9 : decode cL_pump 9 = .ok (.lastore, 1) := by decide +kernel
theorem dL_pump_10 : decode cL_pump 10 = .ok (.goto 15, 3) := by decide +kernel
theorem dL_pump_13 : decode cL_pump 13 = .ok (.astore 4, 2) := by decide +kernel
theorem dL_pump_15 : decode cL_pump 15 = .ok (.iconst 1, 1) := by decide +kernel
theorem dL_pump_16 : decode cL_pump 16 = .ok (.ireturn, 1) := by decide +kernel
theorem dL_pump_17 : decode cL_pump 17 = .ok (.astore 4, 2) := by decide +kernel
theorem dL_pump_19 : decode cL_pump 19 = .ok (.iconst 2, 1) := by decide +kernel
theorem dL_pump_20 : decode cL_pump 20 = .ok (.ireturn, 1) := by decide +kernel
theorem dL_pump_21 : decode cL_pump 21 = .ok (.astore 4, 2) := by decide +kernel
theorem dL_pump_23 : decode cL_pump 23 = .ok (.iconst 3, 1) := by decide +kernel
theorem dL_pump_24 : decode cL_pump 24 = .ok (.ireturn, 1) := by decide +kernel
theorem dL_pump_25 : decode cL_pump 25 = .ok (.iconst 0, 1) := by decide +kernel
theorem dL_pump_26 : decode cL_pump 26 = .ok (.ireturn, 1) := by decide +kernel
theorem dL_save_0 : decode cL_save 0 = .ok (.aload_n 2, 1) := by decide +kernel
theorem dL_save_1 : decode cL_save 1 = .ok (.iconst 0, 1) := by decide +kernel
theorem dL_save_2 : decode cL_save 2 = .ok (.aload_n 0, 1) := by decide +kernel
theorem dL_save_3 : decode cL_save 3 = .ok (.iload_n 1, 1) := by decide +kernel
theorem dL_save_4 : decode cL_save 4 = .ok (.invokevirtual 136, 3) := by decide +kernel
theorem dL_save_7 : decode cL_save 7 = .ok (.i2l, 1) := by decide +kernel
theorem dL_save_8 : decode cL_save 8 = .ok (.lastore, 1) := by decide +kernel
theorem dL_save_9 : decode cL_save 9 = .ok (.goto 6, 3) := by decide +kernel
theorem dL_save_12 : decode cL_save 12 = .ok (.astore_n 3, 1) := by decide +kernel
theorem dL_save_13 : decode cL_save 13 = .ok (.iconst 1, 1) := by decide +kernel
theorem dL_save_14 : decode cL_save 14 = .ok (.ireturn, 1) := by decide +kernel
theorem dL_save_15 : decode cL_save 15 = .ok (.iconst 0, 1) := by decide +kernel
theorem dL_save_16 : decode cL_save 16 = .ok (.ireturn, 1) := by decide +kernel
theorem dL_restore_0 : decode cL_restore 0 = .ok (.aload_n 2, 1) := by decide +kernel
theorem dL_restore_1 : decode cL_restore 1 = .ok (.iconst 0, 1) := by decide +kernel
theorem dL_restore_2 : decode cL_restore 2 = .ok (.aload_n 0, 1) := by decide +kernel
theorem dL_restore_3 : decode cL_restore 3 = .ok (.iload_n 1, 1) := by decide +kernel
theorem dL_restore_4 : decode cL_restore 4 = .ok (.invokevirtual 139, 3) := by decide +kernel
theorem dL_restore_7 : decode cL_restore 7 = .ok (.i2l, 1) := by decide +kernel
theorem dL_restore_8 : decode cL_restore 8 = .ok (.lastore, 1) := by decide +kernel
theorem dL_restore_9 : decode cL_restore 9 = .ok (.goto 9, 3) := by decide +kernel
theorem dL_restore_12 : decode cL_restore 12 = .ok (.astore_n 3, 1) := by decide +kernel
theorem dL_restore_13 : decode cL_restore 13 = .ok (.iconst 1, 1) := by decide +kernel
theorem dL_restore_14 : decode cL_restore 14 = .ok (.ireturn, 1) := by decide +kernel
theorem dL_restore_15 : decode cL_restore 15 = .ok (.astore_n 3, 1) := by decide +kernel
theorem dL_restore_16 : decode cL_restore 16 = .ok (.iconst 2, 1) := by decide +kernel
theorem dL_restore_17 : decode cL_restore 17 = .ok (.ireturn, 1) := by decide +kernel
theorem dL_restore_18 : decode cL_restore 18 = .ok (.iconst 0, 1) := by decide +kernel
theorem dL_restore_19 : decode cL_restore 19 = .ok (.ireturn, 1) := by decide +kernel
theorem dL_undo_0 : decode cL_undo 0 = .ok (.aload_n 1, 1) := by decide +kernel
theorem dL_undo_1 : decode cL_undo 1 = .ok (.iconst 0, 1) := by decide +kernel
theorem dL_undo_2 : decode cL_undo 2 = .ok (.aload_n 0, 1) := by decide +kernel
theorem dL_undo_3 : decode cL_undo 3 = .ok (.invokevirtual 142, 3) := by decide +kernel
theorem dL_undo_6 : decode cL_undo 6 = .ok (.i2l, 1) := by decide +kernel
theorem dL_undo_7 : decode cL_undo 7 = .ok (.lastore, 1) := by decide +kernel
theorem dL_undo_8 : decode cL_undo 8 = .ok (.goto 6, 3) := by decide +kernel
theorem dL_undo_11 : decode cL_undo 11 = .ok (.astore_n 2, 1) := by decide +kernel
theorem dL_undo_12 : decode cL_undo 12 = .ok (.iconst 1, 1) := by decide +kernel
theorem dL_undo_13 : decode cL_undo 13 = .ok (.ireturn, 1) := by decide +kernel
theorem dL_undo_14 : decode cL_undo 14 = .ok (.iconst 0, 1) := by decide +kernel
theorem dL_undo_15 : decode cL_undo 15 = .ok (.ireturn, 1) := by decide +kernel
theorem dL_outputByte_0 : decode cL_outputByte 0 = .ok (.aload_n 2, 1) := by decide +kernel
theorem dL_outputByte_1 : decode cL_outputByte 1 = .ok (.iconst 0, 1) := by decide +kernel
theorem dL_outputByte_2 : decode cL_outputByte 2 = .ok (.aload_n 0, 1) := by decide +kernel
theorem dL_outputByte_3 : decode cL_outputByte 3 = .ok (.iload_n 1, 1) := by decide +kernel
theorem dL_outputByte_4 : decode cL_outputByte 4 = .ok (.invokevirtual 146, 3) := by decide +kernel
theorem dL_outputByte_7 : decode cL_outputByte 7 = .ok (.i2l, 1) := by decide +kernel
theorem dL_outputByte_8 : decode cL_outputByte 8 = .ok (.lastore, 1) := by decide +kernel
theorem dL_outputByte_9 : decode cL_outputByte 9 = .ok (.goto 6, 3) := by decide +kernel
theorem dL_outputByte_12 : decode cL_outputByte 12 = .ok (.astore_n 3, 1) := by decide +kernel
theorem dL_outputByte_13 : decode cL_outputByte 13 = .ok (.iconst 1, 1) := by decide +kernel
theorem dL_outputByte_14 : decode cL_outputByte 14 = .ok (.ireturn, 1) := by decide +kernel
theorem dL_outputByte_15 : decode cL_outputByte 15 = .ok (.iconst 0, 1) := by decide +kernel
theorem dL_outputByte_16 : decode cL_outputByte 16 = .ok (.ireturn, 1) := by decide +kernel
