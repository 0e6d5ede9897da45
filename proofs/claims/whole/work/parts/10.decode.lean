theorem dX0_init_0 : decode cX0_init 0 = .ok (.aload_n 0, 1) := by decide +kernel
theorem dX0_init_1 : decode cX0_init 1 = .ok (.invokespecial 3, 3) := by decide +kernel
theorem dX0_init_4 : decode cX0_init 4 = .ok (.aload_n 0, 1) := by decide +kernel
theorem dX0_init_5 : decode cX0_init 5 = .ok (.bipush 16, 2) := by decide +kernel
theorem dX0_init_7 : decode cX0_init 7 = .ok (.newarray .int, 2) := by decide +kernel
theorem dX0_init_9 : decode cX0_init 9 = .ok (.putfield 9, 3) := by decide +kernel
theorem dX0_init_12 : decode cX0_init 12 = .ok (.aload_n 0, 1) := by decide +kernel
theorem dX0_init_13 : decode cX0_init 13 = .ok (.bipush 16, 2) := by decide +kernel
theorem dX0_init_15 : decode cX0_init 15 = .ok (.newarray .int, 2) := by decide +kernel
theorem dX0_init_17 : decode cX0_init 17 = .ok (.putfield 15, 3) := by decide +kernel
theorem dX0_init_20 : decode cX0_init 20 = .ok (.aload_n 0, 1) := by decide +kernel
theorem dX0_init_21 : decode cX0_init 21 = .ok (.iconst 3, 1) := by decide +kernel
theorem dX0_init_22 : decode cX0_init 22 = .ok (.iconst 5, 1) := by decide +kernel
theorem dX0_init_23 : decode cX0_init 23 = .ok (.multianewarray 18 2, 4) := by decide +kernel
theorem dX0_init_27 : decode cX0_init 27 = .ok (.putfield 20, 3) := by decide +kernel
theorem dX0_init_30 : decode cX0_init 30 = .ok (.aload_n 0, 1) := by decide +kernel
theorem dX0_init_31 : decode cX0_init 31 = .ok (.bipush 60, 2) := by decide +kernel
theorem dX0_init_33 : decode cX0_init 33 = .ok (.newarray .int, 2) := by decide +kernel
theorem dX0_init_35 : decode cX0_init 35 = .ok (.putfield 23, 3) := by decide +kernel
theorem dX0_init_38 : decode cX0_init 38 = .ok (.aload_n 0, 1) := by decide +kernel
theorem dX0_init_39 : decode cX0_init 39 = .ok (.bipush 60, 2) := by decide +kernel
theorem dX0_init_41 : decode cX0_init 41 = .ok (.newarray .int, 2) := by decide +kernel
theorem dX0_init_43 : decode cX0_init 43 = .ok (.putfield 26, 3) := by decide +kernel
theorem dX0_init_46 : decode cX0_init 46 = .ok (.aload_n 0, 1) := by decide +kernel
theorem dX0_init_47 : decode cX0_init 47 = .ok (.bipush 60, 2) := by decide +kernel
theorem dX0_init_49 : decode cX0_init 49 = .ok (.newarray .int, 2) := by decide +kernel
theorem dX0_init_51 : decode cX0_init 51 = .ok (.putfield 29, 3) := by decide +kernel
theorem dX0_init_54 : decode cX0_init 54 = .ok (.aload_n 0, 1) := by decide +kernel
theorem dX0_init_55 : decode cX0_init 55 = .ok (.bipush 60, 2) := by decide +kernel
theorem dX0_init_57 : decode cX0_init 57 = .ok (.iconst 5, 1) := by decide +kernel
theorem dX0_init_58 : decode cX0_init 58 = .ok (.multianewarray 18 2, 4) := by decide +kernel
theorem dX0_init_62 : decode cX0_init 62 = .ok (.putfield 32, 3) := by decide +kernel
theorem dX0_init_65 : decode cX0_init 65 = .ok (.aload_n 0, 1) := by decide +kernel
theorem dX0_init_66 : decode cX0_init 66 = .ok (.bipush 8, 2) := by decide +kernel
theorem dX0_init_68 : decode cX0_init 68 = .ok (.putfield 35, 3) := by decide +kernel
theorem dX0_init_71 : decode cX0_init 71 = .ok (.aload_n 0, 1) := by decide +kernel
theorem dX0_init_72 : decode cX0_init 72 = .ok (.iconst 0, 1) := by decide +kernel
theorem dX0_init_73 : decode cX0_init 73 = .ok (.putfield 39, 3) := by decide +kernel
theorem dX0_init_76 : decode cX0_init 76 = .ok (.aload_n 0, 1) := by decide +kernel
theorem dX0_init_77 : decode cX0_init 77 = .ok (.bipush 10, 2) := by decide +kernel
theorem dX0_init_79 : decode cX0_init 79 = .ok (.putfield 42, 3) := by decide +kernel
theorem dX0_init_82 : decode cX0_init 82 = .ok (.aload_n 0, 1) := by decide +kernel
theorem dX0_init_83 : decode cX0_init 83 = .ok (.iconst 0, 1) := by decide +kernel
theorem dX0_init_84 : decode cX0_init 84 = .ok (.putfield 45, 3) := by decide +kernel
theorem dX0_init_87 : decode cX0_init 87 = .ok (.return_, 1) := by decide +kernel
theorem dX0_begin_0 : decode cX0_begin 0 = .ok (.aload_n 0, 1) := by decide +kernel
theorem dX0_begin_1 : decode cX0_begin 1 = .ok (.iload_n 1, 1) := by decide +kernel
theorem dX0_begin_2 : decode cX0_begin 2 = .ok (.putfield 35, 3) := by decide +kernel
theorem dX0_begin_5 : decode cX0_begin 5 = .ok (.aload_n 0, 1) := by decide +kernel
theorem dX0_begin_6 : decode cX0_begin 6 = .ok (.getfield 9, 3) := by decide +kernel
theorem dX0_begin_9 : decode cX0_begin 9 = .ok (.iconst 0, 1) := by decide +kernel
theorem dX0_begin_10 : decode cX0_begin 10 = .ok (.invokestatic 48, 3) := by decide +kernel
theorem dX0_begin_13 : decode cX0_begin 13 = .ok (.aload_n 0, 1) := by decide +kernel
theorem dX0_begin_14 : decode cX0_begin 14 = .ok (.invokevirtual 54, 3) := by decide +kernel
theorem dX0_begin_17 : decode cX0_begin 17 = .ok (.return_, 1) := by decide +kernel
theorem dX0_keepAsTold_0 : decode cX0_keepAsTold 0 = .ok (.aload_n 0, 1) := by decide +kernel
theorem dX0_keepAsTold_1 : decode cX0_keepAsTold 1 = .ok (.getfield 9, 3) := by decide +kernel
theorem dX0_keepAsTold_4 : decode cX0_keepAsTold 4 = .ok (.iconst 0, 1) := by decide +kernel
theorem dX0_keepAsTold_5 : decode cX0_keepAsTold 5 = .ok (.aload_n 0, 1) := by decide +kernel
theorem dX0_keepAsTold_6 : decode cX0_keepAsTold 6 = .ok (.getfield 15, 3) := by decide +kernel
theorem dX0_keepAsTold_9 : decode cX0_keepAsTold 9 = .ok (.iconst 0, 1) := by decide +kernel
theorem dX0_keepAsTold_10 : decode cX0_keepAsTold 10 = .ok (.bipush 16, 2) := by decide +kernel
theorem dX0_keepAsTold_12 : decode cX0_keepAsTold 12 = .ok (.invokestatic 57, 3) := by decide +kernel
theorem dX0_keepAsTold_15 : decode cX0_keepAsTold 15 = .ok (.aload_n 0, 1) := by decide +kernel
theorem dX0_keepAsTold_16 : decode cX0_keepAsTold 16 = .ok (.iconst 0, 1) := by decide +kernel
theorem dX0_keepAsTold_17 : decode cX0_keepAsTold 17 = .ok (.putfield 39, 3) := by decide +kernel
theorem dX0_keepAsTold_20 : decode cX0_keepAsTold 20 = .ok (.aload_n 0, 1) := by decide +kernel
theorem dX0_keepAsTold_21 : decode cX0_keepAsTold 21 = .ok (.dup, 1) := by decide +kernel
theorem dX0_keepAsTold_22 : decode cX0_keepAsTold 22 = .ok (.getfield 45, 3) := by decide +kernel
theorem dX0_keepAsTold_25 : decode cX0_keepAsTold 25 = .ok (.iconst 1, 1) := by decide +kernel
theorem dX0_keepAsTold_26 : decode cX0_keepAsTold 26 = .ok (.iadd, 1) := by decide +kernel
theorem dX0_keepAsTold_27 : decode cX0_keepAsTold 27 = .ok (.putfield 45, 3) := by decide +kernel
theorem dX0_keepAsTold_30 : decode cX0_keepAsTold 30 = .ok (.return_, 1) := by decide +kernel
theorem dX0_tellHeight_0 : decode cX0_tellHeight 0 = .ok (.aload_n 0, 1) := by decide +kernel
theorem dX0_tellHeight_1 : decode cX0_tellHeight 1 = .ok (.getfield 9, 3) := by decide +kernel
theorem dX0_tellHeight_4 : decode cX0_tellHeight 4 = .ok (.iload_n 1, 1) := by decide +kernel
theorem dX0_tellHeight_5 : decode cX0_tellHeight 5 = .ok (.iaload, 1) := by decide +kernel
theorem dX0_tellHeight_6 : decode cX0_tellHeight 6 = .ok (.istore_n 3, 1) := by decide +kernel
theorem dX0_tellHeight_7 : decode cX0_tellHeight 7 = .ok (.aload_n 0, 1) := by decide +kernel
theorem dX0_tellHeight_8 : decode cX0_tellHeight 8 = .ok (.getfield 9, 3) := by decide +kernel
theorem dX0_tellHeight_11 : decode cX0_tellHeight 11 = .ok (.iload_n 1, 1) := by decide +kernel
theorem dX0_tellHeight_12 : decode cX0_tellHeight 12 = .ok (.iload_n 2, 1) := by decide +kernel
theorem dX0_tellHeight_13 : decode cX0_tellHeight 13 = .ok (.iastore, 1) := by decide +kernel
theorem dX0_tellHeight_14 : decode cX0_tellHeight 14 = .ok (.aload_n 0, 1) := by decide +kernel
theorem dX0_tellHeight_15 : decode cX0_tellHeight 15 = .ok (.invokevirtual 54, 3) := by decide +kernel
theorem dX0_tellHeight_18 : decode cX0_tellHeight 18 = .ok (.iload_n 3, 1) := by decide +kernel
theorem dX0_tellHeight_19 : decode cX0_tellHeight 19 = .ok (.ireturn, 1) := by decide +kernel
theorem dX0_tellPull_0 : decode cX0_tellPull 0 = .ok (.aload_n 0, 1) := by decide +kernel
theorem dX0_tellPull_1 : decode cX0_tellPull 1 = .ok (.getfield 20, 3) := by decide +kernel
theorem dX0_tellPull_4 : decode cX0_tellPull 4 = .ok (.iload_n 1, 1) := by decide +kernel
theorem dX0_tellPull_5 : decode cX0_tellPull 5 = .ok (.aaload, 1) := by decide +kernel
theorem dX0_tellPull_6 : decode cX0_tellPull 6 = .ok (.iload_n 2, 1) := by decide +kernel
theorem dX0_tellPull_7 : decode cX0_tellPull 7 = .ok (.iconst 2, 1) := by decide +kernel
theorem dX0_tellPull_8 : decode cX0_tellPull 8 = .ok (.iadd, 1) := by decide +kernel
theorem dX0_tellPull_9 : decode cX0_tellPull 9 = .ok (.iaload, 1) := by decide +kernel
theorem dX0_tellPull_10 : decode cX0_tellPull 10 = .ok (.istore 4, 2) := by decide +kernel
theorem dX0_tellPull_12 : decode cX0_tellPull 12 = .ok (.aload_n 0, 1) := by decide +kernel
theorem dX0_tellPull_13 : decode cX0_tellPull 13 = .ok (.getfield 20, 3) := by decide +kernel
theorem dX0_tellPull_16 : decode cX0_tellPull 16 = .ok (.iload_n 1, 1) := by decide +kernel
theorem dX0_tellPull_17 : decode cX0_tellPull 17 = .ok (.aaload, 1) := by decide +kernel
theorem dX0_tellPull_18 : decode cX0_tellPull 18 = .ok (.iload_n 2, 1) := by decide +kernel
theorem dX0_tellPull_19 : decode cX0_tellPull 19 = .ok (.iconst 2, 1) := by decide +kernel
theorem dX0_tellPull_20 : decode cX0_tellPull 20 = .ok (.iadd, 1) := by decide +kernel
theorem dX0_tellPull_21 : decode cX0_tellPull 21 = .ok (.iload_n 3, 1) := by decide +kernel
theorem dX0_tellPull_22 : decode cX0_tellPull 22 = .ok (.iastore, 1) := by decide +kernel
theorem dX0_tellPull_23 : decode cX0_tellPull 23 = .ok (.aload_n 0, 1) := by decide +kernel
theorem dX0_tellPull_24 : decode cX0_tellPull 24 = .ok (.dup, 1) := by decide +kernel
theorem dX0_tellPull_25 : decode cX0_tellPull 25 = .ok (.getfield 45, 3) := by decide +kernel
theorem dX0_tellPull_28 : decode cX0_tellPull 28 = .ok (.iconst 1, 1) := by decide +kernel
theorem dX0_tellPull_29 : decode cX0_tellPull 29 = .ok (.iadd, 1) := by decide +kernel
theorem dX0_tellPull_30 : decode cX0_tellPull 30 = .ok (.putfield 45, 3) := by decide +kernel
theorem dX0_tellPull_33 : decode cX0_tellPull 33 = .ok (.iload 4, 2) := by decide +kernel
theorem dX0_tellPull_35 : decode cX0_tellPull 35 = .ok (.ireturn, 1) := by decide +kernel
theorem dX0_tellRest_0 : decode cX0_tellRest 0 = .ok (.aload_n 0, 1) := by decide +kernel
theorem dX0_tellRest_1 : decode cX0_tellRest 1 = .ok (.getfield 42, 3) := by decide +kernel
theorem dX0_tellRest_4 : decode cX0_tellRest 4 = .ok (.istore_n 2, 1) := by decide +kernel
theorem dX0_tellRest_5 : decode cX0_tellRest 5 = .ok (.aload_n 0, 1) := by decide +kernel
theorem dX0_tellRest_6 : decode cX0_tellRest 6 = .ok (.iload_n 1, 1) := by decide +kernel
theorem dX0_tellRest_7 : decode cX0_tellRest 7 = .ok (.putfield 42, 3) := by decide +kernel
theorem dX0_tellRest_10 : decode cX0_tellRest 10 = .ok (.aload_n 0, 1) := by decide +kernel
theorem dX0_tellRest_11 : decode cX0_tellRest 11 = .ok (.dup, 1) := by decide +kernel
theorem dX0_tellRest_12 : decode cX0_tellRest 12 = .ok (.getfield 45, 3) := by decide +kernel
theorem dX0_tellRest_15 : decode cX0_tellRest 15 = .ok (.iconst 1, 1) := by decide +kernel
theorem dX0_tellRest_16 : decode cX0_tellRest 16 = .ok (.iadd, 1) := by decide +kernel
theorem dX0_tellRest_17 : decode cX0_tellRest 17 = .ok (.putfield 45, 3) := by decide +kernel
theorem dX0_tellRest_20 : decode cX0_tellRest 20 = .ok (.iload_n 2, 1) := by decide +kernel
theorem dX0_tellRest_21 : decode cX0_tellRest 21 = .ok (.ireturn, 1) := by decide +kernel
theorem dX0_howManyZones_0 : decode cX0_howManyZones 0 = .ok (.aload_n 0, 1) := by decide +kernel
theorem dX0_howManyZones_1 : decode cX0_howManyZones 1 = .ok (.getfield 35, 3) := by decide +kernel
theorem dX0_howManyZones_4 : decode cX0_howManyZones 4 = .ok (.ireturn, 1) := by decide +kernel
theorem dX0_heightOf_0 : decode cX0_heightOf 0 = .ok (.aload_n 0, 1) := by decide +kernel
theorem dX0_heightOf_1 : decode cX0_heightOf 1 = .ok (.getfield 9, 3) := by decide +kernel
theorem dX0_heightOf_4 : decode cX0_heightOf 4 = .ok (.iload_n 1, 1) := by decide +kernel
theorem dX0_heightOf_5 : decode cX0_heightOf 5 = .ok (.iaload, 1) := by decide +kernel
theorem dX0_heightOf_6 : decode cX0_heightOf 6 = .ok (.ireturn, 1) := by decide +kernel
theorem dX0_pullOf_0 : decode cX0_pullOf 0 = .ok (.iload_n 2, 1) := by decide +kernel
theorem dX0_pullOf_1 : decode cX0_pullOf 1 = .ok (.bipush (-2), 2) := by decide +kernel
theorem dX0_pullOf_3 : decode cX0_pullOf 3 = .ok (.iconst 2, 1) := by decide +kernel
theorem dX0_pullOf_4 : decode cX0_pullOf 4 = .ok (.invokestatic 63, 3) := by decide +kernel
theorem dX0_pullOf_7 : decode cX0_pullOf 7 = .ok (.ifCond .eq 16, 3) := by decide +kernel
theorem dX0_pullOf_10 : decode cX0_pullOf 10 = .ok (.aload_n 0, 1) := by decide +kernel
theorem dX0_pullOf_11 : decode cX0_pullOf 11 = .ok (.getfield 20, 3) := by decide +kernel
theorem dX0_pullOf_14 : decode cX0_pullOf 14 = .ok (.iload_n 1, 1) := by decide +kernel
theorem dX0_pullOf_15 : decode cX0_pullOf 15 = .ok (.aaload, 1) := by decide +kernel
theorem dX0_pullOf_16 : decode cX0_pullOf 16 = .ok (.iload_n 2, 1) := by decide +kernel
theorem dX0_pullOf_17 : decode cX0_pullOf 17 = .ok (.iconst 2, 1) := by decide +kernel
theorem dX0_pullOf_18 : decode cX0_pullOf 18 = .ok (.iadd, 1) := by decide +kernel
theorem dX0_pullOf_19 : decode cX0_pullOf 19 = .ok (.iaload, 1) := by decide +kernel
theorem dX0_pullOf_20 : decode cX0_pullOf 20 = .ok (.goto 4, 3) := by decide +kernel
theorem dX0_pullOf_23 : decode cX0_pullOf 23 = .ok (.iconst 0, 1) := by decide +kernel
theorem dX0_pullOf_24 : decode cX0_pullOf 24 = .ok (.ireturn, 1) := by decide +kernel
theorem dX0_restOf_0 : decode cX0_restOf 0 = .ok (.aload_n 0, 1) := by decide +kernel
theorem dX0_restOf_1 : decode cX0_restOf 1 = .ok (.getfield 42, 3) := by decide +kernel
theorem dX0_restOf_4 : decode cX0_restOf 4 = .ok (.ireturn, 1) := by decide +kernel
theorem dX0_howManyChanges_0 : decode cX0_howManyChanges 0 = .ok (.aload_n 0, 1) := by decide +kernel
theorem dX0_howManyChanges_1 : decode cX0_howManyChanges 1 = .ok (.getfield 45, 3) := by decide +kernel
theorem dX0_howManyChanges_4 : decode cX0_howManyChanges 4 = .ok (.ireturn, 1) := by decide +kernel
theorem dX0_howMany_0 : decode cX0_howMany 0 = .ok (.aload_n 0, 1) := by decide +kernel
theorem dX0_howMany_1 : decode cX0_howMany 1 = .ok (.getfield 39, 3) := by decide +kernel
theorem dX0_howMany_4 : decode cX0_howMany 4 = .ok (.ireturn, 1) := by decide +kernel
theorem dX0_roomLeft_0 : decode cX0_roomLeft 0 = .ok (.bipush 60, 2) := by decide +kernel
theorem dX0_roomLeft_2 : decode cX0_roomLeft 2 = .ok (.aload_n 0, 1) := by decide +kernel
theorem dX0_roomLeft_3 : decode cX0_roomLeft 3 = .ok (.getfield 39, 3) := by decide +kernel
theorem dX0_roomLeft_6 : decode cX0_roomLeft 6 = .ok (.isub, 1) := by decide +kernel
theorem dX0_roomLeft_7 : decode cX0_roomLeft 7 = .ok (.ireturn, 1) := by decide +kernel
theorem dX0_minutesTogether_0 : decode cX0_minutesTogether 0 = .ok (.iconst 0, 1) := by decide +kernel
theorem dX0_minutesTogether_1 : decode cX0_minutesTogether 1 = .ok (.istore_n 1, 1) := by decide +kernel
theorem dX0_minutesTogether_2 : decode cX0_minutesTogether 2 = .ok (.iconst 0, 1) := by decide +kernel
theorem dX0_minutesTogether_3 : decode cX0_minutesTogether 3 = .ok (.istore_n 2, 1) := by decide +kernel
theorem dX0_minutesTogether_4 : decode cX0_minutesTogether 4 = .ok (.iload_n 2, 1) := by decide +kernel
theorem dX0_minutesTogether_5 : decode cX0_minutesTogether 5 = .ok (.aload_n 0, 1) := by decide +kernel
theorem dX0_minutesTogether_6 : decode cX0_minutesTogether 6 = .ok (.getfield 39, 3) := by decide +kernel
theorem dX0_minutesTogether_9 : decode cX0_minutesTogether 9 = .ok (.if_icmp .ge 18, 3) := by decide +kernel
theorem dX0_minutesTogether_12 : decode cX0_minutesTogether 12 = .ok (.iload_n 1, 1) := by decide +kernel
theorem dX0_minutesTogether_13 : decode cX0_minutesTogether 13 = .ok (.aload_n 0, 1) := by decide +kernel
theorem dX0_minutesTogether_14 : decode cX0_minutesTogether 14 = .ok (.getfield 29, 3) := by decide +kernel
theorem dX0_minutesTogether_17 : decode cX0_minutesTogether 17 = .ok (.iload_n 2, 1) := by decide +kernel
theorem dX0_minutesTogether_18 : decode cX0_minutesTogether 18 = .ok (.iaload, 1) := by decide +kernel
theorem dX0_minutesTogether_19 : decode cX0_minutesTogether 19 = .ok (.iadd, 1) := by decide +kernel
theorem dX0_minutesTogether_20 : decode cX0_minutesTogether 20 = .ok (.istore_n 1, 1) := by decide +kernel
theorem dX0_minutesTogether_21 : decode cX0_minutesTogether 21 = .ok (.iinc 2 1, 3) := by decide +kernel
theorem dX0_minutesTogether_24 : decode cX0_minutesTogether 24 = .ok (.goto (-20), 3) := by decide +kernel
theorem dX0_minutesTogether_27 : decode cX0_minutesTogether 27 = .ok (.iload_n 1, 1) := by decide +kernel
theorem dX0_minutesTogether_28 : decode cX0_minutesTogether 28 = .ok (.ireturn, 1) := by decide +kernel
theorem dX0_wouldSink_0 : decode cX0_wouldSink 0 = .ok (.bipush (-2), 2) := by decide +kernel
theorem dX0_wouldSink_2 : decode cX0_wouldSink 2 = .ok (.istore 4, 2) := by decide +kernel
theorem dX0_wouldSink_4 : decode cX0_wouldSink 4 = .ok (.iload 4, 2) := by decide +kernel
theorem dX0_wouldSink_6 : decode cX0_wouldSink 6 = .ok (.iconst 2, 1) := by decide +kernel
theorem dX0_wouldSink_7 : decode cX0_wouldSink 7 = .ok (.if_icmp .gt 46, 3) := by decide +kernel
theorem dX0_wouldSink_10 : decode cX0_wouldSink 10 = .ok (.aload_n 0, 1) := by decide +kernel
theorem dX0_wouldSink_11 : decode cX0_wouldSink 11 = .ok (.iload_n 2, 1) := by decide +kernel
theorem dX0_wouldSink_12 : decode cX0_wouldSink 12 = .ok (.iload 4, 2) := by decide +kernel
theorem dX0_wouldSink_14 : decode cX0_wouldSink 14 = .ok (.iadd, 1) := by decide +kernel
theorem dX0_wouldSink_15 : decode cX0_wouldSink 15 = .ok (.invokevirtual 67, 3) := by decide +kernel
theorem dX0_wouldSink_18 : decode cX0_wouldSink 18 = .ok (.ifCond .eq 29, 3) := by decide +kernel
theorem dX0_wouldSink_21 : decode cX0_wouldSink 21 = .ok (.aload_n 0, 1) := by decide +kernel
theorem dX0_wouldSink_22 : decode cX0_wouldSink 22 = .ok (.getfield 9, 3) := by decide +kernel
theorem dX0_wouldSink_25 : decode cX0_wouldSink 25 = .ok (.iload_n 2, 1) := by decide +kernel
theorem dX0_wouldSink_26 : decode cX0_wouldSink 26 = .ok (.iload 4, 2) := by decide +kernel
theorem dX0_wouldSink_28 : decode cX0_wouldSink 28 = .ok (.iadd, 1) := by decide +kernel
theorem dX0_wouldSink_29 : decode cX0_wouldSink 29 = .ok (.iaload, 1) := by decide +kernel
theorem dX0_wouldSink_30 : decode cX0_wouldSink 30 = .ok (.iload_n 3, 1) := by decide +kernel
theorem dX0_wouldSink_31 : decode cX0_wouldSink 31 = .ok (.aload_n 0, 1) := by decide +kernel
theorem dX0_wouldSink_32 : decode cX0_wouldSink 32 = .ok (.iload_n 1, 1) := by decide +kernel
theorem dX0_wouldSink_33 : decode cX0_wouldSink 33 = .ok (.iload 4, 2) := by decide +kernel
theorem dX0_wouldSink_35 : decode cX0_wouldSink 35 = .ok (.invokevirtual 71, 3) := by decide +kernel
theorem dX0_wouldSink_38 : decode cX0_wouldSink 38 = .ok (.imul, 1) := by decide +kernel
theorem dX0_wouldSink_39 : decode cX0_wouldSink 39 = .ok (.isub, 1) := by decide +kernel
theorem dX0_wouldSink_40 : decode cX0_wouldSink 40 = .ok (.ldc 75, 2) := by decide +kernel
theorem dX0_wouldSink_42 : decode cX0_wouldSink 42 = .ok (.if_icmp .ge 5, 3) := by decide +kernel
theorem dX0_wouldSink_45 : decode cX0_wouldSink 45 = .ok (.iconst 1, 1) := by decide +kernel
theorem dX0_wouldSink_46 : decode cX0_wouldSink 46 = .ok (.ireturn, 1) := by decide +kernel
theorem dX0_wouldSink_47 : decode cX0_wouldSink 47 = .ok (.iinc 4 1, 3) := by decide +kernel
theorem dX0_wouldSink_50 : decode cX0_wouldSink 50 = .ok (.goto (-46), 3) := by decide +kernel
theorem dX0_wouldSink_53 : decode cX0_wouldSink 53 = .ok (.iconst 0, 1) := by decide +kernel
theorem dX0_wouldSink_54 : decode cX0_wouldSink 54 = .ok (.ireturn, 1) := by decide +kernel
theorem dX0_isThere_0 : decode cX0_isThere 0 = .ok (.iload_n 1, 1) := by decide +kernel
theorem dX0_isThere_1 : decode cX0_isThere 1 = .ok (.iconst 0, 1) := by decide +kernel
theorem dX0_isThere_2 : decode cX0_isThere 2 = .ok (.aload_n 0, 1) := by decide +kernel
theorem dX0_isThere_3 : decode cX0_isThere 3 = .ok (.getfield 35, 3) := by decide +kernel
theorem dX0_isThere_6 : decode cX0_isThere 6 = .ok (.iconst 1, 1) := by decide +kernel
theorem dX0_isThere_7 : decode cX0_isThere 7 = .ok (.isub, 1) := by decide +kernel
theorem dX0_isThere_8 : decode cX0_isThere 8 = .ok (.invokestatic 63, 3) := by decide +kernel
theorem dX0_isThere_11 : decode cX0_isThere 11 = .ok (.ireturn, 1) := by decide +kernel
theorem dX0_doStroke_0 : decode cX0_doStroke 0 = .ok (.aload_n 0, 1) := by decide +kernel
theorem dX0_doStroke_1 : decode cX0_doStroke 1 = .ok (.getfield 39, 3) := by decide +kernel
theorem dX0_doStroke_4 : decode cX0_doStroke 4 = .ok (.bipush 60, 2) := by decide +kernel
theorem dX0_doStroke_6 : decode cX0_doStroke 6 = .ok (.if_icmp .lt 4, 3) := by decide +kernel
theorem dX0_doStroke_9 : decode cX0_doStroke 9 = .ok (.return_, 1) := by decide +kernel
theorem dX0_doStroke_10 : decode cX0_doStroke 10 = .ok (.bipush (-2), 2) := by decide +kernel
theorem dX0_doStroke_12 : decode cX0_doStroke 12 = .ok (.istore 4, 2) := by decide +kernel
theorem dX0_doStroke_14 : decode cX0_doStroke 14 = .ok (.iload 4, 2) := by decide +kernel
theorem dX0_doStroke_16 : decode cX0_doStroke 16 = .ok (.iconst 2, 1) := by decide +kernel
theorem dX0_doStroke_17 : decode cX0_doStroke 17 = .ok (.if_icmp .gt 76, 3) := by decide +kernel
theorem dX0_doStroke_20 : decode cX0_doStroke 20 = .ok (.aload_n 0, 1) := by decide +kernel
theorem dX0_doStroke_21 : decode cX0_doStroke 21 = .ok (.iload_n 2, 1) := by decide +kernel
theorem dX0_doStroke_22 : decode cX0_doStroke 22 = .ok (.iload 4, 2) := by decide +kernel
theorem dX0_doStroke_24 : decode cX0_doStroke 24 = .ok (.iadd, 1) := by decide +kernel
theorem dX0_doStroke_25 : decode cX0_doStroke 25 = .ok (.invokevirtual 67, 3) := by decide +kernel
theorem dX0_doStroke_28 : decode cX0_doStroke 28 = .ok (.ifCond .eq 15, 3) := by decide +kernel
theorem dX0_doStroke_31 : decode cX0_doStroke 31 = .ok (.iload_n 3, 1) := by decide +kernel
theorem dX0_doStroke_32 : decode cX0_doStroke 32 = .ok (.aload_n 0, 1) := by decide +kernel
theorem dX0_doStroke_33 : decode cX0_doStroke 33 = .ok (.iload_n 1, 1) := by decide +kernel
theorem dX0_doStroke_34 : decode cX0_doStroke 34 = .ok (.iload 4, 2) := by decide +kernel
theorem dX0_doStroke_36 : decode cX0_doStroke 36 = .ok (.invokevirtual 71, 3) := by decide +kernel
theorem dX0_doStroke_39 : decode cX0_doStroke 39 = .ok (.imul, 1) := by decide +kernel
theorem dX0_doStroke_40 : decode cX0_doStroke 40 = .ok (.goto 4, 3) := by decide +kernel
theorem dX0_doStroke_43 : decode cX0_doStroke 43 = .ok (.iconst 0, 1) := by decide +kernel
theorem dX0_doStroke_44 : decode cX0_doStroke 44 = .ok (.istore 5, 2) := by decide +kernel
theorem dX0_doStroke_46 : decode cX0_doStroke 46 = .ok (.aload_n 0, 1) := by decide +kernel
theorem dX0_doStroke_47 : decode cX0_doStroke 47 = .ok (.getfield 32, 3) := by decide +kernel
theorem dX0_doStroke_50 : decode cX0_doStroke 50 = .ok (.aload_n 0, 1) := by decide +kernel
theorem dX0_doStroke_51 : decode cX0_doStroke 51 = .ok (.getfield 39, 3) := by decide +kernel
theorem dX0_doStroke_54 : decode cX0_doStroke 54 = .ok (.aaload, 1) := by decide +kernel
theorem dX0_doStroke_55 : decode cX0_doStroke 55 = .ok (.iload 4, 2) := by decide +kernel
theorem dX0_doStroke_57 : decode cX0_doStroke 57 = .ok (.iconst 2, 1) := by decide +kernel
theorem dX0_doStroke_58 : decode cX0_doStroke 58 = .ok (.iadd, 1) := by decide +kernel
theorem dX0_doStroke_59 : decode cX0_doStroke 59 = .ok (.iload 5, 2) := by decide +kernel
theorem dX0_doStroke_61 : decode cX0_doStroke 61 = .ok (.iastore, 1) := by decide +kernel
theorem dX0_doStroke_62 : decode cX0_doStroke 62 = .ok (.aload_n 0, 1) := by decide +kernel
theorem dX0_doStroke_63 : decode cX0_doStroke 63 = .ok (.iload_n 2, 1) := by decide +kernel
theorem dX0_doStroke_64 : decode cX0_doStroke 64 = .ok (.iload 4, 2) := by decide +kernel
theorem dX0_doStroke_66 : decode cX0_doStroke 66 = .ok (.iadd, 1) := by decide +kernel
theorem dX0_doStroke_67 : decode cX0_doStroke 67 = .ok (.invokevirtual 67, 3) := by decide +kernel
theorem dX0_doStroke_70 : decode cX0_doStroke 70 = .ok (.ifCond .eq 17, 3) := by decide +kernel
theorem dX0_doStroke_73 : decode cX0_doStroke 73 = .ok (.aload_n 0, 1) := by decide +kernel
theorem dX0_doStroke_74 : decode cX0_doStroke 74 = .ok (.getfield 9, 3) := by decide +kernel
theorem dX0_doStroke_77 : decode cX0_doStroke 77 = .ok (.iload_n 2, 1) := by decide +kernel
theorem dX0_doStroke_78 : decode cX0_doStroke 78 = .ok (.iload 4, 2) := by decide +kernel
theorem dX0_doStroke_80 : decode cX0_doStroke 80 = .ok (.iadd, 1) := by decide +kernel
theorem dX0_doStroke_81 : decode cX0_doStroke 81 = .ok (.dup2, 1) := by decide +kernel
theorem dX0_doStroke_82 : decode cX0_doStroke 82 = .ok (.iaload, 1) := by decide +kernel
theorem dX0_doStroke_83 : decode cX0_doStroke 83 = .ok (.iload 5, 2) := by decide +kernel
theorem dX0_doStroke_85 : decode cX0_doStroke 85 = .ok (.isub, 1) := by decide +kernel
theorem dX0_doStroke_86 : decode cX0_doStroke 86 = .ok (.iastore, 1) := by decide +kernel
theorem dX0_doStroke_87 : decode cX0_doStroke 87 = .ok (.iinc 4 1, 3) := by decide +kernel
theorem dX0_doStroke_90 : decode cX0_doStroke 90 = .ok (.goto (-76), 3) := by decide +kernel
theorem dX0_doStroke_93 : decode cX0_doStroke 93 = .ok (.aload_n 0, 1) := by decide +kernel
theorem dX0_doStroke_94 : decode cX0_doStroke 94 = .ok (.getfield 23, 3) := by decide +kernel
theorem dX0_doStroke_97 : decode cX0_doStroke 97 = .ok (.aload_n 0, 1) := by decide +kernel
theorem dX0_doStroke_98 : decode cX0_doStroke 98 = .ok (.getfield 39, 3) := by decide +kernel
theorem dX0_doStroke_101 : decode cX0_doStroke 101 = .ok (.iload_n 1, 1) := by decide +kernel
theorem dX0_doStroke_102 : decode cX0_doStroke 102 = .ok (.iastore, 1) := by decide +kernel
theorem dX0_doStroke_103 : decode cX0_doStroke 103 = .ok (.aload_n 0, 1) := by decide +kernel
theorem dX0_doStroke_104 : decode cX0_doStroke 104 = .ok (.getfield 26, 3) := by decide +kernel
theorem dX0_doStroke_107 : decode cX0_doStroke 107 = .ok (.aload_n 0, 1) := by decide +kernel
theorem dX0_doStroke_108 : decode cX0_doStroke 108 = .ok (.getfield 39, 3) := by decide +kernel
theorem dX0_doStroke_111 : decode cX0_doStroke 111 = .ok (.iload_n 2, 1) := by decide +kernel
theorem dX0_doStroke_112 : decode cX0_doStroke 112 = .ok (.iastore, 1) := by decide +kernel
theorem dX0_doStroke_113 : decode cX0_doStroke 113 = .ok (.aload_n 0, 1) := by decide +kernel
theorem dX0_doStroke_114 : decode cX0_doStroke 114 = .ok (.getfield 29, 3) := by decide +kernel
theorem dX0_doStroke_117 : decode cX0_doStroke 117 = .ok (.aload_n 0, 1) := by decide +kernel
theorem dX0_doStroke_118 : decode cX0_doStroke 118 = .ok (.getfield 39, 3) := by decide +kernel
theorem dX0_doStroke_121 : decode cX0_doStroke 121 = .ok (.iload_n 3, 1) := by decide +kernel
theorem dX0_doStroke_122 : decode cX0_doStroke 122 = .ok (.iastore, 1) := by decide +kernel
theorem dX0_doStroke_123 : decode cX0_doStroke 123 = .ok (.aload_n 0, 1) := by decide +kernel
theorem dX0_doStroke_124 : decode cX0_doStroke 124 = .ok (.dup, 1) := by decide +kernel
theorem dX0_doStroke_125 : decode cX0_doStroke 125 = .ok (.getfield 39, 3) := by decide +kernel
theorem dX0_doStroke_128 : decode cX0_doStroke 128 = .ok (.iconst 1, 1) := by decide +kernel
theorem dX0_doStroke_129 : decode cX0_doStroke 129 = .ok (.iadd, 1) := by decide +kernel
theorem dX0_doStroke_130 : decode cX0_doStroke 130 = .ok (.putfield 39, 3) := by decide +kernel
theorem dX0_doStroke_133 : decode cX0_doStroke 133 = .ok (.aload_n 0, 1) := by decide +kernel
theorem dX0_doStroke_134 : decode cX0_doStroke 134 = .ok (.dup, 1) := by decide +kernel
theorem dX0_doStroke_135 : decode cX0_doStroke 135 = .ok (.getfield 45, 3) := by decide +kernel
theorem dX0_doStroke_138 : decode cX0_doStroke 138 = .ok (.iconst 1, 1) := by decide +kernel
theorem dX0_doStroke_139 : decode cX0_doStroke 139 = .ok (.iadd, 1) := by decide +kernel
theorem dX0_doStroke_140 : decode cX0_doStroke 140 = .ok (.putfield 45, 3) := by decide +kernel
theorem dX0_doStroke_143 : decode cX0_doStroke 143 = .ok (.return_, 1) := by decide +kernel
theorem dX0_undoLatest_0 : decode cX0_undoLatest 0 = .ok (.aload_n 0, 1) := by decide +kernel
theorem dX0_undoLatest_1 : decode cX0_undoLatest 1 = .ok (.getfield 39, 3) := by decide +kernel
theorem dX0_undoLatest_4 : decode cX0_undoLatest 4 = .ok (.iconst 1, 1) := by decide +kernel
theorem dX0_undoLatest_5 : decode cX0_undoLatest 5 = .ok (.if_icmp .ge 4, 3) := by decide +kernel
theorem dX0_undoLatest_8 : decode cX0_undoLatest 8 = .ok (.return_, 1) := by decide +kernel
theorem dX0_undoLatest_9 : decode cX0_undoLatest 9 = .ok (.aload_n 0, 1) := by decide +kernel
theorem dX0_undoLatest_10 : decode cX0_undoLatest 10 = .ok (.dup, 1) := by decide +kernel
theorem dX0_undoLatest_11 : decode cX0_undoLatest 11 = .ok (.getfield 39, 3) := by decide +kernel
theorem dX0_undoLatest_14 : decode cX0_undoLatest 14 = .ok (.iconst 1, 1) := by decide +kernel
theorem dX0_undoLatest_15 : decode cX0_undoLatest 15 = .ok (.isub, 1) := by decide +kernel
theorem dX0_undoLatest_16 : decode cX0_undoLatest 16 = .ok (.putfield 39, 3) := by decide +kernel
theorem dX0_undoLatest_19 : decode cX0_undoLatest 19 = .ok (.aload_n 0, 1) := by decide +kernel
theorem dX0_undoLatest_20 : decode cX0_undoLatest 20 = .ok (.getfield 26, 3) := by decide +kernel
theorem dX0_undoLatest_23 : decode cX0_undoLatest 23 = .ok (.aload_n 0, 1) := by decide +kernel
theorem dX0_undoLatest_24 : decode cX0_undoLatest 24 = .ok (.getfield 39, 3) := by decide +kernel
theorem dX0_undoLatest_27 : decode cX0_undoLatest 27 = .ok (.iaload, 1) := by decide +kernel
theorem dX0_undoLatest_28 : decode cX0_undoLatest 28 = .ok (.istore_n 1, 1) := by decide +kernel
theorem dX0_undoLatest_29 : decode cX0_undoLatest 29 = .ok (.bipush (-2), 2) := by decide +kernel
theorem dX0_undoLatest_31 : decode cX0_undoLatest 31 = .ok (.istore_n 2, 1) := by decide +kernel
theorem dX0_undoLatest_32 : decode cX0_undoLatest 32 = .ok (.iload_n 2, 1) := by decide +kernel
theorem dX0_undoLatest_33 : decode cX0_undoLatest 33 = .ok (.iconst 2, 1) := by decide +kernel
theorem dX0_undoLatest_34 : decode cX0_undoLatest 34 = .ok (.if_icmp .gt 43, 3) := by decide +kernel
theorem dX0_undoLatest_37 : decode cX0_undoLatest 37 = .ok (.aload_n 0, 1) := by decide +kernel
theorem dX0_undoLatest_38 : decode cX0_undoLatest 38 = .ok (.iload_n 1, 1) := by decide +kernel
theorem dX0_undoLatest_39 : decode cX0_undoLatest 39 = .ok (.iload_n 2, 1) := by decide +kernel
theorem dX0_undoLatest_40 : decode cX0_undoLatest 40 = .ok (.iadd, 1) := by decide +kernel
theorem dX0_undoLatest_41 : decode cX0_undoLatest 41 = .ok (.invokevirtual 67, 3) := by decide +kernel
theorem dX0_undoLatest_44 : decode cX0_undoLatest 44 = .ok (.ifCond .eq 27, 3) := by decide +kernel
theorem dX0_undoLatest_47 : decode cX0_undoLatest 47 = .ok (.aload_n 0, 1) := by decide +kernel
theorem dX0_undoLatest_48 : decode cX0_undoLatest 48 = .ok (.getfield 9, 3) := by decide +kernel
theorem dX0_undoLatest_51 : decode cX0_undoLatest 51 = .ok (.iload_n 1, 1) := by decide +kernel
theorem dX0_undoLatest_52 : decode cX0_undoLatest 52 = .ok (.iload_n 2, 1) := by decide +kernel
theorem dX0_undoLatest_53 : decode cX0_undoLatest 53 = .ok (.iadd, 1) := by decide +kernel
theorem dX0_undoLatest_54 : decode cX0_undoLatest 54 = .ok (.dup2, 1) := by decide +kernel
theorem dX0_undoLatest_55 : decode cX0_undoLatest 55 = .ok (.iaload, 1) := by decide +kernel
theorem dX0_undoLatest_56 : decode cX0_undoLatest 56 = .ok (.aload_n 0, 1) := by decide +kernel
theorem dX0_undoLatest_57 : decode cX0_undoLatest 57 = .ok (.getfield 32, 3) := by decide +kernel
theorem dX0_undoLatest_60 : decode cX0_undoLatest 60 = .ok (.aload_n 0, 1) := by decide +kernel
theorem dX0_undoLatest_61 : decode cX0_undoLatest 61 = .ok (.getfield 39, 3) := by decide +kernel
theorem dX0_undoLatest_64 : decode cX0_undoLatest 64 = .ok (.aaload, 1) := by decide +kernel
theorem dX0_undoLatest_65 : decode cX0_undoLatest 65 = .ok (.iload_n 2, 1) := by decide +kernel
theorem dX0_undoLatest_66 : decode cX0_undoLatest 66 = .ok (.iconst 2, 1) := by decide +kernel
theorem dX0_undoLatest_67 : decode cX0_undoLatest 67 = .ok (.iadd, 1) := by decide +kernel
theorem dX0_undoLatest_68 : decode cX0_undoLatest 68 = .ok (.iaload, 1) := by decide +kernel
theorem dX0_undoLatest_69 : decode cX0_undoLatest 69 = .ok (.iadd, 1) := by decide +kernel
theorem dX0_undoLatest_70 : decode cX0_undoLatest 70 = .ok (.iastore, 1) := by decide +kernel
theorem dX0_undoLatest_71 : decode cX0_undoLatest 71 = .ok (.iinc 2 1, 3) := by decide +kernel
theorem dX0_undoLatest_74 : decode cX0_undoLatest 74 = .ok (.goto (-42), 3) := by decide +kernel
theorem dX0_undoLatest_77 : decode cX0_undoLatest 77 = .ok (.aload_n 0, 1) := by decide +kernel
theorem dX0_undoLatest_78 : decode cX0_undoLatest 78 = .ok (.dup, 1) := by decide +kernel
theorem dX0_undoLatest_79 : decode cX0_undoLatest 79 = .ok (.getfield 45, 3) := by decide +kernel
theorem dX0_undoLatest_82 : decode cX0_undoLatest 82 = .ok (.iconst 1, 1) := by decide +kernel
theorem dX0_undoLatest_83 : decode cX0_undoLatest 83 = .ok (.iadd, 1) := by decide +kernel
theorem dX0_undoLatest_84 : decode cX0_undoLatest 84 = .ok (.putfield 45, 3) := by decide +kernel
theorem dX0_undoLatest_87 : decode cX0_undoLatest 87 = .ok (.return_, 1) := by decide +kernel
theorem dX0_replayed_0 : decode cX0_replayed 0 = .ok (.aload_n 0, 1) := by decide +kernel
theorem dX0_replayed_1 : decode cX0_replayed 1 = .ok (.getfield 15, 3) := by decide +kernel
theorem dX0_replayed_4 : decode cX0_replayed 4 = .ok (.iload_n 1, 1) := by decide +kernel
theorem dX0_replayed_5 : decode cX0_replayed 5 = .ok (.iaload, 1) := by decide +kernel
theorem dX0_replayed_6 : decode cX0_replayed 6 = .ok (.istore_n 3, 1) := by decide +kernel
theorem dX0_replayed_7 : decode cX0_replayed 7 = .ok (.iconst 0, 1) := by decide +kernel
theorem dX0_replayed_8 : decode cX0_replayed 8 = .ok (.istore 4, 2) := by decide +kernel
theorem dX0_replayed_10 : decode cX0_replayed 10 = .ok (.iload 4, 2) := by decide +kernel
theorem dX0_replayed_12 : decode cX0_replayed 12 = .ok (.iload_n 2, 1) := by decide +kernel
theorem dX0_replayed_13 : decode cX0_replayed 13 = .ok (.if_icmp .ge 53, 3) := by decide +kernel
theorem dX0_replayed_16 : decode cX0_replayed 16 = .ok (.iload 4, 2) := by decide +kernel
theorem dX0_replayed_18 : decode cX0_replayed 18 = .ok (.aload_n 0, 1) := by decide +kernel
theorem dX0_replayed_19 : decode cX0_replayed 19 = .ok (.getfield 39, 3) := by decide +kernel
theorem dX0_replayed_22 : decode cX0_replayed 22 = .ok (.if_icmp .ge 44, 3) := by decide +kernel
theorem dX0_replayed_25 : decode cX0_replayed 25 = .ok (.iload_n 1, 1) := by decide +kernel
theorem dX0_replayed_26 : decode cX0_replayed 26 = .ok (.aload_n 0, 1) := by decide +kernel
theorem dX0_replayed_27 : decode cX0_replayed 27 = .ok (.getfield 26, 3) := by decide +kernel
theorem dX0_replayed_30 : decode cX0_replayed 30 = .ok (.iload 4, 2) := by decide +kernel
theorem dX0_replayed_32 : decode cX0_replayed 32 = .ok (.iaload, 1) := by decide +kernel
theorem dX0_replayed_33 : decode cX0_replayed 33 = .ok (.isub, 1) := by decide +kernel
theorem dX0_replayed_34 : decode cX0_replayed 34 = .ok (.istore 5, 2) := by decide +kernel
theorem dX0_replayed_36 : decode cX0_replayed 36 = .ok (.iload_n 3, 1) := by decide +kernel
theorem dX0_replayed_37 : decode cX0_replayed 37 = .ok (.aload_n 0, 1) := by decide +kernel
theorem dX0_replayed_38 : decode cX0_replayed 38 = .ok (.getfield 29, 3) := by decide +kernel
theorem dX0_replayed_41 : decode cX0_replayed 41 = .ok (.iload 4, 2) := by decide +kernel
theorem dX0_replayed_43 : decode cX0_replayed 43 = .ok (.iaload, 1) := by decide +kernel
theorem dX0_replayed_44 : decode cX0_replayed 44 = .ok (.aload_n 0, 1) := by decide +kernel
theorem dX0_replayed_45 : decode cX0_replayed 45 = .ok (.aload_n 0, 1) := by decide +kernel
theorem dX0_replayed_46 : decode cX0_replayed 46 = .ok (.getfield 23, 3) := by decide +kernel
theorem dX0_replayed_49 : decode cX0_replayed 49 = .ok (.iload 4, 2) := by decide +kernel
theorem dX0_replayed_51 : decode cX0_replayed 51 = .ok (.iaload, 1) := by decide +kernel
theorem dX0_replayed_52 : decode cX0_replayed 52 = .ok (.iload 5, 2) := by decide +kernel
theorem dX0_replayed_54 : decode cX0_replayed 54 = .ok (.invokevirtual 71, 3) := by decide +kernel
theorem dX0_replayed_57 : decode cX0_replayed 57 = .ok (.imul, 1) := by decide +kernel
theorem dX0_replayed_58 : decode cX0_replayed 58 = .ok (.isub, 1) := by decide +kernel
theorem dX0_replayed_59 : decode cX0_replayed 59 = .ok (.istore_n 3, 1) := by decide +kernel
theorem dX0_replayed_60 : decode cX0_replayed 60 = .ok (.iinc 4 1, 3) := by decide +kernel
theorem dX0_replayed_63 : decode cX0_replayed 63 = .ok (.goto (-53), 3) := by decide +kernel
theorem dX0_replayed_66 : decode cX0_replayed 66 = .ok (.iload_n 3, 1) := by decide +kernel
theorem dX0_replayed_67 : decode cX0_replayed 67 = .ok (.ireturn, 1) := by decide +kernel
theorem dX1_init_0 : decode cX1_init 0 = .ok (.aload_n 0, 1) := by decide +kernel
theorem dX1_init_1 : decode cX1_init 1 = .ok (.invokespecial 3, 3) := by decide +kernel
theorem dX1_init_4 : decode cX1_init 4 = .ok (.aload_n 0, 1) := by decide +kernel
theorem dX1_init_5 : decode cX1_init 5 = .ok (.sipush 1000, 3) := by decide +kernel
theorem dX1_init_8 : decode cX1_init 8 = .ok (.putfield 9, 3) := by decide +kernel
theorem dX1_init_11 : decode cX1_init 11 = .ok (.aload_n 0, 1) := by decide +kernel
theorem dX1_init_12 : decode cX1_init 12 = .ok (.iconst (-1), 1) := by decide +kernel
theorem dX1_init_13 : decode cX1_init 13 = .ok (.putfield 15, 3) := by decide +kernel
theorem dX1_init_16 : decode cX1_init 16 = .ok (.aload_n 0, 1) := by decide +kernel
theorem dX1_init_17 : decode cX1_init 17 = .ok (.iconst 1, 1) := by decide +kernel
theorem dX1_init_18 : decode cX1_init 18 = .ok (.putfield 18, 3) := by decide +kernel
theorem dX1_init_21 : decode cX1_init 21 = .ok (.return_, 1) := by decide +kernel
theorem dX1_become_0 : decode cX1_become 0 = .ok (.aload_n 0, 1) := by decide +kernel
theorem dX1_become_1 : decode cX1_become 1 = .ok (.iload_n 1, 1) := by decide +kernel
theorem dX1_become_2 : decode cX1_become 2 = .ok (.putfield 9, 3) := by decide +kernel
theorem dX1_become_5 : decode cX1_become 5 = .ok (.aload_n 0, 1) := by decide +kernel
theorem dX1_become_6 : decode cX1_become 6 = .ok (.iload_n 2, 1) := by decide +kernel
theorem dX1_become_7 : decode cX1_become 7 = .ok (.putfield 15, 3) := by decide +kernel
theorem dX1_become_10 : decode cX1_become 10 = .ok (.aload_n 0, 1) := by decide +kernel
theorem dX1_become_11 : decode cX1_become 11 = .ok (.iload_n 3, 1) := by decide +kernel
theorem dX1_become_12 : decode cX1_become 12 = .ok (.putfield 18, 3) := by decide +kernel
theorem dX1_become_15 : decode cX1_become 15 = .ok (.return_, 1) := by decide +kernel
theorem dX1_depthAt_0 : decode cX1_depthAt 0 = .ok (.iload_n 1, 1) := by decide +kernel
theorem dX1_depthAt_1 : decode cX1_depthAt 1 = .ok (.i2l, 1) := by decide +kernel
theorem dX1_depthAt_2 : decode cX1_depthAt 2 = .ok (.iload_n 1, 1) := by decide +kernel
theorem dX1_depthAt_3 : decode cX1_depthAt 3 = .ok (.i2l, 1) := by decide +kernel
theorem dX1_depthAt_4 : decode cX1_depthAt 4 = .ok (.lmul, 1) := by decide +kernel
theorem dX1_depthAt_5 : decode cX1_depthAt 5 = .ok (.lstore_n 3, 1) := by decide +kernel
theorem dX1_depthAt_6 : decode cX1_depthAt 6 = .ok (.ldc2_w 21, 3) := by decide +kernel
theorem dX1_depthAt_9 : decode cX1_depthAt 9 = .ok (.aload_n 0, 1) := by decide +kernel
theorem dX1_depthAt_10 : decode cX1_depthAt 10 = .ok (.getfield 18, 3) := by decide +kernel
theorem dX1_depthAt_13 : decode cX1_depthAt 13 = .ok (.i2l, 1) := by decide +kernel
theorem dX1_depthAt_14 : decode cX1_depthAt 14 = .ok (.lmul, 1) := by decide +kernel
theorem dX1_depthAt_15 : decode cX1_depthAt 15 = .ok (.aload_n 0, 1) := by decide +kernel
theorem dX1_depthAt_16 : decode cX1_depthAt 16 = .ok (.getfield 9, 3) := by decide +kernel
theorem dX1_depthAt_19 : decode cX1_depthAt 19 = .ok (.i2l, 1) := by decide +kernel
theorem dX1_depthAt_20 : decode cX1_depthAt 20 = .ok (.lmul, 1) := by decide +kernel
theorem dX1_depthAt_21 : decode cX1_depthAt 21 = .ok (.aload_n 0, 1) := by decide +kernel
theorem dX1_depthAt_22 : decode cX1_depthAt 22 = .ok (.getfield 9, 3) := by decide +kernel
theorem dX1_depthAt_25 : decode cX1_depthAt 25 = .ok (.i2l, 1) := by decide +kernel
theorem dX1_depthAt_26 : decode cX1_depthAt 26 = .ok (.lmul, 1) := by decide +kernel
theorem dX1_depthAt_27 : decode cX1_depthAt 27 = .ok (.lload_n 3, 1) := by decide +kernel
theorem dX1_depthAt_28 : decode cX1_depthAt 28 = .ok (.lmul, 1) := by decide +kernel
theorem dX1_depthAt_29 : decode cX1_depthAt 29 = .ok (.aload_n 0, 1) := by decide +kernel
theorem dX1_depthAt_30 : decode cX1_depthAt 30 = .ok (.getfield 15, 3) := by decide +kernel
theorem dX1_depthAt_33 : decode cX1_depthAt 33 = .ok (.aload_n 0, 1) := by decide +kernel
theorem dX1_depthAt_34 : decode cX1_depthAt 34 = .ok (.getfield 18, 3) := by decide +kernel
theorem dX1_depthAt_37 : decode cX1_depthAt 37 = .ok (.iadd, 1) := by decide +kernel
theorem dX1_depthAt_38 : decode cX1_depthAt 38 = .ok (.i2l, 1) := by decide +kernel
theorem dX1_depthAt_39 : decode cX1_depthAt 39 = .ok (.lload_n 3, 1) := by decide +kernel
theorem dX1_depthAt_40 : decode cX1_depthAt 40 = .ok (.lmul, 1) := by decide +kernel
theorem dX1_depthAt_41 : decode cX1_depthAt 41 = .ok (.lload_n 3, 1) := by decide +kernel
theorem dX1_depthAt_42 : decode cX1_depthAt 42 = .ok (.lmul, 1) := by decide +kernel
theorem dX1_depthAt_43 : decode cX1_depthAt 43 = .ok (.ladd, 1) := by decide +kernel
theorem dX1_depthAt_44 : decode cX1_depthAt 44 = .ok (.lstore 5, 2) := by decide +kernel
theorem dX1_depthAt_46 : decode cX1_depthAt 46 = .ok (.ldc2_w 23, 3) := by decide +kernel
theorem dX1_depthAt_49 : decode cX1_depthAt 49 = .ok (.aload_n 0, 1) := by decide +kernel
theorem dX1_depthAt_50 : decode cX1_depthAt 50 = .ok (.getfield 18, 3) := by decide +kernel
theorem dX1_depthAt_53 : decode cX1_depthAt 53 = .ok (.i2l, 1) := by decide +kernel
theorem dX1_depthAt_54 : decode cX1_depthAt 54 = .ok (.lmul, 1) := by decide +kernel
theorem dX1_depthAt_55 : decode cX1_depthAt 55 = .ok (.aload_n 0, 1) := by decide +kernel
theorem dX1_depthAt_56 : decode cX1_depthAt 56 = .ok (.getfield 9, 3) := by decide +kernel
theorem dX1_depthAt_59 : decode cX1_depthAt 59 = .ok (.i2l, 1) := by decide +kernel
theorem dX1_depthAt_60 : decode cX1_depthAt 60 = .ok (.lmul, 1) := by decide +kernel
theorem dX1_depthAt_61 : decode cX1_depthAt 61 = .ok (.aload_n 0, 1) := by decide +kernel
theorem dX1_depthAt_62 : decode cX1_depthAt 62 = .ok (.getfield 9, 3) := by decide +kernel
theorem dX1_depthAt_65 : decode cX1_depthAt 65 = .ok (.i2l, 1) := by decide +kernel
theorem dX1_depthAt_66 : decode cX1_depthAt 66 = .ok (.lmul, 1) := by decide +kernel
theorem dX1_depthAt_67 : decode cX1_depthAt 67 = .ok (.aload_n 0, 1) := by decide +kernel
theorem dX1_depthAt_68 : decode cX1_depthAt 68 = .ok (.getfield 9, 3) := by decide +kernel
theorem dX1_depthAt_71 : decode cX1_depthAt 71 = .ok (.i2l, 1) := by decide +kernel
theorem dX1_depthAt_72 : decode cX1_depthAt 72 = .ok (.lmul, 1) := by decide +kernel
theorem dX1_depthAt_73 : decode cX1_depthAt 73 = .ok (.lstore 7, 2) := by decide +kernel
theorem dX1_depthAt_75 : decode cX1_depthAt 75 = .ok (.lload 5, 2) := by decide +kernel
theorem dX1_depthAt_77 : decode cX1_depthAt 77 = .ok (.invokestatic 25, 3) := by decide +kernel
theorem dX1_depthAt_80 : decode cX1_depthAt 80 = .ok (.lload 7, 2) := by decide +kernel
theorem dX1_depthAt_82 : decode cX1_depthAt 82 = .ok (.invokestatic 31, 3) := by decide +kernel
theorem dX1_depthAt_85 : decode cX1_depthAt 85 = .ok (.lstore 9, 2) := by decide +kernel
theorem dX1_depthAt_87 : decode cX1_depthAt 87 = .ok (.lload 9, 2) := by decide +kernel
theorem dX1_depthAt_89 : decode cX1_depthAt 89 = .ok (.lconst 1, 1) := by decide +kernel
theorem dX1_depthAt_90 : decode cX1_depthAt 90 = .ok (.lcmp, 1) := by decide +kernel
theorem dX1_depthAt_91 : decode cX1_depthAt 91 = .ok (.ifCond .ge 7, 3) := by decide +kernel
theorem dX1_depthAt_94 : decode cX1_depthAt 94 = .ok (.ldc2_w 35, 3) := by decide +kernel
theorem dX1_depthAt_97 : decode cX1_depthAt 97 = .ok (.lreturn, 1) := by decide +kernel
theorem dX1_depthAt_98 : decode cX1_depthAt 98 = .ok (.iload_n 2, 1) := by decide +kernel
theorem dX1_depthAt_99 : decode cX1_depthAt 99 = .ok (.ifCond .eq 8, 3) := by decide +kernel
theorem dX1_depthAt_102 : decode cX1_depthAt 102 = .ok (.lload 5, 2) := by decide +kernel
theorem dX1_depthAt_104 : decode cX1_depthAt 104 = .ok (.goto 5, 3) := by decide +kernel
theorem dX1_depthAt_107 : decode cX1_depthAt 107 = .ok (.lload 7, 2) := by decide +kernel
theorem dX1_depthAt_109 : decode cX1_depthAt 109 = .ok (.lload 9, 2) := by decide +kernel
theorem dX1_depthAt_111 : decode cX1_depthAt 111 = .ok (.ldiv, 1) := by decide +kernel
theorem dX1_depthAt_112 : decode cX1_depthAt 112 = .ok (.lreturn, 1) := by decide +kernel
theorem dX1_sharedDivisor_0 : decode cX1_sharedDivisor 0 = .ok (.iconst 0, 1) := by decide +kernel
theorem dX1_sharedDivisor_1 : decode cX1_sharedDivisor 1 = .ok (.istore 4, 2) := by decide +kernel
theorem dX1_sharedDivisor_3 : decode cX1_sharedDivisor 3 = .ok (.iload 4, 2) := by decide +kernel
theorem dX1_sharedDivisor_5 : decode cX1_sharedDivisor 5 = .ok (.sipush 200, 3) := by decide +kernel
theorem dX1_sharedDivisor_8 : decode cX1_sharedDivisor 8 = .ok (.if_icmp .ge 25, 3) := by decide +kernel
theorem dX1_sharedDivisor_11 : decode cX1_sharedDivisor 11 = .ok (.lload_n 2, 1) := by decide +kernel
theorem dX1_sharedDivisor_12 : decode cX1_sharedDivisor 12 = .ok (.lconst 0, 1) := by decide +kernel
theorem dX1_sharedDivisor_13 : decode cX1_sharedDivisor 13 = .ok (.lcmp, 1) := by decide +kernel
theorem dX1_sharedDivisor_14 : decode cX1_sharedDivisor 14 = .ok (.ifCond .eq 19, 3) := by decide +kernel
theorem dX1_sharedDivisor_17 : decode cX1_sharedDivisor 17 = .ok (.lload_n 0, 1) := by decide +kernel
theorem dX1_sharedDivisor_18 : decode cX1_sharedDivisor 18 = .ok (.lload_n 2, 1) := by decide +kernel
theorem dX1_sharedDivisor_19 : decode cX1_sharedDivisor 19 = .ok (.lrem, 1) := by decide +kernel
theorem dX1_sharedDivisor_20 : decode cX1_sharedDivisor 20 = .ok (.lstore 5, 2) := by decide +kernel
theorem dX1_sharedDivisor_22 : decode cX1_sharedDivisor 22 = .ok (.lload_n 2, 1) := by decide +kernel
theorem dX1_sharedDivisor_23 : decode cX1_sharedDivisor 23 = .ok (.lstore_n 0, 1) := by decide +kernel
theorem dX1_sharedDivisor_24 : decode cX1_sharedDivisor 24 = .ok (.lload 5, 2) := by decide +kernel
theorem dX1_sharedDivisor_26 : decode cX1_sharedDivisor 26 = .ok (.lstore_n 2, 1) := by decide +kernel
theorem dX1_sharedDivisor_27 : decode cX1_sharedDivisor 27 = .ok (.iinc 4 1, 3) := by decide +kernel
theorem dX1_sharedDivisor_30 : decode cX1_sharedDivisor 30 = .ok (.goto (-27), 3) := by decide +kernel
theorem dX1_sharedDivisor_33 : decode cX1_sharedDivisor 33 = .ok (.lload_n 0, 1) := by decide +kernel
theorem dX1_sharedDivisor_34 : decode cX1_sharedDivisor 34 = .ok (.lreturn, 1) := by decide +kernel
theorem dX2_init_0 : decode cX2_init 0 = .ok (.aload_n 0, 1) := by decide +kernel
theorem dX2_init_1 : decode cX2_init 1 = .ok (.invokespecial 3, 3) := by decide +kernel
theorem dX2_init_4 : decode cX2_init 4 = .ok (.aload_n 0, 1) := by decide +kernel
theorem dX2_init_5 : decode cX2_init 5 = .ok (.bipush 6, 2) := by decide +kernel
theorem dX2_init_7 : decode cX2_init 7 = .ok (.newarray .int, 2) := by decide +kernel
theorem dX2_init_9 : decode cX2_init 9 = .ok (.putfield 9, 3) := by decide +kernel
theorem dX2_init_12 : decode cX2_init 12 = .ok (.aload_n 0, 1) := by decide +kernel
theorem dX2_init_13 : decode cX2_init 13 = .ok (.bipush 6, 2) := by decide +kernel
theorem dX2_init_15 : decode cX2_init 15 = .ok (.newarray .int, 2) := by decide +kernel
theorem dX2_init_17 : decode cX2_init 17 = .ok (.putfield 15, 3) := by decide +kernel
theorem dX2_init_20 : decode cX2_init 20 = .ok (.aload_n 0, 1) := by decide +kernel
theorem dX2_init_21 : decode cX2_init 21 = .ok (.bipush 7, 2) := by decide +kernel
theorem dX2_init_23 : decode cX2_init 23 = .ok (.sipush 2101, 3) := by decide +kernel
theorem dX2_init_26 : decode cX2_init 26 = .ok (.multianewarray 18 2, 4) := by decide +kernel
theorem dX2_init_30 : decode cX2_init 30 = .ok (.putfield 20, 3) := by decide +kernel
theorem dX2_init_33 : decode cX2_init 33 = .ok (.aload_n 0, 1) := by decide +kernel
theorem dX2_init_34 : decode cX2_init 34 = .ok (.iconst 0, 1) := by decide +kernel
theorem dX2_init_35 : decode cX2_init 35 = .ok (.putfield 23, 3) := by decide +kernel
theorem dX2_init_38 : decode cX2_init 38 = .ok (.aload_n 0, 1) := by decide +kernel
theorem dX2_init_39 : decode cX2_init 39 = .ok (.iconst 0, 1) := by decide +kernel
theorem dX2_init_40 : decode cX2_init 40 = .ok (.putfield 27, 3) := by decide +kernel
theorem dX2_init_43 : decode cX2_init 43 = .ok (.aload_n 0, 1) := by decide +kernel
theorem dX2_init_44 : decode cX2_init 44 = .ok (.iconst 0, 1) := by decide +kernel
theorem dX2_init_45 : decode cX2_init 45 = .ok (.putfield 30, 3) := by decide +kernel
theorem dX2_init_48 : decode cX2_init 48 = .ok (.return_, 1) := by decide +kernel
theorem dX2_howMany_0 : decode cX2_howMany 0 = .ok (.aload_n 0, 1) := by decide +kernel
theorem dX2_howMany_1 : decode cX2_howMany 1 = .ok (.getfield 23, 3) := by decide +kernel
theorem dX2_howMany_4 : decode cX2_howMany 4 = .ok (.ireturn, 1) := by decide +kernel
theorem dX2_come_0 : decode cX2_come 0 = .ok (.aload_n 0, 1) := by decide +kernel
theorem dX2_come_1 : decode cX2_come 1 = .ok (.getfield 23, 3) := by decide +kernel
theorem dX2_come_4 : decode cX2_come 4 = .ok (.bipush 6, 2) := by decide +kernel
theorem dX2_come_6 : decode cX2_come 6 = .ok (.if_icmp .lt 6, 3) := by decide +kernel
theorem dX2_come_9 : decode cX2_come 9 = .ok (.bipush (-3), 2) := by decide +kernel
theorem dX2_come_11 : decode cX2_come 11 = .ok (.ireturn, 1) := by decide +kernel
theorem dX2_come_12 : decode cX2_come 12 = .ok (.aload_n 0, 1) := by decide +kernel
theorem dX2_come_13 : decode cX2_come 13 = .ok (.getfield 9, 3) := by decide +kernel
theorem dX2_come_16 : decode cX2_come 16 = .ok (.aload_n 0, 1) := by decide +kernel
theorem dX2_come_17 : decode cX2_come 17 = .ok (.getfield 23, 3) := by decide +kernel
theorem dX2_come_20 : decode cX2_come 20 = .ok (.iload_n 1, 1) := by decide +kernel
theorem dX2_come_21 : decode cX2_come 21 = .ok (.iastore, 1) := by decide +kernel
theorem dX2_come_22 : decode cX2_come 22 = .ok (.aload_n 0, 1) := by decide +kernel
theorem dX2_come_23 : decode cX2_come 23 = .ok (.getfield 15, 3) := by decide +kernel
theorem dX2_come_26 : decode cX2_come 26 = .ok (.aload_n 0, 1) := by decide +kernel
theorem dX2_come_27 : decode cX2_come 27 = .ok (.getfield 23, 3) := by decide +kernel
theorem dX2_come_30 : decode cX2_come 30 = .ok (.iload_n 2, 1) := by decide +kernel
theorem dX2_come_31 : decode cX2_come 31 = .ok (.iastore, 1) := by decide +kernel
theorem dX2_come_32 : decode cX2_come 32 = .ok (.aload_n 0, 1) := by decide +kernel
theorem dX2_come_33 : decode cX2_come 33 = .ok (.dup, 1) := by decide +kernel
theorem dX2_come_34 : decode cX2_come 34 = .ok (.getfield 23, 3) := by decide +kernel
theorem dX2_come_37 : decode cX2_come 37 = .ok (.iconst 1, 1) := by decide +kernel
theorem dX2_come_38 : decode cX2_come 38 = .ok (.iadd, 1) := by decide +kernel
theorem dX2_come_39 : decode cX2_come 39 = .ok (.putfield 23, 3) := by decide +kernel
theorem dX2_come_42 : decode cX2_come 42 = .ok (.aload_n 0, 1) := by decide +kernel
theorem dX2_come_43 : decode cX2_come 43 = .ok (.iconst 0, 1) := by decide +kernel
theorem dX2_come_44 : decode cX2_come 44 = .ok (.putfield 30, 3) := by decide +kernel
theorem dX2_come_47 : decode cX2_come 47 = .ok (.aload_n 0, 1) := by decide +kernel
theorem dX2_come_48 : decode cX2_come 48 = .ok (.getfield 23, 3) := by decide +kernel
theorem dX2_come_51 : decode cX2_come 51 = .ok (.iconst 1, 1) := by decide +kernel
theorem dX2_come_52 : decode cX2_come 52 = .ok (.isub, 1) := by decide +kernel
theorem dX2_come_53 : decode cX2_come 53 = .ok (.ireturn, 1) := by decide +kernel
theorem dX2_tellSlack_0 : decode cX2_tellSlack 0 = .ok (.aload_n 0, 1) := by decide +kernel
theorem dX2_tellSlack_1 : decode cX2_tellSlack 1 = .ok (.getfield 27, 3) := by decide +kernel
theorem dX2_tellSlack_4 : decode cX2_tellSlack 4 = .ok (.istore_n 2, 1) := by decide +kernel
theorem dX2_tellSlack_5 : decode cX2_tellSlack 5 = .ok (.aload_n 0, 1) := by decide +kernel
theorem dX2_tellSlack_6 : decode cX2_tellSlack 6 = .ok (.iload_n 1, 1) := by decide +kernel
theorem dX2_tellSlack_7 : decode cX2_tellSlack 7 = .ok (.putfield 27, 3) := by decide +kernel
theorem dX2_tellSlack_10 : decode cX2_tellSlack 10 = .ok (.iload_n 2, 1) := by decide +kernel
theorem dX2_tellSlack_11 : decode cX2_tellSlack 11 = .ok (.ireturn, 1) := by decide +kernel
theorem dX2_fewestFor_0 : decode cX2_fewestFor 0 = .ok (.aload_n 0, 1) := by decide +kernel
theorem dX2_fewestFor_1 : decode cX2_fewestFor 1 = .ok (.invokevirtual 34, 3) := by decide +kernel
theorem dX2_fewestFor_4 : decode cX2_fewestFor 4 = .ok (.aload_n 0, 1) := by decide +kernel
theorem dX2_fewestFor_5 : decode cX2_fewestFor 5 = .ok (.iconst (-1), 1) := by decide +kernel
theorem dX2_fewestFor_6 : decode cX2_fewestFor 6 = .ok (.iload_n 1, 1) := by decide +kernel
theorem dX2_fewestFor_7 : decode cX2_fewestFor 7 = .ok (.iload_n 1, 1) := by decide +kernel
theorem dX2_fewestFor_8 : decode cX2_fewestFor 8 = .ok (.aload_n 0, 1) := by decide +kernel
theorem dX2_fewestFor_9 : decode cX2_fewestFor 9 = .ok (.getfield 27, 3) := by decide +kernel
theorem dX2_fewestFor_12 : decode cX2_fewestFor 12 = .ok (.iadd, 1) := by decide +kernel
theorem dX2_fewestFor_13 : decode cX2_fewestFor 13 = .ok (.invokevirtual 37, 3) := by decide +kernel
theorem dX2_fewestFor_16 : decode cX2_fewestFor 16 = .ok (.istore_n 2, 1) := by decide +kernel
theorem dX2_fewestFor_17 : decode cX2_fewestFor 17 = .ok (.iload_n 2, 1) := by decide +kernel
theorem dX2_fewestFor_18 : decode cX2_fewestFor 18 = .ok (.sipush 1000, 3) := by decide +kernel
theorem dX2_fewestFor_21 : decode cX2_fewestFor 21 = .ok (.if_icmp .ge 7, 3) := by decide +kernel
theorem dX2_fewestFor_24 : decode cX2_fewestFor 24 = .ok (.iload_n 2, 1) := by decide +kernel
theorem dX2_fewestFor_25 : decode cX2_fewestFor 25 = .ok (.goto 5, 3) := by decide +kernel
theorem dX2_fewestFor_28 : decode cX2_fewestFor 28 = .ok (.bipush (-4), 2) := by decide +kernel
theorem dX2_fewestFor_30 : decode cX2_fewestFor 30 = .ok (.ireturn, 1) := by decide +kernel
theorem dX2_wetsOf_0 : decode cX2_wetsOf 0 = .ok (.aload_n 0, 1) := by decide +kernel
theorem dX2_wetsOf_1 : decode cX2_wetsOf 1 = .ok (.iload_n 1, 1) := by decide +kernel
theorem dX2_wetsOf_2 : decode cX2_wetsOf 2 = .ok (.invokevirtual 41, 3) := by decide +kernel
theorem dX2_wetsOf_5 : decode cX2_wetsOf 5 = .ok (.istore_n 3, 1) := by decide +kernel
theorem dX2_wetsOf_6 : decode cX2_wetsOf 6 = .ok (.iload_n 3, 1) := by decide +kernel
theorem dX2_wetsOf_7 : decode cX2_wetsOf 7 = .ok (.bipush (-4), 2) := by decide +kernel
theorem dX2_wetsOf_9 : decode cX2_wetsOf 9 = .ok (.if_icmp .ne 6, 3) := by decide +kernel
theorem dX2_wetsOf_12 : decode cX2_wetsOf 12 = .ok (.bipush (-4), 2) := by decide +kernel
theorem dX2_wetsOf_14 : decode cX2_wetsOf 14 = .ok (.ireturn, 1) := by decide +kernel
theorem dX2_wetsOf_15 : decode cX2_wetsOf 15 = .ok (.iconst (-1), 1) := by decide +kernel
theorem dX2_wetsOf_16 : decode cX2_wetsOf 16 = .ok (.istore 4, 2) := by decide +kernel
theorem dX2_wetsOf_18 : decode cX2_wetsOf 18 = .ok (.iload_n 1, 1) := by decide +kernel
theorem dX2_wetsOf_19 : decode cX2_wetsOf 19 = .ok (.istore 5, 2) := by decide +kernel
theorem dX2_wetsOf_21 : decode cX2_wetsOf 21 = .ok (.iconst 0, 1) := by decide +kernel
theorem dX2_wetsOf_22 : decode cX2_wetsOf 22 = .ok (.istore 6, 2) := by decide +kernel
theorem dX2_wetsOf_24 : decode cX2_wetsOf 24 = .ok (.iconst 0, 1) := by decide +kernel
theorem dX2_wetsOf_25 : decode cX2_wetsOf 25 = .ok (.istore 7, 2) := by decide +kernel
theorem dX2_wetsOf_27 : decode cX2_wetsOf 27 = .ok (.iload 7, 2) := by decide +kernel
theorem dX2_wetsOf_29 : decode cX2_wetsOf 29 = .ok (.iload_n 2, 1) := by decide +kernel
theorem dX2_wetsOf_30 : decode cX2_wetsOf 30 = .ok (.if_icmp .gt 60, 3) := by decide +kernel
theorem dX2_wetsOf_33 : decode cX2_wetsOf 33 = .ok (.iload 7, 2) := by decide +kernel
theorem dX2_wetsOf_35 : decode cX2_wetsOf 35 = .ok (.aload_n 0, 1) := by decide +kernel
theorem dX2_wetsOf_36 : decode cX2_wetsOf 36 = .ok (.getfield 23, 3) := by decide +kernel
theorem dX2_wetsOf_39 : decode cX2_wetsOf 39 = .ok (.if_icmp .ge 51, 3) := by decide +kernel
theorem dX2_wetsOf_42 : decode cX2_wetsOf 42 = .ok (.aload_n 0, 1) := by decide +kernel
theorem dX2_wetsOf_43 : decode cX2_wetsOf 43 = .ok (.iload 4, 2) := by decide +kernel
theorem dX2_wetsOf_45 : decode cX2_wetsOf 45 = .ok (.iload 7, 2) := by decide +kernel
theorem dX2_wetsOf_47 : decode cX2_wetsOf 47 = .ok (.iload 5, 2) := by decide +kernel
theorem dX2_wetsOf_49 : decode cX2_wetsOf 49 = .ok (.iload_n 3, 1) := by decide +kernel
theorem dX2_wetsOf_50 : decode cX2_wetsOf 50 = .ok (.invokevirtual 45, 3) := by decide +kernel
theorem dX2_wetsOf_53 : decode cX2_wetsOf 53 = .ok (.istore 6, 2) := by decide +kernel
theorem dX2_wetsOf_55 : decode cX2_wetsOf 55 = .ok (.iload 6, 2) := by decide +kernel
theorem dX2_wetsOf_57 : decode cX2_wetsOf 57 = .ok (.ifCond .le 27, 3) := by decide +kernel
theorem dX2_wetsOf_60 : decode cX2_wetsOf 60 = .ok (.iload 7, 2) := by decide +kernel
theorem dX2_wetsOf_62 : decode cX2_wetsOf 62 = .ok (.istore 4, 2) := by decide +kernel
theorem dX2_wetsOf_64 : decode cX2_wetsOf 64 = .ok (.iload 5, 2) := by decide +kernel
theorem dX2_wetsOf_66 : decode cX2_wetsOf 66 = .ok (.iload 6, 2) := by decide +kernel
theorem dX2_wetsOf_68 : decode cX2_wetsOf 68 = .ok (.aload_n 0, 1) := by decide +kernel
theorem dX2_wetsOf_69 : decode cX2_wetsOf 69 = .ok (.getfield 9, 3) := by decide +kernel
theorem dX2_wetsOf_72 : decode cX2_wetsOf 72 = .ok (.iload 7, 2) := by decide +kernel
theorem dX2_wetsOf_74 : decode cX2_wetsOf 74 = .ok (.iaload, 1) := by decide +kernel
theorem dX2_wetsOf_75 : decode cX2_wetsOf 75 = .ok (.imul, 1) := by decide +kernel
theorem dX2_wetsOf_76 : decode cX2_wetsOf 76 = .ok (.isub, 1) := by decide +kernel
theorem dX2_wetsOf_77 : decode cX2_wetsOf 77 = .ok (.istore 5, 2) := by decide +kernel
theorem dX2_wetsOf_79 : decode cX2_wetsOf 79 = .ok (.iload_n 3, 1) := by decide +kernel
theorem dX2_wetsOf_80 : decode cX2_wetsOf 80 = .ok (.iload 6, 2) := by decide +kernel
theorem dX2_wetsOf_82 : decode cX2_wetsOf 82 = .ok (.isub, 1) := by decide +kernel
theorem dX2_wetsOf_83 : decode cX2_wetsOf 83 = .ok (.istore_n 3, 1) := by decide +kernel
theorem dX2_wetsOf_84 : decode cX2_wetsOf 84 = .ok (.iinc 7 1, 3) := by decide +kernel
theorem dX2_wetsOf_87 : decode cX2_wetsOf 87 = .ok (.goto (-60), 3) := by decide +kernel
theorem dX2_wetsOf_90 : decode cX2_wetsOf 90 = .ok (.iload 6, 2) := by decide +kernel
theorem dX2_wetsOf_92 : decode cX2_wetsOf 92 = .ok (.ireturn, 1) := by decide +kernel
theorem dX2_mostThatServe_0 : decode cX2_mostThatServe 0 = .ok (.bipush 30, 2) := by decide +kernel
theorem dX2_mostThatServe_2 : decode cX2_mostThatServe 2 = .ok (.istore 5, 2) := by decide +kernel
theorem dX2_mostThatServe_4 : decode cX2_mostThatServe 4 = .ok (.iload 5, 2) := by decide +kernel
theorem dX2_mostThatServe_6 : decode cX2_mostThatServe 6 = .ok (.ifCond .le 64, 3) := by decide +kernel
theorem dX2_mostThatServe_9 : decode cX2_mostThatServe 9 = .ok (.iload_n 3, 1) := by decide +kernel
theorem dX2_mostThatServe_10 : decode cX2_mostThatServe 10 = .ok (.iload 5, 2) := by decide +kernel
theorem dX2_mostThatServe_12 : decode cX2_mostThatServe 12 = .ok (.aload_n 0, 1) := by decide +kernel
theorem dX2_mostThatServe_13 : decode cX2_mostThatServe 13 = .ok (.getfield 9, 3) := by decide +kernel
theorem dX2_mostThatServe_16 : decode cX2_mostThatServe 16 = .ok (.iload_n 2, 1) := by decide +kernel
theorem dX2_mostThatServe_17 : decode cX2_mostThatServe 17 = .ok (.iaload, 1) := by decide +kernel
theorem dX2_mostThatServe_18 : decode cX2_mostThatServe 18 = .ok (.imul, 1) := by decide +kernel
theorem dX2_mostThatServe_19 : decode cX2_mostThatServe 19 = .ok (.isub, 1) := by decide +kernel
theorem dX2_mostThatServe_20 : decode cX2_mostThatServe 20 = .ok (.istore 6, 2) := by decide +kernel
theorem dX2_mostThatServe_22 : decode cX2_mostThatServe 22 = .ok (.aload_n 0, 1) := by decide +kernel
theorem dX2_mostThatServe_23 : decode cX2_mostThatServe 23 = .ok (.iload_n 1, 1) := by decide +kernel
theorem dX2_mostThatServe_24 : decode cX2_mostThatServe 24 = .ok (.iload 5, 2) := by decide +kernel
theorem dX2_mostThatServe_26 : decode cX2_mostThatServe 26 = .ok (.aload_n 0, 1) := by decide +kernel
theorem dX2_mostThatServe_27 : decode cX2_mostThatServe 27 = .ok (.getfield 9, 3) := by decide +kernel
theorem dX2_mostThatServe_30 : decode cX2_mostThatServe 30 = .ok (.iload_n 2, 1) := by decide +kernel
theorem dX2_mostThatServe_31 : decode cX2_mostThatServe 31 = .ok (.iaload, 1) := by decide +kernel
theorem dX2_mostThatServe_32 : decode cX2_mostThatServe 32 = .ok (.imul, 1) := by decide +kernel
theorem dX2_mostThatServe_33 : decode cX2_mostThatServe 33 = .ok (.invokevirtual 49, 3) := by decide +kernel
theorem dX2_mostThatServe_36 : decode cX2_mostThatServe 36 = .ok (.ifCond .eq 28, 3) := by decide +kernel
theorem dX2_mostThatServe_39 : decode cX2_mostThatServe 39 = .ok (.aload_n 0, 1) := by decide +kernel
theorem dX2_mostThatServe_40 : decode cX2_mostThatServe 40 = .ok (.iload_n 2, 1) := by decide +kernel
theorem dX2_mostThatServe_41 : decode cX2_mostThatServe 41 = .ok (.iload 6, 2) := by decide +kernel
theorem dX2_mostThatServe_43 : decode cX2_mostThatServe 43 = .ok (.iload 6, 2) := by decide +kernel
theorem dX2_mostThatServe_45 : decode cX2_mostThatServe 45 = .ok (.aload_n 0, 1) := by decide +kernel
theorem dX2_mostThatServe_46 : decode cX2_mostThatServe 46 = .ok (.getfield 27, 3) := by decide +kernel
theorem dX2_mostThatServe_49 : decode cX2_mostThatServe 49 = .ok (.iadd, 1) := by decide +kernel
theorem dX2_mostThatServe_50 : decode cX2_mostThatServe 50 = .ok (.invokevirtual 37, 3) := by decide +kernel
theorem dX2_mostThatServe_53 : decode cX2_mostThatServe 53 = .ok (.iload 4, 2) := by decide +kernel
theorem dX2_mostThatServe_55 : decode cX2_mostThatServe 55 = .ok (.iload 5, 2) := by decide +kernel
theorem dX2_mostThatServe_57 : decode cX2_mostThatServe 57 = .ok (.isub, 1) := by decide +kernel
theorem dX2_mostThatServe_58 : decode cX2_mostThatServe 58 = .ok (.if_icmp .ne 6, 3) := by decide +kernel
theorem dX2_mostThatServe_61 : decode cX2_mostThatServe 61 = .ok (.iload 5, 2) := by decide +kernel
theorem dX2_mostThatServe_63 : decode cX2_mostThatServe 63 = .ok (.ireturn, 1) := by decide +kernel
theorem dX2_mostThatServe_64 : decode cX2_mostThatServe 64 = .ok (.iinc 5 (-1), 3) := by decide +kernel
theorem dX2_mostThatServe_67 : decode cX2_mostThatServe 67 = .ok (.goto (-63), 3) := by decide +kernel
theorem dX2_mostThatServe_70 : decode cX2_mostThatServe 70 = .ok (.iconst 0, 1) := by decide +kernel
theorem dX2_mostThatServe_71 : decode cX2_mostThatServe 71 = .ok (.ireturn, 1) := by decide +kernel
theorem dX2_clears_0 : decode cX2_clears 0 = .ok (.iload_n 1, 1) := by decide +kernel
theorem dX2_clears_1 : decode cX2_clears 1 = .ok (.ifCond .lt 15, 3) := by decide +kernel
theorem dX2_clears_4 : decode cX2_clears 4 = .ok (.iload_n 2, 1) := by decide +kernel
theorem dX2_clears_5 : decode cX2_clears 5 = .ok (.iconst 3, 1) := by decide +kernel
theorem dX2_clears_6 : decode cX2_clears 6 = .ok (.aload_n 0, 1) := by decide +kernel
theorem dX2_clears_7 : decode cX2_clears 7 = .ok (.getfield 15, 3) := by decide +kernel
theorem dX2_clears_10 : decode cX2_clears 10 = .ok (.iload_n 1, 1) := by decide +kernel
theorem dX2_clears_11 : decode cX2_clears 11 = .ok (.iaload, 1) := by decide +kernel
theorem dX2_clears_12 : decode cX2_clears 12 = .ok (.imul, 1) := by decide +kernel
theorem dX2_clears_13 : decode cX2_clears 13 = .ok (.if_icmp .lt 7, 3) := by decide +kernel
theorem dX2_clears_16 : decode cX2_clears 16 = .ok (.iconst 1, 1) := by decide +kernel
theorem dX2_clears_17 : decode cX2_clears 17 = .ok (.goto 4, 3) := by decide +kernel
theorem dX2_clears_20 : decode cX2_clears 20 = .ok (.iconst 0, 1) := by decide +kernel
theorem dX2_clears_21 : decode cX2_clears 21 = .ok (.ireturn, 1) := by decide +kernel
theorem dX2_fewestWithin_0 : decode cX2_fewestWithin 0 = .ok (.aload_n 0, 1) := by decide +kernel
theorem dX2_fewestWithin_1 : decode cX2_fewestWithin 1 = .ok (.getfield 20, 3) := by decide +kernel
theorem dX2_fewestWithin_4 : decode cX2_fewestWithin 4 = .ok (.iload_n 1, 1) := by decide +kernel
theorem dX2_fewestWithin_5 : decode cX2_fewestWithin 5 = .ok (.iconst 1, 1) := by decide +kernel
theorem dX2_fewestWithin_6 : decode cX2_fewestWithin 6 = .ok (.iadd, 1) := by decide +kernel
theorem dX2_fewestWithin_7 : decode cX2_fewestWithin 7 = .ok (.aaload, 1) := by decide +kernel
theorem dX2_fewestWithin_8 : decode cX2_fewestWithin 8 = .ok (.astore 4, 2) := by decide +kernel
theorem dX2_fewestWithin_10 : decode cX2_fewestWithin 10 = .ok (.sipush 1000, 3) := by decide +kernel
theorem dX2_fewestWithin_13 : decode cX2_fewestWithin 13 = .ok (.istore 5, 2) := by decide +kernel
theorem dX2_fewestWithin_15 : decode cX2_fewestWithin 15 = .ok (.iload_n 2, 1) := by decide +kernel
theorem dX2_fewestWithin_16 : decode cX2_fewestWithin 16 = .ok (.iconst 0, 1) := by decide +kernel
theorem dX2_fewestWithin_17 : decode cX2_fewestWithin 17 = .ok (.invokestatic 53, 3) := by decide +kernel
theorem dX2_fewestWithin_20 : decode cX2_fewestWithin 20 = .ok (.istore 6, 2) := by decide +kernel
theorem dX2_fewestWithin_22 : decode cX2_fewestWithin 22 = .ok (.iload 6, 2) := by decide +kernel
theorem dX2_fewestWithin_24 : decode cX2_fewestWithin 24 = .ok (.iload_n 3, 1) := by decide +kernel
theorem dX2_fewestWithin_25 : decode cX2_fewestWithin 25 = .ok (.if_icmp .gt 29, 3) := by decide +kernel
theorem dX2_fewestWithin_28 : decode cX2_fewestWithin 28 = .ok (.iload 6, 2) := by decide +kernel
theorem dX2_fewestWithin_30 : decode cX2_fewestWithin 30 = .ok (.sipush 2101, 3) := by decide +kernel
theorem dX2_fewestWithin_33 : decode cX2_fewestWithin 33 = .ok (.if_icmp .ge 21, 3) := by decide +kernel
theorem dX2_fewestWithin_36 : decode cX2_fewestWithin 36 = .ok (.iload 5, 2) := by decide +kernel
theorem dX2_fewestWithin_38 : decode cX2_fewestWithin 38 = .ok (.aload 4, 2) := by decide +kernel
theorem dX2_fewestWithin_40 : decode cX2_fewestWithin 40 = .ok (.iload 6, 2) := by decide +kernel
theorem dX2_fewestWithin_42 : decode cX2_fewestWithin 42 = .ok (.iaload, 1) := by decide +kernel
theorem dX2_fewestWithin_43 : decode cX2_fewestWithin 43 = .ok (.invokestatic 59, 3) := by decide +kernel
theorem dX2_fewestWithin_46 : decode cX2_fewestWithin 46 = .ok (.istore 5, 2) := by decide +kernel
theorem dX2_fewestWithin_48 : decode cX2_fewestWithin 48 = .ok (.iinc 6 1, 3) := by decide +kernel
theorem dX2_fewestWithin_51 : decode cX2_fewestWithin 51 = .ok (.goto (-29), 3) := by decide +kernel
theorem dX2_fewestWithin_54 : decode cX2_fewestWithin 54 = .ok (.iload 5, 2) := by decide +kernel
theorem dX2_fewestWithin_56 : decode cX2_fewestWithin 56 = .ok (.ireturn, 1) := by decide +kernel
theorem dX2_settle_0 : decode cX2_settle 0 = .ok (.aload_n 0, 1) := by decide +kernel
theorem dX2_settle_1 : decode cX2_settle 1 = .ok (.getfield 30, 3) := by decide +kernel
theorem dX2_settle_4 : decode cX2_settle 4 = .ok (.ifCond .eq 4, 3) := by decide +kernel
theorem dX2_settle_7 : decode cX2_settle 7 = .ok (.return_, 1) := by decide +kernel
theorem dX2_settle_8 : decode cX2_settle 8 = .ok (.aload_n 0, 1) := by decide +kernel
theorem dX2_settle_9 : decode cX2_settle 9 = .ok (.getfield 23, 3) := by decide +kernel
theorem dX2_settle_12 : decode cX2_settle 12 = .ok (.iconst 1, 1) := by decide +kernel
theorem dX2_settle_13 : decode cX2_settle 13 = .ok (.isub, 1) := by decide +kernel
theorem dX2_settle_14 : decode cX2_settle 14 = .ok (.istore_n 1, 1) := by decide +kernel
theorem dX2_settle_15 : decode cX2_settle 15 = .ok (.iload_n 1, 1) := by decide +kernel
theorem dX2_settle_16 : decode cX2_settle 16 = .ok (.iconst (-1), 1) := by decide +kernel
theorem dX2_settle_17 : decode cX2_settle 17 = .ok (.if_icmp .lt 72, 3) := by decide +kernel
theorem dX2_settle_20 : decode cX2_settle 20 = .ok (.aload_n 0, 1) := by decide +kernel
theorem dX2_settle_21 : decode cX2_settle 21 = .ok (.getfield 20, 3) := by decide +kernel
theorem dX2_settle_24 : decode cX2_settle 24 = .ok (.iload_n 1, 1) := by decide +kernel
theorem dX2_settle_25 : decode cX2_settle 25 = .ok (.iconst 1, 1) := by decide +kernel
theorem dX2_settle_26 : decode cX2_settle 26 = .ok (.iadd, 1) := by decide +kernel
theorem dX2_settle_27 : decode cX2_settle 27 = .ok (.aaload, 1) := by decide +kernel
theorem dX2_settle_28 : decode cX2_settle 28 = .ok (.sipush 1000, 3) := by decide +kernel
theorem dX2_settle_31 : decode cX2_settle 31 = .ok (.invokestatic 62, 3) := by decide +kernel
theorem dX2_settle_34 : decode cX2_settle 34 = .ok (.iload_n 1, 1) := by decide +kernel
theorem dX2_settle_35 : decode cX2_settle 35 = .ok (.ifCond .lt 24, 3) := by decide +kernel
theorem dX2_settle_38 : decode cX2_settle 38 = .ok (.iload_n 1, 1) := by decide +kernel
theorem dX2_settle_39 : decode cX2_settle 39 = .ok (.aload_n 0, 1) := by decide +kernel
theorem dX2_settle_40 : decode cX2_settle 40 = .ok (.getfield 23, 3) := by decide +kernel
theorem dX2_settle_43 : decode cX2_settle 43 = .ok (.iconst 1, 1) := by decide +kernel
theorem dX2_settle_44 : decode cX2_settle 44 = .ok (.isub, 1) := by decide +kernel
theorem dX2_settle_45 : decode cX2_settle 45 = .ok (.if_icmp .ne 14, 3) := by decide +kernel
theorem dX2_settle_48 : decode cX2_settle 48 = .ok (.aload_n 0, 1) := by decide +kernel
theorem dX2_settle_49 : decode cX2_settle 49 = .ok (.getfield 20, 3) := by decide +kernel
theorem dX2_settle_52 : decode cX2_settle 52 = .ok (.iload_n 1, 1) := by decide +kernel
theorem dX2_settle_53 : decode cX2_settle 53 = .ok (.iconst 1, 1) := by decide +kernel
theorem dX2_settle_54 : decode cX2_settle 54 = .ok (.iadd, 1) := by decide +kernel
theorem dX2_settle_55 : decode cX2_settle 55 = .ok (.aaload, 1) := by decide +kernel
theorem dX2_settle_56 : decode cX2_settle 56 = .ok (.iconst 0, 1) := by decide +kernel
theorem dX2_settle_57 : decode cX2_settle 57 = .ok (.iconst 0, 1) := by decide +kernel
theorem dX2_settle_58 : decode cX2_settle 58 = .ok (.iastore, 1) := by decide +kernel
theorem dX2_settle_59 : decode cX2_settle 59 = .ok (.iload_n 1, 1) := by decide +kernel
theorem dX2_settle_60 : decode cX2_settle 60 = .ok (.iconst 1, 1) := by decide +kernel
theorem dX2_settle_61 : decode cX2_settle 61 = .ok (.iadd, 1) := by decide +kernel
theorem dX2_settle_62 : decode cX2_settle 62 = .ok (.istore_n 2, 1) := by decide +kernel
theorem dX2_settle_63 : decode cX2_settle 63 = .ok (.iload_n 2, 1) := by decide +kernel
theorem dX2_settle_64 : decode cX2_settle 64 = .ok (.aload_n 0, 1) := by decide +kernel
theorem dX2_settle_65 : decode cX2_settle 65 = .ok (.getfield 23, 3) := by decide +kernel
theorem dX2_settle_68 : decode cX2_settle 68 = .ok (.if_icmp .ge 15, 3) := by decide +kernel
theorem dX2_settle_71 : decode cX2_settle 71 = .ok (.aload_n 0, 1) := by decide +kernel
theorem dX2_settle_72 : decode cX2_settle 72 = .ok (.iload_n 1, 1) := by decide +kernel
theorem dX2_settle_73 : decode cX2_settle 73 = .ok (.iload_n 2, 1) := by decide +kernel
theorem dX2_settle_74 : decode cX2_settle 74 = .ok (.invokevirtual 68, 3) := by decide +kernel
theorem dX2_settle_77 : decode cX2_settle 77 = .ok (.iinc 2 1, 3) := by decide +kernel
theorem dX2_settle_80 : decode cX2_settle 80 = .ok (.goto (-17), 3) := by decide +kernel
theorem dX2_settle_83 : decode cX2_settle 83 = .ok (.iinc 1 (-1), 3) := by decide +kernel
theorem dX2_settle_86 : decode cX2_settle 86 = .ok (.goto (-71), 3) := by decide +kernel
theorem dX2_settle_89 : decode cX2_settle 89 = .ok (.aload_n 0, 1) := by decide +kernel
theorem dX2_settle_90 : decode cX2_settle 90 = .ok (.iconst 1, 1) := by decide +kernel
theorem dX2_settle_91 : decode cX2_settle 91 = .ok (.putfield 30, 3) := by decide +kernel
theorem dX2_settle_94 : decode cX2_settle 94 = .ok (.return_, 1) := by decide +kernel
theorem dX2_bring_0 : decode cX2_bring 0 = .ok (.aload_n 0, 1) := by decide +kernel
theorem dX2_bring_1 : decode cX2_bring 1 = .ok (.getfield 20, 3) := by decide +kernel
theorem dX2_bring_4 : decode cX2_bring 4 = .ok (.iload_n 2, 1) := by decide +kernel
theorem dX2_bring_5 : decode cX2_bring 5 = .ok (.iconst 1, 1) := by decide +kernel
theorem dX2_bring_6 : decode cX2_bring 6 = .ok (.iadd, 1) := by decide +kernel
theorem dX2_bring_7 : decode cX2_bring 7 = .ok (.aaload, 1) := by decide +kernel
theorem dX2_bring_8 : decode cX2_bring 8 = .ok (.astore_n 3, 1) := by decide +kernel
theorem dX2_bring_9 : decode cX2_bring 9 = .ok (.iconst 0, 1) := by decide +kernel
theorem dX2_bring_10 : decode cX2_bring 10 = .ok (.istore 4, 2) := by decide +kernel
theorem dX2_bring_12 : decode cX2_bring 12 = .ok (.iload 4, 2) := by decide +kernel
theorem dX2_bring_14 : decode cX2_bring 14 = .ok (.sipush 2101, 3) := by decide +kernel
theorem dX2_bring_17 : decode cX2_bring 17 = .ok (.if_icmp .ge 27, 3) := by decide +kernel
theorem dX2_bring_20 : decode cX2_bring 20 = .ok (.aload_n 3, 1) := by decide +kernel
theorem dX2_bring_21 : decode cX2_bring 21 = .ok (.iload 4, 2) := by decide +kernel
theorem dX2_bring_23 : decode cX2_bring 23 = .ok (.iaload, 1) := by decide +kernel
theorem dX2_bring_24 : decode cX2_bring 24 = .ok (.sipush 1000, 3) := by decide +kernel
theorem dX2_bring_27 : decode cX2_bring 27 = .ok (.if_icmp .ge 11, 3) := by decide +kernel
theorem dX2_bring_30 : decode cX2_bring 30 = .ok (.aload_n 0, 1) := by decide +kernel
theorem dX2_bring_31 : decode cX2_bring 31 = .ok (.iload_n 1, 1) := by decide +kernel
theorem dX2_bring_32 : decode cX2_bring 32 = .ok (.iload_n 2, 1) := by decide +kernel
theorem dX2_bring_33 : decode cX2_bring 33 = .ok (.iload 4, 2) := by decide +kernel
theorem dX2_bring_35 : decode cX2_bring 35 = .ok (.invokevirtual 72, 3) := by decide +kernel
theorem dX2_bring_38 : decode cX2_bring 38 = .ok (.iinc 4 1, 3) := by decide +kernel
theorem dX2_bring_41 : decode cX2_bring 41 = .ok (.goto (-29), 3) := by decide +kernel
theorem dX2_bring_44 : decode cX2_bring 44 = .ok (.return_, 1) := by decide +kernel
theorem dX2_bringFrom_0 : decode cX2_bringFrom 0 = .ok (.aload_n 0, 1) := by decide +kernel
theorem dX2_bringFrom_1 : decode cX2_bringFrom 1 = .ok (.getfield 20, 3) := by decide +kernel
theorem dX2_bringFrom_4 : decode cX2_bringFrom 4 = .ok (.iload_n 1, 1) := by decide +kernel
theorem dX2_bringFrom_5 : decode cX2_bringFrom 5 = .ok (.iconst 1, 1) := by decide +kernel
theorem dX2_bringFrom_6 : decode cX2_bringFrom 6 = .ok (.iadd, 1) := by decide +kernel
theorem dX2_bringFrom_7 : decode cX2_bringFrom 7 = .ok (.aaload, 1) := by decide +kernel
theorem dX2_bringFrom_8 : decode cX2_bringFrom 8 = .ok (.astore 4, 2) := by decide +kernel
theorem dX2_bringFrom_10 : decode cX2_bringFrom 10 = .ok (.aload_n 0, 1) := by decide +kernel
theorem dX2_bringFrom_11 : decode cX2_bringFrom 11 = .ok (.getfield 20, 3) := by decide +kernel
theorem dX2_bringFrom_14 : decode cX2_bringFrom 14 = .ok (.iload_n 2, 1) := by decide +kernel
theorem dX2_bringFrom_15 : decode cX2_bringFrom 15 = .ok (.iconst 1, 1) := by decide +kernel
theorem dX2_bringFrom_16 : decode cX2_bringFrom 16 = .ok (.iadd, 1) := by decide +kernel
theorem dX2_bringFrom_17 : decode cX2_bringFrom 17 = .ok (.aaload, 1) := by decide +kernel
theorem dX2_bringFrom_18 : decode cX2_bringFrom 18 = .ok (.iload_n 3, 1) := by decide +kernel
theorem dX2_bringFrom_19 : decode cX2_bringFrom 19 = .ok (.iaload, 1) := by decide +kernel
theorem dX2_bringFrom_20 : decode cX2_bringFrom 20 = .ok (.istore 5, 2) := by decide +kernel
theorem dX2_bringFrom_22 : decode cX2_bringFrom 22 = .ok (.iconst 1, 1) := by decide +kernel
theorem dX2_bringFrom_23 : decode cX2_bringFrom 23 = .ok (.istore 6, 2) := by decide +kernel
theorem dX2_bringFrom_25 : decode cX2_bringFrom 25 = .ok (.iload 6, 2) := by decide +kernel
theorem dX2_bringFrom_27 : decode cX2_bringFrom 27 = .ok (.bipush 30, 2) := by decide +kernel
theorem dX2_bringFrom_29 : decode cX2_bringFrom 29 = .ok (.if_icmp .gt 74, 3) := by decide +kernel
theorem dX2_bringFrom_32 : decode cX2_bringFrom 32 = .ok (.iload_n 3, 1) := by decide +kernel
theorem dX2_bringFrom_33 : decode cX2_bringFrom 33 = .ok (.iload 6, 2) := by decide +kernel
theorem dX2_bringFrom_35 : decode cX2_bringFrom 35 = .ok (.aload_n 0, 1) := by decide +kernel
theorem dX2_bringFrom_36 : decode cX2_bringFrom 36 = .ok (.getfield 9, 3) := by decide +kernel
theorem dX2_bringFrom_39 : decode cX2_bringFrom 39 = .ok (.iload_n 2, 1) := by decide +kernel
theorem dX2_bringFrom_40 : decode cX2_bringFrom 40 = .ok (.iaload, 1) := by decide +kernel
theorem dX2_bringFrom_41 : decode cX2_bringFrom 41 = .ok (.imul, 1) := by decide +kernel
theorem dX2_bringFrom_42 : decode cX2_bringFrom 42 = .ok (.iadd, 1) := by decide +kernel
theorem dX2_bringFrom_43 : decode cX2_bringFrom 43 = .ok (.sipush 2101, 3) := by decide +kernel
theorem dX2_bringFrom_46 : decode cX2_bringFrom 46 = .ok (.if_icmp .ge 57, 3) := by decide +kernel
theorem dX2_bringFrom_49 : decode cX2_bringFrom 49 = .ok (.aload_n 0, 1) := by decide +kernel
theorem dX2_bringFrom_50 : decode cX2_bringFrom 50 = .ok (.iload_n 1, 1) := by decide +kernel
theorem dX2_bringFrom_51 : decode cX2_bringFrom 51 = .ok (.iload 6, 2) := by decide +kernel
theorem dX2_bringFrom_53 : decode cX2_bringFrom 53 = .ok (.aload_n 0, 1) := by decide +kernel
theorem dX2_bringFrom_54 : decode cX2_bringFrom 54 = .ok (.getfield 9, 3) := by decide +kernel
theorem dX2_bringFrom_57 : decode cX2_bringFrom 57 = .ok (.iload_n 2, 1) := by decide +kernel
theorem dX2_bringFrom_58 : decode cX2_bringFrom 58 = .ok (.iaload, 1) := by decide +kernel
theorem dX2_bringFrom_59 : decode cX2_bringFrom 59 = .ok (.imul, 1) := by decide +kernel
theorem dX2_bringFrom_60 : decode cX2_bringFrom 60 = .ok (.invokevirtual 49, 3) := by decide +kernel
theorem dX2_bringFrom_63 : decode cX2_bringFrom 63 = .ok (.ifCond .eq 34, 3) := by decide +kernel
theorem dX2_bringFrom_66 : decode cX2_bringFrom 66 = .ok (.iload_n 3, 1) := by decide +kernel
theorem dX2_bringFrom_67 : decode cX2_bringFrom 67 = .ok (.iload 6, 2) := by decide +kernel
theorem dX2_bringFrom_69 : decode cX2_bringFrom 69 = .ok (.aload_n 0, 1) := by decide +kernel
theorem dX2_bringFrom_70 : decode cX2_bringFrom 70 = .ok (.getfield 9, 3) := by decide +kernel
theorem dX2_bringFrom_73 : decode cX2_bringFrom 73 = .ok (.iload_n 2, 1) := by decide +kernel
theorem dX2_bringFrom_74 : decode cX2_bringFrom 74 = .ok (.iaload, 1) := by decide +kernel
theorem dX2_bringFrom_75 : decode cX2_bringFrom 75 = .ok (.imul, 1) := by decide +kernel
theorem dX2_bringFrom_76 : decode cX2_bringFrom 76 = .ok (.iadd, 1) := by decide +kernel
theorem dX2_bringFrom_77 : decode cX2_bringFrom 77 = .ok (.istore 7, 2) := by decide +kernel
theorem dX2_bringFrom_79 : decode cX2_bringFrom 79 = .ok (.aload 4, 2) := by decide +kernel
theorem dX2_bringFrom_81 : decode cX2_bringFrom 81 = .ok (.iload 7, 2) := by decide +kernel
theorem dX2_bringFrom_83 : decode cX2_bringFrom 83 = .ok (.aload 4, 2) := by decide +kernel
theorem dX2_bringFrom_85 : decode cX2_bringFrom 85 = .ok (.iload 7, 2) := by decide +kernel
theorem dX2_bringFrom_87 : decode cX2_bringFrom 87 = .ok (.iaload, 1) := by decide +kernel
theorem dX2_bringFrom_88 : decode cX2_bringFrom 88 = .ok (.iload 5, 2) := by decide +kernel
theorem dX2_bringFrom_90 : decode cX2_bringFrom 90 = .ok (.iload 6, 2) := by decide +kernel
theorem dX2_bringFrom_92 : decode cX2_bringFrom 92 = .ok (.iadd, 1) := by decide +kernel
theorem dX2_bringFrom_93 : decode cX2_bringFrom 93 = .ok (.invokestatic 59, 3) := by decide +kernel
theorem dX2_bringFrom_96 : decode cX2_bringFrom 96 = .ok (.iastore, 1) := by decide +kernel
theorem dX2_bringFrom_97 : decode cX2_bringFrom 97 = .ok (.iinc 6 1, 3) := by decide +kernel
theorem dX2_bringFrom_100 : decode cX2_bringFrom 100 = .ok (.goto (-75), 3) := by decide +kernel
theorem dX2_bringFrom_103 : decode cX2_bringFrom 103 = .ok (.return_, 1) := by decide +kernel
theorem dX3_init_0 : decode cX3_init 0 = .ok (.aload_n 0, 1) := by decide +kernel
theorem dX3_init_1 : decode cX3_init 1 = .ok (.invokespecial 3, 3) := by decide +kernel
theorem dX3_init_4 : decode cX3_init 4 = .ok (.aload_n 0, 1) := by decide +kernel
theorem dX3_init_5 : decode cX3_init 5 = .ok (.iconst 3, 1) := by decide +kernel
theorem dX3_init_6 : decode cX3_init 6 = .ok (.bipush 15, 2) := by decide +kernel
theorem dX3_init_8 : decode cX3_init 8 = .ok (.multianewarray 9 2, 4) := by decide +kernel
theorem dX3_init_12 : decode cX3_init 12 = .ok (.putfield 11, 3) := by decide +kernel
theorem dX3_init_15 : decode cX3_init 15 = .ok (.aload_n 0, 1) := by decide +kernel
theorem dX3_init_16 : decode cX3_init 16 = .ok (.iconst 3, 1) := by decide +kernel
theorem dX3_init_17 : decode cX3_init 17 = .ok (.newarray .int, 2) := by decide +kernel
theorem dX3_init_19 : decode cX3_init 19 = .ok (.putfield 16, 3) := by decide +kernel
theorem dX3_init_22 : decode cX3_init 22 = .ok (.aload_n 0, 1) := by decide +kernel
theorem dX3_init_23 : decode cX3_init 23 = .ok (.bipush 15, 2) := by decide +kernel
theorem dX3_init_25 : decode cX3_init 25 = .ok (.newarray .int, 2) := by decide +kernel
theorem dX3_init_27 : decode cX3_init 27 = .ok (.putfield 20, 3) := by decide +kernel
theorem dX3_init_30 : decode cX3_init 30 = .ok (.aload_n 0, 1) := by decide +kernel
theorem dX3_init_31 : decode cX3_init 31 = .ok (.bipush 16, 2) := by decide +kernel
theorem dX3_init_33 : decode cX3_init 33 = .ok (.newarray .int, 2) := by decide +kernel
theorem dX3_init_35 : decode cX3_init 35 = .ok (.putfield 23, 3) := by decide +kernel
theorem dX3_init_38 : decode cX3_init 38 = .ok (.aload_n 0, 1) := by decide +kernel
theorem dX3_init_39 : decode cX3_init 39 = .ok (.bipush 41, 2) := by decide +kernel
theorem dX3_init_41 : decode cX3_init 41 = .ok (.newarray .int, 2) := by decide +kernel
theorem dX3_init_43 : decode cX3_init 43 = .ok (.putfield 26, 3) := by decide +kernel
theorem dX3_init_46 : decode cX3_init 46 = .ok (.aload_n 0, 1) := by decide +kernel
theorem dX3_init_47 : decode cX3_init 47 = .ok (.bipush 41, 2) := by decide +kernel
theorem dX3_init_49 : decode cX3_init 49 = .ok (.newarray .int, 2) := by decide +kernel
theorem dX3_init_51 : decode cX3_init 51 = .ok (.putfield 29, 3) := by decide +kernel
theorem dX3_init_54 : decode cX3_init 54 = .ok (.aload_n 0, 1) := by decide +kernel
theorem dX3_init_55 : decode cX3_init 55 = .ok (.bipush 81, 2) := by decide +kernel
theorem dX3_init_57 : decode cX3_init 57 = .ok (.newarray .int, 2) := by decide +kernel
theorem dX3_init_59 : decode cX3_init 59 = .ok (.putfield 32, 3) := by decide +kernel
theorem dX3_init_62 : decode cX3_init 62 = .ok (.aload_n 0, 1) := by decide +kernel
theorem dX3_init_63 : decode cX3_init 63 = .ok (.iconst 2, 1) := by decide +kernel
theorem dX3_init_64 : decode cX3_init 64 = .ok (.putfield 35, 3) := by decide +kernel
theorem dX3_init_67 : decode cX3_init 67 = .ok (.aload_n 0, 1) := by decide +kernel
theorem dX3_init_68 : decode cX3_init 68 = .ok (.bipush 8, 2) := by decide +kernel
theorem dX3_init_70 : decode cX3_init 70 = .ok (.invokevirtual 39, 3) := by decide +kernel
theorem dX3_init_73 : decode cX3_init 73 = .ok (.return_, 1) := by decide +kernel
theorem dX3_begin_0 : decode cX3_begin 0 = .ok (.aload_n 0, 1) := by decide +kernel
theorem dX3_begin_1 : decode cX3_begin 1 = .ok (.iload_n 1, 1) := by decide +kernel
theorem dX3_begin_2 : decode cX3_begin 2 = .ok (.putfield 43, 3) := by decide +kernel
theorem dX3_begin_5 : decode cX3_begin 5 = .ok (.aload_n 0, 1) := by decide +kernel
theorem dX3_begin_6 : decode cX3_begin 6 = .ok (.getfield 11, 3) := by decide +kernel
theorem dX3_begin_9 : decode cX3_begin 9 = .ok (.astore_n 2, 1) := by decide +kernel
theorem dX3_begin_10 : decode cX3_begin 10 = .ok (.aload_n 2, 1) := by decide +kernel
theorem dX3_begin_11 : decode cX3_begin 11 = .ok (.arraylength, 1) := by decide +kernel
theorem dX3_begin_12 : decode cX3_begin 12 = .ok (.istore_n 3, 1) := by decide +kernel
theorem dX3_begin_13 : decode cX3_begin 13 = .ok (.iconst 0, 1) := by decide +kernel
theorem dX3_begin_14 : decode cX3_begin 14 = .ok (.istore 4, 2) := by decide +kernel
theorem dX3_begin_16 : decode cX3_begin 16 = .ok (.iload 4, 2) := by decide +kernel
theorem dX3_begin_18 : decode cX3_begin 18 = .ok (.iload_n 3, 1) := by decide +kernel
theorem dX3_begin_19 : decode cX3_begin 19 = .ok (.if_icmp .ge 23, 3) := by decide +kernel
theorem dX3_begin_22 : decode cX3_begin 22 = .ok (.aload_n 2, 1) := by decide +kernel
theorem dX3_begin_23 : decode cX3_begin 23 = .ok (.iload 4, 2) := by decide +kernel
theorem dX3_begin_25 : decode cX3_begin 25 = .ok (.aaload, 1) := by decide +kernel
theorem dX3_begin_26 : decode cX3_begin 26 = .ok (.astore 5, 2) := by decide +kernel
theorem dX3_begin_28 : decode cX3_begin 28 = .ok (.aload 5, 2) := by decide +kernel
theorem dX3_begin_30 : decode cX3_begin 30 = .ok (.sipush 5000, 3) := by decide +kernel
theorem dX3_begin_33 : decode cX3_begin 33 = .ok (.invokestatic 46, 3) := by decide +kernel
theorem dX3_begin_36 : decode cX3_begin 36 = .ok (.iinc 4 1, 3) := by decide +kernel
theorem dX3_begin_39 : decode cX3_begin 39 = .ok (.goto (-23), 3) := by decide +kernel
theorem dX3_begin_42 : decode cX3_begin 42 = .ok (.aload_n 0, 1) := by decide +kernel
theorem dX3_begin_43 : decode cX3_begin 43 = .ok (.iconst 0, 1) := by decide +kernel
theorem dX3_begin_44 : decode cX3_begin 44 = .ok (.putfield 52, 3) := by decide +kernel
theorem dX3_begin_47 : decode cX3_begin 47 = .ok (.return_, 1) := by decide +kernel
theorem dX3_tellReading_0 : decode cX3_tellReading 0 = .ok (.aload_n 0, 1) := by decide +kernel
theorem dX3_tellReading_1 : decode cX3_tellReading 1 = .ok (.getfield 11, 3) := by decide +kernel
theorem dX3_tellReading_4 : decode cX3_tellReading 4 = .ok (.iload_n 1, 1) := by decide +kernel
theorem dX3_tellReading_5 : decode cX3_tellReading 5 = .ok (.aaload, 1) := by decide +kernel
theorem dX3_tellReading_6 : decode cX3_tellReading 6 = .ok (.iload_n 2, 1) := by decide +kernel
theorem dX3_tellReading_7 : decode cX3_tellReading 7 = .ok (.iaload, 1) := by decide +kernel
theorem dX3_tellReading_8 : decode cX3_tellReading 8 = .ok (.istore 4, 2) := by decide +kernel
theorem dX3_tellReading_10 : decode cX3_tellReading 10 = .ok (.aload_n 0, 1) := by decide +kernel
theorem dX3_tellReading_11 : decode cX3_tellReading 11 = .ok (.getfield 11, 3) := by decide +kernel
theorem dX3_tellReading_14 : decode cX3_tellReading 14 = .ok (.iload_n 1, 1) := by decide +kernel
theorem dX3_tellReading_15 : decode cX3_tellReading 15 = .ok (.aaload, 1) := by decide +kernel
theorem dX3_tellReading_16 : decode cX3_tellReading 16 = .ok (.iload_n 2, 1) := by decide +kernel
theorem dX3_tellReading_17 : decode cX3_tellReading 17 = .ok (.iload_n 3, 1) := by decide +kernel
theorem dX3_tellReading_18 : decode cX3_tellReading 18 = .ok (.iastore, 1) := by decide +kernel
theorem dX3_tellReading_19 : decode cX3_tellReading 19 = .ok (.aload_n 0, 1) := by decide +kernel
theorem dX3_tellReading_20 : decode cX3_tellReading 20 = .ok (.iconst 0, 1) := by decide +kernel
theorem dX3_tellReading_21 : decode cX3_tellReading 21 = .ok (.putfield 52, 3) := by decide +kernel
theorem dX3_tellReading_24 : decode cX3_tellReading 24 = .ok (.iload 4, 2) := by decide +kernel
theorem dX3_tellReading_26 : decode cX3_tellReading 26 = .ok (.ireturn, 1) := by decide +kernel
theorem dX3_tellLie_0 : decode cX3_tellLie 0 = .ok (.aload_n 0, 1) := by decide +kernel
theorem dX3_tellLie_1 : decode cX3_tellLie 1 = .ok (.getfield 35, 3) := by decide +kernel
theorem dX3_tellLie_4 : decode cX3_tellLie 4 = .ok (.istore_n 2, 1) := by decide +kernel
theorem dX3_tellLie_5 : decode cX3_tellLie 5 = .ok (.aload_n 0, 1) := by decide +kernel
theorem dX3_tellLie_6 : decode cX3_tellLie 6 = .ok (.iload_n 1, 1) := by decide +kernel
theorem dX3_tellLie_7 : decode cX3_tellLie 7 = .ok (.putfield 35, 3) := by decide +kernel
theorem dX3_tellLie_10 : decode cX3_tellLie 10 = .ok (.aload_n 0, 1) := by decide +kernel
theorem dX3_tellLie_11 : decode cX3_tellLie 11 = .ok (.iconst 0, 1) := by decide +kernel
theorem dX3_tellLie_12 : decode cX3_tellLie 12 = .ok (.putfield 52, 3) := by decide +kernel
theorem dX3_tellLie_15 : decode cX3_tellLie 15 = .ok (.iload_n 2, 1) := by decide +kernel
theorem dX3_tellLie_16 : decode cX3_tellLie 16 = .ok (.ireturn, 1) := by decide +kernel
theorem dX3_howManyTold_0 : decode cX3_howManyTold 0 = .ok (.iconst 0, 1) := by decide +kernel
theorem dX3_howManyTold_1 : decode cX3_howManyTold 1 = .ok (.istore_n 1, 1) := by decide +kernel
theorem dX3_howManyTold_2 : decode cX3_howManyTold 2 = .ok (.aload_n 0, 1) := by decide +kernel
theorem dX3_howManyTold_3 : decode cX3_howManyTold 3 = .ok (.getfield 11, 3) := by decide +kernel
theorem dX3_howManyTold_6 : decode cX3_howManyTold 6 = .ok (.astore_n 2, 1) := by decide +kernel
theorem dX3_howManyTold_7 : decode cX3_howManyTold 7 = .ok (.aload_n 2, 1) := by decide +kernel
theorem dX3_howManyTold_8 : decode cX3_howManyTold 8 = .ok (.arraylength, 1) := by decide +kernel
theorem dX3_howManyTold_9 : decode cX3_howManyTold 9 = .ok (.istore_n 3, 1) := by decide +kernel
theorem dX3_howManyTold_10 : decode cX3_howManyTold 10 = .ok (.iconst 0, 1) := by decide +kernel
theorem dX3_howManyTold_11 : decode cX3_howManyTold 11 = .ok (.istore 4, 2) := by decide +kernel
theorem dX3_howManyTold_13 : decode cX3_howManyTold 13 = .ok (.iload 4, 2) := by decide +kernel
theorem dX3_howManyTold_15 : decode cX3_howManyTold 15 = .ok (.iload_n 3, 1) := by decide +kernel
theorem dX3_howManyTold_16 : decode cX3_howManyTold 16 = .ok (.if_icmp .ge 58, 3) := by decide +kernel
theorem dX3_howManyTold_19 : decode cX3_howManyTold 19 = .ok (.aload_n 2, 1) := by decide +kernel
theorem dX3_howManyTold_20 : decode cX3_howManyTold 20 = .ok (.iload 4, 2) := by decide +kernel
theorem dX3_howManyTold_22 : decode cX3_howManyTold 22 = .ok (.aaload, 1) := by decide +kernel
theorem dX3_howManyTold_23 : decode cX3_howManyTold 23 = .ok (.astore 5, 2) := by decide +kernel
theorem dX3_howManyTold_25 : decode cX3_howManyTold 25 = .ok (.aload 5, 2) := by decide +kernel
theorem dX3_howManyTold_27 : decode cX3_howManyTold 27 = .ok (.astore 6, 2) := by decide +kernel
theorem dX3_howManyTold_29 : decode cX3_howManyTold 29 = .ok (.aload 6, 2) := by decide +kernel
theorem dX3_howManyTold_31 : decode cX3_howManyTold 31 = .ok (.arraylength, 1) := by decide +kernel
theorem dX3_howManyTold_32 : decode cX3_howManyTold 32 = .ok (.istore 7, 2) := by decide +kernel
theorem dX3_howManyTold_34 : decode cX3_howManyTold 34 = .ok (.iconst 0, 1) := by decide +kernel
theorem dX3_howManyTold_35 : decode cX3_howManyTold 35 = .ok (.istore 8, 2) := by decide +kernel
theorem dX3_howManyTold_37 : decode cX3_howManyTold 37 = .ok (.iload 8, 2) := by decide +kernel
theorem dX3_howManyTold_39 : decode cX3_howManyTold 39 = .ok (.iload 7, 2) := by decide +kernel
theorem dX3_howManyTold_41 : decode cX3_howManyTold 41 = .ok (.if_icmp .ge 27, 3) := by decide +kernel
theorem dX3_howManyTold_44 : decode cX3_howManyTold 44 = .ok (.aload 6, 2) := by decide +kernel
theorem dX3_howManyTold_46 : decode cX3_howManyTold 46 = .ok (.iload 8, 2) := by decide +kernel
theorem dX3_howManyTold_48 : decode cX3_howManyTold 48 = .ok (.iaload, 1) := by decide +kernel
theorem dX3_howManyTold_49 : decode cX3_howManyTold 49 = .ok (.istore 9, 2) := by decide +kernel
theorem dX3_howManyTold_51 : decode cX3_howManyTold 51 = .ok (.iload 9, 2) := by decide +kernel
theorem dX3_howManyTold_53 : decode cX3_howManyTold 53 = .ok (.sipush 5000, 3) := by decide +kernel
theorem dX3_howManyTold_56 : decode cX3_howManyTold 56 = .ok (.if_icmp .eq 6, 3) := by decide +kernel
theorem dX3_howManyTold_59 : decode cX3_howManyTold 59 = .ok (.iinc 1 1, 3) := by decide +kernel
theorem dX3_howManyTold_62 : decode cX3_howManyTold 62 = .ok (.iinc 8 1, 3) := by decide +kernel
theorem dX3_howManyTold_65 : decode cX3_howManyTold 65 = .ok (.goto (-28), 3) := by decide +kernel
theorem dX3_howManyTold_68 : decode cX3_howManyTold 68 = .ok (.iinc 4 1, 3) := by decide +kernel
theorem dX3_howManyTold_71 : decode cX3_howManyTold 71 = .ok (.goto (-58), 3) := by decide +kernel
theorem dX3_howManyTold_74 : decode cX3_howManyTold 74 = .ok (.iload_n 1, 1) := by decide +kernel
theorem dX3_howManyTold_75 : decode cX3_howManyTold 75 = .ok (.ireturn, 1) := by decide +kernel
theorem dX3_howManyDropped_0 : decode cX3_howManyDropped 0 = .ok (.aload_n 0, 1) := by decide +kernel
theorem dX3_howManyDropped_1 : decode cX3_howManyDropped 1 = .ok (.invokevirtual 56, 3) := by decide +kernel
theorem dX3_howManyDropped_4 : decode cX3_howManyDropped 4 = .ok (.aload_n 0, 1) := by decide +kernel
theorem dX3_howManyDropped_5 : decode cX3_howManyDropped 5 = .ok (.getfield 59, 3) := by decide +kernel
theorem dX3_howManyDropped_8 : decode cX3_howManyDropped 8 = .ok (.ireturn, 1) := by decide +kernel
theorem dX3_shiftOf_0 : decode cX3_shiftOf 0 = .ok (.aload_n 0, 1) := by decide +kernel
theorem dX3_shiftOf_1 : decode cX3_shiftOf 1 = .ok (.invokevirtual 56, 3) := by decide +kernel
theorem dX3_shiftOf_4 : decode cX3_shiftOf 4 = .ok (.aload_n 0, 1) := by decide +kernel
theorem dX3_shiftOf_5 : decode cX3_shiftOf 5 = .ok (.getfield 16, 3) := by decide +kernel
theorem dX3_shiftOf_8 : decode cX3_shiftOf 8 = .ok (.iload_n 1, 1) := by decide +kernel
theorem dX3_shiftOf_9 : decode cX3_shiftOf 9 = .ok (.iaload, 1) := by decide +kernel
theorem dX3_shiftOf_10 : decode cX3_shiftOf 10 = .ok (.ireturn, 1) := by decide +kernel
theorem dX3_stepOf_0 : decode cX3_stepOf 0 = .ok (.aload_n 0, 1) := by decide +kernel
theorem dX3_stepOf_1 : decode cX3_stepOf 1 = .ok (.invokevirtual 56, 3) := by decide +kernel
theorem dX3_stepOf_4 : decode cX3_stepOf 4 = .ok (.aload_n 0, 1) := by decide +kernel
theorem dX3_stepOf_5 : decode cX3_stepOf 5 = .ok (.getfield 20, 3) := by decide +kernel
theorem dX3_stepOf_8 : decode cX3_stepOf 8 = .ok (.iload_n 1, 1) := by decide +kernel
theorem dX3_stepOf_9 : decode cX3_stepOf 9 = .ok (.iaload, 1) := by decide +kernel
theorem dX3_stepOf_10 : decode cX3_stepOf 10 = .ok (.ireturn, 1) := by decide +kernel
theorem dX3_profileOf_0 : decode cX3_profileOf 0 = .ok (.aload_n 0, 1) := by decide +kernel
theorem dX3_profileOf_1 : decode cX3_profileOf 1 = .ok (.invokevirtual 56, 3) := by decide +kernel
theorem dX3_profileOf_4 : decode cX3_profileOf 4 = .ok (.iload_n 1, 1) := by decide +kernel
theorem dX3_profileOf_5 : decode cX3_profileOf 5 = .ok (.aload_n 0, 1) := by decide +kernel
theorem dX3_profileOf_6 : decode cX3_profileOf 6 = .ok (.getfield 62, 3) := by decide +kernel
theorem dX3_profileOf_9 : decode cX3_profileOf 9 = .ok (.if_icmp .ge 12, 3) := by decide +kernel
theorem dX3_profileOf_12 : decode cX3_profileOf 12 = .ok (.aload_n 0, 1) := by decide +kernel
theorem dX3_profileOf_13 : decode cX3_profileOf 13 = .ok (.getfield 23, 3) := by decide +kernel
theorem dX3_profileOf_16 : decode cX3_profileOf 16 = .ok (.iload_n 1, 1) := by decide +kernel
theorem dX3_profileOf_17 : decode cX3_profileOf 17 = .ok (.iaload, 1) := by decide +kernel
theorem dX3_profileOf_18 : decode cX3_profileOf 18 = .ok (.goto 5, 3) := by decide +kernel
theorem dX3_profileOf_21 : decode cX3_profileOf 21 = .ok (.ldc 65, 2) := by decide +kernel
theorem dX3_profileOf_23 : decode cX3_profileOf 23 = .ok (.ireturn, 1) := by decide +kernel
theorem dX3_lieOf_0 : decode cX3_lieOf 0 = .ok (.aload_n 0, 1) := by decide +kernel
theorem dX3_lieOf_1 : decode cX3_lieOf 1 = .ok (.getfield 35, 3) := by decide +kernel
theorem dX3_lieOf_4 : decode cX3_lieOf 4 = .ok (.ireturn, 1) := by decide +kernel
theorem dX3_settle_0 : decode cX3_settle 0 = .ok (.aload_n 0, 1) := by decide +kernel
theorem dX3_settle_1 : decode cX3_settle 1 = .ok (.getfield 52, 3) := by decide +kernel
theorem dX3_settle_4 : decode cX3_settle 4 = .ok (.ifCond .eq 4, 3) := by decide +kernel
theorem dX3_settle_7 : decode cX3_settle 7 = .ok (.return_, 1) := by decide +kernel
theorem dX3_settle_8 : decode cX3_settle 8 = .ok (.aload_n 0, 1) := by decide +kernel
theorem dX3_settle_9 : decode cX3_settle 9 = .ok (.invokevirtual 66, 3) := by decide +kernel
theorem dX3_settle_12 : decode cX3_settle 12 = .ok (.aload_n 0, 1) := by decide +kernel
theorem dX3_settle_13 : decode cX3_settle 13 = .ok (.invokevirtual 69, 3) := by decide +kernel
theorem dX3_settle_16 : decode cX3_settle 16 = .ok (.iconst 0, 1) := by decide +kernel
theorem dX3_settle_17 : decode cX3_settle 17 = .ok (.istore_n 1, 1) := by decide +kernel
theorem dX3_settle_18 : decode cX3_settle 18 = .ok (.iload_n 1, 1) := by decide +kernel
theorem dX3_settle_19 : decode cX3_settle 19 = .ok (.aload_n 0, 1) := by decide +kernel
theorem dX3_settle_20 : decode cX3_settle 20 = .ok (.getfield 43, 3) := by decide +kernel
theorem dX3_settle_23 : decode cX3_settle 23 = .ok (.iconst 1, 1) := by decide +kernel
theorem dX3_settle_24 : decode cX3_settle 24 = .ok (.isub, 1) := by decide +kernel
theorem dX3_settle_25 : decode cX3_settle 25 = .ok (.if_icmp .ge 20, 3) := by decide +kernel
theorem dX3_settle_28 : decode cX3_settle 28 = .ok (.aload_n 0, 1) := by decide +kernel
theorem dX3_settle_29 : decode cX3_settle 29 = .ok (.getfield 20, 3) := by decide +kernel
theorem dX3_settle_32 : decode cX3_settle 32 = .ok (.iload_n 1, 1) := by decide +kernel
theorem dX3_settle_33 : decode cX3_settle 33 = .ok (.aload_n 0, 1) := by decide +kernel
theorem dX3_settle_34 : decode cX3_settle 34 = .ok (.iload_n 1, 1) := by decide +kernel
theorem dX3_settle_35 : decode cX3_settle 35 = .ok (.invokevirtual 72, 3) := by decide +kernel
theorem dX3_settle_38 : decode cX3_settle 38 = .ok (.iastore, 1) := by decide +kernel
theorem dX3_settle_39 : decode cX3_settle 39 = .ok (.iinc 1 1, 3) := by decide +kernel
theorem dX3_settle_42 : decode cX3_settle 42 = .ok (.goto (-24), 3) := by decide +kernel
theorem dX3_settle_45 : decode cX3_settle 45 = .ok (.aload_n 0, 1) := by decide +kernel
theorem dX3_settle_46 : decode cX3_settle 46 = .ok (.invokevirtual 76, 3) := by decide +kernel
theorem dX3_settle_49 : decode cX3_settle 49 = .ok (.aload_n 0, 1) := by decide +kernel
theorem dX3_settle_50 : decode cX3_settle 50 = .ok (.iconst 1, 1) := by decide +kernel
theorem dX3_settle_51 : decode cX3_settle 51 = .ok (.putfield 52, 3) := by decide +kernel
theorem dX3_settle_54 : decode cX3_settle 54 = .ok (.return_, 1) := by decide +kernel
theorem dX3_settleAgreements_0 : decode cX3_settleAgreements 0 = .ok (.bipush (-20), 2) := by decide +kernel
theorem dX3_settleAgreements_2 : decode cX3_settleAgreements 2 = .ok (.istore_n 1, 1) := by decide +kernel
theorem dX3_settleAgreements_3 : decode cX3_settleAgreements 3 = .ok (.iload_n 1, 1) := by decide +kernel
theorem dX3_settleAgreements_4 : decode cX3_settleAgreements 4 = .ok (.bipush 20, 2) := by decide +kernel
theorem dX3_settleAgreements_6 : decode cX3_settleAgreements 6 = .ok (.if_icmp .gt 41, 3) := by decide +kernel
theorem dX3_settleAgreements_9 : decode cX3_settleAgreements 9 = .ok (.aload_n 0, 1) := by decide +kernel
theorem dX3_settleAgreements_10 : decode cX3_settleAgreements 10 = .ok (.getfield 26, 3) := by decide +kernel
theorem dX3_settleAgreements_13 : decode cX3_settleAgreements 13 = .ok (.iload_n 1, 1) := by decide +kernel
theorem dX3_settleAgreements_14 : decode cX3_settleAgreements 14 = .ok (.bipush 20, 2) := by decide +kernel
theorem dX3_settleAgreements_16 : decode cX3_settleAgreements 16 = .ok (.iadd, 1) := by decide +kernel
theorem dX3_settleAgreements_17 : decode cX3_settleAgreements 17 = .ok (.aload_n 0, 1) := by decide +kernel
theorem dX3_settleAgreements_18 : decode cX3_settleAgreements 18 = .ok (.iconst 0, 1) := by decide +kernel
theorem dX3_settleAgreements_19 : decode cX3_settleAgreements 19 = .ok (.iconst 1, 1) := by decide +kernel
theorem dX3_settleAgreements_20 : decode cX3_settleAgreements 20 = .ok (.iload_n 1, 1) := by decide +kernel
theorem dX3_settleAgreements_21 : decode cX3_settleAgreements 21 = .ok (.invokevirtual 79, 3) := by decide +kernel
theorem dX3_settleAgreements_24 : decode cX3_settleAgreements 24 = .ok (.iastore, 1) := by decide +kernel
theorem dX3_settleAgreements_25 : decode cX3_settleAgreements 25 = .ok (.aload_n 0, 1) := by decide +kernel
theorem dX3_settleAgreements_26 : decode cX3_settleAgreements 26 = .ok (.getfield 29, 3) := by decide +kernel
theorem dX3_settleAgreements_29 : decode cX3_settleAgreements 29 = .ok (.iload_n 1, 1) := by decide +kernel
theorem dX3_settleAgreements_30 : decode cX3_settleAgreements 30 = .ok (.bipush 20, 2) := by decide +kernel
theorem dX3_settleAgreements_32 : decode cX3_settleAgreements 32 = .ok (.iadd, 1) := by decide +kernel
theorem dX3_settleAgreements_33 : decode cX3_settleAgreements 33 = .ok (.aload_n 0, 1) := by decide +kernel
theorem dX3_settleAgreements_34 : decode cX3_settleAgreements 34 = .ok (.iconst 0, 1) := by decide +kernel
theorem dX3_settleAgreements_35 : decode cX3_settleAgreements 35 = .ok (.iconst 2, 1) := by decide +kernel
theorem dX3_settleAgreements_36 : decode cX3_settleAgreements 36 = .ok (.iload_n 1, 1) := by decide +kernel
theorem dX3_settleAgreements_37 : decode cX3_settleAgreements 37 = .ok (.invokevirtual 79, 3) := by decide +kernel
theorem dX3_settleAgreements_40 : decode cX3_settleAgreements 40 = .ok (.iastore, 1) := by decide +kernel
theorem dX3_settleAgreements_41 : decode cX3_settleAgreements 41 = .ok (.iinc 1 1, 3) := by decide +kernel
theorem dX3_settleAgreements_44 : decode cX3_settleAgreements 44 = .ok (.goto (-41), 3) := by decide +kernel
theorem dX3_settleAgreements_47 : decode cX3_settleAgreements 47 = .ok (.bipush (-40), 2) := by decide +kernel
theorem dX3_settleAgreements_49 : decode cX3_settleAgreements 49 = .ok (.istore_n 1, 1) := by decide +kernel
theorem dX3_settleAgreements_50 : decode cX3_settleAgreements 50 = .ok (.iload_n 1, 1) := by decide +kernel
theorem dX3_settleAgreements_51 : decode cX3_settleAgreements 51 = .ok (.bipush 40, 2) := by decide +kernel
theorem dX3_settleAgreements_53 : decode cX3_settleAgreements 53 = .ok (.if_icmp .gt 25, 3) := by decide +kernel
theorem dX3_settleAgreements_56 : decode cX3_settleAgreements 56 = .ok (.aload_n 0, 1) := by decide +kernel
theorem dX3_settleAgreements_57 : decode cX3_settleAgreements 57 = .ok (.getfield 32, 3) := by decide +kernel
theorem dX3_settleAgreements_60 : decode cX3_settleAgreements 60 = .ok (.iload_n 1, 1) := by decide +kernel
theorem dX3_settleAgreements_61 : decode cX3_settleAgreements 61 = .ok (.bipush 40, 2) := by decide +kernel
theorem dX3_settleAgreements_63 : decode cX3_settleAgreements 63 = .ok (.iadd, 1) := by decide +kernel
theorem dX3_settleAgreements_64 : decode cX3_settleAgreements 64 = .ok (.aload_n 0, 1) := by decide +kernel
theorem dX3_settleAgreements_65 : decode cX3_settleAgreements 65 = .ok (.iconst 1, 1) := by decide +kernel
theorem dX3_settleAgreements_66 : decode cX3_settleAgreements 66 = .ok (.iconst 2, 1) := by decide +kernel
theorem dX3_settleAgreements_67 : decode cX3_settleAgreements 67 = .ok (.iload_n 1, 1) := by decide +kernel
theorem dX3_settleAgreements_68 : decode cX3_settleAgreements 68 = .ok (.invokevirtual 79, 3) := by decide +kernel
theorem dX3_settleAgreements_71 : decode cX3_settleAgreements 71 = .ok (.iastore, 1) := by decide +kernel
theorem dX3_settleAgreements_72 : decode cX3_settleAgreements 72 = .ok (.iinc 1 1, 3) := by decide +kernel
theorem dX3_settleAgreements_75 : decode cX3_settleAgreements 75 = .ok (.goto (-25), 3) := by decide +kernel
theorem dX3_settleAgreements_78 : decode cX3_settleAgreements 78 = .ok (.return_, 1) := by decide +kernel
theorem dX3_stepsOfAgreement_0 : decode cX3_stepsOfAgreement 0 = .ok (.iconst 0, 1) := by decide +kernel
theorem dX3_stepsOfAgreement_1 : decode cX3_stepsOfAgreement 1 = .ok (.istore 4, 2) := by decide +kernel
theorem dX3_stepsOfAgreement_3 : decode cX3_stepsOfAgreement 3 = .ok (.iconst 0, 1) := by decide +kernel
theorem dX3_stepsOfAgreement_4 : decode cX3_stepsOfAgreement 4 = .ok (.istore 5, 2) := by decide +kernel
theorem dX3_stepsOfAgreement_6 : decode cX3_stepsOfAgreement 6 = .ok (.iload 5, 2) := by decide +kernel
theorem dX3_stepsOfAgreement_8 : decode cX3_stepsOfAgreement 8 = .ok (.aload_n 0, 1) := by decide +kernel
theorem dX3_stepsOfAgreement_9 : decode cX3_stepsOfAgreement 9 = .ok (.getfield 43, 3) := by decide +kernel
theorem dX3_stepsOfAgreement_12 : decode cX3_stepsOfAgreement 12 = .ok (.iconst 1, 1) := by decide +kernel
theorem dX3_stepsOfAgreement_13 : decode cX3_stepsOfAgreement 13 = .ok (.isub, 1) := by decide +kernel
theorem dX3_stepsOfAgreement_14 : decode cX3_stepsOfAgreement 14 = .ok (.if_icmp .ge 75, 3) := by decide +kernel
theorem dX3_stepsOfAgreement_17 : decode cX3_stepsOfAgreement 17 = .ok (.aload_n 0, 1) := by decide +kernel
theorem dX3_stepsOfAgreement_18 : decode cX3_stepsOfAgreement 18 = .ok (.getfield 11, 3) := by decide +kernel
theorem dX3_stepsOfAgreement_21 : decode cX3_stepsOfAgreement 21 = .ok (.iload_n 1, 1) := by decide +kernel
theorem dX3_stepsOfAgreement_22 : decode cX3_stepsOfAgreement 22 = .ok (.aaload, 1) := by decide +kernel
theorem dX3_stepsOfAgreement_23 : decode cX3_stepsOfAgreement 23 = .ok (.iload 5, 2) := by decide +kernel
theorem dX3_stepsOfAgreement_25 : decode cX3_stepsOfAgreement 25 = .ok (.iaload, 1) := by decide +kernel
theorem dX3_stepsOfAgreement_26 : decode cX3_stepsOfAgreement 26 = .ok (.istore 6, 2) := by decide +kernel
theorem dX3_stepsOfAgreement_28 : decode cX3_stepsOfAgreement 28 = .ok (.aload_n 0, 1) := by decide +kernel
theorem dX3_stepsOfAgreement_29 : decode cX3_stepsOfAgreement 29 = .ok (.getfield 11, 3) := by decide +kernel
theorem dX3_stepsOfAgreement_32 : decode cX3_stepsOfAgreement 32 = .ok (.iload_n 2, 1) := by decide +kernel
theorem dX3_stepsOfAgreement_33 : decode cX3_stepsOfAgreement 33 = .ok (.aaload, 1) := by decide +kernel
theorem dX3_stepsOfAgreement_34 : decode cX3_stepsOfAgreement 34 = .ok (.iload 5, 2) := by decide +kernel
theorem dX3_stepsOfAgreement_36 : decode cX3_stepsOfAgreement 36 = .ok (.iaload, 1) := by decide +kernel
theorem dX3_stepsOfAgreement_37 : decode cX3_stepsOfAgreement 37 = .ok (.istore 7, 2) := by decide +kernel
theorem dX3_stepsOfAgreement_39 : decode cX3_stepsOfAgreement 39 = .ok (.iload 6, 2) := by decide +kernel
theorem dX3_stepsOfAgreement_41 : decode cX3_stepsOfAgreement 41 = .ok (.sipush 5000, 3) := by decide +kernel
theorem dX3_stepsOfAgreement_44 : decode cX3_stepsOfAgreement 44 = .ok (.if_icmp .eq 39, 3) := by decide +kernel
theorem dX3_stepsOfAgreement_47 : decode cX3_stepsOfAgreement 47 = .ok (.iload 7, 2) := by decide +kernel
theorem dX3_stepsOfAgreement_49 : decode cX3_stepsOfAgreement 49 = .ok (.sipush 5000, 3) := by decide +kernel
theorem dX3_stepsOfAgreement_52 : decode cX3_stepsOfAgreement 52 = .ok (.if_icmp .eq 31, 3) := by decide +kernel
theorem dX3_stepsOfAgreement_55 : decode cX3_stepsOfAgreement 55 = .ok (.iload 7, 2) := by decide +kernel
theorem dX3_stepsOfAgreement_57 : decode cX3_stepsOfAgreement 57 = .ok (.iload_n 3, 1) := by decide +kernel
theorem dX3_stepsOfAgreement_58 : decode cX3_stepsOfAgreement 58 = .ok (.isub, 1) := by decide +kernel
theorem dX3_stepsOfAgreement_59 : decode cX3_stepsOfAgreement 59 = .ok (.iload 6, 2) := by decide +kernel
theorem dX3_stepsOfAgreement_61 : decode cX3_stepsOfAgreement 61 = .ok (.isub, 1) := by decide +kernel
theorem dX3_stepsOfAgreement_62 : decode cX3_stepsOfAgreement 62 = .ok (.invokestatic 83, 3) := by decide +kernel
theorem dX3_stepsOfAgreement_65 : decode cX3_stepsOfAgreement 65 = .ok (.iconst 2, 1) := by decide +kernel
theorem dX3_stepsOfAgreement_66 : decode cX3_stepsOfAgreement 66 = .ok (.aload_n 0, 1) := by decide +kernel
theorem dX3_stepsOfAgreement_67 : decode cX3_stepsOfAgreement 67 = .ok (.getfield 35, 3) := by decide +kernel
theorem dX3_stepsOfAgreement_70 : decode cX3_stepsOfAgreement 70 = .ok (.imul, 1) := by decide +kernel
theorem dX3_stepsOfAgreement_71 : decode cX3_stepsOfAgreement 71 = .ok (.if_icmp .gt 12, 3) := by decide +kernel
theorem dX3_stepsOfAgreement_74 : decode cX3_stepsOfAgreement 74 = .ok (.iload 4, 2) := by decide +kernel
theorem dX3_stepsOfAgreement_76 : decode cX3_stepsOfAgreement 76 = .ok (.iconst 1, 1) := by decide +kernel
theorem dX3_stepsOfAgreement_77 : decode cX3_stepsOfAgreement 77 = .ok (.iload 5, 2) := by decide +kernel
theorem dX3_stepsOfAgreement_79 : decode cX3_stepsOfAgreement 79 = .ok (.ishl, 1) := by decide +kernel
theorem dX3_stepsOfAgreement_80 : decode cX3_stepsOfAgreement 80 = .ok (.ior, 1) := by decide +kernel
theorem dX3_stepsOfAgreement_81 : decode cX3_stepsOfAgreement 81 = .ok (.istore 4, 2) := by decide +kernel
theorem dX3_stepsOfAgreement_83 : decode cX3_stepsOfAgreement 83 = .ok (.iinc 5 1, 3) := by decide +kernel
theorem dX3_stepsOfAgreement_86 : decode cX3_stepsOfAgreement 86 = .ok (.goto (-80), 3) := by decide +kernel
theorem dX3_stepsOfAgreement_89 : decode cX3_stepsOfAgreement 89 = .ok (.iload 4, 2) := by decide +kernel
theorem dX3_stepsOfAgreement_91 : decode cX3_stepsOfAgreement 91 = .ok (.ireturn, 1) := by decide +kernel
theorem dX3_settleShifts_0 : decode cX3_settleShifts 0 = .ok (.iconst (-1), 1) := by decide +kernel
theorem dX3_settleShifts_1 : decode cX3_settleShifts 1 = .ok (.istore_n 1, 1) := by decide +kernel
theorem dX3_settleShifts_2 : decode cX3_settleShifts 2 = .ok (.iconst 0, 1) := by decide +kernel
theorem dX3_settleShifts_3 : decode cX3_settleShifts 3 = .ok (.istore_n 2, 1) := by decide +kernel
theorem dX3_settleShifts_4 : decode cX3_settleShifts 4 = .ok (.bipush (-20), 2) := by decide +kernel
theorem dX3_settleShifts_6 : decode cX3_settleShifts 6 = .ok (.istore_n 3, 1) := by decide +kernel
theorem dX3_settleShifts_7 : decode cX3_settleShifts 7 = .ok (.iload_n 3, 1) := by decide +kernel
theorem dX3_settleShifts_8 : decode cX3_settleShifts 8 = .ok (.bipush 20, 2) := by decide +kernel
theorem dX3_settleShifts_10 : decode cX3_settleShifts 10 = .ok (.if_icmp .gt 86, 3) := by decide +kernel
theorem dX3_settleShifts_13 : decode cX3_settleShifts 13 = .ok (.bipush (-20), 2) := by decide +kernel
theorem dX3_settleShifts_15 : decode cX3_settleShifts 15 = .ok (.istore 4, 2) := by decide +kernel
theorem dX3_settleShifts_17 : decode cX3_settleShifts 17 = .ok (.iload 4, 2) := by decide +kernel
theorem dX3_settleShifts_19 : decode cX3_settleShifts 19 = .ok (.bipush 20, 2) := by decide +kernel
theorem dX3_settleShifts_21 : decode cX3_settleShifts 21 = .ok (.if_icmp .gt 69, 3) := by decide +kernel
theorem dX3_settleShifts_24 : decode cX3_settleShifts 24 = .ok (.iload_n 3, 1) := by decide +kernel
theorem dX3_settleShifts_25 : decode cX3_settleShifts 25 = .ok (.invokestatic 83, 3) := by decide +kernel
theorem dX3_settleShifts_28 : decode cX3_settleShifts 28 = .ok (.iload 4, 2) := by decide +kernel
theorem dX3_settleShifts_30 : decode cX3_settleShifts 30 = .ok (.invokestatic 83, 3) := by decide +kernel
theorem dX3_settleShifts_33 : decode cX3_settleShifts 33 = .ok (.iadd, 1) := by decide +kernel
theorem dX3_settleShifts_34 : decode cX3_settleShifts 34 = .ok (.istore 5, 2) := by decide +kernel
theorem dX3_settleShifts_36 : decode cX3_settleShifts 36 = .ok (.aload_n 0, 1) := by decide +kernel
theorem dX3_settleShifts_37 : decode cX3_settleShifts 37 = .ok (.iload_n 3, 1) := by decide +kernel
theorem dX3_settleShifts_38 : decode cX3_settleShifts 38 = .ok (.iload 4, 2) := by decide +kernel
theorem dX3_settleShifts_40 : decode cX3_settleShifts 40 = .ok (.invokevirtual 88, 3) := by decide +kernel
theorem dX3_settleShifts_43 : decode cX3_settleShifts 43 = .ok (.istore 6, 2) := by decide +kernel
theorem dX3_settleShifts_45 : decode cX3_settleShifts 45 = .ok (.iload 6, 2) := by decide +kernel
theorem dX3_settleShifts_47 : decode cX3_settleShifts 47 = .ok (.iload_n 1, 1) := by decide +kernel
theorem dX3_settleShifts_48 : decode cX3_settleShifts 48 = .ok (.if_icmp .gt 15, 3) := by decide +kernel
theorem dX3_settleShifts_51 : decode cX3_settleShifts 51 = .ok (.iload 6, 2) := by decide +kernel
theorem dX3_settleShifts_53 : decode cX3_settleShifts 53 = .ok (.iload_n 1, 1) := by decide +kernel
theorem dX3_settleShifts_54 : decode cX3_settleShifts 54 = .ok (.if_icmp .ne 30, 3) := by decide +kernel
theorem dX3_settleShifts_57 : decode cX3_settleShifts 57 = .ok (.iload 5, 2) := by decide +kernel
theorem dX3_settleShifts_59 : decode cX3_settleShifts 59 = .ok (.iload_n 2, 1) := by decide +kernel
theorem dX3_settleShifts_60 : decode cX3_settleShifts 60 = .ok (.if_icmp .ge 24, 3) := by decide +kernel
theorem dX3_settleShifts_63 : decode cX3_settleShifts 63 = .ok (.iload 6, 2) := by decide +kernel
theorem dX3_settleShifts_65 : decode cX3_settleShifts 65 = .ok (.istore_n 1, 1) := by decide +kernel
theorem dX3_settleShifts_66 : decode cX3_settleShifts 66 = .ok (.iload 5, 2) := by decide +kernel
theorem dX3_settleShifts_68 : decode cX3_settleShifts 68 = .ok (.istore_n 2, 1) := by decide +kernel
theorem dX3_settleShifts_69 : decode cX3_settleShifts 69 = .ok (.aload_n 0, 1) := by decide +kernel
theorem dX3_settleShifts_70 : decode cX3_settleShifts 70 = .ok (.getfield 16, 3) := by decide +kernel
theorem dX3_settleShifts_73 : decode cX3_settleShifts 73 = .ok (.iconst 1, 1) := by decide +kernel
theorem dX3_settleShifts_74 : decode cX3_settleShifts 74 = .ok (.iload_n 3, 1) := by decide +kernel
theorem dX3_settleShifts_75 : decode cX3_settleShifts 75 = .ok (.iastore, 1) := by decide +kernel
theorem dX3_settleShifts_76 : decode cX3_settleShifts 76 = .ok (.aload_n 0, 1) := by decide +kernel
theorem dX3_settleShifts_77 : decode cX3_settleShifts 77 = .ok (.getfield 16, 3) := by decide +kernel
theorem dX3_settleShifts_80 : decode cX3_settleShifts 80 = .ok (.iconst 2, 1) := by decide +kernel
theorem dX3_settleShifts_81 : decode cX3_settleShifts 81 = .ok (.iload 4, 2) := by decide +kernel
theorem dX3_settleShifts_83 : decode cX3_settleShifts 83 = .ok (.iastore, 1) := by decide +kernel
theorem dX3_settleShifts_84 : decode cX3_settleShifts 84 = .ok (.iinc 4 1, 3) := by decide +kernel
theorem dX3_settleShifts_87 : decode cX3_settleShifts 87 = .ok (.goto (-70), 3) := by decide +kernel
theorem dX3_settleShifts_90 : decode cX3_settleShifts 90 = .ok (.iinc 3 1, 3) := by decide +kernel
theorem dX3_settleShifts_93 : decode cX3_settleShifts 93 = .ok (.goto (-86), 3) := by decide +kernel
theorem dX3_settleShifts_96 : decode cX3_settleShifts 96 = .ok (.aload_n 0, 1) := by decide +kernel
theorem dX3_settleShifts_97 : decode cX3_settleShifts 97 = .ok (.aload_n 0, 1) := by decide +kernel
theorem dX3_settleShifts_98 : decode cX3_settleShifts 98 = .ok (.invokevirtual 92, 3) := by decide +kernel
theorem dX3_settleShifts_101 : decode cX3_settleShifts 101 = .ok (.aload_n 0, 1) := by decide +kernel
theorem dX3_settleShifts_102 : decode cX3_settleShifts 102 = .ok (.invokevirtual 96, 3) := by decide +kernel
theorem dX3_settleShifts_105 : decode cX3_settleShifts 105 = .ok (.isub, 1) := by decide +kernel
theorem dX3_settleShifts_106 : decode cX3_settleShifts 106 = .ok (.iload_n 1, 1) := by decide +kernel
theorem dX3_settleShifts_107 : decode cX3_settleShifts 107 = .ok (.isub, 1) := by decide +kernel
theorem dX3_settleShifts_108 : decode cX3_settleShifts 108 = .ok (.putfield 59, 3) := by decide +kernel
theorem dX3_settleShifts_111 : decode cX3_settleShifts 111 = .ok (.return_, 1) := by decide +kernel
theorem dX3_keptMore_0 : decode cX3_keptMore 0 = .ok (.aload_n 0, 1) := by decide +kernel
theorem dX3_keptMore_1 : decode cX3_keptMore 1 = .ok (.getfield 26, 3) := by decide +kernel
theorem dX3_keptMore_4 : decode cX3_keptMore 4 = .ok (.iload_n 1, 1) := by decide +kernel
theorem dX3_keptMore_5 : decode cX3_keptMore 5 = .ok (.bipush 20, 2) := by decide +kernel
theorem dX3_keptMore_7 : decode cX3_keptMore 7 = .ok (.iadd, 1) := by decide +kernel
theorem dX3_keptMore_8 : decode cX3_keptMore 8 = .ok (.iaload, 1) := by decide +kernel
theorem dX3_keptMore_9 : decode cX3_keptMore 9 = .ok (.istore_n 3, 1) := by decide +kernel
theorem dX3_keptMore_10 : decode cX3_keptMore 10 = .ok (.aload_n 0, 1) := by decide +kernel
theorem dX3_keptMore_11 : decode cX3_keptMore 11 = .ok (.getfield 29, 3) := by decide +kernel
theorem dX3_keptMore_14 : decode cX3_keptMore 14 = .ok (.iload_n 2, 1) := by decide +kernel
theorem dX3_keptMore_15 : decode cX3_keptMore 15 = .ok (.bipush 20, 2) := by decide +kernel
theorem dX3_keptMore_17 : decode cX3_keptMore 17 = .ok (.iadd, 1) := by decide +kernel
theorem dX3_keptMore_18 : decode cX3_keptMore 18 = .ok (.iaload, 1) := by decide +kernel
theorem dX3_keptMore_19 : decode cX3_keptMore 19 = .ok (.istore 4, 2) := by decide +kernel
theorem dX3_keptMore_21 : decode cX3_keptMore 21 = .ok (.aload_n 0, 1) := by decide +kernel
theorem dX3_keptMore_22 : decode cX3_keptMore 22 = .ok (.getfield 32, 3) := by decide +kernel
theorem dX3_keptMore_25 : decode cX3_keptMore 25 = .ok (.iload_n 2, 1) := by decide +kernel
theorem dX3_keptMore_26 : decode cX3_keptMore 26 = .ok (.iload_n 1, 1) := by decide +kernel
theorem dX3_keptMore_27 : decode cX3_keptMore 27 = .ok (.isub, 1) := by decide +kernel
theorem dX3_keptMore_28 : decode cX3_keptMore 28 = .ok (.bipush 40, 2) := by decide +kernel
theorem dX3_keptMore_30 : decode cX3_keptMore 30 = .ok (.iadd, 1) := by decide +kernel
theorem dX3_keptMore_31 : decode cX3_keptMore 31 = .ok (.iaload, 1) := by decide +kernel
theorem dX3_keptMore_32 : decode cX3_keptMore 32 = .ok (.istore 5, 2) := by decide +kernel
theorem dX3_keptMore_34 : decode cX3_keptMore 34 = .ok (.iload_n 3, 1) := by decide +kernel
theorem dX3_keptMore_35 : decode cX3_keptMore 35 = .ok (.iload 4, 2) := by decide +kernel
theorem dX3_keptMore_37 : decode cX3_keptMore 37 = .ok (.ior, 1) := by decide +kernel
theorem dX3_keptMore_38 : decode cX3_keptMore 38 = .ok (.iload 5, 2) := by decide +kernel
theorem dX3_keptMore_40 : decode cX3_keptMore 40 = .ok (.ior, 1) := by decide +kernel
theorem dX3_keptMore_41 : decode cX3_keptMore 41 = .ok (.invokestatic 99, 3) := by decide +kernel
theorem dX3_keptMore_44 : decode cX3_keptMore 44 = .ok (.iload_n 3, 1) := by decide +kernel
theorem dX3_keptMore_45 : decode cX3_keptMore 45 = .ok (.iload 4, 2) := by decide +kernel
theorem dX3_keptMore_47 : decode cX3_keptMore 47 = .ok (.iand, 1) := by decide +kernel
theorem dX3_keptMore_48 : decode cX3_keptMore 48 = .ok (.iload 5, 2) := by decide +kernel
theorem dX3_keptMore_50 : decode cX3_keptMore 50 = .ok (.iand, 1) := by decide +kernel
theorem dX3_keptMore_51 : decode cX3_keptMore 51 = .ok (.invokestatic 99, 3) := by decide +kernel
theorem dX3_keptMore_54 : decode cX3_keptMore 54 = .ok (.iadd, 1) := by decide +kernel
theorem dX3_keptMore_55 : decode cX3_keptMore 55 = .ok (.ireturn, 1) := by decide +kernel
theorem dX3_stepsTold_0 : decode cX3_stepsTold 0 = .ok (.iconst 0, 1) := by decide +kernel
theorem dX3_stepsTold_1 : decode cX3_stepsTold 1 = .ok (.istore_n 1, 1) := by decide +kernel
theorem dX3_stepsTold_2 : decode cX3_stepsTold 2 = .ok (.iconst 0, 1) := by decide +kernel
theorem dX3_stepsTold_3 : decode cX3_stepsTold 3 = .ok (.istore_n 2, 1) := by decide +kernel
theorem dX3_stepsTold_4 : decode cX3_stepsTold 4 = .ok (.iload_n 2, 1) := by decide +kernel
theorem dX3_stepsTold_5 : decode cX3_stepsTold 5 = .ok (.aload_n 0, 1) := by decide +kernel
theorem dX3_stepsTold_6 : decode cX3_stepsTold 6 = .ok (.getfield 43, 3) := by decide +kernel
theorem dX3_stepsTold_9 : decode cX3_stepsTold 9 = .ok (.iconst 1, 1) := by decide +kernel
theorem dX3_stepsTold_10 : decode cX3_stepsTold 10 = .ok (.isub, 1) := by decide +kernel
theorem dX3_stepsTold_11 : decode cX3_stepsTold 11 = .ok (.if_icmp .ge 54, 3) := by decide +kernel
theorem dX3_stepsTold_14 : decode cX3_stepsTold 14 = .ok (.aload_n 0, 1) := by decide +kernel
theorem dX3_stepsTold_15 : decode cX3_stepsTold 15 = .ok (.getfield 11, 3) := by decide +kernel
theorem dX3_stepsTold_18 : decode cX3_stepsTold 18 = .ok (.iconst 0, 1) := by decide +kernel
theorem dX3_stepsTold_19 : decode cX3_stepsTold 19 = .ok (.aaload, 1) := by decide +kernel
theorem dX3_stepsTold_20 : decode cX3_stepsTold 20 = .ok (.iload_n 2, 1) := by decide +kernel
theorem dX3_stepsTold_21 : decode cX3_stepsTold 21 = .ok (.iaload, 1) := by decide +kernel
theorem dX3_stepsTold_22 : decode cX3_stepsTold 22 = .ok (.sipush 5000, 3) := by decide +kernel
theorem dX3_stepsTold_25 : decode cX3_stepsTold 25 = .ok (.if_icmp .ne 31, 3) := by decide +kernel
theorem dX3_stepsTold_28 : decode cX3_stepsTold 28 = .ok (.aload_n 0, 1) := by decide +kernel
theorem dX3_stepsTold_29 : decode cX3_stepsTold 29 = .ok (.getfield 11, 3) := by decide +kernel
theorem dX3_stepsTold_32 : decode cX3_stepsTold 32 = .ok (.iconst 1, 1) := by decide +kernel
theorem dX3_stepsTold_33 : decode cX3_stepsTold 33 = .ok (.aaload, 1) := by decide +kernel
theorem dX3_stepsTold_34 : decode cX3_stepsTold 34 = .ok (.iload_n 2, 1) := by decide +kernel
theorem dX3_stepsTold_35 : decode cX3_stepsTold 35 = .ok (.iaload, 1) := by decide +kernel
theorem dX3_stepsTold_36 : decode cX3_stepsTold 36 = .ok (.sipush 5000, 3) := by decide +kernel
theorem dX3_stepsTold_39 : decode cX3_stepsTold 39 = .ok (.if_icmp .ne 17, 3) := by decide +kernel
theorem dX3_stepsTold_42 : decode cX3_stepsTold 42 = .ok (.aload_n 0, 1) := by decide +kernel
theorem dX3_stepsTold_43 : decode cX3_stepsTold 43 = .ok (.getfield 11, 3) := by decide +kernel
theorem dX3_stepsTold_46 : decode cX3_stepsTold 46 = .ok (.iconst 2, 1) := by decide +kernel
theorem dX3_stepsTold_47 : decode cX3_stepsTold 47 = .ok (.aaload, 1) := by decide +kernel
theorem dX3_stepsTold_48 : decode cX3_stepsTold 48 = .ok (.iload_n 2, 1) := by decide +kernel
theorem dX3_stepsTold_49 : decode cX3_stepsTold 49 = .ok (.iaload, 1) := by decide +kernel
theorem dX3_stepsTold_50 : decode cX3_stepsTold 50 = .ok (.sipush 5000, 3) := by decide +kernel
theorem dX3_stepsTold_53 : decode cX3_stepsTold 53 = .ok (.if_icmp .eq 6, 3) := by decide +kernel
theorem dX3_stepsTold_56 : decode cX3_stepsTold 56 = .ok (.iinc 1 1, 3) := by decide +kernel
theorem dX3_stepsTold_59 : decode cX3_stepsTold 59 = .ok (.iinc 2 1, 3) := by decide +kernel
theorem dX3_stepsTold_62 : decode cX3_stepsTold 62 = .ok (.goto (-58), 3) := by decide +kernel
theorem dX3_stepsTold_65 : decode cX3_stepsTold 65 = .ok (.iload_n 1, 1) := by decide +kernel
theorem dX3_stepsTold_66 : decode cX3_stepsTold 66 = .ok (.ireturn, 1) := by decide +kernel
theorem dX3_leastStep_0 : decode cX3_leastStep 0 = .ok (.iconst 0, 1) := by decide +kernel
theorem dX3_leastStep_1 : decode cX3_leastStep 1 = .ok (.istore_n 2, 1) := by decide +kernel
theorem dX3_leastStep_2 : decode cX3_leastStep 2 = .ok (.sipush 5000, 3) := by decide +kernel
theorem dX3_leastStep_5 : decode cX3_leastStep 5 = .ok (.istore_n 3, 1) := by decide +kernel
theorem dX3_leastStep_6 : decode cX3_leastStep 6 = .ok (.iconst 0, 1) := by decide +kernel
theorem dX3_leastStep_7 : decode cX3_leastStep 7 = .ok (.istore 4, 2) := by decide +kernel
theorem dX3_leastStep_9 : decode cX3_leastStep 9 = .ok (.iload 4, 2) := by decide +kernel
theorem dX3_leastStep_11 : decode cX3_leastStep 11 = .ok (.iconst 3, 1) := by decide +kernel
theorem dX3_leastStep_12 : decode cX3_leastStep 12 = .ok (.if_icmp .ge 81, 3) := by decide +kernel
theorem dX3_leastStep_15 : decode cX3_leastStep 15 = .ok (.aload_n 0, 1) := by decide +kernel
theorem dX3_leastStep_16 : decode cX3_leastStep 16 = .ok (.getfield 11, 3) := by decide +kernel
theorem dX3_leastStep_19 : decode cX3_leastStep 19 = .ok (.iload 4, 2) := by decide +kernel
theorem dX3_leastStep_21 : decode cX3_leastStep 21 = .ok (.aaload, 1) := by decide +kernel
theorem dX3_leastStep_22 : decode cX3_leastStep 22 = .ok (.iload_n 1, 1) := by decide +kernel
theorem dX3_leastStep_23 : decode cX3_leastStep 23 = .ok (.iaload, 1) := by decide +kernel
theorem dX3_leastStep_24 : decode cX3_leastStep 24 = .ok (.sipush 5000, 3) := by decide +kernel
theorem dX3_leastStep_27 : decode cX3_leastStep 27 = .ok (.if_icmp .eq 60, 3) := by decide +kernel
theorem dX3_leastStep_30 : decode cX3_leastStep 30 = .ok (.aload_n 0, 1) := by decide +kernel
theorem dX3_leastStep_31 : decode cX3_leastStep 31 = .ok (.getfield 11, 3) := by decide +kernel
theorem dX3_leastStep_34 : decode cX3_leastStep 34 = .ok (.iload 4, 2) := by decide +kernel
theorem dX3_leastStep_36 : decode cX3_leastStep 36 = .ok (.aaload, 1) := by decide +kernel
theorem dX3_leastStep_37 : decode cX3_leastStep 37 = .ok (.iload_n 1, 1) := by decide +kernel
theorem dX3_leastStep_38 : decode cX3_leastStep 38 = .ok (.iaload, 1) := by decide +kernel
theorem dX3_leastStep_39 : decode cX3_leastStep 39 = .ok (.aload_n 0, 1) := by decide +kernel
theorem dX3_leastStep_40 : decode cX3_leastStep 40 = .ok (.getfield 16, 3) := by decide +kernel
theorem dX3_leastStep_43 : decode cX3_leastStep 43 = .ok (.iload 4, 2) := by decide +kernel
theorem dX3_leastStep_45 : decode cX3_leastStep 45 = .ok (.iaload, 1) := by decide +kernel
theorem dX3_leastStep_46 : decode cX3_leastStep 46 = .ok (.isub, 1) := by decide +kernel
theorem dX3_leastStep_47 : decode cX3_leastStep 47 = .ok (.aload_n 0, 1) := by decide +kernel
theorem dX3_leastStep_48 : decode cX3_leastStep 48 = .ok (.getfield 35, 3) := by decide +kernel
theorem dX3_leastStep_51 : decode cX3_leastStep 51 = .ok (.isub, 1) := by decide +kernel
theorem dX3_leastStep_52 : decode cX3_leastStep 52 = .ok (.istore 5, 2) := by decide +kernel
theorem dX3_leastStep_54 : decode cX3_leastStep 54 = .ok (.aload_n 0, 1) := by decide +kernel
theorem dX3_leastStep_55 : decode cX3_leastStep 55 = .ok (.iload 5, 2) := by decide +kernel
theorem dX3_leastStep_57 : decode cX3_leastStep 57 = .ok (.iload_n 1, 1) := by decide +kernel
theorem dX3_leastStep_58 : decode cX3_leastStep 58 = .ok (.invokevirtual 104, 3) := by decide +kernel
theorem dX3_leastStep_61 : decode cX3_leastStep 61 = .ok (.istore 6, 2) := by decide +kernel
theorem dX3_leastStep_63 : decode cX3_leastStep 63 = .ok (.iload 6, 2) := by decide +kernel
theorem dX3_leastStep_65 : decode cX3_leastStep 65 = .ok (.iload_n 2, 1) := by decide +kernel
theorem dX3_leastStep_66 : decode cX3_leastStep 66 = .ok (.if_icmp .gt 15, 3) := by decide +kernel
theorem dX3_leastStep_69 : decode cX3_leastStep 69 = .ok (.iload 6, 2) := by decide +kernel
theorem dX3_leastStep_71 : decode cX3_leastStep 71 = .ok (.iload_n 2, 1) := by decide +kernel
theorem dX3_leastStep_72 : decode cX3_leastStep 72 = .ok (.if_icmp .ne 15, 3) := by decide +kernel
theorem dX3_leastStep_75 : decode cX3_leastStep 75 = .ok (.iload 5, 2) := by decide +kernel
theorem dX3_leastStep_77 : decode cX3_leastStep 77 = .ok (.iload_n 3, 1) := by decide +kernel
theorem dX3_leastStep_78 : decode cX3_leastStep 78 = .ok (.if_icmp .ge 9, 3) := by decide +kernel
theorem dX3_leastStep_81 : decode cX3_leastStep 81 = .ok (.iload 6, 2) := by decide +kernel
theorem dX3_leastStep_83 : decode cX3_leastStep 83 = .ok (.istore_n 2, 1) := by decide +kernel
theorem dX3_leastStep_84 : decode cX3_leastStep 84 = .ok (.iload 5, 2) := by decide +kernel
theorem dX3_leastStep_86 : decode cX3_leastStep 86 = .ok (.istore_n 3, 1) := by decide +kernel
theorem dX3_leastStep_87 : decode cX3_leastStep 87 = .ok (.iinc 4 1, 3) := by decide +kernel
theorem dX3_leastStep_90 : decode cX3_leastStep 90 = .ok (.goto (-81), 3) := by decide +kernel
theorem dX3_leastStep_93 : decode cX3_leastStep 93 = .ok (.iload_n 3, 1) := by decide +kernel
theorem dX3_leastStep_94 : decode cX3_leastStep 94 = .ok (.ireturn, 1) := by decide +kernel
theorem dX3_servedBy_0 : decode cX3_servedBy 0 = .ok (.iconst 0, 1) := by decide +kernel
theorem dX3_servedBy_1 : decode cX3_servedBy 1 = .ok (.istore_n 3, 1) := by decide +kernel
theorem dX3_servedBy_2 : decode cX3_servedBy 2 = .ok (.iconst 0, 1) := by decide +kernel
theorem dX3_servedBy_3 : decode cX3_servedBy 3 = .ok (.istore 4, 2) := by decide +kernel
theorem dX3_servedBy_5 : decode cX3_servedBy 5 = .ok (.iload 4, 2) := by decide +kernel
theorem dX3_servedBy_7 : decode cX3_servedBy 7 = .ok (.iconst 3, 1) := by decide +kernel
theorem dX3_servedBy_8 : decode cX3_servedBy 8 = .ok (.if_icmp .ge 53, 3) := by decide +kernel
theorem dX3_servedBy_11 : decode cX3_servedBy 11 = .ok (.aload_n 0, 1) := by decide +kernel
theorem dX3_servedBy_12 : decode cX3_servedBy 12 = .ok (.getfield 11, 3) := by decide +kernel
theorem dX3_servedBy_15 : decode cX3_servedBy 15 = .ok (.iload 4, 2) := by decide +kernel
theorem dX3_servedBy_17 : decode cX3_servedBy 17 = .ok (.aaload, 1) := by decide +kernel
theorem dX3_servedBy_18 : decode cX3_servedBy 18 = .ok (.iload_n 2, 1) := by decide +kernel
theorem dX3_servedBy_19 : decode cX3_servedBy 19 = .ok (.iaload, 1) := by decide +kernel
theorem dX3_servedBy_20 : decode cX3_servedBy 20 = .ok (.istore 5, 2) := by decide +kernel
theorem dX3_servedBy_22 : decode cX3_servedBy 22 = .ok (.iload 5, 2) := by decide +kernel
theorem dX3_servedBy_24 : decode cX3_servedBy 24 = .ok (.sipush 5000, 3) := by decide +kernel
theorem dX3_servedBy_27 : decode cX3_servedBy 27 = .ok (.if_icmp .eq 28, 3) := by decide +kernel
theorem dX3_servedBy_30 : decode cX3_servedBy 30 = .ok (.iload 5, 2) := by decide +kernel
theorem dX3_servedBy_32 : decode cX3_servedBy 32 = .ok (.aload_n 0, 1) := by decide +kernel
theorem dX3_servedBy_33 : decode cX3_servedBy 33 = .ok (.getfield 16, 3) := by decide +kernel
theorem dX3_servedBy_36 : decode cX3_servedBy 36 = .ok (.iload 4, 2) := by decide +kernel
theorem dX3_servedBy_38 : decode cX3_servedBy 38 = .ok (.iaload, 1) := by decide +kernel
theorem dX3_servedBy_39 : decode cX3_servedBy 39 = .ok (.isub, 1) := by decide +kernel
theorem dX3_servedBy_40 : decode cX3_servedBy 40 = .ok (.iload_n 1, 1) := by decide +kernel
theorem dX3_servedBy_41 : decode cX3_servedBy 41 = .ok (.isub, 1) := by decide +kernel
theorem dX3_servedBy_42 : decode cX3_servedBy 42 = .ok (.invokestatic 83, 3) := by decide +kernel
theorem dX3_servedBy_45 : decode cX3_servedBy 45 = .ok (.aload_n 0, 1) := by decide +kernel
theorem dX3_servedBy_46 : decode cX3_servedBy 46 = .ok (.getfield 35, 3) := by decide +kernel
theorem dX3_servedBy_49 : decode cX3_servedBy 49 = .ok (.if_icmp .gt 6, 3) := by decide +kernel
theorem dX3_servedBy_52 : decode cX3_servedBy 52 = .ok (.iinc 3 1, 3) := by decide +kernel
theorem dX3_servedBy_55 : decode cX3_servedBy 55 = .ok (.iinc 4 1, 3) := by decide +kernel
theorem dX3_servedBy_58 : decode cX3_servedBy 58 = .ok (.goto (-53), 3) := by decide +kernel
theorem dX3_servedBy_61 : decode cX3_servedBy 61 = .ok (.iload_n 3, 1) := by decide +kernel
theorem dX3_servedBy_62 : decode cX3_servedBy 62 = .ok (.ireturn, 1) := by decide +kernel
theorem dX3_settleProfiles_0 : decode cX3_settleProfiles 0 = .ok (.aload_n 0, 1) := by decide +kernel
theorem dX3_settleProfiles_1 : decode cX3_settleProfiles 1 = .ok (.getfield 23, 3) := by decide +kernel
theorem dX3_settleProfiles_4 : decode cX3_settleProfiles 4 = .ok (.iconst 0, 1) := by decide +kernel
theorem dX3_settleProfiles_5 : decode cX3_settleProfiles 5 = .ok (.iconst 0, 1) := by decide +kernel
theorem dX3_settleProfiles_6 : decode cX3_settleProfiles 6 = .ok (.iastore, 1) := by decide +kernel
theorem dX3_settleProfiles_7 : decode cX3_settleProfiles 7 = .ok (.aload_n 0, 1) := by decide +kernel
theorem dX3_settleProfiles_8 : decode cX3_settleProfiles 8 = .ok (.iconst 1, 1) := by decide +kernel
theorem dX3_settleProfiles_9 : decode cX3_settleProfiles 9 = .ok (.putfield 62, 3) := by decide +kernel
theorem dX3_settleProfiles_12 : decode cX3_settleProfiles 12 = .ok (.iconst 0, 1) := by decide +kernel
theorem dX3_settleProfiles_13 : decode cX3_settleProfiles 13 = .ok (.istore_n 1, 1) := by decide +kernel
theorem dX3_settleProfiles_14 : decode cX3_settleProfiles 14 = .ok (.iload_n 1, 1) := by decide +kernel
theorem dX3_settleProfiles_15 : decode cX3_settleProfiles 15 = .ok (.aload_n 0, 1) := by decide +kernel
theorem dX3_settleProfiles_16 : decode cX3_settleProfiles 16 = .ok (.getfield 43, 3) := by decide +kernel
theorem dX3_settleProfiles_19 : decode cX3_settleProfiles 19 = .ok (.iconst 1, 1) := by decide +kernel
theorem dX3_settleProfiles_20 : decode cX3_settleProfiles 20 = .ok (.isub, 1) := by decide +kernel
theorem dX3_settleProfiles_21 : decode cX3_settleProfiles 21 = .ok (.if_icmp .ge 49, 3) := by decide +kernel
theorem dX3_settleProfiles_24 : decode cX3_settleProfiles 24 = .ok (.aload_n 0, 1) := by decide +kernel
theorem dX3_settleProfiles_25 : decode cX3_settleProfiles 25 = .ok (.getfield 20, 3) := by decide +kernel
theorem dX3_settleProfiles_28 : decode cX3_settleProfiles 28 = .ok (.iload_n 1, 1) := by decide +kernel
theorem dX3_settleProfiles_29 : decode cX3_settleProfiles 29 = .ok (.iaload, 1) := by decide +kernel
theorem dX3_settleProfiles_30 : decode cX3_settleProfiles 30 = .ok (.sipush 5000, 3) := by decide +kernel
theorem dX3_settleProfiles_33 : decode cX3_settleProfiles 33 = .ok (.if_icmp .eq 37, 3) := by decide +kernel
theorem dX3_settleProfiles_36 : decode cX3_settleProfiles 36 = .ok (.aload_n 0, 1) := by decide +kernel
theorem dX3_settleProfiles_37 : decode cX3_settleProfiles 37 = .ok (.getfield 23, 3) := by decide +kernel
theorem dX3_settleProfiles_40 : decode cX3_settleProfiles 40 = .ok (.iload_n 1, 1) := by decide +kernel
theorem dX3_settleProfiles_41 : decode cX3_settleProfiles 41 = .ok (.iconst 1, 1) := by decide +kernel
theorem dX3_settleProfiles_42 : decode cX3_settleProfiles 42 = .ok (.iadd, 1) := by decide +kernel
theorem dX3_settleProfiles_43 : decode cX3_settleProfiles 43 = .ok (.aload_n 0, 1) := by decide +kernel
theorem dX3_settleProfiles_44 : decode cX3_settleProfiles 44 = .ok (.getfield 23, 3) := by decide +kernel
theorem dX3_settleProfiles_47 : decode cX3_settleProfiles 47 = .ok (.iload_n 1, 1) := by decide +kernel
theorem dX3_settleProfiles_48 : decode cX3_settleProfiles 48 = .ok (.iaload, 1) := by decide +kernel
theorem dX3_settleProfiles_49 : decode cX3_settleProfiles 49 = .ok (.aload_n 0, 1) := by decide +kernel
theorem dX3_settleProfiles_50 : decode cX3_settleProfiles 50 = .ok (.getfield 20, 3) := by decide +kernel
theorem dX3_settleProfiles_53 : decode cX3_settleProfiles 53 = .ok (.iload_n 1, 1) := by decide +kernel
theorem dX3_settleProfiles_54 : decode cX3_settleProfiles 54 = .ok (.iaload, 1) := by decide +kernel
theorem dX3_settleProfiles_55 : decode cX3_settleProfiles 55 = .ok (.iadd, 1) := by decide +kernel
theorem dX3_settleProfiles_56 : decode cX3_settleProfiles 56 = .ok (.iastore, 1) := by decide +kernel
theorem dX3_settleProfiles_57 : decode cX3_settleProfiles 57 = .ok (.aload_n 0, 1) := by decide +kernel
theorem dX3_settleProfiles_58 : decode cX3_settleProfiles 58 = .ok (.iload_n 1, 1) := by decide +kernel
theorem dX3_settleProfiles_59 : decode cX3_settleProfiles 59 = .ok (.iconst 2, 1) := by decide +kernel
theorem dX3_settleProfiles_60 : decode cX3_settleProfiles 60 = .ok (.iadd, 1) := by decide +kernel
theorem dX3_settleProfiles_61 : decode cX3_settleProfiles 61 = .ok (.putfield 62, 3) := by decide +kernel
theorem dX3_settleProfiles_64 : decode cX3_settleProfiles 64 = .ok (.iinc 1 1, 3) := by decide +kernel
theorem dX3_settleProfiles_67 : decode cX3_settleProfiles 67 = .ok (.goto (-53), 3) := by decide +kernel
theorem dX3_settleProfiles_70 : decode cX3_settleProfiles 70 = .ok (.return_, 1) := by decide +kernel
theorem dX4_init_0 : decode cX4_init 0 = .ok (.aload_n 0, 1) := by decide +kernel
theorem dX4_init_1 : decode cX4_init 1 = .ok (.invokespecial 5, 3) := by decide +kernel
theorem dX4_init_4 : decode cX4_init 4 = .ok (.aload_n 0, 1) := by decide +kernel
theorem dX4_init_5 : decode cX4_init 5 = .ok (.sipush 23328, 3) := by decide +kernel
theorem dX4_init_8 : decode cX4_init 8 = .ok (.newarray .int, 2) := by decide +kernel
theorem dX4_init_10 : decode cX4_init 10 = .ok (.putfield 11, 3) := by decide +kernel
theorem dX4_init_13 : decode cX4_init 13 = .ok (.aload_n 0, 1) := by decide +kernel
theorem dX4_init_14 : decode cX4_init 14 = .ok (.iconst 3, 1) := by decide +kernel
theorem dX4_init_15 : decode cX4_init 15 = .ok (.bipush 16, 2) := by decide +kernel
theorem dX4_init_17 : decode cX4_init 17 = .ok (.multianewarray 15 2, 4) := by decide +kernel
theorem dX4_init_21 : decode cX4_init 21 = .ok (.putfield 17, 3) := by decide +kernel
theorem dX4_init_24 : decode cX4_init 24 = .ok (.aload_n 0, 1) := by decide +kernel
theorem dX4_init_25 : decode cX4_init 25 = .ok (.iconst 3, 1) := by decide +kernel
theorem dX4_init_26 : decode cX4_init 26 = .ok (.newarray .int, 2) := by decide +kernel
theorem dX4_init_28 : decode cX4_init 28 = .ok (.putfield 20, 3) := by decide +kernel
theorem dX4_init_31 : decode cX4_init 31 = .ok (.aload_n 0, 1) := by decide +kernel
theorem dX4_init_32 : decode cX4_init 32 = .ok (.iconst 3, 1) := by decide +kernel
theorem dX4_init_33 : decode cX4_init 33 = .ok (.newarray .int, 2) := by decide +kernel
theorem dX4_init_35 : decode cX4_init 35 = .ok (.putfield 23, 3) := by decide +kernel
theorem dX4_init_38 : decode cX4_init 38 = .ok (.aload_n 0, 1) := by decide +kernel
theorem dX4_init_39 : decode cX4_init 39 = .ok (.bipush 16, 2) := by decide +kernel
theorem dX4_init_41 : decode cX4_init 41 = .ok (.newarray .int, 2) := by decide +kernel
theorem dX4_init_43 : decode cX4_init 43 = .ok (.putfield 26, 3) := by decide +kernel
theorem dX4_init_46 : decode cX4_init 46 = .ok (.aload_n 0, 1) := by decide +kernel
theorem dX4_init_47 : decode cX4_init 47 = .ok (.iconst 5, 1) := by decide +kernel
theorem dX4_init_48 : decode cX4_init 48 = .ok (.newarray .int, 2) := by decide +kernel
theorem dX4_init_50 : decode cX4_init 50 = .ok (.putfield 29, 3) := by decide +kernel
theorem dX4_init_53 : decode cX4_init 53 = .ok (.aload_n 0, 1) := by decide +kernel
theorem dX4_init_54 : decode cX4_init 54 = .ok (.aload_n 1, 1) := by decide +kernel
theorem dX4_init_55 : decode cX4_init 55 = .ok (.putfield 32, 3) := by decide +kernel
theorem dX4_init_58 : decode cX4_init 58 = .ok (.aload_n 0, 1) := by decide +kernel
theorem dX4_init_59 : decode cX4_init 59 = .ok (.getfield 23, 3) := by decide +kernel
theorem dX4_init_62 : decode cX4_init 62 = .ok (.iconst (-1), 1) := by decide +kernel
theorem dX4_init_63 : decode cX4_init 63 = .ok (.invokestatic 36, 3) := by decide +kernel
theorem dX4_init_66 : decode cX4_init 66 = .ok (.return_, 1) := by decide +kernel
theorem dX4_hasPlan_0 : decode cX4_hasPlan 0 = .ok (.aload_n 0, 1) := by decide +kernel
theorem dX4_hasPlan_1 : decode cX4_hasPlan 1 = .ok (.iload_n 1, 1) := by decide +kernel
theorem dX4_hasPlan_2 : decode cX4_hasPlan 2 = .ok (.invokevirtual 42, 3) := by decide +kernel
theorem dX4_hasPlan_5 : decode cX4_hasPlan 5 = .ok (.aload_n 0, 1) := by decide +kernel
theorem dX4_hasPlan_6 : decode cX4_hasPlan 6 = .ok (.getfield 20, 3) := by decide +kernel
theorem dX4_hasPlan_9 : decode cX4_hasPlan 9 = .ok (.iload_n 1, 1) := by decide +kernel
theorem dX4_hasPlan_10 : decode cX4_hasPlan 10 = .ok (.iaload, 1) := by decide +kernel
theorem dX4_hasPlan_11 : decode cX4_hasPlan 11 = .ok (.sipush 1000, 3) := by decide +kernel
theorem dX4_hasPlan_14 : decode cX4_hasPlan 14 = .ok (.if_icmp .ge 7, 3) := by decide +kernel
theorem dX4_hasPlan_17 : decode cX4_hasPlan 17 = .ok (.iconst 1, 1) := by decide +kernel
theorem dX4_hasPlan_18 : decode cX4_hasPlan 18 = .ok (.goto 4, 3) := by decide +kernel
theorem dX4_hasPlan_21 : decode cX4_hasPlan 21 = .ok (.iconst 0, 1) := by decide +kernel
theorem dX4_hasPlan_22 : decode cX4_hasPlan 22 = .ok (.ireturn, 1) := by decide +kernel
theorem dX4_together_0 : decode cX4_together 0 = .ok (.aload_n 0, 1) := by decide +kernel
theorem dX4_together_1 : decode cX4_together 1 = .ok (.iload_n 1, 1) := by decide +kernel
theorem dX4_together_2 : decode cX4_together 2 = .ok (.invokevirtual 42, 3) := by decide +kernel
theorem dX4_together_5 : decode cX4_together 5 = .ok (.aload_n 0, 1) := by decide +kernel
theorem dX4_together_6 : decode cX4_together 6 = .ok (.getfield 20, 3) := by decide +kernel
theorem dX4_together_9 : decode cX4_together 9 = .ok (.iload_n 1, 1) := by decide +kernel
theorem dX4_together_10 : decode cX4_together 10 = .ok (.iaload, 1) := by decide +kernel
theorem dX4_together_11 : decode cX4_together 11 = .ok (.ireturn, 1) := by decide +kernel
theorem dX4_minutesAt_0 : decode cX4_minutesAt 0 = .ok (.aload_n 0, 1) := by decide +kernel
theorem dX4_minutesAt_1 : decode cX4_minutesAt 1 = .ok (.iload_n 1, 1) := by decide +kernel
theorem dX4_minutesAt_2 : decode cX4_minutesAt 2 = .ok (.invokevirtual 42, 3) := by decide +kernel
theorem dX4_minutesAt_5 : decode cX4_minutesAt 5 = .ok (.aload_n 0, 1) := by decide +kernel
theorem dX4_minutesAt_6 : decode cX4_minutesAt 6 = .ok (.getfield 17, 3) := by decide +kernel
theorem dX4_minutesAt_9 : decode cX4_minutesAt 9 = .ok (.iload_n 1, 1) := by decide +kernel
theorem dX4_minutesAt_10 : decode cX4_minutesAt 10 = .ok (.aaload, 1) := by decide +kernel
theorem dX4_minutesAt_11 : decode cX4_minutesAt 11 = .ok (.iload_n 2, 1) := by decide +kernel
theorem dX4_minutesAt_12 : decode cX4_minutesAt 12 = .ok (.iaload, 1) := by decide +kernel
theorem dX4_minutesAt_13 : decode cX4_minutesAt 13 = .ok (.ireturn, 1) := by decide +kernel
theorem dX4_rightZones_0 : decode cX4_rightZones 0 = .ok (.aload_n 0, 1) := by decide +kernel
theorem dX4_rightZones_1 : decode cX4_rightZones 1 = .ok (.iload_n 1, 1) := by decide +kernel
theorem dX4_rightZones_2 : decode cX4_rightZones 2 = .ok (.invokevirtual 42, 3) := by decide +kernel
theorem dX4_rightZones_5 : decode cX4_rightZones 5 = .ok (.aload_n 0, 1) := by decide +kernel
theorem dX4_rightZones_6 : decode cX4_rightZones 6 = .ok (.getfield 46, 3) := by decide +kernel
theorem dX4_rightZones_9 : decode cX4_rightZones 9 = .ok (.aload_n 0, 1) := by decide +kernel
theorem dX4_rightZones_10 : decode cX4_rightZones 10 = .ok (.getfield 20, 3) := by decide +kernel
theorem dX4_rightZones_13 : decode cX4_rightZones 13 = .ok (.iload_n 1, 1) := by decide +kernel
theorem dX4_rightZones_14 : decode cX4_rightZones 14 = .ok (.iaload, 1) := by decide +kernel
theorem dX4_rightZones_15 : decode cX4_rightZones 15 = .ok (.sipush 1000, 3) := by decide +kernel
theorem dX4_rightZones_18 : decode cX4_rightZones 18 = .ok (.idiv, 1) := by decide +kernel
theorem dX4_rightZones_19 : decode cX4_rightZones 19 = .ok (.isub, 1) := by decide +kernel
theorem dX4_rightZones_20 : decode cX4_rightZones 20 = .ok (.ireturn, 1) := by decide +kernel
theorem dX4_strokesOf_0 : decode cX4_strokesOf 0 = .ok (.aload_n 0, 1) := by decide +kernel
theorem dX4_strokesOf_1 : decode cX4_strokesOf 1 = .ok (.iload_n 1, 1) := by decide +kernel
theorem dX4_strokesOf_2 : decode cX4_strokesOf 2 = .ok (.invokevirtual 42, 3) := by decide +kernel
theorem dX4_strokesOf_5 : decode cX4_strokesOf 5 = .ok (.iconst 0, 1) := by decide +kernel
theorem dX4_strokesOf_6 : decode cX4_strokesOf 6 = .ok (.istore_n 2, 1) := by decide +kernel
theorem dX4_strokesOf_7 : decode cX4_strokesOf 7 = .ok (.iconst 0, 1) := by decide +kernel
theorem dX4_strokesOf_8 : decode cX4_strokesOf 8 = .ok (.istore_n 3, 1) := by decide +kernel
theorem dX4_strokesOf_9 : decode cX4_strokesOf 9 = .ok (.iload_n 3, 1) := by decide +kernel
theorem dX4_strokesOf_10 : decode cX4_strokesOf 10 = .ok (.aload_n 0, 1) := by decide +kernel
theorem dX4_strokesOf_11 : decode cX4_strokesOf 11 = .ok (.getfield 46, 3) := by decide +kernel
theorem dX4_strokesOf_14 : decode cX4_strokesOf 14 = .ok (.if_icmp .ge 23, 3) := by decide +kernel
theorem dX4_strokesOf_17 : decode cX4_strokesOf 17 = .ok (.aload_n 0, 1) := by decide +kernel
theorem dX4_strokesOf_18 : decode cX4_strokesOf 18 = .ok (.getfield 17, 3) := by decide +kernel
theorem dX4_strokesOf_21 : decode cX4_strokesOf 21 = .ok (.iload_n 1, 1) := by decide +kernel
theorem dX4_strokesOf_22 : decode cX4_strokesOf 22 = .ok (.aaload, 1) := by decide +kernel
theorem dX4_strokesOf_23 : decode cX4_strokesOf 23 = .ok (.iload_n 3, 1) := by decide +kernel
theorem dX4_strokesOf_24 : decode cX4_strokesOf 24 = .ok (.iaload, 1) := by decide +kernel
theorem dX4_strokesOf_25 : decode cX4_strokesOf 25 = .ok (.ifCond .le 6, 3) := by decide +kernel
theorem dX4_strokesOf_28 : decode cX4_strokesOf 28 = .ok (.iinc 2 1, 3) := by decide +kernel
theorem dX4_strokesOf_31 : decode cX4_strokesOf 31 = .ok (.iinc 3 1, 3) := by decide +kernel
theorem dX4_strokesOf_34 : decode cX4_strokesOf 34 = .ok (.goto (-25), 3) := by decide +kernel
theorem dX4_strokesOf_37 : decode cX4_strokesOf 37 = .ok (.iload_n 2, 1) := by decide +kernel
theorem dX4_strokesOf_38 : decode cX4_strokesOf 38 = .ok (.ireturn, 1) := by decide +kernel
theorem dX4_carryOut_0 : decode cX4_carryOut 0 = .ok (.aload_n 0, 1) := by decide +kernel
theorem dX4_carryOut_1 : decode cX4_carryOut 1 = .ok (.iload_n 1, 1) := by decide +kernel
theorem dX4_carryOut_2 : decode cX4_carryOut 2 = .ok (.invokevirtual 42, 3) := by decide +kernel
theorem dX4_carryOut_5 : decode cX4_carryOut 5 = .ok (.iconst 0, 1) := by decide +kernel
theorem dX4_carryOut_6 : decode cX4_carryOut 6 = .ok (.istore_n 2, 1) := by decide +kernel
theorem dX4_carryOut_7 : decode cX4_carryOut 7 = .ok (.iload_n 2, 1) := by decide +kernel
theorem dX4_carryOut_8 : decode cX4_carryOut 8 = .ok (.aload_n 0, 1) := by decide +kernel
theorem dX4_carryOut_9 : decode cX4_carryOut 9 = .ok (.getfield 46, 3) := by decide +kernel
theorem dX4_carryOut_12 : decode cX4_carryOut 12 = .ok (.if_icmp .ge 37, 3) := by decide +kernel
theorem dX4_carryOut_15 : decode cX4_carryOut 15 = .ok (.aload_n 0, 1) := by decide +kernel
theorem dX4_carryOut_16 : decode cX4_carryOut 16 = .ok (.getfield 17, 3) := by decide +kernel
theorem dX4_carryOut_19 : decode cX4_carryOut 19 = .ok (.iload_n 1, 1) := by decide +kernel
theorem dX4_carryOut_20 : decode cX4_carryOut 20 = .ok (.aaload, 1) := by decide +kernel
theorem dX4_carryOut_21 : decode cX4_carryOut 21 = .ok (.iload_n 2, 1) := by decide +kernel
theorem dX4_carryOut_22 : decode cX4_carryOut 22 = .ok (.iaload, 1) := by decide +kernel
theorem dX4_carryOut_23 : decode cX4_carryOut 23 = .ok (.ifCond .le 20, 3) := by decide +kernel
theorem dX4_carryOut_26 : decode cX4_carryOut 26 = .ok (.aload_n 0, 1) := by decide +kernel
theorem dX4_carryOut_27 : decode cX4_carryOut 27 = .ok (.getfield 32, 3) := by decide +kernel
theorem dX4_carryOut_30 : decode cX4_carryOut 30 = .ok (.iload_n 1, 1) := by decide +kernel
theorem dX4_carryOut_31 : decode cX4_carryOut 31 = .ok (.iload_n 2, 1) := by decide +kernel
theorem dX4_carryOut_32 : decode cX4_carryOut 32 = .ok (.aload_n 0, 1) := by decide +kernel
theorem dX4_carryOut_33 : decode cX4_carryOut 33 = .ok (.getfield 17, 3) := by decide +kernel
theorem dX4_carryOut_36 : decode cX4_carryOut 36 = .ok (.iload_n 1, 1) := by decide +kernel
theorem dX4_carryOut_37 : decode cX4_carryOut 37 = .ok (.aaload, 1) := by decide +kernel
theorem dX4_carryOut_38 : decode cX4_carryOut 38 = .ok (.iload_n 2, 1) := by decide +kernel
theorem dX4_carryOut_39 : decode cX4_carryOut 39 = .ok (.iaload, 1) := by decide +kernel
theorem dX4_carryOut_40 : decode cX4_carryOut 40 = .ok (.invokevirtual 50, 3) := by decide +kernel
theorem dX4_carryOut_43 : decode cX4_carryOut 43 = .ok (.iinc 2 1, 3) := by decide +kernel
theorem dX4_carryOut_46 : decode cX4_carryOut 46 = .ok (.goto (-39), 3) := by decide +kernel
theorem dX4_carryOut_49 : decode cX4_carryOut 49 = .ok (.return_, 1) := by decide +kernel
theorem dX4_settle_0 : decode cX4_settle 0 = .ok (.aload_n 0, 1) := by decide +kernel
theorem dX4_settle_1 : decode cX4_settle 1 = .ok (.getfield 23, 3) := by decide +kernel
theorem dX4_settle_4 : decode cX4_settle 4 = .ok (.iload_n 1, 1) := by decide +kernel
theorem dX4_settle_5 : decode cX4_settle 5 = .ok (.iaload, 1) := by decide +kernel
theorem dX4_settle_6 : decode cX4_settle 6 = .ok (.aload_n 0, 1) := by decide +kernel
theorem dX4_settle_7 : decode cX4_settle 7 = .ok (.getfield 32, 3) := by decide +kernel
theorem dX4_settle_10 : decode cX4_settle 10 = .ok (.invokevirtual 56, 3) := by decide +kernel
theorem dX4_settle_13 : decode cX4_settle 13 = .ok (.if_icmp .ne 4, 3) := by decide +kernel
theorem dX4_settle_16 : decode cX4_settle 16 = .ok (.return_, 1) := by decide +kernel
theorem dX4_settle_17 : decode cX4_settle 17 = .ok (.aload_n 0, 1) := by decide +kernel
theorem dX4_settle_18 : decode cX4_settle 18 = .ok (.iload_n 1, 1) := by decide +kernel
theorem dX4_settle_19 : decode cX4_settle 19 = .ok (.invokevirtual 60, 3) := by decide +kernel
theorem dX4_settle_22 : decode cX4_settle 22 = .ok (.aload_n 0, 1) := by decide +kernel
theorem dX4_settle_23 : decode cX4_settle 23 = .ok (.getfield 20, 3) := by decide +kernel
theorem dX4_settle_26 : decode cX4_settle 26 = .ok (.iload_n 1, 1) := by decide +kernel
theorem dX4_settle_27 : decode cX4_settle 27 = .ok (.aload_n 0, 1) := by decide +kernel
theorem dX4_settle_28 : decode cX4_settle 28 = .ok (.iconst 0, 1) := by decide +kernel
theorem dX4_settle_29 : decode cX4_settle 29 = .ok (.iconst 0, 1) := by decide +kernel
theorem dX4_settle_30 : decode cX4_settle 30 = .ok (.invokevirtual 63, 3) := by decide +kernel
theorem dX4_settle_33 : decode cX4_settle 33 = .ok (.iastore, 1) := by decide +kernel
theorem dX4_settle_34 : decode cX4_settle 34 = .ok (.aload_n 0, 1) := by decide +kernel
theorem dX4_settle_35 : decode cX4_settle 35 = .ok (.getfield 20, 3) := by decide +kernel
theorem dX4_settle_38 : decode cX4_settle 38 = .ok (.iload_n 1, 1) := by decide +kernel
theorem dX4_settle_39 : decode cX4_settle 39 = .ok (.iaload, 1) := by decide +kernel
theorem dX4_settle_40 : decode cX4_settle 40 = .ok (.sipush 1000, 3) := by decide +kernel
theorem dX4_settle_43 : decode cX4_settle 43 = .ok (.if_icmp .ge 13, 3) := by decide +kernel
theorem dX4_settle_46 : decode cX4_settle 46 = .ok (.aload_n 0, 1) := by decide +kernel
theorem dX4_settle_47 : decode cX4_settle 47 = .ok (.aload_n 0, 1) := by decide +kernel
theorem dX4_settle_48 : decode cX4_settle 48 = .ok (.getfield 17, 3) := by decide +kernel
theorem dX4_settle_51 : decode cX4_settle 51 = .ok (.iload_n 1, 1) := by decide +kernel
theorem dX4_settle_52 : decode cX4_settle 52 = .ok (.aaload, 1) := by decide +kernel
theorem dX4_settle_53 : decode cX4_settle 53 = .ok (.invokevirtual 67, 3) := by decide +kernel
theorem dX4_settle_56 : decode cX4_settle 56 = .ok (.aload_n 0, 1) := by decide +kernel
theorem dX4_settle_57 : decode cX4_settle 57 = .ok (.getfield 23, 3) := by decide +kernel
theorem dX4_settle_60 : decode cX4_settle 60 = .ok (.iload_n 1, 1) := by decide +kernel
theorem dX4_settle_61 : decode cX4_settle 61 = .ok (.aload_n 0, 1) := by decide +kernel
theorem dX4_settle_62 : decode cX4_settle 62 = .ok (.getfield 32, 3) := by decide +kernel
theorem dX4_settle_65 : decode cX4_settle 65 = .ok (.invokevirtual 56, 3) := by decide +kernel
theorem dX4_settle_68 : decode cX4_settle 68 = .ok (.iastore, 1) := by decide +kernel
theorem dX4_settle_69 : decode cX4_settle 69 = .ok (.return_, 1) := by decide +kernel
theorem dX4_begin_0 : decode cX4_begin 0 = .ok (.aload_n 0, 1) := by decide +kernel
theorem dX4_begin_1 : decode cX4_begin 1 = .ok (.aload_n 0, 1) := by decide +kernel
theorem dX4_begin_2 : decode cX4_begin 2 = .ok (.getfield 32, 3) := by decide +kernel
theorem dX4_begin_5 : decode cX4_begin 5 = .ok (.invokevirtual 71, 3) := by decide +kernel
theorem dX4_begin_8 : decode cX4_begin 8 = .ok (.putfield 46, 3) := by decide +kernel
theorem dX4_begin_11 : decode cX4_begin 11 = .ok (.aload_n 0, 1) := by decide +kernel
theorem dX4_begin_12 : decode cX4_begin 12 = .ok (.aload_n 0, 1) := by decide +kernel
theorem dX4_begin_13 : decode cX4_begin 13 = .ok (.getfield 32, 3) := by decide +kernel
theorem dX4_begin_16 : decode cX4_begin 16 = .ok (.invokevirtual 74, 3) := by decide +kernel
theorem dX4_begin_19 : decode cX4_begin 19 = .ok (.putfield 77, 3) := by decide +kernel
theorem dX4_begin_22 : decode cX4_begin 22 = .ok (.iconst 0, 1) := by decide +kernel
theorem dX4_begin_23 : decode cX4_begin 23 = .ok (.istore_n 2, 1) := by decide +kernel
theorem dX4_begin_24 : decode cX4_begin 24 = .ok (.iload_n 2, 1) := by decide +kernel
theorem dX4_begin_25 : decode cX4_begin 25 = .ok (.aload_n 0, 1) := by decide +kernel
theorem dX4_begin_26 : decode cX4_begin 26 = .ok (.getfield 46, 3) := by decide +kernel
theorem dX4_begin_29 : decode cX4_begin 29 = .ok (.if_icmp .ge 23, 3) := by decide +kernel
theorem dX4_begin_32 : decode cX4_begin 32 = .ok (.aload_n 0, 1) := by decide +kernel
theorem dX4_begin_33 : decode cX4_begin 33 = .ok (.getfield 26, 3) := by decide +kernel
theorem dX4_begin_36 : decode cX4_begin 36 = .ok (.iload_n 2, 1) := by decide +kernel
theorem dX4_begin_37 : decode cX4_begin 37 = .ok (.aload_n 0, 1) := by decide +kernel
theorem dX4_begin_38 : decode cX4_begin 38 = .ok (.getfield 32, 3) := by decide +kernel
theorem dX4_begin_41 : decode cX4_begin 41 = .ok (.iload_n 2, 1) := by decide +kernel
theorem dX4_begin_42 : decode cX4_begin 42 = .ok (.invokevirtual 80, 3) := by decide +kernel
theorem dX4_begin_45 : decode cX4_begin 45 = .ok (.iastore, 1) := by decide +kernel
theorem dX4_begin_46 : decode cX4_begin 46 = .ok (.iinc 2 1, 3) := by decide +kernel
theorem dX4_begin_49 : decode cX4_begin 49 = .ok (.goto (-25), 3) := by decide +kernel
theorem dX4_begin_52 : decode cX4_begin 52 = .ok (.bipush (-2), 2) := by decide +kernel
theorem dX4_begin_54 : decode cX4_begin 54 = .ok (.istore_n 2, 1) := by decide +kernel
theorem dX4_begin_55 : decode cX4_begin 55 = .ok (.iload_n 2, 1) := by decide +kernel
theorem dX4_begin_56 : decode cX4_begin 56 = .ok (.iconst 2, 1) := by decide +kernel
theorem dX4_begin_57 : decode cX4_begin 57 = .ok (.if_icmp .gt 26, 3) := by decide +kernel
theorem dX4_begin_60 : decode cX4_begin 60 = .ok (.aload_n 0, 1) := by decide +kernel
theorem dX4_begin_61 : decode cX4_begin 61 = .ok (.getfield 29, 3) := by decide +kernel
theorem dX4_begin_64 : decode cX4_begin 64 = .ok (.iload_n 2, 1) := by decide +kernel
theorem dX4_begin_65 : decode cX4_begin 65 = .ok (.iconst 2, 1) := by decide +kernel
theorem dX4_begin_66 : decode cX4_begin 66 = .ok (.iadd, 1) := by decide +kernel
theorem dX4_begin_67 : decode cX4_begin 67 = .ok (.aload_n 0, 1) := by decide +kernel
theorem dX4_begin_68 : decode cX4_begin 68 = .ok (.getfield 32, 3) := by decide +kernel
theorem dX4_begin_71 : decode cX4_begin 71 = .ok (.iload_n 1, 1) := by decide +kernel
theorem dX4_begin_72 : decode cX4_begin 72 = .ok (.iload_n 2, 1) := by decide +kernel
theorem dX4_begin_73 : decode cX4_begin 73 = .ok (.invokevirtual 84, 3) := by decide +kernel
theorem dX4_begin_76 : decode cX4_begin 76 = .ok (.iastore, 1) := by decide +kernel
theorem dX4_begin_77 : decode cX4_begin 77 = .ok (.iinc 2 1, 3) := by decide +kernel
theorem dX4_begin_80 : decode cX4_begin 80 = .ok (.goto (-25), 3) := by decide +kernel
theorem dX4_begin_83 : decode cX4_begin 83 = .ok (.aload_n 0, 1) := by decide +kernel
theorem dX4_begin_84 : decode cX4_begin 84 = .ok (.getfield 11, 3) := by decide +kernel
theorem dX4_begin_87 : decode cX4_begin 87 = .ok (.iconst (-1), 1) := by decide +kernel
theorem dX4_begin_88 : decode cX4_begin 88 = .ok (.invokestatic 36, 3) := by decide +kernel
theorem dX4_begin_91 : decode cX4_begin 91 = .ok (.return_, 1) := by decide +kernel
theorem dX4_traceMinutes_0 : decode cX4_traceMinutes 0 = .ok (.iconst 0, 1) := by decide +kernel
theorem dX4_traceMinutes_1 : decode cX4_traceMinutes 1 = .ok (.istore_n 2, 1) := by decide +kernel
theorem dX4_traceMinutes_2 : decode cX4_traceMinutes 2 = .ok (.iconst 0, 1) := by decide +kernel
theorem dX4_traceMinutes_3 : decode cX4_traceMinutes 3 = .ok (.istore_n 3, 1) := by decide +kernel
theorem dX4_traceMinutes_4 : decode cX4_traceMinutes 4 = .ok (.iload_n 3, 1) := by decide +kernel
theorem dX4_traceMinutes_5 : decode cX4_traceMinutes 5 = .ok (.aload_n 0, 1) := by decide +kernel
theorem dX4_traceMinutes_6 : decode cX4_traceMinutes 6 = .ok (.getfield 46, 3) := by decide +kernel
theorem dX4_traceMinutes_9 : decode cX4_traceMinutes 9 = .ok (.if_icmp .ge 71, 3) := by decide +kernel
theorem dX4_traceMinutes_12 : decode cX4_traceMinutes 12 = .ok (.aload_n 0, 1) := by decide +kernel
theorem dX4_traceMinutes_13 : decode cX4_traceMinutes 13 = .ok (.iload_n 3, 1) := by decide +kernel
theorem dX4_traceMinutes_14 : decode cX4_traceMinutes 14 = .ok (.iconst 2, 1) := by decide +kernel
theorem dX4_traceMinutes_15 : decode cX4_traceMinutes 15 = .ok (.isub, 1) := by decide +kernel
theorem dX4_traceMinutes_16 : decode cX4_traceMinutes 16 = .ok (.iload_n 2, 1) := by decide +kernel
theorem dX4_traceMinutes_17 : decode cX4_traceMinutes 17 = .ok (.invokevirtual 87, 3) := by decide +kernel
theorem dX4_traceMinutes_20 : decode cX4_traceMinutes 20 = .ok (.istore 4, 2) := by decide +kernel
theorem dX4_traceMinutes_22 : decode cX4_traceMinutes 22 = .ok (.iconst 0, 1) := by decide +kernel
theorem dX4_traceMinutes_23 : decode cX4_traceMinutes 23 = .ok (.istore 5, 2) := by decide +kernel
theorem dX4_traceMinutes_25 : decode cX4_traceMinutes 25 = .ok (.iload 5, 2) := by decide +kernel
theorem dX4_traceMinutes_27 : decode cX4_traceMinutes 27 = .ok (.iconst 5, 1) := by decide +kernel
theorem dX4_traceMinutes_28 : decode cX4_traceMinutes 28 = .ok (.if_icmp .ge 34, 3) := by decide +kernel
theorem dX4_traceMinutes_31 : decode cX4_traceMinutes 31 = .ok (.aload_n 0, 1) := by decide +kernel
theorem dX4_traceMinutes_32 : decode cX4_traceMinutes 32 = .ok (.iload_n 3, 1) := by decide +kernel
theorem dX4_traceMinutes_33 : decode cX4_traceMinutes 33 = .ok (.iload_n 2, 1) := by decide +kernel
theorem dX4_traceMinutes_34 : decode cX4_traceMinutes 34 = .ok (.iload 5, 2) := by decide +kernel
theorem dX4_traceMinutes_36 : decode cX4_traceMinutes 36 = .ok (.iload 4, 2) := by decide +kernel
theorem dX4_traceMinutes_38 : decode cX4_traceMinutes 38 = .ok (.invokevirtual 90, 3) := by decide +kernel
theorem dX4_traceMinutes_41 : decode cX4_traceMinutes 41 = .ok (.aload_n 0, 1) := by decide +kernel
theorem dX4_traceMinutes_42 : decode cX4_traceMinutes 42 = .ok (.getfield 11, 3) := by decide +kernel
theorem dX4_traceMinutes_45 : decode cX4_traceMinutes 45 = .ok (.iload_n 3, 1) := by decide +kernel
theorem dX4_traceMinutes_46 : decode cX4_traceMinutes 46 = .ok (.sipush 1296, 3) := by decide +kernel
theorem dX4_traceMinutes_49 : decode cX4_traceMinutes 49 = .ok (.imul, 1) := by decide +kernel
theorem dX4_traceMinutes_50 : decode cX4_traceMinutes 50 = .ok (.iload_n 2, 1) := by decide +kernel
theorem dX4_traceMinutes_51 : decode cX4_traceMinutes 51 = .ok (.iadd, 1) := by decide +kernel
theorem dX4_traceMinutes_52 : decode cX4_traceMinutes 52 = .ok (.iaload, 1) := by decide +kernel
theorem dX4_traceMinutes_53 : decode cX4_traceMinutes 53 = .ok (.if_icmp .le 9, 3) := by decide +kernel
theorem dX4_traceMinutes_56 : decode cX4_traceMinutes 56 = .ok (.iinc 5 1, 3) := by decide +kernel
theorem dX4_traceMinutes_59 : decode cX4_traceMinutes 59 = .ok (.goto (-34), 3) := by decide +kernel
theorem dX4_traceMinutes_62 : decode cX4_traceMinutes 62 = .ok (.aload_n 1, 1) := by decide +kernel
theorem dX4_traceMinutes_63 : decode cX4_traceMinutes 63 = .ok (.iload_n 3, 1) := by decide +kernel
theorem dX4_traceMinutes_64 : decode cX4_traceMinutes 64 = .ok (.iload 5, 2) := by decide +kernel
theorem dX4_traceMinutes_66 : decode cX4_traceMinutes 66 = .ok (.iastore, 1) := by decide +kernel
theorem dX4_traceMinutes_67 : decode cX4_traceMinutes 67 = .ok (.iload_n 2, 1) := by decide +kernel
theorem dX4_traceMinutes_68 : decode cX4_traceMinutes 68 = .ok (.iload 5, 2) := by decide +kernel
theorem dX4_traceMinutes_70 : decode cX4_traceMinutes 70 = .ok (.invokestatic 94, 3) := by decide +kernel
theorem dX4_traceMinutes_73 : decode cX4_traceMinutes 73 = .ok (.istore_n 2, 1) := by decide +kernel
theorem dX4_traceMinutes_74 : decode cX4_traceMinutes 74 = .ok (.iinc 3 1, 3) := by decide +kernel
theorem dX4_traceMinutes_77 : decode cX4_traceMinutes 77 = .ok (.goto (-73), 3) := by decide +kernel
theorem dX4_traceMinutes_80 : decode cX4_traceMinutes 80 = .ok (.return_, 1) := by decide +kernel
theorem dX4_costFrom_0 : decode cX4_costFrom 0 = .ok (.iload_n 1, 1) := by decide +kernel
theorem dX4_costFrom_1 : decode cX4_costFrom 1 = .ok (.ifCond .lt 24, 3) := by decide +kernel
theorem dX4_costFrom_4 : decode cX4_costFrom 4 = .ok (.iload_n 1, 1) := by decide +kernel
theorem dX4_costFrom_5 : decode cX4_costFrom 5 = .ok (.aload_n 0, 1) := by decide +kernel
theorem dX4_costFrom_6 : decode cX4_costFrom 6 = .ok (.getfield 46, 3) := by decide +kernel
theorem dX4_costFrom_9 : decode cX4_costFrom 9 = .ok (.iconst 2, 1) := by decide +kernel
theorem dX4_costFrom_10 : decode cX4_costFrom 10 = .ok (.iadd, 1) := by decide +kernel
theorem dX4_costFrom_11 : decode cX4_costFrom 11 = .ok (.if_icmp .ge 14, 3) := by decide +kernel
theorem dX4_costFrom_14 : decode cX4_costFrom 14 = .ok (.iload_n 2, 1) := by decide +kernel
theorem dX4_costFrom_15 : decode cX4_costFrom 15 = .ok (.ifCond .lt 10, 3) := by decide +kernel
theorem dX4_costFrom_18 : decode cX4_costFrom 18 = .ok (.iload_n 2, 1) := by decide +kernel
theorem dX4_costFrom_19 : decode cX4_costFrom 19 = .ok (.sipush 1296, 3) := by decide +kernel
theorem dX4_costFrom_22 : decode cX4_costFrom 22 = .ok (.if_icmp .lt 5, 3) := by decide +kernel
theorem dX4_costFrom_25 : decode cX4_costFrom 25 = .ok (.iconst 0, 1) := by decide +kernel
theorem dX4_costFrom_26 : decode cX4_costFrom 26 = .ok (.ireturn, 1) := by decide +kernel
theorem dX4_costFrom_27 : decode cX4_costFrom 27 = .ok (.iload_n 1, 1) := by decide +kernel
theorem dX4_costFrom_28 : decode cX4_costFrom 28 = .ok (.sipush 1296, 3) := by decide +kernel
theorem dX4_costFrom_31 : decode cX4_costFrom 31 = .ok (.imul, 1) := by decide +kernel
theorem dX4_costFrom_32 : decode cX4_costFrom 32 = .ok (.iload_n 2, 1) := by decide +kernel
theorem dX4_costFrom_33 : decode cX4_costFrom 33 = .ok (.iadd, 1) := by decide +kernel
theorem dX4_costFrom_34 : decode cX4_costFrom 34 = .ok (.istore_n 3, 1) := by decide +kernel
theorem dX4_costFrom_35 : decode cX4_costFrom 35 = .ok (.aload_n 0, 1) := by decide +kernel
theorem dX4_costFrom_36 : decode cX4_costFrom 36 = .ok (.getfield 11, 3) := by decide +kernel
theorem dX4_costFrom_39 : decode cX4_costFrom 39 = .ok (.iload_n 3, 1) := by decide +kernel
theorem dX4_costFrom_40 : decode cX4_costFrom 40 = .ok (.iaload, 1) := by decide +kernel
theorem dX4_costFrom_41 : decode cX4_costFrom 41 = .ok (.iconst (-1), 1) := by decide +kernel
theorem dX4_costFrom_42 : decode cX4_costFrom 42 = .ok (.if_icmp .ne 15, 3) := by decide +kernel
theorem dX4_costFrom_45 : decode cX4_costFrom 45 = .ok (.aload_n 0, 1) := by decide +kernel
theorem dX4_costFrom_46 : decode cX4_costFrom 46 = .ok (.getfield 11, 3) := by decide +kernel
theorem dX4_costFrom_49 : decode cX4_costFrom 49 = .ok (.iload_n 3, 1) := by decide +kernel
theorem dX4_costFrom_50 : decode cX4_costFrom 50 = .ok (.aload_n 0, 1) := by decide +kernel
theorem dX4_costFrom_51 : decode cX4_costFrom 51 = .ok (.iload_n 1, 1) := by decide +kernel
theorem dX4_costFrom_52 : decode cX4_costFrom 52 = .ok (.iload_n 2, 1) := by decide +kernel
theorem dX4_costFrom_53 : decode cX4_costFrom 53 = .ok (.invokevirtual 97, 3) := by decide +kernel
theorem dX4_costFrom_56 : decode cX4_costFrom 56 = .ok (.iastore, 1) := by decide +kernel
theorem dX4_costFrom_57 : decode cX4_costFrom 57 = .ok (.aload_n 0, 1) := by decide +kernel
theorem dX4_costFrom_58 : decode cX4_costFrom 58 = .ok (.getfield 11, 3) := by decide +kernel
theorem dX4_costFrom_61 : decode cX4_costFrom 61 = .ok (.iload_n 3, 1) := by decide +kernel
theorem dX4_costFrom_62 : decode cX4_costFrom 62 = .ok (.iaload, 1) := by decide +kernel
theorem dX4_costFrom_63 : decode cX4_costFrom 63 = .ok (.ireturn, 1) := by decide +kernel
theorem dX4_leastCost_0 : decode cX4_leastCost 0 = .ok (.iload_n 1, 1) := by decide +kernel
theorem dX4_leastCost_1 : decode cX4_leastCost 1 = .ok (.aload_n 0, 1) := by decide +kernel
theorem dX4_leastCost_2 : decode cX4_leastCost 2 = .ok (.getfield 46, 3) := by decide +kernel
theorem dX4_leastCost_5 : decode cX4_leastCost 5 = .ok (.if_icmp .ge 7, 3) := by decide +kernel
theorem dX4_leastCost_8 : decode cX4_leastCost 8 = .ok (.iconst 5, 1) := by decide +kernel
theorem dX4_leastCost_9 : decode cX4_leastCost 9 = .ok (.goto 4, 3) := by decide +kernel
theorem dX4_leastCost_12 : decode cX4_leastCost 12 = .ok (.iconst 0, 1) := by decide +kernel
theorem dX4_leastCost_13 : decode cX4_leastCost 13 = .ok (.istore_n 3, 1) := by decide +kernel
theorem dX4_leastCost_14 : decode cX4_leastCost 14 = .ok (.aload_n 0, 1) := by decide +kernel
theorem dX4_leastCost_15 : decode cX4_leastCost 15 = .ok (.iload_n 1, 1) := by decide +kernel
theorem dX4_leastCost_16 : decode cX4_leastCost 16 = .ok (.iconst 2, 1) := by decide +kernel
theorem dX4_leastCost_17 : decode cX4_leastCost 17 = .ok (.isub, 1) := by decide +kernel
theorem dX4_leastCost_18 : decode cX4_leastCost 18 = .ok (.iload_n 2, 1) := by decide +kernel
theorem dX4_leastCost_19 : decode cX4_leastCost 19 = .ok (.invokevirtual 87, 3) := by decide +kernel
theorem dX4_leastCost_22 : decode cX4_leastCost 22 = .ok (.istore 4, 2) := by decide +kernel
theorem dX4_leastCost_24 : decode cX4_leastCost 24 = .ok (.sipush 17000, 3) := by decide +kernel
theorem dX4_leastCost_27 : decode cX4_leastCost 27 = .ok (.istore 5, 2) := by decide +kernel
theorem dX4_leastCost_29 : decode cX4_leastCost 29 = .ok (.iconst 0, 1) := by decide +kernel
theorem dX4_leastCost_30 : decode cX4_leastCost 30 = .ok (.istore 6, 2) := by decide +kernel
theorem dX4_leastCost_32 : decode cX4_leastCost 32 = .ok (.iload 6, 2) := by decide +kernel
theorem dX4_leastCost_34 : decode cX4_leastCost 34 = .ok (.iload_n 3, 1) := by decide +kernel
theorem dX4_leastCost_35 : decode cX4_leastCost 35 = .ok (.if_icmp .gt 33, 3) := by decide +kernel
theorem dX4_leastCost_38 : decode cX4_leastCost 38 = .ok (.iload 6, 2) := by decide +kernel
theorem dX4_leastCost_40 : decode cX4_leastCost 40 = .ok (.iload 5, 2) := by decide +kernel
theorem dX4_leastCost_42 : decode cX4_leastCost 42 = .ok (.if_icmp .ge 26, 3) := by decide +kernel
theorem dX4_leastCost_45 : decode cX4_leastCost 45 = .ok (.iload 5, 2) := by decide +kernel
theorem dX4_leastCost_47 : decode cX4_leastCost 47 = .ok (.aload_n 0, 1) := by decide +kernel
theorem dX4_leastCost_48 : decode cX4_leastCost 48 = .ok (.iload_n 1, 1) := by decide +kernel
theorem dX4_leastCost_49 : decode cX4_leastCost 49 = .ok (.iload_n 2, 1) := by decide +kernel
theorem dX4_leastCost_50 : decode cX4_leastCost 50 = .ok (.iload 6, 2) := by decide +kernel
theorem dX4_leastCost_52 : decode cX4_leastCost 52 = .ok (.iload 4, 2) := by decide +kernel
theorem dX4_leastCost_54 : decode cX4_leastCost 54 = .ok (.invokevirtual 90, 3) := by decide +kernel
theorem dX4_leastCost_57 : decode cX4_leastCost 57 = .ok (.invokestatic 100, 3) := by decide +kernel
theorem dX4_leastCost_60 : decode cX4_leastCost 60 = .ok (.istore 5, 2) := by decide +kernel
theorem dX4_leastCost_62 : decode cX4_leastCost 62 = .ok (.iinc 6 1, 3) := by decide +kernel
theorem dX4_leastCost_65 : decode cX4_leastCost 65 = .ok (.goto (-33), 3) := by decide +kernel
theorem dX4_leastCost_68 : decode cX4_leastCost 68 = .ok (.iload 5, 2) := by decide +kernel
theorem dX4_leastCost_70 : decode cX4_leastCost 70 = .ok (.ireturn, 1) := by decide +kernel
theorem dX4_costWith_0 : decode cX4_costWith 0 = .ok (.iload 4, 2) := by decide +kernel
theorem dX4_costWith_2 : decode cX4_costWith 2 = .ok (.iload_n 3, 1) := by decide +kernel
theorem dX4_costWith_3 : decode cX4_costWith 3 = .ok (.aload_n 0, 1) := by decide +kernel
theorem dX4_costWith_4 : decode cX4_costWith 4 = .ok (.getfield 29, 3) := by decide +kernel
theorem dX4_costWith_7 : decode cX4_costWith 7 = .ok (.iconst 0, 1) := by decide +kernel
theorem dX4_costWith_8 : decode cX4_costWith 8 = .ok (.iaload, 1) := by decide +kernel
theorem dX4_costWith_9 : decode cX4_costWith 9 = .ok (.imul, 1) := by decide +kernel
theorem dX4_costWith_10 : decode cX4_costWith 10 = .ok (.isub, 1) := by decide +kernel
theorem dX4_costWith_11 : decode cX4_costWith 11 = .ok (.istore 5, 2) := by decide +kernel
theorem dX4_costWith_13 : decode cX4_costWith 13 = .ok (.iload_n 1, 1) := by decide +kernel
theorem dX4_costWith_14 : decode cX4_costWith 14 = .ok (.iconst 2, 1) := by decide +kernel
theorem dX4_costWith_15 : decode cX4_costWith 15 = .ok (.if_icmp .lt 30, 3) := by decide +kernel
theorem dX4_costWith_18 : decode cX4_costWith 18 = .ok (.iload 5, 2) := by decide +kernel
theorem dX4_costWith_20 : decode cX4_costWith 20 = .ok (.ifCond .lt 12, 3) := by decide +kernel
theorem dX4_costWith_23 : decode cX4_costWith 23 = .ok (.iload 5, 2) := by decide +kernel
theorem dX4_costWith_25 : decode cX4_costWith 25 = .ok (.aload_n 0, 1) := by decide +kernel
theorem dX4_costWith_26 : decode cX4_costWith 26 = .ok (.getfield 77, 3) := by decide +kernel
theorem dX4_costWith_29 : decode cX4_costWith 29 = .ok (.if_icmp .le 16, 3) := by decide +kernel
theorem dX4_costWith_32 : decode cX4_costWith 32 = .ok (.aload_n 0, 1) := by decide +kernel
theorem dX4_costWith_33 : decode cX4_costWith 33 = .ok (.getfield 46, 3) := by decide +kernel
theorem dX4_costWith_36 : decode cX4_costWith 36 = .ok (.iload_n 1, 1) := by decide +kernel
theorem dX4_costWith_37 : decode cX4_costWith 37 = .ok (.isub, 1) := by decide +kernel
theorem dX4_costWith_38 : decode cX4_costWith 38 = .ok (.iconst 2, 1) := by decide +kernel
theorem dX4_costWith_39 : decode cX4_costWith 39 = .ok (.iadd, 1) := by decide +kernel
theorem dX4_costWith_40 : decode cX4_costWith 40 = .ok (.sipush 1000, 3) := by decide +kernel
theorem dX4_costWith_43 : decode cX4_costWith 43 = .ok (.imul, 1) := by decide +kernel
theorem dX4_costWith_44 : decode cX4_costWith 44 = .ok (.ireturn, 1) := by decide +kernel
theorem dX4_costWith_45 : decode cX4_costWith 45 = .ok (.iload_n 3, 1) := by decide +kernel
theorem dX4_costWith_46 : decode cX4_costWith 46 = .ok (.aload_n 0, 1) := by decide +kernel
theorem dX4_costWith_47 : decode cX4_costWith 47 = .ok (.iload_n 1, 1) := by decide +kernel
theorem dX4_costWith_48 : decode cX4_costWith 48 = .ok (.iconst 1, 1) := by decide +kernel
theorem dX4_costWith_49 : decode cX4_costWith 49 = .ok (.iadd, 1) := by decide +kernel
theorem dX4_costWith_50 : decode cX4_costWith 50 = .ok (.iload_n 2, 1) := by decide +kernel
theorem dX4_costWith_51 : decode cX4_costWith 51 = .ok (.iload_n 3, 1) := by decide +kernel
theorem dX4_costWith_52 : decode cX4_costWith 52 = .ok (.invokestatic 94, 3) := by decide +kernel
theorem dX4_costWith_55 : decode cX4_costWith 55 = .ok (.invokevirtual 63, 3) := by decide +kernel
theorem dX4_costWith_58 : decode cX4_costWith 58 = .ok (.iadd, 1) := by decide +kernel
theorem dX4_costWith_59 : decode cX4_costWith 59 = .ok (.ireturn, 1) := by decide +kernel
theorem dX4_stateBehind_0 : decode cX4_stateBehind 0 = .ok (.iload_n 0, 1) := by decide +kernel
theorem dX4_stateBehind_1 : decode cX4_stateBehind 1 = .ok (.bipush 6, 2) := by decide +kernel
theorem dX4_stateBehind_3 : decode cX4_stateBehind 3 = .ok (.imul, 1) := by decide +kernel
theorem dX4_stateBehind_4 : decode cX4_stateBehind 4 = .ok (.iload_n 1, 1) := by decide +kernel
theorem dX4_stateBehind_5 : decode cX4_stateBehind 5 = .ok (.iadd, 1) := by decide +kernel
theorem dX4_stateBehind_6 : decode cX4_stateBehind 6 = .ok (.sipush 1296, 3) := by decide +kernel
theorem dX4_stateBehind_9 : decode cX4_stateBehind 9 = .ok (.irem, 1) := by decide +kernel
theorem dX4_stateBehind_10 : decode cX4_stateBehind 10 = .ok (.ireturn, 1) := by decide +kernel
theorem dX4_leftAt_0 : decode cX4_leftAt 0 = .ok (.iload_n 1, 1) := by decide +kernel
theorem dX4_leftAt_1 : decode cX4_leftAt 1 = .ok (.ifCond .ge 5, 3) := by decide +kernel
theorem dX4_leftAt_4 : decode cX4_leftAt 4 = .ok (.iconst 0, 1) := by decide +kernel
theorem dX4_leftAt_5 : decode cX4_leftAt 5 = .ok (.ireturn, 1) := by decide +kernel
theorem dX4_leftAt_6 : decode cX4_leftAt 6 = .ok (.aload_n 0, 1) := by decide +kernel
theorem dX4_leftAt_7 : decode cX4_leftAt 7 = .ok (.getfield 26, 3) := by decide +kernel
theorem dX4_leftAt_10 : decode cX4_leftAt 10 = .ok (.iload_n 1, 1) := by decide +kernel
theorem dX4_leftAt_11 : decode cX4_leftAt 11 = .ok (.iaload, 1) := by decide +kernel
theorem dX4_leftAt_12 : decode cX4_leftAt 12 = .ok (.istore_n 3, 1) := by decide +kernel
theorem dX4_leftAt_13 : decode cX4_leftAt 13 = .ok (.iload_n 2, 1) := by decide +kernel
theorem dX4_leftAt_14 : decode cX4_leftAt 14 = .ok (.istore 4, 2) := by decide +kernel
theorem dX4_leftAt_16 : decode cX4_leftAt 16 = .ok (.iconst 1, 1) := by decide +kernel
theorem dX4_leftAt_17 : decode cX4_leftAt 17 = .ok (.istore 5, 2) := by decide +kernel
theorem dX4_leftAt_19 : decode cX4_leftAt 19 = .ok (.iload 5, 2) := by decide +kernel
theorem dX4_leftAt_21 : decode cX4_leftAt 21 = .ok (.iconst 5, 1) := by decide +kernel
theorem dX4_leftAt_22 : decode cX4_leftAt 22 = .ok (.if_icmp .ge 32, 3) := by decide +kernel
theorem dX4_leftAt_25 : decode cX4_leftAt 25 = .ok (.iload_n 3, 1) := by decide +kernel
theorem dX4_leftAt_26 : decode cX4_leftAt 26 = .ok (.iload 4, 2) := by decide +kernel
theorem dX4_leftAt_28 : decode cX4_leftAt 28 = .ok (.bipush 6, 2) := by decide +kernel
theorem dX4_leftAt_30 : decode cX4_leftAt 30 = .ok (.irem, 1) := by decide +kernel
theorem dX4_leftAt_31 : decode cX4_leftAt 31 = .ok (.aload_n 0, 1) := by decide +kernel
theorem dX4_leftAt_32 : decode cX4_leftAt 32 = .ok (.getfield 29, 3) := by decide +kernel
theorem dX4_leftAt_35 : decode cX4_leftAt 35 = .ok (.iload 5, 2) := by decide +kernel
theorem dX4_leftAt_37 : decode cX4_leftAt 37 = .ok (.iaload, 1) := by decide +kernel
theorem dX4_leftAt_38 : decode cX4_leftAt 38 = .ok (.imul, 1) := by decide +kernel
theorem dX4_leftAt_39 : decode cX4_leftAt 39 = .ok (.isub, 1) := by decide +kernel
theorem dX4_leftAt_40 : decode cX4_leftAt 40 = .ok (.istore_n 3, 1) := by decide +kernel
theorem dX4_leftAt_41 : decode cX4_leftAt 41 = .ok (.iload 4, 2) := by decide +kernel
theorem dX4_leftAt_43 : decode cX4_leftAt 43 = .ok (.bipush 6, 2) := by decide +kernel
theorem dX4_leftAt_45 : decode cX4_leftAt 45 = .ok (.idiv, 1) := by decide +kernel
theorem dX4_leftAt_46 : decode cX4_leftAt 46 = .ok (.istore 4, 2) := by decide +kernel
theorem dX4_leftAt_48 : decode cX4_leftAt 48 = .ok (.iinc 5 1, 3) := by decide +kernel
theorem dX4_leftAt_51 : decode cX4_leftAt 51 = .ok (.goto (-32), 3) := by decide +kernel
theorem dX4_leftAt_54 : decode cX4_leftAt 54 = .ok (.iload_n 3, 1) := by decide +kernel
theorem dX4_leftAt_55 : decode cX4_leftAt 55 = .ok (.ireturn, 1) := by decide +kernel
theorem dX5_init_0 : decode cX5_init 0 = .ok (.aload_n 0, 1) := by decide +kernel
theorem dX5_init_1 : decode cX5_init 1 = .ok (.invokespecial 3, 3) := by decide +kernel
theorem dX5_init_4 : decode cX5_init 4 = .ok (.aload_n 0, 1) := by decide +kernel
theorem dX5_init_5 : decode cX5_init 5 = .ok (.bipush 7, 2) := by decide +kernel
theorem dX5_init_7 : decode cX5_init 7 = .ok (.bipush 16, 2) := by decide +kernel
theorem dX5_init_9 : decode cX5_init 9 = .ok (.multianewarray 9 2, 4) := by decide +kernel
theorem dX5_init_13 : decode cX5_init 13 = .ok (.putfield 11, 3) := by decide +kernel
theorem dX5_init_16 : decode cX5_init 16 = .ok (.aload_n 0, 1) := by decide +kernel
theorem dX5_init_17 : decode cX5_init 17 = .ok (.iconst 4, 1) := by decide +kernel
theorem dX5_init_18 : decode cX5_init 18 = .ok (.bipush 16, 2) := by decide +kernel
theorem dX5_init_20 : decode cX5_init 20 = .ok (.multianewarray 9 2, 4) := by decide +kernel
theorem dX5_init_24 : decode cX5_init 24 = .ok (.putfield 16, 3) := by decide +kernel
theorem dX5_init_27 : decode cX5_init 27 = .ok (.aload_n 0, 1) := by decide +kernel
theorem dX5_init_28 : decode cX5_init 28 = .ok (.bipush 6, 2) := by decide +kernel
theorem dX5_init_30 : decode cX5_init 30 = .ok (.newarray .int, 2) := by decide +kernel
theorem dX5_init_32 : decode cX5_init 32 = .ok (.putfield 19, 3) := by decide +kernel
theorem dX5_init_35 : decode cX5_init 35 = .ok (.aload_n 0, 1) := by decide +kernel
theorem dX5_init_36 : decode cX5_init 36 = .ok (.bipush 6, 2) := by decide +kernel
theorem dX5_init_38 : decode cX5_init 38 = .ok (.newarray .int, 2) := by decide +kernel
theorem dX5_init_40 : decode cX5_init 40 = .ok (.putfield 23, 3) := by decide +kernel
theorem dX5_init_43 : decode cX5_init 43 = .ok (.aload_n 0, 1) := by decide +kernel
theorem dX5_init_44 : decode cX5_init 44 = .ok (.bipush 8, 2) := by decide +kernel
theorem dX5_init_46 : decode cX5_init 46 = .ok (.putfield 26, 3) := by decide +kernel
theorem dX5_init_49 : decode cX5_init 49 = .ok (.aload_n 0, 1) := by decide +kernel
theorem dX5_init_50 : decode cX5_init 50 = .ok (.iconst 0, 1) := by decide +kernel
theorem dX5_init_51 : decode cX5_init 51 = .ok (.putfield 30, 3) := by decide +kernel
theorem dX5_init_54 : decode cX5_init 54 = .ok (.return_, 1) := by decide +kernel
theorem dX5_begin_0 : decode cX5_begin 0 = .ok (.aload_n 0, 1) := by decide +kernel
theorem dX5_begin_1 : decode cX5_begin 1 = .ok (.iload_n 1, 1) := by decide +kernel
theorem dX5_begin_2 : decode cX5_begin 2 = .ok (.putfield 26, 3) := by decide +kernel
theorem dX5_begin_5 : decode cX5_begin 5 = .ok (.aload_n 0, 1) := by decide +kernel
theorem dX5_begin_6 : decode cX5_begin 6 = .ok (.getfield 11, 3) := by decide +kernel
theorem dX5_begin_9 : decode cX5_begin 9 = .ok (.astore_n 2, 1) := by decide +kernel
theorem dX5_begin_10 : decode cX5_begin 10 = .ok (.aload_n 2, 1) := by decide +kernel
theorem dX5_begin_11 : decode cX5_begin 11 = .ok (.arraylength, 1) := by decide +kernel
theorem dX5_begin_12 : decode cX5_begin 12 = .ok (.istore_n 3, 1) := by decide +kernel
theorem dX5_begin_13 : decode cX5_begin 13 = .ok (.iconst 0, 1) := by decide +kernel
theorem dX5_begin_14 : decode cX5_begin 14 = .ok (.istore 4, 2) := by decide +kernel
theorem dX5_begin_16 : decode cX5_begin 16 = .ok (.iload 4, 2) := by decide +kernel
theorem dX5_begin_18 : decode cX5_begin 18 = .ok (.iload_n 3, 1) := by decide +kernel
theorem dX5_begin_19 : decode cX5_begin 19 = .ok (.if_icmp .ge 21, 3) := by decide +kernel
theorem dX5_begin_22 : decode cX5_begin 22 = .ok (.aload_n 2, 1) := by decide +kernel
theorem dX5_begin_23 : decode cX5_begin 23 = .ok (.iload 4, 2) := by decide +kernel
theorem dX5_begin_25 : decode cX5_begin 25 = .ok (.aaload, 1) := by decide +kernel
theorem dX5_begin_26 : decode cX5_begin 26 = .ok (.astore 5, 2) := by decide +kernel
theorem dX5_begin_28 : decode cX5_begin 28 = .ok (.aload 5, 2) := by decide +kernel
theorem dX5_begin_30 : decode cX5_begin 30 = .ok (.iconst 0, 1) := by decide +kernel
theorem dX5_begin_31 : decode cX5_begin 31 = .ok (.invokestatic 34, 3) := by decide +kernel
theorem dX5_begin_34 : decode cX5_begin 34 = .ok (.iinc 4 1, 3) := by decide +kernel
theorem dX5_begin_37 : decode cX5_begin 37 = .ok (.goto (-21), 3) := by decide +kernel
theorem dX5_begin_40 : decode cX5_begin 40 = .ok (.aload_n 0, 1) := by decide +kernel
theorem dX5_begin_41 : decode cX5_begin 41 = .ok (.iconst 0, 1) := by decide +kernel
theorem dX5_begin_42 : decode cX5_begin 42 = .ok (.putfield 30, 3) := by decide +kernel
theorem dX5_begin_45 : decode cX5_begin 45 = .ok (.return_, 1) := by decide +kernel
theorem dX5_tellBend_0 : decode cX5_tellBend 0 = .ok (.aload_n 0, 1) := by decide +kernel
theorem dX5_tellBend_1 : decode cX5_tellBend 1 = .ok (.getfield 11, 3) := by decide +kernel
theorem dX5_tellBend_4 : decode cX5_tellBend 4 = .ok (.iload_n 1, 1) := by decide +kernel
theorem dX5_tellBend_5 : decode cX5_tellBend 5 = .ok (.aaload, 1) := by decide +kernel
theorem dX5_tellBend_6 : decode cX5_tellBend 6 = .ok (.iload_n 2, 1) := by decide +kernel
theorem dX5_tellBend_7 : decode cX5_tellBend 7 = .ok (.iaload, 1) := by decide +kernel
theorem dX5_tellBend_8 : decode cX5_tellBend 8 = .ok (.istore 4, 2) := by decide +kernel
theorem dX5_tellBend_10 : decode cX5_tellBend 10 = .ok (.aload_n 0, 1) := by decide +kernel
theorem dX5_tellBend_11 : decode cX5_tellBend 11 = .ok (.getfield 11, 3) := by decide +kernel
theorem dX5_tellBend_14 : decode cX5_tellBend 14 = .ok (.iload_n 1, 1) := by decide +kernel
theorem dX5_tellBend_15 : decode cX5_tellBend 15 = .ok (.aaload, 1) := by decide +kernel
theorem dX5_tellBend_16 : decode cX5_tellBend 16 = .ok (.iload_n 2, 1) := by decide +kernel
theorem dX5_tellBend_17 : decode cX5_tellBend 17 = .ok (.iload_n 3, 1) := by decide +kernel
theorem dX5_tellBend_18 : decode cX5_tellBend 18 = .ok (.iastore, 1) := by decide +kernel
theorem dX5_tellBend_19 : decode cX5_tellBend 19 = .ok (.aload_n 0, 1) := by decide +kernel
theorem dX5_tellBend_20 : decode cX5_tellBend 20 = .ok (.iconst 0, 1) := by decide +kernel
theorem dX5_tellBend_21 : decode cX5_tellBend 21 = .ok (.putfield 30, 3) := by decide +kernel
theorem dX5_tellBend_24 : decode cX5_tellBend 24 = .ok (.iload 4, 2) := by decide +kernel
theorem dX5_tellBend_26 : decode cX5_tellBend 26 = .ok (.ireturn, 1) := by decide +kernel
theorem dX5_leastSpread_0 : decode cX5_leastSpread 0 = .ok (.aload_n 0, 1) := by decide +kernel
theorem dX5_leastSpread_1 : decode cX5_leastSpread 1 = .ok (.invokevirtual 40, 3) := by decide +kernel
theorem dX5_leastSpread_4 : decode cX5_leastSpread 4 = .ok (.aload_n 0, 1) := by decide +kernel
theorem dX5_leastSpread_5 : decode cX5_leastSpread 5 = .ok (.getfield 43, 3) := by decide +kernel
theorem dX5_leastSpread_8 : decode cX5_leastSpread 8 = .ok (.ireturn, 1) := by decide +kernel
theorem dX5_shareOf_0 : decode cX5_shareOf 0 = .ok (.aload_n 0, 1) := by decide +kernel
theorem dX5_shareOf_1 : decode cX5_shareOf 1 = .ok (.invokevirtual 40, 3) := by decide +kernel
theorem dX5_shareOf_4 : decode cX5_shareOf 4 = .ok (.aload_n 0, 1) := by decide +kernel
theorem dX5_shareOf_5 : decode cX5_shareOf 5 = .ok (.getfield 23, 3) := by decide +kernel
theorem dX5_shareOf_8 : decode cX5_shareOf 8 = .ok (.iload_n 1, 1) := by decide +kernel
theorem dX5_shareOf_9 : decode cX5_shareOf 9 = .ok (.iaload, 1) := by decide +kernel
theorem dX5_shareOf_10 : decode cX5_shareOf 10 = .ok (.ireturn, 1) := by decide +kernel
theorem dX5_settle_0 : decode cX5_settle 0 = .ok (.aload_n 0, 1) := by decide +kernel
theorem dX5_settle_1 : decode cX5_settle 1 = .ok (.getfield 30, 3) := by decide +kernel
theorem dX5_settle_4 : decode cX5_settle 4 = .ok (.ifCond .eq 4, 3) := by decide +kernel
theorem dX5_settle_7 : decode cX5_settle 7 = .ok (.return_, 1) := by decide +kernel
theorem dX5_settle_8 : decode cX5_settle 8 = .ok (.iconst 0, 1) := by decide +kernel
theorem dX5_settle_9 : decode cX5_settle 9 = .ok (.istore_n 1, 1) := by decide +kernel
theorem dX5_settle_10 : decode cX5_settle 10 = .ok (.iload_n 1, 1) := by decide +kernel
theorem dX5_settle_11 : decode cX5_settle 11 = .ok (.aload_n 0, 1) := by decide +kernel
theorem dX5_settle_12 : decode cX5_settle 12 = .ok (.getfield 26, 3) := by decide +kernel
theorem dX5_settle_15 : decode cX5_settle 15 = .ok (.if_icmp .ge 29, 3) := by decide +kernel
theorem dX5_settle_18 : decode cX5_settle 18 = .ok (.aload_n 0, 1) := by decide +kernel
theorem dX5_settle_19 : decode cX5_settle 19 = .ok (.getfield 16, 3) := by decide +kernel
theorem dX5_settle_22 : decode cX5_settle 22 = .ok (.iconst 0, 1) := by decide +kernel
theorem dX5_settle_23 : decode cX5_settle 23 = .ok (.aaload, 1) := by decide +kernel
theorem dX5_settle_24 : decode cX5_settle 24 = .ok (.iload_n 1, 1) := by decide +kernel
theorem dX5_settle_25 : decode cX5_settle 25 = .ok (.bipush 12, 2) := by decide +kernel
theorem dX5_settle_27 : decode cX5_settle 27 = .ok (.aload_n 0, 1) := by decide +kernel
theorem dX5_settle_28 : decode cX5_settle 28 = .ok (.getfield 11, 3) := by decide +kernel
theorem dX5_settle_31 : decode cX5_settle 31 = .ok (.bipush 6, 2) := by decide +kernel
theorem dX5_settle_33 : decode cX5_settle 33 = .ok (.aaload, 1) := by decide +kernel
theorem dX5_settle_34 : decode cX5_settle 34 = .ok (.iload_n 1, 1) := by decide +kernel
theorem dX5_settle_35 : decode cX5_settle 35 = .ok (.iaload, 1) := by decide +kernel
theorem dX5_settle_36 : decode cX5_settle 36 = .ok (.imul, 1) := by decide +kernel
theorem dX5_settle_37 : decode cX5_settle 37 = .ok (.iastore, 1) := by decide +kernel
theorem dX5_settle_38 : decode cX5_settle 38 = .ok (.iinc 1 1, 3) := by decide +kernel
theorem dX5_settle_41 : decode cX5_settle 41 = .ok (.goto (-31), 3) := by decide +kernel
theorem dX5_settle_44 : decode cX5_settle 44 = .ok (.aload_n 0, 1) := by decide +kernel
theorem dX5_settle_45 : decode cX5_settle 45 = .ok (.sipush 24001, 3) := by decide +kernel
theorem dX5_settle_48 : decode cX5_settle 48 = .ok (.putfield 43, 3) := by decide +kernel
theorem dX5_settle_51 : decode cX5_settle 51 = .ok (.aload_n 0, 1) := by decide +kernel
theorem dX5_settle_52 : decode cX5_settle 52 = .ok (.iconst 0, 1) := by decide +kernel
theorem dX5_settle_53 : decode cX5_settle 53 = .ok (.bipush 12, 2) := by decide +kernel
theorem dX5_settle_55 : decode cX5_settle 55 = .ok (.iconst 0, 1) := by decide +kernel
theorem dX5_settle_56 : decode cX5_settle 56 = .ok (.invokevirtual 46, 3) := by decide +kernel
theorem dX5_settle_59 : decode cX5_settle 59 = .ok (.aload_n 0, 1) := by decide +kernel
theorem dX5_settle_60 : decode cX5_settle 60 = .ok (.iconst 1, 1) := by decide +kernel
theorem dX5_settle_61 : decode cX5_settle 61 = .ok (.putfield 30, 3) := by decide +kernel
theorem dX5_settle_64 : decode cX5_settle 64 = .ok (.return_, 1) := by decide +kernel
theorem dX5_place_0 : decode cX5_place 0 = .ok (.iload_n 2, 1) := by decide +kernel
theorem dX5_place_1 : decode cX5_place 1 = .ok (.ifCond .ne 10, 3) := by decide +kernel
theorem dX5_place_4 : decode cX5_place 4 = .ok (.aload_n 0, 1) := by decide +kernel
theorem dX5_place_5 : decode cX5_place 5 = .ok (.iload_n 1, 1) := by decide +kernel
theorem dX5_place_6 : decode cX5_place 6 = .ok (.iload_n 3, 1) := by decide +kernel
theorem dX5_place_7 : decode cX5_place 7 = .ok (.invokevirtual 50, 3) := by decide +kernel
theorem dX5_place_10 : decode cX5_place 10 = .ok (.return_, 1) := by decide +kernel
theorem dX5_place_11 : decode cX5_place 11 = .ok (.iload_n 1, 1) := by decide +kernel
theorem dX5_place_12 : decode cX5_place 12 = .ok (.bipush 6, 2) := by decide +kernel
theorem dX5_place_14 : decode cX5_place 14 = .ok (.if_icmp .ge 8, 3) := by decide +kernel
theorem dX5_place_17 : decode cX5_place 17 = .ok (.iload_n 3, 1) := by decide +kernel
theorem dX5_place_18 : decode cX5_place 18 = .ok (.iconst 3, 1) := by decide +kernel
theorem dX5_place_19 : decode cX5_place 19 = .ok (.if_icmp .lt 4, 3) := by decide +kernel
theorem dX5_place_22 : decode cX5_place 22 = .ok (.return_, 1) := by decide +kernel
theorem dX5_place_23 : decode cX5_place 23 = .ok (.iload_n 1, 1) := by decide +kernel
theorem dX5_place_24 : decode cX5_place 24 = .ok (.iconst 1, 1) := by decide +kernel
theorem dX5_place_25 : decode cX5_place 25 = .ok (.iadd, 1) := by decide +kernel
theorem dX5_place_26 : decode cX5_place 26 = .ok (.bipush 6, 2) := by decide +kernel
theorem dX5_place_28 : decode cX5_place 28 = .ok (.if_icmp .eq 10, 3) := by decide +kernel
theorem dX5_place_31 : decode cX5_place 31 = .ok (.iload_n 3, 1) := by decide +kernel
theorem dX5_place_32 : decode cX5_place 32 = .ok (.iconst 1, 1) := by decide +kernel
theorem dX5_place_33 : decode cX5_place 33 = .ok (.iadd, 1) := by decide +kernel
theorem dX5_place_34 : decode cX5_place 34 = .ok (.iconst 3, 1) := by decide +kernel
theorem dX5_place_35 : decode cX5_place 35 = .ok (.if_icmp .ne 7, 3) := by decide +kernel
theorem dX5_place_38 : decode cX5_place 38 = .ok (.iconst 1, 1) := by decide +kernel
theorem dX5_place_39 : decode cX5_place 39 = .ok (.goto 4, 3) := by decide +kernel
theorem dX5_place_42 : decode cX5_place 42 = .ok (.iconst 0, 1) := by decide +kernel
theorem dX5_place_43 : decode cX5_place 43 = .ok (.istore 4, 2) := by decide +kernel
theorem dX5_place_45 : decode cX5_place 45 = .ok (.iload_n 2, 1) := by decide +kernel
theorem dX5_place_46 : decode cX5_place 46 = .ok (.istore 5, 2) := by decide +kernel
theorem dX5_place_48 : decode cX5_place 48 = .ok (.iload 5, 2) := by decide +kernel
theorem dX5_place_50 : decode cX5_place 50 = .ok (.iload 4, 2) := by decide +kernel
theorem dX5_place_52 : decode cX5_place 52 = .ok (.ifCond .eq 7, 3) := by decide +kernel
theorem dX5_place_55 : decode cX5_place 55 = .ok (.iload_n 2, 1) := by decide +kernel
theorem dX5_place_56 : decode cX5_place 56 = .ok (.goto 4, 3) := by decide +kernel
theorem dX5_place_59 : decode cX5_place 59 = .ok (.iconst 1, 1) := by decide +kernel
theorem dX5_place_60 : decode cX5_place 60 = .ok (.if_icmp .lt 18, 3) := by decide +kernel
theorem dX5_place_63 : decode cX5_place 63 = .ok (.aload_n 0, 1) := by decide +kernel
theorem dX5_place_64 : decode cX5_place 64 = .ok (.iload_n 1, 1) := by decide +kernel
theorem dX5_place_65 : decode cX5_place 65 = .ok (.iload 5, 2) := by decide +kernel
theorem dX5_place_67 : decode cX5_place 67 = .ok (.iload_n 2, 1) := by decide +kernel
theorem dX5_place_68 : decode cX5_place 68 = .ok (.iload_n 3, 1) := by decide +kernel
theorem dX5_place_69 : decode cX5_place 69 = .ok (.invokevirtual 54, 3) := by decide +kernel
theorem dX5_place_72 : decode cX5_place 72 = .ok (.iinc 5 (-1), 3) := by decide +kernel
theorem dX5_place_75 : decode cX5_place 75 = .ok (.goto (-27), 3) := by decide +kernel
theorem dX5_place_78 : decode cX5_place 78 = .ok (.aload_n 0, 1) := by decide +kernel
theorem dX5_place_79 : decode cX5_place 79 = .ok (.iload_n 1, 1) := by decide +kernel
theorem dX5_place_80 : decode cX5_place 80 = .ok (.iconst 0, 1) := by decide +kernel
theorem dX5_place_81 : decode cX5_place 81 = .ok (.iload_n 2, 1) := by decide +kernel
theorem dX5_place_82 : decode cX5_place 82 = .ok (.iload_n 3, 1) := by decide +kernel
theorem dX5_place_83 : decode cX5_place 83 = .ok (.invokevirtual 54, 3) := by decide +kernel
theorem dX5_place_86 : decode cX5_place 86 = .ok (.return_, 1) := by decide +kernel
theorem dX5_placeShare_0 : decode cX5_placeShare 0 = .ok (.aload_n 0, 1) := by decide +kernel
theorem dX5_placeShare_1 : decode cX5_placeShare 1 = .ok (.getfield 19, 3) := by decide +kernel
theorem dX5_placeShare_4 : decode cX5_placeShare 4 = .ok (.iload_n 1, 1) := by decide +kernel
theorem dX5_placeShare_5 : decode cX5_placeShare 5 = .ok (.iload_n 2, 1) := by decide +kernel
theorem dX5_placeShare_6 : decode cX5_placeShare 6 = .ok (.iastore, 1) := by decide +kernel
theorem dX5_placeShare_7 : decode cX5_placeShare 7 = .ok (.iload_n 2, 1) := by decide +kernel
theorem dX5_placeShare_8 : decode cX5_placeShare 8 = .ok (.ifCond .ne 14, 3) := by decide +kernel
theorem dX5_placeShare_11 : decode cX5_placeShare 11 = .ok (.aload_n 0, 1) := by decide +kernel
theorem dX5_placeShare_12 : decode cX5_placeShare 12 = .ok (.iload_n 1, 1) := by decide +kernel
theorem dX5_placeShare_13 : decode cX5_placeShare 13 = .ok (.iconst 1, 1) := by decide +kernel
theorem dX5_placeShare_14 : decode cX5_placeShare 14 = .ok (.iadd, 1) := by decide +kernel
theorem dX5_placeShare_15 : decode cX5_placeShare 15 = .ok (.iload_n 3, 1) := by decide +kernel
theorem dX5_placeShare_16 : decode cX5_placeShare 16 = .ok (.iload 4, 2) := by decide +kernel
theorem dX5_placeShare_18 : decode cX5_placeShare 18 = .ok (.invokevirtual 46, 3) := by decide +kernel
theorem dX5_placeShare_21 : decode cX5_placeShare 21 = .ok (.return_, 1) := by decide +kernel
theorem dX5_placeShare_22 : decode cX5_placeShare 22 = .ok (.iconst 0, 1) := by decide +kernel
theorem dX5_placeShare_23 : decode cX5_placeShare 23 = .ok (.istore 5, 2) := by decide +kernel
theorem dX5_placeShare_25 : decode cX5_placeShare 25 = .ok (.iload 5, 2) := by decide +kernel
theorem dX5_placeShare_27 : decode cX5_placeShare 27 = .ok (.aload_n 0, 1) := by decide +kernel
theorem dX5_placeShare_28 : decode cX5_placeShare 28 = .ok (.getfield 26, 3) := by decide +kernel
theorem dX5_placeShare_31 : decode cX5_placeShare 31 = .ok (.if_icmp .ge 43, 3) := by decide +kernel
theorem dX5_placeShare_34 : decode cX5_placeShare 34 = .ok (.aload_n 0, 1) := by decide +kernel
theorem dX5_placeShare_35 : decode cX5_placeShare 35 = .ok (.getfield 16, 3) := by decide +kernel
theorem dX5_placeShare_38 : decode cX5_placeShare 38 = .ok (.iload 4, 2) := by decide +kernel
theorem dX5_placeShare_40 : decode cX5_placeShare 40 = .ok (.iconst 1, 1) := by decide +kernel
theorem dX5_placeShare_41 : decode cX5_placeShare 41 = .ok (.iadd, 1) := by decide +kernel
theorem dX5_placeShare_42 : decode cX5_placeShare 42 = .ok (.aaload, 1) := by decide +kernel
theorem dX5_placeShare_43 : decode cX5_placeShare 43 = .ok (.iload 5, 2) := by decide +kernel
theorem dX5_placeShare_45 : decode cX5_placeShare 45 = .ok (.aload_n 0, 1) := by decide +kernel
theorem dX5_placeShare_46 : decode cX5_placeShare 46 = .ok (.getfield 16, 3) := by decide +kernel
theorem dX5_placeShare_49 : decode cX5_placeShare 49 = .ok (.iload 4, 2) := by decide +kernel
theorem dX5_placeShare_51 : decode cX5_placeShare 51 = .ok (.aaload, 1) := by decide +kernel
theorem dX5_placeShare_52 : decode cX5_placeShare 52 = .ok (.iload 5, 2) := by decide +kernel
theorem dX5_placeShare_54 : decode cX5_placeShare 54 = .ok (.iaload, 1) := by decide +kernel
theorem dX5_placeShare_55 : decode cX5_placeShare 55 = .ok (.iload_n 2, 1) := by decide +kernel
theorem dX5_placeShare_56 : decode cX5_placeShare 56 = .ok (.aload_n 0, 1) := by decide +kernel
theorem dX5_placeShare_57 : decode cX5_placeShare 57 = .ok (.getfield 11, 3) := by decide +kernel
theorem dX5_placeShare_60 : decode cX5_placeShare 60 = .ok (.iload_n 1, 1) := by decide +kernel
theorem dX5_placeShare_61 : decode cX5_placeShare 61 = .ok (.aaload, 1) := by decide +kernel
theorem dX5_placeShare_62 : decode cX5_placeShare 62 = .ok (.iload 5, 2) := by decide +kernel
theorem dX5_placeShare_64 : decode cX5_placeShare 64 = .ok (.iaload, 1) := by decide +kernel
theorem dX5_placeShare_65 : decode cX5_placeShare 65 = .ok (.imul, 1) := by decide +kernel
theorem dX5_placeShare_66 : decode cX5_placeShare 66 = .ok (.isub, 1) := by decide +kernel
theorem dX5_placeShare_67 : decode cX5_placeShare 67 = .ok (.iastore, 1) := by decide +kernel
theorem dX5_placeShare_68 : decode cX5_placeShare 68 = .ok (.iinc 5 1, 3) := by decide +kernel
theorem dX5_placeShare_71 : decode cX5_placeShare 71 = .ok (.goto (-46), 3) := by decide +kernel
theorem dX5_placeShare_74 : decode cX5_placeShare 74 = .ok (.aload_n 0, 1) := by decide +kernel
theorem dX5_placeShare_75 : decode cX5_placeShare 75 = .ok (.iload_n 1, 1) := by decide +kernel
theorem dX5_placeShare_76 : decode cX5_placeShare 76 = .ok (.iconst 1, 1) := by decide +kernel
theorem dX5_placeShare_77 : decode cX5_placeShare 77 = .ok (.iadd, 1) := by decide +kernel
theorem dX5_placeShare_78 : decode cX5_placeShare 78 = .ok (.iload_n 3, 1) := by decide +kernel
theorem dX5_placeShare_79 : decode cX5_placeShare 79 = .ok (.iload_n 2, 1) := by decide +kernel
theorem dX5_placeShare_80 : decode cX5_placeShare 80 = .ok (.isub, 1) := by decide +kernel
theorem dX5_placeShare_81 : decode cX5_placeShare 81 = .ok (.iload 4, 2) := by decide +kernel
theorem dX5_placeShare_83 : decode cX5_placeShare 83 = .ok (.iconst 1, 1) := by decide +kernel
theorem dX5_placeShare_84 : decode cX5_placeShare 84 = .ok (.iadd, 1) := by decide +kernel
theorem dX5_placeShare_85 : decode cX5_placeShare 85 = .ok (.invokevirtual 46, 3) := by decide +kernel
theorem dX5_placeShare_88 : decode cX5_placeShare 88 = .ok (.return_, 1) := by decide +kernel
theorem dX5_keepIfBetter_0 : decode cX5_keepIfBetter 0 = .ok (.aload_n 0, 1) := by decide +kernel
theorem dX5_keepIfBetter_1 : decode cX5_keepIfBetter 1 = .ok (.aload_n 0, 1) := by decide +kernel
theorem dX5_keepIfBetter_2 : decode cX5_keepIfBetter 2 = .ok (.getfield 16, 3) := by decide +kernel
theorem dX5_keepIfBetter_5 : decode cX5_keepIfBetter 5 = .ok (.iload_n 2, 1) := by decide +kernel
theorem dX5_keepIfBetter_6 : decode cX5_keepIfBetter 6 = .ok (.aaload, 1) := by decide +kernel
theorem dX5_keepIfBetter_7 : decode cX5_keepIfBetter 7 = .ok (.invokevirtual 58, 3) := by decide +kernel
theorem dX5_keepIfBetter_10 : decode cX5_keepIfBetter 10 = .ok (.istore_n 3, 1) := by decide +kernel
theorem dX5_keepIfBetter_11 : decode cX5_keepIfBetter 11 = .ok (.iload_n 3, 1) := by decide +kernel
theorem dX5_keepIfBetter_12 : decode cX5_keepIfBetter 12 = .ok (.aload_n 0, 1) := by decide +kernel
theorem dX5_keepIfBetter_13 : decode cX5_keepIfBetter 13 = .ok (.getfield 43, 3) := by decide +kernel
theorem dX5_keepIfBetter_16 : decode cX5_keepIfBetter 16 = .ok (.if_icmp .ge 48, 3) := by decide +kernel
theorem dX5_keepIfBetter_19 : decode cX5_keepIfBetter 19 = .ok (.aload_n 0, 1) := by decide +kernel
theorem dX5_keepIfBetter_20 : decode cX5_keepIfBetter 20 = .ok (.iload_n 3, 1) := by decide +kernel
theorem dX5_keepIfBetter_21 : decode cX5_keepIfBetter 21 = .ok (.putfield 43, 3) := by decide +kernel
theorem dX5_keepIfBetter_24 : decode cX5_keepIfBetter 24 = .ok (.iconst 0, 1) := by decide +kernel
theorem dX5_keepIfBetter_25 : decode cX5_keepIfBetter 25 = .ok (.istore 4, 2) := by decide +kernel
theorem dX5_keepIfBetter_27 : decode cX5_keepIfBetter 27 = .ok (.iload 4, 2) := by decide +kernel
theorem dX5_keepIfBetter_29 : decode cX5_keepIfBetter 29 = .ok (.bipush 6, 2) := by decide +kernel
theorem dX5_keepIfBetter_31 : decode cX5_keepIfBetter 31 = .ok (.if_icmp .ge 33, 3) := by decide +kernel
theorem dX5_keepIfBetter_34 : decode cX5_keepIfBetter 34 = .ok (.aload_n 0, 1) := by decide +kernel
theorem dX5_keepIfBetter_35 : decode cX5_keepIfBetter 35 = .ok (.getfield 23, 3) := by decide +kernel
theorem dX5_keepIfBetter_38 : decode cX5_keepIfBetter 38 = .ok (.iload 4, 2) := by decide +kernel
theorem dX5_keepIfBetter_40 : decode cX5_keepIfBetter 40 = .ok (.iload 4, 2) := by decide +kernel
theorem dX5_keepIfBetter_42 : decode cX5_keepIfBetter 42 = .ok (.iload_n 1, 1) := by decide +kernel
theorem dX5_keepIfBetter_43 : decode cX5_keepIfBetter 43 = .ok (.if_icmp .ge 13, 3) := by decide +kernel
theorem dX5_keepIfBetter_46 : decode cX5_keepIfBetter 46 = .ok (.aload_n 0, 1) := by decide +kernel
theorem dX5_keepIfBetter_47 : decode cX5_keepIfBetter 47 = .ok (.getfield 19, 3) := by decide +kernel
theorem dX5_keepIfBetter_50 : decode cX5_keepIfBetter 50 = .ok (.iload 4, 2) := by decide +kernel
theorem dX5_keepIfBetter_52 : decode cX5_keepIfBetter 52 = .ok (.iaload, 1) := by decide +kernel
theorem dX5_keepIfBetter_53 : decode cX5_keepIfBetter 53 = .ok (.goto 4, 3) := by decide +kernel
theorem dX5_keepIfBetter_56 : decode cX5_keepIfBetter 56 = .ok (.iconst 0, 1) := by decide +kernel
theorem dX5_keepIfBetter_57 : decode cX5_keepIfBetter 57 = .ok (.iastore, 1) := by decide +kernel
theorem dX5_keepIfBetter_58 : decode cX5_keepIfBetter 58 = .ok (.iinc 4 1, 3) := by decide +kernel
theorem dX5_keepIfBetter_61 : decode cX5_keepIfBetter 61 = .ok (.goto (-34), 3) := by decide +kernel
theorem dX5_keepIfBetter_64 : decode cX5_keepIfBetter 64 = .ok (.return_, 1) := by decide +kernel
theorem dX5_spreadOf_0 : decode cX5_spreadOf 0 = .ok (.aload_n 1, 1) := by decide +kernel
theorem dX5_spreadOf_1 : decode cX5_spreadOf 1 = .ok (.iconst 0, 1) := by decide +kernel
theorem dX5_spreadOf_2 : decode cX5_spreadOf 2 = .ok (.iaload, 1) := by decide +kernel
theorem dX5_spreadOf_3 : decode cX5_spreadOf 3 = .ok (.istore_n 2, 1) := by decide +kernel
theorem dX5_spreadOf_4 : decode cX5_spreadOf 4 = .ok (.aload_n 1, 1) := by decide +kernel
theorem dX5_spreadOf_5 : decode cX5_spreadOf 5 = .ok (.iconst 0, 1) := by decide +kernel
theorem dX5_spreadOf_6 : decode cX5_spreadOf 6 = .ok (.iaload, 1) := by decide +kernel
theorem dX5_spreadOf_7 : decode cX5_spreadOf 7 = .ok (.istore_n 3, 1) := by decide +kernel
theorem dX5_spreadOf_8 : decode cX5_spreadOf 8 = .ok (.iconst 1, 1) := by decide +kernel
theorem dX5_spreadOf_9 : decode cX5_spreadOf 9 = .ok (.istore 4, 2) := by decide +kernel
theorem dX5_spreadOf_11 : decode cX5_spreadOf 11 = .ok (.iload 4, 2) := by decide +kernel
theorem dX5_spreadOf_13 : decode cX5_spreadOf 13 = .ok (.aload_n 0, 1) := by decide +kernel
theorem dX5_spreadOf_14 : decode cX5_spreadOf 14 = .ok (.getfield 26, 3) := by decide +kernel
theorem dX5_spreadOf_17 : decode cX5_spreadOf 17 = .ok (.if_icmp .ge 27, 3) := by decide +kernel
theorem dX5_spreadOf_20 : decode cX5_spreadOf 20 = .ok (.iload_n 2, 1) := by decide +kernel
theorem dX5_spreadOf_21 : decode cX5_spreadOf 21 = .ok (.aload_n 1, 1) := by decide +kernel
theorem dX5_spreadOf_22 : decode cX5_spreadOf 22 = .ok (.iload 4, 2) := by decide +kernel
theorem dX5_spreadOf_24 : decode cX5_spreadOf 24 = .ok (.iaload, 1) := by decide +kernel
theorem dX5_spreadOf_25 : decode cX5_spreadOf 25 = .ok (.invokestatic 62, 3) := by decide +kernel
theorem dX5_spreadOf_28 : decode cX5_spreadOf 28 = .ok (.istore_n 2, 1) := by decide +kernel
theorem dX5_spreadOf_29 : decode cX5_spreadOf 29 = .ok (.iload_n 3, 1) := by decide +kernel
theorem dX5_spreadOf_30 : decode cX5_spreadOf 30 = .ok (.aload_n 1, 1) := by decide +kernel
theorem dX5_spreadOf_31 : decode cX5_spreadOf 31 = .ok (.iload 4, 2) := by decide +kernel
theorem dX5_spreadOf_33 : decode cX5_spreadOf 33 = .ok (.iaload, 1) := by decide +kernel
theorem dX5_spreadOf_34 : decode cX5_spreadOf 34 = .ok (.invokestatic 68, 3) := by decide +kernel
theorem dX5_spreadOf_37 : decode cX5_spreadOf 37 = .ok (.istore_n 3, 1) := by decide +kernel
theorem dX5_spreadOf_38 : decode cX5_spreadOf 38 = .ok (.iinc 4 1, 3) := by decide +kernel
theorem dX5_spreadOf_41 : decode cX5_spreadOf 41 = .ok (.goto (-30), 3) := by decide +kernel
theorem dX5_spreadOf_44 : decode cX5_spreadOf 44 = .ok (.iload_n 3, 1) := by decide +kernel
theorem dX5_spreadOf_45 : decode cX5_spreadOf 45 = .ok (.iload_n 2, 1) := by decide +kernel
theorem dX5_spreadOf_46 : decode cX5_spreadOf 46 = .ok (.isub, 1) := by decide +kernel
theorem dX5_spreadOf_47 : decode cX5_spreadOf 47 = .ok (.ireturn, 1) := by decide +kernel
theorem dX6_init_0 : decode cX6_init 0 = .ok (.aload_n 0, 1) := by decide +kernel
theorem dX6_init_1 : decode cX6_init 1 = .ok (.invokespecial 3, 3) := by decide +kernel
theorem dX6_init_4 : decode cX6_init 4 = .ok (.aload_n 0, 1) := by decide +kernel
theorem dX6_init_5 : decode cX6_init 5 = .ok (.bipush 8, 2) := by decide +kernel
theorem dX6_init_7 : decode cX6_init 7 = .ok (.newarray .int, 2) := by decide +kernel
theorem dX6_init_9 : decode cX6_init 9 = .ok (.putfield 9, 3) := by decide +kernel
theorem dX6_init_12 : decode cX6_init 12 = .ok (.aload_n 0, 1) := by decide +kernel
theorem dX6_init_13 : decode cX6_init 13 = .ok (.bipush 8, 2) := by decide +kernel
theorem dX6_init_15 : decode cX6_init 15 = .ok (.newarray .int, 2) := by decide +kernel
theorem dX6_init_17 : decode cX6_init 17 = .ok (.putfield 15, 3) := by decide +kernel
theorem dX6_init_20 : decode cX6_init 20 = .ok (.aload_n 0, 1) := by decide +kernel
theorem dX6_init_21 : decode cX6_init 21 = .ok (.iconst 0, 1) := by decide +kernel
theorem dX6_init_22 : decode cX6_init 22 = .ok (.putfield 18, 3) := by decide +kernel
theorem dX6_init_25 : decode cX6_init 25 = .ok (.return_, 1) := by decide +kernel
theorem dX6_tellWarmth_0 : decode cX6_tellWarmth 0 = .ok (.aload_n 0, 1) := by decide +kernel
theorem dX6_tellWarmth_1 : decode cX6_tellWarmth 1 = .ok (.iload_n 1, 1) := by decide +kernel
theorem dX6_tellWarmth_2 : decode cX6_tellWarmth 2 = .ok (.invokevirtual 22, 3) := by decide +kernel
theorem dX6_tellWarmth_5 : decode cX6_tellWarmth 5 = .ok (.istore_n 3, 1) := by decide +kernel
theorem dX6_tellWarmth_6 : decode cX6_tellWarmth 6 = .ok (.iload_n 1, 1) := by decide +kernel
theorem dX6_tellWarmth_7 : decode cX6_tellWarmth 7 = .ok (.bipush 8, 2) := by decide +kernel
theorem dX6_tellWarmth_9 : decode cX6_tellWarmth 9 = .ok (.if_icmp .ne 11, 3) := by decide +kernel
theorem dX6_tellWarmth_12 : decode cX6_tellWarmth 12 = .ok (.aload_n 0, 1) := by decide +kernel
theorem dX6_tellWarmth_13 : decode cX6_tellWarmth 13 = .ok (.iload_n 2, 1) := by decide +kernel
theorem dX6_tellWarmth_14 : decode cX6_tellWarmth 14 = .ok (.putfield 18, 3) := by decide +kernel
theorem dX6_tellWarmth_17 : decode cX6_tellWarmth 17 = .ok (.goto 10, 3) := by decide +kernel
theorem dX6_tellWarmth_20 : decode cX6_tellWarmth 20 = .ok (.aload_n 0, 1) := by decide +kernel
theorem dX6_tellWarmth_21 : decode cX6_tellWarmth 21 = .ok (.getfield 9, 3) := by decide +kernel
theorem dX6_tellWarmth_24 : decode cX6_tellWarmth 24 = .ok (.iload_n 1, 1) := by decide +kernel
theorem dX6_tellWarmth_25 : decode cX6_tellWarmth 25 = .ok (.iload_n 2, 1) := by decide +kernel
theorem dX6_tellWarmth_26 : decode cX6_tellWarmth 26 = .ok (.iastore, 1) := by decide +kernel
theorem dX6_tellWarmth_27 : decode cX6_tellWarmth 27 = .ok (.iload_n 3, 1) := by decide +kernel
theorem dX6_tellWarmth_28 : decode cX6_tellWarmth 28 = .ok (.ireturn, 1) := by decide +kernel
theorem dX6_warmthOf_0 : decode cX6_warmthOf 0 = .ok (.iload_n 1, 1) := by decide +kernel
theorem dX6_warmthOf_1 : decode cX6_warmthOf 1 = .ok (.bipush 8, 2) := by decide +kernel
theorem dX6_warmthOf_3 : decode cX6_warmthOf 3 = .ok (.if_icmp .ne 10, 3) := by decide +kernel
theorem dX6_warmthOf_6 : decode cX6_warmthOf 6 = .ok (.aload_n 0, 1) := by decide +kernel
theorem dX6_warmthOf_7 : decode cX6_warmthOf 7 = .ok (.getfield 18, 3) := by decide +kernel
theorem dX6_warmthOf_10 : decode cX6_warmthOf 10 = .ok (.goto 9, 3) := by decide +kernel
theorem dX6_warmthOf_13 : decode cX6_warmthOf 13 = .ok (.aload_n 0, 1) := by decide +kernel
theorem dX6_warmthOf_14 : decode cX6_warmthOf 14 = .ok (.getfield 9, 3) := by decide +kernel
theorem dX6_warmthOf_17 : decode cX6_warmthOf 17 = .ok (.iload_n 1, 1) := by decide +kernel
theorem dX6_warmthOf_18 : decode cX6_warmthOf 18 = .ok (.iaload, 1) := by decide +kernel
theorem dX6_warmthOf_19 : decode cX6_warmthOf 19 = .ok (.ireturn, 1) := by decide +kernel
theorem dX6_letGoBy_0 : decode cX6_letGoBy 0 = .ok (.iconst 1, 1) := by decide +kernel
theorem dX6_letGoBy_1 : decode cX6_letGoBy 1 = .ok (.istore_n 2, 1) := by decide +kernel
theorem dX6_letGoBy_2 : decode cX6_letGoBy 2 = .ok (.iconst 0, 1) := by decide +kernel
theorem dX6_letGoBy_3 : decode cX6_letGoBy 3 = .ok (.istore_n 3, 1) := by decide +kernel
theorem dX6_letGoBy_4 : decode cX6_letGoBy 4 = .ok (.iload_n 3, 1) := by decide +kernel
theorem dX6_letGoBy_5 : decode cX6_letGoBy 5 = .ok (.iload_n 1, 1) := by decide +kernel
theorem dX6_letGoBy_6 : decode cX6_letGoBy 6 = .ok (.if_icmp .ge 22, 3) := by decide +kernel
theorem dX6_letGoBy_9 : decode cX6_letGoBy 9 = .ok (.iload_n 2, 1) := by decide +kernel
theorem dX6_letGoBy_10 : decode cX6_letGoBy 10 = .ok (.ifCond .eq 18, 3) := by decide +kernel
theorem dX6_letGoBy_13 : decode cX6_letGoBy 13 = .ok (.aload_n 0, 1) := by decide +kernel
theorem dX6_letGoBy_14 : decode cX6_letGoBy 14 = .ok (.aload_n 0, 1) := by decide +kernel
theorem dX6_letGoBy_15 : decode cX6_letGoBy 15 = .ok (.getfield 9, 3) := by decide +kernel
theorem dX6_letGoBy_18 : decode cX6_letGoBy 18 = .ok (.invokevirtual 26, 3) := by decide +kernel
theorem dX6_letGoBy_21 : decode cX6_letGoBy 21 = .ok (.istore_n 2, 1) := by decide +kernel
theorem dX6_letGoBy_22 : decode cX6_letGoBy 22 = .ok (.iinc 3 1, 3) := by decide +kernel
theorem dX6_letGoBy_25 : decode cX6_letGoBy 25 = .ok (.goto (-21), 3) := by decide +kernel
theorem dX6_letGoBy_28 : decode cX6_letGoBy 28 = .ok (.aload_n 0, 1) := by decide +kernel
theorem dX6_letGoBy_29 : decode cX6_letGoBy 29 = .ok (.getfield 9, 3) := by decide +kernel
theorem dX6_letGoBy_32 : decode cX6_letGoBy 32 = .ok (.aload_n 0, 1) := by decide +kernel
theorem dX6_letGoBy_33 : decode cX6_letGoBy 33 = .ok (.getfield 9, 3) := by decide +kernel
theorem dX6_letGoBy_36 : decode cX6_letGoBy 36 = .ok (.iconst 0, 1) := by decide +kernel
theorem dX6_letGoBy_37 : decode cX6_letGoBy 37 = .ok (.iaload, 1) := by decide +kernel
theorem dX6_letGoBy_38 : decode cX6_letGoBy 38 = .ok (.invokestatic 30, 3) := by decide +kernel
theorem dX6_letGoBy_41 : decode cX6_letGoBy 41 = .ok (.aload_n 0, 1) := by decide +kernel
theorem dX6_letGoBy_42 : decode cX6_letGoBy 42 = .ok (.getfield 9, 3) := by decide +kernel
theorem dX6_letGoBy_45 : decode cX6_letGoBy 45 = .ok (.aload_n 0, 1) := by decide +kernel
theorem dX6_letGoBy_46 : decode cX6_letGoBy 46 = .ok (.getfield 9, 3) := by decide +kernel
theorem dX6_letGoBy_49 : decode cX6_letGoBy 49 = .ok (.iconst 0, 1) := by decide +kernel
theorem dX6_letGoBy_50 : decode cX6_letGoBy 50 = .ok (.iaload, 1) := by decide +kernel
theorem dX6_letGoBy_51 : decode cX6_letGoBy 51 = .ok (.invokestatic 34, 3) := by decide +kernel
theorem dX6_letGoBy_54 : decode cX6_letGoBy 54 = .ok (.isub, 1) := by decide +kernel
theorem dX6_letGoBy_55 : decode cX6_letGoBy 55 = .ok (.ireturn, 1) := by decide +kernel
theorem dX6_minutesTillStill_0 : decode cX6_minutesTillStill 0 = .ok (.aload_n 0, 1) := by decide +kernel
theorem dX6_minutesTillStill_1 : decode cX6_minutesTillStill 1 = .ok (.getfield 9, 3) := by decide +kernel
theorem dX6_minutesTillStill_4 : decode cX6_minutesTillStill 4 = .ok (.iconst 0, 1) := by decide +kernel
theorem dX6_minutesTillStill_5 : decode cX6_minutesTillStill 5 = .ok (.aload_n 0, 1) := by decide +kernel
theorem dX6_minutesTillStill_6 : decode cX6_minutesTillStill 6 = .ok (.getfield 15, 3) := by decide +kernel
theorem dX6_minutesTillStill_9 : decode cX6_minutesTillStill 9 = .ok (.iconst 0, 1) := by decide +kernel
theorem dX6_minutesTillStill_10 : decode cX6_minutesTillStill 10 = .ok (.bipush 8, 2) := by decide +kernel
theorem dX6_minutesTillStill_12 : decode cX6_minutesTillStill 12 = .ok (.invokestatic 37, 3) := by decide +kernel
theorem dX6_minutesTillStill_15 : decode cX6_minutesTillStill 15 = .ok (.iconst 1, 1) := by decide +kernel
theorem dX6_minutesTillStill_16 : decode cX6_minutesTillStill 16 = .ok (.istore_n 2, 1) := by decide +kernel
theorem dX6_minutesTillStill_17 : decode cX6_minutesTillStill 17 = .ok (.iconst 0, 1) := by decide +kernel
theorem dX6_minutesTillStill_18 : decode cX6_minutesTillStill 18 = .ok (.istore_n 3, 1) := by decide +kernel
theorem dX6_minutesTillStill_19 : decode cX6_minutesTillStill 19 = .ok (.iload_n 3, 1) := by decide +kernel
theorem dX6_minutesTillStill_20 : decode cX6_minutesTillStill 20 = .ok (.sipush 2000, 3) := by decide +kernel
theorem dX6_minutesTillStill_23 : decode cX6_minutesTillStill 23 = .ok (.if_icmp .gt 51, 3) := by decide +kernel
theorem dX6_minutesTillStill_26 : decode cX6_minutesTillStill 26 = .ok (.iload_n 2, 1) := by decide +kernel
theorem dX6_minutesTillStill_27 : decode cX6_minutesTillStill 27 = .ok (.ifCond .eq 47, 3) := by decide +kernel
theorem dX6_minutesTillStill_30 : decode cX6_minutesTillStill 30 = .ok (.aload_n 0, 1) := by decide +kernel
theorem dX6_minutesTillStill_31 : decode cX6_minutesTillStill 31 = .ok (.getfield 15, 3) := by decide +kernel
theorem dX6_minutesTillStill_34 : decode cX6_minutesTillStill 34 = .ok (.aload_n 0, 1) := by decide +kernel
theorem dX6_minutesTillStill_35 : decode cX6_minutesTillStill 35 = .ok (.getfield 18, 3) := by decide +kernel
theorem dX6_minutesTillStill_38 : decode cX6_minutesTillStill 38 = .ok (.invokestatic 30, 3) := by decide +kernel
theorem dX6_minutesTillStill_41 : decode cX6_minutesTillStill 41 = .ok (.aload_n 0, 1) := by decide +kernel
theorem dX6_minutesTillStill_42 : decode cX6_minutesTillStill 42 = .ok (.getfield 15, 3) := by decide +kernel
theorem dX6_minutesTillStill_45 : decode cX6_minutesTillStill 45 = .ok (.aload_n 0, 1) := by decide +kernel
theorem dX6_minutesTillStill_46 : decode cX6_minutesTillStill 46 = .ok (.getfield 18, 3) := by decide +kernel
theorem dX6_minutesTillStill_49 : decode cX6_minutesTillStill 49 = .ok (.invokestatic 34, 3) := by decide +kernel
theorem dX6_minutesTillStill_52 : decode cX6_minutesTillStill 52 = .ok (.isub, 1) := by decide +kernel
theorem dX6_minutesTillStill_53 : decode cX6_minutesTillStill 53 = .ok (.iload_n 1, 1) := by decide +kernel
theorem dX6_minutesTillStill_54 : decode cX6_minutesTillStill 54 = .ok (.if_icmp .gt 5, 3) := by decide +kernel
theorem dX6_minutesTillStill_57 : decode cX6_minutesTillStill 57 = .ok (.iload_n 3, 1) := by decide +kernel
theorem dX6_minutesTillStill_58 : decode cX6_minutesTillStill 58 = .ok (.ireturn, 1) := by decide +kernel
theorem dX6_minutesTillStill_59 : decode cX6_minutesTillStill 59 = .ok (.aload_n 0, 1) := by decide +kernel
theorem dX6_minutesTillStill_60 : decode cX6_minutesTillStill 60 = .ok (.aload_n 0, 1) := by decide +kernel
theorem dX6_minutesTillStill_61 : decode cX6_minutesTillStill 61 = .ok (.getfield 15, 3) := by decide +kernel
theorem dX6_minutesTillStill_64 : decode cX6_minutesTillStill 64 = .ok (.invokevirtual 26, 3) := by decide +kernel
theorem dX6_minutesTillStill_67 : decode cX6_minutesTillStill 67 = .ok (.istore_n 2, 1) := by decide +kernel
theorem dX6_minutesTillStill_68 : decode cX6_minutesTillStill 68 = .ok (.iinc 3 1, 3) := by decide +kernel
theorem dX6_minutesTillStill_71 : decode cX6_minutesTillStill 71 = .ok (.goto (-52), 3) := by decide +kernel
theorem dX6_minutesTillStill_74 : decode cX6_minutesTillStill 74 = .ok (.bipush (-4), 2) := by decide +kernel
theorem dX6_minutesTillStill_76 : decode cX6_minutesTillStill 76 = .ok (.ireturn, 1) := by decide +kernel
theorem dX6_goOneMinute_0 : decode cX6_goOneMinute 0 = .ok (.iconst 0, 1) := by decide +kernel
theorem dX6_goOneMinute_1 : decode cX6_goOneMinute 1 = .ok (.istore_n 2, 1) := by decide +kernel
theorem dX6_goOneMinute_2 : decode cX6_goOneMinute 2 = .ok (.aload_n 0, 1) := by decide +kernel
theorem dX6_goOneMinute_3 : decode cX6_goOneMinute 3 = .ok (.getfield 18, 3) := by decide +kernel
theorem dX6_goOneMinute_6 : decode cX6_goOneMinute 6 = .ok (.istore_n 3, 1) := by decide +kernel
theorem dX6_goOneMinute_7 : decode cX6_goOneMinute 7 = .ok (.iconst 0, 1) := by decide +kernel
theorem dX6_goOneMinute_8 : decode cX6_goOneMinute 8 = .ok (.istore 4, 2) := by decide +kernel
theorem dX6_goOneMinute_10 : decode cX6_goOneMinute 10 = .ok (.iload 4, 2) := by decide +kernel
theorem dX6_goOneMinute_12 : decode cX6_goOneMinute 12 = .ok (.bipush 8, 2) := by decide +kernel
theorem dX6_goOneMinute_14 : decode cX6_goOneMinute 14 = .ok (.if_icmp .ge 81, 3) := by decide +kernel
theorem dX6_goOneMinute_17 : decode cX6_goOneMinute 17 = .ok (.aload_n 1, 1) := by decide +kernel
theorem dX6_goOneMinute_18 : decode cX6_goOneMinute 18 = .ok (.iload 4, 2) := by decide +kernel
theorem dX6_goOneMinute_20 : decode cX6_goOneMinute 20 = .ok (.iaload, 1) := by decide +kernel
theorem dX6_goOneMinute_21 : decode cX6_goOneMinute 21 = .ok (.istore 5, 2) := by decide +kernel
theorem dX6_goOneMinute_23 : decode cX6_goOneMinute 23 = .ok (.iload 4, 2) := by decide +kernel
theorem dX6_goOneMinute_25 : decode cX6_goOneMinute 25 = .ok (.iconst 1, 1) := by decide +kernel
theorem dX6_goOneMinute_26 : decode cX6_goOneMinute 26 = .ok (.iadd, 1) := by decide +kernel
theorem dX6_goOneMinute_27 : decode cX6_goOneMinute 27 = .ok (.bipush 8, 2) := by decide +kernel
theorem dX6_goOneMinute_29 : decode cX6_goOneMinute 29 = .ok (.if_icmp .ge 12, 3) := by decide +kernel
theorem dX6_goOneMinute_32 : decode cX6_goOneMinute 32 = .ok (.aload_n 1, 1) := by decide +kernel
theorem dX6_goOneMinute_33 : decode cX6_goOneMinute 33 = .ok (.iload 4, 2) := by decide +kernel
theorem dX6_goOneMinute_35 : decode cX6_goOneMinute 35 = .ok (.iconst 1, 1) := by decide +kernel
theorem dX6_goOneMinute_36 : decode cX6_goOneMinute 36 = .ok (.iadd, 1) := by decide +kernel
theorem dX6_goOneMinute_37 : decode cX6_goOneMinute 37 = .ok (.iaload, 1) := by decide +kernel
theorem dX6_goOneMinute_38 : decode cX6_goOneMinute 38 = .ok (.goto 7, 3) := by decide +kernel
theorem dX6_goOneMinute_41 : decode cX6_goOneMinute 41 = .ok (.aload_n 0, 1) := by decide +kernel
theorem dX6_goOneMinute_42 : decode cX6_goOneMinute 42 = .ok (.getfield 18, 3) := by decide +kernel
theorem dX6_goOneMinute_45 : decode cX6_goOneMinute 45 = .ok (.istore 6, 2) := by decide +kernel
theorem dX6_goOneMinute_47 : decode cX6_goOneMinute 47 = .ok (.iload_n 3, 1) := by decide +kernel
theorem dX6_goOneMinute_48 : decode cX6_goOneMinute 48 = .ok (.iload 6, 2) := by decide +kernel
theorem dX6_goOneMinute_50 : decode cX6_goOneMinute 50 = .ok (.iadd, 1) := by decide +kernel
theorem dX6_goOneMinute_51 : decode cX6_goOneMinute 51 = .ok (.iconst 2, 1) := by decide +kernel
theorem dX6_goOneMinute_52 : decode cX6_goOneMinute 52 = .ok (.iload 5, 2) := by decide +kernel
theorem dX6_goOneMinute_54 : decode cX6_goOneMinute 54 = .ok (.imul, 1) := by decide +kernel
theorem dX6_goOneMinute_55 : decode cX6_goOneMinute 55 = .ok (.isub, 1) := by decide +kernel
theorem dX6_goOneMinute_56 : decode cX6_goOneMinute 56 = .ok (.iconst 4, 1) := by decide +kernel
theorem dX6_goOneMinute_57 : decode cX6_goOneMinute 57 = .ok (.invokestatic 43, 3) := by decide +kernel
theorem dX6_goOneMinute_60 : decode cX6_goOneMinute 60 = .ok (.istore 7, 2) := by decide +kernel
theorem dX6_goOneMinute_62 : decode cX6_goOneMinute 62 = .ok (.aload_n 1, 1) := by decide +kernel
theorem dX6_goOneMinute_63 : decode cX6_goOneMinute 63 = .ok (.iload 4, 2) := by decide +kernel
theorem dX6_goOneMinute_65 : decode cX6_goOneMinute 65 = .ok (.iload 5, 2) := by decide +kernel
theorem dX6_goOneMinute_67 : decode cX6_goOneMinute 67 = .ok (.iload 7, 2) := by decide +kernel
theorem dX6_goOneMinute_69 : decode cX6_goOneMinute 69 = .ok (.iadd, 1) := by decide +kernel
theorem dX6_goOneMinute_70 : decode cX6_goOneMinute 70 = .ok (.iastore, 1) := by decide +kernel
theorem dX6_goOneMinute_71 : decode cX6_goOneMinute 71 = .ok (.iload_n 2, 1) := by decide +kernel
theorem dX6_goOneMinute_72 : decode cX6_goOneMinute 72 = .ok (.ifCond .ne 8, 3) := by decide +kernel
theorem dX6_goOneMinute_75 : decode cX6_goOneMinute 75 = .ok (.iload 7, 2) := by decide +kernel
theorem dX6_goOneMinute_77 : decode cX6_goOneMinute 77 = .ok (.ifCond .eq 7, 3) := by decide +kernel
theorem dX6_goOneMinute_80 : decode cX6_goOneMinute 80 = .ok (.iconst 1, 1) := by decide +kernel
theorem dX6_goOneMinute_81 : decode cX6_goOneMinute 81 = .ok (.goto 4, 3) := by decide +kernel
theorem dX6_goOneMinute_84 : decode cX6_goOneMinute 84 = .ok (.iconst 0, 1) := by decide +kernel
theorem dX6_goOneMinute_85 : decode cX6_goOneMinute 85 = .ok (.istore_n 2, 1) := by decide +kernel
theorem dX6_goOneMinute_86 : decode cX6_goOneMinute 86 = .ok (.iload 5, 2) := by decide +kernel
theorem dX6_goOneMinute_88 : decode cX6_goOneMinute 88 = .ok (.istore_n 3, 1) := by decide +kernel
theorem dX6_goOneMinute_89 : decode cX6_goOneMinute 89 = .ok (.iinc 4 1, 3) := by decide +kernel
theorem dX6_goOneMinute_92 : decode cX6_goOneMinute 92 = .ok (.goto (-82), 3) := by decide +kernel
theorem dX6_goOneMinute_95 : decode cX6_goOneMinute 95 = .ok (.iload_n 2, 1) := by decide +kernel
theorem dX6_goOneMinute_96 : decode cX6_goOneMinute 96 = .ok (.ireturn, 1) := by decide +kernel
theorem dX6_greatest_0 : decode cX6_greatest 0 = .ok (.iload_n 1, 1) := by decide +kernel
theorem dX6_greatest_1 : decode cX6_greatest 1 = .ok (.istore_n 2, 1) := by decide +kernel
theorem dX6_greatest_2 : decode cX6_greatest 2 = .ok (.aload_n 0, 1) := by decide +kernel
theorem dX6_greatest_3 : decode cX6_greatest 3 = .ok (.astore_n 3, 1) := by decide +kernel
theorem dX6_greatest_4 : decode cX6_greatest 4 = .ok (.aload_n 3, 1) := by decide +kernel
theorem dX6_greatest_5 : decode cX6_greatest 5 = .ok (.arraylength, 1) := by decide +kernel
theorem dX6_greatest_6 : decode cX6_greatest 6 = .ok (.istore 4, 2) := by decide +kernel
theorem dX6_greatest_8 : decode cX6_greatest 8 = .ok (.iconst 0, 1) := by decide +kernel
theorem dX6_greatest_9 : decode cX6_greatest 9 = .ok (.istore 5, 2) := by decide +kernel
theorem dX6_greatest_11 : decode cX6_greatest 11 = .ok (.iload 5, 2) := by decide +kernel
theorem dX6_greatest_13 : decode cX6_greatest 13 = .ok (.iload 4, 2) := by decide +kernel
theorem dX6_greatest_15 : decode cX6_greatest 15 = .ok (.if_icmp .ge 22, 3) := by decide +kernel
theorem dX6_greatest_18 : decode cX6_greatest 18 = .ok (.aload_n 3, 1) := by decide +kernel
theorem dX6_greatest_19 : decode cX6_greatest 19 = .ok (.iload 5, 2) := by decide +kernel
theorem dX6_greatest_21 : decode cX6_greatest 21 = .ok (.iaload, 1) := by decide +kernel
theorem dX6_greatest_22 : decode cX6_greatest 22 = .ok (.istore 6, 2) := by decide +kernel
theorem dX6_greatest_24 : decode cX6_greatest 24 = .ok (.iload_n 2, 1) := by decide +kernel
theorem dX6_greatest_25 : decode cX6_greatest 25 = .ok (.iload 6, 2) := by decide +kernel
theorem dX6_greatest_27 : decode cX6_greatest 27 = .ok (.invokestatic 49, 3) := by decide +kernel
theorem dX6_greatest_30 : decode cX6_greatest 30 = .ok (.istore_n 2, 1) := by decide +kernel
theorem dX6_greatest_31 : decode cX6_greatest 31 = .ok (.iinc 5 1, 3) := by decide +kernel
theorem dX6_greatest_34 : decode cX6_greatest 34 = .ok (.goto (-23), 3) := by decide +kernel
theorem dX6_greatest_37 : decode cX6_greatest 37 = .ok (.iload_n 2, 1) := by decide +kernel
theorem dX6_greatest_38 : decode cX6_greatest 38 = .ok (.ireturn, 1) := by decide +kernel
theorem dX6_least_0 : decode cX6_least 0 = .ok (.iload_n 1, 1) := by decide +kernel
theorem dX6_least_1 : decode cX6_least 1 = .ok (.istore_n 2, 1) := by decide +kernel
theorem dX6_least_2 : decode cX6_least 2 = .ok (.aload_n 0, 1) := by decide +kernel
theorem dX6_least_3 : decode cX6_least 3 = .ok (.astore_n 3, 1) := by decide +kernel
theorem dX6_least_4 : decode cX6_least 4 = .ok (.aload_n 3, 1) := by decide +kernel
theorem dX6_least_5 : decode cX6_least 5 = .ok (.arraylength, 1) := by decide +kernel
theorem dX6_least_6 : decode cX6_least 6 = .ok (.istore 4, 2) := by decide +kernel
theorem dX6_least_8 : decode cX6_least 8 = .ok (.iconst 0, 1) := by decide +kernel
theorem dX6_least_9 : decode cX6_least 9 = .ok (.istore 5, 2) := by decide +kernel
theorem dX6_least_11 : decode cX6_least 11 = .ok (.iload 5, 2) := by decide +kernel
theorem dX6_least_13 : decode cX6_least 13 = .ok (.iload 4, 2) := by decide +kernel
theorem dX6_least_15 : decode cX6_least 15 = .ok (.if_icmp .ge 22, 3) := by decide +kernel
theorem dX6_least_18 : decode cX6_least 18 = .ok (.aload_n 3, 1) := by decide +kernel
theorem dX6_least_19 : decode cX6_least 19 = .ok (.iload 5, 2) := by decide +kernel
theorem dX6_least_21 : decode cX6_least 21 = .ok (.iaload, 1) := by decide +kernel
theorem dX6_least_22 : decode cX6_least 22 = .ok (.istore 6, 2) := by decide +kernel
theorem dX6_least_24 : decode cX6_least 24 = .ok (.iload_n 2, 1) := by decide +kernel
theorem dX6_least_25 : decode cX6_least 25 = .ok (.iload 6, 2) := by decide +kernel
theorem dX6_least_27 : decode cX6_least 27 = .ok (.invokestatic 52, 3) := by decide +kernel
theorem dX6_least_30 : decode cX6_least 30 = .ok (.istore_n 2, 1) := by decide +kernel
theorem dX6_least_31 : decode cX6_least 31 = .ok (.iinc 5 1, 3) := by decide +kernel
theorem dX6_least_34 : decode cX6_least 34 = .ok (.goto (-23), 3) := by decide +kernel
theorem dX6_least_37 : decode cX6_least 37 = .ok (.iload_n 2, 1) := by decide +kernel
theorem dX6_least_38 : decode cX6_least 38 = .ok (.ireturn, 1) := by decide +kernel
theorem dX7_init_0 : decode cX7_init 0 = .ok (.aload_n 0, 1) := by decide +kernel
theorem dX7_init_1 : decode cX7_init 1 = .ok (.invokespecial 3, 3) := by decide +kernel
theorem dX7_init_4 : decode cX7_init 4 = .ok (.aload_n 0, 1) := by decide +kernel
theorem dX7_init_5 : decode cX7_init 5 = .ok (.bipush 12, 2) := by decide +kernel
theorem dX7_init_7 : decode cX7_init 7 = .ok (.newarray .int, 2) := by decide +kernel
theorem dX7_init_9 : decode cX7_init 9 = .ok (.putfield 9, 3) := by decide +kernel
theorem dX7_init_12 : decode cX7_init 12 = .ok (.aload_n 0, 1) := by decide +kernel
theorem dX7_init_13 : decode cX7_init 13 = .ok (.bipush 12, 2) := by decide +kernel
theorem dX7_init_15 : decode cX7_init 15 = .ok (.newarray .int, 2) := by decide +kernel
theorem dX7_init_17 : decode cX7_init 17 = .ok (.putfield 15, 3) := by decide +kernel
theorem dX7_init_20 : decode cX7_init 20 = .ok (.aload_n 0, 1) := by decide +kernel
theorem dX7_init_21 : decode cX7_init 21 = .ok (.bipush 12, 2) := by decide +kernel
theorem dX7_init_23 : decode cX7_init 23 = .ok (.newarray .int, 2) := by decide +kernel
theorem dX7_init_25 : decode cX7_init 25 = .ok (.putfield 18, 3) := by decide +kernel
theorem dX7_init_28 : decode cX7_init 28 = .ok (.aload_n 0, 1) := by decide +kernel
theorem dX7_init_29 : decode cX7_init 29 = .ok (.iconst 0, 1) := by decide +kernel
theorem dX7_init_30 : decode cX7_init 30 = .ok (.putfield 21, 3) := by decide +kernel
theorem dX7_init_33 : decode cX7_init 33 = .ok (.aload_n 0, 1) := by decide +kernel
theorem dX7_init_34 : decode cX7_init 34 = .ok (.aload_n 1, 1) := by decide +kernel
theorem dX7_init_35 : decode cX7_init 35 = .ok (.putfield 25, 3) := by decide +kernel
theorem dX7_init_38 : decode cX7_init 38 = .ok (.return_, 1) := by decide +kernel
theorem dX7_begin_0 : decode cX7_begin 0 = .ok (.aload_n 0, 1) := by decide +kernel
theorem dX7_begin_1 : decode cX7_begin 1 = .ok (.iconst 0, 1) := by decide +kernel
theorem dX7_begin_2 : decode cX7_begin 2 = .ok (.putfield 21, 3) := by decide +kernel
theorem dX7_begin_5 : decode cX7_begin 5 = .ok (.return_, 1) := by decide +kernel
theorem dX7_howMany_0 : decode cX7_howMany 0 = .ok (.aload_n 0, 1) := by decide +kernel
theorem dX7_howMany_1 : decode cX7_howMany 1 = .ok (.getfield 21, 3) := by decide +kernel
theorem dX7_howMany_4 : decode cX7_howMany 4 = .ok (.ireturn, 1) := by decide +kernel
theorem dX7_hold_0 : decode cX7_hold 0 = .ok (.aload_n 0, 1) := by decide +kernel
theorem dX7_hold_1 : decode cX7_hold 1 = .ok (.getfield 21, 3) := by decide +kernel
theorem dX7_hold_4 : decode cX7_hold 4 = .ok (.bipush 12, 2) := by decide +kernel
theorem dX7_hold_6 : decode cX7_hold 6 = .ok (.if_icmp .ge 43, 3) := by decide +kernel
theorem dX7_hold_9 : decode cX7_hold 9 = .ok (.aload_n 0, 1) := by decide +kernel
theorem dX7_hold_10 : decode cX7_hold 10 = .ok (.getfield 9, 3) := by decide +kernel
theorem dX7_hold_13 : decode cX7_hold 13 = .ok (.aload_n 0, 1) := by decide +kernel
theorem dX7_hold_14 : decode cX7_hold 14 = .ok (.getfield 21, 3) := by decide +kernel
theorem dX7_hold_17 : decode cX7_hold 17 = .ok (.iload_n 1, 1) := by decide +kernel
theorem dX7_hold_18 : decode cX7_hold 18 = .ok (.iastore, 1) := by decide +kernel
theorem dX7_hold_19 : decode cX7_hold 19 = .ok (.aload_n 0, 1) := by decide +kernel
theorem dX7_hold_20 : decode cX7_hold 20 = .ok (.getfield 15, 3) := by decide +kernel
theorem dX7_hold_23 : decode cX7_hold 23 = .ok (.aload_n 0, 1) := by decide +kernel
theorem dX7_hold_24 : decode cX7_hold 24 = .ok (.getfield 21, 3) := by decide +kernel
theorem dX7_hold_27 : decode cX7_hold 27 = .ok (.iload_n 2, 1) := by decide +kernel
theorem dX7_hold_28 : decode cX7_hold 28 = .ok (.iastore, 1) := by decide +kernel
theorem dX7_hold_29 : decode cX7_hold 29 = .ok (.aload_n 0, 1) := by decide +kernel
theorem dX7_hold_30 : decode cX7_hold 30 = .ok (.getfield 18, 3) := by decide +kernel
theorem dX7_hold_33 : decode cX7_hold 33 = .ok (.aload_n 0, 1) := by decide +kernel
theorem dX7_hold_34 : decode cX7_hold 34 = .ok (.getfield 21, 3) := by decide +kernel
theorem dX7_hold_37 : decode cX7_hold 37 = .ok (.iload_n 3, 1) := by decide +kernel
theorem dX7_hold_38 : decode cX7_hold 38 = .ok (.iastore, 1) := by decide +kernel
theorem dX7_hold_39 : decode cX7_hold 39 = .ok (.aload_n 0, 1) := by decide +kernel
theorem dX7_hold_40 : decode cX7_hold 40 = .ok (.dup, 1) := by decide +kernel
theorem dX7_hold_41 : decode cX7_hold 41 = .ok (.getfield 21, 3) := by decide +kernel
theorem dX7_hold_44 : decode cX7_hold 44 = .ok (.iconst 1, 1) := by decide +kernel
theorem dX7_hold_45 : decode cX7_hold 45 = .ok (.iadd, 1) := by decide +kernel
theorem dX7_hold_46 : decode cX7_hold 46 = .ok (.putfield 21, 3) := by decide +kernel
theorem dX7_hold_49 : decode cX7_hold 49 = .ok (.aload_n 0, 1) := by decide +kernel
theorem dX7_hold_50 : decode cX7_hold 50 = .ok (.getfield 21, 3) := by decide +kernel
theorem dX7_hold_53 : decode cX7_hold 53 = .ok (.ireturn, 1) := by decide +kernel
theorem dX7_howManyOf_0 : decode cX7_howManyOf 0 = .ok (.iconst 0, 1) := by decide +kernel
theorem dX7_howManyOf_1 : decode cX7_howManyOf 1 = .ok (.istore_n 2, 1) := by decide +kernel
theorem dX7_howManyOf_2 : decode cX7_howManyOf 2 = .ok (.iconst 0, 1) := by decide +kernel
theorem dX7_howManyOf_3 : decode cX7_howManyOf 3 = .ok (.istore_n 3, 1) := by decide +kernel
theorem dX7_howManyOf_4 : decode cX7_howManyOf 4 = .ok (.iload_n 3, 1) := by decide +kernel
theorem dX7_howManyOf_5 : decode cX7_howManyOf 5 = .ok (.aload_n 0, 1) := by decide +kernel
theorem dX7_howManyOf_6 : decode cX7_howManyOf 6 = .ok (.getfield 21, 3) := by decide +kernel
theorem dX7_howManyOf_9 : decode cX7_howManyOf 9 = .ok (.if_icmp .ge 84, 3) := by decide +kernel
theorem dX7_howManyOf_12 : decode cX7_howManyOf 12 = .ok (.aload_n 0, 1) := by decide +kernel
theorem dX7_howManyOf_13 : decode cX7_howManyOf 13 = .ok (.iload_n 3, 1) := by decide +kernel
theorem dX7_howManyOf_14 : decode cX7_howManyOf 14 = .ok (.invokevirtual 29, 3) := by decide +kernel
theorem dX7_howManyOf_17 : decode cX7_howManyOf 17 = .ok (.istore 4, 2) := by decide +kernel
theorem dX7_howManyOf_19 : decode cX7_howManyOf 19 = .ok (.iload 4, 2) := by decide +kernel
theorem dX7_howManyOf_21 : decode cX7_howManyOf 21 = .ok (.invokestatic 33, 3) := by decide +kernel
theorem dX7_howManyOf_24 : decode cX7_howManyOf 24 = .ok (.aload_n 0, 1) := by decide +kernel
theorem dX7_howManyOf_25 : decode cX7_howManyOf 25 = .ok (.getfield 25, 3) := by decide +kernel
theorem dX7_howManyOf_28 : decode cX7_howManyOf 28 = .ok (.invokevirtual 38, 3) := by decide +kernel
theorem dX7_howManyOf_31 : decode cX7_howManyOf 31 = .ok (.aload_n 0, 1) := by decide +kernel
theorem dX7_howManyOf_32 : decode cX7_howManyOf 32 = .ok (.getfield 15, 3) := by decide +kernel
theorem dX7_howManyOf_35 : decode cX7_howManyOf 35 = .ok (.iload_n 3, 1) := by decide +kernel
theorem dX7_howManyOf_36 : decode cX7_howManyOf 36 = .ok (.iaload, 1) := by decide +kernel
theorem dX7_howManyOf_37 : decode cX7_howManyOf 37 = .ok (.aload_n 0, 1) := by decide +kernel
theorem dX7_howManyOf_38 : decode cX7_howManyOf 38 = .ok (.getfield 9, 3) := by decide +kernel
theorem dX7_howManyOf_41 : decode cX7_howManyOf 41 = .ok (.iload_n 3, 1) := by decide +kernel
theorem dX7_howManyOf_42 : decode cX7_howManyOf 42 = .ok (.iaload, 1) := by decide +kernel
theorem dX7_howManyOf_43 : decode cX7_howManyOf 43 = .ok (.isub, 1) := by decide +kernel
theorem dX7_howManyOf_44 : decode cX7_howManyOf 44 = .ok (.imul, 1) := by decide +kernel
theorem dX7_howManyOf_45 : decode cX7_howManyOf 45 = .ok (.if_icmp .gt 7, 3) := by decide +kernel
theorem dX7_howManyOf_48 : decode cX7_howManyOf 48 = .ok (.iconst 1, 1) := by decide +kernel
theorem dX7_howManyOf_49 : decode cX7_howManyOf 49 = .ok (.goto 4, 3) := by decide +kernel
theorem dX7_howManyOf_52 : decode cX7_howManyOf 52 = .ok (.iconst 0, 1) := by decide +kernel
theorem dX7_howManyOf_53 : decode cX7_howManyOf 53 = .ok (.istore 5, 2) := by decide +kernel
theorem dX7_howManyOf_55 : decode cX7_howManyOf 55 = .ok (.iload 4, 2) := by decide +kernel
theorem dX7_howManyOf_57 : decode cX7_howManyOf 57 = .ok (.ldc 44, 2) := by decide +kernel
theorem dX7_howManyOf_59 : decode cX7_howManyOf 59 = .ok (.if_icmp .ne 7, 3) := by decide +kernel
theorem dX7_howManyOf_62 : decode cX7_howManyOf 62 = .ok (.iconst 2, 1) := by decide +kernel
theorem dX7_howManyOf_63 : decode cX7_howManyOf 63 = .ok (.goto 13, 3) := by decide +kernel
theorem dX7_howManyOf_66 : decode cX7_howManyOf 66 = .ok (.iload 5, 2) := by decide +kernel
theorem dX7_howManyOf_68 : decode cX7_howManyOf 68 = .ok (.ifCond .eq 7, 3) := by decide +kernel
theorem dX7_howManyOf_71 : decode cX7_howManyOf 71 = .ok (.iconst 0, 1) := by decide +kernel
theorem dX7_howManyOf_72 : decode cX7_howManyOf 72 = .ok (.goto 4, 3) := by decide +kernel
theorem dX7_howManyOf_75 : decode cX7_howManyOf 75 = .ok (.iconst 1, 1) := by decide +kernel
theorem dX7_howManyOf_76 : decode cX7_howManyOf 76 = .ok (.istore 6, 2) := by decide +kernel
theorem dX7_howManyOf_78 : decode cX7_howManyOf 78 = .ok (.iload 6, 2) := by decide +kernel
theorem dX7_howManyOf_80 : decode cX7_howManyOf 80 = .ok (.iload_n 1, 1) := by decide +kernel
theorem dX7_howManyOf_81 : decode cX7_howManyOf 81 = .ok (.if_icmp .ne 6, 3) := by decide +kernel
theorem dX7_howManyOf_84 : decode cX7_howManyOf 84 = .ok (.iinc 2 1, 3) := by decide +kernel
theorem dX7_howManyOf_87 : decode cX7_howManyOf 87 = .ok (.iinc 3 1, 3) := by decide +kernel
theorem dX7_howManyOf_90 : decode cX7_howManyOf 90 = .ok (.goto (-86), 3) := by decide +kernel
theorem dX7_howManyOf_93 : decode cX7_howManyOf 93 = .ok (.iload_n 2, 1) := by decide +kernel
theorem dX7_howManyOf_94 : decode cX7_howManyOf 94 = .ok (.ireturn, 1) := by decide +kernel
theorem dX7_offBy_0 : decode cX7_offBy 0 = .ok (.aload_n 0, 1) := by decide +kernel
theorem dX7_offBy_1 : decode cX7_offBy 1 = .ok (.getfield 25, 3) := by decide +kernel
theorem dX7_offBy_4 : decode cX7_offBy 4 = .ok (.aload_n 0, 1) := by decide +kernel
theorem dX7_offBy_5 : decode cX7_offBy 5 = .ok (.getfield 9, 3) := by decide +kernel
theorem dX7_offBy_8 : decode cX7_offBy 8 = .ok (.iload_n 1, 1) := by decide +kernel
theorem dX7_offBy_9 : decode cX7_offBy 9 = .ok (.iaload, 1) := by decide +kernel
theorem dX7_offBy_10 : decode cX7_offBy 10 = .ok (.invokevirtual 45, 3) := by decide +kernel
theorem dX7_offBy_13 : decode cX7_offBy 13 = .ok (.istore_n 2, 1) := by decide +kernel
theorem dX7_offBy_14 : decode cX7_offBy 14 = .ok (.aload_n 0, 1) := by decide +kernel
theorem dX7_offBy_15 : decode cX7_offBy 15 = .ok (.getfield 25, 3) := by decide +kernel
theorem dX7_offBy_18 : decode cX7_offBy 18 = .ok (.aload_n 0, 1) := by decide +kernel
theorem dX7_offBy_19 : decode cX7_offBy 19 = .ok (.getfield 15, 3) := by decide +kernel
theorem dX7_offBy_22 : decode cX7_offBy 22 = .ok (.iload_n 1, 1) := by decide +kernel
theorem dX7_offBy_23 : decode cX7_offBy 23 = .ok (.iaload, 1) := by decide +kernel
theorem dX7_offBy_24 : decode cX7_offBy 24 = .ok (.invokevirtual 45, 3) := by decide +kernel
theorem dX7_offBy_27 : decode cX7_offBy 27 = .ok (.istore_n 3, 1) := by decide +kernel
theorem dX7_offBy_28 : decode cX7_offBy 28 = .ok (.iload_n 2, 1) := by decide +kernel
theorem dX7_offBy_29 : decode cX7_offBy 29 = .ok (.ldc 44, 2) := by decide +kernel
theorem dX7_offBy_31 : decode cX7_offBy 31 = .ok (.if_icmp .eq 9, 3) := by decide +kernel
theorem dX7_offBy_34 : decode cX7_offBy 34 = .ok (.iload_n 3, 1) := by decide +kernel
theorem dX7_offBy_35 : decode cX7_offBy 35 = .ok (.ldc 44, 2) := by decide +kernel
theorem dX7_offBy_37 : decode cX7_offBy 37 = .ok (.if_icmp .ne 6, 3) := by decide +kernel
theorem dX7_offBy_40 : decode cX7_offBy 40 = .ok (.ldc 44, 2) := by decide +kernel
theorem dX7_offBy_42 : decode cX7_offBy 42 = .ok (.ireturn, 1) := by decide +kernel
theorem dX7_offBy_43 : decode cX7_offBy 43 = .ok (.aload_n 0, 1) := by decide +kernel
theorem dX7_offBy_44 : decode cX7_offBy 44 = .ok (.getfield 18, 3) := by decide +kernel
theorem dX7_offBy_47 : decode cX7_offBy 47 = .ok (.iload_n 1, 1) := by decide +kernel
theorem dX7_offBy_48 : decode cX7_offBy 48 = .ok (.iaload, 1) := by decide +kernel
theorem dX7_offBy_49 : decode cX7_offBy 49 = .ok (.iload_n 3, 1) := by decide +kernel
theorem dX7_offBy_50 : decode cX7_offBy 50 = .ok (.iload_n 2, 1) := by decide +kernel
theorem dX7_offBy_51 : decode cX7_offBy 51 = .ok (.isub, 1) := by decide +kernel
theorem dX7_offBy_52 : decode cX7_offBy 52 = .ok (.isub, 1) := by decide +kernel
theorem dX7_offBy_53 : decode cX7_offBy 53 = .ok (.ireturn, 1) := by decide +kernel
theorem dX8_init_0 : decode cX8_init 0 = .ok (.aload_n 0, 1) := by decide +kernel
theorem dX8_init_1 : decode cX8_init 1 = .ok (.invokespecial 3, 3) := by decide +kernel
theorem dX8_init_4 : decode cX8_init 4 = .ok (.aload_n 0, 1) := by decide +kernel
theorem dX8_init_5 : decode cX8_init 5 = .ok (.new 9, 3) := by decide +kernel
theorem dX8_init_8 : decode cX8_init 8 = .ok (.dup, 1) := by decide +kernel
theorem dX8_init_9 : decode cX8_init 9 = .ok (.invokespecial 11, 3) := by decide +kernel
theorem dX8_init_12 : decode cX8_init 12 = .ok (.putfield 12, 3) := by decide +kernel
theorem dX8_init_15 : decode cX8_init 15 = .ok (.aload_n 0, 1) := by decide +kernel
theorem dX8_init_16 : decode cX8_init 16 = .ok (.new 16, 3) := by decide +kernel
theorem dX8_init_19 : decode cX8_init 19 = .ok (.dup, 1) := by decide +kernel
theorem dX8_init_20 : decode cX8_init 20 = .ok (.invokespecial 18, 3) := by decide +kernel
theorem dX8_init_23 : decode cX8_init 23 = .ok (.putfield 19, 3) := by decide +kernel
theorem dX8_init_26 : decode cX8_init 26 = .ok (.aload_n 0, 1) := by decide +kernel
theorem dX8_init_27 : decode cX8_init 27 = .ok (.new 23, 3) := by decide +kernel
theorem dX8_init_30 : decode cX8_init 30 = .ok (.dup, 1) := by decide +kernel
theorem dX8_init_31 : decode cX8_init 31 = .ok (.aload_n 0, 1) := by decide +kernel
theorem dX8_init_32 : decode cX8_init 32 = .ok (.getfield 19, 3) := by decide +kernel
theorem dX8_init_35 : decode cX8_init 35 = .ok (.invokespecial 25, 3) := by decide +kernel
theorem dX8_init_38 : decode cX8_init 38 = .ok (.putfield 28, 3) := by decide +kernel
theorem dX8_init_41 : decode cX8_init 41 = .ok (.aload_n 0, 1) := by decide +kernel
theorem dX8_init_42 : decode cX8_init 42 = .ok (.new 32, 3) := by decide +kernel
theorem dX8_init_45 : decode cX8_init 45 = .ok (.dup, 1) := by decide +kernel
theorem dX8_init_46 : decode cX8_init 46 = .ok (.invokespecial 34, 3) := by decide +kernel
theorem dX8_init_49 : decode cX8_init 49 = .ok (.putfield 35, 3) := by decide +kernel
theorem dX8_init_52 : decode cX8_init 52 = .ok (.aload_n 0, 1) := by decide +kernel
theorem dX8_init_53 : decode cX8_init 53 = .ok (.new 39, 3) := by decide +kernel
theorem dX8_init_56 : decode cX8_init 56 = .ok (.dup, 1) := by decide +kernel
theorem dX8_init_57 : decode cX8_init 57 = .ok (.aload_n 0, 1) := by decide +kernel
theorem dX8_init_58 : decode cX8_init 58 = .ok (.getfield 35, 3) := by decide +kernel
theorem dX8_init_61 : decode cX8_init 61 = .ok (.invokespecial 41, 3) := by decide +kernel
theorem dX8_init_64 : decode cX8_init 64 = .ok (.putfield 44, 3) := by decide +kernel
theorem dX8_init_67 : decode cX8_init 67 = .ok (.aload_n 0, 1) := by decide +kernel
theorem dX8_init_68 : decode cX8_init 68 = .ok (.new 48, 3) := by decide +kernel
theorem dX8_init_71 : decode cX8_init 71 = .ok (.dup, 1) := by decide +kernel
theorem dX8_init_72 : decode cX8_init 72 = .ok (.invokespecial 50, 3) := by decide +kernel
theorem dX8_init_75 : decode cX8_init 75 = .ok (.putfield 51, 3) := by decide +kernel
theorem dX8_init_78 : decode cX8_init 78 = .ok (.aload_n 0, 1) := by decide +kernel
theorem dX8_init_79 : decode cX8_init 79 = .ok (.new 55, 3) := by decide +kernel
theorem dX8_init_82 : decode cX8_init 82 = .ok (.dup, 1) := by decide +kernel
theorem dX8_init_83 : decode cX8_init 83 = .ok (.invokespecial 57, 3) := by decide +kernel
theorem dX8_init_86 : decode cX8_init 86 = .ok (.putfield 58, 3) := by decide +kernel
theorem dX8_init_89 : decode cX8_init 89 = .ok (.aload_n 0, 1) := by decide +kernel
theorem dX8_init_90 : decode cX8_init 90 = .ok (.new 62, 3) := by decide +kernel
theorem dX8_init_93 : decode cX8_init 93 = .ok (.dup, 1) := by decide +kernel
theorem dX8_init_94 : decode cX8_init 94 = .ok (.invokespecial 64, 3) := by decide +kernel
theorem dX8_init_97 : decode cX8_init 97 = .ok (.putfield 65, 3) := by decide +kernel
theorem dX8_init_100 : decode cX8_init 100 = .ok (.aload_n 0, 1) := by decide +kernel
theorem dX8_init_101 : decode cX8_init 101 = .ok (.bipush 8, 2) := by decide +kernel
theorem dX8_init_103 : decode cX8_init 103 = .ok (.putfield 69, 3) := by decide +kernel
theorem dX8_init_106 : decode cX8_init 106 = .ok (.return_, 1) := by decide +kernel
theorem dX8_disc_0 : decode cX8_disc 0 = .ok (.iload_n 1, 1) := by decide +kernel
theorem dX8_disc_1 : decode cX8_disc 1 = .ok (.iconst 4, 1) := by decide +kernel
theorem dX8_disc_2 : decode cX8_disc 2 = .ok (.bipush 16, 2) := by decide +kernel
theorem dX8_disc_4 : decode cX8_disc 4 = .ok (.invokestatic 73, 3) := by decide +kernel
theorem dX8_disc_7 : decode cX8_disc 7 = .ok (.ifCond .ne 5, 3) := by decide +kernel
theorem dX8_disc_10 : decode cX8_disc 10 = .ok (.iconst (-1), 1) := by decide +kernel
theorem dX8_disc_11 : decode cX8_disc 11 = .ok (.ireturn, 1) := by decide +kernel
theorem dX8_disc_12 : decode cX8_disc 12 = .ok (.aload_n 0, 1) := by decide +kernel
theorem dX8_disc_13 : decode cX8_disc 13 = .ok (.iload_n 1, 1) := by decide +kernel
theorem dX8_disc_14 : decode cX8_disc 14 = .ok (.putfield 69, 3) := by decide +kernel
theorem dX8_disc_17 : decode cX8_disc 17 = .ok (.aload_n 0, 1) := by decide +kernel
theorem dX8_disc_18 : decode cX8_disc 18 = .ok (.getfield 19, 3) := by decide +kernel
theorem dX8_disc_21 : decode cX8_disc 21 = .ok (.iload_n 1, 1) := by decide +kernel
theorem dX8_disc_22 : decode cX8_disc 22 = .ok (.invokevirtual 77, 3) := by decide +kernel
theorem dX8_disc_25 : decode cX8_disc 25 = .ok (.aload_n 0, 1) := by decide +kernel
theorem dX8_disc_26 : decode cX8_disc 26 = .ok (.getfield 28, 3) := by decide +kernel
theorem dX8_disc_29 : decode cX8_disc 29 = .ok (.invokevirtual 81, 3) := by decide +kernel
theorem dX8_disc_32 : decode cX8_disc 32 = .ok (.aload_n 0, 1) := by decide +kernel
theorem dX8_disc_33 : decode cX8_disc 33 = .ok (.getfield 35, 3) := by decide +kernel
theorem dX8_disc_36 : decode cX8_disc 36 = .ok (.iload_n 1, 1) := by decide +kernel
theorem dX8_disc_37 : decode cX8_disc 37 = .ok (.invokevirtual 83, 3) := by decide +kernel
theorem dX8_disc_40 : decode cX8_disc 40 = .ok (.aload_n 0, 1) := by decide +kernel
theorem dX8_disc_41 : decode cX8_disc 41 = .ok (.getfield 51, 3) := by decide +kernel
theorem dX8_disc_44 : decode cX8_disc 44 = .ok (.iload_n 1, 1) := by decide +kernel
theorem dX8_disc_45 : decode cX8_disc 45 = .ok (.invokevirtual 84, 3) := by decide +kernel
theorem dX8_disc_48 : decode cX8_disc 48 = .ok (.iload_n 1, 1) := by decide +kernel
theorem dX8_disc_49 : decode cX8_disc 49 = .ok (.ireturn, 1) := by decide +kernel
theorem dX8_aim_0 : decode cX8_aim 0 = .ok (.iload_n 1, 1) := by decide +kernel
theorem dX8_aim_1 : decode cX8_aim 1 = .ok (.bipush 100, 2) := by decide +kernel
theorem dX8_aim_3 : decode cX8_aim 3 = .ok (.sipush 5000, 3) := by decide +kernel
theorem dX8_aim_6 : decode cX8_aim 6 = .ok (.invokestatic 73, 3) := by decide +kernel
theorem dX8_aim_9 : decode cX8_aim 9 = .ok (.ifCond .eq 24, 3) := by decide +kernel
theorem dX8_aim_12 : decode cX8_aim 12 = .ok (.iload_n 2, 1) := by decide +kernel
theorem dX8_aim_13 : decode cX8_aim 13 = .ok (.bipush (-30), 2) := by decide +kernel
theorem dX8_aim_15 : decode cX8_aim 15 = .ok (.bipush 30, 2) := by decide +kernel
theorem dX8_aim_17 : decode cX8_aim 17 = .ok (.invokestatic 73, 3) := by decide +kernel
theorem dX8_aim_20 : decode cX8_aim 20 = .ok (.ifCond .eq 13, 3) := by decide +kernel
theorem dX8_aim_23 : decode cX8_aim 23 = .ok (.iload_n 3, 1) := by decide +kernel
theorem dX8_aim_24 : decode cX8_aim 24 = .ok (.iconst 1, 1) := by decide +kernel
theorem dX8_aim_25 : decode cX8_aim 25 = .ok (.bipush 10, 2) := by decide +kernel
theorem dX8_aim_27 : decode cX8_aim 27 = .ok (.invokestatic 73, 3) := by decide +kernel
theorem dX8_aim_30 : decode cX8_aim 30 = .ok (.ifCond .ne 5, 3) := by decide +kernel
theorem dX8_aim_33 : decode cX8_aim 33 = .ok (.iconst (-1), 1) := by decide +kernel
theorem dX8_aim_34 : decode cX8_aim 34 = .ok (.ireturn, 1) := by decide +kernel
theorem dX8_aim_35 : decode cX8_aim 35 = .ok (.aload_n 0, 1) := by decide +kernel
theorem dX8_aim_36 : decode cX8_aim 36 = .ok (.getfield 12, 3) := by decide +kernel
theorem dX8_aim_39 : decode cX8_aim 39 = .ok (.iload_n 1, 1) := by decide +kernel
theorem dX8_aim_40 : decode cX8_aim 40 = .ok (.iload_n 2, 1) := by decide +kernel
theorem dX8_aim_41 : decode cX8_aim 41 = .ok (.iload_n 3, 1) := by decide +kernel
theorem dX8_aim_42 : decode cX8_aim 42 = .ok (.invokevirtual 85, 3) := by decide +kernel
theorem dX8_aim_45 : decode cX8_aim 45 = .ok (.iconst 0, 1) := by decide +kernel
theorem dX8_aim_46 : decode cX8_aim 46 = .ok (.ireturn, 1) := by decide +kernel
theorem dX8_depth_0 : decode cX8_depth 0 = .ok (.iload_n 1, 1) := by decide +kernel
theorem dX8_depth_1 : decode cX8_depth 1 = .ok (.iconst 0, 1) := by decide +kernel
theorem dX8_depth_2 : decode cX8_depth 2 = .ok (.sipush 200, 3) := by decide +kernel
theorem dX8_depth_5 : decode cX8_depth 5 = .ok (.invokestatic 73, 3) := by decide +kernel
theorem dX8_depth_8 : decode cX8_depth 8 = .ok (.ifCond .eq 12, 3) := by decide +kernel
theorem dX8_depth_11 : decode cX8_depth 11 = .ok (.iload_n 2, 1) := by decide +kernel
theorem dX8_depth_12 : decode cX8_depth 12 = .ok (.iconst 0, 1) := by decide +kernel
theorem dX8_depth_13 : decode cX8_depth 13 = .ok (.iconst 1, 1) := by decide +kernel
theorem dX8_depth_14 : decode cX8_depth 14 = .ok (.invokestatic 73, 3) := by decide +kernel
theorem dX8_depth_17 : decode cX8_depth 17 = .ok (.ifCond .ne 7, 3) := by decide +kernel
theorem dX8_depth_20 : decode cX8_depth 20 = .ok (.ldc2_w 89, 3) := by decide +kernel
theorem dX8_depth_23 : decode cX8_depth 23 = .ok (.lreturn, 1) := by decide +kernel
theorem dX8_depth_24 : decode cX8_depth 24 = .ok (.aload_n 0, 1) := by decide +kernel
theorem dX8_depth_25 : decode cX8_depth 25 = .ok (.getfield 12, 3) := by decide +kernel
theorem dX8_depth_28 : decode cX8_depth 28 = .ok (.iload_n 1, 1) := by decide +kernel
theorem dX8_depth_29 : decode cX8_depth 29 = .ok (.iload_n 2, 1) := by decide +kernel
theorem dX8_depth_30 : decode cX8_depth 30 = .ok (.ifCond .ne 7, 3) := by decide +kernel
theorem dX8_depth_33 : decode cX8_depth 33 = .ok (.iconst 1, 1) := by decide +kernel
theorem dX8_depth_34 : decode cX8_depth 34 = .ok (.goto 4, 3) := by decide +kernel
theorem dX8_depth_37 : decode cX8_depth 37 = .ok (.iconst 0, 1) := by decide +kernel
theorem dX8_depth_38 : decode cX8_depth 38 = .ok (.invokevirtual 91, 3) := by decide +kernel
theorem dX8_depth_41 : decode cX8_depth 41 = .ok (.lreturn, 1) := by decide +kernel
theorem dX8_height_0 : decode cX8_height 0 = .ok (.aload_n 0, 1) := by decide +kernel
theorem dX8_height_1 : decode cX8_height 1 = .ok (.iload_n 1, 1) := by decide +kernel
theorem dX8_height_2 : decode cX8_height 2 = .ok (.invokevirtual 95, 3) := by decide +kernel
theorem dX8_height_5 : decode cX8_height 5 = .ok (.ifCond .eq 14, 3) := by decide +kernel
theorem dX8_height_8 : decode cX8_height 8 = .ok (.iload_n 2, 1) := by decide +kernel
theorem dX8_height_9 : decode cX8_height 9 = .ok (.ldc 99, 2) := by decide +kernel
theorem dX8_height_11 : decode cX8_height 11 = .ok (.ldc 100, 2) := by decide +kernel
theorem dX8_height_13 : decode cX8_height 13 = .ok (.invokestatic 73, 3) := by decide +kernel
theorem dX8_height_16 : decode cX8_height 16 = .ok (.ifCond .ne 6, 3) := by decide +kernel
theorem dX8_height_19 : decode cX8_height 19 = .ok (.ldc 101, 2) := by decide +kernel
theorem dX8_height_21 : decode cX8_height 21 = .ok (.ireturn, 1) := by decide +kernel
theorem dX8_height_22 : decode cX8_height 22 = .ok (.aload_n 0, 1) := by decide +kernel
theorem dX8_height_23 : decode cX8_height 23 = .ok (.getfield 35, 3) := by decide +kernel
theorem dX8_height_26 : decode cX8_height 26 = .ok (.iload_n 1, 1) := by decide +kernel
theorem dX8_height_27 : decode cX8_height 27 = .ok (.iload_n 2, 1) := by decide +kernel
theorem dX8_height_28 : decode cX8_height 28 = .ok (.invokevirtual 102, 3) := by decide +kernel
theorem dX8_height_31 : decode cX8_height 31 = .ok (.ireturn, 1) := by decide +kernel
theorem dX8_at_0 : decode cX8_at 0 = .ok (.aload_n 0, 1) := by decide +kernel
theorem dX8_at_1 : decode cX8_at 1 = .ok (.iload_n 1, 1) := by decide +kernel
theorem dX8_at_2 : decode cX8_at 2 = .ok (.invokevirtual 95, 3) := by decide +kernel
theorem dX8_at_5 : decode cX8_at 5 = .ok (.ifCond .eq 14, 3) := by decide +kernel
theorem dX8_at_8 : decode cX8_at 8 = .ok (.aload_n 0, 1) := by decide +kernel
theorem dX8_at_9 : decode cX8_at 9 = .ok (.getfield 35, 3) := by decide +kernel
theorem dX8_at_12 : decode cX8_at 12 = .ok (.iload_n 1, 1) := by decide +kernel
theorem dX8_at_13 : decode cX8_at 13 = .ok (.invokevirtual 106, 3) := by decide +kernel
theorem dX8_at_16 : decode cX8_at 16 = .ok (.goto 5, 3) := by decide +kernel
theorem dX8_at_19 : decode cX8_at 19 = .ok (.ldc 101, 2) := by decide +kernel
theorem dX8_at_21 : decode cX8_at 21 = .ok (.ireturn, 1) := by decide +kernel
theorem dX8_read_0 : decode cX8_read 0 = .ok (.iload_n 1, 1) := by decide +kernel
theorem dX8_read_1 : decode cX8_read 1 = .ok (.iconst 0, 1) := by decide +kernel
theorem dX8_read_2 : decode cX8_read 2 = .ok (.iconst 2, 1) := by decide +kernel
theorem dX8_read_3 : decode cX8_read 3 = .ok (.invokestatic 73, 3) := by decide +kernel
theorem dX8_read_6 : decode cX8_read 6 = .ok (.ifCond .eq 31, 3) := by decide +kernel
theorem dX8_read_9 : decode cX8_read 9 = .ok (.aload_n 0, 1) := by decide +kernel
theorem dX8_read_10 : decode cX8_read 10 = .ok (.iload_n 2, 1) := by decide +kernel
theorem dX8_read_11 : decode cX8_read 11 = .ok (.invokevirtual 110, 3) := by decide +kernel
theorem dX8_read_14 : decode cX8_read 14 = .ok (.ifCond .eq 23, 3) := by decide +kernel
theorem dX8_read_17 : decode cX8_read 17 = .ok (.iload_n 3, 1) := by decide +kernel
theorem dX8_read_18 : decode cX8_read 18 = .ok (.sipush 5000, 3) := by decide +kernel
theorem dX8_read_21 : decode cX8_read 21 = .ok (.if_icmp .eq 20, 3) := by decide +kernel
theorem dX8_read_24 : decode cX8_read 24 = .ok (.iload_n 3, 1) := by decide +kernel
theorem dX8_read_25 : decode cX8_read 25 = .ok (.sipush (-1000), 3) := by decide +kernel
theorem dX8_read_28 : decode cX8_read 28 = .ok (.sipush 1000, 3) := by decide +kernel
theorem dX8_read_31 : decode cX8_read 31 = .ok (.invokestatic 73, 3) := by decide +kernel
theorem dX8_read_34 : decode cX8_read 34 = .ok (.ifCond .ne 7, 3) := by decide +kernel
theorem dX8_read_37 : decode cX8_read 37 = .ok (.sipush 10000, 3) := by decide +kernel
theorem dX8_read_40 : decode cX8_read 40 = .ok (.ireturn, 1) := by decide +kernel
theorem dX8_read_41 : decode cX8_read 41 = .ok (.aload_n 0, 1) := by decide +kernel
theorem dX8_read_42 : decode cX8_read 42 = .ok (.getfield 19, 3) := by decide +kernel
theorem dX8_read_45 : decode cX8_read 45 = .ok (.iload_n 1, 1) := by decide +kernel
theorem dX8_read_46 : decode cX8_read 46 = .ok (.iload_n 2, 1) := by decide +kernel
theorem dX8_read_47 : decode cX8_read 47 = .ok (.iload_n 3, 1) := by decide +kernel
theorem dX8_read_48 : decode cX8_read 48 = .ok (.invokevirtual 113, 3) := by decide +kernel
theorem dX8_read_51 : decode cX8_read 51 = .ok (.ireturn, 1) := by decide +kernel
theorem dX8_lie_0 : decode cX8_lie 0 = .ok (.iload_n 1, 1) := by decide +kernel
theorem dX8_lie_1 : decode cX8_lie 1 = .ok (.iconst 0, 1) := by decide +kernel
theorem dX8_lie_2 : decode cX8_lie 2 = .ok (.bipush 50, 2) := by decide +kernel
theorem dX8_lie_4 : decode cX8_lie 4 = .ok (.invokestatic 73, 3) := by decide +kernel
theorem dX8_lie_7 : decode cX8_lie 7 = .ok (.ifCond .eq 14, 3) := by decide +kernel
theorem dX8_lie_10 : decode cX8_lie 10 = .ok (.aload_n 0, 1) := by decide +kernel
theorem dX8_lie_11 : decode cX8_lie 11 = .ok (.getfield 19, 3) := by decide +kernel
theorem dX8_lie_14 : decode cX8_lie 14 = .ok (.iload_n 1, 1) := by decide +kernel
theorem dX8_lie_15 : decode cX8_lie 15 = .ok (.invokevirtual 117, 3) := by decide +kernel
theorem dX8_lie_18 : decode cX8_lie 18 = .ok (.goto 4, 3) := by decide +kernel
theorem dX8_lie_21 : decode cX8_lie 21 = .ok (.iconst (-1), 1) := by decide +kernel
theorem dX8_lie_22 : decode cX8_lie 22 = .ok (.ireturn, 1) := by decide +kernel
theorem dX8_joined_0 : decode cX8_joined 0 = .ok (.iload_n 1, 1) := by decide +kernel
theorem dX8_joined_1 : decode cX8_joined 1 = .ok (.ifCond .ne 11, 3) := by decide +kernel
theorem dX8_joined_4 : decode cX8_joined 4 = .ok (.aload_n 0, 1) := by decide +kernel
theorem dX8_joined_5 : decode cX8_joined 5 = .ok (.getfield 19, 3) := by decide +kernel
theorem dX8_joined_8 : decode cX8_joined 8 = .ok (.invokevirtual 120, 3) := by decide +kernel
theorem dX8_joined_11 : decode cX8_joined 11 = .ok (.ireturn, 1) := by decide +kernel
theorem dX8_joined_12 : decode cX8_joined 12 = .ok (.iload_n 1, 1) := by decide +kernel
theorem dX8_joined_13 : decode cX8_joined 13 = .ok (.iconst 1, 1) := by decide +kernel
theorem dX8_joined_14 : decode cX8_joined 14 = .ok (.iconst 2, 1) := by decide +kernel
theorem dX8_joined_15 : decode cX8_joined 15 = .ok (.invokestatic 73, 3) := by decide +kernel
theorem dX8_joined_18 : decode cX8_joined 18 = .ok (.ifCond .eq 14, 3) := by decide +kernel
theorem dX8_joined_21 : decode cX8_joined 21 = .ok (.aload_n 0, 1) := by decide +kernel
theorem dX8_joined_22 : decode cX8_joined 22 = .ok (.getfield 19, 3) := by decide +kernel
theorem dX8_joined_25 : decode cX8_joined 25 = .ok (.iload_n 1, 1) := by decide +kernel
theorem dX8_joined_26 : decode cX8_joined 26 = .ok (.invokevirtual 124, 3) := by decide +kernel
theorem dX8_joined_29 : decode cX8_joined 29 = .ok (.goto 5, 3) := by decide +kernel
theorem dX8_joined_32 : decode cX8_joined 32 = .ok (.bipush (-100), 2) := by decide +kernel
theorem dX8_joined_34 : decode cX8_joined 34 = .ok (.ireturn, 1) := by decide +kernel
theorem dX8_step_0 : decode cX8_step 0 = .ok (.aload_n 0, 1) := by decide +kernel
theorem dX8_step_1 : decode cX8_step 1 = .ok (.iload_n 1, 1) := by decide +kernel
theorem dX8_step_2 : decode cX8_step 2 = .ok (.invokevirtual 110, 3) := by decide +kernel
theorem dX8_step_5 : decode cX8_step 5 = .ok (.ifCond .eq 14, 3) := by decide +kernel
theorem dX8_step_8 : decode cX8_step 8 = .ok (.aload_n 0, 1) := by decide +kernel
theorem dX8_step_9 : decode cX8_step 9 = .ok (.getfield 19, 3) := by decide +kernel
theorem dX8_step_12 : decode cX8_step 12 = .ok (.iload_n 1, 1) := by decide +kernel
theorem dX8_step_13 : decode cX8_step 13 = .ok (.invokevirtual 127, 3) := by decide +kernel
theorem dX8_step_16 : decode cX8_step 16 = .ok (.goto 6, 3) := by decide +kernel
theorem dX8_step_19 : decode cX8_step 19 = .ok (.sipush 10000, 3) := by decide +kernel
theorem dX8_step_22 : decode cX8_step 22 = .ok (.ireturn, 1) := by decide +kernel
theorem dX8_profile_0 : decode cX8_profile 0 = .ok (.aload_n 0, 1) := by decide +kernel
theorem dX8_profile_1 : decode cX8_profile 1 = .ok (.iload_n 1, 1) := by decide +kernel
theorem dX8_profile_2 : decode cX8_profile 2 = .ok (.invokevirtual 95, 3) := by decide +kernel
theorem dX8_profile_5 : decode cX8_profile 5 = .ok (.ifCond .eq 14, 3) := by decide +kernel
theorem dX8_profile_8 : decode cX8_profile 8 = .ok (.aload_n 0, 1) := by decide +kernel
theorem dX8_profile_9 : decode cX8_profile 9 = .ok (.getfield 19, 3) := by decide +kernel
theorem dX8_profile_12 : decode cX8_profile 12 = .ok (.iload_n 1, 1) := by decide +kernel
theorem dX8_profile_13 : decode cX8_profile 13 = .ok (.invokevirtual 130, 3) := by decide +kernel
theorem dX8_profile_16 : decode cX8_profile 16 = .ok (.goto 5, 3) := by decide +kernel
theorem dX8_profile_19 : decode cX8_profile 19 = .ok (.ldc 133, 2) := by decide +kernel
theorem dX8_profile_21 : decode cX8_profile 21 = .ok (.ireturn, 1) := by decide +kernel
theorem dX8_wire_0 : decode cX8_wire 0 = .ok (.aload_n 0, 1) := by decide +kernel
theorem dX8_wire_1 : decode cX8_wire 1 = .ok (.iload_n 1, 1) := by decide +kernel
theorem dX8_wire_2 : decode cX8_wire 2 = .ok (.invokevirtual 95, 3) := by decide +kernel
theorem dX8_wire_5 : decode cX8_wire 5 = .ok (.ifCond .eq 27, 3) := by decide +kernel
theorem dX8_wire_8 : decode cX8_wire 8 = .ok (.aload_n 0, 1) := by decide +kernel
theorem dX8_wire_9 : decode cX8_wire 9 = .ok (.iload_n 2, 1) := by decide +kernel
theorem dX8_wire_10 : decode cX8_wire 10 = .ok (.invokevirtual 95, 3) := by decide +kernel
theorem dX8_wire_13 : decode cX8_wire 13 = .ok (.ifCond .eq 19, 3) := by decide +kernel
theorem dX8_wire_16 : decode cX8_wire 16 = .ok (.iload_n 1, 1) := by decide +kernel
theorem dX8_wire_17 : decode cX8_wire 17 = .ok (.iload_n 2, 1) := by decide +kernel
theorem dX8_wire_18 : decode cX8_wire 18 = .ok (.if_icmp .ge 14, 3) := by decide +kernel
theorem dX8_wire_21 : decode cX8_wire 21 = .ok (.iload_n 3, 1) := by decide +kernel
theorem dX8_wire_22 : decode cX8_wire 22 = .ok (.ldc 99, 2) := by decide +kernel
theorem dX8_wire_24 : decode cX8_wire 24 = .ok (.ldc 100, 2) := by decide +kernel
theorem dX8_wire_26 : decode cX8_wire 26 = .ok (.invokestatic 73, 3) := by decide +kernel
theorem dX8_wire_29 : decode cX8_wire 29 = .ok (.ifCond .ne 5, 3) := by decide +kernel
theorem dX8_wire_32 : decode cX8_wire 32 = .ok (.iconst (-1), 1) := by decide +kernel
theorem dX8_wire_33 : decode cX8_wire 33 = .ok (.ireturn, 1) := by decide +kernel
theorem dX8_wire_34 : decode cX8_wire 34 = .ok (.aload_n 0, 1) := by decide +kernel
theorem dX8_wire_35 : decode cX8_wire 35 = .ok (.getfield 28, 3) := by decide +kernel
theorem dX8_wire_38 : decode cX8_wire 38 = .ok (.invokevirtual 134, 3) := by decide +kernel
theorem dX8_wire_41 : decode cX8_wire 41 = .ok (.bipush 12, 2) := by decide +kernel
theorem dX8_wire_43 : decode cX8_wire 43 = .ok (.if_icmp .ge 16, 3) := by decide +kernel
theorem dX8_wire_46 : decode cX8_wire 46 = .ok (.aload_n 0, 1) := by decide +kernel
theorem dX8_wire_47 : decode cX8_wire 47 = .ok (.getfield 28, 3) := by decide +kernel
theorem dX8_wire_50 : decode cX8_wire 50 = .ok (.iload_n 1, 1) := by decide +kernel
theorem dX8_wire_51 : decode cX8_wire 51 = .ok (.iload_n 2, 1) := by decide +kernel
theorem dX8_wire_52 : decode cX8_wire 52 = .ok (.iload_n 3, 1) := by decide +kernel
theorem dX8_wire_53 : decode cX8_wire 53 = .ok (.invokevirtual 137, 3) := by decide +kernel
theorem dX8_wire_56 : decode cX8_wire 56 = .ok (.goto 5, 3) := by decide +kernel
theorem dX8_wire_59 : decode cX8_wire 59 = .ok (.bipush (-3), 2) := by decide +kernel
theorem dX8_wire_61 : decode cX8_wire 61 = .ok (.ireturn, 1) := by decide +kernel
theorem dX8_wires_0 : decode cX8_wires 0 = .ok (.iload_n 1, 1) := by decide +kernel
theorem dX8_wires_1 : decode cX8_wires 1 = .ok (.iconst 0, 1) := by decide +kernel
theorem dX8_wires_2 : decode cX8_wires 2 = .ok (.iconst 2, 1) := by decide +kernel
theorem dX8_wires_3 : decode cX8_wires 3 = .ok (.invokestatic 73, 3) := by decide +kernel
theorem dX8_wires_6 : decode cX8_wires 6 = .ok (.ifCond .eq 12, 3) := by decide +kernel
theorem dX8_wires_9 : decode cX8_wires 9 = .ok (.aload_n 0, 1) := by decide +kernel
theorem dX8_wires_10 : decode cX8_wires 10 = .ok (.getfield 28, 3) := by decide +kernel
theorem dX8_wires_13 : decode cX8_wires 13 = .ok (.iload_n 1, 1) := by decide +kernel
theorem dX8_wires_14 : decode cX8_wires 14 = .ok (.invokevirtual 140, 3) := by decide +kernel
theorem dX8_wires_17 : decode cX8_wires 17 = .ok (.ireturn, 1) := by decide +kernel
theorem dX8_wires_18 : decode cX8_wires 18 = .ok (.iload_n 1, 1) := by decide +kernel
theorem dX8_wires_19 : decode cX8_wires 19 = .ok (.iconst 3, 1) := by decide +kernel
theorem dX8_wires_20 : decode cX8_wires 20 = .ok (.aload_n 0, 1) := by decide +kernel
theorem dX8_wires_21 : decode cX8_wires 21 = .ok (.getfield 28, 3) := by decide +kernel
theorem dX8_wires_24 : decode cX8_wires 24 = .ok (.invokevirtual 134, 3) := by decide +kernel
theorem dX8_wires_27 : decode cX8_wires 27 = .ok (.iconst 2, 1) := by decide +kernel
theorem dX8_wires_28 : decode cX8_wires 28 = .ok (.iadd, 1) := by decide +kernel
theorem dX8_wires_29 : decode cX8_wires 29 = .ok (.invokestatic 73, 3) := by decide +kernel
theorem dX8_wires_32 : decode cX8_wires 32 = .ok (.ifCond .eq 16, 3) := by decide +kernel
theorem dX8_wires_35 : decode cX8_wires 35 = .ok (.aload_n 0, 1) := by decide +kernel
theorem dX8_wires_36 : decode cX8_wires 36 = .ok (.getfield 28, 3) := by decide +kernel
theorem dX8_wires_39 : decode cX8_wires 39 = .ok (.iload_n 1, 1) := by decide +kernel
theorem dX8_wires_40 : decode cX8_wires 40 = .ok (.iconst 3, 1) := by decide +kernel
theorem dX8_wires_41 : decode cX8_wires 41 = .ok (.isub, 1) := by decide +kernel
theorem dX8_wires_42 : decode cX8_wires 42 = .ok (.invokevirtual 143, 3) := by decide +kernel
theorem dX8_wires_45 : decode cX8_wires 45 = .ok (.goto 5, 3) := by decide +kernel
theorem dX8_wires_48 : decode cX8_wires 48 = .ok (.ldc 133, 2) := by decide +kernel
theorem dX8_wires_50 : decode cX8_wires 50 = .ok (.ireturn, 1) := by decide +kernel
theorem dX8_pull_0 : decode cX8_pull 0 = .ok (.iload_n 1, 1) := by decide +kernel
theorem dX8_pull_1 : decode cX8_pull 1 = .ok (.invokestatic 146, 3) := by decide +kernel
theorem dX8_pull_4 : decode cX8_pull 4 = .ok (.ifCond .eq 23, 3) := by decide +kernel
theorem dX8_pull_7 : decode cX8_pull 7 = .ok (.iload_n 2, 1) := by decide +kernel
theorem dX8_pull_8 : decode cX8_pull 8 = .ok (.bipush (-2), 2) := by decide +kernel
theorem dX8_pull_10 : decode cX8_pull 10 = .ok (.iconst 2, 1) := by decide +kernel
theorem dX8_pull_11 : decode cX8_pull 11 = .ok (.invokestatic 73, 3) := by decide +kernel
theorem dX8_pull_14 : decode cX8_pull 14 = .ok (.ifCond .eq 13, 3) := by decide +kernel
theorem dX8_pull_17 : decode cX8_pull 17 = .ok (.iload_n 3, 1) := by decide +kernel
theorem dX8_pull_18 : decode cX8_pull 18 = .ok (.iconst 0, 1) := by decide +kernel
theorem dX8_pull_19 : decode cX8_pull 19 = .ok (.bipush 50, 2) := by decide +kernel
theorem dX8_pull_21 : decode cX8_pull 21 = .ok (.invokestatic 73, 3) := by decide +kernel
theorem dX8_pull_24 : decode cX8_pull 24 = .ok (.ifCond .ne 5, 3) := by decide +kernel
theorem dX8_pull_27 : decode cX8_pull 27 = .ok (.iconst (-1), 1) := by decide +kernel
theorem dX8_pull_28 : decode cX8_pull 28 = .ok (.ireturn, 1) := by decide +kernel
theorem dX8_pull_29 : decode cX8_pull 29 = .ok (.aload_n 0, 1) := by decide +kernel
theorem dX8_pull_30 : decode cX8_pull 30 = .ok (.getfield 35, 3) := by decide +kernel
theorem dX8_pull_33 : decode cX8_pull 33 = .ok (.iload_n 1, 1) := by decide +kernel
theorem dX8_pull_34 : decode cX8_pull 34 = .ok (.iload_n 2, 1) := by decide +kernel
theorem dX8_pull_35 : decode cX8_pull 35 = .ok (.iload_n 3, 1) := by decide +kernel
theorem dX8_pull_36 : decode cX8_pull 36 = .ok (.invokevirtual 149, 3) := by decide +kernel
theorem dX8_pull_39 : decode cX8_pull 39 = .ok (.ireturn, 1) := by decide +kernel
theorem dX8_rest_0 : decode cX8_rest 0 = .ok (.iload_n 1, 1) := by decide +kernel
theorem dX8_rest_1 : decode cX8_rest 1 = .ok (.iconst 0, 1) := by decide +kernel
theorem dX8_rest_2 : decode cX8_rest 2 = .ok (.sipush 10000, 3) := by decide +kernel
theorem dX8_rest_5 : decode cX8_rest 5 = .ok (.invokestatic 73, 3) := by decide +kernel
theorem dX8_rest_8 : decode cX8_rest 8 = .ok (.ifCond .eq 14, 3) := by decide +kernel
theorem dX8_rest_11 : decode cX8_rest 11 = .ok (.aload_n 0, 1) := by decide +kernel
theorem dX8_rest_12 : decode cX8_rest 12 = .ok (.getfield 35, 3) := by decide +kernel
theorem dX8_rest_15 : decode cX8_rest 15 = .ok (.iload_n 1, 1) := by decide +kernel
theorem dX8_rest_16 : decode cX8_rest 16 = .ok (.invokevirtual 152, 3) := by decide +kernel
theorem dX8_rest_19 : decode cX8_rest 19 = .ok (.goto 4, 3) := by decide +kernel
theorem dX8_rest_22 : decode cX8_rest 22 = .ok (.iconst (-1), 1) := by decide +kernel
theorem dX8_rest_23 : decode cX8_rest 23 = .ok (.ireturn, 1) := by decide +kernel
theorem dX8_stroke_0 : decode cX8_stroke 0 = .ok (.iload_n 1, 1) := by decide +kernel
theorem dX8_stroke_1 : decode cX8_stroke 1 = .ok (.invokestatic 146, 3) := by decide +kernel
theorem dX8_stroke_4 : decode cX8_stroke 4 = .ok (.ifCond .eq 21, 3) := by decide +kernel
theorem dX8_stroke_7 : decode cX8_stroke 7 = .ok (.aload_n 0, 1) := by decide +kernel
theorem dX8_stroke_8 : decode cX8_stroke 8 = .ok (.iload_n 2, 1) := by decide +kernel
theorem dX8_stroke_9 : decode cX8_stroke 9 = .ok (.invokevirtual 95, 3) := by decide +kernel
theorem dX8_stroke_12 : decode cX8_stroke 12 = .ok (.ifCond .eq 13, 3) := by decide +kernel
theorem dX8_stroke_15 : decode cX8_stroke 15 = .ok (.iload_n 3, 1) := by decide +kernel
theorem dX8_stroke_16 : decode cX8_stroke 16 = .ok (.iconst 1, 1) := by decide +kernel
theorem dX8_stroke_17 : decode cX8_stroke 17 = .ok (.bipush 20, 2) := by decide +kernel
theorem dX8_stroke_19 : decode cX8_stroke 19 = .ok (.invokestatic 73, 3) := by decide +kernel
theorem dX8_stroke_22 : decode cX8_stroke 22 = .ok (.ifCond .ne 6, 3) := by decide +kernel
theorem dX8_stroke_25 : decode cX8_stroke 25 = .ok (.ldc 101, 2) := by decide +kernel
theorem dX8_stroke_27 : decode cX8_stroke 27 = .ok (.ireturn, 1) := by decide +kernel
theorem dX8_stroke_28 : decode cX8_stroke 28 = .ok (.aload_n 0, 1) := by decide +kernel
theorem dX8_stroke_29 : decode cX8_stroke 29 = .ok (.getfield 35, 3) := by decide +kernel
theorem dX8_stroke_32 : decode cX8_stroke 32 = .ok (.iload_n 1, 1) := by decide +kernel
theorem dX8_stroke_33 : decode cX8_stroke 33 = .ok (.iload_n 2, 1) := by decide +kernel
theorem dX8_stroke_34 : decode cX8_stroke 34 = .ok (.iload_n 3, 1) := by decide +kernel
theorem dX8_stroke_35 : decode cX8_stroke 35 = .ok (.invokevirtual 155, 3) := by decide +kernel
theorem dX8_stroke_38 : decode cX8_stroke 38 = .ok (.ifCond .eq 6, 3) := by decide +kernel
theorem dX8_stroke_41 : decode cX8_stroke 41 = .ok (.ldc 158, 2) := by decide +kernel
theorem dX8_stroke_43 : decode cX8_stroke 43 = .ok (.ireturn, 1) := by decide +kernel
theorem dX8_stroke_44 : decode cX8_stroke 44 = .ok (.aload_n 0, 1) := by decide +kernel
theorem dX8_stroke_45 : decode cX8_stroke 45 = .ok (.getfield 35, 3) := by decide +kernel
theorem dX8_stroke_48 : decode cX8_stroke 48 = .ok (.invokevirtual 159, 3) := by decide +kernel
theorem dX8_stroke_51 : decode cX8_stroke 51 = .ok (.iconst 1, 1) := by decide +kernel
theorem dX8_stroke_52 : decode cX8_stroke 52 = .ok (.if_icmp .ge 6, 3) := by decide +kernel
theorem dX8_stroke_55 : decode cX8_stroke 55 = .ok (.ldc 162, 2) := by decide +kernel
theorem dX8_stroke_57 : decode cX8_stroke 57 = .ok (.ireturn, 1) := by decide +kernel
theorem dX8_stroke_58 : decode cX8_stroke 58 = .ok (.aload_n 0, 1) := by decide +kernel
theorem dX8_stroke_59 : decode cX8_stroke 59 = .ok (.getfield 35, 3) := by decide +kernel
theorem dX8_stroke_62 : decode cX8_stroke 62 = .ok (.iload_n 1, 1) := by decide +kernel
theorem dX8_stroke_63 : decode cX8_stroke 63 = .ok (.iload_n 2, 1) := by decide +kernel
theorem dX8_stroke_64 : decode cX8_stroke 64 = .ok (.iload_n 3, 1) := by decide +kernel
theorem dX8_stroke_65 : decode cX8_stroke 65 = .ok (.invokevirtual 163, 3) := by decide +kernel
theorem dX8_stroke_68 : decode cX8_stroke 68 = .ok (.aload_n 0, 1) := by decide +kernel
theorem dX8_stroke_69 : decode cX8_stroke 69 = .ok (.getfield 35, 3) := by decide +kernel
theorem dX8_stroke_72 : decode cX8_stroke 72 = .ok (.iload_n 2, 1) := by decide +kernel
theorem dX8_stroke_73 : decode cX8_stroke 73 = .ok (.invokevirtual 106, 3) := by decide +kernel
theorem dX8_stroke_76 : decode cX8_stroke 76 = .ok (.ireturn, 1) := by decide +kernel
theorem dX8_undo_0 : decode cX8_undo 0 = .ok (.aload_n 0, 1) := by decide +kernel
theorem dX8_undo_1 : decode cX8_undo 1 = .ok (.getfield 35, 3) := by decide +kernel
theorem dX8_undo_4 : decode cX8_undo 4 = .ok (.invokevirtual 166, 3) := by decide +kernel
theorem dX8_undo_7 : decode cX8_undo 7 = .ok (.ifCond .ne 6, 3) := by decide +kernel
theorem dX8_undo_10 : decode cX8_undo 10 = .ok (.bipush (-2), 2) := by decide +kernel
theorem dX8_undo_12 : decode cX8_undo 12 = .ok (.ireturn, 1) := by decide +kernel
theorem dX8_undo_13 : decode cX8_undo 13 = .ok (.aload_n 0, 1) := by decide +kernel
theorem dX8_undo_14 : decode cX8_undo 14 = .ok (.getfield 35, 3) := by decide +kernel
theorem dX8_undo_17 : decode cX8_undo 17 = .ok (.invokevirtual 167, 3) := by decide +kernel
theorem dX8_undo_20 : decode cX8_undo 20 = .ok (.aload_n 0, 1) := by decide +kernel
theorem dX8_undo_21 : decode cX8_undo 21 = .ok (.getfield 35, 3) := by decide +kernel
theorem dX8_undo_24 : decode cX8_undo 24 = .ok (.invokevirtual 166, 3) := by decide +kernel
theorem dX8_undo_27 : decode cX8_undo 27 = .ok (.ireturn, 1) := by decide +kernel
theorem dX8_replay_0 : decode cX8_replay 0 = .ok (.aload_n 0, 1) := by decide +kernel
theorem dX8_replay_1 : decode cX8_replay 1 = .ok (.iload_n 1, 1) := by decide +kernel
theorem dX8_replay_2 : decode cX8_replay 2 = .ok (.invokevirtual 95, 3) := by decide +kernel
theorem dX8_replay_5 : decode cX8_replay 5 = .ok (.ifCond .eq 18, 3) := by decide +kernel
theorem dX8_replay_8 : decode cX8_replay 8 = .ok (.iload_n 2, 1) := by decide +kernel
theorem dX8_replay_9 : decode cX8_replay 9 = .ok (.iconst 0, 1) := by decide +kernel
theorem dX8_replay_10 : decode cX8_replay 10 = .ok (.aload_n 0, 1) := by decide +kernel
theorem dX8_replay_11 : decode cX8_replay 11 = .ok (.getfield 35, 3) := by decide +kernel
theorem dX8_replay_14 : decode cX8_replay 14 = .ok (.invokevirtual 166, 3) := by decide +kernel
theorem dX8_replay_17 : decode cX8_replay 17 = .ok (.invokestatic 73, 3) := by decide +kernel
theorem dX8_replay_20 : decode cX8_replay 20 = .ok (.ifCond .ne 6, 3) := by decide +kernel
theorem dX8_replay_23 : decode cX8_replay 23 = .ok (.ldc 101, 2) := by decide +kernel
theorem dX8_replay_25 : decode cX8_replay 25 = .ok (.ireturn, 1) := by decide +kernel
theorem dX8_replay_26 : decode cX8_replay 26 = .ok (.aload_n 0, 1) := by decide +kernel
theorem dX8_replay_27 : decode cX8_replay 27 = .ok (.getfield 35, 3) := by decide +kernel
theorem dX8_replay_30 : decode cX8_replay 30 = .ok (.iload_n 1, 1) := by decide +kernel
theorem dX8_replay_31 : decode cX8_replay 31 = .ok (.iload_n 2, 1) := by decide +kernel
theorem dX8_replay_32 : decode cX8_replay 32 = .ok (.invokevirtual 170, 3) := by decide +kernel
theorem dX8_replay_35 : decode cX8_replay 35 = .ok (.ireturn, 1) := by decide +kernel
theorem dX8_plan_0 : decode cX8_plan 0 = .ok (.iload_n 1, 1) := by decide +kernel
theorem dX8_plan_1 : decode cX8_plan 1 = .ok (.invokestatic 146, 3) := by decide +kernel
theorem dX8_plan_4 : decode cX8_plan 4 = .ok (.ifCond .eq 16, 3) := by decide +kernel
theorem dX8_plan_7 : decode cX8_plan 7 = .ok (.iload_n 2, 1) := by decide +kernel
theorem dX8_plan_8 : decode cX8_plan 8 = .ok (.iconst (-1), 1) := by decide +kernel
theorem dX8_plan_9 : decode cX8_plan 9 = .ok (.if_icmp .eq 13, 3) := by decide +kernel
theorem dX8_plan_12 : decode cX8_plan 12 = .ok (.aload_n 0, 1) := by decide +kernel
theorem dX8_plan_13 : decode cX8_plan 13 = .ok (.iload_n 2, 1) := by decide +kernel
theorem dX8_plan_14 : decode cX8_plan 14 = .ok (.invokevirtual 95, 3) := by decide +kernel
theorem dX8_plan_17 : decode cX8_plan 17 = .ok (.ifCond .ne 5, 3) := by decide +kernel
theorem dX8_plan_20 : decode cX8_plan 20 = .ok (.iconst (-1), 1) := by decide +kernel
theorem dX8_plan_21 : decode cX8_plan 21 = .ok (.ireturn, 1) := by decide +kernel
theorem dX8_plan_22 : decode cX8_plan 22 = .ok (.aload_n 0, 1) := by decide +kernel
theorem dX8_plan_23 : decode cX8_plan 23 = .ok (.getfield 44, 3) := by decide +kernel
theorem dX8_plan_26 : decode cX8_plan 26 = .ok (.iload_n 1, 1) := by decide +kernel
theorem dX8_plan_27 : decode cX8_plan 27 = .ok (.invokevirtual 173, 3) := by decide +kernel
theorem dX8_plan_30 : decode cX8_plan 30 = .ok (.ifCond .ne 6, 3) := by decide +kernel
theorem dX8_plan_33 : decode cX8_plan 33 = .ok (.bipush (-4), 2) := by decide +kernel
theorem dX8_plan_35 : decode cX8_plan 35 = .ok (.ireturn, 1) := by decide +kernel
theorem dX8_plan_36 : decode cX8_plan 36 = .ok (.iload_n 2, 1) := by decide +kernel
theorem dX8_plan_37 : decode cX8_plan 37 = .ok (.iconst (-1), 1) := by decide +kernel
theorem dX8_plan_38 : decode cX8_plan 38 = .ok (.if_icmp .ne 14, 3) := by decide +kernel
theorem dX8_plan_41 : decode cX8_plan 41 = .ok (.aload_n 0, 1) := by decide +kernel
theorem dX8_plan_42 : decode cX8_plan 42 = .ok (.getfield 44, 3) := by decide +kernel
theorem dX8_plan_45 : decode cX8_plan 45 = .ok (.iload_n 1, 1) := by decide +kernel
theorem dX8_plan_46 : decode cX8_plan 46 = .ok (.invokevirtual 176, 3) := by decide +kernel
theorem dX8_plan_49 : decode cX8_plan 49 = .ok (.goto 12, 3) := by decide +kernel
theorem dX8_plan_52 : decode cX8_plan 52 = .ok (.aload_n 0, 1) := by decide +kernel
theorem dX8_plan_53 : decode cX8_plan 53 = .ok (.getfield 44, 3) := by decide +kernel
theorem dX8_plan_56 : decode cX8_plan 56 = .ok (.iload_n 1, 1) := by decide +kernel
theorem dX8_plan_57 : decode cX8_plan 57 = .ok (.iload_n 2, 1) := by decide +kernel
theorem dX8_plan_58 : decode cX8_plan 58 = .ok (.invokevirtual 179, 3) := by decide +kernel
theorem dX8_plan_61 : decode cX8_plan 61 = .ok (.ireturn, 1) := by decide +kernel
theorem dX8_right_0 : decode cX8_right 0 = .ok (.iload_n 1, 1) := by decide +kernel
theorem dX8_right_1 : decode cX8_right 1 = .ok (.invokestatic 146, 3) := by decide +kernel
theorem dX8_right_4 : decode cX8_right 4 = .ok (.ifCond .eq 14, 3) := by decide +kernel
theorem dX8_right_7 : decode cX8_right 7 = .ok (.aload_n 0, 1) := by decide +kernel
theorem dX8_right_8 : decode cX8_right 8 = .ok (.getfield 44, 3) := by decide +kernel
theorem dX8_right_11 : decode cX8_right 11 = .ok (.iload_n 1, 1) := by decide +kernel
theorem dX8_right_12 : decode cX8_right 12 = .ok (.invokevirtual 182, 3) := by decide +kernel
theorem dX8_right_15 : decode cX8_right 15 = .ok (.goto 4, 3) := by decide +kernel
theorem dX8_right_18 : decode cX8_right 18 = .ok (.iconst (-1), 1) := by decide +kernel
theorem dX8_right_19 : decode cX8_right 19 = .ok (.ireturn, 1) := by decide +kernel
theorem dX8_work_0 : decode cX8_work 0 = .ok (.iload_n 1, 1) := by decide +kernel
theorem dX8_work_1 : decode cX8_work 1 = .ok (.invokestatic 146, 3) := by decide +kernel
theorem dX8_work_4 : decode cX8_work 4 = .ok (.ifCond .ne 5, 3) := by decide +kernel
theorem dX8_work_7 : decode cX8_work 7 = .ok (.iconst (-1), 1) := by decide +kernel
theorem dX8_work_8 : decode cX8_work 8 = .ok (.ireturn, 1) := by decide +kernel
theorem dX8_work_9 : decode cX8_work 9 = .ok (.aload_n 0, 1) := by decide +kernel
theorem dX8_work_10 : decode cX8_work 10 = .ok (.getfield 44, 3) := by decide +kernel
theorem dX8_work_13 : decode cX8_work 13 = .ok (.iload_n 1, 1) := by decide +kernel
theorem dX8_work_14 : decode cX8_work 14 = .ok (.invokevirtual 173, 3) := by decide +kernel
theorem dX8_work_17 : decode cX8_work 17 = .ok (.ifCond .ne 6, 3) := by decide +kernel
theorem dX8_work_20 : decode cX8_work 20 = .ok (.bipush (-2), 2) := by decide +kernel
theorem dX8_work_22 : decode cX8_work 22 = .ok (.ireturn, 1) := by decide +kernel
theorem dX8_work_23 : decode cX8_work 23 = .ok (.aload_n 0, 1) := by decide +kernel
theorem dX8_work_24 : decode cX8_work 24 = .ok (.getfield 44, 3) := by decide +kernel
theorem dX8_work_27 : decode cX8_work 27 = .ok (.iload_n 1, 1) := by decide +kernel
theorem dX8_work_28 : decode cX8_work 28 = .ok (.invokevirtual 185, 3) := by decide +kernel
theorem dX8_work_31 : decode cX8_work 31 = .ok (.istore_n 2, 1) := by decide +kernel
theorem dX8_work_32 : decode cX8_work 32 = .ok (.iload_n 2, 1) := by decide +kernel
theorem dX8_work_33 : decode cX8_work 33 = .ok (.aload_n 0, 1) := by decide +kernel
theorem dX8_work_34 : decode cX8_work 34 = .ok (.getfield 35, 3) := by decide +kernel
theorem dX8_work_37 : decode cX8_work 37 = .ok (.invokevirtual 159, 3) := by decide +kernel
theorem dX8_work_40 : decode cX8_work 40 = .ok (.if_icmp .le 6, 3) := by decide +kernel
theorem dX8_work_43 : decode cX8_work 43 = .ok (.bipush (-3), 2) := by decide +kernel
theorem dX8_work_45 : decode cX8_work 45 = .ok (.ireturn, 1) := by decide +kernel
theorem dX8_work_46 : decode cX8_work 46 = .ok (.aload_n 0, 1) := by decide +kernel
theorem dX8_work_47 : decode cX8_work 47 = .ok (.getfield 44, 3) := by decide +kernel
theorem dX8_work_50 : decode cX8_work 50 = .ok (.iload_n 1, 1) := by decide +kernel
theorem dX8_work_51 : decode cX8_work 51 = .ok (.invokevirtual 188, 3) := by decide +kernel
theorem dX8_work_54 : decode cX8_work 54 = .ok (.iload_n 2, 1) := by decide +kernel
theorem dX8_work_55 : decode cX8_work 55 = .ok (.ireturn, 1) := by decide +kernel
theorem dX8_bend_0 : decode cX8_bend 0 = .ok (.iload_n 1, 1) := by decide +kernel
theorem dX8_bend_1 : decode cX8_bend 1 = .ok (.iconst 0, 1) := by decide +kernel
theorem dX8_bend_2 : decode cX8_bend 2 = .ok (.bipush 6, 2) := by decide +kernel
theorem dX8_bend_4 : decode cX8_bend 4 = .ok (.invokestatic 73, 3) := by decide +kernel
theorem dX8_bend_7 : decode cX8_bend 7 = .ok (.ifCond .eq 24, 3) := by decide +kernel
theorem dX8_bend_10 : decode cX8_bend 10 = .ok (.aload_n 0, 1) := by decide +kernel
theorem dX8_bend_11 : decode cX8_bend 11 = .ok (.iload_n 2, 1) := by decide +kernel
theorem dX8_bend_12 : decode cX8_bend 12 = .ok (.invokevirtual 95, 3) := by decide +kernel
theorem dX8_bend_15 : decode cX8_bend 15 = .ok (.ifCond .eq 16, 3) := by decide +kernel
theorem dX8_bend_18 : decode cX8_bend 18 = .ok (.iload_n 3, 1) := by decide +kernel
theorem dX8_bend_19 : decode cX8_bend 19 = .ok (.sipush (-500), 3) := by decide +kernel
theorem dX8_bend_22 : decode cX8_bend 22 = .ok (.sipush 500, 3) := by decide +kernel
theorem dX8_bend_25 : decode cX8_bend 25 = .ok (.invokestatic 73, 3) := by decide +kernel
theorem dX8_bend_28 : decode cX8_bend 28 = .ok (.ifCond .ne 7, 3) := by decide +kernel
theorem dX8_bend_31 : decode cX8_bend 31 = .ok (.sipush (-1000), 3) := by decide +kernel
theorem dX8_bend_34 : decode cX8_bend 34 = .ok (.ireturn, 1) := by decide +kernel
theorem dX8_bend_35 : decode cX8_bend 35 = .ok (.aload_n 0, 1) := by decide +kernel
theorem dX8_bend_36 : decode cX8_bend 36 = .ok (.getfield 51, 3) := by decide +kernel
theorem dX8_bend_39 : decode cX8_bend 39 = .ok (.iload_n 1, 1) := by decide +kernel
theorem dX8_bend_40 : decode cX8_bend 40 = .ok (.iload_n 2, 1) := by decide +kernel
theorem dX8_bend_41 : decode cX8_bend 41 = .ok (.iload_n 3, 1) := by decide +kernel
theorem dX8_bend_42 : decode cX8_bend 42 = .ok (.invokevirtual 191, 3) := by decide +kernel
theorem dX8_bend_45 : decode cX8_bend 45 = .ok (.ireturn, 1) := by decide +kernel
theorem dX8_bear_0 : decode cX8_bear 0 = .ok (.iload_n 1, 1) := by decide +kernel
theorem dX8_bear_1 : decode cX8_bear 1 = .ok (.iconst (-1), 1) := by decide +kernel
theorem dX8_bear_2 : decode cX8_bear 2 = .ok (.if_icmp .ne 11, 3) := by decide +kernel
theorem dX8_bear_5 : decode cX8_bear 5 = .ok (.aload_n 0, 1) := by decide +kernel
theorem dX8_bear_6 : decode cX8_bear 6 = .ok (.getfield 51, 3) := by decide +kernel
theorem dX8_bear_9 : decode cX8_bear 9 = .ok (.invokevirtual 194, 3) := by decide +kernel
theorem dX8_bear_12 : decode cX8_bear 12 = .ok (.ireturn, 1) := by decide +kernel
theorem dX8_bear_13 : decode cX8_bear 13 = .ok (.iload_n 1, 1) := by decide +kernel
theorem dX8_bear_14 : decode cX8_bear 14 = .ok (.iconst 0, 1) := by decide +kernel
theorem dX8_bear_15 : decode cX8_bear 15 = .ok (.iconst 5, 1) := by decide +kernel
theorem dX8_bear_16 : decode cX8_bear 16 = .ok (.invokestatic 73, 3) := by decide +kernel
theorem dX8_bear_19 : decode cX8_bear 19 = .ok (.ifCond .eq 14, 3) := by decide +kernel
theorem dX8_bear_22 : decode cX8_bear 22 = .ok (.aload_n 0, 1) := by decide +kernel
theorem dX8_bear_23 : decode cX8_bear 23 = .ok (.getfield 51, 3) := by decide +kernel
theorem dX8_bear_26 : decode cX8_bear 26 = .ok (.iload_n 1, 1) := by decide +kernel
theorem dX8_bear_27 : decode cX8_bear 27 = .ok (.invokevirtual 197, 3) := by decide +kernel
theorem dX8_bear_30 : decode cX8_bear 30 = .ok (.goto 4, 3) := by decide +kernel
theorem dX8_bear_33 : decode cX8_bear 33 = .ok (.iconst (-1), 1) := by decide +kernel
theorem dX8_bear_34 : decode cX8_bear 34 = .ok (.ireturn, 1) := by decide +kernel
theorem dX8_warm_0 : decode cX8_warm 0 = .ok (.iload_n 1, 1) := by decide +kernel
theorem dX8_warm_1 : decode cX8_warm 1 = .ok (.iconst 0, 1) := by decide +kernel
theorem dX8_warm_2 : decode cX8_warm 2 = .ok (.bipush 8, 2) := by decide +kernel
theorem dX8_warm_4 : decode cX8_warm 4 = .ok (.invokestatic 73, 3) := by decide +kernel
theorem dX8_warm_7 : decode cX8_warm 7 = .ok (.ifCond .eq 14, 3) := by decide +kernel
theorem dX8_warm_10 : decode cX8_warm 10 = .ok (.iload_n 2, 1) := by decide +kernel
theorem dX8_warm_11 : decode cX8_warm 11 = .ok (.ldc 99, 2) := by decide +kernel
theorem dX8_warm_13 : decode cX8_warm 13 = .ok (.ldc 100, 2) := by decide +kernel
theorem dX8_warm_15 : decode cX8_warm 15 = .ok (.invokestatic 73, 3) := by decide +kernel
theorem dX8_warm_18 : decode cX8_warm 18 = .ok (.ifCond .ne 6, 3) := by decide +kernel
theorem dX8_warm_21 : decode cX8_warm 21 = .ok (.ldc 101, 2) := by decide +kernel
theorem dX8_warm_23 : decode cX8_warm 23 = .ok (.ireturn, 1) := by decide +kernel
theorem dX8_warm_24 : decode cX8_warm 24 = .ok (.aload_n 0, 1) := by decide +kernel
theorem dX8_warm_25 : decode cX8_warm 25 = .ok (.getfield 58, 3) := by decide +kernel
theorem dX8_warm_28 : decode cX8_warm 28 = .ok (.iload_n 1, 1) := by decide +kernel
theorem dX8_warm_29 : decode cX8_warm 29 = .ok (.iload_n 2, 1) := by decide +kernel
theorem dX8_warm_30 : decode cX8_warm 30 = .ok (.invokevirtual 200, 3) := by decide +kernel
theorem dX8_warm_33 : decode cX8_warm 33 = .ok (.ireturn, 1) := by decide +kernel
theorem dX8_cool_0 : decode cX8_cool 0 = .ok (.iload_n 1, 1) := by decide +kernel
theorem dX8_cool_1 : decode cX8_cool 1 = .ok (.iconst 1, 1) := by decide +kernel
theorem dX8_cool_2 : decode cX8_cool 2 = .ok (.sipush 1000, 3) := by decide +kernel
theorem dX8_cool_5 : decode cX8_cool 5 = .ok (.invokestatic 73, 3) := by decide +kernel
theorem dX8_cool_8 : decode cX8_cool 8 = .ok (.ifCond .eq 14, 3) := by decide +kernel
theorem dX8_cool_11 : decode cX8_cool 11 = .ok (.aload_n 0, 1) := by decide +kernel
theorem dX8_cool_12 : decode cX8_cool 12 = .ok (.getfield 58, 3) := by decide +kernel
theorem dX8_cool_15 : decode cX8_cool 15 = .ok (.iload_n 1, 1) := by decide +kernel
theorem dX8_cool_16 : decode cX8_cool 16 = .ok (.invokevirtual 203, 3) := by decide +kernel
theorem dX8_cool_19 : decode cX8_cool 19 = .ok (.goto 4, 3) := by decide +kernel
theorem dX8_cool_22 : decode cX8_cool 22 = .ok (.iconst (-1), 1) := by decide +kernel
theorem dX8_cool_23 : decode cX8_cool 23 = .ok (.ireturn, 1) := by decide +kernel
theorem dX8_still_0 : decode cX8_still 0 = .ok (.iload_n 1, 1) := by decide +kernel
theorem dX8_still_1 : decode cX8_still 1 = .ok (.iconst 0, 1) := by decide +kernel
theorem dX8_still_2 : decode cX8_still 2 = .ok (.ldc 100, 2) := by decide +kernel
theorem dX8_still_4 : decode cX8_still 4 = .ok (.invokestatic 73, 3) := by decide +kernel
theorem dX8_still_7 : decode cX8_still 7 = .ok (.ifCond .eq 14, 3) := by decide +kernel
theorem dX8_still_10 : decode cX8_still 10 = .ok (.aload_n 0, 1) := by decide +kernel
theorem dX8_still_11 : decode cX8_still 11 = .ok (.getfield 58, 3) := by decide +kernel
theorem dX8_still_14 : decode cX8_still 14 = .ok (.iload_n 1, 1) := by decide +kernel
theorem dX8_still_15 : decode cX8_still 15 = .ok (.invokevirtual 206, 3) := by decide +kernel
theorem dX8_still_18 : decode cX8_still 18 = .ok (.goto 4, 3) := by decide +kernel
theorem dX8_still_21 : decode cX8_still 21 = .ok (.iconst (-1), 1) := by decide +kernel
theorem dX8_still_22 : decode cX8_still 22 = .ok (.ireturn, 1) := by decide +kernel
theorem dX8_warmth_0 : decode cX8_warmth 0 = .ok (.iload_n 1, 1) := by decide +kernel
theorem dX8_warmth_1 : decode cX8_warmth 1 = .ok (.iconst 0, 1) := by decide +kernel
theorem dX8_warmth_2 : decode cX8_warmth 2 = .ok (.bipush 8, 2) := by decide +kernel
theorem dX8_warmth_4 : decode cX8_warmth 4 = .ok (.invokestatic 73, 3) := by decide +kernel
theorem dX8_warmth_7 : decode cX8_warmth 7 = .ok (.ifCond .eq 14, 3) := by decide +kernel
theorem dX8_warmth_10 : decode cX8_warmth 10 = .ok (.aload_n 0, 1) := by decide +kernel
theorem dX8_warmth_11 : decode cX8_warmth 11 = .ok (.getfield 58, 3) := by decide +kernel
theorem dX8_warmth_14 : decode cX8_warmth 14 = .ok (.iload_n 1, 1) := by decide +kernel
theorem dX8_warmth_15 : decode cX8_warmth 15 = .ok (.invokevirtual 209, 3) := by decide +kernel
theorem dX8_warmth_18 : decode cX8_warmth 18 = .ok (.goto 5, 3) := by decide +kernel
theorem dX8_warmth_21 : decode cX8_warmth 21 = .ok (.ldc 101, 2) := by decide +kernel
theorem dX8_warmth_23 : decode cX8_warmth 23 = .ok (.ireturn, 1) := by decide +kernel
theorem dX8_grit_0 : decode cX8_grit 0 = .ok (.iload_n 1, 1) := by decide +kernel
theorem dX8_grit_1 : decode cX8_grit 1 = .ok (.iconst 1, 1) := by decide +kernel
theorem dX8_grit_2 : decode cX8_grit 2 = .ok (.bipush 100, 2) := by decide +kernel
theorem dX8_grit_4 : decode cX8_grit 4 = .ok (.invokestatic 73, 3) := by decide +kernel
theorem dX8_grit_7 : decode cX8_grit 7 = .ok (.ifCond .eq 14, 3) := by decide +kernel
theorem dX8_grit_10 : decode cX8_grit 10 = .ok (.iload_n 2, 1) := by decide +kernel
theorem dX8_grit_11 : decode cX8_grit 11 = .ok (.iconst 0, 1) := by decide +kernel
theorem dX8_grit_12 : decode cX8_grit 12 = .ok (.sipush 200, 3) := by decide +kernel
theorem dX8_grit_15 : decode cX8_grit 15 = .ok (.invokestatic 73, 3) := by decide +kernel
theorem dX8_grit_18 : decode cX8_grit 18 = .ok (.ifCond .ne 5, 3) := by decide +kernel
theorem dX8_grit_21 : decode cX8_grit 21 = .ok (.iconst (-1), 1) := by decide +kernel
theorem dX8_grit_22 : decode cX8_grit 22 = .ok (.ireturn, 1) := by decide +kernel
theorem dX8_grit_23 : decode cX8_grit 23 = .ok (.aload_n 0, 1) := by decide +kernel
theorem dX8_grit_24 : decode cX8_grit 24 = .ok (.getfield 65, 3) := by decide +kernel
theorem dX8_grit_27 : decode cX8_grit 27 = .ok (.invokevirtual 212, 3) := by decide +kernel
theorem dX8_grit_30 : decode cX8_grit 30 = .ok (.bipush 6, 2) := by decide +kernel
theorem dX8_grit_32 : decode cX8_grit 32 = .ok (.if_icmp .ge 15, 3) := by decide +kernel
theorem dX8_grit_35 : decode cX8_grit 35 = .ok (.aload_n 0, 1) := by decide +kernel
theorem dX8_grit_36 : decode cX8_grit 36 = .ok (.getfield 65, 3) := by decide +kernel
theorem dX8_grit_39 : decode cX8_grit 39 = .ok (.iload_n 1, 1) := by decide +kernel
theorem dX8_grit_40 : decode cX8_grit 40 = .ok (.iload_n 2, 1) := by decide +kernel
theorem dX8_grit_41 : decode cX8_grit 41 = .ok (.invokevirtual 213, 3) := by decide +kernel
theorem dX8_grit_44 : decode cX8_grit 44 = .ok (.goto 5, 3) := by decide +kernel
theorem dX8_grit_47 : decode cX8_grit 47 = .ok (.bipush (-3), 2) := by decide +kernel
theorem dX8_grit_49 : decode cX8_grit 49 = .ok (.ireturn, 1) := by decide +kernel
theorem dX8_slack_0 : decode cX8_slack 0 = .ok (.iload_n 1, 1) := by decide +kernel
theorem dX8_slack_1 : decode cX8_slack 1 = .ok (.iconst 0, 1) := by decide +kernel
theorem dX8_slack_2 : decode cX8_slack 2 = .ok (.bipush 100, 2) := by decide +kernel
theorem dX8_slack_4 : decode cX8_slack 4 = .ok (.invokestatic 73, 3) := by decide +kernel
theorem dX8_slack_7 : decode cX8_slack 7 = .ok (.ifCond .eq 14, 3) := by decide +kernel
theorem dX8_slack_10 : decode cX8_slack 10 = .ok (.aload_n 0, 1) := by decide +kernel
theorem dX8_slack_11 : decode cX8_slack 11 = .ok (.getfield 65, 3) := by decide +kernel
theorem dX8_slack_14 : decode cX8_slack 14 = .ok (.iload_n 1, 1) := by decide +kernel
theorem dX8_slack_15 : decode cX8_slack 15 = .ok (.invokevirtual 216, 3) := by decide +kernel
theorem dX8_slack_18 : decode cX8_slack 18 = .ok (.goto 4, 3) := by decide +kernel
theorem dX8_slack_21 : decode cX8_slack 21 = .ok (.iconst (-1), 1) := by decide +kernel
theorem dX8_slack_22 : decode cX8_slack 22 = .ok (.ireturn, 1) := by decide +kernel
theorem dX8_wets_0 : decode cX8_wets 0 = .ok (.iload_n 1, 1) := by decide +kernel
theorem dX8_wets_1 : decode cX8_wets 1 = .ok (.iconst 1, 1) := by decide +kernel
theorem dX8_wets_2 : decode cX8_wets 2 = .ok (.sipush 2000, 3) := by decide +kernel
theorem dX8_wets_5 : decode cX8_wets 5 = .ok (.invokestatic 73, 3) := by decide +kernel
theorem dX8_wets_8 : decode cX8_wets 8 = .ok (.ifCond .eq 20, 3) := by decide +kernel
theorem dX8_wets_11 : decode cX8_wets 11 = .ok (.iload_n 2, 1) := by decide +kernel
theorem dX8_wets_12 : decode cX8_wets 12 = .ok (.iconst (-1), 1) := by decide +kernel
theorem dX8_wets_13 : decode cX8_wets 13 = .ok (.aload_n 0, 1) := by decide +kernel
theorem dX8_wets_14 : decode cX8_wets 14 = .ok (.getfield 65, 3) := by decide +kernel
theorem dX8_wets_17 : decode cX8_wets 17 = .ok (.invokevirtual 212, 3) := by decide +kernel
theorem dX8_wets_20 : decode cX8_wets 20 = .ok (.iconst 1, 1) := by decide +kernel
theorem dX8_wets_21 : decode cX8_wets 21 = .ok (.isub, 1) := by decide +kernel
theorem dX8_wets_22 : decode cX8_wets 22 = .ok (.invokestatic 73, 3) := by decide +kernel
theorem dX8_wets_25 : decode cX8_wets 25 = .ok (.ifCond .ne 5, 3) := by decide +kernel
theorem dX8_wets_28 : decode cX8_wets 28 = .ok (.iconst (-1), 1) := by decide +kernel
theorem dX8_wets_29 : decode cX8_wets 29 = .ok (.ireturn, 1) := by decide +kernel
theorem dX8_wets_30 : decode cX8_wets 30 = .ok (.iload_n 2, 1) := by decide +kernel
theorem dX8_wets_31 : decode cX8_wets 31 = .ok (.iconst (-1), 1) := by decide +kernel
theorem dX8_wets_32 : decode cX8_wets 32 = .ok (.if_icmp .ne 14, 3) := by decide +kernel
theorem dX8_wets_35 : decode cX8_wets 35 = .ok (.aload_n 0, 1) := by decide +kernel
theorem dX8_wets_36 : decode cX8_wets 36 = .ok (.getfield 65, 3) := by decide +kernel
theorem dX8_wets_39 : decode cX8_wets 39 = .ok (.iload_n 1, 1) := by decide +kernel
theorem dX8_wets_40 : decode cX8_wets 40 = .ok (.invokevirtual 219, 3) := by decide +kernel
theorem dX8_wets_43 : decode cX8_wets 43 = .ok (.goto 12, 3) := by decide +kernel
theorem dX8_wets_46 : decode cX8_wets 46 = .ok (.aload_n 0, 1) := by decide +kernel
theorem dX8_wets_47 : decode cX8_wets 47 = .ok (.getfield 65, 3) := by decide +kernel
theorem dX8_wets_50 : decode cX8_wets 50 = .ok (.iload_n 1, 1) := by decide +kernel
theorem dX8_wets_51 : decode cX8_wets 51 = .ok (.iload_n 2, 1) := by decide +kernel
theorem dX8_wets_52 : decode cX8_wets 52 = .ok (.invokevirtual 222, 3) := by decide +kernel
theorem dX8_wets_55 : decode cX8_wets 55 = .ok (.ireturn, 1) := by decide +kernel
theorem dX8_count_0 : decode cX8_count 0 = .ok (.iload_n 1, 1) := by decide +kernel
theorem dX8_count_1 : decode cX8_count 1 = .ok (.tableswitch 84 0 5 #[39, 44, 52, 60, 68, 76], 39) := by decide +kernel
theorem dX8_count_40 : decode cX8_count 40 = .ok (.aload_n 0, 1) := by decide +kernel
theorem dX8_count_41 : decode cX8_count 41 = .ok (.getfield 69, 3) := by decide +kernel
theorem dX8_count_44 : decode cX8_count 44 = .ok (.ireturn, 1) := by decide +kernel
theorem dX8_count_45 : decode cX8_count 45 = .ok (.aload_n 0, 1) := by decide +kernel
theorem dX8_count_46 : decode cX8_count 46 = .ok (.getfield 19, 3) := by decide +kernel
theorem dX8_count_49 : decode cX8_count 49 = .ok (.invokevirtual 225, 3) := by decide +kernel
theorem dX8_count_52 : decode cX8_count 52 = .ok (.ireturn, 1) := by decide +kernel
theorem dX8_count_53 : decode cX8_count 53 = .ok (.aload_n 0, 1) := by decide +kernel
theorem dX8_count_54 : decode cX8_count 54 = .ok (.getfield 28, 3) := by decide +kernel
theorem dX8_count_57 : decode cX8_count 57 = .ok (.invokevirtual 134, 3) := by decide +kernel
theorem dX8_count_60 : decode cX8_count 60 = .ok (.ireturn, 1) := by decide +kernel
theorem dX8_count_61 : decode cX8_count 61 = .ok (.aload_n 0, 1) := by decide +kernel
theorem dX8_count_62 : decode cX8_count 62 = .ok (.getfield 35, 3) := by decide +kernel
theorem dX8_count_65 : decode cX8_count 65 = .ok (.invokevirtual 166, 3) := by decide +kernel
theorem dX8_count_68 : decode cX8_count 68 = .ok (.ireturn, 1) := by decide +kernel
theorem dX8_count_69 : decode cX8_count 69 = .ok (.aload_n 0, 1) := by decide +kernel
theorem dX8_count_70 : decode cX8_count 70 = .ok (.getfield 35, 3) := by decide +kernel
theorem dX8_count_73 : decode cX8_count 73 = .ok (.invokevirtual 228, 3) := by decide +kernel
theorem dX8_count_76 : decode cX8_count 76 = .ok (.ireturn, 1) := by decide +kernel
theorem dX8_count_77 : decode cX8_count 77 = .ok (.aload_n 0, 1) := by decide +kernel
theorem dX8_count_78 : decode cX8_count 78 = .ok (.getfield 65, 3) := by decide +kernel
theorem dX8_count_81 : decode cX8_count 81 = .ok (.invokevirtual 212, 3) := by decide +kernel
theorem dX8_count_84 : decode cX8_count 84 = .ok (.ireturn, 1) := by decide +kernel
theorem dX8_count_85 : decode cX8_count 85 = .ok (.iconst (-1), 1) := by decide +kernel
theorem dX8_count_86 : decode cX8_count 86 = .ok (.ireturn, 1) := by decide +kernel
theorem dX8_within_0 : decode cX8_within 0 = .ok (.iload_n 0, 1) := by decide +kernel
theorem dX8_within_1 : decode cX8_within 1 = .ok (.iload_n 1, 1) := by decide +kernel
theorem dX8_within_2 : decode cX8_within 2 = .ok (.if_icmp .lt 12, 3) := by decide +kernel
theorem dX8_within_5 : decode cX8_within 5 = .ok (.iload_n 0, 1) := by decide +kernel
theorem dX8_within_6 : decode cX8_within 6 = .ok (.iload_n 2, 1) := by decide +kernel
theorem dX8_within_7 : decode cX8_within 7 = .ok (.if_icmp .gt 7, 3) := by decide +kernel
theorem dX8_within_10 : decode cX8_within 10 = .ok (.iconst 1, 1) := by decide +kernel
theorem dX8_within_11 : decode cX8_within 11 = .ok (.goto 4, 3) := by decide +kernel
theorem dX8_within_14 : decode cX8_within 14 = .ok (.iconst 0, 1) := by decide +kernel
theorem dX8_within_15 : decode cX8_within 15 = .ok (.ireturn, 1) := by decide +kernel
theorem dX8_isTool_0 : decode cX8_isTool 0 = .ok (.iload_n 0, 1) := by decide +kernel
theorem dX8_isTool_1 : decode cX8_isTool 1 = .ok (.iconst 0, 1) := by decide +kernel
theorem dX8_isTool_2 : decode cX8_isTool 2 = .ok (.iconst 2, 1) := by decide +kernel
theorem dX8_isTool_3 : decode cX8_isTool 3 = .ok (.invokestatic 73, 3) := by decide +kernel
theorem dX8_isTool_6 : decode cX8_isTool 6 = .ok (.ireturn, 1) := by decide +kernel
theorem dX8_isZone_0 : decode cX8_isZone 0 = .ok (.iload_n 1, 1) := by decide +kernel
theorem dX8_isZone_1 : decode cX8_isZone 1 = .ok (.iconst 0, 1) := by decide +kernel
theorem dX8_isZone_2 : decode cX8_isZone 2 = .ok (.aload_n 0, 1) := by decide +kernel
theorem dX8_isZone_3 : decode cX8_isZone 3 = .ok (.getfield 69, 3) := by decide +kernel
theorem dX8_isZone_6 : decode cX8_isZone 6 = .ok (.iconst 1, 1) := by decide +kernel
theorem dX8_isZone_7 : decode cX8_isZone 7 = .ok (.isub, 1) := by decide +kernel
theorem dX8_isZone_8 : decode cX8_isZone 8 = .ok (.invokestatic 73, 3) := by decide +kernel
theorem dX8_isZone_11 : decode cX8_isZone 11 = .ok (.ireturn, 1) := by decide +kernel
theorem dX8_isStep_0 : decode cX8_isStep 0 = .ok (.iload_n 1, 1) := by decide +kernel
theorem dX8_isStep_1 : decode cX8_isStep 1 = .ok (.iconst 0, 1) := by decide +kernel
theorem dX8_isStep_2 : decode cX8_isStep 2 = .ok (.aload_n 0, 1) := by decide +kernel
theorem dX8_isStep_3 : decode cX8_isStep 3 = .ok (.getfield 69, 3) := by decide +kernel
theorem dX8_isStep_6 : decode cX8_isStep 6 = .ok (.iconst 2, 1) := by decide +kernel
theorem dX8_isStep_7 : decode cX8_isStep 7 = .ok (.isub, 1) := by decide +kernel
theorem dX8_isStep_8 : decode cX8_isStep 8 = .ok (.invokestatic 73, 3) := by decide +kernel
theorem dX8_isStep_11 : decode cX8_isStep 11 = .ok (.ireturn, 1) := by decide +kernel
theorem dX9_init_0 : decode cX9_init 0 = .ok (.aload_n 0, 1) := by decide +kernel
theorem dX9_init_1 : decode cX9_init 1 = .ok (.invokespecial 1, 3) := by decide +kernel
theorem dX9_init_4 : decode cX9_init 4 = .ok (.aload_n 0, 1) := by decide +kernel
theorem dX9_init_5 : decode cX9_init 5 = .ok (.bipush 8, 2) := by decide +kernel
theorem dX9_init_7 : decode cX9_init 7 = .ok (.putfield 7, 3) := by decide +kernel
theorem dX9_init_10 : decode cX9_init 10 = .ok (.aload_n 0, 1) := by decide +kernel
theorem dX9_init_11 : decode cX9_init 11 = .ok (.bipush 16, 2) := by decide +kernel
theorem dX9_init_13 : decode cX9_init 13 = .ok (.newarray .int, 2) := by decide +kernel
theorem dX9_init_15 : decode cX9_init 15 = .ok (.putfield 13, 3) := by decide +kernel
theorem dX9_init_18 : decode cX9_init 18 = .ok (.aload_n 0, 1) := by decide +kernel
theorem dX9_init_19 : decode cX9_init 19 = .ok (.bipush 16, 2) := by decide +kernel
theorem dX9_init_21 : decode cX9_init 21 = .ok (.newarray .int, 2) := by decide +kernel
theorem dX9_init_23 : decode cX9_init 23 = .ok (.putfield 17, 3) := by decide +kernel
theorem dX9_init_26 : decode cX9_init 26 = .ok (.aload_n 0, 1) := by decide +kernel
theorem dX9_init_27 : decode cX9_init 27 = .ok (.sipush 1000, 3) := by decide +kernel
theorem dX9_init_30 : decode cX9_init 30 = .ok (.putfield 20, 3) := by decide +kernel
theorem dX9_init_33 : decode cX9_init 33 = .ok (.aload_n 0, 1) := by decide +kernel
theorem dX9_init_34 : decode cX9_init 34 = .ok (.iconst (-1), 1) := by decide +kernel
theorem dX9_init_35 : decode cX9_init 35 = .ok (.putfield 23, 3) := by decide +kernel
theorem dX9_init_38 : decode cX9_init 38 = .ok (.aload_n 0, 1) := by decide +kernel
theorem dX9_init_39 : decode cX9_init 39 = .ok (.iconst 1, 1) := by decide +kernel
theorem dX9_init_40 : decode cX9_init 40 = .ok (.putfield 26, 3) := by decide +kernel
theorem dX9_init_43 : decode cX9_init 43 = .ok (.aload_n 0, 1) := by decide +kernel
theorem dX9_init_44 : decode cX9_init 44 = .ok (.bipush 45, 2) := by decide +kernel
theorem dX9_init_46 : decode cX9_init 46 = .ok (.newarray .int, 2) := by decide +kernel
theorem dX9_init_48 : decode cX9_init 48 = .ok (.putfield 29, 3) := by decide +kernel
theorem dX9_init_51 : decode cX9_init 51 = .ok (.aload_n 0, 1) := by decide +kernel
theorem dX9_init_52 : decode cX9_init 52 = .ok (.iconst 2, 1) := by decide +kernel
theorem dX9_init_53 : decode cX9_init 53 = .ok (.putfield 32, 3) := by decide +kernel
theorem dX9_init_56 : decode cX9_init 56 = .ok (.aload_n 0, 1) := by decide +kernel
theorem dX9_init_57 : decode cX9_init 57 = .ok (.bipush 12, 2) := by decide +kernel
theorem dX9_init_59 : decode cX9_init 59 = .ok (.newarray .int, 2) := by decide +kernel
theorem dX9_init_61 : decode cX9_init 61 = .ok (.putfield 35, 3) := by decide +kernel
theorem dX9_init_64 : decode cX9_init 64 = .ok (.aload_n 0, 1) := by decide +kernel
theorem dX9_init_65 : decode cX9_init 65 = .ok (.bipush 12, 2) := by decide +kernel
theorem dX9_init_67 : decode cX9_init 67 = .ok (.newarray .int, 2) := by decide +kernel
theorem dX9_init_69 : decode cX9_init 69 = .ok (.putfield 38, 3) := by decide +kernel
theorem dX9_init_72 : decode cX9_init 72 = .ok (.aload_n 0, 1) := by decide +kernel
theorem dX9_init_73 : decode cX9_init 73 = .ok (.bipush 12, 2) := by decide +kernel
theorem dX9_init_75 : decode cX9_init 75 = .ok (.newarray .int, 2) := by decide +kernel
theorem dX9_init_77 : decode cX9_init 77 = .ok (.putfield 41, 3) := by decide +kernel
theorem dX9_init_80 : decode cX9_init 80 = .ok (.aload_n 0, 1) := by decide +kernel
theorem dX9_init_81 : decode cX9_init 81 = .ok (.bipush 15, 2) := by decide +kernel
theorem dX9_init_83 : decode cX9_init 83 = .ok (.newarray .int, 2) := by decide +kernel
theorem dX9_init_85 : decode cX9_init 85 = .ok (.putfield 44, 3) := by decide +kernel
theorem dX9_init_88 : decode cX9_init 88 = .ok (.aload_n 0, 1) := by decide +kernel
theorem dX9_init_89 : decode cX9_init 89 = .ok (.bipush 10, 2) := by decide +kernel
theorem dX9_init_91 : decode cX9_init 91 = .ok (.putfield 47, 3) := by decide +kernel
theorem dX9_init_94 : decode cX9_init 94 = .ok (.aload_n 0, 1) := by decide +kernel
theorem dX9_init_95 : decode cX9_init 95 = .ok (.bipush 60, 2) := by decide +kernel
theorem dX9_init_97 : decode cX9_init 97 = .ok (.newarray .int, 2) := by decide +kernel
theorem dX9_init_99 : decode cX9_init 99 = .ok (.putfield 50, 3) := by decide +kernel
theorem dX9_init_102 : decode cX9_init 102 = .ok (.aload_n 0, 1) := by decide +kernel
theorem dX9_init_103 : decode cX9_init 103 = .ok (.bipush 60, 2) := by decide +kernel
theorem dX9_init_105 : decode cX9_init 105 = .ok (.newarray .int, 2) := by decide +kernel
theorem dX9_init_107 : decode cX9_init 107 = .ok (.putfield 53, 3) := by decide +kernel
theorem dX9_init_110 : decode cX9_init 110 = .ok (.aload_n 0, 1) := by decide +kernel
theorem dX9_init_111 : decode cX9_init 111 = .ok (.bipush 60, 2) := by decide +kernel
theorem dX9_init_113 : decode cX9_init 113 = .ok (.newarray .int, 2) := by decide +kernel
theorem dX9_init_115 : decode cX9_init 115 = .ok (.putfield 56, 3) := by decide +kernel
theorem dX9_init_118 : decode cX9_init 118 = .ok (.aload_n 0, 1) := by decide +kernel
theorem dX9_init_119 : decode cX9_init 119 = .ok (.sipush 300, 3) := by decide +kernel
theorem dX9_init_122 : decode cX9_init 122 = .ok (.newarray .int, 2) := by decide +kernel
theorem dX9_init_124 : decode cX9_init 124 = .ok (.putfield 59, 3) := by decide +kernel
theorem dX9_init_127 : decode cX9_init 127 = .ok (.aload_n 0, 1) := by decide +kernel
theorem dX9_init_128 : decode cX9_init 128 = .ok (.bipush 112, 2) := by decide +kernel
theorem dX9_init_130 : decode cX9_init 130 = .ok (.newarray .int, 2) := by decide +kernel
theorem dX9_init_132 : decode cX9_init 132 = .ok (.putfield 62, 3) := by decide +kernel
theorem dX9_init_135 : decode cX9_init 135 = .ok (.aload_n 0, 1) := by decide +kernel
theorem dX9_init_136 : decode cX9_init 136 = .ok (.bipush 9, 2) := by decide +kernel
theorem dX9_init_138 : decode cX9_init 138 = .ok (.newarray .int, 2) := by decide +kernel
theorem dX9_init_140 : decode cX9_init 140 = .ok (.putfield 65, 3) := by decide +kernel
theorem dX9_init_143 : decode cX9_init 143 = .ok (.aload_n 0, 1) := by decide +kernel
theorem dX9_init_144 : decode cX9_init 144 = .ok (.bipush 6, 2) := by decide +kernel
theorem dX9_init_146 : decode cX9_init 146 = .ok (.newarray .int, 2) := by decide +kernel
theorem dX9_init_148 : decode cX9_init 148 = .ok (.putfield 68, 3) := by decide +kernel
theorem dX9_init_151 : decode cX9_init 151 = .ok (.aload_n 0, 1) := by decide +kernel
theorem dX9_init_152 : decode cX9_init 152 = .ok (.bipush 6, 2) := by decide +kernel
theorem dX9_init_154 : decode cX9_init 154 = .ok (.newarray .int, 2) := by decide +kernel
theorem dX9_init_156 : decode cX9_init 156 = .ok (.putfield 71, 3) := by decide +kernel
theorem dX9_init_159 : decode cX9_init 159 = .ok (.aload_n 0, 1) := by decide +kernel
theorem dX9_init_160 : decode cX9_init 160 = .ok (.iconst 3, 1) := by decide +kernel
theorem dX9_init_161 : decode cX9_init 161 = .ok (.newarray .int, 2) := by decide +kernel
theorem dX9_init_163 : decode cX9_init 163 = .ok (.putfield 74, 3) := by decide +kernel
theorem dX9_init_166 : decode cX9_init 166 = .ok (.aload_n 0, 1) := by decide +kernel
theorem dX9_init_167 : decode cX9_init 167 = .ok (.iconst 3, 1) := by decide +kernel
theorem dX9_init_168 : decode cX9_init 168 = .ok (.newarray .int, 2) := by decide +kernel
theorem dX9_init_170 : decode cX9_init 170 = .ok (.putfield 77, 3) := by decide +kernel
theorem dX9_init_173 : decode cX9_init 173 = .ok (.aload_n 0, 1) := by decide +kernel
theorem dX9_init_174 : decode cX9_init 174 = .ok (.sipush 24624, 3) := by decide +kernel
theorem dX9_init_177 : decode cX9_init 177 = .ok (.newarray .int, 2) := by decide +kernel
theorem dX9_init_179 : decode cX9_init 179 = .ok (.putfield 80, 3) := by decide +kernel
theorem dX9_init_182 : decode cX9_init 182 = .ok (.aload_n 0, 1) := by decide +kernel
theorem dX9_init_183 : decode cX9_init 183 = .ok (.bipush 16, 2) := by decide +kernel
theorem dX9_init_185 : decode cX9_init 185 = .ok (.newarray .int, 2) := by decide +kernel
theorem dX9_init_187 : decode cX9_init 187 = .ok (.putfield 83, 3) := by decide +kernel
theorem dX9_init_190 : decode cX9_init 190 = .ok (.aload_n 0, 1) := by decide +kernel
theorem dX9_init_191 : decode cX9_init 191 = .ok (.sipush 2592, 3) := by decide +kernel
theorem dX9_init_194 : decode cX9_init 194 = .ok (.newarray .boolean, 2) := by decide +kernel
theorem dX9_init_196 : decode cX9_init 196 = .ok (.putfield 86, 3) := by decide +kernel
theorem dX9_init_199 : decode cX9_init 199 = .ok (.aload_n 0, 1) := by decide +kernel
theorem dX9_init_200 : decode cX9_init 200 = .ok (.bipush 6, 2) := by decide +kernel
theorem dX9_init_202 : decode cX9_init 202 = .ok (.newarray .int, 2) := by decide +kernel
theorem dX9_init_204 : decode cX9_init 204 = .ok (.putfield 90, 3) := by decide +kernel
theorem dX9_init_207 : decode cX9_init 207 = .ok (.aload_n 0, 1) := by decide +kernel
theorem dX9_init_208 : decode cX9_init 208 = .ok (.bipush 6, 2) := by decide +kernel
theorem dX9_init_210 : decode cX9_init 210 = .ok (.newarray .int, 2) := by decide +kernel
theorem dX9_init_212 : decode cX9_init 212 = .ok (.putfield 93, 3) := by decide +kernel
theorem dX9_init_215 : decode cX9_init 215 = .ok (.aload_n 0, 1) := by decide +kernel
theorem dX9_init_216 : decode cX9_init 216 = .ok (.bipush 10, 2) := by decide +kernel
theorem dX9_init_218 : decode cX9_init 218 = .ok (.newarray .int, 2) := by decide +kernel
theorem dX9_init_220 : decode cX9_init 220 = .ok (.putfield 96, 3) := by decide +kernel
theorem dX9_init_223 : decode cX9_init 223 = .ok (.aload_n 0, 1) := by decide +kernel
theorem dX9_init_224 : decode cX9_init 224 = .ok (.bipush 9, 2) := by decide +kernel
theorem dX9_init_226 : decode cX9_init 226 = .ok (.newarray .int, 2) := by decide +kernel
theorem dX9_init_228 : decode cX9_init 228 = .ok (.putfield 99, 3) := by decide +kernel
theorem dX9_init_231 : decode cX9_init 231 = .ok (.aload_n 0, 1) := by decide +kernel
theorem dX9_init_232 : decode cX9_init 232 = .ok (.ldc 102, 2) := by decide +kernel
theorem dX9_init_234 : decode cX9_init 234 = .ok (.newarray .int, 2) := by decide +kernel
theorem dX9_init_236 : decode cX9_init 236 = .ok (.putfield 103, 3) := by decide +kernel
theorem dX9_init_239 : decode cX9_init 239 = .ok (.aload_n 0, 1) := by decide +kernel
theorem dX9_init_240 : decode cX9_init 240 = .ok (.bipush 8, 2) := by decide +kernel
theorem dX9_init_242 : decode cX9_init 242 = .ok (.invokevirtual 106, 3) := by decide +kernel
theorem dX9_init_245 : decode cX9_init 245 = .ok (.return_, 1) := by decide +kernel
theorem dX9_in_0 : decode cX9_in 0 = .ok (.iload_n 0, 1) := by decide +kernel
theorem dX9_in_1 : decode cX9_in 1 = .ok (.iload_n 1, 1) := by decide +kernel
theorem dX9_in_2 : decode cX9_in 2 = .ok (.if_icmp .lt 12, 3) := by decide +kernel
theorem dX9_in_5 : decode cX9_in 5 = .ok (.iload_n 0, 1) := by decide +kernel
theorem dX9_in_6 : decode cX9_in 6 = .ok (.iload_n 2, 1) := by decide +kernel
theorem dX9_in_7 : decode cX9_in 7 = .ok (.if_icmp .gt 7, 3) := by decide +kernel
theorem dX9_in_10 : decode cX9_in 10 = .ok (.iconst 1, 1) := by decide +kernel
theorem dX9_in_11 : decode cX9_in 11 = .ok (.goto 4, 3) := by decide +kernel
theorem dX9_in_14 : decode cX9_in 14 = .ok (.iconst 0, 1) := by decide +kernel
theorem dX9_in_15 : decode cX9_in 15 = .ok (.ireturn, 1) := by decide +kernel
theorem dX9_size_0 : decode cX9_size 0 = .ok (.iload_n 0, 1) := by decide +kernel
theorem dX9_size_1 : decode cX9_size 1 = .ok (.ifCond .ge 8, 3) := by decide +kernel
theorem dX9_size_4 : decode cX9_size 4 = .ok (.iload_n 0, 1) := by decide +kernel
theorem dX9_size_5 : decode cX9_size 5 = .ok (.ineg, 1) := by decide +kernel
theorem dX9_size_6 : decode cX9_size 6 = .ok (.goto 4, 3) := by decide +kernel
theorem dX9_size_9 : decode cX9_size 9 = .ok (.iload_n 0, 1) := by decide +kernel
theorem dX9_size_10 : decode cX9_size 10 = .ok (.ireturn, 1) := by decide +kernel
theorem dX9_begins_0 : decode cX9_begins 0 = .ok (.aload_n 0, 1) := by decide +kernel
theorem dX9_begins_1 : decode cX9_begins 1 = .ok (.iload_n 1, 1) := by decide +kernel
theorem dX9_begins_2 : decode cX9_begins 2 = .ok (.putfield 7, 3) := by decide +kernel
theorem dX9_begins_5 : decode cX9_begins 5 = .ok (.iconst 0, 1) := by decide +kernel
theorem dX9_begins_6 : decode cX9_begins 6 = .ok (.istore_n 2, 1) := by decide +kernel
theorem dX9_begins_7 : decode cX9_begins 7 = .ok (.iload_n 2, 1) := by decide +kernel
theorem dX9_begins_8 : decode cX9_begins 8 = .ok (.bipush 16, 2) := by decide +kernel
theorem dX9_begins_10 : decode cX9_begins 10 = .ok (.if_icmp .ge 23, 3) := by decide +kernel
theorem dX9_begins_13 : decode cX9_begins 13 = .ok (.aload_n 0, 1) := by decide +kernel
theorem dX9_begins_14 : decode cX9_begins 14 = .ok (.getfield 13, 3) := by decide +kernel
theorem dX9_begins_17 : decode cX9_begins 17 = .ok (.iload_n 2, 1) := by decide +kernel
theorem dX9_begins_18 : decode cX9_begins 18 = .ok (.iconst 0, 1) := by decide +kernel
theorem dX9_begins_19 : decode cX9_begins 19 = .ok (.iastore, 1) := by decide +kernel
theorem dX9_begins_20 : decode cX9_begins 20 = .ok (.aload_n 0, 1) := by decide +kernel
theorem dX9_begins_21 : decode cX9_begins 21 = .ok (.getfield 17, 3) := by decide +kernel
theorem dX9_begins_24 : decode cX9_begins 24 = .ok (.iload_n 2, 1) := by decide +kernel
theorem dX9_begins_25 : decode cX9_begins 25 = .ok (.iconst 0, 1) := by decide +kernel
theorem dX9_begins_26 : decode cX9_begins 26 = .ok (.iastore, 1) := by decide +kernel
theorem dX9_begins_27 : decode cX9_begins 27 = .ok (.iinc 2 1, 3) := by decide +kernel
theorem dX9_begins_30 : decode cX9_begins 30 = .ok (.goto (-23), 3) := by decide +kernel
theorem dX9_begins_33 : decode cX9_begins 33 = .ok (.iconst 0, 1) := by decide +kernel
theorem dX9_begins_34 : decode cX9_begins 34 = .ok (.istore_n 2, 1) := by decide +kernel
theorem dX9_begins_35 : decode cX9_begins 35 = .ok (.iload_n 2, 1) := by decide +kernel
theorem dX9_begins_36 : decode cX9_begins 36 = .ok (.bipush 45, 2) := by decide +kernel
theorem dX9_begins_38 : decode cX9_begins 38 = .ok (.if_icmp .ge 18, 3) := by decide +kernel
theorem dX9_begins_41 : decode cX9_begins 41 = .ok (.aload_n 0, 1) := by decide +kernel
theorem dX9_begins_42 : decode cX9_begins 42 = .ok (.getfield 29, 3) := by decide +kernel
theorem dX9_begins_45 : decode cX9_begins 45 = .ok (.iload_n 2, 1) := by decide +kernel
theorem dX9_begins_46 : decode cX9_begins 46 = .ok (.sipush 5000, 3) := by decide +kernel
theorem dX9_begins_49 : decode cX9_begins 49 = .ok (.iastore, 1) := by decide +kernel
theorem dX9_begins_50 : decode cX9_begins 50 = .ok (.iinc 2 1, 3) := by decide +kernel
theorem dX9_begins_53 : decode cX9_begins 53 = .ok (.goto (-18), 3) := by decide +kernel
theorem dX9_begins_56 : decode cX9_begins 56 = .ok (.iconst 0, 1) := by decide +kernel
theorem dX9_begins_57 : decode cX9_begins 57 = .ok (.istore_n 2, 1) := by decide +kernel
theorem dX9_begins_58 : decode cX9_begins 58 = .ok (.iload_n 2, 1) := by decide +kernel
theorem dX9_begins_59 : decode cX9_begins 59 = .ok (.bipush 112, 2) := by decide +kernel
theorem dX9_begins_61 : decode cX9_begins 61 = .ok (.if_icmp .ge 16, 3) := by decide +kernel
theorem dX9_begins_64 : decode cX9_begins 64 = .ok (.aload_n 0, 1) := by decide +kernel
theorem dX9_begins_65 : decode cX9_begins 65 = .ok (.getfield 62, 3) := by decide +kernel
theorem dX9_begins_68 : decode cX9_begins 68 = .ok (.iload_n 2, 1) := by decide +kernel
theorem dX9_begins_69 : decode cX9_begins 69 = .ok (.iconst 0, 1) := by decide +kernel
theorem dX9_begins_70 : decode cX9_begins 70 = .ok (.iastore, 1) := by decide +kernel
theorem dX9_begins_71 : decode cX9_begins 71 = .ok (.iinc 2 1, 3) := by decide +kernel
theorem dX9_begins_74 : decode cX9_begins 74 = .ok (.goto (-16), 3) := by decide +kernel
theorem dX9_begins_77 : decode cX9_begins 77 = .ok (.aload_n 0, 1) := by decide +kernel
theorem dX9_begins_78 : decode cX9_begins 78 = .ok (.iconst 0, 1) := by decide +kernel
theorem dX9_begins_79 : decode cX9_begins 79 = .ok (.putfield 110, 3) := by decide +kernel
theorem dX9_begins_82 : decode cX9_begins 82 = .ok (.aload_n 0, 1) := by decide +kernel
theorem dX9_begins_83 : decode cX9_begins 83 = .ok (.iconst 0, 1) := by decide +kernel
theorem dX9_begins_84 : decode cX9_begins 84 = .ok (.putfield 113, 3) := by decide +kernel
theorem dX9_begins_87 : decode cX9_begins 87 = .ok (.return_, 1) := by decide +kernel
theorem dX9_disc_0 : decode cX9_disc 0 = .ok (.iload_n 1, 1) := by decide +kernel
theorem dX9_disc_1 : decode cX9_disc 1 = .ok (.iconst 4, 1) := by decide +kernel
theorem dX9_disc_2 : decode cX9_disc 2 = .ok (.bipush 16, 2) := by decide +kernel
theorem dX9_disc_4 : decode cX9_disc 4 = .ok (.invokestatic 116, 3) := by decide +kernel
theorem dX9_disc_7 : decode cX9_disc 7 = .ok (.ifCond .ne 5, 3) := by decide +kernel
theorem dX9_disc_10 : decode cX9_disc 10 = .ok (.iconst (-1), 1) := by decide +kernel
theorem dX9_disc_11 : decode cX9_disc 11 = .ok (.ireturn, 1) := by decide +kernel
theorem dX9_disc_12 : decode cX9_disc 12 = .ok (.aload_n 0, 1) := by decide +kernel
theorem dX9_disc_13 : decode cX9_disc 13 = .ok (.iload_n 1, 1) := by decide +kernel
theorem dX9_disc_14 : decode cX9_disc 14 = .ok (.invokevirtual 106, 3) := by decide +kernel
theorem dX9_disc_17 : decode cX9_disc 17 = .ok (.aload_n 0, 1) := by decide +kernel
theorem dX9_disc_18 : decode cX9_disc 18 = .ok (.getfield 7, 3) := by decide +kernel
theorem dX9_disc_21 : decode cX9_disc 21 = .ok (.ireturn, 1) := by decide +kernel
theorem dX9_aim_0 : decode cX9_aim 0 = .ok (.iload_n 1, 1) := by decide +kernel
theorem dX9_aim_1 : decode cX9_aim 1 = .ok (.bipush 100, 2) := by decide +kernel
theorem dX9_aim_3 : decode cX9_aim 3 = .ok (.sipush 5000, 3) := by decide +kernel
theorem dX9_aim_6 : decode cX9_aim 6 = .ok (.invokestatic 116, 3) := by decide +kernel
theorem dX9_aim_9 : decode cX9_aim 9 = .ok (.ifCond .eq 24, 3) := by decide +kernel
theorem dX9_aim_12 : decode cX9_aim 12 = .ok (.iload_n 2, 1) := by decide +kernel
theorem dX9_aim_13 : decode cX9_aim 13 = .ok (.bipush (-30), 2) := by decide +kernel
theorem dX9_aim_15 : decode cX9_aim 15 = .ok (.bipush 30, 2) := by decide +kernel
theorem dX9_aim_17 : decode cX9_aim 17 = .ok (.invokestatic 116, 3) := by decide +kernel
theorem dX9_aim_20 : decode cX9_aim 20 = .ok (.ifCond .eq 13, 3) := by decide +kernel
theorem dX9_aim_23 : decode cX9_aim 23 = .ok (.iload_n 3, 1) := by decide +kernel
theorem dX9_aim_24 : decode cX9_aim 24 = .ok (.iconst 1, 1) := by decide +kernel
theorem dX9_aim_25 : decode cX9_aim 25 = .ok (.bipush 10, 2) := by decide +kernel
theorem dX9_aim_27 : decode cX9_aim 27 = .ok (.invokestatic 116, 3) := by decide +kernel
theorem dX9_aim_30 : decode cX9_aim 30 = .ok (.ifCond .ne 5, 3) := by decide +kernel
theorem dX9_aim_33 : decode cX9_aim 33 = .ok (.iconst (-1), 1) := by decide +kernel
theorem dX9_aim_34 : decode cX9_aim 34 = .ok (.ireturn, 1) := by decide +kernel
theorem dX9_aim_35 : decode cX9_aim 35 = .ok (.aload_n 0, 1) := by decide +kernel
theorem dX9_aim_36 : decode cX9_aim 36 = .ok (.iload_n 1, 1) := by decide +kernel
theorem dX9_aim_37 : decode cX9_aim 37 = .ok (.putfield 20, 3) := by decide +kernel
theorem dX9_aim_40 : decode cX9_aim 40 = .ok (.aload_n 0, 1) := by decide +kernel
theorem dX9_aim_41 : decode cX9_aim 41 = .ok (.iload_n 2, 1) := by decide +kernel
theorem dX9_aim_42 : decode cX9_aim 42 = .ok (.putfield 23, 3) := by decide +kernel
theorem dX9_aim_45 : decode cX9_aim 45 = .ok (.aload_n 0, 1) := by decide +kernel
theorem dX9_aim_46 : decode cX9_aim 46 = .ok (.iload_n 3, 1) := by decide +kernel
theorem dX9_aim_47 : decode cX9_aim 47 = .ok (.putfield 26, 3) := by decide +kernel
theorem dX9_aim_50 : decode cX9_aim 50 = .ok (.iconst 0, 1) := by decide +kernel
theorem dX9_aim_51 : decode cX9_aim 51 = .ok (.ireturn, 1) := by decide +kernel
theorem dX9_common_0 : decode cX9_common 0 = .ok (.lload_n 0, 1) := by decide +kernel
theorem dX9_common_1 : decode cX9_common 1 = .ok (.lconst 0, 1) := by decide +kernel
theorem dX9_common_2 : decode cX9_common 2 = .ok (.lcmp, 1) := by decide +kernel
theorem dX9_common_3 : decode cX9_common 3 = .ok (.ifCond .ge 8, 3) := by decide +kernel
theorem dX9_common_6 : decode cX9_common 6 = .ok (.lload_n 0, 1) := by decide +kernel
theorem dX9_common_7 : decode cX9_common 7 = .ok (.lneg, 1) := by decide +kernel
theorem dX9_common_8 : decode cX9_common 8 = .ok (.goto 4, 3) := by decide +kernel
theorem dX9_common_11 : decode cX9_common 11 = .ok (.lload_n 0, 1) := by decide +kernel
theorem dX9_common_12 : decode cX9_common 12 = .ok (.lstore 4, 2) := by decide +kernel
theorem dX9_common_14 : decode cX9_common 14 = .ok (.lload_n 2, 1) := by decide +kernel
theorem dX9_common_15 : decode cX9_common 15 = .ok (.lstore 6, 2) := by decide +kernel
theorem dX9_common_17 : decode cX9_common 17 = .ok (.lload 6, 2) := by decide +kernel
theorem dX9_common_19 : decode cX9_common 19 = .ok (.lconst 0, 1) := by decide +kernel
theorem dX9_common_20 : decode cX9_common 20 = .ok (.lcmp, 1) := by decide +kernel
theorem dX9_common_21 : decode cX9_common 21 = .ok (.ifCond .eq 21, 3) := by decide +kernel
theorem dX9_common_24 : decode cX9_common 24 = .ok (.lload 4, 2) := by decide +kernel
theorem dX9_common_26 : decode cX9_common 26 = .ok (.lload 6, 2) := by decide +kernel
theorem dX9_common_28 : decode cX9_common 28 = .ok (.lrem, 1) := by decide +kernel
theorem dX9_common_29 : decode cX9_common 29 = .ok (.lstore 8, 2) := by decide +kernel
theorem dX9_common_31 : decode cX9_common 31 = .ok (.lload 6, 2) := by decide +kernel
theorem dX9_common_33 : decode cX9_common 33 = .ok (.lstore 4, 2) := by decide +kernel
theorem dX9_common_35 : decode cX9_common 35 = .ok (.lload 8, 2) := by decide +kernel
theorem dX9_common_37 : decode cX9_common 37 = .ok (.lstore 6, 2) := by decide +kernel
theorem dX9_common_39 : decode cX9_common 39 = .ok (.goto (-22), 3) := by decide +kernel
theorem dX9_common_42 : decode cX9_common 42 = .ok (.lload 4, 2) := by decide +kernel
theorem dX9_common_44 : decode cX9_common 44 = .ok (.lreturn, 1) := by decide +kernel
theorem dX9_depth_0 : decode cX9_depth 0 = .ok (.iload_n 1, 1) := by decide +kernel
theorem dX9_depth_1 : decode cX9_depth 1 = .ok (.iconst 0, 1) := by decide +kernel
theorem dX9_depth_2 : decode cX9_depth 2 = .ok (.sipush 200, 3) := by decide +kernel
theorem dX9_depth_5 : decode cX9_depth 5 = .ok (.invokestatic 116, 3) := by decide +kernel
theorem dX9_depth_8 : decode cX9_depth 8 = .ok (.ifCond .eq 12, 3) := by decide +kernel
theorem dX9_depth_11 : decode cX9_depth 11 = .ok (.iload_n 2, 1) := by decide +kernel
theorem dX9_depth_12 : decode cX9_depth 12 = .ok (.iconst 0, 1) := by decide +kernel
theorem dX9_depth_13 : decode cX9_depth 13 = .ok (.iconst 1, 1) := by decide +kernel
theorem dX9_depth_14 : decode cX9_depth 14 = .ok (.invokestatic 116, 3) := by decide +kernel
theorem dX9_depth_17 : decode cX9_depth 17 = .ok (.ifCond .ne 7, 3) := by decide +kernel
theorem dX9_depth_20 : decode cX9_depth 20 = .ok (.ldc2_w 120, 3) := by decide +kernel
theorem dX9_depth_23 : decode cX9_depth 23 = .ok (.lreturn, 1) := by decide +kernel
theorem dX9_depth_24 : decode cX9_depth 24 = .ok (.iload_n 1, 1) := by decide +kernel
theorem dX9_depth_25 : decode cX9_depth 25 = .ok (.i2l, 1) := by decide +kernel
theorem dX9_depth_26 : decode cX9_depth 26 = .ok (.iload_n 1, 1) := by decide +kernel
theorem dX9_depth_27 : decode cX9_depth 27 = .ok (.i2l, 1) := by decide +kernel
theorem dX9_depth_28 : decode cX9_depth 28 = .ok (.lmul, 1) := by decide +kernel
theorem dX9_depth_29 : decode cX9_depth 29 = .ok (.lstore_n 3, 1) := by decide +kernel
theorem dX9_depth_30 : decode cX9_depth 30 = .ok (.aload_n 0, 1) := by decide +kernel
theorem dX9_depth_31 : decode cX9_depth 31 = .ok (.getfield 20, 3) := by decide +kernel
theorem dX9_depth_34 : decode cX9_depth 34 = .ok (.i2l, 1) := by decide +kernel
theorem dX9_depth_35 : decode cX9_depth 35 = .ok (.aload_n 0, 1) := by decide +kernel
theorem dX9_depth_36 : decode cX9_depth 36 = .ok (.getfield 20, 3) := by decide +kernel
theorem dX9_depth_39 : decode cX9_depth 39 = .ok (.i2l, 1) := by decide +kernel
theorem dX9_depth_40 : decode cX9_depth 40 = .ok (.lmul, 1) := by decide +kernel
theorem dX9_depth_41 : decode cX9_depth 41 = .ok (.lstore 5, 2) := by decide +kernel
theorem dX9_depth_43 : decode cX9_depth 43 = .ok (.ldc2_w 122, 3) := by decide +kernel
theorem dX9_depth_46 : decode cX9_depth 46 = .ok (.aload_n 0, 1) := by decide +kernel
theorem dX9_depth_47 : decode cX9_depth 47 = .ok (.getfield 26, 3) := by decide +kernel
theorem dX9_depth_50 : decode cX9_depth 50 = .ok (.i2l, 1) := by decide +kernel
theorem dX9_depth_51 : decode cX9_depth 51 = .ok (.lmul, 1) := by decide +kernel
theorem dX9_depth_52 : decode cX9_depth 52 = .ok (.lload 5, 2) := by decide +kernel
theorem dX9_depth_54 : decode cX9_depth 54 = .ok (.lmul, 1) := by decide +kernel
theorem dX9_depth_55 : decode cX9_depth 55 = .ok (.lload_n 3, 1) := by decide +kernel
theorem dX9_depth_56 : decode cX9_depth 56 = .ok (.lmul, 1) := by decide +kernel
theorem dX9_depth_57 : decode cX9_depth 57 = .ok (.aload_n 0, 1) := by decide +kernel
theorem dX9_depth_58 : decode cX9_depth 58 = .ok (.getfield 23, 3) := by decide +kernel
theorem dX9_depth_61 : decode cX9_depth 61 = .ok (.aload_n 0, 1) := by decide +kernel
theorem dX9_depth_62 : decode cX9_depth 62 = .ok (.getfield 26, 3) := by decide +kernel
theorem dX9_depth_65 : decode cX9_depth 65 = .ok (.iadd, 1) := by decide +kernel
theorem dX9_depth_66 : decode cX9_depth 66 = .ok (.i2l, 1) := by decide +kernel
theorem dX9_depth_67 : decode cX9_depth 67 = .ok (.lload_n 3, 1) := by decide +kernel
theorem dX9_depth_68 : decode cX9_depth 68 = .ok (.lmul, 1) := by decide +kernel
theorem dX9_depth_69 : decode cX9_depth 69 = .ok (.lload_n 3, 1) := by decide +kernel
theorem dX9_depth_70 : decode cX9_depth 70 = .ok (.lmul, 1) := by decide +kernel
theorem dX9_depth_71 : decode cX9_depth 71 = .ok (.ladd, 1) := by decide +kernel
theorem dX9_depth_72 : decode cX9_depth 72 = .ok (.lstore 7, 2) := by decide +kernel
theorem dX9_depth_74 : decode cX9_depth 74 = .ok (.ldc2_w 124, 3) := by decide +kernel
theorem dX9_depth_77 : decode cX9_depth 77 = .ok (.aload_n 0, 1) := by decide +kernel
theorem dX9_depth_78 : decode cX9_depth 78 = .ok (.getfield 26, 3) := by decide +kernel
theorem dX9_depth_81 : decode cX9_depth 81 = .ok (.i2l, 1) := by decide +kernel
theorem dX9_depth_82 : decode cX9_depth 82 = .ok (.lmul, 1) := by decide +kernel
theorem dX9_depth_83 : decode cX9_depth 83 = .ok (.lload 5, 2) := by decide +kernel
theorem dX9_depth_85 : decode cX9_depth 85 = .ok (.lmul, 1) := by decide +kernel
theorem dX9_depth_86 : decode cX9_depth 86 = .ok (.aload_n 0, 1) := by decide +kernel
theorem dX9_depth_87 : decode cX9_depth 87 = .ok (.getfield 20, 3) := by decide +kernel
theorem dX9_depth_90 : decode cX9_depth 90 = .ok (.i2l, 1) := by decide +kernel
theorem dX9_depth_91 : decode cX9_depth 91 = .ok (.lmul, 1) := by decide +kernel
theorem dX9_depth_92 : decode cX9_depth 92 = .ok (.lstore 9, 2) := by decide +kernel
theorem dX9_depth_94 : decode cX9_depth 94 = .ok (.iload_n 2, 1) := by decide +kernel
theorem dX9_depth_95 : decode cX9_depth 95 = .ok (.ifCond .ne 8, 3) := by decide +kernel
theorem dX9_depth_98 : decode cX9_depth 98 = .ok (.lload 7, 2) := by decide +kernel
theorem dX9_depth_100 : decode cX9_depth 100 = .ok (.goto 5, 3) := by decide +kernel
theorem dX9_depth_103 : decode cX9_depth 103 = .ok (.lload 9, 2) := by decide +kernel
theorem dX9_depth_105 : decode cX9_depth 105 = .ok (.lload 7, 2) := by decide +kernel
theorem dX9_depth_107 : decode cX9_depth 107 = .ok (.lload 9, 2) := by decide +kernel
theorem dX9_depth_109 : decode cX9_depth 109 = .ok (.invokestatic 126, 3) := by decide +kernel
theorem dX9_depth_112 : decode cX9_depth 112 = .ok (.ldiv, 1) := by decide +kernel
theorem dX9_depth_113 : decode cX9_depth 113 = .ok (.lreturn, 1) := by decide +kernel
theorem dX9_isZone_0 : decode cX9_isZone 0 = .ok (.iload_n 1, 1) := by decide +kernel
theorem dX9_isZone_1 : decode cX9_isZone 1 = .ok (.iconst 0, 1) := by decide +kernel
theorem dX9_isZone_2 : decode cX9_isZone 2 = .ok (.aload_n 0, 1) := by decide +kernel
theorem dX9_isZone_3 : decode cX9_isZone 3 = .ok (.getfield 7, 3) := by decide +kernel
theorem dX9_isZone_6 : decode cX9_isZone 6 = .ok (.iconst 1, 1) := by decide +kernel
theorem dX9_isZone_7 : decode cX9_isZone 7 = .ok (.isub, 1) := by decide +kernel
theorem dX9_isZone_8 : decode cX9_isZone 8 = .ok (.invokestatic 116, 3) := by decide +kernel
theorem dX9_isZone_11 : decode cX9_isZone 11 = .ok (.ireturn, 1) := by decide +kernel
theorem dX9_height_0 : decode cX9_height 0 = .ok (.aload_n 0, 1) := by decide +kernel
theorem dX9_height_1 : decode cX9_height 1 = .ok (.iload_n 1, 1) := by decide +kernel
theorem dX9_height_2 : decode cX9_height 2 = .ok (.invokevirtual 130, 3) := by decide +kernel
theorem dX9_height_5 : decode cX9_height 5 = .ok (.ifCond .eq 14, 3) := by decide +kernel
theorem dX9_height_8 : decode cX9_height 8 = .ok (.iload_n 2, 1) := by decide +kernel
theorem dX9_height_9 : decode cX9_height 9 = .ok (.ldc 134, 2) := by decide +kernel
theorem dX9_height_11 : decode cX9_height 11 = .ok (.ldc 135, 2) := by decide +kernel
theorem dX9_height_13 : decode cX9_height 13 = .ok (.invokestatic 116, 3) := by decide +kernel
theorem dX9_height_16 : decode cX9_height 16 = .ok (.ifCond .ne 6, 3) := by decide +kernel
theorem dX9_height_19 : decode cX9_height 19 = .ok (.ldc 136, 2) := by decide +kernel
theorem dX9_height_21 : decode cX9_height 21 = .ok (.ireturn, 1) := by decide +kernel
theorem dX9_height_22 : decode cX9_height 22 = .ok (.aload_n 0, 1) := by decide +kernel
theorem dX9_height_23 : decode cX9_height 23 = .ok (.getfield 13, 3) := by decide +kernel
theorem dX9_height_26 : decode cX9_height 26 = .ok (.iload_n 1, 1) := by decide +kernel
theorem dX9_height_27 : decode cX9_height 27 = .ok (.iaload, 1) := by decide +kernel
theorem dX9_height_28 : decode cX9_height 28 = .ok (.istore_n 3, 1) := by decide +kernel
theorem dX9_height_29 : decode cX9_height 29 = .ok (.aload_n 0, 1) := by decide +kernel
theorem dX9_height_30 : decode cX9_height 30 = .ok (.getfield 13, 3) := by decide +kernel
theorem dX9_height_33 : decode cX9_height 33 = .ok (.iload_n 1, 1) := by decide +kernel
theorem dX9_height_34 : decode cX9_height 34 = .ok (.iload_n 2, 1) := by decide +kernel
theorem dX9_height_35 : decode cX9_height 35 = .ok (.iastore, 1) := by decide +kernel
theorem dX9_height_36 : decode cX9_height 36 = .ok (.aload_n 0, 1) := by decide +kernel
theorem dX9_height_37 : decode cX9_height 37 = .ok (.iconst 0, 1) := by decide +kernel
theorem dX9_height_38 : decode cX9_height 38 = .ok (.putfield 113, 3) := by decide +kernel
theorem dX9_height_41 : decode cX9_height 41 = .ok (.iconst 0, 1) := by decide +kernel
theorem dX9_height_42 : decode cX9_height 42 = .ok (.istore 4, 2) := by decide +kernel
theorem dX9_height_44 : decode cX9_height 44 = .ok (.iload 4, 2) := by decide +kernel
theorem dX9_height_46 : decode cX9_height 46 = .ok (.bipush 16, 2) := by decide +kernel
theorem dX9_height_48 : decode cX9_height 48 = .ok (.if_icmp .ge 23, 3) := by decide +kernel
theorem dX9_height_51 : decode cX9_height 51 = .ok (.aload_n 0, 1) := by decide +kernel
theorem dX9_height_52 : decode cX9_height 52 = .ok (.getfield 17, 3) := by decide +kernel
theorem dX9_height_55 : decode cX9_height 55 = .ok (.iload 4, 2) := by decide +kernel
theorem dX9_height_57 : decode cX9_height 57 = .ok (.aload_n 0, 1) := by decide +kernel
theorem dX9_height_58 : decode cX9_height 58 = .ok (.getfield 13, 3) := by decide +kernel
theorem dX9_height_61 : decode cX9_height 61 = .ok (.iload 4, 2) := by decide +kernel
theorem dX9_height_63 : decode cX9_height 63 = .ok (.iaload, 1) := by decide +kernel
theorem dX9_height_64 : decode cX9_height 64 = .ok (.iastore, 1) := by decide +kernel
theorem dX9_height_65 : decode cX9_height 65 = .ok (.iinc 4 1, 3) := by decide +kernel
theorem dX9_height_68 : decode cX9_height 68 = .ok (.goto (-24), 3) := by decide +kernel
theorem dX9_height_71 : decode cX9_height 71 = .ok (.iload_n 3, 1) := by decide +kernel
theorem dX9_height_72 : decode cX9_height 72 = .ok (.ireturn, 1) := by decide +kernel
theorem dX9_at_0 : decode cX9_at 0 = .ok (.aload_n 0, 1) := by decide +kernel
theorem dX9_at_1 : decode cX9_at 1 = .ok (.iload_n 1, 1) := by decide +kernel
theorem dX9_at_2 : decode cX9_at 2 = .ok (.invokevirtual 130, 3) := by decide +kernel
theorem dX9_at_5 : decode cX9_at 5 = .ok (.ifCond .eq 12, 3) := by decide +kernel
theorem dX9_at_8 : decode cX9_at 8 = .ok (.aload_n 0, 1) := by decide +kernel
theorem dX9_at_9 : decode cX9_at 9 = .ok (.getfield 13, 3) := by decide +kernel
theorem dX9_at_12 : decode cX9_at 12 = .ok (.iload_n 1, 1) := by decide +kernel
theorem dX9_at_13 : decode cX9_at 13 = .ok (.iaload, 1) := by decide +kernel
theorem dX9_at_14 : decode cX9_at 14 = .ok (.goto 5, 3) := by decide +kernel
theorem dX9_at_17 : decode cX9_at 17 = .ok (.ldc 136, 2) := by decide +kernel
theorem dX9_at_19 : decode cX9_at 19 = .ok (.ireturn, 1) := by decide +kernel
theorem dX9_read_0 : decode cX9_read 0 = .ok (.iload_n 1, 1) := by decide +kernel
theorem dX9_read_1 : decode cX9_read 1 = .ok (.iconst 0, 1) := by decide +kernel
theorem dX9_read_2 : decode cX9_read 2 = .ok (.iconst 2, 1) := by decide +kernel
theorem dX9_read_3 : decode cX9_read 3 = .ok (.invokestatic 116, 3) := by decide +kernel
theorem dX9_read_6 : decode cX9_read 6 = .ok (.ifCond .eq 37, 3) := by decide +kernel
theorem dX9_read_9 : decode cX9_read 9 = .ok (.iload_n 2, 1) := by decide +kernel
theorem dX9_read_10 : decode cX9_read 10 = .ok (.iconst 0, 1) := by decide +kernel
theorem dX9_read_11 : decode cX9_read 11 = .ok (.aload_n 0, 1) := by decide +kernel
theorem dX9_read_12 : decode cX9_read 12 = .ok (.getfield 7, 3) := by decide +kernel
theorem dX9_read_15 : decode cX9_read 15 = .ok (.iconst 2, 1) := by decide +kernel
theorem dX9_read_16 : decode cX9_read 16 = .ok (.isub, 1) := by decide +kernel
theorem dX9_read_17 : decode cX9_read 17 = .ok (.invokestatic 116, 3) := by decide +kernel
theorem dX9_read_20 : decode cX9_read 20 = .ok (.ifCond .eq 23, 3) := by decide +kernel
theorem dX9_read_23 : decode cX9_read 23 = .ok (.iload_n 3, 1) := by decide +kernel
theorem dX9_read_24 : decode cX9_read 24 = .ok (.sipush (-1000), 3) := by decide +kernel
theorem dX9_read_27 : decode cX9_read 27 = .ok (.sipush 1000, 3) := by decide +kernel
theorem dX9_read_30 : decode cX9_read 30 = .ok (.invokestatic 116, 3) := by decide +kernel
theorem dX9_read_33 : decode cX9_read 33 = .ok (.ifCond .ne 14, 3) := by decide +kernel
theorem dX9_read_36 : decode cX9_read 36 = .ok (.iload_n 3, 1) := by decide +kernel
theorem dX9_read_37 : decode cX9_read 37 = .ok (.sipush 5000, 3) := by decide +kernel
theorem dX9_read_40 : decode cX9_read 40 = .ok (.if_icmp .eq 7, 3) := by decide +kernel
theorem dX9_read_43 : decode cX9_read 43 = .ok (.sipush 10000, 3) := by decide +kernel
theorem dX9_read_46 : decode cX9_read 46 = .ok (.ireturn, 1) := by decide +kernel
theorem dX9_read_47 : decode cX9_read 47 = .ok (.aload_n 0, 1) := by decide +kernel
theorem dX9_read_48 : decode cX9_read 48 = .ok (.getfield 29, 3) := by decide +kernel
theorem dX9_read_51 : decode cX9_read 51 = .ok (.bipush 15, 2) := by decide +kernel
theorem dX9_read_53 : decode cX9_read 53 = .ok (.iload_n 1, 1) := by decide +kernel
theorem dX9_read_54 : decode cX9_read 54 = .ok (.imul, 1) := by decide +kernel
theorem dX9_read_55 : decode cX9_read 55 = .ok (.iload_n 2, 1) := by decide +kernel
theorem dX9_read_56 : decode cX9_read 56 = .ok (.iadd, 1) := by decide +kernel
theorem dX9_read_57 : decode cX9_read 57 = .ok (.iaload, 1) := by decide +kernel
theorem dX9_read_58 : decode cX9_read 58 = .ok (.istore 4, 2) := by decide +kernel
theorem dX9_read_60 : decode cX9_read 60 = .ok (.aload_n 0, 1) := by decide +kernel
theorem dX9_read_61 : decode cX9_read 61 = .ok (.getfield 29, 3) := by decide +kernel
theorem dX9_read_64 : decode cX9_read 64 = .ok (.bipush 15, 2) := by decide +kernel
theorem dX9_read_66 : decode cX9_read 66 = .ok (.iload_n 1, 1) := by decide +kernel
theorem dX9_read_67 : decode cX9_read 67 = .ok (.imul, 1) := by decide +kernel
theorem dX9_read_68 : decode cX9_read 68 = .ok (.iload_n 2, 1) := by decide +kernel
theorem dX9_read_69 : decode cX9_read 69 = .ok (.iadd, 1) := by decide +kernel
theorem dX9_read_70 : decode cX9_read 70 = .ok (.iload_n 3, 1) := by decide +kernel
theorem dX9_read_71 : decode cX9_read 71 = .ok (.iastore, 1) := by decide +kernel
theorem dX9_read_72 : decode cX9_read 72 = .ok (.iload 4, 2) := by decide +kernel
theorem dX9_read_74 : decode cX9_read 74 = .ok (.ireturn, 1) := by decide +kernel
theorem dX9_lie_0 : decode cX9_lie 0 = .ok (.iload_n 1, 1) := by decide +kernel
theorem dX9_lie_1 : decode cX9_lie 1 = .ok (.iconst 0, 1) := by decide +kernel
theorem dX9_lie_2 : decode cX9_lie 2 = .ok (.bipush 50, 2) := by decide +kernel
theorem dX9_lie_4 : decode cX9_lie 4 = .ok (.invokestatic 116, 3) := by decide +kernel
theorem dX9_lie_7 : decode cX9_lie 7 = .ok (.ifCond .ne 5, 3) := by decide +kernel
theorem dX9_lie_10 : decode cX9_lie 10 = .ok (.iconst (-1), 1) := by decide +kernel
theorem dX9_lie_11 : decode cX9_lie 11 = .ok (.ireturn, 1) := by decide +kernel
theorem dX9_lie_12 : decode cX9_lie 12 = .ok (.aload_n 0, 1) := by decide +kernel
theorem dX9_lie_13 : decode cX9_lie 13 = .ok (.getfield 32, 3) := by decide +kernel
theorem dX9_lie_16 : decode cX9_lie 16 = .ok (.istore_n 2, 1) := by decide +kernel
theorem dX9_lie_17 : decode cX9_lie 17 = .ok (.aload_n 0, 1) := by decide +kernel
theorem dX9_lie_18 : decode cX9_lie 18 = .ok (.iload_n 1, 1) := by decide +kernel
theorem dX9_lie_19 : decode cX9_lie 19 = .ok (.putfield 32, 3) := by decide +kernel
theorem dX9_lie_22 : decode cX9_lie 22 = .ok (.iload_n 2, 1) := by decide +kernel
theorem dX9_lie_23 : decode cX9_lie 23 = .ok (.ireturn, 1) := by decide +kernel
theorem dX9_isRead_0 : decode cX9_isRead 0 = .ok (.aload_n 0, 1) := by decide +kernel
theorem dX9_isRead_1 : decode cX9_isRead 1 = .ok (.getfield 29, 3) := by decide +kernel
theorem dX9_isRead_4 : decode cX9_isRead 4 = .ok (.bipush 15, 2) := by decide +kernel
theorem dX9_isRead_6 : decode cX9_isRead 6 = .ok (.iload_n 1, 1) := by decide +kernel
theorem dX9_isRead_7 : decode cX9_isRead 7 = .ok (.imul, 1) := by decide +kernel
theorem dX9_isRead_8 : decode cX9_isRead 8 = .ok (.iload_n 2, 1) := by decide +kernel
theorem dX9_isRead_9 : decode cX9_isRead 9 = .ok (.iadd, 1) := by decide +kernel
theorem dX9_isRead_10 : decode cX9_isRead 10 = .ok (.iaload, 1) := by decide +kernel
theorem dX9_isRead_11 : decode cX9_isRead 11 = .ok (.sipush 5000, 3) := by decide +kernel
theorem dX9_isRead_14 : decode cX9_isRead 14 = .ok (.if_icmp .eq 7, 3) := by decide +kernel
theorem dX9_isRead_17 : decode cX9_isRead 17 = .ok (.iconst 1, 1) := by decide +kernel
theorem dX9_isRead_18 : decode cX9_isRead 18 = .ok (.goto 4, 3) := by decide +kernel
theorem dX9_isRead_21 : decode cX9_isRead 21 = .ok (.iconst 0, 1) := by decide +kernel
theorem dX9_isRead_22 : decode cX9_isRead 22 = .ok (.ireturn, 1) := by decide +kernel
theorem dX9_shifted_0 : decode cX9_shifted 0 = .ok (.aload_n 0, 1) := by decide +kernel
theorem dX9_shifted_1 : decode cX9_shifted 1 = .ok (.getfield 29, 3) := by decide +kernel
theorem dX9_shifted_4 : decode cX9_shifted 4 = .ok (.bipush 15, 2) := by decide +kernel
theorem dX9_shifted_6 : decode cX9_shifted 6 = .ok (.iload_n 1, 1) := by decide +kernel
theorem dX9_shifted_7 : decode cX9_shifted 7 = .ok (.imul, 1) := by decide +kernel
theorem dX9_shifted_8 : decode cX9_shifted 8 = .ok (.iload_n 2, 1) := by decide +kernel
theorem dX9_shifted_9 : decode cX9_shifted 9 = .ok (.iadd, 1) := by decide +kernel
theorem dX9_shifted_10 : decode cX9_shifted 10 = .ok (.iaload, 1) := by decide +kernel
theorem dX9_shifted_11 : decode cX9_shifted 11 = .ok (.aload_n 0, 1) := by decide +kernel
theorem dX9_shifted_12 : decode cX9_shifted 12 = .ok (.getfield 74, 3) := by decide +kernel
theorem dX9_shifted_15 : decode cX9_shifted 15 = .ok (.iload_n 1, 1) := by decide +kernel
theorem dX9_shifted_16 : decode cX9_shifted 16 = .ok (.iaload, 1) := by decide +kernel
theorem dX9_shifted_17 : decode cX9_shifted 17 = .ok (.isub, 1) := by decide +kernel
theorem dX9_shifted_18 : decode cX9_shifted 18 = .ok (.ireturn, 1) := by decide +kernel
theorem dX9_holds_0 : decode cX9_holds 0 = .ok (.iconst 0, 1) := by decide +kernel
theorem dX9_holds_1 : decode cX9_holds 1 = .ok (.istore_n 3, 1) := by decide +kernel
theorem dX9_holds_2 : decode cX9_holds 2 = .ok (.iconst 0, 1) := by decide +kernel
theorem dX9_holds_3 : decode cX9_holds 3 = .ok (.istore 4, 2) := by decide +kernel
theorem dX9_holds_5 : decode cX9_holds 5 = .ok (.iload 4, 2) := by decide +kernel
theorem dX9_holds_7 : decode cX9_holds 7 = .ok (.iconst 3, 1) := by decide +kernel
theorem dX9_holds_8 : decode cX9_holds 8 = .ok (.if_icmp .ge 46, 3) := by decide +kernel
theorem dX9_holds_11 : decode cX9_holds 11 = .ok (.iload_n 3, 1) := by decide +kernel
theorem dX9_holds_12 : decode cX9_holds 12 = .ok (.aload_n 0, 1) := by decide +kernel
theorem dX9_holds_13 : decode cX9_holds 13 = .ok (.iload 4, 2) := by decide +kernel
theorem dX9_holds_15 : decode cX9_holds 15 = .ok (.iload_n 1, 1) := by decide +kernel
theorem dX9_holds_16 : decode cX9_holds 16 = .ok (.invokevirtual 137, 3) := by decide +kernel
theorem dX9_holds_19 : decode cX9_holds 19 = .ok (.ifCond .eq 26, 3) := by decide +kernel
theorem dX9_holds_22 : decode cX9_holds 22 = .ok (.aload_n 0, 1) := by decide +kernel
theorem dX9_holds_23 : decode cX9_holds 23 = .ok (.iload 4, 2) := by decide +kernel
theorem dX9_holds_25 : decode cX9_holds 25 = .ok (.iload_n 1, 1) := by decide +kernel
theorem dX9_holds_26 : decode cX9_holds 26 = .ok (.invokevirtual 141, 3) := by decide +kernel
theorem dX9_holds_29 : decode cX9_holds 29 = .ok (.iload_n 2, 1) := by decide +kernel
theorem dX9_holds_30 : decode cX9_holds 30 = .ok (.isub, 1) := by decide +kernel
theorem dX9_holds_31 : decode cX9_holds 31 = .ok (.invokestatic 145, 3) := by decide +kernel
theorem dX9_holds_34 : decode cX9_holds 34 = .ok (.aload_n 0, 1) := by decide +kernel
theorem dX9_holds_35 : decode cX9_holds 35 = .ok (.getfield 32, 3) := by decide +kernel
theorem dX9_holds_38 : decode cX9_holds 38 = .ok (.if_icmp .gt 7, 3) := by decide +kernel
theorem dX9_holds_41 : decode cX9_holds 41 = .ok (.iconst 1, 1) := by decide +kernel
theorem dX9_holds_42 : decode cX9_holds 42 = .ok (.goto 4, 3) := by decide +kernel
theorem dX9_holds_45 : decode cX9_holds 45 = .ok (.iconst 0, 1) := by decide +kernel
theorem dX9_holds_46 : decode cX9_holds 46 = .ok (.iadd, 1) := by decide +kernel
theorem dX9_holds_47 : decode cX9_holds 47 = .ok (.istore_n 3, 1) := by decide +kernel
theorem dX9_holds_48 : decode cX9_holds 48 = .ok (.iinc 4 1, 3) := by decide +kernel
theorem dX9_holds_51 : decode cX9_holds 51 = .ok (.goto (-46), 3) := by decide +kernel
theorem dX9_holds_54 : decode cX9_holds 54 = .ok (.iload_n 3, 1) := by decide +kernel
theorem dX9_holds_55 : decode cX9_holds 55 = .ok (.ireturn, 1) := by decide +kernel
theorem dX9_dropped_0 : decode cX9_dropped 0 = .ok (.iconst 0, 1) := by decide +kernel
theorem dX9_dropped_1 : decode cX9_dropped 1 = .ok (.istore_n 2, 1) := by decide +kernel
theorem dX9_dropped_2 : decode cX9_dropped 2 = .ok (.iconst 0, 1) := by decide +kernel
theorem dX9_dropped_3 : decode cX9_dropped 3 = .ok (.istore_n 3, 1) := by decide +kernel
theorem dX9_dropped_4 : decode cX9_dropped 4 = .ok (.aload_n 0, 1) := by decide +kernel
theorem dX9_dropped_5 : decode cX9_dropped 5 = .ok (.sipush 5000, 3) := by decide +kernel
theorem dX9_dropped_8 : decode cX9_dropped 8 = .ok (.putfield 149, 3) := by decide +kernel
theorem dX9_dropped_11 : decode cX9_dropped 11 = .ok (.iconst 0, 1) := by decide +kernel
theorem dX9_dropped_12 : decode cX9_dropped 12 = .ok (.istore 4, 2) := by decide +kernel
theorem dX9_dropped_14 : decode cX9_dropped 14 = .ok (.iload 4, 2) := by decide +kernel
theorem dX9_dropped_16 : decode cX9_dropped 16 = .ok (.iconst 3, 1) := by decide +kernel
theorem dX9_dropped_17 : decode cX9_dropped 17 = .ok (.if_icmp .ge 113, 3) := by decide +kernel
theorem dX9_dropped_20 : decode cX9_dropped 20 = .ok (.iload_n 2, 1) := by decide +kernel
theorem dX9_dropped_21 : decode cX9_dropped 21 = .ok (.aload_n 0, 1) := by decide +kernel
theorem dX9_dropped_22 : decode cX9_dropped 22 = .ok (.iload 4, 2) := by decide +kernel
theorem dX9_dropped_24 : decode cX9_dropped 24 = .ok (.iload_n 1, 1) := by decide +kernel
theorem dX9_dropped_25 : decode cX9_dropped 25 = .ok (.invokevirtual 137, 3) := by decide +kernel
theorem dX9_dropped_28 : decode cX9_dropped 28 = .ok (.ifCond .eq 7, 3) := by decide +kernel
theorem dX9_dropped_31 : decode cX9_dropped 31 = .ok (.iconst 1, 1) := by decide +kernel
theorem dX9_dropped_32 : decode cX9_dropped 32 = .ok (.goto 4, 3) := by decide +kernel
theorem dX9_dropped_35 : decode cX9_dropped 35 = .ok (.iconst 0, 1) := by decide +kernel
theorem dX9_dropped_36 : decode cX9_dropped 36 = .ok (.iadd, 1) := by decide +kernel
theorem dX9_dropped_37 : decode cX9_dropped 37 = .ok (.istore_n 2, 1) := by decide +kernel
theorem dX9_dropped_38 : decode cX9_dropped 38 = .ok (.aload_n 0, 1) := by decide +kernel
theorem dX9_dropped_39 : decode cX9_dropped 39 = .ok (.iload 4, 2) := by decide +kernel
theorem dX9_dropped_41 : decode cX9_dropped 41 = .ok (.iload_n 1, 1) := by decide +kernel
theorem dX9_dropped_42 : decode cX9_dropped 42 = .ok (.invokevirtual 137, 3) := by decide +kernel
theorem dX9_dropped_45 : decode cX9_dropped 45 = .ok (.ifCond .eq 18, 3) := by decide +kernel
theorem dX9_dropped_48 : decode cX9_dropped 48 = .ok (.aload_n 0, 1) := by decide +kernel
theorem dX9_dropped_49 : decode cX9_dropped 49 = .ok (.iload 4, 2) := by decide +kernel
theorem dX9_dropped_51 : decode cX9_dropped 51 = .ok (.iload_n 1, 1) := by decide +kernel
theorem dX9_dropped_52 : decode cX9_dropped 52 = .ok (.invokevirtual 141, 3) := by decide +kernel
theorem dX9_dropped_55 : decode cX9_dropped 55 = .ok (.aload_n 0, 1) := by decide +kernel
theorem dX9_dropped_56 : decode cX9_dropped 56 = .ok (.getfield 32, 3) := by decide +kernel
theorem dX9_dropped_59 : decode cX9_dropped 59 = .ok (.isub, 1) := by decide +kernel
theorem dX9_dropped_60 : decode cX9_dropped 60 = .ok (.goto 4, 3) := by decide +kernel
theorem dX9_dropped_63 : decode cX9_dropped 63 = .ok (.iconst 0, 1) := by decide +kernel
theorem dX9_dropped_64 : decode cX9_dropped 64 = .ok (.istore 5, 2) := by decide +kernel
theorem dX9_dropped_66 : decode cX9_dropped 66 = .ok (.aload_n 0, 1) := by decide +kernel
theorem dX9_dropped_67 : decode cX9_dropped 67 = .ok (.iload 4, 2) := by decide +kernel
theorem dX9_dropped_69 : decode cX9_dropped 69 = .ok (.iload_n 1, 1) := by decide +kernel
theorem dX9_dropped_70 : decode cX9_dropped 70 = .ok (.invokevirtual 137, 3) := by decide +kernel
theorem dX9_dropped_73 : decode cX9_dropped 73 = .ok (.ifCond .eq 13, 3) := by decide +kernel
theorem dX9_dropped_76 : decode cX9_dropped 76 = .ok (.aload_n 0, 1) := by decide +kernel
theorem dX9_dropped_77 : decode cX9_dropped 77 = .ok (.iload_n 1, 1) := by decide +kernel
theorem dX9_dropped_78 : decode cX9_dropped 78 = .ok (.iload 5, 2) := by decide +kernel
theorem dX9_dropped_80 : decode cX9_dropped 80 = .ok (.invokevirtual 152, 3) := by decide +kernel
theorem dX9_dropped_83 : decode cX9_dropped 83 = .ok (.goto 4, 3) := by decide +kernel
theorem dX9_dropped_86 : decode cX9_dropped 86 = .ok (.iconst 0, 1) := by decide +kernel
theorem dX9_dropped_87 : decode cX9_dropped 87 = .ok (.istore 6, 2) := by decide +kernel
theorem dX9_dropped_89 : decode cX9_dropped 89 = .ok (.iload 6, 2) := by decide +kernel
theorem dX9_dropped_91 : decode cX9_dropped 91 = .ok (.iload_n 3, 1) := by decide +kernel
theorem dX9_dropped_92 : decode cX9_dropped 92 = .ok (.if_icmp .gt 23, 3) := by decide +kernel
theorem dX9_dropped_95 : decode cX9_dropped 95 = .ok (.iload 6, 2) := by decide +kernel
theorem dX9_dropped_97 : decode cX9_dropped 97 = .ok (.iload_n 3, 1) := by decide +kernel
theorem dX9_dropped_98 : decode cX9_dropped 98 = .ok (.if_icmp .ne 26, 3) := by decide +kernel
theorem dX9_dropped_101 : decode cX9_dropped 101 = .ok (.iload 6, 2) := by decide +kernel
theorem dX9_dropped_103 : decode cX9_dropped 103 = .ok (.ifCond .le 21, 3) := by decide +kernel
theorem dX9_dropped_106 : decode cX9_dropped 106 = .ok (.iload 5, 2) := by decide +kernel
theorem dX9_dropped_108 : decode cX9_dropped 108 = .ok (.aload_n 0, 1) := by decide +kernel
theorem dX9_dropped_109 : decode cX9_dropped 109 = .ok (.getfield 149, 3) := by decide +kernel
theorem dX9_dropped_112 : decode cX9_dropped 112 = .ok (.if_icmp .ge 12, 3) := by decide +kernel
theorem dX9_dropped_115 : decode cX9_dropped 115 = .ok (.iload 6, 2) := by decide +kernel
theorem dX9_dropped_117 : decode cX9_dropped 117 = .ok (.istore_n 3, 1) := by decide +kernel
theorem dX9_dropped_118 : decode cX9_dropped 118 = .ok (.aload_n 0, 1) := by decide +kernel
theorem dX9_dropped_119 : decode cX9_dropped 119 = .ok (.iload 5, 2) := by decide +kernel
theorem dX9_dropped_121 : decode cX9_dropped 121 = .ok (.putfield 149, 3) := by decide +kernel
theorem dX9_dropped_124 : decode cX9_dropped 124 = .ok (.iinc 4 1, 3) := by decide +kernel
theorem dX9_dropped_127 : decode cX9_dropped 127 = .ok (.goto (-113), 3) := by decide +kernel
theorem dX9_dropped_130 : decode cX9_dropped 130 = .ok (.iload_n 2, 1) := by decide +kernel
theorem dX9_dropped_131 : decode cX9_dropped 131 = .ok (.iload_n 3, 1) := by decide +kernel
theorem dX9_dropped_132 : decode cX9_dropped 132 = .ok (.isub, 1) := by decide +kernel
theorem dX9_dropped_133 : decode cX9_dropped 133 = .ok (.ireturn, 1) := by decide +kernel
theorem dX9_joins_0 : decode cX9_joins 0 = .ok (.sipush 999, 3) := by decide +kernel
theorem dX9_joins_3 : decode cX9_joins 3 = .ok (.istore_n 1, 1) := by decide +kernel
theorem dX9_joins_4 : decode cX9_joins 4 = .ok (.sipush 999, 3) := by decide +kernel
theorem dX9_joins_7 : decode cX9_joins 7 = .ok (.istore_n 2, 1) := by decide +kernel
theorem dX9_joins_8 : decode cX9_joins 8 = .ok (.aload_n 0, 1) := by decide +kernel
theorem dX9_joins_9 : decode cX9_joins 9 = .ok (.getfield 74, 3) := by decide +kernel
theorem dX9_joins_12 : decode cX9_joins 12 = .ok (.iconst 0, 1) := by decide +kernel
theorem dX9_joins_13 : decode cX9_joins 13 = .ok (.iconst 0, 1) := by decide +kernel
theorem dX9_joins_14 : decode cX9_joins 14 = .ok (.iastore, 1) := by decide +kernel
theorem dX9_joins_15 : decode cX9_joins 15 = .ok (.bipush (-20), 2) := by decide +kernel
theorem dX9_joins_17 : decode cX9_joins 17 = .ok (.istore_n 3, 1) := by decide +kernel
theorem dX9_joins_18 : decode cX9_joins 18 = .ok (.iload_n 3, 1) := by decide +kernel
theorem dX9_joins_19 : decode cX9_joins 19 = .ok (.bipush 20, 2) := by decide +kernel
theorem dX9_joins_21 : decode cX9_joins 21 = .ok (.if_icmp .gt 126, 3) := by decide +kernel
theorem dX9_joins_24 : decode cX9_joins 24 = .ok (.bipush (-20), 2) := by decide +kernel
theorem dX9_joins_26 : decode cX9_joins 26 = .ok (.istore 4, 2) := by decide +kernel
theorem dX9_joins_28 : decode cX9_joins 28 = .ok (.iload 4, 2) := by decide +kernel
theorem dX9_joins_30 : decode cX9_joins 30 = .ok (.bipush 20, 2) := by decide +kernel
theorem dX9_joins_32 : decode cX9_joins 32 = .ok (.if_icmp .gt 109, 3) := by decide +kernel
theorem dX9_joins_35 : decode cX9_joins 35 = .ok (.aload_n 0, 1) := by decide +kernel
theorem dX9_joins_36 : decode cX9_joins 36 = .ok (.getfield 74, 3) := by decide +kernel
theorem dX9_joins_39 : decode cX9_joins 39 = .ok (.iconst 1, 1) := by decide +kernel
theorem dX9_joins_40 : decode cX9_joins 40 = .ok (.iload_n 3, 1) := by decide +kernel
theorem dX9_joins_41 : decode cX9_joins 41 = .ok (.iastore, 1) := by decide +kernel
theorem dX9_joins_42 : decode cX9_joins 42 = .ok (.aload_n 0, 1) := by decide +kernel
theorem dX9_joins_43 : decode cX9_joins 43 = .ok (.getfield 74, 3) := by decide +kernel
theorem dX9_joins_46 : decode cX9_joins 46 = .ok (.iconst 2, 1) := by decide +kernel
theorem dX9_joins_47 : decode cX9_joins 47 = .ok (.iload 4, 2) := by decide +kernel
theorem dX9_joins_49 : decode cX9_joins 49 = .ok (.iastore, 1) := by decide +kernel
theorem dX9_joins_50 : decode cX9_joins 50 = .ok (.iconst 0, 1) := by decide +kernel
theorem dX9_joins_51 : decode cX9_joins 51 = .ok (.istore 5, 2) := by decide +kernel
theorem dX9_joins_53 : decode cX9_joins 53 = .ok (.iconst 0, 1) := by decide +kernel
theorem dX9_joins_54 : decode cX9_joins 54 = .ok (.istore 6, 2) := by decide +kernel
theorem dX9_joins_56 : decode cX9_joins 56 = .ok (.iload 6, 2) := by decide +kernel
theorem dX9_joins_58 : decode cX9_joins 58 = .ok (.aload_n 0, 1) := by decide +kernel
theorem dX9_joins_59 : decode cX9_joins 59 = .ok (.getfield 7, 3) := by decide +kernel
theorem dX9_joins_62 : decode cX9_joins 62 = .ok (.iconst 1, 1) := by decide +kernel
theorem dX9_joins_63 : decode cX9_joins 63 = .ok (.isub, 1) := by decide +kernel
theorem dX9_joins_64 : decode cX9_joins 64 = .ok (.if_icmp .ge 20, 3) := by decide +kernel
theorem dX9_joins_67 : decode cX9_joins 67 = .ok (.iload 5, 2) := by decide +kernel
theorem dX9_joins_69 : decode cX9_joins 69 = .ok (.aload_n 0, 1) := by decide +kernel
theorem dX9_joins_70 : decode cX9_joins 70 = .ok (.iload 6, 2) := by decide +kernel
theorem dX9_joins_72 : decode cX9_joins 72 = .ok (.invokevirtual 155, 3) := by decide +kernel
theorem dX9_joins_75 : decode cX9_joins 75 = .ok (.iadd, 1) := by decide +kernel
theorem dX9_joins_76 : decode cX9_joins 76 = .ok (.istore 5, 2) := by decide +kernel
theorem dX9_joins_78 : decode cX9_joins 78 = .ok (.iinc 6 1, 3) := by decide +kernel
theorem dX9_joins_81 : decode cX9_joins 81 = .ok (.goto (-25), 3) := by decide +kernel
theorem dX9_joins_84 : decode cX9_joins 84 = .ok (.iload_n 3, 1) := by decide +kernel
theorem dX9_joins_85 : decode cX9_joins 85 = .ok (.invokestatic 145, 3) := by decide +kernel
theorem dX9_joins_88 : decode cX9_joins 88 = .ok (.iload 4, 2) := by decide +kernel
theorem dX9_joins_90 : decode cX9_joins 90 = .ok (.invokestatic 145, 3) := by decide +kernel
theorem dX9_joins_93 : decode cX9_joins 93 = .ok (.iadd, 1) := by decide +kernel
theorem dX9_joins_94 : decode cX9_joins 94 = .ok (.istore 6, 2) := by decide +kernel
theorem dX9_joins_96 : decode cX9_joins 96 = .ok (.iload 5, 2) := by decide +kernel
theorem dX9_joins_98 : decode cX9_joins 98 = .ok (.iload_n 1, 1) := by decide +kernel
theorem dX9_joins_99 : decode cX9_joins 99 = .ok (.if_icmp .lt 15, 3) := by decide +kernel
theorem dX9_joins_102 : decode cX9_joins 102 = .ok (.iload 5, 2) := by decide +kernel
theorem dX9_joins_104 : decode cX9_joins 104 = .ok (.iload_n 1, 1) := by decide +kernel
theorem dX9_joins_105 : decode cX9_joins 105 = .ok (.if_icmp .ne 30, 3) := by decide +kernel
theorem dX9_joins_108 : decode cX9_joins 108 = .ok (.iload 6, 2) := by decide +kernel
theorem dX9_joins_110 : decode cX9_joins 110 = .ok (.iload_n 2, 1) := by decide +kernel
theorem dX9_joins_111 : decode cX9_joins 111 = .ok (.if_icmp .ge 24, 3) := by decide +kernel
theorem dX9_joins_114 : decode cX9_joins 114 = .ok (.iload 5, 2) := by decide +kernel
theorem dX9_joins_116 : decode cX9_joins 116 = .ok (.istore_n 1, 1) := by decide +kernel
theorem dX9_joins_117 : decode cX9_joins 117 = .ok (.iload 6, 2) := by decide +kernel
theorem dX9_joins_119 : decode cX9_joins 119 = .ok (.istore_n 2, 1) := by decide +kernel
theorem dX9_joins_120 : decode cX9_joins 120 = .ok (.aload_n 0, 1) := by decide +kernel
theorem dX9_joins_121 : decode cX9_joins 121 = .ok (.getfield 77, 3) := by decide +kernel
theorem dX9_joins_124 : decode cX9_joins 124 = .ok (.iconst 1, 1) := by decide +kernel
theorem dX9_joins_125 : decode cX9_joins 125 = .ok (.iload_n 3, 1) := by decide +kernel
theorem dX9_joins_126 : decode cX9_joins 126 = .ok (.iastore, 1) := by decide +kernel
theorem dX9_joins_127 : decode cX9_joins 127 = .ok (.aload_n 0, 1) := by decide +kernel
theorem dX9_joins_128 : decode cX9_joins 128 = .ok (.getfield 77, 3) := by decide +kernel
theorem dX9_joins_131 : decode cX9_joins 131 = .ok (.iconst 2, 1) := by decide +kernel
theorem dX9_joins_132 : decode cX9_joins 132 = .ok (.iload 4, 2) := by decide +kernel
theorem dX9_joins_134 : decode cX9_joins 134 = .ok (.iastore, 1) := by decide +kernel
theorem dX9_joins_135 : decode cX9_joins 135 = .ok (.iinc 4 1, 3) := by decide +kernel
theorem dX9_joins_138 : decode cX9_joins 138 = .ok (.goto (-110), 3) := by decide +kernel
theorem dX9_joins_141 : decode cX9_joins 141 = .ok (.iinc 3 1, 3) := by decide +kernel
theorem dX9_joins_144 : decode cX9_joins 144 = .ok (.goto (-126), 3) := by decide +kernel
theorem dX9_joins_147 : decode cX9_joins 147 = .ok (.aload_n 0, 1) := by decide +kernel
theorem dX9_joins_148 : decode cX9_joins 148 = .ok (.getfield 74, 3) := by decide +kernel
theorem dX9_joins_151 : decode cX9_joins 151 = .ok (.iconst 1, 1) := by decide +kernel
theorem dX9_joins_152 : decode cX9_joins 152 = .ok (.aload_n 0, 1) := by decide +kernel
theorem dX9_joins_153 : decode cX9_joins 153 = .ok (.getfield 77, 3) := by decide +kernel
theorem dX9_joins_156 : decode cX9_joins 156 = .ok (.iconst 1, 1) := by decide +kernel
theorem dX9_joins_157 : decode cX9_joins 157 = .ok (.iaload, 1) := by decide +kernel
theorem dX9_joins_158 : decode cX9_joins 158 = .ok (.iastore, 1) := by decide +kernel
theorem dX9_joins_159 : decode cX9_joins 159 = .ok (.aload_n 0, 1) := by decide +kernel
theorem dX9_joins_160 : decode cX9_joins 160 = .ok (.getfield 74, 3) := by decide +kernel
theorem dX9_joins_163 : decode cX9_joins 163 = .ok (.iconst 2, 1) := by decide +kernel
theorem dX9_joins_164 : decode cX9_joins 164 = .ok (.aload_n 0, 1) := by decide +kernel
theorem dX9_joins_165 : decode cX9_joins 165 = .ok (.getfield 77, 3) := by decide +kernel
theorem dX9_joins_168 : decode cX9_joins 168 = .ok (.iconst 2, 1) := by decide +kernel
theorem dX9_joins_169 : decode cX9_joins 169 = .ok (.iaload, 1) := by decide +kernel
theorem dX9_joins_170 : decode cX9_joins 170 = .ok (.iastore, 1) := by decide +kernel
theorem dX9_joins_171 : decode cX9_joins 171 = .ok (.iload_n 1, 1) := by decide +kernel
theorem dX9_joins_172 : decode cX9_joins 172 = .ok (.ireturn, 1) := by decide +kernel
theorem dX9_joined_0 : decode cX9_joined 0 = .ok (.iload_n 1, 1) := by decide +kernel
theorem dX9_joined_1 : decode cX9_joined 1 = .ok (.iconst 0, 1) := by decide +kernel
theorem dX9_joined_2 : decode cX9_joined 2 = .ok (.iconst 2, 1) := by decide +kernel
theorem dX9_joined_3 : decode cX9_joined 3 = .ok (.invokestatic 116, 3) := by decide +kernel
theorem dX9_joined_6 : decode cX9_joined 6 = .ok (.ifCond .ne 6, 3) := by decide +kernel
theorem dX9_joined_9 : decode cX9_joined 9 = .ok (.bipush (-100), 2) := by decide +kernel
theorem dX9_joined_11 : decode cX9_joined 11 = .ok (.ireturn, 1) := by decide +kernel
theorem dX9_joined_12 : decode cX9_joined 12 = .ok (.aload_n 0, 1) := by decide +kernel
theorem dX9_joined_13 : decode cX9_joined 13 = .ok (.invokevirtual 158, 3) := by decide +kernel
theorem dX9_joined_16 : decode cX9_joined 16 = .ok (.istore_n 2, 1) := by decide +kernel
theorem dX9_joined_17 : decode cX9_joined 17 = .ok (.iload_n 1, 1) := by decide +kernel
theorem dX9_joined_18 : decode cX9_joined 18 = .ok (.ifCond .ne 7, 3) := by decide +kernel
theorem dX9_joined_21 : decode cX9_joined 21 = .ok (.iload_n 2, 1) := by decide +kernel
theorem dX9_joined_22 : decode cX9_joined 22 = .ok (.goto 9, 3) := by decide +kernel
theorem dX9_joined_25 : decode cX9_joined 25 = .ok (.aload_n 0, 1) := by decide +kernel
theorem dX9_joined_26 : decode cX9_joined 26 = .ok (.getfield 77, 3) := by decide +kernel
theorem dX9_joined_29 : decode cX9_joined 29 = .ok (.iload_n 1, 1) := by decide +kernel
theorem dX9_joined_30 : decode cX9_joined 30 = .ok (.iaload, 1) := by decide +kernel
theorem dX9_joined_31 : decode cX9_joined 31 = .ok (.ireturn, 1) := by decide +kernel
theorem dX9_step_0 : decode cX9_step 0 = .ok (.iload_n 1, 1) := by decide +kernel
theorem dX9_step_1 : decode cX9_step 1 = .ok (.iconst 0, 1) := by decide +kernel
theorem dX9_step_2 : decode cX9_step 2 = .ok (.aload_n 0, 1) := by decide +kernel
theorem dX9_step_3 : decode cX9_step 3 = .ok (.getfield 7, 3) := by decide +kernel
theorem dX9_step_6 : decode cX9_step 6 = .ok (.iconst 2, 1) := by decide +kernel
theorem dX9_step_7 : decode cX9_step 7 = .ok (.isub, 1) := by decide +kernel
theorem dX9_step_8 : decode cX9_step 8 = .ok (.invokestatic 116, 3) := by decide +kernel
theorem dX9_step_11 : decode cX9_step 11 = .ok (.ifCond .ne 7, 3) := by decide +kernel
theorem dX9_step_14 : decode cX9_step 14 = .ok (.sipush 10000, 3) := by decide +kernel
theorem dX9_step_17 : decode cX9_step 17 = .ok (.ireturn, 1) := by decide +kernel
theorem dX9_step_18 : decode cX9_step 18 = .ok (.aload_n 0, 1) := by decide +kernel
theorem dX9_step_19 : decode cX9_step 19 = .ok (.invokevirtual 158, 3) := by decide +kernel
theorem dX9_step_22 : decode cX9_step 22 = .ok (.pop, 1) := by decide +kernel
theorem dX9_step_23 : decode cX9_step 23 = .ok (.aload_n 0, 1) := by decide +kernel
theorem dX9_step_24 : decode cX9_step 24 = .ok (.iload_n 1, 1) := by decide +kernel
theorem dX9_step_25 : decode cX9_step 25 = .ok (.invokevirtual 155, 3) := by decide +kernel
theorem dX9_step_28 : decode cX9_step 28 = .ok (.pop, 1) := by decide +kernel
theorem dX9_step_29 : decode cX9_step 29 = .ok (.aload_n 0, 1) := by decide +kernel
theorem dX9_step_30 : decode cX9_step 30 = .ok (.getfield 149, 3) := by decide +kernel
theorem dX9_step_33 : decode cX9_step 33 = .ok (.ireturn, 1) := by decide +kernel
theorem dX9_profileOf_0 : decode cX9_profileOf 0 = .ok (.iconst 0, 1) := by decide +kernel
theorem dX9_profileOf_1 : decode cX9_profileOf 1 = .ok (.istore_n 2, 1) := by decide +kernel
theorem dX9_profileOf_2 : decode cX9_profileOf 2 = .ok (.iconst 0, 1) := by decide +kernel
theorem dX9_profileOf_3 : decode cX9_profileOf 3 = .ok (.istore_n 3, 1) := by decide +kernel
theorem dX9_profileOf_4 : decode cX9_profileOf 4 = .ok (.iload_n 3, 1) := by decide +kernel
theorem dX9_profileOf_5 : decode cX9_profileOf 5 = .ok (.iload_n 1, 1) := by decide +kernel
theorem dX9_profileOf_6 : decode cX9_profileOf 6 = .ok (.if_icmp .ge 35, 3) := by decide +kernel
theorem dX9_profileOf_9 : decode cX9_profileOf 9 = .ok (.aload_n 0, 1) := by decide +kernel
theorem dX9_profileOf_10 : decode cX9_profileOf 10 = .ok (.iload_n 3, 1) := by decide +kernel
theorem dX9_profileOf_11 : decode cX9_profileOf 11 = .ok (.invokevirtual 155, 3) := by decide +kernel
theorem dX9_profileOf_14 : decode cX9_profileOf 14 = .ok (.pop, 1) := by decide +kernel
theorem dX9_profileOf_15 : decode cX9_profileOf 15 = .ok (.aload_n 0, 1) := by decide +kernel
theorem dX9_profileOf_16 : decode cX9_profileOf 16 = .ok (.getfield 149, 3) := by decide +kernel
theorem dX9_profileOf_19 : decode cX9_profileOf 19 = .ok (.sipush 5000, 3) := by decide +kernel
theorem dX9_profileOf_22 : decode cX9_profileOf 22 = .ok (.if_icmp .ne 6, 3) := by decide +kernel
theorem dX9_profileOf_25 : decode cX9_profileOf 25 = .ok (.ldc 162, 2) := by decide +kernel
theorem dX9_profileOf_27 : decode cX9_profileOf 27 = .ok (.ireturn, 1) := by decide +kernel
theorem dX9_profileOf_28 : decode cX9_profileOf 28 = .ok (.iload_n 2, 1) := by decide +kernel
theorem dX9_profileOf_29 : decode cX9_profileOf 29 = .ok (.aload_n 0, 1) := by decide +kernel
theorem dX9_profileOf_30 : decode cX9_profileOf 30 = .ok (.getfield 149, 3) := by decide +kernel
theorem dX9_profileOf_33 : decode cX9_profileOf 33 = .ok (.iadd, 1) := by decide +kernel
theorem dX9_profileOf_34 : decode cX9_profileOf 34 = .ok (.istore_n 2, 1) := by decide +kernel
theorem dX9_profileOf_35 : decode cX9_profileOf 35 = .ok (.iinc 3 1, 3) := by decide +kernel
theorem dX9_profileOf_38 : decode cX9_profileOf 38 = .ok (.goto (-34), 3) := by decide +kernel
theorem dX9_profileOf_41 : decode cX9_profileOf 41 = .ok (.iload_n 2, 1) := by decide +kernel
theorem dX9_profileOf_42 : decode cX9_profileOf 42 = .ok (.ireturn, 1) := by decide +kernel
theorem dX9_profile_0 : decode cX9_profile 0 = .ok (.aload_n 0, 1) := by decide +kernel
theorem dX9_profile_1 : decode cX9_profile 1 = .ok (.iload_n 1, 1) := by decide +kernel
theorem dX9_profile_2 : decode cX9_profile 2 = .ok (.invokevirtual 130, 3) := by decide +kernel
theorem dX9_profile_5 : decode cX9_profile 5 = .ok (.ifCond .ne 6, 3) := by decide +kernel
theorem dX9_profile_8 : decode cX9_profile 8 = .ok (.ldc 163, 2) := by decide +kernel
theorem dX9_profile_10 : decode cX9_profile 10 = .ok (.ireturn, 1) := by decide +kernel
theorem dX9_profile_11 : decode cX9_profile 11 = .ok (.aload_n 0, 1) := by decide +kernel
theorem dX9_profile_12 : decode cX9_profile 12 = .ok (.invokevirtual 158, 3) := by decide +kernel
theorem dX9_profile_15 : decode cX9_profile 15 = .ok (.pop, 1) := by decide +kernel
theorem dX9_profile_16 : decode cX9_profile 16 = .ok (.aload_n 0, 1) := by decide +kernel
theorem dX9_profile_17 : decode cX9_profile 17 = .ok (.iload_n 1, 1) := by decide +kernel
theorem dX9_profile_18 : decode cX9_profile 18 = .ok (.invokevirtual 164, 3) := by decide +kernel
theorem dX9_profile_21 : decode cX9_profile 21 = .ok (.ireturn, 1) := by decide +kernel
theorem dX9_wire_0 : decode cX9_wire 0 = .ok (.aload_n 0, 1) := by decide +kernel
theorem dX9_wire_1 : decode cX9_wire 1 = .ok (.iload_n 1, 1) := by decide +kernel
theorem dX9_wire_2 : decode cX9_wire 2 = .ok (.invokevirtual 130, 3) := by decide +kernel
theorem dX9_wire_5 : decode cX9_wire 5 = .ok (.ifCond .eq 27, 3) := by decide +kernel
theorem dX9_wire_8 : decode cX9_wire 8 = .ok (.aload_n 0, 1) := by decide +kernel
theorem dX9_wire_9 : decode cX9_wire 9 = .ok (.iload_n 2, 1) := by decide +kernel
theorem dX9_wire_10 : decode cX9_wire 10 = .ok (.invokevirtual 130, 3) := by decide +kernel
theorem dX9_wire_13 : decode cX9_wire 13 = .ok (.ifCond .eq 19, 3) := by decide +kernel
theorem dX9_wire_16 : decode cX9_wire 16 = .ok (.iload_n 1, 1) := by decide +kernel
theorem dX9_wire_17 : decode cX9_wire 17 = .ok (.iload_n 2, 1) := by decide +kernel
theorem dX9_wire_18 : decode cX9_wire 18 = .ok (.if_icmp .ge 14, 3) := by decide +kernel
theorem dX9_wire_21 : decode cX9_wire 21 = .ok (.iload_n 3, 1) := by decide +kernel
theorem dX9_wire_22 : decode cX9_wire 22 = .ok (.ldc 134, 2) := by decide +kernel
theorem dX9_wire_24 : decode cX9_wire 24 = .ok (.ldc 135, 2) := by decide +kernel
theorem dX9_wire_26 : decode cX9_wire 26 = .ok (.invokestatic 116, 3) := by decide +kernel
theorem dX9_wire_29 : decode cX9_wire 29 = .ok (.ifCond .ne 5, 3) := by decide +kernel
theorem dX9_wire_32 : decode cX9_wire 32 = .ok (.iconst (-1), 1) := by decide +kernel
theorem dX9_wire_33 : decode cX9_wire 33 = .ok (.ireturn, 1) := by decide +kernel
theorem dX9_wire_34 : decode cX9_wire 34 = .ok (.aload_n 0, 1) := by decide +kernel
theorem dX9_wire_35 : decode cX9_wire 35 = .ok (.getfield 110, 3) := by decide +kernel
theorem dX9_wire_38 : decode cX9_wire 38 = .ok (.bipush 12, 2) := by decide +kernel
theorem dX9_wire_40 : decode cX9_wire 40 = .ok (.if_icmp .ne 6, 3) := by decide +kernel
theorem dX9_wire_43 : decode cX9_wire 43 = .ok (.bipush (-3), 2) := by decide +kernel
theorem dX9_wire_45 : decode cX9_wire 45 = .ok (.ireturn, 1) := by decide +kernel
theorem dX9_wire_46 : decode cX9_wire 46 = .ok (.aload_n 0, 1) := by decide +kernel
theorem dX9_wire_47 : decode cX9_wire 47 = .ok (.getfield 35, 3) := by decide +kernel
theorem dX9_wire_50 : decode cX9_wire 50 = .ok (.aload_n 0, 1) := by decide +kernel
theorem dX9_wire_51 : decode cX9_wire 51 = .ok (.getfield 110, 3) := by decide +kernel
theorem dX9_wire_54 : decode cX9_wire 54 = .ok (.iload_n 1, 1) := by decide +kernel
theorem dX9_wire_55 : decode cX9_wire 55 = .ok (.iastore, 1) := by decide +kernel
theorem dX9_wire_56 : decode cX9_wire 56 = .ok (.aload_n 0, 1) := by decide +kernel
theorem dX9_wire_57 : decode cX9_wire 57 = .ok (.getfield 38, 3) := by decide +kernel
theorem dX9_wire_60 : decode cX9_wire 60 = .ok (.aload_n 0, 1) := by decide +kernel
theorem dX9_wire_61 : decode cX9_wire 61 = .ok (.getfield 110, 3) := by decide +kernel
theorem dX9_wire_64 : decode cX9_wire 64 = .ok (.iload_n 2, 1) := by decide +kernel
theorem dX9_wire_65 : decode cX9_wire 65 = .ok (.iastore, 1) := by decide +kernel
theorem dX9_wire_66 : decode cX9_wire 66 = .ok (.aload_n 0, 1) := by decide +kernel
theorem dX9_wire_67 : decode cX9_wire 67 = .ok (.getfield 41, 3) := by decide +kernel
theorem dX9_wire_70 : decode cX9_wire 70 = .ok (.aload_n 0, 1) := by decide +kernel
theorem dX9_wire_71 : decode cX9_wire 71 = .ok (.getfield 110, 3) := by decide +kernel
theorem dX9_wire_74 : decode cX9_wire 74 = .ok (.iload_n 3, 1) := by decide +kernel
theorem dX9_wire_75 : decode cX9_wire 75 = .ok (.iastore, 1) := by decide +kernel
theorem dX9_wire_76 : decode cX9_wire 76 = .ok (.aload_n 0, 1) := by decide +kernel
theorem dX9_wire_77 : decode cX9_wire 77 = .ok (.dup, 1) := by decide +kernel
theorem dX9_wire_78 : decode cX9_wire 78 = .ok (.getfield 110, 3) := by decide +kernel
theorem dX9_wire_81 : decode cX9_wire 81 = .ok (.iconst 1, 1) := by decide +kernel
theorem dX9_wire_82 : decode cX9_wire 82 = .ok (.iadd, 1) := by decide +kernel
theorem dX9_wire_83 : decode cX9_wire 83 = .ok (.putfield 110, 3) := by decide +kernel
theorem dX9_wire_86 : decode cX9_wire 86 = .ok (.aload_n 0, 1) := by decide +kernel
theorem dX9_wire_87 : decode cX9_wire 87 = .ok (.getfield 110, 3) := by decide +kernel
theorem dX9_wire_90 : decode cX9_wire 90 = .ok (.ireturn, 1) := by decide +kernel
theorem dX9_offOf_0 : decode cX9_offOf 0 = .ok (.aload_n 0, 1) := by decide +kernel
theorem dX9_offOf_1 : decode cX9_offOf 1 = .ok (.aload_n 0, 1) := by decide +kernel
theorem dX9_offOf_2 : decode cX9_offOf 2 = .ok (.getfield 35, 3) := by decide +kernel
theorem dX9_offOf_5 : decode cX9_offOf 5 = .ok (.iload_n 1, 1) := by decide +kernel
theorem dX9_offOf_6 : decode cX9_offOf 6 = .ok (.iaload, 1) := by decide +kernel
theorem dX9_offOf_7 : decode cX9_offOf 7 = .ok (.invokevirtual 164, 3) := by decide +kernel
theorem dX9_offOf_10 : decode cX9_offOf 10 = .ok (.istore_n 2, 1) := by decide +kernel
theorem dX9_offOf_11 : decode cX9_offOf 11 = .ok (.aload_n 0, 1) := by decide +kernel
theorem dX9_offOf_12 : decode cX9_offOf 12 = .ok (.aload_n 0, 1) := by decide +kernel
theorem dX9_offOf_13 : decode cX9_offOf 13 = .ok (.getfield 38, 3) := by decide +kernel
theorem dX9_offOf_16 : decode cX9_offOf 16 = .ok (.iload_n 1, 1) := by decide +kernel
theorem dX9_offOf_17 : decode cX9_offOf 17 = .ok (.iaload, 1) := by decide +kernel
theorem dX9_offOf_18 : decode cX9_offOf 18 = .ok (.invokevirtual 164, 3) := by decide +kernel
theorem dX9_offOf_21 : decode cX9_offOf 21 = .ok (.istore_n 3, 1) := by decide +kernel
theorem dX9_offOf_22 : decode cX9_offOf 22 = .ok (.iload_n 2, 1) := by decide +kernel
theorem dX9_offOf_23 : decode cX9_offOf 23 = .ok (.ldc 162, 2) := by decide +kernel
theorem dX9_offOf_25 : decode cX9_offOf 25 = .ok (.if_icmp .eq 9, 3) := by decide +kernel
theorem dX9_offOf_28 : decode cX9_offOf 28 = .ok (.iload_n 3, 1) := by decide +kernel
theorem dX9_offOf_29 : decode cX9_offOf 29 = .ok (.ldc 162, 2) := by decide +kernel
theorem dX9_offOf_31 : decode cX9_offOf 31 = .ok (.if_icmp .ne 8, 3) := by decide +kernel
theorem dX9_offOf_34 : decode cX9_offOf 34 = .ok (.ldc 162, 2) := by decide +kernel
theorem dX9_offOf_36 : decode cX9_offOf 36 = .ok (.goto 13, 3) := by decide +kernel
theorem dX9_offOf_39 : decode cX9_offOf 39 = .ok (.aload_n 0, 1) := by decide +kernel
theorem dX9_offOf_40 : decode cX9_offOf 40 = .ok (.getfield 41, 3) := by decide +kernel
theorem dX9_offOf_43 : decode cX9_offOf 43 = .ok (.iload_n 1, 1) := by decide +kernel
theorem dX9_offOf_44 : decode cX9_offOf 44 = .ok (.iaload, 1) := by decide +kernel
theorem dX9_offOf_45 : decode cX9_offOf 45 = .ok (.iload_n 3, 1) := by decide +kernel
theorem dX9_offOf_46 : decode cX9_offOf 46 = .ok (.iload_n 2, 1) := by decide +kernel
theorem dX9_offOf_47 : decode cX9_offOf 47 = .ok (.isub, 1) := by decide +kernel
theorem dX9_offOf_48 : decode cX9_offOf 48 = .ok (.isub, 1) := by decide +kernel
theorem dX9_offOf_49 : decode cX9_offOf 49 = .ok (.ireturn, 1) := by decide +kernel
theorem dX9_wires_0 : decode cX9_wires 0 = .ok (.iload_n 1, 1) := by decide +kernel
theorem dX9_wires_1 : decode cX9_wires 1 = .ok (.iconst 0, 1) := by decide +kernel
theorem dX9_wires_2 : decode cX9_wires 2 = .ok (.iconst 2, 1) := by decide +kernel
theorem dX9_wires_3 : decode cX9_wires 3 = .ok (.aload_n 0, 1) := by decide +kernel
theorem dX9_wires_4 : decode cX9_wires 4 = .ok (.getfield 110, 3) := by decide +kernel
theorem dX9_wires_7 : decode cX9_wires 7 = .ok (.iadd, 1) := by decide +kernel
theorem dX9_wires_8 : decode cX9_wires 8 = .ok (.invokestatic 116, 3) := by decide +kernel
theorem dX9_wires_11 : decode cX9_wires 11 = .ok (.ifCond .ne 6, 3) := by decide +kernel
theorem dX9_wires_14 : decode cX9_wires 14 = .ok (.ldc 163, 2) := by decide +kernel
theorem dX9_wires_16 : decode cX9_wires 16 = .ok (.ireturn, 1) := by decide +kernel
theorem dX9_wires_17 : decode cX9_wires 17 = .ok (.aload_n 0, 1) := by decide +kernel
theorem dX9_wires_18 : decode cX9_wires 18 = .ok (.invokevirtual 158, 3) := by decide +kernel
theorem dX9_wires_21 : decode cX9_wires 21 = .ok (.pop, 1) := by decide +kernel
theorem dX9_wires_22 : decode cX9_wires 22 = .ok (.iload_n 1, 1) := by decide +kernel
theorem dX9_wires_23 : decode cX9_wires 23 = .ok (.iconst 2, 1) := by decide +kernel
theorem dX9_wires_24 : decode cX9_wires 24 = .ok (.if_icmp .le 11, 3) := by decide +kernel
theorem dX9_wires_27 : decode cX9_wires 27 = .ok (.aload_n 0, 1) := by decide +kernel
theorem dX9_wires_28 : decode cX9_wires 28 = .ok (.iload_n 1, 1) := by decide +kernel
theorem dX9_wires_29 : decode cX9_wires 29 = .ok (.iconst 3, 1) := by decide +kernel
theorem dX9_wires_30 : decode cX9_wires 30 = .ok (.isub, 1) := by decide +kernel
theorem dX9_wires_31 : decode cX9_wires 31 = .ok (.invokevirtual 167, 3) := by decide +kernel
theorem dX9_wires_34 : decode cX9_wires 34 = .ok (.ireturn, 1) := by decide +kernel
theorem dX9_wires_35 : decode cX9_wires 35 = .ok (.iconst 0, 1) := by decide +kernel
theorem dX9_wires_36 : decode cX9_wires 36 = .ok (.istore_n 2, 1) := by decide +kernel
theorem dX9_wires_37 : decode cX9_wires 37 = .ok (.iconst 0, 1) := by decide +kernel
theorem dX9_wires_38 : decode cX9_wires 38 = .ok (.istore_n 3, 1) := by decide +kernel
theorem dX9_wires_39 : decode cX9_wires 39 = .ok (.iload_n 3, 1) := by decide +kernel
theorem dX9_wires_40 : decode cX9_wires 40 = .ok (.aload_n 0, 1) := by decide +kernel
theorem dX9_wires_41 : decode cX9_wires 41 = .ok (.getfield 110, 3) := by decide +kernel
theorem dX9_wires_44 : decode cX9_wires 44 = .ok (.if_icmp .ge 74, 3) := by decide +kernel
theorem dX9_wires_47 : decode cX9_wires 47 = .ok (.aload_n 0, 1) := by decide +kernel
theorem dX9_wires_48 : decode cX9_wires 48 = .ok (.iload_n 3, 1) := by decide +kernel
theorem dX9_wires_49 : decode cX9_wires 49 = .ok (.invokevirtual 167, 3) := by decide +kernel
theorem dX9_wires_52 : decode cX9_wires 52 = .ok (.istore 4, 2) := by decide +kernel
theorem dX9_wires_54 : decode cX9_wires 54 = .ok (.iload 4, 2) := by decide +kernel
theorem dX9_wires_56 : decode cX9_wires 56 = .ok (.ldc 162, 2) := by decide +kernel
theorem dX9_wires_58 : decode cX9_wires 58 = .ok (.if_icmp .ne 7, 3) := by decide +kernel
theorem dX9_wires_61 : decode cX9_wires 61 = .ok (.iconst 2, 1) := by decide +kernel
theorem dX9_wires_62 : decode cX9_wires 62 = .ok (.goto 34, 3) := by decide +kernel
theorem dX9_wires_65 : decode cX9_wires 65 = .ok (.iload 4, 2) := by decide +kernel
theorem dX9_wires_67 : decode cX9_wires 67 = .ok (.invokestatic 145, 3) := by decide +kernel
theorem dX9_wires_70 : decode cX9_wires 70 = .ok (.aload_n 0, 1) := by decide +kernel
theorem dX9_wires_71 : decode cX9_wires 71 = .ok (.getfield 32, 3) := by decide +kernel
theorem dX9_wires_74 : decode cX9_wires 74 = .ok (.aload_n 0, 1) := by decide +kernel
theorem dX9_wires_75 : decode cX9_wires 75 = .ok (.getfield 38, 3) := by decide +kernel
theorem dX9_wires_78 : decode cX9_wires 78 = .ok (.iload_n 3, 1) := by decide +kernel
theorem dX9_wires_79 : decode cX9_wires 79 = .ok (.iaload, 1) := by decide +kernel
theorem dX9_wires_80 : decode cX9_wires 80 = .ok (.aload_n 0, 1) := by decide +kernel
theorem dX9_wires_81 : decode cX9_wires 81 = .ok (.getfield 35, 3) := by decide +kernel
theorem dX9_wires_84 : decode cX9_wires 84 = .ok (.iload_n 3, 1) := by decide +kernel
theorem dX9_wires_85 : decode cX9_wires 85 = .ok (.iaload, 1) := by decide +kernel
theorem dX9_wires_86 : decode cX9_wires 86 = .ok (.isub, 1) := by decide +kernel
theorem dX9_wires_87 : decode cX9_wires 87 = .ok (.imul, 1) := by decide +kernel
theorem dX9_wires_88 : decode cX9_wires 88 = .ok (.if_icmp .gt 7, 3) := by decide +kernel
theorem dX9_wires_91 : decode cX9_wires 91 = .ok (.iconst 0, 1) := by decide +kernel
theorem dX9_wires_92 : decode cX9_wires 92 = .ok (.goto 4, 3) := by decide +kernel
theorem dX9_wires_95 : decode cX9_wires 95 = .ok (.iconst 1, 1) := by decide +kernel
theorem dX9_wires_96 : decode cX9_wires 96 = .ok (.istore 5, 2) := by decide +kernel
theorem dX9_wires_98 : decode cX9_wires 98 = .ok (.iload_n 2, 1) := by decide +kernel
theorem dX9_wires_99 : decode cX9_wires 99 = .ok (.iload 5, 2) := by decide +kernel
theorem dX9_wires_101 : decode cX9_wires 101 = .ok (.iload_n 1, 1) := by decide +kernel
theorem dX9_wires_102 : decode cX9_wires 102 = .ok (.if_icmp .ne 7, 3) := by decide +kernel
theorem dX9_wires_105 : decode cX9_wires 105 = .ok (.iconst 1, 1) := by decide +kernel
theorem dX9_wires_106 : decode cX9_wires 106 = .ok (.goto 4, 3) := by decide +kernel
theorem dX9_wires_109 : decode cX9_wires 109 = .ok (.iconst 0, 1) := by decide +kernel
theorem dX9_wires_110 : decode cX9_wires 110 = .ok (.iadd, 1) := by decide +kernel
theorem dX9_wires_111 : decode cX9_wires 111 = .ok (.istore_n 2, 1) := by decide +kernel
theorem dX9_wires_112 : decode cX9_wires 112 = .ok (.iinc 3 1, 3) := by decide +kernel
theorem dX9_wires_115 : decode cX9_wires 115 = .ok (.goto (-76), 3) := by decide +kernel
theorem dX9_wires_118 : decode cX9_wires 118 = .ok (.iload_n 2, 1) := by decide +kernel
theorem dX9_wires_119 : decode cX9_wires 119 = .ok (.ireturn, 1) := by decide +kernel
theorem dX9_pull_0 : decode cX9_pull 0 = .ok (.iload_n 1, 1) := by decide +kernel
theorem dX9_pull_1 : decode cX9_pull 1 = .ok (.iconst 0, 1) := by decide +kernel
theorem dX9_pull_2 : decode cX9_pull 2 = .ok (.iconst 2, 1) := by decide +kernel
theorem dX9_pull_3 : decode cX9_pull 3 = .ok (.invokestatic 116, 3) := by decide +kernel
theorem dX9_pull_6 : decode cX9_pull 6 = .ok (.ifCond .eq 23, 3) := by decide +kernel
theorem dX9_pull_9 : decode cX9_pull 9 = .ok (.iload_n 2, 1) := by decide +kernel
theorem dX9_pull_10 : decode cX9_pull 10 = .ok (.bipush (-2), 2) := by decide +kernel
theorem dX9_pull_12 : decode cX9_pull 12 = .ok (.iconst 2, 1) := by decide +kernel
theorem dX9_pull_13 : decode cX9_pull 13 = .ok (.invokestatic 116, 3) := by decide +kernel
theorem dX9_pull_16 : decode cX9_pull 16 = .ok (.ifCond .eq 13, 3) := by decide +kernel
theorem dX9_pull_19 : decode cX9_pull 19 = .ok (.iload_n 3, 1) := by decide +kernel
theorem dX9_pull_20 : decode cX9_pull 20 = .ok (.iconst 0, 1) := by decide +kernel
theorem dX9_pull_21 : decode cX9_pull 21 = .ok (.bipush 50, 2) := by decide +kernel
theorem dX9_pull_23 : decode cX9_pull 23 = .ok (.invokestatic 116, 3) := by decide +kernel
theorem dX9_pull_26 : decode cX9_pull 26 = .ok (.ifCond .ne 5, 3) := by decide +kernel
theorem dX9_pull_29 : decode cX9_pull 29 = .ok (.iconst (-1), 1) := by decide +kernel
theorem dX9_pull_30 : decode cX9_pull 30 = .ok (.ireturn, 1) := by decide +kernel
theorem dX9_pull_31 : decode cX9_pull 31 = .ok (.aload_n 0, 1) := by decide +kernel
theorem dX9_pull_32 : decode cX9_pull 32 = .ok (.getfield 44, 3) := by decide +kernel
theorem dX9_pull_35 : decode cX9_pull 35 = .ok (.iconst 5, 1) := by decide +kernel
theorem dX9_pull_36 : decode cX9_pull 36 = .ok (.iload_n 1, 1) := by decide +kernel
theorem dX9_pull_37 : decode cX9_pull 37 = .ok (.imul, 1) := by decide +kernel
theorem dX9_pull_38 : decode cX9_pull 38 = .ok (.iload_n 2, 1) := by decide +kernel
theorem dX9_pull_39 : decode cX9_pull 39 = .ok (.iadd, 1) := by decide +kernel
theorem dX9_pull_40 : decode cX9_pull 40 = .ok (.iconst 2, 1) := by decide +kernel
theorem dX9_pull_41 : decode cX9_pull 41 = .ok (.iadd, 1) := by decide +kernel
theorem dX9_pull_42 : decode cX9_pull 42 = .ok (.iaload, 1) := by decide +kernel
theorem dX9_pull_43 : decode cX9_pull 43 = .ok (.istore 4, 2) := by decide +kernel
theorem dX9_pull_45 : decode cX9_pull 45 = .ok (.aload_n 0, 1) := by decide +kernel
theorem dX9_pull_46 : decode cX9_pull 46 = .ok (.getfield 44, 3) := by decide +kernel
theorem dX9_pull_49 : decode cX9_pull 49 = .ok (.iconst 5, 1) := by decide +kernel
theorem dX9_pull_50 : decode cX9_pull 50 = .ok (.iload_n 1, 1) := by decide +kernel
theorem dX9_pull_51 : decode cX9_pull 51 = .ok (.imul, 1) := by decide +kernel
theorem dX9_pull_52 : decode cX9_pull 52 = .ok (.iload_n 2, 1) := by decide +kernel
theorem dX9_pull_53 : decode cX9_pull 53 = .ok (.iadd, 1) := by decide +kernel
theorem dX9_pull_54 : decode cX9_pull 54 = .ok (.iconst 2, 1) := by decide +kernel
theorem dX9_pull_55 : decode cX9_pull 55 = .ok (.iadd, 1) := by decide +kernel
theorem dX9_pull_56 : decode cX9_pull 56 = .ok (.iload_n 3, 1) := by decide +kernel
theorem dX9_pull_57 : decode cX9_pull 57 = .ok (.iastore, 1) := by decide +kernel
theorem dX9_pull_58 : decode cX9_pull 58 = .ok (.iload 4, 2) := by decide +kernel
theorem dX9_pull_60 : decode cX9_pull 60 = .ok (.ireturn, 1) := by decide +kernel
theorem dX9_rest_0 : decode cX9_rest 0 = .ok (.iload_n 1, 1) := by decide +kernel
theorem dX9_rest_1 : decode cX9_rest 1 = .ok (.iconst 0, 1) := by decide +kernel
theorem dX9_rest_2 : decode cX9_rest 2 = .ok (.sipush 10000, 3) := by decide +kernel
theorem dX9_rest_5 : decode cX9_rest 5 = .ok (.invokestatic 116, 3) := by decide +kernel
theorem dX9_rest_8 : decode cX9_rest 8 = .ok (.ifCond .ne 5, 3) := by decide +kernel
theorem dX9_rest_11 : decode cX9_rest 11 = .ok (.iconst (-1), 1) := by decide +kernel
theorem dX9_rest_12 : decode cX9_rest 12 = .ok (.ireturn, 1) := by decide +kernel
theorem dX9_rest_13 : decode cX9_rest 13 = .ok (.aload_n 0, 1) := by decide +kernel
theorem dX9_rest_14 : decode cX9_rest 14 = .ok (.getfield 47, 3) := by decide +kernel
theorem dX9_rest_17 : decode cX9_rest 17 = .ok (.istore_n 2, 1) := by decide +kernel
theorem dX9_rest_18 : decode cX9_rest 18 = .ok (.aload_n 0, 1) := by decide +kernel
theorem dX9_rest_19 : decode cX9_rest 19 = .ok (.iload_n 1, 1) := by decide +kernel
theorem dX9_rest_20 : decode cX9_rest 20 = .ok (.putfield 47, 3) := by decide +kernel
theorem dX9_rest_23 : decode cX9_rest 23 = .ok (.iload_n 2, 1) := by decide +kernel
theorem dX9_rest_24 : decode cX9_rest 24 = .ok (.ireturn, 1) := by decide +kernel
theorem dX9_pullOf_0 : decode cX9_pullOf 0 = .ok (.aload_n 0, 1) := by decide +kernel
theorem dX9_pullOf_1 : decode cX9_pullOf 1 = .ok (.getfield 44, 3) := by decide +kernel
theorem dX9_pullOf_4 : decode cX9_pullOf 4 = .ok (.iconst 5, 1) := by decide +kernel
theorem dX9_pullOf_5 : decode cX9_pullOf 5 = .ok (.iload_n 1, 1) := by decide +kernel
theorem dX9_pullOf_6 : decode cX9_pullOf 6 = .ok (.imul, 1) := by decide +kernel
theorem dX9_pullOf_7 : decode cX9_pullOf 7 = .ok (.iload_n 2, 1) := by decide +kernel
theorem dX9_pullOf_8 : decode cX9_pullOf 8 = .ok (.iadd, 1) := by decide +kernel
theorem dX9_pullOf_9 : decode cX9_pullOf 9 = .ok (.iconst 2, 1) := by decide +kernel
theorem dX9_pullOf_10 : decode cX9_pullOf 10 = .ok (.iadd, 1) := by decide +kernel
theorem dX9_pullOf_11 : decode cX9_pullOf 11 = .ok (.iaload, 1) := by decide +kernel
theorem dX9_pullOf_12 : decode cX9_pullOf 12 = .ok (.ireturn, 1) := by decide +kernel
theorem dX9_lays_0 : decode cX9_lays 0 = .ok (.bipush (-2), 2) := by decide +kernel
theorem dX9_lays_2 : decode cX9_lays 2 = .ok (.istore 4, 2) := by decide +kernel
theorem dX9_lays_4 : decode cX9_lays 4 = .ok (.iload 4, 2) := by decide +kernel
theorem dX9_lays_6 : decode cX9_lays 6 = .ok (.iconst 2, 1) := by decide +kernel
theorem dX9_lays_7 : decode cX9_lays 7 = .ok (.if_icmp .gt 78, 3) := by decide +kernel
theorem dX9_lays_10 : decode cX9_lays 10 = .ok (.aload_n 0, 1) := by decide +kernel
theorem dX9_lays_11 : decode cX9_lays 11 = .ok (.iload_n 2, 1) := by decide +kernel
theorem dX9_lays_12 : decode cX9_lays 12 = .ok (.iload 4, 2) := by decide +kernel
theorem dX9_lays_14 : decode cX9_lays 14 = .ok (.iadd, 1) := by decide +kernel
theorem dX9_lays_15 : decode cX9_lays 15 = .ok (.invokevirtual 130, 3) := by decide +kernel
theorem dX9_lays_18 : decode cX9_lays 18 = .ok (.ifCond .eq 15, 3) := by decide +kernel
theorem dX9_lays_21 : decode cX9_lays 21 = .ok (.iload_n 3, 1) := by decide +kernel
theorem dX9_lays_22 : decode cX9_lays 22 = .ok (.aload_n 0, 1) := by decide +kernel
theorem dX9_lays_23 : decode cX9_lays 23 = .ok (.iload_n 1, 1) := by decide +kernel
theorem dX9_lays_24 : decode cX9_lays 24 = .ok (.iload 4, 2) := by decide +kernel
theorem dX9_lays_26 : decode cX9_lays 26 = .ok (.invokevirtual 170, 3) := by decide +kernel
theorem dX9_lays_29 : decode cX9_lays 29 = .ok (.imul, 1) := by decide +kernel
theorem dX9_lays_30 : decode cX9_lays 30 = .ok (.goto 4, 3) := by decide +kernel
theorem dX9_lays_33 : decode cX9_lays 33 = .ok (.iconst 0, 1) := by decide +kernel
theorem dX9_lays_34 : decode cX9_lays 34 = .ok (.istore 5, 2) := by decide +kernel
theorem dX9_lays_36 : decode cX9_lays 36 = .ok (.aload_n 0, 1) := by decide +kernel
theorem dX9_lays_37 : decode cX9_lays 37 = .ok (.getfield 59, 3) := by decide +kernel
theorem dX9_lays_40 : decode cX9_lays 40 = .ok (.iconst 5, 1) := by decide +kernel
theorem dX9_lays_41 : decode cX9_lays 41 = .ok (.aload_n 0, 1) := by decide +kernel
theorem dX9_lays_42 : decode cX9_lays 42 = .ok (.getfield 113, 3) := by decide +kernel
theorem dX9_lays_45 : decode cX9_lays 45 = .ok (.imul, 1) := by decide +kernel
theorem dX9_lays_46 : decode cX9_lays 46 = .ok (.iload 4, 2) := by decide +kernel
theorem dX9_lays_48 : decode cX9_lays 48 = .ok (.iadd, 1) := by decide +kernel
theorem dX9_lays_49 : decode cX9_lays 49 = .ok (.iconst 2, 1) := by decide +kernel
theorem dX9_lays_50 : decode cX9_lays 50 = .ok (.iadd, 1) := by decide +kernel
theorem dX9_lays_51 : decode cX9_lays 51 = .ok (.iload 5, 2) := by decide +kernel
theorem dX9_lays_53 : decode cX9_lays 53 = .ok (.iastore, 1) := by decide +kernel
theorem dX9_lays_54 : decode cX9_lays 54 = .ok (.aload_n 0, 1) := by decide +kernel
theorem dX9_lays_55 : decode cX9_lays 55 = .ok (.iload_n 2, 1) := by decide +kernel
theorem dX9_lays_56 : decode cX9_lays 56 = .ok (.iload 4, 2) := by decide +kernel
theorem dX9_lays_58 : decode cX9_lays 58 = .ok (.iadd, 1) := by decide +kernel
theorem dX9_lays_59 : decode cX9_lays 59 = .ok (.invokevirtual 130, 3) := by decide +kernel
theorem dX9_lays_62 : decode cX9_lays 62 = .ok (.ifCond .eq 17, 3) := by decide +kernel
theorem dX9_lays_65 : decode cX9_lays 65 = .ok (.aload_n 0, 1) := by decide +kernel
theorem dX9_lays_66 : decode cX9_lays 66 = .ok (.getfield 13, 3) := by decide +kernel
theorem dX9_lays_69 : decode cX9_lays 69 = .ok (.iload_n 2, 1) := by decide +kernel
theorem dX9_lays_70 : decode cX9_lays 70 = .ok (.iload 4, 2) := by decide +kernel
theorem dX9_lays_72 : decode cX9_lays 72 = .ok (.iadd, 1) := by decide +kernel
theorem dX9_lays_73 : decode cX9_lays 73 = .ok (.dup2, 1) := by decide +kernel
theorem dX9_lays_74 : decode cX9_lays 74 = .ok (.iaload, 1) := by decide +kernel
theorem dX9_lays_75 : decode cX9_lays 75 = .ok (.iload 5, 2) := by decide +kernel
theorem dX9_lays_77 : decode cX9_lays 77 = .ok (.isub, 1) := by decide +kernel
theorem dX9_lays_78 : decode cX9_lays 78 = .ok (.iastore, 1) := by decide +kernel
theorem dX9_lays_79 : decode cX9_lays 79 = .ok (.iinc 4 1, 3) := by decide +kernel
theorem dX9_lays_82 : decode cX9_lays 82 = .ok (.goto (-78), 3) := by decide +kernel
theorem dX9_lays_85 : decode cX9_lays 85 = .ok (.aload_n 0, 1) := by decide +kernel
theorem dX9_lays_86 : decode cX9_lays 86 = .ok (.getfield 50, 3) := by decide +kernel
theorem dX9_lays_89 : decode cX9_lays 89 = .ok (.aload_n 0, 1) := by decide +kernel
theorem dX9_lays_90 : decode cX9_lays 90 = .ok (.getfield 113, 3) := by decide +kernel
theorem dX9_lays_93 : decode cX9_lays 93 = .ok (.iload_n 1, 1) := by decide +kernel
theorem dX9_lays_94 : decode cX9_lays 94 = .ok (.iastore, 1) := by decide +kernel
theorem dX9_lays_95 : decode cX9_lays 95 = .ok (.aload_n 0, 1) := by decide +kernel
theorem dX9_lays_96 : decode cX9_lays 96 = .ok (.getfield 53, 3) := by decide +kernel
theorem dX9_lays_99 : decode cX9_lays 99 = .ok (.aload_n 0, 1) := by decide +kernel
theorem dX9_lays_100 : decode cX9_lays 100 = .ok (.getfield 113, 3) := by decide +kernel
theorem dX9_lays_103 : decode cX9_lays 103 = .ok (.iload_n 2, 1) := by decide +kernel
theorem dX9_lays_104 : decode cX9_lays 104 = .ok (.iastore, 1) := by decide +kernel
theorem dX9_lays_105 : decode cX9_lays 105 = .ok (.aload_n 0, 1) := by decide +kernel
theorem dX9_lays_106 : decode cX9_lays 106 = .ok (.getfield 56, 3) := by decide +kernel
theorem dX9_lays_109 : decode cX9_lays 109 = .ok (.aload_n 0, 1) := by decide +kernel
theorem dX9_lays_110 : decode cX9_lays 110 = .ok (.getfield 113, 3) := by decide +kernel
theorem dX9_lays_113 : decode cX9_lays 113 = .ok (.iload_n 3, 1) := by decide +kernel
theorem dX9_lays_114 : decode cX9_lays 114 = .ok (.iastore, 1) := by decide +kernel
theorem dX9_lays_115 : decode cX9_lays 115 = .ok (.aload_n 0, 1) := by decide +kernel
theorem dX9_lays_116 : decode cX9_lays 116 = .ok (.dup, 1) := by decide +kernel
theorem dX9_lays_117 : decode cX9_lays 117 = .ok (.getfield 113, 3) := by decide +kernel
theorem dX9_lays_120 : decode cX9_lays 120 = .ok (.iconst 1, 1) := by decide +kernel
theorem dX9_lays_121 : decode cX9_lays 121 = .ok (.iadd, 1) := by decide +kernel
theorem dX9_lays_122 : decode cX9_lays 122 = .ok (.putfield 113, 3) := by decide +kernel
theorem dX9_lays_125 : decode cX9_lays 125 = .ok (.return_, 1) := by decide +kernel
theorem dX9_stroke_0 : decode cX9_stroke 0 = .ok (.iload_n 1, 1) := by decide +kernel
theorem dX9_stroke_1 : decode cX9_stroke 1 = .ok (.iconst 0, 1) := by decide +kernel
theorem dX9_stroke_2 : decode cX9_stroke 2 = .ok (.iconst 2, 1) := by decide +kernel
theorem dX9_stroke_3 : decode cX9_stroke 3 = .ok (.invokestatic 116, 3) := by decide +kernel
theorem dX9_stroke_6 : decode cX9_stroke 6 = .ok (.ifCond .eq 21, 3) := by decide +kernel
theorem dX9_stroke_9 : decode cX9_stroke 9 = .ok (.aload_n 0, 1) := by decide +kernel
theorem dX9_stroke_10 : decode cX9_stroke 10 = .ok (.iload_n 2, 1) := by decide +kernel
theorem dX9_stroke_11 : decode cX9_stroke 11 = .ok (.invokevirtual 130, 3) := by decide +kernel
theorem dX9_stroke_14 : decode cX9_stroke 14 = .ok (.ifCond .eq 13, 3) := by decide +kernel
theorem dX9_stroke_17 : decode cX9_stroke 17 = .ok (.iload_n 3, 1) := by decide +kernel
theorem dX9_stroke_18 : decode cX9_stroke 18 = .ok (.iconst 1, 1) := by decide +kernel
theorem dX9_stroke_19 : decode cX9_stroke 19 = .ok (.bipush 20, 2) := by decide +kernel
theorem dX9_stroke_21 : decode cX9_stroke 21 = .ok (.invokestatic 116, 3) := by decide +kernel
theorem dX9_stroke_24 : decode cX9_stroke 24 = .ok (.ifCond .ne 6, 3) := by decide +kernel
theorem dX9_stroke_27 : decode cX9_stroke 27 = .ok (.ldc 136, 2) := by decide +kernel
theorem dX9_stroke_29 : decode cX9_stroke 29 = .ok (.ireturn, 1) := by decide +kernel
theorem dX9_stroke_30 : decode cX9_stroke 30 = .ok (.bipush (-2), 2) := by decide +kernel
theorem dX9_stroke_32 : decode cX9_stroke 32 = .ok (.istore 4, 2) := by decide +kernel
theorem dX9_stroke_34 : decode cX9_stroke 34 = .ok (.iload 4, 2) := by decide +kernel
theorem dX9_stroke_36 : decode cX9_stroke 36 = .ok (.iconst 2, 1) := by decide +kernel
theorem dX9_stroke_37 : decode cX9_stroke 37 = .ok (.if_icmp .gt 47, 3) := by decide +kernel
theorem dX9_stroke_40 : decode cX9_stroke 40 = .ok (.aload_n 0, 1) := by decide +kernel
theorem dX9_stroke_41 : decode cX9_stroke 41 = .ok (.iload_n 2, 1) := by decide +kernel
theorem dX9_stroke_42 : decode cX9_stroke 42 = .ok (.iload 4, 2) := by decide +kernel
theorem dX9_stroke_44 : decode cX9_stroke 44 = .ok (.iadd, 1) := by decide +kernel
theorem dX9_stroke_45 : decode cX9_stroke 45 = .ok (.invokevirtual 130, 3) := by decide +kernel
theorem dX9_stroke_48 : decode cX9_stroke 48 = .ok (.ifCond .eq 30, 3) := by decide +kernel
theorem dX9_stroke_51 : decode cX9_stroke 51 = .ok (.aload_n 0, 1) := by decide +kernel
theorem dX9_stroke_52 : decode cX9_stroke 52 = .ok (.getfield 13, 3) := by decide +kernel
theorem dX9_stroke_55 : decode cX9_stroke 55 = .ok (.iload_n 2, 1) := by decide +kernel
theorem dX9_stroke_56 : decode cX9_stroke 56 = .ok (.iload 4, 2) := by decide +kernel
theorem dX9_stroke_58 : decode cX9_stroke 58 = .ok (.iadd, 1) := by decide +kernel
theorem dX9_stroke_59 : decode cX9_stroke 59 = .ok (.iaload, 1) := by decide +kernel
theorem dX9_stroke_60 : decode cX9_stroke 60 = .ok (.iload_n 3, 1) := by decide +kernel
theorem dX9_stroke_61 : decode cX9_stroke 61 = .ok (.aload_n 0, 1) := by decide +kernel
theorem dX9_stroke_62 : decode cX9_stroke 62 = .ok (.iload_n 1, 1) := by decide +kernel
theorem dX9_stroke_63 : decode cX9_stroke 63 = .ok (.iload 4, 2) := by decide +kernel
theorem dX9_stroke_65 : decode cX9_stroke 65 = .ok (.invokevirtual 170, 3) := by decide +kernel
theorem dX9_stroke_68 : decode cX9_stroke 68 = .ok (.imul, 1) := by decide +kernel
theorem dX9_stroke_69 : decode cX9_stroke 69 = .ok (.isub, 1) := by decide +kernel
theorem dX9_stroke_70 : decode cX9_stroke 70 = .ok (.ldc 134, 2) := by decide +kernel
theorem dX9_stroke_72 : decode cX9_stroke 72 = .ok (.if_icmp .ge 6, 3) := by decide +kernel
theorem dX9_stroke_75 : decode cX9_stroke 75 = .ok (.ldc 173, 2) := by decide +kernel
theorem dX9_stroke_77 : decode cX9_stroke 77 = .ok (.ireturn, 1) := by decide +kernel
theorem dX9_stroke_78 : decode cX9_stroke 78 = .ok (.iinc 4 1, 3) := by decide +kernel
theorem dX9_stroke_81 : decode cX9_stroke 81 = .ok (.goto (-47), 3) := by decide +kernel
theorem dX9_stroke_84 : decode cX9_stroke 84 = .ok (.aload_n 0, 1) := by decide +kernel
theorem dX9_stroke_85 : decode cX9_stroke 85 = .ok (.getfield 113, 3) := by decide +kernel
theorem dX9_stroke_88 : decode cX9_stroke 88 = .ok (.bipush 60, 2) := by decide +kernel
theorem dX9_stroke_90 : decode cX9_stroke 90 = .ok (.if_icmp .ne 6, 3) := by decide +kernel
theorem dX9_stroke_93 : decode cX9_stroke 93 = .ok (.ldc 174, 2) := by decide +kernel
theorem dX9_stroke_95 : decode cX9_stroke 95 = .ok (.ireturn, 1) := by decide +kernel
theorem dX9_stroke_96 : decode cX9_stroke 96 = .ok (.aload_n 0, 1) := by decide +kernel
theorem dX9_stroke_97 : decode cX9_stroke 97 = .ok (.iload_n 1, 1) := by decide +kernel
theorem dX9_stroke_98 : decode cX9_stroke 98 = .ok (.iload_n 2, 1) := by decide +kernel
theorem dX9_stroke_99 : decode cX9_stroke 99 = .ok (.iload_n 3, 1) := by decide +kernel
theorem dX9_stroke_100 : decode cX9_stroke 100 = .ok (.invokevirtual 175, 3) := by decide +kernel
theorem dX9_stroke_103 : decode cX9_stroke 103 = .ok (.aload_n 0, 1) := by decide +kernel
theorem dX9_stroke_104 : decode cX9_stroke 104 = .ok (.getfield 13, 3) := by decide +kernel
theorem dX9_stroke_107 : decode cX9_stroke 107 = .ok (.iload_n 2, 1) := by decide +kernel
theorem dX9_stroke_108 : decode cX9_stroke 108 = .ok (.iaload, 1) := by decide +kernel
theorem dX9_stroke_109 : decode cX9_stroke 109 = .ok (.ireturn, 1) := by decide +kernel
theorem dX9_undo_0 : decode cX9_undo 0 = .ok (.aload_n 0, 1) := by decide +kernel
theorem dX9_undo_1 : decode cX9_undo 1 = .ok (.getfield 113, 3) := by decide +kernel
theorem dX9_undo_4 : decode cX9_undo 4 = .ok (.ifCond .ne 6, 3) := by decide +kernel
theorem dX9_undo_7 : decode cX9_undo 7 = .ok (.bipush (-2), 2) := by decide +kernel
theorem dX9_undo_9 : decode cX9_undo 9 = .ok (.ireturn, 1) := by decide +kernel
theorem dX9_undo_10 : decode cX9_undo 10 = .ok (.aload_n 0, 1) := by decide +kernel
theorem dX9_undo_11 : decode cX9_undo 11 = .ok (.dup, 1) := by decide +kernel
theorem dX9_undo_12 : decode cX9_undo 12 = .ok (.getfield 113, 3) := by decide +kernel
theorem dX9_undo_15 : decode cX9_undo 15 = .ok (.iconst 1, 1) := by decide +kernel
theorem dX9_undo_16 : decode cX9_undo 16 = .ok (.isub, 1) := by decide +kernel
theorem dX9_undo_17 : decode cX9_undo 17 = .ok (.putfield 113, 3) := by decide +kernel
theorem dX9_undo_20 : decode cX9_undo 20 = .ok (.bipush (-2), 2) := by decide +kernel
theorem dX9_undo_22 : decode cX9_undo 22 = .ok (.istore_n 1, 1) := by decide +kernel
theorem dX9_undo_23 : decode cX9_undo 23 = .ok (.iload_n 1, 1) := by decide +kernel
theorem dX9_undo_24 : decode cX9_undo 24 = .ok (.iconst 2, 1) := by decide +kernel
theorem dX9_undo_25 : decode cX9_undo 25 = .ok (.if_icmp .gt 53, 3) := by decide +kernel
theorem dX9_undo_28 : decode cX9_undo 28 = .ok (.aload_n 0, 1) := by decide +kernel
theorem dX9_undo_29 : decode cX9_undo 29 = .ok (.getfield 53, 3) := by decide +kernel
theorem dX9_undo_32 : decode cX9_undo 32 = .ok (.aload_n 0, 1) := by decide +kernel
theorem dX9_undo_33 : decode cX9_undo 33 = .ok (.getfield 113, 3) := by decide +kernel
theorem dX9_undo_36 : decode cX9_undo 36 = .ok (.iaload, 1) := by decide +kernel
theorem dX9_undo_37 : decode cX9_undo 37 = .ok (.iload_n 1, 1) := by decide +kernel
theorem dX9_undo_38 : decode cX9_undo 38 = .ok (.iadd, 1) := by decide +kernel
theorem dX9_undo_39 : decode cX9_undo 39 = .ok (.istore_n 2, 1) := by decide +kernel
theorem dX9_undo_40 : decode cX9_undo 40 = .ok (.aload_n 0, 1) := by decide +kernel
theorem dX9_undo_41 : decode cX9_undo 41 = .ok (.iload_n 2, 1) := by decide +kernel
theorem dX9_undo_42 : decode cX9_undo 42 = .ok (.invokevirtual 130, 3) := by decide +kernel
theorem dX9_undo_45 : decode cX9_undo 45 = .ok (.ifCond .eq 27, 3) := by decide +kernel
theorem dX9_undo_48 : decode cX9_undo 48 = .ok (.aload_n 0, 1) := by decide +kernel
theorem dX9_undo_49 : decode cX9_undo 49 = .ok (.getfield 13, 3) := by decide +kernel
theorem dX9_undo_52 : decode cX9_undo 52 = .ok (.iload_n 2, 1) := by decide +kernel
theorem dX9_undo_53 : decode cX9_undo 53 = .ok (.dup2, 1) := by decide +kernel
theorem dX9_undo_54 : decode cX9_undo 54 = .ok (.iaload, 1) := by decide +kernel
theorem dX9_undo_55 : decode cX9_undo 55 = .ok (.aload_n 0, 1) := by decide +kernel
theorem dX9_undo_56 : decode cX9_undo 56 = .ok (.getfield 59, 3) := by decide +kernel
theorem dX9_undo_59 : decode cX9_undo 59 = .ok (.iconst 5, 1) := by decide +kernel
theorem dX9_undo_60 : decode cX9_undo 60 = .ok (.aload_n 0, 1) := by decide +kernel
theorem dX9_undo_61 : decode cX9_undo 61 = .ok (.getfield 113, 3) := by decide +kernel
theorem dX9_undo_64 : decode cX9_undo 64 = .ok (.imul, 1) := by decide +kernel
theorem dX9_undo_65 : decode cX9_undo 65 = .ok (.iload_n 1, 1) := by decide +kernel
theorem dX9_undo_66 : decode cX9_undo 66 = .ok (.iadd, 1) := by decide +kernel
theorem dX9_undo_67 : decode cX9_undo 67 = .ok (.iconst 2, 1) := by decide +kernel
theorem dX9_undo_68 : decode cX9_undo 68 = .ok (.iadd, 1) := by decide +kernel
theorem dX9_undo_69 : decode cX9_undo 69 = .ok (.iaload, 1) := by decide +kernel
theorem dX9_undo_70 : decode cX9_undo 70 = .ok (.iadd, 1) := by decide +kernel
theorem dX9_undo_71 : decode cX9_undo 71 = .ok (.iastore, 1) := by decide +kernel
theorem dX9_undo_72 : decode cX9_undo 72 = .ok (.iinc 1 1, 3) := by decide +kernel
theorem dX9_undo_75 : decode cX9_undo 75 = .ok (.goto (-52), 3) := by decide +kernel
theorem dX9_undo_78 : decode cX9_undo 78 = .ok (.aload_n 0, 1) := by decide +kernel
theorem dX9_undo_79 : decode cX9_undo 79 = .ok (.getfield 113, 3) := by decide +kernel
theorem dX9_undo_82 : decode cX9_undo 82 = .ok (.ireturn, 1) := by decide +kernel
theorem dX9_replay_0 : decode cX9_replay 0 = .ok (.aload_n 0, 1) := by decide +kernel
theorem dX9_replay_1 : decode cX9_replay 1 = .ok (.iload_n 1, 1) := by decide +kernel
theorem dX9_replay_2 : decode cX9_replay 2 = .ok (.invokevirtual 130, 3) := by decide +kernel
theorem dX9_replay_5 : decode cX9_replay 5 = .ok (.ifCond .eq 15, 3) := by decide +kernel
theorem dX9_replay_8 : decode cX9_replay 8 = .ok (.iload_n 2, 1) := by decide +kernel
theorem dX9_replay_9 : decode cX9_replay 9 = .ok (.iconst 0, 1) := by decide +kernel
theorem dX9_replay_10 : decode cX9_replay 10 = .ok (.aload_n 0, 1) := by decide +kernel
theorem dX9_replay_11 : decode cX9_replay 11 = .ok (.getfield 113, 3) := by decide +kernel
theorem dX9_replay_14 : decode cX9_replay 14 = .ok (.invokestatic 116, 3) := by decide +kernel
theorem dX9_replay_17 : decode cX9_replay 17 = .ok (.ifCond .ne 6, 3) := by decide +kernel
theorem dX9_replay_20 : decode cX9_replay 20 = .ok (.ldc 136, 2) := by decide +kernel
theorem dX9_replay_22 : decode cX9_replay 22 = .ok (.ireturn, 1) := by decide +kernel
theorem dX9_replay_23 : decode cX9_replay 23 = .ok (.aload_n 0, 1) := by decide +kernel
theorem dX9_replay_24 : decode cX9_replay 24 = .ok (.getfield 17, 3) := by decide +kernel
theorem dX9_replay_27 : decode cX9_replay 27 = .ok (.iload_n 1, 1) := by decide +kernel
theorem dX9_replay_28 : decode cX9_replay 28 = .ok (.iaload, 1) := by decide +kernel
theorem dX9_replay_29 : decode cX9_replay 29 = .ok (.istore_n 3, 1) := by decide +kernel
theorem dX9_replay_30 : decode cX9_replay 30 = .ok (.iconst 0, 1) := by decide +kernel
theorem dX9_replay_31 : decode cX9_replay 31 = .ok (.istore 4, 2) := by decide +kernel
theorem dX9_replay_33 : decode cX9_replay 33 = .ok (.iload 4, 2) := by decide +kernel
theorem dX9_replay_35 : decode cX9_replay 35 = .ok (.iload_n 2, 1) := by decide +kernel
theorem dX9_replay_36 : decode cX9_replay 36 = .ok (.if_icmp .ge 59, 3) := by decide +kernel
theorem dX9_replay_39 : decode cX9_replay 39 = .ok (.iload_n 1, 1) := by decide +kernel
theorem dX9_replay_40 : decode cX9_replay 40 = .ok (.aload_n 0, 1) := by decide +kernel
theorem dX9_replay_41 : decode cX9_replay 41 = .ok (.getfield 53, 3) := by decide +kernel
theorem dX9_replay_44 : decode cX9_replay 44 = .ok (.iload 4, 2) := by decide +kernel
theorem dX9_replay_46 : decode cX9_replay 46 = .ok (.iaload, 1) := by decide +kernel
theorem dX9_replay_47 : decode cX9_replay 47 = .ok (.isub, 1) := by decide +kernel
theorem dX9_replay_48 : decode cX9_replay 48 = .ok (.istore 5, 2) := by decide +kernel
theorem dX9_replay_50 : decode cX9_replay 50 = .ok (.iload_n 3, 1) := by decide +kernel
theorem dX9_replay_51 : decode cX9_replay 51 = .ok (.iload 5, 2) := by decide +kernel
theorem dX9_replay_53 : decode cX9_replay 53 = .ok (.bipush (-2), 2) := by decide +kernel
theorem dX9_replay_55 : decode cX9_replay 55 = .ok (.iconst 2, 1) := by decide +kernel
theorem dX9_replay_56 : decode cX9_replay 56 = .ok (.invokestatic 116, 3) := by decide +kernel
theorem dX9_replay_59 : decode cX9_replay 59 = .ok (.ifCond .eq 27, 3) := by decide +kernel
theorem dX9_replay_62 : decode cX9_replay 62 = .ok (.aload_n 0, 1) := by decide +kernel
theorem dX9_replay_63 : decode cX9_replay 63 = .ok (.getfield 56, 3) := by decide +kernel
theorem dX9_replay_66 : decode cX9_replay 66 = .ok (.iload 4, 2) := by decide +kernel
theorem dX9_replay_68 : decode cX9_replay 68 = .ok (.iaload, 1) := by decide +kernel
theorem dX9_replay_69 : decode cX9_replay 69 = .ok (.aload_n 0, 1) := by decide +kernel
theorem dX9_replay_70 : decode cX9_replay 70 = .ok (.aload_n 0, 1) := by decide +kernel
theorem dX9_replay_71 : decode cX9_replay 71 = .ok (.getfield 50, 3) := by decide +kernel
theorem dX9_replay_74 : decode cX9_replay 74 = .ok (.iload 4, 2) := by decide +kernel
theorem dX9_replay_76 : decode cX9_replay 76 = .ok (.iaload, 1) := by decide +kernel
theorem dX9_replay_77 : decode cX9_replay 77 = .ok (.iload 5, 2) := by decide +kernel
theorem dX9_replay_79 : decode cX9_replay 79 = .ok (.invokevirtual 170, 3) := by decide +kernel
theorem dX9_replay_82 : decode cX9_replay 82 = .ok (.imul, 1) := by decide +kernel
theorem dX9_replay_83 : decode cX9_replay 83 = .ok (.goto 4, 3) := by decide +kernel
theorem dX9_replay_86 : decode cX9_replay 86 = .ok (.iconst 0, 1) := by decide +kernel
theorem dX9_replay_87 : decode cX9_replay 87 = .ok (.isub, 1) := by decide +kernel
theorem dX9_replay_88 : decode cX9_replay 88 = .ok (.istore_n 3, 1) := by decide +kernel
theorem dX9_replay_89 : decode cX9_replay 89 = .ok (.iinc 4 1, 3) := by decide +kernel
theorem dX9_replay_92 : decode cX9_replay 92 = .ok (.goto (-59), 3) := by decide +kernel
theorem dX9_replay_95 : decode cX9_replay 95 = .ok (.iload_n 3, 1) := by decide +kernel
theorem dX9_replay_96 : decode cX9_replay 96 = .ok (.ireturn, 1) := by decide +kernel
theorem dX9_back_0 : decode cX9_back 0 = .ok (.iconst 1, 1) := by decide +kernel
theorem dX9_back_1 : decode cX9_back 1 = .ok (.istore_n 2, 1) := by decide +kernel
theorem dX9_back_2 : decode cX9_back 2 = .ok (.iconst 1, 1) := by decide +kernel
theorem dX9_back_3 : decode cX9_back 3 = .ok (.istore_n 3, 1) := by decide +kernel
theorem dX9_back_4 : decode cX9_back 4 = .ok (.iload_n 3, 1) := by decide +kernel
theorem dX9_back_5 : decode cX9_back 5 = .ok (.iload_n 1, 1) := by decide +kernel
theorem dX9_back_6 : decode cX9_back 6 = .ok (.if_icmp .ge 14, 3) := by decide +kernel
theorem dX9_back_9 : decode cX9_back 9 = .ok (.iload_n 2, 1) := by decide +kernel
theorem dX9_back_10 : decode cX9_back 10 = .ok (.bipush 6, 2) := by decide +kernel
theorem dX9_back_12 : decode cX9_back 12 = .ok (.imul, 1) := by decide +kernel
theorem dX9_back_13 : decode cX9_back 13 = .ok (.istore_n 2, 1) := by decide +kernel
theorem dX9_back_14 : decode cX9_back 14 = .ok (.iinc 3 1, 3) := by decide +kernel
theorem dX9_back_17 : decode cX9_back 17 = .ok (.goto (-13), 3) := by decide +kernel
theorem dX9_back_20 : decode cX9_back 20 = .ok (.iload_n 0, 1) := by decide +kernel
theorem dX9_back_21 : decode cX9_back 21 = .ok (.iload_n 2, 1) := by decide +kernel
theorem dX9_back_22 : decode cX9_back 22 = .ok (.idiv, 1) := by decide +kernel
theorem dX9_back_23 : decode cX9_back 23 = .ok (.bipush 6, 2) := by decide +kernel
theorem dX9_back_25 : decode cX9_back 25 = .ok (.irem, 1) := by decide +kernel
theorem dX9_back_26 : decode cX9_back 26 = .ok (.ireturn, 1) := by decide +kernel
theorem dX9_isRight_0 : decode cX9_isRight 0 = .ok (.iload_n 2, 1) := by decide +kernel
theorem dX9_isRight_1 : decode cX9_isRight 1 = .ok (.iconst 2, 1) := by decide +kernel
theorem dX9_isRight_2 : decode cX9_isRight 2 = .ok (.isub, 1) := by decide +kernel
theorem dX9_isRight_3 : decode cX9_isRight 3 = .ok (.istore 5, 2) := by decide +kernel
theorem dX9_isRight_5 : decode cX9_isRight 5 = .ok (.iload 5, 2) := by decide +kernel
theorem dX9_isRight_7 : decode cX9_isRight 7 = .ok (.ifCond .ge 5, 3) := by decide +kernel
theorem dX9_isRight_10 : decode cX9_isRight 10 = .ok (.iconst 1, 1) := by decide +kernel
theorem dX9_isRight_11 : decode cX9_isRight 11 = .ok (.ireturn, 1) := by decide +kernel
theorem dX9_isRight_12 : decode cX9_isRight 12 = .ok (.aload_n 0, 1) := by decide +kernel
theorem dX9_isRight_13 : decode cX9_isRight 13 = .ok (.getfield 13, 3) := by decide +kernel
theorem dX9_isRight_16 : decode cX9_isRight 16 = .ok (.iload 5, 2) := by decide +kernel
theorem dX9_isRight_18 : decode cX9_isRight 18 = .ok (.iaload, 1) := by decide +kernel
theorem dX9_isRight_19 : decode cX9_isRight 19 = .ok (.iload 4, 2) := by decide +kernel
theorem dX9_isRight_21 : decode cX9_isRight 21 = .ok (.aload_n 0, 1) := by decide +kernel
theorem dX9_isRight_22 : decode cX9_isRight 22 = .ok (.iload_n 1, 1) := by decide +kernel
theorem dX9_isRight_23 : decode cX9_isRight 23 = .ok (.bipush (-2), 2) := by decide +kernel
theorem dX9_isRight_25 : decode cX9_isRight 25 = .ok (.invokevirtual 170, 3) := by decide +kernel
theorem dX9_isRight_28 : decode cX9_isRight 28 = .ok (.imul, 1) := by decide +kernel
theorem dX9_isRight_29 : decode cX9_isRight 29 = .ok (.isub, 1) := by decide +kernel
theorem dX9_isRight_30 : decode cX9_isRight 30 = .ok (.istore 6, 2) := by decide +kernel
theorem dX9_isRight_32 : decode cX9_isRight 32 = .ok (.iconst 1, 1) := by decide +kernel
theorem dX9_isRight_33 : decode cX9_isRight 33 = .ok (.istore 7, 2) := by decide +kernel
theorem dX9_isRight_35 : decode cX9_isRight 35 = .ok (.iload 7, 2) := by decide +kernel
theorem dX9_isRight_37 : decode cX9_isRight 37 = .ok (.iconst 4, 1) := by decide +kernel
theorem dX9_isRight_38 : decode cX9_isRight 38 = .ok (.if_icmp .gt 30, 3) := by decide +kernel
theorem dX9_isRight_41 : decode cX9_isRight 41 = .ok (.iload 6, 2) := by decide +kernel
theorem dX9_isRight_43 : decode cX9_isRight 43 = .ok (.iload_n 3, 1) := by decide +kernel
theorem dX9_isRight_44 : decode cX9_isRight 44 = .ok (.iload 7, 2) := by decide +kernel
theorem dX9_isRight_46 : decode cX9_isRight 46 = .ok (.invokestatic 179, 3) := by decide +kernel
theorem dX9_isRight_49 : decode cX9_isRight 49 = .ok (.aload_n 0, 1) := by decide +kernel
theorem dX9_isRight_50 : decode cX9_isRight 50 = .ok (.iload_n 1, 1) := by decide +kernel
theorem dX9_isRight_51 : decode cX9_isRight 51 = .ok (.iload 7, 2) := by decide +kernel
theorem dX9_isRight_53 : decode cX9_isRight 53 = .ok (.iconst 2, 1) := by decide +kernel
theorem dX9_isRight_54 : decode cX9_isRight 54 = .ok (.isub, 1) := by decide +kernel
theorem dX9_isRight_55 : decode cX9_isRight 55 = .ok (.invokevirtual 170, 3) := by decide +kernel
theorem dX9_isRight_58 : decode cX9_isRight 58 = .ok (.imul, 1) := by decide +kernel
theorem dX9_isRight_59 : decode cX9_isRight 59 = .ok (.isub, 1) := by decide +kernel
theorem dX9_isRight_60 : decode cX9_isRight 60 = .ok (.istore 6, 2) := by decide +kernel
theorem dX9_isRight_62 : decode cX9_isRight 62 = .ok (.iinc 7 1, 3) := by decide +kernel
theorem dX9_isRight_65 : decode cX9_isRight 65 = .ok (.goto (-30), 3) := by decide +kernel
theorem dX9_isRight_68 : decode cX9_isRight 68 = .ok (.iload 6, 2) := by decide +kernel
theorem dX9_isRight_70 : decode cX9_isRight 70 = .ok (.iconst 0, 1) := by decide +kernel
theorem dX9_isRight_71 : decode cX9_isRight 71 = .ok (.aload_n 0, 1) := by decide +kernel
theorem dX9_isRight_72 : decode cX9_isRight 72 = .ok (.getfield 47, 3) := by decide +kernel
theorem dX9_isRight_75 : decode cX9_isRight 75 = .ok (.invokestatic 116, 3) := by decide +kernel
theorem dX9_isRight_78 : decode cX9_isRight 78 = .ok (.ireturn, 1) := by decide +kernel
theorem dX9_next_0 : decode cX9_next 0 = .ok (.iload_n 0, 1) := by decide +kernel
theorem dX9_next_1 : decode cX9_next 1 = .ok (.sipush 216, 3) := by decide +kernel
theorem dX9_next_4 : decode cX9_next 4 = .ok (.irem, 1) := by decide +kernel
theorem dX9_next_5 : decode cX9_next 5 = .ok (.bipush 6, 2) := by decide +kernel
theorem dX9_next_7 : decode cX9_next 7 = .ok (.imul, 1) := by decide +kernel
theorem dX9_next_8 : decode cX9_next 8 = .ok (.iload_n 1, 1) := by decide +kernel
theorem dX9_next_9 : decode cX9_next 9 = .ok (.iadd, 1) := by decide +kernel
theorem dX9_next_10 : decode cX9_next 10 = .ok (.ireturn, 1) := by decide +kernel
theorem dX9_most_0 : decode cX9_most 0 = .ok (.iload_n 1, 1) := by decide +kernel
theorem dX9_most_1 : decode cX9_most 1 = .ok (.aload_n 0, 1) := by decide +kernel
theorem dX9_most_2 : decode cX9_most 2 = .ok (.getfield 7, 3) := by decide +kernel
theorem dX9_most_5 : decode cX9_most 5 = .ok (.if_icmp .ge 7, 3) := by decide +kernel
theorem dX9_most_8 : decode cX9_most 8 = .ok (.iconst 5, 1) := by decide +kernel
theorem dX9_most_9 : decode cX9_most 9 = .ok (.goto 4, 3) := by decide +kernel
theorem dX9_most_12 : decode cX9_most 12 = .ok (.iconst 0, 1) := by decide +kernel
theorem dX9_most_13 : decode cX9_most 13 = .ok (.ireturn, 1) := by decide +kernel
theorem dX9_costs_0 : decode cX9_costs 0 = .ok (.aload_n 0, 1) := by decide +kernel
theorem dX9_costs_1 : decode cX9_costs 1 = .ok (.getfield 7, 3) := by decide +kernel
theorem dX9_costs_4 : decode cX9_costs 4 = .ok (.iconst 2, 1) := by decide +kernel
theorem dX9_costs_5 : decode cX9_costs 5 = .ok (.iadd, 1) := by decide +kernel
theorem dX9_costs_6 : decode cX9_costs 6 = .ok (.istore_n 2, 1) := by decide +kernel
theorem dX9_costs_7 : decode cX9_costs 7 = .ok (.iload_n 2, 1) := by decide +kernel
theorem dX9_costs_8 : decode cX9_costs 8 = .ok (.ifCond .lt 137, 3) := by decide +kernel
theorem dX9_costs_11 : decode cX9_costs 11 = .ok (.iconst 0, 1) := by decide +kernel
theorem dX9_costs_12 : decode cX9_costs 12 = .ok (.istore_n 3, 1) := by decide +kernel
theorem dX9_costs_13 : decode cX9_costs 13 = .ok (.iload_n 3, 1) := by decide +kernel
theorem dX9_costs_14 : decode cX9_costs 14 = .ok (.sipush 1296, 3) := by decide +kernel
theorem dX9_costs_17 : decode cX9_costs 17 = .ok (.if_icmp .ge 122, 3) := by decide +kernel
theorem dX9_costs_20 : decode cX9_costs 20 = .ok (.iload_n 2, 1) := by decide +kernel
theorem dX9_costs_21 : decode cX9_costs 21 = .ok (.aload_n 0, 1) := by decide +kernel
theorem dX9_costs_22 : decode cX9_costs 22 = .ok (.getfield 7, 3) := by decide +kernel
theorem dX9_costs_25 : decode cX9_costs 25 = .ok (.iconst 2, 1) := by decide +kernel
theorem dX9_costs_26 : decode cX9_costs 26 = .ok (.iadd, 1) := by decide +kernel
theorem dX9_costs_27 : decode cX9_costs 27 = .ok (.if_icmp .ne 7, 3) := by decide +kernel
theorem dX9_costs_30 : decode cX9_costs 30 = .ok (.iconst 0, 1) := by decide +kernel
theorem dX9_costs_31 : decode cX9_costs 31 = .ok (.goto 5, 3) := by decide +kernel
theorem dX9_costs_34 : decode cX9_costs 34 = .ok (.ldc 162, 2) := by decide +kernel
theorem dX9_costs_36 : decode cX9_costs 36 = .ok (.istore 4, 2) := by decide +kernel
theorem dX9_costs_38 : decode cX9_costs 38 = .ok (.iconst 0, 1) := by decide +kernel
theorem dX9_costs_39 : decode cX9_costs 39 = .ok (.istore 5, 2) := by decide +kernel
theorem dX9_costs_41 : decode cX9_costs 41 = .ok (.iload 5, 2) := by decide +kernel
theorem dX9_costs_43 : decode cX9_costs 43 = .ok (.aload_n 0, 1) := by decide +kernel
theorem dX9_costs_44 : decode cX9_costs 44 = .ok (.iload_n 2, 1) := by decide +kernel
theorem dX9_costs_45 : decode cX9_costs 45 = .ok (.invokevirtual 182, 3) := by decide +kernel
theorem dX9_costs_48 : decode cX9_costs 48 = .ok (.if_icmp .gt 71, 3) := by decide +kernel
theorem dX9_costs_51 : decode cX9_costs 51 = .ok (.iload_n 2, 1) := by decide +kernel
theorem dX9_costs_52 : decode cX9_costs 52 = .ok (.aload_n 0, 1) := by decide +kernel
theorem dX9_costs_53 : decode cX9_costs 53 = .ok (.getfield 7, 3) := by decide +kernel
theorem dX9_costs_56 : decode cX9_costs 56 = .ok (.iconst 2, 1) := by decide +kernel
theorem dX9_costs_57 : decode cX9_costs 57 = .ok (.iadd, 1) := by decide +kernel
theorem dX9_costs_58 : decode cX9_costs 58 = .ok (.if_icmp .ge 61, 3) := by decide +kernel
theorem dX9_costs_61 : decode cX9_costs 61 = .ok (.aload_n 0, 1) := by decide +kernel
theorem dX9_costs_62 : decode cX9_costs 62 = .ok (.iload_n 1, 1) := by decide +kernel
theorem dX9_costs_63 : decode cX9_costs 63 = .ok (.iload_n 2, 1) := by decide +kernel
theorem dX9_costs_64 : decode cX9_costs 64 = .ok (.iload_n 3, 1) := by decide +kernel
theorem dX9_costs_65 : decode cX9_costs 65 = .ok (.iload 5, 2) := by decide +kernel
theorem dX9_costs_67 : decode cX9_costs 67 = .ok (.invokevirtual 185, 3) := by decide +kernel
theorem dX9_costs_70 : decode cX9_costs 70 = .ok (.ifCond .eq 43, 3) := by decide +kernel
theorem dX9_costs_73 : decode cX9_costs 73 = .ok (.aload_n 0, 1) := by decide +kernel
theorem dX9_costs_74 : decode cX9_costs 74 = .ok (.getfield 80, 3) := by decide +kernel
theorem dX9_costs_77 : decode cX9_costs 77 = .ok (.sipush 1296, 3) := by decide +kernel
theorem dX9_costs_80 : decode cX9_costs 80 = .ok (.iload_n 2, 1) := by decide +kernel
theorem dX9_costs_81 : decode cX9_costs 81 = .ok (.iconst 1, 1) := by decide +kernel
theorem dX9_costs_82 : decode cX9_costs 82 = .ok (.iadd, 1) := by decide +kernel
theorem dX9_costs_83 : decode cX9_costs 83 = .ok (.imul, 1) := by decide +kernel
theorem dX9_costs_84 : decode cX9_costs 84 = .ok (.iload_n 3, 1) := by decide +kernel
theorem dX9_costs_85 : decode cX9_costs 85 = .ok (.iload 5, 2) := by decide +kernel
theorem dX9_costs_87 : decode cX9_costs 87 = .ok (.invokestatic 189, 3) := by decide +kernel
theorem dX9_costs_90 : decode cX9_costs 90 = .ok (.iadd, 1) := by decide +kernel
theorem dX9_costs_91 : decode cX9_costs 91 = .ok (.iaload, 1) := by decide +kernel
theorem dX9_costs_92 : decode cX9_costs 92 = .ok (.iload 5, 2) := by decide +kernel
theorem dX9_costs_94 : decode cX9_costs 94 = .ok (.iadd, 1) := by decide +kernel
theorem dX9_costs_95 : decode cX9_costs 95 = .ok (.istore 6, 2) := by decide +kernel
theorem dX9_costs_97 : decode cX9_costs 97 = .ok (.iload 6, 2) := by decide +kernel
theorem dX9_costs_99 : decode cX9_costs 99 = .ok (.iload 4, 2) := by decide +kernel
theorem dX9_costs_101 : decode cX9_costs 101 = .ok (.if_icmp .ge 8, 3) := by decide +kernel
theorem dX9_costs_104 : decode cX9_costs 104 = .ok (.iload 6, 2) := by decide +kernel
theorem dX9_costs_106 : decode cX9_costs 106 = .ok (.goto 5, 3) := by decide +kernel
theorem dX9_costs_109 : decode cX9_costs 109 = .ok (.iload 4, 2) := by decide +kernel
theorem dX9_costs_111 : decode cX9_costs 111 = .ok (.istore 4, 2) := by decide +kernel
theorem dX9_costs_113 : decode cX9_costs 113 = .ok (.iinc 5 1, 3) := by decide +kernel
theorem dX9_costs_116 : decode cX9_costs 116 = .ok (.goto (-75), 3) := by decide +kernel
theorem dX9_costs_119 : decode cX9_costs 119 = .ok (.aload_n 0, 1) := by decide +kernel
theorem dX9_costs_120 : decode cX9_costs 120 = .ok (.getfield 80, 3) := by decide +kernel
theorem dX9_costs_123 : decode cX9_costs 123 = .ok (.sipush 1296, 3) := by decide +kernel
theorem dX9_costs_126 : decode cX9_costs 126 = .ok (.iload_n 2, 1) := by decide +kernel
theorem dX9_costs_127 : decode cX9_costs 127 = .ok (.imul, 1) := by decide +kernel
theorem dX9_costs_128 : decode cX9_costs 128 = .ok (.iload_n 3, 1) := by decide +kernel
theorem dX9_costs_129 : decode cX9_costs 129 = .ok (.iadd, 1) := by decide +kernel
theorem dX9_costs_130 : decode cX9_costs 130 = .ok (.iload 4, 2) := by decide +kernel
theorem dX9_costs_132 : decode cX9_costs 132 = .ok (.iastore, 1) := by decide +kernel
theorem dX9_costs_133 : decode cX9_costs 133 = .ok (.iinc 3 1, 3) := by decide +kernel
theorem dX9_costs_136 : decode cX9_costs 136 = .ok (.goto (-123), 3) := by decide +kernel
theorem dX9_costs_139 : decode cX9_costs 139 = .ok (.iinc 2 (-1), 3) := by decide +kernel
theorem dX9_costs_142 : decode cX9_costs 142 = .ok (.goto (-135), 3) := by decide +kernel
theorem dX9_costs_145 : decode cX9_costs 145 = .ok (.return_, 1) := by decide +kernel
theorem dX9_plans_0 : decode cX9_plans 0 = .ok (.iconst 0, 1) := by decide +kernel
theorem dX9_plans_1 : decode cX9_plans 1 = .ok (.istore_n 2, 1) := by decide +kernel
theorem dX9_plans_2 : decode cX9_plans 2 = .ok (.iload_n 2, 1) := by decide +kernel
theorem dX9_plans_3 : decode cX9_plans 3 = .ok (.bipush 16, 2) := by decide +kernel
theorem dX9_plans_5 : decode cX9_plans 5 = .ok (.if_icmp .ge 16, 3) := by decide +kernel
theorem dX9_plans_8 : decode cX9_plans 8 = .ok (.aload_n 0, 1) := by decide +kernel
theorem dX9_plans_9 : decode cX9_plans 9 = .ok (.getfield 83, 3) := by decide +kernel
theorem dX9_plans_12 : decode cX9_plans 12 = .ok (.iload_n 2, 1) := by decide +kernel
theorem dX9_plans_13 : decode cX9_plans 13 = .ok (.iconst 0, 1) := by decide +kernel
theorem dX9_plans_14 : decode cX9_plans 14 = .ok (.iastore, 1) := by decide +kernel
theorem dX9_plans_15 : decode cX9_plans 15 = .ok (.iinc 2 1, 3) := by decide +kernel
theorem dX9_plans_18 : decode cX9_plans 18 = .ok (.goto (-16), 3) := by decide +kernel
theorem dX9_plans_21 : decode cX9_plans 21 = .ok (.iconst 0, 1) := by decide +kernel
theorem dX9_plans_22 : decode cX9_plans 22 = .ok (.istore_n 2, 1) := by decide +kernel
theorem dX9_plans_23 : decode cX9_plans 23 = .ok (.iconst (-1), 1) := by decide +kernel
theorem dX9_plans_24 : decode cX9_plans 24 = .ok (.istore_n 3, 1) := by decide +kernel
theorem dX9_plans_25 : decode cX9_plans 25 = .ok (.aload_n 0, 1) := by decide +kernel
theorem dX9_plans_26 : decode cX9_plans 26 = .ok (.iload_n 1, 1) := by decide +kernel
theorem dX9_plans_27 : decode cX9_plans 27 = .ok (.invokevirtual 192, 3) := by decide +kernel
theorem dX9_plans_30 : decode cX9_plans 30 = .ok (.iconst 0, 1) := by decide +kernel
theorem dX9_plans_31 : decode cX9_plans 31 = .ok (.istore 4, 2) := by decide +kernel
theorem dX9_plans_33 : decode cX9_plans 33 = .ok (.iload 4, 2) := by decide +kernel
theorem dX9_plans_35 : decode cX9_plans 35 = .ok (.aload_n 0, 1) := by decide +kernel
theorem dX9_plans_36 : decode cX9_plans 36 = .ok (.getfield 7, 3) := by decide +kernel
theorem dX9_plans_39 : decode cX9_plans 39 = .ok (.if_icmp .ge 111, 3) := by decide +kernel
theorem dX9_plans_42 : decode cX9_plans 42 = .ok (.aload_n 0, 1) := by decide +kernel
theorem dX9_plans_43 : decode cX9_plans 43 = .ok (.getfield 80, 3) := by decide +kernel
theorem dX9_plans_46 : decode cX9_plans 46 = .ok (.sipush 1296, 3) := by decide +kernel
theorem dX9_plans_49 : decode cX9_plans 49 = .ok (.iload 4, 2) := by decide +kernel
theorem dX9_plans_51 : decode cX9_plans 51 = .ok (.imul, 1) := by decide +kernel
theorem dX9_plans_52 : decode cX9_plans 52 = .ok (.iload_n 2, 1) := by decide +kernel
theorem dX9_plans_53 : decode cX9_plans 53 = .ok (.iadd, 1) := by decide +kernel
theorem dX9_plans_54 : decode cX9_plans 54 = .ok (.iaload, 1) := by decide +kernel
theorem dX9_plans_55 : decode cX9_plans 55 = .ok (.istore 5, 2) := by decide +kernel
theorem dX9_plans_57 : decode cX9_plans 57 = .ok (.iload 4, 2) := by decide +kernel
theorem dX9_plans_59 : decode cX9_plans 59 = .ok (.ifCond .ne 8, 3) := by decide +kernel
theorem dX9_plans_62 : decode cX9_plans 62 = .ok (.iload 5, 2) := by decide +kernel
theorem dX9_plans_64 : decode cX9_plans 64 = .ok (.goto 4, 3) := by decide +kernel
theorem dX9_plans_67 : decode cX9_plans 67 = .ok (.iload_n 3, 1) := by decide +kernel
theorem dX9_plans_68 : decode cX9_plans 68 = .ok (.istore_n 3, 1) := by decide +kernel
theorem dX9_plans_69 : decode cX9_plans 69 = .ok (.iload_n 3, 1) := by decide +kernel
theorem dX9_plans_70 : decode cX9_plans 70 = .ok (.ldc 162, 2) := by decide +kernel
theorem dX9_plans_72 : decode cX9_plans 72 = .ok (.if_icmp .lt 6, 3) := by decide +kernel
theorem dX9_plans_75 : decode cX9_plans 75 = .ok (.ldc 162, 2) := by decide +kernel
theorem dX9_plans_77 : decode cX9_plans 77 = .ok (.ireturn, 1) := by decide +kernel
theorem dX9_plans_78 : decode cX9_plans 78 = .ok (.iconst 0, 1) := by decide +kernel
theorem dX9_plans_79 : decode cX9_plans 79 = .ok (.istore 6, 2) := by decide +kernel
theorem dX9_plans_81 : decode cX9_plans 81 = .ok (.aload_n 0, 1) := by decide +kernel
theorem dX9_plans_82 : decode cX9_plans 82 = .ok (.iload_n 1, 1) := by decide +kernel
theorem dX9_plans_83 : decode cX9_plans 83 = .ok (.iload 4, 2) := by decide +kernel
theorem dX9_plans_85 : decode cX9_plans 85 = .ok (.iload_n 2, 1) := by decide +kernel
theorem dX9_plans_86 : decode cX9_plans 86 = .ok (.iload 6, 2) := by decide +kernel
theorem dX9_plans_88 : decode cX9_plans 88 = .ok (.invokevirtual 185, 3) := by decide +kernel
theorem dX9_plans_91 : decode cX9_plans 91 = .ok (.ifCond .eq 31, 3) := by decide +kernel
theorem dX9_plans_94 : decode cX9_plans 94 = .ok (.aload_n 0, 1) := by decide +kernel
theorem dX9_plans_95 : decode cX9_plans 95 = .ok (.getfield 80, 3) := by decide +kernel
theorem dX9_plans_98 : decode cX9_plans 98 = .ok (.sipush 1296, 3) := by decide +kernel
theorem dX9_plans_101 : decode cX9_plans 101 = .ok (.iload 4, 2) := by decide +kernel
theorem dX9_plans_103 : decode cX9_plans 103 = .ok (.iconst 1, 1) := by decide +kernel
theorem dX9_plans_104 : decode cX9_plans 104 = .ok (.iadd, 1) := by decide +kernel
theorem dX9_plans_105 : decode cX9_plans 105 = .ok (.imul, 1) := by decide +kernel
theorem dX9_plans_106 : decode cX9_plans 106 = .ok (.iload_n 2, 1) := by decide +kernel
theorem dX9_plans_107 : decode cX9_plans 107 = .ok (.iload 6, 2) := by decide +kernel
theorem dX9_plans_109 : decode cX9_plans 109 = .ok (.invokestatic 189, 3) := by decide +kernel
theorem dX9_plans_112 : decode cX9_plans 112 = .ok (.iadd, 1) := by decide +kernel
theorem dX9_plans_113 : decode cX9_plans 113 = .ok (.iaload, 1) := by decide +kernel
theorem dX9_plans_114 : decode cX9_plans 114 = .ok (.iload 6, 2) := by decide +kernel
theorem dX9_plans_116 : decode cX9_plans 116 = .ok (.iadd, 1) := by decide +kernel
theorem dX9_plans_117 : decode cX9_plans 117 = .ok (.iload 5, 2) := by decide +kernel
theorem dX9_plans_119 : decode cX9_plans 119 = .ok (.if_icmp .eq 9, 3) := by decide +kernel
theorem dX9_plans_122 : decode cX9_plans 122 = .ok (.iinc 6 1, 3) := by decide +kernel
theorem dX9_plans_125 : decode cX9_plans 125 = .ok (.goto (-44), 3) := by decide +kernel
theorem dX9_plans_128 : decode cX9_plans 128 = .ok (.aload_n 0, 1) := by decide +kernel
theorem dX9_plans_129 : decode cX9_plans 129 = .ok (.getfield 83, 3) := by decide +kernel
theorem dX9_plans_132 : decode cX9_plans 132 = .ok (.iload 4, 2) := by decide +kernel
theorem dX9_plans_134 : decode cX9_plans 134 = .ok (.iload 6, 2) := by decide +kernel
theorem dX9_plans_136 : decode cX9_plans 136 = .ok (.iastore, 1) := by decide +kernel
theorem dX9_plans_137 : decode cX9_plans 137 = .ok (.iload_n 2, 1) := by decide +kernel
theorem dX9_plans_138 : decode cX9_plans 138 = .ok (.iload 6, 2) := by decide +kernel
theorem dX9_plans_140 : decode cX9_plans 140 = .ok (.invokestatic 189, 3) := by decide +kernel
theorem dX9_plans_143 : decode cX9_plans 143 = .ok (.istore_n 2, 1) := by decide +kernel
theorem dX9_plans_144 : decode cX9_plans 144 = .ok (.iinc 4 1, 3) := by decide +kernel
theorem dX9_plans_147 : decode cX9_plans 147 = .ok (.goto (-114), 3) := by decide +kernel
theorem dX9_plans_150 : decode cX9_plans 150 = .ok (.iload_n 3, 1) := by decide +kernel
theorem dX9_plans_151 : decode cX9_plans 151 = .ok (.ireturn, 1) := by decide +kernel
theorem dX9_plan_0 : decode cX9_plan 0 = .ok (.iload_n 1, 1) := by decide +kernel
theorem dX9_plan_1 : decode cX9_plan 1 = .ok (.iconst 0, 1) := by decide +kernel
theorem dX9_plan_2 : decode cX9_plan 2 = .ok (.iconst 2, 1) := by decide +kernel
theorem dX9_plan_3 : decode cX9_plan 3 = .ok (.invokestatic 116, 3) := by decide +kernel
theorem dX9_plan_6 : decode cX9_plan 6 = .ok (.ifCond .eq 17, 3) := by decide +kernel
theorem dX9_plan_9 : decode cX9_plan 9 = .ok (.iload_n 2, 1) := by decide +kernel
theorem dX9_plan_10 : decode cX9_plan 10 = .ok (.iconst (-1), 1) := by decide +kernel
theorem dX9_plan_11 : decode cX9_plan 11 = .ok (.aload_n 0, 1) := by decide +kernel
theorem dX9_plan_12 : decode cX9_plan 12 = .ok (.getfield 7, 3) := by decide +kernel
theorem dX9_plan_15 : decode cX9_plan 15 = .ok (.iconst 1, 1) := by decide +kernel
theorem dX9_plan_16 : decode cX9_plan 16 = .ok (.isub, 1) := by decide +kernel
theorem dX9_plan_17 : decode cX9_plan 17 = .ok (.invokestatic 116, 3) := by decide +kernel
theorem dX9_plan_20 : decode cX9_plan 20 = .ok (.ifCond .ne 5, 3) := by decide +kernel
theorem dX9_plan_23 : decode cX9_plan 23 = .ok (.iconst (-1), 1) := by decide +kernel
theorem dX9_plan_24 : decode cX9_plan 24 = .ok (.ireturn, 1) := by decide +kernel
theorem dX9_plan_25 : decode cX9_plan 25 = .ok (.aload_n 0, 1) := by decide +kernel
theorem dX9_plan_26 : decode cX9_plan 26 = .ok (.iload_n 1, 1) := by decide +kernel
theorem dX9_plan_27 : decode cX9_plan 27 = .ok (.invokevirtual 195, 3) := by decide +kernel
theorem dX9_plan_30 : decode cX9_plan 30 = .ok (.istore_n 3, 1) := by decide +kernel
theorem dX9_plan_31 : decode cX9_plan 31 = .ok (.iload_n 3, 1) := by decide +kernel
theorem dX9_plan_32 : decode cX9_plan 32 = .ok (.ldc 162, 2) := by decide +kernel
theorem dX9_plan_34 : decode cX9_plan 34 = .ok (.if_icmp .lt 8, 3) := by decide +kernel
theorem dX9_plan_37 : decode cX9_plan 37 = .ok (.bipush (-4), 2) := by decide +kernel
theorem dX9_plan_39 : decode cX9_plan 39 = .ok (.goto 17, 3) := by decide +kernel
theorem dX9_plan_42 : decode cX9_plan 42 = .ok (.iload_n 2, 1) := by decide +kernel
theorem dX9_plan_43 : decode cX9_plan 43 = .ok (.ifCond .ge 7, 3) := by decide +kernel
theorem dX9_plan_46 : decode cX9_plan 46 = .ok (.iload_n 3, 1) := by decide +kernel
theorem dX9_plan_47 : decode cX9_plan 47 = .ok (.goto 9, 3) := by decide +kernel
theorem dX9_plan_50 : decode cX9_plan 50 = .ok (.aload_n 0, 1) := by decide +kernel
theorem dX9_plan_51 : decode cX9_plan 51 = .ok (.getfield 83, 3) := by decide +kernel
theorem dX9_plan_54 : decode cX9_plan 54 = .ok (.iload_n 2, 1) := by decide +kernel
theorem dX9_plan_55 : decode cX9_plan 55 = .ok (.iaload, 1) := by decide +kernel
theorem dX9_plan_56 : decode cX9_plan 56 = .ok (.ireturn, 1) := by decide +kernel
theorem dX9_right_0 : decode cX9_right 0 = .ok (.iload_n 1, 1) := by decide +kernel
theorem dX9_right_1 : decode cX9_right 1 = .ok (.iconst 0, 1) := by decide +kernel
theorem dX9_right_2 : decode cX9_right 2 = .ok (.iconst 2, 1) := by decide +kernel
theorem dX9_right_3 : decode cX9_right 3 = .ok (.invokestatic 116, 3) := by decide +kernel
theorem dX9_right_6 : decode cX9_right 6 = .ok (.ifCond .ne 5, 3) := by decide +kernel
theorem dX9_right_9 : decode cX9_right 9 = .ok (.iconst (-1), 1) := by decide +kernel
theorem dX9_right_10 : decode cX9_right 10 = .ok (.ireturn, 1) := by decide +kernel
theorem dX9_right_11 : decode cX9_right 11 = .ok (.iconst 0, 1) := by decide +kernel
theorem dX9_right_12 : decode cX9_right 12 = .ok (.istore_n 2, 1) := by decide +kernel
theorem dX9_right_13 : decode cX9_right 13 = .ok (.iload_n 2, 1) := by decide +kernel
theorem dX9_right_14 : decode cX9_right 14 = .ok (.sipush 1296, 3) := by decide +kernel
theorem dX9_right_17 : decode cX9_right 17 = .ok (.if_icmp .ge 24, 3) := by decide +kernel
theorem dX9_right_20 : decode cX9_right 20 = .ok (.aload_n 0, 1) := by decide +kernel
theorem dX9_right_21 : decode cX9_right 21 = .ok (.getfield 86, 3) := by decide +kernel
theorem dX9_right_24 : decode cX9_right 24 = .ok (.iload_n 2, 1) := by decide +kernel
theorem dX9_right_25 : decode cX9_right 25 = .ok (.iload_n 2, 1) := by decide +kernel
theorem dX9_right_26 : decode cX9_right 26 = .ok (.ifCond .ne 7, 3) := by decide +kernel
theorem dX9_right_29 : decode cX9_right 29 = .ok (.iconst 1, 1) := by decide +kernel
theorem dX9_right_30 : decode cX9_right 30 = .ok (.goto 4, 3) := by decide +kernel
theorem dX9_right_33 : decode cX9_right 33 = .ok (.iconst 0, 1) := by decide +kernel
theorem dX9_right_34 : decode cX9_right 34 = .ok (.bastore, 1) := by decide +kernel
theorem dX9_right_35 : decode cX9_right 35 = .ok (.iinc 2 1, 3) := by decide +kernel
theorem dX9_right_38 : decode cX9_right 38 = .ok (.goto (-25), 3) := by decide +kernel
theorem dX9_right_41 : decode cX9_right 41 = .ok (.iconst 0, 1) := by decide +kernel
theorem dX9_right_42 : decode cX9_right 42 = .ok (.istore_n 2, 1) := by decide +kernel
theorem dX9_right_43 : decode cX9_right 43 = .ok (.iload_n 2, 1) := by decide +kernel
theorem dX9_right_44 : decode cX9_right 44 = .ok (.aload_n 0, 1) := by decide +kernel
theorem dX9_right_45 : decode cX9_right 45 = .ok (.getfield 7, 3) := by decide +kernel
theorem dX9_right_48 : decode cX9_right 48 = .ok (.iconst 2, 1) := by decide +kernel
theorem dX9_right_49 : decode cX9_right 49 = .ok (.iadd, 1) := by decide +kernel
theorem dX9_right_50 : decode cX9_right 50 = .ok (.if_icmp .ge 144, 3) := by decide +kernel
theorem dX9_right_53 : decode cX9_right 53 = .ok (.sipush 1296, 3) := by decide +kernel
theorem dX9_right_56 : decode cX9_right 56 = .ok (.iload_n 2, 1) := by decide +kernel
theorem dX9_right_57 : decode cX9_right 57 = .ok (.iconst 2, 1) := by decide +kernel
theorem dX9_right_58 : decode cX9_right 58 = .ok (.irem, 1) := by decide +kernel
theorem dX9_right_59 : decode cX9_right 59 = .ok (.imul, 1) := by decide +kernel
theorem dX9_right_60 : decode cX9_right 60 = .ok (.istore_n 3, 1) := by decide +kernel
theorem dX9_right_61 : decode cX9_right 61 = .ok (.sipush 1296, 3) := by decide +kernel
theorem dX9_right_64 : decode cX9_right 64 = .ok (.iload_n 3, 1) := by decide +kernel
theorem dX9_right_65 : decode cX9_right 65 = .ok (.isub, 1) := by decide +kernel
theorem dX9_right_66 : decode cX9_right 66 = .ok (.istore 4, 2) := by decide +kernel
theorem dX9_right_68 : decode cX9_right 68 = .ok (.iconst 0, 1) := by decide +kernel
theorem dX9_right_69 : decode cX9_right 69 = .ok (.istore 5, 2) := by decide +kernel
theorem dX9_right_71 : decode cX9_right 71 = .ok (.iconst 0, 1) := by decide +kernel
theorem dX9_right_72 : decode cX9_right 72 = .ok (.istore 6, 2) := by decide +kernel
theorem dX9_right_74 : decode cX9_right 74 = .ok (.iload 6, 2) := by decide +kernel
theorem dX9_right_76 : decode cX9_right 76 = .ok (.sipush 1296, 3) := by decide +kernel
theorem dX9_right_79 : decode cX9_right 79 = .ok (.if_icmp .ge 20, 3) := by decide +kernel
theorem dX9_right_82 : decode cX9_right 82 = .ok (.aload_n 0, 1) := by decide +kernel
theorem dX9_right_83 : decode cX9_right 83 = .ok (.getfield 86, 3) := by decide +kernel
theorem dX9_right_86 : decode cX9_right 86 = .ok (.iload 4, 2) := by decide +kernel
theorem dX9_right_88 : decode cX9_right 88 = .ok (.iload 6, 2) := by decide +kernel
theorem dX9_right_90 : decode cX9_right 90 = .ok (.iadd, 1) := by decide +kernel
theorem dX9_right_91 : decode cX9_right 91 = .ok (.iconst 0, 1) := by decide +kernel
theorem dX9_right_92 : decode cX9_right 92 = .ok (.bastore, 1) := by decide +kernel
theorem dX9_right_93 : decode cX9_right 93 = .ok (.iinc 6 1, 3) := by decide +kernel
theorem dX9_right_96 : decode cX9_right 96 = .ok (.goto (-22), 3) := by decide +kernel
theorem dX9_right_99 : decode cX9_right 99 = .ok (.iconst 0, 1) := by decide +kernel
theorem dX9_right_100 : decode cX9_right 100 = .ok (.istore 6, 2) := by decide +kernel
theorem dX9_right_102 : decode cX9_right 102 = .ok (.iload 6, 2) := by decide +kernel
theorem dX9_right_104 : decode cX9_right 104 = .ok (.sipush 1296, 3) := by decide +kernel
theorem dX9_right_107 : decode cX9_right 107 = .ok (.if_icmp .ge 72, 3) := by decide +kernel
theorem dX9_right_110 : decode cX9_right 110 = .ok (.iconst 0, 1) := by decide +kernel
theorem dX9_right_111 : decode cX9_right 111 = .ok (.istore 7, 2) := by decide +kernel
theorem dX9_right_113 : decode cX9_right 113 = .ok (.iload 7, 2) := by decide +kernel
theorem dX9_right_115 : decode cX9_right 115 = .ok (.aload_n 0, 1) := by decide +kernel
theorem dX9_right_116 : decode cX9_right 116 = .ok (.iload_n 2, 1) := by decide +kernel
theorem dX9_right_117 : decode cX9_right 117 = .ok (.invokevirtual 182, 3) := by decide +kernel
theorem dX9_right_120 : decode cX9_right 120 = .ok (.if_icmp .gt 53, 3) := by decide +kernel
theorem dX9_right_123 : decode cX9_right 123 = .ok (.aload_n 0, 1) := by decide +kernel
theorem dX9_right_124 : decode cX9_right 124 = .ok (.getfield 86, 3) := by decide +kernel
theorem dX9_right_127 : decode cX9_right 127 = .ok (.iload_n 3, 1) := by decide +kernel
theorem dX9_right_128 : decode cX9_right 128 = .ok (.iload 6, 2) := by decide +kernel
theorem dX9_right_130 : decode cX9_right 130 = .ok (.iadd, 1) := by decide +kernel
theorem dX9_right_131 : decode cX9_right 131 = .ok (.baload, 1) := by decide +kernel
theorem dX9_right_132 : decode cX9_right 132 = .ok (.ifCond .eq 41, 3) := by decide +kernel
theorem dX9_right_135 : decode cX9_right 135 = .ok (.aload_n 0, 1) := by decide +kernel
theorem dX9_right_136 : decode cX9_right 136 = .ok (.iload_n 1, 1) := by decide +kernel
theorem dX9_right_137 : decode cX9_right 137 = .ok (.iload_n 2, 1) := by decide +kernel
theorem dX9_right_138 : decode cX9_right 138 = .ok (.iload 6, 2) := by decide +kernel
theorem dX9_right_140 : decode cX9_right 140 = .ok (.iload 7, 2) := by decide +kernel
theorem dX9_right_142 : decode cX9_right 142 = .ok (.invokevirtual 185, 3) := by decide +kernel
theorem dX9_right_145 : decode cX9_right 145 = .ok (.ifCond .eq 22, 3) := by decide +kernel
theorem dX9_right_148 : decode cX9_right 148 = .ok (.aload_n 0, 1) := by decide +kernel
theorem dX9_right_149 : decode cX9_right 149 = .ok (.getfield 86, 3) := by decide +kernel
theorem dX9_right_152 : decode cX9_right 152 = .ok (.iload 4, 2) := by decide +kernel
theorem dX9_right_154 : decode cX9_right 154 = .ok (.iload 6, 2) := by decide +kernel
theorem dX9_right_156 : decode cX9_right 156 = .ok (.iload 7, 2) := by decide +kernel
theorem dX9_right_158 : decode cX9_right 158 = .ok (.invokestatic 189, 3) := by decide +kernel
theorem dX9_right_161 : decode cX9_right 161 = .ok (.iadd, 1) := by decide +kernel
theorem dX9_right_162 : decode cX9_right 162 = .ok (.iconst 1, 1) := by decide +kernel
theorem dX9_right_163 : decode cX9_right 163 = .ok (.bastore, 1) := by decide +kernel
theorem dX9_right_164 : decode cX9_right 164 = .ok (.iconst 1, 1) := by decide +kernel
theorem dX9_right_165 : decode cX9_right 165 = .ok (.istore 5, 2) := by decide +kernel
theorem dX9_right_167 : decode cX9_right 167 = .ok (.iinc 7 1, 3) := by decide +kernel
theorem dX9_right_170 : decode cX9_right 170 = .ok (.goto (-57), 3) := by decide +kernel
theorem dX9_right_173 : decode cX9_right 173 = .ok (.iinc 6 1, 3) := by decide +kernel
theorem dX9_right_176 : decode cX9_right 176 = .ok (.goto (-74), 3) := by decide +kernel
theorem dX9_right_179 : decode cX9_right 179 = .ok (.iload 5, 2) := by decide +kernel
theorem dX9_right_181 : decode cX9_right 181 = .ok (.ifCond .ne 7, 3) := by decide +kernel
theorem dX9_right_184 : decode cX9_right 184 = .ok (.iload_n 2, 1) := by decide +kernel
theorem dX9_right_185 : decode cX9_right 185 = .ok (.iconst 2, 1) := by decide +kernel
theorem dX9_right_186 : decode cX9_right 186 = .ok (.isub, 1) := by decide +kernel
theorem dX9_right_187 : decode cX9_right 187 = .ok (.ireturn, 1) := by decide +kernel
theorem dX9_right_188 : decode cX9_right 188 = .ok (.iinc 2 1, 3) := by decide +kernel
theorem dX9_right_191 : decode cX9_right 191 = .ok (.goto (-148), 3) := by decide +kernel
theorem dX9_right_194 : decode cX9_right 194 = .ok (.aload_n 0, 1) := by decide +kernel
theorem dX9_right_195 : decode cX9_right 195 = .ok (.getfield 7, 3) := by decide +kernel
theorem dX9_right_198 : decode cX9_right 198 = .ok (.ireturn, 1) := by decide +kernel
theorem dX9_work_0 : decode cX9_work 0 = .ok (.iload_n 1, 1) := by decide +kernel
theorem dX9_work_1 : decode cX9_work 1 = .ok (.iconst 0, 1) := by decide +kernel
theorem dX9_work_2 : decode cX9_work 2 = .ok (.iconst 2, 1) := by decide +kernel
theorem dX9_work_3 : decode cX9_work 3 = .ok (.invokestatic 116, 3) := by decide +kernel
theorem dX9_work_6 : decode cX9_work 6 = .ok (.ifCond .ne 5, 3) := by decide +kernel
theorem dX9_work_9 : decode cX9_work 9 = .ok (.iconst (-1), 1) := by decide +kernel
theorem dX9_work_10 : decode cX9_work 10 = .ok (.ireturn, 1) := by decide +kernel
theorem dX9_work_11 : decode cX9_work 11 = .ok (.aload_n 0, 1) := by decide +kernel
theorem dX9_work_12 : decode cX9_work 12 = .ok (.iload_n 1, 1) := by decide +kernel
theorem dX9_work_13 : decode cX9_work 13 = .ok (.invokevirtual 195, 3) := by decide +kernel
theorem dX9_work_16 : decode cX9_work 16 = .ok (.ldc 162, 2) := by decide +kernel
theorem dX9_work_18 : decode cX9_work 18 = .ok (.if_icmp .lt 6, 3) := by decide +kernel
theorem dX9_work_21 : decode cX9_work 21 = .ok (.bipush (-2), 2) := by decide +kernel
theorem dX9_work_23 : decode cX9_work 23 = .ok (.ireturn, 1) := by decide +kernel
theorem dX9_work_24 : decode cX9_work 24 = .ok (.iconst 0, 1) := by decide +kernel
theorem dX9_work_25 : decode cX9_work 25 = .ok (.istore_n 2, 1) := by decide +kernel
theorem dX9_work_26 : decode cX9_work 26 = .ok (.iconst 0, 1) := by decide +kernel
theorem dX9_work_27 : decode cX9_work 27 = .ok (.istore_n 3, 1) := by decide +kernel
theorem dX9_work_28 : decode cX9_work 28 = .ok (.iload_n 3, 1) := by decide +kernel
theorem dX9_work_29 : decode cX9_work 29 = .ok (.aload_n 0, 1) := by decide +kernel
theorem dX9_work_30 : decode cX9_work 30 = .ok (.getfield 7, 3) := by decide +kernel
theorem dX9_work_33 : decode cX9_work 33 = .ok (.if_icmp .ge 26, 3) := by decide +kernel
theorem dX9_work_36 : decode cX9_work 36 = .ok (.iload_n 2, 1) := by decide +kernel
theorem dX9_work_37 : decode cX9_work 37 = .ok (.aload_n 0, 1) := by decide +kernel
theorem dX9_work_38 : decode cX9_work 38 = .ok (.getfield 83, 3) := by decide +kernel
theorem dX9_work_41 : decode cX9_work 41 = .ok (.iload_n 3, 1) := by decide +kernel
theorem dX9_work_42 : decode cX9_work 42 = .ok (.iaload, 1) := by decide +kernel
theorem dX9_work_43 : decode cX9_work 43 = .ok (.ifCond .le 7, 3) := by decide +kernel
theorem dX9_work_46 : decode cX9_work 46 = .ok (.iconst 1, 1) := by decide +kernel
theorem dX9_work_47 : decode cX9_work 47 = .ok (.goto 4, 3) := by decide +kernel
theorem dX9_work_50 : decode cX9_work 50 = .ok (.iconst 0, 1) := by decide +kernel
theorem dX9_work_51 : decode cX9_work 51 = .ok (.iadd, 1) := by decide +kernel
theorem dX9_work_52 : decode cX9_work 52 = .ok (.istore_n 2, 1) := by decide +kernel
theorem dX9_work_53 : decode cX9_work 53 = .ok (.iinc 3 1, 3) := by decide +kernel
theorem dX9_work_56 : decode cX9_work 56 = .ok (.goto (-28), 3) := by decide +kernel
theorem dX9_work_59 : decode cX9_work 59 = .ok (.aload_n 0, 1) := by decide +kernel
theorem dX9_work_60 : decode cX9_work 60 = .ok (.getfield 113, 3) := by decide +kernel
theorem dX9_work_63 : decode cX9_work 63 = .ok (.iload_n 2, 1) := by decide +kernel
theorem dX9_work_64 : decode cX9_work 64 = .ok (.iadd, 1) := by decide +kernel
theorem dX9_work_65 : decode cX9_work 65 = .ok (.bipush 60, 2) := by decide +kernel
theorem dX9_work_67 : decode cX9_work 67 = .ok (.if_icmp .le 6, 3) := by decide +kernel
theorem dX9_work_70 : decode cX9_work 70 = .ok (.bipush (-3), 2) := by decide +kernel
theorem dX9_work_72 : decode cX9_work 72 = .ok (.ireturn, 1) := by decide +kernel
theorem dX9_work_73 : decode cX9_work 73 = .ok (.iconst 0, 1) := by decide +kernel
theorem dX9_work_74 : decode cX9_work 74 = .ok (.istore_n 3, 1) := by decide +kernel
theorem dX9_work_75 : decode cX9_work 75 = .ok (.iload_n 3, 1) := by decide +kernel
theorem dX9_work_76 : decode cX9_work 76 = .ok (.aload_n 0, 1) := by decide +kernel
theorem dX9_work_77 : decode cX9_work 77 = .ok (.getfield 7, 3) := by decide +kernel
theorem dX9_work_80 : decode cX9_work 80 = .ok (.if_icmp .ge 30, 3) := by decide +kernel
theorem dX9_work_83 : decode cX9_work 83 = .ok (.aload_n 0, 1) := by decide +kernel
theorem dX9_work_84 : decode cX9_work 84 = .ok (.getfield 83, 3) := by decide +kernel
theorem dX9_work_87 : decode cX9_work 87 = .ok (.iload_n 3, 1) := by decide +kernel
theorem dX9_work_88 : decode cX9_work 88 = .ok (.iaload, 1) := by decide +kernel
theorem dX9_work_89 : decode cX9_work 89 = .ok (.ifCond .le 15, 3) := by decide +kernel
theorem dX9_work_92 : decode cX9_work 92 = .ok (.aload_n 0, 1) := by decide +kernel
theorem dX9_work_93 : decode cX9_work 93 = .ok (.iload_n 1, 1) := by decide +kernel
theorem dX9_work_94 : decode cX9_work 94 = .ok (.iload_n 3, 1) := by decide +kernel
theorem dX9_work_95 : decode cX9_work 95 = .ok (.aload_n 0, 1) := by decide +kernel
theorem dX9_work_96 : decode cX9_work 96 = .ok (.getfield 83, 3) := by decide +kernel
theorem dX9_work_99 : decode cX9_work 99 = .ok (.iload_n 3, 1) := by decide +kernel
theorem dX9_work_100 : decode cX9_work 100 = .ok (.iaload, 1) := by decide +kernel
theorem dX9_work_101 : decode cX9_work 101 = .ok (.invokevirtual 175, 3) := by decide +kernel
theorem dX9_work_104 : decode cX9_work 104 = .ok (.iinc 3 1, 3) := by decide +kernel
theorem dX9_work_107 : decode cX9_work 107 = .ok (.goto (-32), 3) := by decide +kernel
theorem dX9_work_110 : decode cX9_work 110 = .ok (.iload_n 2, 1) := by decide +kernel
theorem dX9_work_111 : decode cX9_work 111 = .ok (.ireturn, 1) := by decide +kernel
theorem dX9_bend_0 : decode cX9_bend 0 = .ok (.iload_n 1, 1) := by decide +kernel
theorem dX9_bend_1 : decode cX9_bend 1 = .ok (.iconst 0, 1) := by decide +kernel
theorem dX9_bend_2 : decode cX9_bend 2 = .ok (.bipush 6, 2) := by decide +kernel
theorem dX9_bend_4 : decode cX9_bend 4 = .ok (.invokestatic 116, 3) := by decide +kernel
theorem dX9_bend_7 : decode cX9_bend 7 = .ok (.ifCond .eq 24, 3) := by decide +kernel
theorem dX9_bend_10 : decode cX9_bend 10 = .ok (.aload_n 0, 1) := by decide +kernel
theorem dX9_bend_11 : decode cX9_bend 11 = .ok (.iload_n 2, 1) := by decide +kernel
theorem dX9_bend_12 : decode cX9_bend 12 = .ok (.invokevirtual 130, 3) := by decide +kernel
theorem dX9_bend_15 : decode cX9_bend 15 = .ok (.ifCond .eq 16, 3) := by decide +kernel
theorem dX9_bend_18 : decode cX9_bend 18 = .ok (.iload_n 3, 1) := by decide +kernel
theorem dX9_bend_19 : decode cX9_bend 19 = .ok (.sipush (-500), 3) := by decide +kernel
theorem dX9_bend_22 : decode cX9_bend 22 = .ok (.sipush 500, 3) := by decide +kernel
theorem dX9_bend_25 : decode cX9_bend 25 = .ok (.invokestatic 116, 3) := by decide +kernel
theorem dX9_bend_28 : decode cX9_bend 28 = .ok (.ifCond .ne 7, 3) := by decide +kernel
theorem dX9_bend_31 : decode cX9_bend 31 = .ok (.sipush (-1000), 3) := by decide +kernel
theorem dX9_bend_34 : decode cX9_bend 34 = .ok (.ireturn, 1) := by decide +kernel
theorem dX9_bend_35 : decode cX9_bend 35 = .ok (.aload_n 0, 1) := by decide +kernel
theorem dX9_bend_36 : decode cX9_bend 36 = .ok (.getfield 62, 3) := by decide +kernel
theorem dX9_bend_39 : decode cX9_bend 39 = .ok (.bipush 16, 2) := by decide +kernel
theorem dX9_bend_41 : decode cX9_bend 41 = .ok (.iload_n 1, 1) := by decide +kernel
theorem dX9_bend_42 : decode cX9_bend 42 = .ok (.imul, 1) := by decide +kernel
theorem dX9_bend_43 : decode cX9_bend 43 = .ok (.iload_n 2, 1) := by decide +kernel
theorem dX9_bend_44 : decode cX9_bend 44 = .ok (.iadd, 1) := by decide +kernel
theorem dX9_bend_45 : decode cX9_bend 45 = .ok (.iaload, 1) := by decide +kernel
theorem dX9_bend_46 : decode cX9_bend 46 = .ok (.istore 4, 2) := by decide +kernel
theorem dX9_bend_48 : decode cX9_bend 48 = .ok (.aload_n 0, 1) := by decide +kernel
theorem dX9_bend_49 : decode cX9_bend 49 = .ok (.getfield 62, 3) := by decide +kernel
theorem dX9_bend_52 : decode cX9_bend 52 = .ok (.bipush 16, 2) := by decide +kernel
theorem dX9_bend_54 : decode cX9_bend 54 = .ok (.iload_n 1, 1) := by decide +kernel
theorem dX9_bend_55 : decode cX9_bend 55 = .ok (.imul, 1) := by decide +kernel
theorem dX9_bend_56 : decode cX9_bend 56 = .ok (.iload_n 2, 1) := by decide +kernel
theorem dX9_bend_57 : decode cX9_bend 57 = .ok (.iadd, 1) := by decide +kernel
theorem dX9_bend_58 : decode cX9_bend 58 = .ok (.iload_n 3, 1) := by decide +kernel
theorem dX9_bend_59 : decode cX9_bend 59 = .ok (.iastore, 1) := by decide +kernel
theorem dX9_bend_60 : decode cX9_bend 60 = .ok (.iload 4, 2) := by decide +kernel
theorem dX9_bend_62 : decode cX9_bend 62 = .ok (.ireturn, 1) := by decide +kernel
theorem dX9_spreads_0 : decode cX9_spreads 0 = .ok (.iconst 0, 1) := by decide +kernel
theorem dX9_spreads_1 : decode cX9_spreads 1 = .ok (.istore_n 1, 1) := by decide +kernel
theorem dX9_spreads_2 : decode cX9_spreads 2 = .ok (.iconst 0, 1) := by decide +kernel
theorem dX9_spreads_3 : decode cX9_spreads 3 = .ok (.istore_n 2, 1) := by decide +kernel
theorem dX9_spreads_4 : decode cX9_spreads 4 = .ok (.iload_n 2, 1) := by decide +kernel
theorem dX9_spreads_5 : decode cX9_spreads 5 = .ok (.bipush 6, 2) := by decide +kernel
theorem dX9_spreads_7 : decode cX9_spreads 7 = .ok (.if_icmp .ge 26, 3) := by decide +kernel
theorem dX9_spreads_10 : decode cX9_spreads 10 = .ok (.iload_n 1, 1) := by decide +kernel
theorem dX9_spreads_11 : decode cX9_spreads 11 = .ok (.aload_n 0, 1) := by decide +kernel
theorem dX9_spreads_12 : decode cX9_spreads 12 = .ok (.getfield 90, 3) := by decide +kernel
theorem dX9_spreads_15 : decode cX9_spreads 15 = .ok (.iload_n 2, 1) := by decide +kernel
theorem dX9_spreads_16 : decode cX9_spreads 16 = .ok (.iaload, 1) := by decide +kernel
theorem dX9_spreads_17 : decode cX9_spreads 17 = .ok (.ifCond .le 7, 3) := by decide +kernel
theorem dX9_spreads_20 : decode cX9_spreads 20 = .ok (.iconst 1, 1) := by decide +kernel
theorem dX9_spreads_21 : decode cX9_spreads 21 = .ok (.goto 4, 3) := by decide +kernel
theorem dX9_spreads_24 : decode cX9_spreads 24 = .ok (.iconst 0, 1) := by decide +kernel
theorem dX9_spreads_25 : decode cX9_spreads 25 = .ok (.iadd, 1) := by decide +kernel
theorem dX9_spreads_26 : decode cX9_spreads 26 = .ok (.istore_n 1, 1) := by decide +kernel
theorem dX9_spreads_27 : decode cX9_spreads 27 = .ok (.iinc 2 1, 3) := by decide +kernel
theorem dX9_spreads_30 : decode cX9_spreads 30 = .ok (.goto (-26), 3) := by decide +kernel
theorem dX9_spreads_33 : decode cX9_spreads 33 = .ok (.iload_n 1, 1) := by decide +kernel
theorem dX9_spreads_34 : decode cX9_spreads 34 = .ok (.iconst 3, 1) := by decide +kernel
theorem dX9_spreads_35 : decode cX9_spreads 35 = .ok (.if_icmp .le 4, 3) := by decide +kernel
theorem dX9_spreads_38 : decode cX9_spreads 38 = .ok (.return_, 1) := by decide +kernel
theorem dX9_spreads_39 : decode cX9_spreads 39 = .ok (.ldc 162, 2) := by decide +kernel
theorem dX9_spreads_41 : decode cX9_spreads 41 = .ok (.istore_n 2, 1) := by decide +kernel
theorem dX9_spreads_42 : decode cX9_spreads 42 = .ok (.ldc 136, 2) := by decide +kernel
theorem dX9_spreads_44 : decode cX9_spreads 44 = .ok (.istore_n 3, 1) := by decide +kernel
theorem dX9_spreads_45 : decode cX9_spreads 45 = .ok (.iconst 0, 1) := by decide +kernel
theorem dX9_spreads_46 : decode cX9_spreads 46 = .ok (.istore 4, 2) := by decide +kernel
theorem dX9_spreads_48 : decode cX9_spreads 48 = .ok (.iload 4, 2) := by decide +kernel
theorem dX9_spreads_50 : decode cX9_spreads 50 = .ok (.aload_n 0, 1) := by decide +kernel
theorem dX9_spreads_51 : decode cX9_spreads 51 = .ok (.getfield 7, 3) := by decide +kernel
theorem dX9_spreads_54 : decode cX9_spreads 54 = .ok (.if_icmp .ge 92, 3) := by decide +kernel
theorem dX9_spreads_57 : decode cX9_spreads 57 = .ok (.bipush 12, 2) := by decide +kernel
theorem dX9_spreads_59 : decode cX9_spreads 59 = .ok (.aload_n 0, 1) := by decide +kernel
theorem dX9_spreads_60 : decode cX9_spreads 60 = .ok (.getfield 62, 3) := by decide +kernel
theorem dX9_spreads_63 : decode cX9_spreads 63 = .ok (.bipush 96, 2) := by decide +kernel
theorem dX9_spreads_65 : decode cX9_spreads 65 = .ok (.iload 4, 2) := by decide +kernel
theorem dX9_spreads_67 : decode cX9_spreads 67 = .ok (.iadd, 1) := by decide +kernel
theorem dX9_spreads_68 : decode cX9_spreads 68 = .ok (.iaload, 1) := by decide +kernel
theorem dX9_spreads_69 : decode cX9_spreads 69 = .ok (.imul, 1) := by decide +kernel
theorem dX9_spreads_70 : decode cX9_spreads 70 = .ok (.istore 5, 2) := by decide +kernel
theorem dX9_spreads_72 : decode cX9_spreads 72 = .ok (.iconst 0, 1) := by decide +kernel
theorem dX9_spreads_73 : decode cX9_spreads 73 = .ok (.istore 6, 2) := by decide +kernel
theorem dX9_spreads_75 : decode cX9_spreads 75 = .ok (.iload 6, 2) := by decide +kernel
theorem dX9_spreads_77 : decode cX9_spreads 77 = .ok (.bipush 6, 2) := by decide +kernel
theorem dX9_spreads_79 : decode cX9_spreads 79 = .ok (.if_icmp .ge 35, 3) := by decide +kernel
theorem dX9_spreads_82 : decode cX9_spreads 82 = .ok (.iload 5, 2) := by decide +kernel
theorem dX9_spreads_84 : decode cX9_spreads 84 = .ok (.aload_n 0, 1) := by decide +kernel
theorem dX9_spreads_85 : decode cX9_spreads 85 = .ok (.getfield 90, 3) := by decide +kernel
theorem dX9_spreads_88 : decode cX9_spreads 88 = .ok (.iload 6, 2) := by decide +kernel
theorem dX9_spreads_90 : decode cX9_spreads 90 = .ok (.iaload, 1) := by decide +kernel
theorem dX9_spreads_91 : decode cX9_spreads 91 = .ok (.aload_n 0, 1) := by decide +kernel
theorem dX9_spreads_92 : decode cX9_spreads 92 = .ok (.getfield 62, 3) := by decide +kernel
theorem dX9_spreads_95 : decode cX9_spreads 95 = .ok (.bipush 16, 2) := by decide +kernel
theorem dX9_spreads_97 : decode cX9_spreads 97 = .ok (.iload 6, 2) := by decide +kernel
theorem dX9_spreads_99 : decode cX9_spreads 99 = .ok (.imul, 1) := by decide +kernel
theorem dX9_spreads_100 : decode cX9_spreads 100 = .ok (.iload 4, 2) := by decide +kernel
theorem dX9_spreads_102 : decode cX9_spreads 102 = .ok (.iadd, 1) := by decide +kernel
theorem dX9_spreads_103 : decode cX9_spreads 103 = .ok (.iaload, 1) := by decide +kernel
theorem dX9_spreads_104 : decode cX9_spreads 104 = .ok (.imul, 1) := by decide +kernel
theorem dX9_spreads_105 : decode cX9_spreads 105 = .ok (.isub, 1) := by decide +kernel
theorem dX9_spreads_106 : decode cX9_spreads 106 = .ok (.istore 5, 2) := by decide +kernel
theorem dX9_spreads_108 : decode cX9_spreads 108 = .ok (.iinc 6 1, 3) := by decide +kernel
theorem dX9_spreads_111 : decode cX9_spreads 111 = .ok (.goto (-36), 3) := by decide +kernel
theorem dX9_spreads_114 : decode cX9_spreads 114 = .ok (.iload 5, 2) := by decide +kernel
theorem dX9_spreads_116 : decode cX9_spreads 116 = .ok (.iload_n 2, 1) := by decide +kernel
theorem dX9_spreads_117 : decode cX9_spreads 117 = .ok (.if_icmp .ge 8, 3) := by decide +kernel
theorem dX9_spreads_120 : decode cX9_spreads 120 = .ok (.iload 5, 2) := by decide +kernel
theorem dX9_spreads_122 : decode cX9_spreads 122 = .ok (.goto 4, 3) := by decide +kernel
theorem dX9_spreads_125 : decode cX9_spreads 125 = .ok (.iload_n 2, 1) := by decide +kernel
theorem dX9_spreads_126 : decode cX9_spreads 126 = .ok (.istore_n 2, 1) := by decide +kernel
theorem dX9_spreads_127 : decode cX9_spreads 127 = .ok (.iload 5, 2) := by decide +kernel
theorem dX9_spreads_129 : decode cX9_spreads 129 = .ok (.iload_n 3, 1) := by decide +kernel
theorem dX9_spreads_130 : decode cX9_spreads 130 = .ok (.if_icmp .le 8, 3) := by decide +kernel
theorem dX9_spreads_133 : decode cX9_spreads 133 = .ok (.iload 5, 2) := by decide +kernel
theorem dX9_spreads_135 : decode cX9_spreads 135 = .ok (.goto 4, 3) := by decide +kernel
theorem dX9_spreads_138 : decode cX9_spreads 138 = .ok (.iload_n 3, 1) := by decide +kernel
theorem dX9_spreads_139 : decode cX9_spreads 139 = .ok (.istore_n 3, 1) := by decide +kernel
theorem dX9_spreads_140 : decode cX9_spreads 140 = .ok (.iinc 4 1, 3) := by decide +kernel
theorem dX9_spreads_143 : decode cX9_spreads 143 = .ok (.goto (-95), 3) := by decide +kernel
theorem dX9_spreads_146 : decode cX9_spreads 146 = .ok (.iload_n 3, 1) := by decide +kernel
theorem dX9_spreads_147 : decode cX9_spreads 147 = .ok (.iload_n 2, 1) := by decide +kernel
theorem dX9_spreads_148 : decode cX9_spreads 148 = .ok (.isub, 1) := by decide +kernel
theorem dX9_spreads_149 : decode cX9_spreads 149 = .ok (.aload_n 0, 1) := by decide +kernel
theorem dX9_spreads_150 : decode cX9_spreads 150 = .ok (.getfield 198, 3) := by decide +kernel
theorem dX9_spreads_153 : decode cX9_spreads 153 = .ok (.if_icmp .ge 40, 3) := by decide +kernel
theorem dX9_spreads_156 : decode cX9_spreads 156 = .ok (.aload_n 0, 1) := by decide +kernel
theorem dX9_spreads_157 : decode cX9_spreads 157 = .ok (.iload_n 3, 1) := by decide +kernel
theorem dX9_spreads_158 : decode cX9_spreads 158 = .ok (.iload_n 2, 1) := by decide +kernel
theorem dX9_spreads_159 : decode cX9_spreads 159 = .ok (.isub, 1) := by decide +kernel
theorem dX9_spreads_160 : decode cX9_spreads 160 = .ok (.putfield 198, 3) := by decide +kernel
theorem dX9_spreads_163 : decode cX9_spreads 163 = .ok (.iconst 0, 1) := by decide +kernel
theorem dX9_spreads_164 : decode cX9_spreads 164 = .ok (.istore 4, 2) := by decide +kernel
theorem dX9_spreads_166 : decode cX9_spreads 166 = .ok (.iload 4, 2) := by decide +kernel
theorem dX9_spreads_168 : decode cX9_spreads 168 = .ok (.bipush 6, 2) := by decide +kernel
theorem dX9_spreads_170 : decode cX9_spreads 170 = .ok (.if_icmp .ge 23, 3) := by decide +kernel
theorem dX9_spreads_173 : decode cX9_spreads 173 = .ok (.aload_n 0, 1) := by decide +kernel
theorem dX9_spreads_174 : decode cX9_spreads 174 = .ok (.getfield 93, 3) := by decide +kernel
theorem dX9_spreads_177 : decode cX9_spreads 177 = .ok (.iload 4, 2) := by decide +kernel
theorem dX9_spreads_179 : decode cX9_spreads 179 = .ok (.aload_n 0, 1) := by decide +kernel
theorem dX9_spreads_180 : decode cX9_spreads 180 = .ok (.getfield 90, 3) := by decide +kernel
theorem dX9_spreads_183 : decode cX9_spreads 183 = .ok (.iload 4, 2) := by decide +kernel
theorem dX9_spreads_185 : decode cX9_spreads 185 = .ok (.iaload, 1) := by decide +kernel
theorem dX9_spreads_186 : decode cX9_spreads 186 = .ok (.iastore, 1) := by decide +kernel
theorem dX9_spreads_187 : decode cX9_spreads 187 = .ok (.iinc 4 1, 3) := by decide +kernel
theorem dX9_spreads_190 : decode cX9_spreads 190 = .ok (.goto (-24), 3) := by decide +kernel
theorem dX9_spreads_193 : decode cX9_spreads 193 = .ok (.return_, 1) := by decide +kernel
theorem dX9_bear_0 : decode cX9_bear 0 = .ok (.iload_n 1, 1) := by decide +kernel
theorem dX9_bear_1 : decode cX9_bear 1 = .ok (.iconst (-1), 1) := by decide +kernel
theorem dX9_bear_2 : decode cX9_bear 2 = .ok (.iconst 5, 1) := by decide +kernel
theorem dX9_bear_3 : decode cX9_bear 3 = .ok (.invokestatic 116, 3) := by decide +kernel
theorem dX9_bear_6 : decode cX9_bear 6 = .ok (.ifCond .ne 5, 3) := by decide +kernel
theorem dX9_bear_9 : decode cX9_bear 9 = .ok (.iconst (-1), 1) := by decide +kernel
theorem dX9_bear_10 : decode cX9_bear 10 = .ok (.ireturn, 1) := by decide +kernel
theorem dX9_bear_11 : decode cX9_bear 11 = .ok (.aload_n 0, 1) := by decide +kernel
theorem dX9_bear_12 : decode cX9_bear 12 = .ok (.ldc 162, 2) := by decide +kernel
theorem dX9_bear_14 : decode cX9_bear 14 = .ok (.putfield 198, 3) := by decide +kernel
theorem dX9_bear_17 : decode cX9_bear 17 = .ok (.bipush 12, 2) := by decide +kernel
theorem dX9_bear_19 : decode cX9_bear 19 = .ok (.istore_n 2, 1) := by decide +kernel
theorem dX9_bear_20 : decode cX9_bear 20 = .ok (.iload_n 2, 1) := by decide +kernel
theorem dX9_bear_21 : decode cX9_bear 21 = .ok (.ifCond .lt 153, 3) := by decide +kernel
theorem dX9_bear_24 : decode cX9_bear 24 = .ok (.bipush 12, 2) := by decide +kernel
theorem dX9_bear_26 : decode cX9_bear 26 = .ok (.iload_n 2, 1) := by decide +kernel
theorem dX9_bear_27 : decode cX9_bear 27 = .ok (.isub, 1) := by decide +kernel
theorem dX9_bear_28 : decode cX9_bear 28 = .ok (.istore_n 3, 1) := by decide +kernel
theorem dX9_bear_29 : decode cX9_bear 29 = .ok (.iload_n 3, 1) := by decide +kernel
theorem dX9_bear_30 : decode cX9_bear 30 = .ok (.ifCond .lt 138, 3) := by decide +kernel
theorem dX9_bear_33 : decode cX9_bear 33 = .ok (.bipush 12, 2) := by decide +kernel
theorem dX9_bear_35 : decode cX9_bear 35 = .ok (.iload_n 2, 1) := by decide +kernel
theorem dX9_bear_36 : decode cX9_bear 36 = .ok (.isub, 1) := by decide +kernel
theorem dX9_bear_37 : decode cX9_bear 37 = .ok (.iload_n 3, 1) := by decide +kernel
theorem dX9_bear_38 : decode cX9_bear 38 = .ok (.isub, 1) := by decide +kernel
theorem dX9_bear_39 : decode cX9_bear 39 = .ok (.istore 4, 2) := by decide +kernel
theorem dX9_bear_41 : decode cX9_bear 41 = .ok (.iload 4, 2) := by decide +kernel
theorem dX9_bear_43 : decode cX9_bear 43 = .ok (.ifCond .lt 119, 3) := by decide +kernel
theorem dX9_bear_46 : decode cX9_bear 46 = .ok (.bipush 12, 2) := by decide +kernel
theorem dX9_bear_48 : decode cX9_bear 48 = .ok (.iload_n 2, 1) := by decide +kernel
theorem dX9_bear_49 : decode cX9_bear 49 = .ok (.isub, 1) := by decide +kernel
theorem dX9_bear_50 : decode cX9_bear 50 = .ok (.iload_n 3, 1) := by decide +kernel
theorem dX9_bear_51 : decode cX9_bear 51 = .ok (.isub, 1) := by decide +kernel
theorem dX9_bear_52 : decode cX9_bear 52 = .ok (.iload 4, 2) := by decide +kernel
theorem dX9_bear_54 : decode cX9_bear 54 = .ok (.isub, 1) := by decide +kernel
theorem dX9_bear_55 : decode cX9_bear 55 = .ok (.istore 5, 2) := by decide +kernel
theorem dX9_bear_57 : decode cX9_bear 57 = .ok (.iload 5, 2) := by decide +kernel
theorem dX9_bear_59 : decode cX9_bear 59 = .ok (.ifCond .lt 97, 3) := by decide +kernel
theorem dX9_bear_62 : decode cX9_bear 62 = .ok (.bipush 12, 2) := by decide +kernel
theorem dX9_bear_64 : decode cX9_bear 64 = .ok (.iload_n 2, 1) := by decide +kernel
theorem dX9_bear_65 : decode cX9_bear 65 = .ok (.isub, 1) := by decide +kernel
theorem dX9_bear_66 : decode cX9_bear 66 = .ok (.iload_n 3, 1) := by decide +kernel
theorem dX9_bear_67 : decode cX9_bear 67 = .ok (.isub, 1) := by decide +kernel
theorem dX9_bear_68 : decode cX9_bear 68 = .ok (.iload 4, 2) := by decide +kernel
theorem dX9_bear_70 : decode cX9_bear 70 = .ok (.isub, 1) := by decide +kernel
theorem dX9_bear_71 : decode cX9_bear 71 = .ok (.iload 5, 2) := by decide +kernel
theorem dX9_bear_73 : decode cX9_bear 73 = .ok (.isub, 1) := by decide +kernel
theorem dX9_bear_74 : decode cX9_bear 74 = .ok (.istore 6, 2) := by decide +kernel
theorem dX9_bear_76 : decode cX9_bear 76 = .ok (.iload 6, 2) := by decide +kernel
theorem dX9_bear_78 : decode cX9_bear 78 = .ok (.ifCond .lt 72, 3) := by decide +kernel
theorem dX9_bear_81 : decode cX9_bear 81 = .ok (.aload_n 0, 1) := by decide +kernel
theorem dX9_bear_82 : decode cX9_bear 82 = .ok (.getfield 90, 3) := by decide +kernel
theorem dX9_bear_85 : decode cX9_bear 85 = .ok (.iconst 0, 1) := by decide +kernel
theorem dX9_bear_86 : decode cX9_bear 86 = .ok (.iload_n 2, 1) := by decide +kernel
theorem dX9_bear_87 : decode cX9_bear 87 = .ok (.iastore, 1) := by decide +kernel
theorem dX9_bear_88 : decode cX9_bear 88 = .ok (.aload_n 0, 1) := by decide +kernel
theorem dX9_bear_89 : decode cX9_bear 89 = .ok (.getfield 90, 3) := by decide +kernel
theorem dX9_bear_92 : decode cX9_bear 92 = .ok (.iconst 1, 1) := by decide +kernel
theorem dX9_bear_93 : decode cX9_bear 93 = .ok (.iload_n 3, 1) := by decide +kernel
theorem dX9_bear_94 : decode cX9_bear 94 = .ok (.iastore, 1) := by decide +kernel
theorem dX9_bear_95 : decode cX9_bear 95 = .ok (.aload_n 0, 1) := by decide +kernel
theorem dX9_bear_96 : decode cX9_bear 96 = .ok (.getfield 90, 3) := by decide +kernel
theorem dX9_bear_99 : decode cX9_bear 99 = .ok (.iconst 2, 1) := by decide +kernel
theorem dX9_bear_100 : decode cX9_bear 100 = .ok (.iload 4, 2) := by decide +kernel
theorem dX9_bear_102 : decode cX9_bear 102 = .ok (.iastore, 1) := by decide +kernel
theorem dX9_bear_103 : decode cX9_bear 103 = .ok (.aload_n 0, 1) := by decide +kernel
theorem dX9_bear_104 : decode cX9_bear 104 = .ok (.getfield 90, 3) := by decide +kernel
theorem dX9_bear_107 : decode cX9_bear 107 = .ok (.iconst 3, 1) := by decide +kernel
theorem dX9_bear_108 : decode cX9_bear 108 = .ok (.iload 5, 2) := by decide +kernel
theorem dX9_bear_110 : decode cX9_bear 110 = .ok (.iastore, 1) := by decide +kernel
theorem dX9_bear_111 : decode cX9_bear 111 = .ok (.aload_n 0, 1) := by decide +kernel
theorem dX9_bear_112 : decode cX9_bear 112 = .ok (.getfield 90, 3) := by decide +kernel
theorem dX9_bear_115 : decode cX9_bear 115 = .ok (.iconst 4, 1) := by decide +kernel
theorem dX9_bear_116 : decode cX9_bear 116 = .ok (.iload 6, 2) := by decide +kernel
theorem dX9_bear_118 : decode cX9_bear 118 = .ok (.iastore, 1) := by decide +kernel
theorem dX9_bear_119 : decode cX9_bear 119 = .ok (.aload_n 0, 1) := by decide +kernel
theorem dX9_bear_120 : decode cX9_bear 120 = .ok (.getfield 90, 3) := by decide +kernel
theorem dX9_bear_123 : decode cX9_bear 123 = .ok (.iconst 5, 1) := by decide +kernel
theorem dX9_bear_124 : decode cX9_bear 124 = .ok (.bipush 12, 2) := by decide +kernel
theorem dX9_bear_126 : decode cX9_bear 126 = .ok (.iload_n 2, 1) := by decide +kernel
theorem dX9_bear_127 : decode cX9_bear 127 = .ok (.isub, 1) := by decide +kernel
theorem dX9_bear_128 : decode cX9_bear 128 = .ok (.iload_n 3, 1) := by decide +kernel
theorem dX9_bear_129 : decode cX9_bear 129 = .ok (.isub, 1) := by decide +kernel
theorem dX9_bear_130 : decode cX9_bear 130 = .ok (.iload 4, 2) := by decide +kernel
theorem dX9_bear_132 : decode cX9_bear 132 = .ok (.isub, 1) := by decide +kernel
theorem dX9_bear_133 : decode cX9_bear 133 = .ok (.iload 5, 2) := by decide +kernel
theorem dX9_bear_135 : decode cX9_bear 135 = .ok (.isub, 1) := by decide +kernel
theorem dX9_bear_136 : decode cX9_bear 136 = .ok (.iload 6, 2) := by decide +kernel
theorem dX9_bear_138 : decode cX9_bear 138 = .ok (.isub, 1) := by decide +kernel
theorem dX9_bear_139 : decode cX9_bear 139 = .ok (.iastore, 1) := by decide +kernel
theorem dX9_bear_140 : decode cX9_bear 140 = .ok (.aload_n 0, 1) := by decide +kernel
theorem dX9_bear_141 : decode cX9_bear 141 = .ok (.invokevirtual 201, 3) := by decide +kernel
theorem dX9_bear_144 : decode cX9_bear 144 = .ok (.iinc 6 (-1), 3) := by decide +kernel
theorem dX9_bear_147 : decode cX9_bear 147 = .ok (.goto (-71), 3) := by decide +kernel
theorem dX9_bear_150 : decode cX9_bear 150 = .ok (.iinc 5 (-1), 3) := by decide +kernel
theorem dX9_bear_153 : decode cX9_bear 153 = .ok (.goto (-96), 3) := by decide +kernel
theorem dX9_bear_156 : decode cX9_bear 156 = .ok (.iinc 4 (-1), 3) := by decide +kernel
theorem dX9_bear_159 : decode cX9_bear 159 = .ok (.goto (-118), 3) := by decide +kernel
theorem dX9_bear_162 : decode cX9_bear 162 = .ok (.iinc 3 (-1), 3) := by decide +kernel
theorem dX9_bear_165 : decode cX9_bear 165 = .ok (.goto (-136), 3) := by decide +kernel
theorem dX9_bear_168 : decode cX9_bear 168 = .ok (.iinc 2 (-1), 3) := by decide +kernel
theorem dX9_bear_171 : decode cX9_bear 171 = .ok (.goto (-151), 3) := by decide +kernel
theorem dX9_bear_174 : decode cX9_bear 174 = .ok (.iload_n 1, 1) := by decide +kernel
theorem dX9_bear_175 : decode cX9_bear 175 = .ok (.ifCond .ge 10, 3) := by decide +kernel
theorem dX9_bear_178 : decode cX9_bear 178 = .ok (.aload_n 0, 1) := by decide +kernel
theorem dX9_bear_179 : decode cX9_bear 179 = .ok (.getfield 198, 3) := by decide +kernel
theorem dX9_bear_182 : decode cX9_bear 182 = .ok (.goto 9, 3) := by decide +kernel
theorem dX9_bear_185 : decode cX9_bear 185 = .ok (.aload_n 0, 1) := by decide +kernel
theorem dX9_bear_186 : decode cX9_bear 186 = .ok (.getfield 93, 3) := by decide +kernel
theorem dX9_bear_189 : decode cX9_bear 189 = .ok (.iload_n 1, 1) := by decide +kernel
theorem dX9_bear_190 : decode cX9_bear 190 = .ok (.iaload, 1) := by decide +kernel
theorem dX9_bear_191 : decode cX9_bear 191 = .ok (.ireturn, 1) := by decide +kernel
theorem dX9_warm_0 : decode cX9_warm 0 = .ok (.iload_n 1, 1) := by decide +kernel
theorem dX9_warm_1 : decode cX9_warm 1 = .ok (.iconst 0, 1) := by decide +kernel
theorem dX9_warm_2 : decode cX9_warm 2 = .ok (.bipush 8, 2) := by decide +kernel
theorem dX9_warm_4 : decode cX9_warm 4 = .ok (.invokestatic 116, 3) := by decide +kernel
theorem dX9_warm_7 : decode cX9_warm 7 = .ok (.ifCond .eq 14, 3) := by decide +kernel
theorem dX9_warm_10 : decode cX9_warm 10 = .ok (.iload_n 2, 1) := by decide +kernel
theorem dX9_warm_11 : decode cX9_warm 11 = .ok (.ldc 134, 2) := by decide +kernel
theorem dX9_warm_13 : decode cX9_warm 13 = .ok (.ldc 135, 2) := by decide +kernel
theorem dX9_warm_15 : decode cX9_warm 15 = .ok (.invokestatic 116, 3) := by decide +kernel
theorem dX9_warm_18 : decode cX9_warm 18 = .ok (.ifCond .ne 6, 3) := by decide +kernel
theorem dX9_warm_21 : decode cX9_warm 21 = .ok (.ldc 136, 2) := by decide +kernel
theorem dX9_warm_23 : decode cX9_warm 23 = .ok (.ireturn, 1) := by decide +kernel
theorem dX9_warm_24 : decode cX9_warm 24 = .ok (.aload_n 0, 1) := by decide +kernel
theorem dX9_warm_25 : decode cX9_warm 25 = .ok (.getfield 65, 3) := by decide +kernel
theorem dX9_warm_28 : decode cX9_warm 28 = .ok (.iload_n 1, 1) := by decide +kernel
theorem dX9_warm_29 : decode cX9_warm 29 = .ok (.iaload, 1) := by decide +kernel
theorem dX9_warm_30 : decode cX9_warm 30 = .ok (.istore_n 3, 1) := by decide +kernel
theorem dX9_warm_31 : decode cX9_warm 31 = .ok (.aload_n 0, 1) := by decide +kernel
theorem dX9_warm_32 : decode cX9_warm 32 = .ok (.getfield 65, 3) := by decide +kernel
theorem dX9_warm_35 : decode cX9_warm 35 = .ok (.iload_n 1, 1) := by decide +kernel
theorem dX9_warm_36 : decode cX9_warm 36 = .ok (.iload_n 2, 1) := by decide +kernel
theorem dX9_warm_37 : decode cX9_warm 37 = .ok (.iastore, 1) := by decide +kernel
theorem dX9_warm_38 : decode cX9_warm 38 = .ok (.iload_n 3, 1) := by decide +kernel
theorem dX9_warm_39 : decode cX9_warm 39 = .ok (.ireturn, 1) := by decide +kernel
theorem dX9_down_0 : decode cX9_down 0 = .ok (.iload_n 0, 1) := by decide +kernel
theorem dX9_down_1 : decode cX9_down 1 = .ok (.ifCond .lt 9, 3) := by decide +kernel
theorem dX9_down_4 : decode cX9_down 4 = .ok (.iload_n 0, 1) := by decide +kernel
theorem dX9_down_5 : decode cX9_down 5 = .ok (.iload_n 1, 1) := by decide +kernel
theorem dX9_down_6 : decode cX9_down 6 = .ok (.idiv, 1) := by decide +kernel
theorem dX9_down_7 : decode cX9_down 7 = .ok (.goto 11, 3) := by decide +kernel
theorem dX9_down_10 : decode cX9_down 10 = .ok (.iload_n 1, 1) := by decide +kernel
theorem dX9_down_11 : decode cX9_down 11 = .ok (.iconst 1, 1) := by decide +kernel
theorem dX9_down_12 : decode cX9_down 12 = .ok (.isub, 1) := by decide +kernel
theorem dX9_down_13 : decode cX9_down 13 = .ok (.iload_n 0, 1) := by decide +kernel
theorem dX9_down_14 : decode cX9_down 14 = .ok (.isub, 1) := by decide +kernel
theorem dX9_down_15 : decode cX9_down 15 = .ok (.iload_n 1, 1) := by decide +kernel
theorem dX9_down_16 : decode cX9_down 16 = .ok (.idiv, 1) := by decide +kernel
theorem dX9_down_17 : decode cX9_down 17 = .ok (.ineg, 1) := by decide +kernel
theorem dX9_down_18 : decode cX9_down 18 = .ok (.ireturn, 1) := by decide +kernel
theorem dX9_passes_0 : decode cX9_passes 0 = .ok (.aload_n 0, 1) := by decide +kernel
theorem dX9_passes_1 : decode cX9_passes 1 = .ok (.getfield 96, 3) := by decide +kernel
theorem dX9_passes_4 : decode cX9_passes 4 = .ok (.iconst 0, 1) := by decide +kernel
theorem dX9_passes_5 : decode cX9_passes 5 = .ok (.aload_n 0, 1) := by decide +kernel
theorem dX9_passes_6 : decode cX9_passes 6 = .ok (.getfield 65, 3) := by decide +kernel
theorem dX9_passes_9 : decode cX9_passes 9 = .ok (.bipush 8, 2) := by decide +kernel
theorem dX9_passes_11 : decode cX9_passes 11 = .ok (.iaload, 1) := by decide +kernel
theorem dX9_passes_12 : decode cX9_passes 12 = .ok (.iastore, 1) := by decide +kernel
theorem dX9_passes_13 : decode cX9_passes 13 = .ok (.aload_n 0, 1) := by decide +kernel
theorem dX9_passes_14 : decode cX9_passes 14 = .ok (.getfield 96, 3) := by decide +kernel
theorem dX9_passes_17 : decode cX9_passes 17 = .ok (.bipush 9, 2) := by decide +kernel
theorem dX9_passes_19 : decode cX9_passes 19 = .ok (.aload_n 0, 1) := by decide +kernel
theorem dX9_passes_20 : decode cX9_passes 20 = .ok (.getfield 65, 3) := by decide +kernel
theorem dX9_passes_23 : decode cX9_passes 23 = .ok (.bipush 8, 2) := by decide +kernel
theorem dX9_passes_25 : decode cX9_passes 25 = .ok (.iaload, 1) := by decide +kernel
theorem dX9_passes_26 : decode cX9_passes 26 = .ok (.iastore, 1) := by decide +kernel
theorem dX9_passes_27 : decode cX9_passes 27 = .ok (.iconst 0, 1) := by decide +kernel
theorem dX9_passes_28 : decode cX9_passes 28 = .ok (.istore_n 1, 1) := by decide +kernel
theorem dX9_passes_29 : decode cX9_passes 29 = .ok (.iload_n 1, 1) := by decide +kernel
theorem dX9_passes_30 : decode cX9_passes 30 = .ok (.bipush 8, 2) := by decide +kernel
theorem dX9_passes_32 : decode cX9_passes 32 = .ok (.if_icmp .ge 23, 3) := by decide +kernel
theorem dX9_passes_35 : decode cX9_passes 35 = .ok (.aload_n 0, 1) := by decide +kernel
theorem dX9_passes_36 : decode cX9_passes 36 = .ok (.getfield 96, 3) := by decide +kernel
theorem dX9_passes_39 : decode cX9_passes 39 = .ok (.iload_n 1, 1) := by decide +kernel
theorem dX9_passes_40 : decode cX9_passes 40 = .ok (.iconst 1, 1) := by decide +kernel
theorem dX9_passes_41 : decode cX9_passes 41 = .ok (.iadd, 1) := by decide +kernel
theorem dX9_passes_42 : decode cX9_passes 42 = .ok (.aload_n 0, 1) := by decide +kernel
theorem dX9_passes_43 : decode cX9_passes 43 = .ok (.getfield 65, 3) := by decide +kernel
theorem dX9_passes_46 : decode cX9_passes 46 = .ok (.iload_n 1, 1) := by decide +kernel
theorem dX9_passes_47 : decode cX9_passes 47 = .ok (.iaload, 1) := by decide +kernel
theorem dX9_passes_48 : decode cX9_passes 48 = .ok (.iastore, 1) := by decide +kernel
theorem dX9_passes_49 : decode cX9_passes 49 = .ok (.iinc 1 1, 3) := by decide +kernel
theorem dX9_passes_52 : decode cX9_passes 52 = .ok (.goto (-23), 3) := by decide +kernel
theorem dX9_passes_55 : decode cX9_passes 55 = .ok (.iconst 0, 1) := by decide +kernel
theorem dX9_passes_56 : decode cX9_passes 56 = .ok (.istore_n 1, 1) := by decide +kernel
theorem dX9_passes_57 : decode cX9_passes 57 = .ok (.iload_n 1, 1) := by decide +kernel
theorem dX9_passes_58 : decode cX9_passes 58 = .ok (.bipush 8, 2) := by decide +kernel
theorem dX9_passes_60 : decode cX9_passes 60 = .ok (.if_icmp .ge 48, 3) := by decide +kernel
theorem dX9_passes_63 : decode cX9_passes 63 = .ok (.aload_n 0, 1) := by decide +kernel
theorem dX9_passes_64 : decode cX9_passes 64 = .ok (.getfield 65, 3) := by decide +kernel
theorem dX9_passes_67 : decode cX9_passes 67 = .ok (.iload_n 1, 1) := by decide +kernel
theorem dX9_passes_68 : decode cX9_passes 68 = .ok (.dup2, 1) := by decide +kernel
theorem dX9_passes_69 : decode cX9_passes 69 = .ok (.iaload, 1) := by decide +kernel
theorem dX9_passes_70 : decode cX9_passes 70 = .ok (.aload_n 0, 1) := by decide +kernel
theorem dX9_passes_71 : decode cX9_passes 71 = .ok (.getfield 96, 3) := by decide +kernel
theorem dX9_passes_74 : decode cX9_passes 74 = .ok (.iload_n 1, 1) := by decide +kernel
theorem dX9_passes_75 : decode cX9_passes 75 = .ok (.iaload, 1) := by decide +kernel
theorem dX9_passes_76 : decode cX9_passes 76 = .ok (.aload_n 0, 1) := by decide +kernel
theorem dX9_passes_77 : decode cX9_passes 77 = .ok (.getfield 96, 3) := by decide +kernel
theorem dX9_passes_80 : decode cX9_passes 80 = .ok (.iload_n 1, 1) := by decide +kernel
theorem dX9_passes_81 : decode cX9_passes 81 = .ok (.iconst 2, 1) := by decide +kernel
theorem dX9_passes_82 : decode cX9_passes 82 = .ok (.iadd, 1) := by decide +kernel
theorem dX9_passes_83 : decode cX9_passes 83 = .ok (.iaload, 1) := by decide +kernel
theorem dX9_passes_84 : decode cX9_passes 84 = .ok (.iadd, 1) := by decide +kernel
theorem dX9_passes_85 : decode cX9_passes 85 = .ok (.iconst 2, 1) := by decide +kernel
theorem dX9_passes_86 : decode cX9_passes 86 = .ok (.aload_n 0, 1) := by decide +kernel
theorem dX9_passes_87 : decode cX9_passes 87 = .ok (.getfield 96, 3) := by decide +kernel
theorem dX9_passes_90 : decode cX9_passes 90 = .ok (.iload_n 1, 1) := by decide +kernel
theorem dX9_passes_91 : decode cX9_passes 91 = .ok (.iconst 1, 1) := by decide +kernel
theorem dX9_passes_92 : decode cX9_passes 92 = .ok (.iadd, 1) := by decide +kernel
theorem dX9_passes_93 : decode cX9_passes 93 = .ok (.iaload, 1) := by decide +kernel
theorem dX9_passes_94 : decode cX9_passes 94 = .ok (.imul, 1) := by decide +kernel
theorem dX9_passes_95 : decode cX9_passes 95 = .ok (.isub, 1) := by decide +kernel
theorem dX9_passes_96 : decode cX9_passes 96 = .ok (.iconst 4, 1) := by decide +kernel
theorem dX9_passes_97 : decode cX9_passes 97 = .ok (.invokestatic 204, 3) := by decide +kernel
theorem dX9_passes_100 : decode cX9_passes 100 = .ok (.iadd, 1) := by decide +kernel
theorem dX9_passes_101 : decode cX9_passes 101 = .ok (.iastore, 1) := by decide +kernel
theorem dX9_passes_102 : decode cX9_passes 102 = .ok (.iinc 1 1, 3) := by decide +kernel
theorem dX9_passes_105 : decode cX9_passes 105 = .ok (.goto (-48), 3) := by decide +kernel
theorem dX9_passes_108 : decode cX9_passes 108 = .ok (.return_, 1) := by decide +kernel
theorem dX9_apart_0 : decode cX9_apart 0 = .ok (.aload_n 0, 1) := by decide +kernel
theorem dX9_apart_1 : decode cX9_apart 1 = .ok (.getfield 65, 3) := by decide +kernel
theorem dX9_apart_4 : decode cX9_apart 4 = .ok (.iconst 0, 1) := by decide +kernel
theorem dX9_apart_5 : decode cX9_apart 5 = .ok (.iaload, 1) := by decide +kernel
theorem dX9_apart_6 : decode cX9_apart 6 = .ok (.istore_n 2, 1) := by decide +kernel
theorem dX9_apart_7 : decode cX9_apart 7 = .ok (.aload_n 0, 1) := by decide +kernel
theorem dX9_apart_8 : decode cX9_apart 8 = .ok (.getfield 65, 3) := by decide +kernel
theorem dX9_apart_11 : decode cX9_apart 11 = .ok (.iconst 0, 1) := by decide +kernel
theorem dX9_apart_12 : decode cX9_apart 12 = .ok (.iaload, 1) := by decide +kernel
theorem dX9_apart_13 : decode cX9_apart 13 = .ok (.istore_n 3, 1) := by decide +kernel
theorem dX9_apart_14 : decode cX9_apart 14 = .ok (.iconst 1, 1) := by decide +kernel
theorem dX9_apart_15 : decode cX9_apart 15 = .ok (.istore 4, 2) := by decide +kernel
theorem dX9_apart_17 : decode cX9_apart 17 = .ok (.iload 4, 2) := by decide +kernel
theorem dX9_apart_19 : decode cX9_apart 19 = .ok (.iload_n 1, 1) := by decide +kernel
theorem dX9_apart_20 : decode cX9_apart 20 = .ok (.if_icmp .ge 55, 3) := by decide +kernel
theorem dX9_apart_23 : decode cX9_apart 23 = .ok (.aload_n 0, 1) := by decide +kernel
theorem dX9_apart_24 : decode cX9_apart 24 = .ok (.getfield 65, 3) := by decide +kernel
theorem dX9_apart_27 : decode cX9_apart 27 = .ok (.iload 4, 2) := by decide +kernel
theorem dX9_apart_29 : decode cX9_apart 29 = .ok (.iaload, 1) := by decide +kernel
theorem dX9_apart_30 : decode cX9_apart 30 = .ok (.iload_n 2, 1) := by decide +kernel
theorem dX9_apart_31 : decode cX9_apart 31 = .ok (.if_icmp .ge 13, 3) := by decide +kernel
theorem dX9_apart_34 : decode cX9_apart 34 = .ok (.aload_n 0, 1) := by decide +kernel
theorem dX9_apart_35 : decode cX9_apart 35 = .ok (.getfield 65, 3) := by decide +kernel
theorem dX9_apart_38 : decode cX9_apart 38 = .ok (.iload 4, 2) := by decide +kernel
theorem dX9_apart_40 : decode cX9_apart 40 = .ok (.iaload, 1) := by decide +kernel
theorem dX9_apart_41 : decode cX9_apart 41 = .ok (.goto 4, 3) := by decide +kernel
theorem dX9_apart_44 : decode cX9_apart 44 = .ok (.iload_n 2, 1) := by decide +kernel
theorem dX9_apart_45 : decode cX9_apart 45 = .ok (.istore_n 2, 1) := by decide +kernel
theorem dX9_apart_46 : decode cX9_apart 46 = .ok (.aload_n 0, 1) := by decide +kernel
theorem dX9_apart_47 : decode cX9_apart 47 = .ok (.getfield 65, 3) := by decide +kernel
theorem dX9_apart_50 : decode cX9_apart 50 = .ok (.iload 4, 2) := by decide +kernel
theorem dX9_apart_52 : decode cX9_apart 52 = .ok (.iaload, 1) := by decide +kernel
theorem dX9_apart_53 : decode cX9_apart 53 = .ok (.iload_n 3, 1) := by decide +kernel
theorem dX9_apart_54 : decode cX9_apart 54 = .ok (.if_icmp .le 13, 3) := by decide +kernel
theorem dX9_apart_57 : decode cX9_apart 57 = .ok (.aload_n 0, 1) := by decide +kernel
theorem dX9_apart_58 : decode cX9_apart 58 = .ok (.getfield 65, 3) := by decide +kernel
theorem dX9_apart_61 : decode cX9_apart 61 = .ok (.iload 4, 2) := by decide +kernel
theorem dX9_apart_63 : decode cX9_apart 63 = .ok (.iaload, 1) := by decide +kernel
theorem dX9_apart_64 : decode cX9_apart 64 = .ok (.goto 4, 3) := by decide +kernel
theorem dX9_apart_67 : decode cX9_apart 67 = .ok (.iload_n 3, 1) := by decide +kernel
theorem dX9_apart_68 : decode cX9_apart 68 = .ok (.istore_n 3, 1) := by decide +kernel
theorem dX9_apart_69 : decode cX9_apart 69 = .ok (.iinc 4 1, 3) := by decide +kernel
theorem dX9_apart_72 : decode cX9_apart 72 = .ok (.goto (-55), 3) := by decide +kernel
theorem dX9_apart_75 : decode cX9_apart 75 = .ok (.iload_n 3, 1) := by decide +kernel
theorem dX9_apart_76 : decode cX9_apart 76 = .ok (.iload_n 2, 1) := by decide +kernel
theorem dX9_apart_77 : decode cX9_apart 77 = .ok (.isub, 1) := by decide +kernel
theorem dX9_apart_78 : decode cX9_apart 78 = .ok (.ireturn, 1) := by decide +kernel
theorem dX9_cool_0 : decode cX9_cool 0 = .ok (.iload_n 1, 1) := by decide +kernel
theorem dX9_cool_1 : decode cX9_cool 1 = .ok (.iconst 1, 1) := by decide +kernel
theorem dX9_cool_2 : decode cX9_cool 2 = .ok (.sipush 1000, 3) := by decide +kernel
theorem dX9_cool_5 : decode cX9_cool 5 = .ok (.invokestatic 116, 3) := by decide +kernel
theorem dX9_cool_8 : decode cX9_cool 8 = .ok (.ifCond .ne 5, 3) := by decide +kernel
theorem dX9_cool_11 : decode cX9_cool 11 = .ok (.iconst (-1), 1) := by decide +kernel
theorem dX9_cool_12 : decode cX9_cool 12 = .ok (.ireturn, 1) := by decide +kernel
theorem dX9_cool_13 : decode cX9_cool 13 = .ok (.iconst 0, 1) := by decide +kernel
theorem dX9_cool_14 : decode cX9_cool 14 = .ok (.istore_n 2, 1) := by decide +kernel
theorem dX9_cool_15 : decode cX9_cool 15 = .ok (.iload_n 2, 1) := by decide +kernel
theorem dX9_cool_16 : decode cX9_cool 16 = .ok (.iload_n 1, 1) := by decide +kernel
theorem dX9_cool_17 : decode cX9_cool 17 = .ok (.if_icmp .ge 13, 3) := by decide +kernel
theorem dX9_cool_20 : decode cX9_cool 20 = .ok (.aload_n 0, 1) := by decide +kernel
theorem dX9_cool_21 : decode cX9_cool 21 = .ok (.invokevirtual 207, 3) := by decide +kernel
theorem dX9_cool_24 : decode cX9_cool 24 = .ok (.iinc 2 1, 3) := by decide +kernel
theorem dX9_cool_27 : decode cX9_cool 27 = .ok (.goto (-12), 3) := by decide +kernel
theorem dX9_cool_30 : decode cX9_cool 30 = .ok (.aload_n 0, 1) := by decide +kernel
theorem dX9_cool_31 : decode cX9_cool 31 = .ok (.bipush 8, 2) := by decide +kernel
theorem dX9_cool_33 : decode cX9_cool 33 = .ok (.invokevirtual 210, 3) := by decide +kernel
theorem dX9_cool_36 : decode cX9_cool 36 = .ok (.ireturn, 1) := by decide +kernel
theorem dX9_still_0 : decode cX9_still 0 = .ok (.iload_n 1, 1) := by decide +kernel
theorem dX9_still_1 : decode cX9_still 1 = .ok (.iconst 0, 1) := by decide +kernel
theorem dX9_still_2 : decode cX9_still 2 = .ok (.ldc 135, 2) := by decide +kernel
theorem dX9_still_4 : decode cX9_still 4 = .ok (.invokestatic 116, 3) := by decide +kernel
theorem dX9_still_7 : decode cX9_still 7 = .ok (.ifCond .ne 5, 3) := by decide +kernel
theorem dX9_still_10 : decode cX9_still 10 = .ok (.iconst (-1), 1) := by decide +kernel
theorem dX9_still_11 : decode cX9_still 11 = .ok (.ireturn, 1) := by decide +kernel
theorem dX9_still_12 : decode cX9_still 12 = .ok (.iconst 0, 1) := by decide +kernel
theorem dX9_still_13 : decode cX9_still 13 = .ok (.istore_n 2, 1) := by decide +kernel
theorem dX9_still_14 : decode cX9_still 14 = .ok (.iload_n 2, 1) := by decide +kernel
theorem dX9_still_15 : decode cX9_still 15 = .ok (.bipush 9, 2) := by decide +kernel
theorem dX9_still_17 : decode cX9_still 17 = .ok (.if_icmp .ge 21, 3) := by decide +kernel
theorem dX9_still_20 : decode cX9_still 20 = .ok (.aload_n 0, 1) := by decide +kernel
theorem dX9_still_21 : decode cX9_still 21 = .ok (.getfield 99, 3) := by decide +kernel
theorem dX9_still_24 : decode cX9_still 24 = .ok (.iload_n 2, 1) := by decide +kernel
theorem dX9_still_25 : decode cX9_still 25 = .ok (.aload_n 0, 1) := by decide +kernel
theorem dX9_still_26 : decode cX9_still 26 = .ok (.getfield 65, 3) := by decide +kernel
theorem dX9_still_29 : decode cX9_still 29 = .ok (.iload_n 2, 1) := by decide +kernel
theorem dX9_still_30 : decode cX9_still 30 = .ok (.iaload, 1) := by decide +kernel
theorem dX9_still_31 : decode cX9_still 31 = .ok (.iastore, 1) := by decide +kernel
theorem dX9_still_32 : decode cX9_still 32 = .ok (.iinc 2 1, 3) := by decide +kernel
theorem dX9_still_35 : decode cX9_still 35 = .ok (.goto (-21), 3) := by decide +kernel
theorem dX9_still_38 : decode cX9_still 38 = .ok (.iconst 0, 1) := by decide +kernel
theorem dX9_still_39 : decode cX9_still 39 = .ok (.istore_n 2, 1) := by decide +kernel
theorem dX9_still_40 : decode cX9_still 40 = .ok (.iload_n 2, 1) := by decide +kernel
theorem dX9_still_41 : decode cX9_still 41 = .ok (.sipush 2000, 3) := by decide +kernel
theorem dX9_still_44 : decode cX9_still 44 = .ok (.if_icmp .gt 23, 3) := by decide +kernel
theorem dX9_still_47 : decode cX9_still 47 = .ok (.aload_n 0, 1) := by decide +kernel
theorem dX9_still_48 : decode cX9_still 48 = .ok (.bipush 9, 2) := by decide +kernel
theorem dX9_still_50 : decode cX9_still 50 = .ok (.invokevirtual 210, 3) := by decide +kernel
theorem dX9_still_53 : decode cX9_still 53 = .ok (.iload_n 1, 1) := by decide +kernel
theorem dX9_still_54 : decode cX9_still 54 = .ok (.if_icmp .le 13, 3) := by decide +kernel
theorem dX9_still_57 : decode cX9_still 57 = .ok (.aload_n 0, 1) := by decide +kernel
theorem dX9_still_58 : decode cX9_still 58 = .ok (.invokevirtual 207, 3) := by decide +kernel
theorem dX9_still_61 : decode cX9_still 61 = .ok (.iinc 2 1, 3) := by decide +kernel
theorem dX9_still_64 : decode cX9_still 64 = .ok (.goto (-24), 3) := by decide +kernel
theorem dX9_still_67 : decode cX9_still 67 = .ok (.iconst 0, 1) := by decide +kernel
theorem dX9_still_68 : decode cX9_still 68 = .ok (.istore_n 3, 1) := by decide +kernel
theorem dX9_still_69 : decode cX9_still 69 = .ok (.iload_n 3, 1) := by decide +kernel
theorem dX9_still_70 : decode cX9_still 70 = .ok (.bipush 9, 2) := by decide +kernel
theorem dX9_still_72 : decode cX9_still 72 = .ok (.if_icmp .ge 21, 3) := by decide +kernel
theorem dX9_still_75 : decode cX9_still 75 = .ok (.aload_n 0, 1) := by decide +kernel
theorem dX9_still_76 : decode cX9_still 76 = .ok (.getfield 65, 3) := by decide +kernel
theorem dX9_still_79 : decode cX9_still 79 = .ok (.iload_n 3, 1) := by decide +kernel
theorem dX9_still_80 : decode cX9_still 80 = .ok (.aload_n 0, 1) := by decide +kernel
theorem dX9_still_81 : decode cX9_still 81 = .ok (.getfield 99, 3) := by decide +kernel
theorem dX9_still_84 : decode cX9_still 84 = .ok (.iload_n 3, 1) := by decide +kernel
theorem dX9_still_85 : decode cX9_still 85 = .ok (.iaload, 1) := by decide +kernel
theorem dX9_still_86 : decode cX9_still 86 = .ok (.iastore, 1) := by decide +kernel
theorem dX9_still_87 : decode cX9_still 87 = .ok (.iinc 3 1, 3) := by decide +kernel
theorem dX9_still_90 : decode cX9_still 90 = .ok (.goto (-21), 3) := by decide +kernel
theorem dX9_still_93 : decode cX9_still 93 = .ok (.iload_n 2, 1) := by decide +kernel
theorem dX9_still_94 : decode cX9_still 94 = .ok (.sipush 2000, 3) := by decide +kernel
theorem dX9_still_97 : decode cX9_still 97 = .ok (.if_icmp .le 8, 3) := by decide +kernel
theorem dX9_still_100 : decode cX9_still 100 = .ok (.bipush (-4), 2) := by decide +kernel
theorem dX9_still_102 : decode cX9_still 102 = .ok (.goto 4, 3) := by decide +kernel
theorem dX9_still_105 : decode cX9_still 105 = .ok (.iload_n 2, 1) := by decide +kernel
theorem dX9_still_106 : decode cX9_still 106 = .ok (.ireturn, 1) := by decide +kernel
theorem dX9_warmth_0 : decode cX9_warmth 0 = .ok (.iload_n 1, 1) := by decide +kernel
theorem dX9_warmth_1 : decode cX9_warmth 1 = .ok (.iconst 0, 1) := by decide +kernel
theorem dX9_warmth_2 : decode cX9_warmth 2 = .ok (.bipush 8, 2) := by decide +kernel
theorem dX9_warmth_4 : decode cX9_warmth 4 = .ok (.invokestatic 116, 3) := by decide +kernel
theorem dX9_warmth_7 : decode cX9_warmth 7 = .ok (.ifCond .eq 12, 3) := by decide +kernel
theorem dX9_warmth_10 : decode cX9_warmth 10 = .ok (.aload_n 0, 1) := by decide +kernel
theorem dX9_warmth_11 : decode cX9_warmth 11 = .ok (.getfield 65, 3) := by decide +kernel
theorem dX9_warmth_14 : decode cX9_warmth 14 = .ok (.iload_n 1, 1) := by decide +kernel
theorem dX9_warmth_15 : decode cX9_warmth 15 = .ok (.iaload, 1) := by decide +kernel
theorem dX9_warmth_16 : decode cX9_warmth 16 = .ok (.goto 5, 3) := by decide +kernel
theorem dX9_warmth_19 : decode cX9_warmth 19 = .ok (.ldc 136, 2) := by decide +kernel
theorem dX9_warmth_21 : decode cX9_warmth 21 = .ok (.ireturn, 1) := by decide +kernel
theorem dX9_grit_0 : decode cX9_grit 0 = .ok (.iload_n 1, 1) := by decide +kernel
theorem dX9_grit_1 : decode cX9_grit 1 = .ok (.iconst 1, 1) := by decide +kernel
theorem dX9_grit_2 : decode cX9_grit 2 = .ok (.bipush 100, 2) := by decide +kernel
theorem dX9_grit_4 : decode cX9_grit 4 = .ok (.invokestatic 116, 3) := by decide +kernel
theorem dX9_grit_7 : decode cX9_grit 7 = .ok (.ifCond .eq 14, 3) := by decide +kernel
theorem dX9_grit_10 : decode cX9_grit 10 = .ok (.iload_n 2, 1) := by decide +kernel
theorem dX9_grit_11 : decode cX9_grit 11 = .ok (.iconst 0, 1) := by decide +kernel
theorem dX9_grit_12 : decode cX9_grit 12 = .ok (.sipush 200, 3) := by decide +kernel
theorem dX9_grit_15 : decode cX9_grit 15 = .ok (.invokestatic 116, 3) := by decide +kernel
theorem dX9_grit_18 : decode cX9_grit 18 = .ok (.ifCond .ne 5, 3) := by decide +kernel
theorem dX9_grit_21 : decode cX9_grit 21 = .ok (.iconst (-1), 1) := by decide +kernel
theorem dX9_grit_22 : decode cX9_grit 22 = .ok (.ireturn, 1) := by decide +kernel
theorem dX9_grit_23 : decode cX9_grit 23 = .ok (.aload_n 0, 1) := by decide +kernel
theorem dX9_grit_24 : decode cX9_grit 24 = .ok (.getfield 213, 3) := by decide +kernel
theorem dX9_grit_27 : decode cX9_grit 27 = .ok (.bipush 6, 2) := by decide +kernel
theorem dX9_grit_29 : decode cX9_grit 29 = .ok (.if_icmp .ne 6, 3) := by decide +kernel
theorem dX9_grit_32 : decode cX9_grit 32 = .ok (.bipush (-3), 2) := by decide +kernel
theorem dX9_grit_34 : decode cX9_grit 34 = .ok (.ireturn, 1) := by decide +kernel
theorem dX9_grit_35 : decode cX9_grit 35 = .ok (.aload_n 0, 1) := by decide +kernel
theorem dX9_grit_36 : decode cX9_grit 36 = .ok (.getfield 68, 3) := by decide +kernel
theorem dX9_grit_39 : decode cX9_grit 39 = .ok (.aload_n 0, 1) := by decide +kernel
theorem dX9_grit_40 : decode cX9_grit 40 = .ok (.getfield 213, 3) := by decide +kernel
theorem dX9_grit_43 : decode cX9_grit 43 = .ok (.iload_n 1, 1) := by decide +kernel
theorem dX9_grit_44 : decode cX9_grit 44 = .ok (.iastore, 1) := by decide +kernel
theorem dX9_grit_45 : decode cX9_grit 45 = .ok (.aload_n 0, 1) := by decide +kernel
theorem dX9_grit_46 : decode cX9_grit 46 = .ok (.getfield 71, 3) := by decide +kernel
theorem dX9_grit_49 : decode cX9_grit 49 = .ok (.aload_n 0, 1) := by decide +kernel
theorem dX9_grit_50 : decode cX9_grit 50 = .ok (.getfield 213, 3) := by decide +kernel
theorem dX9_grit_53 : decode cX9_grit 53 = .ok (.iload_n 2, 1) := by decide +kernel
theorem dX9_grit_54 : decode cX9_grit 54 = .ok (.iastore, 1) := by decide +kernel
theorem dX9_grit_55 : decode cX9_grit 55 = .ok (.aload_n 0, 1) := by decide +kernel
theorem dX9_grit_56 : decode cX9_grit 56 = .ok (.dup, 1) := by decide +kernel
theorem dX9_grit_57 : decode cX9_grit 57 = .ok (.getfield 213, 3) := by decide +kernel
theorem dX9_grit_60 : decode cX9_grit 60 = .ok (.iconst 1, 1) := by decide +kernel
theorem dX9_grit_61 : decode cX9_grit 61 = .ok (.iadd, 1) := by decide +kernel
theorem dX9_grit_62 : decode cX9_grit 62 = .ok (.putfield 213, 3) := by decide +kernel
theorem dX9_grit_65 : decode cX9_grit 65 = .ok (.aload_n 0, 1) := by decide +kernel
theorem dX9_grit_66 : decode cX9_grit 66 = .ok (.getfield 213, 3) := by decide +kernel
theorem dX9_grit_69 : decode cX9_grit 69 = .ok (.iconst 1, 1) := by decide +kernel
theorem dX9_grit_70 : decode cX9_grit 70 = .ok (.isub, 1) := by decide +kernel
theorem dX9_grit_71 : decode cX9_grit 71 = .ok (.ireturn, 1) := by decide +kernel
theorem dX9_slack_0 : decode cX9_slack 0 = .ok (.iload_n 1, 1) := by decide +kernel
theorem dX9_slack_1 : decode cX9_slack 1 = .ok (.iconst 0, 1) := by decide +kernel
theorem dX9_slack_2 : decode cX9_slack 2 = .ok (.bipush 100, 2) := by decide +kernel
theorem dX9_slack_4 : decode cX9_slack 4 = .ok (.invokestatic 116, 3) := by decide +kernel
theorem dX9_slack_7 : decode cX9_slack 7 = .ok (.ifCond .ne 5, 3) := by decide +kernel
theorem dX9_slack_10 : decode cX9_slack 10 = .ok (.iconst (-1), 1) := by decide +kernel
theorem dX9_slack_11 : decode cX9_slack 11 = .ok (.ireturn, 1) := by decide +kernel
theorem dX9_slack_12 : decode cX9_slack 12 = .ok (.aload_n 0, 1) := by decide +kernel
theorem dX9_slack_13 : decode cX9_slack 13 = .ok (.getfield 216, 3) := by decide +kernel
theorem dX9_slack_16 : decode cX9_slack 16 = .ok (.istore_n 2, 1) := by decide +kernel
theorem dX9_slack_17 : decode cX9_slack 17 = .ok (.aload_n 0, 1) := by decide +kernel
theorem dX9_slack_18 : decode cX9_slack 18 = .ok (.iload_n 1, 1) := by decide +kernel
theorem dX9_slack_19 : decode cX9_slack 19 = .ok (.putfield 216, 3) := by decide +kernel
theorem dX9_slack_22 : decode cX9_slack 22 = .ok (.iload_n 2, 1) := by decide +kernel
theorem dX9_slack_23 : decode cX9_slack 23 = .ok (.ireturn, 1) := by decide +kernel
theorem dX9_cell_0 : decode cX9_cell 0 = .ok (.bipush 7, 2) := by decide +kernel
theorem dX9_cell_2 : decode cX9_cell 2 = .ok (.iload_n 0, 1) := by decide +kernel
theorem dX9_cell_3 : decode cX9_cell 3 = .ok (.imul, 1) := by decide +kernel
theorem dX9_cell_4 : decode cX9_cell 4 = .ok (.iload_n 1, 1) := by decide +kernel
theorem dX9_cell_5 : decode cX9_cell 5 = .ok (.iadd, 1) := by decide +kernel
theorem dX9_cell_6 : decode cX9_cell 6 = .ok (.sipush 2101, 3) := by decide +kernel
theorem dX9_cell_9 : decode cX9_cell 9 = .ok (.imul, 1) := by decide +kernel
theorem dX9_cell_10 : decode cX9_cell 10 = .ok (.iload_n 2, 1) := by decide +kernel
theorem dX9_cell_11 : decode cX9_cell 11 = .ok (.iadd, 1) := by decide +kernel
theorem dX9_cell_12 : decode cX9_cell 12 = .ok (.ireturn, 1) := by decide +kernel
theorem dX9_with_0 : decode cX9_with 0 = .ok (.iload_n 3, 1) := by decide +kernel
theorem dX9_with_1 : decode cX9_with 1 = .ok (.iload 4, 2) := by decide +kernel
theorem dX9_with_3 : decode cX9_with 3 = .ok (.aload_n 0, 1) := by decide +kernel
theorem dX9_with_4 : decode cX9_with 4 = .ok (.getfield 68, 3) := by decide +kernel
theorem dX9_with_7 : decode cX9_with 7 = .ok (.iload_n 1, 1) := by decide +kernel
theorem dX9_with_8 : decode cX9_with 8 = .ok (.iaload, 1) := by decide +kernel
theorem dX9_with_9 : decode cX9_with 9 = .ok (.imul, 1) := by decide +kernel
theorem dX9_with_10 : decode cX9_with 10 = .ok (.iadd, 1) := by decide +kernel
theorem dX9_with_11 : decode cX9_with 11 = .ok (.istore 6, 2) := by decide +kernel
theorem dX9_with_13 : decode cX9_with 13 = .ok (.iload 6, 2) := by decide +kernel
theorem dX9_with_15 : decode cX9_with 15 = .ok (.iload 5, 2) := by decide +kernel
theorem dX9_with_17 : decode cX9_with 17 = .ok (.if_icmp .gt 49, 3) := by decide +kernel
theorem dX9_with_20 : decode cX9_with 20 = .ok (.iload 4, 2) := by decide +kernel
theorem dX9_with_22 : decode cX9_with 22 = .ok (.ifCond .le 29, 3) := by decide +kernel
theorem dX9_with_25 : decode cX9_with 25 = .ok (.iload_n 2, 1) := by decide +kernel
theorem dX9_with_26 : decode cX9_with 26 = .ok (.bipush 6, 2) := by decide +kernel
theorem dX9_with_28 : decode cX9_with 28 = .ok (.if_icmp .ge 23, 3) := by decide +kernel
theorem dX9_with_31 : decode cX9_with 31 = .ok (.iload 4, 2) := by decide +kernel
theorem dX9_with_33 : decode cX9_with 33 = .ok (.aload_n 0, 1) := by decide +kernel
theorem dX9_with_34 : decode cX9_with 34 = .ok (.getfield 68, 3) := by decide +kernel
theorem dX9_with_37 : decode cX9_with 37 = .ok (.iload_n 1, 1) := by decide +kernel
theorem dX9_with_38 : decode cX9_with 38 = .ok (.iaload, 1) := by decide +kernel
theorem dX9_with_39 : decode cX9_with 39 = .ok (.imul, 1) := by decide +kernel
theorem dX9_with_40 : decode cX9_with 40 = .ok (.iconst 3, 1) := by decide +kernel
theorem dX9_with_41 : decode cX9_with 41 = .ok (.aload_n 0, 1) := by decide +kernel
theorem dX9_with_42 : decode cX9_with 42 = .ok (.getfield 71, 3) := by decide +kernel
theorem dX9_with_45 : decode cX9_with 45 = .ok (.iload_n 2, 1) := by decide +kernel
theorem dX9_with_46 : decode cX9_with 46 = .ok (.iaload, 1) := by decide +kernel
theorem dX9_with_47 : decode cX9_with 47 = .ok (.imul, 1) := by decide +kernel
theorem dX9_with_48 : decode cX9_with 48 = .ok (.if_icmp .lt 18, 3) := by decide +kernel
theorem dX9_with_51 : decode cX9_with 51 = .ok (.iload 4, 2) := by decide +kernel
theorem dX9_with_53 : decode cX9_with 53 = .ok (.ifCond .ne 16, 3) := by decide +kernel
theorem dX9_with_56 : decode cX9_with 56 = .ok (.iload_n 1, 1) := by decide +kernel
theorem dX9_with_57 : decode cX9_with 57 = .ok (.aload_n 0, 1) := by decide +kernel
theorem dX9_with_58 : decode cX9_with 58 = .ok (.getfield 213, 3) := by decide +kernel
theorem dX9_with_61 : decode cX9_with 61 = .ok (.iconst 1, 1) := by decide +kernel
theorem dX9_with_62 : decode cX9_with 62 = .ok (.isub, 1) := by decide +kernel
theorem dX9_with_63 : decode cX9_with 63 = .ok (.if_icmp .ne 6, 3) := by decide +kernel
theorem dX9_with_66 : decode cX9_with 66 = .ok (.ldc 162, 2) := by decide +kernel
theorem dX9_with_68 : decode cX9_with 68 = .ok (.ireturn, 1) := by decide +kernel
theorem dX9_with_69 : decode cX9_with 69 = .ok (.aload_n 0, 1) := by decide +kernel
theorem dX9_with_70 : decode cX9_with 70 = .ok (.getfield 103, 3) := by decide +kernel
theorem dX9_with_73 : decode cX9_with 73 = .ok (.iload_n 1, 1) := by decide +kernel
theorem dX9_with_74 : decode cX9_with 74 = .ok (.iconst 1, 1) := by decide +kernel
theorem dX9_with_75 : decode cX9_with 75 = .ok (.iadd, 1) := by decide +kernel
theorem dX9_with_76 : decode cX9_with 76 = .ok (.iload 4, 2) := by decide +kernel
theorem dX9_with_78 : decode cX9_with 78 = .ok (.ifCond .le 7, 3) := by decide +kernel
theorem dX9_with_81 : decode cX9_with 81 = .ok (.iload_n 1, 1) := by decide +kernel
theorem dX9_with_82 : decode cX9_with 82 = .ok (.goto 4, 3) := by decide +kernel
theorem dX9_with_85 : decode cX9_with 85 = .ok (.iload_n 2, 1) := by decide +kernel
theorem dX9_with_86 : decode cX9_with 86 = .ok (.iload 6, 2) := by decide +kernel
theorem dX9_with_88 : decode cX9_with 88 = .ok (.invokestatic 219, 3) := by decide +kernel
theorem dX9_with_91 : decode cX9_with 91 = .ok (.iaload, 1) := by decide +kernel
theorem dX9_with_92 : decode cX9_with 92 = .ok (.iload 4, 2) := by decide +kernel
theorem dX9_with_94 : decode cX9_with 94 = .ok (.iadd, 1) := by decide +kernel
theorem dX9_with_95 : decode cX9_with 95 = .ok (.ireturn, 1) := by decide +kernel
theorem dX9_wetsBy_0 : decode cX9_wetsBy 0 = .ok (.iload_n 1, 1) := by decide +kernel
theorem dX9_wetsBy_1 : decode cX9_wetsBy 1 = .ok (.aload_n 0, 1) := by decide +kernel
theorem dX9_wetsBy_2 : decode cX9_wetsBy 2 = .ok (.getfield 216, 3) := by decide +kernel
theorem dX9_wetsBy_5 : decode cX9_wetsBy 5 = .ok (.iadd, 1) := by decide +kernel
theorem dX9_wetsBy_6 : decode cX9_wetsBy 6 = .ok (.istore_n 2, 1) := by decide +kernel
theorem dX9_wetsBy_7 : decode cX9_wetsBy 7 = .ok (.aload_n 0, 1) := by decide +kernel
theorem dX9_wetsBy_8 : decode cX9_wetsBy 8 = .ok (.getfield 213, 3) := by decide +kernel
theorem dX9_wetsBy_11 : decode cX9_wetsBy 11 = .ok (.istore_n 3, 1) := by decide +kernel
theorem dX9_wetsBy_12 : decode cX9_wetsBy 12 = .ok (.iload_n 3, 1) := by decide +kernel
theorem dX9_wetsBy_13 : decode cX9_wetsBy 13 = .ok (.ifCond .lt 147, 3) := by decide +kernel
theorem dX9_wetsBy_16 : decode cX9_wetsBy 16 = .ok (.iconst 0, 1) := by decide +kernel
theorem dX9_wetsBy_17 : decode cX9_wetsBy 17 = .ok (.istore 4, 2) := by decide +kernel
theorem dX9_wetsBy_19 : decode cX9_wetsBy 19 = .ok (.iload 4, 2) := by decide +kernel
theorem dX9_wetsBy_21 : decode cX9_wetsBy 21 = .ok (.bipush 7, 2) := by decide +kernel
theorem dX9_wetsBy_23 : decode cX9_wetsBy 23 = .ok (.if_icmp .ge 131, 3) := by decide +kernel
theorem dX9_wetsBy_26 : decode cX9_wetsBy 26 = .ok (.iconst 0, 1) := by decide +kernel
theorem dX9_wetsBy_27 : decode cX9_wetsBy 27 = .ok (.istore 5, 2) := by decide +kernel
theorem dX9_wetsBy_29 : decode cX9_wetsBy 29 = .ok (.iload 5, 2) := by decide +kernel
theorem dX9_wetsBy_31 : decode cX9_wetsBy 31 = .ok (.iload_n 2, 1) := by decide +kernel
theorem dX9_wetsBy_32 : decode cX9_wetsBy 32 = .ok (.if_icmp .gt 116, 3) := by decide +kernel
theorem dX9_wetsBy_35 : decode cX9_wetsBy 35 = .ok (.iload_n 3, 1) := by decide +kernel
theorem dX9_wetsBy_36 : decode cX9_wetsBy 36 = .ok (.aload_n 0, 1) := by decide +kernel
theorem dX9_wetsBy_37 : decode cX9_wetsBy 37 = .ok (.getfield 213, 3) := by decide +kernel
theorem dX9_wetsBy_40 : decode cX9_wetsBy 40 = .ok (.if_icmp .ne 13, 3) := by decide +kernel
theorem dX9_wetsBy_43 : decode cX9_wetsBy 43 = .ok (.iload 5, 2) := by decide +kernel
theorem dX9_wetsBy_45 : decode cX9_wetsBy 45 = .ok (.iload_n 1, 1) := by decide +kernel
theorem dX9_wetsBy_46 : decode cX9_wetsBy 46 = .ok (.if_icmp .lt 7, 3) := by decide +kernel
theorem dX9_wetsBy_49 : decode cX9_wetsBy 49 = .ok (.iconst 0, 1) := by decide +kernel
theorem dX9_wetsBy_50 : decode cX9_wetsBy 50 = .ok (.goto 5, 3) := by decide +kernel
theorem dX9_wetsBy_53 : decode cX9_wetsBy 53 = .ok (.ldc 162, 2) := by decide +kernel
theorem dX9_wetsBy_55 : decode cX9_wetsBy 55 = .ok (.istore 6, 2) := by decide +kernel
theorem dX9_wetsBy_57 : decode cX9_wetsBy 57 = .ok (.iconst 0, 1) := by decide +kernel
theorem dX9_wetsBy_58 : decode cX9_wetsBy 58 = .ok (.istore 7, 2) := by decide +kernel
theorem dX9_wetsBy_60 : decode cX9_wetsBy 60 = .ok (.iload 7, 2) := by decide +kernel
theorem dX9_wetsBy_62 : decode cX9_wetsBy 62 = .ok (.bipush 30, 2) := by decide +kernel
theorem dX9_wetsBy_64 : decode cX9_wetsBy 64 = .ok (.if_icmp .gt 63, 3) := by decide +kernel
theorem dX9_wetsBy_67 : decode cX9_wetsBy 67 = .ok (.iload_n 3, 1) := by decide +kernel
theorem dX9_wetsBy_68 : decode cX9_wetsBy 68 = .ok (.aload_n 0, 1) := by decide +kernel
theorem dX9_wetsBy_69 : decode cX9_wetsBy 69 = .ok (.getfield 213, 3) := by decide +kernel
theorem dX9_wetsBy_72 : decode cX9_wetsBy 72 = .ok (.if_icmp .ge 55, 3) := by decide +kernel
theorem dX9_wetsBy_75 : decode cX9_wetsBy 75 = .ok (.iload 5, 2) := by decide +kernel
theorem dX9_wetsBy_77 : decode cX9_wetsBy 77 = .ok (.iload 7, 2) := by decide +kernel
theorem dX9_wetsBy_79 : decode cX9_wetsBy 79 = .ok (.aload_n 0, 1) := by decide +kernel
theorem dX9_wetsBy_80 : decode cX9_wetsBy 80 = .ok (.getfield 68, 3) := by decide +kernel
theorem dX9_wetsBy_83 : decode cX9_wetsBy 83 = .ok (.iload_n 3, 1) := by decide +kernel
theorem dX9_wetsBy_84 : decode cX9_wetsBy 84 = .ok (.iaload, 1) := by decide +kernel
theorem dX9_wetsBy_85 : decode cX9_wetsBy 85 = .ok (.imul, 1) := by decide +kernel
theorem dX9_wetsBy_86 : decode cX9_wetsBy 86 = .ok (.iadd, 1) := by decide +kernel
theorem dX9_wetsBy_87 : decode cX9_wetsBy 87 = .ok (.iload_n 2, 1) := by decide +kernel
theorem dX9_wetsBy_88 : decode cX9_wetsBy 88 = .ok (.if_icmp .gt 39, 3) := by decide +kernel
theorem dX9_wetsBy_91 : decode cX9_wetsBy 91 = .ok (.aload_n 0, 1) := by decide +kernel
theorem dX9_wetsBy_92 : decode cX9_wetsBy 92 = .ok (.iload_n 3, 1) := by decide +kernel
theorem dX9_wetsBy_93 : decode cX9_wetsBy 93 = .ok (.iload 4, 2) := by decide +kernel
theorem dX9_wetsBy_95 : decode cX9_wetsBy 95 = .ok (.iload 5, 2) := by decide +kernel
theorem dX9_wetsBy_97 : decode cX9_wetsBy 97 = .ok (.iload 7, 2) := by decide +kernel
theorem dX9_wetsBy_99 : decode cX9_wetsBy 99 = .ok (.iload_n 2, 1) := by decide +kernel
theorem dX9_wetsBy_100 : decode cX9_wetsBy 100 = .ok (.invokevirtual 223, 3) := by decide +kernel
theorem dX9_wetsBy_103 : decode cX9_wetsBy 103 = .ok (.istore 8, 2) := by decide +kernel
theorem dX9_wetsBy_105 : decode cX9_wetsBy 105 = .ok (.iload 8, 2) := by decide +kernel
theorem dX9_wetsBy_107 : decode cX9_wetsBy 107 = .ok (.iload 6, 2) := by decide +kernel
theorem dX9_wetsBy_109 : decode cX9_wetsBy 109 = .ok (.if_icmp .ge 8, 3) := by decide +kernel
theorem dX9_wetsBy_112 : decode cX9_wetsBy 112 = .ok (.iload 8, 2) := by decide +kernel
theorem dX9_wetsBy_114 : decode cX9_wetsBy 114 = .ok (.goto 5, 3) := by decide +kernel
theorem dX9_wetsBy_117 : decode cX9_wetsBy 117 = .ok (.iload 6, 2) := by decide +kernel
theorem dX9_wetsBy_119 : decode cX9_wetsBy 119 = .ok (.istore 6, 2) := by decide +kernel
theorem dX9_wetsBy_121 : decode cX9_wetsBy 121 = .ok (.iinc 7 1, 3) := by decide +kernel
theorem dX9_wetsBy_124 : decode cX9_wetsBy 124 = .ok (.goto (-64), 3) := by decide +kernel
theorem dX9_wetsBy_127 : decode cX9_wetsBy 127 = .ok (.aload_n 0, 1) := by decide +kernel
theorem dX9_wetsBy_128 : decode cX9_wetsBy 128 = .ok (.getfield 103, 3) := by decide +kernel
theorem dX9_wetsBy_131 : decode cX9_wetsBy 131 = .ok (.iload_n 3, 1) := by decide +kernel
theorem dX9_wetsBy_132 : decode cX9_wetsBy 132 = .ok (.iload 4, 2) := by decide +kernel
theorem dX9_wetsBy_134 : decode cX9_wetsBy 134 = .ok (.iload 5, 2) := by decide +kernel
theorem dX9_wetsBy_136 : decode cX9_wetsBy 136 = .ok (.invokestatic 219, 3) := by decide +kernel
theorem dX9_wetsBy_139 : decode cX9_wetsBy 139 = .ok (.iload 6, 2) := by decide +kernel
theorem dX9_wetsBy_141 : decode cX9_wetsBy 141 = .ok (.iastore, 1) := by decide +kernel
theorem dX9_wetsBy_142 : decode cX9_wetsBy 142 = .ok (.iinc 5 1, 3) := by decide +kernel
theorem dX9_wetsBy_145 : decode cX9_wetsBy 145 = .ok (.goto (-116), 3) := by decide +kernel
theorem dX9_wetsBy_148 : decode cX9_wetsBy 148 = .ok (.iinc 4 1, 3) := by decide +kernel
theorem dX9_wetsBy_151 : decode cX9_wetsBy 151 = .ok (.goto (-132), 3) := by decide +kernel
theorem dX9_wetsBy_154 : decode cX9_wetsBy 154 = .ok (.iinc 3 (-1), 3) := by decide +kernel
theorem dX9_wetsBy_157 : decode cX9_wetsBy 157 = .ok (.goto (-145), 3) := by decide +kernel
theorem dX9_wetsBy_160 : decode cX9_wetsBy 160 = .ok (.return_, 1) := by decide +kernel
theorem dX9_wets_0 : decode cX9_wets 0 = .ok (.iload_n 1, 1) := by decide +kernel
theorem dX9_wets_1 : decode cX9_wets 1 = .ok (.iconst 1, 1) := by decide +kernel
theorem dX9_wets_2 : decode cX9_wets 2 = .ok (.sipush 2000, 3) := by decide +kernel
theorem dX9_wets_5 : decode cX9_wets 5 = .ok (.invokestatic 116, 3) := by decide +kernel
theorem dX9_wets_8 : decode cX9_wets 8 = .ok (.ifCond .eq 17, 3) := by decide +kernel
theorem dX9_wets_11 : decode cX9_wets 11 = .ok (.iload_n 2, 1) := by decide +kernel
theorem dX9_wets_12 : decode cX9_wets 12 = .ok (.iconst (-1), 1) := by decide +kernel
theorem dX9_wets_13 : decode cX9_wets 13 = .ok (.aload_n 0, 1) := by decide +kernel
theorem dX9_wets_14 : decode cX9_wets 14 = .ok (.getfield 213, 3) := by decide +kernel
theorem dX9_wets_17 : decode cX9_wets 17 = .ok (.iconst 1, 1) := by decide +kernel
theorem dX9_wets_18 : decode cX9_wets 18 = .ok (.isub, 1) := by decide +kernel
theorem dX9_wets_19 : decode cX9_wets 19 = .ok (.invokestatic 116, 3) := by decide +kernel
theorem dX9_wets_22 : decode cX9_wets 22 = .ok (.ifCond .ne 5, 3) := by decide +kernel
theorem dX9_wets_25 : decode cX9_wets 25 = .ok (.iconst (-1), 1) := by decide +kernel
theorem dX9_wets_26 : decode cX9_wets 26 = .ok (.ireturn, 1) := by decide +kernel
theorem dX9_wets_27 : decode cX9_wets 27 = .ok (.aload_n 0, 1) := by decide +kernel
theorem dX9_wets_28 : decode cX9_wets 28 = .ok (.iload_n 1, 1) := by decide +kernel
theorem dX9_wets_29 : decode cX9_wets 29 = .ok (.invokevirtual 227, 3) := by decide +kernel
theorem dX9_wets_32 : decode cX9_wets 32 = .ok (.aload_n 0, 1) := by decide +kernel
theorem dX9_wets_33 : decode cX9_wets 33 = .ok (.getfield 213, 3) := by decide +kernel
theorem dX9_wets_36 : decode cX9_wets 36 = .ok (.ifCond .ne 8, 3) := by decide +kernel
theorem dX9_wets_39 : decode cX9_wets 39 = .ok (.ldc 162, 2) := by decide +kernel
theorem dX9_wets_41 : decode cX9_wets 41 = .ok (.goto 15, 3) := by decide +kernel
theorem dX9_wets_44 : decode cX9_wets 44 = .ok (.aload_n 0, 1) := by decide +kernel
theorem dX9_wets_45 : decode cX9_wets 45 = .ok (.getfield 103, 3) := by decide +kernel
theorem dX9_wets_48 : decode cX9_wets 48 = .ok (.iconst 0, 1) := by decide +kernel
theorem dX9_wets_49 : decode cX9_wets 49 = .ok (.bipush 6, 2) := by decide +kernel
theorem dX9_wets_51 : decode cX9_wets 51 = .ok (.iconst 0, 1) := by decide +kernel
theorem dX9_wets_52 : decode cX9_wets 52 = .ok (.invokestatic 219, 3) := by decide +kernel
theorem dX9_wets_55 : decode cX9_wets 55 = .ok (.iaload, 1) := by decide +kernel
theorem dX9_wets_56 : decode cX9_wets 56 = .ok (.istore_n 3, 1) := by decide +kernel
theorem dX9_wets_57 : decode cX9_wets 57 = .ok (.iload_n 3, 1) := by decide +kernel
theorem dX9_wets_58 : decode cX9_wets 58 = .ok (.ldc 162, 2) := by decide +kernel
theorem dX9_wets_60 : decode cX9_wets 60 = .ok (.if_icmp .lt 6, 3) := by decide +kernel
theorem dX9_wets_63 : decode cX9_wets 63 = .ok (.bipush (-4), 2) := by decide +kernel
theorem dX9_wets_65 : decode cX9_wets 65 = .ok (.ireturn, 1) := by decide +kernel
theorem dX9_wets_66 : decode cX9_wets 66 = .ok (.bipush 6, 2) := by decide +kernel
theorem dX9_wets_68 : decode cX9_wets 68 = .ok (.istore 4, 2) := by decide +kernel
theorem dX9_wets_70 : decode cX9_wets 70 = .ok (.iconst 0, 1) := by decide +kernel
theorem dX9_wets_71 : decode cX9_wets 71 = .ok (.istore 5, 2) := by decide +kernel
theorem dX9_wets_73 : decode cX9_wets 73 = .ok (.iload_n 3, 1) := by decide +kernel
theorem dX9_wets_74 : decode cX9_wets 74 = .ok (.istore 6, 2) := by decide +kernel
theorem dX9_wets_76 : decode cX9_wets 76 = .ok (.iconst 0, 1) := by decide +kernel
theorem dX9_wets_77 : decode cX9_wets 77 = .ok (.istore 7, 2) := by decide +kernel
theorem dX9_wets_79 : decode cX9_wets 79 = .ok (.iload 7, 2) := by decide +kernel
theorem dX9_wets_81 : decode cX9_wets 81 = .ok (.iload_n 2, 1) := by decide +kernel
theorem dX9_wets_82 : decode cX9_wets 82 = .ok (.if_icmp .gt 83, 3) := by decide +kernel
theorem dX9_wets_85 : decode cX9_wets 85 = .ok (.bipush 30, 2) := by decide +kernel
theorem dX9_wets_87 : decode cX9_wets 87 = .ok (.istore 6, 2) := by decide +kernel
theorem dX9_wets_89 : decode cX9_wets 89 = .ok (.aload_n 0, 1) := by decide +kernel
theorem dX9_wets_90 : decode cX9_wets 90 = .ok (.iload 7, 2) := by decide +kernel
theorem dX9_wets_92 : decode cX9_wets 92 = .ok (.iload 4, 2) := by decide +kernel
theorem dX9_wets_94 : decode cX9_wets 94 = .ok (.iload 5, 2) := by decide +kernel
theorem dX9_wets_96 : decode cX9_wets 96 = .ok (.iload 6, 2) := by decide +kernel
theorem dX9_wets_98 : decode cX9_wets 98 = .ok (.iload_n 1, 1) := by decide +kernel
theorem dX9_wets_99 : decode cX9_wets 99 = .ok (.aload_n 0, 1) := by decide +kernel
theorem dX9_wets_100 : decode cX9_wets 100 = .ok (.getfield 216, 3) := by decide +kernel
theorem dX9_wets_103 : decode cX9_wets 103 = .ok (.iadd, 1) := by decide +kernel
theorem dX9_wets_104 : decode cX9_wets 104 = .ok (.invokevirtual 223, 3) := by decide +kernel
theorem dX9_wets_107 : decode cX9_wets 107 = .ok (.aload_n 0, 1) := by decide +kernel
theorem dX9_wets_108 : decode cX9_wets 108 = .ok (.getfield 103, 3) := by decide +kernel
theorem dX9_wets_111 : decode cX9_wets 111 = .ok (.iload 7, 2) := by decide +kernel
theorem dX9_wets_113 : decode cX9_wets 113 = .ok (.iload 4, 2) := by decide +kernel
theorem dX9_wets_115 : decode cX9_wets 115 = .ok (.iload 5, 2) := by decide +kernel
theorem dX9_wets_117 : decode cX9_wets 117 = .ok (.invokestatic 219, 3) := by decide +kernel
theorem dX9_wets_120 : decode cX9_wets 120 = .ok (.iaload, 1) := by decide +kernel
theorem dX9_wets_121 : decode cX9_wets 121 = .ok (.if_icmp .eq 9, 3) := by decide +kernel
theorem dX9_wets_124 : decode cX9_wets 124 = .ok (.iinc 6 (-1), 3) := by decide +kernel
theorem dX9_wets_127 : decode cX9_wets 127 = .ok (.goto (-38), 3) := by decide +kernel
theorem dX9_wets_130 : decode cX9_wets 130 = .ok (.iload 5, 2) := by decide +kernel
theorem dX9_wets_132 : decode cX9_wets 132 = .ok (.iload 6, 2) := by decide +kernel
theorem dX9_wets_134 : decode cX9_wets 134 = .ok (.aload_n 0, 1) := by decide +kernel
theorem dX9_wets_135 : decode cX9_wets 135 = .ok (.getfield 68, 3) := by decide +kernel
theorem dX9_wets_138 : decode cX9_wets 138 = .ok (.iload 7, 2) := by decide +kernel
theorem dX9_wets_140 : decode cX9_wets 140 = .ok (.iaload, 1) := by decide +kernel
theorem dX9_wets_141 : decode cX9_wets 141 = .ok (.imul, 1) := by decide +kernel
theorem dX9_wets_142 : decode cX9_wets 142 = .ok (.iadd, 1) := by decide +kernel
theorem dX9_wets_143 : decode cX9_wets 143 = .ok (.istore 5, 2) := by decide +kernel
theorem dX9_wets_145 : decode cX9_wets 145 = .ok (.iload 6, 2) := by decide +kernel
theorem dX9_wets_147 : decode cX9_wets 147 = .ok (.ifCond .le 8, 3) := by decide +kernel
theorem dX9_wets_150 : decode cX9_wets 150 = .ok (.iload 7, 2) := by decide +kernel
theorem dX9_wets_152 : decode cX9_wets 152 = .ok (.goto 5, 3) := by decide +kernel
theorem dX9_wets_155 : decode cX9_wets 155 = .ok (.iload 4, 2) := by decide +kernel
theorem dX9_wets_157 : decode cX9_wets 157 = .ok (.istore 4, 2) := by decide +kernel
theorem dX9_wets_159 : decode cX9_wets 159 = .ok (.iinc 7 1, 3) := by decide +kernel
theorem dX9_wets_162 : decode cX9_wets 162 = .ok (.goto (-83), 3) := by decide +kernel
theorem dX9_wets_165 : decode cX9_wets 165 = .ok (.iload 6, 2) := by decide +kernel
theorem dX9_wets_167 : decode cX9_wets 167 = .ok (.ireturn, 1) := by decide +kernel
theorem dX9_count_0 : decode cX9_count 0 = .ok (.iconst 0, 1) := by decide +kernel
theorem dX9_count_1 : decode cX9_count 1 = .ok (.istore_n 2, 1) := by decide +kernel
theorem dX9_count_2 : decode cX9_count 2 = .ok (.iconst 0, 1) := by decide +kernel
theorem dX9_count_3 : decode cX9_count 3 = .ok (.istore_n 3, 1) := by decide +kernel
theorem dX9_count_4 : decode cX9_count 4 = .ok (.iconst 0, 1) := by decide +kernel
theorem dX9_count_5 : decode cX9_count 5 = .ok (.istore 4, 2) := by decide +kernel
theorem dX9_count_7 : decode cX9_count 7 = .ok (.iload 4, 2) := by decide +kernel
theorem dX9_count_9 : decode cX9_count 9 = .ok (.bipush 45, 2) := by decide +kernel
theorem dX9_count_11 : decode cX9_count 11 = .ok (.if_icmp .ge 30, 3) := by decide +kernel
theorem dX9_count_14 : decode cX9_count 14 = .ok (.iload_n 2, 1) := by decide +kernel
theorem dX9_count_15 : decode cX9_count 15 = .ok (.aload_n 0, 1) := by decide +kernel
theorem dX9_count_16 : decode cX9_count 16 = .ok (.getfield 29, 3) := by decide +kernel
theorem dX9_count_19 : decode cX9_count 19 = .ok (.iload 4, 2) := by decide +kernel
theorem dX9_count_21 : decode cX9_count 21 = .ok (.iaload, 1) := by decide +kernel
theorem dX9_count_22 : decode cX9_count 22 = .ok (.sipush 5000, 3) := by decide +kernel
theorem dX9_count_25 : decode cX9_count 25 = .ok (.if_icmp .eq 7, 3) := by decide +kernel
theorem dX9_count_28 : decode cX9_count 28 = .ok (.iconst 1, 1) := by decide +kernel
theorem dX9_count_29 : decode cX9_count 29 = .ok (.goto 4, 3) := by decide +kernel
theorem dX9_count_32 : decode cX9_count 32 = .ok (.iconst 0, 1) := by decide +kernel
theorem dX9_count_33 : decode cX9_count 33 = .ok (.iadd, 1) := by decide +kernel
theorem dX9_count_34 : decode cX9_count 34 = .ok (.istore_n 2, 1) := by decide +kernel
theorem dX9_count_35 : decode cX9_count 35 = .ok (.iinc 4 1, 3) := by decide +kernel
theorem dX9_count_38 : decode cX9_count 38 = .ok (.goto (-31), 3) := by decide +kernel
theorem dX9_count_41 : decode cX9_count 41 = .ok (.iconst 0, 1) := by decide +kernel
theorem dX9_count_42 : decode cX9_count 42 = .ok (.istore 4, 2) := by decide +kernel
theorem dX9_count_44 : decode cX9_count 44 = .ok (.iload 4, 2) := by decide +kernel
theorem dX9_count_46 : decode cX9_count 46 = .ok (.aload_n 0, 1) := by decide +kernel
theorem dX9_count_47 : decode cX9_count 47 = .ok (.getfield 113, 3) := by decide +kernel
theorem dX9_count_50 : decode cX9_count 50 = .ok (.if_icmp .ge 19, 3) := by decide +kernel
theorem dX9_count_53 : decode cX9_count 53 = .ok (.iload_n 3, 1) := by decide +kernel
theorem dX9_count_54 : decode cX9_count 54 = .ok (.aload_n 0, 1) := by decide +kernel
theorem dX9_count_55 : decode cX9_count 55 = .ok (.getfield 56, 3) := by decide +kernel
theorem dX9_count_58 : decode cX9_count 58 = .ok (.iload 4, 2) := by decide +kernel
theorem dX9_count_60 : decode cX9_count 60 = .ok (.iaload, 1) := by decide +kernel
theorem dX9_count_61 : decode cX9_count 61 = .ok (.iadd, 1) := by decide +kernel
theorem dX9_count_62 : decode cX9_count 62 = .ok (.istore_n 3, 1) := by decide +kernel
theorem dX9_count_63 : decode cX9_count 63 = .ok (.iinc 4 1, 3) := by decide +kernel
theorem dX9_count_66 : decode cX9_count 66 = .ok (.goto (-22), 3) := by decide +kernel
theorem dX9_count_69 : decode cX9_count 69 = .ok (.iload_n 1, 1) := by decide +kernel
theorem dX9_count_70 : decode cX9_count 70 = .ok (.tableswitch 62 0 5 #[38, 43, 45, 50, 55, 57], 38) := by decide +kernel
theorem dX9_count_108 : decode cX9_count 108 = .ok (.aload_n 0, 1) := by decide +kernel
theorem dX9_count_109 : decode cX9_count 109 = .ok (.getfield 7, 3) := by decide +kernel
theorem dX9_count_112 : decode cX9_count 112 = .ok (.ireturn, 1) := by decide +kernel
theorem dX9_count_113 : decode cX9_count 113 = .ok (.iload_n 2, 1) := by decide +kernel
theorem dX9_count_114 : decode cX9_count 114 = .ok (.ireturn, 1) := by decide +kernel
theorem dX9_count_115 : decode cX9_count 115 = .ok (.aload_n 0, 1) := by decide +kernel
theorem dX9_count_116 : decode cX9_count 116 = .ok (.getfield 110, 3) := by decide +kernel
theorem dX9_count_119 : decode cX9_count 119 = .ok (.ireturn, 1) := by decide +kernel
theorem dX9_count_120 : decode cX9_count 120 = .ok (.aload_n 0, 1) := by decide +kernel
theorem dX9_count_121 : decode cX9_count 121 = .ok (.getfield 113, 3) := by decide +kernel
theorem dX9_count_124 : decode cX9_count 124 = .ok (.ireturn, 1) := by decide +kernel
theorem dX9_count_125 : decode cX9_count 125 = .ok (.iload_n 3, 1) := by decide +kernel
theorem dX9_count_126 : decode cX9_count 126 = .ok (.ireturn, 1) := by decide +kernel
theorem dX9_count_127 : decode cX9_count 127 = .ok (.aload_n 0, 1) := by decide +kernel
theorem dX9_count_128 : decode cX9_count 128 = .ok (.getfield 213, 3) := by decide +kernel
theorem dX9_count_131 : decode cX9_count 131 = .ok (.ireturn, 1) := by decide +kernel
theorem dX9_count_132 : decode cX9_count 132 = .ok (.iconst (-1), 1) := by decide +kernel
theorem dX9_count_133 : decode cX9_count 133 = .ok (.ireturn, 1) := by decide +kernel
theorem dJ6_bitCount_0f7a4_0 : decode cJ6_bitCount_0f7a4 0 = .ok (.iload_n 0, 1) := by decide +kernel
theorem dJ6_bitCount_0f7a4_1 : decode cJ6_bitCount_0f7a4 1 = .ok (.iload_n 0, 1) := by decide +kernel
theorem dJ6_bitCount_0f7a4_2 : decode cJ6_bitCount_0f7a4 2 = .ok (.iconst 1, 1) := by decide +kernel
theorem dJ6_bitCount_0f7a4_3 : decode cJ6_bitCount_0f7a4 3 = .ok (.iushr, 1) := by decide +kernel
theorem dJ6_bitCount_0f7a4_4 : decode cJ6_bitCount_0f7a4 4 = .ok (.ldc_w 265, 3) := by decide +kernel
theorem dJ6_bitCount_0f7a4_7 : decode cJ6_bitCount_0f7a4 7 = .ok (.iand, 1) := by decide +kernel
theorem dJ6_bitCount_0f7a4_8 : decode cJ6_bitCount_0f7a4 8 = .ok (.isub, 1) := by decide +kernel
theorem dJ6_bitCount_0f7a4_9 : decode cJ6_bitCount_0f7a4 9 = .ok (.istore_n 0, 1) := by decide +kernel
theorem dJ6_bitCount_0f7a4_10 : decode cJ6_bitCount_0f7a4 10 = .ok (.iload_n 0, 1) := by decide +kernel
theorem dJ6_bitCount_0f7a4_11 : decode cJ6_bitCount_0f7a4 11 = .ok (.ldc_w 266, 3) := by decide +kernel
theorem dJ6_bitCount_0f7a4_14 : decode cJ6_bitCount_0f7a4 14 = .ok (.iand, 1) := by decide +kernel
theorem dJ6_bitCount_0f7a4_15 : decode cJ6_bitCount_0f7a4 15 = .ok (.iload_n 0, 1) := by decide +kernel
theorem dJ6_bitCount_0f7a4_16 : decode cJ6_bitCount_0f7a4 16 = .ok (.iconst 2, 1) := by decide +kernel
theorem dJ6_bitCount_0f7a4_17 : decode cJ6_bitCount_0f7a4 17 = .ok (.iushr, 1) := by decide +kernel
theorem dJ6_bitCount_0f7a4_18 : decode cJ6_bitCount_0f7a4 18 = .ok (.ldc_w 266, 3) := by decide +kernel
theorem dJ6_bitCount_0f7a4_21 : decode cJ6_bitCount_0f7a4 21 = .ok (.iand, 1) := by decide +kernel
theorem dJ6_bitCount_0f7a4_22 : decode cJ6_bitCount_0f7a4 22 = .ok (.iadd, 1) := by decide +kernel
theorem dJ6_bitCount_0f7a4_23 : decode cJ6_bitCount_0f7a4 23 = .ok (.istore_n 0, 1) := by decide +kernel
theorem dJ6_bitCount_0f7a4_24 : decode cJ6_bitCount_0f7a4 24 = .ok (.iload_n 0, 1) := by decide +kernel
theorem dJ6_bitCount_0f7a4_25 : decode cJ6_bitCount_0f7a4 25 = .ok (.iload_n 0, 1) := by decide +kernel
theorem dJ6_bitCount_0f7a4_26 : decode cJ6_bitCount_0f7a4 26 = .ok (.iconst 4, 1) := by decide +kernel
theorem dJ6_bitCount_0f7a4_27 : decode cJ6_bitCount_0f7a4 27 = .ok (.iushr, 1) := by decide +kernel
theorem dJ6_bitCount_0f7a4_28 : decode cJ6_bitCount_0f7a4 28 = .ok (.iadd, 1) := by decide +kernel
theorem dJ6_bitCount_0f7a4_29 : decode cJ6_bitCount_0f7a4 29 = .ok (.ldc_w 267, 3) := by decide +kernel
theorem dJ6_bitCount_0f7a4_32 : decode cJ6_bitCount_0f7a4 32 = .ok (.iand, 1) := by decide +kernel
theorem dJ6_bitCount_0f7a4_33 : decode cJ6_bitCount_0f7a4 33 = .ok (.istore_n 0, 1) := by decide +kernel
theorem dJ6_bitCount_0f7a4_34 : decode cJ6_bitCount_0f7a4 34 = .ok (.iload_n 0, 1) := by decide +kernel
theorem dJ6_bitCount_0f7a4_35 : decode cJ6_bitCount_0f7a4 35 = .ok (.iload_n 0, 1) := by decide +kernel
theorem dJ6_bitCount_0f7a4_36 : decode cJ6_bitCount_0f7a4 36 = .ok (.bipush 8, 2) := by decide +kernel
theorem dJ6_bitCount_0f7a4_38 : decode cJ6_bitCount_0f7a4 38 = .ok (.iushr, 1) := by decide +kernel
theorem dJ6_bitCount_0f7a4_39 : decode cJ6_bitCount_0f7a4 39 = .ok (.iadd, 1) := by decide +kernel
theorem dJ6_bitCount_0f7a4_40 : decode cJ6_bitCount_0f7a4 40 = .ok (.istore_n 0, 1) := by decide +kernel
theorem dJ6_bitCount_0f7a4_41 : decode cJ6_bitCount_0f7a4 41 = .ok (.iload_n 0, 1) := by decide +kernel
theorem dJ6_bitCount_0f7a4_42 : decode cJ6_bitCount_0f7a4 42 = .ok (.iload_n 0, 1) := by decide +kernel
theorem dJ6_bitCount_0f7a4_43 : decode cJ6_bitCount_0f7a4 43 = .ok (.bipush 16, 2) := by decide +kernel
theorem dJ6_bitCount_0f7a4_45 : decode cJ6_bitCount_0f7a4 45 = .ok (.iushr, 1) := by decide +kernel
theorem dJ6_bitCount_0f7a4_46 : decode cJ6_bitCount_0f7a4 46 = .ok (.iadd, 1) := by decide +kernel
theorem dJ6_bitCount_0f7a4_47 : decode cJ6_bitCount_0f7a4 47 = .ok (.istore_n 0, 1) := by decide +kernel
theorem dJ6_bitCount_0f7a4_48 : decode cJ6_bitCount_0f7a4 48 = .ok (.iload_n 0, 1) := by decide +kernel
theorem dJ6_bitCount_0f7a4_49 : decode cJ6_bitCount_0f7a4 49 = .ok (.bipush 63, 2) := by decide +kernel
theorem dJ6_bitCount_0f7a4_51 : decode cJ6_bitCount_0f7a4 51 = .ok (.iand, 1) := by decide +kernel
theorem dJ6_bitCount_0f7a4_52 : decode cJ6_bitCount_0f7a4 52 = .ok (.ireturn, 1) := by decide +kernel
theorem dJ9_floorDiv_7cf53_0 : decode cJ9_floorDiv_7cf53 0 = .ok (.iload_n 0, 1) := by decide +kernel
theorem dJ9_floorDiv_7cf53_1 : decode cJ9_floorDiv_7cf53 1 = .ok (.iload_n 1, 1) := by decide +kernel
theorem dJ9_floorDiv_7cf53_2 : decode cJ9_floorDiv_7cf53 2 = .ok (.idiv, 1) := by decide +kernel
theorem dJ9_floorDiv_7cf53_3 : decode cJ9_floorDiv_7cf53 3 = .ok (.istore_n 2, 1) := by decide +kernel
theorem dJ9_floorDiv_7cf53_4 : decode cJ9_floorDiv_7cf53 4 = .ok (.iload_n 0, 1) := by decide +kernel
theorem dJ9_floorDiv_7cf53_5 : decode cJ9_floorDiv_7cf53 5 = .ok (.iload_n 1, 1) := by decide +kernel
theorem dJ9_floorDiv_7cf53_6 : decode cJ9_floorDiv_7cf53 6 = .ok (.ixor, 1) := by decide +kernel
theorem dJ9_floorDiv_7cf53_7 : decode cJ9_floorDiv_7cf53 7 = .ok (.ifCond .ge 14, 3) := by decide +kernel
theorem dJ9_floorDiv_7cf53_10 : decode cJ9_floorDiv_7cf53 10 = .ok (.iload_n 2, 1) := by decide +kernel
theorem dJ9_floorDiv_7cf53_11 : decode cJ9_floorDiv_7cf53 11 = .ok (.iload_n 1, 1) := by decide +kernel
theorem dJ9_floorDiv_7cf53_12 : decode cJ9_floorDiv_7cf53 12 = .ok (.imul, 1) := by decide +kernel
theorem dJ9_floorDiv_7cf53_13 : decode cJ9_floorDiv_7cf53 13 = .ok (.iload_n 0, 1) := by decide +kernel
theorem dJ9_floorDiv_7cf53_14 : decode cJ9_floorDiv_7cf53 14 = .ok (.if_icmp .eq 7, 3) := by decide +kernel
theorem dJ9_floorDiv_7cf53_17 : decode cJ9_floorDiv_7cf53 17 = .ok (.iload_n 2, 1) := by decide +kernel
theorem dJ9_floorDiv_7cf53_18 : decode cJ9_floorDiv_7cf53 18 = .ok (.iconst 1, 1) := by decide +kernel
theorem dJ9_floorDiv_7cf53_19 : decode cJ9_floorDiv_7cf53 19 = .ok (.isub, 1) := by decide +kernel
theorem dJ9_floorDiv_7cf53_20 : decode cJ9_floorDiv_7cf53 20 = .ok (.ireturn, 1) := by decide +kernel
theorem dJ9_floorDiv_7cf53_21 : decode cJ9_floorDiv_7cf53 21 = .ok (.iload_n 2, 1) := by decide +kernel
theorem dJ9_floorDiv_7cf53_22 : decode cJ9_floorDiv_7cf53 22 = .ok (.ireturn, 1) := by decide +kernel
theorem dJ9_abs_0f7a4_0 : decode cJ9_abs_0f7a4 0 = .ok (.iload_n 0, 1) := by decide +kernel
theorem dJ9_abs_0f7a4_1 : decode cJ9_abs_0f7a4 1 = .ok (.ifCond .ge 8, 3) := by decide +kernel
theorem dJ9_abs_0f7a4_4 : decode cJ9_abs_0f7a4 4 = .ok (.iload_n 0, 1) := by decide +kernel
theorem dJ9_abs_0f7a4_5 : decode cJ9_abs_0f7a4 5 = .ok (.ineg, 1) := by decide +kernel
theorem dJ9_abs_0f7a4_6 : decode cJ9_abs_0f7a4 6 = .ok (.goto 4, 3) := by decide +kernel
theorem dJ9_abs_0f7a4_9 : decode cJ9_abs_0f7a4 9 = .ok (.iload_n 0, 1) := by decide +kernel
theorem dJ9_abs_0f7a4_10 : decode cJ9_abs_0f7a4 10 = .ok (.ireturn, 1) := by decide +kernel
theorem dJ9_abs_067f4_0 : decode cJ9_abs_067f4 0 = .ok (.lload_n 0, 1) := by decide +kernel
theorem dJ9_abs_067f4_1 : decode cJ9_abs_067f4 1 = .ok (.lconst 0, 1) := by decide +kernel
theorem dJ9_abs_067f4_2 : decode cJ9_abs_067f4 2 = .ok (.lcmp, 1) := by decide +kernel
theorem dJ9_abs_067f4_3 : decode cJ9_abs_067f4 3 = .ok (.ifCond .ge 8, 3) := by decide +kernel
theorem dJ9_abs_067f4_6 : decode cJ9_abs_067f4 6 = .ok (.lload_n 0, 1) := by decide +kernel
theorem dJ9_abs_067f4_7 : decode cJ9_abs_067f4 7 = .ok (.lneg, 1) := by decide +kernel
theorem dJ9_abs_067f4_8 : decode cJ9_abs_067f4 8 = .ok (.goto 4, 3) := by decide +kernel
theorem dJ9_abs_067f4_11 : decode cJ9_abs_067f4 11 = .ok (.lload_n 0, 1) := by decide +kernel
theorem dJ9_abs_067f4_12 : decode cJ9_abs_067f4 12 = .ok (.lreturn, 1) := by decide +kernel
theorem dJ9_max_7cf53_0 : decode cJ9_max_7cf53 0 = .ok (.iload_n 0, 1) := by decide +kernel
theorem dJ9_max_7cf53_1 : decode cJ9_max_7cf53 1 = .ok (.iload_n 1, 1) := by decide +kernel
theorem dJ9_max_7cf53_2 : decode cJ9_max_7cf53 2 = .ok (.if_icmp .lt 7, 3) := by decide +kernel
theorem dJ9_max_7cf53_5 : decode cJ9_max_7cf53 5 = .ok (.iload_n 0, 1) := by decide +kernel
theorem dJ9_max_7cf53_6 : decode cJ9_max_7cf53 6 = .ok (.goto 4, 3) := by decide +kernel
theorem dJ9_max_7cf53_9 : decode cJ9_max_7cf53 9 = .ok (.iload_n 1, 1) := by decide +kernel
theorem dJ9_max_7cf53_10 : decode cJ9_max_7cf53 10 = .ok (.ireturn, 1) := by decide +kernel
theorem dJ9_min_7cf53_0 : decode cJ9_min_7cf53 0 = .ok (.iload_n 0, 1) := by decide +kernel
theorem dJ9_min_7cf53_1 : decode cJ9_min_7cf53 1 = .ok (.iload_n 1, 1) := by decide +kernel
theorem dJ9_min_7cf53_2 : decode cJ9_min_7cf53 2 = .ok (.if_icmp .gt 7, 3) := by decide +kernel
theorem dJ9_min_7cf53_5 : decode cJ9_min_7cf53 5 = .ok (.iload_n 0, 1) := by decide +kernel
theorem dJ9_min_7cf53_6 : decode cJ9_min_7cf53 6 = .ok (.goto 4, 3) := by decide +kernel
theorem dJ9_min_7cf53_9 : decode cJ9_min_7cf53 9 = .ok (.iload_n 1, 1) := by decide +kernel
theorem dJ9_min_7cf53_10 : decode cJ9_min_7cf53 10 = .ok (.ireturn, 1) := by decide +kernel
theorem dJ7_fill_53178_0 : decode cJ7_fill_53178 0 = .ok (.iconst 0, 1) := by decide +kernel
theorem dJ7_fill_53178_1 : decode cJ7_fill_53178 1 = .ok (.istore_n 2, 1) := by decide +kernel
theorem dJ7_fill_53178_2 : decode cJ7_fill_53178 2 = .ok (.aload_n 0, 1) := by decide +kernel
theorem dJ7_fill_53178_3 : decode cJ7_fill_53178 3 = .ok (.arraylength, 1) := by decide +kernel
theorem dJ7_fill_53178_4 : decode cJ7_fill_53178 4 = .ok (.istore_n 3, 1) := by decide +kernel
theorem dJ7_fill_53178_5 : decode cJ7_fill_53178 5 = .ok (.iload_n 2, 1) := by decide +kernel
theorem dJ7_fill_53178_6 : decode cJ7_fill_53178 6 = .ok (.iload_n 3, 1) := by decide +kernel
theorem dJ7_fill_53178_7 : decode cJ7_fill_53178 7 = .ok (.if_icmp .ge 13, 3) := by decide +kernel
theorem dJ7_fill_53178_10 : decode cJ7_fill_53178 10 = .ok (.aload_n 0, 1) := by decide +kernel
theorem dJ7_fill_53178_11 : decode cJ7_fill_53178 11 = .ok (.iload_n 2, 1) := by decide +kernel
theorem dJ7_fill_53178_12 : decode cJ7_fill_53178 12 = .ok (.iload_n 1, 1) := by decide +kernel
theorem dJ7_fill_53178_13 : decode cJ7_fill_53178 13 = .ok (.iastore, 1) := by decide +kernel
theorem dJ7_fill_53178_14 : decode cJ7_fill_53178 14 = .ok (.iinc 2 1, 3) := by decide +kernel
theorem dJ7_fill_53178_17 : decode cJ7_fill_53178 17 = .ok (.goto (-12), 3) := by decide +kernel
theorem dJ7_fill_53178_20 : decode cJ7_fill_53178 20 = .ok (.return_, 1) := by decide +kernel
theorem dL_law_0 : decode cL_law 0 = .ok (.new 7, 3) := by decide +kernel
theorem dL_law_3 : decode cL_law 3 = .ok (.dup, 1) := by decide +kernel
theorem dL_law_4 : decode cL_law 4 = .ok (.invokespecial 9, 3) := by decide +kernel
theorem dL_law_7 : decode cL_law 7 = .ok (.astore_n 1, 1) := by decide +kernel
theorem dL_law_8 : decode cL_law 8 = .ok (.new 10, 3) := by decide +kernel
theorem dL_law_11 : decode cL_law 11 = .ok (.dup, 1) := by decide +kernel
theorem dL_law_12 : decode cL_law 12 = .ok (.invokespecial 12, 3) := by decide +kernel
theorem dL_law_15 : decode cL_law 15 = .ok (.astore_n 2, 1) := by decide +kernel
theorem dL_law_16 : decode cL_law 16 = .ok (.iconst 0, 1) := by decide +kernel
theorem dL_law_17 : decode cL_law 17 = .ok (.istore_n 3, 1) := by decide +kernel
theorem dL_law_18 : decode cL_law 18 = .ok (.iload_n 3, 1) := by decide +kernel
theorem dL_law_19 : decode cL_law 19 = .ok (.aload_n 0, 1) := by decide +kernel
theorem dL_law_20 : decode cL_law 20 = .ok (.arraylength, 1) := by decide +kernel
theorem dL_law_21 : decode cL_law 21 = .ok (.iconst 4, 1) := by decide +kernel
theorem dL_law_22 : decode cL_law 22 = .ok (.isub, 1) := by decide +kernel
theorem dL_law_23 : decode cL_law 23 = .ok (.if_icmp .gt 1022, 3) := by decide +kernel
theorem dL_law_26 : decode cL_law 26 = .ok (.aload_n 0, 1) := by decide +kernel
theorem dL_law_27 : decode cL_law 27 = .ok (.iload_n 3, 1) := by decide +kernel
theorem dL_law_28 : decode cL_law 28 = .ok (.iaload, 1) := by decide +kernel
theorem dL_law_29 : decode cL_law 29 = .ok (.bipush 31, 2) := by decide +kernel
theorem dL_law_31 : decode cL_law 31 = .ok (.iand, 1) := by decide +kernel
theorem dL_law_32 : decode cL_law 32 = .ok (.tableswitch 1007 0 29 #[136, 159, 202, 236, 269, 292, 335, 358, 381, 404, 427, 470, 493, 536, 559, 602, 615, 648, 681, 704, 727, 770, 793, 826, 849, 872, 895, 928, 951, 984], 136) := by decide +kernel
theorem dL_law_168 : decode cL_law 168 = .ok (.aload_n 1, 1) := by decide +kernel
theorem dL_law_169 : decode cL_law 169 = .ok (.aload_n 0, 1) := by decide +kernel
theorem dL_law_170 : decode cL_law 170 = .ok (.iload_n 3, 1) := by decide +kernel
theorem dL_law_171 : decode cL_law 171 = .ok (.iconst 1, 1) := by decide +kernel
theorem dL_law_172 : decode cL_law 172 = .ok (.iadd, 1) := by decide +kernel
theorem dL_law_173 : decode cL_law 173 = .ok (.iaload, 1) := by decide +kernel
theorem dL_law_174 : decode cL_law 174 = .ok (.invokevirtual 13, 3) := by decide +kernel
theorem dL_law_177 : decode cL_law 177 = .ok (.aload_n 2, 1) := by decide +kernel
theorem dL_law_178 : decode cL_law 178 = .ok (.aload_n 0, 1) := by decide +kernel
theorem dL_law_179 : decode cL_law 179 = .ok (.iload_n 3, 1) := by decide +kernel
theorem dL_law_180 : decode cL_law 180 = .ok (.iconst 1, 1) := by decide +kernel
theorem dL_law_181 : decode cL_law 181 = .ok (.iadd, 1) := by decide +kernel
theorem dL_law_182 : decode cL_law 182 = .ok (.iaload, 1) := by decide +kernel
theorem dL_law_183 : decode cL_law 183 = .ok (.invokevirtual 17, 3) := by decide +kernel
theorem dL_law_186 : decode cL_law 186 = .ok (.if_icmp .eq 853, 3) := by decide +kernel
theorem dL_law_189 : decode cL_law 189 = .ok (.iconst 0, 1) := by decide +kernel
theorem dL_law_190 : decode cL_law 190 = .ok (.ireturn, 1) := by decide +kernel
theorem dL_law_191 : decode cL_law 191 = .ok (.aload_n 1, 1) := by decide +kernel
theorem dL_law_192 : decode cL_law 192 = .ok (.aload_n 0, 1) := by decide +kernel
theorem dL_law_193 : decode cL_law 193 = .ok (.iload_n 3, 1) := by decide +kernel
theorem dL_law_194 : decode cL_law 194 = .ok (.iconst 1, 1) := by decide +kernel
theorem dL_law_195 : decode cL_law 195 = .ok (.iadd, 1) := by decide +kernel
theorem dL_law_196 : decode cL_law 196 = .ok (.iaload, 1) := by decide +kernel
theorem dL_law_197 : decode cL_law 197 = .ok (.aload_n 0, 1) := by decide +kernel
theorem dL_law_198 : decode cL_law 198 = .ok (.iload_n 3, 1) := by decide +kernel
theorem dL_law_199 : decode cL_law 199 = .ok (.iconst 2, 1) := by decide +kernel
theorem dL_law_200 : decode cL_law 200 = .ok (.iadd, 1) := by decide +kernel
theorem dL_law_201 : decode cL_law 201 = .ok (.iaload, 1) := by decide +kernel
theorem dL_law_202 : decode cL_law 202 = .ok (.aload_n 0, 1) := by decide +kernel
theorem dL_law_203 : decode cL_law 203 = .ok (.iload_n 3, 1) := by decide +kernel
theorem dL_law_204 : decode cL_law 204 = .ok (.iconst 3, 1) := by decide +kernel
theorem dL_law_205 : decode cL_law 205 = .ok (.iadd, 1) := by decide +kernel
theorem dL_law_206 : decode cL_law 206 = .ok (.iaload, 1) := by decide +kernel
theorem dL_law_207 : decode cL_law 207 = .ok (.invokevirtual 18, 3) := by decide +kernel
theorem dL_law_210 : decode cL_law 210 = .ok (.aload_n 2, 1) := by decide +kernel
theorem dL_law_211 : decode cL_law 211 = .ok (.aload_n 0, 1) := by decide +kernel
theorem dL_law_212 : decode cL_law 212 = .ok (.iload_n 3, 1) := by decide +kernel
theorem dL_law_213 : decode cL_law 213 = .ok (.iconst 1, 1) := by decide +kernel
theorem dL_law_214 : decode cL_law 214 = .ok (.iadd, 1) := by decide +kernel
theorem dL_law_215 : decode cL_law 215 = .ok (.iaload, 1) := by decide +kernel
theorem dL_law_216 : decode cL_law 216 = .ok (.aload_n 0, 1) := by decide +kernel
theorem dL_law_217 : decode cL_law 217 = .ok (.iload_n 3, 1) := by decide +kernel
theorem dL_law_218 : decode cL_law 218 = .ok (.iconst 2, 1) := by decide +kernel
theorem dL_law_219 : decode cL_law 219 = .ok (.iadd, 1) := by decide +kernel
theorem dL_law_220 : decode cL_law 220 = .ok (.iaload, 1) := by decide +kernel
theorem dL_law_221 : decode cL_law 221 = .ok (.aload_n 0, 1) := by decide +kernel
theorem dL_law_222 : decode cL_law 222 = .ok (.iload_n 3, 1) := by decide +kernel
theorem dL_law_223 : decode cL_law 223 = .ok (.iconst 3, 1) := by decide +kernel
theorem dL_law_224 : decode cL_law 224 = .ok (.iadd, 1) := by decide +kernel
theorem dL_law_225 : decode cL_law 225 = .ok (.iaload, 1) := by decide +kernel
theorem dL_law_226 : decode cL_law 226 = .ok (.invokevirtual 22, 3) := by decide +kernel
theorem dL_law_229 : decode cL_law 229 = .ok (.if_icmp .eq 810, 3) := by decide +kernel
theorem dL_law_232 : decode cL_law 232 = .ok (.iconst 0, 1) := by decide +kernel
theorem dL_law_233 : decode cL_law 233 = .ok (.ireturn, 1) := by decide +kernel
theorem dL_law_234 : decode cL_law 234 = .ok (.aload_n 1, 1) := by decide +kernel
theorem dL_law_235 : decode cL_law 235 = .ok (.aload_n 0, 1) := by decide +kernel
theorem dL_law_236 : decode cL_law 236 = .ok (.iload_n 3, 1) := by decide +kernel
theorem dL_law_237 : decode cL_law 237 = .ok (.iconst 1, 1) := by decide +kernel
theorem dL_law_238 : decode cL_law 238 = .ok (.iadd, 1) := by decide +kernel
theorem dL_law_239 : decode cL_law 239 = .ok (.iaload, 1) := by decide +kernel
theorem dL_law_240 : decode cL_law 240 = .ok (.aload_n 0, 1) := by decide +kernel
theorem dL_law_241 : decode cL_law 241 = .ok (.iload_n 3, 1) := by decide +kernel
theorem dL_law_242 : decode cL_law 242 = .ok (.iconst 2, 1) := by decide +kernel
theorem dL_law_243 : decode cL_law 243 = .ok (.iadd, 1) := by decide +kernel
theorem dL_law_244 : decode cL_law 244 = .ok (.iaload, 1) := by decide +kernel
theorem dL_law_245 : decode cL_law 245 = .ok (.invokevirtual 23, 3) := by decide +kernel
theorem dL_law_248 : decode cL_law 248 = .ok (.aload_n 2, 1) := by decide +kernel
theorem dL_law_249 : decode cL_law 249 = .ok (.aload_n 0, 1) := by decide +kernel
theorem dL_law_250 : decode cL_law 250 = .ok (.iload_n 3, 1) := by decide +kernel
theorem dL_law_251 : decode cL_law 251 = .ok (.iconst 1, 1) := by decide +kernel
theorem dL_law_252 : decode cL_law 252 = .ok (.iadd, 1) := by decide +kernel
theorem dL_law_253 : decode cL_law 253 = .ok (.iaload, 1) := by decide +kernel
theorem dL_law_254 : decode cL_law 254 = .ok (.aload_n 0, 1) := by decide +kernel
theorem dL_law_255 : decode cL_law 255 = .ok (.iload_n 3, 1) := by decide +kernel
theorem dL_law_256 : decode cL_law 256 = .ok (.iconst 2, 1) := by decide +kernel
theorem dL_law_257 : decode cL_law 257 = .ok (.iadd, 1) := by decide +kernel
theorem dL_law_258 : decode cL_law 258 = .ok (.iaload, 1) := by decide +kernel
theorem dL_law_259 : decode cL_law 259 = .ok (.invokevirtual 27, 3) := by decide +kernel
theorem dL_law_262 : decode cL_law 262 = .ok (.lcmp, 1) := by decide +kernel
theorem dL_law_263 : decode cL_law 263 = .ok (.ifCond .eq 776, 3) := by decide +kernel
theorem dL_law_266 : decode cL_law 266 = .ok (.iconst 0, 1) := by decide +kernel
theorem dL_law_267 : decode cL_law 267 = .ok (.ireturn, 1) := by decide +kernel
theorem dL_law_268 : decode cL_law 268 = .ok (.aload_n 1, 1) := by decide +kernel
theorem dL_law_269 : decode cL_law 269 = .ok (.aload_n 0, 1) := by decide +kernel
theorem dL_law_270 : decode cL_law 270 = .ok (.iload_n 3, 1) := by decide +kernel
theorem dL_law_271 : decode cL_law 271 = .ok (.iconst 1, 1) := by decide +kernel
theorem dL_law_272 : decode cL_law 272 = .ok (.iadd, 1) := by decide +kernel
theorem dL_law_273 : decode cL_law 273 = .ok (.iaload, 1) := by decide +kernel
theorem dL_law_274 : decode cL_law 274 = .ok (.aload_n 0, 1) := by decide +kernel
theorem dL_law_275 : decode cL_law 275 = .ok (.iload_n 3, 1) := by decide +kernel
theorem dL_law_276 : decode cL_law 276 = .ok (.iconst 2, 1) := by decide +kernel
theorem dL_law_277 : decode cL_law 277 = .ok (.iadd, 1) := by decide +kernel
theorem dL_law_278 : decode cL_law 278 = .ok (.iaload, 1) := by decide +kernel
theorem dL_law_279 : decode cL_law 279 = .ok (.invokevirtual 28, 3) := by decide +kernel
theorem dL_law_282 : decode cL_law 282 = .ok (.aload_n 2, 1) := by decide +kernel
theorem dL_law_283 : decode cL_law 283 = .ok (.aload_n 0, 1) := by decide +kernel
theorem dL_law_284 : decode cL_law 284 = .ok (.iload_n 3, 1) := by decide +kernel
theorem dL_law_285 : decode cL_law 285 = .ok (.iconst 1, 1) := by decide +kernel
theorem dL_law_286 : decode cL_law 286 = .ok (.iadd, 1) := by decide +kernel
theorem dL_law_287 : decode cL_law 287 = .ok (.iaload, 1) := by decide +kernel
theorem dL_law_288 : decode cL_law 288 = .ok (.aload_n 0, 1) := by decide +kernel
theorem dL_law_289 : decode cL_law 289 = .ok (.iload_n 3, 1) := by decide +kernel
theorem dL_law_290 : decode cL_law 290 = .ok (.iconst 2, 1) := by decide +kernel
theorem dL_law_291 : decode cL_law 291 = .ok (.iadd, 1) := by decide +kernel
theorem dL_law_292 : decode cL_law 292 = .ok (.iaload, 1) := by decide +kernel
theorem dL_law_293 : decode cL_law 293 = .ok (.invokevirtual 32, 3) := by decide +kernel
theorem dL_law_296 : decode cL_law 296 = .ok (.if_icmp .eq 743, 3) := by decide +kernel
theorem dL_law_299 : decode cL_law 299 = .ok (.iconst 0, 1) := by decide +kernel
theorem dL_law_300 : decode cL_law 300 = .ok (.ireturn, 1) := by decide +kernel
theorem dL_law_301 : decode cL_law 301 = .ok (.aload_n 1, 1) := by decide +kernel
theorem dL_law_302 : decode cL_law 302 = .ok (.aload_n 0, 1) := by decide +kernel
theorem dL_law_303 : decode cL_law 303 = .ok (.iload_n 3, 1) := by decide +kernel
theorem dL_law_304 : decode cL_law 304 = .ok (.iconst 1, 1) := by decide +kernel
theorem dL_law_305 : decode cL_law 305 = .ok (.iadd, 1) := by decide +kernel
theorem dL_law_306 : decode cL_law 306 = .ok (.iaload, 1) := by decide +kernel
theorem dL_law_307 : decode cL_law 307 = .ok (.invokevirtual 33, 3) := by decide +kernel
theorem dL_law_310 : decode cL_law 310 = .ok (.aload_n 2, 1) := by decide +kernel
theorem dL_law_311 : decode cL_law 311 = .ok (.aload_n 0, 1) := by decide +kernel
theorem dL_law_312 : decode cL_law 312 = .ok (.iload_n 3, 1) := by decide +kernel
theorem dL_law_313 : decode cL_law 313 = .ok (.iconst 1, 1) := by decide +kernel
theorem dL_law_314 : decode cL_law 314 = .ok (.iadd, 1) := by decide +kernel
theorem dL_law_315 : decode cL_law 315 = .ok (.iaload, 1) := by decide +kernel
theorem dL_law_316 : decode cL_law 316 = .ok (.invokevirtual 36, 3) := by decide +kernel
theorem dL_law_319 : decode cL_law 319 = .ok (.if_icmp .eq 720, 3) := by decide +kernel
theorem dL_law_322 : decode cL_law 322 = .ok (.iconst 0, 1) := by decide +kernel
theorem dL_law_323 : decode cL_law 323 = .ok (.ireturn, 1) := by decide +kernel
theorem dL_law_324 : decode cL_law 324 = .ok (.aload_n 1, 1) := by decide +kernel
theorem dL_law_325 : decode cL_law 325 = .ok (.aload_n 0, 1) := by decide +kernel
theorem dL_law_326 : decode cL_law 326 = .ok (.iload_n 3, 1) := by decide +kernel
theorem dL_law_327 : decode cL_law 327 = .ok (.iconst 1, 1) := by decide +kernel
theorem dL_law_328 : decode cL_law 328 = .ok (.iadd, 1) := by decide +kernel
theorem dL_law_329 : decode cL_law 329 = .ok (.iaload, 1) := by decide +kernel
theorem dL_law_330 : decode cL_law 330 = .ok (.aload_n 0, 1) := by decide +kernel
theorem dL_law_331 : decode cL_law 331 = .ok (.iload_n 3, 1) := by decide +kernel
theorem dL_law_332 : decode cL_law 332 = .ok (.iconst 2, 1) := by decide +kernel
theorem dL_law_333 : decode cL_law 333 = .ok (.iadd, 1) := by decide +kernel
theorem dL_law_334 : decode cL_law 334 = .ok (.iaload, 1) := by decide +kernel
theorem dL_law_335 : decode cL_law 335 = .ok (.aload_n 0, 1) := by decide +kernel
theorem dL_law_336 : decode cL_law 336 = .ok (.iload_n 3, 1) := by decide +kernel
theorem dL_law_337 : decode cL_law 337 = .ok (.iconst 3, 1) := by decide +kernel
theorem dL_law_338 : decode cL_law 338 = .ok (.iadd, 1) := by decide +kernel
theorem dL_law_339 : decode cL_law 339 = .ok (.iaload, 1) := by decide +kernel
theorem dL_law_340 : decode cL_law 340 = .ok (.invokevirtual 37, 3) := by decide +kernel
theorem dL_law_343 : decode cL_law 343 = .ok (.aload_n 2, 1) := by decide +kernel
theorem dL_law_344 : decode cL_law 344 = .ok (.aload_n 0, 1) := by decide +kernel
theorem dL_law_345 : decode cL_law 345 = .ok (.iload_n 3, 1) := by decide +kernel
theorem dL_law_346 : decode cL_law 346 = .ok (.iconst 1, 1) := by decide +kernel
theorem dL_law_347 : decode cL_law 347 = .ok (.iadd, 1) := by decide +kernel
theorem dL_law_348 : decode cL_law 348 = .ok (.iaload, 1) := by decide +kernel
theorem dL_law_349 : decode cL_law 349 = .ok (.aload_n 0, 1) := by decide +kernel
theorem dL_law_350 : decode cL_law 350 = .ok (.iload_n 3, 1) := by decide +kernel
theorem dL_law_351 : decode cL_law 351 = .ok (.iconst 2, 1) := by decide +kernel
theorem dL_law_352 : decode cL_law 352 = .ok (.iadd, 1) := by decide +kernel
theorem dL_law_353 : decode cL_law 353 = .ok (.iaload, 1) := by decide +kernel
theorem dL_law_354 : decode cL_law 354 = .ok (.aload_n 0, 1) := by decide +kernel
theorem dL_law_355 : decode cL_law 355 = .ok (.iload_n 3, 1) := by decide +kernel
theorem dL_law_356 : decode cL_law 356 = .ok (.iconst 3, 1) := by decide +kernel
theorem dL_law_357 : decode cL_law 357 = .ok (.iadd, 1) := by decide +kernel
theorem dL_law_358 : decode cL_law 358 = .ok (.iaload, 1) := by decide +kernel
theorem dL_law_359 : decode cL_law 359 = .ok (.invokevirtual 40, 3) := by decide +kernel
theorem dL_law_362 : decode cL_law 362 = .ok (.if_icmp .eq 677, 3) := by decide +kernel
theorem dL_law_365 : decode cL_law 365 = .ok (.iconst 0, 1) := by decide +kernel
theorem dL_law_366 : decode cL_law 366 = .ok (.ireturn, 1) := by decide +kernel
theorem dL_law_367 : decode cL_law 367 = .ok (.aload_n 1, 1) := by decide +kernel
theorem dL_law_368 : decode cL_law 368 = .ok (.aload_n 0, 1) := by decide +kernel
theorem dL_law_369 : decode cL_law 369 = .ok (.iload_n 3, 1) := by decide +kernel
theorem dL_law_370 : decode cL_law 370 = .ok (.iconst 1, 1) := by decide +kernel
theorem dL_law_371 : decode cL_law 371 = .ok (.iadd, 1) := by decide +kernel
theorem dL_law_372 : decode cL_law 372 = .ok (.iaload, 1) := by decide +kernel
theorem dL_law_373 : decode cL_law 373 = .ok (.invokevirtual 41, 3) := by decide +kernel
theorem dL_law_376 : decode cL_law 376 = .ok (.aload_n 2, 1) := by decide +kernel
theorem dL_law_377 : decode cL_law 377 = .ok (.aload_n 0, 1) := by decide +kernel
theorem dL_law_378 : decode cL_law 378 = .ok (.iload_n 3, 1) := by decide +kernel
theorem dL_law_379 : decode cL_law 379 = .ok (.iconst 1, 1) := by decide +kernel
theorem dL_law_380 : decode cL_law 380 = .ok (.iadd, 1) := by decide +kernel
theorem dL_law_381 : decode cL_law 381 = .ok (.iaload, 1) := by decide +kernel
theorem dL_law_382 : decode cL_law 382 = .ok (.invokevirtual 44, 3) := by decide +kernel
theorem dL_law_385 : decode cL_law 385 = .ok (.if_icmp .eq 654, 3) := by decide +kernel
theorem dL_law_388 : decode cL_law 388 = .ok (.iconst 0, 1) := by decide +kernel
theorem dL_law_389 : decode cL_law 389 = .ok (.ireturn, 1) := by decide +kernel
theorem dL_law_390 : decode cL_law 390 = .ok (.aload_n 1, 1) := by decide +kernel
theorem dL_law_391 : decode cL_law 391 = .ok (.aload_n 0, 1) := by decide +kernel
theorem dL_law_392 : decode cL_law 392 = .ok (.iload_n 3, 1) := by decide +kernel
theorem dL_law_393 : decode cL_law 393 = .ok (.iconst 1, 1) := by decide +kernel
theorem dL_law_394 : decode cL_law 394 = .ok (.iadd, 1) := by decide +kernel
theorem dL_law_395 : decode cL_law 395 = .ok (.iaload, 1) := by decide +kernel
theorem dL_law_396 : decode cL_law 396 = .ok (.invokevirtual 45, 3) := by decide +kernel
theorem dL_law_399 : decode cL_law 399 = .ok (.aload_n 2, 1) := by decide +kernel
theorem dL_law_400 : decode cL_law 400 = .ok (.aload_n 0, 1) := by decide +kernel
theorem dL_law_401 : decode cL_law 401 = .ok (.iload_n 3, 1) := by decide +kernel
theorem dL_law_402 : decode cL_law 402 = .ok (.iconst 1, 1) := by decide +kernel
theorem dL_law_403 : decode cL_law 403 = .ok (.iadd, 1) := by decide +kernel
theorem dL_law_404 : decode cL_law 404 = .ok (.iaload, 1) := by decide +kernel
theorem dL_law_405 : decode cL_law 405 = .ok (.invokevirtual 48, 3) := by decide +kernel
theorem dL_law_408 : decode cL_law 408 = .ok (.if_icmp .eq 631, 3) := by decide +kernel
theorem dL_law_411 : decode cL_law 411 = .ok (.iconst 0, 1) := by decide +kernel
theorem dL_law_412 : decode cL_law 412 = .ok (.ireturn, 1) := by decide +kernel
theorem dL_law_413 : decode cL_law 413 = .ok (.aload_n 1, 1) := by decide +kernel
theorem dL_law_414 : decode cL_law 414 = .ok (.aload_n 0, 1) := by decide +kernel
theorem dL_law_415 : decode cL_law 415 = .ok (.iload_n 3, 1) := by decide +kernel
theorem dL_law_416 : decode cL_law 416 = .ok (.iconst 1, 1) := by decide +kernel
theorem dL_law_417 : decode cL_law 417 = .ok (.iadd, 1) := by decide +kernel
theorem dL_law_418 : decode cL_law 418 = .ok (.iaload, 1) := by decide +kernel
theorem dL_law_419 : decode cL_law 419 = .ok (.invokevirtual 49, 3) := by decide +kernel
theorem dL_law_422 : decode cL_law 422 = .ok (.aload_n 2, 1) := by decide +kernel
theorem dL_law_423 : decode cL_law 423 = .ok (.aload_n 0, 1) := by decide +kernel
theorem dL_law_424 : decode cL_law 424 = .ok (.iload_n 3, 1) := by decide +kernel
theorem dL_law_425 : decode cL_law 425 = .ok (.iconst 1, 1) := by decide +kernel
theorem dL_law_426 : decode cL_law 426 = .ok (.iadd, 1) := by decide +kernel
theorem dL_law_427 : decode cL_law 427 = .ok (.iaload, 1) := by decide +kernel
theorem dL_law_428 : decode cL_law 428 = .ok (.invokevirtual 52, 3) := by decide +kernel
theorem dL_law_431 : decode cL_law 431 = .ok (.if_icmp .eq 608, 3) := by decide +kernel
theorem dL_law_434 : decode cL_law 434 = .ok (.iconst 0, 1) := by decide +kernel
theorem dL_law_435 : decode cL_law 435 = .ok (.ireturn, 1) := by decide +kernel
theorem dL_law_436 : decode cL_law 436 = .ok (.aload_n 1, 1) := by decide +kernel
theorem dL_law_437 : decode cL_law 437 = .ok (.aload_n 0, 1) := by decide +kernel
theorem dL_law_438 : decode cL_law 438 = .ok (.iload_n 3, 1) := by decide +kernel
theorem dL_law_439 : decode cL_law 439 = .ok (.iconst 1, 1) := by decide +kernel
theorem dL_law_440 : decode cL_law 440 = .ok (.iadd, 1) := by decide +kernel
theorem dL_law_441 : decode cL_law 441 = .ok (.iaload, 1) := by decide +kernel
theorem dL_law_442 : decode cL_law 442 = .ok (.invokevirtual 53, 3) := by decide +kernel
theorem dL_law_445 : decode cL_law 445 = .ok (.aload_n 2, 1) := by decide +kernel
theorem dL_law_446 : decode cL_law 446 = .ok (.aload_n 0, 1) := by decide +kernel
theorem dL_law_447 : decode cL_law 447 = .ok (.iload_n 3, 1) := by decide +kernel
theorem dL_law_448 : decode cL_law 448 = .ok (.iconst 1, 1) := by decide +kernel
theorem dL_law_449 : decode cL_law 449 = .ok (.iadd, 1) := by decide +kernel
theorem dL_law_450 : decode cL_law 450 = .ok (.iaload, 1) := by decide +kernel
theorem dL_law_451 : decode cL_law 451 = .ok (.invokevirtual 56, 3) := by decide +kernel
theorem dL_law_454 : decode cL_law 454 = .ok (.if_icmp .eq 585, 3) := by decide +kernel
theorem dL_law_457 : decode cL_law 457 = .ok (.iconst 0, 1) := by decide +kernel
theorem dL_law_458 : decode cL_law 458 = .ok (.ireturn, 1) := by decide +kernel
theorem dL_law_459 : decode cL_law 459 = .ok (.aload_n 1, 1) := by decide +kernel
theorem dL_law_460 : decode cL_law 460 = .ok (.aload_n 0, 1) := by decide +kernel
theorem dL_law_461 : decode cL_law 461 = .ok (.iload_n 3, 1) := by decide +kernel
theorem dL_law_462 : decode cL_law 462 = .ok (.iconst 1, 1) := by decide +kernel
theorem dL_law_463 : decode cL_law 463 = .ok (.iadd, 1) := by decide +kernel
theorem dL_law_464 : decode cL_law 464 = .ok (.iaload, 1) := by decide +kernel
theorem dL_law_465 : decode cL_law 465 = .ok (.aload_n 0, 1) := by decide +kernel
theorem dL_law_466 : decode cL_law 466 = .ok (.iload_n 3, 1) := by decide +kernel
theorem dL_law_467 : decode cL_law 467 = .ok (.iconst 2, 1) := by decide +kernel
theorem dL_law_468 : decode cL_law 468 = .ok (.iadd, 1) := by decide +kernel
theorem dL_law_469 : decode cL_law 469 = .ok (.iaload, 1) := by decide +kernel
theorem dL_law_470 : decode cL_law 470 = .ok (.aload_n 0, 1) := by decide +kernel
theorem dL_law_471 : decode cL_law 471 = .ok (.iload_n 3, 1) := by decide +kernel
theorem dL_law_472 : decode cL_law 472 = .ok (.iconst 3, 1) := by decide +kernel
theorem dL_law_473 : decode cL_law 473 = .ok (.iadd, 1) := by decide +kernel
theorem dL_law_474 : decode cL_law 474 = .ok (.iaload, 1) := by decide +kernel
theorem dL_law_475 : decode cL_law 475 = .ok (.invokevirtual 57, 3) := by decide +kernel
theorem dL_law_478 : decode cL_law 478 = .ok (.aload_n 2, 1) := by decide +kernel
theorem dL_law_479 : decode cL_law 479 = .ok (.aload_n 0, 1) := by decide +kernel
theorem dL_law_480 : decode cL_law 480 = .ok (.iload_n 3, 1) := by decide +kernel
theorem dL_law_481 : decode cL_law 481 = .ok (.iconst 1, 1) := by decide +kernel
theorem dL_law_482 : decode cL_law 482 = .ok (.iadd, 1) := by decide +kernel
theorem dL_law_483 : decode cL_law 483 = .ok (.iaload, 1) := by decide +kernel
theorem dL_law_484 : decode cL_law 484 = .ok (.aload_n 0, 1) := by decide +kernel
theorem dL_law_485 : decode cL_law 485 = .ok (.iload_n 3, 1) := by decide +kernel
theorem dL_law_486 : decode cL_law 486 = .ok (.iconst 2, 1) := by decide +kernel
theorem dL_law_487 : decode cL_law 487 = .ok (.iadd, 1) := by decide +kernel
theorem dL_law_488 : decode cL_law 488 = .ok (.iaload, 1) := by decide +kernel
theorem dL_law_489 : decode cL_law 489 = .ok (.aload_n 0, 1) := by decide +kernel
theorem dL_law_490 : decode cL_law 490 = .ok (.iload_n 3, 1) := by decide +kernel
theorem dL_law_491 : decode cL_law 491 = .ok (.iconst 3, 1) := by decide +kernel
theorem dL_law_492 : decode cL_law 492 = .ok (.iadd, 1) := by decide +kernel
theorem dL_law_493 : decode cL_law 493 = .ok (.iaload, 1) := by decide +kernel
theorem dL_law_494 : decode cL_law 494 = .ok (.invokevirtual 60, 3) := by decide +kernel
theorem dL_law_497 : decode cL_law 497 = .ok (.if_icmp .eq 542, 3) := by decide +kernel
theorem dL_law_500 : decode cL_law 500 = .ok (.iconst 0, 1) := by decide +kernel
theorem dL_law_501 : decode cL_law 501 = .ok (.ireturn, 1) := by decide +kernel
theorem dL_law_502 : decode cL_law 502 = .ok (.aload_n 1, 1) := by decide +kernel
theorem dL_law_503 : decode cL_law 503 = .ok (.aload_n 0, 1) := by decide +kernel
theorem dL_law_504 : decode cL_law 504 = .ok (.iload_n 3, 1) := by decide +kernel
theorem dL_law_505 : decode cL_law 505 = .ok (.iconst 1, 1) := by decide +kernel
theorem dL_law_506 : decode cL_law 506 = .ok (.iadd, 1) := by decide +kernel
theorem dL_law_507 : decode cL_law 507 = .ok (.iaload, 1) := by decide +kernel
theorem dL_law_508 : decode cL_law 508 = .ok (.invokevirtual 61, 3) := by decide +kernel
theorem dL_law_511 : decode cL_law 511 = .ok (.aload_n 2, 1) := by decide +kernel
theorem dL_law_512 : decode cL_law 512 = .ok (.aload_n 0, 1) := by decide +kernel
theorem dL_law_513 : decode cL_law 513 = .ok (.iload_n 3, 1) := by decide +kernel
theorem dL_law_514 : decode cL_law 514 = .ok (.iconst 1, 1) := by decide +kernel
theorem dL_law_515 : decode cL_law 515 = .ok (.iadd, 1) := by decide +kernel
theorem dL_law_516 : decode cL_law 516 = .ok (.iaload, 1) := by decide +kernel
theorem dL_law_517 : decode cL_law 517 = .ok (.invokevirtual 64, 3) := by decide +kernel
theorem dL_law_520 : decode cL_law 520 = .ok (.if_icmp .eq 519, 3) := by decide +kernel
theorem dL_law_523 : decode cL_law 523 = .ok (.iconst 0, 1) := by decide +kernel
theorem dL_law_524 : decode cL_law 524 = .ok (.ireturn, 1) := by decide +kernel
theorem dL_law_525 : decode cL_law 525 = .ok (.aload_n 1, 1) := by decide +kernel
theorem dL_law_526 : decode cL_law 526 = .ok (.aload_n 0, 1) := by decide +kernel
theorem dL_law_527 : decode cL_law 527 = .ok (.iload_n 3, 1) := by decide +kernel
theorem dL_law_528 : decode cL_law 528 = .ok (.iconst 1, 1) := by decide +kernel
theorem dL_law_529 : decode cL_law 529 = .ok (.iadd, 1) := by decide +kernel
theorem dL_law_530 : decode cL_law 530 = .ok (.iaload, 1) := by decide +kernel
theorem dL_law_531 : decode cL_law 531 = .ok (.aload_n 0, 1) := by decide +kernel
theorem dL_law_532 : decode cL_law 532 = .ok (.iload_n 3, 1) := by decide +kernel
theorem dL_law_533 : decode cL_law 533 = .ok (.iconst 2, 1) := by decide +kernel
theorem dL_law_534 : decode cL_law 534 = .ok (.iadd, 1) := by decide +kernel
theorem dL_law_535 : decode cL_law 535 = .ok (.iaload, 1) := by decide +kernel
theorem dL_law_536 : decode cL_law 536 = .ok (.aload_n 0, 1) := by decide +kernel
theorem dL_law_537 : decode cL_law 537 = .ok (.iload_n 3, 1) := by decide +kernel
theorem dL_law_538 : decode cL_law 538 = .ok (.iconst 3, 1) := by decide +kernel
theorem dL_law_539 : decode cL_law 539 = .ok (.iadd, 1) := by decide +kernel
theorem dL_law_540 : decode cL_law 540 = .ok (.iaload, 1) := by decide +kernel
theorem dL_law_541 : decode cL_law 541 = .ok (.invokevirtual 65, 3) := by decide +kernel
theorem dL_law_544 : decode cL_law 544 = .ok (.aload_n 2, 1) := by decide +kernel
theorem dL_law_545 : decode cL_law 545 = .ok (.aload_n 0, 1) := by decide +kernel
theorem dL_law_546 : decode cL_law 546 = .ok (.iload_n 3, 1) := by decide +kernel
theorem dL_law_547 : decode cL_law 547 = .ok (.iconst 1, 1) := by decide +kernel
theorem dL_law_548 : decode cL_law 548 = .ok (.iadd, 1) := by decide +kernel
theorem dL_law_549 : decode cL_law 549 = .ok (.iaload, 1) := by decide +kernel
theorem dL_law_550 : decode cL_law 550 = .ok (.aload_n 0, 1) := by decide +kernel
theorem dL_law_551 : decode cL_law 551 = .ok (.iload_n 3, 1) := by decide +kernel
theorem dL_law_552 : decode cL_law 552 = .ok (.iconst 2, 1) := by decide +kernel
theorem dL_law_553 : decode cL_law 553 = .ok (.iadd, 1) := by decide +kernel
theorem dL_law_554 : decode cL_law 554 = .ok (.iaload, 1) := by decide +kernel
theorem dL_law_555 : decode cL_law 555 = .ok (.aload_n 0, 1) := by decide +kernel
theorem dL_law_556 : decode cL_law 556 = .ok (.iload_n 3, 1) := by decide +kernel
theorem dL_law_557 : decode cL_law 557 = .ok (.iconst 3, 1) := by decide +kernel
theorem dL_law_558 : decode cL_law 558 = .ok (.iadd, 1) := by decide +kernel
theorem dL_law_559 : decode cL_law 559 = .ok (.iaload, 1) := by decide +kernel
theorem dL_law_560 : decode cL_law 560 = .ok (.invokevirtual 68, 3) := by decide +kernel
theorem dL_law_563 : decode cL_law 563 = .ok (.if_icmp .eq 476, 3) := by decide +kernel
theorem dL_law_566 : decode cL_law 566 = .ok (.iconst 0, 1) := by decide +kernel
theorem dL_law_567 : decode cL_law 567 = .ok (.ireturn, 1) := by decide +kernel
theorem dL_law_568 : decode cL_law 568 = .ok (.aload_n 1, 1) := by decide +kernel
theorem dL_law_569 : decode cL_law 569 = .ok (.aload_n 0, 1) := by decide +kernel
theorem dL_law_570 : decode cL_law 570 = .ok (.iload_n 3, 1) := by decide +kernel
theorem dL_law_571 : decode cL_law 571 = .ok (.iconst 1, 1) := by decide +kernel
theorem dL_law_572 : decode cL_law 572 = .ok (.iadd, 1) := by decide +kernel
theorem dL_law_573 : decode cL_law 573 = .ok (.iaload, 1) := by decide +kernel
theorem dL_law_574 : decode cL_law 574 = .ok (.invokevirtual 69, 3) := by decide +kernel
theorem dL_law_577 : decode cL_law 577 = .ok (.aload_n 2, 1) := by decide +kernel
theorem dL_law_578 : decode cL_law 578 = .ok (.aload_n 0, 1) := by decide +kernel
theorem dL_law_579 : decode cL_law 579 = .ok (.iload_n 3, 1) := by decide +kernel
theorem dL_law_580 : decode cL_law 580 = .ok (.iconst 1, 1) := by decide +kernel
theorem dL_law_581 : decode cL_law 581 = .ok (.iadd, 1) := by decide +kernel
theorem dL_law_582 : decode cL_law 582 = .ok (.iaload, 1) := by decide +kernel
theorem dL_law_583 : decode cL_law 583 = .ok (.invokevirtual 72, 3) := by decide +kernel
theorem dL_law_586 : decode cL_law 586 = .ok (.if_icmp .eq 453, 3) := by decide +kernel
theorem dL_law_589 : decode cL_law 589 = .ok (.iconst 0, 1) := by decide +kernel
theorem dL_law_590 : decode cL_law 590 = .ok (.ireturn, 1) := by decide +kernel
theorem dL_law_591 : decode cL_law 591 = .ok (.aload_n 1, 1) := by decide +kernel
theorem dL_law_592 : decode cL_law 592 = .ok (.aload_n 0, 1) := by decide +kernel
theorem dL_law_593 : decode cL_law 593 = .ok (.iload_n 3, 1) := by decide +kernel
theorem dL_law_594 : decode cL_law 594 = .ok (.iconst 1, 1) := by decide +kernel
theorem dL_law_595 : decode cL_law 595 = .ok (.iadd, 1) := by decide +kernel
theorem dL_law_596 : decode cL_law 596 = .ok (.iaload, 1) := by decide +kernel
theorem dL_law_597 : decode cL_law 597 = .ok (.aload_n 0, 1) := by decide +kernel
theorem dL_law_598 : decode cL_law 598 = .ok (.iload_n 3, 1) := by decide +kernel
theorem dL_law_599 : decode cL_law 599 = .ok (.iconst 2, 1) := by decide +kernel
theorem dL_law_600 : decode cL_law 600 = .ok (.iadd, 1) := by decide +kernel
theorem dL_law_601 : decode cL_law 601 = .ok (.iaload, 1) := by decide +kernel
theorem dL_law_602 : decode cL_law 602 = .ok (.aload_n 0, 1) := by decide +kernel
theorem dL_law_603 : decode cL_law 603 = .ok (.iload_n 3, 1) := by decide +kernel
theorem dL_law_604 : decode cL_law 604 = .ok (.iconst 3, 1) := by decide +kernel
theorem dL_law_605 : decode cL_law 605 = .ok (.iadd, 1) := by decide +kernel
theorem dL_law_606 : decode cL_law 606 = .ok (.iaload, 1) := by decide +kernel
theorem dL_law_607 : decode cL_law 607 = .ok (.invokevirtual 73, 3) := by decide +kernel
theorem dL_law_610 : decode cL_law 610 = .ok (.aload_n 2, 1) := by decide +kernel
theorem dL_law_611 : decode cL_law 611 = .ok (.aload_n 0, 1) := by decide +kernel
theorem dL_law_612 : decode cL_law 612 = .ok (.iload_n 3, 1) := by decide +kernel
theorem dL_law_613 : decode cL_law 613 = .ok (.iconst 1, 1) := by decide +kernel
theorem dL_law_614 : decode cL_law 614 = .ok (.iadd, 1) := by decide +kernel
theorem dL_law_615 : decode cL_law 615 = .ok (.iaload, 1) := by decide +kernel
theorem dL_law_616 : decode cL_law 616 = .ok (.aload_n 0, 1) := by decide +kernel
theorem dL_law_617 : decode cL_law 617 = .ok (.iload_n 3, 1) := by decide +kernel
theorem dL_law_618 : decode cL_law 618 = .ok (.iconst 2, 1) := by decide +kernel
theorem dL_law_619 : decode cL_law 619 = .ok (.iadd, 1) := by decide +kernel
theorem dL_law_620 : decode cL_law 620 = .ok (.iaload, 1) := by decide +kernel
theorem dL_law_621 : decode cL_law 621 = .ok (.aload_n 0, 1) := by decide +kernel
theorem dL_law_622 : decode cL_law 622 = .ok (.iload_n 3, 1) := by decide +kernel
theorem dL_law_623 : decode cL_law 623 = .ok (.iconst 3, 1) := by decide +kernel
theorem dL_law_624 : decode cL_law 624 = .ok (.iadd, 1) := by decide +kernel
theorem dL_law_625 : decode cL_law 625 = .ok (.iaload, 1) := by decide +kernel
theorem dL_law_626 : decode cL_law 626 = .ok (.invokevirtual 76, 3) := by decide +kernel
theorem dL_law_629 : decode cL_law 629 = .ok (.if_icmp .eq 410, 3) := by decide +kernel
theorem dL_law_632 : decode cL_law 632 = .ok (.iconst 0, 1) := by decide +kernel
theorem dL_law_633 : decode cL_law 633 = .ok (.ireturn, 1) := by decide +kernel
theorem dL_law_634 : decode cL_law 634 = .ok (.aload_n 1, 1) := by decide +kernel
theorem dL_law_635 : decode cL_law 635 = .ok (.invokevirtual 77, 3) := by decide +kernel
theorem dL_law_638 : decode cL_law 638 = .ok (.aload_n 2, 1) := by decide +kernel
theorem dL_law_639 : decode cL_law 639 = .ok (.invokevirtual 81, 3) := by decide +kernel
theorem dL_law_642 : decode cL_law 642 = .ok (.if_icmp .eq 397, 3) := by decide +kernel
theorem dL_law_645 : decode cL_law 645 = .ok (.iconst 0, 1) := by decide +kernel
theorem dL_law_646 : decode cL_law 646 = .ok (.ireturn, 1) := by decide +kernel
theorem dL_law_647 : decode cL_law 647 = .ok (.aload_n 1, 1) := by decide +kernel
theorem dL_law_648 : decode cL_law 648 = .ok (.aload_n 0, 1) := by decide +kernel
theorem dL_law_649 : decode cL_law 649 = .ok (.iload_n 3, 1) := by decide +kernel
theorem dL_law_650 : decode cL_law 650 = .ok (.iconst 1, 1) := by decide +kernel
theorem dL_law_651 : decode cL_law 651 = .ok (.iadd, 1) := by decide +kernel
theorem dL_law_652 : decode cL_law 652 = .ok (.iaload, 1) := by decide +kernel
theorem dL_law_653 : decode cL_law 653 = .ok (.aload_n 0, 1) := by decide +kernel
theorem dL_law_654 : decode cL_law 654 = .ok (.iload_n 3, 1) := by decide +kernel
theorem dL_law_655 : decode cL_law 655 = .ok (.iconst 2, 1) := by decide +kernel
theorem dL_law_656 : decode cL_law 656 = .ok (.iadd, 1) := by decide +kernel
theorem dL_law_657 : decode cL_law 657 = .ok (.iaload, 1) := by decide +kernel
theorem dL_law_658 : decode cL_law 658 = .ok (.invokevirtual 82, 3) := by decide +kernel
theorem dL_law_661 : decode cL_law 661 = .ok (.aload_n 2, 1) := by decide +kernel
theorem dL_law_662 : decode cL_law 662 = .ok (.aload_n 0, 1) := by decide +kernel
theorem dL_law_663 : decode cL_law 663 = .ok (.iload_n 3, 1) := by decide +kernel
theorem dL_law_664 : decode cL_law 664 = .ok (.iconst 1, 1) := by decide +kernel
theorem dL_law_665 : decode cL_law 665 = .ok (.iadd, 1) := by decide +kernel
theorem dL_law_666 : decode cL_law 666 = .ok (.iaload, 1) := by decide +kernel
theorem dL_law_667 : decode cL_law 667 = .ok (.aload_n 0, 1) := by decide +kernel
theorem dL_law_668 : decode cL_law 668 = .ok (.iload_n 3, 1) := by decide +kernel
theorem dL_law_669 : decode cL_law 669 = .ok (.iconst 2, 1) := by decide +kernel
theorem dL_law_670 : decode cL_law 670 = .ok (.iadd, 1) := by decide +kernel
theorem dL_law_671 : decode cL_law 671 = .ok (.iaload, 1) := by decide +kernel
theorem dL_law_672 : decode cL_law 672 = .ok (.invokevirtual 85, 3) := by decide +kernel
theorem dL_law_675 : decode cL_law 675 = .ok (.if_icmp .eq 364, 3) := by decide +kernel
theorem dL_law_678 : decode cL_law 678 = .ok (.iconst 0, 1) := by decide +kernel
theorem dL_law_679 : decode cL_law 679 = .ok (.ireturn, 1) := by decide +kernel
theorem dL_law_680 : decode cL_law 680 = .ok (.aload_n 1, 1) := by decide +kernel
theorem dL_law_681 : decode cL_law 681 = .ok (.aload_n 0, 1) := by decide +kernel
theorem dL_law_682 : decode cL_law 682 = .ok (.iload_n 3, 1) := by decide +kernel
theorem dL_law_683 : decode cL_law 683 = .ok (.iconst 1, 1) := by decide +kernel
theorem dL_law_684 : decode cL_law 684 = .ok (.iadd, 1) := by decide +kernel
theorem dL_law_685 : decode cL_law 685 = .ok (.iaload, 1) := by decide +kernel
theorem dL_law_686 : decode cL_law 686 = .ok (.aload_n 0, 1) := by decide +kernel
theorem dL_law_687 : decode cL_law 687 = .ok (.iload_n 3, 1) := by decide +kernel
theorem dL_law_688 : decode cL_law 688 = .ok (.iconst 2, 1) := by decide +kernel
theorem dL_law_689 : decode cL_law 689 = .ok (.iadd, 1) := by decide +kernel
theorem dL_law_690 : decode cL_law 690 = .ok (.iaload, 1) := by decide +kernel
theorem dL_law_691 : decode cL_law 691 = .ok (.invokevirtual 86, 3) := by decide +kernel
theorem dL_law_694 : decode cL_law 694 = .ok (.aload_n 2, 1) := by decide +kernel
theorem dL_law_695 : decode cL_law 695 = .ok (.aload_n 0, 1) := by decide +kernel
theorem dL_law_696 : decode cL_law 696 = .ok (.iload_n 3, 1) := by decide +kernel
theorem dL_law_697 : decode cL_law 697 = .ok (.iconst 1, 1) := by decide +kernel
theorem dL_law_698 : decode cL_law 698 = .ok (.iadd, 1) := by decide +kernel
theorem dL_law_699 : decode cL_law 699 = .ok (.iaload, 1) := by decide +kernel
theorem dL_law_700 : decode cL_law 700 = .ok (.aload_n 0, 1) := by decide +kernel
theorem dL_law_701 : decode cL_law 701 = .ok (.iload_n 3, 1) := by decide +kernel
theorem dL_law_702 : decode cL_law 702 = .ok (.iconst 2, 1) := by decide +kernel
theorem dL_law_703 : decode cL_law 703 = .ok (.iadd, 1) := by decide +kernel
theorem dL_law_704 : decode cL_law 704 = .ok (.iaload, 1) := by decide +kernel
theorem dL_law_705 : decode cL_law 705 = .ok (.invokevirtual 89, 3) := by decide +kernel
theorem dL_law_708 : decode cL_law 708 = .ok (.if_icmp .eq 331, 3) := by decide +kernel
theorem dL_law_711 : decode cL_law 711 = .ok (.iconst 0, 1) := by decide +kernel
theorem dL_law_712 : decode cL_law 712 = .ok (.ireturn, 1) := by decide +kernel
theorem dL_law_713 : decode cL_law 713 = .ok (.aload_n 1, 1) := by decide +kernel
theorem dL_law_714 : decode cL_law 714 = .ok (.aload_n 0, 1) := by decide +kernel
theorem dL_law_715 : decode cL_law 715 = .ok (.iload_n 3, 1) := by decide +kernel
theorem dL_law_716 : decode cL_law 716 = .ok (.iconst 1, 1) := by decide +kernel
theorem dL_law_717 : decode cL_law 717 = .ok (.iadd, 1) := by decide +kernel
theorem dL_law_718 : decode cL_law 718 = .ok (.iaload, 1) := by decide +kernel
theorem dL_law_719 : decode cL_law 719 = .ok (.invokevirtual 90, 3) := by decide +kernel
theorem dL_law_722 : decode cL_law 722 = .ok (.aload_n 2, 1) := by decide +kernel
theorem dL_law_723 : decode cL_law 723 = .ok (.aload_n 0, 1) := by decide +kernel
theorem dL_law_724 : decode cL_law 724 = .ok (.iload_n 3, 1) := by decide +kernel
theorem dL_law_725 : decode cL_law 725 = .ok (.iconst 1, 1) := by decide +kernel
theorem dL_law_726 : decode cL_law 726 = .ok (.iadd, 1) := by decide +kernel
theorem dL_law_727 : decode cL_law 727 = .ok (.iaload, 1) := by decide +kernel
theorem dL_law_728 : decode cL_law 728 = .ok (.invokevirtual 93, 3) := by decide +kernel
theorem dL_law_731 : decode cL_law 731 = .ok (.if_icmp .eq 308, 3) := by decide +kernel
theorem dL_law_734 : decode cL_law 734 = .ok (.iconst 0, 1) := by decide +kernel
theorem dL_law_735 : decode cL_law 735 = .ok (.ireturn, 1) := by decide +kernel
theorem dL_law_736 : decode cL_law 736 = .ok (.aload_n 1, 1) := by decide +kernel
theorem dL_law_737 : decode cL_law 737 = .ok (.aload_n 0, 1) := by decide +kernel
theorem dL_law_738 : decode cL_law 738 = .ok (.iload_n 3, 1) := by decide +kernel
theorem dL_law_739 : decode cL_law 739 = .ok (.iconst 1, 1) := by decide +kernel
theorem dL_law_740 : decode cL_law 740 = .ok (.iadd, 1) := by decide +kernel
theorem dL_law_741 : decode cL_law 741 = .ok (.iaload, 1) := by decide +kernel
theorem dL_law_742 : decode cL_law 742 = .ok (.invokevirtual 94, 3) := by decide +kernel
theorem dL_law_745 : decode cL_law 745 = .ok (.aload_n 2, 1) := by decide +kernel
theorem dL_law_746 : decode cL_law 746 = .ok (.aload_n 0, 1) := by decide +kernel
theorem dL_law_747 : decode cL_law 747 = .ok (.iload_n 3, 1) := by decide +kernel
theorem dL_law_748 : decode cL_law 748 = .ok (.iconst 1, 1) := by decide +kernel
theorem dL_law_749 : decode cL_law 749 = .ok (.iadd, 1) := by decide +kernel
theorem dL_law_750 : decode cL_law 750 = .ok (.iaload, 1) := by decide +kernel
theorem dL_law_751 : decode cL_law 751 = .ok (.invokevirtual 97, 3) := by decide +kernel
theorem dL_law_754 : decode cL_law 754 = .ok (.if_icmp .eq 285, 3) := by decide +kernel
theorem dL_law_757 : decode cL_law 757 = .ok (.iconst 0, 1) := by decide +kernel
theorem dL_law_758 : decode cL_law 758 = .ok (.ireturn, 1) := by decide +kernel
theorem dL_law_759 : decode cL_law 759 = .ok (.aload_n 1, 1) := by decide +kernel
theorem dL_law_760 : decode cL_law 760 = .ok (.aload_n 0, 1) := by decide +kernel
theorem dL_law_761 : decode cL_law 761 = .ok (.iload_n 3, 1) := by decide +kernel
theorem dL_law_762 : decode cL_law 762 = .ok (.iconst 1, 1) := by decide +kernel
theorem dL_law_763 : decode cL_law 763 = .ok (.iadd, 1) := by decide +kernel
theorem dL_law_764 : decode cL_law 764 = .ok (.iaload, 1) := by decide +kernel
theorem dL_law_765 : decode cL_law 765 = .ok (.aload_n 0, 1) := by decide +kernel
theorem dL_law_766 : decode cL_law 766 = .ok (.iload_n 3, 1) := by decide +kernel
theorem dL_law_767 : decode cL_law 767 = .ok (.iconst 2, 1) := by decide +kernel
theorem dL_law_768 : decode cL_law 768 = .ok (.iadd, 1) := by decide +kernel
theorem dL_law_769 : decode cL_law 769 = .ok (.iaload, 1) := by decide +kernel
theorem dL_law_770 : decode cL_law 770 = .ok (.aload_n 0, 1) := by decide +kernel
theorem dL_law_771 : decode cL_law 771 = .ok (.iload_n 3, 1) := by decide +kernel
theorem dL_law_772 : decode cL_law 772 = .ok (.iconst 3, 1) := by decide +kernel
theorem dL_law_773 : decode cL_law 773 = .ok (.iadd, 1) := by decide +kernel
theorem dL_law_774 : decode cL_law 774 = .ok (.iaload, 1) := by decide +kernel
theorem dL_law_775 : decode cL_law 775 = .ok (.invokevirtual 98, 3) := by decide +kernel
theorem dL_law_778 : decode cL_law 778 = .ok (.aload_n 2, 1) := by decide +kernel
theorem dL_law_779 : decode cL_law 779 = .ok (.aload_n 0, 1) := by decide +kernel
theorem dL_law_780 : decode cL_law 780 = .ok (.iload_n 3, 1) := by decide +kernel
theorem dL_law_781 : decode cL_law 781 = .ok (.iconst 1, 1) := by decide +kernel
theorem dL_law_782 : decode cL_law 782 = .ok (.iadd, 1) := by decide +kernel
theorem dL_law_783 : decode cL_law 783 = .ok (.iaload, 1) := by decide +kernel
theorem dL_law_784 : decode cL_law 784 = .ok (.aload_n 0, 1) := by decide +kernel
theorem dL_law_785 : decode cL_law 785 = .ok (.iload_n 3, 1) := by decide +kernel
theorem dL_law_786 : decode cL_law 786 = .ok (.iconst 2, 1) := by decide +kernel
theorem dL_law_787 : decode cL_law 787 = .ok (.iadd, 1) := by decide +kernel
theorem dL_law_788 : decode cL_law 788 = .ok (.iaload, 1) := by decide +kernel
theorem dL_law_789 : decode cL_law 789 = .ok (.aload_n 0, 1) := by decide +kernel
theorem dL_law_790 : decode cL_law 790 = .ok (.iload_n 3, 1) := by decide +kernel
theorem dL_law_791 : decode cL_law 791 = .ok (.iconst 3, 1) := by decide +kernel
theorem dL_law_792 : decode cL_law 792 = .ok (.iadd, 1) := by decide +kernel
theorem dL_law_793 : decode cL_law 793 = .ok (.iaload, 1) := by decide +kernel
theorem dL_law_794 : decode cL_law 794 = .ok (.invokevirtual 101, 3) := by decide +kernel
theorem dL_law_797 : decode cL_law 797 = .ok (.if_icmp .eq 242, 3) := by decide +kernel
theorem dL_law_800 : decode cL_law 800 = .ok (.iconst 0, 1) := by decide +kernel
theorem dL_law_801 : decode cL_law 801 = .ok (.ireturn, 1) := by decide +kernel
theorem dL_law_802 : decode cL_law 802 = .ok (.aload_n 1, 1) := by decide +kernel
theorem dL_law_803 : decode cL_law 803 = .ok (.aload_n 0, 1) := by decide +kernel
theorem dL_law_804 : decode cL_law 804 = .ok (.iload_n 3, 1) := by decide +kernel
theorem dL_law_805 : decode cL_law 805 = .ok (.iconst 1, 1) := by decide +kernel
theorem dL_law_806 : decode cL_law 806 = .ok (.iadd, 1) := by decide +kernel
theorem dL_law_807 : decode cL_law 807 = .ok (.iaload, 1) := by decide +kernel
theorem dL_law_808 : decode cL_law 808 = .ok (.invokevirtual 102, 3) := by decide +kernel
theorem dL_law_811 : decode cL_law 811 = .ok (.aload_n 2, 1) := by decide +kernel
theorem dL_law_812 : decode cL_law 812 = .ok (.aload_n 0, 1) := by decide +kernel
theorem dL_law_813 : decode cL_law 813 = .ok (.iload_n 3, 1) := by decide +kernel
theorem dL_law_814 : decode cL_law 814 = .ok (.iconst 1, 1) := by decide +kernel
theorem dL_law_815 : decode cL_law 815 = .ok (.iadd, 1) := by decide +kernel
theorem dL_law_816 : decode cL_law 816 = .ok (.iaload, 1) := by decide +kernel
theorem dL_law_817 : decode cL_law 817 = .ok (.invokevirtual 105, 3) := by decide +kernel
theorem dL_law_820 : decode cL_law 820 = .ok (.if_icmp .eq 219, 3) := by decide +kernel
theorem dL_law_823 : decode cL_law 823 = .ok (.iconst 0, 1) := by decide +kernel
theorem dL_law_824 : decode cL_law 824 = .ok (.ireturn, 1) := by decide +kernel
theorem dL_law_825 : decode cL_law 825 = .ok (.aload_n 1, 1) := by decide +kernel
theorem dL_law_826 : decode cL_law 826 = .ok (.aload_n 0, 1) := by decide +kernel
theorem dL_law_827 : decode cL_law 827 = .ok (.iload_n 3, 1) := by decide +kernel
theorem dL_law_828 : decode cL_law 828 = .ok (.iconst 1, 1) := by decide +kernel
theorem dL_law_829 : decode cL_law 829 = .ok (.iadd, 1) := by decide +kernel
theorem dL_law_830 : decode cL_law 830 = .ok (.iaload, 1) := by decide +kernel
theorem dL_law_831 : decode cL_law 831 = .ok (.aload_n 0, 1) := by decide +kernel
theorem dL_law_832 : decode cL_law 832 = .ok (.iload_n 3, 1) := by decide +kernel
theorem dL_law_833 : decode cL_law 833 = .ok (.iconst 2, 1) := by decide +kernel
theorem dL_law_834 : decode cL_law 834 = .ok (.iadd, 1) := by decide +kernel
theorem dL_law_835 : decode cL_law 835 = .ok (.iaload, 1) := by decide +kernel
theorem dL_law_836 : decode cL_law 836 = .ok (.invokevirtual 106, 3) := by decide +kernel
theorem dL_law_839 : decode cL_law 839 = .ok (.aload_n 2, 1) := by decide +kernel
theorem dL_law_840 : decode cL_law 840 = .ok (.aload_n 0, 1) := by decide +kernel
theorem dL_law_841 : decode cL_law 841 = .ok (.iload_n 3, 1) := by decide +kernel
theorem dL_law_842 : decode cL_law 842 = .ok (.iconst 1, 1) := by decide +kernel
theorem dL_law_843 : decode cL_law 843 = .ok (.iadd, 1) := by decide +kernel
theorem dL_law_844 : decode cL_law 844 = .ok (.iaload, 1) := by decide +kernel
theorem dL_law_845 : decode cL_law 845 = .ok (.aload_n 0, 1) := by decide +kernel
theorem dL_law_846 : decode cL_law 846 = .ok (.iload_n 3, 1) := by decide +kernel
theorem dL_law_847 : decode cL_law 847 = .ok (.iconst 2, 1) := by decide +kernel
theorem dL_law_848 : decode cL_law 848 = .ok (.iadd, 1) := by decide +kernel
theorem dL_law_849 : decode cL_law 849 = .ok (.iaload, 1) := by decide +kernel
theorem dL_law_850 : decode cL_law 850 = .ok (.invokevirtual 109, 3) := by decide +kernel
theorem dL_law_853 : decode cL_law 853 = .ok (.if_icmp .eq 186, 3) := by decide +kernel
theorem dL_law_856 : decode cL_law 856 = .ok (.iconst 0, 1) := by decide +kernel
theorem dL_law_857 : decode cL_law 857 = .ok (.ireturn, 1) := by decide +kernel
theorem dL_law_858 : decode cL_law 858 = .ok (.aload_n 1, 1) := by decide +kernel
theorem dL_law_859 : decode cL_law 859 = .ok (.aload_n 0, 1) := by decide +kernel
theorem dL_law_860 : decode cL_law 860 = .ok (.iload_n 3, 1) := by decide +kernel
theorem dL_law_861 : decode cL_law 861 = .ok (.iconst 1, 1) := by decide +kernel
theorem dL_law_862 : decode cL_law 862 = .ok (.iadd, 1) := by decide +kernel
theorem dL_law_863 : decode cL_law 863 = .ok (.iaload, 1) := by decide +kernel
theorem dL_law_864 : decode cL_law 864 = .ok (.invokevirtual 110, 3) := by decide +kernel
theorem dL_law_867 : decode cL_law 867 = .ok (.aload_n 2, 1) := by decide +kernel
theorem dL_law_868 : decode cL_law 868 = .ok (.aload_n 0, 1) := by decide +kernel
theorem dL_law_869 : decode cL_law 869 = .ok (.iload_n 3, 1) := by decide +kernel
theorem dL_law_870 : decode cL_law 870 = .ok (.iconst 1, 1) := by decide +kernel
theorem dL_law_871 : decode cL_law 871 = .ok (.iadd, 1) := by decide +kernel
theorem dL_law_872 : decode cL_law 872 = .ok (.iaload, 1) := by decide +kernel
theorem dL_law_873 : decode cL_law 873 = .ok (.invokevirtual 113, 3) := by decide +kernel
theorem dL_law_876 : decode cL_law 876 = .ok (.if_icmp .eq 163, 3) := by decide +kernel
theorem dL_law_879 : decode cL_law 879 = .ok (.iconst 0, 1) := by decide +kernel
theorem dL_law_880 : decode cL_law 880 = .ok (.ireturn, 1) := by decide +kernel
theorem dL_law_881 : decode cL_law 881 = .ok (.aload_n 1, 1) := by decide +kernel
theorem dL_law_882 : decode cL_law 882 = .ok (.aload_n 0, 1) := by decide +kernel
theorem dL_law_883 : decode cL_law 883 = .ok (.iload_n 3, 1) := by decide +kernel
theorem dL_law_884 : decode cL_law 884 = .ok (.iconst 1, 1) := by decide +kernel
theorem dL_law_885 : decode cL_law 885 = .ok (.iadd, 1) := by decide +kernel
theorem dL_law_886 : decode cL_law 886 = .ok (.iaload, 1) := by decide +kernel
theorem dL_law_887 : decode cL_law 887 = .ok (.invokevirtual 114, 3) := by decide +kernel
theorem dL_law_890 : decode cL_law 890 = .ok (.aload_n 2, 1) := by decide +kernel
theorem dL_law_891 : decode cL_law 891 = .ok (.aload_n 0, 1) := by decide +kernel
theorem dL_law_892 : decode cL_law 892 = .ok (.iload_n 3, 1) := by decide +kernel
theorem dL_law_893 : decode cL_law 893 = .ok (.iconst 1, 1) := by decide +kernel
theorem dL_law_894 : decode cL_law 894 = .ok (.iadd, 1) := by decide +kernel
theorem dL_law_895 : decode cL_law 895 = .ok (.iaload, 1) := by decide +kernel
theorem dL_law_896 : decode cL_law 896 = .ok (.invokevirtual 117, 3) := by decide +kernel
theorem dL_law_899 : decode cL_law 899 = .ok (.if_icmp .eq 140, 3) := by decide +kernel
theorem dL_law_902 : decode cL_law 902 = .ok (.iconst 0, 1) := by decide +kernel
theorem dL_law_903 : decode cL_law 903 = .ok (.ireturn, 1) := by decide +kernel
theorem dL_law_904 : decode cL_law 904 = .ok (.aload_n 1, 1) := by decide +kernel
theorem dL_law_905 : decode cL_law 905 = .ok (.aload_n 0, 1) := by decide +kernel
theorem dL_law_906 : decode cL_law 906 = .ok (.iload_n 3, 1) := by decide +kernel
theorem dL_law_907 : decode cL_law 907 = .ok (.iconst 1, 1) := by decide +kernel
theorem dL_law_908 : decode cL_law 908 = .ok (.iadd, 1) := by decide +kernel
theorem dL_law_909 : decode cL_law 909 = .ok (.iaload, 1) := by decide +kernel
theorem dL_law_910 : decode cL_law 910 = .ok (.invokevirtual 118, 3) := by decide +kernel
theorem dL_law_913 : decode cL_law 913 = .ok (.aload_n 2, 1) := by decide +kernel
theorem dL_law_914 : decode cL_law 914 = .ok (.aload_n 0, 1) := by decide +kernel
theorem dL_law_915 : decode cL_law 915 = .ok (.iload_n 3, 1) := by decide +kernel
theorem dL_law_916 : decode cL_law 916 = .ok (.iconst 1, 1) := by decide +kernel
theorem dL_law_917 : decode cL_law 917 = .ok (.iadd, 1) := by decide +kernel
theorem dL_law_918 : decode cL_law 918 = .ok (.iaload, 1) := by decide +kernel
theorem dL_law_919 : decode cL_law 919 = .ok (.invokevirtual 121, 3) := by decide +kernel
theorem dL_law_922 : decode cL_law 922 = .ok (.if_icmp .eq 117, 3) := by decide +kernel
theorem dL_law_925 : decode cL_law 925 = .ok (.iconst 0, 1) := by decide +kernel
theorem dL_law_926 : decode cL_law 926 = .ok (.ireturn, 1) := by decide +kernel
theorem dL_law_927 : decode cL_law 927 = .ok (.aload_n 1, 1) := by decide +kernel
theorem dL_law_928 : decode cL_law 928 = .ok (.aload_n 0, 1) := by decide +kernel
theorem dL_law_929 : decode cL_law 929 = .ok (.iload_n 3, 1) := by decide +kernel
theorem dL_law_930 : decode cL_law 930 = .ok (.iconst 1, 1) := by decide +kernel
theorem dL_law_931 : decode cL_law 931 = .ok (.iadd, 1) := by decide +kernel
theorem dL_law_932 : decode cL_law 932 = .ok (.iaload, 1) := by decide +kernel
theorem dL_law_933 : decode cL_law 933 = .ok (.aload_n 0, 1) := by decide +kernel
theorem dL_law_934 : decode cL_law 934 = .ok (.iload_n 3, 1) := by decide +kernel
theorem dL_law_935 : decode cL_law 935 = .ok (.iconst 2, 1) := by decide +kernel
theorem dL_law_936 : decode cL_law 936 = .ok (.iadd, 1) := by decide +kernel
theorem dL_law_937 : decode cL_law 937 = .ok (.iaload, 1) := by decide +kernel
theorem dL_law_938 : decode cL_law 938 = .ok (.invokevirtual 122, 3) := by decide +kernel
theorem dL_law_941 : decode cL_law 941 = .ok (.aload_n 2, 1) := by decide +kernel
theorem dL_law_942 : decode cL_law 942 = .ok (.aload_n 0, 1) := by decide +kernel
theorem dL_law_943 : decode cL_law 943 = .ok (.iload_n 3, 1) := by decide +kernel
theorem dL_law_944 : decode cL_law 944 = .ok (.iconst 1, 1) := by decide +kernel
theorem dL_law_945 : decode cL_law 945 = .ok (.iadd, 1) := by decide +kernel
theorem dL_law_946 : decode cL_law 946 = .ok (.iaload, 1) := by decide +kernel
theorem dL_law_947 : decode cL_law 947 = .ok (.aload_n 0, 1) := by decide +kernel
theorem dL_law_948 : decode cL_law 948 = .ok (.iload_n 3, 1) := by decide +kernel
theorem dL_law_949 : decode cL_law 949 = .ok (.iconst 2, 1) := by decide +kernel
theorem dL_law_950 : decode cL_law 950 = .ok (.iadd, 1) := by decide +kernel
theorem dL_law_951 : decode cL_law 951 = .ok (.iaload, 1) := by decide +kernel
theorem dL_law_952 : decode cL_law 952 = .ok (.invokevirtual 125, 3) := by decide +kernel
theorem dL_law_955 : decode cL_law 955 = .ok (.if_icmp .eq 84, 3) := by decide +kernel
theorem dL_law_958 : decode cL_law 958 = .ok (.iconst 0, 1) := by decide +kernel
theorem dL_law_959 : decode cL_law 959 = .ok (.ireturn, 1) := by decide +kernel
theorem dL_law_960 : decode cL_law 960 = .ok (.aload_n 1, 1) := by decide +kernel
theorem dL_law_961 : decode cL_law 961 = .ok (.aload_n 0, 1) := by decide +kernel
theorem dL_law_962 : decode cL_law 962 = .ok (.iload_n 3, 1) := by decide +kernel
theorem dL_law_963 : decode cL_law 963 = .ok (.iconst 1, 1) := by decide +kernel
theorem dL_law_964 : decode cL_law 964 = .ok (.iadd, 1) := by decide +kernel
theorem dL_law_965 : decode cL_law 965 = .ok (.iaload, 1) := by decide +kernel
theorem dL_law_966 : decode cL_law 966 = .ok (.invokevirtual 126, 3) := by decide +kernel
theorem dL_law_969 : decode cL_law 969 = .ok (.aload_n 2, 1) := by decide +kernel
theorem dL_law_970 : decode cL_law 970 = .ok (.aload_n 0, 1) := by decide +kernel
theorem dL_law_971 : decode cL_law 971 = .ok (.iload_n 3, 1) := by decide +kernel
theorem dL_law_972 : decode cL_law 972 = .ok (.iconst 1, 1) := by decide +kernel
theorem dL_law_973 : decode cL_law 973 = .ok (.iadd, 1) := by decide +kernel
theorem dL_law_974 : decode cL_law 974 = .ok (.iaload, 1) := by decide +kernel
theorem dL_law_975 : decode cL_law 975 = .ok (.invokevirtual 129, 3) := by decide +kernel
theorem dL_law_978 : decode cL_law 978 = .ok (.if_icmp .eq 61, 3) := by decide +kernel
theorem dL_law_981 : decode cL_law 981 = .ok (.iconst 0, 1) := by decide +kernel
theorem dL_law_982 : decode cL_law 982 = .ok (.ireturn, 1) := by decide +kernel
theorem dL_law_983 : decode cL_law 983 = .ok (.aload_n 1, 1) := by decide +kernel
theorem dL_law_984 : decode cL_law 984 = .ok (.aload_n 0, 1) := by decide +kernel
theorem dL_law_985 : decode cL_law 985 = .ok (.iload_n 3, 1) := by decide +kernel
theorem dL_law_986 : decode cL_law 986 = .ok (.iconst 1, 1) := by decide +kernel
theorem dL_law_987 : decode cL_law 987 = .ok (.iadd, 1) := by decide +kernel
theorem dL_law_988 : decode cL_law 988 = .ok (.iaload, 1) := by decide +kernel
theorem dL_law_989 : decode cL_law 989 = .ok (.aload_n 0, 1) := by decide +kernel
theorem dL_law_990 : decode cL_law 990 = .ok (.iload_n 3, 1) := by decide +kernel
theorem dL_law_991 : decode cL_law 991 = .ok (.iconst 2, 1) := by decide +kernel
theorem dL_law_992 : decode cL_law 992 = .ok (.iadd, 1) := by decide +kernel
theorem dL_law_993 : decode cL_law 993 = .ok (.iaload, 1) := by decide +kernel
theorem dL_law_994 : decode cL_law 994 = .ok (.invokevirtual 130, 3) := by decide +kernel
theorem dL_law_997 : decode cL_law 997 = .ok (.aload_n 2, 1) := by decide +kernel
theorem dL_law_998 : decode cL_law 998 = .ok (.aload_n 0, 1) := by decide +kernel
theorem dL_law_999 : decode cL_law 999 = .ok (.iload_n 3, 1) := by decide +kernel
theorem dL_law_1000 : decode cL_law 1000 = .ok (.iconst 1, 1) := by decide +kernel
theorem dL_law_1001 : decode cL_law 1001 = .ok (.iadd, 1) := by decide +kernel
theorem dL_law_1002 : decode cL_law 1002 = .ok (.iaload, 1) := by decide +kernel
theorem dL_law_1003 : decode cL_law 1003 = .ok (.aload_n 0, 1) := by decide +kernel
theorem dL_law_1004 : decode cL_law 1004 = .ok (.iload_n 3, 1) := by decide +kernel
theorem dL_law_1005 : decode cL_law 1005 = .ok (.iconst 2, 1) := by decide +kernel
theorem dL_law_1006 : decode cL_law 1006 = .ok (.iadd, 1) := by decide +kernel
theorem dL_law_1007 : decode cL_law 1007 = .ok (.iaload, 1) := by decide +kernel
theorem dL_law_1008 : decode cL_law 1008 = .ok (.invokevirtual 133, 3) := by decide +kernel
theorem dL_law_1011 : decode cL_law 1011 = .ok (.if_icmp .eq 28, 3) := by decide +kernel
theorem dL_law_1014 : decode cL_law 1014 = .ok (.iconst 0, 1) := by decide +kernel
theorem dL_law_1015 : decode cL_law 1015 = .ok (.ireturn, 1) := by decide +kernel
theorem dL_law_1016 : decode cL_law 1016 = .ok (.aload_n 1, 1) := by decide +kernel
theorem dL_law_1017 : decode cL_law 1017 = .ok (.aload_n 0, 1) := by decide +kernel
theorem dL_law_1018 : decode cL_law 1018 = .ok (.iload_n 3, 1) := by decide +kernel
theorem dL_law_1019 : decode cL_law 1019 = .ok (.iconst 1, 1) := by decide +kernel
theorem dL_law_1020 : decode cL_law 1020 = .ok (.iadd, 1) := by decide +kernel
theorem dL_law_1021 : decode cL_law 1021 = .ok (.iaload, 1) := by decide +kernel
theorem dL_law_1022 : decode cL_law 1022 = .ok (.invokevirtual 134, 3) := by decide +kernel
theorem dL_law_1025 : decode cL_law 1025 = .ok (.aload_n 2, 1) := by decide +kernel
theorem dL_law_1026 : decode cL_law 1026 = .ok (.aload_n 0, 1) := by decide +kernel
theorem dL_law_1027 : decode cL_law 1027 = .ok (.iload_n 3, 1) := by decide +kernel
theorem dL_law_1028 : decode cL_law 1028 = .ok (.iconst 1, 1) := by decide +kernel
theorem dL_law_1029 : decode cL_law 1029 = .ok (.iadd, 1) := by decide +kernel
theorem dL_law_1030 : decode cL_law 1030 = .ok (.iaload, 1) := by decide +kernel
theorem dL_law_1031 : decode cL_law 1031 = .ok (.invokevirtual 137, 3) := by decide +kernel
theorem dL_law_1034 : decode cL_law 1034 = .ok (.if_icmp .eq 5, 3) := by decide +kernel
theorem dL_law_1037 : decode cL_law 1037 = .ok (.iconst 0, 1) := by decide +kernel
theorem dL_law_1038 : decode cL_law 1038 = .ok (.ireturn, 1) := by decide +kernel
theorem dL_law_1039 : decode cL_law 1039 = .ok (.iinc 3 4, 3) := by decide +kernel
theorem dL_law_1042 : decode cL_law 1042 = .ok (.goto (-1024), 3) := by decide +kernel
theorem dL_law_1045 : decode cL_law 1045 = .ok (.iconst 1, 1) := by decide +kernel
theorem dL_law_1046 : decode cL_law 1046 = .ok (.ireturn, 1) := by decide +kernel
