theorem aX0_init_0 : mm_at mX0_init 0 = some (.aload_n 0) := by decide +kernel
theorem aX0_init_1 : mm_at mX0_init 1 = some (.invokespecial 1) := by decide +kernel
theorem aX0_init_4 : mm_at mX0_init 4 = some (.aload_n 0) := by decide +kernel
theorem aX0_init_5 : mm_at mX0_init 5 = some (.iload_n 1) := by decide +kernel
theorem aX0_init_6 : mm_at mX0_init 6 = some (.putfield 7) := by decide +kernel
theorem aX0_init_9 : mm_at mX0_init 9 = some (.aload_n 0) := by decide +kernel
theorem aX0_init_10 : mm_at mX0_init 10 = some (.iload_n 2) := by decide +kernel
theorem aX0_init_11 : mm_at mX0_init 11 = some (.putfield 13) := by decide +kernel
theorem aX0_init_14 : mm_at mX0_init 14 = some (.aload_n 0) := by decide +kernel
theorem aX0_init_15 : mm_at mX0_init 15 = some (.iload_n 3) := by decide +kernel
theorem aX0_init_16 : mm_at mX0_init 16 = some (.putfield 16) := by decide +kernel
theorem aX0_init_19 : mm_at mX0_init 19 = some (.aload_n 0) := by decide +kernel
theorem aX0_init_20 : mm_at mX0_init 20 = some (.lload 4) := by decide +kernel
theorem aX0_init_22 : mm_at mX0_init 22 = some (.putfield 19) := by decide +kernel
theorem aX0_init_25 : mm_at mX0_init 25 = some (.aload_n 0) := by decide +kernel
theorem aX0_init_26 : mm_at mX0_init 26 = some (.aload 6) := by decide +kernel
theorem aX0_init_28 : mm_at mX0_init 28 = some (.putfield 23) := by decide +kernel
theorem aX0_init_31 : mm_at mX0_init 31 = some (.aload_n 0) := by decide +kernel
theorem aX0_init_32 : mm_at mX0_init 32 = some (.aload 7) := by decide +kernel
theorem aX0_init_34 : mm_at mX0_init 34 = some (.putfield 27) := by decide +kernel
theorem aX0_init_37 : mm_at mX0_init 37 = some (.return_) := by decide +kernel
theorem aX1_init_0 : mm_at mX1_init 0 = some (.aload_n 0) := by decide +kernel
theorem aX1_init_1 : mm_at mX1_init 1 = some (.invokespecial 3) := by decide +kernel
theorem aX1_init_4 : mm_at mX1_init 4 = some (.aload_n 0) := by decide +kernel
theorem aX1_init_5 : mm_at mX1_init 5 = some (.bipush 12) := by decide +kernel
theorem aX1_init_7 : mm_at mX1_init 7 = some (.newarray .int) := by decide +kernel
theorem aX1_init_9 : mm_at mX1_init 9 = some (.putfield 9) := by decide +kernel
theorem aX1_init_12 : mm_at mX1_init 12 = some (.aload_n 0) := by decide +kernel
theorem aX1_init_13 : mm_at mX1_init 13 = some (.iconst 0) := by decide +kernel
theorem aX1_init_14 : mm_at mX1_init 14 = some (.putfield 15) := by decide +kernel
theorem aX1_init_17 : mm_at mX1_init 17 = some (.return_) := by decide +kernel
theorem aX1_hearerAt_0 : mm_at mX1_hearerAt 0 = some (.iload_n 1) := by decide +kernel
theorem aX1_hearerAt_1 : mm_at mX1_hearerAt 1 = some (.ifCond .lt 20) := by decide +kernel
theorem aX1_hearerAt_4 : mm_at mX1_hearerAt 4 = some (.iload_n 1) := by decide +kernel
theorem aX1_hearerAt_5 : mm_at mX1_hearerAt 5 = some (.aload_n 0) := by decide +kernel
theorem aX1_hearerAt_6 : mm_at mX1_hearerAt 6 = some (.getfield 19) := by decide +kernel
theorem aX1_hearerAt_9 : mm_at mX1_hearerAt 9 = some (.if_icmp .ge 12) := by decide +kernel
theorem aX1_hearerAt_12 : mm_at mX1_hearerAt 12 = some (.aload_n 0) := by decide +kernel
theorem aX1_hearerAt_13 : mm_at mX1_hearerAt 13 = some (.getfield 9) := by decide +kernel
theorem aX1_hearerAt_16 : mm_at mX1_hearerAt 16 = some (.iload_n 1) := by decide +kernel
theorem aX1_hearerAt_17 : mm_at mX1_hearerAt 17 = some (.iaload) := by decide +kernel
theorem aX1_hearerAt_18 : mm_at mX1_hearerAt 18 = some (.goto 4) := by decide +kernel
theorem aX1_hearerAt_21 : mm_at mX1_hearerAt 21 = some (.iconst (-1)) := by decide +kernel
theorem aX1_hearerAt_22 : mm_at mX1_hearerAt 22 = some (.ireturn) := by decide +kernel
theorem aX1_placeOf_0 : mm_at mX1_placeOf 0 = some (.iconst 0) := by decide +kernel
theorem aX1_placeOf_1 : mm_at mX1_placeOf 1 = some (.istore_n 2) := by decide +kernel
theorem aX1_placeOf_2 : mm_at mX1_placeOf 2 = some (.iload_n 2) := by decide +kernel
theorem aX1_placeOf_3 : mm_at mX1_placeOf 3 = some (.aload_n 0) := by decide +kernel
theorem aX1_placeOf_4 : mm_at mX1_placeOf 4 = some (.getfield 19) := by decide +kernel
theorem aX1_placeOf_7 : mm_at mX1_placeOf 7 = some (.if_icmp .ge 21) := by decide +kernel
theorem aX1_placeOf_10 : mm_at mX1_placeOf 10 = some (.aload_n 0) := by decide +kernel
theorem aX1_placeOf_11 : mm_at mX1_placeOf 11 = some (.getfield 9) := by decide +kernel
theorem aX1_placeOf_14 : mm_at mX1_placeOf 14 = some (.iload_n 2) := by decide +kernel
theorem aX1_placeOf_15 : mm_at mX1_placeOf 15 = some (.iaload) := by decide +kernel
theorem aX1_placeOf_16 : mm_at mX1_placeOf 16 = some (.iload_n 1) := by decide +kernel
theorem aX1_placeOf_17 : mm_at mX1_placeOf 17 = some (.if_icmp .ne 5) := by decide +kernel
theorem aX1_placeOf_20 : mm_at mX1_placeOf 20 = some (.iload_n 2) := by decide +kernel
theorem aX1_placeOf_21 : mm_at mX1_placeOf 21 = some (.ireturn) := by decide +kernel
theorem aX1_placeOf_22 : mm_at mX1_placeOf 22 = some (.iinc 2 1) := by decide +kernel
theorem aX1_placeOf_25 : mm_at mX1_placeOf 25 = some (.goto (-23)) := by decide +kernel
theorem aX1_placeOf_28 : mm_at mX1_placeOf 28 = some (.iconst (-1)) := by decide +kernel
theorem aX1_placeOf_29 : mm_at mX1_placeOf 29 = some (.ireturn) := by decide +kernel
theorem aX1_append_0 : mm_at mX1_append 0 = some (.aload_n 0) := by decide +kernel
theorem aX1_append_1 : mm_at mX1_append 1 = some (.iload_n 1) := by decide +kernel
theorem aX1_append_2 : mm_at mX1_append 2 = some (.invokevirtual 22) := by decide +kernel
theorem aX1_append_5 : mm_at mX1_append 5 = some (.iconst (-1)) := by decide +kernel
theorem aX1_append_6 : mm_at mX1_append 6 = some (.if_icmp .eq 5) := by decide +kernel
theorem aX1_append_9 : mm_at mX1_append 9 = some (.iconst (-1)) := by decide +kernel
theorem aX1_append_10 : mm_at mX1_append 10 = some (.ireturn) := by decide +kernel
theorem aX1_append_11 : mm_at mX1_append 11 = some (.aload_n 0) := by decide +kernel
theorem aX1_append_12 : mm_at mX1_append 12 = some (.getfield 19) := by decide +kernel
theorem aX1_append_15 : mm_at mX1_append 15 = some (.bipush 12) := by decide +kernel
theorem aX1_append_17 : mm_at mX1_append 17 = some (.if_icmp .lt 6) := by decide +kernel
theorem aX1_append_20 : mm_at mX1_append 20 = some (.bipush (-3)) := by decide +kernel
theorem aX1_append_22 : mm_at mX1_append 22 = some (.ireturn) := by decide +kernel
theorem aX1_append_23 : mm_at mX1_append 23 = some (.aload_n 0) := by decide +kernel
theorem aX1_append_24 : mm_at mX1_append 24 = some (.getfield 9) := by decide +kernel
theorem aX1_append_27 : mm_at mX1_append 27 = some (.aload_n 0) := by decide +kernel
theorem aX1_append_28 : mm_at mX1_append 28 = some (.getfield 19) := by decide +kernel
theorem aX1_append_31 : mm_at mX1_append 31 = some (.iload_n 1) := by decide +kernel
theorem aX1_append_32 : mm_at mX1_append 32 = some (.iastore) := by decide +kernel
theorem aX1_append_33 : mm_at mX1_append 33 = some (.aload_n 0) := by decide +kernel
theorem aX1_append_34 : mm_at mX1_append 34 = some (.dup) := by decide +kernel
theorem aX1_append_35 : mm_at mX1_append 35 = some (.getfield 19) := by decide +kernel
theorem aX1_append_38 : mm_at mX1_append 38 = some (.dup_x1) := by decide +kernel
theorem aX1_append_39 : mm_at mX1_append 39 = some (.iconst 1) := by decide +kernel
theorem aX1_append_40 : mm_at mX1_append 40 = some (.iadd) := by decide +kernel
theorem aX1_append_41 : mm_at mX1_append 41 = some (.putfield 19) := by decide +kernel
theorem aX1_append_44 : mm_at mX1_append 44 = some (.ireturn) := by decide +kernel
theorem aX1_remove_0 : mm_at mX1_remove 0 = some (.aload_n 0) := by decide +kernel
theorem aX1_remove_1 : mm_at mX1_remove 1 = some (.iload_n 1) := by decide +kernel
theorem aX1_remove_2 : mm_at mX1_remove 2 = some (.invokevirtual 22) := by decide +kernel
theorem aX1_remove_5 : mm_at mX1_remove 5 = some (.istore_n 2) := by decide +kernel
theorem aX1_remove_6 : mm_at mX1_remove 6 = some (.iload_n 2) := by decide +kernel
theorem aX1_remove_7 : mm_at mX1_remove 7 = some (.iconst (-1)) := by decide +kernel
theorem aX1_remove_8 : mm_at mX1_remove 8 = some (.if_icmp .ne 5) := by decide +kernel
theorem aX1_remove_11 : mm_at mX1_remove 11 = some (.iconst (-1)) := by decide +kernel
theorem aX1_remove_12 : mm_at mX1_remove 12 = some (.ireturn) := by decide +kernel
theorem aX1_remove_13 : mm_at mX1_remove 13 = some (.aload_n 0) := by decide +kernel
theorem aX1_remove_14 : mm_at mX1_remove 14 = some (.dup) := by decide +kernel
theorem aX1_remove_15 : mm_at mX1_remove 15 = some (.getfield 19) := by decide +kernel
theorem aX1_remove_18 : mm_at mX1_remove 18 = some (.iconst 1) := by decide +kernel
theorem aX1_remove_19 : mm_at mX1_remove 19 = some (.isub) := by decide +kernel
theorem aX1_remove_20 : mm_at mX1_remove 20 = some (.putfield 19) := by decide +kernel
theorem aX1_remove_23 : mm_at mX1_remove 23 = some (.iload_n 2) := by decide +kernel
theorem aX1_remove_24 : mm_at mX1_remove 24 = some (.istore_n 3) := by decide +kernel
theorem aX1_remove_25 : mm_at mX1_remove 25 = some (.iload_n 3) := by decide +kernel
theorem aX1_remove_26 : mm_at mX1_remove 26 = some (.aload_n 0) := by decide +kernel
theorem aX1_remove_27 : mm_at mX1_remove 27 = some (.getfield 19) := by decide +kernel
theorem aX1_remove_30 : mm_at mX1_remove 30 = some (.if_icmp .ge 23) := by decide +kernel
theorem aX1_remove_33 : mm_at mX1_remove 33 = some (.aload_n 0) := by decide +kernel
theorem aX1_remove_34 : mm_at mX1_remove 34 = some (.getfield 9) := by decide +kernel
theorem aX1_remove_37 : mm_at mX1_remove 37 = some (.iload_n 3) := by decide +kernel
theorem aX1_remove_38 : mm_at mX1_remove 38 = some (.aload_n 0) := by decide +kernel
theorem aX1_remove_39 : mm_at mX1_remove 39 = some (.getfield 9) := by decide +kernel
theorem aX1_remove_42 : mm_at mX1_remove 42 = some (.iload_n 3) := by decide +kernel
theorem aX1_remove_43 : mm_at mX1_remove 43 = some (.iconst 1) := by decide +kernel
theorem aX1_remove_44 : mm_at mX1_remove 44 = some (.iadd) := by decide +kernel
theorem aX1_remove_45 : mm_at mX1_remove 45 = some (.iaload) := by decide +kernel
theorem aX1_remove_46 : mm_at mX1_remove 46 = some (.iastore) := by decide +kernel
theorem aX1_remove_47 : mm_at mX1_remove 47 = some (.iinc 3 1) := by decide +kernel
theorem aX1_remove_50 : mm_at mX1_remove 50 = some (.goto (-25)) := by decide +kernel
theorem aX1_remove_53 : mm_at mX1_remove 53 = some (.iload_n 2) := by decide +kernel
theorem aX1_remove_54 : mm_at mX1_remove 54 = some (.ireturn) := by decide +kernel
theorem aX1_copyLine_0 : mm_at mX1_copyLine 0 = some (.iconst 0) := by decide +kernel
theorem aX1_copyLine_1 : mm_at mX1_copyLine 1 = some (.istore_n 2) := by decide +kernel
theorem aX1_copyLine_2 : mm_at mX1_copyLine 2 = some (.iload_n 2) := by decide +kernel
theorem aX1_copyLine_3 : mm_at mX1_copyLine 3 = some (.aload_n 0) := by decide +kernel
theorem aX1_copyLine_4 : mm_at mX1_copyLine 4 = some (.getfield 19) := by decide +kernel
theorem aX1_copyLine_7 : mm_at mX1_copyLine 7 = some (.if_icmp .ge 18) := by decide +kernel
theorem aX1_copyLine_10 : mm_at mX1_copyLine 10 = some (.aload_n 1) := by decide +kernel
theorem aX1_copyLine_11 : mm_at mX1_copyLine 11 = some (.iload_n 2) := by decide +kernel
theorem aX1_copyLine_12 : mm_at mX1_copyLine 12 = some (.aload_n 0) := by decide +kernel
theorem aX1_copyLine_13 : mm_at mX1_copyLine 13 = some (.getfield 9) := by decide +kernel
theorem aX1_copyLine_16 : mm_at mX1_copyLine 16 = some (.iload_n 2) := by decide +kernel
theorem aX1_copyLine_17 : mm_at mX1_copyLine 17 = some (.iaload) := by decide +kernel
theorem aX1_copyLine_18 : mm_at mX1_copyLine 18 = some (.iastore) := by decide +kernel
theorem aX1_copyLine_19 : mm_at mX1_copyLine 19 = some (.iinc 2 1) := by decide +kernel
theorem aX1_copyLine_22 : mm_at mX1_copyLine 22 = some (.goto (-20)) := by decide +kernel
theorem aX1_copyLine_25 : mm_at mX1_copyLine 25 = some (.aload_n 0) := by decide +kernel
theorem aX1_copyLine_26 : mm_at mX1_copyLine 26 = some (.getfield 19) := by decide +kernel
theorem aX1_copyLine_29 : mm_at mX1_copyLine 29 = some (.ireturn) := by decide +kernel
theorem aX2_init_0 : mm_at mX2_init 0 = some (.aload_n 0) := by decide +kernel
theorem aX2_init_1 : mm_at mX2_init 1 = some (.invokespecial 3) := by decide +kernel
theorem aX2_init_4 : mm_at mX2_init 4 = some (.aload_n 0) := by decide +kernel
theorem aX2_init_5 : mm_at mX2_init 5 = some (.bipush 20) := by decide +kernel
theorem aX2_init_7 : mm_at mX2_init 7 = some (.newarray .int) := by decide +kernel
theorem aX2_init_9 : mm_at mX2_init 9 = some (.putfield 9) := by decide +kernel
theorem aX2_init_12 : mm_at mX2_init 12 = some (.aload_n 0) := by decide +kernel
theorem aX2_init_13 : mm_at mX2_init 13 = some (.bipush 20) := by decide +kernel
theorem aX2_init_15 : mm_at mX2_init 15 = some (.newarray .long) := by decide +kernel
theorem aX2_init_17 : mm_at mX2_init 17 = some (.putfield 15) := by decide +kernel
theorem aX2_init_20 : mm_at mX2_init 20 = some (.return_) := by decide +kernel
theorem aX2_append_0 : mm_at mX2_append 0 = some (.aload_n 0) := by decide +kernel
theorem aX2_append_1 : mm_at mX2_append 1 = some (.getfield 19) := by decide +kernel
theorem aX2_append_4 : mm_at mX2_append 4 = some (.bipush 20) := by decide +kernel
theorem aX2_append_6 : mm_at mX2_append 6 = some (.if_icmp .lt 5) := by decide +kernel
theorem aX2_append_9 : mm_at mX2_append 9 = some (.iconst 0) := by decide +kernel
theorem aX2_append_10 : mm_at mX2_append 10 = some (.ireturn) := by decide +kernel
theorem aX2_append_11 : mm_at mX2_append 11 = some (.aload_n 0) := by decide +kernel
theorem aX2_append_12 : mm_at mX2_append 12 = some (.getfield 23) := by decide +kernel
theorem aX2_append_15 : mm_at mX2_append 15 = some (.aload_n 0) := by decide +kernel
theorem aX2_append_16 : mm_at mX2_append 16 = some (.getfield 19) := by decide +kernel
theorem aX2_append_19 : mm_at mX2_append 19 = some (.iadd) := by decide +kernel
theorem aX2_append_20 : mm_at mX2_append 20 = some (.bipush 20) := by decide +kernel
theorem aX2_append_22 : mm_at mX2_append 22 = some (.irem) := by decide +kernel
theorem aX2_append_23 : mm_at mX2_append 23 = some (.istore 4) := by decide +kernel
theorem aX2_append_25 : mm_at mX2_append 25 = some (.aload_n 0) := by decide +kernel
theorem aX2_append_26 : mm_at mX2_append 26 = some (.getfield 9) := by decide +kernel
theorem aX2_append_29 : mm_at mX2_append 29 = some (.iload 4) := by decide +kernel
theorem aX2_append_31 : mm_at mX2_append 31 = some (.iload_n 1) := by decide +kernel
theorem aX2_append_32 : mm_at mX2_append 32 = some (.iastore) := by decide +kernel
theorem aX2_append_33 : mm_at mX2_append 33 = some (.aload_n 0) := by decide +kernel
theorem aX2_append_34 : mm_at mX2_append 34 = some (.getfield 15) := by decide +kernel
theorem aX2_append_37 : mm_at mX2_append 37 = some (.iload 4) := by decide +kernel
theorem aX2_append_39 : mm_at mX2_append 39 = some (.lload_n 2) := by decide +kernel
theorem aX2_append_40 : mm_at mX2_append 40 = some (.lastore) := by decide +kernel
theorem aX2_append_41 : mm_at mX2_append 41 = some (.aload_n 0) := by decide +kernel
theorem aX2_append_42 : mm_at mX2_append 42 = some (.dup) := by decide +kernel
theorem aX2_append_43 : mm_at mX2_append 43 = some (.getfield 19) := by decide +kernel
theorem aX2_append_46 : mm_at mX2_append 46 = some (.iconst 1) := by decide +kernel
theorem aX2_append_47 : mm_at mX2_append 47 = some (.iadd) := by decide +kernel
theorem aX2_append_48 : mm_at mX2_append 48 = some (.putfield 19) := by decide +kernel
theorem aX2_append_51 : mm_at mX2_append 51 = some (.iconst 1) := by decide +kernel
theorem aX2_append_52 : mm_at mX2_append 52 = some (.ireturn) := by decide +kernel
theorem aX2_bellAt_0 : mm_at mX2_bellAt 0 = some (.iload_n 1) := by decide +kernel
theorem aX2_bellAt_1 : mm_at mX2_bellAt 1 = some (.ifCond .lt 28) := by decide +kernel
theorem aX2_bellAt_4 : mm_at mX2_bellAt 4 = some (.iload_n 1) := by decide +kernel
theorem aX2_bellAt_5 : mm_at mX2_bellAt 5 = some (.aload_n 0) := by decide +kernel
theorem aX2_bellAt_6 : mm_at mX2_bellAt 6 = some (.getfield 19) := by decide +kernel
theorem aX2_bellAt_9 : mm_at mX2_bellAt 9 = some (.if_icmp .ge 20) := by decide +kernel
theorem aX2_bellAt_12 : mm_at mX2_bellAt 12 = some (.aload_n 0) := by decide +kernel
theorem aX2_bellAt_13 : mm_at mX2_bellAt 13 = some (.getfield 9) := by decide +kernel
theorem aX2_bellAt_16 : mm_at mX2_bellAt 16 = some (.aload_n 0) := by decide +kernel
theorem aX2_bellAt_17 : mm_at mX2_bellAt 17 = some (.getfield 23) := by decide +kernel
theorem aX2_bellAt_20 : mm_at mX2_bellAt 20 = some (.iload_n 1) := by decide +kernel
theorem aX2_bellAt_21 : mm_at mX2_bellAt 21 = some (.iadd) := by decide +kernel
theorem aX2_bellAt_22 : mm_at mX2_bellAt 22 = some (.bipush 20) := by decide +kernel
theorem aX2_bellAt_24 : mm_at mX2_bellAt 24 = some (.irem) := by decide +kernel
theorem aX2_bellAt_25 : mm_at mX2_bellAt 25 = some (.iaload) := by decide +kernel
theorem aX2_bellAt_26 : mm_at mX2_bellAt 26 = some (.goto 4) := by decide +kernel
theorem aX2_bellAt_29 : mm_at mX2_bellAt 29 = some (.iconst (-1)) := by decide +kernel
theorem aX2_bellAt_30 : mm_at mX2_bellAt 30 = some (.ireturn) := by decide +kernel
theorem aX2_firstBell_0 : mm_at mX2_firstBell 0 = some (.aload_n 0) := by decide +kernel
theorem aX2_firstBell_1 : mm_at mX2_firstBell 1 = some (.getfield 9) := by decide +kernel
theorem aX2_firstBell_4 : mm_at mX2_firstBell 4 = some (.aload_n 0) := by decide +kernel
theorem aX2_firstBell_5 : mm_at mX2_firstBell 5 = some (.getfield 23) := by decide +kernel
theorem aX2_firstBell_8 : mm_at mX2_firstBell 8 = some (.iaload) := by decide +kernel
theorem aX2_firstBell_9 : mm_at mX2_firstBell 9 = some (.ireturn) := by decide +kernel
theorem aX2_firstValue_0 : mm_at mX2_firstValue 0 = some (.aload_n 0) := by decide +kernel
theorem aX2_firstValue_1 : mm_at mX2_firstValue 1 = some (.getfield 15) := by decide +kernel
theorem aX2_firstValue_4 : mm_at mX2_firstValue 4 = some (.aload_n 0) := by decide +kernel
theorem aX2_firstValue_5 : mm_at mX2_firstValue 5 = some (.getfield 23) := by decide +kernel
theorem aX2_firstValue_8 : mm_at mX2_firstValue 8 = some (.laload) := by decide +kernel
theorem aX2_firstValue_9 : mm_at mX2_firstValue 9 = some (.lreturn) := by decide +kernel
theorem aX2_dropFirst_0 : mm_at mX2_dropFirst 0 = some (.aload_n 0) := by decide +kernel
theorem aX2_dropFirst_1 : mm_at mX2_dropFirst 1 = some (.getfield 19) := by decide +kernel
theorem aX2_dropFirst_4 : mm_at mX2_dropFirst 4 = some (.ifCond .le 26) := by decide +kernel
theorem aX2_dropFirst_7 : mm_at mX2_dropFirst 7 = some (.aload_n 0) := by decide +kernel
theorem aX2_dropFirst_8 : mm_at mX2_dropFirst 8 = some (.aload_n 0) := by decide +kernel
theorem aX2_dropFirst_9 : mm_at mX2_dropFirst 9 = some (.getfield 23) := by decide +kernel
theorem aX2_dropFirst_12 : mm_at mX2_dropFirst 12 = some (.iconst 1) := by decide +kernel
theorem aX2_dropFirst_13 : mm_at mX2_dropFirst 13 = some (.iadd) := by decide +kernel
theorem aX2_dropFirst_14 : mm_at mX2_dropFirst 14 = some (.bipush 20) := by decide +kernel
theorem aX2_dropFirst_16 : mm_at mX2_dropFirst 16 = some (.irem) := by decide +kernel
theorem aX2_dropFirst_17 : mm_at mX2_dropFirst 17 = some (.putfield 23) := by decide +kernel
theorem aX2_dropFirst_20 : mm_at mX2_dropFirst 20 = some (.aload_n 0) := by decide +kernel
theorem aX2_dropFirst_21 : mm_at mX2_dropFirst 21 = some (.dup) := by decide +kernel
theorem aX2_dropFirst_22 : mm_at mX2_dropFirst 22 = some (.getfield 19) := by decide +kernel
theorem aX2_dropFirst_25 : mm_at mX2_dropFirst 25 = some (.iconst 1) := by decide +kernel
theorem aX2_dropFirst_26 : mm_at mX2_dropFirst 26 = some (.isub) := by decide +kernel
theorem aX2_dropFirst_27 : mm_at mX2_dropFirst 27 = some (.putfield 19) := by decide +kernel
theorem aX2_dropFirst_30 : mm_at mX2_dropFirst 30 = some (.return_) := by decide +kernel
theorem aX3_init_0 : mm_at mX3_init 0 = some (.aload_n 0) := by decide +kernel
theorem aX3_init_1 : mm_at mX3_init 1 = some (.invokespecial 1) := by decide +kernel
theorem aX3_init_4 : mm_at mX3_init 4 = some (.aload_n 0) := by decide +kernel
theorem aX3_init_5 : mm_at mX3_init 5 = some (.bipush 8) := by decide +kernel
theorem aX3_init_7 : mm_at mX3_init 7 = some (.newarray .long) := by decide +kernel
theorem aX3_init_9 : mm_at mX3_init 9 = some (.putfield 9) := by decide +kernel
theorem aX3_init_12 : mm_at mX3_init 12 = some (.aload_n 0) := by decide +kernel
theorem aX3_init_13 : mm_at mX3_init 13 = some (.bipush 6) := by decide +kernel
theorem aX3_init_15 : mm_at mX3_init 15 = some (.anewarray 13) := by decide +kernel
theorem aX3_init_18 : mm_at mX3_init 18 = some (.putfield 15) := by decide +kernel
theorem aX3_init_21 : mm_at mX3_init 21 = some (.aload_n 0) := by decide +kernel
theorem aX3_init_22 : mm_at mX3_init 22 = some (.new 19) := by decide +kernel
theorem aX3_init_25 : mm_at mX3_init 25 = some (.dup) := by decide +kernel
theorem aX3_init_26 : mm_at mX3_init 26 = some (.invokespecial 21) := by decide +kernel
theorem aX3_init_29 : mm_at mX3_init 29 = some (.putfield 22) := by decide +kernel
theorem aX3_init_32 : mm_at mX3_init 32 = some (.aload_n 0) := by decide +kernel
theorem aX3_init_33 : mm_at mX3_init 33 = some (.bipush 40) := by decide +kernel
theorem aX3_init_35 : mm_at mX3_init 35 = some (.anewarray 26) := by decide +kernel
theorem aX3_init_38 : mm_at mX3_init 38 = some (.putfield 28) := by decide +kernel
theorem aX3_init_41 : mm_at mX3_init 41 = some (.aload_n 0) := by decide +kernel
theorem aX3_init_42 : mm_at mX3_init 42 = some (.bipush 40) := by decide +kernel
theorem aX3_init_44 : mm_at mX3_init 44 = some (.anewarray 26) := by decide +kernel
theorem aX3_init_47 : mm_at mX3_init 47 = some (.putfield 32) := by decide +kernel
theorem aX3_init_50 : mm_at mX3_init 50 = some (.aload_n 0) := by decide +kernel
theorem aX3_init_51 : mm_at mX3_init 51 = some (.bipush 8) := by decide +kernel
theorem aX3_init_53 : mm_at mX3_init 53 = some (.bipush 12) := by decide +kernel
theorem aX3_init_55 : mm_at mX3_init 55 = some (.multianewarray 35 2) := by decide +kernel
theorem aX3_init_59 : mm_at mX3_init 59 = some (.putfield 37) := by decide +kernel
theorem aX3_init_62 : mm_at mX3_init 62 = some (.iconst 0) := by decide +kernel
theorem aX3_init_63 : mm_at mX3_init 63 = some (.istore_n 1) := by decide +kernel
theorem aX3_init_64 : mm_at mX3_init 64 = some (.iload_n 1) := by decide +kernel
theorem aX3_init_65 : mm_at mX3_init 65 = some (.bipush 6) := by decide +kernel
theorem aX3_init_67 : mm_at mX3_init 67 = some (.if_icmp .ge 22) := by decide +kernel
theorem aX3_init_70 : mm_at mX3_init 70 = some (.aload_n 0) := by decide +kernel
theorem aX3_init_71 : mm_at mX3_init 71 = some (.getfield 15) := by decide +kernel
theorem aX3_init_74 : mm_at mX3_init 74 = some (.iload_n 1) := by decide +kernel
theorem aX3_init_75 : mm_at mX3_init 75 = some (.new 13) := by decide +kernel
theorem aX3_init_78 : mm_at mX3_init 78 = some (.dup) := by decide +kernel
theorem aX3_init_79 : mm_at mX3_init 79 = some (.invokespecial 40) := by decide +kernel
theorem aX3_init_82 : mm_at mX3_init 82 = some (.aastore) := by decide +kernel
theorem aX3_init_83 : mm_at mX3_init 83 = some (.iinc 1 1) := by decide +kernel
theorem aX3_init_86 : mm_at mX3_init 86 = some (.goto (-22)) := by decide +kernel
theorem aX3_init_89 : mm_at mX3_init 89 = some (.aload_n 0) := by decide +kernel
theorem aX3_init_90 : mm_at mX3_init 90 = some (.iconst 0) := by decide +kernel
theorem aX3_init_91 : mm_at mX3_init 91 = some (.iconst 0) := by decide +kernel
theorem aX3_init_92 : mm_at mX3_init 92 = some (.iconst 0) := by decide +kernel
theorem aX3_init_93 : mm_at mX3_init 93 = some (.invokevirtual 41) := by decide +kernel
theorem aX3_init_96 : mm_at mX3_init 96 = some (.pop) := by decide +kernel
theorem aX3_init_97 : mm_at mX3_init 97 = some (.aload_n 0) := by decide +kernel
theorem aX3_init_98 : mm_at mX3_init 98 = some (.bipush 7) := by decide +kernel
theorem aX3_init_100 : mm_at mX3_init 100 = some (.iconst 0) := by decide +kernel
theorem aX3_init_101 : mm_at mX3_init 101 = some (.iconst 0) := by decide +kernel
theorem aX3_init_102 : mm_at mX3_init 102 = some (.invokevirtual 41) := by decide +kernel
theorem aX3_init_105 : mm_at mX3_init 105 = some (.pop) := by decide +kernel
theorem aX3_init_106 : mm_at mX3_init 106 = some (.return_) := by decide +kernel
theorem aX3_tally_0 : mm_at mX3_tally 0 = some (.iload_n 1) := by decide +kernel
theorem aX3_tally_1 : mm_at mX3_tally 1 = some (.i2l) := by decide +kernel
theorem aX3_tally_2 : mm_at mX3_tally 2 = some (.invokestatic 45) := by decide +kernel
theorem aX3_tally_5 : mm_at mX3_tally 5 = some (.ifCond .ne 6) := by decide +kernel
theorem aX3_tally_8 : mm_at mX3_tally 8 = some (.bipush (-2)) := by decide +kernel
theorem aX3_tally_10 : mm_at mX3_tally 10 = some (.ireturn) := by decide +kernel
theorem aX3_tally_11 : mm_at mX3_tally 11 = some (.aload_n 0) := by decide +kernel
theorem aX3_tally_12 : mm_at mX3_tally 12 = some (.getfield 9) := by decide +kernel
theorem aX3_tally_15 : mm_at mX3_tally 15 = some (.iload_n 1) := by decide +kernel
theorem aX3_tally_16 : mm_at mX3_tally 16 = some (.lload_n 2) := by decide +kernel
theorem aX3_tally_17 : mm_at mX3_tally 17 = some (.lastore) := by decide +kernel
theorem aX3_tally_18 : mm_at mX3_tally 18 = some (.iconst 1) := by decide +kernel
theorem aX3_tally_19 : mm_at mX3_tally 19 = some (.ireturn) := by decide +kernel
theorem aX3_way_0 : mm_at mX3_way 0 = some (.iload_n 1) := by decide +kernel
theorem aX3_way_1 : mm_at mX3_way 1 = some (.invokestatic 49) := by decide +kernel
theorem aX3_way_4 : mm_at mX3_way 4 = some (.ifCond .eq 12) := by decide +kernel
theorem aX3_way_7 : mm_at mX3_way 7 = some (.iload_n 2) := by decide +kernel
theorem aX3_way_8 : mm_at mX3_way 8 = some (.ifCond .eq 11) := by decide +kernel
theorem aX3_way_11 : mm_at mX3_way 11 = some (.iload_n 2) := by decide +kernel
theorem aX3_way_12 : mm_at mX3_way 12 = some (.iconst 1) := by decide +kernel
theorem aX3_way_13 : mm_at mX3_way 13 = some (.if_icmp .eq 6) := by decide +kernel
theorem aX3_way_16 : mm_at mX3_way 16 = some (.bipush (-2)) := by decide +kernel
theorem aX3_way_18 : mm_at mX3_way 18 = some (.ireturn) := by decide +kernel
theorem aX3_way_19 : mm_at mX3_way 19 = some (.aload_n 0) := by decide +kernel
theorem aX3_way_20 : mm_at mX3_way 20 = some (.getfield 15) := by decide +kernel
theorem aX3_way_23 : mm_at mX3_way 23 = some (.iload_n 1) := by decide +kernel
theorem aX3_way_24 : mm_at mX3_way 24 = some (.aaload) := by decide +kernel
theorem aX3_way_25 : mm_at mX3_way 25 = some (.getfield 53) := by decide +kernel
theorem aX3_way_28 : mm_at mX3_way 28 = some (.istore_n 3) := by decide +kernel
theorem aX3_way_29 : mm_at mX3_way 29 = some (.aload_n 0) := by decide +kernel
theorem aX3_way_30 : mm_at mX3_way 30 = some (.getfield 15) := by decide +kernel
theorem aX3_way_33 : mm_at mX3_way 33 = some (.iload_n 1) := by decide +kernel
theorem aX3_way_34 : mm_at mX3_way 34 = some (.aaload) := by decide +kernel
theorem aX3_way_35 : mm_at mX3_way 35 = some (.iload_n 2) := by decide +kernel
theorem aX3_way_36 : mm_at mX3_way 36 = some (.putfield 53) := by decide +kernel
theorem aX3_way_39 : mm_at mX3_way 39 = some (.iload_n 3) := by decide +kernel
theorem aX3_way_40 : mm_at mX3_way 40 = some (.ireturn) := by decide +kernel
theorem aX3_hearer_0 : mm_at mX3_hearer 0 = some (.aload_n 0) := by decide +kernel
theorem aX3_hearer_1 : mm_at mX3_hearer 1 = some (.iload_n 1) := by decide +kernel
theorem aX3_hearer_2 : mm_at mX3_hearer 2 = some (.iload_n 2) := by decide +kernel
theorem aX3_hearer_3 : mm_at mX3_hearer 3 = some (.iload_n 3) := by decide +kernel
theorem aX3_hearer_4 : mm_at mX3_hearer 4 = some (.invokevirtual 57) := by decide +kernel
theorem aX3_hearer_7 : mm_at mX3_hearer 7 = some (.ifCond .ne 6) := by decide +kernel
theorem aX3_hearer_10 : mm_at mX3_hearer 10 = some (.bipush (-2)) := by decide +kernel
theorem aX3_hearer_12 : mm_at mX3_hearer 12 = some (.ireturn) := by decide +kernel
theorem aX3_hearer_13 : mm_at mX3_hearer 13 = some (.aload_n 0) := by decide +kernel
theorem aX3_hearer_14 : mm_at mX3_hearer 14 = some (.getfield 61) := by decide +kernel
theorem aX3_hearer_17 : mm_at mX3_hearer 17 = some (.bipush 40) := by decide +kernel
theorem aX3_hearer_19 : mm_at mX3_hearer 19 = some (.if_icmp .lt 8) := by decide +kernel
theorem aX3_hearer_22 : mm_at mX3_hearer 22 = some (.bipush (-3)) := by decide +kernel
theorem aX3_hearer_24 : mm_at mX3_hearer 24 = some (.goto 10) := by decide +kernel
theorem aX3_hearer_27 : mm_at mX3_hearer 27 = some (.aload_n 0) := by decide +kernel
theorem aX3_hearer_28 : mm_at mX3_hearer 28 = some (.iload_n 1) := by decide +kernel
theorem aX3_hearer_29 : mm_at mX3_hearer 29 = some (.iload_n 2) := by decide +kernel
theorem aX3_hearer_30 : mm_at mX3_hearer 30 = some (.iload_n 3) := by decide +kernel
theorem aX3_hearer_31 : mm_at mX3_hearer 31 = some (.invokevirtual 41) := by decide +kernel
theorem aX3_hearer_34 : mm_at mX3_hearer 34 = some (.ireturn) := by decide +kernel
theorem aX3_bind_0 : mm_at mX3_bind 0 = some (.aload_n 0) := by decide +kernel
theorem aX3_bind_1 : mm_at mX3_bind 1 = some (.iload_n 1) := by decide +kernel
theorem aX3_bind_2 : mm_at mX3_bind 2 = some (.invokevirtual 64) := by decide +kernel
theorem aX3_bind_5 : mm_at mX3_bind 5 = some (.ifCond .eq 23) := by decide +kernel
theorem aX3_bind_8 : mm_at mX3_bind 8 = some (.iload_n 2) := by decide +kernel
theorem aX3_bind_9 : mm_at mX3_bind 9 = some (.invokestatic 49) := by decide +kernel
theorem aX3_bind_12 : mm_at mX3_bind 12 = some (.ifCond .eq 16) := by decide +kernel
theorem aX3_bind_15 : mm_at mX3_bind 15 = some (.aload_n 0) := by decide +kernel
theorem aX3_bind_16 : mm_at mX3_bind 16 = some (.getfield 15) := by decide +kernel
theorem aX3_bind_19 : mm_at mX3_bind 19 = some (.iload_n 2) := by decide +kernel
theorem aX3_bind_20 : mm_at mX3_bind 20 = some (.aaload) := by decide +kernel
theorem aX3_bind_21 : mm_at mX3_bind 21 = some (.iload_n 1) := by decide +kernel
theorem aX3_bind_22 : mm_at mX3_bind 22 = some (.invokevirtual 67) := by decide +kernel
theorem aX3_bind_25 : mm_at mX3_bind 25 = some (.goto 5) := by decide +kernel
theorem aX3_bind_28 : mm_at mX3_bind 28 = some (.bipush (-2)) := by decide +kernel
theorem aX3_bind_30 : mm_at mX3_bind 30 = some (.ireturn) := by decide +kernel
theorem aX3_leave_0 : mm_at mX3_leave 0 = some (.aload_n 0) := by decide +kernel
theorem aX3_leave_1 : mm_at mX3_leave 1 = some (.iload_n 1) := by decide +kernel
theorem aX3_leave_2 : mm_at mX3_leave 2 = some (.invokevirtual 64) := by decide +kernel
theorem aX3_leave_5 : mm_at mX3_leave 5 = some (.ifCond .eq 23) := by decide +kernel
theorem aX3_leave_8 : mm_at mX3_leave 8 = some (.iload_n 2) := by decide +kernel
theorem aX3_leave_9 : mm_at mX3_leave 9 = some (.invokestatic 49) := by decide +kernel
theorem aX3_leave_12 : mm_at mX3_leave 12 = some (.ifCond .eq 16) := by decide +kernel
theorem aX3_leave_15 : mm_at mX3_leave 15 = some (.aload_n 0) := by decide +kernel
theorem aX3_leave_16 : mm_at mX3_leave 16 = some (.getfield 15) := by decide +kernel
theorem aX3_leave_19 : mm_at mX3_leave 19 = some (.iload_n 2) := by decide +kernel
theorem aX3_leave_20 : mm_at mX3_leave 20 = some (.aaload) := by decide +kernel
theorem aX3_leave_21 : mm_at mX3_leave 21 = some (.iload_n 1) := by decide +kernel
theorem aX3_leave_22 : mm_at mX3_leave 22 = some (.invokevirtual 71) := by decide +kernel
theorem aX3_leave_25 : mm_at mX3_leave 25 = some (.goto 5) := by decide +kernel
theorem aX3_leave_28 : mm_at mX3_leave 28 = some (.bipush (-2)) := by decide +kernel
theorem aX3_leave_30 : mm_at mX3_leave 30 = some (.ireturn) := by decide +kernel
theorem aX3_take_0 : mm_at mX3_take 0 = some (.aload_n 0) := by decide +kernel
theorem aX3_take_1 : mm_at mX3_take 1 = some (.iload_n 1) := by decide +kernel
theorem aX3_take_2 : mm_at mX3_take 2 = some (.invokevirtual 64) := by decide +kernel
theorem aX3_take_5 : mm_at mX3_take 5 = some (.ifCond .ne 6) := by decide +kernel
theorem aX3_take_8 : mm_at mX3_take 8 = some (.bipush (-2)) := by decide +kernel
theorem aX3_take_10 : mm_at mX3_take 10 = some (.ireturn) := by decide +kernel
theorem aX3_take_11 : mm_at mX3_take 11 = some (.aload_n 0) := by decide +kernel
theorem aX3_take_12 : mm_at mX3_take 12 = some (.getfield 32) := by decide +kernel
theorem aX3_take_15 : mm_at mX3_take 15 = some (.iload_n 1) := by decide +kernel
theorem aX3_take_16 : mm_at mX3_take 16 = some (.aaload) := by decide +kernel
theorem aX3_take_17 : mm_at mX3_take 17 = some (.ifnonnull 7) := by decide +kernel
theorem aX3_take_20 : mm_at mX3_take 20 = some (.iconst 0) := by decide +kernel
theorem aX3_take_21 : mm_at mX3_take 21 = some (.goto 4) := by decide +kernel
theorem aX3_take_24 : mm_at mX3_take 24 = some (.iconst 1) := by decide +kernel
theorem aX3_take_25 : mm_at mX3_take 25 = some (.istore_n 2) := by decide +kernel
theorem aX3_take_26 : mm_at mX3_take 26 = some (.aload_n 0) := by decide +kernel
theorem aX3_take_27 : mm_at mX3_take 27 = some (.getfield 32) := by decide +kernel
theorem aX3_take_30 : mm_at mX3_take 30 = some (.iload_n 1) := by decide +kernel
theorem aX3_take_31 : mm_at mX3_take 31 = some (.aconst_null) := by decide +kernel
theorem aX3_take_32 : mm_at mX3_take 32 = some (.aastore) := by decide +kernel
theorem aX3_take_33 : mm_at mX3_take 33 = some (.iload_n 2) := by decide +kernel
theorem aX3_take_34 : mm_at mX3_take 34 = some (.ireturn) := by decide +kernel
theorem aX3_lend_0 : mm_at mX3_lend 0 = some (.aload_n 0) := by decide +kernel
theorem aX3_lend_1 : mm_at mX3_lend 1 = some (.iload_n 1) := by decide +kernel
theorem aX3_lend_2 : mm_at mX3_lend 2 = some (.invokevirtual 64) := by decide +kernel
theorem aX3_lend_5 : mm_at mX3_lend 5 = some (.ifCond .eq 11) := by decide +kernel
theorem aX3_lend_8 : mm_at mX3_lend 8 = some (.aload_n 0) := by decide +kernel
theorem aX3_lend_9 : mm_at mX3_lend 9 = some (.iload_n 2) := by decide +kernel
theorem aX3_lend_10 : mm_at mX3_lend 10 = some (.invokevirtual 64) := by decide +kernel
theorem aX3_lend_13 : mm_at mX3_lend 13 = some (.ifCond .ne 6) := by decide +kernel
theorem aX3_lend_16 : mm_at mX3_lend 16 = some (.bipush (-2)) := by decide +kernel
theorem aX3_lend_18 : mm_at mX3_lend 18 = some (.ireturn) := by decide +kernel
theorem aX3_lend_19 : mm_at mX3_lend 19 = some (.aload_n 0) := by decide +kernel
theorem aX3_lend_20 : mm_at mX3_lend 20 = some (.getfield 32) := by decide +kernel
theorem aX3_lend_23 : mm_at mX3_lend 23 = some (.iload_n 1) := by decide +kernel
theorem aX3_lend_24 : mm_at mX3_lend 24 = some (.aload_n 0) := by decide +kernel
theorem aX3_lend_25 : mm_at mX3_lend 25 = some (.getfield 32) := by decide +kernel
theorem aX3_lend_28 : mm_at mX3_lend 28 = some (.iload_n 2) := by decide +kernel
theorem aX3_lend_29 : mm_at mX3_lend 29 = some (.aaload) := by decide +kernel
theorem aX3_lend_30 : mm_at mX3_lend 30 = some (.aastore) := by decide +kernel
theorem aX3_lend_31 : mm_at mX3_lend 31 = some (.iconst 1) := by decide +kernel
theorem aX3_lend_32 : mm_at mX3_lend 32 = some (.ireturn) := by decide +kernel
theorem aX3_ring_0 : mm_at mX3_ring 0 = some (.iload_n 1) := by decide +kernel
theorem aX3_ring_1 : mm_at mX3_ring 1 = some (.invokestatic 49) := by decide +kernel
theorem aX3_ring_4 : mm_at mX3_ring 4 = some (.ifCond .ne 6) := by decide +kernel
theorem aX3_ring_7 : mm_at mX3_ring 7 = some (.bipush (-2)) := by decide +kernel
theorem aX3_ring_9 : mm_at mX3_ring 9 = some (.ireturn) := by decide +kernel
theorem aX3_ring_10 : mm_at mX3_ring 10 = some (.aload_n 0) := by decide +kernel
theorem aX3_ring_11 : mm_at mX3_ring 11 = some (.getfield 74) := by decide +kernel
theorem aX3_ring_14 : mm_at mX3_ring 14 = some (.sipush 2000) := by decide +kernel
theorem aX3_ring_17 : mm_at mX3_ring 17 = some (.if_icmp .lt 6) := by decide +kernel
theorem aX3_ring_20 : mm_at mX3_ring 20 = some (.bipush (-3)) := by decide +kernel
theorem aX3_ring_22 : mm_at mX3_ring 22 = some (.ireturn) := by decide +kernel
theorem aX3_ring_23 : mm_at mX3_ring 23 = some (.aload_n 0) := by decide +kernel
theorem aX3_ring_24 : mm_at mX3_ring 24 = some (.iconst 0) := by decide +kernel
theorem aX3_ring_25 : mm_at mX3_ring 25 = some (.putfield 77) := by decide +kernel
theorem aX3_ring_28 : mm_at mX3_ring 28 = some (.aload_n 0) := by decide +kernel
theorem aX3_ring_29 : mm_at mX3_ring 29 = some (.aload_n 0) := by decide +kernel
theorem aX3_ring_30 : mm_at mX3_ring 30 = some (.aload_n 0) := by decide +kernel
theorem aX3_ring_31 : mm_at mX3_ring 31 = some (.iload_n 1) := by decide +kernel
theorem aX3_ring_32 : mm_at mX3_ring 32 = some (.lload_n 2) := by decide +kernel
theorem aX3_ring_33 : mm_at mX3_ring 33 = some (.invokevirtual 80) := by decide +kernel
theorem aX3_ring_36 : mm_at mX3_ring 36 = some (.invokevirtual 84) := by decide +kernel
theorem aX3_ring_39 : mm_at mX3_ring 39 = some (.invokevirtual 87) := by decide +kernel
theorem aX3_ring_42 : mm_at mX3_ring 42 = some (.ireturn) := by decide +kernel
theorem aX3_drain_0 : mm_at mX3_drain 0 = some (.aload_n 0) := by decide +kernel
theorem aX3_drain_1 : mm_at mX3_drain 1 = some (.getfield 74) := by decide +kernel
theorem aX3_drain_4 : mm_at mX3_drain 4 = some (.sipush 2000) := by decide +kernel
theorem aX3_drain_7 : mm_at mX3_drain 7 = some (.if_icmp .lt 6) := by decide +kernel
theorem aX3_drain_10 : mm_at mX3_drain 10 = some (.bipush (-3)) := by decide +kernel
theorem aX3_drain_12 : mm_at mX3_drain 12 = some (.ireturn) := by decide +kernel
theorem aX3_drain_13 : mm_at mX3_drain 13 = some (.aload_n 0) := by decide +kernel
theorem aX3_drain_14 : mm_at mX3_drain 14 = some (.iconst 0) := by decide +kernel
theorem aX3_drain_15 : mm_at mX3_drain 15 = some (.putfield 77) := by decide +kernel
theorem aX3_drain_18 : mm_at mX3_drain 18 = some (.aload_n 0) := by decide +kernel
theorem aX3_drain_19 : mm_at mX3_drain 19 = some (.aload_n 0) := by decide +kernel
theorem aX3_drain_20 : mm_at mX3_drain 20 = some (.iconst 0) := by decide +kernel
theorem aX3_drain_21 : mm_at mX3_drain 21 = some (.invokevirtual 84) := by decide +kernel
theorem aX3_drain_24 : mm_at mX3_drain 24 = some (.invokevirtual 87) := by decide +kernel
theorem aX3_drain_27 : mm_at mX3_drain 27 = some (.ireturn) := by decide +kernel
theorem aX3_act_0 : mm_at mX3_act 0 = some (.aload_n 0) := by decide +kernel
theorem aX3_act_1 : mm_at mX3_act 1 = some (.iload_n 1) := by decide +kernel
theorem aX3_act_2 : mm_at mX3_act 2 = some (.invokevirtual 64) := by decide +kernel
theorem aX3_act_5 : mm_at mX3_act 5 = some (.ifCond .ne 6) := by decide +kernel
theorem aX3_act_8 : mm_at mX3_act 8 = some (.bipush (-2)) := by decide +kernel
theorem aX3_act_10 : mm_at mX3_act 10 = some (.ireturn) := by decide +kernel
theorem aX3_act_11 : mm_at mX3_act 11 = some (.aload_n 0) := by decide +kernel
theorem aX3_act_12 : mm_at mX3_act 12 = some (.getfield 74) := by decide +kernel
theorem aX3_act_15 : mm_at mX3_act 15 = some (.sipush 2000) := by decide +kernel
theorem aX3_act_18 : mm_at mX3_act 18 = some (.if_icmp .lt 6) := by decide +kernel
theorem aX3_act_21 : mm_at mX3_act 21 = some (.bipush (-3)) := by decide +kernel
theorem aX3_act_23 : mm_at mX3_act 23 = some (.ireturn) := by decide +kernel
theorem aX3_act_24 : mm_at mX3_act 24 = some (.aload_n 0) := by decide +kernel
theorem aX3_act_25 : mm_at mX3_act 25 = some (.iconst 0) := by decide +kernel
theorem aX3_act_26 : mm_at mX3_act 26 = some (.putfield 77) := by decide +kernel
theorem aX3_act_29 : mm_at mX3_act 29 = some (.aload_n 0) := by decide +kernel
theorem aX3_act_30 : mm_at mX3_act 30 = some (.aload_n 0) := by decide +kernel
theorem aX3_act_31 : mm_at mX3_act 31 = some (.aload_n 0) := by decide +kernel
theorem aX3_act_32 : mm_at mX3_act 32 = some (.aload_n 0) := by decide +kernel
theorem aX3_act_33 : mm_at mX3_act 33 = some (.getfield 32) := by decide +kernel
theorem aX3_act_36 : mm_at mX3_act 36 = some (.iload_n 1) := by decide +kernel
theorem aX3_act_37 : mm_at mX3_act 37 = some (.aaload) := by decide +kernel
theorem aX3_act_38 : mm_at mX3_act 38 = some (.lload_n 2) := by decide +kernel
theorem aX3_act_39 : mm_at mX3_act 39 = some (.invokevirtual 90) := by decide +kernel
theorem aX3_act_42 : mm_at mX3_act 42 = some (.invokestatic 94) := by decide +kernel
theorem aX3_act_45 : mm_at mX3_act 45 = some (.invokevirtual 84) := by decide +kernel
theorem aX3_act_48 : mm_at mX3_act 48 = some (.invokevirtual 87) := by decide +kernel
theorem aX3_act_51 : mm_at mX3_act 51 = some (.ireturn) := by decide +kernel
theorem aX3_get_0 : mm_at mX3_get 0 = some (.iload_n 1) := by decide +kernel
theorem aX3_get_1 : mm_at mX3_get 1 = some (.i2l) := by decide +kernel
theorem aX3_get_2 : mm_at mX3_get 2 = some (.invokestatic 45) := by decide +kernel
theorem aX3_get_5 : mm_at mX3_get 5 = some (.ifCond .eq 12) := by decide +kernel
theorem aX3_get_8 : mm_at mX3_get 8 = some (.aload_n 0) := by decide +kernel
theorem aX3_get_9 : mm_at mX3_get 9 = some (.getfield 9) := by decide +kernel
theorem aX3_get_12 : mm_at mX3_get 12 = some (.iload_n 1) := by decide +kernel
theorem aX3_get_13 : mm_at mX3_get 13 = some (.laload) := by decide +kernel
theorem aX3_get_14 : mm_at mX3_get 14 = some (.goto 4) := by decide +kernel
theorem aX3_get_17 : mm_at mX3_get 17 = some (.lconst 0) := by decide +kernel
theorem aX3_get_18 : mm_at mX3_get 18 = some (.lreturn) := by decide +kernel
theorem aX3_line_0 : mm_at mX3_line 0 = some (.iload_n 1) := by decide +kernel
theorem aX3_line_1 : mm_at mX3_line 1 = some (.invokestatic 49) := by decide +kernel
theorem aX3_line_4 : mm_at mX3_line 4 = some (.ifCond .eq 16) := by decide +kernel
theorem aX3_line_7 : mm_at mX3_line 7 = some (.aload_n 0) := by decide +kernel
theorem aX3_line_8 : mm_at mX3_line 8 = some (.getfield 15) := by decide +kernel
theorem aX3_line_11 : mm_at mX3_line 11 = some (.iload_n 1) := by decide +kernel
theorem aX3_line_12 : mm_at mX3_line 12 = some (.aaload) := by decide +kernel
theorem aX3_line_13 : mm_at mX3_line 13 = some (.iload_n 2) := by decide +kernel
theorem aX3_line_14 : mm_at mX3_line 14 = some (.invokevirtual 97) := by decide +kernel
theorem aX3_line_17 : mm_at mX3_line 17 = some (.goto 5) := by decide +kernel
theorem aX3_line_20 : mm_at mX3_line 20 = some (.bipush (-2)) := by decide +kernel
theorem aX3_line_22 : mm_at mX3_line 22 = some (.ireturn) := by decide +kernel
theorem aX3_queued_0 : mm_at mX3_queued 0 = some (.aload_n 0) := by decide +kernel
theorem aX3_queued_1 : mm_at mX3_queued 1 = some (.getfield 22) := by decide +kernel
theorem aX3_queued_4 : mm_at mX3_queued 4 = some (.iload_n 1) := by decide +kernel
theorem aX3_queued_5 : mm_at mX3_queued 5 = some (.invokevirtual 100) := by decide +kernel
theorem aX3_queued_8 : mm_at mX3_queued 8 = some (.ireturn) := by decide +kernel
theorem aX3_count_0 : mm_at mX3_count 0 = some (.iload_n 1) := by decide +kernel
theorem aX3_count_1 : mm_at mX3_count 1 = some (.tableswitch 108 0 9 #[55, 60, 65, 70, 75, 80, 85, 90, 98, 103]) := by decide +kernel
theorem aX3_count_56 : mm_at mX3_count 56 = some (.aload_n 0) := by decide +kernel
theorem aX3_count_57 : mm_at mX3_count 57 = some (.getfield 61) := by decide +kernel
theorem aX3_count_60 : mm_at mX3_count 60 = some (.ireturn) := by decide +kernel
theorem aX3_count_61 : mm_at mX3_count 61 = some (.aload_n 0) := by decide +kernel
theorem aX3_count_62 : mm_at mX3_count 62 = some (.getfield 103) := by decide +kernel
theorem aX3_count_65 : mm_at mX3_count 65 = some (.ireturn) := by decide +kernel
theorem aX3_count_66 : mm_at mX3_count 66 = some (.aload_n 0) := by decide +kernel
theorem aX3_count_67 : mm_at mX3_count 67 = some (.getfield 106) := by decide +kernel
theorem aX3_count_70 : mm_at mX3_count 70 = some (.ireturn) := by decide +kernel
theorem aX3_count_71 : mm_at mX3_count 71 = some (.aload_n 0) := by decide +kernel
theorem aX3_count_72 : mm_at mX3_count 72 = some (.getfield 109) := by decide +kernel
theorem aX3_count_75 : mm_at mX3_count 75 = some (.ireturn) := by decide +kernel
theorem aX3_count_76 : mm_at mX3_count 76 = some (.aload_n 0) := by decide +kernel
theorem aX3_count_77 : mm_at mX3_count 77 = some (.getfield 112) := by decide +kernel
theorem aX3_count_80 : mm_at mX3_count 80 = some (.ireturn) := by decide +kernel
theorem aX3_count_81 : mm_at mX3_count 81 = some (.aload_n 0) := by decide +kernel
theorem aX3_count_82 : mm_at mX3_count 82 = some (.getfield 115) := by decide +kernel
theorem aX3_count_85 : mm_at mX3_count 85 = some (.ireturn) := by decide +kernel
theorem aX3_count_86 : mm_at mX3_count 86 = some (.aload_n 0) := by decide +kernel
theorem aX3_count_87 : mm_at mX3_count 87 = some (.getfield 118) := by decide +kernel
theorem aX3_count_90 : mm_at mX3_count 90 = some (.ireturn) := by decide +kernel
theorem aX3_count_91 : mm_at mX3_count 91 = some (.aload_n 0) := by decide +kernel
theorem aX3_count_92 : mm_at mX3_count 92 = some (.getfield 22) := by decide +kernel
theorem aX3_count_95 : mm_at mX3_count 95 = some (.getfield 121) := by decide +kernel
theorem aX3_count_98 : mm_at mX3_count 98 = some (.ireturn) := by decide +kernel
theorem aX3_count_99 : mm_at mX3_count 99 = some (.aload_n 0) := by decide +kernel
theorem aX3_count_100 : mm_at mX3_count 100 = some (.getfield 124) := by decide +kernel
theorem aX3_count_103 : mm_at mX3_count 103 = some (.ireturn) := by decide +kernel
theorem aX3_count_104 : mm_at mX3_count 104 = some (.aload_n 0) := by decide +kernel
theorem aX3_count_105 : mm_at mX3_count 105 = some (.getfield 74) := by decide +kernel
theorem aX3_count_108 : mm_at mX3_count 108 = some (.ireturn) := by decide +kernel
theorem aX3_count_109 : mm_at mX3_count 109 = some (.bipush (-2)) := by decide +kernel
theorem aX3_count_111 : mm_at mX3_count 111 = some (.ireturn) := by decide +kernel
theorem aX3_done_0 : mm_at mX3_done 0 = some (.aload_n 0) := by decide +kernel
theorem aX3_done_1 : mm_at mX3_done 1 = some (.iload_n 1) := by decide +kernel
theorem aX3_done_2 : mm_at mX3_done 2 = some (.invokevirtual 64) := by decide +kernel
theorem aX3_done_5 : mm_at mX3_done 5 = some (.ifCond .eq 15) := by decide +kernel
theorem aX3_done_8 : mm_at mX3_done 8 = some (.aload_n 0) := by decide +kernel
theorem aX3_done_9 : mm_at mX3_done 9 = some (.getfield 28) := by decide +kernel
theorem aX3_done_12 : mm_at mX3_done 12 = some (.iload_n 1) := by decide +kernel
theorem aX3_done_13 : mm_at mX3_done 13 = some (.aaload) := by decide +kernel
theorem aX3_done_14 : mm_at mX3_done 14 = some (.getfield 127) := by decide +kernel
theorem aX3_done_17 : mm_at mX3_done 17 = some (.goto 5) := by decide +kernel
theorem aX3_done_20 : mm_at mX3_done 20 = some (.bipush (-2)) := by decide +kernel
theorem aX3_done_22 : mm_at mX3_done 22 = some (.ireturn) := by decide +kernel
theorem aX3_isTally_0 : mm_at mX3_isTally 0 = some (.lload_n 0) := by decide +kernel
theorem aX3_isTally_1 : mm_at mX3_isTally 1 = some (.lconst 0) := by decide +kernel
theorem aX3_isTally_2 : mm_at mX3_isTally 2 = some (.lcmp) := by decide +kernel
theorem aX3_isTally_3 : mm_at mX3_isTally 3 = some (.ifCond .lt 15) := by decide +kernel
theorem aX3_isTally_6 : mm_at mX3_isTally 6 = some (.lload_n 0) := by decide +kernel
theorem aX3_isTally_7 : mm_at mX3_isTally 7 = some (.ldc2_w 130) := by decide +kernel
theorem aX3_isTally_10 : mm_at mX3_isTally 10 = some (.lcmp) := by decide +kernel
theorem aX3_isTally_11 : mm_at mX3_isTally 11 = some (.ifCond .ge 7) := by decide +kernel
theorem aX3_isTally_14 : mm_at mX3_isTally 14 = some (.iconst 1) := by decide +kernel
theorem aX3_isTally_15 : mm_at mX3_isTally 15 = some (.goto 4) := by decide +kernel
theorem aX3_isTally_18 : mm_at mX3_isTally 18 = some (.iconst 0) := by decide +kernel
theorem aX3_isTally_19 : mm_at mX3_isTally 19 = some (.ireturn) := by decide +kernel
theorem aX3_isBell_0 : mm_at mX3_isBell 0 = some (.iload_n 0) := by decide +kernel
theorem aX3_isBell_1 : mm_at mX3_isBell 1 = some (.ifCond .lt 13) := by decide +kernel
theorem aX3_isBell_4 : mm_at mX3_isBell 4 = some (.iload_n 0) := by decide +kernel
theorem aX3_isBell_5 : mm_at mX3_isBell 5 = some (.bipush 6) := by decide +kernel
theorem aX3_isBell_7 : mm_at mX3_isBell 7 = some (.if_icmp .ge 7) := by decide +kernel
theorem aX3_isBell_10 : mm_at mX3_isBell 10 = some (.iconst 1) := by decide +kernel
theorem aX3_isBell_11 : mm_at mX3_isBell 11 = some (.goto 4) := by decide +kernel
theorem aX3_isBell_14 : mm_at mX3_isBell 14 = some (.iconst 0) := by decide +kernel
theorem aX3_isBell_15 : mm_at mX3_isBell 15 = some (.ireturn) := by decide +kernel
theorem aX3_isHearer_0 : mm_at mX3_isHearer 0 = some (.iload_n 1) := by decide +kernel
theorem aX3_isHearer_1 : mm_at mX3_isHearer 1 = some (.ifCond .lt 15) := by decide +kernel
theorem aX3_isHearer_4 : mm_at mX3_isHearer 4 = some (.iload_n 1) := by decide +kernel
theorem aX3_isHearer_5 : mm_at mX3_isHearer 5 = some (.aload_n 0) := by decide +kernel
theorem aX3_isHearer_6 : mm_at mX3_isHearer 6 = some (.getfield 61) := by decide +kernel
theorem aX3_isHearer_9 : mm_at mX3_isHearer 9 = some (.if_icmp .ge 7) := by decide +kernel
theorem aX3_isHearer_12 : mm_at mX3_isHearer 12 = some (.iconst 1) := by decide +kernel
theorem aX3_isHearer_13 : mm_at mX3_isHearer 13 = some (.goto 4) := by decide +kernel
theorem aX3_isHearer_16 : mm_at mX3_isHearer 16 = some (.iconst 0) := by decide +kernel
theorem aX3_isHearer_17 : mm_at mX3_isHearer 17 = some (.ireturn) := by decide +kernel
theorem aX3_canBeMade_0 : mm_at mX3_canBeMade 0 = some (.iload_n 1) := by decide +kernel
theorem aX3_canBeMade_1 : mm_at mX3_canBeMade 1 = some (.tableswitch 159 0 14 #[75, 75, 75, 75, 81, 83, 83, 81, 88, 88, 94, 116, 94, 88, 138]) := by decide +kernel
theorem aX3_canBeMade_76 : mm_at mX3_canBeMade 76 = some (.iload_n 2) := by decide +kernel
theorem aX3_canBeMade_77 : mm_at mX3_canBeMade 77 = some (.i2l) := by decide +kernel
theorem aX3_canBeMade_78 : mm_at mX3_canBeMade 78 = some (.invokestatic 45) := by decide +kernel
theorem aX3_canBeMade_81 : mm_at mX3_canBeMade 81 = some (.ireturn) := by decide +kernel
theorem aX3_canBeMade_82 : mm_at mX3_canBeMade 82 = some (.iconst 1) := by decide +kernel
theorem aX3_canBeMade_83 : mm_at mX3_canBeMade 83 = some (.ireturn) := by decide +kernel
theorem aX3_canBeMade_84 : mm_at mX3_canBeMade 84 = some (.iload_n 2) := by decide +kernel
theorem aX3_canBeMade_85 : mm_at mX3_canBeMade 85 = some (.invokestatic 49) := by decide +kernel
theorem aX3_canBeMade_88 : mm_at mX3_canBeMade 88 = some (.ireturn) := by decide +kernel
theorem aX3_canBeMade_89 : mm_at mX3_canBeMade 89 = some (.aload_n 0) := by decide +kernel
theorem aX3_canBeMade_90 : mm_at mX3_canBeMade 90 = some (.iload_n 2) := by decide +kernel
theorem aX3_canBeMade_91 : mm_at mX3_canBeMade 91 = some (.invokevirtual 64) := by decide +kernel
theorem aX3_canBeMade_94 : mm_at mX3_canBeMade 94 = some (.ireturn) := by decide +kernel
theorem aX3_canBeMade_95 : mm_at mX3_canBeMade 95 = some (.aload_n 0) := by decide +kernel
theorem aX3_canBeMade_96 : mm_at mX3_canBeMade 96 = some (.iload_n 2) := by decide +kernel
theorem aX3_canBeMade_97 : mm_at mX3_canBeMade 97 = some (.invokevirtual 64) := by decide +kernel
theorem aX3_canBeMade_100 : mm_at mX3_canBeMade 100 = some (.ifCond .eq 15) := by decide +kernel
theorem aX3_canBeMade_103 : mm_at mX3_canBeMade 103 = some (.iload_n 3) := by decide +kernel
theorem aX3_canBeMade_104 : mm_at mX3_canBeMade 104 = some (.i2l) := by decide +kernel
theorem aX3_canBeMade_105 : mm_at mX3_canBeMade 105 = some (.invokestatic 45) := by decide +kernel
theorem aX3_canBeMade_108 : mm_at mX3_canBeMade 108 = some (.ifCond .eq 7) := by decide +kernel
theorem aX3_canBeMade_111 : mm_at mX3_canBeMade 111 = some (.iconst 1) := by decide +kernel
theorem aX3_canBeMade_112 : mm_at mX3_canBeMade 112 = some (.goto 4) := by decide +kernel
theorem aX3_canBeMade_115 : mm_at mX3_canBeMade 115 = some (.iconst 0) := by decide +kernel
theorem aX3_canBeMade_116 : mm_at mX3_canBeMade 116 = some (.ireturn) := by decide +kernel
theorem aX3_canBeMade_117 : mm_at mX3_canBeMade 117 = some (.aload_n 0) := by decide +kernel
theorem aX3_canBeMade_118 : mm_at mX3_canBeMade 118 = some (.iload_n 2) := by decide +kernel
theorem aX3_canBeMade_119 : mm_at mX3_canBeMade 119 = some (.invokevirtual 64) := by decide +kernel
theorem aX3_canBeMade_122 : mm_at mX3_canBeMade 122 = some (.ifCond .eq 15) := by decide +kernel
theorem aX3_canBeMade_125 : mm_at mX3_canBeMade 125 = some (.aload_n 0) := by decide +kernel
theorem aX3_canBeMade_126 : mm_at mX3_canBeMade 126 = some (.iload_n 3) := by decide +kernel
theorem aX3_canBeMade_127 : mm_at mX3_canBeMade 127 = some (.invokevirtual 64) := by decide +kernel
theorem aX3_canBeMade_130 : mm_at mX3_canBeMade 130 = some (.ifCond .eq 7) := by decide +kernel
theorem aX3_canBeMade_133 : mm_at mX3_canBeMade 133 = some (.iconst 1) := by decide +kernel
theorem aX3_canBeMade_134 : mm_at mX3_canBeMade 134 = some (.goto 4) := by decide +kernel
theorem aX3_canBeMade_137 : mm_at mX3_canBeMade 137 = some (.iconst 0) := by decide +kernel
theorem aX3_canBeMade_138 : mm_at mX3_canBeMade 138 = some (.ireturn) := by decide +kernel
theorem aX3_canBeMade_139 : mm_at mX3_canBeMade 139 = some (.aload_n 0) := by decide +kernel
theorem aX3_canBeMade_140 : mm_at mX3_canBeMade 140 = some (.iload_n 2) := by decide +kernel
theorem aX3_canBeMade_141 : mm_at mX3_canBeMade 141 = some (.invokevirtual 64) := by decide +kernel
theorem aX3_canBeMade_144 : mm_at mX3_canBeMade 144 = some (.ifCond .eq 14) := by decide +kernel
theorem aX3_canBeMade_147 : mm_at mX3_canBeMade 147 = some (.iload_n 3) := by decide +kernel
theorem aX3_canBeMade_148 : mm_at mX3_canBeMade 148 = some (.invokestatic 49) := by decide +kernel
theorem aX3_canBeMade_151 : mm_at mX3_canBeMade 151 = some (.ifCond .eq 7) := by decide +kernel
theorem aX3_canBeMade_154 : mm_at mX3_canBeMade 154 = some (.iconst 1) := by decide +kernel
theorem aX3_canBeMade_155 : mm_at mX3_canBeMade 155 = some (.goto 4) := by decide +kernel
theorem aX3_canBeMade_158 : mm_at mX3_canBeMade 158 = some (.iconst 0) := by decide +kernel
theorem aX3_canBeMade_159 : mm_at mX3_canBeMade 159 = some (.ireturn) := by decide +kernel
theorem aX3_canBeMade_160 : mm_at mX3_canBeMade 160 = some (.iconst 0) := by decide +kernel
theorem aX3_canBeMade_161 : mm_at mX3_canBeMade 161 = some (.ireturn) := by decide +kernel
theorem aX3_makeHearer_0 : mm_at mX3_makeHearer 0 = some (.iload_n 1) := by decide +kernel
theorem aX3_makeHearer_1 : mm_at mX3_makeHearer 1 = some (.iconst 2) := by decide +kernel
theorem aX3_makeHearer_2 : mm_at mX3_makeHearer 2 = some (.if_icmp .ne 12) := by decide +kernel
theorem aX3_makeHearer_5 : mm_at mX3_makeHearer 5 = some (.aload_n 0) := by decide +kernel
theorem aX3_makeHearer_6 : mm_at mX3_makeHearer 6 = some (.getfield 9) := by decide +kernel
theorem aX3_makeHearer_9 : mm_at mX3_makeHearer 9 = some (.iload_n 2) := by decide +kernel
theorem aX3_makeHearer_10 : mm_at mX3_makeHearer 10 = some (.laload) := by decide +kernel
theorem aX3_makeHearer_11 : mm_at mX3_makeHearer 11 = some (.goto 4) := by decide +kernel
theorem aX3_makeHearer_14 : mm_at mX3_makeHearer 14 = some (.lconst 0) := by decide +kernel
theorem aX3_makeHearer_15 : mm_at mX3_makeHearer 15 = some (.lstore 4) := by decide +kernel
theorem aX3_makeHearer_17 : mm_at mX3_makeHearer 17 = some (.iload_n 1) := by decide +kernel
theorem aX3_makeHearer_18 : mm_at mX3_makeHearer 18 = some (.bipush 8) := by decide +kernel
theorem aX3_makeHearer_20 : mm_at mX3_makeHearer 20 = some (.if_icmp .lt 18) := by decide +kernel
theorem aX3_makeHearer_23 : mm_at mX3_makeHearer 23 = some (.iload_n 1) := by decide +kernel
theorem aX3_makeHearer_24 : mm_at mX3_makeHearer 24 = some (.bipush 12) := by decide +kernel
theorem aX3_makeHearer_26 : mm_at mX3_makeHearer 26 = some (.if_icmp .gt 12) := by decide +kernel
theorem aX3_makeHearer_29 : mm_at mX3_makeHearer 29 = some (.aload_n 0) := by decide +kernel
theorem aX3_makeHearer_30 : mm_at mX3_makeHearer 30 = some (.getfield 32) := by decide +kernel
theorem aX3_makeHearer_33 : mm_at mX3_makeHearer 33 = some (.iload_n 2) := by decide +kernel
theorem aX3_makeHearer_34 : mm_at mX3_makeHearer 34 = some (.aaload) := by decide +kernel
theorem aX3_makeHearer_35 : mm_at mX3_makeHearer 35 = some (.goto 4) := by decide +kernel
theorem aX3_makeHearer_38 : mm_at mX3_makeHearer 38 = some (.aconst_null) := by decide +kernel
theorem aX3_makeHearer_39 : mm_at mX3_makeHearer 39 = some (.astore 6) := by decide +kernel
theorem aX3_makeHearer_41 : mm_at mX3_makeHearer 41 = some (.iload_n 1) := by decide +kernel
theorem aX3_makeHearer_42 : mm_at mX3_makeHearer 42 = some (.bipush 11) := by decide +kernel
theorem aX3_makeHearer_44 : mm_at mX3_makeHearer 44 = some (.if_icmp .ne 12) := by decide +kernel
theorem aX3_makeHearer_47 : mm_at mX3_makeHearer 47 = some (.aload_n 0) := by decide +kernel
theorem aX3_makeHearer_48 : mm_at mX3_makeHearer 48 = some (.getfield 32) := by decide +kernel
theorem aX3_makeHearer_51 : mm_at mX3_makeHearer 51 = some (.iload_n 3) := by decide +kernel
theorem aX3_makeHearer_52 : mm_at mX3_makeHearer 52 = some (.aaload) := by decide +kernel
theorem aX3_makeHearer_53 : mm_at mX3_makeHearer 53 = some (.goto 4) := by decide +kernel
theorem aX3_makeHearer_56 : mm_at mX3_makeHearer 56 = some (.aconst_null) := by decide +kernel
theorem aX3_makeHearer_57 : mm_at mX3_makeHearer 57 = some (.astore 7) := by decide +kernel
theorem aX3_makeHearer_59 : mm_at mX3_makeHearer 59 = some (.new 26) := by decide +kernel
theorem aX3_makeHearer_62 : mm_at mX3_makeHearer 62 = some (.dup) := by decide +kernel
theorem aX3_makeHearer_63 : mm_at mX3_makeHearer 63 = some (.iload_n 1) := by decide +kernel
theorem aX3_makeHearer_64 : mm_at mX3_makeHearer 64 = some (.iload_n 2) := by decide +kernel
theorem aX3_makeHearer_65 : mm_at mX3_makeHearer 65 = some (.iload_n 3) := by decide +kernel
theorem aX3_makeHearer_66 : mm_at mX3_makeHearer 66 = some (.lload 4) := by decide +kernel
theorem aX3_makeHearer_68 : mm_at mX3_makeHearer 68 = some (.aload 6) := by decide +kernel
theorem aX3_makeHearer_70 : mm_at mX3_makeHearer 70 = some (.aload 7) := by decide +kernel
theorem aX3_makeHearer_72 : mm_at mX3_makeHearer 72 = some (.invokespecial 132) := by decide +kernel
theorem aX3_makeHearer_75 : mm_at mX3_makeHearer 75 = some (.astore 8) := by decide +kernel
theorem aX3_makeHearer_77 : mm_at mX3_makeHearer 77 = some (.aload_n 0) := by decide +kernel
theorem aX3_makeHearer_78 : mm_at mX3_makeHearer 78 = some (.getfield 28) := by decide +kernel
theorem aX3_makeHearer_81 : mm_at mX3_makeHearer 81 = some (.aload_n 0) := by decide +kernel
theorem aX3_makeHearer_82 : mm_at mX3_makeHearer 82 = some (.getfield 61) := by decide +kernel
theorem aX3_makeHearer_85 : mm_at mX3_makeHearer 85 = some (.aload 8) := by decide +kernel
theorem aX3_makeHearer_87 : mm_at mX3_makeHearer 87 = some (.aastore) := by decide +kernel
theorem aX3_makeHearer_88 : mm_at mX3_makeHearer 88 = some (.aload_n 0) := by decide +kernel
theorem aX3_makeHearer_89 : mm_at mX3_makeHearer 89 = some (.getfield 32) := by decide +kernel
theorem aX3_makeHearer_92 : mm_at mX3_makeHearer 92 = some (.aload_n 0) := by decide +kernel
theorem aX3_makeHearer_93 : mm_at mX3_makeHearer 93 = some (.getfield 61) := by decide +kernel
theorem aX3_makeHearer_96 : mm_at mX3_makeHearer 96 = some (.aload 8) := by decide +kernel
theorem aX3_makeHearer_98 : mm_at mX3_makeHearer 98 = some (.aastore) := by decide +kernel
theorem aX3_makeHearer_99 : mm_at mX3_makeHearer 99 = some (.aload_n 0) := by decide +kernel
theorem aX3_makeHearer_100 : mm_at mX3_makeHearer 100 = some (.dup) := by decide +kernel
theorem aX3_makeHearer_101 : mm_at mX3_makeHearer 101 = some (.getfield 61) := by decide +kernel
theorem aX3_makeHearer_104 : mm_at mX3_makeHearer 104 = some (.dup_x1) := by decide +kernel
theorem aX3_makeHearer_105 : mm_at mX3_makeHearer 105 = some (.iconst 1) := by decide +kernel
theorem aX3_makeHearer_106 : mm_at mX3_makeHearer 106 = some (.iadd) := by decide +kernel
theorem aX3_makeHearer_107 : mm_at mX3_makeHearer 107 = some (.putfield 61) := by decide +kernel
theorem aX3_makeHearer_110 : mm_at mX3_makeHearer 110 = some (.ireturn) := by decide +kernel
theorem aX3_answerOfCall_0 : mm_at mX3_answerOfCall 0 = some (.iload_n 1) := by decide +kernel
theorem aX3_answerOfCall_1 : mm_at mX3_answerOfCall 1 = some (.ifCond .ne 8) := by decide +kernel
theorem aX3_answerOfCall_4 : mm_at mX3_answerOfCall 4 = some (.aload_n 0) := by decide +kernel
theorem aX3_answerOfCall_5 : mm_at mX3_answerOfCall 5 = some (.getfield 77) := by decide +kernel
theorem aX3_answerOfCall_8 : mm_at mX3_answerOfCall 8 = some (.ireturn) := by decide +kernel
theorem aX3_answerOfCall_9 : mm_at mX3_answerOfCall 9 = some (.aload_n 0) := by decide +kernel
theorem aX3_answerOfCall_10 : mm_at mX3_answerOfCall 10 = some (.dup) := by decide +kernel
theorem aX3_answerOfCall_11 : mm_at mX3_answerOfCall 11 = some (.getfield 112) := by decide +kernel
theorem aX3_answerOfCall_14 : mm_at mX3_answerOfCall 14 = some (.iconst 1) := by decide +kernel
theorem aX3_answerOfCall_15 : mm_at mX3_answerOfCall 15 = some (.iadd) := by decide +kernel
theorem aX3_answerOfCall_16 : mm_at mX3_answerOfCall 16 = some (.putfield 112) := by decide +kernel
theorem aX3_answerOfCall_19 : mm_at mX3_answerOfCall 19 = some (.aload_n 0) := by decide +kernel
theorem aX3_answerOfCall_20 : mm_at mX3_answerOfCall 20 = some (.dup) := by decide +kernel
theorem aX3_answerOfCall_21 : mm_at mX3_answerOfCall 21 = some (.getfield 74) := by decide +kernel
theorem aX3_answerOfCall_24 : mm_at mX3_answerOfCall 24 = some (.iconst 1) := by decide +kernel
theorem aX3_answerOfCall_25 : mm_at mX3_answerOfCall 25 = some (.iadd) := by decide +kernel
theorem aX3_answerOfCall_26 : mm_at mX3_answerOfCall 26 = some (.putfield 74) := by decide +kernel
theorem aX3_answerOfCall_29 : mm_at mX3_answerOfCall 29 = some (.aload_n 0) := by decide +kernel
theorem aX3_answerOfCall_30 : mm_at mX3_answerOfCall 30 = some (.iload_n 1) := by decide +kernel
theorem aX3_answerOfCall_31 : mm_at mX3_answerOfCall 31 = some (.putfield 124) := by decide +kernel
theorem aX3_answerOfCall_34 : mm_at mX3_answerOfCall 34 = some (.bipush (-10)) := by decide +kernel
theorem aX3_answerOfCall_36 : mm_at mX3_answerOfCall 36 = some (.iload_n 1) := by decide +kernel
theorem aX3_answerOfCall_37 : mm_at mX3_answerOfCall 37 = some (.isub) := by decide +kernel
theorem aX3_answerOfCall_38 : mm_at mX3_answerOfCall 38 = some (.ireturn) := by decide +kernel
theorem aX3_ringQueueAfter_0 : mm_at mX3_ringQueueAfter 0 = some (.iload_n 1) := by decide +kernel
theorem aX3_ringQueueAfter_1 : mm_at mX3_ringQueueAfter 1 = some (.istore_n 2) := by decide +kernel
theorem aX3_ringQueueAfter_2 : mm_at mX3_ringQueueAfter 2 = some (.sipush 220) := by decide +kernel
theorem aX3_ringQueueAfter_5 : mm_at mX3_ringQueueAfter 5 = some (.istore_n 3) := by decide +kernel
theorem aX3_ringQueueAfter_6 : mm_at mX3_ringQueueAfter 6 = some (.iconst 0) := by decide +kernel
theorem aX3_ringQueueAfter_7 : mm_at mX3_ringQueueAfter 7 = some (.istore 4) := by decide +kernel
theorem aX3_ringQueueAfter_9 : mm_at mX3_ringQueueAfter 9 = some (.iload 4) := by decide +kernel
theorem aX3_ringQueueAfter_11 : mm_at mX3_ringQueueAfter 11 = some (.iload_n 3) := by decide +kernel
theorem aX3_ringQueueAfter_12 : mm_at mX3_ringQueueAfter 12 = some (.if_icmp .ge 57) := by decide +kernel
theorem aX3_ringQueueAfter_15 : mm_at mX3_ringQueueAfter 15 = some (.iload_n 2) := by decide +kernel
theorem aX3_ringQueueAfter_16 : mm_at mX3_ringQueueAfter 16 = some (.ifCond .ne 53) := by decide +kernel
theorem aX3_ringQueueAfter_19 : mm_at mX3_ringQueueAfter 19 = some (.aload_n 0) := by decide +kernel
theorem aX3_ringQueueAfter_20 : mm_at mX3_ringQueueAfter 20 = some (.getfield 22) := by decide +kernel
theorem aX3_ringQueueAfter_23 : mm_at mX3_ringQueueAfter 23 = some (.getfield 121) := by decide +kernel
theorem aX3_ringQueueAfter_26 : mm_at mX3_ringQueueAfter 26 = some (.ifCond .le 43) := by decide +kernel
theorem aX3_ringQueueAfter_29 : mm_at mX3_ringQueueAfter 29 = some (.aload_n 0) := by decide +kernel
theorem aX3_ringQueueAfter_30 : mm_at mX3_ringQueueAfter 30 = some (.getfield 22) := by decide +kernel
theorem aX3_ringQueueAfter_33 : mm_at mX3_ringQueueAfter 33 = some (.invokevirtual 135) := by decide +kernel
theorem aX3_ringQueueAfter_36 : mm_at mX3_ringQueueAfter 36 = some (.istore 5) := by decide +kernel
theorem aX3_ringQueueAfter_38 : mm_at mX3_ringQueueAfter 38 = some (.aload_n 0) := by decide +kernel
theorem aX3_ringQueueAfter_39 : mm_at mX3_ringQueueAfter 39 = some (.getfield 22) := by decide +kernel
theorem aX3_ringQueueAfter_42 : mm_at mX3_ringQueueAfter 42 = some (.invokevirtual 139) := by decide +kernel
theorem aX3_ringQueueAfter_45 : mm_at mX3_ringQueueAfter 45 = some (.lstore 6) := by decide +kernel
theorem aX3_ringQueueAfter_47 : mm_at mX3_ringQueueAfter 47 = some (.aload_n 0) := by decide +kernel
theorem aX3_ringQueueAfter_48 : mm_at mX3_ringQueueAfter 48 = some (.getfield 22) := by decide +kernel
theorem aX3_ringQueueAfter_51 : mm_at mX3_ringQueueAfter 51 = some (.invokevirtual 143) := by decide +kernel
theorem aX3_ringQueueAfter_54 : mm_at mX3_ringQueueAfter 54 = some (.aload_n 0) := by decide +kernel
theorem aX3_ringQueueAfter_55 : mm_at mX3_ringQueueAfter 55 = some (.iload 5) := by decide +kernel
theorem aX3_ringQueueAfter_57 : mm_at mX3_ringQueueAfter 57 = some (.lload 6) := by decide +kernel
theorem aX3_ringQueueAfter_59 : mm_at mX3_ringQueueAfter 59 = some (.invokevirtual 80) := by decide +kernel
theorem aX3_ringQueueAfter_62 : mm_at mX3_ringQueueAfter 62 = some (.istore_n 2) := by decide +kernel
theorem aX3_ringQueueAfter_63 : mm_at mX3_ringQueueAfter 63 = some (.iinc 4 1) := by decide +kernel
theorem aX3_ringQueueAfter_66 : mm_at mX3_ringQueueAfter 66 = some (.goto (-57)) := by decide +kernel
theorem aX3_ringQueueAfter_69 : mm_at mX3_ringQueueAfter 69 = some (.iload_n 2) := by decide +kernel
theorem aX3_ringQueueAfter_70 : mm_at mX3_ringQueueAfter 70 = some (.ireturn) := by decide +kernel
theorem aX3_ringBell_0 : mm_at mX3_ringBell 0 = some (.aload_n 0) := by decide +kernel
theorem aX3_ringBell_1 : mm_at mX3_ringBell 1 = some (.getfield 146) := by decide +kernel
theorem aX3_ringBell_4 : mm_at mX3_ringBell 4 = some (.bipush 8) := by decide +kernel
theorem aX3_ringBell_6 : mm_at mX3_ringBell 6 = some (.if_icmp .lt 5) := by decide +kernel
theorem aX3_ringBell_9 : mm_at mX3_ringBell 9 = some (.iconst 5) := by decide +kernel
theorem aX3_ringBell_10 : mm_at mX3_ringBell 10 = some (.ireturn) := by decide +kernel
theorem aX3_ringBell_11 : mm_at mX3_ringBell 11 = some (.aload_n 0) := by decide +kernel
theorem aX3_ringBell_12 : mm_at mX3_ringBell 12 = some (.getfield 15) := by decide +kernel
theorem aX3_ringBell_15 : mm_at mX3_ringBell 15 = some (.iload_n 1) := by decide +kernel
theorem aX3_ringBell_16 : mm_at mX3_ringBell 16 = some (.aaload) := by decide +kernel
theorem aX3_ringBell_17 : mm_at mX3_ringBell 17 = some (.astore 4) := by decide +kernel
theorem aX3_ringBell_19 : mm_at mX3_ringBell 19 = some (.aload_n 0) := by decide +kernel
theorem aX3_ringBell_20 : mm_at mX3_ringBell 20 = some (.getfield 37) := by decide +kernel
theorem aX3_ringBell_23 : mm_at mX3_ringBell 23 = some (.aload_n 0) := by decide +kernel
theorem aX3_ringBell_24 : mm_at mX3_ringBell 24 = some (.getfield 146) := by decide +kernel
theorem aX3_ringBell_27 : mm_at mX3_ringBell 27 = some (.aaload) := by decide +kernel
theorem aX3_ringBell_28 : mm_at mX3_ringBell 28 = some (.astore 5) := by decide +kernel
theorem aX3_ringBell_30 : mm_at mX3_ringBell 30 = some (.aload 4) := by decide +kernel
theorem aX3_ringBell_32 : mm_at mX3_ringBell 32 = some (.aload 5) := by decide +kernel
theorem aX3_ringBell_34 : mm_at mX3_ringBell 34 = some (.invokevirtual 149) := by decide +kernel
theorem aX3_ringBell_37 : mm_at mX3_ringBell 37 = some (.istore 6) := by decide +kernel
theorem aX3_ringBell_39 : mm_at mX3_ringBell 39 = some (.aload_n 0) := by decide +kernel
theorem aX3_ringBell_40 : mm_at mX3_ringBell 40 = some (.dup) := by decide +kernel
theorem aX3_ringBell_41 : mm_at mX3_ringBell 41 = some (.getfield 146) := by decide +kernel
theorem aX3_ringBell_44 : mm_at mX3_ringBell 44 = some (.iconst 1) := by decide +kernel
theorem aX3_ringBell_45 : mm_at mX3_ringBell 45 = some (.iadd) := by decide +kernel
theorem aX3_ringBell_46 : mm_at mX3_ringBell 46 = some (.putfield 146) := by decide +kernel
theorem aX3_ringBell_49 : mm_at mX3_ringBell 49 = some (.aload_n 0) := by decide +kernel
theorem aX3_ringBell_50 : mm_at mX3_ringBell 50 = some (.dup) := by decide +kernel
theorem aX3_ringBell_51 : mm_at mX3_ringBell 51 = some (.getfield 106) := by decide +kernel
theorem aX3_ringBell_54 : mm_at mX3_ringBell 54 = some (.iconst 1) := by decide +kernel
theorem aX3_ringBell_55 : mm_at mX3_ringBell 55 = some (.iadd) := by decide +kernel
theorem aX3_ringBell_56 : mm_at mX3_ringBell 56 = some (.putfield 106) := by decide +kernel
theorem aX3_ringBell_59 : mm_at mX3_ringBell 59 = some (.iconst 0) := by decide +kernel
theorem aX3_ringBell_60 : mm_at mX3_ringBell 60 = some (.istore 7) := by decide +kernel
