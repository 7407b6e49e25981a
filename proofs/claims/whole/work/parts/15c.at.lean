theorem aX4_out_62 : mm_at mX4_out 62 = some (.iinc 4 1) := by decide +kernel
theorem aX4_out_65 : mm_at mX4_out 65 = some (.goto (-40)) := by decide +kernel
theorem aX4_out_68 : mm_at mX4_out 68 = some (.iload_n 3) := by decide +kernel
theorem aX4_out_69 : mm_at mX4_out 69 = some (.ireturn) := by decide +kernel
theorem aX4_bind_0 : mm_at mX4_bind 0 = some (.aload_n 0) := by decide +kernel
theorem aX4_bind_1 : mm_at mX4_bind 1 = some (.iload_n 1) := by decide +kernel
theorem aX4_bind_2 : mm_at mX4_bind 2 = some (.invokevirtual 106) := by decide +kernel
theorem aX4_bind_5 : mm_at mX4_bind 5 = some (.ifCond .eq 10) := by decide +kernel
theorem aX4_bind_8 : mm_at mX4_bind 8 = some (.iload_n 2) := by decide +kernel
theorem aX4_bind_9 : mm_at mX4_bind 9 = some (.invokestatic 97) := by decide +kernel
theorem aX4_bind_12 : mm_at mX4_bind 12 = some (.ifCond .ne 6) := by decide +kernel
theorem aX4_bind_15 : mm_at mX4_bind 15 = some (.bipush (-2)) := by decide +kernel
theorem aX4_bind_17 : mm_at mX4_bind 17 = some (.ireturn) := by decide +kernel
theorem aX4_bind_18 : mm_at mX4_bind 18 = some (.aload_n 0) := by decide +kernel
theorem aX4_bind_19 : mm_at mX4_bind 19 = some (.iload_n 1) := by decide +kernel
theorem aX4_bind_20 : mm_at mX4_bind 20 = some (.iload_n 2) := by decide +kernel
theorem aX4_bind_21 : mm_at mX4_bind 21 = some (.invokevirtual 109) := by decide +kernel
theorem aX4_bind_24 : mm_at mX4_bind 24 = some (.iconst (-1)) := by decide +kernel
theorem aX4_bind_25 : mm_at mX4_bind 25 = some (.if_icmp .eq 5) := by decide +kernel
theorem aX4_bind_28 : mm_at mX4_bind 28 = some (.iconst (-1)) := by decide +kernel
theorem aX4_bind_29 : mm_at mX4_bind 29 = some (.ireturn) := by decide +kernel
theorem aX4_bind_30 : mm_at mX4_bind 30 = some (.aload_n 0) := by decide +kernel
theorem aX4_bind_31 : mm_at mX4_bind 31 = some (.getfield 20) := by decide +kernel
theorem aX4_bind_34 : mm_at mX4_bind 34 = some (.iload_n 2) := by decide +kernel
theorem aX4_bind_35 : mm_at mX4_bind 35 = some (.iaload) := by decide +kernel
theorem aX4_bind_36 : mm_at mX4_bind 36 = some (.bipush 12) := by decide +kernel
theorem aX4_bind_38 : mm_at mX4_bind 38 = some (.if_icmp .ne 6) := by decide +kernel
theorem aX4_bind_41 : mm_at mX4_bind 41 = some (.bipush (-3)) := by decide +kernel
theorem aX4_bind_43 : mm_at mX4_bind 43 = some (.ireturn) := by decide +kernel
theorem aX4_bind_44 : mm_at mX4_bind 44 = some (.aload_n 0) := by decide +kernel
theorem aX4_bind_45 : mm_at mX4_bind 45 = some (.iload_n 1) := by decide +kernel
theorem aX4_bind_46 : mm_at mX4_bind 46 = some (.iload_n 2) := by decide +kernel
theorem aX4_bind_47 : mm_at mX4_bind 47 = some (.invokevirtual 113) := by decide +kernel
theorem aX4_bind_50 : mm_at mX4_bind 50 = some (.aload_n 0) := by decide +kernel
theorem aX4_bind_51 : mm_at mX4_bind 51 = some (.getfield 20) := by decide +kernel
theorem aX4_bind_54 : mm_at mX4_bind 54 = some (.iload_n 2) := by decide +kernel
theorem aX4_bind_55 : mm_at mX4_bind 55 = some (.iaload) := by decide +kernel
theorem aX4_bind_56 : mm_at mX4_bind 56 = some (.iconst 1) := by decide +kernel
theorem aX4_bind_57 : mm_at mX4_bind 57 = some (.isub) := by decide +kernel
theorem aX4_bind_58 : mm_at mX4_bind 58 = some (.ireturn) := by decide +kernel
theorem aX4_leave_0 : mm_at mX4_leave 0 = some (.aload_n 0) := by decide +kernel
theorem aX4_leave_1 : mm_at mX4_leave 1 = some (.iload_n 1) := by decide +kernel
theorem aX4_leave_2 : mm_at mX4_leave 2 = some (.invokevirtual 106) := by decide +kernel
theorem aX4_leave_5 : mm_at mX4_leave 5 = some (.ifCond .eq 19) := by decide +kernel
theorem aX4_leave_8 : mm_at mX4_leave 8 = some (.iload_n 2) := by decide +kernel
theorem aX4_leave_9 : mm_at mX4_leave 9 = some (.invokestatic 97) := by decide +kernel
theorem aX4_leave_12 : mm_at mX4_leave 12 = some (.ifCond .eq 12) := by decide +kernel
theorem aX4_leave_15 : mm_at mX4_leave 15 = some (.aload_n 0) := by decide +kernel
theorem aX4_leave_16 : mm_at mX4_leave 16 = some (.iload_n 1) := by decide +kernel
theorem aX4_leave_17 : mm_at mX4_leave 17 = some (.iload_n 2) := by decide +kernel
theorem aX4_leave_18 : mm_at mX4_leave 18 = some (.invokevirtual 117) := by decide +kernel
theorem aX4_leave_21 : mm_at mX4_leave 21 = some (.goto 5) := by decide +kernel
theorem aX4_leave_24 : mm_at mX4_leave 24 = some (.bipush (-2)) := by decide +kernel
theorem aX4_leave_26 : mm_at mX4_leave 26 = some (.ireturn) := by decide +kernel
theorem aX4_take_0 : mm_at mX4_take 0 = some (.aload_n 0) := by decide +kernel
theorem aX4_take_1 : mm_at mX4_take 1 = some (.iload_n 1) := by decide +kernel
theorem aX4_take_2 : mm_at mX4_take 2 = some (.invokevirtual 106) := by decide +kernel
theorem aX4_take_5 : mm_at mX4_take 5 = some (.ifCond .ne 6) := by decide +kernel
theorem aX4_take_8 : mm_at mX4_take 8 = some (.bipush (-2)) := by decide +kernel
theorem aX4_take_10 : mm_at mX4_take 10 = some (.ireturn) := by decide +kernel
theorem aX4_take_11 : mm_at mX4_take 11 = some (.aload_n 0) := by decide +kernel
theorem aX4_take_12 : mm_at mX4_take 12 = some (.getfield 47) := by decide +kernel
theorem aX4_take_15 : mm_at mX4_take 15 = some (.iload_n 1) := by decide +kernel
theorem aX4_take_16 : mm_at mX4_take 16 = some (.iaload) := by decide +kernel
theorem aX4_take_17 : mm_at mX4_take 17 = some (.iconst (-1)) := by decide +kernel
theorem aX4_take_18 : mm_at mX4_take 18 = some (.if_icmp .ne 7) := by decide +kernel
theorem aX4_take_21 : mm_at mX4_take 21 = some (.iconst 0) := by decide +kernel
theorem aX4_take_22 : mm_at mX4_take 22 = some (.goto 4) := by decide +kernel
theorem aX4_take_25 : mm_at mX4_take 25 = some (.iconst 1) := by decide +kernel
theorem aX4_take_26 : mm_at mX4_take 26 = some (.istore_n 2) := by decide +kernel
theorem aX4_take_27 : mm_at mX4_take 27 = some (.aload_n 0) := by decide +kernel
theorem aX4_take_28 : mm_at mX4_take 28 = some (.getfield 47) := by decide +kernel
theorem aX4_take_31 : mm_at mX4_take 31 = some (.iload_n 1) := by decide +kernel
theorem aX4_take_32 : mm_at mX4_take 32 = some (.iconst (-1)) := by decide +kernel
theorem aX4_take_33 : mm_at mX4_take 33 = some (.iastore) := by decide +kernel
theorem aX4_take_34 : mm_at mX4_take 34 = some (.iload_n 2) := by decide +kernel
theorem aX4_take_35 : mm_at mX4_take 35 = some (.ireturn) := by decide +kernel
theorem aX4_lend_0 : mm_at mX4_lend 0 = some (.aload_n 0) := by decide +kernel
theorem aX4_lend_1 : mm_at mX4_lend 1 = some (.iload_n 1) := by decide +kernel
theorem aX4_lend_2 : mm_at mX4_lend 2 = some (.invokevirtual 106) := by decide +kernel
theorem aX4_lend_5 : mm_at mX4_lend 5 = some (.ifCond .eq 11) := by decide +kernel
theorem aX4_lend_8 : mm_at mX4_lend 8 = some (.aload_n 0) := by decide +kernel
theorem aX4_lend_9 : mm_at mX4_lend 9 = some (.iload_n 2) := by decide +kernel
theorem aX4_lend_10 : mm_at mX4_lend 10 = some (.invokevirtual 106) := by decide +kernel
theorem aX4_lend_13 : mm_at mX4_lend 13 = some (.ifCond .ne 6) := by decide +kernel
theorem aX4_lend_16 : mm_at mX4_lend 16 = some (.bipush (-2)) := by decide +kernel
theorem aX4_lend_18 : mm_at mX4_lend 18 = some (.ireturn) := by decide +kernel
theorem aX4_lend_19 : mm_at mX4_lend 19 = some (.aload_n 0) := by decide +kernel
theorem aX4_lend_20 : mm_at mX4_lend 20 = some (.getfield 47) := by decide +kernel
theorem aX4_lend_23 : mm_at mX4_lend 23 = some (.iload_n 1) := by decide +kernel
theorem aX4_lend_24 : mm_at mX4_lend 24 = some (.aload_n 0) := by decide +kernel
theorem aX4_lend_25 : mm_at mX4_lend 25 = some (.getfield 47) := by decide +kernel
theorem aX4_lend_28 : mm_at mX4_lend 28 = some (.iload_n 2) := by decide +kernel
theorem aX4_lend_29 : mm_at mX4_lend 29 = some (.iaload) := by decide +kernel
theorem aX4_lend_30 : mm_at mX4_lend 30 = some (.iastore) := by decide +kernel
theorem aX4_lend_31 : mm_at mX4_lend 31 = some (.iconst 1) := by decide +kernel
theorem aX4_lend_32 : mm_at mX4_lend 32 = some (.ireturn) := by decide +kernel
theorem aX4_heap_0 : mm_at mX4_heap 0 = some (.aload_n 0) := by decide +kernel
theorem aX4_heap_1 : mm_at mX4_heap 1 = some (.getfield 56) := by decide +kernel
theorem aX4_heap_4 : mm_at mX4_heap 4 = some (.aload_n 0) := by decide +kernel
theorem aX4_heap_5 : mm_at mX4_heap 5 = some (.getfield 120) := by decide +kernel
theorem aX4_heap_8 : mm_at mX4_heap 8 = some (.iload_n 1) := by decide +kernel
theorem aX4_heap_9 : mm_at mX4_heap 9 = some (.iastore) := by decide +kernel
theorem aX4_heap_10 : mm_at mX4_heap 10 = some (.aload_n 0) := by decide +kernel
theorem aX4_heap_11 : mm_at mX4_heap 11 = some (.getfield 59) := by decide +kernel
theorem aX4_heap_14 : mm_at mX4_heap 14 = some (.aload_n 0) := by decide +kernel
theorem aX4_heap_15 : mm_at mX4_heap 15 = some (.getfield 120) := by decide +kernel
theorem aX4_heap_18 : mm_at mX4_heap 18 = some (.iload_n 2) := by decide +kernel
theorem aX4_heap_19 : mm_at mX4_heap 19 = some (.iastore) := by decide +kernel
theorem aX4_heap_20 : mm_at mX4_heap 20 = some (.aload_n 0) := by decide +kernel
theorem aX4_heap_21 : mm_at mX4_heap 21 = some (.getfield 62) := by decide +kernel
theorem aX4_heap_24 : mm_at mX4_heap 24 = some (.aload_n 0) := by decide +kernel
theorem aX4_heap_25 : mm_at mX4_heap 25 = some (.getfield 120) := by decide +kernel
theorem aX4_heap_28 : mm_at mX4_heap 28 = some (.lload_n 3) := by decide +kernel
theorem aX4_heap_29 : mm_at mX4_heap 29 = some (.lastore) := by decide +kernel
theorem aX4_heap_30 : mm_at mX4_heap 30 = some (.aload_n 0) := by decide +kernel
theorem aX4_heap_31 : mm_at mX4_heap 31 = some (.getfield 65) := by decide +kernel
theorem aX4_heap_34 : mm_at mX4_heap 34 = some (.aload_n 0) := by decide +kernel
theorem aX4_heap_35 : mm_at mX4_heap 35 = some (.getfield 120) := by decide +kernel
theorem aX4_heap_38 : mm_at mX4_heap 38 = some (.iconst 0) := by decide +kernel
theorem aX4_heap_39 : mm_at mX4_heap 39 = some (.iastore) := by decide +kernel
theorem aX4_heap_40 : mm_at mX4_heap 40 = some (.aload_n 0) := by decide +kernel
theorem aX4_heap_41 : mm_at mX4_heap 41 = some (.getfield 68) := by decide +kernel
theorem aX4_heap_44 : mm_at mX4_heap 44 = some (.aload_n 0) := by decide +kernel
theorem aX4_heap_45 : mm_at mX4_heap 45 = some (.getfield 120) := by decide +kernel
theorem aX4_heap_48 : mm_at mX4_heap 48 = some (.iconst 0) := by decide +kernel
theorem aX4_heap_49 : mm_at mX4_heap 49 = some (.iastore) := by decide +kernel
theorem aX4_heap_50 : mm_at mX4_heap 50 = some (.aload_n 0) := by decide +kernel
theorem aX4_heap_51 : mm_at mX4_heap 51 = some (.dup) := by decide +kernel
theorem aX4_heap_52 : mm_at mX4_heap 52 = some (.getfield 120) := by decide +kernel
theorem aX4_heap_55 : mm_at mX4_heap 55 = some (.iconst 1) := by decide +kernel
theorem aX4_heap_56 : mm_at mX4_heap 56 = some (.iadd) := by decide +kernel
theorem aX4_heap_57 : mm_at mX4_heap 57 = some (.putfield 120) := by decide +kernel
theorem aX4_heap_60 : mm_at mX4_heap 60 = some (.return_) := by decide +kernel
theorem aX4_rings_0 : mm_at mX4_rings 0 = some (.aload_n 0) := by decide +kernel
theorem aX4_rings_1 : mm_at mX4_rings 1 = some (.getfield 123) := by decide +kernel
theorem aX4_rings_4 : mm_at mX4_rings 4 = some (.bipush 8) := by decide +kernel
theorem aX4_rings_6 : mm_at mX4_rings 6 = some (.if_icmp .ne 9) := by decide +kernel
theorem aX4_rings_9 : mm_at mX4_rings 9 = some (.aload_n 0) := by decide +kernel
theorem aX4_rings_10 : mm_at mX4_rings 10 = some (.iconst 5) := by decide +kernel
theorem aX4_rings_11 : mm_at mX4_rings 11 = some (.putfield 126) := by decide +kernel
theorem aX4_rings_14 : mm_at mX4_rings 14 = some (.return_) := by decide +kernel
theorem aX4_rings_15 : mm_at mX4_rings 15 = some (.aload_n 0) := by decide +kernel
theorem aX4_rings_16 : mm_at mX4_rings 16 = some (.dup) := by decide +kernel
theorem aX4_rings_17 : mm_at mX4_rings 17 = some (.getfield 123) := by decide +kernel
theorem aX4_rings_20 : mm_at mX4_rings 20 = some (.iconst 1) := by decide +kernel
theorem aX4_rings_21 : mm_at mX4_rings 21 = some (.iadd) := by decide +kernel
theorem aX4_rings_22 : mm_at mX4_rings 22 = some (.putfield 123) := by decide +kernel
theorem aX4_rings_25 : mm_at mX4_rings 25 = some (.aload_n 0) := by decide +kernel
theorem aX4_rings_26 : mm_at mX4_rings 26 = some (.getfield 74) := by decide +kernel
theorem aX4_rings_29 : mm_at mX4_rings 29 = some (.iconst 2) := by decide +kernel
theorem aX4_rings_30 : mm_at mX4_rings 30 = some (.dup2) := by decide +kernel
theorem aX4_rings_31 : mm_at mX4_rings 31 = some (.iaload) := by decide +kernel
theorem aX4_rings_32 : mm_at mX4_rings 32 = some (.iconst 1) := by decide +kernel
theorem aX4_rings_33 : mm_at mX4_rings 33 = some (.iadd) := by decide +kernel
theorem aX4_rings_34 : mm_at mX4_rings 34 = some (.iastore) := by decide +kernel
theorem aX4_rings_35 : mm_at mX4_rings 35 = some (.aload_n 0) := by decide +kernel
theorem aX4_rings_36 : mm_at mX4_rings 36 = some (.iconst 0) := by decide +kernel
theorem aX4_rings_37 : mm_at mX4_rings 37 = some (.iload_n 1) := by decide +kernel
theorem aX4_rings_38 : mm_at mX4_rings 38 = some (.lload_n 2) := by decide +kernel
theorem aX4_rings_39 : mm_at mX4_rings 39 = some (.invokevirtual 129) := by decide +kernel
theorem aX4_rings_42 : mm_at mX4_rings 42 = some (.aload_n 0) := by decide +kernel
theorem aX4_rings_43 : mm_at mX4_rings 43 = some (.getfield 68) := by decide +kernel
theorem aX4_rings_46 : mm_at mX4_rings 46 = some (.aload_n 0) := by decide +kernel
theorem aX4_rings_47 : mm_at mX4_rings 47 = some (.getfield 120) := by decide +kernel
theorem aX4_rings_50 : mm_at mX4_rings 50 = some (.iconst 1) := by decide +kernel
theorem aX4_rings_51 : mm_at mX4_rings 51 = some (.isub) := by decide +kernel
theorem aX4_rings_52 : mm_at mX4_rings 52 = some (.aload_n 0) := by decide +kernel
theorem aX4_rings_53 : mm_at mX4_rings 53 = some (.getfield 20) := by decide +kernel
theorem aX4_rings_56 : mm_at mX4_rings 56 = some (.iload_n 1) := by decide +kernel
theorem aX4_rings_57 : mm_at mX4_rings 57 = some (.iaload) := by decide +kernel
theorem aX4_rings_58 : mm_at mX4_rings 58 = some (.iastore) := by decide +kernel
theorem aX4_rings_59 : mm_at mX4_rings 59 = some (.iconst 0) := by decide +kernel
theorem aX4_rings_60 : mm_at mX4_rings 60 = some (.istore 4) := by decide +kernel
theorem aX4_rings_62 : mm_at mX4_rings 62 = some (.iload 4) := by decide +kernel
theorem aX4_rings_64 : mm_at mX4_rings 64 = some (.aload_n 0) := by decide +kernel
theorem aX4_rings_65 : mm_at mX4_rings 65 = some (.getfield 20) := by decide +kernel
theorem aX4_rings_68 : mm_at mX4_rings 68 = some (.iload_n 1) := by decide +kernel
theorem aX4_rings_69 : mm_at mX4_rings 69 = some (.iaload) := by decide +kernel
theorem aX4_rings_70 : mm_at mX4_rings 70 = some (.if_icmp .ge 38) := by decide +kernel
theorem aX4_rings_73 : mm_at mX4_rings 73 = some (.aload_n 0) := by decide +kernel
theorem aX4_rings_74 : mm_at mX4_rings 74 = some (.getfield 71) := by decide +kernel
theorem aX4_rings_77 : mm_at mX4_rings 77 = some (.bipush 12) := by decide +kernel
theorem aX4_rings_79 : mm_at mX4_rings 79 = some (.aload_n 0) := by decide +kernel
theorem aX4_rings_80 : mm_at mX4_rings 80 = some (.getfield 120) := by decide +kernel
theorem aX4_rings_83 : mm_at mX4_rings 83 = some (.iconst 1) := by decide +kernel
theorem aX4_rings_84 : mm_at mX4_rings 84 = some (.isub) := by decide +kernel
theorem aX4_rings_85 : mm_at mX4_rings 85 = some (.imul) := by decide +kernel
theorem aX4_rings_86 : mm_at mX4_rings 86 = some (.iload 4) := by decide +kernel
theorem aX4_rings_88 : mm_at mX4_rings 88 = some (.iadd) := by decide +kernel
theorem aX4_rings_89 : mm_at mX4_rings 89 = some (.aload_n 0) := by decide +kernel
theorem aX4_rings_90 : mm_at mX4_rings 90 = some (.getfield 17) := by decide +kernel
theorem aX4_rings_93 : mm_at mX4_rings 93 = some (.bipush 12) := by decide +kernel
theorem aX4_rings_95 : mm_at mX4_rings 95 = some (.iload_n 1) := by decide +kernel
theorem aX4_rings_96 : mm_at mX4_rings 96 = some (.imul) := by decide +kernel
theorem aX4_rings_97 : mm_at mX4_rings 97 = some (.iload 4) := by decide +kernel
theorem aX4_rings_99 : mm_at mX4_rings 99 = some (.iadd) := by decide +kernel
theorem aX4_rings_100 : mm_at mX4_rings 100 = some (.iaload) := by decide +kernel
theorem aX4_rings_101 : mm_at mX4_rings 101 = some (.iastore) := by decide +kernel
theorem aX4_rings_102 : mm_at mX4_rings 102 = some (.iinc 4 1) := by decide +kernel
theorem aX4_rings_105 : mm_at mX4_rings 105 = some (.goto (-43)) := by decide +kernel
theorem aX4_rings_108 : mm_at mX4_rings 108 = some (.return_) := by decide +kernel
theorem aX4_begins_0 : mm_at mX4_begins 0 = some (.iload_n 1) := by decide +kernel
theorem aX4_begins_1 : mm_at mX4_begins 1 = some (.iconst (-1)) := by decide +kernel
theorem aX4_begins_2 : mm_at mX4_begins 2 = some (.if_icmp .ne 9) := by decide +kernel
theorem aX4_begins_5 : mm_at mX4_begins 5 = some (.aload_n 0) := by decide +kernel
theorem aX4_begins_6 : mm_at mX4_begins 6 = some (.iconst 3) := by decide +kernel
theorem aX4_begins_7 : mm_at mX4_begins 7 = some (.putfield 126) := by decide +kernel
theorem aX4_begins_10 : mm_at mX4_begins 10 = some (.return_) := by decide +kernel
theorem aX4_begins_11 : mm_at mX4_begins 11 = some (.aload_n 0) := by decide +kernel
theorem aX4_begins_12 : mm_at mX4_begins 12 = some (.iload_n 1) := by decide +kernel
theorem aX4_begins_13 : mm_at mX4_begins 13 = some (.putfield 133) := by decide +kernel
theorem aX4_begins_16 : mm_at mX4_begins 16 = some (.aload_n 0) := by decide +kernel
theorem aX4_begins_17 : mm_at mX4_begins 17 = some (.lload_n 2) := by decide +kernel
theorem aX4_begins_18 : mm_at mX4_begins 18 = some (.putfield 136) := by decide +kernel
theorem aX4_begins_21 : mm_at mX4_begins 21 = some (.return_) := by decide +kernel
theorem aX4_does_0 : mm_at mX4_does 0 = some (.aload_n 0) := by decide +kernel
theorem aX4_does_1 : mm_at mX4_does 1 = some (.getfield 133) := by decide +kernel
theorem aX4_does_4 : mm_at mX4_does 4 = some (.istore_n 1) := by decide +kernel
theorem aX4_does_5 : mm_at mX4_does 5 = some (.aload_n 0) := by decide +kernel
theorem aX4_does_6 : mm_at mX4_does 6 = some (.getfield 136) := by decide +kernel
theorem aX4_does_9 : mm_at mX4_does 9 = some (.lstore_n 2) := by decide +kernel
theorem aX4_does_10 : mm_at mX4_does 10 = some (.aload_n 0) := by decide +kernel
theorem aX4_does_11 : mm_at mX4_does 11 = some (.iconst (-1)) := by decide +kernel
theorem aX4_does_12 : mm_at mX4_does 12 = some (.putfield 133) := by decide +kernel
theorem aX4_does_15 : mm_at mX4_does 15 = some (.aload_n 0) := by decide +kernel
theorem aX4_does_16 : mm_at mX4_does 16 = some (.getfield 140) := by decide +kernel
theorem aX4_does_19 : mm_at mX4_does 19 = some (.sipush 200) := by decide +kernel
theorem aX4_does_22 : mm_at mX4_does 22 = some (.if_icmp .ne 10) := by decide +kernel
theorem aX4_does_25 : mm_at mX4_does 25 = some (.aload_n 0) := by decide +kernel
theorem aX4_does_26 : mm_at mX4_does 26 = some (.bipush 6) := by decide +kernel
theorem aX4_does_28 : mm_at mX4_does 28 = some (.putfield 126) := by decide +kernel
theorem aX4_does_31 : mm_at mX4_does 31 = some (.return_) := by decide +kernel
theorem aX4_does_32 : mm_at mX4_does 32 = some (.aload_n 0) := by decide +kernel
theorem aX4_does_33 : mm_at mX4_does 33 = some (.dup) := by decide +kernel
theorem aX4_does_34 : mm_at mX4_does 34 = some (.getfield 140) := by decide +kernel
theorem aX4_does_37 : mm_at mX4_does 37 = some (.iconst 1) := by decide +kernel
theorem aX4_does_38 : mm_at mX4_does 38 = some (.iadd) := by decide +kernel
theorem aX4_does_39 : mm_at mX4_does 39 = some (.putfield 140) := by decide +kernel
theorem aX4_does_42 : mm_at mX4_does 42 = some (.aload_n 0) := by decide +kernel
theorem aX4_does_43 : mm_at mX4_does 43 = some (.getfield 74) := by decide +kernel
theorem aX4_does_46 : mm_at mX4_does 46 = some (.iconst 1) := by decide +kernel
theorem aX4_does_47 : mm_at mX4_does 47 = some (.dup2) := by decide +kernel
theorem aX4_does_48 : mm_at mX4_does 48 = some (.iaload) := by decide +kernel
theorem aX4_does_49 : mm_at mX4_does 49 = some (.iconst 1) := by decide +kernel
theorem aX4_does_50 : mm_at mX4_does 50 = some (.iadd) := by decide +kernel
theorem aX4_does_51 : mm_at mX4_does 51 = some (.iastore) := by decide +kernel
theorem aX4_does_52 : mm_at mX4_does 52 = some (.aload_n 0) := by decide +kernel
theorem aX4_does_53 : mm_at mX4_does 53 = some (.getfield 44) := by decide +kernel
theorem aX4_does_56 : mm_at mX4_does 56 = some (.iload_n 1) := by decide +kernel
theorem aX4_does_57 : mm_at mX4_does 57 = some (.dup2) := by decide +kernel
theorem aX4_does_58 : mm_at mX4_does 58 = some (.iaload) := by decide +kernel
theorem aX4_does_59 : mm_at mX4_does 59 = some (.iconst 1) := by decide +kernel
theorem aX4_does_60 : mm_at mX4_does 60 = some (.iadd) := by decide +kernel
theorem aX4_does_61 : mm_at mX4_does 61 = some (.iastore) := by decide +kernel
theorem aX4_does_62 : mm_at mX4_does 62 = some (.aload_n 0) := by decide +kernel
theorem aX4_does_63 : mm_at mX4_does 63 = some (.getfield 26) := by decide +kernel
theorem aX4_does_66 : mm_at mX4_does 66 = some (.iload_n 1) := by decide +kernel
theorem aX4_does_67 : mm_at mX4_does 67 = some (.iaload) := by decide +kernel
theorem aX4_does_68 : mm_at mX4_does 68 = some (.istore 4) := by decide +kernel
theorem aX4_does_70 : mm_at mX4_does 70 = some (.aload_n 0) := by decide +kernel
theorem aX4_does_71 : mm_at mX4_does 71 = some (.getfield 29) := by decide +kernel
theorem aX4_does_74 : mm_at mX4_does 74 = some (.iload_n 1) := by decide +kernel
theorem aX4_does_75 : mm_at mX4_does 75 = some (.iaload) := by decide +kernel
theorem aX4_does_76 : mm_at mX4_does 76 = some (.istore 5) := by decide +kernel
theorem aX4_does_78 : mm_at mX4_does 78 = some (.aload_n 0) := by decide +kernel
theorem aX4_does_79 : mm_at mX4_does 79 = some (.getfield 23) := by decide +kernel
theorem aX4_does_82 : mm_at mX4_does 82 = some (.iload_n 1) := by decide +kernel
theorem aX4_does_83 : mm_at mX4_does 83 = some (.iaload) := by decide +kernel
theorem aX4_does_84 : mm_at mX4_does 84 = some (.tableswitch 275 0 7 #[48, 66, 99, 119, 152, 187, 201, 256]) := by decide +kernel
theorem aX4_does_132 : mm_at mX4_does 132 = some (.aload_n 0) := by decide +kernel
theorem aX4_does_133 : mm_at mX4_does 133 = some (.getfield 7) := by decide +kernel
theorem aX4_does_136 : mm_at mX4_does 136 = some (.iload 4) := by decide +kernel
theorem aX4_does_138 : mm_at mX4_does 138 = some (.dup2) := by decide +kernel
theorem aX4_does_139 : mm_at mX4_does 139 = some (.laload) := by decide +kernel
theorem aX4_does_140 : mm_at mX4_does 140 = some (.lload_n 2) := by decide +kernel
theorem aX4_does_141 : mm_at mX4_does 141 = some (.iload 5) := by decide +kernel
theorem aX4_does_143 : mm_at mX4_does 143 = some (.i2l) := by decide +kernel
theorem aX4_does_144 : mm_at mX4_does 144 = some (.ladd) := by decide +kernel
theorem aX4_does_145 : mm_at mX4_does 145 = some (.ladd) := by decide +kernel
theorem aX4_does_146 : mm_at mX4_does 146 = some (.lastore) := by decide +kernel
theorem aX4_does_147 : mm_at mX4_does 147 = some (.goto 218) := by decide +kernel
theorem aX4_does_150 : mm_at mX4_does 150 = some (.aload_n 0) := by decide +kernel
theorem aX4_does_151 : mm_at mX4_does 151 = some (.getfield 7) := by decide +kernel
theorem aX4_does_154 : mm_at mX4_does 154 = some (.iload 4) := by decide +kernel
theorem aX4_does_156 : mm_at mX4_does 156 = some (.lload_n 2) := by decide +kernel
theorem aX4_does_157 : mm_at mX4_does 157 = some (.aload_n 0) := by decide +kernel
theorem aX4_does_158 : mm_at mX4_does 158 = some (.getfield 7) := by decide +kernel
theorem aX4_does_161 : mm_at mX4_does 161 = some (.iload 4) := by decide +kernel
theorem aX4_does_163 : mm_at mX4_does 163 = some (.laload) := by decide +kernel
theorem aX4_does_164 : mm_at mX4_does 164 = some (.lcmp) := by decide +kernel
theorem aX4_does_165 : mm_at mX4_does 165 = some (.ifCond .le 7) := by decide +kernel
theorem aX4_does_168 : mm_at mX4_does 168 = some (.lload_n 2) := by decide +kernel
theorem aX4_does_169 : mm_at mX4_does 169 = some (.goto 10) := by decide +kernel
theorem aX4_does_172 : mm_at mX4_does 172 = some (.aload_n 0) := by decide +kernel
theorem aX4_does_173 : mm_at mX4_does 173 = some (.getfield 7) := by decide +kernel
theorem aX4_does_176 : mm_at mX4_does 176 = some (.iload 4) := by decide +kernel
theorem aX4_does_178 : mm_at mX4_does 178 = some (.laload) := by decide +kernel
theorem aX4_does_179 : mm_at mX4_does 179 = some (.lastore) := by decide +kernel
theorem aX4_does_180 : mm_at mX4_does 180 = some (.goto 185) := by decide +kernel
theorem aX4_does_183 : mm_at mX4_does 183 = some (.aload_n 0) := by decide +kernel
theorem aX4_does_184 : mm_at mX4_does 184 = some (.getfield 7) := by decide +kernel
theorem aX4_does_187 : mm_at mX4_does 187 = some (.iload 4) := by decide +kernel
theorem aX4_does_189 : mm_at mX4_does 189 = some (.aload_n 0) := by decide +kernel
theorem aX4_does_190 : mm_at mX4_does 190 = some (.getfield 32) := by decide +kernel
theorem aX4_does_193 : mm_at mX4_does 193 = some (.iload_n 1) := by decide +kernel
theorem aX4_does_194 : mm_at mX4_does 194 = some (.laload) := by decide +kernel
theorem aX4_does_195 : mm_at mX4_does 195 = some (.iload 5) := by decide +kernel
theorem aX4_does_197 : mm_at mX4_does 197 = some (.i2l) := by decide +kernel
theorem aX4_does_198 : mm_at mX4_does 198 = some (.ladd) := by decide +kernel
theorem aX4_does_199 : mm_at mX4_does 199 = some (.lastore) := by decide +kernel
theorem aX4_does_200 : mm_at mX4_does 200 = some (.goto 165) := by decide +kernel
theorem aX4_does_203 : mm_at mX4_does 203 = some (.lload_n 2) := by decide +kernel
theorem aX4_does_204 : mm_at mX4_does 204 = some (.lconst 0) := by decide +kernel
theorem aX4_does_205 : mm_at mX4_does 205 = some (.lcmp) := by decide +kernel
theorem aX4_does_206 : mm_at mX4_does 206 = some (.ifCond .ne 11) := by decide +kernel
theorem aX4_does_209 : mm_at mX4_does 209 = some (.aload_n 0) := by decide +kernel
theorem aX4_does_210 : mm_at mX4_does 210 = some (.iconst 1) := by decide +kernel
theorem aX4_does_211 : mm_at mX4_does 211 = some (.putfield 126) := by decide +kernel
theorem aX4_does_214 : mm_at mX4_does 214 = some (.goto 151) := by decide +kernel
theorem aX4_does_217 : mm_at mX4_does 217 = some (.aload_n 0) := by decide +kernel
theorem aX4_does_218 : mm_at mX4_does 218 = some (.getfield 7) := by decide +kernel
theorem aX4_does_221 : mm_at mX4_does 221 = some (.iload 4) := by decide +kernel
theorem aX4_does_223 : mm_at mX4_does 223 = some (.aload_n 0) := by decide +kernel
theorem aX4_does_224 : mm_at mX4_does 224 = some (.getfield 7) := by decide +kernel
theorem aX4_does_227 : mm_at mX4_does 227 = some (.iload 4) := by decide +kernel
theorem aX4_does_229 : mm_at mX4_does 229 = some (.laload) := by decide +kernel
theorem aX4_does_230 : mm_at mX4_does 230 = some (.lload_n 2) := by decide +kernel
theorem aX4_does_231 : mm_at mX4_does 231 = some (.ldiv) := by decide +kernel
theorem aX4_does_232 : mm_at mX4_does 232 = some (.lastore) := by decide +kernel
theorem aX4_does_233 : mm_at mX4_does 233 = some (.goto 132) := by decide +kernel
theorem aX4_does_236 : mm_at mX4_does 236 = some (.lload_n 2) := by decide +kernel
theorem aX4_does_237 : mm_at mX4_does 237 = some (.lconst 0) := by decide +kernel
theorem aX4_does_238 : mm_at mX4_does 238 = some (.ldc2_w 91) := by decide +kernel
theorem aX4_does_241 : mm_at mX4_does 241 = some (.invokestatic 85) := by decide +kernel
theorem aX4_does_244 : mm_at mX4_does 244 = some (.ifCond .eq 19) := by decide +kernel
theorem aX4_does_247 : mm_at mX4_does 247 = some (.aload_n 0) := by decide +kernel
theorem aX4_does_248 : mm_at mX4_does 248 = some (.getfield 7) := by decide +kernel
theorem aX4_does_251 : mm_at mX4_does 251 = some (.lload_n 2) := by decide +kernel
theorem aX4_does_252 : mm_at mX4_does 252 = some (.l2i) := by decide +kernel
theorem aX4_does_253 : mm_at mX4_does 253 = some (.dup2) := by decide +kernel
theorem aX4_does_254 : mm_at mX4_does 254 = some (.laload) := by decide +kernel
theorem aX4_does_255 : mm_at mX4_does 255 = some (.iload 5) := by decide +kernel
theorem aX4_does_257 : mm_at mX4_does 257 = some (.i2l) := by decide +kernel
theorem aX4_does_258 : mm_at mX4_does 258 = some (.ladd) := by decide +kernel
theorem aX4_does_259 : mm_at mX4_does 259 = some (.lastore) := by decide +kernel
theorem aX4_does_260 : mm_at mX4_does 260 = some (.goto 105) := by decide +kernel
theorem aX4_does_263 : mm_at mX4_does 263 = some (.aload_n 0) := by decide +kernel
theorem aX4_does_264 : mm_at mX4_does 264 = some (.iconst 2) := by decide +kernel
theorem aX4_does_265 : mm_at mX4_does 265 = some (.putfield 126) := by decide +kernel
theorem aX4_does_268 : mm_at mX4_does 268 = some (.goto 97) := by decide +kernel
theorem aX4_does_271 : mm_at mX4_does 271 = some (.aload_n 0) := by decide +kernel
theorem aX4_does_272 : mm_at mX4_does 272 = some (.iload 4) := by decide +kernel
theorem aX4_does_274 : mm_at mX4_does 274 = some (.lload_n 2) := by decide +kernel
theorem aX4_does_275 : mm_at mX4_does 275 = some (.iload 5) := by decide +kernel
theorem aX4_does_277 : mm_at mX4_does 277 = some (.i2l) := by decide +kernel
theorem aX4_does_278 : mm_at mX4_does 278 = some (.ladd) := by decide +kernel
theorem aX4_does_279 : mm_at mX4_does 279 = some (.invokevirtual 143) := by decide +kernel
theorem aX4_does_282 : mm_at mX4_does 282 = some (.goto 83) := by decide +kernel
theorem aX4_does_285 : mm_at mX4_does 285 = some (.aload_n 0) := by decide +kernel
theorem aX4_does_286 : mm_at mX4_does 286 = some (.getfield 147) := by decide +kernel
theorem aX4_does_289 : mm_at mX4_does 289 = some (.bipush 20) := by decide +kernel
theorem aX4_does_291 : mm_at mX4_does 291 = some (.if_icmp .ne 11) := by decide +kernel
theorem aX4_does_294 : mm_at mX4_does 294 = some (.aload_n 0) := by decide +kernel
theorem aX4_does_295 : mm_at mX4_does 295 = some (.iconst 4) := by decide +kernel
theorem aX4_does_296 : mm_at mX4_does 296 = some (.putfield 126) := by decide +kernel
theorem aX4_does_299 : mm_at mX4_does 299 = some (.goto 66) := by decide +kernel
theorem aX4_does_302 : mm_at mX4_does 302 = some (.aload_n 0) := by decide +kernel
theorem aX4_does_303 : mm_at mX4_does 303 = some (.getfield 50) := by decide +kernel
theorem aX4_does_306 : mm_at mX4_does 306 = some (.aload_n 0) := by decide +kernel
theorem aX4_does_307 : mm_at mX4_does 307 = some (.getfield 147) := by decide +kernel
theorem aX4_does_310 : mm_at mX4_does 310 = some (.iload 4) := by decide +kernel
theorem aX4_does_312 : mm_at mX4_does 312 = some (.iastore) := by decide +kernel
theorem aX4_does_313 : mm_at mX4_does 313 = some (.aload_n 0) := by decide +kernel
theorem aX4_does_314 : mm_at mX4_does 314 = some (.getfield 53) := by decide +kernel
theorem aX4_does_317 : mm_at mX4_does 317 = some (.aload_n 0) := by decide +kernel
theorem aX4_does_318 : mm_at mX4_does 318 = some (.getfield 147) := by decide +kernel
theorem aX4_does_321 : mm_at mX4_does 321 = some (.lload_n 2) := by decide +kernel
theorem aX4_does_322 : mm_at mX4_does 322 = some (.iload 5) := by decide +kernel
theorem aX4_does_324 : mm_at mX4_does 324 = some (.i2l) := by decide +kernel
theorem aX4_does_325 : mm_at mX4_does 325 = some (.ladd) := by decide +kernel
theorem aX4_does_326 : mm_at mX4_does 326 = some (.lastore) := by decide +kernel
theorem aX4_does_327 : mm_at mX4_does 327 = some (.aload_n 0) := by decide +kernel
theorem aX4_does_328 : mm_at mX4_does 328 = some (.dup) := by decide +kernel
theorem aX4_does_329 : mm_at mX4_does 329 = some (.getfield 147) := by decide +kernel
theorem aX4_does_332 : mm_at mX4_does 332 = some (.iconst 1) := by decide +kernel
theorem aX4_does_333 : mm_at mX4_does 333 = some (.iadd) := by decide +kernel
theorem aX4_does_334 : mm_at mX4_does 334 = some (.putfield 147) := by decide +kernel
theorem aX4_does_337 : mm_at mX4_does 337 = some (.goto 28) := by decide +kernel
theorem aX4_does_340 : mm_at mX4_does 340 = some (.aload_n 0) := by decide +kernel
theorem aX4_does_341 : mm_at mX4_does 341 = some (.getfield 74) := by decide +kernel
theorem aX4_does_344 : mm_at mX4_does 344 = some (.bipush 6) := by decide +kernel
theorem aX4_does_346 : mm_at mX4_does 346 = some (.dup2) := by decide +kernel
theorem aX4_does_347 : mm_at mX4_does 347 = some (.iaload) := by decide +kernel
theorem aX4_does_348 : mm_at mX4_does 348 = some (.iconst 1) := by decide +kernel
theorem aX4_does_349 : mm_at mX4_does 349 = some (.iadd) := by decide +kernel
theorem aX4_does_350 : mm_at mX4_does 350 = some (.iastore) := by decide +kernel
theorem aX4_does_351 : mm_at mX4_does 351 = some (.aload_n 0) := by decide +kernel
theorem aX4_does_352 : mm_at mX4_does 352 = some (.iconst 1) := by decide +kernel
theorem aX4_does_353 : mm_at mX4_does 353 = some (.putfield 150) := by decide +kernel
theorem aX4_does_356 : mm_at mX4_does 356 = some (.goto 9) := by decide +kernel
theorem aX4_does_359 : mm_at mX4_does 359 = some (.aload_n 0) := by decide +kernel
theorem aX4_does_360 : mm_at mX4_does 360 = some (.iload_n 1) := by decide +kernel
theorem aX4_does_361 : mm_at mX4_does 361 = some (.lload_n 2) := by decide +kernel
theorem aX4_does_362 : mm_at mX4_does 362 = some (.invokevirtual 154) := by decide +kernel
theorem aX4_does_365 : mm_at mX4_does 365 = some (.return_) := by decide +kernel
theorem aX4_doesOthers_0 : mm_at mX4_doesOthers 0 = some (.aload_n 0) := by decide +kernel
theorem aX4_doesOthers_1 : mm_at mX4_doesOthers 1 = some (.getfield 26) := by decide +kernel
theorem aX4_doesOthers_4 : mm_at mX4_doesOthers 4 = some (.iload_n 1) := by decide +kernel
theorem aX4_doesOthers_5 : mm_at mX4_doesOthers 5 = some (.iaload) := by decide +kernel
theorem aX4_doesOthers_6 : mm_at mX4_doesOthers 6 = some (.istore 4) := by decide +kernel
theorem aX4_doesOthers_8 : mm_at mX4_doesOthers 8 = some (.aload_n 0) := by decide +kernel
theorem aX4_doesOthers_9 : mm_at mX4_doesOthers 9 = some (.getfield 29) := by decide +kernel
theorem aX4_doesOthers_12 : mm_at mX4_doesOthers 12 = some (.iload_n 1) := by decide +kernel
theorem aX4_doesOthers_13 : mm_at mX4_doesOthers 13 = some (.iaload) := by decide +kernel
theorem aX4_doesOthers_14 : mm_at mX4_doesOthers 14 = some (.istore 5) := by decide +kernel
theorem aX4_doesOthers_16 : mm_at mX4_doesOthers 16 = some (.aload_n 0) := by decide +kernel
theorem aX4_doesOthers_17 : mm_at mX4_doesOthers 17 = some (.getfield 23) := by decide +kernel
theorem aX4_doesOthers_20 : mm_at mX4_doesOthers 20 = some (.iload_n 1) := by decide +kernel
theorem aX4_doesOthers_21 : mm_at mX4_doesOthers 21 = some (.iaload) := by decide +kernel
theorem aX4_doesOthers_22 : mm_at mX4_doesOthers 22 = some (.tableswitch 218 8 13 #[38, 73, 115, 141, 167, 189]) := by decide +kernel
theorem aX4_doesOthers_60 : mm_at mX4_doesOthers 60 = some (.aload_n 0) := by decide +kernel
theorem aX4_doesOthers_61 : mm_at mX4_doesOthers 61 = some (.getfield 41) := by decide +kernel
theorem aX4_doesOthers_64 : mm_at mX4_doesOthers 64 = some (.iload_n 1) := by decide +kernel
theorem aX4_doesOthers_65 : mm_at mX4_doesOthers 65 = some (.iaload) := by decide +kernel
theorem aX4_doesOthers_66 : mm_at mX4_doesOthers 66 = some (.iload 5) := by decide +kernel
theorem aX4_doesOthers_68 : mm_at mX4_doesOthers 68 = some (.if_icmp .ge 212) := by decide +kernel
theorem aX4_doesOthers_71 : mm_at mX4_doesOthers 71 = some (.aload_n 0) := by decide +kernel
theorem aX4_doesOthers_72 : mm_at mX4_doesOthers 72 = some (.getfield 41) := by decide +kernel
theorem aX4_doesOthers_75 : mm_at mX4_doesOthers 75 = some (.iload_n 1) := by decide +kernel
theorem aX4_doesOthers_76 : mm_at mX4_doesOthers 76 = some (.dup2) := by decide +kernel
theorem aX4_doesOthers_77 : mm_at mX4_doesOthers 77 = some (.iaload) := by decide +kernel
theorem aX4_doesOthers_78 : mm_at mX4_doesOthers 78 = some (.iconst 1) := by decide +kernel
theorem aX4_doesOthers_79 : mm_at mX4_doesOthers 79 = some (.iadd) := by decide +kernel
theorem aX4_doesOthers_80 : mm_at mX4_doesOthers 80 = some (.iastore) := by decide +kernel
theorem aX4_doesOthers_81 : mm_at mX4_doesOthers 81 = some (.aload_n 0) := by decide +kernel
theorem aX4_doesOthers_82 : mm_at mX4_doesOthers 82 = some (.aload_n 0) := by decide +kernel
theorem aX4_doesOthers_83 : mm_at mX4_doesOthers 83 = some (.getfield 35) := by decide +kernel
theorem aX4_doesOthers_86 : mm_at mX4_doesOthers 86 = some (.iload_n 1) := by decide +kernel
theorem aX4_doesOthers_87 : mm_at mX4_doesOthers 87 = some (.iaload) := by decide +kernel
theorem aX4_doesOthers_88 : mm_at mX4_doesOthers 88 = some (.lload_n 2) := by decide +kernel
theorem aX4_doesOthers_89 : mm_at mX4_doesOthers 89 = some (.invokevirtual 157) := by decide +kernel
theorem aX4_doesOthers_92 : mm_at mX4_doesOthers 92 = some (.goto 188) := by decide +kernel
theorem aX4_doesOthers_95 : mm_at mX4_doesOthers 95 = some (.aload_n 0) := by decide +kernel
theorem aX4_doesOthers_96 : mm_at mX4_doesOthers 96 = some (.getfield 41) := by decide +kernel
theorem aX4_doesOthers_99 : mm_at mX4_doesOthers 99 = some (.iload_n 1) := by decide +kernel
theorem aX4_doesOthers_100 : mm_at mX4_doesOthers 100 = some (.dup2) := by decide +kernel
theorem aX4_doesOthers_101 : mm_at mX4_doesOthers 101 = some (.iaload) := by decide +kernel
theorem aX4_doesOthers_102 : mm_at mX4_doesOthers 102 = some (.iconst 1) := by decide +kernel
theorem aX4_doesOthers_103 : mm_at mX4_doesOthers 103 = some (.iadd) := by decide +kernel
theorem aX4_doesOthers_104 : mm_at mX4_doesOthers 104 = some (.iastore) := by decide +kernel
theorem aX4_doesOthers_105 : mm_at mX4_doesOthers 105 = some (.aload_n 0) := by decide +kernel
theorem aX4_doesOthers_106 : mm_at mX4_doesOthers 106 = some (.getfield 41) := by decide +kernel
theorem aX4_doesOthers_109 : mm_at mX4_doesOthers 109 = some (.iload_n 1) := by decide +kernel
theorem aX4_doesOthers_110 : mm_at mX4_doesOthers 110 = some (.iaload) := by decide +kernel
theorem aX4_doesOthers_111 : mm_at mX4_doesOthers 111 = some (.iload 5) := by decide +kernel
theorem aX4_doesOthers_113 : mm_at mX4_doesOthers 113 = some (.if_icmp .lt 167) := by decide +kernel
theorem aX4_doesOthers_116 : mm_at mX4_doesOthers 116 = some (.aload_n 0) := by decide +kernel
theorem aX4_doesOthers_117 : mm_at mX4_doesOthers 117 = some (.getfield 41) := by decide +kernel
theorem aX4_doesOthers_120 : mm_at mX4_doesOthers 120 = some (.iload_n 1) := by decide +kernel
theorem aX4_doesOthers_121 : mm_at mX4_doesOthers 121 = some (.iconst 0) := by decide +kernel
theorem aX4_doesOthers_122 : mm_at mX4_doesOthers 122 = some (.iastore) := by decide +kernel
theorem aX4_doesOthers_123 : mm_at mX4_doesOthers 123 = some (.aload_n 0) := by decide +kernel
theorem aX4_doesOthers_124 : mm_at mX4_doesOthers 124 = some (.aload_n 0) := by decide +kernel
theorem aX4_doesOthers_125 : mm_at mX4_doesOthers 125 = some (.getfield 35) := by decide +kernel
theorem aX4_doesOthers_128 : mm_at mX4_doesOthers 128 = some (.iload_n 1) := by decide +kernel
theorem aX4_doesOthers_129 : mm_at mX4_doesOthers 129 = some (.iaload) := by decide +kernel
theorem aX4_doesOthers_130 : mm_at mX4_doesOthers 130 = some (.lload_n 2) := by decide +kernel
theorem aX4_doesOthers_131 : mm_at mX4_doesOthers 131 = some (.invokevirtual 157) := by decide +kernel
theorem aX4_doesOthers_134 : mm_at mX4_doesOthers 134 = some (.goto 146) := by decide +kernel
theorem aX4_doesOthers_137 : mm_at mX4_doesOthers 137 = some (.aload_n 0) := by decide +kernel
theorem aX4_doesOthers_138 : mm_at mX4_doesOthers 138 = some (.getfield 7) := by decide +kernel
theorem aX4_doesOthers_141 : mm_at mX4_doesOthers 141 = some (.iload 5) := by decide +kernel
theorem aX4_doesOthers_143 : mm_at mX4_doesOthers 143 = some (.laload) := by decide +kernel
theorem aX4_doesOthers_144 : mm_at mX4_doesOthers 144 = some (.lconst 0) := by decide +kernel
theorem aX4_doesOthers_145 : mm_at mX4_doesOthers 145 = some (.lcmp) := by decide +kernel
theorem aX4_doesOthers_146 : mm_at mX4_doesOthers 146 = some (.ifCond .le 134) := by decide +kernel
theorem aX4_doesOthers_149 : mm_at mX4_doesOthers 149 = some (.aload_n 0) := by decide +kernel
theorem aX4_doesOthers_150 : mm_at mX4_doesOthers 150 = some (.aload_n 0) := by decide +kernel
theorem aX4_doesOthers_151 : mm_at mX4_doesOthers 151 = some (.getfield 35) := by decide +kernel
theorem aX4_doesOthers_154 : mm_at mX4_doesOthers 154 = some (.iload_n 1) := by decide +kernel
theorem aX4_doesOthers_155 : mm_at mX4_doesOthers 155 = some (.iaload) := by decide +kernel
theorem aX4_doesOthers_156 : mm_at mX4_doesOthers 156 = some (.lload_n 2) := by decide +kernel
theorem aX4_doesOthers_157 : mm_at mX4_doesOthers 157 = some (.invokevirtual 157) := by decide +kernel
theorem aX4_doesOthers_160 : mm_at mX4_doesOthers 160 = some (.goto 120) := by decide +kernel
theorem aX4_doesOthers_163 : mm_at mX4_doesOthers 163 = some (.aload_n 0) := by decide +kernel
theorem aX4_doesOthers_164 : mm_at mX4_doesOthers 164 = some (.iconst 2) := by decide +kernel
theorem aX4_doesOthers_165 : mm_at mX4_doesOthers 165 = some (.aload_n 0) := by decide +kernel
theorem aX4_doesOthers_166 : mm_at mX4_doesOthers 166 = some (.getfield 38) := by decide +kernel
theorem aX4_doesOthers_169 : mm_at mX4_doesOthers 169 = some (.iload_n 1) := by decide +kernel
theorem aX4_doesOthers_170 : mm_at mX4_doesOthers 170 = some (.iaload) := by decide +kernel
theorem aX4_doesOthers_171 : mm_at mX4_doesOthers 171 = some (.lload_n 2) := by decide +kernel
theorem aX4_doesOthers_172 : mm_at mX4_doesOthers 172 = some (.invokevirtual 129) := by decide +kernel
theorem aX4_doesOthers_175 : mm_at mX4_doesOthers 175 = some (.aload_n 0) := by decide +kernel
theorem aX4_doesOthers_176 : mm_at mX4_doesOthers 176 = some (.aload_n 0) := by decide +kernel
theorem aX4_doesOthers_177 : mm_at mX4_doesOthers 177 = some (.getfield 35) := by decide +kernel
theorem aX4_doesOthers_180 : mm_at mX4_doesOthers 180 = some (.iload_n 1) := by decide +kernel
theorem aX4_doesOthers_181 : mm_at mX4_doesOthers 181 = some (.iaload) := by decide +kernel
theorem aX4_doesOthers_182 : mm_at mX4_doesOthers 182 = some (.lload_n 2) := by decide +kernel
theorem aX4_doesOthers_183 : mm_at mX4_doesOthers 183 = some (.invokevirtual 157) := by decide +kernel
theorem aX4_doesOthers_186 : mm_at mX4_doesOthers 186 = some (.goto 94) := by decide +kernel
theorem aX4_doesOthers_189 : mm_at mX4_doesOthers 189 = some (.aload_n 0) := by decide +kernel
theorem aX4_doesOthers_190 : mm_at mX4_doesOthers 190 = some (.iconst 1) := by decide +kernel
theorem aX4_doesOthers_191 : mm_at mX4_doesOthers 191 = some (.iload 5) := by decide +kernel
theorem aX4_doesOthers_193 : mm_at mX4_doesOthers 193 = some (.lload_n 2) := by decide +kernel
theorem aX4_doesOthers_194 : mm_at mX4_doesOthers 194 = some (.invokevirtual 129) := by decide +kernel
theorem aX4_doesOthers_197 : mm_at mX4_doesOthers 197 = some (.aload_n 0) := by decide +kernel
theorem aX4_doesOthers_198 : mm_at mX4_doesOthers 198 = some (.aload_n 0) := by decide +kernel
theorem aX4_doesOthers_199 : mm_at mX4_doesOthers 199 = some (.getfield 35) := by decide +kernel
theorem aX4_doesOthers_202 : mm_at mX4_doesOthers 202 = some (.iload_n 1) := by decide +kernel
theorem aX4_doesOthers_203 : mm_at mX4_doesOthers 203 = some (.iaload) := by decide +kernel
theorem aX4_doesOthers_204 : mm_at mX4_doesOthers 204 = some (.lload_n 2) := by decide +kernel
theorem aX4_doesOthers_205 : mm_at mX4_doesOthers 205 = some (.invokevirtual 157) := by decide +kernel
theorem aX4_doesOthers_208 : mm_at mX4_doesOthers 208 = some (.goto 72) := by decide +kernel
theorem aX4_doesOthers_211 : mm_at mX4_doesOthers 211 = some (.iconst 0) := by decide +kernel
theorem aX4_doesOthers_212 : mm_at mX4_doesOthers 212 = some (.istore 6) := by decide +kernel
theorem aX4_doesOthers_214 : mm_at mX4_doesOthers 214 = some (.iload 6) := by decide +kernel
theorem aX4_doesOthers_216 : mm_at mX4_doesOthers 216 = some (.bipush 6) := by decide +kernel
theorem aX4_doesOthers_218 : mm_at mX4_doesOthers 218 = some (.if_icmp .ge 19) := by decide +kernel
theorem aX4_doesOthers_221 : mm_at mX4_doesOthers 221 = some (.aload_n 0) := by decide +kernel
theorem aX4_doesOthers_222 : mm_at mX4_doesOthers 222 = some (.iload 4) := by decide +kernel
theorem aX4_doesOthers_224 : mm_at mX4_doesOthers 224 = some (.iload 6) := by decide +kernel
theorem aX4_doesOthers_226 : mm_at mX4_doesOthers 226 = some (.invokevirtual 117) := by decide +kernel
theorem aX4_doesOthers_229 : mm_at mX4_doesOthers 229 = some (.istore 7) := by decide +kernel
theorem aX4_doesOthers_231 : mm_at mX4_doesOthers 231 = some (.iinc 6 1) := by decide +kernel
theorem aX4_doesOthers_234 : mm_at mX4_doesOthers 234 = some (.goto (-20)) := by decide +kernel
theorem aX4_doesOthers_237 : mm_at mX4_doesOthers 237 = some (.goto 43) := by decide +kernel
theorem aX4_doesOthers_240 : mm_at mX4_doesOthers 240 = some (.aload_n 0) := by decide +kernel
theorem aX4_doesOthers_241 : mm_at mX4_doesOthers 241 = some (.iload 4) := by decide +kernel
theorem aX4_doesOthers_243 : mm_at mX4_doesOthers 243 = some (.iload 5) := by decide +kernel
theorem aX4_doesOthers_245 : mm_at mX4_doesOthers 245 = some (.invokevirtual 109) := by decide +kernel
theorem aX4_doesOthers_248 : mm_at mX4_doesOthers 248 = some (.iconst (-1)) := by decide +kernel
theorem aX4_doesOthers_249 : mm_at mX4_doesOthers 249 = some (.if_icmp .ne 31) := by decide +kernel
theorem aX4_doesOthers_252 : mm_at mX4_doesOthers 252 = some (.aload_n 0) := by decide +kernel
theorem aX4_doesOthers_253 : mm_at mX4_doesOthers 253 = some (.getfield 20) := by decide +kernel
theorem aX4_doesOthers_256 : mm_at mX4_doesOthers 256 = some (.iload 5) := by decide +kernel
theorem aX4_doesOthers_258 : mm_at mX4_doesOthers 258 = some (.iaload) := by decide +kernel
theorem aX4_doesOthers_259 : mm_at mX4_doesOthers 259 = some (.bipush 12) := by decide +kernel
theorem aX4_doesOthers_261 : mm_at mX4_doesOthers 261 = some (.if_icmp .ne 11) := by decide +kernel
theorem aX4_doesOthers_264 : mm_at mX4_doesOthers 264 = some (.aload_n 0) := by decide +kernel
theorem aX4_doesOthers_265 : mm_at mX4_doesOthers 265 = some (.iconst 4) := by decide +kernel
theorem aX4_doesOthers_266 : mm_at mX4_doesOthers 266 = some (.putfield 126) := by decide +kernel
theorem aX4_doesOthers_269 : mm_at mX4_doesOthers 269 = some (.goto 11) := by decide +kernel
theorem aX4_doesOthers_272 : mm_at mX4_doesOthers 272 = some (.aload_n 0) := by decide +kernel
theorem aX4_doesOthers_273 : mm_at mX4_doesOthers 273 = some (.iload 4) := by decide +kernel
theorem aX4_doesOthers_275 : mm_at mX4_doesOthers 275 = some (.iload 5) := by decide +kernel
theorem aX4_doesOthers_277 : mm_at mX4_doesOthers 277 = some (.invokevirtual 113) := by decide +kernel
theorem aX4_doesOthers_280 : mm_at mX4_doesOthers 280 = some (.return_) := by decide +kernel
theorem aX4_fails_0 : mm_at mX4_fails 0 = some (.aload_n 0) := by decide +kernel
theorem aX4_fails_1 : mm_at mX4_fails 1 = some (.getfield 126) := by decide +kernel
theorem aX4_fails_4 : mm_at mX4_fails 4 = some (.iconst 5) := by decide +kernel
theorem aX4_fails_5 : mm_at mX4_fails 5 = some (.if_icmp .eq 12) := by decide +kernel
theorem aX4_fails_8 : mm_at mX4_fails 8 = some (.aload_n 0) := by decide +kernel
theorem aX4_fails_9 : mm_at mX4_fails 9 = some (.getfield 126) := by decide +kernel
theorem aX4_fails_12 : mm_at mX4_fails 12 = some (.bipush 6) := by decide +kernel
theorem aX4_fails_14 : mm_at mX4_fails 14 = some (.if_icmp .ne 7) := by decide +kernel
theorem aX4_fails_17 : mm_at mX4_fails 17 = some (.iconst 1) := by decide +kernel
theorem aX4_fails_18 : mm_at mX4_fails 18 = some (.goto 4) := by decide +kernel
theorem aX4_fails_21 : mm_at mX4_fails 21 = some (.iconst 0) := by decide +kernel
theorem aX4_fails_22 : mm_at mX4_fails 22 = some (.istore_n 1) := by decide +kernel
theorem aX4_fails_23 : mm_at mX4_fails 23 = some (.aload_n 0) := by decide +kernel
theorem aX4_fails_24 : mm_at mX4_fails 24 = some (.getfield 120) := by decide +kernel
theorem aX4_fails_27 : mm_at mX4_fails 27 = some (.ifCond .le 165) := by decide +kernel
theorem aX4_fails_30 : mm_at mX4_fails 30 = some (.aload_n 0) := by decide +kernel
theorem aX4_fails_31 : mm_at mX4_fails 31 = some (.getfield 126) := by decide +kernel
theorem aX4_fails_34 : mm_at mX4_fails 34 = some (.ifCond .eq 158) := by decide +kernel
theorem aX4_fails_37 : mm_at mX4_fails 37 = some (.aload_n 0) := by decide +kernel
theorem aX4_fails_38 : mm_at mX4_fails 38 = some (.getfield 120) := by decide +kernel
theorem aX4_fails_41 : mm_at mX4_fails 41 = some (.iconst 1) := by decide +kernel
theorem aX4_fails_42 : mm_at mX4_fails 42 = some (.isub) := by decide +kernel
theorem aX4_fails_43 : mm_at mX4_fails 43 = some (.istore_n 2) := by decide +kernel
theorem aX4_fails_44 : mm_at mX4_fails 44 = some (.iload_n 1) := by decide +kernel
theorem aX4_fails_45 : mm_at mX4_fails 45 = some (.ifCond .ne 56) := by decide +kernel
theorem aX4_fails_48 : mm_at mX4_fails 48 = some (.aload_n 0) := by decide +kernel
theorem aX4_fails_49 : mm_at mX4_fails 49 = some (.getfield 56) := by decide +kernel
theorem aX4_fails_52 : mm_at mX4_fails 52 = some (.iload_n 2) := by decide +kernel
theorem aX4_fails_53 : mm_at mX4_fails 53 = some (.iaload) := by decide +kernel
theorem aX4_fails_54 : mm_at mX4_fails 54 = some (.ifCond .ne 47) := by decide +kernel
theorem aX4_fails_57 : mm_at mX4_fails 57 = some (.aload_n 0) := by decide +kernel
theorem aX4_fails_58 : mm_at mX4_fails 58 = some (.getfield 13) := by decide +kernel
theorem aX4_fails_61 : mm_at mX4_fails 61 = some (.aload_n 0) := by decide +kernel
theorem aX4_fails_62 : mm_at mX4_fails 62 = some (.getfield 59) := by decide +kernel
theorem aX4_fails_65 : mm_at mX4_fails 65 = some (.iload_n 2) := by decide +kernel
theorem aX4_fails_66 : mm_at mX4_fails 66 = some (.iaload) := by decide +kernel
theorem aX4_fails_67 : mm_at mX4_fails 67 = some (.iaload) := by decide +kernel
theorem aX4_fails_68 : mm_at mX4_fails 68 = some (.iconst 1) := by decide +kernel
theorem aX4_fails_69 : mm_at mX4_fails 69 = some (.if_icmp .ne 32) := by decide +kernel
theorem aX4_fails_72 : mm_at mX4_fails 72 = some (.aload_n 0) := by decide +kernel
theorem aX4_fails_73 : mm_at mX4_fails 73 = some (.getfield 74) := by decide +kernel
theorem aX4_fails_76 : mm_at mX4_fails 76 = some (.iconst 3) := by decide +kernel
theorem aX4_fails_77 : mm_at mX4_fails 77 = some (.dup2) := by decide +kernel
theorem aX4_fails_78 : mm_at mX4_fails 78 = some (.iaload) := by decide +kernel
theorem aX4_fails_79 : mm_at mX4_fails 79 = some (.iconst 1) := by decide +kernel
theorem aX4_fails_80 : mm_at mX4_fails 80 = some (.iadd) := by decide +kernel
theorem aX4_fails_81 : mm_at mX4_fails 81 = some (.iastore) := by decide +kernel
theorem aX4_fails_82 : mm_at mX4_fails 82 = some (.aload_n 0) := by decide +kernel
theorem aX4_fails_83 : mm_at mX4_fails 83 = some (.getfield 74) := by decide +kernel
theorem aX4_fails_86 : mm_at mX4_fails 86 = some (.bipush 9) := by decide +kernel
theorem aX4_fails_88 : mm_at mX4_fails 88 = some (.dup2) := by decide +kernel
theorem aX4_fails_89 : mm_at mX4_fails 89 = some (.iaload) := by decide +kernel
theorem aX4_fails_90 : mm_at mX4_fails 90 = some (.iconst 1) := by decide +kernel
theorem aX4_fails_91 : mm_at mX4_fails 91 = some (.iadd) := by decide +kernel
theorem aX4_fails_92 : mm_at mX4_fails 92 = some (.iastore) := by decide +kernel
theorem aX4_fails_93 : mm_at mX4_fails 93 = some (.aload_n 0) := by decide +kernel
theorem aX4_fails_94 : mm_at mX4_fails 94 = some (.iconst 0) := by decide +kernel
theorem aX4_fails_95 : mm_at mX4_fails 95 = some (.putfield 126) := by decide +kernel
theorem aX4_fails_98 : mm_at mX4_fails 98 = some (.goto 91) := by decide +kernel
theorem aX4_fails_101 : mm_at mX4_fails 101 = some (.aload_n 0) := by decide +kernel
theorem aX4_fails_102 : mm_at mX4_fails 102 = some (.dup) := by decide +kernel
theorem aX4_fails_103 : mm_at mX4_fails 103 = some (.getfield 120) := by decide +kernel
theorem aX4_fails_106 : mm_at mX4_fails 106 = some (.iconst 1) := by decide +kernel
theorem aX4_fails_107 : mm_at mX4_fails 107 = some (.isub) := by decide +kernel
theorem aX4_fails_108 : mm_at mX4_fails 108 = some (.putfield 120) := by decide +kernel
theorem aX4_fails_111 : mm_at mX4_fails 111 = some (.aload_n 0) := by decide +kernel
theorem aX4_fails_112 : mm_at mX4_fails 112 = some (.dup) := by decide +kernel
theorem aX4_fails_113 : mm_at mX4_fails 113 = some (.getfield 123) := by decide +kernel
theorem aX4_fails_116 : mm_at mX4_fails 116 = some (.aload_n 0) := by decide +kernel
theorem aX4_fails_117 : mm_at mX4_fails 117 = some (.getfield 56) := by decide +kernel
theorem aX4_fails_120 : mm_at mX4_fails 120 = some (.iload_n 2) := by decide +kernel
theorem aX4_fails_121 : mm_at mX4_fails 121 = some (.iaload) := by decide +kernel
theorem aX4_fails_122 : mm_at mX4_fails 122 = some (.ifCond .ne 7) := by decide +kernel
theorem aX4_fails_125 : mm_at mX4_fails 125 = some (.iconst 1) := by decide +kernel
theorem aX4_fails_126 : mm_at mX4_fails 126 = some (.goto 4) := by decide +kernel
theorem aX4_fails_129 : mm_at mX4_fails 129 = some (.iconst 0) := by decide +kernel
theorem aX4_fails_130 : mm_at mX4_fails 130 = some (.isub) := by decide +kernel
theorem aX4_fails_131 : mm_at mX4_fails 131 = some (.putfield 123) := by decide +kernel
theorem aX4_fails_134 : mm_at mX4_fails 134 = some (.iload_n 1) := by decide +kernel
theorem aX4_fails_135 : mm_at mX4_fails 135 = some (.ifCond .ne 54) := by decide +kernel
theorem aX4_fails_138 : mm_at mX4_fails 138 = some (.aload_n 0) := by decide +kernel
theorem aX4_fails_139 : mm_at mX4_fails 139 = some (.getfield 56) := by decide +kernel
theorem aX4_fails_142 : mm_at mX4_fails 142 = some (.iload_n 2) := by decide +kernel
theorem aX4_fails_143 : mm_at mX4_fails 143 = some (.iaload) := by decide +kernel
theorem aX4_fails_144 : mm_at mX4_fails 144 = some (.iconst 1) := by decide +kernel
theorem aX4_fails_145 : mm_at mX4_fails 145 = some (.if_icmp .ne 44) := by decide +kernel
theorem aX4_fails_148 : mm_at mX4_fails 148 = some (.aload_n 0) := by decide +kernel
theorem aX4_fails_149 : mm_at mX4_fails 149 = some (.getfield 7) := by decide +kernel
theorem aX4_fails_152 : mm_at mX4_fails 152 = some (.aload_n 0) := by decide +kernel
theorem aX4_fails_153 : mm_at mX4_fails 153 = some (.getfield 59) := by decide +kernel
theorem aX4_fails_156 : mm_at mX4_fails 156 = some (.iload_n 2) := by decide +kernel
theorem aX4_fails_157 : mm_at mX4_fails 157 = some (.iaload) := by decide +kernel
theorem aX4_fails_158 : mm_at mX4_fails 158 = some (.dup2) := by decide +kernel
theorem aX4_fails_159 : mm_at mX4_fails 159 = some (.laload) := by decide +kernel
theorem aX4_fails_160 : mm_at mX4_fails 160 = some (.lconst 1) := by decide +kernel
theorem aX4_fails_161 : mm_at mX4_fails 161 = some (.ladd) := by decide +kernel
theorem aX4_fails_162 : mm_at mX4_fails 162 = some (.lastore) := by decide +kernel
theorem aX4_fails_163 : mm_at mX4_fails 163 = some (.aload_n 0) := by decide +kernel
theorem aX4_fails_164 : mm_at mX4_fails 164 = some (.getfield 74) := by decide +kernel
theorem aX4_fails_167 : mm_at mX4_fails 167 = some (.iconst 5) := by decide +kernel
theorem aX4_fails_168 : mm_at mX4_fails 168 = some (.dup2) := by decide +kernel
theorem aX4_fails_169 : mm_at mX4_fails 169 = some (.iaload) := by decide +kernel
theorem aX4_fails_170 : mm_at mX4_fails 170 = some (.iconst 1) := by decide +kernel
theorem aX4_fails_171 : mm_at mX4_fails 171 = some (.iadd) := by decide +kernel
theorem aX4_fails_172 : mm_at mX4_fails 172 = some (.iastore) := by decide +kernel
theorem aX4_fails_173 : mm_at mX4_fails 173 = some (.aload_n 0) := by decide +kernel
theorem aX4_fails_174 : mm_at mX4_fails 174 = some (.getfield 74) := by decide +kernel
theorem aX4_fails_177 : mm_at mX4_fails 177 = some (.bipush 9) := by decide +kernel
theorem aX4_fails_179 : mm_at mX4_fails 179 = some (.dup2) := by decide +kernel
theorem aX4_fails_180 : mm_at mX4_fails 180 = some (.iaload) := by decide +kernel
theorem aX4_fails_181 : mm_at mX4_fails 181 = some (.iconst 1) := by decide +kernel
theorem aX4_fails_182 : mm_at mX4_fails 182 = some (.iadd) := by decide +kernel
theorem aX4_fails_183 : mm_at mX4_fails 183 = some (.iastore) := by decide +kernel
theorem aX4_fails_184 : mm_at mX4_fails 184 = some (.aload_n 0) := by decide +kernel
theorem aX4_fails_185 : mm_at mX4_fails 185 = some (.iconst 0) := by decide +kernel
theorem aX4_fails_186 : mm_at mX4_fails 186 = some (.putfield 126) := by decide +kernel
theorem aX4_fails_189 : mm_at mX4_fails 189 = some (.goto (-166)) := by decide +kernel
theorem aX4_fails_192 : mm_at mX4_fails 192 = some (.return_) := by decide +kernel
theorem aX4_stop_0 : mm_at mX4_stop 0 = some (.aload_n 0) := by decide +kernel
theorem aX4_stop_1 : mm_at mX4_stop 1 = some (.iconst 0) := by decide +kernel
theorem aX4_stop_2 : mm_at mX4_stop 2 = some (.putfield 150) := by decide +kernel
theorem aX4_stop_5 : mm_at mX4_stop 5 = some (.aload_n 0) := by decide +kernel
theorem aX4_stop_6 : mm_at mX4_stop 6 = some (.getfield 120) := by decide +kernel
theorem aX4_stop_9 : mm_at mX4_stop 9 = some (.ifCond .le 7) := by decide +kernel
theorem aX4_stop_12 : mm_at mX4_stop 12 = some (.iconst 1) := by decide +kernel
theorem aX4_stop_13 : mm_at mX4_stop 13 = some (.goto 4) := by decide +kernel
theorem aX4_stop_16 : mm_at mX4_stop 16 = some (.iconst 0) := by decide +kernel
theorem aX4_stop_17 : mm_at mX4_stop 17 = some (.istore_n 1) := by decide +kernel
theorem aX4_stop_18 : mm_at mX4_stop 18 = some (.iload_n 1) := by decide +kernel
theorem aX4_stop_19 : mm_at mX4_stop 19 = some (.ifCond .eq 67) := by decide +kernel
theorem aX4_stop_22 : mm_at mX4_stop 22 = some (.aload_n 0) := by decide +kernel
theorem aX4_stop_23 : mm_at mX4_stop 23 = some (.dup) := by decide +kernel
theorem aX4_stop_24 : mm_at mX4_stop 24 = some (.getfield 120) := by decide +kernel
theorem aX4_stop_27 : mm_at mX4_stop 27 = some (.iconst 1) := by decide +kernel
theorem aX4_stop_28 : mm_at mX4_stop 28 = some (.isub) := by decide +kernel
theorem aX4_stop_29 : mm_at mX4_stop 29 = some (.putfield 120) := by decide +kernel
theorem aX4_stop_32 : mm_at mX4_stop 32 = some (.aload_n 0) := by decide +kernel
theorem aX4_stop_33 : mm_at mX4_stop 33 = some (.getfield 120) := by decide +kernel
theorem aX4_stop_36 : mm_at mX4_stop 36 = some (.ifCond .le 19) := by decide +kernel
theorem aX4_stop_39 : mm_at mX4_stop 39 = some (.aload_n 0) := by decide +kernel
theorem aX4_stop_40 : mm_at mX4_stop 40 = some (.getfield 56) := by decide +kernel
theorem aX4_stop_43 : mm_at mX4_stop 43 = some (.aload_n 0) := by decide +kernel
theorem aX4_stop_44 : mm_at mX4_stop 44 = some (.getfield 120) := by decide +kernel
theorem aX4_stop_47 : mm_at mX4_stop 47 = some (.iaload) := by decide +kernel
theorem aX4_stop_48 : mm_at mX4_stop 48 = some (.ifCond .eq 7) := by decide +kernel
theorem aX4_stop_51 : mm_at mX4_stop 51 = some (.iconst 1) := by decide +kernel
theorem aX4_stop_52 : mm_at mX4_stop 52 = some (.goto 4) := by decide +kernel
theorem aX4_stop_55 : mm_at mX4_stop 55 = some (.iconst 0) := by decide +kernel
theorem aX4_stop_56 : mm_at mX4_stop 56 = some (.istore_n 1) := by decide +kernel
theorem aX4_stop_57 : mm_at mX4_stop 57 = some (.aload_n 0) := by decide +kernel
theorem aX4_stop_58 : mm_at mX4_stop 58 = some (.dup) := by decide +kernel
theorem aX4_stop_59 : mm_at mX4_stop 59 = some (.getfield 123) := by decide +kernel
theorem aX4_stop_62 : mm_at mX4_stop 62 = some (.aload_n 0) := by decide +kernel
theorem aX4_stop_63 : mm_at mX4_stop 63 = some (.getfield 56) := by decide +kernel
theorem aX4_stop_66 : mm_at mX4_stop 66 = some (.aload_n 0) := by decide +kernel
theorem aX4_stop_67 : mm_at mX4_stop 67 = some (.getfield 120) := by decide +kernel
theorem aX4_stop_70 : mm_at mX4_stop 70 = some (.iaload) := by decide +kernel
theorem aX4_stop_71 : mm_at mX4_stop 71 = some (.ifCond .ne 7) := by decide +kernel
theorem aX4_stop_74 : mm_at mX4_stop 74 = some (.iconst 1) := by decide +kernel
theorem aX4_stop_75 : mm_at mX4_stop 75 = some (.goto 4) := by decide +kernel
theorem aX4_stop_78 : mm_at mX4_stop 78 = some (.iconst 0) := by decide +kernel
theorem aX4_stop_79 : mm_at mX4_stop 79 = some (.isub) := by decide +kernel
theorem aX4_stop_80 : mm_at mX4_stop 80 = some (.putfield 123) := by decide +kernel
theorem aX4_stop_83 : mm_at mX4_stop 83 = some (.goto (-65)) := by decide +kernel
theorem aX4_stop_86 : mm_at mX4_stop 86 = some (.return_) := by decide +kernel
theorem aX4_goesOn_0 : mm_at mX4_goesOn 0 = some (.aload_n 0) := by decide +kernel
theorem aX4_goesOn_1 : mm_at mX4_goesOn 1 = some (.getfield 120) := by decide +kernel
theorem aX4_goesOn_4 : mm_at mX4_goesOn 4 = some (.iconst 1) := by decide +kernel
theorem aX4_goesOn_5 : mm_at mX4_goesOn 5 = some (.isub) := by decide +kernel
theorem aX4_goesOn_6 : mm_at mX4_goesOn 6 = some (.istore_n 1) := by decide +kernel
theorem aX4_goesOn_7 : mm_at mX4_goesOn 7 = some (.aload_n 0) := by decide +kernel
theorem aX4_goesOn_8 : mm_at mX4_goesOn 8 = some (.getfield 56) := by decide +kernel
theorem aX4_goesOn_11 : mm_at mX4_goesOn 11 = some (.iload_n 1) := by decide +kernel
theorem aX4_goesOn_12 : mm_at mX4_goesOn 12 = some (.iaload) := by decide +kernel
theorem aX4_goesOn_13 : mm_at mX4_goesOn 13 = some (.ifCond .eq 40) := by decide +kernel
theorem aX4_goesOn_16 : mm_at mX4_goesOn 16 = some (.aload_n 0) := by decide +kernel
theorem aX4_goesOn_17 : mm_at mX4_goesOn 17 = some (.dup) := by decide +kernel
theorem aX4_goesOn_18 : mm_at mX4_goesOn 18 = some (.getfield 120) := by decide +kernel
theorem aX4_goesOn_21 : mm_at mX4_goesOn 21 = some (.iconst 1) := by decide +kernel
theorem aX4_goesOn_22 : mm_at mX4_goesOn 22 = some (.isub) := by decide +kernel
theorem aX4_goesOn_23 : mm_at mX4_goesOn 23 = some (.putfield 120) := by decide +kernel
theorem aX4_goesOn_26 : mm_at mX4_goesOn 26 = some (.aload_n 0) := by decide +kernel
theorem aX4_goesOn_27 : mm_at mX4_goesOn 27 = some (.getfield 56) := by decide +kernel
theorem aX4_goesOn_30 : mm_at mX4_goesOn 30 = some (.iload_n 1) := by decide +kernel
theorem aX4_goesOn_31 : mm_at mX4_goesOn 31 = some (.iaload) := by decide +kernel
theorem aX4_goesOn_32 : mm_at mX4_goesOn 32 = some (.iconst 2) := by decide +kernel
theorem aX4_goesOn_33 : mm_at mX4_goesOn 33 = some (.if_icmp .ne 19) := by decide +kernel
theorem aX4_goesOn_36 : mm_at mX4_goesOn 36 = some (.aload_n 0) := by decide +kernel
theorem aX4_goesOn_37 : mm_at mX4_goesOn 37 = some (.aload_n 0) := by decide +kernel
theorem aX4_goesOn_38 : mm_at mX4_goesOn 38 = some (.getfield 59) := by decide +kernel
theorem aX4_goesOn_41 : mm_at mX4_goesOn 41 = some (.iload_n 1) := by decide +kernel
theorem aX4_goesOn_42 : mm_at mX4_goesOn 42 = some (.iaload) := by decide +kernel
theorem aX4_goesOn_43 : mm_at mX4_goesOn 43 = some (.aload_n 0) := by decide +kernel
theorem aX4_goesOn_44 : mm_at mX4_goesOn 44 = some (.getfield 62) := by decide +kernel
theorem aX4_goesOn_47 : mm_at mX4_goesOn 47 = some (.iload_n 1) := by decide +kernel
theorem aX4_goesOn_48 : mm_at mX4_goesOn 48 = some (.laload) := by decide +kernel
theorem aX4_goesOn_49 : mm_at mX4_goesOn 49 = some (.invokevirtual 157) := by decide +kernel
theorem aX4_goesOn_52 : mm_at mX4_goesOn 52 = some (.return_) := by decide +kernel
theorem aX4_goesOn_53 : mm_at mX4_goesOn 53 = some (.aload_n 0) := by decide +kernel
theorem aX4_goesOn_54 : mm_at mX4_goesOn 54 = some (.getfield 65) := by decide +kernel
theorem aX4_goesOn_57 : mm_at mX4_goesOn 57 = some (.iload_n 1) := by decide +kernel
theorem aX4_goesOn_58 : mm_at mX4_goesOn 58 = some (.iaload) := by decide +kernel
theorem aX4_goesOn_59 : mm_at mX4_goesOn 59 = some (.aload_n 0) := by decide +kernel
theorem aX4_goesOn_60 : mm_at mX4_goesOn 60 = some (.getfield 68) := by decide +kernel
theorem aX4_goesOn_63 : mm_at mX4_goesOn 63 = some (.iload_n 1) := by decide +kernel
theorem aX4_goesOn_64 : mm_at mX4_goesOn 64 = some (.iaload) := by decide +kernel
theorem aX4_goesOn_65 : mm_at mX4_goesOn 65 = some (.if_icmp .ne 24) := by decide +kernel
theorem aX4_goesOn_68 : mm_at mX4_goesOn 68 = some (.aload_n 0) := by decide +kernel
theorem aX4_goesOn_69 : mm_at mX4_goesOn 69 = some (.dup) := by decide +kernel
theorem aX4_goesOn_70 : mm_at mX4_goesOn 70 = some (.getfield 120) := by decide +kernel
theorem aX4_goesOn_73 : mm_at mX4_goesOn 73 = some (.iconst 1) := by decide +kernel
theorem aX4_goesOn_74 : mm_at mX4_goesOn 74 = some (.isub) := by decide +kernel
theorem aX4_goesOn_75 : mm_at mX4_goesOn 75 = some (.putfield 120) := by decide +kernel
theorem aX4_goesOn_78 : mm_at mX4_goesOn 78 = some (.aload_n 0) := by decide +kernel
theorem aX4_goesOn_79 : mm_at mX4_goesOn 79 = some (.dup) := by decide +kernel
theorem aX4_goesOn_80 : mm_at mX4_goesOn 80 = some (.getfield 123) := by decide +kernel
theorem aX4_goesOn_83 : mm_at mX4_goesOn 83 = some (.iconst 1) := by decide +kernel
theorem aX4_goesOn_84 : mm_at mX4_goesOn 84 = some (.isub) := by decide +kernel
theorem aX4_goesOn_85 : mm_at mX4_goesOn 85 = some (.putfield 123) := by decide +kernel
theorem aX4_goesOn_88 : mm_at mX4_goesOn 88 = some (.return_) := by decide +kernel
theorem aX4_goesOn_89 : mm_at mX4_goesOn 89 = some (.aload_n 0) := by decide +kernel
theorem aX4_goesOn_90 : mm_at mX4_goesOn 90 = some (.getfield 71) := by decide +kernel
theorem aX4_goesOn_93 : mm_at mX4_goesOn 93 = some (.bipush 12) := by decide +kernel
theorem aX4_goesOn_95 : mm_at mX4_goesOn 95 = some (.iload_n 1) := by decide +kernel
theorem aX4_goesOn_96 : mm_at mX4_goesOn 96 = some (.imul) := by decide +kernel
theorem aX4_goesOn_97 : mm_at mX4_goesOn 97 = some (.aload_n 0) := by decide +kernel
theorem aX4_goesOn_98 : mm_at mX4_goesOn 98 = some (.getfield 65) := by decide +kernel
theorem aX4_goesOn_101 : mm_at mX4_goesOn 101 = some (.iload_n 1) := by decide +kernel
theorem aX4_goesOn_102 : mm_at mX4_goesOn 102 = some (.iaload) := by decide +kernel
theorem aX4_goesOn_103 : mm_at mX4_goesOn 103 = some (.iadd) := by decide +kernel
theorem aX4_goesOn_104 : mm_at mX4_goesOn 104 = some (.iaload) := by decide +kernel
theorem aX4_goesOn_105 : mm_at mX4_goesOn 105 = some (.istore_n 2) := by decide +kernel
theorem aX4_goesOn_106 : mm_at mX4_goesOn 106 = some (.aload_n 0) := by decide +kernel
theorem aX4_goesOn_107 : mm_at mX4_goesOn 107 = some (.getfield 65) := by decide +kernel
theorem aX4_goesOn_110 : mm_at mX4_goesOn 110 = some (.iload_n 1) := by decide +kernel
theorem aX4_goesOn_111 : mm_at mX4_goesOn 111 = some (.dup2) := by decide +kernel
theorem aX4_goesOn_112 : mm_at mX4_goesOn 112 = some (.iaload) := by decide +kernel
theorem aX4_goesOn_113 : mm_at mX4_goesOn 113 = some (.iconst 1) := by decide +kernel
theorem aX4_goesOn_114 : mm_at mX4_goesOn 114 = some (.iadd) := by decide +kernel
theorem aX4_goesOn_115 : mm_at mX4_goesOn 115 = some (.iastore) := by decide +kernel
theorem aX4_goesOn_116 : mm_at mX4_goesOn 116 = some (.aload_n 0) := by decide +kernel
theorem aX4_goesOn_117 : mm_at mX4_goesOn 117 = some (.iload_n 2) := by decide +kernel
theorem aX4_goesOn_118 : mm_at mX4_goesOn 118 = some (.aload_n 0) := by decide +kernel
theorem aX4_goesOn_119 : mm_at mX4_goesOn 119 = some (.getfield 59) := by decide +kernel
theorem aX4_goesOn_122 : mm_at mX4_goesOn 122 = some (.iload_n 1) := by decide +kernel
theorem aX4_goesOn_123 : mm_at mX4_goesOn 123 = some (.iaload) := by decide +kernel
theorem aX4_goesOn_124 : mm_at mX4_goesOn 124 = some (.invokevirtual 109) := by decide +kernel
theorem aX4_goesOn_127 : mm_at mX4_goesOn 127 = some (.iconst (-1)) := by decide +kernel
theorem aX4_goesOn_128 : mm_at mX4_goesOn 128 = some (.if_icmp .eq 19) := by decide +kernel
theorem aX4_goesOn_131 : mm_at mX4_goesOn 131 = some (.aload_n 0) := by decide +kernel
theorem aX4_goesOn_132 : mm_at mX4_goesOn 132 = some (.aload_n 0) := by decide +kernel
theorem aX4_goesOn_133 : mm_at mX4_goesOn 133 = some (.getfield 47) := by decide +kernel
