theorem aX4_goesOn_136 : mm_at mX4_goesOn 136 = some (.iload_n 2) := by decide +kernel
theorem aX4_goesOn_137 : mm_at mX4_goesOn 137 = some (.iaload) := by decide +kernel
theorem aX4_goesOn_138 : mm_at mX4_goesOn 138 = some (.aload_n 0) := by decide +kernel
theorem aX4_goesOn_139 : mm_at mX4_goesOn 139 = some (.getfield 62) := by decide +kernel
theorem aX4_goesOn_142 : mm_at mX4_goesOn 142 = some (.iload_n 1) := by decide +kernel
theorem aX4_goesOn_143 : mm_at mX4_goesOn 143 = some (.laload) := by decide +kernel
theorem aX4_goesOn_144 : mm_at mX4_goesOn 144 = some (.invokevirtual 157) := by decide +kernel
theorem aX4_goesOn_147 : mm_at mX4_goesOn 147 = some (.return_) := by decide +kernel
theorem aX4_works_0 : mm_at mX4_works 0 = some (.iconst 1) := by decide +kernel
theorem aX4_works_1 : mm_at mX4_works 1 = some (.istore_n 1) := by decide +kernel
theorem aX4_works_2 : mm_at mX4_works 2 = some (.iload_n 1) := by decide +kernel
theorem aX4_works_3 : mm_at mX4_works 3 = some (.ifCond .eq 95) := by decide +kernel
theorem aX4_works_6 : mm_at mX4_works 6 = some (.aload_n 0) := by decide +kernel
theorem aX4_works_7 : mm_at mX4_works 7 = some (.getfield 126) := by decide +kernel
theorem aX4_works_10 : mm_at mX4_works 10 = some (.ifCond .eq 40) := by decide +kernel
theorem aX4_works_13 : mm_at mX4_works 13 = some (.aload_n 0) := by decide +kernel
theorem aX4_works_14 : mm_at mX4_works 14 = some (.getfield 120) := by decide +kernel
theorem aX4_works_17 : mm_at mX4_works 17 = some (.ifCond .le 7) := by decide +kernel
theorem aX4_works_20 : mm_at mX4_works 20 = some (.iconst 1) := by decide +kernel
theorem aX4_works_21 : mm_at mX4_works 21 = some (.goto 4) := by decide +kernel
theorem aX4_works_24 : mm_at mX4_works 24 = some (.iconst 0) := by decide +kernel
theorem aX4_works_25 : mm_at mX4_works 25 = some (.istore_n 2) := by decide +kernel
theorem aX4_works_26 : mm_at mX4_works 26 = some (.aload_n 0) := by decide +kernel
theorem aX4_works_27 : mm_at mX4_works 27 = some (.invokevirtual 160) := by decide +kernel
theorem aX4_works_30 : mm_at mX4_works 30 = some (.aload_n 0) := by decide +kernel
theorem aX4_works_31 : mm_at mX4_works 31 = some (.getfield 126) := by decide +kernel
theorem aX4_works_34 : mm_at mX4_works 34 = some (.ifCond .ne 11) := by decide +kernel
theorem aX4_works_37 : mm_at mX4_works 37 = some (.iload_n 2) := by decide +kernel
theorem aX4_works_38 : mm_at mX4_works 38 = some (.ifCond .eq 7) := by decide +kernel
theorem aX4_works_41 : mm_at mX4_works 41 = some (.iconst 1) := by decide +kernel
theorem aX4_works_42 : mm_at mX4_works 42 = some (.goto 4) := by decide +kernel
theorem aX4_works_45 : mm_at mX4_works 45 = some (.iconst 0) := by decide +kernel
theorem aX4_works_46 : mm_at mX4_works 46 = some (.istore_n 1) := by decide +kernel
theorem aX4_works_47 : mm_at mX4_works 47 = some (.goto (-45)) := by decide +kernel
theorem aX4_works_50 : mm_at mX4_works 50 = some (.aload_n 0) := by decide +kernel
theorem aX4_works_51 : mm_at mX4_works 51 = some (.getfield 150) := by decide +kernel
theorem aX4_works_54 : mm_at mX4_works 54 = some (.ifCond .eq 10) := by decide +kernel
theorem aX4_works_57 : mm_at mX4_works 57 = some (.aload_n 0) := by decide +kernel
theorem aX4_works_58 : mm_at mX4_works 58 = some (.invokevirtual 163) := by decide +kernel
theorem aX4_works_61 : mm_at mX4_works 61 = some (.goto (-59)) := by decide +kernel
theorem aX4_works_64 : mm_at mX4_works 64 = some (.aload_n 0) := by decide +kernel
theorem aX4_works_65 : mm_at mX4_works 65 = some (.getfield 133) := by decide +kernel
theorem aX4_works_68 : mm_at mX4_works 68 = some (.iconst (-1)) := by decide +kernel
theorem aX4_works_69 : mm_at mX4_works 69 = some (.if_icmp .eq 10) := by decide +kernel
theorem aX4_works_72 : mm_at mX4_works 72 = some (.aload_n 0) := by decide +kernel
theorem aX4_works_73 : mm_at mX4_works 73 = some (.invokevirtual 166) := by decide +kernel
theorem aX4_works_76 : mm_at mX4_works 76 = some (.goto (-74)) := by decide +kernel
theorem aX4_works_79 : mm_at mX4_works 79 = some (.aload_n 0) := by decide +kernel
theorem aX4_works_80 : mm_at mX4_works 80 = some (.getfield 120) := by decide +kernel
theorem aX4_works_83 : mm_at mX4_works 83 = some (.ifCond .le 10) := by decide +kernel
theorem aX4_works_86 : mm_at mX4_works 86 = some (.aload_n 0) := by decide +kernel
theorem aX4_works_87 : mm_at mX4_works 87 = some (.invokevirtual 169) := by decide +kernel
theorem aX4_works_90 : mm_at mX4_works 90 = some (.goto (-88)) := by decide +kernel
theorem aX4_works_93 : mm_at mX4_works 93 = some (.iconst 0) := by decide +kernel
theorem aX4_works_94 : mm_at mX4_works 94 = some (.istore_n 1) := by decide +kernel
theorem aX4_works_95 : mm_at mX4_works 95 = some (.goto (-93)) := by decide +kernel
theorem aX4_works_98 : mm_at mX4_works 98 = some (.return_) := by decide +kernel
theorem aX4_ready_0 : mm_at mX4_ready 0 = some (.aload_n 0) := by decide +kernel
theorem aX4_ready_1 : mm_at mX4_ready 1 = some (.iconst 0) := by decide +kernel
theorem aX4_ready_2 : mm_at mX4_ready 2 = some (.putfield 120) := by decide +kernel
theorem aX4_ready_5 : mm_at mX4_ready 5 = some (.aload_n 0) := by decide +kernel
theorem aX4_ready_6 : mm_at mX4_ready 6 = some (.iconst 0) := by decide +kernel
theorem aX4_ready_7 : mm_at mX4_ready 7 = some (.putfield 123) := by decide +kernel
theorem aX4_ready_10 : mm_at mX4_ready 10 = some (.aload_n 0) := by decide +kernel
theorem aX4_ready_11 : mm_at mX4_ready 11 = some (.iconst 0) := by decide +kernel
theorem aX4_ready_12 : mm_at mX4_ready 12 = some (.putfield 140) := by decide +kernel
theorem aX4_ready_15 : mm_at mX4_ready 15 = some (.aload_n 0) := by decide +kernel
theorem aX4_ready_16 : mm_at mX4_ready 16 = some (.iconst 0) := by decide +kernel
theorem aX4_ready_17 : mm_at mX4_ready 17 = some (.putfield 126) := by decide +kernel
theorem aX4_ready_20 : mm_at mX4_ready 20 = some (.aload_n 0) := by decide +kernel
theorem aX4_ready_21 : mm_at mX4_ready 21 = some (.iconst 0) := by decide +kernel
theorem aX4_ready_22 : mm_at mX4_ready 22 = some (.putfield 150) := by decide +kernel
theorem aX4_ready_25 : mm_at mX4_ready 25 = some (.aload_n 0) := by decide +kernel
theorem aX4_ready_26 : mm_at mX4_ready 26 = some (.iconst (-1)) := by decide +kernel
theorem aX4_ready_27 : mm_at mX4_ready 27 = some (.putfield 133) := by decide +kernel
theorem aX4_ready_30 : mm_at mX4_ready 30 = some (.return_) := by decide +kernel
theorem aX4_all_0 : mm_at mX4_all 0 = some (.aload_n 0) := by decide +kernel
theorem aX4_all_1 : mm_at mX4_all 1 = some (.invokevirtual 172) := by decide +kernel
theorem aX4_all_4 : mm_at mX4_all 4 = some (.aload_n 0) := by decide +kernel
theorem aX4_all_5 : mm_at mX4_all 5 = some (.getfield 126) := by decide +kernel
theorem aX4_all_8 : mm_at mX4_all 8 = some (.ifCond .ne 97) := by decide +kernel
theorem aX4_all_11 : mm_at mX4_all 11 = some (.aload_n 0) := by decide +kernel
theorem aX4_all_12 : mm_at mX4_all 12 = some (.getfield 147) := by decide +kernel
theorem aX4_all_15 : mm_at mX4_all 15 = some (.ifCond .le 90) := by decide +kernel
theorem aX4_all_18 : mm_at mX4_all 18 = some (.aload_n 0) := by decide +kernel
theorem aX4_all_19 : mm_at mX4_all 19 = some (.getfield 50) := by decide +kernel
theorem aX4_all_22 : mm_at mX4_all 22 = some (.iconst 0) := by decide +kernel
theorem aX4_all_23 : mm_at mX4_all 23 = some (.iaload) := by decide +kernel
theorem aX4_all_24 : mm_at mX4_all 24 = some (.istore_n 1) := by decide +kernel
theorem aX4_all_25 : mm_at mX4_all 25 = some (.aload_n 0) := by decide +kernel
theorem aX4_all_26 : mm_at mX4_all 26 = some (.getfield 53) := by decide +kernel
theorem aX4_all_29 : mm_at mX4_all 29 = some (.iconst 0) := by decide +kernel
theorem aX4_all_30 : mm_at mX4_all 30 = some (.laload) := by decide +kernel
theorem aX4_all_31 : mm_at mX4_all 31 = some (.lstore_n 2) := by decide +kernel
theorem aX4_all_32 : mm_at mX4_all 32 = some (.aload_n 0) := by decide +kernel
theorem aX4_all_33 : mm_at mX4_all 33 = some (.dup) := by decide +kernel
theorem aX4_all_34 : mm_at mX4_all 34 = some (.getfield 147) := by decide +kernel
theorem aX4_all_37 : mm_at mX4_all 37 = some (.iconst 1) := by decide +kernel
theorem aX4_all_38 : mm_at mX4_all 38 = some (.isub) := by decide +kernel
theorem aX4_all_39 : mm_at mX4_all 39 = some (.putfield 147) := by decide +kernel
theorem aX4_all_42 : mm_at mX4_all 42 = some (.iconst 0) := by decide +kernel
theorem aX4_all_43 : mm_at mX4_all 43 = some (.istore 4) := by decide +kernel
theorem aX4_all_45 : mm_at mX4_all 45 = some (.iload 4) := by decide +kernel
theorem aX4_all_47 : mm_at mX4_all 47 = some (.aload_n 0) := by decide +kernel
theorem aX4_all_48 : mm_at mX4_all 48 = some (.getfield 147) := by decide +kernel
theorem aX4_all_51 : mm_at mX4_all 51 = some (.if_icmp .ge 41) := by decide +kernel
theorem aX4_all_54 : mm_at mX4_all 54 = some (.aload_n 0) := by decide +kernel
theorem aX4_all_55 : mm_at mX4_all 55 = some (.getfield 50) := by decide +kernel
theorem aX4_all_58 : mm_at mX4_all 58 = some (.iload 4) := by decide +kernel
theorem aX4_all_60 : mm_at mX4_all 60 = some (.aload_n 0) := by decide +kernel
theorem aX4_all_61 : mm_at mX4_all 61 = some (.getfield 50) := by decide +kernel
theorem aX4_all_64 : mm_at mX4_all 64 = some (.iload 4) := by decide +kernel
theorem aX4_all_66 : mm_at mX4_all 66 = some (.iconst 1) := by decide +kernel
theorem aX4_all_67 : mm_at mX4_all 67 = some (.iadd) := by decide +kernel
theorem aX4_all_68 : mm_at mX4_all 68 = some (.iaload) := by decide +kernel
theorem aX4_all_69 : mm_at mX4_all 69 = some (.iastore) := by decide +kernel
theorem aX4_all_70 : mm_at mX4_all 70 = some (.aload_n 0) := by decide +kernel
theorem aX4_all_71 : mm_at mX4_all 71 = some (.getfield 53) := by decide +kernel
theorem aX4_all_74 : mm_at mX4_all 74 = some (.iload 4) := by decide +kernel
theorem aX4_all_76 : mm_at mX4_all 76 = some (.aload_n 0) := by decide +kernel
theorem aX4_all_77 : mm_at mX4_all 77 = some (.getfield 53) := by decide +kernel
theorem aX4_all_80 : mm_at mX4_all 80 = some (.iload 4) := by decide +kernel
theorem aX4_all_82 : mm_at mX4_all 82 = some (.iconst 1) := by decide +kernel
theorem aX4_all_83 : mm_at mX4_all 83 = some (.iadd) := by decide +kernel
theorem aX4_all_84 : mm_at mX4_all 84 = some (.laload) := by decide +kernel
theorem aX4_all_85 : mm_at mX4_all 85 = some (.lastore) := by decide +kernel
theorem aX4_all_86 : mm_at mX4_all 86 = some (.iinc 4 1) := by decide +kernel
theorem aX4_all_89 : mm_at mX4_all 89 = some (.goto (-44)) := by decide +kernel
theorem aX4_all_92 : mm_at mX4_all 92 = some (.aload_n 0) := by decide +kernel
theorem aX4_all_93 : mm_at mX4_all 93 = some (.iload_n 1) := by decide +kernel
theorem aX4_all_94 : mm_at mX4_all 94 = some (.lload_n 2) := by decide +kernel
theorem aX4_all_95 : mm_at mX4_all 95 = some (.invokevirtual 143) := by decide +kernel
theorem aX4_all_98 : mm_at mX4_all 98 = some (.aload_n 0) := by decide +kernel
theorem aX4_all_99 : mm_at mX4_all 99 = some (.invokevirtual 172) := by decide +kernel
theorem aX4_all_102 : mm_at mX4_all 102 = some (.goto (-98)) := by decide +kernel
theorem aX4_all_105 : mm_at mX4_all 105 = some (.aload_n 0) := by decide +kernel
theorem aX4_all_106 : mm_at mX4_all 106 = some (.getfield 126) := by decide +kernel
theorem aX4_all_109 : mm_at mX4_all 109 = some (.ifCond .ne 8) := by decide +kernel
theorem aX4_all_112 : mm_at mX4_all 112 = some (.aload_n 0) := by decide +kernel
theorem aX4_all_113 : mm_at mX4_all 113 = some (.getfield 140) := by decide +kernel
theorem aX4_all_116 : mm_at mX4_all 116 = some (.ireturn) := by decide +kernel
theorem aX4_all_117 : mm_at mX4_all 117 = some (.aload_n 0) := by decide +kernel
theorem aX4_all_118 : mm_at mX4_all 118 = some (.getfield 74) := by decide +kernel
theorem aX4_all_121 : mm_at mX4_all 121 = some (.iconst 4) := by decide +kernel
theorem aX4_all_122 : mm_at mX4_all 122 = some (.dup2) := by decide +kernel
theorem aX4_all_123 : mm_at mX4_all 123 = some (.iaload) := by decide +kernel
theorem aX4_all_124 : mm_at mX4_all 124 = some (.iconst 1) := by decide +kernel
theorem aX4_all_125 : mm_at mX4_all 125 = some (.iadd) := by decide +kernel
theorem aX4_all_126 : mm_at mX4_all 126 = some (.iastore) := by decide +kernel
theorem aX4_all_127 : mm_at mX4_all 127 = some (.aload_n 0) := by decide +kernel
theorem aX4_all_128 : mm_at mX4_all 128 = some (.getfield 74) := by decide +kernel
theorem aX4_all_131 : mm_at mX4_all 131 = some (.bipush 9) := by decide +kernel
theorem aX4_all_133 : mm_at mX4_all 133 = some (.dup2) := by decide +kernel
theorem aX4_all_134 : mm_at mX4_all 134 = some (.iaload) := by decide +kernel
theorem aX4_all_135 : mm_at mX4_all 135 = some (.iconst 1) := by decide +kernel
theorem aX4_all_136 : mm_at mX4_all 136 = some (.iadd) := by decide +kernel
theorem aX4_all_137 : mm_at mX4_all 137 = some (.iastore) := by decide +kernel
theorem aX4_all_138 : mm_at mX4_all 138 = some (.aload_n 0) := by decide +kernel
theorem aX4_all_139 : mm_at mX4_all 139 = some (.getfield 74) := by decide +kernel
theorem aX4_all_142 : mm_at mX4_all 142 = some (.bipush 8) := by decide +kernel
theorem aX4_all_144 : mm_at mX4_all 144 = some (.aload_n 0) := by decide +kernel
theorem aX4_all_145 : mm_at mX4_all 145 = some (.getfield 126) := by decide +kernel
theorem aX4_all_148 : mm_at mX4_all 148 = some (.iastore) := by decide +kernel
theorem aX4_all_149 : mm_at mX4_all 149 = some (.bipush (-10)) := by decide +kernel
theorem aX4_all_151 : mm_at mX4_all 151 = some (.aload_n 0) := by decide +kernel
theorem aX4_all_152 : mm_at mX4_all 152 = some (.getfield 126) := by decide +kernel
theorem aX4_all_155 : mm_at mX4_all 155 = some (.isub) := by decide +kernel
theorem aX4_all_156 : mm_at mX4_all 156 = some (.ireturn) := by decide +kernel
theorem aX4_ring_0 : mm_at mX4_ring 0 = some (.iload_n 1) := by decide +kernel
theorem aX4_ring_1 : mm_at mX4_ring 1 = some (.invokestatic 97) := by decide +kernel
theorem aX4_ring_4 : mm_at mX4_ring 4 = some (.ifCond .ne 6) := by decide +kernel
theorem aX4_ring_7 : mm_at mX4_ring 7 = some (.bipush (-2)) := by decide +kernel
theorem aX4_ring_9 : mm_at mX4_ring 9 = some (.ireturn) := by decide +kernel
theorem aX4_ring_10 : mm_at mX4_ring 10 = some (.aload_n 0) := by decide +kernel
theorem aX4_ring_11 : mm_at mX4_ring 11 = some (.getfield 74) := by decide +kernel
theorem aX4_ring_14 : mm_at mX4_ring 14 = some (.bipush 9) := by decide +kernel
theorem aX4_ring_16 : mm_at mX4_ring 16 = some (.iaload) := by decide +kernel
theorem aX4_ring_17 : mm_at mX4_ring 17 = some (.sipush 2000) := by decide +kernel
theorem aX4_ring_20 : mm_at mX4_ring 20 = some (.if_icmp .lt 6) := by decide +kernel
theorem aX4_ring_23 : mm_at mX4_ring 23 = some (.bipush (-3)) := by decide +kernel
theorem aX4_ring_25 : mm_at mX4_ring 25 = some (.ireturn) := by decide +kernel
theorem aX4_ring_26 : mm_at mX4_ring 26 = some (.aload_n 0) := by decide +kernel
theorem aX4_ring_27 : mm_at mX4_ring 27 = some (.invokevirtual 175) := by decide +kernel
theorem aX4_ring_30 : mm_at mX4_ring 30 = some (.aload_n 0) := by decide +kernel
theorem aX4_ring_31 : mm_at mX4_ring 31 = some (.iload_n 1) := by decide +kernel
theorem aX4_ring_32 : mm_at mX4_ring 32 = some (.lload_n 2) := by decide +kernel
theorem aX4_ring_33 : mm_at mX4_ring 33 = some (.invokevirtual 143) := by decide +kernel
theorem aX4_ring_36 : mm_at mX4_ring 36 = some (.aload_n 0) := by decide +kernel
theorem aX4_ring_37 : mm_at mX4_ring 37 = some (.invokevirtual 178) := by decide +kernel
theorem aX4_ring_40 : mm_at mX4_ring 40 = some (.ireturn) := by decide +kernel
theorem aX4_drain_0 : mm_at mX4_drain 0 = some (.aload_n 0) := by decide +kernel
theorem aX4_drain_1 : mm_at mX4_drain 1 = some (.getfield 74) := by decide +kernel
theorem aX4_drain_4 : mm_at mX4_drain 4 = some (.bipush 9) := by decide +kernel
theorem aX4_drain_6 : mm_at mX4_drain 6 = some (.iaload) := by decide +kernel
theorem aX4_drain_7 : mm_at mX4_drain 7 = some (.sipush 2000) := by decide +kernel
theorem aX4_drain_10 : mm_at mX4_drain 10 = some (.if_icmp .lt 6) := by decide +kernel
theorem aX4_drain_13 : mm_at mX4_drain 13 = some (.bipush (-3)) := by decide +kernel
theorem aX4_drain_15 : mm_at mX4_drain 15 = some (.ireturn) := by decide +kernel
theorem aX4_drain_16 : mm_at mX4_drain 16 = some (.aload_n 0) := by decide +kernel
theorem aX4_drain_17 : mm_at mX4_drain 17 = some (.invokevirtual 175) := by decide +kernel
theorem aX4_drain_20 : mm_at mX4_drain 20 = some (.aload_n 0) := by decide +kernel
theorem aX4_drain_21 : mm_at mX4_drain 21 = some (.invokevirtual 178) := by decide +kernel
theorem aX4_drain_24 : mm_at mX4_drain 24 = some (.ireturn) := by decide +kernel
theorem aX4_act_0 : mm_at mX4_act 0 = some (.aload_n 0) := by decide +kernel
theorem aX4_act_1 : mm_at mX4_act 1 = some (.iload_n 1) := by decide +kernel
theorem aX4_act_2 : mm_at mX4_act 2 = some (.invokevirtual 106) := by decide +kernel
theorem aX4_act_5 : mm_at mX4_act 5 = some (.ifCond .ne 6) := by decide +kernel
theorem aX4_act_8 : mm_at mX4_act 8 = some (.bipush (-2)) := by decide +kernel
theorem aX4_act_10 : mm_at mX4_act 10 = some (.ireturn) := by decide +kernel
theorem aX4_act_11 : mm_at mX4_act 11 = some (.aload_n 0) := by decide +kernel
theorem aX4_act_12 : mm_at mX4_act 12 = some (.getfield 74) := by decide +kernel
theorem aX4_act_15 : mm_at mX4_act 15 = some (.bipush 9) := by decide +kernel
theorem aX4_act_17 : mm_at mX4_act 17 = some (.iaload) := by decide +kernel
theorem aX4_act_18 : mm_at mX4_act 18 = some (.sipush 2000) := by decide +kernel
theorem aX4_act_21 : mm_at mX4_act 21 = some (.if_icmp .lt 6) := by decide +kernel
theorem aX4_act_24 : mm_at mX4_act 24 = some (.bipush (-3)) := by decide +kernel
theorem aX4_act_26 : mm_at mX4_act 26 = some (.ireturn) := by decide +kernel
theorem aX4_act_27 : mm_at mX4_act 27 = some (.aload_n 0) := by decide +kernel
theorem aX4_act_28 : mm_at mX4_act 28 = some (.invokevirtual 175) := by decide +kernel
theorem aX4_act_31 : mm_at mX4_act 31 = some (.aload_n 0) := by decide +kernel
theorem aX4_act_32 : mm_at mX4_act 32 = some (.aload_n 0) := by decide +kernel
theorem aX4_act_33 : mm_at mX4_act 33 = some (.getfield 47) := by decide +kernel
theorem aX4_act_36 : mm_at mX4_act 36 = some (.iload_n 1) := by decide +kernel
theorem aX4_act_37 : mm_at mX4_act 37 = some (.iaload) := by decide +kernel
theorem aX4_act_38 : mm_at mX4_act 38 = some (.lload_n 2) := by decide +kernel
theorem aX4_act_39 : mm_at mX4_act 39 = some (.invokevirtual 157) := by decide +kernel
theorem aX4_act_42 : mm_at mX4_act 42 = some (.aload_n 0) := by decide +kernel
theorem aX4_act_43 : mm_at mX4_act 43 = some (.invokevirtual 178) := by decide +kernel
theorem aX4_act_46 : mm_at mX4_act 46 = some (.ireturn) := by decide +kernel
theorem aX4_get_0 : mm_at mX4_get 0 = some (.iload_n 1) := by decide +kernel
theorem aX4_get_1 : mm_at mX4_get 1 = some (.invokestatic 93) := by decide +kernel
theorem aX4_get_4 : mm_at mX4_get 4 = some (.ifCond .eq 12) := by decide +kernel
theorem aX4_get_7 : mm_at mX4_get 7 = some (.aload_n 0) := by decide +kernel
theorem aX4_get_8 : mm_at mX4_get 8 = some (.getfield 7) := by decide +kernel
theorem aX4_get_11 : mm_at mX4_get 11 = some (.iload_n 1) := by decide +kernel
theorem aX4_get_12 : mm_at mX4_get 12 = some (.laload) := by decide +kernel
theorem aX4_get_13 : mm_at mX4_get 13 = some (.goto 4) := by decide +kernel
theorem aX4_get_16 : mm_at mX4_get 16 = some (.lconst 0) := by decide +kernel
theorem aX4_get_17 : mm_at mX4_get 17 = some (.lreturn) := by decide +kernel
theorem aX4_line_0 : mm_at mX4_line 0 = some (.iload_n 1) := by decide +kernel
theorem aX4_line_1 : mm_at mX4_line 1 = some (.invokestatic 97) := by decide +kernel
theorem aX4_line_4 : mm_at mX4_line 4 = some (.ifCond .ne 6) := by decide +kernel
theorem aX4_line_7 : mm_at mX4_line 7 = some (.bipush (-2)) := by decide +kernel
theorem aX4_line_9 : mm_at mX4_line 9 = some (.ireturn) := by decide +kernel
theorem aX4_line_10 : mm_at mX4_line 10 = some (.iload_n 2) := by decide +kernel
theorem aX4_line_11 : mm_at mX4_line 11 = some (.i2l) := by decide +kernel
theorem aX4_line_12 : mm_at mX4_line 12 = some (.lconst 0) := by decide +kernel
theorem aX4_line_13 : mm_at mX4_line 13 = some (.aload_n 0) := by decide +kernel
theorem aX4_line_14 : mm_at mX4_line 14 = some (.getfield 20) := by decide +kernel
theorem aX4_line_17 : mm_at mX4_line 17 = some (.iload_n 1) := by decide +kernel
theorem aX4_line_18 : mm_at mX4_line 18 = some (.iaload) := by decide +kernel
theorem aX4_line_19 : mm_at mX4_line 19 = some (.iconst 1) := by decide +kernel
theorem aX4_line_20 : mm_at mX4_line 20 = some (.isub) := by decide +kernel
theorem aX4_line_21 : mm_at mX4_line 21 = some (.i2l) := by decide +kernel
theorem aX4_line_22 : mm_at mX4_line 22 = some (.invokestatic 85) := by decide +kernel
theorem aX4_line_25 : mm_at mX4_line 25 = some (.ifCond .eq 17) := by decide +kernel
theorem aX4_line_28 : mm_at mX4_line 28 = some (.aload_n 0) := by decide +kernel
theorem aX4_line_29 : mm_at mX4_line 29 = some (.getfield 17) := by decide +kernel
theorem aX4_line_32 : mm_at mX4_line 32 = some (.bipush 12) := by decide +kernel
theorem aX4_line_34 : mm_at mX4_line 34 = some (.iload_n 1) := by decide +kernel
theorem aX4_line_35 : mm_at mX4_line 35 = some (.imul) := by decide +kernel
theorem aX4_line_36 : mm_at mX4_line 36 = some (.iload_n 2) := by decide +kernel
theorem aX4_line_37 : mm_at mX4_line 37 = some (.iadd) := by decide +kernel
theorem aX4_line_38 : mm_at mX4_line 38 = some (.iaload) := by decide +kernel
theorem aX4_line_39 : mm_at mX4_line 39 = some (.goto 4) := by decide +kernel
theorem aX4_line_42 : mm_at mX4_line 42 = some (.iconst (-1)) := by decide +kernel
theorem aX4_line_43 : mm_at mX4_line 43 = some (.ireturn) := by decide +kernel
theorem aX4_queued_0 : mm_at mX4_queued 0 = some (.iload_n 1) := by decide +kernel
theorem aX4_queued_1 : mm_at mX4_queued 1 = some (.i2l) := by decide +kernel
theorem aX4_queued_2 : mm_at mX4_queued 2 = some (.lconst 0) := by decide +kernel
theorem aX4_queued_3 : mm_at mX4_queued 3 = some (.aload_n 0) := by decide +kernel
theorem aX4_queued_4 : mm_at mX4_queued 4 = some (.getfield 147) := by decide +kernel
theorem aX4_queued_7 : mm_at mX4_queued 7 = some (.iconst 1) := by decide +kernel
theorem aX4_queued_8 : mm_at mX4_queued 8 = some (.isub) := by decide +kernel
theorem aX4_queued_9 : mm_at mX4_queued 9 = some (.i2l) := by decide +kernel
theorem aX4_queued_10 : mm_at mX4_queued 10 = some (.invokestatic 85) := by decide +kernel
theorem aX4_queued_13 : mm_at mX4_queued 13 = some (.ifCond .eq 12) := by decide +kernel
theorem aX4_queued_16 : mm_at mX4_queued 16 = some (.aload_n 0) := by decide +kernel
theorem aX4_queued_17 : mm_at mX4_queued 17 = some (.getfield 50) := by decide +kernel
theorem aX4_queued_20 : mm_at mX4_queued 20 = some (.iload_n 1) := by decide +kernel
theorem aX4_queued_21 : mm_at mX4_queued 21 = some (.iaload) := by decide +kernel
theorem aX4_queued_22 : mm_at mX4_queued 22 = some (.goto 4) := by decide +kernel
theorem aX4_queued_25 : mm_at mX4_queued 25 = some (.iconst (-1)) := by decide +kernel
theorem aX4_queued_26 : mm_at mX4_queued 26 = some (.ireturn) := by decide +kernel
theorem aX4_count_0 : mm_at mX4_count 0 = some (.iload_n 1) := by decide +kernel
theorem aX4_count_1 : mm_at mX4_count 1 = some (.i2l) := by decide +kernel
theorem aX4_count_2 : mm_at mX4_count 2 = some (.lconst 0) := by decide +kernel
theorem aX4_count_3 : mm_at mX4_count 3 = some (.ldc2_w 182) := by decide +kernel
theorem aX4_count_6 : mm_at mX4_count 6 = some (.invokestatic 85) := by decide +kernel
theorem aX4_count_9 : mm_at mX4_count 9 = some (.ifCond .ne 6) := by decide +kernel
theorem aX4_count_12 : mm_at mX4_count 12 = some (.bipush (-2)) := by decide +kernel
theorem aX4_count_14 : mm_at mX4_count 14 = some (.ireturn) := by decide +kernel
theorem aX4_count_15 : mm_at mX4_count 15 = some (.iload_n 1) := by decide +kernel
theorem aX4_count_16 : mm_at mX4_count 16 = some (.bipush 7) := by decide +kernel
theorem aX4_count_18 : mm_at mX4_count 18 = some (.if_icmp .ne 10) := by decide +kernel
theorem aX4_count_21 : mm_at mX4_count 21 = some (.aload_n 0) := by decide +kernel
theorem aX4_count_22 : mm_at mX4_count 22 = some (.getfield 147) := by decide +kernel
theorem aX4_count_25 : mm_at mX4_count 25 = some (.goto 9) := by decide +kernel
theorem aX4_count_28 : mm_at mX4_count 28 = some (.aload_n 0) := by decide +kernel
theorem aX4_count_29 : mm_at mX4_count 29 = some (.getfield 74) := by decide +kernel
theorem aX4_count_32 : mm_at mX4_count 32 = some (.iload_n 1) := by decide +kernel
theorem aX4_count_33 : mm_at mX4_count 33 = some (.iaload) := by decide +kernel
theorem aX4_count_34 : mm_at mX4_count 34 = some (.ireturn) := by decide +kernel
theorem aX4_done_0 : mm_at mX4_done 0 = some (.aload_n 0) := by decide +kernel
theorem aX4_done_1 : mm_at mX4_done 1 = some (.iload_n 1) := by decide +kernel
theorem aX4_done_2 : mm_at mX4_done 2 = some (.invokevirtual 106) := by decide +kernel
theorem aX4_done_5 : mm_at mX4_done 5 = some (.ifCond .eq 12) := by decide +kernel
theorem aX4_done_8 : mm_at mX4_done 8 = some (.aload_n 0) := by decide +kernel
theorem aX4_done_9 : mm_at mX4_done 9 = some (.getfield 44) := by decide +kernel
theorem aX4_done_12 : mm_at mX4_done 12 = some (.iload_n 1) := by decide +kernel
theorem aX4_done_13 : mm_at mX4_done 13 = some (.iaload) := by decide +kernel
theorem aX4_done_14 : mm_at mX4_done 14 = some (.goto 5) := by decide +kernel
theorem aX4_done_17 : mm_at mX4_done 17 = some (.bipush (-2)) := by decide +kernel
theorem aX4_done_19 : mm_at mX4_done 19 = some (.ireturn) := by decide +kernel
theorem aL_law_0 : mm_at mL_law 0 = some (.new 7) := by decide +kernel
theorem aL_law_3 : mm_at mL_law 3 = some (.dup) := by decide +kernel
theorem aL_law_4 : mm_at mL_law 4 = some (.invokespecial 9) := by decide +kernel
theorem aL_law_7 : mm_at mL_law 7 = some (.astore_n 1) := by decide +kernel
theorem aL_law_8 : mm_at mL_law 8 = some (.new 10) := by decide +kernel
theorem aL_law_11 : mm_at mL_law 11 = some (.dup) := by decide +kernel
theorem aL_law_12 : mm_at mL_law 12 = some (.invokespecial 12) := by decide +kernel
theorem aL_law_15 : mm_at mL_law 15 = some (.astore_n 2) := by decide +kernel
theorem aL_law_16 : mm_at mL_law 16 = some (.iconst 0) := by decide +kernel
theorem aL_law_17 : mm_at mL_law 17 = some (.istore_n 3) := by decide +kernel
theorem aL_law_18 : mm_at mL_law 18 = some (.iload_n 3) := by decide +kernel
theorem aL_law_19 : mm_at mL_law 19 = some (.aload_n 0) := by decide +kernel
theorem aL_law_20 : mm_at mL_law 20 = some (.arraylength) := by decide +kernel
theorem aL_law_21 : mm_at mL_law 21 = some (.iconst 4) := by decide +kernel
theorem aL_law_22 : mm_at mL_law 22 = some (.isub) := by decide +kernel
theorem aL_law_23 : mm_at mL_law 23 = some (.if_icmp .gt 617) := by decide +kernel
theorem aL_law_26 : mm_at mL_law 26 = some (.aload_n 0) := by decide +kernel
theorem aL_law_27 : mm_at mL_law 27 = some (.iload_n 3) := by decide +kernel
theorem aL_law_28 : mm_at mL_law 28 = some (.iaload) := by decide +kernel
theorem aL_law_29 : mm_at mL_law 29 = some (.bipush 15) := by decide +kernel
theorem aL_law_31 : mm_at mL_law 31 = some (.iand) := by decide +kernel
theorem aL_law_32 : mm_at mL_law 32 = some (.tableswitch 602 0 14 #[76, 139, 172, 215, 248, 281, 304, 337, 400, 413, 476, 500, 533, 556, 579]) := by decide +kernel
theorem aL_law_108 : mm_at mL_law 108 = some (.aload_n 1) := by decide +kernel
theorem aL_law_109 : mm_at mL_law 109 = some (.aload_n 0) := by decide +kernel
theorem aL_law_110 : mm_at mL_law 110 = some (.iload_n 3) := by decide +kernel
theorem aL_law_111 : mm_at mL_law 111 = some (.iconst 1) := by decide +kernel
theorem aL_law_112 : mm_at mL_law 112 = some (.iadd) := by decide +kernel
theorem aL_law_113 : mm_at mL_law 113 = some (.iaload) := by decide +kernel
theorem aL_law_114 : mm_at mL_law 114 = some (.aload_n 0) := by decide +kernel
theorem aL_law_115 : mm_at mL_law 115 = some (.iload_n 3) := by decide +kernel
theorem aL_law_116 : mm_at mL_law 116 = some (.iconst 2) := by decide +kernel
theorem aL_law_117 : mm_at mL_law 117 = some (.iadd) := by decide +kernel
theorem aL_law_118 : mm_at mL_law 118 = some (.iaload) := by decide +kernel
theorem aL_law_119 : mm_at mL_law 119 = some (.i2l) := by decide +kernel
theorem aL_law_120 : mm_at mL_law 120 = some (.bipush 32) := by decide +kernel
theorem aL_law_122 : mm_at mL_law 122 = some (.lshl) := by decide +kernel
theorem aL_law_123 : mm_at mL_law 123 = some (.aload_n 0) := by decide +kernel
theorem aL_law_124 : mm_at mL_law 124 = some (.iload_n 3) := by decide +kernel
theorem aL_law_125 : mm_at mL_law 125 = some (.iconst 3) := by decide +kernel
theorem aL_law_126 : mm_at mL_law 126 = some (.iadd) := by decide +kernel
theorem aL_law_127 : mm_at mL_law 127 = some (.iaload) := by decide +kernel
theorem aL_law_128 : mm_at mL_law 128 = some (.i2l) := by decide +kernel
theorem aL_law_129 : mm_at mL_law 129 = some (.ldc2_w 13) := by decide +kernel
theorem aL_law_132 : mm_at mL_law 132 = some (.land) := by decide +kernel
theorem aL_law_133 : mm_at mL_law 133 = some (.lor) := by decide +kernel
theorem aL_law_134 : mm_at mL_law 134 = some (.invokevirtual 15) := by decide +kernel
theorem aL_law_137 : mm_at mL_law 137 = some (.aload_n 2) := by decide +kernel
theorem aL_law_138 : mm_at mL_law 138 = some (.aload_n 0) := by decide +kernel
theorem aL_law_139 : mm_at mL_law 139 = some (.iload_n 3) := by decide +kernel
theorem aL_law_140 : mm_at mL_law 140 = some (.iconst 1) := by decide +kernel
theorem aL_law_141 : mm_at mL_law 141 = some (.iadd) := by decide +kernel
theorem aL_law_142 : mm_at mL_law 142 = some (.iaload) := by decide +kernel
theorem aL_law_143 : mm_at mL_law 143 = some (.aload_n 0) := by decide +kernel
theorem aL_law_144 : mm_at mL_law 144 = some (.iload_n 3) := by decide +kernel
theorem aL_law_145 : mm_at mL_law 145 = some (.iconst 2) := by decide +kernel
theorem aL_law_146 : mm_at mL_law 146 = some (.iadd) := by decide +kernel
theorem aL_law_147 : mm_at mL_law 147 = some (.iaload) := by decide +kernel
theorem aL_law_148 : mm_at mL_law 148 = some (.i2l) := by decide +kernel
theorem aL_law_149 : mm_at mL_law 149 = some (.bipush 32) := by decide +kernel
theorem aL_law_151 : mm_at mL_law 151 = some (.lshl) := by decide +kernel
theorem aL_law_152 : mm_at mL_law 152 = some (.aload_n 0) := by decide +kernel
theorem aL_law_153 : mm_at mL_law 153 = some (.iload_n 3) := by decide +kernel
theorem aL_law_154 : mm_at mL_law 154 = some (.iconst 3) := by decide +kernel
theorem aL_law_155 : mm_at mL_law 155 = some (.iadd) := by decide +kernel
theorem aL_law_156 : mm_at mL_law 156 = some (.iaload) := by decide +kernel
theorem aL_law_157 : mm_at mL_law 157 = some (.i2l) := by decide +kernel
theorem aL_law_158 : mm_at mL_law 158 = some (.ldc2_w 13) := by decide +kernel
theorem aL_law_161 : mm_at mL_law 161 = some (.land) := by decide +kernel
theorem aL_law_162 : mm_at mL_law 162 = some (.lor) := by decide +kernel
theorem aL_law_163 : mm_at mL_law 163 = some (.invokevirtual 19) := by decide +kernel
theorem aL_law_166 : mm_at mL_law 166 = some (.if_icmp .eq 468) := by decide +kernel
theorem aL_law_169 : mm_at mL_law 169 = some (.iconst 0) := by decide +kernel
theorem aL_law_170 : mm_at mL_law 170 = some (.ireturn) := by decide +kernel
theorem aL_law_171 : mm_at mL_law 171 = some (.aload_n 1) := by decide +kernel
theorem aL_law_172 : mm_at mL_law 172 = some (.aload_n 0) := by decide +kernel
theorem aL_law_173 : mm_at mL_law 173 = some (.iload_n 3) := by decide +kernel
theorem aL_law_174 : mm_at mL_law 174 = some (.iconst 1) := by decide +kernel
theorem aL_law_175 : mm_at mL_law 175 = some (.iadd) := by decide +kernel
theorem aL_law_176 : mm_at mL_law 176 = some (.iaload) := by decide +kernel
theorem aL_law_177 : mm_at mL_law 177 = some (.aload_n 0) := by decide +kernel
theorem aL_law_178 : mm_at mL_law 178 = some (.iload_n 3) := by decide +kernel
theorem aL_law_179 : mm_at mL_law 179 = some (.iconst 2) := by decide +kernel
theorem aL_law_180 : mm_at mL_law 180 = some (.iadd) := by decide +kernel
theorem aL_law_181 : mm_at mL_law 181 = some (.iaload) := by decide +kernel
theorem aL_law_182 : mm_at mL_law 182 = some (.invokevirtual 20) := by decide +kernel
theorem aL_law_185 : mm_at mL_law 185 = some (.aload_n 2) := by decide +kernel
theorem aL_law_186 : mm_at mL_law 186 = some (.aload_n 0) := by decide +kernel
theorem aL_law_187 : mm_at mL_law 187 = some (.iload_n 3) := by decide +kernel
theorem aL_law_188 : mm_at mL_law 188 = some (.iconst 1) := by decide +kernel
theorem aL_law_189 : mm_at mL_law 189 = some (.iadd) := by decide +kernel
theorem aL_law_190 : mm_at mL_law 190 = some (.iaload) := by decide +kernel
theorem aL_law_191 : mm_at mL_law 191 = some (.aload_n 0) := by decide +kernel
theorem aL_law_192 : mm_at mL_law 192 = some (.iload_n 3) := by decide +kernel
theorem aL_law_193 : mm_at mL_law 193 = some (.iconst 2) := by decide +kernel
theorem aL_law_194 : mm_at mL_law 194 = some (.iadd) := by decide +kernel
theorem aL_law_195 : mm_at mL_law 195 = some (.iaload) := by decide +kernel
theorem aL_law_196 : mm_at mL_law 196 = some (.invokevirtual 24) := by decide +kernel
theorem aL_law_199 : mm_at mL_law 199 = some (.if_icmp .eq 435) := by decide +kernel
theorem aL_law_202 : mm_at mL_law 202 = some (.iconst 0) := by decide +kernel
theorem aL_law_203 : mm_at mL_law 203 = some (.ireturn) := by decide +kernel
theorem aL_law_204 : mm_at mL_law 204 = some (.aload_n 1) := by decide +kernel
theorem aL_law_205 : mm_at mL_law 205 = some (.aload_n 0) := by decide +kernel
theorem aL_law_206 : mm_at mL_law 206 = some (.iload_n 3) := by decide +kernel
theorem aL_law_207 : mm_at mL_law 207 = some (.iconst 1) := by decide +kernel
theorem aL_law_208 : mm_at mL_law 208 = some (.iadd) := by decide +kernel
theorem aL_law_209 : mm_at mL_law 209 = some (.iaload) := by decide +kernel
theorem aL_law_210 : mm_at mL_law 210 = some (.aload_n 0) := by decide +kernel
theorem aL_law_211 : mm_at mL_law 211 = some (.iload_n 3) := by decide +kernel
theorem aL_law_212 : mm_at mL_law 212 = some (.iconst 2) := by decide +kernel
theorem aL_law_213 : mm_at mL_law 213 = some (.iadd) := by decide +kernel
theorem aL_law_214 : mm_at mL_law 214 = some (.iaload) := by decide +kernel
theorem aL_law_215 : mm_at mL_law 215 = some (.aload_n 0) := by decide +kernel
theorem aL_law_216 : mm_at mL_law 216 = some (.iload_n 3) := by decide +kernel
theorem aL_law_217 : mm_at mL_law 217 = some (.iconst 3) := by decide +kernel
theorem aL_law_218 : mm_at mL_law 218 = some (.iadd) := by decide +kernel
theorem aL_law_219 : mm_at mL_law 219 = some (.iaload) := by decide +kernel
theorem aL_law_220 : mm_at mL_law 220 = some (.invokevirtual 25) := by decide +kernel
theorem aL_law_223 : mm_at mL_law 223 = some (.aload_n 2) := by decide +kernel
theorem aL_law_224 : mm_at mL_law 224 = some (.aload_n 0) := by decide +kernel
theorem aL_law_225 : mm_at mL_law 225 = some (.iload_n 3) := by decide +kernel
theorem aL_law_226 : mm_at mL_law 226 = some (.iconst 1) := by decide +kernel
theorem aL_law_227 : mm_at mL_law 227 = some (.iadd) := by decide +kernel
theorem aL_law_228 : mm_at mL_law 228 = some (.iaload) := by decide +kernel
theorem aL_law_229 : mm_at mL_law 229 = some (.aload_n 0) := by decide +kernel
theorem aL_law_230 : mm_at mL_law 230 = some (.iload_n 3) := by decide +kernel
theorem aL_law_231 : mm_at mL_law 231 = some (.iconst 2) := by decide +kernel
theorem aL_law_232 : mm_at mL_law 232 = some (.iadd) := by decide +kernel
theorem aL_law_233 : mm_at mL_law 233 = some (.iaload) := by decide +kernel
theorem aL_law_234 : mm_at mL_law 234 = some (.aload_n 0) := by decide +kernel
theorem aL_law_235 : mm_at mL_law 235 = some (.iload_n 3) := by decide +kernel
theorem aL_law_236 : mm_at mL_law 236 = some (.iconst 3) := by decide +kernel
theorem aL_law_237 : mm_at mL_law 237 = some (.iadd) := by decide +kernel
theorem aL_law_238 : mm_at mL_law 238 = some (.iaload) := by decide +kernel
theorem aL_law_239 : mm_at mL_law 239 = some (.invokevirtual 29) := by decide +kernel
theorem aL_law_242 : mm_at mL_law 242 = some (.if_icmp .eq 392) := by decide +kernel
theorem aL_law_245 : mm_at mL_law 245 = some (.iconst 0) := by decide +kernel
theorem aL_law_246 : mm_at mL_law 246 = some (.ireturn) := by decide +kernel
theorem aL_law_247 : mm_at mL_law 247 = some (.aload_n 1) := by decide +kernel
theorem aL_law_248 : mm_at mL_law 248 = some (.aload_n 0) := by decide +kernel
theorem aL_law_249 : mm_at mL_law 249 = some (.iload_n 3) := by decide +kernel
theorem aL_law_250 : mm_at mL_law 250 = some (.iconst 1) := by decide +kernel
theorem aL_law_251 : mm_at mL_law 251 = some (.iadd) := by decide +kernel
theorem aL_law_252 : mm_at mL_law 252 = some (.iaload) := by decide +kernel
theorem aL_law_253 : mm_at mL_law 253 = some (.aload_n 0) := by decide +kernel
theorem aL_law_254 : mm_at mL_law 254 = some (.iload_n 3) := by decide +kernel
theorem aL_law_255 : mm_at mL_law 255 = some (.iconst 2) := by decide +kernel
theorem aL_law_256 : mm_at mL_law 256 = some (.iadd) := by decide +kernel
theorem aL_law_257 : mm_at mL_law 257 = some (.iaload) := by decide +kernel
theorem aL_law_258 : mm_at mL_law 258 = some (.invokevirtual 30) := by decide +kernel
theorem aL_law_261 : mm_at mL_law 261 = some (.aload_n 2) := by decide +kernel
theorem aL_law_262 : mm_at mL_law 262 = some (.aload_n 0) := by decide +kernel
theorem aL_law_263 : mm_at mL_law 263 = some (.iload_n 3) := by decide +kernel
theorem aL_law_264 : mm_at mL_law 264 = some (.iconst 1) := by decide +kernel
theorem aL_law_265 : mm_at mL_law 265 = some (.iadd) := by decide +kernel
theorem aL_law_266 : mm_at mL_law 266 = some (.iaload) := by decide +kernel
theorem aL_law_267 : mm_at mL_law 267 = some (.aload_n 0) := by decide +kernel
theorem aL_law_268 : mm_at mL_law 268 = some (.iload_n 3) := by decide +kernel
theorem aL_law_269 : mm_at mL_law 269 = some (.iconst 2) := by decide +kernel
theorem aL_law_270 : mm_at mL_law 270 = some (.iadd) := by decide +kernel
theorem aL_law_271 : mm_at mL_law 271 = some (.iaload) := by decide +kernel
theorem aL_law_272 : mm_at mL_law 272 = some (.invokevirtual 33) := by decide +kernel
theorem aL_law_275 : mm_at mL_law 275 = some (.if_icmp .eq 359) := by decide +kernel
theorem aL_law_278 : mm_at mL_law 278 = some (.iconst 0) := by decide +kernel
theorem aL_law_279 : mm_at mL_law 279 = some (.ireturn) := by decide +kernel
theorem aL_law_280 : mm_at mL_law 280 = some (.aload_n 1) := by decide +kernel
theorem aL_law_281 : mm_at mL_law 281 = some (.aload_n 0) := by decide +kernel
theorem aL_law_282 : mm_at mL_law 282 = some (.iload_n 3) := by decide +kernel
theorem aL_law_283 : mm_at mL_law 283 = some (.iconst 1) := by decide +kernel
theorem aL_law_284 : mm_at mL_law 284 = some (.iadd) := by decide +kernel
theorem aL_law_285 : mm_at mL_law 285 = some (.iaload) := by decide +kernel
theorem aL_law_286 : mm_at mL_law 286 = some (.aload_n 0) := by decide +kernel
theorem aL_law_287 : mm_at mL_law 287 = some (.iload_n 3) := by decide +kernel
theorem aL_law_288 : mm_at mL_law 288 = some (.iconst 2) := by decide +kernel
theorem aL_law_289 : mm_at mL_law 289 = some (.iadd) := by decide +kernel
theorem aL_law_290 : mm_at mL_law 290 = some (.iaload) := by decide +kernel
theorem aL_law_291 : mm_at mL_law 291 = some (.invokevirtual 34) := by decide +kernel
theorem aL_law_294 : mm_at mL_law 294 = some (.aload_n 2) := by decide +kernel
theorem aL_law_295 : mm_at mL_law 295 = some (.aload_n 0) := by decide +kernel
theorem aL_law_296 : mm_at mL_law 296 = some (.iload_n 3) := by decide +kernel
theorem aL_law_297 : mm_at mL_law 297 = some (.iconst 1) := by decide +kernel
theorem aL_law_298 : mm_at mL_law 298 = some (.iadd) := by decide +kernel
theorem aL_law_299 : mm_at mL_law 299 = some (.iaload) := by decide +kernel
theorem aL_law_300 : mm_at mL_law 300 = some (.aload_n 0) := by decide +kernel
theorem aL_law_301 : mm_at mL_law 301 = some (.iload_n 3) := by decide +kernel
theorem aL_law_302 : mm_at mL_law 302 = some (.iconst 2) := by decide +kernel
theorem aL_law_303 : mm_at mL_law 303 = some (.iadd) := by decide +kernel
theorem aL_law_304 : mm_at mL_law 304 = some (.iaload) := by decide +kernel
theorem aL_law_305 : mm_at mL_law 305 = some (.invokevirtual 37) := by decide +kernel
theorem aL_law_308 : mm_at mL_law 308 = some (.if_icmp .eq 326) := by decide +kernel
theorem aL_law_311 : mm_at mL_law 311 = some (.iconst 0) := by decide +kernel
theorem aL_law_312 : mm_at mL_law 312 = some (.ireturn) := by decide +kernel
theorem aL_law_313 : mm_at mL_law 313 = some (.aload_n 1) := by decide +kernel
theorem aL_law_314 : mm_at mL_law 314 = some (.aload_n 0) := by decide +kernel
theorem aL_law_315 : mm_at mL_law 315 = some (.iload_n 3) := by decide +kernel
theorem aL_law_316 : mm_at mL_law 316 = some (.iconst 1) := by decide +kernel
theorem aL_law_317 : mm_at mL_law 317 = some (.iadd) := by decide +kernel
theorem aL_law_318 : mm_at mL_law 318 = some (.iaload) := by decide +kernel
theorem aL_law_319 : mm_at mL_law 319 = some (.invokevirtual 38) := by decide +kernel
theorem aL_law_322 : mm_at mL_law 322 = some (.aload_n 2) := by decide +kernel
theorem aL_law_323 : mm_at mL_law 323 = some (.aload_n 0) := by decide +kernel
theorem aL_law_324 : mm_at mL_law 324 = some (.iload_n 3) := by decide +kernel
theorem aL_law_325 : mm_at mL_law 325 = some (.iconst 1) := by decide +kernel
theorem aL_law_326 : mm_at mL_law 326 = some (.iadd) := by decide +kernel
theorem aL_law_327 : mm_at mL_law 327 = some (.iaload) := by decide +kernel
theorem aL_law_328 : mm_at mL_law 328 = some (.invokevirtual 42) := by decide +kernel
theorem aL_law_331 : mm_at mL_law 331 = some (.if_icmp .eq 303) := by decide +kernel
theorem aL_law_334 : mm_at mL_law 334 = some (.iconst 0) := by decide +kernel
theorem aL_law_335 : mm_at mL_law 335 = some (.ireturn) := by decide +kernel
theorem aL_law_336 : mm_at mL_law 336 = some (.aload_n 1) := by decide +kernel
theorem aL_law_337 : mm_at mL_law 337 = some (.aload_n 0) := by decide +kernel
theorem aL_law_338 : mm_at mL_law 338 = some (.iload_n 3) := by decide +kernel
theorem aL_law_339 : mm_at mL_law 339 = some (.iconst 1) := by decide +kernel
theorem aL_law_340 : mm_at mL_law 340 = some (.iadd) := by decide +kernel
theorem aL_law_341 : mm_at mL_law 341 = some (.iaload) := by decide +kernel
theorem aL_law_342 : mm_at mL_law 342 = some (.aload_n 0) := by decide +kernel
theorem aL_law_343 : mm_at mL_law 343 = some (.iload_n 3) := by decide +kernel
theorem aL_law_344 : mm_at mL_law 344 = some (.iconst 2) := by decide +kernel
theorem aL_law_345 : mm_at mL_law 345 = some (.iadd) := by decide +kernel
theorem aL_law_346 : mm_at mL_law 346 = some (.iaload) := by decide +kernel
theorem aL_law_347 : mm_at mL_law 347 = some (.invokevirtual 43) := by decide +kernel
theorem aL_law_350 : mm_at mL_law 350 = some (.aload_n 2) := by decide +kernel
theorem aL_law_351 : mm_at mL_law 351 = some (.aload_n 0) := by decide +kernel
theorem aL_law_352 : mm_at mL_law 352 = some (.iload_n 3) := by decide +kernel
theorem aL_law_353 : mm_at mL_law 353 = some (.iconst 1) := by decide +kernel
theorem aL_law_354 : mm_at mL_law 354 = some (.iadd) := by decide +kernel
theorem aL_law_355 : mm_at mL_law 355 = some (.iaload) := by decide +kernel
theorem aL_law_356 : mm_at mL_law 356 = some (.aload_n 0) := by decide +kernel
theorem aL_law_357 : mm_at mL_law 357 = some (.iload_n 3) := by decide +kernel
theorem aL_law_358 : mm_at mL_law 358 = some (.iconst 2) := by decide +kernel
theorem aL_law_359 : mm_at mL_law 359 = some (.iadd) := by decide +kernel
theorem aL_law_360 : mm_at mL_law 360 = some (.iaload) := by decide +kernel
theorem aL_law_361 : mm_at mL_law 361 = some (.invokevirtual 46) := by decide +kernel
theorem aL_law_364 : mm_at mL_law 364 = some (.if_icmp .eq 270) := by decide +kernel
theorem aL_law_367 : mm_at mL_law 367 = some (.iconst 0) := by decide +kernel
theorem aL_law_368 : mm_at mL_law 368 = some (.ireturn) := by decide +kernel
theorem aL_law_369 : mm_at mL_law 369 = some (.aload_n 1) := by decide +kernel
theorem aL_law_370 : mm_at mL_law 370 = some (.aload_n 0) := by decide +kernel
theorem aL_law_371 : mm_at mL_law 371 = some (.iload_n 3) := by decide +kernel
theorem aL_law_372 : mm_at mL_law 372 = some (.iconst 1) := by decide +kernel
theorem aL_law_373 : mm_at mL_law 373 = some (.iadd) := by decide +kernel
theorem aL_law_374 : mm_at mL_law 374 = some (.iaload) := by decide +kernel
theorem aL_law_375 : mm_at mL_law 375 = some (.aload_n 0) := by decide +kernel
theorem aL_law_376 : mm_at mL_law 376 = some (.iload_n 3) := by decide +kernel
theorem aL_law_377 : mm_at mL_law 377 = some (.iconst 2) := by decide +kernel
theorem aL_law_378 : mm_at mL_law 378 = some (.iadd) := by decide +kernel
theorem aL_law_379 : mm_at mL_law 379 = some (.iaload) := by decide +kernel
theorem aL_law_380 : mm_at mL_law 380 = some (.i2l) := by decide +kernel
theorem aL_law_381 : mm_at mL_law 381 = some (.bipush 32) := by decide +kernel
theorem aL_law_383 : mm_at mL_law 383 = some (.lshl) := by decide +kernel
theorem aL_law_384 : mm_at mL_law 384 = some (.aload_n 0) := by decide +kernel
theorem aL_law_385 : mm_at mL_law 385 = some (.iload_n 3) := by decide +kernel
theorem aL_law_386 : mm_at mL_law 386 = some (.iconst 3) := by decide +kernel
theorem aL_law_387 : mm_at mL_law 387 = some (.iadd) := by decide +kernel
theorem aL_law_388 : mm_at mL_law 388 = some (.iaload) := by decide +kernel
theorem aL_law_389 : mm_at mL_law 389 = some (.i2l) := by decide +kernel
theorem aL_law_390 : mm_at mL_law 390 = some (.ldc2_w 13) := by decide +kernel
theorem aL_law_393 : mm_at mL_law 393 = some (.land) := by decide +kernel
theorem aL_law_394 : mm_at mL_law 394 = some (.lor) := by decide +kernel
theorem aL_law_395 : mm_at mL_law 395 = some (.invokevirtual 47) := by decide +kernel
theorem aL_law_398 : mm_at mL_law 398 = some (.aload_n 2) := by decide +kernel
theorem aL_law_399 : mm_at mL_law 399 = some (.aload_n 0) := by decide +kernel
theorem aL_law_400 : mm_at mL_law 400 = some (.iload_n 3) := by decide +kernel
theorem aL_law_401 : mm_at mL_law 401 = some (.iconst 1) := by decide +kernel
theorem aL_law_402 : mm_at mL_law 402 = some (.iadd) := by decide +kernel
theorem aL_law_403 : mm_at mL_law 403 = some (.iaload) := by decide +kernel
theorem aL_law_404 : mm_at mL_law 404 = some (.aload_n 0) := by decide +kernel
theorem aL_law_405 : mm_at mL_law 405 = some (.iload_n 3) := by decide +kernel
theorem aL_law_406 : mm_at mL_law 406 = some (.iconst 2) := by decide +kernel
theorem aL_law_407 : mm_at mL_law 407 = some (.iadd) := by decide +kernel
theorem aL_law_408 : mm_at mL_law 408 = some (.iaload) := by decide +kernel
theorem aL_law_409 : mm_at mL_law 409 = some (.i2l) := by decide +kernel
theorem aL_law_410 : mm_at mL_law 410 = some (.bipush 32) := by decide +kernel
theorem aL_law_412 : mm_at mL_law 412 = some (.lshl) := by decide +kernel
theorem aL_law_413 : mm_at mL_law 413 = some (.aload_n 0) := by decide +kernel
theorem aL_law_414 : mm_at mL_law 414 = some (.iload_n 3) := by decide +kernel
theorem aL_law_415 : mm_at mL_law 415 = some (.iconst 3) := by decide +kernel
theorem aL_law_416 : mm_at mL_law 416 = some (.iadd) := by decide +kernel
theorem aL_law_417 : mm_at mL_law 417 = some (.iaload) := by decide +kernel
theorem aL_law_418 : mm_at mL_law 418 = some (.i2l) := by decide +kernel
theorem aL_law_419 : mm_at mL_law 419 = some (.ldc2_w 13) := by decide +kernel
theorem aL_law_422 : mm_at mL_law 422 = some (.land) := by decide +kernel
theorem aL_law_423 : mm_at mL_law 423 = some (.lor) := by decide +kernel
theorem aL_law_424 : mm_at mL_law 424 = some (.invokevirtual 50) := by decide +kernel
theorem aL_law_427 : mm_at mL_law 427 = some (.if_icmp .eq 207) := by decide +kernel
theorem aL_law_430 : mm_at mL_law 430 = some (.iconst 0) := by decide +kernel
theorem aL_law_431 : mm_at mL_law 431 = some (.ireturn) := by decide +kernel
theorem aL_law_432 : mm_at mL_law 432 = some (.aload_n 1) := by decide +kernel
theorem aL_law_433 : mm_at mL_law 433 = some (.invokevirtual 51) := by decide +kernel
theorem aL_law_436 : mm_at mL_law 436 = some (.aload_n 2) := by decide +kernel
theorem aL_law_437 : mm_at mL_law 437 = some (.invokevirtual 55) := by decide +kernel
theorem aL_law_440 : mm_at mL_law 440 = some (.if_icmp .eq 194) := by decide +kernel
theorem aL_law_443 : mm_at mL_law 443 = some (.iconst 0) := by decide +kernel
theorem aL_law_444 : mm_at mL_law 444 = some (.ireturn) := by decide +kernel
theorem aL_law_445 : mm_at mL_law 445 = some (.aload_n 1) := by decide +kernel
theorem aL_law_446 : mm_at mL_law 446 = some (.aload_n 0) := by decide +kernel
theorem aL_law_447 : mm_at mL_law 447 = some (.iload_n 3) := by decide +kernel
theorem aL_law_448 : mm_at mL_law 448 = some (.iconst 1) := by decide +kernel
theorem aL_law_449 : mm_at mL_law 449 = some (.iadd) := by decide +kernel
theorem aL_law_450 : mm_at mL_law 450 = some (.iaload) := by decide +kernel
theorem aL_law_451 : mm_at mL_law 451 = some (.aload_n 0) := by decide +kernel
theorem aL_law_452 : mm_at mL_law 452 = some (.iload_n 3) := by decide +kernel
theorem aL_law_453 : mm_at mL_law 453 = some (.iconst 2) := by decide +kernel
theorem aL_law_454 : mm_at mL_law 454 = some (.iadd) := by decide +kernel
theorem aL_law_455 : mm_at mL_law 455 = some (.iaload) := by decide +kernel
theorem aL_law_456 : mm_at mL_law 456 = some (.i2l) := by decide +kernel
theorem aL_law_457 : mm_at mL_law 457 = some (.bipush 32) := by decide +kernel
theorem aL_law_459 : mm_at mL_law 459 = some (.lshl) := by decide +kernel
theorem aL_law_460 : mm_at mL_law 460 = some (.aload_n 0) := by decide +kernel
theorem aL_law_461 : mm_at mL_law 461 = some (.iload_n 3) := by decide +kernel
theorem aL_law_462 : mm_at mL_law 462 = some (.iconst 3) := by decide +kernel
theorem aL_law_463 : mm_at mL_law 463 = some (.iadd) := by decide +kernel
theorem aL_law_464 : mm_at mL_law 464 = some (.iaload) := by decide +kernel
theorem aL_law_465 : mm_at mL_law 465 = some (.i2l) := by decide +kernel
theorem aL_law_466 : mm_at mL_law 466 = some (.ldc2_w 13) := by decide +kernel
theorem aL_law_469 : mm_at mL_law 469 = some (.land) := by decide +kernel
theorem aL_law_470 : mm_at mL_law 470 = some (.lor) := by decide +kernel
theorem aL_law_471 : mm_at mL_law 471 = some (.invokevirtual 56) := by decide +kernel
theorem aL_law_474 : mm_at mL_law 474 = some (.aload_n 2) := by decide +kernel
theorem aL_law_475 : mm_at mL_law 475 = some (.aload_n 0) := by decide +kernel
theorem aL_law_476 : mm_at mL_law 476 = some (.iload_n 3) := by decide +kernel
theorem aL_law_477 : mm_at mL_law 477 = some (.iconst 1) := by decide +kernel
theorem aL_law_478 : mm_at mL_law 478 = some (.iadd) := by decide +kernel
theorem aL_law_479 : mm_at mL_law 479 = some (.iaload) := by decide +kernel
theorem aL_law_480 : mm_at mL_law 480 = some (.aload_n 0) := by decide +kernel
theorem aL_law_481 : mm_at mL_law 481 = some (.iload_n 3) := by decide +kernel
theorem aL_law_482 : mm_at mL_law 482 = some (.iconst 2) := by decide +kernel
theorem aL_law_483 : mm_at mL_law 483 = some (.iadd) := by decide +kernel
theorem aL_law_484 : mm_at mL_law 484 = some (.iaload) := by decide +kernel
theorem aL_law_485 : mm_at mL_law 485 = some (.i2l) := by decide +kernel
theorem aL_law_486 : mm_at mL_law 486 = some (.bipush 32) := by decide +kernel
theorem aL_law_488 : mm_at mL_law 488 = some (.lshl) := by decide +kernel
theorem aL_law_489 : mm_at mL_law 489 = some (.aload_n 0) := by decide +kernel
theorem aL_law_490 : mm_at mL_law 490 = some (.iload_n 3) := by decide +kernel
theorem aL_law_491 : mm_at mL_law 491 = some (.iconst 3) := by decide +kernel
theorem aL_law_492 : mm_at mL_law 492 = some (.iadd) := by decide +kernel
theorem aL_law_493 : mm_at mL_law 493 = some (.iaload) := by decide +kernel
theorem aL_law_494 : mm_at mL_law 494 = some (.i2l) := by decide +kernel
theorem aL_law_495 : mm_at mL_law 495 = some (.ldc2_w 13) := by decide +kernel
theorem aL_law_498 : mm_at mL_law 498 = some (.land) := by decide +kernel
theorem aL_law_499 : mm_at mL_law 499 = some (.lor) := by decide +kernel
theorem aL_law_500 : mm_at mL_law 500 = some (.invokevirtual 59) := by decide +kernel
theorem aL_law_503 : mm_at mL_law 503 = some (.if_icmp .eq 131) := by decide +kernel
theorem aL_law_506 : mm_at mL_law 506 = some (.iconst 0) := by decide +kernel
theorem aL_law_507 : mm_at mL_law 507 = some (.ireturn) := by decide +kernel
theorem aL_law_508 : mm_at mL_law 508 = some (.aload_n 1) := by decide +kernel
theorem aL_law_509 : mm_at mL_law 509 = some (.aload_n 0) := by decide +kernel
theorem aL_law_510 : mm_at mL_law 510 = some (.iload_n 3) := by decide +kernel
theorem aL_law_511 : mm_at mL_law 511 = some (.iconst 1) := by decide +kernel
theorem aL_law_512 : mm_at mL_law 512 = some (.iadd) := by decide +kernel
theorem aL_law_513 : mm_at mL_law 513 = some (.iaload) := by decide +kernel
theorem aL_law_514 : mm_at mL_law 514 = some (.invokevirtual 60) := by decide +kernel
theorem aL_law_517 : mm_at mL_law 517 = some (.aload_n 2) := by decide +kernel
theorem aL_law_518 : mm_at mL_law 518 = some (.aload_n 0) := by decide +kernel
theorem aL_law_519 : mm_at mL_law 519 = some (.iload_n 3) := by decide +kernel
theorem aL_law_520 : mm_at mL_law 520 = some (.iconst 1) := by decide +kernel
theorem aL_law_521 : mm_at mL_law 521 = some (.iadd) := by decide +kernel
theorem aL_law_522 : mm_at mL_law 522 = some (.iaload) := by decide +kernel
theorem aL_law_523 : mm_at mL_law 523 = some (.invokevirtual 64) := by decide +kernel
theorem aL_law_526 : mm_at mL_law 526 = some (.lcmp) := by decide +kernel
theorem aL_law_527 : mm_at mL_law 527 = some (.ifCond .eq 107) := by decide +kernel
theorem aL_law_530 : mm_at mL_law 530 = some (.iconst 0) := by decide +kernel
theorem aL_law_531 : mm_at mL_law 531 = some (.ireturn) := by decide +kernel
theorem aL_law_532 : mm_at mL_law 532 = some (.aload_n 1) := by decide +kernel
theorem aL_law_533 : mm_at mL_law 533 = some (.aload_n 0) := by decide +kernel
theorem aL_law_534 : mm_at mL_law 534 = some (.iload_n 3) := by decide +kernel
theorem aL_law_535 : mm_at mL_law 535 = some (.iconst 1) := by decide +kernel
theorem aL_law_536 : mm_at mL_law 536 = some (.iadd) := by decide +kernel
theorem aL_law_537 : mm_at mL_law 537 = some (.iaload) := by decide +kernel
theorem aL_law_538 : mm_at mL_law 538 = some (.aload_n 0) := by decide +kernel
theorem aL_law_539 : mm_at mL_law 539 = some (.iload_n 3) := by decide +kernel
theorem aL_law_540 : mm_at mL_law 540 = some (.iconst 2) := by decide +kernel
theorem aL_law_541 : mm_at mL_law 541 = some (.iadd) := by decide +kernel
theorem aL_law_542 : mm_at mL_law 542 = some (.iaload) := by decide +kernel
theorem aL_law_543 : mm_at mL_law 543 = some (.invokevirtual 65) := by decide +kernel
theorem aL_law_546 : mm_at mL_law 546 = some (.aload_n 2) := by decide +kernel
theorem aL_law_547 : mm_at mL_law 547 = some (.aload_n 0) := by decide +kernel
theorem aL_law_548 : mm_at mL_law 548 = some (.iload_n 3) := by decide +kernel
theorem aL_law_549 : mm_at mL_law 549 = some (.iconst 1) := by decide +kernel
theorem aL_law_550 : mm_at mL_law 550 = some (.iadd) := by decide +kernel
theorem aL_law_551 : mm_at mL_law 551 = some (.iaload) := by decide +kernel
theorem aL_law_552 : mm_at mL_law 552 = some (.aload_n 0) := by decide +kernel
theorem aL_law_553 : mm_at mL_law 553 = some (.iload_n 3) := by decide +kernel
theorem aL_law_554 : mm_at mL_law 554 = some (.iconst 2) := by decide +kernel
theorem aL_law_555 : mm_at mL_law 555 = some (.iadd) := by decide +kernel
theorem aL_law_556 : mm_at mL_law 556 = some (.iaload) := by decide +kernel
theorem aL_law_557 : mm_at mL_law 557 = some (.invokevirtual 68) := by decide +kernel
theorem aL_law_560 : mm_at mL_law 560 = some (.if_icmp .eq 74) := by decide +kernel
theorem aL_law_563 : mm_at mL_law 563 = some (.iconst 0) := by decide +kernel
theorem aL_law_564 : mm_at mL_law 564 = some (.ireturn) := by decide +kernel
theorem aL_law_565 : mm_at mL_law 565 = some (.aload_n 1) := by decide +kernel
theorem aL_law_566 : mm_at mL_law 566 = some (.aload_n 0) := by decide +kernel
theorem aL_law_567 : mm_at mL_law 567 = some (.iload_n 3) := by decide +kernel
theorem aL_law_568 : mm_at mL_law 568 = some (.iconst 1) := by decide +kernel
theorem aL_law_569 : mm_at mL_law 569 = some (.iadd) := by decide +kernel
theorem aL_law_570 : mm_at mL_law 570 = some (.iaload) := by decide +kernel
theorem aL_law_571 : mm_at mL_law 571 = some (.invokevirtual 69) := by decide +kernel
theorem aL_law_574 : mm_at mL_law 574 = some (.aload_n 2) := by decide +kernel
theorem aL_law_575 : mm_at mL_law 575 = some (.aload_n 0) := by decide +kernel
theorem aL_law_576 : mm_at mL_law 576 = some (.iload_n 3) := by decide +kernel
theorem aL_law_577 : mm_at mL_law 577 = some (.iconst 1) := by decide +kernel
theorem aL_law_578 : mm_at mL_law 578 = some (.iadd) := by decide +kernel
theorem aL_law_579 : mm_at mL_law 579 = some (.iaload) := by decide +kernel
theorem aL_law_580 : mm_at mL_law 580 = some (.invokevirtual 72) := by decide +kernel
theorem aL_law_583 : mm_at mL_law 583 = some (.if_icmp .eq 51) := by decide +kernel
theorem aL_law_586 : mm_at mL_law 586 = some (.iconst 0) := by decide +kernel
theorem aL_law_587 : mm_at mL_law 587 = some (.ireturn) := by decide +kernel
theorem aL_law_588 : mm_at mL_law 588 = some (.aload_n 1) := by decide +kernel
theorem aL_law_589 : mm_at mL_law 589 = some (.aload_n 0) := by decide +kernel
theorem aL_law_590 : mm_at mL_law 590 = some (.iload_n 3) := by decide +kernel
theorem aL_law_591 : mm_at mL_law 591 = some (.iconst 1) := by decide +kernel
theorem aL_law_592 : mm_at mL_law 592 = some (.iadd) := by decide +kernel
theorem aL_law_593 : mm_at mL_law 593 = some (.iaload) := by decide +kernel
theorem aL_law_594 : mm_at mL_law 594 = some (.invokevirtual 73) := by decide +kernel
theorem aL_law_597 : mm_at mL_law 597 = some (.aload_n 2) := by decide +kernel
theorem aL_law_598 : mm_at mL_law 598 = some (.aload_n 0) := by decide +kernel
theorem aL_law_599 : mm_at mL_law 599 = some (.iload_n 3) := by decide +kernel
theorem aL_law_600 : mm_at mL_law 600 = some (.iconst 1) := by decide +kernel
theorem aL_law_601 : mm_at mL_law 601 = some (.iadd) := by decide +kernel
theorem aL_law_602 : mm_at mL_law 602 = some (.iaload) := by decide +kernel
theorem aL_law_603 : mm_at mL_law 603 = some (.invokevirtual 76) := by decide +kernel
theorem aL_law_606 : mm_at mL_law 606 = some (.if_icmp .eq 28) := by decide +kernel
theorem aL_law_609 : mm_at mL_law 609 = some (.iconst 0) := by decide +kernel
theorem aL_law_610 : mm_at mL_law 610 = some (.ireturn) := by decide +kernel
theorem aL_law_611 : mm_at mL_law 611 = some (.aload_n 1) := by decide +kernel
theorem aL_law_612 : mm_at mL_law 612 = some (.aload_n 0) := by decide +kernel
theorem aL_law_613 : mm_at mL_law 613 = some (.iload_n 3) := by decide +kernel
theorem aL_law_614 : mm_at mL_law 614 = some (.iconst 1) := by decide +kernel
theorem aL_law_615 : mm_at mL_law 615 = some (.iadd) := by decide +kernel
theorem aL_law_616 : mm_at mL_law 616 = some (.iaload) := by decide +kernel
theorem aL_law_617 : mm_at mL_law 617 = some (.invokevirtual 77) := by decide +kernel
theorem aL_law_620 : mm_at mL_law 620 = some (.aload_n 2) := by decide +kernel
theorem aL_law_621 : mm_at mL_law 621 = some (.aload_n 0) := by decide +kernel
theorem aL_law_622 : mm_at mL_law 622 = some (.iload_n 3) := by decide +kernel
theorem aL_law_623 : mm_at mL_law 623 = some (.iconst 1) := by decide +kernel
theorem aL_law_624 : mm_at mL_law 624 = some (.iadd) := by decide +kernel
theorem aL_law_625 : mm_at mL_law 625 = some (.iaload) := by decide +kernel
theorem aL_law_626 : mm_at mL_law 626 = some (.invokevirtual 80) := by decide +kernel
theorem aL_law_629 : mm_at mL_law 629 = some (.if_icmp .eq 5) := by decide +kernel
theorem aL_law_632 : mm_at mL_law 632 = some (.iconst 0) := by decide +kernel
theorem aL_law_633 : mm_at mL_law 633 = some (.ireturn) := by decide +kernel
theorem aL_law_634 : mm_at mL_law 634 = some (.iinc 3 4) := by decide +kernel
theorem aL_law_637 : mm_at mL_law 637 = some (.goto (-619)) := by decide +kernel
theorem aL_law_640 : mm_at mL_law 640 = some (.iconst 1) := by decide +kernel
theorem aL_law_641 : mm_at mL_law 641 = some (.ireturn) := by decide +kernel
