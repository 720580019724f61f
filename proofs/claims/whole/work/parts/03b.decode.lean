theorem dX8_ofBar_59 : decode cX8_ofBar 59 = .ok (.iload_n 1, 1) := by decide +kernel
theorem dX8_ofBar_60 : decode cX8_ofBar 60 = .ok (.iaload, 1) := by decide +kernel
theorem dX8_ofBar_61 : decode cX8_ofBar 61 = .ok (.ireturn, 1) := by decide +kernel
theorem dX8_ofBar_62 : decode cX8_ofBar 62 = .ok (.aload_n 0, 1) := by decide +kernel
theorem dX8_ofBar_63 : decode cX8_ofBar 63 = .ok (.getfield 12, 3) := by decide +kernel
theorem dX8_ofBar_66 : decode cX8_ofBar 66 = .ok (.getfield 107, 3) := by decide +kernel
theorem dX8_ofBar_69 : decode cX8_ofBar 69 = .ok (.iload_n 1, 1) := by decide +kernel
theorem dX8_ofBar_70 : decode cX8_ofBar 70 = .ok (.iaload, 1) := by decide +kernel
theorem dX8_ofBar_71 : decode cX8_ofBar 71 = .ok (.ireturn, 1) := by decide +kernel
theorem dX8_ofBar_72 : decode cX8_ofBar 72 = .ok (.aload_n 0, 1) := by decide +kernel
theorem dX8_ofBar_73 : decode cX8_ofBar 73 = .ok (.getfield 12, 3) := by decide +kernel
theorem dX8_ofBar_76 : decode cX8_ofBar 76 = .ok (.iload_n 1, 1) := by decide +kernel
theorem dX8_ofBar_77 : decode cX8_ofBar 77 = .ok (.invokevirtual 110, 3) := by decide +kernel
theorem dX8_ofBar_80 : decode cX8_ofBar 80 = .ok (.ireturn, 1) := by decide +kernel
theorem dX8_ofBar_81 : decode cX8_ofBar 81 = .ok (.aload_n 0, 1) := by decide +kernel
theorem dX8_ofBar_82 : decode cX8_ofBar 82 = .ok (.getfield 19, 3) := by decide +kernel
theorem dX8_ofBar_85 : decode cX8_ofBar 85 = .ok (.getfield 113, 3) := by decide +kernel
theorem dX8_ofBar_88 : decode cX8_ofBar 88 = .ok (.iload_n 1, 1) := by decide +kernel
theorem dX8_ofBar_89 : decode cX8_ofBar 89 = .ok (.iaload, 1) := by decide +kernel
theorem dX8_ofBar_90 : decode cX8_ofBar 90 = .ok (.ireturn, 1) := by decide +kernel
theorem dX8_ofBar_91 : decode cX8_ofBar 91 = .ok (.aload_n 0, 1) := by decide +kernel
theorem dX8_ofBar_92 : decode cX8_ofBar 92 = .ok (.getfield 19, 3) := by decide +kernel
theorem dX8_ofBar_95 : decode cX8_ofBar 95 = .ok (.getfield 116, 3) := by decide +kernel
theorem dX8_ofBar_98 : decode cX8_ofBar 98 = .ok (.iload_n 1, 1) := by decide +kernel
theorem dX8_ofBar_99 : decode cX8_ofBar 99 = .ok (.iaload, 1) := by decide +kernel
theorem dX8_ofBar_100 : decode cX8_ofBar 100 = .ok (.ireturn, 1) := by decide +kernel
theorem dX8_ofBar_101 : decode cX8_ofBar 101 = .ok (.aload_n 0, 1) := by decide +kernel
theorem dX8_ofBar_102 : decode cX8_ofBar 102 = .ok (.getfield 12, 3) := by decide +kernel
theorem dX8_ofBar_105 : decode cX8_ofBar 105 = .ok (.getfield 119, 3) := by decide +kernel
theorem dX8_ofBar_108 : decode cX8_ofBar 108 = .ok (.iload_n 1, 1) := by decide +kernel
theorem dX8_ofBar_109 : decode cX8_ofBar 109 = .ok (.invokevirtual 123, 3) := by decide +kernel
theorem dX8_ofBar_112 : decode cX8_ofBar 112 = .ok (.ifCond .eq 7, 3) := by decide +kernel
theorem dX8_ofBar_115 : decode cX8_ofBar 115 = .ok (.iconst 1, 1) := by decide +kernel
theorem dX8_ofBar_116 : decode cX8_ofBar 116 = .ok (.goto 4, 3) := by decide +kernel
theorem dX8_ofBar_119 : decode cX8_ofBar 119 = .ok (.iconst 0, 1) := by decide +kernel
theorem dX8_ofBar_120 : decode cX8_ofBar 120 = .ok (.ireturn, 1) := by decide +kernel
theorem dX8_ofBar_121 : decode cX8_ofBar 121 = .ok (.bipush (-2), 2) := by decide +kernel
theorem dX8_ofBar_123 : decode cX8_ofBar 123 = .ok (.ireturn, 1) := by decide +kernel
theorem dX8_sung_0 : decode cX8_sung 0 = .ok (.aload_n 0, 1) := by decide +kernel
theorem dX8_sung_1 : decode cX8_sung 1 = .ok (.getfield 19, 3) := by decide +kernel
theorem dX8_sung_4 : decode cX8_sung 4 = .ok (.iload_n 1, 1) := by decide +kernel
theorem dX8_sung_5 : decode cX8_sung 5 = .ok (.invokevirtual 128, 3) := by decide +kernel
theorem dX8_sung_8 : decode cX8_sung 8 = .ok (.ifCond .ne 5, 3) := by decide +kernel
theorem dX8_sung_11 : decode cX8_sung 11 = .ok (.iconst (-1), 1) := by decide +kernel
theorem dX8_sung_12 : decode cX8_sung 12 = .ok (.ireturn, 1) := by decide +kernel
theorem dX8_sung_13 : decode cX8_sung 13 = .ok (.iload_n 2, 1) := by decide +kernel
theorem dX8_sung_14 : decode cX8_sung 14 = .ok (.tableswitch 66 0 2 #[26, 36, 46], 26) := by decide +kernel
theorem dX8_sung_40 : decode cX8_sung 40 = .ok (.aload_n 0, 1) := by decide +kernel
theorem dX8_sung_41 : decode cX8_sung 41 = .ok (.getfield 19, 3) := by decide +kernel
theorem dX8_sung_44 : decode cX8_sung 44 = .ok (.getfield 131, 3) := by decide +kernel
theorem dX8_sung_47 : decode cX8_sung 47 = .ok (.iload_n 1, 1) := by decide +kernel
theorem dX8_sung_48 : decode cX8_sung 48 = .ok (.iaload, 1) := by decide +kernel
theorem dX8_sung_49 : decode cX8_sung 49 = .ok (.ireturn, 1) := by decide +kernel
theorem dX8_sung_50 : decode cX8_sung 50 = .ok (.aload_n 0, 1) := by decide +kernel
theorem dX8_sung_51 : decode cX8_sung 51 = .ok (.getfield 19, 3) := by decide +kernel
theorem dX8_sung_54 : decode cX8_sung 54 = .ok (.getfield 134, 3) := by decide +kernel
theorem dX8_sung_57 : decode cX8_sung 57 = .ok (.iload_n 1, 1) := by decide +kernel
theorem dX8_sung_58 : decode cX8_sung 58 = .ok (.iaload, 1) := by decide +kernel
theorem dX8_sung_59 : decode cX8_sung 59 = .ok (.ireturn, 1) := by decide +kernel
theorem dX8_sung_60 : decode cX8_sung 60 = .ok (.aload_n 0, 1) := by decide +kernel
theorem dX8_sung_61 : decode cX8_sung 61 = .ok (.getfield 12, 3) := by decide +kernel
theorem dX8_sung_64 : decode cX8_sung 64 = .ok (.getfield 137, 3) := by decide +kernel
theorem dX8_sung_67 : decode cX8_sung 67 = .ok (.iload_n 1, 1) := by decide +kernel
theorem dX8_sung_68 : decode cX8_sung 68 = .ok (.invokevirtual 123, 3) := by decide +kernel
theorem dX8_sung_71 : decode cX8_sung 71 = .ok (.ifCond .eq 7, 3) := by decide +kernel
theorem dX8_sung_74 : decode cX8_sung 74 = .ok (.iconst 1, 1) := by decide +kernel
theorem dX8_sung_75 : decode cX8_sung 75 = .ok (.goto 4, 3) := by decide +kernel
theorem dX8_sung_78 : decode cX8_sung 78 = .ok (.iconst 0, 1) := by decide +kernel
theorem dX8_sung_79 : decode cX8_sung 79 = .ok (.ireturn, 1) := by decide +kernel
theorem dX8_sung_80 : decode cX8_sung 80 = .ok (.bipush (-2), 2) := by decide +kernel
theorem dX8_sung_82 : decode cX8_sung 82 = .ok (.ireturn, 1) := by decide +kernel
theorem dX8_ofTitle_0 : decode cX8_ofTitle 0 = .ok (.aload_n 0, 1) := by decide +kernel
theorem dX8_ofTitle_1 : decode cX8_ofTitle 1 = .ok (.getfield 12, 3) := by decide +kernel
theorem dX8_ofTitle_4 : decode cX8_ofTitle 4 = .ok (.getfield 140, 3) := by decide +kernel
theorem dX8_ofTitle_7 : decode cX8_ofTitle 7 = .ok (.iload_n 1, 1) := by decide +kernel
theorem dX8_ofTitle_8 : decode cX8_ofTitle 8 = .ok (.invokevirtual 144, 3) := by decide +kernel
theorem dX8_ofTitle_11 : decode cX8_ofTitle 11 = .ok (.ifCond .ne 5, 3) := by decide +kernel
theorem dX8_ofTitle_14 : decode cX8_ofTitle 14 = .ok (.iconst (-1), 1) := by decide +kernel
theorem dX8_ofTitle_15 : decode cX8_ofTitle 15 = .ok (.ireturn, 1) := by decide +kernel
theorem dX8_ofTitle_16 : decode cX8_ofTitle 16 = .ok (.iload_n 2, 1) := by decide +kernel
theorem dX8_ofTitle_17 : decode cX8_ofTitle 17 = .ok (.tableswitch 131 0 6 #[43, 56, 69, 82, 95, 107, 119], 43) := by decide +kernel
theorem dX8_ofTitle_60 : decode cX8_ofTitle 60 = .ok (.aload_n 0, 1) := by decide +kernel
theorem dX8_ofTitle_61 : decode cX8_ofTitle 61 = .ok (.getfield 12, 3) := by decide +kernel
theorem dX8_ofTitle_64 : decode cX8_ofTitle 64 = .ok (.getfield 140, 3) := by decide +kernel
theorem dX8_ofTitle_67 : decode cX8_ofTitle 67 = .ok (.getfield 149, 3) := by decide +kernel
theorem dX8_ofTitle_70 : decode cX8_ofTitle 70 = .ok (.iload_n 1, 1) := by decide +kernel
theorem dX8_ofTitle_71 : decode cX8_ofTitle 71 = .ok (.iaload, 1) := by decide +kernel
theorem dX8_ofTitle_72 : decode cX8_ofTitle 72 = .ok (.ireturn, 1) := by decide +kernel
theorem dX8_ofTitle_73 : decode cX8_ofTitle 73 = .ok (.aload_n 0, 1) := by decide +kernel
theorem dX8_ofTitle_74 : decode cX8_ofTitle 74 = .ok (.getfield 12, 3) := by decide +kernel
theorem dX8_ofTitle_77 : decode cX8_ofTitle 77 = .ok (.getfield 140, 3) := by decide +kernel
theorem dX8_ofTitle_80 : decode cX8_ofTitle 80 = .ok (.getfield 152, 3) := by decide +kernel
theorem dX8_ofTitle_83 : decode cX8_ofTitle 83 = .ok (.iload_n 1, 1) := by decide +kernel
theorem dX8_ofTitle_84 : decode cX8_ofTitle 84 = .ok (.iaload, 1) := by decide +kernel
theorem dX8_ofTitle_85 : decode cX8_ofTitle 85 = .ok (.ireturn, 1) := by decide +kernel
theorem dX8_ofTitle_86 : decode cX8_ofTitle 86 = .ok (.aload_n 0, 1) := by decide +kernel
theorem dX8_ofTitle_87 : decode cX8_ofTitle 87 = .ok (.getfield 12, 3) := by decide +kernel
theorem dX8_ofTitle_90 : decode cX8_ofTitle 90 = .ok (.getfield 140, 3) := by decide +kernel
theorem dX8_ofTitle_93 : decode cX8_ofTitle 93 = .ok (.getfield 155, 3) := by decide +kernel
theorem dX8_ofTitle_96 : decode cX8_ofTitle 96 = .ok (.iload_n 1, 1) := by decide +kernel
theorem dX8_ofTitle_97 : decode cX8_ofTitle 97 = .ok (.iaload, 1) := by decide +kernel
theorem dX8_ofTitle_98 : decode cX8_ofTitle 98 = .ok (.ireturn, 1) := by decide +kernel
theorem dX8_ofTitle_99 : decode cX8_ofTitle 99 = .ok (.aload_n 0, 1) := by decide +kernel
theorem dX8_ofTitle_100 : decode cX8_ofTitle 100 = .ok (.getfield 12, 3) := by decide +kernel
theorem dX8_ofTitle_103 : decode cX8_ofTitle 103 = .ok (.getfield 140, 3) := by decide +kernel
theorem dX8_ofTitle_106 : decode cX8_ofTitle 106 = .ok (.getfield 158, 3) := by decide +kernel
theorem dX8_ofTitle_109 : decode cX8_ofTitle 109 = .ok (.iload_n 1, 1) := by decide +kernel
theorem dX8_ofTitle_110 : decode cX8_ofTitle 110 = .ok (.iaload, 1) := by decide +kernel
theorem dX8_ofTitle_111 : decode cX8_ofTitle 111 = .ok (.ireturn, 1) := by decide +kernel
theorem dX8_ofTitle_112 : decode cX8_ofTitle 112 = .ok (.aload_n 0, 1) := by decide +kernel
theorem dX8_ofTitle_113 : decode cX8_ofTitle 113 = .ok (.getfield 19, 3) := by decide +kernel
theorem dX8_ofTitle_116 : decode cX8_ofTitle 116 = .ok (.getfield 161, 3) := by decide +kernel
theorem dX8_ofTitle_119 : decode cX8_ofTitle 119 = .ok (.iload_n 1, 1) := by decide +kernel
theorem dX8_ofTitle_120 : decode cX8_ofTitle 120 = .ok (.invokevirtual 165, 3) := by decide +kernel
theorem dX8_ofTitle_123 : decode cX8_ofTitle 123 = .ok (.ireturn, 1) := by decide +kernel
theorem dX8_ofTitle_124 : decode cX8_ofTitle 124 = .ok (.aload_n 0, 1) := by decide +kernel
theorem dX8_ofTitle_125 : decode cX8_ofTitle 125 = .ok (.getfield 19, 3) := by decide +kernel
theorem dX8_ofTitle_128 : decode cX8_ofTitle 128 = .ok (.getfield 161, 3) := by decide +kernel
theorem dX8_ofTitle_131 : decode cX8_ofTitle 131 = .ok (.iload_n 1, 1) := by decide +kernel
theorem dX8_ofTitle_132 : decode cX8_ofTitle 132 = .ok (.invokevirtual 170, 3) := by decide +kernel
theorem dX8_ofTitle_135 : decode cX8_ofTitle 135 = .ok (.ireturn, 1) := by decide +kernel
theorem dX8_ofTitle_136 : decode cX8_ofTitle 136 = .ok (.aload_n 0, 1) := by decide +kernel
theorem dX8_ofTitle_137 : decode cX8_ofTitle 137 = .ok (.getfield 19, 3) := by decide +kernel
theorem dX8_ofTitle_140 : decode cX8_ofTitle 140 = .ok (.getfield 161, 3) := by decide +kernel
theorem dX8_ofTitle_143 : decode cX8_ofTitle 143 = .ok (.iload_n 1, 1) := by decide +kernel
theorem dX8_ofTitle_144 : decode cX8_ofTitle 144 = .ok (.invokevirtual 173, 3) := by decide +kernel
theorem dX8_ofTitle_147 : decode cX8_ofTitle 147 = .ok (.ireturn, 1) := by decide +kernel
theorem dX8_ofTitle_148 : decode cX8_ofTitle 148 = .ok (.bipush (-2), 2) := by decide +kernel
theorem dX8_ofTitle_150 : decode cX8_ofTitle 150 = .ok (.ireturn, 1) := by decide +kernel
theorem dX8_showing_0 : decode cX8_showing 0 = .ok (.aload_n 0, 1) := by decide +kernel
theorem dX8_showing_1 : decode cX8_showing 1 = .ok (.getfield 19, 3) := by decide +kernel
theorem dX8_showing_4 : decode cX8_showing 4 = .ok (.getfield 161, 3) := by decide +kernel
theorem dX8_showing_7 : decode cX8_showing 7 = .ok (.astore_n 3, 1) := by decide +kernel
theorem dX8_showing_8 : decode cX8_showing 8 = .ok (.aload_n 3, 1) := by decide +kernel
theorem dX8_showing_9 : decode cX8_showing 9 = .ok (.iload_n 1, 1) := by decide +kernel
theorem dX8_showing_10 : decode cX8_showing 10 = .ok (.invokevirtual 174, 3) := by decide +kernel
theorem dX8_showing_13 : decode cX8_showing 13 = .ok (.ifCond .ne 5, 3) := by decide +kernel
theorem dX8_showing_16 : decode cX8_showing 16 = .ok (.iconst (-1), 1) := by decide +kernel
theorem dX8_showing_17 : decode cX8_showing 17 = .ok (.ireturn, 1) := by decide +kernel
theorem dX8_showing_18 : decode cX8_showing 18 = .ok (.iload_n 2, 1) := by decide +kernel
theorem dX8_showing_19 : decode cX8_showing 19 = .ok (.tableswitch 126 0 7 #[45, 52, 59, 66, 73, 80, 100, 120], 45) := by decide +kernel
theorem dX8_showing_64 : decode cX8_showing 64 = .ok (.aload_n 3, 1) := by decide +kernel
theorem dX8_showing_65 : decode cX8_showing 65 = .ok (.getfield 175, 3) := by decide +kernel
theorem dX8_showing_68 : decode cX8_showing 68 = .ok (.iload_n 1, 1) := by decide +kernel
theorem dX8_showing_69 : decode cX8_showing 69 = .ok (.iaload, 1) := by decide +kernel
theorem dX8_showing_70 : decode cX8_showing 70 = .ok (.ireturn, 1) := by decide +kernel
theorem dX8_showing_71 : decode cX8_showing 71 = .ok (.aload_n 3, 1) := by decide +kernel
theorem dX8_showing_72 : decode cX8_showing 72 = .ok (.getfield 178, 3) := by decide +kernel
theorem dX8_showing_75 : decode cX8_showing 75 = .ok (.iload_n 1, 1) := by decide +kernel
theorem dX8_showing_76 : decode cX8_showing 76 = .ok (.iaload, 1) := by decide +kernel
theorem dX8_showing_77 : decode cX8_showing 77 = .ok (.ireturn, 1) := by decide +kernel
theorem dX8_showing_78 : decode cX8_showing 78 = .ok (.aload_n 3, 1) := by decide +kernel
theorem dX8_showing_79 : decode cX8_showing 79 = .ok (.getfield 181, 3) := by decide +kernel
theorem dX8_showing_82 : decode cX8_showing 82 = .ok (.iload_n 1, 1) := by decide +kernel
theorem dX8_showing_83 : decode cX8_showing 83 = .ok (.iaload, 1) := by decide +kernel
theorem dX8_showing_84 : decode cX8_showing 84 = .ok (.ireturn, 1) := by decide +kernel
theorem dX8_showing_85 : decode cX8_showing 85 = .ok (.aload_n 3, 1) := by decide +kernel
theorem dX8_showing_86 : decode cX8_showing 86 = .ok (.getfield 184, 3) := by decide +kernel
theorem dX8_showing_89 : decode cX8_showing 89 = .ok (.iload_n 1, 1) := by decide +kernel
theorem dX8_showing_90 : decode cX8_showing 90 = .ok (.iaload, 1) := by decide +kernel
theorem dX8_showing_91 : decode cX8_showing 91 = .ok (.ireturn, 1) := by decide +kernel
theorem dX8_showing_92 : decode cX8_showing 92 = .ok (.aload_n 3, 1) := by decide +kernel
theorem dX8_showing_93 : decode cX8_showing 93 = .ok (.getfield 187, 3) := by decide +kernel
theorem dX8_showing_96 : decode cX8_showing 96 = .ok (.iload_n 1, 1) := by decide +kernel
theorem dX8_showing_97 : decode cX8_showing 97 = .ok (.iaload, 1) := by decide +kernel
theorem dX8_showing_98 : decode cX8_showing 98 = .ok (.ireturn, 1) := by decide +kernel
theorem dX8_showing_99 : decode cX8_showing 99 = .ok (.aload_n 3, 1) := by decide +kernel
theorem dX8_showing_100 : decode cX8_showing 100 = .ok (.iload_n 1, 1) := by decide +kernel
theorem dX8_showing_101 : decode cX8_showing 101 = .ok (.invokevirtual 190, 3) := by decide +kernel
theorem dX8_showing_104 : decode cX8_showing 104 = .ok (.ifCond .eq 12, 3) := by decide +kernel
theorem dX8_showing_107 : decode cX8_showing 107 = .ok (.aload_n 3, 1) := by decide +kernel
theorem dX8_showing_108 : decode cX8_showing 108 = .ok (.getfield 193, 3) := by decide +kernel
theorem dX8_showing_111 : decode cX8_showing 111 = .ok (.iload_n 1, 1) := by decide +kernel
theorem dX8_showing_112 : decode cX8_showing 112 = .ok (.iaload, 1) := by decide +kernel
theorem dX8_showing_113 : decode cX8_showing 113 = .ok (.goto 5, 3) := by decide +kernel
theorem dX8_showing_116 : decode cX8_showing 116 = .ok (.bipush (-6), 2) := by decide +kernel
theorem dX8_showing_118 : decode cX8_showing 118 = .ok (.ireturn, 1) := by decide +kernel
theorem dX8_showing_119 : decode cX8_showing 119 = .ok (.aload_n 3, 1) := by decide +kernel
theorem dX8_showing_120 : decode cX8_showing 120 = .ok (.iload_n 1, 1) := by decide +kernel
theorem dX8_showing_121 : decode cX8_showing 121 = .ok (.invokevirtual 190, 3) := by decide +kernel
theorem dX8_showing_124 : decode cX8_showing 124 = .ok (.ifCond .eq 12, 3) := by decide +kernel
theorem dX8_showing_127 : decode cX8_showing 127 = .ok (.aload_n 3, 1) := by decide +kernel
theorem dX8_showing_128 : decode cX8_showing 128 = .ok (.getfield 196, 3) := by decide +kernel
theorem dX8_showing_131 : decode cX8_showing 131 = .ok (.iload_n 1, 1) := by decide +kernel
theorem dX8_showing_132 : decode cX8_showing 132 = .ok (.iaload, 1) := by decide +kernel
theorem dX8_showing_133 : decode cX8_showing 133 = .ok (.goto 5, 3) := by decide +kernel
theorem dX8_showing_136 : decode cX8_showing 136 = .ok (.bipush (-6), 2) := by decide +kernel
theorem dX8_showing_138 : decode cX8_showing 138 = .ok (.ireturn, 1) := by decide +kernel
theorem dX8_showing_139 : decode cX8_showing 139 = .ok (.aload_n 0, 1) := by decide +kernel
theorem dX8_showing_140 : decode cX8_showing 140 = .ok (.iload_n 1, 1) := by decide +kernel
theorem dX8_showing_141 : decode cX8_showing 141 = .ok (.invokevirtual 199, 3) := by decide +kernel
theorem dX8_showing_144 : decode cX8_showing 144 = .ok (.ireturn, 1) := by decide +kernel
theorem dX8_showing_145 : decode cX8_showing 145 = .ok (.bipush (-2), 2) := by decide +kernel
theorem dX8_showing_147 : decode cX8_showing 147 = .ok (.ireturn, 1) := by decide +kernel
theorem dX8_at_0 : decode cX8_at 0 = .ok (.iload_n 1, 1) := by decide +kernel
theorem dX8_at_1 : decode cX8_at 1 = .ok (.ifCond .ge 6, 3) := by decide +kernel
theorem dX8_at_4 : decode cX8_at 4 = .ok (.bipush (-2), 2) := by decide +kernel
theorem dX8_at_6 : decode cX8_at 6 = .ok (.ireturn, 1) := by decide +kernel
theorem dX8_at_7 : decode cX8_at 7 = .ok (.aload_n 0, 1) := by decide +kernel
theorem dX8_at_8 : decode cX8_at 8 = .ok (.getfield 19, 3) := by decide +kernel
theorem dX8_at_11 : decode cX8_at 11 = .ok (.getfield 161, 3) := by decide +kernel
theorem dX8_at_14 : decode cX8_at 14 = .ok (.iload_n 1, 1) := by decide +kernel
theorem dX8_at_15 : decode cX8_at 15 = .ok (.invokevirtual 202, 3) := by decide +kernel
theorem dX8_at_18 : decode cX8_at 18 = .ok (.ireturn, 1) := by decide +kernel
theorem dX8_count_0 : decode cX8_count 0 = .ok (.iload_n 1, 1) := by decide +kernel
theorem dX8_count_1 : decode cX8_count 1 = .ok (.tableswitch 225 0 14 #[75, 83, 94, 105, 116, 127, 135, 143, 151, 162, 174, 186, 198, 209, 217], 75) := by decide +kernel
theorem dX8_count_76 : decode cX8_count 76 = .ok (.aload_n 0, 1) := by decide +kernel
theorem dX8_count_77 : decode cX8_count 77 = .ok (.getfield 12, 3) := by decide +kernel
theorem dX8_count_80 : decode cX8_count 80 = .ok (.getfield 205, 3) := by decide +kernel
theorem dX8_count_83 : decode cX8_count 83 = .ok (.ireturn, 1) := by decide +kernel
theorem dX8_count_84 : decode cX8_count 84 = .ok (.aload_n 0, 1) := by decide +kernel
theorem dX8_count_85 : decode cX8_count 85 = .ok (.getfield 12, 3) := by decide +kernel
theorem dX8_count_88 : decode cX8_count 88 = .ok (.getfield 209, 3) := by decide +kernel
theorem dX8_count_91 : decode cX8_count 91 = .ok (.getfield 212, 3) := by decide +kernel
theorem dX8_count_94 : decode cX8_count 94 = .ok (.ireturn, 1) := by decide +kernel
theorem dX8_count_95 : decode cX8_count 95 = .ok (.aload_n 0, 1) := by decide +kernel
theorem dX8_count_96 : decode cX8_count 96 = .ok (.getfield 12, 3) := by decide +kernel
theorem dX8_count_99 : decode cX8_count 99 = .ok (.getfield 119, 3) := by decide +kernel
theorem dX8_count_102 : decode cX8_count 102 = .ok (.getfield 212, 3) := by decide +kernel
theorem dX8_count_105 : decode cX8_count 105 = .ok (.ireturn, 1) := by decide +kernel
theorem dX8_count_106 : decode cX8_count 106 = .ok (.aload_n 0, 1) := by decide +kernel
theorem dX8_count_107 : decode cX8_count 107 = .ok (.getfield 12, 3) := by decide +kernel
theorem dX8_count_110 : decode cX8_count 110 = .ok (.getfield 137, 3) := by decide +kernel
theorem dX8_count_113 : decode cX8_count 113 = .ok (.getfield 212, 3) := by decide +kernel
theorem dX8_count_116 : decode cX8_count 116 = .ok (.ireturn, 1) := by decide +kernel
theorem dX8_count_117 : decode cX8_count 117 = .ok (.aload_n 0, 1) := by decide +kernel
theorem dX8_count_118 : decode cX8_count 118 = .ok (.getfield 12, 3) := by decide +kernel
theorem dX8_count_121 : decode cX8_count 121 = .ok (.getfield 140, 3) := by decide +kernel
theorem dX8_count_124 : decode cX8_count 124 = .ok (.getfield 215, 3) := by decide +kernel
theorem dX8_count_127 : decode cX8_count 127 = .ok (.ireturn, 1) := by decide +kernel
theorem dX8_count_128 : decode cX8_count 128 = .ok (.aload_n 0, 1) := by decide +kernel
theorem dX8_count_129 : decode cX8_count 129 = .ok (.getfield 12, 3) := by decide +kernel
theorem dX8_count_132 : decode cX8_count 132 = .ok (.getfield 216, 3) := by decide +kernel
theorem dX8_count_135 : decode cX8_count 135 = .ok (.ireturn, 1) := by decide +kernel
theorem dX8_count_136 : decode cX8_count 136 = .ok (.aload_n 0, 1) := by decide +kernel
theorem dX8_count_137 : decode cX8_count 137 = .ok (.getfield 19, 3) := by decide +kernel
theorem dX8_count_140 : decode cX8_count 140 = .ok (.getfield 219, 3) := by decide +kernel
theorem dX8_count_143 : decode cX8_count 143 = .ok (.ireturn, 1) := by decide +kernel
theorem dX8_count_144 : decode cX8_count 144 = .ok (.aload_n 0, 1) := by decide +kernel
theorem dX8_count_145 : decode cX8_count 145 = .ok (.getfield 19, 3) := by decide +kernel
theorem dX8_count_148 : decode cX8_count 148 = .ok (.getfield 222, 3) := by decide +kernel
theorem dX8_count_151 : decode cX8_count 151 = .ok (.ireturn, 1) := by decide +kernel
theorem dX8_count_152 : decode cX8_count 152 = .ok (.aload_n 0, 1) := by decide +kernel
theorem dX8_count_153 : decode cX8_count 153 = .ok (.getfield 19, 3) := by decide +kernel
theorem dX8_count_156 : decode cX8_count 156 = .ok (.getfield 161, 3) := by decide +kernel
theorem dX8_count_159 : decode cX8_count 159 = .ok (.getfield 224, 3) := by decide +kernel
theorem dX8_count_162 : decode cX8_count 162 = .ok (.ireturn, 1) := by decide +kernel
theorem dX8_count_163 : decode cX8_count 163 = .ok (.aload_n 0, 1) := by decide +kernel
theorem dX8_count_164 : decode cX8_count 164 = .ok (.getfield 19, 3) := by decide +kernel
theorem dX8_count_167 : decode cX8_count 167 = .ok (.getfield 161, 3) := by decide +kernel
theorem dX8_count_170 : decode cX8_count 170 = .ok (.iconst 0, 1) := by decide +kernel
theorem dX8_count_171 : decode cX8_count 171 = .ok (.invokevirtual 225, 3) := by decide +kernel
theorem dX8_count_174 : decode cX8_count 174 = .ok (.ireturn, 1) := by decide +kernel
theorem dX8_count_175 : decode cX8_count 175 = .ok (.aload_n 0, 1) := by decide +kernel
theorem dX8_count_176 : decode cX8_count 176 = .ok (.getfield 19, 3) := by decide +kernel
theorem dX8_count_179 : decode cX8_count 179 = .ok (.getfield 161, 3) := by decide +kernel
theorem dX8_count_182 : decode cX8_count 182 = .ok (.iconst 1, 1) := by decide +kernel
theorem dX8_count_183 : decode cX8_count 183 = .ok (.invokevirtual 225, 3) := by decide +kernel
theorem dX8_count_186 : decode cX8_count 186 = .ok (.ireturn, 1) := by decide +kernel
theorem dX8_count_187 : decode cX8_count 187 = .ok (.aload_n 0, 1) := by decide +kernel
theorem dX8_count_188 : decode cX8_count 188 = .ok (.getfield 19, 3) := by decide +kernel
theorem dX8_count_191 : decode cX8_count 191 = .ok (.getfield 161, 3) := by decide +kernel
theorem dX8_count_194 : decode cX8_count 194 = .ok (.iconst 2, 1) := by decide +kernel
theorem dX8_count_195 : decode cX8_count 195 = .ok (.invokevirtual 225, 3) := by decide +kernel
theorem dX8_count_198 : decode cX8_count 198 = .ok (.ireturn, 1) := by decide +kernel
theorem dX8_count_199 : decode cX8_count 199 = .ok (.aload_n 0, 1) := by decide +kernel
theorem dX8_count_200 : decode cX8_count 200 = .ok (.getfield 19, 3) := by decide +kernel
theorem dX8_count_203 : decode cX8_count 203 = .ok (.getfield 161, 3) := by decide +kernel
theorem dX8_count_206 : decode cX8_count 206 = .ok (.invokevirtual 228, 3) := by decide +kernel
theorem dX8_count_209 : decode cX8_count 209 = .ok (.ireturn, 1) := by decide +kernel
theorem dX8_count_210 : decode cX8_count 210 = .ok (.aload_n 0, 1) := by decide +kernel
theorem dX8_count_211 : decode cX8_count 211 = .ok (.getfield 32, 3) := by decide +kernel
theorem dX8_count_214 : decode cX8_count 214 = .ok (.getfield 232, 3) := by decide +kernel
theorem dX8_count_217 : decode cX8_count 217 = .ok (.ireturn, 1) := by decide +kernel
theorem dX8_count_218 : decode cX8_count 218 = .ok (.aload_n 0, 1) := by decide +kernel
theorem dX8_count_219 : decode cX8_count 219 = .ok (.getfield 46, 3) := by decide +kernel
theorem dX8_count_222 : decode cX8_count 222 = .ok (.getfield 234, 3) := by decide +kernel
theorem dX8_count_225 : decode cX8_count 225 = .ok (.ireturn, 1) := by decide +kernel
theorem dX8_count_226 : decode cX8_count 226 = .ok (.bipush (-2), 2) := by decide +kernel
theorem dX8_count_228 : decode cX8_count 228 = .ok (.ireturn, 1) := by decide +kernel
theorem dX8_cutIf_0 : decode cX8_cutIf 0 = .ok (.aload_n 0, 1) := by decide +kernel
theorem dX8_cutIf_1 : decode cX8_cutIf 1 = .ok (.getfield 12, 3) := by decide +kernel
theorem dX8_cutIf_4 : decode cX8_cutIf 4 = .ok (.iload_n 1, 1) := by decide +kernel
theorem dX8_cutIf_5 : decode cX8_cutIf 5 = .ok (.iload_n 2, 1) := by decide +kernel
theorem dX8_cutIf_6 : decode cX8_cutIf 6 = .ok (.invokevirtual 235, 3) := by decide +kernel
theorem dX8_cutIf_9 : decode cX8_cutIf 9 = .ok (.istore 4, 2) := by decide +kernel
theorem dX8_cutIf_11 : decode cX8_cutIf 11 = .ok (.iload 4, 2) := by decide +kernel
theorem dX8_cutIf_13 : decode cX8_cutIf 13 = .ok (.ifCond .ge 6, 3) := by decide +kernel
theorem dX8_cutIf_16 : decode cX8_cutIf 16 = .ok (.iload 4, 2) := by decide +kernel
theorem dX8_cutIf_18 : decode cX8_cutIf 18 = .ok (.ireturn, 1) := by decide +kernel
theorem dX8_cutIf_19 : decode cX8_cutIf 19 = .ok (.iload_n 3, 1) := by decide +kernel
theorem dX8_cutIf_20 : decode cX8_cutIf 20 = .ok (.ifCond .eq 11, 3) := by decide +kernel
theorem dX8_cutIf_23 : decode cX8_cutIf 23 = .ok (.iload_n 3, 1) := by decide +kernel
theorem dX8_cutIf_24 : decode cX8_cutIf 24 = .ok (.iconst 1, 1) := by decide +kernel
theorem dX8_cutIf_25 : decode cX8_cutIf 25 = .ok (.if_icmp .eq 6, 3) := by decide +kernel
theorem dX8_cutIf_28 : decode cX8_cutIf 28 = .ok (.bipush (-2), 2) := by decide +kernel
theorem dX8_cutIf_30 : decode cX8_cutIf 30 = .ok (.ireturn, 1) := by decide +kernel
theorem dX8_cutIf_31 : decode cX8_cutIf 31 = .ok (.aload_n 0, 1) := by decide +kernel
theorem dX8_cutIf_32 : decode cX8_cutIf 32 = .ok (.getfield 23, 3) := by decide +kernel
theorem dX8_cutIf_35 : decode cX8_cutIf 35 = .ok (.aload_n 0, 1) := by decide +kernel
theorem dX8_cutIf_36 : decode cX8_cutIf 36 = .ok (.getfield 12, 3) := by decide +kernel
theorem dX8_cutIf_39 : decode cX8_cutIf 39 = .ok (.invokevirtual 238, 3) := by decide +kernel
theorem dX8_cutIf_42 : decode cX8_cutIf 42 = .ok (.aload_n 0, 1) := by decide +kernel
theorem dX8_cutIf_43 : decode cX8_cutIf 43 = .ok (.getfield 23, 3) := by decide +kernel
theorem dX8_cutIf_46 : decode cX8_cutIf 46 = .ok (.iload_n 1, 1) := by decide +kernel
theorem dX8_cutIf_47 : decode cX8_cutIf 47 = .ok (.iload_n 2, 1) := by decide +kernel
theorem dX8_cutIf_48 : decode cX8_cutIf 48 = .ok (.invokevirtual 83, 3) := by decide +kernel
theorem dX8_cutIf_51 : decode cX8_cutIf 51 = .ok (.istore 5, 2) := by decide +kernel
theorem dX8_cutIf_53 : decode cX8_cutIf 53 = .ok (.iload 5, 2) := by decide +kernel
theorem dX8_cutIf_55 : decode cX8_cutIf 55 = .ok (.ifCond .ge 6, 3) := by decide +kernel
theorem dX8_cutIf_58 : decode cX8_cutIf 58 = .ok (.iload 5, 2) := by decide +kernel
theorem dX8_cutIf_60 : decode cX8_cutIf 60 = .ok (.ireturn, 1) := by decide +kernel
theorem dX8_cutIf_61 : decode cX8_cutIf 61 = .ok (.aload_n 0, 1) := by decide +kernel
theorem dX8_cutIf_62 : decode cX8_cutIf 62 = .ok (.getfield 26, 3) := by decide +kernel
theorem dX8_cutIf_65 : decode cX8_cutIf 65 = .ok (.aload_n 0, 1) := by decide +kernel
theorem dX8_cutIf_66 : decode cX8_cutIf 66 = .ok (.getfield 23, 3) := by decide +kernel
theorem dX8_cutIf_69 : decode cX8_cutIf 69 = .ok (.invokevirtual 58, 3) := by decide +kernel
theorem dX8_cutIf_72 : decode cX8_cutIf 72 = .ok (.iload_n 3, 1) := by decide +kernel
theorem dX8_cutIf_73 : decode cX8_cutIf 73 = .ok (.ifCond .ne 21, 3) := by decide +kernel
theorem dX8_cutIf_76 : decode cX8_cutIf 76 = .ok (.aload_n 0, 1) := by decide +kernel
theorem dX8_cutIf_77 : decode cX8_cutIf 77 = .ok (.getfield 19, 3) := by decide +kernel
theorem dX8_cutIf_80 : decode cX8_cutIf 80 = .ok (.getfield 222, 3) := by decide +kernel
theorem dX8_cutIf_83 : decode cX8_cutIf 83 = .ok (.aload_n 0, 1) := by decide +kernel
theorem dX8_cutIf_84 : decode cX8_cutIf 84 = .ok (.getfield 26, 3) := by decide +kernel
theorem dX8_cutIf_87 : decode cX8_cutIf 87 = .ok (.getfield 222, 3) := by decide +kernel
theorem dX8_cutIf_90 : decode cX8_cutIf 90 = .ok (.isub, 1) := by decide +kernel
theorem dX8_cutIf_91 : decode cX8_cutIf 91 = .ok (.goto 7, 3) := by decide +kernel
theorem dX8_cutIf_94 : decode cX8_cutIf 94 = .ok (.aload_n 0, 1) := by decide +kernel
theorem dX8_cutIf_95 : decode cX8_cutIf 95 = .ok (.invokevirtual 241, 3) := by decide +kernel
theorem dX8_cutIf_98 : decode cX8_cutIf 98 = .ok (.ireturn, 1) := by decide +kernel
theorem dX8_slowest_0 : decode cX8_slowest 0 = .ok (.iload_n 1, 1) := by decide +kernel
theorem dX8_slowest_1 : decode cX8_slowest 1 = .ok (.ifCond .ge 6, 3) := by decide +kernel
theorem dX8_slowest_4 : decode cX8_slowest 4 = .ok (.bipush (-2), 2) := by decide +kernel
theorem dX8_slowest_6 : decode cX8_slowest 6 = .ok (.ireturn, 1) := by decide +kernel
theorem dX8_slowest_7 : decode cX8_slowest 7 = .ok (.bipush 19, 2) := by decide +kernel
theorem dX8_slowest_9 : decode cX8_slowest 9 = .ok (.istore_n 2, 1) := by decide +kernel
theorem dX8_slowest_10 : decode cX8_slowest 10 = .ok (.sipush 128, 3) := by decide +kernel
theorem dX8_slowest_13 : decode cX8_slowest 13 = .ok (.istore_n 3, 1) := by decide +kernel
theorem dX8_slowest_14 : decode cX8_slowest 14 = .ok (.iload_n 3, 1) := by decide +kernel
theorem dX8_slowest_15 : decode cX8_slowest 15 = .ok (.ifCond .le 41, 3) := by decide +kernel
theorem dX8_slowest_18 : decode cX8_slowest 18 = .ok (.iload_n 2, 1) := by decide +kernel
theorem dX8_slowest_19 : decode cX8_slowest 19 = .ok (.iload_n 3, 1) := by decide +kernel
theorem dX8_slowest_20 : decode cX8_slowest 20 = .ok (.iadd, 1) := by decide +kernel
theorem dX8_slowest_21 : decode cX8_slowest 21 = .ok (.sipush 240, 3) := by decide +kernel
theorem dX8_slowest_24 : decode cX8_slowest 24 = .ok (.if_icmp .gt 25, 3) := by decide +kernel
theorem dX8_slowest_27 : decode cX8_slowest 27 = .ok (.aload_n 0, 1) := by decide +kernel
theorem dX8_slowest_28 : decode cX8_slowest 28 = .ok (.getfield 19, 3) := by decide +kernel
theorem dX8_slowest_31 : decode cX8_slowest 31 = .ok (.aload_n 0, 1) := by decide +kernel
theorem dX8_slowest_32 : decode cX8_slowest 32 = .ok (.getfield 12, 3) := by decide +kernel
theorem dX8_slowest_35 : decode cX8_slowest 35 = .ok (.iload_n 2, 1) := by decide +kernel
theorem dX8_slowest_36 : decode cX8_slowest 36 = .ok (.iload_n 3, 1) := by decide +kernel
theorem dX8_slowest_37 : decode cX8_slowest 37 = .ok (.iadd, 1) := by decide +kernel
theorem dX8_slowest_38 : decode cX8_slowest 38 = .ok (.invokevirtual 244, 3) := by decide +kernel
theorem dX8_slowest_41 : decode cX8_slowest 41 = .ok (.iload_n 1, 1) := by decide +kernel
theorem dX8_slowest_42 : decode cX8_slowest 42 = .ok (.if_icmp .le 7, 3) := by decide +kernel
theorem dX8_slowest_45 : decode cX8_slowest 45 = .ok (.iload_n 2, 1) := by decide +kernel
theorem dX8_slowest_46 : decode cX8_slowest 46 = .ok (.iload_n 3, 1) := by decide +kernel
theorem dX8_slowest_47 : decode cX8_slowest 47 = .ok (.iadd, 1) := by decide +kernel
theorem dX8_slowest_48 : decode cX8_slowest 48 = .ok (.istore_n 2, 1) := by decide +kernel
theorem dX8_slowest_49 : decode cX8_slowest 49 = .ok (.iload_n 3, 1) := by decide +kernel
theorem dX8_slowest_50 : decode cX8_slowest 50 = .ok (.iconst 2, 1) := by decide +kernel
theorem dX8_slowest_51 : decode cX8_slowest 51 = .ok (.idiv, 1) := by decide +kernel
theorem dX8_slowest_52 : decode cX8_slowest 52 = .ok (.istore_n 3, 1) := by decide +kernel
theorem dX8_slowest_53 : decode cX8_slowest 53 = .ok (.goto (-39), 3) := by decide +kernel
theorem dX8_slowest_56 : decode cX8_slowest 56 = .ok (.iload_n 2, 1) := by decide +kernel
theorem dX8_slowest_57 : decode cX8_slowest 57 = .ok (.sipush 240, 3) := by decide +kernel
theorem dX8_slowest_60 : decode cX8_slowest 60 = .ok (.if_icmp .lt 8, 3) := by decide +kernel
theorem dX8_slowest_63 : decode cX8_slowest 63 = .ok (.bipush (-6), 2) := by decide +kernel
theorem dX8_slowest_65 : decode cX8_slowest 65 = .ok (.goto 6, 3) := by decide +kernel
theorem dX8_slowest_68 : decode cX8_slowest 68 = .ok (.iload_n 2, 1) := by decide +kernel
theorem dX8_slowest_69 : decode cX8_slowest 69 = .ok (.iconst 1, 1) := by decide +kernel
theorem dX8_slowest_70 : decode cX8_slowest 70 = .ok (.iadd, 1) := by decide +kernel
theorem dX8_slowest_71 : decode cX8_slowest 71 = .ok (.ireturn, 1) := by decide +kernel
theorem dX8_put_0 : decode cX8_put 0 = .ok (.aload_n 0, 1) := by decide +kernel
theorem dX8_put_1 : decode cX8_put 1 = .ok (.getfield 32, 3) := by decide +kernel
theorem dX8_put_4 : decode cX8_put 4 = .ok (.lload_n 1, 1) := by decide +kernel
theorem dX8_put_5 : decode cX8_put 5 = .ok (.invokevirtual 248, 3) := by decide +kernel
theorem dX8_put_8 : decode cX8_put 8 = .ok (.ireturn, 1) := by decide +kernel
theorem dX8_wipe_0 : decode cX8_wipe 0 = .ok (.aload_n 0, 1) := by decide +kernel
theorem dX8_wipe_1 : decode cX8_wipe 1 = .ok (.getfield 32, 3) := by decide +kernel
theorem dX8_wipe_4 : decode cX8_wipe 4 = .ok (.getfield 232, 3) := by decide +kernel
theorem dX8_wipe_7 : decode cX8_wipe 7 = .ok (.istore_n 1, 1) := by decide +kernel
theorem dX8_wipe_8 : decode cX8_wipe 8 = .ok (.aload_n 0, 1) := by decide +kernel
theorem dX8_wipe_9 : decode cX8_wipe 9 = .ok (.getfield 32, 3) := by decide +kernel
theorem dX8_wipe_12 : decode cX8_wipe 12 = .ok (.iconst 0, 1) := by decide +kernel
theorem dX8_wipe_13 : decode cX8_wipe 13 = .ok (.putfield 232, 3) := by decide +kernel
theorem dX8_wipe_16 : decode cX8_wipe 16 = .ok (.iload_n 1, 1) := by decide +kernel
theorem dX8_wipe_17 : decode cX8_wipe 17 = .ok (.ireturn, 1) := by decide +kernel
theorem dX8_fault_0 : decode cX8_fault 0 = .ok (.aload_n 0, 1) := by decide +kernel
theorem dX8_fault_1 : decode cX8_fault 1 = .ok (.getfield 39, 3) := by decide +kernel
theorem dX8_fault_4 : decode cX8_fault 4 = .ok (.aload_n 0, 1) := by decide +kernel
theorem dX8_fault_5 : decode cX8_fault 5 = .ok (.getfield 32, 3) := by decide +kernel
theorem dX8_fault_8 : decode cX8_fault 8 = .ok (.invokevirtual 252, 3) := by decide +kernel
theorem dX8_fault_11 : decode cX8_fault 11 = .ok (.ireturn, 1) := by decide +kernel
theorem dX8_carryOut_0 : decode cX8_carryOut 0 = .ok (.aload_n 0, 1) := by decide +kernel
theorem dX8_carryOut_1 : decode cX8_carryOut 1 = .ok (.getfield 39, 3) := by decide +kernel
theorem dX8_carryOut_4 : decode cX8_carryOut 4 = .ok (.aload_n 0, 1) := by decide +kernel
theorem dX8_carryOut_5 : decode cX8_carryOut 5 = .ok (.getfield 32, 3) := by decide +kernel
theorem dX8_carryOut_8 : decode cX8_carryOut 8 = .ok (.invokevirtual 252, 3) := by decide +kernel
theorem dX8_carryOut_11 : decode cX8_carryOut 11 = .ok (.bipush (-6), 2) := by decide +kernel
theorem dX8_carryOut_13 : decode cX8_carryOut 13 = .ok (.if_icmp .eq 6, 3) := by decide +kernel
theorem dX8_carryOut_16 : decode cX8_carryOut 16 = .ok (.bipush (-3), 2) := by decide +kernel
theorem dX8_carryOut_18 : decode cX8_carryOut 18 = .ok (.ireturn, 1) := by decide +kernel
theorem dX8_carryOut_19 : decode cX8_carryOut 19 = .ok (.aload_n 0, 1) := by decide +kernel
theorem dX8_carryOut_20 : decode cX8_carryOut 20 = .ok (.getfield 46, 3) := by decide +kernel
theorem dX8_carryOut_23 : decode cX8_carryOut 23 = .ok (.aload_n 0, 1) := by decide +kernel
theorem dX8_carryOut_24 : decode cX8_carryOut 24 = .ok (.getfield 12, 3) := by decide +kernel
theorem dX8_carryOut_27 : decode cX8_carryOut 27 = .ok (.invokevirtual 62, 3) := by decide +kernel
theorem dX8_carryOut_30 : decode cX8_carryOut 30 = .ok (.aload_n 0, 1) := by decide +kernel
theorem dX8_carryOut_31 : decode cX8_carryOut 31 = .ok (.invokevirtual 256, 3) := by decide +kernel
theorem dX8_carryOut_34 : decode cX8_carryOut 34 = .ok (.istore_n 1, 1) := by decide +kernel
theorem dX8_carryOut_35 : decode cX8_carryOut 35 = .ok (.aload_n 0, 1) := by decide +kernel
theorem dX8_carryOut_36 : decode cX8_carryOut 36 = .ok (.getfield 32, 3) := by decide +kernel
theorem dX8_carryOut_39 : decode cX8_carryOut 39 = .ok (.iconst 0, 1) := by decide +kernel
theorem dX8_carryOut_40 : decode cX8_carryOut 40 = .ok (.putfield 232, 3) := by decide +kernel
theorem dX8_carryOut_43 : decode cX8_carryOut 43 = .ok (.aload_n 0, 1) := by decide +kernel
theorem dX8_carryOut_44 : decode cX8_carryOut 44 = .ok (.iload_n 1, 1) := by decide +kernel
theorem dX8_carryOut_45 : decode cX8_carryOut 45 = .ok (.invokevirtual 69, 3) := by decide +kernel
theorem dX8_carryOut_48 : decode cX8_carryOut 48 = .ok (.ireturn, 1) := by decide +kernel
theorem dX8_undo_0 : decode cX8_undo 0 = .ok (.aload_n 0, 1) := by decide +kernel
theorem dX8_undo_1 : decode cX8_undo 1 = .ok (.getfield 46, 3) := by decide +kernel
theorem dX8_undo_4 : decode cX8_undo 4 = .ok (.invokevirtual 259, 3) := by decide +kernel
theorem dX8_undo_7 : decode cX8_undo 7 = .ok (.astore_n 1, 1) := by decide +kernel
theorem dX8_undo_8 : decode cX8_undo 8 = .ok (.aload_n 1, 1) := by decide +kernel
theorem dX8_undo_9 : decode cX8_undo 9 = .ok (.ifnonnull 6, 3) := by decide +kernel
theorem dX8_undo_12 : decode cX8_undo 12 = .ok (.bipush (-5), 2) := by decide +kernel
theorem dX8_undo_14 : decode cX8_undo 14 = .ok (.ireturn, 1) := by decide +kernel
theorem dX8_undo_15 : decode cX8_undo 15 = .ok (.aload_n 0, 1) := by decide +kernel
theorem dX8_undo_16 : decode cX8_undo 16 = .ok (.getfield 12, 3) := by decide +kernel
theorem dX8_undo_19 : decode cX8_undo 19 = .ok (.aload_n 1, 1) := by decide +kernel
theorem dX8_undo_20 : decode cX8_undo 20 = .ok (.invokevirtual 238, 3) := by decide +kernel
theorem dX8_undo_23 : decode cX8_undo 23 = .ok (.aload_n 0, 1) := by decide +kernel
theorem dX8_undo_24 : decode cX8_undo 24 = .ok (.getfield 19, 3) := by decide +kernel
theorem dX8_undo_27 : decode cX8_undo 27 = .ok (.aload_n 0, 1) := by decide +kernel
theorem dX8_undo_28 : decode cX8_undo 28 = .ok (.getfield 12, 3) := by decide +kernel
theorem dX8_undo_31 : decode cX8_undo 31 = .ok (.invokevirtual 58, 3) := by decide +kernel
theorem dX8_undo_34 : decode cX8_undo 34 = .ok (.aload_n 0, 1) := by decide +kernel
theorem dX8_undo_35 : decode cX8_undo 35 = .ok (.getfield 46, 3) := by decide +kernel
theorem dX8_undo_38 : decode cX8_undo 38 = .ok (.getfield 234, 3) := by decide +kernel
theorem dX8_undo_41 : decode cX8_undo 41 = .ok (.ireturn, 1) := by decide +kernel
theorem dX8_save_0 : decode cX8_save 0 = .ok (.aload_n 0, 1) := by decide +kernel
theorem dX8_save_1 : decode cX8_save 1 = .ok (.iload_n 1, 1) := by decide +kernel
theorem dX8_save_2 : decode cX8_save 2 = .ok (.invokevirtual 263, 3) := by decide +kernel
theorem dX8_save_5 : decode cX8_save 5 = .ok (.astore_n 2, 1) := by decide +kernel
theorem dX8_save_6 : decode cX8_save 6 = .ok (.aload_n 2, 1) := by decide +kernel
theorem dX8_save_7 : decode cX8_save 7 = .ok (.ifnonnull 6, 3) := by decide +kernel
theorem dX8_save_10 : decode cX8_save 10 = .ok (.bipush (-2), 2) := by decide +kernel
theorem dX8_save_12 : decode cX8_save 12 = .ok (.ireturn, 1) := by decide +kernel
theorem dX8_save_13 : decode cX8_save 13 = .ok (.aload_n 2, 1) := by decide +kernel
theorem dX8_save_14 : decode cX8_save 14 = .ok (.aload_n 0, 1) := by decide +kernel
theorem dX8_save_15 : decode cX8_save 15 = .ok (.getfield 12, 3) := by decide +kernel
theorem dX8_save_18 : decode cX8_save 18 = .ok (.invokevirtual 238, 3) := by decide +kernel
theorem dX8_save_21 : decode cX8_save 21 = .ok (.aload_n 0, 1) := by decide +kernel
theorem dX8_save_22 : decode cX8_save 22 = .ok (.getfield 54, 3) := by decide +kernel
theorem dX8_save_25 : decode cX8_save 25 = .ok (.iload_n 1, 1) := by decide +kernel
theorem dX8_save_26 : decode cX8_save 26 = .ok (.iconst 1, 1) := by decide +kernel
theorem dX8_save_27 : decode cX8_save 27 = .ok (.bastore, 1) := by decide +kernel
theorem dX8_save_28 : decode cX8_save 28 = .ok (.aload_n 0, 1) := by decide +kernel
theorem dX8_save_29 : decode cX8_save 29 = .ok (.getfield 12, 3) := by decide +kernel
theorem dX8_save_32 : decode cX8_save 32 = .ok (.getfield 140, 3) := by decide +kernel
theorem dX8_save_35 : decode cX8_save 35 = .ok (.getfield 215, 3) := by decide +kernel
theorem dX8_save_38 : decode cX8_save 38 = .ok (.ireturn, 1) := by decide +kernel
theorem dX8_restore_0 : decode cX8_restore 0 = .ok (.aload_n 0, 1) := by decide +kernel
theorem dX8_restore_1 : decode cX8_restore 1 = .ok (.iload_n 1, 1) := by decide +kernel
theorem dX8_restore_2 : decode cX8_restore 2 = .ok (.invokevirtual 263, 3) := by decide +kernel
theorem dX8_restore_5 : decode cX8_restore 5 = .ok (.astore_n 2, 1) := by decide +kernel
theorem dX8_restore_6 : decode cX8_restore 6 = .ok (.aload_n 2, 1) := by decide +kernel
theorem dX8_restore_7 : decode cX8_restore 7 = .ok (.ifnonnull 6, 3) := by decide +kernel
theorem dX8_restore_10 : decode cX8_restore 10 = .ok (.bipush (-2), 2) := by decide +kernel
theorem dX8_restore_12 : decode cX8_restore 12 = .ok (.ireturn, 1) := by decide +kernel
theorem dX8_restore_13 : decode cX8_restore 13 = .ok (.aload_n 0, 1) := by decide +kernel
theorem dX8_restore_14 : decode cX8_restore 14 = .ok (.getfield 54, 3) := by decide +kernel
theorem dX8_restore_17 : decode cX8_restore 17 = .ok (.iload_n 1, 1) := by decide +kernel
theorem dX8_restore_18 : decode cX8_restore 18 = .ok (.baload, 1) := by decide +kernel
theorem dX8_restore_19 : decode cX8_restore 19 = .ok (.ifCond .ne 6, 3) := by decide +kernel
theorem dX8_restore_22 : decode cX8_restore 22 = .ok (.bipush (-5), 2) := by decide +kernel
theorem dX8_restore_24 : decode cX8_restore 24 = .ok (.ireturn, 1) := by decide +kernel
theorem dX8_restore_25 : decode cX8_restore 25 = .ok (.aload_n 0, 1) := by decide +kernel
theorem dX8_restore_26 : decode cX8_restore 26 = .ok (.getfield 46, 3) := by decide +kernel
theorem dX8_restore_29 : decode cX8_restore 29 = .ok (.aload_n 0, 1) := by decide +kernel
theorem dX8_restore_30 : decode cX8_restore 30 = .ok (.getfield 12, 3) := by decide +kernel
theorem dX8_restore_33 : decode cX8_restore 33 = .ok (.invokevirtual 62, 3) := by decide +kernel
theorem dX8_restore_36 : decode cX8_restore 36 = .ok (.aload_n 0, 1) := by decide +kernel
theorem dX8_restore_37 : decode cX8_restore 37 = .ok (.getfield 12, 3) := by decide +kernel
theorem dX8_restore_40 : decode cX8_restore 40 = .ok (.aload_n 2, 1) := by decide +kernel
theorem dX8_restore_41 : decode cX8_restore 41 = .ok (.invokevirtual 238, 3) := by decide +kernel
theorem dX8_restore_44 : decode cX8_restore 44 = .ok (.aload_n 0, 1) := by decide +kernel
theorem dX8_restore_45 : decode cX8_restore 45 = .ok (.aload_n 0, 1) := by decide +kernel
theorem dX8_restore_46 : decode cX8_restore 46 = .ok (.getfield 12, 3) := by decide +kernel
theorem dX8_restore_49 : decode cX8_restore 49 = .ok (.getfield 140, 3) := by decide +kernel
theorem dX8_restore_52 : decode cX8_restore 52 = .ok (.getfield 215, 3) := by decide +kernel
theorem dX8_restore_55 : decode cX8_restore 55 = .ok (.invokevirtual 69, 3) := by decide +kernel
theorem dX8_restore_58 : decode cX8_restore 58 = .ok (.ireturn, 1) := by decide +kernel
theorem dX8_settle_0 : decode cX8_settle 0 = .ok (.iload_n 1, 1) := by decide +kernel
theorem dX8_settle_1 : decode cX8_settle 1 = .ok (.ifCond .lt 21, 3) := by decide +kernel
theorem dX8_settle_4 : decode cX8_settle 4 = .ok (.aload_n 0, 1) := by decide +kernel
theorem dX8_settle_5 : decode cX8_settle 5 = .ok (.getfield 46, 3) := by decide +kernel
theorem dX8_settle_8 : decode cX8_settle 8 = .ok (.invokevirtual 267, 3) := by decide +kernel
theorem dX8_settle_11 : decode cX8_settle 11 = .ok (.aload_n 0, 1) := by decide +kernel
theorem dX8_settle_12 : decode cX8_settle 12 = .ok (.getfield 19, 3) := by decide +kernel
theorem dX8_settle_15 : decode cX8_settle 15 = .ok (.aload_n 0, 1) := by decide +kernel
theorem dX8_settle_16 : decode cX8_settle 16 = .ok (.getfield 12, 3) := by decide +kernel
theorem dX8_settle_19 : decode cX8_settle 19 = .ok (.invokevirtual 58, 3) := by decide +kernel
theorem dX8_settle_22 : decode cX8_settle 22 = .ok (.iload_n 1, 1) := by decide +kernel
theorem dX8_settle_23 : decode cX8_settle 23 = .ok (.ireturn, 1) := by decide +kernel
theorem dX8_slotAt_0 : decode cX8_slotAt 0 = .ok (.iload_n 1, 1) := by decide +kernel
theorem dX8_slotAt_1 : decode cX8_slotAt 1 = .ok (.ifCond .lt 17, 3) := by decide +kernel
theorem dX8_slotAt_4 : decode cX8_slotAt 4 = .ok (.iload_n 1, 1) := by decide +kernel
theorem dX8_slotAt_5 : decode cX8_slotAt 5 = .ok (.iconst 2, 1) := by decide +kernel
theorem dX8_slotAt_6 : decode cX8_slotAt 6 = .ok (.if_icmp .ge 12, 3) := by decide +kernel
theorem dX8_slotAt_9 : decode cX8_slotAt 9 = .ok (.aload_n 0, 1) := by decide +kernel
theorem dX8_slotAt_10 : decode cX8_slotAt 10 = .ok (.getfield 50, 3) := by decide +kernel
theorem dX8_slotAt_13 : decode cX8_slotAt 13 = .ok (.iload_n 1, 1) := by decide +kernel
theorem dX8_slotAt_14 : decode cX8_slotAt 14 = .ok (.aaload, 1) := by decide +kernel
theorem dX8_slotAt_15 : decode cX8_slotAt 15 = .ok (.goto 4, 3) := by decide +kernel
theorem dX8_slotAt_18 : decode cX8_slotAt 18 = .ok (.aconst_null, 1) := by decide +kernel
theorem dX8_slotAt_19 : decode cX8_slotAt 19 = .ok (.areturn, 1) := by decide +kernel
theorem dX8_readingPace_0 : decode cX8_readingPace 0 = .ok (.aload_n 0, 1) := by decide +kernel
theorem dX8_readingPace_1 : decode cX8_readingPace 1 = .ok (.getfield 19, 3) := by decide +kernel
theorem dX8_readingPace_4 : decode cX8_readingPace 4 = .ok (.getfield 161, 3) := by decide +kernel
theorem dX8_readingPace_7 : decode cX8_readingPace 7 = .ok (.astore_n 2, 1) := by decide +kernel
theorem dX8_readingPace_8 : decode cX8_readingPace 8 = .ok (.aload_n 2, 1) := by decide +kernel
theorem dX8_readingPace_9 : decode cX8_readingPace 9 = .ok (.iload_n 1, 1) := by decide +kernel
theorem dX8_readingPace_10 : decode cX8_readingPace 10 = .ok (.invokevirtual 190, 3) := by decide +kernel
theorem dX8_readingPace_13 : decode cX8_readingPace 13 = .ok (.ifCond .ne 6, 3) := by decide +kernel
theorem dX8_readingPace_16 : decode cX8_readingPace 16 = .ok (.bipush (-6), 2) := by decide +kernel
theorem dX8_readingPace_18 : decode cX8_readingPace 18 = .ok (.ireturn, 1) := by decide +kernel
theorem dX8_readingPace_19 : decode cX8_readingPace 19 = .ok (.aload_n 2, 1) := by decide +kernel
theorem dX8_readingPace_20 : decode cX8_readingPace 20 = .ok (.getfield 196, 3) := by decide +kernel
theorem dX8_readingPace_23 : decode cX8_readingPace 23 = .ok (.iload_n 1, 1) := by decide +kernel
theorem dX8_readingPace_24 : decode cX8_readingPace 24 = .ok (.iaload, 1) := by decide +kernel
theorem dX8_readingPace_25 : decode cX8_readingPace 25 = .ok (.aload_n 2, 1) := by decide +kernel
theorem dX8_readingPace_26 : decode cX8_readingPace 26 = .ok (.getfield 193, 3) := by decide +kernel
theorem dX8_readingPace_29 : decode cX8_readingPace 29 = .ok (.iload_n 1, 1) := by decide +kernel
theorem dX8_readingPace_30 : decode cX8_readingPace 30 = .ok (.iaload, 1) := by decide +kernel
theorem dX8_readingPace_31 : decode cX8_readingPace 31 = .ok (.isub, 1) := by decide +kernel
theorem dX8_readingPace_32 : decode cX8_readingPace 32 = .ok (.istore_n 3, 1) := by decide +kernel
theorem dX8_readingPace_33 : decode cX8_readingPace 33 = .ok (.iload_n 3, 1) := by decide +kernel
theorem dX8_readingPace_34 : decode cX8_readingPace 34 = .ok (.ifCond .gt 7, 3) := by decide +kernel
theorem dX8_readingPace_37 : decode cX8_readingPace 37 = .ok (.sipush 999, 3) := by decide +kernel
theorem dX8_readingPace_40 : decode cX8_readingPace 40 = .ok (.ireturn, 1) := by decide +kernel
theorem dX8_readingPace_41 : decode cX8_readingPace 41 = .ok (.aload_n 0, 1) := by decide +kernel
theorem dX8_readingPace_42 : decode cX8_readingPace 42 = .ok (.getfield 12, 3) := by decide +kernel
theorem dX8_readingPace_45 : decode cX8_readingPace 45 = .ok (.getfield 140, 3) := by decide +kernel
theorem dX8_readingPace_48 : decode cX8_readingPace 48 = .ok (.getfield 158, 3) := by decide +kernel
theorem dX8_readingPace_51 : decode cX8_readingPace 51 = .ok (.aload_n 2, 1) := by decide +kernel
theorem dX8_readingPace_52 : decode cX8_readingPace 52 = .ok (.getfield 175, 3) := by decide +kernel
theorem dX8_readingPace_55 : decode cX8_readingPace 55 = .ok (.iload_n 1, 1) := by decide +kernel
theorem dX8_readingPace_56 : decode cX8_readingPace 56 = .ok (.iaload, 1) := by decide +kernel
theorem dX8_readingPace_57 : decode cX8_readingPace 57 = .ok (.iaload, 1) := by decide +kernel
theorem dX8_readingPace_58 : decode cX8_readingPace 58 = .ok (.bipush 10, 2) := by decide +kernel
theorem dX8_readingPace_60 : decode cX8_readingPace 60 = .ok (.imul, 1) := by decide +kernel
theorem dX8_readingPace_61 : decode cX8_readingPace 61 = .ok (.iload_n 3, 1) := by decide +kernel
theorem dX8_readingPace_62 : decode cX8_readingPace 62 = .ok (.idiv, 1) := by decide +kernel
theorem dX8_readingPace_63 : decode cX8_readingPace 63 = .ok (.ireturn, 1) := by decide +kernel
theorem dX8_titlesLost_0 : decode cX8_titlesLost 0 = .ok (.iconst 0, 1) := by decide +kernel
theorem dX8_titlesLost_1 : decode cX8_titlesLost 1 = .ok (.istore_n 1, 1) := by decide +kernel
theorem dX8_titlesLost_2 : decode cX8_titlesLost 2 = .ok (.iconst 0, 1) := by decide +kernel
theorem dX8_titlesLost_3 : decode cX8_titlesLost 3 = .ok (.istore_n 2, 1) := by decide +kernel
theorem dX8_titlesLost_4 : decode cX8_titlesLost 4 = .ok (.iload_n 2, 1) := by decide +kernel
theorem dX8_titlesLost_5 : decode cX8_titlesLost 5 = .ok (.aload_n 0, 1) := by decide +kernel
theorem dX8_titlesLost_6 : decode cX8_titlesLost 6 = .ok (.getfield 12, 3) := by decide +kernel
theorem dX8_titlesLost_9 : decode cX8_titlesLost 9 = .ok (.getfield 140, 3) := by decide +kernel
theorem dX8_titlesLost_12 : decode cX8_titlesLost 12 = .ok (.getfield 215, 3) := by decide +kernel
theorem dX8_titlesLost_15 : decode cX8_titlesLost 15 = .ok (.if_icmp .ge 43, 3) := by decide +kernel
theorem dX8_titlesLost_18 : decode cX8_titlesLost 18 = .ok (.aload_n 0, 1) := by decide +kernel
theorem dX8_titlesLost_19 : decode cX8_titlesLost 19 = .ok (.getfield 19, 3) := by decide +kernel
theorem dX8_titlesLost_22 : decode cX8_titlesLost 22 = .ok (.getfield 161, 3) := by decide +kernel
theorem dX8_titlesLost_25 : decode cX8_titlesLost 25 = .ok (.iload_n 2, 1) := by decide +kernel
theorem dX8_titlesLost_26 : decode cX8_titlesLost 26 = .ok (.invokevirtual 170, 3) := by decide +kernel
theorem dX8_titlesLost_29 : decode cX8_titlesLost 29 = .ok (.ifCond .le 23, 3) := by decide +kernel
theorem dX8_titlesLost_32 : decode cX8_titlesLost 32 = .ok (.aload_n 0, 1) := by decide +kernel
theorem dX8_titlesLost_33 : decode cX8_titlesLost 33 = .ok (.getfield 26, 3) := by decide +kernel
theorem dX8_titlesLost_36 : decode cX8_titlesLost 36 = .ok (.getfield 161, 3) := by decide +kernel
theorem dX8_titlesLost_39 : decode cX8_titlesLost 39 = .ok (.iload_n 2, 1) := by decide +kernel
theorem dX8_titlesLost_40 : decode cX8_titlesLost 40 = .ok (.invokevirtual 170, 3) := by decide +kernel
theorem dX8_titlesLost_43 : decode cX8_titlesLost 43 = .ok (.ifCond .ne 9, 3) := by decide +kernel
theorem dX8_titlesLost_46 : decode cX8_titlesLost 46 = .ok (.iload_n 1, 1) := by decide +kernel
theorem dX8_titlesLost_47 : decode cX8_titlesLost 47 = .ok (.iconst 1, 1) := by decide +kernel
theorem dX8_titlesLost_48 : decode cX8_titlesLost 48 = .ok (.iload_n 2, 1) := by decide +kernel
theorem dX8_titlesLost_49 : decode cX8_titlesLost 49 = .ok (.ishl, 1) := by decide +kernel
theorem dX8_titlesLost_50 : decode cX8_titlesLost 50 = .ok (.ior, 1) := by decide +kernel
theorem dX8_titlesLost_51 : decode cX8_titlesLost 51 = .ok (.istore_n 1, 1) := by decide +kernel
theorem dX8_titlesLost_52 : decode cX8_titlesLost 52 = .ok (.iinc 2 1, 3) := by decide +kernel
theorem dX8_titlesLost_55 : decode cX8_titlesLost 55 = .ok (.goto (-51), 3) := by decide +kernel
theorem dX8_titlesLost_58 : decode cX8_titlesLost 58 = .ok (.iload_n 1, 1) := by decide +kernel
theorem dX8_titlesLost_59 : decode cX8_titlesLost 59 = .ok (.ireturn, 1) := by decide +kernel
theorem dX8_carryOutOrders_0 : decode cX8_carryOutOrders 0 = .ok (.iconst 0, 1) := by decide +kernel
theorem dX8_carryOutOrders_1 : decode cX8_carryOutOrders 1 = .ok (.istore_n 1, 1) := by decide +kernel
theorem dX8_carryOutOrders_2 : decode cX8_carryOutOrders 2 = .ok (.aload_n 0, 1) := by decide +kernel
theorem dX8_carryOutOrders_3 : decode cX8_carryOutOrders 3 = .ok (.getfield 39, 3) := by decide +kernel
theorem dX8_carryOutOrders_6 : decode cX8_carryOutOrders 6 = .ok (.invokevirtual 270, 3) := by decide +kernel
theorem dX8_carryOutOrders_9 : decode cX8_carryOutOrders 9 = .ok (.iconst 0, 1) := by decide +kernel
theorem dX8_carryOutOrders_10 : decode cX8_carryOutOrders 10 = .ok (.istore_n 2, 1) := by decide +kernel
theorem dX8_carryOutOrders_11 : decode cX8_carryOutOrders 11 = .ok (.iload_n 2, 1) := by decide +kernel
theorem dX8_carryOutOrders_12 : decode cX8_carryOutOrders 12 = .ok (.aload_n 0, 1) := by decide +kernel
theorem dX8_carryOutOrders_13 : decode cX8_carryOutOrders 13 = .ok (.getfield 32, 3) := by decide +kernel
theorem dX8_carryOutOrders_16 : decode cX8_carryOutOrders 16 = .ok (.getfield 232, 3) := by decide +kernel
theorem dX8_carryOutOrders_19 : decode cX8_carryOutOrders 19 = .ok (.if_icmp .gt 62, 3) := by decide +kernel
theorem dX8_carryOutOrders_22 : decode cX8_carryOutOrders 22 = .ok (.iload_n 2, 1) := by decide +kernel
theorem dX8_carryOutOrders_23 : decode cX8_carryOutOrders 23 = .ok (.aload_n 0, 1) := by decide +kernel
theorem dX8_carryOutOrders_24 : decode cX8_carryOutOrders 24 = .ok (.getfield 32, 3) := by decide +kernel
theorem dX8_carryOutOrders_27 : decode cX8_carryOutOrders 27 = .ok (.getfield 232, 3) := by decide +kernel
theorem dX8_carryOutOrders_30 : decode cX8_carryOutOrders 30 = .ok (.if_icmp .ge 15, 3) := by decide +kernel
theorem dX8_carryOutOrders_33 : decode cX8_carryOutOrders 33 = .ok (.aload_n 0, 1) := by decide +kernel
theorem dX8_carryOutOrders_34 : decode cX8_carryOutOrders 34 = .ok (.getfield 32, 3) := by decide +kernel
theorem dX8_carryOutOrders_37 : decode cX8_carryOutOrders 37 = .ok (.getfield 273, 3) := by decide +kernel
theorem dX8_carryOutOrders_40 : decode cX8_carryOutOrders 40 = .ok (.iload_n 2, 1) := by decide +kernel
theorem dX8_carryOutOrders_41 : decode cX8_carryOutOrders 41 = .ok (.iaload, 1) := by decide +kernel
theorem dX8_carryOutOrders_42 : decode cX8_carryOutOrders 42 = .ok (.goto 5, 3) := by decide +kernel
theorem dX8_carryOutOrders_45 : decode cX8_carryOutOrders 45 = .ok (.bipush 59, 2) := by decide +kernel
theorem dX8_carryOutOrders_47 : decode cX8_carryOutOrders 47 = .ok (.istore_n 3, 1) := by decide +kernel
theorem dX8_carryOutOrders_48 : decode cX8_carryOutOrders 48 = .ok (.iload_n 3, 1) := by decide +kernel
theorem dX8_carryOutOrders_49 : decode cX8_carryOutOrders 49 = .ok (.bipush 59, 2) := by decide +kernel
theorem dX8_carryOutOrders_51 : decode cX8_carryOutOrders 51 = .ok (.if_icmp .ne 15, 3) := by decide +kernel
theorem dX8_carryOutOrders_54 : decode cX8_carryOutOrders 54 = .ok (.aload_n 0, 1) := by decide +kernel
theorem dX8_carryOutOrders_55 : decode cX8_carryOutOrders 55 = .ok (.invokevirtual 276, 3) := by decide +kernel
theorem dX8_carryOutOrders_58 : decode cX8_carryOutOrders 58 = .ok (.ifCond .ge 5, 3) := by decide +kernel
theorem dX8_carryOutOrders_61 : decode cX8_carryOutOrders 61 = .ok (.iload_n 1, 1) := by decide +kernel
theorem dX8_carryOutOrders_62 : decode cX8_carryOutOrders 62 = .ok (.ireturn, 1) := by decide +kernel
theorem dX8_carryOutOrders_63 : decode cX8_carryOutOrders 63 = .ok (.iinc 1 1, 3) := by decide +kernel
theorem dX8_carryOutOrders_66 : decode cX8_carryOutOrders 66 = .ok (.aload_n 0, 1) := by decide +kernel
theorem dX8_carryOutOrders_67 : decode cX8_carryOutOrders 67 = .ok (.getfield 39, 3) := by decide +kernel
theorem dX8_carryOutOrders_70 : decode cX8_carryOutOrders 70 = .ok (.iload_n 3, 1) := by decide +kernel
theorem dX8_carryOutOrders_71 : decode cX8_carryOutOrders 71 = .ok (.invokevirtual 279, 3) := by decide +kernel
theorem dX8_carryOutOrders_74 : decode cX8_carryOutOrders 74 = .ok (.pop, 1) := by decide +kernel
theorem dX8_carryOutOrders_75 : decode cX8_carryOutOrders 75 = .ok (.iinc 2 1, 3) := by decide +kernel
theorem dX8_carryOutOrders_78 : decode cX8_carryOutOrders 78 = .ok (.goto (-67), 3) := by decide +kernel
theorem dX8_carryOutOrders_81 : decode cX8_carryOutOrders 81 = .ok (.iload_n 1, 1) := by decide +kernel
theorem dX8_carryOutOrders_82 : decode cX8_carryOutOrders 82 = .ok (.ireturn, 1) := by decide +kernel
theorem dX8_carryOutOrder_0 : decode cX8_carryOutOrder 0 = .ok (.aload_n 0, 1) := by decide +kernel
theorem dX8_carryOutOrder_1 : decode cX8_carryOutOrder 1 = .ok (.getfield 39, 3) := by decide +kernel
theorem dX8_carryOutOrder_4 : decode cX8_carryOutOrder 4 = .ok (.getfield 282, 3) := by decide +kernel
theorem dX8_carryOutOrder_7 : decode cX8_carryOutOrder 7 = .ok (.astore_n 1, 1) := by decide +kernel
theorem dX8_carryOutOrder_8 : decode cX8_carryOutOrder 8 = .ok (.aload_n 0, 1) := by decide +kernel
theorem dX8_carryOutOrder_9 : decode cX8_carryOutOrder 9 = .ok (.getfield 39, 3) := by decide +kernel
theorem dX8_carryOutOrder_12 : decode cX8_carryOutOrder 12 = .ok (.getfield 285, 3) := by decide +kernel
theorem dX8_carryOutOrder_15 : decode cX8_carryOutOrder 15 = .ok (.lookupswitch 175 #[(45, 164), (98, 65), (101, 128), (108, 110), (110, 146), (114, 82), (120, 96)], 65) := by decide +kernel
theorem dX8_carryOutOrder_80 : decode cX8_carryOutOrder 80 = .ok (.aload_n 0, 1) := by decide +kernel
theorem dX8_carryOutOrder_81 : decode cX8_carryOutOrder 81 = .ok (.getfield 12, 3) := by decide +kernel
theorem dX8_carryOutOrder_84 : decode cX8_carryOutOrder 84 = .ok (.aload_n 1, 1) := by decide +kernel
theorem dX8_carryOutOrder_85 : decode cX8_carryOutOrder 85 = .ok (.iconst 0, 1) := by decide +kernel
theorem dX8_carryOutOrder_86 : decode cX8_carryOutOrder 86 = .ok (.iaload, 1) := by decide +kernel
theorem dX8_carryOutOrder_87 : decode cX8_carryOutOrder 87 = .ok (.aload_n 1, 1) := by decide +kernel
theorem dX8_carryOutOrder_88 : decode cX8_carryOutOrder 88 = .ok (.iconst 1, 1) := by decide +kernel
theorem dX8_carryOutOrder_89 : decode cX8_carryOutOrder 89 = .ok (.iaload, 1) := by decide +kernel
theorem dX8_carryOutOrder_90 : decode cX8_carryOutOrder 90 = .ok (.aload_n 1, 1) := by decide +kernel
theorem dX8_carryOutOrder_91 : decode cX8_carryOutOrder 91 = .ok (.iconst 2, 1) := by decide +kernel
theorem dX8_carryOutOrder_92 : decode cX8_carryOutOrder 92 = .ok (.iaload, 1) := by decide +kernel
theorem dX8_carryOutOrder_93 : decode cX8_carryOutOrder 93 = .ok (.invokevirtual 75, 3) := by decide +kernel
theorem dX8_carryOutOrder_96 : decode cX8_carryOutOrder 96 = .ok (.ireturn, 1) := by decide +kernel
theorem dX8_carryOutOrder_97 : decode cX8_carryOutOrder 97 = .ok (.aload_n 0, 1) := by decide +kernel
theorem dX8_carryOutOrder_98 : decode cX8_carryOutOrder 98 = .ok (.getfield 12, 3) := by decide +kernel
theorem dX8_carryOutOrder_101 : decode cX8_carryOutOrder 101 = .ok (.aload_n 1, 1) := by decide +kernel
theorem dX8_carryOutOrder_102 : decode cX8_carryOutOrder 102 = .ok (.iconst 0, 1) := by decide +kernel
theorem dX8_carryOutOrder_103 : decode cX8_carryOutOrder 103 = .ok (.iaload, 1) := by decide +kernel
theorem dX8_carryOutOrder_104 : decode cX8_carryOutOrder 104 = .ok (.aload_n 1, 1) := by decide +kernel
theorem dX8_carryOutOrder_105 : decode cX8_carryOutOrder 105 = .ok (.iconst 1, 1) := by decide +kernel
theorem dX8_carryOutOrder_106 : decode cX8_carryOutOrder 106 = .ok (.iaload, 1) := by decide +kernel
theorem dX8_carryOutOrder_107 : decode cX8_carryOutOrder 107 = .ok (.invokevirtual 79, 3) := by decide +kernel
theorem dX8_carryOutOrder_110 : decode cX8_carryOutOrder 110 = .ok (.ireturn, 1) := by decide +kernel
theorem dX8_carryOutOrder_111 : decode cX8_carryOutOrder 111 = .ok (.aload_n 0, 1) := by decide +kernel
theorem dX8_carryOutOrder_112 : decode cX8_carryOutOrder 112 = .ok (.getfield 12, 3) := by decide +kernel
theorem dX8_carryOutOrder_115 : decode cX8_carryOutOrder 115 = .ok (.aload_n 1, 1) := by decide +kernel
theorem dX8_carryOutOrder_116 : decode cX8_carryOutOrder 116 = .ok (.iconst 0, 1) := by decide +kernel
theorem dX8_carryOutOrder_117 : decode cX8_carryOutOrder 117 = .ok (.iaload, 1) := by decide +kernel
theorem dX8_carryOutOrder_118 : decode cX8_carryOutOrder 118 = .ok (.aload_n 1, 1) := by decide +kernel
theorem dX8_carryOutOrder_119 : decode cX8_carryOutOrder 119 = .ok (.iconst 1, 1) := by decide +kernel
theorem dX8_carryOutOrder_120 : decode cX8_carryOutOrder 120 = .ok (.iaload, 1) := by decide +kernel
theorem dX8_carryOutOrder_121 : decode cX8_carryOutOrder 121 = .ok (.invokevirtual 83, 3) := by decide +kernel
theorem dX8_carryOutOrder_124 : decode cX8_carryOutOrder 124 = .ok (.ireturn, 1) := by decide +kernel
theorem dX8_carryOutOrder_125 : decode cX8_carryOutOrder 125 = .ok (.aload_n 0, 1) := by decide +kernel
theorem dX8_carryOutOrder_126 : decode cX8_carryOutOrder 126 = .ok (.getfield 12, 3) := by decide +kernel
theorem dX8_carryOutOrder_129 : decode cX8_carryOutOrder 129 = .ok (.iconst 0, 1) := by decide +kernel
theorem dX8_carryOutOrder_130 : decode cX8_carryOutOrder 130 = .ok (.aload_n 1, 1) := by decide +kernel
theorem dX8_carryOutOrder_131 : decode cX8_carryOutOrder 131 = .ok (.iconst 0, 1) := by decide +kernel
theorem dX8_carryOutOrder_132 : decode cX8_carryOutOrder 132 = .ok (.iaload, 1) := by decide +kernel
theorem dX8_carryOutOrder_133 : decode cX8_carryOutOrder 133 = .ok (.aload_n 1, 1) := by decide +kernel
theorem dX8_carryOutOrder_134 : decode cX8_carryOutOrder 134 = .ok (.iconst 1, 1) := by decide +kernel
theorem dX8_carryOutOrder_135 : decode cX8_carryOutOrder 135 = .ok (.iaload, 1) := by decide +kernel
theorem dX8_carryOutOrder_136 : decode cX8_carryOutOrder 136 = .ok (.aload_n 1, 1) := by decide +kernel
theorem dX8_carryOutOrder_137 : decode cX8_carryOutOrder 137 = .ok (.iconst 2, 1) := by decide +kernel
theorem dX8_carryOutOrder_138 : decode cX8_carryOutOrder 138 = .ok (.iaload, 1) := by decide +kernel
theorem dX8_carryOutOrder_139 : decode cX8_carryOutOrder 139 = .ok (.invokevirtual 92, 3) := by decide +kernel
theorem dX8_carryOutOrder_142 : decode cX8_carryOutOrder 142 = .ok (.ireturn, 1) := by decide +kernel
theorem dX8_carryOutOrder_143 : decode cX8_carryOutOrder 143 = .ok (.aload_n 0, 1) := by decide +kernel
theorem dX8_carryOutOrder_144 : decode cX8_carryOutOrder 144 = .ok (.getfield 12, 3) := by decide +kernel
theorem dX8_carryOutOrder_147 : decode cX8_carryOutOrder 147 = .ok (.iconst 1, 1) := by decide +kernel
theorem dX8_carryOutOrder_148 : decode cX8_carryOutOrder 148 = .ok (.aload_n 1, 1) := by decide +kernel
theorem dX8_carryOutOrder_149 : decode cX8_carryOutOrder 149 = .ok (.iconst 0, 1) := by decide +kernel
theorem dX8_carryOutOrder_150 : decode cX8_carryOutOrder 150 = .ok (.iaload, 1) := by decide +kernel
theorem dX8_carryOutOrder_151 : decode cX8_carryOutOrder 151 = .ok (.aload_n 1, 1) := by decide +kernel
theorem dX8_carryOutOrder_152 : decode cX8_carryOutOrder 152 = .ok (.iconst 1, 1) := by decide +kernel
theorem dX8_carryOutOrder_153 : decode cX8_carryOutOrder 153 = .ok (.iaload, 1) := by decide +kernel
theorem dX8_carryOutOrder_154 : decode cX8_carryOutOrder 154 = .ok (.aload_n 1, 1) := by decide +kernel
theorem dX8_carryOutOrder_155 : decode cX8_carryOutOrder 155 = .ok (.iconst 2, 1) := by decide +kernel
theorem dX8_carryOutOrder_156 : decode cX8_carryOutOrder 156 = .ok (.iaload, 1) := by decide +kernel
theorem dX8_carryOutOrder_157 : decode cX8_carryOutOrder 157 = .ok (.invokevirtual 92, 3) := by decide +kernel
theorem dX8_carryOutOrder_160 : decode cX8_carryOutOrder 160 = .ok (.ireturn, 1) := by decide +kernel
theorem dX8_carryOutOrder_161 : decode cX8_carryOutOrder 161 = .ok (.aload_n 0, 1) := by decide +kernel
theorem dX8_carryOutOrder_162 : decode cX8_carryOutOrder 162 = .ok (.getfield 12, 3) := by decide +kernel
theorem dX8_carryOutOrder_165 : decode cX8_carryOutOrder 165 = .ok (.iconst 2, 1) := by decide +kernel
theorem dX8_carryOutOrder_166 : decode cX8_carryOutOrder 166 = .ok (.aload_n 1, 1) := by decide +kernel
theorem dX8_carryOutOrder_167 : decode cX8_carryOutOrder 167 = .ok (.iconst 0, 1) := by decide +kernel
theorem dX8_carryOutOrder_168 : decode cX8_carryOutOrder 168 = .ok (.iaload, 1) := by decide +kernel
theorem dX8_carryOutOrder_169 : decode cX8_carryOutOrder 169 = .ok (.aload_n 1, 1) := by decide +kernel
theorem dX8_carryOutOrder_170 : decode cX8_carryOutOrder 170 = .ok (.iconst 1, 1) := by decide +kernel
theorem dX8_carryOutOrder_171 : decode cX8_carryOutOrder 171 = .ok (.iaload, 1) := by decide +kernel
theorem dX8_carryOutOrder_172 : decode cX8_carryOutOrder 172 = .ok (.aload_n 1, 1) := by decide +kernel
theorem dX8_carryOutOrder_173 : decode cX8_carryOutOrder 173 = .ok (.iconst 2, 1) := by decide +kernel
theorem dX8_carryOutOrder_174 : decode cX8_carryOutOrder 174 = .ok (.iaload, 1) := by decide +kernel
theorem dX8_carryOutOrder_175 : decode cX8_carryOutOrder 175 = .ok (.invokevirtual 92, 3) := by decide +kernel
theorem dX8_carryOutOrder_178 : decode cX8_carryOutOrder 178 = .ok (.ireturn, 1) := by decide +kernel
theorem dX8_carryOutOrder_179 : decode cX8_carryOutOrder 179 = .ok (.aload_n 0, 1) := by decide +kernel
theorem dX8_carryOutOrder_180 : decode cX8_carryOutOrder 180 = .ok (.getfield 12, 3) := by decide +kernel
theorem dX8_carryOutOrder_183 : decode cX8_carryOutOrder 183 = .ok (.aload_n 1, 1) := by decide +kernel
theorem dX8_carryOutOrder_184 : decode cX8_carryOutOrder 184 = .ok (.iconst 0, 1) := by decide +kernel
theorem dX8_carryOutOrder_185 : decode cX8_carryOutOrder 185 = .ok (.iaload, 1) := by decide +kernel
theorem dX8_carryOutOrder_186 : decode cX8_carryOutOrder 186 = .ok (.invokevirtual 96, 3) := by decide +kernel
theorem dX8_carryOutOrder_189 : decode cX8_carryOutOrder 189 = .ok (.ireturn, 1) := by decide +kernel
theorem dX8_carryOutOrder_190 : decode cX8_carryOutOrder 190 = .ok (.bipush (-3), 2) := by decide +kernel
theorem dX8_carryOutOrder_192 : decode cX8_carryOutOrder 192 = .ok (.ireturn, 1) := by decide +kernel
theorem dX8_isWithin_0 : decode cX8_isWithin 0 = .ok (.iload_n 0, 1) := by decide +kernel
theorem dX8_isWithin_1 : decode cX8_isWithin 1 = .ok (.iload_n 1, 1) := by decide +kernel
theorem dX8_isWithin_2 : decode cX8_isWithin 2 = .ok (.if_icmp .lt 12, 3) := by decide +kernel
theorem dX8_isWithin_5 : decode cX8_isWithin 5 = .ok (.iload_n 0, 1) := by decide +kernel
theorem dX8_isWithin_6 : decode cX8_isWithin 6 = .ok (.iload_n 2, 1) := by decide +kernel
theorem dX8_isWithin_7 : decode cX8_isWithin 7 = .ok (.if_icmp .gt 7, 3) := by decide +kernel
theorem dX8_isWithin_10 : decode cX8_isWithin 10 = .ok (.iconst 1, 1) := by decide +kernel
theorem dX8_isWithin_11 : decode cX8_isWithin 11 = .ok (.goto 4, 3) := by decide +kernel
theorem dX8_isWithin_14 : decode cX8_isWithin 14 = .ok (.iconst 0, 1) := by decide +kernel
theorem dX8_isWithin_15 : decode cX8_isWithin 15 = .ok (.ireturn, 1) := by decide +kernel
theorem dX8_tenthsFor_0 : decode cX8_tenthsFor 0 = .ok (.iload_n 1, 1) := by decide +kernel
theorem dX8_tenthsFor_1 : decode cX8_tenthsFor 1 = .ok (.ifCond .gt 7, 3) := by decide +kernel
theorem dX8_tenthsFor_4 : decode cX8_tenthsFor 4 = .ok (.iconst 0, 1) := by decide +kernel
theorem dX8_tenthsFor_5 : decode cX8_tenthsFor 5 = .ok (.goto 10, 3) := by decide +kernel
theorem dX8_tenthsFor_8 : decode cX8_tenthsFor 8 = .ok (.sipush 600, 3) := by decide +kernel
theorem dX8_tenthsFor_11 : decode cX8_tenthsFor 11 = .ok (.iload_n 0, 1) := by decide +kernel
theorem dX8_tenthsFor_12 : decode cX8_tenthsFor 12 = .ok (.imul, 1) := by decide +kernel
theorem dX8_tenthsFor_13 : decode cX8_tenthsFor 13 = .ok (.iload_n 1, 1) := by decide +kernel
theorem dX8_tenthsFor_14 : decode cX8_tenthsFor 14 = .ok (.idiv, 1) := by decide +kernel
theorem dX8_tenthsFor_15 : decode cX8_tenthsFor 15 = .ok (.ireturn, 1) := by decide +kernel
theorem dX8_leadOf_0 : decode cX8_leadOf 0 = .ok (.iload_n 0, 1) := by decide +kernel
theorem dX8_leadOf_1 : decode cX8_leadOf 1 = .ok (.lookupswitch 32 #[(0, 27), (2, 29)], 27) := by decide +kernel
theorem dX8_leadOf_28 : decode cX8_leadOf 28 = .ok (.iconst 5, 1) := by decide +kernel
theorem dX8_leadOf_29 : decode cX8_leadOf 29 = .ok (.ireturn, 1) := by decide +kernel
theorem dX8_leadOf_30 : decode cX8_leadOf 30 = .ok (.bipush 20, 2) := by decide +kernel
theorem dX8_leadOf_32 : decode cX8_leadOf 32 = .ok (.ireturn, 1) := by decide +kernel
theorem dX8_leadOf_33 : decode cX8_leadOf 33 = .ok (.iconst 0, 1) := by decide +kernel
theorem dX8_leadOf_34 : decode cX8_leadOf 34 = .ok (.ireturn, 1) := by decide +kernel
theorem dX9_init_0 : decode cX9_init 0 = .ok (.aload_n 0, 1) := by decide +kernel
theorem dX9_init_1 : decode cX9_init 1 = .ok (.invokespecial 1, 3) := by decide +kernel
theorem dX9_init_4 : decode cX9_init 4 = .ok (.aload_n 0, 1) := by decide +kernel
theorem dX9_init_5 : decode cX9_init 5 = .ok (.sipush 228, 3) := by decide +kernel
theorem dX9_init_8 : decode cX9_init 8 = .ok (.newarray .int, 2) := by decide +kernel
theorem dX9_init_10 : decode cX9_init 10 = .ok (.putfield 7, 3) := by decide +kernel
theorem dX9_init_13 : decode cX9_init 13 = .ok (.aload_n 0, 1) := by decide +kernel
theorem dX9_init_14 : decode cX9_init 14 = .ok (.sipush 1368, 3) := by decide +kernel
theorem dX9_init_17 : decode cX9_init 17 = .ok (.newarray .int, 2) := by decide +kernel
theorem dX9_init_19 : decode cX9_init 19 = .ok (.putfield 13, 3) := by decide +kernel
theorem dX9_init_22 : decode cX9_init 22 = .ok (.aload_n 0, 1) := by decide +kernel
theorem dX9_init_23 : decode cX9_init 23 = .ok (.sipush 456, 3) := by decide +kernel
theorem dX9_init_26 : decode cX9_init 26 = .ok (.newarray .int, 2) := by decide +kernel
theorem dX9_init_28 : decode cX9_init 28 = .ok (.putfield 16, 3) := by decide +kernel
theorem dX9_init_31 : decode cX9_init 31 = .ok (.aload_n 0, 1) := by decide +kernel
theorem dX9_init_32 : decode cX9_init 32 = .ok (.iconst 2, 1) := by decide +kernel
theorem dX9_init_33 : decode cX9_init 33 = .ok (.newarray .boolean, 2) := by decide +kernel
theorem dX9_init_35 : decode cX9_init 35 = .ok (.putfield 19, 3) := by decide +kernel
theorem dX9_init_38 : decode cX9_init 38 = .ok (.aload_n 0, 1) := by decide +kernel
theorem dX9_init_39 : decode cX9_init 39 = .ok (.bipush 80, 2) := by decide +kernel
theorem dX9_init_41 : decode cX9_init 41 = .ok (.newarray .int, 2) := by decide +kernel
theorem dX9_init_43 : decode cX9_init 43 = .ok (.putfield 23, 3) := by decide +kernel
theorem dX9_init_46 : decode cX9_init 46 = .ok (.aload_n 0, 1) := by decide +kernel
theorem dX9_init_47 : decode cX9_init 47 = .ok (.sipush 128, 3) := by decide +kernel
theorem dX9_init_50 : decode cX9_init 50 = .ok (.newarray .int, 2) := by decide +kernel
theorem dX9_init_52 : decode cX9_init 52 = .ok (.putfield 26, 3) := by decide +kernel
theorem dX9_init_55 : decode cX9_init 55 = .ok (.aload_n 0, 1) := by decide +kernel
theorem dX9_init_56 : decode cX9_init 56 = .ok (.sipush 128, 3) := by decide +kernel
theorem dX9_init_59 : decode cX9_init 59 = .ok (.newarray .int, 2) := by decide +kernel
theorem dX9_init_61 : decode cX9_init 61 = .ok (.putfield 29, 3) := by decide +kernel
theorem dX9_init_64 : decode cX9_init 64 = .ok (.aload_n 0, 1) := by decide +kernel
theorem dX9_init_65 : decode cX9_init 65 = .ok (.bipush 48, 2) := by decide +kernel
theorem dX9_init_67 : decode cX9_init 67 = .ok (.newarray .int, 2) := by decide +kernel
theorem dX9_init_69 : decode cX9_init 69 = .ok (.putfield 32, 3) := by decide +kernel
theorem dX9_init_72 : decode cX9_init 72 = .ok (.aload_n 0, 1) := by decide +kernel
theorem dX9_init_73 : decode cX9_init 73 = .ok (.bipush 48, 2) := by decide +kernel
theorem dX9_init_75 : decode cX9_init 75 = .ok (.newarray .int, 2) := by decide +kernel
theorem dX9_init_77 : decode cX9_init 77 = .ok (.putfield 35, 3) := by decide +kernel
theorem dX9_init_80 : decode cX9_init 80 = .ok (.aload_n 0, 1) := by decide +kernel
theorem dX9_init_81 : decode cX9_init 81 = .ok (.bipush 48, 2) := by decide +kernel
theorem dX9_init_83 : decode cX9_init 83 = .ok (.newarray .int, 2) := by decide +kernel
theorem dX9_init_85 : decode cX9_init 85 = .ok (.putfield 38, 3) := by decide +kernel
theorem dX9_init_88 : decode cX9_init 88 = .ok (.aload_n 0, 1) := by decide +kernel
theorem dX9_init_89 : decode cX9_init 89 = .ok (.bipush 48, 2) := by decide +kernel
theorem dX9_init_91 : decode cX9_init 91 = .ok (.newarray .int, 2) := by decide +kernel
theorem dX9_init_93 : decode cX9_init 93 = .ok (.putfield 41, 3) := by decide +kernel
theorem dX9_init_96 : decode cX9_init 96 = .ok (.aload_n 0, 1) := by decide +kernel
theorem dX9_init_97 : decode cX9_init 97 = .ok (.bipush 48, 2) := by decide +kernel
theorem dX9_init_99 : decode cX9_init 99 = .ok (.newarray .int, 2) := by decide +kernel
theorem dX9_init_101 : decode cX9_init 101 = .ok (.putfield 44, 3) := by decide +kernel
theorem dX9_init_104 : decode cX9_init 104 = .ok (.aload_n 0, 1) := by decide +kernel
theorem dX9_init_105 : decode cX9_init 105 = .ok (.bipush 48, 2) := by decide +kernel
theorem dX9_init_107 : decode cX9_init 107 = .ok (.newarray .int, 2) := by decide +kernel
theorem dX9_init_109 : decode cX9_init 109 = .ok (.putfield 47, 3) := by decide +kernel
theorem dX9_init_112 : decode cX9_init 112 = .ok (.aload_n 0, 1) := by decide +kernel
theorem dX9_init_113 : decode cX9_init 113 = .ok (.bipush 48, 2) := by decide +kernel
theorem dX9_init_115 : decode cX9_init 115 = .ok (.newarray .int, 2) := by decide +kernel
theorem dX9_init_117 : decode cX9_init 117 = .ok (.putfield 50, 3) := by decide +kernel
theorem dX9_init_120 : decode cX9_init 120 = .ok (.aload_n 0, 1) := by decide +kernel
theorem dX9_init_121 : decode cX9_init 121 = .ok (.sipush 160, 3) := by decide +kernel
theorem dX9_init_124 : decode cX9_init 124 = .ok (.newarray .int, 2) := by decide +kernel
theorem dX9_init_126 : decode cX9_init 126 = .ok (.putfield 53, 3) := by decide +kernel
theorem dX9_init_129 : decode cX9_init 129 = .ok (.aload_n 0, 1) := by decide +kernel
theorem dX9_init_130 : decode cX9_init 130 = .ok (.iconst 0, 1) := by decide +kernel
theorem dX9_init_131 : decode cX9_init 131 = .ok (.putfield 56, 3) := by decide +kernel
theorem dX9_init_134 : decode cX9_init 134 = .ok (.aload_n 0, 1) := by decide +kernel
theorem dX9_init_135 : decode cX9_init 135 = .ok (.getfield 7, 3) := by decide +kernel
theorem dX9_init_138 : decode cX9_init 138 = .ok (.iconst 0, 1) := by decide +kernel
theorem dX9_init_139 : decode cX9_init 139 = .ok (.bipush 32, 2) := by decide +kernel
theorem dX9_init_141 : decode cX9_init 141 = .ok (.iastore, 1) := by decide +kernel
theorem dX9_init_142 : decode cX9_init 142 = .ok (.aload_n 0, 1) := by decide +kernel
theorem dX9_init_143 : decode cX9_init 143 = .ok (.getfield 7, 3) := by decide +kernel
theorem dX9_init_146 : decode cX9_init 146 = .ok (.iconst 1, 1) := by decide +kernel
theorem dX9_init_147 : decode cX9_init 147 = .ok (.bipush 10, 2) := by decide +kernel
theorem dX9_init_149 : decode cX9_init 149 = .ok (.iastore, 1) := by decide +kernel
theorem dX9_init_150 : decode cX9_init 150 = .ok (.iconst 0, 1) := by decide +kernel
theorem dX9_init_151 : decode cX9_init 151 = .ok (.istore_n 1, 1) := by decide +kernel
theorem dX9_init_152 : decode cX9_init 152 = .ok (.iload_n 1, 1) := by decide +kernel
theorem dX9_init_153 : decode cX9_init 153 = .ok (.bipush 60, 2) := by decide +kernel
theorem dX9_init_155 : decode cX9_init 155 = .ok (.if_icmp .ge 30, 3) := by decide +kernel
theorem dX9_init_158 : decode cX9_init 158 = .ok (.aload_n 0, 1) := by decide +kernel
theorem dX9_init_159 : decode cX9_init 159 = .ok (.getfield 7, 3) := by decide +kernel
theorem dX9_init_162 : decode cX9_init 162 = .ok (.bipush 6, 2) := by decide +kernel
theorem dX9_init_164 : decode cX9_init 164 = .ok (.iload_n 1, 1) := by decide +kernel
theorem dX9_init_165 : decode cX9_init 165 = .ok (.iadd, 1) := by decide +kernel
theorem dX9_init_166 : decode cX9_init 166 = .ok (.iconst 4, 1) := by decide +kernel
theorem dX9_init_167 : decode cX9_init 167 = .ok (.iastore, 1) := by decide +kernel
theorem dX9_init_168 : decode cX9_init 168 = .ok (.aload_n 0, 1) := by decide +kernel
theorem dX9_init_169 : decode cX9_init 169 = .ok (.getfield 7, 3) := by decide +kernel
theorem dX9_init_172 : decode cX9_init 172 = .ok (.bipush 66, 2) := by decide +kernel
theorem dX9_init_174 : decode cX9_init 174 = .ok (.iload_n 1, 1) := by decide +kernel
theorem dX9_init_175 : decode cX9_init 175 = .ok (.iadd, 1) := by decide +kernel
theorem dX9_init_176 : decode cX9_init 176 = .ok (.bipush 60, 2) := by decide +kernel
theorem dX9_init_178 : decode cX9_init 178 = .ok (.iastore, 1) := by decide +kernel
theorem dX9_init_179 : decode cX9_init 179 = .ok (.iinc 1 1, 3) := by decide +kernel
theorem dX9_init_182 : decode cX9_init 182 = .ok (.goto (-30), 3) := by decide +kernel
theorem dX9_init_185 : decode cX9_init 185 = .ok (.return_, 1) := by decide +kernel
theorem dX9_in_0 : decode cX9_in 0 = .ok (.iload_n 0, 1) := by decide +kernel
theorem dX9_in_1 : decode cX9_in 1 = .ok (.iload_n 1, 1) := by decide +kernel
theorem dX9_in_2 : decode cX9_in 2 = .ok (.if_icmp .lt 12, 3) := by decide +kernel
theorem dX9_in_5 : decode cX9_in 5 = .ok (.iload_n 0, 1) := by decide +kernel
theorem dX9_in_6 : decode cX9_in 6 = .ok (.iload_n 2, 1) := by decide +kernel
theorem dX9_in_7 : decode cX9_in 7 = .ok (.if_icmp .gt 7, 3) := by decide +kernel
theorem dX9_in_10 : decode cX9_in 10 = .ok (.iconst 1, 1) := by decide +kernel
theorem dX9_in_11 : decode cX9_in 11 = .ok (.goto 4, 3) := by decide +kernel
theorem dX9_in_14 : decode cX9_in 14 = .ok (.iconst 0, 1) := by decide +kernel
theorem dX9_in_15 : decode cX9_in 15 = .ok (.ireturn, 1) := by decide +kernel
theorem dX9_isBar_0 : decode cX9_isBar 0 = .ok (.iload_n 1, 1) := by decide +kernel
theorem dX9_isBar_1 : decode cX9_isBar 1 = .ok (.iconst 0, 1) := by decide +kernel
theorem dX9_isBar_2 : decode cX9_isBar 2 = .ok (.aload_n 0, 1) := by decide +kernel
theorem dX9_isBar_3 : decode cX9_isBar 3 = .ok (.getfield 7, 3) := by decide +kernel
theorem dX9_isBar_6 : decode cX9_isBar 6 = .ok (.iconst 0, 1) := by decide +kernel
theorem dX9_isBar_7 : decode cX9_isBar 7 = .ok (.iaload, 1) := by decide +kernel
theorem dX9_isBar_8 : decode cX9_isBar 8 = .ok (.iconst 1, 1) := by decide +kernel
theorem dX9_isBar_9 : decode cX9_isBar 9 = .ok (.isub, 1) := by decide +kernel
theorem dX9_isBar_10 : decode cX9_isBar 10 = .ok (.invokestatic 60, 3) := by decide +kernel
theorem dX9_isBar_13 : decode cX9_isBar 13 = .ok (.ireturn, 1) := by decide +kernel
theorem dX9_of_0 : decode cX9_of 0 = .ok (.aload_n 0, 1) := by decide +kernel
theorem dX9_of_1 : decode cX9_of 1 = .ok (.getfield 7, 3) := by decide +kernel
theorem dX9_of_4 : decode cX9_of 4 = .ok (.sipush 148, 3) := by decide +kernel
theorem dX9_of_7 : decode cX9_of 7 = .ok (.iconst 4, 1) := by decide +kernel
theorem dX9_of_8 : decode cX9_of 8 = .ok (.iload_n 1, 1) := by decide +kernel
theorem dX9_of_9 : decode cX9_of 9 = .ok (.imul, 1) := by decide +kernel
theorem dX9_of_10 : decode cX9_of 10 = .ok (.iadd, 1) := by decide +kernel
theorem dX9_of_11 : decode cX9_of 11 = .ok (.iload_n 2, 1) := by decide +kernel
theorem dX9_of_12 : decode cX9_of 12 = .ok (.iadd, 1) := by decide +kernel
theorem dX9_of_13 : decode cX9_of 13 = .ok (.iaload, 1) := by decide +kernel
theorem dX9_of_14 : decode cX9_of 14 = .ok (.ireturn, 1) := by decide +kernel
theorem dX9_records_0 : decode cX9_records 0 = .ok (.aload_n 0, 1) := by decide +kernel
theorem dX9_records_1 : decode cX9_records 1 = .ok (.getfield 64, 3) := by decide +kernel
theorem dX9_records_4 : decode cX9_records 4 = .ok (.bipush 6, 2) := by decide +kernel
theorem dX9_records_6 : decode cX9_records 6 = .ok (.if_icmp .ne 44, 3) := by decide +kernel
theorem dX9_records_9 : decode cX9_records 9 = .ok (.iconst 0, 1) := by decide +kernel
theorem dX9_records_10 : decode cX9_records 10 = .ok (.istore_n 1, 1) := by decide +kernel
theorem dX9_records_11 : decode cX9_records 11 = .ok (.iload_n 1, 1) := by decide +kernel
theorem dX9_records_12 : decode cX9_records 12 = .ok (.sipush 1140, 3) := by decide +kernel
theorem dX9_records_15 : decode cX9_records 15 = .ok (.if_icmp .ge 25, 3) := by decide +kernel
theorem dX9_records_18 : decode cX9_records 18 = .ok (.aload_n 0, 1) := by decide +kernel
theorem dX9_records_19 : decode cX9_records 19 = .ok (.getfield 13, 3) := by decide +kernel
theorem dX9_records_22 : decode cX9_records 22 = .ok (.iload_n 1, 1) := by decide +kernel
theorem dX9_records_23 : decode cX9_records 23 = .ok (.aload_n 0, 1) := by decide +kernel
theorem dX9_records_24 : decode cX9_records 24 = .ok (.getfield 13, 3) := by decide +kernel
theorem dX9_records_27 : decode cX9_records 27 = .ok (.iload_n 1, 1) := by decide +kernel
theorem dX9_records_28 : decode cX9_records 28 = .ok (.sipush 228, 3) := by decide +kernel
theorem dX9_records_31 : decode cX9_records 31 = .ok (.iadd, 1) := by decide +kernel
theorem dX9_records_32 : decode cX9_records 32 = .ok (.iaload, 1) := by decide +kernel
theorem dX9_records_33 : decode cX9_records 33 = .ok (.iastore, 1) := by decide +kernel
theorem dX9_records_34 : decode cX9_records 34 = .ok (.iinc 1 1, 3) := by decide +kernel
theorem dX9_records_37 : decode cX9_records 37 = .ok (.goto (-26), 3) := by decide +kernel
theorem dX9_records_40 : decode cX9_records 40 = .ok (.aload_n 0, 1) := by decide +kernel
theorem dX9_records_41 : decode cX9_records 41 = .ok (.dup, 1) := by decide +kernel
theorem dX9_records_42 : decode cX9_records 42 = .ok (.getfield 64, 3) := by decide +kernel
theorem dX9_records_45 : decode cX9_records 45 = .ok (.iconst 1, 1) := by decide +kernel
theorem dX9_records_46 : decode cX9_records 46 = .ok (.isub, 1) := by decide +kernel
theorem dX9_records_47 : decode cX9_records 47 = .ok (.putfield 64, 3) := by decide +kernel
theorem dX9_records_50 : decode cX9_records 50 = .ok (.iconst 0, 1) := by decide +kernel
theorem dX9_records_51 : decode cX9_records 51 = .ok (.istore_n 1, 1) := by decide +kernel
theorem dX9_records_52 : decode cX9_records 52 = .ok (.iload_n 1, 1) := by decide +kernel
theorem dX9_records_53 : decode cX9_records 53 = .ok (.sipush 228, 3) := by decide +kernel
theorem dX9_records_56 : decode cX9_records 56 = .ok (.if_icmp .ge 30, 3) := by decide +kernel
theorem dX9_records_59 : decode cX9_records 59 = .ok (.aload_n 0, 1) := by decide +kernel
theorem dX9_records_60 : decode cX9_records 60 = .ok (.getfield 13, 3) := by decide +kernel
theorem dX9_records_63 : decode cX9_records 63 = .ok (.sipush 228, 3) := by decide +kernel
theorem dX9_records_66 : decode cX9_records 66 = .ok (.aload_n 0, 1) := by decide +kernel
theorem dX9_records_67 : decode cX9_records 67 = .ok (.getfield 64, 3) := by decide +kernel
theorem dX9_records_70 : decode cX9_records 70 = .ok (.imul, 1) := by decide +kernel
theorem dX9_records_71 : decode cX9_records 71 = .ok (.iload_n 1, 1) := by decide +kernel
theorem dX9_records_72 : decode cX9_records 72 = .ok (.iadd, 1) := by decide +kernel
theorem dX9_records_73 : decode cX9_records 73 = .ok (.aload_n 0, 1) := by decide +kernel
theorem dX9_records_74 : decode cX9_records 74 = .ok (.getfield 7, 3) := by decide +kernel
theorem dX9_records_77 : decode cX9_records 77 = .ok (.iload_n 1, 1) := by decide +kernel
theorem dX9_records_78 : decode cX9_records 78 = .ok (.iaload, 1) := by decide +kernel
theorem dX9_records_79 : decode cX9_records 79 = .ok (.iastore, 1) := by decide +kernel
theorem dX9_records_80 : decode cX9_records 80 = .ok (.iinc 1 1, 3) := by decide +kernel
theorem dX9_records_83 : decode cX9_records 83 = .ok (.goto (-31), 3) := by decide +kernel
theorem dX9_records_86 : decode cX9_records 86 = .ok (.aload_n 0, 1) := by decide +kernel
theorem dX9_records_87 : decode cX9_records 87 = .ok (.dup, 1) := by decide +kernel
theorem dX9_records_88 : decode cX9_records 88 = .ok (.getfield 64, 3) := by decide +kernel
theorem dX9_records_91 : decode cX9_records 91 = .ok (.iconst 1, 1) := by decide +kernel
theorem dX9_records_92 : decode cX9_records 92 = .ok (.iadd, 1) := by decide +kernel
theorem dX9_records_93 : decode cX9_records 93 = .ok (.putfield 64, 3) := by decide +kernel
theorem dX9_records_96 : decode cX9_records 96 = .ok (.return_, 1) := by decide +kernel
theorem dX9_tenths_0 : decode cX9_tenths 0 = .ok (.sipush 600, 3) := by decide +kernel
theorem dX9_tenths_3 : decode cX9_tenths 3 = .ok (.aload_n 0, 1) := by decide +kernel
theorem dX9_tenths_4 : decode cX9_tenths 4 = .ok (.getfield 7, 3) := by decide +kernel
theorem dX9_tenths_7 : decode cX9_tenths 7 = .ok (.bipush 6, 2) := by decide +kernel
theorem dX9_tenths_9 : decode cX9_tenths 9 = .ok (.iload_n 1, 1) := by decide +kernel
theorem dX9_tenths_10 : decode cX9_tenths 10 = .ok (.iadd, 1) := by decide +kernel
theorem dX9_tenths_11 : decode cX9_tenths 11 = .ok (.iaload, 1) := by decide +kernel
theorem dX9_tenths_12 : decode cX9_tenths 12 = .ok (.imul, 1) := by decide +kernel
theorem dX9_tenths_13 : decode cX9_tenths 13 = .ok (.aload_n 0, 1) := by decide +kernel
theorem dX9_tenths_14 : decode cX9_tenths 14 = .ok (.getfield 7, 3) := by decide +kernel
theorem dX9_tenths_17 : decode cX9_tenths 17 = .ok (.bipush 66, 2) := by decide +kernel
theorem dX9_tenths_19 : decode cX9_tenths 19 = .ok (.iload_n 1, 1) := by decide +kernel
theorem dX9_tenths_20 : decode cX9_tenths 20 = .ok (.iadd, 1) := by decide +kernel
theorem dX9_tenths_21 : decode cX9_tenths 21 = .ok (.iaload, 1) := by decide +kernel
theorem dX9_tenths_22 : decode cX9_tenths 22 = .ok (.idiv, 1) := by decide +kernel
theorem dX9_tenths_23 : decode cX9_tenths 23 = .ok (.ireturn, 1) := by decide +kernel
theorem dX9_isCut_0 : decode cX9_isCut 0 = .ok (.iconst 0, 1) := by decide +kernel
theorem dX9_isCut_1 : decode cX9_isCut 1 = .ok (.istore_n 2, 1) := by decide +kernel
theorem dX9_isCut_2 : decode cX9_isCut 2 = .ok (.iconst 0, 1) := by decide +kernel
theorem dX9_isCut_3 : decode cX9_isCut 3 = .ok (.istore_n 3, 1) := by decide +kernel
theorem dX9_isCut_4 : decode cX9_isCut 4 = .ok (.iload_n 3, 1) := by decide +kernel
theorem dX9_isCut_5 : decode cX9_isCut 5 = .ok (.aload_n 0, 1) := by decide +kernel
theorem dX9_isCut_6 : decode cX9_isCut 6 = .ok (.getfield 7, 3) := by decide +kernel
theorem dX9_isCut_9 : decode cX9_isCut 9 = .ok (.iconst 3, 1) := by decide +kernel
theorem dX9_isCut_10 : decode cX9_isCut 10 = .ok (.iaload, 1) := by decide +kernel
theorem dX9_isCut_11 : decode cX9_isCut 11 = .ok (.if_icmp .ge 52, 3) := by decide +kernel
theorem dX9_isCut_14 : decode cX9_isCut 14 = .ok (.iload_n 2, 1) := by decide +kernel
theorem dX9_isCut_15 : decode cX9_isCut 15 = .ok (.ifCond .ne 36, 3) := by decide +kernel
theorem dX9_isCut_18 : decode cX9_isCut 18 = .ok (.iload_n 1, 1) := by decide +kernel
theorem dX9_isCut_19 : decode cX9_isCut 19 = .ok (.aload_n 0, 1) := by decide +kernel
theorem dX9_isCut_20 : decode cX9_isCut 20 = .ok (.getfield 7, 3) := by decide +kernel
theorem dX9_isCut_23 : decode cX9_isCut 23 = .ok (.sipush 134, 3) := by decide +kernel
theorem dX9_isCut_26 : decode cX9_isCut 26 = .ok (.iconst 2, 1) := by decide +kernel
theorem dX9_isCut_27 : decode cX9_isCut 27 = .ok (.iload_n 3, 1) := by decide +kernel
theorem dX9_isCut_28 : decode cX9_isCut 28 = .ok (.imul, 1) := by decide +kernel
theorem dX9_isCut_29 : decode cX9_isCut 29 = .ok (.iadd, 1) := by decide +kernel
theorem dX9_isCut_30 : decode cX9_isCut 30 = .ok (.iaload, 1) := by decide +kernel
theorem dX9_isCut_31 : decode cX9_isCut 31 = .ok (.aload_n 0, 1) := by decide +kernel
theorem dX9_isCut_32 : decode cX9_isCut 32 = .ok (.getfield 7, 3) := by decide +kernel
theorem dX9_isCut_35 : decode cX9_isCut 35 = .ok (.sipush 134, 3) := by decide +kernel
theorem dX9_isCut_38 : decode cX9_isCut 38 = .ok (.iconst 2, 1) := by decide +kernel
theorem dX9_isCut_39 : decode cX9_isCut 39 = .ok (.iload_n 3, 1) := by decide +kernel
theorem dX9_isCut_40 : decode cX9_isCut 40 = .ok (.imul, 1) := by decide +kernel
theorem dX9_isCut_41 : decode cX9_isCut 41 = .ok (.iadd, 1) := by decide +kernel
theorem dX9_isCut_42 : decode cX9_isCut 42 = .ok (.iconst 1, 1) := by decide +kernel
theorem dX9_isCut_43 : decode cX9_isCut 43 = .ok (.iadd, 1) := by decide +kernel
theorem dX9_isCut_44 : decode cX9_isCut 44 = .ok (.iaload, 1) := by decide +kernel
theorem dX9_isCut_45 : decode cX9_isCut 45 = .ok (.invokestatic 60, 3) := by decide +kernel
theorem dX9_isCut_48 : decode cX9_isCut 48 = .ok (.ifCond .eq 7, 3) := by decide +kernel
theorem dX9_isCut_51 : decode cX9_isCut 51 = .ok (.iconst 1, 1) := by decide +kernel
theorem dX9_isCut_52 : decode cX9_isCut 52 = .ok (.goto 4, 3) := by decide +kernel
theorem dX9_isCut_55 : decode cX9_isCut 55 = .ok (.iconst 0, 1) := by decide +kernel
theorem dX9_isCut_56 : decode cX9_isCut 56 = .ok (.istore_n 2, 1) := by decide +kernel
theorem dX9_isCut_57 : decode cX9_isCut 57 = .ok (.iinc 3 1, 3) := by decide +kernel
theorem dX9_isCut_60 : decode cX9_isCut 60 = .ok (.goto (-56), 3) := by decide +kernel
theorem dX9_isCut_63 : decode cX9_isCut 63 = .ok (.iload_n 2, 1) := by decide +kernel
theorem dX9_isCut_64 : decode cX9_isCut 64 = .ok (.ireturn, 1) := by decide +kernel
theorem dX9_sings_0 : decode cX9_sings 0 = .ok (.aload_n 0, 1) := by decide +kernel
theorem dX9_sings_1 : decode cX9_sings 1 = .ok (.iload_n 1, 1) := by decide +kernel
theorem dX9_sings_2 : decode cX9_sings 2 = .ok (.invokevirtual 67, 3) := by decide +kernel
theorem dX9_sings_5 : decode cX9_sings 5 = .ok (.ifCond .ne 50, 3) := by decide +kernel
theorem dX9_sings_8 : decode cX9_sings 8 = .ok (.aload_n 0, 1) := by decide +kernel
theorem dX9_sings_9 : decode cX9_sings 9 = .ok (.getfield 26, 3) := by decide +kernel
theorem dX9_sings_12 : decode cX9_sings 12 = .ok (.aload_n 0, 1) := by decide +kernel
theorem dX9_sings_13 : decode cX9_sings 13 = .ok (.getfield 71, 3) := by decide +kernel
theorem dX9_sings_16 : decode cX9_sings 16 = .ok (.iload_n 1, 1) := by decide +kernel
theorem dX9_sings_17 : decode cX9_sings 17 = .ok (.iastore, 1) := by decide +kernel
theorem dX9_sings_18 : decode cX9_sings 18 = .ok (.aload_n 0, 1) := by decide +kernel
theorem dX9_sings_19 : decode cX9_sings 19 = .ok (.getfield 29, 3) := by decide +kernel
theorem dX9_sings_22 : decode cX9_sings 22 = .ok (.aload_n 0, 1) := by decide +kernel
theorem dX9_sings_23 : decode cX9_sings 23 = .ok (.getfield 71, 3) := by decide +kernel
theorem dX9_sings_26 : decode cX9_sings 26 = .ok (.aload_n 0, 1) := by decide +kernel
theorem dX9_sings_27 : decode cX9_sings 27 = .ok (.getfield 74, 3) := by decide +kernel
theorem dX9_sings_30 : decode cX9_sings 30 = .ok (.iastore, 1) := by decide +kernel
theorem dX9_sings_31 : decode cX9_sings 31 = .ok (.aload_n 0, 1) := by decide +kernel
theorem dX9_sings_32 : decode cX9_sings 32 = .ok (.dup, 1) := by decide +kernel
theorem dX9_sings_33 : decode cX9_sings 33 = .ok (.getfield 74, 3) := by decide +kernel
theorem dX9_sings_36 : decode cX9_sings 36 = .ok (.aload_n 0, 1) := by decide +kernel
theorem dX9_sings_37 : decode cX9_sings 37 = .ok (.iload_n 1, 1) := by decide +kernel
theorem dX9_sings_38 : decode cX9_sings 38 = .ok (.invokevirtual 77, 3) := by decide +kernel
theorem dX9_sings_41 : decode cX9_sings 41 = .ok (.iadd, 1) := by decide +kernel
theorem dX9_sings_42 : decode cX9_sings 42 = .ok (.putfield 74, 3) := by decide +kernel
theorem dX9_sings_45 : decode cX9_sings 45 = .ok (.aload_n 0, 1) := by decide +kernel
theorem dX9_sings_46 : decode cX9_sings 46 = .ok (.dup, 1) := by decide +kernel
theorem dX9_sings_47 : decode cX9_sings 47 = .ok (.getfield 71, 3) := by decide +kernel
theorem dX9_sings_50 : decode cX9_sings 50 = .ok (.iconst 1, 1) := by decide +kernel
theorem dX9_sings_51 : decode cX9_sings 51 = .ok (.iadd, 1) := by decide +kernel
theorem dX9_sings_52 : decode cX9_sings 52 = .ok (.putfield 71, 3) := by decide +kernel
theorem dX9_sings_55 : decode cX9_sings 55 = .ok (.return_, 1) := by decide +kernel
theorem dX9_laysNight_0 : decode cX9_laysNight 0 = .ok (.aload_n 0, 1) := by decide +kernel
theorem dX9_laysNight_1 : decode cX9_laysNight 1 = .ok (.iconst 0, 1) := by decide +kernel
theorem dX9_laysNight_2 : decode cX9_laysNight 2 = .ok (.putfield 71, 3) := by decide +kernel
theorem dX9_laysNight_5 : decode cX9_laysNight 5 = .ok (.aload_n 0, 1) := by decide +kernel
theorem dX9_laysNight_6 : decode cX9_laysNight 6 = .ok (.iconst 0, 1) := by decide +kernel
theorem dX9_laysNight_7 : decode cX9_laysNight 7 = .ok (.putfield 74, 3) := by decide +kernel
theorem dX9_laysNight_10 : decode cX9_laysNight 10 = .ok (.iconst 0, 1) := by decide +kernel
theorem dX9_laysNight_11 : decode cX9_laysNight 11 = .ok (.istore_n 1, 1) := by decide +kernel
theorem dX9_laysNight_12 : decode cX9_laysNight 12 = .ok (.iload_n 1, 1) := by decide +kernel
theorem dX9_laysNight_13 : decode cX9_laysNight 13 = .ok (.aload_n 0, 1) := by decide +kernel
theorem dX9_laysNight_14 : decode cX9_laysNight 14 = .ok (.getfield 7, 3) := by decide +kernel
theorem dX9_laysNight_17 : decode cX9_laysNight 17 = .ok (.iconst 0, 1) := by decide +kernel
theorem dX9_laysNight_18 : decode cX9_laysNight 18 = .ok (.iaload, 1) := by decide +kernel
theorem dX9_laysNight_19 : decode cX9_laysNight 19 = .ok (.if_icmp .ge 65, 3) := by decide +kernel
theorem dX9_laysNight_22 : decode cX9_laysNight 22 = .ok (.aload_n 0, 1) := by decide +kernel
theorem dX9_laysNight_23 : decode cX9_laysNight 23 = .ok (.iload_n 1, 1) := by decide +kernel
theorem dX9_laysNight_24 : decode cX9_laysNight 24 = .ok (.invokevirtual 81, 3) := by decide +kernel
theorem dX9_laysNight_27 : decode cX9_laysNight 27 = .ok (.iconst 0, 1) := by decide +kernel
theorem dX9_laysNight_28 : decode cX9_laysNight 28 = .ok (.istore_n 2, 1) := by decide +kernel
theorem dX9_laysNight_29 : decode cX9_laysNight 29 = .ok (.iload_n 2, 1) := by decide +kernel
theorem dX9_laysNight_30 : decode cX9_laysNight 30 = .ok (.aload_n 0, 1) := by decide +kernel
theorem dX9_laysNight_31 : decode cX9_laysNight 31 = .ok (.getfield 7, 3) := by decide +kernel
theorem dX9_laysNight_34 : decode cX9_laysNight 34 = .ok (.iconst 2, 1) := by decide +kernel
theorem dX9_laysNight_35 : decode cX9_laysNight 35 = .ok (.iaload, 1) := by decide +kernel
theorem dX9_laysNight_36 : decode cX9_laysNight 36 = .ok (.if_icmp .ge 42, 3) := by decide +kernel
theorem dX9_laysNight_39 : decode cX9_laysNight 39 = .ok (.aload_n 0, 1) := by decide +kernel
theorem dX9_laysNight_40 : decode cX9_laysNight 40 = .ok (.getfield 7, 3) := by decide +kernel
theorem dX9_laysNight_43 : decode cX9_laysNight 43 = .ok (.bipush 126, 2) := by decide +kernel
theorem dX9_laysNight_45 : decode cX9_laysNight 45 = .ok (.iconst 2, 1) := by decide +kernel
theorem dX9_laysNight_46 : decode cX9_laysNight 46 = .ok (.iload_n 2, 1) := by decide +kernel
theorem dX9_laysNight_47 : decode cX9_laysNight 47 = .ok (.imul, 1) := by decide +kernel
theorem dX9_laysNight_48 : decode cX9_laysNight 48 = .ok (.iadd, 1) := by decide +kernel
theorem dX9_laysNight_49 : decode cX9_laysNight 49 = .ok (.iconst 1, 1) := by decide +kernel
theorem dX9_laysNight_50 : decode cX9_laysNight 50 = .ok (.iadd, 1) := by decide +kernel
theorem dX9_laysNight_51 : decode cX9_laysNight 51 = .ok (.iaload, 1) := by decide +kernel
theorem dX9_laysNight_52 : decode cX9_laysNight 52 = .ok (.iload_n 1, 1) := by decide +kernel
theorem dX9_laysNight_53 : decode cX9_laysNight 53 = .ok (.if_icmp .ne 19, 3) := by decide +kernel
theorem dX9_laysNight_56 : decode cX9_laysNight 56 = .ok (.aload_n 0, 1) := by decide +kernel
theorem dX9_laysNight_57 : decode cX9_laysNight 57 = .ok (.aload_n 0, 1) := by decide +kernel
theorem dX9_laysNight_58 : decode cX9_laysNight 58 = .ok (.getfield 7, 3) := by decide +kernel
theorem dX9_laysNight_61 : decode cX9_laysNight 61 = .ok (.bipush 126, 2) := by decide +kernel
theorem dX9_laysNight_63 : decode cX9_laysNight 63 = .ok (.iconst 2, 1) := by decide +kernel
theorem dX9_laysNight_64 : decode cX9_laysNight 64 = .ok (.iload_n 2, 1) := by decide +kernel
theorem dX9_laysNight_65 : decode cX9_laysNight 65 = .ok (.imul, 1) := by decide +kernel
theorem dX9_laysNight_66 : decode cX9_laysNight 66 = .ok (.iadd, 1) := by decide +kernel
theorem dX9_laysNight_67 : decode cX9_laysNight 67 = .ok (.iaload, 1) := by decide +kernel
theorem dX9_laysNight_68 : decode cX9_laysNight 68 = .ok (.iload_n 1, 1) := by decide +kernel
theorem dX9_laysNight_69 : decode cX9_laysNight 69 = .ok (.invokevirtual 85, 3) := by decide +kernel
theorem dX9_laysNight_72 : decode cX9_laysNight 72 = .ok (.iinc 2 1, 3) := by decide +kernel
theorem dX9_laysNight_75 : decode cX9_laysNight 75 = .ok (.goto (-46), 3) := by decide +kernel
theorem dX9_laysNight_78 : decode cX9_laysNight 78 = .ok (.iinc 1 1, 3) := by decide +kernel
theorem dX9_laysNight_81 : decode cX9_laysNight 81 = .ok (.goto (-69), 3) := by decide +kernel
theorem dX9_laysNight_84 : decode cX9_laysNight 84 = .ok (.return_, 1) := by decide +kernel
theorem dX9_repeats_0 : decode cX9_repeats 0 = .ok (.iload_n 1, 1) := by decide +kernel
theorem dX9_repeats_1 : decode cX9_repeats 1 = .ok (.istore_n 3, 1) := by decide +kernel
theorem dX9_repeats_2 : decode cX9_repeats 2 = .ok (.iload_n 3, 1) := by decide +kernel
theorem dX9_repeats_3 : decode cX9_repeats 3 = .ok (.iload_n 2, 1) := by decide +kernel
theorem dX9_repeats_4 : decode cX9_repeats 4 = .ok (.if_icmp .gt 14, 3) := by decide +kernel
theorem dX9_repeats_7 : decode cX9_repeats 7 = .ok (.aload_n 0, 1) := by decide +kernel
theorem dX9_repeats_8 : decode cX9_repeats 8 = .ok (.iload_n 3, 1) := by decide +kernel
theorem dX9_repeats_9 : decode cX9_repeats 9 = .ok (.invokevirtual 81, 3) := by decide +kernel
theorem dX9_repeats_12 : decode cX9_repeats 12 = .ok (.iinc 3 1, 3) := by decide +kernel
theorem dX9_repeats_15 : decode cX9_repeats 15 = .ok (.goto (-13), 3) := by decide +kernel
theorem dX9_repeats_18 : decode cX9_repeats 18 = .ok (.return_, 1) := by decide +kernel
theorem dX9_beginOf_0 : decode cX9_beginOf 0 = .ok (.iload_n 1, 1) := by decide +kernel
theorem dX9_beginOf_1 : decode cX9_beginOf 1 = .ok (.aload_n 0, 1) := by decide +kernel
theorem dX9_beginOf_2 : decode cX9_beginOf 2 = .ok (.getfield 71, 3) := by decide +kernel
theorem dX9_beginOf_5 : decode cX9_beginOf 5 = .ok (.if_icmp .ge 12, 3) := by decide +kernel
theorem dX9_beginOf_8 : decode cX9_beginOf 8 = .ok (.aload_n 0, 1) := by decide +kernel
theorem dX9_beginOf_9 : decode cX9_beginOf 9 = .ok (.getfield 29, 3) := by decide +kernel
theorem dX9_beginOf_12 : decode cX9_beginOf 12 = .ok (.iload_n 1, 1) := by decide +kernel
theorem dX9_beginOf_13 : decode cX9_beginOf 13 = .ok (.iaload, 1) := by decide +kernel
theorem dX9_beginOf_14 : decode cX9_beginOf 14 = .ok (.goto 7, 3) := by decide +kernel
theorem dX9_beginOf_17 : decode cX9_beginOf 17 = .ok (.aload_n 0, 1) := by decide +kernel
theorem dX9_beginOf_18 : decode cX9_beginOf 18 = .ok (.getfield 74, 3) := by decide +kernel
theorem dX9_beginOf_21 : decode cX9_beginOf 21 = .ok (.ireturn, 1) := by decide +kernel
theorem dX9_firstPlace_0 : decode cX9_firstPlace 0 = .ok (.iconst 0, 1) := by decide +kernel
theorem dX9_firstPlace_1 : decode cX9_firstPlace 1 = .ok (.istore_n 2, 1) := by decide +kernel
theorem dX9_firstPlace_2 : decode cX9_firstPlace 2 = .ok (.iload_n 2, 1) := by decide +kernel
theorem dX9_firstPlace_3 : decode cX9_firstPlace 3 = .ok (.aload_n 0, 1) := by decide +kernel
theorem dX9_firstPlace_4 : decode cX9_firstPlace 4 = .ok (.getfield 71, 3) := by decide +kernel
theorem dX9_firstPlace_7 : decode cX9_firstPlace 7 = .ok (.if_icmp .ge 21, 3) := by decide +kernel
theorem dX9_firstPlace_10 : decode cX9_firstPlace 10 = .ok (.aload_n 0, 1) := by decide +kernel
theorem dX9_firstPlace_11 : decode cX9_firstPlace 11 = .ok (.getfield 26, 3) := by decide +kernel
theorem dX9_firstPlace_14 : decode cX9_firstPlace 14 = .ok (.iload_n 2, 1) := by decide +kernel
theorem dX9_firstPlace_15 : decode cX9_firstPlace 15 = .ok (.iaload, 1) := by decide +kernel
theorem dX9_firstPlace_16 : decode cX9_firstPlace 16 = .ok (.iload_n 1, 1) := by decide +kernel
theorem dX9_firstPlace_17 : decode cX9_firstPlace 17 = .ok (.if_icmp .ne 5, 3) := by decide +kernel
theorem dX9_firstPlace_20 : decode cX9_firstPlace 20 = .ok (.iload_n 2, 1) := by decide +kernel
theorem dX9_firstPlace_21 : decode cX9_firstPlace 21 = .ok (.ireturn, 1) := by decide +kernel
theorem dX9_firstPlace_22 : decode cX9_firstPlace 22 = .ok (.iinc 2 1, 3) := by decide +kernel
theorem dX9_firstPlace_25 : decode cX9_firstPlace 25 = .ok (.goto (-23), 3) := by decide +kernel
theorem dX9_firstPlace_28 : decode cX9_firstPlace 28 = .ok (.bipush (-6), 2) := by decide +kernel
theorem dX9_firstPlace_30 : decode cX9_firstPlace 30 = .ok (.ireturn, 1) := by decide +kernel
theorem dX9_lastPlace_0 : decode cX9_lastPlace 0 = .ok (.bipush (-6), 2) := by decide +kernel
theorem dX9_lastPlace_2 : decode cX9_lastPlace 2 = .ok (.istore_n 2, 1) := by decide +kernel
theorem dX9_lastPlace_3 : decode cX9_lastPlace 3 = .ok (.iconst 0, 1) := by decide +kernel
theorem dX9_lastPlace_4 : decode cX9_lastPlace 4 = .ok (.istore_n 3, 1) := by decide +kernel
theorem dX9_lastPlace_5 : decode cX9_lastPlace 5 = .ok (.iload_n 3, 1) := by decide +kernel
theorem dX9_lastPlace_6 : decode cX9_lastPlace 6 = .ok (.aload_n 0, 1) := by decide +kernel
theorem dX9_lastPlace_7 : decode cX9_lastPlace 7 = .ok (.getfield 71, 3) := by decide +kernel
theorem dX9_lastPlace_10 : decode cX9_lastPlace 10 = .ok (.if_icmp .ge 25, 3) := by decide +kernel
theorem dX9_lastPlace_13 : decode cX9_lastPlace 13 = .ok (.aload_n 0, 1) := by decide +kernel
theorem dX9_lastPlace_14 : decode cX9_lastPlace 14 = .ok (.getfield 26, 3) := by decide +kernel
theorem dX9_lastPlace_17 : decode cX9_lastPlace 17 = .ok (.iload_n 3, 1) := by decide +kernel
theorem dX9_lastPlace_18 : decode cX9_lastPlace 18 = .ok (.iaload, 1) := by decide +kernel
theorem dX9_lastPlace_19 : decode cX9_lastPlace 19 = .ok (.iload_n 1, 1) := by decide +kernel
theorem dX9_lastPlace_20 : decode cX9_lastPlace 20 = .ok (.if_icmp .ne 7, 3) := by decide +kernel
theorem dX9_lastPlace_23 : decode cX9_lastPlace 23 = .ok (.iload_n 3, 1) := by decide +kernel
theorem dX9_lastPlace_24 : decode cX9_lastPlace 24 = .ok (.goto 4, 3) := by decide +kernel
theorem dX9_lastPlace_27 : decode cX9_lastPlace 27 = .ok (.iload_n 2, 1) := by decide +kernel
theorem dX9_lastPlace_28 : decode cX9_lastPlace 28 = .ok (.istore_n 2, 1) := by decide +kernel
theorem dX9_lastPlace_29 : decode cX9_lastPlace 29 = .ok (.iinc 3 1, 3) := by decide +kernel
theorem dX9_lastPlace_32 : decode cX9_lastPlace 32 = .ok (.goto (-27), 3) := by decide +kernel
theorem dX9_lastPlace_35 : decode cX9_lastPlace 35 = .ok (.iload_n 2, 1) := by decide +kernel
theorem dX9_lastPlace_36 : decode cX9_lastPlace 36 = .ok (.ireturn, 1) := by decide +kernel
theorem dX9_comes_0 : decode cX9_comes 0 = .ok (.aload_n 0, 1) := by decide +kernel
theorem dX9_comes_1 : decode cX9_comes 1 = .ok (.iload_n 1, 1) := by decide +kernel
theorem dX9_comes_2 : decode cX9_comes 2 = .ok (.iconst 1, 1) := by decide +kernel
theorem dX9_comes_3 : decode cX9_comes 3 = .ok (.invokevirtual 89, 3) := by decide +kernel
theorem dX9_comes_6 : decode cX9_comes 6 = .ok (.istore_n 3, 1) := by decide +kernel
theorem dX9_comes_7 : decode cX9_comes 7 = .ok (.aload_n 0, 1) := by decide +kernel
theorem dX9_comes_8 : decode cX9_comes 8 = .ok (.iload_n 1, 1) := by decide +kernel
theorem dX9_comes_9 : decode cX9_comes 9 = .ok (.iconst 0, 1) := by decide +kernel
theorem dX9_comes_10 : decode cX9_comes 10 = .ok (.invokevirtual 89, 3) := by decide +kernel
theorem dX9_comes_13 : decode cX9_comes 13 = .ok (.istore 4, 2) := by decide +kernel
theorem dX9_comes_15 : decode cX9_comes 15 = .ok (.aload_n 0, 1) := by decide +kernel
theorem dX9_comes_16 : decode cX9_comes 16 = .ok (.getfield 26, 3) := by decide +kernel
theorem dX9_comes_19 : decode cX9_comes 19 = .ok (.iload_n 2, 1) := by decide +kernel
theorem dX9_comes_20 : decode cX9_comes 20 = .ok (.iaload, 1) := by decide +kernel
theorem dX9_comes_21 : decode cX9_comes 21 = .ok (.iload_n 3, 1) := by decide +kernel
theorem dX9_comes_22 : decode cX9_comes 22 = .ok (.if_icmp .ne 35, 3) := by decide +kernel
theorem dX9_comes_25 : decode cX9_comes 25 = .ok (.iload 4, 2) := by decide +kernel
theorem dX9_comes_27 : decode cX9_comes 27 = .ok (.iconst 1, 1) := by decide +kernel
theorem dX9_comes_28 : decode cX9_comes 28 = .ok (.if_icmp .eq 25, 3) := by decide +kernel
theorem dX9_comes_31 : decode cX9_comes 31 = .ok (.iload_n 2, 1) := by decide +kernel
theorem dX9_comes_32 : decode cX9_comes 32 = .ok (.iload 4, 2) := by decide +kernel
theorem dX9_comes_34 : decode cX9_comes 34 = .ok (.ifCond .ne 11, 3) := by decide +kernel
theorem dX9_comes_37 : decode cX9_comes 37 = .ok (.aload_n 0, 1) := by decide +kernel
theorem dX9_comes_38 : decode cX9_comes 38 = .ok (.iload_n 3, 1) := by decide +kernel
theorem dX9_comes_39 : decode cX9_comes 39 = .ok (.invokevirtual 93, 3) := by decide +kernel
theorem dX9_comes_42 : decode cX9_comes 42 = .ok (.goto 8, 3) := by decide +kernel
theorem dX9_comes_45 : decode cX9_comes 45 = .ok (.aload_n 0, 1) := by decide +kernel
theorem dX9_comes_46 : decode cX9_comes 46 = .ok (.iload_n 3, 1) := by decide +kernel
theorem dX9_comes_47 : decode cX9_comes 47 = .ok (.invokevirtual 96, 3) := by decide +kernel
theorem dX9_comes_50 : decode cX9_comes 50 = .ok (.if_icmp .ne 7, 3) := by decide +kernel
theorem dX9_comes_53 : decode cX9_comes 53 = .ok (.iconst 1, 1) := by decide +kernel
theorem dX9_comes_54 : decode cX9_comes 54 = .ok (.goto 4, 3) := by decide +kernel
theorem dX9_comes_57 : decode cX9_comes 57 = .ok (.iconst 0, 1) := by decide +kernel
theorem dX9_comes_58 : decode cX9_comes 58 = .ok (.ireturn, 1) := by decide +kernel
theorem dX9_lead_0 : decode cX9_lead 0 = .ok (.iload_n 0, 1) := by decide +kernel
theorem dX9_lead_1 : decode cX9_lead 1 = .ok (.ifCond .ne 7, 3) := by decide +kernel
theorem dX9_lead_4 : decode cX9_lead 4 = .ok (.iconst 5, 1) := by decide +kernel
theorem dX9_lead_5 : decode cX9_lead 5 = .ok (.goto 14, 3) := by decide +kernel
theorem dX9_lead_8 : decode cX9_lead 8 = .ok (.iload_n 0, 1) := by decide +kernel
theorem dX9_lead_9 : decode cX9_lead 9 = .ok (.iconst 2, 1) := by decide +kernel
theorem dX9_lead_10 : decode cX9_lead 10 = .ok (.if_icmp .ne 8, 3) := by decide +kernel
theorem dX9_lead_13 : decode cX9_lead 13 = .ok (.bipush 20, 2) := by decide +kernel
theorem dX9_lead_15 : decode cX9_lead 15 = .ok (.goto 4, 3) := by decide +kernel
theorem dX9_lead_18 : decode cX9_lead 18 = .ok (.iconst 0, 1) := by decide +kernel
theorem dX9_lead_19 : decode cX9_lead 19 = .ok (.ireturn, 1) := by decide +kernel
theorem dX9_isDark_0 : decode cX9_isDark 0 = .ok (.iconst 0, 1) := by decide +kernel
theorem dX9_isDark_1 : decode cX9_isDark 1 = .ok (.istore_n 2, 1) := by decide +kernel
theorem dX9_isDark_2 : decode cX9_isDark 2 = .ok (.iconst 0, 1) := by decide +kernel
theorem dX9_isDark_3 : decode cX9_isDark 3 = .ok (.istore_n 3, 1) := by decide +kernel
theorem dX9_isDark_4 : decode cX9_isDark 4 = .ok (.iload_n 3, 1) := by decide +kernel
theorem dX9_isDark_5 : decode cX9_isDark 5 = .ok (.aload_n 0, 1) := by decide +kernel
theorem dX9_isDark_6 : decode cX9_isDark 6 = .ok (.getfield 7, 3) := by decide +kernel
theorem dX9_isDark_9 : decode cX9_isDark 9 = .ok (.iconst 4, 1) := by decide +kernel
theorem dX9_isDark_10 : decode cX9_isDark 10 = .ok (.iaload, 1) := by decide +kernel
theorem dX9_isDark_11 : decode cX9_isDark 11 = .ok (.if_icmp .ge 77, 3) := by decide +kernel
theorem dX9_isDark_14 : decode cX9_isDark 14 = .ok (.aload_n 0, 1) := by decide +kernel
theorem dX9_isDark_15 : decode cX9_isDark 15 = .ok (.getfield 7, 3) := by decide +kernel
theorem dX9_isDark_18 : decode cX9_isDark 18 = .ok (.sipush 142, 3) := by decide +kernel
theorem dX9_isDark_21 : decode cX9_isDark 21 = .ok (.iconst 2, 1) := by decide +kernel
theorem dX9_isDark_22 : decode cX9_isDark 22 = .ok (.iload_n 3, 1) := by decide +kernel
theorem dX9_isDark_23 : decode cX9_isDark 23 = .ok (.imul, 1) := by decide +kernel
theorem dX9_isDark_24 : decode cX9_isDark 24 = .ok (.iadd, 1) := by decide +kernel
theorem dX9_isDark_25 : decode cX9_isDark 25 = .ok (.iaload, 1) := by decide +kernel
theorem dX9_isDark_26 : decode cX9_isDark 26 = .ok (.istore 4, 2) := by decide +kernel
theorem dX9_isDark_28 : decode cX9_isDark 28 = .ok (.iload_n 2, 1) := by decide +kernel
theorem dX9_isDark_29 : decode cX9_isDark 29 = .ok (.ifCond .ne 47, 3) := by decide +kernel
theorem dX9_isDark_32 : decode cX9_isDark 32 = .ok (.iload 4, 2) := by decide +kernel
theorem dX9_isDark_34 : decode cX9_isDark 34 = .ok (.aload_n 0, 1) := by decide +kernel
theorem dX9_isDark_35 : decode cX9_isDark 35 = .ok (.getfield 71, 3) := by decide +kernel
theorem dX9_isDark_38 : decode cX9_isDark 38 = .ok (.if_icmp .ge 42, 3) := by decide +kernel
theorem dX9_isDark_41 : decode cX9_isDark 41 = .ok (.iload_n 1, 1) := by decide +kernel
theorem dX9_isDark_42 : decode cX9_isDark 42 = .ok (.aload_n 0, 1) := by decide +kernel
theorem dX9_isDark_43 : decode cX9_isDark 43 = .ok (.getfield 29, 3) := by decide +kernel
theorem dX9_isDark_46 : decode cX9_isDark 46 = .ok (.iload 4, 2) := by decide +kernel
theorem dX9_isDark_48 : decode cX9_isDark 48 = .ok (.iaload, 1) := by decide +kernel
theorem dX9_isDark_49 : decode cX9_isDark 49 = .ok (.if_icmp .lt 31, 3) := by decide +kernel
theorem dX9_isDark_52 : decode cX9_isDark 52 = .ok (.iload_n 1, 1) := by decide +kernel
theorem dX9_isDark_53 : decode cX9_isDark 53 = .ok (.aload_n 0, 1) := by decide +kernel
theorem dX9_isDark_54 : decode cX9_isDark 54 = .ok (.aload_n 0, 1) := by decide +kernel
theorem dX9_isDark_55 : decode cX9_isDark 55 = .ok (.getfield 7, 3) := by decide +kernel
theorem dX9_isDark_58 : decode cX9_isDark 58 = .ok (.sipush 142, 3) := by decide +kernel
theorem dX9_isDark_61 : decode cX9_isDark 61 = .ok (.iconst 2, 1) := by decide +kernel
theorem dX9_isDark_62 : decode cX9_isDark 62 = .ok (.iload_n 3, 1) := by decide +kernel
theorem dX9_isDark_63 : decode cX9_isDark 63 = .ok (.imul, 1) := by decide +kernel
theorem dX9_isDark_64 : decode cX9_isDark 64 = .ok (.iadd, 1) := by decide +kernel
theorem dX9_isDark_65 : decode cX9_isDark 65 = .ok (.iconst 1, 1) := by decide +kernel
theorem dX9_isDark_66 : decode cX9_isDark 66 = .ok (.iadd, 1) := by decide +kernel
theorem dX9_isDark_67 : decode cX9_isDark 67 = .ok (.iaload, 1) := by decide +kernel
theorem dX9_isDark_68 : decode cX9_isDark 68 = .ok (.iconst 1, 1) := by decide +kernel
theorem dX9_isDark_69 : decode cX9_isDark 69 = .ok (.iadd, 1) := by decide +kernel
theorem dX9_isDark_70 : decode cX9_isDark 70 = .ok (.invokevirtual 99, 3) := by decide +kernel
theorem dX9_isDark_73 : decode cX9_isDark 73 = .ok (.if_icmp .ge 7, 3) := by decide +kernel
theorem dX9_isDark_76 : decode cX9_isDark 76 = .ok (.iconst 1, 1) := by decide +kernel
theorem dX9_isDark_77 : decode cX9_isDark 77 = .ok (.goto 4, 3) := by decide +kernel
theorem dX9_isDark_80 : decode cX9_isDark 80 = .ok (.iconst 0, 1) := by decide +kernel
theorem dX9_isDark_81 : decode cX9_isDark 81 = .ok (.istore_n 2, 1) := by decide +kernel
theorem dX9_isDark_82 : decode cX9_isDark 82 = .ok (.iinc 3 1, 3) := by decide +kernel
theorem dX9_isDark_85 : decode cX9_isDark 85 = .ok (.goto (-81), 3) := by decide +kernel
theorem dX9_isDark_88 : decode cX9_isDark 88 = .ok (.iload_n 2, 1) := by decide +kernel
theorem dX9_isDark_89 : decode cX9_isDark 89 = .ok (.ireturn, 1) := by decide +kernel
theorem dX9_laysShowing_0 : decode cX9_laysShowing 0 = .ok (.aload_n 0, 1) := by decide +kernel
theorem dX9_laysShowing_1 : decode cX9_laysShowing 1 = .ok (.getfield 102, 3) := by decide +kernel
theorem dX9_laysShowing_4 : decode cX9_laysShowing 4 = .ok (.istore_n 3, 1) := by decide +kernel
theorem dX9_laysShowing_5 : decode cX9_laysShowing 5 = .ok (.aload_n 0, 1) := by decide +kernel
theorem dX9_laysShowing_6 : decode cX9_laysShowing 6 = .ok (.getfield 29, 3) := by decide +kernel
theorem dX9_laysShowing_9 : decode cX9_laysShowing 9 = .ok (.iload_n 2, 1) := by decide +kernel
theorem dX9_laysShowing_10 : decode cX9_laysShowing 10 = .ok (.iaload, 1) := by decide +kernel
theorem dX9_laysShowing_11 : decode cX9_laysShowing 11 = .ok (.aload_n 0, 1) := by decide +kernel
theorem dX9_laysShowing_12 : decode cX9_laysShowing 12 = .ok (.iload_n 1, 1) := by decide +kernel
theorem dX9_laysShowing_13 : decode cX9_laysShowing 13 = .ok (.iconst 0, 1) := by decide +kernel
theorem dX9_laysShowing_14 : decode cX9_laysShowing 14 = .ok (.invokevirtual 89, 3) := by decide +kernel
theorem dX9_laysShowing_17 : decode cX9_laysShowing 17 = .ok (.invokestatic 105, 3) := by decide +kernel
theorem dX9_laysShowing_20 : decode cX9_laysShowing 20 = .ok (.isub, 1) := by decide +kernel
theorem dX9_laysShowing_21 : decode cX9_laysShowing 21 = .ok (.istore 4, 2) := by decide +kernel
theorem dX9_laysShowing_23 : decode cX9_laysShowing 23 = .ok (.aload_n 0, 1) := by decide +kernel
theorem dX9_laysShowing_24 : decode cX9_laysShowing 24 = .ok (.getfield 32, 3) := by decide +kernel
theorem dX9_laysShowing_27 : decode cX9_laysShowing 27 = .ok (.iload_n 3, 1) := by decide +kernel
theorem dX9_laysShowing_28 : decode cX9_laysShowing 28 = .ok (.iload_n 1, 1) := by decide +kernel
theorem dX9_laysShowing_29 : decode cX9_laysShowing 29 = .ok (.iastore, 1) := by decide +kernel
theorem dX9_laysShowing_30 : decode cX9_laysShowing 30 = .ok (.aload_n 0, 1) := by decide +kernel
theorem dX9_laysShowing_31 : decode cX9_laysShowing 31 = .ok (.getfield 35, 3) := by decide +kernel
theorem dX9_laysShowing_34 : decode cX9_laysShowing 34 = .ok (.iload_n 3, 1) := by decide +kernel
theorem dX9_laysShowing_35 : decode cX9_laysShowing 35 = .ok (.iload_n 2, 1) := by decide +kernel
theorem dX9_laysShowing_36 : decode cX9_laysShowing 36 = .ok (.iastore, 1) := by decide +kernel
theorem dX9_laysShowing_37 : decode cX9_laysShowing 37 = .ok (.aload_n 0, 1) := by decide +kernel
theorem dX9_laysShowing_38 : decode cX9_laysShowing 38 = .ok (.getfield 38, 3) := by decide +kernel
theorem dX9_laysShowing_41 : decode cX9_laysShowing 41 = .ok (.iload_n 3, 1) := by decide +kernel
theorem dX9_laysShowing_42 : decode cX9_laysShowing 42 = .ok (.iload 4, 2) := by decide +kernel
theorem dX9_laysShowing_44 : decode cX9_laysShowing 44 = .ok (.ifCond .ge 7, 3) := by decide +kernel
theorem dX9_laysShowing_47 : decode cX9_laysShowing 47 = .ok (.iconst 0, 1) := by decide +kernel
theorem dX9_laysShowing_48 : decode cX9_laysShowing 48 = .ok (.goto 5, 3) := by decide +kernel
theorem dX9_laysShowing_51 : decode cX9_laysShowing 51 = .ok (.iload 4, 2) := by decide +kernel
theorem dX9_laysShowing_53 : decode cX9_laysShowing 53 = .ok (.iastore, 1) := by decide +kernel
theorem dX9_laysShowing_54 : decode cX9_laysShowing 54 = .ok (.aload_n 0, 1) := by decide +kernel
theorem dX9_laysShowing_55 : decode cX9_laysShowing 55 = .ok (.getfield 41, 3) := by decide +kernel
theorem dX9_laysShowing_58 : decode cX9_laysShowing 58 = .ok (.iload_n 3, 1) := by decide +kernel
theorem dX9_laysShowing_59 : decode cX9_laysShowing 59 = .ok (.aload_n 0, 1) := by decide +kernel
theorem dX9_laysShowing_60 : decode cX9_laysShowing 60 = .ok (.iload_n 2, 1) := by decide +kernel
theorem dX9_laysShowing_61 : decode cX9_laysShowing 61 = .ok (.aload_n 0, 1) := by decide +kernel
theorem dX9_laysShowing_62 : decode cX9_laysShowing 62 = .ok (.iload_n 1, 1) := by decide +kernel
theorem dX9_laysShowing_63 : decode cX9_laysShowing 63 = .ok (.iconst 2, 1) := by decide +kernel
theorem dX9_laysShowing_64 : decode cX9_laysShowing 64 = .ok (.invokevirtual 89, 3) := by decide +kernel
theorem dX9_laysShowing_67 : decode cX9_laysShowing 67 = .ok (.iadd, 1) := by decide +kernel
theorem dX9_laysShowing_68 : decode cX9_laysShowing 68 = .ok (.invokevirtual 99, 3) := by decide +kernel
theorem dX9_laysShowing_71 : decode cX9_laysShowing 71 = .ok (.iastore, 1) := by decide +kernel
theorem dX9_laysShowing_72 : decode cX9_laysShowing 72 = .ok (.aload_n 0, 1) := by decide +kernel
theorem dX9_laysShowing_73 : decode cX9_laysShowing 73 = .ok (.dup, 1) := by decide +kernel
theorem dX9_laysShowing_74 : decode cX9_laysShowing 74 = .ok (.getfield 102, 3) := by decide +kernel
theorem dX9_laysShowing_77 : decode cX9_laysShowing 77 = .ok (.iconst 1, 1) := by decide +kernel
theorem dX9_laysShowing_78 : decode cX9_laysShowing 78 = .ok (.iadd, 1) := by decide +kernel
theorem dX9_laysShowing_79 : decode cX9_laysShowing 79 = .ok (.putfield 102, 3) := by decide +kernel
theorem dX9_laysShowing_82 : decode cX9_laysShowing 82 = .ok (.return_, 1) := by decide +kernel
theorem dX9_laysShowings_0 : decode cX9_laysShowings 0 = .ok (.aload_n 0, 1) := by decide +kernel
theorem dX9_laysShowings_1 : decode cX9_laysShowings 1 = .ok (.invokevirtual 108, 3) := by decide +kernel
theorem dX9_laysShowings_4 : decode cX9_laysShowings 4 = .ok (.aload_n 0, 1) := by decide +kernel
theorem dX9_laysShowings_5 : decode cX9_laysShowings 5 = .ok (.iconst 0, 1) := by decide +kernel
theorem dX9_laysShowings_6 : decode cX9_laysShowings 6 = .ok (.putfield 102, 3) := by decide +kernel
theorem dX9_laysShowings_9 : decode cX9_laysShowings 9 = .ok (.iconst 0, 1) := by decide +kernel
theorem dX9_laysShowings_10 : decode cX9_laysShowings 10 = .ok (.istore_n 1, 1) := by decide +kernel
theorem dX9_laysShowings_11 : decode cX9_laysShowings 11 = .ok (.iload_n 1, 1) := by decide +kernel
theorem dX9_laysShowings_12 : decode cX9_laysShowings 12 = .ok (.aload_n 0, 1) := by decide +kernel
theorem dX9_laysShowings_13 : decode cX9_laysShowings 13 = .ok (.getfield 71, 3) := by decide +kernel
theorem dX9_laysShowings_16 : decode cX9_laysShowings 16 = .ok (.if_icmp .ge 42, 3) := by decide +kernel
theorem dX9_laysShowings_19 : decode cX9_laysShowings 19 = .ok (.iconst 0, 1) := by decide +kernel
theorem dX9_laysShowings_20 : decode cX9_laysShowings 20 = .ok (.istore_n 2, 1) := by decide +kernel
theorem dX9_laysShowings_21 : decode cX9_laysShowings 21 = .ok (.iload_n 2, 1) := by decide +kernel
theorem dX9_laysShowings_22 : decode cX9_laysShowings 22 = .ok (.aload_n 0, 1) := by decide +kernel
theorem dX9_laysShowings_23 : decode cX9_laysShowings 23 = .ok (.getfield 7, 3) := by decide +kernel
theorem dX9_laysShowings_26 : decode cX9_laysShowings 26 = .ok (.iconst 5, 1) := by decide +kernel
theorem dX9_laysShowings_27 : decode cX9_laysShowings 27 = .ok (.iaload, 1) := by decide +kernel
theorem dX9_laysShowings_28 : decode cX9_laysShowings 28 = .ok (.if_icmp .ge 24, 3) := by decide +kernel
theorem dX9_laysShowings_31 : decode cX9_laysShowings 31 = .ok (.aload_n 0, 1) := by decide +kernel
theorem dX9_laysShowings_32 : decode cX9_laysShowings 32 = .ok (.iload_n 2, 1) := by decide +kernel
theorem dX9_laysShowings_33 : decode cX9_laysShowings 33 = .ok (.iload_n 1, 1) := by decide +kernel
theorem dX9_laysShowings_34 : decode cX9_laysShowings 34 = .ok (.invokevirtual 111, 3) := by decide +kernel
theorem dX9_laysShowings_37 : decode cX9_laysShowings 37 = .ok (.ifCond .eq 9, 3) := by decide +kernel
theorem dX9_laysShowings_40 : decode cX9_laysShowings 40 = .ok (.aload_n 0, 1) := by decide +kernel
theorem dX9_laysShowings_41 : decode cX9_laysShowings 41 = .ok (.iload_n 2, 1) := by decide +kernel
theorem dX9_laysShowings_42 : decode cX9_laysShowings 42 = .ok (.iload_n 1, 1) := by decide +kernel
theorem dX9_laysShowings_43 : decode cX9_laysShowings 43 = .ok (.invokevirtual 115, 3) := by decide +kernel
theorem dX9_laysShowings_46 : decode cX9_laysShowings 46 = .ok (.iinc 2 1, 3) := by decide +kernel
theorem dX9_laysShowings_49 : decode cX9_laysShowings 49 = .ok (.goto (-28), 3) := by decide +kernel
theorem dX9_laysShowings_52 : decode cX9_laysShowings 52 = .ok (.iinc 1 1, 3) := by decide +kernel
theorem dX9_laysShowings_55 : decode cX9_laysShowings 55 = .ok (.goto (-44), 3) := by decide +kernel
theorem dX9_laysShowings_58 : decode cX9_laysShowings 58 = .ok (.bipush (-6), 2) := by decide +kernel
theorem dX9_laysShowings_60 : decode cX9_laysShowings 60 = .ok (.istore_n 1, 1) := by decide +kernel
theorem dX9_laysShowings_61 : decode cX9_laysShowings 61 = .ok (.iconst 0, 1) := by decide +kernel
theorem dX9_laysShowings_62 : decode cX9_laysShowings 62 = .ok (.istore_n 2, 1) := by decide +kernel
theorem dX9_laysShowings_63 : decode cX9_laysShowings 63 = .ok (.iload_n 2, 1) := by decide +kernel
theorem dX9_laysShowings_64 : decode cX9_laysShowings 64 = .ok (.aload_n 0, 1) := by decide +kernel
theorem dX9_laysShowings_65 : decode cX9_laysShowings 65 = .ok (.getfield 102, 3) := by decide +kernel
theorem dX9_laysShowings_68 : decode cX9_laysShowings 68 = .ok (.if_icmp .ge 24, 3) := by decide +kernel
theorem dX9_laysShowings_71 : decode cX9_laysShowings 71 = .ok (.aload_n 0, 1) := by decide +kernel
theorem dX9_laysShowings_72 : decode cX9_laysShowings 72 = .ok (.iload_n 2, 1) := by decide +kernel
theorem dX9_laysShowings_73 : decode cX9_laysShowings 73 = .ok (.iload_n 1, 1) := by decide +kernel
theorem dX9_laysShowings_74 : decode cX9_laysShowings 74 = .ok (.invokevirtual 118, 3) := by decide +kernel
theorem dX9_laysShowings_77 : decode cX9_laysShowings 77 = .ok (.ifCond .eq 7, 3) := by decide +kernel
theorem dX9_laysShowings_80 : decode cX9_laysShowings 80 = .ok (.iload_n 2, 1) := by decide +kernel
theorem dX9_laysShowings_81 : decode cX9_laysShowings 81 = .ok (.goto 4, 3) := by decide +kernel
theorem dX9_laysShowings_84 : decode cX9_laysShowings 84 = .ok (.iload_n 1, 1) := by decide +kernel
theorem dX9_laysShowings_85 : decode cX9_laysShowings 85 = .ok (.istore_n 1, 1) := by decide +kernel
theorem dX9_laysShowings_86 : decode cX9_laysShowings 86 = .ok (.iinc 2 1, 3) := by decide +kernel
theorem dX9_laysShowings_89 : decode cX9_laysShowings 89 = .ok (.goto (-26), 3) := by decide +kernel
theorem dX9_laysShowings_92 : decode cX9_laysShowings 92 = .ok (.return_, 1) := by decide +kernel
theorem dX9_looksAt_0 : decode cX9_looksAt 0 = .ok (.iload_n 2, 1) := by decide +kernel
theorem dX9_looksAt_1 : decode cX9_looksAt 1 = .ok (.bipush (-6), 2) := by decide +kernel
theorem dX9_looksAt_3 : decode cX9_looksAt 3 = .ok (.if_icmp .eq 22, 3) := by decide +kernel
theorem dX9_looksAt_6 : decode cX9_looksAt 6 = .ok (.aload_n 0, 1) := by decide +kernel
theorem dX9_looksAt_7 : decode cX9_looksAt 7 = .ok (.getfield 50, 3) := by decide +kernel
theorem dX9_looksAt_10 : decode cX9_looksAt 10 = .ok (.iload_n 2, 1) := by decide +kernel
theorem dX9_looksAt_11 : decode cX9_looksAt 11 = .ok (.iaload, 1) := by decide +kernel
theorem dX9_looksAt_12 : decode cX9_looksAt 12 = .ok (.aload_n 0, 1) := by decide +kernel
theorem dX9_looksAt_13 : decode cX9_looksAt 13 = .ok (.getfield 38, 3) := by decide +kernel
theorem dX9_looksAt_16 : decode cX9_looksAt 16 = .ok (.iload_n 1, 1) := by decide +kernel
theorem dX9_looksAt_17 : decode cX9_looksAt 17 = .ok (.iaload, 1) := by decide +kernel
theorem dX9_looksAt_18 : decode cX9_looksAt 18 = .ok (.if_icmp .le 7, 3) := by decide +kernel
theorem dX9_looksAt_21 : decode cX9_looksAt 21 = .ok (.iconst 1, 1) := by decide +kernel
theorem dX9_looksAt_22 : decode cX9_looksAt 22 = .ok (.goto 4, 3) := by decide +kernel
theorem dX9_looksAt_25 : decode cX9_looksAt 25 = .ok (.iconst 0, 1) := by decide +kernel
theorem dX9_looksAt_26 : decode cX9_looksAt 26 = .ok (.istore_n 3, 1) := by decide +kernel
theorem dX9_looksAt_27 : decode cX9_looksAt 27 = .ok (.aload_n 0, 1) := by decide +kernel
theorem dX9_looksAt_28 : decode cX9_looksAt 28 = .ok (.aload_n 0, 1) := by decide +kernel
theorem dX9_looksAt_29 : decode cX9_looksAt 29 = .ok (.getfield 32, 3) := by decide +kernel
theorem dX9_looksAt_32 : decode cX9_looksAt 32 = .ok (.iload_n 1, 1) := by decide +kernel
theorem dX9_looksAt_33 : decode cX9_looksAt 33 = .ok (.iaload, 1) := by decide +kernel
theorem dX9_looksAt_34 : decode cX9_looksAt 34 = .ok (.iconst 0, 1) := by decide +kernel
theorem dX9_looksAt_35 : decode cX9_looksAt 35 = .ok (.invokevirtual 89, 3) := by decide +kernel
theorem dX9_looksAt_38 : decode cX9_looksAt 38 = .ok (.iconst 1, 1) := by decide +kernel
theorem dX9_looksAt_39 : decode cX9_looksAt 39 = .ok (.if_icmp .eq 7, 3) := by decide +kernel
theorem dX9_looksAt_42 : decode cX9_looksAt 42 = .ok (.iconst 1, 1) := by decide +kernel
theorem dX9_looksAt_43 : decode cX9_looksAt 43 = .ok (.goto 4, 3) := by decide +kernel
theorem dX9_looksAt_46 : decode cX9_looksAt 46 = .ok (.iconst 0, 1) := by decide +kernel
theorem dX9_looksAt_47 : decode cX9_looksAt 47 = .ok (.istore 4, 2) := by decide +kernel
theorem dX9_looksAt_49 : decode cX9_looksAt 49 = .ok (.aload_n 0, 1) := by decide +kernel
theorem dX9_looksAt_50 : decode cX9_looksAt 50 = .ok (.getfield 38, 3) := by decide +kernel
theorem dX9_looksAt_53 : decode cX9_looksAt 53 = .ok (.iload_n 1, 1) := by decide +kernel
theorem dX9_looksAt_54 : decode cX9_looksAt 54 = .ok (.iaload, 1) := by decide +kernel
theorem dX9_looksAt_55 : decode cX9_looksAt 55 = .ok (.istore 5, 2) := by decide +kernel
theorem dX9_looksAt_57 : decode cX9_looksAt 57 = .ok (.iload_n 3, 1) := by decide +kernel
theorem dX9_looksAt_58 : decode cX9_looksAt 58 = .ok (.ifCond .eq 41, 3) := by decide +kernel
theorem dX9_looksAt_61 : decode cX9_looksAt 61 = .ok (.iload 4, 2) := by decide +kernel
theorem dX9_looksAt_63 : decode cX9_looksAt 63 = .ok (.ifCond .eq 12, 3) := by decide +kernel
theorem dX9_looksAt_66 : decode cX9_looksAt 66 = .ok (.aload_n 0, 1) := by decide +kernel
theorem dX9_looksAt_67 : decode cX9_looksAt 67 = .ok (.getfield 50, 3) := by decide +kernel
theorem dX9_looksAt_70 : decode cX9_looksAt 70 = .ok (.iload_n 2, 1) := by decide +kernel
theorem dX9_looksAt_71 : decode cX9_looksAt 71 = .ok (.iaload, 1) := by decide +kernel
theorem dX9_looksAt_72 : decode cX9_looksAt 72 = .ok (.goto 25, 3) := by decide +kernel
theorem dX9_looksAt_75 : decode cX9_looksAt 75 = .ok (.aload_n 0, 1) := by decide +kernel
theorem dX9_looksAt_76 : decode cX9_looksAt 76 = .ok (.getfield 47, 3) := by decide +kernel
theorem dX9_looksAt_79 : decode cX9_looksAt 79 = .ok (.iload_n 2, 1) := by decide +kernel
theorem dX9_looksAt_80 : decode cX9_looksAt 80 = .ok (.iaload, 1) := by decide +kernel
theorem dX9_looksAt_81 : decode cX9_looksAt 81 = .ok (.iload 5, 2) := by decide +kernel
theorem dX9_looksAt_83 : decode cX9_looksAt 83 = .ok (.if_icmp .le 12, 3) := by decide +kernel
theorem dX9_looksAt_86 : decode cX9_looksAt 86 = .ok (.aload_n 0, 1) := by decide +kernel
theorem dX9_looksAt_87 : decode cX9_looksAt 87 = .ok (.getfield 47, 3) := by decide +kernel
theorem dX9_looksAt_90 : decode cX9_looksAt 90 = .ok (.iload_n 2, 1) := by decide +kernel
theorem dX9_looksAt_91 : decode cX9_looksAt 91 = .ok (.iaload, 1) := by decide +kernel
theorem dX9_looksAt_92 : decode cX9_looksAt 92 = .ok (.goto 5, 3) := by decide +kernel
theorem dX9_looksAt_95 : decode cX9_looksAt 95 = .ok (.iload 5, 2) := by decide +kernel
theorem dX9_looksAt_97 : decode cX9_looksAt 97 = .ok (.istore 5, 2) := by decide +kernel
theorem dX9_looksAt_99 : decode cX9_looksAt 99 = .ok (.aload_n 0, 1) := by decide +kernel
theorem dX9_looksAt_100 : decode cX9_looksAt 100 = .ok (.getfield 41, 3) := by decide +kernel
theorem dX9_looksAt_103 : decode cX9_looksAt 103 = .ok (.iload_n 1, 1) := by decide +kernel
theorem dX9_looksAt_104 : decode cX9_looksAt 104 = .ok (.iaload, 1) := by decide +kernel
theorem dX9_looksAt_105 : decode cX9_looksAt 105 = .ok (.iload 5, 2) := by decide +kernel
theorem dX9_looksAt_107 : decode cX9_looksAt 107 = .ok (.if_icmp .le 15, 3) := by decide +kernel
theorem dX9_looksAt_110 : decode cX9_looksAt 110 = .ok (.aload_n 0, 1) := by decide +kernel
theorem dX9_looksAt_111 : decode cX9_looksAt 111 = .ok (.getfield 41, 3) := by decide +kernel
theorem dX9_looksAt_114 : decode cX9_looksAt 114 = .ok (.iload_n 1, 1) := by decide +kernel
theorem dX9_looksAt_115 : decode cX9_looksAt 115 = .ok (.iaload, 1) := by decide +kernel
theorem dX9_looksAt_116 : decode cX9_looksAt 116 = .ok (.iload 5, 2) := by decide +kernel
theorem dX9_looksAt_118 : decode cX9_looksAt 118 = .ok (.isub, 1) := by decide +kernel
theorem dX9_looksAt_119 : decode cX9_looksAt 119 = .ok (.goto 4, 3) := by decide +kernel
theorem dX9_looksAt_122 : decode cX9_looksAt 122 = .ok (.iconst 0, 1) := by decide +kernel
theorem dX9_looksAt_123 : decode cX9_looksAt 123 = .ok (.istore 6, 2) := by decide +kernel
theorem dX9_looksAt_125 : decode cX9_looksAt 125 = .ok (.aload_n 0, 1) := by decide +kernel
theorem dX9_looksAt_126 : decode cX9_looksAt 126 = .ok (.getfield 44, 3) := by decide +kernel
theorem dX9_looksAt_129 : decode cX9_looksAt 129 = .ok (.iload_n 1, 1) := by decide +kernel
theorem dX9_looksAt_130 : decode cX9_looksAt 130 = .ok (.aload_n 0, 1) := by decide +kernel
theorem dX9_looksAt_131 : decode cX9_looksAt 131 = .ok (.aload_n 0, 1) := by decide +kernel
theorem dX9_looksAt_132 : decode cX9_looksAt 132 = .ok (.getfield 38, 3) := by decide +kernel
theorem dX9_looksAt_135 : decode cX9_looksAt 135 = .ok (.iload_n 1, 1) := by decide +kernel
theorem dX9_looksAt_136 : decode cX9_looksAt 136 = .ok (.iaload, 1) := by decide +kernel
theorem dX9_looksAt_137 : decode cX9_looksAt 137 = .ok (.invokevirtual 121, 3) := by decide +kernel
theorem dX9_looksAt_140 : decode cX9_looksAt 140 = .ok (.ifCond .eq 7, 3) := by decide +kernel
theorem dX9_looksAt_143 : decode cX9_looksAt 143 = .ok (.iconst 1, 1) := by decide +kernel
theorem dX9_looksAt_144 : decode cX9_looksAt 144 = .ok (.goto 19, 3) := by decide +kernel
theorem dX9_looksAt_147 : decode cX9_looksAt 147 = .ok (.iload 6, 2) := by decide +kernel
theorem dX9_looksAt_149 : decode cX9_looksAt 149 = .ok (.aload_n 0, 1) := by decide +kernel
theorem dX9_looksAt_150 : decode cX9_looksAt 150 = .ok (.getfield 7, 3) := by decide +kernel
theorem dX9_looksAt_153 : decode cX9_looksAt 153 = .ok (.iconst 1, 1) := by decide +kernel
theorem dX9_looksAt_154 : decode cX9_looksAt 154 = .ok (.iaload, 1) := by decide +kernel
theorem dX9_looksAt_155 : decode cX9_looksAt 155 = .ok (.if_icmp .ge 7, 3) := by decide +kernel
theorem dX9_looksAt_158 : decode cX9_looksAt 158 = .ok (.iconst 2, 1) := by decide +kernel
theorem dX9_looksAt_159 : decode cX9_looksAt 159 = .ok (.goto 4, 3) := by decide +kernel
theorem dX9_looksAt_162 : decode cX9_looksAt 162 = .ok (.iconst 0, 1) := by decide +kernel
theorem dX9_looksAt_163 : decode cX9_looksAt 163 = .ok (.iastore, 1) := by decide +kernel
theorem dX9_looksAt_164 : decode cX9_looksAt 164 = .ok (.aload_n 0, 1) := by decide +kernel
theorem dX9_looksAt_165 : decode cX9_looksAt 165 = .ok (.getfield 44, 3) := by decide +kernel
theorem dX9_looksAt_168 : decode cX9_looksAt 168 = .ok (.iload_n 1, 1) := by decide +kernel
theorem dX9_looksAt_169 : decode cX9_looksAt 169 = .ok (.iaload, 1) := by decide +kernel
theorem dX9_looksAt_170 : decode cX9_looksAt 170 = .ok (.ifCond .eq 21, 3) := by decide +kernel
theorem dX9_looksAt_173 : decode cX9_looksAt 173 = .ok (.aload_n 0, 1) := by decide +kernel
theorem dX9_looksAt_174 : decode cX9_looksAt 174 = .ok (.getfield 47, 3) := by decide +kernel
theorem dX9_looksAt_177 : decode cX9_looksAt 177 = .ok (.iload_n 1, 1) := by decide +kernel
theorem dX9_looksAt_178 : decode cX9_looksAt 178 = .ok (.bipush (-6), 2) := by decide +kernel
theorem dX9_looksAt_180 : decode cX9_looksAt 180 = .ok (.iastore, 1) := by decide +kernel
theorem dX9_looksAt_181 : decode cX9_looksAt 181 = .ok (.aload_n 0, 1) := by decide +kernel
theorem dX9_looksAt_182 : decode cX9_looksAt 182 = .ok (.getfield 50, 3) := by decide +kernel
theorem dX9_looksAt_185 : decode cX9_looksAt 185 = .ok (.iload_n 1, 1) := by decide +kernel
theorem dX9_looksAt_186 : decode cX9_looksAt 186 = .ok (.bipush (-6), 2) := by decide +kernel
theorem dX9_looksAt_188 : decode cX9_looksAt 188 = .ok (.iastore, 1) := by decide +kernel
theorem dX9_looksAt_189 : decode cX9_looksAt 189 = .ok (.iconst 0, 1) := by decide +kernel
theorem dX9_looksAt_190 : decode cX9_looksAt 190 = .ok (.ireturn, 1) := by decide +kernel
theorem dX9_looksAt_191 : decode cX9_looksAt 191 = .ok (.iload_n 3, 1) := by decide +kernel
theorem dX9_looksAt_192 : decode cX9_looksAt 192 = .ok (.ifCond .eq 16, 3) := by decide +kernel
theorem dX9_looksAt_195 : decode cX9_looksAt 195 = .ok (.iload 4, 2) := by decide +kernel
theorem dX9_looksAt_197 : decode cX9_looksAt 197 = .ok (.ifCond .ne 11, 3) := by decide +kernel
theorem dX9_looksAt_200 : decode cX9_looksAt 200 = .ok (.aload_n 0, 1) := by decide +kernel
theorem dX9_looksAt_201 : decode cX9_looksAt 201 = .ok (.getfield 50, 3) := by decide +kernel
theorem dX9_looksAt_204 : decode cX9_looksAt 204 = .ok (.iload_n 2, 1) := by decide +kernel
theorem dX9_looksAt_205 : decode cX9_looksAt 205 = .ok (.iload 5, 2) := by decide +kernel
theorem dX9_looksAt_207 : decode cX9_looksAt 207 = .ok (.iastore, 1) := by decide +kernel
theorem dX9_looksAt_208 : decode cX9_looksAt 208 = .ok (.aload_n 0, 1) := by decide +kernel
theorem dX9_looksAt_209 : decode cX9_looksAt 209 = .ok (.getfield 47, 3) := by decide +kernel
theorem dX9_looksAt_212 : decode cX9_looksAt 212 = .ok (.iload_n 1, 1) := by decide +kernel
theorem dX9_looksAt_213 : decode cX9_looksAt 213 = .ok (.iload 5, 2) := by decide +kernel
theorem dX9_looksAt_215 : decode cX9_looksAt 215 = .ok (.iastore, 1) := by decide +kernel
theorem dX9_looksAt_216 : decode cX9_looksAt 216 = .ok (.aload_n 0, 1) := by decide +kernel
theorem dX9_looksAt_217 : decode cX9_looksAt 217 = .ok (.getfield 50, 3) := by decide +kernel
theorem dX9_looksAt_220 : decode cX9_looksAt 220 = .ok (.iload_n 1, 1) := by decide +kernel
theorem dX9_looksAt_221 : decode cX9_looksAt 221 = .ok (.iload 5, 2) := by decide +kernel
theorem dX9_looksAt_223 : decode cX9_looksAt 223 = .ok (.iload 6, 2) := by decide +kernel
theorem dX9_looksAt_225 : decode cX9_looksAt 225 = .ok (.iadd, 1) := by decide +kernel
theorem dX9_looksAt_226 : decode cX9_looksAt 226 = .ok (.iastore, 1) := by decide +kernel
theorem dX9_looksAt_227 : decode cX9_looksAt 227 = .ok (.iconst 1, 1) := by decide +kernel
theorem dX9_looksAt_228 : decode cX9_looksAt 228 = .ok (.ireturn, 1) := by decide +kernel
theorem dX9_withReason_0 : decode cX9_withReason 0 = .ok (.iconst 0, 1) := by decide +kernel
theorem dX9_withReason_1 : decode cX9_withReason 1 = .ok (.istore_n 2, 1) := by decide +kernel
theorem dX9_withReason_2 : decode cX9_withReason 2 = .ok (.iconst 0, 1) := by decide +kernel
theorem dX9_withReason_3 : decode cX9_withReason 3 = .ok (.istore_n 3, 1) := by decide +kernel
theorem dX9_withReason_4 : decode cX9_withReason 4 = .ok (.iload_n 3, 1) := by decide +kernel
theorem dX9_withReason_5 : decode cX9_withReason 5 = .ok (.aload_n 0, 1) := by decide +kernel
theorem dX9_withReason_6 : decode cX9_withReason 6 = .ok (.getfield 102, 3) := by decide +kernel
theorem dX9_withReason_9 : decode cX9_withReason 9 = .ok (.if_icmp .ge 27, 3) := by decide +kernel
theorem dX9_withReason_12 : decode cX9_withReason 12 = .ok (.iload_n 2, 1) := by decide +kernel
theorem dX9_withReason_13 : decode cX9_withReason 13 = .ok (.aload_n 0, 1) := by decide +kernel
theorem dX9_withReason_14 : decode cX9_withReason 14 = .ok (.getfield 44, 3) := by decide +kernel
theorem dX9_withReason_17 : decode cX9_withReason 17 = .ok (.iload_n 3, 1) := by decide +kernel
theorem dX9_withReason_18 : decode cX9_withReason 18 = .ok (.iaload, 1) := by decide +kernel
theorem dX9_withReason_19 : decode cX9_withReason 19 = .ok (.iload_n 1, 1) := by decide +kernel
theorem dX9_withReason_20 : decode cX9_withReason 20 = .ok (.if_icmp .ne 7, 3) := by decide +kernel
theorem dX9_withReason_23 : decode cX9_withReason 23 = .ok (.iconst 1, 1) := by decide +kernel
theorem dX9_withReason_24 : decode cX9_withReason 24 = .ok (.goto 4, 3) := by decide +kernel
theorem dX9_withReason_27 : decode cX9_withReason 27 = .ok (.iconst 0, 1) := by decide +kernel
theorem dX9_withReason_28 : decode cX9_withReason 28 = .ok (.iadd, 1) := by decide +kernel
theorem dX9_withReason_29 : decode cX9_withReason 29 = .ok (.istore_n 2, 1) := by decide +kernel
theorem dX9_withReason_30 : decode cX9_withReason 30 = .ok (.iinc 3 1, 3) := by decide +kernel
theorem dX9_withReason_33 : decode cX9_withReason 33 = .ok (.goto (-29), 3) := by decide +kernel
theorem dX9_withReason_36 : decode cX9_withReason 36 = .ok (.iload_n 2, 1) := by decide +kernel
theorem dX9_withReason_37 : decode cX9_withReason 37 = .ok (.ireturn, 1) := by decide +kernel
theorem dX9_titlesShown_0 : decode cX9_titlesShown 0 = .ok (.iconst 0, 1) := by decide +kernel
theorem dX9_titlesShown_1 : decode cX9_titlesShown 1 = .ok (.istore_n 1, 1) := by decide +kernel
theorem dX9_titlesShown_2 : decode cX9_titlesShown 2 = .ok (.iconst 0, 1) := by decide +kernel
theorem dX9_titlesShown_3 : decode cX9_titlesShown 3 = .ok (.istore_n 2, 1) := by decide +kernel
theorem dX9_titlesShown_4 : decode cX9_titlesShown 4 = .ok (.iload_n 2, 1) := by decide +kernel
theorem dX9_titlesShown_5 : decode cX9_titlesShown 5 = .ok (.aload_n 0, 1) := by decide +kernel
theorem dX9_titlesShown_6 : decode cX9_titlesShown 6 = .ok (.getfield 102, 3) := by decide +kernel
theorem dX9_titlesShown_9 : decode cX9_titlesShown 9 = .ok (.if_icmp .ge 33, 3) := by decide +kernel
theorem dX9_titlesShown_12 : decode cX9_titlesShown 12 = .ok (.iload_n 1, 1) := by decide +kernel
theorem dX9_titlesShown_13 : decode cX9_titlesShown 13 = .ok (.aload_n 0, 1) := by decide +kernel
theorem dX9_titlesShown_14 : decode cX9_titlesShown 14 = .ok (.getfield 44, 3) := by decide +kernel
theorem dX9_titlesShown_17 : decode cX9_titlesShown 17 = .ok (.iload_n 2, 1) := by decide +kernel
theorem dX9_titlesShown_18 : decode cX9_titlesShown 18 = .ok (.iaload, 1) := by decide +kernel
theorem dX9_titlesShown_19 : decode cX9_titlesShown 19 = .ok (.ifCond .ne 14, 3) := by decide +kernel
theorem dX9_titlesShown_22 : decode cX9_titlesShown 22 = .ok (.iconst 1, 1) := by decide +kernel
theorem dX9_titlesShown_23 : decode cX9_titlesShown 23 = .ok (.aload_n 0, 1) := by decide +kernel
theorem dX9_titlesShown_24 : decode cX9_titlesShown 24 = .ok (.getfield 32, 3) := by decide +kernel
theorem dX9_titlesShown_27 : decode cX9_titlesShown 27 = .ok (.iload_n 2, 1) := by decide +kernel
theorem dX9_titlesShown_28 : decode cX9_titlesShown 28 = .ok (.iaload, 1) := by decide +kernel
theorem dX9_titlesShown_29 : decode cX9_titlesShown 29 = .ok (.ishl, 1) := by decide +kernel
theorem dX9_titlesShown_30 : decode cX9_titlesShown 30 = .ok (.goto 4, 3) := by decide +kernel
theorem dX9_titlesShown_33 : decode cX9_titlesShown 33 = .ok (.iconst 0, 1) := by decide +kernel
theorem dX9_titlesShown_34 : decode cX9_titlesShown 34 = .ok (.ior, 1) := by decide +kernel
theorem dX9_titlesShown_35 : decode cX9_titlesShown 35 = .ok (.istore_n 1, 1) := by decide +kernel
theorem dX9_titlesShown_36 : decode cX9_titlesShown 36 = .ok (.iinc 2 1, 3) := by decide +kernel
theorem dX9_titlesShown_39 : decode cX9_titlesShown 39 = .ok (.goto (-35), 3) := by decide +kernel
theorem dX9_titlesShown_42 : decode cX9_titlesShown 42 = .ok (.iload_n 1, 1) := by decide +kernel
theorem dX9_titlesShown_43 : decode cX9_titlesShown 43 = .ok (.ireturn, 1) := by decide +kernel
theorem dX9_isBeyond_0 : decode cX9_isBeyond 0 = .ok (.iconst 0, 1) := by decide +kernel
theorem dX9_isBeyond_1 : decode cX9_isBeyond 1 = .ok (.istore_n 2, 1) := by decide +kernel
theorem dX9_isBeyond_2 : decode cX9_isBeyond 2 = .ok (.iconst 0, 1) := by decide +kernel
theorem dX9_isBeyond_3 : decode cX9_isBeyond 3 = .ok (.istore_n 3, 1) := by decide +kernel
theorem dX9_isBeyond_4 : decode cX9_isBeyond 4 = .ok (.iload_n 3, 1) := by decide +kernel
theorem dX9_isBeyond_5 : decode cX9_isBeyond 5 = .ok (.aload_n 0, 1) := by decide +kernel
theorem dX9_isBeyond_6 : decode cX9_isBeyond 6 = .ok (.getfield 7, 3) := by decide +kernel
theorem dX9_isBeyond_9 : decode cX9_isBeyond 9 = .ok (.iconst 2, 1) := by decide +kernel
theorem dX9_isBeyond_10 : decode cX9_isBeyond 10 = .ok (.iaload, 1) := by decide +kernel
theorem dX9_isBeyond_11 : decode cX9_isBeyond 11 = .ok (.if_icmp .ge 36, 3) := by decide +kernel
theorem dX9_isBeyond_14 : decode cX9_isBeyond 14 = .ok (.iload_n 2, 1) := by decide +kernel
theorem dX9_isBeyond_15 : decode cX9_isBeyond 15 = .ok (.ifCond .ne 20, 3) := by decide +kernel
theorem dX9_isBeyond_18 : decode cX9_isBeyond 18 = .ok (.aload_n 0, 1) := by decide +kernel
theorem dX9_isBeyond_19 : decode cX9_isBeyond 19 = .ok (.getfield 7, 3) := by decide +kernel
theorem dX9_isBeyond_22 : decode cX9_isBeyond 22 = .ok (.bipush 126, 2) := by decide +kernel
theorem dX9_isBeyond_24 : decode cX9_isBeyond 24 = .ok (.iconst 2, 1) := by decide +kernel
theorem dX9_isBeyond_25 : decode cX9_isBeyond 25 = .ok (.iload_n 3, 1) := by decide +kernel
theorem dX9_isBeyond_26 : decode cX9_isBeyond 26 = .ok (.imul, 1) := by decide +kernel
theorem dX9_isBeyond_27 : decode cX9_isBeyond 27 = .ok (.iadd, 1) := by decide +kernel
theorem dX9_isBeyond_28 : decode cX9_isBeyond 28 = .ok (.iconst 1, 1) := by decide +kernel
theorem dX9_isBeyond_29 : decode cX9_isBeyond 29 = .ok (.iadd, 1) := by decide +kernel
theorem dX9_isBeyond_30 : decode cX9_isBeyond 30 = .ok (.iaload, 1) := by decide +kernel
theorem dX9_isBeyond_31 : decode cX9_isBeyond 31 = .ok (.iload_n 1, 1) := by decide +kernel
theorem dX9_isBeyond_32 : decode cX9_isBeyond 32 = .ok (.if_icmp .lt 7, 3) := by decide +kernel
theorem dX9_isBeyond_35 : decode cX9_isBeyond 35 = .ok (.iconst 1, 1) := by decide +kernel
theorem dX9_isBeyond_36 : decode cX9_isBeyond 36 = .ok (.goto 4, 3) := by decide +kernel
theorem dX9_isBeyond_39 : decode cX9_isBeyond 39 = .ok (.iconst 0, 1) := by decide +kernel
theorem dX9_isBeyond_40 : decode cX9_isBeyond 40 = .ok (.istore_n 2, 1) := by decide +kernel
theorem dX9_isBeyond_41 : decode cX9_isBeyond 41 = .ok (.iinc 3 1, 3) := by decide +kernel
theorem dX9_isBeyond_44 : decode cX9_isBeyond 44 = .ok (.goto (-40), 3) := by decide +kernel
theorem dX9_isBeyond_47 : decode cX9_isBeyond 47 = .ok (.iconst 0, 1) := by decide +kernel
theorem dX9_isBeyond_48 : decode cX9_isBeyond 48 = .ok (.istore_n 3, 1) := by decide +kernel
theorem dX9_isBeyond_49 : decode cX9_isBeyond 49 = .ok (.iload_n 3, 1) := by decide +kernel
theorem dX9_isBeyond_50 : decode cX9_isBeyond 50 = .ok (.aload_n 0, 1) := by decide +kernel
theorem dX9_isBeyond_51 : decode cX9_isBeyond 51 = .ok (.getfield 7, 3) := by decide +kernel
theorem dX9_isBeyond_54 : decode cX9_isBeyond 54 = .ok (.iconst 3, 1) := by decide +kernel
theorem dX9_isBeyond_55 : decode cX9_isBeyond 55 = .ok (.iaload, 1) := by decide +kernel
theorem dX9_isBeyond_56 : decode cX9_isBeyond 56 = .ok (.if_icmp .ge 37, 3) := by decide +kernel
theorem dX9_isBeyond_59 : decode cX9_isBeyond 59 = .ok (.iload_n 2, 1) := by decide +kernel
theorem dX9_isBeyond_60 : decode cX9_isBeyond 60 = .ok (.ifCond .ne 21, 3) := by decide +kernel
theorem dX9_isBeyond_63 : decode cX9_isBeyond 63 = .ok (.aload_n 0, 1) := by decide +kernel
theorem dX9_isBeyond_64 : decode cX9_isBeyond 64 = .ok (.getfield 7, 3) := by decide +kernel
theorem dX9_isBeyond_67 : decode cX9_isBeyond 67 = .ok (.sipush 134, 3) := by decide +kernel
theorem dX9_isBeyond_70 : decode cX9_isBeyond 70 = .ok (.iconst 2, 1) := by decide +kernel
theorem dX9_isBeyond_71 : decode cX9_isBeyond 71 = .ok (.iload_n 3, 1) := by decide +kernel
theorem dX9_isBeyond_72 : decode cX9_isBeyond 72 = .ok (.imul, 1) := by decide +kernel
theorem dX9_isBeyond_73 : decode cX9_isBeyond 73 = .ok (.iadd, 1) := by decide +kernel
theorem dX9_isBeyond_74 : decode cX9_isBeyond 74 = .ok (.iconst 1, 1) := by decide +kernel
theorem dX9_isBeyond_75 : decode cX9_isBeyond 75 = .ok (.iadd, 1) := by decide +kernel
theorem dX9_isBeyond_76 : decode cX9_isBeyond 76 = .ok (.iaload, 1) := by decide +kernel
theorem dX9_isBeyond_77 : decode cX9_isBeyond 77 = .ok (.iload_n 1, 1) := by decide +kernel
theorem dX9_isBeyond_78 : decode cX9_isBeyond 78 = .ok (.if_icmp .lt 7, 3) := by decide +kernel
theorem dX9_isBeyond_81 : decode cX9_isBeyond 81 = .ok (.iconst 1, 1) := by decide +kernel
theorem dX9_isBeyond_82 : decode cX9_isBeyond 82 = .ok (.goto 4, 3) := by decide +kernel
theorem dX9_isBeyond_85 : decode cX9_isBeyond 85 = .ok (.iconst 0, 1) := by decide +kernel
theorem dX9_isBeyond_86 : decode cX9_isBeyond 86 = .ok (.istore_n 2, 1) := by decide +kernel
theorem dX9_isBeyond_87 : decode cX9_isBeyond 87 = .ok (.iinc 3 1, 3) := by decide +kernel
theorem dX9_isBeyond_90 : decode cX9_isBeyond 90 = .ok (.goto (-41), 3) := by decide +kernel
theorem dX9_isBeyond_93 : decode cX9_isBeyond 93 = .ok (.iconst 0, 1) := by decide +kernel
theorem dX9_isBeyond_94 : decode cX9_isBeyond 94 = .ok (.istore_n 3, 1) := by decide +kernel
theorem dX9_isBeyond_95 : decode cX9_isBeyond 95 = .ok (.iload_n 3, 1) := by decide +kernel
theorem dX9_isBeyond_96 : decode cX9_isBeyond 96 = .ok (.aload_n 0, 1) := by decide +kernel
theorem dX9_isBeyond_97 : decode cX9_isBeyond 97 = .ok (.getfield 7, 3) := by decide +kernel
theorem dX9_isBeyond_100 : decode cX9_isBeyond 100 = .ok (.iconst 5, 1) := by decide +kernel
theorem dX9_isBeyond_101 : decode cX9_isBeyond 101 = .ok (.iaload, 1) := by decide +kernel
theorem dX9_isBeyond_102 : decode cX9_isBeyond 102 = .ok (.if_icmp .ge 29, 3) := by decide +kernel
theorem dX9_isBeyond_105 : decode cX9_isBeyond 105 = .ok (.iload_n 2, 1) := by decide +kernel
theorem dX9_isBeyond_106 : decode cX9_isBeyond 106 = .ok (.ifCond .ne 13, 3) := by decide +kernel
theorem dX9_isBeyond_109 : decode cX9_isBeyond 109 = .ok (.aload_n 0, 1) := by decide +kernel
theorem dX9_isBeyond_110 : decode cX9_isBeyond 110 = .ok (.iload_n 3, 1) := by decide +kernel
theorem dX9_isBeyond_111 : decode cX9_isBeyond 111 = .ok (.iconst 1, 1) := by decide +kernel
theorem dX9_isBeyond_112 : decode cX9_isBeyond 112 = .ok (.invokevirtual 89, 3) := by decide +kernel
theorem dX9_isBeyond_115 : decode cX9_isBeyond 115 = .ok (.iload_n 1, 1) := by decide +kernel
theorem dX9_isBeyond_116 : decode cX9_isBeyond 116 = .ok (.if_icmp .lt 7, 3) := by decide +kernel
theorem dX9_isBeyond_119 : decode cX9_isBeyond 119 = .ok (.iconst 1, 1) := by decide +kernel
theorem dX9_isBeyond_120 : decode cX9_isBeyond 120 = .ok (.goto 4, 3) := by decide +kernel
theorem dX9_isBeyond_123 : decode cX9_isBeyond 123 = .ok (.iconst 0, 1) := by decide +kernel
theorem dX9_isBeyond_124 : decode cX9_isBeyond 124 = .ok (.istore_n 2, 1) := by decide +kernel
theorem dX9_isBeyond_125 : decode cX9_isBeyond 125 = .ok (.iinc 3 1, 3) := by decide +kernel
theorem dX9_isBeyond_128 : decode cX9_isBeyond 128 = .ok (.goto (-33), 3) := by decide +kernel
theorem dX9_isBeyond_131 : decode cX9_isBeyond 131 = .ok (.iload_n 2, 1) := by decide +kernel
theorem dX9_isBeyond_132 : decode cX9_isBeyond 132 = .ok (.ireturn, 1) := by decide +kernel
theorem dX9_bars_0 : decode cX9_bars 0 = .ok (.aload_n 0, 1) := by decide +kernel
theorem dX9_bars_1 : decode cX9_bars 1 = .ok (.iconst 0, 1) := by decide +kernel
theorem dX9_bars_2 : decode cX9_bars 2 = .ok (.putfield 56, 3) := by decide +kernel
theorem dX9_bars_5 : decode cX9_bars 5 = .ok (.iload_n 1, 1) := by decide +kernel
theorem dX9_bars_6 : decode cX9_bars 6 = .ok (.iconst 1, 1) := by decide +kernel
theorem dX9_bars_7 : decode cX9_bars 7 = .ok (.bipush 60, 2) := by decide +kernel
theorem dX9_bars_9 : decode cX9_bars 9 = .ok (.invokestatic 60, 3) := by decide +kernel
theorem dX9_bars_12 : decode cX9_bars 12 = .ok (.ifCond .ne 6, 3) := by decide +kernel
theorem dX9_bars_15 : decode cX9_bars 15 = .ok (.bipush (-2), 2) := by decide +kernel
theorem dX9_bars_17 : decode cX9_bars 17 = .ok (.ireturn, 1) := by decide +kernel
theorem dX9_bars_18 : decode cX9_bars 18 = .ok (.aload_n 0, 1) := by decide +kernel
theorem dX9_bars_19 : decode cX9_bars 19 = .ok (.iload_n 1, 1) := by decide +kernel
theorem dX9_bars_20 : decode cX9_bars 20 = .ok (.invokevirtual 124, 3) := by decide +kernel
theorem dX9_bars_23 : decode cX9_bars 23 = .ok (.ifCond .eq 6, 3) := by decide +kernel
theorem dX9_bars_26 : decode cX9_bars 26 = .ok (.bipush (-5), 2) := by decide +kernel
theorem dX9_bars_28 : decode cX9_bars 28 = .ok (.ireturn, 1) := by decide +kernel
theorem dX9_bars_29 : decode cX9_bars 29 = .ok (.aload_n 0, 1) := by decide +kernel
theorem dX9_bars_30 : decode cX9_bars 30 = .ok (.invokevirtual 127, 3) := by decide +kernel
theorem dX9_bars_33 : decode cX9_bars 33 = .ok (.aload_n 0, 1) := by decide +kernel
theorem dX9_bars_34 : decode cX9_bars 34 = .ok (.getfield 7, 3) := by decide +kernel
theorem dX9_bars_37 : decode cX9_bars 37 = .ok (.iconst 0, 1) := by decide +kernel
theorem dX9_bars_38 : decode cX9_bars 38 = .ok (.iaload, 1) := by decide +kernel
theorem dX9_bars_39 : decode cX9_bars 39 = .ok (.istore_n 2, 1) := by decide +kernel
theorem dX9_bars_40 : decode cX9_bars 40 = .ok (.aload_n 0, 1) := by decide +kernel
theorem dX9_bars_41 : decode cX9_bars 41 = .ok (.getfield 7, 3) := by decide +kernel
theorem dX9_bars_44 : decode cX9_bars 44 = .ok (.iconst 0, 1) := by decide +kernel
theorem dX9_bars_45 : decode cX9_bars 45 = .ok (.iload_n 1, 1) := by decide +kernel
theorem dX9_bars_46 : decode cX9_bars 46 = .ok (.iastore, 1) := by decide +kernel
theorem dX9_bars_47 : decode cX9_bars 47 = .ok (.iload_n 2, 1) := by decide +kernel
theorem dX9_bars_48 : decode cX9_bars 48 = .ok (.ireturn, 1) := by decide +kernel
theorem dX9_shortest_0 : decode cX9_shortest 0 = .ok (.aload_n 0, 1) := by decide +kernel
theorem dX9_shortest_1 : decode cX9_shortest 1 = .ok (.iconst 0, 1) := by decide +kernel
theorem dX9_shortest_2 : decode cX9_shortest 2 = .ok (.putfield 56, 3) := by decide +kernel
theorem dX9_shortest_5 : decode cX9_shortest 5 = .ok (.iload_n 1, 1) := by decide +kernel
theorem dX9_shortest_6 : decode cX9_shortest 6 = .ok (.iconst 0, 1) := by decide +kernel
theorem dX9_shortest_7 : decode cX9_shortest 7 = .ok (.bipush 50, 2) := by decide +kernel
theorem dX9_shortest_9 : decode cX9_shortest 9 = .ok (.invokestatic 60, 3) := by decide +kernel
theorem dX9_shortest_12 : decode cX9_shortest 12 = .ok (.ifCond .ne 6, 3) := by decide +kernel
theorem dX9_shortest_15 : decode cX9_shortest 15 = .ok (.bipush (-2), 2) := by decide +kernel
theorem dX9_shortest_17 : decode cX9_shortest 17 = .ok (.ireturn, 1) := by decide +kernel
theorem dX9_shortest_18 : decode cX9_shortest 18 = .ok (.aload_n 0, 1) := by decide +kernel
theorem dX9_shortest_19 : decode cX9_shortest 19 = .ok (.invokevirtual 127, 3) := by decide +kernel
theorem dX9_shortest_22 : decode cX9_shortest 22 = .ok (.aload_n 0, 1) := by decide +kernel
theorem dX9_shortest_23 : decode cX9_shortest 23 = .ok (.getfield 7, 3) := by decide +kernel
theorem dX9_shortest_26 : decode cX9_shortest 26 = .ok (.iconst 1, 1) := by decide +kernel
theorem dX9_shortest_27 : decode cX9_shortest 27 = .ok (.iaload, 1) := by decide +kernel
theorem dX9_shortest_28 : decode cX9_shortest 28 = .ok (.istore_n 2, 1) := by decide +kernel
theorem dX9_shortest_29 : decode cX9_shortest 29 = .ok (.aload_n 0, 1) := by decide +kernel
theorem dX9_shortest_30 : decode cX9_shortest 30 = .ok (.getfield 7, 3) := by decide +kernel
theorem dX9_shortest_33 : decode cX9_shortest 33 = .ok (.iconst 1, 1) := by decide +kernel
theorem dX9_shortest_34 : decode cX9_shortest 34 = .ok (.iload_n 1, 1) := by decide +kernel
theorem dX9_shortest_35 : decode cX9_shortest 35 = .ok (.iastore, 1) := by decide +kernel
theorem dX9_shortest_36 : decode cX9_shortest 36 = .ok (.iload_n 2, 1) := by decide +kernel
theorem dX9_shortest_37 : decode cX9_shortest 37 = .ok (.ireturn, 1) := by decide +kernel
theorem dX9_refusesBar_0 : decode cX9_refusesBar 0 = .ok (.aload_n 0, 1) := by decide +kernel
theorem dX9_refusesBar_1 : decode cX9_refusesBar 1 = .ok (.iload_n 1, 1) := by decide +kernel
theorem dX9_refusesBar_2 : decode cX9_refusesBar 2 = .ok (.invokevirtual 130, 3) := by decide +kernel
theorem dX9_refusesBar_5 : decode cX9_refusesBar 5 = .ok (.ifCond .ne 5, 3) := by decide +kernel
theorem dX9_refusesBar_8 : decode cX9_refusesBar 8 = .ok (.iconst (-1), 1) := by decide +kernel
theorem dX9_refusesBar_9 : decode cX9_refusesBar 9 = .ok (.ireturn, 1) := by decide +kernel
theorem dX9_refusesBar_10 : decode cX9_refusesBar 10 = .ok (.iload_n 2, 1) := by decide +kernel
theorem dX9_refusesBar_11 : decode cX9_refusesBar 11 = .ok (.iconst 1, 1) := by decide +kernel
theorem dX9_refusesBar_12 : decode cX9_refusesBar 12 = .ok (.bipush 12, 2) := by decide +kernel
theorem dX9_refusesBar_14 : decode cX9_refusesBar 14 = .ok (.invokestatic 60, 3) := by decide +kernel
theorem dX9_refusesBar_17 : decode cX9_refusesBar 17 = .ok (.ifCond .eq 19, 3) := by decide +kernel
theorem dX9_refusesBar_20 : decode cX9_refusesBar 20 = .ok (.iload_n 3, 1) := by decide +kernel
theorem dX9_refusesBar_21 : decode cX9_refusesBar 21 = .ok (.bipush 20, 2) := by decide +kernel
theorem dX9_refusesBar_23 : decode cX9_refusesBar 23 = .ok (.sipush 240, 3) := by decide +kernel
theorem dX9_refusesBar_26 : decode cX9_refusesBar 26 = .ok (.invokestatic 60, 3) := by decide +kernel
theorem dX9_refusesBar_29 : decode cX9_refusesBar 29 = .ok (.ifCond .eq 7, 3) := by decide +kernel
theorem dX9_refusesBar_32 : decode cX9_refusesBar 32 = .ok (.iconst 0, 1) := by decide +kernel
theorem dX9_refusesBar_33 : decode cX9_refusesBar 33 = .ok (.goto 5, 3) := by decide +kernel
theorem dX9_refusesBar_36 : decode cX9_refusesBar 36 = .ok (.bipush (-2), 2) := by decide +kernel
theorem dX9_refusesBar_38 : decode cX9_refusesBar 38 = .ok (.ireturn, 1) := by decide +kernel
theorem dX9_laysBar_0 : decode cX9_laysBar 0 = .ok (.aload_n 0, 1) := by decide +kernel
theorem dX9_laysBar_1 : decode cX9_laysBar 1 = .ok (.getfield 7, 3) := by decide +kernel
theorem dX9_laysBar_4 : decode cX9_laysBar 4 = .ok (.bipush 6, 2) := by decide +kernel
theorem dX9_laysBar_6 : decode cX9_laysBar 6 = .ok (.iload_n 1, 1) := by decide +kernel
theorem dX9_laysBar_7 : decode cX9_laysBar 7 = .ok (.iadd, 1) := by decide +kernel
theorem dX9_laysBar_8 : decode cX9_laysBar 8 = .ok (.iload_n 2, 1) := by decide +kernel
theorem dX9_laysBar_9 : decode cX9_laysBar 9 = .ok (.iastore, 1) := by decide +kernel
theorem dX9_laysBar_10 : decode cX9_laysBar 10 = .ok (.aload_n 0, 1) := by decide +kernel
theorem dX9_laysBar_11 : decode cX9_laysBar 11 = .ok (.getfield 7, 3) := by decide +kernel
theorem dX9_laysBar_14 : decode cX9_laysBar 14 = .ok (.bipush 66, 2) := by decide +kernel
theorem dX9_laysBar_16 : decode cX9_laysBar 16 = .ok (.iload_n 1, 1) := by decide +kernel
theorem dX9_laysBar_17 : decode cX9_laysBar 17 = .ok (.iadd, 1) := by decide +kernel
theorem dX9_laysBar_18 : decode cX9_laysBar 18 = .ok (.iload_n 3, 1) := by decide +kernel
theorem dX9_laysBar_19 : decode cX9_laysBar 19 = .ok (.iastore, 1) := by decide +kernel
theorem dX9_laysBar_20 : decode cX9_laysBar 20 = .ok (.return_, 1) := by decide +kernel
theorem dX9_bar_0 : decode cX9_bar 0 = .ok (.aload_n 0, 1) := by decide +kernel
theorem dX9_bar_1 : decode cX9_bar 1 = .ok (.iconst 0, 1) := by decide +kernel
theorem dX9_bar_2 : decode cX9_bar 2 = .ok (.putfield 56, 3) := by decide +kernel
theorem dX9_bar_5 : decode cX9_bar 5 = .ok (.aload_n 0, 1) := by decide +kernel
theorem dX9_bar_6 : decode cX9_bar 6 = .ok (.iload_n 1, 1) := by decide +kernel
theorem dX9_bar_7 : decode cX9_bar 7 = .ok (.iload_n 2, 1) := by decide +kernel
theorem dX9_bar_8 : decode cX9_bar 8 = .ok (.iload_n 3, 1) := by decide +kernel
theorem dX9_bar_9 : decode cX9_bar 9 = .ok (.invokevirtual 133, 3) := by decide +kernel
theorem dX9_bar_12 : decode cX9_bar 12 = .ok (.istore 4, 2) := by decide +kernel
theorem dX9_bar_14 : decode cX9_bar 14 = .ok (.iload 4, 2) := by decide +kernel
theorem dX9_bar_16 : decode cX9_bar 16 = .ok (.ifCond .eq 6, 3) := by decide +kernel
theorem dX9_bar_19 : decode cX9_bar 19 = .ok (.iload 4, 2) := by decide +kernel
theorem dX9_bar_21 : decode cX9_bar 21 = .ok (.ireturn, 1) := by decide +kernel
theorem dX9_bar_22 : decode cX9_bar 22 = .ok (.aload_n 0, 1) := by decide +kernel
theorem dX9_bar_23 : decode cX9_bar 23 = .ok (.invokevirtual 127, 3) := by decide +kernel
theorem dX9_bar_26 : decode cX9_bar 26 = .ok (.aload_n 0, 1) := by decide +kernel
theorem dX9_bar_27 : decode cX9_bar 27 = .ok (.iload_n 1, 1) := by decide +kernel
theorem dX9_bar_28 : decode cX9_bar 28 = .ok (.iload_n 2, 1) := by decide +kernel
theorem dX9_bar_29 : decode cX9_bar 29 = .ok (.iload_n 3, 1) := by decide +kernel
theorem dX9_bar_30 : decode cX9_bar 30 = .ok (.invokevirtual 137, 3) := by decide +kernel
theorem dX9_bar_33 : decode cX9_bar 33 = .ok (.aload_n 0, 1) := by decide +kernel
theorem dX9_bar_34 : decode cX9_bar 34 = .ok (.iload_n 1, 1) := by decide +kernel
theorem dX9_bar_35 : decode cX9_bar 35 = .ok (.invokevirtual 77, 3) := by decide +kernel
theorem dX9_bar_38 : decode cX9_bar 38 = .ok (.ireturn, 1) := by decide +kernel
theorem dX9_refusesSpan_0 : decode cX9_refusesSpan 0 = .ok (.aload_n 0, 1) := by decide +kernel
theorem dX9_refusesSpan_1 : decode cX9_refusesSpan 1 = .ok (.iload_n 1, 1) := by decide +kernel
theorem dX9_refusesSpan_2 : decode cX9_refusesSpan 2 = .ok (.invokevirtual 130, 3) := by decide +kernel
theorem dX9_refusesSpan_5 : decode cX9_refusesSpan 5 = .ok (.ifCond .eq 11, 3) := by decide +kernel
theorem dX9_refusesSpan_8 : decode cX9_refusesSpan 8 = .ok (.aload_n 0, 1) := by decide +kernel
theorem dX9_refusesSpan_9 : decode cX9_refusesSpan 9 = .ok (.iload_n 2, 1) := by decide +kernel
theorem dX9_refusesSpan_10 : decode cX9_refusesSpan 10 = .ok (.invokevirtual 130, 3) := by decide +kernel
theorem dX9_refusesSpan_13 : decode cX9_refusesSpan 13 = .ok (.ifCond .ne 5, 3) := by decide +kernel
theorem dX9_refusesSpan_16 : decode cX9_refusesSpan 16 = .ok (.iconst (-1), 1) := by decide +kernel
theorem dX9_refusesSpan_17 : decode cX9_refusesSpan 17 = .ok (.ireturn, 1) := by decide +kernel
theorem dX9_refusesSpan_18 : decode cX9_refusesSpan 18 = .ok (.iload_n 2, 1) := by decide +kernel
theorem dX9_refusesSpan_19 : decode cX9_refusesSpan 19 = .ok (.iload_n 1, 1) := by decide +kernel
theorem dX9_refusesSpan_20 : decode cX9_refusesSpan 20 = .ok (.if_icmp .ge 6, 3) := by decide +kernel
theorem dX9_refusesSpan_23 : decode cX9_refusesSpan 23 = .ok (.bipush (-2), 2) := by decide +kernel
theorem dX9_refusesSpan_25 : decode cX9_refusesSpan 25 = .ok (.ireturn, 1) := by decide +kernel
theorem dX9_refusesSpan_26 : decode cX9_refusesSpan 26 = .ok (.aload_n 0, 1) := by decide +kernel
theorem dX9_refusesSpan_27 : decode cX9_refusesSpan 27 = .ok (.getfield 7, 3) := by decide +kernel
theorem dX9_refusesSpan_30 : decode cX9_refusesSpan 30 = .ok (.iload_n 3, 1) := by decide +kernel
theorem dX9_refusesSpan_31 : decode cX9_refusesSpan 31 = .ok (.iaload, 1) := by decide +kernel
theorem dX9_refusesSpan_32 : decode cX9_refusesSpan 32 = .ok (.iconst 4, 1) := by decide +kernel
theorem dX9_refusesSpan_33 : decode cX9_refusesSpan 33 = .ok (.if_icmp .ne 8, 3) := by decide +kernel
theorem dX9_refusesSpan_36 : decode cX9_refusesSpan 36 = .ok (.bipush (-4), 2) := by decide +kernel
theorem dX9_refusesSpan_38 : decode cX9_refusesSpan 38 = .ok (.goto 4, 3) := by decide +kernel
theorem dX9_refusesSpan_41 : decode cX9_refusesSpan 41 = .ok (.iconst 0, 1) := by decide +kernel
theorem dX9_refusesSpan_42 : decode cX9_refusesSpan 42 = .ok (.ireturn, 1) := by decide +kernel
theorem dX9_refusesRepeat_0 : decode cX9_refusesRepeat 0 = .ok (.aload_n 0, 1) := by decide +kernel
theorem dX9_refusesRepeat_1 : decode cX9_refusesRepeat 1 = .ok (.iload_n 1, 1) := by decide +kernel
theorem dX9_refusesRepeat_2 : decode cX9_refusesRepeat 2 = .ok (.iload_n 2, 1) := by decide +kernel
theorem dX9_refusesRepeat_3 : decode cX9_refusesRepeat 3 = .ok (.iconst 2, 1) := by decide +kernel
theorem dX9_refusesRepeat_4 : decode cX9_refusesRepeat 4 = .ok (.invokevirtual 141, 3) := by decide +kernel
theorem dX9_refusesRepeat_7 : decode cX9_refusesRepeat 7 = .ok (.istore_n 3, 1) := by decide +kernel
theorem dX9_refusesRepeat_8 : decode cX9_refusesRepeat 8 = .ok (.iconst 0, 1) := by decide +kernel
theorem dX9_refusesRepeat_9 : decode cX9_refusesRepeat 9 = .ok (.istore 4, 2) := by decide +kernel
theorem dX9_refusesRepeat_11 : decode cX9_refusesRepeat 11 = .ok (.iload 4, 2) := by decide +kernel
theorem dX9_refusesRepeat_13 : decode cX9_refusesRepeat 13 = .ok (.aload_n 0, 1) := by decide +kernel
theorem dX9_refusesRepeat_14 : decode cX9_refusesRepeat 14 = .ok (.getfield 7, 3) := by decide +kernel
theorem dX9_refusesRepeat_17 : decode cX9_refusesRepeat 17 = .ok (.iconst 2, 1) := by decide +kernel
theorem dX9_refusesRepeat_18 : decode cX9_refusesRepeat 18 = .ok (.iaload, 1) := by decide +kernel
theorem dX9_refusesRepeat_19 : decode cX9_refusesRepeat 19 = .ok (.if_icmp .ge 54, 3) := by decide +kernel
theorem dX9_refusesRepeat_22 : decode cX9_refusesRepeat 22 = .ok (.iload_n 3, 1) := by decide +kernel
theorem dX9_refusesRepeat_23 : decode cX9_refusesRepeat 23 = .ok (.ifCond .ne 50, 3) := by decide +kernel
theorem dX9_refusesRepeat_26 : decode cX9_refusesRepeat 26 = .ok (.iload_n 1, 1) := by decide +kernel
theorem dX9_refusesRepeat_27 : decode cX9_refusesRepeat 27 = .ok (.aload_n 0, 1) := by decide +kernel
theorem dX9_refusesRepeat_28 : decode cX9_refusesRepeat 28 = .ok (.getfield 7, 3) := by decide +kernel
theorem dX9_refusesRepeat_31 : decode cX9_refusesRepeat 31 = .ok (.bipush 126, 2) := by decide +kernel
theorem dX9_refusesRepeat_33 : decode cX9_refusesRepeat 33 = .ok (.iconst 2, 1) := by decide +kernel
theorem dX9_refusesRepeat_34 : decode cX9_refusesRepeat 34 = .ok (.iload 4, 2) := by decide +kernel
theorem dX9_refusesRepeat_36 : decode cX9_refusesRepeat 36 = .ok (.imul, 1) := by decide +kernel
theorem dX9_refusesRepeat_37 : decode cX9_refusesRepeat 37 = .ok (.iadd, 1) := by decide +kernel
theorem dX9_refusesRepeat_38 : decode cX9_refusesRepeat 38 = .ok (.iconst 1, 1) := by decide +kernel
theorem dX9_refusesRepeat_39 : decode cX9_refusesRepeat 39 = .ok (.iadd, 1) := by decide +kernel
theorem dX9_refusesRepeat_40 : decode cX9_refusesRepeat 40 = .ok (.iaload, 1) := by decide +kernel
theorem dX9_refusesRepeat_41 : decode cX9_refusesRepeat 41 = .ok (.if_icmp .gt 24, 3) := by decide +kernel
theorem dX9_refusesRepeat_44 : decode cX9_refusesRepeat 44 = .ok (.iload_n 2, 1) := by decide +kernel
theorem dX9_refusesRepeat_45 : decode cX9_refusesRepeat 45 = .ok (.aload_n 0, 1) := by decide +kernel
theorem dX9_refusesRepeat_46 : decode cX9_refusesRepeat 46 = .ok (.getfield 7, 3) := by decide +kernel
theorem dX9_refusesRepeat_49 : decode cX9_refusesRepeat 49 = .ok (.bipush 126, 2) := by decide +kernel
theorem dX9_refusesRepeat_51 : decode cX9_refusesRepeat 51 = .ok (.iconst 2, 1) := by decide +kernel
theorem dX9_refusesRepeat_52 : decode cX9_refusesRepeat 52 = .ok (.iload 4, 2) := by decide +kernel
theorem dX9_refusesRepeat_54 : decode cX9_refusesRepeat 54 = .ok (.imul, 1) := by decide +kernel
theorem dX9_refusesRepeat_55 : decode cX9_refusesRepeat 55 = .ok (.iadd, 1) := by decide +kernel
theorem dX9_refusesRepeat_56 : decode cX9_refusesRepeat 56 = .ok (.iaload, 1) := by decide +kernel
theorem dX9_refusesRepeat_57 : decode cX9_refusesRepeat 57 = .ok (.if_icmp .lt 8, 3) := by decide +kernel
theorem dX9_refusesRepeat_60 : decode cX9_refusesRepeat 60 = .ok (.bipush (-5), 2) := by decide +kernel
theorem dX9_refusesRepeat_62 : decode cX9_refusesRepeat 62 = .ok (.goto 4, 3) := by decide +kernel
theorem dX9_refusesRepeat_65 : decode cX9_refusesRepeat 65 = .ok (.iconst 0, 1) := by decide +kernel
theorem dX9_refusesRepeat_66 : decode cX9_refusesRepeat 66 = .ok (.istore_n 3, 1) := by decide +kernel
theorem dX9_refusesRepeat_67 : decode cX9_refusesRepeat 67 = .ok (.iinc 4 1, 3) := by decide +kernel
theorem dX9_refusesRepeat_70 : decode cX9_refusesRepeat 70 = .ok (.goto (-59), 3) := by decide +kernel
theorem dX9_refusesRepeat_73 : decode cX9_refusesRepeat 73 = .ok (.iload_n 3, 1) := by decide +kernel
theorem dX9_refusesRepeat_74 : decode cX9_refusesRepeat 74 = .ok (.ireturn, 1) := by decide +kernel
theorem dX9_laysSpan_0 : decode cX9_laysSpan 0 = .ok (.aload_n 0, 1) := by decide +kernel
theorem dX9_laysSpan_1 : decode cX9_laysSpan 1 = .ok (.getfield 7, 3) := by decide +kernel
theorem dX9_laysSpan_4 : decode cX9_laysSpan 4 = .ok (.iload_n 1, 1) := by decide +kernel
theorem dX9_laysSpan_5 : decode cX9_laysSpan 5 = .ok (.iconst 2, 1) := by decide +kernel
theorem dX9_laysSpan_6 : decode cX9_laysSpan 6 = .ok (.aload_n 0, 1) := by decide +kernel
theorem dX9_laysSpan_7 : decode cX9_laysSpan 7 = .ok (.getfield 7, 3) := by decide +kernel
theorem dX9_laysSpan_10 : decode cX9_laysSpan 10 = .ok (.iload_n 2, 1) := by decide +kernel
theorem dX9_laysSpan_11 : decode cX9_laysSpan 11 = .ok (.iaload, 1) := by decide +kernel
theorem dX9_laysSpan_12 : decode cX9_laysSpan 12 = .ok (.imul, 1) := by decide +kernel
theorem dX9_laysSpan_13 : decode cX9_laysSpan 13 = .ok (.iadd, 1) := by decide +kernel
theorem dX9_laysSpan_14 : decode cX9_laysSpan 14 = .ok (.iload_n 3, 1) := by decide +kernel
theorem dX9_laysSpan_15 : decode cX9_laysSpan 15 = .ok (.iastore, 1) := by decide +kernel
theorem dX9_laysSpan_16 : decode cX9_laysSpan 16 = .ok (.aload_n 0, 1) := by decide +kernel
theorem dX9_laysSpan_17 : decode cX9_laysSpan 17 = .ok (.getfield 7, 3) := by decide +kernel
theorem dX9_laysSpan_20 : decode cX9_laysSpan 20 = .ok (.iload_n 1, 1) := by decide +kernel
theorem dX9_laysSpan_21 : decode cX9_laysSpan 21 = .ok (.iconst 2, 1) := by decide +kernel
theorem dX9_laysSpan_22 : decode cX9_laysSpan 22 = .ok (.aload_n 0, 1) := by decide +kernel
theorem dX9_laysSpan_23 : decode cX9_laysSpan 23 = .ok (.getfield 7, 3) := by decide +kernel
theorem dX9_laysSpan_26 : decode cX9_laysSpan 26 = .ok (.iload_n 2, 1) := by decide +kernel
theorem dX9_laysSpan_27 : decode cX9_laysSpan 27 = .ok (.iaload, 1) := by decide +kernel
theorem dX9_laysSpan_28 : decode cX9_laysSpan 28 = .ok (.imul, 1) := by decide +kernel
theorem dX9_laysSpan_29 : decode cX9_laysSpan 29 = .ok (.iadd, 1) := by decide +kernel
theorem dX9_laysSpan_30 : decode cX9_laysSpan 30 = .ok (.iconst 1, 1) := by decide +kernel
theorem dX9_laysSpan_31 : decode cX9_laysSpan 31 = .ok (.iadd, 1) := by decide +kernel
theorem dX9_laysSpan_32 : decode cX9_laysSpan 32 = .ok (.iload 4, 2) := by decide +kernel
theorem dX9_laysSpan_34 : decode cX9_laysSpan 34 = .ok (.iastore, 1) := by decide +kernel
theorem dX9_laysSpan_35 : decode cX9_laysSpan 35 = .ok (.aload_n 0, 1) := by decide +kernel
theorem dX9_laysSpan_36 : decode cX9_laysSpan 36 = .ok (.getfield 7, 3) := by decide +kernel
theorem dX9_laysSpan_39 : decode cX9_laysSpan 39 = .ok (.iload_n 2, 1) := by decide +kernel
theorem dX9_laysSpan_40 : decode cX9_laysSpan 40 = .ok (.dup2, 1) := by decide +kernel
theorem dX9_laysSpan_41 : decode cX9_laysSpan 41 = .ok (.iaload, 1) := by decide +kernel
theorem dX9_laysSpan_42 : decode cX9_laysSpan 42 = .ok (.iconst 1, 1) := by decide +kernel
theorem dX9_laysSpan_43 : decode cX9_laysSpan 43 = .ok (.iadd, 1) := by decide +kernel
theorem dX9_laysSpan_44 : decode cX9_laysSpan 44 = .ok (.iastore, 1) := by decide +kernel
theorem dX9_laysSpan_45 : decode cX9_laysSpan 45 = .ok (.aload_n 0, 1) := by decide +kernel
theorem dX9_laysSpan_46 : decode cX9_laysSpan 46 = .ok (.getfield 7, 3) := by decide +kernel
theorem dX9_laysSpan_49 : decode cX9_laysSpan 49 = .ok (.iload_n 2, 1) := by decide +kernel
theorem dX9_laysSpan_50 : decode cX9_laysSpan 50 = .ok (.iaload, 1) := by decide +kernel
theorem dX9_laysSpan_51 : decode cX9_laysSpan 51 = .ok (.iconst 1, 1) := by decide +kernel
theorem dX9_laysSpan_52 : decode cX9_laysSpan 52 = .ok (.isub, 1) := by decide +kernel
theorem dX9_laysSpan_53 : decode cX9_laysSpan 53 = .ok (.ireturn, 1) := by decide +kernel
theorem dX9_repeat_0 : decode cX9_repeat 0 = .ok (.aload_n 0, 1) := by decide +kernel
theorem dX9_repeat_1 : decode cX9_repeat 1 = .ok (.iconst 0, 1) := by decide +kernel
theorem dX9_repeat_2 : decode cX9_repeat 2 = .ok (.putfield 56, 3) := by decide +kernel
theorem dX9_repeat_5 : decode cX9_repeat 5 = .ok (.aload_n 0, 1) := by decide +kernel
theorem dX9_repeat_6 : decode cX9_repeat 6 = .ok (.iload_n 1, 1) := by decide +kernel
theorem dX9_repeat_7 : decode cX9_repeat 7 = .ok (.iload_n 2, 1) := by decide +kernel
theorem dX9_repeat_8 : decode cX9_repeat 8 = .ok (.invokevirtual 144, 3) := by decide +kernel
theorem dX9_repeat_11 : decode cX9_repeat 11 = .ok (.istore_n 3, 1) := by decide +kernel
theorem dX9_repeat_12 : decode cX9_repeat 12 = .ok (.iload_n 3, 1) := by decide +kernel
theorem dX9_repeat_13 : decode cX9_repeat 13 = .ok (.ifCond .eq 5, 3) := by decide +kernel
theorem dX9_repeat_16 : decode cX9_repeat 16 = .ok (.iload_n 3, 1) := by decide +kernel
theorem dX9_repeat_17 : decode cX9_repeat 17 = .ok (.ireturn, 1) := by decide +kernel
theorem dX9_repeat_18 : decode cX9_repeat 18 = .ok (.aload_n 0, 1) := by decide +kernel
theorem dX9_repeat_19 : decode cX9_repeat 19 = .ok (.invokevirtual 127, 3) := by decide +kernel
theorem dX9_repeat_22 : decode cX9_repeat 22 = .ok (.aload_n 0, 1) := by decide +kernel
theorem dX9_repeat_23 : decode cX9_repeat 23 = .ok (.bipush 126, 2) := by decide +kernel
theorem dX9_repeat_25 : decode cX9_repeat 25 = .ok (.iconst 2, 1) := by decide +kernel
theorem dX9_repeat_26 : decode cX9_repeat 26 = .ok (.iload_n 1, 1) := by decide +kernel
theorem dX9_repeat_27 : decode cX9_repeat 27 = .ok (.iload_n 2, 1) := by decide +kernel
theorem dX9_repeat_28 : decode cX9_repeat 28 = .ok (.invokevirtual 147, 3) := by decide +kernel
theorem dX9_repeat_31 : decode cX9_repeat 31 = .ok (.ireturn, 1) := by decide +kernel
theorem dX9_cut_0 : decode cX9_cut 0 = .ok (.aload_n 0, 1) := by decide +kernel
theorem dX9_cut_1 : decode cX9_cut 1 = .ok (.iconst 0, 1) := by decide +kernel
theorem dX9_cut_2 : decode cX9_cut 2 = .ok (.putfield 56, 3) := by decide +kernel
theorem dX9_cut_5 : decode cX9_cut 5 = .ok (.aload_n 0, 1) := by decide +kernel
theorem dX9_cut_6 : decode cX9_cut 6 = .ok (.iload_n 1, 1) := by decide +kernel
theorem dX9_cut_7 : decode cX9_cut 7 = .ok (.iload_n 2, 1) := by decide +kernel
theorem dX9_cut_8 : decode cX9_cut 8 = .ok (.iconst 3, 1) := by decide +kernel
theorem dX9_cut_9 : decode cX9_cut 9 = .ok (.invokevirtual 141, 3) := by decide +kernel
theorem dX9_cut_12 : decode cX9_cut 12 = .ok (.istore_n 3, 1) := by decide +kernel
theorem dX9_cut_13 : decode cX9_cut 13 = .ok (.iload_n 3, 1) := by decide +kernel
theorem dX9_cut_14 : decode cX9_cut 14 = .ok (.ifCond .eq 5, 3) := by decide +kernel
theorem dX9_cut_17 : decode cX9_cut 17 = .ok (.iload_n 3, 1) := by decide +kernel
theorem dX9_cut_18 : decode cX9_cut 18 = .ok (.ireturn, 1) := by decide +kernel
theorem dX9_cut_19 : decode cX9_cut 19 = .ok (.aload_n 0, 1) := by decide +kernel
theorem dX9_cut_20 : decode cX9_cut 20 = .ok (.invokevirtual 127, 3) := by decide +kernel
theorem dX9_cut_23 : decode cX9_cut 23 = .ok (.aload_n 0, 1) := by decide +kernel
theorem dX9_cut_24 : decode cX9_cut 24 = .ok (.sipush 134, 3) := by decide +kernel
theorem dX9_cut_27 : decode cX9_cut 27 = .ok (.iconst 3, 1) := by decide +kernel
theorem dX9_cut_28 : decode cX9_cut 28 = .ok (.iload_n 1, 1) := by decide +kernel
theorem dX9_cut_29 : decode cX9_cut 29 = .ok (.iload_n 2, 1) := by decide +kernel
theorem dX9_cut_30 : decode cX9_cut 30 = .ok (.invokevirtual 147, 3) := by decide +kernel
theorem dX9_cut_33 : decode cX9_cut 33 = .ok (.ireturn, 1) := by decide +kernel
theorem dX9_blackout_0 : decode cX9_blackout 0 = .ok (.aload_n 0, 1) := by decide +kernel
theorem dX9_blackout_1 : decode cX9_blackout 1 = .ok (.iconst 0, 1) := by decide +kernel
theorem dX9_blackout_2 : decode cX9_blackout 2 = .ok (.putfield 56, 3) := by decide +kernel
theorem dX9_blackout_5 : decode cX9_blackout 5 = .ok (.iload_n 1, 1) := by decide +kernel
theorem dX9_blackout_6 : decode cX9_blackout 6 = .ok (.ifCond .lt 14, 3) := by decide +kernel
theorem dX9_blackout_9 : decode cX9_blackout 9 = .ok (.iload_n 2, 1) := by decide +kernel
theorem dX9_blackout_10 : decode cX9_blackout 10 = .ok (.iload_n 1, 1) := by decide +kernel
theorem dX9_blackout_11 : decode cX9_blackout 11 = .ok (.sipush 199, 3) := by decide +kernel
theorem dX9_blackout_14 : decode cX9_blackout 14 = .ok (.invokestatic 60, 3) := by decide +kernel
theorem dX9_blackout_17 : decode cX9_blackout 17 = .ok (.ifCond .ne 6, 3) := by decide +kernel
theorem dX9_blackout_20 : decode cX9_blackout 20 = .ok (.bipush (-2), 2) := by decide +kernel
theorem dX9_blackout_22 : decode cX9_blackout 22 = .ok (.ireturn, 1) := by decide +kernel
theorem dX9_blackout_23 : decode cX9_blackout 23 = .ok (.aload_n 0, 1) := by decide +kernel
theorem dX9_blackout_24 : decode cX9_blackout 24 = .ok (.getfield 7, 3) := by decide +kernel
theorem dX9_blackout_27 : decode cX9_blackout 27 = .ok (.iconst 4, 1) := by decide +kernel
theorem dX9_blackout_28 : decode cX9_blackout 28 = .ok (.iaload, 1) := by decide +kernel
theorem dX9_blackout_29 : decode cX9_blackout 29 = .ok (.iconst 3, 1) := by decide +kernel
theorem dX9_blackout_30 : decode cX9_blackout 30 = .ok (.if_icmp .ne 6, 3) := by decide +kernel
theorem dX9_blackout_33 : decode cX9_blackout 33 = .ok (.bipush (-4), 2) := by decide +kernel
theorem dX9_blackout_35 : decode cX9_blackout 35 = .ok (.ireturn, 1) := by decide +kernel
theorem dX9_blackout_36 : decode cX9_blackout 36 = .ok (.aload_n 0, 1) := by decide +kernel
theorem dX9_blackout_37 : decode cX9_blackout 37 = .ok (.invokevirtual 127, 3) := by decide +kernel
theorem dX9_blackout_40 : decode cX9_blackout 40 = .ok (.aload_n 0, 1) := by decide +kernel
theorem dX9_blackout_41 : decode cX9_blackout 41 = .ok (.sipush 142, 3) := by decide +kernel
theorem dX9_blackout_44 : decode cX9_blackout 44 = .ok (.iconst 4, 1) := by decide +kernel
theorem dX9_blackout_45 : decode cX9_blackout 45 = .ok (.iload_n 1, 1) := by decide +kernel
theorem dX9_blackout_46 : decode cX9_blackout 46 = .ok (.iload_n 2, 1) := by decide +kernel
theorem dX9_blackout_47 : decode cX9_blackout 47 = .ok (.invokevirtual 147, 3) := by decide +kernel
theorem dX9_blackout_50 : decode cX9_blackout 50 = .ok (.ireturn, 1) := by decide +kernel
theorem dX9_undoSpan_0 : decode cX9_undoSpan 0 = .ok (.aload_n 0, 1) := by decide +kernel
theorem dX9_undoSpan_1 : decode cX9_undoSpan 1 = .ok (.iconst 0, 1) := by decide +kernel
theorem dX9_undoSpan_2 : decode cX9_undoSpan 2 = .ok (.putfield 56, 3) := by decide +kernel
theorem dX9_undoSpan_5 : decode cX9_undoSpan 5 = .ok (.iload_n 1, 1) := by decide +kernel
theorem dX9_undoSpan_6 : decode cX9_undoSpan 6 = .ok (.iconst 0, 1) := by decide +kernel
theorem dX9_undoSpan_7 : decode cX9_undoSpan 7 = .ok (.iconst 2, 1) := by decide +kernel
theorem dX9_undoSpan_8 : decode cX9_undoSpan 8 = .ok (.invokestatic 60, 3) := by decide +kernel
theorem dX9_undoSpan_11 : decode cX9_undoSpan 11 = .ok (.ifCond .ne 6, 3) := by decide +kernel
theorem dX9_undoSpan_14 : decode cX9_undoSpan 14 = .ok (.bipush (-2), 2) := by decide +kernel
theorem dX9_undoSpan_16 : decode cX9_undoSpan 16 = .ok (.ireturn, 1) := by decide +kernel
theorem dX9_undoSpan_17 : decode cX9_undoSpan 17 = .ok (.iload_n 2, 1) := by decide +kernel
theorem dX9_undoSpan_18 : decode cX9_undoSpan 18 = .ok (.iconst 0, 1) := by decide +kernel
theorem dX9_undoSpan_19 : decode cX9_undoSpan 19 = .ok (.aload_n 0, 1) := by decide +kernel
theorem dX9_undoSpan_20 : decode cX9_undoSpan 20 = .ok (.getfield 7, 3) := by decide +kernel
theorem dX9_undoSpan_23 : decode cX9_undoSpan 23 = .ok (.iconst 2, 1) := by decide +kernel
theorem dX9_undoSpan_24 : decode cX9_undoSpan 24 = .ok (.iload_n 1, 1) := by decide +kernel
theorem dX9_undoSpan_25 : decode cX9_undoSpan 25 = .ok (.iadd, 1) := by decide +kernel
theorem dX9_undoSpan_26 : decode cX9_undoSpan 26 = .ok (.iaload, 1) := by decide +kernel
theorem dX9_undoSpan_27 : decode cX9_undoSpan 27 = .ok (.iconst 1, 1) := by decide +kernel
theorem dX9_undoSpan_28 : decode cX9_undoSpan 28 = .ok (.isub, 1) := by decide +kernel
theorem dX9_undoSpan_29 : decode cX9_undoSpan 29 = .ok (.invokestatic 60, 3) := by decide +kernel
theorem dX9_undoSpan_32 : decode cX9_undoSpan 32 = .ok (.ifCond .ne 5, 3) := by decide +kernel
theorem dX9_undoSpan_35 : decode cX9_undoSpan 35 = .ok (.iconst (-1), 1) := by decide +kernel
theorem dX9_undoSpan_36 : decode cX9_undoSpan 36 = .ok (.ireturn, 1) := by decide +kernel
theorem dX9_undoSpan_37 : decode cX9_undoSpan 37 = .ok (.aload_n 0, 1) := by decide +kernel
theorem dX9_undoSpan_38 : decode cX9_undoSpan 38 = .ok (.invokevirtual 127, 3) := by decide +kernel
theorem dX9_undoSpan_41 : decode cX9_undoSpan 41 = .ok (.iload_n 1, 1) := by decide +kernel
theorem dX9_undoSpan_42 : decode cX9_undoSpan 42 = .ok (.ifCond .ne 8, 3) := by decide +kernel
theorem dX9_undoSpan_45 : decode cX9_undoSpan 45 = .ok (.bipush 126, 2) := by decide +kernel
theorem dX9_undoSpan_47 : decode cX9_undoSpan 47 = .ok (.goto 17, 3) := by decide +kernel
theorem dX9_undoSpan_50 : decode cX9_undoSpan 50 = .ok (.iload_n 1, 1) := by decide +kernel
theorem dX9_undoSpan_51 : decode cX9_undoSpan 51 = .ok (.iconst 1, 1) := by decide +kernel
theorem dX9_undoSpan_52 : decode cX9_undoSpan 52 = .ok (.if_icmp .ne 9, 3) := by decide +kernel
theorem dX9_undoSpan_55 : decode cX9_undoSpan 55 = .ok (.sipush 134, 3) := by decide +kernel
theorem dX9_undoSpan_58 : decode cX9_undoSpan 58 = .ok (.goto 6, 3) := by decide +kernel
theorem dX9_undoSpan_61 : decode cX9_undoSpan 61 = .ok (.sipush 142, 3) := by decide +kernel
theorem dX9_undoSpan_64 : decode cX9_undoSpan 64 = .ok (.istore_n 3, 1) := by decide +kernel
theorem dX9_undoSpan_65 : decode cX9_undoSpan 65 = .ok (.aload_n 0, 1) := by decide +kernel
theorem dX9_undoSpan_66 : decode cX9_undoSpan 66 = .ok (.getfield 7, 3) := by decide +kernel
theorem dX9_undoSpan_69 : decode cX9_undoSpan 69 = .ok (.iconst 2, 1) := by decide +kernel
theorem dX9_undoSpan_70 : decode cX9_undoSpan 70 = .ok (.iload_n 1, 1) := by decide +kernel
theorem dX9_undoSpan_71 : decode cX9_undoSpan 71 = .ok (.iadd, 1) := by decide +kernel
theorem dX9_undoSpan_72 : decode cX9_undoSpan 72 = .ok (.dup2, 1) := by decide +kernel
theorem dX9_undoSpan_73 : decode cX9_undoSpan 73 = .ok (.iaload, 1) := by decide +kernel
theorem dX9_undoSpan_74 : decode cX9_undoSpan 74 = .ok (.iconst 1, 1) := by decide +kernel
theorem dX9_undoSpan_75 : decode cX9_undoSpan 75 = .ok (.isub, 1) := by decide +kernel
theorem dX9_undoSpan_76 : decode cX9_undoSpan 76 = .ok (.iastore, 1) := by decide +kernel
theorem dX9_undoSpan_77 : decode cX9_undoSpan 77 = .ok (.iconst 2, 1) := by decide +kernel
theorem dX9_undoSpan_78 : decode cX9_undoSpan 78 = .ok (.iload_n 2, 1) := by decide +kernel
theorem dX9_undoSpan_79 : decode cX9_undoSpan 79 = .ok (.imul, 1) := by decide +kernel
theorem dX9_undoSpan_80 : decode cX9_undoSpan 80 = .ok (.istore 4, 2) := by decide +kernel
theorem dX9_undoSpan_82 : decode cX9_undoSpan 82 = .ok (.iload 4, 2) := by decide +kernel
theorem dX9_undoSpan_84 : decode cX9_undoSpan 84 = .ok (.iconst 2, 1) := by decide +kernel
theorem dX9_undoSpan_85 : decode cX9_undoSpan 85 = .ok (.aload_n 0, 1) := by decide +kernel
theorem dX9_undoSpan_86 : decode cX9_undoSpan 86 = .ok (.getfield 7, 3) := by decide +kernel
theorem dX9_undoSpan_89 : decode cX9_undoSpan 89 = .ok (.iconst 2, 1) := by decide +kernel
theorem dX9_undoSpan_90 : decode cX9_undoSpan 90 = .ok (.iload_n 1, 1) := by decide +kernel
theorem dX9_undoSpan_91 : decode cX9_undoSpan 91 = .ok (.iadd, 1) := by decide +kernel
theorem dX9_undoSpan_92 : decode cX9_undoSpan 92 = .ok (.iaload, 1) := by decide +kernel
theorem dX9_undoSpan_93 : decode cX9_undoSpan 93 = .ok (.imul, 1) := by decide +kernel
theorem dX9_undoSpan_94 : decode cX9_undoSpan 94 = .ok (.if_icmp .ge 29, 3) := by decide +kernel
theorem dX9_undoSpan_97 : decode cX9_undoSpan 97 = .ok (.aload_n 0, 1) := by decide +kernel
theorem dX9_undoSpan_98 : decode cX9_undoSpan 98 = .ok (.getfield 7, 3) := by decide +kernel
theorem dX9_undoSpan_101 : decode cX9_undoSpan 101 = .ok (.iload_n 3, 1) := by decide +kernel
theorem dX9_undoSpan_102 : decode cX9_undoSpan 102 = .ok (.iload 4, 2) := by decide +kernel
theorem dX9_undoSpan_104 : decode cX9_undoSpan 104 = .ok (.iadd, 1) := by decide +kernel
theorem dX9_undoSpan_105 : decode cX9_undoSpan 105 = .ok (.aload_n 0, 1) := by decide +kernel
theorem dX9_undoSpan_106 : decode cX9_undoSpan 106 = .ok (.getfield 7, 3) := by decide +kernel
theorem dX9_undoSpan_109 : decode cX9_undoSpan 109 = .ok (.iload_n 3, 1) := by decide +kernel
theorem dX9_undoSpan_110 : decode cX9_undoSpan 110 = .ok (.iload 4, 2) := by decide +kernel
theorem dX9_undoSpan_112 : decode cX9_undoSpan 112 = .ok (.iadd, 1) := by decide +kernel
theorem dX9_undoSpan_113 : decode cX9_undoSpan 113 = .ok (.iconst 2, 1) := by decide +kernel
theorem dX9_undoSpan_114 : decode cX9_undoSpan 114 = .ok (.iadd, 1) := by decide +kernel
theorem dX9_undoSpan_115 : decode cX9_undoSpan 115 = .ok (.iaload, 1) := by decide +kernel
theorem dX9_undoSpan_116 : decode cX9_undoSpan 116 = .ok (.iastore, 1) := by decide +kernel
theorem dX9_undoSpan_117 : decode cX9_undoSpan 117 = .ok (.iinc 4 1, 3) := by decide +kernel
theorem dX9_undoSpan_120 : decode cX9_undoSpan 120 = .ok (.goto (-38), 3) := by decide +kernel
theorem dX9_undoSpan_123 : decode cX9_undoSpan 123 = .ok (.aload_n 0, 1) := by decide +kernel
theorem dX9_undoSpan_124 : decode cX9_undoSpan 124 = .ok (.getfield 7, 3) := by decide +kernel
theorem dX9_undoSpan_127 : decode cX9_undoSpan 127 = .ok (.iload_n 3, 1) := by decide +kernel
theorem dX9_undoSpan_128 : decode cX9_undoSpan 128 = .ok (.iconst 2, 1) := by decide +kernel
theorem dX9_undoSpan_129 : decode cX9_undoSpan 129 = .ok (.aload_n 0, 1) := by decide +kernel
theorem dX9_undoSpan_130 : decode cX9_undoSpan 130 = .ok (.getfield 7, 3) := by decide +kernel
theorem dX9_undoSpan_133 : decode cX9_undoSpan 133 = .ok (.iconst 2, 1) := by decide +kernel
theorem dX9_undoSpan_134 : decode cX9_undoSpan 134 = .ok (.iload_n 1, 1) := by decide +kernel
theorem dX9_undoSpan_135 : decode cX9_undoSpan 135 = .ok (.iadd, 1) := by decide +kernel
theorem dX9_undoSpan_136 : decode cX9_undoSpan 136 = .ok (.iaload, 1) := by decide +kernel
theorem dX9_undoSpan_137 : decode cX9_undoSpan 137 = .ok (.imul, 1) := by decide +kernel
theorem dX9_undoSpan_138 : decode cX9_undoSpan 138 = .ok (.iadd, 1) := by decide +kernel
theorem dX9_undoSpan_139 : decode cX9_undoSpan 139 = .ok (.iconst 0, 1) := by decide +kernel
theorem dX9_undoSpan_140 : decode cX9_undoSpan 140 = .ok (.iastore, 1) := by decide +kernel
theorem dX9_undoSpan_141 : decode cX9_undoSpan 141 = .ok (.aload_n 0, 1) := by decide +kernel
theorem dX9_undoSpan_142 : decode cX9_undoSpan 142 = .ok (.getfield 7, 3) := by decide +kernel
theorem dX9_undoSpan_145 : decode cX9_undoSpan 145 = .ok (.iload_n 3, 1) := by decide +kernel
theorem dX9_undoSpan_146 : decode cX9_undoSpan 146 = .ok (.iconst 2, 1) := by decide +kernel
theorem dX9_undoSpan_147 : decode cX9_undoSpan 147 = .ok (.aload_n 0, 1) := by decide +kernel
theorem dX9_undoSpan_148 : decode cX9_undoSpan 148 = .ok (.getfield 7, 3) := by decide +kernel
theorem dX9_undoSpan_151 : decode cX9_undoSpan 151 = .ok (.iconst 2, 1) := by decide +kernel
theorem dX9_undoSpan_152 : decode cX9_undoSpan 152 = .ok (.iload_n 1, 1) := by decide +kernel
theorem dX9_undoSpan_153 : decode cX9_undoSpan 153 = .ok (.iadd, 1) := by decide +kernel
theorem dX9_undoSpan_154 : decode cX9_undoSpan 154 = .ok (.iaload, 1) := by decide +kernel
theorem dX9_undoSpan_155 : decode cX9_undoSpan 155 = .ok (.imul, 1) := by decide +kernel
theorem dX9_undoSpan_156 : decode cX9_undoSpan 156 = .ok (.iadd, 1) := by decide +kernel
theorem dX9_undoSpan_157 : decode cX9_undoSpan 157 = .ok (.iconst 1, 1) := by decide +kernel
theorem dX9_undoSpan_158 : decode cX9_undoSpan 158 = .ok (.iadd, 1) := by decide +kernel
theorem dX9_undoSpan_159 : decode cX9_undoSpan 159 = .ok (.iconst 0, 1) := by decide +kernel
theorem dX9_undoSpan_160 : decode cX9_undoSpan 160 = .ok (.iastore, 1) := by decide +kernel
theorem dX9_undoSpan_161 : decode cX9_undoSpan 161 = .ok (.aload_n 0, 1) := by decide +kernel
theorem dX9_undoSpan_162 : decode cX9_undoSpan 162 = .ok (.getfield 7, 3) := by decide +kernel
theorem dX9_undoSpan_165 : decode cX9_undoSpan 165 = .ok (.iconst 2, 1) := by decide +kernel
theorem dX9_undoSpan_166 : decode cX9_undoSpan 166 = .ok (.iload_n 1, 1) := by decide +kernel
theorem dX9_undoSpan_167 : decode cX9_undoSpan 167 = .ok (.iadd, 1) := by decide +kernel
theorem dX9_undoSpan_168 : decode cX9_undoSpan 168 = .ok (.iaload, 1) := by decide +kernel
theorem dX9_undoSpan_169 : decode cX9_undoSpan 169 = .ok (.ireturn, 1) := by decide +kernel
theorem dX9_refusesTitle_0 : decode cX9_refusesTitle 0 = .ok (.aload_n 0, 1) := by decide +kernel
theorem dX9_refusesTitle_1 : decode cX9_refusesTitle 1 = .ok (.iload_n 2, 1) := by decide +kernel
theorem dX9_refusesTitle_2 : decode cX9_refusesTitle 2 = .ok (.invokevirtual 130, 3) := by decide +kernel
theorem dX9_refusesTitle_5 : decode cX9_refusesTitle 5 = .ok (.ifCond .ne 5, 3) := by decide +kernel
theorem dX9_refusesTitle_8 : decode cX9_refusesTitle 8 = .ok (.iconst (-1), 1) := by decide +kernel
theorem dX9_refusesTitle_9 : decode cX9_refusesTitle 9 = .ok (.ireturn, 1) := by decide +kernel
theorem dX9_refusesTitle_10 : decode cX9_refusesTitle 10 = .ok (.iload_n 1, 1) := by decide +kernel
theorem dX9_refusesTitle_11 : decode cX9_refusesTitle 11 = .ok (.iconst 0, 1) := by decide +kernel
theorem dX9_refusesTitle_12 : decode cX9_refusesTitle 12 = .ok (.iconst 2, 1) := by decide +kernel
theorem dX9_refusesTitle_13 : decode cX9_refusesTitle 13 = .ok (.invokestatic 60, 3) := by decide +kernel
theorem dX9_refusesTitle_16 : decode cX9_refusesTitle 16 = .ok (.ifCond .eq 24, 3) := by decide +kernel
theorem dX9_refusesTitle_19 : decode cX9_refusesTitle 19 = .ok (.iload_n 3, 1) := by decide +kernel
theorem dX9_refusesTitle_20 : decode cX9_refusesTitle 20 = .ok (.iconst 1, 1) := by decide +kernel
theorem dX9_refusesTitle_21 : decode cX9_refusesTitle 21 = .ok (.bipush 20, 2) := by decide +kernel
theorem dX9_refusesTitle_23 : decode cX9_refusesTitle 23 = .ok (.invokestatic 60, 3) := by decide +kernel
theorem dX9_refusesTitle_26 : decode cX9_refusesTitle 26 = .ok (.ifCond .eq 14, 3) := by decide +kernel
theorem dX9_refusesTitle_29 : decode cX9_refusesTitle 29 = .ok (.iload 4, 2) := by decide +kernel
theorem dX9_refusesTitle_31 : decode cX9_refusesTitle 31 = .ok (.iconst 1, 1) := by decide +kernel
theorem dX9_refusesTitle_32 : decode cX9_refusesTitle 32 = .ok (.bipush 80, 2) := by decide +kernel
theorem dX9_refusesTitle_34 : decode cX9_refusesTitle 34 = .ok (.invokestatic 60, 3) := by decide +kernel
theorem dX9_refusesTitle_37 : decode cX9_refusesTitle 37 = .ok (.ifCond .ne 6, 3) := by decide +kernel
theorem dX9_refusesTitle_40 : decode cX9_refusesTitle 40 = .ok (.bipush (-2), 2) := by decide +kernel
theorem dX9_refusesTitle_42 : decode cX9_refusesTitle 42 = .ok (.ireturn, 1) := by decide +kernel
theorem dX9_refusesTitle_43 : decode cX9_refusesTitle 43 = .ok (.aload_n 0, 1) := by decide +kernel
theorem dX9_refusesTitle_44 : decode cX9_refusesTitle 44 = .ok (.getfield 7, 3) := by decide +kernel
