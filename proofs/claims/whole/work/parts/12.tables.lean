/-! what the walks look up (by program: wip/whole/walk.py) -/
theorem o_0 : mow 0 = 9 := by decide +kernel
theorem rt_0 : mrt 0 = (some .boolean) := by decide +kernel
theorem o_1 : mow 1 = 8 := by decide +kernel
theorem rt_1 : mrt 1 = (some .int) := by decide +kernel
theorem o_2 : mow 2 = 8 := by decide +kernel
theorem rt_2 : mrt 2 = (some .char) := by decide +kernel
theorem o_3 : mow 3 = 8 := by decide +kernel
theorem rt_3 : mrt 3 = (some .int) := by decide +kernel
theorem o_4 : mow 4 = 8 := by decide +kernel
theorem rt_4 : mrt 4 = (some .int) := by decide +kernel
theorem o_5 : mow 5 = 8 := by decide +kernel
theorem rt_5 : mrt 5 = (some .byte) := by decide +kernel
theorem o_6 : mow 6 = 8 := by decide +kernel
theorem rt_6 : mrt 6 = (some .boolean) := by decide +kernel
theorem o_7 : mow 7 = 8 := by decide +kernel
theorem rt_7 : mrt 7 = none := by decide +kernel
theorem o_8 : mow 8 = 10 := by decide +kernel
theorem rt_8 : mrt 8 = (some .char) := by decide +kernel
theorem o_9 : mow 9 = 10 := by decide +kernel
theorem rt_9 : mrt 9 = (some .boolean) := by decide +kernel
theorem o_10 : mow 10 = 10 := by decide +kernel
theorem rt_10 : mrt 10 = (some .int) := by decide +kernel
theorem o_11 : mow 11 = 10 := by decide +kernel
theorem rt_11 : mrt 11 = (some .int) := by decide +kernel
theorem o_12 : mow 12 = 12 := by decide +kernel
theorem rt_12 : mrt 12 = (some .int) := by decide +kernel
theorem o_13 : mow 13 = 11 := by decide +kernel
theorem rt_13 : mrt 13 = (some .int) := by decide +kernel
theorem o_14 : mow 14 = 11 := by decide +kernel
theorem rt_14 : mrt 14 = (some .int) := by decide +kernel
theorem o_15 : mow 15 = 0 := by decide +kernel
theorem rt_15 : mrt 15 = none := by decide +kernel
theorem o_16 : mow 16 = 0 := by decide +kernel
theorem rt_16 : mrt 16 = none := by decide +kernel
theorem o_17 : mow 17 = 0 := by decide +kernel
theorem rt_17 : mrt 17 = none := by decide +kernel
theorem o_18 : mow 18 = 0 := by decide +kernel
theorem rt_18 : mrt 18 = none := by decide +kernel
theorem o_19 : mow 19 = 0 := by decide +kernel
theorem rt_19 : mrt 19 = (some .int) := by decide +kernel
theorem o_20 : mow 20 = 0 := by decide +kernel
theorem rt_20 : mrt 20 = (some .boolean) := by decide +kernel
theorem o_21 : mow 21 = 0 := by decide +kernel
theorem rt_21 : mrt 21 = (some .int) := by decide +kernel
theorem o_22 : mow 22 = 1 := by decide +kernel
theorem rt_22 : mrt 22 = none := by decide +kernel
theorem o_23 : mow 23 = 1 := by decide +kernel
theorem rt_23 : mrt 23 = none := by decide +kernel
theorem o_24 : mow 24 = 1 := by decide +kernel
theorem rt_24 : mrt 24 = (some .int) := by decide +kernel
theorem o_25 : mow 25 = 2 := by decide +kernel
theorem rt_25 : mrt 25 = none := by decide +kernel
theorem o_26 : mow 26 = 2 := by decide +kernel
theorem rt_26 : mrt 26 = none := by decide +kernel
theorem o_27 : mow 27 = 2 := by decide +kernel
theorem rt_27 : mrt 27 = none := by decide +kernel
theorem o_28 : mow 28 = 2 := by decide +kernel
theorem rt_28 : mrt 28 = (some .int) := by decide +kernel
theorem o_29 : mow 29 = 2 := by decide +kernel
theorem rt_29 : mrt 29 = none := by decide +kernel
theorem o_30 : mow 30 = 2 := by decide +kernel
theorem rt_30 : mrt 30 = (some .int) := by decide +kernel
theorem o_31 : mow 31 = 2 := by decide +kernel
theorem rt_31 : mrt 31 = (some .boolean) := by decide +kernel
theorem o_32 : mow 32 = 2 := by decide +kernel
theorem rt_32 : mrt 32 = (some .int) := by decide +kernel
theorem o_33 : mow 33 = 2 := by decide +kernel
theorem rt_33 : mrt 33 = (some .boolean) := by decide +kernel
theorem o_34 : mow 34 = 2 := by decide +kernel
theorem rt_34 : mrt 34 = (some .boolean) := by decide +kernel
theorem o_35 : mow 35 = 3 := by decide +kernel
theorem rt_35 : mrt 35 = none := by decide +kernel
theorem o_36 : mow 36 = 3 := by decide +kernel
theorem rt_36 : mrt 36 = none := by decide +kernel
theorem o_37 : mow 37 = 3 := by decide +kernel
theorem rt_37 : mrt 37 = none := by decide +kernel
theorem o_38 : mow 38 = 3 := by decide +kernel
theorem rt_38 : mrt 38 = (some .int) := by decide +kernel
theorem o_39 : mow 39 = 3 := by decide +kernel
theorem rt_39 : mrt 39 = (some .boolean) := by decide +kernel
theorem o_40 : mow 40 = 3 := by decide +kernel
theorem rt_40 : mrt 40 = (some .boolean) := by decide +kernel
theorem o_41 : mow 41 = 3 := by decide +kernel
theorem rt_41 : mrt 41 = (some .boolean) := by decide +kernel
theorem o_42 : mow 42 = 3 := by decide +kernel
theorem rt_42 : mrt 42 = (some .boolean) := by decide +kernel
theorem o_43 : mow 43 = 3 := by decide +kernel
theorem rt_43 : mrt 43 = (some .int) := by decide +kernel
theorem o_44 : mow 44 = 3 := by decide +kernel
theorem rt_44 : mrt 44 = (some .boolean) := by decide +kernel
theorem o_45 : mow 45 = 3 := by decide +kernel
theorem rt_45 : mrt 45 = (some .boolean) := by decide +kernel
theorem o_46 : mow 46 = 3 := by decide +kernel
theorem rt_46 : mrt 46 = (some .boolean) := by decide +kernel
theorem o_47 : mow 47 = 3 := by decide +kernel
theorem rt_47 : mrt 47 = none := by decide +kernel
theorem o_48 : mow 48 = 3 := by decide +kernel
theorem rt_48 : mrt 48 = none := by decide +kernel
theorem o_49 : mow 49 = 3 := by decide +kernel
theorem rt_49 : mrt 49 = (some .boolean) := by decide +kernel
theorem o_50 : mow 50 = 3 := by decide +kernel
theorem rt_50 : mrt 50 = none := by decide +kernel
theorem o_51 : mow 51 = 3 := by decide +kernel
theorem rt_51 : mrt 51 = none := by decide +kernel
theorem o_52 : mow 52 = 3 := by decide +kernel
theorem rt_52 : mrt 52 = (some .boolean) := by decide +kernel
theorem o_53 : mow 53 = 3 := by decide +kernel
theorem rt_53 : mrt 53 = (some .boolean) := by decide +kernel
theorem o_54 : mow 54 = 3 := by decide +kernel
theorem rt_54 : mrt 54 = (some .boolean) := by decide +kernel
theorem o_55 : mow 55 = 4 := by decide +kernel
theorem rt_55 : mrt 55 = none := by decide +kernel
theorem o_56 : mow 56 = 4 := by decide +kernel
theorem rt_56 : mrt 56 = (some .boolean) := by decide +kernel
theorem o_57 : mow 57 = 4 := by decide +kernel
theorem rt_57 : mrt 57 = (some .boolean) := by decide +kernel
theorem o_58 : mow 58 = 4 := by decide +kernel
theorem rt_58 : mrt 58 = (some .int) := by decide +kernel
theorem o_59 : mow 59 = 4 := by decide +kernel
theorem rt_59 : mrt 59 = (some .int) := by decide +kernel
theorem o_60 : mow 60 = 4 := by decide +kernel
theorem rt_60 : mrt 60 = none := by decide +kernel
theorem o_61 : mow 61 = 4 := by decide +kernel
theorem rt_61 : mrt 61 = none := by decide +kernel
theorem o_62 : mow 62 = 4 := by decide +kernel
theorem rt_62 : mrt 62 = none := by decide +kernel
theorem o_63 : mow 63 = 4 := by decide +kernel
theorem rt_63 : mrt 63 = none := by decide +kernel
theorem o_64 : mow 64 = 4 := by decide +kernel
theorem rt_64 : mrt 64 = none := by decide +kernel
theorem o_65 : mow 65 = 4 := by decide +kernel
theorem rt_65 : mrt 65 = none := by decide +kernel
theorem o_66 : mow 66 = 4 := by decide +kernel
theorem rt_66 : mrt 66 = none := by decide +kernel
theorem o_67 : mow 67 = 4 := by decide +kernel
theorem rt_67 : mrt 67 = none := by decide +kernel
theorem o_68 : mow 68 = 4 := by decide +kernel
theorem rt_68 : mrt 68 = (some .int) := by decide +kernel
theorem o_69 : mow 69 = 4 := by decide +kernel
theorem rt_69 : mrt 69 = none := by decide +kernel
theorem o_70 : mow 70 = 4 := by decide +kernel
theorem rt_70 : mrt 70 = (some .int) := by decide +kernel
theorem o_71 : mow 71 = 4 := by decide +kernel
theorem rt_71 : mrt 71 = (some .int) := by decide +kernel
theorem o_72 : mow 72 = 4 := by decide +kernel
theorem rt_72 : mrt 72 = (some .int) := by decide +kernel
theorem o_73 : mow 73 = 4 := by decide +kernel
theorem rt_73 : mrt 73 = (some .int) := by decide +kernel
theorem o_74 : mow 74 = 4 := by decide +kernel
theorem rt_74 : mrt 74 = (some .int) := by decide +kernel
theorem o_75 : mow 75 = 4 := by decide +kernel
theorem rt_75 : mrt 75 = (some .int) := by decide +kernel
theorem o_76 : mow 76 = 4 := by decide +kernel
theorem rt_76 : mrt 76 = (some .int) := by decide +kernel
theorem o_77 : mow 77 = 5 := by decide +kernel
theorem rt_77 : mrt 77 = none := by decide +kernel
theorem o_78 : mow 78 = 5 := by decide +kernel
theorem rt_78 : mrt 78 = (some .boolean) := by decide +kernel
theorem o_79 : mow 79 = 5 := by decide +kernel
theorem rt_79 : mrt 79 = none := by decide +kernel
theorem o_80 : mow 80 = 5 := by decide +kernel
theorem rt_80 : mrt 80 = (some .boolean) := by decide +kernel
theorem o_81 : mow 81 = 5 := by decide +kernel
theorem rt_81 : mrt 81 = (some .boolean) := by decide +kernel
theorem o_82 : mow 82 = 5 := by decide +kernel
theorem rt_82 : mrt 82 = none := by decide +kernel
theorem o_83 : mow 83 = 6 := by decide +kernel
theorem rt_83 : mrt 83 = none := by decide +kernel
theorem o_84 : mow 84 = 6 := by decide +kernel
theorem rt_84 : mrt 84 = (some .int) := by decide +kernel
theorem o_85 : mow 85 = 6 := by decide +kernel
theorem rt_85 : mrt 85 = (some .int) := by decide +kernel
theorem o_86 : mow 86 = 6 := by decide +kernel
theorem rt_86 : mrt 86 = (some .int) := by decide +kernel
theorem o_87 : mow 87 = 6 := by decide +kernel
theorem rt_87 : mrt 87 = (some .int) := by decide +kernel
theorem o_88 : mow 88 = 6 := by decide +kernel
theorem rt_88 : mrt 88 = (some .int) := by decide +kernel
theorem o_89 : mow 89 = 6 := by decide +kernel
theorem rt_89 : mrt 89 = (some .int) := by decide +kernel
theorem o_90 : mow 90 = 6 := by decide +kernel
theorem rt_90 : mrt 90 = (some .int) := by decide +kernel
theorem o_91 : mow 91 = 6 := by decide +kernel
theorem rt_91 : mrt 91 = (some .int) := by decide +kernel
theorem o_92 : mow 92 = 6 := by decide +kernel
theorem rt_92 : mrt 92 = (some .int) := by decide +kernel
theorem o_93 : mow 93 = 6 := by decide +kernel
theorem rt_93 : mrt 93 = (some .int) := by decide +kernel
theorem o_94 : mow 94 = 6 := by decide +kernel
theorem rt_94 : mrt 94 = (some .int) := by decide +kernel
theorem o_95 : mow 95 = 6 := by decide +kernel
theorem rt_95 : mrt 95 = (some .int) := by decide +kernel
theorem o_96 : mow 96 = 6 := by decide +kernel
theorem rt_96 : mrt 96 = (some .int) := by decide +kernel
theorem o_97 : mow 97 = 6 := by decide +kernel
theorem rt_97 : mrt 97 = (some .int) := by decide +kernel
theorem o_98 : mow 98 = 6 := by decide +kernel
theorem rt_98 : mrt 98 = (some .int) := by decide +kernel
theorem o_99 : mow 99 = 6 := by decide +kernel
theorem rt_99 : mrt 99 = (some .int) := by decide +kernel
theorem o_100 : mow 100 = 6 := by decide +kernel
theorem rt_100 : mrt 100 = (some .int) := by decide +kernel
theorem o_101 : mow 101 = 6 := by decide +kernel
theorem rt_101 : mrt 101 = (some .int) := by decide +kernel
theorem o_102 : mow 102 = 6 := by decide +kernel
theorem rt_102 : mrt 102 = (some .int) := by decide +kernel
theorem o_103 : mow 103 = 6 := by decide +kernel
theorem rt_103 : mrt 103 = (some .int) := by decide +kernel
theorem o_104 : mow 104 = 6 := by decide +kernel
theorem rt_104 : mrt 104 = (some .int) := by decide +kernel
theorem o_105 : mow 105 = 6 := by decide +kernel
theorem rt_105 : mrt 105 = (some .int) := by decide +kernel
theorem o_106 : mow 106 = 6 := by decide +kernel
theorem rt_106 : mrt 106 = (some .int) := by decide +kernel
theorem o_107 : mow 107 = 6 := by decide +kernel
theorem rt_107 : mrt 107 = (some .int) := by decide +kernel
theorem o_108 : mow 108 = 6 := by decide +kernel
theorem rt_108 : mrt 108 = (some .int) := by decide +kernel
theorem o_109 : mow 109 = 6 := by decide +kernel
theorem rt_109 : mrt 109 = (some .int) := by decide +kernel
theorem o_110 : mow 110 = 6 := by decide +kernel
theorem rt_110 : mrt 110 = (some .int) := by decide +kernel
theorem o_111 : mow 111 = 6 := by decide +kernel
theorem rt_111 : mrt 111 = (some .int) := by decide +kernel
theorem o_112 : mow 112 = 6 := by decide +kernel
theorem rt_112 : mrt 112 = (some .int) := by decide +kernel
theorem o_113 : mow 113 = 6 := by decide +kernel
theorem rt_113 : mrt 113 = (some .long) := by decide +kernel
theorem o_114 : mow 114 = 6 := by decide +kernel
theorem rt_114 : mrt 114 = (some .int) := by decide +kernel
theorem o_115 : mow 115 = 6 := by decide +kernel
theorem rt_115 : mrt 115 = (some .int) := by decide +kernel
theorem o_116 : mow 116 = 6 := by decide +kernel
theorem rt_116 : mrt 116 = (some .int) := by decide +kernel
theorem o_117 : mow 117 = 6 := by decide +kernel
theorem rt_117 : mrt 117 = (some .int) := by decide +kernel
theorem o_118 : mow 118 = 6 := by decide +kernel
theorem rt_118 : mrt 118 = (some .int) := by decide +kernel
theorem o_119 : mow 119 = 6 := by decide +kernel
theorem rt_119 : mrt 119 = (some .int) := by decide +kernel
theorem o_120 : mow 120 = 6 := by decide +kernel
theorem rt_120 : mrt 120 = (some .int) := by decide +kernel
theorem o_121 : mow 121 = 6 := by decide +kernel
theorem rt_121 : mrt 121 = (some .long) := by decide +kernel
theorem o_122 : mow 122 = 6 := by decide +kernel
theorem rt_122 : mrt 122 = none := by decide +kernel
theorem o_123 : mow 123 = 6 := by decide +kernel
theorem rt_123 : mrt 123 = none := by decide +kernel
theorem o_124 : mow 124 = 6 := by decide +kernel
theorem rt_124 : mrt 124 = none := by decide +kernel
theorem o_125 : mow 125 = 6 := by decide +kernel
theorem rt_125 : mrt 125 = none := by decide +kernel
theorem o_126 : mow 126 = 6 := by decide +kernel
theorem rt_126 : mrt 126 = (some .boolean) := by decide +kernel
theorem o_127 : mow 127 = 6 := by decide +kernel
theorem rt_127 : mrt 127 = (some .boolean) := by decide +kernel
theorem o_128 : mow 128 = 6 := by decide +kernel
theorem rt_128 : mrt 128 = (some .boolean) := by decide +kernel
theorem o_129 : mow 129 = 6 := by decide +kernel
theorem rt_129 : mrt 129 = (some .boolean) := by decide +kernel
theorem o_130 : mow 130 = 6 := by decide +kernel
theorem rt_130 : mrt 130 = (some .boolean) := by decide +kernel
theorem o_131 : mow 131 = 6 := by decide +kernel
theorem rt_131 : mrt 131 = (some .boolean) := by decide +kernel
theorem o_132 : mow 132 = 6 := by decide +kernel
theorem rt_132 : mrt 132 = (some .boolean) := by decide +kernel
theorem o_133 : mow 133 = 6 := by decide +kernel
theorem rt_133 : mrt 133 = (some .boolean) := by decide +kernel
theorem o_134 : mow 134 = 7 := by decide +kernel
theorem rt_134 : mrt 134 = none := by decide +kernel
theorem o_135 : mow 135 = 7 := by decide +kernel
theorem rt_135 : mrt 135 = (some .boolean) := by decide +kernel
theorem o_136 : mow 136 = 7 := by decide +kernel
theorem rt_136 : mrt 136 = (some .int) := by decide +kernel
theorem o_137 : mow 137 = 7 := by decide +kernel
theorem rt_137 : mrt 137 = (some .boolean) := by decide +kernel
theorem o_138 : mow 138 = 7 := by decide +kernel
theorem rt_138 : mrt 138 = (some .boolean) := by decide +kernel
theorem o_139 : mow 139 = 7 := by decide +kernel
theorem rt_139 : mrt 139 = (some .boolean) := by decide +kernel
theorem o_140 : mow 140 = 7 := by decide +kernel
theorem rt_140 : mrt 140 = (some .int) := by decide +kernel
theorem o_141 : mow 141 = 7 := by decide +kernel
theorem rt_141 : mrt 141 = (some .int) := by decide +kernel
theorem o_142 : mow 142 = 7 := by decide +kernel
theorem rt_142 : mrt 142 = (some .boolean) := by decide +kernel
theorem o_143 : mow 143 = 7 := by decide +kernel
theorem rt_143 : mrt 143 = (some .int) := by decide +kernel
theorem o_144 : mow 144 = 7 := by decide +kernel
theorem rt_144 : mrt 144 = (some .int) := by decide +kernel
theorem o_145 : mow 145 = 7 := by decide +kernel
theorem rt_145 : mrt 145 = none := by decide +kernel
theorem o_146 : mow 146 = 7 := by decide +kernel
theorem rt_146 : mrt 146 = (some .int) := by decide +kernel
theorem o_147 : mow 147 = 7 := by decide +kernel
theorem rt_147 : mrt 147 = none := by decide +kernel
theorem o_148 : mow 148 = 7 := by decide +kernel
theorem rt_148 : mrt 148 = none := by decide +kernel
theorem o_149 : mow 149 = 7 := by decide +kernel
theorem rt_149 : mrt 149 = none := by decide +kernel
theorem o_150 : mow 150 = 7 := by decide +kernel
theorem rt_150 : mrt 150 = (some .boolean) := by decide +kernel
theorem o_151 : mow 151 = 7 := by decide +kernel
theorem rt_151 : mrt 151 = (some .boolean) := by decide +kernel
theorem o_152 : mow 152 = 7 := by decide +kernel
theorem rt_152 : mrt 152 = (some .int) := by decide +kernel
theorem o_153 : mow 153 = 7 := by decide +kernel
theorem rt_153 : mrt 153 = (some .boolean) := by decide +kernel
theorem o_154 : mow 154 = 7 := by decide +kernel
theorem rt_154 : mrt 154 = (some .int) := by decide +kernel
theorem o_155 : mow 155 = 7 := by decide +kernel
theorem rt_155 : mrt 155 = (some .int) := by decide +kernel
theorem o_156 : mow 156 = 7 := by decide +kernel
theorem rt_156 : mrt 156 = (some .int) := by decide +kernel
theorem o_157 : mow 157 = 7 := by decide +kernel
theorem rt_157 : mrt 157 = (some .int) := by decide +kernel
theorem o_158 : mow 158 = 7 := by decide +kernel
theorem rt_158 : mrt 158 = (some .int) := by decide +kernel
theorem o_159 : mow 159 = 7 := by decide +kernel
theorem rt_159 : mrt 159 = (some .int) := by decide +kernel
theorem o_160 : mow 160 = 7 := by decide +kernel
theorem rt_160 : mrt 160 = (some .int) := by decide +kernel
theorem o_161 : mow 161 = 7 := by decide +kernel
theorem rt_161 : mrt 161 = (some .int) := by decide +kernel
theorem o_162 : mow 162 = 7 := by decide +kernel
theorem rt_162 : mrt 162 = (some .int) := by decide +kernel
theorem o_163 : mow 163 = 7 := by decide +kernel
theorem rt_163 : mrt 163 = (some .int) := by decide +kernel
theorem o_164 : mow 164 = 7 := by decide +kernel
theorem rt_164 : mrt 164 = (some .int) := by decide +kernel
theorem o_165 : mow 165 = 7 := by decide +kernel
theorem rt_165 : mrt 165 = (some .int) := by decide +kernel
theorem o_166 : mow 166 = 7 := by decide +kernel
theorem rt_166 : mrt 166 = (some .int) := by decide +kernel
theorem o_167 : mow 167 = 7 := by decide +kernel
theorem rt_167 : mrt 167 = (some .int) := by decide +kernel
theorem o_168 : mow 168 = 7 := by decide +kernel
theorem rt_168 : mrt 168 = (some .boolean) := by decide +kernel
theorem o_169 : mow 169 = 7 := by decide +kernel
theorem rt_169 : mrt 169 = (some .boolean) := by decide +kernel
theorem o_170 : mow 170 = 7 := by decide +kernel
theorem rt_170 : mrt 170 = (some .int) := by decide +kernel
theorem o_171 : mow 171 = 7 := by decide +kernel
theorem rt_171 : mrt 171 = none := by decide +kernel
theorem o_172 : mow 172 = 7 := by decide +kernel
theorem rt_172 : mrt 172 = none := by decide +kernel
theorem o_173 : mow 173 = 7 := by decide +kernel
theorem rt_173 : mrt 173 = none := by decide +kernel
theorem o_174 : mow 174 = 7 := by decide +kernel
theorem rt_174 : mrt 174 = none := by decide +kernel
theorem o_175 : mow 175 = 7 := by decide +kernel
theorem rt_175 : mrt 175 = (some .int) := by decide +kernel
theorem o_176 : mow 176 = 7 := by decide +kernel
theorem rt_176 : mrt 176 = (some .int) := by decide +kernel
theorem o_177 : mow 177 = 7 := by decide +kernel
theorem rt_177 : mrt 177 = (some .int) := by decide +kernel
theorem o_178 : mow 178 = 7 := by decide +kernel
theorem rt_178 : mrt 178 = (some .int) := by decide +kernel
theorem o_179 : mow 179 = 7 := by decide +kernel
theorem rt_179 : mrt 179 = none := by decide +kernel
theorem o_180 : mow 180 = 7 := by decide +kernel
theorem rt_180 : mrt 180 = none := by decide +kernel
theorem o_181 : mow 181 = 7 := by decide +kernel
theorem rt_181 : mrt 181 = none := by decide +kernel
theorem o_182 : mow 182 = 7 := by decide +kernel
theorem rt_182 : mrt 182 = (some .int) := by decide +kernel
theorem o_183 : mow 183 = 7 := by decide +kernel
theorem rt_183 : mrt 183 = (some .int) := by decide +kernel
theorem o_184 : mow 184 = 7 := by decide +kernel
theorem rt_184 : mrt 184 = (some .int) := by decide +kernel
theorem o_185 : mow 185 = 7 := by decide +kernel
theorem rt_185 : mrt 185 = (some .boolean) := by decide +kernel
theorem o_186 : mow 186 = 7 := by decide +kernel
theorem rt_186 : mrt 186 = (some .int) := by decide +kernel
theorem o_187 : mow 187 = 7 := by decide +kernel
theorem rt_187 : mrt 187 = (some .int) := by decide +kernel
theorem o_188 : mow 188 = 7 := by decide +kernel
theorem rt_188 : mrt 188 = (some .int) := by decide +kernel
theorem o_189 : mow 189 = 7 := by decide +kernel
theorem rt_189 : mrt 189 = (some .int) := by decide +kernel
theorem o_190 : mow 190 = 7 := by decide +kernel
theorem rt_190 : mrt 190 = (some .int) := by decide +kernel
theorem o_191 : mow 191 = 7 := by decide +kernel
theorem rt_191 : mrt 191 = (some .int) := by decide +kernel
theorem o_192 : mow 192 = 7 := by decide +kernel
theorem rt_192 : mrt 192 = (some .int) := by decide +kernel
theorem o_193 : mow 193 = 7 := by decide +kernel
theorem rt_193 : mrt 193 = (some .int) := by decide +kernel
theorem o_194 : mow 194 = 7 := by decide +kernel
theorem rt_194 : mrt 194 = (some .int) := by decide +kernel
theorem o_195 : mow 195 = 7 := by decide +kernel
theorem rt_195 : mrt 195 = (some .int) := by decide +kernel
theorem o_196 : mow 196 = 7 := by decide +kernel
theorem rt_196 : mrt 196 = (some .int) := by decide +kernel
theorem o_197 : mow 197 = 7 := by decide +kernel
theorem rt_197 : mrt 197 = (some .int) := by decide +kernel
theorem o_198 : mow 198 = 7 := by decide +kernel
theorem rt_198 : mrt 198 = (some .int) := by decide +kernel
theorem o_199 : mow 199 = 7 := by decide +kernel
theorem rt_199 : mrt 199 = (some .int) := by decide +kernel
theorem o_200 : mow 200 = 7 := by decide +kernel
theorem rt_200 : mrt 200 = none := by decide +kernel
theorem o_201 : mow 201 = 7 := by decide +kernel
theorem rt_201 : mrt 201 = (some .int) := by decide +kernel
theorem o_202 : mow 202 = 7 := by decide +kernel
theorem rt_202 : mrt 202 = (some .long) := by decide +kernel
theorem o_203 : mow 203 = 7 := by decide +kernel
theorem rt_203 : mrt 203 = (some .long) := by decide +kernel
theorem o_204 : mow 204 = 7 := by decide +kernel
theorem rt_204 : mrt 204 = (some .int) := by decide +kernel
theorem o_205 : mow 205 = 7 := by decide +kernel
theorem rt_205 : mrt 205 = (some .int) := by decide +kernel
theorem o_206 : mow 206 = 7 := by decide +kernel
theorem rt_206 : mrt 206 = (some .int) := by decide +kernel
theorem o_207 : mow 207 = 7 := by decide +kernel
theorem rt_207 : mrt 207 = (some .int) := by decide +kernel
theorem o_208 : mow 208 = 7 := by decide +kernel
theorem rt_208 : mrt 208 = (some .int) := by decide +kernel
theorem o_209 : mow 209 = 7 := by decide +kernel
theorem rt_209 : mrt 209 = (some .int) := by decide +kernel
theorem o_210 : mow 210 = 7 := by decide +kernel
theorem rt_210 : mrt 210 = (some .boolean) := by decide +kernel
theorem o_211 : mow 211 = 7 := by decide +kernel
theorem rt_211 : mrt 211 = (some .long) := by decide +kernel
theorem k_0_3 : lk 0 3 = (8, 0, 0) := by decide +kernel
theorem k_0_9 : lk 0 9 = (1, 0, 0) := by decide +kernel
theorem k_0_15 : lk 0 15 = (1, 0, 1) := by decide +kernel
theorem k_0_18 : lk 0 18 = (1, 0, 2) := by decide +kernel
theorem k_0_21 : lk 0 21 = (1, 0, 3) := by decide +kernel
theorem k_0_25 : lk 0 25 = (5, 20, 1) := by decide +kernel
theorem k_0_29 : lk 0 29 = (5, 21, 3) := by decide +kernel
theorem k_0_33 : lk 0 33 = (5, 14, 2) := by decide +kernel
theorem k_0_39 : lk 0 39 = (5, 13, 2) := by decide +kernel
theorem k_1_1 : lk 1 1 = (8, 0, 0) := by decide +kernel
theorem k_1_7 : lk 1 7 = (1, 1, 0) := by decide +kernel
theorem k_1_13 : lk 1 13 = (13, 48271, 0) := by decide +kernel
theorem k_1_15 : lk 1 15 = (13, 2147483647, 0) := by decide +kernel
theorem k_2_3 : lk 2 3 = (8, 0, 0) := by decide +kernel
theorem k_2_9 : lk 2 9 = (1, 2, 0) := by decide +kernel
theorem k_2_15 : lk 2 15 = (1, 2, 1) := by decide +kernel
theorem k_2_18 : lk 2 18 = (1, 2, 5) := by decide +kernel
theorem k_2_21 : lk 2 21 = (1, 2, 2) := by decide +kernel
theorem k_2_24 : lk 2 24 = (1, 2, 3) := by decide +kernel
theorem k_2_27 : lk 2 27 = (1, 2, 4) := by decide +kernel
theorem k_2_30 : lk 2 30 = (1, 2, 6) := by decide +kernel
theorem k_2_33 : lk 2 33 = (5, 14, 2) := by decide +kernel
theorem k_2_39 : lk 2 39 = (3, 1, 0) := by decide +kernel
theorem k_2_43 : lk 2 43 = (5, 13, 2) := by decide +kernel
theorem k_3_3 : lk 3 3 = (8, 0, 0) := by decide +kernel
theorem k_3_9 : lk 3 9 = (1, 3, 0) := by decide +kernel
theorem k_3_15 : lk 3 15 = (1, 3, 1) := by decide +kernel
theorem k_3_19 : lk 3 19 = (1, 3, 6) := by decide +kernel
theorem k_3_23 : lk 3 23 = (4, 16, 0) := by decide +kernel
theorem k_3_28 : lk 3 28 = (1, 3, 2) := by decide +kernel
theorem k_3_31 : lk 3 31 = (4, 47, 0) := by decide +kernel
theorem k_3_34 : lk 3 34 = (4, 39, 1) := by decide +kernel
theorem k_3_38 : lk 3 38 = (1, 3, 3) := by decide +kernel
theorem k_3_41 : lk 3 41 = (1, 3, 4) := by decide +kernel
theorem k_3_44 : lk 3 44 = (4, 40, 2) := by decide +kernel
theorem k_3_48 : lk 3 48 = (4, 18, 1) := by decide +kernel
theorem k_3_52 : lk 3 52 = (4, 41, 2) := by decide +kernel
theorem k_3_55 : lk 3 55 = (4, 42, 1) := by decide +kernel
theorem k_3_58 : lk 3 58 = (4, 43, 0) := by decide +kernel
theorem k_3_62 : lk 3 62 = (4, 17, 1) := by decide +kernel
theorem k_3_65 : lk 3 65 = (4, 44, 1) := by decide +kernel
theorem k_3_68 : lk 3 68 = (4, 45, 1) := by decide +kernel
theorem k_3_71 : lk 3 71 = (1, 3, 5) := by decide +kernel
theorem k_3_74 : lk 3 74 = (4, 46, 1) := by decide +kernel
theorem k_3_77 : lk 3 77 = (5, 52, 1) := by decide +kernel
theorem k_3_80 : lk 3 80 = (5, 53, 1) := by decide +kernel
theorem k_3_83 : lk 3 83 = (4, 48, 0) := by decide +kernel
theorem k_3_86 : lk 3 86 = (5, 54, 1) := by decide +kernel
theorem k_3_89 : lk 3 89 = (4, 50, 0) := by decide +kernel
theorem k_3_92 : lk 3 92 = (4, 51, 0) := by decide +kernel
theorem k_3_95 : lk 3 95 = (14, 1004, 0) := by decide +kernel
theorem k_3_97 : lk 3 97 = (15, 1, 0) := by decide +kernel
theorem k_3_102 : lk 3 102 = (15, 2, 1) := by decide +kernel
theorem k_3_106 : lk 3 106 = (4, 49, 2) := by decide +kernel
theorem k_3_109 : lk 3 109 = (14, 1005, 0) := by decide +kernel
theorem k_3_111 : lk 3 111 = (15, 3, 1) := by decide +kernel
theorem k_4_3 : lk 4 3 = (8, 0, 0) := by decide +kernel
theorem k_4_9 : lk 4 9 = (11, 2, 0) := by decide +kernel
theorem k_4_11 : lk 4 11 = (1, 4, 0) := by decide +kernel
theorem k_4_17 : lk 4 17 = (1, 4, 2) := by decide +kernel
theorem k_4_21 : lk 4 21 = (1, 4, 3) := by decide +kernel
theorem k_4_24 : lk 4 24 = (1, 4, 4) := by decide +kernel
theorem k_4_27 : lk 4 27 = (1, 4, 7) := by decide +kernel
theorem k_4_33 : lk 4 33 = (1, 4, 10) := by decide +kernel
theorem k_4_36 : lk 4 36 = (7, 25, 0) := by decide +kernel
theorem k_4_37 : lk 4 37 = (1, 4, 1) := by decide +kernel
theorem k_4_40 : lk 4 40 = (1, 4, 5) := by decide +kernel
theorem k_4_43 : lk 4 43 = (4, 26, 3) := by decide +kernel
theorem k_4_47 : lk 4 47 = (4, 27, 1) := by decide +kernel
theorem k_4_51 : lk 4 51 = (9, 0, 0) := by decide +kernel
theorem k_4_57 : lk 4 57 = (1, 4, 6) := by decide +kernel
theorem k_4_60 : lk 4 60 = (1, 4, 8) := by decide +kernel
theorem k_4_63 : lk 4 63 = (4, 62, 0) := by decide +kernel
theorem k_4_66 : lk 4 66 = (1, 4, 9) := by decide +kernel
theorem k_4_69 : lk 4 69 = (1, 2, 7) := by decide +kernel
theorem k_4_72 : lk 4 72 = (1, 2, 8) := by decide +kernel
theorem k_4_75 : lk 4 75 = (4, 24, 1) := by decide +kernel
theorem k_4_81 : lk 4 81 = (5, 14, 2) := by decide +kernel
theorem k_4_87 : lk 4 87 = (4, 65, 1) := by decide +kernel
theorem k_4_91 : lk 4 91 = (4, 66, 2) := by decide +kernel
theorem k_4_95 : lk 4 95 = (1, 2, 2) := by decide +kernel
theorem k_4_98 : lk 4 98 = (4, 34, 1) := by decide +kernel
theorem k_4_102 : lk 4 102 = (4, 67, 2) := by decide +kernel
theorem k_4_105 : lk 4 105 = (4, 69, 4) := by decide +kernel
theorem k_4_109 : lk 4 109 = (4, 19, 2) := by decide +kernel
theorem k_4_113 : lk 4 113 = (4, 56, 1) := by decide +kernel
theorem k_4_116 : lk 4 116 = (1, 2, 6) := by decide +kernel
theorem k_4_119 : lk 4 119 = (1, 2, 1) := by decide +kernel
theorem k_4_122 : lk 4 122 = (1, 2, 3) := by decide +kernel
theorem k_4_125 : lk 4 125 = (4, 30, 1) := by decide +kernel
theorem k_4_128 : lk 4 128 = (4, 32, 1) := by decide +kernel
theorem k_4_131 : lk 4 131 = (4, 33, 0) := by decide +kernel
theorem k_4_135 : lk 4 135 = (4, 71, 0) := by decide +kernel
theorem k_4_139 : lk 4 139 = (4, 72, 0) := by decide +kernel
theorem k_4_142 : lk 4 142 = (4, 74, 0) := by decide +kernel
theorem k_4_145 : lk 4 145 = (4, 75, 0) := by decide +kernel
theorem k_4_148 : lk 4 148 = (5, 13, 2) := by decide +kernel
theorem k_4_151 : lk 4 151 = (1, 5, 2) := by decide +kernel
theorem k_4_65545 : lk 4 65545 = (10, 2, 9) := by decide +kernel
theorem k_5_3 : lk 5 3 = (8, 0, 0) := by decide +kernel
theorem k_5_9 : lk 5 9 = (1, 5, 0) := by decide +kernel
theorem k_5_15 : lk 5 15 = (1, 5, 2) := by decide +kernel
theorem k_5_19 : lk 5 19 = (1, 5, 1) := by decide +kernel
theorem k_6_1 : lk 6 1 = (8, 0, 0) := by decide +kernel
theorem k_6_9 : lk 6 9 = (6, 55, 0) := by decide +kernel
theorem k_6_10 : lk 6 10 = (1, 6, 0) := by decide +kernel
theorem k_6_16 : lk 6 16 = (1, 6, 1) := by decide +kernel
theorem k_6_19 : lk 6 19 = (1, 6, 2) := by decide +kernel
theorem k_6_24 : lk 6 24 = (7, 35, 0) := by decide +kernel
theorem k_6_25 : lk 6 25 = (1, 6, 4) := by decide +kernel
theorem k_6_29 : lk 6 29 = (11, 0, 0) := by decide +kernel
theorem k_6_31 : lk 6 31 = (1, 6, 5) := by decide +kernel
theorem k_6_35 : lk 6 35 = (11, 5, 0) := by decide +kernel
theorem k_6_37 : lk 6 37 = (1, 6, 7) := by decide +kernel
theorem k_6_43 : lk 6 43 = (7, 22, 0) := by decide +kernel
theorem k_6_44 : lk 6 44 = (1, 6, 8) := by decide +kernel
theorem k_6_48 : lk 6 48 = (7, 15, 0) := by decide +kernel
theorem k_6_49 : lk 6 49 = (7, 77, 0) := by decide +kernel
theorem k_6_50 : lk 6 50 = (14, 1003, 0) := by decide +kernel
theorem k_6_52 : lk 6 52 = (15, 1, 0) := by decide +kernel
theorem k_6_58 : lk 6 58 = (15, 2, 1) := by decide +kernel
theorem k_6_62 : lk 6 62 = (4, 36, 1) := by decide +kernel
theorem k_6_66 : lk 6 66 = (4, 38, 1) := by decide +kernel
theorem k_6_70 : lk 6 70 = (4, 37, 0) := by decide +kernel
theorem k_6_73 : lk 6 73 = (1, 6, 6) := by decide +kernel
theorem k_6_77 : lk 6 77 = (1, 4, 1) := by decide +kernel
theorem k_6_80 : lk 6 80 = (1, 4, 5) := by decide +kernel
theorem k_6_83 : lk 6 83 = (1, 4, 6) := by decide +kernel
theorem k_6_86 : lk 6 86 = (1, 4, 7) := by decide +kernel
theorem k_6_89 : lk 6 89 = (1, 4, 8) := by decide +kernel
theorem k_6_92 : lk 6 92 = (1, 3, 1) := by decide +kernel
theorem k_6_95 : lk 6 95 = (5, 126, 2) := by decide +kernel
theorem k_6_99 : lk 6 99 = (5, 127, 1) := by decide +kernel
theorem k_6_103 : lk 6 103 = (4, 56, 1) := by decide +kernel
theorem k_6_106 : lk 6 106 = (4, 68, 4) := by decide +kernel
theorem k_6_110 : lk 6 110 = (5, 128, 1) := by decide +kernel
theorem k_6_113 : lk 6 113 = (4, 58, 3) := by decide +kernel
theorem k_6_117 : lk 6 117 = (3, 0, 0) := by decide +kernel
theorem k_6_121 : lk 6 121 = (1, 4, 0) := by decide +kernel
theorem k_6_125 : lk 6 125 = (4, 28, 1) := by decide +kernel
theorem k_6_131 : lk 6 131 = (4, 29, 2) := by decide +kernel
theorem k_6_135 : lk 6 135 = (1, 4, 2) := by decide +kernel
theorem k_6_138 : lk 6 138 = (5, 129, 1) := by decide +kernel
theorem k_6_141 : lk 6 141 = (4, 59, 2) := by decide +kernel
theorem k_6_145 : lk 6 145 = (4, 57, 1) := by decide +kernel
theorem k_6_148 : lk 6 148 = (4, 95, 1) := by decide +kernel
theorem k_6_151 : lk 6 151 = (1, 4, 3) := by decide +kernel
theorem k_6_154 : lk 6 154 = (1, 4, 4) := by decide +kernel
theorem k_6_157 : lk 6 157 = (4, 62, 0) := by decide +kernel
theorem k_6_160 : lk 6 160 = (4, 64, 1) := by decide +kernel
theorem k_6_164 : lk 6 164 = (4, 71, 0) := by decide +kernel
theorem k_6_167 : lk 6 167 = (5, 130, 1) := by decide +kernel
theorem k_6_170 : lk 6 170 = (5, 131, 1) := by decide +kernel
theorem k_6_173 : lk 6 173 = (5, 98, 1) := by decide +kernel
theorem k_6_176 : lk 6 176 = (4, 122, 0) := by decide +kernel
theorem k_6_179 : lk 6 179 = (4, 123, 1) := by decide +kernel
theorem k_6_182 : lk 6 182 = (4, 70, 1) := by decide +kernel
theorem k_6_185 : lk 6 185 = (1, 2, 7) := by decide +kernel
theorem k_6_188 : lk 6 188 = (1, 2, 8) := by decide +kernel
theorem k_6_191 : lk 6 191 = (1, 2, 2) := by decide +kernel
theorem k_6_194 : lk 6 194 = (5, 132, 1) := by decide +kernel
theorem k_6_197 : lk 6 197 = (12, 2147483647, 0) := by decide +kernel
theorem k_6_198 : lk 6 198 = (4, 124, 4) := by decide +kernel
theorem k_6_202 : lk 6 202 = (4, 60, 1) := by decide +kernel
theorem k_6_205 : lk 6 205 = (4, 72, 0) := by decide +kernel
theorem k_6_208 : lk 6 208 = (4, 73, 0) := by decide +kernel
theorem k_6_211 : lk 6 211 = (12, 4293967291, 0) := by decide +kernel
theorem k_6_212 : lk 6 212 = (12, 4293967289, 0) := by decide +kernel
theorem k_6_213 : lk 6 213 = (4, 105, 3) := by decide +kernel
theorem k_6_216 : lk 6 216 = (1, 2, 0) := by decide +kernel
theorem k_6_219 : lk 6 219 = (1, 2, 1) := by decide +kernel
theorem k_6_222 : lk 6 222 = (4, 111, 1) := by decide +kernel
theorem k_6_225 : lk 6 225 = (4, 76, 1) := by decide +kernel
theorem k_6_229 : lk 6 229 = (5, 133, 1) := by decide +kernel
theorem k_6_232 : lk 6 232 = (4, 79, 2) := by decide +kernel
theorem k_6_235 : lk 6 235 = (4, 82, 2) := by decide +kernel
theorem k_6_238 : lk 6 238 = (4, 78, 0) := by decide +kernel
theorem k_6_242 : lk 6 242 = (1, 5, 1) := by decide +kernel
theorem k_6_243 : lk 6 243 = (12, 99999, 0) := by decide +kernel
theorem k_6_244 : lk 6 244 = (4, 125, 3) := by decide +kernel
theorem k_6_248 : lk 6 248 = (13, 13835058055282163712, 0) := by decide +kernel
theorem k_6_250 : lk 6 250 = (5, 114, 2) := by decide +kernel
theorem k_6_253 : lk 6 253 = (4, 61, 1) := by decide +kernel
theorem k_6_257 : lk 6 257 = (1, 6, 3) := by decide +kernel
theorem k_6_261 : lk 6 261 = (4, 80, 1) := by decide +kernel
theorem k_6_264 : lk 6 264 = (1, 5, 0) := by decide +kernel
theorem k_6_267 : lk 6 267 = (4, 81, 2) := by decide +kernel
theorem k_6_270 : lk 6 270 = (1, 5, 2) := by decide +kernel
theorem k_6_273 : lk 6 273 = (9, 0, 0) := by decide +kernel
theorem k_6_279 : lk 6 279 = (4, 90, 2) := by decide +kernel
theorem k_6_282 : lk 6 282 = (13, 18446744073709551614, 0) := by decide +kernel
theorem k_6_284 : lk 6 284 = (13, 18446744073709551604, 0) := by decide +kernel
theorem k_6_286 : lk 6 286 = (13, 18446744073709551603, 0) := by decide +kernel
theorem k_6_288 : lk 6 288 = (13, 18446744073709551605, 0) := by decide +kernel
theorem k_6_290 : lk 6 290 = (4, 31, 1) := by decide +kernel
theorem k_6_293 : lk 6 293 = (4, 23, 1) := by decide +kernel
theorem k_6_295 : lk 6 295 = (4, 63, 2) := by decide +kernel
theorem k_6_65543 : lk 6 65543 = (10, 4, 11) := by decide +kernel
theorem k_6_65558 : lk 6 65558 = (10, 3, 7) := by decide +kernel
theorem k_6_65565 : lk 6 65565 = (10, 0, 4) := by decide +kernel
theorem k_6_65571 : lk 6 65571 = (10, 5, 3) := by decide +kernel
theorem k_6_65577 : lk 6 65577 = (10, 1, 1) := by decide +kernel
theorem k_7_1 : lk 7 1 = (8, 0, 0) := by decide +kernel
theorem k_7_7 : lk 7 7 = (1, 7, 1) := by decide +kernel
theorem k_7_13 : lk 7 13 = (1, 7, 2) := by decide +kernel
theorem k_7_16 : lk 7 16 = (1, 7, 3) := by decide +kernel
theorem k_7_19 : lk 7 19 = (1, 7, 4) := by decide +kernel
theorem k_7_22 : lk 7 22 = (1, 7, 6) := by decide +kernel
theorem k_7_25 : lk 7 25 = (1, 7, 7) := by decide +kernel
theorem k_7_28 : lk 7 28 = (1, 7, 9) := by decide +kernel
theorem k_7_32 : lk 7 32 = (1, 7, 10) := by decide +kernel
theorem k_7_35 : lk 7 35 = (1, 7, 12) := by decide +kernel
theorem k_7_38 : lk 7 38 = (1, 7, 13) := by decide +kernel
theorem k_7_41 : lk 7 41 = (1, 7, 17) := by decide +kernel
theorem k_7_44 : lk 7 44 = (1, 7, 18) := by decide +kernel
theorem k_7_47 : lk 7 47 = (1, 7, 19) := by decide +kernel
theorem k_7_50 : lk 7 50 = (1, 7, 20) := by decide +kernel
theorem k_7_53 : lk 7 53 = (1, 7, 21) := by decide +kernel
theorem k_7_56 : lk 7 56 = (1, 7, 22) := by decide +kernel
theorem k_7_59 : lk 7 59 = (1, 7, 27) := by decide +kernel
theorem k_7_62 : lk 7 62 = (1, 7, 28) := by decide +kernel
theorem k_7_65 : lk 7 65 = (1, 7, 32) := by decide +kernel
theorem k_7_68 : lk 7 68 = (1, 7, 33) := by decide +kernel
theorem k_7_71 : lk 7 71 = (1, 7, 35) := by decide +kernel
theorem k_7_74 : lk 7 74 = (1, 7, 36) := by decide +kernel
theorem k_7_77 : lk 7 77 = (1, 7, 37) := by decide +kernel
theorem k_7_80 : lk 7 80 = (1, 7, 39) := by decide +kernel
theorem k_7_83 : lk 7 83 = (1, 7, 41) := by decide +kernel
theorem k_7_86 : lk 7 86 = (1, 7, 11) := by decide +kernel
theorem k_7_89 : lk 7 89 = (4, 154, 0) := by decide +kernel
theorem k_7_93 : lk 7 93 = (1, 7, 0) := by decide +kernel
theorem k_7_96 : lk 7 96 = (5, 135, 3) := by decide +kernel
theorem k_7_100 : lk 7 100 = (1, 7, 5) := by decide +kernel
theorem k_7_103 : lk 7 103 = (1, 7, 8) := by decide +kernel
theorem k_7_106 : lk 7 106 = (1, 7, 14) := by decide +kernel
theorem k_7_109 : lk 7 109 = (1, 7, 15) := by decide +kernel
theorem k_7_112 : lk 7 112 = (5, 142, 1) := by decide +kernel
theorem k_7_116 : lk 7 116 = (1, 7, 23) := by decide +kernel
theorem k_7_119 : lk 7 119 = (1, 7, 24) := by decide +kernel
theorem k_7_122 : lk 7 122 = (1, 7, 25) := by decide +kernel
theorem k_7_125 : lk 7 125 = (1, 7, 26) := by decide +kernel
theorem k_7_128 : lk 7 128 = (4, 144, 2) := by decide +kernel
theorem k_7_132 : lk 7 132 = (1, 7, 31) := by decide +kernel
theorem k_7_135 : lk 7 135 = (1, 7, 29) := by decide +kernel
theorem k_7_138 : lk 7 138 = (5, 146, 1) := by decide +kernel
theorem k_7_142 : lk 7 142 = (1, 7, 30) := by decide +kernel
theorem k_7_145 : lk 7 145 = (4, 147, 1) := by decide +kernel
theorem k_7_149 : lk 7 149 = (4, 149, 1) := by decide +kernel
theorem k_7_152 : lk 7 152 = (4, 148, 1) := by decide +kernel
theorem k_7_155 : lk 7 155 = (4, 145, 0) := by decide +kernel
theorem k_7_158 : lk 7 158 = (12, 100000, 0) := by decide +kernel
theorem k_7_159 : lk 7 159 = (4, 150, 1) := by decide +kernel
theorem k_7_162 : lk 7 162 = (4, 152, 0) := by decide +kernel
theorem k_7_165 : lk 7 165 = (4, 151, 1) := by decide +kernel
theorem k_7_168 : lk 7 168 = (4, 153, 0) := by decide +kernel
theorem k_7_172 : lk 7 172 = (5, 155, 3) := by decide +kernel
theorem k_7_176 : lk 7 176 = (5, 136, 3) := by decide +kernel
theorem k_7_179 : lk 7 179 = (4, 156, 1) := by decide +kernel
theorem k_7_182 : lk 7 182 = (4, 137, 1) := by decide +kernel
theorem k_7_185 : lk 7 185 = (4, 158, 3) := by decide +kernel
theorem k_7_188 : lk 7 188 = (5, 161, 1) := by decide +kernel
theorem k_7_191 : lk 7 191 = (4, 138, 1) := by decide +kernel
theorem k_7_194 : lk 7 194 = (4, 166, 1) := by decide +kernel
theorem k_7_197 : lk 7 197 = (5, 170, 1) := by decide +kernel
theorem k_7_199 : lk 7 199 = (1, 7, 34) := by decide +kernel
theorem k_7_202 : lk 7 202 = (4, 167, 1) := by decide +kernel
theorem k_7_205 : lk 7 205 = (4, 168, 1) := by decide +kernel
theorem k_7_208 : lk 7 208 = (4, 171, 1) := by decide +kernel
theorem k_7_211 : lk 7 211 = (4, 169, 1) := by decide +kernel
theorem k_7_214 : lk 7 214 = (4, 172, 1) := by decide +kernel
theorem k_7_217 : lk 7 217 = (4, 174, 0) := by decide +kernel
theorem k_7_220 : lk 7 220 = (4, 173, 0) := by decide +kernel
theorem k_7_223 : lk 7 223 = (4, 175, 0) := by decide +kernel
theorem k_7_226 : lk 7 226 = (1, 7, 38) := by decide +kernel
theorem k_7_229 : lk 7 229 = (1, 7, 40) := by decide +kernel
theorem k_7_232 : lk 7 232 = (4, 179, 0) := by decide +kernel
theorem k_7_235 : lk 7 235 = (4, 180, 0) := by decide +kernel
theorem k_7_238 : lk 7 238 = (4, 176, 0) := by decide +kernel
theorem k_7_241 : lk 7 241 = (4, 182, 0) := by decide +kernel
theorem k_7_244 : lk 7 244 = (5, 139, 1) := by decide +kernel
theorem k_7_247 : lk 7 247 = (4, 181, 1) := by decide +kernel
theorem k_7_250 : lk 7 250 = (4, 183, 1) := by decide +kernel
theorem k_7_253 : lk 7 253 = (5, 185, 1) := by decide +kernel
theorem k_7_256 : lk 7 256 = (4, 177, 0) := by decide +kernel
theorem k_7_259 : lk 7 259 = (12, 4293967291, 0) := by decide +kernel
theorem k_7_260 : lk 7 260 = (12, 4293967289, 0) := by decide +kernel
theorem k_7_261 : lk 7 261 = (4, 192, 1) := by decide +kernel
theorem k_7_264 : lk 7 264 = (4, 193, 2) := by decide +kernel
theorem k_7_267 : lk 7 267 = (4, 194, 2) := by decide +kernel
theorem k_7_270 : lk 7 270 = (13, 48271, 0) := by decide +kernel
theorem k_7_272 : lk 7 272 = (13, 2147483647, 0) := by decide +kernel
theorem k_7_274 : lk 7 274 = (12, 99999, 0) := by decide +kernel
theorem k_7_275 : lk 7 275 = (4, 200, 3) := by decide +kernel
theorem k_7_279 : lk 7 279 = (13, 13835058055282163712, 0) := by decide +kernel
theorem k_7_281 : lk 7 281 = (5, 202, 3) := by decide +kernel
theorem k_7_285 : lk 7 285 = (1, 7, 16) := by decide +kernel
theorem k_7_289 : lk 7 289 = (4, 160, 2) := by decide +kernel
theorem k_7_292 : lk 7 292 = (13, 18446744073709551614, 0) := by decide +kernel
theorem k_7_294 : lk 7 294 = (13, 18446744073709551604, 0) := by decide +kernel
theorem k_7_296 : lk 7 296 = (13, 18446744073709551603, 0) := by decide +kernel
theorem k_7_298 : lk 7 298 = (13, 18446744073709551605, 0) := by decide +kernel
theorem k_7_300 : lk 7 300 = (5, 210, 2) := by decide +kernel
theorem k_8_9 : lk 8 9 = (16, 0, 0) := by decide +kernel
theorem k_8_15 : lk 8 15 = (16, 1, 0) := by decide +kernel
theorem k_8_38 : lk 8 38 = (3, 2, 0) := by decide +kernel
theorem k_8_335 : lk 8 335 = (15, 5, 0) := by decide +kernel
theorem k_8_492 : lk 8 492 = (15, 6, 0) := by decide +kernel
theorem k_8_495 : lk 8 495 = (5, 8, 2) := by decide +kernel
theorem k_8_505 : lk 8 505 = (15, 1, 0) := by decide +kernel
theorem k_8_633 : lk 8 633 = (15, 4, 2) := by decide +kernel
theorem k_8_637 : lk 8 637 = (5, 10, 4) := by decide +kernel
theorem k_8_1053 : lk 8 1053 = (3, 3, 0) := by decide +kernel
theorem k_8_1059 : lk 8 1059 = (5, 12, 3) := by decide +kernel
theorem k_9_9 : lk 9 9 = (6, 83, 0) := by decide +kernel
theorem k_9_12 : lk 9 12 = (6, 134, 0) := by decide +kernel
theorem k_9_13 : lk 9 13 = (4, 84, 1) := by decide +kernel
theorem k_9_17 : lk 9 17 = (4, 140, 1) := by decide +kernel
theorem k_9_18 : lk 9 18 = (4, 85, 2) := by decide +kernel
theorem k_9_22 : lk 9 22 = (4, 141, 2) := by decide +kernel
theorem k_9_23 : lk 9 23 = (4, 86, 6) := by decide +kernel
theorem k_9_27 : lk 9 27 = (4, 143, 6) := by decide +kernel
theorem k_9_28 : lk 9 28 = (4, 87, 0) := by decide +kernel
theorem k_9_32 : lk 9 32 = (4, 154, 0) := by decide +kernel
theorem k_9_33 : lk 9 33 = (4, 88, 1) := by decide +kernel
theorem k_9_36 : lk 9 36 = (4, 157, 1) := by decide +kernel
theorem k_9_37 : lk 9 37 = (4, 89, 3) := by decide +kernel
theorem k_9_41 : lk 9 41 = (4, 159, 3) := by decide +kernel
theorem k_9_42 : lk 9 42 = (4, 90, 2) := by decide +kernel
theorem k_9_45 : lk 9 45 = (4, 160, 2) := by decide +kernel
theorem k_9_46 : lk 9 46 = (4, 91, 3) := by decide +kernel
theorem k_9_49 : lk 9 49 = (4, 162, 3) := by decide +kernel
theorem k_9_50 : lk 9 50 = (4, 92, 2) := by decide +kernel
theorem k_9_53 : lk 9 53 = (4, 163, 2) := by decide +kernel
theorem k_9_54 : lk 9 54 = (4, 93, 2) := by decide +kernel
theorem k_9_57 : lk 9 57 = (4, 164, 2) := by decide +kernel
theorem k_9_58 : lk 9 58 = (4, 94, 3) := by decide +kernel
theorem k_9_61 : lk 9 61 = (4, 165, 3) := by decide +kernel
theorem k_9_62 : lk 9 62 = (4, 95, 1) := by decide +kernel
theorem k_9_65 : lk 9 65 = (4, 166, 1) := by decide +kernel
theorem k_9_66 : lk 9 66 = (4, 96, 0) := by decide +kernel
theorem k_9_69 : lk 9 69 = (4, 178, 0) := by decide +kernel
theorem k_9_70 : lk 9 70 = (4, 97, 2) := by decide +kernel
theorem k_9_73 : lk 9 73 = (4, 184, 2) := by decide +kernel
theorem k_9_74 : lk 9 74 = (4, 99, 3) := by decide +kernel
theorem k_9_77 : lk 9 77 = (4, 186, 3) := by decide +kernel
theorem k_9_78 : lk 9 78 = (4, 100, 3) := by decide +kernel
theorem k_9_81 : lk 9 81 = (4, 187, 3) := by decide +kernel
theorem k_9_82 : lk 9 82 = (4, 101, 2) := by decide +kernel
theorem k_9_85 : lk 9 85 = (4, 188, 2) := by decide +kernel
theorem k_9_86 : lk 9 86 = (4, 102, 2) := by decide +kernel
theorem k_9_89 : lk 9 89 = (4, 189, 2) := by decide +kernel
theorem k_9_90 : lk 9 90 = (4, 103, 3) := by decide +kernel
theorem k_9_93 : lk 9 93 = (4, 190, 3) := by decide +kernel
theorem k_9_94 : lk 9 94 = (4, 104, 3) := by decide +kernel
theorem k_9_97 : lk 9 97 = (4, 191, 3) := by decide +kernel
theorem k_9_98 : lk 9 98 = (4, 106, 2) := by decide +kernel
theorem k_9_101 : lk 9 101 = (4, 195, 2) := by decide +kernel
theorem k_9_102 : lk 9 102 = (4, 107, 4) := by decide +kernel
theorem k_9_106 : lk 9 106 = (4, 196, 4) := by decide +kernel
theorem k_9_107 : lk 9 107 = (4, 108, 2) := by decide +kernel
theorem k_9_110 : lk 9 110 = (4, 197, 2) := by decide +kernel
theorem k_9_111 : lk 9 111 = (4, 109, 2) := by decide +kernel
theorem k_9_114 : lk 9 114 = (4, 198, 2) := by decide +kernel
theorem k_9_115 : lk 9 115 = (4, 110, 2) := by decide +kernel
theorem k_9_118 : lk 9 118 = (4, 199, 2) := by decide +kernel
theorem k_9_119 : lk 9 119 = (4, 112, 3) := by decide +kernel
theorem k_9_122 : lk 9 122 = (4, 201, 3) := by decide +kernel
theorem k_9_123 : lk 9 123 = (4, 113, 5) := by decide +kernel
theorem k_9_127 : lk 9 127 = (4, 203, 5) := by decide +kernel
theorem k_9_128 : lk 9 128 = (4, 115, 0) := by decide +kernel
theorem k_9_131 : lk 9 131 = (4, 204, 0) := by decide +kernel
theorem k_9_132 : lk 9 132 = (4, 116, 0) := by decide +kernel
theorem k_9_135 : lk 9 135 = (4, 205, 0) := by decide +kernel
theorem k_9_136 : lk 9 136 = (4, 117, 3) := by decide +kernel
theorem k_9_139 : lk 9 139 = (4, 206, 3) := by decide +kernel
theorem k_9_140 : lk 9 140 = (4, 118, 3) := by decide +kernel
theorem k_9_143 : lk 9 143 = (4, 207, 3) := by decide +kernel
theorem k_9_144 : lk 9 144 = (4, 119, 5) := by decide +kernel
theorem k_9_148 : lk 9 148 = (4, 208, 5) := by decide +kernel
theorem k_9_149 : lk 9 149 = (4, 120, 4) := by decide +kernel
theorem k_9_152 : lk 9 152 = (4, 209, 4) := by decide +kernel
theorem k_9_153 : lk 9 153 = (4, 121, 2) := by decide +kernel
theorem k_9_157 : lk 9 157 = (4, 211, 2) := by decide +kernel
theorem k_9_65543 : lk 9 65543 = (10, 6, 9) := by decide +kernel
theorem k_9_65546 : lk 9 65546 = (10, 7, 42) := by decide +kernel
theorem k_10_9 : lk 10 9 = (5, 7, 2) := by decide +kernel
theorem k_10_38 : lk 10 38 = (5, 14, 2) := by decide +kernel
theorem k_10_88 : lk 10 88 = (5, 9, 1) := by decide +kernel
theorem k_10_92 : lk 10 92 = (5, 13, 2) := by decide +kernel
theorem k_10_95 : lk 10 95 = (5, 11, 4) := by decide +kernel

def bI (b : Bool) : Int32 := if b = true then 1 else 0
theorem bI_1 {p : Prop} [Decidable p] (h : p) : (1 : Int32) = bI (decide p) := by unfold bI; rw [if_pos (decide_eq_true h)]
theorem bI_0 {p : Prop} [Decidable p] (h : ¬ p) : (0 : Int32) = bI (decide p) := by unfold bI; rw [if_neg (by simpa using h)]
theorem bI_ne {p : Prop} [Decidable p] : bI (decide p) = 0 ↔ ¬ p := by
  unfold bI
  by_cases h : p <;> simp [h]
theorem bI_t {p : Prop} [Decidable p] (h : ¬ bI (decide p) = 0) : p := Classical.not_not.mp (fun q => h (bI_ne.mpr q))
theorem bI_f {p : Prop} [Decidable p] (h : bI (decide p) = 0) : ¬ p := bI_ne.mp h
theorem bI_nz {p : Prop} [Decidable p] : narrow .boolean (.int (bI (decide p))) = .int (bI (decide p)) := by
  unfold bI
  by_cases h : p <;> simp [h] <;> rfl
theorem mrecv_of {z b a : Nat} {M : mM} {fs : List Value} (h : M.2 b = .inr (.inr (a, fs))) (ha : a = mow z) : mrecv z b M = true := by
  unfold mrecv
  rw [h]
  simp [ha]
theorem owa_v {r i : Nat} (h : i < 12) : mref (owa r (nI i).toNatClampNeg) = .ref (rb r + 6 + i) := by
  rw [nI_clamp (by omega)]
  unfold owa
  rw [if_pos h]
  rfl
theorem txa_v {i : Nat} (h : i < 6) : mref (txa (nI i).toNatClampNeg) = .ref (lb i) := by
  rw [nI_clamp (by omega)]
  unfold txa
  rw [if_pos h]
  rfl
theorem sha_v {i : Nat} (h : i < 4) : mref (sha (nI i).toNatClampNeg) = .ref (sb i) := by
  rw [nI_clamp (by omega)]
  unfold sha
  rw [if_pos h]
  rfl
theorem rb_ne {r : Nat} (h : r < 3) : rb r ≠ 1009 := by unfold rb; omega
theorem ow_ne {r j : Nat} (h : r < 3) (h2 : j < 12) : rb r + 6 + j ≠ 1009 := by unfold rb; omega
theorem lb_ne {t : Nat} (h : t < 6) : lb t ≠ 1009 := by unfold lb; omega
theorem sb_ne {s : Nat} (h : s < 4) : sb s ≠ 1009 := by unfold sb; omega

section HPU
variable {g : mG} {N : Nat} {A T K : Nat → tR} {B : tR} {E : Nat → Int32} {l : Int64} {G : tR} {P Qm : Nat → mC} {Y : tR} {S : Nat → Int32} {r t s k : Nat} {j x : Int32}
theorem ms_liesU (hr : r < 3) (hk : j.toNatClampNeg = k) : mset (N, H3 g (cc A T K B E l G) Qm) (rb r + 2) (.inl (0, 6, upd (A r 9) j.toNatClampNeg x)) = (N, H3 g (cc (u3 A r 9 k x) T K B E l G) Qm) := by subst hk; exact ms_lies hr
theorem ms_phoU (hr : r < 3) (hk : j.toNatClampNeg = k) : mset (N, H3 g (cc A T K B E l G) Qm) (rb r + 3) (.inl (0, 6, upd (A r 10) j.toNatClampNeg x)) = (N, H3 g (cc (u3 A r 10 k x) T K B E l G) Qm) := by subst hk; exact ms_pho hr
theorem ms_psiU (hr : r < 3) (hk : j.toNatClampNeg = k) : mset (N, H3 g (cc A T K B E l G) Qm) (rb r + 4) (.inl (0, 6, upd (A r 11) j.toNatClampNeg x)) = (N, H3 g (cc (u3 A r 11 k x) T K B E l G) Qm) := by subst hk; exact ms_psi hr
theorem ms_factsU (hr : r < 3) (hk : j.toNatClampNeg = k) : mset (N, H3 g (cc A T K B E l G) Qm) (rb r + 5) (.inl (0, 6, upd (G r) j.toNatClampNeg x)) = (N, H3 g (cc A T K B E l (u2 G r k x)) Qm) := by subst hk; exact ms_facts hr
theorem ms_stepsU (ht : t < 6) (hk : j.toNatClampNeg = k) : mset (N, H3 g (cc A T K B E l G) Qm) (lb t + 1) (.inl (0, 160, upd (T t 0) j.toNatClampNeg x)) = (N, H3 g (cc A (u3 T t 0 k x) K B E l G) Qm) := by subst hk; exact ms_steps ht
theorem ms_startsU (ht : t < 6) (hk : j.toNatClampNeg = k) : mset (N, H3 g (cc A T K B E l G) Qm) (lb t + 2) (.inl (0, 4, upd (T t 1) j.toNatClampNeg x)) = (N, H3 g (cc A (u3 T t 1 k x) K B E l G) Qm) := by subst hk; exact ms_starts ht
theorem ms_stackU (ht : t < 6) (hk : j.toNatClampNeg = k) : mset (N, H3 g (cc A T K B E l G) Qm) (lb t + 3) (.inl (0, 160, upd (G (3 + t)) j.toNatClampNeg x)) = (N, H3 g (cc A T K B E l (u2 G (3 + t) k x)) Qm) := by subst hk; exact ms_stack ht
theorem ms_rowU (hs : s < 4) (hk : j.toNatClampNeg = k) : mset (N, H3 g (cc A T K B E l G) Qm) (sb s + 1) (.inl (0, 40, upd (K s 0) j.toNatClampNeg x)) = (N, H3 g (cc A T (u3 K s 0 k x) B E l G) Qm) := by subst hk; exact ms_row hs
theorem ms_tapeU (hk : j.toNatClampNeg = k) : mset (N, H3 g (cc A T K B E l G) Qm) 56 (.inl (0, 160, upd (B 0) j.toNatClampNeg x)) = (N, H3 g (cc A T K (u2 B 0 k x) E l G) Qm) := by subst hk; exact ms_tape
theorem mm_setU {q a : Nat} (hq : q = 93 + a) (ha : a < 24) (hk : j.toNatClampNeg = k) : mset (N, H3 g P (mm Y S)) q (.inl (0, mln a, upd (Y a) j.toNatClampNeg x)) = (N, H3 g P (mm (u2 Y a k x) S)) := by subst hk; exact mm_set hq ha
end HPU