theorem lkf_6_10 : lk2 fLk 6 10 = some (6, 0) := by decide +kernel
theorem lkf_6_19 : lk2 fLk 6 19 = some (6, 1) := by decide +kernel
theorem lkf_6_23 : lk2 fLk 6 23 = some (6, 2) := by decide +kernel
theorem lkf_6_26 : lk2 fLk 6 26 = some (6, 3) := by decide +kernel
theorem lkf_6_32 : lk2 fLk 6 32 = some (6, 5) := by decide +kernel
theorem lkf_6_38 : lk2 fLk 6 38 = some (6, 6) := by decide +kernel
theorem lkf_6_43 : lk2 fLk 6 43 = some (6, 7) := by decide +kernel
theorem lkf_6_49 : lk2 fLk 6 49 = some (6, 8) := by decide +kernel
theorem lkf_6_53 : lk2 fLk 6 53 = some (6, 9) := by decide +kernel
theorem lkf_6_59 : lk2 fLk 6 59 = some (6, 10) := by decide +kernel
theorem lkf_6_63 : lk2 fLk 6 63 = some (6, 11) := by decide +kernel
theorem lkf_6_66 : lk2 fLk 6 66 = some (6, 12) := by decide +kernel
theorem lkf_3_9 : lk2 fLk 3 9 = some (3, 4) := by decide +kernel
theorem lkf_3_15 : lk2 fLk 3 15 = some (3, 6) := by decide +kernel
theorem lkf_3_18 : lk2 fLk 3 18 = some (3, 7) := by decide +kernel
theorem lkf_3_22 : lk2 fLk 3 22 = some (3, 8) := by decide +kernel
theorem lkf_3_25 : lk2 fLk 3 25 = some (3, 9) := by decide +kernel
theorem lkf_3_28 : lk2 fLk 3 28 = some (3, 10) := by decide +kernel
theorem lkf_3_31 : lk2 fLk 3 31 = some (3, 11) := by decide +kernel
theorem lkf_3_34 : lk2 fLk 3 34 = some (3, 12) := by decide +kernel
theorem lkf_1_11 : lk2 fLk 1 11 = some (1, 0) := by decide +kernel
theorem lkf_5_9 : lk2 fLk 5 9 = some (5, 0) := by decide +kernel
theorem lkf_2_11 : lk2 fLk 2 11 = some (2, 0) := by decide +kernel
theorem lkf_2_15 : lk2 fLk 2 15 = some (2, 2) := by decide +kernel
theorem lkf_0_9 : lk2 fLk 0 9 = some (0, 0) := by decide +kernel
theorem lkf_7_7 : lk2 fLk 7 7 = some (7, 0) := by decide +kernel
theorem lkf_7_13 : lk2 fLk 7 13 = some (7, 2) := by decide +kernel
theorem lkf_7_16 : lk2 fLk 7 16 = some (7, 4) := by decide +kernel
theorem lkf_7_19 : lk2 fLk 7 19 = some (7, 5) := by decide +kernel
theorem lkf_7_22 : lk2 fLk 7 22 = some (7, 6) := by decide +kernel
theorem lkf_7_26 : lk2 fLk 7 26 = some (7, 7) := by decide +kernel
theorem lkf_7_29 : lk2 fLk 7 29 = some (7, 8) := by decide +kernel
theorem lkf_7_33 : lk2 fLk 7 33 = some (7, 15) := by decide +kernel
theorem lkf_7_36 : lk2 fLk 7 36 = some (7, 16) := by decide +kernel
theorem lkf_7_39 : lk2 fLk 7 39 = some (7, 17) := by decide +kernel
theorem lkf_7_42 : lk2 fLk 7 42 = some (7, 18) := by decide +kernel
theorem lkf_7_45 : lk2 fLk 7 45 = some (7, 21) := by decide +kernel
theorem lkf_7_48 : lk2 fLk 7 48 = some (7, 22) := by decide +kernel
theorem lkf_6_74 : lk2 fLk 6 74 = some (3, 0) := by decide +kernel
theorem lkf_1_26 : lk2 fLk 1 26 = some (1, 2) := by decide +kernel
theorem lkf_3_37 : lk2 fLk 3 37 = some (3, 0) := by decide +kernel
theorem lkf_3_40 : lk2 fLk 3 40 = some (3, 1) := by decide +kernel
theorem lkf_3_43 : lk2 fLk 3 43 = some (3, 2) := by decide +kernel
theorem lkf_3_46 : lk2 fLk 3 46 = some (3, 3) := by decide +kernel
theorem lkf_6_85 : lk2 fLk 6 85 = some (3, 1) := by decide +kernel
theorem lkf_6_99 : lk2 fLk 6 99 = some (3, 7) := by decide +kernel
theorem lkf_6_102 : lk2 fLk 6 102 = some (3, 8) := by decide +kernel
theorem lkf_3_49 : lk2 fLk 3 49 = some (3, 5) := by decide +kernel
theorem lkf_6_114 : lk2 fLk 6 114 = some (3, 9) := by decide +kernel
theorem lkf_6_117 : lk2 fLk 6 117 = some (3, 10) := by decide +kernel
theorem lkf_6_120 : lk2 fLk 6 120 = some (3, 11) := by decide +kernel
theorem lkf_5_15 : lk2 fLk 5 15 = some (5, 1) := by decide +kernel
theorem lkf_7_101 : lk2 fLk 7 101 = some (7, 3) := by decide +kernel
theorem lkf_6_147 : lk2 fLk 6 147 = some (5, 2) := by decide +kernel
theorem lkf_5_19 : lk2 fLk 5 19 = some (5, 2) := by decide +kernel
theorem lkf_5_53 : lk2 fLk 5 53 = some (3, 10) := by decide +kernel
theorem lkf_5_70 : lk2 fLk 5 70 = some (3, 4) := by decide +kernel
theorem lkf_7_110 : lk2 fLk 7 110 = some (7, 11) := by decide +kernel
theorem lkf_7_133 : lk2 fLk 7 133 = some (7, 14) := by decide +kernel
theorem lkf_7_121 : lk2 fLk 7 121 = some (7, 12) := by decide +kernel
theorem lkf_7_130 : lk2 fLk 7 130 = some (7, 13) := by decide +kernel
theorem lkf_7_104 : lk2 fLk 7 104 = some (7, 10) := by decide +kernel
theorem lkf_6_153 : lk2 fLk 6 153 = some (3, 2) := by decide +kernel
theorem lkf_6_156 : lk2 fLk 6 156 = some (3, 5) := by decide +kernel
theorem lkf_6_159 : lk2 fLk 6 159 = some (3, 3) := by decide +kernel
theorem lkf_6_162 : lk2 fLk 6 162 = some (3, 4) := by decide +kernel
theorem lkf_6_172 : lk2 fLk 6 172 = some (1, 2) := by decide +kernel
theorem lkf_6_188 : lk2 fLk 6 188 = some (4, 1) := by decide +kernel
theorem lkf_4_9 : lk2 fLk 4 9 = some (4, 0) := by decide +kernel
theorem lkf_4_15 : lk2 fLk 4 15 = some (4, 1) := by decide +kernel
theorem lkf_1_18 : lk2 fLk 1 18 = some (1, 1) := by decide +kernel
theorem lkf_7_163 : lk2 fLk 7 163 = some (7, 20) := by decide +kernel
theorem lkf_7_166 : lk2 fLk 7 166 = some (7, 19) := by decide +kernel
theorem lkf_7_73 : lk2 fLk 7 73 = some (7, 9) := by decide +kernel
theorem lkf_6_206 : lk2 fLk 6 206 = some (3, 6) := by decide +kernel
theorem lkf_6_222 : lk2 fLk 6 222 = some (4, 0) := by decide +kernel
theorem lkf_6_229 : lk2 fLk 6 229 = some (0, 0) := by decide +kernel
theorem lkf_0_21 : lk2 fLk 0 21 = some (0, 1) := by decide +kernel
theorem lkf_3_109 : lk2 fLk 3 109 = some (0, 0) := by decide +kernel
theorem lkf_6_246 : lk2 fLk 6 246 = some (6, 4) := by decide +kernel
theorem lkf_7_236 : lk2 fLk 7 236 = some (7, 1) := by decide +kernel
theorem lkf_2_19 : lk2 fLk 2 19 = some (2, 1) := by decide +kernel
theorem lkf_6_292 : lk2 fLk 6 292 = some (2, 2) := by decide +kernel
theorem lkf_6_281 : lk2 fLk 6 281 = some (2, 1) := by decide +kernel
theorem lkf_6_285 : lk2 fLk 6 285 = some (2, 0) := by decide +kernel
theorem lkm_8_9 : lk2 mLk 8 9 = some mX6_init := lk2_at 0 (by decide +kernel) rfl
theorem lkm_6_9 : lk2 mLk 6 9 = some mX3_init := lk2_at 1 (by decide +kernel) rfl
theorem lkm_6_18 : lk2 mLk 6 18 = some mX1_init := lk2_at 2 (by decide +kernel) rfl
theorem lkm_1_17 : lk2 mLk 1 17 = some mX3_init := lk2_at 3 (by decide +kernel) rfl
theorem lkm_6_31 : lk2 mLk 6 31 = some mX5_init := lk2_at 4 (by decide +kernel) rfl
theorem lkm_6_42 : lk2 mLk 6 42 = some mX2_init := lk2_at 5 (by decide +kernel) rfl
theorem lkm_6_58 : lk2 mLk 6 58 = some mX0_init := lk2_at 6 (by decide +kernel) rfl
theorem lkm_8_12 : lk2 mLk 8 12 = some mX7_init := lk2_at 7 (by decide +kernel) rfl
theorem lkm_8_13 : lk2 mLk 8 13 = some mX6_teller := lk2_at 8 (by decide +kernel) rfl
theorem lkm_6_70 : lk2 mLk 6 70 = some mX6_within := lk2_at 9 (by decide +kernel) rfl
theorem lkm_6_78 : lk2 mLk 6 78 = some mX1_forget := lk2_at 10 (by decide +kernel) rfl
theorem lkm_6_81 : lk2 mLk 6 81 = some mX3_addTeller := lk2_at 11 (by decide +kernel) rfl
theorem lkm_8_17 : lk2 mLk 8 17 = some mX7_teller := lk2_at 12 (by decide +kernel) rfl
theorem lkm_7_51 : lk2 mLk 7 51 = some mX7_in := lk2_at 13 (by decide +kernel) rfl
theorem lkm_8_18 : lk2 mLk 8 18 = some mX6_hearer := lk2_at 14 (by decide +kernel) rfl
theorem lkm_6_88 : lk2 mLk 6 88 = some mX3_addHearer := lk2_at 15 (by decide +kernel) rfl
theorem lkm_8_22 : lk2 mLk 8 22 = some mX7_hearer := lk2_at 16 (by decide +kernel) rfl
theorem lkm_8_23 : lk2 mLk 8 23 = some mX6_of := lk2_at 17 (by decide +kernel) rfl
theorem lkm_6_92 : lk2 mLk 6 92 = some mX6_isTeller := lk2_at 18 (by decide +kernel) rfl
theorem lkm_6_96 : lk2 mLk 6 96 = some mX3_hearerOf := lk2_at 19 (by decide +kernel) rfl
theorem lkm_3_68 : lk2 mLk 3 68 = some mX3_seatOf := lk2_at 20 (by decide +kernel) rfl
theorem lkm_3_64 : lk2 mLk 3 64 = some mX3_leftOverBySeats := lk2_at 21 (by decide +kernel) rfl
theorem lkm_6_105 : lk2 mLk 6 105 = some mX3_seatOf := lk2_at 22 (by decide +kernel) rfl
theorem lkm_6_108 : lk2 mLk 6 108 = some mX3_costFor := lk2_at 23 (by decide +kernel) rfl
theorem lkm_3_71 : lk2 mLk 3 71 = some mX3_timesHeard := lk2_at 24 (by decide +kernel) rfl
theorem lkm_8_26 : lk2 mLk 8 26 = some mX7_of := lk2_at 25 (by decide +kernel) rfl
theorem lkm_7_84 : lk2 mLk 7 84 = some mX7_isTeller := lk2_at 26 (by decide +kernel) rfl
theorem lkm_7_80 : lk2 mLk 7 80 = some mX7_seatOf := lk2_at 27 (by decide +kernel) rfl
theorem lkm_7_61 : lk2 mLk 7 61 = some mX7_seats := lk2_at 28 (by decide +kernel) rfl
theorem lkm_7_88 : lk2 mLk 7 88 = some mX7_hearerOf := lk2_at 29 (by decide +kernel) rfl
theorem lkm_7_69 : lk2 mLk 7 69 = some mX7_costs := lk2_at 30 (by decide +kernel) rfl
theorem lkm_8_27 : lk2 mLk 8 27 = some mX6_at := lk2_at 31 (by decide +kernel) rfl
theorem lkm_6_111 : lk2 mLk 6 111 = some mX6_isHearer := lk2_at 32 (by decide +kernel) rfl
theorem lkm_6_123 : lk2 mLk 6 123 = some mX3_tellerOf := lk2_at 33 (by decide +kernel) rfl
theorem lkm_6_126 : lk2 mLk 6 126 = some mX3_heardBy := lk2_at 34 (by decide +kernel) rfl
theorem lkm_8_30 : lk2 mLk 8 30 = some mX7_at := lk2_at 35 (by decide +kernel) rfl
theorem lkm_7_91 : lk2 mLk 7 91 = some mX7_isHearer := lk2_at 36 (by decide +kernel) rfl
theorem lkm_7_65 : lk2 mLk 7 65 = some mX7_hasOne := lk2_at 37 (by decide +kernel) rfl
theorem lkm_7_94 : lk2 mLk 7 94 = some mX7_heardBy := lk2_at 38 (by decide +kernel) rfl
theorem lkm_8_31 : lk2 mLk 8 31 = some mX6_heard := lk2_at 39 (by decide +kernel) rfl
theorem lkm_6_129 : lk2 mLk 6 129 = some mX3_timesHeard := lk2_at 40 (by decide +kernel) rfl
theorem lkm_8_34 : lk2 mLk 8 34 = some mX7_heard := lk2_at 41 (by decide +kernel) rfl
theorem lkm_8_35 : lk2 mLk 8 35 = some mX6_type := lk2_at 42 (by decide +kernel) rfl
theorem lkm_6_132 : lk2 mLk 6 132 = some mX5_append := lk2_at 43 (by decide +kernel) rfl
theorem lkm_8_38 : lk2 mLk 8 38 = some mX7_type := lk2_at 44 (by decide +kernel) rfl
theorem lkm_8_39 : lk2 mLk 8 39 = some mX6_list := lk2_at 45 (by decide +kernel) rfl
theorem lkm_6_136 : lk2 mLk 6 136 = some mX3_become := lk2_at 46 (by decide +kernel) rfl
theorem lkm_6_140 : lk2 mLk 6 140 = some mX3_empty := lk2_at 47 (by decide +kernel) rfl
theorem lkm_6_143 : lk2 mLk 6 143 = some mX5_readList := lk2_at 48 (by decide +kernel) rfl
theorem lkm_5_22 : lk2 mLk 5 22 = some mX5_readHearers := lk2_at 49 (by decide +kernel) rfl
theorem lkm_5_36 : lk2 mLk 5 36 = some mX5_passLetter := lk2_at 50 (by decide +kernel) rfl
theorem lkm_5_32 : lk2 mLk 5 32 = some mX5_nextLetter := lk2_at 51 (by decide +kernel) rfl
theorem lkm_5_40 : lk2 mLk 5 40 = some mX5_readHearer := lk2_at 52 (by decide +kernel) rfl
theorem lkm_5_43 : lk2 mLk 5 43 = some mX5_readNumber := lk2_at 53 (by decide +kernel) rfl
theorem lkm_5_73 : lk2 mLk 5 73 = some mX5_isDigit := lk2_at 54 (by decide +kernel) rfl
theorem lkm_5_47 : lk2 mLk 5 47 = some mX3_addHearer := lk2_at 55 (by decide +kernel) rfl
theorem lkm_5_26 : lk2 mLk 5 26 = some mX5_readTellers := lk2_at 56 (by decide +kernel) rfl
theorem lkm_5_57 : lk2 mLk 5 57 = some mX5_readTeller := lk2_at 57 (by decide +kernel) rfl
theorem lkm_5_67 : lk2 mLk 5 67 = some mX3_addTeller := lk2_at 58 (by decide +kernel) rfl
theorem lkm_5_29 : lk2 mLk 5 29 = some mX5_readStep := lk2_at 59 (by decide +kernel) rfl
theorem lkm_6_150 : lk2 mLk 6 150 = some mX5_wipe := lk2_at 60 (by decide +kernel) rfl
theorem lkm_8_43 : lk2 mLk 8 43 = some mX7_list := lk2_at 61 (by decide +kernel) rfl
theorem lkm_7_151 : lk2 mLk 7 151 = some mX7_readsAll := lk2_at 62 (by decide +kernel) rfl
theorem lkm_7_138 : lk2 mLk 7 138 = some mX7_readsHearer := lk2_at 63 (by decide +kernel) rfl
theorem lkm_7_124 : lk2 mLk 7 124 = some mX7_number := lk2_at 64 (by decide +kernel) rfl
theorem lkm_7_107 : lk2 mLk 7 107 = some mX7_pass := lk2_at 65 (by decide +kernel) rfl
theorem lkm_7_117 : lk2 mLk 7 117 = some mX7_isDigitHere := lk2_at 66 (by decide +kernel) rfl
theorem lkm_7_127 : lk2 mLk 7 127 = some mX7_isHere := lk2_at 67 (by decide +kernel) rfl
theorem lkm_7_141 : lk2 mLk 7 141 = some mX7_sign := lk2_at 68 (by decide +kernel) rfl
theorem lkm_7_145 : lk2 mLk 7 145 = some mX7_readsTeller := lk2_at 69 (by decide +kernel) rfl
theorem lkm_7_148 : lk2 mLk 7 148 = some mX7_readsStep := lk2_at 70 (by decide +kernel) rfl
theorem lkm_8_44 : lk2 mLk 8 44 = some mX6_count := lk2_at 71 (by decide +kernel) rfl
theorem lkm_6_165 : lk2 mLk 6 165 = some mX3_heardInAll := lk2_at 72 (by decide +kernel) rfl
theorem lkm_6_169 : lk2 mLk 6 169 = some mX3_lookedInAll := lk2_at 73 (by decide +kernel) rfl
theorem lkm_8_47 : lk2 mLk 8 47 = some mX7_count := lk2_at 74 (by decide +kernel) rfl
theorem lkm_7_154 : lk2 mLk 7 154 = some mX7_allHeard := lk2_at 75 (by decide +kernel) rfl
theorem lkm_7_157 : lk2 mLk 7 157 = some mX7_allLooked := lk2_at 76 (by decide +kernel) rfl
theorem lkm_8_48 : lk2 mLk 8 48 = some mX6_evenings := lk2_at 77 (by decide +kernel) rfl
theorem lkm_6_175 : lk2 mLk 6 175 = some mX6_refuseEvenings := lk2_at 78 (by decide +kernel) rfl
theorem lkm_6_178 : lk2 mLk 6 178 = some mX4_clear := lk2_at 79 (by decide +kernel) rfl
theorem lkm_6_181 : lk2 mLk 6 181 = some mX1_note := lk2_at 80 (by decide +kernel) rfl
theorem lkm_1_22 : lk2 mLk 1 22 = some mX3_become := lk2_at 81 (by decide +kernel) rfl
theorem lkm_6_184 : lk2 mLk 6 184 = some mX3_passEvening := lk2_at 82 (by decide +kernel) rfl
theorem lkm_3_90 : lk2 mLk 3 90 = some mX3_sitThrough := lk2_at 83 (by decide +kernel) rfl
theorem lkm_3_77 : lk2 mLk 3 77 = some mX3_tellerOf := lk2_at 84 (by decide +kernel) rfl
theorem lkm_3_80 : lk2 mLk 3 80 = some mX3_relieve := lk2_at 85 (by decide +kernel) rfl
theorem lkm_3_84 : lk2 mLk 3 84 = some mX3_costFor := lk2_at 86 (by decide +kernel) rfl
theorem lkm_3_93 : lk2 mLk 3 93 = some mX4_note := lk2_at 87 (by decide +kernel) rfl
theorem lkm_3_99 : lk2 mLk 3 99 = some mX3_goOn := lk2_at 88 (by decide +kernel) rfl
theorem lkm_8_51 : lk2 mLk 8 51 = some mX7_evenings := lk2_at 89 (by decide +kernel) rfl
theorem lkm_7_194 : lk2 mLk 7 194 = some mX7_goOn := lk2_at 90 (by decide +kernel) rfl
theorem lkm_7_185 : lk2 mLk 7 185 = some mX7_keepPast := lk2_at 91 (by decide +kernel) rfl
theorem lkm_7_188 : lk2 mLk 7 188 = some mX7_drifts := lk2_at 92 (by decide +kernel) rfl
theorem lkm_7_169 : lk2 mLk 7 169 = some mX7_rests := lk2_at 93 (by decide +kernel) rfl
theorem lkm_7_191 : lk2 mLk 7 191 = some mX7_passes := lk2_at 94 (by decide +kernel) rfl
theorem lkm_7_173 : lk2 mLk 7 173 = some mX7_hears := lk2_at 95 (by decide +kernel) rfl
theorem lkm_7_160 : lk2 mLk 7 160 = some mX7_costsNow := lk2_at 96 (by decide +kernel) rfl
theorem lkm_7_76 : lk2 mLk 7 76 = some mX7_has := lk2_at 97 (by decide +kernel) rfl
theorem lkm_8_52 : lk2 mLk 8 52 = some mX6_rest := lk2_at 98 (by decide +kernel) rfl
theorem lkm_6_191 : lk2 mLk 6 191 = some mX3_relieve := lk2_at 99 (by decide +kernel) rfl
theorem lkm_8_55 : lk2 mLk 8 55 = some mX7_rest := lk2_at 100 (by decide +kernel) rfl
theorem lkm_8_56 : lk2 mLk 8 56 = some mX6_spin := lk2_at 101 (by decide +kernel) rfl
theorem lkm_8_59 : lk2 mLk 8 59 = some mX7_spin := lk2_at 102 (by decide +kernel) rfl
theorem lkm_8_60 : lk2 mLk 8 60 = some mX6_step := lk2_at 103 (by decide +kernel) rfl
theorem lkm_8_63 : lk2 mLk 8 63 = some mX7_step := lk2_at 104 (by decide +kernel) rfl
theorem lkm_7_198 : lk2 mLk 7 198 = some mX7_become := lk2_at 105 (by decide +kernel) rfl
theorem lkm_8_64 : lk2 mLk 8 64 = some mX6_turn := lk2_at 106 (by decide +kernel) rfl
theorem lkm_8_67 : lk2 mLk 8 67 = some mX7_turn := lk2_at 107 (by decide +kernel) rfl
theorem lkm_8_68 : lk2 mLk 8 68 = some mX6_drift := lk2_at 108 (by decide +kernel) rfl
theorem lkm_6_200 : lk2 mLk 6 200 = some mX3_drawRest := lk2_at 109 (by decide +kernel) rfl
theorem lkm_8_71 : lk2 mLk 8 71 = some mX7_drift := lk2_at 110 (by decide +kernel) rfl
theorem lkm_8_72 : lk2 mLk 8 72 = some mX6_undo := lk2_at 111 (by decide +kernel) rfl
theorem lkm_6_203 : lk2 mLk 6 203 = some mX1_takeBack := lk2_at 112 (by decide +kernel) rfl
theorem lkm_8_75 : lk2 mLk 8 75 = some mX7_undo := lk2_at 113 (by decide +kernel) rfl
theorem lkm_8_76 : lk2 mLk 8 76 = some mX6_seed := lk2_at 114 (by decide +kernel) rfl
theorem lkm_8_79 : lk2 mLk 8 79 = some mX7_seed := lk2_at 115 (by decide +kernel) rfl
theorem lkm_8_80 : lk2 mLk 8 80 = some mX6_ahead := lk2_at 116 (by decide +kernel) rfl
theorem lkm_6_209 : lk2 mLk 6 209 = some mX6_foretell := lk2_at 117 (by decide +kernel) rfl
theorem lkm_6_268 : lk2 mLk 6 268 = some mX3_passEveningOf := lk2_at 118 (by decide +kernel) rfl
theorem lkm_8_84 : lk2 mLk 8 84 = some mX7_ahead := lk2_at 119 (by decide +kernel) rfl
theorem lkm_7_203 : lk2 mLk 7 203 = some mX7_layTried := lk2_at 120 (by decide +kernel) rfl
theorem lkm_7_206 : lk2 mLk 7 206 = some mX7_passTried := lk2_at 121 (by decide +kernel) rfl
theorem lkm_8_85 : lk2 mLk 8 85 = some mX6_then := lk2_at 122 (by decide +kernel) rfl
theorem lkm_8_88 : lk2 mLk 8 88 = some mX7_then := lk2_at 123 (by decide +kernel) rfl
theorem lkm_8_89 : lk2 mLk 8 89 = some mX6_first := lk2_at 124 (by decide +kernel) rfl
theorem lkm_6_212 : lk2 mLk 6 212 = some mX6_firstLook := lk2_at 125 (by decide +kernel) rfl
theorem lkm_8_92 : lk2 mLk 8 92 = some mX7_first := lk2_at 126 (by decide +kernel) rfl
theorem lkm_7_209 : lk2 mLk 7 209 = some mX7_firstLook := lk2_at 127 (by decide +kernel) rfl
theorem lkm_8_93 : lk2 mLk 8 93 = some mX6_all := lk2_at 128 (by decide +kernel) rfl
theorem lkm_6_215 : lk2 mLk 6 215 = some mX3_allHeardAll := lk2_at 129 (by decide +kernel) rfl
theorem lkm_3_74 : lk2 mLk 3 74 = some mX3_heardBy := lk2_at 130 (by decide +kernel) rfl
theorem lkm_8_96 : lk2 mLk 8 96 = some mX7_all := lk2_at 131 (by decide +kernel) rfl
theorem lkm_7_212 : lk2 mLk 7 212 = some mX7_isAllHeard := lk2_at 132 (by decide +kernel) rfl
theorem lkm_8_97 : lk2 mLk 8 97 = some mX6_left := lk2_at 133 (by decide +kernel) rfl
theorem lkm_8_100 : lk2 mLk 8 100 = some mX7_left := lk2_at 134 (by decide +kernel) rfl
theorem lkm_8_101 : lk2 mLk 8 101 = some mX6_pace := lk2_at 135 (by decide +kernel) rfl
theorem lkm_6_219 : lk2 mLk 6 219 = some mX6_findPace := lk2_at 136 (by decide +kernel) rfl
theorem lkm_6_302 : lk2 mLk 6 302 = some mX6_tryEvenings := lk2_at 137 (by decide +kernel) rfl
theorem lkm_6_305 : lk2 mLk 6 305 = some mX4_beats := lk2_at 138 (by decide +kernel) rfl
theorem lkm_6_309 : lk2 mLk 6 309 = some mX4_become := lk2_at 139 (by decide +kernel) rfl
theorem lkm_8_104 : lk2 mLk 8 104 = some mX7_pace := lk2_at 140 (by decide +kernel) rfl
theorem lkm_8_105 : lk2 mLk 8 105 = some mX6_seating := lk2_at 141 (by decide +kernel) rfl
theorem lkm_6_225 : lk2 mLk 6 225 = some mX6_findSeating := lk2_at 142 (by decide +kernel) rfl
theorem lkm_6_312 : lk2 mLk 6 312 = some mX0_begin := lk2_at 143 (by decide +kernel) rfl
theorem lkm_6_314 : lk2 mLk 6 314 = some mX3_seatBy := lk2_at 144 (by decide +kernel) rfl
theorem lkm_6_318 : lk2 mLk 6 318 = some mX0_become := lk2_at 145 (by decide +kernel) rfl
theorem lkm_6_321 : lk2 mLk 6 321 = some mX0_advance := lk2_at 146 (by decide +kernel) rfl
theorem lkm_0_31 : lk2 mLk 0 31 = some mX0_swap := lk2_at 147 (by decide +kernel) rfl
theorem lkm_8_108 : lk2 mLk 8 108 = some mX7_seating := lk2_at 148 (by decide +kernel) rfl
theorem lkm_7_219 : lk2 mLk 7 219 = some mX7_sitPlainly := lk2_at 149 (by decide +kernel) rfl
theorem lkm_7_222 : lk2 mLk 7 222 = some mX7_nextOrder := lk2_at 150 (by decide +kernel) rfl
theorem lkm_7_215 : lk2 mLk 7 215 = some mX7_swapSits := lk2_at 151 (by decide +kernel) rfl
theorem lkm_8_109 : lk2 mLk 8 109 = some mX6_needs := lk2_at 152 (by decide +kernel) rfl
theorem lkm_8_112 : lk2 mLk 8 112 = some mX7_needs := lk2_at 153 (by decide +kernel) rfl
theorem lkm_8_113 : lk2 mLk 8 113 = some mX6_spare := lk2_at 154 (by decide +kernel) rfl
theorem lkm_6_234 : lk2 mLk 6 234 = some mX6_looksWithout := lk2_at 155 (by decide +kernel) rfl
theorem lkm_8_116 : lk2 mLk 8 116 = some mX7_spare := lk2_at 156 (by decide +kernel) rfl
theorem lkm_8_117 : lk2 mLk 8 117 = some mX6_doze := lk2_at 157 (by decide +kernel) rfl
theorem lkm_6_237 : lk2 mLk 6 237 = some mX6_weighLooks := lk2_at 158 (by decide +kernel) rfl
theorem lkm_6_324 : lk2 mLk 6 324 = some mX6_looksOfTen := lk2_at 159 (by decide +kernel) rfl
theorem lkm_6_327 : lk2 mLk 6 327 = some mX6_addHearerToWays := lk2_at 160 (by decide +kernel) rfl
theorem lkm_6_240 : lk2 mLk 6 240 = some mX6_greatestCommonDivisor := lk2_at 161 (by decide +kernel) rfl
theorem lkm_8_120 : lk2 mLk 8 120 = some mX7_doze := lk2_at 162 (by decide +kernel) rfl
theorem lkm_7_230 : lk2 mLk 7 230 = some mX7_havers := lk2_at 163 (by decide +kernel) rfl
theorem lkm_7_233 : lk2 mLk 7 233 = some mX7_looks := lk2_at 164 (by decide +kernel) rfl
theorem lkm_8_121 : lk2 mLk 8 121 = some mX6_image := lk2_at 165 (by decide +kernel) rfl
theorem lkm_6_243 : lk2 mLk 6 243 = some mX1_become := lk2_at 166 (by decide +kernel) rfl
theorem lkm_8_124 : lk2 mLk 8 124 = some mX7_image := lk2_at 167 (by decide +kernel) rfl
theorem lkm_8_125 : lk2 mLk 8 125 = some mX6_restore := lk2_at 168 (by decide +kernel) rfl
theorem lkm_8_128 : lk2 mLk 8 128 = some mX7_restore := lk2_at 169 (by decide +kernel) rfl
theorem lkm_8_129 : lk2 mLk 8 129 = some mX6_borne := lk2_at 170 (by decide +kernel) rfl
theorem lkm_6_250 : lk2 mLk 6 250 = some mX6_isSheet := lk2_at 171 (by decide +kernel) rfl
theorem lkm_6_253 : lk2 mLk 6 253 = some mX6_isLane := lk2_at 172 (by decide +kernel) rfl
theorem lkm_6_256 : lk2 mLk 6 256 = some mX2_refuse := lk2_at 173 (by decide +kernel) rfl
theorem lkm_2_22 : lk2 mLk 2 22 = some mX2_holdsNothing := lk2_at 174 (by decide +kernel) rfl
theorem lkm_2_26 : lk2 mLk 2 26 = some mX2_spans := lk2_at 175 (by decide +kernel) rfl
theorem lkm_6_260 : lk2 mLk 6 260 = some mX3_suppose := lk2_at 176 (by decide +kernel) rfl
theorem lkm_6_264 : lk2 mLk 6 264 = some mX6_bearsAsTold := lk2_at 177 (by decide +kernel) rfl
theorem lkm_8_133 : lk2 mLk 8 133 = some mX7_borne := lk2_at 178 (by decide +kernel) rfl
theorem lkm_7_246 : lk2 mLk 7 246 = some mX7_isSheet := lk2_at 179 (by decide +kernel) rfl
theorem lkm_7_251 : lk2 mLk 7 251 = some mX7_refusal := lk2_at 180 (by decide +kernel) rfl
theorem lkm_7_242 : lk2 mLk 7 242 = some mX7_isSpan := lk2_at 181 (by decide +kernel) rfl
theorem lkm_7_255 : lk2 mLk 7 255 = some mX7_isBorne := lk2_at 182 (by decide +kernel) rfl
theorem lkm_8_134 : lk2 mLk 8 134 = some mX6_film := lk2_at 183 (by decide +kernel) rfl
theorem lkm_6_271 : lk2 mLk 6 271 = some mX2_put := lk2_at 184 (by decide +kernel) rfl
theorem lkm_2_30 : lk2 mLk 2 30 = some mX2_lowestBits := lk2_at 185 (by decide +kernel) rfl
theorem lkm_8_138 : lk2 mLk 8 138 = some mX7_film := lk2_at 186 (by decide +kernel) rfl
theorem lkm_7_260 : lk2 mLk 7 260 = some mX7_cut := lk2_at 187 (by decide +kernel) rfl
theorem lkm_8_139 : lk2 mLk 8 139 = some mX6_sheet := lk2_at 188 (by decide +kernel) rfl
theorem lkm_6_275 : lk2 mLk 6 275 = some mX2_begin := lk2_at 189 (by decide +kernel) rfl
theorem lkm_8_142 : lk2 mLk 8 142 = some mX7_sheet := lk2_at 190 (by decide +kernel) rfl
theorem lkm_8_143 : lk2 mLk 8 143 = some mX6_drop := lk2_at 191 (by decide +kernel) rfl
theorem lkm_6_278 : lk2 mLk 6 278 = some mX2_holdsNothing := lk2_at 192 (by decide +kernel) rfl
theorem lkm_6_282 : lk2 mLk 6 282 = some mX2_end := lk2_at 193 (by decide +kernel) rfl
theorem lkm_8_146 : lk2 mLk 8 146 = some mX7_drop := lk2_at 194 (by decide +kernel) rfl
theorem lkm_8_149 : lk2 mLk 8 149 = some mX6_item := lk2_at 195 (by decide +kernel) rfl
theorem lkm_8_153 : lk2 mLk 8 153 = some mX7_item := lk2_at 196 (by decide +kernel) rfl
theorem lkm_8_154 : lk2 mLk 8 154 = some mX6_copy := lk2_at 197 (by decide +kernel) rfl
theorem lkm_6_288 : lk2 mLk 6 288 = some mX2_spans := lk2_at 198 (by decide +kernel) rfl
theorem lkm_8_157 : lk2 mLk 8 157 = some mX7_copy := lk2_at 199 (by decide +kernel) rfl
theorem lkm_6_48 : lk2 nLk 6 48 = some mX4_init := lk2_at 0 (by decide +kernel) rfl
theorem lkm_5_76 : lk2 nLk 5 76 = some mX6_within := lk2_at 1 (by decide +kernel) rfl
