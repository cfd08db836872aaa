def cl (M : Nat) : Nat := (bif Nat.blt M 133 then (bif Nat.blt M 66 then (bif Nat.blt M 33 then (bif Nat.blt M 16 then (bif Nat.blt M 8 then (bif Nat.blt M 4 then (bif Nat.blt M 2 then (bif Nat.blt M 1 then 36 else 9) else (bif Nat.blt M 3 then 105 else 196)) else (bif Nat.blt M 6 then (bif Nat.blt M 5 then 241 else 36) else (bif Nat.blt M 7 then 39 else 64))) else (bif Nat.blt M 12 then (bif Nat.blt M 10 then (bif Nat.blt M 9 then 144 else 43) else (bif Nat.blt M 11 then 70 else 12)) else (bif Nat.blt M 14 then (bif Nat.blt M 13 then 91 else 38) else (bif Nat.blt M 15 then 15 else 14)))) else (bif Nat.blt M 24 then (bif Nat.blt M 20 then (bif Nat.blt M 18 then (bif Nat.blt M 17 then 18 else 15) else (bif Nat.blt M 19 then 32 else 35)) else (bif Nat.blt M 22 then (bif Nat.blt M 21 then 111 else 197) else (bif Nat.blt M 23 then 80 else 98))) else (bif Nat.blt M 28 then (bif Nat.blt M 26 then (bif Nat.blt M 25 then 56 else 12) else (bif Nat.blt M 27 then 35 else 31)) else (bif Nat.blt M 30 then (bif Nat.blt M 29 then 18 else 13) else (bif Nat.blt M 31 then 89 else (bif Nat.blt M 32 then 83 else 41)))))) else (bif Nat.blt M 49 then (bif Nat.blt M 41 then (bif Nat.blt M 37 then (bif Nat.blt M 35 then (bif Nat.blt M 34 then 133 else 80) else (bif Nat.blt M 36 then 70 else 134)) else (bif Nat.blt M 39 then (bif Nat.blt M 38 then 77 else 18) else (bif Nat.blt M 40 then 47 else 23))) else (bif Nat.blt M 45 then (bif Nat.blt M 43 then (bif Nat.blt M 42 then 135 else 18) else (bif Nat.blt M 44 then 272 else 18)) else (bif Nat.blt M 47 then (bif Nat.blt M 46 then 18 else 115) else (bif Nat.blt M 48 then 37 else 28)))) else (bif Nat.blt M 57 then (bif Nat.blt M 53 then (bif Nat.blt M 51 then (bif Nat.blt M 50 then 141 else 122) else (bif Nat.blt M 52 then 81 else 39)) else (bif Nat.blt M 55 then (bif Nat.blt M 54 then 81 else 96) else (bif Nat.blt M 56 then 13 else 54))) else (bif Nat.blt M 61 then (bif Nat.blt M 59 then (bif Nat.blt M 58 then 129 else 76) else (bif Nat.blt M 60 then 82 else 25)) else (bif Nat.blt M 63 then (bif Nat.blt M 62 then 95 else 11) else (bif Nat.blt M 64 then 83 else (bif Nat.blt M 65 then 59 else 59))))))) else (bif Nat.blt M 99 then (bif Nat.blt M 82 then (bif Nat.blt M 74 then (bif Nat.blt M 70 then (bif Nat.blt M 68 then (bif Nat.blt M 67 then 128 else 154) else (bif Nat.blt M 69 then 34 else 88)) else (bif Nat.blt M 72 then (bif Nat.blt M 71 then 45 else 37) else (bif Nat.blt M 73 then 44 else 61))) else (bif Nat.blt M 78 then (bif Nat.blt M 76 then (bif Nat.blt M 75 then 107 else 187) else (bif Nat.blt M 77 then 32 else 135)) else (bif Nat.blt M 80 then (bif Nat.blt M 79 then 15 else 23) else (bif Nat.blt M 81 then 38 else 53)))) else (bif Nat.blt M 90 then (bif Nat.blt M 86 then (bif Nat.blt M 84 then (bif Nat.blt M 83 then 110 else 155) else (bif Nat.blt M 85 then 138 else 68)) else (bif Nat.blt M 88 then (bif Nat.blt M 87 then 187 else 62) else (bif Nat.blt M 89 then 103 else 123))) else (bif Nat.blt M 94 then (bif Nat.blt M 92 then (bif Nat.blt M 91 then 56 else 64) else (bif Nat.blt M 93 then 27 else 164)) else (bif Nat.blt M 96 then (bif Nat.blt M 95 then 114 else 5) else (bif Nat.blt M 97 then 55 else (bif Nat.blt M 98 then 87 else 103)))))) else (bif Nat.blt M 116 then (bif Nat.blt M 107 then (bif Nat.blt M 103 then (bif Nat.blt M 101 then (bif Nat.blt M 100 then 134 else 40) else (bif Nat.blt M 102 then 61 else 51)) else (bif Nat.blt M 105 then (bif Nat.blt M 104 then 77 else 106) else (bif Nat.blt M 106 then 54 else 30))) else (bif Nat.blt M 111 then (bif Nat.blt M 109 then (bif Nat.blt M 108 then 73 else 65) else (bif Nat.blt M 110 then 78 else 119)) else (bif Nat.blt M 113 then (bif Nat.blt M 112 then 95 else 121) else (bif Nat.blt M 114 then 66 else (bif Nat.blt M 115 then 84 else 113))))) else (bif Nat.blt M 124 then (bif Nat.blt M 120 then (bif Nat.blt M 118 then (bif Nat.blt M 117 then 34 else 85) else (bif Nat.blt M 119 then 58 else 96)) else (bif Nat.blt M 122 then (bif Nat.blt M 121 then 45 else 39) else (bif Nat.blt M 123 then 48 else 183))) else (bif Nat.blt M 128 then (bif Nat.blt M 126 then (bif Nat.blt M 125 then 5 else 16) else (bif Nat.blt M 127 then 15 else 10)) else (bif Nat.blt M 130 then (bif Nat.blt M 129 then 10 else 9) else (bif Nat.blt M 131 then 26 else (bif Nat.blt M 132 then 11 else 41)))))))) else (bif Nat.blt M 200 then (bif Nat.blt M 166 then (bif Nat.blt M 149 then (bif Nat.blt M 141 then (bif Nat.blt M 137 then (bif Nat.blt M 135 then (bif Nat.blt M 134 then 20 else 44) else (bif Nat.blt M 136 then 14 else 46)) else (bif Nat.blt M 139 then (bif Nat.blt M 138 then 69 else 136) else (bif Nat.blt M 140 then 68 else 48))) else (bif Nat.blt M 145 then (bif Nat.blt M 143 then (bif Nat.blt M 142 then 14 else 129) else (bif Nat.blt M 144 then 16 else 18)) else (bif Nat.blt M 147 then (bif Nat.blt M 146 then 7 else 797) else (bif Nat.blt M 148 then 61 else 70)))) else (bif Nat.blt M 157 then (bif Nat.blt M 153 then (bif Nat.blt M 151 then (bif Nat.blt M 150 then 11 else 16) else (bif Nat.blt M 152 then 9 else 7)) else (bif Nat.blt M 155 then (bif Nat.blt M 154 then 9 else 12) else (bif Nat.blt M 156 then 14 else 9))) else (bif Nat.blt M 161 then (bif Nat.blt M 159 then (bif Nat.blt M 158 then 39 else 42) else (bif Nat.blt M 160 then 14 else 26)) else (bif Nat.blt M 163 then (bif Nat.blt M 162 then 15 else 82) else (bif Nat.blt M 164 then 68 else (bif Nat.blt M 165 then 83 else 83)))))) else (bif Nat.blt M 183 then (bif Nat.blt M 174 then (bif Nat.blt M 170 then (bif Nat.blt M 168 then (bif Nat.blt M 167 then 87 else 183) else (bif Nat.blt M 169 then 117 else 21)) else (bif Nat.blt M 172 then (bif Nat.blt M 171 then 18 else 18) else (bif Nat.blt M 173 then 128 else 294))) else (bif Nat.blt M 178 then (bif Nat.blt M 176 then (bif Nat.blt M 175 then 14 else 21) else (bif Nat.blt M 177 then 42 else 13)) else (bif Nat.blt M 180 then (bif Nat.blt M 179 then 41 else 5) else (bif Nat.blt M 181 then 51 else (bif Nat.blt M 182 then 23 else 23))))) else (bif Nat.blt M 191 then (bif Nat.blt M 187 then (bif Nat.blt M 185 then (bif Nat.blt M 184 then 134 else 38) else (bif Nat.blt M 186 then 38 else 119)) else (bif Nat.blt M 189 then (bif Nat.blt M 188 then 108 else 140) else (bif Nat.blt M 190 then 5 else 23))) else (bif Nat.blt M 195 then (bif Nat.blt M 193 then (bif Nat.blt M 192 then 34 else 38) else (bif Nat.blt M 194 then 105 else 140)) else (bif Nat.blt M 197 then (bif Nat.blt M 196 then 98 else 52) else (bif Nat.blt M 198 then 52 else (bif Nat.blt M 199 then 39 else 127))))))) else (bif Nat.blt M 233 then (bif Nat.blt M 216 then (bif Nat.blt M 208 then (bif Nat.blt M 204 then (bif Nat.blt M 202 then (bif Nat.blt M 201 then 185 else 54) else (bif Nat.blt M 203 then 25 else 38)) else (bif Nat.blt M 206 then (bif Nat.blt M 205 then 49 else 47) else (bif Nat.blt M 207 then 41 else 147))) else (bif Nat.blt M 212 then (bif Nat.blt M 210 then (bif Nat.blt M 209 then 35 else 118) else (bif Nat.blt M 211 then 113 else 156)) else (bif Nat.blt M 214 then (bif Nat.blt M 213 then 245 else 9) else (bif Nat.blt M 215 then 15 else 120)))) else (bif Nat.blt M 224 then (bif Nat.blt M 220 then (bif Nat.blt M 218 then (bif Nat.blt M 217 then 90 else 81) else (bif Nat.blt M 219 then 27 else 59)) else (bif Nat.blt M 222 then (bif Nat.blt M 221 then 24 else 109) else (bif Nat.blt M 223 then 160 else 40))) else (bif Nat.blt M 228 then (bif Nat.blt M 226 then (bif Nat.blt M 225 then 18 else 64) else (bif Nat.blt M 227 then 147 else 48)) else (bif Nat.blt M 230 then (bif Nat.blt M 229 then 55 else 115) else (bif Nat.blt M 231 then 62 else (bif Nat.blt M 232 then 80 else 9)))))) else (bif Nat.blt M 250 then (bif Nat.blt M 241 then (bif Nat.blt M 237 then (bif Nat.blt M 235 then (bif Nat.blt M 234 then 9 else 15) else (bif Nat.blt M 236 then 16 else 12)) else (bif Nat.blt M 239 then (bif Nat.blt M 238 then 12 else 154) else (bif Nat.blt M 240 then 175 else 63))) else (bif Nat.blt M 245 then (bif Nat.blt M 243 then (bif Nat.blt M 242 then 31 else 29) else (bif Nat.blt M 244 then 130 else 167)) else (bif Nat.blt M 247 then (bif Nat.blt M 246 then 111 else 175) else (bif Nat.blt M 248 then 23 else (bif Nat.blt M 249 then 77 else 86))))) else (bif Nat.blt M 258 then (bif Nat.blt M 254 then (bif Nat.blt M 252 then (bif Nat.blt M 251 then 26 else 138) else (bif Nat.blt M 253 then 39 else 84)) else (bif Nat.blt M 256 then (bif Nat.blt M 255 then 45 else 23) else (bif Nat.blt M 257 then 36 else 87))) else (bif Nat.blt M 262 then (bif Nat.blt M 260 then (bif Nat.blt M 259 then 90 else 201) else (bif Nat.blt M 261 then 5 else 53)) else (bif Nat.blt M 264 then (bif Nat.blt M 263 then 74 else 21) else (bif Nat.blt M 265 then 28 else (bif Nat.blt M 266 then 33 else 1553)))))))))
def prg0 (M pc : Nat) : Option En := (bif Nat.blt M 133 then (bif Nat.blt M 66 then (bif Nat.blt M 33 then (bif Nat.blt M 16 then (bif Nat.blt M 8 then (bif Nat.blt M 4 then (bif Nat.blt M 2 then (bif Nat.blt M 1 then (PX0_init pc) else (PX0_clear pc)) else (bif Nat.blt M 3 then (PX0_holds pc) else (PX0_isSound pc))) else (bif Nat.blt M 6 then (bif Nat.blt M 5 then (PX0_reckon pc) else (PX1_init pc)) else (bif Nat.blt M 7 then (PX1_copyFrom pc) else (PX1_put pc)))) else (bif Nat.blt M 12 then (bif Nat.blt M 10 then (bif Nat.blt M 9 then (PX1_tellsSpan pc) else (PX2_init pc)) else (bif Nat.blt M 11 then (PX2_copyFrom pc) else (PX2_has pc))) else (bif Nat.blt M 14 then (bif Nat.blt M 13 then (PX2_add pc) else (PX2_worst pc)) else (bif Nat.blt M 15 then (PX2_isKnown pc) else (PX2_isScorched pc))))) else (bif Nat.blt M 24 then (bif Nat.blt M 20 then (bif Nat.blt M 18 then (bif Nat.blt M 17 then (PX2_isOf pc) else (PX2_isBad pc)) else (bif Nat.blt M 19 then (PX2_howMany pc) else (PX2_lineBehind pc))) else (bif Nat.blt M 22 then (bif Nat.blt M 21 then (PX3_init pc) else (PX3_copyFrom pc)) else (bif Nat.blt M 23 then (PX3_seat pc) else (PX3_file pc)))) else (bif Nat.blt M 28 then (bif Nat.blt M 26 then (bif Nat.blt M 25 then (PX3_takeTurn pc) else (PX3_hasSheet pc)) else (bif Nat.blt M 27 then (PX3_isShownTo pc) else (PX3_unsent pc))) else (bif Nat.blt M 30 then (bif Nat.blt M 29 then (PX4_init pc) else (PX4_setOne pc)) else (bif Nat.blt M 31 then (PX4_setProduct pc) else (bif Nat.blt M 32 then (PX4_compareWith pc) else (PX5_init pc))))))) else (bif Nat.blt M 49 then (bif Nat.blt M 41 then (bif Nat.blt M 37 then (bif Nat.blt M 35 then (bif Nat.blt M 34 then (PX5_draw pc) else (PX5_insert pc)) else (bif Nat.blt M 36 then (PX5_changes pc) else (PX5_takenOut pc))) else (bif Nat.blt M 39 then (bif Nat.blt M 38 then (PX6_init pc) else (PX6_takes pc)) else (bif Nat.blt M 40 then (PX6_append pc) else (PX6_shortAt pc)))) else (bif Nat.blt M 45 then (bif Nat.blt M 43 then (bif Nat.blt M 42 then (PX6_read pc) else (PX6_isSign pc)) else (bif Nat.blt M 44 then (PX6_advance pc) else (PX6_isLetter pc))) else (bif Nat.blt M 47 then (bif Nat.blt M 46 then (PX6_isDigit pc) else (PX6_kindOfName pc)) else (bif Nat.blt M 48 then (PX6_emit pc) else (PX6_skipToHere pc))))) else (bif Nat.blt M 57 then (bif Nat.blt M 53 then (bif Nat.blt M 51 then (bif Nat.blt M 50 then (PX6_readClause pc) else (PX6_readTest pc)) else (bif Nat.blt M 52 then (PX6_readPlain pc) else (PX6_readBracket pc))) else (bif Nat.blt M 55 then (bif Nat.blt M 54 then (PX6_readComparison pc) else (PX6_readSum pc)) else (bif Nat.blt M 56 then (PX6_emitIfAny pc) else (PX6_operator pc)))) else (bif Nat.blt M 61 then (bif Nat.blt M 59 then (bif Nat.blt M 58 then (PX6_readPart pc) else (PX7_init pc)) else (bif Nat.blt M 60 then (PX7_copyFrom pc) else (PX7_lawAt pc))) else (bif Nat.blt M 63 then (bif Nat.blt M 62 then (PX8_init pc) else (PX8_forget pc)) else (bif Nat.blt M 64 then (PX8_open pc) else (bif Nat.blt M 65 then (PX8_begin pc) else (PX8_hold pc)))))))) else (bif Nat.blt M 99 then (bif Nat.blt M 82 then (bif Nat.blt M 74 then (bif Nat.blt M 70 then (bif Nat.blt M 68 then (bif Nat.blt M 67 then (PX8_show pc) else (PX8_sway pc)) else (bif Nat.blt M 69 then (PX8_tellSheet pc) else (PX8_tellTalker pc))) else (bif Nat.blt M 72 then (bif Nat.blt M 71 then (PX8_stopsIt pc) else (PX8_stoppers pc)) else (bif Nat.blt M 73 then (PX8_noteVotes pc) else (PX8_otherwise pc)))) else (bif Nat.blt M 78 then (bif Nat.blt M 76 then (bif Nat.blt M 75 then (PX8_fewestMore pc) else (PX8_seek pc)) else (bif Nat.blt M 77 then (PX8_isEarlier pc) else (PX8_stoppedWorlds pc))) else (bif Nat.blt M 80 then (bif Nat.blt M 79 then (PX9_init pc) else (PX10_init pc)) else (bif Nat.blt M 81 then (PX10_bad pc) else (PX10_inAll pc))))) else (bif Nat.blt M 90 then (bif Nat.blt M 86 then (bif Nat.blt M 84 then (bif Nat.blt M 83 then (PX10_notAbove pc) else (PX10_setValues pc)) else (bif Nat.blt M 85 then (PX10_countWays pc) else (PX10_addChoice pc))) else (bif Nat.blt M 88 then (bif Nat.blt M 87 then (PX11_init pc) else (PX11_flight pc)) else (bif Nat.blt M 89 then (PX11_ring pc) else (PX11_of pc)))) else (bif Nat.blt M 94 then (bif Nat.blt M 92 then (bif Nat.blt M 91 then (PX11_terms pc) else (PX11_feed pc)) else (bif Nat.blt M 93 then (PX11_end pc) else (PX11_row pc))) else (bif Nat.blt M 96 then (bif Nat.blt M 95 then (PX11_text pc) else (PX11_fault pc)) else (bif Nat.blt M 97 then (PX11_odds pc) else (bif Nat.blt M 98 then (PX11_times pc) else (PX11_likely pc))))))) else (bif Nat.blt M 116 then (bif Nat.blt M 107 then (bif Nat.blt M 103 then (bif Nat.blt M 101 then (bif Nat.blt M 100 then (PX11_cold pc) else (PX11_says pc)) else (bif Nat.blt M 102 then (PX11_point pc) else (PX11_tenths pc))) else (bif Nat.blt M 105 then (bif Nat.blt M 104 then (PX11_late pc) else (PX11_beyond pc)) else (bif Nat.blt M 106 then (PX11_held pc) else (PX11_line pc)))) else (bif Nat.blt M 111 then (bif Nat.blt M 109 then (bif Nat.blt M 108 then (PX11_slip pc) else (PX11_picture pc)) else (bif Nat.blt M 110 then (PX11_seen pc) else (PX11_best pc))) else (bif Nat.blt M 113 then (bif Nat.blt M 112 then (PX11_talker pc) else (PX11_sheet pc)) else (bif Nat.blt M 114 then (PX11_send pc) else (bif Nat.blt M 115 then (PX11_talk pc) else (PX11_talked pc)))))) else (bif Nat.blt M 124 then (bif Nat.blt M 120 then (bif Nat.blt M 118 then (bif Nat.blt M 117 then (PX11_least pc) else (PX11_more pc)) else (bif Nat.blt M 119 then (PX11_parts pc) else (PX11_ask pc))) else (bif Nat.blt M 122 then (bif Nat.blt M 121 then (PX11_worlds pc) else (PX11_image pc)) else (bif Nat.blt M 123 then (PX11_back pc) else (PX11_count pc)))) else (bif Nat.blt M 128 then (bif Nat.blt M 126 then (bif Nat.blt M 125 then (PX11_status pc) else (PX11_within pc)) else (bif Nat.blt M 127 then (PX11_isFlag pc) else (PX11_flag pc))) else (bif Nat.blt M 130 then (bif Nat.blt M 129 then (PX11_nearest pc) else (PX11_isWarmth pc)) else (bif Nat.blt M 131 then (PX11_isHull pc) else (bif Nat.blt M 132 then (PX11_leastOfTerm pc) else (PX11_mostOfTerm pc))))))))) else (bif Nat.blt M 200 then (bif Nat.blt M 166 then (bif Nat.blt M 149 then (bif Nat.blt M 141 then (bif Nat.blt M 137 then (bif Nat.blt M 135 then (bif Nat.blt M 134 then (PX11_refuse pc) else (PX11_refusalPlace pc)) else (bif Nat.blt M 136 then (PX11_granted pc) else (PX11_opensTalk pc))) else (bif Nat.blt M 139 then (bif Nat.blt M 138 then (PX11_oddsBy pc) else (PX11_multiplyChances pc)) else (bif Nat.blt M 140 then (PX11_timesAsGreat pc) else (PX11_commonDivisor pc)))) else (bif Nat.blt M 145 then (bif Nat.blt M 143 then (bif Nat.blt M 142 then (PX11_farOff pc) else (PX11_heldFlights pc)) else (bif Nat.blt M 144 then (PX12_in pc) else (PX12_refuses pc))) else (bif Nat.blt M 147 then (bif Nat.blt M 146 then (PX12_good pc) else (PX12_init pc)) else (bif Nat.blt M 148 then (PX12_image pc) else (PX12_back pc))))) else (bif Nat.blt M 157 then (bif Nat.blt M 153 then (bif Nat.blt M 151 then (bif Nat.blt M 150 then (PX12_term pc) else (PX12_isText pc)) else (bif Nat.blt M 152 then (PX12_isWarmth pc) else (PX12_isWhich pc))) else (bif Nat.blt M 155 then (bif Nat.blt M 154 then (PX12_flights pc) else (PX12_isFlight pc)) else (bif Nat.blt M 156 then (PX12_flightOf pc) else (PX12_scorchOf pc)))) else (bif Nat.blt M 161 then (bif Nat.blt M 159 then (bif Nat.blt M 158 then (PX12_worstOf pc) else (PX12_isKnown pc)) else (bif Nat.blt M 160 then (PX12_isScorched pc) else (PX12_isOf pc))) else (bif Nat.blt M 163 then (bif Nat.blt M 162 then (PX12_isBad pc) else (PX12_flies pc)) else (bif Nat.blt M 164 then (PX12_flight pc) else (bif Nat.blt M 165 then (PX12_ring pc) else (PX12_of pc))))))) else (bif Nat.blt M 183 then (bif Nat.blt M 174 then (bif Nat.blt M 170 then (bif Nat.blt M 168 then (bif Nat.blt M 167 then (PX12_terms pc) else (PX12_row pc)) else (bif Nat.blt M 169 then (PX12_feed pc) else (PX12_end pc))) else (bif Nat.blt M 172 then (bif Nat.blt M 171 then (PX12_isSmall pc) else (PX12_isDigit pc)) else (bif Nat.blt M 173 then (PX12_wordOf pc) else (PX12_splits pc)))) else (bif Nat.blt M 178 then (bif Nat.blt M 176 then (bif Nat.blt M 175 then (PX12_fine pc) else (PX12_faults pc)) else (bif Nat.blt M 177 then (PX12_takes pc) else (PX12_must pc))) else (bif Nat.blt M 180 then (bif Nat.blt M 179 then (PX12_leaf pc) else (PX12_sign pc)) else (bif Nat.blt M 181 then (PX12_readClause pc) else (bif Nat.blt M 182 then (PX12_readTest pc) else (PX12_readBoth pc)))))) else (bif Nat.blt M 191 then (bif Nat.blt M 187 then (bif Nat.blt M 185 then (bif Nat.blt M 184 then (PX12_readPlain pc) else (PX12_readSum pc)) else (bif Nat.blt M 186 then (PX12_readTerm pc) else (PX12_readPart pc))) else (bif Nat.blt M 189 then (bif Nat.blt M 188 then (PX12_reads pc) else (PX12_text pc)) else (bif Nat.blt M 190 then (PX12_fault pc) else (PX12_codeAt pc)))) else (bif Nat.blt M 195 then (bif Nat.blt M 193 then (bif Nat.blt M 192 then (PX12_passes pc) else (PX12_bounded pc)) else (bif Nat.blt M 194 then (PX12_sumOf pc) else (PX12_termOf pc))) else (bif Nat.blt M 197 then (bif Nat.blt M 196 then (PX12_partOf pc) else (PX12_testOf pc)) else (bif Nat.blt M 198 then (PX12_bothOf pc) else (bif Nat.blt M 199 then (PX12_plainOf pc) else (PX12_positiveOf pc)))))))) else (bif Nat.blt M 233 then (bif Nat.blt M 216 then (bif Nat.blt M 208 then (bif Nat.blt M 204 then (bif Nat.blt M 202 then (bif Nat.blt M 201 then (PX12_asks pc) else (PX12_asksFlight pc)) else (bif Nat.blt M 203 then (PX12_within pc) else (PX12_oddsOf pc))) else (bif Nat.blt M 206 then (bif Nat.blt M 205 then (PX12_odds pc) else (PX12_grows pc)) else (bif Nat.blt M 207 then (PX12_order pc) else (PX12_product pc)))) else (bif Nat.blt M 212 then (bif Nat.blt M 210 then (bif Nat.blt M 209 then (PX12_times pc) else (PX12_timesOf pc)) else (bif Nat.blt M 211 then (PX12_likely pc) else (PX12_cold pc))) else (bif Nat.blt M 214 then (bif Nat.blt M 213 then (PX12_says pc) else (PX12_points pc)) else (bif Nat.blt M 215 then (PX12_pointOf pc) else (PX12_point pc))))) else (bif Nat.blt M 224 then (bif Nat.blt M 220 then (bif Nat.blt M 218 then (bif Nat.blt M 217 then (PX12_nextTo pc) else (PX12_tenthsOf pc)) else (bif Nat.blt M 219 then (PX12_tenths pc) else (PX12_late pc))) else (bif Nat.blt M 222 then (bif Nat.blt M 221 then (PX12_off pc) else (PX12_beyond pc)) else (bif Nat.blt M 223 then (PX12_held pc) else (PX12_lineOf pc)))) else (bif Nat.blt M 228 then (bif Nat.blt M 226 then (bif Nat.blt M 225 then (PX12_line pc) else (PX12_slip pc)) else (bif Nat.blt M 227 then (PX12_paints pc) else (PX12_picture pc))) else (bif Nat.blt M 230 then (bif Nat.blt M 229 then (PX12_changesOf pc) else (PX12_takenOut pc)) else (bif Nat.blt M 231 then (PX12_seen pc) else (bif Nat.blt M 232 then (PX12_best pc) else (PX12_talkers pc))))))) else (bif Nat.blt M 250 then (bif Nat.blt M 241 then (bif Nat.blt M 237 then (bif Nat.blt M 235 then (bif Nat.blt M 234 then (PX12_sheets pc) else (PX12_talkerOf pc)) else (bif Nat.blt M 236 then (PX12_sheetOf pc) else (PX12_isTalker pc))) else (bif Nat.blt M 239 then (bif Nat.blt M 238 then (PX12_isSheet pc) else (PX12_talker pc)) else (bif Nat.blt M 240 then (PX12_sheet pc) else (PX12_send pc)))) else (bif Nat.blt M 245 then (bif Nat.blt M 243 then (bif Nat.blt M 242 then (PX12_sentSet pc) else (PX12_draws pc)) else (bif Nat.blt M 244 then (PX12_asksTalker pc) else (PX12_shows pc))) else (bif Nat.blt M 247 then (bif Nat.blt M 246 then (PX12_after pc) else (PX12_talks pc)) else (bif Nat.blt M 248 then (PX12_isStopped pc) else (bif Nat.blt M 249 then (PX12_talk pc) else (PX12_talked pc)))))) else (bif Nat.blt M 258 then (bif Nat.blt M 254 then (bif Nat.blt M 252 then (bif Nat.blt M 251 then (PX12_ones pc) else (PX12_leastSet pc)) else (bif Nat.blt M 253 then (PX12_least pc) else (PX12_more pc))) else (bif Nat.blt M 256 then (bif Nat.blt M 255 then (PX12_partsOf pc) else (PX12_isOpen pc)) else (bif Nat.blt M 257 then (PX12_parts pc) else (PX12_ask pc)))) else (bif Nat.blt M 262 then (bif Nat.blt M 260 then (bif Nat.blt M 259 then (PX12_worlds pc) else (PX12_count pc)) else (bif Nat.blt M 261 then (PX12_status pc) else (PJ6_bitCount_0f7a4 pc))) else (bif Nat.blt M 264 then (bif Nat.blt M 263 then (PJ7_rangeCheck_23922 pc) else (PJ7_fill_53178 pc)) else (bif Nat.blt M 265 then (PJ7_fill_fda19 pc) else (bif Nat.blt M 266 then (PJ7_copyOf_59c91 pc) else (PL_law pc))))))))))
def prg (M pc : Nat) : Option En := bif Nat.blt M 267 then (bif Nat.blt pc (cl M) then prg0 M pc else none) else none
theorem prg0_ok (M pc : Nat) (hM : M < 267) (h : pc < cl M) : okO (prg0 M pc) (bM M) (oM M) (wM M) pc = true := by
  rcases Nat.lt_or_ge M 133 with q | q
  · rcases Nat.lt_or_ge M 66 with q | q
    · rcases Nat.lt_or_ge M 33 with q | q
      · rcases Nat.lt_or_ge M 16 with q | q
        · rcases Nat.lt_or_ge M 8 with q | q
          · rcases Nat.lt_or_ge M 4 with q | q
            · rcases Nat.lt_or_ge M 2 with q | q
              · rcases Nat.lt_or_ge M 1 with q | q
                · obtain rfl : M = 0 := by omega
                  exact PX0_init_ok pc h
                · obtain rfl : M = 1 := by omega
                  exact PX0_clear_ok pc h
              · rcases Nat.lt_or_ge M 3 with q | q
                · obtain rfl : M = 2 := by omega
                  exact PX0_holds_ok pc h
                · obtain rfl : M = 3 := by omega
                  exact PX0_isSound_ok pc h
            · rcases Nat.lt_or_ge M 6 with q | q
              · rcases Nat.lt_or_ge M 5 with q | q
                · obtain rfl : M = 4 := by omega
                  exact PX0_reckon_ok pc h
                · obtain rfl : M = 5 := by omega
                  exact PX1_init_ok pc h
              · rcases Nat.lt_or_ge M 7 with q | q
                · obtain rfl : M = 6 := by omega
                  exact PX1_copyFrom_ok pc h
                · obtain rfl : M = 7 := by omega
                  exact PX1_put_ok pc h
          · rcases Nat.lt_or_ge M 12 with q | q
            · rcases Nat.lt_or_ge M 10 with q | q
              · rcases Nat.lt_or_ge M 9 with q | q
                · obtain rfl : M = 8 := by omega
                  exact PX1_tellsSpan_ok pc h
                · obtain rfl : M = 9 := by omega
                  exact PX2_init_ok pc h
              · rcases Nat.lt_or_ge M 11 with q | q
                · obtain rfl : M = 10 := by omega
                  exact PX2_copyFrom_ok pc h
                · obtain rfl : M = 11 := by omega
                  exact PX2_has_ok pc h
            · rcases Nat.lt_or_ge M 14 with q | q
              · rcases Nat.lt_or_ge M 13 with q | q
                · obtain rfl : M = 12 := by omega
                  exact PX2_add_ok pc h
                · obtain rfl : M = 13 := by omega
                  exact PX2_worst_ok pc h
              · rcases Nat.lt_or_ge M 15 with q | q
                · obtain rfl : M = 14 := by omega
                  exact PX2_isKnown_ok pc h
                · obtain rfl : M = 15 := by omega
                  exact PX2_isScorched_ok pc h
        · rcases Nat.lt_or_ge M 24 with q | q
          · rcases Nat.lt_or_ge M 20 with q | q
            · rcases Nat.lt_or_ge M 18 with q | q
              · rcases Nat.lt_or_ge M 17 with q | q
                · obtain rfl : M = 16 := by omega
                  exact PX2_isOf_ok pc h
                · obtain rfl : M = 17 := by omega
                  exact PX2_isBad_ok pc h
              · rcases Nat.lt_or_ge M 19 with q | q
                · obtain rfl : M = 18 := by omega
                  exact PX2_howMany_ok pc h
                · obtain rfl : M = 19 := by omega
                  exact PX2_lineBehind_ok pc h
            · rcases Nat.lt_or_ge M 22 with q | q
              · rcases Nat.lt_or_ge M 21 with q | q
                · obtain rfl : M = 20 := by omega
                  exact PX3_init_ok pc h
                · obtain rfl : M = 21 := by omega
                  exact PX3_copyFrom_ok pc h
              · rcases Nat.lt_or_ge M 23 with q | q
                · obtain rfl : M = 22 := by omega
                  exact PX3_seat_ok pc h
                · obtain rfl : M = 23 := by omega
                  exact PX3_file_ok pc h
          · rcases Nat.lt_or_ge M 28 with q | q
            · rcases Nat.lt_or_ge M 26 with q | q
              · rcases Nat.lt_or_ge M 25 with q | q
                · obtain rfl : M = 24 := by omega
                  exact PX3_takeTurn_ok pc h
                · obtain rfl : M = 25 := by omega
                  exact PX3_hasSheet_ok pc h
              · rcases Nat.lt_or_ge M 27 with q | q
                · obtain rfl : M = 26 := by omega
                  exact PX3_isShownTo_ok pc h
                · obtain rfl : M = 27 := by omega
                  exact PX3_unsent_ok pc h
            · rcases Nat.lt_or_ge M 30 with q | q
              · rcases Nat.lt_or_ge M 29 with q | q
                · obtain rfl : M = 28 := by omega
                  exact PX4_init_ok pc h
                · obtain rfl : M = 29 := by omega
                  exact PX4_setOne_ok pc h
              · rcases Nat.lt_or_ge M 31 with q | q
                · obtain rfl : M = 30 := by omega
                  exact PX4_setProduct_ok pc h
                · rcases Nat.lt_or_ge M 32 with q | q
                  · obtain rfl : M = 31 := by omega
                    exact PX4_compareWith_ok pc h
                  · obtain rfl : M = 32 := by omega
                    exact PX5_init_ok pc h
      · rcases Nat.lt_or_ge M 49 with q | q
        · rcases Nat.lt_or_ge M 41 with q | q
          · rcases Nat.lt_or_ge M 37 with q | q
            · rcases Nat.lt_or_ge M 35 with q | q
              · rcases Nat.lt_or_ge M 34 with q | q
                · obtain rfl : M = 33 := by omega
                  exact PX5_draw_ok pc h
                · obtain rfl : M = 34 := by omega
                  exact PX5_insert_ok pc h
              · rcases Nat.lt_or_ge M 36 with q | q
                · obtain rfl : M = 35 := by omega
                  exact PX5_changes_ok pc h
                · obtain rfl : M = 36 := by omega
                  exact PX5_takenOut_ok pc h
            · rcases Nat.lt_or_ge M 39 with q | q
              · rcases Nat.lt_or_ge M 38 with q | q
                · obtain rfl : M = 37 := by omega
                  exact PX6_init_ok pc h
                · obtain rfl : M = 38 := by omega
                  exact PX6_takes_ok pc h
              · rcases Nat.lt_or_ge M 40 with q | q
                · obtain rfl : M = 39 := by omega
                  exact PX6_append_ok pc h
                · obtain rfl : M = 40 := by omega
                  exact PX6_shortAt_ok pc h
          · rcases Nat.lt_or_ge M 45 with q | q
            · rcases Nat.lt_or_ge M 43 with q | q
              · rcases Nat.lt_or_ge M 42 with q | q
                · obtain rfl : M = 41 := by omega
                  exact PX6_read_ok pc h
                · obtain rfl : M = 42 := by omega
                  exact PX6_isSign_ok pc h
              · rcases Nat.lt_or_ge M 44 with q | q
                · obtain rfl : M = 43 := by omega
                  exact PX6_advance_ok pc h
                · obtain rfl : M = 44 := by omega
                  exact PX6_isLetter_ok pc h
            · rcases Nat.lt_or_ge M 47 with q | q
              · rcases Nat.lt_or_ge M 46 with q | q
                · obtain rfl : M = 45 := by omega
                  exact PX6_isDigit_ok pc h
                · obtain rfl : M = 46 := by omega
                  exact PX6_kindOfName_ok pc h
              · rcases Nat.lt_or_ge M 48 with q | q
                · obtain rfl : M = 47 := by omega
                  exact PX6_emit_ok pc h
                · obtain rfl : M = 48 := by omega
                  exact PX6_skipToHere_ok pc h
        · rcases Nat.lt_or_ge M 57 with q | q
          · rcases Nat.lt_or_ge M 53 with q | q
            · rcases Nat.lt_or_ge M 51 with q | q
              · rcases Nat.lt_or_ge M 50 with q | q
                · obtain rfl : M = 49 := by omega
                  exact PX6_readClause_ok pc h
                · obtain rfl : M = 50 := by omega
                  exact PX6_readTest_ok pc h
              · rcases Nat.lt_or_ge M 52 with q | q
                · obtain rfl : M = 51 := by omega
                  exact PX6_readPlain_ok pc h
                · obtain rfl : M = 52 := by omega
                  exact PX6_readBracket_ok pc h
            · rcases Nat.lt_or_ge M 55 with q | q
              · rcases Nat.lt_or_ge M 54 with q | q
                · obtain rfl : M = 53 := by omega
                  exact PX6_readComparison_ok pc h
                · obtain rfl : M = 54 := by omega
                  exact PX6_readSum_ok pc h
              · rcases Nat.lt_or_ge M 56 with q | q
                · obtain rfl : M = 55 := by omega
                  exact PX6_emitIfAny_ok pc h
                · obtain rfl : M = 56 := by omega
                  exact PX6_operator_ok pc h
          · rcases Nat.lt_or_ge M 61 with q | q
            · rcases Nat.lt_or_ge M 59 with q | q
              · rcases Nat.lt_or_ge M 58 with q | q
                · obtain rfl : M = 57 := by omega
                  exact PX6_readPart_ok pc h
                · obtain rfl : M = 58 := by omega
                  exact PX7_init_ok pc h
              · rcases Nat.lt_or_ge M 60 with q | q
                · obtain rfl : M = 59 := by omega
                  exact PX7_copyFrom_ok pc h
                · obtain rfl : M = 60 := by omega
                  exact PX7_lawAt_ok pc h
            · rcases Nat.lt_or_ge M 63 with q | q
              · rcases Nat.lt_or_ge M 62 with q | q
                · obtain rfl : M = 61 := by omega
                  exact PX8_init_ok pc h
                · obtain rfl : M = 62 := by omega
                  exact PX8_forget_ok pc h
              · rcases Nat.lt_or_ge M 64 with q | q
                · obtain rfl : M = 63 := by omega
                  exact PX8_open_ok pc h
                · rcases Nat.lt_or_ge M 65 with q | q
                  · obtain rfl : M = 64 := by omega
                    exact PX8_begin_ok pc h
                  · obtain rfl : M = 65 := by omega
                    exact PX8_hold_ok pc h
    · rcases Nat.lt_or_ge M 99 with q | q
      · rcases Nat.lt_or_ge M 82 with q | q
        · rcases Nat.lt_or_ge M 74 with q | q
          · rcases Nat.lt_or_ge M 70 with q | q
            · rcases Nat.lt_or_ge M 68 with q | q
              · rcases Nat.lt_or_ge M 67 with q | q
                · obtain rfl : M = 66 := by omega
                  exact PX8_show_ok pc h
                · obtain rfl : M = 67 := by omega
                  exact PX8_sway_ok pc h
              · rcases Nat.lt_or_ge M 69 with q | q
                · obtain rfl : M = 68 := by omega
                  exact PX8_tellSheet_ok pc h
                · obtain rfl : M = 69 := by omega
                  exact PX8_tellTalker_ok pc h
            · rcases Nat.lt_or_ge M 72 with q | q
              · rcases Nat.lt_or_ge M 71 with q | q
                · obtain rfl : M = 70 := by omega
                  exact PX8_stopsIt_ok pc h
                · obtain rfl : M = 71 := by omega
                  exact PX8_stoppers_ok pc h
              · rcases Nat.lt_or_ge M 73 with q | q
                · obtain rfl : M = 72 := by omega
                  exact PX8_noteVotes_ok pc h
                · obtain rfl : M = 73 := by omega
                  exact PX8_otherwise_ok pc h
          · rcases Nat.lt_or_ge M 78 with q | q
            · rcases Nat.lt_or_ge M 76 with q | q
              · rcases Nat.lt_or_ge M 75 with q | q
                · obtain rfl : M = 74 := by omega
                  exact PX8_fewestMore_ok pc h
                · obtain rfl : M = 75 := by omega
                  exact PX8_seek_ok pc h
              · rcases Nat.lt_or_ge M 77 with q | q
                · obtain rfl : M = 76 := by omega
                  exact PX8_isEarlier_ok pc h
                · obtain rfl : M = 77 := by omega
                  exact PX8_stoppedWorlds_ok pc h
            · rcases Nat.lt_or_ge M 80 with q | q
              · rcases Nat.lt_or_ge M 79 with q | q
                · obtain rfl : M = 78 := by omega
                  exact PX9_init_ok pc h
                · obtain rfl : M = 79 := by omega
                  exact PX10_init_ok pc h
              · rcases Nat.lt_or_ge M 81 with q | q
                · obtain rfl : M = 80 := by omega
                  exact PX10_bad_ok pc h
                · obtain rfl : M = 81 := by omega
                  exact PX10_inAll_ok pc h
        · rcases Nat.lt_or_ge M 90 with q | q
          · rcases Nat.lt_or_ge M 86 with q | q
            · rcases Nat.lt_or_ge M 84 with q | q
              · rcases Nat.lt_or_ge M 83 with q | q
                · obtain rfl : M = 82 := by omega
                  exact PX10_notAbove_ok pc h
                · obtain rfl : M = 83 := by omega
                  exact PX10_setValues_ok pc h
              · rcases Nat.lt_or_ge M 85 with q | q
                · obtain rfl : M = 84 := by omega
                  exact PX10_countWays_ok pc h
                · obtain rfl : M = 85 := by omega
                  exact PX10_addChoice_ok pc h
            · rcases Nat.lt_or_ge M 88 with q | q
              · rcases Nat.lt_or_ge M 87 with q | q
                · obtain rfl : M = 86 := by omega
                  exact PX11_init_ok pc h
                · obtain rfl : M = 87 := by omega
                  exact PX11_flight_ok pc h
              · rcases Nat.lt_or_ge M 89 with q | q
                · obtain rfl : M = 88 := by omega
                  exact PX11_ring_ok pc h
                · obtain rfl : M = 89 := by omega
                  exact PX11_of_ok pc h
          · rcases Nat.lt_or_ge M 94 with q | q
            · rcases Nat.lt_or_ge M 92 with q | q
              · rcases Nat.lt_or_ge M 91 with q | q
                · obtain rfl : M = 90 := by omega
                  exact PX11_terms_ok pc h
                · obtain rfl : M = 91 := by omega
                  exact PX11_feed_ok pc h
              · rcases Nat.lt_or_ge M 93 with q | q
                · obtain rfl : M = 92 := by omega
                  exact PX11_end_ok pc h
                · obtain rfl : M = 93 := by omega
                  exact PX11_row_ok pc h
            · rcases Nat.lt_or_ge M 96 with q | q
              · rcases Nat.lt_or_ge M 95 with q | q
                · obtain rfl : M = 94 := by omega
                  exact PX11_text_ok pc h
                · obtain rfl : M = 95 := by omega
                  exact PX11_fault_ok pc h
              · rcases Nat.lt_or_ge M 97 with q | q
                · obtain rfl : M = 96 := by omega
                  exact PX11_odds_ok pc h
                · rcases Nat.lt_or_ge M 98 with q | q
                  · obtain rfl : M = 97 := by omega
                    exact PX11_times_ok pc h
                  · obtain rfl : M = 98 := by omega
                    exact PX11_likely_ok pc h
      · rcases Nat.lt_or_ge M 116 with q | q
        · rcases Nat.lt_or_ge M 107 with q | q
          · rcases Nat.lt_or_ge M 103 with q | q
            · rcases Nat.lt_or_ge M 101 with q | q
              · rcases Nat.lt_or_ge M 100 with q | q
                · obtain rfl : M = 99 := by omega
                  exact PX11_cold_ok pc h
                · obtain rfl : M = 100 := by omega
                  exact PX11_says_ok pc h
              · rcases Nat.lt_or_ge M 102 with q | q
                · obtain rfl : M = 101 := by omega
                  exact PX11_point_ok pc h
                · obtain rfl : M = 102 := by omega
                  exact PX11_tenths_ok pc h
            · rcases Nat.lt_or_ge M 105 with q | q
              · rcases Nat.lt_or_ge M 104 with q | q
                · obtain rfl : M = 103 := by omega
                  exact PX11_late_ok pc h
                · obtain rfl : M = 104 := by omega
                  exact PX11_beyond_ok pc h
              · rcases Nat.lt_or_ge M 106 with q | q
                · obtain rfl : M = 105 := by omega
                  exact PX11_held_ok pc h
                · obtain rfl : M = 106 := by omega
                  exact PX11_line_ok pc h
          · rcases Nat.lt_or_ge M 111 with q | q
            · rcases Nat.lt_or_ge M 109 with q | q
              · rcases Nat.lt_or_ge M 108 with q | q
                · obtain rfl : M = 107 := by omega
                  exact PX11_slip_ok pc h
                · obtain rfl : M = 108 := by omega
                  exact PX11_picture_ok pc h
              · rcases Nat.lt_or_ge M 110 with q | q
                · obtain rfl : M = 109 := by omega
                  exact PX11_seen_ok pc h
                · obtain rfl : M = 110 := by omega
                  exact PX11_best_ok pc h
            · rcases Nat.lt_or_ge M 113 with q | q
              · rcases Nat.lt_or_ge M 112 with q | q
                · obtain rfl : M = 111 := by omega
                  exact PX11_talker_ok pc h
                · obtain rfl : M = 112 := by omega
                  exact PX11_sheet_ok pc h
              · rcases Nat.lt_or_ge M 114 with q | q
                · obtain rfl : M = 113 := by omega
                  exact PX11_send_ok pc h
                · rcases Nat.lt_or_ge M 115 with q | q
                  · obtain rfl : M = 114 := by omega
                    exact PX11_talk_ok pc h
                  · obtain rfl : M = 115 := by omega
                    exact PX11_talked_ok pc h
        · rcases Nat.lt_or_ge M 124 with q | q
          · rcases Nat.lt_or_ge M 120 with q | q
            · rcases Nat.lt_or_ge M 118 with q | q
              · rcases Nat.lt_or_ge M 117 with q | q
                · obtain rfl : M = 116 := by omega
                  exact PX11_least_ok pc h
                · obtain rfl : M = 117 := by omega
                  exact PX11_more_ok pc h
              · rcases Nat.lt_or_ge M 119 with q | q
                · obtain rfl : M = 118 := by omega
                  exact PX11_parts_ok pc h
                · obtain rfl : M = 119 := by omega
                  exact PX11_ask_ok pc h
            · rcases Nat.lt_or_ge M 122 with q | q
              · rcases Nat.lt_or_ge M 121 with q | q
                · obtain rfl : M = 120 := by omega
                  exact PX11_worlds_ok pc h
                · obtain rfl : M = 121 := by omega
                  exact PX11_image_ok pc h
              · rcases Nat.lt_or_ge M 123 with q | q
                · obtain rfl : M = 122 := by omega
                  exact PX11_back_ok pc h
                · obtain rfl : M = 123 := by omega
                  exact PX11_count_ok pc h
          · rcases Nat.lt_or_ge M 128 with q | q
            · rcases Nat.lt_or_ge M 126 with q | q
              · rcases Nat.lt_or_ge M 125 with q | q
                · obtain rfl : M = 124 := by omega
                  exact PX11_status_ok pc h
                · obtain rfl : M = 125 := by omega
                  exact PX11_within_ok pc h
              · rcases Nat.lt_or_ge M 127 with q | q
                · obtain rfl : M = 126 := by omega
                  exact PX11_isFlag_ok pc h
                · obtain rfl : M = 127 := by omega
                  exact PX11_flag_ok pc h
            · rcases Nat.lt_or_ge M 130 with q | q
              · rcases Nat.lt_or_ge M 129 with q | q
                · obtain rfl : M = 128 := by omega
                  exact PX11_nearest_ok pc h
                · obtain rfl : M = 129 := by omega
                  exact PX11_isWarmth_ok pc h
              · rcases Nat.lt_or_ge M 131 with q | q
                · obtain rfl : M = 130 := by omega
                  exact PX11_isHull_ok pc h
                · rcases Nat.lt_or_ge M 132 with q | q
                  · obtain rfl : M = 131 := by omega
                    exact PX11_leastOfTerm_ok pc h
                  · obtain rfl : M = 132 := by omega
                    exact PX11_mostOfTerm_ok pc h
  · rcases Nat.lt_or_ge M 200 with q | q
    · rcases Nat.lt_or_ge M 166 with q | q
      · rcases Nat.lt_or_ge M 149 with q | q
        · rcases Nat.lt_or_ge M 141 with q | q
          · rcases Nat.lt_or_ge M 137 with q | q
            · rcases Nat.lt_or_ge M 135 with q | q
              · rcases Nat.lt_or_ge M 134 with q | q
                · obtain rfl : M = 133 := by omega
                  exact PX11_refuse_ok pc h
                · obtain rfl : M = 134 := by omega
                  exact PX11_refusalPlace_ok pc h
              · rcases Nat.lt_or_ge M 136 with q | q
                · obtain rfl : M = 135 := by omega
                  exact PX11_granted_ok pc h
                · obtain rfl : M = 136 := by omega
                  exact PX11_opensTalk_ok pc h
            · rcases Nat.lt_or_ge M 139 with q | q
              · rcases Nat.lt_or_ge M 138 with q | q
                · obtain rfl : M = 137 := by omega
                  exact PX11_oddsBy_ok pc h
                · obtain rfl : M = 138 := by omega
                  exact PX11_multiplyChances_ok pc h
              · rcases Nat.lt_or_ge M 140 with q | q
                · obtain rfl : M = 139 := by omega
                  exact PX11_timesAsGreat_ok pc h
                · obtain rfl : M = 140 := by omega
                  exact PX11_commonDivisor_ok pc h
          · rcases Nat.lt_or_ge M 145 with q | q
            · rcases Nat.lt_or_ge M 143 with q | q
              · rcases Nat.lt_or_ge M 142 with q | q
                · obtain rfl : M = 141 := by omega
                  exact PX11_farOff_ok pc h
                · obtain rfl : M = 142 := by omega
                  exact PX11_heldFlights_ok pc h
              · rcases Nat.lt_or_ge M 144 with q | q
                · obtain rfl : M = 143 := by omega
                  exact PX12_in_ok pc h
                · obtain rfl : M = 144 := by omega
                  exact PX12_refuses_ok pc h
            · rcases Nat.lt_or_ge M 147 with q | q
              · rcases Nat.lt_or_ge M 146 with q | q
                · obtain rfl : M = 145 := by omega
                  exact PX12_good_ok pc h
                · obtain rfl : M = 146 := by omega
                  exact PX12_init_ok pc h
              · rcases Nat.lt_or_ge M 148 with q | q
                · obtain rfl : M = 147 := by omega
                  exact PX12_image_ok pc h
                · obtain rfl : M = 148 := by omega
                  exact PX12_back_ok pc h
        · rcases Nat.lt_or_ge M 157 with q | q
          · rcases Nat.lt_or_ge M 153 with q | q
            · rcases Nat.lt_or_ge M 151 with q | q
              · rcases Nat.lt_or_ge M 150 with q | q
                · obtain rfl : M = 149 := by omega
                  exact PX12_term_ok pc h
                · obtain rfl : M = 150 := by omega
                  exact PX12_isText_ok pc h
              · rcases Nat.lt_or_ge M 152 with q | q
                · obtain rfl : M = 151 := by omega
                  exact PX12_isWarmth_ok pc h
                · obtain rfl : M = 152 := by omega
                  exact PX12_isWhich_ok pc h
            · rcases Nat.lt_or_ge M 155 with q | q
              · rcases Nat.lt_or_ge M 154 with q | q
                · obtain rfl : M = 153 := by omega
                  exact PX12_flights_ok pc h
                · obtain rfl : M = 154 := by omega
                  exact PX12_isFlight_ok pc h
              · rcases Nat.lt_or_ge M 156 with q | q
                · obtain rfl : M = 155 := by omega
                  exact PX12_flightOf_ok pc h
                · obtain rfl : M = 156 := by omega
                  exact PX12_scorchOf_ok pc h
          · rcases Nat.lt_or_ge M 161 with q | q
            · rcases Nat.lt_or_ge M 159 with q | q
              · rcases Nat.lt_or_ge M 158 with q | q
                · obtain rfl : M = 157 := by omega
                  exact PX12_worstOf_ok pc h
                · obtain rfl : M = 158 := by omega
                  exact PX12_isKnown_ok pc h
              · rcases Nat.lt_or_ge M 160 with q | q
                · obtain rfl : M = 159 := by omega
                  exact PX12_isScorched_ok pc h
                · obtain rfl : M = 160 := by omega
                  exact PX12_isOf_ok pc h
            · rcases Nat.lt_or_ge M 163 with q | q
              · rcases Nat.lt_or_ge M 162 with q | q
                · obtain rfl : M = 161 := by omega
                  exact PX12_isBad_ok pc h
                · obtain rfl : M = 162 := by omega
                  exact PX12_flies_ok pc h
              · rcases Nat.lt_or_ge M 164 with q | q
                · obtain rfl : M = 163 := by omega
                  exact PX12_flight_ok pc h
                · rcases Nat.lt_or_ge M 165 with q | q
                  · obtain rfl : M = 164 := by omega
                    exact PX12_ring_ok pc h
                  · obtain rfl : M = 165 := by omega
                    exact PX12_of_ok pc h
      · rcases Nat.lt_or_ge M 183 with q | q
        · rcases Nat.lt_or_ge M 174 with q | q
          · rcases Nat.lt_or_ge M 170 with q | q
            · rcases Nat.lt_or_ge M 168 with q | q
              · rcases Nat.lt_or_ge M 167 with q | q
                · obtain rfl : M = 166 := by omega
                  exact PX12_terms_ok pc h
                · obtain rfl : M = 167 := by omega
                  exact PX12_row_ok pc h
              · rcases Nat.lt_or_ge M 169 with q | q
                · obtain rfl : M = 168 := by omega
                  exact PX12_feed_ok pc h
                · obtain rfl : M = 169 := by omega
                  exact PX12_end_ok pc h
            · rcases Nat.lt_or_ge M 172 with q | q
              · rcases Nat.lt_or_ge M 171 with q | q
                · obtain rfl : M = 170 := by omega
                  exact PX12_isSmall_ok pc h
                · obtain rfl : M = 171 := by omega
                  exact PX12_isDigit_ok pc h
              · rcases Nat.lt_or_ge M 173 with q | q
                · obtain rfl : M = 172 := by omega
                  exact PX12_wordOf_ok pc h
                · obtain rfl : M = 173 := by omega
                  exact PX12_splits_ok pc h
          · rcases Nat.lt_or_ge M 178 with q | q
            · rcases Nat.lt_or_ge M 176 with q | q
              · rcases Nat.lt_or_ge M 175 with q | q
                · obtain rfl : M = 174 := by omega
                  exact PX12_fine_ok pc h
                · obtain rfl : M = 175 := by omega
                  exact PX12_faults_ok pc h
              · rcases Nat.lt_or_ge M 177 with q | q
                · obtain rfl : M = 176 := by omega
                  exact PX12_takes_ok pc h
                · obtain rfl : M = 177 := by omega
                  exact PX12_must_ok pc h
            · rcases Nat.lt_or_ge M 180 with q | q
              · rcases Nat.lt_or_ge M 179 with q | q
                · obtain rfl : M = 178 := by omega
                  exact PX12_leaf_ok pc h
                · obtain rfl : M = 179 := by omega
                  exact PX12_sign_ok pc h
              · rcases Nat.lt_or_ge M 181 with q | q
                · obtain rfl : M = 180 := by omega
                  exact PX12_readClause_ok pc h
                · rcases Nat.lt_or_ge M 182 with q | q
                  · obtain rfl : M = 181 := by omega
                    exact PX12_readTest_ok pc h
                  · obtain rfl : M = 182 := by omega
                    exact PX12_readBoth_ok pc h
        · rcases Nat.lt_or_ge M 191 with q | q
          · rcases Nat.lt_or_ge M 187 with q | q
            · rcases Nat.lt_or_ge M 185 with q | q
              · rcases Nat.lt_or_ge M 184 with q | q
                · obtain rfl : M = 183 := by omega
                  exact PX12_readPlain_ok pc h
                · obtain rfl : M = 184 := by omega
                  exact PX12_readSum_ok pc h
              · rcases Nat.lt_or_ge M 186 with q | q
                · obtain rfl : M = 185 := by omega
                  exact PX12_readTerm_ok pc h
                · obtain rfl : M = 186 := by omega
                  exact PX12_readPart_ok pc h
            · rcases Nat.lt_or_ge M 189 with q | q
              · rcases Nat.lt_or_ge M 188 with q | q
                · obtain rfl : M = 187 := by omega
                  exact PX12_reads_ok pc h
                · obtain rfl : M = 188 := by omega
                  exact PX12_text_ok pc h
              · rcases Nat.lt_or_ge M 190 with q | q
                · obtain rfl : M = 189 := by omega
                  exact PX12_fault_ok pc h
                · obtain rfl : M = 190 := by omega
                  exact PX12_codeAt_ok pc h
          · rcases Nat.lt_or_ge M 195 with q | q
            · rcases Nat.lt_or_ge M 193 with q | q
              · rcases Nat.lt_or_ge M 192 with q | q
                · obtain rfl : M = 191 := by omega
                  exact PX12_passes_ok pc h
                · obtain rfl : M = 192 := by omega
                  exact PX12_bounded_ok pc h
              · rcases Nat.lt_or_ge M 194 with q | q
                · obtain rfl : M = 193 := by omega
                  exact PX12_sumOf_ok pc h
                · obtain rfl : M = 194 := by omega
                  exact PX12_termOf_ok pc h
            · rcases Nat.lt_or_ge M 197 with q | q
              · rcases Nat.lt_or_ge M 196 with q | q
                · obtain rfl : M = 195 := by omega
                  exact PX12_partOf_ok pc h
                · obtain rfl : M = 196 := by omega
                  exact PX12_testOf_ok pc h
              · rcases Nat.lt_or_ge M 198 with q | q
                · obtain rfl : M = 197 := by omega
                  exact PX12_bothOf_ok pc h
                · rcases Nat.lt_or_ge M 199 with q | q
                  · obtain rfl : M = 198 := by omega
                    exact PX12_plainOf_ok pc h
                  · obtain rfl : M = 199 := by omega
                    exact PX12_positiveOf_ok pc h
    · rcases Nat.lt_or_ge M 233 with q | q
      · rcases Nat.lt_or_ge M 216 with q | q
        · rcases Nat.lt_or_ge M 208 with q | q
          · rcases Nat.lt_or_ge M 204 with q | q
            · rcases Nat.lt_or_ge M 202 with q | q
              · rcases Nat.lt_or_ge M 201 with q | q
                · obtain rfl : M = 200 := by omega
                  exact PX12_asks_ok pc h
                · obtain rfl : M = 201 := by omega
                  exact PX12_asksFlight_ok pc h
              · rcases Nat.lt_or_ge M 203 with q | q
                · obtain rfl : M = 202 := by omega
                  exact PX12_within_ok pc h
                · obtain rfl : M = 203 := by omega
                  exact PX12_oddsOf_ok pc h
            · rcases Nat.lt_or_ge M 206 with q | q
              · rcases Nat.lt_or_ge M 205 with q | q
                · obtain rfl : M = 204 := by omega
                  exact PX12_odds_ok pc h
                · obtain rfl : M = 205 := by omega
                  exact PX12_grows_ok pc h
              · rcases Nat.lt_or_ge M 207 with q | q
                · obtain rfl : M = 206 := by omega
                  exact PX12_order_ok pc h
                · obtain rfl : M = 207 := by omega
                  exact PX12_product_ok pc h
          · rcases Nat.lt_or_ge M 212 with q | q
            · rcases Nat.lt_or_ge M 210 with q | q
              · rcases Nat.lt_or_ge M 209 with q | q
                · obtain rfl : M = 208 := by omega
                  exact PX12_times_ok pc h
                · obtain rfl : M = 209 := by omega
                  exact PX12_timesOf_ok pc h
              · rcases Nat.lt_or_ge M 211 with q | q
                · obtain rfl : M = 210 := by omega
                  exact PX12_likely_ok pc h
                · obtain rfl : M = 211 := by omega
                  exact PX12_cold_ok pc h
            · rcases Nat.lt_or_ge M 214 with q | q
              · rcases Nat.lt_or_ge M 213 with q | q
                · obtain rfl : M = 212 := by omega
                  exact PX12_says_ok pc h
                · obtain rfl : M = 213 := by omega
                  exact PX12_points_ok pc h
              · rcases Nat.lt_or_ge M 215 with q | q
                · obtain rfl : M = 214 := by omega
                  exact PX12_pointOf_ok pc h
                · obtain rfl : M = 215 := by omega
                  exact PX12_point_ok pc h
        · rcases Nat.lt_or_ge M 224 with q | q
          · rcases Nat.lt_or_ge M 220 with q | q
            · rcases Nat.lt_or_ge M 218 with q | q
              · rcases Nat.lt_or_ge M 217 with q | q
                · obtain rfl : M = 216 := by omega
                  exact PX12_nextTo_ok pc h
                · obtain rfl : M = 217 := by omega
                  exact PX12_tenthsOf_ok pc h
              · rcases Nat.lt_or_ge M 219 with q | q
                · obtain rfl : M = 218 := by omega
                  exact PX12_tenths_ok pc h
                · obtain rfl : M = 219 := by omega
                  exact PX12_late_ok pc h
            · rcases Nat.lt_or_ge M 222 with q | q
              · rcases Nat.lt_or_ge M 221 with q | q
                · obtain rfl : M = 220 := by omega
                  exact PX12_off_ok pc h
                · obtain rfl : M = 221 := by omega
                  exact PX12_beyond_ok pc h
              · rcases Nat.lt_or_ge M 223 with q | q
                · obtain rfl : M = 222 := by omega
                  exact PX12_held_ok pc h
                · obtain rfl : M = 223 := by omega
                  exact PX12_lineOf_ok pc h
          · rcases Nat.lt_or_ge M 228 with q | q
            · rcases Nat.lt_or_ge M 226 with q | q
              · rcases Nat.lt_or_ge M 225 with q | q
                · obtain rfl : M = 224 := by omega
                  exact PX12_line_ok pc h
                · obtain rfl : M = 225 := by omega
                  exact PX12_slip_ok pc h
              · rcases Nat.lt_or_ge M 227 with q | q
                · obtain rfl : M = 226 := by omega
                  exact PX12_paints_ok pc h
                · obtain rfl : M = 227 := by omega
                  exact PX12_picture_ok pc h
            · rcases Nat.lt_or_ge M 230 with q | q
              · rcases Nat.lt_or_ge M 229 with q | q
                · obtain rfl : M = 228 := by omega
                  exact PX12_changesOf_ok pc h
                · obtain rfl : M = 229 := by omega
                  exact PX12_takenOut_ok pc h
              · rcases Nat.lt_or_ge M 231 with q | q
                · obtain rfl : M = 230 := by omega
                  exact PX12_seen_ok pc h
                · rcases Nat.lt_or_ge M 232 with q | q
                  · obtain rfl : M = 231 := by omega
                    exact PX12_best_ok pc h
                  · obtain rfl : M = 232 := by omega
                    exact PX12_talkers_ok pc h
      · rcases Nat.lt_or_ge M 250 with q | q
        · rcases Nat.lt_or_ge M 241 with q | q
          · rcases Nat.lt_or_ge M 237 with q | q
            · rcases Nat.lt_or_ge M 235 with q | q
              · rcases Nat.lt_or_ge M 234 with q | q
                · obtain rfl : M = 233 := by omega
                  exact PX12_sheets_ok pc h
                · obtain rfl : M = 234 := by omega
                  exact PX12_talkerOf_ok pc h
              · rcases Nat.lt_or_ge M 236 with q | q
                · obtain rfl : M = 235 := by omega
                  exact PX12_sheetOf_ok pc h
                · obtain rfl : M = 236 := by omega
                  exact PX12_isTalker_ok pc h
            · rcases Nat.lt_or_ge M 239 with q | q
              · rcases Nat.lt_or_ge M 238 with q | q
                · obtain rfl : M = 237 := by omega
                  exact PX12_isSheet_ok pc h
                · obtain rfl : M = 238 := by omega
                  exact PX12_talker_ok pc h
              · rcases Nat.lt_or_ge M 240 with q | q
                · obtain rfl : M = 239 := by omega
                  exact PX12_sheet_ok pc h
                · obtain rfl : M = 240 := by omega
                  exact PX12_send_ok pc h
          · rcases Nat.lt_or_ge M 245 with q | q
            · rcases Nat.lt_or_ge M 243 with q | q
              · rcases Nat.lt_or_ge M 242 with q | q
                · obtain rfl : M = 241 := by omega
                  exact PX12_sentSet_ok pc h
                · obtain rfl : M = 242 := by omega
                  exact PX12_draws_ok pc h
              · rcases Nat.lt_or_ge M 244 with q | q
                · obtain rfl : M = 243 := by omega
                  exact PX12_asksTalker_ok pc h
                · obtain rfl : M = 244 := by omega
                  exact PX12_shows_ok pc h
            · rcases Nat.lt_or_ge M 247 with q | q
              · rcases Nat.lt_or_ge M 246 with q | q
                · obtain rfl : M = 245 := by omega
                  exact PX12_after_ok pc h
                · obtain rfl : M = 246 := by omega
                  exact PX12_talks_ok pc h
              · rcases Nat.lt_or_ge M 248 with q | q
                · obtain rfl : M = 247 := by omega
                  exact PX12_isStopped_ok pc h
                · rcases Nat.lt_or_ge M 249 with q | q
                  · obtain rfl : M = 248 := by omega
                    exact PX12_talk_ok pc h
                  · obtain rfl : M = 249 := by omega
                    exact PX12_talked_ok pc h
        · rcases Nat.lt_or_ge M 258 with q | q
          · rcases Nat.lt_or_ge M 254 with q | q
            · rcases Nat.lt_or_ge M 252 with q | q
              · rcases Nat.lt_or_ge M 251 with q | q
                · obtain rfl : M = 250 := by omega
                  exact PX12_ones_ok pc h
                · obtain rfl : M = 251 := by omega
                  exact PX12_leastSet_ok pc h
              · rcases Nat.lt_or_ge M 253 with q | q
                · obtain rfl : M = 252 := by omega
                  exact PX12_least_ok pc h
                · obtain rfl : M = 253 := by omega
                  exact PX12_more_ok pc h
            · rcases Nat.lt_or_ge M 256 with q | q
              · rcases Nat.lt_or_ge M 255 with q | q
                · obtain rfl : M = 254 := by omega
                  exact PX12_partsOf_ok pc h
                · obtain rfl : M = 255 := by omega
                  exact PX12_isOpen_ok pc h
              · rcases Nat.lt_or_ge M 257 with q | q
                · obtain rfl : M = 256 := by omega
                  exact PX12_parts_ok pc h
                · obtain rfl : M = 257 := by omega
                  exact PX12_ask_ok pc h
          · rcases Nat.lt_or_ge M 262 with q | q
            · rcases Nat.lt_or_ge M 260 with q | q
              · rcases Nat.lt_or_ge M 259 with q | q
                · obtain rfl : M = 258 := by omega
                  exact PX12_worlds_ok pc h
                · obtain rfl : M = 259 := by omega
                  exact PX12_count_ok pc h
              · rcases Nat.lt_or_ge M 261 with q | q
                · obtain rfl : M = 260 := by omega
                  exact PX12_status_ok pc h
                · obtain rfl : M = 261 := by omega
                  exact PJ6_bitCount_0f7a4_ok pc h
            · rcases Nat.lt_or_ge M 264 with q | q
              · rcases Nat.lt_or_ge M 263 with q | q
                · obtain rfl : M = 262 := by omega
                  exact PJ7_rangeCheck_23922_ok pc h
                · obtain rfl : M = 263 := by omega
                  exact PJ7_fill_53178_ok pc h
              · rcases Nat.lt_or_ge M 265 with q | q
                · obtain rfl : M = 264 := by omega
                  exact PJ7_fill_fda19_ok pc h
                · rcases Nat.lt_or_ge M 266 with q | q
                  · obtain rfl : M = 265 := by omega
                    exact PJ7_copyOf_59c91_ok pc h
                  · obtain rfl : M = 266 := by omega
                    exact PL_law_ok pc h
theorem prg_ok {M pc : Nat} {e : En} (h : prg M pc = some e) : M < 267 ∧ okD (bM M) pc e = true ∧ okE (oM M) (wM M) pc e = true := by
  unfold prg at h
  cases h1 : Nat.blt M 267 with
  | false => rw [h1] at h; cases h
  | true =>
    rw [h1] at h
    cases h2 : Nat.blt pc (cl M) with
    | false => rw [h2] at h; cases h
    | true =>
      rw [h2] at h
      have hM : M < 267 := Nat.le_of_ble_eq_true h1
      have h3 := prg0_ok M pc hM (Nat.le_of_ble_eq_true h2)
      have h : prg0 M pc = some e := h
      rw [h] at h3
      exact ⟨hM, (Bool.and_eq_true _ _).mp h3⟩
