set_option maxRecDepth 100000 in
theorem qX1_103 : Cond.constant RX1 103 (65537) ∈ ws0 := tb2 121 rfl rfl
set_option maxRecDepth 100000 in
theorem qX2_112 : Cond.constant RX2 112 (65537) ∈ ws0 := tb3 2 rfl rfl
set_option maxRecDepth 100000 in
theorem qX8_22 : Cond.constant RX8 22 (1779033703) ∈ ws0 := tb3 177 rfl rfl
set_option maxRecDepth 100000 in
theorem qX8_23 : Cond.constant RX8 23 (-1150833019) ∈ ws0 := tb3 178 rfl rfl
set_option maxRecDepth 100000 in
theorem qX8_24 : Cond.constant RX8 24 (1013904242) ∈ ws0 := tb3 179 rfl rfl
set_option maxRecDepth 100000 in
theorem qX8_25 : Cond.constant RX8 25 (-1521486534) ∈ ws0 := tb3 180 rfl rfl
set_option maxRecDepth 100000 in
theorem qX8_26 : Cond.constant RX8 26 (1359893119) ∈ ws0 := tb3 181 rfl rfl
set_option maxRecDepth 100000 in
theorem qX8_27 : Cond.constant RX8 27 (-1694144372) ∈ ws0 := tb3 182 rfl rfl
set_option maxRecDepth 100000 in
theorem qX8_28 : Cond.constant RX8 28 (528734635) ∈ ws0 := tb3 183 rfl rfl
set_option maxRecDepth 100000 in
theorem qX8_29 : Cond.constant RX8 29 (1541459225) ∈ ws0 := tb3 184 rfl rfl
set_option maxRecDepth 100000 in
theorem qX8_33 : Cond.constant RX8 33 (1116352408) ∈ ws0 := tb3 185 rfl rfl
set_option maxRecDepth 100000 in
theorem qX8_34 : Cond.constant RX8 34 (1899447441) ∈ ws0 := tb3 186 rfl rfl
set_option maxRecDepth 100000 in
theorem qX8_35 : Cond.constant RX8 35 (-1245643825) ∈ ws0 := tb3 187 rfl rfl
set_option maxRecDepth 100000 in
theorem qX8_36 : Cond.constant RX8 36 (-373957723) ∈ ws0 := tb3 188 rfl rfl
set_option maxRecDepth 100000 in
theorem qX8_37 : Cond.constant RX8 37 (961987163) ∈ ws0 := tb3 189 rfl rfl
set_option maxRecDepth 100000 in
theorem qX8_38 : Cond.constant RX8 38 (1508970993) ∈ ws0 := tb3 190 rfl rfl
set_option maxRecDepth 100000 in
theorem qX8_39 : Cond.constant RX8 39 (-1841331548) ∈ ws0 := tb3 191 rfl rfl
set_option maxRecDepth 100000 in
theorem qX8_40 : Cond.constant RX8 40 (-1424204075) ∈ ws0 := tb3 192 rfl rfl
set_option maxRecDepth 100000 in
theorem qX8_41 : Cond.constant RX8 41 (-670586216) ∈ ws0 := tb3 193 rfl rfl
set_option maxRecDepth 100000 in
theorem qX8_42 : Cond.constant RX8 42 (310598401) ∈ ws0 := tb3 194 rfl rfl
set_option maxRecDepth 100000 in
theorem qX8_43 : Cond.constant RX8 43 (607225278) ∈ ws0 := tb3 195 rfl rfl
set_option maxRecDepth 100000 in
theorem qX8_44 : Cond.constant RX8 44 (1426881987) ∈ ws0 := tb3 196 rfl rfl
set_option maxRecDepth 100000 in
theorem qX8_45 : Cond.constant RX8 45 (1925078388) ∈ ws0 := tb3 197 rfl rfl
set_option maxRecDepth 100000 in
theorem qX8_46 : Cond.constant RX8 46 (-2132889090) ∈ ws0 := tb3 198 rfl rfl
set_option maxRecDepth 100000 in
theorem qX8_47 : Cond.constant RX8 47 (-1680079193) ∈ ws0 := tb3 199 rfl rfl
set_option maxRecDepth 100000 in
theorem qX8_48 : Cond.constant RX8 48 (-1046744716) ∈ ws0 := tb3 200 rfl rfl
set_option maxRecDepth 100000 in
theorem qX8_49 : Cond.constant RX8 49 (-459576895) ∈ ws0 := tb3 201 rfl rfl
set_option maxRecDepth 100000 in
theorem qX8_50 : Cond.constant RX8 50 (-272742522) ∈ ws0 := tb3 202 rfl rfl
set_option maxRecDepth 100000 in
theorem qX8_51 : Cond.constant RX8 51 (264347078) ∈ ws0 := tb3 203 rfl rfl
set_option maxRecDepth 100000 in
theorem qX8_52 : Cond.constant RX8 52 (604807628) ∈ ws0 := tb3 204 rfl rfl
set_option maxRecDepth 100000 in
theorem qX8_53 : Cond.constant RX8 53 (770255983) ∈ ws0 := tb3 205 rfl rfl
set_option maxRecDepth 100000 in
theorem qX8_54 : Cond.constant RX8 54 (1249150122) ∈ ws0 := tb3 206 rfl rfl
set_option maxRecDepth 100000 in
theorem qX8_55 : Cond.constant RX8 55 (1555081692) ∈ ws0 := tb3 207 rfl rfl
set_option maxRecDepth 100000 in
theorem qX8_56 : Cond.constant RX8 56 (1996064986) ∈ ws0 := tb3 208 rfl rfl
set_option maxRecDepth 100000 in
theorem qX8_57 : Cond.constant RX8 57 (-1740746414) ∈ ws0 := tb3 209 rfl rfl
set_option maxRecDepth 100000 in
theorem qX8_58 : Cond.constant RX8 58 (-1473132947) ∈ ws0 := tb3 210 rfl rfl
set_option maxRecDepth 100000 in
theorem qX8_59 : Cond.constant RX8 59 (-1341970488) ∈ ws0 := tb3 211 rfl rfl
set_option maxRecDepth 100000 in
theorem qX8_60 : Cond.constant RX8 60 (-1084653625) ∈ ws0 := tb3 212 rfl rfl
set_option maxRecDepth 100000 in
theorem qX8_61 : Cond.constant RX8 61 (-958395405) ∈ ws0 := tb3 213 rfl rfl
set_option maxRecDepth 100000 in
theorem qX8_62 : Cond.constant RX8 62 (-710438585) ∈ ws0 := tb3 214 rfl rfl
set_option maxRecDepth 100000 in
theorem qX8_63 : Cond.constant RX8 63 (113926993) ∈ ws0 := tb3 215 rfl rfl
set_option maxRecDepth 100000 in
theorem qX8_64 : Cond.constant RX8 64 (338241895) ∈ ws0 := tb3 216 rfl rfl
set_option maxRecDepth 100000 in
theorem qX8_65 : Cond.constant RX8 65 (666307205) ∈ ws0 := tb3 217 rfl rfl
set_option maxRecDepth 100000 in
theorem qX8_66 : Cond.constant RX8 66 (773529912) ∈ ws0 := tb3 218 rfl rfl
set_option maxRecDepth 100000 in
theorem qX8_67 : Cond.constant RX8 67 (1294757372) ∈ ws0 := tb3 219 rfl rfl
set_option maxRecDepth 100000 in
theorem qX8_68 : Cond.constant RX8 68 (1396182291) ∈ ws0 := tb3 220 rfl rfl
set_option maxRecDepth 100000 in
theorem qX8_69 : Cond.constant RX8 69 (1695183700) ∈ ws0 := tb3 221 rfl rfl
set_option maxRecDepth 100000 in
theorem qX8_70 : Cond.constant RX8 70 (1986661051) ∈ ws0 := tb3 222 rfl rfl
set_option maxRecDepth 100000 in
theorem qX8_71 : Cond.constant RX8 71 (-2117940946) ∈ ws0 := tb3 223 rfl rfl
set_option maxRecDepth 100000 in
theorem qX8_72 : Cond.constant RX8 72 (-1838011259) ∈ ws0 := tb3 224 rfl rfl
set_option maxRecDepth 100000 in
theorem qX8_73 : Cond.constant RX8 73 (-1564481375) ∈ ws0 := tb3 225 rfl rfl
set_option maxRecDepth 100000 in
theorem qX8_74 : Cond.constant RX8 74 (-1474664885) ∈ ws0 := tb3 226 rfl rfl
set_option maxRecDepth 100000 in
theorem qX8_75 : Cond.constant RX8 75 (-1035236496) ∈ ws0 := tb3 227 rfl rfl
set_option maxRecDepth 100000 in
theorem qX8_76 : Cond.constant RX8 76 (-949202525) ∈ ws0 := tb3 228 rfl rfl
set_option maxRecDepth 100000 in
theorem qX8_77 : Cond.constant RX8 77 (-778901479) ∈ ws0 := tb3 229 rfl rfl
set_option maxRecDepth 100000 in
theorem qX8_78 : Cond.constant RX8 78 (-694614492) ∈ ws0 := tb3 230 rfl rfl
set_option maxRecDepth 100000 in
theorem qX8_79 : Cond.constant RX8 79 (-200395387) ∈ ws0 := tb3 231 rfl rfl
set_option maxRecDepth 100000 in
theorem qX8_80 : Cond.constant RX8 80 (275423344) ∈ ws0 := tb3 232 rfl rfl
set_option maxRecDepth 100000 in
theorem qX8_81 : Cond.constant RX8 81 (430227734) ∈ ws0 := tb3 233 rfl rfl
set_option maxRecDepth 100000 in
theorem qX8_82 : Cond.constant RX8 82 (506948616) ∈ ws0 := tb3 234 rfl rfl
set_option maxRecDepth 100000 in
theorem qX8_83 : Cond.constant RX8 83 (659060556) ∈ ws0 := tb3 235 rfl rfl
set_option maxRecDepth 100000 in
theorem qX8_84 : Cond.constant RX8 84 (883997877) ∈ ws0 := tb3 236 rfl rfl
set_option maxRecDepth 100000 in
theorem qX8_85 : Cond.constant RX8 85 (958139571) ∈ ws0 := tb3 237 rfl rfl
set_option maxRecDepth 100000 in
theorem qX8_86 : Cond.constant RX8 86 (1322822218) ∈ ws0 := tb3 238 rfl rfl
set_option maxRecDepth 100000 in
theorem qX8_87 : Cond.constant RX8 87 (1537002063) ∈ ws0 := tb3 239 rfl rfl
set_option maxRecDepth 100000 in
theorem qX8_88 : Cond.constant RX8 88 (1747873779) ∈ ws0 := tb4 0 rfl rfl
set_option maxRecDepth 100000 in
theorem qX8_89 : Cond.constant RX8 89 (1955562222) ∈ ws0 := tb4 1 rfl rfl
set_option maxRecDepth 100000 in
theorem qX8_90 : Cond.constant RX8 90 (2024104815) ∈ ws0 := tb4 2 rfl rfl
set_option maxRecDepth 100000 in
theorem qX8_91 : Cond.constant RX8 91 (-2067236844) ∈ ws0 := tb4 3 rfl rfl
set_option maxRecDepth 100000 in
theorem qX8_92 : Cond.constant RX8 92 (-1933114872) ∈ ws0 := tb4 4 rfl rfl
set_option maxRecDepth 100000 in
theorem qX8_93 : Cond.constant RX8 93 (-1866530822) ∈ ws0 := tb4 5 rfl rfl
set_option maxRecDepth 100000 in
theorem qX8_94 : Cond.constant RX8 94 (-1538233109) ∈ ws0 := tb4 6 rfl rfl
set_option maxRecDepth 100000 in
theorem qX8_95 : Cond.constant RX8 95 (-1090935817) ∈ ws0 := tb4 7 rfl rfl
set_option maxRecDepth 100000 in
theorem qX8_96 : Cond.constant RX8 96 (-965641998) ∈ ws0 := tb4 8 rfl rfl
set_option maxRecDepth 100000 in
theorem qX8_124 : Cond.constant RX8 124 (65535) ∈ ws0 := tb4 159 rfl rfl
set_option maxRecDepth 100000 in
theorem qX8_127 : Cond.constant RX8 127 (32768) ∈ ws0 := tb4 191 rfl rfl
set_option maxRecDepth 100000 in
theorem qX8_155 : Cond.constant RX8 155 (65280) ∈ ws0 := tb4 129 rfl rfl
set_option maxRecDepth 100000 in
theorem qX8_219 : Cond.constant RX8 219 (65537) ∈ ws0 := tb4 142 rfl rfl
set_option maxRecDepth 100000 in
theorem qJ6_264 : Cond.constant RJ6 264 (65536) ∈ ws0 := tb2 199 rfl rfl
set_option maxRecDepth 100000 in
theorem qX7_175 : Cond.constantLong RX7 175 (37) ∈ ws0 := tb3 161 rfl rfl
set_option maxRecDepth 100000 in
theorem qX7_177 : Cond.constantLong RX7 177 (31) ∈ ws0 := tb3 162 rfl rfl
set_option maxRecDepth 100000 in
theorem qX2_105 : Cond.constantLong RX2 105 (2) ∈ ws0 := tb3 12 rfl rfl
set_option maxRecDepth 100000 in
theorem qX2_110 : Cond.constantLong RX2 110 (65537) ∈ ws0 := tb3 1 rfl rfl
set_option maxRecDepth 100000 in
theorem qX2_121 : Cond.constantLong RX2 121 (4294967295) ∈ ws0 := tb3 7 rfl rfl
set_option maxRecDepth 100000 in
theorem qX4_51 : Cond.constantLong RX4 51 (4294967295) ∈ ws0 := tb2 152 rfl rfl
set_option maxRecDepth 100000 in
theorem qX4_65 : Cond.constantLong RX4 65 (2) ∈ ws0 := tb2 151 rfl rfl
set_option maxRecDepth 100000 in
theorem qX5_7 : Cond.constantLong RX5 7 (255) ∈ ws0 := tb2 106 rfl rfl
set_option maxRecDepth 100000 in
theorem qX5_9 : Cond.constantLong RX5 9 (-1) ∈ ws0 := tb2 107 rfl rfl
set_option maxRecDepth 100000 in
theorem qX5_19 : Cond.constantLong RX5 19 (4294967295) ∈ ws0 := tb2 132 rfl rfl
set_option maxRecDepth 100000 in
theorem qL_44 : Cond.constantLong RL 44 (4294967295) ∈ ws0 := tb5 77 rfl rfl
set_option maxRecDepth 100000 in
theorem qX8_125 : Cond.constantLong RX8 125 (65535) ∈ ws0 := tb4 200 rfl rfl
set_option maxRecDepth 100000 in
theorem qX8_226 : Cond.constantLong RX8 226 (65537) ∈ ws0 := tb4 217 rfl rfl
set_option maxRecDepth 100000 in
theorem qX8_295 : Cond.constantLong RX8 295 (31) ∈ ws0 := tb5 75 rfl rfl
set_option maxRecDepth 100000 in
theorem qX8_297 : Cond.constantLong RX8 297 (37) ∈ ws0 := tb5 70 rfl rfl
set_option maxRecDepth 100000 in
theorem nX7_28 : Cond.classLink RX7 28 RX0 ∈ ws0 := tb1 29 rfl rfl
set_option maxRecDepth 100000 in
theorem nX7_35 : Cond.classLink RX7 35 RX1 ∈ ws0 := tb1 66 rfl rfl
set_option maxRecDepth 100000 in
theorem nX7_44 : Cond.classLink RX7 44 RX2 ∈ ws0 := tb1 152 rfl rfl
set_option maxRecDepth 100000 in
theorem nX7_53 : Cond.classLink RX7 53 RX3 ∈ ws0 := tb1 213 rfl rfl
set_option maxRecDepth 100000 in
theorem nX0_15 : Cond.classLink RX0 15 RX6 ∈ ws0 := tb1 35 rfl rfl
set_option maxRecDepth 100000 in
theorem nX1_26 : Cond.classLink RX1 26 RX4 ∈ ws0 := tb1 73 rfl rfl
set_option maxRecDepth 100000 in
theorem nX2_13 : Cond.classLink RX2 13 RX4 ∈ ws0 := tb1 159 rfl rfl
set_option maxRecDepth 100000 in
theorem nX3_13 : Cond.classLink RX3 13 RX6 ∈ ws0 := tb1 219 rfl rfl
set_option maxRecDepth 100000 in
theorem nL_7 : Cond.classLink RL 7 RX7 ∈ ws0 := tb1 15 rfl rfl
set_option maxRecDepth 100000 in
theorem nL_18 : Cond.classLink RL 18 RX8 ∈ ws0 := tb3 171 rfl rfl
