/-! LINKS: which words the tables have -/
theorem nW (n : Nat) {w : Cond} (h : tables_1[n]? = some w) (hg : goodWord w = true) : w ∈ nWs := List.mem_filter.mpr ⟨List.mem_append_right _ (List.mem_of_getElem? h), hg⟩
theorem nW1 (n : Nat) {w : Cond} (h : tables_1_1[n]? = some w) (hg : goodWord w = true) : w ∈ nWs := List.mem_filter.mpr ⟨List.mem_append_right _ (List.mem_append_left _ (List.mem_of_getElem? h)), hg⟩
theorem nW2 (n : Nat) {w : Cond} (h : tables_1_2[n]? = some w) (hg : goodWord w = true) : w ∈ nWs := List.mem_filter.mpr ⟨List.mem_append_right _ (List.mem_append_right _ (List.mem_append_left _ (List.mem_of_getElem? h))), hg⟩
theorem nW3 (n : Nat) {w : Cond} (h : tables_1_3[n]? = some w) (hg : goodWord w = true) : w ∈ nWs := List.mem_filter.mpr ⟨List.mem_append_right _ (List.mem_append_right _ (List.mem_append_right _ (List.mem_append_left _ (List.mem_of_getElem? h)))), hg⟩
theorem nW4 (n : Nat) {w : Cond} (h : tables_1_4[n]? = some w) (hg : goodWord w = true) : w ∈ nWs := List.mem_filter.mpr ⟨List.mem_append_right _ (List.mem_append_right _ (List.mem_append_right _ (List.mem_append_right _ (List.mem_append_left _ (List.mem_of_getElem? h))))), hg⟩
theorem nW5 (n : Nat) {w : Cond} (h : tables_1_5[n]? = some w) (hg : goodWord w = true) : w ∈ nWs := List.mem_filter.mpr ⟨List.mem_append_right _ (List.mem_append_right _ (List.mem_append_right _ (List.mem_append_right _ (List.mem_append_right _ (List.mem_of_getElem? h))))), hg⟩
theorem nWp (n : Nat) {w : Cond} (h : (k2_sels lw_privs)[n]? = some w) (hg : goodWord w = true) : w ∈ nWs := List.mem_filter.mpr ⟨List.mem_append_left _ (List.mem_of_getElem? h), hg⟩
theorem fk_0_51 : nF 0 51 0 0 := ⟨_, rfl, by decide, (nW1 31 rfl rfl)⟩
theorem fk_0_55 : nF 0 55 0 1 := ⟨_, rfl, by decide, (nW1 32 rfl rfl)⟩
theorem fk_7_197 : nF 7 197 0 1 := ⟨_, rfl, by decide, (nW1 33 rfl rfl)⟩
theorem fk_0_58 : nF 0 58 0 2 := ⟨_, rfl, by decide, (nW1 34 rfl rfl)⟩
theorem fk_0_61 : nF 0 61 0 3 := ⟨_, rfl, by decide, (nW1 35 rfl rfl)⟩
theorem fk_0_9 : nF 0 9 0 4 := ⟨_, rfl, by decide, (nW1 36 rfl rfl)⟩
theorem fk_0_15 : nF 0 15 0 5 := ⟨_, rfl, by decide, (nW1 37 rfl rfl)⟩
theorem fk_0_20 : nF 0 20 0 6 := ⟨_, rfl, by decide, (nW1 38 rfl rfl)⟩
theorem fk_0_23 : nF 0 23 0 7 := ⟨_, rfl, by decide, (nW1 39 rfl rfl)⟩
theorem fk_0_39 : nF 0 39 0 8 := ⟨_, rfl, by decide, (nW1 40 rfl rfl)⟩
theorem fk_6_18 : nF 6 18 6 0 := ⟨_, rfl, by decide, (nW1 67 rfl rfl)⟩
theorem fk_7_180 : nF 7 180 6 0 := ⟨_, rfl, by decide, (nW1 68 rfl rfl)⟩
theorem fk_6_9 : nF 6 9 6 1 := ⟨_, rfl, by decide, (nW1 69 rfl rfl)⟩
theorem fk_6_15 : nF 6 15 6 2 := ⟨_, rfl, by decide, (nW1 70 rfl rfl)⟩
theorem fk_6_26 : nF 6 26 6 3 := ⟨_, rfl, by decide, (nW1 71 rfl rfl)⟩
theorem fk_5_9 : nF 5 9 5 0 := ⟨_, rfl, by decide, (nW1 87 rfl rfl)⟩
theorem fk_5_15 : nF 5 15 5 1 := ⟨_, rfl, by decide, (nW1 88 rfl rfl)⟩
theorem fk_5_18 : nF 5 18 5 2 := ⟨_, rfl, by decide, (nW1 89 rfl rfl)⟩
theorem fk_4_40 : nF 4 40 4 0 := ⟨_, rfl, by decide, (nW1 103 rfl rfl)⟩
theorem fk_7_235 : nF 7 235 4 0 := ⟨_, rfl, by decide, (nW1 104 rfl rfl)⟩
theorem fk_4_9 : nF 4 9 4 1 := ⟨_, rfl, by decide, (nW1 105 rfl rfl)⟩
theorem fk_7_236 : nF 7 236 4 1 := ⟨_, rfl, by decide, (nW1 106 rfl rfl)⟩
theorem fk_1_20 : nF 1 20 1 0 := ⟨_, rfl, by decide, (nW1 120 rfl rfl)⟩
theorem fk_7_256 : nF 7 256 1 0 := ⟨_, rfl, by decide, (nW1 121 rfl rfl)⟩
theorem fk_1_24 : nF 1 24 1 1 := ⟨_, rfl, by decide, (nW1 122 rfl rfl)⟩
theorem fk_7_260 : nF 7 260 1 1 := ⟨_, rfl, by decide, (nW1 123 rfl rfl)⟩
theorem fk_1_11 : nF 1 11 1 2 := ⟨_, rfl, by decide, (nW1 124 rfl rfl)⟩
theorem fk_7_248 : nF 7 248 1 2 := ⟨_, rfl, by decide, (nW1 125 rfl rfl)⟩
theorem fk_1_16 : nF 1 16 1 3 := ⟨_, rfl, by decide, (nW1 126 rfl rfl)⟩
theorem fk_7_11 : nF 7 11 7 0 := ⟨_, rfl, by decide, (nW1 137 rfl rfl)⟩
theorem fk_7_61 : nF 7 61 7 1 := ⟨_, rfl, by decide, (nW1 138 rfl rfl)⟩
theorem fk_7_15 : nF 7 15 7 2 := ⟨_, rfl, by decide, (nW1 139 rfl rfl)⟩
theorem fk_7_19 : nF 7 19 7 3 := ⟨_, rfl, by decide, (nW1 140 rfl rfl)⟩
theorem fk_7_26 : nF 7 26 7 4 := ⟨_, rfl, by decide, (nW1 141 rfl rfl)⟩
theorem fk_7_30 : nF 7 30 7 5 := ⟨_, rfl, by decide, (nW1 142 rfl rfl)⟩
theorem fk_7_36 : nF 7 36 7 6 := ⟨_, rfl, by decide, (nW1 143 rfl rfl)⟩
theorem fk_7_43 : nF 7 43 7 7 := ⟨_, rfl, by decide, (nW1 144 rfl rfl)⟩
theorem fk_7_50 : nF 7 50 7 8 := ⟨_, rfl, by decide, (nW1 145 rfl rfl)⟩
theorem fk_7_57 : nF 7 57 7 9 := ⟨_, rfl, by decide, (nW1 146 rfl rfl)⟩
theorem fk_2_28 : nF 2 28 2 0 := ⟨_, rfl, by decide, (nW1 183 rfl rfl)⟩
theorem fk_7_165 : nF 7 165 2 0 := ⟨_, rfl, by decide, (nW1 184 rfl rfl)⟩
theorem fk_2_31 : nF 2 31 2 1 := ⟨_, rfl, by decide, (nW1 185 rfl rfl)⟩
theorem fk_1_73 : nF 1 73 2 1 := ⟨_, rfl, by decide, (nW1 186 rfl rfl)⟩
theorem fk_7_168 : nF 7 168 2 1 := ⟨_, rfl, by decide, (nW1 187 rfl rfl)⟩
theorem fk_2_9 : nF 2 9 2 2 := ⟨_, rfl, by decide, (nW1 188 rfl rfl)⟩
theorem fk_7_171 : nF 7 171 2 2 := ⟨_, rfl, by decide, (nW1 189 rfl rfl)⟩
theorem fk_2_15 : nF 2 15 2 3 := ⟨_, rfl, by decide, (nW1 190 rfl rfl)⟩
theorem fk_7_174 : nF 7 174 2 3 := ⟨_, rfl, by decide, (nW1 191 rfl rfl)⟩
theorem fk_2_20 : nF 2 20 2 4 := ⟨_, rfl, by decide, (nW1 192 rfl rfl)⟩
theorem fk_2_34 : nF 2 34 2 5 := ⟨_, rfl, by decide, (nW1 193 rfl rfl)⟩
theorem fk_1_34 : nF 1 34 2 5 := ⟨_, rfl, by decide, (nW1 194 rfl rfl)⟩
theorem fk_7_162 : nF 7 162 2 5 := ⟨_, rfl, by decide, (nW1 195 rfl rfl)⟩
theorem fk_2_24 : nF 2 24 2 6 := ⟨_, rfl, by decide, (nW1 196 rfl rfl)⟩
theorem fk_1_27 : nF 1 27 2 6 := ⟨_, rfl, by decide, (nW1 197 rfl rfl)⟩
theorem fk_7_242 : nF 7 242 2 6 := ⟨_, rfl, by decide, (nW1 198 rfl rfl)⟩
theorem fk_3_34 : nF 3 34 3 0 := ⟨_, rfl, by decide, (nW1 221 rfl rfl)⟩
theorem fk_4_15 : nF 4 15 3 0 := ⟨_, rfl, by decide, (nW1 222 rfl rfl)⟩
theorem fk_1_57 : nF 1 57 3 0 := ⟨_, rfl, by decide, (nW1 223 rfl rfl)⟩
theorem fk_0_78 : nF 0 78 3 0 := ⟨_, rfl, by decide, (nW1 224 rfl rfl)⟩
theorem fk_7_127 : nF 7 127 3 0 := ⟨_, rfl, by decide, (nW1 225 rfl rfl)⟩
theorem fk_2_70 : nF 2 70 3 0 := ⟨_, rfl, by decide, (nW1 226 rfl rfl)⟩
theorem fk_3_9 : nF 3 9 3 1 := ⟨_, rfl, by decide, (nW1 227 rfl rfl)⟩
theorem fk_4_34 : nF 4 34 3 1 := ⟨_, rfl, by decide, (nW1 228 rfl rfl)⟩
theorem fk_7_134 : nF 7 134 3 1 := ⟨_, rfl, by decide, (nW1 229 rfl rfl)⟩
theorem fk_3_15 : nF 3 15 3 2 := ⟨_, rfl, by decide, (nW1 230 rfl rfl)⟩
theorem fk_4_37 : nF 4 37 3 2 := ⟨_, rfl, by decide, (nW1 231 rfl rfl)⟩
theorem fk_7_137 : nF 7 137 3 2 := ⟨_, rfl, by decide, (nW1 232 rfl rfl)⟩
theorem fk_3_18 : nF 3 18 3 3 := ⟨_, rfl, by decide, (nW1 233 rfl rfl)⟩
theorem fk_7_156 : nF 7 156 3 3 := ⟨_, rfl, by decide, (nW1 234 rfl rfl)⟩
theorem fk_0_89 : nF 0 89 3 3 := ⟨_, rfl, by decide, (nW1 235 rfl rfl)⟩
theorem fk_3_21 : nF 3 21 3 4 := ⟨_, rfl, by decide, (nW1 236 rfl rfl)⟩
theorem fk_3_24 : nF 3 24 3 5 := ⟨_, rfl, by decide, (nW1 237 rfl rfl)⟩
theorem fk_1_62 : nF 1 62 3 5 := ⟨_, rfl, by decide, (nW1 238 rfl rfl)⟩
theorem fk_7_140 : nF 7 140 3 5 := ⟨_, rfl, by decide, (nW1 239 rfl rfl)⟩
theorem fk_2_103 : nF 2 103 3 5 := ⟨_, rfl, by decide, (nW2 0 rfl rfl)⟩
theorem fk_3_27 : nF 3 27 3 6 := ⟨_, rfl, by decide, (nW2 1 rfl rfl)⟩
theorem fk_7_143 : nF 7 143 3 6 := ⟨_, rfl, by decide, (nW2 2 rfl rfl)⟩
theorem fk_2_90 : nF 2 90 3 6 := ⟨_, rfl, by decide, (nW2 3 rfl rfl)⟩
theorem fk_8_88 : nF 8 88 8 1 := ⟨_, rfl, by decide, (nW3 209 rfl rfl)⟩
theorem fk_8_13 : nF 8 13 8 2 := ⟨_, rfl, by decide, (nW3 210 rfl rfl)⟩
theorem fk_8_17 : nF 8 17 8 3 := ⟨_, rfl, by decide, (nW3 211 rfl rfl)⟩
theorem fk_8_20 : nF 8 20 8 4 := ⟨_, rfl, by decide, (nW3 212 rfl rfl)⟩
theorem fk_8_23 : nF 8 23 8 5 := ⟨_, rfl, by decide, (nW3 213 rfl rfl)⟩
theorem fk_8_26 : nF 8 26 8 6 := ⟨_, rfl, by decide, (nW3 214 rfl rfl)⟩
theorem fk_8_29 : nF 8 29 8 7 := ⟨_, rfl, by decide, (nW3 215 rfl rfl)⟩
theorem fk_8_32 : nF 8 32 8 8 := ⟨_, rfl, by decide, (nW3 216 rfl rfl)⟩
theorem fk_8_35 : nF 8 35 8 9 := ⟨_, rfl, by decide, (nW3 217 rfl rfl)⟩
theorem fk_8_39 : nF 8 39 8 10 := ⟨_, rfl, by decide, (nW3 218 rfl rfl)⟩
theorem fk_8_42 : nF 8 42 8 11 := ⟨_, rfl, by decide, (nW3 219 rfl rfl)⟩
theorem fk_8_45 : nF 8 45 8 12 := ⟨_, rfl, by decide, (nW3 220 rfl rfl)⟩
theorem fk_8_48 : nF 8 48 8 13 := ⟨_, rfl, by decide, (nW3 221 rfl rfl)⟩
theorem fk_8_51 : nF 8 51 8 14 := ⟨_, rfl, by decide, (nW3 222 rfl rfl)⟩
theorem fk_8_54 : nF 8 54 8 15 := ⟨_, rfl, by decide, (nW3 223 rfl rfl)⟩
theorem fk_8_85 : nF 8 85 8 16 := ⟨_, rfl, by decide, (nW3 224 rfl rfl)⟩
theorem fk_8_57 : nF 8 57 8 17 := ⟨_, rfl, by decide, (nW3 225 rfl rfl)⟩
theorem fk_8_60 : nF 8 60 8 18 := ⟨_, rfl, by decide, (nW3 226 rfl rfl)⟩
theorem fk_8_63 : nF 8 63 8 19 := ⟨_, rfl, by decide, (nW3 227 rfl rfl)⟩
theorem fk_8_152 : nF 8 152 8 20 := ⟨_, rfl, by decide, (nW3 228 rfl rfl)⟩
theorem fk_8_155 : nF 8 155 8 21 := ⟨_, rfl, by decide, (nW3 229 rfl rfl)⟩
theorem fk_8_162 : nF 8 162 8 22 := ⟨_, rfl, by decide, (nW3 230 rfl rfl)⟩
theorem fk_8_166 : nF 8 166 8 23 := ⟨_, rfl, by decide, (nW3 231 rfl rfl)⟩
theorem fk_8_169 : nF 8 169 8 24 := ⟨_, rfl, by decide, (nW3 232 rfl rfl)⟩
theorem fk_8_175 : nF 8 175 8 25 := ⟨_, rfl, by decide, (nW3 233 rfl rfl)⟩
theorem fk_8_66 : nF 8 66 8 26 := ⟨_, rfl, by decide, (nW3 234 rfl rfl)⟩
theorem fk_8_69 : nF 8 69 8 27 := ⟨_, rfl, by decide, (nW3 235 rfl rfl)⟩
theorem fk_8_181 : nF 8 181 8 28 := ⟨_, rfl, by decide, (nW3 236 rfl rfl)⟩
theorem fk_8_72 : nF 8 72 8 29 := ⟨_, rfl, by decide, (nW3 237 rfl rfl)⟩
theorem fk_8_75 : nF 8 75 8 30 := ⟨_, rfl, by decide, (nW3 238 rfl rfl)⟩
theorem fk_8_197 : nF 8 197 8 31 := ⟨_, rfl, by decide, (nW3 239 rfl rfl)⟩
theorem fk_8_200 : nF 8 200 8 32 := ⟨_, rfl, by decide, (nW4 0 rfl rfl)⟩
theorem fk_8_203 : nF 8 203 8 33 := ⟨_, rfl, by decide, (nW4 1 rfl rfl)⟩
theorem fk_8_206 : nF 8 206 8 34 := ⟨_, rfl, by decide, (nW4 2 rfl rfl)⟩
theorem fk_8_78 : nF 8 78 8 35 := ⟨_, rfl, by decide, (nW4 3 rfl rfl)⟩
theorem fk_8_81 : nF 8 81 8 36 := ⟨_, rfl, by decide, (nW4 4 rfl rfl)⟩
theorem fk_8_218 : nF 8 218 8 37 := ⟨_, rfl, by decide, (nW4 5 rfl rfl)⟩
theorem fk_8_222 : nF 8 222 8 38 := ⟨_, rfl, by decide, (nW4 6 rfl rfl)⟩
theorem la_0_0 : u_lay RX0 TX0 0 ∈ nWs := (nW1 41 rfl rfl)
theorem ft_0_0 : nFt 0 0 .boolean false := fun q hq => by cases hq; exact ⟨by decide +kernel, rfl, rfl⟩
theorem la_0_1 : u_lay RX0 TX0 1 ∈ nWs := (nW1 43 rfl rfl)
theorem ft_0_1 : nFt 0 1 .int false := fun q hq => by cases hq; exact ⟨by decide +kernel, rfl, rfl⟩
theorem la_0_2 : u_lay RX0 TX0 2 ∈ nWs := (nW1 45 rfl rfl)
theorem ft_0_2 : nFt 0 2 .int false := fun q hq => by cases hq; exact ⟨by decide +kernel, rfl, rfl⟩
theorem la_0_3 : u_lay RX0 TX0 3 ∈ nWs := (nW1 47 rfl rfl)
theorem ft_0_3 : nFt 0 3 .int false := fun q hq => by cases hq; exact ⟨by decide +kernel, rfl, rfl⟩
theorem la_0_4 : u_lay RX0 TX0 4 ∈ nWs := (nW1 49 rfl rfl)
theorem ft_0_4 : nFt 0 4 (.array .int) true := fun q hq => by cases hq; exact ⟨by decide +kernel, rfl, rfl⟩
theorem la_0_5 : u_lay RX0 TX0 5 ∈ nWs := (nW1 51 rfl rfl)
theorem ft_0_5 : nFt 0 5 (.array .int) true := fun q hq => by cases hq; exact ⟨by decide +kernel, rfl, rfl⟩
theorem la_0_6 : u_lay RX0 TX0 6 ∈ nWs := (nW1 53 rfl rfl)
theorem ft_0_6 : nFt 0 6 (.array (.array .int)) true := fun q hq => by cases hq; exact ⟨by decide +kernel, rfl, rfl⟩
theorem la_0_7 : u_lay RX0 TX0 7 ∈ nWs := (nW1 55 rfl rfl)
theorem ft_0_7 : nFt 0 7 (.array .int) true := fun q hq => by cases hq; exact ⟨by decide +kernel, rfl, rfl⟩
theorem la_0_8 : u_lay RX0 TX0 8 ∈ nWs := (nW1 57 rfl rfl)
theorem ft_0_8 : nFt 0 8 .int false := fun q hq => by cases hq; exact ⟨by decide +kernel, rfl, rfl⟩
theorem cz_0 : nCo 0 := fun q hq => by
  cases hq
  refine ⟨fun w hw => ?_, nmX0, tyX0, tyX0_ok⟩
  obtain ⟨k, hk, rfl⟩ := List.mem_map.mp hw
  have hk := List.mem_range.mp hk
  match k, hk with
  | 0, _ => exact la_0_0
  | 1, _ => exact la_0_1
  | 2, _ => exact la_0_2
  | 3, _ => exact la_0_3
  | 4, _ => exact la_0_4
  | 5, _ => exact la_0_5
  | 6, _ => exact la_0_6
  | 7, _ => exact la_0_7
  | 8, _ => exact la_0_8
  | k + 9, hk => exact absurd (show k + 9 < 9 from hk) (by omega)
theorem la_1_0 : u_lay RX1 TX1 0 ∈ nWs := (nW1 127 rfl rfl)
theorem ft_1_0 : nFt 1 0 .long false := fun q hq => by cases hq; exact ⟨by decide +kernel, rfl, rfl⟩
theorem la_1_1 : u_lay RX1 TX1 1 ∈ nWs := (nW1 129 rfl rfl)
theorem ft_1_1 : nFt 1 1 .long false := fun q hq => by cases hq; exact ⟨by decide +kernel, rfl, rfl⟩
theorem la_1_2 : u_lay RX1 TX1 2 ∈ nWs := (nW1 131 rfl rfl)
theorem ft_1_2 : nFt 1 2 (.array (.array .long)) true := fun q hq => by cases hq; exact ⟨by decide +kernel, rfl, rfl⟩
theorem la_1_3 : u_lay RX1 TX1 3 ∈ nWs := (nW1 133 rfl rfl)
theorem ft_1_3 : nFt 1 3 (.array .int) true := fun q hq => by cases hq; exact ⟨by decide +kernel, rfl, rfl⟩
theorem cz_1 : nCo 1 := fun q hq => by
  cases hq
  refine ⟨fun w hw => ?_, nmX1, tyX1, tyX1_ok⟩
  obtain ⟨k, hk, rfl⟩ := List.mem_map.mp hw
  have hk := List.mem_range.mp hk
  match k, hk with
  | 0, _ => exact la_1_0
  | 1, _ => exact la_1_1
  | 2, _ => exact la_1_2
  | 3, _ => exact la_1_3
  | k + 4, hk => exact absurd (show k + 4 < 4 from hk) (by omega)
theorem la_2_0 : u_lay RX2 TX2 0 ∈ nWs := (nW1 199 rfl rfl)
theorem ft_2_0 : nFt 2 0 .int true := fun q hq => by cases hq; exact ⟨by decide +kernel, rfl, rfl⟩
theorem la_2_1 : u_lay RX2 TX2 1 ∈ nWs := (nW1 201 rfl rfl)
theorem ft_2_1 : nFt 2 1 .int true := fun q hq => by cases hq; exact ⟨by decide +kernel, rfl, rfl⟩
theorem la_2_2 : u_lay RX2 TX2 2 ∈ nWs := (nW1 203 rfl rfl)
theorem ft_2_2 : nFt 2 2 .int false := fun q hq => by cases hq; exact ⟨by decide +kernel, rfl, rfl⟩
theorem la_2_3 : u_lay RX2 TX2 3 ∈ nWs := (nW1 205 rfl rfl)
theorem ft_2_3 : nFt 2 3 .int false := fun q hq => by cases hq; exact ⟨by decide +kernel, rfl, rfl⟩
theorem la_2_4 : u_lay RX2 TX2 4 ∈ nWs := (nW1 207 rfl rfl)
theorem ft_2_4 : nFt 2 4 (.array (.object "NetLoft$Row")) true := fun q hq => by cases hq; exact ⟨by decide +kernel, rfl, rfl⟩
theorem la_2_5 : u_lay RX2 TX2 5 ∈ nWs := (nW1 209 rfl rfl)
theorem ft_2_5 : nFt 2 5 .int false := fun q hq => by cases hq; exact ⟨by decide +kernel, rfl, rfl⟩
theorem la_2_6 : u_lay RX2 TX2 6 ∈ nWs := (nW1 211 rfl rfl)
theorem ft_2_6 : nFt 2 6 (.array .int) true := fun q hq => by cases hq; exact ⟨by decide +kernel, rfl, rfl⟩
theorem cz_2 : nCo 2 := fun q hq => by
  cases hq
  refine ⟨fun w hw => ?_, nmX2, tyX2, tyX2_ok⟩
  obtain ⟨k, hk, rfl⟩ := List.mem_map.mp hw
  have hk := List.mem_range.mp hk
  match k, hk with
  | 0, _ => exact la_2_0
  | 1, _ => exact la_2_1
  | 2, _ => exact la_2_2
  | 3, _ => exact la_2_3
  | 4, _ => exact la_2_4
  | 5, _ => exact la_2_5
  | 6, _ => exact la_2_6
  | k + 7, hk => exact absurd (show k + 7 < 7 from hk) (by omega)
theorem la_3_0 : u_lay RX3 TX3 0 ∈ nWs := (nW2 4 rfl rfl)
theorem ft_3_0 : nFt 3 0 .int false := fun q hq => by cases hq; exact ⟨by decide +kernel, rfl, rfl⟩
theorem la_3_1 : u_lay RX3 TX3 1 ∈ nWs := (nW2 6 rfl rfl)
theorem ft_3_1 : nFt 3 1 (.array .int) true := fun q hq => by cases hq; exact ⟨by decide +kernel, rfl, rfl⟩
theorem la_3_2 : u_lay RX3 TX3 2 ∈ nWs := (nW2 8 rfl rfl)
theorem ft_3_2 : nFt 3 2 (.array .int) true := fun q hq => by cases hq; exact ⟨by decide +kernel, rfl, rfl⟩
theorem la_3_3 : u_lay RX3 TX3 3 ∈ nWs := (nW2 10 rfl rfl)
theorem ft_3_3 : nFt 3 3 (.array .int) true := fun q hq => by cases hq; exact ⟨by decide +kernel, rfl, rfl⟩
theorem la_3_4 : u_lay RX3 TX3 4 ∈ nWs := (nW2 12 rfl rfl)
theorem ft_3_4 : nFt 3 4 (.array .int) true := fun q hq => by cases hq; exact ⟨by decide +kernel, rfl, rfl⟩
theorem la_3_5 : u_lay RX3 TX3 5 ∈ nWs := (nW2 14 rfl rfl)
theorem ft_3_5 : nFt 3 5 (.array .int) true := fun q hq => by cases hq; exact ⟨by decide +kernel, rfl, rfl⟩
theorem la_3_6 : u_lay RX3 TX3 6 ∈ nWs := (nW2 16 rfl rfl)
theorem ft_3_6 : nFt 3 6 (.array .int) true := fun q hq => by cases hq; exact ⟨by decide +kernel, rfl, rfl⟩
theorem cz_3 : nCo 3 := fun q hq => by
  cases hq
  refine ⟨fun w hw => ?_, nmX3, tyX3, tyX3_ok⟩
  obtain ⟨k, hk, rfl⟩ := List.mem_map.mp hw
  have hk := List.mem_range.mp hk
  match k, hk with
  | 0, _ => exact la_3_0
  | 1, _ => exact la_3_1
  | 2, _ => exact la_3_2
  | 3, _ => exact la_3_3
  | 4, _ => exact la_3_4
  | 5, _ => exact la_3_5
  | 6, _ => exact la_3_6
  | k + 7, hk => exact absurd (show k + 7 < 7 from hk) (by omega)
theorem la_4_0 : u_lay RX4 TX4 0 ∈ nWs := (nW1 107 rfl rfl)
theorem ft_4_0 : nFt 4 0 .int false := fun q hq => by cases hq; exact ⟨by decide +kernel, rfl, rfl⟩
theorem la_4_1 : u_lay RX4 TX4 1 ∈ nWs := (nW1 109 rfl rfl)
theorem ft_4_1 : nFt 4 1 (.array .int) true := fun q hq => by cases hq; exact ⟨by decide +kernel, rfl, rfl⟩
theorem cz_4 : nCo 4 := fun q hq => by
  cases hq
  refine ⟨fun w hw => ?_, nmX4, tyX4, tyX4_ok⟩
  obtain ⟨k, hk, rfl⟩ := List.mem_map.mp hw
  have hk := List.mem_range.mp hk
  match k, hk with
  | 0, _ => exact la_4_0
  | 1, _ => exact la_4_1
  | k + 2, hk => exact absurd (show k + 2 < 2 from hk) (by omega)
theorem la_5_0 : u_lay RX5 TX5 0 ∈ nWs := (nW1 90 rfl rfl)
theorem ft_5_0 : nFt 5 0 .int false := fun q hq => by cases hq; exact ⟨by decide +kernel, rfl, rfl⟩
theorem la_5_1 : u_lay RX5 TX5 1 ∈ nWs := (nW1 92 rfl rfl)
theorem ft_5_1 : nFt 5 1 .int false := fun q hq => by cases hq; exact ⟨by decide +kernel, rfl, rfl⟩
theorem la_5_2 : u_lay RX5 TX5 2 ∈ nWs := (nW1 94 rfl rfl)
theorem ft_5_2 : nFt 5 2 .int false := fun q hq => by cases hq; exact ⟨by decide +kernel, rfl, rfl⟩
theorem cz_5 : nCo 5 := fun q hq => by
  cases hq
  refine ⟨fun w hw => ?_, nmX5, tyX5, tyX5_ok⟩
  obtain ⟨k, hk, rfl⟩ := List.mem_map.mp hw
  have hk := List.mem_range.mp hk
  match k, hk with
  | 0, _ => exact la_5_0
  | 1, _ => exact la_5_1
  | 2, _ => exact la_5_2
  | k + 3, hk => exact absurd (show k + 3 < 3 from hk) (by omega)
theorem la_6_0 : u_lay RX6 TX6 0 ∈ nWs := (nW1 72 rfl rfl)
theorem ft_6_0 : nFt 6 0 .int false := fun q hq => by cases hq; exact ⟨by decide +kernel, rfl, rfl⟩
theorem la_6_1 : u_lay RX6 TX6 1 ∈ nWs := (nW1 74 rfl rfl)
theorem ft_6_1 : nFt 6 1 (.array .int) true := fun q hq => by cases hq; exact ⟨by decide +kernel, rfl, rfl⟩
theorem la_6_2 : u_lay RX6 TX6 2 ∈ nWs := (nW1 76 rfl rfl)
theorem ft_6_2 : nFt 6 2 (.array .int) true := fun q hq => by cases hq; exact ⟨by decide +kernel, rfl, rfl⟩
theorem la_6_3 : u_lay RX6 TX6 3 ∈ nWs := (nW1 78 rfl rfl)
theorem ft_6_3 : nFt 6 3 .int false := fun q hq => by cases hq; exact ⟨by decide +kernel, rfl, rfl⟩
theorem cz_6 : nCo 6 := fun q hq => by
  cases hq
  refine ⟨fun w hw => ?_, nmX6, tyX6, tyX6_ok⟩
  obtain ⟨k, hk, rfl⟩ := List.mem_map.mp hw
  have hk := List.mem_range.mp hk
  match k, hk with
  | 0, _ => exact la_6_0
  | 1, _ => exact la_6_1
  | 2, _ => exact la_6_2
  | 3, _ => exact la_6_3
  | k + 4, hk => exact absurd (show k + 4 < 4 from hk) (by omega)
theorem la_7_0 : u_lay RX7 TX7 0 ∈ nWs := (nW1 147 rfl rfl)
theorem ft_7_0 : nFt 7 0 (.array (.object "NetLoft$Panel")) true := fun q hq => by cases hq; exact ⟨by decide +kernel, rfl, rfl⟩
theorem la_7_1 : u_lay RX7 TX7 1 ∈ nWs := (nW1 149 rfl rfl)
theorem ft_7_1 : nFt 7 1 .int false := fun q hq => by cases hq; exact ⟨by decide +kernel, rfl, rfl⟩
theorem la_7_2 : u_lay RX7 TX7 2 ∈ nWs := (nW1 151 rfl rfl)
theorem ft_7_2 : nFt 7 2 (.array .int) true := fun q hq => by cases hq; exact ⟨by decide +kernel, rfl, rfl⟩
theorem la_7_3 : u_lay RX7 TX7 3 ∈ nWs := (nW1 153 rfl rfl)
theorem ft_7_3 : nFt 7 3 .int false := fun q hq => by cases hq; exact ⟨by decide +kernel, rfl, rfl⟩
theorem la_7_4 : u_lay RX7 TX7 4 ∈ nWs := (nW1 155 rfl rfl)
theorem ft_7_4 : nFt 7 4 (.object "NetLoft$Hole") true := fun q hq => by cases hq; exact ⟨by decide +kernel, rfl, rfl⟩
theorem la_7_5 : u_lay RX7 TX7 5 ∈ nWs := (nW1 157 rfl rfl)
theorem ft_7_5 : nFt 7 5 (.object "NetLoft$Hole") true := fun q hq => by cases hq; exact ⟨by decide +kernel, rfl, rfl⟩
theorem la_7_6 : u_lay RX7 TX7 6 ∈ nWs := (nW1 159 rfl rfl)
theorem ft_7_6 : nFt 7 6 (.object "NetLoft$Way") true := fun q hq => by cases hq; exact ⟨by decide +kernel, rfl, rfl⟩
theorem la_7_7 : u_lay RX7 TX7 7 ∈ nWs := (nW1 161 rfl rfl)
theorem ft_7_7 : nFt 7 7 (.object "NetLoft$Taper") true := fun q hq => by cases hq; exact ⟨by decide +kernel, rfl, rfl⟩
theorem la_7_8 : u_lay RX7 TX7 8 ∈ nWs := (nW1 163 rfl rfl)
theorem ft_7_8 : nFt 7 8 (.object "NetLoft$Seam") true := fun q hq => by cases hq; exact ⟨by decide +kernel, rfl, rfl⟩
theorem la_7_9 : u_lay RX7 TX7 9 ∈ nWs := (nW1 165 rfl rfl)
theorem ft_7_9 : nFt 7 9 (.object "NetLoft$Loads") true := fun q hq => by cases hq; exact ⟨by decide +kernel, rfl, rfl⟩
theorem cz_7 : nCo 7 := fun q hq => by
  cases hq
  refine ⟨fun w hw => ?_, nmX7, tyX7, tyX7_ok⟩
  obtain ⟨k, hk, rfl⟩ := List.mem_map.mp hw
  have hk := List.mem_range.mp hk
  match k, hk with
  | 0, _ => exact la_7_0
  | 1, _ => exact la_7_1
  | 2, _ => exact la_7_2
  | 3, _ => exact la_7_3
  | 4, _ => exact la_7_4
  | 5, _ => exact la_7_5
  | 6, _ => exact la_7_6
  | 7, _ => exact la_7_7
  | 8, _ => exact la_7_8
  | 9, _ => exact la_7_9
  | k + 10, hk => exact absurd (show k + 10 < 10 from hk) (by omega)
theorem la_8_0 : u_lay RX8 TX8 0 ∈ nWs := (nW4 7 rfl rfl)
theorem ft_8_0 : nFt 8 0 .int false := fun q hq => by cases hq; exact ⟨by decide +kernel, rfl, rfl⟩
theorem la_8_1 : u_lay RX8 TX8 1 ∈ nWs := (nW4 9 rfl rfl)
theorem ft_8_1 : nFt 8 1 .int false := fun q hq => by cases hq; exact ⟨by decide +kernel, rfl, rfl⟩
theorem la_8_2 : u_lay RX8 TX8 2 ∈ nWs := (nW4 11 rfl rfl)
theorem ft_8_2 : nFt 8 2 (.array .int) true := fun q hq => by cases hq; exact ⟨by decide +kernel, rfl, rfl⟩
theorem la_8_3 : u_lay RX8 TX8 3 ∈ nWs := (nW4 13 rfl rfl)
theorem ft_8_3 : nFt 8 3 (.array .int) true := fun q hq => by cases hq; exact ⟨by decide +kernel, rfl, rfl⟩
theorem la_8_4 : u_lay RX8 TX8 4 ∈ nWs := (nW4 15 rfl rfl)
theorem ft_8_4 : nFt 8 4 (.array .int) true := fun q hq => by cases hq; exact ⟨by decide +kernel, rfl, rfl⟩
theorem la_8_5 : u_lay RX8 TX8 5 ∈ nWs := (nW4 17 rfl rfl)
theorem ft_8_5 : nFt 8 5 (.array .int) true := fun q hq => by cases hq; exact ⟨by decide +kernel, rfl, rfl⟩
theorem la_8_6 : u_lay RX8 TX8 6 ∈ nWs := (nW4 19 rfl rfl)
theorem ft_8_6 : nFt 8 6 (.array .int) true := fun q hq => by cases hq; exact ⟨by decide +kernel, rfl, rfl⟩
theorem la_8_7 : u_lay RX8 TX8 7 ∈ nWs := (nW4 21 rfl rfl)
theorem ft_8_7 : nFt 8 7 (.array .int) true := fun q hq => by cases hq; exact ⟨by decide +kernel, rfl, rfl⟩
theorem la_8_8 : u_lay RX8 TX8 8 ∈ nWs := (nW4 23 rfl rfl)
theorem ft_8_8 : nFt 8 8 (.array .int) true := fun q hq => by cases hq; exact ⟨by decide +kernel, rfl, rfl⟩
theorem la_8_9 : u_lay RX8 TX8 9 ∈ nWs := (nW4 25 rfl rfl)
theorem ft_8_9 : nFt 8 9 (.array .boolean) true := fun q hq => by cases hq; exact ⟨by decide +kernel, rfl, rfl⟩
theorem la_8_10 : u_lay RX8 TX8 10 ∈ nWs := (nW4 27 rfl rfl)
theorem ft_8_10 : nFt 8 10 (.array .int) true := fun q hq => by cases hq; exact ⟨by decide +kernel, rfl, rfl⟩
theorem la_8_11 : u_lay RX8 TX8 11 ∈ nWs := (nW4 29 rfl rfl)
theorem ft_8_11 : nFt 8 11 (.array .int) true := fun q hq => by cases hq; exact ⟨by decide +kernel, rfl, rfl⟩
theorem la_8_12 : u_lay RX8 TX8 12 ∈ nWs := (nW4 31 rfl rfl)
theorem ft_8_12 : nFt 8 12 (.array .int) true := fun q hq => by cases hq; exact ⟨by decide +kernel, rfl, rfl⟩
theorem la_8_13 : u_lay RX8 TX8 13 ∈ nWs := (nW4 33 rfl rfl)
theorem ft_8_13 : nFt 8 13 (.array .int) true := fun q hq => by cases hq; exact ⟨by decide +kernel, rfl, rfl⟩
theorem la_8_14 : u_lay RX8 TX8 14 ∈ nWs := (nW4 35 rfl rfl)
theorem ft_8_14 : nFt 8 14 (.array .int) true := fun q hq => by cases hq; exact ⟨by decide +kernel, rfl, rfl⟩
theorem la_8_15 : u_lay RX8 TX8 15 ∈ nWs := (nW4 37 rfl rfl)
theorem ft_8_15 : nFt 8 15 (.array .boolean) true := fun q hq => by cases hq; exact ⟨by decide +kernel, rfl, rfl⟩
theorem la_8_16 : u_lay RX8 TX8 16 ∈ nWs := (nW4 39 rfl rfl)
theorem ft_8_16 : nFt 8 16 .int false := fun q hq => by cases hq; exact ⟨by decide +kernel, rfl, rfl⟩
theorem la_8_17 : u_lay RX8 TX8 17 ∈ nWs := (nW4 41 rfl rfl)
theorem ft_8_17 : nFt 8 17 (.array .int) true := fun q hq => by cases hq; exact ⟨by decide +kernel, rfl, rfl⟩
theorem la_8_18 : u_lay RX8 TX8 18 ∈ nWs := (nW4 43 rfl rfl)
theorem ft_8_18 : nFt 8 18 (.array .boolean) true := fun q hq => by cases hq; exact ⟨by decide +kernel, rfl, rfl⟩
theorem la_8_19 : u_lay RX8 TX8 19 ∈ nWs := (nW4 45 rfl rfl)
theorem ft_8_19 : nFt 8 19 (.array .int) true := fun q hq => by cases hq; exact ⟨by decide +kernel, rfl, rfl⟩
theorem la_8_20 : u_lay RX8 TX8 20 ∈ nWs := (nW4 47 rfl rfl)
theorem ft_8_20 : nFt 8 20 .int false := fun q hq => by cases hq; exact ⟨by decide +kernel, rfl, rfl⟩
theorem la_8_21 : u_lay RX8 TX8 21 ∈ nWs := (nW4 49 rfl rfl)
theorem ft_8_21 : nFt 8 21 .int false := fun q hq => by cases hq; exact ⟨by decide +kernel, rfl, rfl⟩
theorem la_8_22 : u_lay RX8 TX8 22 ∈ nWs := (nW4 51 rfl rfl)
theorem ft_8_22 : nFt 8 22 .boolean false := fun q hq => by cases hq; exact ⟨by decide +kernel, rfl, rfl⟩
theorem la_8_23 : u_lay RX8 TX8 23 ∈ nWs := (nW4 53 rfl rfl)
theorem ft_8_23 : nFt 8 23 .int false := fun q hq => by cases hq; exact ⟨by decide +kernel, rfl, rfl⟩
theorem la_8_24 : u_lay RX8 TX8 24 ∈ nWs := (nW4 55 rfl rfl)
theorem ft_8_24 : nFt 8 24 .int false := fun q hq => by cases hq; exact ⟨by decide +kernel, rfl, rfl⟩
theorem la_8_25 : u_lay RX8 TX8 25 ∈ nWs := (nW4 57 rfl rfl)
theorem ft_8_25 : nFt 8 25 .int false := fun q hq => by cases hq; exact ⟨by decide +kernel, rfl, rfl⟩
theorem la_8_26 : u_lay RX8 TX8 26 ∈ nWs := (nW4 59 rfl rfl)
theorem ft_8_26 : nFt 8 26 (.array .int) true := fun q hq => by cases hq; exact ⟨by decide +kernel, rfl, rfl⟩
theorem la_8_27 : u_lay RX8 TX8 27 ∈ nWs := (nW4 61 rfl rfl)
theorem ft_8_27 : nFt 8 27 (.array .boolean) true := fun q hq => by cases hq; exact ⟨by decide +kernel, rfl, rfl⟩
theorem la_8_28 : u_lay RX8 TX8 28 ∈ nWs := (nW4 63 rfl rfl)
theorem ft_8_28 : nFt 8 28 .int false := fun q hq => by cases hq; exact ⟨by decide +kernel, rfl, rfl⟩
theorem la_8_29 : u_lay RX8 TX8 29 ∈ nWs := (nW4 65 rfl rfl)
theorem ft_8_29 : nFt 8 29 (.array .int) true := fun q hq => by cases hq; exact ⟨by decide +kernel, rfl, rfl⟩
theorem la_8_30 : u_lay RX8 TX8 30 ∈ nWs := (nW4 67 rfl rfl)
theorem ft_8_30 : nFt 8 30 (.array .boolean) true := fun q hq => by cases hq; exact ⟨by decide +kernel, rfl, rfl⟩
theorem la_8_31 : u_lay RX8 TX8 31 ∈ nWs := (nW4 69 rfl rfl)
theorem ft_8_31 : nFt 8 31 .int false := fun q hq => by cases hq; exact ⟨by decide +kernel, rfl, rfl⟩
theorem la_8_32 : u_lay RX8 TX8 32 ∈ nWs := (nW4 71 rfl rfl)
theorem ft_8_32 : nFt 8 32 .int false := fun q hq => by cases hq; exact ⟨by decide +kernel, rfl, rfl⟩
theorem la_8_33 : u_lay RX8 TX8 33 ∈ nWs := (nW4 73 rfl rfl)
theorem ft_8_33 : nFt 8 33 .int false := fun q hq => by cases hq; exact ⟨by decide +kernel, rfl, rfl⟩
theorem la_8_34 : u_lay RX8 TX8 34 ∈ nWs := (nW4 75 rfl rfl)
theorem ft_8_34 : nFt 8 34 .int false := fun q hq => by cases hq; exact ⟨by decide +kernel, rfl, rfl⟩
theorem la_8_35 : u_lay RX8 TX8 35 ∈ nWs := (nW4 77 rfl rfl)
theorem ft_8_35 : nFt 8 35 (.array .int) true := fun q hq => by cases hq; exact ⟨by decide +kernel, rfl, rfl⟩
theorem la_8_36 : u_lay RX8 TX8 36 ∈ nWs := (nW4 79 rfl rfl)
theorem ft_8_36 : nFt 8 36 (.array .long) true := fun q hq => by cases hq; exact ⟨by decide +kernel, rfl, rfl⟩
theorem la_8_37 : u_lay RX8 TX8 37 ∈ nWs := (nW4 81 rfl rfl)
theorem ft_8_37 : nFt 8 37 .long false := fun q hq => by cases hq; exact ⟨by decide +kernel, rfl, rfl⟩
theorem la_8_38 : u_lay RX8 TX8 38 ∈ nWs := (nW4 83 rfl rfl)
theorem ft_8_38 : nFt 8 38 .long false := fun q hq => by cases hq; exact ⟨by decide +kernel, rfl, rfl⟩
theorem cz_8 : nCo 8 := fun q hq => by
  cases hq
  refine ⟨fun w hw => ?_, nmX8, tyX8, tyX8_ok⟩
  obtain ⟨k, hk, rfl⟩ := List.mem_map.mp hw
  have hk := List.mem_range.mp hk
  match k, hk with
  | 0, _ => exact la_8_0
  | 1, _ => exact la_8_1
  | 2, _ => exact la_8_2
  | 3, _ => exact la_8_3
  | 4, _ => exact la_8_4
  | 5, _ => exact la_8_5
  | 6, _ => exact la_8_6
  | 7, _ => exact la_8_7
  | 8, _ => exact la_8_8
  | 9, _ => exact la_8_9
  | 10, _ => exact la_8_10
  | 11, _ => exact la_8_11
  | 12, _ => exact la_8_12
  | 13, _ => exact la_8_13
  | 14, _ => exact la_8_14
  | 15, _ => exact la_8_15
  | 16, _ => exact la_8_16
  | 17, _ => exact la_8_17
  | 18, _ => exact la_8_18
  | 19, _ => exact la_8_19
  | 20, _ => exact la_8_20
  | 21, _ => exact la_8_21
  | 22, _ => exact la_8_22
  | 23, _ => exact la_8_23
  | 24, _ => exact la_8_24
  | 25, _ => exact la_8_25
  | 26, _ => exact la_8_26
  | 27, _ => exact la_8_27
  | 28, _ => exact la_8_28
  | 29, _ => exact la_8_29
  | 30, _ => exact la_8_30
  | 31, _ => exact la_8_31
  | 32, _ => exact la_8_32
  | 33, _ => exact la_8_33
  | 34, _ => exact la_8_34
  | 35, _ => exact la_8_35
  | 36, _ => exact la_8_36
  | 37, _ => exact la_8_37
  | 38, _ => exact la_8_38
  | k + 39, hk => exact absurd (show k + 39 < 39 from hk) (by omega)
theorem co_all : ∀ c, nCo c
  | 0 => cz_0
  | 1 => cz_1
  | 2 => cz_2
  | 3 => cz_3
  | 4 => cz_4
  | 5 => cz_5
  | 6 => cz_6
  | 7 => cz_7
  | 8 => cz_8
  | c + 9 => fun q hq => by simp at hq
theorem mo_X0_init : nMo YX0_init 0 := ⟨(nW1 27 rfl rfl), (nW1 2 rfl rfl), ⟨by decide +kernel, by decide +kernel⟩, by decide +kernel⟩
theorem ii_X0_init : nIi YX0_init := ⟨(nW1 26 rfl rfl), rfl⟩
theorem mo_X0_trace : nMo YX0_trace 3 := ⟨(nW2 215 rfl rfl), (nW1 2 rfl rfl), ⟨by decide +kernel, by decide +kernel⟩, by decide +kernel⟩
theorem vi_X0_trace : nVi YX0_trace := ⟨(nW2 213 rfl rfl), (nW2 214 rfl rfl)⟩
theorem mo_X0_clear : nMo YX0_clear 0 := ⟨(nW2 219 rfl rfl), (nW1 2 rfl rfl), ⟨by decide +kernel, by decide +kernel⟩, by decide +kernel⟩
theorem vi_X0_clear : nVi YX0_clear := ⟨(nW2 218 rfl rfl), (nWp 3 (by decide +kernel) rfl)⟩
theorem mo_X0_reach : nMo YX0_reach 2 := ⟨(nW2 224 rfl rfl), (nW1 2 rfl rfl), ⟨by decide +kernel, by decide +kernel⟩, by decide +kernel⟩
theorem vi_X0_reach : nVi YX0_reach := ⟨(nW2 223 rfl rfl), (nWp 4 (by decide +kernel) rfl)⟩
theorem mo_X0_reachFrom : nMo YX0_reachFrom 3 := ⟨(nW2 229 rfl rfl), (nW1 2 rfl rfl), ⟨by decide +kernel, by decide +kernel⟩, by decide +kernel⟩
theorem vi_X0_reachFrom : nVi YX0_reachFrom := ⟨(nW2 228 rfl rfl), (nWp 5 (by decide +kernel) rfl)⟩
theorem mo_X0_listReached : nMo YX0_listReached 1 := ⟨(nW2 235 rfl rfl), (nW1 2 rfl rfl), ⟨by decide +kernel, by decide +kernel⟩, by decide +kernel⟩
theorem vi_X0_listReached : nVi YX0_listReached := ⟨(nW2 234 rfl rfl), (nWp 6 (by decide +kernel) rfl)⟩
theorem mo_X0_twines : nMo YX0_twines 0 := ⟨(nW3 7 rfl rfl), (nW1 2 rfl rfl), ⟨by decide +kernel, by decide +kernel⟩, by decide +kernel⟩
theorem vi_X0_twines : nVi YX0_twines := ⟨(nW3 5 rfl rfl), (nW3 6 rfl rfl)⟩
theorem mo_X0_tell : nMo YX0_tell 2 := ⟨(nW3 3 rfl rfl), (nW1 2 rfl rfl), ⟨by decide +kernel, by decide +kernel⟩, by decide +kernel⟩
theorem vi_X0_tell : nVi YX0_tell := ⟨(nW3 1 rfl rfl), (nW3 2 rfl rfl)⟩
theorem mo_X0_hasNeedle : nMo YX0_hasNeedle 1 := ⟨(nW3 16 rfl rfl), (nW1 2 rfl rfl), ⟨by decide +kernel, by decide +kernel⟩, by decide +kernel⟩
theorem vi_X0_hasNeedle : nVi YX0_hasNeedle := ⟨(nW3 14 rfl rfl), (nW3 15 rfl rfl)⟩
theorem mo_X0_beginning : nMo YX0_beginning 0 := ⟨(nW3 21 rfl rfl), (nW1 2 rfl rfl), ⟨by decide +kernel, by decide +kernel⟩, by decide +kernel⟩
theorem vi_X0_beginning : nVi YX0_beginning := ⟨(nW3 19 rfl rfl), (nW3 20 rfl rfl)⟩
theorem mo_X1_init : nMo YX1_init 0 := ⟨(nW1 116 rfl rfl), (nW1 6 rfl rfl), ⟨by decide +kernel, by decide +kernel⟩, by decide +kernel⟩
theorem ii_X1_init : nIi YX1_init := ⟨(nW1 115 rfl rfl), rfl⟩
theorem mo_X1_leadDown : nMo YX1_leadDown 1 := ⟨(nW3 156 rfl rfl), (nW1 6 rfl rfl), ⟨by decide +kernel, by decide +kernel⟩, by decide +kernel⟩
theorem vi_X1_leadDown : nVi YX1_leadDown := ⟨(nW3 154 rfl rfl), (nW3 155 rfl rfl)⟩
theorem mo_X1_countWholeSides : nMo YX1_countWholeSides 1 := ⟨(nW3 162 rfl rfl), (nW1 6 rfl rfl), ⟨by decide +kernel, by decide +kernel⟩, by decide +kernel⟩
theorem vi_X1_countWholeSides : nVi YX1_countWholeSides := ⟨(nW3 161 rfl rfl), (nWp 12 (by decide +kernel) rfl)⟩
theorem mo_X1_lose : nMo YX1_lose 2 := ⟨(nW3 172 rfl rfl), (nW1 6 rfl rfl), ⟨by decide +kernel, by decide +kernel⟩, by decide +kernel⟩
theorem vi_X1_lose : nVi YX1_lose := ⟨(nW3 171 rfl rfl), (nWp 13 (by decide +kernel) rfl)⟩
theorem mo_X1_handOn : nMo YX1_handOn 2 := ⟨(nW3 176 rfl rfl), (nW1 6 rfl rfl), ⟨by decide +kernel, by decide +kernel⟩, by decide +kernel⟩
theorem vi_X1_handOn : nVi YX1_handOn := ⟨(nW3 175 rfl rfl), (nWp 14 (by decide +kernel) rfl)⟩
theorem mo_X1_inAll : nMo YX1_inAll 2 := ⟨(nW3 180 rfl rfl), (nW1 6 rfl rfl), ⟨by decide +kernel, by decide +kernel⟩, by decide +kernel⟩
theorem vi_X1_inAll : nVi YX1_inAll := ⟨(nW3 179 rfl rfl), (nWp 15 (by decide +kernel) rfl)⟩
theorem mo_X1_firstAbove : nMo YX1_firstAbove 1 := ⟨(nW3 199 rfl rfl), (nW1 6 rfl rfl), ⟨by decide +kernel, by decide +kernel⟩, by decide +kernel⟩
theorem vi_X1_firstAbove : nVi YX1_firstAbove := ⟨(nW3 197 rfl rfl), (nW3 198 rfl rfl)⟩
theorem mo_X1_isAbove : nMo YX1_isAbove 2 := ⟨(nW3 202 rfl rfl), (nW1 6 rfl rfl), ⟨by decide +kernel, by decide +kernel⟩, by decide +kernel⟩
theorem sc_X1_isAbove : nSc YX1_isAbove := (nW3 201 rfl rfl)
theorem mo_X1_term : nMo YX1_term 2 := ⟨(nW3 183 rfl rfl), (nW1 6 rfl rfl), ⟨by decide +kernel, by decide +kernel⟩, by decide +kernel⟩
theorem sc_X1_term : nSc YX1_term := (nW3 182 rfl rfl)
theorem mo_X1_commonDivisor : nMo YX1_commonDivisor 2 := ⟨(nW3 186 rfl rfl), (nW1 6 rfl rfl), ⟨by decide +kernel, by decide +kernel⟩, by decide +kernel⟩
theorem sc_X1_commonDivisor : nSc YX1_commonDivisor := (nW3 185 rfl rfl)
theorem mo_X2_init : nMo YX2_init 2 := ⟨(nW1 179 rfl rfl), (nW1 8 rfl rfl), ⟨by decide +kernel, by decide +kernel⟩, by decide +kernel⟩
theorem ii_X2_init : nIi YX2_init := ⟨(nW1 178 rfl rfl), rfl⟩
theorem mo_X2_rowAt : nMo YX2_rowAt 1 := ⟨(nW2 46 rfl rfl), (nW1 8 rfl rfl), ⟨by decide +kernel, by decide +kernel⟩, by decide +kernel⟩
theorem vi_X2_rowAt : nVi YX2_rowAt := ⟨(nW2 44 rfl rfl), (nW2 45 rfl rfl)⟩
theorem mo_X2_lastRow : nMo YX2_lastRow 0 := ⟨(nW2 42 rfl rfl), (nW1 8 rfl rfl), ⟨by decide +kernel, by decide +kernel⟩, by decide +kernel⟩
theorem vi_X2_lastRow : nVi YX2_lastRow := ⟨(nW2 40 rfl rfl), (nW2 41 rfl rfl)⟩
theorem mo_X2_rowWith : nMo YX2_rowWith 2 := ⟨(nW2 119 rfl rfl), (nW1 8 rfl rfl), ⟨by decide +kernel, by decide +kernel⟩, by decide +kernel⟩
theorem vi_X2_rowWith : nVi YX2_rowWith := ⟨(nW2 117 rfl rfl), (nW2 118 rfl rfl)⟩
theorem mo_X2_append : nMo YX2_append 1 := ⟨(nW2 22 rfl rfl), (nW1 8 rfl rfl), ⟨by decide +kernel, by decide +kernel⟩, by decide +kernel⟩
theorem vi_X2_append : nVi YX2_append := ⟨(nW2 20 rfl rfl), (nW2 21 rfl rfl)⟩
theorem mo_X2_appendCopies : nMo YX2_appendCopies 1 := ⟨(nW3 85 rfl rfl), (nW1 8 rfl rfl), ⟨by decide +kernel, by decide +kernel⟩, by decide +kernel⟩
theorem vi_X2_appendCopies : nVi YX2_appendCopies := ⟨(nW3 83 rfl rfl), (nW3 84 rfl rfl)⟩
theorem mo_X2_hangRow : nMo YX2_hangRow 0 := ⟨(nW2 38 rfl rfl), (nW1 8 rfl rfl), ⟨by decide +kernel, by decide +kernel⟩, by decide +kernel⟩
theorem vi_X2_hangRow : nVi YX2_hangRow := ⟨(nW2 36 rfl rfl), (nW2 37 rfl rfl)⟩
theorem mo_X2_bearsShaping : nMo YX2_bearsShaping 3 := ⟨(nW2 85 rfl rfl), (nW1 8 rfl rfl), ⟨by decide +kernel, by decide +kernel⟩, by decide +kernel⟩
theorem vi_X2_bearsShaping : nVi YX2_bearsShaping := ⟨(nW2 83 rfl rfl), (nW2 84 rfl rfl)⟩
theorem mo_X2_shapeRows : nMo YX2_shapeRows 3 := ⟨(nW2 93 rfl rfl), (nW1 8 rfl rfl), ⟨by decide +kernel, by decide +kernel⟩, by decide +kernel⟩
theorem vi_X2_shapeRows : nVi YX2_shapeRows := ⟨(nW2 91 rfl rfl), (nW2 92 rfl rfl)⟩
theorem mo_X2_goneSidesAt : nMo YX2_goneSidesAt 2 := ⟨(nW2 134 rfl rfl), (nW1 8 rfl rfl), ⟨by decide +kernel, by decide +kernel⟩, by decide +kernel⟩
theorem vi_X2_goneSidesAt : nVi YX2_goneSidesAt := ⟨(nW2 132 rfl rfl), (nW2 133 rfl rfl)⟩
theorem mo_X2_cutSidesAt : nMo YX2_cutSidesAt 2 := ⟨(nW2 185 rfl rfl), (nW1 8 rfl rfl), ⟨by decide +kernel, by decide +kernel⟩, by decide +kernel⟩
theorem vi_X2_cutSidesAt : nVi YX2_cutSidesAt := ⟨(nW2 183 rfl rfl), (nW2 184 rfl rfl)⟩
theorem mo_X2_goneAbove : nMo YX2_goneAbove 2 := ⟨(nW3 36 rfl rfl), (nW1 8 rfl rfl), ⟨by decide +kernel, by decide +kernel⟩, by decide +kernel⟩
theorem vi_X2_goneAbove : nVi YX2_goneAbove := ⟨(nW3 34 rfl rfl), (nW3 35 rfl rfl)⟩
theorem mo_X2_goneBelow : nMo YX2_goneBelow 2 := ⟨(nW3 45 rfl rfl), (nW1 8 rfl rfl), ⟨by decide +kernel, by decide +kernel⟩, by decide +kernel⟩
theorem vi_X2_goneBelow : nVi YX2_goneBelow := ⟨(nW3 43 rfl rfl), (nW3 44 rfl rfl)⟩
theorem mo_X2_totalOf : nMo YX2_totalOf 1 := ⟨(nW2 156 rfl rfl), (nW1 8 rfl rfl), ⟨by decide +kernel, by decide +kernel⟩, by decide +kernel⟩
theorem vi_X2_totalOf : nVi YX2_totalOf := ⟨(nW2 154 rfl rfl), (nW2 155 rfl rfl)⟩
theorem mo_X3_init : nMo YX3_init 1 := ⟨(nW1 218 rfl rfl), (nW1 9 rfl rfl), ⟨by decide +kernel, by decide +kernel⟩, by decide +kernel⟩
theorem ii_X3_init : nIi YX3_init := ⟨(nW1 217 rfl rfl), rfl⟩
theorem mo_X3_copied : nMo YX3_copied 0 := ⟨(nW3 89 rfl rfl), (nW1 9 rfl rfl), ⟨by decide +kernel, by decide +kernel⟩, by decide +kernel⟩
theorem vi_X3_copied : nVi YX3_copied := ⟨(nW3 87 rfl rfl), (nW3 88 rfl rfl)⟩
theorem mo_X3_has : nMo YX3_has 1 := ⟨(nW2 70 rfl rfl), (nW1 9 rfl rfl), ⟨by decide +kernel, by decide +kernel⟩, by decide +kernel⟩
theorem vi_X3_has : nVi YX3_has := ⟨(nW2 68 rfl rfl), (nW2 69 rfl rfl)⟩
theorem mo_X3_turn : nMo YX3_turn 2 := ⟨(nW2 74 rfl rfl), (nW1 9 rfl rfl), ⟨by decide +kernel, by decide +kernel⟩, by decide +kernel⟩
theorem vi_X3_turn : nVi YX3_turn := ⟨(nW2 72 rfl rfl), (nW2 73 rfl rfl)⟩
theorem mo_X3_turnEvery : nMo YX3_turnEvery 2 := ⟨(nW2 97 rfl rfl), (nW1 9 rfl rfl), ⟨by decide +kernel, by decide +kernel⟩, by decide +kernel⟩
theorem vi_X3_turnEvery : nVi YX3_turnEvery := ⟨(nW2 95 rfl rfl), (nW2 96 rfl rfl)⟩
theorem mo_X3_givenInAll : nMo YX3_givenInAll 0 := ⟨(nW2 51 rfl rfl), (nW1 9 rfl rfl), ⟨by decide +kernel, by decide +kernel⟩, by decide +kernel⟩
theorem vi_X3_givenInAll : nVi YX3_givenInAll := ⟨(nW2 49 rfl rfl), (nW2 50 rfl rfl)⟩
theorem mo_X3_giverBehind : nMo YX3_giverBehind 1 := ⟨(nW2 60 rfl rfl), (nW1 9 rfl rfl), ⟨by decide +kernel, by decide +kernel⟩, by decide +kernel⟩
theorem vi_X3_giverBehind : nVi YX3_giverBehind := ⟨(nW2 58 rfl rfl), (nW2 59 rfl rfl)⟩
theorem mo_X3_hangIn : nMo YX3_hangIn 1 := ⟨(nW2 56 rfl rfl), (nW1 9 rfl rfl), ⟨by decide +kernel, by decide +kernel⟩, by decide +kernel⟩
theorem vi_X3_hangIn : nVi YX3_hangIn := ⟨(nW2 54 rfl rfl), (nW2 55 rfl rfl)⟩
theorem mo_X3_hangInNothing : nMo YX3_hangInNothing 0 := ⟨(nW2 203 rfl rfl), (nW1 9 rfl rfl), ⟨by decide +kernel, by decide +kernel⟩, by decide +kernel⟩
theorem vi_X3_hangInNothing : nVi YX3_hangInNothing := ⟨(nW2 201 rfl rfl), (nW2 202 rfl rfl)⟩
theorem mo_X3_placeOfSide : nMo YX3_placeOfSide 2 := ⟨(nW2 130 rfl rfl), (nW1 9 rfl rfl), ⟨by decide +kernel, by decide +kernel⟩, by decide +kernel⟩
theorem vi_X3_placeOfSide : nVi YX3_placeOfSide := ⟨(nW2 128 rfl rfl), (nW2 129 rfl rfl)⟩
theorem mo_X3_placeOfWholeSide : nMo YX3_placeOfWholeSide 2 := ⟨(nW3 166 rfl rfl), (nW1 9 rfl rfl), ⟨by decide +kernel, by decide +kernel⟩, by decide +kernel⟩
theorem vi_X3_placeOfWholeSide : nVi YX3_placeOfWholeSide := ⟨(nW3 164 rfl rfl), (nW3 165 rfl rfl)⟩
theorem mo_X3_hangsBy : nMo YX3_hangsBy 2 := ⟨(nW2 144 rfl rfl), (nW1 9 rfl rfl), ⟨by decide +kernel, by decide +kernel⟩, by decide +kernel⟩
theorem vi_X3_hangsBy : nVi YX3_hangsBy := ⟨(nW2 142 rfl rfl), (nW2 143 rfl rfl)⟩
theorem mo_X3_isGone : nMo YX3_isGone 2 := ⟨(nW2 140 rfl rfl), (nW1 9 rfl rfl), ⟨by decide +kernel, by decide +kernel⟩, by decide +kernel⟩
theorem vi_X3_isGone : nVi YX3_isGone := ⟨(nW2 138 rfl rfl), (nW2 139 rfl rfl)⟩
theorem mo_X3_sideIsGone : nMo YX3_sideIsGone 2 := ⟨(nW2 148 rfl rfl), (nW1 9 rfl rfl), ⟨by decide +kernel, by decide +kernel⟩, by decide +kernel⟩
theorem vi_X3_sideIsGone : nVi YX3_sideIsGone := ⟨(nW2 146 rfl rfl), (nW2 147 rfl rfl)⟩
theorem mo_X3_isWhole : nMo YX3_isWhole 2 := ⟨(nW2 189 rfl rfl), (nW1 9 rfl rfl), ⟨by decide +kernel, by decide +kernel⟩, by decide +kernel⟩
theorem vi_X3_isWhole : nVi YX3_isWhole := ⟨(nW2 187 rfl rfl), (nW2 188 rfl rfl)⟩
theorem mo_X3_setSide : nMo YX3_setSide 3 := ⟨(nW2 177 rfl rfl), (nW1 9 rfl rfl), ⟨by decide +kernel, by decide +kernel⟩, by decide +kernel⟩
theorem vi_X3_setSide : nVi YX3_setSide := ⟨(nW2 175 rfl rfl), (nW2 176 rfl rfl)⟩
theorem mo_X3_setSideTo : nMo YX3_setSideTo 3 := ⟨(nW2 194 rfl rfl), (nW1 9 rfl rfl), ⟨by decide +kernel, by decide +kernel⟩, by decide +kernel⟩
theorem vi_X3_setSideTo : nVi YX3_setSideTo := ⟨(nW2 192 rfl rfl), (nW2 193 rfl rfl)⟩
theorem mo_X3_countOver : nMo YX3_countOver 1 := ⟨(nW2 160 rfl rfl), (nW1 9 rfl rfl), ⟨by decide +kernel, by decide +kernel⟩, by decide +kernel⟩
theorem vi_X3_countOver : nVi YX3_countOver := ⟨(nW2 158 rfl rfl), (nW2 159 rfl rfl)⟩
theorem mo_X3_shareOf : nMo YX3_shareOf 2 := ⟨(nW2 164 rfl rfl), (nW1 9 rfl rfl), ⟨by decide +kernel, by decide +kernel⟩, by decide +kernel⟩
theorem vi_X3_shareOf : nVi YX3_shareOf := ⟨(nW2 163 rfl rfl), (nWp 2 (by decide +kernel) rfl)⟩
theorem mo_X4_init : nMo YX4_init 0 := ⟨(nW1 101 rfl rfl), (nW1 5 rfl rfl), ⟨by decide +kernel, by decide +kernel⟩, by decide +kernel⟩
theorem ii_X4_init : nIi YX4_init := ⟨(nW1 100 rfl rfl), rfl⟩
theorem mo_X4_join : nMo YX4_join 2 := ⟨(nW3 98 rfl rfl), (nW1 5 rfl rfl), ⟨by decide +kernel, by decide +kernel⟩, by decide +kernel⟩
theorem vi_X4_join : nVi YX4_join := ⟨(nW3 96 rfl rfl), (nW3 97 rfl rfl)⟩
theorem mo_X4_spread : nMo YX4_spread 2 := ⟨(nW3 108 rfl rfl), (nW1 5 rfl rfl), ⟨by decide +kernel, by decide +kernel⟩, by decide +kernel⟩
theorem vi_X4_spread : nVi YX4_spread := ⟨(nW3 107 rfl rfl), (nWp 9 (by decide +kernel) rfl)⟩
theorem mo_X4_giveOneEach : nMo YX4_giveOneEach 1 := ⟨(nW3 114 rfl rfl), (nW1 5 rfl rfl), ⟨by decide +kernel, by decide +kernel⟩, by decide +kernel⟩
theorem vi_X4_giveOneEach : nVi YX4_giveOneEach := ⟨(nW3 113 rfl rfl), (nWp 10 (by decide +kernel) rfl)⟩
theorem mo_X5_init : nMo YX5_init 0 := ⟨(nW1 85 rfl rfl), (nW1 4 rfl rfl), ⟨by decide +kernel, by decide +kernel⟩, by decide +kernel⟩
theorem ii_X5_init : nIi YX5_init := ⟨(nW1 84 rfl rfl), rfl⟩
theorem mo_X5_find : nMo YX5_find 2 := ⟨(nW3 66 rfl rfl), (nW1 4 rfl rfl), ⟨by decide +kernel, by decide +kernel⟩, by decide +kernel⟩
theorem vi_X5_find : nVi YX5_find := ⟨(nW3 64 rfl rfl), (nW3 65 rfl rfl)⟩
theorem mo_X5_tell : nMo YX5_tell 1 := ⟨(nW3 74 rfl rfl), (nW1 4 rfl rfl), ⟨by decide +kernel, by decide +kernel⟩, by decide +kernel⟩
theorem vi_X5_tell : nVi YX5_tell := ⟨(nW3 72 rfl rfl), (nW3 73 rfl rfl)⟩
theorem mo_X6_init : nMo YX6_init 0 := ⟨(nW1 65 rfl rfl), (nW1 3 rfl rfl), ⟨by decide +kernel, by decide +kernel⟩, by decide +kernel⟩
theorem ii_X6_init : nIi YX6_init := ⟨(nW1 64 rfl rfl), rfl⟩
theorem mo_X6_knotAt : nMo YX6_knotAt 1 := ⟨(nW3 57 rfl rfl), (nW1 3 rfl rfl), ⟨by decide +kernel, by decide +kernel⟩, by decide +kernel⟩
theorem vi_X6_knotAt : nVi YX6_knotAt := ⟨(nW3 55 rfl rfl), (nW3 56 rfl rfl)⟩
theorem mo_X6_walk : nMo YX6_walk 2 := ⟨(nW3 25 rfl rfl), (nW1 3 rfl rfl), ⟨by decide +kernel, by decide +kernel⟩, by decide +kernel⟩
theorem vi_X6_walk : nVi YX6_walk := ⟨(nW3 23 rfl rfl), (nW3 24 rfl rfl)⟩
theorem mo_X6_goTo : nMo YX6_goTo 1 := ⟨(nW3 29 rfl rfl), (nW1 3 rfl rfl), ⟨by decide +kernel, by decide +kernel⟩, by decide +kernel⟩
theorem vi_X6_goTo : nVi YX6_goTo := ⟨(nW3 28 rfl rfl), (nWp 7 (by decide +kernel) rfl)⟩
theorem mo_X6_goBackFrom : nMo YX6_goBackFrom 1 := ⟨(nW3 49 rfl rfl), (nW1 3 rfl rfl), ⟨by decide +kernel, by decide +kernel⟩, by decide +kernel⟩
theorem vi_X6_goBackFrom : nVi YX6_goBackFrom := ⟨(nW3 48 rfl rfl), (nWp 8 (by decide +kernel) rfl)⟩
theorem mo_X6_mendOneFrom : nMo YX6_mendOneFrom 3 := ⟨(nW3 32 rfl rfl), (nW1 3 rfl rfl), ⟨by decide +kernel, by decide +kernel⟩, by decide +kernel⟩
theorem sc_X6_mendOneFrom : nSc YX6_mendOneFrom := (nW3 31 rfl rfl)
theorem mo_X6_makeWhole : nMo YX6_makeWhole 3 := ⟨(nW3 40 rfl rfl), (nW1 3 rfl rfl), ⟨by decide +kernel, by decide +kernel⟩, by decide +kernel⟩
theorem sc_X6_makeWhole : nSc YX6_makeWhole := (nW3 39 rfl rfl)
theorem mo_X7_init : nMo YX7_init 0 := ⟨(nW1 17 rfl rfl), (nW1 1 rfl rfl), ⟨by decide +kernel, by decide +kernel⟩, by decide +kernel⟩
theorem ii_X7_init : nIi YX7_init := ⟨(nW1 16 rfl rfl), rfl⟩
theorem mo_X7_panel : nMo YX7_panel 3 := ⟨(nW1 171 rfl rfl), (nW1 1 rfl rfl), ⟨by decide +kernel, by decide +kernel⟩, by decide +kernel⟩
theorem vi_X7_panel : nVi YX7_panel := ⟨(nW1 169 rfl rfl), (nW1 170 rfl rfl)⟩
theorem mo_X7_row : nMo YX7_row 1 := ⟨(nW2 30 rfl rfl), (nW1 1 rfl rfl), ⟨by decide +kernel, by decide +kernel⟩, by decide +kernel⟩
theorem vi_X7_row : nVi YX7_row := ⟨(nW2 28 rfl rfl), (nW2 29 rfl rfl)⟩
theorem mo_X7_kind : nMo YX7_kind 3 := ⟨(nW2 65 rfl rfl), (nW1 1 rfl rfl), ⟨by decide +kernel, by decide +kernel⟩, by decide +kernel⟩
theorem vi_X7_kind : nVi YX7_kind := ⟨(nW2 63 rfl rfl), (nW2 64 rfl rfl)⟩
theorem mo_X7_shape : nMo YX7_shape 4 := ⟨(nW2 78 rfl rfl), (nW1 1 rfl rfl), ⟨by decide +kernel, by decide +kernel⟩, by decide +kernel⟩
theorem vi_X7_shape : nVi YX7_shape := ⟨(nW2 76 rfl rfl), (nW2 77 rfl rfl)⟩
theorem mo_X7_ahead : nMo YX7_ahead 4 := ⟨(nW2 103 rfl rfl), (nW1 1 rfl rfl), ⟨by decide +kernel, by decide +kernel⟩, by decide +kernel⟩
theorem vi_X7_ahead : nVi YX7_ahead := ⟨(nW2 101 rfl rfl), (nW2 102 rfl rfl)⟩
theorem mo_X7_meshes : nMo YX7_meshes 2 := ⟨(nW2 110 rfl rfl), (nW1 1 rfl rfl), ⟨by decide +kernel, by decide +kernel⟩, by decide +kernel⟩
theorem vi_X7_meshes : nVi YX7_meshes := ⟨(nW2 108 rfl rfl), (nW2 109 rfl rfl)⟩
theorem mo_X7_of : nMo YX7_of 4 := ⟨(nW2 115 rfl rfl), (nW1 1 rfl rfl), ⟨by decide +kernel, by decide +kernel⟩, by decide +kernel⟩
theorem vi_X7_of : nVi YX7_of := ⟨(nW2 113 rfl rfl), (nW2 114 rfl rfl)⟩
theorem mo_X7_panelOf : nMo YX7_panelOf 2 := ⟨(nW2 152 rfl rfl), (nW1 1 rfl rfl), ⟨by decide +kernel, by decide +kernel⟩, by decide +kernel⟩
theorem vi_X7_panelOf : nVi YX7_panelOf := ⟨(nW2 150 rfl rfl), (nW2 151 rfl rfl)⟩
theorem mo_X7_count : nMo YX7_count 1 := ⟨(nW2 169 rfl rfl), (nW1 1 rfl rfl), ⟨by decide +kernel, by decide +kernel⟩, by decide +kernel⟩
theorem vi_X7_count : nVi YX7_count := ⟨(nW2 167 rfl rfl), (nW2 168 rfl rfl)⟩
theorem mo_X7_side : nMo YX7_side 5 := ⟨(nW2 173 rfl rfl), (nW1 1 rfl rfl), ⟨by decide +kernel, by decide +kernel⟩, by decide +kernel⟩
theorem vi_X7_side : nVi YX7_side := ⟨(nW2 171 rfl rfl), (nW2 172 rfl rfl)⟩
theorem mo_X7_cut : nMo YX7_cut 3 := ⟨(nW2 181 rfl rfl), (nW1 1 rfl rfl), ⟨by decide +kernel, by decide +kernel⟩, by decide +kernel⟩
theorem vi_X7_cut : nVi YX7_cut := ⟨(nW2 179 rfl rfl), (nW2 180 rfl rfl)⟩
theorem mo_X7_tear : nMo YX7_tear 2 := ⟨(nW2 199 rfl rfl), (nW1 1 rfl rfl), ⟨by decide +kernel, by decide +kernel⟩, by decide +kernel⟩
theorem vi_X7_tear : nVi YX7_tear := ⟨(nW2 197 rfl rfl), (nW2 198 rfl rfl)⟩
theorem mo_X7_needle : nMo YX7_needle 4 := ⟨(nW2 207 rfl rfl), (nW1 1 rfl rfl), ⟨by decide +kernel, by decide +kernel⟩, by decide +kernel⟩
theorem vi_X7_needle : nVi YX7_needle := ⟨(nW2 205 rfl rfl), (nW2 206 rfl rfl)⟩
theorem mo_X7_hole : nMo YX7_hole 3 := ⟨(nW2 211 rfl rfl), (nW1 1 rfl rfl), ⟨by decide +kernel, by decide +kernel⟩, by decide +kernel⟩
theorem vi_X7_hole : nVi YX7_hole := ⟨(nW2 209 rfl rfl), (nW2 210 rfl rfl)⟩
theorem mo_X7_edge : nMo YX7_edge 2 := ⟨(nW2 239 rfl rfl), (nW1 1 rfl rfl), ⟨by decide +kernel, by decide +kernel⟩, by decide +kernel⟩
theorem vi_X7_edge : nVi YX7_edge := ⟨(nW2 237 rfl rfl), (nW2 238 rfl rfl)⟩
theorem mo_X7_mend : nMo YX7_mend 3 := ⟨(nW3 11 rfl rfl), (nW1 1 rfl rfl), ⟨by decide +kernel, by decide +kernel⟩, by decide +kernel⟩
theorem vi_X7_mend : nVi YX7_mend := ⟨(nW3 9 rfl rfl), (nW3 10 rfl rfl)⟩
theorem mo_X7_way : nMo YX7_way 1 := ⟨(nW3 53 rfl rfl), (nW1 1 rfl rfl), ⟨by decide +kernel, by decide +kernel⟩, by decide +kernel⟩
theorem vi_X7_way : nVi YX7_way := ⟨(nW3 51 rfl rfl), (nW3 52 rfl rfl)⟩
theorem mo_X7_taper : nMo YX7_taper 3 := ⟨(nW3 62 rfl rfl), (nW1 1 rfl rfl), ⟨by decide +kernel, by decide +kernel⟩, by decide +kernel⟩
theorem vi_X7_taper : nVi YX7_taper := ⟨(nW3 60 rfl rfl), (nW3 61 rfl rfl)⟩
theorem mo_X7_cycle : nMo YX7_cycle 1 := ⟨(nW3 70 rfl rfl), (nW1 1 rfl rfl), ⟨by decide +kernel, by decide +kernel⟩, by decide +kernel⟩
theorem vi_X7_cycle : nVi YX7_cycle := ⟨(nW3 68 rfl rfl), (nW3 69 rfl rfl)⟩
theorem mo_X7_sew : nMo YX7_sew 2 := ⟨(nW3 78 rfl rfl), (nW1 1 rfl rfl), ⟨by decide +kernel, by decide +kernel⟩, by decide +kernel⟩
theorem vi_X7_sew : nVi YX7_sew := ⟨(nW3 76 rfl rfl), (nW3 77 rfl rfl)⟩
theorem mo_X7_match : nMo YX7_match 1 := ⟨(nW3 120 rfl rfl), (nW1 1 rfl rfl), ⟨by decide +kernel, by decide +kernel⟩, by decide +kernel⟩
theorem vi_X7_match : nVi YX7_match := ⟨(nW3 118 rfl rfl), (nW3 119 rfl rfl)⟩
theorem mo_X7_hang : nMo YX7_hang 3 := ⟨(nW3 124 rfl rfl), (nW1 1 rfl rfl), ⟨by decide +kernel, by decide +kernel⟩, by decide +kernel⟩
theorem vi_X7_hang : nVi YX7_hang := ⟨(nW3 122 rfl rfl), (nW3 123 rfl rfl)⟩
theorem mo_X7_parts : nMo YX7_parts 1 := ⟨(nW3 128 rfl rfl), (nW1 1 rfl rfl), ⟨by decide +kernel, by decide +kernel⟩, by decide +kernel⟩
theorem vi_X7_parts : nVi YX7_parts := ⟨(nW3 126 rfl rfl), (nW3 127 rfl rfl)⟩
theorem mo_X7_part : nMo YX7_part 2 := ⟨(nW3 132 rfl rfl), (nW1 1 rfl rfl), ⟨by decide +kernel, by decide +kernel⟩, by decide +kernel⟩
theorem vi_X7_part : nVi YX7_part := ⟨(nW3 130 rfl rfl), (nW3 131 rfl rfl)⟩
theorem mo_X7_open : nMo YX7_open 1 := ⟨(nW3 136 rfl rfl), (nW1 1 rfl rfl), ⟨by decide +kernel, by decide +kernel⟩, by decide +kernel⟩
theorem vi_X7_open : nVi YX7_open := ⟨(nW3 134 rfl rfl), (nW3 135 rfl rfl)⟩
theorem mo_X7_slips : nMo YX7_slips 2 := ⟨(nW3 144 rfl rfl), (nW1 1 rfl rfl), ⟨by decide +kernel, by decide +kernel⟩, by decide +kernel⟩
theorem vi_X7_slips : nVi YX7_slips := ⟨(nW3 142 rfl rfl), (nW3 143 rfl rfl)⟩
theorem mo_X7_pull : nMo YX7_pull 3 := ⟨(nW3 148 rfl rfl), (nW1 1 rfl rfl), ⟨by decide +kernel, by decide +kernel⟩, by decide +kernel⟩
theorem vi_X7_pull : nVi YX7_pull := ⟨(nW3 146 rfl rfl), (nW3 147 rfl rfl)⟩
theorem mo_X7_load : nMo YX7_load 4 := ⟨(nW3 152 rfl rfl), (nW1 1 rfl rfl), ⟨by decide +kernel, by decide +kernel⟩, by decide +kernel⟩
theorem vi_X7_load : nVi YX7_load := ⟨(nW3 150 rfl rfl), (nW3 151 rfl rfl)⟩
theorem mo_X7_sum : nMo YX7_sum 3 := ⟨(nW3 191 rfl rfl), (nW1 1 rfl rfl), ⟨by decide +kernel, by decide +kernel⟩, by decide +kernel⟩
theorem vi_X7_sum : nVi YX7_sum := ⟨(nW3 189 rfl rfl), (nW3 190 rfl rfl)⟩
theorem mo_X7_weak : nMo YX7_weak 1 := ⟨(nW3 195 rfl rfl), (nW1 1 rfl rfl), ⟨by decide +kernel, by decide +kernel⟩, by decide +kernel⟩
theorem vi_X7_weak : nVi YX7_weak := ⟨(nW3 193 rfl rfl), (nW3 194 rfl rfl)⟩
theorem mo_X7_within : nMo YX7_within 3 := ⟨(nW1 174 rfl rfl), (nW1 1 rfl rfl), ⟨by decide +kernel, by decide +kernel⟩, by decide +kernel⟩
theorem sc_X7_within : nSc YX7_within := (nW1 173 rfl rfl)
theorem mo_X7_isRule : nMo YX7_isRule 2 := ⟨(nW2 81 rfl rfl), (nW1 1 rfl rfl), ⟨by decide +kernel, by decide +kernel⟩, by decide +kernel⟩
theorem sc_X7_isRule : nSc YX7_isRule := (nW2 80 rfl rfl)
theorem mo_X7_shapedPlaces : nMo YX7_shapedPlaces 3 := ⟨(nW2 88 rfl rfl), (nW1 1 rfl rfl), ⟨by decide +kernel, by decide +kernel⟩, by decide +kernel⟩
theorem sc_X7_shapedPlaces : nSc YX7_shapedPlaces := (nW2 87 rfl rfl)
theorem mo_X7_fitTogether : nMo YX7_fitTogether 2 := ⟨(nW3 81 rfl rfl), (nW1 1 rfl rfl), ⟨by decide +kernel, by decide +kernel⟩, by decide +kernel⟩
theorem sc_X7_fitTogether : nSc YX7_fitTogether := (nW3 80 rfl rfl)
theorem mo_X7_panelAt : nMo YX7_panelAt 1 := ⟨(nW2 34 rfl rfl), (nW1 1 rfl rfl), ⟨by decide +kernel, by decide +kernel⟩, by decide +kernel⟩
theorem vi_X7_panelAt : nVi YX7_panelAt := ⟨(nW2 33 rfl rfl), (nWp 1 (by decide +kernel) rfl)⟩
theorem mo_X7_keep : nMo YX7_keep 1 := ⟨(nW2 26 rfl rfl), (nW1 1 rfl rfl), ⟨by decide +kernel, by decide +kernel⟩, by decide +kernel⟩
theorem vi_X7_keep : nVi YX7_keep := ⟨(nW2 25 rfl rfl), (nWp 0 (by decide +kernel) rfl)⟩
theorem mo_X7_openingOf : nMo YX7_openingOf 1 := ⟨(nW3 140 rfl rfl), (nW1 1 rfl rfl), ⟨by decide +kernel, by decide +kernel⟩, by decide +kernel⟩
theorem vi_X7_openingOf : nVi YX7_openingOf := ⟨(nW3 139 rfl rfl), (nWp 11 (by decide +kernel) rfl)⟩
theorem mo_X8_init : nMo YX8_init 0 := ⟨(nW3 207 rfl rfl), (nW1 7 rfl rfl), ⟨by decide +kernel, by decide +kernel⟩, by decide +kernel⟩
theorem ii_X8_init : nIi YX8_init := ⟨(nW3 206 rfl rfl), rfl⟩
theorem mo_X8_isPanel : nMo YX8_isPanel 1 := ⟨(nW4 110 rfl rfl), (nW1 7 rfl rfl), ⟨by decide +kernel, by decide +kernel⟩, by decide +kernel⟩
theorem vi_X8_isPanel : nVi YX8_isPanel := ⟨(nW4 109 rfl rfl), (nWp 18 (by decide +kernel) rfl)⟩
theorem mo_X8_isRow : nMo YX8_isRow 2 := ⟨(nW4 130 rfl rfl), (nW1 7 rfl rfl), ⟨by decide +kernel, by decide +kernel⟩, by decide +kernel⟩
theorem vi_X8_isRow : nVi YX8_isRow := ⟨(nW4 129 rfl rfl), (nWp 22 (by decide +kernel) rfl)⟩
theorem mo_X8_isKnot : nMo YX8_isKnot 3 := ⟨(nW4 126 rfl rfl), (nW1 7 rfl rfl), ⟨by decide +kernel, by decide +kernel⟩, by decide +kernel⟩
theorem vi_X8_isKnot : nVi YX8_isKnot := ⟨(nW4 125 rfl rfl), (nWp 21 (by decide +kernel) rfl)⟩
theorem mo_X8_at : nMo YX8_at 3 := ⟨(nW4 102 rfl rfl), (nW1 7 rfl rfl), ⟨by decide +kernel, by decide +kernel⟩, by decide +kernel⟩
theorem sc_X8_at : nSc YX8_at := (nW4 101 rfl rfl)
theorem mo_X8_clears : nMo YX8_clears 2 := ⟨(nW4 99 rfl rfl), (nW1 7 rfl rfl), ⟨by decide +kernel, by decide +kernel⟩, by decide +kernel⟩
theorem vi_X8_clears : nVi YX8_clears := ⟨(nW4 98 rfl rfl), (nWp 17 (by decide +kernel) rfl)⟩
theorem mo_X8_newPanel : nMo YX8_newPanel 2 := ⟨(nW4 95 rfl rfl), (nW1 7 rfl rfl), ⟨by decide +kernel, by decide +kernel⟩, by decide +kernel⟩
theorem vi_X8_newPanel : nVi YX8_newPanel := ⟨(nW4 94 rfl rfl), (nWp 16 (by decide +kernel) rfl)⟩
theorem mo_X8_panel : nMo YX8_panel 3 := ⟨(nW4 90 rfl rfl), (nW1 7 rfl rfl), ⟨by decide +kernel, by decide +kernel⟩, by decide +kernel⟩
theorem vi_X8_panel : nVi YX8_panel := ⟨(nW4 88 rfl rfl), (nW4 89 rfl rfl)⟩
theorem mo_X8_given : nMo YX8_given 2 := ⟨(nW4 114 rfl rfl), (nW1 7 rfl rfl), ⟨by decide +kernel, by decide +kernel⟩, by decide +kernel⟩
theorem vi_X8_given : nVi YX8_given := ⟨(nW4 113 rfl rfl), (nWp 19 (by decide +kernel) rfl)⟩
theorem mo_X8_hangs : nMo YX8_hangs 2 := ⟨(nW4 118 rfl rfl), (nW1 7 rfl rfl), ⟨by decide +kernel, by decide +kernel⟩, by decide +kernel⟩
theorem vi_X8_hangs : nVi YX8_hangs := ⟨(nW4 117 rfl rfl), (nWp 20 (by decide +kernel) rfl)⟩
theorem mo_X8_row : nMo YX8_row 1 := ⟨(nW4 106 rfl rfl), (nW1 7 rfl rfl), ⟨by decide +kernel, by decide +kernel⟩, by decide +kernel⟩
theorem vi_X8_row : nVi YX8_row := ⟨(nW4 104 rfl rfl), (nW4 105 rfl rfl)⟩
theorem mo_X8_becomes : nMo YX8_becomes 2 := ⟨(nW4 134 rfl rfl), (nW1 7 rfl rfl), ⟨by decide +kernel, by decide +kernel⟩, by decide +kernel⟩
theorem vi_X8_becomes : nVi YX8_becomes := ⟨(nW4 133 rfl rfl), (nWp 23 (by decide +kernel) rfl)⟩
theorem mo_X8_kind : nMo YX8_kind 3 := ⟨(nW4 122 rfl rfl), (nW1 7 rfl rfl), ⟨by decide +kernel, by decide +kernel⟩, by decide +kernel⟩
theorem vi_X8_kind : nVi YX8_kind := ⟨(nW4 120 rfl rfl), (nW4 121 rfl rfl)⟩
theorem mo_X8_shaped : nMo YX8_shaped 3 := ⟨(nW4 141 rfl rfl), (nW1 7 rfl rfl), ⟨by decide +kernel, by decide +kernel⟩, by decide +kernel⟩
theorem sc_X8_shaped : nSc YX8_shaped := (nW4 140 rfl rfl)
theorem mo_X8_shape : nMo YX8_shape 4 := ⟨(nW4 138 rfl rfl), (nW1 7 rfl rfl), ⟨by decide +kernel, by decide +kernel⟩, by decide +kernel⟩
theorem vi_X8_shape : nVi YX8_shape := ⟨(nW4 136 rfl rfl), (nW4 137 rfl rfl)⟩
theorem mo_X8_ahead : nMo YX8_ahead 4 := ⟨(nW4 147 rfl rfl), (nW1 7 rfl rfl), ⟨by decide +kernel, by decide +kernel⟩, by decide +kernel⟩
theorem vi_X8_ahead : nVi YX8_ahead := ⟨(nW4 145 rfl rfl), (nW4 146 rfl rfl)⟩
theorem mo_X8_meshes : nMo YX8_meshes 2 := ⟨(nW4 153 rfl rfl), (nW1 7 rfl rfl), ⟨by decide +kernel, by decide +kernel⟩, by decide +kernel⟩
theorem vi_X8_meshes : nVi YX8_meshes := ⟨(nW4 151 rfl rfl), (nW4 152 rfl rfl)⟩
theorem mo_X8_hangsIn : nMo YX8_hangsIn 3 := ⟨(nW4 172 rfl rfl), (nW1 7 rfl rfl), ⟨by decide +kernel, by decide +kernel⟩, by decide +kernel⟩
theorem vi_X8_hangsIn : nVi YX8_hangsIn := ⟨(nW4 171 rfl rfl), (nWp 26 (by decide +kernel) rfl)⟩
theorem mo_X8_bits : nMo YX8_bits 1 := ⟨(nW4 160 rfl rfl), (nW1 7 rfl rfl), ⟨by decide +kernel, by decide +kernel⟩, by decide +kernel⟩
theorem sc_X8_bits : nSc YX8_bits := (nW4 159 rfl rfl)
theorem mo_X8_below : nMo YX8_below 4 := ⟨(nW4 168 rfl rfl), (nW1 7 rfl rfl), ⟨by decide +kernel, by decide +kernel⟩, by decide +kernel⟩
theorem vi_X8_below : nVi YX8_below := ⟨(nW4 167 rfl rfl), (nWp 25 (by decide +kernel) rfl)⟩
theorem mo_X8_goneAt : nMo YX8_goneAt 3 := ⟨(nW4 164 rfl rfl), (nW1 7 rfl rfl), ⟨by decide +kernel, by decide +kernel⟩, by decide +kernel⟩
theorem vi_X8_goneAt : nVi YX8_goneAt := ⟨(nW4 163 rfl rfl), (nWp 24 (by decide +kernel) rfl)⟩
theorem mo_X8_of : nMo YX8_of 4 := ⟨(nW4 157 rfl rfl), (nW1 7 rfl rfl), ⟨by decide +kernel, by decide +kernel⟩, by decide +kernel⟩
theorem vi_X8_of : nVi YX8_of := ⟨(nW4 155 rfl rfl), (nW4 156 rfl rfl)⟩
theorem mo_X8_side : nMo YX8_side 5 := ⟨(nW4 176 rfl rfl), (nW1 7 rfl rfl), ⟨by decide +kernel, by decide +kernel⟩, by decide +kernel⟩
theorem vi_X8_side : nVi YX8_side := ⟨(nW4 174 rfl rfl), (nW4 175 rfl rfl)⟩
theorem mo_X8_cut : nMo YX8_cut 3 := ⟨(nW4 180 rfl rfl), (nW1 7 rfl rfl), ⟨by decide +kernel, by decide +kernel⟩, by decide +kernel⟩
theorem vi_X8_cut : nVi YX8_cut := ⟨(nW4 178 rfl rfl), (nW4 179 rfl rfl)⟩
theorem mo_X8_tear : nMo YX8_tear 2 := ⟨(nW4 184 rfl rfl), (nW1 7 rfl rfl), ⟨by decide +kernel, by decide +kernel⟩, by decide +kernel⟩
theorem vi_X8_tear : nVi YX8_tear := ⟨(nW4 182 rfl rfl), (nW4 183 rfl rfl)⟩
theorem mo_X8_needle : nMo YX8_needle 4 := ⟨(nW4 188 rfl rfl), (nW1 7 rfl rfl), ⟨by decide +kernel, by decide +kernel⟩, by decide +kernel⟩
theorem vi_X8_needle : nVi YX8_needle := ⟨(nW4 186 rfl rfl), (nW4 187 rfl rfl)⟩
theorem mo_X8_spreads : nMo YX8_spreads 3 := ⟨(nW4 196 rfl rfl), (nW1 7 rfl rfl), ⟨by decide +kernel, by decide +kernel⟩, by decide +kernel⟩
theorem vi_X8_spreads : nVi YX8_spreads := ⟨(nW4 195 rfl rfl), (nWp 27 (by decide +kernel) rfl)⟩
theorem mo_X8_oddOnes : nMo YX8_oddOnes 1 := ⟨(nW4 200 rfl rfl), (nW1 7 rfl rfl), ⟨by decide +kernel, by decide +kernel⟩, by decide +kernel⟩
theorem vi_X8_oddOnes : nVi YX8_oddOnes := ⟨(nW4 199 rfl rfl), (nWp 28 (by decide +kernel) rfl)⟩
theorem mo_X8_hole : nMo YX8_hole 3 := ⟨(nW4 192 rfl rfl), (nW1 7 rfl rfl), ⟨by decide +kernel, by decide +kernel⟩, by decide +kernel⟩
theorem vi_X8_hole : nVi YX8_hole := ⟨(nW4 190 rfl rfl), (nW4 191 rfl rfl)⟩
theorem mo_X8_twines : nMo YX8_twines 2 := ⟨(nW4 207 rfl rfl), (nW1 7 rfl rfl), ⟨by decide +kernel, by decide +kernel⟩, by decide +kernel⟩
theorem sc_X8_twines : nSc YX8_twines := (nW4 206 rfl rfl)
theorem mo_X8_edge : nMo YX8_edge 2 := ⟨(nW4 204 rfl rfl), (nW1 7 rfl rfl), ⟨by decide +kernel, by decide +kernel⟩, by decide +kernel⟩
theorem vi_X8_edge : nVi YX8_edge := ⟨(nW4 202 rfl rfl), (nW4 203 rfl rfl)⟩
theorem mo_X8_mend : nMo YX8_mend 3 := ⟨(nW4 211 rfl rfl), (nW1 7 rfl rfl), ⟨by decide +kernel, by decide +kernel⟩, by decide +kernel⟩
theorem vi_X8_mend : nVi YX8_mend := ⟨(nW4 209 rfl rfl), (nW4 210 rfl rfl)⟩
theorem mo_X8_ties : nMo YX8_ties 4 := ⟨(nW4 223 rfl rfl), (nW1 7 rfl rfl), ⟨by decide +kernel, by decide +kernel⟩, by decide +kernel⟩
theorem vi_X8_ties : nVi YX8_ties := ⟨(nW4 222 rfl rfl), (nWp 31 (by decide +kernel) rfl)⟩
theorem mo_X8_isGone : nMo YX8_isGone 3 := ⟨(nW4 219 rfl rfl), (nW1 7 rfl rfl), ⟨by decide +kernel, by decide +kernel⟩, by decide +kernel⟩
theorem vi_X8_isGone : nVi YX8_isGone := ⟨(nW4 218 rfl rfl), (nWp 30 (by decide +kernel) rfl)⟩
theorem mo_X8_goesOn : nMo YX8_goesOn 3 := ⟨(nW4 215 rfl rfl), (nW1 7 rfl rfl), ⟨by decide +kernel, by decide +kernel⟩, by decide +kernel⟩
theorem vi_X8_goesOn : nVi YX8_goesOn := ⟨(nW4 214 rfl rfl), (nWp 29 (by decide +kernel) rfl)⟩
theorem mo_X8_reaches : nMo YX8_reaches 3 := ⟨(nW4 227 rfl rfl), (nW1 7 rfl rfl), ⟨by decide +kernel, by decide +kernel⟩, by decide +kernel⟩
theorem vi_X8_reaches : nVi YX8_reaches := ⟨(nW4 226 rfl rfl), (nWp 32 (by decide +kernel) rfl)⟩
theorem mo_X8_way : nMo YX8_way 1 := ⟨(nW4 231 rfl rfl), (nW1 7 rfl rfl), ⟨by decide +kernel, by decide +kernel⟩, by decide +kernel⟩
theorem vi_X8_way : nVi YX8_way := ⟨(nW4 229 rfl rfl), (nW4 230 rfl rfl)⟩
theorem mo_X8_taper : nMo YX8_taper 3 := ⟨(nW4 235 rfl rfl), (nW1 7 rfl rfl), ⟨by decide +kernel, by decide +kernel⟩, by decide +kernel⟩
theorem vi_X8_taper : nVi YX8_taper := ⟨(nW4 233 rfl rfl), (nW4 234 rfl rfl)⟩
theorem mo_X8_cycle : nMo YX8_cycle 1 := ⟨(nW4 239 rfl rfl), (nW1 7 rfl rfl), ⟨by decide +kernel, by decide +kernel⟩, by decide +kernel⟩
theorem vi_X8_cycle : nVi YX8_cycle := ⟨(nW4 237 rfl rfl), (nW4 238 rfl rfl)⟩
theorem mo_X8_copies : nMo YX8_copies 4 := ⟨(nW5 7 rfl rfl), (nW1 7 rfl rfl), ⟨by decide +kernel, by decide +kernel⟩, by decide +kernel⟩
theorem vi_X8_copies : nVi YX8_copies := ⟨(nW5 6 rfl rfl), (nWp 33 (by decide +kernel) rfl)⟩
theorem mo_X8_sew : nMo YX8_sew 2 := ⟨(nW5 3 rfl rfl), (nW1 7 rfl rfl), ⟨by decide +kernel, by decide +kernel⟩, by decide +kernel⟩
theorem vi_X8_sew : nVi YX8_sew := ⟨(nW5 1 rfl rfl), (nW5 2 rfl rfl)⟩
theorem mo_X8_match : nMo YX8_match 1 := ⟨(nW5 11 rfl rfl), (nW1 7 rfl rfl), ⟨by decide +kernel, by decide +kernel⟩, by decide +kernel⟩
theorem vi_X8_match : nVi YX8_match := ⟨(nW5 9 rfl rfl), (nW5 10 rfl rfl)⟩
theorem mo_X8_hang : nMo YX8_hang 3 := ⟨(nW5 15 rfl rfl), (nW1 7 rfl rfl), ⟨by decide +kernel, by decide +kernel⟩, by decide +kernel⟩
theorem vi_X8_hang : nVi YX8_hang := ⟨(nW5 13 rfl rfl), (nW5 14 rfl rfl)⟩
theorem mo_X8_parts : nMo YX8_parts 1 := ⟨(nW5 19 rfl rfl), (nW1 7 rfl rfl), ⟨by decide +kernel, by decide +kernel⟩, by decide +kernel⟩
theorem vi_X8_parts : nVi YX8_parts := ⟨(nW5 17 rfl rfl), (nW5 18 rfl rfl)⟩
theorem mo_X8_part : nMo YX8_part 2 := ⟨(nW5 23 rfl rfl), (nW1 7 rfl rfl), ⟨by decide +kernel, by decide +kernel⟩, by decide +kernel⟩
theorem vi_X8_part : nVi YX8_part := ⟨(nW5 21 rfl rfl), (nW5 22 rfl rfl)⟩
theorem mo_X8_open : nMo YX8_open 1 := ⟨(nW5 27 rfl rfl), (nW1 7 rfl rfl), ⟨by decide +kernel, by decide +kernel⟩, by decide +kernel⟩
theorem vi_X8_open : nVi YX8_open := ⟨(nW5 25 rfl rfl), (nW5 26 rfl rfl)⟩
theorem mo_X8_slips : nMo YX8_slips 2 := ⟨(nW5 31 rfl rfl), (nW1 7 rfl rfl), ⟨by decide +kernel, by decide +kernel⟩, by decide +kernel⟩
theorem vi_X8_slips : nVi YX8_slips := ⟨(nW5 29 rfl rfl), (nW5 30 rfl rfl)⟩
theorem mo_X8_sixth : nMo YX8_sixth 1 := ⟨(nW5 47 rfl rfl), (nW1 7 rfl rfl), ⟨by decide +kernel, by decide +kernel⟩, by decide +kernel⟩
theorem sc_X8_sixth : nSc YX8_sixth := (nW5 46 rfl rfl)
theorem mo_X8_leads : nMo YX8_leads 1 := ⟨(nW5 44 rfl rfl), (nW1 7 rfl rfl), ⟨by decide +kernel, by decide +kernel⟩, by decide +kernel⟩
theorem vi_X8_leads : nVi YX8_leads := ⟨(nW5 43 rfl rfl), (nWp 34 (by decide +kernel) rfl)⟩
theorem mo_X8_lowest : nMo YX8_lowest 3 := ⟨(nW5 51 rfl rfl), (nW1 7 rfl rfl), ⟨by decide +kernel, by decide +kernel⟩, by decide +kernel⟩
theorem sc_X8_lowest : nSc YX8_lowest := (nW5 50 rfl rfl)
theorem mo_X8_pull : nMo YX8_pull 3 := ⟨(nW5 36 rfl rfl), (nW1 7 rfl rfl), ⟨by decide +kernel, by decide +kernel⟩, by decide +kernel⟩
theorem vi_X8_pull : nVi YX8_pull := ⟨(nW5 34 rfl rfl), (nW5 35 rfl rfl)⟩
theorem mo_X8_load : nMo YX8_load 4 := ⟨(nW5 40 rfl rfl), (nW1 7 rfl rfl), ⟨by decide +kernel, by decide +kernel⟩, by decide +kernel⟩
theorem vi_X8_load : nVi YX8_load := ⟨(nW5 38 rfl rfl), (nW5 39 rfl rfl)⟩
theorem mo_X8_sum : nMo YX8_sum 3 := ⟨(nW5 55 rfl rfl), (nW1 7 rfl rfl), ⟨by decide +kernel, by decide +kernel⟩, by decide +kernel⟩
theorem vi_X8_sum : nVi YX8_sum := ⟨(nW5 53 rfl rfl), (nW5 54 rfl rfl)⟩
theorem mo_X8_weak : nMo YX8_weak 1 := ⟨(nW5 59 rfl rfl), (nW1 7 rfl rfl), ⟨by decide +kernel, by decide +kernel⟩, by decide +kernel⟩
theorem vi_X8_weak : nVi YX8_weak := ⟨(nW5 57 rfl rfl), (nW5 58 rfl rfl)⟩
theorem mo_X8_count : nMo YX8_count 1 := ⟨(nW5 63 rfl rfl), (nW1 7 rfl rfl), ⟨by decide +kernel, by decide +kernel⟩, by decide +kernel⟩
theorem vi_X8_count : nVi YX8_count := ⟨(nW5 61 rfl rfl), (nW5 62 rfl rfl)⟩
theorem mo_X8_panelOf : nMo YX8_panelOf 2 := ⟨(nW5 67 rfl rfl), (nW1 7 rfl rfl), ⟨by decide +kernel, by decide +kernel⟩, by decide +kernel⟩
theorem vi_X8_panelOf : nVi YX8_panelOf := ⟨(nW5 65 rfl rfl), (nW5 66 rfl rfl)⟩
theorem mo_J6_bitCount_0f7a4 : nMo YJ6_bitCount_0f7a4 1 := ⟨(nW2 123 rfl rfl), (nW1 10 rfl rfl), ⟨by decide +kernel, by decide +kernel⟩, by decide +kernel⟩
theorem sc_J6_bitCount_0f7a4 : nSc YJ6_bitCount_0f7a4 := (nW2 122 rfl rfl)
theorem mo_J9_max_7cf53 : nMo YJ9_max_7cf53 2 := ⟨(nW3 104 rfl rfl), (nW1 12 rfl rfl), ⟨by decide +kernel, by decide +kernel⟩, by decide +kernel⟩
theorem sc_J9_max_7cf53 : nSc YJ9_max_7cf53 := (nW3 103 rfl rfl)
theorem mo_J9_min_7cf53 : nMo YJ9_min_7cf53 2 := ⟨(nW3 101 rfl rfl), (nW1 12 rfl rfl), ⟨by decide +kernel, by decide +kernel⟩, by decide +kernel⟩
theorem sc_J9_min_7cf53 : nSc YJ9_min_7cf53 := (nW3 100 rfl rfl)
theorem ob_init : Cond.instanceMethod Lib.objectInit ∈ nWs ∧ Cond.code Lib.objectInit ⟨#[0xb1]⟩ 1 none ∈ nWs := ⟨(nW1 19 rfl rfl), (nW1 20 rfl rfl)⟩
theorem lk_9_9 : nLk 9 9 YX7_init := (nW1 15 rfl rfl)
theorem lk_7_3 : Cond.methodLink (cNm 7) 3 Lib.objectInit ∈ nWs := (nW1 18 rfl rfl)
theorem lk_7_25 : nLn 7 25 YX0_init := List.mem_of_getElem? (i := 0) rfl
theorem lk_0_3 : Cond.methodLink (cNm 0) 3 Lib.objectInit ∈ nWs := (nW1 28 rfl rfl)
theorem lk_7_35 : nLn 7 35 YX6_init := List.mem_of_getElem? (i := 1) rfl
theorem lk_6_3 : Cond.methodLink (cNm 6) 3 Lib.objectInit ∈ nWs := (nW1 66 rfl rfl)
theorem lk_7_42 : nLn 7 42 YX5_init := List.mem_of_getElem? (i := 2) rfl
theorem lk_5_3 : Cond.methodLink (cNm 5) 3 Lib.objectInit ∈ nWs := (nW1 86 rfl rfl)
theorem lk_7_49 : nLn 7 49 YX4_init := List.mem_of_getElem? (i := 3) rfl
theorem lk_4_3 : Cond.methodLink (cNm 4) 3 Lib.objectInit ∈ nWs := (nW1 102 rfl rfl)
theorem lk_7_56 : nLn 7 56 YX1_init := List.mem_of_getElem? (i := 4) rfl
theorem lk_1_3 : Cond.methodLink (cNm 1) 3 Lib.objectInit ∈ nWs := (nW1 117 rfl rfl)
theorem lk_9_13 : nLk 9 13 YX7_panel := (nW1 168 rfl rfl)
theorem lk_7_64 : nLk 7 64 YX7_within := (nW1 172 rfl rfl)
theorem lk_7_69 : nLk 7 69 YX2_init := (nW1 177 rfl rfl)
theorem lk_2_3 : Cond.methodLink (cNm 2) 3 Lib.objectInit ∈ nWs := (nW1 180 rfl rfl)
theorem lk_7_74 : nLk 7 74 YX3_init := (nW1 216 rfl rfl)
theorem lk_3_3 : Cond.methodLink (cNm 3) 3 Lib.objectInit ∈ nWs := (nW1 219 rfl rfl)
theorem lk_3_30 : nLn 3 30 YX7_within := List.mem_of_getElem? (i := 6) rfl
theorem lk_7_77 : nLk 7 77 YX2_append := (nW2 19 rfl rfl)
theorem lk_7_81 : nLk 7 81 YX7_keep := (nW2 23 rfl rfl)
theorem lk_9_18 : nLk 9 18 YX7_row := (nW2 27 rfl rfl)
theorem lk_7_85 : nLk 7 85 YX7_panelAt := (nW2 31 rfl rfl)
theorem lk_7_89 : nLk 7 89 YX2_hangRow := (nW2 35 rfl rfl)
theorem lk_2_57 : nLk 2 57 YX2_lastRow := (nW2 39 rfl rfl)
theorem lk_2_41 : nLk 2 41 YX2_rowAt := (nW2 43 rfl rfl)
theorem lk_2_37 : nLn 2 37 YX7_within := List.mem_of_getElem? (i := 5) rfl
theorem lk_2_60 : nLk 2 60 YX3_givenInAll := (nW2 48 rfl rfl)
theorem lk_2_64 : nLk 2 64 YX3_init := (nW2 52 rfl rfl)
theorem lk_2_67 : nLk 2 67 YX3_hangIn := (nW2 53 rfl rfl)
theorem lk_3_51 : nLk 3 51 YX3_giverBehind := (nW2 57 rfl rfl)
theorem lk_2_53 : nLk 2 53 YX2_append := (nW2 61 rfl rfl)
theorem lk_9_23 : nLk 9 23 YX7_kind := (nW2 62 rfl rfl)
theorem lk_7_93 : nLk 7 93 YX2_lastRow := (nW2 66 rfl rfl)
theorem lk_7_97 : nLk 7 97 YX3_has := (nW2 67 rfl rfl)
theorem lk_7_101 : nLk 7 101 YX3_turn := (nW2 71 rfl rfl)
theorem lk_9_28 : nLk 9 28 YX7_shape := (nW2 75 rfl rfl)
theorem lk_7_104 : nLk 7 104 YX7_isRule := (nW2 79 rfl rfl)
theorem lk_7_108 : nLk 7 108 YX2_bearsShaping := (nW2 82 rfl rfl)
theorem lk_2_73 : nLn 2 73 YX7_shapedPlaces := List.mem_of_getElem? (i := 7) rfl
theorem lk_7_111 : nLk 7 111 YX2_shapeRows := (nW2 90 rfl rfl)
theorem lk_2_79 : nLk 2 79 YX3_turnEvery := (nW2 94 rfl rfl)
theorem lk_3_47 : nLk 3 47 YX3_turn := (nW2 98 rfl rfl)
theorem lk_2_83 : nLk 2 83 YX2_hangRow := (nW2 99 rfl rfl)
theorem lk_9_33 : nLk 9 33 YX7_ahead := (nW2 100 rfl rfl)
theorem lk_7_117 : nLk 7 117 YX7_shapedPlaces := (nW2 105 rfl rfl)
theorem lk_9_38 : nLk 9 38 YX7_meshes := (nW2 107 rfl rfl)
theorem lk_7_123 : nLk 7 123 YX2_rowAt := (nW2 111 rfl rfl)
theorem lk_9_43 : nLk 9 43 YX7_of := (nW2 112 rfl rfl)
theorem lk_7_130 : nLk 7 130 YX2_rowWith := (nW2 116 rfl rfl)
theorem lk_2_45 : nLk 2 45 YX3_has := (nW2 120 rfl rfl)
theorem lk_7_146 : nLk 7 146 YJ6_bitCount_0f7a4 := (nW2 121 rfl rfl)
theorem lk_7_152 : nLk 7 152 YX3_placeOfSide := (nW2 127 rfl rfl)
theorem lk_7_159 : nLk 7 159 YX2_goneSidesAt := (nW2 131 rfl rfl)
theorem lk_2_86 : nLk 2 86 YX2_rowWith := (nW2 135 rfl rfl)
theorem lk_2_93 : nLk 2 93 YJ6_bitCount_0f7a4 := (nW2 136 rfl rfl)
theorem lk_2_99 : nLk 2 99 YX3_isGone := (nW2 137 rfl rfl)
theorem lk_3_63 : nLk 3 63 YX3_hangsBy := (nW2 141 rfl rfl)
theorem lk_3_55 : nLk 3 55 YX3_sideIsGone := (nW2 145 rfl rfl)
theorem lk_9_140 : nLk 9 140 YX7_panelOf := (nW2 149 rfl rfl)
theorem lk_7_177 : nLk 7 177 YX2_totalOf := (nW2 153 rfl rfl)
theorem lk_2_113 : nLk 2 113 YX3_countOver := (nW2 157 rfl rfl)
theorem lk_3_73 : nLk 3 73 YX3_shareOf := (nW2 161 rfl rfl)
theorem lk_3_76 : nLk 3 76 YJ6_bitCount_0f7a4 := (nW2 165 rfl rfl)
theorem lk_9_136 : nLk 9 136 YX7_count := (nW2 166 rfl rfl)
theorem lk_9_47 : nLk 9 47 YX7_side := (nW2 170 rfl rfl)
theorem lk_7_183 : nLk 7 183 YX3_setSide := (nW2 174 rfl rfl)
theorem lk_9_52 : nLk 9 52 YX7_cut := (nW2 178 rfl rfl)
theorem lk_7_187 : nLk 7 187 YX2_cutSidesAt := (nW2 182 rfl rfl)
theorem lk_2_106 : nLk 2 106 YX3_isWhole := (nW2 186 rfl rfl)
theorem lk_3_66 : nLk 3 66 YX3_isGone := (nW2 190 rfl rfl)
theorem lk_2_109 : nLk 2 109 YX3_setSideTo := (nW2 191 rfl rfl)
theorem lk_3_69 : nLk 3 69 YX3_setSide := (nW2 195 rfl rfl)
theorem lk_9_56 : nLk 9 56 YX7_tear := (nW2 196 rfl rfl)
theorem lk_7_190 : nLk 7 190 YX3_hangInNothing := (nW2 200 rfl rfl)
theorem lk_9_61 : nLk 9 61 YX7_needle := (nW2 204 rfl rfl)
theorem lk_9_66 : nLk 9 66 YX7_hole := (nW2 208 rfl rfl)
theorem lk_7_193 : nLk 7 193 YX0_trace := (nW2 212 rfl rfl)
theorem lk_0_26 : nLk 0 26 YX0_clear := (nW2 216 rfl rfl)
theorem lk_0_29 : nLk 0 29 YX2_goneSidesAt := (nW2 220 rfl rfl)
theorem lk_0_35 : nLk 0 35 YX0_reach := (nW2 221 rfl rfl)
theorem lk_0_64 : nLn 0 64 YX7_within := List.mem_of_getElem? (i := 8) rfl
theorem lk_0_43 : nLk 0 43 YX0_reachFrom := (nW2 226 rfl rfl)
theorem lk_0_68 : nLk 0 68 YX2_rowAt := (nW2 230 rfl rfl)
theorem lk_0_72 : nLk 0 72 YX3_isGone := (nW2 231 rfl rfl)
theorem lk_0_47 : nLk 0 47 YX0_listReached := (nW2 232 rfl rfl)
theorem lk_9_70 : nLk 9 70 YX7_edge := (nW2 236 rfl rfl)
theorem lk_7_198 : nLk 7 198 YX0_tell := (nW3 0 rfl rfl)
theorem lk_0_81 : nLk 0 81 YX0_twines := (nW3 4 rfl rfl)
theorem lk_9_74 : nLk 9 74 YX7_mend := (nW3 8 rfl rfl)
theorem lk_7_201 : nLk 7 201 YX0_twines := (nW3 12 rfl rfl)
theorem lk_7_204 : nLk 7 204 YX0_hasNeedle := (nW3 13 rfl rfl)
theorem lk_0_85 : nLk 0 85 YX2_rowWith := (nW3 17 rfl rfl)
theorem lk_7_208 : nLk 7 208 YX0_beginning := (nW3 18 rfl rfl)
theorem lk_7_211 : nLk 7 211 YX6_walk := (nW3 22 rfl rfl)
theorem lk_6_29 : nLk 6 29 YX6_goTo := (nW3 26 rfl rfl)
theorem lk_6_33 : nLk 6 33 YX6_mendOneFrom := (nW3 30 rfl rfl)
theorem lk_6_40 : nLk 6 40 YX2_goneAbove := (nW3 33 rfl rfl)
theorem lk_6_46 : nLk 6 46 YX2_rowAt := (nW3 37 rfl rfl)
theorem lk_6_50 : nLk 6 50 YX6_makeWhole := (nW3 38 rfl rfl)
theorem lk_6_57 : nLk 6 57 YX3_setSideTo := (nW3 41 rfl rfl)
theorem lk_6_54 : nLk 6 54 YX2_goneBelow := (nW3 42 rfl rfl)
theorem lk_6_37 : nLk 6 37 YX6_goBackFrom := (nW3 46 rfl rfl)
theorem lk_9_78 : nLk 9 78 YX7_way := (nW3 50 rfl rfl)
theorem lk_7_215 : nLk 7 215 YX6_knotAt := (nW3 54 rfl rfl)
theorem lk_6_22 : nLn 6 22 YX7_within := List.mem_of_getElem? (i := 9) rfl
theorem lk_9_82 : nLk 9 82 YX7_taper := (nW3 59 rfl rfl)
theorem lk_7_218 : nLk 7 218 YX5_find := (nW3 63 rfl rfl)
theorem lk_9_86 : nLk 9 86 YX7_cycle := (nW3 67 rfl rfl)
theorem lk_7_221 : nLk 7 221 YX5_tell := (nW3 71 rfl rfl)
theorem lk_9_90 : nLk 9 90 YX7_sew := (nW3 75 rfl rfl)
theorem lk_7_223 : nLk 7 223 YX7_fitTogether := (nW3 79 rfl rfl)
theorem lk_7_227 : nLk 7 227 YX2_appendCopies := (nW3 82 rfl rfl)
theorem lk_2_49 : nLk 2 49 YX3_copied := (nW3 86 rfl rfl)
theorem lk_3_38 : nLk 3 38 YX3_init := (nW3 91 rfl rfl)
theorem lk_3_41 : Cond.methodLink (cNm 3) 41 arraycopyName ∈ nWs := (nW3 92 rfl rfl)
theorem lk_7_231 : nLk 7 231 YX4_join := (nW3 95 rfl rfl)
theorem lk_4_21 : nLk 4 21 YJ9_min_7cf53 := (nW3 99 rfl rfl)
theorem lk_4_27 : nLk 4 27 YJ9_max_7cf53 := (nW3 102 rfl rfl)
theorem lk_4_30 : nLk 4 30 YX4_spread := (nW3 105 rfl rfl)
theorem lk_4_56 : nLn 4 56 YX7_within := List.mem_of_getElem? (i := 10) rfl
theorem lk_4_43 : Cond.methodLink (cNm 4) 43 arraycopyName ∈ nWs := (nW3 110 rfl rfl)
theorem lk_4_49 : nLk 4 49 YX4_giveOneEach := (nW3 111 rfl rfl)
theorem lk_4_60 : nLk 4 60 YX3_has := (nW3 115 rfl rfl)
theorem lk_4_53 : nLk 4 53 YX3_hangIn := (nW3 116 rfl rfl)
theorem lk_9_94 : nLk 9 94 YX7_match := (nW3 117 rfl rfl)
theorem lk_9_98 : nLk 9 98 YX7_hang := (nW3 121 rfl rfl)
theorem lk_9_102 : nLk 9 102 YX7_parts := (nW3 125 rfl rfl)
theorem lk_9_107 : nLk 9 107 YX7_part := (nW3 129 rfl rfl)
theorem lk_9_111 : nLk 9 111 YX7_open := (nW3 133 rfl rfl)
theorem lk_7_239 : nLk 7 239 YX7_openingOf := (nW3 137 rfl rfl)
theorem lk_9_115 : nLk 9 115 YX7_slips := (nW3 141 rfl rfl)
theorem lk_9_119 : nLk 9 119 YX7_pull := (nW3 145 rfl rfl)
theorem lk_9_123 : nLk 9 123 YX7_load := (nW3 149 rfl rfl)
theorem lk_7_245 : nLk 7 245 YX1_leadDown := (nW3 153 rfl rfl)
theorem lk_1_38 : nLk 1 38 YX2_rowAt := (nW3 158 rfl rfl)
theorem lk_1_42 : nLk 1 42 YX1_countWholeSides := (nW3 159 rfl rfl)
theorem lk_1_65 : nLk 1 65 YX3_placeOfWholeSide := (nW3 163 rfl rfl)
theorem lk_3_59 : nLk 3 59 YX3_placeOfSide := (nW3 167 rfl rfl)
theorem lk_1_69 : nLn 1 69 YX7_within := List.mem_of_getElem? (i := 11) rfl
theorem lk_1_46 : nLk 1 46 YX1_lose := (nW3 169 rfl rfl)
theorem lk_1_50 : nLk 1 50 YX1_handOn := (nW3 173 rfl rfl)
theorem lk_1_53 : nLk 1 53 YX1_inAll := (nW3 177 rfl rfl)
theorem lk_7_252 : nLk 7 252 YX1_term := (nW3 181 rfl rfl)
theorem lk_1_80 : nLk 1 80 YX1_commonDivisor := (nW3 184 rfl rfl)
theorem lk_9_127 : nLk 9 127 YX7_sum := (nW3 188 rfl rfl)
theorem lk_9_132 : nLk 9 132 YX7_weak := (nW3 192 rfl rfl)
theorem lk_7_263 : nLk 7 263 YX1_firstAbove := (nW3 196 rfl rfl)
theorem lk_1_76 : nLk 1 76 YX1_isAbove := (nW3 200 rfl rfl)
theorem lk_9_12 : nLk 9 12 YX8_init := (nW3 205 rfl rfl)
theorem lk_8_7 : Cond.methodLink (cNm 8) 7 Lib.objectInit ∈ nWs := (nW3 208 rfl rfl)
theorem lk_9_17 : nLk 9 17 YX8_panel := (nW4 87 rfl rfl)
theorem lk_8_104 : nLk 8 104 YX8_newPanel := (nW4 92 rfl rfl)
theorem lk_8_108 : nLk 8 108 YX8_clears := (nW4 96 rfl rfl)
theorem lk_8_99 : nLk 8 99 YX8_at := (nW4 100 rfl rfl)
theorem lk_9_22 : nLk 9 22 YX8_row := (nW4 103 rfl rfl)
theorem lk_8_91 : nLk 8 91 YX8_isPanel := (nW4 107 rfl rfl)
theorem lk_8_112 : nLk 8 112 YX8_given := (nW4 111 rfl rfl)
theorem lk_8_115 : nLk 8 115 YX8_hangs := (nW4 115 rfl rfl)
theorem lk_9_27 : nLk 9 27 YX8_kind := (nW4 119 rfl rfl)
theorem lk_8_118 : nLk 8 118 YX8_isKnot := (nW4 123 rfl rfl)
theorem lk_8_95 : nLk 8 95 YX8_isRow := (nW4 127 rfl rfl)
theorem lk_8_122 : nLk 8 122 YX8_becomes := (nW4 131 rfl rfl)
theorem lk_9_32 : nLk 9 32 YX8_shape := (nW4 135 rfl rfl)
theorem lk_8_125 : nLk 8 125 YX8_shaped := (nW4 139 rfl rfl)
theorem lk_8_131 : nLk 8 131 YX8_row := (nW4 143 rfl rfl)
theorem lk_9_37 : nLk 9 37 YX8_ahead := (nW4 144 rfl rfl)
theorem lk_9_42 : nLk 9 42 YX8_meshes := (nW4 150 rfl rfl)
theorem lk_9_46 : nLk 9 46 YX8_of := (nW4 154 rfl rfl)
theorem lk_8_142 : nLk 8 142 YX8_bits := (nW4 158 rfl rfl)
theorem lk_8_149 : nLk 8 149 YX8_goneAt := (nW4 161 rfl rfl)
theorem lk_8_145 : nLk 8 145 YX8_below := (nW4 165 rfl rfl)
theorem lk_8_139 : nLk 8 139 YX8_hangsIn := (nW4 169 rfl rfl)
theorem lk_9_51 : nLk 9 51 YX8_side := (nW4 173 rfl rfl)
theorem lk_9_55 : nLk 9 55 YX8_cut := (nW4 177 rfl rfl)
theorem lk_9_60 : nLk 9 60 YX8_tear := (nW4 181 rfl rfl)
theorem lk_9_65 : nLk 9 65 YX8_needle := (nW4 185 rfl rfl)
theorem lk_9_69 : nLk 9 69 YX8_hole := (nW4 189 rfl rfl)
theorem lk_8_158 : nLk 8 158 YX8_spreads := (nW4 193 rfl rfl)
theorem lk_8_172 : nLk 8 172 YX8_oddOnes := (nW4 197 rfl rfl)
theorem lk_9_73 : nLk 9 73 YX8_edge := (nW4 201 rfl rfl)
theorem lk_8_178 : nLk 8 178 YX8_twines := (nW4 205 rfl rfl)
theorem lk_9_77 : nLk 9 77 YX8_mend := (nW4 208 rfl rfl)
theorem lk_8_184 : nLk 8 184 YX8_goesOn := (nW4 212 rfl rfl)
theorem lk_8_187 : nLk 8 187 YX8_isGone := (nW4 216 rfl rfl)
theorem lk_8_190 : nLk 8 190 YX8_ties := (nW4 220 rfl rfl)
theorem lk_8_194 : nLk 8 194 YX8_reaches := (nW4 224 rfl rfl)
theorem lk_9_81 : nLk 9 81 YX8_way := (nW4 228 rfl rfl)
theorem lk_9_85 : nLk 9 85 YX8_taper := (nW4 232 rfl rfl)
theorem lk_9_89 : nLk 9 89 YX8_cycle := (nW4 236 rfl rfl)
theorem lk_9_93 : nLk 9 93 YX8_sew := (nW5 0 rfl rfl)
theorem lk_8_209 : nLk 8 209 YX8_copies := (nW5 4 rfl rfl)
theorem lk_9_97 : nLk 9 97 YX8_match := (nW5 8 rfl rfl)
theorem lk_9_101 : nLk 9 101 YX8_hang := (nW5 12 rfl rfl)
theorem lk_9_106 : nLk 9 106 YX8_parts := (nW5 16 rfl rfl)
theorem lk_9_110 : nLk 9 110 YX8_part := (nW5 20 rfl rfl)
theorem lk_9_114 : nLk 9 114 YX8_open := (nW5 24 rfl rfl)
theorem lk_9_118 : nLk 9 118 YX8_slips := (nW5 28 rfl rfl)
theorem lk_8_213 : nLk 8 213 YX8_open := (nW5 32 rfl rfl)
theorem lk_9_122 : nLk 9 122 YX8_pull := (nW5 33 rfl rfl)
theorem lk_9_126 : nLk 9 126 YX8_load := (nW5 37 rfl rfl)
theorem lk_8_229 : nLk 8 229 YX8_leads := (nW5 41 rfl rfl)
theorem lk_8_225 : nLk 8 225 YX8_sixth := (nW5 45 rfl rfl)
theorem lk_8_233 : nLk 8 233 YX8_lowest := (nW5 49 rfl rfl)
theorem lk_9_131 : nLk 9 131 YX8_sum := (nW5 52 rfl rfl)
theorem lk_9_135 : nLk 9 135 YX8_weak := (nW5 56 rfl rfl)
theorem lk_9_139 : nLk 9 139 YX8_count := (nW5 60 rfl rfl)
theorem lk_9_143 : nLk 9 143 YX8_panelOf := (nW5 64 rfl rfl)
theorem kl_9_7 : Cond.classLink (cNm 9) 7 "NetLoft" ∈ nWs := (nW1 13 rfl rfl)
theorem nn_9_7 : nN 9 7 7 10 := ⟨_, rfl, rfl, kl_9_7, (nW1 14 rfl rfl), (nW1 1 rfl rfl)⟩
theorem kl_7_9 : Cond.classLink (cNm 7) 9 "NetLoft$Panel" ∈ nWs := (nW1 21 rfl rfl)
theorem nn_7_9 : nN 7 9 2 7 := ⟨_, rfl, rfl, kl_7_9, (nW1 176 rfl rfl), (nW1 8 rfl rfl)⟩
theorem kl_7_23 : Cond.classLink (cNm 7) 23 "NetLoft$Hole" ∈ nWs := (nW1 23 rfl rfl)
theorem nn_7_23 : nN 7 23 0 9 := ⟨_, rfl, rfl, kl_7_23, (nW1 24 rfl rfl), (nW1 2 rfl rfl)⟩
theorem kl_0_18 : Cond.classLink (cNm 0) 18 "[[I" ∈ nWs := (nW1 29 rfl rfl)
theorem kl_7_33 : Cond.classLink (cNm 7) 33 "NetLoft$Way" ∈ nWs := (nW1 61 rfl rfl)
theorem nn_7_33 : nN 7 33 6 4 := ⟨_, rfl, rfl, kl_7_33, (nW1 62 rfl rfl), (nW1 3 rfl rfl)⟩
theorem kl_7_40 : Cond.classLink (cNm 7) 40 "NetLoft$Taper" ∈ nWs := (nW1 81 rfl rfl)
theorem nn_7_40 : nN 7 40 5 3 := ⟨_, rfl, rfl, kl_7_40, (nW1 82 rfl rfl), (nW1 4 rfl rfl)⟩
theorem kl_7_47 : Cond.classLink (cNm 7) 47 "NetLoft$Seam" ∈ nWs := (nW1 97 rfl rfl)
theorem nn_7_47 : nN 7 47 4 2 := ⟨_, rfl, rfl, kl_7_47, (nW1 98 rfl rfl), (nW1 5 rfl rfl)⟩
theorem kl_7_54 : Cond.classLink (cNm 7) 54 "NetLoft$Loads" ∈ nWs := (nW1 112 rfl rfl)
theorem nn_7_54 : nN 7 54 1 4 := ⟨_, rfl, rfl, kl_7_54, (nW1 113 rfl rfl), (nW1 6 rfl rfl)⟩
theorem kl_1_9 : Cond.classLink (cNm 1) 9 "[[J" ∈ nWs := (nW1 118 rfl rfl)
theorem kl_2_18 : Cond.classLink (cNm 2) 18 "NetLoft$Row" ∈ nWs := (nW1 181 rfl rfl)
theorem nn_2_18 : nN 2 18 3 7 := ⟨_, rfl, rfl, kl_2_18, (nW1 215 rfl rfl), (nW1 9 rfl rfl)⟩
theorem kl_7_72 : Cond.classLink (cNm 7) 72 "NetLoft$Row" ∈ nWs := (nW1 214 rfl rfl)
theorem nn_7_72 : nN 7 72 3 7 := ⟨_, rfl, rfl, kl_7_72, (nW1 215 rfl rfl), (nW1 9 rfl rfl)⟩
theorem kl_3_10 : Cond.classLink (cNm 3) 10 "NetLoft$Row" ∈ nWs := (nW3 90 rfl rfl)
theorem nn_3_10 : nN 3 10 3 7 := ⟨_, rfl, rfl, kl_3_10, (nW1 215 rfl rfl), (nW1 9 rfl rfl)⟩
theorem kl_9_10 : Cond.classLink (cNm 9) 10 "NetLoftModel" ∈ nWs := (nW3 203 rfl rfl)
theorem nn_9_10 : nN 9 10 8 39 := ⟨_, rfl, rfl, kl_9_10, (nW3 204 rfl rfl), (nW1 7 rfl rfl)⟩
theorem ct_7_68 : Cond.constant (cNm 7) 68 (1000000) ∈ nWs := (nW1 175 rfl rfl)
theorem ct_10_265 : Cond.constant (cNm 10) 265 (1431655765) ∈ nWs := (nW2 124 rfl rfl)
theorem ct_10_266 : Cond.constant (cNm 10) 266 (858993459) ∈ nWs := (nW2 125 rfl rfl)
theorem ct_10_267 : Cond.constant (cNm 10) 267 (252645135) ∈ nWs := (nW2 126 rfl rfl)
theorem ct_8_103 : Cond.constant (cNm 8) 103 (1000000) ∈ nWs := (nW4 91 rfl rfl)
theorem ct_2_77 : Cond.constantLong (cNm 2) 77 (24) ∈ nWs := (nW2 89 rfl rfl)
theorem ct_7_115 : Cond.constantLong (cNm 7) 115 (-1) ∈ nWs := (nW2 104 rfl rfl)
theorem ct_7_121 : Cond.constantLong (cNm 7) 121 (1000000000000) ∈ nWs := (nW2 106 rfl rfl)
theorem ct_1_32 : Cond.constantLong (cNm 1) 32 (609359740010496) ∈ nWs := (nW3 157 rfl rfl)
theorem ct_1_84 : Cond.constantLong (cNm 1) 84 (-1) ∈ nWs := (nW3 187 rfl rfl)
theorem ct_8_129 : Cond.constantLong (cNm 8) 129 (24) ∈ nWs := (nW4 142 rfl rfl)
theorem ct_8_135 : Cond.constantLong (cNm 8) 135 (-1) ∈ nWs := (nW4 148 rfl rfl)
theorem ct_8_137 : Cond.constantLong (cNm 8) 137 (1000000000000) ∈ nWs := (nW4 149 rfl rfl)
theorem ct_8_216 : Cond.constantLong (cNm 8) 216 (6) ∈ nWs := (nW5 48 rfl rfl)
theorem aw_int : Cond.arrayClass .int ∈ nWs := (nW1 60 rfl rfl)
theorem aw_long : Cond.arrayClass .long ∈ nWs := (nW1 136 rfl rfl)
theorem aw_boolean : Cond.arrayClass .boolean ∈ nWs := (nW4 86 rfl rfl)
theorem df_0 : nDf 0 [.int 0, .int 0, .int 0, .int 0, .null, .null, .null, .null, .int 0] := fun q hq => by
  cases hq
  refine ⟨tyX0, tyX0_ok, fun j hj => ?_⟩
  match j, hj with
  | 0, _ => rfl
  | 1, _ => rfl
  | 2, _ => rfl
  | 3, _ => rfl
  | 4, _ => rfl
  | 5, _ => rfl
  | 6, _ => rfl
  | 7, _ => rfl
  | 8, _ => rfl
  | k + 9, hj => exact absurd (show k + 9 < 9 from hj) (by omega)
theorem df_1 : nDf 1 [.long 0, .long 0, .null, .null] := fun q hq => by
  cases hq
  refine ⟨tyX1, tyX1_ok, fun j hj => ?_⟩
  match j, hj with
  | 0, _ => rfl
  | 1, _ => rfl
  | 2, _ => rfl
  | 3, _ => rfl
  | k + 4, hj => exact absurd (show k + 4 < 4 from hj) (by omega)
theorem df_2 : nDf 2 [.int 0, .int 0, .int 0, .int 0, .null, .int 0, .null] := fun q hq => by
  cases hq
  refine ⟨tyX2, tyX2_ok, fun j hj => ?_⟩
  match j, hj with
  | 0, _ => rfl
  | 1, _ => rfl
  | 2, _ => rfl
  | 3, _ => rfl
  | 4, _ => rfl
  | 5, _ => rfl
  | 6, _ => rfl
  | k + 7, hj => exact absurd (show k + 7 < 7 from hj) (by omega)
theorem df_3 : nDf 3 [.int 0, .null, .null, .null, .null, .null, .null] := fun q hq => by
  cases hq
  refine ⟨tyX3, tyX3_ok, fun j hj => ?_⟩
  match j, hj with
  | 0, _ => rfl
  | 1, _ => rfl
  | 2, _ => rfl
  | 3, _ => rfl
  | 4, _ => rfl
  | 5, _ => rfl
  | 6, _ => rfl
  | k + 7, hj => exact absurd (show k + 7 < 7 from hj) (by omega)
theorem df_4 : nDf 4 [.int 0, .null] := fun q hq => by
  cases hq
  refine ⟨tyX4, tyX4_ok, fun j hj => ?_⟩
  match j, hj with
  | 0, _ => rfl
  | 1, _ => rfl
  | k + 2, hj => exact absurd (show k + 2 < 2 from hj) (by omega)
theorem df_5 : nDf 5 [.int 0, .int 0, .int 0] := fun q hq => by
  cases hq
  refine ⟨tyX5, tyX5_ok, fun j hj => ?_⟩
  match j, hj with
  | 0, _ => rfl
  | 1, _ => rfl
  | 2, _ => rfl
  | k + 3, hj => exact absurd (show k + 3 < 3 from hj) (by omega)
theorem df_6 : nDf 6 [.int 0, .null, .null, .int 0] := fun q hq => by
  cases hq
  refine ⟨tyX6, tyX6_ok, fun j hj => ?_⟩
  match j, hj with
  | 0, _ => rfl
  | 1, _ => rfl
  | 2, _ => rfl
  | 3, _ => rfl
  | k + 4, hj => exact absurd (show k + 4 < 4 from hj) (by omega)
theorem df_7 : nDf 7 [.null, .int 0, .null, .int 0, .null, .null, .null, .null, .null, .null] := fun q hq => by
  cases hq
  refine ⟨tyX7, tyX7_ok, fun j hj => ?_⟩
  match j, hj with
  | 0, _ => rfl
  | 1, _ => rfl
  | 2, _ => rfl
  | 3, _ => rfl
  | 4, _ => rfl
  | 5, _ => rfl
  | 6, _ => rfl
  | 7, _ => rfl
  | 8, _ => rfl
  | 9, _ => rfl
  | k + 10, hj => exact absurd (show k + 10 < 10 from hj) (by omega)
theorem df_8 : nDf 8 [.int 0, .int 0, .null, .null, .null, .null, .null, .null, .null, .null, .null, .null, .null, .null, .null, .null, .int 0, .null, .null, .null, .int 0, .int 0, .int 0, .int 0, .int 0, .int 0, .null, .null, .int 0, .null, .null, .int 0, .int 0, .int 0, .int 0, .null, .null, .long 0, .long 0] := fun q hq => by
  cases hq
  refine ⟨tyX8, tyX8_ok, fun j hj => ?_⟩
  match j, hj with
  | 0, _ => rfl
  | 1, _ => rfl
  | 2, _ => rfl
  | 3, _ => rfl
  | 4, _ => rfl
  | 5, _ => rfl
  | 6, _ => rfl
  | 7, _ => rfl
  | 8, _ => rfl
  | 9, _ => rfl
  | 10, _ => rfl
  | 11, _ => rfl
  | 12, _ => rfl
  | 13, _ => rfl
  | 14, _ => rfl
  | 15, _ => rfl
  | 16, _ => rfl
  | 17, _ => rfl
  | 18, _ => rfl
  | 19, _ => rfl
  | 20, _ => rfl
  | 21, _ => rfl
  | 22, _ => rfl
  | 23, _ => rfl
  | 24, _ => rfl
  | 25, _ => rfl
  | 26, _ => rfl
  | 27, _ => rfl
  | 28, _ => rfl
  | 29, _ => rfl
  | 30, _ => rfl
  | 31, _ => rfl
  | 32, _ => rfl
  | 33, _ => rfl
  | 34, _ => rfl
  | 35, _ => rfl
  | 36, _ => rfl
  | 37, _ => rfl
  | 38, _ => rfl
  | k + 39, hj => exact absurd (show k + 39 < 39 from hj) (by omega)
