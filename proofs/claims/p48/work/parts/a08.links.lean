theorem clL_19 : Cond.classLink RL 19 "PackLoans" ∈ lw_ctx := in_ctx 36 (by decide +kernel) rfl
theorem obX7_1 : Cond.methodLink RX7 1 Lib.objectInit ∈ lw_ctx := in_ctx 41 (by decide +kernel) rfl
theorem clX7_7 : Cond.classLink RX7 7 "PackLoans$World" ∈ lw_ctx := in_ctx 44 (by decide +kernel) rfl
theorem clX7_9 : Cond.classLink RX7 9 "PackLoans$Plan" ∈ lw_ctx := in_ctx 46 (by decide +kernel) rfl
theorem obX2_3 : Cond.methodLink RX2 3 Lib.objectInit ∈ lw_ctx := in_ctx 51 (by decide +kernel) rfl
theorem fxX2_18 : FLw RX2 18 6 7 (.array .int) true := ⟨_, rfl, by decide, in_ctx 77 (by decide +kernel) rfl, by decide +kernel, by decide +kernel, fun _ => by decide +kernel⟩
theorem fxX6_31 : FLw RX6 31 6 7 (.array .int) true := ⟨_, rfl, by decide, in_ctx 78 (by decide +kernel) rfl, by decide +kernel, by decide +kernel, fun _ => by decide +kernel⟩
theorem fxX7_127 : FLw RX7 127 6 7 (.array .int) true := ⟨_, rfl, by decide, in_ctx 79 (by decide +kernel) rfl, by decide +kernel, by decide +kernel, fun _ => by decide +kernel⟩
theorem fxX2_22 : FLw RX2 22 6 8 (.array .int) true := ⟨_, rfl, by decide, in_ctx 80 (by decide +kernel) rfl, by decide +kernel, by decide +kernel, fun _ => by decide +kernel⟩
theorem fxX7_141 : FLw RX7 141 6 8 (.array .int) true := ⟨_, rfl, by decide, in_ctx 81 (by decide +kernel) rfl, by decide +kernel, by decide +kernel, fun _ => by decide +kernel⟩
theorem fxX2_25 : FLw RX2 25 6 9 (.array .int) true := ⟨_, rfl, by decide, in_ctx 82 (by decide +kernel) rfl, by decide +kernel, by decide +kernel, fun _ => by decide +kernel⟩
theorem fxX3_166 : FLw RX3 166 6 9 (.array .int) true := ⟨_, rfl, by decide, in_ctx 83 (by decide +kernel) rfl, by decide +kernel, by decide +kernel, fun _ => by decide +kernel⟩
theorem fxX2_28 : FLw RX2 28 6 10 (.array .int) true := ⟨_, rfl, by decide, in_ctx 84 (by decide +kernel) rfl, by decide +kernel, by decide +kernel, fun _ => by decide +kernel⟩
theorem fxX2_31 : FLw RX2 31 6 11 (.array .int) true := ⟨_, rfl, by decide, in_ctx 85 (by decide +kernel) rfl, by decide +kernel, by decide +kernel, fun _ => by decide +kernel⟩
theorem fxX2_34 : FLw RX2 34 6 12 (.array .int) true := ⟨_, rfl, by decide, in_ctx 86 (by decide +kernel) rfl, by decide +kernel, by decide +kernel, fun _ => by decide +kernel⟩
theorem fxX6_73 : FLw RX6 73 6 12 (.array .int) true := ⟨_, rfl, by decide, in_ctx 87 (by decide +kernel) rfl, by decide +kernel, by decide +kernel, fun _ => by decide +kernel⟩
theorem fxX3_198 : FLw RX3 198 6 12 (.array .int) true := ⟨_, rfl, by decide, in_ctx 88 (by decide +kernel) rfl, by decide +kernel, by decide +kernel, fun _ => by decide +kernel⟩
theorem fxX2_37 : FLw RX2 37 6 13 (.array .int) true := ⟨_, rfl, by decide, in_ctx 89 (by decide +kernel) rfl, by decide +kernel, by decide +kernel, fun _ => by decide +kernel⟩
theorem fxX3_201 : FLw RX3 201 6 13 (.array .int) true := ⟨_, rfl, by decide, in_ctx 90 (by decide +kernel) rfl, by decide +kernel, by decide +kernel, fun _ => by decide +kernel⟩
theorem fxX6_203 : FLw RX6 203 6 13 (.array .int) true := ⟨_, rfl, by decide, in_ctx 91 (by decide +kernel) rfl, by decide +kernel, by decide +kernel, fun _ => by decide +kernel⟩
theorem fxX2_40 : FLw RX2 40 6 14 (.array .int) true := ⟨_, rfl, by decide, in_ctx 92 (by decide +kernel) rfl, by decide +kernel, by decide +kernel, fun _ => by decide +kernel⟩
theorem fxX6_126 : FLw RX6 126 6 14 (.array .int) true := ⟨_, rfl, by decide, in_ctx 93 (by decide +kernel) rfl, by decide +kernel, by decide +kernel, fun _ => by decide +kernel⟩
theorem fxX3_204 : FLw RX3 204 6 14 (.array .int) true := ⟨_, rfl, by decide, in_ctx 94 (by decide +kernel) rfl, by decide +kernel, by decide +kernel, fun _ => by decide +kernel⟩
theorem fxX2_43 : FLw RX2 43 6 15 (.array .int) true := ⟨_, rfl, by decide, in_ctx 95 (by decide +kernel) rfl, by decide +kernel, by decide +kernel, fun _ => by decide +kernel⟩
theorem fxX3_207 : FLw RX3 207 6 15 (.array .int) true := ⟨_, rfl, by decide, in_ctx 96 (by decide +kernel) rfl, by decide +kernel, by decide +kernel, fun _ => by decide +kernel⟩
theorem fxX7_192 : FLw RX7 192 6 15 (.array .int) true := ⟨_, rfl, by decide, in_ctx 97 (by decide +kernel) rfl, by decide +kernel, by decide +kernel, fun _ => by decide +kernel⟩
theorem fxX2_46 : FLw RX2 46 6 16 (.array .int) true := ⟨_, rfl, by decide, in_ctx 98 (by decide +kernel) rfl, by decide +kernel, by decide +kernel, fun _ => by decide +kernel⟩
theorem fxX3_210 : FLw RX3 210 6 16 (.array .int) true := ⟨_, rfl, by decide, in_ctx 99 (by decide +kernel) rfl, by decide +kernel, by decide +kernel, fun _ => by decide +kernel⟩
theorem fxX6_216 : FLw RX6 216 6 16 (.array .int) true := ⟨_, rfl, by decide, in_ctx 100 (by decide +kernel) rfl, by decide +kernel, by decide +kernel, fun _ => by decide +kernel⟩
theorem obX6_3 : Cond.methodLink RX6 3 Lib.objectInit ∈ lw_ctx := in_ctx 140 (by decide +kernel) rfl
theorem clX6_9 : Cond.classLink RX6 9 "PackLoans$State" ∈ lw_ctx := in_ctx 141 (by decide +kernel) rfl
theorem obX4_3 : Cond.methodLink RX4 3 Lib.objectInit ∈ lw_ctx := in_ctx 146 (by decide +kernel) rfl
theorem clX4_36 : Cond.classLink RX4 36 "PackLoans$Trips" ∈ lw_ctx := in_ctx 147 (by decide +kernel) rfl
theorem obX5_3 : Cond.methodLink RX5 3 Lib.objectInit ∈ lw_ctx := in_ctx 152 (by decide +kernel) rfl
theorem fxX5_9 : FLw RX5 9 9 1 (.array .int) true := ⟨_, rfl, by decide, in_ctx 158 (by decide +kernel) rfl, by decide +kernel, by decide +kernel, fun _ => by decide +kernel⟩
theorem fxX7_172 : FLw RX7 172 9 1 (.array .int) true := ⟨_, rfl, by decide, in_ctx 159 (by decide +kernel) rfl, by decide +kernel, by decide +kernel, fun _ => by decide +kernel⟩
theorem fxX6_188 : FLw RX6 188 9 1 (.array .int) true := ⟨_, rfl, by decide, in_ctx 160 (by decide +kernel) rfl, by decide +kernel, by decide +kernel, fun _ => by decide +kernel⟩
theorem fxX5_15 : FLw RX5 15 9 2 (.array .int) true := ⟨_, rfl, by decide, in_ctx 161 (by decide +kernel) rfl, by decide +kernel, by decide +kernel, fun _ => by decide +kernel⟩
theorem fxX7_175 : FLw RX7 175 9 2 (.array .int) true := ⟨_, rfl, by decide, in_ctx 162 (by decide +kernel) rfl, by decide +kernel, by decide +kernel, fun _ => by decide +kernel⟩
theorem fxX6_182 : FLw RX6 182 9 2 (.array .int) true := ⟨_, rfl, by decide, in_ctx 163 (by decide +kernel) rfl, by decide +kernel, by decide +kernel, fun _ => by decide +kernel⟩
theorem fxX5_18 : FLw RX5 18 9 3 (.array .int) true := ⟨_, rfl, by decide, in_ctx 164 (by decide +kernel) rfl, by decide +kernel, by decide +kernel, fun _ => by decide +kernel⟩
theorem fxX7_178 : FLw RX7 178 9 3 (.array .int) true := ⟨_, rfl, by decide, in_ctx 165 (by decide +kernel) rfl, by decide +kernel, by decide +kernel, fun _ => by decide +kernel⟩
theorem fxX6_185 : FLw RX6 185 9 3 (.array .int) true := ⟨_, rfl, by decide, in_ctx 166 (by decide +kernel) rfl, by decide +kernel, by decide +kernel, fun _ => by decide +kernel⟩
theorem fxX5_21 : FLw RX5 21 9 4 (.array .int) true := ⟨_, rfl, by decide, in_ctx 167 (by decide +kernel) rfl, by decide +kernel, by decide +kernel, fun _ => by decide +kernel⟩
theorem fxX7_181 : FLw RX7 181 9 4 (.array .int) true := ⟨_, rfl, by decide, in_ctx 168 (by decide +kernel) rfl, by decide +kernel, by decide +kernel, fun _ => by decide +kernel⟩
theorem fxX6_184 : FLw RX6 184 9 4 (.array .int) true := ⟨_, rfl, by decide, in_ctx 169 (by decide +kernel) rfl, by decide +kernel, by decide +kernel, fun _ => by decide +kernel⟩
theorem clX4_43 : Cond.classLink RX4 43 "PackLoans$Loans" ∈ lw_ctx := in_ctx 181 (by decide +kernel) rfl
theorem obX1_3 : Cond.methodLink RX1 3 Lib.objectInit ∈ lw_ctx := in_ctx 186 (by decide +kernel) rfl
theorem fxX1_9 : FLw RX1 9 5 1 (.array .int) true := ⟨_, rfl, by decide, in_ctx 191 (by decide +kernel) rfl, by decide +kernel, by decide +kernel, fun _ => by decide +kernel⟩
theorem fxX7_213 : FLw RX7 213 5 1 (.array .int) true := ⟨_, rfl, by decide, in_ctx 192 (by decide +kernel) rfl, by decide +kernel, by decide +kernel, fun _ => by decide +kernel⟩
theorem fxX6_109 : FLw RX6 109 5 1 (.array .int) true := ⟨_, rfl, by decide, in_ctx 193 (by decide +kernel) rfl, by decide +kernel, by decide +kernel, fun _ => by decide +kernel⟩
theorem fxX1_15 : FLw RX1 15 5 2 (.array .int) true := ⟨_, rfl, by decide, in_ctx 194 (by decide +kernel) rfl, by decide +kernel, by decide +kernel, fun _ => by decide +kernel⟩
theorem fxX7_216 : FLw RX7 216 5 2 (.array .int) true := ⟨_, rfl, by decide, in_ctx 195 (by decide +kernel) rfl, by decide +kernel, by decide +kernel, fun _ => by decide +kernel⟩
theorem fxX6_117 : FLw RX6 117 5 2 (.array .int) true := ⟨_, rfl, by decide, in_ctx 196 (by decide +kernel) rfl, by decide +kernel, by decide +kernel, fun _ => by decide +kernel⟩
theorem fxX1_18 : FLw RX1 18 5 3 (.array .int) true := ⟨_, rfl, by decide, in_ctx 197 (by decide +kernel) rfl, by decide +kernel, by decide +kernel, fun _ => by decide +kernel⟩
theorem fxX6_99 : FLw RX6 99 5 3 (.array .int) true := ⟨_, rfl, by decide, in_ctx 198 (by decide +kernel) rfl, by decide +kernel, by decide +kernel, fun _ => by decide +kernel⟩
theorem fxX7_219 : FLw RX7 219 5 3 (.array .int) true := ⟨_, rfl, by decide, in_ctx 199 (by decide +kernel) rfl, by decide +kernel, by decide +kernel, fun _ => by decide +kernel⟩
theorem fxX1_21 : FLw RX1 21 5 4 (.array .int) true := ⟨_, rfl, by decide, in_ctx 200 (by decide +kernel) rfl, by decide +kernel, by decide +kernel, fun _ => by decide +kernel⟩
theorem fxX6_102 : FLw RX6 102 5 4 (.array .int) true := ⟨_, rfl, by decide, in_ctx 201 (by decide +kernel) rfl, by decide +kernel, by decide +kernel, fun _ => by decide +kernel⟩
theorem fxX7_222 : FLw RX7 222 5 4 (.array .int) true := ⟨_, rfl, by decide, in_ctx 202 (by decide +kernel) rfl, by decide +kernel, by decide +kernel, fun _ => by decide +kernel⟩
theorem fxX1_24 : FLw RX1 24 5 5 (.array .int) true := ⟨_, rfl, by decide, in_ctx 203 (by decide +kernel) rfl, by decide +kernel, by decide +kernel, fun _ => by decide +kernel⟩
theorem fxX6_103 : FLw RX6 103 5 5 (.array .int) true := ⟨_, rfl, by decide, in_ctx 204 (by decide +kernel) rfl, by decide +kernel, by decide +kernel, fun _ => by decide +kernel⟩
theorem fxX7_223 : FLw RX7 223 5 5 (.array .int) true := ⟨_, rfl, by decide, in_ctx 205 (by decide +kernel) rfl, by decide +kernel, by decide +kernel, fun _ => by decide +kernel⟩
theorem fxX1_27 : FLw RX1 27 5 6 (.array .int) true := ⟨_, rfl, by decide, in_ctx 206 (by decide +kernel) rfl, by decide +kernel, by decide +kernel, fun _ => by decide +kernel⟩
theorem fxX7_229 : FLw RX7 229 5 6 (.array .int) true := ⟨_, rfl, by decide, in_ctx 207 (by decide +kernel) rfl, by decide +kernel, by decide +kernel, fun _ => by decide +kernel⟩
theorem fxX6_115 : FLw RX6 115 5 6 (.array .int) true := ⟨_, rfl, by decide, in_ctx 208 (by decide +kernel) rfl, by decide +kernel, by decide +kernel, fun _ => by decide +kernel⟩
theorem fxX1_30 : FLw RX1 30 5 7 (.array .int) true := ⟨_, rfl, by decide, in_ctx 209 (by decide +kernel) rfl, by decide +kernel, by decide +kernel, fun _ => by decide +kernel⟩
theorem fxX7_230 : FLw RX7 230 5 7 (.array .int) true := ⟨_, rfl, by decide, in_ctx 210 (by decide +kernel) rfl, by decide +kernel, by decide +kernel, fun _ => by decide +kernel⟩
theorem fxX6_160 : FLw RX6 160 5 7 (.array .int) true := ⟨_, rfl, by decide, in_ctx 211 (by decide +kernel) rfl, by decide +kernel, by decide +kernel, fun _ => by decide +kernel⟩
theorem fxX4_9 : FLw RX4 9 8 4 (.array .int) true := ⟨_, rfl, by decide, in_ctx 241 (by decide +kernel) rfl, by decide +kernel, by decide +kernel, fun _ => by decide +kernel⟩
theorem fxX6_46 : FLw RX6 46 8 4 (.array .int) true := ⟨_, rfl, by decide, in_ctx 242 (by decide +kernel) rfl, by decide +kernel, by decide +kernel, fun _ => by decide +kernel⟩
theorem fxX7_135 : FLw RX7 135 8 4 (.array .int) true := ⟨_, rfl, by decide, in_ctx 243 (by decide +kernel) rfl, by decide +kernel, by decide +kernel, fun _ => by decide +kernel⟩
theorem fxX4_15 : FLw RX4 15 8 5 (.array .int) true := ⟨_, rfl, by decide, in_ctx 244 (by decide +kernel) rfl, by decide +kernel, by decide +kernel, fun _ => by decide +kernel⟩
theorem fxX6_39 : FLw RX6 39 8 5 (.array .int) true := ⟨_, rfl, by decide, in_ctx 245 (by decide +kernel) rfl, by decide +kernel, by decide +kernel, fun _ => by decide +kernel⟩
theorem fxX7_138 : FLw RX7 138 8 5 (.array .int) true := ⟨_, rfl, by decide, in_ctx 246 (by decide +kernel) rfl, by decide +kernel, by decide +kernel, fun _ => by decide +kernel⟩
theorem fxX4_18 : FLw RX4 18 8 6 (.array .int) true := ⟨_, rfl, by decide, in_ctx 247 (by decide +kernel) rfl, by decide +kernel, by decide +kernel, fun _ => by decide +kernel⟩
theorem fxX7_144 : FLw RX7 144 8 6 (.array .int) true := ⟨_, rfl, by decide, in_ctx 248 (by decide +kernel) rfl, by decide +kernel, by decide +kernel, fun _ => by decide +kernel⟩
theorem fxX4_21 : FLw RX4 21 8 7 (.array .int) true := ⟨_, rfl, by decide, in_ctx 249 (by decide +kernel) rfl, by decide +kernel, by decide +kernel, fun _ => by decide +kernel⟩
theorem fxX7_157 : FLw RX7 157 8 7 (.array .int) true := ⟨_, rfl, by decide, in_ctx 250 (by decide +kernel) rfl, by decide +kernel, by decide +kernel, fun _ => by decide +kernel⟩
theorem fxX6_83 : FLw RX6 83 8 7 (.array .int) true := ⟨_, rfl, by decide, in_ctx 251 (by decide +kernel) rfl, by decide +kernel, by decide +kernel, fun _ => by decide +kernel⟩
theorem fxX4_24 : FLw RX4 24 8 8 (.array .int) true := ⟨_, rfl, by decide, in_ctx 252 (by decide +kernel) rfl, by decide +kernel, by decide +kernel, fun _ => by decide +kernel⟩
theorem fxX7_160 : FLw RX7 160 8 8 (.array .int) true := ⟨_, rfl, by decide, in_ctx 253 (by decide +kernel) rfl, by decide +kernel, by decide +kernel, fun _ => by decide +kernel⟩
theorem fxX4_27 : FLw RX4 27 8 9 (.array .int) true := ⟨_, rfl, by decide, in_ctx 254 (by decide +kernel) rfl, by decide +kernel, by decide +kernel, fun _ => by decide +kernel⟩
theorem fxX7_163 : FLw RX7 163 8 9 (.array .int) true := ⟨_, rfl, by decide, in_ctx 255 (by decide +kernel) rfl, by decide +kernel, by decide +kernel, fun _ => by decide +kernel⟩
theorem fxX6_135 : FLw RX6 135 8 9 (.array .int) true := ⟨_, rfl, by decide, in_ctx 256 (by decide +kernel) rfl, by decide +kernel, by decide +kernel, fun _ => by decide +kernel⟩
theorem fxX4_30 : FLw RX4 30 8 10 (.array .int) true := ⟨_, rfl, by decide, in_ctx 257 (by decide +kernel) rfl, by decide +kernel, by decide +kernel, fun _ => by decide +kernel⟩
theorem fxX7_166 : FLw RX7 166 8 10 (.array .int) true := ⟨_, rfl, by decide, in_ctx 258 (by decide +kernel) rfl, by decide +kernel, by decide +kernel, fun _ => by decide +kernel⟩
theorem fxX4_33 : FLw RX4 33 8 11 (.array .int) true := ⟨_, rfl, by decide, in_ctx 259 (by decide +kernel) rfl, by decide +kernel, by decide +kernel, fun _ => by decide +kernel⟩
theorem fxX6_120 : FLw RX6 120 8 11 (.array .int) true := ⟨_, rfl, by decide, in_ctx 260 (by decide +kernel) rfl, by decide +kernel, by decide +kernel, fun _ => by decide +kernel⟩
theorem fxX3_213 : FLw RX3 213 8 11 (.array .int) true := ⟨_, rfl, by decide, in_ctx 261 (by decide +kernel) rfl, by decide +kernel, by decide +kernel, fun _ => by decide +kernel⟩
theorem fxX7_204 : FLw RX7 204 8 11 (.array .int) true := ⟨_, rfl, by decide, in_ctx 262 (by decide +kernel) rfl, by decide +kernel, by decide +kernel, fun _ => by decide +kernel⟩
theorem fxX4_39 : FLw RX4 39 8 12 (.object "PackLoans$Trips") true := ⟨_, rfl, by decide, in_ctx 263 (by decide +kernel) rfl, by decide +kernel, by decide +kernel, fun _ => by decide +kernel⟩
theorem fxX7_97 : FLw RX7 97 8 12 (.object "PackLoans$Trips") true := ⟨_, rfl, by decide, in_ctx 264 (by decide +kernel) rfl, by decide +kernel, by decide +kernel, fun _ => by decide +kernel⟩
theorem fxX3_138 : FLw RX3 138 8 12 (.object "PackLoans$Trips") true := ⟨_, rfl, by decide, in_ctx 265 (by decide +kernel) rfl, by decide +kernel, by decide +kernel, fun _ => by decide +kernel⟩
theorem fxX6_147 : FLw RX6 147 8 12 (.object "PackLoans$Trips") true := ⟨_, rfl, by decide, in_ctx 266 (by decide +kernel) rfl, by decide +kernel, by decide +kernel, fun _ => by decide +kernel⟩
theorem fxX4_46 : FLw RX4 46 8 13 (.object "PackLoans$Loans") true := ⟨_, rfl, by decide, in_ctx 267 (by decide +kernel) rfl, by decide +kernel, by decide +kernel, fun _ => by decide +kernel⟩
theorem fxX7_111 : FLw RX7 111 8 13 (.object "PackLoans$Loans") true := ⟨_, rfl, by decide, in_ctx 268 (by decide +kernel) rfl, by decide +kernel, by decide +kernel, fun _ => by decide +kernel⟩
theorem fxX6_89 : FLw RX6 89 8 13 (.object "PackLoans$Loans") true := ⟨_, rfl, by decide, in_ctx 269 (by decide +kernel) rfl, by decide +kernel, by decide +kernel, fun _ => by decide +kernel⟩
theorem fxX6_18 : FLw RX6 18 10 0 (.object "PackLoans$Plan") true := ⟨_, rfl, by decide, in_ctx 299 (by decide +kernel) rfl, by decide +kernel, by decide +kernel, fun _ => by decide +kernel⟩
theorem fxX7_21 : FLw RX7 21 10 0 (.object "PackLoans$Plan") true := ⟨_, rfl, by decide, in_ctx 300 (by decide +kernel) rfl, by decide +kernel, by decide +kernel, fun _ => by decide +kernel⟩
theorem fxX3_31 : FLw RX3 31 10 0 (.object "PackLoans$Plan") true := ⟨_, rfl, by decide, in_ctx 301 (by decide +kernel) rfl, by decide +kernel, by decide +kernel, fun _ => by decide +kernel⟩
theorem fxX6_12 : FLw RX6 12 10 1 (.object "PackLoans$State") true := ⟨_, rfl, by decide, in_ctx 302 (by decide +kernel) rfl, by decide +kernel, by decide +kernel, fun _ => by decide +kernel⟩
theorem fxX3_38 : FLw RX3 38 10 1 (.object "PackLoans$State") true := ⟨_, rfl, by decide, in_ctx 303 (by decide +kernel) rfl, by decide +kernel, by decide +kernel, fun _ => by decide +kernel⟩
theorem fxX7_93 : FLw RX7 93 10 1 (.object "PackLoans$State") true := ⟨_, rfl, by decide, in_ctx 304 (by decide +kernel) rfl, by decide +kernel, by decide +kernel, fun _ => by decide +kernel⟩
theorem clX7_28 : Cond.classLink RX7 28 "PackLoans$Reader" ∈ lw_ctx := in_ctx 310 (by decide +kernel) rfl
theorem obX3_3 : Cond.methodLink RX3 3 Lib.objectInit ∈ lw_ctx := in_ctx 315 (by decide +kernel) rfl
theorem clX3_9 : Cond.classLink RX3 9 "PackLoans$World" ∈ lw_ctx := in_ctx 316 (by decide +kernel) rfl
theorem clX3_11 : Cond.classLink RX3 11 "PackLoans$Plan" ∈ lw_ctx := in_ctx 317 (by decide +kernel) rfl
theorem fxX3_17 : FLw RX3 17 7 0 (.object "PackLoans$World") true := ⟨_, rfl, by decide, in_ctx 320 (by decide +kernel) rfl, by decide +kernel, by decide +kernel, fun _ => by decide +kernel⟩
theorem fxX7_64 : FLw RX7 64 7 0 (.object "PackLoans$World") true := ⟨_, rfl, by decide, in_ctx 321 (by decide +kernel) rfl, by decide +kernel, by decide +kernel, fun _ => by decide +kernel⟩
theorem fxX3_23 : FLw RX3 23 7 4 (.array .byte) true := ⟨_, rfl, by decide, in_ctx 328 (by decide +kernel) rfl, by decide +kernel, by decide +kernel, fun _ => by decide +kernel⟩
theorem clX7_35 : Cond.classLink RX7 35 "PackLoans$History" ∈ lw_ctx := in_ctx 350 (by decide +kernel) rfl
theorem obX0_3 : Cond.methodLink RX0 3 Lib.objectInit ∈ lw_ctx := in_ctx 355 (by decide +kernel) rfl
theorem clX0_9 : Cond.classLink RX0 9 "PackLoans$State" ∈ lw_ctx := in_ctx 356 (by decide +kernel) rfl
theorem fxX0_11 : FLw RX0 11 4 2 (.array (.object "PackLoans$State")) true := ⟨_, rfl, by decide, in_ctx 362 (by decide +kernel) rfl, by decide +kernel, by decide +kernel, fun _ => by decide +kernel⟩
theorem fxX7_15 : FLw RX7 15 11 0 (.object "PackLoans$World") true := ⟨_, rfl, by decide, in_ctx 371 (by decide +kernel) rfl, by decide +kernel, by decide +kernel, fun _ => by decide +kernel⟩
theorem fxX7_25 : FLw RX7 25 11 1 (.object "PackLoans$World") true := ⟨_, rfl, by decide, in_ctx 372 (by decide +kernel) rfl, by decide +kernel, by decide +kernel, fun _ => by decide +kernel⟩
theorem fxX7_31 : FLw RX7 31 11 2 (.object "PackLoans$Reader") true := ⟨_, rfl, by decide, in_ctx 373 (by decide +kernel) rfl, by decide +kernel, by decide +kernel, fun _ => by decide +kernel⟩
theorem fxX7_38 : FLw RX7 38 11 3 (.object "PackLoans$History") true := ⟨_, rfl, by decide, in_ctx 374 (by decide +kernel) rfl, by decide +kernel, by decide +kernel, fun _ => by decide +kernel⟩
theorem fxX7_42 : FLw RX7 42 11 4 (.array (.object "PackLoans$World")) true := ⟨_, rfl, by decide, in_ctx 375 (by decide +kernel) rfl, by decide +kernel, by decide +kernel, fun _ => by decide +kernel⟩
theorem fxX7_46 : FLw RX7 46 11 5 (.array .boolean) true := ⟨_, rfl, by decide, in_ctx 376 (by decide +kernel) rfl, by decide +kernel, by decide +kernel, fun _ => by decide +kernel⟩
theorem acX7_326 : Cond.methodLink RX7 326 arraycopyName ∈ lw_ctx := in_ctx 433 (by decide +kernel) rfl
theorem clL_27 : Cond.classLink RL 27 "PackLoansLaw$World" ∈ lw_ctx := in_ctx 446 (by decide +kernel) rfl
theorem ncL_27 : NC RL 27 16 [0, 0, 0, 1, 1, 1, 1, 2, 2, 2, 2, 2, 2, 2] := ⟨_, rfl, in_ctx 446 (by decide +kernel) rfl, in_ctx 447 (by decide +kernel) rfl, in_ctx 10 (by decide +kernel) rfl, rfl, (fun j => match j with | 0 => .int | 1 => .int | 2 => .int | 3 => .long | 4 => .long | 5 => .long | 6 => .long | 7 => (.object "java/util/ArrayList") | 8 => (.object "java/util/ArrayList") | 9 => (.object "java/util/ArrayList") | 10 => (.object "java/util/ArrayList") | 11 => (.object "java/util/ArrayList") | 12 => (.object "java/util/ArrayList") | _ => (.object "java/util/ArrayList")), fun j hj => by
  match j, hj with
  | 0, _ => exact ⟨by decide +kernel, rfl⟩
  | 1, _ => exact ⟨by decide +kernel, rfl⟩
  | 2, _ => exact ⟨by decide +kernel, rfl⟩
  | 3, _ => exact ⟨by decide +kernel, rfl⟩
  | 4, _ => exact ⟨by decide +kernel, rfl⟩
  | 5, _ => exact ⟨by decide +kernel, rfl⟩
  | 6, _ => exact ⟨by decide +kernel, rfl⟩
  | 7, _ => exact ⟨by decide +kernel, rfl⟩
  | 8, _ => exact ⟨by decide +kernel, rfl⟩
  | 9, _ => exact ⟨by decide +kernel, rfl⟩
  | 10, _ => exact ⟨by decide +kernel, rfl⟩
  | 11, _ => exact ⟨by decide +kernel, rfl⟩
  | 12, _ => exact ⟨by decide +kernel, rfl⟩
  | 13, _ => exact ⟨by decide +kernel, rfl⟩
  | z + 14, hj => exact absurd hj (by show ¬ z + 14 < 14; omega)⟩
theorem obX12_1 : Cond.methodLink RX12 1 Lib.objectInit ∈ lw_ctx := in_ctx 451 (by decide +kernel) rfl
theorem clX12_16 : Cond.classLink RX12 16 "java/util/ArrayList" ∈ lw_ctx := in_ctx 452 (by decide +kernel) rfl
theorem ncX12_16 : NC RX12 16 3 [0, 2, 0] := ⟨_, rfl, in_ctx 452 (by decide +kernel) rfl, in_ctx 453 (by decide +kernel) rfl, in_ctx 13 (by decide +kernel) rfl, rfl, (fun j => match j with | 0 => .int | 1 => (.array (.object "java/lang/Object")) | _ => .int), fun j hj => by
  match j, hj with
  | 0, _ => exact ⟨by decide +kernel, rfl⟩
  | 1, _ => exact ⟨by decide +kernel, rfl⟩
  | 2, _ => exact ⟨by decide +kernel, rfl⟩
  | z + 3, hj => exact absurd hj (by show ¬ z + 3 < 3; omega)⟩
theorem obJxa1e45_1 : Cond.methodLink RJxa1e45 1 Lib.objectInit ∈ lw_ctx := in_ctx 463 (by decide +kernel) rfl
theorem fsJx4a65c_39 : Cond.fieldLink RJx4a65c 39 "java/util/ArrayList" "DEFAULTCAPACITY_EMPTY_ELEMENTDATA" "[Ljava/lang/Object;" ∈ lw_ctx := in_ctx 464 (by decide +kernel) rfl
theorem fxJx4a65c_9 : FLw RJx4a65c 9 3 1 (.array (.object "java/lang/Object")) false := ⟨_, rfl, by decide, in_ctx 466 (by decide +kernel) rfl, by decide +kernel, by decide +kernel, fun h => nomatch h⟩
theorem fxJx35411_37 : FLw RJx35411 37 3 1 (.array (.object "java/lang/Object")) false := ⟨_, rfl, by decide, in_ctx 467 (by decide +kernel) rfl, by decide +kernel, by decide +kernel, fun h => nomatch h⟩
theorem fsJx35411_17 : Cond.fieldLink RJx35411 17 "java/util/ArrayList" "modCount" "I" ∈ lw_ctx := in_ctx 471 (by decide +kernel) rfl
theorem fsJx4a65c_63 : Cond.fieldLink RJx4a65c 63 "java/util/ArrayList" "modCount" "I" ∈ lw_ctx := in_ctx 473 (by decide +kernel) rfl
theorem fxX12_19 : FLw RX12 19 16 7 (.object "java/util/ArrayList") false := ⟨_, rfl, by decide, in_ctx 495 (by decide +kernel) rfl, by decide +kernel, by decide +kernel, fun h => nomatch h⟩
theorem fxL_56 : FLw RL 56 16 7 (.object "java/util/ArrayList") false := ⟨_, rfl, by decide, in_ctx 496 (by decide +kernel) rfl, by decide +kernel, by decide +kernel, fun h => nomatch h⟩
theorem fxX12_23 : FLw RX12 23 16 8 (.object "java/util/ArrayList") false := ⟨_, rfl, by decide, in_ctx 497 (by decide +kernel) rfl, by decide +kernel, by decide +kernel, fun h => nomatch h⟩
theorem fxL_118 : FLw RL 118 16 8 (.object "java/util/ArrayList") false := ⟨_, rfl, by decide, in_ctx 498 (by decide +kernel) rfl, by decide +kernel, by decide +kernel, fun h => nomatch h⟩
theorem fxX12_26 : FLw RX12 26 16 9 (.object "java/util/ArrayList") false := ⟨_, rfl, by decide, in_ctx 499 (by decide +kernel) rfl, by decide +kernel, by decide +kernel, fun h => nomatch h⟩
theorem fxL_124 : FLw RL 124 16 9 (.object "java/util/ArrayList") false := ⟨_, rfl, by decide, in_ctx 500 (by decide +kernel) rfl, by decide +kernel, by decide +kernel, fun h => nomatch h⟩
theorem fxX12_29 : FLw RX12 29 16 10 (.object "java/util/ArrayList") false := ⟨_, rfl, by decide, in_ctx 501 (by decide +kernel) rfl, by decide +kernel, by decide +kernel, fun h => nomatch h⟩
theorem fxL_81 : FLw RL 81 16 10 (.object "java/util/ArrayList") false := ⟨_, rfl, by decide, in_ctx 502 (by decide +kernel) rfl, by decide +kernel, by decide +kernel, fun h => nomatch h⟩
theorem fxX12_32 : FLw RX12 32 16 11 (.object "java/util/ArrayList") false := ⟨_, rfl, by decide, in_ctx 503 (by decide +kernel) rfl, by decide +kernel, by decide +kernel, fun h => nomatch h⟩
theorem fxL_100 : FLw RL 100 16 11 (.object "java/util/ArrayList") false := ⟨_, rfl, by decide, in_ctx 504 (by decide +kernel) rfl, by decide +kernel, by decide +kernel, fun h => nomatch h⟩
theorem fxX12_35 : FLw RX12 35 16 12 (.object "java/util/ArrayList") false := ⟨_, rfl, by decide, in_ctx 505 (by decide +kernel) rfl, by decide +kernel, by decide +kernel, fun h => nomatch h⟩
theorem fxL_139 : FLw RL 139 16 12 (.object "java/util/ArrayList") false := ⟨_, rfl, by decide, in_ctx 506 (by decide +kernel) rfl, by decide +kernel, by decide +kernel, fun h => nomatch h⟩
theorem fxX12_38 : FLw RX12 38 16 13 (.object "java/util/ArrayList") false := ⟨_, rfl, by decide, in_ctx 507 (by decide +kernel) rfl, by decide +kernel, by decide +kernel, fun h => nomatch h⟩
theorem fxL_159 : FLw RL 159 16 13 (.object "java/util/ArrayList") false := ⟨_, rfl, by decide, in_ctx 508 (by decide +kernel) rfl, by decide +kernel, by decide +kernel, fun h => nomatch h⟩
theorem fsJ0_38 : Cond.fieldLink RJ0 38 "java/lang/String" "COMPACT_STRINGS" "Z" ∈ lw_ctx := in_ctx 553 (by decide +kernel) rfl
theorem fsJ0_1053 : Cond.fieldLink RJ0 1053 "jdk/internal/util/Preconditions" "SIOOBE_FORMATTER" "Ljava/util/function/BiFunction;" ∈ lw_ctx := in_ctx 569 (by decide +kernel) rfl
theorem fsJ2_44 : Cond.fieldLink RJ2 44 "java/lang/StringUTF16" "$assertionsDisabled" "Z" ∈ lw_ctx := in_ctx 587 (by decide +kernel) rfl
theorem fsJ2_59 : Cond.fieldLink RJ2 59 "java/lang/StringUTF16" "HI_BYTE_SHIFT" "I" ∈ lw_ctx := in_ctx 589 (by decide +kernel) rfl
theorem fsJ2_63 : Cond.fieldLink RJ2 63 "java/lang/StringUTF16" "LO_BYTE_SHIFT" "I" ∈ lw_ctx := in_ctx 591 (by decide +kernel) rfl
theorem suJ4_29 : LSu RJ4 29 yJ5_append_cf1ce 1 := ⟨in_ctx 746 (by decide +kernel) rfl, in_ctx 1752 (by decide +kernel) rfl, in_ctx 747 (by decide +kernel) rfl, in_ctx 748 (by decide +kernel) rfl, in_ctx 24 (by decide +kernel) rfl, by decide +kernel, by decide +kernel⟩
theorem lpJ5_100 : LPv RJ5 "java/lang/StringBuilder" 100 yJ5_ensureCapacityInternal_d00df 1 := ⟨in_ctx 754 (by decide +kernel) rfl, in_ctx 756 (by decide +kernel) rfl, in_below 0 rfl, in_ctx 24 (by decide +kernel) rfl, by decide +kernel, by decide +kernel, by decide +kernel⟩
theorem lpJ5_104 : LPv RJ5 "java/lang/StringBuilder" 104 yJ5_newCapacity_0f7a4 1 := ⟨in_ctx 758 (by decide +kernel) rfl, in_ctx 760 (by decide +kernel) rfl, in_below 1 rfl, in_ctx 24 (by decide +kernel) rfl, by decide +kernel, by decide +kernel, by decide +kernel⟩
theorem cnJ7_310 : Cond.methodLink RJ7 310 ⟨"[B", "clone", "()Ljava/lang/Object;"⟩ ∈ lw_ctx ∧ Cond.sameMethod "[B" "java/lang/Object" "clone" "()Ljava/lang/Object;" ∈ lw_ctx ∧ Cond.selects "[B" ⟨"[B", "clone", "()Ljava/lang/Object;"⟩ ⟨"java/lang/Object", "clone", "()Ljava/lang/Object;"⟩ ∈ lw_ctx := ⟨in_ctx 776 (by decide +kernel) rfl, in_ctx 777 (by decide +kernel) rfl, in_ctx 780 (by decide +kernel) rfl⟩
theorem clJ7_311 : Cond.classLink RJ7 311 "[B" ∈ lw_ctx := in_ctx 782 (by decide +kernel) rfl
theorem acJ7_150 : Cond.methodLink RJ7 150 arraycopyName ∈ lw_ctx := in_ctx 784 (by decide +kernel) rfl
theorem luJ5_83 : LU RJ5 "java/lang/StringBuilder" 83 yJ5_isLatin1_aae02 yJ5_isLatin1_aae02 0 := ⟨in_ctx 785 (by decide +kernel) rfl, in_ctx 787 (by decide +kernel) rfl, in_ctx 786 (by decide +kernel) rfl, ⟨cJ5_isLatin1_aae02, 1, some .boolean, in_ctx 789 (by decide +kernel) rfl⟩, in_ctx 788 (by decide +kernel) rfl, in_ctx 786 (by decide +kernel) rfl, in_ctx 24 (by decide +kernel) rfl, by decide +kernel, by decide +kernel, by decide +kernel⟩
theorem fsJ5_18 : Cond.fieldLink RJ5 18 "java/lang/String" "COMPACT_STRINGS" "Z" ∈ lw_ctx := in_ctx 790 (by decide +kernel) rfl
theorem lpJ5_208 : LPv RJ5 "java/lang/StringBuilder" 208 yJ5_putStringAt_47b60 2 := ⟨in_ctx 807 (by decide +kernel) rfl, in_ctx 809 (by decide +kernel) rfl, in_below 2 rfl, in_ctx 24 (by decide +kernel) rfl, by decide +kernel, by decide +kernel, by decide +kernel⟩
theorem lpJ5_397 : LPv RJ5 "java/lang/StringBuilder" 397 yJ5_inflateIfNeededFor_a7421 1 := ⟨in_ctx 811 (by decide +kernel) rfl, in_ctx 813 (by decide +kernel) rfl, in_below 3 rfl, in_ctx 24 (by decide +kernel) rfl, by decide +kernel, by decide +kernel, by decide +kernel⟩
theorem acJ0_212 : Cond.methodLink RJ0 212 arraycopyName ∈ lw_ctx := in_ctx 846 (by decide +kernel) rfl
theorem suJ4_53 : LSu RJ4 53 yJ5_append_c97b9 1 := ⟨in_ctx 852 (by decide +kernel) rfl, in_ctx 1759 (by decide +kernel) rfl, in_ctx 747 (by decide +kernel) rfl, in_ctx 853 (by decide +kernel) rfl, in_ctx 24 (by decide +kernel) rfl, by decide +kernel, by decide +kernel⟩
theorem fsJ6_83 : Cond.fieldLink RJ6 83 "java/lang/Integer" "DigitOnes" "[B" ∈ lw_ctx := in_ctx 861 (by decide +kernel) rfl
theorem fsJ6_87 : Cond.fieldLink RJ6 87 "java/lang/Integer" "DigitTens" "[B" ∈ lw_ctx := in_ctx 863 (by decide +kernel) rfl
theorem fsJ2_403 : Cond.fieldLink RJ2 403 "java/lang/Integer" "DigitOnes" "[B" ∈ lw_ctx := in_ctx 871 (by decide +kernel) rfl
theorem fsJ2_407 : Cond.fieldLink RJ2 407 "java/lang/Integer" "DigitTens" "[B" ∈ lw_ctx := in_ctx 872 (by decide +kernel) rfl
theorem suJ4_50 : LSu RJ4 50 yJ5_append_3fe6f 1 := ⟨in_ctx 877 (by decide +kernel) rfl, in_ctx 1760 (by decide +kernel) rfl, in_ctx 747 (by decide +kernel) rfl, in_ctx 878 (by decide +kernel) rfl, in_ctx 24 (by decide +kernel) rfl, by decide +kernel, by decide +kernel⟩
theorem gcJ7_86 : Cond.methodLink RJ7 86 ⟨"java/lang/Object", "getClass", "()Ljava/lang/Class;"⟩ ∈ lw_ctx := in_ctx 906 (by decide +kernel) rfl
theorem clJ7_110 : Cond.classLink RJ7 110 "[Ljava/lang/Object;" ∈ lw_ctx := in_ctx 932 (by decide +kernel) rfl
theorem clJ7_2 : Cond.classLink RJ7 2 "java/lang/Object" ∈ lw_ctx := in_ctx 934 (by decide +kernel) rfl
theorem clJx4a65c_7 : Cond.classLink RJx4a65c 7 "java/lang/Object" ∈ lw_ctx := in_ctx 936 (by decide +kernel) rfl
theorem clL_76 : Cond.classLink RL 76 "PackLoansLaw$Pack" ∈ lw_ctx := in_ctx 947 (by decide +kernel) rfl
theorem ncL_76 : NC RL 76 15 [0, 0, 0, 0, 0, 0, 0] := ⟨_, rfl, in_ctx 947 (by decide +kernel) rfl, in_ctx 948 (by decide +kernel) rfl, in_ctx 32 (by decide +kernel) rfl, rfl, (fun j => match j with | 0 => .int | 1 => .int | 2 => .int | 3 => .int | 4 => .int | 5 => .int | _ => .int), fun j hj => by
  match j, hj with
  | 0, _ => exact ⟨by decide +kernel, rfl⟩
  | 1, _ => exact ⟨by decide +kernel, rfl⟩
  | 2, _ => exact ⟨by decide +kernel, rfl⟩
  | 3, _ => exact ⟨by decide +kernel, rfl⟩
  | 4, _ => exact ⟨by decide +kernel, rfl⟩
  | 5, _ => exact ⟨by decide +kernel, rfl⟩
  | 6, _ => exact ⟨by decide +kernel, rfl⟩
  | z + 7, hj => exact absurd hj (by show ¬ z + 7 < 7; omega)⟩
theorem obX11_1 : Cond.methodLink RX11 1 Lib.objectInit ∈ lw_ctx := in_ctx 952 (by decide +kernel) rfl
theorem fxX11_7 : FLw RX11 7 15 0 .int true := ⟨_, rfl, by decide, in_ctx 953 (by decide +kernel) rfl, by decide +kernel, by decide +kernel, fun _ => by decide +kernel⟩
theorem fxX12_106 : FLw RX12 106 15 0 .int true := ⟨_, rfl, by decide, in_ctx 954 (by decide +kernel) rfl, by decide +kernel, by decide +kernel, fun _ => by decide +kernel⟩
theorem fxL_191 : FLw RL 191 15 0 .int true := ⟨_, rfl, by decide, in_ctx 955 (by decide +kernel) rfl, by decide +kernel, by decide +kernel, fun _ => by decide +kernel⟩
theorem fxX11_16 : FLw RX11 16 15 1 .int true := ⟨_, rfl, by decide, in_ctx 956 (by decide +kernel) rfl, by decide +kernel, by decide +kernel, fun _ => by decide +kernel⟩
theorem fxX12_121 : FLw RX12 121 15 1 .int true := ⟨_, rfl, by decide, in_ctx 957 (by decide +kernel) rfl, by decide +kernel, by decide +kernel, fun _ => by decide +kernel⟩
theorem fxL_201 : FLw RL 201 15 1 .int true := ⟨_, rfl, by decide, in_ctx 958 (by decide +kernel) rfl, by decide +kernel, by decide +kernel, fun _ => by decide +kernel⟩
theorem clL_95 : Cond.classLink RL 95 "PackLoansLaw$Cable" ∈ lw_ctx := in_ctx 991 (by decide +kernel) rfl
theorem ncL_95 : NC RL 95 12 [0, 0, 0, 0, 0, 0] := ⟨_, rfl, in_ctx 991 (by decide +kernel) rfl, in_ctx 992 (by decide +kernel) rfl, in_ctx 33 (by decide +kernel) rfl, rfl, (fun j => match j with | 0 => .int | 1 => .int | 2 => .int | 3 => .int | 4 => .int | _ => .int), fun j hj => by
  match j, hj with
  | 0, _ => exact ⟨by decide +kernel, rfl⟩
  | 1, _ => exact ⟨by decide +kernel, rfl⟩
  | 2, _ => exact ⟨by decide +kernel, rfl⟩
  | 3, _ => exact ⟨by decide +kernel, rfl⟩
  | 4, _ => exact ⟨by decide +kernel, rfl⟩
  | 5, _ => exact ⟨by decide +kernel, rfl⟩
  | z + 6, hj => exact absurd hj (by show ¬ z + 6 < 6; omega)⟩
theorem obX8_1 : Cond.methodLink RX8 1 Lib.objectInit ∈ lw_ctx := in_ctx 996 (by decide +kernel) rfl
theorem fxX8_7 : FLw RX8 7 12 0 .int true := ⟨_, rfl, by decide, in_ctx 997 (by decide +kernel) rfl, by decide +kernel, by decide +kernel, fun _ => by decide +kernel⟩
theorem fxL_105 : FLw RL 105 12 0 .int true := ⟨_, rfl, by decide, in_ctx 998 (by decide +kernel) rfl, by decide +kernel, by decide +kernel, fun _ => by decide +kernel⟩
theorem fxX12_141 : FLw RX12 141 12 0 .int true := ⟨_, rfl, by decide, in_ctx 999 (by decide +kernel) rfl, by decide +kernel, by decide +kernel, fun _ => by decide +kernel⟩
theorem fxX8_13 : FLw RX8 13 12 1 .int true := ⟨_, rfl, by decide, in_ctx 1000 (by decide +kernel) rfl, by decide +kernel, by decide +kernel, fun _ => by decide +kernel⟩
theorem fxL_108 : FLw RL 108 12 1 .int true := ⟨_, rfl, by decide, in_ctx 1001 (by decide +kernel) rfl, by decide +kernel, by decide +kernel, fun _ => by decide +kernel⟩
theorem fxX12_144 : FLw RX12 144 12 1 .int true := ⟨_, rfl, by decide, in_ctx 1002 (by decide +kernel) rfl, by decide +kernel, by decide +kernel, fun _ => by decide +kernel⟩
theorem clL_134 : Cond.classLink RL 134 "PackLoansLaw$Contract" ∈ lw_ctx := in_ctx 1046 (by decide +kernel) rfl
theorem ncL_134 : NC RL 134 13 [0, 0, 0, 0, 0, 0] := ⟨_, rfl, in_ctx 1046 (by decide +kernel) rfl, in_ctx 1047 (by decide +kernel) rfl, in_ctx 34 (by decide +kernel) rfl, rfl, (fun j => match j with | 0 => .int | 1 => .int | 2 => .int | 3 => .int | 4 => .int | _ => .boolean), fun j hj => by
  match j, hj with
  | 0, _ => exact ⟨by decide +kernel, rfl⟩
  | 1, _ => exact ⟨by decide +kernel, rfl⟩
  | 2, _ => exact ⟨by decide +kernel, rfl⟩
  | 3, _ => exact ⟨by decide +kernel, rfl⟩
  | 4, _ => exact ⟨by decide +kernel, rfl⟩
  | 5, _ => exact ⟨by decide +kernel, rfl⟩
  | z + 6, hj => exact absurd hj (by show ¬ z + 6 < 6; omega)⟩
theorem obX9_1 : Cond.methodLink RX9 1 Lib.objectInit ∈ lw_ctx := in_ctx 1051 (by decide +kernel) rfl
theorem fxX9_7 : FLw RX9 7 13 0 .int true := ⟨_, rfl, by decide, in_ctx 1052 (by decide +kernel) rfl, by decide +kernel, by decide +kernel, fun _ => by decide +kernel⟩
theorem fxL_144 : FLw RL 144 13 0 .int true := ⟨_, rfl, by decide, in_ctx 1053 (by decide +kernel) rfl, by decide +kernel, by decide +kernel, fun _ => by decide +kernel⟩
theorem fxX12_187 : FLw RX12 187 13 0 .int true := ⟨_, rfl, by decide, in_ctx 1054 (by decide +kernel) rfl, by decide +kernel, by decide +kernel, fun _ => by decide +kernel⟩
theorem fxX9_13 : FLw RX9 13 13 1 .int true := ⟨_, rfl, by decide, in_ctx 1055 (by decide +kernel) rfl, by decide +kernel, by decide +kernel, fun _ => by decide +kernel⟩
theorem fxL_147 : FLw RL 147 13 1 .int true := ⟨_, rfl, by decide, in_ctx 1056 (by decide +kernel) rfl, by decide +kernel, by decide +kernel, fun _ => by decide +kernel⟩
theorem fxX12_228 : FLw RX12 228 13 1 .int true := ⟨_, rfl, by decide, in_ctx 1057 (by decide +kernel) rfl, by decide +kernel, by decide +kernel, fun _ => by decide +kernel⟩
theorem fxX9_16 : FLw RX9 16 13 2 .int true := ⟨_, rfl, by decide, in_ctx 1058 (by decide +kernel) rfl, by decide +kernel, by decide +kernel, fun _ => by decide +kernel⟩
theorem fxL_150 : FLw RL 150 13 2 .int true := ⟨_, rfl, by decide, in_ctx 1059 (by decide +kernel) rfl, by decide +kernel, by decide +kernel, fun _ => by decide +kernel⟩
theorem fxX12_184 : FLw RX12 184 13 2 .int true := ⟨_, rfl, by decide, in_ctx 1060 (by decide +kernel) rfl, by decide +kernel, by decide +kernel, fun _ => by decide +kernel⟩
theorem fxX9_19 : FLw RX9 19 13 3 .int true := ⟨_, rfl, by decide, in_ctx 1061 (by decide +kernel) rfl, by decide +kernel, by decide +kernel, fun _ => by decide +kernel⟩
theorem fxL_153 : FLw RL 153 13 3 .int true := ⟨_, rfl, by decide, in_ctx 1062 (by decide +kernel) rfl, by decide +kernel, by decide +kernel, fun _ => by decide +kernel⟩
theorem fxX9_22 : FLw RX9 22 13 4 .int true := ⟨_, rfl, by decide, in_ctx 1063 (by decide +kernel) rfl, by decide +kernel, by decide +kernel, fun _ => by decide +kernel⟩
theorem fxL_156 : FLw RL 156 13 4 .int true := ⟨_, rfl, by decide, in_ctx 1064 (by decide +kernel) rfl, by decide +kernel, by decide +kernel, fun _ => by decide +kernel⟩
theorem fxX12_247 : FLw RX12 247 13 4 .int true := ⟨_, rfl, by decide, in_ctx 1065 (by decide +kernel) rfl, by decide +kernel, by decide +kernel, fun _ => by decide +kernel⟩
theorem clJx4a65c_267 : Cond.classLink RJx4a65c 267 "java/util/ArrayList$Itr" ∈ lw_ctx := in_ctx 1093 (by decide +kernel) rfl
theorem ncJx4a65c_267 : NC RJx4a65c 267 2 [0, 0, 0, 2] := ⟨_, rfl, in_ctx 1093 (by decide +kernel) rfl, in_ctx 1094 (by decide +kernel) rfl, in_ctx 14 (by decide +kernel) rfl, rfl, (fun j => match j with | 0 => .int | 1 => .int | 2 => .int | _ => (.object "java/util/ArrayList")), fun j hj => by
  match j, hj with
  | 0, _ => exact ⟨by decide +kernel, rfl⟩
  | 1, _ => exact ⟨by decide +kernel, rfl⟩
  | 2, _ => exact ⟨by decide +kernel, rfl⟩
  | 3, _ => exact ⟨by decide +kernel, rfl⟩
  | z + 4, hj => exact absurd hj (by show ¬ z + 4 < 4; omega)⟩
theorem obJx35411_7 : Cond.methodLink RJx35411 7 Lib.objectInit ∈ lw_ctx := in_ctx 1098 (by decide +kernel) rfl
theorem fxJx35411_1 : FLw RJx35411 1 2 3 (.object "java/util/ArrayList") true := ⟨_, rfl, by decide, in_ctx 1102 (by decide +kernel) rfl, by decide +kernel, by decide +kernel, fun _ => by decide +kernel⟩
theorem lfL_166 : LFa RL 166 "java/util/ArrayList$Itr" ⟨"java/util/Iterator", "hasNext", "()Z"⟩ yJx35411_hasNext_aae02 0 := ⟨in_ctx 1113 (by decide +kernel) rfl, in_ctx 1117 (by decide +kernel) rfl, in_ctx 1119 (by decide +kernel) rfl, in_ctx 14 (by decide +kernel) rfl, by decide +kernel, by decide +kernel, by decide +kernel⟩
theorem lfL_171 : LFa RL 171 "java/util/ArrayList$Itr" ⟨"java/util/Iterator", "next", "()Ljava/lang/Object;"⟩ yJx35411_next_0502b 0 := ⟨in_ctx 1123 (by decide +kernel) rfl, in_ctx 1126 (by decide +kernel) rfl, in_ctx 1128 (by decide +kernel) rfl, in_ctx 14 (by decide +kernel) rfl, by decide +kernel, by decide +kernel, by decide +kernel⟩
theorem clL_175 : Cond.classLink RL 175 "PackLoansLaw$Loan" ∈ lw_ctx := in_ctx 1135 (by decide +kernel) rfl
theorem ncL_175 : NC RL 175 14 [0, 0, 0, 0, 0, 0, 0] := ⟨_, rfl, in_ctx 1135 (by decide +kernel) rfl, in_ctx 1368 (by decide +kernel) rfl, in_ctx 35 (by decide +kernel) rfl, rfl, (fun j => match j with | 0 => .int | 1 => .int | 2 => .int | 3 => .int | 4 => .int | 5 => .int | _ => .int), fun j hj => by
  match j, hj with
  | 0, _ => exact ⟨by decide +kernel, rfl⟩
  | 1, _ => exact ⟨by decide +kernel, rfl⟩
  | 2, _ => exact ⟨by decide +kernel, rfl⟩
  | 3, _ => exact ⟨by decide +kernel, rfl⟩
  | 4, _ => exact ⟨by decide +kernel, rfl⟩
  | 5, _ => exact ⟨by decide +kernel, rfl⟩
  | 6, _ => exact ⟨by decide +kernel, rfl⟩
  | z + 7, hj => exact absurd hj (by show ¬ z + 7 < 7; omega)⟩
theorem clX7_323 : Cond.classLink RX7 323 "java/lang/IllegalArgumentException" ∈ lw_ctx := in_ctx 1143 (by decide +kernel) rfl
theorem clX7_320 : Cond.classLink RX7 320 "java/lang/IndexOutOfBoundsException" ∈ lw_ctx := in_ctx 1231 (by decide +kernel) rfl
theorem clL_233 : Cond.classLink RL 233 "[I" ∈ lw_ctx := in_ctx 1268 (by decide +kernel) rfl
theorem acJx4a65c_112 : Cond.methodLink RJx4a65c 112 arraycopyName ∈ lw_ctx := in_ctx 1309 (by decide +kernel) rfl
theorem clX12_8 : Cond.classLink RX12 8 "PackLoansLaw$World" ∈ lw_ctx := in_ctx 1314 (by decide +kernel) rfl
theorem ncX12_8 : NC RX12 8 16 [0, 0, 0, 1, 1, 1, 1, 2, 2, 2, 2, 2, 2, 2] := ⟨_, rfl, in_ctx 1314 (by decide +kernel) rfl, in_ctx 447 (by decide +kernel) rfl, in_ctx 10 (by decide +kernel) rfl, rfl, (fun j => match j with | 0 => .int | 1 => .int | 2 => .int | 3 => .long | 4 => .long | 5 => .long | 6 => .long | 7 => (.object "java/util/ArrayList") | 8 => (.object "java/util/ArrayList") | 9 => (.object "java/util/ArrayList") | 10 => (.object "java/util/ArrayList") | 11 => (.object "java/util/ArrayList") | 12 => (.object "java/util/ArrayList") | _ => (.object "java/util/ArrayList")), fun j hj => by
  match j, hj with
  | 0, _ => exact ⟨by decide +kernel, rfl⟩
  | 1, _ => exact ⟨by decide +kernel, rfl⟩
  | 2, _ => exact ⟨by decide +kernel, rfl⟩
  | 3, _ => exact ⟨by decide +kernel, rfl⟩
  | 4, _ => exact ⟨by decide +kernel, rfl⟩
  | 5, _ => exact ⟨by decide +kernel, rfl⟩
  | 6, _ => exact ⟨by decide +kernel, rfl⟩
  | 7, _ => exact ⟨by decide +kernel, rfl⟩
  | 8, _ => exact ⟨by decide +kernel, rfl⟩
  | 9, _ => exact ⟨by decide +kernel, rfl⟩
  | 10, _ => exact ⟨by decide +kernel, rfl⟩
  | 11, _ => exact ⟨by decide +kernel, rfl⟩
  | 12, _ => exact ⟨by decide +kernel, rfl⟩
  | 13, _ => exact ⟨by decide +kernel, rfl⟩
  | z + 14, hj => exact absurd hj (by show ¬ z + 14 < 14; omega)⟩
theorem lfJx4a65c_42 : LFa RJx4a65c 42 "java/util/ArrayList" ⟨"java/util/Collection", "toArray", "()[Ljava/lang/Object;"⟩ yJx4a65c_toArray_d5877 0 := ⟨in_ctx 1321 (by decide +kernel) rfl, in_ctx 1325 (by decide +kernel) rfl, in_ctx 1327 (by decide +kernel) rfl, in_ctx 13 (by decide +kernel) rfl, by decide +kernel, by decide +kernel, by decide +kernel⟩
theorem lfX12_66 : LFa RX12 66 "java/util/ArrayList$Itr" ⟨"java/util/Iterator", "hasNext", "()Z"⟩ yJx35411_hasNext_aae02 0 := ⟨in_ctx 1332 (by decide +kernel) rfl, in_ctx 1117 (by decide +kernel) rfl, in_ctx 1119 (by decide +kernel) rfl, in_ctx 14 (by decide +kernel) rfl, by decide +kernel, by decide +kernel, by decide +kernel⟩
theorem lfX12_72 : LFa RX12 72 "java/util/ArrayList$Itr" ⟨"java/util/Iterator", "next", "()Ljava/lang/Object;"⟩ yJx35411_next_0502b 0 := ⟨in_ctx 1334 (by decide +kernel) rfl, in_ctx 1126 (by decide +kernel) rfl, in_ctx 1128 (by decide +kernel) rfl, in_ctx 14 (by decide +kernel) rfl, by decide +kernel, by decide +kernel, by decide +kernel⟩
theorem clX12_76 : Cond.classLink RX12 76 "[I" ∈ lw_ctx := in_ctx 1335 (by decide +kernel) rfl
theorem cnX12_78 : Cond.methodLink RX12 78 ⟨"[I", "clone", "()Ljava/lang/Object;"⟩ ∈ lw_ctx ∧ Cond.sameMethod "[I" "java/lang/Object" "clone" "()Ljava/lang/Object;" ∈ lw_ctx ∧ Cond.selects "[I" ⟨"[I", "clone", "()Ljava/lang/Object;"⟩ ⟨"java/lang/Object", "clone", "()Ljava/lang/Object;"⟩ ∈ lw_ctx := ⟨in_ctx 1336 (by decide +kernel) rfl, in_ctx 1337 (by decide +kernel) rfl, in_ctx 1338 (by decide +kernel) rfl⟩
theorem clX12_85 : Cond.classLink RX12 85 "PackLoansLaw$Pack" ∈ lw_ctx := in_ctx 1341 (by decide +kernel) rfl
theorem ncX12_85 : NC RX12 85 15 [0, 0, 0, 0, 0, 0, 0] := ⟨_, rfl, in_ctx 1341 (by decide +kernel) rfl, in_ctx 948 (by decide +kernel) rfl, in_ctx 32 (by decide +kernel) rfl, rfl, (fun j => match j with | 0 => .int | 1 => .int | 2 => .int | 3 => .int | 4 => .int | 5 => .int | _ => .int), fun j hj => by
  match j, hj with
  | 0, _ => exact ⟨by decide +kernel, rfl⟩
  | 1, _ => exact ⟨by decide +kernel, rfl⟩
  | 2, _ => exact ⟨by decide +kernel, rfl⟩
  | 3, _ => exact ⟨by decide +kernel, rfl⟩
  | 4, _ => exact ⟨by decide +kernel, rfl⟩
  | 5, _ => exact ⟨by decide +kernel, rfl⟩
  | 6, _ => exact ⟨by decide +kernel, rfl⟩
  | z + 7, hj => exact absurd hj (by show ¬ z + 7 < 7; omega)⟩
theorem clX11_8 : Cond.classLink RX11 8 "PackLoansLaw$Pack" ∈ lw_ctx := in_ctx 1346 (by decide +kernel) rfl
theorem ncX11_8 : NC RX11 8 15 [0, 0, 0, 0, 0, 0, 0] := ⟨_, rfl, in_ctx 1346 (by decide +kernel) rfl, in_ctx 948 (by decide +kernel) rfl, in_ctx 32 (by decide +kernel) rfl, rfl, (fun j => match j with | 0 => .int | 1 => .int | 2 => .int | 3 => .int | 4 => .int | 5 => .int | _ => .int), fun j hj => by
  match j, hj with
  | 0, _ => exact ⟨by decide +kernel, rfl⟩
  | 1, _ => exact ⟨by decide +kernel, rfl⟩
  | 2, _ => exact ⟨by decide +kernel, rfl⟩
  | 3, _ => exact ⟨by decide +kernel, rfl⟩
  | 4, _ => exact ⟨by decide +kernel, rfl⟩
  | 5, _ => exact ⟨by decide +kernel, rfl⟩
  | 6, _ => exact ⟨by decide +kernel, rfl⟩
  | z + 7, hj => exact absurd hj (by show ¬ z + 7 < 7; omega)⟩
theorem clX12_91 : Cond.classLink RX12 91 "PackLoansLaw$Cable" ∈ lw_ctx := in_ctx 1348 (by decide +kernel) rfl
theorem ncX12_91 : NC RX12 91 12 [0, 0, 0, 0, 0, 0] := ⟨_, rfl, in_ctx 1348 (by decide +kernel) rfl, in_ctx 992 (by decide +kernel) rfl, in_ctx 33 (by decide +kernel) rfl, rfl, (fun j => match j with | 0 => .int | 1 => .int | 2 => .int | 3 => .int | 4 => .int | _ => .int), fun j hj => by
  match j, hj with
  | 0, _ => exact ⟨by decide +kernel, rfl⟩
  | 1, _ => exact ⟨by decide +kernel, rfl⟩
  | 2, _ => exact ⟨by decide +kernel, rfl⟩
  | 3, _ => exact ⟨by decide +kernel, rfl⟩
  | 4, _ => exact ⟨by decide +kernel, rfl⟩
  | 5, _ => exact ⟨by decide +kernel, rfl⟩
  | z + 6, hj => exact absurd hj (by show ¬ z + 6 < 6; omega)⟩
theorem clX8_8 : Cond.classLink RX8 8 "PackLoansLaw$Cable" ∈ lw_ctx := in_ctx 1353 (by decide +kernel) rfl
theorem ncX8_8 : NC RX8 8 12 [0, 0, 0, 0, 0, 0] := ⟨_, rfl, in_ctx 1353 (by decide +kernel) rfl, in_ctx 992 (by decide +kernel) rfl, in_ctx 33 (by decide +kernel) rfl, rfl, (fun j => match j with | 0 => .int | 1 => .int | 2 => .int | 3 => .int | 4 => .int | _ => .int), fun j hj => by
  match j, hj with
  | 0, _ => exact ⟨by decide +kernel, rfl⟩
  | 1, _ => exact ⟨by decide +kernel, rfl⟩
  | 2, _ => exact ⟨by decide +kernel, rfl⟩
  | 3, _ => exact ⟨by decide +kernel, rfl⟩
  | 4, _ => exact ⟨by decide +kernel, rfl⟩
  | 5, _ => exact ⟨by decide +kernel, rfl⟩
  | z + 6, hj => exact absurd hj (by show ¬ z + 6 < 6; omega)⟩
theorem clX12_96 : Cond.classLink RX12 96 "PackLoansLaw$Contract" ∈ lw_ctx := in_ctx 1355 (by decide +kernel) rfl
theorem ncX12_96 : NC RX12 96 13 [0, 0, 0, 0, 0, 0] := ⟨_, rfl, in_ctx 1355 (by decide +kernel) rfl, in_ctx 1047 (by decide +kernel) rfl, in_ctx 34 (by decide +kernel) rfl, rfl, (fun j => match j with | 0 => .int | 1 => .int | 2 => .int | 3 => .int | 4 => .int | _ => .boolean), fun j hj => by
  match j, hj with
  | 0, _ => exact ⟨by decide +kernel, rfl⟩
  | 1, _ => exact ⟨by decide +kernel, rfl⟩
  | 2, _ => exact ⟨by decide +kernel, rfl⟩
  | 3, _ => exact ⟨by decide +kernel, rfl⟩
  | 4, _ => exact ⟨by decide +kernel, rfl⟩
  | 5, _ => exact ⟨by decide +kernel, rfl⟩
  | z + 6, hj => exact absurd hj (by show ¬ z + 6 < 6; omega)⟩
theorem clX9_8 : Cond.classLink RX9 8 "PackLoansLaw$Contract" ∈ lw_ctx := in_ctx 1360 (by decide +kernel) rfl
theorem ncX9_8 : NC RX9 8 13 [0, 0, 0, 0, 0, 0] := ⟨_, rfl, in_ctx 1360 (by decide +kernel) rfl, in_ctx 1047 (by decide +kernel) rfl, in_ctx 34 (by decide +kernel) rfl, rfl, (fun j => match j with | 0 => .int | 1 => .int | 2 => .int | 3 => .int | 4 => .int | _ => .boolean), fun j hj => by
  match j, hj with
  | 0, _ => exact ⟨by decide +kernel, rfl⟩
  | 1, _ => exact ⟨by decide +kernel, rfl⟩
  | 2, _ => exact ⟨by decide +kernel, rfl⟩
  | 3, _ => exact ⟨by decide +kernel, rfl⟩
  | 4, _ => exact ⟨by decide +kernel, rfl⟩
  | 5, _ => exact ⟨by decide +kernel, rfl⟩
  | z + 6, hj => exact absurd hj (by show ¬ z + 6 < 6; omega)⟩
theorem clX12_101 : Cond.classLink RX12 101 "PackLoansLaw$Loan" ∈ lw_ctx := in_ctx 1362 (by decide +kernel) rfl
theorem ncX12_101 : NC RX12 101 14 [0, 0, 0, 0, 0, 0, 0] := ⟨_, rfl, in_ctx 1362 (by decide +kernel) rfl, in_ctx 1368 (by decide +kernel) rfl, in_ctx 35 (by decide +kernel) rfl, rfl, (fun j => match j with | 0 => .int | 1 => .int | 2 => .int | 3 => .int | 4 => .int | 5 => .int | _ => .int), fun j hj => by
  match j, hj with
  | 0, _ => exact ⟨by decide +kernel, rfl⟩
  | 1, _ => exact ⟨by decide +kernel, rfl⟩
  | 2, _ => exact ⟨by decide +kernel, rfl⟩
  | 3, _ => exact ⟨by decide +kernel, rfl⟩
  | 4, _ => exact ⟨by decide +kernel, rfl⟩
  | 5, _ => exact ⟨by decide +kernel, rfl⟩
  | 6, _ => exact ⟨by decide +kernel, rfl⟩
  | z + 7, hj => exact absurd hj (by show ¬ z + 7 < 7; omega)⟩
theorem clX10_8 : Cond.classLink RX10 8 "PackLoansLaw$Loan" ∈ lw_ctx := in_ctx 1367 (by decide +kernel) rfl
theorem ncX10_8 : NC RX10 8 14 [0, 0, 0, 0, 0, 0, 0] := ⟨_, rfl, in_ctx 1367 (by decide +kernel) rfl, in_ctx 1368 (by decide +kernel) rfl, in_ctx 35 (by decide +kernel) rfl, rfl, (fun j => match j with | 0 => .int | 1 => .int | 2 => .int | 3 => .int | 4 => .int | 5 => .int | _ => .int), fun j hj => by
  match j, hj with
  | 0, _ => exact ⟨by decide +kernel, rfl⟩
  | 1, _ => exact ⟨by decide +kernel, rfl⟩
  | 2, _ => exact ⟨by decide +kernel, rfl⟩
  | 3, _ => exact ⟨by decide +kernel, rfl⟩
  | 4, _ => exact ⟨by decide +kernel, rfl⟩
  | 5, _ => exact ⟨by decide +kernel, rfl⟩
  | 6, _ => exact ⟨by decide +kernel, rfl⟩
  | z + 7, hj => exact absurd hj (by show ¬ z + 7 < 7; omega)⟩
theorem obX10_1 : Cond.methodLink RX10 1 Lib.objectInit ∈ lw_ctx := in_ctx 1372 (by decide +kernel) rfl
theorem fxX10_7 : FLw RX10 7 14 0 .int true := ⟨_, rfl, by decide, in_ctx 1373 (by decide +kernel) rfl, by decide +kernel, by decide +kernel, fun _ => by decide +kernel⟩
theorem fxL_180 : FLw RL 180 14 0 .int true := ⟨_, rfl, by decide, in_ctx 1374 (by decide +kernel) rfl, by decide +kernel, by decide +kernel, fun _ => by decide +kernel⟩
theorem fxX12_163 : FLw RX12 163 14 0 .int true := ⟨_, rfl, by decide, in_ctx 1375 (by decide +kernel) rfl, by decide +kernel, by decide +kernel, fun _ => by decide +kernel⟩
theorem fxX10_13 : FLw RX10 13 14 1 .int true := ⟨_, rfl, by decide, in_ctx 1376 (by decide +kernel) rfl, by decide +kernel, by decide +kernel, fun _ => by decide +kernel⟩
theorem fxL_235 : FLw RL 235 14 1 .int true := ⟨_, rfl, by decide, in_ctx 1377 (by decide +kernel) rfl, by decide +kernel, by decide +kernel, fun _ => by decide +kernel⟩
theorem fxX12_170 : FLw RX12 170 14 1 .int true := ⟨_, rfl, by decide, in_ctx 1378 (by decide +kernel) rfl, by decide +kernel, by decide +kernel, fun _ => by decide +kernel⟩
theorem clL_351 : Cond.classLink RL 351 "java/lang/IndexOutOfBoundsException" ∈ lw_ctx := in_ctx 1643 (by decide +kernel) rfl
theorem clL_353 : Cond.classLink RL 353 "java/lang/IllegalArgumentException" ∈ lw_ctx := in_ctx 1644 (by decide +kernel) rfl
theorem clL_46 : Cond.classLink RL 46 "java/lang/StringBuilder" ∈ lw_ctx := in_ctx 1651 (by decide +kernel) rfl
theorem ncL_46 : NC RL 46 1 [2, 0, 0, 0] := ⟨_, rfl, in_ctx 1651 (by decide +kernel) rfl, in_ctx 1652 (by decide +kernel) rfl, in_ctx 25 (by decide +kernel) rfl, rfl, (fun j => match j with | 0 => (.array .byte) | 1 => .byte | 2 => .boolean | _ => .int), fun j hj => by
  match j, hj with
  | 0, _ => exact ⟨by decide +kernel, rfl⟩
  | 1, _ => exact ⟨by decide +kernel, rfl⟩
  | 2, _ => exact ⟨by decide +kernel, rfl⟩
  | 3, _ => exact ⟨by decide +kernel, rfl⟩
  | z + 4, hj => exact absurd hj (by show ¬ z + 4 < 4; omega)⟩
theorem obJ5_3 : Cond.methodLink RJ5 3 Lib.objectInit ∈ lw_ctx := in_ctx 1659 (by decide +kernel) rfl
theorem fxJ5_15 : FLw RJ5 15 1 0 (.array .byte) false := ⟨_, rfl, by decide, in_ctx 1660 (by decide +kernel) rfl, by decide +kernel, by decide +kernel, fun h => nomatch h⟩
theorem fxJ5_22 : FLw RJ5 22 1 1 .byte false := ⟨_, rfl, by decide, in_ctx 1661 (by decide +kernel) rfl, by decide +kernel, by decide +kernel, fun h => nomatch h⟩
theorem clJ4_18 : Cond.classLink RJ4 18 "java/lang/String" ∈ lw_ctx := in_ctx 1676 (by decide +kernel) rfl
theorem ncJ4_18 : NC RJ4 18 0 [2, 0, 0, 0] := ⟨_, rfl, in_ctx 1676 (by decide +kernel) rfl, in_ctx 1677 (by decide +kernel) rfl, in_ctx 26 (by decide +kernel) rfl, rfl, (fun j => match j with | 0 => (.array .byte) | 1 => .byte | 2 => .int | _ => .boolean), fun j hj => by
  match j, hj with
  | 0, _ => exact ⟨by decide +kernel, rfl⟩
  | 1, _ => exact ⟨by decide +kernel, rfl⟩
  | 2, _ => exact ⟨by decide +kernel, rfl⟩
  | 3, _ => exact ⟨by decide +kernel, rfl⟩
  | z + 4, hj => exact absurd hj (by show ¬ z + 4 < 4; omega)⟩
theorem obJ0_1 : Cond.methodLink RJ0 1 Lib.objectInit ∈ lw_ctx := in_ctx 1684 (by decide +kernel) rfl
theorem luJ0_552 : LU RJ0 "java/lang/StringBuilder" 552 yJ5_getValue_6d5f1 yJ5_getValue_6d5f1 0 := ⟨in_ctx 1685 (by decide +kernel) rfl, in_ctx 1687 (by decide +kernel) rfl, in_ctx 1686 (by decide +kernel) rfl, ⟨cJ5_getValue_6d5f1, 1, some (.array .byte), in_ctx 1689 (by decide +kernel) rfl⟩, in_ctx 1688 (by decide +kernel) rfl, in_ctx 1686 (by decide +kernel) rfl, in_ctx 24 (by decide +kernel) rfl, by decide +kernel, by decide +kernel, by decide +kernel⟩
theorem luJ0_549 : LU RJ0 "java/lang/StringBuilder" 549 yJ5_length_8abf5 yJ4_length_8abf5 0 := ⟨in_ctx 1690 (by decide +kernel) rfl, in_ctx 1692 (by decide +kernel) rfl, in_ctx 1691 (by decide +kernel) rfl, ⟨cJ5_length_8abf5, 1, some .int, in_ctx 1697 (by decide +kernel) rfl⟩, in_ctx 1693 (by decide +kernel) rfl, in_ctx 1694 (by decide +kernel) rfl, in_ctx 25 (by decide +kernel) rfl, by decide +kernel, by decide +kernel, by decide +kernel⟩
theorem suJ4_343 : LSu RJ4 343 yJ5_length_8abf5 0 := ⟨in_ctx 1696 (by decide +kernel) rfl, in_ctx 1692 (by decide +kernel) rfl, in_ctx 747 (by decide +kernel) rfl, in_ctx 1691 (by decide +kernel) rfl, in_ctx 24 (by decide +kernel) rfl, by decide +kernel, by decide +kernel⟩
theorem luJ0_1047 : LU RJ0 "java/lang/StringBuilder" 1047 yJ5_isLatin1_aae02 yJ5_isLatin1_aae02 0 := ⟨in_ctx 1698 (by decide +kernel) rfl, in_ctx 787 (by decide +kernel) rfl, in_ctx 786 (by decide +kernel) rfl, ⟨cJ5_isLatin1_aae02, 1, some .boolean, in_ctx 789 (by decide +kernel) rfl⟩, in_ctx 788 (by decide +kernel) rfl, in_ctx 786 (by decide +kernel) rfl, in_ctx 24 (by decide +kernel) rfl, by decide +kernel, by decide +kernel, by decide +kernel⟩
theorem clJ7_43 : Cond.classLink RJ7 43 "java/lang/IllegalArgumentException" ∈ lw_ctx := in_ctx 1708 (by decide +kernel) rfl
theorem clJ7_45 : Cond.classLink RJ7 45 "java/lang/StringBuilder" ∈ lw_ctx := in_ctx 1709 (by decide +kernel) rfl
theorem ncJ7_45 : NC RJ7 45 1 [2, 0, 0, 0] := ⟨_, rfl, in_ctx 1709 (by decide +kernel) rfl, in_ctx 1652 (by decide +kernel) rfl, in_ctx 25 (by decide +kernel) rfl, rfl, (fun j => match j with | 0 => (.array .byte) | 1 => .byte | 2 => .boolean | _ => .int), fun j hj => by
  match j, hj with
  | 0, _ => exact ⟨by decide +kernel, rfl⟩
  | 1, _ => exact ⟨by decide +kernel, rfl⟩
  | 2, _ => exact ⟨by decide +kernel, rfl⟩
  | 3, _ => exact ⟨by decide +kernel, rfl⟩
  | z + 4, hj => exact absurd hj (by show ¬ z + 4 < 4; omega)⟩
theorem fxJ0_9 : FLw RJ0 9 0 0 (.array .byte) true := ⟨_, rfl, by decide, in_ctx 1737 (by decide +kernel) rfl, by decide +kernel, by decide +kernel, fun _ => by decide +kernel⟩
theorem fxJ0_15 : FLw RJ0 15 0 1 .byte true := ⟨_, rfl, by decide, in_ctx 1738 (by decide +kernel) rfl, by decide +kernel, by decide +kernel, fun _ => by decide +kernel⟩
theorem clL_61 : Cond.classLink RL 61 "java/util/ArrayList" ∈ lw_ctx := in_ctx 1748 (by decide +kernel) rfl
theorem ncL_61 : NC RL 61 3 [0, 2, 0] := ⟨_, rfl, in_ctx 1748 (by decide +kernel) rfl, in_ctx 453 (by decide +kernel) rfl, in_ctx 13 (by decide +kernel) rfl, rfl, (fun j => match j with | 0 => .int | 1 => (.array (.object "java/lang/Object")) | _ => .int), fun j hj => by
  match j, hj with
  | 0, _ => exact ⟨by decide +kernel, rfl⟩
  | 1, _ => exact ⟨by decide +kernel, rfl⟩
  | 2, _ => exact ⟨by decide +kernel, rfl⟩
  | z + 3, hj => exact absurd hj (by show ¬ z + 3 < 3; omega)⟩
theorem ob_i : Cond.instanceMethod Lib.objectInit ∈ lw_ctx := in_ctx 42 (by decide +kernel) rfl
theorem ob_c : Cond.code Lib.objectInit ⟨#[0xb1]⟩ 1 none ∈ lw_ctx := in_ctx 43 (by decide +kernel) rfl
