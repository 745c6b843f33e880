theorem uw_0 : ∀ k, k < 4 → u_lay RJ4 TJ4 k ∈ TT := fun k hk => match k, hk with
  | 0, _ => TT_t (i := 333) (by decide +kernel) (by decide +kernel)
  | 1, _ => TT_t (i := 335) (by decide +kernel) (by decide +kernel)
  | 2, _ => TT_t (i := 337) (by decide +kernel) (by decide +kernel)
  | 3, _ => TT_t (i := 339) (by decide +kernel) (by decide +kernel)
  | k + 4, h => absurd h (by omega)
theorem cf_0 : mzC 0 RJ4 TJ4 4 tyJ4 := ⟨by decide, rfl, mzC_ws uw_0, tyJ4_ok, nmJ4⟩
theorem nv_0 : ∀ k, k < 4 → defaultValue (tyJ4 k) = if mmRf 0 k = true then .null else .int 0 := fun k hk => match k, hk with
  | 0, _ => rfl
  | 1, _ => rfl
  | 2, _ => rfl
  | 3, _ => rfl
  | k + 4, h => absurd h (by omega)
theorem uw_1 : ∀ k, k < 3 → u_lay RX1 TX1 k ∈ TT := fun k hk => match k, hk with
  | 0, _ => TT_t (i := 271) (by decide +kernel) (by decide +kernel)
  | 1, _ => TT_t (i := 273) (by decide +kernel) (by decide +kernel)
  | 2, _ => TT_t (i := 275) (by decide +kernel) (by decide +kernel)
  | k + 3, h => absurd h (by omega)
theorem cf_1 : mzC 1 RX1 TX1 3 tyX1 := ⟨by decide, rfl, mzC_ws uw_1, tyX1_ok, nmX1⟩
theorem nv_1 : ∀ k, k < 3 → defaultValue (tyX1 k) = if mmRf 1 k = true then .null else .int 0 := fun k hk => match k, hk with
  | 0, _ => rfl
  | 1, _ => rfl
  | 2, _ => rfl
  | k + 3, h => absurd h (by omega)
theorem uw_2 : ∀ k, k < 3 → u_lay RX2 TX2 k ∈ TT := fun k hk => match k, hk with
  | 0, _ => TT_t (i := 149) (by decide +kernel) (by decide +kernel)
  | 1, _ => TT_t (i := 151) (by decide +kernel) (by decide +kernel)
  | 2, _ => TT_t (i := 153) (by decide +kernel) (by decide +kernel)
  | k + 3, h => absurd h (by omega)
theorem cf_2 : mzC 2 RX2 TX2 3 tyX2 := ⟨by decide, rfl, mzC_ws uw_2, tyX2_ok, nmX2⟩
theorem nv_2 : ∀ k, k < 3 → defaultValue (tyX2 k) = if mmRf 2 k = true then .null else .int 0 := fun k hk => match k, hk with
  | 0, _ => rfl
  | 1, _ => rfl
  | 2, _ => rfl
  | k + 3, h => absurd h (by omega)
theorem uw_3 : ∀ k, k < 3 → u_lay RX4 TX4 k ∈ TT := fun k hk => match k, hk with
  | 0, _ => TT_t (i := 240) (by decide +kernel) (by decide +kernel)
  | 1, _ => TT_t (i := 242) (by decide +kernel) (by decide +kernel)
  | 2, _ => TT_t (i := 244) (by decide +kernel) (by decide +kernel)
  | k + 3, h => absurd h (by omega)
theorem cf_3 : mzC 3 RX4 TX4 3 tyX4 := ⟨by decide, rfl, mzC_ws uw_3, tyX4_ok, nmX4⟩
theorem nv_3 : ∀ k, k < 3 → defaultValue (tyX4 k) = if mmRf 3 k = true then .null else .int 0 := fun k hk => match k, hk with
  | 0, _ => rfl
  | 1, _ => rfl
  | 2, _ => rfl
  | k + 3, h => absurd h (by omega)
theorem uw_4 : ∀ k, k < 6 → u_lay RX5 TX5 k ∈ TT := fun k hk => match k, hk with
  | 0, _ => TT_t (i := 179) (by decide +kernel) (by decide +kernel)
  | 1, _ => TT_t (i := 181) (by decide +kernel) (by decide +kernel)
  | 2, _ => TT_t (i := 183) (by decide +kernel) (by decide +kernel)
  | 3, _ => TT_t (i := 185) (by decide +kernel) (by decide +kernel)
  | 4, _ => TT_t (i := 187) (by decide +kernel) (by decide +kernel)
  | 5, _ => TT_t (i := 189) (by decide +kernel) (by decide +kernel)
  | k + 6, h => absurd h (by omega)
theorem cf_4 : mzC 4 RX5 TX5 6 tyX5 := ⟨by decide, rfl, mzC_ws uw_4, tyX5_ok, nmX5⟩
theorem nv_4 : ∀ k, k < 6 → defaultValue (tyX5 k) = if mmRf 4 k = true then .null else .int 0 := fun k hk => match k, hk with
  | 0, _ => rfl
  | 1, _ => rfl
  | 2, _ => rfl
  | 3, _ => rfl
  | 4, _ => rfl
  | 5, _ => rfl
  | k + 6, h => absurd h (by omega)
theorem uw_5 : ∀ k, k < 7 → u_lay RX6 TX6 k ∈ TT := fun k hk => match k, hk with
  | 0, _ => TT_t (i := 119) (by decide +kernel) (by decide +kernel)
  | 1, _ => TT_t (i := 121) (by decide +kernel) (by decide +kernel)
  | 2, _ => TT_t (i := 123) (by decide +kernel) (by decide +kernel)
  | 3, _ => TT_t (i := 125) (by decide +kernel) (by decide +kernel)
  | 4, _ => TT_t (i := 127) (by decide +kernel) (by decide +kernel)
  | 5, _ => TT_t (i := 129) (by decide +kernel) (by decide +kernel)
  | 6, _ => TT_t (i := 131) (by decide +kernel) (by decide +kernel)
  | k + 7, h => absurd h (by omega)
theorem cf_5 : mzC 5 RX6 TX6 7 tyX6 := ⟨by decide, rfl, mzC_ws uw_5, tyX6_ok, nmX6⟩
theorem nv_5 : ∀ k, k < 7 → defaultValue (tyX6 k) = if mmRf 5 k = true then .null else .int 0 := fun k hk => match k, hk with
  | 0, _ => rfl
  | 1, _ => rfl
  | 2, _ => rfl
  | 3, _ => rfl
  | 4, _ => rfl
  | 5, _ => rfl
  | 6, _ => rfl
  | k + 7, h => absurd h (by omega)
theorem uw_6 : ∀ k, k < 9 → u_lay RX7 TX7 k ∈ TT := fun k hk => match k, hk with
  | 0, _ => TT_t (i := 292) (by decide +kernel) (by decide +kernel)
  | 1, _ => TT_t (i := 294) (by decide +kernel) (by decide +kernel)
  | 2, _ => TT_t (i := 296) (by decide +kernel) (by decide +kernel)
  | 3, _ => TT_t (i := 298) (by decide +kernel) (by decide +kernel)
  | 4, _ => TT_t (i := 300) (by decide +kernel) (by decide +kernel)
  | 5, _ => TT_t (i := 302) (by decide +kernel) (by decide +kernel)
  | 6, _ => TT_t (i := 304) (by decide +kernel) (by decide +kernel)
  | 7, _ => TT_t (i := 306) (by decide +kernel) (by decide +kernel)
  | 8, _ => TT_t (i := 308) (by decide +kernel) (by decide +kernel)
  | k + 9, h => absurd h (by omega)
theorem cf_6 : mzC 6 RX7 TX7 9 tyX7 := ⟨by decide, rfl, mzC_ws uw_6, tyX7_ok, nmX7⟩
theorem nv_6 : ∀ k, k < 9 → defaultValue (tyX7 k) = if mmRf 6 k = true then .null else .int 0 := fun k hk => match k, hk with
  | 0, _ => rfl
  | 1, _ => rfl
  | 2, _ => rfl
  | 3, _ => rfl
  | 4, _ => rfl
  | 5, _ => rfl
  | 6, _ => rfl
  | 7, _ => rfl
  | 8, _ => rfl
  | k + 9, h => absurd h (by omega)
theorem uw_7 : ∀ k, k < 9 → u_lay RX8 TX8 k ∈ TT := fun k hk => match k, hk with
  | 0, _ => TT_t (i := 208) (by decide +kernel) (by decide +kernel)
  | 1, _ => TT_t (i := 210) (by decide +kernel) (by decide +kernel)
  | 2, _ => TT_t (i := 212) (by decide +kernel) (by decide +kernel)
  | 3, _ => TT_t (i := 214) (by decide +kernel) (by decide +kernel)
  | 4, _ => TT_t (i := 216) (by decide +kernel) (by decide +kernel)
  | 5, _ => TT_t (i := 218) (by decide +kernel) (by decide +kernel)
  | 6, _ => TT_t (i := 220) (by decide +kernel) (by decide +kernel)
  | 7, _ => TT_t (i := 222) (by decide +kernel) (by decide +kernel)
  | 8, _ => TT_t (i := 224) (by decide +kernel) (by decide +kernel)
  | k + 9, h => absurd h (by omega)
theorem cf_7 : mzC 7 RX8 TX8 9 tyX8 := ⟨by decide, rfl, mzC_ws uw_7, tyX8_ok, nmX8⟩
theorem nv_7 : ∀ k, k < 9 → defaultValue (tyX8 k) = if mmRf 7 k = true then .null else .int 0 := fun k hk => match k, hk with
  | 0, _ => rfl
  | 1, _ => rfl
  | 2, _ => rfl
  | 3, _ => rfl
  | 4, _ => rfl
  | 5, _ => rfl
  | 6, _ => rfl
  | 7, _ => rfl
  | 8, _ => rfl
  | k + 9, h => absurd h (by omega)
theorem uw_8 : ∀ k, k < 7 → u_lay RX9 TX9 k ∈ TT := fun k hk => match k, hk with
  | 0, _ => TT_t (i := 82) (by decide +kernel) (by decide +kernel)
  | 1, _ => TT_t (i := 84) (by decide +kernel) (by decide +kernel)
  | 2, _ => TT_t (i := 86) (by decide +kernel) (by decide +kernel)
  | 3, _ => TT_t (i := 88) (by decide +kernel) (by decide +kernel)
  | 4, _ => TT_t (i := 90) (by decide +kernel) (by decide +kernel)
  | 5, _ => TT_t (i := 92) (by decide +kernel) (by decide +kernel)
  | 6, _ => TT_t (i := 94) (by decide +kernel) (by decide +kernel)
  | k + 7, h => absurd h (by omega)
theorem cf_8 : mzC 8 RX9 TX9 7 tyX9 := ⟨by decide, rfl, mzC_ws uw_8, tyX9_ok, nmX9⟩
theorem nv_8 : ∀ k, k < 7 → defaultValue (tyX9 k) = if mmRf 8 k = true then .null else .int 0 := fun k hk => match k, hk with
  | 0, _ => rfl
  | 1, _ => rfl
  | 2, _ => rfl
  | 3, _ => rfl
  | 4, _ => rfl
  | 5, _ => rfl
  | 6, _ => rfl
  | k + 7, h => absurd h (by omega)
theorem uw_9 : ∀ k, k < 10 → u_lay RX10 TX10 k ∈ TT := fun k hk => match k, hk with
  | 0, _ => TT_t (i := 353) (by decide +kernel) (by decide +kernel)
  | 1, _ => TT_t (i := 355) (by decide +kernel) (by decide +kernel)
  | 2, _ => TT_t (i := 357) (by decide +kernel) (by decide +kernel)
  | 3, _ => TT_t (i := 359) (by decide +kernel) (by decide +kernel)
  | 4, _ => TT_t (i := 361) (by decide +kernel) (by decide +kernel)
  | 5, _ => TT_t (i := 363) (by decide +kernel) (by decide +kernel)
  | 6, _ => TT_t (i := 365) (by decide +kernel) (by decide +kernel)
  | 7, _ => TT_t (i := 367) (by decide +kernel) (by decide +kernel)
  | 8, _ => TT_t (i := 369) (by decide +kernel) (by decide +kernel)
  | 9, _ => TT_t (i := 371) (by decide +kernel) (by decide +kernel)
  | k + 10, h => absurd h (by omega)
theorem cf_9 : mzC 9 RX10 TX10 10 tyX10 := ⟨by decide, rfl, mzC_ws uw_9, tyX10_ok, nmX10⟩
theorem nv_9 : ∀ k, k < 10 → defaultValue (tyX10 k) = if mmRf 9 k = true then .null else .int 0 := fun k hk => match k, hk with
  | 0, _ => rfl
  | 1, _ => rfl
  | 2, _ => rfl
  | 3, _ => rfl
  | 4, _ => rfl
  | 5, _ => rfl
  | 6, _ => rfl
  | 7, _ => rfl
  | 8, _ => rfl
  | 9, _ => rfl
  | k + 10, h => absurd h (by omega)
theorem uw_10 : ∀ k, k < 4 → u_lay RJ0 TJ0 k ∈ TT := fun k hk => match k, hk with
  | 0, _ => TT_t (i := 731) (by decide +kernel) (by decide +kernel)
  | 1, _ => TT_t (i := 733) (by decide +kernel) (by decide +kernel)
  | 2, _ => TT_t (i := 997) (by decide +kernel) (by decide +kernel)
  | 3, _ => TT_t (i := 999) (by decide +kernel) (by decide +kernel)
  | k + 4, h => absurd h (by omega)
theorem cf_10 : mzC 10 RJ0 TJ0 4 tyJ0 := ⟨by decide, rfl, mzC_ws uw_10, tyJ0_ok, nmJ0⟩
theorem nv_10 : ∀ k, k < 4 → defaultValue (tyJ0 k) = if mmRf 10 k = true then .null else .int 0 := fun k hk => match k, hk with
  | 0, _ => rfl
  | 1, _ => rfl
  | 2, _ => rfl
  | 3, _ => rfl
  | k + 4, h => absurd h (by omega)
theorem fd_0 : mzF 0 0 0 TJ4 4 true "java/lang/AbstractStringBuilder" "value" "[B" false := ⟨by decide, rfl, rfl, rfl⟩
theorem fd_1 : mzF 1 0 1 TJ4 4 false "java/lang/AbstractStringBuilder" "coder" "B" false := ⟨by decide, rfl, rfl, rfl⟩
theorem fd_3 : mzF 3 0 3 TJ4 4 false "java/lang/AbstractStringBuilder" "count" "I" false := ⟨by decide, rfl, rfl, rfl⟩
theorem fd_32 : mzF 32 1 0 TX1 3 true "CrowMail$Command" "form" "LCrowMail$Form;" false := ⟨by decide, rfl, rfl, rfl⟩
theorem fd_33 : mzF 33 1 1 TX1 3 false "CrowMail$Command" "first" "I" false := ⟨by decide, rfl, rfl, rfl⟩
theorem fd_34 : mzF 34 1 2 TX1 3 false "CrowMail$Command" "second" "I" false := ⟨by decide, rfl, rfl, rfl⟩
theorem fd_64 : mzF 64 2 0 TX2 3 false "CrowMail$Crow" "flying" "Z" false := ⟨by decide, rfl, rfl, rfl⟩
theorem fd_65 : mzF 65 2 1 TX2 3 false "CrowMail$Crow" "message" "I" false := ⟨by decide, rfl, rfl, rfl⟩
theorem fd_66 : mzF 66 2 2 TX2 3 false "CrowMail$Crow" "landsAt" "I" false := ⟨by decide, rfl, rfl, rfl⟩
theorem fd_96 : mzF 96 3 0 TX4 3 true "CrowMail$History" "ring" "[LCrowMail$State;" true := ⟨by decide, rfl, rfl, rfl⟩
theorem fd_97 : mzF 97 3 1 TX4 3 false "CrowMail$History" "next" "I" false := ⟨by decide, rfl, rfl, rfl⟩
theorem fd_98 : mzF 98 3 2 TX4 3 false "CrowMail$History" "count" "I" false := ⟨by decide, rfl, rfl, rfl⟩
theorem fd_128 : mzF 128 4 0 TX5 6 false "CrowMail$Message" "id" "I" false := ⟨by decide, rfl, rfl, rfl⟩
theorem fd_129 : mzF 129 4 1 TX5 6 false "CrowMail$Message" "nest" "I" false := ⟨by decide, rfl, rfl, rfl⟩
theorem fd_130 : mzF 130 4 2 TX5 6 false "CrowMail$Message" "key" "I" false := ⟨by decide, rfl, rfl, rfl⟩
theorem fd_131 : mzF 131 4 3 TX5 6 false "CrowMail$Message" "attempts" "I" false := ⟨by decide, rfl, rfl, rfl⟩
theorem fd_132 : mzF 132 4 4 TX5 6 false "CrowMail$Message" "status" "C" false := ⟨by decide, rfl, rfl, rfl⟩
theorem fd_133 : mzF 133 4 5 TX5 6 false "CrowMail$Message" "wakesAt" "I" false := ⟨by decide, rfl, rfl, rfl⟩
theorem fd_160 : mzF 160 5 0 TX6 7 true "CrowMail$Nest" "inbox" "[I" true := ⟨by decide, rfl, rfl, rfl⟩
theorem fd_161 : mzF 161 5 1 TX6 7 true "CrowMail$Nest" "keys" "[I" true := ⟨by decide, rfl, rfl, rfl⟩
theorem fd_162 : mzF 162 5 2 TX6 7 false "CrowMail$Nest" "distance" "I" false := ⟨by decide, rfl, rfl, rfl⟩
theorem fd_163 : mzF 163 5 3 TX6 7 false "CrowMail$Nest" "loss" "I" false := ⟨by decide, rfl, rfl, rfl⟩
theorem fd_164 : mzF 164 5 4 TX6 7 false "CrowMail$Nest" "deliveries" "I" false := ⟨by decide, rfl, rfl, rfl⟩
theorem fd_165 : mzF 165 5 5 TX6 7 false "CrowMail$Nest" "inboxSize" "I" false := ⟨by decide, rfl, rfl, rfl⟩
theorem fd_166 : mzF 166 5 6 TX6 7 false "CrowMail$Nest" "keyCount" "I" false := ⟨by decide, rfl, rfl, rfl⟩
theorem fd_192 : mzF 192 6 0 TX7 9 true "CrowMail$Script" "text" "[C" true := ⟨by decide, rfl, rfl, rfl⟩
theorem fd_193 : mzF 193 6 1 TX7 9 true "CrowMail$Script" "commands" "[LCrowMail$Command;" true := ⟨by decide, rfl, rfl, rfl⟩
theorem fd_194 : mzF 194 6 2 TX7 9 false "CrowMail$Script" "length" "I" false := ⟨by decide, rfl, rfl, rfl⟩
theorem fd_195 : mzF 195 6 3 TX7 9 false "CrowMail$Script" "commandCount" "I" false := ⟨by decide, rfl, rfl, rfl⟩
theorem fd_196 : mzF 196 6 4 TX7 9 false "CrowMail$Script" "reached" "I" false := ⟨by decide, rfl, rfl, rfl⟩
theorem fd_197 : mzF 197 6 5 TX7 9 false "CrowMail$Script" "numbersRead" "I" false := ⟨by decide, rfl, rfl, rfl⟩
theorem fd_198 : mzF 198 6 6 TX7 9 false "CrowMail$Script" "firstNumber" "I" false := ⟨by decide, rfl, rfl, rfl⟩
theorem fd_199 : mzF 199 6 7 TX7 9 false "CrowMail$Script" "secondNumber" "I" false := ⟨by decide, rfl, rfl, rfl⟩
theorem fd_200 : mzF 200 6 8 TX7 9 false "CrowMail$Script" "matched" "Z" false := ⟨by decide, rfl, rfl, rfl⟩
theorem fd_224 : mzF 224 7 0 TX8 9 true "CrowMail$State" "nests" "[LCrowMail$Nest;" true := ⟨by decide, rfl, rfl, rfl⟩
theorem fd_225 : mzF 225 7 1 TX8 9 true "CrowMail$State" "crows" "[LCrowMail$Crow;" true := ⟨by decide, rfl, rfl, rfl⟩
theorem fd_226 : mzF 226 7 2 TX8 9 true "CrowMail$State" "messages" "[LCrowMail$Message;" true := ⟨by decide, rfl, rfl, rfl⟩
theorem fd_227 : mzF 227 7 3 TX8 9 true "CrowMail$State" "totals" "LCrowMail$Totals;" true := ⟨by decide, rfl, rfl, rfl⟩
theorem fd_228 : mzF 228 7 4 TX8 9 false "CrowMail$State" "nestCount" "I" false := ⟨by decide, rfl, rfl, rfl⟩
theorem fd_229 : mzF 229 7 5 TX8 9 false "CrowMail$State" "crowCount" "I" false := ⟨by decide, rfl, rfl, rfl⟩
theorem fd_230 : mzF 230 7 6 TX8 9 false "CrowMail$State" "messageCount" "I" false := ⟨by decide, rfl, rfl, rfl⟩
theorem fd_231 : mzF 231 7 7 TX8 9 false "CrowMail$State" "time" "I" false := ⟨by decide, rfl, rfl, rfl⟩
theorem fd_232 : mzF 232 7 8 TX8 9 false "CrowMail$State" "wind" "I" false := ⟨by decide, rfl, rfl, rfl⟩
theorem fd_256 : mzF 256 8 0 TX9 7 false "CrowMail$Totals" "published" "I" false := ⟨by decide, rfl, rfl, rfl⟩
theorem fd_257 : mzF 257 8 1 TX9 7 false "CrowMail$Totals" "delivered" "I" false := ⟨by decide, rfl, rfl, rfl⟩
theorem fd_258 : mzF 258 8 2 TX9 7 false "CrowMail$Totals" "read" "I" false := ⟨by decide, rfl, rfl, rfl⟩
theorem fd_259 : mzF 259 8 3 TX9 7 false "CrowMail$Totals" "duplicates" "I" false := ⟨by decide, rfl, rfl, rfl⟩
theorem fd_260 : mzF 260 8 4 TX9 7 false "CrowMail$Totals" "failed" "I" false := ⟨by decide, rfl, rfl, rfl⟩
theorem fd_261 : mzF 261 8 5 TX9 7 false "CrowMail$Totals" "cancelled" "I" false := ⟨by decide, rfl, rfl, rfl⟩
theorem fd_262 : mzF 262 8 6 TX9 7 false "CrowMail$Totals" "arrivals" "I" false := ⟨by decide, rfl, rfl, rfl⟩
theorem fd_288 : mzF 288 9 0 TX10 10 true "CrowMail" "state" "LCrowMail$State;" true := ⟨by decide, rfl, rfl, rfl⟩
theorem fd_289 : mzF 289 9 1 TX10 10 true "CrowMail" "before" "LCrowMail$State;" true := ⟨by decide, rfl, rfl, rfl⟩
theorem fd_290 : mzF 290 9 2 TX10 10 true "CrowMail" "foreseen" "LCrowMail$State;" true := ⟨by decide, rfl, rfl, rfl⟩
theorem fd_291 : mzF 291 9 3 TX10 10 true "CrowMail" "snapshot" "LCrowMail$State;" true := ⟨by decide, rfl, rfl, rfl⟩
theorem fd_292 : mzF 292 9 4 TX10 10 true "CrowMail" "history" "LCrowMail$History;" true := ⟨by decide, rfl, rfl, rfl⟩
theorem fd_293 : mzF 293 9 5 TX10 10 true "CrowMail" "script" "LCrowMail$Script;" true := ⟨by decide, rfl, rfl, rfl⟩
theorem fd_294 : mzF 294 9 6 TX10 10 true "CrowMail" "output" "Ljava/lang/StringBuilder;" true := ⟨by decide, rfl, rfl, rfl⟩
theorem fd_295 : mzF 295 9 7 TX10 10 false "CrowMail" "hasSnapshot" "Z" false := ⟨by decide, rfl, rfl, rfl⟩
theorem fd_296 : mzF 296 9 8 TX10 10 false "CrowMail" "latestErrorPosition" "I" false := ⟨by decide, rfl, rfl, rfl⟩
theorem fd_297 : mzF 297 9 9 TX10 10 false "CrowMail" "latestFailedCommand" "I" false := ⟨by decide, rfl, rfl, rfl⟩
theorem fd_320 : mzF 320 10 0 TJ0 4 true "java/lang/String" "value" "[B" true := ⟨by decide, rfl, rfl, rfl⟩
theorem fd_321 : mzF 321 10 1 TJ0 4 false "java/lang/String" "coder" "B" true := ⟨by decide, rfl, rfl, rfl⟩
theorem yf_J0_charAt_5068e : mzY yJ0_charAt_5068e cJ0_charAt_5068e 2 (some .char) 1 := ⟨tw_1012, tw_14, ⟨by decide, by decide⟩, by decide +kernel⟩
theorem yf_J0_checkIndex_df160 : mzY yJ0_checkIndex_df160 cJ0_checkIndex_df160 2 none 2 := ⟨tw_1022, tw_14, ⟨by decide, by decide⟩, by decide +kernel⟩
theorem yf_J0_coder_7d493 : mzY yJ0_coder_7d493 cJ0_coder_7d493 1 (some .byte) 0 := ⟨tw_876, tw_14, ⟨by decide, by decide⟩, by decide +kernel⟩
theorem yf_J0_getBytes_840e7 : mzY yJ0_getBytes_840e7 cJ0_getBytes_840e7 4 none 3 := ⟨tw_909, tw_14, ⟨by decide, by decide⟩, by decide +kernel⟩
theorem yf_J0_init_81219 : mzY yJ0_init_81219 cJ0_init_81219 2 none 1 := ⟨tw_946, tw_14, ⟨by decide, by decide⟩, by decide +kernel⟩
theorem yf_J0_init_db425 : mzY yJ0_init_db425 cJ0_init_db425 5 none 2 := ⟨tw_949, tw_14, ⟨by decide, by decide⟩, by decide +kernel⟩
theorem yf_J0_isLatin1_aae02 : mzY yJ0_isLatin1_aae02 cJ0_isLatin1_aae02 1 (some .boolean) 0 := ⟨tw_1016, tw_14, ⟨by decide, by decide⟩, by decide +kernel⟩
theorem yf_J0_length_8abf5 : mzY yJ0_length_8abf5 cJ0_length_8abf5 1 (some .int) 0 := ⟨tw_872, tw_14, ⟨by decide, by decide⟩, by decide +kernel⟩
theorem yf_J1_charAt_3b067 : mzY yJ1_charAt_3b067 cJ1_charAt_3b067 2 (some .char) 2 := ⟨tw_1019, tw_29, ⟨by decide, by decide⟩, by decide +kernel⟩
theorem yf_J3_checkIndex_8e157 : mzY yJ3_checkIndex_8e157 cJ3_checkIndex_8e157 3 (some .int) 3 := ⟨tw_1025, tw_28, ⟨by decide, by decide⟩, by decide +kernel⟩
theorem yf_J4_append_15ec4 : mzY yJ4_append_15ec4 cJ4_append_15ec4 2 (some (.object "java/lang/StringBuilder")) 1 := ⟨tw_797, tw_13, ⟨by decide, by decide⟩, by decide +kernel⟩
theorem yf_J4_append_bf812 : mzY yJ4_append_bf812 cJ4_append_bf812 2 (some (.object "java/lang/StringBuilder")) 1 := ⟨tw_915, tw_13, ⟨by decide, by decide⟩, by decide +kernel⟩
theorem yf_J4_init_da8c8 : mzY yJ4_init_da8c8 cJ4_init_da8c8 1 none 0 := ⟨tw_315, tw_13, ⟨by decide, by decide⟩, by decide +kernel⟩
theorem yf_J4_length_8abf5 : mzY yJ4_length_8abf5 cJ4_length_8abf5 1 (some .int) 0 := ⟨tw_961, tw_13, ⟨by decide, by decide⟩, by decide +kernel⟩
theorem yf_J4_toString_0e30d : mzY yJ4_toString_0e30d cJ4_toString_0e30d 1 (some (.object "java/lang/String")) 0 := ⟨tw_942, tw_13, ⟨by decide, by decide⟩, by decide +kernel⟩
theorem yf_J5_append_c97b9 : mzY yJ5_append_c97b9 cJ5_append_c97b9 4 (some (.object "java/lang/AbstractStringBuilder")) 1 := ⟨tw_918, tw_12, ⟨by decide, by decide⟩, by decide +kernel⟩
theorem yf_J5_append_cf1ce : mzY yJ5_append_cf1ce cJ5_append_cf1ce 3 (some (.object "java/lang/AbstractStringBuilder")) 1 := ⟨tw_800, tw_12, ⟨by decide, by decide⟩, by decide +kernel⟩
theorem yf_J5_ensureCapacityInternal_d00df : mzY yJ5_ensureCapacityInternal_d00df cJ5_ensureCapacityInternal_d00df 3 none 1 := ⟨tw_808, tw_12, ⟨by decide, by decide⟩, by decide +kernel⟩
theorem yf_J5_getValue_6d5f1 : mzY yJ5_getValue_6d5f1 cJ5_getValue_6d5f1 1 (some (.array .byte)) 0 := ⟨tw_955, tw_12, ⟨by decide, by decide⟩, by decide +kernel⟩
theorem yf_J5_inflateIfNeededFor_a7421 : mzY yJ5_inflateIfNeededFor_a7421 cJ5_inflateIfNeededFor_a7421 2 none 1 := ⟨tw_885, tw_12, ⟨by decide, by decide⟩, by decide +kernel⟩
theorem yf_J5_init_d00df : mzY yJ5_init_d00df cJ5_init_d00df 2 none 1 := ⟨tw_318, tw_12, ⟨by decide, by decide⟩, by decide +kernel⟩
theorem yf_J5_isLatin1_aae02 : mzY yJ5_isLatin1_aae02 cJ5_isLatin1_aae02 1 (some .boolean) 0 := ⟨tw_842, tw_12, ⟨by decide, by decide⟩, by decide +kernel⟩
theorem yf_J5_length_8abf5 : mzY yJ5_length_8abf5 cJ5_length_8abf5 1 (some .int) 0 := ⟨tw_963, tw_12, ⟨by decide, by decide⟩, by decide +kernel⟩
theorem yf_J5_putStringAt_47b60 : mzY yJ5_putStringAt_47b60 cJ5_putStringAt_47b60 3 none 2 := ⟨tw_881, tw_12, ⟨by decide, by decide⟩, by decide +kernel⟩
theorem yf_J6_getChars_ba4f3 : mzY yJ6_getChars_ba4f3 cJ6_getChars_ba4f3 7 (some .int) 3 := ⟨tw_924, tw_31, ⟨by decide, by decide⟩, by decide +kernel⟩
theorem yf_J6_stringSize_0f7a4 : mzY yJ6_stringSize_0f7a4 cJ6_stringSize_0f7a4 4 (some .int) 1 := ⟨tw_921, tw_31, ⟨by decide, by decide⟩, by decide +kernel⟩
theorem yf_J7_checkLength_df160 : mzY yJ7_checkLength_df160 cJ7_checkLength_df160 2 none 2 := ⟨tw_973, tw_27, ⟨by decide, by decide⟩, by decide +kernel⟩
theorem yf_J7_copyOfRangeByte_39247 : mzY yJ7_copyOfRangeByte_39247 cJ7_copyOfRangeByte_39247 5 (some (.array .byte)) 3 := ⟨tw_970, tw_27, ⟨by decide, by decide⟩, by decide +kernel⟩
theorem yf_J7_copyOfRange_39247 : mzY yJ7_copyOfRange_39247 cJ7_copyOfRange_39247 3 (some (.array .byte)) 3 := ⟨tw_967, tw_27, ⟨by decide, by decide⟩, by decide +kernel⟩
theorem yf_Jx29ce0_ordinal_8abf5 : mzY yJx29ce0_ordinal_8abf5 cJx29ce0_ordinal_8abf5 1 (some .int) 0 := ⟨tw_1094, tw_10, ⟨by decide, by decide⟩, by decide +kernel⟩
theorem yf_Jxe99ae_doubleToLongBits_ccdee : mzY yJxe99ae_doubleToLongBits_ccdee cJxe99ae_doubleToLongBits_ccdee 2 (some .long) 1 := ⟨tw_1335, tw_34, ⟨by decide, by decide⟩, by decide +kernel⟩
theorem yf_Jxe99ae_isNaN_b9ae7 : mzY yJxe99ae_isNaN_b9ae7 cJxe99ae_isNaN_b9ae7 2 (some .boolean) 1 := ⟨tw_1338, tw_34, ⟨by decide, by decide⟩, by decide +kernel⟩
theorem yf_Jxf58ca_floatToIntBits_5c35a : mzY yJxf58ca_floatToIntBits_5c35a cJxf58ca_floatToIntBits_5c35a 1 (some .int) 1 := ⟨tw_1365, tw_35, ⟨by decide, by decide⟩, by decide +kernel⟩
theorem yf_Jxf58ca_isNaN_12338 : mzY yJxf58ca_isNaN_12338 cJxf58ca_isNaN_12338 1 (some .boolean) 1 := ⟨tw_1368, tw_35, ⟨by decide, by decide⟩, by decide +kernel⟩
theorem yh_L_addCrow : mzYH yL_addCrow cL_addCrow 2 (some .int) [(0, 4, 5, 22)] 1 := ⟨tw_691, tw_0, ⟨by decide, by decide⟩, by decide +kernel⟩
theorem yh_L_addNest : mzYH yL_addNest cL_addNest 4 (some .int) [(0, 6, 7, 20), (0, 6, 11, 22)] 3 := ⟨tw_633, tw_0, ⟨by decide, by decide⟩, by decide +kernel⟩
theorem yh_L_advance : mzYH yL_advance cL_advance 3 (some .int) [(0, 5, 6, 20)] 2 := ⟨tw_786, tw_0, ⟨by decide, by decide⟩, by decide +kernel⟩
theorem yh_L_attempts : mzYH yL_attempts cL_attempts 3 (some .int) [(0, 5, 6, 37)] 2 := ⟨tw_1207, tw_0, ⟨by decide, by decide⟩, by decide +kernel⟩
theorem yh_L_cancel : mzYH yL_cancel cL_cancel 3 (some .int) [(0, 5, 6, 37), (0, 5, 10, 22)] 2 := ⟨tw_775, tw_0, ⟨by decide, by decide⟩, by decide +kernel⟩
theorem yh_L_carriedMessage : mzYH yL_carriedMessage cL_carriedMessage 3 (some .int) [(0, 5, 6, 31), (0, 5, 10, 37)] 2 := ⟨tw_1169, tw_0, ⟨by decide, by decide⟩, by decide +kernel⟩
theorem yf_L_cell : mzY yL_cell cL_cell 2 (some .int) 2 := ⟨tw_403, tw_0, ⟨by decide, by decide⟩, by decide +kernel⟩
theorem yh_L_deliveryRate : mzYH yL_deliveryRate cL_deliveryRate 2 (some .float) [(0, 4, 5, 124)] 1 := ⟨tw_1345, tw_0, ⟨by decide, by decide⟩, by decide +kernel⟩
theorem yh_L_deliveryRateBits : mzYH yL_deliveryRateBits cL_deliveryRateBits 2 (some .int) [(0, 4, 5, 124)] 1 := ⟨tw_1358, tw_0, ⟨by decide, by decide⟩, by decide +kernel⟩
theorem yh_L_distance : mzYH yL_distance cL_distance 3 (some .int) [(0, 5, 6, 31)] 2 := ⟨tw_1125, tw_0, ⟨by decide, by decide⟩, by decide +kernel⟩
theorem yf_L_does : mzY yL_does cL_does 9 (some .int) 6 := ⟨tw_626, tw_0, ⟨by decide, by decide⟩, by decide +kernel⟩
theorem yh_L_flightMinutes : mzYH yL_flightMinutes cL_flightMinutes 3 (some .int) [(0, 5, 6, 31)] 2 := ⟨tw_1186, tw_0, ⟨by decide, by decide⟩, by decide +kernel⟩
theorem yh_L_forget : mzYH yL_forget cL_forget 3 (some .int) [(0, 5, 6, 31)] 2 := ⟨tw_764, tw_0, ⟨by decide, by decide⟩, by decide +kernel⟩
theorem yh_L_inboxMessage : mzYH yL_inboxMessage cL_inboxMessage 4 (some .int) [(0, 6, 7, 31), (0, 6, 11, 37)] 3 := ⟨tw_1158, tw_0, ⟨by decide, by decide⟩, by decide +kernel⟩
theorem yh_L_inboxSize : mzYH yL_inboxSize cL_inboxSize 3 (some .int) [(0, 5, 6, 31)] 2 := ⟨tw_1151, tw_0, ⟨by decide, by decide⟩, by decide +kernel⟩
theorem yh_L_isFlying : mzYH yL_isFlying cL_isFlying 3 (some .int) [(0, 13, 14, 31)] 2 := ⟨tw_1249, tw_0, ⟨by decide, by decide⟩, by decide +kernel⟩
theorem yf_L_isKept : mzY yL_isKept cL_isKept 6 (some .boolean) 3 := ⟨tw_1402, tw_0, ⟨by decide, by decide⟩, by decide +kernel⟩
theorem yf_L_isMessage : mzY yL_isMessage cL_isMessage 14 (some .boolean) 2 := ⟨tw_1218, tw_0, ⟨by decide, by decide⟩, by decide +kernel⟩
theorem yf_L_isWhole : mzY yL_isWhole cL_isWhole 15 (some .boolean) 4 := ⟨tw_1215, tw_0, ⟨by decide, by decide⟩, by decide +kernel⟩
theorem yh_L_keyOf : mzYH yL_keyOf cL_keyOf 3 (some .int) [(0, 5, 6, 37)] 2 := ⟨tw_1200, tw_0, ⟨by decide, by decide⟩, by decide +kernel⟩
theorem yh_L_loss : mzYH yL_loss cL_loss 3 (some .int) [(0, 5, 6, 31)] 2 := ⟨tw_1137, tw_0, ⟨by decide, by decide⟩, by decide +kernel⟩
theorem yh_L_meanAttempts : mzYH yL_meanAttempts cL_meanAttempts 2 (some .double) [(0, 4, 5, 124)] 1 := ⟨tw_1290, tw_0, ⟨by decide, by decide⟩, by decide +kernel⟩
theorem yh_L_meanAttemptsBits : mzYH yL_meanAttemptsBits cL_meanAttemptsBits 2 (some .long) [(0, 4, 5, 124)] 1 := ⟨tw_1323, tw_0, ⟨by decide, by decide⟩, by decide +kernel⟩
theorem yh_L_messageAt : mzYH yL_messageAt cL_messageAt 3 (some .int) [(0, 5, 6, 37)] 2 := ⟨tw_407, tw_0, ⟨by decide, by decide⟩, by decide +kernel⟩
theorem yh_L_minutesUntilDelivered : mzYH yL_minutesUntilDelivered cL_minutesUntilDelivered 3 (some .int) [(0, 5, 6, 37), (0, 5, 10, 22)] 2 := ⟨tw_529, tw_0, ⟨by decide, by decide⟩, by decide +kernel⟩
theorem yh_L_napLength : mzYH yL_napLength cL_napLength 3 (some .long) [(0, 5, 6, 20)] 2 := ⟨tw_1230, tw_0, ⟨by decide, by decide⟩, by decide +kernel⟩
theorem yh_L_napLengthByDoubling : mzYH yL_napLengthByDoubling cL_napLengthByDoubling 3 (some .long) [(0, 5, 6, 20)] 2 := ⟨tw_1279, tw_0, ⟨by decide, by decide⟩, by decide +kernel⟩
theorem yh_L_napMinutes : mzYH yL_napMinutes cL_napMinutes 3 (some .int) [(0, 5, 6, 37), (0, 5, 10, 22)] 2 := ⟨tw_505, tw_0, ⟨by decide, by decide⟩, by decide +kernel⟩
theorem yh_L_nestByDeliveries : mzYH yL_nestByDeliveries cL_nestByDeliveries 3 (some .int) [(0, 5, 6, 37)] 2 := ⟨tw_1264, tw_0, ⟨by decide, by decide⟩, by decide +kernel⟩
theorem yh_L_nestOf : mzYH yL_nestOf cL_nestOf 3 (some .int) [(0, 5, 6, 37)] 2 := ⟨tw_1193, tw_0, ⟨by decide, by decide⟩, by decide +kernel⟩
theorem yf_L_pick : mzY yL_pick cL_pick 3 (some .int) 3 := ⟨tw_400, tw_0, ⟨by decide, by decide⟩, by decide +kernel⟩
theorem yh_L_publish : mzYH yL_publish cL_publish 4 (some .int) [(0, 6, 7, 31), (0, 6, 11, 20), (0, 6, 15, 22)] 3 := ⟨tw_713, tw_0, ⟨by decide, by decide⟩, by decide +kernel⟩
theorem yh_L_read : mzYH yL_read cL_read 3 (some .int) [(0, 5, 6, 31), (0, 5, 10, 37)] 2 := ⟨tw_749, tw_0, ⟨by decide, by decide⟩, by decide +kernel⟩
theorem yh_L_rememberedCount : mzYH yL_rememberedCount cL_rememberedCount 3 (some .int) [(0, 5, 6, 31)] 2 := ⟨tw_1144, tw_0, ⟨by decide, by decide⟩, by decide +kernel⟩
theorem yh_L_remembers : mzYH yL_remembers cL_remembers 4 (some .int) [(0, 14, 15, 31)] 3 := ⟨tw_1256, tw_0, ⟨by decide, by decide⟩, by decide +kernel⟩
theorem yh_L_restore : mzYH yL_restore cL_restore 2 (some .int) [(0, 4, 5, 22)] 1 := ⟨tw_1422, tw_0, ⟨by decide, by decide⟩, by decide +kernel⟩
theorem yh_L_runScript : mzYH yL_runScript cL_runScript 2 (some .int) [(0, 4, 5, 20), (0, 4, 9, 22)] 1 := ⟨tw_1048, tw_0, ⟨by decide, by decide⟩, by decide +kernel⟩
theorem yf_L_runs : mzY yL_runs cL_runs 4 (some .int) 2 := ⟨tw_1007, tw_0, ⟨by decide, by decide⟩, by decide +kernel⟩
theorem yh_L_setWind : mzYH yL_setWind cL_setWind 3 (some .int) [(0, 5, 6, 20)] 2 := ⟨tw_702, tw_0, ⟨by decide, by decide⟩, by decide +kernel⟩
theorem yh_L_status : mzYH yL_status cL_status 3 (some .int) [(0, 5, 6, 37)] 2 := ⟨tw_485, tw_0, ⟨by decide, by decide⟩, by decide +kernel⟩
theorem yf_L_sum : mzY yL_sum cL_sum 5 (some .long) 1 := ⟨tw_1106, tw_0, ⟨by decide, by decide⟩, by decide +kernel⟩
theorem yh_L_type : mzYH yL_type cL_type 3 (some .int) [(0, 5, 6, 20), (0, 5, 10, 22)] 2 := ⟨tw_1035, tw_0, ⟨by decide, by decide⟩, by decide +kernel⟩
theorem yh_L_undo : mzYH yL_undo cL_undo 2 (some .int) [(0, 4, 5, 37)] 1 := ⟨tw_1410, tw_0, ⟨by decide, by decide⟩, by decide +kernel⟩
theorem yh_L_waitingMessage : mzYH yL_waitingMessage cL_waitingMessage 3 (some .int) [(0, 5, 6, 37)] 2 := ⟨tw_1221, tw_0, ⟨by decide, by decide⟩, by decide +kernel⟩
theorem yh_L_wouldBeLost : mzYH yL_wouldBeLost cL_wouldBeLost 3 (some .int) [(0, 13, 14, 37), (0, 13, 18, 22)] 2 := ⟨tw_1240, tw_0, ⟨by decide, by decide⟩, by decide +kernel⟩
theorem yf_X10_addCrow : mzY yX10_addCrow cX10_addCrow 1 (some .int) 0 := ⟨tw_695, tw_1, ⟨by decide, by decide⟩, by decide +kernel⟩
theorem yf_X10_addNest : mzY yX10_addNest cX10_addNest 3 (some .int) 2 := ⟨tw_638, tw_1, ⟨by decide, by decide⟩, by decide +kernel⟩
theorem yf_X10_advance : mzY yX10_advance cX10_advance 2 (some .int) 1 := ⟨tw_790, tw_1, ⟨by decide, by decide⟩, by decide +kernel⟩
theorem yf_X10_arrivalTotal : mzY yX10_arrivalTotal cX10_arrivalTotal 1 (some .int) 0 := ⟨tw_397, tw_1, ⟨by decide, by decide⟩, by decide +kernel⟩
theorem yf_X10_attempts : mzY yX10_attempts cX10_attempts 2 (some .int) 1 := ⟨tw_1211, tw_1, ⟨by decide, by decide⟩, by decide +kernel⟩
theorem yf_X10_bitsOf : mzY yX10_bitsOf cX10_bitsOf 9 (some .long) 3 := ⟨tw_1330, tw_1, ⟨by decide, by decide⟩, by decide +kernel⟩
theorem yf_X10_cancel : mzY yX10_cancel cX10_cancel 2 (some .int) 1 := ⟨tw_779, tw_1, ⟨by decide, by decide⟩, by decide +kernel⟩
theorem yf_X10_carriedMessage : mzY yX10_carriedMessage cX10_carriedMessage 3 (some .int) 1 := ⟨tw_1173, tw_1, ⟨by decide, by decide⟩, by decide +kernel⟩
theorem yf_X10_crowCount : mzY yX10_crowCount cX10_crowCount 1 (some .int) 0 := ⟨tw_1166, tw_1, ⟨by decide, by decide⟩, by decide +kernel⟩
theorem yf_X10_deliveredTotal : mzY yX10_deliveredTotal cX10_deliveredTotal 1 (some .int) 0 := ⟨tw_385, tw_1, ⟨by decide, by decide⟩, by decide +kernel⟩
theorem yf_X10_deliveryRate : mzY yX10_deliveryRate cX10_deliveryRate 1 (some .float) 0 := ⟨tw_1349, tw_1, ⟨by decide, by decide⟩, by decide +kernel⟩
theorem yf_X10_deliveryRateBits : mzY yX10_deliveryRateBits cX10_deliveryRateBits 1 (some .int) 0 := ⟨tw_1362, tw_1, ⟨by decide, by decide⟩, by decide +kernel⟩
theorem yf_X10_distance : mzY yX10_distance cX10_distance 2 (some .int) 1 := ⟨tw_1129, tw_1, ⟨by decide, by decide⟩, by decide +kernel⟩
theorem yf_X10_doubledNap : mzY yX10_doubledNap cX10_doubledNap 4 (some .long) 1 := ⟨tw_1286, tw_1, ⟨by decide, by decide⟩, by decide +kernel⟩
theorem yf_X10_duplicateTotal : mzY yX10_duplicateTotal cX10_duplicateTotal 1 (some .int) 0 := ⟨tw_389, tw_1, ⟨by decide, by decide⟩, by decide +kernel⟩
theorem yf_X10_existingCrow : mzY yX10_existingCrow cX10_existingCrow 3 (some (.object "CrowMail$Crow")) 1 := ⟨tw_1177, tw_1, ⟨by decide, by decide⟩, by decide +kernel⟩
theorem yf_X10_existingMessage : mzY yX10_existingMessage cX10_existingMessage 3 (some (.object "CrowMail$Message")) 1 := ⟨tw_493, tw_1, ⟨by decide, by decide⟩, by decide +kernel⟩
theorem yf_X10_existingNest : mzY yX10_existingNest cX10_existingNest 3 (some (.object "CrowMail$Nest")) 1 := ⟨tw_1133, tw_1, ⟨by decide, by decide⟩, by decide +kernel⟩
theorem yf_X10_failedTotal : mzY yX10_failedTotal cX10_failedTotal 1 (some .int) 0 := ⟨tw_393, tw_1, ⟨by decide, by decide⟩, by decide +kernel⟩
theorem yf_X10_flightMinutes : mzY yX10_flightMinutes cX10_flightMinutes 3 (some .int) 1 := ⟨tw_1190, tw_1, ⟨by decide, by decide⟩, by decide +kernel⟩
theorem yf_X10_foreseenMinutes : mzY yX10_foreseenMinutes cX10_foreseenMinutes 4 (some .int) 1 := ⟨tw_538, tw_1, ⟨by decide, by decide⟩, by decide +kernel⟩
theorem yf_X10_forget : mzY yX10_forget cX10_forget 2 (some .int) 1 := ⟨tw_768, tw_1, ⟨by decide, by decide⟩, by decide +kernel⟩
theorem yf_X10_inboxMessage : mzY yX10_inboxMessage cX10_inboxMessage 4 (some .int) 2 := ⟨tw_1162, tw_1, ⟨by decide, by decide⟩, by decide +kernel⟩
theorem yf_X10_inboxSize : mzY yX10_inboxSize cX10_inboxSize 2 (some .int) 1 := ⟨tw_1155, tw_1, ⟨by decide, by decide⟩, by decide +kernel⟩
theorem yf_X10_init : mzY yX10_init cX10_init 1 none 0 := ⟨tw_40, tw_1, ⟨by decide, by decide⟩, by decide +kernel⟩
theorem yf_X10_isConsistent : mzY yX10_isConsistent cX10_isConsistent 1 (some .boolean) 0 := ⟨tw_1384, tw_1, ⟨by decide, by decide⟩, by decide +kernel⟩
theorem yf_X10_isFlying : mzY yX10_isFlying cX10_isFlying 2 (some .boolean) 1 := ⟨tw_1253, tw_1, ⟨by decide, by decide⟩, by decide +kernel⟩
theorem yf_X10_keyOf : mzY yX10_keyOf cX10_keyOf 2 (some .int) 1 := ⟨tw_1204, tw_1, ⟨by decide, by decide⟩, by decide +kernel⟩
theorem yf_X10_loss : mzY yX10_loss cX10_loss 2 (some .int) 1 := ⟨tw_1141, tw_1, ⟨by decide, by decide⟩, by decide +kernel⟩
theorem yf_X10_meanAttempts : mzY yX10_meanAttempts cX10_meanAttempts 1 (some .double) 0 := ⟨tw_1308, tw_1, ⟨by decide, by decide⟩, by decide +kernel⟩
theorem yf_X10_meanAttemptsBits : mzY yX10_meanAttemptsBits cX10_meanAttemptsBits 1 (some .long) 0 := ⟨tw_1327, tw_1, ⟨by decide, by decide⟩, by decide +kernel⟩
theorem yf_X10_meanOfAttempts : mzY yX10_meanOfAttempts cX10_meanOfAttempts 1 (some .double) 0 := ⟨tw_1315, tw_1, ⟨by decide, by decide⟩, by decide +kernel⟩
theorem yf_X10_messageAt : mzY yX10_messageAt cX10_messageAt 2 (some .int) 1 := ⟨tw_412, tw_1, ⟨by decide, by decide⟩, by decide +kernel⟩
theorem yf_X10_messageCount : mzY yX10_messageCount cX10_messageCount 1 (some .int) 0 := ⟨tw_377, tw_1, ⟨by decide, by decide⟩, by decide +kernel⟩
theorem yf_X10_messageCountByTotals : mzY yX10_messageCountByTotals cX10_messageCountByTotals 1 (some .int) 0 := ⟨tw_1376, tw_1, ⟨by decide, by decide⟩, by decide +kernel⟩
theorem yf_X10_minutesUntilDelivered : mzY yX10_minutesUntilDelivered cX10_minutesUntilDelivered 3 (some .int) 1 := ⟨tw_533, tw_1, ⟨by decide, by decide⟩, by decide +kernel⟩
theorem yf_X10_napLength : mzY yX10_napLength cX10_napLength 2 (some .long) 1 := ⟨tw_1234, tw_1, ⟨by decide, by decide⟩, by decide +kernel⟩
theorem yf_X10_napLengthByDoubling : mzY yX10_napLengthByDoubling cX10_napLengthByDoubling 2 (some .long) 1 := ⟨tw_1283, tw_1, ⟨by decide, by decide⟩, by decide +kernel⟩
theorem yf_X10_napLengthsAgree : mzY yX10_napLengthsAgree cX10_napLengthsAgree 1 (some .boolean) 0 := ⟨tw_1387, tw_1, ⟨by decide, by decide⟩, by decide +kernel⟩
theorem yf_X10_napMinutes : mzY yX10_napMinutes cX10_napMinutes 3 (some .int) 1 := ⟨tw_510, tw_1, ⟨by decide, by decide⟩, by decide +kernel⟩
theorem yf_X10_nestByDeliveries : mzY yX10_nestByDeliveries cX10_nestByDeliveries 3 (some .int) 1 := ⟨tw_1268, tw_1, ⟨by decide, by decide⟩, by decide +kernel⟩
theorem yf_X10_nestCount : mzY yX10_nestCount cX10_nestCount 1 (some .int) 0 := ⟨tw_630, tw_1, ⟨by decide, by decide⟩, by decide +kernel⟩
theorem yf_X10_nestOf : mzY yX10_nestOf cX10_nestOf 2 (some .int) 1 := ⟨tw_1197, tw_1, ⟨by decide, by decide⟩, by decide +kernel⟩
theorem yf_X10_publish : mzY yX10_publish cX10_publish 3 (some .int) 2 := ⟨tw_738, tw_1, ⟨by decide, by decide⟩, by decide +kernel⟩
theorem yf_X10_publishedTotal : mzY yX10_publishedTotal cX10_publishedTotal 1 (some .int) 0 := ⟨tw_1116, tw_1, ⟨by decide, by decide⟩, by decide +kernel⟩
theorem yf_X10_rateOfDeliveries : mzY yX10_rateOfDeliveries cX10_rateOfDeliveries 1 (some .float) 0 := ⟨tw_1354, tw_1, ⟨by decide, by decide⟩, by decide +kernel⟩
theorem yf_X10_read : mzY yX10_read cX10_read 2 (some .int) 1 := ⟨tw_753, tw_1, ⟨by decide, by decide⟩, by decide +kernel⟩
theorem yf_X10_readTotal : mzY yX10_readTotal cX10_readTotal 1 (some .int) 0 := ⟨tw_1121, tw_1, ⟨by decide, by decide⟩, by decide +kernel⟩
theorem yf_X10_rememberedCount : mzY yX10_rememberedCount cX10_rememberedCount 2 (some .int) 1 := ⟨tw_1148, tw_1, ⟨by decide, by decide⟩, by decide +kernel⟩
theorem yf_X10_remembers : mzY yX10_remembers cX10_remembers 3 (some .boolean) 2 := ⟨tw_1260, tw_1, ⟨by decide, by decide⟩, by decide +kernel⟩
theorem yf_X10_restore : mzY yX10_restore cX10_restore 1 (some .int) 0 := ⟨tw_1426, tw_1, ⟨by decide, by decide⟩, by decide +kernel⟩
theorem yf_X10_runScript : mzY yX10_runScript cX10_runScript 3 (some .int) 0 := ⟨tw_1052, tw_1, ⟨by decide, by decide⟩, by decide +kernel⟩
theorem yf_X10_save : mzY yX10_save cX10_save 1 (some .int) 0 := ⟨tw_1406, tw_1, ⟨by decide, by decide⟩, by decide +kernel⟩
theorem yf_X10_setWind : mzY yX10_setWind cX10_setWind 2 (some .int) 1 := ⟨tw_706, tw_1, ⟨by decide, by decide⟩, by decide +kernel⟩
theorem yf_X10_settle : mzY yX10_settle cX10_settle 2 (some .int) 1 := ⟨tw_650, tw_1, ⟨by decide, by decide⟩, by decide +kernel⟩
theorem yf_X10_shiftedNap : mzY yX10_shiftedNap cX10_shiftedNap 1 (some .long) 1 := ⟨tw_606, tw_1, ⟨by decide, by decide⟩, by decide +kernel⟩
theorem yf_X10_status : mzY yX10_status cX10_status 2 (some .char) 1 := ⟨tw_489, tw_1, ⟨by decide, by decide⟩, by decide +kernel⟩
theorem yf_X10_time : mzY yX10_time cX10_time 1 (some .int) 0 := ⟨tw_381, tw_1, ⟨by decide, by decide⟩, by decide +kernel⟩
theorem yf_X10_type : mzY yX10_type cX10_type 2 (some .int) 1 := ⟨tw_1039, tw_1, ⟨by decide, by decide⟩, by decide +kernel⟩
theorem yf_X10_undo : mzY yX10_undo cX10_undo 1 (some .int) 0 := ⟨tw_1414, tw_1, ⟨by decide, by decide⟩, by decide +kernel⟩
theorem yf_X10_waitingMessage : mzY yX10_waitingMessage cX10_waitingMessage 3 (some .int) 1 := ⟨tw_1225, tw_1, ⟨by decide, by decide⟩, by decide +kernel⟩
theorem yf_X10_wind : mzY yX10_wind cX10_wind 1 (some .int) 0 := ⟨tw_1111, tw_1, ⟨by decide, by decide⟩, by decide +kernel⟩
theorem yf_X10_wouldBeLost : mzY yX10_wouldBeLost cX10_wouldBeLost 3 (some .boolean) 1 := ⟨tw_1244, tw_1, ⟨by decide, by decide⟩, by decide +kernel⟩
theorem yf_X1_init : mzY yX1_init cX1_init 1 none 0 := ⟨tw_258, tw_9, ⟨by decide, by decide⟩, by decide +kernel⟩
theorem yf_X2_copyFrom : mzY yX2_copyFrom cX2_copyFrom 2 none 1 := ⟨tw_553, tw_5, ⟨by decide, by decide⟩, by decide +kernel⟩
theorem yf_X2_init : mzY yX2_init cX2_init 1 none 0 := ⟨tw_138, tw_5, ⟨by decide, by decide⟩, by decide +kernel⟩
theorem yf_X4_init : mzY yX4_init cX4_init 2 none 0 := ⟨tw_231, tw_7, ⟨by decide, by decide⟩, by decide +kernel⟩
theorem yf_X4_remember : mzY yX4_remember cX4_remember 2 none 1 := ⟨tw_687, tw_7, ⟨by decide, by decide⟩, by decide +kernel⟩
theorem yf_X4_takeBackInto : mzY yX4_takeBackInto cX4_takeBackInto 2 none 1 := ⟨tw_1419, tw_7, ⟨by decide, by decide⟩, by decide +kernel⟩
theorem yf_X5_copyFrom : mzY yX5_copyFrom cX5_copyFrom 2 none 1 := ⟨tw_557, tw_6, ⟨by decide, by decide⟩, by decide +kernel⟩
theorem yf_X5_init : mzY yX5_init cX5_init 1 none 0 := ⟨tw_159, tw_6, ⟨by decide, by decide⟩, by decide +kernel⟩
theorem yf_X5_write : mzY yX5_write cX5_write 4 none 3 := ⟨tw_746, tw_6, ⟨by decide, by decide⟩, by decide +kernel⟩
theorem yf_X6_accept : mzY yX6_accept cX6_accept 3 none 2 := ⟨tw_598, tw_4, ⟨by decide, by decide⟩, by decide +kernel⟩
theorem yf_X6_copyFrom : mzY yX6_copyFrom cX6_copyFrom 2 none 1 := ⟨tw_546, tw_4, ⟨by decide, by decide⟩, by decide +kernel⟩
theorem yf_X6_hasRoom : mzY yX6_hasRoom cX6_hasRoom 1 (some .boolean) 0 := ⟨tw_594, tw_4, ⟨by decide, by decide⟩, by decide +kernel⟩
theorem yf_X6_init : mzY yX6_init cX6_init 1 none 0 := ⟨tw_100, tw_4, ⟨by decide, by decide⟩, by decide +kernel⟩
theorem yf_X6_knows : mzY yX6_knows cX6_knows 3 (some .boolean) 1 := ⟨tw_586, tw_4, ⟨by decide, by decide⟩, by decide +kernel⟩
theorem yf_X6_learn : mzY yX6_learn cX6_learn 2 none 1 := ⟨tw_603, tw_4, ⟨by decide, by decide⟩, by decide +kernel⟩
theorem yf_X6_open : mzY yX6_open cX6_open 3 none 2 := ⟨tw_646, tw_4, ⟨by decide, by decide⟩, by decide +kernel⟩
theorem yf_X6_takeFirst : mzY yX6_takeFirst cX6_takeFirst 2 (some .int) 0 := ⟨tw_761, tw_4, ⟨by decide, by decide⟩, by decide +kernel⟩
theorem yf_X7_append : mzY yX7_append cX7_append 2 (some .int) 1 := ⟨tw_1045, tw_8, ⟨by decide, by decide⟩, by decide +kernel⟩
theorem yf_X7_init : mzY yX7_init cX7_init 2 none 0 := ⟨tw_251, tw_8, ⟨by decide, by decide⟩, by decide +kernel⟩
theorem yf_X7_isDigitAt : mzY yX7_isDigitAt cX7_isDigitAt 2 (some .boolean) 1 := ⟨tw_1080, tw_8, ⟨by decide, by decide⟩, by decide +kernel⟩
theorem yf_X7_match : mzY yX7_match cX7_match 6 (some .int) 2 := ⟨tw_1066, tw_8, ⟨by decide, by decide⟩, by decide +kernel⟩
theorem yf_X7_readCommand : mzY yX7_readCommand cX7_readCommand 9 (some .boolean) 2 := ⟨tw_1060, tw_8, ⟨by decide, by decide⟩, by decide +kernel⟩
theorem yf_X7_readNumber : mzY yX7_readNumber cX7_readNumber 6 (some .int) 2 := ⟨tw_1076, tw_8, ⟨by decide, by decide⟩, by decide +kernel⟩
theorem yf_X7_split : mzY yX7_split cX7_split 3 (some .boolean) 0 := ⟨tw_1056, tw_8, ⟨by decide, by decide⟩, by decide +kernel⟩
theorem yf_X7_widthOf : mzY yX7_widthOf cX7_widthOf 3 (some .int) 2 := ⟨tw_1072, tw_8, ⟨by decide, by decide⟩, by decide +kernel⟩
theorem yf_X8_arrive : mzY yX8_arrive cX8_arrive 5 none 1 := ⟨tw_573, tw_2, ⟨by decide, by decide⟩, by decide +kernel⟩
theorem yf_X8_clearKeys : mzY yX8_clearKeys cX8_clearKeys 4 (some .int) 1 := ⟨tw_772, tw_2, ⟨by decide, by decide⟩, by decide +kernel⟩
theorem yf_X8_copyFrom : mzY yX8_copyFrom cX8_copyFrom 3 none 1 := ⟨tw_542, tw_2, ⟨by decide, by decide⟩, by decide +kernel⟩
theorem yf_X8_crowAt : mzY yX8_crowAt cX8_crowAt 2 (some (.object "CrowMail$Crow")) 1 := ⟨tw_1181, tw_2, ⟨by decide, by decide⟩, by decide +kernel⟩
theorem yf_X8_flightLength : mzY yX8_flightLength cX8_flightLength 4 (some .int) 1 := ⟨tw_622, tw_2, ⟨by decide, by decide⟩, by decide +kernel⟩
theorem yf_X8_flyingCrows : mzY yX8_flyingCrows cX8_flyingCrows 3 (some .int) 0 := ⟨tw_1395, tw_2, ⟨by decide, by decide⟩, by decide +kernel⟩
theorem yf_X8_handOver : mzY yX8_handOver cX8_handOver 4 (some .int) 1 := ⟨tw_757, tw_2, ⟨by decide, by decide⟩, by decide +kernel⟩
theorem yf_X8_hireCrow : mzY yX8_hireCrow cX8_hireCrow 2 (some .int) 0 := ⟨tw_699, tw_2, ⟨by decide, by decide⟩, by decide +kernel⟩
theorem yf_X8_init : mzY yX8_init cX8_init 2 none 0 := ⟨tw_48, tw_2, ⟨by decide, by decide⟩, by decide +kernel⟩
theorem yf_X8_isLost : mzY yX8_isLost cX8_isLost 4 (some .boolean) 2 := ⟨tw_582, tw_2, ⟨by decide, by decide⟩, by decide +kernel⟩
theorem yf_X8_landCrows : mzY yX8_landCrows cX8_landCrows 3 none 0 := ⟨tw_569, tw_2, ⟨by decide, by decide⟩, by decide +kernel⟩
theorem yf_X8_messageWith : mzY yX8_messageWith cX8_messageWith 3 (some (.object "CrowMail$Message")) 1 := ⟨tw_497, tw_2, ⟨by decide, by decide⟩, by decide +kernel⟩
theorem yf_X8_messagesInInboxes : mzY yX8_messagesInInboxes cX8_messagesInInboxes 3 (some .int) 0 := ⟨tw_1399, tw_2, ⟨by decide, by decide⟩, by decide +kernel⟩
theorem yf_X8_messagesWithStatus : mzY yX8_messagesWithStatus cX8_messagesWithStatus 4 (some .int) 1 := ⟨tw_1391, tw_2, ⟨by decide, by decide⟩, by decide +kernel⟩
theorem yf_X8_nestAt : mzY yX8_nestAt cX8_nestAt 2 (some (.object "CrowMail$Nest")) 1 := ⟨tw_578, tw_2, ⟨by decide, by decide⟩, by decide +kernel⟩
theorem yf_X8_nestAtRank : mzY yX8_nestAtRank cX8_nestAtRank 5 (some .int) 1 := ⟨tw_1272, tw_2, ⟨by decide, by decide⟩, by decide +kernel⟩
theorem yf_X8_openNest : mzY yX8_openNest cX8_openNest 4 (some .int) 2 := ⟨tw_642, tw_2, ⟨by decide, by decide⟩, by decide +kernel⟩
theorem yf_X8_pass : mzY yX8_pass cX8_pass 4 (some .int) 1 := ⟨tw_565, tw_2, ⟨by decide, by decide⟩, by decide +kernel⟩
theorem yf_X8_perform : mzY yX8_perform cX8_perform 2 (some .int) 1 := ⟨tw_1086, tw_2, ⟨by decide, by decide⟩, by decide +kernel⟩
theorem yf_X8_post : mzY yX8_post cX8_post 4 (some .int) 2 := ⟨tw_742, tw_2, ⟨by decide, by decide⟩, by decide +kernel⟩
theorem yf_X8_ranksBefore : mzY yX8_ranksBefore cX8_ranksBefore 3 (some .boolean) 2 := ⟨tw_1276, tw_2, ⟨by decide, by decide⟩, by decide +kernel⟩
theorem yf_X8_remove : mzY yX8_remove cX8_remove 5 none 1 := ⟨tw_590, tw_2, ⟨by decide, by decide⟩, by decide +kernel⟩
theorem yf_X8_rowOf : mzY yX8_rowOf cX8_rowOf 3 (some .int) 1 := ⟨tw_501, tw_2, ⟨by decide, by decide⟩, by decide +kernel⟩
theorem yf_X8_sendCrows : mzY yX8_sendCrows cX8_sendCrows 3 none 0 := ⟨tw_614, tw_2, ⟨by decide, by decide⟩, by decide +kernel⟩
theorem yf_X8_sumOfAttempts : mzY yX8_sumOfAttempts cX8_sumOfAttempts 3 (some .int) 0 := ⟨tw_1319, tw_2, ⟨by decide, by decide⟩, by decide +kernel⟩
theorem yf_X8_turnWind : mzY yX8_turnWind cX8_turnWind 3 (some .int) 1 := ⟨tw_710, tw_2, ⟨by decide, by decide⟩, by decide +kernel⟩
theorem yf_X8_waitingAtRank : mzY yX8_waitingAtRank cX8_waitingAtRank 6 (some (.object "CrowMail$Message")) 1 := ⟨tw_618, tw_2, ⟨by decide, by decide⟩, by decide +kernel⟩
theorem yf_X8_wakeMessages : mzY yX8_wakeMessages cX8_wakeMessages 3 none 0 := ⟨tw_610, tw_2, ⟨by decide, by decide⟩, by decide +kernel⟩
theorem yf_X8_withdraw : mzY yX8_withdraw cX8_withdraw 3 (some .int) 1 := ⟨tw_783, tw_2, ⟨by decide, by decide⟩, by decide +kernel⟩
theorem yf_X9_copyFrom : mzY yX9_copyFrom cX9_copyFrom 2 none 1 := ⟨tw_561, tw_3, ⟨by decide, by decide⟩, by decide +kernel⟩
theorem yf_X9_existing : mzY yX9_existing cX9_existing 1 (some .int) 0 := ⟨tw_1380, tw_3, ⟨by decide, by decide⟩, by decide +kernel⟩
theorem yf_X9_init : mzY yX9_init cX9_init 1 none 0 := ⟨tw_60, tw_3, ⟨by decide, by decide⟩, by decide +kernel⟩
theorem xf_91_95 : mzX "CrowMail" 91 95 "java/lang/IllegalArgumentException" := mz_mkX (by decide +kernel) (by decide +kernel) tw_651 tw_24 (by decide +kernel) (by decide +kernel)
theorem xf_98_102 : mzX "CrowMail" 98 102 "java/lang/IllegalStateException" := mz_mkX (by decide +kernel) (by decide +kernel) tw_511 tw_22 (by decide +kernel) (by decide +kernel)
theorem xf_103_107 : mzX "CrowMail" 103 107 "java/lang/IndexOutOfBoundsException" := mz_mkX (by decide +kernel) (by decide +kernel) tw_668 tw_19 (by decide +kernel) (by decide +kernel)
theorem xf_108_112 : mzXN "CrowMail" 108 112 "java/util/NoSuchElementException" := mz_mkXN (by decide +kernel) (by decide +kernel) (by decide +kernel) tw_413 tw_21 (by decide +kernel) (by decide +kernel)
theorem xf_275_279 : mzX "CrowMail" 275 279 "java/lang/ArithmeticException" := mz_mkX (by decide +kernel) (by decide +kernel) tw_1309 tw_33 (by decide +kernel) (by decide +kernel)
