theorem uw_0 : ∀ k, k < 4 → u_lay RJ4 TJ4 k ∈ TT := fun k hk => match k, hk with
  | 0, _ => TT_t (i := 337) (by decide +kernel) (by decide +kernel)
  | 1, _ => TT_t (i := 339) (by decide +kernel) (by decide +kernel)
  | 2, _ => TT_t (i := 341) (by decide +kernel) (by decide +kernel)
  | 3, _ => TT_t (i := 343) (by decide +kernel) (by decide +kernel)
  | k + 4, h => absurd h (by omega)
theorem cf_0 : mzC 0 RJ4 TJ4 4 tyJ4 := ⟨by decide, rfl, mzC_ws uw_0, tyJ4_ok, nmJ4⟩
theorem nv_0 : ∀ k, k < 4 → defaultValue (tyJ4 k) = if mmRf 0 k = true then .null else .int 0 := fun k hk => match k, hk with
  | 0, _ => rfl
  | 1, _ => rfl
  | 2, _ => rfl
  | 3, _ => rfl
  | k + 4, h => absurd h (by omega)
theorem uw_1 : ∀ k, k < 3 → u_lay RX1 TX1 k ∈ TT := fun k hk => match k, hk with
  | 0, _ => TT_t (i := 274) (by decide +kernel) (by decide +kernel)
  | 1, _ => TT_t (i := 276) (by decide +kernel) (by decide +kernel)
  | 2, _ => TT_t (i := 278) (by decide +kernel) (by decide +kernel)
  | k + 3, h => absurd h (by omega)
theorem cf_1 : mzC 1 RX1 TX1 3 tyX1 := ⟨by decide, rfl, mzC_ws uw_1, tyX1_ok, nmX1⟩
theorem nv_1 : ∀ k, k < 3 → defaultValue (tyX1 k) = if mmRf 1 k = true then .null else .int 0 := fun k hk => match k, hk with
  | 0, _ => rfl
  | 1, _ => rfl
  | 2, _ => rfl
  | k + 3, h => absurd h (by omega)
theorem uw_2 : ∀ k, k < 3 → u_lay RX2 TX2 k ∈ TT := fun k hk => match k, hk with
  | 0, _ => TT_t (i := 151) (by decide +kernel) (by decide +kernel)
  | 1, _ => TT_t (i := 153) (by decide +kernel) (by decide +kernel)
  | 2, _ => TT_t (i := 155) (by decide +kernel) (by decide +kernel)
  | k + 3, h => absurd h (by omega)
theorem cf_2 : mzC 2 RX2 TX2 3 tyX2 := ⟨by decide, rfl, mzC_ws uw_2, tyX2_ok, nmX2⟩
theorem nv_2 : ∀ k, k < 3 → defaultValue (tyX2 k) = if mmRf 2 k = true then .null else .int 0 := fun k hk => match k, hk with
  | 0, _ => rfl
  | 1, _ => rfl
  | 2, _ => rfl
  | k + 3, h => absurd h (by omega)
theorem uw_3 : ∀ k, k < 3 → u_lay RX4 TX4 k ∈ TT := fun k hk => match k, hk with
  | 0, _ => TT_t (i := 243) (by decide +kernel) (by decide +kernel)
  | 1, _ => TT_t (i := 245) (by decide +kernel) (by decide +kernel)
  | 2, _ => TT_t (i := 247) (by decide +kernel) (by decide +kernel)
  | k + 3, h => absurd h (by omega)
theorem cf_3 : mzC 3 RX4 TX4 3 tyX4 := ⟨by decide, rfl, mzC_ws uw_3, tyX4_ok, nmX4⟩
theorem nv_3 : ∀ k, k < 3 → defaultValue (tyX4 k) = if mmRf 3 k = true then .null else .int 0 := fun k hk => match k, hk with
  | 0, _ => rfl
  | 1, _ => rfl
  | 2, _ => rfl
  | k + 3, h => absurd h (by omega)
theorem uw_4 : ∀ k, k < 6 → u_lay RX5 TX5 k ∈ TT := fun k hk => match k, hk with
  | 0, _ => TT_t (i := 181) (by decide +kernel) (by decide +kernel)
  | 1, _ => TT_t (i := 183) (by decide +kernel) (by decide +kernel)
  | 2, _ => TT_t (i := 185) (by decide +kernel) (by decide +kernel)
  | 3, _ => TT_t (i := 187) (by decide +kernel) (by decide +kernel)
  | 4, _ => TT_t (i := 189) (by decide +kernel) (by decide +kernel)
  | 5, _ => TT_t (i := 191) (by decide +kernel) (by decide +kernel)
  | k + 6, h => absurd h (by omega)
theorem cf_4 : mzC 4 RX5 TX5 6 tyX5 := ⟨by decide, rfl, mzC_ws uw_4, tyX5_ok, nmX5⟩
theorem nv_4 : ∀ k, k < 6 → defaultValue (tyX5 k) = if mmRf 4 k = true then .null else .int 0 := fun k hk => match k, hk with
  | 0, _ => rfl
  | 1, _ => rfl
  | 2, _ => rfl
  | 3, _ => rfl
  | 4, _ => rfl
  | 5, _ => rfl
  | k + 6, h => absurd h (by omega)
theorem uw_5 : ∀ k, k < 7 → u_lay RX6 TX6 k ∈ TT := fun k hk => match k, hk with
  | 0, _ => TT_t (i := 121) (by decide +kernel) (by decide +kernel)
  | 1, _ => TT_t (i := 123) (by decide +kernel) (by decide +kernel)
  | 2, _ => TT_t (i := 125) (by decide +kernel) (by decide +kernel)
  | 3, _ => TT_t (i := 127) (by decide +kernel) (by decide +kernel)
  | 4, _ => TT_t (i := 129) (by decide +kernel) (by decide +kernel)
  | 5, _ => TT_t (i := 131) (by decide +kernel) (by decide +kernel)
  | 6, _ => TT_t (i := 133) (by decide +kernel) (by decide +kernel)
  | k + 7, h => absurd h (by omega)
theorem cf_5 : mzC 5 RX6 TX6 7 tyX6 := ⟨by decide, rfl, mzC_ws uw_5, tyX6_ok, nmX6⟩
theorem nv_5 : ∀ k, k < 7 → defaultValue (tyX6 k) = if mmRf 5 k = true then .null else .int 0 := fun k hk => match k, hk with
  | 0, _ => rfl
  | 1, _ => rfl
  | 2, _ => rfl
  | 3, _ => rfl
  | 4, _ => rfl
  | 5, _ => rfl
  | 6, _ => rfl
  | k + 7, h => absurd h (by omega)
theorem uw_6 : ∀ k, k < 9 → u_lay RX7 TX7 k ∈ TT := fun k hk => match k, hk with
  | 0, _ => TT_t (i := 295) (by decide +kernel) (by decide +kernel)
  | 1, _ => TT_t (i := 297) (by decide +kernel) (by decide +kernel)
  | 2, _ => TT_t (i := 299) (by decide +kernel) (by decide +kernel)
  | 3, _ => TT_t (i := 301) (by decide +kernel) (by decide +kernel)
  | 4, _ => TT_t (i := 303) (by decide +kernel) (by decide +kernel)
  | 5, _ => TT_t (i := 305) (by decide +kernel) (by decide +kernel)
  | 6, _ => TT_t (i := 307) (by decide +kernel) (by decide +kernel)
  | 7, _ => TT_t (i := 309) (by decide +kernel) (by decide +kernel)
  | 8, _ => TT_t (i := 311) (by decide +kernel) (by decide +kernel)
  | k + 9, h => absurd h (by omega)
theorem cf_6 : mzC 6 RX7 TX7 9 tyX7 := ⟨by decide, rfl, mzC_ws uw_6, tyX7_ok, nmX7⟩
theorem nv_6 : ∀ k, k < 9 → defaultValue (tyX7 k) = if mmRf 6 k = true then .null else .int 0 := fun k hk => match k, hk with
  | 0, _ => rfl
  | 1, _ => rfl
  | 2, _ => rfl
  | 3, _ => rfl
  | 4, _ => rfl
  | 5, _ => rfl
  | 6, _ => rfl
  | 7, _ => rfl
  | 8, _ => rfl
  | k + 9, h => absurd h (by omega)
theorem uw_7 : ∀ k, k < 9 → u_lay RX8 TX8 k ∈ TT := fun k hk => match k, hk with
  | 0, _ => TT_t (i := 211) (by decide +kernel) (by decide +kernel)
  | 1, _ => TT_t (i := 213) (by decide +kernel) (by decide +kernel)
  | 2, _ => TT_t (i := 215) (by decide +kernel) (by decide +kernel)
  | 3, _ => TT_t (i := 217) (by decide +kernel) (by decide +kernel)
  | 4, _ => TT_t (i := 219) (by decide +kernel) (by decide +kernel)
  | 5, _ => TT_t (i := 221) (by decide +kernel) (by decide +kernel)
  | 6, _ => TT_t (i := 223) (by decide +kernel) (by decide +kernel)
  | 7, _ => TT_t (i := 225) (by decide +kernel) (by decide +kernel)
  | 8, _ => TT_t (i := 227) (by decide +kernel) (by decide +kernel)
  | k + 9, h => absurd h (by omega)
theorem cf_7 : mzC 7 RX8 TX8 9 tyX8 := ⟨by decide, rfl, mzC_ws uw_7, tyX8_ok, nmX8⟩
theorem nv_7 : ∀ k, k < 9 → defaultValue (tyX8 k) = if mmRf 7 k = true then .null else .int 0 := fun k hk => match k, hk with
  | 0, _ => rfl
  | 1, _ => rfl
  | 2, _ => rfl
  | 3, _ => rfl
  | 4, _ => rfl
  | 5, _ => rfl
  | 6, _ => rfl
  | 7, _ => rfl
  | 8, _ => rfl
  | k + 9, h => absurd h (by omega)
theorem uw_8 : ∀ k, k < 7 → u_lay RX9 TX9 k ∈ TT := fun k hk => match k, hk with
  | 0, _ => TT_t (i := 84) (by decide +kernel) (by decide +kernel)
  | 1, _ => TT_t (i := 86) (by decide +kernel) (by decide +kernel)
  | 2, _ => TT_t (i := 88) (by decide +kernel) (by decide +kernel)
  | 3, _ => TT_t (i := 90) (by decide +kernel) (by decide +kernel)
  | 4, _ => TT_t (i := 92) (by decide +kernel) (by decide +kernel)
  | 5, _ => TT_t (i := 94) (by decide +kernel) (by decide +kernel)
  | 6, _ => TT_t (i := 96) (by decide +kernel) (by decide +kernel)
  | k + 7, h => absurd h (by omega)
theorem cf_8 : mzC 8 RX9 TX9 7 tyX9 := ⟨by decide, rfl, mzC_ws uw_8, tyX9_ok, nmX9⟩
theorem nv_8 : ∀ k, k < 7 → defaultValue (tyX9 k) = if mmRf 8 k = true then .null else .int 0 := fun k hk => match k, hk with
  | 0, _ => rfl
  | 1, _ => rfl
  | 2, _ => rfl
  | 3, _ => rfl
  | 4, _ => rfl
  | 5, _ => rfl
  | 6, _ => rfl
  | k + 7, h => absurd h (by omega)
theorem uw_9 : ∀ k, k < 10 → u_lay RX10 TX10 k ∈ TT := fun k hk => match k, hk with
  | 0, _ => TT_t (i := 357) (by decide +kernel) (by decide +kernel)
  | 1, _ => TT_t (i := 359) (by decide +kernel) (by decide +kernel)
  | 2, _ => TT_t (i := 361) (by decide +kernel) (by decide +kernel)
  | 3, _ => TT_t (i := 363) (by decide +kernel) (by decide +kernel)
  | 4, _ => TT_t (i := 365) (by decide +kernel) (by decide +kernel)
  | 5, _ => TT_t (i := 367) (by decide +kernel) (by decide +kernel)
  | 6, _ => TT_t (i := 369) (by decide +kernel) (by decide +kernel)
  | 7, _ => TT_t (i := 371) (by decide +kernel) (by decide +kernel)
  | 8, _ => TT_t (i := 373) (by decide +kernel) (by decide +kernel)
  | 9, _ => TT_t (i := 375) (by decide +kernel) (by decide +kernel)
  | k + 10, h => absurd h (by omega)
theorem cf_9 : mzC 9 RX10 TX10 10 tyX10 := ⟨by decide, rfl, mzC_ws uw_9, tyX10_ok, nmX10⟩
theorem nv_9 : ∀ k, k < 10 → defaultValue (tyX10 k) = if mmRf 9 k = true then .null else .int 0 := fun k hk => match k, hk with
  | 0, _ => rfl
  | 1, _ => rfl
  | 2, _ => rfl
  | 3, _ => rfl
  | 4, _ => rfl
  | 5, _ => rfl
  | 6, _ => rfl
  | 7, _ => rfl
  | 8, _ => rfl
  | 9, _ => rfl
  | k + 10, h => absurd h (by omega)
theorem uw_10 : ∀ k, k < 20 → u_lay RX11 TX11 k ∈ TT := fun k hk => match k, hk with
  | 0, _ => TT_t (i := 1502) (by decide +kernel) (by decide +kernel)
  | 1, _ => TT_t (i := 1504) (by decide +kernel) (by decide +kernel)
  | 2, _ => TT_t (i := 1506) (by decide +kernel) (by decide +kernel)
  | 3, _ => TT_t (i := 1508) (by decide +kernel) (by decide +kernel)
  | 4, _ => TT_t (i := 1510) (by decide +kernel) (by decide +kernel)
  | 5, _ => TT_t (i := 1512) (by decide +kernel) (by decide +kernel)
  | 6, _ => TT_t (i := 1514) (by decide +kernel) (by decide +kernel)
  | 7, _ => TT_t (i := 1516) (by decide +kernel) (by decide +kernel)
  | 8, _ => TT_t (i := 1518) (by decide +kernel) (by decide +kernel)
  | 9, _ => TT_t (i := 1520) (by decide +kernel) (by decide +kernel)
  | 10, _ => TT_t (i := 1522) (by decide +kernel) (by decide +kernel)
  | 11, _ => TT_t (i := 1524) (by decide +kernel) (by decide +kernel)
  | 12, _ => TT_t (i := 1526) (by decide +kernel) (by decide +kernel)
  | 13, _ => TT_t (i := 1528) (by decide +kernel) (by decide +kernel)
  | 14, _ => TT_t (i := 1530) (by decide +kernel) (by decide +kernel)
  | 15, _ => TT_t (i := 1532) (by decide +kernel) (by decide +kernel)
  | 16, _ => TT_t (i := 1534) (by decide +kernel) (by decide +kernel)
  | 17, _ => TT_t (i := 1536) (by decide +kernel) (by decide +kernel)
  | 18, _ => TT_t (i := 1538) (by decide +kernel) (by decide +kernel)
  | 19, _ => TT_t (i := 1540) (by decide +kernel) (by decide +kernel)
  | k + 20, h => absurd h (by omega)
theorem cf_10 : mzC 10 RX11 TX11 20 tyX11 := ⟨by decide, rfl, mzC_ws uw_10, tyX11_ok, nmX11⟩
theorem nv_10 : ∀ k, k < 20 → defaultValue (tyX11 k) = if mmRf 10 k = true then .null else .int 0 := fun k hk => match k, hk with
  | 0, _ => rfl
  | 1, _ => rfl
  | 2, _ => rfl
  | 3, _ => rfl
  | 4, _ => rfl
  | 5, _ => rfl
  | 6, _ => rfl
  | 7, _ => rfl
  | 8, _ => rfl
  | 9, _ => rfl
  | 10, _ => rfl
  | 11, _ => rfl
  | 12, _ => rfl
  | 13, _ => rfl
  | 14, _ => rfl
  | 15, _ => rfl
  | 16, _ => rfl
  | 17, _ => rfl
  | 18, _ => rfl
  | 19, _ => rfl
  | k + 20, h => absurd h (by omega)
theorem fd_0 : mzF 0 0 0 TJ4 4 true "java/lang/AbstractStringBuilder" "value" "[B" false := ⟨by decide, rfl, rfl, rfl⟩
theorem fd_1 : mzF 1 0 1 TJ4 4 false "java/lang/AbstractStringBuilder" "coder" "B" false := ⟨by decide, rfl, rfl, rfl⟩
theorem fd_2 : mzF 2 0 2 TJ4 4 false "java/lang/AbstractStringBuilder" "maybeLatin1" "Z" false := ⟨by decide, rfl, rfl, rfl⟩
theorem fd_3 : mzF 3 0 3 TJ4 4 false "java/lang/AbstractStringBuilder" "count" "I" false := ⟨by decide, rfl, rfl, rfl⟩
theorem fd_32 : mzF 32 1 0 TX1 3 true "CrowMail$Command" "form" "LCrowMail$Form;" false := ⟨by decide, rfl, rfl, rfl⟩
theorem fd_33 : mzF 33 1 1 TX1 3 false "CrowMail$Command" "first" "I" false := ⟨by decide, rfl, rfl, rfl⟩
theorem fd_34 : mzF 34 1 2 TX1 3 false "CrowMail$Command" "second" "I" false := ⟨by decide, rfl, rfl, rfl⟩
theorem fd_64 : mzF 64 2 0 TX2 3 false "CrowMail$Crow" "flying" "Z" false := ⟨by decide, rfl, rfl, rfl⟩
theorem fd_65 : mzF 65 2 1 TX2 3 false "CrowMail$Crow" "message" "I" false := ⟨by decide, rfl, rfl, rfl⟩
theorem fd_66 : mzF 66 2 2 TX2 3 false "CrowMail$Crow" "landsAt" "I" false := ⟨by decide, rfl, rfl, rfl⟩
theorem fd_96 : mzF 96 3 0 TX4 3 true "CrowMail$History" "ring" "[LCrowMail$State;" true := ⟨by decide, rfl, rfl, rfl⟩
theorem fd_97 : mzF 97 3 1 TX4 3 false "CrowMail$History" "next" "I" false := ⟨by decide, rfl, rfl, rfl⟩
theorem fd_98 : mzF 98 3 2 TX4 3 false "CrowMail$History" "count" "I" false := ⟨by decide, rfl, rfl, rfl⟩
theorem fd_128 : mzF 128 4 0 TX5 6 false "CrowMail$Message" "id" "I" false := ⟨by decide, rfl, rfl, rfl⟩
theorem fd_129 : mzF 129 4 1 TX5 6 false "CrowMail$Message" "nest" "I" false := ⟨by decide, rfl, rfl, rfl⟩
theorem fd_130 : mzF 130 4 2 TX5 6 false "CrowMail$Message" "key" "I" false := ⟨by decide, rfl, rfl, rfl⟩
theorem fd_131 : mzF 131 4 3 TX5 6 false "CrowMail$Message" "attempts" "I" false := ⟨by decide, rfl, rfl, rfl⟩
theorem fd_132 : mzF 132 4 4 TX5 6 false "CrowMail$Message" "status" "C" false := ⟨by decide, rfl, rfl, rfl⟩
theorem fd_133 : mzF 133 4 5 TX5 6 false "CrowMail$Message" "wakesAt" "I" false := ⟨by decide, rfl, rfl, rfl⟩
theorem fd_160 : mzF 160 5 0 TX6 7 true "CrowMail$Nest" "inbox" "[I" true := ⟨by decide, rfl, rfl, rfl⟩
theorem fd_161 : mzF 161 5 1 TX6 7 true "CrowMail$Nest" "keys" "[I" true := ⟨by decide, rfl, rfl, rfl⟩
theorem fd_162 : mzF 162 5 2 TX6 7 false "CrowMail$Nest" "distance" "I" false := ⟨by decide, rfl, rfl, rfl⟩
theorem fd_163 : mzF 163 5 3 TX6 7 false "CrowMail$Nest" "loss" "I" false := ⟨by decide, rfl, rfl, rfl⟩
theorem fd_164 : mzF 164 5 4 TX6 7 false "CrowMail$Nest" "deliveries" "I" false := ⟨by decide, rfl, rfl, rfl⟩
theorem fd_165 : mzF 165 5 5 TX6 7 false "CrowMail$Nest" "inboxSize" "I" false := ⟨by decide, rfl, rfl, rfl⟩
theorem fd_166 : mzF 166 5 6 TX6 7 false "CrowMail$Nest" "keyCount" "I" false := ⟨by decide, rfl, rfl, rfl⟩
theorem fd_192 : mzF 192 6 0 TX7 9 true "CrowMail$Script" "text" "[C" true := ⟨by decide, rfl, rfl, rfl⟩
theorem fd_193 : mzF 193 6 1 TX7 9 true "CrowMail$Script" "commands" "[LCrowMail$Command;" true := ⟨by decide, rfl, rfl, rfl⟩
theorem fd_194 : mzF 194 6 2 TX7 9 false "CrowMail$Script" "length" "I" false := ⟨by decide, rfl, rfl, rfl⟩
theorem fd_195 : mzF 195 6 3 TX7 9 false "CrowMail$Script" "commandCount" "I" false := ⟨by decide, rfl, rfl, rfl⟩
theorem fd_196 : mzF 196 6 4 TX7 9 false "CrowMail$Script" "reached" "I" false := ⟨by decide, rfl, rfl, rfl⟩
theorem fd_197 : mzF 197 6 5 TX7 9 false "CrowMail$Script" "numbersRead" "I" false := ⟨by decide, rfl, rfl, rfl⟩
theorem fd_198 : mzF 198 6 6 TX7 9 false "CrowMail$Script" "firstNumber" "I" false := ⟨by decide, rfl, rfl, rfl⟩
theorem fd_199 : mzF 199 6 7 TX7 9 false "CrowMail$Script" "secondNumber" "I" false := ⟨by decide, rfl, rfl, rfl⟩
theorem fd_200 : mzF 200 6 8 TX7 9 false "CrowMail$Script" "matched" "Z" false := ⟨by decide, rfl, rfl, rfl⟩
theorem fd_224 : mzF 224 7 0 TX8 9 true "CrowMail$State" "nests" "[LCrowMail$Nest;" true := ⟨by decide, rfl, rfl, rfl⟩
theorem fd_225 : mzF 225 7 1 TX8 9 true "CrowMail$State" "crows" "[LCrowMail$Crow;" true := ⟨by decide, rfl, rfl, rfl⟩
theorem fd_226 : mzF 226 7 2 TX8 9 true "CrowMail$State" "messages" "[LCrowMail$Message;" true := ⟨by decide, rfl, rfl, rfl⟩
theorem fd_227 : mzF 227 7 3 TX8 9 true "CrowMail$State" "totals" "LCrowMail$Totals;" true := ⟨by decide, rfl, rfl, rfl⟩
theorem fd_228 : mzF 228 7 4 TX8 9 false "CrowMail$State" "nestCount" "I" false := ⟨by decide, rfl, rfl, rfl⟩
theorem fd_229 : mzF 229 7 5 TX8 9 false "CrowMail$State" "crowCount" "I" false := ⟨by decide, rfl, rfl, rfl⟩
theorem fd_230 : mzF 230 7 6 TX8 9 false "CrowMail$State" "messageCount" "I" false := ⟨by decide, rfl, rfl, rfl⟩
theorem fd_231 : mzF 231 7 7 TX8 9 false "CrowMail$State" "time" "I" false := ⟨by decide, rfl, rfl, rfl⟩
theorem fd_232 : mzF 232 7 8 TX8 9 false "CrowMail$State" "wind" "I" false := ⟨by decide, rfl, rfl, rfl⟩
theorem fd_256 : mzF 256 8 0 TX9 7 false "CrowMail$Totals" "published" "I" false := ⟨by decide, rfl, rfl, rfl⟩
theorem fd_257 : mzF 257 8 1 TX9 7 false "CrowMail$Totals" "delivered" "I" false := ⟨by decide, rfl, rfl, rfl⟩
theorem fd_258 : mzF 258 8 2 TX9 7 false "CrowMail$Totals" "read" "I" false := ⟨by decide, rfl, rfl, rfl⟩
theorem fd_259 : mzF 259 8 3 TX9 7 false "CrowMail$Totals" "duplicates" "I" false := ⟨by decide, rfl, rfl, rfl⟩
theorem fd_260 : mzF 260 8 4 TX9 7 false "CrowMail$Totals" "failed" "I" false := ⟨by decide, rfl, rfl, rfl⟩
theorem fd_261 : mzF 261 8 5 TX9 7 false "CrowMail$Totals" "cancelled" "I" false := ⟨by decide, rfl, rfl, rfl⟩
theorem fd_262 : mzF 262 8 6 TX9 7 false "CrowMail$Totals" "arrivals" "I" false := ⟨by decide, rfl, rfl, rfl⟩
theorem fd_288 : mzF 288 9 0 TX10 10 true "CrowMail" "state" "LCrowMail$State;" true := ⟨by decide, rfl, rfl, rfl⟩
theorem fd_289 : mzF 289 9 1 TX10 10 true "CrowMail" "before" "LCrowMail$State;" true := ⟨by decide, rfl, rfl, rfl⟩
theorem fd_290 : mzF 290 9 2 TX10 10 true "CrowMail" "foreseen" "LCrowMail$State;" true := ⟨by decide, rfl, rfl, rfl⟩
theorem fd_291 : mzF 291 9 3 TX10 10 true "CrowMail" "snapshot" "LCrowMail$State;" true := ⟨by decide, rfl, rfl, rfl⟩
theorem fd_292 : mzF 292 9 4 TX10 10 true "CrowMail" "history" "LCrowMail$History;" true := ⟨by decide, rfl, rfl, rfl⟩
theorem fd_293 : mzF 293 9 5 TX10 10 true "CrowMail" "script" "LCrowMail$Script;" true := ⟨by decide, rfl, rfl, rfl⟩
theorem fd_294 : mzF 294 9 6 TX10 10 true "CrowMail" "output" "Ljava/lang/StringBuilder;" true := ⟨by decide, rfl, rfl, rfl⟩
theorem fd_295 : mzF 295 9 7 TX10 10 false "CrowMail" "hasSnapshot" "Z" false := ⟨by decide, rfl, rfl, rfl⟩
theorem fd_296 : mzF 296 9 8 TX10 10 false "CrowMail" "latestErrorPosition" "I" false := ⟨by decide, rfl, rfl, rfl⟩
theorem fd_297 : mzF 297 9 9 TX10 10 false "CrowMail" "latestFailedCommand" "I" false := ⟨by decide, rfl, rfl, rfl⟩
theorem fd_320 : mzF 320 10 0 TX11 20 false "CrowMailModel" "thrown" "I" false := ⟨by decide, rfl, rfl, rfl⟩
theorem fd_321 : mzF 321 10 1 TX11 20 true "CrowMailModel" "s" "[I" true := ⟨by decide, rfl, rfl, rfl⟩
theorem fd_322 : mzF 322 10 2 TX11 20 true "CrowMailModel" "frame" "[I" true := ⟨by decide, rfl, rfl, rfl⟩
theorem fd_323 : mzF 323 10 3 TX11 20 true "CrowMailModel" "saved" "[I" true := ⟨by decide, rfl, rfl, rfl⟩
theorem fd_324 : mzF 324 10 4 TX11 20 true "CrowMailModel" "history" "[I" true := ⟨by decide, rfl, rfl, rfl⟩
theorem fd_325 : mzF 325 10 5 TX11 20 true "CrowMailModel" "thought" "[I" true := ⟨by decide, rfl, rfl, rfl⟩
theorem fd_326 : mzF 326 10 6 TX11 20 false "CrowMailModel" "kept" "I" false := ⟨by decide, rfl, rfl, rfl⟩
theorem fd_327 : mzF 327 10 7 TX11 20 false "CrowMailModel" "hasSaved" "Z" false := ⟨by decide, rfl, rfl, rfl⟩
theorem fd_328 : mzF 328 10 8 TX11 20 true "CrowMailModel" "text" "[I" true := ⟨by decide, rfl, rfl, rfl⟩
theorem fd_329 : mzF 329 10 9 TX11 20 true "CrowMailModel" "told" "[I" true := ⟨by decide, rfl, rfl, rfl⟩
theorem fd_330 : mzF 330 10 10 TX11 20 true "CrowMailModel" "out" "[I" true := ⟨by decide, rfl, rfl, rfl⟩
theorem fd_331 : mzF 331 10 11 TX11 20 false "CrowMailModel" "fed" "I" false := ⟨by decide, rfl, rfl, rfl⟩
theorem fd_332 : mzF 332 10 12 TX11 20 false "CrowMailModel" "outLength" "I" false := ⟨by decide, rfl, rfl, rfl⟩
theorem fd_333 : mzF 333 10 13 TX11 20 false "CrowMailModel" "faultAt" "I" false := ⟨by decide, rfl, rfl, rfl⟩
theorem fd_334 : mzF 334 10 14 TX11 20 false "CrowMailModel" "failedAt" "I" false := ⟨by decide, rfl, rfl, rfl⟩
theorem fd_335 : mzF 335 10 15 TX11 20 false "CrowMailModel" "answer" "I" false := ⟨by decide, rfl, rfl, rfl⟩
theorem fd_336 : mzF 336 10 16 TX11 20 false "CrowMailModel" "spot" "I" false := ⟨by decide, rfl, rfl, rfl⟩
theorem fd_337 : mzF 337 10 17 TX11 20 false "CrowMailModel" "end" "I" false := ⟨by decide, rfl, rfl, rfl⟩
theorem fd_338 : mzF 338 10 18 TX11 20 false "CrowMailModel" "commands" "I" false := ⟨by decide, rfl, rfl, rfl⟩
theorem fd_339 : mzF 339 10 19 TX11 20 false "CrowMailModel" "isWrong" "Z" false := ⟨by decide, rfl, rfl, rfl⟩
theorem yf_J0_charAt_5068e : mzY yJ0_charAt_5068e cJ0_charAt_5068e 2 (some .char) 1 := ⟨tw_1393, tw_14, ⟨by decide, by decide⟩, by decide +kernel⟩
theorem yf_J0_checkIndex_df160 : mzY yJ0_checkIndex_df160 cJ0_checkIndex_df160 2 none 2 := ⟨tw_824, tw_14, ⟨by decide, by decide⟩, by decide +kernel⟩
theorem yf_J0_coder_7d493 : mzY yJ0_coder_7d493 cJ0_coder_7d493 1 (some .byte) 0 := ⟨tw_558, tw_14, ⟨by decide, by decide⟩, by decide +kernel⟩
theorem yf_J0_isLatin1_aae02 : mzY yJ0_isLatin1_aae02 cJ0_isLatin1_aae02 1 (some .boolean) 0 := ⟨tw_1397, tw_14, ⟨by decide, by decide⟩, by decide +kernel⟩
theorem yf_J0_length_8abf5 : mzY yJ0_length_8abf5 cJ0_length_8abf5 1 (some .int) 0 := ⟨tw_554, tw_14, ⟨by decide, by decide⟩, by decide +kernel⟩
theorem yf_J1_canEncode_fc78d : mzY yJ1_canEncode_fc78d cJ1_canEncode_fc78d 1 (some .boolean) 1 := ⟨tw_815, tw_35, ⟨by decide, by decide⟩, by decide +kernel⟩
theorem yf_J1_charAt_3b067 : mzY yJ1_charAt_3b067 cJ1_charAt_3b067 2 (some .char) 2 := ⟨tw_1400, tw_35, ⟨by decide, by decide⟩, by decide +kernel⟩
theorem yf_J3_checkIndex_8e157 : mzY yJ3_checkIndex_8e157 cJ3_checkIndex_8e157 3 (some .int) 3 := ⟨tw_827, tw_34, ⟨by decide, by decide⟩, by decide +kernel⟩
theorem yf_J4_append_bf812 : mzY yJ4_append_bf812 cJ4_append_bf812 2 (some (.object "java/lang/StringBuilder")) 1 := ⟨tw_597, tw_13, ⟨by decide, by decide⟩, by decide +kernel⟩
theorem yf_J4_append_cf468 : mzY yJ4_append_cf468 cJ4_append_cf468 2 (some (.object "java/lang/StringBuilder")) 1 := ⟨tw_809, tw_13, ⟨by decide, by decide⟩, by decide +kernel⟩
theorem yf_J4_charAt_5068e : mzY yJ4_charAt_5068e cJ4_charAt_5068e 2 (some .char) 1 := ⟨tw_1348, tw_13, ⟨by decide, by decide⟩, by decide +kernel⟩
theorem yf_J4_init_da8c8 : mzY yJ4_init_da8c8 cJ4_init_da8c8 1 none 0 := ⟨tw_318, tw_13, ⟨by decide, by decide⟩, by decide +kernel⟩
theorem yf_J4_length_8abf5 : mzY yJ4_length_8abf5 cJ4_length_8abf5 1 (some .int) 0 := ⟨tw_642, tw_13, ⟨by decide, by decide⟩, by decide +kernel⟩
theorem yf_J4_setLength_d00df : mzY yJ4_setLength_d00df cJ4_setLength_d00df 2 none 1 := ⟨tw_462, tw_13, ⟨by decide, by decide⟩, by decide +kernel⟩
theorem yf_J5_append_3fe6f : mzY yJ5_append_3fe6f cJ5_append_3fe6f 2 (some (.object "java/lang/AbstractStringBuilder")) 1 := ⟨tw_812, tw_12, ⟨by decide, by decide⟩, by decide +kernel⟩
theorem yf_J5_append_c97b9 : mzY yJ5_append_c97b9 cJ5_append_c97b9 4 (some (.object "java/lang/AbstractStringBuilder")) 1 := ⟨tw_600, tw_12, ⟨by decide, by decide⟩, by decide +kernel⟩
theorem yf_J5_charAt_5068e : mzY yJ5_charAt_5068e cJ5_charAt_5068e 5 (some .char) 1 := ⟨tw_1351, tw_12, ⟨by decide, by decide⟩, by decide +kernel⟩
theorem yf_J5_ensureCapacityInternal_d00df : mzY yJ5_ensureCapacityInternal_d00df cJ5_ensureCapacityInternal_d00df 3 none 1 := ⟨tw_488, tw_12, ⟨by decide, by decide⟩, by decide +kernel⟩
theorem yf_J5_init_d00df : mzY yJ5_init_d00df cJ5_init_d00df 2 none 1 := ⟨tw_321, tw_12, ⟨by decide, by decide⟩, by decide +kernel⟩
theorem yf_J5_isLatin1_aae02 : mzY yJ5_isLatin1_aae02 cJ5_isLatin1_aae02 1 (some .boolean) 0 := ⟨tw_524, tw_12, ⟨by decide, by decide⟩, by decide +kernel⟩
theorem yf_J5_length_8abf5 : mzY yJ5_length_8abf5 cJ5_length_8abf5 1 (some .int) 0 := ⟨tw_644, tw_12, ⟨by decide, by decide⟩, by decide +kernel⟩
theorem yf_J5_setLength_d00df : mzY yJ5_setLength_d00df cJ5_setLength_d00df 2 none 1 := ⟨tw_465, tw_12, ⟨by decide, by decide⟩, by decide +kernel⟩
theorem yf_J6_getChars_ba4f3 : mzY yJ6_getChars_ba4f3 cJ6_getChars_ba4f3 7 (some .int) 3 := ⟨tw_606, tw_36, ⟨by decide, by decide⟩, by decide +kernel⟩
theorem yf_J6_stringSize_0f7a4 : mzY yJ6_stringSize_0f7a4 cJ6_stringSize_0f7a4 4 (some .int) 1 := ⟨tw_603, tw_36, ⟨by decide, by decide⟩, by decide +kernel⟩
theorem yf_Jx29ce0_ordinal_8abf5 : mzY yJx29ce0_ordinal_8abf5 cJx29ce0_ordinal_8abf5 1 (some .int) 0 := ⟨tw_1430, tw_10, ⟨by decide, by decide⟩, by decide +kernel⟩
theorem yf_Jxe99ae_doubleToLongBits_ccdee : mzY yJxe99ae_doubleToLongBits_ccdee cJxe99ae_doubleToLongBits_ccdee 2 (some .long) 1 := ⟨tw_1853, tw_28, ⟨by decide, by decide⟩, by decide +kernel⟩
theorem yf_Jxe99ae_isNaN_b9ae7 : mzY yJxe99ae_isNaN_b9ae7 cJxe99ae_isNaN_b9ae7 2 (some .boolean) 1 := ⟨tw_1856, tw_28, ⟨by decide, by decide⟩, by decide +kernel⟩
theorem yf_Jxf58ca_floatToIntBits_5c35a : mzY yJxf58ca_floatToIntBits_5c35a cJxf58ca_floatToIntBits_5c35a 1 (some .int) 1 := ⟨tw_1875, tw_29, ⟨by decide, by decide⟩, by decide +kernel⟩
theorem yf_Jxf58ca_isNaN_12338 : mzY yJxf58ca_isNaN_12338 cJxf58ca_isNaN_12338 1 (some .boolean) 1 := ⟨tw_1878, tw_29, ⟨by decide, by decide⟩, by decide +kernel⟩
theorem yh_L_addCrow : mzYH yL_addCrow cL_addCrow 3 (some .int) [(0, 8, 11, 15)] 2 := ⟨tw_930, tw_0, ⟨by decide, by decide⟩, by decide +kernel⟩
theorem yh_L_addNest : mzYH yL_addNest cL_addNest 5 (some .int) [(0, 10, 13, 13), (0, 10, 17, 15)] 4 := ⟨tw_856, tw_0, ⟨by decide, by decide⟩, by decide +kernel⟩
theorem yh_L_advance : mzYH yL_advance cL_advance 4 (some .int) [(0, 9, 12, 13)] 3 := ⟨tw_1024, tw_0, ⟨by decide, by decide⟩, by decide +kernel⟩
theorem yh_L_attempts : mzYH yL_attempts cL_attempts 4 (some .int) [(0, 9, 12, 30)] 3 := ⟨tw_1203, tw_0, ⟨by decide, by decide⟩, by decide +kernel⟩
theorem yh_L_cancel : mzYH yL_cancel cL_cancel 4 (some .int) [(0, 9, 12, 30), (0, 9, 15, 15)] 3 := ⟨tw_987, tw_0, ⟨by decide, by decide⟩, by decide +kernel⟩
theorem yh_L_carriedMessage : mzYH yL_carriedMessage cL_carriedMessage 4 (some .int) [(0, 9, 12, 24), (0, 9, 15, 30)] 3 := ⟨tw_1162, tw_0, ⟨by decide, by decide⟩, by decide +kernel⟩
theorem yh_L_deliveryRate : mzYH yL_deliveryRate cL_deliveryRate 3 (some .int) [(0, 8, 11, 115)] 2 := ⟨tw_1313, tw_0, ⟨by decide, by decide⟩, by decide +kernel⟩
theorem yh_L_deliveryRateBits : mzYH yL_deliveryRateBits cL_deliveryRateBits 3 (some .int) [(0, 8, 11, 115)] 2 := ⟨tw_1325, tw_0, ⟨by decide, by decide⟩, by decide +kernel⟩
theorem yh_L_distance : mzYH yL_distance cL_distance 4 (some .int) [(0, 9, 12, 24)] 3 := ⟨tw_1081, tw_0, ⟨by decide, by decide⟩, by decide +kernel⟩
theorem yh_L_errorPosition : mzYH yL_errorPosition cL_errorPosition 3 (some .int) [(0, 8, 11, 30)] 2 := ⟨tw_1442, tw_0, ⟨by decide, by decide⟩, by decide +kernel⟩
theorem yh_L_failedCommand : mzYH yL_failedCommand cL_failedCommand 3 (some .int) [(0, 8, 11, 30)] 2 := ⟨tw_1450, tw_0, ⟨by decide, by decide⟩, by decide +kernel⟩
theorem yh_L_flightMinutes : mzYH yL_flightMinutes cL_flightMinutes 4 (some .int) [(0, 9, 12, 24)] 3 := ⟨tw_1170, tw_0, ⟨by decide, by decide⟩, by decide +kernel⟩
theorem yh_L_forget : mzYH yL_forget cL_forget 4 (some .int) [(0, 9, 12, 24)] 3 := ⟨tw_1013, tw_0, ⟨by decide, by decide⟩, by decide +kernel⟩
theorem yh_L_inboxMessage : mzYH yL_inboxMessage cL_inboxMessage 5 (some .int) [(0, 10, 13, 24), (0, 10, 17, 30)] 4 := ⟨tw_1107, tw_0, ⟨by decide, by decide⟩, by decide +kernel⟩
theorem yh_L_inboxSize : mzYH yL_inboxSize cL_inboxSize 4 (some .int) [(0, 9, 12, 24)] 3 := ⟨tw_1100, tw_0, ⟨by decide, by decide⟩, by decide +kernel⟩
theorem yh_L_isFlying : mzYH yL_isFlying cL_isFlying 4 (some .int) [(0, 16, 19, 24)] 3 := ⟨tw_1146, tw_0, ⟨by decide, by decide⟩, by decide +kernel⟩
theorem yh_L_keyOf : mzYH yL_keyOf cL_keyOf 4 (some .int) [(0, 9, 12, 30)] 3 := ⟨tw_1196, tw_0, ⟨by decide, by decide⟩, by decide +kernel⟩
theorem yh_L_loss : mzYH yL_loss cL_loss 4 (some .int) [(0, 9, 12, 24)] 3 := ⟨tw_1093, tw_0, ⟨by decide, by decide⟩, by decide +kernel⟩
theorem yh_L_meanAttempts : mzYH yL_meanAttempts cL_meanAttempts 3 (some .int) [(0, 7, 10, 115)] 2 := ⟨tw_1270, tw_0, ⟨by decide, by decide⟩, by decide +kernel⟩
theorem yh_L_meanAttemptsBits : mzYH yL_meanAttemptsBits cL_meanAttemptsBits 3 (some .int) [(0, 7, 10, 115)] 2 := ⟨tw_1302, tw_0, ⟨by decide, by decide⟩, by decide +kernel⟩
theorem yh_L_messageAt : mzYH yL_messageAt cL_messageAt 4 (some .int) [(0, 9, 12, 30)] 3 := ⟨tw_1177, tw_0, ⟨by decide, by decide⟩, by decide +kernel⟩
theorem yh_L_minutesUntilDelivered : mzYH yL_minutesUntilDelivered cL_minutesUntilDelivered 4 (some .int) [(0, 9, 12, 30), (0, 9, 15, 15)] 3 := ⟨tw_1257, tw_0, ⟨by decide, by decide⟩, by decide +kernel⟩
theorem yh_L_napLength : mzYH yL_napLength cL_napLength 4 (some .int) [(0, 8, 11, 13)] 3 := ⟨tw_1242, tw_0, ⟨by decide, by decide⟩, by decide +kernel⟩
theorem yh_L_napLengthByDoubling : mzYH yL_napLengthByDoubling cL_napLengthByDoubling 4 (some .int) [(0, 8, 11, 13)] 3 := ⟨tw_1250, tw_0, ⟨by decide, by decide⟩, by decide +kernel⟩
theorem yh_L_napMinutes : mzYH yL_napMinutes cL_napMinutes 4 (some .int) [(0, 9, 12, 30), (0, 9, 15, 15)] 3 := ⟨tw_1217, tw_0, ⟨by decide, by decide⟩, by decide +kernel⟩
theorem yh_L_nestByDeliveries : mzYH yL_nestByDeliveries cL_nestByDeliveries 4 (some .int) [(0, 9, 12, 30)] 3 := ⟨tw_1130, tw_0, ⟨by decide, by decide⟩, by decide +kernel⟩
theorem yh_L_nestOf : mzYH yL_nestOf cL_nestOf 4 (some .int) [(0, 9, 12, 30)] 3 := ⟨tw_1184, tw_0, ⟨by decide, by decide⟩, by decide +kernel⟩
theorem yh_L_outputAt : mzYH yL_outputAt cL_outputAt 4 (some .int) [(0, 9, 12, 24)] 3 := ⟨tw_1339, tw_0, ⟨by decide, by decide⟩, by decide +kernel⟩
theorem yh_L_publish : mzYH yL_publish cL_publish 5 (some .int) [(0, 10, 13, 24), (0, 10, 17, 13), (0, 10, 21, 15)] 4 := ⟨tw_941, tw_0, ⟨by decide, by decide⟩, by decide +kernel⟩
theorem yh_L_read : mzYH yL_read cL_read 4 (some .int) [(0, 9, 12, 24), (0, 9, 15, 30)] 3 := ⟨tw_963, tw_0, ⟨by decide, by decide⟩, by decide +kernel⟩
theorem yh_L_rememberedCount : mzYH yL_rememberedCount cL_rememberedCount 4 (some .int) [(0, 9, 12, 24)] 3 := ⟨tw_1123, tw_0, ⟨by decide, by decide⟩, by decide +kernel⟩
theorem yh_L_remembers : mzYH yL_remembers cL_remembers 5 (some .int) [(0, 17, 20, 24)] 4 := ⟨tw_1115, tw_0, ⟨by decide, by decide⟩, by decide +kernel⟩
theorem yh_L_renderMessage : mzYH yL_renderMessage cL_renderMessage 4 (some .int) [(0, 9, 12, 30)] 3 := ⟨tw_1332, tw_0, ⟨by decide, by decide⟩, by decide +kernel⟩
theorem yh_L_restore : mzYH yL_restore cL_restore 3 (some .int) [(0, 8, 11, 15)] 2 := ⟨tw_1470, tw_0, ⟨by decide, by decide⟩, by decide +kernel⟩
theorem yh_L_runScript : mzYH yL_runScript cL_runScript 3 (some .int) [(0, 8, 11, 13), (0, 8, 14, 15)] 2 := ⟨tw_1370, tw_0, ⟨by decide, by decide⟩, by decide +kernel⟩
theorem yh_L_setWind : mzYH yL_setWind cL_setWind 4 (some .int) [(0, 9, 12, 13)] 3 := ⟨tw_1002, tw_0, ⟨by decide, by decide⟩, by decide +kernel⟩
theorem yh_L_status : mzYH yL_status cL_status 4 (some .int) [(0, 9, 12, 30)] 3 := ⟨tw_1210, tw_0, ⟨by decide, by decide⟩, by decide +kernel⟩
theorem yh_L_type : mzYH yL_type cL_type 4 (some .int) [(0, 9, 12, 13), (0, 9, 15, 15)] 3 := ⟨tw_1357, tw_0, ⟨by decide, by decide⟩, by decide +kernel⟩
theorem yh_L_undo : mzYH yL_undo cL_undo 3 (some .int) [(0, 8, 11, 30)] 2 := ⟨tw_1458, tw_0, ⟨by decide, by decide⟩, by decide +kernel⟩
theorem yh_L_waitingMessage : mzYH yL_waitingMessage cL_waitingMessage 4 (some .int) [(0, 9, 12, 30)] 3 := ⟨tw_1225, tw_0, ⟨by decide, by decide⟩, by decide +kernel⟩
theorem yh_L_wouldBeLost : mzYH yL_wouldBeLost cL_wouldBeLost 4 (some .int) [(0, 16, 19, 30), (0, 16, 22, 15)] 3 := ⟨tw_1233, tw_0, ⟨by decide, by decide⟩, by decide +kernel⟩
theorem yf_X10_addCrow : mzY yX10_addCrow cX10_addCrow 1 (some .int) 0 := ⟨tw_934, tw_1, ⟨by decide, by decide⟩, by decide +kernel⟩
theorem yf_X10_addNest : mzY yX10_addNest cX10_addNest 3 (some .int) 2 := ⟨tw_862, tw_1, ⟨by decide, by decide⟩, by decide +kernel⟩
theorem yf_X10_advance : mzY yX10_advance cX10_advance 2 (some .int) 1 := ⟨tw_1028, tw_1, ⟨by decide, by decide⟩, by decide +kernel⟩
theorem yf_X10_arrivalTotal : mzY yX10_arrivalTotal cX10_arrivalTotal 1 (some .int) 0 := ⟨tw_421, tw_1, ⟨by decide, by decide⟩, by decide +kernel⟩
theorem yf_X10_attempts : mzY yX10_attempts cX10_attempts 2 (some .int) 1 := ⟨tw_1207, tw_1, ⟨by decide, by decide⟩, by decide +kernel⟩
theorem yf_X10_bitsOf : mzY yX10_bitsOf cX10_bitsOf 9 (some .long) 3 := ⟨tw_1309, tw_1, ⟨by decide, by decide⟩, by decide +kernel⟩
theorem yf_X10_cancel : mzY yX10_cancel cX10_cancel 2 (some .int) 1 := ⟨tw_991, tw_1, ⟨by decide, by decide⟩, by decide +kernel⟩
theorem yf_X10_carriedMessage : mzY yX10_carriedMessage cX10_carriedMessage 3 (some .int) 1 := ⟨tw_1166, tw_1, ⟨by decide, by decide⟩, by decide +kernel⟩
theorem yf_X10_crowCount : mzY yX10_crowCount cX10_crowCount 1 (some .int) 0 := ⟨tw_385, tw_1, ⟨by decide, by decide⟩, by decide +kernel⟩
theorem yf_X10_deliveredTotal : mzY yX10_deliveredTotal cX10_deliveredTotal 1 (some .int) 0 := ⟨tw_405, tw_1, ⟨by decide, by decide⟩, by decide +kernel⟩
theorem yf_X10_deliveryRate : mzY yX10_deliveryRate cX10_deliveryRate 1 (some .float) 0 := ⟨tw_1317, tw_1, ⟨by decide, by decide⟩, by decide +kernel⟩
theorem yf_X10_deliveryRateBits : mzY yX10_deliveryRateBits cX10_deliveryRateBits 1 (some .int) 0 := ⟨tw_1329, tw_1, ⟨by decide, by decide⟩, by decide +kernel⟩
theorem yf_X10_distance : mzY yX10_distance cX10_distance 2 (some .int) 1 := ⟨tw_1085, tw_1, ⟨by decide, by decide⟩, by decide +kernel⟩
theorem yf_X10_doubledNap : mzY yX10_doubledNap cX10_doubledNap 4 (some .long) 1 := ⟨tw_442, tw_1, ⟨by decide, by decide⟩, by decide +kernel⟩
theorem yf_X10_duplicateTotal : mzY yX10_duplicateTotal cX10_duplicateTotal 1 (some .int) 0 := ⟨tw_413, tw_1, ⟨by decide, by decide⟩, by decide +kernel⟩
theorem yf_X10_errorPosition : mzY yX10_errorPosition cX10_errorPosition 1 (some .int) 0 := ⟨tw_1446, tw_1, ⟨by decide, by decide⟩, by decide +kernel⟩
theorem yf_X10_existingCrow : mzY yX10_existingCrow cX10_existingCrow 3 (some (.object "CrowMail$Crow")) 1 := ⟨tw_1154, tw_1, ⟨by decide, by decide⟩, by decide +kernel⟩
theorem yf_X10_existingMessage : mzY yX10_existingMessage cX10_existingMessage 3 (some (.object "CrowMail$Message")) 1 := ⟨tw_1192, tw_1, ⟨by decide, by decide⟩, by decide +kernel⟩
theorem yf_X10_existingNest : mzY yX10_existingNest cX10_existingNest 3 (some (.object "CrowMail$Nest")) 1 := ⟨tw_1089, tw_1, ⟨by decide, by decide⟩, by decide +kernel⟩
theorem yf_X10_failedCommand : mzY yX10_failedCommand cX10_failedCommand 1 (some .int) 0 := ⟨tw_1454, tw_1, ⟨by decide, by decide⟩, by decide +kernel⟩
theorem yf_X10_failedTotal : mzY yX10_failedTotal cX10_failedTotal 1 (some .int) 0 := ⟨tw_417, tw_1, ⟨by decide, by decide⟩, by decide +kernel⟩
theorem yf_X10_flightMinutes : mzY yX10_flightMinutes cX10_flightMinutes 3 (some .int) 1 := ⟨tw_1174, tw_1, ⟨by decide, by decide⟩, by decide +kernel⟩
theorem yf_X10_foreseenMinutes : mzY yX10_foreseenMinutes cX10_foreseenMinutes 4 (some .int) 1 := ⟨tw_1266, tw_1, ⟨by decide, by decide⟩, by decide +kernel⟩
theorem yf_X10_forget : mzY yX10_forget cX10_forget 2 (some .int) 1 := ⟨tw_1017, tw_1, ⟨by decide, by decide⟩, by decide +kernel⟩
theorem yf_X10_inboxMessage : mzY yX10_inboxMessage cX10_inboxMessage 4 (some .int) 2 := ⟨tw_1111, tw_1, ⟨by decide, by decide⟩, by decide +kernel⟩
theorem yf_X10_inboxSize : mzY yX10_inboxSize cX10_inboxSize 2 (some .int) 1 := ⟨tw_1104, tw_1, ⟨by decide, by decide⟩, by decide +kernel⟩
theorem yf_X10_init : mzY yX10_init cX10_init 1 none 0 := ⟨tw_42, tw_1, ⟨by decide, by decide⟩, by decide +kernel⟩
theorem yf_X10_isConsistent : mzY yX10_isConsistent cX10_isConsistent 1 (some .boolean) 0 := ⟨tw_433, tw_1, ⟨by decide, by decide⟩, by decide +kernel⟩
theorem yf_X10_isFlying : mzY yX10_isFlying cX10_isFlying 2 (some .boolean) 1 := ⟨tw_1150, tw_1, ⟨by decide, by decide⟩, by decide +kernel⟩
theorem yf_X10_keyOf : mzY yX10_keyOf cX10_keyOf 2 (some .int) 1 := ⟨tw_1200, tw_1, ⟨by decide, by decide⟩, by decide +kernel⟩
theorem yf_X10_loss : mzY yX10_loss cX10_loss 2 (some .int) 1 := ⟨tw_1097, tw_1, ⟨by decide, by decide⟩, by decide +kernel⟩
theorem yf_X10_meanAttempts : mzY yX10_meanAttempts cX10_meanAttempts 1 (some .double) 0 := ⟨tw_1288, tw_1, ⟨by decide, by decide⟩, by decide +kernel⟩
theorem yf_X10_meanAttemptsBits : mzY yX10_meanAttemptsBits cX10_meanAttemptsBits 1 (some .long) 0 := ⟨tw_1306, tw_1, ⟨by decide, by decide⟩, by decide +kernel⟩
theorem yf_X10_meanOfAttempts : mzY yX10_meanOfAttempts cX10_meanOfAttempts 1 (some .double) 0 := ⟨tw_1295, tw_1, ⟨by decide, by decide⟩, by decide +kernel⟩
theorem yf_X10_messageAt : mzY yX10_messageAt cX10_messageAt 2 (some .int) 1 := ⟨tw_1181, tw_1, ⟨by decide, by decide⟩, by decide +kernel⟩
theorem yf_X10_messageCount : mzY yX10_messageCount cX10_messageCount 1 (some .int) 0 := ⟨tw_389, tw_1, ⟨by decide, by decide⟩, by decide +kernel⟩
theorem yf_X10_messageCountByTotals : mzY yX10_messageCountByTotals cX10_messageCountByTotals 1 (some .int) 0 := ⟨tw_425, tw_1, ⟨by decide, by decide⟩, by decide +kernel⟩
theorem yf_X10_minutesUntilDelivered : mzY yX10_minutesUntilDelivered cX10_minutesUntilDelivered 3 (some .int) 1 := ⟨tw_1261, tw_1, ⟨by decide, by decide⟩, by decide +kernel⟩
theorem yf_X10_napLength : mzY yX10_napLength cX10_napLength 2 (some .long) 1 := ⟨tw_1246, tw_1, ⟨by decide, by decide⟩, by decide +kernel⟩
theorem yf_X10_napLengthByDoubling : mzY yX10_napLengthByDoubling cX10_napLengthByDoubling 2 (some .long) 1 := ⟨tw_1254, tw_1, ⟨by decide, by decide⟩, by decide +kernel⟩
theorem yf_X10_napLengthsAgree : mzY yX10_napLengthsAgree cX10_napLengthsAgree 1 (some .boolean) 0 := ⟨tw_436, tw_1, ⟨by decide, by decide⟩, by decide +kernel⟩
theorem yf_X10_napMinutes : mzY yX10_napMinutes cX10_napMinutes 3 (some .int) 1 := ⟨tw_1221, tw_1, ⟨by decide, by decide⟩, by decide +kernel⟩
theorem yf_X10_nestByDeliveries : mzY yX10_nestByDeliveries cX10_nestByDeliveries 3 (some .int) 1 := ⟨tw_1134, tw_1, ⟨by decide, by decide⟩, by decide +kernel⟩
theorem yf_X10_nestCount : mzY yX10_nestCount cX10_nestCount 1 (some .int) 0 := ⟨tw_381, tw_1, ⟨by decide, by decide⟩, by decide +kernel⟩
theorem yf_X10_nestOf : mzY yX10_nestOf cX10_nestOf 2 (some .int) 1 := ⟨tw_1188, tw_1, ⟨by decide, by decide⟩, by decide +kernel⟩
theorem yf_X10_outputAt : mzY yX10_outputAt cX10_outputAt 2 (some .char) 1 := ⟨tw_1343, tw_1, ⟨by decide, by decide⟩, by decide +kernel⟩
theorem yf_X10_publish : mzY yX10_publish cX10_publish 3 (some .int) 2 := ⟨tw_948, tw_1, ⟨by decide, by decide⟩, by decide +kernel⟩
theorem yf_X10_publishedTotal : mzY yX10_publishedTotal cX10_publishedTotal 1 (some .int) 0 := ⟨tw_401, tw_1, ⟨by decide, by decide⟩, by decide +kernel⟩
theorem yf_X10_rateOfDeliveries : mzY yX10_rateOfDeliveries cX10_rateOfDeliveries 1 (some .float) 0 := ⟨tw_1322, tw_1, ⟨by decide, by decide⟩, by decide +kernel⟩
theorem yf_X10_read : mzY yX10_read cX10_read 2 (some .int) 1 := ⟨tw_968, tw_1, ⟨by decide, by decide⟩, by decide +kernel⟩
theorem yf_X10_readTotal : mzY yX10_readTotal cX10_readTotal 1 (some .int) 0 := ⟨tw_409, tw_1, ⟨by decide, by decide⟩, by decide +kernel⟩
theorem yf_X10_rememberedCount : mzY yX10_rememberedCount cX10_rememberedCount 2 (some .int) 1 := ⟨tw_1127, tw_1, ⟨by decide, by decide⟩, by decide +kernel⟩
theorem yf_X10_remembers : mzY yX10_remembers cX10_remembers 3 (some .boolean) 2 := ⟨tw_1119, tw_1, ⟨by decide, by decide⟩, by decide +kernel⟩
theorem yf_X10_renderCrows : mzY yX10_renderCrows cX10_renderCrows 3 (some .int) 0 := ⟨tw_458, tw_1, ⟨by decide, by decide⟩, by decide +kernel⟩
theorem yf_X10_renderMessage : mzY yX10_renderMessage cX10_renderMessage 3 (some .int) 1 := ⟨tw_1336, tw_1, ⟨by decide, by decide⟩, by decide +kernel⟩
theorem yf_X10_restore : mzY yX10_restore cX10_restore 1 (some .int) 0 := ⟨tw_1474, tw_1, ⟨by decide, by decide⟩, by decide +kernel⟩
theorem yf_X10_runScript : mzY yX10_runScript cX10_runScript 3 (some .int) 0 := ⟨tw_1374, tw_1, ⟨by decide, by decide⟩, by decide +kernel⟩
theorem yf_X10_save : mzY yX10_save cX10_save 1 (some .int) 0 := ⟨tw_832, tw_1, ⟨by decide, by decide⟩, by decide +kernel⟩
theorem yf_X10_setWind : mzY yX10_setWind cX10_setWind 2 (some .int) 1 := ⟨tw_1006, tw_1, ⟨by decide, by decide⟩, by decide +kernel⟩
theorem yf_X10_settle : mzY yX10_settle cX10_settle 2 (some .int) 1 := ⟨tw_874, tw_1, ⟨by decide, by decide⟩, by decide +kernel⟩
theorem yf_X10_shiftedNap : mzY yX10_shiftedNap cX10_shiftedNap 1 (some .long) 1 := ⟨tw_439, tw_1, ⟨by decide, by decide⟩, by decide +kernel⟩
theorem yf_X10_status : mzY yX10_status cX10_status 2 (some .char) 1 := ⟨tw_1214, tw_1, ⟨by decide, by decide⟩, by decide +kernel⟩
theorem yf_X10_time : mzY yX10_time cX10_time 1 (some .int) 0 := ⟨tw_393, tw_1, ⟨by decide, by decide⟩, by decide +kernel⟩
theorem yf_X10_type : mzY yX10_type cX10_type 2 (some .int) 1 := ⟨tw_1361, tw_1, ⟨by decide, by decide⟩, by decide +kernel⟩
theorem yf_X10_undo : mzY yX10_undo cX10_undo 1 (some .int) 0 := ⟨tw_1462, tw_1, ⟨by decide, by decide⟩, by decide +kernel⟩
theorem yf_X10_waitingMessage : mzY yX10_waitingMessage cX10_waitingMessage 3 (some .int) 1 := ⟨tw_1229, tw_1, ⟨by decide, by decide⟩, by decide +kernel⟩
theorem yf_X10_wind : mzY yX10_wind cX10_wind 1 (some .int) 0 := ⟨tw_397, tw_1, ⟨by decide, by decide⟩, by decide +kernel⟩
theorem yf_X10_wouldBeLost : mzY yX10_wouldBeLost cX10_wouldBeLost 3 (some .boolean) 1 := ⟨tw_1237, tw_1, ⟨by decide, by decide⟩, by decide +kernel⟩
theorem yf_X11_addCrow : mzY yX11_addCrow cX11_addCrow 1 (some .int) 0 := ⟨tw_1585, tw_16, ⟨by decide, by decide⟩, by decide +kernel⟩
theorem yf_X11_addNest : mzY yX11_addNest cX11_addNest 3 (some .int) 2 := ⟨tw_1550, tw_16, ⟨by decide, by decide⟩, by decide +kernel⟩
theorem yf_X11_advance : mzY yX11_advance cX11_advance 2 (some .int) 1 := ⟨tw_1657, tw_16, ⟨by decide, by decide⟩, by decide +kernel⟩
theorem yf_X11_arrivalTotal : mzY yX11_arrivalTotal cX11_arrivalTotal 1 (some .int) 0 := ⟨tw_1834, tw_16, ⟨by decide, by decide⟩, by decide +kernel⟩
theorem yf_X11_arrives : mzY yX11_arrives cX11_arrives 6 none 1 := ⟨tw_1669, tw_16, ⟨by decide, by decide⟩, by decide +kernel⟩
theorem yf_X11_asked : mzY yX11_asked cX11_asked 4 (some .int) 2 := ⟨tw_1761, tw_16, ⟨by decide, by decide⟩, by decide +kernel⟩
theorem yf_X11_askedNest : mzY yX11_askedNest cX11_askedNest 3 (some .int) 2 := ⟨tw_1697, tw_16, ⟨by decide, by decide⟩, by decide +kernel⟩
theorem yf_X11_attempts : mzY yX11_attempts cX11_attempts 2 (some .int) 1 := ⟨tw_1769, tw_16, ⟨by decide, by decide⟩, by decide +kernel⟩
theorem yf_X11_blows : mzY yX11_blows cX11_blows 3 (some .int) 1 := ⟨tw_1645, tw_16, ⟨by decide, by decide⟩, by decide +kernel⟩
theorem yf_X11_builds : mzY yX11_builds cX11_builds 5 (some .int) 2 := ⟨tw_1558, tw_16, ⟨by decide, by decide⟩, by decide +kernel⟩
theorem yf_X11_cancel : mzY yX11_cancel cX11_cancel 2 (some .int) 1 := ⟨tw_1633, tw_16, ⟨by decide, by decide⟩, by decide +kernel⟩
theorem yf_X11_cancels : mzY yX11_cancels cX11_cancels 3 (some .int) 1 := ⟨tw_1637, tw_16, ⟨by decide, by decide⟩, by decide +kernel⟩
theorem yf_X11_carriedMessage : mzY yX11_carriedMessage cX11_carriedMessage 2 (some .int) 1 := ⟨tw_1741, tw_16, ⟨by decide, by decide⟩, by decide +kernel⟩
theorem yf_X11_ceases : mzY yX11_ceases cX11_ceases 4 none 1 := ⟨tw_1629, tw_16, ⟨by decide, by decide⟩, by decide +kernel⟩
theorem yf_X11_changed : mzY yX11_changed cX11_changed 3 (some .int) 1 := ⟨tw_1577, tw_16, ⟨by decide, by decide⟩, by decide +kernel⟩
theorem yf_X11_crowCount : mzY yX11_crowCount cX11_crowCount 1 (some .int) 0 := ⟨tw_1729, tw_16, ⟨by decide, by decide⟩, by decide +kernel⟩
theorem yf_X11_deliveredTotal : mzY yX11_deliveredTotal cX11_deliveredTotal 1 (some .int) 0 := ⟨tw_1818, tw_16, ⟨by decide, by decide⟩, by decide +kernel⟩
theorem yf_X11_deliveryRate : mzY yX11_deliveryRate cX11_deliveryRate 1 (some .float) 0 := ⟨tw_1864, tw_16, ⟨by decide, by decide⟩, by decide +kernel⟩
theorem yf_X11_deliveryRateBits : mzY yX11_deliveryRateBits cX11_deliveryRateBits 1 (some .int) 0 := ⟨tw_1872, tw_16, ⟨by decide, by decide⟩, by decide +kernel⟩
theorem yf_X11_distance : mzY yX11_distance cX11_distance 2 (some .int) 1 := ⟨tw_1693, tw_16, ⟨by decide, by decide⟩, by decide +kernel⟩
theorem yf_X11_does : mzY yX11_does cX11_does 4 (some .int) 1 := ⟨tw_1949, tw_16, ⟨by decide, by decide⟩, by decide +kernel⟩
theorem yf_X11_done : mzY yX11_done cX11_done 2 (some .int) 1 := ⟨tw_1569, tw_16, ⟨by decide, by decide⟩, by decide +kernel⟩
theorem yf_X11_duplicateTotal : mzY yX11_duplicateTotal cX11_duplicateTotal 1 (some .int) 0 := ⟨tw_1826, tw_16, ⟨by decide, by decide⟩, by decide +kernel⟩
theorem yf_X11_ends : mzY yX11_ends cX11_ends 2 (some .int) 1 := ⟨tw_1573, tw_16, ⟨by decide, by decide⟩, by decide +kernel⟩
theorem yf_X11_errorPosition : mzY yX11_errorPosition cX11_errorPosition 1 (some .int) 0 := ⟨tw_1953, tw_16, ⟨by decide, by decide⟩, by decide +kernel⟩
theorem yf_X11_failedCommand : mzY yX11_failedCommand cX11_failedCommand 1 (some .int) 0 := ⟨tw_1957, tw_16, ⟨by decide, by decide⟩, by decide +kernel⟩
theorem yf_X11_failedTotal : mzY yX11_failedTotal cX11_failedTotal 1 (some .int) 0 := ⟨tw_1830, tw_16, ⟨by decide, by decide⟩, by decide +kernel⟩
theorem yf_X11_fails : mzY yX11_fails cX11_fails 2 (some .int) 1 := ⟨tw_1581, tw_16, ⟨by decide, by decide⟩, by decide +kernel⟩
theorem yf_X11_flightMinutes : mzY yX11_flightMinutes cX11_flightMinutes 2 (some .int) 1 := ⟨tw_1745, tw_16, ⟨by decide, by decide⟩, by decide +kernel⟩
theorem yf_X11_forget : mzY yX11_forget cX11_forget 2 (some .int) 1 := ⟨tw_1649, tw_16, ⟨by decide, by decide⟩, by decide +kernel⟩
theorem yf_X11_forgets : mzY yX11_forgets cX11_forgets 4 (some .int) 1 := ⟨tw_1653, tw_16, ⟨by decide, by decide⟩, by decide +kernel⟩
theorem yf_X11_here : mzY yX11_here cX11_here 2 (some .int) 1 := ⟨tw_1922, tw_16, ⟨by decide, by decide⟩, by decide +kernel⟩
theorem yf_X11_hires : mzY yX11_hires cX11_hires 2 (some .int) 0 := ⟨tw_1589, tw_16, ⟨by decide, by decide⟩, by decide +kernel⟩
theorem yf_X11_in : mzY yX11_in cX11_in 3 (some .boolean) 3 := ⟨tw_1561, tw_16, ⟨by decide, by decide⟩, by decide +kernel⟩
theorem yf_X11_inboxMessage : mzY yX11_inboxMessage cX11_inboxMessage 3 (some .int) 2 := ⟨tw_1709, tw_16, ⟨by decide, by decide⟩, by decide +kernel⟩
theorem yf_X11_inboxSize : mzY yX11_inboxSize cX11_inboxSize 2 (some .int) 1 := ⟨tw_1705, tw_16, ⟨by decide, by decide⟩, by decide +kernel⟩
theorem yf_X11_init : mzY yX11_init cX11_init 1 none 0 := ⟨tw_1480, tw_16, ⟨by decide, by decide⟩, by decide +kernel⟩
theorem yf_X11_isAhead : mzY yX11_isAhead cX11_isAhead 3 (some .boolean) 2 := ⟨tw_1725, tw_16, ⟨by decide, by decide⟩, by decide +kernel⟩
theorem yf_X11_isConsistent : mzY yX11_isConsistent cX11_isConsistent 1 (some .boolean) 0 := ⟨tw_1886, tw_16, ⟨by decide, by decide⟩, by decide +kernel⟩
theorem yf_X11_isCrow : mzY yX11_isCrow cX11_isCrow 2 (some .boolean) 1 := ⟨tw_1737, tw_16, ⟨by decide, by decide⟩, by decide +kernel⟩
theorem yf_X11_isFlying : mzY yX11_isFlying cX11_isFlying 2 (some .boolean) 1 := ⟨tw_1733, tw_16, ⟨by decide, by decide⟩, by decide +kernel⟩
theorem yf_X11_isLost : mzY yX11_isLost cX11_isLost 3 (some .boolean) 2 := ⟨tw_1673, tw_16, ⟨by decide, by decide⟩, by decide +kernel⟩
theorem yf_X11_isNest : mzY yX11_isNest cX11_isNest 2 (some .boolean) 1 := ⟨tw_1601, tw_16, ⟨by decide, by decide⟩, by decide +kernel⟩
theorem yf_X11_keyOf : mzY yX11_keyOf cX11_keyOf 2 (some .int) 1 := ⟨tw_1765, tw_16, ⟨by decide, by decide⟩, by decide +kernel⟩
theorem yf_X11_knows : mzY yX11_knows cX11_knows 4 (some .boolean) 2 := ⟨tw_1677, tw_16, ⟨by decide, by decide⟩, by decide +kernel⟩
theorem yf_X11_learns : mzY yX11_learns cX11_learns 5 none 2 := ⟨tw_1681, tw_16, ⟨by decide, by decide⟩, by decide +kernel⟩
theorem yf_X11_loss : mzY yX11_loss cX11_loss 2 (some .int) 1 := ⟨tw_1701, tw_16, ⟨by decide, by decide⟩, by decide +kernel⟩
theorem yf_X11_mean : mzY yX11_mean cX11_mean 3 (some .double) 0 := ⟨tw_1846, tw_16, ⟨by decide, by decide⟩, by decide +kernel⟩
theorem yf_X11_meanAttempts : mzY yX11_meanAttempts cX11_meanAttempts 1 (some .double) 0 := ⟨tw_1842, tw_16, ⟨by decide, by decide⟩, by decide +kernel⟩
theorem yf_X11_meanAttemptsBits : mzY yX11_meanAttemptsBits cX11_meanAttemptsBits 1 (some .long) 0 := ⟨tw_1850, tw_16, ⟨by decide, by decide⟩, by decide +kernel⟩
theorem yf_X11_messageAt : mzY yX11_messageAt cX11_messageAt 2 (some .int) 1 := ⟨tw_1753, tw_16, ⟨by decide, by decide⟩, by decide +kernel⟩
theorem yf_X11_messageCount : mzY yX11_messageCount cX11_messageCount 1 (some .int) 0 := ⟨tw_1749, tw_16, ⟨by decide, by decide⟩, by decide +kernel⟩
theorem yf_X11_messageCountByTotals : mzY yX11_messageCountByTotals cX11_messageCountByTotals 1 (some .int) 0 := ⟨tw_1838, tw_16, ⟨by decide, by decide⟩, by decide +kernel⟩
theorem yf_X11_minute : mzY yX11_minute cX11_minute 3 none 0 := ⟨tw_1665, tw_16, ⟨by decide, by decide⟩, by decide +kernel⟩
theorem yf_X11_minutesUntilDelivered : mzY yX11_minutesUntilDelivered cX11_minutesUntilDelivered 6 (some .int) 1 := ⟨tw_1798, tw_16, ⟨by decide, by decide⟩, by decide +kernel⟩
theorem yf_X11_napLength : mzY yX11_napLength cX11_napLength 5 (some .long) 1 := ⟨tw_1789, tw_16, ⟨by decide, by decide⟩, by decide +kernel⟩
theorem yf_X11_napLengthByDoubling : mzY yX11_napLengthByDoubling cX11_napLengthByDoubling 2 (some .long) 1 := ⟨tw_1793, tw_16, ⟨by decide, by decide⟩, by decide +kernel⟩
theorem yf_X11_napMinutes : mzY yX11_napMinutes cX11_napMinutes 3 (some .int) 1 := ⟨tw_1777, tw_16, ⟨by decide, by decide⟩, by decide +kernel⟩
theorem yf_X11_nest : mzY yX11_nest cX11_nest 3 (some .int) 2 := ⟨tw_1617, tw_16, ⟨by decide, by decide⟩, by decide +kernel⟩
theorem yf_X11_nestByDeliveries : mzY yX11_nestByDeliveries cX11_nestByDeliveries 5 (some .int) 1 := ⟨tw_1721, tw_16, ⟨by decide, by decide⟩, by decide +kernel⟩
theorem yf_X11_nestCount : mzY yX11_nestCount cX11_nestCount 1 (some .int) 0 := ⟨tw_1689, tw_16, ⟨by decide, by decide⟩, by decide +kernel⟩
theorem yf_X11_nestOf : mzY yX11_nestOf cX11_nestOf 2 (some .int) 1 := ⟨tw_1757, tw_16, ⟨by decide, by decide⟩, by decide +kernel⟩
theorem yf_X11_number : mzY yX11_number cX11_number 5 none 2 := ⟨tw_1937, tw_16, ⟨by decide, by decide⟩, by decide +kernel⟩
theorem yf_X11_of : mzY yX11_of cX11_of 3 (some .int) 2 := ⟨tw_1625, tw_16, ⟨by decide, by decide⟩, by decide +kernel⟩
theorem yf_X11_one : mzY yX11_one cX11_one 5 none 4 := ⟨tw_1927, tw_16, ⟨by decide, by decide⟩, by decide +kernel⟩
theorem yf_X11_outputAt : mzY yX11_outputAt cX11_outputAt 2 (some .char) 1 := ⟨tw_1906, tw_16, ⟨by decide, by decide⟩, by decide +kernel⟩
theorem yf_X11_passes : mzY yX11_passes cX11_passes 4 (some .int) 1 := ⟨tw_1661, tw_16, ⟨by decide, by decide⟩, by decide +kernel⟩
theorem yf_X11_placeOf : mzY yX11_placeOf cX11_placeOf 3 (some .int) 1 := ⟨tw_1621, tw_16, ⟨by decide, by decide⟩, by decide +kernel⟩
theorem yf_X11_publish : mzY yX11_publish cX11_publish 3 (some .int) 2 := ⟨tw_1593, tw_16, ⟨by decide, by decide⟩, by decide +kernel⟩
theorem yf_X11_publishedTotal : mzY yX11_publishedTotal cX11_publishedTotal 1 (some .int) 0 := ⟨tw_1814, tw_16, ⟨by decide, by decide⟩, by decide +kernel⟩
theorem yf_X11_publishes : mzY yX11_publishes cX11_publishes 5 (some .int) 2 := ⟨tw_1597, tw_16, ⟨by decide, by decide⟩, by decide +kernel⟩
theorem yf_X11_rate : mzY yX11_rate cX11_rate 1 (some .float) 0 := ⟨tw_1868, tw_16, ⟨by decide, by decide⟩, by decide +kernel⟩
theorem yf_X11_read : mzY yX11_read cX11_read 2 (some .int) 1 := ⟨tw_1609, tw_16, ⟨by decide, by decide⟩, by decide +kernel⟩
theorem yf_X11_readTotal : mzY yX11_readTotal cX11_readTotal 1 (some .int) 0 := ⟨tw_1822, tw_16, ⟨by decide, by decide⟩, by decide +kernel⟩
theorem yf_X11_reads : mzY yX11_reads cX11_reads 5 (some .int) 1 := ⟨tw_1613, tw_16, ⟨by decide, by decide⟩, by decide +kernel⟩
theorem yf_X11_readsOne : mzY yX11_readsOne cX11_readsOne 1 none 0 := ⟨tw_1918, tw_16, ⟨by decide, by decide⟩, by decide +kernel⟩
theorem yf_X11_rememberedCount : mzY yX11_rememberedCount cX11_rememberedCount 2 (some .int) 1 := ⟨tw_1717, tw_16, ⟨by decide, by decide⟩, by decide +kernel⟩
theorem yf_X11_remembers : mzY yX11_remembers cX11_remembers 3 (some .boolean) 2 := ⟨tw_1713, tw_16, ⟨by decide, by decide⟩, by decide +kernel⟩
theorem yf_X11_remembersAll : mzY yX11_remembersAll cX11_remembersAll 2 none 0 := ⟨tw_1554, tw_16, ⟨by decide, by decide⟩, by decide +kernel⟩
theorem yf_X11_renderCrows : mzY yX11_renderCrows cX11_renderCrows 2 (some .int) 0 := ⟨tw_1902, tw_16, ⟨by decide, by decide⟩, by decide +kernel⟩
theorem yf_X11_renderMessage : mzY yX11_renderMessage cX11_renderMessage 3 (some .int) 1 := ⟨tw_1890, tw_16, ⟨by decide, by decide⟩, by decide +kernel⟩
theorem yf_X11_restore : mzY yX11_restore cX11_restore 2 (some .int) 0 := ⟨tw_1969, tw_16, ⟨by decide, by decide⟩, by decide +kernel⟩
theorem yf_X11_runScript : mzY yX11_runScript cX11_runScript 3 (some .int) 0 := ⟨tw_1914, tw_16, ⟨by decide, by decide⟩, by decide +kernel⟩
theorem yf_X11_save : mzY yX11_save cX11_save 2 (some .int) 0 := ⟨tw_1965, tw_16, ⟨by decide, by decide⟩, by decide +kernel⟩
theorem yf_X11_says : mzY yX11_says cX11_says 3 none 1 := ⟨tw_1931, tw_16, ⟨by decide, by decide⟩, by decide +kernel⟩
theorem yf_X11_setWind : mzY yX11_setWind cX11_setWind 2 (some .int) 1 := ⟨tw_1641, tw_16, ⟨by decide, by decide⟩, by decide +kernel⟩
theorem yf_X11_sets : mzY yX11_sets cX11_sets 4 none 3 := ⟨tw_1605, tw_16, ⟨by decide, by decide⟩, by decide +kernel⟩
theorem yf_X11_setsNest : mzY yX11_setsNest cX11_setsNest 4 none 3 := ⟨tw_1565, tw_16, ⟨by decide, by decide⟩, by decide +kernel⟩
theorem yf_X11_status : mzY yX11_status cX11_status 2 (some .char) 1 := ⟨tw_1773, tw_16, ⟨by decide, by decide⟩, by decide +kernel⟩
theorem yf_X11_thrown : mzY yX11_thrown cX11_thrown 1 (some .int) 0 := ⟨tw_1546, tw_16, ⟨by decide, by decide⟩, by decide +kernel⟩
theorem yf_X11_time : mzY yX11_time cX11_time 1 (some .int) 0 := ⟨tw_1802, tw_16, ⟨by decide, by decide⟩, by decide +kernel⟩
theorem yf_X11_total : mzY yX11_total cX11_total 2 (some .int) 1 := ⟨tw_1806, tw_16, ⟨by decide, by decide⟩, by decide +kernel⟩
theorem yf_X11_type : mzY yX11_type cX11_type 2 (some .int) 1 := ⟨tw_1910, tw_16, ⟨by decide, by decide⟩, by decide +kernel⟩
theorem yf_X11_undo : mzY yX11_undo cX11_undo 2 (some .int) 0 := ⟨tw_1961, tw_16, ⟨by decide, by decide⟩, by decide +kernel⟩
theorem yf_X11_waiting : mzY yX11_waiting cX11_waiting 5 (some .int) 1 := ⟨tw_1685, tw_16, ⟨by decide, by decide⟩, by decide +kernel⟩
theorem yf_X11_waitingMessage : mzY yX11_waitingMessage cX11_waitingMessage 3 (some .int) 1 := ⟨tw_1781, tw_16, ⟨by decide, by decide⟩, by decide +kernel⟩
theorem yf_X11_wind : mzY yX11_wind cX11_wind 1 (some .int) 0 := ⟨tw_1810, tw_16, ⟨by decide, by decide⟩, by decide +kernel⟩
theorem yf_X11_wouldBeLost : mzY yX11_wouldBeLost cX11_wouldBeLost 3 (some .boolean) 1 := ⟨tw_1785, tw_16, ⟨by decide, by decide⟩, by decide +kernel⟩
theorem yf_X11_writes : mzY yX11_writes cX11_writes 2 none 1 := ⟨tw_1894, tw_16, ⟨by decide, by decide⟩, by decide +kernel⟩
theorem yf_X11_writesNumber : mzY yX11_writesNumber cX11_writesNumber 2 none 1 := ⟨tw_1898, tw_16, ⟨by decide, by decide⟩, by decide +kernel⟩
theorem yf_X1_init : mzY yX1_init cX1_init 1 none 0 := ⟨tw_261, tw_9, ⟨by decide, by decide⟩, by decide +kernel⟩
theorem yf_X2_copyFrom : mzY yX2_copyFrom cX2_copyFrom 2 none 1 := ⟨tw_845, tw_5, ⟨by decide, by decide⟩, by decide +kernel⟩
theorem yf_X2_init : mzY yX2_init cX2_init 1 none 0 := ⟨tw_140, tw_5, ⟨by decide, by decide⟩, by decide +kernel⟩
theorem yf_X4_init : mzY yX4_init cX4_init 2 none 0 := ⟨tw_234, tw_7, ⟨by decide, by decide⟩, by decide +kernel⟩
theorem yf_X4_remember : mzY yX4_remember cX4_remember 2 none 1 := ⟨tw_926, tw_7, ⟨by decide, by decide⟩, by decide +kernel⟩
theorem yf_X4_takeBackInto : mzY yX4_takeBackInto cX4_takeBackInto 2 none 1 := ⟨tw_1467, tw_7, ⟨by decide, by decide⟩, by decide +kernel⟩
theorem yf_X5_copyFrom : mzY yX5_copyFrom cX5_copyFrom 2 none 1 := ⟨tw_849, tw_6, ⟨by decide, by decide⟩, by decide +kernel⟩
theorem yf_X5_init : mzY yX5_init cX5_init 1 none 0 := ⟨tw_161, tw_6, ⟨by decide, by decide⟩, by decide +kernel⟩
theorem yf_X5_write : mzY yX5_write cX5_write 4 none 3 := ⟨tw_960, tw_6, ⟨by decide, by decide⟩, by decide +kernel⟩
theorem yf_X6_accept : mzY yX6_accept cX6_accept 3 none 2 := ⟨tw_1056, tw_4, ⟨by decide, by decide⟩, by decide +kernel⟩
theorem yf_X6_copyFrom : mzY yX6_copyFrom cX6_copyFrom 2 none 1 := ⟨tw_840, tw_4, ⟨by decide, by decide⟩, by decide +kernel⟩
theorem yf_X6_hasRoom : mzY yX6_hasRoom cX6_hasRoom 1 (some .boolean) 0 := ⟨tw_1052, tw_4, ⟨by decide, by decide⟩, by decide +kernel⟩
theorem yf_X6_init : mzY yX6_init cX6_init 1 none 0 := ⟨tw_102, tw_4, ⟨by decide, by decide⟩, by decide +kernel⟩
theorem yf_X6_knows : mzY yX6_knows cX6_knows 3 (some .boolean) 1 := ⟨tw_1048, tw_4, ⟨by decide, by decide⟩, by decide +kernel⟩
theorem yf_X6_learn : mzY yX6_learn cX6_learn 2 none 1 := ⟨tw_1061, tw_4, ⟨by decide, by decide⟩, by decide +kernel⟩
theorem yf_X6_open : mzY yX6_open cX6_open 3 none 2 := ⟨tw_870, tw_4, ⟨by decide, by decide⟩, by decide +kernel⟩
theorem yf_X6_takeFirst : mzY yX6_takeFirst cX6_takeFirst 2 (some .int) 0 := ⟨tw_976, tw_4, ⟨by decide, by decide⟩, by decide +kernel⟩
theorem yf_X7_append : mzY yX7_append cX7_append 2 (some .int) 1 := ⟨tw_1367, tw_8, ⟨by decide, by decide⟩, by decide +kernel⟩
theorem yf_X7_init : mzY yX7_init cX7_init 2 none 0 := ⟨tw_254, tw_8, ⟨by decide, by decide⟩, by decide +kernel⟩
theorem yf_X7_isDigitAt : mzY yX7_isDigitAt cX7_isDigitAt 2 (some .boolean) 1 := ⟨tw_1416, tw_8, ⟨by decide, by decide⟩, by decide +kernel⟩
theorem yf_X7_match : mzY yX7_match cX7_match 6 (some .int) 2 := ⟨tw_1388, tw_8, ⟨by decide, by decide⟩, by decide +kernel⟩
theorem yf_X7_readCommand : mzY yX7_readCommand cX7_readCommand 9 (some .boolean) 2 := ⟨tw_1382, tw_8, ⟨by decide, by decide⟩, by decide +kernel⟩
theorem yf_X7_readNumber : mzY yX7_readNumber cX7_readNumber 6 (some .int) 2 := ⟨tw_1412, tw_8, ⟨by decide, by decide⟩, by decide +kernel⟩
theorem yf_X7_split : mzY yX7_split cX7_split 3 (some .boolean) 0 := ⟨tw_1378, tw_8, ⟨by decide, by decide⟩, by decide +kernel⟩
theorem yf_X7_widthOf : mzY yX7_widthOf cX7_widthOf 3 (some .int) 2 := ⟨tw_1408, tw_8, ⟨by decide, by decide⟩, by decide +kernel⟩
theorem yf_X8_arrive : mzY yX8_arrive cX8_arrive 5 none 1 := ⟨tw_1040, tw_2, ⟨by decide, by decide⟩, by decide +kernel⟩
theorem yf_X8_clearKeys : mzY yX8_clearKeys cX8_clearKeys 4 (some .int) 1 := ⟨tw_1021, tw_2, ⟨by decide, by decide⟩, by decide +kernel⟩
theorem yf_X8_copyFrom : mzY yX8_copyFrom cX8_copyFrom 3 none 1 := ⟨tw_836, tw_2, ⟨by decide, by decide⟩, by decide +kernel⟩
theorem yf_X8_crowAt : mzY yX8_crowAt cX8_crowAt 2 (some (.object "CrowMail$Crow")) 1 := ⟨tw_1158, tw_2, ⟨by decide, by decide⟩, by decide +kernel⟩
theorem yf_X8_flightLength : mzY yX8_flightLength cX8_flightLength 4 (some .int) 1 := ⟨tw_1078, tw_2, ⟨by decide, by decide⟩, by decide +kernel⟩
theorem yf_X8_flyingCrows : mzY yX8_flyingCrows cX8_flyingCrows 3 (some .int) 0 := ⟨tw_450, tw_2, ⟨by decide, by decide⟩, by decide +kernel⟩
theorem yf_X8_handOver : mzY yX8_handOver cX8_handOver 4 (some .int) 1 := ⟨tw_972, tw_2, ⟨by decide, by decide⟩, by decide +kernel⟩
theorem yf_X8_hireCrow : mzY yX8_hireCrow cX8_hireCrow 2 (some .int) 0 := ⟨tw_938, tw_2, ⟨by decide, by decide⟩, by decide +kernel⟩
theorem yf_X8_init : mzY yX8_init cX8_init 2 none 0 := ⟨tw_50, tw_2, ⟨by decide, by decide⟩, by decide +kernel⟩
theorem yf_X8_isLost : mzY yX8_isLost cX8_isLost 4 (some .boolean) 2 := ⟨tw_1044, tw_2, ⟨by decide, by decide⟩, by decide +kernel⟩
theorem yf_X8_landCrows : mzY yX8_landCrows cX8_landCrows 3 none 0 := ⟨tw_1036, tw_2, ⟨by decide, by decide⟩, by decide +kernel⟩
theorem yf_X8_messageWith : mzY yX8_messageWith cX8_messageWith 3 (some (.object "CrowMail$Message")) 1 := ⟨tw_999, tw_2, ⟨by decide, by decide⟩, by decide +kernel⟩
theorem yf_X8_messagesInInboxes : mzY yX8_messagesInInboxes cX8_messagesInInboxes 3 (some .int) 0 := ⟨tw_454, tw_2, ⟨by decide, by decide⟩, by decide +kernel⟩
theorem yf_X8_messagesWithStatus : mzY yX8_messagesWithStatus cX8_messagesWithStatus 4 (some .int) 1 := ⟨tw_446, tw_2, ⟨by decide, by decide⟩, by decide +kernel⟩
theorem yf_X8_nestAt : mzY yX8_nestAt cX8_nestAt 2 (some (.object "CrowMail$Nest")) 1 := ⟨tw_956, tw_2, ⟨by decide, by decide⟩, by decide +kernel⟩
theorem yf_X8_nestAtRank : mzY yX8_nestAtRank cX8_nestAtRank 5 (some .int) 1 := ⟨tw_1138, tw_2, ⟨by decide, by decide⟩, by decide +kernel⟩
theorem yf_X8_openNest : mzY yX8_openNest cX8_openNest 4 (some .int) 2 := ⟨tw_866, tw_2, ⟨by decide, by decide⟩, by decide +kernel⟩
theorem yf_X8_pass : mzY yX8_pass cX8_pass 4 (some .int) 1 := ⟨tw_1032, tw_2, ⟨by decide, by decide⟩, by decide +kernel⟩
theorem yf_X8_perform : mzY yX8_perform cX8_perform 2 (some .int) 1 := ⟨tw_1422, tw_2, ⟨by decide, by decide⟩, by decide +kernel⟩
theorem yf_X8_post : mzY yX8_post cX8_post 4 (some .int) 2 := ⟨tw_952, tw_2, ⟨by decide, by decide⟩, by decide +kernel⟩
theorem yf_X8_ranksBefore : mzY yX8_ranksBefore cX8_ranksBefore 3 (some .boolean) 2 := ⟨tw_1142, tw_2, ⟨by decide, by decide⟩, by decide +kernel⟩
theorem yf_X8_remove : mzY yX8_remove cX8_remove 5 none 1 := ⟨tw_980, tw_2, ⟨by decide, by decide⟩, by decide +kernel⟩
theorem yf_X8_rowOf : mzY yX8_rowOf cX8_rowOf 3 (some .int) 1 := ⟨tw_984, tw_2, ⟨by decide, by decide⟩, by decide +kernel⟩
theorem yf_X8_sendCrows : mzY yX8_sendCrows cX8_sendCrows 3 none 0 := ⟨tw_1070, tw_2, ⟨by decide, by decide⟩, by decide +kernel⟩
theorem yf_X8_sumOfAttempts : mzY yX8_sumOfAttempts cX8_sumOfAttempts 3 (some .int) 0 := ⟨tw_1299, tw_2, ⟨by decide, by decide⟩, by decide +kernel⟩
theorem yf_X8_turnWind : mzY yX8_turnWind cX8_turnWind 3 (some .int) 1 := ⟨tw_1010, tw_2, ⟨by decide, by decide⟩, by decide +kernel⟩
theorem yf_X8_waitingAtRank : mzY yX8_waitingAtRank cX8_waitingAtRank 6 (some (.object "CrowMail$Message")) 1 := ⟨tw_1074, tw_2, ⟨by decide, by decide⟩, by decide +kernel⟩
theorem yf_X8_wakeMessages : mzY yX8_wakeMessages cX8_wakeMessages 3 none 0 := ⟨tw_1066, tw_2, ⟨by decide, by decide⟩, by decide +kernel⟩
theorem yf_X8_withdraw : mzY yX8_withdraw cX8_withdraw 3 (some .int) 1 := ⟨tw_995, tw_2, ⟨by decide, by decide⟩, by decide +kernel⟩
theorem yf_X9_copyFrom : mzY yX9_copyFrom cX9_copyFrom 2 none 1 := ⟨tw_853, tw_3, ⟨by decide, by decide⟩, by decide +kernel⟩
theorem yf_X9_existing : mzY yX9_existing cX9_existing 1 (some .int) 0 := ⟨tw_429, tw_3, ⟨by decide, by decide⟩, by decide +kernel⟩
theorem yf_X9_init : mzY yX9_init cX9_init 1 none 0 := ⟨tw_62, tw_3, ⟨by decide, by decide⟩, by decide +kernel⟩
theorem xf_91_95 : mzX "CrowMail" 91 95 "java/lang/IllegalArgumentException" := mz_mkX (by decide +kernel) (by decide +kernel) tw_875 tw_21 (by decide +kernel) (by decide +kernel)
theorem xf_98_102 : mzX "CrowMail" 98 102 "java/lang/IllegalStateException" := mz_mkX (by decide +kernel) (by decide +kernel) tw_878 tw_22 (by decide +kernel) (by decide +kernel)
theorem xf_103_107 : mzX "CrowMail" 103 107 "java/lang/IndexOutOfBoundsException" := mz_mkX (by decide +kernel) (by decide +kernel) tw_894 tw_23 (by decide +kernel) (by decide +kernel)
theorem xf_108_112 : mzXN "CrowMail" 108 112 "java/util/NoSuchElementException" := mz_mkXN (by decide +kernel) (by decide +kernel) (by decide +kernel) tw_907 tw_24 (by decide +kernel) (by decide +kernel)
theorem xf_275_279 : mzX "CrowMail" 275 279 "java/lang/ArithmeticException" := mz_mkX (by decide +kernel) (by decide +kernel) tw_1289 tw_26 (by decide +kernel) (by decide +kernel)
