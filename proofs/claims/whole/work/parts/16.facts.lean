theorem uw_4 : ∀ k, k < 6 → u_lay RX5 TX5 k ∈ TT := fun k hk => match k, hk with
  | 0, _ => TT_t (i := 181) (by decide +kernel) (by decide +kernel)
  | 1, _ => TT_t (i := 183) (by decide +kernel) (by decide +kernel)
  | 2, _ => TT_t (i := 185) (by decide +kernel) (by decide +kernel)
  | 3, _ => TT_t (i := 187) (by decide +kernel) (by decide +kernel)
  | 4, _ => TT_t (i := 189) (by decide +kernel) (by decide +kernel)
  | 5, _ => TT_t (i := 191) (by decide +kernel) (by decide +kernel)
  | k + 6, h => absurd h (by omega)
theorem cf_4 : mzC 4 RX5 TX5 6 tyX5 := ⟨by decide, rfl, mzC_ws uw_4, tyX5_ok, nmX5⟩
theorem nv_4 : ∀ k, k < 6 → defaultValue (tyX5 k) = if mmRf 4 k = true then .null else .int 0 := fun k hk => match k, hk with
  | 0, _ => rfl
  | 1, _ => rfl
  | 2, _ => rfl
  | 3, _ => rfl
  | 4, _ => rfl
  | 5, _ => rfl
  | k + 6, h => absurd h (by omega)
theorem uw_5 : ∀ k, k < 7 → u_lay RX6 TX6 k ∈ TT := fun k hk => match k, hk with
  | 0, _ => TT_t (i := 121) (by decide +kernel) (by decide +kernel)
  | 1, _ => TT_t (i := 123) (by decide +kernel) (by decide +kernel)
  | 2, _ => TT_t (i := 125) (by decide +kernel) (by decide +kernel)
  | 3, _ => TT_t (i := 127) (by decide +kernel) (by decide +kernel)
  | 4, _ => TT_t (i := 129) (by decide +kernel) (by decide +kernel)
  | 5, _ => TT_t (i := 131) (by decide +kernel) (by decide +kernel)
  | 6, _ => TT_t (i := 133) (by decide +kernel) (by decide +kernel)
  | k + 7, h => absurd h (by omega)
theorem cf_5 : mzC 5 RX6 TX6 7 tyX6 := ⟨by decide, rfl, mzC_ws uw_5, tyX6_ok, nmX6⟩
theorem nv_5 : ∀ k, k < 7 → defaultValue (tyX6 k) = if mmRf 5 k = true then .null else .int 0 := fun k hk => match k, hk with
  | 0, _ => rfl
  | 1, _ => rfl
  | 2, _ => rfl
  | 3, _ => rfl
  | 4, _ => rfl
  | 5, _ => rfl
  | 6, _ => rfl
  | k + 7, h => absurd h (by omega)
theorem uw_7 : ∀ k, k < 9 → u_lay RX8 TX8 k ∈ TT := fun k hk => match k, hk with
  | 0, _ => TT_t (i := 211) (by decide +kernel) (by decide +kernel)
  | 1, _ => TT_t (i := 213) (by decide +kernel) (by decide +kernel)
  | 2, _ => TT_t (i := 215) (by decide +kernel) (by decide +kernel)
  | 3, _ => TT_t (i := 217) (by decide +kernel) (by decide +kernel)
  | 4, _ => TT_t (i := 219) (by decide +kernel) (by decide +kernel)
  | 5, _ => TT_t (i := 221) (by decide +kernel) (by decide +kernel)
  | 6, _ => TT_t (i := 223) (by decide +kernel) (by decide +kernel)
  | 7, _ => TT_t (i := 225) (by decide +kernel) (by decide +kernel)
  | 8, _ => TT_t (i := 227) (by decide +kernel) (by decide +kernel)
  | k + 9, h => absurd h (by omega)
theorem cf_7 : mzC 7 RX8 TX8 9 tyX8 := ⟨by decide, rfl, mzC_ws uw_7, tyX8_ok, nmX8⟩
theorem nv_7 : ∀ k, k < 9 → defaultValue (tyX8 k) = if mmRf 7 k = true then .null else .int 0 := fun k hk => match k, hk with
  | 0, _ => rfl
  | 1, _ => rfl
  | 2, _ => rfl
  | 3, _ => rfl
  | 4, _ => rfl
  | 5, _ => rfl
  | 6, _ => rfl
  | 7, _ => rfl
  | 8, _ => rfl
  | k + 9, h => absurd h (by omega)
theorem uw_10 : ∀ k, k < 20 → u_lay RX11 TX11 k ∈ TT := fun k hk => match k, hk with
  | 0, _ => TT_t (i := 1502) (by decide +kernel) (by decide +kernel)
  | 1, _ => TT_t (i := 1504) (by decide +kernel) (by decide +kernel)
  | 2, _ => TT_t (i := 1506) (by decide +kernel) (by decide +kernel)
  | 3, _ => TT_t (i := 1508) (by decide +kernel) (by decide +kernel)
  | 4, _ => TT_t (i := 1510) (by decide +kernel) (by decide +kernel)
  | 5, _ => TT_t (i := 1512) (by decide +kernel) (by decide +kernel)
  | 6, _ => TT_t (i := 1514) (by decide +kernel) (by decide +kernel)
  | 7, _ => TT_t (i := 1516) (by decide +kernel) (by decide +kernel)
  | 8, _ => TT_t (i := 1518) (by decide +kernel) (by decide +kernel)
  | 9, _ => TT_t (i := 1520) (by decide +kernel) (by decide +kernel)
  | 10, _ => TT_t (i := 1522) (by decide +kernel) (by decide +kernel)
  | 11, _ => TT_t (i := 1524) (by decide +kernel) (by decide +kernel)
  | 12, _ => TT_t (i := 1526) (by decide +kernel) (by decide +kernel)
  | 13, _ => TT_t (i := 1528) (by decide +kernel) (by decide +kernel)
  | 14, _ => TT_t (i := 1530) (by decide +kernel) (by decide +kernel)
  | 15, _ => TT_t (i := 1532) (by decide +kernel) (by decide +kernel)
  | 16, _ => TT_t (i := 1534) (by decide +kernel) (by decide +kernel)
  | 17, _ => TT_t (i := 1536) (by decide +kernel) (by decide +kernel)
  | 18, _ => TT_t (i := 1538) (by decide +kernel) (by decide +kernel)
  | 19, _ => TT_t (i := 1540) (by decide +kernel) (by decide +kernel)
  | k + 20, h => absurd h (by omega)
theorem cf_10 : mzC 10 RX11 TX11 20 tyX11 := ⟨by decide, rfl, mzC_ws uw_10, tyX11_ok, nmX11⟩
theorem nv_10 : ∀ k, k < 20 → defaultValue (tyX11 k) = if mmRf 10 k = true then .null else .int 0 := fun k hk => match k, hk with
  | 0, _ => rfl
  | 1, _ => rfl
  | 2, _ => rfl
  | 3, _ => rfl
  | 4, _ => rfl
  | 5, _ => rfl
  | 6, _ => rfl
  | 7, _ => rfl
  | 8, _ => rfl
  | 9, _ => rfl
  | 10, _ => rfl
  | 11, _ => rfl
  | 12, _ => rfl
  | 13, _ => rfl
  | 14, _ => rfl
  | 15, _ => rfl
  | 16, _ => rfl
  | 17, _ => rfl
  | 18, _ => rfl
  | 19, _ => rfl
  | k + 20, h => absurd h (by omega)
theorem fd_128 : mzF 128 4 0 TX5 6 false "CrowMail$Message" "id" "I" false := ⟨by decide, rfl, rfl, rfl⟩
theorem fd_129 : mzF 129 4 1 TX5 6 false "CrowMail$Message" "nest" "I" false := ⟨by decide, rfl, rfl, rfl⟩
theorem fd_160 : mzF 160 5 0 TX6 7 true "CrowMail$Nest" "inbox" "[I" true := ⟨by decide, rfl, rfl, rfl⟩
theorem fd_161 : mzF 161 5 1 TX6 7 true "CrowMail$Nest" "keys" "[I" true := ⟨by decide, rfl, rfl, rfl⟩
theorem fd_162 : mzF 162 5 2 TX6 7 false "CrowMail$Nest" "distance" "I" false := ⟨by decide, rfl, rfl, rfl⟩
theorem fd_165 : mzF 165 5 5 TX6 7 false "CrowMail$Nest" "inboxSize" "I" false := ⟨by decide, rfl, rfl, rfl⟩
theorem fd_166 : mzF 166 5 6 TX6 7 false "CrowMail$Nest" "keyCount" "I" false := ⟨by decide, rfl, rfl, rfl⟩
theorem fd_224 : mzF 224 7 0 TX8 9 true "CrowMail$State" "nests" "[LCrowMail$Nest;" true := ⟨by decide, rfl, rfl, rfl⟩
theorem fd_226 : mzF 226 7 2 TX8 9 true "CrowMail$State" "messages" "[LCrowMail$Message;" true := ⟨by decide, rfl, rfl, rfl⟩
theorem fd_228 : mzF 228 7 4 TX8 9 false "CrowMail$State" "nestCount" "I" false := ⟨by decide, rfl, rfl, rfl⟩
theorem fd_230 : mzF 230 7 6 TX8 9 false "CrowMail$State" "messageCount" "I" false := ⟨by decide, rfl, rfl, rfl⟩
theorem fd_232 : mzF 232 7 8 TX8 9 false "CrowMail$State" "wind" "I" false := ⟨by decide, rfl, rfl, rfl⟩
theorem fd_321 : mzF 321 10 1 TX11 20 true "CrowMailModel" "s" "[I" true := ⟨by decide, rfl, rfl, rfl⟩
theorem yf_X11_nest : mzY yX11_nest cX11_nest 3 (some .int) 2 := ⟨tw_1617, tw_16, ⟨by decide, by decide⟩, by decide +kernel⟩
theorem yf_X11_of : mzY yX11_of cX11_of 3 (some .int) 2 := ⟨tw_1625, tw_16, ⟨by decide, by decide⟩, by decide +kernel⟩
theorem yf_X8_nestAt : mzY yX8_nestAt cX8_nestAt 2 (some (.object "CrowMail$Nest")) 1 := ⟨tw_956, tw_2, ⟨by decide, by decide⟩, by decide +kernel⟩
