/-! THE LAW'S LOOP -/
section LAWL
variable {G : mgT} {μ ν ρ σ : mmT} {z m i k n ct id made kd : Nat} {x y x3 x4 x9 x10 x11 x12 x13 x14 x15 x16 x17 x18 x19 x20 s0 s1 : Int32} {B c : Nat} {v w : Nat → Nat} {V : Nat → Nat → Nat} {K : Option Nat → Option Nat → Int32 → Int32 → Int32 → Nat → mmT → Prop}
def Hk (K : Option Nat → Option Nat → Int32 → Int32 → Int32 → Nat → mmT → Prop) (z n B c : Nat) : Prop := ∀ μ made v ct V, Iv μ z (B + 20000) (c + 12) v ct V → ct = (if made < 8 then made else 8) → made ≤ n + 1 → Sums μ z made (made - ct) ct V v → K (some z) (some (z + 584)) (nI made) (nI (5 * n + 5)) (nI (n + 1)) (n + 1) μ
def Tk (G : mgT) (K : Option Nat → Option Nat → Int32 → Int32 → Int32 → Nat → mmT → Prop) (z n B c made ct : Nat) : Prop := Hk K z n B c ∧ gX G 6 < 2 ^ 31 ∧ n < 60 ∧ (119 ≤ B ∧ B + 60000 < 2 ^ 26 ∧ c ≤ 900) ∧ made ≤ n ∧ ct = (if made < 8 then made else 8)
def En (μ : mmT) (z B c : Nat) (v : Nat → Nat) (ct : Nat) (V : Nat → Nat → Nat) (x19 : Int32) : Prop := (∃ r w, r < 2 ^ 31 ∧ x19 = nI r ∧ Iv μ z (B + 20000) (c + 12) w (ctP ct) (vP ct V v)) ∨ ((x19 = -75 ∨ x19 = -77 ∨ x19 = -78 ∨ x19 = -79) ∧ Iv μ z (B + 20000) (c + 12) v ct V)
theorem m74_lt {r : Nat} (h : r < 2 ^ 31) : (-74 : Int32) < nI r := by
  rw [Int32.lt_iff_toInt_lt, nI_toInt h, show (-74 : Int32).toInt = -74 by decide]
  omega
theorem sL_at {a j : Nat} {q : Int64} : mL (sL μ a i q) a j = if j = i then q else mL μ a j := by
  by_cases e : j = i
  · rw [if_pos e]; exact if_pos ⟨rfl, e⟩
  · rw [if_neg e]; exact if_neg (fun q => e q.2)
theorem l_push (hk : Tk G K z n B c made ct) (h : Iv μ z (B + 20000) (c + 12) w (ctP ct) (vP ct V v)) (hS : Sums μ z made (made - ct) ct V v) : K (some z) (some (z + 584)) (nI made + nI 1) (nI (5 * n + 5)) (nI n + nI 1) (n + 1) (sL μ (z + 584) (nI made + nI 1).toNatClampNeg (sumV w)) := by
  obtain ⟨h1, hN, n60, hB, mn, ec⟩ := hk
  obtain ⟨s1, s2, s3, s4⟩ := hS
  rw [nI_add, nI_add, cl (n := made + 1) (by omega)]
  have eL : ∀ j, mL (sL μ (z + 584) (made + 1) (sumV w)) (z + 584) j = if j = made + 1 then sumV w else mL μ (z + 584) j := fun j => sL_at
  have fr : Fr (z + 584) μ (sL μ (z + 584) (made + 1) (sumV w)) := fun _ _ => ⟨⟨rfl, rfl⟩, fun _ => rfl, fun _ => rfl, fun _ => rfl, fun _ => rfl⟩
  refine h1 _ (made + 1) w (ctP ct) (vP ct V v) (Iv_fr h fr (Nat.le_refl _)) ?_ (by omega) ⟨s1, s2, fun k hk => ?_, by rw [eL, if_pos rfl]⟩
  · unfold ctP
    by_cases m8 : made < 8
    · rw [if_pos m8] at ec
      subst ec
      rw [if_neg (show ¬ ct = 8 by omega)]
      by_cases m7 : ct + 1 < 8
      · rw [if_pos m7]
      · rw [if_neg m7]
        omega
    · rw [if_neg m8] at ec
      subst ec
      rw [if_pos rfl, if_neg (by omega)]
  · rw [eL]
    unfold ctP at hk ⊢
    unfold vP
    by_cases m8 : made < 8
    · rw [if_pos m8] at ec
      subst ec
      rw [if_neg (show ¬ ct = 8 by omega)] at hk ⊢
      rw [if_neg (show ¬ ct = 8 by omega), if_neg (by omega), show ct + 1 - (ct + 1) + k = k by omega]
      show _ = sumV (if k = ct then v else V k)
      by_cases e : k = ct
      · rw [if_pos e, e]
        exact s4
      · rw [if_neg e]
        have := s3 k (by omega)
        rw [show ct - ct + k = k by omega] at this
        exact this
    · rw [if_neg m8] at ec
      subst ec
      rw [if_pos rfl] at hk ⊢
      rw [if_pos rfl, if_neg (by omega)]
      show _ = sumV (if k = 7 then v else V (k + 1))
      by_cases e : k = 7
      · rw [if_pos e, e, show made + 1 - 8 + 7 = made by omega]
        exact s4
      · rw [if_neg e, ← s3 (k + 1) (by omega), show made + 1 - 8 + k = made - 8 + (k + 1) by omega]
theorem w417 (hk : Tk G K z n B c made ct) (hs : ¬ (s0 &&& s1) = 0) (hS : Sums μ z made (made - ct) ct V v) (hE : En μ z B c v ct V x19) : w_L_law_b417 G K (some z) (some (z + 584)) (nI made) (nI (5 * n)) (nI n) (sumV v) x19 s0 s1 n μ := by
  have hk9 := hk
  obtain ⟨h1, hN, n60, hB, mn, ec⟩ := hk9
  have t60 : n ≤ 60 := by omega
  unfold w_L_law_b417 w_L_law_b482 w_L_law_b451
  rw [nI_add]
  refine ⟨t60, fun e => absurd e hs, fun _ => ?_⟩
  rcases hE with ⟨r, w, hr, rfl, iv⟩ | ⟨he, iv⟩
  · have key : ∀ ν, Kp z μ ν → Iv ν z (B + 20000) (c + 12) w (ctP ct) (vP ct V v) → w_L_sum G ν (some z) (fun u47 => ∃ a48, some (z + 584) = some a48 ∧ (mK ν a48 = 35 ∧ (vp_in (nI made + nI 1) (mN ν a48) ∧ (n ≤ 60 ∧ K (some z) (some (z + 584)) (nI made + nI 1) (nI (5 * n + 5)) (nI n + nI 1) (n + 1) (sL ν a48 (nI made + nI 1).toNatClampNeg u47))))) := fun ν kp i2 => by
      have hS2 := hS.kp kp
      refine t_sumV (i2.ak (by omega) (by omega) (by omega)) ⟨_, rfl, hS2.1, ?_, t60, l_push hk i2 hS2⟩
      rw [hS2.2.1, nI_add]
      exact vp_in_nI (by omega) (by decide)
    refine ⟨fun _ => ?_, fun _ => ?_⟩
    · exact l_isWhole hN (by omega) ⟨iv, by omega, by omega, by omega, fun ν kp i2 => ⟨fun _ => ⟨fun _ => key ν kp i2, fun e => absurd (m74_lt hr) e⟩, fun e => absurd e (by decide)⟩⟩
    · exact l_isWhole hN (by omega) ⟨iv, by omega, by omega, by omega, fun ν kp i2 => ⟨fun _ => ⟨fun _ => key ν kp i2, fun e => absurd (m74_lt hr) e⟩, fun e => absurd e (by decide)⟩⟩
  · have n74 : ¬ (-74 : Int32) < x19 := by
      rcases he with rfl | rfl | rfl | rfl <;> decide
    have key : ∀ ν, Kp z μ ν → Iv ν z (B + 20000) (c + 12) v ct V → w_L_sum G ν (some z) (fun u52 => (lg_cmp u52 (sumV v) = 0 → (n ≤ 60 ∧ K (some z) (some (z + 584)) (nI made) (nI (5 * n + 5)) (nI n + nI 1) (n + 1) ν)) ∧ (¬ lg_cmp u52 (sumV v) = 0 → False)) := fun ν kp i2 => by
      refine t_sumV (i2.ak (by omega) (by omega) (by omega)) ⟨fun _ => ⟨t60, ?_⟩, fun e => absurd lg_self e⟩
      rw [nI_add]
      exact h1 ν made v ct V i2 ec (by omega) (hS.kp kp)
    refine ⟨fun _ => ?_, fun _ => ?_⟩
    · exact l_isWhole hN (by omega) ⟨iv, by omega, by omega, by omega, fun ν kp i2 => ⟨fun _ => ⟨fun e => absurd e n74, fun _ => key ν kp i2⟩, fun e => absurd e (by decide)⟩⟩
    · exact l_isWhole hN (by omega) ⟨iv, by omega, by omega, by omega, fun ν kp i2 => ⟨fun _ => ⟨fun e => absurd e n74, fun _ => key ν kp i2⟩, fun e => absurd e (by decide)⟩⟩
theorem w238 (hk : Tk G K z n B c made ct) (hS : Sums μ z made (made - ct) ct V v) (hE : En μ z B c v ct V x19) : w_L_law_b238 G K (some z) (some (z + 584)) (nI made) (nI (5 * n)) (nI n) (sumV v) x9 x10 x11 x12 x13 x14 x15 x16 x17 x18 x19 n μ := by
  have t60 : n ≤ 60 := by have := hk.2.2.1; omega
  unfold w_L_law_b238 w_L_law_b239 w_L_law_b304 w_L_law_b309 w_L_law_b369 w_L_law_b374 w_L_law_b412
  exact ⟨t60, t60, fun _ => ⟨t60, t60, fun _ => ⟨t60, t60, fun _ => ⟨t60, w417 hk (by decide) hS hE⟩, fun e => absurd rfl e⟩, fun e => absurd rfl e⟩, fun e => absurd rfl e⟩
/-! minutes that were done -/
def Pd (G : mgT) (K : Option Nat → Option Nat → Int32 → Int32 → Int32 → Nat → mmT → Prop) (μ : mmT) (z n B c made ct : Nat) (V : Nat → Nat → Nat) (v : Nat → Nat) (m id : Nat) : Prop := Tk G K z n B c made ct ∧ Sums μ z made (made - ct) ct V v ∧ Iv μ z (B + 20000) (c + 12) (itm m v) (ctP ct) (vP ct V v) ∧ J B 16 v ∧ 1 ≤ m ∧ m ≤ 7 ∧ id < 1000
theorem Pd.to (h : Pd G K μ z n B c made ct V v m id) (k : Kp z μ ν) (i : Iv ν z (B + 20000) (c + 12) (itm m v) (ctP ct) (vP ct V v)) : Pd G K ν z n B c made ct V v m id := ⟨h.1, h.2.1.kp k, i, h.2.2.2⟩
theorem Pd.en (h : Pd G K μ z n B c made ct V v m id) : En μ z B c v ct V (nI (itm m v 6 - v 6)) := by
  have b6 := h.2.2.1.2.2.1.1.1.2.2 6
  have hB := h.1.2.2.2.1
  exact Or.inl ⟨_, _, by omega, rfl, h.2.2.1⟩
theorem w412 (h : Pd G K μ z n B c made ct V v m id) : w_L_law_b412 G K (some z) (some (z + 584)) (nI made) (nI (5 * n)) (nI n) (sumV v) (nI (itm m v 6 - v 6)) (nI 1 &&& nI 1) n μ :=
  ⟨by have := h.1.2.2.1; omega, w417 h.1 (by decide) h.2.1 h.en⟩
theorem w369 (h : Pd G K μ z n B c made ct V v m id) : w_L_law_b369 G K (some z) (some (z + 584)) (nI made) (nI (5 * n)) (nI n) (sumV v) (nI id) (nI m) (stx v (nI id)) (npx v (nI id)) (nI (itm m v 6 - v 6)) (nI 1) (nI 1) n μ := by
  have t60 : n ≤ 60 := by have := h.1.2.2.1; omega
  have hB := h.1.2.2.2.1
  have iv := h.2.2.1
  have hJ := h.2.2.2.1
  have m1 := h.2.2.2.2.1
  have m7 := h.2.2.2.2.2.1
  have i9 := h.2.2.2.2.2.2
  have ak : Ak μ z (B + 20000) (itm m v) := iv.ak (by omega) (by omega) (by omega)
  unfold w_L_law_b369 w_L_law_b374
  refine ⟨t60, t60, fun e => absurd e (by decide), fun _ => ⟨fun _ => w412 h, fun e => ?_⟩⟩
  unfold stx at e
  unfold npx
  by_cases q : fPl v (nI id) < v 2
  · have b4 := hJ.2.2 (146 + 7 * fPl v (nI id) + 4)
    have b5 := hJ.2.2 (146 + 7 * fPl v (nI id) + 5)
    have b0 := hJ.2.2 (146 + 7 * fPl v (nI id))
    rw [if_pos q] at e
    have s := nI_inj (by omega) (by decide) e
    rw [if_pos q, if_pos s]
    refine pk_le (v (146 + 7 * fPl v (nI id) + 5)) m (fun _ => w412 h) (fun c => a_napX ak ?_)
    have ms := hJ.1.2.2.1 _ q
    have hl := hJ.1.1.1.2.2
    obtain ⟨p, p1, p2, p3, p4, p5⟩ := NapH_itm (y := id) m B (v (146 + 7 * fPl v (nI id) + 5)) v (by omega) (by omega) hJ c ⟨_, q, nI_inj (by omega) (by omega) (fPl_yes q), s, rfl, ms.2.2.2.2.2.2.2 (by omega)⟩
    have e1 : fPl (itm m v) (nI id) = p := by
      rw [← p2]
      exact fPl_of ak.j (by omega) p1
    rw [pk_sub (by omega)]
    unfold npx
    rw [e1, if_pos p1, if_pos p3, p4]
    exact ⟨fun e => absurd rfl e, fun _ => w412 h⟩
  · rw [if_neg q] at e
    exact absurd e (by decide)
theorem w304 (h : Pd G K μ z n B c made ct V v m id) : w_L_law_b304 G K (some z) (some (z + 584)) (nI made) (nI (5 * n)) (nI n) (sumV v) (nI id) (nI m) (tld v (nI id)) (stx v (nI id)) (npx v (nI id)) (nI (itm m v 6 - v 6)) (nI 1) n μ := by
  have t60 : n ≤ 60 := by have := h.1.2.2.1; omega
  have hB := h.1.2.2.2.1
  have iv := h.2.2.1
  have hJ := h.2.2.2.1
  have m1 := h.2.2.2.2.1
  have m7 := h.2.2.2.2.2.1
  have i9 := h.2.2.2.2.2.2
  have ak : Ak μ z (B + 20000) (itm m v) := iv.ak (by omega) (by omega) (by omega)
  unfold w_L_law_b304 w_L_law_b309
  refine ⟨t60, t60, fun e => absurd e (by decide), fun _ => ⟨fun _ => w369 h, fun e => ?_⟩⟩
  have ht : ∃ r, r ≠ 0 ∧ r ≤ 100 ∧ fUD (nI id) 100 1 v = r ∧ tld v (nI id) = nI r := by
    unfold tld at e ⊢
    by_cases q : fPl v (nI id) < v 2
    · rw [if_pos q] at e ⊢
      by_cases s : v (146 + 7 * fPl v (nI id) + 4) = 100
      · rw [if_pos s] at e
        exact absurd (by decide) e
      · rw [if_neg s] at e ⊢
        by_cases u : fUD (nI id) 100 1 v = 0
        · rw [if_pos u] at e
          exact absurd (by decide) e
        · rw [if_neg u]
          exact ⟨_, u, fUD_le 100 1 v (by decide), rfl, rfl⟩
    · rw [if_neg q] at e
      exact absurd (by decide) e
  obtain ⟨r, r0, r1, r2, r3⟩ := ht
  have w369' : ∀ ν, Pd G K ν z n B c made ct V v m id → w_L_law_b369 G K (some z) (some (z + 584)) (nI made) (nI (5 * n)) (nI n) (sumV v) (nI id) (nI m) (stx v (nI id)) (npx v (nI id)) (nI (itm m v 6 - v 6)) (nI 1) (nI 1) n ν := fun ν h => w369 h
  rw [r3]
  refine pk_lt m r (fun c => a_statusX ak ?_) (fun c => a_statusX ak ?_)
  · obtain ⟨⟨a1, a2⟩, a3⟩ := told_late r2 r0 c m1
    have b4 := ak.j.2.2 (146 + 7 * fPl (itm m v) (nI id) + 4)
    have es : stx (itm m v) (nI id) = nI (itm m v (146 + 7 * fPl (itm m v) (nI id) + 4)) := if_pos a1
    rw [es]
    refine ⟨fun e => absurd (nI_inj (by omega) (by decide) e) a2, fun _ => l_until iv (by omega) (by omega) (fun ν kp i2 => ?_)⟩
    have et : tld (itm m v) (nI id) = nI (r - m) := by
      unfold tld
      rw [if_pos a1, if_neg a2, if_neg (by omega), a3]
    rw [et, pk_sub (by omega)]
    exact ⟨fun e => absurd rfl e, fun _ => w369' ν (h.to kp i2)⟩
  · have hh := told_done (b := B) (y := id) (by omega) (by omega) hJ (by omega) r2 r0 c (by omega)
    obtain ⟨a1, a2, a3⟩ := Has_fPl ak.j (by omega) hh
    have es : stx (itm m v) (nI id) = nI 100 := by
      unfold stx
      rw [if_pos a1, a3]
    rw [es]
    exact ⟨fun e => absurd rfl e, fun _ => w369' μ h⟩
theorem i_sub {a b c d : Nat} (h : a + c = d + b) : nI d = nI a - (nI b - nI c) := by
  have e : nI a + nI c = nI d + nI b := by rw [nI_add, nI_add, h]
  have e2 : nI a = nI d + nI b - nI c := by rw [← e, Int32.add_sub_cancel]
  rw [e2, Int32.sub_eq_add_neg (nI d + nI b), Int32.add_assoc, ← Int32.sub_eq_add_neg, Int32.add_sub_cancel]
theorem w239 (h : Pd G K μ z n B c made ct V v m id) : w_L_law_b239 G K (some z) (some (z + 584)) (nI made) (nI (5 * n)) (nI n) (sumV v) (nI (v 2)) (nI id) (nI m) (tld v (nI id)) (stx v (nI id)) (npx v (nI id)) (nI (v 6)) (nI (v 4)) (nI (v 10)) (nI (v 8) + nI (v 9)) (nI (itm m v 6 - v 6)) (nI 1) n μ := by
  have t60 : n ≤ 60 := by have := h.1.2.2.1; omega
  have hB := h.1.2.2.2.1
  have iv := h.2.2.1
  have hJ := h.2.2.2.1
  have ak : Ak μ z (B + 20000) (itm m v) := iv.ak (by omega) (by omega) (by omega)
  unfold w_L_law_b239
  refine ⟨t60, fun e => absurd e (by decide), fun _ => ⟨z, rfl, ak.1.kz, a_time ak ?_⟩⟩
  rw [nI_add, v4_itm]
  refine ⟨fun e => absurd rfl e, fun _ => a_deliveredTotal ak ?_⟩
  have h6 := v6_itm m v
  have h10 := va_itm m v
  have b10 := ak.j.2.2 10
  have q10 := hJ.2.2 10
  have q6 := ak.j.2.2 6
  rw [nI_add, show v 6 + (itm m v 6 - v 6) = itm m v 6 by omega]
  refine ⟨fun e => absurd rfl e, fun _ => a_messageCount ak (a_duplicateTotal ak (a_failedTotal ak ?_))⟩
  have t1 := hJ.2.1
  have t2 := ak.j.2.1
  have e3 : itm m v 3 = v 3 := v3_itm m v
  have e7 : itm m v 7 = v 7 := vj_itm (Or.inl rfl) m v
  have e11 : itm m v 11 = v 11 := vj_itm (Or.inr rfl) m v
  unfold tot at t1 t2
  rw [nI_add, nI_add]
  refine ⟨fun e => absurd (i_sub (by omega)) e, fun _ => a_arrivalTotal ak ?_⟩
  rw [nI_add]
  exact pk_lt (itm m v 10) (v 10 + (itm m v 6 - v 6)) (fun c => by omega) (fun _ => w304 h)
/-! a turn -/
theorem w131 (hk : Tk G K z n B c made ct) (h : Iv μ z B c v ct V) (hS : Sums μ z made (made - ct) ct V v) (hkd : kd < 44) (hid : id < 1000) : w_L_law_b131 G K (some z) (some (z + 584)) (nI made) (nI (5 * n)) (nI n) (sumV v) (nI kd) (nI (v 2)) (nI id) n μ := by
  have hk9 := hk
  obtain ⟨h1, hN, n60, hB, mn, ec⟩ := hk9
  unfold w_L_law_b131
  rw [nI_add]
  refine ⟨by omega, a_pick hN (by omega) (by decide) (by decide) (fun m hm => l_until h (by omega) (by omega) (fun ν kp iv => ?_))⟩
  have ak : Ak ν z B v := iv.ak (by omega) (by omega) (by omega)
  have hS2 := hS.kp kp
  refine a_statusX ak (a_napX ak ⟨z, rfl, ak.1.kz, a_deliveredTotal ak (a_time ak (a_arrivalTotal ak (a_duplicateTotal ak (a_failedTotal ak ?_))))⟩)
  have tf : ∀ (Q : Int32 → mmT → Prop), (∀ ρ e, (e = -75 ∨ e = -77 ∨ e = -78 ∨ e = -79) → En ρ z B c v ct V e → Sums ρ z made (made - ct) ct V v → Q e ρ) → TF2 Q ν z B c v ct V := fun Q q ρ e he kp2 iv2 => q ρ e he (Or.inr ⟨he, iv2⟩) (hS2.kp kp2)
  have rf : ∀ e : Int32, (e = -75 ∨ e = -77 ∨ e = -78 ∨ e = -79) → e ≤ -70 := fun e he => by
    rcases he with rfl | rfl | rfl | rfl <;> decide
  by_cases p : 30 ≤ kd ∧ kd < 38
  · refine l_doesA ak hN (by omega) p.1 p.2 (l_advance iv ⟨by omega, by omega⟩ (by omega) (fun m1 ρ kp2 iv2 => ?_) (fun m0 => tf _ (fun ρ e he hE hS3 => ?_)))
    · refine pk_le kd 29 (fun c => by omega) (fun _ => pk_le 38 kd (fun c => by omega) (fun _ => ⟨fun e => ?_, fun _ => ?_⟩))
      · have b6 := iv2.2.2.1.1.1.2.2 6
        have := Int32.le_iff_toInt_le.mp e
        rw [nI_toInt (by omega), show (-70 : Int32).toInt = -70 by decide] at this
        omega
      · exact w239 ⟨hk, hS2.kp kp2, iv2, iv.2.2.1.1.1, m1, by omega, hid⟩
    · exact pk_le kd 29 (fun c => by omega) (fun _ => pk_le 38 kd (fun c => by omega) (fun _ => ⟨fun _ => w238 hk hS3 hE, fun e2 => absurd (rf e he) e2⟩))
  · have post : ∀ ρ x19, En ρ z B c v ct V x19 → Sums ρ z made (made - ct) ct V v → (nI kd ≤ nI 29 → w_L_law_b238 G K (some z) (some (z + 584)) (nI made) (nI (5 * n)) (nI n) (sumV v) (nI (v 2)) (nI id) (nI m) (tld v (nI id)) (stx v (nI id)) (npx v (nI id)) (nI (v 6)) (nI (v 4)) (nI (v 10)) (nI (v 8) + nI (v 9)) x19 n ρ) ∧ (¬ nI kd ≤ nI 29 → ((nI 38 ≤ nI kd → w_L_law_b238 G K (some z) (some (z + 584)) (nI made) (nI (5 * n)) (nI n) (sumV v) (nI (v 2)) (nI id) (nI m) (tld v (nI id)) (stx v (nI id)) (npx v (nI id)) (nI (v 6)) (nI (v 4)) (nI (v 10)) (nI (v 8) + nI (v 9)) x19 n ρ) ∧ (¬ nI 38 ≤ nI kd → ((x19 ≤ -70 → w_L_law_b238 G K (some z) (some (z + 584)) (nI made) (nI (5 * n)) (nI n) (sumV v) (nI (v 2)) (nI id) (nI m) (tld v (nI id)) (stx v (nI id)) (npx v (nI id)) (nI (v 6)) (nI (v 4)) (nI (v 10)) (nI (v 8) + nI (v 9)) x19 n ρ) ∧ (¬ x19 ≤ -70 → w_L_law_b239 G K (some z) (some (z + 584)) (nI made) (nI (5 * n)) (nI n) (sumV v) (nI (v 2)) (nI id) (nI m) (tld v (nI id)) (stx v (nI id)) (npx v (nI id)) (nI (v 6)) (nI (v 4)) (nI (v 10)) (nI (v 8) + nI (v 9)) x19 (nI 1) n ρ))))) := fun ρ x19 hE hS3 =>
      pk_le kd 29 (fun _ => w238 hk hS3 hE) (fun _ => pk_le 38 kd (fun _ => w238 hk hS3 hE) (fun _ => by omega))
    exact l_does ⟨iv, by omega, by omega, hS2.1, fun ρ r w hr kp2 iv2 => post ρ _ (Or.inl ⟨r, w, hr, rfl, iv2⟩) (hS2.kp kp2), tf _ (fun ρ e he hE hS3 => post ρ e hE hS3)⟩ ak hN (by omega) hkd p hid
theorem w81 (hk : Tk G K z n B c made ct) (h : Iv μ z B c v ct V) (hS : Sums μ z made (made - ct) ct V v) (hkd : kd < 44) : w_L_law_b81 G K (some z) (some (z + 584)) (nI made) (nI (5 * n)) (nI n) (sumV v) (nI kd) n μ := by
  have hk9 := hk
  obtain ⟨h1, hN, n60, hB, mn, ec⟩ := hk9
  have ak : Ak μ z B v := h.ak (by omega) (by omega) (by omega)
  have l2 := ak.l.1.2.2
  have h104 : w_L_law_b104 G K (some z) (some (z + 584)) (nI made) (nI (5 * n)) (nI n) (sumV v) (nI kd) (nI (v 2)) n μ := by
    unfold w_L_law_b104
    rw [nI_add]
    exact ⟨by omega, a_pick hN (by omega) (by decide) (by decide) (fun j hj => w131 hk h hS hkd (by omega))⟩
  unfold w_L_law_b81
  refine ⟨by omega, z, rfl, ak.1.kz, a_messageCount ak ⟨fun _ => h104, fun e => ⟨fun _ => ?_, fun _ => h104⟩⟩⟩
  have n0 : v 2 ≠ 0 := fun q => e (by rw [q]; rfl)
  rw [nI_add]
  refine a_pick hN (by omega) (by omega) (by omega) (fun j hj => a_messageAt ak hj (w131 hk h hS hkd ?_))
  have i3 := ak.j.1.2.1.1 j hj
  have c3 := h.2.2.1.1.2.1
  omega
/-! all turns -/
def Bt (t : Nat) : Nat := 119 + 20000 * t
theorem Bt_s (t : Nat) : Bt (t + 1) = Bt t + 20000 := by
  unfold Bt
  rw [Nat.mul_succ, ← Nat.add_assoc]
theorem Bt_b (h : n ≤ 60) : 119 ≤ Bt n ∧ Bt n + 60000 < 2 ^ 26 := by
  unfold Bt
  omega
theorem lp59 (hN : gX G 6 < 2 ^ 31) : ∀ (d n : Nat) (μ : mmT) (made : Nat) (v : Nat → Nat) (ct : Nat) (V : Nat → Nat → Nat), n + d = 60 → Iv μ z (Bt n) (12 * n) v ct V → ct = (if made < 8 then made else 8) → made ≤ n → Sums μ z made (made - ct) ct V v → w_L_law_l28 G (d + 1) (some z) (some (z + 584)) (nI made) (nI (5 * n)) (nI n) n μ := by
  intro d
  induction d with
  | zero =>
    intro n μ made v ct V hn h hc hm hS
    obtain ⟨b1, b2⟩ := Bt_b (n := n) (by omega)
    show w_L_law_b28 G _ _ _ _ _ _ _ _
    unfold w_L_law_b28
    exact ⟨by omega, pk_le 60 n (fun _ => l_isKept (by omega) b1 (by omega) (by omega) hc h hS (fun _ => rfl)) (fun c => by omega)⟩
  | succ d ih =>
    intro n μ made v ct V hn h hc hm hS
    obtain ⟨b1, b2⟩ := Bt_b (n := n) (by omega)
    have hk : Tk G (w_L_law_l28 G (d + 1)) z n (Bt n) (12 * n) made ct := ⟨fun ρ made2 v2 ct2 V2 i2 e2 m2 s2 => by
      have := ih (n + 1) ρ made2 v2 ct2 V2 (by omega) (by rw [Bt_s, show 12 * (n + 1) = 12 * n + 12 by omega]; exact i2) e2 m2 s2
      rw [show 5 * (n + 1) = 5 * n + 5 by omega] at this
      exact this, hN, by omega, ⟨b1, b2, by omega⟩, hm, hc⟩
    have ak : Ak μ z (Bt n) v := h.ak (by omega) b1 (by omega)
    show w_L_law_b28 G _ _ _ _ _ _ _ _
    unfold w_L_law_b28
    refine ⟨by omega, pk_le 60 n (fun c => by omega) (fun _ => t_sumV ak ?_)⟩
    exact pk_le 2 n (fun _ => pk_le 4 n (fun _ => pk_le 10 n (fun _ => a_pick hN (by omega) (by decide) (by decide) (fun j hj => w81 hk h hS hj)) (fun _ => w81 hk h hS (by decide))) (fun _ => w81 hk h hS (by decide))) (fun _ => w81 hk h hS (by decide))
end LAWL
