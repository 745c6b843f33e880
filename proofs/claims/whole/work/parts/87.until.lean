/-! WHAT IS FORESEEN -/
/-- the minute k, k + 1 .. (d of them) in which the message x is delivered, or 0 -/
def fUD (x : Int32) : Nat → Nat → (Nat → Nat) → Nat
  | 0, _, _ => 0
  | d + 1, k, v => if fPl (fMinute v) x < fMinute v 2 then (if fMinute v (146 + 7 * fPl (fMinute v) x + 4) = 100 then k else fUD x d (k + 1) (fMinute v)) else 0
section UNTIL
variable {G : mgT} {μ ν ρ σ : mmT} {z a b c c2 m i F nx ct t o L : Nat} {S S2 : cT} {v w v0 : Nat → Nat} {V : Nat → Nat → Nat} {R : rT} {B B2 : Nat} {x : Int32}
theorem fUD_le : ∀ d k v, k + d ≤ 101 → fUD x d k v ≤ 100
  | 0, _, _, _ => Nat.zero_le _
  | d + 1, k, v, h => by
    unfold fUD
    split
    · split
      · omega
      · exact fUD_le d (k + 1) _ (by omega)
    · exact Nat.zero_le _
theorem t_fl {Q : Int32 → mmT → Prop} (r : Nat) (hT : ST μ z) (hq : ∀ ν, Ag z μ ν (fun b => z + 87 ≤ b ∧ b < z + 130) → Sf ν (z + 87) → Q (if r = 0 then -1 else nI r) ν) : ∀ d k w b ν, k + d = 101 → 1 ≤ k → St ν (z + 87) w → J b 16 w → 119 ≤ b → b + 13 * d + 1300 < 2 ^ 26 → Ag z μ ν (fun b => z + 87 ≤ b ∧ b < z + 130) → fUD x d k w = r → w_X10_foreseenMinutes_l13 G z Q (d + 1) x (nI k) ν
  | 0, k, w, b, ν, hk, h1, s, hJ, hb, hb2, g, hr => by
    show w_X10_foreseenMinutes_b13 G z Q _ x (nI k) ν
    unfold w_X10_foreseenMinutes_b13
    have e : k = 101 := by omega
    subst e
    have r0 : r = 0 := hr.symm
    have := hq ν g s.f
    rw [if_pos r0] at this
    exact pk_lt 100 101 (fun _ => this) (fun c => by omega)
  | d + 1, k, w, b, ν, hk, h1, s, hJ, hb, hb2, g, hr => by
    show w_X10_foreseenMinutes_b13 G z Q _ x (nI k) ν
    unfold w_X10_foreseenMinutes_b13
    have hT2 := hT.ag g
    refine pk_lt 100 k (fun c => by omega) (fun _ => ⟨hT2.kz, _, hT2.z3, hT2.s3.1, wS (W := fun ν => w_X8_pass G ν (z + 87) (nI 1) _) s (fun S r1 => ?_)⟩)
    refine t_pass hT2.s3 hb (by omega) r1 hJ (fun k2 _ _ e S' r' => ?_) (fun q => absurd rfl (q 1 (by decide) (by decide)))
    obtain rfl := nI_inj (by omega) (by omega) e
    have r2 : Rel S' (fMinute w) 4 16 := r'
    have hJ2 := (J_minute hb (by omega) hJ).1
    have l2 := hJ2.1.1
    have g2 : Ag z ν (CT ν (z + 87) S') (fun b => z + 87 ≤ b ∧ b < z + 87 + 43) := Ag_CT R0_3
    have g3 : Ag z μ (CT ν (z + 87) S') (fun b => z + 87 ≤ b ∧ b < z + 130) := (g.tr g2).up (fun b hb => by omega)
    have hT3 := hT2.ag g2
    refine ⟨hT3.kz, _, hT3.z3, hT3.s3.1, t_messageWith hT2.s3 r2.1 (rel_p r2 l2) l2.1.2.2 ?_⟩
    unfold fUD at hr
    by_cases q : fPl (fMinute w) x < fMinute w 2
    · rw [if_pos q] at hr ⊢
      have hc := rel_P r2 l2 q
      refine ⟨fun z => (nomatch z), fun a18 e => ?_⟩
      cases e
      have bs := hJ2.2.2 (146 + 7 * fPl (fMinute w) x + 4)
      rw [CT_I (by omega), (r2.2.2.2.2.1 _ q).1.2.2.2.2]
      refine ⟨hT2.s3.mk hc, fun c => ?_, fun c => ?_⟩
      · rw [if_neg (fun e => c (by rw [e]))] at hr
        rw [nI_add]
        exact t_fl r hT hq d (k + 1) (fMinute w) (b + 13) _ (by omega) (by omega) (St_CT r2) hJ2 (by omega) (by omega) g3 hr
      · rw [if_pos (nI_inj (by omega) (by decide) c)] at hr
        have := hq _ g3 (St_CT r2).f
        rw [if_neg (by omega), ← hr] at this
        exact this
    · rw [if_neg q] at hr ⊢
      have := hq _ g3 (St_CT r2).f
      rw [if_pos hr.symm] at this
      exact ⟨fun _ => this, fun a z => (nomatch z)⟩
theorem t_foreseen {Q : Int32 → mmT → Prop} (hT : ST μ z) (s1 : St μ (z + 1) v) (s3 : Sf μ (z + 87)) (h : J B 16 v) (hb : 119 ≤ B) (hb2 : B + 2600 < 2 ^ 26)
    (hq : ∀ ν, Ag z μ ν (fun b => z + 87 ≤ b ∧ b < z + 130) → Sf ν (z + 87) → Q (if fUD x 100 1 v = 0 then -1 else nI (fUD x 100 1 v)) ν) : w_X10_foreseenMinutes G μ z x Q := by
  unfold w_X10_foreseenMinutes
  refine ⟨hT.kz, _, hT.z3, hT.s3.1, ?_⟩
  rw [hT.z1]
  exact w_copy (z := z) R0_3 hT.s3 hT.s1 (by omega) s3 s1 h.1.1 (fun ν g s => ⟨101, t_fl (fUD x 100 1 v) hT hq 100 1 v B ν rfl (by decide) s h hb (by omega) (g.up (fun b hb => by omega)) rfl⟩)
/-- the reference: the row comes back -/
theorem s_b138 {Q : Int32 → mmT → Prop} {r : Nat} (hr : r < 2 ^ 31) (hm : MS σ m) (hf : mR σ 325 m = some (m + 5) ∧ mK σ (m + 5) = 34 ∧ mN σ (m + 5) = 258) (hv : ∀ q, q < 258 → mA σ (m + 5) q = nI (v q))
    (h1 : r ≠ 0 → Q (nI r) (VT σ m (mx v w))) (h0 : r = 0 → Q (nI 0) (VT (sI σ 320 m (nI 2)) m (mx v w))) : w_X11_minutesUntilDelivered_b138 G m Q (nI r) (VT σ m w) := by
  unfold w_X11_minutesUntilDelivered_b138
  refine (lpE (W := fun n i => w_X11_minutesUntilDelivered_l141 G m Q n (nI r) (nI i) (VT σ m (fun k => if k < i then v k else w k))) (N := 258) ?_ (Nat.zero_le _)).imp fun n hn => ?_
  · intro n i hi ih
    show w_X11_minutesUntilDelivered_b141 G m Q _ (nI r) (nI i) _
    unfold w_X11_minutesUntilDelivered_b141 w_X11_minutesUntilDelivered_b182 w_X11_fails
    refine pk_le 258 i (fun cc => ?_) (fun cc => ⟨hm.1, m + 5, hf.1, hf.2.1, ?_, m + 1, hm.2.1, hm.2.2.1, ?_, ?_⟩)
    · have : i = 258 := by omega
      subst this
      exact ⟨fun c => h1 (fun e => c (by rw [e]; rfl)), fun c => ⟨hm.1, hm.1, h0 (nI_inj hr (by decide) c)⟩⟩
    · show vp_in _ (mN σ (m + 5))
      rw [hf.2.2]
      exact vp_in_nI cc (by omega)
    · show vp_in _ (mN σ (m + 1))
      rw [hm.2.2.2]
      exact vp_in_nI cc (by omega)
    · rw [cl (by omega), VT_Ao (by omega), hv i cc, VT_sA, nI_add]
      have := ih cc
      rw [VT_c (fun j => ?_)] at this
      · exact this
      · rw [up_a]
        by_cases y : j = i
        · rw [if_pos y, if_pos (by omega), y]
        · rw [if_neg y]
          by_cases z : j < i
          · rw [if_pos z, if_pos (by omega)]
          · rw [if_neg z, if_neg (by omega)]
  · rw [VT_c (w := w) (fun j => ?_)] at hn
    · exact hn
    · rw [if_neg (Nat.not_lt_zero j)]
theorem s_l76 {Q : Int32 → mmT → Prop} (r : Nat) (hr : r ≤ 100) (hm : MS σ m) (hf : mR σ 325 m = some (m + 5) ∧ mK σ (m + 5) = 34 ∧ mN σ (m + 5) = 258) (hv : ∀ q, q < 258 → mA σ (m + 5) q = nI (v q))
    (h1 : r ≠ 0 → ∀ w, Bd B w → Q (nI r) (VT σ m (mx v w))) (h0 : r = 0 → ∀ w, Bd B w → Q (nI 0) (VT (sI σ 320 m (nI 2)) m (mx v w))) :
    ∀ d k w b, k + d = 101 → 1 ≤ k → J b 16 w → 119 ≤ b → b + 13 * d ≤ B → B < 2 ^ 26 → (if fPl w x < w 2 then fUD x d k w else 0) = r → w_X11_minutesUntilDelivered_l76 G m Q (d + 2) x (nI 0) (nI k) (VT σ m w)
  | 0, k, w, b, hk, k1, hJ, hb, hb2, hB, e => by
    show w_X11_minutesUntilDelivered_b76 G m Q _ x (nI 0) (nI k) (VT σ m w)
    unfold w_X11_minutesUntilDelivered_b76
    have e2 : k = 101 := by omega
    subst e2
    have r0 : r = 0 := by
      rw [← e]
      split <;> rfl
    exact pk_lt 100 101 (fun _ => s_b138 (r := 0) (by decide) hm hf hv (fun q => absurd rfl q) (fun _ => h0 r0 w (Bd_mono hJ.2.2 (by omega)))) (fun c => by omega)
  | d + 1, k, w, b, hk, k1, hJ, hb, hb2, hB, e => by
    show w_X11_minutesUntilDelivered_b76 G m Q _ x (nI 0) (nI k) (VT σ m w)
    unfold w_X11_minutesUntilDelivered_b76
    have l := hJ.1.1
    refine pk_lt 100 k (fun c => by omega) (fun _ => ⟨fun c => absurd rfl c, fun _ => ⟨hm.1, s_X11_placeOf hm l.1.2.2 ?_⟩⟩)
    by_cases q : fPl w x < w 2
    · rw [if_pos q] at e
      rw [pn_y q]
      have l2 := l.1.2.2
      refine ⟨fun c => absurd c (nI_m1 (by omega)), fun _ => s_X11_minute hm hb (by omega) hJ ⟨hm.1, ?_⟩⟩
      have hJ2 := (J_minute hb (by omega) hJ).1
      have l3 := hJ2.1.1
      refine s_X11_placeOf hm l3.1.2.2 ?_
      unfold fUD at e
      unfold w_X11_minutesUntilDelivered_b130 w_X11_minutesUntilDelivered_b131
      by_cases q2 : fPl (fMinute w) x < fMinute w 2
      · rw [if_pos q2] at e
        rw [pn_y q2]
        have l4 := l3.1.2.2
        have bs := hJ2.2.2 (146 + 7 * fPl (fMinute w) x + 4)
        refine ⟨fun c => absurd c (nI_m1 (by omega)), fun _ => s_X11_of hm (by omega) ⟨fun c => ?_, fun c => ?_⟩⟩
        · rw [if_neg (fun e => c (by rw [e]))] at e
          rw [nI_add]
          exact s_l76 r hr hm hf hv h1 h0 d (k + 1) (fMinute w) (b + 13) (by omega) (by omega) hJ2 (by omega) (by omega) hB (by rw [if_pos q2]; exact e)
        · rw [if_pos (nI_inj (by omega) (by decide) c)] at e
          have rk : r ≠ 0 := by omega
          subst e
          rw [nI_add]
          show w_X11_minutesUntilDelivered_b76 G m Q _ x (nI k) (nI (k + 1)) (VT σ m (fMinute w))
          unfold w_X11_minutesUntilDelivered_b76
          have F := s_b138 (G := G) (Q := Q) (w := fMinute w) (r := k) (by omega) hm hf hv (fun _ => h1 rk _ (Bd_mono hJ2.2.2 (by omega))) (fun z => absurd z rk)
          exact pk_lt 100 (k + 1) (fun _ => F) (fun _ => ⟨fun _ => F, fun c => absurd c (nI_ne0 (by omega) (by omega))⟩)
      · rw [if_neg q2] at e
        rw [pn_n q2]
        refine ⟨fun _ => ?_, fun c => absurd rfl c⟩
        rw [nI_add]
        exact s_l76 r hr hm hf hv h1 h0 d (k + 1) (fMinute w) (b + 13) (by omega) (by omega) hJ2 (by omega) (by omega) hB (by rw [if_neg q2]; exact e)
    · rw [if_neg q] at e
      rw [pn_n q]
      exact ⟨fun _ => s_b138 (r := 0) (by decide) hm hf hv (fun q => absurd rfl q) (fun _ => h0 e.symm w (Bd_mono hJ.2.2 (by omega))), fun c => absurd rfl c⟩
theorem s_until {Q : Int32 → mmT → Prop} (hm : MS μ m) (hf : mR μ 325 m = some (m + 5) ∧ mK μ (m + 5) = 34 ∧ mN μ (m + 5) = 258) (h : J B 16 v) (hb : 119 ≤ B) (hb2 : B + 2600 < 2 ^ 26)
    (h1 : fPl v x < v 2 → v (146 + 7 * fPl v x + 4) ≠ 100 → fUD x 100 1 v ≠ 0 → ∀ g w, Bd (B + 1300) w → Q (nI (fUD x 100 1 v)) (VT (AT (sI μ 320 m (nI 0)) (m + 5) g) m (mx v w)))
    (h3 : fPl v x < v 2 → v (146 + 7 * fPl v x + 4) ≠ 100 → fUD x 100 1 v = 0 → ∀ g w, Bd (B + 1300) w → Q (nI 0) (VT (sI (AT (sI μ 320 m (nI 0)) (m + 5) g) 320 m (nI 2)) m (mx v w)))
    (h2 : fPl v x < v 2 → v (146 + 7 * fPl v x + 4) = 100 → Q (nI 0) (VT (sI μ 320 m (nI 2)) m v)) (h0 : ¬ fPl v x < v 2 → Q (nI 0) (VT (sI μ 320 m (nI 1)) m v)) : w_X11_minutesUntilDelivered G (VT μ m v) m x Q := by
  have l := h.1.1
  have l2 := l.1.2.2
  have e0 : ∀ k, mI (sI (VT μ m v) 320 m (nI k)) 320 m = nI k := fun k => sI_e
  unfold w_X11_minutesUntilDelivered w_X11_minutesUntilDelivered_b32
  refine ⟨hm.1, s_X11_placeOf hm l2 ?_⟩
  by_cases q : fPl v x < v 2
  · rw [pn_y q]
    have bs := h.2.2 (146 + 7 * fPl v x + 4)
    refine ⟨fun _ => s_X11_of hm (by omega) ⟨fun c => ?_, fun c => ?_⟩, fun e => absurd e (nI_m1 (by omega))⟩
    · have c' : v (146 + 7 * fPl v x + 4) ≠ 100 := fun e => c (by rw [e])
      refine ⟨m, rfl, hm.1, hm.1, fun _ => ?_, fun z => absurd (by rw [e0]; decide) z⟩
      rw [VT_sI]
      have h1' := h1 q c'
      have h3' := h3 q c'
      clear h0 h1 h2 h3 e0
      have hm2 : MS (sI μ 320 m (nI 0)) m := hm
      have hf2 : mR (sI μ 320 m (nI 0)) 325 m = some (m + 5) ∧ mK (sI μ 320 m (nI 0)) (m + 5) = 34 ∧ mN (sI μ 320 m (nI 0)) (m + 5) = 258 := hf
      generalize sI μ 320 m (nI 0) = σ at *
      refine (lpE (W := fun n i => w_X11_minutesUntilDelivered_l46 G m Q n x (nI i) (VT (AT σ (m + 5) (fun k => if k < i then nI (v k) else mA σ (m + 5) k)) m v)) (N := 258) ?_ (Nat.zero_le _)).imp fun n hn => ?_
      · intro n i hi ih
        show w_X11_minutesUntilDelivered_b46 G m Q _ x (nI i) _
        unfold w_X11_minutesUntilDelivered_b46
        refine pk_le 258 i (fun cc => ?_) (fun cc => ⟨hm2.1, m + 1, hm2.2.1, hm2.2.2.1, ?_, m + 5, hf2.1, hf2.2.1, ?_, ?_⟩)
        · have : i = 258 := by omega
          subst this
          exact ⟨102, s_l76 (σ := AT σ (m + 5) (fun k => if k < 258 then nI (v k) else mA σ (m + 5) k)) (v := v) (B := B + 1300) (fUD x 100 1 v) (fUD_le 100 1 v (by decide)) hm2 hf2 (fun q hq => by rw [AT_A, if_pos hq]) (fun e w hw => h1' e _ w hw) (fun e w hw => h3' e _ w hw) 100 1 v B rfl (by decide) h hb (by omega) (by omega) (by rw [if_pos q])⟩
        · show vp_in _ (mN σ (m + 1))
          rw [hm2.2.2.2]
          exact vp_in_nI cc (by omega)
        · show vp_in _ (mN σ (m + 5))
          rw [hf2.2.2]
          exact vp_in_nI cc (by omega)
        · rw [cl (by omega), VT_A, VT_sAo (by omega), AT_sA, nI_add]
          have := ih cc
          rw [AT_c (fun j => ?_)] at this
          · exact this
          · by_cases y : j = i
            · rw [if_pos y, if_pos (by omega), y]
            · rw [if_neg y]
              by_cases z : j < i
              · rw [if_pos z, if_pos (by omega)]
              · rw [if_neg z, if_neg (by omega)]
      · have e : AT σ (m + 5) (fun k => if k < 0 then nI (v k) else mA σ (m + 5) k) = σ := Eq.trans (AT_c (fun j => if_neg (Nat.not_lt_zero j))) AT_self
        rw [e] at hn
        exact hn
    · have c' := nI_inj (by omega) (by decide) c
      exact ⟨m, rfl, hm.1, hm.1, fun z => absurd z (by rw [e0]; decide), fun _ => h2 q c'⟩
  · rw [pn_n q]
    exact ⟨fun c => absurd rfl c, fun _ => ⟨m, rfl, hm.1, hm.1, fun z => absurd z (by rw [e0]; decide), fun _ => h0 q⟩⟩
end UNTIL
