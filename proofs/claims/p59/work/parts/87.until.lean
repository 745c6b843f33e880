/-! WHAT IS FORESEEN -/
/-- the minute k, k + 1 .. (d of them) in which the message x is delivered, or 0 -/
def fUD (x : Int32) : Nat → Nat → (Nat → Nat) → Nat
  | 0, _, _ => 0
  | d + 1, k, v => if fPl (fMinute v) x < fMinute v 2 then (if fMinute v (146 + 7 * fPl (fMinute v) x + 4) = 100 then k else fUD x d (k + 1) (fMinute v)) else 0
section UNTIL
variable {G : mgT} {μ ν ρ σ : mmT} {z a b c c2 m i F nx ct t o L : Nat} {S S2 : cT} {v w v0 : Nat → Nat} {V : Nat → Nat → Nat} {R : rT} {B B2 : Nat} {x : Int32}
theorem fUD_le : ∀ d k v, k + d ≤ 101 → fUD x d k v ≤ 100
  | 0, _, _, _ => Nat.zero_le _
  | d + 1, k, v, h => by
    unfold fUD
    split
    · split
      · omega
      · exact fUD_le d (k + 1) _ (by omega)
    · exact Nat.zero_le _
theorem t_fl {Q : Int32 → mmT → Prop} (r : Nat) (hT : ST μ z) (hq : ∀ ν, Ag z μ ν (fun b => z + 87 ≤ b ∧ b < z + 130) → Sf ν (z + 87) → Q (if r = 0 then -1 else nI r) ν) : ∀ d k w b ν, k + d = 101 → 1 ≤ k → St ν (z + 87) w → J b 16 w → 119 ≤ b → b + 13 * d + 1300 < 2 ^ 26 → Ag z μ ν (fun b => z + 87 ≤ b ∧ b < z + 130) → fUD x d k w = r → w_X10_foreseenMinutes_l13 G z Q (d + 1) x (nI k) ν
  | 0, k, w, b, ν, hk, h1, s, hJ, hb, hb2, g, hr => by
    show w_X10_foreseenMinutes_b13 G z Q _ x (nI k) ν
    unfold w_X10_foreseenMinutes_b13
    have e : k = 101 := by omega
    subst e
    have r0 : r = 0 := hr.symm
    have := hq ν g s.f
    rw [if_pos r0] at this
    exact pk_lt 100 101 (fun _ => this) (fun c => by omega)
  | d + 1, k, w, b, ν, hk, h1, s, hJ, hb, hb2, g, hr => by
    show w_X10_foreseenMinutes_b13 G z Q _ x (nI k) ν
    unfold w_X10_foreseenMinutes_b13
    have hT2 := hT.ag g
    refine pk_lt 100 k (fun c => by omega) (fun _ => ⟨hT2.kz, _, hT2.z3, hT2.s3.1, wS (W := fun ν => w_X8_pass G ν (z + 87) (nI 1) _) s (fun S r1 => ?_)⟩)
    refine t_pass hT2.s3 hb (by omega) r1 hJ (fun k2 _ _ e S' r' => ?_) (fun q => absurd rfl (q 1 (by decide) (by decide)))
    obtain rfl := nI_inj (by omega) (by omega) e
    have r2 : Rel S' (fMinute w) 4 16 := r'
    have hJ2 := (J_minute hb (by omega) hJ).1
    have l2 := hJ2.1.1
    have g2 : Ag z ν (CT ν (z + 87) S') (fun b => z + 87 ≤ b ∧ b < z + 87 + 43) := Ag_CT R0_3
    have g3 : Ag z μ (CT ν (z + 87) S') (fun b => z + 87 ≤ b ∧ b < z + 130) := (g.tr g2).up (fun b hb => by omega)
    have hT3 := hT2.ag g2
    refine ⟨hT3.kz, _, hT3.z3, hT3.s3.1, t_messageWith hT2.s3 r2.1 (rel_p r2 l2) l2.1.2.2 ?_⟩
    unfold fUD at hr
    by_cases q : fPl (fMinute w) x < fMinute w 2
    · rw [if_pos q] at hr ⊢
      have hc := rel_P r2 l2 q
      refine ⟨fun z => (nomatch z), fun a18 e => ?_⟩
      cases e
      have bs := hJ2.2.2 (146 + 7 * fPl (fMinute w) x + 4)
      rw [CT_I (by omega), (r2.2.2.2.2.1 _ q).1.2.2.2.2]
      refine ⟨hT2.s3.mk hc, fun c => ?_, fun c => ?_⟩
      · rw [if_neg (fun e => c (by rw [e]))] at hr
        rw [nI_add]
        exact t_fl r hT hq d (k + 1) (fMinute w) (b + 13) _ (by omega) (by omega) (St_CT r2) hJ2 (by omega) (by omega) g3 hr
      · rw [if_pos (nI_inj (by omega) (by decide) c)] at hr
        have := hq _ g3 (St_CT r2).f
        rw [if_neg (by omega), ← hr] at this
        exact this
    · rw [if_neg q] at hr ⊢
      have := hq _ g3 (St_CT r2).f
      rw [if_pos hr.symm] at this
      exact ⟨fun _ => this, fun a z => (nomatch z)⟩
theorem t_foreseen {Q : Int32 → mmT → Prop} (hT : ST μ z) (s1 : St μ (z + 1) v) (s3 : Sf μ (z + 87)) (h : J B 16 v) (hb : 119 ≤ B) (hb2 : B + 2600 < 2 ^ 26)
    (hq : ∀ ν, Ag z μ ν (fun b => z + 87 ≤ b ∧ b < z + 130) → Sf ν (z + 87) → Q (if fUD x 100 1 v = 0 then -1 else nI (fUD x 100 1 v)) ν) : w_X10_foreseenMinutes G μ z x Q := by
  unfold w_X10_foreseenMinutes
  refine ⟨hT.kz, _, hT.z3, hT.s3.1, ?_⟩
  rw [hT.z1]
  exact w_copy (z := z) R0_3 hT.s3 hT.s1 (by omega) s3 s1 h.1.1 (fun ν g s => ⟨101, t_fl (fUD x 100 1 v) hT hq 100 1 v B ν rfl (by decide) s h hb (by omega) (g.up (fun b hb => by omega)) rfl⟩)
end UNTIL
