/-! THE START: what holds before the first turn -/
def Fx (μ : mmT) : mmT := (mK μ, mN μ, mI μ, mR μ, mA μ, fun b i => if mK μ b = 39 ∧ 16 ≤ i then some (b + (24 + i)) else mB μ b i, mL μ, mD μ)
section START4
variable {G : mgT} {μ ν ρ μ0 : mmT} {z a b c i j k F n o L : Nat} {xs : Nat → Int32}
theorem Fx_B (h : ¬ (mK μ b = 39 ∧ 16 ≤ i)) : mB (Fx μ) b i = mB μ b i := if_neg h
theorem Fx_Be (h : mK μ b = 39 ∧ 16 ≤ i) : mB (Fx μ) b i = some (b + (24 + i)) := if_pos h
def v00 : Nat → Nat := fun _ => 0
theorem JB_00 : JB 119 0 v00 :=
  ⟨⟨⟨⟨⟨Nat.zero_le _, Nat.zero_le _, Nat.zero_le _⟩, fun n hn => absurd hn (Nat.not_lt_zero _), fun n hn => absurd hn (Nat.not_lt_zero _)⟩, ⟨fun n hn => absurd hn (Nat.not_lt_zero _), fun n q _ hn => absurd hn (Nat.not_lt_zero _)⟩, fun n hn => absurd hn (Nat.not_lt_zero _), ⟨fun n hn => absurd hn (Nat.not_lt_zero _), fun n q _ hn => absurd hn (Nat.not_lt_zero _)⟩, ⟨fun n k hn => absurd hn (Nat.not_lt_zero _), fun n k q hn => absurd hn (Nat.not_lt_zero _)⟩, rfl, rfl⟩, rfl, fun k => Nat.zero_le _⟩, Nat.le_refl _, fun n hn => absurd hn (Nat.not_lt_zero _), fun n hn => absurd hn (Nat.not_lt_zero _), fun n p hn => absurd hn (Nat.not_lt_zero _), ⟨Nat.le_refl _, rfl⟩, fun n hn => absurd hn (Nat.not_lt_zero _)⟩
theorem SS_00 (h : SI μ a) : SS (Fx μ) a := by
  obtain ⟨⟨⟨b1, b2, b3, b4⟩, -, -⟩, h2, h3, h4⟩ := h
  refine ⟨b1, b2, b3, b4, fun i hi => ?_, fun i hi => ?_, fun k hk => (h4 k hk).2.1⟩
  · rw [Fx_B (by omega)]; exact h2 i hi
  · rw [Fx_B (by omega)]; exact ⟨(h3 i hi).1, (h3 i hi).2.1⟩
theorem St_00 (h : SI μ a) : St (Fx μ) a v00 := by
  obtain ⟨⟨⟨b1, b2, b3, b4⟩, c1, c2⟩, h2, h3, h4⟩ := h
  refine ⟨(fun F k => mI μ F (a + k), fun k i => mA μ (a + k) i, fun i => i), ⟨fun F k _ => rfl, fun k i _ => rfl, fun i => ?_⟩, c1, c2, fun n hn => absurd hn (Nat.not_lt_zero _), fun n hn => absurd hn (Nat.not_lt_zero _), fun n hn => absurd hn (Nat.not_lt_zero _), fun p hp => ⟨hp, fun q _ e => e⟩, fun k hk => ?_, fun c hc => Or.inl (h3 c hc).2.2⟩
  · by_cases e : i < 16
    · rw [Fx_B (by omega)]; exact (h4 i e).1
    · rw [Fx_Be ⟨b3.2.2.1, by omega⟩]
      show some (a + 3 + (24 + i)) = some (a + (27 + i))
      rw [show a + 3 + (24 + i) = a + (27 + i) by omega]
  · show isCh (mI μ 132 (a + (27 + k)))
    rw [(h4 k hk).2.2]
    exact isCh_n (by decide)
theorem ok_00 (hz : ZO μ z) (ha : ZA μ z) : Iv (Fx μ) z 119 0 v00 0 (fun _ => v00) := by
  obtain ⟨s1, s2, s3, s4, ⟨b5, l5⟩, ⟨b6, l6⟩, o7⟩ := ha
  have hh : ∀ i, i < 8 → mB μ (z + 174) i = some (z + (175 + 43 * i)) ∧ SI μ (z + (175 + 43 * i)) := fun i q => by
    have := l5 i q
    rw [show z + 173 + (2 + 43 * i) = z + (175 + 43 * i) by omega] at this
    exact this
  have ht : ∀ i, i < 60 → mB μ (z + 521) i = some (z + (522 + i)) ∧ mK μ (z + (522 + i)) = 2 := fun i q => by
    have := l6 i q
    rw [show z + 519 + (3 + i) = z + (522 + i) by omega] at this
    exact this
  have k174 : mK μ (z + 174) = 41 := b5.2.2.1
  have k521 : mK μ (z + 521) = 37 := b6.2.2.2.2.2.1
  refine ⟨⟨⟨SS_00 s1, SS_00 s2, SS_00 s3, SS_00 s4, fun i q => SS_00 (hh i q).2⟩, hz.1, ⟨b5.1, b5.2.1, b5.2.2.1, b5.2.2.2.1, fun i q => ?_⟩, ⟨b6.1, b6.2.1, b6.2.2.1, b6.2.2.2.1, b6.2.2.2.2.1, b6.2.2.2.2.2.1, b6.2.2.2.2.2.2.1, fun i q => ?_⟩, ⟨o7.1, o7.2.1, o7.2.2.1, o7.2.2.2.1⟩⟩,
    ⟨St_00 s1, (St_00 s2).f, (St_00 s3).f, 0, ⟨b5.2.2.2.2.1, b5.2.2.2.2.2, by decide, by decide⟩, fun i q => ?_⟩, ⟨⟨JB_00, Nat.zero_le _, fun k q => absurd q (Nat.not_lt_zero _)⟩, ((0, v00), ((0, v00), ((-1, -1), (0, v00)))), ⟨⟨hz.2.1, (St_00 s4).f, fun q => absurd q (by decide)⟩, ⟨b6.2.2.2.2.2.2.2, fun i q => absurd q (Nat.not_lt_zero _)⟩, ⟨hz.2.2.1, hz.2.2.2⟩, ⟨o7.2.2.2.2.1, o7.2.2.2.2.2, fun i q => absurd q (Nat.not_lt_zero _)⟩⟩,
    ⟨Nat.zero_le _, fun q => absurd q (by decide), Nat.zero_le _, fun i q => absurd q (Nat.not_lt_zero _), Nat.zero_le _, fun i q => absurd q (Nat.not_lt_zero _)⟩⟩⟩
  · rw [Fx_B (by rw [k174]; omega)]; exact (hh i q).1
  · rw [Fx_B (by rw [k521]; omega)]; exact ht i q
  · obtain ⟨S, q1, q2⟩ := St_00 (hh i q).2
    exact ⟨S, q1, ⟨q2.2.2.2.2.2.1, q2.2.2.2.2.2.2⟩, fun k q => absurd q (Nat.not_lt_zero _)⟩
end START4
section FX
variable {G : mgT} {μ : mmT} {H : Heap}
theorem arrV_cg {c : ClassId} {n : Nat} {f g : Nat → Value} (h : ∀ i, i < n → f i = g i) : arrV c n f = arrV c n g := by
  have e : (fun i : Fin n => f i.val) = (fun i : Fin n => g i.val) := funext fun i => h i.1 i.2
  unfold arrV
  rw [e]
theorem mmE_fx {j a i : Nat} (h : ¬ (mK μ a = 39 ∧ 16 ≤ i)) : mmE (Fx μ) j a i = mmE μ j a i := by
  have e := Fx_B h
  match j with
  | 0 => rfl
  | 1 => rfl
  | 2 => rfl
  | 3 => rfl
  | 4 => rfl
  | j + 5 => exact congrArg va_rf e
theorem Mm_fx (h : Mm G μ H) (hm : M39 μ) : Mm G (Fx μ) H := by
  intro a ha
  obtain ⟨h1, h2, h3, h4⟩ := h a ha
  refine ⟨h1, h2, h3, fun j hj => ?_⟩
  obtain ⟨q1, q2⟩ := h4 j hj
  refine ⟨q1, q2.trans (congrArg some (arrV_cg (fun i hi => (mmE_fx (fun e => ?_)).symm)))⟩
  have := hm a e.1
  omega
end FX
