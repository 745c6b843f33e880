/-! WHAT A TURN DOES -/
section DOES
variable {G : mgT} {μ ν ρ σ : mmT} {z a b c m i j k n o s e zz ct id nn kd : Nat} {P P2 : Nat → Prop} {x y z1 z2 x2 x4 x5 x6 x7 x8 : Int32} {B : Nat} {v w : Nat → Nat} {V : Nat → Nat → Nat} {Q : Int32 → mmT → Prop}
abbrev Pz (z : Nat) : Nat → Prop := fun b => z + 585 ≤ b
/-- what a text needs, what comes of it -/
def Wd (Q : Int32 → mmT → Prop) (μ : mmT) (z B c : Nat) (v : Nat → Nat) (ct : Nat) (V : Nat → Nat → Nat) : Prop := Iv μ z B c v ct V ∧ 119 ≤ B ∧ B + 20000 < 2 ^ 26 ∧ mK μ (z + 584) = 35 ∧ TD Q μ z B c v ct V ∧ TF2 Q μ z B c v ct V
theorem Wd.fh (h : Wd Q μ z B c v ct V) (g : Fp (Pz z) μ ν) : ∀ q, Fh ν q → z + 585 ≤ q := fun q fq => by
  have := Fh.lt fq ((g.kk (b := z + 584) (by show ¬ z + 585 ≤ z + 584; omega)).trans h.2.2.2.1) (by decide)
  omega
theorem b_fin (h : Wd Q μ z B c v ct V) (g : Fp (Pz z) μ ν) (hB : Bl ν o n) : ∃ a34, (some o) = some a34 ∧ (mK ν a34 = 1 ∧ w_J4_toString_0e30d G ν a34 (fun ru37 μ38 => w_L_runs G μ38 (some z) ru37 Q)) :=
  ⟨o, rfl, hB.1.1, b_toS hB (h.fh g) (fun ρ s a l1 l2 _ _ f hS => r_runs h.1 h.2.1 h.2.2.1 ((g.tr f).up (fun b q => by show z + 585 ≤ b; rcases q with q | q; exact q; exact q.1)) hS l1 l2 h.2.2.2.2.1 h.2.2.2.2.2)⟩
theorem b_tail (h : Wd Q μ z B c v ct V) (g : Fp (Pz z) μ ν) (ho : z + 585 ≤ o) (hB : Bl ν o n) (hS : Sg ν s a m) (hm : n + m ≤ 16) : ∃ a58, (some o) = some a58 ∧ (mK ν a58 = 1 ∧ w_J4_append_15ec4_D G ν a58 (some s) (fun ru61 μ62 => ∃ a63, ru61 = some a63 ∧ (mK μ62 a63 = 1 ∧ w_J4_toString_0e30d G μ62 a63 (fun ru66 μ67 => w_L_runs G μ67 (some z) ru66 Q)))) :=
  ⟨o, rfl, hB.1.1, b_sD hB hS hm (fun ρ f hB2 => b_fin h ((g.tr f).up (fun b q => by show z + 585 ≤ b; rcases q with q | q; exact q; omega)) hB2)⟩
/-- the inner text -/
theorem b_inner {K : Option Nat → mmT → Prop} (ho : z + 585 ≤ o) (hB : Bl ν o n) (hI : Bl ρ zz m) (hz : o + 1 < zz) (g : Fp (fun b => o + 2 ≤ b) ν ρ) (h : ∀ σ s a, Fp (fun b => o + 2 ≤ b) ν σ → Bl σ o n → Sg σ s a m → K (some s) σ) : ∃ a53, (some zz) = some a53 ∧ (mK ρ a53 = 1 ∧ w_J4_toString_0e30d G ρ a53 K) := by
  have hB2 : Bl ρ o n := hB.fp g (by omega) (by omega)
  refine ⟨zz, rfl, hI.1.1, b_toS (lo := o + 2) hI (fun q fq => ?_) (fun σ s a l1 l2 _ _ f hS => ?_)⟩
  · have := Fh.lt fq hB2.1.2.2.1 (by decide)
    omega
  · have g2 : Fp (fun b => o + 2 ≤ b) ν σ := (g.tr f).up (fun b q => by rcases q with q | q; exact q; exact q.1)
    exact h σ s a g2 (hB.fp g2 (by omega) (by omega)) hS
theorem dS_1 (h : k < 10) : dS k = 1 := if_pos h
theorem dS_le (h : k < 1000) : dS k ≤ 3 := by
  have := dS_c (show k < 10000 by omega)
  omega
theorem dS_le2 (h : k < 100) : dS k ≤ 2 := by
  have := dS_c (show k < 10000 by omega)
  omega
theorem l8 : gLen.getD 8 0 = 5 ∧ gLen.getD 9 0 = 6 ∧ gLen.getD 10 0 = 1 ∧ gLen.getD 12 0 = 6 ∧ gLen.getD 13 0 = 6 ∧ gLen.getD 14 0 = 1 := by decide
theorem l_text (h : Wd Q μ z B c v ct V) (ha : a < 1000) (hid : id < 1000) (hn : nn < 10) : w_L_does_b324 G Q (some z) (nI id) (nI a) (nI nn) μ := by
  unfold w_L_does_b324
  intro o fo
  have ho := h.fh Fp_rf o fo
  rw [pk_rem (by omega) (by decide) (by decide), pk_rem (by omega) (by decide) (by decide), pk_rem (by omega) (by decide) (by decide), nI_add]
  refine b_new (fun ν f1 hB => ⟨hB.1.1, b_str hB (by decide) (by rw [l8.1]; decide) (fun ν f2 hB => ⟨o, rfl, hB.1.1, ?_⟩)⟩)
  have g1 : Fp (Pz z) μ ν := (f1.tr f2).up (fun b q => by show z + 585 ≤ b; omega)
  rw [l8.1] at hB
  have d9 : 1 + a % 9 < 10 := by omega
  refine b_int hB (by omega) (by rw [dS_1 d9]; decide) (fun ν f3 hB => ?_)
  have g : Fp (Pz z) μ ν := (g1.tr f3).up (fun b q => by show z + 585 ≤ b; rcases q with q | q; exact q; omega)
  rw [dS_1 d9] at hB
  have hB : Bl ν o 6 := hB
  have fz : ∀ zz, Fh ν zz → o + 1 < zz := fun zz q => Fh.lt q hB.1.2.2.1 (by decide)
  have gg : ∀ σ, Fp (fun b => o + 2 ≤ b) ν σ → Fp (Pz z) μ σ := fun σ f => (g.tr f).up (fun b q => by show z + 585 ≤ b; rcases q with q | q; exact q; omega)
  clear f1 f2 f3 g1
  refine ⟨fun _ => ⟨fun _ => ⟨fun _ => ⟨o, rfl, hB.1.1, b_str hB (by decide) (by rw [l8.2.2.2.2.2]; decide) (fun ρ f hB2 => b_fin h ((g.tr f).up (fun b q => by show z + 585 ≤ b; rcases q with q | q; exact q; omega)) hB2)⟩, fun _ zz q => ?_⟩, fun _ zz q => ?_⟩, fun _ zz q => ?_⟩
  · have oz := fz zz q
    refine b_new (fun ρ f1 hI => ⟨hI.1.1, b_str hI (by decide) (by rw [l8.2.2.2.2.1]; decide) (fun ρ f2 hI => ⟨zz, rfl, hI.1.1, ?_⟩)⟩)
    rw [l8.2.2.2.2.1] at hI
    refine b_int hI (by omega) (by rw [dS_1 hn]; decide) (fun ρ f3 hI => ?_)
    rw [dS_1 hn] at hI
    exact b_inner ho hB hI oz (((f1.tr f2).tr f3).up (fun b q => by omega)) (fun σ s a f hB hS => b_tail h (gg σ f) ho hB hS (by decide))
  · have oz := fz zz q
    refine b_new (fun ρ f1 hI => ⟨hI.1.1, b_str hI (by decide) (by rw [l8.2.2.2.1]; decide) (fun ρ f2 hI => ⟨zz, rfl, hI.1.1, ?_⟩)⟩)
    rw [l8.2.2.2.1] at hI
    have d3 := dS_le hid
    refine b_int hI hid (by omega) (fun ρ f3 hI => ?_)
    exact b_inner ho hB hI oz (((f1.tr f2).tr f3).up (fun b q => by omega)) (fun σ s a f hB hS => b_tail h (gg σ f) ho hB hS (by omega))
  · have oz := fz zz q
    refine b_new (fun ρ f1 hI => ⟨hI.1.1, b_str hI (by decide) (by rw [l8.2.1]; decide) (fun ρ f2 hI => ⟨zz, rfl, hI.1.1, ?_⟩)⟩)
    rw [l8.2.1] at hI
    refine b_int hI (by omega) (by rw [dS_1 hn]; decide) (fun ρ f3 hI => ⟨zz, rfl, hI.1.1, ?_⟩)
    rw [dS_1 hn] at hI
    refine b_str hI (by decide) (by rw [l8.2.2.1]; decide) (fun ρ f4 hI => ⟨zz, rfl, hI.1.1, ?_⟩)
    rw [l8.2.2.1] at hI
    have d2 := dS_le2 (show a % 20 < 100 by omega)
    refine b_int hI (by omega) (by omega) (fun ρ f5 hI => ?_)
    exact b_inner ho hB hI oz (((((f1.tr f2).tr f3).tr f4).tr f5).up (fun b q => by omega)) (fun σ s a f hB hS => b_tail h (gg σ f) ho hB hS (by omega))
theorem does50 (h : Wd Q μ z B c v ct V) (hb : Bo B) (hk : kd < 44) (hk2 : ¬ (30 ≤ kd ∧ kd < 38)) (ha : a < 1000) (hid : id < 1000) (hb2 : b < 1000) (h0 : 0 < n) (hn : n ≤ 7) (hn2 : x + y = nI n) : w_L_does_b50 G Q (nI kd) (some z) (nI id) x5 (nI a) (nI b) (nI b) x y μ := by
  have h9 := h
  obtain ⟨hI, hB1, hB2, hK, hD, hF⟩ := h9
  unfold w_L_does_b50 w_L_does_b220 w_L_does_b242 w_L_does_b254 w_L_does_b259 w_L_does_b269 w_L_does_b292 w_L_does_b296 w_L_does_b303 w_L_does_b310 w_L_does_b317
  rw [hn2, pk_rem (a := b) (d := n) (by omega) h0 (by omega)]
  have nm : b % n < n := Nat.mod_lt _ h0
  have n0 : ∀ z1 z2, w_L_addNest G μ (some z) z1 z2 Q := fun z1 z2 => l_addNest hI hb hD hF
  have n1 : w_L_addCrow G μ (some z) Q := l_addCrow hI hb hD hF
  have n2 : ∀ z1, w_L_setWind G μ (some z) z1 Q := fun z1 => l_setWind hI hb hD hF
  have n3 : ∀ z1 z2, w_L_publish G μ (some z) z1 z2 Q := fun z1 z2 => l_publish hI hb hD hF
  have n4 : ∀ z1, w_L_read G μ (some z) z1 Q := fun z1 => l_read hI hb hD hF
  have n5 : ∀ z1, w_L_forget G μ (some z) z1 Q := fun z1 => l_forget hI hb hD hF
  have n6 : ∀ z1, w_L_cancel G μ (some z) z1 Q := fun z1 => l_cancel hI hb hD hF
  exact ⟨nI_ne0 h0 (by omega), fun _ => l_text h ha hid (by omega), fun _ => ⟨fun _ => n0 _ _, fun _ => n0 _ _⟩, fun _ => ⟨fun _ => n0 _ _, fun _ => n0 _ _⟩, fun _ => n1, fun _ => n1, fun _ => n2 _, fun _ => n2 _, fun _ => ⟨fun _ => n3 _ _, fun _ => n3 _ _⟩, fun _ => ⟨fun _ => n3 _ _, fun _ => n3 _ _⟩, fun _ => ⟨fun _ => n3 _ _, fun _ => n3 _ _⟩, fun _ => ⟨fun _ => n3 _ _, fun _ => n3 _ _⟩, fun _ => ⟨fun _ => n3 _ _, fun _ => n3 _ _⟩, fun _ => ⟨fun _ => n3 _ _, fun _ => n3 _ _⟩, fun _ => ⟨fun _ => n3 _ _, fun _ => n3 _ _⟩, fun _ => ⟨fun _ => n3 _ _, fun _ => n3 _ _⟩, fun _ => ⟨fun _ => n3 _ _, fun _ => n3 _ _⟩, fun _ => ⟨fun _ => n3 _ _, fun _ => n3 _ _⟩, fun _ => ⟨fun _ => n3 _ _, fun _ => n3 _ _⟩, fun _ => ⟨fun _ => n3 _ _, fun _ => n3 _ _⟩, fun _ => ⟨fun _ => n3 _ _, fun _ => n3 _ _⟩, fun _ => ⟨fun _ => n3 _ _, fun _ => n3 _ _⟩, fun _ => n4 _, fun _ => n4 _, fun _ => n4 _, fun _ => n4 _, fun _ => n4 _, fun _ => n5 _, fun _ => n5 _, fun _ => n6 _, fun _ => n6 _, fun _ => n6 _, fun e => absurd (nI_inj (by omega) (by decide) e) (by omega), fun e => absurd (nI_inj (by omega) (by decide) e) (by omega), fun e => absurd (nI_inj (by omega) (by decide) e) (by omega), fun e => absurd (nI_inj (by omega) (by decide) e) (by omega), fun e => absurd (nI_inj (by omega) (by decide) e) (by omega), fun e => absurd (nI_inj (by omega) (by decide) e) (by omega), fun e => absurd (nI_inj (by omega) (by decide) e) (by omega), fun e => absurd (nI_inj (by omega) (by decide) e) (by omega)⟩
theorem does50a (hk1 : 30 ≤ kd) (hk2 : kd < 38) (h0 : 0 < n) (hn : n ≤ 7) (hn2 : x + y = nI n) (ad : w_L_advance G μ (some z) x5 Q) : w_L_does_b50 G Q (nI kd) (some z) x4 x5 x6 x7 x8 x y μ := by
  unfold w_L_does_b50 w_L_does_b317
  rw [hn2]
  refine ⟨nI_ne0 h0 (by omega), fun e => ?_, fun e => absurd (nI_inj (by omega) (by decide) e) (by omega), fun e => absurd (nI_inj (by omega) (by decide) e) (by omega), fun e => absurd (nI_inj (by omega) (by decide) e) (by omega), fun e => absurd (nI_inj (by omega) (by decide) e) (by omega), fun e => absurd (nI_inj (by omega) (by decide) e) (by omega), fun e => absurd (nI_inj (by omega) (by decide) e) (by omega), fun e => absurd (nI_inj (by omega) (by decide) e) (by omega), fun e => absurd (nI_inj (by omega) (by decide) e) (by omega), fun e => absurd (nI_inj (by omega) (by decide) e) (by omega), fun e => absurd (nI_inj (by omega) (by decide) e) (by omega), fun e => absurd (nI_inj (by omega) (by decide) e) (by omega), fun e => absurd (nI_inj (by omega) (by decide) e) (by omega), fun e => absurd (nI_inj (by omega) (by decide) e) (by omega), fun e => absurd (nI_inj (by omega) (by decide) e) (by omega), fun e => absurd (nI_inj (by omega) (by decide) e) (by omega), fun e => absurd (nI_inj (by omega) (by decide) e) (by omega), fun e => absurd (nI_inj (by omega) (by decide) e) (by omega), fun e => absurd (nI_inj (by omega) (by decide) e) (by omega), fun e => absurd (nI_inj (by omega) (by decide) e) (by omega), fun e => absurd (nI_inj (by omega) (by decide) e) (by omega), fun e => absurd (nI_inj (by omega) (by decide) e) (by omega), fun e => absurd (nI_inj (by omega) (by decide) e) (by omega), fun e => absurd (nI_inj (by omega) (by decide) e) (by omega), fun e => absurd (nI_inj (by omega) (by decide) e) (by omega), fun e => absurd (nI_inj (by omega) (by decide) e) (by omega), fun e => absurd (nI_inj (by omega) (by decide) e) (by omega), fun e => absurd (nI_inj (by omega) (by decide) e) (by omega), fun e => absurd (nI_inj (by omega) (by decide) e) (by omega), fun e => absurd (nI_inj (by omega) (by decide) e) (by omega), fun e => absurd (nI_inj (by omega) (by decide) e) (by omega), fun _ => ad, fun _ => ad, fun _ => ad, fun _ => ad, fun _ => ad, fun _ => ad, fun _ => ad, fun _ => ad⟩
  obtain rfl | rfl | rfl | rfl | rfl | rfl | rfl | rfl : kd = 30 ∨ kd = 31 ∨ kd = 32 ∨ kd = 33 ∨ kd = 34 ∨ kd = 35 ∨ kd = 36 ∨ kd = 37 := by omega
  all_goals exact absurd rfl (e _ (by decide))
/-- all that a turn does -/
theorem does_of (hT : ST μ z) (hA : Ak μ z B v) (hN : gX G 6 < 2 ^ 31) (hk : k < 2 ^ 30) (h : ∀ a b n x y, a < 1000 → b < 1000 → 0 < n → n ≤ 7 → x + y = nI n → w_L_does_b50 G Q x2 (some z) x4 x5 (nI a) (nI b) (nI b) x y μ) : w_L_does G μ (nI k) x2 (some z) x4 x5 Q := by
  have l0 := hA.l.1.1
  unfold w_L_does w_L_does_b45
  rw [nI_add, nI_add]
  refine a_pick hN (by omega) (by decide) (by decide) (fun a ha => a_pick hN (by omega) (by decide) (by decide) (fun b hb => ⟨z, rfl, hT.kz, a_nestCount hA ⟨fun _ => h a b (v 0 + 1) _ _ ha hb (by omega) (by omega) (by rw [nI_add]), fun _ => a_nestCount hA ⟨fun e => ?_, fun _ => h a b (v 0 + 1) _ _ ha hb (by omega) (by omega) (by rw [nI_add])⟩⟩⟩))
  have n0 : v 0 ≠ 0 := fun q => e (by rw [q]; rfl)
  exact h a b (v 0) _ _ ha hb (by omega) (by omega) (by rw [nI_add, Nat.add_zero])
theorem l_does (h : Wd Q μ z B c v ct V) (hA : Ak μ z B v) (hN : gX G 6 < 2 ^ 31) (hk : k < 2 ^ 30) (hkd : kd < 44) (hk2 : ¬ (30 ≤ kd ∧ kd < 38)) (hid : id < 1000) : w_L_does G μ (nI k) (nI kd) (some z) (nI id) x5 Q :=
  does_of h.1.1 hA hN hk (fun a b n x y ha hb h0 hn e => does50 h ⟨h.2.1, by have := h.2.2.1; omega⟩ hkd hk2 ha hid hb h0 hn e)
theorem l_doesA (hA : Ak μ z B v) (hN : gX G 6 < 2 ^ 31) (hk : k < 2 ^ 30) (hk1 : 30 ≤ kd) (hk2 : kd < 38) (ad : w_L_advance G μ (some z) x5 Q) : w_L_does G μ (nI k) (nI kd) (some z) x4 x5 Q :=
  does_of hA.1 hA hN hk (fun a b n x y ha hb h0 hn e => does50a hk1 hk2 h0 hn e ad)
end DOES
