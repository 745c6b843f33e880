/-! RENDERING, BOTH SIDES -/
abbrev oT : Type := Nat × (Nat → Nat)
def oD (o : oT) (k : Nat) : oT := (o.1 + dS k, dP o.2 o.1 k)
def oC (o : oT) (c : Nat) : oT := (o.1 + 1, pt o.2 o.1 c)
def o0 : oT := (0, fun _ => 0)
def rM (id n k a s : Nat) : oT := oC (oD (oC (oD (oC (oD (oC (oD o0 id) 62) n) 107) k) 97) a) s
def oL (v : Nat → Nat) : Nat → oT
  | 0 => o0
  | c + 1 => oC (oL v c) (if v (138 + 2 * c) = 0 then 46 else 48 + (v (138 + 2 * c) - 1) % 10)
/-- the reference's text -/
def Om (μ : mmT) (z n : Nat) (f : Nat → Nat) : Prop := mI μ 332 (z + 584) = nI n ∧ ∀ i, i < n → mA μ (z + 592) i = nI (f i)
section REND
variable {G : mgT} {μ ν ρ σ : mmT} {z a b c m i n k q p : Nat} {S : cT} {f : Nat → Nat} {v : Nat → Nat} {o : oT} {x : Int32} {B : Nat}
theorem oD_1 (h : k < 10) : oD o k = oC o (48 + k) := by
  unfold oD oC dS dP
  rw [if_pos h, if_pos h]
def C8 (o : oT) : Prop := ∀ j, o.2 j < 128
theorem C8_0 : C8 o0 := fun _ => (show 0 < 128 by decide)
theorem C8_C (h : C8 o) (hc : c < 128) : C8 (oC o c) := fun j => by
  show (if j = o.1 then c else o.2 j) < 128
  split
  · exact hc
  · exact h j
theorem pt_8 (h : ∀ j, f j < 128) (hc : c < 128) : ∀ j, pt f n c j < 128 := fun j => by
  unfold pt
  split
  · exact hc
  · exact h j
theorem C8_D (h : C8 o) (hk : k < 10000) : C8 (oD o k) := by
  show ∀ j, dP o.2 o.1 k j < 128
  unfold dP
  split
  · exact pt_8 h (by omega)
  · split
    · exact pt_8 (pt_8 h (by omega)) (by omega)
    · split
      · exact pt_8 (pt_8 (pt_8 h (by omega)) (by omega)) (by omega)
      · exact pt_8 (pt_8 (pt_8 (pt_8 h (by omega)) (by omega)) (by omega)) (by omega)
theorem dS_le (k : Nat) : dS k ≤ 4 := by
  unfold dS
  split
  · omega
  · split
    · omega
    · split <;> omega
theorem dS_2 (h : k < 100) : dS k ≤ 2 := by
  unfold dS
  split
  · omega
  · omega
theorem dS_1 (h : k < 10) : dS k = 1 := if_pos h
abbrev Pw (z : Nat) : Nat → Prop := fun b => b = z + 584 ∨ b = z + 592
theorem s_writes {Q : mmT → Prop} (hT : ST μ z) (h : Om μ z o.1 o.2) (hn : o.1 < 40) (hq : ∀ ν, Ag z μ ν (Pw z) → (∀ F, F ≠ 332 → mI ν F (z + 584) = mI μ F (z + 584)) → Om ν z (oC o c).1 (oC o c).2 → Q ν) : w_X11_writes G μ (z + 584) (nI c) Q := by
  obtain ⟨e, ea⟩ := h
  unfold w_X11_writes
  rw [e]
  refine ⟨hT.km, _, hT.ou.1, hT.ou.2.1, vp_th hT.ou.2.2 hn (by decide), ?_⟩
  have e2 : mI (sA μ (z + 592) (nI o.1).toNatClampNeg (nI c)) 332 (z + 584) = nI o.1 := e
  rw [e2, nI_add, cl (by omega)]
  refine hq _ ((Ag_sA.tr Ag_sI).up (fun b h => h.elim Or.inr Or.inl)) (fun F hF => (sI_o (by omega)).trans sA_I) ⟨sI_e, fun i hi => ?_⟩
  rw [sI_A]
  show _ = nI (if i = o.1 then c else o.2 i)
  have hi2 : i < o.1 + 1 := hi
  by_cases y : i = o.1
  · rw [if_pos y, y]
    exact sA_e
  · rw [if_neg y]
    exact (sA_o (fun h => y h.2)).trans (ea i (by omega))
/-- three digits at most -/
def oW (o : oT) (k : Nat) : oT := if k < 10 then oC o (48 + k) else if k < 100 then oC (oC o (48 + k / 10 % 10)) (48 + k % 10) else oC (oC (oC o (48 + k / 100 % 10)) (48 + k / 10 % 10)) (48 + k % 10)
theorem oW_D (h : k < 1000) : oW o k = oD o k := by
  unfold oW oD dS dP
  by_cases c1 : k < 10
  · rw [if_pos c1, if_pos c1, if_pos c1]
    rfl
  · rw [if_neg c1, if_neg c1, if_neg c1]
    by_cases c2 : k < 100
    · rw [if_pos c2, if_pos c2, if_pos c2, show k / 10 % 10 = k / 10 by omega]
      rfl
    · rw [if_neg c2, if_neg c2, if_neg c2, if_pos h, if_pos h, show k / 100 % 10 = k / 100 by omega]
      rfl
theorem oW_D4 (h : 1000 ≤ k) : oW (oC o (48 + k / 1000)) k = oD o k := by
  unfold oW oD dS dP
  rw [if_neg (by omega), if_neg (by omega), if_neg (by omega), if_neg (by omega), if_neg (by omega), if_neg (by omega), if_neg (by omega), if_neg (by omega)]
  rfl
theorem s_writesNumber {Q : mmT → Prop} (hT : ST μ z) (h : Om μ z o.1 o.2) (hk : k < 10000) (hn : o.1 + 3 ≤ 40) (hq : ∀ ν, Ag z μ ν (Pw z) → (∀ F, F ≠ 332 → mI ν F (z + 584) = mI μ F (z + 584)) → Om ν z (oW o k).1 (oW o k).2 → Q ν) : w_X11_writesNumber G μ (z + 584) (nI k) Q := by
  unfold w_X11_writesNumber w_X11_writesNumber_b20 w_X11_writesNumber_b40
  have last : ∀ (μ : mmT) (o : oT) (Q : mmT → Prop), ST μ z → Om μ z o.1 o.2 → o.1 < 40 → (∀ ν, Ag z μ ν (Pw z) → (∀ F, F ≠ 332 → mI ν F (z + 584) = mI μ F (z + 584)) → Om ν z (oC o (48 + k % 10)).1 (oC o (48 + k % 10)).2 → Q ν) → mK μ (z + 584) = 11 ∧ w_X11_writes G μ (z + 584) ((nI 48) + (nI k - nI k / (nI 10) * (nI 10))) (fun μ5 => Q μ5) := by
    intro μ o Q hT h hn hq
    rw [pk_rem (by omega) (by decide) (by decide), nI_add]
    exact ⟨hT.km, s_writes hT h hn hq⟩
  have mid : ∀ (μ : mmT) (o : oT) (Q : mmT → Prop), ST μ z → Om μ z o.1 o.2 → o.1 < 40 → (∀ ν, Ag z μ ν (Pw z) → (∀ F, F ≠ 332 → mI ν F (z + 584) = mI μ F (z + 584)) → Om ν z (oC o (48 + k / 10 % 10)).1 (oC o (48 + k / 10 % 10)).2 → Q ν) → mK μ (z + 584) = 11 ∧ w_X11_writes G μ (z + 584) ((nI 48) + ((nI k / (nI 10)) - (nI k / (nI 10)) / (nI 10) * (nI 10))) (fun μ5 => Q μ5) := by
    intro μ o Q hT h hn hq
    rw [pk_div (by omega) (by decide) (by decide), pk_rem (by omega) (by decide) (by decide), nI_add]
    exact ⟨hT.km, s_writes hT h hn hq⟩
  unfold oW at hq
  refine pk_le k 99 (fun c99 => pk_le k 9 (fun c9 => ?_) (fun c9 => ?_)) (fun c99 => ?_)
  · rw [if_pos (by omega)] at hq
    refine last μ o Q hT h (by omega) (fun ν g hf hO => hq ν g hf ?_)
    rw [show k % 10 = k by omega] at hO
    exact hO
  · rw [if_neg (by omega), if_pos (by omega)] at hq
    refine mid μ o _ hT h (by omega) (fun ν g hf hO => last ν _ Q (hT.ag g) hO (by show o.1 + 1 < 40; omega) (fun ρ g2 hf2 hO2 => hq ρ ((g.tr g2).up (fun b h => h.elim id id)) (fun F hF => (hf2 F hF).trans (hf F hF)) hO2))
  · rw [if_neg (by omega), if_neg (by omega)] at hq
    rw [pk_div (by omega) (by decide) (by decide), pk_rem (by omega) (by decide) (by decide), nI_add]
    refine ⟨hT.km, s_writes hT h (by omega) (fun ν g hf hO => pk_le k 9 (fun c9 => by omega) (fun _ => ?_))⟩
    refine mid ν _ _ (hT.ag g) hO (by show o.1 + 1 < 40; omega) (fun ρ g2 hf2 hO2 => last ρ _ Q ((hT.ag g).ag g2) hO2 (by show o.1 + 1 + 1 < 40; omega) (fun ρ3 g3 hf3 hO3 => hq ρ3 (((g.tr g2).tr g3).up (fun b h => h.elim (fun h => h.elim id id) id)) (fun F hF => (hf3 F hF).trans ((hf2 F hF).trans (hf F hF))) hO3))
/-- a read of a message's cell, in any memory that holds the row -/
theorem s_ofR {Q : Int32 → Prop} {j : Nat} (hT : ST μ z) (hv : ∀ i, mA μ (z + 585) i = nI (v i)) (hk : 146 + 7 * p + j < 258) (h : Q (nI (v (146 + 7 * p + j)))) : w_X11_of G μ (z + 584) (nI p) (nI j) Q :=
  wV (W := fun μ => w_X11_of G μ (z + 584) (nI p) (nI j) Q) (m := z + 584) hv (s_X11_of hT.ms hk h)
theorem rM_1 {id n k a s : Nat} (h1 : n < 10) (h2 : k < 100) (h3 : a < 10) : (rM id n k a s).1 ≤ 12 := by
  show 0 + dS id + 1 + dS n + 1 + dS k + 1 + dS a + 1 ≤ 12
  have := dS_le id
  have := dS_2 h2
  rw [dS_1 h1, dS_1 h3]
  omega
theorem s_renderMessage {Q : Int32 → mmT → Prop} (hT : ST μ z) (hv : ∀ i, mA μ (z + 585) i = nI (v i)) (h : J B 16 v) (hB : B < 2 ^ 30) (hid : v 3 ≤ 9999)
    (h1 : fPl v x < v 2 → ∀ ν, Ag z μ ν (Pw z) → (∀ F, F ≠ 320 → F ≠ 332 → mI ν F (z + 584) = mI μ F (z + 584)) → mI ν 320 (z + 584) = nI 0 → Om ν z (rM (v (146 + 7 * fPl v x)) (v (146 + 7 * fPl v x + 1)) (v (146 + 7 * fPl v x + 2)) (v (146 + 7 * fPl v x + 3)) (v (146 + 7 * fPl v x + 4))).1 (rM (v (146 + 7 * fPl v x)) (v (146 + 7 * fPl v x + 1)) (v (146 + 7 * fPl v x + 2)) (v (146 + 7 * fPl v x + 3)) (v (146 + 7 * fPl v x + 4))).2 → Q (nI (rM (v (146 + 7 * fPl v x)) (v (146 + 7 * fPl v x + 1)) (v (146 + 7 * fPl v x + 2)) (v (146 + 7 * fPl v x + 3)) (v (146 + 7 * fPl v x + 4))).1) ν)
    (h0 : ¬ fPl v x < v 2 → Q (nI 0) (sI μ 320 (z + 584) (nI 1))) : w_X11_renderMessage G μ (z + 584) x Q := by
  have l := h.1.1
  have l2 := l.1.2.2
  have f : ∀ k : Int32, mI (sI μ 320 (z + 584) k) 320 (z + 584) = k := fun k => sI_e
  unfold w_X11_renderMessage w_X11_renderMessage_b17
  refine ⟨hT.km, wV (W := fun μ => w_X11_placeOf G μ (z + 584) x _) (m := z + 584) hv (s_X11_placeOf hT.ms l2 ?_)⟩
  by_cases q : fPl v x < v 2
  · rw [pn_y q]
    refine ⟨fun _ => ⟨z + 584, rfl, hT.km, hT.km, fun _ => ?_, fun c => absurd (by rw [f]; decide) c⟩, fun e => absurd e (nI_m1 (by omega))⟩
    have hq := h1 q
    clear h1 h0
    have ex : nI (v (146 + 7 * fPl v x)) = x := of_decide_eq_true (ff_yes _ _ q)
    have m := h.1.2.2.1 _ q
    have i3 := h.1.2.1.1 _ q
    have nn := l.2.2 _ q
    have n6 := l.1.1
    generalize fPl v x = p at *
    have hs : v (146 + 7 * p + 4) < 128 := by
      have := m.1
      omega
    have g0 : Ag z μ (sI (sI μ 320 (z + 584) (nI 0)) 332 (z + 584) (nI 0)) (Pw z) := (Ag_sI.tr Ag_sI).up (fun b h => Or.inl (h.elim id id))
    have k0 : ∀ F, F ≠ 320 → F ≠ 332 → mI (sI (sI μ 320 (z + 584) (nI 0)) 332 (z + 584) (nI 0)) F (z + 584) = mI μ F (z + 584) := fun F h1 h2 => (sI_o (by omega)).trans (sI_o (by omega))
    have t0 : mI (sI (sI μ 320 (z + 584) (nI 0)) 332 (z + 584) (nI 0)) 320 (z + 584) = nI 0 := (sI_o (by omega)).trans (f _)
    have O0 : Om (sI (sI μ 320 (z + 584) (nI 0)) 332 (z + 584) (nI 0)) z o0.1 o0.2 := ⟨sI_e, fun i hi => absurd hi (Nat.not_lt_zero _)⟩
    generalize sI (sI μ 320 (z + 584) (nI 0)) 332 (z + 584) (nI 0) = σ at *
    have hT0 := hT.ag g0
    have fin : ∀ (σ2 : mmT) (o : oT), Ag z μ σ2 (Pw z) → (∀ F, F ≠ 332 → mI σ2 F (z + 584) = mI σ F (z + 584)) → Om σ2 z o.1 o.2 → o.1 ≤ 1 → oW o (v (146 + 7 * p)) = oD o0 (v (146 + 7 * p)) → w_X11_renderMessage_b53 G (z + 584) Q (nI (v (146 + 7 * p))) (nI p) σ2 := by
      intro σ2 o g hf hO ho he
      unfold w_X11_renderMessage_b53
      have T1 := hT.ag g
      refine ⟨T1.km, s_writesNumber T1 hO (by omega) (by omega) (fun μ1 g1 f1 O1 => ?_)⟩
      rw [he] at O1
      have T2 := T1.ag g1
      have L1 : (oD o0 (v (146 + 7 * p))).1 ≤ 4 := by
        show 0 + dS _ ≤ 4
        have := dS_le (v (146 + 7 * p))
        omega
      generalize hA : oD o0 (v (146 + 7 * p)) = oA at *
      refine ⟨T2.km, s_writes T2 O1 (by omega) (fun μ2 g2 f2 O2 => ?_)⟩
      have T3 := T2.ag g2
      have L2 : (oC oA 62).1 ≤ 5 := by show oA.1 + 1 ≤ 5; omega
      generalize hBB : oC oA 62 = oB at *
      have v2 : ∀ i, mA μ2 (z + 585) i = nI (v i) := fun i => (g2.A (by omega)).trans ((g1.A (by omega)).trans ((g.A (by omega)).trans (hv i)))
      refine ⟨T3.km, s_ofR T3 v2 (by omega) (s_writesNumber T3 O2 (by omega) (by omega) (fun μ3 g3 f3 O3 => ?_))⟩
      rw [oW_D (by omega)] at O3
      have T4 := T3.ag g3
      have L3 : (oD oB (v (146 + 7 * p + 1))).1 ≤ 6 := by
        show oB.1 + dS _ ≤ 6
        rw [dS_1 (by omega)]
        omega
      generalize hC : oD oB (v (146 + 7 * p + 1)) = oCC at *
      refine ⟨T4.km, s_writes T4 O3 (by omega) (fun μ4 g4 f4 O4 => ?_)⟩
      have T5 := T4.ag g4
      have L4 : (oC oCC 107).1 ≤ 7 := by show oCC.1 + 1 ≤ 7; omega
      generalize hD : oC oCC 107 = oDD at *
      have v4 : ∀ i, mA μ4 (z + 585) i = nI (v i) := fun i => (g4.A (by omega)).trans ((g3.A (by omega)).trans (v2 i))
      refine ⟨T5.km, s_ofR T5 v4 (by omega) (s_writesNumber T5 O4 (by omega) (by omega) (fun μ5 g5 f5 O5 => ?_))⟩
      rw [oW_D (by omega)] at O5
      have T6 := T5.ag g5
      have L5 : (oD oDD (v (146 + 7 * p + 2))).1 ≤ 9 := by
        show oDD.1 + dS _ ≤ 9
        have := dS_2 (k := v (146 + 7 * p + 2)) (by omega)
        omega
      generalize hE : oD oDD (v (146 + 7 * p + 2)) = oE at *
      refine ⟨T6.km, s_writes T6 O5 (by omega) (fun μ6 g6 f6 O6 => ?_)⟩
      have T7 := T6.ag g6
      have L6 : (oC oE 97).1 ≤ 10 := by show oE.1 + 1 ≤ 10; omega
      generalize hF : oC oE 97 = oF at *
      have v6 : ∀ i, mA μ6 (z + 585) i = nI (v i) := fun i => (g6.A (by omega)).trans ((g5.A (by omega)).trans (v4 i))
      refine ⟨T7.km, s_ofR T7 v6 (by omega) (s_writesNumber T7 O6 (by omega) (by omega) (fun μ7 g7 f7 O7 => ?_))⟩
      rw [oW_D (by omega)] at O7
      have T8 := T7.ag g7
      have L7 : (oD oF (v (146 + 7 * p + 3))).1 ≤ 11 := by
        show oF.1 + dS _ ≤ 11
        rw [dS_1 (by omega)]
        omega
      generalize hG : oD oF (v (146 + 7 * p + 3)) = oG at *
      have v7 : ∀ i, mA μ7 (z + 585) i = nI (v i) := fun i => (g7.A (by omega)).trans (v6 i)
      refine ⟨T8.km, s_ofR T8 v7 (by omega) (s_writes T8 O7 (by omega) (fun μ8 g8 f8 O8 => ?_))⟩
      have T9 := T8.ag g8
      have er : rM (v (146 + 7 * p)) (v (146 + 7 * p + 1)) (v (146 + 7 * p + 2)) (v (146 + 7 * p + 3)) (v (146 + 7 * p + 4)) = oC oG (v (146 + 7 * p + 4)) := by
        unfold rM
        rw [hA, hBB, hC, hD, hE, hF, hG]
      rw [er] at hq
      have ff : ∀ F, F ≠ 332 → mI μ8 F (z + 584) = mI σ F (z + 584) := fun F hF => (f8 F hF).trans ((f7 F hF).trans ((f6 F hF).trans ((f5 F hF).trans ((f4 F hF).trans ((f3 F hF).trans ((f2 F hF).trans ((f1 F hF).trans (hf F hF))))))))
      rw [O8.1]
      exact ⟨T9.km, hq μ8 (((((((((g.tr g1).tr g2).tr g3).tr g4).tr g5).tr g6).tr g7).tr g8).up (fun b h => by
        rcases h with ((((((((h | h) | h) | h) | h) | h) | h) | h) | h) <;> exact h)) (fun F h1 h2 => (ff F h2).trans (k0 F h1 h2)) ((ff _ (by decide)).trans t0) O8⟩
    rw [← ex]
    refine pk_le (v (146 + 7 * p)) 999 (fun c => fin σ o0 g0 (fun F _ => rfl) O0 (by decide) (oW_D (by omega))) (fun c => ?_)
    rw [pk_div (by omega) (by decide) (by decide), nI_add]
    exact s_writes hT0 O0 (by decide) (fun μ1 g1 f1 O1 => fin μ1 _ ((g0.tr g1).up (fun b h => h.elim id id)) f1 O1 (Nat.le_refl 1) (oW_D4 (by omega)))
  · rw [pn_n q]
    exact ⟨fun c => absurd rfl c, fun _ => ⟨z + 584, rfl, hT.km, hT.km, fun c => absurd c (by rw [f]; decide), fun _ => h0 q⟩⟩
end REND
