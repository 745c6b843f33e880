/-! THE CLASS RENDERS; THE LAW'S TURNS 46, 47 -/
section REND2
variable {G : mgT} {μ ν ρ σ : mmT} {z a b c c2 m i n k q p F t L ct j : Nat} {S : cT} {f : Nat → Nat} {v : Nat → Nat} {V : Nat → Nat → Nat} {R : rT} {o : oT} {ob : Nat} {x : Int32} {B : Nat} {xs : Nat → Int32} {K : Option Nat → Option Nat → Option Nat → Option Nat → Int32 → Nat → mmT → Prop}
theorem apD {Q : Option Nat → mmT → Prop} (hT : ST μ z) (g : Ag z μ ν (Po z)) (h : Ob ν z o.1 o.2) (hk : k < 10000) (hn : o.1 + dS k ≤ 16) (hq : ∀ ρ, Ag z μ ρ (Po z) → Ob ρ z (oD o k).1 (oD o k).2 → Q (some (z + 582)) ρ) : w_J4_append_bf812 G ν (z + 582) (nI k) Q :=
  t_appendI (hT.ag g) h hk hn (fun ρ g2 h2 => hq ρ ((g.tr g2).up (fun b h => h.elim id id)) h2)
theorem apC {Q : Option Nat → mmT → Prop} (hT : ST μ z) (g : Ag z μ ν (Po z)) (h : Ob ν z o.1 o.2) (hn : o.1 < 16) (hc : c < 128) (hq : ∀ ρ, Ag z μ ρ (Po z) → Ob ρ z (oC o c).1 (oC o c).2 → Q (some (z + 582)) ρ) : w_J4_append_cf468 G ν (z + 582) (nI c) Q :=
  t_appendC (hT.ag g) h hn hc (fun ρ g2 h2 => hq ρ ((g.tr g2).up (fun b h => h.elim id id)) h2)
theorem t_renderMessage {Q : Int32 → mmT → Prop} {X : String → mmT → Prop} (hT : ST μ z) (hs : St μ (z + 1) v) (hO : Ob μ z n f) (hn : n ≤ 16) (h : J B 16 v) (hid : v 3 ≤ 9999)
    (h1 : fPl v x < v 2 → ∀ ν, Ag z μ ν (Po z) → Ob ν z (rM (v (146 + 7 * fPl v x)) (v (146 + 7 * fPl v x + 1)) (v (146 + 7 * fPl v x + 2)) (v (146 + 7 * fPl v x + 3)) (v (146 + 7 * fPl v x + 4))).1 (rM (v (146 + 7 * fPl v x)) (v (146 + 7 * fPl v x + 1)) (v (146 + 7 * fPl v x + 2)) (v (146 + 7 * fPl v x + 3)) (v (146 + 7 * fPl v x + 4))).2 → Q (nI (rM (v (146 + 7 * fPl v x)) (v (146 + 7 * fPl v x + 1)) (v (146 + 7 * fPl v x + 2)) (v (146 + 7 * fPl v x + 3)) (v (146 + 7 * fPl v x + 4))).1) ν)
    (h0 : ¬ fPl v x < v 2 → X "java/util/NoSuchElementException" μ) : w_X10_renderMessage G μ z x Q X := by
  have l := h.1.1
  obtain ⟨S, e1, r1⟩ := hs
  unfold w_X10_renderMessage
  refine ⟨hT.kz, ?_⟩
  have key := fun (Q2 : Option Nat → Prop) (hQ : fPl v x < v 2 → Q2 (some (z + 1 + (27 + cP S (fPl v x))))) => x_msg (G := G) (x := x) (Q := Q2) (X := fun E => X E μ) hT r1 l hQ h0
  rw [BT_self e1] at key
  refine key _ (fun q => ?_)
  have hq := h1 q
  have hc := rel_P r1 l q
  have r := (r1.2.2.2.2.1 _ q).1
  have m := h.1.2.2.1 _ q
  have i3 := h.1.2.1.1 _ q
  have nn := l.2.2 _ q
  have n6 := l.1.1
  clear key h1 h0
  generalize fPl v x = p at *
  have hst : v (146 + 7 * p + 4) < 128 := by
    have := m.1
    omega
  have rd : ∀ ν F, Ag z μ ν (Po z) → mI ν F (z + 1 + (27 + cP S p)) = cF S F (27 + cP S p) := fun ν F g => (g.I (fun q => by
    have : z + 1 + (27 + cP S p) = z + 582 ∨ z + 1 + (27 + cP S p) = z + 583 := q
    omega)).trans (e1.1 F _ (by omega))
  have k5 : mK μ (z + 1 + (27 + cP S p)) = 5 := hT.s1.2.2.2.2.2.2 _ hc
  have kk5 : ∀ ν, Ag z μ ν (Po z) → mK ν (z + 1 + (27 + cP S p)) = 5 := fun ν g => (congrFun g.k _).trans k5
  generalize z + 1 + (27 + cP S p) = A at *
  refine ⟨_, hT.z7, hT.o.1, t_setLength hT hO hn (fun μ6 g6 O6 => ?_)⟩
  have T6 := hT.ag g6
  have O6' : Ob μ6 z o0.1 o0.2 := ⟨O6.1, O6.2.1, fun i hi => absurd hi (Nat.not_lt_zero _)⟩
  refine ⟨T6.kz, A, rfl, kk5 μ6 g6, _, T6.z7, T6.o.1, ?_⟩
  rw [rd μ6 128 g6, r.1]
  have d4 := dS_le (v (146 + 7 * p))
  refine apD hT g6 O6' (by omega) (by show 0 + _ ≤ 16; omega) (fun μ7 g7 O7 => ?_)
  have T7 := hT.ag g7
  have L1 : (oD o0 (v (146 + 7 * p))).1 ≤ 4 := by
    show 0 + dS _ ≤ 4
    omega
  generalize hA : oD o0 (v (146 + 7 * p)) = oA at *
  refine ⟨T7.kz, _, T7.z7, T7.o.1, apC hT g7 O7 (by omega) (by decide) (fun μ8 g8 O8 => ?_)⟩
  have T8 := hT.ag g8
  have L2 : (oC oA 62).1 ≤ 5 := by show oA.1 + 1 ≤ 5; omega
  generalize hBB : oC oA 62 = oB at *
  refine ⟨T8.kz, kk5 μ8 g8, _, T8.z7, T8.o.1, ?_⟩
  rw [rd μ8 129 g8, r.2.1]
  have d1 := dS_1 (k := v (146 + 7 * p + 1)) (by omega)
  refine apD hT g8 O8 (by omega) (by omega) (fun μ9 g9 O9 => ?_)
  have T9 := hT.ag g9
  have L3 : (oD oB (v (146 + 7 * p + 1))).1 ≤ 6 := by
    show oB.1 + dS _ ≤ 6
    omega
  generalize hC : oD oB (v (146 + 7 * p + 1)) = oCC at *
  refine ⟨T9.kz, _, T9.z7, T9.o.1, apC hT g9 O9 (by omega) (by decide) (fun μ10 g10 O10 => ?_)⟩
  have T10 := hT.ag g10
  have L4 : (oC oCC 107).1 ≤ 7 := by show oCC.1 + 1 ≤ 7; omega
  generalize hD : oC oCC 107 = oDD at *
  refine ⟨T10.kz, kk5 μ10 g10, _, T10.z7, T10.o.1, ?_⟩
  rw [rd μ10 130 g10, r.2.2.1]
  have d2 := dS_2 (k := v (146 + 7 * p + 2)) (by omega)
  refine apD hT g10 O10 (by omega) (by omega) (fun μ11 g11 O11 => ?_)
  have T11 := hT.ag g11
  have L5 : (oD oDD (v (146 + 7 * p + 2))).1 ≤ 9 := by
    show oDD.1 + dS _ ≤ 9
    omega
  generalize hE : oD oDD (v (146 + 7 * p + 2)) = oE at *
  refine ⟨T11.kz, _, T11.z7, T11.o.1, apC hT g11 O11 (by omega) (by decide) (fun μ12 g12 O12 => ?_)⟩
  have T12 := hT.ag g12
  have L6 : (oC oE 97).1 ≤ 10 := by show oE.1 + 1 ≤ 10; omega
  generalize hF : oC oE 97 = oF at *
  refine ⟨T12.kz, kk5 μ12 g12, _, T12.z7, T12.o.1, ?_⟩
  rw [rd μ12 131 g12, r.2.2.2.1]
  have d3 := dS_1 (k := v (146 + 7 * p + 3)) (by omega)
  refine apD hT g12 O12 (by omega) (by omega) (fun μ13 g13 O13 => ?_)
  have T13 := hT.ag g13
  have L7 : (oD oF (v (146 + 7 * p + 3))).1 ≤ 11 := by
    show oF.1 + dS _ ≤ 11
    omega
  generalize hG : oD oF (v (146 + 7 * p + 3)) = oG at *
  refine ⟨T13.kz, kk5 μ13 g13, _, T13.z7, T13.o.1, ?_⟩
  rw [rd μ13 132 g13, r.2.2.2.2]
  refine apC hT g13 O13 (by omega) hst (fun μ14 g14 O14 => ?_)
  have T14 := hT.ag g14
  have er : rM (v (146 + 7 * p)) (v (146 + 7 * p + 1)) (v (146 + 7 * p + 2)) (v (146 + 7 * p + 3)) (v (146 + 7 * p + 4)) = oC oG (v (146 + 7 * p + 4)) := by
    unfold rM
    rw [hA, hBB, hC, hD, hE, hF, hG]
  rw [er] at hq
  refine ⟨T14.kz, _, T14.z7, T14.o.1, T14.o.1, T14.o.1, ?_⟩
  rw [O14.2.1]
  exact hq μ14 g14 O14
theorem oL_1 : ∀ c, (oL v c).1 = c
  | 0 => rfl
  | c + 1 => by
    show (oL v c).1 + 1 = c + 1
    rw [oL_1 c]
theorem oL_S : oL v (c + 1) = oC (oL v c) (if v (138 + 2 * c) = 0 then 46 else 48 + (v (138 + 2 * c) - 1) % 10) := rfl
theorem oL_8 : ∀ c, C8 (oL v c)
  | 0 => C8_0
  | c + 1 => C8_C (oL_8 c) (by split <;> omega)
theorem t_renderCrows {Q : Int32 → mmT → Prop} (hT : ST μ z) (hs : St μ (z + 1) v) (hO : Ob μ z n f) (hn : n ≤ 16) (h : J B 16 v) (hB : B < 2 ^ 30)
    (hq : ∀ ν, Ag z μ ν (Po z) → Ob ν z (v 1) (oL v (v 1)).2 → Q (nI (v 1)) ν) : w_X10_renderCrows G μ z Q := by
  have l1 := h.1.1.1.2.1
  obtain ⟨S, e1, r1⟩ := hs
  unfold w_X10_renderCrows
  refine ⟨hT.kz, _, hT.z7, hT.o.1, t_setLength hT hO hn (fun μ6 g6 O6 => ?_)⟩
  have O6' : Ob μ6 z (oL v 0).1 (oL v 0).2 := ⟨O6.1, O6.2.1, fun i hi => absurd hi (Nat.not_lt_zero _)⟩
  refine (lpE (W := fun n i => ∀ ν, Ag z μ ν (Po z) → Ob ν z (oL v i).1 (oL v i).2 → w_X10_renderCrows_l10 G z Q n (nI i) ν) (N := v 1) ?_ (Nat.zero_le _)).imp fun n hn => hn μ6 g6 O6'
  intro n i hi ih ν g O
  show w_X10_renderCrows_b10 G z Q _ (nI i) ν
  unfold w_X10_renderCrows_b10 w_X10_renderCrows_b66
  have T := hT.ag g
  have e2 : BT ν (z + 1) S := BT_ag e1 g (fun b h1 h2 q => by
    have : b = z + 582 ∨ b = z + 583 := q
    omega)
  have e9 : mI ν 229 (z + 1) = nI (v 1) := (e2.1 229 0 (by decide)).trans r1.1.2.1
  refine ⟨T.kz, _, T.z1, T.s1.1, ?_⟩
  rw [e9]
  refine pk_le (v 1) i (fun cc => ?_) (fun hl => ?_)
  · have : i = v 1 := by omega
    subst this
    refine ⟨_, T.z7, T.o.1, T.o.1, T.o.1, ?_⟩
    rw [O.2.1, oL_1]
    rw [oL_1] at O
    exact hq ν g O
  · have hcb := T.s1.2.2.2.2.2.1 i (by omega)
    refine ⟨_, T.s1.2.1.2.1, T.s1.2.2.1.2.1, vp_th T.s1.2.2.2.1.2.1 (by omega) (by decide), z + 1 + (23 + i), ?_, hcb.2, ?_⟩
    · rw [cl (by omega)]
      exact hcb.1
    · have f4 : mI ν 64 (z + 1 + (23 + i)) = (if v (138 + 2 * i) = 0 then 0 else 1) := (e2.1 64 (23 + i) (by omega)).trans (r1.2.2.2.1 i hl).1
      have step := ih hl
      rw [nI_add]
      rw [f4]
      by_cases y : v (138 + 2 * i) = 0
      · rw [if_pos y]
        refine ⟨fun _ => ⟨_, T.z7, T.o.1, apC hT g O (by rw [oL_1]; omega) (by decide) (fun ρ g2 O2 => step ρ g2 ?_)⟩, fun c => absurd rfl c⟩
        rw [oL_S, if_pos y]
        exact O2
      · rw [if_neg y]
        have f5 : mI ν 65 (z + 1 + (23 + i)) = nI (v (138 + 2 * i) - 1) := (e2.1 65 (23 + i) (by omega)).trans ((r1.2.2.2.1 i hl).2 y).1
        have bi := h.2.2 (138 + 2 * i)
        rw [f5, pk_rem (by omega) (by decide) (by decide)]
        refine ⟨fun c => absurd c (by decide), fun _ => ⟨_, T.z7, T.o.1, apD hT g O (by omega) (by rw [oL_1, dS_1 (by omega)]; omega) (fun ρ g2 O2 => step ρ g2 ?_)⟩⟩
        rw [oD_1 (by omega)] at O2
        rw [oL_S, if_neg y]
        exact O2
theorem s_renderCrows {Q : Int32 → mmT → Prop} (hT : ST μ z) (hv : ∀ i, mA μ (z + 585) i = nI (v i)) (h : J B 16 v) (hB : B < 2 ^ 30)
    (hq : ∀ ν, Ag z μ ν (Pw z) → (∀ F, F ≠ 320 → F ≠ 332 → mI ν F (z + 584) = mI μ F (z + 584)) → Om ν z (v 1) (oL v (v 1)).2 → Q (nI (v 1)) ν) : w_X11_renderCrows G μ (z + 584) Q := by
  have l1 := h.1.1.1.2.1
  unfold w_X11_renderCrows
  have g0 : Ag z μ (sI (sI μ 320 (z + 584) (nI 0)) 332 (z + 584) (nI 0)) (Pw z) := (Ag_sI.tr Ag_sI).up (fun b h => Or.inl (h.elim id id))
  have k0 : ∀ F, F ≠ 320 → F ≠ 332 → mI (sI (sI μ 320 (z + 584) (nI 0)) 332 (z + 584) (nI 0)) F (z + 584) = mI μ F (z + 584) := fun F h1 h2 => (sI_o (by omega)).trans (sI_o (by omega))
  have O0 : Om (sI (sI μ 320 (z + 584) (nI 0)) 332 (z + 584) (nI 0)) z (oL v 0).1 (oL v 0).2 := ⟨sI_e, fun i hi => absurd hi (Nat.not_lt_zero _)⟩
  generalize sI (sI μ 320 (z + 584) (nI 0)) 332 (z + 584) (nI 0) = σ at *
  refine ⟨hT.km, (lpE (W := fun n i => ∀ ν, Ag z μ ν (Pw z) → (∀ F, F ≠ 320 → F ≠ 332 → mI ν F (z + 584) = mI μ F (z + 584)) → Om ν z (oL v i).1 (oL v i).2 → w_X11_renderCrows_l12 G (z + 584) Q n (nI i) ν) (N := v 1) ?_ (Nat.zero_le _)).imp fun n hn => hn σ g0 k0 O0⟩
  intro n i hi ih ν g fk O
  show w_X11_renderCrows_b12 G (z + 584) Q _ (nI i) ν
  unfold w_X11_renderCrows_b12 w_X11_renderCrows_b63
  have T := hT.ag g
  have v2 : ∀ i, mA ν (z + 585) i = nI (v i) := fun i => (g.A (by omega)).trans (hv i)
  refine ⟨T.km, z + 585, T.ms.2.1, T.ms.2.2.1, vp_th T.ms.2.2.2 (by decide) (by decide), ?_⟩
  rw [cl (by decide), v2]
  refine pk_le (v 1) i (fun cc => ?_) (fun hl => ?_)
  · have : i = v 1 := by omega
    subst this
    rw [O.1, oL_1]
    rw [oL_1] at O
    exact hq ν g fk O
  · have bi := h.2.2 (138 + 2 * i)
    have step := ih hl
    rw [ix_crow, cl (by omega), v2, nI_add]
    refine ⟨vp_th T.ms.2.2.2 (by omega) (by decide), fun c => ?_, fun c => ?_⟩
    · have y : v (138 + 2 * i) ≠ 0 := fun e => c (by rw [e]; rfl)
      rw [pk_sub (by omega), pk_rem (by omega) (by decide) (by decide), nI_add]
      refine ⟨vp_th T.ms.2.2.2 (by omega) (by decide), z + 584, rfl, T.km, s_writes T O (by rw [oL_1]; omega) (fun ρ g2 f2 O2 => step ρ ((g.tr g2).up (fun b h => h.elim id id)) (fun F h1 h2 => (f2 F h2).trans (fk F h1 h2)) ?_)⟩
      rw [oL_S, if_neg y]
      exact O2
    · have y : v (138 + 2 * i) = 0 := nI_inj (by omega) (by decide) c
      refine ⟨z + 584, rfl, T.km, s_writes T O (by rw [oL_1]; omega) (fun ρ g2 f2 O2 => step ρ ((g.tr g2).up (fun b h => h.elim id id)) (fun F h1 h2 => (f2 F h2).trans (fk F h1 h2)) ?_)⟩
      rw [oL_S, if_pos y]
      exact O2
theorem rM_8 {id n k a s : Nat} (h0 : id < 10000) (h1 : n < 10) (h2 : k < 100) (h3 : a < 10) (h4 : s < 128) : C8 (rM id n k a s) :=
  C8_C (C8_D (C8_C (C8_D (C8_C (C8_D (C8_C (C8_D C8_0 h0) (by decide)) (by omega)) (by decide)) (by omega)) (by decide)) (by omega)) h4
/-- a new output -/
def rOu (R : rT) (n : Nat) (f : Nat → Nat) : rT := (R.1, R.2.1, R.2.2.1, (n, f))
theorem JR_ou {B c : Nat} (hJ : JR B c R) (h : n ≤ 16) (h2 : ∀ j, f j < 128) : JR B c (rOu R n f) := ⟨hJ.1, hJ.2.1, hJ.2.2.1, hJ.2.2.2.1, h, fun j _ => h2 j⟩
theorem ok_ou {c : Nat} (hT : ST μ z) (hI : ICv μ z v ct V) (hR : ICr μ z R) (hM : IMv μ z v ct V) (hMr : IMr μ z R) (hV : JV B c v ct V) (hJ : JR B c R) (g : Ag z μ ν (Po z)) (hO : Ob ν z n f) (hν : ∀ y : Int64, True) :
    ST ν z ∧ ICv ν z v ct V ∧ ICr ν z (rOu R n f) ∧ IMv ν z v ct V ∧ IMr ν z R := by
  have P : ∀ b, ¬ (b = z + 582 ∨ b = z + 583) → ¬ Po z b := fun b h q => h q
  exact ⟨hT.ag g, ICv_ag hI g (fun b hb => P b (by omega)), ⟨ICs_ag hR.1 g (g.I (P _ (by omega))) (fun b hb => P b (by omega)), ICt_ag hR.2.1 g (fun b hb => P b (by omega)), ICe_ag hR.2.2.1 (g.I (P _ (by omega))) (g.I (P _ (by omega))), hO⟩, IMv_ag hM g (g.I (P _ (by omega))) (fun b hb => P b (by omega)), IMr_ag hMr g (fun F _ _ => g.I (P _ (by omega))) (fun b hb => P b (by omega))⟩
theorem ok_ou2 {c : Nat} (hT : ST μ z) (hI : ICv μ z v ct V) (hR : ICr μ z (rOu R n f)) (hM : IMv μ z v ct V) (hMr : IMr μ z R) (hV : JV B c v ct V) (hJ : JR B c R) (h16 : n ≤ 16) (h8 : ∀ j, f j < 128) (g : Ag z μ ν (Pw z)) (fk : ∀ F, F ≠ 320 → F ≠ 332 → mI ν F (z + 584) = mI μ F (z + 584)) (hO : Om ν z n f) : Ok ν z (B + 20000) (c + 12) := by
  have P : ∀ b, ¬ (b = z + 584 ∨ b = z + 592) → ¬ Pw z b := fun b h q => h q
  refine ⟨hT.ag g, v, ct, V, rOu R n f, ⟨ICv_ag hI g (fun b hb => P b (by omega)), ICr_ag hR g (fun b hb => P b (by omega))⟩, ⟨IMv_ag hM g (fk _ (by decide) (by decide)) (fun b hb => P b (by omega)), ?_, ?_, ?_, hO⟩, JV_mono hV (by omega) (by omega), JR_mono (JR_ou hJ h16 h8) (by omega) (by omega)⟩
  · exact ⟨(fk _ (by decide) (by decide)).trans hMr.1.1, fun e q hq => (g.A (P _ (by omega))).trans (hMr.1.2 e q hq)⟩
  · exact ⟨(fk _ (by decide) (by decide)).trans hMr.2.1.1, fun i hi => (g.A (P _ (by omega))).trans (hMr.2.1.2 i hi)⟩
  · exact ⟨(fk _ (by decide) (by decide)).trans hMr.2.2.1.1, (fk _ (by decide) (by decide)).trans hMr.2.2.1.2⟩
theorem l_46 {c : Nat} (hk : Tn L K z i t B c) (hO : Ok μ z B c) : w_L_law_b2350 G ob L xs K (some z) (some (z + 584)) (some (z + 593)) (some (z + 594)) (nI i) t μ := by
  obtain ⟨ht, v1, v2, hb, hc, kk⟩ := hk
  obtain ⟨hT, v, ct, V, R, ⟨hI, hR⟩, ⟨hM, hMr⟩, hV, hJ⟩ := hO
  have hj := hV.1.1
  have l := hj.1.1
  have h3 := hV.1.2.1
  have kk2 : Kk (fun ρ => t ≤ 512 ∧ (t ≤ 512 ∧ K (some z) (some (z + 584)) (some (z + 593)) (some (z + 594)) (nI i + nI 3) (t + 1) ρ)) z (B + 20000) (c + 12) := fun ρ h => ⟨ht, ht, kk ρ h⟩
  unfold w_L_law_b2350 w_L_law_b2403 w_L_law_b2766 w_L_renderMessage
  refine ⟨ht, v1, z, rfl, hT.kz, t_renderMessage hT hI.1 hR.2.2.2 hJ.2.2.2.2.1 hj (by omega) (fun q ν g O => ?_) (fun q => ⟨rfl, v1, z + 584, rfl, hT.km, ?_⟩)⟩
  · have m := hj.1.2.2.1 _ q
    have i3 := hj.1.2.1.1 _ q
    have nn := l.2.2 _ q
    have n6 := l.1.1
    have hs : v (146 + 7 * fPl v (xs (nI i + nI 1).toNatClampNeg) + 4) < 128 := by
      have := m.1
      omega
    have L1 := rM_1 (id := v (146 + 7 * fPl v (xs (nI i + nI 1).toNatClampNeg))) (n := v (146 + 7 * fPl v (xs (nI i + nI 1).toNatClampNeg) + 1)) (k := v (146 + 7 * fPl v (xs (nI i + nI 1).toNatClampNeg) + 2)) (a := v (146 + 7 * fPl v (xs (nI i + nI 1).toNatClampNeg) + 3)) (s := v (146 + 7 * fPl v (xs (nI i + nI 1).toNatClampNeg) + 4)) (by omega) (by omega) (by omega)
    have E1 := rM_8 (id := v (146 + 7 * fPl v (xs (nI i + nI 1).toNatClampNeg))) (n := v (146 + 7 * fPl v (xs (nI i + nI 1).toNatClampNeg) + 1)) (k := v (146 + 7 * fPl v (xs (nI i + nI 1).toNatClampNeg) + 2)) (a := v (146 + 7 * fPl v (xs (nI i + nI 1).toNatClampNeg) + 3)) (s := v (146 + 7 * fPl v (xs (nI i + nI 1).toNatClampNeg) + 4)) (by omega) (by omega) (by omega) (by omega) hs
    have mod : ∀ {Q : Int32 → mmT → Prop} {σ : mmT}, ST σ z → (∀ i, mA σ (z + 585) i = nI (v i)) → _ → w_X11_renderMessage G σ (z + 584) (xs (nI i + nI 1).toNatClampNeg) Q := fun {Q σ} a1 a2 a3 => s_renderMessage (Q := Q) a1 a2 hj (by omega) (by omega) (fun _ => a3) (fun z => absurd q z)
    generalize rM (v (146 + 7 * fPl v (xs (nI i + nI 1).toNatClampNeg))) (v (146 + 7 * fPl v (xs (nI i + nI 1).toNatClampNeg) + 1)) (v (146 + 7 * fPl v (xs (nI i + nI 1).toNatClampNeg) + 2)) (v (146 + 7 * fPl v (xs (nI i + nI 1).toNatClampNeg) + 3)) (v (146 + 7 * fPl v (xs (nI i + nI 1).toNatClampNeg) + 4)) = o at *
    obtain ⟨p1, p2, p3, p4, p5⟩ := ok_ou hT hI hR hM hMr hV hJ g O (fun _ => trivial)
    have q1 : ST (sL ν (z + 593) (nI 0).toNatClampNeg (nI o.1).toInt64) z := p1
    have q2 : ICv (sL ν (z + 593) (nI 0).toNatClampNeg (nI o.1).toInt64) z v ct V := p2
    have q3 : ICr (sL ν (z + 593) (nI 0).toNatClampNeg (nI o.1).toInt64) z (rOu R o.1 o.2) := p3
    have q4 : IMv (sL ν (z + 593) (nI 0).toNatClampNeg (nI o.1).toInt64) z v ct V := p4
    have q5 : IMr (sL ν (z + 593) (nI 0).toNatClampNeg (nI o.1).toInt64) z R := p5
    have eL : mL (sL ν (z + 593) (nI 0).toNatClampNeg (nI o.1).toInt64) (z + 593) 0 = (nI o.1).toInt64 := sL_e0
    refine ⟨z + 593, rfl, p1.l.1, lvp p1, v1, z + 584, rfl, q1.km, ?_⟩
    generalize sL ν (z + 593) (nI 0).toNatClampNeg (nI o.1).toInt64 = σ at *
    refine mod q1 q4.1 (fun ρ g2 fk f0 O2 => ?_)
    have hO := ok_ou2 q1 q2 q3 q4 q5 hV hJ (by omega) E1 g2 fk O2
    exact cmp_ok (K := (fun ρ => t ≤ 512 ∧ (t ≤ 512 ∧ K (some z) (some (z + 584)) (some (z + 593)) (some (z + 594)) (nI i + nI 3) (t + 1) ρ))) hO.1 f0 (fun _ => by rw [g2.L]; exact eL) (kk2 _ hO)
  · have hO := ok_s hT hI hR hM hMr hV hJ (k := nI 1)
    refine s_renderMessage hT hM.1 hj (by omega) (by omega) (fun z => absurd z q) (fun _ => ?_)
    exact cmp_ok (K := (fun ρ => t ≤ 512 ∧ (t ≤ 512 ∧ K (some z) (some (z + 584)) (some (z + 593)) (some (z + 594)) (nI i + nI 3) (t + 1) ρ))) hO.1 sI_e (fun e => absurd e (by decide)) (kk2 _ hO)
theorem l_47 {c : Nat} (hk : Tn L K z i t B c) (hO : Ok μ z B c) : w_L_law_b2406 G ob L xs K (some z) (some (z + 584)) (some (z + 593)) (some (z + 594)) (nI i) t μ := by
  obtain ⟨ht, v1, v2, hb, hc, kk⟩ := hk
  obtain ⟨hT, v, ct, V, R, ⟨hI, hR⟩, ⟨hM, hMr⟩, hV, hJ⟩ := hO
  have hj := hV.1.1
  have l1 := hj.1.1.1.2.1
  unfold w_L_law_b2406 w_L_law_b2766
  refine ⟨ht, z, rfl, hT.kz, t_renderCrows hT hI.1 hR.2.2.2 hJ.2.2.2.2.1 hj (by omega) (fun ν g O => ?_)⟩
  obtain ⟨p1, p2, p3, p4, p5⟩ := ok_ou hT hI hR hM hMr hV hJ g O (fun _ => trivial)
  refine ⟨z + 584, rfl, p1.km, s_renderCrows p1 p4.1 hj (by omega) (fun ρ g2 fk O2 => ⟨fun _ => ⟨ht, kk _ (ok_ou2 p1 p2 p3 p4 p5 hV hJ (by omega) (oL_8 _) g2 fk O2)⟩, fun q => q rfl⟩)⟩
end REND2
