/-! .. ONE AFTER ANOTHER -/
section RUNS
variable {G : mgT} {μ ν ρ σ μ0 : mmT} {z m i j k F n o f g s d N q : Nat} {S S2 : cT} {v w v0 : Nat → Nat} {X : Nat → Nat} {a b a2 b2 x y : Int32} {B c : Nat} {P P2 : Nat → Prop}
def CsC (G : mgT) (μ : mmT) (z : Nat) (X : Nat → Nat) (F N : Nat) : Prop := mI μ 195 (z + 519) = nI (N + 1) ∧ ∀ j, j ≤ N → Cd G μ (z + (522 + j)) X F (sS X F j) (pk X F (sS X F j))
def MsC (μ : mmT) (z : Nat) (X : Nat → Nat) (F N : Nat) : Prop := mI μ 338 (z + 584) = nI (N + 1) ∧ ∀ j, j ≤ N → Md μ z X F (sS X F j) j
def Rq (z : Nat) (ν ρ : mmT) : Prop := Ag z ν ρ (fun b => b = z + 584) ∧ (∀ F, F ≠ 335 → mI ρ F (z + 584) = mI ν F (z + 584)) ∧ mA ρ = mA ν
theorem Rq_rf : Rq z ν ν := ⟨Ag_rf, fun _ _ => rfl, rfl⟩
theorem Rq.tr (h : Rq z μ ν) (h2 : Rq z ν ρ) : Rq z μ ρ := ⟨(h.1.tr h2.1).up (fun b q => q.elim id id), fun F q => (h2.2.1 F q).trans (h.2.1 F q), h2.2.2.trans h.2.2⟩
theorem Rq_sI {x : Int32} : Rq z ν (sI ν 335 (z + 584) x) := ⟨Ag_sI, fun F q => sI_o (by omega), rfl⟩
theorem MsC.rq (h : MsC μ z X F N) (g : Rq z μ ν) : MsC ν z X F N := ⟨(g.2.1 _ (by decide)).trans h.1, fun j hj => by
  have := h.2 j hj
  unfold Md at this ⊢
  rw [g.2.2]
  exact this⟩
def cE (G : mgT) (z : Nat) (Xx : String → mmT → Prop) (x2 : Int32) (μ37 : mmT) : Prop := mK μ37 z = 10 ∧ ∃ a40, mR μ37 288 z = some a40 ∧ (mK μ37 a40 = 8 ∧ w_X8_copyFrom G μ37 a40 (mR μ37 289 z) (fun μ43 => mK μ43 z = 10 ∧ Xx "java/lang/IllegalStateException" (sI μ43 297 z x2)))
def cDn (X : Nat → Nat) (F N k d : Nat) (v w : Nat → Nat) : Prop := ∀ (G : mgT) (z : Nat) (ν : mmT) (S : cT) (Q : Int32 → mmT → Prop) (Xx : String → mmT → Prop), ST ν z → CsC G ν z X F N → Rel S v 4 16 → (∀ S', Rel S' w 4 16 → w_X10_runScript_l55 G z Q Xx 1 (nI (N + 1)) (CT ν (z + 1) S')) → w_X10_runScript_l55 G z Q Xx (d + 1) (nI k) (CT ν (z + 1) S)
def cFl (X : Nat → Nat) (F N k d q : Nat) (v w : Nat → Nat) : Prop := ∀ (G : mgT) (z : Nat) (ν : mmT) (S : cT) (Q : Int32 → mmT → Prop) (Xx : String → mmT → Prop), ST ν z → CsC G ν z X F N → Rel S v 4 16 → (∀ S', Rel S' w 4 16 → cE G z Xx (nI q) (CT ν (z + 1) S')) → w_X10_runScript_l55 G z Q Xx (d + 1) (nI k) (CT ν (z + 1) S)
def mDn (X : Nat → Nat) (F N k d : Nat) (v w : Nat → Nat) : Prop := ∀ (G : mgT) (z : Nat) (ν : mmT) (Q : Int32 → mmT → Prop), ST ν z → MsC ν z X F N → (∀ ρ, Rq z ν ρ → w_X11_runScript_l104 G (z + 584) Q 1 (nI (N + 1)) (VT ρ (z + 584) w)) → w_X11_runScript_l104 G (z + 584) Q (d + 1) (nI k) (VT ν (z + 584) v)
def mFl (X : Nat → Nat) (F N k d q : Nat) (v w : Nat → Nat) : Prop := ∀ (G : mgT) (z : Nat) (ν : mmT) (Q : Int32 → mmT → Prop), ST ν z → MsC ν z X F N → (∀ ρ, Rq z ν ρ → ∃ n, w_X11_runScript_l125 G (z + 584) Q n (nI q) (nI 0) (VT ρ (z + 584) w)) → w_X11_runScript_l104 G (z + 584) Q (d + 1) (nI k) (VT ν (z + 584) v)
theorem c_step {Q : Int32 → mmT → Prop} {Xx : String → mmT → Prop} (ok : okp X F (sS X F k) = true) (hs : sS X F k ≤ F) (hk : k ≤ N) (hN : N < 59) (hT : ST ν z) (hC : CsC G ν z X F N)
    (h : W8 (pk X F (sS X F k)) (vA X F (sS X F k)) (vB X F (sS X F k)) G (CT ν (z + 1) S) (z + 1) (fun u36 μ37 => (0 ≤ u36 → w_X10_runScript_l55 G z Q Xx d (nI k + nI 1) μ37) ∧ (¬ 0 ≤ u36 → cE G z Xx (nI k) μ37))) : w_X10_runScript_l55 G z Q Xx (d + 1) (nI k) (CT ν (z + 1) S) := by
  have hT2 : ST (CT ν (z + 1) S) z := hT.ag (Ag_CT R0_1)
  have e5 : mI (CT ν (z + 1) S) 195 (z + 519) = nI (N + 1) := (CT_Io (by omega)).trans hC.1
  have cd : Cd G (CT ν (z + 1) S) (z + (522 + k)) X F (sS X F k) (pk X F (sS X F k)) := by
    obtain ⟨c1, x, y, c2, c3⟩ := hC.2 k hk
    exact ⟨c1, x, y, (CT_Io (by omega)).trans c2, (CT_Io (by omega)).trans c3⟩
  generalize CT ν (z + 1) S = τ at *
  refine ⟨hT2.kz, z + 519, hT2.z6, hT2.t.1, ?_⟩
  rw [e5]
  refine ⟨fun e => absurd ((nI_leI (by omega) (by omega)).mp e) (by omega), fun _ => ⟨z + 521, hT2.t.2.2.1, hT2.t.2.2.2.2.2.1, vp_th hT2.t.2.2.2.2.2.2.1 (by omega) (by decide), z + 1, hT2.z1, hT2.s1.1, ?_⟩⟩
  rw [cl (by omega), (hT2.t.2.2.2.2.2.2.2 k (by omega)).1]
  exact t_pf ok hs (hT2.t.2.2.2.2.2.2.2 k (by omega)).2 hT2.s1.1 cd h
theorem m_step {Q : Int32 → mmT → Prop} (ok : okp X F (sS X F k) = true) (hs : sS X F k ≤ F) (hk : k ≤ N) (hN : N < 59) (hT : ST ν z) (hC : MsC ν z X F N)
    (h : W11 (pk X F (sS X F k)) (vA X F (sS X F k)) (vB X F (sS X F k)) G (VT ν (z + 584) v) (z + 584) (fun u17 μ18 => (¬ u17 = 0 → ∃ n, w_X11_runScript_l125 G (z + 584) Q n (nI k) (nI 0) μ18) ∧ (u17 = 0 → w_X11_runScript_l104 G (z + 584) Q d (nI k + nI 1) μ18))) : w_X11_runScript_l104 G (z + 584) Q (d + 1) (nI k) (VT ν (z + 584) v) := by
  have hT2 : ST (VT ν (z + 584) v) z := hT.ag Ag_VT
  have e8 : mI (VT ν (z + 584) v) 338 (z + 584) = nI (N + 1) := hC.1
  have md : Md (VT ν (z + 584) v) z X F (sS X F k) k := by
    have := hC.2 k hk
    have e : ∀ i, mA (VT ν (z + 584) v) (z + 591) i = mA ν (z + 591) i := fun i => VT_Ao (by omega)
    unfold Md at this ⊢
    rw [e, e, e]
    exact this
  generalize VT ν (z + 584) v = τ at *
  refine ⟨hT2.km, ?_⟩
  rw [e8]
  exact ⟨fun e => absurd ((nI_leI (by omega) (by omega)).mp e) (by omega), fun _ => s_does ((stp_b (X := X) hs).2.2 ok).2 hT2 (by omega) md h⟩
theorem runs (hN : N ≤ 12) (hok : ∀ j, j ≤ N → okp X F (sS X F j) = true ∧ sS X F j ≤ F) : ∀ (d k B c : Nat) (v : Nat → Nat), k + d = N + 1 → JB B c v → 119 ≤ B → B + 1300 * d + 1300 < 2 ^ 26 →
    (∃ w, JB (B + 1300 * d) (c + d) w ∧ cDn X F N k d v w ∧ mDn X F N k d v w) ∨ (∃ q w, q ≤ N ∧ JB (B + 1300 * d) (c + d) w ∧ cFl X F N k d q v w ∧ mFl X F N k d q v w) := by
  intro d
  induction d with
  | zero =>
    intro k B c v hk hv hB hB2
    obtain rfl : k = N + 1 := by omega
    exact Or.inl ⟨v, hv, fun G z ν S Q Xx hT hC r h => h S r, fun G z ν Q hT hC h => h ν Rq_rf⟩
  | succ d ih =>
    intro k B c v hk hv hB hB2
    obtain ⟨ok, hs⟩ := hok k (by omega)
    obtain ⟨ec, hec, hp⟩ := p_run (a := vA X F (sS X F k)) (b := vB X F (sS X F k)) ((stp_b (X := X) hs).2.2 ok).2 hv ⟨hB, by omega⟩
    rcases hp with ⟨r, w1, hr, hw, A8, A11⟩ | ⟨q, hq, A8, A11⟩
    · have c1 : ∀ (G : mgT) (z : Nat) (ν : mmT) (S : cT) (Q : Int32 → mmT → Prop) (Xx : String → mmT → Prop), ST ν z → CsC G ν z X F N → Rel S v 4 16 → (∀ S', Rel S' w1 4 16 → w_X10_runScript_l55 G z Q Xx (d + 1) (nI (k + 1)) (CT ν (z + 1) S')) → w_X10_runScript_l55 G z Q Xx (d + 1 + 1) (nI k) (CT ν (z + 1) S) := by
        intro G z ν S Q Xx hT hC r1 h
        refine c_step ok hs (by omega) (by omega) hT hC (A8 G ν (z + 1) S _ hT.s1 r1 (fun S' r' => ⟨fun _ => ?_, fun e => absurd ?_ e⟩))
        · rw [nI_add]; exact h S' r'
        · exact nI_le (a := 0) (by omega) hr
      have c2 : ∀ (G : mgT) (z : Nat) (ν : mmT) (Q : Int32 → mmT → Prop), ST ν z → MsC ν z X F N → (∀ ρ, Rq z ν ρ → ST ρ z → MsC ρ z X F N → w_X11_runScript_l104 G (z + 584) Q (d + 1) (nI (k + 1)) (VT ρ (z + 584) w1)) → w_X11_runScript_l104 G (z + 584) Q (d + 1 + 1) (nI k) (VT ν (z + 584) v) := by
        intro G z ν Q hT hC h
        refine m_step ok hs (by omega) (by omega) hT hC (A11 G ν (z + 584) _ hT.ms ⟨fun e => absurd rfl e, fun _ => ?_⟩)
        rw [nI_add, VT_sI]
        exact h _ Rq_sI (hT.ag Ag_sI) (hC.rq Rq_sI)
      rcases ih (k + 1) (B + 1300) (c + 1) w1 (by omega) hw (by omega) (by omega) with ⟨w, h1, h2, h3⟩ | ⟨q, w, h1, h0, h2, h3⟩
      · refine Or.inl ⟨w, JB_mono h1 (by omega) (by omega), fun G z ν S Q Xx hT hC r1 h => c1 G z ν S Q Xx hT hC r1 (fun S' r' => h2 G z ν S' Q Xx hT hC r' h), fun G z ν Q hT hC h => c2 G z ν Q hT hC (fun ρ g t1 t2 => h3 G z ρ Q t1 t2 (fun τ g2 => h τ (g.tr g2)))⟩
      · refine Or.inr ⟨q, w, h1, JB_mono h0 (by omega) (by omega), fun G z ν S Q Xx hT hC r1 h => c1 G z ν S Q Xx hT hC r1 (fun S' r' => h2 G z ν S' Q Xx hT hC r' h), fun G z ν Q hT hC h => c2 G z ν Q hT hC (fun ρ g t1 t2 => h3 G z ρ Q t1 t2 (fun τ g2 => h τ (g.tr g2)))⟩
    · obtain ⟨hk1, hk2⟩ := hec q hq
      refine Or.inr ⟨k, v, by omega, JB_mono hv (by omega) (by omega), fun G z ν S Q Xx hT hC r1 h => ?_, fun G z ν Q hT hC h => ?_⟩
      · exact c_step ok hs (by omega) (by omega) hT hC (A8 G ν (z + 1) S _ hT.s1 r1 ⟨fun e => absurd (Int32.not_lt.mpr e) (fun x => x hk2), fun _ => h S r1⟩)
      · exact m_step ok hs (by omega) (by omega) hT hC (A11 G ν (z + 584) _ hT.ms ⟨fun _ => h ν Rq_rf, fun e => absurd e (nI_ne0 hk1.1 (by omega))⟩)
end RUNS
