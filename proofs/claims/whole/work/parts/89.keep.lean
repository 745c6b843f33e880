/-! TAKING BACK, SAVING, RESTORING -/
section KEEP
variable {G : mgT} {μ ν ρ σ : mmT} {z a b c c2 m i F nx ct t o L : Nat} {S S2 : cT} {v w v0 : Nat → Nat} {V : Nat → Nat → Nat} {R : rT} {B B2 : Nat} {x : Int32}
theorem VT_same (hM : IMv μ z v ct V) {k : Int32} : VT (sI μ F (z + 584) k) (z + 584) v = sI μ F (z + 584) k := VT_self (fun i => hM.1 i)
theorem ok_s (hT : ST μ z) (hI : ICv μ z v ct V) (hR : ICr μ z R) (hM : IMv μ z v ct V) (hMr : IMr μ z R) (hV : JV B c v ct V) (hJ : JR B c R) {k : Int32} : Ok (sI μ 320 (z + 584) k) z (B + 20000) (c + 12) := by
  have := ok_q hT hI hR hM hMr hV hJ (k := k)
  rw [VT_same hM] at this
  exact this
/-- a class's undo -/
theorem t_undo {Q : Int32 → mmT → Prop} {X : String → mmT → Prop} (hT : ST μ z) (hI : ICv μ z v ct V) (hl : ∀ k, k < ct → Lim (V k)) (hc : ct ≤ 8)
    (h1 : 1 ≤ ct → ∀ ν, Ag z μ ν (Pc z) → ICv ν z (V (ct - 1)) (ct - 1) V → Q (nI (ct - 1)) ν) (h0 : ct = 0 → X "java/util/NoSuchElementException" μ) : w_X10_undo G μ z Q X := by
  obtain ⟨i1, i2, i3, nx, i4⟩ := hI
  unfold w_X10_undo
  rw [hT.z5]
  refine ⟨hT.kz, _, rfl, hT.h, fun q => ?_, fun q => ?_⟩
  · have c1 : 1 ≤ ct := by
      have : ct ≠ 0 := fun e => q (by rw [i4.1.2.1, e]; rfl)
      omega
    rw [hT.z1]
    refine t_takeBack hT i4 c1 i1.f (hl _ (by omega)) (fun ν g s h => ?_)
    have hT2 := hT.ag g
    refine ⟨hT2.kz, _, hT2.z5, hT2.h, ?_⟩
    rw [h.1.2.1]
    exact h1 c1 ν (g.up (fun b hb => by show _ ∨ _; omega)) ⟨s, Sf_ag i2 g (fun b h1 h2 q => by omega), Sf_ag i3 g (fun b h1 h2 q => by omega), _, h⟩
  · rw [i4.1.2.1] at q
    exact h0 (nI_inj (by omega) (by decide) q)
theorem t_save {Q : Int32 → mmT → Prop} (hT : ST μ z) (h1 : St μ (z + 1) v) (h4 : Sf μ (z + 130)) (l : Lim v) (hq : ∀ ν, Ag z μ ν (fun b => b = z ∨ (z + 130 ≤ b ∧ b < z + 173)) → mI ν 295 z = nI 1 → mI ν 296 z = mI μ 296 z → mI ν 297 z = mI μ 297 z → St ν (z + 130) v → Q (nI (v 2)) ν) : w_X10_save G μ z Q := by
  unfold w_X10_save
  refine ⟨hT.kz, _, hT.z4, hT.s4.1, ?_⟩
  rw [hT.z1]
  refine w_copy (z := z) R0_4 hT.s4 hT.s1 (by omega) h4 h1 l (fun ν g s => ?_)
  have hT2 := hT.ag g
  have g2 : Ag z ν (sI ν 295 z (nI 1)) (fun b => b = z) := Ag_sI
  have hT3 := hT2.ag g2
  refine ⟨hT2.kz, _, hT3.z1, hT3.s1.1, ?_⟩
  have e2 : mI (sI ν 295 z (nI 1)) 230 (z + 1) = nI (v 2) := by
    have : mI (sI ν 295 z (nI 1)) 230 (z + 1) = mI μ 230 (z + 1) := (g2.I (by omega)).trans (g.I (by omega))
    rw [this]
    obtain ⟨S, e1, r1⟩ := h1
    exact (e1.1 230 0 (by decide)).trans r1.1.2.2.1
  rw [e2]
  exact hq _ ((g.tr g2).up (fun b hb => by omega)) sI_e ((sI_o (by omega)).trans (g.I (by omega))) ((sI_o (by omega)).trans (g.I (by omega))) (St_ag s g2 (fun b h1 h2 q => by omega))
theorem t_restore {Q : Int32 → mmT → Prop} {X : String → mmT → Prop} (hT : ST μ z) (hI : ICv μ z v ct V) (hS : ICs μ z R) (hr : rH R ≤ 1) (l : rH R = 1 → Lim (rV R))
    (h1 : rH R = 1 → ∀ ν, Ag z μ ν (Pc z) → ICv ν z (rV R) 0 V → Q (nI (rV R 2)) ν) (h0 : rH R = 0 → X "java/lang/IllegalStateException" μ) : w_X10_restore G μ z Q X := by
  obtain ⟨i1, i2, i3, nx, i4⟩ := hI
  obtain ⟨e1, f1, s1⟩ := hS
  unfold w_X10_restore
  rw [e1, hT.z1, hT.z4]
  refine ⟨hT.kz, fun q => ?_, fun q => h0 (nI_inj (by omega) (by decide) q)⟩
  have r1 : rH R = 1 := by
    have : rH R ≠ 0 := fun e => q (by rw [e]; rfl)
    omega
  refine ⟨_, rfl, hT.s1.1, w_copy (z := z) R0_1 hT.s1 hT.s4 (by omega) i1.f (s1 r1) (l r1) (fun ν g s => ?_)⟩
  have hT2 := hT.ag g
  refine ⟨hT2.kz, _, hT2.z5, hT2.h, ?_⟩
  have g2 : Ag z ν (sI ν 98 (z + 173) (nI 0)) (fun b => b = z + 173) := Ag_sI
  have hT3 := hT2.ag g2
  refine ⟨_, hT3.z1, hT3.s1.1, ?_⟩
  have s2 := St_ag s g2 (fun b h1 h2 q => by omega)
  have e2 : mI (sI ν 98 (z + 173) (nI 0)) 230 (z + 1) = nI (rV R 2) := by
    obtain ⟨S, e1, r1⟩ := s2
    exact (e1.1 230 0 (by decide)).trans r1.1.2.2.1
  rw [e2]
  refine h1 r1 _ ((g.tr g2).up (fun b hb => by show _ ∨ _; omega)) ⟨s2, Sf_ag (Sf_ag i2 g (fun b h1 h2 q => by omega)) g2 (fun b h1 h2 q => by omega), Sf_ag (Sf_ag i3 g (fun b h1 h2 q => by omega)) g2 (fun b h1 h2 q => by omega), nx, ⟨(sI_o (by omega)).trans ((g.I (by omega)).trans i4.1.1), sI_e, i4.1.2.2.1, Nat.zero_le _⟩, fun i hi => ?_⟩
  obtain ⟨S', t1, t2, -⟩ := i4.2 i hi
  exact ⟨S', BT_ag (BT_ag t1 g (fun b h1 h2 q => by omega)) g2 (fun b h1 h2 q => by omega), t2, fun k hk => absurd hk (Nat.not_lt_zero _)⟩
/-! the reference's -/
theorem vp_th {N : Nat} {a : Nat} (h : mN μ a = N) (hi : i < N) (hN : N < 2 ^ 31) : vp_in (nI i) (mN μ a) := by
  rw [h]
  exact vp_in_nI hi hN
/-- a row comes out of an array: the loop's memory -/
theorem rowV_step {u : Nat → Nat} : VT σ m (up (fun k => if k < i then u k else v k) i (u i)) = VT σ m (fun k => if k < i + 1 then u k else v k) := VT_c (fun j => by
  rw [up_a]
  by_cases y : j = i
  · rw [if_pos y, if_pos (by omega), y]
  · rw [if_neg y]
    by_cases z : j < i
    · rw [if_pos z, if_pos (by omega)]
    · rw [if_neg z, if_neg (by omega)])
theorem rowV_0 {u : Nat → Nat} : VT σ m (fun k => if k < 0 then u k else v k) = VT σ m v := VT_c (fun j => if_neg (Nat.not_lt_zero j))
theorem s_undo {Q : Int32 → mmT → Prop} (hT : ST μ z) (hM : IMv μ z v ct V) (hc : ct ≤ 8)
    (h1 : 1 ≤ ct → Q (nI (ct - 1)) (VT (sI (sI μ 320 (z + 584) (nI 0)) 326 (z + 584) (nI (ct - 1))) (z + 584) (mx (V (ct - 1)) v))) (h0 : ct = 0 → Q (nI 0) (sI μ 320 (z + 584) (nI 1))) : w_X11_undo G μ (z + 584) Q := by
  have e : mI (sI μ 320 (z + 584) (nI 0)) 326 (z + 584) = nI ct := (sI_o (by omega)).trans hM.2.1
  unfold w_X11_undo w_X11_fails
  rw [e]
  refine ⟨hT.km, fun q => ?_, fun q => ⟨hT.km, ?_⟩⟩
  · have c1 : 1 ≤ ct := by
      have : ct ≠ 0 := fun e => q (by rw [e]; rfl)
      omega
    have hq := h1 c1
    rw [pk_sub c1]
    have hr := hM.2.2 (ct - 1) (by omega)
    have hv : ∀ i, mA (sI (sI μ 320 (z + 584) (nI 0)) 326 (z + 584) (nI (ct - 1))) (z + 584 + 1) i = nI (v i) := fun i => hM.1 i
    have g : Ag z μ (sI (sI μ 320 (z + 584) (nI 0)) 326 (z + 584) (nI (ct - 1))) (fun b => b = z + 584) := (Ag_sI.tr Ag_sI).up (fun b h => h.elim id id)
    have hT2 := hT.ag g
    have e6 : mI (sI (sI μ 320 (z + 584) (nI 0)) 326 (z + 584) (nI (ct - 1))) 326 (z + 584) = nI (ct - 1) := sI_e
    have hr2 : ∀ q, q < 258 → mA (sI (sI μ 320 (z + 584) (nI 0)) 326 (z + 584) (nI (ct - 1))) (z + 588) (258 * (ct - 1) + q) = nI (V (ct - 1) q) := hr
    generalize sI (sI μ 320 (z + 584) (nI 0)) 326 (z + 584) (nI (ct - 1)) = σ at *
    refine (lpE (W := fun n i => w_X11_undo_l30 G (z + 584) Q n (nI i) (VT σ (z + 584) (fun k => if k < i then V (ct - 1) k else v k))) (N := 258) ?_ (Nat.zero_le _)).imp fun n hn => ?_
    · intro n i hi ih
      show w_X11_undo_b30 G (z + 584) Q _ (nI i) _
      unfold w_X11_undo_b30
      rw [VT_I, e6, pk_mul, nI_add]
      refine pk_le 258 i (fun cc => ⟨hT2.km, ?_⟩) (fun cc => ⟨hT2.km, z + 588, hT2.hi.1, hT2.hi.2.1, vp_th hT2.hi.2.2 (by omega) (by decide), z + 585, hT2.ms.2.1, hT2.ms.2.2.1, vp_th hT2.ms.2.2.2 cc (by decide), ?_⟩)
      · have : i = 258 := by omega
        subst this
        exact hq
      · rw [cl (by omega), cl (by omega), VT_Ao (by omega), hr2 i cc, VT_sA (m := z + 584), rowV_step, nI_add]
        exact ih cc
    · rw [rowV_0, VT_self hv] at hn
      exact hn
  · rw [sII]
    exact h0 (nI_inj (by omega) (by decide) q)
theorem s_save {Q : Int32 → mmT → Prop} (hT : ST μ z) (hM : IMv μ z v ct V) (hq : ∀ g, (∀ k, k < 258 → g k = nI (v k)) → Q (nI (v 2)) (sI (AT (sI μ 320 (z + 584) (nI 0)) (z + 587) g) 327 (z + 584) (nI 1))) : w_X11_save G μ (z + 584) Q := by
  have hv : ∀ i, mA (sI μ 320 (z + 584) (nI 0)) (z + 585) i = nI (v i) := fun i => hM.1 i
  have hT2 : ST (sI μ 320 (z + 584) (nI 0)) z := hT
  unfold w_X11_save
  refine ⟨hT.km, ?_⟩
  generalize sI μ 320 (z + 584) (nI 0) = σ at *
  refine (lpE (W := fun n i => w_X11_save_l7 G (z + 584) Q n (nI i) (AT σ (z + 587) (cpG (mA σ (z + 587)) (fun k => nI (v k)) 0 i))) (N := 258) ?_ (Nat.zero_le _)).imp fun n hn => ?_
  · intro n i hi ih
    show w_X11_save_b7 G (z + 584) Q _ (nI i) _
    unfold w_X11_save_b7
    refine pk_le 258 i (fun cc => ⟨hT2.km, z + 585, hT2.ms.2.1, hT2.ms.2.2.1, vp_th hT2.ms.2.2.2 (by decide) (by decide), ?_⟩) (fun cc => ⟨hT2.km, z + 585, hT2.ms.2.1, hT2.ms.2.2.1, vp_th hT2.ms.2.2.2 cc (by decide), z + 587, hT2.sv.1, hT2.sv.2.1, vp_th hT2.sv.2.2 cc (by decide), ?_⟩)
    · have : i = 258 := by omega
      subst this
      have e : mA (sI (AT σ (z + 587) (cpG (mA σ (z + 587)) (fun k => nI (v k)) 0 258)) 327 (z + 584) (nI 1)) (z + 585) (nI 2).toNatClampNeg = nI (v 2) := by
        rw [cl (by decide), sI_A, AT_Ao (by omega)]
        exact hv 2
      rw [e]
      exact hq _ (fun k hk => cpG_i (by omega) (by omega))
    · rw [cl (by omega), AT_Ao (by omega), hv i, AT_sA, nI_add]
      have := ih cc
      rw [← cpG_s0] at this
      exact this
  · rw [cpG_0, AT_self] at hn
    exact hn
theorem s_restore {Q : Int32 → mmT → Prop} (hT : ST μ z) (hM : IMv μ z v ct V) (hS : IMs μ z R) (hr : rH R ≤ 1)
    (h1 : rH R = 1 → Q (nI (rV R 2)) (sI (VT (sI μ 320 (z + 584) (nI 0)) (z + 584) (mx (rV R) v)) 326 (z + 584) (nI 0))) (h0 : rH R = 0 → Q (nI 0) (sI μ 320 (z + 584) (nI 1))) : w_X11_restore G μ (z + 584) Q := by
  have e : mI (sI μ 320 (z + 584) (nI 0)) 327 (z + 584) = nI (rH R) := (sI_o (by omega)).trans hS.1
  unfold w_X11_restore w_X11_fails
  rw [e]
  refine ⟨hT.km, fun q => ?_, fun q => ⟨hT.km, ?_⟩⟩
  · have r1 : rH R = 1 := by
      have : rH R ≠ 0 := fun e => q (by rw [e]; rfl)
      omega
    have hq := h1 r1
    have hv : ∀ i, mA (sI μ 320 (z + 584) (nI 0)) (z + 584 + 1) i = nI (v i) := fun i => hM.1 i
    have hT2 : ST (sI μ 320 (z + 584) (nI 0)) z := hT
    have hr2 : ∀ q, q < 258 → mA (sI μ 320 (z + 584) (nI 0)) (z + 587) q = nI (rV R q) := hS.2 r1
    generalize sI μ 320 (z + 584) (nI 0) = σ at *
    refine (lpE (W := fun n i => w_X11_restore_l20 G (z + 584) Q n (nI i) (VT σ (z + 584) (fun k => if k < i then rV R k else v k))) (N := 258) ?_ (Nat.zero_le _)).imp fun n hn => ?_
    · intro n i hi ih
      show w_X11_restore_b20 G (z + 584) Q _ (nI i) _
      unfold w_X11_restore_b20
      refine pk_le 258 i (fun cc => ⟨hT2.km, z + 585, hT2.ms.2.1, hT2.ms.2.2.1, vp_th hT2.ms.2.2.2 (by decide) (by decide), ?_⟩) (fun cc => ⟨hT2.km, z + 587, hT2.sv.1, hT2.sv.2.1, vp_th hT2.sv.2.2 cc (by decide), z + 585, hT2.ms.2.1, hT2.ms.2.2.1, vp_th hT2.ms.2.2.2 cc (by decide), ?_⟩)
      · have : i = 258 := by omega
        subst this
        have e : mA (sI (VT σ (z + 584) (fun k => if k < 258 then rV R k else v k)) 326 (z + 584) (nI 0)) (z + 585) (nI 2).toNatClampNeg = nI (rV R 2) := by
          rw [cl (by decide), sI_A, VT_Az, if_pos (by decide)]
        rw [e]
        exact hq
      · rw [cl (by omega), VT_Ao (by omega), hr2 i cc, VT_sA (m := z + 584), rowV_step, nI_add]
        exact ih cc
    · rw [rowV_0, VT_self hv] at hn
      exact hn
  · rw [sII]
    exact h0 (nI_inj (by omega) (by decide) q)
end KEEP
