/-! THE CLASS READS ONE COMMAND -/
section CMD
variable {G : mgT} {μ ν ρ σ μ0 : mmT} {z a b c m i j k F n o f g s : Nat} {X : Nat → Nat} {x y x2 y2 : Int32} {P P2 : Nat → Prop}
def cn : List Int32 → Nat
  | [] => 0
  | c :: p => cn p + if c = nI 35 ∨ c = nI 37 then 1 else 0
theorem pm_x : ∀ (p : List Int32) (i n : Nat) (x y x2 y2 : Int32), (pm X F p i n x y).1 = (pm X F p i n x2 y2).1 ∧ (pm X F p i n x y).2.1 = (pm X F p i n x2 y2).2.1
  | [], i, n, x, y, x2, y2 => ⟨rfl, rfl⟩
  | c :: p, i, n, x, y, x2, y2 => by
    rw [pm_c, pm_c]
    by_cases d : c = nI 35 ∨ c = nI 37
    · rw [if_pos d, if_pos d]
      by_cases e : (dr X F (md c) i (nI 0)).1 = i
      · rw [if_pos e, if_pos e]; exact ⟨rfl, rfl⟩
      · rw [if_neg e, if_neg e]; exact pm_x p _ _ _ _ _ _
    · rw [if_neg d, if_neg d]
      by_cases e : ch X F i = c
      · rw [if_pos e, if_pos e]; exact pm_x p _ _ _ _ _ _
      · rw [if_neg e, if_neg e]; exact ⟨rfl, rfl⟩
theorem pm_v1 : ∀ (p : List Int32) (i n : Nat) (x y x2 y2 : Int32), (n = 0 ∧ 1 ≤ cn p) ∨ x = x2 → (pm X F p i n x y).2.1 = true → (pm X F p i n x y).2.2.1 = (pm X F p i n x2 y2).2.2.1
  | [], i, n, x, y, x2, y2, h, _ => by
    rcases h with ⟨_, h⟩ | h
    · exact absurd h (by decide)
    · exact h
  | c :: p, i, n, x, y, x2, y2, h, ho => by
    rw [pm_c] at ho
    rw [pm_c, pm_c]
    have ec : cn (c :: p) = cn p + if c = nI 35 ∨ c = nI 37 then 1 else 0 := rfl
    rw [ec] at h
    by_cases d : c = nI 35 ∨ c = nI 37
    · rw [if_pos d] at ho h ⊢
      rw [if_pos d]
      by_cases e : (dr X F (md c) i (nI 0)).1 = i
      · rw [if_pos e] at ho; exact absurd (show false = true from ho) (by decide)
      · rw [if_neg e] at ho ⊢
        rw [if_neg e]
        refine pm_v1 p _ _ _ _ _ _ (Or.inr ?_) ho
        unfold nx1
        by_cases n0 : n = 0
        · rw [if_pos n0, if_pos n0]
        · rw [if_neg n0, if_neg n0]
          rcases h with h | h
          · exact absurd h.1 n0
          · exact h
    · rw [if_neg d] at ho h ⊢
      rw [if_neg d]
      by_cases e : ch X F i = c
      · rw [if_pos e] at ho ⊢
        rw [if_pos e]
        exact pm_v1 p _ _ _ _ _ _ h ho
      · rw [if_neg e] at ho; exact absurd (show false = true from ho) (by decide)
theorem pm_v2 : ∀ (p : List Int32) (i n : Nat) (x y x2 y2 : Int32), (n ≤ 1 ∧ 2 ≤ n + cn p) ∨ y = y2 → (pm X F p i n x y).2.1 = true → (pm X F p i n x y).2.2.2 = (pm X F p i n x2 y2).2.2.2
  | [], i, n, x, y, x2, y2, h, _ => by
    rcases h with ⟨h1, h⟩ | h
    · have : cn [] = 0 := rfl
      omega
    · exact h
  | c :: p, i, n, x, y, x2, y2, h, ho => by
    rw [pm_c] at ho
    rw [pm_c, pm_c]
    have ec : cn (c :: p) = cn p + if c = nI 35 ∨ c = nI 37 then 1 else 0 := rfl
    rw [ec] at h
    by_cases d : c = nI 35 ∨ c = nI 37
    · rw [if_pos d] at ho h ⊢
      rw [if_pos d]
      by_cases e : (dr X F (md c) i (nI 0)).1 = i
      · rw [if_pos e] at ho; exact absurd (show false = true from ho) (by decide)
      · rw [if_neg e] at ho ⊢
        rw [if_neg e]
        unfold nx2 at ho ⊢
        by_cases n0 : n = 0
        · rw [if_pos n0] at ho ⊢
          rw [if_pos n0]
          exact pm_v2 p _ _ _ _ _ _ (h.imp (fun q => ⟨by omega, by omega⟩) id) ho
        · rw [if_neg n0] at ho ⊢
          rw [if_neg n0]
          exact pm_v2 p _ _ _ _ _ _ (Or.inr rfl) ho
    · rw [if_neg d] at ho h ⊢
      rw [if_neg d]
      by_cases e : ch X F i = c
      · rw [if_pos e] at ho ⊢
        rw [if_pos e]
        exact pm_v2 p _ _ _ _ _ _ h ho
      · rw [if_neg e] at ho; exact absurd (show false = true from ho) (by decide)
/-- the memory while the script is split: the script's own numbers change, and commands (P) -/
def Ap (z : Nat) (μ ν : mmT) (P : Nat → Prop) : Prop := (mK ν = mK μ ∧ mN ν = mN μ ∧ mA ν = mA μ ∧ mB ν = mB μ ∧ mL ν = mL μ ∧ mD ν = mD μ) ∧ (∀ F b, F ≠ 32 → mR ν F b = mR μ F b) ∧ (∀ b, b ≠ z + 519 → ¬ P b → (∀ F, mI ν F b = mI μ F b) ∧ mR ν 32 b = mR μ 32 b) ∧ ∀ F, F < 195 → mI ν F (z + 519) = mI μ F (z + 519)
theorem Ap_rf : Ap z μ μ P := ⟨⟨rfl, rfl, rfl, rfl, rfl, rfl⟩, fun _ _ _ => rfl, fun _ _ _ => ⟨fun _ => rfl, rfl⟩, fun _ _ => rfl⟩
theorem Ap.tr (h : Ap z μ ν P) (h2 : Ap z ν ρ P2) : Ap z μ ρ (fun b => P b ∨ P2 b) :=
  ⟨⟨h2.1.1.trans h.1.1, h2.1.2.1.trans h.1.2.1, h2.1.2.2.1.trans h.1.2.2.1, h2.1.2.2.2.1.trans h.1.2.2.2.1, h2.1.2.2.2.2.1.trans h.1.2.2.2.2.1, h2.1.2.2.2.2.2.trans h.1.2.2.2.2.2⟩, fun F b q => (h2.2.1 F b q).trans (h.2.1 F b q),
   fun b q r => ⟨fun F => ((h2.2.2.1 b q (fun e => r (Or.inr e))).1 F).trans ((h.2.2.1 b q (fun e => r (Or.inl e))).1 F), (h2.2.2.1 b q (fun e => r (Or.inr e))).2.trans (h.2.2.1 b q (fun e => r (Or.inl e))).2⟩, fun F q => (h2.2.2.2 F q).trans (h.2.2.2 F q)⟩
theorem Ap.up (h : Ap z μ ν P) (hP : ∀ b, P b → P2 b) : Ap z μ ν P2 := ⟨h.1, h.2.1, fun b q r => h.2.2.1 b q (fun e => r (hP b e)), h.2.2.2⟩
theorem Ap.ag (h : Ap z μ ν P) {Q : Nat → Prop} (h2 : Ap z μ ν Q) : Ap z μ ν (fun b => P b ∧ Q b) := ⟨h.1, h.2.1, fun b q r => by
  by_cases p : P b
  · exact h2.2.2.1 b q (fun e => r ⟨p, e⟩)
  · exact h.2.2.1 b q p, h.2.2.2⟩
theorem mm_sI {x : Int32} : mK (sI μ F c x) = mK μ ∧ mN (sI μ F c x) = mN μ ∧ mA (sI μ F c x) = mA μ ∧ mB (sI μ F c x) = mB μ ∧ mL (sI μ F c x) = mL μ ∧ mD (sI μ F c x) = mD μ := ⟨rfl, rfl, rfl, rfl, rfl, rfl⟩
theorem sI_R {x : Int32} : mR (sI μ F c x) = mR μ := rfl
theorem mm_sR {x : Option Nat} : mK (sR μ F c x) = mK μ ∧ mN (sR μ F c x) = mN μ ∧ mA (sR μ F c x) = mA μ ∧ mB (sR μ F c x) = mB μ ∧ mL (sR μ F c x) = mL μ ∧ mD (sR μ F c x) = mD μ := ⟨rfl, rfl, rfl, rfl, rfl, rfl⟩
theorem sR_I {x : Option Nat} : mI (sR μ F c x) = mI μ := rfl
theorem sR_o {x : Option Nat} {F2 : Nat} (h : ¬ (F2 = F ∧ b = c)) : mR (sR μ F c x) F2 b = mR μ F2 b := if_neg h
theorem sR_e {x : Option Nat} : mR (sR μ F c x) F c = x := if_pos ⟨rfl, rfl⟩
theorem Ap_sI1 {x : Int32} (hF : 195 ≤ F) : Ap z μ (sI μ F (z + 519) x) P := ⟨mm_sI, fun F b _ => by rw [sI_R], fun b q _ => ⟨fun _ => sI_o (fun e => q e.2), by rw [sI_R]⟩, fun F2 h2 => sI_o (by omega)⟩
theorem Ap_sI2 {x : Int32} (hc : c ≠ z + 519) : Ap z μ (sI μ F c x) (fun b => b = c) := ⟨mm_sI, fun F b _ => by rw [sI_R], fun b _ q => ⟨fun _ => sI_o (fun e => q e.2), by rw [sI_R]⟩, fun F2 h2 => sI_o (by omega)⟩
theorem Ap_sR {x : Option Nat} : Ap z μ (sR μ 32 c x) (fun b => b = c) := ⟨mm_sR, fun F b h => sR_o (fun e => h e.1), fun b _ q => ⟨fun _ => by rw [sR_I], sR_o (fun e => q e.2)⟩, fun F2 h2 => by rw [sR_I]⟩
theorem Am.ap (h : Am μ ν z) : Ap z μ ν P := ⟨⟨h.1.k, h.1.n, h.2.2.1, h.2.2.2, h.1.L, h.1.D⟩, fun F b _ => by rw [h.1.r], fun b q _ => ⟨fun F => h.1.I q, by rw [h.1.r]⟩, fun F h2 => h.2.1 F (by omega)⟩
theorem SS_ap (h : SS μ a) (g : Ap z μ ν P) : SS ν a := by
  obtain ⟨h0, ⟨a1, a2, a3, a4⟩, h2, h3, h4, h5, h6⟩ := h
  unfold SS
  rw [g.1.1, g.1.2.1, g.1.2.2.2.1]
  exact ⟨h0, ⟨(g.2.1 _ _ (by decide)).trans a1, (g.2.1 _ _ (by decide)).trans a2, (g.2.1 _ _ (by decide)).trans a3, (g.2.1 _ _ (by decide)).trans a4⟩, h2, h3, fun i hi => ⟨(h4 i hi).1, (h4 i hi).2.1, (g.2.1 _ _ (by decide)).trans (h4 i hi).2.2.1, (g.2.1 _ _ (by decide)).trans (h4 i hi).2.2.2.1, (h4 i hi).2.2.2.2⟩, h5, h6⟩
theorem ST_ap (h : ST μ z) (g : Ap z μ ν P) : ST ν z := by
  obtain ⟨⟨h1, h2, h3, h4, h5⟩, hZ, hH, hT, hO⟩ := h
  refine ⟨⟨SS_ap h1 g, SS_ap h2 g, SS_ap h3 g, SS_ap h4 g, fun i hi => SS_ap (h5 i hi) g⟩, ?_, ?_, ?_, ?_⟩
  · rw [g.1.1]
    obtain ⟨a0, a1, a2, a3, a4, a5, a6, a7⟩ := hZ
    exact ⟨a0, (g.2.1 _ _ (by decide)).trans a1, (g.2.1 _ _ (by decide)).trans a2, (g.2.1 _ _ (by decide)).trans a3, (g.2.1 _ _ (by decide)).trans a4, (g.2.1 _ _ (by decide)).trans a5, (g.2.1 _ _ (by decide)).trans a6, (g.2.1 _ _ (by decide)).trans a7⟩
  · rw [g.1.1, g.1.2.1, g.1.2.2.2.1]
    exact ⟨hH.1, (g.2.1 _ _ (by decide)).trans hH.2.1, hH.2.2⟩
  · rw [g.1.1, g.1.2.1, g.1.2.2.2.1]
    exact ⟨hT.1, (g.2.1 _ _ (by decide)).trans hT.2.1, (g.2.1 _ _ (by decide)).trans hT.2.2.1, hT.2.2.2⟩
  · rw [g.1.1, g.1.2.1]
    exact ⟨hO.1, (g.2.1 _ _ (by decide)).trans hO.2.1, hO.2.2⟩
theorem Tx.ap (h : Tx μ z X F) (g : Ap z μ ν P) : Tx ν z X F := ⟨(g.2.2.2 _ (by decide)).trans h.1, fun i hi => by rw [g.1.2.2.1]; exact h.2 i hi⟩
/-- where the form stops, whether it fits; over the forms before f: how far the text was reached, which form fits -/
def fp (f : Nat) : List Int32 := gByt.getD (gPat f) []
def sT (X : Nat → Nat) (F f s : Nat) : Nat := (pm X F (fp f) s 0 0 0).1
def oK (X : Nat → Nat) (F f s : Nat) : Bool := (pm X F (fp f) s 0 0 0).2.1
def rr (X : Nat → Nat) (F s : Nat) : Nat → Nat
  | 0 => s
  | f + 1 => if rr X F s f < sT X F f s then sT X F f s else rr X F s f
def ee (X : Nat → Nat) (F s : Nat) : Nat → Option Nat
  | 0 => none
  | f + 1 => if oK X F f s = true then some f else ee X F s f
def eI (X : Nat → Nat) (F s f : Nat) : Int32 := match ee X F s f with
  | none => -1
  | some g => nI (sT X F g s)
theorem fp_ok : ∀ f, f < 9 → gPat f < 37 ∧ gLen.getD (gPat f) 0 < 9 ∧ (∀ c, c ∈ fp f → c ≠ -1) ∧ 4 ≤ (fp f).length := by decide +kernel
theorem sT_b (hf : f < 9) (hs : s ≤ F) : s ≤ sT X F f s ∧ sT X F f s ≤ F ∧ (oK X F f s = true → s + 4 ≤ sT X F f s) := by
  have h := pm_b (X := X) (fp f) s 0 0 0 hs (fp_ok f hf).2.2.1
  have := (fp_ok f hf).2.2.2
  exact ⟨h.1, h.2.1, fun q => by have := h.2.2 q; unfold sT; omega⟩
theorem rr_b (hs : s ≤ F) : ∀ f, f ≤ 9 → s ≤ rr X F s f ∧ rr X F s f ≤ F
  | 0, _ => ⟨Nat.le_refl _, hs⟩
  | f + 1, h => by
    have h1 := rr_b hs f (by omega)
    have h2 := sT_b (X := X) (f := f) (by omega) hs
    show s ≤ (if rr X F s f < sT X F f s then sT X F f s else rr X F s f) ∧ (if rr X F s f < sT X F f s then sT X F f s else rr X F s f) ≤ F
    split <;> omega
/-- the command holds what the form says -/
def Cd (G : mgT) (μ : mmT) (b : Nat) (X : Nat → Nat) (F s g : Nat) : Prop := mR μ 32 b = some (gE G g) ∧ ∃ x y, mI μ 33 b = (pm X F (fp g) s 0 x y).2.2.1 ∧ mI μ 34 b = (pm X F (fp g) s 0 x y).2.2.2
theorem t_rc {Q : Int32 → mmT → Prop} {r : Nat} (hr : r < 60) (hF : F ≤ 60) (hX : ∀ i, i < F → X i ≤ 126) (hT0 : ST μ0 z) (ht0 : Tx μ0 z X F) (hs : s ≤ F)
    (h : ∀ ν, Ap z μ0 ν (fun b => b = z + (522 + r)) → mI ν 195 (z + 519) = mI μ0 195 (z + 519) → mI ν 196 (z + 519) = nI (rr X F s 9) → (∀ g, ee X F s 9 = some g → Cd G ν (z + (522 + r)) X F s g) → w_X7_readCommand_b110 G (z + 519) Q (if eI X F s 9 = nI (rr X F s 9) then nI 1 else nI 0) ν) :
    ∀ (k f : Nat) (μ : mmT), f + k = 9 → Ap z μ0 μ (fun b => b = z + (522 + r)) → mI μ 195 (z + 519) = mI μ0 195 (z + 519) → mI μ 196 (z + 519) = nI (rr X F s f) → (∀ g, ee X F s f = some g → Cd G μ (z + (522 + r)) X F s g) →
      w_X7_readCommand_l20 G (z + 519) Q (k + 1) (some (z + (522 + r))) (nI s) (eI X F s f) (some (gX G 0)) (nI 9) (nI f) μ
  | 0, f, μ, hf, hA, h5, h6, hC => by
    have hT := ST_ap hT0 hA
    obtain rfl : f = 9 := by omega
    refine ⟨fun _ => ⟨hT.t.1, ?_⟩, fun c => absurd (nI_le (by omega) (by omega)) c⟩
    rw [h6]
    have := h μ hA h5 h6 hC
    refine ⟨fun c => ?_, fun c => ?_⟩
    · rw [if_neg c] at this; exact this
    · rw [if_pos c] at this; exact this
  | k + 1, f, μ, hf, hA, h5, h6, hC => by
    have hT := ST_ap hT0 hA
    have ht := ht0.ap hA
    have hf9 : f < 9 := by omega
    have hb := rr_b (X := X) hs f (by omega)
    have hsb := sT_b (X := X) hf9 hs
    refine ⟨fun c => absurd ((nI_leI (by omega) (by omega)).mp c) (by omega), fun _ => ⟨gX G 0, rfl, rfl, vp_in_nI hf9 (by decide), f, ?_⟩⟩
    rw [cl (by omega)]
    refine ⟨rfl, hf9, hT.t.1, t_match (fp_ok f hf9).1 (fp_ok f hf9).2.1 hF hX hT ht hs (fun ν x y g r8 r9 r0 => ?_)⟩
    have hT2 := hT.ag g.1
    have e1 : (pm X F (gByt.getD (gPat f) []) s 0 x y).1 = sT X F f s := (pm_x (fp f) s 0 x y 0 0).1
    have e2 : (pm X F (gByt.getD (gPat f) []) s 0 x y).2.1 = oK X F f s := (pm_x (fp f) s 0 x y 0 0).2
    rw [e2] at r0
    rw [e1, r0]
    have h6' : mI ν 196 (z + 519) = nI (rr X F s f) := (g.2.1 _ (by decide)).trans h6
    have h5' : mI ν 195 (z + 519) = mI μ0 195 (z + 519) := (g.2.1 _ (by decide)).trans h5
    have hA' : Ap z μ0 ν (fun b => b = z + (522 + r)) := (hA.tr (P2 := fun b => b = z + (522 + r)) g.ap).up (fun b q => q.elim id id)
    have fin : ∀ (σ : mmT) (e : Int32), mK σ = mK μ0 → Ap z μ0 σ (fun b => b = z + (522 + r)) → mI σ 195 (z + 519) = mI μ0 195 (z + 519) → mI σ 196 (z + 519) = nI (rr X F s f) → e = eI X F s (f + 1) → (∀ g, ee X F s (f + 1) = some g → Cd G σ (z + (522 + r)) X F s g) → w_X7_readCommand_b78 G (z + 519) Q (w_X7_readCommand_l20 G (z + 519) Q (k + 1)) (some (z + (522 + r))) (nI s) e (some (gX G 0)) (nI 9) (nI f) (nI (sT X F f s)) σ := by
      intro σ e kk a1 a5 a6 ae aC
      refine ⟨(ST_ap hT0 a1).t.1, ?_⟩
      rw [a6, nI_add, ae]
      have g2 : Ap z σ (sI σ 196 (z + 519) (if nI (rr X F s f) < nI (sT X F f s) then nI (sT X F f s) else nI (rr X F s f))) (fun b => b = z + (522 + r)) := Ap_sI1 (by decide)
      refine t_rc hr hF hX hT0 ht0 hs h k (f + 1) _ (by omega) ((a1.tr g2).up (fun b q => q.elim id id)) ((sI_o (by omega)).trans a5) (sI_e.trans ?_) (fun g hg => ?_)
      · rw [show rr X F s (f + 1) = if rr X F s f < sT X F f s then sT X F f s else rr X F s f from rfl]
        by_cases c : rr X F s f < sT X F f s
        · rw [if_pos c, if_pos ((nI_ltI (by omega) (by omega)).mpr c)]
        · rw [if_neg c, if_neg (fun q => c ((nI_ltI (by omega) (by omega)).mp q))]
      · obtain ⟨c1, x, y, c2, c3⟩ := aC g hg
        refine ⟨?_, x, y, (sI_o (by omega)).trans c2, (sI_o (by omega)).trans c3⟩
        rw [sI_R]
        exact c1
    have ee1 : ee X F s (f + 1) = if oK X F f s = true then some f else ee X F s f := rfl
    refine ⟨hT2.t.1, fun c => ?_, fun c => ⟨z + (522 + r), rfl, ?_, ?_⟩⟩
    · have no : ¬ oK X F f s = true := fun q => by rw [if_pos q] at c; exact absurd c (by decide)
      rw [if_neg no] at ee1
      refine fin ν _ hA'.1.1 hA' h5' h6' ?_ (fun q hq => ?_)
      · unfold eI; rw [ee1]
      · obtain ⟨c1, x, y, c2, c3⟩ := hC q (by rw [ee1] at hq; exact hq)
        exact ⟨by rw [g.1.r]; exact c1, x, y, (g.1.I (by omega)).trans c2, (g.1.I (by omega)).trans c3⟩
    · exact (hT2.t.2.2.2.2.2.2.2 r hr).2
    · have yes : oK X F f s = true := Classical.byContradiction fun q => by rw [if_neg q] at c; exact c rfl
      rw [if_pos yes] at ee1
      rw [show mI (sR ν 32 (z + (522 + r)) (some (gE G f))) 198 (z + 519) = mI ν 198 (z + 519) by rw [sR_I]]
      have g3 : Ap z ν (sI (sI (sR ν 32 (z + (522 + r)) (some (gE G f))) 33 (z + (522 + r)) (mI ν 198 (z + 519))) 34 (z + (522 + r)) (mI ν 199 (z + 519))) (fun b => b = z + (522 + r)) := ((Ap_sR.tr (Ap_sI2 (by omega))).tr (Ap_sI2 (by omega))).up (fun b q => by omega)
      have e9 : mI (sI (sR ν 32 (z + (522 + r)) (some (gE G f))) 33 (z + (522 + r)) (mI ν 198 (z + 519))) 199 (z + 519) = mI ν 199 (z + 519) := (sI_o (by omega)).trans (by rw [sR_I])
      rw [e9]
      refine fin _ _ (g3.1.1.trans hA'.1.1) ((hA'.tr g3).up (fun b q => q.elim id id)) ?_ ?_ ?_ (fun q hq => ?_)
      · exact (sI_o (by omega)).trans ((sI_o (by omega)).trans ((congrFun (congrFun sR_I _) _).trans h5'))
      · exact (sI_o (by omega)).trans ((sI_o (by omega)).trans ((congrFun (congrFun sR_I _) _).trans h6'))
      · unfold eI; rw [ee1]
      · rw [ee1] at hq
        obtain rfl : f = q := Option.some.inj hq
        refine ⟨?_, x, y, (sI_o (by omega)).trans (sI_e.trans r8), sI_e.trans r9⟩
        rw [sI_R, sI_R]
        exact sR_e
theorem t_readCommand {Q : Int32 → mmT → Prop} {r : Nat} (hr : r < 60) (hF : F ≤ 60) (hX : ∀ i, i < F → X i ≤ 126) (hT : ST μ z) (ht : Tx μ z X F) (hs : s ≤ F)
    (h : ∀ ν, Ap z μ ν (fun b => b = z + (522 + r)) → mI ν 195 (z + 519) = mI μ 195 (z + 519) → mI ν 196 (z + 519) = nI (rr X F s 9) → (∀ g, ee X F s 9 = some g → Cd G ν (z + (522 + r)) X F s g) → Q (if eI X F s 9 = nI (rr X F s 9) then nI 1 else nI 0) ν) : w_X7_readCommand G μ (z + 519) (some (z + (522 + r))) (nI s) Q := by
  unfold w_X7_readCommand
  refine ⟨hT.t.1, 10, t_rc hr hF hX hT ht hs (fun ν a b c d => ⟨?_, h ν a b c d⟩) 9 0 _ rfl (Ap_sI1 (by decide)) (sI_o (by omega)) sI_e (fun g hg => absurd hg (by intro e; cases e))⟩
  by_cases q : eI X F s 9 = nI (rr X F s 9)
  · rw [if_pos q]; exact Or.inr rfl
  · rw [if_neg q]; exact Or.inl rfl
/-- which form counts -/
def pk (X : Nat → Nat) (F s : Nat) : Nat := if ch X F s = nI 110 then 0 else if ch X F s = nI 99 then 1 else if ch X F s = nI 115 then 2 else if ch X F s = nI 114 then 3 else if ch X F s = nI 100 then 4 else if ch X F s = nI 102 then 6 else
  if ch X F s = nI 119 then (if ch X F (s + 1) = nI 97 then (if oK X F 7 s = true ∧ ch X F (sT X F 7 s) = nI 32 then 8 else 7) else 5) else 9
def stp (X : Nat → Nat) (F s : Nat) : Nat := if pk X F s = 9 then s else sT X F (pk X F s) s
def okp (X : Nat → Nat) (F s : Nat) : Bool := if pk X F s = 9 then false else oK X F (pk X F s) s
theorem rr_s (f : Nat) : rr X F s (f + 1) = max (rr X F s f) (sT X F f s) := by
  show (if rr X F s f < sT X F f s then sT X F f s else rr X F s f) = _
  split <;> omega
theorem ee_s (f : Nat) : ee X F s (f + 1) = if oK X F f s = true then some f else ee X F s f := rfl
theorem rr_g (hg : s ≤ sT X F g s) : ∀ f, (∀ j, j < f → sT X F j s ≤ sT X F g s) → rr X F s f ≤ sT X F g s ∧ (g < f → rr X F s f = sT X F g s)
  | 0, _ => ⟨hg, fun q => absurd q (Nat.not_lt_zero _)⟩
  | f + 1, h => by
    have := rr_g hg f (fun j hj => h j (by omega))
    have h2 := h f (by omega)
    rw [rr_s]
    refine ⟨by omega, fun q => ?_⟩
    by_cases e : g = f
    · subst e; omega
    · have := this.2 (by omega); omega
theorem ee_g : ∀ f, (∀ j, j < f → j ≠ g → oK X F j s = false) → ee X F s f = if g < f ∧ oK X F g s = true then some g else none
  | 0, _ => by rw [if_neg (fun q => Nat.not_lt_zero _ q.1)]; rfl
  | f + 1, h => by
    have := ee_g f (fun j hj => h j (by omega))
    rw [ee_s, this]
    by_cases e : f = g
    · subst e
      by_cases d : oK X F f s = true
      · rw [if_pos d, if_pos ⟨by omega, d⟩]
      · rw [if_neg d, if_neg (fun q => d q.2), if_neg (fun q => d q.2)]
    · rw [h f (by omega) e, if_neg (by decide)]
      by_cases d : g < f ∧ oK X F g s = true
      · rw [if_pos d, if_pos ⟨by omega, d.2⟩]
      · rw [if_neg d, if_neg (fun q => d ⟨by omega, q.2⟩)]
theorem pm_app : ∀ (p q : List Int32) (i n : Nat) (x y : Int32), cn p = 0 → pm X F (p ++ q) i n x y = if (pm X F p i n x y).2.1 = true then pm X F q (pm X F p i n x y).1 n x y else ((pm X F p i n x y).1, false, x, y)
  | [], q, i, n, x, y, _ => rfl
  | c :: p, q, i, n, x, y, h => by
    have ec : cn (c :: p) = cn p + if c = nI 35 ∨ c = nI 37 then 1 else 0 := rfl
    have d : ¬ (c = nI 35 ∨ c = nI 37) := fun d => by
      rw [if_pos d] at ec
      omega
    rw [List.cons_append, pm_c, pm_c, if_neg d, if_neg d]
    by_cases e : ch X F i = c
    · rw [if_pos e, if_pos e]
      rw [if_neg d] at ec
      exact pm_app p q (i + 1) n x y (by omega)
    · rw [if_neg e, if_neg e, if_neg (show ¬ false = true by decide)]
theorem pm_lit (p : List Int32) : ∀ (i n : Nat) (x y : Int32), cn p = 0 → (pm X F p i n x y).2.2 = (x, y) := by
  induction p with
  | nil => intro i n x y _; rfl
  | cons c p ih =>
    intro i n x y h
    have ec : cn (c :: p) = cn p + if c = nI 35 ∨ c = nI 37 then 1 else 0 := rfl
    have d : ¬ (c = nI 35 ∨ c = nI 37) := fun d => by
      rw [if_pos d] at ec
      omega
    rw [pm_c, if_neg d]
    by_cases e : ch X F i = c
    · rw [if_pos e]
      rw [if_neg d] at ec
      exact ih (i + 1) n x y (by omega)
    · rw [if_neg e]
theorem st_ne {c : Int32} {p : List Int32} (hp : fp f = c :: p) (hc : ¬ (c = nI 35 ∨ c = nI 37)) (h : ch X F s ≠ c) : sT X F f s = s ∧ oK X F f s = false := by
  unfold sT oK
  rw [hp, pm_c, if_neg hc, if_neg h]
  exact ⟨rfl, rfl⟩
theorem st_ne2 {c d : Int32} {p : List Int32} (hp : fp f = c :: d :: p) (hc : ¬ (c = nI 35 ∨ c = nI 37)) (hd : ¬ (d = nI 35 ∨ d = nI 37)) (e : ch X F s = c) (h : ch X F (s + 1) ≠ d) : sT X F f s = s + 1 ∧ oK X F f s = false := by
  unfold sT oK
  rw [hp, pm_c, if_neg hc, if_pos e, pm_c, if_neg hd, if_neg h]
  exact ⟨rfl, rfl⟩
theorem st_eq2 {c d : Int32} {p : List Int32} (hp : fp f = c :: d :: p) (hc : ¬ (c = nI 35 ∨ c = nI 37)) (hd : ¬ (d = nI 35 ∨ d = nI 37)) (e : ch X F s = c) (h : ch X F (s + 1) = d) (hm : ∀ c, c ∈ p → c ≠ -1) (hs : s + 2 ≤ F) : s + 2 ≤ sT X F f s := by
  unfold sT
  rw [hp, pm_c, if_neg hc, if_pos e, pm_c, if_neg hd, if_pos h]
  exact (pm_b (X := X) p (s + 1 + 1) 0 0 0 hs hm).1
theorem eI_some {q : Nat} (h : ee X F s f = some q) : eI X F s f = nI (sT X F q s) := by
  unfold eI; rw [h]
theorem eI_none (h : ee X F s f = none) : eI X F s f = -1 := by
  unfold eI; rw [h]
def Pick (X : Nat → Nat) (F s : Nat) : Prop := rr X F s 9 = stp X F s ∧ (if eI X F s 9 = nI (rr X F s 9) then nI 1 else nI 0) = (if okp X F s = true then nI 1 else nI 0) ∧ (okp X F s = true → ee X F s 9 = some (pk X F s))
theorem pick_g (hF : F ≤ 60) (hs : s ≤ F) (hg : g < 9) (hp : pk X F s = g) (h1 : ∀ j, j < 9 → j ≠ g → sT X F j s ≤ sT X F g s) (h2 : ∀ j, j < 9 → j ≠ g → oK X F j s = false) : Pick X F s := by
  have hb := sT_b (X := X) hg hs
  have e1 := (rr_g hb.1 9 (fun j hj => by by_cases q : j = g; · rw [q]; exact Nat.le_refl _
                                          · exact h1 j hj q)).2 hg
  have e2 := ee_g (X := X) (F := F) (s := s) (g := g) 9 (fun j hj q => h2 j hj q)
  have n9 : ¬ pk X F s = 9 := by omega
  unfold Pick stp okp
  rw [if_neg n9, if_neg n9, hp, e1]
  by_cases d : oK X F g s = true
  · rw [if_pos ⟨hg, d⟩] at e2
    rw [eI_some e2, if_pos rfl, if_pos d]
    exact ⟨rfl, rfl, fun _ => e2⟩
  · rw [if_neg (fun q => d q.2)] at e2
    rw [eI_none e2, if_neg (fun q => nI_m1 (by omega) q.symm), if_neg d]
    exact ⟨rfl, rfl, fun q => absurd q d⟩
theorem fps : fp 0 = nI 110 :: nI 101 :: [115, 116, 32, 35, 32, 35] ∧ fp 1 = nI 99 :: nI 114 :: [111, 119] ∧ fp 2 = nI 115 :: nI 101 :: [110, 100, 32, 35, 32, 37] ∧ fp 3 = nI 114 :: nI 101 :: [97, 100, 32, 35] ∧ fp 4 = nI 100 :: nI 114 :: [111, 112, 32, 37] ∧ fp 5 = nI 119 :: nI 105 :: [110, 100, 32, 35] ∧ fp 6 = nI 102 :: nI 111 :: [114, 103, 101, 116, 32, 35] ∧ fp 7 = nI 119 :: nI 97 :: [105, 116] ∧ fp 8 = nI 119 :: nI 97 :: [105, 116, 32, 37] := by decide +kernel
end CMD
