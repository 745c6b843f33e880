/-! THE SCRIPT'S TEXT: the words and numbers in it, and how the class reads them -/
def ch (X : Nat → Nat) (F i : Nat) : Int32 := if i < F then nI (X i) else -1
def dg (X : Nat → Nat) (F i : Nat) : Bool := decide (i < F ∧ 48 ≤ X i ∧ X i ≤ 57)
def dr (X : Nat → Nat) (F : Nat) : Nat → Nat → Int32 → Nat × Int32
  | 0, i, n => (i, n)
  | m + 1, i, n => if dg X F i = true then dr X F m (i + 1) (nI 10 * n + nI (X i) - nI 48) else (i, n)
def md (c : Int32) : Nat := if c = nI 35 then 1 else 3
def nx1 (n : Nat) (x r : Int32) : Int32 := if n = 0 then r else x
def nx2 (n : Nat) (y r : Int32) : Int32 := if n = 0 then y else r
def pm (X : Nat → Nat) (F : Nat) : List Int32 → Nat → Nat → Int32 → Int32 → Nat × Bool × Int32 × Int32
  | [], i, _, x, y => (i, true, x, y)
  | c :: p, i, n, x, y =>
    if c = nI 35 ∨ c = nI 37 then
      if (dr X F (md c) i (nI 0)).1 = i then (i, false, nx1 n x (dr X F (md c) i (nI 0)).2, nx2 n y (dr X F (md c) i (nI 0)).2)
      else pm X F p (dr X F (md c) i (nI 0)).1 (n + 1) (nx1 n x (dr X F (md c) i (nI 0)).2) (nx2 n y (dr X F (md c) i (nI 0)).2)
    else if ch X F i = c then pm X F p (i + 1) n x y else (i, false, x, y)
section SCR
variable {G : mgT} {μ ν ρ σ μ0 : mmT} {z a b c m i j k F n o : Nat} {X : Nat → Nat} {x y : Int32}
theorem dg_lt (h : dg X F i = true) : i < F := (of_decide_eq_true h).1
theorem dr_b : ∀ (m i : Nat) (n : Int32), i ≤ F → i ≤ (dr X F m i n).1 ∧ (dr X F m i n).1 ≤ F ∧ (dr X F m i n).1 ≤ i + m
  | 0, i, n, h => ⟨Nat.le_refl _, h, Nat.le_refl _⟩
  | m + 1, i, n, h => by
    show i ≤ (if dg X F i = true then dr X F m (i + 1) (nI 10 * n + nI (X i) - nI 48) else (i, n)).1 ∧ _
    by_cases d : dg X F i = true
    · have h2 := dg_lt d
      have := dr_b m (i + 1) (nI 10 * n + nI (X i) - nI 48) h2
      rw [show dr X F (m + 1) i n = if dg X F i = true then dr X F m (i + 1) (nI 10 * n + nI (X i) - nI 48) else (i, n) from rfl, if_pos d]
      omega
    · rw [show dr X F (m + 1) i n = if dg X F i = true then dr X F m (i + 1) (nI 10 * n + nI (X i) - nI 48) else (i, n) from rfl, if_neg d]
      exact ⟨Nat.le_refl _, h, Nat.le_add_right _ _⟩
theorem pm_b : ∀ (p : List Int32) (i n : Nat) (x y : Int32), i ≤ F → (∀ c, c ∈ p → c ≠ -1) → i ≤ (pm X F p i n x y).1 ∧ (pm X F p i n x y).1 ≤ F ∧ ((pm X F p i n x y).2.1 = true → i + p.length ≤ (pm X F p i n x y).1)
  | [], i, n, x, y, h, _ => ⟨Nat.le_refl _, h, fun _ => Nat.le_refl _⟩
  | c :: p, i, n, x, y, h, hc => by
    rw [show pm X F (c :: p) i n x y = (if c = nI 35 ∨ c = nI 37 then
      if (dr X F (md c) i (nI 0)).1 = i then (i, false, nx1 n x (dr X F (md c) i (nI 0)).2, nx2 n y (dr X F (md c) i (nI 0)).2)
      else pm X F p (dr X F (md c) i (nI 0)).1 (n + 1) (nx1 n x (dr X F (md c) i (nI 0)).2) (nx2 n y (dr X F (md c) i (nI 0)).2)
      else if ch X F i = c then pm X F p (i + 1) n x y else (i, false, x, y)) from rfl]
    have hp : ∀ c, c ∈ p → c ≠ -1 := fun c q => hc c (List.mem_cons_of_mem _ q)
    rw [List.length_cons]
    by_cases d : c = nI 35 ∨ c = nI 37
    · rw [if_pos d]
      have hb := dr_b (X := X) (md c) i (nI 0) h
      by_cases e : (dr X F (md c) i (nI 0)).1 = i
      · rw [if_pos e]
        exact ⟨Nat.le_refl _, h, fun q => absurd (show false = true from q) (by decide)⟩
      · rw [if_neg e]
        have := pm_b p (dr X F (md c) i (nI 0)).1 (n + 1) (nx1 n x (dr X F (md c) i (nI 0)).2) (nx2 n y (dr X F (md c) i (nI 0)).2) hb.2.1 hp
        exact ⟨by omega, this.2.1, fun q => by have := this.2.2 q; omega⟩
    · rw [if_neg d]
      by_cases e : ch X F i = c
      · rw [if_pos e]
        have h2 : i < F := Classical.byContradiction fun q => hc c (List.mem_cons_self ..) (e.symm.trans (if_neg q))
        have := pm_b p (i + 1) n x y h2 hp
        exact ⟨by omega, this.2.1, fun q => by have := this.2.2 q; omega⟩
      · rw [if_neg e]
        exact ⟨Nat.le_refl _, h, fun q => absurd (show false = true from q) (by decide)⟩
/-- the texts of the class files -/
theorem gb_all : ∀ j, j < 37 → ∀ k, k < gLen.getD j 0 → ((((gByt.getD j []).getD k 0) &&& nI 255).toUInt32 % 65536).toInt32 = (gByt.getD j []).getD k 0 ∧ (gByt.getD j []).getD k 0 = nI ((gByt.getD j []).getD k 0).toNatClampNeg ∧ ((gByt.getD j []).getD k 0).toNatClampNeg < 128 := by decide +kernel
theorem gb_len : ∀ j, j < 37 → (gByt.getD j []).length = gLen.getD j 0 ∧ gLen.getD j 0 < 64 := by decide +kernel
theorem g_len {Q : Int32 → Prop} (hj : j < 37) (h : Q (nI (gLen.getD j 0))) : w_J0_length_8abf5 G μ (gS G j) Q := by
  unfold w_J0_length_8abf5 w_J0_coder_7d493
  refine ⟨j, rfl, hj, j, rfl, hj, by decide, j, rfl, hj, ?_⟩
  have : ∀ j, j < 37 → nI (gLen.getD j 0) >>> ((0 : Int32) &&& 31) = nI (gLen.getD j 0) := by decide +kernel
  show Q (nI (gLen.getD j 0) >>> ((0 : Int32) &&& 31))
  rw [this j hj]
  exact h
theorem g_chr {Q : Int32 → Prop} (hj : j < 37) (hk : k < gLen.getD j 0) (h : Q ((gByt.getD j []).getD k 0)) : w_J0_charAt_5068e G μ (gS G j) (nI k) Q := by
  have hl := (gb_len j hj).2
  obtain ⟨e1, e2, e3⟩ := gb_all j hj k hk
  have hc : isCh ((gByt.getD j []).getD k 0) := ⟨_, by omega, e2⟩
  unfold w_J0_charAt_5068e w_J0_isLatin1_aae02 w_J1_charAt_3b067 w_J0_checkIndex_df160 w_J3_checkIndex_8e157
  refine ⟨j, rfl, hj, by decide, j, rfl, hj, rfl, by decide, gV G j, rfl, j, rfl, hj, nI_nneg (by omega), (nI_ltI (by omega) (by omega)).mpr hk, vp_in_nI hk (by omega), ?_⟩
  rw [cl (by omega), e1]
  exact ⟨hc, hc, h⟩
theorem l_drop {l : List Int32} {c : Int32} {p : List Int32} (h : l.drop k = c :: p) : k < l.length ∧ l.getD k 0 = c ∧ l.drop (k + 1) = p := by
  have h1 : k < l.length := Classical.byContradiction fun q => by
    rw [List.drop_eq_nil_of_le (by omega)] at h
    cases h
  refine ⟨h1, ?_, ?_⟩
  · have : l[k]? = some c := by
      have h2 : (l.drop k)[0]? = some c := by rw [h]; rfl
      rw [List.getElem?_drop] at h2
      exact h2
    rw [List.getD_eq_getElem?_getD, this]
    rfl
  · have : (l.drop k).drop 1 = l.drop (k + 1) := List.drop_drop
    rw [← this, h]
    rfl
/-- the text in the class, the text in the reference -/
def Tx (μ : mmT) (z : Nat) (X : Nat → Nat) (F : Nat) : Prop := mI μ 194 (z + 519) = nI F ∧ ∀ i, i < F → mA μ (z + 520) i = nI (X i)
def Am (μ ν : mmT) (z : Nat) : Prop := Ag z μ ν (fun b => b = z + 519) ∧ (∀ F, F < 197 → mI ν F (z + 519) = mI μ F (z + 519)) ∧ mA ν = mA μ ∧ mB ν = mB μ
theorem Am_rf : Am μ μ z := ⟨Ag_rf, fun _ _ => rfl, rfl, rfl⟩
theorem Am.tr (h : Am μ ν z) (h2 : Am ν ρ z) : Am μ ρ z := ⟨(h.1.tr h2.1).up (fun b q => q.elim id id), fun F hF => (h2.2.1 F hF).trans (h.2.1 F hF), h2.2.2.1.trans h.2.2.1, h2.2.2.2.trans h.2.2.2⟩
theorem Am_sI (hF : 197 ≤ F) : Am μ (sI μ F (z + 519) x) z := ⟨Ag_sI, fun F2 h2 => sI_o (by omega), rfl, rfl⟩
theorem Tx.am (h : Tx μ z X F) (g : Am μ ν z) : Tx ν z X F := ⟨(g.2.1 _ (by decide)).trans h.1, fun i hi => (g.1.A (by omega)).trans (h.2 i hi)⟩
theorem t_isDigitAt {Q : Int32 → Prop} (hT : ST μ z) (ht : Tx μ z X F) (hF : F ≤ 60) (hX : ∀ i, i < F → X i ≤ 126) (hi : i ≤ F) (h : Q (if dg X F i = true then nI 1 else nI 0)) : w_X7_isDigitAt G μ (z + 519) (nI i) Q := by
  unfold w_X7_isDigitAt w_X7_isDigitAt_b38 w_X7_isDigitAt_b39
  have no : ¬ (i < F ∧ 48 ≤ X i ∧ X i ≤ 57) → (nI 0 = 0 ∨ nI 0 = 1) ∧ Q (nI 0) := fun q => by
    have : ¬ dg X F i = true := fun e => q (of_decide_eq_true e)
    rw [if_neg this] at h
    exact ⟨Or.inl rfl, h⟩
  refine ⟨fun c => absurd c (nI_nneg (by omega)), fun _ => ⟨hT.t.1, ?_⟩⟩
  rw [ht.1]
  refine ⟨fun c => no (by have := (nI_leI (by omega) (by omega)).mp c; omega), fun c => ?_⟩
  have c2 : i < F := Classical.byContradiction fun q => c ((nI_leI (by omega) (by omega)).mpr (by omega))
  have hx := hX i c2
  have v1 : vp_in (nI i) (mN μ (z + 520)) := vp_th hT.t.2.2.2.2.1 (by omega) (by decide)
  refine ⟨z + 520, hT.t.2.1, hT.t.2.2.2.1, v1, ?_⟩
  rw [cl (by omega), ht.2 i c2]
  refine ⟨fun c3 => no (by have := (nI_ltI (by omega) (by omega)).mp c3; omega), fun c3 => ⟨v1, fun c4 => no (by have := (nI_ltI (by omega) (by omega)).mp c4; omega), fun c4 => ?_⟩⟩
  have d3 : ¬ X i < 48 := fun q => c3 ((nI_ltI (by omega) (by omega)).mpr q)
  have d4 : ¬ 57 < X i := fun q => c4 ((nI_ltI (by omega) (by omega)).mpr q)
  have : dg X F i = true := decide_eq_true ⟨c2, by omega, by omega⟩
  rw [if_pos this] at h
  exact ⟨Or.inr rfl, h⟩
theorem t_rn {Q : Int32 → mmT → Prop} (hT : ST μ z) (ht : Tx μ z X F) (hF : F ≤ 60) (hX : ∀ i, i < F → X i ≤ 126) : ∀ (k w i : Nat) (n : Int32), i ≤ F → w + k ≤ 3 → (∀ r, r = dr X F k i n → w_X7_readNumber_b49 G (z + 519) Q (nI (w + (r.1 - i))) r.2 μ) → ∃ f, w_X7_readNumber_l8 G (z + 519) Q f (nI (w + k)) (nI w) n (nI i) μ
  | 0, w, i, n, hi, hw, h => ⟨1, by
    have := h _ rfl
    rw [show w + ((dr X F 0 i n).1 - i) = w from by show w + (i - i) = w; omega] at this
    exact ⟨fun _ => this, fun c => absurd (nI_le (by omega) (by omega)) c⟩⟩
  | k + 1, w, i, n, hi, hw, h => by
    by_cases d : dg X F i = true
    · have h2 := dg_lt d
      have hb := dr_b (X := X) k (i + 1) (nI 10 * n + nI (X i) - nI 48) h2
      obtain ⟨f, hf⟩ := t_rn hT ht hF hX k (w + 1) (i + 1) (nI 10 * n + nI (X i) - nI 48) h2 (by omega) (fun r hr => by
        subst hr
        have := h _ rfl
        rw [show dr X F (k + 1) i n = if dg X F i = true then dr X F k (i + 1) (nI 10 * n + nI (X i) - nI 48) else (i, n) from rfl, if_pos d] at this
        rw [show w + 1 + ((dr X F k (i + 1) (nI 10 * n + nI (X i) - nI 48)).1 - (i + 1)) = w + ((dr X F k (i + 1) (nI 10 * n + nI (X i) - nI 48)).1 - i) by omega]
        exact this)
      refine ⟨f + 1, fun c => absurd ((nI_leI (by omega) (by omega)).mp c) (by omega), fun _ => ⟨hT.t.1, t_isDigitAt hT ht hF hX hi ?_⟩⟩
      rw [if_pos d]
      refine ⟨fun q => absurd q (by decide), fun _ => ⟨z + 520, hT.t.2.1, hT.t.2.2.2.1, vp_th hT.t.2.2.2.2.1 (by omega) (by decide), ?_⟩⟩
      rw [cl (by omega), ht.2 i h2, nI_add, nI_add, Int32.mul_comm]
      rw [show w + 1 + k = w + (k + 1) by omega] at hf
      exact hf
    · have := h _ rfl
      rw [show dr X F (k + 1) i n = if dg X F i = true then dr X F k (i + 1) (nI 10 * n + nI (X i) - nI 48) else (i, n) from rfl, if_neg d] at this
      rw [show w + ((i, n).1 - i) = w from by show w + (i - i) = w; omega] at this
      refine ⟨1, fun c => absurd ((nI_leI (by omega) (by omega)).mp c) (by omega), fun _ => ⟨hT.t.1, t_isDigitAt hT ht hF hX hi ?_⟩⟩
      rw [if_neg d]
      exact ⟨fun _ => this, fun q => absurd rfl q⟩
theorem t_number {Q : Int32 → mmT → Prop} (hT : ST μ z) (ht : Tx μ z X F) (hF : F ≤ 60) (hX : ∀ i, i < F → X i ≤ 126) (hi : i ≤ F) (hk : k ≤ 3) (h7 : mI μ 197 (z + 519) = nI n) (hn : n < 9) (h8 : mI μ 198 (z + 519) = x) (h9 : mI μ 199 (z + 519) = y)
    (h : ∀ ν, Am μ ν z → mI ν 197 (z + 519) = nI (n + 1) → mI ν 198 (z + 519) = nx1 n x (dr X F k i (nI 0)).2 → mI ν 199 (z + 519) = nx2 n y (dr X F k i (nI 0)).2 → mI ν 200 (z + 519) = mI μ 200 (z + 519) → Q (nI ((dr X F k i (nI 0)).1 - i)) ν) : w_X7_readNumber G μ (z + 519) (nI i) (nI k) Q := by
  unfold w_X7_readNumber
  have := t_rn (G := G) (Q := Q) hT ht hF hX k 0 i (nI 0) hi (by omega) (fun r hr => by
    subst hr
    generalize dr X F k i (nI 0) = r at *
    unfold w_X7_readNumber_b49 w_X7_readNumber_b71
    rw [h7, Nat.zero_add]
    refine ⟨hT.t.1, fun c => ⟨hT.t.1, ?_⟩, fun c => ⟨hT.t.1, ?_⟩⟩
    · have n0 : n ≠ 0 := fun q => c (by rw [q]; rfl)
      rw [sI_o (by omega), h7, nI_add]
      refine h _ ((Am_sI (F := 199) (by decide)).tr (Am_sI (by decide))) sI_e ?_ ?_ ?_
      · rw [nx1, if_neg n0]; exact (sI_o (by omega)).trans ((sI_o (by omega)).trans h8)
      · rw [nx2, if_neg n0]; exact (sI_o (by omega)).trans sI_e
      · exact (sI_o (by omega)).trans (sI_o (by omega))
    · have n0 : n = 0 := Classical.byContradiction fun q => by
        have := (nI_eq (b := 0) (by omega) (by decide)).mp c
        omega
      rw [sI_o (by omega), h7, nI_add]
      refine h _ ((Am_sI (F := 198) (by decide)).tr (Am_sI (by decide))) sI_e ?_ ?_ ?_
      · rw [nx1, if_pos n0]; exact (sI_o (by omega)).trans sI_e
      · rw [nx2, if_pos n0]; exact (sI_o (by omega)).trans ((sI_o (by omega)).trans h9)
      · exact (sI_o (by omega)).trans (sI_o (by omega)))
  rw [Nat.zero_add] at this
  exact this
theorem pm_c (c : Int32) (p : List Int32) (i n : Nat) (x y : Int32) : pm X F (c :: p) i n x y = (if c = nI 35 ∨ c = nI 37 then
      if (dr X F (md c) i (nI 0)).1 = i then (i, false, nx1 n x (dr X F (md c) i (nI 0)).2, nx2 n y (dr X F (md c) i (nI 0)).2)
      else pm X F p (dr X F (md c) i (nI 0)).1 (n + 1) (nx1 n x (dr X F (md c) i (nI 0)).2) (nx2 n y (dr X F (md c) i (nI 0)).2)
      else if ch X F i = c then pm X F p (i + 1) n x y else (i, false, x, y)) := rfl
theorem t_ml {Q : Int32 → mmT → Prop} (hj : j < 37) (hF : F ≤ 60) (hX : ∀ i, i < F → X i ≤ 126) (hT0 : ST μ0 z) (ht0 : Tx μ0 z X F) : ∀ (p : List Int32) (k i n : Nat) (x y : Int32) (μ : mmT), (gByt.getD j []).drop k = p → k ≤ gLen.getD j 0 → i ≤ F → n + p.length < 9 → Am μ0 μ z → mI μ 197 (z + 519) = nI n → mI μ 198 (z + 519) = x → mI μ 199 (z + 519) = y → mI μ 200 (z + 519) = nI 0 →
    (∀ ν, Am μ0 ν z → mI ν 198 (z + 519) = (pm X F p i n x y).2.2.1 → mI ν 199 (z + 519) = (pm X F p i n x y).2.2.2 → mI ν 200 (z + 519) = (if (pm X F p i n x y).2.1 = true then nI 1 else nI 0) → Q (nI (pm X F p i n x y).1) ν) → w_X7_match_l15 G (z + 519) Q (p.length + 1) (some (gS G j)) (nI i) (nI k) μ
  | [], k, i, n, x, y, μ, hp, hk, hi, hn, hA, h7, h8, h9, h0, h => by
    have hT := hT0.ag hA.1
    have hl := gb_len j hj
    have hk : gLen.getD j 0 ≤ k := by
      have := List.drop_eq_nil_iff.mp hp
      omega
    refine ⟨gS G j, rfl, j, rfl, hj, g_len hj ⟨fun _ => ⟨hT.t.1, ?_⟩, fun c => absurd (nI_le hk (by omega)) c⟩⟩
    exact h _ (hA.tr (Am_sI (by decide))) ((sI_o (by omega)).trans h8) ((sI_o (by omega)).trans h9) sI_e
  | c :: p, k, i, n, x, y, μ, hp, hk, hi, hn, hA, h7, h8, h9, h0, h => by
    have hT := hT0.ag hA.1
    have ht := ht0.am hA
    have hl := gb_len j hj
    obtain ⟨q1, q2, q3⟩ := l_drop hp
    have hk2 : k < gLen.getD j 0 := by omega
    have hcs := (gb_all j hj k hk2).2
    rw [q2] at hcs
    rw [List.length_cons] at hn
    rw [pm_c] at h
    refine ⟨gS G j, rfl, j, rfl, hj, g_len hj ⟨fun e => absurd ((nI_leI (by omega) (by omega)).mp e) (by omega), fun _ => g_chr hj hk2 ⟨hT.t.1, ?_⟩⟩⟩
    rw [q2]
    have key : (c = nI 35 ∨ c = nI 37) → w_X7_readNumber G μ (z + 519) (nI i) (nI (md c)) (fun u12 μ13 => (¬ u12 = 0 → w_X7_match_l15 G (z + 519) Q (p.length + 1) (some (gS G j)) (nI i + u12) (nI k + nI 1) μ13) ∧ (u12 = 0 → Q (nI i) μ13)) := fun d => by
      rw [if_pos d] at h
      have hm : md c ≤ 3 := by unfold md; split <;> omega
      have hb := dr_b (X := X) (md c) i (nI 0) hi
      refine t_number hT ht hF hX hi hm h7 (by omega) h8 h9 (fun ν g r7 r8 r9 r0 => ?_)
      generalize dr X F (md c) i (nI 0) = r at *
      by_cases e : r.1 = i
      · rw [if_pos e] at h
        rw [show r.1 - i = 0 by omega]
        exact ⟨fun q => absurd rfl q, fun _ => h ν (hA.tr g) r8 r9 (r0.trans h0)⟩
      · rw [if_neg e] at h
        refine ⟨fun _ => ?_, fun q => ?_⟩
        · rw [nI_add, nI_add, show i + (r.1 - i) = r.1 by omega]
          exact t_ml hj hF hX hT0 ht0 p (k + 1) r.1 (n + 1) _ _ ν q3 hk2 hb.2.1 (by omega) (hA.tr g) r7 r8 r9 (r0.trans h0) h
        · have := (nI_eq (b := 0) (by omega) (by decide)).mp q
          omega
    unfold w_X7_widthOf w_X7_widthOf_b52 w_X7_widthOf_b53
    refine ⟨fun d35 => ⟨fun d37 => ⟨fun d => absurd d (nI_nneg (by omega)), fun _ => ⟨hT.t.1, ?_⟩⟩, fun d37 => ⟨hT.t.1, ?_⟩⟩, fun d35 => ⟨hT.t.1, ?_⟩⟩
    · have nd : ¬ (c = nI 35 ∨ c = nI 37) := fun q => q.elim d35 d37
      rw [if_neg nd] at h
      have no : ch X F i ≠ c → (¬ nI 0 = 0 → w_X7_match_l15 G (z + 519) Q (p.length + 1) (some (gS G j)) (nI i + nI 0) (nI k + nI 1) μ) ∧ (nI 0 = 0 → Q (nI i) μ) := fun e => by
        rw [if_neg e] at h
        exact ⟨fun q => absurd rfl q, fun _ => h μ hA h8 h9 h0⟩
      rw [ht.1]
      refine ⟨fun d => no (fun e => ?_), fun d => ?_⟩
      · have h2 : ¬ i < F := by have := (nI_leI (by omega) (by omega)).mp d; omega
        rw [ch, if_neg h2] at e
        have := nI_m1 (p := c.toNatClampNeg) (by omega)
        rw [← hcs.1] at this
        exact this e.symm
      · have h2 : i < F := Classical.byContradiction fun q => d ((nI_leI (by omega) (by omega)).mpr (by omega))
        refine ⟨z + 520, hT.t.2.1, hT.t.2.2.2.1, vp_th hT.t.2.2.2.2.1 (by omega) (by decide), ?_⟩
        rw [cl (by omega), ht.2 i h2]
        have eC : ch X F i = nI (X i) := if_pos h2
        rw [← eC]
        refine ⟨no, fun e => ?_⟩
        rw [if_pos e] at h
        refine ⟨fun _ => ?_, fun q => absurd q (by decide)⟩
        rw [nI_add, nI_add]
        exact t_ml hj hF hX hT0 ht0 p (k + 1) (i + 1) n _ _ μ q3 hk2 h2 (by omega) hA h7 h8 h9 h0 h
    · have := key (Or.inr d37)
      rw [show md c = 3 from if_neg (by rw [d37]; decide)] at this
      exact this
    · have := key (Or.inl d35)
      rw [show md c = 1 from if_pos d35] at this
      exact this
theorem t_match {Q : Int32 → mmT → Prop} (hj : j < 37) (hl : gLen.getD j 0 < 9) (hF : F ≤ 60) (hX : ∀ i, i < F → X i ≤ 126) (hT : ST μ z) (ht : Tx μ z X F) (hi : i ≤ F)
    (h : ∀ ν x y, Am μ ν z → mI ν 198 (z + 519) = (pm X F (gByt.getD j []) i 0 x y).2.2.1 → mI ν 199 (z + 519) = (pm X F (gByt.getD j []) i 0 x y).2.2.2 → mI ν 200 (z + 519) = (if (pm X F (gByt.getD j []) i 0 x y).2.1 = true then nI 1 else nI 0) → Q (nI (pm X F (gByt.getD j []) i 0 x y).1) ν) : w_X7_match G μ (z + 519) (some (gS G j)) (nI i) Q := by
  have e := (gb_len j hj).1
  have g : Am μ (sI (sI μ 197 (z + 519) (nI 0)) 200 (z + 519) (nI 0)) z := (Am_sI (F := 197) (by decide)).tr (Am_sI (by decide))
  unfold w_X7_match
  exact ⟨hT.t.1, _, t_ml hj hF hX hT ht (gByt.getD j []) 0 i 0 (mI μ 198 (z + 519)) (mI μ 199 (z + 519)) _ rfl (Nat.zero_le _) hi (by omega) g ((sI_o (by omega)).trans sI_e) ((sI_o (by omega)).trans (sI_o (by omega))) ((sI_o (by omega)).trans (sI_o (by omega))) sI_e (fun ν a b c d => h ν _ _ a b c d)⟩
end SCR
