/-! WHAT HOLDS OF THE ROW AT EVERY MOMENT -/
def su (f : Nat → Nat) : Nat → Nat
  | 0 => 0
  | n + 1 => su f n + f n
theorem su_c {f g : Nat → Nat} : ∀ n, (∀ k, k < n → f k = g k) → su f n = su g n
  | 0, _ => rfl
  | n + 1, h => by
    unfold su
    rw [su_c n (fun k hk => h k (by omega)), h n (by omega)]
theorem su_1 {f g : Nat → Nat} {i x y : Nat} (hf : f i = x) (hg : g i = y) : ∀ n, i < n → (∀ k, k < n → k ≠ i → f k = g k) → su g n + x = su f n + y
  | 0, h, _ => absurd h (Nat.not_lt_zero _)
  | n + 1, h, hk => by
    unfold su
    by_cases c : i = n
    · subst c
      rw [su_c i (fun k z => hk k (by omega) (by omega)), hf, hg]
      omega
    · have := su_1 hf hg n (by omega) (fun k z y => hk k (by omega) y)
      rw [hk n (by omega) (fun z => c z.symm)]
      omega
theorem cnt_del {g : Nat → Bool} {p : Nat} : ∀ n, p < n → cnt g n = cnt (fun q => g (if p ≤ q then q + 1 else q)) (n - 1) + (if g p then 1 else 0)
  | 0, h => absurd h (Nat.not_lt_zero _)
  | n + 1, h => by
    by_cases c : p = n
    · subst c
      show cnt g p + _ = cnt _ p + _
      have e : cnt (fun q => g (if p ≤ q then q + 1 else q)) p = cnt g p := cnt_c p (fun k hk => by
        show g (if p ≤ k then k + 1 else k) = g k
        rw [if_neg (by omega)])
      rw [e]
    · have ih := cnt_del (g := g) (p := p) n (by omega)
      obtain ⟨m, rfl⟩ : ∃ m, n = m + 1 := ⟨n - 1, by omega⟩
      show cnt g (m + 1) + (if g (m + 1) then 1 else 0) = cnt (fun q => g (if p ≤ q then q + 1 else q)) m + (if g (if p ≤ m then m + 1 else m) then 1 else 0) + (if g p then 1 else 0)
      rw [if_pos (show p ≤ m by omega), ih, Nat.add_sub_cancel]
      omega
def IdI (v : Nat → Nat) : Prop := (∀ p, p < v 2 → v (146 + 7 * p) < v 3) ∧ (∀ p q, p < q → q < v 2 → v (146 + 7 * p) < v (146 + 7 * q))
def MsI (v : Nat → Nat) (i : Nat) : Prop := ∀ p, p < v 2 → (v (146 + 7 * p + 4) = 119 ∨ v (146 + 7 * p + 4) = 102 ∨ v (146 + 7 * p + 4) = 100 ∨ v (146 + 7 * p + 4) = 110) ∧ (v (146 + 7 * p + 4) ≠ 100 → v (146 + 7 * p + 3) ≤ 4) ∧ v (146 + 7 * p + 3) ≤ 5 ∧ v (146 + 7 * p + 2) ≤ 99 ∧ (v (146 + 7 * p + 4) = 110 → 1 ≤ v (146 + 7 * p + 5)) ∧ v (146 + 7 * p + 6) ≤ 1 ∧ (v (146 + 7 * p + 4) ≠ 110 → v (146 + 7 * p + 6) = 0) ∧ (p < i → v (146 + 7 * p + 6) = 0)
def CrI (v : Nat → Nat) : Prop := (∀ c, c < v 1 → v (138 + 2 * c) ≠ 0 → 1 ≤ v (138 + 2 * c + 1) ∧ ∃ p, p < v 2 ∧ v (146 + 7 * p) + 1 = v (138 + 2 * c) ∧ v (146 + 7 * p + 4) = 102) ∧ (∀ c d, c < d → d < v 1 → v (138 + 2 * c) ≠ 0 → v (138 + 2 * c) ≠ v (138 + 2 * d))
def InI (v : Nat → Nat) : Prop := (∀ n k, n < v 0 → k < v (12 + 21 * n + 2) → ∃ p, p < v 2 ∧ v (146 + 7 * p) = v (12 + 21 * n + 3 + k) ∧ v (146 + 7 * p + 4) = 100 ∧ v (146 + 7 * p + 1) = n) ∧ (∀ n k j, n < v 0 → k < j → j < v (12 + 21 * n + 2) → v (12 + 21 * n + 3 + k) ≠ v (12 + 21 * n + 3 + j))
def cS (v : Nat → Nat) (x : Nat) : Nat := cnt (fun q => decide (v (146 + 7 * q + 4) = x)) (v 2)
def cC (v : Nat → Nat) : Nat := cnt (fun c => decide (v (138 + 2 * c) ≠ 0)) (v 1)
def sN (v : Nat → Nat) : Nat := su (fun n => v (12 + 21 * n + 2)) (v 0)
def tot (v : Nat → Nat) : Nat := v 7 + v 8 + v 9 + v 11
/-- d: how many messages are said to fly and have no crow; e: how many to be delivered and lie in no inbox -/
def InvA (v : Nat → Nat) (i d e : Nat) : Prop := Lim v ∧ IdI v ∧ MsI v i ∧ CrI v ∧ InI v ∧ cS v 102 = cC v + d ∧ cS v 100 = sN v + e
def Inv (v : Nat → Nat) (i : Nat) : Prop := InvA v i 0 0 ∧ v 2 + tot v = v 3
section CEAS
variable {v : Nat → Nat} {p i d : Nat}
theorem Lim_ceases (l : Lim v) (hp : p < v 2) : Lim (fCeases v p) := by
  have l0 := l.1
  refine ⟨?_, fun m hm => ?_, fun q hq => ?_⟩
  · rw [fC_lo (by decide) (by decide), fC_lo (by decide) (by decide), fC_2]
    omega
  · rw [fC_lo (by decide) (by decide)] at hm
    rw [fC_lo (by omega) (by omega), fC_lo (by omega) (by omega), fC_lo (by omega) (by omega), fC_lo (by omega) (by omega)]
    exact l.2.1 m hm
  · rw [fC_2] at hq
    rw [fC_lo (j := 0) (by decide) (by decide), fC_m hq (by decide)]
    refine l.2.2 _ ?_
    split <;> omega
theorem fC_0 {q : Nat} (hq : q < v 2 - 1) : fCeases v p (146 + 7 * q) = v (146 + 7 * (if p ≤ q then q + 1 else q)) := fC_m (j := 0) hq (by decide)
theorem IdI_ceases (h : IdI v) (hp : p < v 2) : IdI (fCeases v p) := by
  refine ⟨fun q hq => ?_, fun q r hqr hr => ?_⟩
  · rw [fC_2] at hq
    rw [fC_0 hq, fC_lo (by decide) (by decide)]
    exact h.1 _ (by split <;> omega)
  · rw [fC_2] at hr
    rw [fC_0 (by omega), fC_0 hr]
    exact h.2 _ _ (by split <;> split <;> omega) (by split <;> omega)
theorem MsI_ceases (h : MsI v i) (hp : p < v 2) (hi : i = 0 ∨ v 2 ≤ i) : MsI (fCeases v p) i := by
  intro q hq
  rw [fC_2] at hq
  rw [fC_m hq (by decide), fC_m hq (by decide), fC_m hq (by decide), fC_m hq (by decide), fC_m hq (by decide)]
  have := h (if p ≤ q then q + 1 else q) (by split <;> omega)
  exact ⟨this.1, this.2.1, this.2.2.1, this.2.2.2.1, this.2.2.2.2.1, this.2.2.2.2.2.1, this.2.2.2.2.2.2.1, fun z => this.2.2.2.2.2.2.2 (by split <;> omega)⟩
/-- where another row stands afterwards -/
theorem fC_ex {P : Nat → Prop} {q : Nat} (hp : p < v 2) (hq : q < v 2) (hn : q ≠ p) (h : ∀ r, r < v 2 - 1 → (if p ≤ r then r + 1 else r) = q → P r) : ∃ r, P r := by
  by_cases c : q < p
  · exact ⟨q, h q (by omega) (if_neg (by omega))⟩
  · exact ⟨q - 1, h (q - 1) (by omega) (by rw [if_pos (by omega)]; omega)⟩
theorem CrI_ceases (h : CrI v) (l : Lim v) (hp : p < v 2) (no : ∀ c, c < v 1 → v (138 + 2 * c) ≠ v (146 + 7 * p) + 1) : CrI (fCeases v p) := by
  have l1 := l.1
  refine ⟨fun c hc => ?_, fun c e hce he => ?_⟩
  · rw [fC_lo (by decide) (by decide)] at hc
    rw [fC_lo (by omega) (by omega), fC_lo (by omega) (by omega)]
    intro z
    obtain ⟨r1, q, hq, e1, e2⟩ := h.1 c hc z
    refine ⟨r1, ?_⟩
    refine fC_ex hp hq (fun y => no c hc (by rw [← y]; exact e1.symm)) (fun r hr er => ⟨by rw [fC_2]; exact hr, ?_, ?_⟩)
    · rw [fC_0 hr, er]
      exact e1
    · rw [fC_m hr (by decide), er]
      exact e2
  · rw [fC_lo (by decide) (by decide)] at he
    rw [fC_lo (by omega) (by omega), fC_lo (by omega) (by omega)]
    exact h.2 c e hce he
theorem InI_ceases (h : InI v) (l : Lim v) (hp : p < v 2) (no : ∀ n k, n < v 0 → k < v (12 + 21 * n + 2) → v (12 + 21 * n + 3 + k) ≠ v (146 + 7 * p)) : InI (fCeases v p) := by
  have l1 := l.1
  refine ⟨fun n k hn hk => ?_, fun n k j hn hkj hj => ?_⟩
  · rw [fC_lo (by decide) (by decide)] at hn
    have s8 := (l.2.1 n hn).1
    rw [fC_lo (by omega) (by omega)] at hk
    rw [fC_lo (j := 12 + 21 * n + 3 + k) (by omega) (by omega)]
    obtain ⟨q, hq, e1, e2, e3⟩ := h.1 n k hn hk
    refine fC_ex hp hq (fun y => no n k hn hk (by rw [← y]; exact e1.symm)) (fun r hr er => ⟨by rw [fC_2]; exact hr, ?_, ?_, ?_⟩)
    · rw [fC_0 hr, er]
      exact e1
    · rw [fC_m hr (by decide), er]
      exact e2
    · rw [fC_m hr (by decide), er]
      exact e3
  · rw [fC_lo (by decide) (by decide)] at hn
    have s8 := (l.2.1 n hn).1
    rw [fC_lo (by omega) (by omega)] at hj
    rw [fC_lo (by omega) (by omega), fC_lo (by omega) (by omega)]
    exact h.2 n k j hn hkj hj
theorem cS_ceases {x : Nat} (hp : p < v 2) : cS v x = cS (fCeases v p) x + (if v (146 + 7 * p + 4) = x then 1 else 0) := by
  unfold cS
  rw [fC_2, cnt_del (v 2) hp]
  rw [cnt_c (p := fun q => decide (fCeases v p (146 + 7 * q + 4) = x)) (q := fun q => decide (v (146 + 7 * (if p ≤ q then q + 1 else q) + 4) = x)) (v 2 - 1) (fun k hk => by rw [fC_m hk (by decide)])]
  simp only [decide_eq_true_eq]
theorem cC_ceases (l : Lim v) : cC (fCeases v p) = cC v := by
  have l1 := l.1
  unfold cC
  rw [fC_lo (by decide) (by decide)]
  exact cnt_c _ (fun k hk => by rw [fC_lo (by omega) (by omega)])
theorem sN_ceases (l : Lim v) : sN (fCeases v p) = sN v := by
  have l1 := l.1
  unfold sN
  rw [fC_lo (by decide) (by decide)]
  exact su_c _ (fun k hk => by rw [fC_lo (by omega) (by omega)])
theorem ids_inj {q : Nat} (h : IdI v) (hp : p < v 2) (hq : q < v 2) (e : v (146 + 7 * p) = v (146 + 7 * q)) : p = q := by
  rcases Nat.lt_trichotomy p q with c | c | c
  · have := h.2 p q c hq
    omega
  · exact c
  · have := h.2 q p c hp
    omega
theorem InvA_ceases {e d2 e2 : Nat} (h : InvA v i d e) (hp : p < v 2) (hi : i = 0 ∨ v 2 ≤ i) (nc : ∀ c, c < v 1 → v (138 + 2 * c) ≠ v (146 + 7 * p) + 1) (ni : ∀ n k, n < v 0 → k < v (12 + 21 * n + 2) → v (12 + 21 * n + 3 + k) ≠ v (146 + 7 * p)) (hd : d = d2 + (if v (146 + 7 * p + 4) = 102 then 1 else 0)) (he : e = e2 + (if v (146 + 7 * p + 4) = 100 then 1 else 0)) : InvA (fCeases v p) i d2 e2 := by
  obtain ⟨l, a1, a2, a3, a4, a5, a6⟩ := h
  have q1 := cS_ceases (x := 102) hp
  have q2 := cS_ceases (x := 100) hp
  refine ⟨Lim_ceases l hp, IdI_ceases a1 hp, MsI_ceases a2 hp hi, CrI_ceases a3 l hp nc, InI_ceases a4 l hp ni, ?_, ?_⟩
  · rw [cC_ceases l]
    omega
  · rw [sN_ceases l]
    omega
theorem InvA_up {e k x : Nat} (h : InvA v i d e) (hk : 4 ≤ k ∧ k < 12) : InvA (up v k x) i d e := by
  obtain ⟨l, a1, a2, a3, a4, a5, a6⟩ := h
  have l0 := l.1
  have u : ∀ j, j < 4 ∨ 12 ≤ j → up v k x j = v j := fun j hj => up_n (by omega)
  have us : ∀ y, cS (up v k x) y = cS v y := fun y => by
    unfold cS
    rw [u 2 (by omega)]
    exact cnt_c _ (fun q _ => by rw [u _ (by omega)])
  have uc : cC (up v k x) = cC v := by
    unfold cC
    rw [u 1 (by omega)]
    exact cnt_c _ (fun q _ => by rw [u _ (by omega)])
  have un : sN (up v k x) = sN v := by
    unfold sN
    rw [u 0 (by omega)]
    exact su_c _ (fun q _ => by rw [u _ (by omega)])
  refine ⟨Lim_up l (by omega), ⟨fun p hp => ?_, fun p q hpq hq => ?_⟩, fun p hp => ?_, ⟨fun c hc => ?_, fun c d hcd hd => ?_⟩, ⟨fun n j hn hj => ?_, fun n j m hn hjm hm => ?_⟩, ?_, ?_⟩
  · rw [u 2 (by omega)] at hp
    rw [u _ (by omega), u 3 (by omega)]
    exact a1.1 p hp
  · rw [u 2 (by omega)] at hq
    rw [u _ (by omega), u _ (by omega)]
    exact a1.2 p q hpq hq
  · rw [u 2 (by omega)] at hp
    rw [u _ (by omega), u _ (by omega), u _ (by omega), u _ (by omega), u _ (by omega)]
    exact a2 p hp
  · rw [u 1 (by omega)] at hc
    rw [u _ (by omega), u _ (by omega), u 2 (by omega)]
    intro z
    obtain ⟨r1, p, hp, e1, e2⟩ := a3.1 c hc z
    exact ⟨r1, p, hp, by rw [u _ (by omega)]; exact e1, by rw [u _ (by omega)]; exact e2⟩
  · rw [u 1 (by omega)] at hd
    rw [u _ (by omega), u _ (by omega)]
    exact a3.2 c d hcd hd
  · rw [u 0 (by omega)] at hn
    rw [u _ (by omega)] at hj
    rw [u (12 + 21 * n + 3 + j) (by omega), u 2 (by omega)]
    obtain ⟨p, hp, e1, e2, e3⟩ := a4.1 n j hn hj
    exact ⟨p, hp, by rw [u _ (by omega)]; exact e1, by rw [u _ (by omega)]; exact e2, by rw [u _ (by omega)]; exact e3⟩
  · rw [u 0 (by omega)] at hn
    rw [u _ (by omega)] at hm
    rw [u (12 + 21 * n + 3 + j) (by omega), u (12 + 21 * n + 3 + m) (by omega)]
    exact a4.2 n j m hn hjm hm
  · rw [us, uc]
    exact a5
  · rw [us, un]
    exact a6
theorem fC_ig {w : Nat → Nat} (hp : p < v 2) (h : ∀ j, j < 146 + 7 * p ∨ 146 + 7 * p + 7 ≤ j → w j = v j) : fCeases w p = fCeases v p := by
  funext j
  unfold fCeases
  rw [h 2 (by omega)]
  by_cases c : j = 2
  · rw [if_pos c, if_pos c]
  · rw [if_neg c, if_neg c]
    by_cases q : 146 + 7 * p ≤ j ∧ j < 146 + 7 * (v 2 - 1)
    · rw [if_pos q, if_pos q, h _ (by omega)]
    · rw [if_neg q, if_neg q]
      by_cases r : 146 + 7 * (v 2 - 1) ≤ j ∧ j < 146 + 7 * (v 2 - 1) + 7
      · rw [if_pos r, if_pos r]
      · rw [if_neg r, if_neg r, h _ (by omega)]
theorem cnt_up {p q : Nat → Bool} {i : Nat} : ∀ n, i < n → (∀ k, k < n → k ≠ i → p k = q k) → cnt q n + (if p i then 1 else 0) = cnt p n + (if q i then 1 else 0)
  | 0, h, _ => absurd h (Nat.not_lt_zero _)
  | n + 1, h, hk => by
    unfold cnt
    by_cases c : i = n
    · subst c
      rw [cnt_c i (fun k z => hk k (by omega) (by omega))]
      omega
    · have := cnt_up (p := p) (q := q) n (by omega) (fun k z y => hk k (by omega) y)
      rw [hk n (by omega) (fun z => c z.symm)]
      omega
theorem cS_row {w : Nat → Nat} {x : Nat} (hp : p < v 2) (h2 : w 2 = v 2) (h : ∀ q, q ≠ p → w (146 + 7 * q + 4) = v (146 + 7 * q + 4)) : cS w x + (if v (146 + 7 * p + 4) = x then 1 else 0) = cS v x + (if w (146 + 7 * p + 4) = x then 1 else 0) := by
  unfold cS
  rw [h2]
  have := cnt_up (p := fun q => decide (v (146 + 7 * q + 4) = x)) (q := fun q => decide (w (146 + 7 * q + 4) = x)) (i := p) (v 2) hp (fun k _ hk => by rw [h k hk])
  simp only [decide_eq_true_eq] at this
  exact this
end CEAS
