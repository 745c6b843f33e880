/-! A CHANGE OF THE CLASS: it is done (r: the answer, w: the row afterwards), or refused (e: the class's number) -/
def OpC (B c : Nat) (v : Nat → Nat) (W8 : mgT → mmT → Nat → (Int32 → mmT → Prop) → Prop) (ec : List Int32) : Prop :=
  (∃ r w, r < 2 ^ 31 ∧ JB (B + 1300) (c + 1) w ∧ (∀ G μ a S Q, SS μ a → Rel S v 4 16 → (∀ S', Rel S' w 4 16 → Q (nI r) (CT μ a S')) → W8 G (CT μ a S) a Q)) ∨
  (∃ e, e ∈ ec ∧ (∀ G μ a S Q, SS μ a → Rel S v 4 16 → Q e (CT μ a S) → W8 G (CT μ a S) a Q))
section OPC
variable {G : mgT} {μ : mmT} {z m : Nat} {v w : Nat → Nat} {B c : Nat} {x z1 z2 : Int32}
theorem o_wind (h : JB B c v) (hb : Bo B) : OpC B c v (fun G μ a Q => w_X8_turnWind G μ a x Q) [-1] := by
  have l := h.1.1.1
  have hB := h.1.2.2 5
  have h3 := h.2.1
  have hz := h.2.2.1
  have l14 := h.1.1.1.1.2.1
  by_cases q : ∃ k, k ≤ 9 ∧ x = nI k
  · obtain ⟨k, hk, rfl⟩ := q
    refine Or.inl ⟨v 5, up v 5 k, by omega, ⟨J_mono (J_wind h.1 hk hb.1) (by omega), by rw [up_n (by omega)]; omega, CrZ_c hz (up_n (by omega)) l14 (fun j _ _ => up_n (by omega)), EE_lo h.2.2.2 l (fun j _ => up_n (by omega))⟩, fun G μ a S Q hs hr hq => t_turnWind hs hr l (fun k2 h2 e S' r' => ?_) (fun q => absurd rfl (q k hk))⟩
    obtain rfl := nI_inj (by omega) (by omega) e
    exact hq S' r'
  · exact Or.inr ⟨-1, List.mem_cons_self, fun G μ a S Q hs hr hq => t_turnWind hs hr l (fun k h2 e S' r' => absurd ⟨k, h2, e⟩ q) (fun _ => hq)⟩
theorem o_forget (h : JB B c v) (hb : Bo B) : OpC B c v (fun G μ a Q => w_X8_clearKeys G μ a x Q) [-3] := by
  have l := h.1.1.1
  have l0 := l.1.1
  have h3 := h.2.1
  have hz := h.2.2.1
  have l14 := h.1.1.1.1.2.1
  by_cases q : ∃ n, n < v 0 ∧ x = nI n
  · obtain ⟨k, hk, rfl⟩ := q
    have hB := h.1.2.2 (12 + 21 * k + 11)
    refine Or.inl ⟨v (12 + 21 * k + 11), fForget v k, by omega, ⟨J_mono (J_forget h.1 hk) (by omega), by rw [fF_o (fun d _ _ => by omega)]; omega, CrZ_c hz (fF_o (fun d _ _ => by omega)) l14 (fun j _ _ => fF_o (fun d _ _ => by omega)), EE_forget h.2.2.2 l hk⟩, fun G μ a S Q hs hr hq => t_clearKeys hs hr l (fun k2 h2 e S' r' => ?_) (fun q => absurd rfl (q k hk))⟩
    obtain rfl := nI_inj (by omega) (by omega) e
    exact hq S' r'
  · exact Or.inr ⟨-3, List.mem_cons_self, fun G μ a S Q hs hr hq => t_clearKeys hs hr l (fun k h2 e S' r' => absurd ⟨k, h2, e⟩ q) (fun _ => hq)⟩
theorem o_hire (h : JB B c v) (hb : Bo B) : OpC B c v (fun G μ a Q => w_X8_hireCrow G μ a Q) [-2] := by
  have l := h.1.1.1
  have l0 := l.1.2.1
  have h3 := h.2.1
  have hz := h.2.2.1
  by_cases q : v 1 < 4
  · exact Or.inl ⟨v 1, fHire v, by omega, ⟨J_mono (J_hire h.1 q hb.1) (by omega), by rw [fH_o (by omega) (by omega) (by omega)]; omega, CrZ_hire hz, EE_hire h.2.2.2 l q⟩, fun G μ a S Q hs hr hq => t_hireCrow hs hr l (fun _ S' r' => hq S' r') (fun z => by omega)⟩
  · exact Or.inr ⟨-2, List.mem_cons_self, fun G μ a S Q hs hr hq => t_hireCrow hs hr l (fun z => by omega) (fun _ => hq)⟩
theorem o_open (h : JB B c v) (hb : Bo B) : OpC B c v (fun G μ a Q => w_X8_openNest G μ a z1 z2 Q) [-1, -2] := by
  have l := h.1.1.1
  have l0 := l.1.1
  have h3 := h.2.1
  have hz := h.2.2.1
  have l14 := h.1.1.1.1.2.1
  by_cases q : ∃ x y, (1 ≤ x ∧ x ≤ 9 ∧ y ≤ 4) ∧ z1 = nI x ∧ z2 = nI y
  · obtain ⟨x, y, ⟨x1, x9, y4⟩, rfl, rfl⟩ := q
    by_cases c6 : v 0 < 6
    · refine Or.inl ⟨v 0, fOpen v x y, by omega, ⟨J_mono (J_open h.1 c6 ⟨x1, x9⟩ y4 hb.1) (by omega), by rw [fO_o (by omega) (by omega)]; omega, CrZ_c hz (fO_o (by omega) (by omega)) l14 (fun j _ _ => fO_o (by omega) (by omega)), EE_open h.2.2.2 l c6⟩, fun G μ a S Q hs hr hq => t_openNest hs hr l (fun x2 y2 _ _ _ e1 e2 _ S' r' => ?_) (fun x2 y2 _ _ _ e1 e2 z => by omega) (fun q => absurd rfl (q x y x1 x9 y4 rfl))⟩
      obtain rfl := nI_inj (by omega) (by omega) e1
      obtain rfl := nI_inj (by omega) (by omega) e2
      exact hq S' r'
    · exact Or.inr ⟨-2, List.mem_cons_of_mem _ List.mem_cons_self, fun G μ a S Q hs hr hq => t_openNest hs hr l (fun x2 y2 _ _ _ e1 e2 z => absurd z c6) (fun x2 y2 _ _ _ e1 e2 z => hq) (fun q => absurd rfl (q x y x1 x9 y4 rfl))⟩
  · exact Or.inr ⟨-1, List.mem_cons_self, fun G μ a S Q hs hr hq => t_openNest hs hr l (fun x2 y2 a1 a2 a3 e1 e2 z => absurd ⟨x2, y2, ⟨a1, a2, a3⟩, e1, e2⟩ q) (fun x2 y2 a1 a2 a3 e1 e2 z => absurd ⟨x2, y2, ⟨a1, a2, a3⟩, e1, e2⟩ q) (fun _ => hq)⟩
theorem o_post (h : JB B c v) (hb : Bo B) : OpC B c v (fun G μ a Q => w_X8_post G μ a z1 z2 Q) [-3, -1, -2] := by
  have l := h.1.1.1
  have l0 := l.1.1
  have l2 := l.1.2.2
  have h3 := h.2.1
  have hz := h.2.2.1
  have l14 := h.1.1.1.1.2.1
  have hB := h.1.2.2 3
  by_cases q1 : ∃ n, n < v 0 ∧ z1 = nI n
  · obtain ⟨n, hn, rfl⟩ := q1
    by_cases q2 : ∃ k, k ≤ 99 ∧ z2 = nI k
    · obtain ⟨k, hk, rfl⟩ := q2
      by_cases c6 : v 2 < 16
      · refine Or.inl ⟨v 3, fPost v n k, by omega, ⟨J_mono (J_post h.1 hn hk c6 hb.1) (by omega), by rw [fQ_3]; omega, CrZ_c hz (fQ_o (by omega) (by omega) (by omega)) l14 (fun j _ _ => fQ_o (by omega) (by omega) (by omega)), EE_post h.2.2.2 h.1 hn c6⟩, fun G μ a S Q hs hr hq => t_post hs hr l (fun n2 k2 _ _ e1 e2 _ S' r' => ?_) (fun q => absurd rfl (q n hn)) (fun n2 _ e1 q => absurd rfl (q k hk)) (fun n2 k2 _ _ e1 e2 z => by omega)⟩
        obtain rfl := nI_inj (by omega) (by omega) e1
        obtain rfl := nI_inj (by omega) (by omega) e2
        exact hq S' r'
      · exact Or.inr ⟨-2, List.mem_cons_of_mem _ (List.mem_cons_of_mem _ List.mem_cons_self), fun G μ a S Q hs hr hq => t_post hs hr l (fun n2 k2 _ _ e1 e2 z => absurd z c6) (fun q => absurd rfl (q n hn)) (fun n2 _ e1 q => absurd rfl (q k hk)) (fun n2 k2 _ _ e1 e2 z => hq)⟩
    · exact Or.inr ⟨-1, List.mem_cons_of_mem _ List.mem_cons_self, fun G μ a S Q hs hr hq => t_post hs hr l (fun n2 k2 _ a2 e1 e2 z => absurd ⟨k2, a2, e2⟩ q2) (fun q => absurd rfl (q n hn)) (fun n2 _ e1 q => hq) (fun n2 k2 _ a2 e1 e2 z => absurd ⟨k2, a2, e2⟩ q2)⟩
  · exact Or.inr ⟨-3, List.mem_cons_self, fun G μ a S Q hs hr hq => t_post hs hr l (fun n2 k2 a1 _ e1 e2 z => absurd ⟨n2, a1, e1⟩ q1) (fun q => hq) (fun n2 a1 e1 q => absurd ⟨n2, a1, e1⟩ q1) (fun n2 k2 a1 _ e1 e2 z => absurd ⟨n2, a1, e1⟩ q1)⟩
theorem o_cancel (h : JB B c v) (hb : Bo B) : OpC B c v (fun G μ a Q => w_X8_withdraw G μ a x Q) [-4, -2] := by
  have l := h.1.1.1
  have l2 := l.1.2.2
  have h3 := h.2.1
  have hz := h.2.2.1
  have l14 := h.1.1.1.1.2.1
  by_cases q : fPl v x < v 2
  · by_cases q2 : v (146 + 7 * fPl v x + 4) = 102 ∨ v (146 + 7 * fPl v x + 4) = 100
    · exact Or.inr ⟨-2, List.mem_cons_of_mem _ List.mem_cons_self, fun G μ a S Q hs hr hq => t_withdraw hs hr l h.1.2.2 (by omega) (fun _ z1 z2 => absurd q2 (by omega)) (fun _ _ => hq) (fun z => absurd q z)⟩
    · exact Or.inl ⟨v 2 - 1, fCeases (up v 11 (v 11 + 1)) (fPl v x), by omega, ⟨J_mono (J_cancel h.1 q (by omega) (by omega)) (by omega), by rw [v3_c, up_n (by omega)]; omega, CrZ_c hz (by rw [fC_lo (by omega) (by omega), up_n (by omega)]) l14 (fun j _ _ => by rw [fC_lo (by omega) (by omega), up_n (by omega)]), EE_cancel h.2.2.2 l q (by omega)⟩, fun G μ a S Q hs hr hq => t_withdraw hs hr l h.1.2.2 (by omega) (fun _ _ _ S' r' => hq S' r') (fun _ z => absurd z q2) (fun z => absurd q z)⟩
  · exact Or.inr ⟨-4, List.mem_cons_self, fun G μ a S Q hs hr hq => t_withdraw hs hr l h.1.2.2 (by omega) (fun z => absurd z q) (fun z => absurd z q) (fun _ => hq)⟩
theorem o_read (h : JB B c v) (hb : Bo B) : OpC B c v (fun G μ a Q => w_X8_handOver G μ a x Q) [-3, -4] := by
  have l := h.1.1.1
  have l0 := l.1.1
  have h3 := h.2.1
  have hz := h.2.2.1
  have l14 := h.1.1.1.1.2.1
  by_cases q : ∃ n, n < v 0 ∧ x = nI n
  · obtain ⟨n, hn, rfl⟩ := q
    have hB := h.1.2.2 (12 + 21 * n + 3)
    by_cases c1 : 1 ≤ v (12 + 21 * n + 2)
    · refine Or.inl ⟨v (12 + 21 * n + 3), fRead v n, by omega, ⟨J_mono (J_read h.1 (by omega) hn c1) (by omega), by rw [v3_read l hn c1]; omega, CrZ_c hz (fR_o l hn c1 (by omega)) l14 (fun j _ _ => fR_o l hn c1 (by omega)), EE_read h.2.2.2 h.1 (by omega) hn c1⟩, fun G μ a S Q hs hr hq => t_handOver hs hr h.1 (by omega) (fun n2 _ e _ S' r' => ?_) (fun n2 _ e z => ?_) (fun q => absurd rfl (q n hn))⟩
      · obtain rfl := nI_inj (by omega) (by omega) e
        exact hq S' r'
      · obtain rfl := nI_inj (by omega) (by omega) e
        omega
    · refine Or.inr ⟨-4, List.mem_cons_of_mem _ List.mem_cons_self, fun G μ a S Q hs hr hq => t_handOver hs hr h.1 (by omega) (fun n2 _ e z S' r' => ?_) (fun n2 _ e z => hq) (fun q => absurd rfl (q n hn))⟩
      obtain rfl := nI_inj (by omega) (by omega) e
      omega
  · exact Or.inr ⟨-3, List.mem_cons_self, fun G μ a S Q hs hr hq => t_handOver hs hr h.1 (by omega) (fun n2 a1 e z => absurd ⟨n2, a1, e⟩ q) (fun n2 a1 e z => absurd ⟨n2, a1, e⟩ q) (fun _ => hq)⟩
theorem JB_itm (h : JB B c v) (hb : Bo B) {k : Nat} (k2 : k ≤ 100) : JB (B + 1300) (c + 1) (itm k v) := by
  have h3 := h.2.1
  have hj := J_itm k B v hb.1 (by omega) h.1
  exact ⟨J_mono hj (by omega), by rw [v3_itm]; omega, CrZ_itm k B v hb.1 (by omega) h.1 h.2.2.1, EE_itm k B v hb.1 (by omega) h.1 h.2.2.2⟩
theorem o_pass (h : JB B c v) (hb : Bo B) : OpC B c v (fun G μ a Q => w_X8_pass G μ a x Q) [-1] := by
  by_cases q : ∃ k, (1 ≤ k ∧ k ≤ 100) ∧ x = nI k
  · obtain ⟨k, ⟨k1, k2⟩, rfl⟩ := q
    have hj := J_itm k B v hb.1 (by omega) h.1
    have h6 := v6_itm k v
    have hB := hj.2.2 6
    refine Or.inl ⟨itm k v 6 - v 6, itm k v, by omega, JB_itm h hb k2, fun G μ a S Q hs hr hq => t_pass hs hb.1 hb.2 hr h.1 (fun n2 _ _ e S' r' => ?_) (fun q => absurd rfl (q k k1 k2))⟩
    obtain rfl := nI_inj (by omega) (by omega) e
    rw [pk_sub h6]
    exact hq S' r'
  · exact Or.inr ⟨-1, List.mem_cons_self, fun G μ a S Q hs hr hq => t_pass hs hb.1 hb.2 hr h.1 (fun n2 a1 a2 e z => absurd ⟨n2, ⟨a1, a2⟩, e⟩ q) (fun _ => hq)⟩
end OPC
