/-! A DELIVERY INTO A NEST; A MESSAGE THAT GOES -/
section REMS
variable {G : mgT} {μ : mmT} {a b n : Nat} {S : cT} {v : Nat → Nat}
def fInb (v : Nat → Nat) (n id : Nat) : Nat → Nat := up (up (up v (12 + 21 * n + 3 + v (12 + 21 * n + 2)) id) (12 + 21 * n + 2) (v (12 + 21 * n + 2) + 1)) (12 + 21 * n + 20) (v (12 + 21 * n + 20) + 1)
theorem fInb_o {id j : Nat} (h : ∀ d, d < 21 → j ≠ 12 + 21 * n + d) (h8 : v (12 + 21 * n + 2) < 8) : fInb v n id j = v j := by
  unfold fInb
  rw [up_n (h 20 (by decide)), up_n (h 2 (by decide)), up_n (by have := h (3 + v (12 + 21 * n + 2)) (by omega); omega)]
theorem Lim_Inb {id : Nat} (l : Lim v) (hn : n < v 0) (h8 : v (12 + 21 * n + 2) < 8) : Lim (fInb v n id) := by
  have l0 := l.1.1
  refine ⟨?_, fun m hm => ?_, fun p hp => ?_⟩
  · rw [fInb_o (fun d _ => by omega) h8, fInb_o (fun d _ => by omega) h8, fInb_o (fun d _ => by omega) h8]
    exact l.1
  · rw [fInb_o (fun d _ => by omega) h8] at hm
    have := l.2.1 m hm
    by_cases q : m = n
    · subst q
      unfold fInb
      rw [up_n (by omega), up_s, up_n (by omega), up_n (by omega), up_n (by omega), up_n (by omega), up_n (by omega), up_n (by omega), up_n (by omega), up_n (by omega), up_n (by omega)]
      omega
    · rw [fInb_o (fun d _ => by omega) h8, fInb_o (fun d _ => by omega) h8, fInb_o (fun d _ => by omega) h8, fInb_o (fun d _ => by omega) h8]
      exact this
  · rw [fInb_o (fun d _ => by omega) h8] at hp
    rw [fInb_o (fun d _ => by omega) h8, fInb_o (fun d _ => by omega) h8]
    exact l.2.2 p hp
theorem t_accept {Q : mmT → Prop} {id key : Nat} (hs : SS μ a) (hn : n < v 0) (l : Lim v) (hN : RelN S v) (h8 : v (12 + 21 * n + 2) < 8) (h : ∀ S', (∀ F k, ¬ (164 ≤ F ∧ F ≤ 166 ∧ k = 5 + 3 * n) → cF S' F k = cF S F k) → cP S' = cP S → RelN S' (fLearns (fInb v n id) n key) → Q (CT μ a S')) : w_X6_accept G (CT μ a S) (a + (5 + 3 * n)) (nI id) (nI key) Q := by
  have l0 := l.1.1
  obtain ⟨en, -, -⟩ := hN n hn
  unfold w_X6_accept
  refine ⟨hs.nk (by omega), t_hasRoom hs (by omega) (by omega) en.2.2.2.1 ?_⟩
  rw [if_pos h8]
  refine ⟨fun _ => ?_, fun z => absurd z (by decide)⟩
  refine ⟨_, hs.nin (by omega), hs.nik (by omega), ?_, ?_⟩
  · rw [hs.nin8 (by omega), CT_I (by omega), en.2.2.2.1]
    exact vp_in_nI h8 (by omega)
  · rw [CT_I (by omega), en.2.2.2.1, cl (by omega), CT_sA (by omega), CT_I (by omega), cF_fA, en.2.2.2.1, nI_add, CT_sI (by omega), CT_I (by omega), fI_o (Or.inl (by decide)), cF_fA, en.2.2.1, nI_add, CT_sI (by omega)]
    refine t_learn hs (v := fInb v n id) (by rw [fInb_o (fun d _ => by omega) h8]; exact hn) (Lim_Inb l hn h8) (fun m hm => ?_) (fun S' q1 q2 q3 => h S' (fun F k z => ?_) q2 q3)
    · rw [fInb_o (fun d _ => by omega) h8] at hm
      obtain ⟨e, bi, bk⟩ := hN m hm
      obtain ⟨k1, k2, -⟩ := l.2.1 m hm
      by_cases q : m = n
      · subst q
        unfold fInb
        refine ⟨⟨?_, ?_, ?_, ?_, ?_⟩, fun k hk => ?_, fun k hk => ?_⟩
        · rw [fI_o (Or.inl (by decide)), fI_o (Or.inl (by decide)), cF_fA, up_n (by omega), up_n (by omega), up_n (by omega)]; exact e.1
        · rw [fI_o (Or.inl (by decide)), fI_o (Or.inl (by decide)), cF_fA, up_n (by omega), up_n (by omega), up_n (by omega)]; exact e.2.1
        · rw [fI_s, up_s]
        · rw [fI_o (Or.inl (by decide)), fI_s, up_n (by omega), up_s]
        · rw [fI_o (Or.inl (by decide)), fI_o (Or.inl (by decide)), cF_fA, up_n (by omega), up_n (by omega), up_n (by omega)]; exact e.2.2.2.2
        · rw [up_n (by omega), up_s] at hk
          rw [cA_fI, cA_fI, cA_fA, up_n (by omega), up_n (by omega)]
          by_cases z : k = v (12 + 21 * m + 2)
          · rw [if_pos ⟨rfl, z⟩, z, up_s]
          · rw [if_neg (fun y => z y.2), up_n (by omega)]
            exact bi k (by omega)
        · rw [up_n (by omega), up_n (by omega), up_n (by omega)] at hk
          rw [cA_fI, cA_fI, cA_fA, if_neg (by omega), up_n (by omega), up_n (by omega), up_n (by omega)]
          exact bk k hk
      · have ho : ∀ d, d < 21 → fInb v n id (12 + 21 * m + d) = v (12 + 21 * m + d) := fun d hd => fInb_o (fun d2 _ => by omega) h8
        rw [fInb_o (fun d2 _ => by omega) h8, ho 1 (by decide), ho 20 (by decide), ho 2 (by decide), ho 11 (by decide), fI_o (Or.inl (by decide)), fI_o (Or.inl (by decide)), fI_o (Or.inl (by decide)), fI_o (Or.inl (by decide)), fI_o (Or.inr (by omega)), fI_o (Or.inl (by decide)), fI_o (Or.inl (by decide)), fI_o (Or.inr (by omega)), fI_o (Or.inl (by decide)), fI_o (Or.inl (by decide))]
        refine ⟨e, fun k hk => ?_, fun k hk => ?_⟩
        · rw [cA_fI, cA_fI, cA_fA, if_neg (by omega), fInb_o (fun d2 _ => by omega) h8]
          exact bi k hk
        · rw [cA_fI, cA_fI, cA_fA, if_neg (by omega), fInb_o (fun d2 _ => by omega) h8]
          exact bk k hk
    · rw [q1 F k (fun y => z (by omega)), fI_o (by omega), fI_o (by omega), cF_fA]
theorem fC_2 {p : Nat} : fCeases v p 2 = v 2 - 1 := if_pos rfl
theorem fC_lo {p j : Nat} (h : j < 146) (h2 : j ≠ 2) : fCeases v p j = v j := by
  unfold fCeases
  rw [if_neg h2, if_neg (by omega), if_neg (by omega)]
theorem fC_m {p q j : Nat} (hq : q < v 2 - 1) (hj : j < 7) : fCeases v p (146 + 7 * q + j) = v (146 + 7 * (if p ≤ q then q + 1 else q) + j) := by
  unfold fCeases
  rw [if_neg (by omega)]
  by_cases c : p ≤ q
  · rw [if_pos (by omega), if_pos c]
    congr 1
    omega
  · rw [if_neg (by omega), if_neg (by omega), if_neg c]
theorem CT_P {f g : Nat → Nat} (h : ∀ j, f j = g j) {F A : Nat → Nat → Int32} : CT μ a (F, A, f) = CT μ a (F, A, g) := by rw [funext h]
/-- the places after p's row has gone to the end -/
def sg (p c j : Nat) : Nat := if j = c then p else if p ≤ j ∧ j < c then j + 1 else j
theorem sg_lt {p c j : Nat} (hp : p ≤ c) (hc : c < 16) (hj : j < 16) : sg p c j < 16 := by
  unfold sg
  split
  · omega
  · split <;> omega
theorem sg_inj {p c i j : Nat} (hp : p ≤ c) (h : sg p c i = sg p c j) : i = j := by
  unfold sg at h
  split at h <;> split at h <;> (try split at h) <;> (try split at h) <;> omega
theorem t_remove {Q : mmT → Prop} {x : Int32} {jc jm : Nat} (hs : SS μ a) (l : Lim v) (hr : Rel S v jc jm) (hj : jm = 0 ∨ 16 ≤ jm) (hp : fPl v x < v 2) (h : ∀ S', Rel S' (fCeases v (fPl v x)) jc jm → (∀ F k, F ≠ 230 → cF S' F k = cF S F k) → cA S' = cA S → Q (CT μ a S')) : w_X8_remove G (CT μ a S) a x Q := by
  obtain ⟨rS, rT, rN, rC, rM, rP, rZ⟩ := hr
  have l2 := l.1.2.2
  unfold w_X8_remove
  refine ⟨hs.k0, t_rowOf hs rS (fun q hq => ⟨(rP q (by omega)).1, (rM q hq).1.1⟩) l2 ?_⟩
  rw [pn_y hp]
  generalize fPl v x = p at *
  refine ⟨fun _ => gm hs (by omega) ?_, fun z => absurd z (nI_m1 (by omega))⟩
  rw [cl (by omega), CT_B]
  refine (lpE (W := fun n i => p ≤ i → w_X8_remove_l22 G a Q n (some (a + (27 + cP S p))) (nI i) (CT μ a (cF S, cA S, fun j => if p ≤ j ∧ j < i then cP S (j + 1) else cP S j))) (N := v 2 - 1) ?_ (show p ≤ _ by omega)).imp fun n hn => ?_
  · intro n i hi ih hpi
    show w_X8_remove_b22 G a Q _ _ (nI i) _
    unfold w_X8_remove_b22
    have hs0 : cF (cF S, cA S, fun j => if p ≤ j ∧ j < i then cP S (j + 1) else cP S j) = cF S := rfl
    rw [CT_I0, hs0, rS.2.2.1, nI_add]
    refine ⟨hs.k0, pk_le (v 2) (i + 1) (fun c => ?_) (fun c => ?_)⟩
    · have ei : i = v 2 - 1 := by omega
      subst ei
      rw [pk_sub (by omega), CT_sI0]
      refine ⟨a + 3, hs.r3, hs.k3, _, rfl, hs.mk (rP p (by omega)).1, ?_, ?_⟩
      · rw [CT_I0, fI_s, hs.n3]
        exact vp_in_nI (by omega) (by omega)
      · rw [CT_I0, fI_s, cl (by omega), CT_sB]
        obtain ⟨S3, e3⟩ : ∃ S3, S3 = fP (fI (cF S, cA S, fun j => if p ≤ j ∧ j < v 2 - 1 then cP S (j + 1) else cP S j) 230 0 (nI (v 2 - 1))) (v 2 - 1) (cP S p) := ⟨_, rfl⟩
        rw [← e3]
        have eP : ∀ j, cP S3 j = cP S (sg p (v 2 - 1) j) := by
          intro j
          rw [e3]
          show (if j = v 2 - 1 then cP S p else if p ≤ j ∧ j < v 2 - 1 then cP S (j + 1) else cP S j) = _
          unfold sg
          split
          · rfl
          · split <;> rfl
        have eF : ∀ F k, F ≠ 230 → cF S3 F k = cF S F k := fun F k z => by
          rw [e3, cF_fP, fI_o (Or.inl z)]
          rfl
        have e230 : cF S3 230 0 = nI (v 2 - 1) := by rw [e3, cF_fP, fI_s]
        have e22 : ∀ F, F ≠ 230 → cF S3 F 0 = cF S F 0 := fun F z => eF F 0 z
        have eA : cA S3 = cA S := by
          rw [e3]
          rfl
        clear e3
        refine h _ ⟨?_, ?_, ?_, ?_, ?_, ?_, ?_⟩ eF eA
        · refine ⟨?_, ?_, ?_, ?_, ?_⟩
          · rw [fC_lo (by decide) (by decide), eF _ _ (by decide)]; exact rS.1
          · rw [fC_lo (by decide) (by decide), eF _ _ (by decide)]; exact rS.2.1
          · rw [fC_2]; exact e230
          · rw [fC_lo (by decide) (by decide), eF _ _ (by decide)]; exact rS.2.2.2.1
          · rw [fC_lo (by decide) (by decide), eF _ _ (by decide)]; exact rS.2.2.2.2
        · exact RelT_c rT (fun j z _ => fC_lo (by omega) (by omega)) (fun F z _ => eF _ _ (by omega))
        · exact RelN_c rN l (fC_lo (by decide) (by decide)) (fun j z _ => fC_lo (by omega) (by omega)) (fun F k z _ => eF _ _ (by omega)) eA
        · exact RelC_c rC l.1.2.1 (fC_lo (by decide) (by decide)) (fC_lo (by decide) (by decide)) (fun j z _ => fC_lo (by omega) (by omega)) (fun F k z _ => eF _ _ (by omega))
        · intro q hq
          rw [fC_2] at hq
          have m := rM (if p ≤ q then q + 1 else q) (by split <;> omega)
          have es : sg p (v 2 - 1) q = if p ≤ q then q + 1 else q := by
            unfold sg
            rw [if_neg (by omega)]
            by_cases z : p ≤ q
            · rw [if_pos z, if_pos (by omega)]
            · rw [if_neg z, if_neg (by omega)]
          have e0 : fCeases v p (146 + 7 * q) = v (146 + 7 * (if p ≤ q then q + 1 else q)) := fC_m (j := 0) hq (by decide)
          rw [eP, es, e0, fC_m hq (by decide), fC_m hq (by decide), fC_m hq (by decide), fC_m hq (by decide), fC_m hq (by decide), fC_m hq (by decide), fC_lo (by decide) (by decide), eF _ _ (by decide), eF _ _ (by decide), eF _ _ (by decide), eF _ _ (by decide), eF _ _ (by decide), eF _ _ (by decide)]
          have ej : (jm ≤ q ∧ v (146 + 7 * (if p ≤ q then q + 1 else q) + 6) = 0) ↔ (jm ≤ (if p ≤ q then q + 1 else q) ∧ v (146 + 7 * (if p ≤ q then q + 1 else q) + 6) = 0) := by
            have : jm ≤ q ↔ jm ≤ (if p ≤ q then q + 1 else q) := by split <;> omega
            rw [this]
          refine ⟨m.1, fun z => ?_⟩
          rw [m.2 z]
          simp only [ej]
        · intro q hq
          rw [eP]
          refine ⟨(rP _ (sg_lt (by omega) (by omega) hq)).1, fun q2 hq2 z => ?_⟩
          rw [eP] at z
          exact sg_inj (by omega) ((rP _ (sg_lt (by omega) (by omega) hq)).2 _ (sg_lt (by omega) (by omega) hq2) z)
        · exact RelZ_c rZ (fun k => eF _ _ (by decide)) (fun k => eF _ _ (by decide))
    · refine ⟨a + 3, hs.r3, hs.k3, ?_, ?_⟩
      · rw [hs.n3]
        exact vp_in_nI (by omega) (by omega)
      · rw [cl (by omega), CT_B]
        have e1 : cP (cF S, cA S, fun j => if p ≤ j ∧ j < i then cP S (j + 1) else cP S j) (i + 1) = cP S (i + 1) := if_neg (by omega)
        rw [e1]
        refine ⟨_, rfl, hs.mk (rP (i + 1) (by omega)).1, ?_, ?_⟩
        · rw [hs.n3]
          exact vp_in_nI (by omega) (by omega)
        · rw [cl (by omega), CT_sB]
          have := ih (by omega) (by omega)
          have e2 : CT μ a (fP (cF S, cA S, fun j => if p ≤ j ∧ j < i then cP S (j + 1) else cP S j) i (cP S (i + 1))) = CT μ a (cF S, cA S, fun j => if p ≤ j ∧ j < i + 1 then cP S (j + 1) else cP S j) := by
            refine CT_P (fun j => ?_)
            rw [up_a]
            by_cases z : j = i
            · rw [if_pos z, if_pos (by omega), z]
            · rw [if_neg z]
              show (if p ≤ j ∧ j < i then cP S (j + 1) else cP S j) = _
              by_cases y : p ≤ j ∧ j < i
              · rw [if_pos y, if_pos (by omega)]
              · rw [if_neg y, if_neg (by omega)]
          rw [e2]
          exact this
  · have := hn (Nat.le_refl _)
    have e2 : CT μ a (cF S, cA S, fun j => if p ≤ j ∧ j < p then cP S (j + 1) else cP S j) = CT μ a S := by
      refine (CT_P (g := cP S) (fun j => ?_))
      rw [if_neg (by omega)]
    rw [e2] at this
    exact this
end REMS
