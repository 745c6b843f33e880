theorem fArrP_eq (v : Nat → Nat) (p : Nat) : fArrP v p = (if fLost (fArr1 v p) p (v (146 + 7 * p + 3) + 1) = false ∧ fKnows (fArr1 v p) (v (146 + 7 * p + 1)) (fArr1 v p (146 + 7 * p + 2)) = true then fCeases (up (fArr1 v p) 8 (fArr1 v p 8 + 1)) p
  else if fLost (fArr1 v p) p (v (146 + 7 * p + 3) + 1) = false ∧ fArr1 v p (12 + 21 * v (146 + 7 * p + 1) + 2) < 8 then fDeliv (fArr1 v p) p (v (146 + 7 * p + 1))
  else if v (146 + 7 * p + 3) + 1 = 5 then fCeases (up (fArr1 v p) 9 (fArr1 v p 9 + 1)) p
  else fNap (fArr1 v p) p (v (146 + 7 * p + 3) + 1)) := rfl
theorem shl1 : ∀ t, t < 6 → nI 1 <<< (nI t &&& 31) = nI (2 ^ t) := by decide
theorem ne10 : ¬ (1 : Int32) = 0 := by decide
section MOD3
variable {G : mgT} {μ : mmT} {m : Nat} {v : Nat → Nat} {b : Nat}
theorem s_X11_arrives_b178 {Q : mmT → Prop} {p t : Nat} (hm : MS μ m) (hp : p < v 2) (hc : v 2 ≤ 16) (ht : t ≤ 5) (h1 : t = 5 → Q (VT μ m (fCeases (up v 9 (v 9 + 1)) p))) (h0 : ¬ t = 5 → Q (VT μ m (fNap v p t))) : w_X11_arrives_b178 G m Q (nI p) (nI t) (VT μ m v) := by
  unfold w_X11_arrives_b178
  refine ⟨fun c => ?_, fun c => ?_⟩
  · rw [shl1 t (by omega)]
    refine ⟨hm.1, s_X11_sets hm (by omega) ⟨hm.1, s_X11_sets hm (by omega) ⟨hm.1, s_X11_sets hm (by omega) ?_⟩⟩⟩
    exact h0 (fun e => c (by rw [e]))
  · have e : t = 5 := (nI_eq (by omega) (by omega)).mp c
    refine ⟨hm.1, rd_s hm (by omega) ⟨vin_s hm (by omega), ?_⟩⟩
    rw [cl (by omega), VT_A, nI_add, VT_sA]
    refine s_X11_ceases hm ?_ ?_ (h1 e)
    · rw [up_n (by omega)]
      exact hp
    · rw [up_n (by omega)]
      exact hc
theorem s_X11_arrives {Q : mmT → Prop} {id : Nat} (hm : MS μ m) (hc : v 2 ≤ 16) (hp : fPl v (nI id) < v 2) (hn : v (146 + 7 * fPl v (nI id) + 1) < 6) (ht : v (146 + 7 * fPl v (nI id) + 3) ≤ 4) (hk : v (12 + 21 * v (146 + 7 * fPl v (nI id) + 1) + 11) ≤ 8) (hb : Bd b v) (hb2 : b < 2 ^ 27) (hid : id ≤ b) (h : Q (VT μ m (fArrives v id))) : w_X11_arrives G (VT μ m v) m (nI id) Q := by
  unfold w_X11_arrives
  refine ⟨hm.1, s_X11_placeOf hm hc ?_⟩
  rw [pn_y hp]
  have hpid : nI (v (146 + 7 * fPl v (nI id))) = nI id := of_decide_eq_true (ff_yes _ _ hp)
  unfold fArrives at h
  generalize fPl v (nI id) = p at *
  have hid2 : v (146 + 7 * p) = id := by
    have := hb (146 + 7 * p)
    exact (nI_eq (by omega) (by omega)).mp hpid
  rw [fArrP_eq] at h
  refine s_X11_of hm (by omega) (s_X11_of hm (by omega) ?_)
  rw [nI_add]
  refine s_X11_sets hm (by omega) ⟨hm.1, rd_s hm (by omega) ⟨vin_s hm (by omega), ?_⟩⟩
  rw [cl (by omega), VT_A, up_n (show (10 : Nat) ≠ 146 + 7 * p + 3 by omega), nI_add, VT_sA]
  have ew : up (up v (146 + 7 * p + 3) (v (146 + 7 * p + 3) + 1)) 10 (v 10 + 1) = fArr1 v p := rfl
  rw [ew]
  have hw : ∀ k, k ≠ 10 → k ≠ 146 + 7 * p + 3 → fArr1 v p k = v k := fun k h1 h2 => by
    unfold fArr1
    rw [up_n h1, up_n h2]
  have hbw : Bd (b + 1) (fArr1 v p) := by
    unfold fArr1
    exact Bd_up (Bd_up (Bd_mono hb (by omega)) (by have := hb (146 + 7 * p + 3); omega)) (by have := hb 10; omega)
  have hw2 : fArr1 v p 2 = v 2 := hw 2 (by omega) (by omega)
  have hwn : fArr1 v p (146 + 7 * p + 1) = v (146 + 7 * p + 1) := hw _ (by omega) (by omega)
  generalize hnn : v (146 + 7 * p + 1) = n at *
  generalize htt : v (146 + 7 * p + 3) = t at *
  have hwid : fArr1 v p (146 + 7 * p) = id := (hw _ (by omega) (by omega)).trans hid2
  have hwk : fArr1 v p (12 + 21 * n + 11) ≤ 8 := by
    rw [hw _ (by omega) (by omega)]
    exact hk
  generalize fArr1 v p = w at *
  refine s_X11_isLost hm (by omega) (by omega) hbw (by omega) (by have := hb (146 + 7 * p + 3); omega) ?_
  have fin178 : ∀ (hz : fLost w p (t + 1) = false → ¬ fKnows w n (w (146 + 7 * p + 2)) = true ∧ ¬ w (12 + 21 * n + 2) < 8), w_X11_arrives_b178 G m Q (nI p) (nI (t + 1)) (VT μ m w) := fun hz => by
    rw [if_neg (fun z => (hz z.1).1 z.2), if_neg (fun z => (hz z.1).2 z.2)] at h
    refine s_X11_arrives_b178 hm (by omega) (by omega) (by omega) (fun e => ?_) (fun e => ?_)
    · rw [if_pos e] at h
      exact h
    · rw [if_neg e] at h
      exact h
  cases hL : fLost w p (t + 1) with
  | true =>
    refine ⟨fun _ => ?_, fun c => absurd c ne10⟩
    unfold w_X11_arrives_b87
    exact ⟨fun _ => fin178 (fun z => by rw [hL] at z; cases z), fun c => absurd c ne10⟩
  | false =>
    refine ⟨fun c => absurd rfl c, fun _ => ?_⟩
    refine s_X11_of hm (by omega) (s_X11_knows hm (by omega) hwk hbw (by omega) (hbw _) ?_)
    cases hK : fKnows w n (w (146 + 7 * p + 2)) with
    | true =>
      refine ⟨fun c => absurd c ne10, fun _ => rd_s hm (by omega) ⟨vin_s hm (by omega), ?_⟩⟩
      rw [cl (by omega), VT_A, nI_add, VT_sA]
      refine s_X11_ceases hm ?_ ?_ ?_
      · rw [up_n (by omega)]
        omega
      · rw [up_n (by omega)]
        omega
      · rw [if_pos ⟨hL, hK⟩] at h
        exact h
    | false =>
      refine ⟨fun _ => ?_, fun c => absurd rfl c⟩
      unfold w_X11_arrives_b87
      refine ⟨fun c => absurd rfl c, fun _ => ⟨hm.1, s_X11_nest hm (by omega) ⟨fun c => ?_, fun c => ?_⟩⟩⟩
      · have c2 : 8 ≤ w (12 + 21 * n + 2) := (nI_leI (by omega) (by have := hbw (12 + 21 * n + 2); omega)).mp c
        exact fin178 (fun _ => ⟨by rw [hK]; exact Bool.false_ne_true, by omega⟩)
      · have c2 : w (12 + 21 * n + 2) < 8 := by
          by_cases q : w (12 + 21 * n + 2) < 8
          · exact q
          · exact absurd (nI_le (by omega) (by have := hbw (12 + 21 * n + 2); omega)) c
        rw [if_neg (fun z => by rw [hK] at z; exact absurd z.2 Bool.false_ne_true), if_pos ⟨hL, c2⟩] at h
        refine s_X11_sets hm (by omega) ⟨hm.1, s_X11_nest hm (by omega) ?_⟩
        rw [nI_add, up_n (by omega)]
        refine s_X11_setsNest hm (by omega) ⟨hm.1, s_X11_nest hm (by omega) ?_⟩
        rw [nI_add, up_n (show 12 + 21 * n + 2 ≠ 12 + 21 * n + (3 + w (12 + 21 * n + 2)) by omega), up_n (show 12 + 21 * n + 2 ≠ 146 + 7 * p + 4 by omega)]
        refine s_X11_setsNest hm (by omega) ⟨hm.1, s_X11_nest hm (by omega) ?_⟩
        rw [nI_add, up_n (show 12 + 21 * n + 20 ≠ 12 + 21 * n + 2 by omega), up_n (show 12 + 21 * n + 20 ≠ 12 + 21 * n + (3 + w (12 + 21 * n + 2)) by omega), up_n (show 12 + 21 * n + 20 ≠ 146 + 7 * p + 4 by omega)]
        refine s_X11_setsNest hm (by omega) ⟨hm.1, rd_s hm (by omega) ⟨vin_s hm (by omega), ?_⟩⟩
        rw [cl (by omega), VT_A, up_n (show (6 : Nat) ≠ 12 + 21 * n + 20 by omega), up_n (show (6 : Nat) ≠ 12 + 21 * n + 2 by omega), up_n (show (6 : Nat) ≠ 12 + 21 * n + (3 + w (12 + 21 * n + 2)) by omega), up_n (show (6 : Nat) ≠ 146 + 7 * p + 4 by omega), nI_add, VT_sA]
        refine s_X11_of hm (by omega) ?_
        rw [up_n (show 146 + 7 * p + 2 ≠ 6 by omega), up_n (show 146 + 7 * p + 2 ≠ 12 + 21 * n + 20 by omega), up_n (show 146 + 7 * p + 2 ≠ 12 + 21 * n + 2 by omega), up_n (show 146 + 7 * p + 2 ≠ 12 + 21 * n + (3 + w (12 + 21 * n + 2)) by omega), up_n (show 146 + 7 * p + 2 ≠ 146 + 7 * p + 4 by omega)]
        refine s_X11_learns hm (by omega) ?_ ?_
        · rw [up_n (by omega), up_n (by omega), up_n (by omega), up_n (by omega), up_n (by omega)]
          exact hwk
        · unfold fDeliv at h
          rw [hwid] at h
          rw [show 12 + 21 * n + (3 + w (12 + 21 * n + 2)) = 12 + 21 * n + 3 + w (12 + 21 * n + 2) by omega]
          exact h
end MOD3
