/-! ROWS THAT AGREE BELOW 258 -/
section CONG2
variable {G : mgT} {μ ν ρ : mmT} {z a b c c2 m i j F n ct jc jm : Nat} {S S2 : cT} {v w : Nat → Nat} {V : Nat → Nat → Nat} {R : rT} {B B2 : Nat} {x y : Int32}
theorem Rel_8 (h : Rel S v jc jm) (l : Lim v) (e : ∀ k, k < 258 → w k = v k) : Rel S w jc jm := by
  obtain ⟨rS, rT, rN, rC, rM, rP, rZ⟩ := h
  have l0 := l.1
  refine ⟨RelS_c rS (fun j z _ => e j (by omega)) (fun _ _ _ => rfl), RelT_c rT (fun j z _ => e j (by omega)) (fun _ _ _ => rfl), RelN_c rN l (e 0 (by decide)) (fun j _ z => e j (by omega)) (fun _ _ _ _ => rfl) rfl, RelC_c rC l0.2.1 (e 1 (by decide)) (e 4 (by decide)) (fun j _ z => e j (by omega)) (fun _ _ _ _ => rfl), fun p hp => ?_, rP, rZ⟩
  rw [e 2 (by decide)] at hp
  rw [e _ (by omega), e _ (by omega), e _ (by omega), e _ (by omega), e _ (by omega), e (146 + 7 * p + 5) (by omega), e (146 + 7 * p + 6) (by omega), e 4 (by decide)]
  exact rM p hp
theorem J_8 (h : J B 16 v) (e : ∀ k, k < 258 → w k = v k) (hB : Bd B w) : J B 16 w := by
  obtain ⟨⟨l, a1, a2, a3, a4, a5, a6⟩, hT, -⟩ := h
  have l0 := l.1
  have e0 := e 0 (by decide)
  have e1 := e 1 (by decide)
  have e2 := e 2 (by decide)
  have e3 := e 3 (by decide)
  have es : ∀ x2, cS w x2 = cS v x2 := fun x => by
    unfold cS
    rw [e2]
    exact cnt_c _ (fun k hk => by rw [e _ (by omega)])
  have ec : cC w = cC v := by
    unfold cC
    rw [e1]
    exact cnt_c _ (fun k hk => by rw [e _ (by omega)])
  have en : sN w = sN v := by
    unfold sN
    rw [e0]
    exact su_c _ (fun k hk => by rw [e _ (by omega)])
  refine ⟨⟨⟨?_, fun m hm => ?_, fun q hq => ?_⟩, ⟨fun q hq => ?_, fun q r hqr hr => ?_⟩, fun q hq => ?_, ⟨fun c hc2 => ?_, fun c d hcd hd => ?_⟩, ⟨fun m k hm hk => ?_, fun m k j hm hkj hj => ?_⟩, ?_, ?_⟩, ?_, hB⟩
  · rw [e0, e1, e2]
    exact l0
  · rw [e0] at hm
    rw [e _ (by omega), e _ (by omega), e _ (by omega), e _ (by omega)]
    exact l.2.1 m hm
  · rw [e2] at hq
    rw [e0, e _ (by omega)]
    exact l.2.2 q hq
  · rw [e2] at hq
    rw [e3, e _ (by omega)]
    exact a1.1 q hq
  · rw [e2] at hr
    rw [e _ (by omega), e _ (by omega)]
    exact a1.2 q r hqr hr
  · rw [e2] at hq
    rw [e _ (by omega), e _ (by omega), e _ (by omega), e _ (by omega), e _ (by omega)]
    exact a2 q hq
  · rw [e1] at hc2
    rw [e _ (by omega), e _ (by omega)]
    intro z
    obtain ⟨r1, q, hq, f1, f2⟩ := a3.1 c hc2 z
    exact ⟨r1, q, by rw [e2]; exact hq, by rw [e _ (by omega)]; exact f1, by rw [e _ (by omega)]; exact f2⟩
  · rw [e1] at hd
    rw [e _ (by omega), e _ (by omega)]
    exact a3.2 c d hcd hd
  · rw [e0] at hm
    have s8 := (l.2.1 m hm).1
    rw [e _ (by omega)] at hk
    rw [e (12 + 21 * m + 3 + k) (by omega)]
    obtain ⟨q, hq, f1, f2, f3⟩ := a4.1 m k hm hk
    exact ⟨q, by rw [e2]; exact hq, by rw [e _ (by omega)]; exact f1, by rw [e _ (by omega)]; exact f2, by rw [e _ (by omega)]; exact f3⟩
  · rw [e0] at hm
    have s8 := (l.2.1 m hm).1
    rw [e _ (by omega)] at hj
    rw [e _ (by omega), e _ (by omega)]
    exact a4.2 m k j hm hkj hj
  · rw [es, ec]
    exact a5
  · rw [es, en]
    exact a6
  · unfold tot at hT ⊢
    rw [e2, e3, e 7 (by decide), e 8 (by decide), e 9 (by decide), e 11 (by decide)]
    exact hT
theorem JB_8 (h : JB B c v) (e : ∀ k, k < 258 → w k = v k) (hB : Bd B w) : JB B c w := by
  have l0 := h.1.1.1.1
  refine ⟨J_8 h.1 e hB, by rw [e 3 (by decide)]; exact h.2.1, CrZ_c h.2.2 (e 1 (by decide)) l0.2.1 (fun j _ hj => e j (by omega))⟩
theorem St_8 (h : St μ a v) (l : Lim v) (e : ∀ k, k < 258 → w k = v k) : St μ a w := h.elim (fun S q => ⟨S, q.1, Rel_8 q.2 l e⟩)
theorem ICv_8 (h : ICv μ z v ct V) (l : Lim v) (e : ∀ k, k < 258 → w k = v k) : ICv μ z w ct V := ⟨St_8 h.1 l e, h.2⟩
/-- v below 258, u above -/
def mx (v u : Nat → Nat) : Nat → Nat := fun k => if k < 258 then v k else u k
theorem mx_lo {u : Nat → Nat} : ∀ k, k < 258 → mx v u k = v k := fun _ h => if_pos h
theorem Bd_mx {u : Nat → Nat} (h1 : Bd B v) (h2 : Bd B u) : Bd B (mx v u) := fun k => by
  unfold mx
  split
  · exact h1 k
  · exact h2 k
theorem mx_self : mx v v = v := funext fun k => by
  unfold mx
  split <;> rfl
end CONG2
