/-! QUESTIONS ABOUT MESSAGES -/
section QUERY3
variable {G : mgT} {μ ν ρ : mmT} {z a b c m i F n : Nat} {S S2 : cT} {v w : Nat → Nat} {B : Nat} {x y : Int32}
theorem rel_p (hr : Rel S v 4 16) (l : Lim v) : ∀ p, p < v 2 → cP S p < 16 ∧ cF S 128 (27 + cP S p) = nI (v (146 + 7 * p)) := fun p hp => ⟨(hr.2.2.2.2.2.1 p (by have := l.1.2.2; omega)).1, (hr.2.2.2.2.1 p hp).1.1⟩
theorem rel_P (hr : Rel S v 4 16) (l : Lim v) {p : Nat} (hp : p < v 2) : cP S p < 16 := (rel_p hr l p hp).1
theorem x_msg {Q : Option Nat → Prop} {X : String → Prop} (hT : ST μ z) (hr : Rel S v 4 16) (l : Lim v) (h1 : fPl v x < v 2 → Q (some (z + 1 + (27 + cP S (fPl v x))))) (h0 : ¬ fPl v x < v 2 → X "java/util/NoSuchElementException") : w_X10_existingMessage G (CT μ (z + 1) S) z x Q X := by
  refine ⟨hT.kz, _, hT.z1, hT.s1.1, t_messageWith hT.s1 hr.1 (rel_p hr l) l.1.2.2 ?_⟩
  by_cases q : fPl v x < v 2
  · rw [if_pos q]
    exact ⟨fun z => (nomatch z), fun a6 e6 => h1 q⟩
  · rw [if_neg q]
    exact ⟨fun _ => h0 q, fun a z => (nomatch z)⟩
theorem chN {n : Nat} (h : n < 65536) : ((nI n).toUInt32 % 65536).toInt32 = nI n := by
  rw [pk_char, pk_tn (by omega), Nat.mod_eq_of_lt h]
end QUERY3
