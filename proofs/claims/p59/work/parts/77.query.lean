/-! QUESTIONS: both sides' answers -/
section QUERY
variable {G : mgT} {μ ν ρ : mmT} {z a b c m i F n : Nat} {S S2 : cT} {v w : Nat → Nat} {B : Nat} {x y : Int32}
theorem sII {k k2 : Int32} : sI (sI μ F a k) F a k2 = sI μ F a k2 := by
  refine mm_ext rfl rfl ?_ rfl rfl rfl rfl rfl
  funext G b
  show (if G = F ∧ b = a then k2 else if G = F ∧ b = a then k else mI μ G b) = if G = F ∧ b = a then k2 else mI μ G b
  by_cases h : G = F ∧ b = a
  · rw [if_pos h, if_pos h]
  · rw [if_neg h, if_neg h, if_neg h]
theorem x_nest {Q : Option Nat → Prop} {X : String → Prop} (hT : ST μ z) (hr : Rel S v 4 16) (l : Lim v) (h1 : ∀ n, n < v 0 → x = nI n → Q (some (z + 1 + (5 + 3 * n)))) (h0 : (∀ n, n < v 0 → x ≠ nI n) → X "java/lang/IndexOutOfBoundsException") : w_X10_existingNest G (CT μ (z + 1) S) z x Q X :=
  ⟨hT.kz, _, hT.z1, hT.s1.1, t_nestAt hT.s1 hr.1 l.1.1 (fun n hn e => ⟨fun z => (nomatch z), fun a6 e6 => h1 n hn e⟩) (fun q => ⟨fun _ => h0 q, fun a z => (nomatch z)⟩)⟩
end QUERY
