section COPY5
variable {G : mgT} {μ : mmT} {a c : Nat} {S S2 S' : cT} {v : Nat → Nat} {jc jm : Nat}
/-- a State out of another one says the same -/
theorem t_copyR {Q : mmT → Prop} (hsA : SS μ a) (hsC : SS μ c) (hd : a + 43 ≤ c ∨ c + 43 ≤ a) (rP : RelP S) (rZ : RelZ S) (l : Lim v) (r : Rel S2 v jc jm) (h : ∀ S', Rel S' v jc jm → Q (CT (CT μ c S2) a S')) : w_X8_copyFrom G (CT (CT μ c S2) a S) a (some c) Q :=
  t_copyFrom hsA hsC hd rP rZ r.2.2.2.2.2.1 r.2.2.2.2.2.2 (fun S' q1 q2 q3 q4 q5 q6 q7 => h S' (Rel_copy r l q3 q4 q5 (RelP_c rP q1) q2 q6 q7))
end COPY5
