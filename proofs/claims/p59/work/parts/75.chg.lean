/-! A CHANGE OF THE REFERENCE -/
section CHGM
variable {G : mgT} {μ ν ρ : mmT} {z a b c c2 m i F nx ct : Nat} {S S2 : cT} {v w v0 : Nat → Nat} {V : Nat → Nat → Nat} {R : rT} {P P2 : Nat → Prop} {B B2 N : Nat}
/-- .. done, refused -/
theorem t_opD {Q : Int32 → mmT → Prop} {X : String → mmT → Prop} {W : mgT → mmT → Nat → (Int32 → mmT → Prop) → Prop} {r : Nat} (hr : r < 2 ^ 31) (hW : ∀ G μ a S Q, SS μ a → Rel S v 4 16 → (∀ S', Rel S' w 4 16 → Q (nI r) (CT μ a S')) → W G (CT μ a S) a Q) (hT : ST μ z) (hI : ICv μ z v ct V) (l : Lim v)
    (hq : ∀ ρ, Ag z μ ρ (Pc z) → ICv ρ z w (ctP ct) (vP ct V v) → Q (nI r) ρ) :
    mK μ z = 10 ∧ ∃ a2, mR μ 289 z = some a2 ∧ (mK μ a2 = 8 ∧ w_X8_copyFrom G μ a2 (mR μ 288 z) (fun μ5 => mK μ5 z = 10 ∧ ∃ a7, mR μ5 288 z = some a7 ∧ (mK μ5 a7 = 8 ∧ W G μ5 a7 (fun u10 μ11 => mK μ11 z = 10 ∧ w_X10_settle G μ11 z u10 Q X)))) :=
  t_chg (W G) hT hI l (fun ν S hs r1 A _ => hW G ν (z + 1) S _ hs r1 (fun S' r' => A r w S' hr r' hq))
theorem t_opF {Q : Int32 → mmT → Prop} {X : String → mmT → Prop} {W : mgT → mmT → Nat → (Int32 → mmT → Prop) → Prop} {e : Int32} {E : String} (hx : ∀ ρ, X E ρ → w_X10_settle G ρ z e Q X) (hW : ∀ G μ a S Q, SS μ a → Rel S v 4 16 → Q e (CT μ a S) → W G (CT μ a S) a Q) (hT : ST μ z) (hI : ICv μ z v ct V) (l : Lim v)
    (hq : ∀ ρ, Ag z μ ρ (Pc z) → ICv ρ z v ct V → X E ρ) :
    mK μ z = 10 ∧ ∃ a2, mR μ 289 z = some a2 ∧ (mK μ a2 = 8 ∧ w_X8_copyFrom G μ a2 (mR μ 288 z) (fun μ5 => mK μ5 z = 10 ∧ ∃ a7, mR μ5 288 z = some a7 ∧ (mK μ5 a7 = 8 ∧ W G μ5 a7 (fun u10 μ11 => mK μ11 z = 10 ∧ w_X10_settle G μ11 z u10 Q X)))) :=
  t_chg (W G) hT hI l (fun ν S hs r1 _ A => hW G ν (z + 1) S _ hs r1 (A e E hx hq))
end CHGM
