/-! THE START: the classes -/
section KNOWN
variable {s : State} {args : Array Value}
theorem kn_one {k n : Nat} {C : String} {T : u_T} {N : Nat} {ty : Nat → FieldType} (hts : ∀ w ∈ lw_tbl, w.before args s = true) (cf : mzC k C T N ty) (hi : Cond.instantiable C n ∈ lw_tbl) : ∃ p : ClassId × (Nat → Nat), ∀ q, mmCl[k]? = some q → u_Kn s q.1 q.2.1 q.2.2 p.1 p.2 := by
  obtain ⟨cC, iS, h⟩ := u_known (TT_hts hts) cf.2.2.1 (hts _ hi)
  exact ⟨(cC, iS), fun q hq => by
    rw [cf.2.1] at hq
    cases hq
    exact h⟩
theorem kn_all (hts : ∀ w ∈ lw_tbl, w.before args s = true) : ∃ D : va_G, ∀ k q, mmCl[k]? = some q → u_Kn s q.1 q.2.1 q.2.2 (D.1 k) (D.2 k) := by
  have h : ∀ k : Nat, ∃ p : ClassId × (Nat → Nat), ∀ q, mmCl[k]? = some q → u_Kn s q.1 q.2.1 q.2.2 p.1 p.2 := by
    intro k
    match k with
    | 0 => exact kn_one (n := 4) hts cf_0 (by decide +kernel)
    | 1 => exact kn_one (n := 3) hts cf_1 (by decide +kernel)
    | 2 => exact kn_one (n := 3) hts cf_2 (by decide +kernel)
    | 3 => exact kn_one (n := 3) hts cf_3 (by decide +kernel)
    | 4 => exact kn_one (n := 6) hts cf_4 (by decide +kernel)
    | 5 => exact kn_one (n := 7) hts cf_5 (by decide +kernel)
    | 6 => exact kn_one (n := 9) hts cf_6 (by decide +kernel)
    | 7 => exact kn_one (n := 9) hts cf_7 (by decide +kernel)
    | 8 => exact kn_one (n := 7) hts cf_8 (by decide +kernel)
    | 9 => exact kn_one (n := 10) hts cf_9 (by decide +kernel)
    | 10 => exact kn_one (n := 4) hts cf_10 (by decide +kernel)
    | k + 11 => exact ⟨(0, fun _ => 0), fun q hq => by cases hq⟩
  obtain ⟨f, hf⟩ := Classical.axiomOfChoice h
  exact ⟨(fun k => (f k).1, fun k => (f k).2), hf⟩
theorem k_ot (hts : ∀ w ∈ lw_tbl, w.before args s = true) : ∀ w ∈ tables_1, isOt w = true → va_Nw w s := fun w hw ho => by
  have h := hts w (List.mem_append_right _ hw)
  refine va_Nw.of ?_ h
  cases w with
  | declares x => rfl
  | castable a b => rfl
  | methodLinkNest a i x h => rfl
  | fieldLinkNest a i b n d h => rfl
  | _ => cases ho
theorem k_nc (hts : ∀ w ∈ lw_tbl, w.before args s = true) (h : ∀ q ∈ gNc, (Cond.not (.castable q.1 q.2)).before args s = true) : ∀ q ∈ gNc, va_Nc q.1 q.2 s := fun q hq => va_Nc.of (h q hq)
theorem k_ao (hts : ∀ w ∈ lw_tbl, w.before args s = true) : ∀ j, 5 ≤ j → j < 10 → ∀ C, mmTy j = .object C → va_AO C s := by
  intro j h1 h2 C hC
  have key : Cond.arrayOver (.object C) ∈ lw_tbl := by
    match j, h1, h2, hC with
    | 5, _, _, hC => cases hC; decide +kernel
    | 6, _, _, hC => cases hC; decide +kernel
    | 7, _, _, hC => cases hC; decide +kernel
    | 8, _, _, hC => cases hC; decide +kernel
    | 9, _, _, hC => cases hC; decide +kernel
  exact va_AO.of (hts _ key)
end KNOWN
