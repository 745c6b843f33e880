/-! THE START: the given things, put together -/
section GIVEN
variable {s : State} {args : Array Value}
theorem k_K (hts : ∀ w ∈ lw_tbl, w.before args s = true) : ∃ (D : va_G) (f : Nat → ClassId), ∀ G : mgT, gD G = D → gC G = f → va_K (gD G) mmCl (gTy G) s := by
  obtain ⟨D, hD⟩ := kn_all hts
  obtain ⟨f, hf⟩ := ar_all hts
  refine ⟨D, f, fun G e1 e2 => ?_⟩
  rw [e1]
  refine ⟨hD, fun k q hq => ?_⟩
  by_cases h : k < 10
  · rw [gTy_at h, e2] at hq
    cases hq
    exact hf k h
  · have hl : (gTy G).length = 10 := by
      unfold gTy
      rw [List.length_map, List.length_range]
    rw [List.getElem?_eq_none (by omega)] at hq
    cases hq
end GIVEN
