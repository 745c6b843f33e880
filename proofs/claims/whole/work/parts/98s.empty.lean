/-! THE MEMORY BEFORE THE LAW -/
def mu0 : mmT := (fun _ => 0, fun _ => 0, fun _ _ => 0, fun _ _ => none, fun _ _ => 0, fun _ _ => none, fun _ _ => 0, fun _ _ => 0)
theorem Mm_0 {G : mgT} {H : Heap} : Mm G mu0 H := fun _ h => absurd rfl h
theorem M39_0 : M39 mu0 := fun _ h => absurd (show 0 = 39 from h) (by decide)
