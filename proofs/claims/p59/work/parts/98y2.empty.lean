/-! THE MEMORY BEFORE THE LAW -/
def mu0 : mmT := (fun _ => 0, fun _ => 0, fun _ _ => 0, fun _ _ => none, fun _ _ => 0, fun _ _ => none, fun _ _ => 0, fun _ _ => 0)
theorem Mm_0 {G : mgT} {H : Heap} : Mm G mu0 H := fun _ h => absurd rfl h
theorem M39_0 : M39 mu0 := fun _ h => absurd (show 0 = 39 from h) (by decide)
/-- a private method of a class above: it is selected on an object of the class below (y2: another method of the class above, of which the tables say so) -/
theorem sel_above {C : String} {y y2 : MethodName} {s : State} {args : Array Value} {n : Nat} (hy : y.cls ≠ "java/lang/invoke/MethodHandle" ∧ y.cls ≠ "java/lang/invoke/VarHandle") (h2 : y2.cls = y.cls)
    (hins : (Cond.instantiable C n).before args s = true) (hpriv : (Cond.privateMethod y).before args s = true) (hinst : (Cond.instanceMethod y).before args s = true) (hinst2 : (Cond.instanceMethod y2).before args s = true) (hsel2 : (Cond.selects C y2 y2).before args s = true) :
    (Cond.selects C y y).before args s = true := by
  obtain ⟨c, k, hc, hk, -, hniab, -, -⟩ := Cond.instantiable_spec hins
  have hni : k.isInterface = false := (Bool.or_eq_false_iff.mp hniab).1
  obtain ⟨mk, methM, hnamed, hmethM, -, -⟩ := Cond.instanceMethod_spec hinst
  obtain ⟨mk2, methM2, hnamed2, hmethM2, -, -⟩ := Cond.instanceMethod_spec hinst2
  have hfound : s.methodFound? y.cls y.name y.desc = some mk := State.methodFound?_of_named hnamed hy
  have hfound2 : s.methodFound? y2.cls y2.name y2.desc = some mk2 := State.methodFound?_of_named hnamed2 (by rw [h2]; exact hy)
  have hcls : mk2.cls = mk.cls := Option.some.inj ((findClass_of_methodNamed hnamed2).symm.trans (by rw [h2]; exact findClass_of_methodNamed hnamed))
  have hsel : selectMethod {} s.vm c mk = .method mk := selectMethod_private hmethM (Cond.privateMethod_at hpriv mk methM hnamed hmethM)
  simp only [Cond.before, Cond.holds, Cond.value, hc, hfound2, hnamed2, hcls] at hsel2
  simp only [Cond.before, Cond.holds, Cond.value, hc, hfound, hnamed, hsel, hk]
  simp
  simp at hsel2
  split at hsel2
  · exact ((Bool.and_eq_true _ _).mp hsel2).2
  · exact absurd hsel2 (by decide)
theorem xtra_ok {args : Array Value} {s : State} (hts : ∀ w ∈ lw_tbl, w.before args s = true) : ∀ w ∈ xtraW, w.before args s = true := by
  have key : ∀ y : MethodName, y.cls = "java/lang/AbstractStringBuilder" → Cond.privateMethod y ∈ lw_tbl → Cond.instanceMethod y ∈ lw_tbl → (Cond.selects RJ4 y y).before args s = true := fun y e h1 h2 =>
    sel_above (y2 := ⟨"java/lang/AbstractStringBuilder", "isLatin1", "()Z"⟩) (n := 4) ⟨by rw [e]; decide +kernel, by rw [e]; decide +kernel⟩ e.symm (hts _ (by decide +kernel)) (hts _ h1) (hts _ h2) (hts _ (by decide +kernel)) (hts _ (by decide +kernel))
  exact List.forall_mem_cons.mpr ⟨key _ rfl (by decide +kernel) (by decide +kernel), List.forall_mem_cons.mpr ⟨key _ rfl (by decide +kernel) (by decide +kernel), List.forall_mem_cons.mpr ⟨key _ rfl (by decide +kernel) (by decide +kernel), fun _ h => absurd h List.not_mem_nil⟩⟩⟩
theorem TT_hts {args : Array Value} {s : State} (hts : ∀ w ∈ lw_tbl, w.before args s = true) : ∀ w ∈ TT, w.before args s = true := fun w hw => by
  rcases List.mem_append.mp (List.mem_filter.mp hw).1 with q | q
  · exact xtra_ok hts w q
  · exact hts w q
