section MFLOAT
variable {l : Launch} {G : mgT} {μ : mmT} {y : MethodName} {cc : ByteArray} {maxL : Nat} {ret : Option FieldType} {rm : Room} {av : List Value} {post : Option Value → mmT → Prop}
/-- as mz_MC, for a method of a class that also has native ones -/
theorem mz_MCF (hy : plainFor y = true) (hav : (lg_sl av).length ≤ maxL)
    (body : ∀ (p : Program) (e : Env) (s : State) (m : MethodId) (args : Array Value) (below : List Frame) (meth : Method) (c : Code), CallFix p m c cc maxL s args TT y.cls → GK G s s.heap → meth.sig.returnType = ret → meth.locks = false → meth.name = y.name →
      ∀ (H : Heap) (locs : List Loc) (ls : Array Slot), Mm G μ H → va_S (Ah G) s.heap H locs → lv_has ls maxL (lv_args 0 av) → W p l e rm s m args below meth c H locs 0 0 (MQ below (mQ G post) args s rm.cells rm.slots (Ah G)) (F0 m 0 ls [])) : MC G l y cc maxL ret rm av μ post := by
  unfold MC Met
  refine MetFree.of_bodySF (code := cc) (maxLocals := maxL) (ret := ret) hy ?_ ?_
  · intro args s m h hn
    obtain ⟨meth, c, h1, h2, h3, h4, h5, h6, -, -⟩ := Cond.code_spec hn (atoms_spec (ws := Cond.code y cc maxL ret :: TT) h _ List.mem_cons_self)
    exact ⟨meth, c, h1, h2, h3, h4, h5, h6⟩
  · intro p e s m args below meth c s₁ B hml hv _
    have hh0 : s₁.heap = s.heap := by rw [B.state]; rfl
    obtain ⟨rfl, hG, hM⟩ := hv
    have hts := atoms_spec (ws := Cond.code y cc maxL ret :: TT) B.pre
    have hown : s.vm.findClass y.cls = some m.cls := findClass_of_methodNamed B.named
    have hl := lv_entry av (n := maxL) hav
    obtain ⟨t, a1, o, b1, b2, b3⟩ := (by
      rw [lg_entry_eq]
      exact body p e s m _ below meth c ⟨B.exec, B.bytes, hml, hown, fun w h => hts w (List.mem_cons_of_mem _ h)⟩ hG B.returns B.notSynchronized (name_of_methodNamed B.named B.method).1 s.heap [] _ hM va_S.rf hl :
      W p l e rm s m _ below meth c s.heap [] 0 0 (MQ below (mQ G post) _ s rm.cells rm.slots (Ah G)) (entryFrame m _ maxL)) s₁ hh0 (Stand.of_body B)
    exact ⟨t, o, a1, b1, b2, ⟨b3.1, b3.2⟩⟩
end MFLOAT
