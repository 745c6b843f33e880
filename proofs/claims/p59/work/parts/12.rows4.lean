/-! 'throw new E("text")' -/
theorem Mm.keep {G : mgT} {μ : mmT} {H H1 : Heap} (hM : Mm G μ H) (z : H.size ≤ H1.size) (oq : ∀ q : Nat, q < H.size → H1[q]? = H[q]?) : Mm G μ H1 := by
  intro a ha
  obtain ⟨k1, k2, k3, k4⟩ := hM a ha
  refine ⟨k1, by omega, fun ci h hc => ?_, fun j h => ?_⟩
  · obtain ⟨r, r1, r2⟩ := k3 ci h hc
    exact ⟨r, r1, r2.kept (oq a k2)⟩
  · obtain ⟨r1, r2⟩ := k4 j h
    exact ⟨r1, by rw [oq a k2]; exact r2⟩
abbrev mzNm : List String := ["java/lang/RuntimeException", "java/lang/Exception"]
def mzX (own : String) (ik ic : Nat) (cls : String) : Prop := Bundle.fit cls = true ∧ (∀ n ∈ mzNm, Bundle.fit n = true) ∧ Cond.classLink own ik cls ∈ TT ∧ Cond.initialized cls ∈ TT ∧ (∀ w ∈ vx_atS own ic cls mzNm, w ∈ TT ∨ (w ∈ tables_1 ∧ isOt w = true)) ∧ (∀ w ∈ vx_atS own ic cls mzNm, vx_ot w = true)
theorem mz_atS {L : List Cond} (h : L.all (fun w => (goodWord w || isOt w) && decide (w ∈ lw_tbl)) = true) : ∀ w ∈ L, w ∈ TT ∨ (w ∈ lw_tbl ∧ isOt w = true) := by
  intro w hw
  have h1 := List.all_eq_true.mp h w hw
  simp only [Bool.and_eq_true, Bool.or_eq_true, decide_eq_true_eq] at h1
  rcases h1.1 with g | g
  · exact Or.inl (List.mem_filter.mpr ⟨List.mem_append_right _ h1.2, g⟩)
  · exact Or.inr ⟨h1.2, g⟩
theorem isOt_tbl {w : Cond} (h : isOt w = true) (hm : w ∈ lw_tbl) : w ∈ tables_1 := by
  rcases List.mem_append.mp hm with q | q
  · obtain ⟨x, -, rfl⟩ := List.mem_map.mp q
    cases h
  · exact q
theorem mz_mkX {own cls : String} {ik ic : Nat} (h1 : Bundle.fit cls = true) (h2 : ∀ n ∈ mzNm, Bundle.fit n = true) (h3 : Cond.classLink own ik cls ∈ TT) (h4 : Cond.initialized cls ∈ TT) (h5 : (vx_atS own ic cls mzNm).all (fun w => (goodWord w || isOt w) && decide (w ∈ lw_tbl)) = true) (h6 : (vx_atS own ic cls mzNm).all vx_ot = true) : mzX own ik ic cls :=
  ⟨h1, h2, h3, h4, fun w hw => (mz_atS h5 w hw).imp id (fun q => ⟨isOt_tbl q.2 q.1, q.2⟩), List.all_eq_true.mp h6⟩
section MROWS4
variable {p : Program} {l : Launch} {e : Env} {R : Room} {s : State} {m : MethodId} {args : Array Value} {below : List Frame} {meth : Method} {c : Code} {H : Heap} {locs : List Loc} {cells slots : Nat} {Q : State → Prop}
variable {cc : ByteArray} {pc : Nat} {ls : Array Slot} {rest st0 : List Value} {a nL : Nat} {own : String} {G : mgT} {μ : mmT} {post : Option Value → mmT → Prop} {px : String → mmT → Prop}
theorem mz_throw (S : CallFix p m c cc nL s args TT own) (hl : l.stackTraces = false) (hG : GK G s s.heap) (hM : Mm G μ H) (hS : va_S (Ah G) s.heap H locs) (hex : ∀ x ∈ c.exceptionTable.toList, False) (hlk : meth.locks = false) (hsz : ls.size = nL) {ik ic is j mc ms : Nat} {cls text : String} (x : mzX own ik ic cls) (hj : gStr[j]? = some (own, is, text))
    (d0 : decode cc pc = .ok (.new ik, 3)) (d3 : decode cc (pc + 3) = .ok (.dup, 1)) (d4 : decode cc (pc + 4) = .ok (.ldc is, 2)) (d6 : decode cc (pc + 6) = .ok (.invokespecial ic, 3)) (d9 : decode cc (pc + 9) = .ok (.athrow, 1))
    (hRf : 5 < R.frames) (hRl : (rest.map fun v => v.category).sum + 82 ≤ R.locals) (hRc : cells + 1 ≤ R.cells) (hRs : slots + 6 ≤ R.slots) (hc : cells + 1 ≤ mc) (hs : slots + 6 ≤ ms) (hp : px cls μ) :
    W p l e R s m args below meth c H locs cells slots (vx_MQ below (mQ G post) (mX G px) args s mc ms (Ah G)) (F0 m pc ls rest) := by
  obtain ⟨x1, x2, x3, x4, x5, x6⟩ := x
  have hts : ∀ w ∈ TT, w.before args s = true := fun w h => S.2.2.2.2 w h
  refine vx_throwS (names := mzNm) (A := Ah G) (sa := gS G j) S.1 S.2.1 hl S.2.2.2.1 x1 x2 (hts _ x3) (hts _ x4) (hG.2.2.2.2.2.1 j _ hj) (fun w hw => ?_) (fun w hw => ?_) hG.2.2.2.2.1.1 hG.2.2.2.2.1.2 hS (hsz.trans S.2.2.1.symm) d0 d3 d4 d6 d9 (fun x hx => (hex x hx).elim) hRf hRl hRc hRs hlk (fun t hvm hsz hq => ?_) hS.2.2 hc hs
  · rcases x5 w hw with h | ⟨h, ho⟩
    · exact hts _ h
    · have hz := hG.2.1 w h ho
      cases w with
      | declares x => exact va_Nw.use rfl hz
      | castable a b => exact va_Nw.use rfl hz
      | methodLinkNest a i x h => exact va_Nw.use rfl hz
      | fieldLinkNest a i b n d h => exact va_Nw.use rfl hz
      | _ => cases ho
  · rcases List.mem_cons.mp hw with h | h
    · rw [h]; rfl
    · rcases List.mem_cons.mp h with h | h
      · rw [h]; rfl
      · exact x6 w h
  · exact ⟨μ, hp, hM.keep hsz hq, ⟨Nat.le_trans hS.1 hsz, fun q h1 h2 => (hq q (Nat.lt_of_lt_of_le h1 hS.1)).trans (hS.2.1 q h1 h2)⟩⟩
end MROWS4
