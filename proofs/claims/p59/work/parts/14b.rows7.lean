/-! THE GIVEN THINGS, CALLS OF OTHER KINDS -/
theorem gPat_lt (j : Nat) : gPat j < 37 := by
  unfold gPat
  match j with
  | 0 => decide
  | 1 => decide
  | 2 => decide
  | 3 => decide
  | 4 => decide
  | 5 => decide
  | 6 => decide
  | 7 => decide
  | 8 => decide
  | j + 9 => exact (by decide : (0 : Nat) < 37)
section MGK
variable {G : mgT} {s : State} {args : Array Value}
theorem GK.cast (hG : GK G s s.heap) {i : Nat} {a b : String} (h : tables_1[i]? = some (Cond.castable a b)) : (Cond.castable a b).before args s = true := va_Nw.use rfl (hG.2.1 _ (List.mem_of_getElem? h) rfl)
theorem GK.nc (hG : GK G s s.heap) {a b : String} (h : (a, b) ∈ gNc) : va_Nc a b s := hG.2.2.2.1 (a, b) h
theorem GK.txt (hG : GK G s s.heap) (j : Nat) (h : j < 37) : mzS G j s s.heap := hG.2.2.2.2.2.2.1 j h
theorem GK.pat (hG : GK G s s.heap) (j : Nat) (h : j < 9) : va_OF "CrowMail$Form" "pattern" "Ljava/lang/String;" (.ref (gS G (gPat j))) (gE G j) (Ah G) s s.heap := hG.2.2.2.2.2.2.2.1.2 j h
theorem GK.enz (hG : GK G s s.heap) (j : Nat) (h : j < 9) : va_Z "CrowMail$Form" (gNm.getD j "") "LCrowMail$Form;" (.ref (gE G j)) (Ah G) s s.heap := (hG.2.2.2.2.2.2.2.1.1.1 j h).1
theorem GK.eno (hG : GK G s s.heap) (j : Nat) (h : j < 9) : va_O "CrowMail$Form" (gE G j) (Ah G) s s.heap := (hG.2.2.2.2.2.2.2.1.1.1 j h).2.1
theorem GK.ord (hG : GK G s s.heap) (j : Nat) (h : j < 9) : va_OF "java/lang/Enum" "ordinal" "I" (.int (gOrd.getD j 0)) (gE G j) (Ah G) s s.heap := (hG.2.2.2.2.2.2.2.1.1.1 j h).2.2 _ List.mem_cons_self
theorem GK.forms (hG : GK G s s.heap) : va_Z "CrowMail" "FORMS" "[LCrowMail$Form;" (.ref (gX G 0)) (Ah G) s s.heap ∧ va_T (.object "CrowMail$Form") (gX G 0) 9 (fun i => .ref (gE G i)) (Ah G) s s.heap := hG.2.2.2.2.2.2.2.2.1
theorem GK.sw (hG : GK G s s.heap) : va_Z "CrowMail$1" "$SwitchMap$CrowMail$Form" "[I" (.ref (gX G 1)) (Ah G) s s.heap ∧ va_T .int (gX G 1) 9 (fun i => .int (gSw i)) (Ah G) s s.heap := hG.2.2.2.2.2.2.2.2.2.1
theorem GK.one (hG : GK G s s.heap) : va_Z "java/lang/Integer" "DigitOnes" "[B" (.ref (gX G 2)) (Ah G) s s.heap ∧ va_T .byte (gX G 2) 100 (fun i => .int (gOne i)) (Ah G) s s.heap := hG.2.2.2.2.2.2.2.2.2.2.2.1
theorem GK.ten (hG : GK G s s.heap) : va_Z "java/lang/Integer" "DigitTens" "[B" (.ref (gX G 3)) (Ah G) s s.heap ∧ va_T .byte (gX G 3) 100 (fun i => .int (gTen i)) (Ah G) s s.heap := hG.2.2.2.2.2.2.2.2.2.2.2.2.1
theorem GK.sio (hG : GK G s s.heap) : va_Z "jdk/internal/util/Preconditions" "SIOOBE_FORMATTER" "Ljava/util/function/BiFunction;" (va_rf (gF G)) (Ah G) s s.heap := hG.2.2.2.2.2.2.2.2.2.2.2.2.2.1
theorem GK.scr (hG : GK G s s.heap) : va_T .int (gX G 5) (gX G 6) (fun i => .int (gQ G i)) (Ah G) s s.heap := hG.2.2.2.2.2.2.2.2.2.2.2.2.2.2.1
theorem GK.low (hG : GK G s s.heap) : gh G ≤ s.heap.size := hG.2.2.2.2.2.2.2.2.2.2.2.2.2.2.2
theorem GK.at0 (hG : GK G s s.heap) (ci : Nat) (h : ci < 11) : ∃ r, mmCl[ci]? = some r ∧ ClassAt s r.1 ((gD G).1 ci) := by
  obtain ⟨r, hr⟩ : ∃ r, mmCl[ci]? = some r := ⟨_, List.getElem?_eq_getElem (by exact h)⟩
  exact ⟨r, hr, (hG.1.1 ci _ hr).2⟩
end MGK
theorem mz_recvO {G : mgT} {s : State} {H : Heap} {locs : List Loc} {E : String} {t : Nat} (hO : va_O E t (Ah G) s s.heap) (hS : va_S (Ah G) s.heap H locs) : ∃ cellB : Cell, H[t]? = some cellB ∧ cellB.vm.isStatics = false ∧ s.vm.findClass E = some cellB.cls := by
  obtain ⟨cell, h1, h2, h3, h4⟩ := hO
  exact ⟨cell, by rw [hS.2.1 t (Array.getElem?_eq_some_iff.mp h1).1 h4]; exact h1, h2, h3⟩
/-- a private method is selected for an object of a class below, whatever it is -/
theorem mz_selP {s : State} {args : Array Value} {C : String} {y0 y : MethodName} (h0 : (Cond.selects C y0 y0).before args s = true) (hc : y.cls = y0.cls) (hy : y.cls ≠ "java/lang/invoke/MethodHandle" ∧ y.cls ≠ "java/lang/invoke/VarHandle") (hpriv : (Cond.privateMethod y).before args s = true) (hinst : (Cond.instanceMethod y).before args s = true) : (Cond.selects C y y).before args s = true := by
  obtain ⟨mk, methM, hnamed, hmethM, -, -⟩ := Cond.instanceMethod_spec hinst
  have hfound : s.methodFound? y.cls y.name y.desc = some mk := State.methodFound?_of_named hnamed hy
  have hcls : s.vm.findClass y.cls = some mk.cls := findClass_of_methodNamed hnamed
  simp only [Cond.before, Cond.holds, Cond.value] at h0 ⊢
  cases hC : s.vm.findClass C with
  | none => simp [hC] at h0
  | some c =>
    cases hF : s.methodFound? y0.cls y0.name y0.desc with
    | none => simp [hC, hF] at h0
    | some r =>
      cases hN : s.methodNamed? y0 with
      | none => simp [hC, hF, hN] at h0
      | some m0 =>
        have hc0 : s.vm.findClass y0.cls = some m0.cls := findClass_of_methodNamed hN
        have e : mk.cls = m0.cls := Option.some.inj ((hcls.symm.trans (by rw [hc])).trans hc0)
        have hsel : selectMethod {} s.vm c mk = .method mk := selectMethod_private hmethM (Cond.privateMethod_at hpriv mk methM hnamed hmethM)
        simp only [hC, hF, hN] at h0
        simp only [hfound, hnamed, hsel, e]
        cases hq : selectMethod {} s.vm c r with
        | method m' =>
          simp only [hq] at h0
          have h9 : (s.vm.classes[m0.cls]?).any (!·.isInterface) = true := by
            revert h0
            cases (s.vm.classes[m0.cls]?).any (!·.isInterface) <;> simp
          simp [h9]
        | _ => simp [hq] at h0
section MROWS7
variable {p : Program} {l : Launch} {e : Env} {R : Room} {s : State} {m : MethodId} {args : Array Value} {below : List Frame} {meth : Method} {c : Code} {H : Heap} {locs : List Loc} {cells slots : Nat} {Q : State → Prop}
variable {cc : ByteArray} {pc : Nat} {ls : Array Slot} {rest st0 : List Value} {a nL : Nat} {own : String} {G : mgT} {μ : mmT}
variable {y : MethodName} {bytes : ByteArray} {maxL n index : Nat} {ret : Option FieldType} {rm : Room} {av As : List Value} {b : Nat} {post : Option Value → mmT → Prop} {px : String → mmT → Prop}
theorem mz_formsA (S : CallFix p m c cc nL s args TT own) (hG : GK G s s.heap) (hS : va_S (Ah G) s.heap H locs) {i : Int32} (e0 : a = gX G 0) (hin : vp_in i 9) (hd : decode cc pc = .ok (.aaload, 1))
    (kk : W p l e R s m args below meth c H locs cells slots Q (F0 m (pc + 1) ls (.ref (gE G i.toNatClampNeg) :: rest))) : W p l e R s m args below meth c H locs cells slots Q (F0 m pc ls (.int i :: .ref a :: rest)) := by
  subst e0
  exact vb_tq S.1 S.2.1 hG.forms.2 hS hin rfl hd kk
theorem mz_formsL (S : CallFix p m c cc nL s args TT own) (hG : GK G s s.heap) (hS : va_S (Ah G) s.heap H locs) (e0 : a = gX G 0) (hd : decode cc pc = .ok (.arraylength, 1))
    (kk : W p l e R s m args below meth c H locs cells slots Q (F0 m (pc + 1) ls (.int (nI 9) :: rest))) : W p l e R s m args below meth c H locs cells slots Q (F0 m pc ls (.ref a :: rest)) := by
  subst e0
  exact va_tlen S.1 S.2.1 hG.forms.2 hS rfl hd kk
/-- the bytes of a text -/
theorem mz_txtL (S : CallFix p m c cc nL s args TT own) (hG : GK G s s.heap) (hS : va_S (Ah G) s.heap H locs) {j : Nat} (hj : j < 37) (e0 : a = gV G j) (hd : decode cc pc = .ok (.arraylength, 1))
    (kk : W p l e R s m args below meth c H locs cells slots Q (F0 m (pc + 1) ls (.int (nI (gLen.getD j 0)) :: rest))) : W p l e R s m args below meth c H locs cells slots Q (F0 m pc ls (.ref a :: rest)) := by
  subst e0
  exact va_tlen S.1 S.2.1 (hG.txt j hj).2.2.2 hS rfl hd kk
theorem mz_txtA (S : CallFix p m c cc nL s args TT own) (hG : GK G s s.heap) (hS : va_S (Ah G) s.heap H locs) {j : Nat} (hj : j < 37) (e0 : a = gV G j) {i : Int32} (hin : vp_in i (gLen.getD j 0)) (hd : decode cc pc = .ok (.baload, 1))
    (kk : W p l e R s m args below meth c H locs cells slots Q (F0 m (pc + 1) ls (.int ((gByt.getD j []).getD i.toNatClampNeg 0) :: rest))) : W p l e R s m args below meth c H locs cells slots Q (F0 m pc ls (.int i :: .ref a :: rest)) := by
  subst e0
  exact va_tb S.1 S.2.1 (hG.txt j hj).2.2.2 hS hin rfl hd kk
/-- a constructor that makes no cell, and a nest mate's -/
theorem mz_IC (S : CallFix p m c cc nL s args TT own) (hG : GK G s s.heap) (hM : Mm G μ H) (hS : va_S (Ah G) s.heap H locs) (hc : MC G l y bytes maxL none rm (.ref b :: As) μ post) (yf : mzY y bytes maxL none n) (hy1 : y.name = "<init>")
    (w1 : Cond.methodLink own index y ∈ TT) (w2 : Cond.instanceMethod y ∈ TT) (hR : rm.frames + 1 ≤ R.frames ∧ 8 + (maxL + 11) + rm.locals ≤ R.locals) (hf : cells + rm.cells ≤ R.cells ∧ slots + rm.slots ≤ R.slots) (hn : As.length = n) (hsize : ls.size = nL) (hst : st0 = As.reverse ++ .ref b :: rest) (hW : (rest.map fun v => v.category).sum ≤ 8) (hd : decode cc pc = .ok (.invokespecial index, 3))
    (kk : ∀ (v : Option Value) (μ' : mmT) (H1 : Heap) (locs1 : List Loc), post v μ' → Mm G μ' H1 → va_S (Ah G) s.heap H1 locs1 → W p l e R s m args below meth c H1 locs1 (cells + rm.cells) (slots + rm.slots) Q (F0 m (pc + 3) ls (v.toList ++ rest))) : W p l e R s m args below meth c H locs cells slots Q (F0 m pc ls st0) :=
  mz_run (va_runI S hc ⟨mz_callB S yf w1 hR, hy1, S.2.2.2.2 _ w2⟩ ⟨mP_blind, mz_pre hG hM hS⟩ rfl hn hsize hst (lv_room hW) hd hf) hS kk
theorem mz_ICN (S : CallFix p m c cc nL s args TT own) (hG : GK G s s.heap) (hM : Mm G μ H) (hS : va_S (Ah G) s.heap H locs) {host : String} (hc : MC G l y bytes maxL none rm (.ref b :: As) μ post) (yf : mzY y bytes maxL none n) (hy1 : y.name = "<init>")
    (w1 : Cond.methodLinkNest own index y host ∈ tables_1) (w2 : Cond.instanceMethod y ∈ TT) (hR : rm.frames + 1 ≤ R.frames ∧ 8 + (maxL + 11) + rm.locals ≤ R.locals) (hf : cells + rm.cells ≤ R.cells ∧ slots + rm.slots ≤ R.slots) (hn : As.length = n) (hsize : ls.size = nL) (hst : st0 = As.reverse ++ .ref b :: rest) (hW : (rest.map fun v => v.category).sum ≤ 8) (hd : decode cc pc = .ok (.invokespecial index, 3))
    (kk : ∀ (v : Option Value) (μ' : mmT) (H1 : Heap) (locs1 : List Loc), post v μ' → Mm G μ' H1 → va_S (Ah G) s.heap H1 locs1 → W p l e R s m args below meth c H1 locs1 (cells + rm.cells) (slots + rm.slots) Q (F0 m (pc + 3) ls (v.toList ++ rest))) : W p l e R s m args below meth c H locs cells slots Q (F0 m pc ls st0) :=
  mz_run (va_runIN S hc ⟨⟨⟨rfl, rfl, hR.1, hR.2, pay_in S.2.2.2.2 (TT_g yf.1), List.mem_cons_self⟩, S.2.2.2.2 _ yf.1, S.2.2.2.2 _ yf.2.1, yf.2.2.1, mz_sigs yf.2.2.2, va_Nw.use rfl (hG.2.1 _ w1 rfl)⟩, hy1, S.2.2.2.2 _ w2⟩ ⟨mP_blind, mz_pre hG hM hS⟩ rfl hn hsize hst (lv_room hW) hd hf) hS kk
/-- super.m(..) -/
theorem mz_SU (S : CallFix p m c cc nL s args TT own) (hG : GK G s s.heap) (hM : Mm G μ H) (hS : va_S (Ah G) s.heap H locs) {ci N : Nat} {C : String} {T : u_T} {ty : Nat → FieldType} (f : mzC ci C T N ty) (hb : mK μ b = ci + 1) (hc : MC G l y bytes maxL ret rm (.ref b :: As) μ post) (yf : mzY y bytes maxL ret n)
    (w1 : Cond.methodLink own index y ∈ TT) (w2 : Cond.sameMethod y.cls y.cls y.name y.desc ∈ TT) (w3 : Cond.superclass own y.cls ∈ TT) (w4 : Cond.instanceMethod y ∈ TT) (hno : y.name ≠ "<init>") (hR : rm.frames + 1 ≤ R.frames ∧ 8 + (maxL + 11) + rm.locals ≤ R.locals) (hf : cells + rm.cells ≤ R.cells ∧ slots + rm.slots ≤ R.slots) (hn : As.length = n) (hsize : ls.size = nL) (hst : st0 = As.reverse ++ .ref b :: rest) (hW : (rest.map fun v => v.category).sum ≤ 8) (hd : decode cc pc = .ok (.invokespecial index, 3))
    (kk : ∀ (v : Option Value) (μ' : mmT) (H1 : Heap) (locs1 : List Loc), post v μ' → Mm G μ' H1 → va_S (Ah G) s.heap H1 locs1 → W p l e R s m args below meth c H1 locs1 (cells + rm.cells) (slots + rm.slots) Q (F0 m (pc + 3) ls (v.toList ++ rest))) : W p l e R s m args below meth c H locs cells slots Q (F0 m pc ls st0) :=
  mz_run (va_runSU (hG.1.1 ci _ f.2.1).2 S hc ⟨⟨rfl, rfl, hR.1, hR.2, pay_in S.2.2.2.2 (TT_g yf.1), List.mem_cons_self⟩, S.2.2.2.2 _ w1, S.2.2.2.2 _ w2, S.2.2.2.2 _ w3, S.2.2.2.2 _ w4, S.2.2.2.2 _ yf.2.1, S.2.2.2.2 _ yf.1, hno, mz_sigs yf.2.2.2⟩ ⟨mP_blind, mz_recv hG hM f hb, mz_pre hG hM hS⟩ rfl hn hsize hst (lv_room hW) hd hf) hS kk
/-- a virtual call on a receiver of a known class -/
theorem mz_V0 (S : CallFix p m c cc nL s args TT own) (hG : GK G s s.heap) (hM : Mm G μ H) (hS : va_S (Ah G) s.heap H locs) {C : String} (hO : ∃ cellB : Cell, H[b]? = some cellB ∧ cellB.vm.isStatics = false ∧ s.vm.findClass C = some cellB.cls) (hc : MC G l y bytes maxL ret rm (.ref b :: As) μ post) (yf : mzY y bytes maxL ret n)
    (w1 : Cond.methodLink own index y ∈ TT) (w2 : Cond.instanceMethod y ∈ TT) (w3 : (Cond.selects C y y).before args s = true) (hR : rm.frames + 1 ≤ R.frames ∧ 8 + (maxL + 11) + rm.locals ≤ R.locals) (hf : cells + rm.cells ≤ R.cells ∧ slots + rm.slots ≤ R.slots) (hn : As.length = n) (hsize : ls.size = nL) (hst : st0 = As.reverse ++ .ref b :: rest) (hW : (rest.map fun v => v.category).sum ≤ 8) (hd : decode cc pc = .ok (.invokevirtual index, 3))
    (kk : ∀ (v : Option Value) (μ' : mmT) (H1 : Heap) (locs1 : List Loc), post v μ' → Mm G μ' H1 → va_S (Ah G) s.heap H1 locs1 → W p l e R s m args below meth c H1 locs1 (cells + rm.cells) (slots + rm.slots) Q (F0 m (pc + 3) ls (v.toList ++ rest))) : W p l e R s m args below meth c H locs cells slots Q (F0 m pc ls st0) :=
  mz_run (va_runV S hc ⟨mz_callB S yf w1 hR, S.2.2.2.2 _ w2, w3⟩ ⟨mP_blind, hO, mz_pre hG hM hS⟩ rfl hn hsize hst (lv_room hW) hd hf) hS kk
/-- an inherited method, called by the name of the class below -/
theorem mz_U (S : CallFix p m c cc nL s args TT own) (hG : GK G s s.heap) (hM : Mm G μ H) (hS : va_S (Ah G) s.heap H locs) {C : String} {x : MethodName} (hO : ∃ cellB : Cell, H[b]? = some cellB ∧ cellB.vm.isStatics = false ∧ s.vm.findClass C = some cellB.cls) (hc : MC G l y bytes maxL ret rm (.ref b :: As) μ post) (yf : mzY y bytes maxL ret n) (hxy : y = ⟨y.cls, x.name, x.desc⟩)
    (w1 : Cond.methodLink own index x ∈ TT) (w4 : Cond.sameMethod x.cls y.cls x.name x.desc ∈ TT) (w2 : Cond.instanceMethod y ∈ TT) (w3 : Cond.selects C x y ∈ TT) (hR : rm.frames + 1 ≤ R.frames ∧ 8 + (maxL + 11) + rm.locals ≤ R.locals) (hf : cells + rm.cells ≤ R.cells ∧ slots + rm.slots ≤ R.slots) (hn : As.length = n) (hsize : ls.size = nL) (hst : st0 = As.reverse ++ .ref b :: rest) (hW : (rest.map fun v => v.category).sum ≤ 8) (hd : decode cc pc = .ok (.invokevirtual index, 3))
    (kk : ∀ (v : Option Value) (μ' : mmT) (H1 : Heap) (locs1 : List Loc), post v μ' → Mm G μ' H1 → va_S (Ah G) s.heap H1 locs1 → W p l e R s m args below meth c H1 locs1 (cells + rm.cells) (slots + rm.slots) Q (F0 m (pc + 3) ls (v.toList ++ rest))) : W p l e R s m args below meth c H locs cells slots Q (F0 m pc ls st0) := by
  have hdesc : y.desc = x.desc := by
    have h9 := congrArg MethodName.desc hxy
    exact h9
  refine mz_run (va_runU (C := C) (owner := y.cls) (x := x) S hc ⟨⟨rfl, rfl, hR.1, hR.2, pay_in S.2.2.2.2 (TT_g yf.1), List.mem_cons_self⟩, S.2.2.2.2 _ yf.1, S.2.2.2.2 _ yf.2.1, yf.2.2.1, mz_sigs (by rw [← hdesc]; exact yf.2.2.2), S.2.2.2.2 _ w1, S.2.2.2.2 _ w4, ?_, S.2.2.2.2 _ w3, S.2.2.2.2 _ w2⟩ ⟨mP_blind, hO, mz_pre hG hM hS⟩ rfl hn hsize hst (lv_room hW) hd hf) hS kk
  rw [← hxy]
  exact va_Decl.of (S.2.2.2.2 _ w2) (S.2.2.2.2 _ yf.1)
/-! methods that catch -/
def mzYH (y : MethodName) (cc : ByteArray) (maxL : Nat) (ret : Option FieldType) (hh : List (Nat × Nat × Nat × Nat)) (n : Nat) : Prop :=
  Cond.codeWith y cc maxL ret hh ∈ TT ∧ Cond.initialized y.cls ∈ TT ∧ (y.cls ≠ "java/lang/invoke/MethodHandle" ∧ y.cls ≠ "java/lang/invoke/VarHandle") ∧ (parseMethodDescriptor y.desc).map (fun d => d.parameters.length) = some n
def MH (G : mgT) (l : Launch) (y : MethodName) (cc : ByteArray) (maxL : Nat) (ret : Option FieldType) (hh : List (Nat × Nat × Nat × Nat)) (rm : Room) (av : List Value) (μ : mmT) (post : Option Value → mmT → Prop) : Prop :=
  Met l y (Cond.codeWith y cc maxL ret hh :: TT) rm (mP G av μ) (mQ G post) rm.cells rm.slots (Ah G)
theorem TT_gH {hh : List (Nat × Nat × Nat × Nat)} (h : Cond.codeWith y bytes maxL ret hh ∈ TT) : GoodIn TT (Cond.codeWith y bytes maxL ret hh :: TT) := fun w hw => by
  rcases List.mem_cons.mp hw with e | e
  · rw [e]; exact ⟨h, TT_ok h⟩
  · exact ⟨e, TT_ok e⟩
theorem mz_SH {hh : List (Nat × Nat × Nat × Nat)} (S : CallFix p m c cc nL s args TT own) (hG : GK G s s.heap) (hM : Mm G μ H) (hS : va_S (Ah G) s.heap H locs) (hc : MH G l y bytes maxL ret hh rm As μ post) (yf : mzYH y bytes maxL ret hh n)
    (w1 : Cond.methodLink own index y ∈ TT) (w2 : Cond.static y ∈ TT) (hR : rm.frames + 1 ≤ R.frames ∧ 8 + (maxL + 11) + rm.locals ≤ R.locals) (hf : cells + rm.cells ≤ R.cells ∧ slots + rm.slots ≤ R.slots) (hn : As.length = n) (hsize : ls.size = nL) (hst : st0 = As.reverse ++ rest) (hW : (rest.map fun v => v.category).sum ≤ 8) (hd : decode cc pc = .ok (.invokestatic index, 3))
    (kk : ∀ (v : Option Value) (μ' : mmT) (H1 : Heap) (locs1 : List Loc), post v μ' → Mm G μ' H1 → va_S (Ah G) s.heap H1 locs1 → W p l e R s m args below meth c H1 locs1 (cells + rm.cells) (slots + rm.slots) Q (F0 m (pc + 3) ls (v.toList ++ rest))) : W p l e R s m args below meth c H locs cells slots Q (F0 m pc ls st0) :=
  mz_run (vx_runSW S hc ⟨⟨rfl, rfl, hR.1, hR.2, pay_in S.2.2.2.2 (TT_gH yf.1), List.mem_cons_self⟩, S.2.2.2.2 _ yf.1, S.2.2.2.2 _ yf.2.1, yf.2.2.1, mz_sigs yf.2.2.2, S.2.2.2.2 _ w1, S.2.2.2.2 _ w2⟩ ⟨mP_blind, mz_pre hG hM hS⟩ rfl hn hsize hst (lv_room hW) hd hf) hS kk
theorem mz_MH {hh : List (Nat × Nat × Nat × Nat)} (hy : plainName y.cls = true) (hav : (lg_sl av).length ≤ maxL)
    (body : ∀ (p : Program) (e : Env) (s : State) (m : MethodId) (args : Array Value) (below : List Frame) (meth : Method) (c : Code), CallFix p m c cc maxL s args TT y.cls → GK G s s.heap → meth.sig.returnType = ret → meth.locks = false → meth.name = y.name → c.exceptionTable.toList = tableOf hh →
      ∀ (H : Heap) (locs : List Loc) (ls : Array Slot), Mm G μ H → va_S (Ah G) s.heap H locs → lv_has ls maxL (lv_args 0 av) → W p l e rm s m args below meth c H locs 0 0 (MQ below (mQ G post) args s rm.cells rm.slots (Ah G)) (F0 m 0 ls [])) : MH G l y cc maxL ret hh rm av μ post := by
  refine va_MetW (hh := hh) (cc := cc) (maxL := maxL) (ret := ret) hy rfl ?_
  intro p e s m args below meth c s₁ B hml hv
  obtain ⟨rfl, hG, hM⟩ := hv
  have hts := atoms_spec (ws := Cond.codeWith y cc maxL ret hh :: TT) B.pre
  have hown : s.vm.findClass y.cls = some m.cls := findClass_of_methodNamed B.named
  have hl := lv_entry av (n := maxL) hav
  have htab : c.exceptionTable.toList = tableOf hh := vx_table (x := y) B (hts _ List.mem_cons_self)
  rw [lg_entry_eq]
  exact body p e s m _ below meth c ⟨B.exec, B.bytes, hml, hown, fun w h => hts w (List.mem_cons_of_mem _ h)⟩ hG B.returns B.notSynchronized (name_of_methodNamed B.named B.method).1 htab s.heap [] _ hM va_S.rf hl
/-- the law's own end -/
theorem mz_lawret {Z : State → Prop} (hgh : gh G = s.heap.size) (hS : va_S (Ah G) s.heap H locs) (hend : ∀ (pc : Nat) (H : Heap) (ls : Array Slot), decode cL_law pc = .ok (.ireturn, 1) → W p l e room_1 s m args below meth c H [] 752906 6831448 Z (F0 m pc ls [.int 1])) (hc : cells ≤ 752906) (hs : slots ≤ 6831448) (hd : decode cL_law pc = .ok (.ireturn, 1)) : W p l e room_1 s m args below meth c H locs cells slots Z (F0 m pc ls [.int (nI 1)]) :=
  W.widen hc hs (va_forget (fun q hq => by
    have h9 : gh G ≤ q.base := hS.2.2 q hq
    rw [hgh] at h9
    exact h9) (hend _ _ _ hd))
end MROWS7
