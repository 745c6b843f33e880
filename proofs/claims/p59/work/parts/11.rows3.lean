/-! CALLS, RETURNS, OPENINGS -/
theorem TT_g {y : MethodName} {bytes : ByteArray} {maxL : Nat} {ret : Option FieldType} (h : Cond.code y bytes maxL ret ∈ TT) : GoodIn TT (Cond.code y bytes maxL ret :: TT) := fun w hw => by
  rcases List.mem_cons.mp hw with e | e
  · rw [e]; exact ⟨h, TT_ok h⟩
  · exact ⟨e, TT_ok e⟩
theorem mz_sigs {y : MethodName} {n : Nat} (h : (parseMethodDescriptor y.desc).map (fun d => d.parameters.length) = some n) : ∀ sig, parseMethodDescriptor y.desc = some sig → n = sig.parameters.length := by
  intro sig hs
  rw [hs] at h
  exact (Option.some.inj h).symm
section MROWS3
variable {p : Program} {l : Launch} {e : Env} {R : Room} {s : State} {m : MethodId} {args : Array Value} {below : List Frame} {meth : Method} {c : Code} {H : Heap} {locs : List Loc} {cells slots : Nat} {Q : State → Prop}
variable {cc : ByteArray} {pc : Nat} {ls : Array Slot} {rest st0 : List Value} {a nL : Nat} {own : String} {G : mgT} {μ : mmT}
variable {y : MethodName} {bytes : ByteArray} {maxL n index : Nat} {ret : Option FieldType} {rm : Room} {av As : List Value} {b : Nat} {post : Option Value → mmT → Prop} {px : String → mmT → Prop}
theorem mz_run {mc ms : Nat} {aa : Array Value} (hr : va_Run p l e R s m args below meth c H locs cells slots mc ms (F0 m pc ls st0) rest (mQ G post aa) (Ah G)) (hS : va_S (Ah G) s.heap H locs)
    (kk : ∀ (v : Option Value) (μ' : mmT) (H1 : Heap) (locs1 : List Loc), post v μ' → Mm G μ' H1 → va_S (Ah G) s.heap H1 locs1 → W p l e R s m args below meth c H1 locs1 (cells + mc) (slots + ms) Q (F0 m (pc + 3) ls (v.toList ++ rest))) : W p l e R s m args below meth c H locs cells slots Q (F0 m pc ls st0) := by
  intro T hT X
  obtain ⟨v, st₀, t, T', L, h0, X', hL, e1, e2, ⟨⟨v', u, hv, hp, hb⟩, hF⟩, st⟩ := hr T hT X
  cases hv
  obtain ⟨k1, k2, k3⟩ := vx_keep (A0 := Ah G) h0 e1 hS (fun _ _ h => h) (fun _ h => h) hL hF
  obtain ⟨t2, a1, b1⟩ := kk v u T'.heap (locs ++ L) hp (by rw [e1]; exact hb) k3 T' rfl X'
  exact ⟨t2, st t2 a1, b1⟩
theorem mz_runz {mc ms : Nat} {aa : Array Value} {pz : mmT → Nat → Prop} (hr : va_Run p l e R s m args below meth c H locs cells slots mc ms (F0 m pc ls st0) rest (mQz G pz aa) (Ah G)) (hS : va_S (Ah G) s.heap H locs)
    (kk : ∀ (μ' : mmT) (z : Nat) (H1 : Heap) (locs1 : List Loc), pz μ' z → Mm G μ' H1 → va_S (Ah G) s.heap H1 locs1 → gh G ≤ z → H1.size = z → W p l e R s m args below meth c H1 locs1 (cells + mc) (slots + ms) Q (F0 m (pc + 3) ls rest)) : W p l e R s m args below meth c H locs cells slots Q (F0 m pc ls st0) := by
  intro T hT X
  obtain ⟨v, st₀, t, T', L, h0, X', hL, e1, e2, ⟨⟨u, z, hv, hp, hb, hg, hz⟩, hF⟩, st⟩ := hr T hT X
  cases hv
  obtain ⟨k1, k2, k3⟩ := vx_keep (A0 := Ah G) h0 e1 hS (fun _ _ h => h) (fun _ h => h) hL hF
  obtain ⟨t2, a1, b1⟩ := kk u z T'.heap (locs ++ L) hp (by rw [e1]; exact hb) k3 hg (by rw [e1]; exact hz) T' rfl X'
  exact ⟨t2, st t2 a1, b1⟩
theorem mz_runX {mc ms : Nat} {aa : Array Value} (hr : vx_Run p l e R s m args below meth c H locs cells slots mc ms (F0 m pc ls st0) rest (mQ G post aa) (mX G px) (Ah G)) (hS : va_S (Ah G) s.heap H locs)
    (kx : ∀ (E : String) (ce : Cell) (q : Addr) (μ' : mmT) (H1 : Heap) (locs1 : List Loc), px E μ' → Mm G μ' H1 → va_S (Ah G) s.heap H1 locs1 → H1[q]? = some ce → ce.vm = .none → s.vm.findClass E = some ce.cls → vx_W p l e R s m args below meth c H1 locs1 (cells + mc) (slots + ms) Q (F0 m pc ls rest) q)
    (kk : ∀ (v : Option Value) (μ' : mmT) (H1 : Heap) (locs1 : List Loc), post v μ' → Mm G μ' H1 → va_S (Ah G) s.heap H1 locs1 → W p l e R s m args below meth c H1 locs1 (cells + mc) (slots + ms) Q (F0 m (pc + 3) ls (v.toList ++ rest))) : W p l e R s m args below meth c H locs cells slots Q (F0 m pc ls st0) := by
  intro T hT X
  rcases hr T hT X with ⟨v, st₀, t, T', L, h0, X', hL, e1, e2, ⟨⟨v', u, hv, hp, hb⟩, hF⟩, st⟩ | ⟨q, st₀, t, T', L, E, ce, h0, X', hL, e1, e2, ⟨u, hp, hb, hF⟩, hce, hcv, hcl, st⟩
  · cases hv
    obtain ⟨k1, k2, k3⟩ := vx_keep (A0 := Ah G) h0 e1 hS (fun _ _ h => h) (fun _ h => h) hL hF
    obtain ⟨t2, a1, b1⟩ := kk v u T'.heap (locs ++ L) hp (by rw [e1]; exact hb) k3 T' rfl X'
    exact ⟨t2, st t2 a1, b1⟩
  · obtain ⟨k1, k2, k3⟩ := vx_keep (A0 := Ah G) h0 e1 hS (fun _ _ h => h) (fun _ h => h) hL hF
    obtain ⟨t2, a1, b1⟩ := kx E ce q u T'.heap (locs ++ L) hp (by rw [e1]; exact hb) k3 (by rw [e1]; exact hce) hcv hcl T' rfl X'
    exact ⟨t2, st.trans a1, b1⟩
theorem mz_recv (hG : GK G s s.heap) (hM : Mm G μ H) {ci N : Nat} {C : String} {T : u_T} {ty : Nat → FieldType} (f : mzC ci C T N ty) (hb : mK μ b = ci + 1) : ∃ cellB : Cell, H[b]? = some cellB ∧ cellB.vm.isStatics = false ∧ s.vm.findClass C = some cellB.cls := by
  obtain ⟨cell, q1, q2, q3, q4⟩ := mz_obj hM f hb
  exact ⟨cell, q1, by rw [q3]; rfl, by rw [q2]; exact (hG.1.1 ci _ f.2.1).2.1⟩
theorem mz_pre (hG : GK G s s.heap) (hM : Mm G μ H) (hS : va_S (Ah G) s.heap H locs) : ∀ U : State, U.heap = H → s.WarmedH U.vm → mP G av μ av.toArray U := fun U hU hW => ⟨rfl, by rw [hU]; exact hG.at hS.1 hS.2.1 hW, by rw [hU]; exact hM⟩
theorem mz_callB (S : CallFix p m c cc nL s args TT own) (yf : mzY y bytes maxL ret n) (w1 : Cond.methodLink own index y ∈ TT) (hR : rm.frames + 1 ≤ R.frames ∧ 8 + (maxL + 11) + rm.locals ≤ R.locals) : CallB R s args own index y bytes maxL ret (Cond.code y bytes maxL ret :: TT) rm rm.cells rm.slots n :=
  ⟨rfl, rfl, hR.1, hR.2, pay_in S.2.2.2.2 (TT_g yf.1), List.mem_cons_self, S.2.2.2.2 _ yf.1, S.2.2.2.2 _ yf.2.1, yf.2.2.1, mz_sigs yf.2.2.2, S.2.2.2.2 _ w1⟩
theorem mz_V (S : CallFix p m c cc nL s args TT own) (hG : GK G s s.heap) (hM : Mm G μ H) (hS : va_S (Ah G) s.heap H locs) {ci N : Nat} {C : String} {T : u_T} {ty : Nat → FieldType} (f : mzC ci C T N ty) (hb : mK μ b = ci + 1) (hc : MC G l y bytes maxL ret rm (.ref b :: As) μ post) (yf : mzY y bytes maxL ret n)
    (w1 : Cond.methodLink own index y ∈ TT) (w2 : Cond.instanceMethod y ∈ TT) (w3 : Cond.selects C y y ∈ TT) (hR : rm.frames + 1 ≤ R.frames ∧ 8 + (maxL + 11) + rm.locals ≤ R.locals) (hf : cells + rm.cells ≤ R.cells ∧ slots + rm.slots ≤ R.slots) (hn : As.length = n) (hsize : ls.size = nL) (hst : st0 = As.reverse ++ .ref b :: rest) (hW : (rest.map fun v => v.category).sum ≤ 8) (hd : decode cc pc = .ok (.invokevirtual index, 3))
    (kk : ∀ (v : Option Value) (μ' : mmT) (H1 : Heap) (locs1 : List Loc), post v μ' → Mm G μ' H1 → va_S (Ah G) s.heap H1 locs1 → W p l e R s m args below meth c H1 locs1 (cells + rm.cells) (slots + rm.slots) Q (F0 m (pc + 3) ls (v.toList ++ rest))) : W p l e R s m args below meth c H locs cells slots Q (F0 m pc ls st0) :=
  mz_run (va_runV S hc ⟨mz_callB S yf w1 hR, S.2.2.2.2 _ w2, S.2.2.2.2 _ w3⟩ ⟨mP_blind, mz_recv hG hM f hb, mz_pre hG hM hS⟩ rfl hn hsize hst (lv_room hW) hd hf) hS kk
theorem mz_VX (S : CallFix p m c cc nL s args TT own) (hG : GK G s s.heap) (hM : Mm G μ H) (hS : va_S (Ah G) s.heap H locs) {ci N : Nat} {C : String} {T : u_T} {ty : Nat → FieldType} (f : mzC ci C T N ty) (hb : mK μ b = ci + 1) (hc : MX G l y bytes maxL ret rm (.ref b :: As) μ post px) (yf : mzY y bytes maxL ret n)
    (w1 : Cond.methodLink own index y ∈ TT) (w2 : Cond.instanceMethod y ∈ TT) (w3 : Cond.selects C y y ∈ TT) (hR : rm.frames + 1 ≤ R.frames ∧ 8 + (maxL + 11) + rm.locals ≤ R.locals) (hf : cells + rm.cells ≤ R.cells ∧ slots + rm.slots ≤ R.slots) (hn : As.length = n) (hsize : ls.size = nL) (hst : st0 = As.reverse ++ .ref b :: rest) (hW : (rest.map fun v => v.category).sum ≤ 8) (hd : decode cc pc = .ok (.invokevirtual index, 3))
    (kx : ∀ (E : String) (ce : Cell) (q : Addr) (μ' : mmT) (H1 : Heap) (locs1 : List Loc), px E μ' → Mm G μ' H1 → va_S (Ah G) s.heap H1 locs1 → H1[q]? = some ce → ce.vm = .none → s.vm.findClass E = some ce.cls → vx_W p l e R s m args below meth c H1 locs1 (cells + rm.cells) (slots + rm.slots) Q (F0 m pc ls rest) q)
    (kk : ∀ (v : Option Value) (μ' : mmT) (H1 : Heap) (locs1 : List Loc), post v μ' → Mm G μ' H1 → va_S (Ah G) s.heap H1 locs1 → W p l e R s m args below meth c H1 locs1 (cells + rm.cells) (slots + rm.slots) Q (F0 m (pc + 3) ls (v.toList ++ rest))) : W p l e R s m args below meth c H locs cells slots Q (F0 m pc ls st0) :=
  mz_runX (vx_runV S hc ⟨mz_callB S yf w1 hR, S.2.2.2.2 _ w2, S.2.2.2.2 _ w3⟩ ⟨mP_blind, mz_recv hG hM f hb, mz_pre hG hM hS⟩ rfl hn hsize hst (lv_room hW) hd hf) hS kx kk
theorem mz_S (S : CallFix p m c cc nL s args TT own) (hG : GK G s s.heap) (hM : Mm G μ H) (hS : va_S (Ah G) s.heap H locs) (hc : MC G l y bytes maxL ret rm As μ post) (yf : mzY y bytes maxL ret n)
    (w1 : Cond.methodLink own index y ∈ TT) (w2 : Cond.static y ∈ TT) (hR : rm.frames + 1 ≤ R.frames ∧ 8 + (maxL + 11) + rm.locals ≤ R.locals) (hf : cells + rm.cells ≤ R.cells ∧ slots + rm.slots ≤ R.slots) (hn : As.length = n) (hsize : ls.size = nL) (hst : st0 = As.reverse ++ rest) (hW : (rest.map fun v => v.category).sum ≤ 8) (hd : decode cc pc = .ok (.invokestatic index, 3))
    (kk : ∀ (v : Option Value) (μ' : mmT) (H1 : Heap) (locs1 : List Loc), post v μ' → Mm G μ' H1 → va_S (Ah G) s.heap H1 locs1 → W p l e R s m args below meth c H1 locs1 (cells + rm.cells) (slots + rm.slots) Q (F0 m (pc + 3) ls (v.toList ++ rest))) : W p l e R s m args below meth c H locs cells slots Q (F0 m pc ls st0) :=
  mz_run (va_runS S hc ⟨mz_callB S yf w1 hR, S.2.2.2.2 _ w2⟩ ⟨mP_blind, mz_pre hG hM hS⟩ rfl hn hsize hst (lv_room hW) hd hf) hS kk
/-- a private static of a nest mate -/
theorem mz_SN (S : CallFix p m c cc nL s args TT own) (hG : GK G s s.heap) (hM : Mm G μ H) (hS : va_S (Ah G) s.heap H locs) {host : String} (hc : MC G l y bytes maxL ret rm As μ post) (yf : mzY y bytes maxL ret n)
    (w1 : Cond.methodLinkNest own index y host ∈ tables_1) (w2 : Cond.static y ∈ TT) (hR : rm.frames + 1 ≤ R.frames ∧ 8 + (maxL + 11) + rm.locals ≤ R.locals) (hf : cells + rm.cells ≤ R.cells ∧ slots + rm.slots ≤ R.slots) (hn : As.length = n) (hsize : ls.size = nL) (hst : st0 = As.reverse ++ rest) (hW : (rest.map fun v => v.category).sum ≤ 8) (hd : decode cc pc = .ok (.invokestatic index, 3))
    (kk : ∀ (v : Option Value) (μ' : mmT) (H1 : Heap) (locs1 : List Loc), post v μ' → Mm G μ' H1 → va_S (Ah G) s.heap H1 locs1 → W p l e R s m args below meth c H1 locs1 (cells + rm.cells) (slots + rm.slots) Q (F0 m (pc + 3) ls (v.toList ++ rest))) : W p l e R s m args below meth c H locs cells slots Q (F0 m pc ls st0) :=
  mz_run (va_runSN S hc ⟨⟨⟨rfl, rfl, hR.1, hR.2, pay_in S.2.2.2.2 (TT_g yf.1), List.mem_cons_self⟩, S.2.2.2.2 _ yf.1, S.2.2.2.2 _ yf.2.1, yf.2.2.1, mz_sigs yf.2.2.2, va_Nw.use rfl (hG.2.1 _ w1 rfl)⟩, S.2.2.2.2 _ w2, trivial⟩ ⟨mP_blind, mz_pre hG hM hS⟩ rfl hn hsize hst (lv_room hW) hd hf) hS kk
theorem mz_prez (hG : GK G s s.heap) (hM : Mm G μ H) (hS : va_S (Ah G) s.heap H locs) {z : Nat} (hz : H.size = z) (hg : gh G ≤ z) : ∀ U : State, U.heap = H → s.WarmedH U.vm → mPz G av μ z av.toArray U := fun U hU hW => ⟨rfl, by rw [hU]; exact hG.at hS.1 hS.2.1 hW, by rw [hU]; exact hM, hg, by rw [hU]; exact hz⟩
/-- constructors that make cells; a nest mate's private one -/
theorem mz_I (S : CallFix p m c cc nL s args TT own) (hG : GK G s s.heap) (hM : Mm G μ H) (hS : va_S (Ah G) s.heap H locs) {z : Nat} (hz : H.size = z) (hg : gh G ≤ z) {pz : mmT → Nat → Prop} (hc : MZ G l y bytes maxL rm (.ref b :: As) μ z pz) (yf : mzY y bytes maxL none n) (hy1 : y.name = "<init>")
    (w1 : Cond.methodLink own index y ∈ TT) (w2 : Cond.instanceMethod y ∈ TT) (hR : rm.frames + 1 ≤ R.frames ∧ 8 + (maxL + 11) + rm.locals ≤ R.locals) (hf : cells + rm.cells ≤ R.cells ∧ slots + rm.slots ≤ R.slots) (hn : As.length = n) (hsize : ls.size = nL) (hst : st0 = As.reverse ++ .ref b :: rest) (hW : (rest.map fun v => v.category).sum ≤ 8) (hd : decode cc pc = .ok (.invokespecial index, 3))
    (kk : ∀ (μ' : mmT) (z : Nat) (H1 : Heap) (locs1 : List Loc), pz μ' z → Mm G μ' H1 → va_S (Ah G) s.heap H1 locs1 → gh G ≤ z → H1.size = z → W p l e R s m args below meth c H1 locs1 (cells + rm.cells) (slots + rm.slots) Q (F0 m (pc + 3) ls rest)) : W p l e R s m args below meth c H locs cells slots Q (F0 m pc ls st0) :=
  mz_runz (va_runI S hc ⟨mz_callB S yf w1 hR, hy1, S.2.2.2.2 _ w2⟩ ⟨mPz_blind, mz_prez hG hM hS hz hg⟩ rfl hn hsize hst (lv_room hW) hd hf) hS kk
theorem mz_IN (S : CallFix p m c cc nL s args TT own) (hG : GK G s s.heap) (hM : Mm G μ H) (hS : va_S (Ah G) s.heap H locs) {z : Nat} (hz : H.size = z) (hg : gh G ≤ z) {pz : mmT → Nat → Prop} {host : String} (hc : MZ G l y bytes maxL rm (.ref b :: As) μ z pz) (yf : mzY y bytes maxL none n) (hy1 : y.name = "<init>")
    (w1 : Cond.methodLinkNest own index y host ∈ tables_1) (w2 : Cond.instanceMethod y ∈ TT) (hR : rm.frames + 1 ≤ R.frames ∧ 8 + (maxL + 11) + rm.locals ≤ R.locals) (hf : cells + rm.cells ≤ R.cells ∧ slots + rm.slots ≤ R.slots) (hn : As.length = n) (hsize : ls.size = nL) (hst : st0 = As.reverse ++ .ref b :: rest) (hW : (rest.map fun v => v.category).sum ≤ 8) (hd : decode cc pc = .ok (.invokespecial index, 3))
    (kk : ∀ (μ' : mmT) (z : Nat) (H1 : Heap) (locs1 : List Loc), pz μ' z → Mm G μ' H1 → va_S (Ah G) s.heap H1 locs1 → gh G ≤ z → H1.size = z → W p l e R s m args below meth c H1 locs1 (cells + rm.cells) (slots + rm.slots) Q (F0 m (pc + 3) ls rest)) : W p l e R s m args below meth c H locs cells slots Q (F0 m pc ls st0) :=
  mz_runz (va_runIN S hc ⟨⟨⟨rfl, rfl, hR.1, hR.2, pay_in S.2.2.2.2 (TT_g yf.1), List.mem_cons_self⟩, S.2.2.2.2 _ yf.1, S.2.2.2.2 _ yf.2.1, yf.2.2.1, mz_sigs yf.2.2.2, va_Nw.use rfl (hG.2.1 _ w1 rfl)⟩, hy1, S.2.2.2.2 _ w2⟩ ⟨mPz_blind, mz_prez hG hM hS hz hg⟩ rfl hn hsize hst (lv_room hW) hd hf) hS kk
/-! ends -/
theorem mz_iret (S : CallFix p m c cc nL s args TT own) {ty : FieldType} (hr : meth.sig.returnType = some ty) (hlk : meth.locks = false) (hM : Mm G μ H) (hS : va_S (Ah G) s.heap H locs) {x : Int32} {mc ms : Nat} (hn : narrow ty (.int x) = .int x) (hc : cells ≤ mc) (hs : slots ≤ ms) (hd : decode cc pc = .ok (.ireturn, 1)) (hp : post (some (.int x)) μ) : W p l e R s m args below meth c H locs cells slots (MQ below (mQ G post) args s mc ms (Ah G)) (F0 m pc ls [.int x]) :=
  W.widen hc hs (W.zret S.1 S.2.1 hr hn (fun t ht hW => ⟨⟨_, μ, rfl, hp, by rw [ht]; exact hM⟩, hS.F ht⟩) hS.2.2 hd hlk)
theorem mz_lret (S : CallFix p m c cc nL s args TT own) (hr : meth.sig.returnType = some .long) (hlk : meth.locks = false) (hM : Mm G μ H) (hS : va_S (Ah G) s.heap H locs) {x : Int64} {mc ms : Nat} (hc : cells ≤ mc) (hs : slots ≤ ms) (hd : decode cc pc = .ok (.lreturn, 1)) (hp : post (some (.long x)) μ) : W p l e R s m args below meth c H locs cells slots (MQ below (mQ G post) args s mc ms (Ah G)) (F0 m pc ls [.long x]) :=
  W.widen hc hs (W.lret S.1 S.2.1 hr (fun t ht hW => ⟨⟨_, μ, rfl, hp, by rw [ht]; exact hM⟩, hS.F ht⟩) hS.2.2 hd hlk)
theorem mz_fret (S : CallFix p m c cc nL s args TT own) (hr : meth.sig.returnType = some .float) (hlk : meth.locks = false) (hM : Mm G μ H) (hS : va_S (Ah G) s.heap H locs) {x : UInt32} {mc ms : Nat} (hc : cells ≤ mc) (hs : slots ≤ ms) (hd : decode cc pc = .ok (.freturn, 1)) (hp : post (some (.float x)) μ) : W p l e R s m args below meth c H locs cells slots (MQ below (mQ G post) args s mc ms (Ah G)) (F0 m pc ls [.float x]) :=
  W.widen hc hs (W.fret S.1 S.2.1 hr (fun t ht hW => ⟨⟨_, μ, rfl, hp, by rw [ht]; exact hM⟩, hS.F ht⟩) hS.2.2 hd hlk)
theorem mz_dret (S : CallFix p m c cc nL s args TT own) (hr : meth.sig.returnType = some .double) (hlk : meth.locks = false) (hM : Mm G μ H) (hS : va_S (Ah G) s.heap H locs) {x : UInt64} {mc ms : Nat} (hc : cells ≤ mc) (hs : slots ≤ ms) (hd : decode cc pc = .ok (.dreturn, 1)) (hp : post (some (.double x)) μ) : W p l e R s m args below meth c H locs cells slots (MQ below (mQ G post) args s mc ms (Ah G)) (F0 m pc ls [.double x]) :=
  W.widen hc hs (W.dret S.1 S.2.1 hr (fun t ht hW => ⟨⟨_, μ, rfl, hp, by rw [ht]; exact hM⟩, hS.F ht⟩) hS.2.2 hd hlk)
theorem mz_aret (S : CallFix p m c cc nL s args TT own) {rt : FieldType} (hr : meth.sig.returnType = some rt) (hrt : (∃ n, rt = .object n) ∨ ∃ t, rt = .array t) (hlk : meth.locks = false) (hM : Mm G μ H) (hS : va_S (Ah G) s.heap H locs) {x : Option Nat} {mc ms : Nat} (hc : cells ≤ mc) (hs : slots ≤ ms) (hd : decode cc pc = .ok (.areturn, 1)) (hp : post (some (va_rf x)) μ) : W p l e R s m args below meth c H locs cells slots (MQ below (mQ G post) args s mc ms (Ah G)) (F0 m pc ls [va_rf x]) :=
  W.widen hc hs (W.aret S.1 S.2.1 hr hrt (va_rf_or x) (fun t ht hW => ⟨⟨_, μ, rfl, hp, by rw [ht]; exact hM⟩, hS.F ht⟩) hS.2.2 hd hlk)
theorem mz_vret (S : CallFix p m c cc nL s args TT own) (hr : meth.sig.returnType = none) (hlk : meth.locks = false) (hM : Mm G μ H) (hS : va_S (Ah G) s.heap H locs) {mc ms : Nat} (hc : cells ≤ mc) (hs : slots ≤ ms) (hd : decode cc pc = .ok (.return_, 1)) (hp : post none μ) : W p l e R s m args below meth c H locs cells slots (MQ below (mQ G post) args s mc ms (Ah G)) (F0 m pc ls []) :=
  W.widen hc hs (W.vret S.1 S.2.1 hr (fun t ht hW => ⟨⟨_, μ, rfl, hp, by rw [ht]; exact hM⟩, hS.F ht⟩) hS.2.2 hd hlk)
theorem mz_zret (S : CallFix p m c cc nL s args TT own) (hr : meth.sig.returnType = none) (hlk : meth.locks = false) (hM : Mm G μ H) (hS : va_S (Ah G) s.heap H locs) {z : Nat} (hz : H.size = z) (hg : gh G ≤ z) {pz : mmT → Nat → Prop} {mc ms : Nat} (hc : cells ≤ mc) (hs : slots ≤ ms) (hd : decode cc pc = .ok (.return_, 1)) (hp : pz μ z) : W p l e R s m args below meth c H locs cells slots (MQ below (mQz G pz) args s mc ms (Ah G)) (F0 m pc ls []) :=
  W.widen hc hs (W.vret S.1 S.2.1 hr (fun t ht hW => ⟨⟨μ, z, rfl, hp, by rw [ht]; exact hM, hg, by rw [ht]; exact hz⟩, hS.F ht⟩) hS.2.2 hd hlk)
/-! openings -/
theorem mz_MC (hy : plainName y.cls = true) (hav : (lg_sl av).length ≤ maxL)
    (body : ∀ (p : Program) (e : Env) (s : State) (m : MethodId) (args : Array Value) (below : List Frame) (meth : Method) (c : Code), CallFix p m c cc maxL s args TT y.cls → GK G s s.heap → meth.sig.returnType = ret → meth.locks = false → meth.name = y.name →
      ∀ (H : Heap) (locs : List Loc) (ls : Array Slot), Mm G μ H → va_S (Ah G) s.heap H locs → lv_has ls maxL (lv_args 0 av) → W p l e rm s m args below meth c H locs 0 0 (MQ below (mQ G post) args s rm.cells rm.slots (Ah G)) (F0 m 0 ls [])) : MC G l y cc maxL ret rm av μ post := by
  refine Met.ofW (cc := cc) (maxL := maxL) (ret := ret) hy rfl ?_
  intro p e s m args below meth c s₁ B hml hv
  obtain ⟨rfl, hG, hM⟩ := hv
  have hts := atoms_spec (ws := Cond.code y cc maxL ret :: TT) B.pre
  have hown : s.vm.findClass y.cls = some m.cls := findClass_of_methodNamed B.named
  have hl := lv_entry av (n := maxL) hav
  rw [lg_entry_eq]
  exact body p e s m _ below meth c ⟨B.exec, B.bytes, hml, hown, fun w h => hts w (List.mem_cons_of_mem _ h)⟩ hG B.returns B.notSynchronized (name_of_methodNamed B.named B.method).1 s.heap [] _ hM va_S.rf hl
theorem mz_MZ {z : Nat} {pz : mmT → Nat → Prop} (hy : plainName y.cls = true) (hav : (lg_sl av).length ≤ maxL)
    (body : ∀ (p : Program) (e : Env) (s : State) (m : MethodId) (args : Array Value) (below : List Frame) (meth : Method) (c : Code), CallFix p m c cc maxL s args TT y.cls → GK G s s.heap → meth.sig.returnType = none → meth.locks = false → meth.name = y.name →
      ∀ (H : Heap) (locs : List Loc) (ls : Array Slot), Mm G μ H → va_S (Ah G) s.heap H locs → gh G ≤ z → H.size = z → lv_has ls maxL (lv_args 0 av) → W p l e rm s m args below meth c H locs 0 0 (MQ below (mQz G pz) args s rm.cells rm.slots (Ah G)) (F0 m 0 ls [])) : MZ G l y cc maxL rm av μ z pz := by
  refine Met.ofW (cc := cc) (maxL := maxL) (ret := none) hy rfl ?_
  intro p e s m args below meth c s₁ B hml hv
  obtain ⟨rfl, hG, hM, hg, hz⟩ := hv
  have hts := atoms_spec (ws := Cond.code y cc maxL none :: TT) B.pre
  have hown : s.vm.findClass y.cls = some m.cls := findClass_of_methodNamed B.named
  have hl := lv_entry av (n := maxL) hav
  rw [lg_entry_eq]
  exact body p e s m _ below meth c ⟨B.exec, B.bytes, hml, hown, fun w h => hts w (List.mem_cons_of_mem _ h)⟩ hG B.returns B.notSynchronized (name_of_methodNamed B.named B.method).1 s.heap [] _ hM va_S.rf hg hz hl
theorem mz_MX (hy : plainName y.cls = true) (hav : (lg_sl av).length ≤ maxL)
    (body : ∀ (p : Program) (e : Env) (s : State) (m : MethodId) (args : Array Value) (below : List Frame) (meth : Method) (c : Code), CallFix p m c cc maxL s args TT y.cls → GK G s s.heap → meth.sig.returnType = ret → meth.locks = false → meth.name = y.name → (∀ x ∈ c.exceptionTable.toList, False) →
      ∀ (H : Heap) (locs : List Loc) (ls : Array Slot), Mm G μ H → va_S (Ah G) s.heap H locs → lv_has ls maxL (lv_args 0 av) → W p l e rm s m args below meth c H locs 0 0 (vx_MQ below (mQ G post) (mX G px) args s rm.cells rm.slots (Ah G)) (F0 m 0 ls [])) : MX G l y cc maxL ret rm av μ post px := by
  refine vx_ofW (cc := cc) (maxL := maxL) (ret := ret) hy rfl ?_
  intro p e s m args below meth c s₁ B hml hex hv
  obtain ⟨rfl, hG, hM⟩ := hv
  have hts := atoms_spec (ws := Cond.code y cc maxL ret :: TT) B.pre
  have hown : s.vm.findClass y.cls = some m.cls := findClass_of_methodNamed B.named
  have hl := lv_entry av (n := maxL) hav
  rw [lg_entry_eq]
  exact body p e s m _ below meth c ⟨B.exec, B.bytes, hml, hown, fun w h => hts w (List.mem_cons_of_mem _ h)⟩ hG B.returns B.notSynchronized (name_of_methodNamed B.named B.method).1 hex s.heap [] _ hM va_S.rf hl
/-- it goes on to the caller -/
theorem mz_out {mc ms : Nat} {E : String} {ce : Cell} {q : Addr} (hex : ∀ x ∈ c.exceptionTable.toList, False) (hlk : meth.locks = false) (hM : Mm G μ H) (hS : va_S (Ah G) s.heap H locs) (hcell : H[q]? = some ce) (hv : ce.vm = .none) (hcl : s.vm.findClass E = some ce.cls) (hc : cells ≤ mc) (hs : slots ≤ ms) (hp : px E μ) :
    vx_W p l e R s m args below meth c H locs cells slots (vx_MQ below (mQ G post) (mX G px) args s mc ms (Ah G)) (F0 m pc ls rest) q :=
  vx_out (fun x hx => (hex x hx).elim) hlk hcell hv hcl (fun t ht _ => ⟨μ, hp, by rw [ht]; exact hM, hS.F ht⟩) hS.2.2 hc hs
end MROWS3
