/-! ROWS OF TEXTS MADE AT RUN TIME: bytes copied from one of ours or from a text of the class files, an array of a length that is computed, a clone, the law's script -/
/-- dp.. of the array a take f 0 .. f (n - 1) -/
def sX (μ : mmT) (f : Nat → Int32) (a dp n : Nat) : mmT := (mK μ, mN μ, mI μ, mR μ, fun b k => if b = a ∧ dp ≤ k ∧ k < dp + n then f (k - dp) else mA μ b k, mB μ, mL μ, mD μ)
/-- a copy of the array a at z -/
def nB (μ : mmT) (z a : Nat) : mmT := (fun b => if b = z then mK μ a else mK μ b, fun b => if b = z then mN μ a else mN μ b, mI μ, mR μ, fun b i => if b = z then mA μ a i else mA μ b i, fun b i => if b = z then none else mB μ b i, fun b i => if b = z then 0 else mL μ b i, fun b i => if b = z then 0 else mD μ b i)
theorem gByt_fit (j i : Nat) : fits .byte (.int ((gByt.getD j []).getD i 0)) = true := by
  have h : gByt.all (fun l => l.all (fun x => fits .byte (.int x))) = true := by decide +kernel
  by_cases hj : j < gByt.length
  · have h1 := List.all_eq_true.mp h (gByt.getD j []) (by rw [List.getD_eq_getElem?_getD, List.getElem?_eq_getElem hj]; exact List.getElem_mem hj)
    generalize gByt.getD j [] = q at h1 ⊢
    by_cases hi : i < q.length
    · exact List.all_eq_true.mp h1 (q.getD i 0) (by rw [List.getD_eq_getElem?_getD, List.getElem?_eq_getElem hi]; exact List.getElem_mem hi)
    · rw [List.getD_eq_getElem?_getD, List.getElem?_eq_none (by omega)]
      rfl
  · rw [List.getD_eq_getElem?_getD (l := gByt), List.getElem?_eq_none (by omega)]
    rfl
section MROWS8
variable {p : Program} {l : Launch} {e : Env} {R : Room} {s : State} {m : MethodId} {args : Array Value} {below : List Frame} {meth : Method} {c : Code} {H : Heap} {locs : List Loc} {cells slots : Nat} {Q : State → Prop}
variable {cc : ByteArray} {pc : Nat} {ls : Array Slot} {rest st0 : List Value} {a nL : Nat} {own : String} {G : mgT} {μ : mmT}
variable {y : MethodName} {bytes : ByteArray} {maxL n index : Nat} {ret : Option FieldType} {rm : Room} {av As : List Value} {b : Nat} {post : Option Value → mmT → Prop} {px : String → mmT → Prop}
theorem mz_scrA (S : CallFix p m c cc nL s args TT own) (hG : GK G s s.heap) (hS : va_S (Ah G) s.heap H locs) {i : Int32} (hin : vp_in i (gX G 6)) (hd : decode cc pc = .ok (.iaload, 1))
    (kk : W p l e R s m args below meth c H locs cells slots Q (F0 m (pc + 1) ls (.int (gQ G i.toNatClampNeg) :: rest))) : W p l e R s m args below meth c H locs cells slots Q (F0 m pc ls (.int i :: .ref (gX G 5) :: rest)) :=
  va_ti S.1 S.2.1 hG.scr hS hin rfl hd kk
theorem mz_scrL (S : CallFix p m c cc nL s args TT own) (hG : GK G s s.heap) (hS : va_S (Ah G) s.heap H locs) (hd : decode cc pc = .ok (.arraylength, 1))
    (kk : W p l e R s m args below meth c H locs cells slots Q (F0 m (pc + 1) ls (.int (nI (gX G 6)) :: rest))) : W p l e R s m args below meth c H locs cells slots Q (F0 m pc ls (.ref (gX G 5) :: rest)) :=
  va_tlen S.1 S.2.1 hG.scr hS rfl hd kk
theorem nn_int {z : Int32} (hz : ¬ z < 0) : z.toInt = (z.toNatClampNeg : Int) := by
  have hz0 : (0 : Int) ≤ z.toInt := by
    have := Int32.not_lt.mp hz
    simpa using Int32.le_iff_toInt_le.mp this
  show z.toInt = ((z.toInt.toNat : Nat) : Int)
  omega
/-- System.arraycopy of bytes into one of ours, out of any cell of bytes -/
theorem mz_copyC (S : CallFix p m c cc nL s args TT own) (hG : GK G s s.heap) (hM : Mm G μ H) (hS : va_S (Ah G) s.heap H locs) (hl : ls.size = nL) {index a0 n0 : Nat} (w1 : Cond.methodLink own index arraycopyName ∈ TT) (w2 : Cond.native arraycopyName ∈ TT) (w3 : Cond.static arraycopyName ∈ TT) (w4 : Cond.initialized "java/lang/System" ∈ TT)
    {sp dp n : Int32} {cs : Cell} {f : Nat → Int32} (hc0 : H[a0]? = some cs) (hv1 : ∀ k, cs.vm ≠ .statics k) (hv2 : cs.vm ≠ .unknown) (hA0 : s.isArrayOf cs .byte) (hn0 : n0 ≤ cs.slots.size) (hf : ∀ j, j < n0 → cs.slots[j]? = some (.int (f j))) (hfit : ∀ i, i < n.toNatClampNeg → fits .byte (.int (f (sp.toNatClampNeg + i))) = true)
    (ha : mK μ a = 32) (h1 : ¬ sp < 0) (h2 : ¬ dp < 0) (h3 : ¬ n < 0) (h4 : sp.toNatClampNeg + n.toNatClampNeg ≤ n0) (h5 : dp.toNatClampNeg + n.toNatClampNeg ≤ mN μ a)
    (hframes : 1 ≤ R.frames) (hlocals : (rest.map fun v => v.category).sum + (nativeFrameWords "java/lang/System" "arraycopy" 5 + 11) ≤ R.locals) (hd : decode cc pc = .ok (.invokestatic index, 3))
    (kk : ∀ (H1 : Heap) (locs1 : List Loc), Mm G (sX μ (fun i => f (sp.toNatClampNeg + i)) a dp.toNatClampNeg n.toNatClampNeg) H1 → va_S (Ah G) s.heap H1 locs1 → H1.size = H.size → W p l e R s m args below meth c H1 locs1 cells slots Q (F0 m (pc + 3) ls rest)) : W p l e R s m args below meth c H locs cells slots Q (F0 m pc ls (.int n :: .int dp :: .ref a :: .int sp :: .ref a0 :: rest)) := by
  intro T hT X
  obtain ⟨hj, hc1⟩ := mz_arr (j := 0) hM ha
  obtain ⟨-, k0, hk0, cm0, hkk0⟩ := hA0
  obtain ⟨-, k1, hk1, cm1, hkk1⟩ := (hG.1.2 0 _ (gTy_at hj)).1 (mN μ a) (mmE μ 0 a)
  obtain ⟨vm', X', step⟩ := X.arraycopy S.1 S.2.2.2.1 (S.2.2.2.2 _ w1) (S.2.2.2.2 _ w2) (S.2.2.2.2 _ w3) (S.2.2.2.2 _ w4) (src := a0) (dst := a) (cs := cs) (cd := arrV (gC G 0) (mN μ a) (mmE μ 0 a)) (srcPos := sp) (destPos := dp) (n := n) (by rw [hT]; exact hc0) (by rw [hT]; exact hc1)
    hv1 (fun _ h => by cases h) hv2 (fun h => by cases h) hk0 hk1 hkk0 hkk1 (by simp [mmTy, refKind]) h1 h2 h3
    (by rw [nn_int h1, nn_int h3]; omega)
    (by rw [nn_int h2, nn_int h3, arrV_size]; omega)
    (fun vm₁ _ i hi => by
      have e : cs.slots.getD (sp.toNatClampNeg + i) .null = .int (f (sp.toNatClampNeg + i)) := by
        rw [Array.getD_eq_getD_getElem?, hf _ (by omega)]
        rfl
      refine ⟨?_, ?_⟩
      · rw [e]
        exact hfit i hi
      · rw [e]
        exact trivial)
    (g := F0 m pc ls (.int n :: .int dp :: .ref a :: .int sp :: .ref a0 :: rest)) rfl (by rw [S.2.2.1]; exact hl) (rest := rest) rfl (by rw [S.2.1]; exact hd) hframes (by show 2 * 0 + _ + _ ≤ _; omega)
  have e1 : copied cs (arrV (gC G 0) (mN μ a) (mmE μ 0 a)) sp dp n = arrV (gC G 0) (mN μ a) (fun j => .int (va_cpy f (mA μ a) sp.toNatClampNeg dp.toNatClampNeg n.toNatClampNeg j)) := va_copiedX (fun z => .int z) cs (gC G 0) f (mA μ a) hf h4
  rw [e1] at X' step
  have hl9 : a < H.size := (Array.getElem?_eq_some_iff.mp hc1).1
  generalize hcell : arrV (gC G 0) (mN μ a) (fun j => .int (va_cpy f (mA μ a) sp.toNatClampNeg dp.toNatClampNeg n.toNatClampNeg j)) = cN at X' step
  have hheap : ((T.setVm vm').setCell a cN).heap = H.setIfInBounds a cN := by rw [← hT]; rfl
  have oq : ∀ q : Nat, q ≠ a → (H.setIfInBounds a cN)[q]? = H[q]? := fun q hq => by simp [Array.getElem?_setIfInBounds, Ne.symm hq]
  have hA : Ah G a := (hM a (by omega)).1
  have hM2 : Mm G (sX μ (fun i => f (sp.toNatClampNeg + i)) a dp.toNatClampNeg n.toNatClampNeg) (H.setIfInBounds a cN) := by
    refine hM.upd (by simp) oq rfl rfl (fun _ _ _ => rfl) (fun b hb j' => ?_) ⟨fun c' h hc => ?_, fun j' h => ?_⟩
    · funext k
      match j' with
      | 0 => simp [mmE, mA, sX, hb]
      | 1 => simp [mmE, mA, sX, hb]
      | 2 => simp [mmE, mA, sX, hb]
      | 3 => rfl
      | 4 => rfl
      | j' + 5 => rfl
    · have h : mK μ a = c' + 1 := h
      omega
    · have h : mK μ a = j' + 32 := h
      have e : j' = 0 := by omega
      subst e
      refine ⟨hj, ?_⟩
      show (H.setIfInBounds a cN)[a]? = _
      rw [← hcell]
      simp only [Array.getElem?_setIfInBounds, hl9, if_true]
      congr 2
      funext k
      simp [mmE, mA, sX, va_cpy]
  obtain ⟨t, a1, b1⟩ := kk _ _ hM2 ⟨by simp; exact hS.1, fun q g1 g2 => by
      rw [oq q (fun e => g2 (by rw [e]; exact hA))]
      exact hS.2.1 q g1 g2, fun q hq => by
      rcases List.mem_append.mp hq with h | h
      · exact hS.2.2 q h
      · obtain ⟨z, -, hz⟩ := List.mem_map.mp h
        rw [← hz]
        exact hA⟩ (by simp) _ hheap X'
  exact ⟨t, step t a1, b1⟩
/-- .. out of one of ours -/
theorem mz_copyB (S : CallFix p m c cc nL s args TT own) (hG : GK G s s.heap) (hM : Mm G μ H) (hS : va_S (Ah G) s.heap H locs) (hl : ls.size = nL) {index a0 : Nat} (w1 : Cond.methodLink own index arraycopyName ∈ TT) (w2 : Cond.native arraycopyName ∈ TT) (w3 : Cond.static arraycopyName ∈ TT) (w4 : Cond.initialized "java/lang/System" ∈ TT)
    {sp dp n : Int32} (ha0 : mK μ a0 = 32) (ha : mK μ a = 32) (h1 : ¬ sp < 0) (h2 : ¬ dp < 0) (h3 : ¬ n < 0) (h4 : sp.toNatClampNeg + n.toNatClampNeg ≤ mN μ a0) (h5 : dp.toNatClampNeg + n.toNatClampNeg ≤ mN μ a) (hfit : ∀ i, i < n.toNatClampNeg → fits .byte (.int (mA μ a0 (sp.toNatClampNeg + i))) = true)
    (hframes : 1 ≤ R.frames) (hlocals : (rest.map fun v => v.category).sum + (nativeFrameWords "java/lang/System" "arraycopy" 5 + 11) ≤ R.locals) (hd : decode cc pc = .ok (.invokestatic index, 3))
    (kk : ∀ (H1 : Heap) (locs1 : List Loc), Mm G (sX μ (fun i => mA μ a0 (sp.toNatClampNeg + i)) a dp.toNatClampNeg n.toNatClampNeg) H1 → va_S (Ah G) s.heap H1 locs1 → H1.size = H.size → W p l e R s m args below meth c H1 locs1 cells slots Q (F0 m (pc + 3) ls rest)) : W p l e R s m args below meth c H locs cells slots Q (F0 m pc ls (.int n :: .int dp :: .ref a :: .int sp :: .ref a0 :: rest)) := by
  obtain ⟨hj, hc0⟩ := mz_arr (j := 0) hM ha0
  exact mz_copyC S hG hM hS hl w1 w2 w3 w4 (n0 := mN μ a0) hc0 (fun _ h => by cases h) (fun h => by cases h) ((hG.1.2 0 _ (gTy_at hj)).1 (mN μ a0) (mmE μ 0 a0)) (by rw [arrV_size]; exact Nat.le_refl _) (fun j hj => arrV_read _ _ hj) hfit ha h1 h2 h3 h4 h5 hframes hlocals hd kk
/-- .. out of a text of the class files -/
theorem mz_copyT (S : CallFix p m c cc nL s args TT own) (hG : GK G s s.heap) (hM : Mm G μ H) (hS : va_S (Ah G) s.heap H locs) (hl : ls.size = nL) {index a0 j : Nat} (w1 : Cond.methodLink own index arraycopyName ∈ TT) (w2 : Cond.native arraycopyName ∈ TT) (w3 : Cond.static arraycopyName ∈ TT) (w4 : Cond.initialized "java/lang/System" ∈ TT)
    {sp dp n : Int32} (hj : j < 37) (ha0 : a0 = gV G j) (ha : mK μ a = 32) (h1 : ¬ sp < 0) (h2 : ¬ dp < 0) (h3 : ¬ n < 0) (h4 : sp.toNatClampNeg + n.toNatClampNeg ≤ gLen.getD j 0) (h5 : dp.toNatClampNeg + n.toNatClampNeg ≤ mN μ a)
    (hframes : 1 ≤ R.frames) (hlocals : (rest.map fun v => v.category).sum + (nativeFrameWords "java/lang/System" "arraycopy" 5 + 11) ≤ R.locals) (hd : decode cc pc = .ok (.invokestatic index, 3))
    (kk : ∀ (H1 : Heap) (locs1 : List Loc), Mm G (sX μ (fun i => (gByt.getD j []).getD (sp.toNatClampNeg + i) 0) a dp.toNatClampNeg n.toNatClampNeg) H1 → va_S (Ah G) s.heap H1 locs1 → H1.size = H.size → W p l e R s m args below meth c H1 locs1 cells slots Q (F0 m (pc + 3) ls rest)) : W p l e R s m args below meth c H locs cells slots Q (F0 m pc ls (.int n :: .int dp :: .ref a :: .int sp :: .ref a0 :: rest)) := by
  subst ha0
  obtain ⟨cell, q1, q2, q3, q4, q5, q6, q7⟩ := (hG.txt j hj).2.2.2
  have hc : H[gV G j]? = some cell := by
    rw [hS.2.1 _ (Array.getElem?_eq_some_iff.mp q1).1 q7]
    exact q1
  exact mz_copyC S hG hM hS hl w1 w2 w3 w4 (n0 := gLen.getD j 0) hc (fun k h => q2.1 k h) q3 q2 q4 q6 (fun i _ => gByt_fit j _) ha h1 h2 h3 h4 h5 hframes hlocals hd kk
/-- an array of bytes whose length is computed, at most B -/
theorem mz_newb (S : CallFix p m c cc nL s args TT own) (hG : GK G s s.heap) (hM : Mm G μ H) (hS : va_S (Ah G) s.heap H locs) {z : Nat} (hz : H.size = z) (hg : gh G ≤ z) (w1 : Cond.arrayClass .byte ∈ TT) {n : Int32} (hn : ¬ n < 0) (hB : n.toNatClampNeg ≤ 16)
    (hcells : cells + 1 ≤ R.cells) (hslots : slots + 16 ≤ R.slots) (hd : decode cc pc = .ok (.newarray .byte, 2))
    (kk : ∀ (H1 : Heap), Mm G (nA μ z 0 n.toNatClampNeg) H1 → va_S (Ah G) s.heap H1 locs → H1.size = z + 1 → W p l e R s m args below meth c H1 locs (cells + 1) (slots + 16) Q (F0 m (pc + 2) ls (.ref z :: rest))) : W p l e R s m args below meth c H locs cells slots Q (F0 m pc ls (.int n :: rest)) := by
  refine mz_newa (j := 0) (atype := .byte) S hG hM hS hz hg (by decide) rfl w1 hn rfl ?_ hcells (by omega) hd (fun H1 h1 h2 h3 => W.widen (k := cells + 1) (n := slots + 16) (by omega) (by omega) (kk H1 h1 h2 h3))
  have : componentBytes (newarray.typeOf .byte) = 1 := rfl
  rw [this]
  omega
theorem mmE_nB {z b a : Nat} (hb : b ≠ z) (j' : Nat) : mmE (nB μ z a) j' b = mmE μ j' b := by
  funext k
  match j' with
  | 0 => simp [mmE, mA, nB, hb]
  | 1 => simp [mmE, mA, nB, hb]
  | 2 => simp [mmE, mA, nB, hb]
  | 3 => simp [mmE, mL, nB, hb]
  | 4 => simp [mmE, mD, nB, hb]
  | j' + 5 => simp [mmE, mB, nB, hb]
/-- a clone of an array of bytes -/
theorem mz_clone (S : CallFix p m c cc nL s args TT own) (hG : GK G s s.heap) (hM : Mm G μ H) (hS : va_S (Ah G) s.heap H locs) (hl : ls.size = nL) {z : Nat} (hz : H.size = z) (hg : gh G ≤ z) {index : Nat}
    (w1 : Cond.methodLink own index ⟨"[B", "clone", "()Ljava/lang/Object;"⟩ ∈ TT) (w2 : Cond.sameMethod "[B" "java/lang/Object" "clone" "()Ljava/lang/Object;" ∈ TT) (w3 : Cond.native ⟨"java/lang/Object", "clone", "()Ljava/lang/Object;"⟩ ∈ TT) (w4 : Cond.instanceMethod ⟨"java/lang/Object", "clone", "()Ljava/lang/Object;"⟩ ∈ TT)
    (w5 : Cond.selects "[B" ⟨"[B", "clone", "()Ljava/lang/Object;"⟩ ⟨"java/lang/Object", "clone", "()Ljava/lang/Object;"⟩ ∈ TT) (w6 : (Cond.castable "[B" "java/lang/Cloneable").before args s = true)
    (ha : mK μ a = 32) (hfit : ∀ i, i < mN μ a → fits .byte (.int (mA μ a i)) = true) (hB : mN μ a ≤ 16)
    (hframes : 1 ≤ R.frames) (hlocals : (rest.map fun v => v.category).sum + 14 ≤ R.locals) (hcells : cells + 1 ≤ R.cells) (hslots : slots + 16 ≤ R.slots) (hd : decode cc pc = .ok (.invokevirtual index, 3))
    (kk : ∀ (H1 : Heap), Mm G (nB μ z a) H1 → va_S (Ah G) s.heap H1 locs → H1.size = z + 1 → W p l e R s m args below meth c H1 locs (cells + 1) (slots + 16) Q (F0 m (pc + 3) ls (.ref z :: rest))) : W p l e R s m args below meth c H locs cells slots Q (F0 m pc ls (.ref a :: rest)) := by
  subst hz
  obtain ⟨hj, hcell⟩ := mz_arr (j := 0) hM ha
  have hra := (hG.1.2 0 _ (gTy_at hj)).2
  have hnm : s.vm.findClass "[B" = some (gC G 0) := hra
  obtain ⟨c0, t0', f1, f2, f3⟩ := Cond.castable_spec w6
  cases hnm.symm.trans f1
  have hvm0 : (arrV (gC G 0) (mN μ a) (mmE μ 0 a)).vm = .none := rfl
  have hcl0 : (arrV (gC G 0) (mN μ a) (mmE μ 0 a)).cls = gC G 0 := rfl
  have hsz : (arrV (gC G 0) (mN μ a) (mmE μ 0 a)).slots.size = mN μ a := arrV_size _ _ _
  have hcellE : ({ cls := (arrV (gC G 0) (mN μ a) (mmE μ 0 a)).cls, slots := (arrV (gC G 0) (mN μ a) (mmE μ 0 a)).slots } : Cell) = arrV (gC G 0) (mN μ a) (mmE μ 0 a) := rfl
  intro T hT X
  have hcellT : T.heap[a]? = some (arrV (gC G 0) (mN μ a) (mmE μ 0 a)) := by rw [hT]; exact hcell
  obtain ⟨-, kA, hkA, comp, hkind⟩ := State.isArrayOf_alike X.warmed.alike ((hG.1.2 0 _ (gTy_at hj)).1 0 (fun _ => .null))
  obtain ⟨-, kS, hkS, compS, hkindS⟩ := (hG.1.2 0 _ (gTy_at hj)).1 0 (fun _ => .null)
  obtain ⟨vm', X', st⟩ := X.cloneArray S.1 S.2.2.2.1 (S.2.2.2.2 _ w1) (S.2.2.2.2 _ w2) (S.2.2.2.2 _ w3) (S.2.2.2.2 _ w4) (S.2.2.2.2 _ w5) (a := a) (cell := arrV (gC G 0) (mN μ a) (mmE μ 0 a)) hcellT (fun k h => by rw [hvm0] at h; cases h) (by rw [hvm0]; exact fun h => by cases h) (by rw [hcl0]; exact hnm) f2 (by rw [hcl0]; exact f3)
    (fun i v hv => by
      rw [hcl0]
      have hk' : T.vm.classes[gC G 0]? = some kA := hkA
      have hi : i < mN μ a := by rw [← hsz]; exact (Array.getElem?_eq_some_iff.mp hv).1
      rw [arrV_read _ _ hi] at hv
      cases hv
      have h9 : fits (mmTy 0) (mmE μ 0 a i) = true := hfit i hi
      simpa [State.fitsSlot, State.slotType?, hk', hkind] using h9)
    (g := F0 m pc ls (.ref a :: rest)) rfl (by rw [S.2.2.1]; exact hl) rfl (by rw [S.2.1]; exact hd) hframes (by show 2 * 0 + _ + 14 ≤ _; omega) hcells (by rw [hsz]; omega) (hloader := by rw [hcl0]; exact Vm.clonesLoader_of_array hkS hkindS)
  rw [hcellE, hsz] at X'
  generalize hH1 : H.push (arrV (gC G 0) (mN μ a) (mmE μ 0 a)) = H1
  have z1 : H1.size = H.size + 1 := by rw [← hH1, Array.size_push]
  have e1 : H1[H.size]? = some (arrV (gC G 0) (mN μ a) (mmE μ 0 a)) := by rw [← hH1, Array.getElem?_push_size]
  have o1 : ∀ q : Nat, q < H.size → H1[q]? = H[q]? := fun q hq => by rw [← hH1, Array.getElem?_push, if_neg (Nat.ne_of_lt hq)]
  have hM1 : Mm G (nB μ H.size a) H1 := by
    refine hM.push rfl hg z1 o1 (fun b hb => by simp [mK, nB, hb]) (fun b hb => by simp [mN, nB, hb]) (fun b hb c' => rfl) (fun b hb j' => mmE_nB hb j') ⟨fun c' h hc => ?_, fun j' h => ?_⟩
    · have h : mK μ a = c' + 1 := by simpa [mK, nB] using h
      omega
    · have h : mK μ a = j' + 32 := by simpa [mK, nB] using h
      have e : j' = 0 := by omega
      subst e
      refine ⟨hj, ?_⟩
      rw [e1]
      have hNN : mN (nB μ H.size a) H.size = mN μ a := by simp [mN, nB]
      rw [hNN]
      congr 2
      funext k
      simp [mmE, mA, nB]
  obtain ⟨t, b1, b2⟩ := (W.widen (k := cells + 1) (n := slots + 16) (Nat.le_refl _) (by omega) (kk H1 hM1 (hS.grow z1 o1) z1) : W p l e R s m args below meth c H1 locs (cells + 1) (slots + mN μ a) Q (F0 m (pc + 3) ls (.ref H.size :: rest)))
    ((T.setVm vm').pushCell (arrV (gC G 0) (mN μ a) (mmE μ 0 a))) (by rw [← hH1, ← hT]; rfl) X'
  refine ⟨t, st t ?_, b2⟩
  rw [hcellE, hT]
  exact b1
/-- a cast that holds: an array of bytes is one -/
theorem mz_castB (S : CallFix p m c cc nL s args TT own) (hG : GK G s s.heap) (hM : Mm G μ H) {index : Nat} (w1 : Cond.classLink own index "[B" ∈ TT) (ha : mK μ a = 32) (hd : decode cc pc = .ok (.checkcast index, 3))
    (k : W p l e R s m args below meth c H locs cells slots Q (F0 m (pc + 3) ls (.ref a :: rest))) : W p l e R s m args below meth c H locs cells slots Q (F0 m pc ls (.ref a :: rest)) := by
  obtain ⟨hj, hcell⟩ := mz_arr (j := 0) hM ha
  have hnm : s.vm.findClass "[B" = some (gC G 0) := (hG.1.2 0 _ (gTy_at hj)).2
  intro T hT X
  obtain ⟨vm', X', st⟩ := X.checkcastYes S.1 S.2.2.2.1 (S.2.2.2.2 _ w1) (by rw [hT]; exact hcell) rfl hnm (va_asg _ _) (g := F0 m pc ls (.ref a :: rest)) rfl rfl (by rw [S.2.1]; exact hd)
  obtain ⟨t, a1, b1⟩ := k (T.setVm vm') hT X'
  exact ⟨t, st t a1, b1⟩
/-- a method called by the name of the class above, that the receiver's class overrides -/
theorem mz_O (S : CallFix p m c cc nL s args TT own) (hG : GK G s s.heap) (hM : Mm G μ H) (hS : va_S (Ah G) s.heap H locs) {C : String} {x : MethodName} {b0 : ByteArray} {m0 : Nat} {r0 : Option FieldType} (hO : ∃ cellB : Cell, H[b]? = some cellB ∧ cellB.vm.isStatics = false ∧ s.vm.findClass C = some cellB.cls) (hc : MC G l y bytes maxL ret rm (.ref b :: As) μ post) (yf : mzY y bytes maxL ret n)
    (w1 : Cond.methodLink own index x ∈ TT) (w4 : Cond.sameMethod x.cls x.cls x.name x.desc ∈ TT) (w0 : Cond.instanceMethod x ∈ TT) (w5 : Cond.code x b0 m0 r0 ∈ TT) (w2 : Cond.instanceMethod y ∈ TT) (w3 : Cond.selects C x y ∈ TT) (hx : x.cls ≠ "java/lang/invoke/MethodHandle" ∧ x.cls ≠ "java/lang/invoke/VarHandle") (hdx : (parseMethodDescriptor x.desc).map (fun d => d.parameters.length) = some n)
    (hR : rm.frames + 1 ≤ R.frames ∧ 8 + (maxL + 11) + rm.locals ≤ R.locals) (hf : cells + rm.cells ≤ R.cells ∧ slots + rm.slots ≤ R.slots) (hn : As.length = n) (hsize : ls.size = nL) (hst : st0 = As.reverse ++ .ref b :: rest) (hW : (rest.map fun v => v.category).sum ≤ 8) (hd : decode cc pc = .ok (.invokevirtual index, 3))
    (kk : ∀ (v : Option Value) (μ' : mmT) (H1 : Heap) (locs1 : List Loc), post v μ' → Mm G μ' H1 → va_S (Ah G) s.heap H1 locs1 → W p l e R s m args below meth c H1 locs1 (cells + rm.cells) (slots + rm.slots) Q (F0 m (pc + 3) ls (v.toList ++ rest))) : W p l e R s m args below meth c H locs cells slots Q (F0 m pc ls st0) :=
  mz_run (va_runU (C := C) (owner := x.cls) (x := x) S hc ⟨⟨rfl, rfl, hR.1, hR.2, pay_in S.2.2.2.2 (TT_g yf.1), List.mem_cons_self⟩, S.2.2.2.2 _ yf.1, S.2.2.2.2 _ yf.2.1, hx, mz_sigs hdx, S.2.2.2.2 _ w1, S.2.2.2.2 _ w4, va_Decl.of (S.2.2.2.2 _ w0) (S.2.2.2.2 _ w5), S.2.2.2.2 _ w3, S.2.2.2.2 _ w2⟩ ⟨mP_blind, hO, mz_pre hG hM hS⟩ rfl hn hsize hst (lv_room hW) hd hf) hS kk
theorem mz_putFi (S : CallFix p m c cc nL s args TT own) (hG : GK G s s.heap) (hM : Mm G μ H) (hS0 : va_S (Ah G) s.heap H locs) {ci k F N index : Nat} {C : String} {T : u_T} {ty : Nat → FieldType} {n d : String} {x : Int32} (f : mzC ci C T N ty) (q : mzF F ci k T N false own n d true) (hl : Cond.fieldLink own index own n d ∈ TT)
    (hd : decode cc pc = .ok (.putfield index, 3)) (hin : meth.name = "<init>") (ha : mK μ a = ci + 1) (hn : narrow (ty k) (.int x) = .int x) (hfit : fits (ty k) (.int x) = true)
    (kk : ∀ (H1 : Heap) (locs1 : List Loc), Mm G (sI μ F a x) H1 → va_S (Ah G) s.heap H1 locs1 → H1.size = H.size → W p l e R s m args below meth c H1 locs1 cells slots Q (F0 m (pc + 3) ls rest)) : W p l e R s m args below meth c H locs cells slots Q (F0 m pc ls (.int x :: .ref a :: rest)) :=
  mz_putF (μ' := sI μ F a x) S hG hM hS0 f q hl hd hin ha hn hfit rfl rfl (fun b hb ci => mmV_sIo hb ci) (fun _ _ => rfl) (fun j => mmV_sI q.2.1 q.2.2.1 j) kk
theorem mz_nB {x : Int32} (h : x = 0) : narrow .byte (.int x) = .int x := by subst h; rfl
theorem mz_fB {x : Int32} (h : x = 0) : fits .byte (.int x) = true := by subst h; rfl
end MROWS8
