section MROWS2
variable {p : Program} {l : Launch} {e : Env} {R : Room} {s : State} {m : MethodId} {args : Array Value} {below : List Frame} {meth : Method} {c : Code} {H : Heap} {locs : List Loc} {cells slots : Nat} {Q : State → Prop}
variable {cc : ByteArray} {pc : Nat} {ls : Array Slot} {rest st0 : List Value} {a nL : Nat} {own : String} {G : mgT} {μ : mmT}
theorem mz_aast (S : CallFix p m c cc nL s args TT own) (hG : GK G s s.heap) (hM : Mm G μ H) (hS : va_S (Ah G) s.heap H locs) {i : Int32} {v j ci N : Nat} {C : String} {T : u_T} {ty : Nat → FieldType} (f : mzC ci C T N ty) (hd : decode cc pc = .ok (.aastore, 1)) (hj5 : 5 ≤ j) (hC : mmTy j = .object C) (ha : mK μ a = j + 32) (hv : mK μ v = ci + 1) (hin : vp_in i (mN μ a))
    (kk : ∀ (H1 : Heap) (locs1 : List Loc), Mm G (sB μ a i.toNatClampNeg (some v)) H1 → va_S (Ah G) s.heap H1 locs1 → H1.size = H.size → W p l e R s m args below meth c H1 locs1 cells slots Q (F0 m (pc + 1) ls rest)) : W p l e R s m args below meth c H locs cells slots Q (F0 m pc ls (.ref v :: .int i :: .ref a :: rest)) := by
  obtain ⟨hj, h1⟩ := mz_arr (j := j) hM ha
  have hlt : i.toNatClampNeg < mN μ a := Nat.not_le.mp fun q => hin (Or.inr q)
  have h0 : ¬ i < 0 := fun q => hin (Or.inl q)
  obtain ⟨cellV, g1, g2, g3, -⟩ := mz_obj hM f hv
  have hcls := (hG.1.1 ci _ f.2.1).2
  have hra := (hG.1.2 j _ (gTy_at hj)).2
  have hra : va_RA s (gC G j) (.object C) := by rw [← hC]; exact hra
  obtain ⟨kA, comp, k1, k2, k3, -⟩ := hra
  have hcomp : comp = (gD G).1 ci := Option.some.inj (k3.symm.trans hcls.1)
  subst hcomp
  obtain ⟨kC, hkC, -⟩ := hcls.2
  refine W.aast S.1 S.2.1 h1 (fun q h => by cases h) (fun h => by cases h) k1 k2 rfl hkC ⟨h0, by show _ < (arrV _ _ _).slots.size; rw [arrV_size]; exact hlt⟩ g1 (fun q h => by rw [g3] at h; cases h) (by rw [g2]; exact hkC) (by rw [g2]; exact va_assign hcls) rfl rfl hd fun H1 e z oq => ?_
  refine kk H1 _ (mz_astM (j := j) hM ha e z oq rfl rfl (fun _ _ => rfl) (fun b hb j' => ?_) (fun k => ?_)) (hS.put z oq (hM a (by omega)).1) z
  · funext k
    match j' with
    | 0 => rfl
    | 1 => rfl
    | 2 => rfl
    | 3 => rfl
    | 4 => rfl
    | j' + 5 =>
      simp [mmE, mB, sB, u2, hb]
  · match j, hj5 with
    | j + 5, _ =>
      by_cases hk : k = i.toNatClampNeg
      · subst hk
        simp [mmE, updV, mB, sB, u2]
        try rfl
      · simp [mmE, updV, mB, sB, u2, hk]
/-- System.arraycopy over int arrays, from one of ours into one of ours -/
theorem mz_copy (S : CallFix p m c cc nL s args TT own) (hG : GK G s s.heap) (hM : Mm G μ H) (hS : va_S (Ah G) s.heap H locs) (hl : ls.size = nL) {index a0 : Nat} (w1 : Cond.methodLink own index arraycopyName ∈ TT) (w2 : Cond.native arraycopyName ∈ TT) (w3 : Cond.static arraycopyName ∈ TT) (w4 : Cond.initialized "java/lang/System" ∈ TT)
    {sp dp n : Int32} (ha0 : mK μ a0 = 34) (ha : mK μ a = 34) (h1 : ¬ sp < 0) (h2 : ¬ dp < 0) (h3 : ¬ n < 0) (h4 : sp.toNatClampNeg + n.toNatClampNeg ≤ mN μ a0) (h5 : dp.toNatClampNeg + n.toNatClampNeg ≤ mN μ a)
    (hframes : 1 ≤ R.frames) (hlocals : (rest.map fun v => v.category).sum + (nativeFrameWords "java/lang/System" "arraycopy" 5 + 11) ≤ R.locals) (hd : decode cc pc = .ok (.invokestatic index, 3))
    (kk : ∀ (H1 : Heap) (locs1 : List Loc), Mm G (sC μ a0 sp.toNatClampNeg a dp.toNatClampNeg n.toNatClampNeg) H1 → va_S (Ah G) s.heap H1 locs1 → W p l e R s m args below meth c H1 locs1 cells slots Q (F0 m (pc + 3) ls rest)) : W p l e R s m args below meth c H locs cells slots Q (F0 m pc ls (.int n :: .int dp :: .ref a :: .int sp :: .ref a0 :: rest)) := by
  have nn : ∀ z : Int32, ¬ z < 0 → z.toInt = (z.toNatClampNeg : Int) := by
    intro z hz
    have hz0 : (0 : Int) ≤ z.toInt := by
      have := Int32.not_lt.mp hz
      simpa using Int32.le_iff_toInt_le.mp this
    show z.toInt = ((z.toInt.toNat : Nat) : Int)
    omega
  intro T hT X
  obtain ⟨hj, hc0⟩ := mz_arr (j := 2) hM ha0
  obtain ⟨-, hc1⟩ := mz_arr (j := 2) hM ha
  obtain ⟨-, k0, hk0, cm0, hkk0⟩ := (hG.1.2 2 _ (gTy_at hj)).1 (mN μ a0) (mmE μ 2 a0)
  obtain ⟨-, k1, hk1, cm1, hkk1⟩ := (hG.1.2 2 _ (gTy_at hj)).1 (mN μ a) (mmE μ 2 a)
  obtain ⟨vm', X', step⟩ := X.arraycopy S.1 S.2.2.2.1 (S.2.2.2.2 _ w1) (S.2.2.2.2 _ w2) (S.2.2.2.2 _ w3) (S.2.2.2.2 _ w4) (src := a0) (dst := a) (cs := arrV (gC G 2) (mN μ a0) (mmE μ 2 a0)) (cd := arrV (gC G 2) (mN μ a) (mmE μ 2 a)) (srcPos := sp) (destPos := dp) (n := n) (by rw [hT]; exact hc0) (by rw [hT]; exact hc1)
    (fun _ h => by cases h) (fun _ h => by cases h) (fun h => by cases h) (fun h => by cases h) hk0 hk1 hkk0 hkk1 (by simp [mmTy, refKind]) h1 h2 h3
    (by rw [nn sp h1, nn n h3, arrV_size]; omega)
    (by rw [nn dp h2, nn n h3, arrV_size]; omega)
    (fun vm₁ _ i hi => by
      have e : (arrV (gC G 2) (mN μ a0) (mmE μ 2 a0)).slots.getD (sp.toNatClampNeg + i) .null = .int (mA μ a0 (sp.toNatClampNeg + i)) := by
        rw [Array.getD_eq_getD_getElem?, arrV_read _ _ (by omega)]
        rfl
      refine ⟨?_, ?_⟩
      · rw [e]
        rfl
      · rw [e]
        exact trivial)
    (g := F0 m pc ls (.int n :: .int dp :: .ref a :: .int sp :: .ref a0 :: rest)) rfl (by rw [S.2.2.1]; exact hl) (rest := rest) rfl (by rw [S.2.1]; exact hd) hframes (by show 2 * 0 + _ + _ ≤ _; omega)
  have e1 : copied (arrV (gC G 2) (mN μ a0) (mmE μ 2 a0)) (arrV (gC G 2) (mN μ a) (mmE μ 2 a)) sp dp n = arrV (gC G 2) (mN μ a) (fun j => .int (va_cpy (mA μ a0) (mA μ a) sp.toNatClampNeg dp.toNatClampNeg n.toNatClampNeg j)) := va_copied (fun z => .int z) (gC G 2) (gC G 2) (mA μ a0) (mA μ a) h4
  rw [e1] at X' step
  have hl9 : a < H.size := (Array.getElem?_eq_some_iff.mp hc1).1
  generalize hcell : arrV (gC G 2) (mN μ a) (fun j => .int (va_cpy (mA μ a0) (mA μ a) sp.toNatClampNeg dp.toNatClampNeg n.toNatClampNeg j)) = cN at X' step
  have hheap : ((T.setVm vm').setCell a cN).heap = H.setIfInBounds a cN := by rw [← hT]; rfl
  have oq : ∀ q : Nat, q ≠ a → (H.setIfInBounds a cN)[q]? = H[q]? := fun q hq => by simp [Array.getElem?_setIfInBounds, Ne.symm hq]
  have hA : Ah G a := (hM a (by omega)).1
  have hM2 : Mm G (sC μ a0 sp.toNatClampNeg a dp.toNatClampNeg n.toNatClampNeg) (H.setIfInBounds a cN) := by
    refine hM.upd (by simp) oq rfl rfl (fun _ _ _ => rfl) (fun b hb j' => ?_) ⟨fun c' h hc => ?_, fun j' h => ?_⟩
    · funext k
      simp [mmE, mA, sC, hb]
      try rfl
    · have h : mK μ a = c' + 1 := h
      omega
    · have h : mK μ a = j' + 32 := h
      have e : j' = 2 := by omega
      subst e
      refine ⟨hj, ?_⟩
      show (H.setIfInBounds a cN)[a]? = _
      rw [← hcell]
      simp only [Array.getElem?_setIfInBounds, hl9, if_true]
      congr 2
      funext k
      simp [mmE, mA, sC, va_cpy]
  obtain ⟨t, a1, b1⟩ := kk _ _ hM2 ⟨by simp; exact hS.1, fun q g1 g2 => by
      rw [oq q (fun e => g2 (by rw [e]; exact hA))]
      exact hS.2.1 q g1 g2, fun q hq => by
      rcases List.mem_append.mp hq with h | h
      · exact hS.2.2 q h
      · obtain ⟨z, -, hz⟩ := List.mem_map.mp h
        rw [← hz]
        exact hA⟩ _ hheap X'
  exact ⟨t, step t a1, b1⟩
/-- the memory after a cell more -/
theorem Mm.push {μ' : mmT} {H' : Heap} {z : Nat} (hM : Mm G μ H) (hz : H.size = z) (hg : gh G ≤ z) (z1 : H'.size = z + 1) (oq : ∀ q : Nat, q < z → H'[q]? = H[q]?)
    (hK : ∀ b, b ≠ z → mK μ' b = mK μ b) (hN : ∀ b, b ≠ z → mN μ' b = mN μ b) (h1 : ∀ b, b ≠ z → ∀ ci, mmV μ' ci b = mmV μ ci b) (h2 : ∀ b, b ≠ z → ∀ j, mmE μ' j b = mmE μ j b) (h3 : mmOk G μ' H' z) : Mm G μ' H' := by
  intro b hb
  by_cases e : b = z
  · subst e
    exact ⟨hg, by omega, h3⟩
  · rw [hK b e] at hb
    obtain ⟨k1, k2, k3, k4⟩ := hM b hb
    have hlt : b < z := by omega
    refine ⟨k1, by omega, fun ci h hc => ?_, fun j h => ?_⟩
    · rw [hK b e] at h
      obtain ⟨r, r1, r2⟩ := k3 ci h hc
      refine ⟨r, r1, ?_⟩
      rw [h1 b e ci]
      exact r2.kept (oq b hlt)
    · rw [hK b e] at h
      obtain ⟨r1, r2⟩ := k4 j h
      refine ⟨r1, ?_⟩
      rw [h2 b e j, hN b e, oq b hlt]
      exact r2
theorem va_S.grow {A : Nat → Prop} {H0 H1 : Heap} (h : va_S A H0 H locs) (z : H1.size = H.size + 1) (oq : ∀ q : Nat, q < H.size → H1[q]? = H[q]?) : va_S A H0 H1 locs :=
  ⟨Nat.le_trans h.1 (by omega), fun x h1 h2 => (oq x (Nat.lt_of_lt_of_le h1 h.1)).trans (h.2.1 x h1 h2), h.2.2⟩
theorem mz_new (S : CallFix p m c cc nL s args TT own) (hG : GK G s s.heap) (hM : Mm G μ H) (hS : va_S (Ah G) s.heap H locs) {z : Nat} (hz : H.size = z) (hg : gh G ≤ z) {ci N index : Nat} {C : String} {T : u_T} {ty : Nat → FieldType} (f : mzC ci C T N ty) (hdv : ∀ k, k < N → defaultValue (ty k) = if mmRf ci k = true then .null else .int 0)
    (w1 : Cond.classLink own index C ∈ TT) (w2 : Cond.instantiable C N ∈ TT) (w3 : Cond.initialized C ∈ TT) (hcells : cells + 1 ≤ R.cells) (hslots : slots + N ≤ R.slots) (hd : decode cc pc = .ok (.new index, 3))
    (kk : ∀ (H1 : Heap), Mm G (nO μ z ci) H1 → va_S (Ah G) s.heap H1 locs → H1.size = z + 1 → W p l e R s m args below meth c H1 locs (cells + 1) (slots + N) Q (F0 m (pc + 3) ls (.ref z :: rest))) : W p l e R s m args below meth c H locs cells slots Q (F0 m pc ls rest) := by
  have hKn := hG.1.1 ci _ f.2.1
  subst hz
  refine W.newcK S.1 S.2.1 S.2.2.2.1 (S.2.2.2.2 _ w1) (S.2.2.2.2 _ w2) (S.2.2.2.2 _ w3) rfl hd hcells hslots hKn.2.1 rfl fun H1 kC hkC e1 z1 o1 => ?_
  refine kk H1 (hM.push rfl hg z1 o1 (fun b hb => ?_) (fun _ _ => rfl) (fun b hb c' => ?_) (fun _ _ _ => rfl) ⟨fun c' h hc => ?_, fun j h => ?_⟩) (hS.grow z1 o1) z1
  · simp [mK, nO, hb]
  · funext k
    dsimp only [mmV]
    by_cases h : mmRf c' k = true
    · rw [if_pos h, if_pos h]
      simp [mR, nO, hb]
    · rw [if_neg h, if_neg h]
      simp [mI, nO, hb]
  · have h : ci + 1 = c' + 1 := by simpa [mK, nO] using h
    have e : c' = ci := by omega
    subst e
    refine ⟨_, f.2.1, (u_born ty (fun w h => S.2.2.2.2 w h) f.2.2.1 hKn hkC e1 f.2.2.2.1).to (fun k hk => ?_)⟩
    rw [hdv k hk]
    dsimp only [mmV]
    by_cases h : mmRf c' k = true
    · rw [if_pos h, if_pos h]
      simp [mR, nO, va_rf]
    · rw [if_neg h, if_neg h]
      simp [mI, nO]
  · have h : ci + 1 = j + 32 := by simpa [mK, nO] using h
    have := f.1
    omega
theorem mmV_nA {z j n b : Nat} (ci : Nat) : mmV (nA μ z j n) ci b = mmV μ ci b := rfl
theorem mmE_nA {z j n b : Nat} (hb : b ≠ z) (j' : Nat) : mmE (nA μ z j n) j' b = mmE μ j' b := by
  funext k
  match j' with
  | 0 => simp [mmE, mA, nA, hb]
  | 1 => simp [mmE, mA, nA, hb]
  | 2 => simp [mmE, mA, nA, hb]
  | 3 => simp [mmE, mL, nA, hb]
  | 4 => simp [mmE, mD, nA, hb]
  | j' + 5 => simp [mmE, mB, nA, hb]
theorem mz_newa (S : CallFix p m c cc nL s args TT own) (hG : GK G s s.heap) (hM : Mm G μ H) (hS : va_S (Ah G) s.heap H locs) {z : Nat} (hz : H.size = z) (hg : gh G ≤ z) {j : Nat} (hj : j < 4) {atype : ArrayType} (hty : newarray.typeOf atype = mmTy j) (w1 : Cond.arrayClass (newarray.typeOf atype) ∈ TT) {n : Int32} {N : Nat} (hn : ¬ n < 0) (hN : n.toNatClampNeg = N) (hb : N * componentBytes (newarray.typeOf atype) ≤ 536870912)
    (hcells : cells + 1 ≤ R.cells) (hslots : slots + N ≤ R.slots) (hd : decode cc pc = .ok (.newarray atype, 2))
    (kk : ∀ (H1 : Heap), Mm G (nA μ z j N) H1 → va_S (Ah G) s.heap H1 locs → H1.size = z + 1 → W p l e R s m args below meth c H1 locs (cells + 1) (slots + N) Q (F0 m (pc + 2) ls (.ref z :: rest))) : W p l e R s m args below meth c H locs cells slots Q (F0 m pc ls (.int n :: rest)) := by
  subst hz
  refine va_newaK S.1 S.2.1 (S.2.2.2.2 _ w1) rfl hd rfl hn hN hb hcells hslots rfl fun H1 cA e1 z1 o1 hAr hNm => ?_
  have hra := (hG.1.2 j _ (gTy_at (by omega))).2
  have hcA : cA = gC G j := by
    rw [hty] at hNm
    match j, hj with
    | 0, _ => exact Option.some.inj (hNm.symm.trans hra)
    | 1, _ => exact Option.some.inj (hNm.symm.trans hra)
    | 2, _ => exact Option.some.inj (hNm.symm.trans hra)
    | 3, _ => exact Option.some.inj (hNm.symm.trans hra)
  refine kk H1 (hM.push rfl hg z1 o1 (fun b hb => ?_) (fun b hb => ?_) (fun b hb c' => rfl) (fun b hb j' => mmE_nA hb j') ⟨fun c' h hc => ?_, fun j' h => ?_⟩) (hS.grow z1 o1) z1
  · simp [mK, nA, hb]
  · simp [mN, nA, hb]
  · have h : j + 32 = c' + 1 := by simpa [mK, nA] using h
    omega
  · have h : j + 32 = j' + 32 := by simpa [mK, nA] using h
    have e : j' = j := by omega
    subst e
    refine ⟨by omega, ?_⟩
    rw [e1, hcA, hty]
    have hNN : mN (nA μ H.size j' N) H.size = N := by simp [mN, nA]
    rw [hNN]
    congr 2
    funext k
    match j', hj with
    | 0, _ => simp [mmE, mA, nA, mmTy, defaultValue]
    | 1, _ => simp [mmE, mA, nA, mmTy, defaultValue]
    | 2, _ => simp [mmE, mA, nA, mmTy, defaultValue]
    | 3, _ => simp [mmE, mL, nA, mmTy, defaultValue]
theorem mz_newq (S : CallFix p m c cc nL s args TT own) (hG : GK G s s.heap) (hM : Mm G μ H) (hS : va_S (Ah G) s.heap H locs) {z : Nat} (hz : H.size = z) (hg : gh G ≤ z) {j index : Nat} (hj5 : 5 ≤ j) (hj : j < 10) {C : String} (hC : mmTy j = .object C) (w1 : Cond.classLink own index C ∈ TT) {n : Int32} {N : Nat} (hn : ¬ n < 0) (hN : n.toNatClampNeg = N) (hb : N * 4 ≤ 536870912)
    (hcells : cells + 1 ≤ R.cells) (hslots : slots + N ≤ R.slots) (hd : decode cc pc = .ok (.anewarray index, 3))
    (kk : ∀ (H1 : Heap), Mm G (nA μ z j N) H1 → va_S (Ah G) s.heap H1 locs → H1.size = z + 1 → W p l e R s m args below meth c H1 locs (cells + 1) (slots + N) Q (F0 m (pc + 3) ls (.ref z :: rest))) : W p l e R s m args below meth c H locs cells slots Q (F0 m pc ls (.int n :: rest)) := by
  subst hz
  subst hN
  refine W.anew S.1 S.2.1 S.2.2.2.1 (S.2.2.2.2 _ w1) (va_AO.use (hG.2.2.1 j hj5 hj C hC)) rfl hd rfl hn hb hcells hslots fun cA kA comp f1 f2 f3 f4 => ?_
  generalize hH1 : H.push ({ cls := cA, slots := Array.replicate n.toNatClampNeg .null, vm := .none } : Cell) = H1
  have z1 : H1.size = H.size + 1 := by rw [← hH1, Array.size_push]
  have e1 : H1[H.size]? = some (arrV cA n.toNatClampNeg (fun _ => .null)) := by rw [← hH1, Array.getElem?_push_size, ← arrV_new]
  have o1 : ∀ q : Nat, q < H.size → H1[q]? = H[q]? := fun q hq => by rw [← hH1, Array.getElem?_push, if_neg (Nat.ne_of_lt hq)]
  have hra := (hG.1.2 j _ (gTy_at hj)).2
  have hra : va_RA s (gC G j) (.object C) := by rw [← hC]; exact hra
  obtain ⟨kA', comp', k1, k2, k3, k4⟩ := hra
  have hcA : cA = gC G j := Option.some.inj (f1.symm.trans k4)
  refine kk H1 (hM.push rfl hg z1 o1 (fun b hb => ?_) (fun b hb => ?_) (fun b hb c' => rfl) (fun b hb j' => mmE_nA hb j') ⟨fun c' h hc => ?_, fun j' h => ?_⟩) (hS.grow z1 o1) z1
  · simp [mK, nA, hb]
  · simp [mN, nA, hb]
  · have h : j + 32 = c' + 1 := by simpa [mK, nA] using h
    omega
  · have h : j + 32 = j' + 32 := by simpa [mK, nA] using h
    have e : j' = j := by omega
    subst e
    refine ⟨hj, ?_⟩
    rw [e1, hcA]
    have hNN : mN (nA μ H.size j' n.toNatClampNeg) H.size = n.toNatClampNeg := by simp [mN, nA]
    rw [hNN]
    congr 2
    funext k
    match j', hj5 with
    | j' + 5, _ => simp [mmE, mB, nA, va_rf]
end MROWS2
