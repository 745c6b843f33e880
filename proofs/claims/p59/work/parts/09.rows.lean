/-! ROWS OVER THE MEMORY -/
section MROWS
variable {p : Program} {l : Launch} {e : Env} {R : Room} {s : State} {m : MethodId} {args : Array Value} {below : List Frame} {meth : Method} {c : Code} {H : Heap} {locs : List Loc} {cells slots : Nat} {Q : State → Prop}
variable {cc : ByteArray} {pc : Nat} {ls : Array Slot} {rest st0 : List Value} {a nL : Nat} {own : String} {G : mgT} {μ : mmT}
theorem Mm.upd {μ' : mmT} {H' : Heap} (hM : Mm G μ H) (z : H'.size = H.size) (oq : ∀ q : Nat, q ≠ a → H'[q]? = H[q]?) (hK : mK μ' = mK μ) (hN : mN μ' = mN μ)
    (h1 : ∀ b, b ≠ a → ∀ ci, mmV μ' ci b = mmV μ ci b) (h2 : ∀ b, b ≠ a → ∀ j, mmE μ' j b = mmE μ j b) (h3 : mmOk G μ' H' a) : Mm G μ' H' := by
  intro b hb
  rw [hK] at hb
  obtain ⟨k1, k2, k3, k4⟩ := hM b hb
  refine ⟨k1, by rw [z]; exact k2, ?_⟩
  by_cases e : b = a
  · rw [e]; exact h3
  · refine ⟨fun ci h hc => ?_, fun j h => ?_⟩
    · rw [hK] at h
      obtain ⟨r, r1, r2⟩ := k3 ci h hc
      refine ⟨r, r1, ?_⟩
      rw [h1 b e ci]
      exact r2.kept (oq b e)
    · rw [hK] at h
      obtain ⟨r1, r2⟩ := k4 j h
      refine ⟨r1, ?_⟩
      rw [h2 b e j, hN, oq b e]
      exact r2
theorem mz_obj (hM : Mm G μ H) {ci N : Nat} {C : String} {T : u_T} {ty : Nat → FieldType} (f : mzC ci C T N ty) (ha : mK μ a = ci + 1) : t_OB a ((gD G).1 ci) N ((gD G).2 ci) H (mmV μ ci a) := by
  obtain ⟨r, h1, h2⟩ := (hM a (by omega)).2.2.1 ci ha f.1
  rw [f.2.1] at h1
  cases h1
  exact h2
theorem mz_arr (hM : Mm G μ H) {j : Nat} (ha : mK μ a = j + 32) : j < 10 ∧ H[a]? = some (arrV (gC G j) (mN μ a) (mmE μ j a)) := (hM a (by omega)).2.2.2 j ha
theorem mz_get (S : CallFix p m c cc nL s args TT own) (hG : GK G s s.heap) (hM : Mm G μ H) {ci k F N index : Nat} {C : String} {T : u_T} {ty : Nat → FieldType} {r : Bool} {o n d : String} {fin : Bool} (f : mzC ci C T N ty) (q : mzF F ci k T N r o n d fin) (hl : Cond.fieldLink own index o n d ∈ TT)
    (hd : decode cc pc = .ok (.getfield index, 3)) (ha : mK μ a = ci + 1) (kk : W p l e R s m args below meth c H locs cells slots Q (F0 m (pc + 3) ls (mmV μ ci a k :: rest))) : W p l e R s m args below meth c H locs cells slots Q (F0 m pc ls (.ref a :: rest)) := by
  obtain ⟨cell, q1, q2, q3, q4⟩ := mz_obj hM f ha
  obtain ⟨hS, hfc, kC, hkC, hkind⟩ := hG.1.1 ci _ f.2.1
  obtain ⟨hk, hF, hr, hT⟩ := q
  obtain ⟨cf, kf, fi, fd, hi, hsl⟩ := hS k hk
  have st := (u_facts hfc hkC (u_lays (fun w h => S.2.2.2.2 w h) f.2.2.1 hk) hi).1
  have hi' : s.fieldFound? o n d = some (cf, kf, fi, fd) := by dsimp only at hi; rw [hT] at hi; exact hi
  refine W.getf S.1 S.2.1 S.2.2.2.1 (S.2.2.2.2 _ hl) hi' st q1 (by rw [q3]; exact fun h => by cases h) (v := mmV μ ci a k) ?_ rfl rfl hd kk
  rw [hsl, q4 k hk]
theorem mz_geti (S : CallFix p m c cc nL s args TT own) (hG : GK G s s.heap) (hM : Mm G μ H) {ci k F N index : Nat} {C : String} {T : u_T} {ty : Nat → FieldType} {o n d : String} {fin : Bool} (f : mzC ci C T N ty) (q : mzF F ci k T N false o n d fin) (hl : Cond.fieldLink own index o n d ∈ TT)
    (hd : decode cc pc = .ok (.getfield index, 3)) (ha : mK μ a = ci + 1) (kk : W p l e R s m args below meth c H locs cells slots Q (F0 m (pc + 3) ls (.int (mI μ F a) :: rest))) : W p l e R s m args below meth c H locs cells slots Q (F0 m pc ls (.ref a :: rest)) := by
  refine mz_get S hG hM f q hl hd ha ?_
  have e : mmV μ ci a k = .int (mI μ F a) := by
    unfold mmV
    rw [q.2.2.1, q.2.1]
    rfl
  rw [e]
  exact kk
theorem mz_getr (S : CallFix p m c cc nL s args TT own) (hG : GK G s s.heap) (hM : Mm G μ H) {ci k F N index : Nat} {C : String} {T : u_T} {ty : Nat → FieldType} {o n d : String} {fin : Bool} (f : mzC ci C T N ty) (q : mzF F ci k T N true o n d fin) (hl : Cond.fieldLink own index o n d ∈ TT)
    (hd : decode cc pc = .ok (.getfield index, 3)) (ha : mK μ a = ci + 1) (kk : W p l e R s m args below meth c H locs cells slots Q (F0 m (pc + 3) ls (va_rf (mR μ F a) :: rest))) : W p l e R s m args below meth c H locs cells slots Q (F0 m pc ls (.ref a :: rest)) := by
  refine mz_get S hG hM f q hl hd ha ?_
  have e : mmV μ ci a k = va_rf (mR μ F a) := by
    unfold mmV
    rw [q.2.2.1, q.2.1]
    rfl
  rw [e]
  exact kk
/-- the memory after a write of field k (F) of the object at a -/
theorem mz_putM {μ' : mmT} {H' : Heap} {ci N k : Nat} {C : String} {T : u_T} {ty : Nat → FieldType} {v : Value} (hG : GK G s s.heap) (hts : ∀ w ∈ TT, w.before args s = true) (hM : Mm G μ H) (f : mzC ci C T N ty) (ha : mK μ a = ci + 1) (hk : k < N) {cell : Cell} (q1 : H[a]? = some cell) (e1 : H'[a]? = some (cell.setSlot ((gD G).2 ci k) v)) (z : H'.size = H.size) (oq : ∀ q : Nat, q ≠ a → H'[q]? = H[q]?)
    (hK : mK μ' = mK μ) (hN : mN μ' = mN μ) (h1 : ∀ b, b ≠ a → ∀ ci, mmV μ' ci b = mmV μ ci b) (h2 : ∀ b, ∀ j, mmE μ' j b = mmE μ j b) (hV : ∀ j, mmV μ' ci a j = updV (mmV μ ci a) k v j) : Mm G μ' H' := by
  obtain ⟨cell', p1, p2, p3, p4⟩ := mz_obj hM f ha
  cases q1.symm.trans p1
  have hap := va_apart (own := "") hts f.2.2.1 ty f.2.2.2.1 f.2.2.2.2 hG.1 f.2.1
  refine hM.upd z oq hK hN h1 (fun b _ => h2 b) ⟨fun c' h hc => ?_, fun j h => ?_⟩
  · rw [hK, ha] at h
    have e : c' = ci := by omega
    subst e
    refine ⟨_, f.2.1, t_OB.to (V := updV (mmV μ c' a) k v) ⟨_, e1, p2, p3, t_set p4 hap hk v⟩ (fun j _ => (hV j).symm)⟩
  · rw [hK, ha] at h
    have := f.1
    omega
theorem mz_put (S : CallFix p m c cc nL s args TT own) (hG : GK G s s.heap) (hM : Mm G μ H) (hS0 : va_S (Ah G) s.heap H locs) {μ' : mmT} {ci k F N index : Nat} {C : String} {T : u_T} {ty : Nat → FieldType} {r : Bool} {o n d : String} {v : Value} (f : mzC ci C T N ty) (q : mzF F ci k T N r o n d false) (hl : Cond.fieldLink own index o n d ∈ TT)
    (hd : decode cc pc = .ok (.putfield index, 3)) (ha : mK μ a = ci + 1) (hn : narrow (ty k) v = v) (hfit : fits (ty k) v = true)
    (hK : mK μ' = mK μ) (hN : mN μ' = mN μ) (h1 : ∀ b, b ≠ a → ∀ ci, mmV μ' ci b = mmV μ ci b) (h2 : ∀ b, ∀ j, mmE μ' j b = mmE μ j b) (hV : ∀ j, mmV μ' ci a j = updV (mmV μ ci a) k v j)
    (kk : ∀ (H1 : Heap) (locs1 : List Loc), Mm G μ' H1 → va_S (Ah G) s.heap H1 locs1 → H1.size = H.size → W p l e R s m args below meth c H1 locs1 cells slots Q (F0 m (pc + 3) ls rest)) : W p l e R s m args below meth c H locs cells slots Q (F0 m pc ls (v :: .ref a :: rest)) := by
  obtain ⟨cell, q1, q2, q3, q4⟩ := mz_obj hM f ha
  obtain ⟨hS, hfc, kC, hkC, hkind⟩ := hG.1.1 ci _ f.2.1
  obtain ⟨hk, hF, hr, hT⟩ := q
  obtain ⟨cf, kf, fi, fd, hi, hsl⟩ := hS k hk
  have hts : ∀ w ∈ TT, w.before args s = true := fun w h => S.2.2.2.2 w h
  have hlay := hts _ (f.2.2.1 _ (u_in_lay hk))
  unfold u_lay at hlay
  rw [if_neg (by rw [hT]; exact Bool.false_ne_true)] at hlay
  have st := (u_facts hfc hkC (u_lays hts f.2.2.1 hk) hi).1
  have h6 := u_store hfc hkC hkind hlay hi (f.2.2.2.1 k hk) hn hfit
  have hi' : s.fieldFound? o n d = some (cf, kf, fi, fd) := by dsimp only at hi; rw [hT] at hi; exact hi
  refine W.putK S.1 S.2.1 (f := fd) ⟨S.2.2.2.1, S.2.2.2.2 _ hl, ⟨_, _, _, hi'⟩, st⟩ (by rw [q2]; exact h6) q1 q3 (by rw [hsl]; exact k2_hasslot (q4 k hk)) rfl rfl hd fun H' e1 e2 e3 => ?_
  rw [hsl] at e1 ⊢
  exact kk H' _ (mz_putM hG hts hM f ha hk q1 e1 e2 e3 hK hN h1 h2 hV) (hS0.put e2 e3 (hM a (by omega)).1) e2
theorem mz_putF (S : CallFix p m c cc nL s args TT own) (hG : GK G s s.heap) (hM : Mm G μ H) (hS0 : va_S (Ah G) s.heap H locs) {μ' : mmT} {ci k F N index : Nat} {C : String} {T : u_T} {ty : Nat → FieldType} {r : Bool} {n d : String} {v : Value} (f : mzC ci C T N ty) (q : mzF F ci k T N r own n d true) (hl : Cond.fieldLink own index own n d ∈ TT)
    (hd : decode cc pc = .ok (.putfield index, 3)) (hin : meth.name = "<init>") (ha : mK μ a = ci + 1) (hn : narrow (ty k) v = v) (hfit : fits (ty k) v = true)
    (hK : mK μ' = mK μ) (hN : mN μ' = mN μ) (h1 : ∀ b, b ≠ a → ∀ ci, mmV μ' ci b = mmV μ ci b) (h2 : ∀ b, ∀ j, mmE μ' j b = mmE μ j b) (hV : ∀ j, mmV μ' ci a j = updV (mmV μ ci a) k v j)
    (kk : ∀ (H1 : Heap) (locs1 : List Loc), Mm G μ' H1 → va_S (Ah G) s.heap H1 locs1 → H1.size = H.size → W p l e R s m args below meth c H1 locs1 cells slots Q (F0 m (pc + 3) ls rest)) : W p l e R s m args below meth c H locs cells slots Q (F0 m pc ls (v :: .ref a :: rest)) := by
  obtain ⟨cell, q1, q2, q3, q4⟩ := mz_obj hM f ha
  obtain ⟨hS, hfc, kC, hkC, hkind⟩ := hG.1.1 ci _ f.2.1
  obtain ⟨hk, hF, hr, hT⟩ := q
  obtain ⟨cf, kf, fi, fd, hi, hsl⟩ := hS k hk
  have hts : ∀ w ∈ TT, w.before args s = true := fun w h => S.2.2.2.2 w h
  have hown := S.2.2.2.1
  have hlay := hts _ (f.2.2.1 _ (u_in_lay hk))
  unfold u_lay at hlay
  rw [if_pos (by rw [hT])] at hlay
  have st := (u_facts hfc hkC (u_lays hts f.2.2.1 hk) hi).1
  have hdecl : (T k).1 = own := by rw [hT]
  have hcf : m.cls = cf := by
    obtain ⟨_, _, c', _, _, _, -, -, hf', -, -, -, hown2, -⟩ := Cond.laysFinal_spec hlay
    have e1 : c' = cf := by have := hi.symm.trans hf'; simp at this; exact this.1.symm
    rw [hdecl] at hown2
    rw [← e1]; exact Option.some.inj (hown.symm.trans hown2)
  have h6 := u_fits hfc hkC hkind (Or.inr hlay) hi (f.2.2.2.1 k hk) hn hfit
  have hi' : s.fieldFound? own n d = some (cf, kf, fi, fd) := by dsimp only at hi; rw [hT] at hi; exact hi
  refine W.putFinK S.1 S.2.1 hown (S.2.2.2.2 _ hl) hi' st hcf hin (by rw [q2]; exact h6) q1 q3 (by rw [hsl]; exact k2_hasslot (q4 k hk)) rfl rfl hd fun H' e1 e2 e3 => ?_
  rw [hsl] at e1 ⊢
  exact kk H' _ (mz_putM hG hts hM f ha hk q1 e1 e2 e3 hK hN h1 h2 hV) (hS0.put e2 e3 (hM a (by omega)).1) e2
theorem mmV_sI {F ci k : Nat} {x : Int32} (hF : F = 32 * ci + k) (hr : mmRf ci k = false) (j : Nat) : mmV (sI μ F a x) ci a j = updV (mmV μ ci a) k (.int x) j := by
  subst hF
  dsimp only [mmV, updV]
  by_cases e : j = k
  · subst e
    rw [if_neg (by rw [hr]; exact Bool.false_ne_true), if_pos rfl]
    simp [mI, sI, u2]
  · rw [if_neg e]
    by_cases h : mmRf ci j = true
    · rw [if_pos h, if_pos h]; rfl
    · rw [if_neg h, if_neg h]
      simp [mI, sI, u2, e]
theorem mmV_sR {F ci k : Nat} {x : Option Nat} (hF : F = 32 * ci + k) (hr : mmRf ci k = true) (j : Nat) : mmV (sR μ F a x) ci a j = updV (mmV μ ci a) k (va_rf x) j := by
  subst hF
  dsimp only [mmV, updV]
  by_cases e : j = k
  · subst e
    rw [if_pos hr, if_pos rfl]
    simp [mR, sR, u2]
  · rw [if_neg e]
    by_cases h : mmRf ci j = true
    · rw [if_pos h, if_pos h]
      simp [mR, sR, u2, e]
    · rw [if_neg h, if_neg h]; rfl
theorem mmV_sIo {F : Nat} {x : Int32} {b : Nat} (hb : b ≠ a) (ci : Nat) : mmV (sI μ F a x) ci b = mmV μ ci b := by
  funext j
  dsimp only [mmV]
  by_cases h : mmRf ci j = true
  · rw [if_pos h, if_pos h]; rfl
  · rw [if_neg h, if_neg h]
    simp [mI, sI, u2, hb]
theorem mmV_sRo {F : Nat} {x : Option Nat} {b : Nat} (hb : b ≠ a) (ci : Nat) : mmV (sR μ F a x) ci b = mmV μ ci b := by
  funext j
  dsimp only [mmV]
  by_cases h : mmRf ci j = true
  · rw [if_pos h, if_pos h]
    simp [mR, sR, u2, hb]
  · rw [if_neg h, if_neg h]; rfl
theorem mz_puti (S : CallFix p m c cc nL s args TT own) (hG : GK G s s.heap) (hM : Mm G μ H) (hS0 : va_S (Ah G) s.heap H locs) {ci k F N index : Nat} {C : String} {T : u_T} {ty : Nat → FieldType} {o n d : String} {x : Int32} (f : mzC ci C T N ty) (q : mzF F ci k T N false o n d false) (hl : Cond.fieldLink own index o n d ∈ TT)
    (hd : decode cc pc = .ok (.putfield index, 3)) (ha : mK μ a = ci + 1) (hn : narrow (ty k) (.int x) = .int x) (hfit : fits (ty k) (.int x) = true)
    (kk : ∀ (H1 : Heap) (locs1 : List Loc), Mm G (sI μ F a x) H1 → va_S (Ah G) s.heap H1 locs1 → H1.size = H.size → W p l e R s m args below meth c H1 locs1 cells slots Q (F0 m (pc + 3) ls rest)) : W p l e R s m args below meth c H locs cells slots Q (F0 m pc ls (.int x :: .ref a :: rest)) :=
  mz_put (μ' := sI μ F a x) S hG hM hS0 f q hl hd ha hn hfit rfl rfl (fun b hb ci => mmV_sIo hb ci) (fun _ _ => rfl) (fun j => mmV_sI q.2.1 q.2.2.1 j) kk
theorem mz_putr (S : CallFix p m c cc nL s args TT own) (hG : GK G s s.heap) (hM : Mm G μ H) (hS0 : va_S (Ah G) s.heap H locs) {ci k F N index : Nat} {C : String} {T : u_T} {ty : Nat → FieldType} {o n d : String} {x : Option Nat} (f : mzC ci C T N ty) (q : mzF F ci k T N true o n d false) (hl : Cond.fieldLink own index o n d ∈ TT)
    (hd : decode cc pc = .ok (.putfield index, 3)) (ha : mK μ a = ci + 1) (hn : narrow (ty k) (va_rf x) = va_rf x) (hfit : fits (ty k) (va_rf x) = true)
    (kk : ∀ (H1 : Heap) (locs1 : List Loc), Mm G (sR μ F a x) H1 → va_S (Ah G) s.heap H1 locs1 → H1.size = H.size → W p l e R s m args below meth c H1 locs1 cells slots Q (F0 m (pc + 3) ls rest)) : W p l e R s m args below meth c H locs cells slots Q (F0 m pc ls (va_rf x :: .ref a :: rest)) :=
  mz_put (μ' := sR μ F a x) S hG hM hS0 f q hl hd ha hn hfit rfl rfl (fun b hb ci => mmV_sRo hb ci) (fun _ _ => rfl) (fun j => mmV_sR q.2.1 q.2.2.1 j) kk
theorem mz_putFr (S : CallFix p m c cc nL s args TT own) (hG : GK G s s.heap) (hM : Mm G μ H) (hS0 : va_S (Ah G) s.heap H locs) {ci k F N index : Nat} {C : String} {T : u_T} {ty : Nat → FieldType} {n d : String} {x : Option Nat} (f : mzC ci C T N ty) (q : mzF F ci k T N true own n d true) (hl : Cond.fieldLink own index own n d ∈ TT)
    (hd : decode cc pc = .ok (.putfield index, 3)) (hin : meth.name = "<init>") (ha : mK μ a = ci + 1) (hn : narrow (ty k) (va_rf x) = va_rf x) (hfit : fits (ty k) (va_rf x) = true)
    (kk : ∀ (H1 : Heap) (locs1 : List Loc), Mm G (sR μ F a x) H1 → va_S (Ah G) s.heap H1 locs1 → H1.size = H.size → W p l e R s m args below meth c H1 locs1 cells slots Q (F0 m (pc + 3) ls rest)) : W p l e R s m args below meth c H locs cells slots Q (F0 m pc ls (va_rf x :: .ref a :: rest)) :=
  mz_putF (μ' := sR μ F a x) S hG hM hS0 f q hl hd hin ha hn hfit rfl rfl (fun b hb ci => mmV_sRo hb ci) (fun _ _ => rfl) (fun j => mmV_sR q.2.1 q.2.2.1 j) kk
theorem mz_iald (S : CallFix p m c cc nL s args TT own) (hG : GK G s s.heap) (hM : Mm G μ H) {i : Int32} (hd : decode cc pc = .ok (.iaload, 1)) (ha : mK μ a = 34) (hin : vp_in i (mN μ a))
    (kk : W p l e R s m args below meth c H locs cells slots Q (F0 m (pc + 1) ls (.int (mA μ a i.toNatClampNeg) :: rest))) : W p l e R s m args below meth c H locs cells slots Q (F0 m pc ls (.int i :: .ref a :: rest)) := by
  obtain ⟨hj, h1⟩ := mz_arr (j := 2) hM ha
  have hlt : i.toNatClampNeg < mN μ a := Nat.not_le.mp fun q => hin (Or.inr q)
  exact W.iald (v := .int (mA μ a i.toNatClampNeg)) S.1 S.2.1 h1 ((hG.1.2 2 _ (gTy_at hj)).1 _ _) (fun q => by cases q) (by show ¬ (i < 0 ∨ (arrV _ _ _).slots.size ≤ _); rw [arrV_size]; exact hin) (by show (arrV _ _ _).slots[_]? = _; rw [arrV_read _ _ hlt]; rfl) rfl rfl hd kk
theorem mz_cald (S : CallFix p m c cc nL s args TT own) (hG : GK G s s.heap) (hM : Mm G μ H) {i : Int32} (hd : decode cc pc = .ok (.caload, 1)) (ha : mK μ a = 33) (hin : vp_in i (mN μ a))
    (kk : W p l e R s m args below meth c H locs cells slots Q (F0 m (pc + 1) ls (.int (mA μ a i.toNatClampNeg) :: rest))) : W p l e R s m args below meth c H locs cells slots Q (F0 m pc ls (.int i :: .ref a :: rest)) := by
  obtain ⟨hj, h1⟩ := mz_arr (j := 1) hM ha
  have hlt : i.toNatClampNeg < mN μ a := Nat.not_le.mp fun q => hin (Or.inr q)
  exact W.cald (v := .int (mA μ a i.toNatClampNeg)) S.1 S.2.1 h1 ((hG.1.2 1 _ (gTy_at hj)).1 _ _) (fun q => by cases q) (by show ¬ (i < 0 ∨ (arrV _ _ _).slots.size ≤ _); rw [arrV_size]; exact hin) (by show (arrV _ _ _).slots[_]? = _; rw [arrV_read _ _ hlt]; rfl) rfl rfl hd kk
theorem mz_bald (S : CallFix p m c cc nL s args TT own) (hG : GK G s s.heap) (hM : Mm G μ H) {i : Int32} (hd : decode cc pc = .ok (.baload, 1)) (ha : mK μ a = 32) (hin : vp_in i (mN μ a))
    (kk : W p l e R s m args below meth c H locs cells slots Q (F0 m (pc + 1) ls (.int (mA μ a i.toNatClampNeg) :: rest))) : W p l e R s m args below meth c H locs cells slots Q (F0 m pc ls (.int i :: .ref a :: rest)) := by
  obtain ⟨hj, h1⟩ := mz_arr (j := 0) hM ha
  have hlt : i.toNatClampNeg < mN μ a := Nat.not_le.mp fun q => hin (Or.inr q)
  exact W.bald (v := .int (mA μ a i.toNatClampNeg)) S.1 S.2.1 h1 ((hG.1.2 0 _ (gTy_at hj)).1 _ _) (fun q => by cases q) (by show ¬ (i < 0 ∨ (arrV _ _ _).slots.size ≤ _); rw [arrV_size]; exact hin) (by show (arrV _ _ _).slots[_]? = _; rw [arrV_read _ _ hlt]; rfl) rfl rfl hd kk
theorem mz_lald (S : CallFix p m c cc nL s args TT own) (hG : GK G s s.heap) (hM : Mm G μ H) {i : Int32} (hd : decode cc pc = .ok (.laload, 1)) (ha : mK μ a = 35) (hin : vp_in i (mN μ a))
    (kk : W p l e R s m args below meth c H locs cells slots Q (F0 m (pc + 1) ls (.long (mL μ a i.toNatClampNeg) :: rest))) : W p l e R s m args below meth c H locs cells slots Q (F0 m pc ls (.int i :: .ref a :: rest)) := by
  obtain ⟨hj, h1⟩ := mz_arr (j := 3) hM ha
  have hlt : i.toNatClampNeg < mN μ a := Nat.not_le.mp fun q => hin (Or.inr q)
  exact W.lald (v := .long (mL μ a i.toNatClampNeg)) S.1 S.2.1 h1 ((hG.1.2 3 _ (gTy_at hj)).1 _ _) (fun q => by cases q) (by show ¬ (i < 0 ∨ (arrV _ _ _).slots.size ≤ _); rw [arrV_size]; exact hin) (by show (arrV _ _ _).slots[_]? = _; rw [arrV_read _ _ hlt]; rfl) rfl rfl hd kk
theorem mz_aald (S : CallFix p m c cc nL s args TT own) (hG : GK G s s.heap) (hM : Mm G μ H) {i : Int32} {j : Nat} {C : String} (hd : decode cc pc = .ok (.aaload, 1)) (hj5 : 5 ≤ j) (hC : mmTy j = .object C) (ha : mK μ a = j + 32) (hin : vp_in i (mN μ a))
    (kk : W p l e R s m args below meth c H locs cells slots Q (F0 m (pc + 1) ls (va_rf (mB μ a i.toNatClampNeg) :: rest))) : W p l e R s m args below meth c H locs cells slots Q (F0 m pc ls (.int i :: .ref a :: rest)) := by
  obtain ⟨hj, h1⟩ := mz_arr (j := j) hM ha
  have hlt : i.toNatClampNeg < mN μ a := Nat.not_le.mp fun q => hin (Or.inr q)
  have h2 := (hG.1.2 j _ (gTy_at hj)).1
  have hE : mmE μ j a = fun i => va_rf (mB μ a i) := by
    match j, hj5 with
    | j + 5, _ => rfl
  rw [hE] at h1
  exact W.aald (v := va_rf (mB μ a i.toNatClampNeg)) (ty := mmTy j) S.1 S.2.1 h1 (h2 _ _) (by rw [hC]; rfl) (fun q => by cases q) (by show ¬ (i < 0 ∨ (arrV _ _ _).slots.size ≤ _); rw [arrV_size]; exact hin) (by show (arrV _ _ _).slots[_]? = _; rw [arrV_read _ _ hlt]) rfl rfl hd kk
theorem mz_alen (S : CallFix p m c cc nL s args TT own) (hG : GK G s s.heap) (hM : Mm G μ H) {j : Nat} (hd : decode cc pc = .ok (.arraylength, 1)) (ha : mK μ a = j + 32)
    (kk : W p l e R s m args below meth c H locs cells slots Q (F0 m (pc + 1) ls (.int (nI (mN μ a)) :: rest))) : W p l e R s m args below meth c H locs cells slots Q (F0 m pc ls (.ref a :: rest)) := by
  obtain ⟨hj, h1⟩ := mz_arr (j := j) hM ha
  exact W.alen (n := nI (mN μ a)) S.1 S.2.1 h1 ((hG.1.2 j _ (gTy_at hj)).1 _ _) (by rw [arrV_size]; rfl) rfl rfl hd kk
/-- the memory after a write into the array at a -/
theorem mz_astM {μ' : mmT} {H' : Heap} {j i : Nat} {v : Value} (hM : Mm G μ H) (ha : mK μ a = j + 32) (e1 : H'[a]? = some ((arrV (gC G j) (mN μ a) (mmE μ j a)).setSlot i v)) (z : H'.size = H.size) (oq : ∀ q : Nat, q ≠ a → H'[q]? = H[q]?)
    (hK : mK μ' = mK μ) (hN : mN μ' = mN μ) (h1 : ∀ b, ∀ ci, mmV μ' ci b = mmV μ ci b) (h2 : ∀ b, b ≠ a → ∀ j, mmE μ' j b = mmE μ j b) (hV : ∀ k, mmE μ' j a k = updV (mmE μ j a) i v k) : Mm G μ' H' := by
  obtain ⟨hj, -⟩ := mz_arr (j := j) hM ha
  refine hM.upd z oq hK hN (fun b _ => h1 b) h2 ⟨fun c' h hc => ?_, fun j' h => ?_⟩
  · rw [hK, ha] at h
    omega
  · rw [hK, ha] at h
    have e : j' = j := by omega
    subst e
    refine ⟨hj, ?_⟩
    rw [e1, arrV_store, hN]
    congr 2
    funext k
    exact (hV k).symm
theorem mz_iast (S : CallFix p m c cc nL s args TT own) (hG : GK G s s.heap) (hM : Mm G μ H) (hS : va_S (Ah G) s.heap H locs) {i : Int32} {x : Int32} (hd : decode cc pc = .ok (.iastore, 1)) (ha : mK μ a = 34) (hin : vp_in i (mN μ a))
    (kk : ∀ (H1 : Heap) (locs1 : List Loc), Mm G (sA μ a i.toNatClampNeg (x)) H1 → va_S (Ah G) s.heap H1 locs1 → H1.size = H.size → W p l e R s m args below meth c H1 locs1 cells slots Q (F0 m (pc + 1) ls rest)) : W p l e R s m args below meth c H locs cells slots Q (F0 m pc ls (.int x :: .int i :: .ref a :: rest)) := by
  obtain ⟨hj, h1⟩ := mz_arr (j := 2) hM ha
  refine W.iast S.1 S.2.1 h1 ((hG.1.2 2 _ (gTy_at hj)).1 _ _) (fun q => by cases q) (by show ¬ (i < 0 ∨ (arrV _ _ _).slots.size ≤ _); rw [arrV_size]; exact hin) rfl rfl hd fun H1 e z oq => ?_
  refine kk H1 _ (mz_astM (j := 2) hM ha e z oq rfl rfl (fun _ _ => rfl) (fun b hb j' => ?_) (fun k => ?_)) (hS.put z oq (hM a (by omega)).1) z
  · funext k
    simp [mmE, mA, sA, u2, hb]
    try rfl
  · by_cases hk : k = i.toNatClampNeg
    · subst hk
      simp [mmE, updV, mA, sA, u2, vp_nar]
      try rfl
    · simp [mmE, updV, mA, sA, u2, hk]
      try rfl
theorem mz_cast (S : CallFix p m c cc nL s args TT own) (hG : GK G s s.heap) (hM : Mm G μ H) (hS : va_S (Ah G) s.heap H locs) {i : Int32} {x : Int32} (hd : decode cc pc = .ok (.castore, 1)) (ha : mK μ a = 33) (hin : vp_in i (mN μ a))
    (kk : ∀ (H1 : Heap) (locs1 : List Loc), Mm G (sA μ a i.toNatClampNeg (vp_nar .char x)) H1 → va_S (Ah G) s.heap H1 locs1 → H1.size = H.size → W p l e R s m args below meth c H1 locs1 cells slots Q (F0 m (pc + 1) ls rest)) : W p l e R s m args below meth c H locs cells slots Q (F0 m pc ls (.int x :: .int i :: .ref a :: rest)) := by
  obtain ⟨hj, h1⟩ := mz_arr (j := 1) hM ha
  refine W.cast S.1 S.2.1 h1 ((hG.1.2 1 _ (gTy_at hj)).1 _ _) (fun q => by cases q) (by show ¬ (i < 0 ∨ (arrV _ _ _).slots.size ≤ _); rw [arrV_size]; exact hin) rfl rfl hd fun H1 e z oq => ?_
  refine kk H1 _ (mz_astM (j := 1) hM ha e z oq rfl rfl (fun _ _ => rfl) (fun b hb j' => ?_) (fun k => ?_)) (hS.put z oq (hM a (by omega)).1) z
  · funext k
    simp [mmE, mA, sA, u2, hb]
    try rfl
  · by_cases hk : k = i.toNatClampNeg
    · subst hk
      simp [mmE, updV, mA, sA, u2, vp_nar]
      try rfl
    · simp [mmE, updV, mA, sA, u2, hk]
      try rfl
theorem mz_bast (S : CallFix p m c cc nL s args TT own) (hG : GK G s s.heap) (hM : Mm G μ H) (hS : va_S (Ah G) s.heap H locs) {i : Int32} {x : Int32} (hd : decode cc pc = .ok (.bastore, 1)) (ha : mK μ a = 32) (hin : vp_in i (mN μ a))
    (kk : ∀ (H1 : Heap) (locs1 : List Loc), Mm G (sA μ a i.toNatClampNeg (vp_nar .byte x)) H1 → va_S (Ah G) s.heap H1 locs1 → H1.size = H.size → W p l e R s m args below meth c H1 locs1 cells slots Q (F0 m (pc + 1) ls rest)) : W p l e R s m args below meth c H locs cells slots Q (F0 m pc ls (.int x :: .int i :: .ref a :: rest)) := by
  obtain ⟨hj, h1⟩ := mz_arr (j := 0) hM ha
  refine W.bast S.1 S.2.1 h1 ((hG.1.2 0 _ (gTy_at hj)).1 _ _) (fun q => by cases q) (by show ¬ (i < 0 ∨ (arrV _ _ _).slots.size ≤ _); rw [arrV_size]; exact hin) rfl rfl hd fun H1 e z oq => ?_
  refine kk H1 _ (mz_astM (j := 0) hM ha e z oq rfl rfl (fun _ _ => rfl) (fun b hb j' => ?_) (fun k => ?_)) (hS.put z oq (hM a (by omega)).1) z
  · funext k
    simp [mmE, mA, sA, u2, hb]
    try rfl
  · by_cases hk : k = i.toNatClampNeg
    · subst hk
      simp [mmE, updV, mA, sA, u2, vp_nar]
      try rfl
    · simp [mmE, updV, mA, sA, u2, hk]
      try rfl
theorem mz_last (S : CallFix p m c cc nL s args TT own) (hG : GK G s s.heap) (hM : Mm G μ H) (hS : va_S (Ah G) s.heap H locs) {i : Int32} {x : Int64} (hd : decode cc pc = .ok (.lastore, 1)) (ha : mK μ a = 35) (hin : vp_in i (mN μ a))
    (kk : ∀ (H1 : Heap) (locs1 : List Loc), Mm G (sL μ a i.toNatClampNeg (x)) H1 → va_S (Ah G) s.heap H1 locs1 → H1.size = H.size → W p l e R s m args below meth c H1 locs1 cells slots Q (F0 m (pc + 1) ls rest)) : W p l e R s m args below meth c H locs cells slots Q (F0 m pc ls (.long x :: .int i :: .ref a :: rest)) := by
  obtain ⟨hj, h1⟩ := mz_arr (j := 3) hM ha
  refine W.last S.1 S.2.1 h1 ((hG.1.2 3 _ (gTy_at hj)).1 _ _) (fun q => by cases q) (by show ¬ (i < 0 ∨ (arrV _ _ _).slots.size ≤ _); rw [arrV_size]; exact hin) rfl rfl hd fun H1 e z oq => ?_
  refine kk H1 _ (mz_astM (j := 3) hM ha e z oq rfl rfl (fun _ _ => rfl) (fun b hb j' => ?_) (fun k => ?_)) (hS.put z oq (hM a (by omega)).1) z
  · funext k
    simp [mmE, mL, sL, u2, hb]
    try rfl
  · by_cases hk : k = i.toNatClampNeg
    · subst hk
      simp [mmE, updV, mL, sL, u2, vp_nar]
      try rfl
    · simp [mmE, updV, mL, sL, u2, hk]
      try rfl
end MROWS
