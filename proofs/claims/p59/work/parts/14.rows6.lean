section MROWS6
variable {p : Program} {l : Launch} {e : Env} {R : Room} {s : State} {m : MethodId} {args : Array Value} {below : List Frame} {meth : Method} {c : Code} {H : Heap} {locs : List Loc} {cells slots : Nat} {Q : State → Prop}
variable {cc : ByteArray} {pc : Nat} {ls : Array Slot} {rest st0 : List Value} {a nL : Nat} {own : String} {G : mgT} {μ : mmT} {post : Option Value → mmT → Prop} {px : String → mmT → Prop}
theorem mz_throwW (S : CallFix p m c cc nL s args TT own) (hl : l.stackTraces = false) (hG : GK G s s.heap) (hM : Mm G μ H) (hS : va_S (Ah G) s.heap H locs) (hex : ∀ x ∈ c.exceptionTable.toList, False) (hlk : meth.locks = false) (hsz : ls.size = nL) {ik ic is j mc ms : Nat} {cls text : String} (x : mzX own ik ic cls) (hj : gStr[j]? = some (own, is, text))
    (d0 : decode cc pc = .ok (.new ik, 3)) (d3 : decode cc (pc + 3) = .ok (.dup, 1)) (d4 : decode cc (pc + 4) = .ok (.ldc_w is, 3)) (d6 : decode cc (pc + 7) = .ok (.invokespecial ic, 3)) (d9 : decode cc (pc + 10) = .ok (.athrow, 1))
    (hRf : 5 < R.frames) (hRl : (rest.map fun v => v.category).sum + 82 ≤ R.locals) (hRc : cells + 1 ≤ R.cells) (hRs : slots + 6 ≤ R.slots) (hc : cells + 1 ≤ mc) (hs : slots + 6 ≤ ms) (hp : px cls μ) :
    W p l e R s m args below meth c H locs cells slots (vx_MQ below (mQ G post) (mX G px) args s mc ms (Ah G)) (F0 m pc ls rest) := by
  obtain ⟨x1, x2, x3, x4, x5, x6⟩ := x
  have hts : ∀ w ∈ TT, w.before args s = true := fun w h => S.2.2.2.2 w h
  refine vx_throwSW (names := mzNm) (A := Ah G) (sa := gS G j) S.1 S.2.1 hl S.2.2.2.1 x1 x2 (hts _ x3) (hts _ x4) (hG.2.2.2.2.2.1 j _ hj) (fun w hw => ?_) (fun w hw => ?_) hG.2.2.2.2.1.1 hG.2.2.2.2.1.2 hS (hsz.trans S.2.2.1.symm) d0 d3 d4 d6 d9 (fun x hx => (hex x hx).elim) hRf hRl hRc hRs hlk (fun t hvm hsz hq => ?_) hS.2.2 hc hs
  · rcases x5 w hw with h | ⟨h, ho⟩
    · exact hts _ h
    · have hz := hG.2.1 w h ho
      cases w with
      | declares x => exact va_Nw.use rfl hz
      | castable a b => exact va_Nw.use rfl hz
      | methodLinkNest a i x h => exact va_Nw.use rfl hz
      | fieldLinkNest a i b n d h => exact va_Nw.use rfl hz
      | _ => cases ho
  · rcases List.mem_cons.mp hw with h | h
    · rw [h]; rfl
    · rcases List.mem_cons.mp h with h | h
      · rw [h]; rfl
      · exact x6 w h
  · exact ⟨μ, hp, hM.keep hsz hq, ⟨Nat.le_trans hS.1 hsz, fun q h1 h2 => (hq q (Nat.lt_of_lt_of_le h1 hS.1)).trans (hS.2.1 q h1 h2)⟩⟩
theorem mz_nZ {x : Int32} (h : x = 0 ∨ x = 1) : narrow .boolean (.int x) = .int x := by rcases h with rfl | rfl <;> rfl
theorem mz_fZ {x : Int32} (h : x = 0 ∨ x = 1) : fits .boolean (.int x) = true := by rcases h with rfl | rfl <;> rfl
def isCh (x : Int32) : Prop := ∃ n : Nat, n < 65536 ∧ x = nI n
theorem mz_nC {x : Int32} (h : isCh x) : narrow .char (.int x) = .int x := by obtain ⟨n, hn, rfl⟩ := h; exact (pk_charN hn).1
theorem mz_fC {x : Int32} (h : isCh x) : fits .char (.int x) = true := by obtain ⟨n, hn, rfl⟩ := h; exact (pk_charN hn).2
theorem mz_table (hexec : p.tables.exec = Jvm.exec) (hb : c.code = cc) {dflt lo hi : Int} {offs : Array Int} {len : Nat} {x : Int32} {tgt : Nat} (hdg : decode cc pc = .ok (.tableswitch dflt lo hi offs, len)) (hsz : (hi - lo).toNat < offs.size) (ht : (pc : Int) + (if x.toInt < lo ∨ hi < x.toInt then dflt else (offs[(x.toInt - lo).toNat]?).getD dflt) = (tgt : Int))
    (k : W p l e R s m args below meth c H locs cells slots Q (F0 m tgt ls rest)) : W p l e R s m args below meth c H locs cells slots Q (F0 m pc ls (.int x :: rest)) := by
  by_cases h : x.toInt < lo ∨ hi < x.toInt
  · rw [if_pos h] at ht
    exact lv_tableOut hexec hb hdg h ht k
  · rw [if_neg h] at ht
    have hj : (x.toInt - lo).toNat < offs.size := by omega
    refine lv_tableIn hexec hb hdg (fun q => h (Or.inl q)) (fun q => h (Or.inr q)) (off := (offs[(x.toInt - lo).toNat]?).getD dflt) ?_ ht k
    rw [Array.getElem?_eq_getElem hj]
    rfl
/-- none of the keys: the default -/
theorem mz_dflt {dflt lo hi : Int} {offs : Array Int} {x : Int32} (ks : List Nat) (n : Nat) (h1 : hi < lo + n) (h2 : ∀ j, j < n → (lo + (j : Int)).toNat ∉ ks → (offs[j]?).getD dflt = dflt) (h0 : 0 ≤ lo) (hk : hi < 2 ^ 31) (hx : ∀ k ∈ ks, ¬ x = nI k) : (if x.toInt < lo ∨ hi < x.toInt then dflt else (offs[(x.toInt - lo).toNat]?).getD dflt) = dflt := by
  by_cases h : x.toInt < lo ∨ hi < x.toInt
  · rw [if_pos h]
  · rw [if_neg h]
    refine h2 _ (by omega) (fun hm => hx _ hm ?_)
    have e : lo + ((x.toInt - lo).toNat : Int) = x.toInt := by omega
    rw [e]
    apply Int32.toInt_inj.mp
    rw [nI_toInt (by omega)]
    omega
end MROWS6
