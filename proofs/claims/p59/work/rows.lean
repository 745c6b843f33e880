section
-- ===== PART A: goes FIRST, ahead of the names: the tables' words, and 'selects' of the private methods out of them =====
/-- a private method of a class that the tables say can be made, by its rows of tables_1 -/
def lw_okq (q : MethodName × Nat) : Prop := (q.1.cls ≠ "java/lang/invoke/MethodHandle" ∧ q.1.cls ≠ "java/lang/invoke/VarHandle") ∧ Cond.instantiable q.1.cls q.2 ∈ tables_1 ∧ Cond.privateMethod q.1 ∈ tables_1 ∧ Cond.instanceMethod q.1 ∈ tables_1
theorem lw_p0 : lw_okq (⟨"java/lang/Throwable", "fillInStackTrace", "(I)Ljava/lang/Throwable;"⟩, 6) := ⟨⟨by decide +kernel, by decide +kernel⟩, List.mem_of_getElem? (i := 455) (by decide +kernel), List.mem_of_getElem? (i := 453) (by decide +kernel), List.mem_of_getElem? (i := 454) (by decide +kernel)⟩
theorem lw_p1 : lw_okq (⟨"CrowMail", "existingMessage", "(I)LCrowMail$Message;"⟩, 10) := ⟨⟨by decide +kernel, by decide +kernel⟩, List.mem_of_getElem? (i := 37) (by decide +kernel), List.mem_of_getElem? (i := 491) (by decide +kernel), List.mem_of_getElem? (i := 492) (by decide +kernel)⟩
theorem lw_p2 : lw_okq (⟨"CrowMail$State", "rowOf", "(I)I"⟩, 9) := ⟨⟨by decide +kernel, by decide +kernel⟩, List.mem_of_getElem? (i := 45) (by decide +kernel), List.mem_of_getElem? (i := 499) (by decide +kernel), List.mem_of_getElem? (i := 500) (by decide +kernel)⟩
theorem lw_p3 : lw_okq (⟨"CrowMail", "foreseenMinutes", "(I)I"⟩, 10) := ⟨⟨by decide +kernel, by decide +kernel⟩, List.mem_of_getElem? (i := 37) (by decide +kernel), List.mem_of_getElem? (i := 536) (by decide +kernel), List.mem_of_getElem? (i := 537) (by decide +kernel)⟩
theorem lw_p4 : lw_okq (⟨"CrowMail$State", "landCrows", "()V"⟩, 9) := ⟨⟨by decide +kernel, by decide +kernel⟩, List.mem_of_getElem? (i := 45) (by decide +kernel), List.mem_of_getElem? (i := 567) (by decide +kernel), List.mem_of_getElem? (i := 568) (by decide +kernel)⟩
theorem lw_p5 : lw_okq (⟨"CrowMail$State", "arrive", "(I)V"⟩, 9) := ⟨⟨by decide +kernel, by decide +kernel⟩, List.mem_of_getElem? (i := 45) (by decide +kernel), List.mem_of_getElem? (i := 571) (by decide +kernel), List.mem_of_getElem? (i := 572) (by decide +kernel)⟩
theorem lw_p6 : lw_okq (⟨"CrowMail$State", "remove", "(I)V"⟩, 9) := ⟨⟨by decide +kernel, by decide +kernel⟩, List.mem_of_getElem? (i := 45) (by decide +kernel), List.mem_of_getElem? (i := 588) (by decide +kernel), List.mem_of_getElem? (i := 589) (by decide +kernel)⟩
theorem lw_p7 : lw_okq (⟨"CrowMail$Nest", "learn", "(I)V"⟩, 7) := ⟨⟨by decide +kernel, by decide +kernel⟩, List.mem_of_getElem? (i := 97) (by decide +kernel), List.mem_of_getElem? (i := 601) (by decide +kernel), List.mem_of_getElem? (i := 602) (by decide +kernel)⟩
theorem lw_p8 : lw_okq (⟨"CrowMail$State", "wakeMessages", "()V"⟩, 9) := ⟨⟨by decide +kernel, by decide +kernel⟩, List.mem_of_getElem? (i := 45) (by decide +kernel), List.mem_of_getElem? (i := 608) (by decide +kernel), List.mem_of_getElem? (i := 609) (by decide +kernel)⟩
theorem lw_p9 : lw_okq (⟨"CrowMail$State", "sendCrows", "()V"⟩, 9) := ⟨⟨by decide +kernel, by decide +kernel⟩, List.mem_of_getElem? (i := 45) (by decide +kernel), List.mem_of_getElem? (i := 612) (by decide +kernel), List.mem_of_getElem? (i := 613) (by decide +kernel)⟩
theorem lw_p10 : lw_okq (⟨"CrowMail$State", "flightLength", "(LCrowMail$Message;)I"⟩, 9) := ⟨⟨by decide +kernel, by decide +kernel⟩, List.mem_of_getElem? (i := 45) (by decide +kernel), List.mem_of_getElem? (i := 620) (by decide +kernel), List.mem_of_getElem? (i := 621) (by decide +kernel)⟩
theorem lw_p11 : lw_okq (⟨"CrowMail", "settle", "(I)I"⟩, 10) := ⟨⟨by decide +kernel, by decide +kernel⟩, List.mem_of_getElem? (i := 37) (by decide +kernel), List.mem_of_getElem? (i := 648) (by decide +kernel), List.mem_of_getElem? (i := 649) (by decide +kernel)⟩
theorem lw_p12 : lw_okq (⟨"CrowMail$Script", "readCommand", "(LCrowMail$Command;I)Z"⟩, 9) := ⟨⟨by decide +kernel, by decide +kernel⟩, List.mem_of_getElem? (i := 248) (by decide +kernel), List.mem_of_getElem? (i := 1058) (by decide +kernel), List.mem_of_getElem? (i := 1059) (by decide +kernel)⟩
theorem lw_p13 : lw_okq (⟨"CrowMail$Script", "match", "(Ljava/lang/String;I)I"⟩, 9) := ⟨⟨by decide +kernel, by decide +kernel⟩, List.mem_of_getElem? (i := 248) (by decide +kernel), List.mem_of_getElem? (i := 1064) (by decide +kernel), List.mem_of_getElem? (i := 1065) (by decide +kernel)⟩
theorem lw_p14 : lw_okq (⟨"CrowMail$Script", "widthOf", "(CI)I"⟩, 9) := ⟨⟨by decide +kernel, by decide +kernel⟩, List.mem_of_getElem? (i := 248) (by decide +kernel), List.mem_of_getElem? (i := 1070) (by decide +kernel), List.mem_of_getElem? (i := 1071) (by decide +kernel)⟩
theorem lw_p15 : lw_okq (⟨"CrowMail$Script", "readNumber", "(II)I"⟩, 9) := ⟨⟨by decide +kernel, by decide +kernel⟩, List.mem_of_getElem? (i := 248) (by decide +kernel), List.mem_of_getElem? (i := 1074) (by decide +kernel), List.mem_of_getElem? (i := 1075) (by decide +kernel)⟩
def lw_privs_1 : List (MethodName × Nat) := [(⟨"java/lang/Throwable", "fillInStackTrace", "(I)Ljava/lang/Throwable;"⟩, 6), (⟨"CrowMail", "existingMessage", "(I)LCrowMail$Message;"⟩, 10), (⟨"CrowMail$State", "rowOf", "(I)I"⟩, 9), (⟨"CrowMail", "foreseenMinutes", "(I)I"⟩, 10), (⟨"CrowMail$State", "landCrows", "()V"⟩, 9), (⟨"CrowMail$State", "arrive", "(I)V"⟩, 9), (⟨"CrowMail$State", "remove", "(I)V"⟩, 9), (⟨"CrowMail$Nest", "learn", "(I)V"⟩, 7), (⟨"CrowMail$State", "wakeMessages", "()V"⟩, 9), (⟨"CrowMail$State", "sendCrows", "()V"⟩, 9), (⟨"CrowMail$State", "flightLength", "(LCrowMail$Message;)I"⟩, 9), (⟨"CrowMail", "settle", "(I)I"⟩, 10), (⟨"CrowMail$Script", "readCommand", "(LCrowMail$Command;I)Z"⟩, 9), (⟨"CrowMail$Script", "match", "(Ljava/lang/String;I)I"⟩, 9), (⟨"CrowMail$Script", "widthOf", "(CI)I"⟩, 9), (⟨"CrowMail$Script", "readNumber", "(II)I"⟩, 9)]
theorem lw_r1 : ∀ q ∈ lw_privs_1, lw_okq q := List.forall_mem_cons.mpr ⟨lw_p0, List.forall_mem_cons.mpr ⟨lw_p1, List.forall_mem_cons.mpr ⟨lw_p2, List.forall_mem_cons.mpr ⟨lw_p3, List.forall_mem_cons.mpr ⟨lw_p4, List.forall_mem_cons.mpr ⟨lw_p5, List.forall_mem_cons.mpr ⟨lw_p6, List.forall_mem_cons.mpr ⟨lw_p7, List.forall_mem_cons.mpr ⟨lw_p8, List.forall_mem_cons.mpr ⟨lw_p9, List.forall_mem_cons.mpr ⟨lw_p10, List.forall_mem_cons.mpr ⟨lw_p11, List.forall_mem_cons.mpr ⟨lw_p12, List.forall_mem_cons.mpr ⟨lw_p13, List.forall_mem_cons.mpr ⟨lw_p14, List.forall_mem_cons.mpr ⟨lw_p15, fun _ h => absurd h List.not_mem_nil⟩⟩⟩⟩⟩⟩⟩⟩⟩⟩⟩⟩⟩⟩⟩⟩
theorem lw_p16 : lw_okq (⟨"CrowMail$Script", "isDigitAt", "(I)Z"⟩, 9) := ⟨⟨by decide +kernel, by decide +kernel⟩, List.mem_of_getElem? (i := 248) (by decide +kernel), List.mem_of_getElem? (i := 1078) (by decide +kernel), List.mem_of_getElem? (i := 1079) (by decide +kernel)⟩
theorem lw_p17 : lw_okq (⟨"CrowMail", "existingNest", "(I)LCrowMail$Nest;"⟩, 10) := ⟨⟨by decide +kernel, by decide +kernel⟩, List.mem_of_getElem? (i := 37) (by decide +kernel), List.mem_of_getElem? (i := 1131) (by decide +kernel), List.mem_of_getElem? (i := 1132) (by decide +kernel)⟩
theorem lw_p18 : lw_okq (⟨"CrowMail", "existingCrow", "(I)LCrowMail$Crow;"⟩, 10) := ⟨⟨by decide +kernel, by decide +kernel⟩, List.mem_of_getElem? (i := 37) (by decide +kernel), List.mem_of_getElem? (i := 1175) (by decide +kernel), List.mem_of_getElem? (i := 1176) (by decide +kernel)⟩
theorem lw_p19 : lw_okq (⟨"CrowMail$State", "ranksBefore", "(II)Z"⟩, 9) := ⟨⟨by decide +kernel, by decide +kernel⟩, List.mem_of_getElem? (i := 45) (by decide +kernel), List.mem_of_getElem? (i := 1274) (by decide +kernel), List.mem_of_getElem? (i := 1275) (by decide +kernel)⟩
theorem lw_p20 : lw_okq (⟨"CrowMail", "meanOfAttempts", "()D"⟩, 10) := ⟨⟨by decide +kernel, by decide +kernel⟩, List.mem_of_getElem? (i := 37) (by decide +kernel), List.mem_of_getElem? (i := 1313) (by decide +kernel), List.mem_of_getElem? (i := 1314) (by decide +kernel)⟩
theorem lw_p21 : lw_okq (⟨"CrowMail", "rateOfDeliveries", "()F"⟩, 10) := ⟨⟨by decide +kernel, by decide +kernel⟩, List.mem_of_getElem? (i := 37) (by decide +kernel), List.mem_of_getElem? (i := 1352) (by decide +kernel), List.mem_of_getElem? (i := 1353) (by decide +kernel)⟩
def lw_privs_2 : List (MethodName × Nat) := [(⟨"CrowMail$Script", "isDigitAt", "(I)Z"⟩, 9), (⟨"CrowMail", "existingNest", "(I)LCrowMail$Nest;"⟩, 10), (⟨"CrowMail", "existingCrow", "(I)LCrowMail$Crow;"⟩, 10), (⟨"CrowMail$State", "ranksBefore", "(II)Z"⟩, 9), (⟨"CrowMail", "meanOfAttempts", "()D"⟩, 10), (⟨"CrowMail", "rateOfDeliveries", "()F"⟩, 10)]
theorem lw_r2 : ∀ q ∈ lw_privs_2, lw_okq q := List.forall_mem_cons.mpr ⟨lw_p16, List.forall_mem_cons.mpr ⟨lw_p17, List.forall_mem_cons.mpr ⟨lw_p18, List.forall_mem_cons.mpr ⟨lw_p19, List.forall_mem_cons.mpr ⟨lw_p20, List.forall_mem_cons.mpr ⟨lw_p21, fun _ h => absurd h List.not_mem_nil⟩⟩⟩⟩⟩⟩
def lw_privs : List (MethodName × Nat) := lw_privs_1 ++ (lw_privs_2)
def lw_tbl : List Cond := k2_sels lw_privs ++ tables_1
theorem lw_privs_ok : ∀ q ∈ lw_privs, lw_okq q := by
  show ∀ q ∈ lw_privs_1 ++ (lw_privs_2), lw_okq q
  exact List.forall_mem_append.mpr ⟨lw_r1, lw_r2⟩
/-- the streams that the claim lets the run draw from -/
abbrev lw_cs : List Choice := [Jvm.Choice.named "NaN.bits"]
theorem lw_bits : nanBits ∈ lw_cs := by first | decide | exact List.mem_cons_self | simp [lw_cs, nanBits]
end
section
/-! ===== BEGIN words of one list among another's, by their places ===== -/
theorem goodIn_r {big : List Cond} (ws : List Cond) (ps : List Nat) (hp : ws = ps.filterMap (fun i => big[i]?)) (h : ws.all goodWord = true) : GoodIn big ws := by
  intro w hw
  have h1 := List.all_eq_true.mp h w hw
  rw [hp] at hw
  obtain ⟨i, -, hi⟩ := List.mem_filterMap.mp hw
  have hm : w ∈ big := by first | exact List.mem_of_getElem? hi | exact List.getElem?_mem hi
  exact ⟨hm, good_of_word h1⟩
theorem goodIn_app {big a b : List Cond} (ha : GoodIn big a) (hb : GoodIn big b) : GoodIn big (a ++ b) := fun w h => (List.mem_append.mp h).elim (ha w) (hb w)
theorem goodIn_ca {big a b : List Cond} {c : Cond} (ha : GoodIn big (c :: a)) (hb : GoodIn big b) : GoodIn big (c :: (a ++ b)) := fun w h => (List.mem_cons.mp h).elim (fun e => ha w (List.mem_cons.mpr (Or.inl e))) (fun h => (List.mem_append.mp h).elim (fun h => ha w (List.mem_cons.mpr (Or.inr h))) (hb w))
theorem goodIn_sub {big ws : List Cond} (hm : ∀ w ∈ ws, w ∈ big) (h : ws.all goodWord = true) : GoodIn big ws := fun w hw => ⟨hm w hw, good_of_word (List.all_eq_true.mp h w hw)⟩
/-! ===== END ===== -/

/-! ===== BEGIN exceptions that leave a method, and their catching by the caller (launches without stack traces) ===== -/
section VXA
/-! The laws vx_back, vx_callV, vx_callS, vx_callSW, vx_throw0, vx_throwS follow proofs of the library, with one case more: JvmDerived/Free/Laws.lean (Back.of_free), Shelf42/LK1.lean (callV, callS), Shelf/KitTraced.lean (throwNew0V, throwNewS). -/
/-- where a method has thrown q: the class by its name, the cell, what was written, the world -/
def vx_T (XC : String → State → State → Prop) (st : State) (q : Addr) (t : State) (mc ms : Nat) (free : Addr → Prop) : Prop :=
  ∃ (E : String) (ce : Cell) (L : List Loc), XC E st t ∧ t.heap[q]? = some ce ∧ ce.vm = .none ∧ st.vm.findClass E = some ce.cls ∧ st.WarmedH t.vm ∧ st.sameButNew ({ t with vm := st.vm } : State) L mc ms ∧ ∀ z ∈ L, free z.base
def vx_Q (Qc : Array Value → State → Outcome → State → Prop) (XC : String → State → State → Prop) (mc ms : Nat) (free : Addr → Prop) : Array Value → State → Outcome → State → Prop := fun a st o t =>
  (Qc a st o t ∧ ∃ L, FrameEnd st o t L mc ms ∧ ∀ q ∈ L, free q.base) ∨ ∃ q, o = .threw q ∧ vx_T XC st q t mc ms free
/-- a callee that returns or throws -/
def vx_Met (l : Launch) (y : MethodName) (ws : List Cond) (rm : Room) (Pc : Array Value → State → Prop) (Qc : Array Value → State → Outcome → State → Prop) (XC : String → State → State → Prop) (mc ms : Nat) (free : Addr → Prop) : Prop :=
  MetFree l y (headSpec ws rm) Pc (fun _ _ _ _ _ => True) (vx_Q Qc XC mc ms free)
def vx_Post (XC : String → State → State → Prop) (mc ms : Nat) (free : Addr → Prop) : Pt → Array Value → Addr → Pt → Prop := fun A a q B =>
  ∃ (g : JFrame) (mk : MethodId) (t : State) (L : List Loc) (E : String) (ce : Cell), B.U.heap = t.heap ∧ B.U.vm = t.vm ∧ XC E (A.U.calling g mk a) t ∧ t.heap[q]? = some ce ∧ ce.vm = .none ∧ A.U.vm.findClass E = some ce.cls ∧ B.locs = A.locs ++ L ∧ (∀ z ∈ L, free z.base) ∧ B.cells = A.cells + mc ∧ B.slots = A.slots + ms
def vx_Back (l : Launch) (R : Room) (p : Program) (e : Env) (below : List Frame) (s : State) (sargs : Array Value) (y : MethodName) (len W9 : Nat)
    (Pre : Pt → Array Value → Prop) (Post : Pt → Array Value → Option Value → Pt → Prop) (PostX : Pt → Array Value → Addr → Pt → Prop) : Prop :=
  ∀ (m : MethodId) (meth : Method) (c : Code) (A : Pt) (g : JFrame) (ig : Instr) (mk : MethodId) (a : Array Value),
    Stand p l e R s m sargs below meth c A.U A.locs A.cells A.slots → g.method = m → g.locals.size = c.maxLocals → decode c.code g.pc = .ok (ig, len) →
    2 * g.monitorRoom + (g.stack.map fun v => v.category).sum ≤ W9 → A.U.methodNamed? y = some mk → Pre A a →
    (∃ (v : Option Value) (B : Pt), Stand p l e R s m sargs below meth c B.U B.locs B.cells B.slots ∧ Post A a v B ∧
      Steps p.tables e below (doInvoke e (A.U.setTop g) [] mk a).1 (B.U.setTop { g with pc := g.pc + len, stack := v.toList ++ g.stack })) ∨
    (∃ (q : Addr) (B : Pt), Stand p l e R s m sargs below meth c B.U B.locs B.cells B.slots ∧ PostX A a q B ∧
      Steps p.tables e below (doInvoke e (A.U.setTop g) [] mk a).1 ((B.U.setTop g).pushFrame (.throwing q)))
section Payer
variable {l : Launch} {R : Room} {p : Program} {e : Env} {below : List Frame} {s : State} {sargs : Array Value} {y : MethodName} {len W9 : Nat}
theorem vx_back {ws : List Cond} {rm : Room} {Pc : Array Value → State → Prop} {Qc : Array Value → State → Outcome → State → Prop} {XC : String → State → State → Prop} {mc ms : Nat} {free : Addr → Prop} {bytes : ByteArray} {maxL : Nat} {ret : Option FieldType}
    (hM : vx_Met l y ws rm Pc Qc XC mc ms free) (hblind : FrameBlind Pc) (hrc : rm.cells = mc) (hrs : rm.slots = ms)
    (hframes : rm.frames + 1 ≤ R.frames) (hlocals : W9 + (maxL + 11) + rm.locals ≤ R.locals)
    (hws : ∀ w ∈ ws, ∀ a' U, s.WarmedH U.vm → w.before a' U = true) (hcode : Cond.code y bytes maxL ret ∈ ws) (hinit : ∀ a' U, s.WarmedH U.vm → (Cond.initialized y.cls).before a' U = true) :
    vx_Back l R p e below s sargs y len W9 (PreOf R mc ms Pc) (PostOf Qc mc ms free) (vx_Post XC mc ms free) := by
  intro m meth c A g ig mk a X hg hsize hdg hW hn hp
  have h1 : (headSpec ws rm).pre.before a A.U = true := atoms_intro fun w hw => hws w hw _ _ X.warmed
  have h2 : (Cond.code y bytes maxL ret).before a A.U = true := hws _ hcode _ _ X.warmed
  have h3 : (Cond.initialized y.cls).before a A.U = true := hinit _ _ X.warmed
  have h4 : A.cells + (headSpec ws rm).room.cells ≤ R.cells := by rw [show (headSpec ws rm).room.cells = mc from hrc]; exact hp.1
  have h5 : A.slots + (headSpec ws rm).room.slots ≤ R.slots := by rw [show (headSpec ws rm).room.slots = ms from hrs]; exact hp.2.1
  have hPc : Pc a (A.U.calling g mk a) := hblind _ _ _ _ hp.2.2
  obtain ⟨U, Ls, c0, s0⟩ := A
  dsimp only [Pt.U, Pt.locs, Pt.cells, Pt.slots] at h1 h2 h3 h4 h5 X hn hPc ⊢
  obtain ⟨methY, cY, hmY, hcY, -, hlY, -, -, -, -⟩ := Cond.code_spec hn h2
  obtain ⟨kY, hkY, -⟩ := className_of_methodNamed hn
  have hinitY : kY.init = .initialized := Cond.initialized_spec (findClass_of_methodNamed hn) hkY h3
  have h : At U g.method c below := by rw [hg]; exact X.here
  have hlocals9 : W9 + (maxL + 11) + (headSpec ws rm).room.locals ≤ R.locals := hlocals
  have happ : (headSpec ws rm).appliesLoose y e.platform (U.calling g mk a) = true :=
    Spec.appliesLoose_calling (g := g) h hdg hn hkY hinitY
      (X.room_calling (g := g) (R' := (headSpec ws rm).room) hsize hmY hcY hframes (by rw [hlY]; omega) h4 h5) h1
  obtain ⟨mid, hmid⟩ := h.above
  have hfr : (U.setTop g).frames = (.java g :: mid) ++ below := by rw [State.frames_setTop' g h.top, hmid]; rfl
  obtain ⟨o, s₂, hsteps, -, hend, hq⟩ := Steps.callFree hM p X.admits X.cas X.clock (acts := []) hfr happ hPc trivial
  have hq' : vx_Q Qc XC mc ms free a (U.calling g mk a) o s₂ := hq
  rw [State.frames_setTop' g h.top] at hend
  obtain ⟨g₀, hg0⟩ := Option.isSome_iff_exists.mp h.top
  obtain ⟨r, hr⟩ := State.topJava?_eq_some.mp hg0
  have hr' : (({ U with heap := s₂.heap, slotsUsed := s₂.slotsUsed } : State).setVm s₂.vm).frames = .java g₀ :: r := hr
  rcases hq' with ⟨hqc, L, hfe, hL⟩ | ⟨q, rfl, E, ce, L, hx, hce, hcv, hcl, hW₂, hsm, hL⟩
  · obtain ⟨⟨v, rfl⟩, hW₂, e2, q2, q3, q4, q5, q6⟩ := id hfe
    have e3 : s₂ = ({ (U.calling g mk a).setFrames s₂.frames with heap := s₂.heap, slotsUsed := s₂.slotsUsed } : State).setVm s₂.vm := by
      have : s₂ = ({ s₂ with vm := (U.calling g mk a).vm } : State).setVm s₂.vm := rfl
      rw [e2] at this
      exact this
    obtain ⟨c₂, i₂, len₂, hc₂, hd₂, hf₂⟩ := hend
    have hW' : U.WarmedH s₂.vm := hW₂
    have hcc : c₂ = c := by
      have h1 : s₂.code? g.method = U.code? g.method := by
        rw [State.code?_eq, State.code?_eq, hW'.alike.method?]
      exact Option.some.inj (hc₂.symm.trans (h1.trans h.code))
    subst hcc
    have hlen : len₂ = len := by rw [hdg] at hd₂; cases hd₂; rfl
    subst hlen
    have hs₂ : s₂ = (({ U with heap := s₂.heap, slotsUsed := s₂.slotsUsed } : State).setVm s₂.vm).setTop { g with pc := g.pc + len₂, stack := v.toList ++ g.stack } := by
      refine e3.trans ?_
      rw [hf₂, State.calling_eq h.top, State.setFrames_setFrames, State.setTop_of_frames _ hr', hr]
      rfl
    have hsame : U.sameButNew ({ U with heap := s₂.heap, slotsUsed := s₂.slotsUsed } : State) L mc ms := by
      refine ⟨?_, q2, q3, q4, q5, q6⟩
      obtain ⟨t, ht, -⟩ := State.frames_cons hr
      show ({ U with heap := s₂.heap, slotsUsed := s₂.slotsUsed } : State) = { U.setFrames U.frames with heap := s₂.heap, slotsUsed := s₂.slotsUsed }
      rw [State.setFrames_self ht]
    subst hg
    refine Or.inl ⟨v, ⟨(({ U with heap := s₂.heap, slotsUsed := s₂.slotsUsed } : State).setVm s₂.vm), Ls ++ L, c0 + mc, s0 + ms⟩,
      ⟨X.admits, X.cas, X.clock, X.frames, X.room, X.hears, X.method, X.code, (X.here.setHeapUsed s₂.heap s₂.slotsUsed).setVm hW'.alike, X.tail, State.WarmedH.trans X.warmed hW', X.limits, X.bytes, X.same.trans (hsame.setVm s.vm)⟩,
      ⟨g, mk, s₂, L, rfl, rfl, hqc, rfl, hL, rfl, rfl⟩, ?_⟩
    show Steps p.tables e below _ ((({ U with heap := s₂.heap, slotsUsed := s₂.slotsUsed } : State).setVm s₂.vm).setTop { g with pc := g.pc + len₂, stack := v.toList ++ g.stack })
    rw [← hs₂]
    exact hsteps
  · obtain ⟨e2, q2, q3, q4, q5, q6⟩ := id hsm
    have e3 : s₂ = ({ (U.calling g mk a).setFrames s₂.frames with heap := s₂.heap, slotsUsed := s₂.slotsUsed } : State).setVm s₂.vm := by
      have : s₂ = ({ s₂ with vm := (U.calling g mk a).vm } : State).setVm s₂.vm := rfl
      rw [e2] at this
      exact this
    have hf₂ : s₂.frames = .throwing q :: .java g :: U.frames.tail := hend
    have hW' : U.WarmedH s₂.vm := hW₂
    have hs₂ : s₂ = ((({ U with heap := s₂.heap, slotsUsed := s₂.slotsUsed } : State).setVm s₂.vm).setTop g).pushFrame (.throwing q) := by
      refine e3.trans ?_
      rw [hf₂, State.calling_eq h.top, State.setFrames_setFrames, State.pushFrame, State.frames_setTop _ hr', State.setTop_of_frames _ hr', State.setFrames_setFrames, hr]
      rfl
    have hsame : U.sameButNew ({ U with heap := s₂.heap, slotsUsed := s₂.slotsUsed } : State) L mc ms := by
      refine ⟨?_, q2, q3, q4, q5, q6⟩
      obtain ⟨t, ht, -⟩ := State.frames_cons hr
      show ({ U with heap := s₂.heap, slotsUsed := s₂.slotsUsed } : State) = { U.setFrames U.frames with heap := s₂.heap, slotsUsed := s₂.slotsUsed }
      rw [State.setFrames_self ht]
    subst hg
    refine Or.inr ⟨q, ⟨(({ U with heap := s₂.heap, slotsUsed := s₂.slotsUsed } : State).setVm s₂.vm), Ls ++ L, c0 + mc, s0 + ms⟩,
      ⟨X.admits, X.cas, X.clock, X.frames, X.room, X.hears, X.method, X.code, (X.here.setHeapUsed s₂.heap s₂.slotsUsed).setVm hW'.alike, X.tail, State.WarmedH.trans X.warmed hW', X.limits, X.bytes, X.same.trans (hsame.setVm s.vm)⟩,
      ⟨g, mk, s₂, L, E, ce, rfl, rfl, hx, hce, hcv, hcl, rfl, hL, rfl, rfl⟩, ?_⟩
    show Steps p.tables e below _ (((({ U with heap := s₂.heap, slotsUsed := s₂.slotsUsed } : State).setVm s₂.vm).setTop g).pushFrame (.throwing q))
    rw [← hs₂]
    exact hsteps
end Payer
section Calls
variable {p : Program} {l : Launch} {e : Env} {R : Room} {s : State} {m : MethodId} {args : Array Value} {below : List Frame} {meth : Method} {c : Code} {T : State} {locs : List Loc} {cells slots : Nat}
theorem vx_callV (X : Stand p l e R s m args below meth c T locs cells slots) (hexec : p.tables.exec = Jvm.exec) {own C : String} {index : Nat} {y : MethodName} {bytes : ByteArray} {maxL : Nat} {ret : Option FieldType}
    (hown : s.vm.findClass own = some m.cls) (hlink : (Cond.methodLink own index y).before args s = true) (hinst : (Cond.instanceMethod y).before args s = true) (hsel : (Cond.selects C y y).before args s = true)
    (hcode : (Cond.code y bytes maxL ret).before args s = true) (hy : y.cls ≠ "java/lang/invoke/MethodHandle" ∧ y.cls ≠ "java/lang/invoke/VarHandle")
    {W9 : Nat} {Pre : Pt → Array Value → Prop} {Post : Pt → Array Value → Option Value → Pt → Prop} {PostX : Pt → Array Value → Addr → Pt → Prop} (hK : vx_Back l R p e below s args y 3 W9 Pre Post PostX)
    {b : Addr} {cellB : Cell} (hcell : T.heap[b]? = some cellB) (hobj : cellB.vm.isStatics = false) (hcls : s.vm.findClass C = some cellB.cls)
    {g : JFrame} (hg : g.method = m) (hsize : g.locals.size = c.maxLocals) {argsL rest : List Value} (hlen : ∀ sig, parseMethodDescriptor y.desc = some sig → argsL.length = sig.parameters.length)
    (hstack : g.stack = argsL.reverse ++ .ref b :: rest) (hW : 2 * g.monitorRoom + (rest.map fun v => v.category).sum ≤ W9) (hdg : decode c.code g.pc = .ok (.invokevirtual index, 3))
    (hpre : ∀ vm₁, s.WarmedH vm₁ → Pre ⟨T.setVm vm₁, locs, cells, slots⟩ (Value.ref b :: argsL).toArray) :
    (∃ (v : Option Value) (vm₁ : Vm) (B : Pt), s.WarmedH vm₁ ∧ Stand p l e R s m args below meth c B.U B.locs B.cells B.slots ∧ Post ⟨T.setVm vm₁, locs, cells, slots⟩ (Value.ref b :: argsL).toArray v B ∧
      ∀ target, Steps p.tables e below (B.U.setTop { g with pc := g.pc + 3, stack := v.toList ++ rest }) target → Steps p.tables e below (T.setTop g) target) ∨
    (∃ (q : Addr) (vm₁ : Vm) (B : Pt), s.WarmedH vm₁ ∧ Stand p l e R s m args below meth c B.U B.locs B.cells B.slots ∧ PostX ⟨T.setVm vm₁, locs, cells, slots⟩ (Value.ref b :: argsL).toArray q B ∧
      Steps p.tables e below (T.setTop g) ((B.U.setTop { g with stack := rest }).pushFrame (.throwing q))) := by
  obtain ⟨mk, methM, hnamed, hmethM, hstM, habM⟩ := Cond.instanceMethod_spec hinst
  obtain ⟨methM', cM, hmethM', -, -, -, -, -, -, hsigM⟩ := Cond.code_spec hnamed hcode
  cases hmethM.symm.trans hmethM'
  obtain ⟨c2, r2, m2, q1, q2, q3, q4, kP, hkP, hkPi⟩ := Cond.selects_spec hsel
  cases hcls.symm.trans q1
  cases (State.methodFound?_of_named hnamed hy).symm.trans q2
  cases hnamed.symm.trans q3
  have hselP : selectMethod e.platform s.vm cellB.cls mk = .method mk := by rw [Launch.admits_selectMethod X.admits]; exact q4
  obtain ⟨vm₁, X₁, hstep₁⟩ := X.invokevirtual hexec hown hlink hnamed hmethM hstM hkP hkPi hy (a := b) (cell := cellB) hcell
    (fun z h => by rw [h] at hobj; cases hobj) hselP hmethM habM hkP hkPi (g := g) hg (argsL := argsL) (rest := rest) (hlen _ hsigM) hstack hdg
  rcases hK m meth c ⟨T.setVm vm₁, locs, cells, slots⟩ { g with stack := rest } (.invokevirtual index) mk (Value.ref b :: argsL).toArray X₁ hg hsize hdg hW (X₁.named hnamed) (hpre vm₁ X₁.warmed) with ⟨v, B, X', hpost, hsteps⟩ | ⟨q, B, X', hpost, hsteps⟩
  · exact Or.inl ⟨v, vm₁, B, X₁.warmed, X', hpost, fun target h => hstep₁ _ fun acts => by rw [doInvoke_state]; exact hsteps.trans h⟩
  · exact Or.inr ⟨q, vm₁, B, X₁.warmed, X', hpost, hstep₁ _ fun acts => by rw [doInvoke_state]; exact hsteps⟩
theorem vx_callS (X : Stand p l e R s m args below meth c T locs cells slots) (hexec : p.tables.exec = Jvm.exec) {own : String} {index : Nat} {y : MethodName} {bytes : ByteArray} {maxL : Nat} {ret : Option FieldType}
    (hown : s.vm.findClass own = some m.cls) (hlink : (Cond.methodLink own index y).before args s = true) (hstat : (Cond.static y).before args s = true) (hinit : (Cond.initialized y.cls).before args s = true)
    (hcode : (Cond.code y bytes maxL ret).before args s = true) (hy : y.cls ≠ "java/lang/invoke/MethodHandle" ∧ y.cls ≠ "java/lang/invoke/VarHandle")
    {W9 : Nat} {Pre : Pt → Array Value → Prop} {Post : Pt → Array Value → Option Value → Pt → Prop} {PostX : Pt → Array Value → Addr → Pt → Prop} (hK : vx_Back l R p e below s args y 3 W9 Pre Post PostX)
    {g : JFrame} (hg : g.method = m) (hsize : g.locals.size = c.maxLocals) {argsL rest : List Value} (hlen : ∀ sig, parseMethodDescriptor y.desc = some sig → argsL.length = sig.parameters.length)
    (hstack : g.stack = argsL.reverse ++ rest) (hW : 2 * g.monitorRoom + (rest.map fun v => v.category).sum ≤ W9) (hdg : decode c.code g.pc = .ok (.invokestatic index, 3))
    (hpre : ∀ vm₁, s.WarmedH vm₁ → Pre ⟨T.setVm vm₁, locs, cells, slots⟩ argsL.toArray) :
    (∃ (v : Option Value) (vm₁ : Vm) (B : Pt), s.WarmedH vm₁ ∧ Stand p l e R s m args below meth c B.U B.locs B.cells B.slots ∧ Post ⟨T.setVm vm₁, locs, cells, slots⟩ argsL.toArray v B ∧
      ∀ target, Steps p.tables e below (B.U.setTop { g with pc := g.pc + 3, stack := v.toList ++ rest }) target → Steps p.tables e below (T.setTop g) target) ∨
    (∃ (q : Addr) (vm₁ : Vm) (B : Pt), s.WarmedH vm₁ ∧ Stand p l e R s m args below meth c B.U B.locs B.cells B.slots ∧ PostX ⟨T.setVm vm₁, locs, cells, slots⟩ argsL.toArray q B ∧
      Steps p.tables e below (T.setTop g) ((B.U.setTop { g with stack := rest }).pushFrame (.throwing q))) := by
  obtain ⟨mk, hnamed⟩ := Cond.code_named hcode
  obtain ⟨methM, cM, hmethM, -, -, -, -, -, -, hsigM⟩ := Cond.code_spec hnamed hcode
  have hstatic : methM.isStatic = true := Cond.static_spec hnamed hmethM hstat
  obtain ⟨kP, hkP, -⟩ := className_of_methodNamed hnamed
  have hinitP : kP.init = .initialized := Cond.initialized_spec (findClass_of_methodNamed hnamed) hkP hinit
  obtain ⟨vm₁, X₁, hstep₁⟩ := X.invokestatic hexec hown hlink hnamed hmethM hstatic hkP hinitP hy (g := g) hg (argsL := argsL) (rest := rest) (hlen _ hsigM) hstack hdg
  rcases hK m meth c ⟨T.setVm vm₁, locs, cells, slots⟩ { g with stack := rest } (.invokestatic index) mk argsL.toArray X₁ hg hsize hdg hW (X₁.named hnamed) (hpre vm₁ X₁.warmed) with ⟨v, B, X', hpost, hsteps⟩ | ⟨q, B, X', hpost, hsteps⟩
  · exact Or.inl ⟨v, vm₁, B, X₁.warmed, X', hpost, fun target h => hstep₁ _ fun acts => by rw [doInvoke_state]; exact hsteps.trans h⟩
  · exact Or.inr ⟨q, vm₁, B, X₁.warmed, X', hpost, hstep₁ _ fun acts => by rw [doInvoke_state]; exact hsteps⟩
end Calls
theorem vx_cls {s : State} {T : State} {vm₁ : Vm} {E : String} {k : ClassId} (hW : s.WarmedH vm₁) (h : (T.setVm vm₁).vm.findClass E = some k) : s.vm.findClass E = some k := by
  have h1 : vm₁.findClass E = some k := h
  rw [hW.alike.findClass] at h1
  exact h1
/-- the method's frame g, with q thrown over it -/
def vx_W (p : Program) (l : Launch) (e : Env) (R : Room) (s : State) (m : MethodId) (args : Array Value) (below : List Frame) (meth : Method) (c : Code) (H : Heap) (locs : List Loc) (cells slots : Nat) (Q : State → Prop) (g : JFrame) (q : Addr) : Prop :=
  ∀ T : State, T.heap = H → Stand p l e R s m args below meth c T locs cells slots → ∃ t, Steps p.tables e below ((T.setTop g).pushFrame (.throwing q)) t ∧ Q t
def vx_Run (p : Program) (l : Launch) (e : Env) (R : Room) (s : State) (m : MethodId) (args : Array Value) (below : List Frame) (meth : Method) (c : Code) (H : Heap) (locs : List Loc) (cells slots mc ms : Nat) (g : JFrame) (rest : List Value) (Qa : State → Outcome → State → Prop) (XC : String → State → State → Prop) (free : Addr → Prop) : Prop :=
  ∀ T : State, T.heap = H → Stand p l e R s m args below meth c T locs cells slots →
    (∃ (v : Option Value) (st₀ t T' : State) (L : List Loc), st₀.heap = H ∧ Stand p l e R s m args below meth c T' (locs ++ L) (cells + mc) (slots + ms) ∧ (∀ q ∈ L, free q.base) ∧ T'.heap = t.heap ∧ T'.vm = t.vm ∧ Qa st₀ (.returned v) t ∧
      Goes p e below T g T' { g with pc := g.pc + 3, stack := v.toList ++ rest }) ∨
    (∃ (q : Addr) (st₀ t T' : State) (L : List Loc) (E : String) (ce : Cell), st₀.heap = H ∧ Stand p l e R s m args below meth c T' (locs ++ L) (cells + mc) (slots + ms) ∧ (∀ z ∈ L, free z.base) ∧ T'.heap = t.heap ∧ T'.vm = t.vm ∧ XC E st₀ t ∧ t.heap[q]? = some ce ∧ ce.vm = .none ∧ s.vm.findClass E = some ce.cls ∧
      Steps p.tables e below (T.setTop g) ((T'.setTop { g with stack := rest }).pushFrame (.throwing q)))
def vx_X {S : Type} (px : S → Prop) (B : String → S → State → Prop) (A : Nat → Prop) : String → State → State → Prop := fun E st t => ∃ u : S, px u ∧ B E u t ∧ va_F A st t
section Runs
variable {p : Program} {l : Launch} {e : Env} {R : Room} {s : State} {m : MethodId} {args : Array Value} {below : List Frame} {meth : Method} {c : Code} {H : Heap} {locs : List Loc} {cells slots : Nat}
variable {y : MethodName} {bytes cc : ByteArray} {maxL nL mc ms n index : Nat} {ret : Option FieldType} {ws : List Cond} {rm : Room} {Pc : Array Value → State → Prop} {Qc : Array Value → State → Outcome → State → Prop} {XC : String → State → State → Prop} {free : Addr → Prop} {Ts : List Cond} {own C : String} {b : Addr} {As rest : List Value} {g : JFrame}
theorem vx_callBack (cb : CallB R s args own index y bytes maxL ret ws rm mc ms n) (hM : vx_Met l y ws rm Pc Qc XC mc ms free) (hbl : FrameBlind Pc) : vx_Back l R p e below s args y 3 8 (PreOf R mc ms Pc) (PostOf Qc mc ms free) (vx_Post XC mc ms free) := by
  obtain ⟨hrc, hrs, hfr, hlo, hws, hcw, -, hini, -⟩ := cb
  exact vx_back (bytes := bytes) (maxL := maxL) (ret := ret) hM hbl hrc hrs hfr hlo hws hcw (fun a' U hW => word_at hW (Or.inl (by first | rfl | simp [Cond.onTables, Cond.keeps, Cond.steady])) hini)
theorem vx_runV (S : CallFix p m c cc nL s args Ts own) (hM : vx_Met l y ws rm Pc Qc XC mc ms free) (cw : CallW R s args own C index y bytes maxL ret ws rm mc ms n) (hp : PreV s H C b Pc As)
    (hg : g.method = m) (hn : As.length = n) (hsize : g.locals.size = nL) (hstack : g.stack = As.reverse ++ .ref b :: rest) (hW : 2 * g.monitorRoom + (rest.map fun v => v.category).sum ≤ 8) (hdg : decode cc g.pc = .ok (.invokevirtual index, 3)) (hf : cells + mc ≤ R.cells ∧ slots + ms ≤ R.slots) :
    vx_Run p l e R s m args below meth c H locs cells slots mc ms g rest (Qc (Value.ref b :: As).toArray) XC free := by
  have hK : vx_Back l R p e below s args y 3 8 (PreOf R mc ms Pc) (PostOf Qc mc ms free) (vx_Post XC mc ms free) := vx_callBack cw.1 hM hp.1
  obtain ⟨⟨-, -, -, -, -, -, hcode, -, hy, hlen, hl⟩, hin, hse⟩ := cw
  obtain ⟨hx, hb, hml, ho, -⟩ := S
  obtain ⟨-, ⟨cellB, hcB, hoB, hclB⟩, hPc⟩ := hp
  intro T hT X
  rcases vx_callV X hx (C := C) (bytes := bytes) (maxL := maxL) (ret := ret) ho hl hin hse hcode hy hK (by rw [hT]; exact hcB) hoB hclB hg (hsize.trans hml.symm) (argsL := As) (rest := rest) (fun sig h => hn.trans (hlen sig h)) hstack hW (by rw [hb]; exact hdg)
    (fun vm₁ hW₁ => ⟨hf.1, hf.2, hPc (T.setVm vm₁) hT hW₁⟩) with ⟨v, vm₁, ⟨U', l2, c2, s2⟩, hW₁, X', ⟨g', mk, t, L, e1, e2, hq, h1, hL, h2, h3⟩, st⟩ | ⟨q, vm₁, ⟨U', l2, c2, s2⟩, hW₁, X', ⟨g', mk, t, L, E, ce, e1, e2, hq, hce, hcv, hcl, h1, hL, h2, h3⟩, st⟩
  · dsimp only [Pt.U, Pt.locs, Pt.cells, Pt.slots] at X' e1 e2 h1 h2 h3 st
    subst h1; subst h2; subst h3
    exact Or.inl ⟨v, (T.setVm vm₁).calling g' mk (Value.ref b :: As).toArray, t, U', L, hT, X', hL, e1, e2, hq, st⟩
  · dsimp only [Pt.U, Pt.locs, Pt.cells, Pt.slots] at X' e1 e2 h1 h2 h3 st hcl
    subst h1; subst h2; subst h3
    exact Or.inr ⟨q, (T.setVm vm₁).calling g' mk (Value.ref b :: As).toArray, t, U', L, E, ce, hT, X', hL, e1, e2, hq, hce, hcv, vx_cls hW₁ hcl, st⟩
theorem vx_runS (S : CallFix p m c cc nL s args Ts own) (hM : vx_Met l y ws rm Pc Qc XC mc ms free) (cw : CallB R s args own index y bytes maxL ret ws rm mc ms n ∧ (Cond.static y).before args s = true) (hp : PreS s H Pc As)
    (hg : g.method = m) (hn : As.length = n) (hsize : g.locals.size = nL) (hstack : g.stack = As.reverse ++ rest) (hW : 2 * g.monitorRoom + (rest.map fun v => v.category).sum ≤ 8) (hdg : decode cc g.pc = .ok (.invokestatic index, 3)) (hf : cells + mc ≤ R.cells ∧ slots + ms ≤ R.slots) :
    vx_Run p l e R s m args below meth c H locs cells slots mc ms g rest (Qc As.toArray) XC free := by
  have hK : vx_Back l R p e below s args y 3 8 (PreOf R mc ms Pc) (PostOf Qc mc ms free) (vx_Post XC mc ms free) := vx_callBack cw.1 hM hp.1
  obtain ⟨⟨-, -, -, -, -, -, hcode, hini, hy, hlen, hl⟩, hstt⟩ := cw
  obtain ⟨hx, hb, hml, ho, -⟩ := S
  intro T hT X
  rcases vx_callS X hx (bytes := bytes) (maxL := maxL) (ret := ret) ho hl hstt hini hcode hy hK hg (hsize.trans hml.symm) (argsL := As) (rest := rest) (fun sig h => hn.trans (hlen sig h)) hstack hW (by rw [hb]; exact hdg)
    (fun vm₁ hW₁ => ⟨hf.1, hf.2, hp.2 (T.setVm vm₁) hT hW₁⟩) with ⟨v, vm₁, ⟨U', l2, c2, s2⟩, hW₁, X', ⟨g', mk, t, L, e1, e2, hq, h1, hL, h2, h3⟩, st⟩ | ⟨q, vm₁, ⟨U', l2, c2, s2⟩, hW₁, X', ⟨g', mk, t, L, E, ce, e1, e2, hq, hce, hcv, hcl, h1, hL, h2, h3⟩, st⟩
  · dsimp only [Pt.U, Pt.locs, Pt.cells, Pt.slots] at X' e1 e2 h1 h2 h3 st
    subst h1; subst h2; subst h3
    exact Or.inl ⟨v, (T.setVm vm₁).calling g' mk As.toArray, t, U', L, hT, X', hL, e1, e2, hq, st⟩
  · dsimp only [Pt.U, Pt.locs, Pt.cells, Pt.slots] at X' e1 e2 h1 h2 h3 st hcl
    subst h1; subst h2; subst h3
    exact Or.inr ⟨q, (T.setVm vm₁).calling g' mk As.toArray, t, U', L, E, ce, hT, X', hL, e1, e2, hq, hce, hcv, vx_cls hW₁ hcl, st⟩
end Runs
section Rows
variable {p : Program} {l : Launch} {e : Env} {R : Room} {s : State} {m : MethodId} {args : Array Value} {below : List Frame} {meth : Method} {c : Code} {H : Heap} {locs : List Loc} {cells slots : Nat} {Q : State → Prop}
variable {mc ms : Nat} {free : Addr → Prop} {A0 A1 : Nat → Prop} {H0 : Heap} {a : Array Value} {pc : Nat} {ls : Array Slot} {st0 rest : List Value}
theorem vx_keep {st₀ t T' : State} {L : List Loc} (h0 : st₀.heap = H) (e1 : T'.heap = t.heap) (hS : va_S A0 H0 H locs) (hA : ∀ q, q < H.size → A1 q → A0 q) (hf : ∀ q, free q → A0 q) (hL : ∀ q ∈ L, free q.base) (hF : va_F A1 st₀ t) :
    H.size ≤ T'.heap.size ∧ (∀ q : Nat, q < H.size → ¬ A1 q → T'.heap[q]? = H[q]?) ∧ va_S A0 H0 T'.heap (locs ++ L) := by
  obtain ⟨hz, hk⟩ := hF
  rw [h0] at hz hk
  exact ⟨by rw [e1]; exact hz, fun q h1 h2 => by rw [e1]; exact hk q h1 h2,
    ⟨Nat.le_trans hS.1 (by rw [e1]; exact hz), fun q h1 h2 => by rw [e1, hk q (Nat.lt_of_lt_of_le h1 hS.1) (fun z => h2 (hA q (Nat.lt_of_lt_of_le h1 hS.1) z))]; exact hS.2.1 q h1 h2, fun q hq => by
      rcases List.mem_append.mp hq with h | h
      · exact hS.2.2 q h
      · exact hf _ (hL q h)⟩⟩
theorem vx_calli {S SX : Type} {post : Int32 → S → Prop} {px : SX → Prop} {B : S → State → Prop} {BX : String → SX → State → Prop} {AX : Nat → Prop} (hr : vx_Run p l e R s m args below meth c H locs cells slots mc ms (F0 m pc ls st0) rest (va_Qi post B A1 a) (vx_X px BX AX) free) (hS : va_S A0 H0 H locs) (hA : ∀ q, q < H.size → A1 q → A0 q) (hf : ∀ q, free q → A0 q) (hAX : ∀ q, q < H.size → AX q → A0 q)
    (kx : ∀ (E : String) (ce : Cell) (q9 : Addr) (u : SX) (t : State) (H1 : Heap) (locs1 : List Loc), t.heap = H1 → s.vm.Alike t.vm → px u → BX E u t → H.size ≤ H1.size → (∀ q : Nat, q < H.size → ¬ AX q → H1[q]? = H[q]?) → va_S A0 H0 H1 locs1 → H1[q9]? = some ce → ce.vm = .none → s.vm.findClass E = some ce.cls → vx_W p l e R s m args below meth c H1 locs1 (cells + mc) (slots + ms) Q (F0 m pc ls rest) q9)
    (kk : ∀ (r : Int32) (u : S) (t : State) (H1 : Heap) (locs1 : List Loc), t.heap = H1 → s.vm.Alike t.vm → post r u → B u t → H.size ≤ H1.size → (∀ q : Nat, q < H.size → ¬ A1 q → H1[q]? = H[q]?) → va_S A0 H0 H1 locs1 → W p l e R s m args below meth c H1 locs1 (cells + mc) (slots + ms) Q (F0 m (pc + 3) ls (.int r :: rest))) : W p l e R s m args below meth c H locs cells slots Q (F0 m pc ls st0) := by
  intro T hT X
  rcases hr T hT X with ⟨v, st₀, t, T', L, h0, X', hL, e1, e2, ⟨⟨r, u, hv, hp, hb⟩, hF⟩, st⟩ | ⟨q, st₀, t, T', L, E, ce, h0, X', hL, e1, e2, ⟨u, hp, hb, hF⟩, hce, hcv, hcl, st⟩
  · cases hv
    obtain ⟨k1, k2, k3⟩ := vx_keep h0 e1 hS hA hf hL hF
    obtain ⟨t2, a1, b1⟩ := kk r u t T'.heap (locs ++ L) e1.symm (by rw [← e2]; exact X'.warmed.alike) hp hb k1 k2 k3 T' rfl X'
    exact ⟨t2, st t2 a1, b1⟩
  · obtain ⟨k1, k2, k3⟩ := vx_keep h0 e1 hS hAX hf hL hF
    obtain ⟨t2, a1, b1⟩ := kx E ce q u t T'.heap (locs ++ L) e1.symm (by rw [← e2]; exact X'.warmed.alike) hp hb k1 k2 k3 (by rw [e1]; exact hce) hcv hcl T' rfl X'
    exact ⟨t2, st.trans a1, b1⟩
theorem vx_calll {S SX : Type} {post : Int64 → S → Prop} {px : SX → Prop} {B : S → State → Prop} {BX : String → SX → State → Prop} {AX : Nat → Prop} (hr : vx_Run p l e R s m args below meth c H locs cells slots mc ms (F0 m pc ls st0) rest (va_Ql post B A1 a) (vx_X px BX AX) free) (hS : va_S A0 H0 H locs) (hA : ∀ q, q < H.size → A1 q → A0 q) (hf : ∀ q, free q → A0 q) (hAX : ∀ q, q < H.size → AX q → A0 q)
    (kx : ∀ (E : String) (ce : Cell) (q9 : Addr) (u : SX) (t : State) (H1 : Heap) (locs1 : List Loc), t.heap = H1 → s.vm.Alike t.vm → px u → BX E u t → H.size ≤ H1.size → (∀ q : Nat, q < H.size → ¬ AX q → H1[q]? = H[q]?) → va_S A0 H0 H1 locs1 → H1[q9]? = some ce → ce.vm = .none → s.vm.findClass E = some ce.cls → vx_W p l e R s m args below meth c H1 locs1 (cells + mc) (slots + ms) Q (F0 m pc ls rest) q9)
    (kk : ∀ (r : Int64) (u : S) (t : State) (H1 : Heap) (locs1 : List Loc), t.heap = H1 → s.vm.Alike t.vm → post r u → B u t → H.size ≤ H1.size → (∀ q : Nat, q < H.size → ¬ A1 q → H1[q]? = H[q]?) → va_S A0 H0 H1 locs1 → W p l e R s m args below meth c H1 locs1 (cells + mc) (slots + ms) Q (F0 m (pc + 3) ls (.long r :: rest))) : W p l e R s m args below meth c H locs cells slots Q (F0 m pc ls st0) := by
  intro T hT X
  rcases hr T hT X with ⟨v, st₀, t, T', L, h0, X', hL, e1, e2, ⟨⟨r, u, hv, hp, hb⟩, hF⟩, st⟩ | ⟨q, st₀, t, T', L, E, ce, h0, X', hL, e1, e2, ⟨u, hp, hb, hF⟩, hce, hcv, hcl, st⟩
  · cases hv
    obtain ⟨k1, k2, k3⟩ := vx_keep h0 e1 hS hA hf hL hF
    obtain ⟨t2, a1, b1⟩ := kk r u t T'.heap (locs ++ L) e1.symm (by rw [← e2]; exact X'.warmed.alike) hp hb k1 k2 k3 T' rfl X'
    exact ⟨t2, st t2 a1, b1⟩
  · obtain ⟨k1, k2, k3⟩ := vx_keep h0 e1 hS hAX hf hL hF
    obtain ⟨t2, a1, b1⟩ := kx E ce q u t T'.heap (locs ++ L) e1.symm (by rw [← e2]; exact X'.warmed.alike) hp hb k1 k2 k3 (by rw [e1]; exact hce) hcv hcl T' rfl X'
    exact ⟨t2, st.trans a1, b1⟩
theorem vx_callf {S SX : Type} {post : UInt32 → S → Prop} {px : SX → Prop} {B : S → State → Prop} {BX : String → SX → State → Prop} {AX : Nat → Prop} (hr : vx_Run p l e R s m args below meth c H locs cells slots mc ms (F0 m pc ls st0) rest (va_Qf post B A1 a) (vx_X px BX AX) free) (hS : va_S A0 H0 H locs) (hA : ∀ q, q < H.size → A1 q → A0 q) (hf : ∀ q, free q → A0 q) (hAX : ∀ q, q < H.size → AX q → A0 q)
    (kx : ∀ (E : String) (ce : Cell) (q9 : Addr) (u : SX) (t : State) (H1 : Heap) (locs1 : List Loc), t.heap = H1 → s.vm.Alike t.vm → px u → BX E u t → H.size ≤ H1.size → (∀ q : Nat, q < H.size → ¬ AX q → H1[q]? = H[q]?) → va_S A0 H0 H1 locs1 → H1[q9]? = some ce → ce.vm = .none → s.vm.findClass E = some ce.cls → vx_W p l e R s m args below meth c H1 locs1 (cells + mc) (slots + ms) Q (F0 m pc ls rest) q9)
    (kk : ∀ (r : UInt32) (u : S) (t : State) (H1 : Heap) (locs1 : List Loc), t.heap = H1 → s.vm.Alike t.vm → post r u → B u t → H.size ≤ H1.size → (∀ q : Nat, q < H.size → ¬ A1 q → H1[q]? = H[q]?) → va_S A0 H0 H1 locs1 → W p l e R s m args below meth c H1 locs1 (cells + mc) (slots + ms) Q (F0 m (pc + 3) ls (.float r :: rest))) : W p l e R s m args below meth c H locs cells slots Q (F0 m pc ls st0) := by
  intro T hT X
  rcases hr T hT X with ⟨v, st₀, t, T', L, h0, X', hL, e1, e2, ⟨⟨r, u, hv, hp, hb⟩, hF⟩, st⟩ | ⟨q, st₀, t, T', L, E, ce, h0, X', hL, e1, e2, ⟨u, hp, hb, hF⟩, hce, hcv, hcl, st⟩
  · cases hv
    obtain ⟨k1, k2, k3⟩ := vx_keep h0 e1 hS hA hf hL hF
    obtain ⟨t2, a1, b1⟩ := kk r u t T'.heap (locs ++ L) e1.symm (by rw [← e2]; exact X'.warmed.alike) hp hb k1 k2 k3 T' rfl X'
    exact ⟨t2, st t2 a1, b1⟩
  · obtain ⟨k1, k2, k3⟩ := vx_keep h0 e1 hS hAX hf hL hF
    obtain ⟨t2, a1, b1⟩ := kx E ce q u t T'.heap (locs ++ L) e1.symm (by rw [← e2]; exact X'.warmed.alike) hp hb k1 k2 k3 (by rw [e1]; exact hce) hcv hcl T' rfl X'
    exact ⟨t2, st.trans a1, b1⟩
theorem vx_calld {S SX : Type} {post : UInt64 → S → Prop} {px : SX → Prop} {B : S → State → Prop} {BX : String → SX → State → Prop} {AX : Nat → Prop} (hr : vx_Run p l e R s m args below meth c H locs cells slots mc ms (F0 m pc ls st0) rest (va_Qd post B A1 a) (vx_X px BX AX) free) (hS : va_S A0 H0 H locs) (hA : ∀ q, q < H.size → A1 q → A0 q) (hf : ∀ q, free q → A0 q) (hAX : ∀ q, q < H.size → AX q → A0 q)
    (kx : ∀ (E : String) (ce : Cell) (q9 : Addr) (u : SX) (t : State) (H1 : Heap) (locs1 : List Loc), t.heap = H1 → s.vm.Alike t.vm → px u → BX E u t → H.size ≤ H1.size → (∀ q : Nat, q < H.size → ¬ AX q → H1[q]? = H[q]?) → va_S A0 H0 H1 locs1 → H1[q9]? = some ce → ce.vm = .none → s.vm.findClass E = some ce.cls → vx_W p l e R s m args below meth c H1 locs1 (cells + mc) (slots + ms) Q (F0 m pc ls rest) q9)
    (kk : ∀ (r : UInt64) (u : S) (t : State) (H1 : Heap) (locs1 : List Loc), t.heap = H1 → s.vm.Alike t.vm → post r u → B u t → H.size ≤ H1.size → (∀ q : Nat, q < H.size → ¬ A1 q → H1[q]? = H[q]?) → va_S A0 H0 H1 locs1 → W p l e R s m args below meth c H1 locs1 (cells + mc) (slots + ms) Q (F0 m (pc + 3) ls (.double r :: rest))) : W p l e R s m args below meth c H locs cells slots Q (F0 m pc ls st0) := by
  intro T hT X
  rcases hr T hT X with ⟨v, st₀, t, T', L, h0, X', hL, e1, e2, ⟨⟨r, u, hv, hp, hb⟩, hF⟩, st⟩ | ⟨q, st₀, t, T', L, E, ce, h0, X', hL, e1, e2, ⟨u, hp, hb, hF⟩, hce, hcv, hcl, st⟩
  · cases hv
    obtain ⟨k1, k2, k3⟩ := vx_keep h0 e1 hS hA hf hL hF
    obtain ⟨t2, a1, b1⟩ := kk r u t T'.heap (locs ++ L) e1.symm (by rw [← e2]; exact X'.warmed.alike) hp hb k1 k2 k3 T' rfl X'
    exact ⟨t2, st t2 a1, b1⟩
  · obtain ⟨k1, k2, k3⟩ := vx_keep h0 e1 hS hAX hf hL hF
    obtain ⟨t2, a1, b1⟩ := kx E ce q u t T'.heap (locs ++ L) e1.symm (by rw [← e2]; exact X'.warmed.alike) hp hb k1 k2 k3 (by rw [e1]; exact hce) hcv hcl T' rfl X'
    exact ⟨t2, st.trans a1, b1⟩
theorem vx_callv {S SX : Type} {post : S → Prop} {px : SX → Prop} {B : S → State → Prop} {BX : String → SX → State → Prop} {AX : Nat → Prop} (hr : vx_Run p l e R s m args below meth c H locs cells slots mc ms (F0 m pc ls st0) rest (va_Qv post B A1 a) (vx_X px BX AX) free) (hS : va_S A0 H0 H locs) (hA : ∀ q, q < H.size → A1 q → A0 q) (hf : ∀ q, free q → A0 q) (hAX : ∀ q, q < H.size → AX q → A0 q)
    (kx : ∀ (E : String) (ce : Cell) (q9 : Addr) (u : SX) (t : State) (H1 : Heap) (locs1 : List Loc), t.heap = H1 → s.vm.Alike t.vm → px u → BX E u t → H.size ≤ H1.size → (∀ q : Nat, q < H.size → ¬ AX q → H1[q]? = H[q]?) → va_S A0 H0 H1 locs1 → H1[q9]? = some ce → ce.vm = .none → s.vm.findClass E = some ce.cls → vx_W p l e R s m args below meth c H1 locs1 (cells + mc) (slots + ms) Q (F0 m pc ls rest) q9)
    (kk : ∀ (u : S) (t : State) (H1 : Heap) (locs1 : List Loc), t.heap = H1 → s.vm.Alike t.vm → post u → B u t → H.size ≤ H1.size → (∀ q : Nat, q < H.size → ¬ A1 q → H1[q]? = H[q]?) → va_S A0 H0 H1 locs1 → W p l e R s m args below meth c H1 locs1 (cells + mc) (slots + ms) Q (F0 m (pc + 3) ls (rest))) : W p l e R s m args below meth c H locs cells slots Q (F0 m pc ls st0) := by
  intro T hT X
  rcases hr T hT X with ⟨v, st₀, t, T', L, h0, X', hL, e1, e2, ⟨⟨u, hv, hp, hb⟩, hF⟩, st⟩ | ⟨q, st₀, t, T', L, E, ce, h0, X', hL, e1, e2, ⟨u, hp, hb, hF⟩, hce, hcv, hcl, st⟩
  · cases hv
    obtain ⟨k1, k2, k3⟩ := vx_keep h0 e1 hS hA hf hL hF
    obtain ⟨t2, a1, b1⟩ := kk u t T'.heap (locs ++ L) e1.symm (by rw [← e2]; exact X'.warmed.alike) hp hb k1 k2 k3 T' rfl X'
    exact ⟨t2, st t2 a1, b1⟩
  · obtain ⟨k1, k2, k3⟩ := vx_keep h0 e1 hS hAX hf hL hF
    obtain ⟨t2, a1, b1⟩ := kx E ce q u t T'.heap (locs ++ L) e1.symm (by rw [← e2]; exact X'.warmed.alike) hp hb k1 k2 k3 (by rw [e1]; exact hce) hcv hcl T' rfl X'
    exact ⟨t2, st.trans a1, b1⟩
/-- caught by the row x of this method's table; the rows ahead don't take it -/
theorem vx_catch {own name : String} {E : String} {ce : Cell} {q : Addr} (hown : s.vm.findClass own = some m.cls) (pre : List ExceptionTableEntry) (x : ExceptionTableEntry) (suf : List ExceptionTableEntry) (hsplit : c.exceptionTable.toList = pre ++ x :: suf)
    (hpass : ∀ z ∈ pre, covers z pc = false ∨ (z.catchType ≠ 0 ∧ ∃ nm : String, (Cond.classLink own z.catchType nm).before args s = true ∧ va_Nc E nm s)) (hx : covers x pc = true) (h0 : x.catchType ≠ 0)
    (hlink : (Cond.classLink own x.catchType name).before args s = true) (hcast : (Cond.castable E name).before args s = true) (hcell : H[q]? = some ce) (hv : ce.vm = .none) (hcl : s.vm.findClass E = some ce.cls)
    (kk : W p l e R s m args below meth c H locs cells slots Q (F0 m x.handlerPc ls [.ref q])) : vx_W p l e R s m args below meth c H locs cells slots Q (F0 m pc ls rest) q := by
  intro T hT X
  have hpl : e.platform.magicAccessors = ({} : Platform).magicAccessors := by rw [X.admits.platform]
  obtain ⟨c3, c4, hc3, hc4, hasg⟩ := Cond.castable_spec hcast
  cases Option.some.inj (hc3.symm.trans hcl)
  obtain ⟨c5, hc5, hcl5⟩ := Cond.classLink_spec hown hlink e.platform hpl
  cases Option.some.inj (hc4.symm.trans hc5)
  obtain ⟨vm', X', st⟩ := X.thenCaughtThrough q (g := F0 m pc ls rest) rfl (Steps.refl _) (by rw [hT]; exact hcell) (by rw [hv]; rfl) (by obtain ⟨k9, h9, -⟩ := Vm.findClass_spec hcl; exact ⟨k9, h9⟩) pre x suf hsplit
    (fun z hz => by
      rcases hpass z hz with h | ⟨hz0, nm, hl1, hn1⟩
      · exact Or.inl h
      · obtain ⟨c6, hc6, hcl6⟩ := Cond.classLink_spec hown hl1 e.platform hpl
        obtain ⟨a8, b8, h1, h2, h3⟩ := hn1
        cases Option.some.inj (h1.symm.trans hcl)
        cases Option.some.inj (h2.symm.trans hc6)
        exact Or.inr ⟨hz0, _, hcl6, h3⟩) hx (Or.inr ⟨h0, c4, hcl5, hasg⟩)
  obtain ⟨t, a1, b1⟩ := kk (T.setVm vm') hT X'
  exact ⟨t, st.trans a1, b1⟩
end Rows
section Ends
variable {p : Program} {l : Launch} {e : Env} {R : Room} {s : State} {m : MethodId} {args : Array Value} {below : List Frame} {meth : Method} {c : Code} {H : Heap} {locs : List Loc} {cells slots : Nat} {Q : State → Prop}
variable {mc ms : Nat} {free : Addr → Prop} {A0 A1 : Nat → Prop} {H0 : Heap} {a : Array Value} {ls : Array Slot} {st0 rest : List Value}
variable {Qc : Array Value → State → Outcome → State → Prop} {XC : String → State → State → Prop}
/-- what a body that may throw owes at its end -/
def vx_MQ (below : List Frame) (Qc : Array Value → State → Outcome → State → Prop) (XC : String → State → State → Prop) (a : Array Value) (s : State) (mc ms : Nat) (free : Addr → Prop) : State → Prop := fun t =>
  ∃ o, t.status = .running ∧ Ended t below o ∧ vx_Q Qc XC mc ms free a s o t
theorem vx_ret {g : JFrame} {mc ms : Nat} (k : W p l e R s m args below meth c H locs cells slots (MQ below Qc args s mc ms free) g) : W p l e R s m args below meth c H locs cells slots (vx_MQ below Qc XC args s mc ms free) g := by
  intro T hT X
  obtain ⟨t, a1, o, b1, b2, b3, b4⟩ := k T hT X
  exact ⟨t, a1, o, b1, b2, Or.inl ⟨b3, b4⟩⟩
/-- not caught here: it goes on to the caller -/
theorem vx_widen {g : JFrame} {q : Addr} {k n : Nat} (h1 : cells ≤ k) (h2 : slots ≤ n) (kk : vx_W p l e R s m args below meth c H locs k n Q g q) : vx_W p l e R s m args below meth c H locs cells slots Q g q := fun T hT X => kk T hT (stand_widen X h1 h2)
theorem vx_out {pc : Nat} {E : String} {ce : Cell} {q : Addr} {mc ms : Nat} (hout : ∀ x ∈ c.exceptionTable.toList, covers x pc = false) (hlocks : meth.locks = false) (hcell : H[q]? = some ce) (hv : ce.vm = .none) (hcl : s.vm.findClass E = some ce.cls)
    (hx : ∀ t : State, t.heap = H → s.vm.Alike t.vm → XC E s t) (hf : ∀ z ∈ locs, free z.base) (hc : cells ≤ mc) (hs : slots ≤ ms) :
    vx_W p l e R s m args below meth c H locs cells slots (vx_MQ below Qc XC args s mc ms free) (F0 m pc ls rest) q := by
  intro T hT X
  obtain ⟨st1, hrun, hend, hW, hsm⟩ := X.leaveThrown q (g := F0 m pc ls rest) rfl rfl rfl hout hlocks
  have hcell9 : (T.setFrames (.throwing q :: below)).heap[q]? = some ce := by
    show T.heap[q]? = some ce
    rw [hT]; exact hcell
  exact ⟨_, st1, .threw q, hrun, hend, Or.inr ⟨q, rfl, E, ce, locs, hx _ hT hW.alike, hcell9, hv, hcl, hW, hsm.mono hc hs, hf⟩⟩
theorem vx_frame {U : State} {k n : Nat} (h : s.sameButNew ({ U with vm := s.vm } : State) locs k n) : s.heap.size ≤ U.heap.size ∧ ∀ q : Nat, q < s.heap.size → (∀ z ∈ locs, z.base ≠ q) → U.heap[q]? = s.heap[q]? := by
  obtain ⟨-, h2, -, -, -, h6⟩ := h
  refine ⟨h2, fun q hq hz => ?_⟩
  obtain ⟨c9, e1, e2, e3, e4⟩ := h6 q _ (Array.getElem?_eq_getElem hq)
  have hs : c9.slots = (s.heap[q]).slots := Array.ext_getElem? fun i => e4 i fun hm => hz _ hm rfl
  have h9 : c9 = s.heap[q] := by
    rw [hs] at e2
    exact e2
  have e5 : U.heap[q]? = some c9 := e1
  rw [e5, h9, Array.getElem?_eq_getElem hq]
/-- the words of a throw but the four that speak of the heap -/
def vx_no (w : Cond) : Bool := decide (w ≠ .isRef (.static Bundle.tN "UNASSIGNED_STACK" Bundle.steD)) && decide (w ≠ .isRef (.static Bundle.tN "SUPPRESSED_SENTINEL" Bundle.listD)) && decide (w ≠ .laysStatic Bundle.tN "UNASSIGNED_STACK" Bundle.steD) && decide (w ≠ .laysStatic Bundle.tN "SUPPRESSED_SENTINEL" Bundle.listD)
def vx_at0 (own : String) (ic : Nat) (X : String) (names : List String) : List Cond := (Bundle.ownAtoms0 own ic X names).filter vx_no
def vx_atS (own : String) (ic : Nat) (X : String) (names : List String) : List Cond := (Bundle.ownAtoms own ic X names).filter vx_no
/-- a word that the tables alone decide, or a good one -/
def vx_ot (w : Cond) : Bool := w.onTables || goodWord w
theorem vx_ot_at {args a' : Array Value} {s U : State} {w : Cond} (hW : s.WarmedH U.vm) (hvm : s.vm = U.vm) (hg : vx_ot w = true) (h : w.before args s = true) : w.before a' U = true := by
  simp only [vx_ot, Bool.or_eq_true] at hg
  rcases hg with hg | hg
  · exact va_tabs hg hvm h
  · exact word_at hW (good_of_word hg) h
/-- a list's words: the good ones out of the method's own list, the others by premises of their own -/
theorem vx_hat {args : Array Value} {s : State} {L B : List Cond} (h1 : ∀ w ∈ L.filter goodWord, w.before args s = true) (h2 : ∀ w ∈ L.filter (fun w => !goodWord w), w ∈ B) (h3 : ∀ w ∈ B, w.before args s = true) : ∀ w ∈ L, w.before args s = true := by
  intro w hw
  by_cases g : goodWord w = true
  · exact h1 w (List.mem_filter.mpr ⟨hw, g⟩)
  · refine h3 w (h2 w (List.mem_filter.mpr ⟨hw, ?_⟩))
    show (!goodWord w) = true
    cases hgw : goodWord w
    · rfl
    · exact absurd hgw g
theorem vx_c {args : Array Value} {s : State} {w : Cond} {B : List Cond} (h : w.before args s = true) (t : ∀ w ∈ B, w.before args s = true) : ∀ w' ∈ w :: B, w'.before args s = true := fun w' h' => (List.mem_cons.mp h').elim (fun e => by rw [e]; exact h) (t w')
theorem vx_n {args : Array Value} {s : State} : ∀ w ∈ ([] : List Cond), w.before args s = true := fun _ h => nomatch h
theorem vx_own {args : Array Value} {s : State} {L : List Cond} (h1 : ∀ w ∈ L.filter vx_no, w.before args s = true)
    (hU : (Cond.isRef (.static Bundle.tN "UNASSIGNED_STACK" Bundle.steD)).before args s = true) (hN : (Cond.isRef (.static Bundle.tN "SUPPRESSED_SENTINEL" Bundle.listD)).before args s = true)
    (lU : (Cond.laysStatic Bundle.tN "UNASSIGNED_STACK" Bundle.steD).before args s = true) (lN : (Cond.laysStatic Bundle.tN "SUPPRESSED_SENTINEL" Bundle.listD).before args s = true) : ∀ w ∈ L, w.before args s = true := by
  intro w hw
  by_cases e1 : w = .isRef (.static Bundle.tN "UNASSIGNED_STACK" Bundle.steD)
  · rw [e1]; exact hU
  · by_cases e2 : w = .isRef (.static Bundle.tN "SUPPRESSED_SENTINEL" Bundle.listD)
    · rw [e2]; exact hN
    · by_cases e3 : w = .laysStatic Bundle.tN "UNASSIGNED_STACK" Bundle.steD
      · rw [e3]; exact lU
      · by_cases e4 : w = .laysStatic Bundle.tN "SUPPRESSED_SENTINEL" Bundle.listD
        · rw [e4]; exact lN
        · exact h1 w (List.mem_filter.mpr ⟨hw, by unfold vx_no; rw [decide_eq_true e1, decide_eq_true e2, decide_eq_true e3, decide_eq_true e4]; rfl⟩)
/-- where a static field lies, its class's statics cell in H -/
def vx_L (C n d : String) (A : Nat → Prop) (U : State) (H : Heap) : Prop := ∃ (c : ClassId) (k : Class) (i : Nat) (f : Field) (a : Nat) (cell : Cell), U.vm.findClass C = some c ∧ U.fieldFound? C n d = some (c, k, i, f) ∧ f.isStatic = true ∧ k.statics = some a ∧ H[a]? = some cell ∧ cell.vm.isStatics = true ∧ cell.cls = c ∧ f.slot < cell.slots.size ∧ k.staticTypes[f.slot]? = some f.type ∧ ¬ A a
theorem vx_L.moved {C n d : String} {A : Nat → Prop} {u U : State} {H : Heap} (hvm : u.vm.Alike U.vm) (h : vx_L C n d A u H) : vx_L C n d A U H := by
  obtain ⟨c, k, i, f, a, cell, h1, h2, h3, h4, h5, h6, h7, h8, h9, h10⟩ := h
  obtain ⟨k', hi', he⟩ := State.fieldFound?_setVm hvm h2
  exact ⟨c, k', i, f, a, cell, by rw [hvm.findClass]; exact h1, hi', h3, by rw [he]; exact h4, h5, h6, h7, h8, by rw [he]; exact h9, h10⟩
theorem vx_L.kept {C n d : String} {A : Nat → Prop} {U : State} {H H1 : Heap} (h : vx_L C n d A U H) (hq : ∀ a : Nat, a < H.size → ¬ A a → H1[a]? = H[a]?) : vx_L C n d A U H1 := by
  obtain ⟨c, k, i, f, a, cell, h1, h2, h3, h4, h5, h6, h7, h8, h9, h10⟩ := h
  exact ⟨c, k, i, f, a, cell, h1, h2, h3, h4, by rw [hq a (Array.getElem?_eq_some_iff.mp h5).1 h10]; exact h5, h6, h7, h8, h9, h10⟩
theorem vx_L.narrow {C n d : String} {A B : Nat → Prop} {U : State} {H : Heap} (h : vx_L C n d A U H) (hAB : ∀ q, B q → A q) : vx_L C n d B U H := by
  obtain ⟨c, k, i, f, a, cell, h1, h2, h3, h4, h5, h6, h7, h8, h9, h10⟩ := h
  exact ⟨c, k, i, f, a, cell, h1, h2, h3, h4, h5, h6, h7, h8, h9, fun z => h10 (hAB _ z)⟩
theorem vx_L.word {C n d : String} {A : Nat → Prop} {s : State} {args : Array Value} (h : vx_L C n d A s s.heap) : (Cond.laysStatic C n d).before args s = true := by
  obtain ⟨c, k, i, f, a, cell, h1, h2, h3, h4, h5, h6, h7, h8, h9, -⟩ := h
  show (Cond.laysStatic C n d).holds args s none s [] = true
  exact Cond.laysStatic_of h1 h2 h3 h4 h5 h6 h7 h8 h9
/-- .. and what it holds: null or some reference -/
def vx_Zq (C n d : String) (A : Nat → Prop) (U : State) (H : Heap) : Prop := va_Zq C n d A U H ∧ vx_L C n d A U H
theorem vx_Zq.moved {C n d : String} {A : Nat → Prop} {u U : State} {H : Heap} (hvm : u.vm.Alike U.vm) (h : vx_Zq C n d A u H) : vx_Zq C n d A U H := ⟨va_Zq.moved hvm h.1, vx_L.moved hvm h.2⟩
theorem vx_Zq.kept {C n d : String} {A : Nat → Prop} {U : State} {H H1 : Heap} (h : vx_Zq C n d A U H) (hq : ∀ a : Nat, a < H.size → ¬ A a → H1[a]? = H[a]?) : vx_Zq C n d A U H1 := ⟨va_Zq.kept h.1 hq, vx_L.kept h.2 hq⟩
theorem vx_Zq.narrow {C n d : String} {A B : Nat → Prop} {U : State} {H : Heap} (h : vx_Zq C n d A U H) (hAB : ∀ q, B q → A q) : vx_Zq C n d B U H := ⟨va_Zq.narrow h.1 hAB, vx_L.narrow h.2 hAB⟩
theorem vx_Zqof {args : Array Value} {s : State} {C n d : String} {A : Nat → Prop} (hl : (Cond.laysStatic C n d).before args s = true) (hini : (Cond.initialized C).before args s = true) (h : (Cond.isRef (.static C n d)).before args s = true) (hA : ∀ a : Nat, a < s.heap.size → ¬ A a) : vx_Zq C n d A s s.heap := by
  refine ⟨va_Zqof hl hini h hA, ?_⟩
  obtain ⟨c, k, i, f, a, cell, h1, h2, h3, h4, h5, h6, h7, h8, h9⟩ := Cond.laysStatic_spec hl
  exact ⟨c, k, i, f, a, cell, h1, h2, h3, h4, h5, h6, h7, h8, h9, hA a (Array.getElem?_eq_some_iff.mp h5).1⟩
theorem vx_isRef {C n d : String} {v : Value} {A : Nat → Prop} {s : State} {args : Array Value} (h : va_Z C n d v A s s.heap) (hv : v.isRef = true) : (Cond.isRef (.static C n d)).before args s = true := by
  obtain ⟨cf, kf, fi, f, a, cell, h1, h2, h3, h4, h5, h6, h7, -⟩ := h
  have he : (Term.static C n d).eval args s none [] s = some v := by
    simp [Term.eval, State.fieldNamed?, h1, h2, h4, h5, h6, h7]
  simp only [Cond.before, Cond.holds, Cond.value, he]
  cases v <;> simp_all [Value.isRef]
theorem vx_isRefq {C n d : String} {A : Nat → Prop} {s : State} {args : Array Value} (h : va_Zq C n d A s s.heap) : (Cond.isRef (.static C n d)).before args s = true := by
  rcases h with h | ⟨t, h⟩
  · exact vx_isRef h rfl
  · exact vx_isRef h rfl
/-- the same frame, seen from here: as if the method were called anew in this heap -/
theorem vx_rebase {T : State} (X : Stand p l e R s m args below meth c T locs cells slots) {R' : Room} (hf : R'.frames ≤ R.frames) (hl : R'.locals ≤ R.locals) (hc : cells + R'.cells ≤ R.cells) (hs : slots + R'.slots ≤ R.slots) :
    Stand p l e R' ((T.setVm s.vm).setFrames (.invoking m args :: below)) m args below meth c T [] 0 0 := by
  have htop : (T.setVm s.vm).topJava?.isSome := X.here.top
  have hF : ((T.setVm s.vm).setFrames (.invoking m args :: below)).frames = .invoking m args :: below := State.frames_setFrames _ (State.cur_lt_of_top htop)
  obtain ⟨g₀, hg0⟩ := Option.isSome_iff_exists.mp htop
  obtain ⟨r, hr⟩ := State.topJava?_eq_some.mp hg0
  have hl9 : e.platform.stackLimits (T.setVm s.vm).me = e.platform.stackLimits s.me := X.limits
  have hb9 : (T.setVm s.vm).me.stackBytes = s.me.stackBytes := X.bytes
  refine ⟨X.admits, X.cas, X.clock, hF, ?_, X.hears, X.method, X.code, X.here, X.tail, X.warmed, ?_, ?_, ?_⟩
  · have h := X.room
    have hU : ((T.setVm s.vm).setFrames (.invoking m args :: below)).localsInUse = s.localsInUse := by
      rw [State.localsInUse_invoking hF (meth := meth) (c := c) X.method X.code, State.localsInUse_invoking X.frames X.method X.code]
    simp only [State.hasRoom, Bool.and_eq_true, decide_eq_true_eq] at h ⊢
    obtain ⟨⟨⟨⟨h1, h2, h3, h4, h5, h6⟩, h7⟩, h8⟩, h9⟩ := h
    rw [X.frames, List.length_cons] at h2 h3
    have q1 := X.heapSize
    have q2 := X.used
    simp only [hF, hU, List.length_cons, State.stackLimits_setFrames, State.stackBytes_setFrames, hl9, hb9]
    refine ⟨⟨⟨⟨by omega, by omega, by omega, by omega, by omega, h6⟩, ?_⟩, ?_⟩, X.book⟩
    · show T.heap.size + R'.cells ≤ e.platform.maxCells
      omega
    · show T.slotsUsed + R'.slots ≤ e.platform.maxSlots
      omega
  · rw [State.stackLimits_setFrames]; rfl
  · rw [State.stackBytes_setFrames]; rfl
  · refine ⟨?_, Nat.le_refl _, Nat.le_refl _, ?_, ?_, fun a c9 h9 => ⟨c9, h9, rfl, rfl, fun _ _ => rfl⟩⟩
    · obtain ⟨t, ht, -⟩ := State.frames_cons hr
      show T.setVm s.vm = { ((T.setVm s.vm).setFrames (.invoking m args :: below)).setFrames (T.setVm s.vm).frames with heap := T.heap, slotsUsed := T.slotsUsed }
      rw [State.setFrames_setFrames, State.setFrames_self ht]
      rfl
    · show T.slotsUsed = T.slotsUsed + ((T.heap.toList.drop T.heap.size).map (·.slots.size)).sum
      rw [List.drop_eq_nil_of_le (Nat.le_of_eq Array.length_toList)]
      rfl
    · show ((T.heap.toList.drop T.heap.size).map (·.slots.size)).sum ≤ 0
      rw [List.drop_eq_nil_of_le (Nat.le_of_eq Array.length_toList)]
      exact Nat.le_refl _
/-- 'throw new E()': new; dup; invokespecial; athrow -/
theorem vx_throw0 {cc : ByteArray} {pc : Nat} (hexec : p.tables.exec = Jvm.exec) (hb : c.code = cc) (hl : l.stackTraces = false) {own cls : String} {names : List String} {ik ic mc ms : Nat} {A : Nat → Prop}
    (hown : s.vm.findClass own = some m.cls) (hcls : Bundle.fit cls = true) (hnames : ∀ n ∈ names, Bundle.fit n = true)
    (hk : (Cond.classLink own ik cls).before args s = true) (hini : (Cond.initialized cls).before args s = true) (hat : ∀ w ∈ vx_at0 own ic cls names, w.before args s = true)
    (hgood : ∀ w ∈ Cond.classLink own ik cls :: Cond.initialized cls :: vx_at0 own ic cls names, vx_ot w = true)
    (hU : vx_Zq Bundle.tN "UNASSIGNED_STACK" Bundle.steD A s s.heap) (hN : vx_Zq Bundle.tN "SUPPRESSED_SENTINEL" Bundle.listD A s s.heap) (hS : va_S A s.heap H locs) (hsize : ls.size = c.maxLocals)
    (d0 : decode cc pc = .ok (.new ik, 3)) (d3 : decode cc (pc + 3) = .ok (.dup, 1)) (d4 : decode cc (pc + 4) = .ok (.invokespecial ic, 3)) (d7 : decode cc (pc + 7) = .ok (.athrow, 1))
    (hout : ∀ x ∈ c.exceptionTable.toList, covers x (pc + 7) = false)
    (hRframes : names.length + 3 < R.frames) (hRlocals : (rest.map fun v => v.category).sum + (13 * (names.length + 1) + 42) ≤ R.locals) (hRcells : cells + 1 ≤ R.cells) (hRslots : slots + 6 ≤ R.slots) (hlocks : meth.locks = false)
    (hx : ∀ t : State, s.vm.Alike t.vm → H.size ≤ t.heap.size → (∀ q : Nat, q < H.size → t.heap[q]? = H[q]?) → XC cls s t)
    (hf : ∀ z ∈ locs, free z.base) (hc : cells + 1 ≤ mc) (hs : slots + 6 ≤ ms) :
    W p l e R s m args below meth c H locs cells slots (vx_MQ below Qc XC args s mc ms free) (F0 m pc ls rest) := by
  intro T hT X
  have htr : e.platform.stackTraces = false := (show e.platform.stackTraces = l.stackTraces by rw [X.admits.platform]).trans hl
  have Y := vx_rebase X (R' := { frames := R.frames, locals := R.locals, cells := 1, slots := 6 }) (Nat.le_refl _) (Nat.le_refl _) hRcells hRslots
  obtain ⟨s', hA⟩ : ∃ z, z = (T.setVm s.vm).setFrames (.invoking m args :: below) := ⟨_, rfl⟩
  rw [← hA] at Y
  have hvm : s'.vm = s.vm := by rw [hA]; rfl
  have hhp : s'.heap = H := by rw [hA]; exact hT
  have hW0 : s.WarmedH s'.vm := by rw [hvm]; exact State.WarmedH.refl s
  have hat' : ∀ w ∈ vx_at0 own ic cls names, w.before args s' = true := fun w hw => vx_ot_at hW0 hvm.symm (hgood w (List.mem_cons_of_mem _ (List.mem_cons_of_mem _ hw))) (hat w hw)
  have hk' : (Cond.classLink own ik cls).before args s' = true := vx_ot_at hW0 hvm.symm (hgood _ List.mem_cons_self) hk
  have hini' : (Cond.initialized cls).before args s' = true := vx_ot_at hW0 hvm.symm (hgood _ (List.mem_cons_of_mem _ List.mem_cons_self)) hini
  have hU' : vx_Zq Bundle.tN "UNASSIGNED_STACK" Bundle.steD A s' s'.heap := by rw [hhp]; exact vx_Zq.moved hW0.alike (hU.kept hS.2.1)
  have hN' : vx_Zq Bundle.tN "SUPPRESSED_SENTINEL" Bundle.listD A s' s'.heap := by rw [hhp]; exact vx_Zq.moved hW0.alike (hN.kept hS.2.1)
  have h : ∀ w ∈ Bundle.ownAtoms0 own ic cls names, w.before args s' = true := vx_own hat' (vx_isRefq hU'.1) (vx_isRefq hN'.1) hU'.2.word hN'.2.word
  have hown' : s'.vm.findClass own = some m.cls := by rw [hvm]; exact hown
  have hins : (Cond.instantiable cls 6).before args s' = true := h _ (by simp [Bundle.ownAtoms0])
  obtain ⟨vm₁, cX, kX, hfX, hkX, -, -, X₁, st1⟩ := Y.newCold hexec (own := own) (C := cls) (index := ik) (n := 6) hown' hk' hins hini'
    (g := F0 m pc ls rest) rfl (by rw [hb]; exact d0) (Nat.le_refl _) (Nat.le_refl _)
  generalize hT1 : (T.setVm vm₁).pushCell { cls := cX, slots := kX.instanceTypes.map defaultValue, vm := .none } = T1 at X₁ st1
  have hcat : (Value.ref T.heap.size).category = 1 := rfl
  have hcellA : T1.heap[T.heap.size]? = some (freshCell cX kX) := by rw [← hT1]; exact State.heap_pushCell_size _ _
  have d3' : decode c.code (pc + 3) = .ok (.dup, 1) := by rw [hb]; exact d3
  obtain ⟨U, hsteps, hrun, hend, hW, hsame, ce, hce, hO⟩ := X₁.ctorThrow0 hexec htr (own := own) (cls := cls) (names := names) (ic := ic) hown' hcls hnames h (fun x hx => nomatch hx) hfX hkX hcellA (by rw [hhp, hT]; exact Nat.le_refl _)
    (g := { method := m, pc := pc + 4, locals := ls, stack := .ref T.heap.size :: .ref T.heap.size :: rest, locked := none }) rfl hsize rfl rfl (rest := rest) rfl
    (by rw [hb]; exact d4) (by rw [hb]; exact d7) hout hRframes (by simp only [List.map_cons, List.sum_cons, hcat]; omega) hlocks
  obtain ⟨f1, f2⟩ := vx_frame hsame
  rw [hhp] at f1 f2
  have hWs : s.WarmedH U.vm := State.WarmedH.trans hW0 hW
  have hcl : s.vm.findClass cls = some ce.cls := by
    have h9 := hO.cls
    rw [hvm] at h9
    exact h9
  have hall : s.sameButNew ({ U with vm := s.vm } : State) locs mc ms := by
    subst hA
    obtain ⟨e1, e2⟩ := hsame
    rw [State.setFrames_setFrames] at e1
    have h2 : (T.setVm s.vm).sameButNew ({ U with vm := s.vm } : State) [] (0 + 1) (0 + 6) := ⟨e1, e2⟩
    have h3 := X.same.trans h2
    rw [List.append_nil] at h3
    exact h3.mono hc hs
  refine ⟨U, ?_, .threw T.heap.size, hrun, hend, Or.inr ⟨T.heap.size, rfl, cls, ce, locs, hx U hWs.alike f1 (fun q hq => f2 q hq (fun z hz => nomatch hz)), hce, hO.vm, hcl, hWs, hall, hf⟩⟩
  refine st1 _ ?_
  show Steps p.tables e below (T1.setTop { method := m, pc := pc + 3, locals := ls, stack := .ref T.heap.size :: rest, locked := none }) _
  jvm_step X₁.here [X₁.here.top, hexec, d3', Value.category]
  exact hsteps
/-- 'throw new E("text")': new; dup; ldc; invokespecial; athrow -/
theorem vx_throwS {cc : ByteArray} {pc : Nat} (hexec : p.tables.exec = Jvm.exec) (hb : c.code = cc) (hl : l.stackTraces = false) {own cls text : String} {names : List String} {ik is ic mc ms sa : Nat} {A : Nat → Prop}
    (hown : s.vm.findClass own = some m.cls) (hcls : Bundle.fit cls = true) (hnames : ∀ n ∈ names, Bundle.fit n = true)
    (hk : (Cond.classLink own ik cls).before args s = true) (hini : (Cond.initialized cls).before args s = true) (hstr : vk_R own is text sa s) (hat : ∀ w ∈ vx_atS own ic cls names, w.before args s = true)
    (hgood : ∀ w ∈ Cond.classLink own ik cls :: Cond.initialized cls :: vx_atS own ic cls names, vx_ot w = true)
    (hU : vx_Zq Bundle.tN "UNASSIGNED_STACK" Bundle.steD A s s.heap) (hN : vx_Zq Bundle.tN "SUPPRESSED_SENTINEL" Bundle.listD A s s.heap) (hS : va_S A s.heap H locs) (hsize : ls.size = c.maxLocals)
    (d0 : decode cc pc = .ok (.new ik, 3)) (d3 : decode cc (pc + 3) = .ok (.dup, 1)) (d4 : decode cc (pc + 4) = .ok (.ldc is, 2)) (d6 : decode cc (pc + 6) = .ok (.invokespecial ic, 3)) (d9 : decode cc (pc + 9) = .ok (.athrow, 1))
    (hout : ∀ x ∈ c.exceptionTable.toList, covers x (pc + 9) = false)
    (hRframes : names.length + 3 < R.frames) (hRlocals : (rest.map fun v => v.category).sum + (13 * (names.length + 1) + 43) ≤ R.locals) (hRcells : cells + 1 ≤ R.cells) (hRslots : slots + 6 ≤ R.slots) (hlocks : meth.locks = false)
    (hx : ∀ t : State, s.vm.Alike t.vm → H.size ≤ t.heap.size → (∀ q : Nat, q < H.size → t.heap[q]? = H[q]?) → XC cls s t)
    (hf : ∀ z ∈ locs, free z.base) (hc : cells + 1 ≤ mc) (hs : slots + 6 ≤ ms) :
    W p l e R s m args below meth c H locs cells slots (vx_MQ below Qc XC args s mc ms free) (F0 m pc ls rest) := by
  intro T hT X
  have htr : e.platform.stackTraces = false := (show e.platform.stackTraces = l.stackTraces by rw [X.admits.platform]).trans hl
  have Y := vx_rebase X (R' := { frames := R.frames, locals := R.locals, cells := 1, slots := 6 }) (Nat.le_refl _) (Nat.le_refl _) hRcells hRslots
  obtain ⟨s', hA⟩ : ∃ z, z = (T.setVm s.vm).setFrames (.invoking m args :: below) := ⟨_, rfl⟩
  rw [← hA] at Y
  have hvm : s'.vm = s.vm := by rw [hA]; rfl
  have hhp : s'.heap = H := by rw [hA]; exact hT
  have hW0 : s.WarmedH s'.vm := by rw [hvm]; exact State.WarmedH.refl s
  have hat' : ∀ w ∈ vx_atS own ic cls names, w.before args s' = true := fun w hw => vx_ot_at hW0 hvm.symm (hgood w (List.mem_cons_of_mem _ (List.mem_cons_of_mem _ hw))) (hat w hw)
  have hk' : (Cond.classLink own ik cls).before args s' = true := vx_ot_at hW0 hvm.symm (hgood _ List.mem_cons_self) hk
  have hini' : (Cond.initialized cls).before args s' = true := vx_ot_at hW0 hvm.symm (hgood _ (List.mem_cons_of_mem _ List.mem_cons_self)) hini
  have hU' : vx_Zq Bundle.tN "UNASSIGNED_STACK" Bundle.steD A s' s'.heap := by rw [hhp]; exact vx_Zq.moved hW0.alike (hU.kept hS.2.1)
  have hN' : vx_Zq Bundle.tN "SUPPRESSED_SENTINEL" Bundle.listD A s' s'.heap := by rw [hhp]; exact vx_Zq.moved hW0.alike (hN.kept hS.2.1)
  have h : ∀ w ∈ Bundle.ownAtoms own ic cls names, w.before args s' = true := vx_own hat' (vx_isRefq hU'.1) (vx_isRefq hN'.1) hU'.2.word hN'.2.word
  have hown' : s'.vm.findClass own = some m.cls := by rw [hvm]; exact hown
  have hins : (Cond.instantiable cls 6).before args s' = true := h _ (by simp [Bundle.ownAtoms])
  obtain ⟨vm₁, cX, kX, hfX, hkX, -, -, X₁, st1⟩ := Y.newCold hexec (own := own) (C := cls) (index := ik) (n := 6) hown' hk' hins hini'
    (g := F0 m pc ls rest) rfl (by rw [hb]; exact d0) (Nat.le_refl _) (Nat.le_refl _)
  generalize hT1 : (T.setVm vm₁).pushCell { cls := cX, slots := kX.instanceTypes.map defaultValue, vm := .none } = T1 at X₁ st1
  have hcat : (Value.ref T.heap.size).category = 1 := rfl
  have hcellA : T1.heap[T.heap.size]? = some (freshCell cX kX) := by rw [← hT1]; exact State.heap_pushCell_size _ _
  have d3' : decode c.code (pc + 3) = .ok (.dup, 1) := by rw [hb]; exact d3
  have d4' : decode c.code (pc + 4) = .ok (.ldc is, 2) := by rw [hb]; exact d4
  have hstr' : vk_R own is text sa s' := vk_R.warm hW0 hstr
  obtain ⟨U, hsteps, hrun, hend, hW, hsame, ce, hce, hO⟩ := X₁.ctorThrowS hexec htr (own := own) (cls := cls) (names := names) (ic := ic) hown' hcls hnames h (fun x hx => nomatch hx) hfX hkX hcellA (by rw [hhp, hT]; exact Nat.le_refl _) (msg := .ref sa) rfl
    (g := { method := m, pc := pc + 6, locals := ls, stack := .ref sa :: .ref T.heap.size :: .ref T.heap.size :: rest, locked := none }) rfl hsize rfl rfl (rest := rest) rfl
    (by rw [hb]; exact d6) (by rw [hb]; exact d9) hout hRframes (by simp only [List.map_cons, List.sum_cons, hcat]; omega) hlocks
  obtain ⟨f1, f2⟩ := vx_frame hsame
  rw [hhp] at f1 f2
  have hWs : s.WarmedH U.vm := State.WarmedH.trans hW0 hW
  have hcl : s.vm.findClass cls = some ce.cls := by
    have h9 := hO.cls
    rw [hvm] at h9
    exact h9
  have hall : s.sameButNew ({ U with vm := s.vm } : State) locs mc ms := by
    subst hA
    obtain ⟨e1, e2⟩ := hsame
    rw [State.setFrames_setFrames] at e1
    have h2 : (T.setVm s.vm).sameButNew ({ U with vm := s.vm } : State) [] (0 + 1) (0 + 6) := ⟨e1, e2⟩
    have h3 := X.same.trans h2
    rw [List.append_nil] at h3
    exact h3.mono hc hs
  refine ⟨U, ?_, .threw T.heap.size, hrun, hend, Or.inr ⟨T.heap.size, rfl, cls, ce, locs, hx U hWs.alike f1 (fun q hq => f2 q hq (fun z hz => nomatch hz)), hce, hO.vm, hcl, hWs, hall, hf⟩⟩
  refine st1 _ ?_
  show Steps p.tables e below (T1.setTop { method := m, pc := pc + 3, locals := ls, stack := .ref T.heap.size :: rest, locked := none }) _
  jvm_step X₁.here [X₁.here.top, hexec, d3', Value.category]
  exact X₁.ldcString hexec (own := own) (text := text) (index := is) (a := sa) hown' hstr'.1 hstr'.2
    (g := { method := m, pc := pc + 4, locals := ls, stack := .ref T.heap.size :: .ref T.heap.size :: rest, locked := none }) rfl d4' _ hsteps
/-- 'throw new E("text")', the text by a wide index -/
theorem vx_throwSW {cc : ByteArray} {pc : Nat} (hexec : p.tables.exec = Jvm.exec) (hb : c.code = cc) (hl : l.stackTraces = false) {own cls text : String} {names : List String} {ik is ic mc ms sa : Nat} {A : Nat → Prop}
    (hown : s.vm.findClass own = some m.cls) (hcls : Bundle.fit cls = true) (hnames : ∀ n ∈ names, Bundle.fit n = true)
    (hk : (Cond.classLink own ik cls).before args s = true) (hini : (Cond.initialized cls).before args s = true) (hstr : vk_R own is text sa s) (hat : ∀ w ∈ vx_atS own ic cls names, w.before args s = true)
    (hgood : ∀ w ∈ Cond.classLink own ik cls :: Cond.initialized cls :: vx_atS own ic cls names, vx_ot w = true)
    (hU : vx_Zq Bundle.tN "UNASSIGNED_STACK" Bundle.steD A s s.heap) (hN : vx_Zq Bundle.tN "SUPPRESSED_SENTINEL" Bundle.listD A s s.heap) (hS : va_S A s.heap H locs) (hsize : ls.size = c.maxLocals)
    (d0 : decode cc pc = .ok (.new ik, 3)) (d3 : decode cc (pc + 3) = .ok (.dup, 1)) (d4 : decode cc (pc + 4) = .ok (.ldc_w is, 3)) (d7 : decode cc (pc + 7) = .ok (.invokespecial ic, 3)) (d10 : decode cc (pc + 10) = .ok (.athrow, 1))
    (hout : ∀ x ∈ c.exceptionTable.toList, covers x (pc + 10) = false)
    (hRframes : names.length + 3 < R.frames) (hRlocals : (rest.map fun v => v.category).sum + (13 * (names.length + 1) + 43) ≤ R.locals) (hRcells : cells + 1 ≤ R.cells) (hRslots : slots + 6 ≤ R.slots) (hlocks : meth.locks = false)
    (hx : ∀ t : State, s.vm.Alike t.vm → H.size ≤ t.heap.size → (∀ q : Nat, q < H.size → t.heap[q]? = H[q]?) → XC cls s t)
    (hf : ∀ z ∈ locs, free z.base) (hc : cells + 1 ≤ mc) (hs : slots + 6 ≤ ms) :
    W p l e R s m args below meth c H locs cells slots (vx_MQ below Qc XC args s mc ms free) (F0 m pc ls rest) := by
  intro T hT X
  have htr : e.platform.stackTraces = false := (show e.platform.stackTraces = l.stackTraces by rw [X.admits.platform]).trans hl
  have Y := vx_rebase X (R' := { frames := R.frames, locals := R.locals, cells := 1, slots := 6 }) (Nat.le_refl _) (Nat.le_refl _) hRcells hRslots
  obtain ⟨s', hA⟩ : ∃ z, z = (T.setVm s.vm).setFrames (.invoking m args :: below) := ⟨_, rfl⟩
  rw [← hA] at Y
  have hvm : s'.vm = s.vm := by rw [hA]; rfl
  have hhp : s'.heap = H := by rw [hA]; exact hT
  have hW0 : s.WarmedH s'.vm := by rw [hvm]; exact State.WarmedH.refl s
  have hat' : ∀ w ∈ vx_atS own ic cls names, w.before args s' = true := fun w hw => vx_ot_at hW0 hvm.symm (hgood w (List.mem_cons_of_mem _ (List.mem_cons_of_mem _ hw))) (hat w hw)
  have hk' : (Cond.classLink own ik cls).before args s' = true := vx_ot_at hW0 hvm.symm (hgood _ List.mem_cons_self) hk
  have hini' : (Cond.initialized cls).before args s' = true := vx_ot_at hW0 hvm.symm (hgood _ (List.mem_cons_of_mem _ List.mem_cons_self)) hini
  have hU' : vx_Zq Bundle.tN "UNASSIGNED_STACK" Bundle.steD A s' s'.heap := by rw [hhp]; exact vx_Zq.moved hW0.alike (hU.kept hS.2.1)
  have hN' : vx_Zq Bundle.tN "SUPPRESSED_SENTINEL" Bundle.listD A s' s'.heap := by rw [hhp]; exact vx_Zq.moved hW0.alike (hN.kept hS.2.1)
  have h : ∀ w ∈ Bundle.ownAtoms own ic cls names, w.before args s' = true := vx_own hat' (vx_isRefq hU'.1) (vx_isRefq hN'.1) hU'.2.word hN'.2.word
  have hown' : s'.vm.findClass own = some m.cls := by rw [hvm]; exact hown
  have hins : (Cond.instantiable cls 6).before args s' = true := h _ (by simp [Bundle.ownAtoms])
  obtain ⟨vm₁, cX, kX, hfX, hkX, -, -, X₁, st1⟩ := Y.newCold hexec (own := own) (C := cls) (index := ik) (n := 6) hown' hk' hins hini'
    (g := F0 m pc ls rest) rfl (by rw [hb]; exact d0) (Nat.le_refl _) (Nat.le_refl _)
  generalize hT1 : (T.setVm vm₁).pushCell { cls := cX, slots := kX.instanceTypes.map defaultValue, vm := .none } = T1 at X₁ st1
  have hcat : (Value.ref T.heap.size).category = 1 := rfl
  have hcellA : T1.heap[T.heap.size]? = some (freshCell cX kX) := by rw [← hT1]; exact State.heap_pushCell_size _ _
  have d3' : decode c.code (pc + 3) = .ok (.dup, 1) := by rw [hb]; exact d3
  have d4' : decode c.code (pc + 4) = .ok (.ldc_w is, 3) := by rw [hb]; exact d4
  have hstr' : vk_R own is text sa s' := vk_R.warm hW0 hstr
  obtain ⟨U, hsteps, hrun, hend, hW, hsame, ce, hce, hO⟩ := X₁.ctorThrowS hexec htr (own := own) (cls := cls) (names := names) (ic := ic) hown' hcls hnames h (fun x hx => nomatch hx) hfX hkX hcellA (by rw [hhp, hT]; exact Nat.le_refl _) (msg := .ref sa) rfl
    (g := { method := m, pc := pc + 7, locals := ls, stack := .ref sa :: .ref T.heap.size :: .ref T.heap.size :: rest, locked := none }) rfl hsize rfl rfl (rest := rest) rfl
    (by rw [hb]; exact d7) (by rw [hb]; exact d10) hout hRframes (by simp only [List.map_cons, List.sum_cons, hcat]; omega) hlocks
  obtain ⟨f1, f2⟩ := vx_frame hsame
  rw [hhp] at f1 f2
  have hWs : s.WarmedH U.vm := State.WarmedH.trans hW0 hW
  have hcl : s.vm.findClass cls = some ce.cls := by
    have h9 := hO.cls
    rw [hvm] at h9
    exact h9
  have hall : s.sameButNew ({ U with vm := s.vm } : State) locs mc ms := by
    subst hA
    obtain ⟨e1, e2⟩ := hsame
    rw [State.setFrames_setFrames] at e1
    have h2 : (T.setVm s.vm).sameButNew ({ U with vm := s.vm } : State) [] (0 + 1) (0 + 6) := ⟨e1, e2⟩
    have h3 := X.same.trans h2
    rw [List.append_nil] at h3
    exact h3.mono hc hs
  refine ⟨U, ?_, .threw T.heap.size, hrun, hend, Or.inr ⟨T.heap.size, rfl, cls, ce, locs, hx U hWs.alike f1 (fun q hq => f2 q hq (fun z hz => nomatch hz)), hce, hO.vm, hcl, hWs, hall, hf⟩⟩
  refine st1 _ ?_
  show Steps p.tables e below (T1.setTop { method := m, pc := pc + 3, locals := ls, stack := .ref T.heap.size :: rest, locked := none }) _
  jvm_step X₁.here [X₁.here.top, hexec, d3', Value.category]
  exact X₁.ldcStringW hexec (own := own) (text := text) (index := is) (a := sa) hown' hstr'.1 hstr'.2
    (g := { method := m, pc := pc + 4, locals := ls, stack := .ref T.heap.size :: .ref T.heap.size :: rest, locked := none }) rfl d4' _ hsteps
end Ends
section Bodies
variable {l : Launch}
theorem vx_ofW {y : MethodName} {ws ws' : List Cond} {rm : Room} {Pc : Array Value → State → Prop} {Qc : Array Value → State → Outcome → State → Prop} {XC : String → State → State → Prop} {mc ms : Nat} {free : Addr → Prop} {cc : ByteArray} {maxL : Nat} {ret : Option FieldType}
    (hy : plainName y.cls = true) (hw : ws = Cond.code y cc maxL ret :: ws')
    (body : ∀ p e s m args below meth c s₁, BodyLoose p l y (headSpec ws rm) cc maxL ret e s m args below meth c s₁ → c.maxLocals = maxL → (∀ x ∈ c.exceptionTable.toList, False) → Pc args s →
      W p l e (headSpec ws rm).room s m args below meth c s.heap [] 0 0 (vx_MQ below Qc XC args s mc ms free) (entryFrame m args maxL)) : vx_Met l y ws rm Pc Qc XC mc ms free := by
  refine MetFree.of_bodyS (code := cc) (maxLocals := maxL) (ret := ret) hy ?_ ?_
  · intro args s m h hn
    obtain ⟨meth, c, h1, h2, h3, h4, h5, h6, -, -⟩ := Cond.code_spec hn (atoms_spec (ws := ws) h _ (by rw [hw]; exact List.mem_cons_self))
    exact ⟨meth, c, h1, h2, h3, h4, h5, h6⟩
  · intro p e s m args below meth c s₁ B hml hP _
    have hh0 : s₁.heap = s.heap := by rw [B.state]; rfl
    have ht : ∀ x ∈ c.exceptionTable.toList, False := by
      obtain ⟨meth9, c9, h1, h2, -, -, -, -, h7, -⟩ := Cond.code_spec B.named (atoms_spec (ws := ws) B.pre _ (by rw [hw]; exact List.mem_cons_self))
      cases Option.some.inj (h1.symm.trans B.method)
      cases Option.some.inj (h2.symm.trans (Stand.of_body B).code)
      intro x hx
      rw [Array.isEmpty_iff.mp h7] at hx
      cases hx
    obtain ⟨t, a1, o, b1, b2, b3⟩ := body p e s m args below meth c s₁ B hml ht hP s₁ hh0 (Stand.of_body B)
    exact ⟨t, o, a1, b1, b2, b3⟩
/-- the table of a body with handlers -/
theorem vx_table {p : Program} {x y : MethodName} {S : Spec} {cc bytes : ByteArray} {maxL maxL' : Nat} {ret ret' : Option FieldType} {e : Env} {s s₁ : State} {m : MethodId} {args : Array Value} {below : List Frame} {meth : Method} {c : Code} {hh : List (Nat × Nat × Nat × Nat)}
    (B : BodyLoose p l y S cc maxL ret e s m args below meth c s₁) (h : (Cond.codeWith y bytes maxL' ret' hh).before args s = true) : c.exceptionTable.toList = tableOf hh := by
  obtain ⟨m9, meth9, c9, hn9, h1, h2, -, -, h6, -⟩ := Cond.codeWith_spec h
  cases Option.some.inj (hn9.symm.trans B.named)
  cases Option.some.inj (h1.symm.trans B.method)
  cases Option.some.inj (h2.symm.trans (Stand.of_body B).code)
  rw [← h6, table_eq]
end Bodies
end VXA
/-! ===== END ===== -/
/-! ===== BEGIN a static call of a method with an exception table ===== -/
section VXS
variable {p : Program} {l : Launch} {e : Env} {R : Room} {s : State} {m : MethodId} {args : Array Value} {below : List Frame} {meth : Method} {c : Code} {T : State} {H : Heap} {locs : List Loc} {cells slots : Nat}
abbrev vx_CSW (R : Room) (s : State) (args : Array Value) (own : String) (index : Nat) (y : MethodName) (bytes : ByteArray) (maxL : Nat) (ret : Option FieldType) (hh : List (Nat × Nat × Nat × Nat)) (ws : List Cond) (rm : Room) (mc ms n : Nat) : Prop :=
  (rm.cells = mc ∧ rm.slots = ms ∧ rm.frames + 1 ≤ R.frames ∧ 8 + (maxL + 11) + rm.locals ≤ R.locals ∧ (∀ w ∈ ws, ∀ (a' : Array Value) (U : State), s.WarmedH U.vm → w.before a' U = true) ∧ Cond.codeWith y bytes maxL ret hh ∈ ws) ∧
  (Cond.codeWith y bytes maxL ret hh).before args s = true ∧ (Cond.initialized y.cls).before args s = true ∧ (y.cls ≠ "java/lang/invoke/MethodHandle" ∧ y.cls ≠ "java/lang/invoke/VarHandle") ∧
  (∀ sig, parseMethodDescriptor y.desc = some sig → n = sig.parameters.length) ∧ (Cond.methodLink own index y).before args s = true ∧ (Cond.static y).before args s = true
theorem vx_cwSW {own : String} {index maxL mc ms : Nat} {y : MethodName} {bytes : ByteArray} {ret : Option FieldType} {hh : List (Nat × Nat × Nat × Nat)} {Ts ws ws' : List Cond} {rm : Room} (n : Nat) (ht : ∀ w ∈ Ts, w.before args s = true) (hT : GoodIn Ts (va_wsS own index y ws)) (hw : ws = Cond.codeWith y bytes maxL ret hh :: ws') (hrc : rm.cells = mc) (hrs : rm.slots = ms)
    (hd : y.cls ≠ "java/lang/invoke/MethodHandle" ∧ y.cls ≠ "java/lang/invoke/VarHandle" ∧ (parseMethodDescriptor y.desc).map (fun d => d.parameters.length) = some n) (hR : rm.frames + 1 ≤ R.frames ∧ 8 + (maxL + 11) + rm.locals ≤ R.locals) :
    vx_CSW R s args own index y bytes maxL ret hh ws rm mc ms n := by
  have ok : ∀ w ∈ va_wsS own index y ws, w.before args s = true := fun w h => ht w (hT w h).1
  have hG : GoodIn Ts ws := fun w h => hT w (by unfold va_wsS; exact List.mem_append_right _ h)
  have hc : Cond.codeWith y bytes maxL ret hh ∈ ws := by rw [hw]; exact List.mem_cons_self
  refine ⟨⟨hrc, hrs, hR.1, hR.2, pay_in ht hG, hc⟩, ht _ (hG _ hc).1, ok _ (by simp [va_wsS]), ⟨hd.1, hd.2.1⟩, fun sig h => ?_, ok _ (by simp [va_wsS]), ok _ (by simp [va_wsS])⟩
  have h2 := hd.2.2
  rw [h] at h2
  exact (Option.some.inj h2).symm
theorem vx_callSW (X : Stand p l e R s m args below meth c T locs cells slots) (hexec : p.tables.exec = Jvm.exec) {own : String} {index : Nat} {y : MethodName} {bytes : ByteArray} {maxL : Nat} {ret : Option FieldType} {hh : List (Nat × Nat × Nat × Nat)}
    (hown : s.vm.findClass own = some m.cls) (hlink : (Cond.methodLink own index y).before args s = true) (hstat : (Cond.static y).before args s = true) (hinit : (Cond.initialized y.cls).before args s = true)
    (hcode : (Cond.codeWith y bytes maxL ret hh).before args s = true) (hy : y.cls ≠ "java/lang/invoke/MethodHandle" ∧ y.cls ≠ "java/lang/invoke/VarHandle")
    {W9 : Nat} {Pre : Pt → Array Value → Prop} {Post : Pt → Array Value → Option Value → Pt → Prop} (hK : Back l R p e below s args y 3 W9 Pre Post)
    {g : JFrame} (hg : g.method = m) (hsize : g.locals.size = c.maxLocals) {argsL rest : List Value} (hlen : ∀ sig, parseMethodDescriptor y.desc = some sig → argsL.length = sig.parameters.length)
    (hstack : g.stack = argsL.reverse ++ rest) (hW : 2 * g.monitorRoom + (rest.map fun v => v.category).sum ≤ W9) (hdg : decode c.code g.pc = .ok (.invokestatic index, 3))
    (hpre : ∀ vm₁, s.WarmedH vm₁ → Pre ⟨T.setVm vm₁, locs, cells, slots⟩ argsL.toArray) :
    ∃ (v : Option Value) (vm₁ : Vm) (B : Pt), s.WarmedH vm₁ ∧ Stand p l e R s m args below meth c B.U B.locs B.cells B.slots ∧ Post ⟨T.setVm vm₁, locs, cells, slots⟩ argsL.toArray v B ∧
      ∀ target, Steps p.tables e below (B.U.setTop { g with pc := g.pc + 3, stack := v.toList ++ rest }) target → Steps p.tables e below (T.setTop g) target := by
  obtain ⟨mk, methM, cM, hnamed, hmethM, -, -, -, -, -, -, hsigM⟩ := Cond.codeWith_spec hcode
  have hstatic : methM.isStatic = true := Cond.static_spec hnamed hmethM hstat
  obtain ⟨kP, hkP, -⟩ := className_of_methodNamed hnamed
  have hinitP : kP.init = .initialized := Cond.initialized_spec (findClass_of_methodNamed hnamed) hkP hinit
  obtain ⟨vm₁, X₁, hstep₁⟩ := X.invokestatic hexec hown hlink hnamed hmethM hstatic hkP hinitP hy (g := g) hg (argsL := argsL) (rest := rest) (hlen _ hsigM) hstack hdg
  obtain ⟨v, B, X', hpost, hsteps⟩ := hK m meth c ⟨T.setVm vm₁, locs, cells, slots⟩ { g with stack := rest } (.invokestatic index) mk argsL.toArray X₁ hg hsize hdg hW (X₁.named hnamed) (hpre vm₁ X₁.warmed)
  exact ⟨v, vm₁, B, X₁.warmed, X', hpost, fun target h => hstep₁ _ fun acts => by rw [doInvoke_state]; exact hsteps.trans h⟩
theorem vx_runSW {y : MethodName} {bytes cc : ByteArray} {maxL nL mc ms n index : Nat} {ret : Option FieldType} {hh : List (Nat × Nat × Nat × Nat)} {ws : List Cond} {rm : Room} {Pc : Array Value → State → Prop} {Qc : Array Value → State → Outcome → State → Prop} {free : Addr → Prop} {Ts : List Cond} {own : String} {As rest : List Value} {g : JFrame}
    (S : CallFix p m c cc nL s args Ts own) (hM : Met l y ws rm Pc Qc mc ms free) (cw : vx_CSW R s args own index y bytes maxL ret hh ws rm mc ms n) (hp : PreS s H Pc As)
    (hg : g.method = m) (hn : As.length = n) (hsize : g.locals.size = nL) (hstack : g.stack = As.reverse ++ rest) (hW : 2 * g.monitorRoom + (rest.map fun v => v.category).sum ≤ 8) (hdg : decode cc g.pc = .ok (.invokestatic index, 3)) (hf : cells + mc ≤ R.cells ∧ slots + ms ≤ R.slots) :
    va_Run p l e R s m args below meth c H locs cells slots mc ms g rest (Qc As.toArray) (free) := by
  obtain ⟨⟨hrc, hrs, hfr, hlo, hws, hcw⟩, hcode, hini, hy, hlen, hl, hstt⟩ := cw
  have hK : Back l R p e below s args y 3 8 (PreOf R mc ms Pc) (PostOf Qc mc ms free) := va_backW (hh := hh) (bytes := bytes) (maxL := maxL) (ret := ret) hM hp.1 hrc hrs hfr hlo hws hcw (fun a' U hW => word_at hW (Or.inl (by first | rfl | simp [Cond.onTables, Cond.keeps, Cond.steady])) hini)
  obtain ⟨hx, hb, hml, ho, -⟩ := S
  intro T hT X
  obtain ⟨v, vm₁, ⟨U', l2, c2, s2⟩, hW₁, X', ⟨g', mk, t, L, e1, e2, hq, h1, hL, h2, h3⟩, st⟩ := vx_callSW X hx (hh := hh) (bytes := bytes) (maxL := maxL) (ret := ret) ho hl hstt hini hcode hy hK hg (hsize.trans hml.symm) (argsL := As) (rest := rest) (fun sig h => hn.trans (hlen sig h)) hstack hW (by rw [hb]; exact hdg)
    (fun vm₁ hW₁ => ⟨hf.1, hf.2, hp.2 (T.setVm vm₁) hT hW₁⟩)
  dsimp only [Pt.U, Pt.locs, Pt.cells, Pt.slots] at X' e1 e2 h1 h2 h3 st
  subst h1; subst h2; subst h3
  exact ⟨v, (T.setVm vm₁).calling g' mk As.toArray, t, U', L, hT, X', hL, e1, e2, hq, st⟩
/-- not caught here, past rows that name other classes: it goes on to the caller -/
theorem vx_outP {p : Program} {l : Launch} {e : Env} {R : Room} {s : State} {m : MethodId} {args : Array Value} {below : List Frame} {meth : Method} {c : Code} {H : Heap} {locs : List Loc} {cells slots : Nat} {free : Addr → Prop} {ls : Array Slot} {rest : List Value} {Qc : Array Value → State → Outcome → State → Prop} {XC : String → State → State → Prop}
    {pc : Nat} {own E : String} {ce : Cell} {q : Addr} {mc ms : Nat} (hown : s.vm.findClass own = some m.cls) (hlocks : meth.locks = false)
    (hpass : ∀ z ∈ c.exceptionTable.toList, covers z pc = false ∨ (z.catchType ≠ 0 ∧ ∃ nm : String, (Cond.classLink own z.catchType nm).before args s = true ∧ va_Nc E nm s)) (hcell : H[q]? = some ce) (hv : ce.vm = .none) (hcl : s.vm.findClass E = some ce.cls)
    (hx : ∀ t : State, t.heap = H → s.vm.Alike t.vm → XC E s t) (hf : ∀ z ∈ locs, free z.base) (hc : cells ≤ mc) (hs : slots ≤ ms) :
    vx_W p l e R s m args below meth c H locs cells slots (vx_MQ below Qc XC args s mc ms free) (F0 m pc ls rest) q := by
  intro T hT X
  have hpl : e.platform.magicAccessors = ({} : Platform).magicAccessors := by rw [X.admits.platform]
  obtain ⟨vm', hW', X', st⟩ := X.outThrough hlocks q (g := F0 m pc ls rest) rfl rfl rfl (cell := ce) (by rw [hT]; exact hcell) (by rw [hv]; rfl)
    (by obtain ⟨k9, h9, -⟩ := Vm.findClass_spec hcl; exact ⟨k9, h9⟩) (fun z hz => by
      rcases hpass z hz with h | ⟨hz0, nm, hl1, hn1⟩
      · exact Or.inl h
      · obtain ⟨c6, hc6, hcl6⟩ := Cond.classLink_spec hown hl1 e.platform hpl
        obtain ⟨a8, b8, h1, h2, h3⟩ := hn1
        cases Option.some.inj (h1.symm.trans hcl)
        cases Option.some.inj (h2.symm.trans hc6)
        exact Or.inr ⟨hz0, _, hcl6, h3⟩)
  obtain ⟨g₀, hfr⟩ := X'.frames_eq
  have hcell9 : ((T.setVm vm').setFrames (.throwing q :: below)).heap[q]? = some ce := by
    show T.heap[q]? = some ce
    rw [hT]; exact hcell
  have hend : Ended ((T.setVm vm').setFrames (.throwing q :: below)) below (.threw q) := State.frames_setFrames _ (State.cur_lt_of_frames hfr)
  refine ⟨(T.setVm vm').setFrames (.throwing q :: below), ?_, .threw q, X'.here.running, hend, Or.inr ⟨q, rfl, E, ce, locs, hx _ hT (X'.ends _).1.alike, hcell9, hv, hcl, (X'.ends _).1, (X'.ends _).2.mono hc hs, hf⟩⟩
  rw [X.pushThrowing_eq]
  exact st
/-- a thing of a world lies in the heap -/
theorem vx_lt {D : va_G} {cl : List vw_C} {ws : va_W} {H1 : Heap} (h : va_P D cl ws H1) {k : Nat} {q : Nat × va_E} (hk : ws[k]? = some q) : q.1 < H1.size := (h k q hk).lt
end VXS
/-! ===== END ===== -/
/-! ===== BEGIN methods with a table of their own: called by a name, returning or throwing ===== -/
section VXH
/-! vx_backW, vx_callVX, vx_callSX, vx_callVW, vx_runVW, vx_runVX, vx_runSX, vx_ofWH follow the same proofs as their sisters above (Free/Laws.lean, Shelf42/LK1.lean); vx_outP calls Shelf42/NT130.lean (outThrough). -/
section
variable {l : Launch} {R : Room} {p : Program} {e : Env} {below : List Frame} {s : State} {sargs : Array Value} {y : MethodName} {len W9 : Nat}
theorem vx_backW {ws : List Cond} {rm : Room} {Pc : Array Value → State → Prop} {Qc : Array Value → State → Outcome → State → Prop} {XC : String → State → State → Prop} {mc ms : Nat} {free : Addr → Prop} {bytes : ByteArray} {maxL : Nat} {ret : Option FieldType} {hh : List (Nat × Nat × Nat × Nat)}
    (hM : vx_Met l y ws rm Pc Qc XC mc ms free) (hblind : FrameBlind Pc) (hrc : rm.cells = mc) (hrs : rm.slots = ms)
    (hframes : rm.frames + 1 ≤ R.frames) (hlocals : W9 + (maxL + 11) + rm.locals ≤ R.locals)
    (hws : ∀ w ∈ ws, ∀ a' U, s.WarmedH U.vm → w.before a' U = true) (hcode : Cond.codeWith y bytes maxL ret hh ∈ ws) (hinit : ∀ a' U, s.WarmedH U.vm → (Cond.initialized y.cls).before a' U = true) :
    vx_Back l R p e below s sargs y len W9 (PreOf R mc ms Pc) (PostOf Qc mc ms free) (vx_Post XC mc ms free) := by
  intro m meth c A g ig mk a X hg hsize hdg hW hn hp
  have h1 : (headSpec ws rm).pre.before a A.U = true := atoms_intro fun w hw => hws w hw _ _ X.warmed
  have h2 : (Cond.codeWith y bytes maxL ret hh).before a A.U = true := hws _ hcode _ _ X.warmed
  have h3 : (Cond.initialized y.cls).before a A.U = true := hinit _ _ X.warmed
  have h4 : A.cells + (headSpec ws rm).room.cells ≤ R.cells := by rw [show (headSpec ws rm).room.cells = mc from hrc]; exact hp.1
  have h5 : A.slots + (headSpec ws rm).room.slots ≤ R.slots := by rw [show (headSpec ws rm).room.slots = ms from hrs]; exact hp.2.1
  have hPc : Pc a (A.U.calling g mk a) := hblind _ _ _ _ hp.2.2
  obtain ⟨U, Ls, c0, s0⟩ := A
  dsimp only [Pt.U, Pt.locs, Pt.cells, Pt.slots] at h1 h2 h3 h4 h5 X hn hPc ⊢
  obtain ⟨m9, methY, cY, hn9, hmY, hcY, -, hlY, -⟩ := Cond.codeWith_spec h2
  cases Option.some.inj (hn9.symm.trans hn)
  obtain ⟨kY, hkY, -⟩ := className_of_methodNamed hn
  have hinitY : kY.init = .initialized := Cond.initialized_spec (findClass_of_methodNamed hn) hkY h3
  have h : At U g.method c below := by rw [hg]; exact X.here
  have hlocals9 : W9 + (maxL + 11) + (headSpec ws rm).room.locals ≤ R.locals := hlocals
  have happ : (headSpec ws rm).appliesLoose y e.platform (U.calling g mk a) = true :=
    Spec.appliesLoose_calling (g := g) h hdg hn hkY hinitY
      (X.room_calling (g := g) (R' := (headSpec ws rm).room) hsize hmY hcY hframes (by rw [hlY]; omega) h4 h5) h1
  obtain ⟨mid, hmid⟩ := h.above
  have hfr : (U.setTop g).frames = (.java g :: mid) ++ below := by rw [State.frames_setTop' g h.top, hmid]; rfl
  obtain ⟨o, s₂, hsteps, -, hend, hq⟩ := Steps.callFree hM p X.admits X.cas X.clock (acts := []) hfr happ hPc trivial
  have hq' : vx_Q Qc XC mc ms free a (U.calling g mk a) o s₂ := hq
  rw [State.frames_setTop' g h.top] at hend
  obtain ⟨g₀, hg0⟩ := Option.isSome_iff_exists.mp h.top
  obtain ⟨r, hr⟩ := State.topJava?_eq_some.mp hg0
  have hr' : (({ U with heap := s₂.heap, slotsUsed := s₂.slotsUsed } : State).setVm s₂.vm).frames = .java g₀ :: r := hr
  rcases hq' with ⟨hqc, L, hfe, hL⟩ | ⟨q, rfl, E, ce, L, hx, hce, hcv, hcl, hW₂, hsm, hL⟩
  · obtain ⟨⟨v, rfl⟩, hW₂, e2, q2, q3, q4, q5, q6⟩ := id hfe
    have e3 : s₂ = ({ (U.calling g mk a).setFrames s₂.frames with heap := s₂.heap, slotsUsed := s₂.slotsUsed } : State).setVm s₂.vm := by
      have : s₂ = ({ s₂ with vm := (U.calling g mk a).vm } : State).setVm s₂.vm := rfl
      rw [e2] at this
      exact this
    obtain ⟨c₂, i₂, len₂, hc₂, hd₂, hf₂⟩ := hend
    have hW' : U.WarmedH s₂.vm := hW₂
    have hcc : c₂ = c := by
      have h1 : s₂.code? g.method = U.code? g.method := by
        rw [State.code?_eq, State.code?_eq, hW'.alike.method?]
      exact Option.some.inj (hc₂.symm.trans (h1.trans h.code))
    subst hcc
    have hlen : len₂ = len := by rw [hdg] at hd₂; cases hd₂; rfl
    subst hlen
    have hs₂ : s₂ = (({ U with heap := s₂.heap, slotsUsed := s₂.slotsUsed } : State).setVm s₂.vm).setTop { g with pc := g.pc + len₂, stack := v.toList ++ g.stack } := by
      refine e3.trans ?_
      rw [hf₂, State.calling_eq h.top, State.setFrames_setFrames, State.setTop_of_frames _ hr', hr]
      rfl
    have hsame : U.sameButNew ({ U with heap := s₂.heap, slotsUsed := s₂.slotsUsed } : State) L mc ms := by
      refine ⟨?_, q2, q3, q4, q5, q6⟩
      obtain ⟨t, ht, -⟩ := State.frames_cons hr
      show ({ U with heap := s₂.heap, slotsUsed := s₂.slotsUsed } : State) = { U.setFrames U.frames with heap := s₂.heap, slotsUsed := s₂.slotsUsed }
      rw [State.setFrames_self ht]
    subst hg
    refine Or.inl ⟨v, ⟨(({ U with heap := s₂.heap, slotsUsed := s₂.slotsUsed } : State).setVm s₂.vm), Ls ++ L, c0 + mc, s0 + ms⟩,
      ⟨X.admits, X.cas, X.clock, X.frames, X.room, X.hears, X.method, X.code, (X.here.setHeapUsed s₂.heap s₂.slotsUsed).setVm hW'.alike, X.tail, State.WarmedH.trans X.warmed hW', X.limits, X.bytes, X.same.trans (hsame.setVm s.vm)⟩,
      ⟨g, mk, s₂, L, rfl, rfl, hqc, rfl, hL, rfl, rfl⟩, ?_⟩
    show Steps p.tables e below _ ((({ U with heap := s₂.heap, slotsUsed := s₂.slotsUsed } : State).setVm s₂.vm).setTop { g with pc := g.pc + len₂, stack := v.toList ++ g.stack })
    rw [← hs₂]
    exact hsteps
  · obtain ⟨e2, q2, q3, q4, q5, q6⟩ := id hsm
    have e3 : s₂ = ({ (U.calling g mk a).setFrames s₂.frames with heap := s₂.heap, slotsUsed := s₂.slotsUsed } : State).setVm s₂.vm := by
      have : s₂ = ({ s₂ with vm := (U.calling g mk a).vm } : State).setVm s₂.vm := rfl
      rw [e2] at this
      exact this
    have hf₂ : s₂.frames = .throwing q :: .java g :: U.frames.tail := hend
    have hW' : U.WarmedH s₂.vm := hW₂
    have hs₂ : s₂ = ((({ U with heap := s₂.heap, slotsUsed := s₂.slotsUsed } : State).setVm s₂.vm).setTop g).pushFrame (.throwing q) := by
      refine e3.trans ?_
      rw [hf₂, State.calling_eq h.top, State.setFrames_setFrames, State.pushFrame, State.frames_setTop _ hr', State.setTop_of_frames _ hr', State.setFrames_setFrames, hr]
      rfl
    have hsame : U.sameButNew ({ U with heap := s₂.heap, slotsUsed := s₂.slotsUsed } : State) L mc ms := by
      refine ⟨?_, q2, q3, q4, q5, q6⟩
      obtain ⟨t, ht, -⟩ := State.frames_cons hr
      show ({ U with heap := s₂.heap, slotsUsed := s₂.slotsUsed } : State) = { U.setFrames U.frames with heap := s₂.heap, slotsUsed := s₂.slotsUsed }
      rw [State.setFrames_self ht]
    subst hg
    refine Or.inr ⟨q, ⟨(({ U with heap := s₂.heap, slotsUsed := s₂.slotsUsed } : State).setVm s₂.vm), Ls ++ L, c0 + mc, s0 + ms⟩,
      ⟨X.admits, X.cas, X.clock, X.frames, X.room, X.hears, X.method, X.code, (X.here.setHeapUsed s₂.heap s₂.slotsUsed).setVm hW'.alike, X.tail, State.WarmedH.trans X.warmed hW', X.limits, X.bytes, X.same.trans (hsame.setVm s.vm)⟩,
      ⟨g, mk, s₂, L, E, ce, rfl, rfl, hx, hce, hcv, hcl, rfl, hL, rfl, rfl⟩, ?_⟩
    show Steps p.tables e below _ (((({ U with heap := s₂.heap, slotsUsed := s₂.slotsUsed } : State).setVm s₂.vm).setTop g).pushFrame (.throwing q))
    rw [← hs₂]
    exact hsteps
end
variable {p : Program} {l : Launch} {e : Env} {R : Room} {s : State} {m : MethodId} {args : Array Value} {below : List Frame} {meth : Method} {c : Code} {T : State} {H : Heap} {locs : List Loc} {cells slots : Nat}
theorem vx_callVX (X : Stand p l e R s m args below meth c T locs cells slots) (hexec : p.tables.exec = Jvm.exec) {own C : String} {index : Nat} {y : MethodName} {bytes : ByteArray} {maxL : Nat} {ret : Option FieldType} {hh : List (Nat × Nat × Nat × Nat)}
    (hown : s.vm.findClass own = some m.cls) (hlink : (Cond.methodLink own index y).before args s = true) (hinst : (Cond.instanceMethod y).before args s = true) (hsel : (Cond.selects C y y).before args s = true)
    (hcode : (Cond.codeWith y bytes maxL ret hh).before args s = true) (hy : y.cls ≠ "java/lang/invoke/MethodHandle" ∧ y.cls ≠ "java/lang/invoke/VarHandle")
    {W9 : Nat} {Pre : Pt → Array Value → Prop} {Post : Pt → Array Value → Option Value → Pt → Prop} {PostX : Pt → Array Value → Addr → Pt → Prop} (hK : vx_Back l R p e below s args y 3 W9 Pre Post PostX)
    {b : Addr} {cellB : Cell} (hcell : T.heap[b]? = some cellB) (hobj : cellB.vm.isStatics = false) (hcls : s.vm.findClass C = some cellB.cls)
    {g : JFrame} (hg : g.method = m) (hsize : g.locals.size = c.maxLocals) {argsL rest : List Value} (hlen : ∀ sig, parseMethodDescriptor y.desc = some sig → argsL.length = sig.parameters.length)
    (hstack : g.stack = argsL.reverse ++ .ref b :: rest) (hW : 2 * g.monitorRoom + (rest.map fun v => v.category).sum ≤ W9) (hdg : decode c.code g.pc = .ok (.invokevirtual index, 3))
    (hpre : ∀ vm₁, s.WarmedH vm₁ → Pre ⟨T.setVm vm₁, locs, cells, slots⟩ (Value.ref b :: argsL).toArray) :
    (∃ (v : Option Value) (vm₁ : Vm) (B : Pt), s.WarmedH vm₁ ∧ Stand p l e R s m args below meth c B.U B.locs B.cells B.slots ∧ Post ⟨T.setVm vm₁, locs, cells, slots⟩ (Value.ref b :: argsL).toArray v B ∧
      ∀ target, Steps p.tables e below (B.U.setTop { g with pc := g.pc + 3, stack := v.toList ++ rest }) target → Steps p.tables e below (T.setTop g) target) ∨
    (∃ (q : Addr) (vm₁ : Vm) (B : Pt), s.WarmedH vm₁ ∧ Stand p l e R s m args below meth c B.U B.locs B.cells B.slots ∧ PostX ⟨T.setVm vm₁, locs, cells, slots⟩ (Value.ref b :: argsL).toArray q B ∧
      Steps p.tables e below (T.setTop g) ((B.U.setTop { g with stack := rest }).pushFrame (.throwing q))) := by
  obtain ⟨mk, methM, hnamed, hmethM, hstM, habM⟩ := Cond.instanceMethod_spec hinst
  obtain ⟨m8, methM', cM, hn8, hmethM', -, -, -, -, -, -, hsigM⟩ := Cond.codeWith_spec hcode
  cases Option.some.inj (hn8.symm.trans hnamed)
  cases hmethM.symm.trans hmethM'
  obtain ⟨c2, r2, m2, q1, q2, q3, q4, kP, hkP, hkPi⟩ := Cond.selects_spec hsel
  cases hcls.symm.trans q1
  cases (State.methodFound?_of_named hnamed hy).symm.trans q2
  cases hnamed.symm.trans q3
  have hselP : selectMethod e.platform s.vm cellB.cls mk = .method mk := by rw [Launch.admits_selectMethod X.admits]; exact q4
  obtain ⟨vm₁, X₁, hstep₁⟩ := X.invokevirtual hexec hown hlink hnamed hmethM hstM hkP hkPi hy (a := b) (cell := cellB) hcell
    (fun z h => by rw [h] at hobj; cases hobj) hselP hmethM habM hkP hkPi (g := g) hg (argsL := argsL) (rest := rest) (hlen _ hsigM) hstack hdg
  rcases hK m meth c ⟨T.setVm vm₁, locs, cells, slots⟩ { g with stack := rest } (.invokevirtual index) mk (Value.ref b :: argsL).toArray X₁ hg hsize hdg hW (X₁.named hnamed) (hpre vm₁ X₁.warmed) with ⟨v, B, X', hpost, hsteps⟩ | ⟨q, B, X', hpost, hsteps⟩
  · exact Or.inl ⟨v, vm₁, B, X₁.warmed, X', hpost, fun target h => hstep₁ _ fun acts => by rw [doInvoke_state]; exact hsteps.trans h⟩
  · exact Or.inr ⟨q, vm₁, B, X₁.warmed, X', hpost, hstep₁ _ fun acts => by rw [doInvoke_state]; exact hsteps⟩
theorem vx_callSX (X : Stand p l e R s m args below meth c T locs cells slots) (hexec : p.tables.exec = Jvm.exec) {own : String} {index : Nat} {y : MethodName} {bytes : ByteArray} {maxL : Nat} {ret : Option FieldType} {hh : List (Nat × Nat × Nat × Nat)}
    (hown : s.vm.findClass own = some m.cls) (hlink : (Cond.methodLink own index y).before args s = true) (hstat : (Cond.static y).before args s = true) (hinit : (Cond.initialized y.cls).before args s = true)
    (hcode : (Cond.codeWith y bytes maxL ret hh).before args s = true) (hy : y.cls ≠ "java/lang/invoke/MethodHandle" ∧ y.cls ≠ "java/lang/invoke/VarHandle")
    {W9 : Nat} {Pre : Pt → Array Value → Prop} {Post : Pt → Array Value → Option Value → Pt → Prop} {PostX : Pt → Array Value → Addr → Pt → Prop} (hK : vx_Back l R p e below s args y 3 W9 Pre Post PostX)
    {g : JFrame} (hg : g.method = m) (hsize : g.locals.size = c.maxLocals) {argsL rest : List Value} (hlen : ∀ sig, parseMethodDescriptor y.desc = some sig → argsL.length = sig.parameters.length)
    (hstack : g.stack = argsL.reverse ++ rest) (hW : 2 * g.monitorRoom + (rest.map fun v => v.category).sum ≤ W9) (hdg : decode c.code g.pc = .ok (.invokestatic index, 3))
    (hpre : ∀ vm₁, s.WarmedH vm₁ → Pre ⟨T.setVm vm₁, locs, cells, slots⟩ argsL.toArray) :
    (∃ (v : Option Value) (vm₁ : Vm) (B : Pt), s.WarmedH vm₁ ∧ Stand p l e R s m args below meth c B.U B.locs B.cells B.slots ∧ Post ⟨T.setVm vm₁, locs, cells, slots⟩ argsL.toArray v B ∧
      ∀ target, Steps p.tables e below (B.U.setTop { g with pc := g.pc + 3, stack := v.toList ++ rest }) target → Steps p.tables e below (T.setTop g) target) ∨
    (∃ (q : Addr) (vm₁ : Vm) (B : Pt), s.WarmedH vm₁ ∧ Stand p l e R s m args below meth c B.U B.locs B.cells B.slots ∧ PostX ⟨T.setVm vm₁, locs, cells, slots⟩ argsL.toArray q B ∧
      Steps p.tables e below (T.setTop g) ((B.U.setTop { g with stack := rest }).pushFrame (.throwing q))) := by
  obtain ⟨mk, methM, cM, hnamed, hmethM, -, -, -, -, -, -, hsigM⟩ := Cond.codeWith_spec hcode
  have hstatic : methM.isStatic = true := Cond.static_spec hnamed hmethM hstat
  obtain ⟨kP, hkP, -⟩ := className_of_methodNamed hnamed
  have hinitP : kP.init = .initialized := Cond.initialized_spec (findClass_of_methodNamed hnamed) hkP hinit
  obtain ⟨vm₁, X₁, hstep₁⟩ := X.invokestatic hexec hown hlink hnamed hmethM hstatic hkP hinitP hy (g := g) hg (argsL := argsL) (rest := rest) (hlen _ hsigM) hstack hdg
  rcases hK m meth c ⟨T.setVm vm₁, locs, cells, slots⟩ { g with stack := rest } (.invokestatic index) mk argsL.toArray X₁ hg hsize hdg hW (X₁.named hnamed) (hpre vm₁ X₁.warmed) with ⟨v, B, X', hpost, hsteps⟩ | ⟨q, B, X', hpost, hsteps⟩
  · exact Or.inl ⟨v, vm₁, B, X₁.warmed, X', hpost, fun target h => hstep₁ _ fun acts => by rw [doInvoke_state]; exact hsteps.trans h⟩
  · exact Or.inr ⟨q, vm₁, B, X₁.warmed, X', hpost, hstep₁ _ fun acts => by rw [doInvoke_state]; exact hsteps⟩
theorem vx_callVW (X : Stand p l e R s m args below meth c T locs cells slots) (hexec : p.tables.exec = Jvm.exec) {own C : String} {index : Nat} {y : MethodName} {bytes : ByteArray} {maxL : Nat} {ret : Option FieldType} {hh : List (Nat × Nat × Nat × Nat)}
    (hown : s.vm.findClass own = some m.cls) (hlink : (Cond.methodLink own index y).before args s = true) (hinst : (Cond.instanceMethod y).before args s = true) (hsel : (Cond.selects C y y).before args s = true)
    (hcode : (Cond.codeWith y bytes maxL ret hh).before args s = true) (hy : y.cls ≠ "java/lang/invoke/MethodHandle" ∧ y.cls ≠ "java/lang/invoke/VarHandle")
    {W9 : Nat} {Pre : Pt → Array Value → Prop} {Post : Pt → Array Value → Option Value → Pt → Prop} (hK : Back l R p e below s args y 3 W9 Pre Post)
    {b : Addr} {cellB : Cell} (hcell : T.heap[b]? = some cellB) (hobj : cellB.vm.isStatics = false) (hcls : s.vm.findClass C = some cellB.cls)
    {g : JFrame} (hg : g.method = m) (hsize : g.locals.size = c.maxLocals) {argsL rest : List Value} (hlen : ∀ sig, parseMethodDescriptor y.desc = some sig → argsL.length = sig.parameters.length)
    (hstack : g.stack = argsL.reverse ++ .ref b :: rest) (hW : 2 * g.monitorRoom + (rest.map fun v => v.category).sum ≤ W9) (hdg : decode c.code g.pc = .ok (.invokevirtual index, 3))
    (hpre : ∀ vm₁, s.WarmedH vm₁ → Pre ⟨T.setVm vm₁, locs, cells, slots⟩ (Value.ref b :: argsL).toArray) :
    ∃ (v : Option Value) (vm₁ : Vm) (B : Pt), s.WarmedH vm₁ ∧ Stand p l e R s m args below meth c B.U B.locs B.cells B.slots ∧ Post ⟨T.setVm vm₁, locs, cells, slots⟩ (Value.ref b :: argsL).toArray v B ∧
      ∀ target, Steps p.tables e below (B.U.setTop { g with pc := g.pc + 3, stack := v.toList ++ rest }) target → Steps p.tables e below (T.setTop g) target := by
  obtain ⟨mk, methM, hnamed, hmethM, hstM, habM⟩ := Cond.instanceMethod_spec hinst
  obtain ⟨m8, methM', cM, hn8, hmethM', -, -, -, -, -, -, hsigM⟩ := Cond.codeWith_spec hcode
  cases Option.some.inj (hn8.symm.trans hnamed)
  cases hmethM.symm.trans hmethM'
  obtain ⟨c2, r2, m2, q1, q2, q3, q4, kP, hkP, hkPi⟩ := Cond.selects_spec hsel
  cases hcls.symm.trans q1
  cases (State.methodFound?_of_named hnamed hy).symm.trans q2
  cases hnamed.symm.trans q3
  have hselP : selectMethod e.platform s.vm cellB.cls mk = .method mk := by rw [Launch.admits_selectMethod X.admits]; exact q4
  obtain ⟨vm₁, X₁, hstep₁⟩ := X.invokevirtual hexec hown hlink hnamed hmethM hstM hkP hkPi hy (a := b) (cell := cellB) hcell
    (fun z h => by rw [h] at hobj; cases hobj) hselP hmethM habM hkP hkPi (g := g) hg (argsL := argsL) (rest := rest) (hlen _ hsigM) hstack hdg
  obtain ⟨v, B, X', hpost, hsteps⟩ := hK m meth c ⟨T.setVm vm₁, locs, cells, slots⟩ { g with stack := rest } (.invokevirtual index) mk (Value.ref b :: argsL).toArray X₁ hg hsize hdg hW (X₁.named hnamed) (hpre vm₁ X₁.warmed)
  exact ⟨v, vm₁, B, X₁.warmed, X', hpost, fun target h => hstep₁ _ fun acts => by rw [doInvoke_state]; exact hsteps.trans h⟩
abbrev vx_CVW (R : Room) (s : State) (args : Array Value) (own C : String) (index : Nat) (y : MethodName) (bytes : ByteArray) (maxL : Nat) (ret : Option FieldType) (hh : List (Nat × Nat × Nat × Nat)) (ws : List Cond) (rm : Room) (mc ms n : Nat) : Prop :=
  (rm.cells = mc ∧ rm.slots = ms ∧ rm.frames + 1 ≤ R.frames ∧ 8 + (maxL + 11) + rm.locals ≤ R.locals ∧ (∀ w ∈ ws, ∀ (a' : Array Value) (U : State), s.WarmedH U.vm → w.before a' U = true) ∧ Cond.codeWith y bytes maxL ret hh ∈ ws) ∧
  (Cond.codeWith y bytes maxL ret hh).before args s = true ∧ (Cond.initialized y.cls).before args s = true ∧ (y.cls ≠ "java/lang/invoke/MethodHandle" ∧ y.cls ≠ "java/lang/invoke/VarHandle") ∧
  (∀ sig, parseMethodDescriptor y.desc = some sig → n = sig.parameters.length) ∧ (Cond.methodLink own index y).before args s = true ∧ (Cond.instanceMethod y).before args s = true ∧ (Cond.selects C y y).before args s = true
theorem vx_cwVW {own C : String} {index maxL mc ms : Nat} {y : MethodName} {bytes : ByteArray} {ret : Option FieldType} {hh : List (Nat × Nat × Nat × Nat)} {Ts ws ws' : List Cond} {rm : Room} (n : Nat) (ht : ∀ w ∈ Ts, w.before args s = true) (hT : GoodIn Ts (wsV own index C y ws)) (hw : ws = Cond.codeWith y bytes maxL ret hh :: ws') (hrc : rm.cells = mc) (hrs : rm.slots = ms)
    (hd : y.cls = C ∧ y.cls ≠ "java/lang/invoke/MethodHandle" ∧ y.cls ≠ "java/lang/invoke/VarHandle" ∧ (parseMethodDescriptor y.desc).map (fun d => d.parameters.length) = some n) (hR : rm.frames + 1 ≤ R.frames ∧ 8 + (maxL + 11) + rm.locals ≤ R.locals) :
    vx_CVW R s args own C index y bytes maxL ret hh ws rm mc ms n := by
  obtain ⟨hC, hd⟩ := hd
  subst hC
  have ok : ∀ w ∈ wsV own index y.cls y ws, w.before args s = true := fun w h => ht w (hT w h).1
  have hG : GoodIn Ts ws := fun w h => hT w (by unfold wsV; exact List.mem_append_right _ h)
  have hc : Cond.codeWith y bytes maxL ret hh ∈ ws := by rw [hw]; exact List.mem_cons_self
  refine ⟨⟨hrc, hrs, hR.1, hR.2, pay_in ht hG, hc⟩, ht _ (hG _ hc).1, ok _ (by simp [wsV]), ⟨hd.1, hd.2.1⟩, fun sig h => ?_, ok _ (by simp [wsV]), ok _ (by simp [wsV]), ok _ (by simp [wsV])⟩
  have h2 := hd.2.2
  rw [h] at h2
  exact (Option.some.inj h2).symm
theorem vx_runVW {y : MethodName} {bytes cc : ByteArray} {maxL nL mc ms n index : Nat} {ret : Option FieldType} {hh : List (Nat × Nat × Nat × Nat)} {ws : List Cond} {rm : Room} {Pc : Array Value → State → Prop} {Qc : Array Value → State → Outcome → State → Prop} {free : Addr → Prop} {Ts : List Cond} {own C : String} {b : Addr} {As rest : List Value} {g : JFrame}
    (S : CallFix p m c cc nL s args Ts own) (hM : Met l y ws rm Pc Qc mc ms free) (cw : vx_CVW R s args own C index y bytes maxL ret hh ws rm mc ms n) (hp : PreV s H C b Pc As)
    (hg : g.method = m) (hn : As.length = n) (hsize : g.locals.size = nL) (hstack : g.stack = As.reverse ++ .ref b :: rest) (hW : 2 * g.monitorRoom + (rest.map fun v => v.category).sum ≤ 8) (hdg : decode cc g.pc = .ok (.invokevirtual index, 3)) (hf : cells + mc ≤ R.cells ∧ slots + ms ≤ R.slots) :
    va_Run p l e R s m args below meth c H locs cells slots mc ms g rest (Qc (Value.ref b :: As).toArray) free := by
  obtain ⟨⟨hrc, hrs, hfr, hlo, hws, hcw⟩, hcode, hini, hy, hlen, hl, hin, hse⟩ := cw
  have hK : Back l R p e below s args y 3 8 (PreOf R mc ms Pc) (PostOf Qc mc ms free) := va_backW (hh := hh) (bytes := bytes) (maxL := maxL) (ret := ret) hM hp.1 hrc hrs hfr hlo hws hcw (fun a' U hW => word_at hW (Or.inl (by first | rfl | simp [Cond.onTables, Cond.keeps, Cond.steady])) hini)
  obtain ⟨hx, hb, hml, ho, -⟩ := S
  obtain ⟨-, ⟨cellB, hcB, hoB, hclB⟩, hPc⟩ := hp
  intro T hT X
  obtain ⟨v, vm₁, ⟨U', l2, c2, s2⟩, hW₁, X', ⟨g', mk, t, L, e1, e2, hq, h1, hL, h2, h3⟩, st⟩ := vx_callVW X hx (C := C) (hh := hh) (bytes := bytes) (maxL := maxL) (ret := ret) ho hl hin hse hcode hy hK (by rw [hT]; exact hcB) hoB hclB hg (hsize.trans hml.symm) (argsL := As) (rest := rest) (fun sig h => hn.trans (hlen sig h)) hstack hW (by rw [hb]; exact hdg)
    (fun vm₁ hW₁ => ⟨hf.1, hf.2, hPc (T.setVm vm₁) hT hW₁⟩)
  dsimp only [Pt.U, Pt.locs, Pt.cells, Pt.slots] at X' e1 e2 h1 h2 h3 st
  subst h1; subst h2; subst h3
  exact ⟨v, (T.setVm vm₁).calling g' mk (Value.ref b :: As).toArray, t, U', L, hT, X', hL, e1, e2, hq, st⟩
section
variable {y : MethodName} {bytes cc : ByteArray} {maxL nL mc ms n index : Nat} {ret : Option FieldType} {ws : List Cond} {rm : Room} {Pc : Array Value → State → Prop} {Qc : Array Value → State → Outcome → State → Prop} {XC : String → State → State → Prop} {free : Addr → Prop} {Ts : List Cond} {own C : String} {b : Addr} {As rest : List Value} {g : JFrame}
theorem vx_runVX {hh : List (Nat × Nat × Nat × Nat)} (S : CallFix p m c cc nL s args Ts own) (hM : vx_Met l y ws rm Pc Qc XC mc ms free) (cw : vx_CVW R s args own C index y bytes maxL ret hh ws rm mc ms n) (hp : PreV s H C b Pc As)
    (hg : g.method = m) (hn : As.length = n) (hsize : g.locals.size = nL) (hstack : g.stack = As.reverse ++ .ref b :: rest) (hW : 2 * g.monitorRoom + (rest.map fun v => v.category).sum ≤ 8) (hdg : decode cc g.pc = .ok (.invokevirtual index, 3)) (hf : cells + mc ≤ R.cells ∧ slots + ms ≤ R.slots) :
    vx_Run p l e R s m args below meth c H locs cells slots mc ms g rest (Qc (Value.ref b :: As).toArray) XC free := by
  obtain ⟨⟨hrc, hrs, hfr, hlo, hws, hcw⟩, hcode, hini, hy, hlen, hl, hin, hse⟩ := cw
  have hK : vx_Back l R p e below s args y 3 8 (PreOf R mc ms Pc) (PostOf Qc mc ms free) (vx_Post XC mc ms free) := vx_backW (hh := hh) (bytes := bytes) (maxL := maxL) (ret := ret) hM hp.1 hrc hrs hfr hlo hws hcw (fun a' U hW => word_at hW (Or.inl (by first | rfl | simp [Cond.onTables, Cond.keeps, Cond.steady])) hini)
  obtain ⟨hx, hb, hml, ho, -⟩ := S
  obtain ⟨-, ⟨cellB, hcB, hoB, hclB⟩, hPc⟩ := hp
  intro T hT X
  rcases vx_callVX X hx (C := C) (hh := hh) (bytes := bytes) (maxL := maxL) (ret := ret) ho hl hin hse hcode hy hK (by rw [hT]; exact hcB) hoB hclB hg (hsize.trans hml.symm) (argsL := As) (rest := rest) (fun sig h => hn.trans (hlen sig h)) hstack hW (by rw [hb]; exact hdg)
    (fun vm₁ hW₁ => ⟨hf.1, hf.2, hPc (T.setVm vm₁) hT hW₁⟩) with ⟨v, vm₁, ⟨U', l2, c2, s2⟩, hW₁, X', ⟨g', mk, t, L, e1, e2, hq, h1, hL, h2, h3⟩, st⟩ | ⟨q, vm₁, ⟨U', l2, c2, s2⟩, hW₁, X', ⟨g', mk, t, L, E, ce, e1, e2, hq, hce, hcv, hcl, h1, hL, h2, h3⟩, st⟩
  · dsimp only [Pt.U, Pt.locs, Pt.cells, Pt.slots] at X' e1 e2 h1 h2 h3 st
    subst h1; subst h2; subst h3
    exact Or.inl ⟨v, (T.setVm vm₁).calling g' mk (Value.ref b :: As).toArray, t, U', L, hT, X', hL, e1, e2, hq, st⟩
  · dsimp only [Pt.U, Pt.locs, Pt.cells, Pt.slots] at X' e1 e2 h1 h2 h3 st hcl
    subst h1; subst h2; subst h3
    exact Or.inr ⟨q, (T.setVm vm₁).calling g' mk (Value.ref b :: As).toArray, t, U', L, E, ce, hT, X', hL, e1, e2, hq, hce, hcv, vx_cls hW₁ hcl, st⟩
theorem vx_runSX {hh : List (Nat × Nat × Nat × Nat)} (S : CallFix p m c cc nL s args Ts own) (hM : vx_Met l y ws rm Pc Qc XC mc ms free) (cw : vx_CSW R s args own index y bytes maxL ret hh ws rm mc ms n) (hp : PreS s H Pc As)
    (hg : g.method = m) (hn : As.length = n) (hsize : g.locals.size = nL) (hstack : g.stack = As.reverse ++ rest) (hW : 2 * g.monitorRoom + (rest.map fun v => v.category).sum ≤ 8) (hdg : decode cc g.pc = .ok (.invokestatic index, 3)) (hf : cells + mc ≤ R.cells ∧ slots + ms ≤ R.slots) :
    vx_Run p l e R s m args below meth c H locs cells slots mc ms g rest (Qc As.toArray) XC free := by
  obtain ⟨⟨hrc, hrs, hfr, hlo, hws, hcw⟩, hcode, hini, hy, hlen, hl, hstt⟩ := cw
  have hK : vx_Back l R p e below s args y 3 8 (PreOf R mc ms Pc) (PostOf Qc mc ms free) (vx_Post XC mc ms free) := vx_backW (hh := hh) (bytes := bytes) (maxL := maxL) (ret := ret) hM hp.1 hrc hrs hfr hlo hws hcw (fun a' U hW => word_at hW (Or.inl (by first | rfl | simp [Cond.onTables, Cond.keeps, Cond.steady])) hini)
  obtain ⟨hx, hb, hml, ho, -⟩ := S
  intro T hT X
  rcases vx_callSX X hx (hh := hh) (bytes := bytes) (maxL := maxL) (ret := ret) ho hl hstt hini hcode hy hK hg (hsize.trans hml.symm) (argsL := As) (rest := rest) (fun sig h => hn.trans (hlen sig h)) hstack hW (by rw [hb]; exact hdg)
    (fun vm₁ hW₁ => ⟨hf.1, hf.2, hp.2 (T.setVm vm₁) hT hW₁⟩) with ⟨v, vm₁, ⟨U', l2, c2, s2⟩, hW₁, X', ⟨g', mk, t, L, e1, e2, hq, h1, hL, h2, h3⟩, st⟩ | ⟨q, vm₁, ⟨U', l2, c2, s2⟩, hW₁, X', ⟨g', mk, t, L, E, ce, e1, e2, hq, hce, hcv, hcl, h1, hL, h2, h3⟩, st⟩
  · dsimp only [Pt.U, Pt.locs, Pt.cells, Pt.slots] at X' e1 e2 h1 h2 h3 st
    subst h1; subst h2; subst h3
    exact Or.inl ⟨v, (T.setVm vm₁).calling g' mk As.toArray, t, U', L, hT, X', hL, e1, e2, hq, st⟩
  · dsimp only [Pt.U, Pt.locs, Pt.cells, Pt.slots] at X' e1 e2 h1 h2 h3 st hcl
    subst h1; subst h2; subst h3
    exact Or.inr ⟨q, (T.setVm vm₁).calling g' mk As.toArray, t, U', L, E, ce, hT, X', hL, e1, e2, hq, hce, hcv, vx_cls hW₁ hcl, st⟩
end
end VXH
theorem vx_ofWH {l : Launch} {y : MethodName} {ws ws' : List Cond} {rm : Room} {Pc : Array Value → State → Prop} {Qc : Array Value → State → Outcome → State → Prop} {XC : String → State → State → Prop} {mc ms : Nat} {free : Addr → Prop} {cc : ByteArray} {maxL : Nat} {ret : Option FieldType} {hh : List (Nat × Nat × Nat × Nat)}
    (hy : plainName y.cls = true) (hw : ws = Cond.codeWith y cc maxL ret hh :: ws')
    (body : ∀ p e s m args below meth c s₁, BodyLoose p l y (headSpec ws rm) cc maxL ret e s m args below meth c s₁ → c.maxLocals = maxL → Pc args s →
      W p l e (headSpec ws rm).room s m args below meth c s.heap [] 0 0 (vx_MQ below Qc XC args s mc ms free) (entryFrame m args maxL)) : vx_Met l y ws rm Pc Qc XC mc ms free := by
  refine MetFree.of_bodyS (code := cc) (maxLocals := maxL) (ret := ret) hy ?_ ?_
  · intro args s m h hn
    obtain ⟨m9, meth, c, hn9, h1, h2, h3, h4, -, h5, h6, -⟩ := Cond.codeWith_spec (atoms_spec (ws := ws) h _ (by rw [hw]; exact List.mem_cons_self))
    cases hn.symm.trans hn9
    exact ⟨meth, c, h1, h2, h3, h4, h5, h6⟩
  · intro p e s m args below meth c s₁ B hml hP _
    have hh0 : s₁.heap = s.heap := by rw [B.state]; rfl
    obtain ⟨t, a1, o, b1, b2, b3⟩ := body p e s m args below meth c s₁ B hml hP s₁ hh0 (Stand.of_body B)
    exact ⟨t, o, a1, b1, b2, b3⟩
/-! ===== END ===== -/

/-! ===== BEGIN what the machine throws by itself, no traces kept ===== -/
section VXM
set_option maxHeartbeats 1000000 in
/-- the machine throws cls with the message text, no traces kept: from its note over the frame g to 'throwing' over the same frame (follows the proofs of Stand.vmThrowsMessage, Shelf/KitTracedVmS.lean, and Stand.throwsMessageColdBareV, StandMessageColdV.lean, without the step out of the frame) -/
theorem vx_vmAt {p : Program} {l : Launch} {e : Env} {R : Room} {s : State} {m₀ : MethodId} {args : Array Value} {below : List Frame} {meth : Method} {c : Code} {W : State} {locs : List Loc} {cells slots : Nat}
    (X : Stand p l e R s m₀ args below meth c W locs cells slots) (hexec : p.tables.exec = Jvm.exec) (htr : e.platform.stackTraces = false) {cls : String} {names : List String} {text : String}
    (hcls : Bundle.fit cls = true) (hnames : ∀ n ∈ names, Bundle.fit n = true) (hsoe : (cls == "java/lang/StackOverflowError") = false) (hoom : (cls == "java/lang/OutOfMemoryError") = false)
    (h : ∀ a ∈ Bundle.messageArmAtoms cls names, a.before args s = true)
    (hlocs : ∀ x ∈ locs, ∀ cell, s.heap[x.base]? = some cell → cell.vm.isStatics = false)
    (htext : (text == notModelled) = false) (hlimit : ¬ (stringBytes (stringToUtf16 text)).size > e.platform.arrayLengthLimit) (hheap : ¬ (stringBytes (stringToUtf16 text)).size * componentBytes .byte > e.platform.maxHeapBytes)
    {g : JFrame} (hg : g.method = m₀) (hsize : g.locals.size = c.maxLocals)
    (hRframes : names.length + 4 < R.frames) (hRlocals : 2 * g.monitorRoom + (g.stack.map fun v => v.category).sum + 10240 ≤ R.locals) (hshort : 13 * names.length + 55 ≤ 10240)
    (hRcells : cells + 3 ≤ R.cells) (hRslots : slots + ((stringBytes (stringToUtf16 text)).size + 4 + 6) ≤ R.slots) (hlocks : meth.locks = false) :
    ∃ (S : State) (q : Addr) (ce : Cell), (∀ target, Steps p.tables e below ((S.setTop g).pushFrame (.throwing q)) target → Steps p.tables e below ((W.setTop g).pushFrame (.throwNew cls (some text) none)) target) ∧
      Stand p l e R s m₀ args below meth c S locs (cells + 3) (slots + ((stringBytes (stringToUtf16 text)).size + 4 + 6)) ∧ S.heap[q]? = some ce ∧ s.vm.findClass cls = some ce.cls ∧ ce.vm = .none := by
  have howns : e.platform.frameOwnsMonitors = true := by rw [X.admits.platform]
  have hfin : e.platform.finalization = false := by rw [X.admits.platform]
  have hpl : e.platform.magicAccessors = ({} : Platform).magicAccessors := by rw [X.admits.platform]
  have a : ∀ x, x ∈ Bundle.messageArmAtoms cls names → x.holds args s none s [] = true := fun x hx => h x hx
  obtain ⟨T, Z0, L, -, Y⟩ := ThrowableC.of_atoms (args := args) howns hfin hpl (fun x hx => h x (by simp [Bundle.messageArmAtoms, hx]))
  obtain ⟨Z, M, LZ, LM, hnZ⟩ := Init0T.ofS_atoms (args := args) hpl L Y (fun x hx => h x (by simp [Bundle.messageArmAtoms, hx]))
  obtain ⟨P1, Ps, hlen, L1, hL, hP1m, hlink1, hlink⟩ := Bundle.chainS (args := args) hpl hnZ names cls hcls hnames (fun x hx => h x (by simp [Bundle.messageArmAtoms, hx]))
  obtain ⟨Zs, LZs, hn4, hfitv, hfitc⟩ := StringT.of_atoms (args := args) (fun x hx => h x (by simp [Bundle.messageArmAtoms, hx]))
  have hfound : s.vm.findClass cls = some P1.m.cls := findClass_of_methodNamed hP1m
  obtain ⟨c1, kX, hc1, hk, hord, -, -, hn6⟩ := Cond.instantiable_spec (a (.instantiable cls 6) (by simp [Bundle.messageArmAtoms]))
  cases Option.some.inj (hc1.symm.trans hfound)
  have hinit := Cond.initialized_spec hfound hk (a (.initialized cls) (by simp [Bundle.messageArmAtoms]))
  have hctor : kX.findMethod "<init>" "(Ljava/lang/String;)V" = some P1.m.idx := findMethod_of_methodNamed hP1m hk
  have hsel0 : selectMethod e.platform s.vm P1.m.cls T.fill0 = .method T.fill0 := by
    obtain ⟨c2, r2, m2, q1, q2, q3, q4, -⟩ := Cond.selects_spec (a (.selects cls Bundle.tFill0 Bundle.tFill0) (by simp [Bundle.messageArmAtoms]))
    cases Option.some.inj (q1.symm.trans hfound)
    cases Option.some.inj (q2.symm.trans (State.methodFound?_of_named Y.fill0 (by decide)))
    cases Option.some.inj (q3.symm.trans Y.fill0)
    rw [Launch.admits_selectMethod X.admits]; exact q4
  have hselF : selectMethod e.platform s.vm P1.m.cls T.fill = .method T.fill := by
    obtain ⟨c2, r2, m2, q1, q2, q3, q4, -⟩ := Cond.selects_spec (a (.selects cls Bundle.tFill Bundle.tFill) (by simp [Bundle.messageArmAtoms]))
    cases Option.some.inj (q1.symm.trans hfound)
    cases Option.some.inj (q2.symm.trans (State.methodFound?_of_named Y.fill (by decide)))
    cases Option.some.inj (q3.symm.trans Y.fill)
    rw [Launch.admits_selectMethod X.admits]; exact q4
  obtain ⟨cellS0, hcS0, hiss⟩ := Y.statics
  obtain ⟨u0, hu0⟩ := Cond.staticRefV Y.unassigned L.unassignedStatic L.statics hcS0 hiss (a (.isRef (.static Bundle.tN "UNASSIGNED_STACK" Bundle.steD)) (by simp [Bundle.messageArmAtoms]))
  obtain ⟨sen, hsen⟩ := Cond.staticRefV Y.sentinel L.sentinelStatic L.statics hcS0 hiss (a (.isRef (.static Bundle.tN "SUPPRESSED_SENTINEL" Bundle.listD)) (by simp [Bundle.messageArmAtoms]))
  obtain ⟨ci198, i198, fB, hk198, hg198, ha198, hsB, -, hnB, htB, hffB⟩ := Cond.ownField (t := .object "java/lang/Object") Y.found L.cls (by decide +kernel) (a (.fieldLink Bundle.tN 198 Bundle.tN "backtrace" "Ljava/lang/Object;") (by simp [Bundle.messageArmAtoms])) (a (.lays Bundle.tN Bundle.tN "backtrace" "Ljava/lang/Object;") (by simp [Bundle.messageArmAtoms])) e.platform hpl
  obtain ⟨cellS, hcS', heS, -, hkeep⟩ := X.same.2.2.2.2.2 T.aS cellS0 hcS0
  have hcellS : W.heap[T.aS]? = some cellS := hcS'
  have hout' : ∀ i, (⟨T.aS, i⟩ : Loc) ∉ locs := fun i hmem => by
    have := hlocs _ hmem cellS0 hcS0
    rw [hiss] at this; cases this
  have hknownS : cellS.vm ≠ .unknown := by
    rw [heS]; intro hu
    rw [show cellS0.vm = .unknown from hu] at hiss
    cases hiss
  have hvU : cellS.slots[T.fUnassigned.slot]? = some u0.v := by rw [hkeep _ (hout' _)]; exact hu0
  have hvSen : cellS.slots[T.fSentinel.slot]? = some sen.v := by rw [hkeep _ (hout' _)]; exact hsen
  obtain ⟨iM, hffM⟩ := Y.msg
  obtain ⟨tyC, dC, hdC, hdnC⟩ := Cond.laysAt hfound hk Y.cause (a (.lays cls Bundle.tN "cause" "Ljava/lang/Throwable;") (by simp [Bundle.messageArmAtoms]))
  obtain ⟨tyS, dS, hdS, hdnS⟩ := Cond.laysAt hfound hk Y.stack (a (.lays cls Bundle.tN "stackTrace" Bundle.steD) (by simp [Bundle.messageArmAtoms]))
  obtain ⟨tyP, dP, hdP, hdnP⟩ := Cond.laysAt hfound hk Y.supp (a (.lays cls Bundle.tN "suppressedExceptions" Bundle.listD) (by simp [Bundle.messageArmAtoms]))
  obtain ⟨tyM, dM, hdM, hdnM⟩ := Cond.laysAt hfound hk hffM (a (.lays cls Bundle.tN "detailMessage" "Ljava/lang/String;") (by simp [Bundle.messageArmAtoms]))
  obtain ⟨tyB, dB, hdB, hdnB⟩ := Cond.laysAt hfound hk hffB (a (.lays cls Bundle.tN "backtrace" "Ljava/lang/Object;") (by simp [Bundle.messageArmAtoms]))
  have bC := Cond.laysApart hdB hdC hdnB hdnC (by rw [hnB, Y.causeName]; decide)
  have bS := Cond.laysApart hdB hdS hdnB hdnS (by rw [hnB, Y.stackName]; decide)
  have bP := Cond.laysApart hdB hdP hdnB hdnP (by rw [hnB, Y.suppName]; decide)
  have hbk : ((preparedCellV T.toThrowableT (freshCell P1.m.cls kX) (W.heap.size + 2) u0 sen).withEntry W.cur).slots[fB.slot]? = some .null := by
    have := fresh_default (c := P1.m.cls) tyB
    rw [htB] at this
    simpa [preparedCellV, Cell.setSlot, Cell.withEntry, Array.getElem?_setIfInBounds, bC, bS, bP, bC.symm, bS.symm, bP.symm, defaultValue] using this
  have tkC := Takes.of_laid (v := .ref (W.heap.size + 2)) hk hord tyC (by rw [Y.causeType]; rfl)
  have tkS := Takes.of_laid (v := u0.v) hk hord tyS (by rw [Y.stackType]; exact fits_refV_array _ u0)
  have tkP := Takes.of_laid (v := sen.v) hk hord tyP (by rw [Y.suppType]; exact fits_refV_object _ sen)
  have tkM := Takes.of_laid (v := .ref (W.heap.size + 1)) hk hord tyM (by rw [Y.msgType]; rfl)
  have hskip : SkipFacts T e.platform s (fun u => u) u0 ((preparedCellV T.toThrowableT (freshCell P1.m.cls kX) (W.heap.size + 2) u0 sen).withEntry W.cur) := ⟨{ ci198 := ci198, i198 := i198, fBack := fB }, ⟨hk198, hg198, ha198, hsB⟩, hbk, fun _ _ => rfl⟩
  have h0 : At W g.method c below := by rw [hg]; exact X.here
  obtain ⟨hbeyond, hfreeW⟩ := X.vmMayThrow hsize (.throwNew cls (some text) none) (fun f hf => by cases hf) rfl hRlocals
  have hfr' : W.frames.length + Ps.length + 4 < (e.platform.stackLimits W.me).1 := by have := X.framesAbove hRframes; omega
  have hwd' : (stackUse (.java g :: W.frames.tail)).2 + 13 * Ps.length + 55 ≤ (e.platform.stackLimits W.me).2 := by have := X.stackAbove hsize (K := 13 * Ps.length + 55) (by omega); omega
  have hslots : W.slotsUsed + (stringBytes (stringToUtf16 text)).size + Zs.kS.instanceTypes.size + kX.instanceTypes.size ≤ e.platform.maxSlots := by
    have := X.slotsAbove hRslots
    rw [hn4, hn6]
    omega
  obtain ⟨vm', hW', st⟩ := Steps.vmThrowsMessageColdByV p (s₀ := s) (S := W) (g := g) h0 hexec T L Z LZ M LM X.warmed (t := W.cur) rfl Zs LZs P1 L1 Ps hL hlink1 hlink hsoe hoom hfound hk hinit hord hctor
    (Launch.admits_hotImplicitExceptions X.admits) hbeyond hfreeW htext hlimit hheap (X.cellsAbove hRcells) hslots (hfitv _) (hfitc _)
    (Nn := fun u => u) heapOnly_id (fun _ _ => rfl) (fun _ => rfl) (fun u x y => setCell_twice _ _ _ _) (fun _ => Nat.le_refl _) (cN := ((preparedCellV T.toThrowableT (freshCell P1.m.cls kX) (W.heap.size + 2) u0 sen).withEntry W.cur))
    hsel0 hcellS hknownS hvU tkS (fun _ hu => hu) (fun _ hu => hu) rfl rfl rfl (by simp [preparedCellV, Cell.setSlot, Cell.withEntry]) hskip (fun _ _ hA hW _ hroom _ hrest => L.nativeOff p htr hA hW hroom hrest) hselF hvSen tkC tkP tkM Y.objLocals rfl hfr' hwd'
  rw [plainBareV_eq T.toThrowableT (W.heap.size + 2) u0 sen (.ref (W.heap.size + 1)) W.cur rfl rfl] at st
  obtain ⟨-, -, w3, w4, -, -, -⟩ := withThrown_facts e.platform W Zs text P1.m.cls kX
  have X3 := ((X.pushed (bytesOf Zs.cB (stringToUtf16 text))).pushed (stringAt Zs.cS Zs.kS Zs.fv Zs.fc (stringToUtf16 text) W.heap.size)).pushed (freshCell P1.m.cls kX)
  rw [← withString_eq] at X3
  have X4 := X3.noted hW'
  have ha : (W.heap.size + 2) < ((withThrown W Zs text P1.m.cls kX).setVm vm').heap.size := by show _ < (withThrown W Zs text P1.m.cls kX).heap.size; rw [w3]; omega
  have hcell : ((withThrown W Zs text P1.m.cls kX).setVm vm').heap[(W.heap.size + 2)]? = some (freshCell P1.m.cls kX) := w4
  have X5 := ((((X4.stored hcell T.fCause.slot (.ref (W.heap.size + 2))).storedAgain ha T.fStack.slot u0.v).storedAgain ha T.fSupp.slot sen.v).storedAgain ha T.fStack.slot u0.v).storedAgain ha T.fMsg.slot (.ref (W.heap.size + 1))
  obtain ⟨g₁, hfrM⟩ := X5.frames_eq
  have hU : ((((withThrown W Zs text P1.m.cls kX).setVm vm').setCell (W.heap.size + 2) (plainBareV T.toThrowableT (freshCell P1.m.cls kX) (W.heap.size + 2) u0 sen (.ref (W.heap.size + 1)))).setTop g).pushFrame (.throwing (W.heap.size + 2)) = (((withThrown W Zs text P1.m.cls kX).setVm vm').setCell (W.heap.size + 2) (plainBareV T.toThrowableT (freshCell P1.m.cls kX) (W.heap.size + 2) u0 sen (.ref (W.heap.size + 1)))).setFrames (.throwing (W.heap.size + 2) :: .java g :: below) := by
    rw [State.pushFrame, State.frames_setTop _ hfrM, State.setTop_of_frames _ hfrM, State.setFrames_setFrames]
  have b1 : (bytesOf Zs.cB (stringToUtf16 text)).slots.size = (stringBytes (stringToUtf16 text)).size := by
    rw [(Cell.writeAll_facts _ _).2.2]; simp [bytes0]
  have b2 : (stringAt Zs.cS Zs.kS Zs.fv Zs.fc (stringToUtf16 text) W.heap.size).slots.size = 4 := by simp [string0, Cell.setSlot, hn4]
  have b3 : (freshCell P1.m.cls kX).slots.size = 6 := by simp [hn6]
  rw [b1, b2, b3] at X5
  have e9 : slots + (stringBytes (stringToUtf16 text)).size + 4 + 6 = slots + ((stringBytes (stringToUtf16 text)).size + 4 + 6) := by omega
  rw [e9] at X5
  simp only [List.append_assoc, List.cons_append, List.nil_append] at X5
  refine ⟨((withThrown W Zs text P1.m.cls kX).setVm vm').setCell (W.heap.size + 2) (plainBareV T.toThrowableT (freshCell P1.m.cls kX) (W.heap.size + 2) u0 sen (.ref (W.heap.size + 1))), W.heap.size + 2, _, fun target ht => st _ (by rw [X.tail, ← hU]; exact ht),
    X5.forget (fun y hy => ?_), heapAt_setCell_self _ ha, hfound, rfl⟩
  simp only [List.mem_cons, List.not_mem_nil, or_false] at hy
  have hge : s.heap.size ≤ W.heap.size := X.same.2.1
  rcases hy with rfl | rfl | rfl | rfl | rfl <;> exact Nat.le_trans hge (Nat.le_add_right _ 2)
set_option maxHeartbeats 1000000 in
/-- the machine throws NullPointerException, no traces kept: from its note over the frame g to 'throwing' over the same frame (follows the proof of Stand.vmThrowsNpe, Shelf42/KT2.lean; throwsNpeColdBareVAt, Shelf42/NT91.lean, called) -/
theorem vx_npeAt {p : Program} {l : Launch} {e : Env} {R : Room} {s : State} {m₀ : MethodId} {args : Array Value} {below : List Frame} {meth : Method} {c : Code} {W : State} {locs : List Loc} {cells slots : Nat}
    (X : Stand p l e R s m₀ args below meth c W locs cells slots) (hexec : p.tables.exec = Jvm.exec) (htr : e.platform.stackTraces = false) {n : Nat}
    (h : ∀ a ∈ Bundle.npeArmAtoms n, a.before args s = true)
    (hlocs : ∀ x ∈ locs, ∀ cell, s.heap[x.base]? = some cell → cell.vm.isStatics = false)
    {g : JFrame} (hg : g.method = m₀) (hsize : g.locals.size = c.maxLocals)
    (hRframes : 7 < R.frames) (hRlocals : 2 * g.monitorRoom + (g.stack.map fun v => v.category).sum + 10240 ≤ R.locals)
    (hRcells : cells + 1 ≤ R.cells) (hRslots : slots + n ≤ R.slots) (hlocks : meth.locks = false) :
    ∃ (S : State) (q : Addr) (ce : Cell), (∀ target, Steps p.tables e below ((S.setTop g).pushFrame (.throwing q)) target → Steps p.tables e below ((W.setTop g).pushFrame (.throwNew "java/lang/NullPointerException" none none)) target) ∧
      Stand p l e R s m₀ args below meth c S locs (cells + 1) (slots + n) ∧ S.heap[q]? = some ce ∧ s.vm.findClass "java/lang/NullPointerException" = some ce.cls ∧ ce.vm = .none := by
  have howns : e.platform.frameOwnsMonitors = true := by rw [X.admits.platform]
  have hfin : e.platform.finalization = false := by rw [X.admits.platform]
  have hpl : e.platform.magicAccessors = ({} : Platform).magicAccessors := by rw [X.admits.platform]
  have hpl2 : e.platform.arrayCloneIsPublic = true := by rw [X.admits.platform]
  have a' : ∀ x, x ∈ Bundle.npeArmAtoms n → x.holds args s none s [] = true := fun x hx => h x hx
  obtain ⟨T, Z, L, LZ, Y⟩ := ThrowableC.of_atoms (args := args) howns hfin hpl (fun x hx => h x (by simp [Bundle.npeArmAtoms, hx]))
  obtain ⟨N, LN, hcN, hnNF, hordN, hffS⟩ := NpeC.of_atoms (args := args) hpl hpl2 L Y (fun x hx => h x (by simp [Bundle.npeArmAtoms, hx]))
  obtain ⟨P1, L1, hP1m, hP1s⟩ := PassC.of_atoms (args := args) (s := s) hpl (X := Bundle.nN) (Y := Bundle.rN) (by decide) (by decide) LibCode.NullPointerException.Init0.at_0 LibCode.NullPointerException.Init0.at_1 LibCode.NullPointerException.Init0.at_4 (fun x hx => h x (by simp [Bundle.npeArmAtoms, hx]))
  obtain ⟨PR, LR, hPRm, hPRs⟩ := PassC.of_atoms (args := args) (s := s) hpl (X := Bundle.rN) (Y := Bundle.eN) (by decide) (by decide) LibCode.RuntimeException.Init0.at_0 LibCode.RuntimeException.Init0.at_1 LibCode.RuntimeException.Init0.at_4 (fun x hx => h x (by simp [Bundle.npeArmAtoms, hx]))
  obtain ⟨PE, LEx, hPEm, hPEs⟩ := PassC.of_atoms (args := args) (s := s) hpl (X := Bundle.eN) (Y := Bundle.tN) (by decide) (by decide) LibCode.Exception.Init0.at_0 LibCode.Exception.Init0.at_1 LibCode.Exception.Init0.at_4 (fun x hx => h x (by simp [Bundle.npeArmAtoms, hx]))
  have hfound : s.vm.findClass Bundle.nN = some P1.m.cls := findClass_of_methodNamed hP1m
  have ecls : N.cN = P1.m.cls := Option.some.inj (hcN.symm.trans hfound)
  have hk : s.vm.classes[P1.m.cls]? = some N.kN := by rw [← ecls]; exact LN.cls
  have hinit := Cond.initialized_spec hfound hk (a' (.initialized Bundle.nN) (by simp [Bundle.npeArmAtoms]))
  have hctor : N.kN.findMethod "<init>" "()V" = some P1.m.idx := findMethod_of_methodNamed hP1m hk
  obtain ⟨c1, k1, hc1, hk1, -, -, -, hn⟩ := Cond.instantiable_spec (a' (.instantiable Bundle.nN n) (by simp [Bundle.npeArmAtoms]))
  cases Option.some.inj (hc1.symm.trans hfound)
  cases Option.some.inj (hk1.symm.trans hk)
  have hfsz : (freshCell P1.m.cls N.kN).slots.size = n := by simp [hn]
  have hlink1 : P1.sup = PR.m := Option.some.inj (hP1s.symm.trans hPRm)
  have hlinkR : PR.sup = PE.m := Option.some.inj (hPRs.symm.trans hPEm)
  have hlinkE : PE.sup = Z.m T.toThrowableT := Option.some.inj (hPEs.symm.trans Y.init0)
  have hLs : ∀ P, P ∈ [PR, PE] → P.Links0 e.platform s := fun P hP => by
    simp only [List.mem_cons, List.not_mem_nil, or_false] at hP
    rcases hP with rfl | rfl
    · exact LR
    · exact LEx
  have hsel0 : selectMethod e.platform s.vm P1.m.cls T.fill0 = .method T.fill0 := by
    obtain ⟨c2, r2, m2, q1, q2, q3, q4, -⟩ := Cond.selects_spec (a' (.selects Bundle.nN Bundle.tFill0 Bundle.tFill0) (by simp [Bundle.npeArmAtoms]))
    cases Option.some.inj (q1.symm.trans hfound)
    cases Option.some.inj (q2.symm.trans (State.methodFound?_of_named Y.fill0 (by decide)))
    cases Option.some.inj (q3.symm.trans Y.fill0)
    rw [Launch.admits_selectMethod X.admits]; exact q4
  have hselF : selectMethod e.platform s.vm P1.m.cls T.fill = .method N.fill := by
    obtain ⟨c2, r2, m2, q1, q2, q3, q4, -⟩ := Cond.selects_spec (a' (.selects Bundle.nN Bundle.tFill Bundle.nFill) (by simp [Bundle.npeArmAtoms]))
    cases Option.some.inj (q1.symm.trans hfound)
    cases Option.some.inj (q2.symm.trans (State.methodFound?_of_named Y.fill (by decide)))
    cases Option.some.inj (q3.symm.trans hnNF)
    rw [Launch.admits_selectMethod X.admits]; exact q4
  obtain ⟨cellS0, hcS0, hiss⟩ := Y.statics
  obtain ⟨u0, hu0⟩ := Cond.staticRefV Y.unassigned L.unassignedStatic L.statics hcS0 hiss (a' (.isRef (.static Bundle.tN "UNASSIGNED_STACK" Bundle.steD)) (by simp [Bundle.npeArmAtoms]))
  obtain ⟨sen, hsen⟩ := Cond.staticRefV Y.sentinel L.sentinelStatic L.statics hcS0 hiss (a' (.isRef (.static Bundle.tN "SUPPRESSED_SENTINEL" Bundle.listD)) (by simp [Bundle.npeArmAtoms]))
  obtain ⟨ci198, i198, fB, hk198, hg198, ha198, hsB, -, hnB, htB, hffB⟩ := Cond.ownField (t := .object "java/lang/Object") Y.found L.cls (by decide +kernel) (a' (.fieldLink Bundle.tN 198 Bundle.tN "backtrace" Bundle.objD) (by simp [Bundle.npeArmAtoms])) (a' (.lays Bundle.tN Bundle.tN "backtrace" Bundle.objD) (by simp [Bundle.npeArmAtoms])) e.platform hpl
  obtain ⟨cellS, hcS', heS, -, hkeep⟩ := X.same.2.2.2.2.2 T.aS cellS0 hcS0
  have hcellS : W.heap[T.aS]? = some cellS := hcS'
  have hout' : ∀ i, (⟨T.aS, i⟩ : Loc) ∉ locs := fun i hmem => by
    have := hlocs _ hmem cellS0 hcS0
    rw [hiss] at this; cases this
  have hknownS : cellS.vm ≠ .unknown := by
    rw [heS]; intro hu
    rw [show cellS0.vm = .unknown from hu] at hiss
    cases hiss
  have hvU : cellS.slots[T.fUnassigned.slot]? = some u0.v := by rw [hkeep _ (hout' _)]; exact hu0
  have hvSen : cellS.slots[T.fSentinel.slot]? = some sen.v := by rw [hkeep _ (hout' _)]; exact hsen
  obtain ⟨tyC, dC, hdC, hdnC⟩ := Cond.laysAt hfound hk Y.cause (a' (.lays Bundle.nN Bundle.tN "cause" "Ljava/lang/Throwable;") (by simp [Bundle.npeArmAtoms]))
  obtain ⟨tyS, dS, hdS, hdnS⟩ := Cond.laysAt hfound hk Y.stack (a' (.lays Bundle.nN Bundle.tN "stackTrace" Bundle.steD) (by simp [Bundle.npeArmAtoms]))
  obtain ⟨tyP, dP, hdP, hdnP⟩ := Cond.laysAt hfound hk Y.supp (a' (.lays Bundle.nN Bundle.tN "suppressedExceptions" Bundle.listD) (by simp [Bundle.npeArmAtoms]))
  obtain ⟨tyX, dX, hdX, hdnX⟩ := Cond.laysAt hfound hk hffS (a' (.lays Bundle.nN Bundle.nN "extendedMessageState" "I") (by simp [Bundle.npeArmAtoms, Bundle.npeAtoms]))
  obtain ⟨hnX, htX⟩ := State.fieldFound?_type hffS (t := .int) (by decide +kernel)
  have xC := Cond.laysApart hdC hdX hdnC hdnX (by rw [hnX, Y.causeName]; decide)
  have xS := Cond.laysApart hdS hdX hdnS hdnX (by rw [hnX, Y.stackName]; decide)
  have xP := Cond.laysApart hdP hdX hdnP hdnX (by rw [hnX, Y.suppName]; decide)
  have hv0 : (freshCell P1.m.cls N.kN).slots[N.fState.slot]? = some (.int 0) := by
    have := fresh_default (c := P1.m.cls) tyX
    rw [htX] at this; exact this
  obtain ⟨tyB, dB, hdB, hdnB⟩ := Cond.laysAt hfound hk hffB (a' (.lays Bundle.nN Bundle.tN "backtrace" Bundle.objD) (by simp [Bundle.npeArmAtoms]))
  have bC := Cond.laysApart hdB hdC hdnB hdnC (by rw [hnB, Y.causeName]; decide)
  have bS := Cond.laysApart hdB hdS hdnB hdnS (by rw [hnB, Y.stackName]; decide)
  have bP := Cond.laysApart hdB hdP hdnB hdnP (by rw [hnB, Y.suppName]; decide)
  have bX := Cond.laysApart hdB hdX hdnB hdnX (by rw [hnB, hnX]; decide)
  have hbk : ((npeCell N.toNpeT (preparedCellV T.toThrowableT (freshCell P1.m.cls N.kN) W.heap.size u0 sen) W.cur).withEntry W.cur).slots[fB.slot]? = some .null := by
    have := fresh_default (c := P1.m.cls) tyB
    rw [htB] at this
    simpa [npeCell, preparedCellV, Cell.setSlot, Cell.withEntry, Array.getElem?_setIfInBounds, bC, bS, bP, bX, bC.symm, bS.symm, bP.symm, bX.symm, defaultValue] using this
  have tkC := Takes.of_laid (v := .ref W.heap.size) hk hordN tyC (by rw [Y.causeType]; rfl)
  have tkS := Takes.of_laid (v := u0.v) hk hordN tyS (by rw [Y.stackType]; exact fits_refV_array _ u0)
  have tkP := Takes.of_laid (v := sen.v) hk hordN tyP (by rw [Y.suppType]; exact fits_refV_object _ sen)
  have tkX := Takes.of_laid (v := .int 1) hk hordN tyX (by rw [htX]; rfl)
  have hskip : SkipFacts T e.platform s (fun u => u) u0 ((npeCell N.toNpeT (preparedCellV T.toThrowableT (freshCell P1.m.cls N.kN) W.heap.size u0 sen) W.cur).withEntry W.cur) := ⟨{ ci198 := ci198, i198 := i198, fBack := fB }, ⟨hk198, hg198, ha198, hsB⟩, hbk, fun _ _ => rfl⟩
  obtain ⟨vm', X3, st, -⟩ := X.throwsNpeColdBareVAt hexec hg hsize T L Z LZ N LN P1 L1 [PR, PE] hLs hlink1 ⟨hlinkR, hlinkE, trivial⟩ hfound hk hinit hordN hctor hsel0 hselF hcellS hknownS hvU hvSen
    hv0 xC xS xP tkC tkS tkP tkX Y.objLocals hskip (fun _ _ hA hW _ hroom _ hrest => L.nativeOff p htr hA hW hroom hrest) (by simpa using hRframes) hRlocals (by simp) hRcells (by rw [hn]; exact hRslots)
  have hlt : W.heap.size < ((W.pushCell (freshCell P1.m.cls N.kN)).setVm vm').heap.size := by
    show W.heap.size < (W.pushCell (freshCell P1.m.cls N.kN)).heap.size
    rw [State.heap_size_pushCell]; omega
  rw [hfsz] at X3
  obtain ⟨g₁, hfrM⟩ := X3.frames_eq
  have hU : ((((W.pushCell (freshCell P1.m.cls N.kN)).setVm vm').setCell W.heap.size (npeBareV T.toThrowableT N.toNpeT (freshCell P1.m.cls N.kN) W.heap.size u0 sen)).setTop g).pushFrame (.throwing W.heap.size) = (((W.pushCell (freshCell P1.m.cls N.kN)).setVm vm').setCell W.heap.size (npeBareV T.toThrowableT N.toNpeT (freshCell P1.m.cls N.kN) W.heap.size u0 sen)).setFrames (.throwing W.heap.size :: .java g :: below) := by
    rw [State.pushFrame, State.frames_setTop _ hfrM, State.setTop_of_frames _ hfrM, State.setFrames_setFrames]
  refine ⟨_, W.heap.size, _, fun target ht => st.trans (by rw [← hU]; exact ht), X3.forget (fun y hy => ?_), heapAt_setCell_self _ hlt, hfound, rfl⟩
  simp only [List.mem_cons, List.not_mem_nil, or_false] at hy
  have hge : s.heap.size ≤ W.heap.size := X.same.2.1
  rcases hy with rfl | rfl | rfl | rfl | rfl <;> exact hge
/-- the words of a machine's NullPointerException, but the four that speak of the heap -/
def vx_atN (n : Nat) : List Cond := (Bundle.npeArmAtoms n).filter vx_no
/-- the words of a machine's throw with a message, but the four that speak of the heap -/
def vx_atM (X : String) (names : List String) : List Cond := (Bundle.messageArmAtoms X names).filter vx_no
section
variable {p : Program} {l : Launch} {e : Env} {R : Room} {s : State} {m : MethodId} {args : Array Value} {below : List Frame} {meth : Method} {c : Code} {H : Heap} {locs : List Loc} {cells slots : Nat}
/-- a frame seen from a rebased start, seen from the first start again -/
theorem vx_back9 {T S : State} {R' : Room} {k n : Nat} (X : Stand p l e R s m args below meth c T locs cells slots) (Y : Stand p l e R' ((T.setVm s.vm).setFrames (.invoking m args :: below)) m args below meth c T [] 0 0) (Z : Stand p l e R' ((T.setVm s.vm).setFrames (.invoking m args :: below)) m args below meth c S [] k n) :
    Stand p l e R s m args below meth c S locs (cells + k) (slots + n) := by
  have hW0 : s.WarmedH ((T.setVm s.vm).setFrames (.invoking m args :: below)).vm := State.WarmedH.refl s
  refine { admits := X.admits, cas := X.cas, clock := X.clock, frames := X.frames, room := X.room, hears := X.hears, method := X.method, code := X.code, here := Z.here, tail := Z.tail, warmed := State.WarmedH.trans hW0 Z.warmed, limits := Z.limits.trans (Y.limits.symm.trans X.limits), bytes := Z.bytes.trans (Y.bytes.symm.trans X.bytes), same := ?_ }
  obtain ⟨e1, e2⟩ := Z.same
  rw [State.setFrames_setFrames] at e1
  have h2 : (T.setVm s.vm).sameButNew (S.setVm s.vm) [] k n := ⟨e1, e2⟩
  have h3 := X.same.trans h2
  rw [List.append_nil] at h3
  exact h3
/-- from the machine's note that E is thrown here with this text -/
def vx_Note (p : Program) (l : Launch) (e : Env) (R : Room) (s : State) (m : MethodId) (args : Array Value) (below : List Frame) (meth : Method) (c : Code) (H : Heap) (locs : List Loc) (cells slots : Nat) (Q : State → Prop) (g : JFrame) (E text : String) : Prop :=
  ∀ T : State, T.heap = H → Stand p l e R s m args below meth c T locs cells slots → ∃ t, Steps p.tables e below ((T.setTop g).pushFrame (.throwNew E (some text) none)) t ∧ Q t
theorem vx_vm {pc : Nat} {ls : Array Slot} {rest : List Value} {Q : State → Prop} (hexec : p.tables.exec = Jvm.exec) (hl : l.stackTraces = false) {cls text : String} {names : List String} {nb : Nat} {A : Nat → Prop}
    (hcls : Bundle.fit cls = true) (hnames : ∀ n ∈ names, Bundle.fit n = true) (hsoe : (cls == "java/lang/StackOverflowError") = false) (hoom : (cls == "java/lang/OutOfMemoryError") = false)
    (hat : ∀ w ∈ vx_atM cls names, w.before args s = true) (hgood : ∀ w ∈ vx_atM cls names, vx_ot w = true)
    (hU : vx_Zq Bundle.tN "UNASSIGNED_STACK" Bundle.steD A s s.heap) (hN : vx_Zq Bundle.tN "SUPPRESSED_SENTINEL" Bundle.listD A s s.heap) (hS : va_S A s.heap H locs) (hsize : ls.size = c.maxLocals)
    (htext : (text == notModelled) = false) (hnb : (stringBytes (stringToUtf16 text)).size ≤ nb) (hnb1 : nb ≤ 1000)
    (hRframes : names.length + 4 < R.frames) (hRlocals : (rest.map fun v => v.category).sum + 10240 ≤ R.locals) (hshort : 13 * names.length + 55 ≤ 10240) (hRcells : cells + 3 ≤ R.cells) (hRslots : slots + (nb + 10) ≤ R.slots) (hlocks : meth.locks = false)
    (k : ∀ (H1 : Heap) (q9 : Addr) (ce : Cell), H.size ≤ H1.size → (∀ q : Nat, q < H.size → H1[q]? = H[q]?) → va_S A s.heap H1 locs → H1[q9]? = some ce → ce.vm = .none → s.vm.findClass cls = some ce.cls → vx_W p l e R s m args below meth c H1 locs (cells + 3) (slots + (nb + 10)) Q (F0 m pc ls rest) q9) :
    vx_Note p l e R s m args below meth c H locs cells slots Q (F0 m pc ls rest) cls text := by
  intro T hT X
  have htr : e.platform.stackTraces = false := (show e.platform.stackTraces = l.stackTraces by rw [X.admits.platform]).trans hl
  have Y := vx_rebase X (R' := { frames := R.frames, locals := R.locals, cells := 3, slots := nb + 10 }) (Nat.le_refl _) (Nat.le_refl _) hRcells hRslots
  have hhp : ((T.setVm s.vm).setFrames (.invoking m args :: below)).heap = H := hT
  have hW0 : s.WarmedH ((T.setVm s.vm).setFrames (.invoking m args :: below)).vm := State.WarmedH.refl s
  have hat' : ∀ w ∈ vx_atM cls names, w.before args ((T.setVm s.vm).setFrames (.invoking m args :: below)) = true := fun w hw => vx_ot_at hW0 rfl (hgood w hw) (hat w hw)
  have hU' : vx_Zq Bundle.tN "UNASSIGNED_STACK" Bundle.steD A ((T.setVm s.vm).setFrames (.invoking m args :: below)) ((T.setVm s.vm).setFrames (.invoking m args :: below)).heap := by rw [hhp]; exact vx_Zq.moved hW0.alike (hU.kept hS.2.1)
  have hN' : vx_Zq Bundle.tN "SUPPRESSED_SENTINEL" Bundle.listD A ((T.setVm s.vm).setFrames (.invoking m args :: below)) ((T.setVm s.vm).setFrames (.invoking m args :: below)).heap := by rw [hhp]; exact vx_Zq.moved hW0.alike (hN.kept hS.2.1)
  obtain ⟨S, q, ce, st, Z, hce, hcl', hv⟩ := vx_vmAt Y hexec htr (cls := cls) (names := names) (text := text) hcls hnames hsoe hoom (vx_own hat' (vx_isRefq hU'.1) (vx_isRefq hN'.1) hU'.2.word hN'.2.word) (fun x hx => nomatch hx) htext
    (by rw [Launch.admits_arrayLengthLimit X.admits]; omega) (by rw [Launch.admits_maxHeapBytes X.admits]; simp only [componentBytes]; omega)
    (g := F0 m pc ls rest) rfl hsize hRframes (by show 2 * 0 + (rest.map fun v => v.category).sum + 10240 ≤ R.locals; omega) hshort (by show 0 + 3 ≤ 3; omega) (by show 0 + (_ + 4 + 6) ≤ nb + 10; omega) hlocks
  obtain ⟨f1, f2⟩ := vx_frame Z.same
  have f1' : H.size ≤ S.heap.size := by rw [← hT]; exact f1
  have f2' : ∀ q : Nat, q < H.size → S.heap[q]? = H[q]? := fun q hq => by
    rw [← hT]
    exact f2 q (by rw [← hT] at hq; exact hq) (fun z hz => nomatch hz)
  have X5 := vx_back9 X Y Z
  have X6 : Stand p l e R s m args below meth c S locs (cells + 3) (slots + (nb + 10)) := { X5 with same := X5.same.mono (by omega) (by omega) }
  obtain ⟨t, a1, b1⟩ := k S.heap q ce f1' f2' ⟨Nat.le_trans hS.1 f1', fun q h1 h2 => (f2' q (Nat.lt_of_lt_of_le h1 hS.1)).trans (hS.2.1 q h1 h2), hS.2.2⟩ hce hv hcl' S rfl X6
  exact ⟨t, st t a1, b1⟩
/-- from the machine's note that NullPointerException is thrown here -/
def vx_NoteN (p : Program) (l : Launch) (e : Env) (R : Room) (s : State) (m : MethodId) (args : Array Value) (below : List Frame) (meth : Method) (c : Code) (H : Heap) (locs : List Loc) (cells slots : Nat) (Q : State → Prop) (g : JFrame) : Prop :=
  ∀ T : State, T.heap = H → Stand p l e R s m args below meth c T locs cells slots → ∃ t, Steps p.tables e below ((T.setTop g).pushFrame (.throwNew "java/lang/NullPointerException" none none)) t ∧ Q t
theorem vx_npe {pc : Nat} {ls : Array Slot} {rest : List Value} {Q : State → Prop} (hexec : p.tables.exec = Jvm.exec) (hl : l.stackTraces = false) {nb : Nat} {A : Nat → Prop}
    (hat : ∀ w ∈ vx_atN nb, w.before args s = true) (hgood : ∀ w ∈ vx_atN nb, vx_ot w = true)
    (hU : vx_Zq Bundle.tN "UNASSIGNED_STACK" Bundle.steD A s s.heap) (hN : vx_Zq Bundle.tN "SUPPRESSED_SENTINEL" Bundle.listD A s s.heap) (hS : va_S A s.heap H locs) (hsize : ls.size = c.maxLocals)
    (hRframes : 7 < R.frames) (hRlocals : (rest.map fun v => v.category).sum + 10240 ≤ R.locals) (hRcells : cells + 1 ≤ R.cells) (hRslots : slots + nb ≤ R.slots) (hlocks : meth.locks = false)
    (k : ∀ (H1 : Heap) (q9 : Addr) (ce : Cell), H.size ≤ H1.size → (∀ q : Nat, q < H.size → H1[q]? = H[q]?) → va_S A s.heap H1 locs → H1[q9]? = some ce → ce.vm = .none → s.vm.findClass "java/lang/NullPointerException" = some ce.cls → vx_W p l e R s m args below meth c H1 locs (cells + 1) (slots + nb) Q (F0 m pc ls rest) q9) :
    vx_NoteN p l e R s m args below meth c H locs cells slots Q (F0 m pc ls rest) := by
  intro T hT X
  have htr : e.platform.stackTraces = false := (show e.platform.stackTraces = l.stackTraces by rw [X.admits.platform]).trans hl
  have Y := vx_rebase X (R' := { frames := R.frames, locals := R.locals, cells := 1, slots := nb }) (Nat.le_refl _) (Nat.le_refl _) hRcells hRslots
  have hhp : ((T.setVm s.vm).setFrames (.invoking m args :: below)).heap = H := hT
  have hW0 : s.WarmedH ((T.setVm s.vm).setFrames (.invoking m args :: below)).vm := State.WarmedH.refl s
  have hat' : ∀ w ∈ vx_atN nb, w.before args ((T.setVm s.vm).setFrames (.invoking m args :: below)) = true := fun w hw => vx_ot_at hW0 rfl (hgood w hw) (hat w hw)
  have hU' : vx_Zq Bundle.tN "UNASSIGNED_STACK" Bundle.steD A ((T.setVm s.vm).setFrames (.invoking m args :: below)) ((T.setVm s.vm).setFrames (.invoking m args :: below)).heap := by rw [hhp]; exact vx_Zq.moved hW0.alike (hU.kept hS.2.1)
  have hN' : vx_Zq Bundle.tN "SUPPRESSED_SENTINEL" Bundle.listD A ((T.setVm s.vm).setFrames (.invoking m args :: below)) ((T.setVm s.vm).setFrames (.invoking m args :: below)).heap := by rw [hhp]; exact vx_Zq.moved hW0.alike (hN.kept hS.2.1)
  obtain ⟨S, q, ce, st, Z, hce, hcl', hv⟩ := vx_npeAt Y hexec htr (n := nb) (vx_own hat' (vx_isRefq hU'.1) (vx_isRefq hN'.1) hU'.2.word hN'.2.word) (fun x hx => nomatch hx)
    (g := F0 m pc ls rest) rfl hsize hRframes (by show 2 * 0 + (rest.map fun v => v.category).sum + 10240 ≤ R.locals; omega) (by show 0 + 1 ≤ 1; omega) (by show 0 + nb ≤ nb; omega) hlocks
  obtain ⟨f1, f2⟩ := vx_frame Z.same
  have f1' : H.size ≤ S.heap.size := by rw [← hT]; exact f1
  have f2' : ∀ q : Nat, q < H.size → S.heap[q]? = H[q]? := fun q hq => by
    rw [← hT]
    exact f2 q (by rw [← hT] at hq; exact hq) (fun z hz => nomatch hz)
  have X5 := vx_back9 X Y Z
  have X6 : Stand p l e R s m args below meth c S locs (cells + 1) (slots + nb) := { X5 with same := X5.same.mono (by omega) (by omega) }
  obtain ⟨t, a1, b1⟩ := k S.heap q ce f1' f2' ⟨Nat.le_trans hS.1 f1', fun q h1 h2 => (f2' q (Nat.lt_of_lt_of_le h1 hS.1)).trans (hS.2.1 q h1 h2), hS.2.2⟩ hce hv hcl' S rfl X6
  exact ⟨t, st t a1, b1⟩
variable {Q : State → Prop} {cc : ByteArray} {pc : Nat} {ls : Array Slot} {rest : List Value}
theorem vx_idivZ (hexec : p.tables.exec = Jvm.exec) (hb : c.code = cc) {a b : Int32} (h0 : b = 0) (d : decode cc pc = .ok (.idiv, 1)) (k : vx_Note p l e R s m args below meth c H locs cells slots Q (F0 m pc ls rest) "java/lang/ArithmeticException" "/ by zero") :
    W p l e R s m args below meth c H locs cells slots Q (F0 m pc ls (.int b :: .int a :: rest)) := by
  intro T hT X
  obtain ⟨t, st, q⟩ := k T hT X
  exact ⟨t, X.idivZero hexec (g := F0 m pc ls (.int b :: .int a :: rest)) rfl (a := a) (rest := rest) (by rw [h0]) (by rw [hb]; exact d) t st, q⟩
theorem vx_iremZ (hexec : p.tables.exec = Jvm.exec) (hb : c.code = cc) {a b : Int32} (h0 : b = 0) (d : decode cc pc = .ok (.irem, 1)) (k : vx_Note p l e R s m args below meth c H locs cells slots Q (F0 m pc ls rest) "java/lang/ArithmeticException" "/ by zero") :
    W p l e R s m args below meth c H locs cells slots Q (F0 m pc ls (.int b :: .int a :: rest)) := by
  intro T hT X
  obtain ⟨t, st, q⟩ := k T hT X
  exact ⟨t, X.iremZero hexec (g := F0 m pc ls (.int b :: .int a :: rest)) rfl (a := a) (rest := rest) (by rw [h0]) (by rw [hb]; exact d) t st, q⟩
theorem vx_ldivZ (hexec : p.tables.exec = Jvm.exec) (hb : c.code = cc) {a b : Int64} (h0 : b = 0) (d : decode cc pc = .ok (.ldiv, 1)) (k : vx_Note p l e R s m args below meth c H locs cells slots Q (F0 m pc ls rest) "java/lang/ArithmeticException" "/ by zero") :
    W p l e R s m args below meth c H locs cells slots Q (F0 m pc ls (.long b :: .long a :: rest)) := by
  intro T hT X
  obtain ⟨t, st, q⟩ := k T hT X
  exact ⟨t, X.ldivZero hexec (g := F0 m pc ls (.long b :: .long a :: rest)) rfl (a := a) (rest := rest) (by rw [h0]) (by rw [hb]; exact d) t st, q⟩
theorem vx_lremZ (hexec : p.tables.exec = Jvm.exec) (hb : c.code = cc) {a b : Int64} (h0 : b = 0) (d : decode cc pc = .ok (.lrem, 1)) (k : vx_Note p l e R s m args below meth c H locs cells slots Q (F0 m pc ls rest) "java/lang/ArithmeticException" "/ by zero") :
    W p l e R s m args below meth c H locs cells slots Q (F0 m pc ls (.long b :: .long a :: rest)) := by
  intro T hT X
  obtain ⟨t, st, q⟩ := k T hT X
  exact ⟨t, X.lremZero hexec (g := F0 m pc ls (.long b :: .long a :: rest)) rfl (a := a) (rest := rest) (by rw [h0]) (by rw [hb]; exact d) t st, q⟩
theorem vx_ialdZ {D : va_G} {cl : List vw_C} {ws : va_W} {tys : List (ClassId × FieldType)} {a : Nat} (hexec : p.tables.exec = Jvm.exec) (hb : c.code = cc) (hK : va_K D cl tys s) (hP : va_P D cl ws H) (q0 t0 : Nat) {cA : ClassId} {n : Nat} {f : Nat → Int32} (ha : ws[q0]? = some (a, .inl (cA, n, .inl f))) (ht : tys[t0]? = some (cA, .int)) {i : Int32} (hout : ¬ vp_in i n) (hdg : decode cc pc = .ok (.iaload, 1))
    (k : ∀ tx : String, tx = (toString "Index " ++ toString i ++ toString " out of bounds for length " ++ toString n : String) → vx_Note p l e R s m args below meth c H locs cells slots Q (F0 m pc ls rest) "java/lang/ArrayIndexOutOfBoundsException" tx) : W p l e R s m args below meth c H locs cells slots Q (F0 m pc ls (.int i :: .ref a :: rest)) := by
  intro T hT X
  obtain ⟨t, st, q⟩ := k _ rfl T hT X
  refine ⟨t, ?_, q⟩
  have h1 := X.ialoadOut hexec (by rw [hT]; exact hP q0 _ ha) ((hK.2 t0 _ ht).1 n (fun j => .int (f j))) (j := i) (by show (i < 0 ∨ (arrV _ _ _).slots.size ≤ _); rw [arrV_size]; exact Classical.byContradiction hout) (g := F0 m pc ls (.int i :: .ref a :: rest)) rfl (rest := rest) rfl (by rw [hb]; exact hdg) t
  simp only [arrV_size] at h1
  exact h1 st
theorem vx_iastZ {D : va_G} {cl : List vw_C} {ws : va_W} {tys : List (ClassId × FieldType)} {a : Nat} (hexec : p.tables.exec = Jvm.exec) (hb : c.code = cc) (hK : va_K D cl tys s) (hP : va_P D cl ws H) (q0 t0 : Nat) {cA : ClassId} {n : Nat} {f : Nat → Int32} (ha : ws[q0]? = some (a, .inl (cA, n, .inl f))) (ht : tys[t0]? = some (cA, .int)) {i : Int32} {x : Int32} (hout : ¬ vp_in i n) (hdg : decode cc pc = .ok (.iastore, 1))
    (k : ∀ tx : String, tx = (toString "Index " ++ toString i ++ toString " out of bounds for length " ++ toString n : String) → vx_Note p l e R s m args below meth c H locs cells slots Q (F0 m pc ls rest) "java/lang/ArrayIndexOutOfBoundsException" tx) : W p l e R s m args below meth c H locs cells slots Q (F0 m pc ls (.int x :: .int i :: .ref a :: rest)) := by
  intro T hT X
  obtain ⟨t, st, q⟩ := k _ rfl T hT X
  refine ⟨t, ?_, q⟩
  have h1 := X.iastoreOut hexec (by rw [hT]; exact hP q0 _ ha) ((hK.2 t0 _ ht).1 n (fun j => .int (f j))) (j := i) (by show (i < 0 ∨ (arrV _ _ _).slots.size ≤ _); rw [arrV_size]; exact Classical.byContradiction hout) (g := F0 m pc ls (.int x :: .int i :: .ref a :: rest)) rfl (rest := rest) rfl (by rw [hb]; exact hdg) t
  simp only [arrV_size] at h1
  exact h1 st
theorem vx_baldZ {D : va_G} {cl : List vw_C} {ws : va_W} {tys : List (ClassId × FieldType)} {a : Nat} (hexec : p.tables.exec = Jvm.exec) (hb : c.code = cc) (hK : va_K D cl tys s) (hP : va_P D cl ws H) (q0 t0 : Nat) {cA : ClassId} {n : Nat} {f : Nat → Int32} (ha : ws[q0]? = some (a, .inl (cA, n, .inl f))) (ht : tys[t0]? = some (cA, .byte)) {i : Int32} (hout : ¬ vp_in i n) (hdg : decode cc pc = .ok (.baload, 1))
    (k : ∀ tx : String, tx = (toString "Index " ++ toString i ++ toString " out of bounds for length " ++ toString n : String) → vx_Note p l e R s m args below meth c H locs cells slots Q (F0 m pc ls rest) "java/lang/ArrayIndexOutOfBoundsException" tx) : W p l e R s m args below meth c H locs cells slots Q (F0 m pc ls (.int i :: .ref a :: rest)) := by
  intro T hT X
  obtain ⟨t, st, q⟩ := k _ rfl T hT X
  refine ⟨t, ?_, q⟩
  have h1 := X.baloadOut hexec (by rw [hT]; exact hP q0 _ ha) ((hK.2 t0 _ ht).1 n (fun j => .int (f j))) (j := i) (by show (i < 0 ∨ (arrV _ _ _).slots.size ≤ _); rw [arrV_size]; exact Classical.byContradiction hout) (g := F0 m pc ls (.int i :: .ref a :: rest)) rfl (rest := rest) rfl (by rw [hb]; exact hdg) t
  simp only [arrV_size] at h1
  exact h1 st
theorem vx_bastZ {D : va_G} {cl : List vw_C} {ws : va_W} {tys : List (ClassId × FieldType)} {a : Nat} (hexec : p.tables.exec = Jvm.exec) (hb : c.code = cc) (hK : va_K D cl tys s) (hP : va_P D cl ws H) (q0 t0 : Nat) {cA : ClassId} {n : Nat} {f : Nat → Int32} (ha : ws[q0]? = some (a, .inl (cA, n, .inl f))) (ht : tys[t0]? = some (cA, .byte)) {i : Int32} {x : Int32} (hout : ¬ vp_in i n) (hdg : decode cc pc = .ok (.bastore, 1))
    (k : ∀ tx : String, tx = (toString "Index " ++ toString i ++ toString " out of bounds for length " ++ toString n : String) → vx_Note p l e R s m args below meth c H locs cells slots Q (F0 m pc ls rest) "java/lang/ArrayIndexOutOfBoundsException" tx) : W p l e R s m args below meth c H locs cells slots Q (F0 m pc ls (.int x :: .int i :: .ref a :: rest)) := by
  intro T hT X
  obtain ⟨t, st, q⟩ := k _ rfl T hT X
  refine ⟨t, ?_, q⟩
  have h1 := X.bastoreOut hexec (by rw [hT]; exact hP q0 _ ha) ((hK.2 t0 _ ht).1 n (fun j => .int (f j))) (j := i) (by show (i < 0 ∨ (arrV _ _ _).slots.size ≤ _); rw [arrV_size]; exact Classical.byContradiction hout) (g := F0 m pc ls (.int x :: .int i :: .ref a :: rest)) rfl (rest := rest) rfl (by rw [hb]; exact hdg) t
  simp only [arrV_size] at h1
  exact h1 st
theorem vx_zaldZ {D : va_G} {cl : List vw_C} {ws : va_W} {tys : List (ClassId × FieldType)} {a : Nat} (hexec : p.tables.exec = Jvm.exec) (hb : c.code = cc) (hK : va_K D cl tys s) (hP : va_P D cl ws H) (q0 t0 : Nat) {cA : ClassId} {n : Nat} {f : Nat → Int32} (ha : ws[q0]? = some (a, .inl (cA, n, .inl f))) (ht : tys[t0]? = some (cA, .boolean)) {i : Int32} (hout : ¬ vp_in i n) (hdg : decode cc pc = .ok (.baload, 1))
    (k : ∀ tx : String, tx = (toString "Index " ++ toString i ++ toString " out of bounds for length " ++ toString n : String) → vx_Note p l e R s m args below meth c H locs cells slots Q (F0 m pc ls rest) "java/lang/ArrayIndexOutOfBoundsException" tx) : W p l e R s m args below meth c H locs cells slots Q (F0 m pc ls (.int i :: .ref a :: rest)) := by
  intro T hT X
  obtain ⟨t, st, q⟩ := k _ rfl T hT X
  refine ⟨t, ?_, q⟩
  have h1 := X.baloadOut hexec (by rw [hT]; exact hP q0 _ ha) ((hK.2 t0 _ ht).1 n (fun j => .int (f j))) (j := i) (by show (i < 0 ∨ (arrV _ _ _).slots.size ≤ _); rw [arrV_size]; exact Classical.byContradiction hout) (g := F0 m pc ls (.int i :: .ref a :: rest)) rfl (rest := rest) rfl (by rw [hb]; exact hdg) t
  simp only [arrV_size] at h1
  exact h1 st
theorem vx_zastZ {D : va_G} {cl : List vw_C} {ws : va_W} {tys : List (ClassId × FieldType)} {a : Nat} (hexec : p.tables.exec = Jvm.exec) (hb : c.code = cc) (hK : va_K D cl tys s) (hP : va_P D cl ws H) (q0 t0 : Nat) {cA : ClassId} {n : Nat} {f : Nat → Int32} (ha : ws[q0]? = some (a, .inl (cA, n, .inl f))) (ht : tys[t0]? = some (cA, .boolean)) {i : Int32} {x : Int32} (hout : ¬ vp_in i n) (hdg : decode cc pc = .ok (.bastore, 1))
    (k : ∀ tx : String, tx = (toString "Index " ++ toString i ++ toString " out of bounds for length " ++ toString n : String) → vx_Note p l e R s m args below meth c H locs cells slots Q (F0 m pc ls rest) "java/lang/ArrayIndexOutOfBoundsException" tx) : W p l e R s m args below meth c H locs cells slots Q (F0 m pc ls (.int x :: .int i :: .ref a :: rest)) := by
  intro T hT X
  obtain ⟨t, st, q⟩ := k _ rfl T hT X
  refine ⟨t, ?_, q⟩
  have h1 := X.bastoreOut hexec (by rw [hT]; exact hP q0 _ ha) ((hK.2 t0 _ ht).1 n (fun j => .int (f j))) (j := i) (by show (i < 0 ∨ (arrV _ _ _).slots.size ≤ _); rw [arrV_size]; exact Classical.byContradiction hout) (g := F0 m pc ls (.int x :: .int i :: .ref a :: rest)) rfl (rest := rest) rfl (by rw [hb]; exact hdg) t
  simp only [arrV_size] at h1
  exact h1 st
theorem vx_caldZ {D : va_G} {cl : List vw_C} {ws : va_W} {tys : List (ClassId × FieldType)} {a : Nat} (hexec : p.tables.exec = Jvm.exec) (hb : c.code = cc) (hK : va_K D cl tys s) (hP : va_P D cl ws H) (q0 t0 : Nat) {cA : ClassId} {n : Nat} {f : Nat → Int32} (ha : ws[q0]? = some (a, .inl (cA, n, .inl f))) (ht : tys[t0]? = some (cA, .char)) {i : Int32} (hout : ¬ vp_in i n) (hdg : decode cc pc = .ok (.caload, 1))
    (k : ∀ tx : String, tx = (toString "Index " ++ toString i ++ toString " out of bounds for length " ++ toString n : String) → vx_Note p l e R s m args below meth c H locs cells slots Q (F0 m pc ls rest) "java/lang/ArrayIndexOutOfBoundsException" tx) : W p l e R s m args below meth c H locs cells slots Q (F0 m pc ls (.int i :: .ref a :: rest)) := by
  intro T hT X
  obtain ⟨t, st, q⟩ := k _ rfl T hT X
  refine ⟨t, ?_, q⟩
  have h1 := X.caloadOut hexec (by rw [hT]; exact hP q0 _ ha) ((hK.2 t0 _ ht).1 n (fun j => .int (f j))) (j := i) (by show (i < 0 ∨ (arrV _ _ _).slots.size ≤ _); rw [arrV_size]; exact Classical.byContradiction hout) (g := F0 m pc ls (.int i :: .ref a :: rest)) rfl (rest := rest) rfl (by rw [hb]; exact hdg) t
  simp only [arrV_size] at h1
  exact h1 st
theorem vx_castZ {D : va_G} {cl : List vw_C} {ws : va_W} {tys : List (ClassId × FieldType)} {a : Nat} (hexec : p.tables.exec = Jvm.exec) (hb : c.code = cc) (hK : va_K D cl tys s) (hP : va_P D cl ws H) (q0 t0 : Nat) {cA : ClassId} {n : Nat} {f : Nat → Int32} (ha : ws[q0]? = some (a, .inl (cA, n, .inl f))) (ht : tys[t0]? = some (cA, .char)) {i : Int32} {x : Int32} (hout : ¬ vp_in i n) (hdg : decode cc pc = .ok (.castore, 1))
    (k : ∀ tx : String, tx = (toString "Index " ++ toString i ++ toString " out of bounds for length " ++ toString n : String) → vx_Note p l e R s m args below meth c H locs cells slots Q (F0 m pc ls rest) "java/lang/ArrayIndexOutOfBoundsException" tx) : W p l e R s m args below meth c H locs cells slots Q (F0 m pc ls (.int x :: .int i :: .ref a :: rest)) := by
  intro T hT X
  obtain ⟨t, st, q⟩ := k _ rfl T hT X
  refine ⟨t, ?_, q⟩
  have h1 := X.castoreOut hexec (by rw [hT]; exact hP q0 _ ha) ((hK.2 t0 _ ht).1 n (fun j => .int (f j))) (j := i) (by show (i < 0 ∨ (arrV _ _ _).slots.size ≤ _); rw [arrV_size]; exact Classical.byContradiction hout) (g := F0 m pc ls (.int x :: .int i :: .ref a :: rest)) rfl (rest := rest) rfl (by rw [hb]; exact hdg) t
  simp only [arrV_size] at h1
  exact h1 st
theorem vx_saldZ {D : va_G} {cl : List vw_C} {ws : va_W} {tys : List (ClassId × FieldType)} {a : Nat} (hexec : p.tables.exec = Jvm.exec) (hb : c.code = cc) (hK : va_K D cl tys s) (hP : va_P D cl ws H) (q0 t0 : Nat) {cA : ClassId} {n : Nat} {f : Nat → Int32} (ha : ws[q0]? = some (a, .inl (cA, n, .inl f))) (ht : tys[t0]? = some (cA, .short)) {i : Int32} (hout : ¬ vp_in i n) (hdg : decode cc pc = .ok (.saload, 1))
    (k : ∀ tx : String, tx = (toString "Index " ++ toString i ++ toString " out of bounds for length " ++ toString n : String) → vx_Note p l e R s m args below meth c H locs cells slots Q (F0 m pc ls rest) "java/lang/ArrayIndexOutOfBoundsException" tx) : W p l e R s m args below meth c H locs cells slots Q (F0 m pc ls (.int i :: .ref a :: rest)) := by
  intro T hT X
  obtain ⟨t, st, q⟩ := k _ rfl T hT X
  refine ⟨t, ?_, q⟩
  have h1 := X.saloadOut hexec (by rw [hT]; exact hP q0 _ ha) ((hK.2 t0 _ ht).1 n (fun j => .int (f j))) (j := i) (by show (i < 0 ∨ (arrV _ _ _).slots.size ≤ _); rw [arrV_size]; exact Classical.byContradiction hout) (g := F0 m pc ls (.int i :: .ref a :: rest)) rfl (rest := rest) rfl (by rw [hb]; exact hdg) t
  simp only [arrV_size] at h1
  exact h1 st
theorem vx_sastZ {D : va_G} {cl : List vw_C} {ws : va_W} {tys : List (ClassId × FieldType)} {a : Nat} (hexec : p.tables.exec = Jvm.exec) (hb : c.code = cc) (hK : va_K D cl tys s) (hP : va_P D cl ws H) (q0 t0 : Nat) {cA : ClassId} {n : Nat} {f : Nat → Int32} (ha : ws[q0]? = some (a, .inl (cA, n, .inl f))) (ht : tys[t0]? = some (cA, .short)) {i : Int32} {x : Int32} (hout : ¬ vp_in i n) (hdg : decode cc pc = .ok (.sastore, 1))
    (k : ∀ tx : String, tx = (toString "Index " ++ toString i ++ toString " out of bounds for length " ++ toString n : String) → vx_Note p l e R s m args below meth c H locs cells slots Q (F0 m pc ls rest) "java/lang/ArrayIndexOutOfBoundsException" tx) : W p l e R s m args below meth c H locs cells slots Q (F0 m pc ls (.int x :: .int i :: .ref a :: rest)) := by
  intro T hT X
  obtain ⟨t, st, q⟩ := k _ rfl T hT X
  refine ⟨t, ?_, q⟩
  have h1 := X.sastoreOut hexec (by rw [hT]; exact hP q0 _ ha) ((hK.2 t0 _ ht).1 n (fun j => .int (f j))) (j := i) (by show (i < 0 ∨ (arrV _ _ _).slots.size ≤ _); rw [arrV_size]; exact Classical.byContradiction hout) (g := F0 m pc ls (.int x :: .int i :: .ref a :: rest)) rfl (rest := rest) rfl (by rw [hb]; exact hdg) t
  simp only [arrV_size] at h1
  exact h1 st
theorem vx_laldZ {D : va_G} {cl : List vw_C} {ws : va_W} {tys : List (ClassId × FieldType)} {a : Nat} (hexec : p.tables.exec = Jvm.exec) (hb : c.code = cc) (hK : va_K D cl tys s) (hP : va_P D cl ws H) (q0 t0 : Nat) {cA : ClassId} {n : Nat} {f : Nat → Int64} (ha : ws[q0]? = some (a, .inl (cA, n, .inr (.inl f)))) (ht : tys[t0]? = some (cA, .long)) {i : Int32} (hout : ¬ vp_in i n) (hdg : decode cc pc = .ok (.laload, 1))
    (k : ∀ tx : String, tx = (toString "Index " ++ toString i ++ toString " out of bounds for length " ++ toString n : String) → vx_Note p l e R s m args below meth c H locs cells slots Q (F0 m pc ls rest) "java/lang/ArrayIndexOutOfBoundsException" tx) : W p l e R s m args below meth c H locs cells slots Q (F0 m pc ls (.int i :: .ref a :: rest)) := by
  intro T hT X
  obtain ⟨t, st, q⟩ := k _ rfl T hT X
  refine ⟨t, ?_, q⟩
  have h1 := X.laloadOut hexec (by rw [hT]; exact hP q0 _ ha) ((hK.2 t0 _ ht).1 n (fun j => .long (f j))) (j := i) (by show (i < 0 ∨ (arrV _ _ _).slots.size ≤ _); rw [arrV_size]; exact Classical.byContradiction hout) (g := F0 m pc ls (.int i :: .ref a :: rest)) rfl (rest := rest) rfl (by rw [hb]; exact hdg) t
  simp only [arrV_size] at h1
  exact h1 st
theorem vx_lastZ {D : va_G} {cl : List vw_C} {ws : va_W} {tys : List (ClassId × FieldType)} {a : Nat} (hexec : p.tables.exec = Jvm.exec) (hb : c.code = cc) (hK : va_K D cl tys s) (hP : va_P D cl ws H) (q0 t0 : Nat) {cA : ClassId} {n : Nat} {f : Nat → Int64} (ha : ws[q0]? = some (a, .inl (cA, n, .inr (.inl f)))) (ht : tys[t0]? = some (cA, .long)) {i : Int32} {x : Int64} (hout : ¬ vp_in i n) (hdg : decode cc pc = .ok (.lastore, 1))
    (k : ∀ tx : String, tx = (toString "Index " ++ toString i ++ toString " out of bounds for length " ++ toString n : String) → vx_Note p l e R s m args below meth c H locs cells slots Q (F0 m pc ls rest) "java/lang/ArrayIndexOutOfBoundsException" tx) : W p l e R s m args below meth c H locs cells slots Q (F0 m pc ls (.long x :: .int i :: .ref a :: rest)) := by
  intro T hT X
  obtain ⟨t, st, q⟩ := k _ rfl T hT X
  refine ⟨t, ?_, q⟩
  have h1 := X.lastoreOut hexec (by rw [hT]; exact hP q0 _ ha) ((hK.2 t0 _ ht).1 n (fun j => .long (f j))) (j := i) (by show (i < 0 ∨ (arrV _ _ _).slots.size ≤ _); rw [arrV_size]; exact Classical.byContradiction hout) (g := F0 m pc ls (.long x :: .int i :: .ref a :: rest)) rfl (rest := rest) rfl (by rw [hb]; exact hdg) t
  simp only [arrV_size] at h1
  exact h1 st
theorem vx_faldZ {D : va_G} {cl : List vw_C} {ws : va_W} {tys : List (ClassId × FieldType)} {a : Nat} (hexec : p.tables.exec = Jvm.exec) (hb : c.code = cc) (hK : va_K D cl tys s) (hP : va_P D cl ws H) (q0 t0 : Nat) {cA : ClassId} {n : Nat} {f : Nat → UInt32} (ha : ws[q0]? = some (a, .inl (cA, n, .inr (.inr (.inl f))))) (ht : tys[t0]? = some (cA, .float)) {i : Int32} (hout : ¬ vp_in i n) (hdg : decode cc pc = .ok (.faload, 1))
    (k : ∀ tx : String, tx = (toString "Index " ++ toString i ++ toString " out of bounds for length " ++ toString n : String) → vx_Note p l e R s m args below meth c H locs cells slots Q (F0 m pc ls rest) "java/lang/ArrayIndexOutOfBoundsException" tx) : W p l e R s m args below meth c H locs cells slots Q (F0 m pc ls (.int i :: .ref a :: rest)) := by
  intro T hT X
  obtain ⟨t, st, q⟩ := k _ rfl T hT X
  refine ⟨t, ?_, q⟩
  have h1 := X.faloadOut hexec (by rw [hT]; exact hP q0 _ ha) ((hK.2 t0 _ ht).1 n (fun j => .float (f j))) (j := i) (by show (i < 0 ∨ (arrV _ _ _).slots.size ≤ _); rw [arrV_size]; exact Classical.byContradiction hout) (g := F0 m pc ls (.int i :: .ref a :: rest)) rfl (rest := rest) rfl (by rw [hb]; exact hdg) t
  simp only [arrV_size] at h1
  exact h1 st
theorem vx_fastZ {D : va_G} {cl : List vw_C} {ws : va_W} {tys : List (ClassId × FieldType)} {a : Nat} (hexec : p.tables.exec = Jvm.exec) (hb : c.code = cc) (hK : va_K D cl tys s) (hP : va_P D cl ws H) (q0 t0 : Nat) {cA : ClassId} {n : Nat} {f : Nat → UInt32} (ha : ws[q0]? = some (a, .inl (cA, n, .inr (.inr (.inl f))))) (ht : tys[t0]? = some (cA, .float)) {i : Int32} {x : UInt32} (hout : ¬ vp_in i n) (hdg : decode cc pc = .ok (.fastore, 1))
    (k : ∀ tx : String, tx = (toString "Index " ++ toString i ++ toString " out of bounds for length " ++ toString n : String) → vx_Note p l e R s m args below meth c H locs cells slots Q (F0 m pc ls rest) "java/lang/ArrayIndexOutOfBoundsException" tx) : W p l e R s m args below meth c H locs cells slots Q (F0 m pc ls (.float x :: .int i :: .ref a :: rest)) := by
  intro T hT X
  obtain ⟨t, st, q⟩ := k _ rfl T hT X
  refine ⟨t, ?_, q⟩
  have h1 := X.fastoreOut hexec (by rw [hT]; exact hP q0 _ ha) ((hK.2 t0 _ ht).1 n (fun j => .float (f j))) (j := i) (by show (i < 0 ∨ (arrV _ _ _).slots.size ≤ _); rw [arrV_size]; exact Classical.byContradiction hout) (g := F0 m pc ls (.float x :: .int i :: .ref a :: rest)) rfl (rest := rest) rfl (by rw [hb]; exact hdg) t
  simp only [arrV_size] at h1
  exact h1 st
theorem vx_daldZ {D : va_G} {cl : List vw_C} {ws : va_W} {tys : List (ClassId × FieldType)} {a : Nat} (hexec : p.tables.exec = Jvm.exec) (hb : c.code = cc) (hK : va_K D cl tys s) (hP : va_P D cl ws H) (q0 t0 : Nat) {cA : ClassId} {n : Nat} {f : Nat → UInt64} (ha : ws[q0]? = some (a, .inl (cA, n, .inr (.inr (.inr (.inl f)))))) (ht : tys[t0]? = some (cA, .double)) {i : Int32} (hout : ¬ vp_in i n) (hdg : decode cc pc = .ok (.daload, 1))
    (k : ∀ tx : String, tx = (toString "Index " ++ toString i ++ toString " out of bounds for length " ++ toString n : String) → vx_Note p l e R s m args below meth c H locs cells slots Q (F0 m pc ls rest) "java/lang/ArrayIndexOutOfBoundsException" tx) : W p l e R s m args below meth c H locs cells slots Q (F0 m pc ls (.int i :: .ref a :: rest)) := by
  intro T hT X
  obtain ⟨t, st, q⟩ := k _ rfl T hT X
  refine ⟨t, ?_, q⟩
  have h1 := X.daloadOut hexec (by rw [hT]; exact hP q0 _ ha) ((hK.2 t0 _ ht).1 n (fun j => .double (f j))) (j := i) (by show (i < 0 ∨ (arrV _ _ _).slots.size ≤ _); rw [arrV_size]; exact Classical.byContradiction hout) (g := F0 m pc ls (.int i :: .ref a :: rest)) rfl (rest := rest) rfl (by rw [hb]; exact hdg) t
  simp only [arrV_size] at h1
  exact h1 st
theorem vx_dastZ {D : va_G} {cl : List vw_C} {ws : va_W} {tys : List (ClassId × FieldType)} {a : Nat} (hexec : p.tables.exec = Jvm.exec) (hb : c.code = cc) (hK : va_K D cl tys s) (hP : va_P D cl ws H) (q0 t0 : Nat) {cA : ClassId} {n : Nat} {f : Nat → UInt64} (ha : ws[q0]? = some (a, .inl (cA, n, .inr (.inr (.inr (.inl f)))))) (ht : tys[t0]? = some (cA, .double)) {i : Int32} {x : UInt64} (hout : ¬ vp_in i n) (hdg : decode cc pc = .ok (.dastore, 1))
    (k : ∀ tx : String, tx = (toString "Index " ++ toString i ++ toString " out of bounds for length " ++ toString n : String) → vx_Note p l e R s m args below meth c H locs cells slots Q (F0 m pc ls rest) "java/lang/ArrayIndexOutOfBoundsException" tx) : W p l e R s m args below meth c H locs cells slots Q (F0 m pc ls (.double x :: .int i :: .ref a :: rest)) := by
  intro T hT X
  obtain ⟨t, st, q⟩ := k _ rfl T hT X
  refine ⟨t, ?_, q⟩
  have h1 := X.dastoreOut hexec (by rw [hT]; exact hP q0 _ ha) ((hK.2 t0 _ ht).1 n (fun j => .double (f j))) (j := i) (by show (i < 0 ∨ (arrV _ _ _).slots.size ≤ _); rw [arrV_size]; exact Classical.byContradiction hout) (g := F0 m pc ls (.double x :: .int i :: .ref a :: rest)) rfl (rest := rest) rfl (by rw [hb]; exact hdg) t
  simp only [arrV_size] at h1
  exact h1 st
theorem vx_arraylengthN (hexec : p.tables.exec = Jvm.exec) (hb : c.code = cc) (hdg : decode cc pc = .ok (.arraylength, 1)) (k : vx_NoteN p l e R s m args below meth c H locs cells slots Q (F0 m pc ls rest)) : W p l e R s m args below meth c H locs cells slots Q (F0 m pc ls (.null :: rest)) := by
  intro T hT X
  obtain ⟨t, st, q⟩ := k T hT X
  exact ⟨t, X.arraylengthNull hexec (g := F0 m pc ls (.null :: rest)) rfl (rest := rest) rfl (by rw [hb]; exact hdg) t st, q⟩
theorem vx_ialoadN (hexec : p.tables.exec = Jvm.exec) (hb : c.code = cc) {i : Int32} (hdg : decode cc pc = .ok (.iaload, 1)) (k : vx_NoteN p l e R s m args below meth c H locs cells slots Q (F0 m pc ls rest)) : W p l e R s m args below meth c H locs cells slots Q (F0 m pc ls (.int i :: .null :: rest)) := by
  intro T hT X
  obtain ⟨t, st, q⟩ := k T hT X
  exact ⟨t, X.ialoadNull hexec (g := F0 m pc ls (.int i :: .null :: rest)) rfl (rest := rest) rfl (by rw [hb]; exact hdg) t st, q⟩
theorem vx_laloadN (hexec : p.tables.exec = Jvm.exec) (hb : c.code = cc) {i : Int32} (hdg : decode cc pc = .ok (.laload, 1)) (k : vx_NoteN p l e R s m args below meth c H locs cells slots Q (F0 m pc ls rest)) : W p l e R s m args below meth c H locs cells slots Q (F0 m pc ls (.int i :: .null :: rest)) := by
  intro T hT X
  obtain ⟨t, st, q⟩ := k T hT X
  exact ⟨t, X.laloadNull hexec (g := F0 m pc ls (.int i :: .null :: rest)) rfl (rest := rest) rfl (by rw [hb]; exact hdg) t st, q⟩
theorem vx_faloadN (hexec : p.tables.exec = Jvm.exec) (hb : c.code = cc) {i : Int32} (hdg : decode cc pc = .ok (.faload, 1)) (k : vx_NoteN p l e R s m args below meth c H locs cells slots Q (F0 m pc ls rest)) : W p l e R s m args below meth c H locs cells slots Q (F0 m pc ls (.int i :: .null :: rest)) := by
  intro T hT X
  obtain ⟨t, st, q⟩ := k T hT X
  exact ⟨t, X.faloadNull hexec (g := F0 m pc ls (.int i :: .null :: rest)) rfl (rest := rest) rfl (by rw [hb]; exact hdg) t st, q⟩
theorem vx_daloadN (hexec : p.tables.exec = Jvm.exec) (hb : c.code = cc) {i : Int32} (hdg : decode cc pc = .ok (.daload, 1)) (k : vx_NoteN p l e R s m args below meth c H locs cells slots Q (F0 m pc ls rest)) : W p l e R s m args below meth c H locs cells slots Q (F0 m pc ls (.int i :: .null :: rest)) := by
  intro T hT X
  obtain ⟨t, st, q⟩ := k T hT X
  exact ⟨t, X.daloadNull hexec (g := F0 m pc ls (.int i :: .null :: rest)) rfl (rest := rest) rfl (by rw [hb]; exact hdg) t st, q⟩
theorem vx_aaloadN (hexec : p.tables.exec = Jvm.exec) (hb : c.code = cc) {i : Int32} (hdg : decode cc pc = .ok (.aaload, 1)) (k : vx_NoteN p l e R s m args below meth c H locs cells slots Q (F0 m pc ls rest)) : W p l e R s m args below meth c H locs cells slots Q (F0 m pc ls (.int i :: .null :: rest)) := by
  intro T hT X
  obtain ⟨t, st, q⟩ := k T hT X
  exact ⟨t, X.aaloadNull hexec (g := F0 m pc ls (.int i :: .null :: rest)) rfl (rest := rest) rfl (by rw [hb]; exact hdg) t st, q⟩
theorem vx_baloadN (hexec : p.tables.exec = Jvm.exec) (hb : c.code = cc) {i : Int32} (hdg : decode cc pc = .ok (.baload, 1)) (k : vx_NoteN p l e R s m args below meth c H locs cells slots Q (F0 m pc ls rest)) : W p l e R s m args below meth c H locs cells slots Q (F0 m pc ls (.int i :: .null :: rest)) := by
  intro T hT X
  obtain ⟨t, st, q⟩ := k T hT X
  exact ⟨t, X.baloadNull hexec (g := F0 m pc ls (.int i :: .null :: rest)) rfl (rest := rest) rfl (by rw [hb]; exact hdg) t st, q⟩
theorem vx_caloadN (hexec : p.tables.exec = Jvm.exec) (hb : c.code = cc) {i : Int32} (hdg : decode cc pc = .ok (.caload, 1)) (k : vx_NoteN p l e R s m args below meth c H locs cells slots Q (F0 m pc ls rest)) : W p l e R s m args below meth c H locs cells slots Q (F0 m pc ls (.int i :: .null :: rest)) := by
  intro T hT X
  obtain ⟨t, st, q⟩ := k T hT X
  exact ⟨t, X.caloadNull hexec (g := F0 m pc ls (.int i :: .null :: rest)) rfl (rest := rest) rfl (by rw [hb]; exact hdg) t st, q⟩
theorem vx_saloadN (hexec : p.tables.exec = Jvm.exec) (hb : c.code = cc) {i : Int32} (hdg : decode cc pc = .ok (.saload, 1)) (k : vx_NoteN p l e R s m args below meth c H locs cells slots Q (F0 m pc ls rest)) : W p l e R s m args below meth c H locs cells slots Q (F0 m pc ls (.int i :: .null :: rest)) := by
  intro T hT X
  obtain ⟨t, st, q⟩ := k T hT X
  exact ⟨t, X.saloadNull hexec (g := F0 m pc ls (.int i :: .null :: rest)) rfl (rest := rest) rfl (by rw [hb]; exact hdg) t st, q⟩
theorem vx_iastoreN (hexec : p.tables.exec = Jvm.exec) (hb : c.code = cc) {x : Int32} {i : Int32} (hdg : decode cc pc = .ok (.iastore, 1)) (k : vx_NoteN p l e R s m args below meth c H locs cells slots Q (F0 m pc ls rest)) : W p l e R s m args below meth c H locs cells slots Q (F0 m pc ls (.int x :: .int i :: .null :: rest)) := by
  intro T hT X
  obtain ⟨t, st, q⟩ := k T hT X
  exact ⟨t, X.iastoreNull hexec (g := F0 m pc ls (.int x :: .int i :: .null :: rest)) rfl (rest := rest) rfl (by rw [hb]; exact hdg) t st, q⟩
theorem vx_lastoreN (hexec : p.tables.exec = Jvm.exec) (hb : c.code = cc) {x : Int64} {i : Int32} (hdg : decode cc pc = .ok (.lastore, 1)) (k : vx_NoteN p l e R s m args below meth c H locs cells slots Q (F0 m pc ls rest)) : W p l e R s m args below meth c H locs cells slots Q (F0 m pc ls (.long x :: .int i :: .null :: rest)) := by
  intro T hT X
  obtain ⟨t, st, q⟩ := k T hT X
  exact ⟨t, X.lastoreNull hexec (g := F0 m pc ls (.long x :: .int i :: .null :: rest)) rfl (rest := rest) rfl (by rw [hb]; exact hdg) t st, q⟩
theorem vx_fastoreN (hexec : p.tables.exec = Jvm.exec) (hb : c.code = cc) {x : UInt32} {i : Int32} (hdg : decode cc pc = .ok (.fastore, 1)) (k : vx_NoteN p l e R s m args below meth c H locs cells slots Q (F0 m pc ls rest)) : W p l e R s m args below meth c H locs cells slots Q (F0 m pc ls (.float x :: .int i :: .null :: rest)) := by
  intro T hT X
  obtain ⟨t, st, q⟩ := k T hT X
  exact ⟨t, X.fastoreNull hexec (g := F0 m pc ls (.float x :: .int i :: .null :: rest)) rfl (rest := rest) rfl (by rw [hb]; exact hdg) t st, q⟩
theorem vx_dastoreN (hexec : p.tables.exec = Jvm.exec) (hb : c.code = cc) {x : UInt64} {i : Int32} (hdg : decode cc pc = .ok (.dastore, 1)) (k : vx_NoteN p l e R s m args below meth c H locs cells slots Q (F0 m pc ls rest)) : W p l e R s m args below meth c H locs cells slots Q (F0 m pc ls (.double x :: .int i :: .null :: rest)) := by
  intro T hT X
  obtain ⟨t, st, q⟩ := k T hT X
  exact ⟨t, X.dastoreNull hexec (g := F0 m pc ls (.double x :: .int i :: .null :: rest)) rfl (rest := rest) rfl (by rw [hb]; exact hdg) t st, q⟩
theorem vx_bastoreN (hexec : p.tables.exec = Jvm.exec) (hb : c.code = cc) {x : Int32} {i : Int32} (hdg : decode cc pc = .ok (.bastore, 1)) (k : vx_NoteN p l e R s m args below meth c H locs cells slots Q (F0 m pc ls rest)) : W p l e R s m args below meth c H locs cells slots Q (F0 m pc ls (.int x :: .int i :: .null :: rest)) := by
  intro T hT X
  obtain ⟨t, st, q⟩ := k T hT X
  exact ⟨t, X.bastoreNull hexec (g := F0 m pc ls (.int x :: .int i :: .null :: rest)) rfl (rest := rest) rfl (by rw [hb]; exact hdg) t st, q⟩
theorem vx_castoreN (hexec : p.tables.exec = Jvm.exec) (hb : c.code = cc) {x : Int32} {i : Int32} (hdg : decode cc pc = .ok (.castore, 1)) (k : vx_NoteN p l e R s m args below meth c H locs cells slots Q (F0 m pc ls rest)) : W p l e R s m args below meth c H locs cells slots Q (F0 m pc ls (.int x :: .int i :: .null :: rest)) := by
  intro T hT X
  obtain ⟨t, st, q⟩ := k T hT X
  exact ⟨t, X.castoreNull hexec (g := F0 m pc ls (.int x :: .int i :: .null :: rest)) rfl (rest := rest) rfl (by rw [hb]; exact hdg) t st, q⟩
theorem vx_sastoreN (hexec : p.tables.exec = Jvm.exec) (hb : c.code = cc) {x : Int32} {i : Int32} (hdg : decode cc pc = .ok (.sastore, 1)) (k : vx_NoteN p l e R s m args below meth c H locs cells slots Q (F0 m pc ls rest)) : W p l e R s m args below meth c H locs cells slots Q (F0 m pc ls (.int x :: .int i :: .null :: rest)) := by
  intro T hT X
  obtain ⟨t, st, q⟩ := k T hT X
  exact ⟨t, X.sastoreNull hexec (g := F0 m pc ls (.int x :: .int i :: .null :: rest)) rfl (rest := rest) rfl (by rw [hb]; exact hdg) t st, q⟩
theorem vx_invokeN {own C : String} {index maxL : Nat} {y : MethodName} {bytes : ByteArray} {ret : Option FieldType} (hexec : p.tables.exec = Jvm.exec) (hb : c.code = cc) (hown : s.vm.findClass own = some m.cls) (hlink : (Cond.methodLink own index y).before args s = true) (hinst : (Cond.instanceMethod y).before args s = true) (hcode : (Cond.code y bytes maxL ret).before args s = true) (hsel : (Cond.selects C y y).before args s = true)
    (hx : y.cls ≠ "java/lang/invoke/MethodHandle" ∧ y.cls ≠ "java/lang/invoke/VarHandle") {As : List Value} (hlen : (parseMethodDescriptor y.desc).map (fun d => d.parameters.length) = some As.length) (hdg : decode cc pc = .ok (.invokevirtual index, 3))
    (k : vx_NoteN p l e R s m args below meth c H locs cells slots Q (F0 m pc ls rest)) {st0 : List Value} (hst : st0 = As.reverse ++ .null :: rest) : W p l e R s m args below meth c H locs cells slots Q (F0 m pc ls st0) := by
  intro T hT X
  obtain ⟨r0, r, hn, hrm, hstR, hsigR⟩ := va_Decl.of hinst hcode
  obtain ⟨c2, r2, m2, q1, q2, q3, q4, kP, hkP, hkPi⟩ := Cond.selects_spec hsel
  cases hn.symm.trans q3
  have hl9 : As.length = r.sig.parameters.length := by
    rw [hsigR] at hlen
    exact (Option.some.inj hlen).symm
  obtain ⟨vm', X1, st1⟩ := X.invokevirtualNull hexec hown hlink hn hrm hstR hkP hkPi hx (g := F0 m pc ls st0) rfl (argsL := As) (rest := rest) hl9 hst (by rw [hb]; exact hdg)
  obtain ⟨t, st, q⟩ := k (T.setVm vm') hT X1
  exact ⟨t, st1 t st, q⟩
theorem vx_newarrayZ {atype : ArrayType} (hexec : p.tables.exec = Jvm.exec) (hb : c.code = cc) {n : Int32} (h0 : n < 0) (hdg : decode cc pc = .ok (.newarray atype, 2)) (k : ∀ tx : String, tx = toString n → vx_Note p l e R s m args below meth c H locs cells slots Q (F0 m pc ls rest) "java/lang/NegativeArraySizeException" tx) : W p l e R s m args below meth c H locs cells slots Q (F0 m pc ls (.int n :: rest)) := by
  intro T hT X
  obtain ⟨t, st, q⟩ := k _ rfl T hT X
  exact ⟨t, X.newarrayNegative hexec (g := F0 m pc ls (.int n :: rest)) rfl h0 (rest := rest) rfl (by rw [hb]; exact hdg) t st, q⟩
end
end VXM
/-! ===== END ===== -/
end
section
def RX0 : String := "CrowMail$1"
def TX0 : u_T := fun k => match k with
  | _ => ("", "", "", false)
def tyX0 : Nat → FieldType := fun k => match k with
  | _ => .int
theorem nmX0 : ∀ a, a < 0 → ∀ b, b < 0 → a ≠ b → (TX0 a).2.1 ≠ (TX0 b).2.1 := by decide +kernel
theorem tyX0_ok : ∀ k, k < 0 → parseFieldDescriptor (TX0 k).2.2.1 = some (tyX0 k) := by decide +kernel
def RX1 : String := "CrowMail$Command"
def TX1 : u_T := fun k => match k with
  | 0 => ("CrowMail$Command", "form", "LCrowMail$Form;", false)
  | 1 => ("CrowMail$Command", "first", "I", false)
  | _ => ("CrowMail$Command", "second", "I", false)
def tyX1 : Nat → FieldType := fun k => match k with
  | 0 => .object "CrowMail$Form"
  | 1 => .int
  | _ => .int
theorem nmX1 : ∀ a, a < 3 → ∀ b, b < 3 → a ≠ b → (TX1 a).2.1 ≠ (TX1 b).2.1 := by decide +kernel
theorem tyX1_ok : ∀ k, k < 3 → parseFieldDescriptor (TX1 k).2.2.1 = some (tyX1 k) := by decide +kernel
abbrev cX1_init : ByteArray := prog_3_method_1_code
def yX1_init : MethodName := ⟨RX1, "<init>", "()V"⟩
def RX2 : String := "CrowMail$Crow"
def TX2 : u_T := fun k => match k with
  | 0 => ("CrowMail$Crow", "flying", "Z", false)
  | 1 => ("CrowMail$Crow", "message", "I", false)
  | _ => ("CrowMail$Crow", "landsAt", "I", false)
def tyX2 : Nat → FieldType := fun k => match k with
  | 0 => .boolean
  | 1 => .int
  | _ => .int
theorem nmX2 : ∀ a, a < 3 → ∀ b, b < 3 → a ≠ b → (TX2 a).2.1 ≠ (TX2 b).2.1 := by decide +kernel
theorem tyX2_ok : ∀ k, k < 3 → parseFieldDescriptor (TX2 k).2.2.1 = some (tyX2 k) := by decide +kernel
abbrev cX2_init : ByteArray := prog_4_method_1_code
def yX2_init : MethodName := ⟨RX2, "<init>", "()V"⟩
abbrev cX2_copyFrom : ByteArray := prog_4_method_2_code
def yX2_copyFrom : MethodName := ⟨RX2, "copyFrom", "(LCrowMail$Crow;)V"⟩
def RX3 : String := "CrowMail$Form"
def TX3 : u_T := fun k => match k with
  | _ => ("", "", "", false)
def tyX3 : Nat → FieldType := fun k => match k with
  | _ => .int
theorem nmX3 : ∀ a, a < 0 → ∀ b, b < 0 → a ≠ b → (TX3 a).2.1 ≠ (TX3 b).2.1 := by decide +kernel
theorem tyX3_ok : ∀ k, k < 0 → parseFieldDescriptor (TX3 k).2.2.1 = some (tyX3 k) := by decide +kernel
def RX4 : String := "CrowMail$History"
def TX4 : u_T := fun k => match k with
  | 0 => ("CrowMail$History", "ring", "[LCrowMail$State;", true)
  | 1 => ("CrowMail$History", "next", "I", false)
  | _ => ("CrowMail$History", "count", "I", false)
def tyX4 : Nat → FieldType := fun k => match k with
  | 0 => .array (.object "CrowMail$State")
  | 1 => .int
  | _ => .int
theorem nmX4 : ∀ a, a < 3 → ∀ b, b < 3 → a ≠ b → (TX4 a).2.1 ≠ (TX4 b).2.1 := by decide +kernel
theorem tyX4_ok : ∀ k, k < 3 → parseFieldDescriptor (TX4 k).2.2.1 = some (tyX4 k) := by decide +kernel
abbrev cX4_init : ByteArray := prog_6_method_1_code
def yX4_init : MethodName := ⟨RX4, "<init>", "()V"⟩
abbrev cX4_remember : ByteArray := prog_6_method_2_code
def yX4_remember : MethodName := ⟨RX4, "remember", "(LCrowMail$State;)V"⟩
abbrev cX4_takeBackInto : ByteArray := prog_6_method_3_code
def yX4_takeBackInto : MethodName := ⟨RX4, "takeBackInto", "(LCrowMail$State;)V"⟩
def RX5 : String := "CrowMail$Message"
def TX5 : u_T := fun k => match k with
  | 0 => ("CrowMail$Message", "id", "I", false)
  | 1 => ("CrowMail$Message", "nest", "I", false)
  | 2 => ("CrowMail$Message", "key", "I", false)
  | 3 => ("CrowMail$Message", "attempts", "I", false)
  | 4 => ("CrowMail$Message", "status", "C", false)
  | _ => ("CrowMail$Message", "wakesAt", "I", false)
def tyX5 : Nat → FieldType := fun k => match k with
  | 0 => .int
  | 1 => .int
  | 2 => .int
  | 3 => .int
  | 4 => .char
  | _ => .int
theorem nmX5 : ∀ a, a < 6 → ∀ b, b < 6 → a ≠ b → (TX5 a).2.1 ≠ (TX5 b).2.1 := by decide +kernel
theorem tyX5_ok : ∀ k, k < 6 → parseFieldDescriptor (TX5 k).2.2.1 = some (tyX5 k) := by decide +kernel
abbrev cX5_init : ByteArray := prog_7_method_1_code
def yX5_init : MethodName := ⟨RX5, "<init>", "()V"⟩
abbrev cX5_write : ByteArray := prog_7_method_2_code
def yX5_write : MethodName := ⟨RX5, "write", "(III)V"⟩
abbrev cX5_copyFrom : ByteArray := prog_7_method_3_code
def yX5_copyFrom : MethodName := ⟨RX5, "copyFrom", "(LCrowMail$Message;)V"⟩
def RX6 : String := "CrowMail$Nest"
def TX6 : u_T := fun k => match k with
  | 0 => ("CrowMail$Nest", "inbox", "[I", true)
  | 1 => ("CrowMail$Nest", "keys", "[I", true)
  | 2 => ("CrowMail$Nest", "distance", "I", false)
  | 3 => ("CrowMail$Nest", "loss", "I", false)
  | 4 => ("CrowMail$Nest", "deliveries", "I", false)
  | 5 => ("CrowMail$Nest", "inboxSize", "I", false)
  | _ => ("CrowMail$Nest", "keyCount", "I", false)
def tyX6 : Nat → FieldType := fun k => match k with
  | 0 => .array .int
  | 1 => .array .int
  | 2 => .int
  | 3 => .int
  | 4 => .int
  | 5 => .int
  | _ => .int
theorem nmX6 : ∀ a, a < 7 → ∀ b, b < 7 → a ≠ b → (TX6 a).2.1 ≠ (TX6 b).2.1 := by decide +kernel
theorem tyX6_ok : ∀ k, k < 7 → parseFieldDescriptor (TX6 k).2.2.1 = some (tyX6 k) := by decide +kernel
abbrev cX6_init : ByteArray := prog_8_method_1_code
def yX6_init : MethodName := ⟨RX6, "<init>", "()V"⟩
abbrev cX6_open : ByteArray := prog_8_method_2_code
def yX6_open : MethodName := ⟨RX6, "open", "(II)V"⟩
abbrev cX6_copyFrom : ByteArray := prog_8_method_3_code
def yX6_copyFrom : MethodName := ⟨RX6, "copyFrom", "(LCrowMail$Nest;)V"⟩
abbrev cX6_hasRoom : ByteArray := prog_8_method_4_code
def yX6_hasRoom : MethodName := ⟨RX6, "hasRoom", "()Z"⟩
abbrev cX6_knows : ByteArray := prog_8_method_5_code
def yX6_knows : MethodName := ⟨RX6, "knows", "(I)Z"⟩
abbrev cX6_accept : ByteArray := prog_8_method_6_code
def yX6_accept : MethodName := ⟨RX6, "accept", "(II)V"⟩
abbrev cX6_learn : ByteArray := prog_8_method_7_code
def yX6_learn : MethodName := ⟨RX6, "learn", "(I)V"⟩
abbrev cX6_takeFirst : ByteArray := prog_8_method_8_code
def yX6_takeFirst : MethodName := ⟨RX6, "takeFirst", "()I"⟩
def RX7 : String := "CrowMail$Script"
def TX7 : u_T := fun k => match k with
  | 0 => ("CrowMail$Script", "text", "[C", true)
  | 1 => ("CrowMail$Script", "commands", "[LCrowMail$Command;", true)
  | 2 => ("CrowMail$Script", "length", "I", false)
  | 3 => ("CrowMail$Script", "commandCount", "I", false)
  | 4 => ("CrowMail$Script", "reached", "I", false)
  | 5 => ("CrowMail$Script", "numbersRead", "I", false)
  | 6 => ("CrowMail$Script", "firstNumber", "I", false)
  | 7 => ("CrowMail$Script", "secondNumber", "I", false)
  | _ => ("CrowMail$Script", "matched", "Z", false)
def tyX7 : Nat → FieldType := fun k => match k with
  | 0 => .array .char
  | 1 => .array (.object "CrowMail$Command")
  | 2 => .int
  | 3 => .int
  | 4 => .int
  | 5 => .int
  | 6 => .int
  | 7 => .int
  | _ => .boolean
theorem nmX7 : ∀ a, a < 9 → ∀ b, b < 9 → a ≠ b → (TX7 a).2.1 ≠ (TX7 b).2.1 := by decide +kernel
theorem tyX7_ok : ∀ k, k < 9 → parseFieldDescriptor (TX7 k).2.2.1 = some (tyX7 k) := by decide +kernel
abbrev cX7_init : ByteArray := prog_9_method_1_code
def yX7_init : MethodName := ⟨RX7, "<init>", "()V"⟩
abbrev cX7_append : ByteArray := prog_9_method_2_code
def yX7_append : MethodName := ⟨RX7, "append", "(C)I"⟩
abbrev cX7_split : ByteArray := prog_9_method_3_code
def yX7_split : MethodName := ⟨RX7, "split", "()Z"⟩
abbrev cX7_readCommand : ByteArray := prog_9_method_4_code
def yX7_readCommand : MethodName := ⟨RX7, "readCommand", "(LCrowMail$Command;I)Z"⟩
abbrev cX7_match : ByteArray := prog_9_method_5_code
def yX7_match : MethodName := ⟨RX7, "match", "(Ljava/lang/String;I)I"⟩
abbrev cX7_widthOf : ByteArray := prog_9_method_6_code
def yX7_widthOf : MethodName := ⟨RX7, "widthOf", "(CI)I"⟩
abbrev cX7_readNumber : ByteArray := prog_9_method_7_code
def yX7_readNumber : MethodName := ⟨RX7, "readNumber", "(II)I"⟩
abbrev cX7_isDigitAt : ByteArray := prog_9_method_8_code
def yX7_isDigitAt : MethodName := ⟨RX7, "isDigitAt", "(I)Z"⟩
def RX8 : String := "CrowMail$State"
def TX8 : u_T := fun k => match k with
  | 0 => ("CrowMail$State", "nests", "[LCrowMail$Nest;", true)
  | 1 => ("CrowMail$State", "crows", "[LCrowMail$Crow;", true)
  | 2 => ("CrowMail$State", "messages", "[LCrowMail$Message;", true)
  | 3 => ("CrowMail$State", "totals", "LCrowMail$Totals;", true)
  | 4 => ("CrowMail$State", "nestCount", "I", false)
  | 5 => ("CrowMail$State", "crowCount", "I", false)
  | 6 => ("CrowMail$State", "messageCount", "I", false)
  | 7 => ("CrowMail$State", "time", "I", false)
  | _ => ("CrowMail$State", "wind", "I", false)
def tyX8 : Nat → FieldType := fun k => match k with
  | 0 => .array (.object "CrowMail$Nest")
  | 1 => .array (.object "CrowMail$Crow")
  | 2 => .array (.object "CrowMail$Message")
  | 3 => .object "CrowMail$Totals"
  | 4 => .int
  | 5 => .int
  | 6 => .int
  | 7 => .int
  | _ => .int
theorem nmX8 : ∀ a, a < 9 → ∀ b, b < 9 → a ≠ b → (TX8 a).2.1 ≠ (TX8 b).2.1 := by decide +kernel
theorem tyX8_ok : ∀ k, k < 9 → parseFieldDescriptor (TX8 k).2.2.1 = some (tyX8 k) := by decide +kernel
abbrev cX8_init : ByteArray := prog_10_method_1_code
def yX8_init : MethodName := ⟨RX8, "<init>", "()V"⟩
abbrev cX8_copyFrom : ByteArray := prog_10_method_2_code
def yX8_copyFrom : MethodName := ⟨RX8, "copyFrom", "(LCrowMail$State;)V"⟩
abbrev cX8_perform : ByteArray := prog_10_method_3_code
def yX8_perform : MethodName := ⟨RX8, "perform", "(LCrowMail$Command;)I"⟩
abbrev cX8_openNest : ByteArray := prog_10_method_4_code
def yX8_openNest : MethodName := ⟨RX8, "openNest", "(II)I"⟩
abbrev cX8_hireCrow : ByteArray := prog_10_method_5_code
def yX8_hireCrow : MethodName := ⟨RX8, "hireCrow", "()I"⟩
abbrev cX8_post : ByteArray := prog_10_method_6_code
def yX8_post : MethodName := ⟨RX8, "post", "(II)I"⟩
abbrev cX8_handOver : ByteArray := prog_10_method_7_code
def yX8_handOver : MethodName := ⟨RX8, "handOver", "(I)I"⟩
abbrev cX8_withdraw : ByteArray := prog_10_method_8_code
def yX8_withdraw : MethodName := ⟨RX8, "withdraw", "(I)I"⟩
abbrev cX8_turnWind : ByteArray := prog_10_method_9_code
def yX8_turnWind : MethodName := ⟨RX8, "turnWind", "(I)I"⟩
abbrev cX8_clearKeys : ByteArray := prog_10_method_10_code
def yX8_clearKeys : MethodName := ⟨RX8, "clearKeys", "(I)I"⟩
abbrev cX8_pass : ByteArray := prog_10_method_11_code
def yX8_pass : MethodName := ⟨RX8, "pass", "(I)I"⟩
abbrev cX8_landCrows : ByteArray := prog_10_method_12_code
def yX8_landCrows : MethodName := ⟨RX8, "landCrows", "()V"⟩
abbrev cX8_wakeMessages : ByteArray := prog_10_method_13_code
def yX8_wakeMessages : MethodName := ⟨RX8, "wakeMessages", "()V"⟩
abbrev cX8_sendCrows : ByteArray := prog_10_method_14_code
def yX8_sendCrows : MethodName := ⟨RX8, "sendCrows", "()V"⟩
abbrev cX8_flightLength : ByteArray := prog_10_method_15_code
def yX8_flightLength : MethodName := ⟨RX8, "flightLength", "(LCrowMail$Message;)I"⟩
abbrev cX8_arrive : ByteArray := prog_10_method_16_code
def yX8_arrive : MethodName := ⟨RX8, "arrive", "(I)V"⟩
abbrev cX8_isLost : ByteArray := prog_10_method_17_code
def yX8_isLost : MethodName := ⟨RX8, "isLost", "(LCrowMail$Message;I)Z"⟩
abbrev cX8_remove : ByteArray := prog_10_method_18_code
def yX8_remove : MethodName := ⟨RX8, "remove", "(I)V"⟩
abbrev cX8_rowOf : ByteArray := prog_10_method_19_code
def yX8_rowOf : MethodName := ⟨RX8, "rowOf", "(I)I"⟩
abbrev cX8_nestAt : ByteArray := prog_10_method_20_code
def yX8_nestAt : MethodName := ⟨RX8, "nestAt", "(I)LCrowMail$Nest;"⟩
abbrev cX8_crowAt : ByteArray := prog_10_method_21_code
def yX8_crowAt : MethodName := ⟨RX8, "crowAt", "(I)LCrowMail$Crow;"⟩
abbrev cX8_messageWith : ByteArray := prog_10_method_22_code
def yX8_messageWith : MethodName := ⟨RX8, "messageWith", "(I)LCrowMail$Message;"⟩
abbrev cX8_waitingAtRank : ByteArray := prog_10_method_23_code
def yX8_waitingAtRank : MethodName := ⟨RX8, "waitingAtRank", "(I)LCrowMail$Message;"⟩
abbrev cX8_nestAtRank : ByteArray := prog_10_method_24_code
def yX8_nestAtRank : MethodName := ⟨RX8, "nestAtRank", "(I)I"⟩
abbrev cX8_ranksBefore : ByteArray := prog_10_method_25_code
def yX8_ranksBefore : MethodName := ⟨RX8, "ranksBefore", "(II)Z"⟩
abbrev cX8_sumOfAttempts : ByteArray := prog_10_method_26_code
def yX8_sumOfAttempts : MethodName := ⟨RX8, "sumOfAttempts", "()I"⟩
abbrev cX8_messagesWithStatus : ByteArray := prog_10_method_27_code
def yX8_messagesWithStatus : MethodName := ⟨RX8, "messagesWithStatus", "(C)I"⟩
abbrev cX8_flyingCrows : ByteArray := prog_10_method_28_code
def yX8_flyingCrows : MethodName := ⟨RX8, "flyingCrows", "()I"⟩
abbrev cX8_messagesInInboxes : ByteArray := prog_10_method_29_code
def yX8_messagesInInboxes : MethodName := ⟨RX8, "messagesInInboxes", "()I"⟩
def RX9 : String := "CrowMail$Totals"
def TX9 : u_T := fun k => match k with
  | 0 => ("CrowMail$Totals", "published", "I", false)
  | 1 => ("CrowMail$Totals", "delivered", "I", false)
  | 2 => ("CrowMail$Totals", "read", "I", false)
  | 3 => ("CrowMail$Totals", "duplicates", "I", false)
  | 4 => ("CrowMail$Totals", "failed", "I", false)
  | 5 => ("CrowMail$Totals", "cancelled", "I", false)
  | _ => ("CrowMail$Totals", "arrivals", "I", false)
def tyX9 : Nat → FieldType := fun k => match k with
  | 0 => .int
  | 1 => .int
  | 2 => .int
  | 3 => .int
  | 4 => .int
  | 5 => .int
  | _ => .int
theorem nmX9 : ∀ a, a < 7 → ∀ b, b < 7 → a ≠ b → (TX9 a).2.1 ≠ (TX9 b).2.1 := by decide +kernel
theorem tyX9_ok : ∀ k, k < 7 → parseFieldDescriptor (TX9 k).2.2.1 = some (tyX9 k) := by decide +kernel
abbrev cX9_init : ByteArray := prog_11_method_1_code
def yX9_init : MethodName := ⟨RX9, "<init>", "()V"⟩
abbrev cX9_existing : ByteArray := prog_11_method_2_code
def yX9_existing : MethodName := ⟨RX9, "existing", "()I"⟩
abbrev cX9_copyFrom : ByteArray := prog_11_method_3_code
def yX9_copyFrom : MethodName := ⟨RX9, "copyFrom", "(LCrowMail$Totals;)V"⟩
def RX10 : String := "CrowMail"
def TX10 : u_T := fun k => match k with
  | 0 => ("CrowMail", "state", "LCrowMail$State;", true)
  | 1 => ("CrowMail", "before", "LCrowMail$State;", true)
  | 2 => ("CrowMail", "foreseen", "LCrowMail$State;", true)
  | 3 => ("CrowMail", "snapshot", "LCrowMail$State;", true)
  | 4 => ("CrowMail", "history", "LCrowMail$History;", true)
  | 5 => ("CrowMail", "script", "LCrowMail$Script;", true)
  | 6 => ("CrowMail", "output", "Ljava/lang/StringBuilder;", true)
  | 7 => ("CrowMail", "hasSnapshot", "Z", false)
  | 8 => ("CrowMail", "latestErrorPosition", "I", false)
  | _ => ("CrowMail", "latestFailedCommand", "I", false)
def tyX10 : Nat → FieldType := fun k => match k with
  | 0 => .object "CrowMail$State"
  | 1 => .object "CrowMail$State"
  | 2 => .object "CrowMail$State"
  | 3 => .object "CrowMail$State"
  | 4 => .object "CrowMail$History"
  | 5 => .object "CrowMail$Script"
  | 6 => .object "java/lang/StringBuilder"
  | 7 => .boolean
  | 8 => .int
  | _ => .int
theorem nmX10 : ∀ a, a < 10 → ∀ b, b < 10 → a ≠ b → (TX10 a).2.1 ≠ (TX10 b).2.1 := by decide +kernel
theorem tyX10_ok : ∀ k, k < 10 → parseFieldDescriptor (TX10 k).2.2.1 = some (tyX10 k) := by decide +kernel
abbrev cX10_init : ByteArray := prog_1_method_1_code
def yX10_init : MethodName := ⟨RX10, "<init>", "()V"⟩
abbrev cX10_addNest : ByteArray := prog_1_method_2_code
def yX10_addNest : MethodName := ⟨RX10, "addNest", "(II)I"⟩
abbrev cX10_addCrow : ByteArray := prog_1_method_3_code
def yX10_addCrow : MethodName := ⟨RX10, "addCrow", "()I"⟩
abbrev cX10_publish : ByteArray := prog_1_method_4_code
def yX10_publish : MethodName := ⟨RX10, "publish", "(II)I"⟩
abbrev cX10_read : ByteArray := prog_1_method_5_code
def yX10_read : MethodName := ⟨RX10, "read", "(I)I"⟩
abbrev cX10_cancel : ByteArray := prog_1_method_6_code
def yX10_cancel : MethodName := ⟨RX10, "cancel", "(I)I"⟩
abbrev cX10_setWind : ByteArray := prog_1_method_7_code
def yX10_setWind : MethodName := ⟨RX10, "setWind", "(I)I"⟩
abbrev cX10_forget : ByteArray := prog_1_method_8_code
def yX10_forget : MethodName := ⟨RX10, "forget", "(I)I"⟩
abbrev cX10_advance : ByteArray := prog_1_method_9_code
def yX10_advance : MethodName := ⟨RX10, "advance", "(I)I"⟩
abbrev cX10_settle : ByteArray := prog_1_method_10_code
def yX10_settle : MethodName := ⟨RX10, "settle", "(I)I"⟩
abbrev cX10_nestCount : ByteArray := prog_1_method_11_code
def yX10_nestCount : MethodName := ⟨RX10, "nestCount", "()I"⟩
abbrev cX10_distance : ByteArray := prog_1_method_12_code
def yX10_distance : MethodName := ⟨RX10, "distance", "(I)I"⟩
abbrev cX10_loss : ByteArray := prog_1_method_13_code
def yX10_loss : MethodName := ⟨RX10, "loss", "(I)I"⟩
abbrev cX10_inboxSize : ByteArray := prog_1_method_14_code
def yX10_inboxSize : MethodName := ⟨RX10, "inboxSize", "(I)I"⟩
abbrev cX10_inboxMessage : ByteArray := prog_1_method_15_code
def yX10_inboxMessage : MethodName := ⟨RX10, "inboxMessage", "(II)I"⟩
abbrev cX10_remembers : ByteArray := prog_1_method_16_code
def yX10_remembers : MethodName := ⟨RX10, "remembers", "(II)Z"⟩
abbrev cX10_rememberedCount : ByteArray := prog_1_method_17_code
def yX10_rememberedCount : MethodName := ⟨RX10, "rememberedCount", "(I)I"⟩
abbrev cX10_nestByDeliveries : ByteArray := prog_1_method_18_code
def yX10_nestByDeliveries : MethodName := ⟨RX10, "nestByDeliveries", "(I)I"⟩
abbrev cX10_existingNest : ByteArray := prog_1_method_19_code
def yX10_existingNest : MethodName := ⟨RX10, "existingNest", "(I)LCrowMail$Nest;"⟩
abbrev cX10_crowCount : ByteArray := prog_1_method_20_code
def yX10_crowCount : MethodName := ⟨RX10, "crowCount", "()I"⟩
abbrev cX10_isFlying : ByteArray := prog_1_method_21_code
def yX10_isFlying : MethodName := ⟨RX10, "isFlying", "(I)Z"⟩
abbrev cX10_carriedMessage : ByteArray := prog_1_method_22_code
def yX10_carriedMessage : MethodName := ⟨RX10, "carriedMessage", "(I)I"⟩
abbrev cX10_flightMinutes : ByteArray := prog_1_method_23_code
def yX10_flightMinutes : MethodName := ⟨RX10, "flightMinutes", "(I)I"⟩
abbrev cX10_existingCrow : ByteArray := prog_1_method_24_code
def yX10_existingCrow : MethodName := ⟨RX10, "existingCrow", "(I)LCrowMail$Crow;"⟩
abbrev cX10_messageCount : ByteArray := prog_1_method_25_code
def yX10_messageCount : MethodName := ⟨RX10, "messageCount", "()I"⟩
abbrev cX10_messageAt : ByteArray := prog_1_method_26_code
def yX10_messageAt : MethodName := ⟨RX10, "messageAt", "(I)I"⟩
abbrev cX10_nestOf : ByteArray := prog_1_method_27_code
def yX10_nestOf : MethodName := ⟨RX10, "nestOf", "(I)I"⟩
abbrev cX10_keyOf : ByteArray := prog_1_method_28_code
def yX10_keyOf : MethodName := ⟨RX10, "keyOf", "(I)I"⟩
abbrev cX10_attempts : ByteArray := prog_1_method_29_code
def yX10_attempts : MethodName := ⟨RX10, "attempts", "(I)I"⟩
abbrev cX10_status : ByteArray := prog_1_method_30_code
def yX10_status : MethodName := ⟨RX10, "status", "(I)C"⟩
abbrev cX10_napMinutes : ByteArray := prog_1_method_31_code
def yX10_napMinutes : MethodName := ⟨RX10, "napMinutes", "(I)I"⟩
abbrev cX10_waitingMessage : ByteArray := prog_1_method_32_code
def yX10_waitingMessage : MethodName := ⟨RX10, "waitingMessage", "(I)I"⟩
abbrev cX10_wouldBeLost : ByteArray := prog_1_method_33_code
def yX10_wouldBeLost : MethodName := ⟨RX10, "wouldBeLost", "(I)Z"⟩
abbrev cX10_napLength : ByteArray := prog_1_method_34_code
def yX10_napLength : MethodName := ⟨RX10, "napLength", "(I)J"⟩
abbrev cX10_napLengthByDoubling : ByteArray := prog_1_method_35_code
def yX10_napLengthByDoubling : MethodName := ⟨RX10, "napLengthByDoubling", "(I)J"⟩
abbrev cX10_minutesUntilDelivered : ByteArray := prog_1_method_36_code
def yX10_minutesUntilDelivered : MethodName := ⟨RX10, "minutesUntilDelivered", "(I)I"⟩
abbrev cX10_existingMessage : ByteArray := prog_1_method_37_code
def yX10_existingMessage : MethodName := ⟨RX10, "existingMessage", "(I)LCrowMail$Message;"⟩
abbrev cX10_foreseenMinutes : ByteArray := prog_1_method_38_code
def yX10_foreseenMinutes : MethodName := ⟨RX10, "foreseenMinutes", "(I)I"⟩
abbrev cX10_shiftedNap : ByteArray := prog_1_method_39_code
def yX10_shiftedNap : MethodName := ⟨RX10, "shiftedNap", "(I)J"⟩
abbrev cX10_doubledNap : ByteArray := prog_1_method_40_code
def yX10_doubledNap : MethodName := ⟨RX10, "doubledNap", "(I)J"⟩
abbrev cX10_time : ByteArray := prog_1_method_41_code
def yX10_time : MethodName := ⟨RX10, "time", "()I"⟩
abbrev cX10_wind : ByteArray := prog_1_method_42_code
def yX10_wind : MethodName := ⟨RX10, "wind", "()I"⟩
abbrev cX10_publishedTotal : ByteArray := prog_1_method_43_code
def yX10_publishedTotal : MethodName := ⟨RX10, "publishedTotal", "()I"⟩
abbrev cX10_deliveredTotal : ByteArray := prog_1_method_44_code
def yX10_deliveredTotal : MethodName := ⟨RX10, "deliveredTotal", "()I"⟩
abbrev cX10_readTotal : ByteArray := prog_1_method_45_code
def yX10_readTotal : MethodName := ⟨RX10, "readTotal", "()I"⟩
abbrev cX10_duplicateTotal : ByteArray := prog_1_method_46_code
def yX10_duplicateTotal : MethodName := ⟨RX10, "duplicateTotal", "()I"⟩
abbrev cX10_failedTotal : ByteArray := prog_1_method_47_code
def yX10_failedTotal : MethodName := ⟨RX10, "failedTotal", "()I"⟩
abbrev cX10_arrivalTotal : ByteArray := prog_1_method_48_code
def yX10_arrivalTotal : MethodName := ⟨RX10, "arrivalTotal", "()I"⟩
abbrev cX10_messageCountByTotals : ByteArray := prog_1_method_49_code
def yX10_messageCountByTotals : MethodName := ⟨RX10, "messageCountByTotals", "()I"⟩
abbrev cX10_meanAttempts : ByteArray := prog_1_method_50_code
def yX10_meanAttempts : MethodName := ⟨RX10, "meanAttempts", "()D"⟩
abbrev cX10_meanAttemptsBits : ByteArray := prog_1_method_51_code
def yX10_meanAttemptsBits : MethodName := ⟨RX10, "meanAttemptsBits", "()J"⟩
abbrev cX10_deliveryRate : ByteArray := prog_1_method_52_code
def yX10_deliveryRate : MethodName := ⟨RX10, "deliveryRate", "()F"⟩
abbrev cX10_deliveryRateBits : ByteArray := prog_1_method_53_code
def yX10_deliveryRateBits : MethodName := ⟨RX10, "deliveryRateBits", "()I"⟩
abbrev cX10_isConsistent : ByteArray := prog_1_method_54_code
def yX10_isConsistent : MethodName := ⟨RX10, "isConsistent", "()Z"⟩
abbrev cX10_meanOfAttempts : ByteArray := prog_1_method_55_code
def yX10_meanOfAttempts : MethodName := ⟨RX10, "meanOfAttempts", "()D"⟩
abbrev cX10_rateOfDeliveries : ByteArray := prog_1_method_56_code
def yX10_rateOfDeliveries : MethodName := ⟨RX10, "rateOfDeliveries", "()F"⟩
abbrev cX10_bitsOf : ByteArray := prog_1_method_57_code
def yX10_bitsOf : MethodName := ⟨RX10, "bitsOf", "(DII)J"⟩
abbrev cX10_napLengthsAgree : ByteArray := prog_1_method_58_code
def yX10_napLengthsAgree : MethodName := ⟨RX10, "napLengthsAgree", "()Z"⟩
abbrev cX10_type : ByteArray := prog_1_method_62_code
def yX10_type : MethodName := ⟨RX10, "type", "(C)I"⟩
abbrev cX10_runScript : ByteArray := prog_1_method_63_code
def yX10_runScript : MethodName := ⟨RX10, "runScript", "()I"⟩
abbrev cX10_undo : ByteArray := prog_1_method_66_code
def yX10_undo : MethodName := ⟨RX10, "undo", "()I"⟩
abbrev cX10_save : ByteArray := prog_1_method_67_code
def yX10_save : MethodName := ⟨RX10, "save", "()I"⟩
abbrev cX10_restore : ByteArray := prog_1_method_68_code
def yX10_restore : MethodName := ⟨RX10, "restore", "()I"⟩
def RX11 : String := "CrowMailModel"
def TX11 : u_T := fun k => match k with
  | _ => ("", "", "", false)
def tyX11 : Nat → FieldType := fun k => match k with
  | _ => .int
theorem nmX11 : ∀ a, a < 0 → ∀ b, b < 0 → a ≠ b → (TX11 a).2.1 ≠ (TX11 b).2.1 := by decide +kernel
theorem tyX11_ok : ∀ k, k < 0 → parseFieldDescriptor (TX11 k).2.2.1 = some (tyX11 k) := by decide +kernel
def RJx145de : String := "java/io/Serializable"
def TJx145de : u_T := fun k => match k with
  | _ => ("", "", "", false)
def tyJx145de : Nat → FieldType := fun k => match k with
  | _ => .int
theorem nmJx145de : ∀ a, a < 0 → ∀ b, b < 0 → a ≠ b → (TJx145de a).2.1 ≠ (TJx145de b).2.1 := by decide +kernel
theorem tyJx145de_ok : ∀ k, k < 0 → parseFieldDescriptor (TJx145de k).2.2.1 = some (tyJx145de k) := by decide +kernel
def RJ5 : String := "java/lang/AbstractStringBuilder"
def TJ5 : u_T := fun k => match k with
  | _ => ("", "", "", false)
def tyJ5 : Nat → FieldType := fun k => match k with
  | _ => .int
theorem nmJ5 : ∀ a, a < 0 → ∀ b, b < 0 → a ≠ b → (TJ5 a).2.1 ≠ (TJ5 b).2.1 := by decide +kernel
theorem tyJ5_ok : ∀ k, k < 0 → parseFieldDescriptor (TJ5 k).2.2.1 = some (tyJ5 k) := by decide +kernel
abbrev cJ5_init_d00df : ByteArray := prog_15_method_2_code
def yJ5_init_d00df : MethodName := ⟨RJ5, "<init>", "(I)V"⟩
abbrev cJ5_length_8abf5 : ByteArray := prog_15_method_6_code
def yJ5_length_8abf5 : MethodName := ⟨RJ5, "length", "()I"⟩
abbrev cJ5_ensureCapacityInternal_d00df : ByteArray := prog_15_method_9_code
def yJ5_ensureCapacityInternal_d00df : MethodName := ⟨RJ5, "ensureCapacityInternal", "(I)V"⟩
abbrev cJ5_newCapacity_0f7a4 : ByteArray := prog_15_method_10_code
def yJ5_newCapacity_0f7a4 : MethodName := ⟨RJ5, "newCapacity", "(I)I"⟩
abbrev cJ5_inflate_da8c8 : ByteArray := prog_15_method_11_code
def yJ5_inflate_da8c8 : MethodName := ⟨RJ5, "inflate", "()V"⟩
abbrev cJ5_append_cf1ce : ByteArray := prog_15_method_22_code
def yJ5_append_cf1ce : MethodName := ⟨RJ5, "append", "(Ljava/lang/String;)Ljava/lang/AbstractStringBuilder;"⟩
abbrev cJ5_appendNull_278bc : ByteArray := prog_15_method_26_code
def yJ5_appendNull_278bc : MethodName := ⟨RJ5, "appendNull", "()Ljava/lang/AbstractStringBuilder;"⟩
abbrev cJ5_append_c97b9 : ByteArray := prog_15_method_32_code
def yJ5_append_c97b9 : MethodName := ⟨RJ5, "append", "(I)Ljava/lang/AbstractStringBuilder;"⟩
abbrev cJ5_getValue_6d5f1 : ByteArray := prog_15_method_64_code
def yJ5_getValue_6d5f1 : MethodName := ⟨RJ5, "getValue", "()[B"⟩
abbrev cJ5_isLatin1_aae02 : ByteArray := prog_15_method_68_code
def yJ5_isLatin1_aae02 : MethodName := ⟨RJ5, "isLatin1", "()Z"⟩
abbrev cJ5_inflateIfNeededFor_a7421 : ByteArray := prog_15_method_71_code
def yJ5_inflateIfNeededFor_a7421 : MethodName := ⟨RJ5, "inflateIfNeededFor", "(Ljava/lang/String;)V"⟩
abbrev cJ5_putStringAt_47b60 : ByteArray := prog_15_method_73_code
def yJ5_putStringAt_47b60 : MethodName := ⟨RJ5, "putStringAt", "(ILjava/lang/String;)V"⟩
def RJx2cfe8 : String := "java/lang/Appendable"
def TJx2cfe8 : u_T := fun k => match k with
  | _ => ("", "", "", false)
def tyJx2cfe8 : Nat → FieldType := fun k => match k with
  | _ => .int
theorem nmJx2cfe8 : ∀ a, a < 0 → ∀ b, b < 0 → a ≠ b → (TJx2cfe8 a).2.1 ≠ (TJx2cfe8 b).2.1 := by decide +kernel
theorem tyJx2cfe8_ok : ∀ k, k < 0 → parseFieldDescriptor (TJx2cfe8 k).2.2.1 = some (tyJx2cfe8 k) := by decide +kernel
def RJx00060 : String := "java/lang/ArrayIndexOutOfBoundsException"
def TJx00060 : u_T := fun k => match k with
  | 0 => ("java/lang/Throwable", "backtrace", "Ljava/lang/Object;", false)
  | 1 => ("java/lang/Throwable", "detailMessage", "Ljava/lang/String;", false)
  | 2 => ("java/lang/Throwable", "cause", "Ljava/lang/Throwable;", false)
  | 3 => ("java/lang/Throwable", "stackTrace", "[Ljava/lang/StackTraceElement;", false)
  | 4 => ("java/lang/Throwable", "depth", "I", false)
  | _ => ("java/lang/Throwable", "suppressedExceptions", "Ljava/util/List;", false)
def tyJx00060 : Nat → FieldType := fun k => match k with
  | 0 => .object "java/lang/Object"
  | 1 => .object "java/lang/String"
  | 2 => .object "java/lang/Throwable"
  | 3 => .array (.object "java/lang/StackTraceElement")
  | 4 => .int
  | _ => .object "java/util/List"
theorem nmJx00060 : ∀ a, a < 6 → ∀ b, b < 6 → a ≠ b → (TJx00060 a).2.1 ≠ (TJx00060 b).2.1 := by decide +kernel
theorem tyJx00060_ok : ∀ k, k < 6 → parseFieldDescriptor (TJx00060 k).2.2.1 = some (tyJx00060 k) := by decide +kernel
abbrev cJx00060_init_a7421 : ByteArray := prog_18_method_2_code
def yJx00060_init_a7421 : MethodName := ⟨RJx00060, "<init>", "(Ljava/lang/String;)V"⟩
def RJx9f9b0 : String := "java/lang/CharSequence"
def TJx9f9b0 : u_T := fun k => match k with
  | _ => ("", "", "", false)
def tyJx9f9b0 : Nat → FieldType := fun k => match k with
  | _ => .int
theorem nmJx9f9b0 : ∀ a, a < 0 → ∀ b, b < 0 → a ≠ b → (TJx9f9b0 a).2.1 ≠ (TJx9f9b0 b).2.1 := by decide +kernel
theorem tyJx9f9b0_ok : ∀ k, k < 0 → parseFieldDescriptor (TJx9f9b0 k).2.2.1 = some (tyJx9f9b0 k) := by decide +kernel
def RJx8e188 : String := "java/lang/Cloneable"
def TJx8e188 : u_T := fun k => match k with
  | _ => ("", "", "", false)
def tyJx8e188 : Nat → FieldType := fun k => match k with
  | _ => .int
theorem nmJx8e188 : ∀ a, a < 0 → ∀ b, b < 0 → a ≠ b → (TJx8e188 a).2.1 ≠ (TJx8e188 b).2.1 := by decide +kernel
theorem tyJx8e188_ok : ∀ k, k < 0 → parseFieldDescriptor (TJx8e188 k).2.2.1 = some (tyJx8e188 k) := by decide +kernel
def RJxb160c : String := "java/lang/Comparable"
def TJxb160c : u_T := fun k => match k with
  | _ => ("", "", "", false)
def tyJxb160c : Nat → FieldType := fun k => match k with
  | _ => .int
theorem nmJxb160c : ∀ a, a < 0 → ∀ b, b < 0 → a ≠ b → (TJxb160c a).2.1 ≠ (TJxb160c b).2.1 := by decide +kernel
theorem tyJxb160c_ok : ∀ k, k < 0 → parseFieldDescriptor (TJxb160c k).2.2.1 = some (tyJxb160c k) := by decide +kernel
def RJxe99ae : String := "java/lang/Double"
def TJxe99ae : u_T := fun k => match k with
  | _ => ("", "", "", false)
def tyJxe99ae : Nat → FieldType := fun k => match k with
  | _ => .int
theorem nmJxe99ae : ∀ a, a < 0 → ∀ b, b < 0 → a ≠ b → (TJxe99ae a).2.1 ≠ (TJxe99ae b).2.1 := by decide +kernel
theorem tyJxe99ae_ok : ∀ k, k < 0 → parseFieldDescriptor (TJxe99ae k).2.2.1 = some (tyJxe99ae k) := by decide +kernel
abbrev cJxe99ae_isNaN_b9ae7 : ByteArray := prog_22_method_6_code
def yJxe99ae_isNaN_b9ae7 : MethodName := ⟨RJxe99ae, "isNaN", "(D)Z"⟩
abbrev cJxe99ae_doubleToLongBits_ccdee : ByteArray := prog_22_method_23_code
def yJxe99ae_doubleToLongBits_ccdee : MethodName := ⟨RJxe99ae, "doubleToLongBits", "(D)J"⟩
def RJx29ce0 : String := "java/lang/Enum"
def TJx29ce0 : u_T := fun k => match k with
  | _ => ("", "", "", false)
def tyJx29ce0 : Nat → FieldType := fun k => match k with
  | _ => .int
theorem nmJx29ce0 : ∀ a, a < 0 → ∀ b, b < 0 → a ≠ b → (TJx29ce0 a).2.1 ≠ (TJx29ce0 b).2.1 := by decide +kernel
theorem tyJx29ce0_ok : ∀ k, k < 0 → parseFieldDescriptor (TJx29ce0 k).2.2.1 = some (tyJx29ce0 k) := by decide +kernel
abbrev cJx29ce0_ordinal_8abf5 : ByteArray := prog_23_method_2_code
def yJx29ce0_ordinal_8abf5 : MethodName := ⟨RJx29ce0, "ordinal", "()I"⟩
def RJxf58ca : String := "java/lang/Float"
def TJxf58ca : u_T := fun k => match k with
  | _ => ("", "", "", false)
def tyJxf58ca : Nat → FieldType := fun k => match k with
  | _ => .int
theorem nmJxf58ca : ∀ a, a < 0 → ∀ b, b < 0 → a ≠ b → (TJxf58ca a).2.1 ≠ (TJxf58ca b).2.1 := by decide +kernel
theorem tyJxf58ca_ok : ∀ k, k < 0 → parseFieldDescriptor (TJxf58ca k).2.2.1 = some (tyJxf58ca k) := by decide +kernel
abbrev cJxf58ca_isNaN_12338 : ByteArray := prog_25_method_6_code
def yJxf58ca_isNaN_12338 : MethodName := ⟨RJxf58ca, "isNaN", "(F)Z"⟩
abbrev cJxf58ca_floatToIntBits_5c35a : ByteArray := prog_25_method_24_code
def yJxf58ca_floatToIntBits_5c35a : MethodName := ⟨RJxf58ca, "floatToIntBits", "(F)I"⟩
def RJ6 : String := "java/lang/Integer"
def TJ6 : u_T := fun k => match k with
  | _ => ("", "", "", false)
def tyJ6 : Nat → FieldType := fun k => match k with
  | _ => .int
theorem nmJ6 : ∀ a, a < 0 → ∀ b, b < 0 → a ≠ b → (TJ6 a).2.1 ≠ (TJ6 b).2.1 := by decide +kernel
theorem tyJ6_ok : ∀ k, k < 0 → parseFieldDescriptor (TJ6 k).2.2.1 = some (tyJ6 k) := by decide +kernel
abbrev cJ6_getChars_ba4f3 : ByteArray := prog_29_method_12_code
def yJ6_getChars_ba4f3 : MethodName := ⟨RJ6, "getChars", "(II[B)I"⟩
abbrev cJ6_stringSize_0f7a4 : ByteArray := prog_29_method_13_code
def yJ6_stringSize_0f7a4 : MethodName := ⟨RJ6, "stringSize", "(I)I"⟩
def RJ9 : String := "java/lang/Math"
def TJ9 : u_T := fun k => match k with
  | _ => ("", "", "", false)
def tyJ9 : Nat → FieldType := fun k => match k with
  | _ => .int
theorem nmJ9 : ∀ a, a < 0 → ∀ b, b < 0 → a ≠ b → (TJ9 a).2.1 ≠ (TJ9 b).2.1 := by decide +kernel
theorem tyJ9_ok : ∀ k, k < 0 → parseFieldDescriptor (TJ9 k).2.2.1 = some (tyJ9 k) := by decide +kernel
abbrev cJ9_max_7cf53 : ByteArray := prog_30_method_65_code
def yJ9_max_7cf53 : MethodName := ⟨RJ9, "max", "(II)I"⟩
abbrev cJ9_min_7cf53 : ByteArray := prog_30_method_69_code
def yJ9_min_7cf53 : MethodName := ⟨RJ9, "min", "(II)I"⟩
def RJxd2413 : String := "java/lang/Number"
def TJxd2413 : u_T := fun k => match k with
  | _ => ("", "", "", false)
def tyJxd2413 : Nat → FieldType := fun k => match k with
  | _ => .int
theorem nmJxd2413 : ∀ a, a < 0 → ∀ b, b < 0 → a ≠ b → (TJxd2413 a).2.1 ≠ (TJxd2413 b).2.1 := by decide +kernel
theorem tyJxd2413_ok : ∀ k, k < 0 → parseFieldDescriptor (TJxd2413 k).2.2.1 = some (tyJxd2413 k) := by decide +kernel
def RJ0 : String := "java/lang/String"
def TJ0 : u_T := fun k => match k with
  | 0 => ("java/lang/String", "value", "[B", true)
  | 1 => ("java/lang/String", "coder", "B", true)
  | 2 => ("java/lang/String", "hash", "I", false)
  | _ => ("java/lang/String", "hashIsZero", "Z", false)
def tyJ0 : Nat → FieldType := fun k => match k with
  | 0 => .array .byte
  | 1 => .byte
  | 2 => .int
  | _ => .boolean
theorem nmJ0 : ∀ a, a < 4 → ∀ b, b < 4 → a ≠ b → (TJ0 a).2.1 ≠ (TJ0 b).2.1 := by decide +kernel
theorem tyJ0_ok : ∀ k, k < 4 → parseFieldDescriptor (TJ0 k).2.2.1 = some (tyJ0 k) := by decide +kernel
abbrev cJ0_init_81219 : ByteArray := prog_33_method_53_code
def yJ0_init_81219 : MethodName := ⟨RJ0, "<init>", "(Ljava/lang/StringBuilder;)V"⟩
abbrev cJ0_length_8abf5 : ByteArray := prog_33_method_54_code
def yJ0_length_8abf5 : MethodName := ⟨RJ0, "length", "()I"⟩
abbrev cJ0_charAt_5068e : ByteArray := prog_33_method_56_code
def yJ0_charAt_5068e : MethodName := ⟨RJ0, "charAt", "(I)C"⟩
abbrev cJ0_getBytes_840e7 : ByteArray := prog_33_method_147_code
def yJ0_getBytes_840e7 : MethodName := ⟨RJ0, "getBytes", "([BIB)V"⟩
abbrev cJ0_init_db425 : ByteArray := prog_33_method_150_code
def yJ0_init_db425 : MethodName := ⟨RJ0, "<init>", "(Ljava/lang/AbstractStringBuilder;Ljava/lang/Void;)V"⟩
abbrev cJ0_coder_7d493 : ByteArray := prog_33_method_152_code
def yJ0_coder_7d493 : MethodName := ⟨RJ0, "coder", "()B"⟩
abbrev cJ0_isLatin1_aae02 : ByteArray := prog_33_method_154_code
def yJ0_isLatin1_aae02 : MethodName := ⟨RJ0, "isLatin1", "()Z"⟩
abbrev cJ0_checkIndex_df160 : ByteArray := prog_33_method_155_code
def yJ0_checkIndex_df160 : MethodName := ⟨RJ0, "checkIndex", "(II)V"⟩
abbrev cJ0_checkBoundsOffCount_cabcc : ByteArray := prog_33_method_157_code
def yJ0_checkBoundsOffCount_cabcc : MethodName := ⟨RJ0, "checkBoundsOffCount", "(III)I"⟩
abbrev cJ0_checkBoundsBeginEnd_23922 : ByteArray := prog_33_method_158_code
def yJ0_checkBoundsBeginEnd_23922 : MethodName := ⟨RJ0, "checkBoundsBeginEnd", "(III)V"⟩
def RJ4 : String := "java/lang/StringBuilder"
def TJ4 : u_T := fun k => match k with
  | 0 => ("java/lang/AbstractStringBuilder", "value", "[B", false)
  | 1 => ("java/lang/AbstractStringBuilder", "coder", "B", false)
  | 2 => ("java/lang/AbstractStringBuilder", "maybeLatin1", "Z", false)
  | _ => ("java/lang/AbstractStringBuilder", "count", "I", false)
def tyJ4 : Nat → FieldType := fun k => match k with
  | 0 => .array .byte
  | 1 => .byte
  | 2 => .boolean
  | _ => .int
theorem nmJ4 : ∀ a, a < 4 → ∀ b, b < 4 → a ≠ b → (TJ4 a).2.1 ≠ (TJ4 b).2.1 := by decide +kernel
theorem tyJ4_ok : ∀ k, k < 4 → parseFieldDescriptor (TJ4 k).2.2.1 = some (tyJ4 k) := by decide +kernel
abbrev cJ4_init_da8c8 : ByteArray := prog_34_method_1_code
def yJ4_init_da8c8 : MethodName := ⟨RJ4, "<init>", "()V"⟩
abbrev cJ4_append_15ec4 : ByteArray := prog_34_method_7_code
def yJ4_append_15ec4 : MethodName := ⟨RJ4, "append", "(Ljava/lang/String;)Ljava/lang/StringBuilder;"⟩
abbrev cJ4_append_bf812 : ByteArray := prog_34_method_15_code
def yJ4_append_bf812 : MethodName := ⟨RJ4, "append", "(I)Ljava/lang/StringBuilder;"⟩
abbrev cJ4_toString_0e30d : ByteArray := prog_34_method_42_code
def yJ4_toString_0e30d : MethodName := ⟨RJ4, "toString", "()Ljava/lang/String;"⟩
abbrev cJ4_length_8abf5 : ByteArray := prog_34_method_93_code
def yJ4_length_8abf5 : MethodName := ⟨RJ4, "length", "()I"⟩
def RJ1 : String := "java/lang/StringLatin1"
def TJ1 : u_T := fun k => match k with
  | _ => ("", "", "", false)
def tyJ1 : Nat → FieldType := fun k => match k with
  | _ => .int
theorem nmJ1 : ∀ a, a < 0 → ∀ b, b < 0 → a ≠ b → (TJ1 a).2.1 ≠ (TJ1 b).2.1 := by decide +kernel
theorem tyJ1_ok : ∀ k, k < 0 → parseFieldDescriptor (TJ1 k).2.2.1 = some (tyJ1 k) := by decide +kernel
abbrev cJ1_charAt_3b067 : ByteArray := prog_35_method_2_code
def yJ1_charAt_3b067 : MethodName := ⟨RJ1, "charAt", "([BI)C"⟩
abbrev cJ1_inflate_0e8fd : ByteArray := prog_35_method_50_code
def yJ1_inflate_0e8fd : MethodName := ⟨RJ1, "inflate", "([BI[BII)V"⟩
def RJ2 : String := "java/lang/StringUTF16"
def TJ2 : u_T := fun k => match k with
  | _ => ("", "", "", false)
def tyJ2 : Nat → FieldType := fun k => match k with
  | _ => .int
theorem nmJ2 : ∀ a, a < 0 → ∀ b, b < 0 → a ≠ b → (TJ2 a).2.1 ≠ (TJ2 b).2.1 := by decide +kernel
theorem tyJ2_ok : ∀ k, k < 0 → parseFieldDescriptor (TJ2 k).2.2.1 = some (tyJ2 k) := by decide +kernel
abbrev cJ2_newBytesFor_77867 : ByteArray := prog_36_method_2_code
def yJ2_newBytesFor_77867 : MethodName := ⟨RJ2, "newBytesFor", "(I)[B"⟩
abbrev cJ2_newBytesLength_0f7a4 : ByteArray := prog_36_method_3_code
def yJ2_newBytesLength_0f7a4 : MethodName := ⟨RJ2, "newBytesLength", "(I)I"⟩
abbrev cJ2_putChar_b72d1 : ByteArray := prog_36_method_4_code
def yJ2_putChar_b72d1 : MethodName := ⟨RJ2, "putChar", "([BII)V"⟩
abbrev cJ2_getChar_3b067 : ByteArray := prog_36_method_5_code
def yJ2_getChar_3b067 : MethodName := ⟨RJ2, "getChar", "([BI)C"⟩
abbrev cJ2_length_9d52b : ByteArray := prog_36_method_6_code
def yJ2_length_9d52b : MethodName := ⟨RJ2, "length", "([B)I"⟩
abbrev cJ2_coderFromArrayLen_85cad : ByteArray := prog_36_method_15_code
def yJ2_coderFromArrayLen_85cad : MethodName := ⟨RJ2, "coderFromArrayLen", "([BI)B"⟩
abbrev cJ2_compress_39247 : ByteArray := prog_36_method_17_code
def yJ2_compress_39247 : MethodName := ⟨RJ2, "compress", "([BII)[B"⟩
abbrev cJ2_compress_5af95 : ByteArray := prog_36_method_22_code
def yJ2_compress_5af95 : MethodName := ⟨RJ2, "compress", "([BI[BII)I"⟩
abbrev cJ2_getChars_46870 : ByteArray := prog_36_method_77_code
def yJ2_getChars_46870 : MethodName := ⟨RJ2, "getChars", "(III[B)I"⟩
abbrev cJ2_putCharsAt_cd4e5 : ByteArray := prog_36_method_81_code
def yJ2_putCharsAt_cd4e5 : MethodName := ⟨RJ2, "putCharsAt", "([BICCCC)I"⟩
abbrev cJ2_charAt_3b067 : ByteArray := prog_36_method_83_code
def yJ2_charAt_3b067 : MethodName := ⟨RJ2, "charAt", "([BI)C"⟩
abbrev cJ2_inflate_0e8fd : ByteArray := prog_36_method_86_code
def yJ2_inflate_0e8fd : MethodName := ⟨RJ2, "inflate", "([BI[BII)V"⟩
abbrev cJ2_getChars_ba4f3 : ByteArray := prog_36_method_89_code
def yJ2_getChars_ba4f3 : MethodName := ⟨RJ2, "getChars", "(II[B)I"⟩
abbrev cJ2_checkIndex_2214a : ByteArray := prog_36_method_91_code
def yJ2_checkIndex_2214a : MethodName := ⟨RJ2, "checkIndex", "(I[B)V"⟩
abbrev cJ2_checkBoundsBeginEnd_d044e : ByteArray := prog_36_method_93_code
def yJ2_checkBoundsBeginEnd_d044e : MethodName := ⟨RJ2, "checkBoundsBeginEnd", "(II[B)V"⟩
abbrev cJ2_checkBoundsOffCount_d044e : ByteArray := prog_36_method_94_code
def yJ2_checkBoundsOffCount_d044e : MethodName := ⟨RJ2, "checkBoundsOffCount", "(II[B)V"⟩
def RJ10 : String := "java/lang/System"
def TJ10 : u_T := fun k => match k with
  | _ => ("", "", "", false)
def tyJ10 : Nat → FieldType := fun k => match k with
  | _ => .int
theorem nmJ10 : ∀ a, a < 0 → ∀ b, b < 0 → a ≠ b → (TJ10 a).2.1 ≠ (TJ10 b).2.1 := by decide +kernel
theorem tyJ10_ok : ∀ k, k < 0 → parseFieldDescriptor (TJ10 k).2.2.1 = some (tyJ10 k) := by decide +kernel
def RJxfd54e : String := "java/lang/constant/Constable"
def TJxfd54e : u_T := fun k => match k with
  | _ => ("", "", "", false)
def tyJxfd54e : Nat → FieldType := fun k => match k with
  | _ => .int
theorem nmJxfd54e : ∀ a, a < 0 → ∀ b, b < 0 → a ≠ b → (TJxfd54e a).2.1 ≠ (TJxfd54e b).2.1 := by decide +kernel
theorem tyJxfd54e_ok : ∀ k, k < 0 → parseFieldDescriptor (TJxfd54e k).2.2.1 = some (tyJxfd54e k) := by decide +kernel
def RJx3cf43 : String := "java/lang/constant/ConstantDesc"
def TJx3cf43 : u_T := fun k => match k with
  | _ => ("", "", "", false)
def tyJx3cf43 : Nat → FieldType := fun k => match k with
  | _ => .int
theorem nmJx3cf43 : ∀ a, a < 0 → ∀ b, b < 0 → a ≠ b → (TJx3cf43 a).2.1 ≠ (TJx3cf43 b).2.1 := by decide +kernel
theorem tyJx3cf43_ok : ∀ k, k < 0 → parseFieldDescriptor (TJx3cf43 k).2.2.1 = some (tyJx3cf43 k) := by decide +kernel
def RJ7 : String := "java/util/Arrays"
def TJ7 : u_T := fun k => match k with
  | _ => ("", "", "", false)
def tyJ7 : Nat → FieldType := fun k => match k with
  | _ => .int
theorem nmJ7 : ∀ a, a < 0 → ∀ b, b < 0 → a ≠ b → (TJ7 a).2.1 ≠ (TJ7 b).2.1 := by decide +kernel
theorem tyJ7_ok : ∀ k, k < 0 → parseFieldDescriptor (TJ7 k).2.2.1 = some (tyJ7 k) := by decide +kernel
abbrev cJ7_copyOf_9075b : ByteArray := prog_41_method_121_code
def yJ7_copyOf_9075b : MethodName := ⟨RJ7, "copyOf", "([BI)[B"⟩
abbrev cJ7_checkLength_df160 : ByteArray := prog_41_method_131_code
def yJ7_checkLength_df160 : MethodName := ⟨RJ7, "checkLength", "(II)V"⟩
abbrev cJ7_copyOfRange_39247 : ByteArray := prog_41_method_132_code
def yJ7_copyOfRange_39247 : MethodName := ⟨RJ7, "copyOfRange", "([BII)[B"⟩
abbrev cJ7_copyOfRangeByte_39247 : ByteArray := prog_41_method_133_code
def yJ7_copyOfRangeByte_39247 : MethodName := ⟨RJ7, "copyOfRangeByte", "([BII)[B"⟩
def RJ8 : String := "jdk/internal/util/ArraysSupport"
def TJ8 : u_T := fun k => match k with
  | _ => ("", "", "", false)
def tyJ8 : Nat → FieldType := fun k => match k with
  | _ => .int
theorem nmJ8 : ∀ a, a < 0 → ∀ b, b < 0 → a ≠ b → (TJ8 a).2.1 ≠ (TJ8 b).2.1 := by decide +kernel
theorem tyJ8_ok : ∀ k, k < 0 → parseFieldDescriptor (TJ8 k).2.2.1 = some (tyJ8 k) := by decide +kernel
abbrev cJ8_newLength_cabcc : ByteArray := prog_43_method_27_code
def yJ8_newLength_cabcc : MethodName := ⟨RJ8, "newLength", "(III)I"⟩
abbrev cJ8_hugeLength_7cf53 : ByteArray := prog_43_method_28_code
def yJ8_hugeLength_7cf53 : MethodName := ⟨RJ8, "hugeLength", "(II)I"⟩
def RJ3 : String := "jdk/internal/util/Preconditions"
def TJ3 : u_T := fun k => match k with
  | _ => ("", "", "", false)
def tyJ3 : Nat → FieldType := fun k => match k with
  | _ => .int
theorem nmJ3 : ∀ a, a < 0 → ∀ b, b < 0 → a ≠ b → (TJ3 a).2.1 ≠ (TJ3 b).2.1 := by decide +kernel
theorem tyJ3_ok : ∀ k, k < 0 → parseFieldDescriptor (TJ3 k).2.2.1 = some (tyJ3 k) := by decide +kernel
abbrev cJ3_checkIndex_8e157 : ByteArray := prog_44_method_11_code
def yJ3_checkIndex_8e157 : MethodName := ⟨RJ3, "checkIndex", "(IILjava/util/function/BiFunction;)I"⟩
abbrev cJ3_checkFromToIndex_8c36e : ByteArray := prog_44_method_12_code
def yJ3_checkFromToIndex_8c36e : MethodName := ⟨RJ3, "checkFromToIndex", "(IIILjava/util/function/BiFunction;)I"⟩
abbrev cJ3_checkFromIndexSize_8c36e : ByteArray := prog_44_method_13_code
def yJ3_checkFromIndexSize_8c36e : MethodName := ⟨RJ3, "checkFromIndexSize", "(IIILjava/util/function/BiFunction;)I"⟩
def RL : String := "CrowMailLaw"
abbrev cL_cell : ByteArray := method_2_code
def yL_cell : MethodName := ⟨RL, "cell", "([II)I"⟩
abbrev cL_pick : ByteArray := method_3_code
def yL_pick : MethodName := ⟨RL, "pick", "([III)I"⟩
abbrev cL_addNest : ByteArray := method_4_code
def yL_addNest : MethodName := ⟨RL, "addNest", "(LCrowMail;II)I"⟩
abbrev cL_addCrow : ByteArray := method_5_code
def yL_addCrow : MethodName := ⟨RL, "addCrow", "(LCrowMail;)I"⟩
abbrev cL_publish : ByteArray := method_6_code
def yL_publish : MethodName := ⟨RL, "publish", "(LCrowMail;II)I"⟩
abbrev cL_read : ByteArray := method_7_code
def yL_read : MethodName := ⟨RL, "read", "(LCrowMail;I)I"⟩
abbrev cL_cancel : ByteArray := method_8_code
def yL_cancel : MethodName := ⟨RL, "cancel", "(LCrowMail;I)I"⟩
abbrev cL_setWind : ByteArray := method_9_code
def yL_setWind : MethodName := ⟨RL, "setWind", "(LCrowMail;I)I"⟩
abbrev cL_forget : ByteArray := method_10_code
def yL_forget : MethodName := ⟨RL, "forget", "(LCrowMail;I)I"⟩
abbrev cL_advance : ByteArray := method_11_code
def yL_advance : MethodName := ⟨RL, "advance", "(LCrowMail;I)I"⟩
abbrev cL_distance : ByteArray := method_12_code
def yL_distance : MethodName := ⟨RL, "distance", "(LCrowMail;I)I"⟩
abbrev cL_loss : ByteArray := method_13_code
def yL_loss : MethodName := ⟨RL, "loss", "(LCrowMail;I)I"⟩
abbrev cL_inboxSize : ByteArray := method_14_code
def yL_inboxSize : MethodName := ⟨RL, "inboxSize", "(LCrowMail;I)I"⟩
abbrev cL_inboxMessage : ByteArray := method_15_code
def yL_inboxMessage : MethodName := ⟨RL, "inboxMessage", "(LCrowMail;II)I"⟩
abbrev cL_remembers : ByteArray := method_16_code
def yL_remembers : MethodName := ⟨RL, "remembers", "(LCrowMail;II)I"⟩
abbrev cL_rememberedCount : ByteArray := method_17_code
def yL_rememberedCount : MethodName := ⟨RL, "rememberedCount", "(LCrowMail;I)I"⟩
abbrev cL_nestByDeliveries : ByteArray := method_18_code
def yL_nestByDeliveries : MethodName := ⟨RL, "nestByDeliveries", "(LCrowMail;I)I"⟩
abbrev cL_isFlying : ByteArray := method_19_code
def yL_isFlying : MethodName := ⟨RL, "isFlying", "(LCrowMail;I)I"⟩
abbrev cL_carriedMessage : ByteArray := method_20_code
def yL_carriedMessage : MethodName := ⟨RL, "carriedMessage", "(LCrowMail;I)I"⟩
abbrev cL_flightMinutes : ByteArray := method_21_code
def yL_flightMinutes : MethodName := ⟨RL, "flightMinutes", "(LCrowMail;I)I"⟩
abbrev cL_messageAt : ByteArray := method_22_code
def yL_messageAt : MethodName := ⟨RL, "messageAt", "(LCrowMail;I)I"⟩
abbrev cL_nestOf : ByteArray := method_23_code
def yL_nestOf : MethodName := ⟨RL, "nestOf", "(LCrowMail;I)I"⟩
abbrev cL_keyOf : ByteArray := method_24_code
def yL_keyOf : MethodName := ⟨RL, "keyOf", "(LCrowMail;I)I"⟩
abbrev cL_attempts : ByteArray := method_25_code
def yL_attempts : MethodName := ⟨RL, "attempts", "(LCrowMail;I)I"⟩
abbrev cL_status : ByteArray := method_26_code
def yL_status : MethodName := ⟨RL, "status", "(LCrowMail;I)I"⟩
abbrev cL_napMinutes : ByteArray := method_27_code
def yL_napMinutes : MethodName := ⟨RL, "napMinutes", "(LCrowMail;I)I"⟩
abbrev cL_waitingMessage : ByteArray := method_28_code
def yL_waitingMessage : MethodName := ⟨RL, "waitingMessage", "(LCrowMail;I)I"⟩
abbrev cL_wouldBeLost : ByteArray := method_29_code
def yL_wouldBeLost : MethodName := ⟨RL, "wouldBeLost", "(LCrowMail;I)I"⟩
abbrev cL_napLength : ByteArray := method_30_code
def yL_napLength : MethodName := ⟨RL, "napLength", "(LCrowMail;I)J"⟩
abbrev cL_napLengthByDoubling : ByteArray := method_31_code
def yL_napLengthByDoubling : MethodName := ⟨RL, "napLengthByDoubling", "(LCrowMail;I)J"⟩
abbrev cL_minutesUntilDelivered : ByteArray := method_32_code
def yL_minutesUntilDelivered : MethodName := ⟨RL, "minutesUntilDelivered", "(LCrowMail;I)I"⟩
abbrev cL_meanAttempts : ByteArray := method_33_code
def yL_meanAttempts : MethodName := ⟨RL, "meanAttempts", "(LCrowMail;)D"⟩
abbrev cL_meanAttemptsBits : ByteArray := method_34_code
def yL_meanAttemptsBits : MethodName := ⟨RL, "meanAttemptsBits", "(LCrowMail;)J"⟩
abbrev cL_deliveryRate : ByteArray := method_35_code
def yL_deliveryRate : MethodName := ⟨RL, "deliveryRate", "(LCrowMail;)F"⟩
abbrev cL_deliveryRateBits : ByteArray := method_36_code
def yL_deliveryRateBits : MethodName := ⟨RL, "deliveryRateBits", "(LCrowMail;)I"⟩
abbrev cL_type : ByteArray := method_39_code
def yL_type : MethodName := ⟨RL, "type", "(LCrowMail;C)I"⟩
abbrev cL_runScript : ByteArray := method_40_code
def yL_runScript : MethodName := ⟨RL, "runScript", "(LCrowMail;)I"⟩
abbrev cL_undo : ByteArray := method_43_code
def yL_undo : MethodName := ⟨RL, "undo", "(LCrowMail;)I"⟩
abbrev cL_restore : ByteArray := method_44_code
def yL_restore : MethodName := ⟨RL, "restore", "(LCrowMail;)I"⟩
abbrev cL_runs : ByteArray := method_45_code
def yL_runs : MethodName := ⟨RL, "runs", "(LCrowMail;Ljava/lang/String;)I"⟩
abbrev cL_law : ByteArray := code
def yL_law : MethodName := ⟨RL, "law", "([I)Z"⟩
abbrev cL_does : ByteArray := method_48_code
def yL_does : MethodName := ⟨RL, "does", "([IIILCrowMail;II)I"⟩
abbrev cL_sum : ByteArray := method_49_code
def yL_sum : MethodName := ⟨RL, "sum", "(LCrowMail;)J"⟩
abbrev cL_isMessage : ByteArray := method_50_code
def yL_isMessage : MethodName := ⟨RL, "isMessage", "(LCrowMail;I)Z"⟩
abbrev cL_isWhole : ByteArray := method_51_code
def yL_isWhole : MethodName := ⟨RL, "isWhole", "(LCrowMail;[IIZ)Z"⟩
abbrev cL_isKept : ByteArray := method_52_code
def yL_isKept : MethodName := ⟨RL, "isKept", "(LCrowMail;[JI)Z"⟩
end
section
theorem dX1_init_0 : decode cX1_init 0 = .ok (.aload_n 0, 1) := by decide +kernel
theorem dX1_init_1 : decode cX1_init 1 = .ok (.invokespecial 1, 3) := by decide +kernel
theorem dX1_init_4 : decode cX1_init 4 = .ok (.aload_n 0, 1) := by decide +kernel
theorem dX1_init_5 : decode cX1_init 5 = .ok (.getstatic 7, 3) := by decide +kernel
theorem dX1_init_8 : decode cX1_init 8 = .ok (.putfield 13, 3) := by decide +kernel
theorem dX1_init_11 : decode cX1_init 11 = .ok (.aload_n 0, 1) := by decide +kernel
theorem dX1_init_12 : decode cX1_init 12 = .ok (.iconst 0, 1) := by decide +kernel
theorem dX1_init_13 : decode cX1_init 13 = .ok (.putfield 18, 3) := by decide +kernel
theorem dX1_init_16 : decode cX1_init 16 = .ok (.aload_n 0, 1) := by decide +kernel
theorem dX1_init_17 : decode cX1_init 17 = .ok (.iconst 0, 1) := by decide +kernel
theorem dX1_init_18 : decode cX1_init 18 = .ok (.putfield 22, 3) := by decide +kernel
theorem dX1_init_21 : decode cX1_init 21 = .ok (.return_, 1) := by decide +kernel
theorem dX2_init_0 : decode cX2_init 0 = .ok (.aload_n 0, 1) := by decide +kernel
theorem dX2_init_1 : decode cX2_init 1 = .ok (.invokespecial 1, 3) := by decide +kernel
theorem dX2_init_4 : decode cX2_init 4 = .ok (.aload_n 0, 1) := by decide +kernel
theorem dX2_init_5 : decode cX2_init 5 = .ok (.iconst 0, 1) := by decide +kernel
theorem dX2_init_6 : decode cX2_init 6 = .ok (.putfield 7, 3) := by decide +kernel
theorem dX2_init_9 : decode cX2_init 9 = .ok (.aload_n 0, 1) := by decide +kernel
theorem dX2_init_10 : decode cX2_init 10 = .ok (.iconst 0, 1) := by decide +kernel
theorem dX2_init_11 : decode cX2_init 11 = .ok (.putfield 13, 3) := by decide +kernel
theorem dX2_init_14 : decode cX2_init 14 = .ok (.aload_n 0, 1) := by decide +kernel
theorem dX2_init_15 : decode cX2_init 15 = .ok (.iconst 0, 1) := by decide +kernel
theorem dX2_init_16 : decode cX2_init 16 = .ok (.putfield 17, 3) := by decide +kernel
theorem dX2_init_19 : decode cX2_init 19 = .ok (.return_, 1) := by decide +kernel
theorem dX2_copyFrom_0 : decode cX2_copyFrom 0 = .ok (.aload_n 0, 1) := by decide +kernel
theorem dX2_copyFrom_1 : decode cX2_copyFrom 1 = .ok (.aload_n 1, 1) := by decide +kernel
theorem dX2_copyFrom_2 : decode cX2_copyFrom 2 = .ok (.getfield 7, 3) := by decide +kernel
theorem dX2_copyFrom_5 : decode cX2_copyFrom 5 = .ok (.putfield 7, 3) := by decide +kernel
theorem dX2_copyFrom_8 : decode cX2_copyFrom 8 = .ok (.aload_n 0, 1) := by decide +kernel
theorem dX2_copyFrom_9 : decode cX2_copyFrom 9 = .ok (.aload_n 1, 1) := by decide +kernel
theorem dX2_copyFrom_10 : decode cX2_copyFrom 10 = .ok (.getfield 13, 3) := by decide +kernel
theorem dX2_copyFrom_13 : decode cX2_copyFrom 13 = .ok (.putfield 13, 3) := by decide +kernel
theorem dX2_copyFrom_16 : decode cX2_copyFrom 16 = .ok (.aload_n 0, 1) := by decide +kernel
theorem dX2_copyFrom_17 : decode cX2_copyFrom 17 = .ok (.aload_n 1, 1) := by decide +kernel
theorem dX2_copyFrom_18 : decode cX2_copyFrom 18 = .ok (.getfield 17, 3) := by decide +kernel
theorem dX2_copyFrom_21 : decode cX2_copyFrom 21 = .ok (.putfield 17, 3) := by decide +kernel
theorem dX2_copyFrom_24 : decode cX2_copyFrom 24 = .ok (.return_, 1) := by decide +kernel
theorem dX4_init_0 : decode cX4_init 0 = .ok (.aload_n 0, 1) := by decide +kernel
theorem dX4_init_1 : decode cX4_init 1 = .ok (.invokespecial 3, 3) := by decide +kernel
theorem dX4_init_4 : decode cX4_init 4 = .ok (.aload_n 0, 1) := by decide +kernel
theorem dX4_init_5 : decode cX4_init 5 = .ok (.bipush 8, 2) := by decide +kernel
theorem dX4_init_7 : decode cX4_init 7 = .ok (.anewarray 9, 3) := by decide +kernel
theorem dX4_init_10 : decode cX4_init 10 = .ok (.putfield 11, 3) := by decide +kernel
theorem dX4_init_13 : decode cX4_init 13 = .ok (.aload_n 0, 1) := by decide +kernel
theorem dX4_init_14 : decode cX4_init 14 = .ok (.iconst 0, 1) := by decide +kernel
theorem dX4_init_15 : decode cX4_init 15 = .ok (.putfield 17, 3) := by decide +kernel
theorem dX4_init_18 : decode cX4_init 18 = .ok (.aload_n 0, 1) := by decide +kernel
theorem dX4_init_19 : decode cX4_init 19 = .ok (.iconst 0, 1) := by decide +kernel
theorem dX4_init_20 : decode cX4_init 20 = .ok (.putfield 21, 3) := by decide +kernel
theorem dX4_init_23 : decode cX4_init 23 = .ok (.iconst 0, 1) := by decide +kernel
theorem dX4_init_24 : decode cX4_init 24 = .ok (.istore_n 1, 1) := by decide +kernel
theorem dX4_init_25 : decode cX4_init 25 = .ok (.iload_n 1, 1) := by decide +kernel
theorem dX4_init_26 : decode cX4_init 26 = .ok (.bipush 8, 2) := by decide +kernel
theorem dX4_init_28 : decode cX4_init 28 = .ok (.if_icmp .ge 22, 3) := by decide +kernel
theorem dX4_init_31 : decode cX4_init 31 = .ok (.aload_n 0, 1) := by decide +kernel
theorem dX4_init_32 : decode cX4_init 32 = .ok (.getfield 11, 3) := by decide +kernel
theorem dX4_init_35 : decode cX4_init 35 = .ok (.iload_n 1, 1) := by decide +kernel
theorem dX4_init_36 : decode cX4_init 36 = .ok (.new 9, 3) := by decide +kernel
theorem dX4_init_39 : decode cX4_init 39 = .ok (.dup, 1) := by decide +kernel
theorem dX4_init_40 : decode cX4_init 40 = .ok (.invokespecial 24, 3) := by decide +kernel
theorem dX4_init_43 : decode cX4_init 43 = .ok (.aastore, 1) := by decide +kernel
theorem dX4_init_44 : decode cX4_init 44 = .ok (.iinc 1 1, 3) := by decide +kernel
theorem dX4_init_47 : decode cX4_init 47 = .ok (.goto (-22), 3) := by decide +kernel
theorem dX4_init_50 : decode cX4_init 50 = .ok (.return_, 1) := by decide +kernel
theorem dX4_remember_0 : decode cX4_remember 0 = .ok (.aload_n 0, 1) := by decide +kernel
theorem dX4_remember_1 : decode cX4_remember 1 = .ok (.getfield 11, 3) := by decide +kernel
theorem dX4_remember_4 : decode cX4_remember 4 = .ok (.aload_n 0, 1) := by decide +kernel
theorem dX4_remember_5 : decode cX4_remember 5 = .ok (.getfield 17, 3) := by decide +kernel
theorem dX4_remember_8 : decode cX4_remember 8 = .ok (.aaload, 1) := by decide +kernel
theorem dX4_remember_9 : decode cX4_remember 9 = .ok (.aload_n 1, 1) := by decide +kernel
theorem dX4_remember_10 : decode cX4_remember 10 = .ok (.invokevirtual 25, 3) := by decide +kernel
theorem dX4_remember_13 : decode cX4_remember 13 = .ok (.aload_n 0, 1) := by decide +kernel
theorem dX4_remember_14 : decode cX4_remember 14 = .ok (.aload_n 0, 1) := by decide +kernel
theorem dX4_remember_15 : decode cX4_remember 15 = .ok (.getfield 17, 3) := by decide +kernel
theorem dX4_remember_18 : decode cX4_remember 18 = .ok (.iconst 1, 1) := by decide +kernel
theorem dX4_remember_19 : decode cX4_remember 19 = .ok (.iadd, 1) := by decide +kernel
theorem dX4_remember_20 : decode cX4_remember 20 = .ok (.bipush 8, 2) := by decide +kernel
theorem dX4_remember_22 : decode cX4_remember 22 = .ok (.irem, 1) := by decide +kernel
theorem dX4_remember_23 : decode cX4_remember 23 = .ok (.putfield 17, 3) := by decide +kernel
theorem dX4_remember_26 : decode cX4_remember 26 = .ok (.aload_n 0, 1) := by decide +kernel
theorem dX4_remember_27 : decode cX4_remember 27 = .ok (.getfield 21, 3) := by decide +kernel
theorem dX4_remember_30 : decode cX4_remember 30 = .ok (.bipush 8, 2) := by decide +kernel
theorem dX4_remember_32 : decode cX4_remember 32 = .ok (.if_icmp .ge 13, 3) := by decide +kernel
theorem dX4_remember_35 : decode cX4_remember 35 = .ok (.aload_n 0, 1) := by decide +kernel
theorem dX4_remember_36 : decode cX4_remember 36 = .ok (.dup, 1) := by decide +kernel
theorem dX4_remember_37 : decode cX4_remember 37 = .ok (.getfield 21, 3) := by decide +kernel
theorem dX4_remember_40 : decode cX4_remember 40 = .ok (.iconst 1, 1) := by decide +kernel
theorem dX4_remember_41 : decode cX4_remember 41 = .ok (.iadd, 1) := by decide +kernel
theorem dX4_remember_42 : decode cX4_remember 42 = .ok (.putfield 21, 3) := by decide +kernel
theorem dX4_remember_45 : decode cX4_remember 45 = .ok (.return_, 1) := by decide +kernel
theorem dX4_takeBackInto_0 : decode cX4_takeBackInto 0 = .ok (.aload_n 0, 1) := by decide +kernel
theorem dX4_takeBackInto_1 : decode cX4_takeBackInto 1 = .ok (.aload_n 0, 1) := by decide +kernel
theorem dX4_takeBackInto_2 : decode cX4_takeBackInto 2 = .ok (.getfield 17, 3) := by decide +kernel
theorem dX4_takeBackInto_5 : decode cX4_takeBackInto 5 = .ok (.bipush 8, 2) := by decide +kernel
theorem dX4_takeBackInto_7 : decode cX4_takeBackInto 7 = .ok (.iadd, 1) := by decide +kernel
theorem dX4_takeBackInto_8 : decode cX4_takeBackInto 8 = .ok (.iconst 1, 1) := by decide +kernel
theorem dX4_takeBackInto_9 : decode cX4_takeBackInto 9 = .ok (.isub, 1) := by decide +kernel
theorem dX4_takeBackInto_10 : decode cX4_takeBackInto 10 = .ok (.bipush 8, 2) := by decide +kernel
theorem dX4_takeBackInto_12 : decode cX4_takeBackInto 12 = .ok (.irem, 1) := by decide +kernel
theorem dX4_takeBackInto_13 : decode cX4_takeBackInto 13 = .ok (.putfield 17, 3) := by decide +kernel
theorem dX4_takeBackInto_16 : decode cX4_takeBackInto 16 = .ok (.aload_n 0, 1) := by decide +kernel
theorem dX4_takeBackInto_17 : decode cX4_takeBackInto 17 = .ok (.dup, 1) := by decide +kernel
theorem dX4_takeBackInto_18 : decode cX4_takeBackInto 18 = .ok (.getfield 21, 3) := by decide +kernel
theorem dX4_takeBackInto_21 : decode cX4_takeBackInto 21 = .ok (.iconst 1, 1) := by decide +kernel
theorem dX4_takeBackInto_22 : decode cX4_takeBackInto 22 = .ok (.isub, 1) := by decide +kernel
theorem dX4_takeBackInto_23 : decode cX4_takeBackInto 23 = .ok (.putfield 21, 3) := by decide +kernel
theorem dX4_takeBackInto_26 : decode cX4_takeBackInto 26 = .ok (.aload_n 1, 1) := by decide +kernel
theorem dX4_takeBackInto_27 : decode cX4_takeBackInto 27 = .ok (.aload_n 0, 1) := by decide +kernel
theorem dX4_takeBackInto_28 : decode cX4_takeBackInto 28 = .ok (.getfield 11, 3) := by decide +kernel
theorem dX4_takeBackInto_31 : decode cX4_takeBackInto 31 = .ok (.aload_n 0, 1) := by decide +kernel
theorem dX4_takeBackInto_32 : decode cX4_takeBackInto 32 = .ok (.getfield 17, 3) := by decide +kernel
theorem dX4_takeBackInto_35 : decode cX4_takeBackInto 35 = .ok (.aaload, 1) := by decide +kernel
theorem dX4_takeBackInto_36 : decode cX4_takeBackInto 36 = .ok (.invokevirtual 25, 3) := by decide +kernel
theorem dX4_takeBackInto_39 : decode cX4_takeBackInto 39 = .ok (.return_, 1) := by decide +kernel
theorem dX5_init_0 : decode cX5_init 0 = .ok (.aload_n 0, 1) := by decide +kernel
theorem dX5_init_1 : decode cX5_init 1 = .ok (.invokespecial 3, 3) := by decide +kernel
theorem dX5_init_4 : decode cX5_init 4 = .ok (.aload_n 0, 1) := by decide +kernel
theorem dX5_init_5 : decode cX5_init 5 = .ok (.iconst 0, 1) := by decide +kernel
theorem dX5_init_6 : decode cX5_init 6 = .ok (.putfield 9, 3) := by decide +kernel
theorem dX5_init_9 : decode cX5_init 9 = .ok (.aload_n 0, 1) := by decide +kernel
theorem dX5_init_10 : decode cX5_init 10 = .ok (.iconst 0, 1) := by decide +kernel
theorem dX5_init_11 : decode cX5_init 11 = .ok (.putfield 15, 3) := by decide +kernel
theorem dX5_init_14 : decode cX5_init 14 = .ok (.aload_n 0, 1) := by decide +kernel
theorem dX5_init_15 : decode cX5_init 15 = .ok (.iconst 0, 1) := by decide +kernel
theorem dX5_init_16 : decode cX5_init 16 = .ok (.putfield 18, 3) := by decide +kernel
theorem dX5_init_19 : decode cX5_init 19 = .ok (.aload_n 0, 1) := by decide +kernel
theorem dX5_init_20 : decode cX5_init 20 = .ok (.iconst 0, 1) := by decide +kernel
theorem dX5_init_21 : decode cX5_init 21 = .ok (.putfield 21, 3) := by decide +kernel
theorem dX5_init_24 : decode cX5_init 24 = .ok (.aload_n 0, 1) := by decide +kernel
theorem dX5_init_25 : decode cX5_init 25 = .ok (.bipush 119, 2) := by decide +kernel
theorem dX5_init_27 : decode cX5_init 27 = .ok (.putfield 24, 3) := by decide +kernel
theorem dX5_init_30 : decode cX5_init 30 = .ok (.aload_n 0, 1) := by decide +kernel
theorem dX5_init_31 : decode cX5_init 31 = .ok (.iconst 0, 1) := by decide +kernel
theorem dX5_init_32 : decode cX5_init 32 = .ok (.putfield 28, 3) := by decide +kernel
theorem dX5_init_35 : decode cX5_init 35 = .ok (.return_, 1) := by decide +kernel
theorem dX5_write_0 : decode cX5_write 0 = .ok (.aload_n 0, 1) := by decide +kernel
theorem dX5_write_1 : decode cX5_write 1 = .ok (.iload_n 1, 1) := by decide +kernel
theorem dX5_write_2 : decode cX5_write 2 = .ok (.putfield 9, 3) := by decide +kernel
theorem dX5_write_5 : decode cX5_write 5 = .ok (.aload_n 0, 1) := by decide +kernel
theorem dX5_write_6 : decode cX5_write 6 = .ok (.iload_n 2, 1) := by decide +kernel
theorem dX5_write_7 : decode cX5_write 7 = .ok (.putfield 15, 3) := by decide +kernel
theorem dX5_write_10 : decode cX5_write 10 = .ok (.aload_n 0, 1) := by decide +kernel
theorem dX5_write_11 : decode cX5_write 11 = .ok (.iload_n 3, 1) := by decide +kernel
theorem dX5_write_12 : decode cX5_write 12 = .ok (.putfield 18, 3) := by decide +kernel
theorem dX5_write_15 : decode cX5_write 15 = .ok (.aload_n 0, 1) := by decide +kernel
theorem dX5_write_16 : decode cX5_write 16 = .ok (.iconst 0, 1) := by decide +kernel
theorem dX5_write_17 : decode cX5_write 17 = .ok (.putfield 21, 3) := by decide +kernel
theorem dX5_write_20 : decode cX5_write 20 = .ok (.aload_n 0, 1) := by decide +kernel
theorem dX5_write_21 : decode cX5_write 21 = .ok (.bipush 119, 2) := by decide +kernel
theorem dX5_write_23 : decode cX5_write 23 = .ok (.putfield 24, 3) := by decide +kernel
theorem dX5_write_26 : decode cX5_write 26 = .ok (.aload_n 0, 1) := by decide +kernel
theorem dX5_write_27 : decode cX5_write 27 = .ok (.iconst 0, 1) := by decide +kernel
theorem dX5_write_28 : decode cX5_write 28 = .ok (.putfield 28, 3) := by decide +kernel
theorem dX5_write_31 : decode cX5_write 31 = .ok (.return_, 1) := by decide +kernel
theorem dX5_copyFrom_0 : decode cX5_copyFrom 0 = .ok (.aload_n 0, 1) := by decide +kernel
theorem dX5_copyFrom_1 : decode cX5_copyFrom 1 = .ok (.aload_n 1, 1) := by decide +kernel
theorem dX5_copyFrom_2 : decode cX5_copyFrom 2 = .ok (.getfield 9, 3) := by decide +kernel
theorem dX5_copyFrom_5 : decode cX5_copyFrom 5 = .ok (.putfield 9, 3) := by decide +kernel
theorem dX5_copyFrom_8 : decode cX5_copyFrom 8 = .ok (.aload_n 0, 1) := by decide +kernel
theorem dX5_copyFrom_9 : decode cX5_copyFrom 9 = .ok (.aload_n 1, 1) := by decide +kernel
theorem dX5_copyFrom_10 : decode cX5_copyFrom 10 = .ok (.getfield 15, 3) := by decide +kernel
theorem dX5_copyFrom_13 : decode cX5_copyFrom 13 = .ok (.putfield 15, 3) := by decide +kernel
theorem dX5_copyFrom_16 : decode cX5_copyFrom 16 = .ok (.aload_n 0, 1) := by decide +kernel
theorem dX5_copyFrom_17 : decode cX5_copyFrom 17 = .ok (.aload_n 1, 1) := by decide +kernel
theorem dX5_copyFrom_18 : decode cX5_copyFrom 18 = .ok (.getfield 18, 3) := by decide +kernel
theorem dX5_copyFrom_21 : decode cX5_copyFrom 21 = .ok (.putfield 18, 3) := by decide +kernel
theorem dX5_copyFrom_24 : decode cX5_copyFrom 24 = .ok (.aload_n 0, 1) := by decide +kernel
theorem dX5_copyFrom_25 : decode cX5_copyFrom 25 = .ok (.aload_n 1, 1) := by decide +kernel
theorem dX5_copyFrom_26 : decode cX5_copyFrom 26 = .ok (.getfield 21, 3) := by decide +kernel
theorem dX5_copyFrom_29 : decode cX5_copyFrom 29 = .ok (.putfield 21, 3) := by decide +kernel
theorem dX5_copyFrom_32 : decode cX5_copyFrom 32 = .ok (.aload_n 0, 1) := by decide +kernel
theorem dX5_copyFrom_33 : decode cX5_copyFrom 33 = .ok (.aload_n 1, 1) := by decide +kernel
theorem dX5_copyFrom_34 : decode cX5_copyFrom 34 = .ok (.getfield 24, 3) := by decide +kernel
theorem dX5_copyFrom_37 : decode cX5_copyFrom 37 = .ok (.putfield 24, 3) := by decide +kernel
theorem dX5_copyFrom_40 : decode cX5_copyFrom 40 = .ok (.aload_n 0, 1) := by decide +kernel
theorem dX5_copyFrom_41 : decode cX5_copyFrom 41 = .ok (.aload_n 1, 1) := by decide +kernel
theorem dX5_copyFrom_42 : decode cX5_copyFrom 42 = .ok (.getfield 28, 3) := by decide +kernel
theorem dX5_copyFrom_45 : decode cX5_copyFrom 45 = .ok (.putfield 28, 3) := by decide +kernel
theorem dX5_copyFrom_48 : decode cX5_copyFrom 48 = .ok (.return_, 1) := by decide +kernel
theorem dX6_init_0 : decode cX6_init 0 = .ok (.aload_n 0, 1) := by decide +kernel
theorem dX6_init_1 : decode cX6_init 1 = .ok (.invokespecial 3, 3) := by decide +kernel
theorem dX6_init_4 : decode cX6_init 4 = .ok (.aload_n 0, 1) := by decide +kernel
theorem dX6_init_5 : decode cX6_init 5 = .ok (.bipush 8, 2) := by decide +kernel
theorem dX6_init_7 : decode cX6_init 7 = .ok (.newarray .int, 2) := by decide +kernel
theorem dX6_init_9 : decode cX6_init 9 = .ok (.putfield 9, 3) := by decide +kernel
theorem dX6_init_12 : decode cX6_init 12 = .ok (.aload_n 0, 1) := by decide +kernel
theorem dX6_init_13 : decode cX6_init 13 = .ok (.bipush 8, 2) := by decide +kernel
theorem dX6_init_15 : decode cX6_init 15 = .ok (.newarray .int, 2) := by decide +kernel
theorem dX6_init_17 : decode cX6_init 17 = .ok (.putfield 15, 3) := by decide +kernel
theorem dX6_init_20 : decode cX6_init 20 = .ok (.aload_n 0, 1) := by decide +kernel
theorem dX6_init_21 : decode cX6_init 21 = .ok (.iconst 0, 1) := by decide +kernel
theorem dX6_init_22 : decode cX6_init 22 = .ok (.putfield 18, 3) := by decide +kernel
theorem dX6_init_25 : decode cX6_init 25 = .ok (.aload_n 0, 1) := by decide +kernel
theorem dX6_init_26 : decode cX6_init 26 = .ok (.iconst 0, 1) := by decide +kernel
theorem dX6_init_27 : decode cX6_init 27 = .ok (.putfield 22, 3) := by decide +kernel
theorem dX6_init_30 : decode cX6_init 30 = .ok (.aload_n 0, 1) := by decide +kernel
theorem dX6_init_31 : decode cX6_init 31 = .ok (.iconst 0, 1) := by decide +kernel
theorem dX6_init_32 : decode cX6_init 32 = .ok (.putfield 25, 3) := by decide +kernel
theorem dX6_init_35 : decode cX6_init 35 = .ok (.aload_n 0, 1) := by decide +kernel
theorem dX6_init_36 : decode cX6_init 36 = .ok (.iconst 0, 1) := by decide +kernel
theorem dX6_init_37 : decode cX6_init 37 = .ok (.putfield 28, 3) := by decide +kernel
theorem dX6_init_40 : decode cX6_init 40 = .ok (.aload_n 0, 1) := by decide +kernel
theorem dX6_init_41 : decode cX6_init 41 = .ok (.iconst 0, 1) := by decide +kernel
theorem dX6_init_42 : decode cX6_init 42 = .ok (.putfield 31, 3) := by decide +kernel
theorem dX6_init_45 : decode cX6_init 45 = .ok (.return_, 1) := by decide +kernel
theorem dX6_open_0 : decode cX6_open 0 = .ok (.aload_n 0, 1) := by decide +kernel
theorem dX6_open_1 : decode cX6_open 1 = .ok (.iload_n 1, 1) := by decide +kernel
theorem dX6_open_2 : decode cX6_open 2 = .ok (.putfield 18, 3) := by decide +kernel
theorem dX6_open_5 : decode cX6_open 5 = .ok (.aload_n 0, 1) := by decide +kernel
theorem dX6_open_6 : decode cX6_open 6 = .ok (.iload_n 2, 1) := by decide +kernel
theorem dX6_open_7 : decode cX6_open 7 = .ok (.putfield 22, 3) := by decide +kernel
theorem dX6_open_10 : decode cX6_open 10 = .ok (.aload_n 0, 1) := by decide +kernel
theorem dX6_open_11 : decode cX6_open 11 = .ok (.iconst 0, 1) := by decide +kernel
theorem dX6_open_12 : decode cX6_open 12 = .ok (.putfield 25, 3) := by decide +kernel
theorem dX6_open_15 : decode cX6_open 15 = .ok (.aload_n 0, 1) := by decide +kernel
theorem dX6_open_16 : decode cX6_open 16 = .ok (.iconst 0, 1) := by decide +kernel
theorem dX6_open_17 : decode cX6_open 17 = .ok (.putfield 28, 3) := by decide +kernel
theorem dX6_open_20 : decode cX6_open 20 = .ok (.aload_n 0, 1) := by decide +kernel
theorem dX6_open_21 : decode cX6_open 21 = .ok (.iconst 0, 1) := by decide +kernel
theorem dX6_open_22 : decode cX6_open 22 = .ok (.putfield 31, 3) := by decide +kernel
theorem dX6_open_25 : decode cX6_open 25 = .ok (.return_, 1) := by decide +kernel
theorem dX6_copyFrom_0 : decode cX6_copyFrom 0 = .ok (.aload_n 1, 1) := by decide +kernel
theorem dX6_copyFrom_1 : decode cX6_copyFrom 1 = .ok (.getfield 9, 3) := by decide +kernel
theorem dX6_copyFrom_4 : decode cX6_copyFrom 4 = .ok (.iconst 0, 1) := by decide +kernel
theorem dX6_copyFrom_5 : decode cX6_copyFrom 5 = .ok (.aload_n 0, 1) := by decide +kernel
theorem dX6_copyFrom_6 : decode cX6_copyFrom 6 = .ok (.getfield 9, 3) := by decide +kernel
theorem dX6_copyFrom_9 : decode cX6_copyFrom 9 = .ok (.iconst 0, 1) := by decide +kernel
theorem dX6_copyFrom_10 : decode cX6_copyFrom 10 = .ok (.bipush 8, 2) := by decide +kernel
theorem dX6_copyFrom_12 : decode cX6_copyFrom 12 = .ok (.invokestatic 34, 3) := by decide +kernel
theorem dX6_copyFrom_15 : decode cX6_copyFrom 15 = .ok (.aload_n 1, 1) := by decide +kernel
theorem dX6_copyFrom_16 : decode cX6_copyFrom 16 = .ok (.getfield 15, 3) := by decide +kernel
theorem dX6_copyFrom_19 : decode cX6_copyFrom 19 = .ok (.iconst 0, 1) := by decide +kernel
theorem dX6_copyFrom_20 : decode cX6_copyFrom 20 = .ok (.aload_n 0, 1) := by decide +kernel
theorem dX6_copyFrom_21 : decode cX6_copyFrom 21 = .ok (.getfield 15, 3) := by decide +kernel
theorem dX6_copyFrom_24 : decode cX6_copyFrom 24 = .ok (.iconst 0, 1) := by decide +kernel
theorem dX6_copyFrom_25 : decode cX6_copyFrom 25 = .ok (.bipush 8, 2) := by decide +kernel
theorem dX6_copyFrom_27 : decode cX6_copyFrom 27 = .ok (.invokestatic 34, 3) := by decide +kernel
theorem dX6_copyFrom_30 : decode cX6_copyFrom 30 = .ok (.aload_n 0, 1) := by decide +kernel
theorem dX6_copyFrom_31 : decode cX6_copyFrom 31 = .ok (.aload_n 1, 1) := by decide +kernel
theorem dX6_copyFrom_32 : decode cX6_copyFrom 32 = .ok (.getfield 18, 3) := by decide +kernel
theorem dX6_copyFrom_35 : decode cX6_copyFrom 35 = .ok (.putfield 18, 3) := by decide +kernel
theorem dX6_copyFrom_38 : decode cX6_copyFrom 38 = .ok (.aload_n 0, 1) := by decide +kernel
theorem dX6_copyFrom_39 : decode cX6_copyFrom 39 = .ok (.aload_n 1, 1) := by decide +kernel
theorem dX6_copyFrom_40 : decode cX6_copyFrom 40 = .ok (.getfield 22, 3) := by decide +kernel
theorem dX6_copyFrom_43 : decode cX6_copyFrom 43 = .ok (.putfield 22, 3) := by decide +kernel
theorem dX6_copyFrom_46 : decode cX6_copyFrom 46 = .ok (.aload_n 0, 1) := by decide +kernel
theorem dX6_copyFrom_47 : decode cX6_copyFrom 47 = .ok (.aload_n 1, 1) := by decide +kernel
theorem dX6_copyFrom_48 : decode cX6_copyFrom 48 = .ok (.getfield 25, 3) := by decide +kernel
theorem dX6_copyFrom_51 : decode cX6_copyFrom 51 = .ok (.putfield 25, 3) := by decide +kernel
theorem dX6_copyFrom_54 : decode cX6_copyFrom 54 = .ok (.aload_n 0, 1) := by decide +kernel
theorem dX6_copyFrom_55 : decode cX6_copyFrom 55 = .ok (.aload_n 1, 1) := by decide +kernel
theorem dX6_copyFrom_56 : decode cX6_copyFrom 56 = .ok (.getfield 28, 3) := by decide +kernel
theorem dX6_copyFrom_59 : decode cX6_copyFrom 59 = .ok (.putfield 28, 3) := by decide +kernel
theorem dX6_copyFrom_62 : decode cX6_copyFrom 62 = .ok (.aload_n 0, 1) := by decide +kernel
theorem dX6_copyFrom_63 : decode cX6_copyFrom 63 = .ok (.aload_n 1, 1) := by decide +kernel
theorem dX6_copyFrom_64 : decode cX6_copyFrom 64 = .ok (.getfield 31, 3) := by decide +kernel
theorem dX6_copyFrom_67 : decode cX6_copyFrom 67 = .ok (.putfield 31, 3) := by decide +kernel
theorem dX6_copyFrom_70 : decode cX6_copyFrom 70 = .ok (.return_, 1) := by decide +kernel
theorem dX6_hasRoom_0 : decode cX6_hasRoom 0 = .ok (.aload_n 0, 1) := by decide +kernel
theorem dX6_hasRoom_1 : decode cX6_hasRoom 1 = .ok (.getfield 28, 3) := by decide +kernel
theorem dX6_hasRoom_4 : decode cX6_hasRoom 4 = .ok (.bipush 8, 2) := by decide +kernel
theorem dX6_hasRoom_6 : decode cX6_hasRoom 6 = .ok (.if_icmp .ge 7, 3) := by decide +kernel
theorem dX6_hasRoom_9 : decode cX6_hasRoom 9 = .ok (.iconst 1, 1) := by decide +kernel
theorem dX6_hasRoom_10 : decode cX6_hasRoom 10 = .ok (.goto 4, 3) := by decide +kernel
theorem dX6_hasRoom_13 : decode cX6_hasRoom 13 = .ok (.iconst 0, 1) := by decide +kernel
theorem dX6_hasRoom_14 : decode cX6_hasRoom 14 = .ok (.ireturn, 1) := by decide +kernel
theorem dX6_knows_0 : decode cX6_knows 0 = .ok (.iconst 0, 1) := by decide +kernel
theorem dX6_knows_1 : decode cX6_knows 1 = .ok (.istore_n 2, 1) := by decide +kernel
theorem dX6_knows_2 : decode cX6_knows 2 = .ok (.iload_n 2, 1) := by decide +kernel
theorem dX6_knows_3 : decode cX6_knows 3 = .ok (.aload_n 0, 1) := by decide +kernel
theorem dX6_knows_4 : decode cX6_knows 4 = .ok (.getfield 31, 3) := by decide +kernel
theorem dX6_knows_7 : decode cX6_knows 7 = .ok (.if_icmp .ge 21, 3) := by decide +kernel
theorem dX6_knows_10 : decode cX6_knows 10 = .ok (.aload_n 0, 1) := by decide +kernel
theorem dX6_knows_11 : decode cX6_knows 11 = .ok (.getfield 15, 3) := by decide +kernel
theorem dX6_knows_14 : decode cX6_knows 14 = .ok (.iload_n 2, 1) := by decide +kernel
theorem dX6_knows_15 : decode cX6_knows 15 = .ok (.iaload, 1) := by decide +kernel
theorem dX6_knows_16 : decode cX6_knows 16 = .ok (.iload_n 1, 1) := by decide +kernel
theorem dX6_knows_17 : decode cX6_knows 17 = .ok (.if_icmp .ne 5, 3) := by decide +kernel
theorem dX6_knows_20 : decode cX6_knows 20 = .ok (.iconst 1, 1) := by decide +kernel
theorem dX6_knows_21 : decode cX6_knows 21 = .ok (.ireturn, 1) := by decide +kernel
theorem dX6_knows_22 : decode cX6_knows 22 = .ok (.iinc 2 1, 3) := by decide +kernel
theorem dX6_knows_25 : decode cX6_knows 25 = .ok (.goto (-23), 3) := by decide +kernel
theorem dX6_knows_28 : decode cX6_knows 28 = .ok (.iconst 0, 1) := by decide +kernel
theorem dX6_knows_29 : decode cX6_knows 29 = .ok (.ireturn, 1) := by decide +kernel
theorem dX6_accept_0 : decode cX6_accept 0 = .ok (.aload_n 0, 1) := by decide +kernel
theorem dX6_accept_1 : decode cX6_accept 1 = .ok (.invokevirtual 40, 3) := by decide +kernel
theorem dX6_accept_4 : decode cX6_accept 4 = .ok (.ifCond .ne 4, 3) := by decide +kernel
theorem dX6_accept_7 : decode cX6_accept 7 = .ok (.return_, 1) := by decide +kernel
theorem dX6_accept_8 : decode cX6_accept 8 = .ok (.aload_n 0, 1) := by decide +kernel
theorem dX6_accept_9 : decode cX6_accept 9 = .ok (.getfield 9, 3) := by decide +kernel
theorem dX6_accept_12 : decode cX6_accept 12 = .ok (.aload_n 0, 1) := by decide +kernel
theorem dX6_accept_13 : decode cX6_accept 13 = .ok (.getfield 28, 3) := by decide +kernel
theorem dX6_accept_16 : decode cX6_accept 16 = .ok (.iload_n 1, 1) := by decide +kernel
theorem dX6_accept_17 : decode cX6_accept 17 = .ok (.iastore, 1) := by decide +kernel
theorem dX6_accept_18 : decode cX6_accept 18 = .ok (.aload_n 0, 1) := by decide +kernel
theorem dX6_accept_19 : decode cX6_accept 19 = .ok (.dup, 1) := by decide +kernel
theorem dX6_accept_20 : decode cX6_accept 20 = .ok (.getfield 28, 3) := by decide +kernel
theorem dX6_accept_23 : decode cX6_accept 23 = .ok (.iconst 1, 1) := by decide +kernel
theorem dX6_accept_24 : decode cX6_accept 24 = .ok (.iadd, 1) := by decide +kernel
theorem dX6_accept_25 : decode cX6_accept 25 = .ok (.putfield 28, 3) := by decide +kernel
theorem dX6_accept_28 : decode cX6_accept 28 = .ok (.aload_n 0, 1) := by decide +kernel
theorem dX6_accept_29 : decode cX6_accept 29 = .ok (.dup, 1) := by decide +kernel
theorem dX6_accept_30 : decode cX6_accept 30 = .ok (.getfield 25, 3) := by decide +kernel
theorem dX6_accept_33 : decode cX6_accept 33 = .ok (.iconst 1, 1) := by decide +kernel
theorem dX6_accept_34 : decode cX6_accept 34 = .ok (.iadd, 1) := by decide +kernel
theorem dX6_accept_35 : decode cX6_accept 35 = .ok (.putfield 25, 3) := by decide +kernel
theorem dX6_accept_38 : decode cX6_accept 38 = .ok (.aload_n 0, 1) := by decide +kernel
theorem dX6_accept_39 : decode cX6_accept 39 = .ok (.iload_n 2, 1) := by decide +kernel
theorem dX6_accept_40 : decode cX6_accept 40 = .ok (.invokevirtual 44, 3) := by decide +kernel
theorem dX6_accept_43 : decode cX6_accept 43 = .ok (.return_, 1) := by decide +kernel
theorem dX6_learn_0 : decode cX6_learn 0 = .ok (.aload_n 0, 1) := by decide +kernel
theorem dX6_learn_1 : decode cX6_learn 1 = .ok (.getfield 31, 3) := by decide +kernel
theorem dX6_learn_4 : decode cX6_learn 4 = .ok (.bipush 8, 2) := by decide +kernel
theorem dX6_learn_6 : decode cX6_learn 6 = .ok (.if_icmp .lt 24, 3) := by decide +kernel
theorem dX6_learn_9 : decode cX6_learn 9 = .ok (.aload_n 0, 1) := by decide +kernel
theorem dX6_learn_10 : decode cX6_learn 10 = .ok (.getfield 15, 3) := by decide +kernel
theorem dX6_learn_13 : decode cX6_learn 13 = .ok (.iconst 1, 1) := by decide +kernel
theorem dX6_learn_14 : decode cX6_learn 14 = .ok (.aload_n 0, 1) := by decide +kernel
theorem dX6_learn_15 : decode cX6_learn 15 = .ok (.getfield 15, 3) := by decide +kernel
theorem dX6_learn_18 : decode cX6_learn 18 = .ok (.iconst 0, 1) := by decide +kernel
theorem dX6_learn_19 : decode cX6_learn 19 = .ok (.bipush 7, 2) := by decide +kernel
theorem dX6_learn_21 : decode cX6_learn 21 = .ok (.invokestatic 34, 3) := by decide +kernel
theorem dX6_learn_24 : decode cX6_learn 24 = .ok (.aload_n 0, 1) := by decide +kernel
theorem dX6_learn_25 : decode cX6_learn 25 = .ok (.bipush 7, 2) := by decide +kernel
theorem dX6_learn_27 : decode cX6_learn 27 = .ok (.putfield 31, 3) := by decide +kernel
theorem dX6_learn_30 : decode cX6_learn 30 = .ok (.aload_n 0, 1) := by decide +kernel
theorem dX6_learn_31 : decode cX6_learn 31 = .ok (.getfield 15, 3) := by decide +kernel
theorem dX6_learn_34 : decode cX6_learn 34 = .ok (.aload_n 0, 1) := by decide +kernel
theorem dX6_learn_35 : decode cX6_learn 35 = .ok (.getfield 31, 3) := by decide +kernel
theorem dX6_learn_38 : decode cX6_learn 38 = .ok (.iload_n 1, 1) := by decide +kernel
theorem dX6_learn_39 : decode cX6_learn 39 = .ok (.iastore, 1) := by decide +kernel
theorem dX6_learn_40 : decode cX6_learn 40 = .ok (.aload_n 0, 1) := by decide +kernel
theorem dX6_learn_41 : decode cX6_learn 41 = .ok (.dup, 1) := by decide +kernel
theorem dX6_learn_42 : decode cX6_learn 42 = .ok (.getfield 31, 3) := by decide +kernel
theorem dX6_learn_45 : decode cX6_learn 45 = .ok (.iconst 1, 1) := by decide +kernel
theorem dX6_learn_46 : decode cX6_learn 46 = .ok (.iadd, 1) := by decide +kernel
theorem dX6_learn_47 : decode cX6_learn 47 = .ok (.putfield 31, 3) := by decide +kernel
theorem dX6_learn_50 : decode cX6_learn 50 = .ok (.return_, 1) := by decide +kernel
theorem dX6_takeFirst_0 : decode cX6_takeFirst 0 = .ok (.aload_n 0, 1) := by decide +kernel
theorem dX6_takeFirst_1 : decode cX6_takeFirst 1 = .ok (.getfield 28, 3) := by decide +kernel
theorem dX6_takeFirst_4 : decode cX6_takeFirst 4 = .ok (.ifCond .gt 5, 3) := by decide +kernel
theorem dX6_takeFirst_7 : decode cX6_takeFirst 7 = .ok (.iconst (-1), 1) := by decide +kernel
theorem dX6_takeFirst_8 : decode cX6_takeFirst 8 = .ok (.ireturn, 1) := by decide +kernel
theorem dX6_takeFirst_9 : decode cX6_takeFirst 9 = .ok (.aload_n 0, 1) := by decide +kernel
theorem dX6_takeFirst_10 : decode cX6_takeFirst 10 = .ok (.getfield 9, 3) := by decide +kernel
theorem dX6_takeFirst_13 : decode cX6_takeFirst 13 = .ok (.iconst 0, 1) := by decide +kernel
theorem dX6_takeFirst_14 : decode cX6_takeFirst 14 = .ok (.iaload, 1) := by decide +kernel
theorem dX6_takeFirst_15 : decode cX6_takeFirst 15 = .ok (.istore_n 1, 1) := by decide +kernel
theorem dX6_takeFirst_16 : decode cX6_takeFirst 16 = .ok (.aload_n 0, 1) := by decide +kernel
theorem dX6_takeFirst_17 : decode cX6_takeFirst 17 = .ok (.getfield 9, 3) := by decide +kernel
theorem dX6_takeFirst_20 : decode cX6_takeFirst 20 = .ok (.iconst 1, 1) := by decide +kernel
theorem dX6_takeFirst_21 : decode cX6_takeFirst 21 = .ok (.aload_n 0, 1) := by decide +kernel
theorem dX6_takeFirst_22 : decode cX6_takeFirst 22 = .ok (.getfield 9, 3) := by decide +kernel
theorem dX6_takeFirst_25 : decode cX6_takeFirst 25 = .ok (.iconst 0, 1) := by decide +kernel
theorem dX6_takeFirst_26 : decode cX6_takeFirst 26 = .ok (.bipush 7, 2) := by decide +kernel
theorem dX6_takeFirst_28 : decode cX6_takeFirst 28 = .ok (.invokestatic 34, 3) := by decide +kernel
theorem dX6_takeFirst_31 : decode cX6_takeFirst 31 = .ok (.aload_n 0, 1) := by decide +kernel
theorem dX6_takeFirst_32 : decode cX6_takeFirst 32 = .ok (.dup, 1) := by decide +kernel
theorem dX6_takeFirst_33 : decode cX6_takeFirst 33 = .ok (.getfield 28, 3) := by decide +kernel
theorem dX6_takeFirst_36 : decode cX6_takeFirst 36 = .ok (.iconst 1, 1) := by decide +kernel
theorem dX6_takeFirst_37 : decode cX6_takeFirst 37 = .ok (.isub, 1) := by decide +kernel
theorem dX6_takeFirst_38 : decode cX6_takeFirst 38 = .ok (.putfield 28, 3) := by decide +kernel
theorem dX6_takeFirst_41 : decode cX6_takeFirst 41 = .ok (.iload_n 1, 1) := by decide +kernel
theorem dX6_takeFirst_42 : decode cX6_takeFirst 42 = .ok (.ireturn, 1) := by decide +kernel
theorem dX7_init_0 : decode cX7_init 0 = .ok (.aload_n 0, 1) := by decide +kernel
theorem dX7_init_1 : decode cX7_init 1 = .ok (.invokespecial 3, 3) := by decide +kernel
theorem dX7_init_4 : decode cX7_init 4 = .ok (.aload_n 0, 1) := by decide +kernel
theorem dX7_init_5 : decode cX7_init 5 = .ok (.bipush 60, 2) := by decide +kernel
theorem dX7_init_7 : decode cX7_init 7 = .ok (.newarray .char, 2) := by decide +kernel
theorem dX7_init_9 : decode cX7_init 9 = .ok (.putfield 9, 3) := by decide +kernel
theorem dX7_init_12 : decode cX7_init 12 = .ok (.aload_n 0, 1) := by decide +kernel
theorem dX7_init_13 : decode cX7_init 13 = .ok (.bipush 60, 2) := by decide +kernel
theorem dX7_init_15 : decode cX7_init 15 = .ok (.anewarray 15, 3) := by decide +kernel
theorem dX7_init_18 : decode cX7_init 18 = .ok (.putfield 17, 3) := by decide +kernel
theorem dX7_init_21 : decode cX7_init 21 = .ok (.aload_n 0, 1) := by decide +kernel
theorem dX7_init_22 : decode cX7_init 22 = .ok (.iconst 0, 1) := by decide +kernel
theorem dX7_init_23 : decode cX7_init 23 = .ok (.putfield 21, 3) := by decide +kernel
theorem dX7_init_26 : decode cX7_init 26 = .ok (.aload_n 0, 1) := by decide +kernel
theorem dX7_init_27 : decode cX7_init 27 = .ok (.iconst 0, 1) := by decide +kernel
theorem dX7_init_28 : decode cX7_init 28 = .ok (.putfield 25, 3) := by decide +kernel
theorem dX7_init_31 : decode cX7_init 31 = .ok (.aload_n 0, 1) := by decide +kernel
theorem dX7_init_32 : decode cX7_init 32 = .ok (.iconst 0, 1) := by decide +kernel
theorem dX7_init_33 : decode cX7_init 33 = .ok (.putfield 28, 3) := by decide +kernel
theorem dX7_init_36 : decode cX7_init 36 = .ok (.aload_n 0, 1) := by decide +kernel
theorem dX7_init_37 : decode cX7_init 37 = .ok (.iconst 0, 1) := by decide +kernel
theorem dX7_init_38 : decode cX7_init 38 = .ok (.putfield 31, 3) := by decide +kernel
theorem dX7_init_41 : decode cX7_init 41 = .ok (.aload_n 0, 1) := by decide +kernel
theorem dX7_init_42 : decode cX7_init 42 = .ok (.iconst 0, 1) := by decide +kernel
theorem dX7_init_43 : decode cX7_init 43 = .ok (.putfield 34, 3) := by decide +kernel
theorem dX7_init_46 : decode cX7_init 46 = .ok (.aload_n 0, 1) := by decide +kernel
theorem dX7_init_47 : decode cX7_init 47 = .ok (.iconst 0, 1) := by decide +kernel
theorem dX7_init_48 : decode cX7_init 48 = .ok (.putfield 37, 3) := by decide +kernel
theorem dX7_init_51 : decode cX7_init 51 = .ok (.aload_n 0, 1) := by decide +kernel
theorem dX7_init_52 : decode cX7_init 52 = .ok (.iconst 0, 1) := by decide +kernel
theorem dX7_init_53 : decode cX7_init 53 = .ok (.putfield 40, 3) := by decide +kernel
theorem dX7_init_56 : decode cX7_init 56 = .ok (.iconst 0, 1) := by decide +kernel
theorem dX7_init_57 : decode cX7_init 57 = .ok (.istore_n 1, 1) := by decide +kernel
theorem dX7_init_58 : decode cX7_init 58 = .ok (.iload_n 1, 1) := by decide +kernel
theorem dX7_init_59 : decode cX7_init 59 = .ok (.bipush 60, 2) := by decide +kernel
theorem dX7_init_61 : decode cX7_init 61 = .ok (.if_icmp .ge 22, 3) := by decide +kernel
theorem dX7_init_64 : decode cX7_init 64 = .ok (.aload_n 0, 1) := by decide +kernel
theorem dX7_init_65 : decode cX7_init 65 = .ok (.getfield 17, 3) := by decide +kernel
theorem dX7_init_68 : decode cX7_init 68 = .ok (.iload_n 1, 1) := by decide +kernel
theorem dX7_init_69 : decode cX7_init 69 = .ok (.new 15, 3) := by decide +kernel
theorem dX7_init_72 : decode cX7_init 72 = .ok (.dup, 1) := by decide +kernel
theorem dX7_init_73 : decode cX7_init 73 = .ok (.invokespecial 44, 3) := by decide +kernel
theorem dX7_init_76 : decode cX7_init 76 = .ok (.aastore, 1) := by decide +kernel
theorem dX7_init_77 : decode cX7_init 77 = .ok (.iinc 1 1, 3) := by decide +kernel
theorem dX7_init_80 : decode cX7_init 80 = .ok (.goto (-22), 3) := by decide +kernel
theorem dX7_init_83 : decode cX7_init 83 = .ok (.return_, 1) := by decide +kernel
theorem dX7_append_0 : decode cX7_append 0 = .ok (.aload_n 0, 1) := by decide +kernel
theorem dX7_append_1 : decode cX7_append 1 = .ok (.getfield 21, 3) := by decide +kernel
theorem dX7_append_4 : decode cX7_append 4 = .ok (.bipush 60, 2) := by decide +kernel
theorem dX7_append_6 : decode cX7_append 6 = .ok (.if_icmp .ge 23, 3) := by decide +kernel
theorem dX7_append_9 : decode cX7_append 9 = .ok (.aload_n 0, 1) := by decide +kernel
theorem dX7_append_10 : decode cX7_append 10 = .ok (.getfield 9, 3) := by decide +kernel
theorem dX7_append_13 : decode cX7_append 13 = .ok (.aload_n 0, 1) := by decide +kernel
theorem dX7_append_14 : decode cX7_append 14 = .ok (.getfield 21, 3) := by decide +kernel
theorem dX7_append_17 : decode cX7_append 17 = .ok (.iload_n 1, 1) := by decide +kernel
theorem dX7_append_18 : decode cX7_append 18 = .ok (.castore, 1) := by decide +kernel
theorem dX7_append_19 : decode cX7_append 19 = .ok (.aload_n 0, 1) := by decide +kernel
theorem dX7_append_20 : decode cX7_append 20 = .ok (.dup, 1) := by decide +kernel
theorem dX7_append_21 : decode cX7_append 21 = .ok (.getfield 21, 3) := by decide +kernel
theorem dX7_append_24 : decode cX7_append 24 = .ok (.iconst 1, 1) := by decide +kernel
theorem dX7_append_25 : decode cX7_append 25 = .ok (.iadd, 1) := by decide +kernel
theorem dX7_append_26 : decode cX7_append 26 = .ok (.putfield 21, 3) := by decide +kernel
theorem dX7_append_29 : decode cX7_append 29 = .ok (.aload_n 0, 1) := by decide +kernel
theorem dX7_append_30 : decode cX7_append 30 = .ok (.getfield 21, 3) := by decide +kernel
theorem dX7_append_33 : decode cX7_append 33 = .ok (.ireturn, 1) := by decide +kernel
theorem dX7_split_0 : decode cX7_split 0 = .ok (.iconst 0, 1) := by decide +kernel
theorem dX7_split_1 : decode cX7_split 1 = .ok (.istore_n 1, 1) := by decide +kernel
theorem dX7_split_2 : decode cX7_split 2 = .ok (.iconst 0, 1) := by decide +kernel
theorem dX7_split_3 : decode cX7_split 3 = .ok (.istore_n 2, 1) := by decide +kernel
theorem dX7_split_4 : decode cX7_split 4 = .ok (.iload_n 2, 1) := by decide +kernel
theorem dX7_split_5 : decode cX7_split 5 = .ok (.bipush 60, 2) := by decide +kernel
theorem dX7_split_7 : decode cX7_split 7 = .ok (.if_icmp .ge 68, 3) := by decide +kernel
theorem dX7_split_10 : decode cX7_split 10 = .ok (.aload_n 0, 1) := by decide +kernel
theorem dX7_split_11 : decode cX7_split 11 = .ok (.aload_n 0, 1) := by decide +kernel
theorem dX7_split_12 : decode cX7_split 12 = .ok (.getfield 17, 3) := by decide +kernel
theorem dX7_split_15 : decode cX7_split 15 = .ok (.iload_n 2, 1) := by decide +kernel
theorem dX7_split_16 : decode cX7_split 16 = .ok (.aaload, 1) := by decide +kernel
theorem dX7_split_17 : decode cX7_split 17 = .ok (.iload_n 1, 1) := by decide +kernel
theorem dX7_split_18 : decode cX7_split 18 = .ok (.invokevirtual 45, 3) := by decide +kernel
theorem dX7_split_21 : decode cX7_split 21 = .ok (.ifCond .ne 5, 3) := by decide +kernel
theorem dX7_split_24 : decode cX7_split 24 = .ok (.iconst 0, 1) := by decide +kernel
theorem dX7_split_25 : decode cX7_split 25 = .ok (.ireturn, 1) := by decide +kernel
theorem dX7_split_26 : decode cX7_split 26 = .ok (.aload_n 0, 1) := by decide +kernel
theorem dX7_split_27 : decode cX7_split 27 = .ok (.iload_n 2, 1) := by decide +kernel
theorem dX7_split_28 : decode cX7_split 28 = .ok (.iconst 1, 1) := by decide +kernel
theorem dX7_split_29 : decode cX7_split 29 = .ok (.iadd, 1) := by decide +kernel
theorem dX7_split_30 : decode cX7_split 30 = .ok (.putfield 25, 3) := by decide +kernel
theorem dX7_split_33 : decode cX7_split 33 = .ok (.aload_n 0, 1) := by decide +kernel
theorem dX7_split_34 : decode cX7_split 34 = .ok (.getfield 28, 3) := by decide +kernel
theorem dX7_split_37 : decode cX7_split 37 = .ok (.aload_n 0, 1) := by decide +kernel
theorem dX7_split_38 : decode cX7_split 38 = .ok (.getfield 21, 3) := by decide +kernel
theorem dX7_split_41 : decode cX7_split 41 = .ok (.if_icmp .lt 5, 3) := by decide +kernel
theorem dX7_split_44 : decode cX7_split 44 = .ok (.iconst 1, 1) := by decide +kernel
theorem dX7_split_45 : decode cX7_split 45 = .ok (.ireturn, 1) := by decide +kernel
theorem dX7_split_46 : decode cX7_split 46 = .ok (.aload_n 0, 1) := by decide +kernel
theorem dX7_split_47 : decode cX7_split 47 = .ok (.getfield 9, 3) := by decide +kernel
theorem dX7_split_50 : decode cX7_split 50 = .ok (.aload_n 0, 1) := by decide +kernel
theorem dX7_split_51 : decode cX7_split 51 = .ok (.getfield 28, 3) := by decide +kernel
theorem dX7_split_54 : decode cX7_split 54 = .ok (.caload, 1) := by decide +kernel
theorem dX7_split_55 : decode cX7_split 55 = .ok (.bipush 59, 2) := by decide +kernel
theorem dX7_split_57 : decode cX7_split 57 = .ok (.if_icmp .eq 5, 3) := by decide +kernel
theorem dX7_split_60 : decode cX7_split 60 = .ok (.iconst 0, 1) := by decide +kernel
theorem dX7_split_61 : decode cX7_split 61 = .ok (.ireturn, 1) := by decide +kernel
theorem dX7_split_62 : decode cX7_split 62 = .ok (.aload_n 0, 1) := by decide +kernel
theorem dX7_split_63 : decode cX7_split 63 = .ok (.getfield 28, 3) := by decide +kernel
theorem dX7_split_66 : decode cX7_split 66 = .ok (.iconst 1, 1) := by decide +kernel
theorem dX7_split_67 : decode cX7_split 67 = .ok (.iadd, 1) := by decide +kernel
theorem dX7_split_68 : decode cX7_split 68 = .ok (.istore_n 1, 1) := by decide +kernel
theorem dX7_split_69 : decode cX7_split 69 = .ok (.iinc 2 1, 3) := by decide +kernel
theorem dX7_split_72 : decode cX7_split 72 = .ok (.goto (-68), 3) := by decide +kernel
theorem dX7_split_75 : decode cX7_split 75 = .ok (.iconst 0, 1) := by decide +kernel
theorem dX7_split_76 : decode cX7_split 76 = .ok (.ireturn, 1) := by decide +kernel
theorem dX7_readCommand_0 : decode cX7_readCommand 0 = .ok (.iconst (-1), 1) := by decide +kernel
theorem dX7_readCommand_1 : decode cX7_readCommand 1 = .ok (.istore_n 3, 1) := by decide +kernel
theorem dX7_readCommand_2 : decode cX7_readCommand 2 = .ok (.aload_n 0, 1) := by decide +kernel
theorem dX7_readCommand_3 : decode cX7_readCommand 3 = .ok (.iload_n 2, 1) := by decide +kernel
theorem dX7_readCommand_4 : decode cX7_readCommand 4 = .ok (.putfield 28, 3) := by decide +kernel
theorem dX7_readCommand_7 : decode cX7_readCommand 7 = .ok (.getstatic 49, 3) := by decide +kernel
theorem dX7_readCommand_10 : decode cX7_readCommand 10 = .ok (.astore 4, 2) := by decide +kernel
theorem dX7_readCommand_12 : decode cX7_readCommand 12 = .ok (.aload 4, 2) := by decide +kernel
theorem dX7_readCommand_14 : decode cX7_readCommand 14 = .ok (.arraylength, 1) := by decide +kernel
theorem dX7_readCommand_15 : decode cX7_readCommand 15 = .ok (.istore 5, 2) := by decide +kernel
theorem dX7_readCommand_17 : decode cX7_readCommand 17 = .ok (.iconst 0, 1) := by decide +kernel
theorem dX7_readCommand_18 : decode cX7_readCommand 18 = .ok (.istore 6, 2) := by decide +kernel
theorem dX7_readCommand_20 : decode cX7_readCommand 20 = .ok (.iload 6, 2) := by decide +kernel
theorem dX7_readCommand_22 : decode cX7_readCommand 22 = .ok (.iload 5, 2) := by decide +kernel
theorem dX7_readCommand_24 : decode cX7_readCommand 24 = .ok (.if_icmp .ge 73, 3) := by decide +kernel
theorem dX7_readCommand_27 : decode cX7_readCommand 27 = .ok (.aload 4, 2) := by decide +kernel
theorem dX7_readCommand_29 : decode cX7_readCommand 29 = .ok (.iload 6, 2) := by decide +kernel
theorem dX7_readCommand_31 : decode cX7_readCommand 31 = .ok (.aaload, 1) := by decide +kernel
theorem dX7_readCommand_32 : decode cX7_readCommand 32 = .ok (.astore 7, 2) := by decide +kernel
theorem dX7_readCommand_34 : decode cX7_readCommand 34 = .ok (.aload_n 0, 1) := by decide +kernel
theorem dX7_readCommand_35 : decode cX7_readCommand 35 = .ok (.aload 7, 2) := by decide +kernel
theorem dX7_readCommand_37 : decode cX7_readCommand 37 = .ok (.getfield 53, 3) := by decide +kernel
theorem dX7_readCommand_40 : decode cX7_readCommand 40 = .ok (.iload_n 2, 1) := by decide +kernel
theorem dX7_readCommand_41 : decode cX7_readCommand 41 = .ok (.invokevirtual 59, 3) := by decide +kernel
theorem dX7_readCommand_44 : decode cX7_readCommand 44 = .ok (.istore 8, 2) := by decide +kernel
theorem dX7_readCommand_46 : decode cX7_readCommand 46 = .ok (.aload_n 0, 1) := by decide +kernel
theorem dX7_readCommand_47 : decode cX7_readCommand 47 = .ok (.getfield 40, 3) := by decide +kernel
theorem dX7_readCommand_50 : decode cX7_readCommand 50 = .ok (.ifCond .eq 28, 3) := by decide +kernel
theorem dX7_readCommand_53 : decode cX7_readCommand 53 = .ok (.aload_n 1, 1) := by decide +kernel
theorem dX7_readCommand_54 : decode cX7_readCommand 54 = .ok (.aload 7, 2) := by decide +kernel
theorem dX7_readCommand_56 : decode cX7_readCommand 56 = .ok (.putfield 63, 3) := by decide +kernel
theorem dX7_readCommand_59 : decode cX7_readCommand 59 = .ok (.aload_n 1, 1) := by decide +kernel
theorem dX7_readCommand_60 : decode cX7_readCommand 60 = .ok (.aload_n 0, 1) := by decide +kernel
theorem dX7_readCommand_61 : decode cX7_readCommand 61 = .ok (.getfield 34, 3) := by decide +kernel
theorem dX7_readCommand_64 : decode cX7_readCommand 64 = .ok (.putfield 67, 3) := by decide +kernel
theorem dX7_readCommand_67 : decode cX7_readCommand 67 = .ok (.aload_n 1, 1) := by decide +kernel
theorem dX7_readCommand_68 : decode cX7_readCommand 68 = .ok (.aload_n 0, 1) := by decide +kernel
theorem dX7_readCommand_69 : decode cX7_readCommand 69 = .ok (.getfield 37, 3) := by decide +kernel
theorem dX7_readCommand_72 : decode cX7_readCommand 72 = .ok (.putfield 70, 3) := by decide +kernel
theorem dX7_readCommand_75 : decode cX7_readCommand 75 = .ok (.iload 8, 2) := by decide +kernel
theorem dX7_readCommand_77 : decode cX7_readCommand 77 = .ok (.istore_n 3, 1) := by decide +kernel
theorem dX7_readCommand_78 : decode cX7_readCommand 78 = .ok (.aload_n 0, 1) := by decide +kernel
theorem dX7_readCommand_79 : decode cX7_readCommand 79 = .ok (.aload_n 0, 1) := by decide +kernel
theorem dX7_readCommand_80 : decode cX7_readCommand 80 = .ok (.getfield 28, 3) := by decide +kernel
theorem dX7_readCommand_83 : decode cX7_readCommand 83 = .ok (.iload 8, 2) := by decide +kernel
theorem dX7_readCommand_85 : decode cX7_readCommand 85 = .ok (.invokestatic 73, 3) := by decide +kernel
theorem dX7_readCommand_88 : decode cX7_readCommand 88 = .ok (.putfield 28, 3) := by decide +kernel
theorem dX7_readCommand_91 : decode cX7_readCommand 91 = .ok (.iinc 6 1, 3) := by decide +kernel
theorem dX7_readCommand_94 : decode cX7_readCommand 94 = .ok (.goto (-74), 3) := by decide +kernel
theorem dX7_readCommand_97 : decode cX7_readCommand 97 = .ok (.iload_n 3, 1) := by decide +kernel
theorem dX7_readCommand_98 : decode cX7_readCommand 98 = .ok (.aload_n 0, 1) := by decide +kernel
theorem dX7_readCommand_99 : decode cX7_readCommand 99 = .ok (.getfield 28, 3) := by decide +kernel
theorem dX7_readCommand_102 : decode cX7_readCommand 102 = .ok (.if_icmp .ne 7, 3) := by decide +kernel
theorem dX7_readCommand_105 : decode cX7_readCommand 105 = .ok (.iconst 1, 1) := by decide +kernel
theorem dX7_readCommand_106 : decode cX7_readCommand 106 = .ok (.goto 4, 3) := by decide +kernel
theorem dX7_readCommand_109 : decode cX7_readCommand 109 = .ok (.iconst 0, 1) := by decide +kernel
theorem dX7_readCommand_110 : decode cX7_readCommand 110 = .ok (.ireturn, 1) := by decide +kernel
theorem dX7_match_0 : decode cX7_match 0 = .ok (.iload_n 2, 1) := by decide +kernel
theorem dX7_match_1 : decode cX7_match 1 = .ok (.istore_n 3, 1) := by decide +kernel
theorem dX7_match_2 : decode cX7_match 2 = .ok (.aload_n 0, 1) := by decide +kernel
theorem dX7_match_3 : decode cX7_match 3 = .ok (.iconst 0, 1) := by decide +kernel
theorem dX7_match_4 : decode cX7_match 4 = .ok (.putfield 31, 3) := by decide +kernel
theorem dX7_match_7 : decode cX7_match 7 = .ok (.aload_n 0, 1) := by decide +kernel
theorem dX7_match_8 : decode cX7_match 8 = .ok (.iconst 0, 1) := by decide +kernel
theorem dX7_match_9 : decode cX7_match 9 = .ok (.putfield 40, 3) := by decide +kernel
theorem dX7_match_12 : decode cX7_match 12 = .ok (.iconst 0, 1) := by decide +kernel
theorem dX7_match_13 : decode cX7_match 13 = .ok (.istore 4, 2) := by decide +kernel
theorem dX7_match_15 : decode cX7_match 15 = .ok (.iload 4, 2) := by decide +kernel
theorem dX7_match_17 : decode cX7_match 17 = .ok (.aload_n 1, 1) := by decide +kernel
theorem dX7_match_18 : decode cX7_match 18 = .ok (.invokevirtual 79, 3) := by decide +kernel
theorem dX7_match_21 : decode cX7_match 21 = .ok (.if_icmp .ge 34, 3) := by decide +kernel
theorem dX7_match_24 : decode cX7_match 24 = .ok (.aload_n 0, 1) := by decide +kernel
theorem dX7_match_25 : decode cX7_match 25 = .ok (.aload_n 1, 1) := by decide +kernel
theorem dX7_match_26 : decode cX7_match 26 = .ok (.iload 4, 2) := by decide +kernel
theorem dX7_match_28 : decode cX7_match 28 = .ok (.invokevirtual 84, 3) := by decide +kernel
theorem dX7_match_31 : decode cX7_match 31 = .ok (.iload_n 3, 1) := by decide +kernel
theorem dX7_match_32 : decode cX7_match 32 = .ok (.invokevirtual 88, 3) := by decide +kernel
theorem dX7_match_35 : decode cX7_match 35 = .ok (.istore 5, 2) := by decide +kernel
theorem dX7_match_37 : decode cX7_match 37 = .ok (.iload 5, 2) := by decide +kernel
theorem dX7_match_39 : decode cX7_match 39 = .ok (.ifCond .ne 5, 3) := by decide +kernel
theorem dX7_match_42 : decode cX7_match 42 = .ok (.iload_n 3, 1) := by decide +kernel
theorem dX7_match_43 : decode cX7_match 43 = .ok (.ireturn, 1) := by decide +kernel
theorem dX7_match_44 : decode cX7_match 44 = .ok (.iload_n 3, 1) := by decide +kernel
theorem dX7_match_45 : decode cX7_match 45 = .ok (.iload 5, 2) := by decide +kernel
theorem dX7_match_47 : decode cX7_match 47 = .ok (.iadd, 1) := by decide +kernel
theorem dX7_match_48 : decode cX7_match 48 = .ok (.istore_n 3, 1) := by decide +kernel
theorem dX7_match_49 : decode cX7_match 49 = .ok (.iinc 4 1, 3) := by decide +kernel
theorem dX7_match_52 : decode cX7_match 52 = .ok (.goto (-37), 3) := by decide +kernel
theorem dX7_match_55 : decode cX7_match 55 = .ok (.aload_n 0, 1) := by decide +kernel
theorem dX7_match_56 : decode cX7_match 56 = .ok (.iconst 1, 1) := by decide +kernel
theorem dX7_match_57 : decode cX7_match 57 = .ok (.putfield 40, 3) := by decide +kernel
theorem dX7_match_60 : decode cX7_match 60 = .ok (.iload_n 3, 1) := by decide +kernel
theorem dX7_match_61 : decode cX7_match 61 = .ok (.ireturn, 1) := by decide +kernel
theorem dX7_widthOf_0 : decode cX7_widthOf 0 = .ok (.iload_n 1, 1) := by decide +kernel
theorem dX7_widthOf_1 : decode cX7_widthOf 1 = .ok (.bipush 35, 2) := by decide +kernel
theorem dX7_widthOf_3 : decode cX7_widthOf 3 = .ok (.if_icmp .ne 10, 3) := by decide +kernel
theorem dX7_widthOf_6 : decode cX7_widthOf 6 = .ok (.aload_n 0, 1) := by decide +kernel
theorem dX7_widthOf_7 : decode cX7_widthOf 7 = .ok (.iload_n 2, 1) := by decide +kernel
theorem dX7_widthOf_8 : decode cX7_widthOf 8 = .ok (.iconst 1, 1) := by decide +kernel
theorem dX7_widthOf_9 : decode cX7_widthOf 9 = .ok (.invokevirtual 92, 3) := by decide +kernel
theorem dX7_widthOf_12 : decode cX7_widthOf 12 = .ok (.ireturn, 1) := by decide +kernel
theorem dX7_widthOf_13 : decode cX7_widthOf 13 = .ok (.iload_n 1, 1) := by decide +kernel
theorem dX7_widthOf_14 : decode cX7_widthOf 14 = .ok (.bipush 37, 2) := by decide +kernel
theorem dX7_widthOf_16 : decode cX7_widthOf 16 = .ok (.if_icmp .ne 10, 3) := by decide +kernel
theorem dX7_widthOf_19 : decode cX7_widthOf 19 = .ok (.aload_n 0, 1) := by decide +kernel
theorem dX7_widthOf_20 : decode cX7_widthOf 20 = .ok (.iload_n 2, 1) := by decide +kernel
theorem dX7_widthOf_21 : decode cX7_widthOf 21 = .ok (.iconst 3, 1) := by decide +kernel
theorem dX7_widthOf_22 : decode cX7_widthOf 22 = .ok (.invokevirtual 92, 3) := by decide +kernel
theorem dX7_widthOf_25 : decode cX7_widthOf 25 = .ok (.ireturn, 1) := by decide +kernel
theorem dX7_widthOf_26 : decode cX7_widthOf 26 = .ok (.iload_n 2, 1) := by decide +kernel
theorem dX7_widthOf_27 : decode cX7_widthOf 27 = .ok (.ifCond .lt 25, 3) := by decide +kernel
theorem dX7_widthOf_30 : decode cX7_widthOf 30 = .ok (.iload_n 2, 1) := by decide +kernel
theorem dX7_widthOf_31 : decode cX7_widthOf 31 = .ok (.aload_n 0, 1) := by decide +kernel
theorem dX7_widthOf_32 : decode cX7_widthOf 32 = .ok (.getfield 21, 3) := by decide +kernel
theorem dX7_widthOf_35 : decode cX7_widthOf 35 = .ok (.if_icmp .ge 17, 3) := by decide +kernel
theorem dX7_widthOf_38 : decode cX7_widthOf 38 = .ok (.aload_n 0, 1) := by decide +kernel
theorem dX7_widthOf_39 : decode cX7_widthOf 39 = .ok (.getfield 9, 3) := by decide +kernel
theorem dX7_widthOf_42 : decode cX7_widthOf 42 = .ok (.iload_n 2, 1) := by decide +kernel
theorem dX7_widthOf_43 : decode cX7_widthOf 43 = .ok (.caload, 1) := by decide +kernel
theorem dX7_widthOf_44 : decode cX7_widthOf 44 = .ok (.iload_n 1, 1) := by decide +kernel
theorem dX7_widthOf_45 : decode cX7_widthOf 45 = .ok (.if_icmp .ne 7, 3) := by decide +kernel
theorem dX7_widthOf_48 : decode cX7_widthOf 48 = .ok (.iconst 1, 1) := by decide +kernel
theorem dX7_widthOf_49 : decode cX7_widthOf 49 = .ok (.goto 4, 3) := by decide +kernel
theorem dX7_widthOf_52 : decode cX7_widthOf 52 = .ok (.iconst 0, 1) := by decide +kernel
theorem dX7_widthOf_53 : decode cX7_widthOf 53 = .ok (.ireturn, 1) := by decide +kernel
theorem dX7_readNumber_0 : decode cX7_readNumber 0 = .ok (.iconst 0, 1) := by decide +kernel
theorem dX7_readNumber_1 : decode cX7_readNumber 1 = .ok (.istore_n 3, 1) := by decide +kernel
theorem dX7_readNumber_2 : decode cX7_readNumber 2 = .ok (.iconst 0, 1) := by decide +kernel
theorem dX7_readNumber_3 : decode cX7_readNumber 3 = .ok (.istore 4, 2) := by decide +kernel
theorem dX7_readNumber_5 : decode cX7_readNumber 5 = .ok (.iload_n 1, 1) := by decide +kernel
theorem dX7_readNumber_6 : decode cX7_readNumber 6 = .ok (.istore 5, 2) := by decide +kernel
theorem dX7_readNumber_8 : decode cX7_readNumber 8 = .ok (.iload_n 3, 1) := by decide +kernel
theorem dX7_readNumber_9 : decode cX7_readNumber 9 = .ok (.iload_n 2, 1) := by decide +kernel
theorem dX7_readNumber_10 : decode cX7_readNumber 10 = .ok (.if_icmp .ge 39, 3) := by decide +kernel
theorem dX7_readNumber_13 : decode cX7_readNumber 13 = .ok (.aload_n 0, 1) := by decide +kernel
theorem dX7_readNumber_14 : decode cX7_readNumber 14 = .ok (.iload 5, 2) := by decide +kernel
theorem dX7_readNumber_16 : decode cX7_readNumber 16 = .ok (.invokevirtual 95, 3) := by decide +kernel
theorem dX7_readNumber_19 : decode cX7_readNumber 19 = .ok (.ifCond .eq 30, 3) := by decide +kernel
theorem dX7_readNumber_22 : decode cX7_readNumber 22 = .ok (.iload 4, 2) := by decide +kernel
theorem dX7_readNumber_24 : decode cX7_readNumber 24 = .ok (.bipush 10, 2) := by decide +kernel
theorem dX7_readNumber_26 : decode cX7_readNumber 26 = .ok (.imul, 1) := by decide +kernel
theorem dX7_readNumber_27 : decode cX7_readNumber 27 = .ok (.aload_n 0, 1) := by decide +kernel
theorem dX7_readNumber_28 : decode cX7_readNumber 28 = .ok (.getfield 9, 3) := by decide +kernel
theorem dX7_readNumber_31 : decode cX7_readNumber 31 = .ok (.iload 5, 2) := by decide +kernel
theorem dX7_readNumber_33 : decode cX7_readNumber 33 = .ok (.caload, 1) := by decide +kernel
theorem dX7_readNumber_34 : decode cX7_readNumber 34 = .ok (.iadd, 1) := by decide +kernel
theorem dX7_readNumber_35 : decode cX7_readNumber 35 = .ok (.bipush 48, 2) := by decide +kernel
theorem dX7_readNumber_37 : decode cX7_readNumber 37 = .ok (.isub, 1) := by decide +kernel
theorem dX7_readNumber_38 : decode cX7_readNumber 38 = .ok (.istore 4, 2) := by decide +kernel
theorem dX7_readNumber_40 : decode cX7_readNumber 40 = .ok (.iinc 3 1, 3) := by decide +kernel
theorem dX7_readNumber_43 : decode cX7_readNumber 43 = .ok (.iinc 5 1, 3) := by decide +kernel
theorem dX7_readNumber_46 : decode cX7_readNumber 46 = .ok (.goto (-38), 3) := by decide +kernel
theorem dX7_readNumber_49 : decode cX7_readNumber 49 = .ok (.aload_n 0, 1) := by decide +kernel
theorem dX7_readNumber_50 : decode cX7_readNumber 50 = .ok (.getfield 31, 3) := by decide +kernel
theorem dX7_readNumber_53 : decode cX7_readNumber 53 = .ok (.ifCond .ne 12, 3) := by decide +kernel
theorem dX7_readNumber_56 : decode cX7_readNumber 56 = .ok (.aload_n 0, 1) := by decide +kernel
theorem dX7_readNumber_57 : decode cX7_readNumber 57 = .ok (.iload 4, 2) := by decide +kernel
theorem dX7_readNumber_59 : decode cX7_readNumber 59 = .ok (.putfield 34, 3) := by decide +kernel
theorem dX7_readNumber_62 : decode cX7_readNumber 62 = .ok (.goto 9, 3) := by decide +kernel
theorem dX7_readNumber_65 : decode cX7_readNumber 65 = .ok (.aload_n 0, 1) := by decide +kernel
theorem dX7_readNumber_66 : decode cX7_readNumber 66 = .ok (.iload 4, 2) := by decide +kernel
theorem dX7_readNumber_68 : decode cX7_readNumber 68 = .ok (.putfield 37, 3) := by decide +kernel
theorem dX7_readNumber_71 : decode cX7_readNumber 71 = .ok (.aload_n 0, 1) := by decide +kernel
theorem dX7_readNumber_72 : decode cX7_readNumber 72 = .ok (.dup, 1) := by decide +kernel
theorem dX7_readNumber_73 : decode cX7_readNumber 73 = .ok (.getfield 31, 3) := by decide +kernel
theorem dX7_readNumber_76 : decode cX7_readNumber 76 = .ok (.iconst 1, 1) := by decide +kernel
theorem dX7_readNumber_77 : decode cX7_readNumber 77 = .ok (.iadd, 1) := by decide +kernel
theorem dX7_readNumber_78 : decode cX7_readNumber 78 = .ok (.putfield 31, 3) := by decide +kernel
theorem dX7_readNumber_81 : decode cX7_readNumber 81 = .ok (.iload_n 3, 1) := by decide +kernel
theorem dX7_readNumber_82 : decode cX7_readNumber 82 = .ok (.ireturn, 1) := by decide +kernel
theorem dX7_isDigitAt_0 : decode cX7_isDigitAt 0 = .ok (.iload_n 1, 1) := by decide +kernel
theorem dX7_isDigitAt_1 : decode cX7_isDigitAt 1 = .ok (.ifCond .lt 37, 3) := by decide +kernel
theorem dX7_isDigitAt_4 : decode cX7_isDigitAt 4 = .ok (.iload_n 1, 1) := by decide +kernel
theorem dX7_isDigitAt_5 : decode cX7_isDigitAt 5 = .ok (.aload_n 0, 1) := by decide +kernel
theorem dX7_isDigitAt_6 : decode cX7_isDigitAt 6 = .ok (.getfield 21, 3) := by decide +kernel
theorem dX7_isDigitAt_9 : decode cX7_isDigitAt 9 = .ok (.if_icmp .ge 29, 3) := by decide +kernel
theorem dX7_isDigitAt_12 : decode cX7_isDigitAt 12 = .ok (.aload_n 0, 1) := by decide +kernel
theorem dX7_isDigitAt_13 : decode cX7_isDigitAt 13 = .ok (.getfield 9, 3) := by decide +kernel
theorem dX7_isDigitAt_16 : decode cX7_isDigitAt 16 = .ok (.iload_n 1, 1) := by decide +kernel
theorem dX7_isDigitAt_17 : decode cX7_isDigitAt 17 = .ok (.caload, 1) := by decide +kernel
theorem dX7_isDigitAt_18 : decode cX7_isDigitAt 18 = .ok (.bipush 48, 2) := by decide +kernel
theorem dX7_isDigitAt_20 : decode cX7_isDigitAt 20 = .ok (.if_icmp .lt 18, 3) := by decide +kernel
theorem dX7_isDigitAt_23 : decode cX7_isDigitAt 23 = .ok (.aload_n 0, 1) := by decide +kernel
theorem dX7_isDigitAt_24 : decode cX7_isDigitAt 24 = .ok (.getfield 9, 3) := by decide +kernel
theorem dX7_isDigitAt_27 : decode cX7_isDigitAt 27 = .ok (.iload_n 1, 1) := by decide +kernel
theorem dX7_isDigitAt_28 : decode cX7_isDigitAt 28 = .ok (.caload, 1) := by decide +kernel
theorem dX7_isDigitAt_29 : decode cX7_isDigitAt 29 = .ok (.bipush 57, 2) := by decide +kernel
theorem dX7_isDigitAt_31 : decode cX7_isDigitAt 31 = .ok (.if_icmp .gt 7, 3) := by decide +kernel
theorem dX7_isDigitAt_34 : decode cX7_isDigitAt 34 = .ok (.iconst 1, 1) := by decide +kernel
theorem dX7_isDigitAt_35 : decode cX7_isDigitAt 35 = .ok (.goto 4, 3) := by decide +kernel
theorem dX7_isDigitAt_38 : decode cX7_isDigitAt 38 = .ok (.iconst 0, 1) := by decide +kernel
theorem dX7_isDigitAt_39 : decode cX7_isDigitAt 39 = .ok (.ireturn, 1) := by decide +kernel
theorem dX8_init_0 : decode cX8_init 0 = .ok (.aload_n 0, 1) := by decide +kernel
theorem dX8_init_1 : decode cX8_init 1 = .ok (.invokespecial 3, 3) := by decide +kernel
theorem dX8_init_4 : decode cX8_init 4 = .ok (.aload_n 0, 1) := by decide +kernel
theorem dX8_init_5 : decode cX8_init 5 = .ok (.bipush 6, 2) := by decide +kernel
theorem dX8_init_7 : decode cX8_init 7 = .ok (.anewarray 9, 3) := by decide +kernel
theorem dX8_init_10 : decode cX8_init 10 = .ok (.putfield 11, 3) := by decide +kernel
theorem dX8_init_13 : decode cX8_init 13 = .ok (.aload_n 0, 1) := by decide +kernel
theorem dX8_init_14 : decode cX8_init 14 = .ok (.iconst 4, 1) := by decide +kernel
theorem dX8_init_15 : decode cX8_init 15 = .ok (.anewarray 17, 3) := by decide +kernel
theorem dX8_init_18 : decode cX8_init 18 = .ok (.putfield 19, 3) := by decide +kernel
theorem dX8_init_21 : decode cX8_init 21 = .ok (.aload_n 0, 1) := by decide +kernel
theorem dX8_init_22 : decode cX8_init 22 = .ok (.bipush 16, 2) := by decide +kernel
theorem dX8_init_24 : decode cX8_init 24 = .ok (.anewarray 23, 3) := by decide +kernel
theorem dX8_init_27 : decode cX8_init 27 = .ok (.putfield 25, 3) := by decide +kernel
theorem dX8_init_30 : decode cX8_init 30 = .ok (.aload_n 0, 1) := by decide +kernel
theorem dX8_init_31 : decode cX8_init 31 = .ok (.new 29, 3) := by decide +kernel
theorem dX8_init_34 : decode cX8_init 34 = .ok (.dup, 1) := by decide +kernel
theorem dX8_init_35 : decode cX8_init 35 = .ok (.invokespecial 31, 3) := by decide +kernel
theorem dX8_init_38 : decode cX8_init 38 = .ok (.putfield 32, 3) := by decide +kernel
theorem dX8_init_41 : decode cX8_init 41 = .ok (.aload_n 0, 1) := by decide +kernel
theorem dX8_init_42 : decode cX8_init 42 = .ok (.iconst 0, 1) := by decide +kernel
theorem dX8_init_43 : decode cX8_init 43 = .ok (.putfield 36, 3) := by decide +kernel
theorem dX8_init_46 : decode cX8_init 46 = .ok (.aload_n 0, 1) := by decide +kernel
theorem dX8_init_47 : decode cX8_init 47 = .ok (.iconst 0, 1) := by decide +kernel
theorem dX8_init_48 : decode cX8_init 48 = .ok (.putfield 40, 3) := by decide +kernel
theorem dX8_init_51 : decode cX8_init 51 = .ok (.aload_n 0, 1) := by decide +kernel
theorem dX8_init_52 : decode cX8_init 52 = .ok (.iconst 0, 1) := by decide +kernel
theorem dX8_init_53 : decode cX8_init 53 = .ok (.putfield 43, 3) := by decide +kernel
theorem dX8_init_56 : decode cX8_init 56 = .ok (.aload_n 0, 1) := by decide +kernel
theorem dX8_init_57 : decode cX8_init 57 = .ok (.iconst 0, 1) := by decide +kernel
theorem dX8_init_58 : decode cX8_init 58 = .ok (.putfield 46, 3) := by decide +kernel
theorem dX8_init_61 : decode cX8_init 61 = .ok (.aload_n 0, 1) := by decide +kernel
end
section
theorem dX8_init_62 : decode cX8_init 62 = .ok (.iconst 0, 1) := by decide +kernel
theorem dX8_init_63 : decode cX8_init 63 = .ok (.putfield 49, 3) := by decide +kernel
theorem dX8_init_66 : decode cX8_init 66 = .ok (.iconst 0, 1) := by decide +kernel
theorem dX8_init_67 : decode cX8_init 67 = .ok (.istore_n 1, 1) := by decide +kernel
theorem dX8_init_68 : decode cX8_init 68 = .ok (.iload_n 1, 1) := by decide +kernel
theorem dX8_init_69 : decode cX8_init 69 = .ok (.bipush 6, 2) := by decide +kernel
theorem dX8_init_71 : decode cX8_init 71 = .ok (.if_icmp .ge 22, 3) := by decide +kernel
theorem dX8_init_74 : decode cX8_init 74 = .ok (.aload_n 0, 1) := by decide +kernel
theorem dX8_init_75 : decode cX8_init 75 = .ok (.getfield 11, 3) := by decide +kernel
theorem dX8_init_78 : decode cX8_init 78 = .ok (.iload_n 1, 1) := by decide +kernel
theorem dX8_init_79 : decode cX8_init 79 = .ok (.new 9, 3) := by decide +kernel
theorem dX8_init_82 : decode cX8_init 82 = .ok (.dup, 1) := by decide +kernel
theorem dX8_init_83 : decode cX8_init 83 = .ok (.invokespecial 52, 3) := by decide +kernel
theorem dX8_init_86 : decode cX8_init 86 = .ok (.aastore, 1) := by decide +kernel
theorem dX8_init_87 : decode cX8_init 87 = .ok (.iinc 1 1, 3) := by decide +kernel
theorem dX8_init_90 : decode cX8_init 90 = .ok (.goto (-22), 3) := by decide +kernel
theorem dX8_init_93 : decode cX8_init 93 = .ok (.iconst 0, 1) := by decide +kernel
theorem dX8_init_94 : decode cX8_init 94 = .ok (.istore_n 1, 1) := by decide +kernel
theorem dX8_init_95 : decode cX8_init 95 = .ok (.iload_n 1, 1) := by decide +kernel
theorem dX8_init_96 : decode cX8_init 96 = .ok (.iconst 4, 1) := by decide +kernel
theorem dX8_init_97 : decode cX8_init 97 = .ok (.if_icmp .ge 22, 3) := by decide +kernel
theorem dX8_init_100 : decode cX8_init 100 = .ok (.aload_n 0, 1) := by decide +kernel
theorem dX8_init_101 : decode cX8_init 101 = .ok (.getfield 19, 3) := by decide +kernel
theorem dX8_init_104 : decode cX8_init 104 = .ok (.iload_n 1, 1) := by decide +kernel
theorem dX8_init_105 : decode cX8_init 105 = .ok (.new 17, 3) := by decide +kernel
theorem dX8_init_108 : decode cX8_init 108 = .ok (.dup, 1) := by decide +kernel
theorem dX8_init_109 : decode cX8_init 109 = .ok (.invokespecial 53, 3) := by decide +kernel
theorem dX8_init_112 : decode cX8_init 112 = .ok (.aastore, 1) := by decide +kernel
theorem dX8_init_113 : decode cX8_init 113 = .ok (.iinc 1 1, 3) := by decide +kernel
theorem dX8_init_116 : decode cX8_init 116 = .ok (.goto (-21), 3) := by decide +kernel
theorem dX8_init_119 : decode cX8_init 119 = .ok (.iconst 0, 1) := by decide +kernel
theorem dX8_init_120 : decode cX8_init 120 = .ok (.istore_n 1, 1) := by decide +kernel
theorem dX8_init_121 : decode cX8_init 121 = .ok (.iload_n 1, 1) := by decide +kernel
theorem dX8_init_122 : decode cX8_init 122 = .ok (.bipush 16, 2) := by decide +kernel
theorem dX8_init_124 : decode cX8_init 124 = .ok (.if_icmp .ge 22, 3) := by decide +kernel
theorem dX8_init_127 : decode cX8_init 127 = .ok (.aload_n 0, 1) := by decide +kernel
theorem dX8_init_128 : decode cX8_init 128 = .ok (.getfield 25, 3) := by decide +kernel
theorem dX8_init_131 : decode cX8_init 131 = .ok (.iload_n 1, 1) := by decide +kernel
theorem dX8_init_132 : decode cX8_init 132 = .ok (.new 23, 3) := by decide +kernel
theorem dX8_init_135 : decode cX8_init 135 = .ok (.dup, 1) := by decide +kernel
theorem dX8_init_136 : decode cX8_init 136 = .ok (.invokespecial 54, 3) := by decide +kernel
theorem dX8_init_139 : decode cX8_init 139 = .ok (.aastore, 1) := by decide +kernel
theorem dX8_init_140 : decode cX8_init 140 = .ok (.iinc 1 1, 3) := by decide +kernel
theorem dX8_init_143 : decode cX8_init 143 = .ok (.goto (-22), 3) := by decide +kernel
theorem dX8_init_146 : decode cX8_init 146 = .ok (.return_, 1) := by decide +kernel
theorem dX8_copyFrom_0 : decode cX8_copyFrom 0 = .ok (.iconst 0, 1) := by decide +kernel
theorem dX8_copyFrom_1 : decode cX8_copyFrom 1 = .ok (.istore_n 2, 1) := by decide +kernel
theorem dX8_copyFrom_2 : decode cX8_copyFrom 2 = .ok (.iload_n 2, 1) := by decide +kernel
theorem dX8_copyFrom_3 : decode cX8_copyFrom 3 = .ok (.bipush 6, 2) := by decide +kernel
theorem dX8_copyFrom_5 : decode cX8_copyFrom 5 = .ok (.if_icmp .ge 24, 3) := by decide +kernel
theorem dX8_copyFrom_8 : decode cX8_copyFrom 8 = .ok (.aload_n 0, 1) := by decide +kernel
theorem dX8_copyFrom_9 : decode cX8_copyFrom 9 = .ok (.getfield 11, 3) := by decide +kernel
theorem dX8_copyFrom_12 : decode cX8_copyFrom 12 = .ok (.iload_n 2, 1) := by decide +kernel
theorem dX8_copyFrom_13 : decode cX8_copyFrom 13 = .ok (.aaload, 1) := by decide +kernel
theorem dX8_copyFrom_14 : decode cX8_copyFrom 14 = .ok (.aload_n 1, 1) := by decide +kernel
theorem dX8_copyFrom_15 : decode cX8_copyFrom 15 = .ok (.getfield 11, 3) := by decide +kernel
theorem dX8_copyFrom_18 : decode cX8_copyFrom 18 = .ok (.iload_n 2, 1) := by decide +kernel
theorem dX8_copyFrom_19 : decode cX8_copyFrom 19 = .ok (.aaload, 1) := by decide +kernel
theorem dX8_copyFrom_20 : decode cX8_copyFrom 20 = .ok (.invokevirtual 55, 3) := by decide +kernel
theorem dX8_copyFrom_23 : decode cX8_copyFrom 23 = .ok (.iinc 2 1, 3) := by decide +kernel
theorem dX8_copyFrom_26 : decode cX8_copyFrom 26 = .ok (.goto (-24), 3) := by decide +kernel
theorem dX8_copyFrom_29 : decode cX8_copyFrom 29 = .ok (.iconst 0, 1) := by decide +kernel
theorem dX8_copyFrom_30 : decode cX8_copyFrom 30 = .ok (.istore_n 2, 1) := by decide +kernel
theorem dX8_copyFrom_31 : decode cX8_copyFrom 31 = .ok (.iload_n 2, 1) := by decide +kernel
theorem dX8_copyFrom_32 : decode cX8_copyFrom 32 = .ok (.iconst 4, 1) := by decide +kernel
theorem dX8_copyFrom_33 : decode cX8_copyFrom 33 = .ok (.if_icmp .ge 24, 3) := by decide +kernel
theorem dX8_copyFrom_36 : decode cX8_copyFrom 36 = .ok (.aload_n 0, 1) := by decide +kernel
theorem dX8_copyFrom_37 : decode cX8_copyFrom 37 = .ok (.getfield 19, 3) := by decide +kernel
theorem dX8_copyFrom_40 : decode cX8_copyFrom 40 = .ok (.iload_n 2, 1) := by decide +kernel
theorem dX8_copyFrom_41 : decode cX8_copyFrom 41 = .ok (.aaload, 1) := by decide +kernel
theorem dX8_copyFrom_42 : decode cX8_copyFrom 42 = .ok (.aload_n 1, 1) := by decide +kernel
theorem dX8_copyFrom_43 : decode cX8_copyFrom 43 = .ok (.getfield 19, 3) := by decide +kernel
theorem dX8_copyFrom_46 : decode cX8_copyFrom 46 = .ok (.iload_n 2, 1) := by decide +kernel
theorem dX8_copyFrom_47 : decode cX8_copyFrom 47 = .ok (.aaload, 1) := by decide +kernel
theorem dX8_copyFrom_48 : decode cX8_copyFrom 48 = .ok (.invokevirtual 59, 3) := by decide +kernel
theorem dX8_copyFrom_51 : decode cX8_copyFrom 51 = .ok (.iinc 2 1, 3) := by decide +kernel
theorem dX8_copyFrom_54 : decode cX8_copyFrom 54 = .ok (.goto (-23), 3) := by decide +kernel
theorem dX8_copyFrom_57 : decode cX8_copyFrom 57 = .ok (.iconst 0, 1) := by decide +kernel
theorem dX8_copyFrom_58 : decode cX8_copyFrom 58 = .ok (.istore_n 2, 1) := by decide +kernel
theorem dX8_copyFrom_59 : decode cX8_copyFrom 59 = .ok (.iload_n 2, 1) := by decide +kernel
theorem dX8_copyFrom_60 : decode cX8_copyFrom 60 = .ok (.bipush 16, 2) := by decide +kernel
theorem dX8_copyFrom_62 : decode cX8_copyFrom 62 = .ok (.if_icmp .ge 24, 3) := by decide +kernel
theorem dX8_copyFrom_65 : decode cX8_copyFrom 65 = .ok (.aload_n 0, 1) := by decide +kernel
theorem dX8_copyFrom_66 : decode cX8_copyFrom 66 = .ok (.getfield 25, 3) := by decide +kernel
theorem dX8_copyFrom_69 : decode cX8_copyFrom 69 = .ok (.iload_n 2, 1) := by decide +kernel
theorem dX8_copyFrom_70 : decode cX8_copyFrom 70 = .ok (.aaload, 1) := by decide +kernel
theorem dX8_copyFrom_71 : decode cX8_copyFrom 71 = .ok (.aload_n 1, 1) := by decide +kernel
theorem dX8_copyFrom_72 : decode cX8_copyFrom 72 = .ok (.getfield 25, 3) := by decide +kernel
theorem dX8_copyFrom_75 : decode cX8_copyFrom 75 = .ok (.iload_n 2, 1) := by decide +kernel
theorem dX8_copyFrom_76 : decode cX8_copyFrom 76 = .ok (.aaload, 1) := by decide +kernel
theorem dX8_copyFrom_77 : decode cX8_copyFrom 77 = .ok (.invokevirtual 62, 3) := by decide +kernel
theorem dX8_copyFrom_80 : decode cX8_copyFrom 80 = .ok (.iinc 2 1, 3) := by decide +kernel
theorem dX8_copyFrom_83 : decode cX8_copyFrom 83 = .ok (.goto (-24), 3) := by decide +kernel
theorem dX8_copyFrom_86 : decode cX8_copyFrom 86 = .ok (.aload_n 0, 1) := by decide +kernel
theorem dX8_copyFrom_87 : decode cX8_copyFrom 87 = .ok (.getfield 32, 3) := by decide +kernel
theorem dX8_copyFrom_90 : decode cX8_copyFrom 90 = .ok (.aload_n 1, 1) := by decide +kernel
theorem dX8_copyFrom_91 : decode cX8_copyFrom 91 = .ok (.getfield 32, 3) := by decide +kernel
theorem dX8_copyFrom_94 : decode cX8_copyFrom 94 = .ok (.invokevirtual 65, 3) := by decide +kernel
theorem dX8_copyFrom_97 : decode cX8_copyFrom 97 = .ok (.aload_n 0, 1) := by decide +kernel
theorem dX8_copyFrom_98 : decode cX8_copyFrom 98 = .ok (.aload_n 1, 1) := by decide +kernel
theorem dX8_copyFrom_99 : decode cX8_copyFrom 99 = .ok (.getfield 36, 3) := by decide +kernel
theorem dX8_copyFrom_102 : decode cX8_copyFrom 102 = .ok (.putfield 36, 3) := by decide +kernel
theorem dX8_copyFrom_105 : decode cX8_copyFrom 105 = .ok (.aload_n 0, 1) := by decide +kernel
theorem dX8_copyFrom_106 : decode cX8_copyFrom 106 = .ok (.aload_n 1, 1) := by decide +kernel
theorem dX8_copyFrom_107 : decode cX8_copyFrom 107 = .ok (.getfield 40, 3) := by decide +kernel
theorem dX8_copyFrom_110 : decode cX8_copyFrom 110 = .ok (.putfield 40, 3) := by decide +kernel
theorem dX8_copyFrom_113 : decode cX8_copyFrom 113 = .ok (.aload_n 0, 1) := by decide +kernel
theorem dX8_copyFrom_114 : decode cX8_copyFrom 114 = .ok (.aload_n 1, 1) := by decide +kernel
theorem dX8_copyFrom_115 : decode cX8_copyFrom 115 = .ok (.getfield 43, 3) := by decide +kernel
theorem dX8_copyFrom_118 : decode cX8_copyFrom 118 = .ok (.putfield 43, 3) := by decide +kernel
theorem dX8_copyFrom_121 : decode cX8_copyFrom 121 = .ok (.aload_n 0, 1) := by decide +kernel
theorem dX8_copyFrom_122 : decode cX8_copyFrom 122 = .ok (.aload_n 1, 1) := by decide +kernel
theorem dX8_copyFrom_123 : decode cX8_copyFrom 123 = .ok (.getfield 46, 3) := by decide +kernel
theorem dX8_copyFrom_126 : decode cX8_copyFrom 126 = .ok (.putfield 46, 3) := by decide +kernel
theorem dX8_copyFrom_129 : decode cX8_copyFrom 129 = .ok (.aload_n 0, 1) := by decide +kernel
theorem dX8_copyFrom_130 : decode cX8_copyFrom 130 = .ok (.aload_n 1, 1) := by decide +kernel
theorem dX8_copyFrom_131 : decode cX8_copyFrom 131 = .ok (.getfield 49, 3) := by decide +kernel
theorem dX8_copyFrom_134 : decode cX8_copyFrom 134 = .ok (.putfield 49, 3) := by decide +kernel
theorem dX8_copyFrom_137 : decode cX8_copyFrom 137 = .ok (.return_, 1) := by decide +kernel
theorem dX8_perform_0 : decode cX8_perform 0 = .ok (.getstatic 68, 3) := by decide +kernel
theorem dX8_perform_3 : decode cX8_perform 3 = .ok (.aload_n 1, 1) := by decide +kernel
theorem dX8_perform_4 : decode cX8_perform 4 = .ok (.getfield 74, 3) := by decide +kernel
theorem dX8_perform_7 : decode cX8_perform 7 = .ok (.invokevirtual 80, 3) := by decide +kernel
theorem dX8_perform_10 : decode cX8_perform 10 = .ok (.iaload, 1) := by decide +kernel
theorem dX8_perform_11 : decode cX8_perform 11 = .ok (.tableswitch 121 1 8 #[45, 58, 63, 76, 85, 94, 103, 112], 45) := by decide +kernel
theorem dX8_perform_56 : decode cX8_perform 56 = .ok (.aload_n 0, 1) := by decide +kernel
theorem dX8_perform_57 : decode cX8_perform 57 = .ok (.aload_n 1, 1) := by decide +kernel
theorem dX8_perform_58 : decode cX8_perform 58 = .ok (.getfield 86, 3) := by decide +kernel
theorem dX8_perform_61 : decode cX8_perform 61 = .ok (.aload_n 1, 1) := by decide +kernel
theorem dX8_perform_62 : decode cX8_perform 62 = .ok (.getfield 89, 3) := by decide +kernel
theorem dX8_perform_65 : decode cX8_perform 65 = .ok (.invokevirtual 92, 3) := by decide +kernel
theorem dX8_perform_68 : decode cX8_perform 68 = .ok (.ireturn, 1) := by decide +kernel
theorem dX8_perform_69 : decode cX8_perform 69 = .ok (.aload_n 0, 1) := by decide +kernel
theorem dX8_perform_70 : decode cX8_perform 70 = .ok (.invokevirtual 96, 3) := by decide +kernel
theorem dX8_perform_73 : decode cX8_perform 73 = .ok (.ireturn, 1) := by decide +kernel
theorem dX8_perform_74 : decode cX8_perform 74 = .ok (.aload_n 0, 1) := by decide +kernel
theorem dX8_perform_75 : decode cX8_perform 75 = .ok (.aload_n 1, 1) := by decide +kernel
theorem dX8_perform_76 : decode cX8_perform 76 = .ok (.getfield 86, 3) := by decide +kernel
theorem dX8_perform_79 : decode cX8_perform 79 = .ok (.aload_n 1, 1) := by decide +kernel
theorem dX8_perform_80 : decode cX8_perform 80 = .ok (.getfield 89, 3) := by decide +kernel
theorem dX8_perform_83 : decode cX8_perform 83 = .ok (.invokevirtual 99, 3) := by decide +kernel
theorem dX8_perform_86 : decode cX8_perform 86 = .ok (.ireturn, 1) := by decide +kernel
theorem dX8_perform_87 : decode cX8_perform 87 = .ok (.aload_n 0, 1) := by decide +kernel
theorem dX8_perform_88 : decode cX8_perform 88 = .ok (.aload_n 1, 1) := by decide +kernel
theorem dX8_perform_89 : decode cX8_perform 89 = .ok (.getfield 86, 3) := by decide +kernel
theorem dX8_perform_92 : decode cX8_perform 92 = .ok (.invokevirtual 102, 3) := by decide +kernel
theorem dX8_perform_95 : decode cX8_perform 95 = .ok (.ireturn, 1) := by decide +kernel
theorem dX8_perform_96 : decode cX8_perform 96 = .ok (.aload_n 0, 1) := by decide +kernel
theorem dX8_perform_97 : decode cX8_perform 97 = .ok (.aload_n 1, 1) := by decide +kernel
theorem dX8_perform_98 : decode cX8_perform 98 = .ok (.getfield 86, 3) := by decide +kernel
theorem dX8_perform_101 : decode cX8_perform 101 = .ok (.invokevirtual 106, 3) := by decide +kernel
theorem dX8_perform_104 : decode cX8_perform 104 = .ok (.ireturn, 1) := by decide +kernel
theorem dX8_perform_105 : decode cX8_perform 105 = .ok (.aload_n 0, 1) := by decide +kernel
theorem dX8_perform_106 : decode cX8_perform 106 = .ok (.aload_n 1, 1) := by decide +kernel
theorem dX8_perform_107 : decode cX8_perform 107 = .ok (.getfield 86, 3) := by decide +kernel
theorem dX8_perform_110 : decode cX8_perform 110 = .ok (.invokevirtual 109, 3) := by decide +kernel
theorem dX8_perform_113 : decode cX8_perform 113 = .ok (.ireturn, 1) := by decide +kernel
theorem dX8_perform_114 : decode cX8_perform 114 = .ok (.aload_n 0, 1) := by decide +kernel
theorem dX8_perform_115 : decode cX8_perform 115 = .ok (.aload_n 1, 1) := by decide +kernel
theorem dX8_perform_116 : decode cX8_perform 116 = .ok (.getfield 86, 3) := by decide +kernel
theorem dX8_perform_119 : decode cX8_perform 119 = .ok (.invokevirtual 112, 3) := by decide +kernel
theorem dX8_perform_122 : decode cX8_perform 122 = .ok (.ireturn, 1) := by decide +kernel
theorem dX8_perform_123 : decode cX8_perform 123 = .ok (.aload_n 0, 1) := by decide +kernel
theorem dX8_perform_124 : decode cX8_perform 124 = .ok (.aload_n 1, 1) := by decide +kernel
theorem dX8_perform_125 : decode cX8_perform 125 = .ok (.getfield 86, 3) := by decide +kernel
theorem dX8_perform_128 : decode cX8_perform 128 = .ok (.invokevirtual 115, 3) := by decide +kernel
theorem dX8_perform_131 : decode cX8_perform 131 = .ok (.ireturn, 1) := by decide +kernel
theorem dX8_perform_132 : decode cX8_perform 132 = .ok (.aload_n 0, 1) := by decide +kernel
theorem dX8_perform_133 : decode cX8_perform 133 = .ok (.iconst 1, 1) := by decide +kernel
theorem dX8_perform_134 : decode cX8_perform 134 = .ok (.invokevirtual 115, 3) := by decide +kernel
theorem dX8_perform_137 : decode cX8_perform 137 = .ok (.ireturn, 1) := by decide +kernel
theorem dX8_openNest_0 : decode cX8_openNest 0 = .ok (.iload_n 1, 1) := by decide +kernel
theorem dX8_openNest_1 : decode cX8_openNest 1 = .ok (.iconst 1, 1) := by decide +kernel
theorem dX8_openNest_2 : decode cX8_openNest 2 = .ok (.if_icmp .lt 18, 3) := by decide +kernel
theorem dX8_openNest_5 : decode cX8_openNest 5 = .ok (.iload_n 1, 1) := by decide +kernel
theorem dX8_openNest_6 : decode cX8_openNest 6 = .ok (.bipush 9, 2) := by decide +kernel
theorem dX8_openNest_8 : decode cX8_openNest 8 = .ok (.if_icmp .gt 12, 3) := by decide +kernel
theorem dX8_openNest_11 : decode cX8_openNest 11 = .ok (.iload_n 2, 1) := by decide +kernel
theorem dX8_openNest_12 : decode cX8_openNest 12 = .ok (.ifCond .lt 8, 3) := by decide +kernel
theorem dX8_openNest_15 : decode cX8_openNest 15 = .ok (.iload_n 2, 1) := by decide +kernel
theorem dX8_openNest_16 : decode cX8_openNest 16 = .ok (.iconst 4, 1) := by decide +kernel
theorem dX8_openNest_17 : decode cX8_openNest 17 = .ok (.if_icmp .le 5, 3) := by decide +kernel
theorem dX8_openNest_20 : decode cX8_openNest 20 = .ok (.iconst (-1), 1) := by decide +kernel
theorem dX8_openNest_21 : decode cX8_openNest 21 = .ok (.ireturn, 1) := by decide +kernel
theorem dX8_openNest_22 : decode cX8_openNest 22 = .ok (.aload_n 0, 1) := by decide +kernel
theorem dX8_openNest_23 : decode cX8_openNest 23 = .ok (.getfield 36, 3) := by decide +kernel
theorem dX8_openNest_26 : decode cX8_openNest 26 = .ok (.bipush 6, 2) := by decide +kernel
theorem dX8_openNest_28 : decode cX8_openNest 28 = .ok (.if_icmp .lt 6, 3) := by decide +kernel
theorem dX8_openNest_31 : decode cX8_openNest 31 = .ok (.bipush (-2), 2) := by decide +kernel
theorem dX8_openNest_33 : decode cX8_openNest 33 = .ok (.ireturn, 1) := by decide +kernel
theorem dX8_openNest_34 : decode cX8_openNest 34 = .ok (.aload_n 0, 1) := by decide +kernel
theorem dX8_openNest_35 : decode cX8_openNest 35 = .ok (.getfield 36, 3) := by decide +kernel
theorem dX8_openNest_38 : decode cX8_openNest 38 = .ok (.istore_n 3, 1) := by decide +kernel
theorem dX8_openNest_39 : decode cX8_openNest 39 = .ok (.aload_n 0, 1) := by decide +kernel
theorem dX8_openNest_40 : decode cX8_openNest 40 = .ok (.getfield 11, 3) := by decide +kernel
theorem dX8_openNest_43 : decode cX8_openNest 43 = .ok (.iload_n 3, 1) := by decide +kernel
theorem dX8_openNest_44 : decode cX8_openNest 44 = .ok (.aaload, 1) := by decide +kernel
theorem dX8_openNest_45 : decode cX8_openNest 45 = .ok (.iload_n 1, 1) := by decide +kernel
theorem dX8_openNest_46 : decode cX8_openNest 46 = .ok (.iload_n 2, 1) := by decide +kernel
theorem dX8_openNest_47 : decode cX8_openNest 47 = .ok (.invokevirtual 118, 3) := by decide +kernel
theorem dX8_openNest_50 : decode cX8_openNest 50 = .ok (.aload_n 0, 1) := by decide +kernel
theorem dX8_openNest_51 : decode cX8_openNest 51 = .ok (.dup, 1) := by decide +kernel
theorem dX8_openNest_52 : decode cX8_openNest 52 = .ok (.getfield 36, 3) := by decide +kernel
theorem dX8_openNest_55 : decode cX8_openNest 55 = .ok (.iconst 1, 1) := by decide +kernel
theorem dX8_openNest_56 : decode cX8_openNest 56 = .ok (.iadd, 1) := by decide +kernel
theorem dX8_openNest_57 : decode cX8_openNest 57 = .ok (.putfield 36, 3) := by decide +kernel
theorem dX8_openNest_60 : decode cX8_openNest 60 = .ok (.iload_n 3, 1) := by decide +kernel
theorem dX8_openNest_61 : decode cX8_openNest 61 = .ok (.ireturn, 1) := by decide +kernel
theorem dX8_hireCrow_0 : decode cX8_hireCrow 0 = .ok (.aload_n 0, 1) := by decide +kernel
theorem dX8_hireCrow_1 : decode cX8_hireCrow 1 = .ok (.getfield 40, 3) := by decide +kernel
theorem dX8_hireCrow_4 : decode cX8_hireCrow 4 = .ok (.iconst 4, 1) := by decide +kernel
theorem dX8_hireCrow_5 : decode cX8_hireCrow 5 = .ok (.if_icmp .lt 6, 3) := by decide +kernel
theorem dX8_hireCrow_8 : decode cX8_hireCrow 8 = .ok (.bipush (-2), 2) := by decide +kernel
theorem dX8_hireCrow_10 : decode cX8_hireCrow 10 = .ok (.ireturn, 1) := by decide +kernel
theorem dX8_hireCrow_11 : decode cX8_hireCrow 11 = .ok (.aload_n 0, 1) := by decide +kernel
theorem dX8_hireCrow_12 : decode cX8_hireCrow 12 = .ok (.getfield 40, 3) := by decide +kernel
theorem dX8_hireCrow_15 : decode cX8_hireCrow 15 = .ok (.istore_n 1, 1) := by decide +kernel
theorem dX8_hireCrow_16 : decode cX8_hireCrow 16 = .ok (.aload_n 0, 1) := by decide +kernel
theorem dX8_hireCrow_17 : decode cX8_hireCrow 17 = .ok (.getfield 19, 3) := by decide +kernel
theorem dX8_hireCrow_20 : decode cX8_hireCrow 20 = .ok (.iload_n 1, 1) := by decide +kernel
theorem dX8_hireCrow_21 : decode cX8_hireCrow 21 = .ok (.aaload, 1) := by decide +kernel
theorem dX8_hireCrow_22 : decode cX8_hireCrow 22 = .ok (.iconst 0, 1) := by decide +kernel
theorem dX8_hireCrow_23 : decode cX8_hireCrow 23 = .ok (.putfield 122, 3) := by decide +kernel
theorem dX8_hireCrow_26 : decode cX8_hireCrow 26 = .ok (.aload_n 0, 1) := by decide +kernel
theorem dX8_hireCrow_27 : decode cX8_hireCrow 27 = .ok (.dup, 1) := by decide +kernel
theorem dX8_hireCrow_28 : decode cX8_hireCrow 28 = .ok (.getfield 40, 3) := by decide +kernel
theorem dX8_hireCrow_31 : decode cX8_hireCrow 31 = .ok (.iconst 1, 1) := by decide +kernel
theorem dX8_hireCrow_32 : decode cX8_hireCrow 32 = .ok (.iadd, 1) := by decide +kernel
theorem dX8_hireCrow_33 : decode cX8_hireCrow 33 = .ok (.putfield 40, 3) := by decide +kernel
theorem dX8_hireCrow_36 : decode cX8_hireCrow 36 = .ok (.iload_n 1, 1) := by decide +kernel
theorem dX8_hireCrow_37 : decode cX8_hireCrow 37 = .ok (.ireturn, 1) := by decide +kernel
theorem dX8_post_0 : decode cX8_post 0 = .ok (.aload_n 0, 1) := by decide +kernel
theorem dX8_post_1 : decode cX8_post 1 = .ok (.iload_n 1, 1) := by decide +kernel
theorem dX8_post_2 : decode cX8_post 2 = .ok (.invokevirtual 126, 3) := by decide +kernel
theorem dX8_post_5 : decode cX8_post 5 = .ok (.ifnonnull 6, 3) := by decide +kernel
theorem dX8_post_8 : decode cX8_post 8 = .ok (.bipush (-3), 2) := by decide +kernel
theorem dX8_post_10 : decode cX8_post 10 = .ok (.ireturn, 1) := by decide +kernel
theorem dX8_post_11 : decode cX8_post 11 = .ok (.iload_n 2, 1) := by decide +kernel
theorem dX8_post_12 : decode cX8_post 12 = .ok (.ifCond .lt 9, 3) := by decide +kernel
theorem dX8_post_15 : decode cX8_post 15 = .ok (.iload_n 2, 1) := by decide +kernel
theorem dX8_post_16 : decode cX8_post 16 = .ok (.bipush 99, 2) := by decide +kernel
theorem dX8_post_18 : decode cX8_post 18 = .ok (.if_icmp .le 5, 3) := by decide +kernel
theorem dX8_post_21 : decode cX8_post 21 = .ok (.iconst (-1), 1) := by decide +kernel
theorem dX8_post_22 : decode cX8_post 22 = .ok (.ireturn, 1) := by decide +kernel
theorem dX8_post_23 : decode cX8_post 23 = .ok (.aload_n 0, 1) := by decide +kernel
theorem dX8_post_24 : decode cX8_post 24 = .ok (.getfield 43, 3) := by decide +kernel
theorem dX8_post_27 : decode cX8_post 27 = .ok (.bipush 16, 2) := by decide +kernel
theorem dX8_post_29 : decode cX8_post 29 = .ok (.if_icmp .lt 6, 3) := by decide +kernel
theorem dX8_post_32 : decode cX8_post 32 = .ok (.bipush (-2), 2) := by decide +kernel
theorem dX8_post_34 : decode cX8_post 34 = .ok (.ireturn, 1) := by decide +kernel
theorem dX8_post_35 : decode cX8_post 35 = .ok (.aload_n 0, 1) := by decide +kernel
theorem dX8_post_36 : decode cX8_post 36 = .ok (.getfield 32, 3) := by decide +kernel
theorem dX8_post_39 : decode cX8_post 39 = .ok (.getfield 130, 3) := by decide +kernel
theorem dX8_post_42 : decode cX8_post 42 = .ok (.istore_n 3, 1) := by decide +kernel
theorem dX8_post_43 : decode cX8_post 43 = .ok (.aload_n 0, 1) := by decide +kernel
theorem dX8_post_44 : decode cX8_post 44 = .ok (.getfield 25, 3) := by decide +kernel
theorem dX8_post_47 : decode cX8_post 47 = .ok (.aload_n 0, 1) := by decide +kernel
theorem dX8_post_48 : decode cX8_post 48 = .ok (.getfield 43, 3) := by decide +kernel
theorem dX8_post_51 : decode cX8_post 51 = .ok (.aaload, 1) := by decide +kernel
theorem dX8_post_52 : decode cX8_post 52 = .ok (.iload_n 3, 1) := by decide +kernel
theorem dX8_post_53 : decode cX8_post 53 = .ok (.iload_n 1, 1) := by decide +kernel
theorem dX8_post_54 : decode cX8_post 54 = .ok (.iload_n 2, 1) := by decide +kernel
theorem dX8_post_55 : decode cX8_post 55 = .ok (.invokevirtual 133, 3) := by decide +kernel
theorem dX8_post_58 : decode cX8_post 58 = .ok (.aload_n 0, 1) := by decide +kernel
theorem dX8_post_59 : decode cX8_post 59 = .ok (.dup, 1) := by decide +kernel
theorem dX8_post_60 : decode cX8_post 60 = .ok (.getfield 43, 3) := by decide +kernel
theorem dX8_post_63 : decode cX8_post 63 = .ok (.iconst 1, 1) := by decide +kernel
theorem dX8_post_64 : decode cX8_post 64 = .ok (.iadd, 1) := by decide +kernel
theorem dX8_post_65 : decode cX8_post 65 = .ok (.putfield 43, 3) := by decide +kernel
theorem dX8_post_68 : decode cX8_post 68 = .ok (.aload_n 0, 1) := by decide +kernel
theorem dX8_post_69 : decode cX8_post 69 = .ok (.getfield 32, 3) := by decide +kernel
theorem dX8_post_72 : decode cX8_post 72 = .ok (.dup, 1) := by decide +kernel
theorem dX8_post_73 : decode cX8_post 73 = .ok (.getfield 130, 3) := by decide +kernel
theorem dX8_post_76 : decode cX8_post 76 = .ok (.iconst 1, 1) := by decide +kernel
theorem dX8_post_77 : decode cX8_post 77 = .ok (.iadd, 1) := by decide +kernel
theorem dX8_post_78 : decode cX8_post 78 = .ok (.putfield 130, 3) := by decide +kernel
theorem dX8_post_81 : decode cX8_post 81 = .ok (.iload_n 3, 1) := by decide +kernel
theorem dX8_post_82 : decode cX8_post 82 = .ok (.ireturn, 1) := by decide +kernel
theorem dX8_handOver_0 : decode cX8_handOver 0 = .ok (.aload_n 0, 1) := by decide +kernel
theorem dX8_handOver_1 : decode cX8_handOver 1 = .ok (.iload_n 1, 1) := by decide +kernel
theorem dX8_handOver_2 : decode cX8_handOver 2 = .ok (.invokevirtual 126, 3) := by decide +kernel
theorem dX8_handOver_5 : decode cX8_handOver 5 = .ok (.astore_n 2, 1) := by decide +kernel
theorem dX8_handOver_6 : decode cX8_handOver 6 = .ok (.aload_n 2, 1) := by decide +kernel
theorem dX8_handOver_7 : decode cX8_handOver 7 = .ok (.ifnonnull 6, 3) := by decide +kernel
theorem dX8_handOver_10 : decode cX8_handOver 10 = .ok (.bipush (-3), 2) := by decide +kernel
theorem dX8_handOver_12 : decode cX8_handOver 12 = .ok (.ireturn, 1) := by decide +kernel
theorem dX8_handOver_13 : decode cX8_handOver 13 = .ok (.aload_n 2, 1) := by decide +kernel
theorem dX8_handOver_14 : decode cX8_handOver 14 = .ok (.getfield 137, 3) := by decide +kernel
theorem dX8_handOver_17 : decode cX8_handOver 17 = .ok (.ifCond .ne 6, 3) := by decide +kernel
theorem dX8_handOver_20 : decode cX8_handOver 20 = .ok (.bipush (-4), 2) := by decide +kernel
theorem dX8_handOver_22 : decode cX8_handOver 22 = .ok (.ireturn, 1) := by decide +kernel
theorem dX8_handOver_23 : decode cX8_handOver 23 = .ok (.aload_n 2, 1) := by decide +kernel
theorem dX8_handOver_24 : decode cX8_handOver 24 = .ok (.invokevirtual 140, 3) := by decide +kernel
theorem dX8_handOver_27 : decode cX8_handOver 27 = .ok (.istore_n 3, 1) := by decide +kernel
theorem dX8_handOver_28 : decode cX8_handOver 28 = .ok (.aload_n 0, 1) := by decide +kernel
theorem dX8_handOver_29 : decode cX8_handOver 29 = .ok (.iload_n 3, 1) := by decide +kernel
theorem dX8_handOver_30 : decode cX8_handOver 30 = .ok (.invokevirtual 143, 3) := by decide +kernel
theorem dX8_handOver_33 : decode cX8_handOver 33 = .ok (.aload_n 0, 1) := by decide +kernel
theorem dX8_handOver_34 : decode cX8_handOver 34 = .ok (.getfield 32, 3) := by decide +kernel
theorem dX8_handOver_37 : decode cX8_handOver 37 = .ok (.dup, 1) := by decide +kernel
theorem dX8_handOver_38 : decode cX8_handOver 38 = .ok (.getfield 147, 3) := by decide +kernel
theorem dX8_handOver_41 : decode cX8_handOver 41 = .ok (.iconst 1, 1) := by decide +kernel
theorem dX8_handOver_42 : decode cX8_handOver 42 = .ok (.iadd, 1) := by decide +kernel
theorem dX8_handOver_43 : decode cX8_handOver 43 = .ok (.putfield 147, 3) := by decide +kernel
theorem dX8_handOver_46 : decode cX8_handOver 46 = .ok (.iload_n 3, 1) := by decide +kernel
theorem dX8_handOver_47 : decode cX8_handOver 47 = .ok (.ireturn, 1) := by decide +kernel
theorem dX8_withdraw_0 : decode cX8_withdraw 0 = .ok (.aload_n 0, 1) := by decide +kernel
theorem dX8_withdraw_1 : decode cX8_withdraw 1 = .ok (.iload_n 1, 1) := by decide +kernel
theorem dX8_withdraw_2 : decode cX8_withdraw 2 = .ok (.invokevirtual 150, 3) := by decide +kernel
theorem dX8_withdraw_5 : decode cX8_withdraw 5 = .ok (.astore_n 2, 1) := by decide +kernel
theorem dX8_withdraw_6 : decode cX8_withdraw 6 = .ok (.aload_n 2, 1) := by decide +kernel
theorem dX8_withdraw_7 : decode cX8_withdraw 7 = .ok (.ifnonnull 6, 3) := by decide +kernel
theorem dX8_withdraw_10 : decode cX8_withdraw 10 = .ok (.bipush (-4), 2) := by decide +kernel
theorem dX8_withdraw_12 : decode cX8_withdraw 12 = .ok (.ireturn, 1) := by decide +kernel
theorem dX8_withdraw_13 : decode cX8_withdraw 13 = .ok (.aload_n 2, 1) := by decide +kernel
theorem dX8_withdraw_14 : decode cX8_withdraw 14 = .ok (.getfield 154, 3) := by decide +kernel
theorem dX8_withdraw_17 : decode cX8_withdraw 17 = .ok (.bipush 102, 2) := by decide +kernel
theorem dX8_withdraw_19 : decode cX8_withdraw 19 = .ok (.if_icmp .eq 12, 3) := by decide +kernel
theorem dX8_withdraw_22 : decode cX8_withdraw 22 = .ok (.aload_n 2, 1) := by decide +kernel
theorem dX8_withdraw_23 : decode cX8_withdraw 23 = .ok (.getfield 154, 3) := by decide +kernel
theorem dX8_withdraw_26 : decode cX8_withdraw 26 = .ok (.bipush 100, 2) := by decide +kernel
theorem dX8_withdraw_28 : decode cX8_withdraw 28 = .ok (.if_icmp .ne 6, 3) := by decide +kernel
theorem dX8_withdraw_31 : decode cX8_withdraw 31 = .ok (.bipush (-2), 2) := by decide +kernel
theorem dX8_withdraw_33 : decode cX8_withdraw 33 = .ok (.ireturn, 1) := by decide +kernel
theorem dX8_withdraw_34 : decode cX8_withdraw 34 = .ok (.aload_n 0, 1) := by decide +kernel
theorem dX8_withdraw_35 : decode cX8_withdraw 35 = .ok (.iload_n 1, 1) := by decide +kernel
theorem dX8_withdraw_36 : decode cX8_withdraw 36 = .ok (.invokevirtual 143, 3) := by decide +kernel
theorem dX8_withdraw_39 : decode cX8_withdraw 39 = .ok (.aload_n 0, 1) := by decide +kernel
theorem dX8_withdraw_40 : decode cX8_withdraw 40 = .ok (.getfield 32, 3) := by decide +kernel
theorem dX8_withdraw_43 : decode cX8_withdraw 43 = .ok (.dup, 1) := by decide +kernel
theorem dX8_withdraw_44 : decode cX8_withdraw 44 = .ok (.getfield 158, 3) := by decide +kernel
theorem dX8_withdraw_47 : decode cX8_withdraw 47 = .ok (.iconst 1, 1) := by decide +kernel
theorem dX8_withdraw_48 : decode cX8_withdraw 48 = .ok (.iadd, 1) := by decide +kernel
theorem dX8_withdraw_49 : decode cX8_withdraw 49 = .ok (.putfield 158, 3) := by decide +kernel
theorem dX8_withdraw_52 : decode cX8_withdraw 52 = .ok (.aload_n 0, 1) := by decide +kernel
theorem dX8_withdraw_53 : decode cX8_withdraw 53 = .ok (.getfield 43, 3) := by decide +kernel
theorem dX8_withdraw_56 : decode cX8_withdraw 56 = .ok (.ireturn, 1) := by decide +kernel
theorem dX8_turnWind_0 : decode cX8_turnWind 0 = .ok (.iload_n 1, 1) := by decide +kernel
theorem dX8_turnWind_1 : decode cX8_turnWind 1 = .ok (.ifCond .lt 9, 3) := by decide +kernel
theorem dX8_turnWind_4 : decode cX8_turnWind 4 = .ok (.iload_n 1, 1) := by decide +kernel
theorem dX8_turnWind_5 : decode cX8_turnWind 5 = .ok (.bipush 9, 2) := by decide +kernel
theorem dX8_turnWind_7 : decode cX8_turnWind 7 = .ok (.if_icmp .le 5, 3) := by decide +kernel
theorem dX8_turnWind_10 : decode cX8_turnWind 10 = .ok (.iconst (-1), 1) := by decide +kernel
theorem dX8_turnWind_11 : decode cX8_turnWind 11 = .ok (.ireturn, 1) := by decide +kernel
theorem dX8_turnWind_12 : decode cX8_turnWind 12 = .ok (.aload_n 0, 1) := by decide +kernel
theorem dX8_turnWind_13 : decode cX8_turnWind 13 = .ok (.getfield 49, 3) := by decide +kernel
theorem dX8_turnWind_16 : decode cX8_turnWind 16 = .ok (.istore_n 2, 1) := by decide +kernel
theorem dX8_turnWind_17 : decode cX8_turnWind 17 = .ok (.aload_n 0, 1) := by decide +kernel
theorem dX8_turnWind_18 : decode cX8_turnWind 18 = .ok (.iload_n 1, 1) := by decide +kernel
theorem dX8_turnWind_19 : decode cX8_turnWind 19 = .ok (.putfield 49, 3) := by decide +kernel
theorem dX8_turnWind_22 : decode cX8_turnWind 22 = .ok (.iload_n 2, 1) := by decide +kernel
theorem dX8_turnWind_23 : decode cX8_turnWind 23 = .ok (.ireturn, 1) := by decide +kernel
theorem dX8_clearKeys_0 : decode cX8_clearKeys 0 = .ok (.aload_n 0, 1) := by decide +kernel
theorem dX8_clearKeys_1 : decode cX8_clearKeys 1 = .ok (.iload_n 1, 1) := by decide +kernel
theorem dX8_clearKeys_2 : decode cX8_clearKeys 2 = .ok (.invokevirtual 126, 3) := by decide +kernel
theorem dX8_clearKeys_5 : decode cX8_clearKeys 5 = .ok (.astore_n 2, 1) := by decide +kernel
theorem dX8_clearKeys_6 : decode cX8_clearKeys 6 = .ok (.aload_n 2, 1) := by decide +kernel
theorem dX8_clearKeys_7 : decode cX8_clearKeys 7 = .ok (.ifnonnull 6, 3) := by decide +kernel
theorem dX8_clearKeys_10 : decode cX8_clearKeys 10 = .ok (.bipush (-3), 2) := by decide +kernel
theorem dX8_clearKeys_12 : decode cX8_clearKeys 12 = .ok (.ireturn, 1) := by decide +kernel
theorem dX8_clearKeys_13 : decode cX8_clearKeys 13 = .ok (.aload_n 2, 1) := by decide +kernel
theorem dX8_clearKeys_14 : decode cX8_clearKeys 14 = .ok (.getfield 161, 3) := by decide +kernel
theorem dX8_clearKeys_17 : decode cX8_clearKeys 17 = .ok (.istore_n 3, 1) := by decide +kernel
theorem dX8_clearKeys_18 : decode cX8_clearKeys 18 = .ok (.aload_n 2, 1) := by decide +kernel
theorem dX8_clearKeys_19 : decode cX8_clearKeys 19 = .ok (.iconst 0, 1) := by decide +kernel
theorem dX8_clearKeys_20 : decode cX8_clearKeys 20 = .ok (.putfield 161, 3) := by decide +kernel
theorem dX8_clearKeys_23 : decode cX8_clearKeys 23 = .ok (.iload_n 3, 1) := by decide +kernel
theorem dX8_clearKeys_24 : decode cX8_clearKeys 24 = .ok (.ireturn, 1) := by decide +kernel
theorem dX8_pass_0 : decode cX8_pass 0 = .ok (.iload_n 1, 1) := by decide +kernel
theorem dX8_pass_1 : decode cX8_pass 1 = .ok (.iconst 1, 1) := by decide +kernel
theorem dX8_pass_2 : decode cX8_pass 2 = .ok (.if_icmp .lt 9, 3) := by decide +kernel
theorem dX8_pass_5 : decode cX8_pass 5 = .ok (.iload_n 1, 1) := by decide +kernel
theorem dX8_pass_6 : decode cX8_pass 6 = .ok (.bipush 100, 2) := by decide +kernel
theorem dX8_pass_8 : decode cX8_pass 8 = .ok (.if_icmp .le 5, 3) := by decide +kernel
theorem dX8_pass_11 : decode cX8_pass 11 = .ok (.iconst (-1), 1) := by decide +kernel
theorem dX8_pass_12 : decode cX8_pass 12 = .ok (.ireturn, 1) := by decide +kernel
theorem dX8_pass_13 : decode cX8_pass 13 = .ok (.aload_n 0, 1) := by decide +kernel
theorem dX8_pass_14 : decode cX8_pass 14 = .ok (.getfield 32, 3) := by decide +kernel
theorem dX8_pass_17 : decode cX8_pass 17 = .ok (.getfield 164, 3) := by decide +kernel
theorem dX8_pass_20 : decode cX8_pass 20 = .ok (.istore_n 2, 1) := by decide +kernel
theorem dX8_pass_21 : decode cX8_pass 21 = .ok (.iconst 0, 1) := by decide +kernel
theorem dX8_pass_22 : decode cX8_pass 22 = .ok (.istore_n 3, 1) := by decide +kernel
theorem dX8_pass_23 : decode cX8_pass 23 = .ok (.iload_n 3, 1) := by decide +kernel
theorem dX8_pass_24 : decode cX8_pass 24 = .ok (.iload_n 1, 1) := by decide +kernel
theorem dX8_pass_25 : decode cX8_pass 25 = .ok (.if_icmp .ge 31, 3) := by decide +kernel
theorem dX8_pass_28 : decode cX8_pass 28 = .ok (.aload_n 0, 1) := by decide +kernel
theorem dX8_pass_29 : decode cX8_pass 29 = .ok (.dup, 1) := by decide +kernel
theorem dX8_pass_30 : decode cX8_pass 30 = .ok (.getfield 46, 3) := by decide +kernel
theorem dX8_pass_33 : decode cX8_pass 33 = .ok (.iconst 1, 1) := by decide +kernel
theorem dX8_pass_34 : decode cX8_pass 34 = .ok (.iadd, 1) := by decide +kernel
theorem dX8_pass_35 : decode cX8_pass 35 = .ok (.putfield 46, 3) := by decide +kernel
theorem dX8_pass_38 : decode cX8_pass 38 = .ok (.aload_n 0, 1) := by decide +kernel
theorem dX8_pass_39 : decode cX8_pass 39 = .ok (.invokevirtual 167, 3) := by decide +kernel
theorem dX8_pass_42 : decode cX8_pass 42 = .ok (.aload_n 0, 1) := by decide +kernel
theorem dX8_pass_43 : decode cX8_pass 43 = .ok (.invokevirtual 170, 3) := by decide +kernel
theorem dX8_pass_46 : decode cX8_pass 46 = .ok (.aload_n 0, 1) := by decide +kernel
theorem dX8_pass_47 : decode cX8_pass 47 = .ok (.invokevirtual 173, 3) := by decide +kernel
theorem dX8_pass_50 : decode cX8_pass 50 = .ok (.iinc 3 1, 3) := by decide +kernel
theorem dX8_pass_53 : decode cX8_pass 53 = .ok (.goto (-30), 3) := by decide +kernel
theorem dX8_pass_56 : decode cX8_pass 56 = .ok (.aload_n 0, 1) := by decide +kernel
theorem dX8_pass_57 : decode cX8_pass 57 = .ok (.getfield 32, 3) := by decide +kernel
theorem dX8_pass_60 : decode cX8_pass 60 = .ok (.getfield 164, 3) := by decide +kernel
theorem dX8_pass_63 : decode cX8_pass 63 = .ok (.iload_n 2, 1) := by decide +kernel
theorem dX8_pass_64 : decode cX8_pass 64 = .ok (.isub, 1) := by decide +kernel
theorem dX8_pass_65 : decode cX8_pass 65 = .ok (.ireturn, 1) := by decide +kernel
theorem dX8_landCrows_0 : decode cX8_landCrows 0 = .ok (.iconst 0, 1) := by decide +kernel
theorem dX8_landCrows_1 : decode cX8_landCrows 1 = .ok (.istore_n 1, 1) := by decide +kernel
theorem dX8_landCrows_2 : decode cX8_landCrows 2 = .ok (.iload_n 1, 1) := by decide +kernel
theorem dX8_landCrows_3 : decode cX8_landCrows 3 = .ok (.aload_n 0, 1) := by decide +kernel
theorem dX8_landCrows_4 : decode cX8_landCrows 4 = .ok (.getfield 40, 3) := by decide +kernel
theorem dX8_landCrows_7 : decode cX8_landCrows 7 = .ok (.if_icmp .ge 47, 3) := by decide +kernel
theorem dX8_landCrows_10 : decode cX8_landCrows 10 = .ok (.aload_n 0, 1) := by decide +kernel
theorem dX8_landCrows_11 : decode cX8_landCrows 11 = .ok (.getfield 19, 3) := by decide +kernel
theorem dX8_landCrows_14 : decode cX8_landCrows 14 = .ok (.iload_n 1, 1) := by decide +kernel
theorem dX8_landCrows_15 : decode cX8_landCrows 15 = .ok (.aaload, 1) := by decide +kernel
theorem dX8_landCrows_16 : decode cX8_landCrows 16 = .ok (.astore_n 2, 1) := by decide +kernel
theorem dX8_landCrows_17 : decode cX8_landCrows 17 = .ok (.aload_n 2, 1) := by decide +kernel
theorem dX8_landCrows_18 : decode cX8_landCrows 18 = .ok (.getfield 122, 3) := by decide +kernel
theorem dX8_landCrows_21 : decode cX8_landCrows 21 = .ok (.ifCond .eq 27, 3) := by decide +kernel
theorem dX8_landCrows_24 : decode cX8_landCrows 24 = .ok (.aload_n 2, 1) := by decide +kernel
theorem dX8_landCrows_25 : decode cX8_landCrows 25 = .ok (.getfield 176, 3) := by decide +kernel
theorem dX8_landCrows_28 : decode cX8_landCrows 28 = .ok (.aload_n 0, 1) := by decide +kernel
theorem dX8_landCrows_29 : decode cX8_landCrows 29 = .ok (.getfield 46, 3) := by decide +kernel
theorem dX8_landCrows_32 : decode cX8_landCrows 32 = .ok (.if_icmp .ne 16, 3) := by decide +kernel
theorem dX8_landCrows_35 : decode cX8_landCrows 35 = .ok (.aload_n 2, 1) := by decide +kernel
theorem dX8_landCrows_36 : decode cX8_landCrows 36 = .ok (.iconst 0, 1) := by decide +kernel
theorem dX8_landCrows_37 : decode cX8_landCrows 37 = .ok (.putfield 122, 3) := by decide +kernel
theorem dX8_landCrows_40 : decode cX8_landCrows 40 = .ok (.aload_n 0, 1) := by decide +kernel
theorem dX8_landCrows_41 : decode cX8_landCrows 41 = .ok (.aload_n 2, 1) := by decide +kernel
theorem dX8_landCrows_42 : decode cX8_landCrows 42 = .ok (.getfield 179, 3) := by decide +kernel
theorem dX8_landCrows_45 : decode cX8_landCrows 45 = .ok (.invokevirtual 182, 3) := by decide +kernel
theorem dX8_landCrows_48 : decode cX8_landCrows 48 = .ok (.iinc 1 1, 3) := by decide +kernel
theorem dX8_landCrows_51 : decode cX8_landCrows 51 = .ok (.goto (-49), 3) := by decide +kernel
theorem dX8_landCrows_54 : decode cX8_landCrows 54 = .ok (.return_, 1) := by decide +kernel
theorem dX8_wakeMessages_0 : decode cX8_wakeMessages 0 = .ok (.iconst 0, 1) := by decide +kernel
theorem dX8_wakeMessages_1 : decode cX8_wakeMessages 1 = .ok (.istore_n 1, 1) := by decide +kernel
theorem dX8_wakeMessages_2 : decode cX8_wakeMessages 2 = .ok (.iload_n 1, 1) := by decide +kernel
theorem dX8_wakeMessages_3 : decode cX8_wakeMessages 3 = .ok (.aload_n 0, 1) := by decide +kernel
theorem dX8_wakeMessages_4 : decode cX8_wakeMessages 4 = .ok (.getfield 43, 3) := by decide +kernel
theorem dX8_wakeMessages_7 : decode cX8_wakeMessages 7 = .ok (.if_icmp .ge 42, 3) := by decide +kernel
theorem dX8_wakeMessages_10 : decode cX8_wakeMessages 10 = .ok (.aload_n 0, 1) := by decide +kernel
theorem dX8_wakeMessages_11 : decode cX8_wakeMessages 11 = .ok (.getfield 25, 3) := by decide +kernel
theorem dX8_wakeMessages_14 : decode cX8_wakeMessages 14 = .ok (.iload_n 1, 1) := by decide +kernel
theorem dX8_wakeMessages_15 : decode cX8_wakeMessages 15 = .ok (.aaload, 1) := by decide +kernel
theorem dX8_wakeMessages_16 : decode cX8_wakeMessages 16 = .ok (.astore_n 2, 1) := by decide +kernel
theorem dX8_wakeMessages_17 : decode cX8_wakeMessages 17 = .ok (.aload_n 2, 1) := by decide +kernel
theorem dX8_wakeMessages_18 : decode cX8_wakeMessages 18 = .ok (.getfield 154, 3) := by decide +kernel
theorem dX8_wakeMessages_21 : decode cX8_wakeMessages 21 = .ok (.bipush 110, 2) := by decide +kernel
theorem dX8_wakeMessages_23 : decode cX8_wakeMessages 23 = .ok (.if_icmp .ne 20, 3) := by decide +kernel
theorem dX8_wakeMessages_26 : decode cX8_wakeMessages 26 = .ok (.aload_n 2, 1) := by decide +kernel
theorem dX8_wakeMessages_27 : decode cX8_wakeMessages 27 = .ok (.getfield 185, 3) := by decide +kernel
theorem dX8_wakeMessages_30 : decode cX8_wakeMessages 30 = .ok (.aload_n 0, 1) := by decide +kernel
theorem dX8_wakeMessages_31 : decode cX8_wakeMessages 31 = .ok (.getfield 46, 3) := by decide +kernel
theorem dX8_wakeMessages_34 : decode cX8_wakeMessages 34 = .ok (.if_icmp .ne 9, 3) := by decide +kernel
theorem dX8_wakeMessages_37 : decode cX8_wakeMessages 37 = .ok (.aload_n 2, 1) := by decide +kernel
theorem dX8_wakeMessages_38 : decode cX8_wakeMessages 38 = .ok (.bipush 119, 2) := by decide +kernel
theorem dX8_wakeMessages_40 : decode cX8_wakeMessages 40 = .ok (.putfield 154, 3) := by decide +kernel
theorem dX8_wakeMessages_43 : decode cX8_wakeMessages 43 = .ok (.iinc 1 1, 3) := by decide +kernel
theorem dX8_wakeMessages_46 : decode cX8_wakeMessages 46 = .ok (.goto (-44), 3) := by decide +kernel
theorem dX8_wakeMessages_49 : decode cX8_wakeMessages 49 = .ok (.return_, 1) := by decide +kernel
theorem dX8_sendCrows_0 : decode cX8_sendCrows 0 = .ok (.iconst 0, 1) := by decide +kernel
theorem dX8_sendCrows_1 : decode cX8_sendCrows 1 = .ok (.istore_n 1, 1) := by decide +kernel
theorem dX8_sendCrows_2 : decode cX8_sendCrows 2 = .ok (.iload_n 1, 1) := by decide +kernel
theorem dX8_sendCrows_3 : decode cX8_sendCrows 3 = .ok (.aload_n 0, 1) := by decide +kernel
theorem dX8_sendCrows_4 : decode cX8_sendCrows 4 = .ok (.getfield 40, 3) := by decide +kernel
theorem dX8_sendCrows_7 : decode cX8_sendCrows 7 = .ok (.if_icmp .ge 83, 3) := by decide +kernel
theorem dX8_sendCrows_10 : decode cX8_sendCrows 10 = .ok (.aload_n 0, 1) := by decide +kernel
theorem dX8_sendCrows_11 : decode cX8_sendCrows 11 = .ok (.getfield 19, 3) := by decide +kernel
theorem dX8_sendCrows_14 : decode cX8_sendCrows 14 = .ok (.iload_n 1, 1) := by decide +kernel
theorem dX8_sendCrows_15 : decode cX8_sendCrows 15 = .ok (.aaload, 1) := by decide +kernel
theorem dX8_sendCrows_16 : decode cX8_sendCrows 16 = .ok (.getfield 122, 3) := by decide +kernel
theorem dX8_sendCrows_19 : decode cX8_sendCrows 19 = .ok (.ifCond .eq 7, 3) := by decide +kernel
theorem dX8_sendCrows_22 : decode cX8_sendCrows 22 = .ok (.aconst_null, 1) := by decide +kernel
theorem dX8_sendCrows_23 : decode cX8_sendCrows 23 = .ok (.goto 8, 3) := by decide +kernel
theorem dX8_sendCrows_26 : decode cX8_sendCrows 26 = .ok (.aload_n 0, 1) := by decide +kernel
theorem dX8_sendCrows_27 : decode cX8_sendCrows 27 = .ok (.iconst 0, 1) := by decide +kernel
theorem dX8_sendCrows_28 : decode cX8_sendCrows 28 = .ok (.invokevirtual 188, 3) := by decide +kernel
theorem dX8_sendCrows_31 : decode cX8_sendCrows 31 = .ok (.astore_n 2, 1) := by decide +kernel
theorem dX8_sendCrows_32 : decode cX8_sendCrows 32 = .ok (.aload_n 2, 1) := by decide +kernel
theorem dX8_sendCrows_33 : decode cX8_sendCrows 33 = .ok (.ifnull 51, 3) := by decide +kernel
theorem dX8_sendCrows_36 : decode cX8_sendCrows 36 = .ok (.aload_n 2, 1) := by decide +kernel
theorem dX8_sendCrows_37 : decode cX8_sendCrows 37 = .ok (.bipush 102, 2) := by decide +kernel
theorem dX8_sendCrows_39 : decode cX8_sendCrows 39 = .ok (.putfield 154, 3) := by decide +kernel
theorem dX8_sendCrows_42 : decode cX8_sendCrows 42 = .ok (.aload_n 0, 1) := by decide +kernel
theorem dX8_sendCrows_43 : decode cX8_sendCrows 43 = .ok (.getfield 19, 3) := by decide +kernel
theorem dX8_sendCrows_46 : decode cX8_sendCrows 46 = .ok (.iload_n 1, 1) := by decide +kernel
theorem dX8_sendCrows_47 : decode cX8_sendCrows 47 = .ok (.aaload, 1) := by decide +kernel
theorem dX8_sendCrows_48 : decode cX8_sendCrows 48 = .ok (.iconst 1, 1) := by decide +kernel
theorem dX8_sendCrows_49 : decode cX8_sendCrows 49 = .ok (.putfield 122, 3) := by decide +kernel
theorem dX8_sendCrows_52 : decode cX8_sendCrows 52 = .ok (.aload_n 0, 1) := by decide +kernel
theorem dX8_sendCrows_53 : decode cX8_sendCrows 53 = .ok (.getfield 19, 3) := by decide +kernel
theorem dX8_sendCrows_56 : decode cX8_sendCrows 56 = .ok (.iload_n 1, 1) := by decide +kernel
theorem dX8_sendCrows_57 : decode cX8_sendCrows 57 = .ok (.aaload, 1) := by decide +kernel
theorem dX8_sendCrows_58 : decode cX8_sendCrows 58 = .ok (.aload_n 2, 1) := by decide +kernel
theorem dX8_sendCrows_59 : decode cX8_sendCrows 59 = .ok (.getfield 191, 3) := by decide +kernel
theorem dX8_sendCrows_62 : decode cX8_sendCrows 62 = .ok (.putfield 179, 3) := by decide +kernel
theorem dX8_sendCrows_65 : decode cX8_sendCrows 65 = .ok (.aload_n 0, 1) := by decide +kernel
theorem dX8_sendCrows_66 : decode cX8_sendCrows 66 = .ok (.getfield 19, 3) := by decide +kernel
theorem dX8_sendCrows_69 : decode cX8_sendCrows 69 = .ok (.iload_n 1, 1) := by decide +kernel
theorem dX8_sendCrows_70 : decode cX8_sendCrows 70 = .ok (.aaload, 1) := by decide +kernel
theorem dX8_sendCrows_71 : decode cX8_sendCrows 71 = .ok (.aload_n 0, 1) := by decide +kernel
theorem dX8_sendCrows_72 : decode cX8_sendCrows 72 = .ok (.getfield 46, 3) := by decide +kernel
theorem dX8_sendCrows_75 : decode cX8_sendCrows 75 = .ok (.aload_n 0, 1) := by decide +kernel
theorem dX8_sendCrows_76 : decode cX8_sendCrows 76 = .ok (.aload_n 2, 1) := by decide +kernel
theorem dX8_sendCrows_77 : decode cX8_sendCrows 77 = .ok (.invokevirtual 194, 3) := by decide +kernel
theorem dX8_sendCrows_80 : decode cX8_sendCrows 80 = .ok (.iadd, 1) := by decide +kernel
theorem dX8_sendCrows_81 : decode cX8_sendCrows 81 = .ok (.putfield 176, 3) := by decide +kernel
theorem dX8_sendCrows_84 : decode cX8_sendCrows 84 = .ok (.iinc 1 1, 3) := by decide +kernel
theorem dX8_sendCrows_87 : decode cX8_sendCrows 87 = .ok (.goto (-85), 3) := by decide +kernel
theorem dX8_sendCrows_90 : decode cX8_sendCrows 90 = .ok (.return_, 1) := by decide +kernel
theorem dX8_flightLength_0 : decode cX8_flightLength 0 = .ok (.aload_n 0, 1) := by decide +kernel
theorem dX8_flightLength_1 : decode cX8_flightLength 1 = .ok (.aload_n 1, 1) := by decide +kernel
theorem dX8_flightLength_2 : decode cX8_flightLength 2 = .ok (.getfield 198, 3) := by decide +kernel
theorem dX8_flightLength_5 : decode cX8_flightLength 5 = .ok (.invokevirtual 126, 3) := by decide +kernel
theorem dX8_flightLength_8 : decode cX8_flightLength 8 = .ok (.astore_n 2, 1) := by decide +kernel
theorem dX8_flightLength_9 : decode cX8_flightLength 9 = .ok (.aload_n 2, 1) := by decide +kernel
theorem dX8_flightLength_10 : decode cX8_flightLength 10 = .ok (.ifnonnull 7, 3) := by decide +kernel
theorem dX8_flightLength_13 : decode cX8_flightLength 13 = .ok (.iconst 1, 1) := by decide +kernel
theorem dX8_flightLength_14 : decode cX8_flightLength 14 = .ok (.goto 7, 3) := by decide +kernel
theorem dX8_flightLength_17 : decode cX8_flightLength 17 = .ok (.aload_n 2, 1) := by decide +kernel
theorem dX8_flightLength_18 : decode cX8_flightLength 18 = .ok (.getfield 201, 3) := by decide +kernel
theorem dX8_flightLength_21 : decode cX8_flightLength 21 = .ok (.istore_n 3, 1) := by decide +kernel
theorem dX8_flightLength_22 : decode cX8_flightLength 22 = .ok (.aload_n 0, 1) := by decide +kernel
theorem dX8_flightLength_23 : decode cX8_flightLength 23 = .ok (.getfield 49, 3) := by decide +kernel
theorem dX8_flightLength_26 : decode cX8_flightLength 26 = .ok (.iconst 5, 1) := by decide +kernel
theorem dX8_flightLength_27 : decode cX8_flightLength 27 = .ok (.if_icmp .le 9, 3) := by decide +kernel
theorem dX8_flightLength_30 : decode cX8_flightLength 30 = .ok (.iload_n 3, 1) := by decide +kernel
theorem dX8_flightLength_31 : decode cX8_flightLength 31 = .ok (.iconst 1, 1) := by decide +kernel
theorem dX8_flightLength_32 : decode cX8_flightLength 32 = .ok (.iadd, 1) := by decide +kernel
theorem dX8_flightLength_33 : decode cX8_flightLength 33 = .ok (.goto 4, 3) := by decide +kernel
theorem dX8_flightLength_36 : decode cX8_flightLength 36 = .ok (.iload_n 3, 1) := by decide +kernel
theorem dX8_flightLength_37 : decode cX8_flightLength 37 = .ok (.ireturn, 1) := by decide +kernel
theorem dX8_arrive_0 : decode cX8_arrive 0 = .ok (.aload_n 0, 1) := by decide +kernel
theorem dX8_arrive_1 : decode cX8_arrive 1 = .ok (.iload_n 1, 1) := by decide +kernel
theorem dX8_arrive_2 : decode cX8_arrive 2 = .ok (.invokevirtual 150, 3) := by decide +kernel
theorem dX8_arrive_5 : decode cX8_arrive 5 = .ok (.astore_n 2, 1) := by decide +kernel
theorem dX8_arrive_6 : decode cX8_arrive 6 = .ok (.aload_n 2, 1) := by decide +kernel
theorem dX8_arrive_7 : decode cX8_arrive 7 = .ok (.ifnonnull 4, 3) := by decide +kernel
theorem dX8_arrive_10 : decode cX8_arrive 10 = .ok (.return_, 1) := by decide +kernel
theorem dX8_arrive_11 : decode cX8_arrive 11 = .ok (.aload_n 0, 1) := by decide +kernel
theorem dX8_arrive_12 : decode cX8_arrive 12 = .ok (.aload_n 2, 1) := by decide +kernel
theorem dX8_arrive_13 : decode cX8_arrive 13 = .ok (.getfield 198, 3) := by decide +kernel
theorem dX8_arrive_16 : decode cX8_arrive 16 = .ok (.invokevirtual 126, 3) := by decide +kernel
theorem dX8_arrive_19 : decode cX8_arrive 19 = .ok (.astore_n 3, 1) := by decide +kernel
theorem dX8_arrive_20 : decode cX8_arrive 20 = .ok (.aload_n 3, 1) := by decide +kernel
theorem dX8_arrive_21 : decode cX8_arrive 21 = .ok (.ifnonnull 4, 3) := by decide +kernel
theorem dX8_arrive_24 : decode cX8_arrive 24 = .ok (.return_, 1) := by decide +kernel
theorem dX8_arrive_25 : decode cX8_arrive 25 = .ok (.aload_n 2, 1) := by decide +kernel
theorem dX8_arrive_26 : decode cX8_arrive 26 = .ok (.dup, 1) := by decide +kernel
theorem dX8_arrive_27 : decode cX8_arrive 27 = .ok (.getfield 204, 3) := by decide +kernel
theorem dX8_arrive_30 : decode cX8_arrive 30 = .ok (.iconst 1, 1) := by decide +kernel
theorem dX8_arrive_31 : decode cX8_arrive 31 = .ok (.iadd, 1) := by decide +kernel
theorem dX8_arrive_32 : decode cX8_arrive 32 = .ok (.putfield 204, 3) := by decide +kernel
theorem dX8_arrive_35 : decode cX8_arrive 35 = .ok (.aload_n 0, 1) := by decide +kernel
theorem dX8_arrive_36 : decode cX8_arrive 36 = .ok (.getfield 32, 3) := by decide +kernel
theorem dX8_arrive_39 : decode cX8_arrive 39 = .ok (.dup, 1) := by decide +kernel
theorem dX8_arrive_40 : decode cX8_arrive 40 = .ok (.getfield 207, 3) := by decide +kernel
theorem dX8_arrive_43 : decode cX8_arrive 43 = .ok (.iconst 1, 1) := by decide +kernel
theorem dX8_arrive_44 : decode cX8_arrive 44 = .ok (.iadd, 1) := by decide +kernel
theorem dX8_arrive_45 : decode cX8_arrive 45 = .ok (.putfield 207, 3) := by decide +kernel
theorem dX8_arrive_48 : decode cX8_arrive 48 = .ok (.aload_n 0, 1) := by decide +kernel
theorem dX8_arrive_49 : decode cX8_arrive 49 = .ok (.aload_n 2, 1) := by decide +kernel
theorem dX8_arrive_50 : decode cX8_arrive 50 = .ok (.aload_n 2, 1) := by decide +kernel
theorem dX8_arrive_51 : decode cX8_arrive 51 = .ok (.getfield 204, 3) := by decide +kernel
theorem dX8_arrive_54 : decode cX8_arrive 54 = .ok (.invokevirtual 210, 3) := by decide +kernel
theorem dX8_arrive_57 : decode cX8_arrive 57 = .ok (.istore 4, 2) := by decide +kernel
theorem dX8_arrive_59 : decode cX8_arrive 59 = .ok (.iload 4, 2) := by decide +kernel
theorem dX8_arrive_61 : decode cX8_arrive 61 = .ok (.ifCond .ne 35, 3) := by decide +kernel
theorem dX8_arrive_64 : decode cX8_arrive 64 = .ok (.aload_n 3, 1) := by decide +kernel
theorem dX8_arrive_65 : decode cX8_arrive 65 = .ok (.aload_n 2, 1) := by decide +kernel
theorem dX8_arrive_66 : decode cX8_arrive 66 = .ok (.getfield 214, 3) := by decide +kernel
theorem dX8_arrive_69 : decode cX8_arrive 69 = .ok (.invokevirtual 217, 3) := by decide +kernel
theorem dX8_arrive_72 : decode cX8_arrive 72 = .ok (.ifCond .eq 24, 3) := by decide +kernel
theorem dX8_arrive_75 : decode cX8_arrive 75 = .ok (.aload_n 0, 1) := by decide +kernel
theorem dX8_arrive_76 : decode cX8_arrive 76 = .ok (.iload_n 1, 1) := by decide +kernel
theorem dX8_arrive_77 : decode cX8_arrive 77 = .ok (.invokevirtual 143, 3) := by decide +kernel
theorem dX8_arrive_80 : decode cX8_arrive 80 = .ok (.aload_n 0, 1) := by decide +kernel
theorem dX8_arrive_81 : decode cX8_arrive 81 = .ok (.getfield 32, 3) := by decide +kernel
theorem dX8_arrive_84 : decode cX8_arrive 84 = .ok (.dup, 1) := by decide +kernel
theorem dX8_arrive_85 : decode cX8_arrive 85 = .ok (.getfield 221, 3) := by decide +kernel
theorem dX8_arrive_88 : decode cX8_arrive 88 = .ok (.iconst 1, 1) := by decide +kernel
theorem dX8_arrive_89 : decode cX8_arrive 89 = .ok (.iadd, 1) := by decide +kernel
theorem dX8_arrive_90 : decode cX8_arrive 90 = .ok (.putfield 221, 3) := by decide +kernel
theorem dX8_arrive_93 : decode cX8_arrive 93 = .ok (.goto 98, 3) := by decide +kernel
theorem dX8_arrive_96 : decode cX8_arrive 96 = .ok (.iload 4, 2) := by decide +kernel
theorem dX8_arrive_98 : decode cX8_arrive 98 = .ok (.ifCond .ne 41, 3) := by decide +kernel
theorem dX8_arrive_101 : decode cX8_arrive 101 = .ok (.aload_n 3, 1) := by decide +kernel
theorem dX8_arrive_102 : decode cX8_arrive 102 = .ok (.invokevirtual 224, 3) := by decide +kernel
theorem dX8_arrive_105 : decode cX8_arrive 105 = .ok (.ifCond .eq 34, 3) := by decide +kernel
theorem dX8_arrive_108 : decode cX8_arrive 108 = .ok (.aload_n 3, 1) := by decide +kernel
theorem dX8_arrive_109 : decode cX8_arrive 109 = .ok (.iload_n 1, 1) := by decide +kernel
theorem dX8_arrive_110 : decode cX8_arrive 110 = .ok (.aload_n 2, 1) := by decide +kernel
theorem dX8_arrive_111 : decode cX8_arrive 111 = .ok (.getfield 214, 3) := by decide +kernel
theorem dX8_arrive_114 : decode cX8_arrive 114 = .ok (.invokevirtual 228, 3) := by decide +kernel
theorem dX8_arrive_117 : decode cX8_arrive 117 = .ok (.aload_n 2, 1) := by decide +kernel
theorem dX8_arrive_118 : decode cX8_arrive 118 = .ok (.bipush 100, 2) := by decide +kernel
theorem dX8_arrive_120 : decode cX8_arrive 120 = .ok (.putfield 154, 3) := by decide +kernel
theorem dX8_arrive_123 : decode cX8_arrive 123 = .ok (.aload_n 0, 1) := by decide +kernel
theorem dX8_arrive_124 : decode cX8_arrive 124 = .ok (.getfield 32, 3) := by decide +kernel
theorem dX8_arrive_127 : decode cX8_arrive 127 = .ok (.dup, 1) := by decide +kernel
theorem dX8_arrive_128 : decode cX8_arrive 128 = .ok (.getfield 164, 3) := by decide +kernel
theorem dX8_arrive_131 : decode cX8_arrive 131 = .ok (.iconst 1, 1) := by decide +kernel
theorem dX8_arrive_132 : decode cX8_arrive 132 = .ok (.iadd, 1) := by decide +kernel
theorem dX8_arrive_133 : decode cX8_arrive 133 = .ok (.putfield 164, 3) := by decide +kernel
theorem dX8_arrive_136 : decode cX8_arrive 136 = .ok (.goto 55, 3) := by decide +kernel
theorem dX8_arrive_139 : decode cX8_arrive 139 = .ok (.aload_n 2, 1) := by decide +kernel
theorem dX8_arrive_140 : decode cX8_arrive 140 = .ok (.getfield 204, 3) := by decide +kernel
theorem dX8_arrive_143 : decode cX8_arrive 143 = .ok (.iconst 5, 1) := by decide +kernel
theorem dX8_arrive_144 : decode cX8_arrive 144 = .ok (.if_icmp .lt 24, 3) := by decide +kernel
theorem dX8_arrive_147 : decode cX8_arrive 147 = .ok (.aload_n 0, 1) := by decide +kernel
theorem dX8_arrive_148 : decode cX8_arrive 148 = .ok (.iload_n 1, 1) := by decide +kernel
theorem dX8_arrive_149 : decode cX8_arrive 149 = .ok (.invokevirtual 143, 3) := by decide +kernel
theorem dX8_arrive_152 : decode cX8_arrive 152 = .ok (.aload_n 0, 1) := by decide +kernel
theorem dX8_arrive_153 : decode cX8_arrive 153 = .ok (.getfield 32, 3) := by decide +kernel
theorem dX8_arrive_156 : decode cX8_arrive 156 = .ok (.dup, 1) := by decide +kernel
theorem dX8_arrive_157 : decode cX8_arrive 157 = .ok (.getfield 231, 3) := by decide +kernel
theorem dX8_arrive_160 : decode cX8_arrive 160 = .ok (.iconst 1, 1) := by decide +kernel
theorem dX8_arrive_161 : decode cX8_arrive 161 = .ok (.iadd, 1) := by decide +kernel
theorem dX8_arrive_162 : decode cX8_arrive 162 = .ok (.putfield 231, 3) := by decide +kernel
theorem dX8_arrive_165 : decode cX8_arrive 165 = .ok (.goto 26, 3) := by decide +kernel
theorem dX8_arrive_168 : decode cX8_arrive 168 = .ok (.aload_n 2, 1) := by decide +kernel
theorem dX8_arrive_169 : decode cX8_arrive 169 = .ok (.bipush 110, 2) := by decide +kernel
theorem dX8_arrive_171 : decode cX8_arrive 171 = .ok (.putfield 154, 3) := by decide +kernel
theorem dX8_arrive_174 : decode cX8_arrive 174 = .ok (.aload_n 2, 1) := by decide +kernel
theorem dX8_arrive_175 : decode cX8_arrive 175 = .ok (.aload_n 0, 1) := by decide +kernel
theorem dX8_arrive_176 : decode cX8_arrive 176 = .ok (.getfield 46, 3) := by decide +kernel
theorem dX8_arrive_179 : decode cX8_arrive 179 = .ok (.aload_n 2, 1) := by decide +kernel
theorem dX8_arrive_180 : decode cX8_arrive 180 = .ok (.getfield 204, 3) := by decide +kernel
theorem dX8_arrive_183 : decode cX8_arrive 183 = .ok (.invokestatic 234, 3) := by decide +kernel
theorem dX8_arrive_186 : decode cX8_arrive 186 = .ok (.l2i, 1) := by decide +kernel
theorem dX8_arrive_187 : decode cX8_arrive 187 = .ok (.iadd, 1) := by decide +kernel
theorem dX8_arrive_188 : decode cX8_arrive 188 = .ok (.putfield 185, 3) := by decide +kernel
theorem dX8_arrive_191 : decode cX8_arrive 191 = .ok (.return_, 1) := by decide +kernel
theorem dX8_isLost_0 : decode cX8_isLost 0 = .ok (.aload_n 0, 1) := by decide +kernel
theorem dX8_isLost_1 : decode cX8_isLost 1 = .ok (.aload_n 1, 1) := by decide +kernel
theorem dX8_isLost_2 : decode cX8_isLost 2 = .ok (.getfield 198, 3) := by decide +kernel
theorem dX8_isLost_5 : decode cX8_isLost 5 = .ok (.invokevirtual 126, 3) := by decide +kernel
theorem dX8_isLost_8 : decode cX8_isLost 8 = .ok (.astore_n 3, 1) := by decide +kernel
theorem dX8_isLost_9 : decode cX8_isLost 9 = .ok (.aload_n 3, 1) := by decide +kernel
theorem dX8_isLost_10 : decode cX8_isLost 10 = .ok (.ifnull 27, 3) := by decide +kernel
theorem dX8_isLost_13 : decode cX8_isLost 13 = .ok (.aload_n 1, 1) := by decide +kernel
theorem dX8_isLost_14 : decode cX8_isLost 14 = .ok (.getfield 191, 3) := by decide +kernel
theorem dX8_isLost_17 : decode cX8_isLost 17 = .ok (.iload_n 2, 1) := by decide +kernel
theorem dX8_isLost_18 : decode cX8_isLost 18 = .ok (.iadd, 1) := by decide +kernel
theorem dX8_isLost_19 : decode cX8_isLost 19 = .ok (.aload_n 0, 1) := by decide +kernel
theorem dX8_isLost_20 : decode cX8_isLost 20 = .ok (.getfield 49, 3) := by decide +kernel
theorem dX8_isLost_23 : decode cX8_isLost 23 = .ok (.iadd, 1) := by decide +kernel
theorem dX8_isLost_24 : decode cX8_isLost 24 = .ok (.iconst 5, 1) := by decide +kernel
theorem dX8_isLost_25 : decode cX8_isLost 25 = .ok (.irem, 1) := by decide +kernel
theorem dX8_isLost_26 : decode cX8_isLost 26 = .ok (.aload_n 3, 1) := by decide +kernel
theorem dX8_isLost_27 : decode cX8_isLost 27 = .ok (.getfield 238, 3) := by decide +kernel
theorem dX8_isLost_30 : decode cX8_isLost 30 = .ok (.if_icmp .ge 7, 3) := by decide +kernel
theorem dX8_isLost_33 : decode cX8_isLost 33 = .ok (.iconst 1, 1) := by decide +kernel
theorem dX8_isLost_34 : decode cX8_isLost 34 = .ok (.goto 4, 3) := by decide +kernel
theorem dX8_isLost_37 : decode cX8_isLost 37 = .ok (.iconst 0, 1) := by decide +kernel
theorem dX8_isLost_38 : decode cX8_isLost 38 = .ok (.ireturn, 1) := by decide +kernel
theorem dX8_remove_0 : decode cX8_remove 0 = .ok (.aload_n 0, 1) := by decide +kernel
theorem dX8_remove_1 : decode cX8_remove 1 = .ok (.iload_n 1, 1) := by decide +kernel
theorem dX8_remove_2 : decode cX8_remove 2 = .ok (.invokevirtual 241, 3) := by decide +kernel
theorem dX8_remove_5 : decode cX8_remove 5 = .ok (.istore_n 2, 1) := by decide +kernel
theorem dX8_remove_6 : decode cX8_remove 6 = .ok (.iload_n 2, 1) := by decide +kernel
theorem dX8_remove_7 : decode cX8_remove 7 = .ok (.iconst (-1), 1) := by decide +kernel
theorem dX8_remove_8 : decode cX8_remove 8 = .ok (.if_icmp .ne 4, 3) := by decide +kernel
theorem dX8_remove_11 : decode cX8_remove 11 = .ok (.return_, 1) := by decide +kernel
theorem dX8_remove_12 : decode cX8_remove 12 = .ok (.aload_n 0, 1) := by decide +kernel
theorem dX8_remove_13 : decode cX8_remove 13 = .ok (.getfield 25, 3) := by decide +kernel
theorem dX8_remove_16 : decode cX8_remove 16 = .ok (.iload_n 2, 1) := by decide +kernel
theorem dX8_remove_17 : decode cX8_remove 17 = .ok (.aaload, 1) := by decide +kernel
theorem dX8_remove_18 : decode cX8_remove 18 = .ok (.astore_n 3, 1) := by decide +kernel
theorem dX8_remove_19 : decode cX8_remove 19 = .ok (.iload_n 2, 1) := by decide +kernel
theorem dX8_remove_20 : decode cX8_remove 20 = .ok (.istore 4, 2) := by decide +kernel
theorem dX8_remove_22 : decode cX8_remove 22 = .ok (.iload 4, 2) := by decide +kernel
theorem dX8_remove_24 : decode cX8_remove 24 = .ok (.iconst 1, 1) := by decide +kernel
theorem dX8_remove_25 : decode cX8_remove 25 = .ok (.iadd, 1) := by decide +kernel
theorem dX8_remove_26 : decode cX8_remove 26 = .ok (.aload_n 0, 1) := by decide +kernel
theorem dX8_remove_27 : decode cX8_remove 27 = .ok (.getfield 43, 3) := by decide +kernel
theorem dX8_remove_30 : decode cX8_remove 30 = .ok (.if_icmp .ge 25, 3) := by decide +kernel
theorem dX8_remove_33 : decode cX8_remove 33 = .ok (.aload_n 0, 1) := by decide +kernel
theorem dX8_remove_34 : decode cX8_remove 34 = .ok (.getfield 25, 3) := by decide +kernel
theorem dX8_remove_37 : decode cX8_remove 37 = .ok (.iload 4, 2) := by decide +kernel
theorem dX8_remove_39 : decode cX8_remove 39 = .ok (.aload_n 0, 1) := by decide +kernel
theorem dX8_remove_40 : decode cX8_remove 40 = .ok (.getfield 25, 3) := by decide +kernel
theorem dX8_remove_43 : decode cX8_remove 43 = .ok (.iload 4, 2) := by decide +kernel
theorem dX8_remove_45 : decode cX8_remove 45 = .ok (.iconst 1, 1) := by decide +kernel
theorem dX8_remove_46 : decode cX8_remove 46 = .ok (.iadd, 1) := by decide +kernel
theorem dX8_remove_47 : decode cX8_remove 47 = .ok (.aaload, 1) := by decide +kernel
theorem dX8_remove_48 : decode cX8_remove 48 = .ok (.aastore, 1) := by decide +kernel
theorem dX8_remove_49 : decode cX8_remove 49 = .ok (.iinc 4 1, 3) := by decide +kernel
theorem dX8_remove_52 : decode cX8_remove 52 = .ok (.goto (-30), 3) := by decide +kernel
theorem dX8_remove_55 : decode cX8_remove 55 = .ok (.aload_n 0, 1) := by decide +kernel
theorem dX8_remove_56 : decode cX8_remove 56 = .ok (.dup, 1) := by decide +kernel
theorem dX8_remove_57 : decode cX8_remove 57 = .ok (.getfield 43, 3) := by decide +kernel
theorem dX8_remove_60 : decode cX8_remove 60 = .ok (.iconst 1, 1) := by decide +kernel
theorem dX8_remove_61 : decode cX8_remove 61 = .ok (.isub, 1) := by decide +kernel
theorem dX8_remove_62 : decode cX8_remove 62 = .ok (.putfield 43, 3) := by decide +kernel
theorem dX8_remove_65 : decode cX8_remove 65 = .ok (.aload_n 0, 1) := by decide +kernel
theorem dX8_remove_66 : decode cX8_remove 66 = .ok (.getfield 25, 3) := by decide +kernel
theorem dX8_remove_69 : decode cX8_remove 69 = .ok (.aload_n 0, 1) := by decide +kernel
theorem dX8_remove_70 : decode cX8_remove 70 = .ok (.getfield 43, 3) := by decide +kernel
theorem dX8_remove_73 : decode cX8_remove 73 = .ok (.aload_n 3, 1) := by decide +kernel
end
section
theorem dX8_remove_74 : decode cX8_remove 74 = .ok (.aastore, 1) := by decide +kernel
theorem dX8_remove_75 : decode cX8_remove 75 = .ok (.return_, 1) := by decide +kernel
theorem dX8_rowOf_0 : decode cX8_rowOf 0 = .ok (.iconst 0, 1) := by decide +kernel
theorem dX8_rowOf_1 : decode cX8_rowOf 1 = .ok (.istore_n 2, 1) := by decide +kernel
theorem dX8_rowOf_2 : decode cX8_rowOf 2 = .ok (.iload_n 2, 1) := by decide +kernel
theorem dX8_rowOf_3 : decode cX8_rowOf 3 = .ok (.aload_n 0, 1) := by decide +kernel
theorem dX8_rowOf_4 : decode cX8_rowOf 4 = .ok (.getfield 43, 3) := by decide +kernel
theorem dX8_rowOf_7 : decode cX8_rowOf 7 = .ok (.if_icmp .ge 24, 3) := by decide +kernel
theorem dX8_rowOf_10 : decode cX8_rowOf 10 = .ok (.aload_n 0, 1) := by decide +kernel
theorem dX8_rowOf_11 : decode cX8_rowOf 11 = .ok (.getfield 25, 3) := by decide +kernel
theorem dX8_rowOf_14 : decode cX8_rowOf 14 = .ok (.iload_n 2, 1) := by decide +kernel
theorem dX8_rowOf_15 : decode cX8_rowOf 15 = .ok (.aaload, 1) := by decide +kernel
theorem dX8_rowOf_16 : decode cX8_rowOf 16 = .ok (.getfield 191, 3) := by decide +kernel
theorem dX8_rowOf_19 : decode cX8_rowOf 19 = .ok (.iload_n 1, 1) := by decide +kernel
theorem dX8_rowOf_20 : decode cX8_rowOf 20 = .ok (.if_icmp .ne 5, 3) := by decide +kernel
theorem dX8_rowOf_23 : decode cX8_rowOf 23 = .ok (.iload_n 2, 1) := by decide +kernel
theorem dX8_rowOf_24 : decode cX8_rowOf 24 = .ok (.ireturn, 1) := by decide +kernel
theorem dX8_rowOf_25 : decode cX8_rowOf 25 = .ok (.iinc 2 1, 3) := by decide +kernel
theorem dX8_rowOf_28 : decode cX8_rowOf 28 = .ok (.goto (-26), 3) := by decide +kernel
theorem dX8_rowOf_31 : decode cX8_rowOf 31 = .ok (.iconst (-1), 1) := by decide +kernel
theorem dX8_rowOf_32 : decode cX8_rowOf 32 = .ok (.ireturn, 1) := by decide +kernel
theorem dX8_nestAt_0 : decode cX8_nestAt 0 = .ok (.iload_n 1, 1) := by decide +kernel
theorem dX8_nestAt_1 : decode cX8_nestAt 1 = .ok (.ifCond .lt 11, 3) := by decide +kernel
theorem dX8_nestAt_4 : decode cX8_nestAt 4 = .ok (.iload_n 1, 1) := by decide +kernel
theorem dX8_nestAt_5 : decode cX8_nestAt 5 = .ok (.aload_n 0, 1) := by decide +kernel
theorem dX8_nestAt_6 : decode cX8_nestAt 6 = .ok (.getfield 36, 3) := by decide +kernel
theorem dX8_nestAt_9 : decode cX8_nestAt 9 = .ok (.if_icmp .lt 7, 3) := by decide +kernel
theorem dX8_nestAt_12 : decode cX8_nestAt 12 = .ok (.aconst_null, 1) := by decide +kernel
theorem dX8_nestAt_13 : decode cX8_nestAt 13 = .ok (.goto 9, 3) := by decide +kernel
theorem dX8_nestAt_16 : decode cX8_nestAt 16 = .ok (.aload_n 0, 1) := by decide +kernel
theorem dX8_nestAt_17 : decode cX8_nestAt 17 = .ok (.getfield 11, 3) := by decide +kernel
theorem dX8_nestAt_20 : decode cX8_nestAt 20 = .ok (.iload_n 1, 1) := by decide +kernel
theorem dX8_nestAt_21 : decode cX8_nestAt 21 = .ok (.aaload, 1) := by decide +kernel
theorem dX8_nestAt_22 : decode cX8_nestAt 22 = .ok (.areturn, 1) := by decide +kernel
theorem dX8_crowAt_0 : decode cX8_crowAt 0 = .ok (.iload_n 1, 1) := by decide +kernel
theorem dX8_crowAt_1 : decode cX8_crowAt 1 = .ok (.ifCond .lt 11, 3) := by decide +kernel
theorem dX8_crowAt_4 : decode cX8_crowAt 4 = .ok (.iload_n 1, 1) := by decide +kernel
theorem dX8_crowAt_5 : decode cX8_crowAt 5 = .ok (.aload_n 0, 1) := by decide +kernel
theorem dX8_crowAt_6 : decode cX8_crowAt 6 = .ok (.getfield 40, 3) := by decide +kernel
theorem dX8_crowAt_9 : decode cX8_crowAt 9 = .ok (.if_icmp .lt 7, 3) := by decide +kernel
theorem dX8_crowAt_12 : decode cX8_crowAt 12 = .ok (.aconst_null, 1) := by decide +kernel
theorem dX8_crowAt_13 : decode cX8_crowAt 13 = .ok (.goto 9, 3) := by decide +kernel
theorem dX8_crowAt_16 : decode cX8_crowAt 16 = .ok (.aload_n 0, 1) := by decide +kernel
theorem dX8_crowAt_17 : decode cX8_crowAt 17 = .ok (.getfield 19, 3) := by decide +kernel
theorem dX8_crowAt_20 : decode cX8_crowAt 20 = .ok (.iload_n 1, 1) := by decide +kernel
theorem dX8_crowAt_21 : decode cX8_crowAt 21 = .ok (.aaload, 1) := by decide +kernel
theorem dX8_crowAt_22 : decode cX8_crowAt 22 = .ok (.areturn, 1) := by decide +kernel
theorem dX8_messageWith_0 : decode cX8_messageWith 0 = .ok (.aload_n 0, 1) := by decide +kernel
theorem dX8_messageWith_1 : decode cX8_messageWith 1 = .ok (.iload_n 1, 1) := by decide +kernel
theorem dX8_messageWith_2 : decode cX8_messageWith 2 = .ok (.invokevirtual 241, 3) := by decide +kernel
theorem dX8_messageWith_5 : decode cX8_messageWith 5 = .ok (.istore_n 2, 1) := by decide +kernel
theorem dX8_messageWith_6 : decode cX8_messageWith 6 = .ok (.iload_n 2, 1) := by decide +kernel
theorem dX8_messageWith_7 : decode cX8_messageWith 7 = .ok (.iconst (-1), 1) := by decide +kernel
theorem dX8_messageWith_8 : decode cX8_messageWith 8 = .ok (.if_icmp .ne 7, 3) := by decide +kernel
theorem dX8_messageWith_11 : decode cX8_messageWith 11 = .ok (.aconst_null, 1) := by decide +kernel
theorem dX8_messageWith_12 : decode cX8_messageWith 12 = .ok (.goto 9, 3) := by decide +kernel
theorem dX8_messageWith_15 : decode cX8_messageWith 15 = .ok (.aload_n 0, 1) := by decide +kernel
theorem dX8_messageWith_16 : decode cX8_messageWith 16 = .ok (.getfield 25, 3) := by decide +kernel
theorem dX8_messageWith_19 : decode cX8_messageWith 19 = .ok (.iload_n 2, 1) := by decide +kernel
theorem dX8_messageWith_20 : decode cX8_messageWith 20 = .ok (.aaload, 1) := by decide +kernel
theorem dX8_messageWith_21 : decode cX8_messageWith 21 = .ok (.areturn, 1) := by decide +kernel
theorem dX8_waitingAtRank_0 : decode cX8_waitingAtRank 0 = .ok (.iconst 0, 1) := by decide +kernel
theorem dX8_waitingAtRank_1 : decode cX8_waitingAtRank 1 = .ok (.istore_n 2, 1) := by decide +kernel
theorem dX8_waitingAtRank_2 : decode cX8_waitingAtRank 2 = .ok (.iconst 0, 1) := by decide +kernel
theorem dX8_waitingAtRank_3 : decode cX8_waitingAtRank 3 = .ok (.istore_n 3, 1) := by decide +kernel
theorem dX8_waitingAtRank_4 : decode cX8_waitingAtRank 4 = .ok (.iload_n 3, 1) := by decide +kernel
theorem dX8_waitingAtRank_5 : decode cX8_waitingAtRank 5 = .ok (.iconst 5, 1) := by decide +kernel
theorem dX8_waitingAtRank_6 : decode cX8_waitingAtRank 6 = .ok (.if_icmp .ge 66, 3) := by decide +kernel
theorem dX8_waitingAtRank_9 : decode cX8_waitingAtRank 9 = .ok (.iconst 0, 1) := by decide +kernel
theorem dX8_waitingAtRank_10 : decode cX8_waitingAtRank 10 = .ok (.istore 4, 2) := by decide +kernel
theorem dX8_waitingAtRank_12 : decode cX8_waitingAtRank 12 = .ok (.iload 4, 2) := by decide +kernel
theorem dX8_waitingAtRank_14 : decode cX8_waitingAtRank 14 = .ok (.aload_n 0, 1) := by decide +kernel
theorem dX8_waitingAtRank_15 : decode cX8_waitingAtRank 15 = .ok (.getfield 43, 3) := by decide +kernel
theorem dX8_waitingAtRank_18 : decode cX8_waitingAtRank 18 = .ok (.if_icmp .ge 48, 3) := by decide +kernel
theorem dX8_waitingAtRank_21 : decode cX8_waitingAtRank 21 = .ok (.aload_n 0, 1) := by decide +kernel
theorem dX8_waitingAtRank_22 : decode cX8_waitingAtRank 22 = .ok (.getfield 25, 3) := by decide +kernel
theorem dX8_waitingAtRank_25 : decode cX8_waitingAtRank 25 = .ok (.iload 4, 2) := by decide +kernel
theorem dX8_waitingAtRank_27 : decode cX8_waitingAtRank 27 = .ok (.aaload, 1) := by decide +kernel
theorem dX8_waitingAtRank_28 : decode cX8_waitingAtRank 28 = .ok (.astore 5, 2) := by decide +kernel
theorem dX8_waitingAtRank_30 : decode cX8_waitingAtRank 30 = .ok (.aload 5, 2) := by decide +kernel
theorem dX8_waitingAtRank_32 : decode cX8_waitingAtRank 32 = .ok (.getfield 154, 3) := by decide +kernel
theorem dX8_waitingAtRank_35 : decode cX8_waitingAtRank 35 = .ok (.bipush 119, 2) := by decide +kernel
theorem dX8_waitingAtRank_37 : decode cX8_waitingAtRank 37 = .ok (.if_icmp .ne 23, 3) := by decide +kernel
theorem dX8_waitingAtRank_40 : decode cX8_waitingAtRank 40 = .ok (.aload 5, 2) := by decide +kernel
theorem dX8_waitingAtRank_42 : decode cX8_waitingAtRank 42 = .ok (.getfield 204, 3) := by decide +kernel
theorem dX8_waitingAtRank_45 : decode cX8_waitingAtRank 45 = .ok (.iload_n 3, 1) := by decide +kernel
theorem dX8_waitingAtRank_46 : decode cX8_waitingAtRank 46 = .ok (.if_icmp .ne 14, 3) := by decide +kernel
theorem dX8_waitingAtRank_49 : decode cX8_waitingAtRank 49 = .ok (.iload_n 2, 1) := by decide +kernel
theorem dX8_waitingAtRank_50 : decode cX8_waitingAtRank 50 = .ok (.iload_n 1, 1) := by decide +kernel
theorem dX8_waitingAtRank_51 : decode cX8_waitingAtRank 51 = .ok (.if_icmp .ne 6, 3) := by decide +kernel
theorem dX8_waitingAtRank_54 : decode cX8_waitingAtRank 54 = .ok (.aload 5, 2) := by decide +kernel
theorem dX8_waitingAtRank_56 : decode cX8_waitingAtRank 56 = .ok (.areturn, 1) := by decide +kernel
theorem dX8_waitingAtRank_57 : decode cX8_waitingAtRank 57 = .ok (.iinc 2 1, 3) := by decide +kernel
theorem dX8_waitingAtRank_60 : decode cX8_waitingAtRank 60 = .ok (.iinc 4 1, 3) := by decide +kernel
theorem dX8_waitingAtRank_63 : decode cX8_waitingAtRank 63 = .ok (.goto (-51), 3) := by decide +kernel
theorem dX8_waitingAtRank_66 : decode cX8_waitingAtRank 66 = .ok (.iinc 3 1, 3) := by decide +kernel
theorem dX8_waitingAtRank_69 : decode cX8_waitingAtRank 69 = .ok (.goto (-65), 3) := by decide +kernel
theorem dX8_waitingAtRank_72 : decode cX8_waitingAtRank 72 = .ok (.aconst_null, 1) := by decide +kernel
theorem dX8_waitingAtRank_73 : decode cX8_waitingAtRank 73 = .ok (.areturn, 1) := by decide +kernel
theorem dX8_nestAtRank_0 : decode cX8_nestAtRank 0 = .ok (.iconst 0, 1) := by decide +kernel
theorem dX8_nestAtRank_1 : decode cX8_nestAtRank 1 = .ok (.istore_n 2, 1) := by decide +kernel
theorem dX8_nestAtRank_2 : decode cX8_nestAtRank 2 = .ok (.iload_n 2, 1) := by decide +kernel
theorem dX8_nestAtRank_3 : decode cX8_nestAtRank 3 = .ok (.aload_n 0, 1) := by decide +kernel
theorem dX8_nestAtRank_4 : decode cX8_nestAtRank 4 = .ok (.getfield 36, 3) := by decide +kernel
theorem dX8_nestAtRank_7 : decode cX8_nestAtRank 7 = .ok (.if_icmp .ge 49, 3) := by decide +kernel
theorem dX8_nestAtRank_10 : decode cX8_nestAtRank 10 = .ok (.iconst 0, 1) := by decide +kernel
theorem dX8_nestAtRank_11 : decode cX8_nestAtRank 11 = .ok (.istore_n 3, 1) := by decide +kernel
theorem dX8_nestAtRank_12 : decode cX8_nestAtRank 12 = .ok (.iconst 0, 1) := by decide +kernel
theorem dX8_nestAtRank_13 : decode cX8_nestAtRank 13 = .ok (.istore 4, 2) := by decide +kernel
theorem dX8_nestAtRank_15 : decode cX8_nestAtRank 15 = .ok (.iload 4, 2) := by decide +kernel
theorem dX8_nestAtRank_17 : decode cX8_nestAtRank 17 = .ok (.aload_n 0, 1) := by decide +kernel
theorem dX8_nestAtRank_18 : decode cX8_nestAtRank 18 = .ok (.getfield 36, 3) := by decide +kernel
theorem dX8_nestAtRank_21 : decode cX8_nestAtRank 21 = .ok (.if_icmp .ge 22, 3) := by decide +kernel
theorem dX8_nestAtRank_24 : decode cX8_nestAtRank 24 = .ok (.aload_n 0, 1) := by decide +kernel
theorem dX8_nestAtRank_25 : decode cX8_nestAtRank 25 = .ok (.iload 4, 2) := by decide +kernel
theorem dX8_nestAtRank_27 : decode cX8_nestAtRank 27 = .ok (.iload_n 2, 1) := by decide +kernel
theorem dX8_nestAtRank_28 : decode cX8_nestAtRank 28 = .ok (.invokevirtual 244, 3) := by decide +kernel
theorem dX8_nestAtRank_31 : decode cX8_nestAtRank 31 = .ok (.ifCond .eq 6, 3) := by decide +kernel
theorem dX8_nestAtRank_34 : decode cX8_nestAtRank 34 = .ok (.iinc 3 1, 3) := by decide +kernel
theorem dX8_nestAtRank_37 : decode cX8_nestAtRank 37 = .ok (.iinc 4 1, 3) := by decide +kernel
theorem dX8_nestAtRank_40 : decode cX8_nestAtRank 40 = .ok (.goto (-25), 3) := by decide +kernel
theorem dX8_nestAtRank_43 : decode cX8_nestAtRank 43 = .ok (.iload_n 3, 1) := by decide +kernel
theorem dX8_nestAtRank_44 : decode cX8_nestAtRank 44 = .ok (.iload_n 1, 1) := by decide +kernel
theorem dX8_nestAtRank_45 : decode cX8_nestAtRank 45 = .ok (.if_icmp .ne 5, 3) := by decide +kernel
theorem dX8_nestAtRank_48 : decode cX8_nestAtRank 48 = .ok (.iload_n 2, 1) := by decide +kernel
theorem dX8_nestAtRank_49 : decode cX8_nestAtRank 49 = .ok (.ireturn, 1) := by decide +kernel
theorem dX8_nestAtRank_50 : decode cX8_nestAtRank 50 = .ok (.iinc 2 1, 3) := by decide +kernel
theorem dX8_nestAtRank_53 : decode cX8_nestAtRank 53 = .ok (.goto (-51), 3) := by decide +kernel
theorem dX8_nestAtRank_56 : decode cX8_nestAtRank 56 = .ok (.iconst (-1), 1) := by decide +kernel
theorem dX8_nestAtRank_57 : decode cX8_nestAtRank 57 = .ok (.ireturn, 1) := by decide +kernel
theorem dX8_ranksBefore_0 : decode cX8_ranksBefore 0 = .ok (.aload_n 0, 1) := by decide +kernel
theorem dX8_ranksBefore_1 : decode cX8_ranksBefore 1 = .ok (.getfield 11, 3) := by decide +kernel
theorem dX8_ranksBefore_4 : decode cX8_ranksBefore 4 = .ok (.iload_n 1, 1) := by decide +kernel
theorem dX8_ranksBefore_5 : decode cX8_ranksBefore 5 = .ok (.aaload, 1) := by decide +kernel
theorem dX8_ranksBefore_6 : decode cX8_ranksBefore 6 = .ok (.getfield 248, 3) := by decide +kernel
theorem dX8_ranksBefore_9 : decode cX8_ranksBefore 9 = .ok (.aload_n 0, 1) := by decide +kernel
theorem dX8_ranksBefore_10 : decode cX8_ranksBefore 10 = .ok (.getfield 11, 3) := by decide +kernel
theorem dX8_ranksBefore_13 : decode cX8_ranksBefore 13 = .ok (.iload_n 2, 1) := by decide +kernel
theorem dX8_ranksBefore_14 : decode cX8_ranksBefore 14 = .ok (.aaload, 1) := by decide +kernel
theorem dX8_ranksBefore_15 : decode cX8_ranksBefore 15 = .ok (.getfield 248, 3) := by decide +kernel
theorem dX8_ranksBefore_18 : decode cX8_ranksBefore 18 = .ok (.if_icmp .eq 30, 3) := by decide +kernel
theorem dX8_ranksBefore_21 : decode cX8_ranksBefore 21 = .ok (.aload_n 0, 1) := by decide +kernel
theorem dX8_ranksBefore_22 : decode cX8_ranksBefore 22 = .ok (.getfield 11, 3) := by decide +kernel
theorem dX8_ranksBefore_25 : decode cX8_ranksBefore 25 = .ok (.iload_n 1, 1) := by decide +kernel
theorem dX8_ranksBefore_26 : decode cX8_ranksBefore 26 = .ok (.aaload, 1) := by decide +kernel
theorem dX8_ranksBefore_27 : decode cX8_ranksBefore 27 = .ok (.getfield 248, 3) := by decide +kernel
theorem dX8_ranksBefore_30 : decode cX8_ranksBefore 30 = .ok (.aload_n 0, 1) := by decide +kernel
theorem dX8_ranksBefore_31 : decode cX8_ranksBefore 31 = .ok (.getfield 11, 3) := by decide +kernel
theorem dX8_ranksBefore_34 : decode cX8_ranksBefore 34 = .ok (.iload_n 2, 1) := by decide +kernel
theorem dX8_ranksBefore_35 : decode cX8_ranksBefore 35 = .ok (.aaload, 1) := by decide +kernel
theorem dX8_ranksBefore_36 : decode cX8_ranksBefore 36 = .ok (.getfield 248, 3) := by decide +kernel
theorem dX8_ranksBefore_39 : decode cX8_ranksBefore 39 = .ok (.if_icmp .le 7, 3) := by decide +kernel
theorem dX8_ranksBefore_42 : decode cX8_ranksBefore 42 = .ok (.iconst 1, 1) := by decide +kernel
theorem dX8_ranksBefore_43 : decode cX8_ranksBefore 43 = .ok (.goto 4, 3) := by decide +kernel
theorem dX8_ranksBefore_46 : decode cX8_ranksBefore 46 = .ok (.iconst 0, 1) := by decide +kernel
theorem dX8_ranksBefore_47 : decode cX8_ranksBefore 47 = .ok (.ireturn, 1) := by decide +kernel
theorem dX8_ranksBefore_48 : decode cX8_ranksBefore 48 = .ok (.aload_n 0, 1) := by decide +kernel
theorem dX8_ranksBefore_49 : decode cX8_ranksBefore 49 = .ok (.getfield 11, 3) := by decide +kernel
theorem dX8_ranksBefore_52 : decode cX8_ranksBefore 52 = .ok (.iload_n 1, 1) := by decide +kernel
theorem dX8_ranksBefore_53 : decode cX8_ranksBefore 53 = .ok (.aaload, 1) := by decide +kernel
theorem dX8_ranksBefore_54 : decode cX8_ranksBefore 54 = .ok (.getfield 201, 3) := by decide +kernel
theorem dX8_ranksBefore_57 : decode cX8_ranksBefore 57 = .ok (.aload_n 0, 1) := by decide +kernel
theorem dX8_ranksBefore_58 : decode cX8_ranksBefore 58 = .ok (.getfield 11, 3) := by decide +kernel
theorem dX8_ranksBefore_61 : decode cX8_ranksBefore 61 = .ok (.iload_n 2, 1) := by decide +kernel
theorem dX8_ranksBefore_62 : decode cX8_ranksBefore 62 = .ok (.aaload, 1) := by decide +kernel
theorem dX8_ranksBefore_63 : decode cX8_ranksBefore 63 = .ok (.getfield 201, 3) := by decide +kernel
theorem dX8_ranksBefore_66 : decode cX8_ranksBefore 66 = .ok (.if_icmp .eq 30, 3) := by decide +kernel
theorem dX8_ranksBefore_69 : decode cX8_ranksBefore 69 = .ok (.aload_n 0, 1) := by decide +kernel
theorem dX8_ranksBefore_70 : decode cX8_ranksBefore 70 = .ok (.getfield 11, 3) := by decide +kernel
theorem dX8_ranksBefore_73 : decode cX8_ranksBefore 73 = .ok (.iload_n 1, 1) := by decide +kernel
theorem dX8_ranksBefore_74 : decode cX8_ranksBefore 74 = .ok (.aaload, 1) := by decide +kernel
theorem dX8_ranksBefore_75 : decode cX8_ranksBefore 75 = .ok (.getfield 201, 3) := by decide +kernel
theorem dX8_ranksBefore_78 : decode cX8_ranksBefore 78 = .ok (.aload_n 0, 1) := by decide +kernel
theorem dX8_ranksBefore_79 : decode cX8_ranksBefore 79 = .ok (.getfield 11, 3) := by decide +kernel
theorem dX8_ranksBefore_82 : decode cX8_ranksBefore 82 = .ok (.iload_n 2, 1) := by decide +kernel
theorem dX8_ranksBefore_83 : decode cX8_ranksBefore 83 = .ok (.aaload, 1) := by decide +kernel
theorem dX8_ranksBefore_84 : decode cX8_ranksBefore 84 = .ok (.getfield 201, 3) := by decide +kernel
theorem dX8_ranksBefore_87 : decode cX8_ranksBefore 87 = .ok (.if_icmp .ge 7, 3) := by decide +kernel
theorem dX8_ranksBefore_90 : decode cX8_ranksBefore 90 = .ok (.iconst 1, 1) := by decide +kernel
theorem dX8_ranksBefore_91 : decode cX8_ranksBefore 91 = .ok (.goto 4, 3) := by decide +kernel
theorem dX8_ranksBefore_94 : decode cX8_ranksBefore 94 = .ok (.iconst 0, 1) := by decide +kernel
theorem dX8_ranksBefore_95 : decode cX8_ranksBefore 95 = .ok (.ireturn, 1) := by decide +kernel
theorem dX8_ranksBefore_96 : decode cX8_ranksBefore 96 = .ok (.iload_n 1, 1) := by decide +kernel
theorem dX8_ranksBefore_97 : decode cX8_ranksBefore 97 = .ok (.iload_n 2, 1) := by decide +kernel
theorem dX8_ranksBefore_98 : decode cX8_ranksBefore 98 = .ok (.if_icmp .ge 7, 3) := by decide +kernel
theorem dX8_ranksBefore_101 : decode cX8_ranksBefore 101 = .ok (.iconst 1, 1) := by decide +kernel
theorem dX8_ranksBefore_102 : decode cX8_ranksBefore 102 = .ok (.goto 4, 3) := by decide +kernel
theorem dX8_ranksBefore_105 : decode cX8_ranksBefore 105 = .ok (.iconst 0, 1) := by decide +kernel
theorem dX8_ranksBefore_106 : decode cX8_ranksBefore 106 = .ok (.ireturn, 1) := by decide +kernel
theorem dX8_sumOfAttempts_0 : decode cX8_sumOfAttempts 0 = .ok (.iconst 0, 1) := by decide +kernel
theorem dX8_sumOfAttempts_1 : decode cX8_sumOfAttempts 1 = .ok (.istore_n 1, 1) := by decide +kernel
theorem dX8_sumOfAttempts_2 : decode cX8_sumOfAttempts 2 = .ok (.iconst 0, 1) := by decide +kernel
theorem dX8_sumOfAttempts_3 : decode cX8_sumOfAttempts 3 = .ok (.istore_n 2, 1) := by decide +kernel
theorem dX8_sumOfAttempts_4 : decode cX8_sumOfAttempts 4 = .ok (.iload_n 2, 1) := by decide +kernel
theorem dX8_sumOfAttempts_5 : decode cX8_sumOfAttempts 5 = .ok (.aload_n 0, 1) := by decide +kernel
theorem dX8_sumOfAttempts_6 : decode cX8_sumOfAttempts 6 = .ok (.getfield 43, 3) := by decide +kernel
theorem dX8_sumOfAttempts_9 : decode cX8_sumOfAttempts 9 = .ok (.if_icmp .ge 21, 3) := by decide +kernel
theorem dX8_sumOfAttempts_12 : decode cX8_sumOfAttempts 12 = .ok (.iload_n 1, 1) := by decide +kernel
theorem dX8_sumOfAttempts_13 : decode cX8_sumOfAttempts 13 = .ok (.aload_n 0, 1) := by decide +kernel
theorem dX8_sumOfAttempts_14 : decode cX8_sumOfAttempts 14 = .ok (.getfield 25, 3) := by decide +kernel
theorem dX8_sumOfAttempts_17 : decode cX8_sumOfAttempts 17 = .ok (.iload_n 2, 1) := by decide +kernel
theorem dX8_sumOfAttempts_18 : decode cX8_sumOfAttempts 18 = .ok (.aaload, 1) := by decide +kernel
theorem dX8_sumOfAttempts_19 : decode cX8_sumOfAttempts 19 = .ok (.getfield 204, 3) := by decide +kernel
theorem dX8_sumOfAttempts_22 : decode cX8_sumOfAttempts 22 = .ok (.iadd, 1) := by decide +kernel
theorem dX8_sumOfAttempts_23 : decode cX8_sumOfAttempts 23 = .ok (.istore_n 1, 1) := by decide +kernel
theorem dX8_sumOfAttempts_24 : decode cX8_sumOfAttempts 24 = .ok (.iinc 2 1, 3) := by decide +kernel
theorem dX8_sumOfAttempts_27 : decode cX8_sumOfAttempts 27 = .ok (.goto (-23), 3) := by decide +kernel
theorem dX8_sumOfAttempts_30 : decode cX8_sumOfAttempts 30 = .ok (.iload_n 1, 1) := by decide +kernel
theorem dX8_sumOfAttempts_31 : decode cX8_sumOfAttempts 31 = .ok (.ireturn, 1) := by decide +kernel
theorem dX8_messagesWithStatus_0 : decode cX8_messagesWithStatus 0 = .ok (.iconst 0, 1) := by decide +kernel
theorem dX8_messagesWithStatus_1 : decode cX8_messagesWithStatus 1 = .ok (.istore_n 2, 1) := by decide +kernel
theorem dX8_messagesWithStatus_2 : decode cX8_messagesWithStatus 2 = .ok (.iconst 0, 1) := by decide +kernel
theorem dX8_messagesWithStatus_3 : decode cX8_messagesWithStatus 3 = .ok (.istore_n 3, 1) := by decide +kernel
theorem dX8_messagesWithStatus_4 : decode cX8_messagesWithStatus 4 = .ok (.iload_n 3, 1) := by decide +kernel
theorem dX8_messagesWithStatus_5 : decode cX8_messagesWithStatus 5 = .ok (.aload_n 0, 1) := by decide +kernel
theorem dX8_messagesWithStatus_6 : decode cX8_messagesWithStatus 6 = .ok (.getfield 43, 3) := by decide +kernel
theorem dX8_messagesWithStatus_9 : decode cX8_messagesWithStatus 9 = .ok (.if_icmp .ge 25, 3) := by decide +kernel
theorem dX8_messagesWithStatus_12 : decode cX8_messagesWithStatus 12 = .ok (.aload_n 0, 1) := by decide +kernel
theorem dX8_messagesWithStatus_13 : decode cX8_messagesWithStatus 13 = .ok (.getfield 25, 3) := by decide +kernel
theorem dX8_messagesWithStatus_16 : decode cX8_messagesWithStatus 16 = .ok (.iload_n 3, 1) := by decide +kernel
theorem dX8_messagesWithStatus_17 : decode cX8_messagesWithStatus 17 = .ok (.aaload, 1) := by decide +kernel
theorem dX8_messagesWithStatus_18 : decode cX8_messagesWithStatus 18 = .ok (.getfield 154, 3) := by decide +kernel
theorem dX8_messagesWithStatus_21 : decode cX8_messagesWithStatus 21 = .ok (.iload_n 1, 1) := by decide +kernel
theorem dX8_messagesWithStatus_22 : decode cX8_messagesWithStatus 22 = .ok (.if_icmp .ne 6, 3) := by decide +kernel
theorem dX8_messagesWithStatus_25 : decode cX8_messagesWithStatus 25 = .ok (.iinc 2 1, 3) := by decide +kernel
theorem dX8_messagesWithStatus_28 : decode cX8_messagesWithStatus 28 = .ok (.iinc 3 1, 3) := by decide +kernel
theorem dX8_messagesWithStatus_31 : decode cX8_messagesWithStatus 31 = .ok (.goto (-27), 3) := by decide +kernel
theorem dX8_messagesWithStatus_34 : decode cX8_messagesWithStatus 34 = .ok (.iload_n 2, 1) := by decide +kernel
theorem dX8_messagesWithStatus_35 : decode cX8_messagesWithStatus 35 = .ok (.ireturn, 1) := by decide +kernel
theorem dX8_flyingCrows_0 : decode cX8_flyingCrows 0 = .ok (.iconst 0, 1) := by decide +kernel
theorem dX8_flyingCrows_1 : decode cX8_flyingCrows 1 = .ok (.istore_n 1, 1) := by decide +kernel
theorem dX8_flyingCrows_2 : decode cX8_flyingCrows 2 = .ok (.iconst 0, 1) := by decide +kernel
theorem dX8_flyingCrows_3 : decode cX8_flyingCrows 3 = .ok (.istore_n 2, 1) := by decide +kernel
theorem dX8_flyingCrows_4 : decode cX8_flyingCrows 4 = .ok (.iload_n 2, 1) := by decide +kernel
theorem dX8_flyingCrows_5 : decode cX8_flyingCrows 5 = .ok (.aload_n 0, 1) := by decide +kernel
theorem dX8_flyingCrows_6 : decode cX8_flyingCrows 6 = .ok (.getfield 40, 3) := by decide +kernel
theorem dX8_flyingCrows_9 : decode cX8_flyingCrows 9 = .ok (.if_icmp .ge 24, 3) := by decide +kernel
theorem dX8_flyingCrows_12 : decode cX8_flyingCrows 12 = .ok (.aload_n 0, 1) := by decide +kernel
theorem dX8_flyingCrows_13 : decode cX8_flyingCrows 13 = .ok (.getfield 19, 3) := by decide +kernel
theorem dX8_flyingCrows_16 : decode cX8_flyingCrows 16 = .ok (.iload_n 2, 1) := by decide +kernel
theorem dX8_flyingCrows_17 : decode cX8_flyingCrows 17 = .ok (.aaload, 1) := by decide +kernel
theorem dX8_flyingCrows_18 : decode cX8_flyingCrows 18 = .ok (.getfield 122, 3) := by decide +kernel
theorem dX8_flyingCrows_21 : decode cX8_flyingCrows 21 = .ok (.ifCond .eq 6, 3) := by decide +kernel
theorem dX8_flyingCrows_24 : decode cX8_flyingCrows 24 = .ok (.iinc 1 1, 3) := by decide +kernel
theorem dX8_flyingCrows_27 : decode cX8_flyingCrows 27 = .ok (.iinc 2 1, 3) := by decide +kernel
theorem dX8_flyingCrows_30 : decode cX8_flyingCrows 30 = .ok (.goto (-26), 3) := by decide +kernel
theorem dX8_flyingCrows_33 : decode cX8_flyingCrows 33 = .ok (.iload_n 1, 1) := by decide +kernel
theorem dX8_flyingCrows_34 : decode cX8_flyingCrows 34 = .ok (.ireturn, 1) := by decide +kernel
theorem dX8_messagesInInboxes_0 : decode cX8_messagesInInboxes 0 = .ok (.iconst 0, 1) := by decide +kernel
theorem dX8_messagesInInboxes_1 : decode cX8_messagesInInboxes 1 = .ok (.istore_n 1, 1) := by decide +kernel
theorem dX8_messagesInInboxes_2 : decode cX8_messagesInInboxes 2 = .ok (.iconst 0, 1) := by decide +kernel
theorem dX8_messagesInInboxes_3 : decode cX8_messagesInInboxes 3 = .ok (.istore_n 2, 1) := by decide +kernel
theorem dX8_messagesInInboxes_4 : decode cX8_messagesInInboxes 4 = .ok (.iload_n 2, 1) := by decide +kernel
theorem dX8_messagesInInboxes_5 : decode cX8_messagesInInboxes 5 = .ok (.aload_n 0, 1) := by decide +kernel
theorem dX8_messagesInInboxes_6 : decode cX8_messagesInInboxes 6 = .ok (.getfield 36, 3) := by decide +kernel
theorem dX8_messagesInInboxes_9 : decode cX8_messagesInInboxes 9 = .ok (.if_icmp .ge 21, 3) := by decide +kernel
theorem dX8_messagesInInboxes_12 : decode cX8_messagesInInboxes 12 = .ok (.iload_n 1, 1) := by decide +kernel
theorem dX8_messagesInInboxes_13 : decode cX8_messagesInInboxes 13 = .ok (.aload_n 0, 1) := by decide +kernel
theorem dX8_messagesInInboxes_14 : decode cX8_messagesInInboxes 14 = .ok (.getfield 11, 3) := by decide +kernel
theorem dX8_messagesInInboxes_17 : decode cX8_messagesInInboxes 17 = .ok (.iload_n 2, 1) := by decide +kernel
theorem dX8_messagesInInboxes_18 : decode cX8_messagesInInboxes 18 = .ok (.aaload, 1) := by decide +kernel
theorem dX8_messagesInInboxes_19 : decode cX8_messagesInInboxes 19 = .ok (.getfield 137, 3) := by decide +kernel
theorem dX8_messagesInInboxes_22 : decode cX8_messagesInInboxes 22 = .ok (.iadd, 1) := by decide +kernel
theorem dX8_messagesInInboxes_23 : decode cX8_messagesInInboxes 23 = .ok (.istore_n 1, 1) := by decide +kernel
theorem dX8_messagesInInboxes_24 : decode cX8_messagesInInboxes 24 = .ok (.iinc 2 1, 3) := by decide +kernel
theorem dX8_messagesInInboxes_27 : decode cX8_messagesInInboxes 27 = .ok (.goto (-23), 3) := by decide +kernel
theorem dX8_messagesInInboxes_30 : decode cX8_messagesInInboxes 30 = .ok (.iload_n 1, 1) := by decide +kernel
theorem dX8_messagesInInboxes_31 : decode cX8_messagesInInboxes 31 = .ok (.ireturn, 1) := by decide +kernel
theorem dX9_init_0 : decode cX9_init 0 = .ok (.aload_n 0, 1) := by decide +kernel
theorem dX9_init_1 : decode cX9_init 1 = .ok (.invokespecial 1, 3) := by decide +kernel
theorem dX9_init_4 : decode cX9_init 4 = .ok (.aload_n 0, 1) := by decide +kernel
theorem dX9_init_5 : decode cX9_init 5 = .ok (.iconst 0, 1) := by decide +kernel
theorem dX9_init_6 : decode cX9_init 6 = .ok (.putfield 7, 3) := by decide +kernel
theorem dX9_init_9 : decode cX9_init 9 = .ok (.aload_n 0, 1) := by decide +kernel
theorem dX9_init_10 : decode cX9_init 10 = .ok (.iconst 0, 1) := by decide +kernel
theorem dX9_init_11 : decode cX9_init 11 = .ok (.putfield 13, 3) := by decide +kernel
theorem dX9_init_14 : decode cX9_init 14 = .ok (.aload_n 0, 1) := by decide +kernel
theorem dX9_init_15 : decode cX9_init 15 = .ok (.iconst 0, 1) := by decide +kernel
theorem dX9_init_16 : decode cX9_init 16 = .ok (.putfield 16, 3) := by decide +kernel
theorem dX9_init_19 : decode cX9_init 19 = .ok (.aload_n 0, 1) := by decide +kernel
theorem dX9_init_20 : decode cX9_init 20 = .ok (.iconst 0, 1) := by decide +kernel
theorem dX9_init_21 : decode cX9_init 21 = .ok (.putfield 19, 3) := by decide +kernel
theorem dX9_init_24 : decode cX9_init 24 = .ok (.aload_n 0, 1) := by decide +kernel
theorem dX9_init_25 : decode cX9_init 25 = .ok (.iconst 0, 1) := by decide +kernel
theorem dX9_init_26 : decode cX9_init 26 = .ok (.putfield 22, 3) := by decide +kernel
theorem dX9_init_29 : decode cX9_init 29 = .ok (.aload_n 0, 1) := by decide +kernel
theorem dX9_init_30 : decode cX9_init 30 = .ok (.iconst 0, 1) := by decide +kernel
theorem dX9_init_31 : decode cX9_init 31 = .ok (.putfield 25, 3) := by decide +kernel
theorem dX9_init_34 : decode cX9_init 34 = .ok (.aload_n 0, 1) := by decide +kernel
theorem dX9_init_35 : decode cX9_init 35 = .ok (.iconst 0, 1) := by decide +kernel
theorem dX9_init_36 : decode cX9_init 36 = .ok (.putfield 28, 3) := by decide +kernel
theorem dX9_init_39 : decode cX9_init 39 = .ok (.return_, 1) := by decide +kernel
theorem dX9_existing_0 : decode cX9_existing 0 = .ok (.aload_n 0, 1) := by decide +kernel
theorem dX9_existing_1 : decode cX9_existing 1 = .ok (.getfield 7, 3) := by decide +kernel
theorem dX9_existing_4 : decode cX9_existing 4 = .ok (.aload_n 0, 1) := by decide +kernel
theorem dX9_existing_5 : decode cX9_existing 5 = .ok (.getfield 16, 3) := by decide +kernel
theorem dX9_existing_8 : decode cX9_existing 8 = .ok (.isub, 1) := by decide +kernel
theorem dX9_existing_9 : decode cX9_existing 9 = .ok (.aload_n 0, 1) := by decide +kernel
theorem dX9_existing_10 : decode cX9_existing 10 = .ok (.getfield 19, 3) := by decide +kernel
theorem dX9_existing_13 : decode cX9_existing 13 = .ok (.isub, 1) := by decide +kernel
theorem dX9_existing_14 : decode cX9_existing 14 = .ok (.aload_n 0, 1) := by decide +kernel
theorem dX9_existing_15 : decode cX9_existing 15 = .ok (.getfield 22, 3) := by decide +kernel
theorem dX9_existing_18 : decode cX9_existing 18 = .ok (.isub, 1) := by decide +kernel
theorem dX9_existing_19 : decode cX9_existing 19 = .ok (.aload_n 0, 1) := by decide +kernel
theorem dX9_existing_20 : decode cX9_existing 20 = .ok (.getfield 25, 3) := by decide +kernel
theorem dX9_existing_23 : decode cX9_existing 23 = .ok (.isub, 1) := by decide +kernel
theorem dX9_existing_24 : decode cX9_existing 24 = .ok (.ireturn, 1) := by decide +kernel
theorem dX9_copyFrom_0 : decode cX9_copyFrom 0 = .ok (.aload_n 0, 1) := by decide +kernel
theorem dX9_copyFrom_1 : decode cX9_copyFrom 1 = .ok (.aload_n 1, 1) := by decide +kernel
theorem dX9_copyFrom_2 : decode cX9_copyFrom 2 = .ok (.getfield 7, 3) := by decide +kernel
theorem dX9_copyFrom_5 : decode cX9_copyFrom 5 = .ok (.putfield 7, 3) := by decide +kernel
theorem dX9_copyFrom_8 : decode cX9_copyFrom 8 = .ok (.aload_n 0, 1) := by decide +kernel
theorem dX9_copyFrom_9 : decode cX9_copyFrom 9 = .ok (.aload_n 1, 1) := by decide +kernel
theorem dX9_copyFrom_10 : decode cX9_copyFrom 10 = .ok (.getfield 13, 3) := by decide +kernel
theorem dX9_copyFrom_13 : decode cX9_copyFrom 13 = .ok (.putfield 13, 3) := by decide +kernel
theorem dX9_copyFrom_16 : decode cX9_copyFrom 16 = .ok (.aload_n 0, 1) := by decide +kernel
theorem dX9_copyFrom_17 : decode cX9_copyFrom 17 = .ok (.aload_n 1, 1) := by decide +kernel
theorem dX9_copyFrom_18 : decode cX9_copyFrom 18 = .ok (.getfield 16, 3) := by decide +kernel
theorem dX9_copyFrom_21 : decode cX9_copyFrom 21 = .ok (.putfield 16, 3) := by decide +kernel
theorem dX9_copyFrom_24 : decode cX9_copyFrom 24 = .ok (.aload_n 0, 1) := by decide +kernel
theorem dX9_copyFrom_25 : decode cX9_copyFrom 25 = .ok (.aload_n 1, 1) := by decide +kernel
theorem dX9_copyFrom_26 : decode cX9_copyFrom 26 = .ok (.getfield 19, 3) := by decide +kernel
theorem dX9_copyFrom_29 : decode cX9_copyFrom 29 = .ok (.putfield 19, 3) := by decide +kernel
theorem dX9_copyFrom_32 : decode cX9_copyFrom 32 = .ok (.aload_n 0, 1) := by decide +kernel
theorem dX9_copyFrom_33 : decode cX9_copyFrom 33 = .ok (.aload_n 1, 1) := by decide +kernel
theorem dX9_copyFrom_34 : decode cX9_copyFrom 34 = .ok (.getfield 22, 3) := by decide +kernel
theorem dX9_copyFrom_37 : decode cX9_copyFrom 37 = .ok (.putfield 22, 3) := by decide +kernel
theorem dX9_copyFrom_40 : decode cX9_copyFrom 40 = .ok (.aload_n 0, 1) := by decide +kernel
theorem dX9_copyFrom_41 : decode cX9_copyFrom 41 = .ok (.aload_n 1, 1) := by decide +kernel
theorem dX9_copyFrom_42 : decode cX9_copyFrom 42 = .ok (.getfield 25, 3) := by decide +kernel
theorem dX9_copyFrom_45 : decode cX9_copyFrom 45 = .ok (.putfield 25, 3) := by decide +kernel
theorem dX9_copyFrom_48 : decode cX9_copyFrom 48 = .ok (.aload_n 0, 1) := by decide +kernel
theorem dX9_copyFrom_49 : decode cX9_copyFrom 49 = .ok (.aload_n 1, 1) := by decide +kernel
theorem dX9_copyFrom_50 : decode cX9_copyFrom 50 = .ok (.getfield 28, 3) := by decide +kernel
theorem dX9_copyFrom_53 : decode cX9_copyFrom 53 = .ok (.putfield 28, 3) := by decide +kernel
theorem dX9_copyFrom_56 : decode cX9_copyFrom 56 = .ok (.return_, 1) := by decide +kernel
theorem dX10_init_0 : decode cX10_init 0 = .ok (.aload_n 0, 1) := by decide +kernel
theorem dX10_init_1 : decode cX10_init 1 = .ok (.invokespecial 1, 3) := by decide +kernel
theorem dX10_init_4 : decode cX10_init 4 = .ok (.aload_n 0, 1) := by decide +kernel
theorem dX10_init_5 : decode cX10_init 5 = .ok (.new 7, 3) := by decide +kernel
theorem dX10_init_8 : decode cX10_init 8 = .ok (.dup, 1) := by decide +kernel
theorem dX10_init_9 : decode cX10_init 9 = .ok (.invokespecial 9, 3) := by decide +kernel
theorem dX10_init_12 : decode cX10_init 12 = .ok (.putfield 10, 3) := by decide +kernel
theorem dX10_init_15 : decode cX10_init 15 = .ok (.aload_n 0, 1) := by decide +kernel
theorem dX10_init_16 : decode cX10_init 16 = .ok (.new 7, 3) := by decide +kernel
theorem dX10_init_19 : decode cX10_init 19 = .ok (.dup, 1) := by decide +kernel
theorem dX10_init_20 : decode cX10_init 20 = .ok (.invokespecial 9, 3) := by decide +kernel
theorem dX10_init_23 : decode cX10_init 23 = .ok (.putfield 16, 3) := by decide +kernel
theorem dX10_init_26 : decode cX10_init 26 = .ok (.aload_n 0, 1) := by decide +kernel
theorem dX10_init_27 : decode cX10_init 27 = .ok (.new 7, 3) := by decide +kernel
theorem dX10_init_30 : decode cX10_init 30 = .ok (.dup, 1) := by decide +kernel
theorem dX10_init_31 : decode cX10_init 31 = .ok (.invokespecial 9, 3) := by decide +kernel
theorem dX10_init_34 : decode cX10_init 34 = .ok (.putfield 19, 3) := by decide +kernel
theorem dX10_init_37 : decode cX10_init 37 = .ok (.aload_n 0, 1) := by decide +kernel
theorem dX10_init_38 : decode cX10_init 38 = .ok (.new 7, 3) := by decide +kernel
theorem dX10_init_41 : decode cX10_init 41 = .ok (.dup, 1) := by decide +kernel
theorem dX10_init_42 : decode cX10_init 42 = .ok (.invokespecial 9, 3) := by decide +kernel
theorem dX10_init_45 : decode cX10_init 45 = .ok (.putfield 22, 3) := by decide +kernel
theorem dX10_init_48 : decode cX10_init 48 = .ok (.aload_n 0, 1) := by decide +kernel
theorem dX10_init_49 : decode cX10_init 49 = .ok (.new 25, 3) := by decide +kernel
theorem dX10_init_52 : decode cX10_init 52 = .ok (.dup, 1) := by decide +kernel
theorem dX10_init_53 : decode cX10_init 53 = .ok (.invokespecial 27, 3) := by decide +kernel
theorem dX10_init_56 : decode cX10_init 56 = .ok (.putfield 28, 3) := by decide +kernel
theorem dX10_init_59 : decode cX10_init 59 = .ok (.aload_n 0, 1) := by decide +kernel
theorem dX10_init_60 : decode cX10_init 60 = .ok (.new 32, 3) := by decide +kernel
theorem dX10_init_63 : decode cX10_init 63 = .ok (.dup, 1) := by decide +kernel
theorem dX10_init_64 : decode cX10_init 64 = .ok (.invokespecial 34, 3) := by decide +kernel
theorem dX10_init_67 : decode cX10_init 67 = .ok (.putfield 35, 3) := by decide +kernel
theorem dX10_init_70 : decode cX10_init 70 = .ok (.aload_n 0, 1) := by decide +kernel
theorem dX10_init_71 : decode cX10_init 71 = .ok (.new 39, 3) := by decide +kernel
theorem dX10_init_74 : decode cX10_init 74 = .ok (.dup, 1) := by decide +kernel
theorem dX10_init_75 : decode cX10_init 75 = .ok (.invokespecial 41, 3) := by decide +kernel
theorem dX10_init_78 : decode cX10_init 78 = .ok (.putfield 42, 3) := by decide +kernel
theorem dX10_init_81 : decode cX10_init 81 = .ok (.aload_n 0, 1) := by decide +kernel
theorem dX10_init_82 : decode cX10_init 82 = .ok (.iconst 0, 1) := by decide +kernel
theorem dX10_init_83 : decode cX10_init 83 = .ok (.putfield 46, 3) := by decide +kernel
theorem dX10_init_86 : decode cX10_init 86 = .ok (.aload_n 0, 1) := by decide +kernel
theorem dX10_init_87 : decode cX10_init 87 = .ok (.iconst (-1), 1) := by decide +kernel
theorem dX10_init_88 : decode cX10_init 88 = .ok (.putfield 50, 3) := by decide +kernel
theorem dX10_init_91 : decode cX10_init 91 = .ok (.aload_n 0, 1) := by decide +kernel
theorem dX10_init_92 : decode cX10_init 92 = .ok (.iconst (-1), 1) := by decide +kernel
theorem dX10_init_93 : decode cX10_init 93 = .ok (.putfield 54, 3) := by decide +kernel
theorem dX10_init_96 : decode cX10_init 96 = .ok (.return_, 1) := by decide +kernel
theorem dX10_addNest_0 : decode cX10_addNest 0 = .ok (.aload_n 0, 1) := by decide +kernel
theorem dX10_addNest_1 : decode cX10_addNest 1 = .ok (.getfield 16, 3) := by decide +kernel
theorem dX10_addNest_4 : decode cX10_addNest 4 = .ok (.aload_n 0, 1) := by decide +kernel
theorem dX10_addNest_5 : decode cX10_addNest 5 = .ok (.getfield 10, 3) := by decide +kernel
theorem dX10_addNest_8 : decode cX10_addNest 8 = .ok (.invokevirtual 57, 3) := by decide +kernel
theorem dX10_addNest_11 : decode cX10_addNest 11 = .ok (.aload_n 0, 1) := by decide +kernel
theorem dX10_addNest_12 : decode cX10_addNest 12 = .ok (.aload_n 0, 1) := by decide +kernel
theorem dX10_addNest_13 : decode cX10_addNest 13 = .ok (.getfield 10, 3) := by decide +kernel
theorem dX10_addNest_16 : decode cX10_addNest 16 = .ok (.iload_n 1, 1) := by decide +kernel
theorem dX10_addNest_17 : decode cX10_addNest 17 = .ok (.iload_n 2, 1) := by decide +kernel
theorem dX10_addNest_18 : decode cX10_addNest 18 = .ok (.invokevirtual 61, 3) := by decide +kernel
theorem dX10_addNest_21 : decode cX10_addNest 21 = .ok (.invokevirtual 65, 3) := by decide +kernel
theorem dX10_addNest_24 : decode cX10_addNest 24 = .ok (.ireturn, 1) := by decide +kernel
theorem dX10_addCrow_0 : decode cX10_addCrow 0 = .ok (.aload_n 0, 1) := by decide +kernel
theorem dX10_addCrow_1 : decode cX10_addCrow 1 = .ok (.getfield 16, 3) := by decide +kernel
theorem dX10_addCrow_4 : decode cX10_addCrow 4 = .ok (.aload_n 0, 1) := by decide +kernel
theorem dX10_addCrow_5 : decode cX10_addCrow 5 = .ok (.getfield 10, 3) := by decide +kernel
theorem dX10_addCrow_8 : decode cX10_addCrow 8 = .ok (.invokevirtual 57, 3) := by decide +kernel
theorem dX10_addCrow_11 : decode cX10_addCrow 11 = .ok (.aload_n 0, 1) := by decide +kernel
theorem dX10_addCrow_12 : decode cX10_addCrow 12 = .ok (.aload_n 0, 1) := by decide +kernel
theorem dX10_addCrow_13 : decode cX10_addCrow 13 = .ok (.getfield 10, 3) := by decide +kernel
theorem dX10_addCrow_16 : decode cX10_addCrow 16 = .ok (.invokevirtual 69, 3) := by decide +kernel
theorem dX10_addCrow_19 : decode cX10_addCrow 19 = .ok (.invokevirtual 65, 3) := by decide +kernel
theorem dX10_addCrow_22 : decode cX10_addCrow 22 = .ok (.ireturn, 1) := by decide +kernel
theorem dX10_publish_0 : decode cX10_publish 0 = .ok (.aload_n 0, 1) := by decide +kernel
theorem dX10_publish_1 : decode cX10_publish 1 = .ok (.getfield 16, 3) := by decide +kernel
theorem dX10_publish_4 : decode cX10_publish 4 = .ok (.aload_n 0, 1) := by decide +kernel
theorem dX10_publish_5 : decode cX10_publish 5 = .ok (.getfield 10, 3) := by decide +kernel
theorem dX10_publish_8 : decode cX10_publish 8 = .ok (.invokevirtual 57, 3) := by decide +kernel
theorem dX10_publish_11 : decode cX10_publish 11 = .ok (.aload_n 0, 1) := by decide +kernel
theorem dX10_publish_12 : decode cX10_publish 12 = .ok (.aload_n 0, 1) := by decide +kernel
theorem dX10_publish_13 : decode cX10_publish 13 = .ok (.getfield 10, 3) := by decide +kernel
theorem dX10_publish_16 : decode cX10_publish 16 = .ok (.iload_n 1, 1) := by decide +kernel
theorem dX10_publish_17 : decode cX10_publish 17 = .ok (.iload_n 2, 1) := by decide +kernel
theorem dX10_publish_18 : decode cX10_publish 18 = .ok (.invokevirtual 73, 3) := by decide +kernel
theorem dX10_publish_21 : decode cX10_publish 21 = .ok (.invokevirtual 65, 3) := by decide +kernel
theorem dX10_publish_24 : decode cX10_publish 24 = .ok (.ireturn, 1) := by decide +kernel
theorem dX10_read_0 : decode cX10_read 0 = .ok (.aload_n 0, 1) := by decide +kernel
theorem dX10_read_1 : decode cX10_read 1 = .ok (.getfield 16, 3) := by decide +kernel
theorem dX10_read_4 : decode cX10_read 4 = .ok (.aload_n 0, 1) := by decide +kernel
theorem dX10_read_5 : decode cX10_read 5 = .ok (.getfield 10, 3) := by decide +kernel
theorem dX10_read_8 : decode cX10_read 8 = .ok (.invokevirtual 57, 3) := by decide +kernel
theorem dX10_read_11 : decode cX10_read 11 = .ok (.aload_n 0, 1) := by decide +kernel
theorem dX10_read_12 : decode cX10_read 12 = .ok (.aload_n 0, 1) := by decide +kernel
theorem dX10_read_13 : decode cX10_read 13 = .ok (.getfield 10, 3) := by decide +kernel
theorem dX10_read_16 : decode cX10_read 16 = .ok (.iload_n 1, 1) := by decide +kernel
theorem dX10_read_17 : decode cX10_read 17 = .ok (.invokevirtual 76, 3) := by decide +kernel
theorem dX10_read_20 : decode cX10_read 20 = .ok (.invokevirtual 65, 3) := by decide +kernel
theorem dX10_read_23 : decode cX10_read 23 = .ok (.ireturn, 1) := by decide +kernel
theorem dX10_cancel_0 : decode cX10_cancel 0 = .ok (.aload_n 0, 1) := by decide +kernel
theorem dX10_cancel_1 : decode cX10_cancel 1 = .ok (.getfield 16, 3) := by decide +kernel
theorem dX10_cancel_4 : decode cX10_cancel 4 = .ok (.aload_n 0, 1) := by decide +kernel
theorem dX10_cancel_5 : decode cX10_cancel 5 = .ok (.getfield 10, 3) := by decide +kernel
theorem dX10_cancel_8 : decode cX10_cancel 8 = .ok (.invokevirtual 57, 3) := by decide +kernel
theorem dX10_cancel_11 : decode cX10_cancel 11 = .ok (.aload_n 0, 1) := by decide +kernel
theorem dX10_cancel_12 : decode cX10_cancel 12 = .ok (.aload_n 0, 1) := by decide +kernel
theorem dX10_cancel_13 : decode cX10_cancel 13 = .ok (.getfield 10, 3) := by decide +kernel
theorem dX10_cancel_16 : decode cX10_cancel 16 = .ok (.iload_n 1, 1) := by decide +kernel
theorem dX10_cancel_17 : decode cX10_cancel 17 = .ok (.invokevirtual 79, 3) := by decide +kernel
theorem dX10_cancel_20 : decode cX10_cancel 20 = .ok (.invokevirtual 65, 3) := by decide +kernel
theorem dX10_cancel_23 : decode cX10_cancel 23 = .ok (.ireturn, 1) := by decide +kernel
theorem dX10_setWind_0 : decode cX10_setWind 0 = .ok (.aload_n 0, 1) := by decide +kernel
theorem dX10_setWind_1 : decode cX10_setWind 1 = .ok (.getfield 16, 3) := by decide +kernel
theorem dX10_setWind_4 : decode cX10_setWind 4 = .ok (.aload_n 0, 1) := by decide +kernel
theorem dX10_setWind_5 : decode cX10_setWind 5 = .ok (.getfield 10, 3) := by decide +kernel
theorem dX10_setWind_8 : decode cX10_setWind 8 = .ok (.invokevirtual 57, 3) := by decide +kernel
theorem dX10_setWind_11 : decode cX10_setWind 11 = .ok (.aload_n 0, 1) := by decide +kernel
theorem dX10_setWind_12 : decode cX10_setWind 12 = .ok (.aload_n 0, 1) := by decide +kernel
theorem dX10_setWind_13 : decode cX10_setWind 13 = .ok (.getfield 10, 3) := by decide +kernel
theorem dX10_setWind_16 : decode cX10_setWind 16 = .ok (.iload_n 1, 1) := by decide +kernel
theorem dX10_setWind_17 : decode cX10_setWind 17 = .ok (.invokevirtual 82, 3) := by decide +kernel
theorem dX10_setWind_20 : decode cX10_setWind 20 = .ok (.invokevirtual 65, 3) := by decide +kernel
theorem dX10_setWind_23 : decode cX10_setWind 23 = .ok (.ireturn, 1) := by decide +kernel
theorem dX10_forget_0 : decode cX10_forget 0 = .ok (.aload_n 0, 1) := by decide +kernel
theorem dX10_forget_1 : decode cX10_forget 1 = .ok (.getfield 16, 3) := by decide +kernel
theorem dX10_forget_4 : decode cX10_forget 4 = .ok (.aload_n 0, 1) := by decide +kernel
theorem dX10_forget_5 : decode cX10_forget 5 = .ok (.getfield 10, 3) := by decide +kernel
theorem dX10_forget_8 : decode cX10_forget 8 = .ok (.invokevirtual 57, 3) := by decide +kernel
theorem dX10_forget_11 : decode cX10_forget 11 = .ok (.aload_n 0, 1) := by decide +kernel
theorem dX10_forget_12 : decode cX10_forget 12 = .ok (.aload_n 0, 1) := by decide +kernel
theorem dX10_forget_13 : decode cX10_forget 13 = .ok (.getfield 10, 3) := by decide +kernel
theorem dX10_forget_16 : decode cX10_forget 16 = .ok (.iload_n 1, 1) := by decide +kernel
theorem dX10_forget_17 : decode cX10_forget 17 = .ok (.invokevirtual 85, 3) := by decide +kernel
theorem dX10_forget_20 : decode cX10_forget 20 = .ok (.invokevirtual 65, 3) := by decide +kernel
theorem dX10_forget_23 : decode cX10_forget 23 = .ok (.ireturn, 1) := by decide +kernel
theorem dX10_advance_0 : decode cX10_advance 0 = .ok (.aload_n 0, 1) := by decide +kernel
theorem dX10_advance_1 : decode cX10_advance 1 = .ok (.getfield 16, 3) := by decide +kernel
theorem dX10_advance_4 : decode cX10_advance 4 = .ok (.aload_n 0, 1) := by decide +kernel
theorem dX10_advance_5 : decode cX10_advance 5 = .ok (.getfield 10, 3) := by decide +kernel
theorem dX10_advance_8 : decode cX10_advance 8 = .ok (.invokevirtual 57, 3) := by decide +kernel
theorem dX10_advance_11 : decode cX10_advance 11 = .ok (.aload_n 0, 1) := by decide +kernel
theorem dX10_advance_12 : decode cX10_advance 12 = .ok (.aload_n 0, 1) := by decide +kernel
theorem dX10_advance_13 : decode cX10_advance 13 = .ok (.getfield 10, 3) := by decide +kernel
theorem dX10_advance_16 : decode cX10_advance 16 = .ok (.iload_n 1, 1) := by decide +kernel
theorem dX10_advance_17 : decode cX10_advance 17 = .ok (.invokevirtual 88, 3) := by decide +kernel
theorem dX10_advance_20 : decode cX10_advance 20 = .ok (.invokevirtual 65, 3) := by decide +kernel
theorem dX10_advance_23 : decode cX10_advance 23 = .ok (.ireturn, 1) := by decide +kernel
theorem dX10_settle_0 : decode cX10_settle 0 = .ok (.iload_n 1, 1) := by decide +kernel
theorem dX10_settle_1 : decode cX10_settle 1 = .ok (.iconst (-1), 1) := by decide +kernel
theorem dX10_settle_2 : decode cX10_settle 2 = .ok (.if_icmp .ne 13, 3) := by decide +kernel
theorem dX10_settle_5 : decode cX10_settle 5 = .ok (.new 91, 3) := by decide +kernel
theorem dX10_settle_8 : decode cX10_settle 8 = .ok (.dup, 1) := by decide +kernel
theorem dX10_settle_9 : decode cX10_settle 9 = .ok (.ldc 93, 2) := by decide +kernel
theorem dX10_settle_11 : decode cX10_settle 11 = .ok (.invokespecial 95, 3) := by decide +kernel
theorem dX10_settle_14 : decode cX10_settle 14 = .ok (.athrow, 1) := by decide +kernel
theorem dX10_settle_15 : decode cX10_settle 15 = .ok (.iload_n 1, 1) := by decide +kernel
theorem dX10_settle_16 : decode cX10_settle 16 = .ok (.bipush (-2), 2) := by decide +kernel
theorem dX10_settle_18 : decode cX10_settle 18 = .ok (.if_icmp .ne 13, 3) := by decide +kernel
theorem dX10_settle_21 : decode cX10_settle 21 = .ok (.new 98, 3) := by decide +kernel
theorem dX10_settle_24 : decode cX10_settle 24 = .ok (.dup, 1) := by decide +kernel
theorem dX10_settle_25 : decode cX10_settle 25 = .ok (.ldc 100, 2) := by decide +kernel
theorem dX10_settle_27 : decode cX10_settle 27 = .ok (.invokespecial 102, 3) := by decide +kernel
theorem dX10_settle_30 : decode cX10_settle 30 = .ok (.athrow, 1) := by decide +kernel
theorem dX10_settle_31 : decode cX10_settle 31 = .ok (.iload_n 1, 1) := by decide +kernel
theorem dX10_settle_32 : decode cX10_settle 32 = .ok (.bipush (-3), 2) := by decide +kernel
theorem dX10_settle_34 : decode cX10_settle 34 = .ok (.if_icmp .ne 13, 3) := by decide +kernel
theorem dX10_settle_37 : decode cX10_settle 37 = .ok (.new 103, 3) := by decide +kernel
theorem dX10_settle_40 : decode cX10_settle 40 = .ok (.dup, 1) := by decide +kernel
theorem dX10_settle_41 : decode cX10_settle 41 = .ok (.ldc 105, 2) := by decide +kernel
theorem dX10_settle_43 : decode cX10_settle 43 = .ok (.invokespecial 107, 3) := by decide +kernel
theorem dX10_settle_46 : decode cX10_settle 46 = .ok (.athrow, 1) := by decide +kernel
theorem dX10_settle_47 : decode cX10_settle 47 = .ok (.iload_n 1, 1) := by decide +kernel
theorem dX10_settle_48 : decode cX10_settle 48 = .ok (.bipush (-4), 2) := by decide +kernel
theorem dX10_settle_50 : decode cX10_settle 50 = .ok (.if_icmp .ne 13, 3) := by decide +kernel
theorem dX10_settle_53 : decode cX10_settle 53 = .ok (.new 108, 3) := by decide +kernel
theorem dX10_settle_56 : decode cX10_settle 56 = .ok (.dup, 1) := by decide +kernel
theorem dX10_settle_57 : decode cX10_settle 57 = .ok (.ldc 110, 2) := by decide +kernel
theorem dX10_settle_59 : decode cX10_settle 59 = .ok (.invokespecial 112, 3) := by decide +kernel
theorem dX10_settle_62 : decode cX10_settle 62 = .ok (.athrow, 1) := by decide +kernel
theorem dX10_settle_63 : decode cX10_settle 63 = .ok (.aload_n 0, 1) := by decide +kernel
theorem dX10_settle_64 : decode cX10_settle 64 = .ok (.getfield 28, 3) := by decide +kernel
theorem dX10_settle_67 : decode cX10_settle 67 = .ok (.aload_n 0, 1) := by decide +kernel
theorem dX10_settle_68 : decode cX10_settle 68 = .ok (.getfield 16, 3) := by decide +kernel
theorem dX10_settle_71 : decode cX10_settle 71 = .ok (.invokevirtual 113, 3) := by decide +kernel
theorem dX10_settle_74 : decode cX10_settle 74 = .ok (.iload_n 1, 1) := by decide +kernel
theorem dX10_settle_75 : decode cX10_settle 75 = .ok (.ireturn, 1) := by decide +kernel
theorem dX10_nestCount_0 : decode cX10_nestCount 0 = .ok (.aload_n 0, 1) := by decide +kernel
theorem dX10_nestCount_1 : decode cX10_nestCount 1 = .ok (.getfield 10, 3) := by decide +kernel
theorem dX10_nestCount_4 : decode cX10_nestCount 4 = .ok (.getfield 116, 3) := by decide +kernel
theorem dX10_nestCount_7 : decode cX10_nestCount 7 = .ok (.ireturn, 1) := by decide +kernel
theorem dX10_distance_0 : decode cX10_distance 0 = .ok (.aload_n 0, 1) := by decide +kernel
theorem dX10_distance_1 : decode cX10_distance 1 = .ok (.iload_n 1, 1) := by decide +kernel
theorem dX10_distance_2 : decode cX10_distance 2 = .ok (.invokevirtual 119, 3) := by decide +kernel
theorem dX10_distance_5 : decode cX10_distance 5 = .ok (.getfield 123, 3) := by decide +kernel
theorem dX10_distance_8 : decode cX10_distance 8 = .ok (.ireturn, 1) := by decide +kernel
theorem dX10_loss_0 : decode cX10_loss 0 = .ok (.aload_n 0, 1) := by decide +kernel
theorem dX10_loss_1 : decode cX10_loss 1 = .ok (.iload_n 1, 1) := by decide +kernel
theorem dX10_loss_2 : decode cX10_loss 2 = .ok (.invokevirtual 119, 3) := by decide +kernel
theorem dX10_loss_5 : decode cX10_loss 5 = .ok (.getfield 128, 3) := by decide +kernel
theorem dX10_loss_8 : decode cX10_loss 8 = .ok (.ireturn, 1) := by decide +kernel
theorem dX10_inboxSize_0 : decode cX10_inboxSize 0 = .ok (.aload_n 0, 1) := by decide +kernel
theorem dX10_inboxSize_1 : decode cX10_inboxSize 1 = .ok (.iload_n 1, 1) := by decide +kernel
theorem dX10_inboxSize_2 : decode cX10_inboxSize 2 = .ok (.invokevirtual 119, 3) := by decide +kernel
theorem dX10_inboxSize_5 : decode cX10_inboxSize 5 = .ok (.getfield 131, 3) := by decide +kernel
theorem dX10_inboxSize_8 : decode cX10_inboxSize 8 = .ok (.ireturn, 1) := by decide +kernel
theorem dX10_inboxMessage_0 : decode cX10_inboxMessage 0 = .ok (.aload_n 0, 1) := by decide +kernel
theorem dX10_inboxMessage_1 : decode cX10_inboxMessage 1 = .ok (.iload_n 1, 1) := by decide +kernel
theorem dX10_inboxMessage_2 : decode cX10_inboxMessage 2 = .ok (.invokevirtual 119, 3) := by decide +kernel
theorem dX10_inboxMessage_5 : decode cX10_inboxMessage 5 = .ok (.astore_n 3, 1) := by decide +kernel
theorem dX10_inboxMessage_6 : decode cX10_inboxMessage 6 = .ok (.iload_n 2, 1) := by decide +kernel
theorem dX10_inboxMessage_7 : decode cX10_inboxMessage 7 = .ok (.ifCond .lt 11, 3) := by decide +kernel
theorem dX10_inboxMessage_10 : decode cX10_inboxMessage 10 = .ok (.iload_n 2, 1) := by decide +kernel
theorem dX10_inboxMessage_11 : decode cX10_inboxMessage 11 = .ok (.aload_n 3, 1) := by decide +kernel
theorem dX10_inboxMessage_12 : decode cX10_inboxMessage 12 = .ok (.getfield 131, 3) := by decide +kernel
theorem dX10_inboxMessage_15 : decode cX10_inboxMessage 15 = .ok (.if_icmp .lt 13, 3) := by decide +kernel
theorem dX10_inboxMessage_18 : decode cX10_inboxMessage 18 = .ok (.new 108, 3) := by decide +kernel
theorem dX10_inboxMessage_21 : decode cX10_inboxMessage 21 = .ok (.dup, 1) := by decide +kernel
theorem dX10_inboxMessage_22 : decode cX10_inboxMessage 22 = .ok (.ldc 134, 2) := by decide +kernel
theorem dX10_inboxMessage_24 : decode cX10_inboxMessage 24 = .ok (.invokespecial 112, 3) := by decide +kernel
theorem dX10_inboxMessage_27 : decode cX10_inboxMessage 27 = .ok (.athrow, 1) := by decide +kernel
theorem dX10_inboxMessage_28 : decode cX10_inboxMessage 28 = .ok (.aload_n 3, 1) := by decide +kernel
theorem dX10_inboxMessage_29 : decode cX10_inboxMessage 29 = .ok (.getfield 136, 3) := by decide +kernel
theorem dX10_inboxMessage_32 : decode cX10_inboxMessage 32 = .ok (.iload_n 2, 1) := by decide +kernel
theorem dX10_inboxMessage_33 : decode cX10_inboxMessage 33 = .ok (.iaload, 1) := by decide +kernel
theorem dX10_inboxMessage_34 : decode cX10_inboxMessage 34 = .ok (.ireturn, 1) := by decide +kernel
theorem dX10_remembers_0 : decode cX10_remembers 0 = .ok (.aload_n 0, 1) := by decide +kernel
theorem dX10_remembers_1 : decode cX10_remembers 1 = .ok (.iload_n 1, 1) := by decide +kernel
theorem dX10_remembers_2 : decode cX10_remembers 2 = .ok (.invokevirtual 119, 3) := by decide +kernel
theorem dX10_remembers_5 : decode cX10_remembers 5 = .ok (.iload_n 2, 1) := by decide +kernel
theorem dX10_remembers_6 : decode cX10_remembers 6 = .ok (.invokevirtual 140, 3) := by decide +kernel
theorem dX10_remembers_9 : decode cX10_remembers 9 = .ok (.ireturn, 1) := by decide +kernel
theorem dX10_rememberedCount_0 : decode cX10_rememberedCount 0 = .ok (.aload_n 0, 1) := by decide +kernel
theorem dX10_rememberedCount_1 : decode cX10_rememberedCount 1 = .ok (.iload_n 1, 1) := by decide +kernel
theorem dX10_rememberedCount_2 : decode cX10_rememberedCount 2 = .ok (.invokevirtual 119, 3) := by decide +kernel
theorem dX10_rememberedCount_5 : decode cX10_rememberedCount 5 = .ok (.getfield 144, 3) := by decide +kernel
theorem dX10_rememberedCount_8 : decode cX10_rememberedCount 8 = .ok (.ireturn, 1) := by decide +kernel
theorem dX10_nestByDeliveries_0 : decode cX10_nestByDeliveries 0 = .ok (.aload_n 0, 1) := by decide +kernel
theorem dX10_nestByDeliveries_1 : decode cX10_nestByDeliveries 1 = .ok (.getfield 10, 3) := by decide +kernel
theorem dX10_nestByDeliveries_4 : decode cX10_nestByDeliveries 4 = .ok (.iload_n 1, 1) := by decide +kernel
theorem dX10_nestByDeliveries_5 : decode cX10_nestByDeliveries 5 = .ok (.invokevirtual 147, 3) := by decide +kernel
theorem dX10_nestByDeliveries_8 : decode cX10_nestByDeliveries 8 = .ok (.istore_n 2, 1) := by decide +kernel
theorem dX10_nestByDeliveries_9 : decode cX10_nestByDeliveries 9 = .ok (.iload_n 2, 1) := by decide +kernel
theorem dX10_nestByDeliveries_10 : decode cX10_nestByDeliveries 10 = .ok (.iconst (-1), 1) := by decide +kernel
theorem dX10_nestByDeliveries_11 : decode cX10_nestByDeliveries 11 = .ok (.if_icmp .ne 13, 3) := by decide +kernel
theorem dX10_nestByDeliveries_14 : decode cX10_nestByDeliveries 14 = .ok (.new 108, 3) := by decide +kernel
theorem dX10_nestByDeliveries_17 : decode cX10_nestByDeliveries 17 = .ok (.dup, 1) := by decide +kernel
theorem dX10_nestByDeliveries_18 : decode cX10_nestByDeliveries 18 = .ok (.ldc 150, 2) := by decide +kernel
theorem dX10_nestByDeliveries_20 : decode cX10_nestByDeliveries 20 = .ok (.invokespecial 112, 3) := by decide +kernel
theorem dX10_nestByDeliveries_23 : decode cX10_nestByDeliveries 23 = .ok (.athrow, 1) := by decide +kernel
theorem dX10_nestByDeliveries_24 : decode cX10_nestByDeliveries 24 = .ok (.iload_n 2, 1) := by decide +kernel
theorem dX10_nestByDeliveries_25 : decode cX10_nestByDeliveries 25 = .ok (.ireturn, 1) := by decide +kernel
theorem dX10_existingNest_0 : decode cX10_existingNest 0 = .ok (.aload_n 0, 1) := by decide +kernel
theorem dX10_existingNest_1 : decode cX10_existingNest 1 = .ok (.getfield 10, 3) := by decide +kernel
theorem dX10_existingNest_4 : decode cX10_existingNest 4 = .ok (.iload_n 1, 1) := by decide +kernel
theorem dX10_existingNest_5 : decode cX10_existingNest 5 = .ok (.invokevirtual 152, 3) := by decide +kernel
theorem dX10_existingNest_8 : decode cX10_existingNest 8 = .ok (.astore_n 2, 1) := by decide +kernel
theorem dX10_existingNest_9 : decode cX10_existingNest 9 = .ok (.aload_n 2, 1) := by decide +kernel
theorem dX10_existingNest_10 : decode cX10_existingNest 10 = .ok (.ifnonnull 13, 3) := by decide +kernel
theorem dX10_existingNest_13 : decode cX10_existingNest 13 = .ok (.new 103, 3) := by decide +kernel
theorem dX10_existingNest_16 : decode cX10_existingNest 16 = .ok (.dup, 1) := by decide +kernel
theorem dX10_existingNest_17 : decode cX10_existingNest 17 = .ok (.ldc 105, 2) := by decide +kernel
theorem dX10_existingNest_19 : decode cX10_existingNest 19 = .ok (.invokespecial 107, 3) := by decide +kernel
theorem dX10_existingNest_22 : decode cX10_existingNest 22 = .ok (.athrow, 1) := by decide +kernel
theorem dX10_existingNest_23 : decode cX10_existingNest 23 = .ok (.aload_n 2, 1) := by decide +kernel
theorem dX10_existingNest_24 : decode cX10_existingNest 24 = .ok (.areturn, 1) := by decide +kernel
theorem dX10_crowCount_0 : decode cX10_crowCount 0 = .ok (.aload_n 0, 1) := by decide +kernel
theorem dX10_crowCount_1 : decode cX10_crowCount 1 = .ok (.getfield 10, 3) := by decide +kernel
theorem dX10_crowCount_4 : decode cX10_crowCount 4 = .ok (.getfield 155, 3) := by decide +kernel
theorem dX10_crowCount_7 : decode cX10_crowCount 7 = .ok (.ireturn, 1) := by decide +kernel
theorem dX10_isFlying_0 : decode cX10_isFlying 0 = .ok (.aload_n 0, 1) := by decide +kernel
theorem dX10_isFlying_1 : decode cX10_isFlying 1 = .ok (.iload_n 1, 1) := by decide +kernel
theorem dX10_isFlying_2 : decode cX10_isFlying 2 = .ok (.invokevirtual 158, 3) := by decide +kernel
theorem dX10_isFlying_5 : decode cX10_isFlying 5 = .ok (.getfield 162, 3) := by decide +kernel
theorem dX10_isFlying_8 : decode cX10_isFlying 8 = .ok (.ireturn, 1) := by decide +kernel
theorem dX10_carriedMessage_0 : decode cX10_carriedMessage 0 = .ok (.aload_n 0, 1) := by decide +kernel
theorem dX10_carriedMessage_1 : decode cX10_carriedMessage 1 = .ok (.iload_n 1, 1) := by decide +kernel
theorem dX10_carriedMessage_2 : decode cX10_carriedMessage 2 = .ok (.invokevirtual 158, 3) := by decide +kernel
theorem dX10_carriedMessage_5 : decode cX10_carriedMessage 5 = .ok (.astore_n 2, 1) := by decide +kernel
theorem dX10_carriedMessage_6 : decode cX10_carriedMessage 6 = .ok (.aload_n 2, 1) := by decide +kernel
theorem dX10_carriedMessage_7 : decode cX10_carriedMessage 7 = .ok (.getfield 162, 3) := by decide +kernel
theorem dX10_carriedMessage_10 : decode cX10_carriedMessage 10 = .ok (.ifCond .ne 13, 3) := by decide +kernel
theorem dX10_carriedMessage_13 : decode cX10_carriedMessage 13 = .ok (.new 108, 3) := by decide +kernel
theorem dX10_carriedMessage_16 : decode cX10_carriedMessage 16 = .ok (.dup, 1) := by decide +kernel
theorem dX10_carriedMessage_17 : decode cX10_carriedMessage 17 = .ok (.ldc 167, 2) := by decide +kernel
theorem dX10_carriedMessage_19 : decode cX10_carriedMessage 19 = .ok (.invokespecial 112, 3) := by decide +kernel
theorem dX10_carriedMessage_22 : decode cX10_carriedMessage 22 = .ok (.athrow, 1) := by decide +kernel
theorem dX10_carriedMessage_23 : decode cX10_carriedMessage 23 = .ok (.aload_n 2, 1) := by decide +kernel
theorem dX10_carriedMessage_24 : decode cX10_carriedMessage 24 = .ok (.getfield 169, 3) := by decide +kernel
theorem dX10_carriedMessage_27 : decode cX10_carriedMessage 27 = .ok (.ireturn, 1) := by decide +kernel
theorem dX10_flightMinutes_0 : decode cX10_flightMinutes 0 = .ok (.aload_n 0, 1) := by decide +kernel
theorem dX10_flightMinutes_1 : decode cX10_flightMinutes 1 = .ok (.iload_n 1, 1) := by decide +kernel
theorem dX10_flightMinutes_2 : decode cX10_flightMinutes 2 = .ok (.invokevirtual 158, 3) := by decide +kernel
theorem dX10_flightMinutes_5 : decode cX10_flightMinutes 5 = .ok (.astore_n 2, 1) := by decide +kernel
theorem dX10_flightMinutes_6 : decode cX10_flightMinutes 6 = .ok (.aload_n 2, 1) := by decide +kernel
theorem dX10_flightMinutes_7 : decode cX10_flightMinutes 7 = .ok (.getfield 162, 3) := by decide +kernel
theorem dX10_flightMinutes_10 : decode cX10_flightMinutes 10 = .ok (.ifCond .eq 18, 3) := by decide +kernel
theorem dX10_flightMinutes_13 : decode cX10_flightMinutes 13 = .ok (.aload_n 2, 1) := by decide +kernel
theorem dX10_flightMinutes_14 : decode cX10_flightMinutes 14 = .ok (.getfield 172, 3) := by decide +kernel
theorem dX10_flightMinutes_17 : decode cX10_flightMinutes 17 = .ok (.aload_n 0, 1) := by decide +kernel
theorem dX10_flightMinutes_18 : decode cX10_flightMinutes 18 = .ok (.getfield 10, 3) := by decide +kernel
theorem dX10_flightMinutes_21 : decode cX10_flightMinutes 21 = .ok (.getfield 175, 3) := by decide +kernel
theorem dX10_flightMinutes_24 : decode cX10_flightMinutes 24 = .ok (.isub, 1) := by decide +kernel
theorem dX10_flightMinutes_25 : decode cX10_flightMinutes 25 = .ok (.goto 4, 3) := by decide +kernel
theorem dX10_flightMinutes_28 : decode cX10_flightMinutes 28 = .ok (.iconst 0, 1) := by decide +kernel
theorem dX10_flightMinutes_29 : decode cX10_flightMinutes 29 = .ok (.ireturn, 1) := by decide +kernel
theorem dX10_existingCrow_0 : decode cX10_existingCrow 0 = .ok (.aload_n 0, 1) := by decide +kernel
theorem dX10_existingCrow_1 : decode cX10_existingCrow 1 = .ok (.getfield 10, 3) := by decide +kernel
theorem dX10_existingCrow_4 : decode cX10_existingCrow 4 = .ok (.iload_n 1, 1) := by decide +kernel
theorem dX10_existingCrow_5 : decode cX10_existingCrow 5 = .ok (.invokevirtual 178, 3) := by decide +kernel
theorem dX10_existingCrow_8 : decode cX10_existingCrow 8 = .ok (.astore_n 2, 1) := by decide +kernel
theorem dX10_existingCrow_9 : decode cX10_existingCrow 9 = .ok (.aload_n 2, 1) := by decide +kernel
theorem dX10_existingCrow_10 : decode cX10_existingCrow 10 = .ok (.ifnonnull 13, 3) := by decide +kernel
theorem dX10_existingCrow_13 : decode cX10_existingCrow 13 = .ok (.new 103, 3) := by decide +kernel
theorem dX10_existingCrow_16 : decode cX10_existingCrow 16 = .ok (.dup, 1) := by decide +kernel
theorem dX10_existingCrow_17 : decode cX10_existingCrow 17 = .ok (.ldc 181, 2) := by decide +kernel
theorem dX10_existingCrow_19 : decode cX10_existingCrow 19 = .ok (.invokespecial 107, 3) := by decide +kernel
theorem dX10_existingCrow_22 : decode cX10_existingCrow 22 = .ok (.athrow, 1) := by decide +kernel
theorem dX10_existingCrow_23 : decode cX10_existingCrow 23 = .ok (.aload_n 2, 1) := by decide +kernel
theorem dX10_existingCrow_24 : decode cX10_existingCrow 24 = .ok (.areturn, 1) := by decide +kernel
theorem dX10_messageCount_0 : decode cX10_messageCount 0 = .ok (.aload_n 0, 1) := by decide +kernel
theorem dX10_messageCount_1 : decode cX10_messageCount 1 = .ok (.getfield 10, 3) := by decide +kernel
theorem dX10_messageCount_4 : decode cX10_messageCount 4 = .ok (.getfield 183, 3) := by decide +kernel
theorem dX10_messageCount_7 : decode cX10_messageCount 7 = .ok (.ireturn, 1) := by decide +kernel
theorem dX10_messageAt_0 : decode cX10_messageAt 0 = .ok (.iload_n 1, 1) := by decide +kernel
theorem dX10_messageAt_1 : decode cX10_messageAt 1 = .ok (.ifCond .lt 14, 3) := by decide +kernel
theorem dX10_messageAt_4 : decode cX10_messageAt 4 = .ok (.iload_n 1, 1) := by decide +kernel
theorem dX10_messageAt_5 : decode cX10_messageAt 5 = .ok (.aload_n 0, 1) := by decide +kernel
theorem dX10_messageAt_6 : decode cX10_messageAt 6 = .ok (.getfield 10, 3) := by decide +kernel
theorem dX10_messageAt_9 : decode cX10_messageAt 9 = .ok (.getfield 183, 3) := by decide +kernel
theorem dX10_messageAt_12 : decode cX10_messageAt 12 = .ok (.if_icmp .lt 13, 3) := by decide +kernel
theorem dX10_messageAt_15 : decode cX10_messageAt 15 = .ok (.new 108, 3) := by decide +kernel
theorem dX10_messageAt_18 : decode cX10_messageAt 18 = .ok (.dup, 1) := by decide +kernel
theorem dX10_messageAt_19 : decode cX10_messageAt 19 = .ok (.ldc 134, 2) := by decide +kernel
theorem dX10_messageAt_21 : decode cX10_messageAt 21 = .ok (.invokespecial 112, 3) := by decide +kernel
theorem dX10_messageAt_24 : decode cX10_messageAt 24 = .ok (.athrow, 1) := by decide +kernel
theorem dX10_messageAt_25 : decode cX10_messageAt 25 = .ok (.aload_n 0, 1) := by decide +kernel
theorem dX10_messageAt_26 : decode cX10_messageAt 26 = .ok (.getfield 10, 3) := by decide +kernel
theorem dX10_messageAt_29 : decode cX10_messageAt 29 = .ok (.getfield 186, 3) := by decide +kernel
theorem dX10_messageAt_32 : decode cX10_messageAt 32 = .ok (.iload_n 1, 1) := by decide +kernel
theorem dX10_messageAt_33 : decode cX10_messageAt 33 = .ok (.aaload, 1) := by decide +kernel
theorem dX10_messageAt_34 : decode cX10_messageAt 34 = .ok (.getfield 190, 3) := by decide +kernel
theorem dX10_messageAt_37 : decode cX10_messageAt 37 = .ok (.ireturn, 1) := by decide +kernel
theorem dX10_nestOf_0 : decode cX10_nestOf 0 = .ok (.aload_n 0, 1) := by decide +kernel
theorem dX10_nestOf_1 : decode cX10_nestOf 1 = .ok (.iload_n 1, 1) := by decide +kernel
theorem dX10_nestOf_2 : decode cX10_nestOf 2 = .ok (.invokevirtual 195, 3) := by decide +kernel
theorem dX10_nestOf_5 : decode cX10_nestOf 5 = .ok (.getfield 199, 3) := by decide +kernel
theorem dX10_nestOf_8 : decode cX10_nestOf 8 = .ok (.ireturn, 1) := by decide +kernel
theorem dX10_keyOf_0 : decode cX10_keyOf 0 = .ok (.aload_n 0, 1) := by decide +kernel
theorem dX10_keyOf_1 : decode cX10_keyOf 1 = .ok (.iload_n 1, 1) := by decide +kernel
theorem dX10_keyOf_2 : decode cX10_keyOf 2 = .ok (.invokevirtual 195, 3) := by decide +kernel
theorem dX10_keyOf_5 : decode cX10_keyOf 5 = .ok (.getfield 202, 3) := by decide +kernel
theorem dX10_keyOf_8 : decode cX10_keyOf 8 = .ok (.ireturn, 1) := by decide +kernel
theorem dX10_attempts_0 : decode cX10_attempts 0 = .ok (.aload_n 0, 1) := by decide +kernel
theorem dX10_attempts_1 : decode cX10_attempts 1 = .ok (.iload_n 1, 1) := by decide +kernel
theorem dX10_attempts_2 : decode cX10_attempts 2 = .ok (.invokevirtual 195, 3) := by decide +kernel
theorem dX10_attempts_5 : decode cX10_attempts 5 = .ok (.getfield 205, 3) := by decide +kernel
theorem dX10_attempts_8 : decode cX10_attempts 8 = .ok (.ireturn, 1) := by decide +kernel
theorem dX10_status_0 : decode cX10_status 0 = .ok (.aload_n 0, 1) := by decide +kernel
theorem dX10_status_1 : decode cX10_status 1 = .ok (.iload_n 1, 1) := by decide +kernel
theorem dX10_status_2 : decode cX10_status 2 = .ok (.invokevirtual 195, 3) := by decide +kernel
theorem dX10_status_5 : decode cX10_status 5 = .ok (.getfield 208, 3) := by decide +kernel
theorem dX10_status_8 : decode cX10_status 8 = .ok (.ireturn, 1) := by decide +kernel
theorem dX10_napMinutes_0 : decode cX10_napMinutes 0 = .ok (.aload_n 0, 1) := by decide +kernel
theorem dX10_napMinutes_1 : decode cX10_napMinutes 1 = .ok (.iload_n 1, 1) := by decide +kernel
theorem dX10_napMinutes_2 : decode cX10_napMinutes 2 = .ok (.invokevirtual 195, 3) := by decide +kernel
theorem dX10_napMinutes_5 : decode cX10_napMinutes 5 = .ok (.astore_n 2, 1) := by decide +kernel
theorem dX10_napMinutes_6 : decode cX10_napMinutes 6 = .ok (.aload_n 2, 1) := by decide +kernel
end
section
theorem dX10_napMinutes_7 : decode cX10_napMinutes 7 = .ok (.getfield 208, 3) := by decide +kernel
theorem dX10_napMinutes_10 : decode cX10_napMinutes 10 = .ok (.bipush 110, 2) := by decide +kernel
theorem dX10_napMinutes_12 : decode cX10_napMinutes 12 = .ok (.if_icmp .eq 13, 3) := by decide +kernel
theorem dX10_napMinutes_15 : decode cX10_napMinutes 15 = .ok (.new 98, 3) := by decide +kernel
theorem dX10_napMinutes_18 : decode cX10_napMinutes 18 = .ok (.dup, 1) := by decide +kernel
theorem dX10_napMinutes_19 : decode cX10_napMinutes 19 = .ok (.ldc 212, 2) := by decide +kernel
theorem dX10_napMinutes_21 : decode cX10_napMinutes 21 = .ok (.invokespecial 102, 3) := by decide +kernel
theorem dX10_napMinutes_24 : decode cX10_napMinutes 24 = .ok (.athrow, 1) := by decide +kernel
theorem dX10_napMinutes_25 : decode cX10_napMinutes 25 = .ok (.aload_n 2, 1) := by decide +kernel
theorem dX10_napMinutes_26 : decode cX10_napMinutes 26 = .ok (.getfield 214, 3) := by decide +kernel
theorem dX10_napMinutes_29 : decode cX10_napMinutes 29 = .ok (.aload_n 0, 1) := by decide +kernel
theorem dX10_napMinutes_30 : decode cX10_napMinutes 30 = .ok (.getfield 10, 3) := by decide +kernel
theorem dX10_napMinutes_33 : decode cX10_napMinutes 33 = .ok (.getfield 175, 3) := by decide +kernel
theorem dX10_napMinutes_36 : decode cX10_napMinutes 36 = .ok (.isub, 1) := by decide +kernel
theorem dX10_napMinutes_37 : decode cX10_napMinutes 37 = .ok (.ireturn, 1) := by decide +kernel
theorem dX10_waitingMessage_0 : decode cX10_waitingMessage 0 = .ok (.aload_n 0, 1) := by decide +kernel
theorem dX10_waitingMessage_1 : decode cX10_waitingMessage 1 = .ok (.getfield 10, 3) := by decide +kernel
theorem dX10_waitingMessage_4 : decode cX10_waitingMessage 4 = .ok (.iload_n 1, 1) := by decide +kernel
theorem dX10_waitingMessage_5 : decode cX10_waitingMessage 5 = .ok (.invokevirtual 217, 3) := by decide +kernel
theorem dX10_waitingMessage_8 : decode cX10_waitingMessage 8 = .ok (.astore_n 2, 1) := by decide +kernel
theorem dX10_waitingMessage_9 : decode cX10_waitingMessage 9 = .ok (.aload_n 2, 1) := by decide +kernel
theorem dX10_waitingMessage_10 : decode cX10_waitingMessage 10 = .ok (.ifnonnull 13, 3) := by decide +kernel
theorem dX10_waitingMessage_13 : decode cX10_waitingMessage 13 = .ok (.new 108, 3) := by decide +kernel
theorem dX10_waitingMessage_16 : decode cX10_waitingMessage 16 = .ok (.dup, 1) := by decide +kernel
theorem dX10_waitingMessage_17 : decode cX10_waitingMessage 17 = .ok (.ldc 150, 2) := by decide +kernel
theorem dX10_waitingMessage_19 : decode cX10_waitingMessage 19 = .ok (.invokespecial 112, 3) := by decide +kernel
theorem dX10_waitingMessage_22 : decode cX10_waitingMessage 22 = .ok (.athrow, 1) := by decide +kernel
theorem dX10_waitingMessage_23 : decode cX10_waitingMessage 23 = .ok (.aload_n 2, 1) := by decide +kernel
theorem dX10_waitingMessage_24 : decode cX10_waitingMessage 24 = .ok (.getfield 190, 3) := by decide +kernel
theorem dX10_waitingMessage_27 : decode cX10_waitingMessage 27 = .ok (.ireturn, 1) := by decide +kernel
theorem dX10_wouldBeLost_0 : decode cX10_wouldBeLost 0 = .ok (.aload_n 0, 1) := by decide +kernel
theorem dX10_wouldBeLost_1 : decode cX10_wouldBeLost 1 = .ok (.iload_n 1, 1) := by decide +kernel
theorem dX10_wouldBeLost_2 : decode cX10_wouldBeLost 2 = .ok (.invokevirtual 195, 3) := by decide +kernel
theorem dX10_wouldBeLost_5 : decode cX10_wouldBeLost 5 = .ok (.astore_n 2, 1) := by decide +kernel
theorem dX10_wouldBeLost_6 : decode cX10_wouldBeLost 6 = .ok (.aload_n 2, 1) := by decide +kernel
theorem dX10_wouldBeLost_7 : decode cX10_wouldBeLost 7 = .ok (.getfield 208, 3) := by decide +kernel
theorem dX10_wouldBeLost_10 : decode cX10_wouldBeLost 10 = .ok (.bipush 100, 2) := by decide +kernel
theorem dX10_wouldBeLost_12 : decode cX10_wouldBeLost 12 = .ok (.if_icmp .ne 13, 3) := by decide +kernel
theorem dX10_wouldBeLost_15 : decode cX10_wouldBeLost 15 = .ok (.new 98, 3) := by decide +kernel
theorem dX10_wouldBeLost_18 : decode cX10_wouldBeLost 18 = .ok (.dup, 1) := by decide +kernel
theorem dX10_wouldBeLost_19 : decode cX10_wouldBeLost 19 = .ok (.ldc 220, 2) := by decide +kernel
theorem dX10_wouldBeLost_21 : decode cX10_wouldBeLost 21 = .ok (.invokespecial 102, 3) := by decide +kernel
theorem dX10_wouldBeLost_24 : decode cX10_wouldBeLost 24 = .ok (.athrow, 1) := by decide +kernel
theorem dX10_wouldBeLost_25 : decode cX10_wouldBeLost 25 = .ok (.aload_n 0, 1) := by decide +kernel
theorem dX10_wouldBeLost_26 : decode cX10_wouldBeLost 26 = .ok (.getfield 10, 3) := by decide +kernel
theorem dX10_wouldBeLost_29 : decode cX10_wouldBeLost 29 = .ok (.aload_n 2, 1) := by decide +kernel
theorem dX10_wouldBeLost_30 : decode cX10_wouldBeLost 30 = .ok (.aload_n 2, 1) := by decide +kernel
theorem dX10_wouldBeLost_31 : decode cX10_wouldBeLost 31 = .ok (.getfield 205, 3) := by decide +kernel
theorem dX10_wouldBeLost_34 : decode cX10_wouldBeLost 34 = .ok (.iconst 1, 1) := by decide +kernel
theorem dX10_wouldBeLost_35 : decode cX10_wouldBeLost 35 = .ok (.iadd, 1) := by decide +kernel
theorem dX10_wouldBeLost_36 : decode cX10_wouldBeLost 36 = .ok (.invokevirtual 222, 3) := by decide +kernel
theorem dX10_wouldBeLost_39 : decode cX10_wouldBeLost 39 = .ok (.ireturn, 1) := by decide +kernel
theorem dX10_napLength_0 : decode cX10_napLength 0 = .ok (.iload_n 1, 1) := by decide +kernel
theorem dX10_napLength_1 : decode cX10_napLength 1 = .ok (.ifCond .lt 9, 3) := by decide +kernel
theorem dX10_napLength_4 : decode cX10_napLength 4 = .ok (.iload_n 1, 1) := by decide +kernel
theorem dX10_napLength_5 : decode cX10_napLength 5 = .ok (.bipush 40, 2) := by decide +kernel
theorem dX10_napLength_7 : decode cX10_napLength 7 = .ok (.if_icmp .le 13, 3) := by decide +kernel
theorem dX10_napLength_10 : decode cX10_napLength 10 = .ok (.new 91, 3) := by decide +kernel
theorem dX10_napLength_13 : decode cX10_napLength 13 = .ok (.dup, 1) := by decide +kernel
theorem dX10_napLength_14 : decode cX10_napLength 14 = .ok (.ldc 226, 2) := by decide +kernel
theorem dX10_napLength_16 : decode cX10_napLength 16 = .ok (.invokespecial 95, 3) := by decide +kernel
theorem dX10_napLength_19 : decode cX10_napLength 19 = .ok (.athrow, 1) := by decide +kernel
theorem dX10_napLength_20 : decode cX10_napLength 20 = .ok (.iload_n 1, 1) := by decide +kernel
theorem dX10_napLength_21 : decode cX10_napLength 21 = .ok (.invokestatic 228, 3) := by decide +kernel
theorem dX10_napLength_24 : decode cX10_napLength 24 = .ok (.lreturn, 1) := by decide +kernel
theorem dX10_napLengthByDoubling_0 : decode cX10_napLengthByDoubling 0 = .ok (.iload_n 1, 1) := by decide +kernel
theorem dX10_napLengthByDoubling_1 : decode cX10_napLengthByDoubling 1 = .ok (.ifCond .lt 9, 3) := by decide +kernel
theorem dX10_napLengthByDoubling_4 : decode cX10_napLengthByDoubling 4 = .ok (.iload_n 1, 1) := by decide +kernel
theorem dX10_napLengthByDoubling_5 : decode cX10_napLengthByDoubling 5 = .ok (.bipush 40, 2) := by decide +kernel
theorem dX10_napLengthByDoubling_7 : decode cX10_napLengthByDoubling 7 = .ok (.if_icmp .le 13, 3) := by decide +kernel
theorem dX10_napLengthByDoubling_10 : decode cX10_napLengthByDoubling 10 = .ok (.new 91, 3) := by decide +kernel
theorem dX10_napLengthByDoubling_13 : decode cX10_napLengthByDoubling 13 = .ok (.dup, 1) := by decide +kernel
theorem dX10_napLengthByDoubling_14 : decode cX10_napLengthByDoubling 14 = .ok (.ldc 226, 2) := by decide +kernel
theorem dX10_napLengthByDoubling_16 : decode cX10_napLengthByDoubling 16 = .ok (.invokespecial 95, 3) := by decide +kernel
theorem dX10_napLengthByDoubling_19 : decode cX10_napLengthByDoubling 19 = .ok (.athrow, 1) := by decide +kernel
theorem dX10_napLengthByDoubling_20 : decode cX10_napLengthByDoubling 20 = .ok (.iload_n 1, 1) := by decide +kernel
theorem dX10_napLengthByDoubling_21 : decode cX10_napLengthByDoubling 21 = .ok (.invokestatic 232, 3) := by decide +kernel
theorem dX10_napLengthByDoubling_24 : decode cX10_napLengthByDoubling 24 = .ok (.lreturn, 1) := by decide +kernel
theorem dX10_minutesUntilDelivered_0 : decode cX10_minutesUntilDelivered 0 = .ok (.aload_n 0, 1) := by decide +kernel
theorem dX10_minutesUntilDelivered_1 : decode cX10_minutesUntilDelivered 1 = .ok (.iload_n 1, 1) := by decide +kernel
theorem dX10_minutesUntilDelivered_2 : decode cX10_minutesUntilDelivered 2 = .ok (.invokevirtual 195, 3) := by decide +kernel
theorem dX10_minutesUntilDelivered_5 : decode cX10_minutesUntilDelivered 5 = .ok (.getfield 208, 3) := by decide +kernel
theorem dX10_minutesUntilDelivered_8 : decode cX10_minutesUntilDelivered 8 = .ok (.bipush 100, 2) := by decide +kernel
theorem dX10_minutesUntilDelivered_10 : decode cX10_minutesUntilDelivered 10 = .ok (.if_icmp .ne 13, 3) := by decide +kernel
theorem dX10_minutesUntilDelivered_13 : decode cX10_minutesUntilDelivered 13 = .ok (.new 98, 3) := by decide +kernel
theorem dX10_minutesUntilDelivered_16 : decode cX10_minutesUntilDelivered 16 = .ok (.dup, 1) := by decide +kernel
theorem dX10_minutesUntilDelivered_17 : decode cX10_minutesUntilDelivered 17 = .ok (.ldc 235, 2) := by decide +kernel
theorem dX10_minutesUntilDelivered_19 : decode cX10_minutesUntilDelivered 19 = .ok (.invokespecial 102, 3) := by decide +kernel
theorem dX10_minutesUntilDelivered_22 : decode cX10_minutesUntilDelivered 22 = .ok (.athrow, 1) := by decide +kernel
theorem dX10_minutesUntilDelivered_23 : decode cX10_minutesUntilDelivered 23 = .ok (.aload_n 0, 1) := by decide +kernel
theorem dX10_minutesUntilDelivered_24 : decode cX10_minutesUntilDelivered 24 = .ok (.iload_n 1, 1) := by decide +kernel
theorem dX10_minutesUntilDelivered_25 : decode cX10_minutesUntilDelivered 25 = .ok (.invokevirtual 237, 3) := by decide +kernel
theorem dX10_minutesUntilDelivered_28 : decode cX10_minutesUntilDelivered 28 = .ok (.istore_n 2, 1) := by decide +kernel
theorem dX10_minutesUntilDelivered_29 : decode cX10_minutesUntilDelivered 29 = .ok (.iload_n 2, 1) := by decide +kernel
theorem dX10_minutesUntilDelivered_30 : decode cX10_minutesUntilDelivered 30 = .ok (.iconst (-1), 1) := by decide +kernel
theorem dX10_minutesUntilDelivered_31 : decode cX10_minutesUntilDelivered 31 = .ok (.if_icmp .ne 13, 3) := by decide +kernel
theorem dX10_minutesUntilDelivered_34 : decode cX10_minutesUntilDelivered 34 = .ok (.new 98, 3) := by decide +kernel
theorem dX10_minutesUntilDelivered_37 : decode cX10_minutesUntilDelivered 37 = .ok (.dup, 1) := by decide +kernel
theorem dX10_minutesUntilDelivered_38 : decode cX10_minutesUntilDelivered 38 = .ok (.ldc 240, 2) := by decide +kernel
theorem dX10_minutesUntilDelivered_40 : decode cX10_minutesUntilDelivered 40 = .ok (.invokespecial 102, 3) := by decide +kernel
theorem dX10_minutesUntilDelivered_43 : decode cX10_minutesUntilDelivered 43 = .ok (.athrow, 1) := by decide +kernel
theorem dX10_minutesUntilDelivered_44 : decode cX10_minutesUntilDelivered 44 = .ok (.iload_n 2, 1) := by decide +kernel
theorem dX10_minutesUntilDelivered_45 : decode cX10_minutesUntilDelivered 45 = .ok (.ireturn, 1) := by decide +kernel
theorem dX10_existingMessage_0 : decode cX10_existingMessage 0 = .ok (.aload_n 0, 1) := by decide +kernel
theorem dX10_existingMessage_1 : decode cX10_existingMessage 1 = .ok (.getfield 10, 3) := by decide +kernel
theorem dX10_existingMessage_4 : decode cX10_existingMessage 4 = .ok (.iload_n 1, 1) := by decide +kernel
theorem dX10_existingMessage_5 : decode cX10_existingMessage 5 = .ok (.invokevirtual 242, 3) := by decide +kernel
theorem dX10_existingMessage_8 : decode cX10_existingMessage 8 = .ok (.astore_n 2, 1) := by decide +kernel
theorem dX10_existingMessage_9 : decode cX10_existingMessage 9 = .ok (.aload_n 2, 1) := by decide +kernel
theorem dX10_existingMessage_10 : decode cX10_existingMessage 10 = .ok (.ifnonnull 13, 3) := by decide +kernel
theorem dX10_existingMessage_13 : decode cX10_existingMessage 13 = .ok (.new 108, 3) := by decide +kernel
theorem dX10_existingMessage_16 : decode cX10_existingMessage 16 = .ok (.dup, 1) := by decide +kernel
theorem dX10_existingMessage_17 : decode cX10_existingMessage 17 = .ok (.ldc 110, 2) := by decide +kernel
theorem dX10_existingMessage_19 : decode cX10_existingMessage 19 = .ok (.invokespecial 112, 3) := by decide +kernel
theorem dX10_existingMessage_22 : decode cX10_existingMessage 22 = .ok (.athrow, 1) := by decide +kernel
theorem dX10_existingMessage_23 : decode cX10_existingMessage 23 = .ok (.aload_n 2, 1) := by decide +kernel
theorem dX10_existingMessage_24 : decode cX10_existingMessage 24 = .ok (.areturn, 1) := by decide +kernel
theorem dX10_foreseenMinutes_0 : decode cX10_foreseenMinutes 0 = .ok (.aload_n 0, 1) := by decide +kernel
theorem dX10_foreseenMinutes_1 : decode cX10_foreseenMinutes 1 = .ok (.getfield 19, 3) := by decide +kernel
theorem dX10_foreseenMinutes_4 : decode cX10_foreseenMinutes 4 = .ok (.aload_n 0, 1) := by decide +kernel
theorem dX10_foreseenMinutes_5 : decode cX10_foreseenMinutes 5 = .ok (.getfield 10, 3) := by decide +kernel
theorem dX10_foreseenMinutes_8 : decode cX10_foreseenMinutes 8 = .ok (.invokevirtual 57, 3) := by decide +kernel
theorem dX10_foreseenMinutes_11 : decode cX10_foreseenMinutes 11 = .ok (.iconst 1, 1) := by decide +kernel
theorem dX10_foreseenMinutes_12 : decode cX10_foreseenMinutes 12 = .ok (.istore_n 2, 1) := by decide +kernel
theorem dX10_foreseenMinutes_13 : decode cX10_foreseenMinutes 13 = .ok (.iload_n 2, 1) := by decide +kernel
theorem dX10_foreseenMinutes_14 : decode cX10_foreseenMinutes 14 = .ok (.bipush 100, 2) := by decide +kernel
theorem dX10_foreseenMinutes_16 : decode cX10_foreseenMinutes 16 = .ok (.if_icmp .gt 44, 3) := by decide +kernel
theorem dX10_foreseenMinutes_19 : decode cX10_foreseenMinutes 19 = .ok (.aload_n 0, 1) := by decide +kernel
theorem dX10_foreseenMinutes_20 : decode cX10_foreseenMinutes 20 = .ok (.getfield 19, 3) := by decide +kernel
theorem dX10_foreseenMinutes_23 : decode cX10_foreseenMinutes 23 = .ok (.iconst 1, 1) := by decide +kernel
theorem dX10_foreseenMinutes_24 : decode cX10_foreseenMinutes 24 = .ok (.invokevirtual 88, 3) := by decide +kernel
theorem dX10_foreseenMinutes_27 : decode cX10_foreseenMinutes 27 = .ok (.pop, 1) := by decide +kernel
theorem dX10_foreseenMinutes_28 : decode cX10_foreseenMinutes 28 = .ok (.aload_n 0, 1) := by decide +kernel
theorem dX10_foreseenMinutes_29 : decode cX10_foreseenMinutes 29 = .ok (.getfield 19, 3) := by decide +kernel
theorem dX10_foreseenMinutes_32 : decode cX10_foreseenMinutes 32 = .ok (.iload_n 1, 1) := by decide +kernel
theorem dX10_foreseenMinutes_33 : decode cX10_foreseenMinutes 33 = .ok (.invokevirtual 242, 3) := by decide +kernel
theorem dX10_foreseenMinutes_36 : decode cX10_foreseenMinutes 36 = .ok (.astore_n 3, 1) := by decide +kernel
theorem dX10_foreseenMinutes_37 : decode cX10_foreseenMinutes 37 = .ok (.aload_n 3, 1) := by decide +kernel
theorem dX10_foreseenMinutes_38 : decode cX10_foreseenMinutes 38 = .ok (.ifnonnull 5, 3) := by decide +kernel
theorem dX10_foreseenMinutes_41 : decode cX10_foreseenMinutes 41 = .ok (.iconst (-1), 1) := by decide +kernel
theorem dX10_foreseenMinutes_42 : decode cX10_foreseenMinutes 42 = .ok (.ireturn, 1) := by decide +kernel
theorem dX10_foreseenMinutes_43 : decode cX10_foreseenMinutes 43 = .ok (.aload_n 3, 1) := by decide +kernel
theorem dX10_foreseenMinutes_44 : decode cX10_foreseenMinutes 44 = .ok (.getfield 208, 3) := by decide +kernel
theorem dX10_foreseenMinutes_47 : decode cX10_foreseenMinutes 47 = .ok (.bipush 100, 2) := by decide +kernel
theorem dX10_foreseenMinutes_49 : decode cX10_foreseenMinutes 49 = .ok (.if_icmp .ne 5, 3) := by decide +kernel
theorem dX10_foreseenMinutes_52 : decode cX10_foreseenMinutes 52 = .ok (.iload_n 2, 1) := by decide +kernel
theorem dX10_foreseenMinutes_53 : decode cX10_foreseenMinutes 53 = .ok (.ireturn, 1) := by decide +kernel
theorem dX10_foreseenMinutes_54 : decode cX10_foreseenMinutes 54 = .ok (.iinc 2 1, 3) := by decide +kernel
theorem dX10_foreseenMinutes_57 : decode cX10_foreseenMinutes 57 = .ok (.goto (-44), 3) := by decide +kernel
theorem dX10_foreseenMinutes_60 : decode cX10_foreseenMinutes 60 = .ok (.iconst (-1), 1) := by decide +kernel
theorem dX10_foreseenMinutes_61 : decode cX10_foreseenMinutes 61 = .ok (.ireturn, 1) := by decide +kernel
theorem dX10_shiftedNap_0 : decode cX10_shiftedNap 0 = .ok (.lconst 1, 1) := by decide +kernel
theorem dX10_shiftedNap_1 : decode cX10_shiftedNap 1 = .ok (.iload_n 0, 1) := by decide +kernel
theorem dX10_shiftedNap_2 : decode cX10_shiftedNap 2 = .ok (.lshl, 1) := by decide +kernel
theorem dX10_shiftedNap_3 : decode cX10_shiftedNap 3 = .ok (.lreturn, 1) := by decide +kernel
theorem dX10_doubledNap_0 : decode cX10_doubledNap 0 = .ok (.lconst 1, 1) := by decide +kernel
theorem dX10_doubledNap_1 : decode cX10_doubledNap 1 = .ok (.lstore_n 1, 1) := by decide +kernel
theorem dX10_doubledNap_2 : decode cX10_doubledNap 2 = .ok (.iconst 0, 1) := by decide +kernel
theorem dX10_doubledNap_3 : decode cX10_doubledNap 3 = .ok (.istore_n 3, 1) := by decide +kernel
theorem dX10_doubledNap_4 : decode cX10_doubledNap 4 = .ok (.iload_n 3, 1) := by decide +kernel
theorem dX10_doubledNap_5 : decode cX10_doubledNap 5 = .ok (.iload_n 0, 1) := by decide +kernel
theorem dX10_doubledNap_6 : decode cX10_doubledNap 6 = .ok (.if_icmp .ge 13, 3) := by decide +kernel
theorem dX10_doubledNap_9 : decode cX10_doubledNap 9 = .ok (.lload_n 1, 1) := by decide +kernel
theorem dX10_doubledNap_10 : decode cX10_doubledNap 10 = .ok (.lload_n 1, 1) := by decide +kernel
theorem dX10_doubledNap_11 : decode cX10_doubledNap 11 = .ok (.ladd, 1) := by decide +kernel
theorem dX10_doubledNap_12 : decode cX10_doubledNap 12 = .ok (.lstore_n 1, 1) := by decide +kernel
theorem dX10_doubledNap_13 : decode cX10_doubledNap 13 = .ok (.iinc 3 1, 3) := by decide +kernel
theorem dX10_doubledNap_16 : decode cX10_doubledNap 16 = .ok (.goto (-12), 3) := by decide +kernel
theorem dX10_doubledNap_19 : decode cX10_doubledNap 19 = .ok (.lload_n 1, 1) := by decide +kernel
theorem dX10_doubledNap_20 : decode cX10_doubledNap 20 = .ok (.lreturn, 1) := by decide +kernel
theorem dX10_time_0 : decode cX10_time 0 = .ok (.aload_n 0, 1) := by decide +kernel
theorem dX10_time_1 : decode cX10_time 1 = .ok (.getfield 10, 3) := by decide +kernel
theorem dX10_time_4 : decode cX10_time 4 = .ok (.getfield 175, 3) := by decide +kernel
theorem dX10_time_7 : decode cX10_time 7 = .ok (.ireturn, 1) := by decide +kernel
theorem dX10_wind_0 : decode cX10_wind 0 = .ok (.aload_n 0, 1) := by decide +kernel
theorem dX10_wind_1 : decode cX10_wind 1 = .ok (.getfield 10, 3) := by decide +kernel
theorem dX10_wind_4 : decode cX10_wind 4 = .ok (.getfield 245, 3) := by decide +kernel
theorem dX10_wind_7 : decode cX10_wind 7 = .ok (.ireturn, 1) := by decide +kernel
theorem dX10_publishedTotal_0 : decode cX10_publishedTotal 0 = .ok (.aload_n 0, 1) := by decide +kernel
theorem dX10_publishedTotal_1 : decode cX10_publishedTotal 1 = .ok (.getfield 10, 3) := by decide +kernel
theorem dX10_publishedTotal_4 : decode cX10_publishedTotal 4 = .ok (.getfield 248, 3) := by decide +kernel
theorem dX10_publishedTotal_7 : decode cX10_publishedTotal 7 = .ok (.getfield 252, 3) := by decide +kernel
theorem dX10_publishedTotal_10 : decode cX10_publishedTotal 10 = .ok (.ireturn, 1) := by decide +kernel
theorem dX10_deliveredTotal_0 : decode cX10_deliveredTotal 0 = .ok (.aload_n 0, 1) := by decide +kernel
theorem dX10_deliveredTotal_1 : decode cX10_deliveredTotal 1 = .ok (.getfield 10, 3) := by decide +kernel
theorem dX10_deliveredTotal_4 : decode cX10_deliveredTotal 4 = .ok (.getfield 248, 3) := by decide +kernel
theorem dX10_deliveredTotal_7 : decode cX10_deliveredTotal 7 = .ok (.getfield 257, 3) := by decide +kernel
theorem dX10_deliveredTotal_10 : decode cX10_deliveredTotal 10 = .ok (.ireturn, 1) := by decide +kernel
theorem dX10_readTotal_0 : decode cX10_readTotal 0 = .ok (.aload_n 0, 1) := by decide +kernel
theorem dX10_readTotal_1 : decode cX10_readTotal 1 = .ok (.getfield 10, 3) := by decide +kernel
theorem dX10_readTotal_4 : decode cX10_readTotal 4 = .ok (.getfield 248, 3) := by decide +kernel
theorem dX10_readTotal_7 : decode cX10_readTotal 7 = .ok (.getfield 260, 3) := by decide +kernel
theorem dX10_readTotal_10 : decode cX10_readTotal 10 = .ok (.ireturn, 1) := by decide +kernel
theorem dX10_duplicateTotal_0 : decode cX10_duplicateTotal 0 = .ok (.aload_n 0, 1) := by decide +kernel
theorem dX10_duplicateTotal_1 : decode cX10_duplicateTotal 1 = .ok (.getfield 10, 3) := by decide +kernel
theorem dX10_duplicateTotal_4 : decode cX10_duplicateTotal 4 = .ok (.getfield 248, 3) := by decide +kernel
theorem dX10_duplicateTotal_7 : decode cX10_duplicateTotal 7 = .ok (.getfield 263, 3) := by decide +kernel
theorem dX10_duplicateTotal_10 : decode cX10_duplicateTotal 10 = .ok (.ireturn, 1) := by decide +kernel
theorem dX10_failedTotal_0 : decode cX10_failedTotal 0 = .ok (.aload_n 0, 1) := by decide +kernel
theorem dX10_failedTotal_1 : decode cX10_failedTotal 1 = .ok (.getfield 10, 3) := by decide +kernel
theorem dX10_failedTotal_4 : decode cX10_failedTotal 4 = .ok (.getfield 248, 3) := by decide +kernel
theorem dX10_failedTotal_7 : decode cX10_failedTotal 7 = .ok (.getfield 266, 3) := by decide +kernel
theorem dX10_failedTotal_10 : decode cX10_failedTotal 10 = .ok (.ireturn, 1) := by decide +kernel
theorem dX10_arrivalTotal_0 : decode cX10_arrivalTotal 0 = .ok (.aload_n 0, 1) := by decide +kernel
theorem dX10_arrivalTotal_1 : decode cX10_arrivalTotal 1 = .ok (.getfield 10, 3) := by decide +kernel
theorem dX10_arrivalTotal_4 : decode cX10_arrivalTotal 4 = .ok (.getfield 248, 3) := by decide +kernel
theorem dX10_arrivalTotal_7 : decode cX10_arrivalTotal 7 = .ok (.getfield 269, 3) := by decide +kernel
theorem dX10_arrivalTotal_10 : decode cX10_arrivalTotal 10 = .ok (.ireturn, 1) := by decide +kernel
theorem dX10_messageCountByTotals_0 : decode cX10_messageCountByTotals 0 = .ok (.aload_n 0, 1) := by decide +kernel
theorem dX10_messageCountByTotals_1 : decode cX10_messageCountByTotals 1 = .ok (.getfield 10, 3) := by decide +kernel
theorem dX10_messageCountByTotals_4 : decode cX10_messageCountByTotals 4 = .ok (.getfield 248, 3) := by decide +kernel
theorem dX10_messageCountByTotals_7 : decode cX10_messageCountByTotals 7 = .ok (.invokevirtual 272, 3) := by decide +kernel
theorem dX10_messageCountByTotals_10 : decode cX10_messageCountByTotals 10 = .ok (.ireturn, 1) := by decide +kernel
theorem dX10_meanAttempts_0 : decode cX10_meanAttempts 0 = .ok (.aload_n 0, 1) := by decide +kernel
theorem dX10_meanAttempts_1 : decode cX10_meanAttempts 1 = .ok (.getfield 10, 3) := by decide +kernel
theorem dX10_meanAttempts_4 : decode cX10_meanAttempts 4 = .ok (.getfield 183, 3) := by decide +kernel
theorem dX10_meanAttempts_7 : decode cX10_meanAttempts 7 = .ok (.ifCond .ne 14, 3) := by decide +kernel
theorem dX10_meanAttempts_10 : decode cX10_meanAttempts 10 = .ok (.new 275, 3) := by decide +kernel
theorem dX10_meanAttempts_13 : decode cX10_meanAttempts 13 = .ok (.dup, 1) := by decide +kernel
theorem dX10_meanAttempts_14 : decode cX10_meanAttempts 14 = .ok (.ldc_w 277, 3) := by decide +kernel
theorem dX10_meanAttempts_17 : decode cX10_meanAttempts 17 = .ok (.invokespecial 279, 3) := by decide +kernel
theorem dX10_meanAttempts_20 : decode cX10_meanAttempts 20 = .ok (.athrow, 1) := by decide +kernel
theorem dX10_meanAttempts_21 : decode cX10_meanAttempts 21 = .ok (.aload_n 0, 1) := by decide +kernel
theorem dX10_meanAttempts_22 : decode cX10_meanAttempts 22 = .ok (.invokevirtual 280, 3) := by decide +kernel
theorem dX10_meanAttempts_25 : decode cX10_meanAttempts 25 = .ok (.dreturn, 1) := by decide +kernel
theorem dX10_meanAttemptsBits_0 : decode cX10_meanAttemptsBits 0 = .ok (.aload_n 0, 1) := by decide +kernel
theorem dX10_meanAttemptsBits_1 : decode cX10_meanAttemptsBits 1 = .ok (.getfield 10, 3) := by decide +kernel
theorem dX10_meanAttemptsBits_4 : decode cX10_meanAttemptsBits 4 = .ok (.getfield 183, 3) := by decide +kernel
theorem dX10_meanAttemptsBits_7 : decode cX10_meanAttemptsBits 7 = .ok (.ifCond .ne 14, 3) := by decide +kernel
theorem dX10_meanAttemptsBits_10 : decode cX10_meanAttemptsBits 10 = .ok (.new 275, 3) := by decide +kernel
theorem dX10_meanAttemptsBits_13 : decode cX10_meanAttemptsBits 13 = .ok (.dup, 1) := by decide +kernel
theorem dX10_meanAttemptsBits_14 : decode cX10_meanAttemptsBits 14 = .ok (.ldc_w 277, 3) := by decide +kernel
theorem dX10_meanAttemptsBits_17 : decode cX10_meanAttemptsBits 17 = .ok (.invokespecial 279, 3) := by decide +kernel
theorem dX10_meanAttemptsBits_20 : decode cX10_meanAttemptsBits 20 = .ok (.athrow, 1) := by decide +kernel
theorem dX10_meanAttemptsBits_21 : decode cX10_meanAttemptsBits 21 = .ok (.aload_n 0, 1) := by decide +kernel
theorem dX10_meanAttemptsBits_22 : decode cX10_meanAttemptsBits 22 = .ok (.invokevirtual 280, 3) := by decide +kernel
theorem dX10_meanAttemptsBits_25 : decode cX10_meanAttemptsBits 25 = .ok (.bipush 52, 2) := by decide +kernel
theorem dX10_meanAttemptsBits_27 : decode cX10_meanAttemptsBits 27 = .ok (.sipush 1023, 3) := by decide +kernel
theorem dX10_meanAttemptsBits_30 : decode cX10_meanAttemptsBits 30 = .ok (.invokestatic 284, 3) := by decide +kernel
theorem dX10_meanAttemptsBits_33 : decode cX10_meanAttemptsBits 33 = .ok (.lreturn, 1) := by decide +kernel
theorem dX10_deliveryRate_0 : decode cX10_deliveryRate 0 = .ok (.aload_n 0, 1) := by decide +kernel
theorem dX10_deliveryRate_1 : decode cX10_deliveryRate 1 = .ok (.getfield 10, 3) := by decide +kernel
theorem dX10_deliveryRate_4 : decode cX10_deliveryRate 4 = .ok (.getfield 248, 3) := by decide +kernel
theorem dX10_deliveryRate_7 : decode cX10_deliveryRate 7 = .ok (.getfield 269, 3) := by decide +kernel
theorem dX10_deliveryRate_10 : decode cX10_deliveryRate 10 = .ok (.ifCond .ne 14, 3) := by decide +kernel
theorem dX10_deliveryRate_13 : decode cX10_deliveryRate 13 = .ok (.new 275, 3) := by decide +kernel
theorem dX10_deliveryRate_16 : decode cX10_deliveryRate 16 = .ok (.dup, 1) := by decide +kernel
theorem dX10_deliveryRate_17 : decode cX10_deliveryRate 17 = .ok (.ldc_w 288, 3) := by decide +kernel
theorem dX10_deliveryRate_20 : decode cX10_deliveryRate 20 = .ok (.invokespecial 279, 3) := by decide +kernel
theorem dX10_deliveryRate_23 : decode cX10_deliveryRate 23 = .ok (.athrow, 1) := by decide +kernel
theorem dX10_deliveryRate_24 : decode cX10_deliveryRate 24 = .ok (.aload_n 0, 1) := by decide +kernel
theorem dX10_deliveryRate_25 : decode cX10_deliveryRate 25 = .ok (.invokevirtual 290, 3) := by decide +kernel
theorem dX10_deliveryRate_28 : decode cX10_deliveryRate 28 = .ok (.freturn, 1) := by decide +kernel
theorem dX10_deliveryRateBits_0 : decode cX10_deliveryRateBits 0 = .ok (.aload_n 0, 1) := by decide +kernel
theorem dX10_deliveryRateBits_1 : decode cX10_deliveryRateBits 1 = .ok (.getfield 10, 3) := by decide +kernel
theorem dX10_deliveryRateBits_4 : decode cX10_deliveryRateBits 4 = .ok (.getfield 248, 3) := by decide +kernel
theorem dX10_deliveryRateBits_7 : decode cX10_deliveryRateBits 7 = .ok (.getfield 269, 3) := by decide +kernel
theorem dX10_deliveryRateBits_10 : decode cX10_deliveryRateBits 10 = .ok (.ifCond .ne 14, 3) := by decide +kernel
theorem dX10_deliveryRateBits_13 : decode cX10_deliveryRateBits 13 = .ok (.new 275, 3) := by decide +kernel
theorem dX10_deliveryRateBits_16 : decode cX10_deliveryRateBits 16 = .ok (.dup, 1) := by decide +kernel
theorem dX10_deliveryRateBits_17 : decode cX10_deliveryRateBits 17 = .ok (.ldc_w 288, 3) := by decide +kernel
theorem dX10_deliveryRateBits_20 : decode cX10_deliveryRateBits 20 = .ok (.invokespecial 279, 3) := by decide +kernel
theorem dX10_deliveryRateBits_23 : decode cX10_deliveryRateBits 23 = .ok (.athrow, 1) := by decide +kernel
theorem dX10_deliveryRateBits_24 : decode cX10_deliveryRateBits 24 = .ok (.aload_n 0, 1) := by decide +kernel
theorem dX10_deliveryRateBits_25 : decode cX10_deliveryRateBits 25 = .ok (.invokevirtual 290, 3) := by decide +kernel
theorem dX10_deliveryRateBits_28 : decode cX10_deliveryRateBits 28 = .ok (.f2d, 1) := by decide +kernel
theorem dX10_deliveryRateBits_29 : decode cX10_deliveryRateBits 29 = .ok (.bipush 23, 2) := by decide +kernel
theorem dX10_deliveryRateBits_31 : decode cX10_deliveryRateBits 31 = .ok (.bipush 127, 2) := by decide +kernel
theorem dX10_deliveryRateBits_33 : decode cX10_deliveryRateBits 33 = .ok (.invokestatic 284, 3) := by decide +kernel
theorem dX10_deliveryRateBits_36 : decode cX10_deliveryRateBits 36 = .ok (.l2i, 1) := by decide +kernel
theorem dX10_deliveryRateBits_37 : decode cX10_deliveryRateBits 37 = .ok (.ireturn, 1) := by decide +kernel
theorem dX10_isConsistent_0 : decode cX10_isConsistent 0 = .ok (.invokestatic 294, 3) := by decide +kernel
theorem dX10_isConsistent_3 : decode cX10_isConsistent 3 = .ok (.ifCond .eq 65, 3) := by decide +kernel
theorem dX10_isConsistent_6 : decode cX10_isConsistent 6 = .ok (.aload_n 0, 1) := by decide +kernel
theorem dX10_isConsistent_7 : decode cX10_isConsistent 7 = .ok (.getfield 10, 3) := by decide +kernel
theorem dX10_isConsistent_10 : decode cX10_isConsistent 10 = .ok (.getfield 183, 3) := by decide +kernel
theorem dX10_isConsistent_13 : decode cX10_isConsistent 13 = .ok (.aload_n 0, 1) := by decide +kernel
theorem dX10_isConsistent_14 : decode cX10_isConsistent 14 = .ok (.getfield 10, 3) := by decide +kernel
theorem dX10_isConsistent_17 : decode cX10_isConsistent 17 = .ok (.getfield 248, 3) := by decide +kernel
theorem dX10_isConsistent_20 : decode cX10_isConsistent 20 = .ok (.invokevirtual 272, 3) := by decide +kernel
theorem dX10_isConsistent_23 : decode cX10_isConsistent 23 = .ok (.if_icmp .ne 45, 3) := by decide +kernel
theorem dX10_isConsistent_26 : decode cX10_isConsistent 26 = .ok (.aload_n 0, 1) := by decide +kernel
theorem dX10_isConsistent_27 : decode cX10_isConsistent 27 = .ok (.getfield 10, 3) := by decide +kernel
theorem dX10_isConsistent_30 : decode cX10_isConsistent 30 = .ok (.bipush 102, 2) := by decide +kernel
theorem dX10_isConsistent_32 : decode cX10_isConsistent 32 = .ok (.invokevirtual 298, 3) := by decide +kernel
theorem dX10_isConsistent_35 : decode cX10_isConsistent 35 = .ok (.aload_n 0, 1) := by decide +kernel
theorem dX10_isConsistent_36 : decode cX10_isConsistent 36 = .ok (.getfield 10, 3) := by decide +kernel
theorem dX10_isConsistent_39 : decode cX10_isConsistent 39 = .ok (.invokevirtual 302, 3) := by decide +kernel
theorem dX10_isConsistent_42 : decode cX10_isConsistent 42 = .ok (.if_icmp .ne 26, 3) := by decide +kernel
theorem dX10_isConsistent_45 : decode cX10_isConsistent 45 = .ok (.aload_n 0, 1) := by decide +kernel
theorem dX10_isConsistent_46 : decode cX10_isConsistent 46 = .ok (.getfield 10, 3) := by decide +kernel
theorem dX10_isConsistent_49 : decode cX10_isConsistent 49 = .ok (.bipush 100, 2) := by decide +kernel
theorem dX10_isConsistent_51 : decode cX10_isConsistent 51 = .ok (.invokevirtual 298, 3) := by decide +kernel
theorem dX10_isConsistent_54 : decode cX10_isConsistent 54 = .ok (.aload_n 0, 1) := by decide +kernel
theorem dX10_isConsistent_55 : decode cX10_isConsistent 55 = .ok (.getfield 10, 3) := by decide +kernel
theorem dX10_isConsistent_58 : decode cX10_isConsistent 58 = .ok (.invokevirtual 305, 3) := by decide +kernel
theorem dX10_isConsistent_61 : decode cX10_isConsistent 61 = .ok (.if_icmp .ne 7, 3) := by decide +kernel
theorem dX10_isConsistent_64 : decode cX10_isConsistent 64 = .ok (.iconst 1, 1) := by decide +kernel
theorem dX10_isConsistent_65 : decode cX10_isConsistent 65 = .ok (.goto 4, 3) := by decide +kernel
theorem dX10_isConsistent_68 : decode cX10_isConsistent 68 = .ok (.iconst 0, 1) := by decide +kernel
theorem dX10_isConsistent_69 : decode cX10_isConsistent 69 = .ok (.ireturn, 1) := by decide +kernel
theorem dX10_meanOfAttempts_0 : decode cX10_meanOfAttempts 0 = .ok (.aload_n 0, 1) := by decide +kernel
theorem dX10_meanOfAttempts_1 : decode cX10_meanOfAttempts 1 = .ok (.getfield 10, 3) := by decide +kernel
theorem dX10_meanOfAttempts_4 : decode cX10_meanOfAttempts 4 = .ok (.invokevirtual 308, 3) := by decide +kernel
theorem dX10_meanOfAttempts_7 : decode cX10_meanOfAttempts 7 = .ok (.i2d, 1) := by decide +kernel
theorem dX10_meanOfAttempts_8 : decode cX10_meanOfAttempts 8 = .ok (.aload_n 0, 1) := by decide +kernel
theorem dX10_meanOfAttempts_9 : decode cX10_meanOfAttempts 9 = .ok (.getfield 10, 3) := by decide +kernel
theorem dX10_meanOfAttempts_12 : decode cX10_meanOfAttempts 12 = .ok (.getfield 183, 3) := by decide +kernel
theorem dX10_meanOfAttempts_15 : decode cX10_meanOfAttempts 15 = .ok (.i2d, 1) := by decide +kernel
theorem dX10_meanOfAttempts_16 : decode cX10_meanOfAttempts 16 = .ok (.ddiv, 1) := by decide +kernel
theorem dX10_meanOfAttempts_17 : decode cX10_meanOfAttempts 17 = .ok (.dreturn, 1) := by decide +kernel
theorem dX10_rateOfDeliveries_0 : decode cX10_rateOfDeliveries 0 = .ok (.aload_n 0, 1) := by decide +kernel
theorem dX10_rateOfDeliveries_1 : decode cX10_rateOfDeliveries 1 = .ok (.getfield 10, 3) := by decide +kernel
theorem dX10_rateOfDeliveries_4 : decode cX10_rateOfDeliveries 4 = .ok (.getfield 248, 3) := by decide +kernel
theorem dX10_rateOfDeliveries_7 : decode cX10_rateOfDeliveries 7 = .ok (.getfield 257, 3) := by decide +kernel
theorem dX10_rateOfDeliveries_10 : decode cX10_rateOfDeliveries 10 = .ok (.i2f, 1) := by decide +kernel
theorem dX10_rateOfDeliveries_11 : decode cX10_rateOfDeliveries 11 = .ok (.aload_n 0, 1) := by decide +kernel
theorem dX10_rateOfDeliveries_12 : decode cX10_rateOfDeliveries 12 = .ok (.getfield 10, 3) := by decide +kernel
theorem dX10_rateOfDeliveries_15 : decode cX10_rateOfDeliveries 15 = .ok (.getfield 248, 3) := by decide +kernel
theorem dX10_rateOfDeliveries_18 : decode cX10_rateOfDeliveries 18 = .ok (.getfield 269, 3) := by decide +kernel
theorem dX10_rateOfDeliveries_21 : decode cX10_rateOfDeliveries 21 = .ok (.i2f, 1) := by decide +kernel
theorem dX10_rateOfDeliveries_22 : decode cX10_rateOfDeliveries 22 = .ok (.fdiv, 1) := by decide +kernel
theorem dX10_rateOfDeliveries_23 : decode cX10_rateOfDeliveries 23 = .ok (.freturn, 1) := by decide +kernel
theorem dX10_bitsOf_0 : decode cX10_bitsOf 0 = .ok (.dload_n 0, 1) := by decide +kernel
theorem dX10_bitsOf_1 : decode cX10_bitsOf 1 = .ok (.dconst 0, 1) := by decide +kernel
theorem dX10_bitsOf_2 : decode cX10_bitsOf 2 = .ok (.dcmp .g, 1) := by decide +kernel
theorem dX10_bitsOf_3 : decode cX10_bitsOf 3 = .ok (.ifCond .gt 5, 3) := by decide +kernel
theorem dX10_bitsOf_6 : decode cX10_bitsOf 6 = .ok (.lconst 0, 1) := by decide +kernel
theorem dX10_bitsOf_7 : decode cX10_bitsOf 7 = .ok (.lreturn, 1) := by decide +kernel
theorem dX10_bitsOf_8 : decode cX10_bitsOf 8 = .ok (.dload_n 0, 1) := by decide +kernel
theorem dX10_bitsOf_9 : decode cX10_bitsOf 9 = .ok (.dstore 4, 2) := by decide +kernel
theorem dX10_bitsOf_11 : decode cX10_bitsOf 11 = .ok (.iconst 0, 1) := by decide +kernel
theorem dX10_bitsOf_12 : decode cX10_bitsOf 12 = .ok (.istore 6, 2) := by decide +kernel
theorem dX10_bitsOf_14 : decode cX10_bitsOf 14 = .ok (.iconst 0, 1) := by decide +kernel
theorem dX10_bitsOf_15 : decode cX10_bitsOf 15 = .ok (.istore 7, 2) := by decide +kernel
theorem dX10_bitsOf_17 : decode cX10_bitsOf 17 = .ok (.iload 7, 2) := by decide +kernel
theorem dX10_bitsOf_19 : decode cX10_bitsOf 19 = .ok (.sipush 1100, 3) := by decide +kernel
theorem dX10_bitsOf_22 : decode cX10_bitsOf 22 = .ok (.if_icmp .ge 29, 3) := by decide +kernel
theorem dX10_bitsOf_25 : decode cX10_bitsOf 25 = .ok (.dload 4, 2) := by decide +kernel
theorem dX10_bitsOf_27 : decode cX10_bitsOf 27 = .ok (.ldc2_w 311, 3) := by decide +kernel
theorem dX10_bitsOf_30 : decode cX10_bitsOf 30 = .ok (.dcmp .l, 1) := by decide +kernel
theorem dX10_bitsOf_31 : decode cX10_bitsOf 31 = .ok (.ifCond .lt 20, 3) := by decide +kernel
theorem dX10_bitsOf_34 : decode cX10_bitsOf 34 = .ok (.dload 4, 2) := by decide +kernel
theorem dX10_bitsOf_36 : decode cX10_bitsOf 36 = .ok (.ldc2_w 311, 3) := by decide +kernel
theorem dX10_bitsOf_39 : decode cX10_bitsOf 39 = .ok (.ddiv, 1) := by decide +kernel
theorem dX10_bitsOf_40 : decode cX10_bitsOf 40 = .ok (.dstore 4, 2) := by decide +kernel
theorem dX10_bitsOf_42 : decode cX10_bitsOf 42 = .ok (.iinc 6 1, 3) := by decide +kernel
theorem dX10_bitsOf_45 : decode cX10_bitsOf 45 = .ok (.iinc 7 1, 3) := by decide +kernel
theorem dX10_bitsOf_48 : decode cX10_bitsOf 48 = .ok (.goto (-31), 3) := by decide +kernel
theorem dX10_bitsOf_51 : decode cX10_bitsOf 51 = .ok (.iconst 0, 1) := by decide +kernel
theorem dX10_bitsOf_52 : decode cX10_bitsOf 52 = .ok (.istore 7, 2) := by decide +kernel
theorem dX10_bitsOf_54 : decode cX10_bitsOf 54 = .ok (.iload 7, 2) := by decide +kernel
theorem dX10_bitsOf_56 : decode cX10_bitsOf 56 = .ok (.sipush 1100, 3) := by decide +kernel
theorem dX10_bitsOf_59 : decode cX10_bitsOf 59 = .ok (.if_icmp .ge 27, 3) := by decide +kernel
theorem dX10_bitsOf_62 : decode cX10_bitsOf 62 = .ok (.dload 4, 2) := by decide +kernel
theorem dX10_bitsOf_64 : decode cX10_bitsOf 64 = .ok (.dconst 1, 1) := by decide +kernel
theorem dX10_bitsOf_65 : decode cX10_bitsOf 65 = .ok (.dcmp .g, 1) := by decide +kernel
theorem dX10_bitsOf_66 : decode cX10_bitsOf 66 = .ok (.ifCond .ge 20, 3) := by decide +kernel
theorem dX10_bitsOf_69 : decode cX10_bitsOf 69 = .ok (.dload 4, 2) := by decide +kernel
theorem dX10_bitsOf_71 : decode cX10_bitsOf 71 = .ok (.ldc2_w 311, 3) := by decide +kernel
theorem dX10_bitsOf_74 : decode cX10_bitsOf 74 = .ok (.dmul, 1) := by decide +kernel
theorem dX10_bitsOf_75 : decode cX10_bitsOf 75 = .ok (.dstore 4, 2) := by decide +kernel
theorem dX10_bitsOf_77 : decode cX10_bitsOf 77 = .ok (.iinc 6 (-1), 3) := by decide +kernel
theorem dX10_bitsOf_80 : decode cX10_bitsOf 80 = .ok (.iinc 7 1, 3) := by decide +kernel
theorem dX10_bitsOf_83 : decode cX10_bitsOf 83 = .ok (.goto (-29), 3) := by decide +kernel
theorem dX10_bitsOf_86 : decode cX10_bitsOf 86 = .ok (.dload 4, 2) := by decide +kernel
theorem dX10_bitsOf_88 : decode cX10_bitsOf 88 = .ok (.dconst 1, 1) := by decide +kernel
theorem dX10_bitsOf_89 : decode cX10_bitsOf 89 = .ok (.dsub, 1) := by decide +kernel
theorem dX10_bitsOf_90 : decode cX10_bitsOf 90 = .ok (.lconst 1, 1) := by decide +kernel
theorem dX10_bitsOf_91 : decode cX10_bitsOf 91 = .ok (.iload_n 2, 1) := by decide +kernel
theorem dX10_bitsOf_92 : decode cX10_bitsOf 92 = .ok (.lshl, 1) := by decide +kernel
theorem dX10_bitsOf_93 : decode cX10_bitsOf 93 = .ok (.l2d, 1) := by decide +kernel
theorem dX10_bitsOf_94 : decode cX10_bitsOf 94 = .ok (.dmul, 1) := by decide +kernel
theorem dX10_bitsOf_95 : decode cX10_bitsOf 95 = .ok (.d2l, 1) := by decide +kernel
theorem dX10_bitsOf_96 : decode cX10_bitsOf 96 = .ok (.lstore 7, 2) := by decide +kernel
theorem dX10_bitsOf_98 : decode cX10_bitsOf 98 = .ok (.iload 6, 2) := by decide +kernel
theorem dX10_bitsOf_100 : decode cX10_bitsOf 100 = .ok (.iload_n 3, 1) := by decide +kernel
theorem dX10_bitsOf_101 : decode cX10_bitsOf 101 = .ok (.iadd, 1) := by decide +kernel
theorem dX10_bitsOf_102 : decode cX10_bitsOf 102 = .ok (.i2l, 1) := by decide +kernel
theorem dX10_bitsOf_103 : decode cX10_bitsOf 103 = .ok (.iload_n 2, 1) := by decide +kernel
theorem dX10_bitsOf_104 : decode cX10_bitsOf 104 = .ok (.lshl, 1) := by decide +kernel
theorem dX10_bitsOf_105 : decode cX10_bitsOf 105 = .ok (.lload 7, 2) := by decide +kernel
theorem dX10_bitsOf_107 : decode cX10_bitsOf 107 = .ok (.ladd, 1) := by decide +kernel
theorem dX10_bitsOf_108 : decode cX10_bitsOf 108 = .ok (.lreturn, 1) := by decide +kernel
theorem dX10_napLengthsAgree_0 : decode cX10_napLengthsAgree 0 = .ok (.iconst 0, 1) := by decide +kernel
theorem dX10_napLengthsAgree_1 : decode cX10_napLengthsAgree 1 = .ok (.istore_n 0, 1) := by decide +kernel
theorem dX10_napLengthsAgree_2 : decode cX10_napLengthsAgree 2 = .ok (.iload_n 0, 1) := by decide +kernel
theorem dX10_napLengthsAgree_3 : decode cX10_napLengthsAgree 3 = .ok (.bipush 40, 2) := by decide +kernel
theorem dX10_napLengthsAgree_5 : decode cX10_napLengthsAgree 5 = .ok (.if_icmp .gt 23, 3) := by decide +kernel
theorem dX10_napLengthsAgree_8 : decode cX10_napLengthsAgree 8 = .ok (.iload_n 0, 1) := by decide +kernel
theorem dX10_napLengthsAgree_9 : decode cX10_napLengthsAgree 9 = .ok (.invokestatic 228, 3) := by decide +kernel
theorem dX10_napLengthsAgree_12 : decode cX10_napLengthsAgree 12 = .ok (.iload_n 0, 1) := by decide +kernel
theorem dX10_napLengthsAgree_13 : decode cX10_napLengthsAgree 13 = .ok (.invokestatic 232, 3) := by decide +kernel
theorem dX10_napLengthsAgree_16 : decode cX10_napLengthsAgree 16 = .ok (.lcmp, 1) := by decide +kernel
theorem dX10_napLengthsAgree_17 : decode cX10_napLengthsAgree 17 = .ok (.ifCond .eq 5, 3) := by decide +kernel
theorem dX10_napLengthsAgree_20 : decode cX10_napLengthsAgree 20 = .ok (.iconst 0, 1) := by decide +kernel
theorem dX10_napLengthsAgree_21 : decode cX10_napLengthsAgree 21 = .ok (.ireturn, 1) := by decide +kernel
theorem dX10_napLengthsAgree_22 : decode cX10_napLengthsAgree 22 = .ok (.iinc 0 1, 3) := by decide +kernel
theorem dX10_napLengthsAgree_25 : decode cX10_napLengthsAgree 25 = .ok (.goto (-23), 3) := by decide +kernel
theorem dX10_napLengthsAgree_28 : decode cX10_napLengthsAgree 28 = .ok (.iconst 1, 1) := by decide +kernel
theorem dX10_napLengthsAgree_29 : decode cX10_napLengthsAgree 29 = .ok (.ireturn, 1) := by decide +kernel
theorem dX10_type_0 : decode cX10_type 0 = .ok (.iload_n 1, 1) := by decide +kernel
theorem dX10_type_1 : decode cX10_type 1 = .ok (.bipush 32, 2) := by decide +kernel
theorem dX10_type_3 : decode cX10_type 3 = .ok (.if_icmp .lt 9, 3) := by decide +kernel
theorem dX10_type_6 : decode cX10_type 6 = .ok (.iload_n 1, 1) := by decide +kernel
theorem dX10_type_7 : decode cX10_type 7 = .ok (.bipush 126, 2) := by decide +kernel
theorem dX10_type_9 : decode cX10_type 9 = .ok (.if_icmp .le 14, 3) := by decide +kernel
theorem dX10_type_12 : decode cX10_type 12 = .ok (.new 91, 3) := by decide +kernel
theorem dX10_type_15 : decode cX10_type 15 = .ok (.dup, 1) := by decide +kernel
theorem dX10_type_16 : decode cX10_type 16 = .ok (.ldc_w 337, 3) := by decide +kernel
theorem dX10_type_19 : decode cX10_type 19 = .ok (.invokespecial 95, 3) := by decide +kernel
theorem dX10_type_22 : decode cX10_type 22 = .ok (.athrow, 1) := by decide +kernel
theorem dX10_type_23 : decode cX10_type 23 = .ok (.aload_n 0, 1) := by decide +kernel
theorem dX10_type_24 : decode cX10_type 24 = .ok (.getfield 35, 3) := by decide +kernel
theorem dX10_type_27 : decode cX10_type 27 = .ok (.getfield 339, 3) := by decide +kernel
theorem dX10_type_30 : decode cX10_type 30 = .ok (.bipush 60, 2) := by decide +kernel
theorem dX10_type_32 : decode cX10_type 32 = .ok (.if_icmp .lt 14, 3) := by decide +kernel
theorem dX10_type_35 : decode cX10_type 35 = .ok (.new 98, 3) := by decide +kernel
theorem dX10_type_38 : decode cX10_type 38 = .ok (.dup, 1) := by decide +kernel
theorem dX10_type_39 : decode cX10_type 39 = .ok (.ldc_w 341, 3) := by decide +kernel
theorem dX10_type_42 : decode cX10_type 42 = .ok (.invokespecial 102, 3) := by decide +kernel
theorem dX10_type_45 : decode cX10_type 45 = .ok (.athrow, 1) := by decide +kernel
theorem dX10_type_46 : decode cX10_type 46 = .ok (.aload_n 0, 1) := by decide +kernel
theorem dX10_type_47 : decode cX10_type 47 = .ok (.getfield 35, 3) := by decide +kernel
theorem dX10_type_50 : decode cX10_type 50 = .ok (.iload_n 1, 1) := by decide +kernel
theorem dX10_type_51 : decode cX10_type 51 = .ok (.invokevirtual 343, 3) := by decide +kernel
theorem dX10_type_54 : decode cX10_type 54 = .ok (.ireturn, 1) := by decide +kernel
theorem dX10_runScript_0 : decode cX10_runScript 0 = .ok (.aload_n 0, 1) := by decide +kernel
theorem dX10_runScript_1 : decode cX10_runScript 1 = .ok (.getfield 35, 3) := by decide +kernel
theorem dX10_runScript_4 : decode cX10_runScript 4 = .ok (.invokevirtual 345, 3) := by decide +kernel
theorem dX10_runScript_7 : decode cX10_runScript 7 = .ok (.istore_n 1, 1) := by decide +kernel
theorem dX10_runScript_8 : decode cX10_runScript 8 = .ok (.aload_n 0, 1) := by decide +kernel
theorem dX10_runScript_9 : decode cX10_runScript 9 = .ok (.getfield 35, 3) := by decide +kernel
theorem dX10_runScript_12 : decode cX10_runScript 12 = .ok (.iconst 0, 1) := by decide +kernel
theorem dX10_runScript_13 : decode cX10_runScript 13 = .ok (.putfield 339, 3) := by decide +kernel
theorem dX10_runScript_16 : decode cX10_runScript 16 = .ok (.iload_n 1, 1) := by decide +kernel
theorem dX10_runScript_17 : decode cX10_runScript 17 = .ok (.ifCond .ne 25, 3) := by decide +kernel
theorem dX10_runScript_20 : decode cX10_runScript 20 = .ok (.aload_n 0, 1) := by decide +kernel
theorem dX10_runScript_21 : decode cX10_runScript 21 = .ok (.aload_n 0, 1) := by decide +kernel
theorem dX10_runScript_22 : decode cX10_runScript 22 = .ok (.getfield 35, 3) := by decide +kernel
theorem dX10_runScript_25 : decode cX10_runScript 25 = .ok (.getfield 348, 3) := by decide +kernel
theorem dX10_runScript_28 : decode cX10_runScript 28 = .ok (.putfield 50, 3) := by decide +kernel
theorem dX10_runScript_31 : decode cX10_runScript 31 = .ok (.new 91, 3) := by decide +kernel
theorem dX10_runScript_34 : decode cX10_runScript 34 = .ok (.dup, 1) := by decide +kernel
theorem dX10_runScript_35 : decode cX10_runScript 35 = .ok (.ldc_w 351, 3) := by decide +kernel
theorem dX10_runScript_38 : decode cX10_runScript 38 = .ok (.invokespecial 95, 3) := by decide +kernel
theorem dX10_runScript_41 : decode cX10_runScript 41 = .ok (.athrow, 1) := by decide +kernel
theorem dX10_runScript_42 : decode cX10_runScript 42 = .ok (.aload_n 0, 1) := by decide +kernel
theorem dX10_runScript_43 : decode cX10_runScript 43 = .ok (.getfield 16, 3) := by decide +kernel
theorem dX10_runScript_46 : decode cX10_runScript 46 = .ok (.aload_n 0, 1) := by decide +kernel
theorem dX10_runScript_47 : decode cX10_runScript 47 = .ok (.getfield 10, 3) := by decide +kernel
theorem dX10_runScript_50 : decode cX10_runScript 50 = .ok (.invokevirtual 57, 3) := by decide +kernel
theorem dX10_runScript_53 : decode cX10_runScript 53 = .ok (.iconst 0, 1) := by decide +kernel
theorem dX10_runScript_54 : decode cX10_runScript 54 = .ok (.istore_n 2, 1) := by decide +kernel
theorem dX10_runScript_55 : decode cX10_runScript 55 = .ok (.iload_n 2, 1) := by decide +kernel
theorem dX10_runScript_56 : decode cX10_runScript 56 = .ok (.aload_n 0, 1) := by decide +kernel
theorem dX10_runScript_57 : decode cX10_runScript 57 = .ok (.getfield 35, 3) := by decide +kernel
theorem dX10_runScript_60 : decode cX10_runScript 60 = .ok (.getfield 353, 3) := by decide +kernel
theorem dX10_runScript_63 : decode cX10_runScript 63 = .ok (.if_icmp .ge 55, 3) := by decide +kernel
theorem dX10_runScript_66 : decode cX10_runScript 66 = .ok (.aload_n 0, 1) := by decide +kernel
theorem dX10_runScript_67 : decode cX10_runScript 67 = .ok (.getfield 10, 3) := by decide +kernel
theorem dX10_runScript_70 : decode cX10_runScript 70 = .ok (.aload_n 0, 1) := by decide +kernel
theorem dX10_runScript_71 : decode cX10_runScript 71 = .ok (.getfield 35, 3) := by decide +kernel
theorem dX10_runScript_74 : decode cX10_runScript 74 = .ok (.getfield 356, 3) := by decide +kernel
theorem dX10_runScript_77 : decode cX10_runScript 77 = .ok (.iload_n 2, 1) := by decide +kernel
theorem dX10_runScript_78 : decode cX10_runScript 78 = .ok (.aaload, 1) := by decide +kernel
theorem dX10_runScript_79 : decode cX10_runScript 79 = .ok (.invokevirtual 360, 3) := by decide +kernel
theorem dX10_runScript_82 : decode cX10_runScript 82 = .ok (.ifCond .ge 30, 3) := by decide +kernel
theorem dX10_runScript_85 : decode cX10_runScript 85 = .ok (.aload_n 0, 1) := by decide +kernel
theorem dX10_runScript_86 : decode cX10_runScript 86 = .ok (.getfield 10, 3) := by decide +kernel
theorem dX10_runScript_89 : decode cX10_runScript 89 = .ok (.aload_n 0, 1) := by decide +kernel
theorem dX10_runScript_90 : decode cX10_runScript 90 = .ok (.getfield 16, 3) := by decide +kernel
theorem dX10_runScript_93 : decode cX10_runScript 93 = .ok (.invokevirtual 57, 3) := by decide +kernel
theorem dX10_runScript_96 : decode cX10_runScript 96 = .ok (.aload_n 0, 1) := by decide +kernel
theorem dX10_runScript_97 : decode cX10_runScript 97 = .ok (.iload_n 2, 1) := by decide +kernel
theorem dX10_runScript_98 : decode cX10_runScript 98 = .ok (.putfield 54, 3) := by decide +kernel
theorem dX10_runScript_101 : decode cX10_runScript 101 = .ok (.new 98, 3) := by decide +kernel
theorem dX10_runScript_104 : decode cX10_runScript 104 = .ok (.dup, 1) := by decide +kernel
theorem dX10_runScript_105 : decode cX10_runScript 105 = .ok (.ldc_w 364, 3) := by decide +kernel
theorem dX10_runScript_108 : decode cX10_runScript 108 = .ok (.invokespecial 102, 3) := by decide +kernel
theorem dX10_runScript_111 : decode cX10_runScript 111 = .ok (.athrow, 1) := by decide +kernel
theorem dX10_runScript_112 : decode cX10_runScript 112 = .ok (.iinc 2 1, 3) := by decide +kernel
theorem dX10_runScript_115 : decode cX10_runScript 115 = .ok (.goto (-60), 3) := by decide +kernel
theorem dX10_runScript_118 : decode cX10_runScript 118 = .ok (.aload_n 0, 1) := by decide +kernel
theorem dX10_runScript_119 : decode cX10_runScript 119 = .ok (.getfield 28, 3) := by decide +kernel
theorem dX10_runScript_122 : decode cX10_runScript 122 = .ok (.aload_n 0, 1) := by decide +kernel
theorem dX10_runScript_123 : decode cX10_runScript 123 = .ok (.getfield 16, 3) := by decide +kernel
theorem dX10_runScript_126 : decode cX10_runScript 126 = .ok (.invokevirtual 113, 3) := by decide +kernel
theorem dX10_runScript_129 : decode cX10_runScript 129 = .ok (.aload_n 0, 1) := by decide +kernel
theorem dX10_runScript_130 : decode cX10_runScript 130 = .ok (.getfield 35, 3) := by decide +kernel
theorem dX10_runScript_133 : decode cX10_runScript 133 = .ok (.getfield 353, 3) := by decide +kernel
theorem dX10_runScript_136 : decode cX10_runScript 136 = .ok (.ireturn, 1) := by decide +kernel
theorem dX10_undo_0 : decode cX10_undo 0 = .ok (.aload_n 0, 1) := by decide +kernel
theorem dX10_undo_1 : decode cX10_undo 1 = .ok (.getfield 28, 3) := by decide +kernel
theorem dX10_undo_4 : decode cX10_undo 4 = .ok (.getfield 370, 3) := by decide +kernel
theorem dX10_undo_7 : decode cX10_undo 7 = .ok (.ifCond .ne 14, 3) := by decide +kernel
theorem dX10_undo_10 : decode cX10_undo 10 = .ok (.new 108, 3) := by decide +kernel
theorem dX10_undo_13 : decode cX10_undo 13 = .ok (.dup, 1) := by decide +kernel
theorem dX10_undo_14 : decode cX10_undo 14 = .ok (.ldc_w 373, 3) := by decide +kernel
theorem dX10_undo_17 : decode cX10_undo 17 = .ok (.invokespecial 112, 3) := by decide +kernel
theorem dX10_undo_20 : decode cX10_undo 20 = .ok (.athrow, 1) := by decide +kernel
theorem dX10_undo_21 : decode cX10_undo 21 = .ok (.aload_n 0, 1) := by decide +kernel
theorem dX10_undo_22 : decode cX10_undo 22 = .ok (.getfield 28, 3) := by decide +kernel
theorem dX10_undo_25 : decode cX10_undo 25 = .ok (.aload_n 0, 1) := by decide +kernel
theorem dX10_undo_26 : decode cX10_undo 26 = .ok (.getfield 10, 3) := by decide +kernel
theorem dX10_undo_29 : decode cX10_undo 29 = .ok (.invokevirtual 375, 3) := by decide +kernel
theorem dX10_undo_32 : decode cX10_undo 32 = .ok (.aload_n 0, 1) := by decide +kernel
theorem dX10_undo_33 : decode cX10_undo 33 = .ok (.getfield 28, 3) := by decide +kernel
theorem dX10_undo_36 : decode cX10_undo 36 = .ok (.getfield 370, 3) := by decide +kernel
theorem dX10_undo_39 : decode cX10_undo 39 = .ok (.ireturn, 1) := by decide +kernel
theorem dX10_save_0 : decode cX10_save 0 = .ok (.aload_n 0, 1) := by decide +kernel
theorem dX10_save_1 : decode cX10_save 1 = .ok (.getfield 22, 3) := by decide +kernel
theorem dX10_save_4 : decode cX10_save 4 = .ok (.aload_n 0, 1) := by decide +kernel
theorem dX10_save_5 : decode cX10_save 5 = .ok (.getfield 10, 3) := by decide +kernel
theorem dX10_save_8 : decode cX10_save 8 = .ok (.invokevirtual 57, 3) := by decide +kernel
theorem dX10_save_11 : decode cX10_save 11 = .ok (.aload_n 0, 1) := by decide +kernel
theorem dX10_save_12 : decode cX10_save 12 = .ok (.iconst 1, 1) := by decide +kernel
theorem dX10_save_13 : decode cX10_save 13 = .ok (.putfield 46, 3) := by decide +kernel
theorem dX10_save_16 : decode cX10_save 16 = .ok (.aload_n 0, 1) := by decide +kernel
theorem dX10_save_17 : decode cX10_save 17 = .ok (.getfield 10, 3) := by decide +kernel
theorem dX10_save_20 : decode cX10_save 20 = .ok (.getfield 183, 3) := by decide +kernel
theorem dX10_save_23 : decode cX10_save 23 = .ok (.ireturn, 1) := by decide +kernel
theorem dX10_restore_0 : decode cX10_restore 0 = .ok (.aload_n 0, 1) := by decide +kernel
theorem dX10_restore_1 : decode cX10_restore 1 = .ok (.getfield 46, 3) := by decide +kernel
theorem dX10_restore_4 : decode cX10_restore 4 = .ok (.ifCond .ne 14, 3) := by decide +kernel
theorem dX10_restore_7 : decode cX10_restore 7 = .ok (.new 98, 3) := by decide +kernel
theorem dX10_restore_10 : decode cX10_restore 10 = .ok (.dup, 1) := by decide +kernel
theorem dX10_restore_11 : decode cX10_restore 11 = .ok (.ldc_w 378, 3) := by decide +kernel
theorem dX10_restore_14 : decode cX10_restore 14 = .ok (.invokespecial 102, 3) := by decide +kernel
theorem dX10_restore_17 : decode cX10_restore 17 = .ok (.athrow, 1) := by decide +kernel
theorem dX10_restore_18 : decode cX10_restore 18 = .ok (.aload_n 0, 1) := by decide +kernel
theorem dX10_restore_19 : decode cX10_restore 19 = .ok (.getfield 10, 3) := by decide +kernel
theorem dX10_restore_22 : decode cX10_restore 22 = .ok (.aload_n 0, 1) := by decide +kernel
theorem dX10_restore_23 : decode cX10_restore 23 = .ok (.getfield 22, 3) := by decide +kernel
theorem dX10_restore_26 : decode cX10_restore 26 = .ok (.invokevirtual 57, 3) := by decide +kernel
theorem dX10_restore_29 : decode cX10_restore 29 = .ok (.aload_n 0, 1) := by decide +kernel
theorem dX10_restore_30 : decode cX10_restore 30 = .ok (.getfield 28, 3) := by decide +kernel
theorem dX10_restore_33 : decode cX10_restore 33 = .ok (.iconst 0, 1) := by decide +kernel
theorem dX10_restore_34 : decode cX10_restore 34 = .ok (.putfield 370, 3) := by decide +kernel
theorem dX10_restore_37 : decode cX10_restore 37 = .ok (.aload_n 0, 1) := by decide +kernel
theorem dX10_restore_38 : decode cX10_restore 38 = .ok (.getfield 10, 3) := by decide +kernel
theorem dX10_restore_41 : decode cX10_restore 41 = .ok (.getfield 183, 3) := by decide +kernel
theorem dX10_restore_44 : decode cX10_restore 44 = .ok (.ireturn, 1) := by decide +kernel
end
section
theorem dJ5_init_d00df_0 : decode cJ5_init_d00df 0 = .ok (.aload_n 0, 1) := by decide +kernel
theorem dJ5_init_d00df_1 : decode cJ5_init_d00df 1 = .ok (.invokespecial 3, 3) := by decide +kernel
theorem dJ5_init_d00df_4 : decode cJ5_init_d00df 4 = .ok (.getstatic 18, 3) := by decide +kernel
theorem dJ5_init_d00df_7 : decode cJ5_init_d00df 7 = .ok (.ifCond .eq 18, 3) := by decide +kernel
theorem dJ5_init_d00df_10 : decode cJ5_init_d00df 10 = .ok (.aload_n 0, 1) := by decide +kernel
theorem dJ5_init_d00df_11 : decode cJ5_init_d00df 11 = .ok (.iload_n 1, 1) := by decide +kernel
theorem dJ5_init_d00df_12 : decode cJ5_init_d00df 12 = .ok (.newarray .byte, 2) := by decide +kernel
theorem dJ5_init_d00df_14 : decode cJ5_init_d00df 14 = .ok (.putfield 15, 3) := by decide +kernel
theorem dJ5_init_d00df_17 : decode cJ5_init_d00df 17 = .ok (.aload_n 0, 1) := by decide +kernel
theorem dJ5_init_d00df_18 : decode cJ5_init_d00df 18 = .ok (.iconst 0, 1) := by decide +kernel
theorem dJ5_init_d00df_19 : decode cJ5_init_d00df 19 = .ok (.putfield 22, 3) := by decide +kernel
theorem dJ5_init_d00df_22 : decode cJ5_init_d00df 22 = .ok (.goto 16, 3) := by decide +kernel
theorem dJ5_init_d00df_25 : decode cJ5_init_d00df 25 = .ok (.aload_n 0, 1) := by decide +kernel
theorem dJ5_init_d00df_26 : decode cJ5_init_d00df 26 = .ok (.iload_n 1, 1) := by decide +kernel
theorem dJ5_init_d00df_27 : decode cJ5_init_d00df 27 = .ok (.invokestatic 26, 3) := by decide +kernel
theorem dJ5_init_d00df_30 : decode cJ5_init_d00df 30 = .ok (.putfield 15, 3) := by decide +kernel
theorem dJ5_init_d00df_33 : decode cJ5_init_d00df 33 = .ok (.aload_n 0, 1) := by decide +kernel
theorem dJ5_init_d00df_34 : decode cJ5_init_d00df 34 = .ok (.iconst 1, 1) := by decide +kernel
theorem dJ5_init_d00df_35 : decode cJ5_init_d00df 35 = .ok (.putfield 22, 3) := by decide +kernel
theorem dJ5_init_d00df_38 : decode cJ5_init_d00df 38 = .ok (.return_, 1) := by decide +kernel
theorem dJ5_length_8abf5_0 : decode cJ5_length_8abf5 0 = .ok (.aload_n 0, 1) := by decide +kernel
theorem dJ5_length_8abf5_1 : decode cJ5_length_8abf5 1 = .ok (.getfield 79, 3) := by decide +kernel
theorem dJ5_length_8abf5_4 : decode cJ5_length_8abf5 4 = .ok (.ireturn, 1) := by decide +kernel
theorem dJ5_ensureCapacityInternal_d00df_0 : decode cJ5_ensureCapacityInternal_d00df 0 = .ok (.aload_n 0, 1) := by decide +kernel
theorem dJ5_ensureCapacityInternal_d00df_1 : decode cJ5_ensureCapacityInternal_d00df 1 = .ok (.getfield 15, 3) := by decide +kernel
theorem dJ5_ensureCapacityInternal_d00df_4 : decode cJ5_ensureCapacityInternal_d00df 4 = .ok (.arraylength, 1) := by decide +kernel
theorem dJ5_ensureCapacityInternal_d00df_5 : decode cJ5_ensureCapacityInternal_d00df 5 = .ok (.aload_n 0, 1) := by decide +kernel
theorem dJ5_ensureCapacityInternal_d00df_6 : decode cJ5_ensureCapacityInternal_d00df 6 = .ok (.getfield 22, 3) := by decide +kernel
theorem dJ5_ensureCapacityInternal_d00df_9 : decode cJ5_ensureCapacityInternal_d00df 9 = .ok (.ishr, 1) := by decide +kernel
theorem dJ5_ensureCapacityInternal_d00df_10 : decode cJ5_ensureCapacityInternal_d00df 10 = .ok (.istore_n 2, 1) := by decide +kernel
theorem dJ5_ensureCapacityInternal_d00df_11 : decode cJ5_ensureCapacityInternal_d00df 11 = .ok (.iload_n 1, 1) := by decide +kernel
theorem dJ5_ensureCapacityInternal_d00df_12 : decode cJ5_ensureCapacityInternal_d00df 12 = .ok (.iload_n 2, 1) := by decide +kernel
theorem dJ5_ensureCapacityInternal_d00df_13 : decode cJ5_ensureCapacityInternal_d00df 13 = .ok (.isub, 1) := by decide +kernel
theorem dJ5_ensureCapacityInternal_d00df_14 : decode cJ5_ensureCapacityInternal_d00df 14 = .ok (.ifCond .le 24, 3) := by decide +kernel
theorem dJ5_ensureCapacityInternal_d00df_17 : decode cJ5_ensureCapacityInternal_d00df 17 = .ok (.aload_n 0, 1) := by decide +kernel
theorem dJ5_ensureCapacityInternal_d00df_18 : decode cJ5_ensureCapacityInternal_d00df 18 = .ok (.aload_n 0, 1) := by decide +kernel
theorem dJ5_ensureCapacityInternal_d00df_19 : decode cJ5_ensureCapacityInternal_d00df 19 = .ok (.getfield 15, 3) := by decide +kernel
theorem dJ5_ensureCapacityInternal_d00df_22 : decode cJ5_ensureCapacityInternal_d00df 22 = .ok (.aload_n 0, 1) := by decide +kernel
theorem dJ5_ensureCapacityInternal_d00df_23 : decode cJ5_ensureCapacityInternal_d00df 23 = .ok (.iload_n 1, 1) := by decide +kernel
theorem dJ5_ensureCapacityInternal_d00df_24 : decode cJ5_ensureCapacityInternal_d00df 24 = .ok (.invokevirtual 104, 3) := by decide +kernel
theorem dJ5_ensureCapacityInternal_d00df_27 : decode cJ5_ensureCapacityInternal_d00df 27 = .ok (.aload_n 0, 1) := by decide +kernel
theorem dJ5_ensureCapacityInternal_d00df_28 : decode cJ5_ensureCapacityInternal_d00df 28 = .ok (.getfield 22, 3) := by decide +kernel
theorem dJ5_ensureCapacityInternal_d00df_31 : decode cJ5_ensureCapacityInternal_d00df 31 = .ok (.ishl, 1) := by decide +kernel
theorem dJ5_ensureCapacityInternal_d00df_32 : decode cJ5_ensureCapacityInternal_d00df 32 = .ok (.invokestatic 108, 3) := by decide +kernel
theorem dJ5_ensureCapacityInternal_d00df_35 : decode cJ5_ensureCapacityInternal_d00df 35 = .ok (.putfield 15, 3) := by decide +kernel
theorem dJ5_ensureCapacityInternal_d00df_38 : decode cJ5_ensureCapacityInternal_d00df 38 = .ok (.return_, 1) := by decide +kernel
theorem dJ5_newCapacity_0f7a4_0 : decode cJ5_newCapacity_0f7a4 0 = .ok (.aload_n 0, 1) := by decide +kernel
theorem dJ5_newCapacity_0f7a4_1 : decode cJ5_newCapacity_0f7a4 1 = .ok (.getfield 15, 3) := by decide +kernel
theorem dJ5_newCapacity_0f7a4_4 : decode cJ5_newCapacity_0f7a4 4 = .ok (.arraylength, 1) := by decide +kernel
theorem dJ5_newCapacity_0f7a4_5 : decode cJ5_newCapacity_0f7a4 5 = .ok (.istore_n 2, 1) := by decide +kernel
theorem dJ5_newCapacity_0f7a4_6 : decode cJ5_newCapacity_0f7a4 6 = .ok (.iload_n 1, 1) := by decide +kernel
theorem dJ5_newCapacity_0f7a4_7 : decode cJ5_newCapacity_0f7a4 7 = .ok (.aload_n 0, 1) := by decide +kernel
theorem dJ5_newCapacity_0f7a4_8 : decode cJ5_newCapacity_0f7a4 8 = .ok (.getfield 22, 3) := by decide +kernel
theorem dJ5_newCapacity_0f7a4_11 : decode cJ5_newCapacity_0f7a4 11 = .ok (.ishl, 1) := by decide +kernel
theorem dJ5_newCapacity_0f7a4_12 : decode cJ5_newCapacity_0f7a4 12 = .ok (.istore_n 3, 1) := by decide +kernel
theorem dJ5_newCapacity_0f7a4_13 : decode cJ5_newCapacity_0f7a4 13 = .ok (.iload_n 3, 1) := by decide +kernel
theorem dJ5_newCapacity_0f7a4_14 : decode cJ5_newCapacity_0f7a4 14 = .ok (.iload_n 2, 1) := by decide +kernel
theorem dJ5_newCapacity_0f7a4_15 : decode cJ5_newCapacity_0f7a4 15 = .ok (.isub, 1) := by decide +kernel
theorem dJ5_newCapacity_0f7a4_16 : decode cJ5_newCapacity_0f7a4 16 = .ok (.istore 4, 2) := by decide +kernel
theorem dJ5_newCapacity_0f7a4_18 : decode cJ5_newCapacity_0f7a4 18 = .ok (.iload_n 2, 1) := by decide +kernel
theorem dJ5_newCapacity_0f7a4_19 : decode cJ5_newCapacity_0f7a4 19 = .ok (.iload 4, 2) := by decide +kernel
theorem dJ5_newCapacity_0f7a4_21 : decode cJ5_newCapacity_0f7a4 21 = .ok (.iload_n 2, 1) := by decide +kernel
theorem dJ5_newCapacity_0f7a4_22 : decode cJ5_newCapacity_0f7a4 22 = .ok (.iconst 2, 1) := by decide +kernel
theorem dJ5_newCapacity_0f7a4_23 : decode cJ5_newCapacity_0f7a4 23 = .ok (.aload_n 0, 1) := by decide +kernel
theorem dJ5_newCapacity_0f7a4_24 : decode cJ5_newCapacity_0f7a4 24 = .ok (.getfield 22, 3) := by decide +kernel
theorem dJ5_newCapacity_0f7a4_27 : decode cJ5_newCapacity_0f7a4 27 = .ok (.ishl, 1) := by decide +kernel
theorem dJ5_newCapacity_0f7a4_28 : decode cJ5_newCapacity_0f7a4 28 = .ok (.iadd, 1) := by decide +kernel
theorem dJ5_newCapacity_0f7a4_29 : decode cJ5_newCapacity_0f7a4 29 = .ok (.invokestatic 114, 3) := by decide +kernel
theorem dJ5_newCapacity_0f7a4_32 : decode cJ5_newCapacity_0f7a4 32 = .ok (.istore 5, 2) := by decide +kernel
theorem dJ5_newCapacity_0f7a4_34 : decode cJ5_newCapacity_0f7a4 34 = .ok (.iload 5, 2) := by decide +kernel
theorem dJ5_newCapacity_0f7a4_36 : decode cJ5_newCapacity_0f7a4 36 = .ok (.ldc 39, 2) := by decide +kernel
theorem dJ5_newCapacity_0f7a4_38 : decode cJ5_newCapacity_0f7a4 38 = .ok (.if_icmp .ne 13, 3) := by decide +kernel
theorem dJ5_newCapacity_0f7a4_41 : decode cJ5_newCapacity_0f7a4 41 = .ok (.new 120, 3) := by decide +kernel
theorem dJ5_newCapacity_0f7a4_44 : decode cJ5_newCapacity_0f7a4 44 = .ok (.dup, 1) := by decide +kernel
theorem dJ5_newCapacity_0f7a4_45 : decode cJ5_newCapacity_0f7a4 45 = .ok (.ldc 122, 2) := by decide +kernel
theorem dJ5_newCapacity_0f7a4_47 : decode cJ5_newCapacity_0f7a4 47 = .ok (.invokespecial 124, 3) := by decide +kernel
theorem dJ5_newCapacity_0f7a4_50 : decode cJ5_newCapacity_0f7a4 50 = .ok (.athrow, 1) := by decide +kernel
theorem dJ5_newCapacity_0f7a4_51 : decode cJ5_newCapacity_0f7a4 51 = .ok (.iload 5, 2) := by decide +kernel
theorem dJ5_newCapacity_0f7a4_53 : decode cJ5_newCapacity_0f7a4 53 = .ok (.aload_n 0, 1) := by decide +kernel
theorem dJ5_newCapacity_0f7a4_54 : decode cJ5_newCapacity_0f7a4 54 = .ok (.getfield 22, 3) := by decide +kernel
theorem dJ5_newCapacity_0f7a4_57 : decode cJ5_newCapacity_0f7a4 57 = .ok (.ishr, 1) := by decide +kernel
theorem dJ5_newCapacity_0f7a4_58 : decode cJ5_newCapacity_0f7a4 58 = .ok (.ireturn, 1) := by decide +kernel
theorem dJ5_inflate_da8c8_0 : decode cJ5_inflate_da8c8 0 = .ok (.aload_n 0, 1) := by decide +kernel
theorem dJ5_inflate_da8c8_1 : decode cJ5_inflate_da8c8 1 = .ok (.invokevirtual 83, 3) := by decide +kernel
theorem dJ5_inflate_da8c8_4 : decode cJ5_inflate_da8c8 4 = .ok (.ifCond .ne 4, 3) := by decide +kernel
theorem dJ5_inflate_da8c8_7 : decode cJ5_inflate_da8c8 7 = .ok (.return_, 1) := by decide +kernel
theorem dJ5_inflate_da8c8_8 : decode cJ5_inflate_da8c8 8 = .ok (.aload_n 0, 1) := by decide +kernel
theorem dJ5_inflate_da8c8_9 : decode cJ5_inflate_da8c8 9 = .ok (.getfield 15, 3) := by decide +kernel
theorem dJ5_inflate_da8c8_12 : decode cJ5_inflate_da8c8 12 = .ok (.arraylength, 1) := by decide +kernel
theorem dJ5_inflate_da8c8_13 : decode cJ5_inflate_da8c8 13 = .ok (.invokestatic 26, 3) := by decide +kernel
theorem dJ5_inflate_da8c8_16 : decode cJ5_inflate_da8c8 16 = .ok (.astore_n 1, 1) := by decide +kernel
theorem dJ5_inflate_da8c8_17 : decode cJ5_inflate_da8c8 17 = .ok (.aload_n 0, 1) := by decide +kernel
theorem dJ5_inflate_da8c8_18 : decode cJ5_inflate_da8c8 18 = .ok (.getfield 15, 3) := by decide +kernel
theorem dJ5_inflate_da8c8_21 : decode cJ5_inflate_da8c8 21 = .ok (.iconst 0, 1) := by decide +kernel
theorem dJ5_inflate_da8c8_22 : decode cJ5_inflate_da8c8 22 = .ok (.aload_n 1, 1) := by decide +kernel
theorem dJ5_inflate_da8c8_23 : decode cJ5_inflate_da8c8 23 = .ok (.iconst 0, 1) := by decide +kernel
theorem dJ5_inflate_da8c8_24 : decode cJ5_inflate_da8c8 24 = .ok (.aload_n 0, 1) := by decide +kernel
theorem dJ5_inflate_da8c8_25 : decode cJ5_inflate_da8c8 25 = .ok (.getfield 79, 3) := by decide +kernel
theorem dJ5_inflate_da8c8_28 : decode cJ5_inflate_da8c8 28 = .ok (.invokestatic 125, 3) := by decide +kernel
theorem dJ5_inflate_da8c8_31 : decode cJ5_inflate_da8c8 31 = .ok (.aload_n 0, 1) := by decide +kernel
theorem dJ5_inflate_da8c8_32 : decode cJ5_inflate_da8c8 32 = .ok (.aload_n 1, 1) := by decide +kernel
theorem dJ5_inflate_da8c8_33 : decode cJ5_inflate_da8c8 33 = .ok (.putfield 15, 3) := by decide +kernel
theorem dJ5_inflate_da8c8_36 : decode cJ5_inflate_da8c8 36 = .ok (.aload_n 0, 1) := by decide +kernel
theorem dJ5_inflate_da8c8_37 : decode cJ5_inflate_da8c8 37 = .ok (.iconst 1, 1) := by decide +kernel
theorem dJ5_inflate_da8c8_38 : decode cJ5_inflate_da8c8 38 = .ok (.putfield 22, 3) := by decide +kernel
theorem dJ5_inflate_da8c8_41 : decode cJ5_inflate_da8c8 41 = .ok (.return_, 1) := by decide +kernel
theorem dJ5_append_cf1ce_0 : decode cJ5_append_cf1ce 0 = .ok (.aload_n 1, 1) := by decide +kernel
theorem dJ5_append_cf1ce_1 : decode cJ5_append_cf1ce 1 = .ok (.ifnonnull 8, 3) := by decide +kernel
theorem dJ5_append_cf1ce_4 : decode cJ5_append_cf1ce 4 = .ok (.aload_n 0, 1) := by decide +kernel
theorem dJ5_append_cf1ce_5 : decode cJ5_append_cf1ce 5 = .ok (.invokevirtual 204, 3) := by decide +kernel
theorem dJ5_append_cf1ce_8 : decode cJ5_append_cf1ce 8 = .ok (.areturn, 1) := by decide +kernel
theorem dJ5_append_cf1ce_9 : decode cJ5_append_cf1ce 9 = .ok (.aload_n 1, 1) := by decide +kernel
theorem dJ5_append_cf1ce_10 : decode cJ5_append_cf1ce 10 = .ok (.invokevirtual 32, 3) := by decide +kernel
theorem dJ5_append_cf1ce_13 : decode cJ5_append_cf1ce 13 = .ok (.istore_n 2, 1) := by decide +kernel
theorem dJ5_append_cf1ce_14 : decode cJ5_append_cf1ce 14 = .ok (.aload_n 0, 1) := by decide +kernel
theorem dJ5_append_cf1ce_15 : decode cJ5_append_cf1ce 15 = .ok (.aload_n 0, 1) := by decide +kernel
theorem dJ5_append_cf1ce_16 : decode cJ5_append_cf1ce 16 = .ok (.getfield 79, 3) := by decide +kernel
theorem dJ5_append_cf1ce_19 : decode cJ5_append_cf1ce 19 = .ok (.iload_n 2, 1) := by decide +kernel
theorem dJ5_append_cf1ce_20 : decode cJ5_append_cf1ce 20 = .ok (.iadd, 1) := by decide +kernel
theorem dJ5_append_cf1ce_21 : decode cJ5_append_cf1ce 21 = .ok (.invokevirtual 100, 3) := by decide +kernel
theorem dJ5_append_cf1ce_24 : decode cJ5_append_cf1ce 24 = .ok (.aload_n 0, 1) := by decide +kernel
theorem dJ5_append_cf1ce_25 : decode cJ5_append_cf1ce 25 = .ok (.aload_n 0, 1) := by decide +kernel
theorem dJ5_append_cf1ce_26 : decode cJ5_append_cf1ce 26 = .ok (.getfield 79, 3) := by decide +kernel
theorem dJ5_append_cf1ce_29 : decode cJ5_append_cf1ce 29 = .ok (.aload_n 1, 1) := by decide +kernel
theorem dJ5_append_cf1ce_30 : decode cJ5_append_cf1ce 30 = .ok (.invokevirtual 208, 3) := by decide +kernel
theorem dJ5_append_cf1ce_33 : decode cJ5_append_cf1ce 33 = .ok (.aload_n 0, 1) := by decide +kernel
theorem dJ5_append_cf1ce_34 : decode cJ5_append_cf1ce 34 = .ok (.dup, 1) := by decide +kernel
theorem dJ5_append_cf1ce_35 : decode cJ5_append_cf1ce 35 = .ok (.getfield 79, 3) := by decide +kernel
theorem dJ5_append_cf1ce_38 : decode cJ5_append_cf1ce 38 = .ok (.iload_n 2, 1) := by decide +kernel
theorem dJ5_append_cf1ce_39 : decode cJ5_append_cf1ce 39 = .ok (.iadd, 1) := by decide +kernel
theorem dJ5_append_cf1ce_40 : decode cJ5_append_cf1ce 40 = .ok (.putfield 79, 3) := by decide +kernel
theorem dJ5_append_cf1ce_43 : decode cJ5_append_cf1ce 43 = .ok (.aload_n 0, 1) := by decide +kernel
theorem dJ5_append_cf1ce_44 : decode cJ5_append_cf1ce 44 = .ok (.areturn, 1) := by decide +kernel
theorem dJ5_appendNull_278bc_0 : decode cJ5_appendNull_278bc 0 = .ok (.aload_n 0, 1) := by decide +kernel
theorem dJ5_appendNull_278bc_1 : decode cJ5_appendNull_278bc 1 = .ok (.aload_n 0, 1) := by decide +kernel
theorem dJ5_appendNull_278bc_2 : decode cJ5_appendNull_278bc 2 = .ok (.getfield 79, 3) := by decide +kernel
theorem dJ5_appendNull_278bc_5 : decode cJ5_appendNull_278bc 5 = .ok (.iconst 4, 1) := by decide +kernel
theorem dJ5_appendNull_278bc_6 : decode cJ5_appendNull_278bc 6 = .ok (.iadd, 1) := by decide +kernel
theorem dJ5_appendNull_278bc_7 : decode cJ5_appendNull_278bc 7 = .ok (.invokevirtual 100, 3) := by decide +kernel
theorem dJ5_appendNull_278bc_10 : decode cJ5_appendNull_278bc 10 = .ok (.aload_n 0, 1) := by decide +kernel
theorem dJ5_appendNull_278bc_11 : decode cJ5_appendNull_278bc 11 = .ok (.getfield 79, 3) := by decide +kernel
theorem dJ5_appendNull_278bc_14 : decode cJ5_appendNull_278bc 14 = .ok (.istore_n 1, 1) := by decide +kernel
theorem dJ5_appendNull_278bc_15 : decode cJ5_appendNull_278bc 15 = .ok (.aload_n 0, 1) := by decide +kernel
theorem dJ5_appendNull_278bc_16 : decode cJ5_appendNull_278bc 16 = .ok (.getfield 15, 3) := by decide +kernel
theorem dJ5_appendNull_278bc_19 : decode cJ5_appendNull_278bc 19 = .ok (.astore_n 2, 1) := by decide +kernel
theorem dJ5_appendNull_278bc_20 : decode cJ5_appendNull_278bc 20 = .ok (.aload_n 0, 1) := by decide +kernel
theorem dJ5_appendNull_278bc_21 : decode cJ5_appendNull_278bc 21 = .ok (.invokevirtual 83, 3) := by decide +kernel
theorem dJ5_appendNull_278bc_24 : decode cJ5_appendNull_278bc 24 = .ok (.ifCond .eq 38, 3) := by decide +kernel
theorem dJ5_appendNull_278bc_27 : decode cJ5_appendNull_278bc 27 = .ok (.aload_n 2, 1) := by decide +kernel
theorem dJ5_appendNull_278bc_28 : decode cJ5_appendNull_278bc 28 = .ok (.iload_n 1, 1) := by decide +kernel
theorem dJ5_appendNull_278bc_29 : decode cJ5_appendNull_278bc 29 = .ok (.iinc 1 1, 3) := by decide +kernel
theorem dJ5_appendNull_278bc_32 : decode cJ5_appendNull_278bc 32 = .ok (.bipush 110, 2) := by decide +kernel
theorem dJ5_appendNull_278bc_34 : decode cJ5_appendNull_278bc 34 = .ok (.bastore, 1) := by decide +kernel
theorem dJ5_appendNull_278bc_35 : decode cJ5_appendNull_278bc 35 = .ok (.aload_n 2, 1) := by decide +kernel
theorem dJ5_appendNull_278bc_36 : decode cJ5_appendNull_278bc 36 = .ok (.iload_n 1, 1) := by decide +kernel
theorem dJ5_appendNull_278bc_37 : decode cJ5_appendNull_278bc 37 = .ok (.iinc 1 1, 3) := by decide +kernel
theorem dJ5_appendNull_278bc_40 : decode cJ5_appendNull_278bc 40 = .ok (.bipush 117, 2) := by decide +kernel
theorem dJ5_appendNull_278bc_42 : decode cJ5_appendNull_278bc 42 = .ok (.bastore, 1) := by decide +kernel
theorem dJ5_appendNull_278bc_43 : decode cJ5_appendNull_278bc 43 = .ok (.aload_n 2, 1) := by decide +kernel
theorem dJ5_appendNull_278bc_44 : decode cJ5_appendNull_278bc 44 = .ok (.iload_n 1, 1) := by decide +kernel
theorem dJ5_appendNull_278bc_45 : decode cJ5_appendNull_278bc 45 = .ok (.iinc 1 1, 3) := by decide +kernel
theorem dJ5_appendNull_278bc_48 : decode cJ5_appendNull_278bc 48 = .ok (.bipush 108, 2) := by decide +kernel
theorem dJ5_appendNull_278bc_50 : decode cJ5_appendNull_278bc 50 = .ok (.bastore, 1) := by decide +kernel
theorem dJ5_appendNull_278bc_51 : decode cJ5_appendNull_278bc 51 = .ok (.aload_n 2, 1) := by decide +kernel
theorem dJ5_appendNull_278bc_52 : decode cJ5_appendNull_278bc 52 = .ok (.iload_n 1, 1) := by decide +kernel
theorem dJ5_appendNull_278bc_53 : decode cJ5_appendNull_278bc 53 = .ok (.iinc 1 1, 3) := by decide +kernel
theorem dJ5_appendNull_278bc_56 : decode cJ5_appendNull_278bc 56 = .ok (.bipush 108, 2) := by decide +kernel
theorem dJ5_appendNull_278bc_58 : decode cJ5_appendNull_278bc 58 = .ok (.bastore, 1) := by decide +kernel
theorem dJ5_appendNull_278bc_59 : decode cJ5_appendNull_278bc 59 = .ok (.goto 17, 3) := by decide +kernel
theorem dJ5_appendNull_278bc_62 : decode cJ5_appendNull_278bc 62 = .ok (.aload_n 2, 1) := by decide +kernel
theorem dJ5_appendNull_278bc_63 : decode cJ5_appendNull_278bc 63 = .ok (.iload_n 1, 1) := by decide +kernel
theorem dJ5_appendNull_278bc_64 : decode cJ5_appendNull_278bc 64 = .ok (.bipush 110, 2) := by decide +kernel
theorem dJ5_appendNull_278bc_66 : decode cJ5_appendNull_278bc 66 = .ok (.bipush 117, 2) := by decide +kernel
theorem dJ5_appendNull_278bc_68 : decode cJ5_appendNull_278bc 68 = .ok (.bipush 108, 2) := by decide +kernel
theorem dJ5_appendNull_278bc_70 : decode cJ5_appendNull_278bc 70 = .ok (.bipush 108, 2) := by decide +kernel
theorem dJ5_appendNull_278bc_72 : decode cJ5_appendNull_278bc 72 = .ok (.invokestatic 226, 3) := by decide +kernel
theorem dJ5_appendNull_278bc_75 : decode cJ5_appendNull_278bc 75 = .ok (.istore_n 1, 1) := by decide +kernel
theorem dJ5_appendNull_278bc_76 : decode cJ5_appendNull_278bc 76 = .ok (.aload_n 0, 1) := by decide +kernel
theorem dJ5_appendNull_278bc_77 : decode cJ5_appendNull_278bc 77 = .ok (.iload_n 1, 1) := by decide +kernel
theorem dJ5_appendNull_278bc_78 : decode cJ5_appendNull_278bc 78 = .ok (.putfield 79, 3) := by decide +kernel
theorem dJ5_appendNull_278bc_81 : decode cJ5_appendNull_278bc 81 = .ok (.aload_n 0, 1) := by decide +kernel
theorem dJ5_appendNull_278bc_82 : decode cJ5_appendNull_278bc 82 = .ok (.areturn, 1) := by decide +kernel
theorem dJ5_append_c97b9_0 : decode cJ5_append_c97b9 0 = .ok (.aload_n 0, 1) := by decide +kernel
theorem dJ5_append_c97b9_1 : decode cJ5_append_c97b9 1 = .ok (.getfield 79, 3) := by decide +kernel
theorem dJ5_append_c97b9_4 : decode cJ5_append_c97b9 4 = .ok (.istore_n 2, 1) := by decide +kernel
theorem dJ5_append_c97b9_5 : decode cJ5_append_c97b9 5 = .ok (.iload_n 2, 1) := by decide +kernel
theorem dJ5_append_c97b9_6 : decode cJ5_append_c97b9 6 = .ok (.iload_n 1, 1) := by decide +kernel
theorem dJ5_append_c97b9_7 : decode cJ5_append_c97b9 7 = .ok (.invokestatic 245, 3) := by decide +kernel
theorem dJ5_append_c97b9_10 : decode cJ5_append_c97b9 10 = .ok (.iadd, 1) := by decide +kernel
theorem dJ5_append_c97b9_11 : decode cJ5_append_c97b9 11 = .ok (.istore_n 3, 1) := by decide +kernel
theorem dJ5_append_c97b9_12 : decode cJ5_append_c97b9 12 = .ok (.aload_n 0, 1) := by decide +kernel
theorem dJ5_append_c97b9_13 : decode cJ5_append_c97b9 13 = .ok (.iload_n 3, 1) := by decide +kernel
theorem dJ5_append_c97b9_14 : decode cJ5_append_c97b9 14 = .ok (.invokevirtual 100, 3) := by decide +kernel
theorem dJ5_append_c97b9_17 : decode cJ5_append_c97b9 17 = .ok (.aload_n 0, 1) := by decide +kernel
theorem dJ5_append_c97b9_18 : decode cJ5_append_c97b9 18 = .ok (.invokevirtual 83, 3) := by decide +kernel
theorem dJ5_append_c97b9_21 : decode cJ5_append_c97b9 21 = .ok (.ifCond .eq 16, 3) := by decide +kernel
theorem dJ5_append_c97b9_24 : decode cJ5_append_c97b9 24 = .ok (.iload_n 1, 1) := by decide +kernel
theorem dJ5_append_c97b9_25 : decode cJ5_append_c97b9 25 = .ok (.iload_n 3, 1) := by decide +kernel
theorem dJ5_append_c97b9_26 : decode cJ5_append_c97b9 26 = .ok (.aload_n 0, 1) := by decide +kernel
theorem dJ5_append_c97b9_27 : decode cJ5_append_c97b9 27 = .ok (.getfield 15, 3) := by decide +kernel
theorem dJ5_append_c97b9_30 : decode cJ5_append_c97b9 30 = .ok (.invokestatic 248, 3) := by decide +kernel
theorem dJ5_append_c97b9_33 : decode cJ5_append_c97b9 33 = .ok (.pop, 1) := by decide +kernel
theorem dJ5_append_c97b9_34 : decode cJ5_append_c97b9 34 = .ok (.goto 14, 3) := by decide +kernel
theorem dJ5_append_c97b9_37 : decode cJ5_append_c97b9 37 = .ok (.iload_n 1, 1) := by decide +kernel
theorem dJ5_append_c97b9_38 : decode cJ5_append_c97b9 38 = .ok (.iload_n 2, 1) := by decide +kernel
theorem dJ5_append_c97b9_39 : decode cJ5_append_c97b9 39 = .ok (.iload_n 3, 1) := by decide +kernel
theorem dJ5_append_c97b9_40 : decode cJ5_append_c97b9 40 = .ok (.aload_n 0, 1) := by decide +kernel
theorem dJ5_append_c97b9_41 : decode cJ5_append_c97b9 41 = .ok (.getfield 15, 3) := by decide +kernel
theorem dJ5_append_c97b9_44 : decode cJ5_append_c97b9 44 = .ok (.invokestatic 251, 3) := by decide +kernel
theorem dJ5_append_c97b9_47 : decode cJ5_append_c97b9 47 = .ok (.pop, 1) := by decide +kernel
theorem dJ5_append_c97b9_48 : decode cJ5_append_c97b9 48 = .ok (.aload_n 0, 1) := by decide +kernel
theorem dJ5_append_c97b9_49 : decode cJ5_append_c97b9 49 = .ok (.iload_n 3, 1) := by decide +kernel
theorem dJ5_append_c97b9_50 : decode cJ5_append_c97b9 50 = .ok (.putfield 79, 3) := by decide +kernel
theorem dJ5_append_c97b9_53 : decode cJ5_append_c97b9 53 = .ok (.aload_n 0, 1) := by decide +kernel
theorem dJ5_append_c97b9_54 : decode cJ5_append_c97b9 54 = .ok (.areturn, 1) := by decide +kernel
theorem dJ5_getValue_6d5f1_0 : decode cJ5_getValue_6d5f1 0 = .ok (.aload_n 0, 1) := by decide +kernel
theorem dJ5_getValue_6d5f1_1 : decode cJ5_getValue_6d5f1 1 = .ok (.getfield 15, 3) := by decide +kernel
theorem dJ5_getValue_6d5f1_4 : decode cJ5_getValue_6d5f1 4 = .ok (.areturn, 1) := by decide +kernel
theorem dJ5_isLatin1_aae02_0 : decode cJ5_isLatin1_aae02 0 = .ok (.getstatic 18, 3) := by decide +kernel
theorem dJ5_isLatin1_aae02_3 : decode cJ5_isLatin1_aae02 3 = .ok (.ifCond .eq 14, 3) := by decide +kernel
theorem dJ5_isLatin1_aae02_6 : decode cJ5_isLatin1_aae02 6 = .ok (.aload_n 0, 1) := by decide +kernel
theorem dJ5_isLatin1_aae02_7 : decode cJ5_isLatin1_aae02 7 = .ok (.getfield 22, 3) := by decide +kernel
theorem dJ5_isLatin1_aae02_10 : decode cJ5_isLatin1_aae02 10 = .ok (.ifCond .ne 7, 3) := by decide +kernel
theorem dJ5_isLatin1_aae02_13 : decode cJ5_isLatin1_aae02 13 = .ok (.iconst 1, 1) := by decide +kernel
theorem dJ5_isLatin1_aae02_14 : decode cJ5_isLatin1_aae02 14 = .ok (.goto 4, 3) := by decide +kernel
theorem dJ5_isLatin1_aae02_17 : decode cJ5_isLatin1_aae02 17 = .ok (.iconst 0, 1) := by decide +kernel
theorem dJ5_isLatin1_aae02_18 : decode cJ5_isLatin1_aae02 18 = .ok (.ireturn, 1) := by decide +kernel
theorem dJ5_inflateIfNeededFor_a7421_0 : decode cJ5_inflateIfNeededFor_a7421 0 = .ok (.getstatic 18, 3) := by decide +kernel
theorem dJ5_inflateIfNeededFor_a7421_3 : decode cJ5_inflateIfNeededFor_a7421 3 = .ok (.ifCond .eq 18, 3) := by decide +kernel
theorem dJ5_inflateIfNeededFor_a7421_6 : decode cJ5_inflateIfNeededFor_a7421 6 = .ok (.aload_n 0, 1) := by decide +kernel
theorem dJ5_inflateIfNeededFor_a7421_7 : decode cJ5_inflateIfNeededFor_a7421 7 = .ok (.getfield 22, 3) := by decide +kernel
theorem dJ5_inflateIfNeededFor_a7421_10 : decode cJ5_inflateIfNeededFor_a7421 10 = .ok (.aload_n 1, 1) := by decide +kernel
theorem dJ5_inflateIfNeededFor_a7421_11 : decode cJ5_inflateIfNeededFor_a7421 11 = .ok (.invokevirtual 40, 3) := by decide +kernel
theorem dJ5_inflateIfNeededFor_a7421_14 : decode cJ5_inflateIfNeededFor_a7421 14 = .ok (.if_icmp .eq 7, 3) := by decide +kernel
theorem dJ5_inflateIfNeededFor_a7421_17 : decode cJ5_inflateIfNeededFor_a7421 17 = .ok (.aload_n 0, 1) := by decide +kernel
theorem dJ5_inflateIfNeededFor_a7421_18 : decode cJ5_inflateIfNeededFor_a7421 18 = .ok (.invokevirtual 195, 3) := by decide +kernel
theorem dJ5_inflateIfNeededFor_a7421_21 : decode cJ5_inflateIfNeededFor_a7421 21 = .ok (.return_, 1) := by decide +kernel
theorem dJ5_putStringAt_47b60_0 : decode cJ5_putStringAt_47b60 0 = .ok (.aload_n 0, 1) := by decide +kernel
theorem dJ5_putStringAt_47b60_1 : decode cJ5_putStringAt_47b60 1 = .ok (.aload_n 2, 1) := by decide +kernel
theorem dJ5_putStringAt_47b60_2 : decode cJ5_putStringAt_47b60 2 = .ok (.invokevirtual 397, 3) := by decide +kernel
theorem dJ5_putStringAt_47b60_5 : decode cJ5_putStringAt_47b60 5 = .ok (.aload_n 2, 1) := by decide +kernel
theorem dJ5_putStringAt_47b60_6 : decode cJ5_putStringAt_47b60 6 = .ok (.aload_n 0, 1) := by decide +kernel
theorem dJ5_putStringAt_47b60_7 : decode cJ5_putStringAt_47b60 7 = .ok (.getfield 15, 3) := by decide +kernel
theorem dJ5_putStringAt_47b60_10 : decode cJ5_putStringAt_47b60 10 = .ok (.iload_n 1, 1) := by decide +kernel
theorem dJ5_putStringAt_47b60_11 : decode cJ5_putStringAt_47b60 11 = .ok (.aload_n 0, 1) := by decide +kernel
theorem dJ5_putStringAt_47b60_12 : decode cJ5_putStringAt_47b60 12 = .ok (.getfield 22, 3) := by decide +kernel
theorem dJ5_putStringAt_47b60_15 : decode cJ5_putStringAt_47b60 15 = .ok (.invokevirtual 399, 3) := by decide +kernel
theorem dJ5_putStringAt_47b60_18 : decode cJ5_putStringAt_47b60 18 = .ok (.return_, 1) := by decide +kernel
theorem dJx00060_init_a7421_0 : decode cJx00060_init_a7421 0 = .ok (.aload_n 0, 1) := by decide +kernel
theorem dJx00060_init_a7421_1 : decode cJx00060_init_a7421 1 = .ok (.aload_n 1, 1) := by decide +kernel
theorem dJx00060_init_a7421_2 : decode cJx00060_init_a7421 2 = .ok (.invokespecial 7, 3) := by decide +kernel
theorem dJx00060_init_a7421_5 : decode cJx00060_init_a7421 5 = .ok (.return_, 1) := by decide +kernel
theorem dJxe99ae_isNaN_b9ae7_0 : decode cJxe99ae_isNaN_b9ae7 0 = .ok (.dload_n 0, 1) := by decide +kernel
theorem dJxe99ae_isNaN_b9ae7_1 : decode cJxe99ae_isNaN_b9ae7 1 = .ok (.dload_n 0, 1) := by decide +kernel
theorem dJxe99ae_isNaN_b9ae7_2 : decode cJxe99ae_isNaN_b9ae7 2 = .ok (.dcmp .l, 1) := by decide +kernel
theorem dJxe99ae_isNaN_b9ae7_3 : decode cJxe99ae_isNaN_b9ae7 3 = .ok (.ifCond .eq 7, 3) := by decide +kernel
theorem dJxe99ae_isNaN_b9ae7_6 : decode cJxe99ae_isNaN_b9ae7 6 = .ok (.iconst 1, 1) := by decide +kernel
theorem dJxe99ae_isNaN_b9ae7_7 : decode cJxe99ae_isNaN_b9ae7 7 = .ok (.goto 4, 3) := by decide +kernel
theorem dJxe99ae_isNaN_b9ae7_10 : decode cJxe99ae_isNaN_b9ae7 10 = .ok (.iconst 0, 1) := by decide +kernel
theorem dJxe99ae_isNaN_b9ae7_11 : decode cJxe99ae_isNaN_b9ae7 11 = .ok (.ireturn, 1) := by decide +kernel
theorem dJxe99ae_doubleToLongBits_ccdee_0 : decode cJxe99ae_doubleToLongBits_ccdee 0 = .ok (.dload_n 0, 1) := by decide +kernel
theorem dJxe99ae_doubleToLongBits_ccdee_1 : decode cJxe99ae_doubleToLongBits_ccdee 1 = .ok (.invokestatic 122, 3) := by decide +kernel
theorem dJxe99ae_doubleToLongBits_ccdee_4 : decode cJxe99ae_doubleToLongBits_ccdee 4 = .ok (.ifCond .ne 8, 3) := by decide +kernel
theorem dJxe99ae_doubleToLongBits_ccdee_7 : decode cJxe99ae_doubleToLongBits_ccdee 7 = .ok (.dload_n 0, 1) := by decide +kernel
theorem dJxe99ae_doubleToLongBits_ccdee_8 : decode cJxe99ae_doubleToLongBits_ccdee 8 = .ok (.invokestatic 134, 3) := by decide +kernel
theorem dJxe99ae_doubleToLongBits_ccdee_11 : decode cJxe99ae_doubleToLongBits_ccdee 11 = .ok (.lreturn, 1) := by decide +kernel
theorem dJxe99ae_doubleToLongBits_ccdee_12 : decode cJxe99ae_doubleToLongBits_ccdee 12 = .ok (.ldc2_w 137, 3) := by decide +kernel
theorem dJxe99ae_doubleToLongBits_ccdee_15 : decode cJxe99ae_doubleToLongBits_ccdee 15 = .ok (.lreturn, 1) := by decide +kernel
theorem dJx29ce0_ordinal_8abf5_0 : decode cJx29ce0_ordinal_8abf5 0 = .ok (.aload_n 0, 1) := by decide +kernel
theorem dJx29ce0_ordinal_8abf5_1 : decode cJx29ce0_ordinal_8abf5 1 = .ok (.getfield 7, 3) := by decide +kernel
theorem dJx29ce0_ordinal_8abf5_4 : decode cJx29ce0_ordinal_8abf5 4 = .ok (.ireturn, 1) := by decide +kernel
theorem dJxf58ca_isNaN_12338_0 : decode cJxf58ca_isNaN_12338 0 = .ok (.fload_n 0, 1) := by decide +kernel
theorem dJxf58ca_isNaN_12338_1 : decode cJxf58ca_isNaN_12338 1 = .ok (.fload_n 0, 1) := by decide +kernel
theorem dJxf58ca_isNaN_12338_2 : decode cJxf58ca_isNaN_12338 2 = .ok (.fcmp .l, 1) := by decide +kernel
theorem dJxf58ca_isNaN_12338_3 : decode cJxf58ca_isNaN_12338 3 = .ok (.ifCond .eq 7, 3) := by decide +kernel
theorem dJxf58ca_isNaN_12338_6 : decode cJxf58ca_isNaN_12338 6 = .ok (.iconst 1, 1) := by decide +kernel
theorem dJxf58ca_isNaN_12338_7 : decode cJxf58ca_isNaN_12338 7 = .ok (.goto 4, 3) := by decide +kernel
theorem dJxf58ca_isNaN_12338_10 : decode cJxf58ca_isNaN_12338 10 = .ok (.iconst 0, 1) := by decide +kernel
theorem dJxf58ca_isNaN_12338_11 : decode cJxf58ca_isNaN_12338 11 = .ok (.ireturn, 1) := by decide +kernel
theorem dJxf58ca_floatToIntBits_5c35a_0 : decode cJxf58ca_floatToIntBits_5c35a 0 = .ok (.fload_n 0, 1) := by decide +kernel
theorem dJxf58ca_floatToIntBits_5c35a_1 : decode cJxf58ca_floatToIntBits_5c35a 1 = .ok (.invokestatic 59, 3) := by decide +kernel
theorem dJxf58ca_floatToIntBits_5c35a_4 : decode cJxf58ca_floatToIntBits_5c35a 4 = .ok (.ifCond .ne 8, 3) := by decide +kernel
theorem dJxf58ca_floatToIntBits_5c35a_7 : decode cJxf58ca_floatToIntBits_5c35a 7 = .ok (.fload_n 0, 1) := by decide +kernel
theorem dJxf58ca_floatToIntBits_5c35a_8 : decode cJxf58ca_floatToIntBits_5c35a 8 = .ok (.invokestatic 74, 3) := by decide +kernel
theorem dJxf58ca_floatToIntBits_5c35a_11 : decode cJxf58ca_floatToIntBits_5c35a 11 = .ok (.ireturn, 1) := by decide +kernel
theorem dJxf58ca_floatToIntBits_5c35a_12 : decode cJxf58ca_floatToIntBits_5c35a 12 = .ok (.ldc 77, 2) := by decide +kernel
theorem dJxf58ca_floatToIntBits_5c35a_14 : decode cJxf58ca_floatToIntBits_5c35a 14 = .ok (.ireturn, 1) := by decide +kernel
theorem dJ6_getChars_ba4f3_0 : decode cJ6_getChars_ba4f3 0 = .ok (.iload_n 1, 1) := by decide +kernel
theorem dJ6_getChars_ba4f3_1 : decode cJ6_getChars_ba4f3 1 = .ok (.istore 5, 2) := by decide +kernel
theorem dJ6_getChars_ba4f3_3 : decode cJ6_getChars_ba4f3 3 = .ok (.iload_n 0, 1) := by decide +kernel
theorem dJ6_getChars_ba4f3_4 : decode cJ6_getChars_ba4f3 4 = .ok (.ifCond .ge 7, 3) := by decide +kernel
theorem dJ6_getChars_ba4f3_7 : decode cJ6_getChars_ba4f3 7 = .ok (.iconst 1, 1) := by decide +kernel
theorem dJ6_getChars_ba4f3_8 : decode cJ6_getChars_ba4f3 8 = .ok (.goto 4, 3) := by decide +kernel
theorem dJ6_getChars_ba4f3_11 : decode cJ6_getChars_ba4f3 11 = .ok (.iconst 0, 1) := by decide +kernel
theorem dJ6_getChars_ba4f3_12 : decode cJ6_getChars_ba4f3 12 = .ok (.istore 6, 2) := by decide +kernel
theorem dJ6_getChars_ba4f3_14 : decode cJ6_getChars_ba4f3 14 = .ok (.iload 6, 2) := by decide +kernel
theorem dJ6_getChars_ba4f3_16 : decode cJ6_getChars_ba4f3 16 = .ok (.ifCond .ne 6, 3) := by decide +kernel
theorem dJ6_getChars_ba4f3_19 : decode cJ6_getChars_ba4f3 19 = .ok (.iload_n 0, 1) := by decide +kernel
theorem dJ6_getChars_ba4f3_20 : decode cJ6_getChars_ba4f3 20 = .ok (.ineg, 1) := by decide +kernel
theorem dJ6_getChars_ba4f3_21 : decode cJ6_getChars_ba4f3 21 = .ok (.istore_n 0, 1) := by decide +kernel
theorem dJ6_getChars_ba4f3_22 : decode cJ6_getChars_ba4f3 22 = .ok (.iload_n 0, 1) := by decide +kernel
theorem dJ6_getChars_ba4f3_23 : decode cJ6_getChars_ba4f3 23 = .ok (.bipush (-100), 2) := by decide +kernel
theorem dJ6_getChars_ba4f3_25 : decode cJ6_getChars_ba4f3 25 = .ok (.if_icmp .gt 47, 3) := by decide +kernel
theorem dJ6_getChars_ba4f3_28 : decode cJ6_getChars_ba4f3 28 = .ok (.iload_n 0, 1) := by decide +kernel
theorem dJ6_getChars_ba4f3_29 : decode cJ6_getChars_ba4f3 29 = .ok (.bipush 100, 2) := by decide +kernel
theorem dJ6_getChars_ba4f3_31 : decode cJ6_getChars_ba4f3 31 = .ok (.idiv, 1) := by decide +kernel
theorem dJ6_getChars_ba4f3_32 : decode cJ6_getChars_ba4f3 32 = .ok (.istore_n 3, 1) := by decide +kernel
theorem dJ6_getChars_ba4f3_33 : decode cJ6_getChars_ba4f3 33 = .ok (.iload_n 3, 1) := by decide +kernel
theorem dJ6_getChars_ba4f3_34 : decode cJ6_getChars_ba4f3 34 = .ok (.bipush 100, 2) := by decide +kernel
theorem dJ6_getChars_ba4f3_36 : decode cJ6_getChars_ba4f3 36 = .ok (.imul, 1) := by decide +kernel
theorem dJ6_getChars_ba4f3_37 : decode cJ6_getChars_ba4f3 37 = .ok (.iload_n 0, 1) := by decide +kernel
theorem dJ6_getChars_ba4f3_38 : decode cJ6_getChars_ba4f3 38 = .ok (.isub, 1) := by decide +kernel
theorem dJ6_getChars_ba4f3_39 : decode cJ6_getChars_ba4f3 39 = .ok (.istore 4, 2) := by decide +kernel
theorem dJ6_getChars_ba4f3_41 : decode cJ6_getChars_ba4f3 41 = .ok (.iload_n 3, 1) := by decide +kernel
theorem dJ6_getChars_ba4f3_42 : decode cJ6_getChars_ba4f3 42 = .ok (.istore_n 0, 1) := by decide +kernel
theorem dJ6_getChars_ba4f3_43 : decode cJ6_getChars_ba4f3 43 = .ok (.aload_n 2, 1) := by decide +kernel
theorem dJ6_getChars_ba4f3_44 : decode cJ6_getChars_ba4f3 44 = .ok (.iinc 5 (-1), 3) := by decide +kernel
theorem dJ6_getChars_ba4f3_47 : decode cJ6_getChars_ba4f3 47 = .ok (.iload 5, 2) := by decide +kernel
theorem dJ6_getChars_ba4f3_49 : decode cJ6_getChars_ba4f3 49 = .ok (.getstatic 83, 3) := by decide +kernel
theorem dJ6_getChars_ba4f3_52 : decode cJ6_getChars_ba4f3 52 = .ok (.iload 4, 2) := by decide +kernel
theorem dJ6_getChars_ba4f3_54 : decode cJ6_getChars_ba4f3 54 = .ok (.baload, 1) := by decide +kernel
theorem dJ6_getChars_ba4f3_55 : decode cJ6_getChars_ba4f3 55 = .ok (.bastore, 1) := by decide +kernel
theorem dJ6_getChars_ba4f3_56 : decode cJ6_getChars_ba4f3 56 = .ok (.aload_n 2, 1) := by decide +kernel
theorem dJ6_getChars_ba4f3_57 : decode cJ6_getChars_ba4f3 57 = .ok (.iinc 5 (-1), 3) := by decide +kernel
theorem dJ6_getChars_ba4f3_60 : decode cJ6_getChars_ba4f3 60 = .ok (.iload 5, 2) := by decide +kernel
theorem dJ6_getChars_ba4f3_62 : decode cJ6_getChars_ba4f3 62 = .ok (.getstatic 87, 3) := by decide +kernel
theorem dJ6_getChars_ba4f3_65 : decode cJ6_getChars_ba4f3 65 = .ok (.iload 4, 2) := by decide +kernel
theorem dJ6_getChars_ba4f3_67 : decode cJ6_getChars_ba4f3 67 = .ok (.baload, 1) := by decide +kernel
theorem dJ6_getChars_ba4f3_68 : decode cJ6_getChars_ba4f3 68 = .ok (.bastore, 1) := by decide +kernel
theorem dJ6_getChars_ba4f3_69 : decode cJ6_getChars_ba4f3 69 = .ok (.goto (-47), 3) := by decide +kernel
theorem dJ6_getChars_ba4f3_72 : decode cJ6_getChars_ba4f3 72 = .ok (.aload_n 2, 1) := by decide +kernel
theorem dJ6_getChars_ba4f3_73 : decode cJ6_getChars_ba4f3 73 = .ok (.iinc 5 (-1), 3) := by decide +kernel
theorem dJ6_getChars_ba4f3_76 : decode cJ6_getChars_ba4f3 76 = .ok (.iload 5, 2) := by decide +kernel
theorem dJ6_getChars_ba4f3_78 : decode cJ6_getChars_ba4f3 78 = .ok (.getstatic 83, 3) := by decide +kernel
theorem dJ6_getChars_ba4f3_81 : decode cJ6_getChars_ba4f3 81 = .ok (.iload_n 0, 1) := by decide +kernel
theorem dJ6_getChars_ba4f3_82 : decode cJ6_getChars_ba4f3 82 = .ok (.ineg, 1) := by decide +kernel
theorem dJ6_getChars_ba4f3_83 : decode cJ6_getChars_ba4f3 83 = .ok (.baload, 1) := by decide +kernel
theorem dJ6_getChars_ba4f3_84 : decode cJ6_getChars_ba4f3 84 = .ok (.bastore, 1) := by decide +kernel
theorem dJ6_getChars_ba4f3_85 : decode cJ6_getChars_ba4f3 85 = .ok (.iload_n 0, 1) := by decide +kernel
theorem dJ6_getChars_ba4f3_86 : decode cJ6_getChars_ba4f3 86 = .ok (.bipush (-9), 2) := by decide +kernel
theorem dJ6_getChars_ba4f3_88 : decode cJ6_getChars_ba4f3 88 = .ok (.if_icmp .ge 16, 3) := by decide +kernel
theorem dJ6_getChars_ba4f3_91 : decode cJ6_getChars_ba4f3 91 = .ok (.aload_n 2, 1) := by decide +kernel
theorem dJ6_getChars_ba4f3_92 : decode cJ6_getChars_ba4f3 92 = .ok (.iinc 5 (-1), 3) := by decide +kernel
theorem dJ6_getChars_ba4f3_95 : decode cJ6_getChars_ba4f3 95 = .ok (.iload 5, 2) := by decide +kernel
theorem dJ6_getChars_ba4f3_97 : decode cJ6_getChars_ba4f3 97 = .ok (.getstatic 87, 3) := by decide +kernel
theorem dJ6_getChars_ba4f3_100 : decode cJ6_getChars_ba4f3 100 = .ok (.iload_n 0, 1) := by decide +kernel
theorem dJ6_getChars_ba4f3_101 : decode cJ6_getChars_ba4f3 101 = .ok (.ineg, 1) := by decide +kernel
theorem dJ6_getChars_ba4f3_102 : decode cJ6_getChars_ba4f3 102 = .ok (.baload, 1) := by decide +kernel
theorem dJ6_getChars_ba4f3_103 : decode cJ6_getChars_ba4f3 103 = .ok (.bastore, 1) := by decide +kernel
theorem dJ6_getChars_ba4f3_104 : decode cJ6_getChars_ba4f3 104 = .ok (.iload 6, 2) := by decide +kernel
theorem dJ6_getChars_ba4f3_106 : decode cJ6_getChars_ba4f3 106 = .ok (.ifCond .eq 12, 3) := by decide +kernel
theorem dJ6_getChars_ba4f3_109 : decode cJ6_getChars_ba4f3 109 = .ok (.aload_n 2, 1) := by decide +kernel
theorem dJ6_getChars_ba4f3_110 : decode cJ6_getChars_ba4f3 110 = .ok (.iinc 5 (-1), 3) := by decide +kernel
theorem dJ6_getChars_ba4f3_113 : decode cJ6_getChars_ba4f3 113 = .ok (.iload 5, 2) := by decide +kernel
theorem dJ6_getChars_ba4f3_115 : decode cJ6_getChars_ba4f3 115 = .ok (.bipush 45, 2) := by decide +kernel
theorem dJ6_getChars_ba4f3_117 : decode cJ6_getChars_ba4f3 117 = .ok (.bastore, 1) := by decide +kernel
theorem dJ6_getChars_ba4f3_118 : decode cJ6_getChars_ba4f3 118 = .ok (.iload 5, 2) := by decide +kernel
theorem dJ6_getChars_ba4f3_120 : decode cJ6_getChars_ba4f3 120 = .ok (.ireturn, 1) := by decide +kernel
theorem dJ6_stringSize_0f7a4_0 : decode cJ6_stringSize_0f7a4 0 = .ok (.iconst 1, 1) := by decide +kernel
theorem dJ6_stringSize_0f7a4_1 : decode cJ6_stringSize_0f7a4 1 = .ok (.istore_n 1, 1) := by decide +kernel
theorem dJ6_stringSize_0f7a4_2 : decode cJ6_stringSize_0f7a4 2 = .ok (.iload_n 0, 1) := by decide +kernel
theorem dJ6_stringSize_0f7a4_3 : decode cJ6_stringSize_0f7a4 3 = .ok (.ifCond .lt 8, 3) := by decide +kernel
theorem dJ6_stringSize_0f7a4_6 : decode cJ6_stringSize_0f7a4 6 = .ok (.iconst 0, 1) := by decide +kernel
theorem dJ6_stringSize_0f7a4_7 : decode cJ6_stringSize_0f7a4 7 = .ok (.istore_n 1, 1) := by decide +kernel
theorem dJ6_stringSize_0f7a4_8 : decode cJ6_stringSize_0f7a4 8 = .ok (.iload_n 0, 1) := by decide +kernel
theorem dJ6_stringSize_0f7a4_9 : decode cJ6_stringSize_0f7a4 9 = .ok (.ineg, 1) := by decide +kernel
theorem dJ6_stringSize_0f7a4_10 : decode cJ6_stringSize_0f7a4 10 = .ok (.istore_n 0, 1) := by decide +kernel
theorem dJ6_stringSize_0f7a4_11 : decode cJ6_stringSize_0f7a4 11 = .ok (.bipush (-10), 2) := by decide +kernel
theorem dJ6_stringSize_0f7a4_13 : decode cJ6_stringSize_0f7a4 13 = .ok (.istore_n 2, 1) := by decide +kernel
theorem dJ6_stringSize_0f7a4_14 : decode cJ6_stringSize_0f7a4 14 = .ok (.iconst 1, 1) := by decide +kernel
theorem dJ6_stringSize_0f7a4_15 : decode cJ6_stringSize_0f7a4 15 = .ok (.istore_n 3, 1) := by decide +kernel
theorem dJ6_stringSize_0f7a4_16 : decode cJ6_stringSize_0f7a4 16 = .ok (.iload_n 3, 1) := by decide +kernel
theorem dJ6_stringSize_0f7a4_17 : decode cJ6_stringSize_0f7a4 17 = .ok (.bipush 10, 2) := by decide +kernel
theorem dJ6_stringSize_0f7a4_19 : decode cJ6_stringSize_0f7a4 19 = .ok (.if_icmp .ge 23, 3) := by decide +kernel
theorem dJ6_stringSize_0f7a4_22 : decode cJ6_stringSize_0f7a4 22 = .ok (.iload_n 0, 1) := by decide +kernel
theorem dJ6_stringSize_0f7a4_23 : decode cJ6_stringSize_0f7a4 23 = .ok (.iload_n 2, 1) := by decide +kernel
theorem dJ6_stringSize_0f7a4_24 : decode cJ6_stringSize_0f7a4 24 = .ok (.if_icmp .le 7, 3) := by decide +kernel
theorem dJ6_stringSize_0f7a4_27 : decode cJ6_stringSize_0f7a4 27 = .ok (.iload_n 3, 1) := by decide +kernel
theorem dJ6_stringSize_0f7a4_28 : decode cJ6_stringSize_0f7a4 28 = .ok (.iload_n 1, 1) := by decide +kernel
theorem dJ6_stringSize_0f7a4_29 : decode cJ6_stringSize_0f7a4 29 = .ok (.iadd, 1) := by decide +kernel
theorem dJ6_stringSize_0f7a4_30 : decode cJ6_stringSize_0f7a4 30 = .ok (.ireturn, 1) := by decide +kernel
theorem dJ6_stringSize_0f7a4_31 : decode cJ6_stringSize_0f7a4 31 = .ok (.bipush 10, 2) := by decide +kernel
theorem dJ6_stringSize_0f7a4_33 : decode cJ6_stringSize_0f7a4 33 = .ok (.iload_n 2, 1) := by decide +kernel
theorem dJ6_stringSize_0f7a4_34 : decode cJ6_stringSize_0f7a4 34 = .ok (.imul, 1) := by decide +kernel
theorem dJ6_stringSize_0f7a4_35 : decode cJ6_stringSize_0f7a4 35 = .ok (.istore_n 2, 1) := by decide +kernel
theorem dJ6_stringSize_0f7a4_36 : decode cJ6_stringSize_0f7a4 36 = .ok (.iinc 3 1, 3) := by decide +kernel
theorem dJ6_stringSize_0f7a4_39 : decode cJ6_stringSize_0f7a4 39 = .ok (.goto (-23), 3) := by decide +kernel
theorem dJ6_stringSize_0f7a4_42 : decode cJ6_stringSize_0f7a4 42 = .ok (.bipush 10, 2) := by decide +kernel
theorem dJ6_stringSize_0f7a4_44 : decode cJ6_stringSize_0f7a4 44 = .ok (.iload_n 1, 1) := by decide +kernel
theorem dJ6_stringSize_0f7a4_45 : decode cJ6_stringSize_0f7a4 45 = .ok (.iadd, 1) := by decide +kernel
theorem dJ6_stringSize_0f7a4_46 : decode cJ6_stringSize_0f7a4 46 = .ok (.ireturn, 1) := by decide +kernel
theorem dJ9_max_7cf53_0 : decode cJ9_max_7cf53 0 = .ok (.iload_n 0, 1) := by decide +kernel
theorem dJ9_max_7cf53_1 : decode cJ9_max_7cf53 1 = .ok (.iload_n 1, 1) := by decide +kernel
theorem dJ9_max_7cf53_2 : decode cJ9_max_7cf53 2 = .ok (.if_icmp .lt 7, 3) := by decide +kernel
theorem dJ9_max_7cf53_5 : decode cJ9_max_7cf53 5 = .ok (.iload_n 0, 1) := by decide +kernel
theorem dJ9_max_7cf53_6 : decode cJ9_max_7cf53 6 = .ok (.goto 4, 3) := by decide +kernel
theorem dJ9_max_7cf53_9 : decode cJ9_max_7cf53 9 = .ok (.iload_n 1, 1) := by decide +kernel
theorem dJ9_max_7cf53_10 : decode cJ9_max_7cf53 10 = .ok (.ireturn, 1) := by decide +kernel
theorem dJ9_min_7cf53_0 : decode cJ9_min_7cf53 0 = .ok (.iload_n 0, 1) := by decide +kernel
theorem dJ9_min_7cf53_1 : decode cJ9_min_7cf53 1 = .ok (.iload_n 1, 1) := by decide +kernel
theorem dJ9_min_7cf53_2 : decode cJ9_min_7cf53 2 = .ok (.if_icmp .gt 7, 3) := by decide +kernel
theorem dJ9_min_7cf53_5 : decode cJ9_min_7cf53 5 = .ok (.iload_n 0, 1) := by decide +kernel
theorem dJ9_min_7cf53_6 : decode cJ9_min_7cf53 6 = .ok (.goto 4, 3) := by decide +kernel
theorem dJ9_min_7cf53_9 : decode cJ9_min_7cf53 9 = .ok (.iload_n 1, 1) := by decide +kernel
theorem dJ9_min_7cf53_10 : decode cJ9_min_7cf53 10 = .ok (.ireturn, 1) := by decide +kernel
theorem dJ0_init_81219_0 : decode cJ0_init_81219 0 = .ok (.aload_n 0, 1) := by decide +kernel
theorem dJ0_init_81219_1 : decode cJ0_init_81219 1 = .ok (.aload_n 1, 1) := by decide +kernel
theorem dJ0_init_81219_2 : decode cJ0_init_81219 2 = .ok (.aconst_null, 1) := by decide +kernel
theorem dJ0_init_81219_3 : decode cJ0_init_81219 3 = .ok (.invokespecial 489, 3) := by decide +kernel
theorem dJ0_init_81219_6 : decode cJ0_init_81219 6 = .ok (.return_, 1) := by decide +kernel
theorem dJ0_length_8abf5_0 : decode cJ0_length_8abf5 0 = .ok (.aload_n 0, 1) := by decide +kernel
theorem dJ0_length_8abf5_1 : decode cJ0_length_8abf5 1 = .ok (.getfield 9, 3) := by decide +kernel
theorem dJ0_length_8abf5_4 : decode cJ0_length_8abf5 4 = .ok (.arraylength, 1) := by decide +kernel
theorem dJ0_length_8abf5_5 : decode cJ0_length_8abf5 5 = .ok (.aload_n 0, 1) := by decide +kernel
theorem dJ0_length_8abf5_6 : decode cJ0_length_8abf5 6 = .ok (.invokevirtual 335, 3) := by decide +kernel
theorem dJ0_length_8abf5_9 : decode cJ0_length_8abf5 9 = .ok (.ishr, 1) := by decide +kernel
theorem dJ0_length_8abf5_10 : decode cJ0_length_8abf5 10 = .ok (.ireturn, 1) := by decide +kernel
theorem dJ0_charAt_5068e_0 : decode cJ0_charAt_5068e 0 = .ok (.aload_n 0, 1) := by decide +kernel
theorem dJ0_charAt_5068e_1 : decode cJ0_charAt_5068e 1 = .ok (.invokevirtual 492, 3) := by decide +kernel
theorem dJ0_charAt_5068e_4 : decode cJ0_charAt_5068e 4 = .ok (.ifCond .eq 12, 3) := by decide +kernel
theorem dJ0_charAt_5068e_7 : decode cJ0_charAt_5068e 7 = .ok (.aload_n 0, 1) := by decide +kernel
theorem dJ0_charAt_5068e_8 : decode cJ0_charAt_5068e 8 = .ok (.getfield 9, 3) := by decide +kernel
theorem dJ0_charAt_5068e_11 : decode cJ0_charAt_5068e 11 = .ok (.iload_n 1, 1) := by decide +kernel
theorem dJ0_charAt_5068e_12 : decode cJ0_charAt_5068e 12 = .ok (.invokestatic 495, 3) := by decide +kernel
theorem dJ0_charAt_5068e_15 : decode cJ0_charAt_5068e 15 = .ok (.ireturn, 1) := by decide +kernel
theorem dJ0_charAt_5068e_16 : decode cJ0_charAt_5068e 16 = .ok (.aload_n 0, 1) := by decide +kernel
theorem dJ0_charAt_5068e_17 : decode cJ0_charAt_5068e 17 = .ok (.getfield 9, 3) := by decide +kernel
theorem dJ0_charAt_5068e_20 : decode cJ0_charAt_5068e 20 = .ok (.iload_n 1, 1) := by decide +kernel
theorem dJ0_charAt_5068e_21 : decode cJ0_charAt_5068e 21 = .ok (.invokestatic 498, 3) := by decide +kernel
theorem dJ0_charAt_5068e_24 : decode cJ0_charAt_5068e 24 = .ok (.ireturn, 1) := by decide +kernel
theorem dJ0_getBytes_840e7_0 : decode cJ0_getBytes_840e7 0 = .ok (.aload_n 0, 1) := by decide +kernel
theorem dJ0_getBytes_840e7_1 : decode cJ0_getBytes_840e7 1 = .ok (.invokevirtual 335, 3) := by decide +kernel
theorem dJ0_getBytes_840e7_4 : decode cJ0_getBytes_840e7 4 = .ok (.iload_n 3, 1) := by decide +kernel
theorem dJ0_getBytes_840e7_5 : decode cJ0_getBytes_840e7 5 = .ok (.if_icmp .ne 23, 3) := by decide +kernel
theorem dJ0_getBytes_840e7_8 : decode cJ0_getBytes_840e7 8 = .ok (.aload_n 0, 1) := by decide +kernel
theorem dJ0_getBytes_840e7_9 : decode cJ0_getBytes_840e7 9 = .ok (.getfield 9, 3) := by decide +kernel
theorem dJ0_getBytes_840e7_12 : decode cJ0_getBytes_840e7 12 = .ok (.iconst 0, 1) := by decide +kernel
theorem dJ0_getBytes_840e7_13 : decode cJ0_getBytes_840e7 13 = .ok (.aload_n 1, 1) := by decide +kernel
theorem dJ0_getBytes_840e7_14 : decode cJ0_getBytes_840e7 14 = .ok (.iload_n 2, 1) := by decide +kernel
theorem dJ0_getBytes_840e7_15 : decode cJ0_getBytes_840e7 15 = .ok (.iload_n 3, 1) := by decide +kernel
theorem dJ0_getBytes_840e7_16 : decode cJ0_getBytes_840e7 16 = .ok (.ishl, 1) := by decide +kernel
theorem dJ0_getBytes_840e7_17 : decode cJ0_getBytes_840e7 17 = .ok (.aload_n 0, 1) := by decide +kernel
theorem dJ0_getBytes_840e7_18 : decode cJ0_getBytes_840e7 18 = .ok (.getfield 9, 3) := by decide +kernel
theorem dJ0_getBytes_840e7_21 : decode cJ0_getBytes_840e7 21 = .ok (.arraylength, 1) := by decide +kernel
theorem dJ0_getBytes_840e7_22 : decode cJ0_getBytes_840e7 22 = .ok (.invokestatic 212, 3) := by decide +kernel
theorem dJ0_getBytes_840e7_25 : decode cJ0_getBytes_840e7 25 = .ok (.goto 18, 3) := by decide +kernel
theorem dJ0_getBytes_840e7_28 : decode cJ0_getBytes_840e7 28 = .ok (.aload_n 0, 1) := by decide +kernel
theorem dJ0_getBytes_840e7_29 : decode cJ0_getBytes_840e7 29 = .ok (.getfield 9, 3) := by decide +kernel
theorem dJ0_getBytes_840e7_32 : decode cJ0_getBytes_840e7 32 = .ok (.iconst 0, 1) := by decide +kernel
theorem dJ0_getBytes_840e7_33 : decode cJ0_getBytes_840e7 33 = .ok (.aload_n 1, 1) := by decide +kernel
theorem dJ0_getBytes_840e7_34 : decode cJ0_getBytes_840e7 34 = .ok (.iload_n 2, 1) := by decide +kernel
theorem dJ0_getBytes_840e7_35 : decode cJ0_getBytes_840e7 35 = .ok (.aload_n 0, 1) := by decide +kernel
theorem dJ0_getBytes_840e7_36 : decode cJ0_getBytes_840e7 36 = .ok (.getfield 9, 3) := by decide +kernel
theorem dJ0_getBytes_840e7_39 : decode cJ0_getBytes_840e7 39 = .ok (.arraylength, 1) := by decide +kernel
theorem dJ0_getBytes_840e7_40 : decode cJ0_getBytes_840e7 40 = .ok (.invokestatic 106, 3) := by decide +kernel
theorem dJ0_getBytes_840e7_43 : decode cJ0_getBytes_840e7 43 = .ok (.return_, 1) := by decide +kernel
theorem dJ0_init_db425_0 : decode cJ0_init_db425 0 = .ok (.aload_n 0, 1) := by decide +kernel
theorem dJ0_init_db425_1 : decode cJ0_init_db425 1 = .ok (.invokespecial 1, 3) := by decide +kernel
theorem dJ0_init_db425_4 : decode cJ0_init_db425 4 = .ok (.aload_n 1, 1) := by decide +kernel
theorem dJ0_init_db425_5 : decode cJ0_init_db425 5 = .ok (.invokevirtual 552, 3) := by decide +kernel
theorem dJ0_init_db425_8 : decode cJ0_init_db425 8 = .ok (.astore_n 3, 1) := by decide +kernel
theorem dJ0_init_db425_9 : decode cJ0_init_db425 9 = .ok (.aload_n 1, 1) := by decide +kernel
theorem dJ0_init_db425_10 : decode cJ0_init_db425 10 = .ok (.invokevirtual 549, 3) := by decide +kernel
theorem dJ0_init_db425_13 : decode cJ0_init_db425 13 = .ok (.istore 4, 2) := by decide +kernel
theorem dJ0_init_db425_15 : decode cJ0_init_db425 15 = .ok (.aload_n 1, 1) := by decide +kernel
theorem dJ0_init_db425_16 : decode cJ0_init_db425 16 = .ok (.invokevirtual 1047, 3) := by decide +kernel
theorem dJ0_init_db425_19 : decode cJ0_init_db425 19 = .ok (.ifCond .eq 22, 3) := by decide +kernel
theorem dJ0_init_db425_22 : decode cJ0_init_db425 22 = .ok (.aload_n 0, 1) := by decide +kernel
theorem dJ0_init_db425_23 : decode cJ0_init_db425 23 = .ok (.iconst 0, 1) := by decide +kernel
theorem dJ0_init_db425_24 : decode cJ0_init_db425 24 = .ok (.putfield 15, 3) := by decide +kernel
theorem dJ0_init_db425_27 : decode cJ0_init_db425 27 = .ok (.aload_n 0, 1) := by decide +kernel
theorem dJ0_init_db425_28 : decode cJ0_init_db425 28 = .ok (.aload_n 3, 1) := by decide +kernel
theorem dJ0_init_db425_29 : decode cJ0_init_db425 29 = .ok (.iconst 0, 1) := by decide +kernel
theorem dJ0_init_db425_30 : decode cJ0_init_db425 30 = .ok (.iload 4, 2) := by decide +kernel
theorem dJ0_init_db425_32 : decode cJ0_init_db425 32 = .ok (.invokestatic 54, 3) := by decide +kernel
theorem dJ0_init_db425_35 : decode cJ0_init_db425 35 = .ok (.putfield 9, 3) := by decide +kernel
theorem dJ0_init_db425_38 : decode cJ0_init_db425 38 = .ok (.goto 59, 3) := by decide +kernel
theorem dJ0_init_db425_41 : decode cJ0_init_db425 41 = .ok (.getstatic 38, 3) := by decide +kernel
theorem dJ0_init_db425_44 : decode cJ0_init_db425 44 = .ok (.ifCond .eq 35, 3) := by decide +kernel
theorem dJ0_init_db425_47 : decode cJ0_init_db425 47 = .ok (.aload_n 1, 1) := by decide +kernel
theorem dJ0_init_db425_48 : decode cJ0_init_db425 48 = .ok (.getfield 1048, 3) := by decide +kernel
theorem dJ0_init_db425_51 : decode cJ0_init_db425 51 = .ok (.ifCond .eq 28, 3) := by decide +kernel
theorem dJ0_init_db425_54 : decode cJ0_init_db425 54 = .ok (.aload_n 0, 1) := by decide +kernel
theorem dJ0_init_db425_55 : decode cJ0_init_db425 55 = .ok (.aload_n 3, 1) := by decide +kernel
theorem dJ0_init_db425_56 : decode cJ0_init_db425 56 = .ok (.iconst 0, 1) := by decide +kernel
theorem dJ0_init_db425_57 : decode cJ0_init_db425 57 = .ok (.iload 4, 2) := by decide +kernel
theorem dJ0_init_db425_59 : decode cJ0_init_db425 59 = .ok (.invokestatic 1051, 3) := by decide +kernel
theorem dJ0_init_db425_62 : decode cJ0_init_db425 62 = .ok (.putfield 9, 3) := by decide +kernel
theorem dJ0_init_db425_65 : decode cJ0_init_db425 65 = .ok (.aload_n 0, 1) := by decide +kernel
theorem dJ0_init_db425_66 : decode cJ0_init_db425 66 = .ok (.aload_n 0, 1) := by decide +kernel
theorem dJ0_init_db425_67 : decode cJ0_init_db425 67 = .ok (.getfield 9, 3) := by decide +kernel
theorem dJ0_init_db425_70 : decode cJ0_init_db425 70 = .ok (.iload 4, 2) := by decide +kernel
theorem dJ0_init_db425_72 : decode cJ0_init_db425 72 = .ok (.invokestatic 47, 3) := by decide +kernel
theorem dJ0_init_db425_75 : decode cJ0_init_db425 75 = .ok (.putfield 15, 3) := by decide +kernel
theorem dJ0_init_db425_78 : decode cJ0_init_db425 78 = .ok (.return_, 1) := by decide +kernel
theorem dJ0_init_db425_79 : decode cJ0_init_db425 79 = .ok (.aload_n 0, 1) := by decide +kernel
theorem dJ0_init_db425_80 : decode cJ0_init_db425 80 = .ok (.iconst 1, 1) := by decide +kernel
theorem dJ0_init_db425_81 : decode cJ0_init_db425 81 = .ok (.putfield 15, 3) := by decide +kernel
theorem dJ0_init_db425_84 : decode cJ0_init_db425 84 = .ok (.aload_n 0, 1) := by decide +kernel
theorem dJ0_init_db425_85 : decode cJ0_init_db425 85 = .ok (.aload_n 3, 1) := by decide +kernel
theorem dJ0_init_db425_86 : decode cJ0_init_db425 86 = .ok (.iconst 0, 1) := by decide +kernel
theorem dJ0_init_db425_87 : decode cJ0_init_db425 87 = .ok (.iload 4, 2) := by decide +kernel
theorem dJ0_init_db425_89 : decode cJ0_init_db425 89 = .ok (.iconst 1, 1) := by decide +kernel
theorem dJ0_init_db425_90 : decode cJ0_init_db425 90 = .ok (.ishl, 1) := by decide +kernel
theorem dJ0_init_db425_91 : decode cJ0_init_db425 91 = .ok (.invokestatic 54, 3) := by decide +kernel
theorem dJ0_init_db425_94 : decode cJ0_init_db425 94 = .ok (.putfield 9, 3) := by decide +kernel
theorem dJ0_init_db425_97 : decode cJ0_init_db425 97 = .ok (.return_, 1) := by decide +kernel
theorem dJ0_coder_7d493_0 : decode cJ0_coder_7d493 0 = .ok (.getstatic 38, 3) := by decide +kernel
theorem dJ0_coder_7d493_3 : decode cJ0_coder_7d493 3 = .ok (.ifCond .eq 10, 3) := by decide +kernel
theorem dJ0_coder_7d493_6 : decode cJ0_coder_7d493 6 = .ok (.aload_n 0, 1) := by decide +kernel
theorem dJ0_coder_7d493_7 : decode cJ0_coder_7d493 7 = .ok (.getfield 15, 3) := by decide +kernel
theorem dJ0_coder_7d493_10 : decode cJ0_coder_7d493 10 = .ok (.goto 4, 3) := by decide +kernel
theorem dJ0_coder_7d493_13 : decode cJ0_coder_7d493 13 = .ok (.iconst 1, 1) := by decide +kernel
theorem dJ0_coder_7d493_14 : decode cJ0_coder_7d493 14 = .ok (.ireturn, 1) := by decide +kernel
theorem dJ0_isLatin1_aae02_0 : decode cJ0_isLatin1_aae02 0 = .ok (.getstatic 38, 3) := by decide +kernel
theorem dJ0_isLatin1_aae02_3 : decode cJ0_isLatin1_aae02 3 = .ok (.ifCond .eq 14, 3) := by decide +kernel
theorem dJ0_isLatin1_aae02_6 : decode cJ0_isLatin1_aae02 6 = .ok (.aload_n 0, 1) := by decide +kernel
theorem dJ0_isLatin1_aae02_7 : decode cJ0_isLatin1_aae02 7 = .ok (.getfield 15, 3) := by decide +kernel
theorem dJ0_isLatin1_aae02_10 : decode cJ0_isLatin1_aae02 10 = .ok (.ifCond .ne 7, 3) := by decide +kernel
theorem dJ0_isLatin1_aae02_13 : decode cJ0_isLatin1_aae02 13 = .ok (.iconst 1, 1) := by decide +kernel
theorem dJ0_isLatin1_aae02_14 : decode cJ0_isLatin1_aae02 14 = .ok (.goto 4, 3) := by decide +kernel
theorem dJ0_isLatin1_aae02_17 : decode cJ0_isLatin1_aae02 17 = .ok (.iconst 0, 1) := by decide +kernel
theorem dJ0_isLatin1_aae02_18 : decode cJ0_isLatin1_aae02 18 = .ok (.ireturn, 1) := by decide +kernel
theorem dJ0_checkIndex_df160_0 : decode cJ0_checkIndex_df160 0 = .ok (.iload_n 0, 1) := by decide +kernel
theorem dJ0_checkIndex_df160_1 : decode cJ0_checkIndex_df160 1 = .ok (.iload_n 1, 1) := by decide +kernel
theorem dJ0_checkIndex_df160_2 : decode cJ0_checkIndex_df160 2 = .ok (.getstatic 1053, 3) := by decide +kernel
theorem dJ0_checkIndex_df160_5 : decode cJ0_checkIndex_df160 5 = .ok (.invokestatic 1059, 3) := by decide +kernel
theorem dJ0_checkIndex_df160_8 : decode cJ0_checkIndex_df160 8 = .ok (.pop, 1) := by decide +kernel
theorem dJ0_checkIndex_df160_9 : decode cJ0_checkIndex_df160 9 = .ok (.return_, 1) := by decide +kernel
theorem dJ0_checkBoundsOffCount_cabcc_0 : decode cJ0_checkBoundsOffCount_cabcc 0 = .ok (.iload_n 0, 1) := by decide +kernel
theorem dJ0_checkBoundsOffCount_cabcc_1 : decode cJ0_checkBoundsOffCount_cabcc 1 = .ok (.iload_n 1, 1) := by decide +kernel
theorem dJ0_checkBoundsOffCount_cabcc_2 : decode cJ0_checkBoundsOffCount_cabcc 2 = .ok (.iload_n 2, 1) := by decide +kernel
theorem dJ0_checkBoundsOffCount_cabcc_3 : decode cJ0_checkBoundsOffCount_cabcc 3 = .ok (.getstatic 1053, 3) := by decide +kernel
theorem dJ0_checkBoundsOffCount_cabcc_6 : decode cJ0_checkBoundsOffCount_cabcc 6 = .ok (.invokestatic 1065, 3) := by decide +kernel
theorem dJ0_checkBoundsOffCount_cabcc_9 : decode cJ0_checkBoundsOffCount_cabcc 9 = .ok (.ireturn, 1) := by decide +kernel
theorem dJ0_checkBoundsBeginEnd_23922_0 : decode cJ0_checkBoundsBeginEnd_23922 0 = .ok (.iload_n 0, 1) := by decide +kernel
theorem dJ0_checkBoundsBeginEnd_23922_1 : decode cJ0_checkBoundsBeginEnd_23922 1 = .ok (.iload_n 1, 1) := by decide +kernel
theorem dJ0_checkBoundsBeginEnd_23922_2 : decode cJ0_checkBoundsBeginEnd_23922 2 = .ok (.iload_n 2, 1) := by decide +kernel
theorem dJ0_checkBoundsBeginEnd_23922_3 : decode cJ0_checkBoundsBeginEnd_23922 3 = .ok (.getstatic 1053, 3) := by decide +kernel
theorem dJ0_checkBoundsBeginEnd_23922_6 : decode cJ0_checkBoundsBeginEnd_23922 6 = .ok (.invokestatic 1062, 3) := by decide +kernel
theorem dJ0_checkBoundsBeginEnd_23922_9 : decode cJ0_checkBoundsBeginEnd_23922 9 = .ok (.pop, 1) := by decide +kernel
theorem dJ0_checkBoundsBeginEnd_23922_10 : decode cJ0_checkBoundsBeginEnd_23922 10 = .ok (.return_, 1) := by decide +kernel
theorem dJ4_init_da8c8_0 : decode cJ4_init_da8c8 0 = .ok (.aload_n 0, 1) := by decide +kernel
theorem dJ4_init_da8c8_1 : decode cJ4_init_da8c8 1 = .ok (.bipush 16, 2) := by decide +kernel
theorem dJ4_init_da8c8_3 : decode cJ4_init_da8c8 3 = .ok (.invokespecial 1, 3) := by decide +kernel
theorem dJ4_init_da8c8_6 : decode cJ4_init_da8c8 6 = .ok (.return_, 1) := by decide +kernel
theorem dJ4_append_15ec4_0 : decode cJ4_append_15ec4 0 = .ok (.aload_n 0, 1) := by decide +kernel
theorem dJ4_append_15ec4_1 : decode cJ4_append_15ec4 1 = .ok (.aload_n 1, 1) := by decide +kernel
theorem dJ4_append_15ec4_2 : decode cJ4_append_15ec4 2 = .ok (.invokespecial 29, 3) := by decide +kernel
theorem dJ4_append_15ec4_5 : decode cJ4_append_15ec4 5 = .ok (.pop, 1) := by decide +kernel
theorem dJ4_append_15ec4_6 : decode cJ4_append_15ec4 6 = .ok (.aload_n 0, 1) := by decide +kernel
theorem dJ4_append_15ec4_7 : decode cJ4_append_15ec4 7 = .ok (.areturn, 1) := by decide +kernel
theorem dJ4_append_bf812_0 : decode cJ4_append_bf812 0 = .ok (.aload_n 0, 1) := by decide +kernel
theorem dJ4_append_bf812_1 : decode cJ4_append_bf812 1 = .ok (.iload_n 1, 1) := by decide +kernel
theorem dJ4_append_bf812_2 : decode cJ4_append_bf812 2 = .ok (.invokespecial 53, 3) := by decide +kernel
theorem dJ4_append_bf812_5 : decode cJ4_append_bf812 5 = .ok (.pop, 1) := by decide +kernel
theorem dJ4_append_bf812_6 : decode cJ4_append_bf812 6 = .ok (.aload_n 0, 1) := by decide +kernel
theorem dJ4_append_bf812_7 : decode cJ4_append_bf812 7 = .ok (.areturn, 1) := by decide +kernel
theorem dJ4_toString_0e30d_0 : decode cJ4_toString_0e30d 0 = .ok (.new 18, 3) := by decide +kernel
theorem dJ4_toString_0e30d_3 : decode cJ4_toString_0e30d 3 = .ok (.dup, 1) := by decide +kernel
theorem dJ4_toString_0e30d_4 : decode cJ4_toString_0e30d 4 = .ok (.aload_n 0, 1) := by decide +kernel
theorem dJ4_toString_0e30d_5 : decode cJ4_toString_0e30d 5 = .ok (.invokespecial 137, 3) := by decide +kernel
theorem dJ4_toString_0e30d_8 : decode cJ4_toString_0e30d 8 = .ok (.areturn, 1) := by decide +kernel
theorem dJ4_length_8abf5_0 : decode cJ4_length_8abf5 0 = .ok (.aload_n 0, 1) := by decide +kernel
theorem dJ4_length_8abf5_1 : decode cJ4_length_8abf5 1 = .ok (.invokespecial 343, 3) := by decide +kernel
theorem dJ4_length_8abf5_4 : decode cJ4_length_8abf5 4 = .ok (.ireturn, 1) := by decide +kernel
theorem dJ1_charAt_3b067_0 : decode cJ1_charAt_3b067 0 = .ok (.iload_n 1, 1) := by decide +kernel
theorem dJ1_charAt_3b067_1 : decode cJ1_charAt_3b067 1 = .ok (.aload_n 0, 1) := by decide +kernel
theorem dJ1_charAt_3b067_2 : decode cJ1_charAt_3b067 2 = .ok (.arraylength, 1) := by decide +kernel
theorem dJ1_charAt_3b067_3 : decode cJ1_charAt_3b067 3 = .ok (.invokestatic 9, 3) := by decide +kernel
theorem dJ1_charAt_3b067_6 : decode cJ1_charAt_3b067 6 = .ok (.aload_n 0, 1) := by decide +kernel
theorem dJ1_charAt_3b067_7 : decode cJ1_charAt_3b067 7 = .ok (.iload_n 1, 1) := by decide +kernel
theorem dJ1_charAt_3b067_8 : decode cJ1_charAt_3b067 8 = .ok (.baload, 1) := by decide +kernel
theorem dJ1_charAt_3b067_9 : decode cJ1_charAt_3b067 9 = .ok (.sipush 255, 3) := by decide +kernel
theorem dJ1_charAt_3b067_12 : decode cJ1_charAt_3b067 12 = .ok (.iand, 1) := by decide +kernel
theorem dJ1_charAt_3b067_13 : decode cJ1_charAt_3b067 13 = .ok (.i2c, 1) := by decide +kernel
theorem dJ1_charAt_3b067_14 : decode cJ1_charAt_3b067 14 = .ok (.ireturn, 1) := by decide +kernel
theorem dJ1_inflate_0e8fd_0 : decode cJ1_inflate_0e8fd 0 = .ok (.aload_n 0, 1) := by decide +kernel
theorem dJ1_inflate_0e8fd_1 : decode cJ1_inflate_0e8fd 1 = .ok (.iload_n 1, 1) := by decide +kernel
theorem dJ1_inflate_0e8fd_2 : decode cJ1_inflate_0e8fd 2 = .ok (.aload_n 2, 1) := by decide +kernel
theorem dJ1_inflate_0e8fd_3 : decode cJ1_inflate_0e8fd 3 = .ok (.iload_n 3, 1) := by decide +kernel
theorem dJ1_inflate_0e8fd_4 : decode cJ1_inflate_0e8fd 4 = .ok (.iload 4, 2) := by decide +kernel
theorem dJ1_inflate_0e8fd_6 : decode cJ1_inflate_0e8fd 6 = .ok (.invokestatic 240, 3) := by decide +kernel
theorem dJ1_inflate_0e8fd_9 : decode cJ1_inflate_0e8fd 9 = .ok (.return_, 1) := by decide +kernel
theorem dJ2_newBytesFor_77867_0 : decode cJ2_newBytesFor_77867 0 = .ok (.iload_n 0, 1) := by decide +kernel
theorem dJ2_newBytesFor_77867_1 : decode cJ2_newBytesFor_77867 1 = .ok (.invokestatic 11, 3) := by decide +kernel
theorem dJ2_newBytesFor_77867_4 : decode cJ2_newBytesFor_77867 4 = .ok (.newarray .byte, 2) := by decide +kernel
theorem dJ2_newBytesFor_77867_6 : decode cJ2_newBytesFor_77867 6 = .ok (.areturn, 1) := by decide +kernel
theorem dJ2_newBytesLength_0f7a4_0 : decode cJ2_newBytesLength_0f7a4 0 = .ok (.iload_n 0, 1) := by decide +kernel
theorem dJ2_newBytesLength_0f7a4_1 : decode cJ2_newBytesLength_0f7a4 1 = .ok (.ifCond .ge 11, 3) := by decide +kernel
theorem dJ2_newBytesLength_0f7a4_4 : decode cJ2_newBytesLength_0f7a4 4 = .ok (.new 17, 3) := by decide +kernel
theorem dJ2_newBytesLength_0f7a4_7 : decode cJ2_newBytesLength_0f7a4 7 = .ok (.dup, 1) := by decide +kernel
theorem dJ2_newBytesLength_0f7a4_8 : decode cJ2_newBytesLength_0f7a4 8 = .ok (.invokespecial 19, 3) := by decide +kernel
theorem dJ2_newBytesLength_0f7a4_11 : decode cJ2_newBytesLength_0f7a4 11 = .ok (.athrow, 1) := by decide +kernel
theorem dJ2_newBytesLength_0f7a4_12 : decode cJ2_newBytesLength_0f7a4 12 = .ok (.iload_n 0, 1) := by decide +kernel
theorem dJ2_newBytesLength_0f7a4_13 : decode cJ2_newBytesLength_0f7a4 13 = .ok (.ldc 20, 2) := by decide +kernel
theorem dJ2_newBytesLength_0f7a4_15 : decode cJ2_newBytesLength_0f7a4 15 = .ok (.if_icmp .lt 40, 3) := by decide +kernel
theorem dJ2_newBytesLength_0f7a4_18 : decode cJ2_newBytesLength_0f7a4 18 = .ok (.new 21, 3) := by decide +kernel
theorem dJ2_newBytesLength_0f7a4_21 : decode cJ2_newBytesLength_0f7a4 21 = .ok (.dup, 1) := by decide +kernel
theorem dJ2_newBytesLength_0f7a4_22 : decode cJ2_newBytesLength_0f7a4 22 = .ok (.new 23, 3) := by decide +kernel
theorem dJ2_newBytesLength_0f7a4_25 : decode cJ2_newBytesLength_0f7a4 25 = .ok (.dup, 1) := by decide +kernel
theorem dJ2_newBytesLength_0f7a4_26 : decode cJ2_newBytesLength_0f7a4 26 = .ok (.invokespecial 25, 3) := by decide +kernel
theorem dJ2_newBytesLength_0f7a4_29 : decode cJ2_newBytesLength_0f7a4 29 = .ok (.ldc 26, 2) := by decide +kernel
theorem dJ2_newBytesLength_0f7a4_31 : decode cJ2_newBytesLength_0f7a4 31 = .ok (.invokevirtual 28, 3) := by decide +kernel
theorem dJ2_newBytesLength_0f7a4_34 : decode cJ2_newBytesLength_0f7a4 34 = .ok (.iload_n 0, 1) := by decide +kernel
theorem dJ2_newBytesLength_0f7a4_35 : decode cJ2_newBytesLength_0f7a4 35 = .ok (.invokevirtual 32, 3) := by decide +kernel
theorem dJ2_newBytesLength_0f7a4_38 : decode cJ2_newBytesLength_0f7a4 38 = .ok (.ldc 35, 2) := by decide +kernel
theorem dJ2_newBytesLength_0f7a4_40 : decode cJ2_newBytesLength_0f7a4 40 = .ok (.invokevirtual 28, 3) := by decide +kernel
theorem dJ2_newBytesLength_0f7a4_43 : decode cJ2_newBytesLength_0f7a4 43 = .ok (.ldc 20, 2) := by decide +kernel
theorem dJ2_newBytesLength_0f7a4_45 : decode cJ2_newBytesLength_0f7a4 45 = .ok (.invokevirtual 32, 3) := by decide +kernel
theorem dJ2_newBytesLength_0f7a4_48 : decode cJ2_newBytesLength_0f7a4 48 = .ok (.invokevirtual 37, 3) := by decide +kernel
theorem dJ2_newBytesLength_0f7a4_51 : decode cJ2_newBytesLength_0f7a4 51 = .ok (.invokespecial 41, 3) := by decide +kernel
theorem dJ2_newBytesLength_0f7a4_54 : decode cJ2_newBytesLength_0f7a4 54 = .ok (.athrow, 1) := by decide +kernel
theorem dJ2_newBytesLength_0f7a4_55 : decode cJ2_newBytesLength_0f7a4 55 = .ok (.iload_n 0, 1) := by decide +kernel
theorem dJ2_newBytesLength_0f7a4_56 : decode cJ2_newBytesLength_0f7a4 56 = .ok (.iconst 1, 1) := by decide +kernel
theorem dJ2_newBytesLength_0f7a4_57 : decode cJ2_newBytesLength_0f7a4 57 = .ok (.ishl, 1) := by decide +kernel
theorem dJ2_newBytesLength_0f7a4_58 : decode cJ2_newBytesLength_0f7a4 58 = .ok (.ireturn, 1) := by decide +kernel
theorem dJ2_putChar_b72d1_0 : decode cJ2_putChar_b72d1 0 = .ok (.getstatic 44, 3) := by decide +kernel
theorem dJ2_putChar_b72d1_3 : decode cJ2_putChar_b72d1 3 = .ok (.ifCond .ne 25, 3) := by decide +kernel
theorem dJ2_putChar_b72d1_6 : decode cJ2_putChar_b72d1 6 = .ok (.iload_n 1, 1) := by decide +kernel
theorem dJ2_putChar_b72d1_7 : decode cJ2_putChar_b72d1 7 = .ok (.ifCond .lt 11, 3) := by decide +kernel
theorem dJ2_putChar_b72d1_10 : decode cJ2_putChar_b72d1 10 = .ok (.iload_n 1, 1) := by decide +kernel
theorem dJ2_putChar_b72d1_11 : decode cJ2_putChar_b72d1 11 = .ok (.aload_n 0, 1) := by decide +kernel
theorem dJ2_putChar_b72d1_12 : decode cJ2_putChar_b72d1 12 = .ok (.invokestatic 48, 3) := by decide +kernel
theorem dJ2_putChar_b72d1_15 : decode cJ2_putChar_b72d1 15 = .ok (.if_icmp .lt 13, 3) := by decide +kernel
theorem dJ2_putChar_b72d1_18 : decode cJ2_putChar_b72d1 18 = .ok (.new 52, 3) := by decide +kernel
theorem dJ2_putChar_b72d1_21 : decode cJ2_putChar_b72d1 21 = .ok (.dup, 1) := by decide +kernel
theorem dJ2_putChar_b72d1_22 : decode cJ2_putChar_b72d1 22 = .ok (.ldc 54, 2) := by decide +kernel
theorem dJ2_putChar_b72d1_24 : decode cJ2_putChar_b72d1 24 = .ok (.invokespecial 56, 3) := by decide +kernel
theorem dJ2_putChar_b72d1_27 : decode cJ2_putChar_b72d1 27 = .ok (.athrow, 1) := by decide +kernel
theorem dJ2_putChar_b72d1_28 : decode cJ2_putChar_b72d1 28 = .ok (.iload_n 1, 1) := by decide +kernel
theorem dJ2_putChar_b72d1_29 : decode cJ2_putChar_b72d1 29 = .ok (.iconst 1, 1) := by decide +kernel
theorem dJ2_putChar_b72d1_30 : decode cJ2_putChar_b72d1 30 = .ok (.ishl, 1) := by decide +kernel
theorem dJ2_putChar_b72d1_31 : decode cJ2_putChar_b72d1 31 = .ok (.istore_n 1, 1) := by decide +kernel
theorem dJ2_putChar_b72d1_32 : decode cJ2_putChar_b72d1 32 = .ok (.aload_n 0, 1) := by decide +kernel
theorem dJ2_putChar_b72d1_33 : decode cJ2_putChar_b72d1 33 = .ok (.iload_n 1, 1) := by decide +kernel
theorem dJ2_putChar_b72d1_34 : decode cJ2_putChar_b72d1 34 = .ok (.iinc 1 1, 3) := by decide +kernel
theorem dJ2_putChar_b72d1_37 : decode cJ2_putChar_b72d1 37 = .ok (.iload_n 2, 1) := by decide +kernel
theorem dJ2_putChar_b72d1_38 : decode cJ2_putChar_b72d1 38 = .ok (.getstatic 59, 3) := by decide +kernel
theorem dJ2_putChar_b72d1_41 : decode cJ2_putChar_b72d1 41 = .ok (.ishr, 1) := by decide +kernel
theorem dJ2_putChar_b72d1_42 : decode cJ2_putChar_b72d1 42 = .ok (.i2b, 1) := by decide +kernel
theorem dJ2_putChar_b72d1_43 : decode cJ2_putChar_b72d1 43 = .ok (.bastore, 1) := by decide +kernel
theorem dJ2_putChar_b72d1_44 : decode cJ2_putChar_b72d1 44 = .ok (.aload_n 0, 1) := by decide +kernel
theorem dJ2_putChar_b72d1_45 : decode cJ2_putChar_b72d1 45 = .ok (.iload_n 1, 1) := by decide +kernel
theorem dJ2_putChar_b72d1_46 : decode cJ2_putChar_b72d1 46 = .ok (.iload_n 2, 1) := by decide +kernel
theorem dJ2_putChar_b72d1_47 : decode cJ2_putChar_b72d1 47 = .ok (.getstatic 63, 3) := by decide +kernel
theorem dJ2_putChar_b72d1_50 : decode cJ2_putChar_b72d1 50 = .ok (.ishr, 1) := by decide +kernel
theorem dJ2_putChar_b72d1_51 : decode cJ2_putChar_b72d1 51 = .ok (.i2b, 1) := by decide +kernel
theorem dJ2_putChar_b72d1_52 : decode cJ2_putChar_b72d1 52 = .ok (.bastore, 1) := by decide +kernel
theorem dJ2_putChar_b72d1_53 : decode cJ2_putChar_b72d1 53 = .ok (.return_, 1) := by decide +kernel
theorem dJ2_getChar_3b067_0 : decode cJ2_getChar_3b067 0 = .ok (.getstatic 44, 3) := by decide +kernel
theorem dJ2_getChar_3b067_3 : decode cJ2_getChar_3b067 3 = .ok (.ifCond .ne 25, 3) := by decide +kernel
theorem dJ2_getChar_3b067_6 : decode cJ2_getChar_3b067 6 = .ok (.iload_n 1, 1) := by decide +kernel
theorem dJ2_getChar_3b067_7 : decode cJ2_getChar_3b067 7 = .ok (.ifCond .lt 11, 3) := by decide +kernel
theorem dJ2_getChar_3b067_10 : decode cJ2_getChar_3b067 10 = .ok (.iload_n 1, 1) := by decide +kernel
theorem dJ2_getChar_3b067_11 : decode cJ2_getChar_3b067 11 = .ok (.aload_n 0, 1) := by decide +kernel
theorem dJ2_getChar_3b067_12 : decode cJ2_getChar_3b067 12 = .ok (.invokestatic 48, 3) := by decide +kernel
theorem dJ2_getChar_3b067_15 : decode cJ2_getChar_3b067 15 = .ok (.if_icmp .lt 13, 3) := by decide +kernel
theorem dJ2_getChar_3b067_18 : decode cJ2_getChar_3b067 18 = .ok (.new 52, 3) := by decide +kernel
theorem dJ2_getChar_3b067_21 : decode cJ2_getChar_3b067 21 = .ok (.dup, 1) := by decide +kernel
theorem dJ2_getChar_3b067_22 : decode cJ2_getChar_3b067 22 = .ok (.ldc 54, 2) := by decide +kernel
theorem dJ2_getChar_3b067_24 : decode cJ2_getChar_3b067 24 = .ok (.invokespecial 56, 3) := by decide +kernel
theorem dJ2_getChar_3b067_27 : decode cJ2_getChar_3b067 27 = .ok (.athrow, 1) := by decide +kernel
theorem dJ2_getChar_3b067_28 : decode cJ2_getChar_3b067 28 = .ok (.iload_n 1, 1) := by decide +kernel
theorem dJ2_getChar_3b067_29 : decode cJ2_getChar_3b067 29 = .ok (.iconst 1, 1) := by decide +kernel
theorem dJ2_getChar_3b067_30 : decode cJ2_getChar_3b067 30 = .ok (.ishl, 1) := by decide +kernel
theorem dJ2_getChar_3b067_31 : decode cJ2_getChar_3b067 31 = .ok (.istore_n 1, 1) := by decide +kernel
theorem dJ2_getChar_3b067_32 : decode cJ2_getChar_3b067 32 = .ok (.aload_n 0, 1) := by decide +kernel
theorem dJ2_getChar_3b067_33 : decode cJ2_getChar_3b067 33 = .ok (.iload_n 1, 1) := by decide +kernel
theorem dJ2_getChar_3b067_34 : decode cJ2_getChar_3b067 34 = .ok (.iinc 1 1, 3) := by decide +kernel
theorem dJ2_getChar_3b067_37 : decode cJ2_getChar_3b067 37 = .ok (.baload, 1) := by decide +kernel
theorem dJ2_getChar_3b067_38 : decode cJ2_getChar_3b067 38 = .ok (.sipush 255, 3) := by decide +kernel
theorem dJ2_getChar_3b067_41 : decode cJ2_getChar_3b067 41 = .ok (.iand, 1) := by decide +kernel
theorem dJ2_getChar_3b067_42 : decode cJ2_getChar_3b067 42 = .ok (.getstatic 59, 3) := by decide +kernel
theorem dJ2_getChar_3b067_45 : decode cJ2_getChar_3b067 45 = .ok (.ishl, 1) := by decide +kernel
theorem dJ2_getChar_3b067_46 : decode cJ2_getChar_3b067 46 = .ok (.aload_n 0, 1) := by decide +kernel
theorem dJ2_getChar_3b067_47 : decode cJ2_getChar_3b067 47 = .ok (.iload_n 1, 1) := by decide +kernel
theorem dJ2_getChar_3b067_48 : decode cJ2_getChar_3b067 48 = .ok (.baload, 1) := by decide +kernel
theorem dJ2_getChar_3b067_49 : decode cJ2_getChar_3b067 49 = .ok (.sipush 255, 3) := by decide +kernel
theorem dJ2_getChar_3b067_52 : decode cJ2_getChar_3b067 52 = .ok (.iand, 1) := by decide +kernel
theorem dJ2_getChar_3b067_53 : decode cJ2_getChar_3b067 53 = .ok (.getstatic 63, 3) := by decide +kernel
theorem dJ2_getChar_3b067_56 : decode cJ2_getChar_3b067 56 = .ok (.ishl, 1) := by decide +kernel
theorem dJ2_getChar_3b067_57 : decode cJ2_getChar_3b067 57 = .ok (.ior, 1) := by decide +kernel
theorem dJ2_getChar_3b067_58 : decode cJ2_getChar_3b067 58 = .ok (.i2c, 1) := by decide +kernel
theorem dJ2_getChar_3b067_59 : decode cJ2_getChar_3b067 59 = .ok (.ireturn, 1) := by decide +kernel
theorem dJ2_length_9d52b_0 : decode cJ2_length_9d52b 0 = .ok (.aload_n 0, 1) := by decide +kernel
theorem dJ2_length_9d52b_1 : decode cJ2_length_9d52b 1 = .ok (.arraylength, 1) := by decide +kernel
theorem dJ2_length_9d52b_2 : decode cJ2_length_9d52b 2 = .ok (.iconst 1, 1) := by decide +kernel
theorem dJ2_length_9d52b_3 : decode cJ2_length_9d52b 3 = .ok (.ishr, 1) := by decide +kernel
theorem dJ2_length_9d52b_4 : decode cJ2_length_9d52b 4 = .ok (.ireturn, 1) := by decide +kernel
theorem dJ2_coderFromArrayLen_85cad_0 : decode cJ2_coderFromArrayLen_85cad 0 = .ok (.iload_n 1, 1) := by decide +kernel
theorem dJ2_coderFromArrayLen_85cad_1 : decode cJ2_coderFromArrayLen_85cad 1 = .ok (.aload_n 0, 1) := by decide +kernel
theorem dJ2_coderFromArrayLen_85cad_2 : decode cJ2_coderFromArrayLen_85cad 2 = .ok (.arraylength, 1) := by decide +kernel
theorem dJ2_coderFromArrayLen_85cad_3 : decode cJ2_coderFromArrayLen_85cad 3 = .ok (.isub, 1) := by decide +kernel
theorem dJ2_coderFromArrayLen_85cad_4 : decode cJ2_coderFromArrayLen_85cad 4 = .ok (.bipush 31, 2) := by decide +kernel
theorem dJ2_coderFromArrayLen_85cad_6 : decode cJ2_coderFromArrayLen_85cad 6 = .ok (.iushr, 1) := by decide +kernel
theorem dJ2_coderFromArrayLen_85cad_7 : decode cJ2_coderFromArrayLen_85cad 7 = .ok (.i2b, 1) := by decide +kernel
theorem dJ2_coderFromArrayLen_85cad_8 : decode cJ2_coderFromArrayLen_85cad 8 = .ok (.ireturn, 1) := by decide +kernel
theorem dJ2_compress_39247_0 : decode cJ2_compress_39247 0 = .ok (.iload_n 2, 1) := by decide +kernel
theorem dJ2_compress_39247_1 : decode cJ2_compress_39247 1 = .ok (.newarray .byte, 2) := by decide +kernel
end
section
theorem dJ2_compress_39247_3 : decode cJ2_compress_39247 3 = .ok (.astore_n 3, 1) := by decide +kernel
theorem dJ2_compress_39247_4 : decode cJ2_compress_39247 4 = .ok (.aload_n 0, 1) := by decide +kernel
theorem dJ2_compress_39247_5 : decode cJ2_compress_39247 5 = .ok (.iload_n 1, 1) := by decide +kernel
theorem dJ2_compress_39247_6 : decode cJ2_compress_39247 6 = .ok (.aload_n 3, 1) := by decide +kernel
theorem dJ2_compress_39247_7 : decode cJ2_compress_39247 7 = .ok (.iconst 0, 1) := by decide +kernel
theorem dJ2_compress_39247_8 : decode cJ2_compress_39247 8 = .ok (.iload_n 2, 1) := by decide +kernel
theorem dJ2_compress_39247_9 : decode cJ2_compress_39247 9 = .ok (.invokestatic 123, 3) := by decide +kernel
theorem dJ2_compress_39247_12 : decode cJ2_compress_39247 12 = .ok (.istore 4, 2) := by decide +kernel
theorem dJ2_compress_39247_14 : decode cJ2_compress_39247 14 = .ok (.iload 4, 2) := by decide +kernel
theorem dJ2_compress_39247_16 : decode cJ2_compress_39247 16 = .ok (.iload_n 2, 1) := by decide +kernel
theorem dJ2_compress_39247_17 : decode cJ2_compress_39247 17 = .ok (.if_icmp .eq 47, 3) := by decide +kernel
theorem dJ2_compress_39247_20 : decode cJ2_compress_39247 20 = .ok (.aload_n 0, 1) := by decide +kernel
theorem dJ2_compress_39247_21 : decode cJ2_compress_39247 21 = .ok (.iload_n 1, 1) := by decide +kernel
theorem dJ2_compress_39247_22 : decode cJ2_compress_39247 22 = .ok (.iconst 1, 1) := by decide +kernel
theorem dJ2_compress_39247_23 : decode cJ2_compress_39247 23 = .ok (.ishl, 1) := by decide +kernel
theorem dJ2_compress_39247_24 : decode cJ2_compress_39247 24 = .ok (.iload_n 1, 1) := by decide +kernel
theorem dJ2_compress_39247_25 : decode cJ2_compress_39247 25 = .ok (.iload_n 2, 1) := by decide +kernel
theorem dJ2_compress_39247_26 : decode cJ2_compress_39247 26 = .ok (.iadd, 1) := by decide +kernel
theorem dJ2_compress_39247_27 : decode cJ2_compress_39247 27 = .ok (.invokestatic 11, 3) := by decide +kernel
theorem dJ2_compress_39247_30 : decode cJ2_compress_39247 30 = .ok (.invokestatic 126, 3) := by decide +kernel
theorem dJ2_compress_39247_33 : decode cJ2_compress_39247 33 = .ok (.astore 5, 2) := by decide +kernel
theorem dJ2_compress_39247_35 : decode cJ2_compress_39247 35 = .ok (.aload 5, 2) := by decide +kernel
theorem dJ2_compress_39247_37 : decode cJ2_compress_39247 37 = .ok (.iload 4, 2) := by decide +kernel
theorem dJ2_compress_39247_39 : decode cJ2_compress_39247 39 = .ok (.invokestatic 71, 3) := by decide +kernel
theorem dJ2_compress_39247_42 : decode cJ2_compress_39247 42 = .ok (.sipush 255, 3) := by decide +kernel
theorem dJ2_compress_39247_45 : decode cJ2_compress_39247 45 = .ok (.if_icmp .gt 16, 3) := by decide +kernel
theorem dJ2_compress_39247_48 : decode cJ2_compress_39247 48 = .ok (.aload 5, 2) := by decide +kernel
theorem dJ2_compress_39247_50 : decode cJ2_compress_39247 50 = .ok (.iconst 0, 1) := by decide +kernel
theorem dJ2_compress_39247_51 : decode cJ2_compress_39247 51 = .ok (.aload_n 3, 1) := by decide +kernel
theorem dJ2_compress_39247_52 : decode cJ2_compress_39247 52 = .ok (.iconst 0, 1) := by decide +kernel
theorem dJ2_compress_39247_53 : decode cJ2_compress_39247 53 = .ok (.iload_n 2, 1) := by decide +kernel
theorem dJ2_compress_39247_54 : decode cJ2_compress_39247 54 = .ok (.invokestatic 123, 3) := by decide +kernel
theorem dJ2_compress_39247_57 : decode cJ2_compress_39247 57 = .ok (.iload_n 2, 1) := by decide +kernel
theorem dJ2_compress_39247_58 : decode cJ2_compress_39247 58 = .ok (.if_icmp .eq 6, 3) := by decide +kernel
theorem dJ2_compress_39247_61 : decode cJ2_compress_39247 61 = .ok (.aload 5, 2) := by decide +kernel
theorem dJ2_compress_39247_63 : decode cJ2_compress_39247 63 = .ok (.areturn, 1) := by decide +kernel
theorem dJ2_compress_39247_64 : decode cJ2_compress_39247 64 = .ok (.aload_n 3, 1) := by decide +kernel
theorem dJ2_compress_39247_65 : decode cJ2_compress_39247 65 = .ok (.areturn, 1) := by decide +kernel
theorem dJ2_compress_5af95_0 : decode cJ2_compress_5af95 0 = .ok (.iload_n 1, 1) := by decide +kernel
theorem dJ2_compress_5af95_1 : decode cJ2_compress_5af95 1 = .ok (.iload 4, 2) := by decide +kernel
theorem dJ2_compress_5af95_3 : decode cJ2_compress_5af95 3 = .ok (.aload_n 0, 1) := by decide +kernel
theorem dJ2_compress_5af95_4 : decode cJ2_compress_5af95 4 = .ok (.invokestatic 173, 3) := by decide +kernel
theorem dJ2_compress_5af95_7 : decode cJ2_compress_5af95 7 = .ok (.iconst 0, 1) := by decide +kernel
theorem dJ2_compress_5af95_8 : decode cJ2_compress_5af95 8 = .ok (.istore 5, 2) := by decide +kernel
theorem dJ2_compress_5af95_10 : decode cJ2_compress_5af95 10 = .ok (.iload 5, 2) := by decide +kernel
theorem dJ2_compress_5af95_12 : decode cJ2_compress_5af95 12 = .ok (.iload 4, 2) := by decide +kernel
theorem dJ2_compress_5af95_14 : decode cJ2_compress_5af95 14 = .ok (.if_icmp .ge 39, 3) := by decide +kernel
theorem dJ2_compress_5af95_17 : decode cJ2_compress_5af95 17 = .ok (.aload_n 0, 1) := by decide +kernel
theorem dJ2_compress_5af95_18 : decode cJ2_compress_5af95 18 = .ok (.iload_n 1, 1) := by decide +kernel
theorem dJ2_compress_5af95_19 : decode cJ2_compress_5af95 19 = .ok (.invokestatic 71, 3) := by decide +kernel
theorem dJ2_compress_5af95_22 : decode cJ2_compress_5af95 22 = .ok (.istore 6, 2) := by decide +kernel
theorem dJ2_compress_5af95_24 : decode cJ2_compress_5af95 24 = .ok (.iload 6, 2) := by decide +kernel
theorem dJ2_compress_5af95_26 : decode cJ2_compress_5af95 26 = .ok (.sipush 255, 3) := by decide +kernel
theorem dJ2_compress_5af95_29 : decode cJ2_compress_5af95 29 = .ok (.if_icmp .le 6, 3) := by decide +kernel
theorem dJ2_compress_5af95_32 : decode cJ2_compress_5af95 32 = .ok (.iload 5, 2) := by decide +kernel
theorem dJ2_compress_5af95_34 : decode cJ2_compress_5af95 34 = .ok (.ireturn, 1) := by decide +kernel
theorem dJ2_compress_5af95_35 : decode cJ2_compress_5af95 35 = .ok (.aload_n 2, 1) := by decide +kernel
theorem dJ2_compress_5af95_36 : decode cJ2_compress_5af95 36 = .ok (.iload_n 3, 1) := by decide +kernel
theorem dJ2_compress_5af95_37 : decode cJ2_compress_5af95 37 = .ok (.iload 6, 2) := by decide +kernel
theorem dJ2_compress_5af95_39 : decode cJ2_compress_5af95 39 = .ok (.i2b, 1) := by decide +kernel
theorem dJ2_compress_5af95_40 : decode cJ2_compress_5af95 40 = .ok (.bastore, 1) := by decide +kernel
theorem dJ2_compress_5af95_41 : decode cJ2_compress_5af95 41 = .ok (.iinc 1 1, 3) := by decide +kernel
theorem dJ2_compress_5af95_44 : decode cJ2_compress_5af95 44 = .ok (.iinc 3 1, 3) := by decide +kernel
theorem dJ2_compress_5af95_47 : decode cJ2_compress_5af95 47 = .ok (.iinc 5 1, 3) := by decide +kernel
theorem dJ2_compress_5af95_50 : decode cJ2_compress_5af95 50 = .ok (.goto (-40), 3) := by decide +kernel
theorem dJ2_compress_5af95_53 : decode cJ2_compress_5af95 53 = .ok (.iload 4, 2) := by decide +kernel
theorem dJ2_compress_5af95_55 : decode cJ2_compress_5af95 55 = .ok (.ireturn, 1) := by decide +kernel
theorem dJ2_getChars_46870_0 : decode cJ2_getChars_46870 0 = .ok (.iload_n 1, 1) := by decide +kernel
theorem dJ2_getChars_46870_1 : decode cJ2_getChars_46870 1 = .ok (.iload_n 2, 1) := by decide +kernel
theorem dJ2_getChars_46870_2 : decode cJ2_getChars_46870 2 = .ok (.aload_n 3, 1) := by decide +kernel
theorem dJ2_getChars_46870_3 : decode cJ2_getChars_46870 3 = .ok (.invokestatic 96, 3) := by decide +kernel
theorem dJ2_getChars_46870_6 : decode cJ2_getChars_46870 6 = .ok (.iload_n 0, 1) := by decide +kernel
theorem dJ2_getChars_46870_7 : decode cJ2_getChars_46870 7 = .ok (.iload_n 2, 1) := by decide +kernel
theorem dJ2_getChars_46870_8 : decode cJ2_getChars_46870 8 = .ok (.aload_n 3, 1) := by decide +kernel
theorem dJ2_getChars_46870_9 : decode cJ2_getChars_46870 9 = .ok (.invokestatic 393, 3) := by decide +kernel
theorem dJ2_getChars_46870_12 : decode cJ2_getChars_46870 12 = .ok (.istore 4, 2) := by decide +kernel
theorem dJ2_getChars_46870_14 : decode cJ2_getChars_46870 14 = .ok (.getstatic 44, 3) := by decide +kernel
theorem dJ2_getChars_46870_17 : decode cJ2_getChars_46870 17 = .ok (.ifCond .ne 17, 3) := by decide +kernel
theorem dJ2_getChars_46870_20 : decode cJ2_getChars_46870 20 = .ok (.iload_n 1, 1) := by decide +kernel
theorem dJ2_getChars_46870_21 : decode cJ2_getChars_46870 21 = .ok (.iload 4, 2) := by decide +kernel
theorem dJ2_getChars_46870_23 : decode cJ2_getChars_46870 23 = .ok (.if_icmp .eq 11, 3) := by decide +kernel
theorem dJ2_getChars_46870_26 : decode cJ2_getChars_46870 26 = .ok (.new 52, 3) := by decide +kernel
theorem dJ2_getChars_46870_29 : decode cJ2_getChars_46870 29 = .ok (.dup, 1) := by decide +kernel
theorem dJ2_getChars_46870_30 : decode cJ2_getChars_46870 30 = .ok (.invokespecial 66, 3) := by decide +kernel
theorem dJ2_getChars_46870_33 : decode cJ2_getChars_46870 33 = .ok (.athrow, 1) := by decide +kernel
theorem dJ2_getChars_46870_34 : decode cJ2_getChars_46870 34 = .ok (.iload 4, 2) := by decide +kernel
theorem dJ2_getChars_46870_36 : decode cJ2_getChars_46870 36 = .ok (.ireturn, 1) := by decide +kernel
theorem dJ2_putCharsAt_cd4e5_0 : decode cJ2_putCharsAt_cd4e5 0 = .ok (.iload_n 1, 1) := by decide +kernel
theorem dJ2_putCharsAt_cd4e5_1 : decode cJ2_putCharsAt_cd4e5 1 = .ok (.iconst 4, 1) := by decide +kernel
theorem dJ2_putCharsAt_cd4e5_2 : decode cJ2_putCharsAt_cd4e5 2 = .ok (.iadd, 1) := by decide +kernel
theorem dJ2_putCharsAt_cd4e5_3 : decode cJ2_putCharsAt_cd4e5 3 = .ok (.istore 6, 2) := by decide +kernel
theorem dJ2_putCharsAt_cd4e5_5 : decode cJ2_putCharsAt_cd4e5 5 = .ok (.iload_n 1, 1) := by decide +kernel
theorem dJ2_putCharsAt_cd4e5_6 : decode cJ2_putCharsAt_cd4e5 6 = .ok (.iload 6, 2) := by decide +kernel
theorem dJ2_putCharsAt_cd4e5_8 : decode cJ2_putCharsAt_cd4e5 8 = .ok (.aload_n 0, 1) := by decide +kernel
theorem dJ2_putCharsAt_cd4e5_9 : decode cJ2_putCharsAt_cd4e5 9 = .ok (.invokestatic 96, 3) := by decide +kernel
theorem dJ2_putCharsAt_cd4e5_12 : decode cJ2_putCharsAt_cd4e5 12 = .ok (.aload_n 0, 1) := by decide +kernel
theorem dJ2_putCharsAt_cd4e5_13 : decode cJ2_putCharsAt_cd4e5 13 = .ok (.iload_n 1, 1) := by decide +kernel
theorem dJ2_putCharsAt_cd4e5_14 : decode cJ2_putCharsAt_cd4e5 14 = .ok (.iinc 1 1, 3) := by decide +kernel
theorem dJ2_putCharsAt_cd4e5_17 : decode cJ2_putCharsAt_cd4e5 17 = .ok (.iload_n 2, 1) := by decide +kernel
theorem dJ2_putCharsAt_cd4e5_18 : decode cJ2_putCharsAt_cd4e5 18 = .ok (.invokestatic 111, 3) := by decide +kernel
theorem dJ2_putCharsAt_cd4e5_21 : decode cJ2_putCharsAt_cd4e5 21 = .ok (.aload_n 0, 1) := by decide +kernel
theorem dJ2_putCharsAt_cd4e5_22 : decode cJ2_putCharsAt_cd4e5 22 = .ok (.iload_n 1, 1) := by decide +kernel
theorem dJ2_putCharsAt_cd4e5_23 : decode cJ2_putCharsAt_cd4e5 23 = .ok (.iinc 1 1, 3) := by decide +kernel
theorem dJ2_putCharsAt_cd4e5_26 : decode cJ2_putCharsAt_cd4e5 26 = .ok (.iload_n 3, 1) := by decide +kernel
theorem dJ2_putCharsAt_cd4e5_27 : decode cJ2_putCharsAt_cd4e5 27 = .ok (.invokestatic 111, 3) := by decide +kernel
theorem dJ2_putCharsAt_cd4e5_30 : decode cJ2_putCharsAt_cd4e5 30 = .ok (.aload_n 0, 1) := by decide +kernel
theorem dJ2_putCharsAt_cd4e5_31 : decode cJ2_putCharsAt_cd4e5 31 = .ok (.iload_n 1, 1) := by decide +kernel
theorem dJ2_putCharsAt_cd4e5_32 : decode cJ2_putCharsAt_cd4e5 32 = .ok (.iinc 1 1, 3) := by decide +kernel
theorem dJ2_putCharsAt_cd4e5_35 : decode cJ2_putCharsAt_cd4e5 35 = .ok (.iload 4, 2) := by decide +kernel
theorem dJ2_putCharsAt_cd4e5_37 : decode cJ2_putCharsAt_cd4e5 37 = .ok (.invokestatic 111, 3) := by decide +kernel
theorem dJ2_putCharsAt_cd4e5_40 : decode cJ2_putCharsAt_cd4e5 40 = .ok (.aload_n 0, 1) := by decide +kernel
theorem dJ2_putCharsAt_cd4e5_41 : decode cJ2_putCharsAt_cd4e5 41 = .ok (.iload_n 1, 1) := by decide +kernel
theorem dJ2_putCharsAt_cd4e5_42 : decode cJ2_putCharsAt_cd4e5 42 = .ok (.iinc 1 1, 3) := by decide +kernel
theorem dJ2_putCharsAt_cd4e5_45 : decode cJ2_putCharsAt_cd4e5 45 = .ok (.iload 5, 2) := by decide +kernel
theorem dJ2_putCharsAt_cd4e5_47 : decode cJ2_putCharsAt_cd4e5 47 = .ok (.invokestatic 111, 3) := by decide +kernel
theorem dJ2_putCharsAt_cd4e5_50 : decode cJ2_putCharsAt_cd4e5 50 = .ok (.getstatic 44, 3) := by decide +kernel
theorem dJ2_putCharsAt_cd4e5_53 : decode cJ2_putCharsAt_cd4e5 53 = .ok (.ifCond .ne 17, 3) := by decide +kernel
theorem dJ2_putCharsAt_cd4e5_56 : decode cJ2_putCharsAt_cd4e5 56 = .ok (.iload_n 1, 1) := by decide +kernel
theorem dJ2_putCharsAt_cd4e5_57 : decode cJ2_putCharsAt_cd4e5 57 = .ok (.iload 6, 2) := by decide +kernel
theorem dJ2_putCharsAt_cd4e5_59 : decode cJ2_putCharsAt_cd4e5 59 = .ok (.if_icmp .eq 11, 3) := by decide +kernel
theorem dJ2_putCharsAt_cd4e5_62 : decode cJ2_putCharsAt_cd4e5 62 = .ok (.new 52, 3) := by decide +kernel
theorem dJ2_putCharsAt_cd4e5_65 : decode cJ2_putCharsAt_cd4e5 65 = .ok (.dup, 1) := by decide +kernel
theorem dJ2_putCharsAt_cd4e5_66 : decode cJ2_putCharsAt_cd4e5 66 = .ok (.invokespecial 66, 3) := by decide +kernel
theorem dJ2_putCharsAt_cd4e5_69 : decode cJ2_putCharsAt_cd4e5 69 = .ok (.athrow, 1) := by decide +kernel
theorem dJ2_putCharsAt_cd4e5_70 : decode cJ2_putCharsAt_cd4e5 70 = .ok (.iload 6, 2) := by decide +kernel
theorem dJ2_putCharsAt_cd4e5_72 : decode cJ2_putCharsAt_cd4e5 72 = .ok (.ireturn, 1) := by decide +kernel
theorem dJ2_charAt_3b067_0 : decode cJ2_charAt_3b067 0 = .ok (.iload_n 1, 1) := by decide +kernel
theorem dJ2_charAt_3b067_1 : decode cJ2_charAt_3b067 1 = .ok (.aload_n 0, 1) := by decide +kernel
theorem dJ2_charAt_3b067_2 : decode cJ2_charAt_3b067 2 = .ok (.invokestatic 67, 3) := by decide +kernel
theorem dJ2_charAt_3b067_5 : decode cJ2_charAt_3b067 5 = .ok (.aload_n 0, 1) := by decide +kernel
theorem dJ2_charAt_3b067_6 : decode cJ2_charAt_3b067 6 = .ok (.iload_n 1, 1) := by decide +kernel
theorem dJ2_charAt_3b067_7 : decode cJ2_charAt_3b067 7 = .ok (.invokestatic 71, 3) := by decide +kernel
theorem dJ2_charAt_3b067_10 : decode cJ2_charAt_3b067 10 = .ok (.ireturn, 1) := by decide +kernel
theorem dJ2_inflate_0e8fd_0 : decode cJ2_inflate_0e8fd 0 = .ok (.iload_n 3, 1) := by decide +kernel
theorem dJ2_inflate_0e8fd_1 : decode cJ2_inflate_0e8fd 1 = .ok (.iload 4, 2) := by decide +kernel
theorem dJ2_inflate_0e8fd_3 : decode cJ2_inflate_0e8fd 3 = .ok (.aload_n 2, 1) := by decide +kernel
theorem dJ2_inflate_0e8fd_4 : decode cJ2_inflate_0e8fd 4 = .ok (.invokestatic 173, 3) := by decide +kernel
theorem dJ2_inflate_0e8fd_7 : decode cJ2_inflate_0e8fd 7 = .ok (.iconst 0, 1) := by decide +kernel
theorem dJ2_inflate_0e8fd_8 : decode cJ2_inflate_0e8fd 8 = .ok (.istore 5, 2) := by decide +kernel
theorem dJ2_inflate_0e8fd_10 : decode cJ2_inflate_0e8fd 10 = .ok (.iload 5, 2) := by decide +kernel
theorem dJ2_inflate_0e8fd_12 : decode cJ2_inflate_0e8fd 12 = .ok (.iload 4, 2) := by decide +kernel
theorem dJ2_inflate_0e8fd_14 : decode cJ2_inflate_0e8fd 14 = .ok (.if_icmp .ge 27, 3) := by decide +kernel
theorem dJ2_inflate_0e8fd_17 : decode cJ2_inflate_0e8fd 17 = .ok (.aload_n 2, 1) := by decide +kernel
theorem dJ2_inflate_0e8fd_18 : decode cJ2_inflate_0e8fd 18 = .ok (.iload_n 3, 1) := by decide +kernel
theorem dJ2_inflate_0e8fd_19 : decode cJ2_inflate_0e8fd 19 = .ok (.iinc 3 1, 3) := by decide +kernel
theorem dJ2_inflate_0e8fd_22 : decode cJ2_inflate_0e8fd 22 = .ok (.aload_n 0, 1) := by decide +kernel
theorem dJ2_inflate_0e8fd_23 : decode cJ2_inflate_0e8fd 23 = .ok (.iload_n 1, 1) := by decide +kernel
theorem dJ2_inflate_0e8fd_24 : decode cJ2_inflate_0e8fd 24 = .ok (.iinc 1 1, 3) := by decide +kernel
theorem dJ2_inflate_0e8fd_27 : decode cJ2_inflate_0e8fd 27 = .ok (.baload, 1) := by decide +kernel
theorem dJ2_inflate_0e8fd_28 : decode cJ2_inflate_0e8fd 28 = .ok (.sipush 255, 3) := by decide +kernel
theorem dJ2_inflate_0e8fd_31 : decode cJ2_inflate_0e8fd 31 = .ok (.iand, 1) := by decide +kernel
theorem dJ2_inflate_0e8fd_32 : decode cJ2_inflate_0e8fd 32 = .ok (.invokestatic 111, 3) := by decide +kernel
theorem dJ2_inflate_0e8fd_35 : decode cJ2_inflate_0e8fd 35 = .ok (.iinc 5 1, 3) := by decide +kernel
theorem dJ2_inflate_0e8fd_38 : decode cJ2_inflate_0e8fd 38 = .ok (.goto (-28), 3) := by decide +kernel
theorem dJ2_inflate_0e8fd_41 : decode cJ2_inflate_0e8fd 41 = .ok (.return_, 1) := by decide +kernel
theorem dJ2_getChars_ba4f3_0 : decode cJ2_getChars_ba4f3 0 = .ok (.iload_n 1, 1) := by decide +kernel
theorem dJ2_getChars_ba4f3_1 : decode cJ2_getChars_ba4f3 1 = .ok (.istore 5, 2) := by decide +kernel
theorem dJ2_getChars_ba4f3_3 : decode cJ2_getChars_ba4f3 3 = .ok (.iload_n 0, 1) := by decide +kernel
theorem dJ2_getChars_ba4f3_4 : decode cJ2_getChars_ba4f3 4 = .ok (.ifCond .ge 7, 3) := by decide +kernel
theorem dJ2_getChars_ba4f3_7 : decode cJ2_getChars_ba4f3 7 = .ok (.iconst 1, 1) := by decide +kernel
theorem dJ2_getChars_ba4f3_8 : decode cJ2_getChars_ba4f3 8 = .ok (.goto 4, 3) := by decide +kernel
theorem dJ2_getChars_ba4f3_11 : decode cJ2_getChars_ba4f3 11 = .ok (.iconst 0, 1) := by decide +kernel
theorem dJ2_getChars_ba4f3_12 : decode cJ2_getChars_ba4f3 12 = .ok (.istore 6, 2) := by decide +kernel
theorem dJ2_getChars_ba4f3_14 : decode cJ2_getChars_ba4f3 14 = .ok (.iload 6, 2) := by decide +kernel
theorem dJ2_getChars_ba4f3_16 : decode cJ2_getChars_ba4f3 16 = .ok (.ifCond .ne 6, 3) := by decide +kernel
theorem dJ2_getChars_ba4f3_19 : decode cJ2_getChars_ba4f3 19 = .ok (.iload_n 0, 1) := by decide +kernel
theorem dJ2_getChars_ba4f3_20 : decode cJ2_getChars_ba4f3 20 = .ok (.ineg, 1) := by decide +kernel
theorem dJ2_getChars_ba4f3_21 : decode cJ2_getChars_ba4f3 21 = .ok (.istore_n 0, 1) := by decide +kernel
theorem dJ2_getChars_ba4f3_22 : decode cJ2_getChars_ba4f3 22 = .ok (.iload_n 0, 1) := by decide +kernel
theorem dJ2_getChars_ba4f3_23 : decode cJ2_getChars_ba4f3 23 = .ok (.bipush (-100), 2) := by decide +kernel
theorem dJ2_getChars_ba4f3_25 : decode cJ2_getChars_ba4f3 25 = .ok (.if_icmp .gt 51, 3) := by decide +kernel
theorem dJ2_getChars_ba4f3_28 : decode cJ2_getChars_ba4f3 28 = .ok (.iload_n 0, 1) := by decide +kernel
theorem dJ2_getChars_ba4f3_29 : decode cJ2_getChars_ba4f3 29 = .ok (.bipush 100, 2) := by decide +kernel
theorem dJ2_getChars_ba4f3_31 : decode cJ2_getChars_ba4f3 31 = .ok (.idiv, 1) := by decide +kernel
theorem dJ2_getChars_ba4f3_32 : decode cJ2_getChars_ba4f3 32 = .ok (.istore_n 3, 1) := by decide +kernel
theorem dJ2_getChars_ba4f3_33 : decode cJ2_getChars_ba4f3 33 = .ok (.iload_n 3, 1) := by decide +kernel
theorem dJ2_getChars_ba4f3_34 : decode cJ2_getChars_ba4f3 34 = .ok (.bipush 100, 2) := by decide +kernel
theorem dJ2_getChars_ba4f3_36 : decode cJ2_getChars_ba4f3 36 = .ok (.imul, 1) := by decide +kernel
theorem dJ2_getChars_ba4f3_37 : decode cJ2_getChars_ba4f3 37 = .ok (.iload_n 0, 1) := by decide +kernel
theorem dJ2_getChars_ba4f3_38 : decode cJ2_getChars_ba4f3 38 = .ok (.isub, 1) := by decide +kernel
theorem dJ2_getChars_ba4f3_39 : decode cJ2_getChars_ba4f3 39 = .ok (.istore 4, 2) := by decide +kernel
theorem dJ2_getChars_ba4f3_41 : decode cJ2_getChars_ba4f3 41 = .ok (.iload_n 3, 1) := by decide +kernel
theorem dJ2_getChars_ba4f3_42 : decode cJ2_getChars_ba4f3 42 = .ok (.istore_n 0, 1) := by decide +kernel
theorem dJ2_getChars_ba4f3_43 : decode cJ2_getChars_ba4f3 43 = .ok (.aload_n 2, 1) := by decide +kernel
theorem dJ2_getChars_ba4f3_44 : decode cJ2_getChars_ba4f3 44 = .ok (.iinc 5 (-1), 3) := by decide +kernel
theorem dJ2_getChars_ba4f3_47 : decode cJ2_getChars_ba4f3 47 = .ok (.iload 5, 2) := by decide +kernel
theorem dJ2_getChars_ba4f3_49 : decode cJ2_getChars_ba4f3 49 = .ok (.getstatic 403, 3) := by decide +kernel
theorem dJ2_getChars_ba4f3_52 : decode cJ2_getChars_ba4f3 52 = .ok (.iload 4, 2) := by decide +kernel
theorem dJ2_getChars_ba4f3_54 : decode cJ2_getChars_ba4f3 54 = .ok (.baload, 1) := by decide +kernel
theorem dJ2_getChars_ba4f3_55 : decode cJ2_getChars_ba4f3 55 = .ok (.invokestatic 111, 3) := by decide +kernel
theorem dJ2_getChars_ba4f3_58 : decode cJ2_getChars_ba4f3 58 = .ok (.aload_n 2, 1) := by decide +kernel
theorem dJ2_getChars_ba4f3_59 : decode cJ2_getChars_ba4f3 59 = .ok (.iinc 5 (-1), 3) := by decide +kernel
theorem dJ2_getChars_ba4f3_62 : decode cJ2_getChars_ba4f3 62 = .ok (.iload 5, 2) := by decide +kernel
theorem dJ2_getChars_ba4f3_64 : decode cJ2_getChars_ba4f3 64 = .ok (.getstatic 407, 3) := by decide +kernel
theorem dJ2_getChars_ba4f3_67 : decode cJ2_getChars_ba4f3 67 = .ok (.iload 4, 2) := by decide +kernel
theorem dJ2_getChars_ba4f3_69 : decode cJ2_getChars_ba4f3 69 = .ok (.baload, 1) := by decide +kernel
theorem dJ2_getChars_ba4f3_70 : decode cJ2_getChars_ba4f3 70 = .ok (.invokestatic 111, 3) := by decide +kernel
theorem dJ2_getChars_ba4f3_73 : decode cJ2_getChars_ba4f3 73 = .ok (.goto (-51), 3) := by decide +kernel
theorem dJ2_getChars_ba4f3_76 : decode cJ2_getChars_ba4f3 76 = .ok (.aload_n 2, 1) := by decide +kernel
theorem dJ2_getChars_ba4f3_77 : decode cJ2_getChars_ba4f3 77 = .ok (.iinc 5 (-1), 3) := by decide +kernel
theorem dJ2_getChars_ba4f3_80 : decode cJ2_getChars_ba4f3 80 = .ok (.iload 5, 2) := by decide +kernel
theorem dJ2_getChars_ba4f3_82 : decode cJ2_getChars_ba4f3 82 = .ok (.getstatic 403, 3) := by decide +kernel
theorem dJ2_getChars_ba4f3_85 : decode cJ2_getChars_ba4f3 85 = .ok (.iload_n 0, 1) := by decide +kernel
theorem dJ2_getChars_ba4f3_86 : decode cJ2_getChars_ba4f3 86 = .ok (.ineg, 1) := by decide +kernel
theorem dJ2_getChars_ba4f3_87 : decode cJ2_getChars_ba4f3 87 = .ok (.baload, 1) := by decide +kernel
theorem dJ2_getChars_ba4f3_88 : decode cJ2_getChars_ba4f3 88 = .ok (.invokestatic 111, 3) := by decide +kernel
theorem dJ2_getChars_ba4f3_91 : decode cJ2_getChars_ba4f3 91 = .ok (.iload_n 0, 1) := by decide +kernel
theorem dJ2_getChars_ba4f3_92 : decode cJ2_getChars_ba4f3 92 = .ok (.bipush (-9), 2) := by decide +kernel
theorem dJ2_getChars_ba4f3_94 : decode cJ2_getChars_ba4f3 94 = .ok (.if_icmp .ge 18, 3) := by decide +kernel
theorem dJ2_getChars_ba4f3_97 : decode cJ2_getChars_ba4f3 97 = .ok (.aload_n 2, 1) := by decide +kernel
theorem dJ2_getChars_ba4f3_98 : decode cJ2_getChars_ba4f3 98 = .ok (.iinc 5 (-1), 3) := by decide +kernel
theorem dJ2_getChars_ba4f3_101 : decode cJ2_getChars_ba4f3 101 = .ok (.iload 5, 2) := by decide +kernel
theorem dJ2_getChars_ba4f3_103 : decode cJ2_getChars_ba4f3 103 = .ok (.getstatic 407, 3) := by decide +kernel
theorem dJ2_getChars_ba4f3_106 : decode cJ2_getChars_ba4f3 106 = .ok (.iload_n 0, 1) := by decide +kernel
theorem dJ2_getChars_ba4f3_107 : decode cJ2_getChars_ba4f3 107 = .ok (.ineg, 1) := by decide +kernel
theorem dJ2_getChars_ba4f3_108 : decode cJ2_getChars_ba4f3 108 = .ok (.baload, 1) := by decide +kernel
theorem dJ2_getChars_ba4f3_109 : decode cJ2_getChars_ba4f3 109 = .ok (.invokestatic 111, 3) := by decide +kernel
theorem dJ2_getChars_ba4f3_112 : decode cJ2_getChars_ba4f3 112 = .ok (.iload 6, 2) := by decide +kernel
theorem dJ2_getChars_ba4f3_114 : decode cJ2_getChars_ba4f3 114 = .ok (.ifCond .eq 14, 3) := by decide +kernel
theorem dJ2_getChars_ba4f3_117 : decode cJ2_getChars_ba4f3 117 = .ok (.aload_n 2, 1) := by decide +kernel
theorem dJ2_getChars_ba4f3_118 : decode cJ2_getChars_ba4f3 118 = .ok (.iinc 5 (-1), 3) := by decide +kernel
theorem dJ2_getChars_ba4f3_121 : decode cJ2_getChars_ba4f3 121 = .ok (.iload 5, 2) := by decide +kernel
theorem dJ2_getChars_ba4f3_123 : decode cJ2_getChars_ba4f3 123 = .ok (.bipush 45, 2) := by decide +kernel
theorem dJ2_getChars_ba4f3_125 : decode cJ2_getChars_ba4f3 125 = .ok (.invokestatic 111, 3) := by decide +kernel
theorem dJ2_getChars_ba4f3_128 : decode cJ2_getChars_ba4f3 128 = .ok (.iload 5, 2) := by decide +kernel
theorem dJ2_getChars_ba4f3_130 : decode cJ2_getChars_ba4f3 130 = .ok (.ireturn, 1) := by decide +kernel
theorem dJ2_checkIndex_2214a_0 : decode cJ2_checkIndex_2214a 0 = .ok (.iload_n 0, 1) := by decide +kernel
theorem dJ2_checkIndex_2214a_1 : decode cJ2_checkIndex_2214a 1 = .ok (.aload_n 1, 1) := by decide +kernel
theorem dJ2_checkIndex_2214a_2 : decode cJ2_checkIndex_2214a 2 = .ok (.invokestatic 48, 3) := by decide +kernel
theorem dJ2_checkIndex_2214a_5 : decode cJ2_checkIndex_2214a 5 = .ok (.invokestatic 414, 3) := by decide +kernel
theorem dJ2_checkIndex_2214a_8 : decode cJ2_checkIndex_2214a 8 = .ok (.return_, 1) := by decide +kernel
theorem dJ2_checkBoundsBeginEnd_d044e_0 : decode cJ2_checkBoundsBeginEnd_d044e 0 = .ok (.iload_n 0, 1) := by decide +kernel
theorem dJ2_checkBoundsBeginEnd_d044e_1 : decode cJ2_checkBoundsBeginEnd_d044e 1 = .ok (.iload_n 1, 1) := by decide +kernel
theorem dJ2_checkBoundsBeginEnd_d044e_2 : decode cJ2_checkBoundsBeginEnd_d044e 2 = .ok (.aload_n 2, 1) := by decide +kernel
theorem dJ2_checkBoundsBeginEnd_d044e_3 : decode cJ2_checkBoundsBeginEnd_d044e 3 = .ok (.invokestatic 48, 3) := by decide +kernel
theorem dJ2_checkBoundsBeginEnd_d044e_6 : decode cJ2_checkBoundsBeginEnd_d044e 6 = .ok (.invokestatic 241, 3) := by decide +kernel
theorem dJ2_checkBoundsBeginEnd_d044e_9 : decode cJ2_checkBoundsBeginEnd_d044e 9 = .ok (.return_, 1) := by decide +kernel
theorem dJ2_checkBoundsOffCount_d044e_0 : decode cJ2_checkBoundsOffCount_d044e 0 = .ok (.iload_n 0, 1) := by decide +kernel
theorem dJ2_checkBoundsOffCount_d044e_1 : decode cJ2_checkBoundsOffCount_d044e 1 = .ok (.iload_n 1, 1) := by decide +kernel
theorem dJ2_checkBoundsOffCount_d044e_2 : decode cJ2_checkBoundsOffCount_d044e 2 = .ok (.aload_n 2, 1) := by decide +kernel
theorem dJ2_checkBoundsOffCount_d044e_3 : decode cJ2_checkBoundsOffCount_d044e 3 = .ok (.invokestatic 48, 3) := by decide +kernel
theorem dJ2_checkBoundsOffCount_d044e_6 : decode cJ2_checkBoundsOffCount_d044e 6 = .ok (.invokestatic 419, 3) := by decide +kernel
theorem dJ2_checkBoundsOffCount_d044e_9 : decode cJ2_checkBoundsOffCount_d044e 9 = .ok (.pop, 1) := by decide +kernel
theorem dJ2_checkBoundsOffCount_d044e_10 : decode cJ2_checkBoundsOffCount_d044e 10 = .ok (.return_, 1) := by decide +kernel
theorem dJ7_copyOf_9075b_0 : decode cJ7_copyOf_9075b 0 = .ok (.iload_n 1, 1) := by decide +kernel
theorem dJ7_copyOf_9075b_1 : decode cJ7_copyOf_9075b 1 = .ok (.aload_n 0, 1) := by decide +kernel
theorem dJ7_copyOf_9075b_2 : decode cJ7_copyOf_9075b 2 = .ok (.arraylength, 1) := by decide +kernel
theorem dJ7_copyOf_9075b_3 : decode cJ7_copyOf_9075b 3 = .ok (.if_icmp .ne 11, 3) := by decide +kernel
theorem dJ7_copyOf_9075b_6 : decode cJ7_copyOf_9075b 6 = .ok (.aload_n 0, 1) := by decide +kernel
theorem dJ7_copyOf_9075b_7 : decode cJ7_copyOf_9075b 7 = .ok (.invokevirtual 310, 3) := by decide +kernel
theorem dJ7_copyOf_9075b_10 : decode cJ7_copyOf_9075b 10 = .ok (.checkcast 311, 3) := by decide +kernel
theorem dJ7_copyOf_9075b_13 : decode cJ7_copyOf_9075b 13 = .ok (.areturn, 1) := by decide +kernel
theorem dJ7_copyOf_9075b_14 : decode cJ7_copyOf_9075b 14 = .ok (.iload_n 1, 1) := by decide +kernel
theorem dJ7_copyOf_9075b_15 : decode cJ7_copyOf_9075b 15 = .ok (.newarray .byte, 2) := by decide +kernel
theorem dJ7_copyOf_9075b_17 : decode cJ7_copyOf_9075b 17 = .ok (.astore_n 2, 1) := by decide +kernel
theorem dJ7_copyOf_9075b_18 : decode cJ7_copyOf_9075b 18 = .ok (.aload_n 0, 1) := by decide +kernel
theorem dJ7_copyOf_9075b_19 : decode cJ7_copyOf_9075b 19 = .ok (.iconst 0, 1) := by decide +kernel
theorem dJ7_copyOf_9075b_20 : decode cJ7_copyOf_9075b 20 = .ok (.aload_n 2, 1) := by decide +kernel
theorem dJ7_copyOf_9075b_21 : decode cJ7_copyOf_9075b 21 = .ok (.iconst 0, 1) := by decide +kernel
theorem dJ7_copyOf_9075b_22 : decode cJ7_copyOf_9075b 22 = .ok (.aload_n 0, 1) := by decide +kernel
theorem dJ7_copyOf_9075b_23 : decode cJ7_copyOf_9075b 23 = .ok (.arraylength, 1) := by decide +kernel
theorem dJ7_copyOf_9075b_24 : decode cJ7_copyOf_9075b 24 = .ok (.iload_n 1, 1) := by decide +kernel
theorem dJ7_copyOf_9075b_25 : decode cJ7_copyOf_9075b 25 = .ok (.invokestatic 304, 3) := by decide +kernel
theorem dJ7_copyOf_9075b_28 : decode cJ7_copyOf_9075b 28 = .ok (.invokestatic 150, 3) := by decide +kernel
theorem dJ7_copyOf_9075b_31 : decode cJ7_copyOf_9075b 31 = .ok (.aload_n 2, 1) := by decide +kernel
theorem dJ7_copyOf_9075b_32 : decode cJ7_copyOf_9075b 32 = .ok (.areturn, 1) := by decide +kernel
theorem dJ7_checkLength_df160_0 : decode cJ7_checkLength_df160 0 = .ok (.iload_n 1, 1) := by decide +kernel
theorem dJ7_checkLength_df160_1 : decode cJ7_checkLength_df160 1 = .ok (.iload_n 0, 1) := by decide +kernel
theorem dJ7_checkLength_df160_2 : decode cJ7_checkLength_df160 2 = .ok (.if_icmp .ge 35, 3) := by decide +kernel
theorem dJ7_checkLength_df160_5 : decode cJ7_checkLength_df160 5 = .ok (.new 43, 3) := by decide +kernel
theorem dJ7_checkLength_df160_8 : decode cJ7_checkLength_df160 8 = .ok (.dup, 1) := by decide +kernel
theorem dJ7_checkLength_df160_9 : decode cJ7_checkLength_df160 9 = .ok (.new 45, 3) := by decide +kernel
theorem dJ7_checkLength_df160_12 : decode cJ7_checkLength_df160 12 = .ok (.dup, 1) := by decide +kernel
theorem dJ7_checkLength_df160_13 : decode cJ7_checkLength_df160 13 = .ok (.invokespecial 47, 3) := by decide +kernel
theorem dJ7_checkLength_df160_16 : decode cJ7_checkLength_df160 16 = .ok (.iload_n 0, 1) := by decide +kernel
theorem dJ7_checkLength_df160_17 : decode cJ7_checkLength_df160 17 = .ok (.invokevirtual 54, 3) := by decide +kernel
theorem dJ7_checkLength_df160_20 : decode cJ7_checkLength_df160 20 = .ok (.ldc_w 337, 3) := by decide +kernel
theorem dJ7_checkLength_df160_23 : decode cJ7_checkLength_df160 23 = .ok (.invokevirtual 50, 3) := by decide +kernel
theorem dJ7_checkLength_df160_26 : decode cJ7_checkLength_df160 26 = .ok (.iload_n 1, 1) := by decide +kernel
theorem dJ7_checkLength_df160_27 : decode cJ7_checkLength_df160 27 = .ok (.invokevirtual 54, 3) := by decide +kernel
theorem dJ7_checkLength_df160_30 : decode cJ7_checkLength_df160 30 = .ok (.invokevirtual 61, 3) := by decide +kernel
theorem dJ7_checkLength_df160_33 : decode cJ7_checkLength_df160 33 = .ok (.invokespecial 65, 3) := by decide +kernel
theorem dJ7_checkLength_df160_36 : decode cJ7_checkLength_df160 36 = .ok (.athrow, 1) := by decide +kernel
theorem dJ7_checkLength_df160_37 : decode cJ7_checkLength_df160 37 = .ok (.return_, 1) := by decide +kernel
theorem dJ7_copyOfRange_39247_0 : decode cJ7_copyOfRange_39247 0 = .ok (.iload_n 1, 1) := by decide +kernel
theorem dJ7_copyOfRange_39247_1 : decode cJ7_copyOfRange_39247 1 = .ok (.ifCond .ne 9, 3) := by decide +kernel
theorem dJ7_copyOfRange_39247_4 : decode cJ7_copyOfRange_39247 4 = .ok (.iload_n 2, 1) := by decide +kernel
theorem dJ7_copyOfRange_39247_5 : decode cJ7_copyOfRange_39247 5 = .ok (.aload_n 0, 1) := by decide +kernel
theorem dJ7_copyOfRange_39247_6 : decode cJ7_copyOfRange_39247 6 = .ok (.arraylength, 1) := by decide +kernel
theorem dJ7_copyOfRange_39247_7 : decode cJ7_copyOfRange_39247 7 = .ok (.if_icmp .eq 10, 3) := by decide +kernel
theorem dJ7_copyOfRange_39247_10 : decode cJ7_copyOfRange_39247 10 = .ok (.aload_n 0, 1) := by decide +kernel
theorem dJ7_copyOfRange_39247_11 : decode cJ7_copyOfRange_39247 11 = .ok (.iload_n 1, 1) := by decide +kernel
theorem dJ7_copyOfRange_39247_12 : decode cJ7_copyOfRange_39247 12 = .ok (.iload_n 2, 1) := by decide +kernel
theorem dJ7_copyOfRange_39247_13 : decode cJ7_copyOfRange_39247 13 = .ok (.invokestatic 339, 3) := by decide +kernel
theorem dJ7_copyOfRange_39247_16 : decode cJ7_copyOfRange_39247 16 = .ok (.areturn, 1) := by decide +kernel
theorem dJ7_copyOfRange_39247_17 : decode cJ7_copyOfRange_39247 17 = .ok (.aload_n 0, 1) := by decide +kernel
theorem dJ7_copyOfRange_39247_18 : decode cJ7_copyOfRange_39247 18 = .ok (.invokevirtual 310, 3) := by decide +kernel
theorem dJ7_copyOfRange_39247_21 : decode cJ7_copyOfRange_39247 21 = .ok (.checkcast 311, 3) := by decide +kernel
theorem dJ7_copyOfRange_39247_24 : decode cJ7_copyOfRange_39247 24 = .ok (.areturn, 1) := by decide +kernel
theorem dJ7_copyOfRangeByte_39247_0 : decode cJ7_copyOfRangeByte_39247 0 = .ok (.iload_n 1, 1) := by decide +kernel
theorem dJ7_copyOfRangeByte_39247_1 : decode cJ7_copyOfRangeByte_39247 1 = .ok (.iload_n 2, 1) := by decide +kernel
theorem dJ7_copyOfRangeByte_39247_2 : decode cJ7_copyOfRangeByte_39247 2 = .ok (.invokestatic 343, 3) := by decide +kernel
theorem dJ7_copyOfRangeByte_39247_5 : decode cJ7_copyOfRangeByte_39247 5 = .ok (.iload_n 2, 1) := by decide +kernel
theorem dJ7_copyOfRangeByte_39247_6 : decode cJ7_copyOfRangeByte_39247 6 = .ok (.iload_n 1, 1) := by decide +kernel
theorem dJ7_copyOfRangeByte_39247_7 : decode cJ7_copyOfRangeByte_39247 7 = .ok (.isub, 1) := by decide +kernel
theorem dJ7_copyOfRangeByte_39247_8 : decode cJ7_copyOfRangeByte_39247 8 = .ok (.istore_n 3, 1) := by decide +kernel
theorem dJ7_copyOfRangeByte_39247_9 : decode cJ7_copyOfRangeByte_39247 9 = .ok (.iload_n 3, 1) := by decide +kernel
theorem dJ7_copyOfRangeByte_39247_10 : decode cJ7_copyOfRangeByte_39247 10 = .ok (.newarray .byte, 2) := by decide +kernel
theorem dJ7_copyOfRangeByte_39247_12 : decode cJ7_copyOfRangeByte_39247 12 = .ok (.astore 4, 2) := by decide +kernel
theorem dJ7_copyOfRangeByte_39247_14 : decode cJ7_copyOfRangeByte_39247 14 = .ok (.aload_n 0, 1) := by decide +kernel
theorem dJ7_copyOfRangeByte_39247_15 : decode cJ7_copyOfRangeByte_39247 15 = .ok (.iload_n 1, 1) := by decide +kernel
theorem dJ7_copyOfRangeByte_39247_16 : decode cJ7_copyOfRangeByte_39247 16 = .ok (.aload 4, 2) := by decide +kernel
theorem dJ7_copyOfRangeByte_39247_18 : decode cJ7_copyOfRangeByte_39247 18 = .ok (.iconst 0, 1) := by decide +kernel
theorem dJ7_copyOfRangeByte_39247_19 : decode cJ7_copyOfRangeByte_39247 19 = .ok (.aload_n 0, 1) := by decide +kernel
theorem dJ7_copyOfRangeByte_39247_20 : decode cJ7_copyOfRangeByte_39247 20 = .ok (.arraylength, 1) := by decide +kernel
theorem dJ7_copyOfRangeByte_39247_21 : decode cJ7_copyOfRangeByte_39247 21 = .ok (.iload_n 1, 1) := by decide +kernel
theorem dJ7_copyOfRangeByte_39247_22 : decode cJ7_copyOfRangeByte_39247 22 = .ok (.isub, 1) := by decide +kernel
theorem dJ7_copyOfRangeByte_39247_23 : decode cJ7_copyOfRangeByte_39247 23 = .ok (.iload_n 3, 1) := by decide +kernel
theorem dJ7_copyOfRangeByte_39247_24 : decode cJ7_copyOfRangeByte_39247 24 = .ok (.invokestatic 304, 3) := by decide +kernel
theorem dJ7_copyOfRangeByte_39247_27 : decode cJ7_copyOfRangeByte_39247 27 = .ok (.invokestatic 150, 3) := by decide +kernel
theorem dJ7_copyOfRangeByte_39247_30 : decode cJ7_copyOfRangeByte_39247 30 = .ok (.aload 4, 2) := by decide +kernel
theorem dJ7_copyOfRangeByte_39247_32 : decode cJ7_copyOfRangeByte_39247 32 = .ok (.areturn, 1) := by decide +kernel
theorem dJ8_newLength_cabcc_0 : decode cJ8_newLength_cabcc 0 = .ok (.iload_n 0, 1) := by decide +kernel
theorem dJ8_newLength_cabcc_1 : decode cJ8_newLength_cabcc 1 = .ok (.iload_n 1, 1) := by decide +kernel
theorem dJ8_newLength_cabcc_2 : decode cJ8_newLength_cabcc 2 = .ok (.iload_n 2, 1) := by decide +kernel
theorem dJ8_newLength_cabcc_3 : decode cJ8_newLength_cabcc 3 = .ok (.invokestatic 194, 3) := by decide +kernel
theorem dJ8_newLength_cabcc_6 : decode cJ8_newLength_cabcc 6 = .ok (.iadd, 1) := by decide +kernel
theorem dJ8_newLength_cabcc_7 : decode cJ8_newLength_cabcc 7 = .ok (.istore_n 3, 1) := by decide +kernel
theorem dJ8_newLength_cabcc_8 : decode cJ8_newLength_cabcc 8 = .ok (.iconst 0, 1) := by decide +kernel
theorem dJ8_newLength_cabcc_9 : decode cJ8_newLength_cabcc 9 = .ok (.iload_n 3, 1) := by decide +kernel
theorem dJ8_newLength_cabcc_10 : decode cJ8_newLength_cabcc 10 = .ok (.if_icmp .ge 11, 3) := by decide +kernel
theorem dJ8_newLength_cabcc_13 : decode cJ8_newLength_cabcc 13 = .ok (.iload_n 3, 1) := by decide +kernel
theorem dJ8_newLength_cabcc_14 : decode cJ8_newLength_cabcc 14 = .ok (.ldc 200, 2) := by decide +kernel
theorem dJ8_newLength_cabcc_16 : decode cJ8_newLength_cabcc 16 = .ok (.if_icmp .gt 5, 3) := by decide +kernel
theorem dJ8_newLength_cabcc_19 : decode cJ8_newLength_cabcc 19 = .ok (.iload_n 3, 1) := by decide +kernel
theorem dJ8_newLength_cabcc_20 : decode cJ8_newLength_cabcc 20 = .ok (.ireturn, 1) := by decide +kernel
theorem dJ8_newLength_cabcc_21 : decode cJ8_newLength_cabcc 21 = .ok (.iload_n 0, 1) := by decide +kernel
theorem dJ8_newLength_cabcc_22 : decode cJ8_newLength_cabcc 22 = .ok (.iload_n 1, 1) := by decide +kernel
theorem dJ8_newLength_cabcc_23 : decode cJ8_newLength_cabcc 23 = .ok (.invokestatic 201, 3) := by decide +kernel
theorem dJ8_newLength_cabcc_26 : decode cJ8_newLength_cabcc 26 = .ok (.ireturn, 1) := by decide +kernel
theorem dJ8_hugeLength_7cf53_0 : decode cJ8_hugeLength_7cf53 0 = .ok (.iload_n 0, 1) := by decide +kernel
theorem dJ8_hugeLength_7cf53_1 : decode cJ8_hugeLength_7cf53 1 = .ok (.iload_n 1, 1) := by decide +kernel
theorem dJ8_hugeLength_7cf53_2 : decode cJ8_hugeLength_7cf53 2 = .ok (.iadd, 1) := by decide +kernel
theorem dJ8_hugeLength_7cf53_3 : decode cJ8_hugeLength_7cf53 3 = .ok (.istore_n 2, 1) := by decide +kernel
theorem dJ8_hugeLength_7cf53_4 : decode cJ8_hugeLength_7cf53 4 = .ok (.iload_n 2, 1) := by decide +kernel
theorem dJ8_hugeLength_7cf53_5 : decode cJ8_hugeLength_7cf53 5 = .ok (.ifCond .ge 44, 3) := by decide +kernel
theorem dJ8_hugeLength_7cf53_8 : decode cJ8_hugeLength_7cf53 8 = .ok (.new 204, 3) := by decide +kernel
theorem dJ8_hugeLength_7cf53_11 : decode cJ8_hugeLength_7cf53 11 = .ok (.dup, 1) := by decide +kernel
theorem dJ8_hugeLength_7cf53_12 : decode cJ8_hugeLength_7cf53 12 = .ok (.new 89, 3) := by decide +kernel
theorem dJ8_hugeLength_7cf53_15 : decode cJ8_hugeLength_7cf53 15 = .ok (.dup, 1) := by decide +kernel
theorem dJ8_hugeLength_7cf53_16 : decode cJ8_hugeLength_7cf53 16 = .ok (.invokespecial 91, 3) := by decide +kernel
theorem dJ8_hugeLength_7cf53_19 : decode cJ8_hugeLength_7cf53 19 = .ok (.ldc 206, 2) := by decide +kernel
theorem dJ8_hugeLength_7cf53_21 : decode cJ8_hugeLength_7cf53 21 = .ok (.invokevirtual 94, 3) := by decide +kernel
theorem dJ8_hugeLength_7cf53_24 : decode cJ8_hugeLength_7cf53 24 = .ok (.iload_n 0, 1) := by decide +kernel
theorem dJ8_hugeLength_7cf53_25 : decode cJ8_hugeLength_7cf53 25 = .ok (.invokevirtual 98, 3) := by decide +kernel
theorem dJ8_hugeLength_7cf53_28 : decode cJ8_hugeLength_7cf53 28 = .ok (.ldc 208, 2) := by decide +kernel
theorem dJ8_hugeLength_7cf53_30 : decode cJ8_hugeLength_7cf53 30 = .ok (.invokevirtual 94, 3) := by decide +kernel
theorem dJ8_hugeLength_7cf53_33 : decode cJ8_hugeLength_7cf53 33 = .ok (.iload_n 1, 1) := by decide +kernel
theorem dJ8_hugeLength_7cf53_34 : decode cJ8_hugeLength_7cf53 34 = .ok (.invokevirtual 98, 3) := by decide +kernel
theorem dJ8_hugeLength_7cf53_37 : decode cJ8_hugeLength_7cf53 37 = .ok (.ldc 210, 2) := by decide +kernel
theorem dJ8_hugeLength_7cf53_39 : decode cJ8_hugeLength_7cf53 39 = .ok (.invokevirtual 94, 3) := by decide +kernel
theorem dJ8_hugeLength_7cf53_42 : decode cJ8_hugeLength_7cf53 42 = .ok (.invokevirtual 101, 3) := by decide +kernel
theorem dJ8_hugeLength_7cf53_45 : decode cJ8_hugeLength_7cf53 45 = .ok (.invokespecial 212, 3) := by decide +kernel
theorem dJ8_hugeLength_7cf53_48 : decode cJ8_hugeLength_7cf53 48 = .ok (.athrow, 1) := by decide +kernel
theorem dJ8_hugeLength_7cf53_49 : decode cJ8_hugeLength_7cf53 49 = .ok (.iload_n 2, 1) := by decide +kernel
theorem dJ8_hugeLength_7cf53_50 : decode cJ8_hugeLength_7cf53 50 = .ok (.ldc 200, 2) := by decide +kernel
theorem dJ8_hugeLength_7cf53_52 : decode cJ8_hugeLength_7cf53 52 = .ok (.if_icmp .gt 6, 3) := by decide +kernel
theorem dJ8_hugeLength_7cf53_55 : decode cJ8_hugeLength_7cf53 55 = .ok (.ldc 200, 2) := by decide +kernel
theorem dJ8_hugeLength_7cf53_57 : decode cJ8_hugeLength_7cf53 57 = .ok (.ireturn, 1) := by decide +kernel
theorem dJ8_hugeLength_7cf53_58 : decode cJ8_hugeLength_7cf53 58 = .ok (.iload_n 2, 1) := by decide +kernel
theorem dJ8_hugeLength_7cf53_59 : decode cJ8_hugeLength_7cf53 59 = .ok (.ireturn, 1) := by decide +kernel
theorem dJ3_checkIndex_8e157_0 : decode cJ3_checkIndex_8e157 0 = .ok (.iload_n 0, 1) := by decide +kernel
theorem dJ3_checkIndex_8e157_1 : decode cJ3_checkIndex_8e157 1 = .ok (.ifCond .lt 8, 3) := by decide +kernel
theorem dJ3_checkIndex_8e157_4 : decode cJ3_checkIndex_8e157 4 = .ok (.iload_n 0, 1) := by decide +kernel
theorem dJ3_checkIndex_8e157_5 : decode cJ3_checkIndex_8e157 5 = .ok (.iload_n 1, 1) := by decide +kernel
theorem dJ3_checkIndex_8e157_6 : decode cJ3_checkIndex_8e157 6 = .ok (.if_icmp .lt 10, 3) := by decide +kernel
theorem dJ3_checkIndex_8e157_9 : decode cJ3_checkIndex_8e157 9 = .ok (.aload_n 2, 1) := by decide +kernel
theorem dJ3_checkIndex_8e157_10 : decode cJ3_checkIndex_8e157 10 = .ok (.iload_n 0, 1) := by decide +kernel
theorem dJ3_checkIndex_8e157_11 : decode cJ3_checkIndex_8e157 11 = .ok (.iload_n 1, 1) := by decide +kernel
theorem dJ3_checkIndex_8e157_12 : decode cJ3_checkIndex_8e157 12 = .ok (.invokestatic 95, 3) := by decide +kernel
theorem dJ3_checkIndex_8e157_15 : decode cJ3_checkIndex_8e157 15 = .ok (.athrow, 1) := by decide +kernel
theorem dJ3_checkIndex_8e157_16 : decode cJ3_checkIndex_8e157 16 = .ok (.iload_n 0, 1) := by decide +kernel
theorem dJ3_checkIndex_8e157_17 : decode cJ3_checkIndex_8e157 17 = .ok (.ireturn, 1) := by decide +kernel
theorem dJ3_checkFromToIndex_8c36e_0 : decode cJ3_checkFromToIndex_8c36e 0 = .ok (.iload_n 0, 1) := by decide +kernel
theorem dJ3_checkFromToIndex_8c36e_1 : decode cJ3_checkFromToIndex_8c36e 1 = .ok (.ifCond .lt 13, 3) := by decide +kernel
theorem dJ3_checkFromToIndex_8c36e_4 : decode cJ3_checkFromToIndex_8c36e 4 = .ok (.iload_n 0, 1) := by decide +kernel
theorem dJ3_checkFromToIndex_8c36e_5 : decode cJ3_checkFromToIndex_8c36e 5 = .ok (.iload_n 1, 1) := by decide +kernel
theorem dJ3_checkFromToIndex_8c36e_6 : decode cJ3_checkFromToIndex_8c36e 6 = .ok (.if_icmp .gt 8, 3) := by decide +kernel
theorem dJ3_checkFromToIndex_8c36e_9 : decode cJ3_checkFromToIndex_8c36e 9 = .ok (.iload_n 1, 1) := by decide +kernel
theorem dJ3_checkFromToIndex_8c36e_10 : decode cJ3_checkFromToIndex_8c36e 10 = .ok (.iload_n 2, 1) := by decide +kernel
theorem dJ3_checkFromToIndex_8c36e_11 : decode cJ3_checkFromToIndex_8c36e 11 = .ok (.if_icmp .le 11, 3) := by decide +kernel
theorem dJ3_checkFromToIndex_8c36e_14 : decode cJ3_checkFromToIndex_8c36e 14 = .ok (.aload_n 3, 1) := by decide +kernel
theorem dJ3_checkFromToIndex_8c36e_15 : decode cJ3_checkFromToIndex_8c36e 15 = .ok (.iload_n 0, 1) := by decide +kernel
theorem dJ3_checkFromToIndex_8c36e_16 : decode cJ3_checkFromToIndex_8c36e 16 = .ok (.iload_n 1, 1) := by decide +kernel
theorem dJ3_checkFromToIndex_8c36e_17 : decode cJ3_checkFromToIndex_8c36e 17 = .ok (.iload_n 2, 1) := by decide +kernel
theorem dJ3_checkFromToIndex_8c36e_18 : decode cJ3_checkFromToIndex_8c36e 18 = .ok (.invokestatic 99, 3) := by decide +kernel
theorem dJ3_checkFromToIndex_8c36e_21 : decode cJ3_checkFromToIndex_8c36e 21 = .ok (.athrow, 1) := by decide +kernel
theorem dJ3_checkFromToIndex_8c36e_22 : decode cJ3_checkFromToIndex_8c36e 22 = .ok (.iload_n 0, 1) := by decide +kernel
theorem dJ3_checkFromToIndex_8c36e_23 : decode cJ3_checkFromToIndex_8c36e 23 = .ok (.ireturn, 1) := by decide +kernel
theorem dJ3_checkFromIndexSize_8c36e_0 : decode cJ3_checkFromIndexSize_8c36e 0 = .ok (.iload_n 2, 1) := by decide +kernel
theorem dJ3_checkFromIndexSize_8c36e_1 : decode cJ3_checkFromIndexSize_8c36e 1 = .ok (.iload_n 0, 1) := by decide +kernel
theorem dJ3_checkFromIndexSize_8c36e_2 : decode cJ3_checkFromIndexSize_8c36e 2 = .ok (.ior, 1) := by decide +kernel
theorem dJ3_checkFromIndexSize_8c36e_3 : decode cJ3_checkFromIndexSize_8c36e 3 = .ok (.iload_n 1, 1) := by decide +kernel
theorem dJ3_checkFromIndexSize_8c36e_4 : decode cJ3_checkFromIndexSize_8c36e 4 = .ok (.ior, 1) := by decide +kernel
theorem dJ3_checkFromIndexSize_8c36e_5 : decode cJ3_checkFromIndexSize_8c36e 5 = .ok (.ifCond .lt 10, 3) := by decide +kernel
theorem dJ3_checkFromIndexSize_8c36e_8 : decode cJ3_checkFromIndexSize_8c36e 8 = .ok (.iload_n 1, 1) := by decide +kernel
theorem dJ3_checkFromIndexSize_8c36e_9 : decode cJ3_checkFromIndexSize_8c36e 9 = .ok (.iload_n 2, 1) := by decide +kernel
theorem dJ3_checkFromIndexSize_8c36e_10 : decode cJ3_checkFromIndexSize_8c36e 10 = .ok (.iload_n 0, 1) := by decide +kernel
theorem dJ3_checkFromIndexSize_8c36e_11 : decode cJ3_checkFromIndexSize_8c36e 11 = .ok (.isub, 1) := by decide +kernel
theorem dJ3_checkFromIndexSize_8c36e_12 : decode cJ3_checkFromIndexSize_8c36e 12 = .ok (.if_icmp .le 11, 3) := by decide +kernel
theorem dJ3_checkFromIndexSize_8c36e_15 : decode cJ3_checkFromIndexSize_8c36e 15 = .ok (.aload_n 3, 1) := by decide +kernel
theorem dJ3_checkFromIndexSize_8c36e_16 : decode cJ3_checkFromIndexSize_8c36e 16 = .ok (.iload_n 0, 1) := by decide +kernel
theorem dJ3_checkFromIndexSize_8c36e_17 : decode cJ3_checkFromIndexSize_8c36e 17 = .ok (.iload_n 1, 1) := by decide +kernel
theorem dJ3_checkFromIndexSize_8c36e_18 : decode cJ3_checkFromIndexSize_8c36e 18 = .ok (.iload_n 2, 1) := by decide +kernel
theorem dJ3_checkFromIndexSize_8c36e_19 : decode cJ3_checkFromIndexSize_8c36e 19 = .ok (.invokestatic 103, 3) := by decide +kernel
theorem dJ3_checkFromIndexSize_8c36e_22 : decode cJ3_checkFromIndexSize_8c36e 22 = .ok (.athrow, 1) := by decide +kernel
theorem dJ3_checkFromIndexSize_8c36e_23 : decode cJ3_checkFromIndexSize_8c36e 23 = .ok (.iload_n 0, 1) := by decide +kernel
theorem dJ3_checkFromIndexSize_8c36e_24 : decode cJ3_checkFromIndexSize_8c36e 24 = .ok (.ireturn, 1) := by decide +kernel
end
section
theorem dL_cell_0 : decode cL_cell 0 = .ok (.iload_n 1, 1) := by decide +kernel
theorem dL_cell_1 : decode cL_cell 1 = .ok (.aload_n 0, 1) := by decide +kernel
theorem dL_cell_2 : decode cL_cell 2 = .ok (.arraylength, 1) := by decide +kernel
theorem dL_cell_3 : decode cL_cell 3 = .ok (.if_icmp .ge 9, 3) := by decide +kernel
theorem dL_cell_6 : decode cL_cell 6 = .ok (.aload_n 0, 1) := by decide +kernel
theorem dL_cell_7 : decode cL_cell 7 = .ok (.iload_n 1, 1) := by decide +kernel
theorem dL_cell_8 : decode cL_cell 8 = .ok (.iaload, 1) := by decide +kernel
theorem dL_cell_9 : decode cL_cell 9 = .ok (.goto 7, 3) := by decide +kernel
theorem dL_cell_12 : decode cL_cell 12 = .ok (.ldc 7, 2) := by decide +kernel
theorem dL_cell_14 : decode cL_cell 14 = .ok (.iload_n 1, 1) := by decide +kernel
theorem dL_cell_15 : decode cL_cell 15 = .ok (.imul, 1) := by decide +kernel
theorem dL_cell_16 : decode cL_cell 16 = .ok (.ireturn, 1) := by decide +kernel
theorem dL_pick_0 : decode cL_pick 0 = .ok (.aload_n 0, 1) := by decide +kernel
theorem dL_pick_1 : decode cL_pick 1 = .ok (.iload_n 1, 1) := by decide +kernel
theorem dL_pick_2 : decode cL_pick 2 = .ok (.invokestatic 8, 3) := by decide +kernel
theorem dL_pick_5 : decode cL_pick 5 = .ok (.iconst 1, 1) := by decide +kernel
theorem dL_pick_6 : decode cL_pick 6 = .ok (.iushr, 1) := by decide +kernel
theorem dL_pick_7 : decode cL_pick 7 = .ok (.iload_n 2, 1) := by decide +kernel
theorem dL_pick_8 : decode cL_pick 8 = .ok (.irem, 1) := by decide +kernel
theorem dL_pick_9 : decode cL_pick 9 = .ok (.ireturn, 1) := by decide +kernel
theorem dL_addNest_0 : decode cL_addNest 0 = .ok (.aload_n 0, 1) := by decide +kernel
theorem dL_addNest_1 : decode cL_addNest 1 = .ok (.iload_n 1, 1) := by decide +kernel
theorem dL_addNest_2 : decode cL_addNest 2 = .ok (.iload_n 2, 1) := by decide +kernel
theorem dL_addNest_3 : decode cL_addNest 3 = .ok (.invokevirtual 14, 3) := by decide +kernel
theorem dL_addNest_6 : decode cL_addNest 6 = .ok (.ireturn, 1) := by decide +kernel
theorem dL_addNest_7 : decode cL_addNest 7 = .ok (.astore_n 3, 1) := by decide +kernel
theorem dL_addNest_8 : decode cL_addNest 8 = .ok (.bipush (-78), 2) := by decide +kernel
theorem dL_addNest_10 : decode cL_addNest 10 = .ok (.ireturn, 1) := by decide +kernel
theorem dL_addNest_11 : decode cL_addNest 11 = .ok (.astore_n 3, 1) := by decide +kernel
theorem dL_addNest_12 : decode cL_addNest 12 = .ok (.bipush (-79), 2) := by decide +kernel
theorem dL_addNest_14 : decode cL_addNest 14 = .ok (.ireturn, 1) := by decide +kernel
theorem dL_addCrow_0 : decode cL_addCrow 0 = .ok (.aload_n 0, 1) := by decide +kernel
theorem dL_addCrow_1 : decode cL_addCrow 1 = .ok (.invokevirtual 24, 3) := by decide +kernel
theorem dL_addCrow_4 : decode cL_addCrow 4 = .ok (.ireturn, 1) := by decide +kernel
theorem dL_addCrow_5 : decode cL_addCrow 5 = .ok (.astore_n 1, 1) := by decide +kernel
theorem dL_addCrow_6 : decode cL_addCrow 6 = .ok (.bipush (-79), 2) := by decide +kernel
theorem dL_addCrow_8 : decode cL_addCrow 8 = .ok (.ireturn, 1) := by decide +kernel
theorem dL_publish_0 : decode cL_publish 0 = .ok (.aload_n 0, 1) := by decide +kernel
theorem dL_publish_1 : decode cL_publish 1 = .ok (.iload_n 1, 1) := by decide +kernel
theorem dL_publish_2 : decode cL_publish 2 = .ok (.iload_n 2, 1) := by decide +kernel
theorem dL_publish_3 : decode cL_publish 3 = .ok (.invokevirtual 28, 3) := by decide +kernel
theorem dL_publish_6 : decode cL_publish 6 = .ok (.ireturn, 1) := by decide +kernel
theorem dL_publish_7 : decode cL_publish 7 = .ok (.astore_n 3, 1) := by decide +kernel
theorem dL_publish_8 : decode cL_publish 8 = .ok (.bipush (-77), 2) := by decide +kernel
theorem dL_publish_10 : decode cL_publish 10 = .ok (.ireturn, 1) := by decide +kernel
theorem dL_publish_11 : decode cL_publish 11 = .ok (.astore_n 3, 1) := by decide +kernel
theorem dL_publish_12 : decode cL_publish 12 = .ok (.bipush (-78), 2) := by decide +kernel
theorem dL_publish_14 : decode cL_publish 14 = .ok (.ireturn, 1) := by decide +kernel
theorem dL_publish_15 : decode cL_publish 15 = .ok (.astore_n 3, 1) := by decide +kernel
theorem dL_publish_16 : decode cL_publish 16 = .ok (.bipush (-79), 2) := by decide +kernel
theorem dL_publish_18 : decode cL_publish 18 = .ok (.ireturn, 1) := by decide +kernel
theorem dL_read_0 : decode cL_read 0 = .ok (.aload_n 0, 1) := by decide +kernel
theorem dL_read_1 : decode cL_read 1 = .ok (.iload_n 1, 1) := by decide +kernel
theorem dL_read_2 : decode cL_read 2 = .ok (.invokevirtual 33, 3) := by decide +kernel
theorem dL_read_5 : decode cL_read 5 = .ok (.ireturn, 1) := by decide +kernel
theorem dL_read_6 : decode cL_read 6 = .ok (.astore_n 2, 1) := by decide +kernel
theorem dL_read_7 : decode cL_read 7 = .ok (.bipush (-77), 2) := by decide +kernel
theorem dL_read_9 : decode cL_read 9 = .ok (.ireturn, 1) := by decide +kernel
theorem dL_read_10 : decode cL_read 10 = .ok (.astore_n 2, 1) := by decide +kernel
theorem dL_read_11 : decode cL_read 11 = .ok (.bipush (-75), 2) := by decide +kernel
theorem dL_read_13 : decode cL_read 13 = .ok (.ireturn, 1) := by decide +kernel
theorem dL_cancel_0 : decode cL_cancel 0 = .ok (.aload_n 0, 1) := by decide +kernel
theorem dL_cancel_1 : decode cL_cancel 1 = .ok (.iload_n 1, 1) := by decide +kernel
theorem dL_cancel_2 : decode cL_cancel 2 = .ok (.invokevirtual 39, 3) := by decide +kernel
theorem dL_cancel_5 : decode cL_cancel 5 = .ok (.ireturn, 1) := by decide +kernel
theorem dL_cancel_6 : decode cL_cancel 6 = .ok (.astore_n 2, 1) := by decide +kernel
theorem dL_cancel_7 : decode cL_cancel 7 = .ok (.bipush (-75), 2) := by decide +kernel
theorem dL_cancel_9 : decode cL_cancel 9 = .ok (.ireturn, 1) := by decide +kernel
theorem dL_cancel_10 : decode cL_cancel 10 = .ok (.astore_n 2, 1) := by decide +kernel
theorem dL_cancel_11 : decode cL_cancel 11 = .ok (.bipush (-79), 2) := by decide +kernel
theorem dL_cancel_13 : decode cL_cancel 13 = .ok (.ireturn, 1) := by decide +kernel
theorem dL_setWind_0 : decode cL_setWind 0 = .ok (.aload_n 0, 1) := by decide +kernel
theorem dL_setWind_1 : decode cL_setWind 1 = .ok (.iload_n 1, 1) := by decide +kernel
theorem dL_setWind_2 : decode cL_setWind 2 = .ok (.invokevirtual 42, 3) := by decide +kernel
theorem dL_setWind_5 : decode cL_setWind 5 = .ok (.ireturn, 1) := by decide +kernel
theorem dL_setWind_6 : decode cL_setWind 6 = .ok (.astore_n 2, 1) := by decide +kernel
theorem dL_setWind_7 : decode cL_setWind 7 = .ok (.bipush (-78), 2) := by decide +kernel
theorem dL_setWind_9 : decode cL_setWind 9 = .ok (.ireturn, 1) := by decide +kernel
theorem dL_forget_0 : decode cL_forget 0 = .ok (.aload_n 0, 1) := by decide +kernel
theorem dL_forget_1 : decode cL_forget 1 = .ok (.iload_n 1, 1) := by decide +kernel
theorem dL_forget_2 : decode cL_forget 2 = .ok (.invokevirtual 45, 3) := by decide +kernel
theorem dL_forget_5 : decode cL_forget 5 = .ok (.ireturn, 1) := by decide +kernel
theorem dL_forget_6 : decode cL_forget 6 = .ok (.astore_n 2, 1) := by decide +kernel
theorem dL_forget_7 : decode cL_forget 7 = .ok (.bipush (-77), 2) := by decide +kernel
theorem dL_forget_9 : decode cL_forget 9 = .ok (.ireturn, 1) := by decide +kernel
theorem dL_advance_0 : decode cL_advance 0 = .ok (.aload_n 0, 1) := by decide +kernel
theorem dL_advance_1 : decode cL_advance 1 = .ok (.iload_n 1, 1) := by decide +kernel
theorem dL_advance_2 : decode cL_advance 2 = .ok (.invokevirtual 48, 3) := by decide +kernel
theorem dL_advance_5 : decode cL_advance 5 = .ok (.ireturn, 1) := by decide +kernel
theorem dL_advance_6 : decode cL_advance 6 = .ok (.astore_n 2, 1) := by decide +kernel
theorem dL_advance_7 : decode cL_advance 7 = .ok (.bipush (-78), 2) := by decide +kernel
theorem dL_advance_9 : decode cL_advance 9 = .ok (.ireturn, 1) := by decide +kernel
theorem dL_distance_0 : decode cL_distance 0 = .ok (.aload_n 0, 1) := by decide +kernel
theorem dL_distance_1 : decode cL_distance 1 = .ok (.iload_n 1, 1) := by decide +kernel
theorem dL_distance_2 : decode cL_distance 2 = .ok (.invokevirtual 51, 3) := by decide +kernel
theorem dL_distance_5 : decode cL_distance 5 = .ok (.ireturn, 1) := by decide +kernel
theorem dL_distance_6 : decode cL_distance 6 = .ok (.astore_n 2, 1) := by decide +kernel
theorem dL_distance_7 : decode cL_distance 7 = .ok (.bipush (-77), 2) := by decide +kernel
theorem dL_distance_9 : decode cL_distance 9 = .ok (.ireturn, 1) := by decide +kernel
theorem dL_loss_0 : decode cL_loss 0 = .ok (.aload_n 0, 1) := by decide +kernel
theorem dL_loss_1 : decode cL_loss 1 = .ok (.iload_n 1, 1) := by decide +kernel
theorem dL_loss_2 : decode cL_loss 2 = .ok (.invokevirtual 54, 3) := by decide +kernel
theorem dL_loss_5 : decode cL_loss 5 = .ok (.ireturn, 1) := by decide +kernel
theorem dL_loss_6 : decode cL_loss 6 = .ok (.astore_n 2, 1) := by decide +kernel
theorem dL_loss_7 : decode cL_loss 7 = .ok (.bipush (-77), 2) := by decide +kernel
theorem dL_loss_9 : decode cL_loss 9 = .ok (.ireturn, 1) := by decide +kernel
theorem dL_inboxSize_0 : decode cL_inboxSize 0 = .ok (.aload_n 0, 1) := by decide +kernel
theorem dL_inboxSize_1 : decode cL_inboxSize 1 = .ok (.iload_n 1, 1) := by decide +kernel
theorem dL_inboxSize_2 : decode cL_inboxSize 2 = .ok (.invokevirtual 57, 3) := by decide +kernel
theorem dL_inboxSize_5 : decode cL_inboxSize 5 = .ok (.ireturn, 1) := by decide +kernel
theorem dL_inboxSize_6 : decode cL_inboxSize 6 = .ok (.astore_n 2, 1) := by decide +kernel
theorem dL_inboxSize_7 : decode cL_inboxSize 7 = .ok (.bipush (-77), 2) := by decide +kernel
theorem dL_inboxSize_9 : decode cL_inboxSize 9 = .ok (.ireturn, 1) := by decide +kernel
theorem dL_inboxMessage_0 : decode cL_inboxMessage 0 = .ok (.aload_n 0, 1) := by decide +kernel
theorem dL_inboxMessage_1 : decode cL_inboxMessage 1 = .ok (.iload_n 1, 1) := by decide +kernel
theorem dL_inboxMessage_2 : decode cL_inboxMessage 2 = .ok (.iload_n 2, 1) := by decide +kernel
theorem dL_inboxMessage_3 : decode cL_inboxMessage 3 = .ok (.invokevirtual 60, 3) := by decide +kernel
theorem dL_inboxMessage_6 : decode cL_inboxMessage 6 = .ok (.ireturn, 1) := by decide +kernel
theorem dL_inboxMessage_7 : decode cL_inboxMessage 7 = .ok (.astore_n 3, 1) := by decide +kernel
theorem dL_inboxMessage_8 : decode cL_inboxMessage 8 = .ok (.bipush (-77), 2) := by decide +kernel
theorem dL_inboxMessage_10 : decode cL_inboxMessage 10 = .ok (.ireturn, 1) := by decide +kernel
theorem dL_inboxMessage_11 : decode cL_inboxMessage 11 = .ok (.astore_n 3, 1) := by decide +kernel
theorem dL_inboxMessage_12 : decode cL_inboxMessage 12 = .ok (.bipush (-75), 2) := by decide +kernel
theorem dL_inboxMessage_14 : decode cL_inboxMessage 14 = .ok (.ireturn, 1) := by decide +kernel
theorem dL_remembers_0 : decode cL_remembers 0 = .ok (.aload_n 0, 1) := by decide +kernel
theorem dL_remembers_1 : decode cL_remembers 1 = .ok (.iload_n 1, 1) := by decide +kernel
theorem dL_remembers_2 : decode cL_remembers 2 = .ok (.iload_n 2, 1) := by decide +kernel
theorem dL_remembers_3 : decode cL_remembers 3 = .ok (.invokevirtual 63, 3) := by decide +kernel
theorem dL_remembers_6 : decode cL_remembers 6 = .ok (.ifCond .eq 7, 3) := by decide +kernel
theorem dL_remembers_9 : decode cL_remembers 9 = .ok (.iconst 1, 1) := by decide +kernel
theorem dL_remembers_10 : decode cL_remembers 10 = .ok (.goto 4, 3) := by decide +kernel
theorem dL_remembers_13 : decode cL_remembers 13 = .ok (.iconst 0, 1) := by decide +kernel
theorem dL_remembers_14 : decode cL_remembers 14 = .ok (.ireturn, 1) := by decide +kernel
theorem dL_remembers_15 : decode cL_remembers 15 = .ok (.astore_n 3, 1) := by decide +kernel
theorem dL_remembers_16 : decode cL_remembers 16 = .ok (.bipush (-77), 2) := by decide +kernel
theorem dL_remembers_18 : decode cL_remembers 18 = .ok (.ireturn, 1) := by decide +kernel
theorem dL_rememberedCount_0 : decode cL_rememberedCount 0 = .ok (.aload_n 0, 1) := by decide +kernel
theorem dL_rememberedCount_1 : decode cL_rememberedCount 1 = .ok (.iload_n 1, 1) := by decide +kernel
theorem dL_rememberedCount_2 : decode cL_rememberedCount 2 = .ok (.invokevirtual 67, 3) := by decide +kernel
theorem dL_rememberedCount_5 : decode cL_rememberedCount 5 = .ok (.ireturn, 1) := by decide +kernel
theorem dL_rememberedCount_6 : decode cL_rememberedCount 6 = .ok (.astore_n 2, 1) := by decide +kernel
theorem dL_rememberedCount_7 : decode cL_rememberedCount 7 = .ok (.bipush (-77), 2) := by decide +kernel
theorem dL_rememberedCount_9 : decode cL_rememberedCount 9 = .ok (.ireturn, 1) := by decide +kernel
theorem dL_nestByDeliveries_0 : decode cL_nestByDeliveries 0 = .ok (.aload_n 0, 1) := by decide +kernel
theorem dL_nestByDeliveries_1 : decode cL_nestByDeliveries 1 = .ok (.iload_n 1, 1) := by decide +kernel
theorem dL_nestByDeliveries_2 : decode cL_nestByDeliveries 2 = .ok (.invokevirtual 70, 3) := by decide +kernel
theorem dL_nestByDeliveries_5 : decode cL_nestByDeliveries 5 = .ok (.ireturn, 1) := by decide +kernel
theorem dL_nestByDeliveries_6 : decode cL_nestByDeliveries 6 = .ok (.astore_n 2, 1) := by decide +kernel
theorem dL_nestByDeliveries_7 : decode cL_nestByDeliveries 7 = .ok (.bipush (-75), 2) := by decide +kernel
theorem dL_nestByDeliveries_9 : decode cL_nestByDeliveries 9 = .ok (.ireturn, 1) := by decide +kernel
theorem dL_isFlying_0 : decode cL_isFlying 0 = .ok (.aload_n 0, 1) := by decide +kernel
theorem dL_isFlying_1 : decode cL_isFlying 1 = .ok (.iload_n 1, 1) := by decide +kernel
theorem dL_isFlying_2 : decode cL_isFlying 2 = .ok (.invokevirtual 73, 3) := by decide +kernel
theorem dL_isFlying_5 : decode cL_isFlying 5 = .ok (.ifCond .eq 7, 3) := by decide +kernel
theorem dL_isFlying_8 : decode cL_isFlying 8 = .ok (.iconst 1, 1) := by decide +kernel
theorem dL_isFlying_9 : decode cL_isFlying 9 = .ok (.goto 4, 3) := by decide +kernel
theorem dL_isFlying_12 : decode cL_isFlying 12 = .ok (.iconst 0, 1) := by decide +kernel
theorem dL_isFlying_13 : decode cL_isFlying 13 = .ok (.ireturn, 1) := by decide +kernel
theorem dL_isFlying_14 : decode cL_isFlying 14 = .ok (.astore_n 2, 1) := by decide +kernel
theorem dL_isFlying_15 : decode cL_isFlying 15 = .ok (.bipush (-77), 2) := by decide +kernel
theorem dL_isFlying_17 : decode cL_isFlying 17 = .ok (.ireturn, 1) := by decide +kernel
theorem dL_carriedMessage_0 : decode cL_carriedMessage 0 = .ok (.aload_n 0, 1) := by decide +kernel
theorem dL_carriedMessage_1 : decode cL_carriedMessage 1 = .ok (.iload_n 1, 1) := by decide +kernel
theorem dL_carriedMessage_2 : decode cL_carriedMessage 2 = .ok (.invokevirtual 77, 3) := by decide +kernel
theorem dL_carriedMessage_5 : decode cL_carriedMessage 5 = .ok (.ireturn, 1) := by decide +kernel
theorem dL_carriedMessage_6 : decode cL_carriedMessage 6 = .ok (.astore_n 2, 1) := by decide +kernel
theorem dL_carriedMessage_7 : decode cL_carriedMessage 7 = .ok (.bipush (-77), 2) := by decide +kernel
theorem dL_carriedMessage_9 : decode cL_carriedMessage 9 = .ok (.ireturn, 1) := by decide +kernel
theorem dL_carriedMessage_10 : decode cL_carriedMessage 10 = .ok (.astore_n 2, 1) := by decide +kernel
theorem dL_carriedMessage_11 : decode cL_carriedMessage 11 = .ok (.bipush (-75), 2) := by decide +kernel
theorem dL_carriedMessage_13 : decode cL_carriedMessage 13 = .ok (.ireturn, 1) := by decide +kernel
theorem dL_flightMinutes_0 : decode cL_flightMinutes 0 = .ok (.aload_n 0, 1) := by decide +kernel
theorem dL_flightMinutes_1 : decode cL_flightMinutes 1 = .ok (.iload_n 1, 1) := by decide +kernel
theorem dL_flightMinutes_2 : decode cL_flightMinutes 2 = .ok (.invokevirtual 80, 3) := by decide +kernel
theorem dL_flightMinutes_5 : decode cL_flightMinutes 5 = .ok (.ireturn, 1) := by decide +kernel
theorem dL_flightMinutes_6 : decode cL_flightMinutes 6 = .ok (.astore_n 2, 1) := by decide +kernel
theorem dL_flightMinutes_7 : decode cL_flightMinutes 7 = .ok (.bipush (-77), 2) := by decide +kernel
theorem dL_flightMinutes_9 : decode cL_flightMinutes 9 = .ok (.ireturn, 1) := by decide +kernel
theorem dL_messageAt_0 : decode cL_messageAt 0 = .ok (.aload_n 0, 1) := by decide +kernel
theorem dL_messageAt_1 : decode cL_messageAt 1 = .ok (.iload_n 1, 1) := by decide +kernel
theorem dL_messageAt_2 : decode cL_messageAt 2 = .ok (.invokevirtual 83, 3) := by decide +kernel
theorem dL_messageAt_5 : decode cL_messageAt 5 = .ok (.ireturn, 1) := by decide +kernel
theorem dL_messageAt_6 : decode cL_messageAt 6 = .ok (.astore_n 2, 1) := by decide +kernel
theorem dL_messageAt_7 : decode cL_messageAt 7 = .ok (.bipush (-75), 2) := by decide +kernel
theorem dL_messageAt_9 : decode cL_messageAt 9 = .ok (.ireturn, 1) := by decide +kernel
theorem dL_nestOf_0 : decode cL_nestOf 0 = .ok (.aload_n 0, 1) := by decide +kernel
theorem dL_nestOf_1 : decode cL_nestOf 1 = .ok (.iload_n 1, 1) := by decide +kernel
theorem dL_nestOf_2 : decode cL_nestOf 2 = .ok (.invokevirtual 86, 3) := by decide +kernel
theorem dL_nestOf_5 : decode cL_nestOf 5 = .ok (.ireturn, 1) := by decide +kernel
theorem dL_nestOf_6 : decode cL_nestOf 6 = .ok (.astore_n 2, 1) := by decide +kernel
theorem dL_nestOf_7 : decode cL_nestOf 7 = .ok (.bipush (-75), 2) := by decide +kernel
theorem dL_nestOf_9 : decode cL_nestOf 9 = .ok (.ireturn, 1) := by decide +kernel
theorem dL_keyOf_0 : decode cL_keyOf 0 = .ok (.aload_n 0, 1) := by decide +kernel
theorem dL_keyOf_1 : decode cL_keyOf 1 = .ok (.iload_n 1, 1) := by decide +kernel
theorem dL_keyOf_2 : decode cL_keyOf 2 = .ok (.invokevirtual 89, 3) := by decide +kernel
theorem dL_keyOf_5 : decode cL_keyOf 5 = .ok (.ireturn, 1) := by decide +kernel
theorem dL_keyOf_6 : decode cL_keyOf 6 = .ok (.astore_n 2, 1) := by decide +kernel
theorem dL_keyOf_7 : decode cL_keyOf 7 = .ok (.bipush (-75), 2) := by decide +kernel
theorem dL_keyOf_9 : decode cL_keyOf 9 = .ok (.ireturn, 1) := by decide +kernel
theorem dL_attempts_0 : decode cL_attempts 0 = .ok (.aload_n 0, 1) := by decide +kernel
theorem dL_attempts_1 : decode cL_attempts 1 = .ok (.iload_n 1, 1) := by decide +kernel
theorem dL_attempts_2 : decode cL_attempts 2 = .ok (.invokevirtual 92, 3) := by decide +kernel
theorem dL_attempts_5 : decode cL_attempts 5 = .ok (.ireturn, 1) := by decide +kernel
theorem dL_attempts_6 : decode cL_attempts 6 = .ok (.astore_n 2, 1) := by decide +kernel
theorem dL_attempts_7 : decode cL_attempts 7 = .ok (.bipush (-75), 2) := by decide +kernel
theorem dL_attempts_9 : decode cL_attempts 9 = .ok (.ireturn, 1) := by decide +kernel
theorem dL_status_0 : decode cL_status 0 = .ok (.aload_n 0, 1) := by decide +kernel
theorem dL_status_1 : decode cL_status 1 = .ok (.iload_n 1, 1) := by decide +kernel
theorem dL_status_2 : decode cL_status 2 = .ok (.invokevirtual 95, 3) := by decide +kernel
theorem dL_status_5 : decode cL_status 5 = .ok (.ireturn, 1) := by decide +kernel
theorem dL_status_6 : decode cL_status 6 = .ok (.astore_n 2, 1) := by decide +kernel
theorem dL_status_7 : decode cL_status 7 = .ok (.bipush (-75), 2) := by decide +kernel
theorem dL_status_9 : decode cL_status 9 = .ok (.ireturn, 1) := by decide +kernel
theorem dL_napMinutes_0 : decode cL_napMinutes 0 = .ok (.aload_n 0, 1) := by decide +kernel
theorem dL_napMinutes_1 : decode cL_napMinutes 1 = .ok (.iload_n 1, 1) := by decide +kernel
theorem dL_napMinutes_2 : decode cL_napMinutes 2 = .ok (.invokevirtual 99, 3) := by decide +kernel
theorem dL_napMinutes_5 : decode cL_napMinutes 5 = .ok (.ireturn, 1) := by decide +kernel
theorem dL_napMinutes_6 : decode cL_napMinutes 6 = .ok (.astore_n 2, 1) := by decide +kernel
theorem dL_napMinutes_7 : decode cL_napMinutes 7 = .ok (.bipush (-75), 2) := by decide +kernel
theorem dL_napMinutes_9 : decode cL_napMinutes 9 = .ok (.ireturn, 1) := by decide +kernel
theorem dL_napMinutes_10 : decode cL_napMinutes 10 = .ok (.astore_n 2, 1) := by decide +kernel
theorem dL_napMinutes_11 : decode cL_napMinutes 11 = .ok (.bipush (-79), 2) := by decide +kernel
theorem dL_napMinutes_13 : decode cL_napMinutes 13 = .ok (.ireturn, 1) := by decide +kernel
theorem dL_waitingMessage_0 : decode cL_waitingMessage 0 = .ok (.aload_n 0, 1) := by decide +kernel
theorem dL_waitingMessage_1 : decode cL_waitingMessage 1 = .ok (.iload_n 1, 1) := by decide +kernel
theorem dL_waitingMessage_2 : decode cL_waitingMessage 2 = .ok (.invokevirtual 102, 3) := by decide +kernel
theorem dL_waitingMessage_5 : decode cL_waitingMessage 5 = .ok (.ireturn, 1) := by decide +kernel
theorem dL_waitingMessage_6 : decode cL_waitingMessage 6 = .ok (.astore_n 2, 1) := by decide +kernel
theorem dL_waitingMessage_7 : decode cL_waitingMessage 7 = .ok (.bipush (-75), 2) := by decide +kernel
theorem dL_waitingMessage_9 : decode cL_waitingMessage 9 = .ok (.ireturn, 1) := by decide +kernel
theorem dL_wouldBeLost_0 : decode cL_wouldBeLost 0 = .ok (.aload_n 0, 1) := by decide +kernel
theorem dL_wouldBeLost_1 : decode cL_wouldBeLost 1 = .ok (.iload_n 1, 1) := by decide +kernel
theorem dL_wouldBeLost_2 : decode cL_wouldBeLost 2 = .ok (.invokevirtual 105, 3) := by decide +kernel
theorem dL_wouldBeLost_5 : decode cL_wouldBeLost 5 = .ok (.ifCond .eq 7, 3) := by decide +kernel
theorem dL_wouldBeLost_8 : decode cL_wouldBeLost 8 = .ok (.iconst 1, 1) := by decide +kernel
theorem dL_wouldBeLost_9 : decode cL_wouldBeLost 9 = .ok (.goto 4, 3) := by decide +kernel
theorem dL_wouldBeLost_12 : decode cL_wouldBeLost 12 = .ok (.iconst 0, 1) := by decide +kernel
theorem dL_wouldBeLost_13 : decode cL_wouldBeLost 13 = .ok (.ireturn, 1) := by decide +kernel
theorem dL_wouldBeLost_14 : decode cL_wouldBeLost 14 = .ok (.astore_n 2, 1) := by decide +kernel
theorem dL_wouldBeLost_15 : decode cL_wouldBeLost 15 = .ok (.bipush (-75), 2) := by decide +kernel
theorem dL_wouldBeLost_17 : decode cL_wouldBeLost 17 = .ok (.ireturn, 1) := by decide +kernel
theorem dL_wouldBeLost_18 : decode cL_wouldBeLost 18 = .ok (.astore_n 2, 1) := by decide +kernel
theorem dL_wouldBeLost_19 : decode cL_wouldBeLost 19 = .ok (.bipush (-79), 2) := by decide +kernel
theorem dL_wouldBeLost_21 : decode cL_wouldBeLost 21 = .ok (.ireturn, 1) := by decide +kernel
theorem dL_napLength_0 : decode cL_napLength 0 = .ok (.aload_n 0, 1) := by decide +kernel
theorem dL_napLength_1 : decode cL_napLength 1 = .ok (.iload_n 1, 1) := by decide +kernel
theorem dL_napLength_2 : decode cL_napLength 2 = .ok (.invokevirtual 108, 3) := by decide +kernel
theorem dL_napLength_5 : decode cL_napLength 5 = .ok (.lreturn, 1) := by decide +kernel
theorem dL_napLength_6 : decode cL_napLength 6 = .ok (.astore_n 2, 1) := by decide +kernel
theorem dL_napLength_7 : decode cL_napLength 7 = .ok (.ldc2_w 112, 3) := by decide +kernel
theorem dL_napLength_10 : decode cL_napLength 10 = .ok (.lreturn, 1) := by decide +kernel
theorem dL_napLengthByDoubling_0 : decode cL_napLengthByDoubling 0 = .ok (.aload_n 0, 1) := by decide +kernel
theorem dL_napLengthByDoubling_1 : decode cL_napLengthByDoubling 1 = .ok (.iload_n 1, 1) := by decide +kernel
theorem dL_napLengthByDoubling_2 : decode cL_napLengthByDoubling 2 = .ok (.invokevirtual 114, 3) := by decide +kernel
theorem dL_napLengthByDoubling_5 : decode cL_napLengthByDoubling 5 = .ok (.lreturn, 1) := by decide +kernel
theorem dL_napLengthByDoubling_6 : decode cL_napLengthByDoubling 6 = .ok (.astore_n 2, 1) := by decide +kernel
theorem dL_napLengthByDoubling_7 : decode cL_napLengthByDoubling 7 = .ok (.ldc2_w 112, 3) := by decide +kernel
theorem dL_napLengthByDoubling_10 : decode cL_napLengthByDoubling 10 = .ok (.lreturn, 1) := by decide +kernel
theorem dL_minutesUntilDelivered_0 : decode cL_minutesUntilDelivered 0 = .ok (.aload_n 0, 1) := by decide +kernel
theorem dL_minutesUntilDelivered_1 : decode cL_minutesUntilDelivered 1 = .ok (.iload_n 1, 1) := by decide +kernel
theorem dL_minutesUntilDelivered_2 : decode cL_minutesUntilDelivered 2 = .ok (.invokevirtual 117, 3) := by decide +kernel
theorem dL_minutesUntilDelivered_5 : decode cL_minutesUntilDelivered 5 = .ok (.ireturn, 1) := by decide +kernel
theorem dL_minutesUntilDelivered_6 : decode cL_minutesUntilDelivered 6 = .ok (.astore_n 2, 1) := by decide +kernel
theorem dL_minutesUntilDelivered_7 : decode cL_minutesUntilDelivered 7 = .ok (.bipush (-75), 2) := by decide +kernel
theorem dL_minutesUntilDelivered_9 : decode cL_minutesUntilDelivered 9 = .ok (.ireturn, 1) := by decide +kernel
theorem dL_minutesUntilDelivered_10 : decode cL_minutesUntilDelivered 10 = .ok (.astore_n 2, 1) := by decide +kernel
theorem dL_minutesUntilDelivered_11 : decode cL_minutesUntilDelivered 11 = .ok (.bipush (-79), 2) := by decide +kernel
theorem dL_minutesUntilDelivered_13 : decode cL_minutesUntilDelivered 13 = .ok (.ireturn, 1) := by decide +kernel
theorem dL_meanAttempts_0 : decode cL_meanAttempts 0 = .ok (.aload_n 0, 1) := by decide +kernel
theorem dL_meanAttempts_1 : decode cL_meanAttempts 1 = .ok (.invokevirtual 120, 3) := by decide +kernel
theorem dL_meanAttempts_4 : decode cL_meanAttempts 4 = .ok (.dreturn, 1) := by decide +kernel
theorem dL_meanAttempts_5 : decode cL_meanAttempts 5 = .ok (.astore_n 1, 1) := by decide +kernel
theorem dL_meanAttempts_6 : decode cL_meanAttempts 6 = .ok (.ldc2_w 126, 3) := by decide +kernel
theorem dL_meanAttempts_9 : decode cL_meanAttempts 9 = .ok (.dreturn, 1) := by decide +kernel
theorem dL_meanAttemptsBits_0 : decode cL_meanAttemptsBits 0 = .ok (.aload_n 0, 1) := by decide +kernel
theorem dL_meanAttemptsBits_1 : decode cL_meanAttemptsBits 1 = .ok (.invokevirtual 128, 3) := by decide +kernel
theorem dL_meanAttemptsBits_4 : decode cL_meanAttemptsBits 4 = .ok (.lreturn, 1) := by decide +kernel
theorem dL_meanAttemptsBits_5 : decode cL_meanAttemptsBits 5 = .ok (.astore_n 1, 1) := by decide +kernel
theorem dL_meanAttemptsBits_6 : decode cL_meanAttemptsBits 6 = .ok (.ldc2_w 132, 3) := by decide +kernel
theorem dL_meanAttemptsBits_9 : decode cL_meanAttemptsBits 9 = .ok (.lreturn, 1) := by decide +kernel
theorem dL_deliveryRate_0 : decode cL_deliveryRate 0 = .ok (.aload_n 0, 1) := by decide +kernel
theorem dL_deliveryRate_1 : decode cL_deliveryRate 1 = .ok (.invokevirtual 134, 3) := by decide +kernel
theorem dL_deliveryRate_4 : decode cL_deliveryRate 4 = .ok (.freturn, 1) := by decide +kernel
theorem dL_deliveryRate_5 : decode cL_deliveryRate 5 = .ok (.astore_n 1, 1) := by decide +kernel
theorem dL_deliveryRate_6 : decode cL_deliveryRate 6 = .ok (.ldc 138, 2) := by decide +kernel
theorem dL_deliveryRate_8 : decode cL_deliveryRate 8 = .ok (.freturn, 1) := by decide +kernel
theorem dL_deliveryRateBits_0 : decode cL_deliveryRateBits 0 = .ok (.aload_n 0, 1) := by decide +kernel
theorem dL_deliveryRateBits_1 : decode cL_deliveryRateBits 1 = .ok (.invokevirtual 139, 3) := by decide +kernel
theorem dL_deliveryRateBits_4 : decode cL_deliveryRateBits 4 = .ok (.ireturn, 1) := by decide +kernel
theorem dL_deliveryRateBits_5 : decode cL_deliveryRateBits 5 = .ok (.astore_n 1, 1) := by decide +kernel
theorem dL_deliveryRateBits_6 : decode cL_deliveryRateBits 6 = .ok (.bipush (-74), 2) := by decide +kernel
theorem dL_deliveryRateBits_8 : decode cL_deliveryRateBits 8 = .ok (.ireturn, 1) := by decide +kernel
theorem dL_type_0 : decode cL_type 0 = .ok (.aload_n 0, 1) := by decide +kernel
theorem dL_type_1 : decode cL_type 1 = .ok (.iload_n 1, 1) := by decide +kernel
theorem dL_type_2 : decode cL_type 2 = .ok (.invokevirtual 148, 3) := by decide +kernel
theorem dL_type_5 : decode cL_type 5 = .ok (.ireturn, 1) := by decide +kernel
theorem dL_type_6 : decode cL_type 6 = .ok (.astore_n 2, 1) := by decide +kernel
theorem dL_type_7 : decode cL_type 7 = .ok (.bipush (-78), 2) := by decide +kernel
theorem dL_type_9 : decode cL_type 9 = .ok (.ireturn, 1) := by decide +kernel
theorem dL_type_10 : decode cL_type 10 = .ok (.astore_n 2, 1) := by decide +kernel
theorem dL_type_11 : decode cL_type 11 = .ok (.bipush (-79), 2) := by decide +kernel
theorem dL_type_13 : decode cL_type 13 = .ok (.ireturn, 1) := by decide +kernel
theorem dL_runScript_0 : decode cL_runScript 0 = .ok (.aload_n 0, 1) := by decide +kernel
theorem dL_runScript_1 : decode cL_runScript 1 = .ok (.invokevirtual 152, 3) := by decide +kernel
theorem dL_runScript_4 : decode cL_runScript 4 = .ok (.ireturn, 1) := by decide +kernel
theorem dL_runScript_5 : decode cL_runScript 5 = .ok (.astore_n 1, 1) := by decide +kernel
theorem dL_runScript_6 : decode cL_runScript 6 = .ok (.bipush (-78), 2) := by decide +kernel
theorem dL_runScript_8 : decode cL_runScript 8 = .ok (.ireturn, 1) := by decide +kernel
theorem dL_runScript_9 : decode cL_runScript 9 = .ok (.astore_n 1, 1) := by decide +kernel
theorem dL_runScript_10 : decode cL_runScript 10 = .ok (.bipush (-79), 2) := by decide +kernel
theorem dL_runScript_12 : decode cL_runScript 12 = .ok (.ireturn, 1) := by decide +kernel
theorem dL_undo_0 : decode cL_undo 0 = .ok (.aload_n 0, 1) := by decide +kernel
theorem dL_undo_1 : decode cL_undo 1 = .ok (.invokevirtual 161, 3) := by decide +kernel
theorem dL_undo_4 : decode cL_undo 4 = .ok (.ireturn, 1) := by decide +kernel
theorem dL_undo_5 : decode cL_undo 5 = .ok (.astore_n 1, 1) := by decide +kernel
theorem dL_undo_6 : decode cL_undo 6 = .ok (.bipush (-75), 2) := by decide +kernel
theorem dL_undo_8 : decode cL_undo 8 = .ok (.ireturn, 1) := by decide +kernel
theorem dL_restore_0 : decode cL_restore 0 = .ok (.aload_n 0, 1) := by decide +kernel
theorem dL_restore_1 : decode cL_restore 1 = .ok (.invokevirtual 164, 3) := by decide +kernel
theorem dL_restore_4 : decode cL_restore 4 = .ok (.ireturn, 1) := by decide +kernel
theorem dL_restore_5 : decode cL_restore 5 = .ok (.astore_n 1, 1) := by decide +kernel
theorem dL_restore_6 : decode cL_restore 6 = .ok (.bipush (-79), 2) := by decide +kernel
theorem dL_restore_8 : decode cL_restore 8 = .ok (.ireturn, 1) := by decide +kernel
theorem dL_runs_0 : decode cL_runs 0 = .ok (.iconst 0, 1) := by decide +kernel
theorem dL_runs_1 : decode cL_runs 1 = .ok (.istore_n 2, 1) := by decide +kernel
theorem dL_runs_2 : decode cL_runs 2 = .ok (.iload_n 2, 1) := by decide +kernel
theorem dL_runs_3 : decode cL_runs 3 = .ok (.aload_n 1, 1) := by decide +kernel
theorem dL_runs_4 : decode cL_runs 4 = .ok (.invokevirtual 167, 3) := by decide +kernel
theorem dL_runs_7 : decode cL_runs 7 = .ok (.if_icmp .ge 19, 3) := by decide +kernel
theorem dL_runs_10 : decode cL_runs 10 = .ok (.aload_n 0, 1) := by decide +kernel
theorem dL_runs_11 : decode cL_runs 11 = .ok (.aload_n 1, 1) := by decide +kernel
theorem dL_runs_12 : decode cL_runs 12 = .ok (.iload_n 2, 1) := by decide +kernel
theorem dL_runs_13 : decode cL_runs 13 = .ok (.invokevirtual 172, 3) := by decide +kernel
theorem dL_runs_16 : decode cL_runs 16 = .ok (.invokestatic 175, 3) := by decide +kernel
theorem dL_runs_19 : decode cL_runs 19 = .ok (.istore_n 3, 1) := by decide +kernel
theorem dL_runs_20 : decode cL_runs 20 = .ok (.iinc 2 1, 3) := by decide +kernel
theorem dL_runs_23 : decode cL_runs 23 = .ok (.goto (-21), 3) := by decide +kernel
theorem dL_runs_26 : decode cL_runs 26 = .ok (.aload_n 0, 1) := by decide +kernel
theorem dL_runs_27 : decode cL_runs 27 = .ok (.invokestatic 178, 3) := by decide +kernel
theorem dL_runs_30 : decode cL_runs 30 = .ok (.ireturn, 1) := by decide +kernel
theorem dL_law_0 : decode cL_law 0 = .ok (.new 15, 3) := by decide +kernel
theorem dL_law_3 : decode cL_law 3 = .ok (.dup, 1) := by decide +kernel
theorem dL_law_4 : decode cL_law 4 = .ok (.invokespecial 184, 3) := by decide +kernel
theorem dL_law_7 : decode cL_law 7 = .ok (.astore_n 1, 1) := by decide +kernel
theorem dL_law_8 : decode cL_law 8 = .ok (.bipush 80, 2) := by decide +kernel
theorem dL_law_10 : decode cL_law 10 = .ok (.newarray .long, 2) := by decide +kernel
theorem dL_law_12 : decode cL_law 12 = .ok (.astore_n 2, 1) := by decide +kernel
theorem dL_law_13 : decode cL_law 13 = .ok (.iconst 0, 1) := by decide +kernel
theorem dL_law_14 : decode cL_law 14 = .ok (.istore_n 3, 1) := by decide +kernel
theorem dL_law_15 : decode cL_law 15 = .ok (.aload_n 2, 1) := by decide +kernel
theorem dL_law_16 : decode cL_law 16 = .ok (.iload_n 3, 1) := by decide +kernel
theorem dL_law_17 : decode cL_law 17 = .ok (.aload_n 1, 1) := by decide +kernel
theorem dL_law_18 : decode cL_law 18 = .ok (.invokestatic 185, 3) := by decide +kernel
theorem dL_law_21 : decode cL_law 21 = .ok (.lastore, 1) := by decide +kernel
theorem dL_law_22 : decode cL_law 22 = .ok (.iconst 0, 1) := by decide +kernel
theorem dL_law_23 : decode cL_law 23 = .ok (.istore 4, 2) := by decide +kernel
theorem dL_law_25 : decode cL_law 25 = .ok (.iconst 0, 1) := by decide +kernel
theorem dL_law_26 : decode cL_law 26 = .ok (.istore 5, 2) := by decide +kernel
theorem dL_law_28 : decode cL_law 28 = .ok (.iload 5, 2) := by decide +kernel
theorem dL_law_30 : decode cL_law 30 = .ok (.bipush 60, 2) := by decide +kernel
theorem dL_law_32 : decode cL_law 32 = .ok (.if_icmp .ge 456, 3) := by decide +kernel
theorem dL_law_35 : decode cL_law 35 = .ok (.aload_n 1, 1) := by decide +kernel
theorem dL_law_36 : decode cL_law 36 = .ok (.invokestatic 185, 3) := by decide +kernel
theorem dL_law_39 : decode cL_law 39 = .ok (.lstore 6, 2) := by decide +kernel
theorem dL_law_41 : decode cL_law 41 = .ok (.iload 5, 2) := by decide +kernel
theorem dL_law_43 : decode cL_law 43 = .ok (.iconst 2, 1) := by decide +kernel
theorem dL_law_44 : decode cL_law 44 = .ok (.if_icmp .ge 7, 3) := by decide +kernel
theorem dL_law_47 : decode cL_law 47 = .ok (.iconst 0, 1) := by decide +kernel
theorem dL_law_48 : decode cL_law 48 = .ok (.goto 33, 3) := by decide +kernel
theorem dL_law_51 : decode cL_law 51 = .ok (.iload 5, 2) := by decide +kernel
theorem dL_law_53 : decode cL_law 53 = .ok (.iconst 4, 1) := by decide +kernel
theorem dL_law_54 : decode cL_law 54 = .ok (.if_icmp .ge 7, 3) := by decide +kernel
theorem dL_law_57 : decode cL_law 57 = .ok (.iconst 3, 1) := by decide +kernel
theorem dL_law_58 : decode cL_law 58 = .ok (.goto 23, 3) := by decide +kernel
theorem dL_law_61 : decode cL_law 61 = .ok (.iload 5, 2) := by decide +kernel
theorem dL_law_63 : decode cL_law 63 = .ok (.bipush 10, 2) := by decide +kernel
theorem dL_law_65 : decode cL_law 65 = .ok (.if_icmp .ge 8, 3) := by decide +kernel
theorem dL_law_68 : decode cL_law 68 = .ok (.bipush 8, 2) := by decide +kernel
theorem dL_law_70 : decode cL_law 70 = .ok (.goto 11, 3) := by decide +kernel
theorem dL_law_73 : decode cL_law 73 = .ok (.aload_n 0, 1) := by decide +kernel
theorem dL_law_74 : decode cL_law 74 = .ok (.iload 4, 2) := by decide +kernel
theorem dL_law_76 : decode cL_law 76 = .ok (.bipush 44, 2) := by decide +kernel
theorem dL_law_78 : decode cL_law 78 = .ok (.invokestatic 189, 3) := by decide +kernel
theorem dL_law_81 : decode cL_law 81 = .ok (.istore 8, 2) := by decide +kernel
theorem dL_law_83 : decode cL_law 83 = .ok (.aload_n 1, 1) := by decide +kernel
theorem dL_law_84 : decode cL_law 84 = .ok (.invokevirtual 193, 3) := by decide +kernel
theorem dL_law_87 : decode cL_law 87 = .ok (.istore 9, 2) := by decide +kernel
theorem dL_law_89 : decode cL_law 89 = .ok (.iload 9, 2) := by decide +kernel
theorem dL_law_91 : decode cL_law 91 = .ok (.ifCond .eq 13, 3) := by decide +kernel
theorem dL_law_94 : decode cL_law 94 = .ok (.iload 5, 2) := by decide +kernel
theorem dL_law_96 : decode cL_law 96 = .ok (.bipush 13, 2) := by decide +kernel
theorem dL_law_98 : decode cL_law 98 = .ok (.irem, 1) := by decide +kernel
theorem dL_law_99 : decode cL_law 99 = .ok (.bipush 12, 2) := by decide +kernel
theorem dL_law_101 : decode cL_law 101 = .ok (.if_icmp .ne 16, 3) := by decide +kernel
theorem dL_law_104 : decode cL_law 104 = .ok (.aload_n 0, 1) := by decide +kernel
theorem dL_law_105 : decode cL_law 105 = .ok (.iload 4, 2) := by decide +kernel
theorem dL_law_107 : decode cL_law 107 = .ok (.iconst 2, 1) := by decide +kernel
theorem dL_law_108 : decode cL_law 108 = .ok (.iadd, 1) := by decide +kernel
theorem dL_law_109 : decode cL_law 109 = .ok (.bipush 40, 2) := by decide +kernel
theorem dL_law_111 : decode cL_law 111 = .ok (.invokestatic 189, 3) := by decide +kernel
theorem dL_law_114 : decode cL_law 114 = .ok (.goto 17, 3) := by decide +kernel
theorem dL_law_117 : decode cL_law 117 = .ok (.aload_n 1, 1) := by decide +kernel
theorem dL_law_118 : decode cL_law 118 = .ok (.aload_n 0, 1) := by decide +kernel
theorem dL_law_119 : decode cL_law 119 = .ok (.iload 4, 2) := by decide +kernel
theorem dL_law_121 : decode cL_law 121 = .ok (.iconst 2, 1) := by decide +kernel
theorem dL_law_122 : decode cL_law 122 = .ok (.iadd, 1) := by decide +kernel
theorem dL_law_123 : decode cL_law 123 = .ok (.iload 9, 2) := by decide +kernel
theorem dL_law_125 : decode cL_law 125 = .ok (.invokestatic 189, 3) := by decide +kernel
theorem dL_law_128 : decode cL_law 128 = .ok (.invokestatic 196, 3) := by decide +kernel
theorem dL_law_131 : decode cL_law 131 = .ok (.istore 10, 2) := by decide +kernel
theorem dL_law_133 : decode cL_law 133 = .ok (.aload_n 0, 1) := by decide +kernel
theorem dL_law_134 : decode cL_law 134 = .ok (.iload 4, 2) := by decide +kernel
theorem dL_law_136 : decode cL_law 136 = .ok (.iconst 1, 1) := by decide +kernel
theorem dL_law_137 : decode cL_law 137 = .ok (.iadd, 1) := by decide +kernel
theorem dL_law_138 : decode cL_law 138 = .ok (.bipush 8, 2) := by decide +kernel
theorem dL_law_140 : decode cL_law 140 = .ok (.invokestatic 189, 3) := by decide +kernel
theorem dL_law_143 : decode cL_law 143 = .ok (.istore 11, 2) := by decide +kernel
theorem dL_law_145 : decode cL_law 145 = .ok (.aload_n 1, 1) := by decide +kernel
theorem dL_law_146 : decode cL_law 146 = .ok (.iload 10, 2) := by decide +kernel
theorem dL_law_148 : decode cL_law 148 = .ok (.invokestatic 198, 3) := by decide +kernel
theorem dL_law_151 : decode cL_law 151 = .ok (.istore 12, 2) := by decide +kernel
theorem dL_law_153 : decode cL_law 153 = .ok (.aload_n 1, 1) := by decide +kernel
theorem dL_law_154 : decode cL_law 154 = .ok (.iload 10, 2) := by decide +kernel
theorem dL_law_156 : decode cL_law 156 = .ok (.invokestatic 200, 3) := by decide +kernel
theorem dL_law_159 : decode cL_law 159 = .ok (.istore 13, 2) := by decide +kernel
theorem dL_law_161 : decode cL_law 161 = .ok (.aload_n 1, 1) := by decide +kernel
theorem dL_law_162 : decode cL_law 162 = .ok (.iload 10, 2) := by decide +kernel
theorem dL_law_164 : decode cL_law 164 = .ok (.invokestatic 202, 3) := by decide +kernel
theorem dL_law_167 : decode cL_law 167 = .ok (.istore 14, 2) := by decide +kernel
theorem dL_law_169 : decode cL_law 169 = .ok (.aload_n 1, 1) := by decide +kernel
theorem dL_law_170 : decode cL_law 170 = .ok (.invokevirtual 204, 3) := by decide +kernel
theorem dL_law_173 : decode cL_law 173 = .ok (.istore 15, 2) := by decide +kernel
theorem dL_law_175 : decode cL_law 175 = .ok (.aload_n 1, 1) := by decide +kernel
theorem dL_law_176 : decode cL_law 176 = .ok (.invokevirtual 207, 3) := by decide +kernel
theorem dL_law_179 : decode cL_law 179 = .ok (.istore 16, 2) := by decide +kernel
theorem dL_law_181 : decode cL_law 181 = .ok (.aload_n 1, 1) := by decide +kernel
theorem dL_law_182 : decode cL_law 182 = .ok (.invokevirtual 210, 3) := by decide +kernel
theorem dL_law_185 : decode cL_law 185 = .ok (.istore 17, 2) := by decide +kernel
theorem dL_law_187 : decode cL_law 187 = .ok (.aload_n 1, 1) := by decide +kernel
theorem dL_law_188 : decode cL_law 188 = .ok (.invokevirtual 213, 3) := by decide +kernel
theorem dL_law_191 : decode cL_law 191 = .ok (.aload_n 1, 1) := by decide +kernel
theorem dL_law_192 : decode cL_law 192 = .ok (.invokevirtual 216, 3) := by decide +kernel
theorem dL_law_195 : decode cL_law 195 = .ok (.iadd, 1) := by decide +kernel
theorem dL_law_196 : decode cL_law 196 = .ok (.istore 18, 2) := by decide +kernel
theorem dL_law_198 : decode cL_law 198 = .ok (.aload_n 0, 1) := by decide +kernel
theorem dL_law_199 : decode cL_law 199 = .ok (.iload 4, 2) := by decide +kernel
theorem dL_law_201 : decode cL_law 201 = .ok (.iload 8, 2) := by decide +kernel
theorem dL_law_203 : decode cL_law 203 = .ok (.aload_n 1, 1) := by decide +kernel
theorem dL_law_204 : decode cL_law 204 = .ok (.iload 10, 2) := by decide +kernel
theorem dL_law_206 : decode cL_law 206 = .ok (.iload 11, 2) := by decide +kernel
theorem dL_law_208 : decode cL_law 208 = .ok (.invokestatic 219, 3) := by decide +kernel
theorem dL_law_211 : decode cL_law 211 = .ok (.istore 19, 2) := by decide +kernel
theorem dL_law_213 : decode cL_law 213 = .ok (.iload 8, 2) := by decide +kernel
theorem dL_law_215 : decode cL_law 215 = .ok (.bipush 29, 2) := by decide +kernel
theorem dL_law_217 : decode cL_law 217 = .ok (.if_icmp .le 21, 3) := by decide +kernel
theorem dL_law_220 : decode cL_law 220 = .ok (.iload 8, 2) := by decide +kernel
theorem dL_law_222 : decode cL_law 222 = .ok (.bipush 38, 2) := by decide +kernel
theorem dL_law_224 : decode cL_law 224 = .ok (.if_icmp .ge 14, 3) := by decide +kernel
theorem dL_law_227 : decode cL_law 227 = .ok (.iload 19, 2) := by decide +kernel
theorem dL_law_229 : decode cL_law 229 = .ok (.bipush (-70), 2) := by decide +kernel
theorem dL_law_231 : decode cL_law 231 = .ok (.if_icmp .le 7, 3) := by decide +kernel
theorem dL_law_234 : decode cL_law 234 = .ok (.iconst 1, 1) := by decide +kernel
theorem dL_law_235 : decode cL_law 235 = .ok (.goto 4, 3) := by decide +kernel
theorem dL_law_238 : decode cL_law 238 = .ok (.iconst 0, 1) := by decide +kernel
theorem dL_law_239 : decode cL_law 239 = .ok (.istore 20, 2) := by decide +kernel
theorem dL_law_241 : decode cL_law 241 = .ok (.iload 20, 2) := by decide +kernel
theorem dL_law_243 : decode cL_law 243 = .ok (.ifCond .eq 61, 3) := by decide +kernel
theorem dL_law_246 : decode cL_law 246 = .ok (.aload_n 1, 1) := by decide +kernel
theorem dL_law_247 : decode cL_law 247 = .ok (.invokevirtual 207, 3) := by decide +kernel
theorem dL_law_250 : decode cL_law 250 = .ok (.iload 16, 2) := by decide +kernel
theorem dL_law_252 : decode cL_law 252 = .ok (.iload 11, 2) := by decide +kernel
theorem dL_law_254 : decode cL_law 254 = .ok (.iadd, 1) := by decide +kernel
theorem dL_law_255 : decode cL_law 255 = .ok (.if_icmp .ne 53, 3) := by decide +kernel
theorem dL_law_258 : decode cL_law 258 = .ok (.aload_n 1, 1) := by decide +kernel
theorem dL_law_259 : decode cL_law 259 = .ok (.invokevirtual 204, 3) := by decide +kernel
theorem dL_law_262 : decode cL_law 262 = .ok (.iload 15, 2) := by decide +kernel
theorem dL_law_264 : decode cL_law 264 = .ok (.iload 19, 2) := by decide +kernel
theorem dL_law_266 : decode cL_law 266 = .ok (.iadd, 1) := by decide +kernel
theorem dL_law_267 : decode cL_law 267 = .ok (.if_icmp .ne 41, 3) := by decide +kernel
theorem dL_law_270 : decode cL_law 270 = .ok (.aload_n 1, 1) := by decide +kernel
theorem dL_law_271 : decode cL_law 271 = .ok (.invokevirtual 193, 3) := by decide +kernel
theorem dL_law_274 : decode cL_law 274 = .ok (.iload 9, 2) := by decide +kernel
theorem dL_law_276 : decode cL_law 276 = .ok (.aload_n 1, 1) := by decide +kernel
theorem dL_law_277 : decode cL_law 277 = .ok (.invokevirtual 213, 3) := by decide +kernel
theorem dL_law_280 : decode cL_law 280 = .ok (.aload_n 1, 1) := by decide +kernel
theorem dL_law_281 : decode cL_law 281 = .ok (.invokevirtual 216, 3) := by decide +kernel
theorem dL_law_284 : decode cL_law 284 = .ok (.iadd, 1) := by decide +kernel
theorem dL_law_285 : decode cL_law 285 = .ok (.iload 18, 2) := by decide +kernel
theorem dL_law_287 : decode cL_law 287 = .ok (.isub, 1) := by decide +kernel
theorem dL_law_288 : decode cL_law 288 = .ok (.isub, 1) := by decide +kernel
theorem dL_law_289 : decode cL_law 289 = .ok (.if_icmp .ne 19, 3) := by decide +kernel
theorem dL_law_292 : decode cL_law 292 = .ok (.aload_n 1, 1) := by decide +kernel
theorem dL_law_293 : decode cL_law 293 = .ok (.invokevirtual 210, 3) := by decide +kernel
theorem dL_law_296 : decode cL_law 296 = .ok (.iload 17, 2) := by decide +kernel
theorem dL_law_298 : decode cL_law 298 = .ok (.iload 19, 2) := by decide +kernel
theorem dL_law_300 : decode cL_law 300 = .ok (.iadd, 1) := by decide +kernel
theorem dL_law_301 : decode cL_law 301 = .ok (.if_icmp .lt 7, 3) := by decide +kernel
theorem dL_law_304 : decode cL_law 304 = .ok (.iconst 1, 1) := by decide +kernel
theorem dL_law_305 : decode cL_law 305 = .ok (.goto 4, 3) := by decide +kernel
theorem dL_law_308 : decode cL_law 308 = .ok (.iconst 0, 1) := by decide +kernel
theorem dL_law_309 : decode cL_law 309 = .ok (.istore 21, 2) := by decide +kernel
theorem dL_law_311 : decode cL_law 311 = .ok (.iload 21, 2) := by decide +kernel
theorem dL_law_313 : decode cL_law 313 = .ok (.iload 20, 2) := by decide +kernel
theorem dL_law_315 : decode cL_law 315 = .ok (.ifCond .eq 54, 3) := by decide +kernel
theorem dL_law_318 : decode cL_law 318 = .ok (.iload 12, 2) := by decide +kernel
theorem dL_law_320 : decode cL_law 320 = .ok (.ifCond .lt 49, 3) := by decide +kernel
theorem dL_law_323 : decode cL_law 323 = .ok (.iload 12, 2) := by decide +kernel
theorem dL_law_325 : decode cL_law 325 = .ok (.iload 11, 2) := by decide +kernel
theorem dL_law_327 : decode cL_law 327 = .ok (.if_icmp .gt 17, 3) := by decide +kernel
theorem dL_law_330 : decode cL_law 330 = .ok (.aload_n 1, 1) := by decide +kernel
theorem dL_law_331 : decode cL_law 331 = .ok (.iload 10, 2) := by decide +kernel
theorem dL_law_333 : decode cL_law 333 = .ok (.invokestatic 200, 3) := by decide +kernel
theorem dL_law_336 : decode cL_law 336 = .ok (.bipush 100, 2) := by decide +kernel
theorem dL_law_338 : decode cL_law 338 = .ok (.if_icmp .ne 35, 3) := by decide +kernel
theorem dL_law_341 : decode cL_law 341 = .ok (.goto 28, 3) := by decide +kernel
theorem dL_law_344 : decode cL_law 344 = .ok (.aload_n 1, 1) := by decide +kernel
theorem dL_law_345 : decode cL_law 345 = .ok (.iload 10, 2) := by decide +kernel
theorem dL_law_347 : decode cL_law 347 = .ok (.invokestatic 200, 3) := by decide +kernel
theorem dL_law_350 : decode cL_law 350 = .ok (.bipush 100, 2) := by decide +kernel
theorem dL_law_352 : decode cL_law 352 = .ok (.if_icmp .eq 21, 3) := by decide +kernel
theorem dL_law_355 : decode cL_law 355 = .ok (.aload_n 1, 1) := by decide +kernel
theorem dL_law_356 : decode cL_law 356 = .ok (.iload 10, 2) := by decide +kernel
theorem dL_law_358 : decode cL_law 358 = .ok (.invokestatic 198, 3) := by decide +kernel
theorem dL_law_361 : decode cL_law 361 = .ok (.iload 12, 2) := by decide +kernel
theorem dL_law_363 : decode cL_law 363 = .ok (.iload 11, 2) := by decide +kernel
theorem dL_law_365 : decode cL_law 365 = .ok (.isub, 1) := by decide +kernel
theorem dL_law_366 : decode cL_law 366 = .ok (.if_icmp .ne 7, 3) := by decide +kernel
theorem dL_law_369 : decode cL_law 369 = .ok (.iconst 1, 1) := by decide +kernel
theorem dL_law_370 : decode cL_law 370 = .ok (.goto 4, 3) := by decide +kernel
theorem dL_law_373 : decode cL_law 373 = .ok (.iconst 0, 1) := by decide +kernel
theorem dL_law_374 : decode cL_law 374 = .ok (.iand, 1) := by decide +kernel
theorem dL_law_375 : decode cL_law 375 = .ok (.istore 21, 2) := by decide +kernel
theorem dL_law_377 : decode cL_law 377 = .ok (.iload 21, 2) := by decide +kernel
theorem dL_law_379 : decode cL_law 379 = .ok (.iload 20, 2) := by decide +kernel
theorem dL_law_381 : decode cL_law 381 = .ok (.ifCond .eq 31, 3) := by decide +kernel
theorem dL_law_384 : decode cL_law 384 = .ok (.iload 13, 2) := by decide +kernel
theorem dL_law_386 : decode cL_law 386 = .ok (.bipush 110, 2) := by decide +kernel
theorem dL_law_388 : decode cL_law 388 = .ok (.if_icmp .ne 24, 3) := by decide +kernel
theorem dL_law_391 : decode cL_law 391 = .ok (.iload 11, 2) := by decide +kernel
theorem dL_law_393 : decode cL_law 393 = .ok (.iload 14, 2) := by decide +kernel
theorem dL_law_395 : decode cL_law 395 = .ok (.if_icmp .ge 17, 3) := by decide +kernel
theorem dL_law_398 : decode cL_law 398 = .ok (.aload_n 1, 1) := by decide +kernel
theorem dL_law_399 : decode cL_law 399 = .ok (.iload 10, 2) := by decide +kernel
theorem dL_law_401 : decode cL_law 401 = .ok (.invokestatic 202, 3) := by decide +kernel
theorem dL_law_404 : decode cL_law 404 = .ok (.iload 14, 2) := by decide +kernel
theorem dL_law_406 : decode cL_law 406 = .ok (.iload 11, 2) := by decide +kernel
theorem dL_law_408 : decode cL_law 408 = .ok (.isub, 1) := by decide +kernel
theorem dL_law_409 : decode cL_law 409 = .ok (.if_icmp .ne 7, 3) := by decide +kernel
theorem dL_law_412 : decode cL_law 412 = .ok (.iconst 1, 1) := by decide +kernel
theorem dL_law_413 : decode cL_law 413 = .ok (.goto 4, 3) := by decide +kernel
theorem dL_law_416 : decode cL_law 416 = .ok (.iconst 0, 1) := by decide +kernel
theorem dL_law_417 : decode cL_law 417 = .ok (.iand, 1) := by decide +kernel
theorem dL_law_418 : decode cL_law 418 = .ok (.istore 21, 2) := by decide +kernel
theorem dL_law_420 : decode cL_law 420 = .ok (.iinc 4 5, 3) := by decide +kernel
theorem dL_law_423 : decode cL_law 423 = .ok (.iload 21, 2) := by decide +kernel
theorem dL_law_425 : decode cL_law 425 = .ok (.ifCond .eq 26, 3) := by decide +kernel
theorem dL_law_428 : decode cL_law 428 = .ok (.aload_n 1, 1) := by decide +kernel
theorem dL_law_429 : decode cL_law 429 = .ok (.aload_n 0, 1) := by decide +kernel
theorem dL_law_430 : decode cL_law 430 = .ok (.iload 4, 2) := by decide +kernel
theorem dL_law_432 : decode cL_law 432 = .ok (.iload 5, 2) := by decide +kernel
theorem dL_law_434 : decode cL_law 434 = .ok (.iconst 4, 1) := by decide +kernel
theorem dL_law_435 : decode cL_law 435 = .ok (.irem, 1) := by decide +kernel
theorem dL_law_436 : decode cL_law 436 = .ok (.iconst 3, 1) := by decide +kernel
theorem dL_law_437 : decode cL_law 437 = .ok (.if_icmp .ne 7, 3) := by decide +kernel
theorem dL_law_440 : decode cL_law 440 = .ok (.iconst 1, 1) := by decide +kernel
theorem dL_law_441 : decode cL_law 441 = .ok (.goto 4, 3) := by decide +kernel
theorem dL_law_444 : decode cL_law 444 = .ok (.iconst 0, 1) := by decide +kernel
theorem dL_law_445 : decode cL_law 445 = .ok (.invokestatic 223, 3) := by decide +kernel
theorem dL_law_448 : decode cL_law 448 = .ok (.ifCond .ne 5, 3) := by decide +kernel
theorem dL_law_451 : decode cL_law 451 = .ok (.iconst 0, 1) := by decide +kernel
theorem dL_law_452 : decode cL_law 452 = .ok (.ireturn, 1) := by decide +kernel
theorem dL_law_453 : decode cL_law 453 = .ok (.iload 19, 2) := by decide +kernel
theorem dL_law_455 : decode cL_law 455 = .ok (.bipush (-74), 2) := by decide +kernel
theorem dL_law_457 : decode cL_law 457 = .ok (.if_icmp .gt 15, 3) := by decide +kernel
theorem dL_law_460 : decode cL_law 460 = .ok (.aload_n 1, 1) := by decide +kernel
theorem dL_law_461 : decode cL_law 461 = .ok (.invokestatic 185, 3) := by decide +kernel
theorem dL_law_464 : decode cL_law 464 = .ok (.lload 6, 2) := by decide +kernel
theorem dL_law_466 : decode cL_law 466 = .ok (.lcmp, 1) := by decide +kernel
theorem dL_law_467 : decode cL_law 467 = .ok (.ifCond .eq 15, 3) := by decide +kernel
theorem dL_law_470 : decode cL_law 470 = .ok (.iconst 0, 1) := by decide +kernel
theorem dL_law_471 : decode cL_law 471 = .ok (.ireturn, 1) := by decide +kernel
theorem dL_law_472 : decode cL_law 472 = .ok (.iinc 3 1, 3) := by decide +kernel
theorem dL_law_475 : decode cL_law 475 = .ok (.aload_n 2, 1) := by decide +kernel
theorem dL_law_476 : decode cL_law 476 = .ok (.iload_n 3, 1) := by decide +kernel
theorem dL_law_477 : decode cL_law 477 = .ok (.aload_n 1, 1) := by decide +kernel
theorem dL_law_478 : decode cL_law 478 = .ok (.invokestatic 185, 3) := by decide +kernel
theorem dL_law_481 : decode cL_law 481 = .ok (.lastore, 1) := by decide +kernel
theorem dL_law_482 : decode cL_law 482 = .ok (.iinc 5 1, 3) := by decide +kernel
theorem dL_law_485 : decode cL_law 485 = .ok (.goto (-457), 3) := by decide +kernel
theorem dL_law_488 : decode cL_law 488 = .ok (.aload_n 1, 1) := by decide +kernel
theorem dL_law_489 : decode cL_law 489 = .ok (.aload_n 2, 1) := by decide +kernel
theorem dL_law_490 : decode cL_law 490 = .ok (.iload_n 3, 1) := by decide +kernel
theorem dL_law_491 : decode cL_law 491 = .ok (.invokestatic 227, 3) := by decide +kernel
theorem dL_law_494 : decode cL_law 494 = .ok (.ireturn, 1) := by decide +kernel
theorem dL_does_0 : decode cL_does 0 = .ok (.aload_n 0, 1) := by decide +kernel
theorem dL_does_1 : decode cL_does 1 = .ok (.iload_n 1, 1) := by decide +kernel
theorem dL_does_2 : decode cL_does 2 = .ok (.iconst 3, 1) := by decide +kernel
theorem dL_does_3 : decode cL_does 3 = .ok (.iadd, 1) := by decide +kernel
theorem dL_does_4 : decode cL_does 4 = .ok (.sipush 1000, 3) := by decide +kernel
theorem dL_does_7 : decode cL_does 7 = .ok (.invokestatic 189, 3) := by decide +kernel
theorem dL_does_10 : decode cL_does 10 = .ok (.istore 6, 2) := by decide +kernel
theorem dL_does_12 : decode cL_does 12 = .ok (.aload_n 0, 1) := by decide +kernel
theorem dL_does_13 : decode cL_does 13 = .ok (.iload_n 1, 1) := by decide +kernel
theorem dL_does_14 : decode cL_does 14 = .ok (.iconst 4, 1) := by decide +kernel
theorem dL_does_15 : decode cL_does 15 = .ok (.iadd, 1) := by decide +kernel
theorem dL_does_16 : decode cL_does 16 = .ok (.sipush 1000, 3) := by decide +kernel
theorem dL_does_19 : decode cL_does 19 = .ok (.invokestatic 189, 3) := by decide +kernel
theorem dL_does_22 : decode cL_does 22 = .ok (.istore 7, 2) := by decide +kernel
theorem dL_does_24 : decode cL_does 24 = .ok (.iload 7, 2) := by decide +kernel
theorem dL_does_26 : decode cL_does 26 = .ok (.aload_n 3, 1) := by decide +kernel
theorem dL_does_27 : decode cL_does 27 = .ok (.invokevirtual 231, 3) := by decide +kernel
theorem dL_does_30 : decode cL_does 30 = .ok (.iload 6, 2) := by decide +kernel
theorem dL_does_32 : decode cL_does 32 = .ok (.bipush 19, 2) := by decide +kernel
theorem dL_does_34 : decode cL_does 34 = .ok (.irem, 1) := by decide +kernel
theorem dL_does_35 : decode cL_does 35 = .ok (.ifCond .eq 10, 3) := by decide +kernel
theorem dL_does_38 : decode cL_does 38 = .ok (.aload_n 3, 1) := by decide +kernel
theorem dL_does_39 : decode cL_does 39 = .ok (.invokevirtual 231, 3) := by decide +kernel
theorem dL_does_42 : decode cL_does 42 = .ok (.ifCond .ne 7, 3) := by decide +kernel
theorem dL_does_45 : decode cL_does 45 = .ok (.iconst 1, 1) := by decide +kernel
theorem dL_does_46 : decode cL_does 46 = .ok (.goto 4, 3) := by decide +kernel
theorem dL_does_49 : decode cL_does 49 = .ok (.iconst 0, 1) := by decide +kernel
theorem dL_does_50 : decode cL_does 50 = .ok (.iadd, 1) := by decide +kernel
theorem dL_does_51 : decode cL_does 51 = .ok (.irem, 1) := by decide +kernel
theorem dL_does_52 : decode cL_does 52 = .ok (.istore 8, 2) := by decide +kernel
theorem dL_does_54 : decode cL_does 54 = .ok (.iload_n 2, 1) := by decide +kernel
theorem dL_does_55 : decode cL_does 55 = .ok (.tableswitch 269 0 37 #[165, 165, 199, 199, 204, 204, 214, 214, 214, 214, 214, 214, 214, 214, 214, 214, 214, 214, 214, 214, 241, 241, 241, 241, 241, 248, 248, 255, 255, 255, 262, 262, 262, 262, 262, 262, 262, 262], 165) := by decide +kernel
theorem dL_does_220 : decode cL_does 220 = .ok (.aload_n 3, 1) := by decide +kernel
theorem dL_does_221 : decode cL_does 221 = .ok (.iload 6, 2) := by decide +kernel
theorem dL_does_223 : decode cL_does 223 = .ok (.iconst 3, 1) := by decide +kernel
theorem dL_does_224 : decode cL_does 224 = .ok (.irem, 1) := by decide +kernel
theorem dL_does_225 : decode cL_does 225 = .ok (.ifCond .ne 11, 3) := by decide +kernel
theorem dL_does_228 : decode cL_does 228 = .ok (.iload 7, 2) := by decide +kernel
theorem dL_does_230 : decode cL_does 230 = .ok (.bipush 11, 2) := by decide +kernel
theorem dL_does_232 : decode cL_does 232 = .ok (.irem, 1) := by decide +kernel
theorem dL_does_233 : decode cL_does 233 = .ok (.goto 9, 3) := by decide +kernel
theorem dL_does_236 : decode cL_does 236 = .ok (.iconst 1, 1) := by decide +kernel
theorem dL_does_237 : decode cL_does 237 = .ok (.iload 7, 2) := by decide +kernel
theorem dL_does_239 : decode cL_does 239 = .ok (.iconst 3, 1) := by decide +kernel
theorem dL_does_240 : decode cL_does 240 = .ok (.irem, 1) := by decide +kernel
theorem dL_does_241 : decode cL_does 241 = .ok (.iadd, 1) := by decide +kernel
theorem dL_does_242 : decode cL_does 242 = .ok (.iload 7, 2) := by decide +kernel
theorem dL_does_244 : decode cL_does 244 = .ok (.bipush 11, 2) := by decide +kernel
theorem dL_does_246 : decode cL_does 246 = .ok (.idiv, 1) := by decide +kernel
theorem dL_does_247 : decode cL_does 247 = .ok (.bipush 6, 2) := by decide +kernel
theorem dL_does_249 : decode cL_does 249 = .ok (.irem, 1) := by decide +kernel
theorem dL_does_250 : decode cL_does 250 = .ok (.invokestatic 234, 3) := by decide +kernel
theorem dL_does_253 : decode cL_does 253 = .ok (.ireturn, 1) := by decide +kernel
theorem dL_does_254 : decode cL_does 254 = .ok (.aload_n 3, 1) := by decide +kernel
theorem dL_does_255 : decode cL_does 255 = .ok (.invokestatic 237, 3) := by decide +kernel
theorem dL_does_258 : decode cL_does 258 = .ok (.ireturn, 1) := by decide +kernel
theorem dL_does_259 : decode cL_does 259 = .ok (.aload_n 3, 1) := by decide +kernel
theorem dL_does_260 : decode cL_does 260 = .ok (.iload 7, 2) := by decide +kernel
theorem dL_does_262 : decode cL_does 262 = .ok (.bipush 11, 2) := by decide +kernel
theorem dL_does_264 : decode cL_does 264 = .ok (.irem, 1) := by decide +kernel
theorem dL_does_265 : decode cL_does 265 = .ok (.invokestatic 239, 3) := by decide +kernel
theorem dL_does_268 : decode cL_does 268 = .ok (.ireturn, 1) := by decide +kernel
theorem dL_does_269 : decode cL_does 269 = .ok (.aload_n 3, 1) := by decide +kernel
theorem dL_does_270 : decode cL_does 270 = .ok (.iload 8, 2) := by decide +kernel
theorem dL_does_272 : decode cL_does 272 = .ok (.iload 6, 2) := by decide +kernel
theorem dL_does_274 : decode cL_does 274 = .ok (.iconst 3, 1) := by decide +kernel
theorem dL_does_275 : decode cL_does 275 = .ok (.irem, 1) := by decide +kernel
theorem dL_does_276 : decode cL_does 276 = .ok (.ifCond .ne 11, 3) := by decide +kernel
theorem dL_does_279 : decode cL_does 279 = .ok (.iload 6, 2) := by decide +kernel
theorem dL_does_281 : decode cL_does 281 = .ok (.bipush 101, 2) := by decide +kernel
theorem dL_does_283 : decode cL_does 283 = .ok (.irem, 1) := by decide +kernel
theorem dL_does_284 : decode cL_does 284 = .ok (.goto 8, 3) := by decide +kernel
theorem dL_does_287 : decode cL_does 287 = .ok (.iload 6, 2) := by decide +kernel
theorem dL_does_289 : decode cL_does 289 = .ok (.bipush 12, 2) := by decide +kernel
theorem dL_does_291 : decode cL_does 291 = .ok (.irem, 1) := by decide +kernel
theorem dL_does_292 : decode cL_does 292 = .ok (.invokestatic 241, 3) := by decide +kernel
theorem dL_does_295 : decode cL_does 295 = .ok (.ireturn, 1) := by decide +kernel
theorem dL_does_296 : decode cL_does 296 = .ok (.aload_n 3, 1) := by decide +kernel
theorem dL_does_297 : decode cL_does 297 = .ok (.iload 8, 2) := by decide +kernel
theorem dL_does_299 : decode cL_does 299 = .ok (.invokestatic 243, 3) := by decide +kernel
theorem dL_does_302 : decode cL_does 302 = .ok (.ireturn, 1) := by decide +kernel
theorem dL_does_303 : decode cL_does 303 = .ok (.aload_n 3, 1) := by decide +kernel
theorem dL_does_304 : decode cL_does 304 = .ok (.iload 8, 2) := by decide +kernel
theorem dL_does_306 : decode cL_does 306 = .ok (.invokestatic 245, 3) := by decide +kernel
theorem dL_does_309 : decode cL_does 309 = .ok (.ireturn, 1) := by decide +kernel
theorem dL_does_310 : decode cL_does 310 = .ok (.aload_n 3, 1) := by decide +kernel
theorem dL_does_311 : decode cL_does 311 = .ok (.iload 4, 2) := by decide +kernel
theorem dL_does_313 : decode cL_does 313 = .ok (.invokestatic 247, 3) := by decide +kernel
theorem dL_does_316 : decode cL_does 316 = .ok (.ireturn, 1) := by decide +kernel
theorem dL_does_317 : decode cL_does 317 = .ok (.aload_n 3, 1) := by decide +kernel
theorem dL_does_318 : decode cL_does 318 = .ok (.iload 5, 2) := by decide +kernel
theorem dL_does_320 : decode cL_does 320 = .ok (.invokestatic 249, 3) := by decide +kernel
theorem dL_does_323 : decode cL_does 323 = .ok (.ireturn, 1) := by decide +kernel
theorem dL_does_324 : decode cL_does 324 = .ok (.aload_n 3, 1) := by decide +kernel
theorem dL_does_325 : decode cL_does 325 = .ok (.new 251, 3) := by decide +kernel
theorem dL_does_328 : decode cL_does 328 = .ok (.dup, 1) := by decide +kernel
theorem dL_does_329 : decode cL_does 329 = .ok (.invokespecial 253, 3) := by decide +kernel
theorem dL_does_332 : decode cL_does 332 = .ok (.ldc 254, 2) := by decide +kernel
theorem dL_does_334 : decode cL_does 334 = .ok (.invokevirtual 256, 3) := by decide +kernel
theorem dL_does_337 : decode cL_does 337 = .ok (.iconst 1, 1) := by decide +kernel
theorem dL_does_338 : decode cL_does 338 = .ok (.iload 6, 2) := by decide +kernel
theorem dL_does_340 : decode cL_does 340 = .ok (.bipush 9, 2) := by decide +kernel
theorem dL_does_342 : decode cL_does 342 = .ok (.irem, 1) := by decide +kernel
theorem dL_does_343 : decode cL_does 343 = .ok (.iadd, 1) := by decide +kernel
theorem dL_does_344 : decode cL_does 344 = .ok (.invokevirtual 260, 3) := by decide +kernel
theorem dL_does_347 : decode cL_does 347 = .ok (.iload 6, 2) := by decide +kernel
end
section
theorem dL_does_349 : decode cL_does 349 = .ok (.iconst 4, 1) := by decide +kernel
theorem dL_does_350 : decode cL_does 350 = .ok (.irem, 1) := by decide +kernel
theorem dL_does_351 : decode cL_does 351 = .ok (.ifCond .ne 41, 3) := by decide +kernel
theorem dL_does_354 : decode cL_does 354 = .ok (.new 251, 3) := by decide +kernel
theorem dL_does_357 : decode cL_does 357 = .ok (.dup, 1) := by decide +kernel
theorem dL_does_358 : decode cL_does 358 = .ok (.invokespecial 253, 3) := by decide +kernel
theorem dL_does_361 : decode cL_does 361 = .ok (.ldc_w 263, 3) := by decide +kernel
theorem dL_does_364 : decode cL_does 364 = .ok (.invokevirtual 256, 3) := by decide +kernel
theorem dL_does_367 : decode cL_does 367 = .ok (.iload 8, 2) := by decide +kernel
theorem dL_does_369 : decode cL_does 369 = .ok (.invokevirtual 260, 3) := by decide +kernel
theorem dL_does_372 : decode cL_does 372 = .ok (.ldc_w 265, 3) := by decide +kernel
theorem dL_does_375 : decode cL_does 375 = .ok (.invokevirtual 256, 3) := by decide +kernel
theorem dL_does_378 : decode cL_does 378 = .ok (.iload 6, 2) := by decide +kernel
theorem dL_does_380 : decode cL_does 380 = .ok (.bipush 20, 2) := by decide +kernel
theorem dL_does_382 : decode cL_does 382 = .ok (.irem, 1) := by decide +kernel
theorem dL_does_383 : decode cL_does 383 = .ok (.invokevirtual 260, 3) := by decide +kernel
theorem dL_does_386 : decode cL_does 386 = .ok (.invokevirtual 267, 3) := by decide +kernel
theorem dL_does_389 : decode cL_does 389 = .ok (.goto 70, 3) := by decide +kernel
theorem dL_does_392 : decode cL_does 392 = .ok (.iload 6, 2) := by decide +kernel
theorem dL_does_394 : decode cL_does 394 = .ok (.iconst 4, 1) := by decide +kernel
theorem dL_does_395 : decode cL_does 395 = .ok (.irem, 1) := by decide +kernel
theorem dL_does_396 : decode cL_does 396 = .ok (.iconst 1, 1) := by decide +kernel
theorem dL_does_397 : decode cL_does 397 = .ok (.if_icmp .ne 27, 3) := by decide +kernel
theorem dL_does_400 : decode cL_does 400 = .ok (.new 251, 3) := by decide +kernel
theorem dL_does_403 : decode cL_does 403 = .ok (.dup, 1) := by decide +kernel
theorem dL_does_404 : decode cL_does 404 = .ok (.invokespecial 253, 3) := by decide +kernel
theorem dL_does_407 : decode cL_does 407 = .ok (.ldc_w 271, 3) := by decide +kernel
theorem dL_does_410 : decode cL_does 410 = .ok (.invokevirtual 256, 3) := by decide +kernel
theorem dL_does_413 : decode cL_does 413 = .ok (.iload 4, 2) := by decide +kernel
theorem dL_does_415 : decode cL_does 415 = .ok (.invokevirtual 260, 3) := by decide +kernel
theorem dL_does_418 : decode cL_does 418 = .ok (.invokevirtual 267, 3) := by decide +kernel
theorem dL_does_421 : decode cL_does 421 = .ok (.goto 38, 3) := by decide +kernel
theorem dL_does_424 : decode cL_does 424 = .ok (.iload 6, 2) := by decide +kernel
theorem dL_does_426 : decode cL_does 426 = .ok (.iconst 4, 1) := by decide +kernel
theorem dL_does_427 : decode cL_does 427 = .ok (.irem, 1) := by decide +kernel
theorem dL_does_428 : decode cL_does 428 = .ok (.iconst 2, 1) := by decide +kernel
theorem dL_does_429 : decode cL_does 429 = .ok (.if_icmp .ne 27, 3) := by decide +kernel
theorem dL_does_432 : decode cL_does 432 = .ok (.new 251, 3) := by decide +kernel
theorem dL_does_435 : decode cL_does 435 = .ok (.dup, 1) := by decide +kernel
theorem dL_does_436 : decode cL_does 436 = .ok (.invokespecial 253, 3) := by decide +kernel
theorem dL_does_439 : decode cL_does 439 = .ok (.ldc_w 273, 3) := by decide +kernel
theorem dL_does_442 : decode cL_does 442 = .ok (.invokevirtual 256, 3) := by decide +kernel
theorem dL_does_445 : decode cL_does 445 = .ok (.iload 8, 2) := by decide +kernel
theorem dL_does_447 : decode cL_does 447 = .ok (.invokevirtual 260, 3) := by decide +kernel
theorem dL_does_450 : decode cL_does 450 = .ok (.invokevirtual 267, 3) := by decide +kernel
theorem dL_does_453 : decode cL_does 453 = .ok (.goto 6, 3) := by decide +kernel
theorem dL_does_456 : decode cL_does 456 = .ok (.ldc_w 275, 3) := by decide +kernel
theorem dL_does_459 : decode cL_does 459 = .ok (.invokevirtual 256, 3) := by decide +kernel
theorem dL_does_462 : decode cL_does 462 = .ok (.invokevirtual 267, 3) := by decide +kernel
theorem dL_does_465 : decode cL_does 465 = .ok (.invokestatic 277, 3) := by decide +kernel
theorem dL_does_468 : decode cL_does 468 = .ok (.ireturn, 1) := by decide +kernel
theorem dL_sum_0 : decode cL_sum 0 = .ok (.ldc2_w 281, 3) := by decide +kernel
theorem dL_sum_3 : decode cL_sum 3 = .ok (.aload_n 0, 1) := by decide +kernel
theorem dL_sum_4 : decode cL_sum 4 = .ok (.invokevirtual 207, 3) := by decide +kernel
theorem dL_sum_7 : decode cL_sum 7 = .ok (.i2l, 1) := by decide +kernel
theorem dL_sum_8 : decode cL_sum 8 = .ok (.lmul, 1) := by decide +kernel
theorem dL_sum_9 : decode cL_sum 9 = .ok (.aload_n 0, 1) := by decide +kernel
theorem dL_sum_10 : decode cL_sum 10 = .ok (.invokevirtual 283, 3) := by decide +kernel
theorem dL_sum_13 : decode cL_sum 13 = .ok (.i2l, 1) := by decide +kernel
theorem dL_sum_14 : decode cL_sum 14 = .ok (.ladd, 1) := by decide +kernel
theorem dL_sum_15 : decode cL_sum 15 = .ok (.lstore_n 1, 1) := by decide +kernel
theorem dL_sum_16 : decode cL_sum 16 = .ok (.ldc2_w 281, 3) := by decide +kernel
theorem dL_sum_19 : decode cL_sum 19 = .ok (.lload_n 1, 1) := by decide +kernel
theorem dL_sum_20 : decode cL_sum 20 = .ok (.lmul, 1) := by decide +kernel
theorem dL_sum_21 : decode cL_sum 21 = .ok (.ldc2_w 286, 3) := by decide +kernel
theorem dL_sum_24 : decode cL_sum 24 = .ok (.aload_n 0, 1) := by decide +kernel
theorem dL_sum_25 : decode cL_sum 25 = .ok (.invokevirtual 288, 3) := by decide +kernel
theorem dL_sum_28 : decode cL_sum 28 = .ok (.i2l, 1) := by decide +kernel
theorem dL_sum_29 : decode cL_sum 29 = .ok (.lmul, 1) := by decide +kernel
theorem dL_sum_30 : decode cL_sum 30 = .ok (.ladd, 1) := by decide +kernel
theorem dL_sum_31 : decode cL_sum 31 = .ok (.ldc2_w 291, 3) := by decide +kernel
theorem dL_sum_34 : decode cL_sum 34 = .ok (.aload_n 0, 1) := by decide +kernel
theorem dL_sum_35 : decode cL_sum 35 = .ok (.invokevirtual 293, 3) := by decide +kernel
theorem dL_sum_38 : decode cL_sum 38 = .ok (.i2l, 1) := by decide +kernel
theorem dL_sum_39 : decode cL_sum 39 = .ok (.lmul, 1) := by decide +kernel
theorem dL_sum_40 : decode cL_sum 40 = .ok (.ladd, 1) := by decide +kernel
theorem dL_sum_41 : decode cL_sum 41 = .ok (.ldc2_w 296, 3) := by decide +kernel
theorem dL_sum_44 : decode cL_sum 44 = .ok (.aload_n 0, 1) := by decide +kernel
theorem dL_sum_45 : decode cL_sum 45 = .ok (.invokevirtual 213, 3) := by decide +kernel
theorem dL_sum_48 : decode cL_sum 48 = .ok (.i2l, 1) := by decide +kernel
theorem dL_sum_49 : decode cL_sum 49 = .ok (.lmul, 1) := by decide +kernel
theorem dL_sum_50 : decode cL_sum 50 = .ok (.ladd, 1) := by decide +kernel
theorem dL_sum_51 : decode cL_sum 51 = .ok (.aload_n 0, 1) := by decide +kernel
theorem dL_sum_52 : decode cL_sum 52 = .ok (.invokevirtual 216, 3) := by decide +kernel
theorem dL_sum_55 : decode cL_sum 55 = .ok (.i2l, 1) := by decide +kernel
theorem dL_sum_56 : decode cL_sum 56 = .ok (.ladd, 1) := by decide +kernel
theorem dL_sum_57 : decode cL_sum 57 = .ok (.lstore_n 1, 1) := by decide +kernel
theorem dL_sum_58 : decode cL_sum 58 = .ok (.ldc2_w 281, 3) := by decide +kernel
theorem dL_sum_61 : decode cL_sum 61 = .ok (.lload_n 1, 1) := by decide +kernel
theorem dL_sum_62 : decode cL_sum 62 = .ok (.lmul, 1) := by decide +kernel
theorem dL_sum_63 : decode cL_sum 63 = .ok (.ldc2_w 296, 3) := by decide +kernel
theorem dL_sum_66 : decode cL_sum 66 = .ok (.aload_n 0, 1) := by decide +kernel
theorem dL_sum_67 : decode cL_sum 67 = .ok (.invokevirtual 204, 3) := by decide +kernel
theorem dL_sum_70 : decode cL_sum 70 = .ok (.i2l, 1) := by decide +kernel
theorem dL_sum_71 : decode cL_sum 71 = .ok (.lmul, 1) := by decide +kernel
theorem dL_sum_72 : decode cL_sum 72 = .ok (.ladd, 1) := by decide +kernel
theorem dL_sum_73 : decode cL_sum 73 = .ok (.aload_n 0, 1) := by decide +kernel
theorem dL_sum_74 : decode cL_sum 74 = .ok (.invokevirtual 210, 3) := by decide +kernel
theorem dL_sum_77 : decode cL_sum 77 = .ok (.i2l, 1) := by decide +kernel
theorem dL_sum_78 : decode cL_sum 78 = .ok (.ladd, 1) := by decide +kernel
theorem dL_sum_79 : decode cL_sum 79 = .ok (.lstore_n 1, 1) := by decide +kernel
theorem dL_sum_80 : decode cL_sum 80 = .ok (.iconst 0, 1) := by decide +kernel
theorem dL_sum_81 : decode cL_sum 81 = .ok (.istore_n 3, 1) := by decide +kernel
theorem dL_sum_82 : decode cL_sum 82 = .ok (.iload_n 3, 1) := by decide +kernel
theorem dL_sum_83 : decode cL_sum 83 = .ok (.aload_n 0, 1) := by decide +kernel
theorem dL_sum_84 : decode cL_sum 84 = .ok (.invokevirtual 231, 3) := by decide +kernel
theorem dL_sum_87 : decode cL_sum 87 = .ok (.if_icmp .ge 80, 3) := by decide +kernel
theorem dL_sum_90 : decode cL_sum 90 = .ok (.ldc2_w 281, 3) := by decide +kernel
theorem dL_sum_93 : decode cL_sum 93 = .ok (.lload_n 1, 1) := by decide +kernel
theorem dL_sum_94 : decode cL_sum 94 = .ok (.lmul, 1) := by decide +kernel
theorem dL_sum_95 : decode cL_sum 95 = .ok (.ldc2_w 296, 3) := by decide +kernel
theorem dL_sum_98 : decode cL_sum 98 = .ok (.aload_n 0, 1) := by decide +kernel
theorem dL_sum_99 : decode cL_sum 99 = .ok (.iload_n 3, 1) := by decide +kernel
theorem dL_sum_100 : decode cL_sum 100 = .ok (.invokestatic 298, 3) := by decide +kernel
theorem dL_sum_103 : decode cL_sum 103 = .ok (.i2l, 1) := by decide +kernel
theorem dL_sum_104 : decode cL_sum 104 = .ok (.lmul, 1) := by decide +kernel
theorem dL_sum_105 : decode cL_sum 105 = .ok (.ladd, 1) := by decide +kernel
theorem dL_sum_106 : decode cL_sum 106 = .ok (.aload_n 0, 1) := by decide +kernel
theorem dL_sum_107 : decode cL_sum 107 = .ok (.iload_n 3, 1) := by decide +kernel
theorem dL_sum_108 : decode cL_sum 108 = .ok (.invokestatic 300, 3) := by decide +kernel
theorem dL_sum_111 : decode cL_sum 111 = .ok (.i2l, 1) := by decide +kernel
theorem dL_sum_112 : decode cL_sum 112 = .ok (.ladd, 1) := by decide +kernel
theorem dL_sum_113 : decode cL_sum 113 = .ok (.lstore_n 1, 1) := by decide +kernel
theorem dL_sum_114 : decode cL_sum 114 = .ok (.ldc2_w 281, 3) := by decide +kernel
theorem dL_sum_117 : decode cL_sum 117 = .ok (.lload_n 1, 1) := by decide +kernel
theorem dL_sum_118 : decode cL_sum 118 = .ok (.lmul, 1) := by decide +kernel
theorem dL_sum_119 : decode cL_sum 119 = .ok (.aload_n 0, 1) := by decide +kernel
theorem dL_sum_120 : decode cL_sum 120 = .ok (.iload_n 3, 1) := by decide +kernel
theorem dL_sum_121 : decode cL_sum 121 = .ok (.invokestatic 302, 3) := by decide +kernel
theorem dL_sum_124 : decode cL_sum 124 = .ok (.i2l, 1) := by decide +kernel
theorem dL_sum_125 : decode cL_sum 125 = .ok (.ladd, 1) := by decide +kernel
theorem dL_sum_126 : decode cL_sum 126 = .ok (.lstore_n 1, 1) := by decide +kernel
theorem dL_sum_127 : decode cL_sum 127 = .ok (.iconst 0, 1) := by decide +kernel
theorem dL_sum_128 : decode cL_sum 128 = .ok (.istore 4, 2) := by decide +kernel
theorem dL_sum_130 : decode cL_sum 130 = .ok (.iload 4, 2) := by decide +kernel
theorem dL_sum_132 : decode cL_sum 132 = .ok (.aload_n 0, 1) := by decide +kernel
theorem dL_sum_133 : decode cL_sum 133 = .ok (.iload_n 3, 1) := by decide +kernel
theorem dL_sum_134 : decode cL_sum 134 = .ok (.invokestatic 304, 3) := by decide +kernel
theorem dL_sum_137 : decode cL_sum 137 = .ok (.if_icmp .ge 24, 3) := by decide +kernel
theorem dL_sum_140 : decode cL_sum 140 = .ok (.ldc2_w 281, 3) := by decide +kernel
theorem dL_sum_143 : decode cL_sum 143 = .ok (.lload_n 1, 1) := by decide +kernel
theorem dL_sum_144 : decode cL_sum 144 = .ok (.lmul, 1) := by decide +kernel
theorem dL_sum_145 : decode cL_sum 145 = .ok (.aload_n 0, 1) := by decide +kernel
theorem dL_sum_146 : decode cL_sum 146 = .ok (.iload_n 3, 1) := by decide +kernel
theorem dL_sum_147 : decode cL_sum 147 = .ok (.iload 4, 2) := by decide +kernel
theorem dL_sum_149 : decode cL_sum 149 = .ok (.invokestatic 306, 3) := by decide +kernel
theorem dL_sum_152 : decode cL_sum 152 = .ok (.i2l, 1) := by decide +kernel
theorem dL_sum_153 : decode cL_sum 153 = .ok (.ladd, 1) := by decide +kernel
theorem dL_sum_154 : decode cL_sum 154 = .ok (.lstore_n 1, 1) := by decide +kernel
theorem dL_sum_155 : decode cL_sum 155 = .ok (.iinc 4 1, 3) := by decide +kernel
theorem dL_sum_158 : decode cL_sum 158 = .ok (.goto (-28), 3) := by decide +kernel
theorem dL_sum_161 : decode cL_sum 161 = .ok (.iinc 3 1, 3) := by decide +kernel
theorem dL_sum_164 : decode cL_sum 164 = .ok (.goto (-82), 3) := by decide +kernel
theorem dL_sum_167 : decode cL_sum 167 = .ok (.iconst 0, 1) := by decide +kernel
theorem dL_sum_168 : decode cL_sum 168 = .ok (.istore_n 3, 1) := by decide +kernel
theorem dL_sum_169 : decode cL_sum 169 = .ok (.iload_n 3, 1) := by decide +kernel
theorem dL_sum_170 : decode cL_sum 170 = .ok (.aload_n 0, 1) := by decide +kernel
theorem dL_sum_171 : decode cL_sum 171 = .ok (.invokevirtual 308, 3) := by decide +kernel
theorem dL_sum_174 : decode cL_sum 174 = .ok (.if_icmp .ge 33, 3) := by decide +kernel
theorem dL_sum_177 : decode cL_sum 177 = .ok (.ldc2_w 281, 3) := by decide +kernel
theorem dL_sum_180 : decode cL_sum 180 = .ok (.lload_n 1, 1) := by decide +kernel
theorem dL_sum_181 : decode cL_sum 181 = .ok (.lmul, 1) := by decide +kernel
theorem dL_sum_182 : decode cL_sum 182 = .ok (.ldc2_w 296, 3) := by decide +kernel
theorem dL_sum_185 : decode cL_sum 185 = .ok (.aload_n 0, 1) := by decide +kernel
theorem dL_sum_186 : decode cL_sum 186 = .ok (.iload_n 3, 1) := by decide +kernel
theorem dL_sum_187 : decode cL_sum 187 = .ok (.invokestatic 311, 3) := by decide +kernel
theorem dL_sum_190 : decode cL_sum 190 = .ok (.i2l, 1) := by decide +kernel
theorem dL_sum_191 : decode cL_sum 191 = .ok (.lmul, 1) := by decide +kernel
theorem dL_sum_192 : decode cL_sum 192 = .ok (.ladd, 1) := by decide +kernel
theorem dL_sum_193 : decode cL_sum 193 = .ok (.aload_n 0, 1) := by decide +kernel
theorem dL_sum_194 : decode cL_sum 194 = .ok (.iload_n 3, 1) := by decide +kernel
theorem dL_sum_195 : decode cL_sum 195 = .ok (.invokestatic 313, 3) := by decide +kernel
theorem dL_sum_198 : decode cL_sum 198 = .ok (.i2l, 1) := by decide +kernel
theorem dL_sum_199 : decode cL_sum 199 = .ok (.ladd, 1) := by decide +kernel
theorem dL_sum_200 : decode cL_sum 200 = .ok (.lstore_n 1, 1) := by decide +kernel
theorem dL_sum_201 : decode cL_sum 201 = .ok (.iinc 3 1, 3) := by decide +kernel
theorem dL_sum_204 : decode cL_sum 204 = .ok (.goto (-35), 3) := by decide +kernel
theorem dL_sum_207 : decode cL_sum 207 = .ok (.iconst 0, 1) := by decide +kernel
theorem dL_sum_208 : decode cL_sum 208 = .ok (.istore_n 3, 1) := by decide +kernel
theorem dL_sum_209 : decode cL_sum 209 = .ok (.iload_n 3, 1) := by decide +kernel
theorem dL_sum_210 : decode cL_sum 210 = .ok (.aload_n 0, 1) := by decide +kernel
theorem dL_sum_211 : decode cL_sum 211 = .ok (.invokevirtual 193, 3) := by decide +kernel
theorem dL_sum_214 : decode cL_sum 214 = .ok (.if_icmp .ge 88, 3) := by decide +kernel
theorem dL_sum_217 : decode cL_sum 217 = .ok (.aload_n 0, 1) := by decide +kernel
theorem dL_sum_218 : decode cL_sum 218 = .ok (.iload_n 3, 1) := by decide +kernel
theorem dL_sum_219 : decode cL_sum 219 = .ok (.invokestatic 196, 3) := by decide +kernel
theorem dL_sum_222 : decode cL_sum 222 = .ok (.istore 4, 2) := by decide +kernel
theorem dL_sum_224 : decode cL_sum 224 = .ok (.ldc2_w 281, 3) := by decide +kernel
theorem dL_sum_227 : decode cL_sum 227 = .ok (.lload_n 1, 1) := by decide +kernel
theorem dL_sum_228 : decode cL_sum 228 = .ok (.lmul, 1) := by decide +kernel
theorem dL_sum_229 : decode cL_sum 229 = .ok (.ldc2_w 291, 3) := by decide +kernel
theorem dL_sum_232 : decode cL_sum 232 = .ok (.iload 4, 2) := by decide +kernel
theorem dL_sum_234 : decode cL_sum 234 = .ok (.i2l, 1) := by decide +kernel
theorem dL_sum_235 : decode cL_sum 235 = .ok (.lmul, 1) := by decide +kernel
theorem dL_sum_236 : decode cL_sum 236 = .ok (.ladd, 1) := by decide +kernel
theorem dL_sum_237 : decode cL_sum 237 = .ok (.ldc2_w 296, 3) := by decide +kernel
theorem dL_sum_240 : decode cL_sum 240 = .ok (.aload_n 0, 1) := by decide +kernel
theorem dL_sum_241 : decode cL_sum 241 = .ok (.iload 4, 2) := by decide +kernel
theorem dL_sum_243 : decode cL_sum 243 = .ok (.invokestatic 315, 3) := by decide +kernel
theorem dL_sum_246 : decode cL_sum 246 = .ok (.i2l, 1) := by decide +kernel
theorem dL_sum_247 : decode cL_sum 247 = .ok (.lmul, 1) := by decide +kernel
theorem dL_sum_248 : decode cL_sum 248 = .ok (.ladd, 1) := by decide +kernel
theorem dL_sum_249 : decode cL_sum 249 = .ok (.aload_n 0, 1) := by decide +kernel
theorem dL_sum_250 : decode cL_sum 250 = .ok (.iload 4, 2) := by decide +kernel
theorem dL_sum_252 : decode cL_sum 252 = .ok (.invokestatic 317, 3) := by decide +kernel
theorem dL_sum_255 : decode cL_sum 255 = .ok (.i2l, 1) := by decide +kernel
theorem dL_sum_256 : decode cL_sum 256 = .ok (.ladd, 1) := by decide +kernel
theorem dL_sum_257 : decode cL_sum 257 = .ok (.lstore_n 1, 1) := by decide +kernel
theorem dL_sum_258 : decode cL_sum 258 = .ok (.ldc2_w 281, 3) := by decide +kernel
theorem dL_sum_261 : decode cL_sum 261 = .ok (.lload_n 1, 1) := by decide +kernel
theorem dL_sum_262 : decode cL_sum 262 = .ok (.lmul, 1) := by decide +kernel
theorem dL_sum_263 : decode cL_sum 263 = .ok (.ldc2_w 296, 3) := by decide +kernel
theorem dL_sum_266 : decode cL_sum 266 = .ok (.aload_n 0, 1) := by decide +kernel
theorem dL_sum_267 : decode cL_sum 267 = .ok (.iload 4, 2) := by decide +kernel
theorem dL_sum_269 : decode cL_sum 269 = .ok (.invokestatic 319, 3) := by decide +kernel
theorem dL_sum_272 : decode cL_sum 272 = .ok (.i2l, 1) := by decide +kernel
theorem dL_sum_273 : decode cL_sum 273 = .ok (.lmul, 1) := by decide +kernel
theorem dL_sum_274 : decode cL_sum 274 = .ok (.ladd, 1) := by decide +kernel
theorem dL_sum_275 : decode cL_sum 275 = .ok (.aload_n 0, 1) := by decide +kernel
theorem dL_sum_276 : decode cL_sum 276 = .ok (.iload 4, 2) := by decide +kernel
theorem dL_sum_278 : decode cL_sum 278 = .ok (.invokestatic 200, 3) := by decide +kernel
theorem dL_sum_281 : decode cL_sum 281 = .ok (.i2l, 1) := by decide +kernel
theorem dL_sum_282 : decode cL_sum 282 = .ok (.ladd, 1) := by decide +kernel
theorem dL_sum_283 : decode cL_sum 283 = .ok (.ldc2_w 321, 3) := by decide +kernel
theorem dL_sum_286 : decode cL_sum 286 = .ok (.aload_n 0, 1) := by decide +kernel
theorem dL_sum_287 : decode cL_sum 287 = .ok (.iload 4, 2) := by decide +kernel
theorem dL_sum_289 : decode cL_sum 289 = .ok (.invokestatic 202, 3) := by decide +kernel
theorem dL_sum_292 : decode cL_sum 292 = .ok (.i2l, 1) := by decide +kernel
theorem dL_sum_293 : decode cL_sum 293 = .ok (.lmul, 1) := by decide +kernel
theorem dL_sum_294 : decode cL_sum 294 = .ok (.ladd, 1) := by decide +kernel
theorem dL_sum_295 : decode cL_sum 295 = .ok (.lstore_n 1, 1) := by decide +kernel
theorem dL_sum_296 : decode cL_sum 296 = .ok (.iinc 3 1, 3) := by decide +kernel
theorem dL_sum_299 : decode cL_sum 299 = .ok (.goto (-90), 3) := by decide +kernel
theorem dL_sum_302 : decode cL_sum 302 = .ok (.lload_n 1, 1) := by decide +kernel
theorem dL_sum_303 : decode cL_sum 303 = .ok (.lreturn, 1) := by decide +kernel
theorem dL_isMessage_0 : decode cL_isMessage 0 = .ok (.aload_n 0, 1) := by decide +kernel
theorem dL_isMessage_1 : decode cL_isMessage 1 = .ok (.iload_n 1, 1) := by decide +kernel
theorem dL_isMessage_2 : decode cL_isMessage 2 = .ok (.invokestatic 196, 3) := by decide +kernel
theorem dL_isMessage_5 : decode cL_isMessage 5 = .ok (.istore_n 2, 1) := by decide +kernel
theorem dL_isMessage_6 : decode cL_isMessage 6 = .ok (.aload_n 0, 1) := by decide +kernel
theorem dL_isMessage_7 : decode cL_isMessage 7 = .ok (.iload_n 2, 1) := by decide +kernel
theorem dL_isMessage_8 : decode cL_isMessage 8 = .ok (.invokestatic 315, 3) := by decide +kernel
theorem dL_isMessage_11 : decode cL_isMessage 11 = .ok (.istore_n 3, 1) := by decide +kernel
theorem dL_isMessage_12 : decode cL_isMessage 12 = .ok (.aload_n 0, 1) := by decide +kernel
theorem dL_isMessage_13 : decode cL_isMessage 13 = .ok (.iload_n 2, 1) := by decide +kernel
theorem dL_isMessage_14 : decode cL_isMessage 14 = .ok (.invokestatic 200, 3) := by decide +kernel
theorem dL_isMessage_17 : decode cL_isMessage 17 = .ok (.istore 4, 2) := by decide +kernel
theorem dL_isMessage_19 : decode cL_isMessage 19 = .ok (.aload_n 0, 1) := by decide +kernel
theorem dL_isMessage_20 : decode cL_isMessage 20 = .ok (.iload_n 2, 1) := by decide +kernel
theorem dL_isMessage_21 : decode cL_isMessage 21 = .ok (.invokestatic 319, 3) := by decide +kernel
theorem dL_isMessage_24 : decode cL_isMessage 24 = .ok (.istore 5, 2) := by decide +kernel
theorem dL_isMessage_26 : decode cL_isMessage 26 = .ok (.iconst (-1), 1) := by decide +kernel
theorem dL_isMessage_27 : decode cL_isMessage 27 = .ok (.istore 6, 2) := by decide +kernel
theorem dL_isMessage_29 : decode cL_isMessage 29 = .ok (.iconst (-1), 1) := by decide +kernel
theorem dL_isMessage_30 : decode cL_isMessage 30 = .ok (.istore 7, 2) := by decide +kernel
theorem dL_isMessage_32 : decode cL_isMessage 32 = .ok (.iconst 0, 1) := by decide +kernel
theorem dL_isMessage_33 : decode cL_isMessage 33 = .ok (.istore 8, 2) := by decide +kernel
theorem dL_isMessage_35 : decode cL_isMessage 35 = .ok (.iload 8, 2) := by decide +kernel
theorem dL_isMessage_37 : decode cL_isMessage 37 = .ok (.aload_n 0, 1) := by decide +kernel
theorem dL_isMessage_38 : decode cL_isMessage 38 = .ok (.iload_n 3, 1) := by decide +kernel
theorem dL_isMessage_39 : decode cL_isMessage 39 = .ok (.invokestatic 304, 3) := by decide +kernel
theorem dL_isMessage_42 : decode cL_isMessage 42 = .ok (.if_icmp .ge 29, 3) := by decide +kernel
theorem dL_isMessage_45 : decode cL_isMessage 45 = .ok (.aload_n 0, 1) := by decide +kernel
theorem dL_isMessage_46 : decode cL_isMessage 46 = .ok (.iload_n 3, 1) := by decide +kernel
theorem dL_isMessage_47 : decode cL_isMessage 47 = .ok (.iload 8, 2) := by decide +kernel
theorem dL_isMessage_49 : decode cL_isMessage 49 = .ok (.invokestatic 306, 3) := by decide +kernel
theorem dL_isMessage_52 : decode cL_isMessage 52 = .ok (.iload_n 2, 1) := by decide +kernel
theorem dL_isMessage_53 : decode cL_isMessage 53 = .ok (.if_icmp .ne 8, 3) := by decide +kernel
theorem dL_isMessage_56 : decode cL_isMessage 56 = .ok (.iload 8, 2) := by decide +kernel
theorem dL_isMessage_58 : decode cL_isMessage 58 = .ok (.goto 5, 3) := by decide +kernel
theorem dL_isMessage_61 : decode cL_isMessage 61 = .ok (.iload 6, 2) := by decide +kernel
theorem dL_isMessage_63 : decode cL_isMessage 63 = .ok (.istore 6, 2) := by decide +kernel
theorem dL_isMessage_65 : decode cL_isMessage 65 = .ok (.iinc 8 1, 3) := by decide +kernel
theorem dL_isMessage_68 : decode cL_isMessage 68 = .ok (.goto (-33), 3) := by decide +kernel
theorem dL_isMessage_71 : decode cL_isMessage 71 = .ok (.iconst 0, 1) := by decide +kernel
theorem dL_isMessage_72 : decode cL_isMessage 72 = .ok (.istore 8, 2) := by decide +kernel
theorem dL_isMessage_74 : decode cL_isMessage 74 = .ok (.iload 8, 2) := by decide +kernel
theorem dL_isMessage_76 : decode cL_isMessage 76 = .ok (.aload_n 0, 1) := by decide +kernel
theorem dL_isMessage_77 : decode cL_isMessage 77 = .ok (.invokevirtual 308, 3) := by decide +kernel
theorem dL_isMessage_80 : decode cL_isMessage 80 = .ok (.if_icmp .ge 28, 3) := by decide +kernel
theorem dL_isMessage_83 : decode cL_isMessage 83 = .ok (.aload_n 0, 1) := by decide +kernel
theorem dL_isMessage_84 : decode cL_isMessage 84 = .ok (.iload 8, 2) := by decide +kernel
theorem dL_isMessage_86 : decode cL_isMessage 86 = .ok (.invokestatic 311, 3) := by decide +kernel
theorem dL_isMessage_89 : decode cL_isMessage 89 = .ok (.iload_n 2, 1) := by decide +kernel
theorem dL_isMessage_90 : decode cL_isMessage 90 = .ok (.if_icmp .ne 8, 3) := by decide +kernel
theorem dL_isMessage_93 : decode cL_isMessage 93 = .ok (.iload 8, 2) := by decide +kernel
theorem dL_isMessage_95 : decode cL_isMessage 95 = .ok (.goto 5, 3) := by decide +kernel
theorem dL_isMessage_98 : decode cL_isMessage 98 = .ok (.iload 7, 2) := by decide +kernel
theorem dL_isMessage_100 : decode cL_isMessage 100 = .ok (.istore 7, 2) := by decide +kernel
theorem dL_isMessage_102 : decode cL_isMessage 102 = .ok (.iinc 8 1, 3) := by decide +kernel
theorem dL_isMessage_105 : decode cL_isMessage 105 = .ok (.goto (-31), 3) := by decide +kernel
theorem dL_isMessage_108 : decode cL_isMessage 108 = .ok (.iconst (-1), 1) := by decide +kernel
theorem dL_isMessage_109 : decode cL_isMessage 109 = .ok (.istore 8, 2) := by decide +kernel
theorem dL_isMessage_111 : decode cL_isMessage 111 = .ok (.iconst 0, 1) := by decide +kernel
theorem dL_isMessage_112 : decode cL_isMessage 112 = .ok (.istore 9, 2) := by decide +kernel
theorem dL_isMessage_114 : decode cL_isMessage 114 = .ok (.aload_n 0, 1) := by decide +kernel
theorem dL_isMessage_115 : decode cL_isMessage 115 = .ok (.iload 9, 2) := by decide +kernel
theorem dL_isMessage_117 : decode cL_isMessage 117 = .ok (.invokestatic 323, 3) := by decide +kernel
theorem dL_isMessage_120 : decode cL_isMessage 120 = .ok (.ifCond .lt 28, 3) := by decide +kernel
theorem dL_isMessage_123 : decode cL_isMessage 123 = .ok (.aload_n 0, 1) := by decide +kernel
theorem dL_isMessage_124 : decode cL_isMessage 124 = .ok (.iload 9, 2) := by decide +kernel
theorem dL_isMessage_126 : decode cL_isMessage 126 = .ok (.invokestatic 323, 3) := by decide +kernel
theorem dL_isMessage_129 : decode cL_isMessage 129 = .ok (.iload_n 2, 1) := by decide +kernel
theorem dL_isMessage_130 : decode cL_isMessage 130 = .ok (.if_icmp .ne 8, 3) := by decide +kernel
theorem dL_isMessage_133 : decode cL_isMessage 133 = .ok (.iload 9, 2) := by decide +kernel
theorem dL_isMessage_135 : decode cL_isMessage 135 = .ok (.goto 5, 3) := by decide +kernel
theorem dL_isMessage_138 : decode cL_isMessage 138 = .ok (.iload 8, 2) := by decide +kernel
theorem dL_isMessage_140 : decode cL_isMessage 140 = .ok (.istore 8, 2) := by decide +kernel
theorem dL_isMessage_142 : decode cL_isMessage 142 = .ok (.iinc 9 1, 3) := by decide +kernel
theorem dL_isMessage_145 : decode cL_isMessage 145 = .ok (.goto (-31), 3) := by decide +kernel
theorem dL_isMessage_148 : decode cL_isMessage 148 = .ok (.iload 4, 2) := by decide +kernel
theorem dL_isMessage_150 : decode cL_isMessage 150 = .ok (.bipush 100, 2) := by decide +kernel
theorem dL_isMessage_152 : decode cL_isMessage 152 = .ok (.if_icmp .ne 7, 3) := by decide +kernel
theorem dL_isMessage_155 : decode cL_isMessage 155 = .ok (.iconst 1, 1) := by decide +kernel
theorem dL_isMessage_156 : decode cL_isMessage 156 = .ok (.goto 4, 3) := by decide +kernel
theorem dL_isMessage_159 : decode cL_isMessage 159 = .ok (.iconst 0, 1) := by decide +kernel
theorem dL_isMessage_160 : decode cL_isMessage 160 = .ok (.iload 6, 2) := by decide +kernel
theorem dL_isMessage_162 : decode cL_isMessage 162 = .ok (.ifCond .lt 7, 3) := by decide +kernel
theorem dL_isMessage_165 : decode cL_isMessage 165 = .ok (.iconst 1, 1) := by decide +kernel
theorem dL_isMessage_166 : decode cL_isMessage 166 = .ok (.goto 4, 3) := by decide +kernel
theorem dL_isMessage_169 : decode cL_isMessage 169 = .ok (.iconst 0, 1) := by decide +kernel
theorem dL_isMessage_170 : decode cL_isMessage 170 = .ok (.if_icmp .ne 85, 3) := by decide +kernel
theorem dL_isMessage_173 : decode cL_isMessage 173 = .ok (.iload 4, 2) := by decide +kernel
theorem dL_isMessage_175 : decode cL_isMessage 175 = .ok (.bipush 102, 2) := by decide +kernel
theorem dL_isMessage_177 : decode cL_isMessage 177 = .ok (.if_icmp .ne 7, 3) := by decide +kernel
theorem dL_isMessage_180 : decode cL_isMessage 180 = .ok (.iconst 1, 1) := by decide +kernel
theorem dL_isMessage_181 : decode cL_isMessage 181 = .ok (.goto 4, 3) := by decide +kernel
theorem dL_isMessage_184 : decode cL_isMessage 184 = .ok (.iconst 0, 1) := by decide +kernel
theorem dL_isMessage_185 : decode cL_isMessage 185 = .ok (.iload 7, 2) := by decide +kernel
theorem dL_isMessage_187 : decode cL_isMessage 187 = .ok (.ifCond .lt 7, 3) := by decide +kernel
theorem dL_isMessage_190 : decode cL_isMessage 190 = .ok (.iconst 1, 1) := by decide +kernel
theorem dL_isMessage_191 : decode cL_isMessage 191 = .ok (.goto 4, 3) := by decide +kernel
theorem dL_isMessage_194 : decode cL_isMessage 194 = .ok (.iconst 0, 1) := by decide +kernel
theorem dL_isMessage_195 : decode cL_isMessage 195 = .ok (.if_icmp .ne 60, 3) := by decide +kernel
theorem dL_isMessage_198 : decode cL_isMessage 198 = .ok (.iload 4, 2) := by decide +kernel
theorem dL_isMessage_200 : decode cL_isMessage 200 = .ok (.bipush 119, 2) := by decide +kernel
theorem dL_isMessage_202 : decode cL_isMessage 202 = .ok (.if_icmp .ne 7, 3) := by decide +kernel
theorem dL_isMessage_205 : decode cL_isMessage 205 = .ok (.iconst 1, 1) := by decide +kernel
theorem dL_isMessage_206 : decode cL_isMessage 206 = .ok (.goto 4, 3) := by decide +kernel
theorem dL_isMessage_209 : decode cL_isMessage 209 = .ok (.iconst 0, 1) := by decide +kernel
theorem dL_isMessage_210 : decode cL_isMessage 210 = .ok (.iload 8, 2) := by decide +kernel
theorem dL_isMessage_212 : decode cL_isMessage 212 = .ok (.ifCond .lt 7, 3) := by decide +kernel
theorem dL_isMessage_215 : decode cL_isMessage 215 = .ok (.iconst 1, 1) := by decide +kernel
theorem dL_isMessage_216 : decode cL_isMessage 216 = .ok (.goto 4, 3) := by decide +kernel
theorem dL_isMessage_219 : decode cL_isMessage 219 = .ok (.iconst 0, 1) := by decide +kernel
theorem dL_isMessage_220 : decode cL_isMessage 220 = .ok (.if_icmp .ne 35, 3) := by decide +kernel
theorem dL_isMessage_223 : decode cL_isMessage 223 = .ok (.iload 4, 2) := by decide +kernel
theorem dL_isMessage_225 : decode cL_isMessage 225 = .ok (.bipush 110, 2) := by decide +kernel
theorem dL_isMessage_227 : decode cL_isMessage 227 = .ok (.if_icmp .ne 7, 3) := by decide +kernel
theorem dL_isMessage_230 : decode cL_isMessage 230 = .ok (.iconst 1, 1) := by decide +kernel
theorem dL_isMessage_231 : decode cL_isMessage 231 = .ok (.goto 4, 3) := by decide +kernel
theorem dL_isMessage_234 : decode cL_isMessage 234 = .ok (.iconst 0, 1) := by decide +kernel
theorem dL_isMessage_235 : decode cL_isMessage 235 = .ok (.aload_n 0, 1) := by decide +kernel
theorem dL_isMessage_236 : decode cL_isMessage 236 = .ok (.iload_n 2, 1) := by decide +kernel
theorem dL_isMessage_237 : decode cL_isMessage 237 = .ok (.invokestatic 202, 3) := by decide +kernel
theorem dL_isMessage_240 : decode cL_isMessage 240 = .ok (.ifCond .le 7, 3) := by decide +kernel
theorem dL_isMessage_243 : decode cL_isMessage 243 = .ok (.iconst 1, 1) := by decide +kernel
theorem dL_isMessage_244 : decode cL_isMessage 244 = .ok (.goto 4, 3) := by decide +kernel
theorem dL_isMessage_247 : decode cL_isMessage 247 = .ok (.iconst 0, 1) := by decide +kernel
theorem dL_isMessage_248 : decode cL_isMessage 248 = .ok (.if_icmp .ne 7, 3) := by decide +kernel
theorem dL_isMessage_251 : decode cL_isMessage 251 = .ok (.iconst 1, 1) := by decide +kernel
theorem dL_isMessage_252 : decode cL_isMessage 252 = .ok (.goto 4, 3) := by decide +kernel
theorem dL_isMessage_255 : decode cL_isMessage 255 = .ok (.iconst 0, 1) := by decide +kernel
theorem dL_isMessage_256 : decode cL_isMessage 256 = .ok (.istore 9, 2) := by decide +kernel
theorem dL_isMessage_258 : decode cL_isMessage 258 = .ok (.iload 4, 2) := by decide +kernel
theorem dL_isMessage_260 : decode cL_isMessage 260 = .ok (.bipush 110, 2) := by decide +kernel
theorem dL_isMessage_262 : decode cL_isMessage 262 = .ok (.if_icmp .ne 31, 3) := by decide +kernel
theorem dL_isMessage_265 : decode cL_isMessage 265 = .ok (.iload 5, 2) := by decide +kernel
theorem dL_isMessage_267 : decode cL_isMessage 267 = .ok (.iconst 1, 1) := by decide +kernel
theorem dL_isMessage_268 : decode cL_isMessage 268 = .ok (.if_icmp .lt 29, 3) := by decide +kernel
theorem dL_isMessage_271 : decode cL_isMessage 271 = .ok (.iload 5, 2) := by decide +kernel
theorem dL_isMessage_273 : decode cL_isMessage 273 = .ok (.iconst 5, 1) := by decide +kernel
theorem dL_isMessage_274 : decode cL_isMessage 274 = .ok (.if_icmp .ge 23, 3) := by decide +kernel
theorem dL_isMessage_277 : decode cL_isMessage 277 = .ok (.aload_n 0, 1) := by decide +kernel
theorem dL_isMessage_278 : decode cL_isMessage 278 = .ok (.iload_n 2, 1) := by decide +kernel
theorem dL_isMessage_279 : decode cL_isMessage 279 = .ok (.invokestatic 202, 3) := by decide +kernel
theorem dL_isMessage_282 : decode cL_isMessage 282 = .ok (.i2l, 1) := by decide +kernel
theorem dL_isMessage_283 : decode cL_isMessage 283 = .ok (.aload_n 0, 1) := by decide +kernel
theorem dL_isMessage_284 : decode cL_isMessage 284 = .ok (.iload 5, 2) := by decide +kernel
theorem dL_isMessage_286 : decode cL_isMessage 286 = .ok (.invokestatic 325, 3) := by decide +kernel
theorem dL_isMessage_289 : decode cL_isMessage 289 = .ok (.lcmp, 1) := by decide +kernel
theorem dL_isMessage_290 : decode cL_isMessage 290 = .ok (.ifCond .gt 7, 3) := by decide +kernel
theorem dL_isMessage_293 : decode cL_isMessage 293 = .ok (.iconst 1, 1) := by decide +kernel
theorem dL_isMessage_294 : decode cL_isMessage 294 = .ok (.goto 4, 3) := by decide +kernel
theorem dL_isMessage_297 : decode cL_isMessage 297 = .ok (.iconst 0, 1) := by decide +kernel
theorem dL_isMessage_298 : decode cL_isMessage 298 = .ok (.istore 10, 2) := by decide +kernel
theorem dL_isMessage_300 : decode cL_isMessage 300 = .ok (.aload_n 0, 1) := by decide +kernel
theorem dL_isMessage_301 : decode cL_isMessage 301 = .ok (.iload_n 2, 1) := by decide +kernel
theorem dL_isMessage_302 : decode cL_isMessage 302 = .ok (.invokestatic 328, 3) := by decide +kernel
theorem dL_isMessage_305 : decode cL_isMessage 305 = .ok (.istore 11, 2) := by decide +kernel
theorem dL_isMessage_307 : decode cL_isMessage 307 = .ok (.iload 4, 2) := by decide +kernel
theorem dL_isMessage_309 : decode cL_isMessage 309 = .ok (.bipush 100, 2) := by decide +kernel
theorem dL_isMessage_311 : decode cL_isMessage 311 = .ok (.if_icmp .ne 18, 3) := by decide +kernel
theorem dL_isMessage_314 : decode cL_isMessage 314 = .ok (.iload 11, 2) := by decide +kernel
theorem dL_isMessage_316 : decode cL_isMessage 316 = .ok (.bipush (-79), 2) := by decide +kernel
theorem dL_isMessage_318 : decode cL_isMessage 318 = .ok (.if_icmp .ne 7, 3) := by decide +kernel
theorem dL_isMessage_321 : decode cL_isMessage 321 = .ok (.iconst 1, 1) := by decide +kernel
theorem dL_isMessage_322 : decode cL_isMessage 322 = .ok (.goto 43, 3) := by decide +kernel
theorem dL_isMessage_325 : decode cL_isMessage 325 = .ok (.iconst 0, 1) := by decide +kernel
theorem dL_isMessage_326 : decode cL_isMessage 326 = .ok (.goto 39, 3) := by decide +kernel
theorem dL_isMessage_329 : decode cL_isMessage 329 = .ok (.iload 11, 2) := by decide +kernel
theorem dL_isMessage_331 : decode cL_isMessage 331 = .ok (.iload_n 2, 1) := by decide +kernel
theorem dL_isMessage_332 : decode cL_isMessage 332 = .ok (.iload 5, 2) := by decide +kernel
theorem dL_isMessage_334 : decode cL_isMessage 334 = .ok (.iadd, 1) := by decide +kernel
theorem dL_isMessage_335 : decode cL_isMessage 335 = .ok (.iconst 1, 1) := by decide +kernel
theorem dL_isMessage_336 : decode cL_isMessage 336 = .ok (.iadd, 1) := by decide +kernel
theorem dL_isMessage_337 : decode cL_isMessage 337 = .ok (.aload_n 0, 1) := by decide +kernel
theorem dL_isMessage_338 : decode cL_isMessage 338 = .ok (.invokevirtual 283, 3) := by decide +kernel
theorem dL_isMessage_341 : decode cL_isMessage 341 = .ok (.iadd, 1) := by decide +kernel
theorem dL_isMessage_342 : decode cL_isMessage 342 = .ok (.iconst 5, 1) := by decide +kernel
theorem dL_isMessage_343 : decode cL_isMessage 343 = .ok (.irem, 1) := by decide +kernel
theorem dL_isMessage_344 : decode cL_isMessage 344 = .ok (.aload_n 0, 1) := by decide +kernel
theorem dL_isMessage_345 : decode cL_isMessage 345 = .ok (.iload_n 3, 1) := by decide +kernel
theorem dL_isMessage_346 : decode cL_isMessage 346 = .ok (.invokestatic 300, 3) := by decide +kernel
theorem dL_isMessage_349 : decode cL_isMessage 349 = .ok (.if_icmp .ge 7, 3) := by decide +kernel
theorem dL_isMessage_352 : decode cL_isMessage 352 = .ok (.iconst 1, 1) := by decide +kernel
theorem dL_isMessage_353 : decode cL_isMessage 353 = .ok (.goto 4, 3) := by decide +kernel
theorem dL_isMessage_356 : decode cL_isMessage 356 = .ok (.iconst 0, 1) := by decide +kernel
theorem dL_isMessage_357 : decode cL_isMessage 357 = .ok (.if_icmp .ne 7, 3) := by decide +kernel
theorem dL_isMessage_360 : decode cL_isMessage 360 = .ok (.iconst 1, 1) := by decide +kernel
theorem dL_isMessage_361 : decode cL_isMessage 361 = .ok (.goto 4, 3) := by decide +kernel
theorem dL_isMessage_364 : decode cL_isMessage 364 = .ok (.iconst 0, 1) := by decide +kernel
theorem dL_isMessage_365 : decode cL_isMessage 365 = .ok (.istore 12, 2) := by decide +kernel
theorem dL_isMessage_367 : decode cL_isMessage 367 = .ok (.iload 7, 2) := by decide +kernel
theorem dL_isMessage_369 : decode cL_isMessage 369 = .ok (.ifCond .lt 29, 3) := by decide +kernel
theorem dL_isMessage_372 : decode cL_isMessage 372 = .ok (.aload_n 0, 1) := by decide +kernel
theorem dL_isMessage_373 : decode cL_isMessage 373 = .ok (.iload 7, 2) := by decide +kernel
theorem dL_isMessage_375 : decode cL_isMessage 375 = .ok (.invokestatic 313, 3) := by decide +kernel
theorem dL_isMessage_378 : decode cL_isMessage 378 = .ok (.iconst 1, 1) := by decide +kernel
theorem dL_isMessage_379 : decode cL_isMessage 379 = .ok (.if_icmp .lt 23, 3) := by decide +kernel
theorem dL_isMessage_382 : decode cL_isMessage 382 = .ok (.aload_n 0, 1) := by decide +kernel
theorem dL_isMessage_383 : decode cL_isMessage 383 = .ok (.iload 7, 2) := by decide +kernel
theorem dL_isMessage_385 : decode cL_isMessage 385 = .ok (.invokestatic 313, 3) := by decide +kernel
theorem dL_isMessage_388 : decode cL_isMessage 388 = .ok (.aload_n 0, 1) := by decide +kernel
theorem dL_isMessage_389 : decode cL_isMessage 389 = .ok (.iload_n 3, 1) := by decide +kernel
theorem dL_isMessage_390 : decode cL_isMessage 390 = .ok (.invokestatic 298, 3) := by decide +kernel
theorem dL_isMessage_393 : decode cL_isMessage 393 = .ok (.iconst 1, 1) := by decide +kernel
theorem dL_isMessage_394 : decode cL_isMessage 394 = .ok (.iadd, 1) := by decide +kernel
theorem dL_isMessage_395 : decode cL_isMessage 395 = .ok (.if_icmp .gt 7, 3) := by decide +kernel
theorem dL_isMessage_398 : decode cL_isMessage 398 = .ok (.iconst 1, 1) := by decide +kernel
theorem dL_isMessage_399 : decode cL_isMessage 399 = .ok (.goto 4, 3) := by decide +kernel
theorem dL_isMessage_402 : decode cL_isMessage 402 = .ok (.iconst 0, 1) := by decide +kernel
theorem dL_isMessage_403 : decode cL_isMessage 403 = .ok (.istore 13, 2) := by decide +kernel
theorem dL_isMessage_405 : decode cL_isMessage 405 = .ok (.iload 9, 2) := by decide +kernel
theorem dL_isMessage_407 : decode cL_isMessage 407 = .ok (.ifCond .eq 103, 3) := by decide +kernel
theorem dL_isMessage_410 : decode cL_isMessage 410 = .ok (.iload 10, 2) := by decide +kernel
theorem dL_isMessage_412 : decode cL_isMessage 412 = .ok (.ifCond .eq 98, 3) := by decide +kernel
theorem dL_isMessage_415 : decode cL_isMessage 415 = .ok (.iload 12, 2) := by decide +kernel
theorem dL_isMessage_417 : decode cL_isMessage 417 = .ok (.ifCond .eq 93, 3) := by decide +kernel
theorem dL_isMessage_420 : decode cL_isMessage 420 = .ok (.iload 13, 2) := by decide +kernel
theorem dL_isMessage_422 : decode cL_isMessage 422 = .ok (.ifCond .eq 88, 3) := by decide +kernel
theorem dL_isMessage_425 : decode cL_isMessage 425 = .ok (.iload 5, 2) := by decide +kernel
theorem dL_isMessage_427 : decode cL_isMessage 427 = .ok (.iload 4, 2) := by decide +kernel
theorem dL_isMessage_429 : decode cL_isMessage 429 = .ok (.bipush 100, 2) := by decide +kernel
theorem dL_isMessage_431 : decode cL_isMessage 431 = .ok (.if_icmp .ne 7, 3) := by decide +kernel
theorem dL_isMessage_434 : decode cL_isMessage 434 = .ok (.iconst 1, 1) := by decide +kernel
theorem dL_isMessage_435 : decode cL_isMessage 435 = .ok (.goto 4, 3) := by decide +kernel
theorem dL_isMessage_438 : decode cL_isMessage 438 = .ok (.iconst 0, 1) := by decide +kernel
theorem dL_isMessage_439 : decode cL_isMessage 439 = .ok (.if_icmp .lt 71, 3) := by decide +kernel
theorem dL_isMessage_442 : decode cL_isMessage 442 = .ok (.iload 5, 2) := by decide +kernel
theorem dL_isMessage_444 : decode cL_isMessage 444 = .ok (.iconst 5, 1) := by decide +kernel
theorem dL_isMessage_445 : decode cL_isMessage 445 = .ok (.if_icmp .gt 65, 3) := by decide +kernel
theorem dL_isMessage_448 : decode cL_isMessage 448 = .ok (.iload_n 1, 1) := by decide +kernel
theorem dL_isMessage_449 : decode cL_isMessage 449 = .ok (.ifCond .eq 14, 3) := by decide +kernel
theorem dL_isMessage_452 : decode cL_isMessage 452 = .ok (.aload_n 0, 1) := by decide +kernel
theorem dL_isMessage_453 : decode cL_isMessage 453 = .ok (.iload_n 1, 1) := by decide +kernel
theorem dL_isMessage_454 : decode cL_isMessage 454 = .ok (.iconst 1, 1) := by decide +kernel
theorem dL_isMessage_455 : decode cL_isMessage 455 = .ok (.isub, 1) := by decide +kernel
theorem dL_isMessage_456 : decode cL_isMessage 456 = .ok (.invokestatic 196, 3) := by decide +kernel
theorem dL_isMessage_459 : decode cL_isMessage 459 = .ok (.iload_n 2, 1) := by decide +kernel
theorem dL_isMessage_460 : decode cL_isMessage 460 = .ok (.if_icmp .ge 50, 3) := by decide +kernel
theorem dL_isMessage_463 : decode cL_isMessage 463 = .ok (.iload_n 2, 1) := by decide +kernel
theorem dL_isMessage_464 : decode cL_isMessage 464 = .ok (.aload_n 0, 1) := by decide +kernel
theorem dL_isMessage_465 : decode cL_isMessage 465 = .ok (.invokevirtual 288, 3) := by decide +kernel
theorem dL_isMessage_468 : decode cL_isMessage 468 = .ok (.if_icmp .ge 42, 3) := by decide +kernel
theorem dL_isMessage_471 : decode cL_isMessage 471 = .ok (.aload_n 0, 1) := by decide +kernel
theorem dL_isMessage_472 : decode cL_isMessage 472 = .ok (.iload_n 2, 1) := by decide +kernel
theorem dL_isMessage_473 : decode cL_isMessage 473 = .ok (.invokestatic 317, 3) := by decide +kernel
theorem dL_isMessage_476 : decode cL_isMessage 476 = .ok (.ifCond .lt 34, 3) := by decide +kernel
theorem dL_isMessage_479 : decode cL_isMessage 479 = .ok (.aload_n 0, 1) := by decide +kernel
theorem dL_isMessage_480 : decode cL_isMessage 480 = .ok (.iload_n 2, 1) := by decide +kernel
theorem dL_isMessage_481 : decode cL_isMessage 481 = .ok (.invokestatic 317, 3) := by decide +kernel
theorem dL_isMessage_484 : decode cL_isMessage 484 = .ok (.bipush 99, 2) := by decide +kernel
theorem dL_isMessage_486 : decode cL_isMessage 486 = .ok (.if_icmp .gt 24, 3) := by decide +kernel
theorem dL_isMessage_489 : decode cL_isMessage 489 = .ok (.iload 4, 2) := by decide +kernel
theorem dL_isMessage_491 : decode cL_isMessage 491 = .ok (.bipush 100, 2) := by decide +kernel
theorem dL_isMessage_493 : decode cL_isMessage 493 = .ok (.if_icmp .ne 13, 3) := by decide +kernel
theorem dL_isMessage_496 : decode cL_isMessage 496 = .ok (.aload_n 0, 1) := by decide +kernel
theorem dL_isMessage_497 : decode cL_isMessage 497 = .ok (.iload_n 2, 1) := by decide +kernel
theorem dL_isMessage_498 : decode cL_isMessage 498 = .ok (.invokestatic 198, 3) := by decide +kernel
theorem dL_isMessage_501 : decode cL_isMessage 501 = .ok (.bipush (-79), 2) := by decide +kernel
theorem dL_isMessage_503 : decode cL_isMessage 503 = .ok (.if_icmp .ne 7, 3) := by decide +kernel
theorem dL_isMessage_506 : decode cL_isMessage 506 = .ok (.iconst 1, 1) := by decide +kernel
theorem dL_isMessage_507 : decode cL_isMessage 507 = .ok (.goto 4, 3) := by decide +kernel
theorem dL_isMessage_510 : decode cL_isMessage 510 = .ok (.iconst 0, 1) := by decide +kernel
theorem dL_isMessage_511 : decode cL_isMessage 511 = .ok (.ireturn, 1) := by decide +kernel
theorem dL_isWhole_0 : decode cL_isWhole 0 = .ok (.aload_n 0, 1) := by decide +kernel
theorem dL_isWhole_1 : decode cL_isWhole 1 = .ok (.invokevirtual 193, 3) := by decide +kernel
theorem dL_isWhole_4 : decode cL_isWhole 4 = .ok (.istore 4, 2) := by decide +kernel
theorem dL_isWhole_6 : decode cL_isWhole 6 = .ok (.iconst 0, 1) := by decide +kernel
theorem dL_isWhole_7 : decode cL_isWhole 7 = .ok (.istore 5, 2) := by decide +kernel
theorem dL_isWhole_9 : decode cL_isWhole 9 = .ok (.iconst 0, 1) := by decide +kernel
theorem dL_isWhole_10 : decode cL_isWhole 10 = .ok (.istore 6, 2) := by decide +kernel
theorem dL_isWhole_12 : decode cL_isWhole 12 = .ok (.iconst 0, 1) := by decide +kernel
theorem dL_isWhole_13 : decode cL_isWhole 13 = .ok (.istore 7, 2) := by decide +kernel
theorem dL_isWhole_15 : decode cL_isWhole 15 = .ok (.iconst 0, 1) := by decide +kernel
theorem dL_isWhole_16 : decode cL_isWhole 16 = .ok (.istore 8, 2) := by decide +kernel
theorem dL_isWhole_18 : decode cL_isWhole 18 = .ok (.iload 8, 2) := by decide +kernel
theorem dL_isWhole_20 : decode cL_isWhole 20 = .ok (.iload 4, 2) := by decide +kernel
theorem dL_isWhole_22 : decode cL_isWhole 22 = .ok (.if_icmp .ge 99, 3) := by decide +kernel
theorem dL_isWhole_25 : decode cL_isWhole 25 = .ok (.iload_n 3, 1) := by decide +kernel
theorem dL_isWhole_26 : decode cL_isWhole 26 = .ok (.ifCond .ne 17, 3) := by decide +kernel
theorem dL_isWhole_29 : decode cL_isWhole 29 = .ok (.iload 8, 2) := by decide +kernel
theorem dL_isWhole_31 : decode cL_isWhole 31 = .ok (.aload_n 1, 1) := by decide +kernel
theorem dL_isWhole_32 : decode cL_isWhole 32 = .ok (.iload_n 2, 1) := by decide +kernel
theorem dL_isWhole_33 : decode cL_isWhole 33 = .ok (.iconst 1, 1) := by decide +kernel
theorem dL_isWhole_34 : decode cL_isWhole 34 = .ok (.iadd, 1) := by decide +kernel
theorem dL_isWhole_35 : decode cL_isWhole 35 = .ok (.bipush 16, 2) := by decide +kernel
theorem dL_isWhole_37 : decode cL_isWhole 37 = .ok (.invokestatic 189, 3) := by decide +kernel
theorem dL_isWhole_40 : decode cL_isWhole 40 = .ok (.if_icmp .ne 14, 3) := by decide +kernel
theorem dL_isWhole_43 : decode cL_isWhole 43 = .ok (.aload_n 0, 1) := by decide +kernel
theorem dL_isWhole_44 : decode cL_isWhole 44 = .ok (.iload 8, 2) := by decide +kernel
theorem dL_isWhole_46 : decode cL_isWhole 46 = .ok (.invokestatic 330, 3) := by decide +kernel
theorem dL_isWhole_49 : decode cL_isWhole 49 = .ok (.ifCond .ne 5, 3) := by decide +kernel
theorem dL_isWhole_52 : decode cL_isWhole 52 = .ok (.iconst 0, 1) := by decide +kernel
theorem dL_isWhole_53 : decode cL_isWhole 53 = .ok (.ireturn, 1) := by decide +kernel
theorem dL_isWhole_54 : decode cL_isWhole 54 = .ok (.aload_n 0, 1) := by decide +kernel
theorem dL_isWhole_55 : decode cL_isWhole 55 = .ok (.iload 8, 2) := by decide +kernel
theorem dL_isWhole_57 : decode cL_isWhole 57 = .ok (.invokestatic 196, 3) := by decide +kernel
theorem dL_isWhole_60 : decode cL_isWhole 60 = .ok (.istore 9, 2) := by decide +kernel
theorem dL_isWhole_62 : decode cL_isWhole 62 = .ok (.iload 5, 2) := by decide +kernel
theorem dL_isWhole_64 : decode cL_isWhole 64 = .ok (.aload_n 0, 1) := by decide +kernel
theorem dL_isWhole_65 : decode cL_isWhole 65 = .ok (.iload 9, 2) := by decide +kernel
theorem dL_isWhole_67 : decode cL_isWhole 67 = .ok (.invokestatic 319, 3) := by decide +kernel
theorem dL_isWhole_70 : decode cL_isWhole 70 = .ok (.iadd, 1) := by decide +kernel
theorem dL_isWhole_71 : decode cL_isWhole 71 = .ok (.istore 5, 2) := by decide +kernel
theorem dL_isWhole_73 : decode cL_isWhole 73 = .ok (.iload 6, 2) := by decide +kernel
theorem dL_isWhole_75 : decode cL_isWhole 75 = .ok (.aload_n 0, 1) := by decide +kernel
theorem dL_isWhole_76 : decode cL_isWhole 76 = .ok (.iload 9, 2) := by decide +kernel
theorem dL_isWhole_78 : decode cL_isWhole 78 = .ok (.invokestatic 200, 3) := by decide +kernel
theorem dL_isWhole_81 : decode cL_isWhole 81 = .ok (.bipush 102, 2) := by decide +kernel
theorem dL_isWhole_83 : decode cL_isWhole 83 = .ok (.if_icmp .ne 7, 3) := by decide +kernel
theorem dL_isWhole_86 : decode cL_isWhole 86 = .ok (.iconst 1, 1) := by decide +kernel
theorem dL_isWhole_87 : decode cL_isWhole 87 = .ok (.goto 4, 3) := by decide +kernel
theorem dL_isWhole_90 : decode cL_isWhole 90 = .ok (.iconst 0, 1) := by decide +kernel
theorem dL_isWhole_91 : decode cL_isWhole 91 = .ok (.iadd, 1) := by decide +kernel
theorem dL_isWhole_92 : decode cL_isWhole 92 = .ok (.istore 6, 2) := by decide +kernel
theorem dL_isWhole_94 : decode cL_isWhole 94 = .ok (.iload 7, 2) := by decide +kernel
theorem dL_isWhole_96 : decode cL_isWhole 96 = .ok (.aload_n 0, 1) := by decide +kernel
theorem dL_isWhole_97 : decode cL_isWhole 97 = .ok (.iload 9, 2) := by decide +kernel
theorem dL_isWhole_99 : decode cL_isWhole 99 = .ok (.invokestatic 200, 3) := by decide +kernel
theorem dL_isWhole_102 : decode cL_isWhole 102 = .ok (.bipush 100, 2) := by decide +kernel
theorem dL_isWhole_104 : decode cL_isWhole 104 = .ok (.if_icmp .ne 7, 3) := by decide +kernel
theorem dL_isWhole_107 : decode cL_isWhole 107 = .ok (.iconst 1, 1) := by decide +kernel
theorem dL_isWhole_108 : decode cL_isWhole 108 = .ok (.goto 4, 3) := by decide +kernel
theorem dL_isWhole_111 : decode cL_isWhole 111 = .ok (.iconst 0, 1) := by decide +kernel
theorem dL_isWhole_112 : decode cL_isWhole 112 = .ok (.iadd, 1) := by decide +kernel
theorem dL_isWhole_113 : decode cL_isWhole 113 = .ok (.istore 7, 2) := by decide +kernel
theorem dL_isWhole_115 : decode cL_isWhole 115 = .ok (.iinc 8 1, 3) := by decide +kernel
theorem dL_isWhole_118 : decode cL_isWhole 118 = .ok (.goto (-100), 3) := by decide +kernel
theorem dL_isWhole_121 : decode cL_isWhole 121 = .ok (.iconst 0, 1) := by decide +kernel
theorem dL_isWhole_122 : decode cL_isWhole 122 = .ok (.istore 8, 2) := by decide +kernel
theorem dL_isWhole_124 : decode cL_isWhole 124 = .ok (.iconst 0, 1) := by decide +kernel
theorem dL_isWhole_125 : decode cL_isWhole 125 = .ok (.istore 9, 2) := by decide +kernel
theorem dL_isWhole_127 : decode cL_isWhole 127 = .ok (.iload 9, 2) := by decide +kernel
theorem dL_isWhole_129 : decode cL_isWhole 129 = .ok (.aload_n 0, 1) := by decide +kernel
theorem dL_isWhole_130 : decode cL_isWhole 130 = .ok (.invokevirtual 308, 3) := by decide +kernel
theorem dL_isWhole_133 : decode cL_isWhole 133 = .ok (.if_icmp .ge 86, 3) := by decide +kernel
theorem dL_isWhole_136 : decode cL_isWhole 136 = .ok (.iload 8, 2) := by decide +kernel
theorem dL_isWhole_138 : decode cL_isWhole 138 = .ok (.aload_n 0, 1) := by decide +kernel
theorem dL_isWhole_139 : decode cL_isWhole 139 = .ok (.iload 9, 2) := by decide +kernel
theorem dL_isWhole_141 : decode cL_isWhole 141 = .ok (.invokestatic 334, 3) := by decide +kernel
theorem dL_isWhole_144 : decode cL_isWhole 144 = .ok (.iadd, 1) := by decide +kernel
theorem dL_isWhole_145 : decode cL_isWhole 145 = .ok (.istore 8, 2) := by decide +kernel
theorem dL_isWhole_147 : decode cL_isWhole 147 = .ok (.aload_n 0, 1) := by decide +kernel
theorem dL_isWhole_148 : decode cL_isWhole 148 = .ok (.iload 9, 2) := by decide +kernel
theorem dL_isWhole_150 : decode cL_isWhole 150 = .ok (.invokestatic 313, 3) := by decide +kernel
theorem dL_isWhole_153 : decode cL_isWhole 153 = .ok (.ifCond .le 7, 3) := by decide +kernel
theorem dL_isWhole_156 : decode cL_isWhole 156 = .ok (.iconst 1, 1) := by decide +kernel
theorem dL_isWhole_157 : decode cL_isWhole 157 = .ok (.goto 4, 3) := by decide +kernel
theorem dL_isWhole_160 : decode cL_isWhole 160 = .ok (.iconst 0, 1) := by decide +kernel
theorem dL_isWhole_161 : decode cL_isWhole 161 = .ok (.aload_n 0, 1) := by decide +kernel
theorem dL_isWhole_162 : decode cL_isWhole 162 = .ok (.iload 9, 2) := by decide +kernel
theorem dL_isWhole_164 : decode cL_isWhole 164 = .ok (.invokestatic 334, 3) := by decide +kernel
theorem dL_isWhole_167 : decode cL_isWhole 167 = .ok (.iconst 1, 1) := by decide +kernel
theorem dL_isWhole_168 : decode cL_isWhole 168 = .ok (.if_icmp .ne 7, 3) := by decide +kernel
theorem dL_isWhole_171 : decode cL_isWhole 171 = .ok (.iconst 1, 1) := by decide +kernel
theorem dL_isWhole_172 : decode cL_isWhole 172 = .ok (.goto 4, 3) := by decide +kernel
theorem dL_isWhole_175 : decode cL_isWhole 175 = .ok (.iconst 0, 1) := by decide +kernel
theorem dL_isWhole_176 : decode cL_isWhole 176 = .ok (.if_icmp .ne 35, 3) := by decide +kernel
theorem dL_isWhole_179 : decode cL_isWhole 179 = .ok (.aload_n 0, 1) := by decide +kernel
theorem dL_isWhole_180 : decode cL_isWhole 180 = .ok (.iload 9, 2) := by decide +kernel
theorem dL_isWhole_182 : decode cL_isWhole 182 = .ok (.invokestatic 311, 3) := by decide +kernel
theorem dL_isWhole_185 : decode cL_isWhole 185 = .ok (.ifCond .lt 7, 3) := by decide +kernel
theorem dL_isWhole_188 : decode cL_isWhole 188 = .ok (.iconst 1, 1) := by decide +kernel
theorem dL_isWhole_189 : decode cL_isWhole 189 = .ok (.goto 4, 3) := by decide +kernel
theorem dL_isWhole_192 : decode cL_isWhole 192 = .ok (.iconst 0, 1) := by decide +kernel
theorem dL_isWhole_193 : decode cL_isWhole 193 = .ok (.aload_n 0, 1) := by decide +kernel
theorem dL_isWhole_194 : decode cL_isWhole 194 = .ok (.iload 9, 2) := by decide +kernel
theorem dL_isWhole_196 : decode cL_isWhole 196 = .ok (.invokestatic 334, 3) := by decide +kernel
theorem dL_isWhole_199 : decode cL_isWhole 199 = .ok (.iconst 1, 1) := by decide +kernel
theorem dL_isWhole_200 : decode cL_isWhole 200 = .ok (.if_icmp .ne 7, 3) := by decide +kernel
theorem dL_isWhole_203 : decode cL_isWhole 203 = .ok (.iconst 1, 1) := by decide +kernel
theorem dL_isWhole_204 : decode cL_isWhole 204 = .ok (.goto 4, 3) := by decide +kernel
theorem dL_isWhole_207 : decode cL_isWhole 207 = .ok (.iconst 0, 1) := by decide +kernel
theorem dL_isWhole_208 : decode cL_isWhole 208 = .ok (.if_icmp .eq 5, 3) := by decide +kernel
theorem dL_isWhole_211 : decode cL_isWhole 211 = .ok (.iconst 0, 1) := by decide +kernel
theorem dL_isWhole_212 : decode cL_isWhole 212 = .ok (.ireturn, 1) := by decide +kernel
theorem dL_isWhole_213 : decode cL_isWhole 213 = .ok (.iinc 9 1, 3) := by decide +kernel
theorem dL_isWhole_216 : decode cL_isWhole 216 = .ok (.goto (-89), 3) := by decide +kernel
theorem dL_isWhole_219 : decode cL_isWhole 219 = .ok (.iconst 1, 1) := by decide +kernel
theorem dL_isWhole_220 : decode cL_isWhole 220 = .ok (.istore 9, 2) := by decide +kernel
theorem dL_isWhole_222 : decode cL_isWhole 222 = .ok (.aload_n 0, 1) := by decide +kernel
theorem dL_isWhole_223 : decode cL_isWhole 223 = .ok (.iload 9, 2) := by decide +kernel
theorem dL_isWhole_225 : decode cL_isWhole 225 = .ok (.invokestatic 323, 3) := by decide +kernel
theorem dL_isWhole_228 : decode cL_isWhole 228 = .ok (.ifCond .lt 66, 3) := by decide +kernel
theorem dL_isWhole_231 : decode cL_isWhole 231 = .ok (.aload_n 0, 1) := by decide +kernel
theorem dL_isWhole_232 : decode cL_isWhole 232 = .ok (.iload 9, 2) := by decide +kernel
theorem dL_isWhole_234 : decode cL_isWhole 234 = .ok (.iconst 1, 1) := by decide +kernel
theorem dL_isWhole_235 : decode cL_isWhole 235 = .ok (.isub, 1) := by decide +kernel
theorem dL_isWhole_236 : decode cL_isWhole 236 = .ok (.invokestatic 323, 3) := by decide +kernel
theorem dL_isWhole_239 : decode cL_isWhole 239 = .ok (.istore 10, 2) := by decide +kernel
theorem dL_isWhole_241 : decode cL_isWhole 241 = .ok (.aload_n 0, 1) := by decide +kernel
theorem dL_isWhole_242 : decode cL_isWhole 242 = .ok (.iload 9, 2) := by decide +kernel
theorem dL_isWhole_244 : decode cL_isWhole 244 = .ok (.invokestatic 323, 3) := by decide +kernel
theorem dL_isWhole_247 : decode cL_isWhole 247 = .ok (.istore 11, 2) := by decide +kernel
theorem dL_isWhole_249 : decode cL_isWhole 249 = .ok (.aload_n 0, 1) := by decide +kernel
theorem dL_isWhole_250 : decode cL_isWhole 250 = .ok (.iload 10, 2) := by decide +kernel
theorem dL_isWhole_252 : decode cL_isWhole 252 = .ok (.invokestatic 319, 3) := by decide +kernel
theorem dL_isWhole_255 : decode cL_isWhole 255 = .ok (.aload_n 0, 1) := by decide +kernel
theorem dL_isWhole_256 : decode cL_isWhole 256 = .ok (.iload 11, 2) := by decide +kernel
theorem dL_isWhole_258 : decode cL_isWhole 258 = .ok (.invokestatic 319, 3) := by decide +kernel
theorem dL_isWhole_261 : decode cL_isWhole 261 = .ok (.if_icmp .gt 25, 3) := by decide +kernel
theorem dL_isWhole_264 : decode cL_isWhole 264 = .ok (.aload_n 0, 1) := by decide +kernel
theorem dL_isWhole_265 : decode cL_isWhole 265 = .ok (.iload 10, 2) := by decide +kernel
theorem dL_isWhole_267 : decode cL_isWhole 267 = .ok (.invokestatic 319, 3) := by decide +kernel
theorem dL_isWhole_270 : decode cL_isWhole 270 = .ok (.aload_n 0, 1) := by decide +kernel
theorem dL_isWhole_271 : decode cL_isWhole 271 = .ok (.iload 11, 2) := by decide +kernel
theorem dL_isWhole_273 : decode cL_isWhole 273 = .ok (.invokestatic 319, 3) := by decide +kernel
theorem dL_isWhole_276 : decode cL_isWhole 276 = .ok (.if_icmp .ne 12, 3) := by decide +kernel
theorem dL_isWhole_279 : decode cL_isWhole 279 = .ok (.iload 10, 2) := by decide +kernel
theorem dL_isWhole_281 : decode cL_isWhole 281 = .ok (.iload 11, 2) := by decide +kernel
theorem dL_isWhole_283 : decode cL_isWhole 283 = .ok (.if_icmp .le 5, 3) := by decide +kernel
theorem dL_isWhole_286 : decode cL_isWhole 286 = .ok (.iconst 0, 1) := by decide +kernel
theorem dL_isWhole_287 : decode cL_isWhole 287 = .ok (.ireturn, 1) := by decide +kernel
theorem dL_isWhole_288 : decode cL_isWhole 288 = .ok (.iinc 9 1, 3) := by decide +kernel
theorem dL_isWhole_291 : decode cL_isWhole 291 = .ok (.goto (-69), 3) := by decide +kernel
theorem dL_isWhole_294 : decode cL_isWhole 294 = .ok (.iconst 0, 1) := by decide +kernel
theorem dL_isWhole_295 : decode cL_isWhole 295 = .ok (.istore 9, 2) := by decide +kernel
theorem dL_isWhole_297 : decode cL_isWhole 297 = .ok (.iconst 0, 1) := by decide +kernel
theorem dL_isWhole_298 : decode cL_isWhole 298 = .ok (.istore 10, 2) := by decide +kernel
theorem dL_isWhole_300 : decode cL_isWhole 300 = .ok (.iload 10, 2) := by decide +kernel
theorem dL_isWhole_302 : decode cL_isWhole 302 = .ok (.aload_n 0, 1) := by decide +kernel
theorem dL_isWhole_303 : decode cL_isWhole 303 = .ok (.invokevirtual 231, 3) := by decide +kernel
theorem dL_isWhole_306 : decode cL_isWhole 306 = .ok (.if_icmp .ge 145, 3) := by decide +kernel
theorem dL_isWhole_309 : decode cL_isWhole 309 = .ok (.iload 9, 2) := by decide +kernel
theorem dL_isWhole_311 : decode cL_isWhole 311 = .ok (.aload_n 0, 1) := by decide +kernel
theorem dL_isWhole_312 : decode cL_isWhole 312 = .ok (.iload 10, 2) := by decide +kernel
theorem dL_isWhole_314 : decode cL_isWhole 314 = .ok (.invokestatic 304, 3) := by decide +kernel
theorem dL_isWhole_317 : decode cL_isWhole 317 = .ok (.iadd, 1) := by decide +kernel
theorem dL_isWhole_318 : decode cL_isWhole 318 = .ok (.istore 9, 2) := by decide +kernel
theorem dL_isWhole_320 : decode cL_isWhole 320 = .ok (.iconst 0, 1) := by decide +kernel
theorem dL_isWhole_321 : decode cL_isWhole 321 = .ok (.istore 11, 2) := by decide +kernel
theorem dL_isWhole_323 : decode cL_isWhole 323 = .ok (.iconst 0, 1) := by decide +kernel
theorem dL_isWhole_324 : decode cL_isWhole 324 = .ok (.istore 12, 2) := by decide +kernel
theorem dL_isWhole_326 : decode cL_isWhole 326 = .ok (.iload 12, 2) := by decide +kernel
theorem dL_isWhole_328 : decode cL_isWhole 328 = .ok (.bipush 100, 2) := by decide +kernel
theorem dL_isWhole_330 : decode cL_isWhole 330 = .ok (.if_icmp .ge 22, 3) := by decide +kernel
theorem dL_isWhole_333 : decode cL_isWhole 333 = .ok (.iload 11, 2) := by decide +kernel
theorem dL_isWhole_335 : decode cL_isWhole 335 = .ok (.aload_n 0, 1) := by decide +kernel
theorem dL_isWhole_336 : decode cL_isWhole 336 = .ok (.iload 10, 2) := by decide +kernel
theorem dL_isWhole_338 : decode cL_isWhole 338 = .ok (.iload 12, 2) := by decide +kernel
theorem dL_isWhole_340 : decode cL_isWhole 340 = .ok (.invokestatic 336, 3) := by decide +kernel
theorem dL_isWhole_343 : decode cL_isWhole 343 = .ok (.iadd, 1) := by decide +kernel
theorem dL_isWhole_344 : decode cL_isWhole 344 = .ok (.istore 11, 2) := by decide +kernel
theorem dL_isWhole_346 : decode cL_isWhole 346 = .ok (.iinc 12 1, 3) := by decide +kernel
theorem dL_isWhole_349 : decode cL_isWhole 349 = .ok (.goto (-23), 3) := by decide +kernel
theorem dL_isWhole_352 : decode cL_isWhole 352 = .ok (.aload_n 0, 1) := by decide +kernel
theorem dL_isWhole_353 : decode cL_isWhole 353 = .ok (.iload 10, 2) := by decide +kernel
theorem dL_isWhole_355 : decode cL_isWhole 355 = .ok (.invokestatic 304, 3) := by decide +kernel
theorem dL_isWhole_358 : decode cL_isWhole 358 = .ok (.bipush 8, 2) := by decide +kernel
theorem dL_isWhole_360 : decode cL_isWhole 360 = .ok (.if_icmp .gt 36, 3) := by decide +kernel
theorem dL_isWhole_363 : decode cL_isWhole 363 = .ok (.aload_n 0, 1) := by decide +kernel
theorem dL_isWhole_364 : decode cL_isWhole 364 = .ok (.iload 10, 2) := by decide +kernel
theorem dL_isWhole_366 : decode cL_isWhole 366 = .ok (.invokestatic 302, 3) := by decide +kernel
theorem dL_isWhole_369 : decode cL_isWhole 369 = .ok (.bipush 8, 2) := by decide +kernel
theorem dL_isWhole_371 : decode cL_isWhole 371 = .ok (.if_icmp .gt 25, 3) := by decide +kernel
theorem dL_isWhole_374 : decode cL_isWhole 374 = .ok (.iload 11, 2) := by decide +kernel
theorem dL_isWhole_376 : decode cL_isWhole 376 = .ok (.aload_n 0, 1) := by decide +kernel
theorem dL_isWhole_377 : decode cL_isWhole 377 = .ok (.iload 10, 2) := by decide +kernel
theorem dL_isWhole_379 : decode cL_isWhole 379 = .ok (.invokestatic 302, 3) := by decide +kernel
theorem dL_isWhole_382 : decode cL_isWhole 382 = .ok (.if_icmp .ne 14, 3) := by decide +kernel
theorem dL_isWhole_385 : decode cL_isWhole 385 = .ok (.aload_n 0, 1) := by decide +kernel
theorem dL_isWhole_386 : decode cL_isWhole 386 = .ok (.iload 10, 2) := by decide +kernel
theorem dL_isWhole_388 : decode cL_isWhole 388 = .ok (.bipush 100, 2) := by decide +kernel
theorem dL_isWhole_390 : decode cL_isWhole 390 = .ok (.invokestatic 336, 3) := by decide +kernel
theorem dL_isWhole_393 : decode cL_isWhole 393 = .ok (.ifCond .eq 5, 3) := by decide +kernel
theorem dL_isWhole_396 : decode cL_isWhole 396 = .ok (.iconst 0, 1) := by decide +kernel
theorem dL_isWhole_397 : decode cL_isWhole 397 = .ok (.ireturn, 1) := by decide +kernel
theorem dL_isWhole_398 : decode cL_isWhole 398 = .ok (.aload_n 0, 1) := by decide +kernel
end
section
theorem dL_isWhole_399 : decode cL_isWhole 399 = .ok (.iload 10, 2) := by decide +kernel
theorem dL_isWhole_401 : decode cL_isWhole 401 = .ok (.invokestatic 338, 3) := by decide +kernel
theorem dL_isWhole_404 : decode cL_isWhole 404 = .ok (.istore 12, 2) := by decide +kernel
theorem dL_isWhole_406 : decode cL_isWhole 406 = .ok (.iload 10, 2) := by decide +kernel
theorem dL_isWhole_408 : decode cL_isWhole 408 = .ok (.ifCond .ne 8, 3) := by decide +kernel
theorem dL_isWhole_411 : decode cL_isWhole 411 = .ok (.iload 12, 2) := by decide +kernel
theorem dL_isWhole_413 : decode cL_isWhole 413 = .ok (.goto 11, 3) := by decide +kernel
theorem dL_isWhole_416 : decode cL_isWhole 416 = .ok (.aload_n 0, 1) := by decide +kernel
theorem dL_isWhole_417 : decode cL_isWhole 417 = .ok (.iload 10, 2) := by decide +kernel
theorem dL_isWhole_419 : decode cL_isWhole 419 = .ok (.iconst 1, 1) := by decide +kernel
theorem dL_isWhole_420 : decode cL_isWhole 420 = .ok (.isub, 1) := by decide +kernel
theorem dL_isWhole_421 : decode cL_isWhole 421 = .ok (.invokestatic 338, 3) := by decide +kernel
theorem dL_isWhole_424 : decode cL_isWhole 424 = .ok (.istore 13, 2) := by decide +kernel
theorem dL_isWhole_426 : decode cL_isWhole 426 = .ok (.iload 12, 2) := by decide +kernel
theorem dL_isWhole_428 : decode cL_isWhole 428 = .ok (.ifCond .lt 15, 3) := by decide +kernel
theorem dL_isWhole_431 : decode cL_isWhole 431 = .ok (.iload 10, 2) := by decide +kernel
theorem dL_isWhole_433 : decode cL_isWhole 433 = .ok (.ifCond .le 12, 3) := by decide +kernel
theorem dL_isWhole_436 : decode cL_isWhole 436 = .ok (.iload 12, 2) := by decide +kernel
theorem dL_isWhole_438 : decode cL_isWhole 438 = .ok (.iload 13, 2) := by decide +kernel
theorem dL_isWhole_440 : decode cL_isWhole 440 = .ok (.if_icmp .ne 5, 3) := by decide +kernel
theorem dL_isWhole_443 : decode cL_isWhole 443 = .ok (.iconst 0, 1) := by decide +kernel
theorem dL_isWhole_444 : decode cL_isWhole 444 = .ok (.ireturn, 1) := by decide +kernel
theorem dL_isWhole_445 : decode cL_isWhole 445 = .ok (.iinc 10 1, 3) := by decide +kernel
theorem dL_isWhole_448 : decode cL_isWhole 448 = .ok (.goto (-148), 3) := by decide +kernel
theorem dL_isWhole_451 : decode cL_isWhole 451 = .ok (.aload_n 1, 1) := by decide +kernel
theorem dL_isWhole_452 : decode cL_isWhole 452 = .ok (.iload_n 2, 1) := by decide +kernel
theorem dL_isWhole_453 : decode cL_isWhole 453 = .ok (.iconst 2, 1) := by decide +kernel
theorem dL_isWhole_454 : decode cL_isWhole 454 = .ok (.iadd, 1) := by decide +kernel
theorem dL_isWhole_455 : decode cL_isWhole 455 = .ok (.bipush 41, 2) := by decide +kernel
theorem dL_isWhole_457 : decode cL_isWhole 457 = .ok (.invokestatic 189, 3) := by decide +kernel
theorem dL_isWhole_460 : decode cL_isWhole 460 = .ok (.istore 10, 2) := by decide +kernel
theorem dL_isWhole_462 : decode cL_isWhole 462 = .ok (.aload_n 0, 1) := by decide +kernel
theorem dL_isWhole_463 : decode cL_isWhole 463 = .ok (.iload 10, 2) := by decide +kernel
theorem dL_isWhole_465 : decode cL_isWhole 465 = .ok (.invokestatic 325, 3) := by decide +kernel
theorem dL_isWhole_468 : decode cL_isWhole 468 = .ok (.aload_n 0, 1) := by decide +kernel
theorem dL_isWhole_469 : decode cL_isWhole 469 = .ok (.iload 10, 2) := by decide +kernel
theorem dL_isWhole_471 : decode cL_isWhole 471 = .ok (.invokestatic 340, 3) := by decide +kernel
theorem dL_isWhole_474 : decode cL_isWhole 474 = .ok (.lcmp, 1) := by decide +kernel
theorem dL_isWhole_475 : decode cL_isWhole 475 = .ok (.ifCond .ne 48, 3) := by decide +kernel
theorem dL_isWhole_478 : decode cL_isWhole 478 = .ok (.iload 10, 2) := by decide +kernel
theorem dL_isWhole_480 : decode cL_isWhole 480 = .ok (.ifCond .ne 17, 3) := by decide +kernel
theorem dL_isWhole_483 : decode cL_isWhole 483 = .ok (.aload_n 0, 1) := by decide +kernel
theorem dL_isWhole_484 : decode cL_isWhole 484 = .ok (.iload 10, 2) := by decide +kernel
theorem dL_isWhole_486 : decode cL_isWhole 486 = .ok (.invokestatic 325, 3) := by decide +kernel
theorem dL_isWhole_489 : decode cL_isWhole 489 = .ok (.lconst 1, 1) := by decide +kernel
theorem dL_isWhole_490 : decode cL_isWhole 490 = .ok (.lcmp, 1) := by decide +kernel
theorem dL_isWhole_491 : decode cL_isWhole 491 = .ok (.ifCond .ne 32, 3) := by decide +kernel
theorem dL_isWhole_494 : decode cL_isWhole 494 = .ok (.goto 25, 3) := by decide +kernel
theorem dL_isWhole_497 : decode cL_isWhole 497 = .ok (.aload_n 0, 1) := by decide +kernel
theorem dL_isWhole_498 : decode cL_isWhole 498 = .ok (.iload 10, 2) := by decide +kernel
theorem dL_isWhole_500 : decode cL_isWhole 500 = .ok (.invokestatic 325, 3) := by decide +kernel
theorem dL_isWhole_503 : decode cL_isWhole 503 = .ok (.ldc2_w 342, 3) := by decide +kernel
theorem dL_isWhole_506 : decode cL_isWhole 506 = .ok (.aload_n 0, 1) := by decide +kernel
theorem dL_isWhole_507 : decode cL_isWhole 507 = .ok (.iload 10, 2) := by decide +kernel
theorem dL_isWhole_509 : decode cL_isWhole 509 = .ok (.iconst 1, 1) := by decide +kernel
theorem dL_isWhole_510 : decode cL_isWhole 510 = .ok (.isub, 1) := by decide +kernel
theorem dL_isWhole_511 : decode cL_isWhole 511 = .ok (.invokestatic 325, 3) := by decide +kernel
theorem dL_isWhole_514 : decode cL_isWhole 514 = .ok (.lmul, 1) := by decide +kernel
theorem dL_isWhole_515 : decode cL_isWhole 515 = .ok (.lcmp, 1) := by decide +kernel
theorem dL_isWhole_516 : decode cL_isWhole 516 = .ok (.ifCond .ne 7, 3) := by decide +kernel
theorem dL_isWhole_519 : decode cL_isWhole 519 = .ok (.iconst 1, 1) := by decide +kernel
theorem dL_isWhole_520 : decode cL_isWhole 520 = .ok (.goto 4, 3) := by decide +kernel
theorem dL_isWhole_523 : decode cL_isWhole 523 = .ok (.iconst 0, 1) := by decide +kernel
theorem dL_isWhole_524 : decode cL_isWhole 524 = .ok (.istore 11, 2) := by decide +kernel
theorem dL_isWhole_526 : decode cL_isWhole 526 = .ok (.iload 4, 2) := by decide +kernel
theorem dL_isWhole_528 : decode cL_isWhole 528 = .ok (.ifCond .ne 33, 3) := by decide +kernel
theorem dL_isWhole_531 : decode cL_isWhole 531 = .ok (.aload_n 0, 1) := by decide +kernel
theorem dL_isWhole_532 : decode cL_isWhole 532 = .ok (.invokestatic 344, 3) := by decide +kernel
theorem dL_isWhole_535 : decode cL_isWhole 535 = .ok (.ldc2_w 126, 3) := by decide +kernel
theorem dL_isWhole_538 : decode cL_isWhole 538 = .ok (.dcmp .l, 1) := by decide +kernel
theorem dL_isWhole_539 : decode cL_isWhole 539 = .ok (.ifCond .ne 18, 3) := by decide +kernel
theorem dL_isWhole_542 : decode cL_isWhole 542 = .ok (.aload_n 0, 1) := by decide +kernel
theorem dL_isWhole_543 : decode cL_isWhole 543 = .ok (.invokestatic 347, 3) := by decide +kernel
theorem dL_isWhole_546 : decode cL_isWhole 546 = .ok (.ldc2_w 132, 3) := by decide +kernel
theorem dL_isWhole_549 : decode cL_isWhole 549 = .ok (.lcmp, 1) := by decide +kernel
theorem dL_isWhole_550 : decode cL_isWhole 550 = .ok (.ifCond .ne 7, 3) := by decide +kernel
theorem dL_isWhole_553 : decode cL_isWhole 553 = .ok (.iconst 1, 1) := by decide +kernel
theorem dL_isWhole_554 : decode cL_isWhole 554 = .ok (.goto 42, 3) := by decide +kernel
theorem dL_isWhole_557 : decode cL_isWhole 557 = .ok (.iconst 0, 1) := by decide +kernel
theorem dL_isWhole_558 : decode cL_isWhole 558 = .ok (.goto 38, 3) := by decide +kernel
theorem dL_isWhole_561 : decode cL_isWhole 561 = .ok (.aload_n 0, 1) := by decide +kernel
theorem dL_isWhole_562 : decode cL_isWhole 562 = .ok (.invokestatic 344, 3) := by decide +kernel
theorem dL_isWhole_565 : decode cL_isWhole 565 = .ok (.iload 5, 2) := by decide +kernel
theorem dL_isWhole_567 : decode cL_isWhole 567 = .ok (.i2d, 1) := by decide +kernel
theorem dL_isWhole_568 : decode cL_isWhole 568 = .ok (.iload 4, 2) := by decide +kernel
theorem dL_isWhole_570 : decode cL_isWhole 570 = .ok (.i2d, 1) := by decide +kernel
theorem dL_isWhole_571 : decode cL_isWhole 571 = .ok (.ddiv, 1) := by decide +kernel
theorem dL_isWhole_572 : decode cL_isWhole 572 = .ok (.dcmp .l, 1) := by decide +kernel
theorem dL_isWhole_573 : decode cL_isWhole 573 = .ok (.ifCond .ne 22, 3) := by decide +kernel
theorem dL_isWhole_576 : decode cL_isWhole 576 = .ok (.aload_n 0, 1) := by decide +kernel
theorem dL_isWhole_577 : decode cL_isWhole 577 = .ok (.invokestatic 347, 3) := by decide +kernel
theorem dL_isWhole_580 : decode cL_isWhole 580 = .ok (.aload_n 0, 1) := by decide +kernel
theorem dL_isWhole_581 : decode cL_isWhole 581 = .ok (.invokestatic 344, 3) := by decide +kernel
theorem dL_isWhole_584 : decode cL_isWhole 584 = .ok (.invokestatic 349, 3) := by decide +kernel
theorem dL_isWhole_587 : decode cL_isWhole 587 = .ok (.lcmp, 1) := by decide +kernel
theorem dL_isWhole_588 : decode cL_isWhole 588 = .ok (.ifCond .ne 7, 3) := by decide +kernel
theorem dL_isWhole_591 : decode cL_isWhole 591 = .ok (.iconst 1, 1) := by decide +kernel
theorem dL_isWhole_592 : decode cL_isWhole 592 = .ok (.goto 4, 3) := by decide +kernel
theorem dL_isWhole_595 : decode cL_isWhole 595 = .ok (.iconst 0, 1) := by decide +kernel
theorem dL_isWhole_596 : decode cL_isWhole 596 = .ok (.istore 12, 2) := by decide +kernel
theorem dL_isWhole_598 : decode cL_isWhole 598 = .ok (.aload_n 0, 1) := by decide +kernel
theorem dL_isWhole_599 : decode cL_isWhole 599 = .ok (.invokevirtual 210, 3) := by decide +kernel
theorem dL_isWhole_602 : decode cL_isWhole 602 = .ok (.ifCond .ne 30, 3) := by decide +kernel
theorem dL_isWhole_605 : decode cL_isWhole 605 = .ok (.aload_n 0, 1) := by decide +kernel
theorem dL_isWhole_606 : decode cL_isWhole 606 = .ok (.invokestatic 355, 3) := by decide +kernel
theorem dL_isWhole_609 : decode cL_isWhole 609 = .ok (.ldc 138, 2) := by decide +kernel
theorem dL_isWhole_611 : decode cL_isWhole 611 = .ok (.fcmp .l, 1) := by decide +kernel
theorem dL_isWhole_612 : decode cL_isWhole 612 = .ok (.ifCond .ne 16, 3) := by decide +kernel
theorem dL_isWhole_615 : decode cL_isWhole 615 = .ok (.aload_n 0, 1) := by decide +kernel
theorem dL_isWhole_616 : decode cL_isWhole 616 = .ok (.invokestatic 358, 3) := by decide +kernel
theorem dL_isWhole_619 : decode cL_isWhole 619 = .ok (.bipush (-74), 2) := by decide +kernel
theorem dL_isWhole_621 : decode cL_isWhole 621 = .ok (.if_icmp .ne 7, 3) := by decide +kernel
theorem dL_isWhole_624 : decode cL_isWhole 624 = .ok (.iconst 1, 1) := by decide +kernel
theorem dL_isWhole_625 : decode cL_isWhole 625 = .ok (.goto 45, 3) := by decide +kernel
theorem dL_isWhole_628 : decode cL_isWhole 628 = .ok (.iconst 0, 1) := by decide +kernel
theorem dL_isWhole_629 : decode cL_isWhole 629 = .ok (.goto 41, 3) := by decide +kernel
theorem dL_isWhole_632 : decode cL_isWhole 632 = .ok (.aload_n 0, 1) := by decide +kernel
theorem dL_isWhole_633 : decode cL_isWhole 633 = .ok (.invokestatic 355, 3) := by decide +kernel
theorem dL_isWhole_636 : decode cL_isWhole 636 = .ok (.aload_n 0, 1) := by decide +kernel
theorem dL_isWhole_637 : decode cL_isWhole 637 = .ok (.invokevirtual 204, 3) := by decide +kernel
theorem dL_isWhole_640 : decode cL_isWhole 640 = .ok (.i2f, 1) := by decide +kernel
theorem dL_isWhole_641 : decode cL_isWhole 641 = .ok (.aload_n 0, 1) := by decide +kernel
theorem dL_isWhole_642 : decode cL_isWhole 642 = .ok (.invokevirtual 210, 3) := by decide +kernel
theorem dL_isWhole_645 : decode cL_isWhole 645 = .ok (.i2f, 1) := by decide +kernel
theorem dL_isWhole_646 : decode cL_isWhole 646 = .ok (.fdiv, 1) := by decide +kernel
theorem dL_isWhole_647 : decode cL_isWhole 647 = .ok (.fcmp .l, 1) := by decide +kernel
theorem dL_isWhole_648 : decode cL_isWhole 648 = .ok (.ifCond .ne 21, 3) := by decide +kernel
theorem dL_isWhole_651 : decode cL_isWhole 651 = .ok (.aload_n 0, 1) := by decide +kernel
theorem dL_isWhole_652 : decode cL_isWhole 652 = .ok (.invokestatic 358, 3) := by decide +kernel
theorem dL_isWhole_655 : decode cL_isWhole 655 = .ok (.aload_n 0, 1) := by decide +kernel
theorem dL_isWhole_656 : decode cL_isWhole 656 = .ok (.invokestatic 355, 3) := by decide +kernel
theorem dL_isWhole_659 : decode cL_isWhole 659 = .ok (.invokestatic 360, 3) := by decide +kernel
theorem dL_isWhole_662 : decode cL_isWhole 662 = .ok (.if_icmp .ne 7, 3) := by decide +kernel
theorem dL_isWhole_665 : decode cL_isWhole 665 = .ok (.iconst 1, 1) := by decide +kernel
theorem dL_isWhole_666 : decode cL_isWhole 666 = .ok (.goto 4, 3) := by decide +kernel
theorem dL_isWhole_669 : decode cL_isWhole 669 = .ok (.iconst 0, 1) := by decide +kernel
theorem dL_isWhole_670 : decode cL_isWhole 670 = .ok (.istore 13, 2) := by decide +kernel
theorem dL_isWhole_672 : decode cL_isWhole 672 = .ok (.aload_n 0, 1) := by decide +kernel
theorem dL_isWhole_673 : decode cL_isWhole 673 = .ok (.invokevirtual 366, 3) := by decide +kernel
theorem dL_isWhole_676 : decode cL_isWhole 676 = .ok (.iload 4, 2) := by decide +kernel
theorem dL_isWhole_678 : decode cL_isWhole 678 = .ok (.if_icmp .ne 63, 3) := by decide +kernel
theorem dL_isWhole_681 : decode cL_isWhole 681 = .ok (.iload 8, 2) := by decide +kernel
theorem dL_isWhole_683 : decode cL_isWhole 683 = .ok (.iload 6, 2) := by decide +kernel
theorem dL_isWhole_685 : decode cL_isWhole 685 = .ok (.if_icmp .ne 56, 3) := by decide +kernel
theorem dL_isWhole_688 : decode cL_isWhole 688 = .ok (.iload 9, 2) := by decide +kernel
theorem dL_isWhole_690 : decode cL_isWhole 690 = .ok (.iload 7, 2) := by decide +kernel
theorem dL_isWhole_692 : decode cL_isWhole 692 = .ok (.if_icmp .ne 49, 3) := by decide +kernel
theorem dL_isWhole_695 : decode cL_isWhole 695 = .ok (.aload_n 0, 1) := by decide +kernel
theorem dL_isWhole_696 : decode cL_isWhole 696 = .ok (.invokevirtual 204, 3) := by decide +kernel
theorem dL_isWhole_699 : decode cL_isWhole 699 = .ok (.aload_n 0, 1) := by decide +kernel
theorem dL_isWhole_700 : decode cL_isWhole 700 = .ok (.invokevirtual 293, 3) := by decide +kernel
theorem dL_isWhole_703 : decode cL_isWhole 703 = .ok (.iload 7, 2) := by decide +kernel
theorem dL_isWhole_705 : decode cL_isWhole 705 = .ok (.iadd, 1) := by decide +kernel
theorem dL_isWhole_706 : decode cL_isWhole 706 = .ok (.if_icmp .ne 35, 3) := by decide +kernel
theorem dL_isWhole_709 : decode cL_isWhole 709 = .ok (.aload_n 0, 1) := by decide +kernel
theorem dL_isWhole_710 : decode cL_isWhole 710 = .ok (.invokevirtual 210, 3) := by decide +kernel
theorem dL_isWhole_713 : decode cL_isWhole 713 = .ok (.aload_n 0, 1) := by decide +kernel
theorem dL_isWhole_714 : decode cL_isWhole 714 = .ok (.invokevirtual 204, 3) := by decide +kernel
theorem dL_isWhole_717 : decode cL_isWhole 717 = .ok (.aload_n 0, 1) := by decide +kernel
theorem dL_isWhole_718 : decode cL_isWhole 718 = .ok (.invokevirtual 213, 3) := by decide +kernel
theorem dL_isWhole_721 : decode cL_isWhole 721 = .ok (.iadd, 1) := by decide +kernel
theorem dL_isWhole_722 : decode cL_isWhole 722 = .ok (.aload_n 0, 1) := by decide +kernel
theorem dL_isWhole_723 : decode cL_isWhole 723 = .ok (.invokevirtual 216, 3) := by decide +kernel
theorem dL_isWhole_726 : decode cL_isWhole 726 = .ok (.iadd, 1) := by decide +kernel
theorem dL_isWhole_727 : decode cL_isWhole 727 = .ok (.if_icmp .lt 14, 3) := by decide +kernel
theorem dL_isWhole_730 : decode cL_isWhole 730 = .ok (.iload 4, 2) := by decide +kernel
theorem dL_isWhole_732 : decode cL_isWhole 732 = .ok (.bipush 16, 2) := by decide +kernel
theorem dL_isWhole_734 : decode cL_isWhole 734 = .ok (.if_icmp .gt 7, 3) := by decide +kernel
theorem dL_isWhole_737 : decode cL_isWhole 737 = .ok (.iconst 1, 1) := by decide +kernel
theorem dL_isWhole_738 : decode cL_isWhole 738 = .ok (.goto 4, 3) := by decide +kernel
theorem dL_isWhole_741 : decode cL_isWhole 741 = .ok (.iconst 0, 1) := by decide +kernel
theorem dL_isWhole_742 : decode cL_isWhole 742 = .ok (.istore 14, 2) := by decide +kernel
theorem dL_isWhole_744 : decode cL_isWhole 744 = .ok (.iload 11, 2) := by decide +kernel
theorem dL_isWhole_746 : decode cL_isWhole 746 = .ok (.ifCond .eq 46, 3) := by decide +kernel
theorem dL_isWhole_749 : decode cL_isWhole 749 = .ok (.iload 12, 2) := by decide +kernel
theorem dL_isWhole_751 : decode cL_isWhole 751 = .ok (.ifCond .eq 41, 3) := by decide +kernel
theorem dL_isWhole_754 : decode cL_isWhole 754 = .ok (.iload 13, 2) := by decide +kernel
theorem dL_isWhole_756 : decode cL_isWhole 756 = .ok (.ifCond .eq 36, 3) := by decide +kernel
theorem dL_isWhole_759 : decode cL_isWhole 759 = .ok (.iload 14, 2) := by decide +kernel
theorem dL_isWhole_761 : decode cL_isWhole 761 = .ok (.ifCond .eq 31, 3) := by decide +kernel
theorem dL_isWhole_764 : decode cL_isWhole 764 = .ok (.aload_n 0, 1) := by decide +kernel
theorem dL_isWhole_765 : decode cL_isWhole 765 = .ok (.aload_n 0, 1) := by decide +kernel
theorem dL_isWhole_766 : decode cL_isWhole 766 = .ok (.invokevirtual 231, 3) := by decide +kernel
theorem dL_isWhole_769 : decode cL_isWhole 769 = .ok (.invokestatic 338, 3) := by decide +kernel
theorem dL_isWhole_772 : decode cL_isWhole 772 = .ok (.bipush (-75), 2) := by decide +kernel
theorem dL_isWhole_774 : decode cL_isWhole 774 = .ok (.if_icmp .ne 18, 3) := by decide +kernel
theorem dL_isWhole_777 : decode cL_isWhole 777 = .ok (.iload_n 3, 1) := by decide +kernel
theorem dL_isWhole_778 : decode cL_isWhole 778 = .ok (.ifCond .eq 10, 3) := by decide +kernel
theorem dL_isWhole_781 : decode cL_isWhole 781 = .ok (.aload_n 0, 1) := by decide +kernel
theorem dL_isWhole_782 : decode cL_isWhole 782 = .ok (.invokevirtual 369, 3) := by decide +kernel
theorem dL_isWhole_785 : decode cL_isWhole 785 = .ok (.ifCond .eq 7, 3) := by decide +kernel
theorem dL_isWhole_788 : decode cL_isWhole 788 = .ok (.iconst 1, 1) := by decide +kernel
theorem dL_isWhole_789 : decode cL_isWhole 789 = .ok (.goto 4, 3) := by decide +kernel
theorem dL_isWhole_792 : decode cL_isWhole 792 = .ok (.iconst 0, 1) := by decide +kernel
theorem dL_isWhole_793 : decode cL_isWhole 793 = .ok (.ireturn, 1) := by decide +kernel
theorem dL_isKept_0 : decode cL_isKept 0 = .ok (.aload_n 0, 1) := by decide +kernel
theorem dL_isKept_1 : decode cL_isKept 1 = .ok (.invokevirtual 373, 3) := by decide +kernel
theorem dL_isKept_4 : decode cL_isKept 4 = .ok (.istore_n 3, 1) := by decide +kernel
theorem dL_isKept_5 : decode cL_isKept 5 = .ok (.bipush 8, 2) := by decide +kernel
theorem dL_isKept_7 : decode cL_isKept 7 = .ok (.iload_n 2, 1) := by decide +kernel
theorem dL_isKept_8 : decode cL_isKept 8 = .ok (.invokestatic 376, 3) := by decide +kernel
theorem dL_isKept_11 : decode cL_isKept 11 = .ok (.istore 4, 2) := by decide +kernel
theorem dL_isKept_13 : decode cL_isKept 13 = .ok (.iload_n 2, 1) := by decide +kernel
theorem dL_isKept_14 : decode cL_isKept 14 = .ok (.iconst 1, 1) := by decide +kernel
theorem dL_isKept_15 : decode cL_isKept 15 = .ok (.isub, 1) := by decide +kernel
theorem dL_isKept_16 : decode cL_isKept 16 = .ok (.istore 5, 2) := by decide +kernel
theorem dL_isKept_18 : decode cL_isKept 18 = .ok (.iload 4, 2) := by decide +kernel
theorem dL_isKept_20 : decode cL_isKept 20 = .ok (.ifCond .le 35, 3) := by decide +kernel
theorem dL_isKept_23 : decode cL_isKept 23 = .ok (.iinc 4 (-1), 3) := by decide +kernel
theorem dL_isKept_26 : decode cL_isKept 26 = .ok (.aload_n 0, 1) := by decide +kernel
theorem dL_isKept_27 : decode cL_isKept 27 = .ok (.invokestatic 381, 3) := by decide +kernel
theorem dL_isKept_30 : decode cL_isKept 30 = .ok (.iload 4, 2) := by decide +kernel
theorem dL_isKept_32 : decode cL_isKept 32 = .ok (.if_icmp .ne 15, 3) := by decide +kernel
theorem dL_isKept_35 : decode cL_isKept 35 = .ok (.aload_n 0, 1) := by decide +kernel
theorem dL_isKept_36 : decode cL_isKept 36 = .ok (.invokestatic 185, 3) := by decide +kernel
theorem dL_isKept_39 : decode cL_isKept 39 = .ok (.aload_n 1, 1) := by decide +kernel
theorem dL_isKept_40 : decode cL_isKept 40 = .ok (.iload 5, 2) := by decide +kernel
theorem dL_isKept_42 : decode cL_isKept 42 = .ok (.laload, 1) := by decide +kernel
theorem dL_isKept_43 : decode cL_isKept 43 = .ok (.lcmp, 1) := by decide +kernel
theorem dL_isKept_44 : decode cL_isKept 44 = .ok (.ifCond .eq 5, 3) := by decide +kernel
theorem dL_isKept_47 : decode cL_isKept 47 = .ok (.iconst 0, 1) := by decide +kernel
theorem dL_isKept_48 : decode cL_isKept 48 = .ok (.ireturn, 1) := by decide +kernel
theorem dL_isKept_49 : decode cL_isKept 49 = .ok (.iinc 5 (-1), 3) := by decide +kernel
theorem dL_isKept_52 : decode cL_isKept 52 = .ok (.goto (-34), 3) := by decide +kernel
theorem dL_isKept_55 : decode cL_isKept 55 = .ok (.aload_n 0, 1) := by decide +kernel
theorem dL_isKept_56 : decode cL_isKept 56 = .ok (.invokestatic 381, 3) := by decide +kernel
theorem dL_isKept_59 : decode cL_isKept 59 = .ok (.bipush (-75), 2) := by decide +kernel
theorem dL_isKept_61 : decode cL_isKept 61 = .ok (.if_icmp .ne 35, 3) := by decide +kernel
theorem dL_isKept_64 : decode cL_isKept 64 = .ok (.aload_n 0, 1) := by decide +kernel
theorem dL_isKept_65 : decode cL_isKept 65 = .ok (.invokestatic 383, 3) := by decide +kernel
theorem dL_isKept_68 : decode cL_isKept 68 = .ok (.iload_n 3, 1) := by decide +kernel
theorem dL_isKept_69 : decode cL_isKept 69 = .ok (.if_icmp .ne 27, 3) := by decide +kernel
theorem dL_isKept_72 : decode cL_isKept 72 = .ok (.aload_n 0, 1) := by decide +kernel
theorem dL_isKept_73 : decode cL_isKept 73 = .ok (.invokestatic 185, 3) := by decide +kernel
theorem dL_isKept_76 : decode cL_isKept 76 = .ok (.aload_n 1, 1) := by decide +kernel
theorem dL_isKept_77 : decode cL_isKept 77 = .ok (.iload_n 2, 1) := by decide +kernel
theorem dL_isKept_78 : decode cL_isKept 78 = .ok (.laload, 1) := by decide +kernel
theorem dL_isKept_79 : decode cL_isKept 79 = .ok (.lcmp, 1) := by decide +kernel
theorem dL_isKept_80 : decode cL_isKept 80 = .ok (.ifCond .ne 16, 3) := by decide +kernel
theorem dL_isKept_83 : decode cL_isKept 83 = .ok (.aload_n 0, 1) := by decide +kernel
theorem dL_isKept_84 : decode cL_isKept 84 = .ok (.invokestatic 381, 3) := by decide +kernel
theorem dL_isKept_87 : decode cL_isKept 87 = .ok (.bipush (-75), 2) := by decide +kernel
theorem dL_isKept_89 : decode cL_isKept 89 = .ok (.if_icmp .ne 7, 3) := by decide +kernel
theorem dL_isKept_92 : decode cL_isKept 92 = .ok (.iconst 1, 1) := by decide +kernel
theorem dL_isKept_93 : decode cL_isKept 93 = .ok (.goto 4, 3) := by decide +kernel
theorem dL_isKept_96 : decode cL_isKept 96 = .ok (.iconst 0, 1) := by decide +kernel
theorem dL_isKept_97 : decode cL_isKept 97 = .ok (.ireturn, 1) := by decide +kernel
end
section
/-! MEMORY AS PLAIN FUNCTIONS: what the cells of the claim's own objects and arrays hold. mK: an address's kind (0: not ours; ci+1: an object of class ci of mmCl; 32+j: an array of type j of gTy), mN an array's length, mI/mR a field's number/reference (field F = 32*ci+slot), mA/mB/mL/mD an array's entries. -/
abbrev mmT : Type := (Nat → Nat) × (Nat → Nat) × (Nat → Nat → Int32) × (Nat → Nat → Option Nat) × (Nat → Nat → Int32) × (Nat → Nat → Option Nat) × (Nat → Nat → Int64) × (Nat → Nat → UInt64)
def mK (μ : mmT) : Nat → Nat := μ.1
def mN (μ : mmT) : Nat → Nat := μ.2.1
def mI (μ : mmT) : Nat → Nat → Int32 := μ.2.2.1
def mR (μ : mmT) : Nat → Nat → Option Nat := μ.2.2.2.1
def mA (μ : mmT) : Nat → Nat → Int32 := μ.2.2.2.2.1
def mB (μ : mmT) : Nat → Nat → Option Nat := μ.2.2.2.2.2.1
def mL (μ : mmT) : Nat → Nat → Int64 := μ.2.2.2.2.2.2.1
def mD (μ : mmT) : Nat → Nat → UInt64 := μ.2.2.2.2.2.2.2
def u2 {α : Type} (f : Nat → Nat → α) (F a : Nat) (v : α) : Nat → Nat → α := fun G b => if G = F ∧ b = a then v else f G b
def sI (μ : mmT) (F a : Nat) (v : Int32) : mmT := (mK μ, mN μ, u2 (mI μ) F a v, mR μ, mA μ, mB μ, mL μ, mD μ)
def sR (μ : mmT) (F a : Nat) (v : Option Nat) : mmT := (mK μ, mN μ, mI μ, u2 (mR μ) F a v, mA μ, mB μ, mL μ, mD μ)
def sA (μ : mmT) (a i : Nat) (v : Int32) : mmT := (mK μ, mN μ, mI μ, mR μ, u2 (mA μ) a i v, mB μ, mL μ, mD μ)
def sB (μ : mmT) (a i : Nat) (v : Option Nat) : mmT := (mK μ, mN μ, mI μ, mR μ, mA μ, u2 (mB μ) a i v, mL μ, mD μ)
def sL (μ : mmT) (a i : Nat) (v : Int64) : mmT := (mK μ, mN μ, mI μ, mR μ, mA μ, mB μ, u2 (mL μ) a i v, mD μ)
def sD (μ : mmT) (a i : Nat) (v : UInt64) : mmT := (mK μ, mN μ, mI μ, mR μ, mA μ, mB μ, mL μ, u2 (mD μ) a i v)
/-- System.arraycopy of ints -/
def sC (μ : mmT) (src sp dst dp n : Nat) : mmT := (mK μ, mN μ, mI μ, mR μ, fun a k => if a = dst ∧ dp ≤ k ∧ k < dp + n then mA μ src (sp + (k - dp)) else mA μ a k, mB μ, mL μ, mD μ)
/-- a new object, a new array -/
def nO (μ : mmT) (a ci : Nat) : mmT := (fun b => if b = a then ci + 1 else mK μ b, mN μ, fun F b => if b = a then 0 else mI μ F b, fun F b => if b = a then none else mR μ F b, mA μ, mB μ, mL μ, mD μ)
def nA (μ : mmT) (a j n : Nat) : mmT := (fun b => if b = a then j + 32 else mK μ b, fun b => if b = a then n else mN μ b, mI μ, mR μ, fun b i => if b = a then 0 else mA μ b i, fun b i => if b = a then none else mB μ b i, fun b i => if b = a then 0 else mL μ b i, fun b i => if b = a then 0 else mD μ b i)
/-- the words that a method's walk may use, and hand on (TT); a private method of the class above, on an object of the class below: 'selects' isn't in the tables, but follows from them -/
def xtraW : List Cond := [Cond.selects RJ4 yJ5_ensureCapacityInternal_d00df yJ5_ensureCapacityInternal_d00df, Cond.selects RJ4 yJ5_putStringAt_47b60 yJ5_putStringAt_47b60, Cond.selects RJ4 yJ5_inflateIfNeededFor_a7421 yJ5_inflateIfNeededFor_a7421]
def TT : List Cond := (xtraW ++ lw_tbl).filter goodWord
theorem TT_x {i : Nat} {w : Cond} (h : xtraW[i]? = some w) (g : goodWord w = true) : w ∈ TT := List.mem_filter.mpr ⟨List.mem_append_left _ (List.mem_of_getElem? h), g⟩
theorem TT_t {i : Nat} {w : Cond} (h : tables_1[i]? = some w) (g : goodWord w = true) : w ∈ TT := List.mem_filter.mpr ⟨List.mem_append_right _ (List.mem_append_right _ (List.mem_of_getElem? h)), g⟩
theorem TT_s {i : Nat} {w : Cond} (h : (k2_sels lw_privs)[i]? = some w) (g : goodWord w = true) : w ∈ TT := List.mem_filter.mpr ⟨List.mem_append_right _ (List.mem_append_left _ (List.mem_of_getElem? h)), g⟩
theorem TT_ok {w : Cond} (h : w ∈ TT) : (w.onTables && w.keeps) = true ∨ ∃ ty, w = .arrayClass ty := good_of_word (List.mem_filter.mp h).2
theorem TT_all {c : Cond} {ws : List Cond} (h : ∀ w ∈ ws, w ∈ TT) : GoodIn (c :: TT) ws := fun w hw => ⟨List.mem_cons_of_mem _ (h w hw), TT_ok (h w hw)⟩
abbrev mmCl : List vw_C := [(RJ4, TJ4, 4), (RX1, TX1, 3), (RX2, TX2, 3), (RX4, TX4, 3), (RX5, TX5, 6), (RX6, TX6, 7), (RX7, TX7, 9), (RX8, TX8, 9), (RX9, TX9, 7), (RX10, TX10, 10), (RJ0, TJ0, 4)]
/-- which fields hold references -/
def mmRf : Nat → Nat → Bool := fun ci k => match ci, k with
  | 0, 0 => true
  | 1, 0 => true
  | 3, 0 => true
  | 5, 0 => true
  | 5, 1 => true
  | 6, 0 => true
  | 6, 1 => true
  | 7, 0 => true
  | 7, 1 => true
  | 7, 2 => true
  | 7, 3 => true
  | 9, 0 => true
  | 9, 1 => true
  | 9, 2 => true
  | 9, 3 => true
  | 9, 4 => true
  | 9, 5 => true
  | 9, 6 => true
  | 10, 0 => true
  | _, _ => false
/-- what a field, an array's entry holds -/
def mmV (μ : mmT) (ci a : Nat) : Nat → Value := fun k => if mmRf ci k = true then va_rf (mR μ (32 * ci + k) a) else .int (mI μ (32 * ci + k) a)
def mmE (μ : mmT) (j a : Nat) : Nat → Value := fun i => match j with
  | 0 => .int (mA μ a i)
  | 1 => .int (mA μ a i)
  | 2 => .int (mA μ a i)
  | 3 => .long (mL μ a i)
  | 4 => .double (mD μ a i)
  | _ => va_rf (mB μ a i)
def mmTy : Nat → FieldType := fun j => match j with
  | 0 => .byte
  | 1 => .char
  | 2 => .int
  | 3 => .long
  | 4 => .long
  | 5 => .object RX1
  | 6 => .object RX2
  | 7 => .object RX5
  | 8 => .object RX6
  | _ => .object RX8
/-- the given things: classes' numbers and slots, array classes' numbers, the first address that is ours, the addresses of the texts, of their bytes, of the enum's constants, of static arrays -/
abbrev mgT : Type := va_G × (Nat → ClassId) × Nat × (Nat → Nat) × (Nat → Nat) × (Nat → Nat) × (Nat → Nat) × (Nat → Int32)
def gD (G : mgT) : va_G := G.1
def gC (G : mgT) : Nat → ClassId := G.2.1
def gh (G : mgT) : Nat := G.2.2.1
def gS (G : mgT) : Nat → Nat := G.2.2.2.1
def gV (G : mgT) : Nat → Nat := G.2.2.2.2.1
def gE (G : mgT) : Nat → Nat := G.2.2.2.2.2.1
def gX (G : mgT) : Nat → Nat := G.2.2.2.2.2.2.1
/-- the script's ints (its address: gX 5, its length: gX 6) -/
def gQ (G : mgT) : Nat → Int32 := G.2.2.2.2.2.2.2
/-- a static of the JDK that may be null: it is only carried -/
def gF (G : mgT) : Option Nat := if gX G 4 = 0 then none else some (gX G 4 - 1)
def Ah (G : mgT) : Nat → Prop := fun q => gh G ≤ q
def gTy (G : mgT) : List (ClassId × FieldType) := (List.range 10).map (fun j => (gC G j, mmTy j))
theorem gTy_at {G : mgT} {j : Nat} (h : j < 10) : (gTy G)[j]? = some (gC G j, mmTy j) := by
  unfold gTy
  rw [List.getElem?_map, List.getElem?_range h]
  rfl
def mmOk (G : mgT) (μ : mmT) (H : Heap) (a : Nat) : Prop :=
  (∀ ci, mK μ a = ci + 1 → ci < 31 → ∃ r, mmCl[ci]? = some r ∧ t_OB a ((gD G).1 ci) r.2.2 ((gD G).2 ci) H (mmV μ ci a)) ∧
  (∀ j, mK μ a = j + 32 → j < 10 ∧ H[a]? = some (arrV (gC G j) (mN μ a) (mmE μ j a)))
def Mm (G : mgT) (μ : mmT) (H : Heap) : Prop := ∀ a, mK μ a ≠ 0 → gh G ≤ a ∧ a < H.size ∧ mmOk G μ H a
/-! the words that the tables alone decide and that a call doesn't hand on by itself -/
def isOt : Cond → Bool
  | .declares _ => true
  | .castable _ _ => true
  | .methodLinkNest _ _ _ _ => true
  | .fieldLinkNest _ _ _ _ _ _ => true
  | _ => false
theorem isOt_moved {w : Cond} (h : isOt w = true) {s U : State} (hW : s.WarmedH U.vm) (hZ : va_Nw w s) : va_Nw w U := by
  cases w with
  | declares x => exact va_Nw.warmD hW hZ
  | castable a b => exact va_tabs rfl (rfl : (s.setVm U.vm).vm = U.vm) (by rw [Cond.castable_setVm hW.alike]; exact hZ)
  | methodLinkNest a i x h => exact va_Nw.warmM hW hZ
  | fieldLinkNest a i b n d h => exact va_Nw.warmF hW hZ
  | _ => cases h
theorem isOt_same {w : Cond} (h : isOt w = true) {u U : State} (hv : u.vm = U.vm) (hZ : va_Nw w u) : va_Nw w U := by
  cases w with
  | declares x => exact va_Nw.same rfl hv hZ
  | castable a b => exact va_Nw.same rfl hv hZ
  | methodLinkNest a i x h => exact va_Nw.same rfl hv hZ
  | fieldLinkNest a i b n d h => exact va_Nw.same rfl hv hZ
  | _ => cases h
/-- the texts: own class, pool number, the text -/
def gStr : List (String × Nat × String) := [("CrowMail", 134, "there is no such position"), ("CrowMail", 110, "there is no such message"), ("CrowMail", 212, "the message is not napping"), ("CrowMail", 235, "the message is delivered now"), ("CrowMail", 240, "the message would not be delivered within 100 minutes"), ("CrowMail", 93, "the argument is out of its range"), ("CrowMail", 100, "the state does not allow this change"), ("CrowMail", 105, "there is no such nest"), ("CrowMailLaw", 254, "wait "), ("CrowMailLaw", 263, ";send "), ("CrowMailLaw", 265, " "), ("java/util/Arrays", 337, " > "), ("CrowMailLaw", 271, ";drop "), ("CrowMailLaw", 273, ";read "), ("CrowMailLaw", 275, ";"), ("CrowMail", 337, "character codes are 32 to 126"), ("CrowMail", 341, "the script buffer is full"), ("CrowMail", 351, "the script does not have the form"), ("CrowMail", 364, "a command of the script failed"), ("CrowMail", 181, "there is no such crow"), ("CrowMail", 167, "the crow is free"), ("CrowMail", 150, "there is no such rank"), ("CrowMail", 226, "attempts are 0 to 40"), ("CrowMail", 220, "the message is delivered"), ("CrowMail", 277, "there are no messages"), ("CrowMail", 288, "there were no arrivals"), ("CrowMail", 373, "there is nothing to undo"), ("CrowMail", 378, "there is no snapshot"), ("CrowMail$Form", 79, "wait"), ("CrowMail$Form", 55, "nest # #"), ("CrowMail$Form", 61, "crow"), ("CrowMail$Form", 64, "send # %"), ("CrowMail$Form", 67, "read #"), ("CrowMail$Form", 70, "drop %"), ("CrowMail$Form", 73, "wind #"), ("CrowMail$Form", 76, "forget #"), ("CrowMail$Form", 82, "wait %")]
def gLen : List Nat := [25, 24, 26, 28, 53, 32, 36, 21, 5, 6, 1, 3, 6, 6, 1, 29, 25, 33, 30, 21, 16, 21, 20, 24, 21, 22, 24, 20, 4, 8, 4, 8, 6, 6, 6, 8, 6]
def gByt : List (List Int32) := [[116, 104, 101, 114, 101, 32, 105, 115, 32, 110, 111, 32, 115, 117, 99, 104, 32, 112, 111, 115, 105, 116, 105, 111, 110], [116, 104, 101, 114, 101, 32, 105, 115, 32, 110, 111, 32, 115, 117, 99, 104, 32, 109, 101, 115, 115, 97, 103, 101], [116, 104, 101, 32, 109, 101, 115, 115, 97, 103, 101, 32, 105, 115, 32, 110, 111, 116, 32, 110, 97, 112, 112, 105, 110, 103], [116, 104, 101, 32, 109, 101, 115, 115, 97, 103, 101, 32, 105, 115, 32, 100, 101, 108, 105, 118, 101, 114, 101, 100, 32, 110, 111, 119], [116, 104, 101, 32, 109, 101, 115, 115, 97, 103, 101, 32, 119, 111, 117, 108, 100, 32, 110, 111, 116, 32, 98, 101, 32, 100, 101, 108, 105, 118, 101, 114, 101, 100, 32, 119, 105, 116, 104, 105, 110, 32, 49, 48, 48, 32, 109, 105, 110, 117, 116, 101, 115], [116, 104, 101, 32, 97, 114, 103, 117, 109, 101, 110, 116, 32, 105, 115, 32, 111, 117, 116, 32, 111, 102, 32, 105, 116, 115, 32, 114, 97, 110, 103, 101], [116, 104, 101, 32, 115, 116, 97, 116, 101, 32, 100, 111, 101, 115, 32, 110, 111, 116, 32, 97, 108, 108, 111, 119, 32, 116, 104, 105, 115, 32, 99, 104, 97, 110, 103, 101], [116, 104, 101, 114, 101, 32, 105, 115, 32, 110, 111, 32, 115, 117, 99, 104, 32, 110, 101, 115, 116], [119, 97, 105, 116, 32], [59, 115, 101, 110, 100, 32], [32], [32, 62, 32], [59, 100, 114, 111, 112, 32], [59, 114, 101, 97, 100, 32], [59], [99, 104, 97, 114, 97, 99, 116, 101, 114, 32, 99, 111, 100, 101, 115, 32, 97, 114, 101, 32, 51, 50, 32, 116, 111, 32, 49, 50, 54], [116, 104, 101, 32, 115, 99, 114, 105, 112, 116, 32, 98, 117, 102, 102, 101, 114, 32, 105, 115, 32, 102, 117, 108, 108], [116, 104, 101, 32, 115, 99, 114, 105, 112, 116, 32, 100, 111, 101, 115, 32, 110, 111, 116, 32, 104, 97, 118, 101, 32, 116, 104, 101, 32, 102, 111, 114, 109], [97, 32, 99, 111, 109, 109, 97, 110, 100, 32, 111, 102, 32, 116, 104, 101, 32, 115, 99, 114, 105, 112, 116, 32, 102, 97, 105, 108, 101, 100], [116, 104, 101, 114, 101, 32, 105, 115, 32, 110, 111, 32, 115, 117, 99, 104, 32, 99, 114, 111, 119], [116, 104, 101, 32, 99, 114, 111, 119, 32, 105, 115, 32, 102, 114, 101, 101], [116, 104, 101, 114, 101, 32, 105, 115, 32, 110, 111, 32, 115, 117, 99, 104, 32, 114, 97, 110, 107], [97, 116, 116, 101, 109, 112, 116, 115, 32, 97, 114, 101, 32, 48, 32, 116, 111, 32, 52, 48], [116, 104, 101, 32, 109, 101, 115, 115, 97, 103, 101, 32, 105, 115, 32, 100, 101, 108, 105, 118, 101, 114, 101, 100], [116, 104, 101, 114, 101, 32, 97, 114, 101, 32, 110, 111, 32, 109, 101, 115, 115, 97, 103, 101, 115], [116, 104, 101, 114, 101, 32, 119, 101, 114, 101, 32, 110, 111, 32, 97, 114, 114, 105, 118, 97, 108, 115], [116, 104, 101, 114, 101, 32, 105, 115, 32, 110, 111, 116, 104, 105, 110, 103, 32, 116, 111, 32, 117, 110, 100, 111], [116, 104, 101, 114, 101, 32, 105, 115, 32, 110, 111, 32, 115, 110, 97, 112, 115, 104, 111, 116], [119, 97, 105, 116], [110, 101, 115, 116, 32, 35, 32, 35], [99, 114, 111, 119], [115, 101, 110, 100, 32, 35, 32, 37], [114, 101, 97, 100, 32, 35], [100, 114, 111, 112, 32, 37], [119, 105, 110, 100, 32, 35], [102, 111, 114, 103, 101, 116, 32, 35], [119, 97, 105, 116, 32, 37]]
def gNm : List String := ["NEST", "CROW", "SEND", "READ", "DROP", "WIND", "FORGET", "WAIT", "WAIT_LONG"]
def gOrd : List Int32 := [0, 1, 2, 3, 4, 5, 6, 7, 8]
/-- the text of an enum constant's pattern, by its place in gStr -/
def gPat (i : Nat) : Nat := ([29, 30, 31, 32, 33, 34, 35, 28, 36] : List Nat).getD i 0
def gSw (i : Nat) : Int32 := ([1, 2, 3, 4, 5, 6, 7, 0, 8] : List Int32).getD i 0
def gOne (i : Nat) : Int32 := ([48, 49, 50, 51, 52, 53, 54, 55, 56, 57, 48, 49, 50, 51, 52, 53, 54, 55, 56, 57, 48, 49, 50, 51, 52, 53, 54, 55, 56, 57, 48, 49, 50, 51, 52, 53, 54, 55, 56, 57, 48, 49, 50, 51, 52, 53, 54, 55, 56, 57, 48, 49, 50, 51, 52, 53, 54, 55, 56, 57, 48, 49, 50, 51, 52, 53, 54, 55, 56, 57, 48, 49, 50, 51, 52, 53, 54, 55, 56, 57, 48, 49, 50, 51, 52, 53, 54, 55, 56, 57, 48, 49, 50, 51, 52, 53, 54, 55, 56, 57] : List Int32).getD i 0
def gTen (i : Nat) : Int32 := ([48, 48, 48, 48, 48, 48, 48, 48, 48, 48, 49, 49, 49, 49, 49, 49, 49, 49, 49, 49, 50, 50, 50, 50, 50, 50, 50, 50, 50, 50, 51, 51, 51, 51, 51, 51, 51, 51, 51, 51, 52, 52, 52, 52, 52, 52, 52, 52, 52, 52, 53, 53, 53, 53, 53, 53, 53, 53, 53, 53, 54, 54, 54, 54, 54, 54, 54, 54, 54, 54, 55, 55, 55, 55, 55, 55, 55, 55, 55, 55, 56, 56, 56, 56, 56, 56, 56, 56, 56, 56, 57, 57, 57, 57, 57, 57, 57, 57, 57, 57] : List Int32).getD i 0
def gNc : List (String × String) := [("java/lang/IndexOutOfBoundsException", "java/util/NoSuchElementException"), ("java/lang/IllegalStateException", "java/util/NoSuchElementException"), ("java/lang/IllegalArgumentException", "java/util/NoSuchElementException"), ("java/lang/ArithmeticException", "java/util/NoSuchElementException"), ("java/lang/IndexOutOfBoundsException", "java/lang/IllegalStateException"), ("java/util/NoSuchElementException", "java/lang/IllegalStateException"), ("java/lang/IllegalArgumentException", "java/lang/IllegalStateException"), ("java/lang/ArithmeticException", "java/lang/IllegalStateException"), ("java/lang/IndexOutOfBoundsException", "java/lang/IllegalArgumentException"), ("java/util/NoSuchElementException", "java/lang/IllegalArgumentException"), ("java/lang/IllegalStateException", "java/lang/IllegalArgumentException"), ("java/lang/ArithmeticException", "java/lang/IllegalArgumentException"), ("java/util/NoSuchElementException", "java/lang/IndexOutOfBoundsException"), ("java/lang/IllegalStateException", "java/lang/IndexOutOfBoundsException"), ("java/lang/IllegalArgumentException", "java/lang/IndexOutOfBoundsException"), ("java/lang/ArithmeticException", "java/lang/IndexOutOfBoundsException"), ("java/lang/IndexOutOfBoundsException", "java/lang/ArithmeticException"), ("java/util/NoSuchElementException", "java/lang/ArithmeticException"), ("java/lang/IllegalStateException", "java/lang/ArithmeticException"), ("java/lang/IllegalArgumentException", "java/lang/ArithmeticException")]
/-- a text of the class files: its object, its bytes -/
def mzS (G : mgT) (i : Nat) (U : State) (H : Heap) : Prop := va_O "java/lang/String" (gS G i) (Ah G) U H ∧ va_OF "java/lang/String" "coder" "B" (.int 0) (gS G i) (Ah G) U H ∧ va_OF "java/lang/String" "value" "[B" (.ref (gV G i)) (gS G i) (Ah G) U H ∧ va_T .byte (gV G i) (gLen.getD i 0) (fun j => .int ((gByt.getD i []).getD j 0)) (Ah G) U H
theorem mzS.moved {G : mgT} {i : Nat} {u U : State} {H : Heap} (hvm : u.vm.Alike U.vm) (h : mzS G i u H) : mzS G i U H := ⟨h.1.moved hvm, h.2.1.moved hvm, h.2.2.1.moved hvm, h.2.2.2.moved hvm⟩
theorem mzS.kept {G : mgT} {i : Nat} {U : State} {H H1 : Heap} (h : mzS G i U H) (hq : ∀ a : Nat, a < H.size → ¬ Ah G a → H1[a]? = H[a]?) : mzS G i U H1 := ⟨h.1.kept hq, h.2.1.kept hq, h.2.2.1.kept hq, h.2.2.2.kept hq⟩
/-- what the Statement gives of the start, and every call keeps: classes, array classes, links, texts, the enum and its tables -/
def GK (G : mgT) (U : State) (H : Heap) : Prop :=
  va_K (gD G) mmCl (gTy G) U ∧
  (∀ w ∈ tables_1, isOt w = true → va_Nw w U) ∧
  (∀ j, 5 ≤ j → j < 10 → ∀ C, mmTy j = .object C → va_AO C U) ∧
  (∀ q ∈ gNc, va_Nc q.1 q.2 U) ∧
  (vx_Zq Bundle.tN "UNASSIGNED_STACK" Bundle.steD (Ah G) U H ∧ vx_Zq Bundle.tN "SUPPRESSED_SENTINEL" Bundle.listD (Ah G) U H) ∧
  (∀ j q, gStr[j]? = some q → vk_R q.1 q.2.1 q.2.2 (gS G j) U) ∧
  (∀ i : Nat, i < 37 → mzS G i U H) ∧
  (va_En "CrowMail$Form" "LCrowMail$Form;" gNm [("java/lang/Enum", "ordinal", "I", gOrd)] (gE G) (Ah G) U H ∧ va_Ef 9 "CrowMail$Form" "pattern" "Ljava/lang/String;" (fun i => .ref (gS G (gPat i))) (gE G) (Ah G) U H) ∧
  (va_Z "CrowMail" "FORMS" "[LCrowMail$Form;" (.ref (gX G 0)) (Ah G) U H ∧ va_T (.object "CrowMail$Form") (gX G 0) 9 (fun i => .ref (gE G i)) (Ah G) U H) ∧
  (va_Z "CrowMail$1" "$SwitchMap$CrowMail$Form" "[I" (.ref (gX G 1)) (Ah G) U H ∧ va_T .int (gX G 1) 9 (fun i => .int (gSw i)) (Ah G) U H) ∧
  va_Z "java/lang/String" "COMPACT_STRINGS" "Z" (.int 1) (Ah G) U H ∧
  (va_Z "java/lang/Integer" "DigitOnes" "[B" (.ref (gX G 2)) (Ah G) U H ∧ va_T .byte (gX G 2) 100 (fun i => .int (gOne i)) (Ah G) U H) ∧
  (va_Z "java/lang/Integer" "DigitTens" "[B" (.ref (gX G 3)) (Ah G) U H ∧ va_T .byte (gX G 3) 100 (fun i => .int (gTen i)) (Ah G) U H) ∧
  va_Z "jdk/internal/util/Preconditions" "SIOOBE_FORMATTER" "Ljava/util/function/BiFunction;" (va_rf (gF G)) (Ah G) U H ∧
  (va_T .int (gX G 5) (gX G 6) (fun i => .int (gQ G i)) (Ah G) U H ∧ gh G ≤ H.size)
theorem GK.at {G : mgT} {s U : State} {H0 H : Heap} (h : GK G s H0) (hz : H0.size ≤ H.size) (hq : ∀ a : Nat, a < H0.size → ¬ Ah G a → H[a]? = H0[a]?) (hW : s.WarmedH U.vm) : GK G U H := by
  obtain ⟨a1, a2, a3, a4, ⟨a5, a6⟩, a7, a8, ⟨a9, a10⟩, ⟨b1, b2⟩, ⟨b3, b4⟩, b5, ⟨b6, b7⟩, ⟨b8, b9⟩, c1, c2, c3⟩ := h
  have m := hW.alike
  exact ⟨va_K.moved m a1, fun w hw ho => isOt_moved ho hW (a2 w hw ho), fun j h1 h2 C hC => va_AO.moved m (a3 j h1 h2 C hC), fun q hq => va_Nc.moved m (a4 q hq), ⟨(a5.kept hq).moved m, (a6.kept hq).moved m⟩, fun j q hj => vk_R.warm hW (a7 j q hj),
    fun i hi => ((a8 i hi).kept hq).moved m, ⟨(a9.kept hq).moved m, (a10.kept hq).moved m⟩, ⟨(b1.kept hq).moved m, (b2.kept hq).moved m⟩, ⟨(b3.kept hq).moved m, (b4.kept hq).moved m⟩, (b5.kept hq).moved m, ⟨(b6.kept hq).moved m, (b7.kept hq).moved m⟩, ⟨(b8.kept hq).moved m, (b9.kept hq).moved m⟩, (c1.kept hq).moved m, (c2.kept hq).moved m, Nat.le_trans c3 hz⟩
theorem GK.same {G : mgT} {u U : State} {H : Heap} (h : GK G u H) (hv : u.vm = U.vm) : GK G U H := by
  obtain ⟨a1, a2, a3, a4, ⟨a5, a6⟩, a7, a8, ⟨a9, a10⟩, ⟨b1, b2⟩, ⟨b3, b4⟩, b5, ⟨b6, b7⟩, ⟨b8, b9⟩, c1, c2, c3⟩ := h
  have m : u.vm.Alike U.vm := by rw [hv]; exact Vm.Alike.refl _
  exact ⟨va_K.moved m a1, fun w hw ho => isOt_same ho hv (a2 w hw ho), fun j h1 h2 C hC => va_AO.moved m (a3 j h1 h2 C hC), fun q hq => va_Nc.moved m (a4 q hq), ⟨a5.moved m, a6.moved m⟩, fun j q hj => vk_R.same hv.symm (a7 j q hj),
    fun i hi => (a8 i hi).moved m, ⟨a9.moved m, a10.moved m⟩, ⟨b1.moved m, b2.moved m⟩, ⟨b3.moved m, b4.moved m⟩, b5.moved m, ⟨b6.moved m, b7.moved m⟩, ⟨b8.moved m, b9.moved m⟩, c1.moved m, c2.moved m, c3⟩
/-- a method's start and end, for every method alike -/
def mP (G : mgT) (av : List Value) (μ : mmT) : Array Value → State → Prop := va_Pc av (fun U => GK G U U.heap ∧ Mm G μ U.heap)
theorem mP_blind {G : mgT} {av : List Value} {μ : mmT} : FrameBlind (mP G av μ) := fun _ _ _ _ h => ⟨h.1, h.2.1.same rfl, h.2.2⟩
def mQ (G : mgT) (post : Option Value → mmT → Prop) : Array Value → State → Outcome → State → Prop := fun _ st oc t => (∃ (v : Option Value) (μ : mmT), oc = .returned v ∧ post v μ ∧ Mm G μ t.heap) ∧ va_F (Ah G) st t
def mX (G : mgT) (px : String → mmT → Prop) : String → State → State → Prop := fun E st t => ∃ μ : mmT, px E μ ∧ Mm G μ t.heap ∧ va_F (Ah G) st t
def pI (Q : Int32 → mmT → Prop) : Option Value → mmT → Prop := fun v μ => ∃ r : Int32, v = some (.int r) ∧ Q r μ
def pL (Q : Int64 → mmT → Prop) : Option Value → mmT → Prop := fun v μ => ∃ r : Int64, v = some (.long r) ∧ Q r μ
def pF (Q : UInt32 → mmT → Prop) : Option Value → mmT → Prop := fun v μ => ∃ r : UInt32, v = some (.float r) ∧ Q r μ
def pD (Q : UInt64 → mmT → Prop) : Option Value → mmT → Prop := fun v μ => ∃ r : UInt64, v = some (.double r) ∧ Q r μ
def pR (Q : Option Nat → mmT → Prop) : Option Value → mmT → Prop := fun v μ => ∃ r : Option Nat, v = some (va_rf r) ∧ Q r μ
def pV (Q : mmT → Prop) : Option Value → mmT → Prop := fun v μ => v = none ∧ Q μ
/-- a contract: MC returns, MX returns or throws, MZ a constructor that makes cells (z: the heap's size) -/
def MC (G : mgT) (l : Launch) (y : MethodName) (cc : ByteArray) (maxL : Nat) (ret : Option FieldType) (rm : Room) (av : List Value) (μ : mmT) (post : Option Value → mmT → Prop) : Prop :=
  Met l y (Cond.code y cc maxL ret :: TT) rm (mP G av μ) (mQ G post) rm.cells rm.slots (Ah G)
def MX (G : mgT) (l : Launch) (y : MethodName) (cc : ByteArray) (maxL : Nat) (ret : Option FieldType) (rm : Room) (av : List Value) (μ : mmT) (post : Option Value → mmT → Prop) (px : String → mmT → Prop) : Prop :=
  vx_Met l y (Cond.code y cc maxL ret :: TT) rm (mP G av μ) (mQ G post) (mX G px) rm.cells rm.slots (Ah G)
def mPz (G : mgT) (av : List Value) (μ : mmT) (z : Nat) : Array Value → State → Prop := va_Pc av (fun U => GK G U U.heap ∧ Mm G μ U.heap ∧ gh G ≤ z ∧ U.heap.size = z)
theorem mPz_blind {G : mgT} {av : List Value} {μ : mmT} {z : Nat} : FrameBlind (mPz G av μ z) := fun _ _ _ _ h => ⟨h.1, h.2.1.same rfl, h.2.2⟩
def mQz (G : mgT) (post : mmT → Nat → Prop) : Array Value → State → Outcome → State → Prop := fun _ st oc t => (∃ (μ : mmT) (z : Nat), oc = .returned none ∧ post μ z ∧ Mm G μ t.heap ∧ gh G ≤ z ∧ t.heap.size = z) ∧ va_F (Ah G) st t
def MZ (G : mgT) (l : Launch) (y : MethodName) (cc : ByteArray) (maxL : Nat) (rm : Room) (av : List Value) (μ : mmT) (z : Nat) (post : mmT → Nat → Prop) : Prop :=
  Met l y (Cond.code y cc maxL none :: TT) rm (mPz G av μ z) (mQz G post) rm.cells rm.slots (Ah G)
/-- facts of a class, of a field, of a method -/
def mzC (ci : Nat) (C : String) (T : u_T) (N : Nat) (ty : Nat → FieldType) : Prop :=
  ci < 31 ∧ mmCl[ci]? = some (C, T, N) ∧ (∀ w ∈ u_ws C T N, w ∈ TT) ∧ (∀ k, k < N → parseFieldDescriptor (T k).2.2.1 = some (ty k)) ∧ (∀ a, a < N → ∀ b, b < N → a ≠ b → (T a).2.1 ≠ (T b).2.1)
theorem mzC_ws {C : String} {T : u_T} {N : Nat} (h : ∀ k, k < N → u_lay C T k ∈ TT) : ∀ w ∈ u_ws C T N, w ∈ TT := by
  intro w hw
  obtain ⟨k, hk, rfl⟩ := List.mem_map.mp hw
  exact h k (List.mem_range.mp hk)
def mzF (F ci k : Nat) (T : u_T) (N : Nat) (r : Bool) (o n d : String) (fin : Bool) : Prop :=
  k < N ∧ F = 32 * ci + k ∧ mmRf ci k = r ∧ T k = (o, n, d, fin)
def mzY (y : MethodName) (cc : ByteArray) (maxL : Nat) (ret : Option FieldType) (n : Nat) : Prop :=
  Cond.code y cc maxL ret ∈ TT ∧ Cond.initialized y.cls ∈ TT ∧ (y.cls ≠ "java/lang/invoke/MethodHandle" ∧ y.cls ≠ "java/lang/invoke/VarHandle") ∧ (parseMethodDescriptor y.desc).map (fun d => d.parameters.length) = some n
end
section
/-! ROWS OVER THE MEMORY -/
section MROWS
variable {p : Program} {l : Launch} {e : Env} {R : Room} {s : State} {m : MethodId} {args : Array Value} {below : List Frame} {meth : Method} {c : Code} {H : Heap} {locs : List Loc} {cells slots : Nat} {Q : State → Prop}
variable {cc : ByteArray} {pc : Nat} {ls : Array Slot} {rest st0 : List Value} {a nL : Nat} {own : String} {G : mgT} {μ : mmT}
theorem Mm.upd {μ' : mmT} {H' : Heap} (hM : Mm G μ H) (z : H'.size = H.size) (oq : ∀ q : Nat, q ≠ a → H'[q]? = H[q]?) (hK : mK μ' = mK μ) (hN : mN μ' = mN μ)
    (h1 : ∀ b, b ≠ a → ∀ ci, mmV μ' ci b = mmV μ ci b) (h2 : ∀ b, b ≠ a → ∀ j, mmE μ' j b = mmE μ j b) (h3 : mmOk G μ' H' a) : Mm G μ' H' := by
  intro b hb
  rw [hK] at hb
  obtain ⟨k1, k2, k3, k4⟩ := hM b hb
  refine ⟨k1, by rw [z]; exact k2, ?_⟩
  by_cases e : b = a
  · rw [e]; exact h3
  · refine ⟨fun ci h hc => ?_, fun j h => ?_⟩
    · rw [hK] at h
      obtain ⟨r, r1, r2⟩ := k3 ci h hc
      refine ⟨r, r1, ?_⟩
      rw [h1 b e ci]
      exact r2.kept (oq b e)
    · rw [hK] at h
      obtain ⟨r1, r2⟩ := k4 j h
      refine ⟨r1, ?_⟩
      rw [h2 b e j, hN, oq b e]
      exact r2
theorem mz_obj (hM : Mm G μ H) {ci N : Nat} {C : String} {T : u_T} {ty : Nat → FieldType} (f : mzC ci C T N ty) (ha : mK μ a = ci + 1) : t_OB a ((gD G).1 ci) N ((gD G).2 ci) H (mmV μ ci a) := by
  obtain ⟨r, h1, h2⟩ := (hM a (by omega)).2.2.1 ci ha f.1
  rw [f.2.1] at h1
  cases h1
  exact h2
theorem mz_arr (hM : Mm G μ H) {j : Nat} (ha : mK μ a = j + 32) : j < 10 ∧ H[a]? = some (arrV (gC G j) (mN μ a) (mmE μ j a)) := (hM a (by omega)).2.2.2 j ha
theorem mz_get (S : CallFix p m c cc nL s args TT own) (hG : GK G s s.heap) (hM : Mm G μ H) {ci k F N index : Nat} {C : String} {T : u_T} {ty : Nat → FieldType} {r : Bool} {o n d : String} {fin : Bool} (f : mzC ci C T N ty) (q : mzF F ci k T N r o n d fin) (hl : Cond.fieldLink own index o n d ∈ TT)
    (hd : decode cc pc = .ok (.getfield index, 3)) (ha : mK μ a = ci + 1) (kk : W p l e R s m args below meth c H locs cells slots Q (F0 m (pc + 3) ls (mmV μ ci a k :: rest))) : W p l e R s m args below meth c H locs cells slots Q (F0 m pc ls (.ref a :: rest)) := by
  obtain ⟨cell, q1, q2, q3, q4⟩ := mz_obj hM f ha
  obtain ⟨hS, hfc, kC, hkC, hkind⟩ := hG.1.1 ci _ f.2.1
  obtain ⟨hk, hF, hr, hT⟩ := q
  obtain ⟨cf, kf, fi, fd, hi, hsl⟩ := hS k hk
  have st := (u_facts hfc hkC (u_lays (fun w h => S.2.2.2.2 w h) f.2.2.1 hk) hi).1
  have hi' : s.fieldFound? o n d = some (cf, kf, fi, fd) := by dsimp only at hi; rw [hT] at hi; exact hi
  refine W.getf S.1 S.2.1 S.2.2.2.1 (S.2.2.2.2 _ hl) hi' st q1 (by rw [q3]; exact fun h => by cases h) (v := mmV μ ci a k) ?_ rfl rfl hd kk
  rw [hsl, q4 k hk]
theorem mz_geti (S : CallFix p m c cc nL s args TT own) (hG : GK G s s.heap) (hM : Mm G μ H) {ci k F N index : Nat} {C : String} {T : u_T} {ty : Nat → FieldType} {o n d : String} {fin : Bool} (f : mzC ci C T N ty) (q : mzF F ci k T N false o n d fin) (hl : Cond.fieldLink own index o n d ∈ TT)
    (hd : decode cc pc = .ok (.getfield index, 3)) (ha : mK μ a = ci + 1) (kk : W p l e R s m args below meth c H locs cells slots Q (F0 m (pc + 3) ls (.int (mI μ F a) :: rest))) : W p l e R s m args below meth c H locs cells slots Q (F0 m pc ls (.ref a :: rest)) := by
  refine mz_get S hG hM f q hl hd ha ?_
  have e : mmV μ ci a k = .int (mI μ F a) := by
    unfold mmV
    rw [q.2.2.1, q.2.1]
    rfl
  rw [e]
  exact kk
theorem mz_getr (S : CallFix p m c cc nL s args TT own) (hG : GK G s s.heap) (hM : Mm G μ H) {ci k F N index : Nat} {C : String} {T : u_T} {ty : Nat → FieldType} {o n d : String} {fin : Bool} (f : mzC ci C T N ty) (q : mzF F ci k T N true o n d fin) (hl : Cond.fieldLink own index o n d ∈ TT)
    (hd : decode cc pc = .ok (.getfield index, 3)) (ha : mK μ a = ci + 1) (kk : W p l e R s m args below meth c H locs cells slots Q (F0 m (pc + 3) ls (va_rf (mR μ F a) :: rest))) : W p l e R s m args below meth c H locs cells slots Q (F0 m pc ls (.ref a :: rest)) := by
  refine mz_get S hG hM f q hl hd ha ?_
  have e : mmV μ ci a k = va_rf (mR μ F a) := by
    unfold mmV
    rw [q.2.2.1, q.2.1]
    rfl
  rw [e]
  exact kk
/-- the memory after a write of field k (F) of the object at a -/
theorem mz_putM {μ' : mmT} {H' : Heap} {ci N k : Nat} {C : String} {T : u_T} {ty : Nat → FieldType} {v : Value} (hG : GK G s s.heap) (hts : ∀ w ∈ TT, w.before args s = true) (hM : Mm G μ H) (f : mzC ci C T N ty) (ha : mK μ a = ci + 1) (hk : k < N) {cell : Cell} (q1 : H[a]? = some cell) (e1 : H'[a]? = some (cell.setSlot ((gD G).2 ci k) v)) (z : H'.size = H.size) (oq : ∀ q : Nat, q ≠ a → H'[q]? = H[q]?)
    (hK : mK μ' = mK μ) (hN : mN μ' = mN μ) (h1 : ∀ b, b ≠ a → ∀ ci, mmV μ' ci b = mmV μ ci b) (h2 : ∀ b, ∀ j, mmE μ' j b = mmE μ j b) (hV : ∀ j, mmV μ' ci a j = updV (mmV μ ci a) k v j) : Mm G μ' H' := by
  obtain ⟨cell', p1, p2, p3, p4⟩ := mz_obj hM f ha
  cases q1.symm.trans p1
  have hap := va_apart (own := "") hts f.2.2.1 ty f.2.2.2.1 f.2.2.2.2 hG.1 f.2.1
  refine hM.upd z oq hK hN h1 (fun b _ => h2 b) ⟨fun c' h hc => ?_, fun j h => ?_⟩
  · rw [hK, ha] at h
    have e : c' = ci := by omega
    subst e
    refine ⟨_, f.2.1, t_OB.to (V := updV (mmV μ c' a) k v) ⟨_, e1, p2, p3, t_set p4 hap hk v⟩ (fun j _ => (hV j).symm)⟩
  · rw [hK, ha] at h
    have := f.1
    omega
theorem mz_put (S : CallFix p m c cc nL s args TT own) (hG : GK G s s.heap) (hM : Mm G μ H) (hS0 : va_S (Ah G) s.heap H locs) {μ' : mmT} {ci k F N index : Nat} {C : String} {T : u_T} {ty : Nat → FieldType} {r : Bool} {o n d : String} {v : Value} (f : mzC ci C T N ty) (q : mzF F ci k T N r o n d false) (hl : Cond.fieldLink own index o n d ∈ TT)
    (hd : decode cc pc = .ok (.putfield index, 3)) (ha : mK μ a = ci + 1) (hn : narrow (ty k) v = v) (hfit : fits (ty k) v = true)
    (hK : mK μ' = mK μ) (hN : mN μ' = mN μ) (h1 : ∀ b, b ≠ a → ∀ ci, mmV μ' ci b = mmV μ ci b) (h2 : ∀ b, ∀ j, mmE μ' j b = mmE μ j b) (hV : ∀ j, mmV μ' ci a j = updV (mmV μ ci a) k v j)
    (kk : ∀ (H1 : Heap) (locs1 : List Loc), Mm G μ' H1 → va_S (Ah G) s.heap H1 locs1 → H1.size = H.size → W p l e R s m args below meth c H1 locs1 cells slots Q (F0 m (pc + 3) ls rest)) : W p l e R s m args below meth c H locs cells slots Q (F0 m pc ls (v :: .ref a :: rest)) := by
  obtain ⟨cell, q1, q2, q3, q4⟩ := mz_obj hM f ha
  obtain ⟨hS, hfc, kC, hkC, hkind⟩ := hG.1.1 ci _ f.2.1
  obtain ⟨hk, hF, hr, hT⟩ := q
  obtain ⟨cf, kf, fi, fd, hi, hsl⟩ := hS k hk
  have hts : ∀ w ∈ TT, w.before args s = true := fun w h => S.2.2.2.2 w h
  have hlay := hts _ (f.2.2.1 _ (u_in_lay hk))
  unfold u_lay at hlay
  rw [if_neg (by rw [hT]; exact Bool.false_ne_true)] at hlay
  have st := (u_facts hfc hkC (u_lays hts f.2.2.1 hk) hi).1
  have h6 := u_store hfc hkC hkind hlay hi (f.2.2.2.1 k hk) hn hfit
  have hi' : s.fieldFound? o n d = some (cf, kf, fi, fd) := by dsimp only at hi; rw [hT] at hi; exact hi
  refine W.putK S.1 S.2.1 (f := fd) ⟨S.2.2.2.1, S.2.2.2.2 _ hl, ⟨_, _, _, hi'⟩, st⟩ (by rw [q2]; exact h6) q1 q3 (by rw [hsl]; exact k2_hasslot (q4 k hk)) rfl rfl hd fun H' e1 e2 e3 => ?_
  rw [hsl] at e1 ⊢
  exact kk H' _ (mz_putM hG hts hM f ha hk q1 e1 e2 e3 hK hN h1 h2 hV) (hS0.put e2 e3 (hM a (by omega)).1) e2
theorem mz_putF (S : CallFix p m c cc nL s args TT own) (hG : GK G s s.heap) (hM : Mm G μ H) (hS0 : va_S (Ah G) s.heap H locs) {μ' : mmT} {ci k F N index : Nat} {C : String} {T : u_T} {ty : Nat → FieldType} {r : Bool} {n d : String} {v : Value} (f : mzC ci C T N ty) (q : mzF F ci k T N r own n d true) (hl : Cond.fieldLink own index own n d ∈ TT)
    (hd : decode cc pc = .ok (.putfield index, 3)) (hin : meth.name = "<init>") (ha : mK μ a = ci + 1) (hn : narrow (ty k) v = v) (hfit : fits (ty k) v = true)
    (hK : mK μ' = mK μ) (hN : mN μ' = mN μ) (h1 : ∀ b, b ≠ a → ∀ ci, mmV μ' ci b = mmV μ ci b) (h2 : ∀ b, ∀ j, mmE μ' j b = mmE μ j b) (hV : ∀ j, mmV μ' ci a j = updV (mmV μ ci a) k v j)
    (kk : ∀ (H1 : Heap) (locs1 : List Loc), Mm G μ' H1 → va_S (Ah G) s.heap H1 locs1 → H1.size = H.size → W p l e R s m args below meth c H1 locs1 cells slots Q (F0 m (pc + 3) ls rest)) : W p l e R s m args below meth c H locs cells slots Q (F0 m pc ls (v :: .ref a :: rest)) := by
  obtain ⟨cell, q1, q2, q3, q4⟩ := mz_obj hM f ha
  obtain ⟨hS, hfc, kC, hkC, hkind⟩ := hG.1.1 ci _ f.2.1
  obtain ⟨hk, hF, hr, hT⟩ := q
  obtain ⟨cf, kf, fi, fd, hi, hsl⟩ := hS k hk
  have hts : ∀ w ∈ TT, w.before args s = true := fun w h => S.2.2.2.2 w h
  have hown := S.2.2.2.1
  have hlay := hts _ (f.2.2.1 _ (u_in_lay hk))
  unfold u_lay at hlay
  rw [if_pos (by rw [hT])] at hlay
  have st := (u_facts hfc hkC (u_lays hts f.2.2.1 hk) hi).1
  have hdecl : (T k).1 = own := by rw [hT]
  have hcf : m.cls = cf := by
    obtain ⟨_, _, c', _, _, _, -, -, hf', -, -, -, hown2, -⟩ := Cond.laysFinal_spec hlay
    have e1 : c' = cf := by have := hi.symm.trans hf'; simp at this; exact this.1.symm
    rw [hdecl] at hown2
    rw [← e1]; exact Option.some.inj (hown.symm.trans hown2)
  have h6 := u_fits hfc hkC hkind (Or.inr hlay) hi (f.2.2.2.1 k hk) hn hfit
  have hi' : s.fieldFound? own n d = some (cf, kf, fi, fd) := by dsimp only at hi; rw [hT] at hi; exact hi
  refine W.putFinK S.1 S.2.1 hown (S.2.2.2.2 _ hl) hi' st hcf hin (by rw [q2]; exact h6) q1 q3 (by rw [hsl]; exact k2_hasslot (q4 k hk)) rfl rfl hd fun H' e1 e2 e3 => ?_
  rw [hsl] at e1 ⊢
  exact kk H' _ (mz_putM hG hts hM f ha hk q1 e1 e2 e3 hK hN h1 h2 hV) (hS0.put e2 e3 (hM a (by omega)).1) e2
theorem mmV_sI {F ci k : Nat} {x : Int32} (hF : F = 32 * ci + k) (hr : mmRf ci k = false) (j : Nat) : mmV (sI μ F a x) ci a j = updV (mmV μ ci a) k (.int x) j := by
  subst hF
  dsimp only [mmV, updV]
  by_cases e : j = k
  · subst e
    rw [if_neg (by rw [hr]; exact Bool.false_ne_true), if_pos rfl]
    simp [mI, sI, u2]
  · rw [if_neg e]
    by_cases h : mmRf ci j = true
    · rw [if_pos h, if_pos h]; rfl
    · rw [if_neg h, if_neg h]
      simp [mI, sI, u2, e]
theorem mmV_sR {F ci k : Nat} {x : Option Nat} (hF : F = 32 * ci + k) (hr : mmRf ci k = true) (j : Nat) : mmV (sR μ F a x) ci a j = updV (mmV μ ci a) k (va_rf x) j := by
  subst hF
  dsimp only [mmV, updV]
  by_cases e : j = k
  · subst e
    rw [if_pos hr, if_pos rfl]
    simp [mR, sR, u2]
  · rw [if_neg e]
    by_cases h : mmRf ci j = true
    · rw [if_pos h, if_pos h]
      simp [mR, sR, u2, e]
    · rw [if_neg h, if_neg h]; rfl
theorem mmV_sIo {F : Nat} {x : Int32} {b : Nat} (hb : b ≠ a) (ci : Nat) : mmV (sI μ F a x) ci b = mmV μ ci b := by
  funext j
  dsimp only [mmV]
  by_cases h : mmRf ci j = true
  · rw [if_pos h, if_pos h]; rfl
  · rw [if_neg h, if_neg h]
    simp [mI, sI, u2, hb]
theorem mmV_sRo {F : Nat} {x : Option Nat} {b : Nat} (hb : b ≠ a) (ci : Nat) : mmV (sR μ F a x) ci b = mmV μ ci b := by
  funext j
  dsimp only [mmV]
  by_cases h : mmRf ci j = true
  · rw [if_pos h, if_pos h]
    simp [mR, sR, u2, hb]
  · rw [if_neg h, if_neg h]; rfl
theorem mz_puti (S : CallFix p m c cc nL s args TT own) (hG : GK G s s.heap) (hM : Mm G μ H) (hS0 : va_S (Ah G) s.heap H locs) {ci k F N index : Nat} {C : String} {T : u_T} {ty : Nat → FieldType} {o n d : String} {x : Int32} (f : mzC ci C T N ty) (q : mzF F ci k T N false o n d false) (hl : Cond.fieldLink own index o n d ∈ TT)
    (hd : decode cc pc = .ok (.putfield index, 3)) (ha : mK μ a = ci + 1) (hn : narrow (ty k) (.int x) = .int x) (hfit : fits (ty k) (.int x) = true)
    (kk : ∀ (H1 : Heap) (locs1 : List Loc), Mm G (sI μ F a x) H1 → va_S (Ah G) s.heap H1 locs1 → H1.size = H.size → W p l e R s m args below meth c H1 locs1 cells slots Q (F0 m (pc + 3) ls rest)) : W p l e R s m args below meth c H locs cells slots Q (F0 m pc ls (.int x :: .ref a :: rest)) :=
  mz_put (μ' := sI μ F a x) S hG hM hS0 f q hl hd ha hn hfit rfl rfl (fun b hb ci => mmV_sIo hb ci) (fun _ _ => rfl) (fun j => mmV_sI q.2.1 q.2.2.1 j) kk
theorem mz_putr (S : CallFix p m c cc nL s args TT own) (hG : GK G s s.heap) (hM : Mm G μ H) (hS0 : va_S (Ah G) s.heap H locs) {ci k F N index : Nat} {C : String} {T : u_T} {ty : Nat → FieldType} {o n d : String} {x : Option Nat} (f : mzC ci C T N ty) (q : mzF F ci k T N true o n d false) (hl : Cond.fieldLink own index o n d ∈ TT)
    (hd : decode cc pc = .ok (.putfield index, 3)) (ha : mK μ a = ci + 1) (hn : narrow (ty k) (va_rf x) = va_rf x) (hfit : fits (ty k) (va_rf x) = true)
    (kk : ∀ (H1 : Heap) (locs1 : List Loc), Mm G (sR μ F a x) H1 → va_S (Ah G) s.heap H1 locs1 → H1.size = H.size → W p l e R s m args below meth c H1 locs1 cells slots Q (F0 m (pc + 3) ls rest)) : W p l e R s m args below meth c H locs cells slots Q (F0 m pc ls (va_rf x :: .ref a :: rest)) :=
  mz_put (μ' := sR μ F a x) S hG hM hS0 f q hl hd ha hn hfit rfl rfl (fun b hb ci => mmV_sRo hb ci) (fun _ _ => rfl) (fun j => mmV_sR q.2.1 q.2.2.1 j) kk
theorem mz_putFr (S : CallFix p m c cc nL s args TT own) (hG : GK G s s.heap) (hM : Mm G μ H) (hS0 : va_S (Ah G) s.heap H locs) {ci k F N index : Nat} {C : String} {T : u_T} {ty : Nat → FieldType} {n d : String} {x : Option Nat} (f : mzC ci C T N ty) (q : mzF F ci k T N true own n d true) (hl : Cond.fieldLink own index own n d ∈ TT)
    (hd : decode cc pc = .ok (.putfield index, 3)) (hin : meth.name = "<init>") (ha : mK μ a = ci + 1) (hn : narrow (ty k) (va_rf x) = va_rf x) (hfit : fits (ty k) (va_rf x) = true)
    (kk : ∀ (H1 : Heap) (locs1 : List Loc), Mm G (sR μ F a x) H1 → va_S (Ah G) s.heap H1 locs1 → H1.size = H.size → W p l e R s m args below meth c H1 locs1 cells slots Q (F0 m (pc + 3) ls rest)) : W p l e R s m args below meth c H locs cells slots Q (F0 m pc ls (va_rf x :: .ref a :: rest)) :=
  mz_putF (μ' := sR μ F a x) S hG hM hS0 f q hl hd hin ha hn hfit rfl rfl (fun b hb ci => mmV_sRo hb ci) (fun _ _ => rfl) (fun j => mmV_sR q.2.1 q.2.2.1 j) kk
theorem mz_iald (S : CallFix p m c cc nL s args TT own) (hG : GK G s s.heap) (hM : Mm G μ H) {i : Int32} (hd : decode cc pc = .ok (.iaload, 1)) (ha : mK μ a = 34) (hin : vp_in i (mN μ a))
    (kk : W p l e R s m args below meth c H locs cells slots Q (F0 m (pc + 1) ls (.int (mA μ a i.toNatClampNeg) :: rest))) : W p l e R s m args below meth c H locs cells slots Q (F0 m pc ls (.int i :: .ref a :: rest)) := by
  obtain ⟨hj, h1⟩ := mz_arr (j := 2) hM ha
  have hlt : i.toNatClampNeg < mN μ a := Nat.not_le.mp fun q => hin (Or.inr q)
  exact W.iald (v := .int (mA μ a i.toNatClampNeg)) S.1 S.2.1 h1 ((hG.1.2 2 _ (gTy_at hj)).1 _ _) (fun q => by cases q) (by show ¬ (i < 0 ∨ (arrV _ _ _).slots.size ≤ _); rw [arrV_size]; exact hin) (by show (arrV _ _ _).slots[_]? = _; rw [arrV_read _ _ hlt]; rfl) rfl rfl hd kk
theorem mz_cald (S : CallFix p m c cc nL s args TT own) (hG : GK G s s.heap) (hM : Mm G μ H) {i : Int32} (hd : decode cc pc = .ok (.caload, 1)) (ha : mK μ a = 33) (hin : vp_in i (mN μ a))
    (kk : W p l e R s m args below meth c H locs cells slots Q (F0 m (pc + 1) ls (.int (mA μ a i.toNatClampNeg) :: rest))) : W p l e R s m args below meth c H locs cells slots Q (F0 m pc ls (.int i :: .ref a :: rest)) := by
  obtain ⟨hj, h1⟩ := mz_arr (j := 1) hM ha
  have hlt : i.toNatClampNeg < mN μ a := Nat.not_le.mp fun q => hin (Or.inr q)
  exact W.cald (v := .int (mA μ a i.toNatClampNeg)) S.1 S.2.1 h1 ((hG.1.2 1 _ (gTy_at hj)).1 _ _) (fun q => by cases q) (by show ¬ (i < 0 ∨ (arrV _ _ _).slots.size ≤ _); rw [arrV_size]; exact hin) (by show (arrV _ _ _).slots[_]? = _; rw [arrV_read _ _ hlt]; rfl) rfl rfl hd kk
theorem mz_bald (S : CallFix p m c cc nL s args TT own) (hG : GK G s s.heap) (hM : Mm G μ H) {i : Int32} (hd : decode cc pc = .ok (.baload, 1)) (ha : mK μ a = 32) (hin : vp_in i (mN μ a))
    (kk : W p l e R s m args below meth c H locs cells slots Q (F0 m (pc + 1) ls (.int (mA μ a i.toNatClampNeg) :: rest))) : W p l e R s m args below meth c H locs cells slots Q (F0 m pc ls (.int i :: .ref a :: rest)) := by
  obtain ⟨hj, h1⟩ := mz_arr (j := 0) hM ha
  have hlt : i.toNatClampNeg < mN μ a := Nat.not_le.mp fun q => hin (Or.inr q)
  exact W.bald (v := .int (mA μ a i.toNatClampNeg)) S.1 S.2.1 h1 ((hG.1.2 0 _ (gTy_at hj)).1 _ _) (fun q => by cases q) (by show ¬ (i < 0 ∨ (arrV _ _ _).slots.size ≤ _); rw [arrV_size]; exact hin) (by show (arrV _ _ _).slots[_]? = _; rw [arrV_read _ _ hlt]; rfl) rfl rfl hd kk
theorem mz_lald (S : CallFix p m c cc nL s args TT own) (hG : GK G s s.heap) (hM : Mm G μ H) {i : Int32} (hd : decode cc pc = .ok (.laload, 1)) (ha : mK μ a = 35) (hin : vp_in i (mN μ a))
    (kk : W p l e R s m args below meth c H locs cells slots Q (F0 m (pc + 1) ls (.long (mL μ a i.toNatClampNeg) :: rest))) : W p l e R s m args below meth c H locs cells slots Q (F0 m pc ls (.int i :: .ref a :: rest)) := by
  obtain ⟨hj, h1⟩ := mz_arr (j := 3) hM ha
  have hlt : i.toNatClampNeg < mN μ a := Nat.not_le.mp fun q => hin (Or.inr q)
  exact W.lald (v := .long (mL μ a i.toNatClampNeg)) S.1 S.2.1 h1 ((hG.1.2 3 _ (gTy_at hj)).1 _ _) (fun q => by cases q) (by show ¬ (i < 0 ∨ (arrV _ _ _).slots.size ≤ _); rw [arrV_size]; exact hin) (by show (arrV _ _ _).slots[_]? = _; rw [arrV_read _ _ hlt]; rfl) rfl rfl hd kk
theorem mz_aald (S : CallFix p m c cc nL s args TT own) (hG : GK G s s.heap) (hM : Mm G μ H) {i : Int32} {j : Nat} {C : String} (hd : decode cc pc = .ok (.aaload, 1)) (hj5 : 5 ≤ j) (hC : mmTy j = .object C) (ha : mK μ a = j + 32) (hin : vp_in i (mN μ a))
    (kk : W p l e R s m args below meth c H locs cells slots Q (F0 m (pc + 1) ls (va_rf (mB μ a i.toNatClampNeg) :: rest))) : W p l e R s m args below meth c H locs cells slots Q (F0 m pc ls (.int i :: .ref a :: rest)) := by
  obtain ⟨hj, h1⟩ := mz_arr (j := j) hM ha
  have hlt : i.toNatClampNeg < mN μ a := Nat.not_le.mp fun q => hin (Or.inr q)
  have h2 := (hG.1.2 j _ (gTy_at hj)).1
  have hE : mmE μ j a = fun i => va_rf (mB μ a i) := by
    match j, hj5 with
    | j + 5, _ => rfl
  rw [hE] at h1
  exact W.aald (v := va_rf (mB μ a i.toNatClampNeg)) (ty := mmTy j) S.1 S.2.1 h1 (h2 _ _) (by rw [hC]; rfl) (fun q => by cases q) (by show ¬ (i < 0 ∨ (arrV _ _ _).slots.size ≤ _); rw [arrV_size]; exact hin) (by show (arrV _ _ _).slots[_]? = _; rw [arrV_read _ _ hlt]) rfl rfl hd kk
theorem mz_alen (S : CallFix p m c cc nL s args TT own) (hG : GK G s s.heap) (hM : Mm G μ H) {j : Nat} (hd : decode cc pc = .ok (.arraylength, 1)) (ha : mK μ a = j + 32)
    (kk : W p l e R s m args below meth c H locs cells slots Q (F0 m (pc + 1) ls (.int (nI (mN μ a)) :: rest))) : W p l e R s m args below meth c H locs cells slots Q (F0 m pc ls (.ref a :: rest)) := by
  obtain ⟨hj, h1⟩ := mz_arr (j := j) hM ha
  exact W.alen (n := nI (mN μ a)) S.1 S.2.1 h1 ((hG.1.2 j _ (gTy_at hj)).1 _ _) (by rw [arrV_size]; rfl) rfl rfl hd kk
/-- the memory after a write into the array at a -/
theorem mz_astM {μ' : mmT} {H' : Heap} {j i : Nat} {v : Value} (hM : Mm G μ H) (ha : mK μ a = j + 32) (e1 : H'[a]? = some ((arrV (gC G j) (mN μ a) (mmE μ j a)).setSlot i v)) (z : H'.size = H.size) (oq : ∀ q : Nat, q ≠ a → H'[q]? = H[q]?)
    (hK : mK μ' = mK μ) (hN : mN μ' = mN μ) (h1 : ∀ b, ∀ ci, mmV μ' ci b = mmV μ ci b) (h2 : ∀ b, b ≠ a → ∀ j, mmE μ' j b = mmE μ j b) (hV : ∀ k, mmE μ' j a k = updV (mmE μ j a) i v k) : Mm G μ' H' := by
  obtain ⟨hj, -⟩ := mz_arr (j := j) hM ha
  refine hM.upd z oq hK hN (fun b _ => h1 b) h2 ⟨fun c' h hc => ?_, fun j' h => ?_⟩
  · rw [hK, ha] at h
    omega
  · rw [hK, ha] at h
    have e : j' = j := by omega
    subst e
    refine ⟨hj, ?_⟩
    rw [e1, arrV_store, hN]
    congr 2
    funext k
    exact (hV k).symm
theorem mz_iast (S : CallFix p m c cc nL s args TT own) (hG : GK G s s.heap) (hM : Mm G μ H) (hS : va_S (Ah G) s.heap H locs) {i : Int32} {x : Int32} (hd : decode cc pc = .ok (.iastore, 1)) (ha : mK μ a = 34) (hin : vp_in i (mN μ a))
    (kk : ∀ (H1 : Heap) (locs1 : List Loc), Mm G (sA μ a i.toNatClampNeg (x)) H1 → va_S (Ah G) s.heap H1 locs1 → H1.size = H.size → W p l e R s m args below meth c H1 locs1 cells slots Q (F0 m (pc + 1) ls rest)) : W p l e R s m args below meth c H locs cells slots Q (F0 m pc ls (.int x :: .int i :: .ref a :: rest)) := by
  obtain ⟨hj, h1⟩ := mz_arr (j := 2) hM ha
  refine W.iast S.1 S.2.1 h1 ((hG.1.2 2 _ (gTy_at hj)).1 _ _) (fun q => by cases q) (by show ¬ (i < 0 ∨ (arrV _ _ _).slots.size ≤ _); rw [arrV_size]; exact hin) rfl rfl hd fun H1 e z oq => ?_
  refine kk H1 _ (mz_astM (j := 2) hM ha e z oq rfl rfl (fun _ _ => rfl) (fun b hb j' => ?_) (fun k => ?_)) (hS.put z oq (hM a (by omega)).1) z
  · funext k
    simp [mmE, mA, sA, u2, hb]
    try rfl
  · by_cases hk : k = i.toNatClampNeg
    · subst hk
      simp [mmE, updV, mA, sA, u2, vp_nar]
      try rfl
    · simp [mmE, updV, mA, sA, u2, hk]
      try rfl
theorem mz_cast (S : CallFix p m c cc nL s args TT own) (hG : GK G s s.heap) (hM : Mm G μ H) (hS : va_S (Ah G) s.heap H locs) {i : Int32} {x : Int32} (hd : decode cc pc = .ok (.castore, 1)) (ha : mK μ a = 33) (hin : vp_in i (mN μ a))
    (kk : ∀ (H1 : Heap) (locs1 : List Loc), Mm G (sA μ a i.toNatClampNeg (vp_nar .char x)) H1 → va_S (Ah G) s.heap H1 locs1 → H1.size = H.size → W p l e R s m args below meth c H1 locs1 cells slots Q (F0 m (pc + 1) ls rest)) : W p l e R s m args below meth c H locs cells slots Q (F0 m pc ls (.int x :: .int i :: .ref a :: rest)) := by
  obtain ⟨hj, h1⟩ := mz_arr (j := 1) hM ha
  refine W.cast S.1 S.2.1 h1 ((hG.1.2 1 _ (gTy_at hj)).1 _ _) (fun q => by cases q) (by show ¬ (i < 0 ∨ (arrV _ _ _).slots.size ≤ _); rw [arrV_size]; exact hin) rfl rfl hd fun H1 e z oq => ?_
  refine kk H1 _ (mz_astM (j := 1) hM ha e z oq rfl rfl (fun _ _ => rfl) (fun b hb j' => ?_) (fun k => ?_)) (hS.put z oq (hM a (by omega)).1) z
  · funext k
    simp [mmE, mA, sA, u2, hb]
    try rfl
  · by_cases hk : k = i.toNatClampNeg
    · subst hk
      simp [mmE, updV, mA, sA, u2, vp_nar]
      try rfl
    · simp [mmE, updV, mA, sA, u2, hk]
      try rfl
theorem mz_bast (S : CallFix p m c cc nL s args TT own) (hG : GK G s s.heap) (hM : Mm G μ H) (hS : va_S (Ah G) s.heap H locs) {i : Int32} {x : Int32} (hd : decode cc pc = .ok (.bastore, 1)) (ha : mK μ a = 32) (hin : vp_in i (mN μ a))
    (kk : ∀ (H1 : Heap) (locs1 : List Loc), Mm G (sA μ a i.toNatClampNeg (vp_nar .byte x)) H1 → va_S (Ah G) s.heap H1 locs1 → H1.size = H.size → W p l e R s m args below meth c H1 locs1 cells slots Q (F0 m (pc + 1) ls rest)) : W p l e R s m args below meth c H locs cells slots Q (F0 m pc ls (.int x :: .int i :: .ref a :: rest)) := by
  obtain ⟨hj, h1⟩ := mz_arr (j := 0) hM ha
  refine W.bast S.1 S.2.1 h1 ((hG.1.2 0 _ (gTy_at hj)).1 _ _) (fun q => by cases q) (by show ¬ (i < 0 ∨ (arrV _ _ _).slots.size ≤ _); rw [arrV_size]; exact hin) rfl rfl hd fun H1 e z oq => ?_
  refine kk H1 _ (mz_astM (j := 0) hM ha e z oq rfl rfl (fun _ _ => rfl) (fun b hb j' => ?_) (fun k => ?_)) (hS.put z oq (hM a (by omega)).1) z
  · funext k
    simp [mmE, mA, sA, u2, hb]
    try rfl
  · by_cases hk : k = i.toNatClampNeg
    · subst hk
      simp [mmE, updV, mA, sA, u2, vp_nar]
      try rfl
    · simp [mmE, updV, mA, sA, u2, hk]
      try rfl
theorem mz_last (S : CallFix p m c cc nL s args TT own) (hG : GK G s s.heap) (hM : Mm G μ H) (hS : va_S (Ah G) s.heap H locs) {i : Int32} {x : Int64} (hd : decode cc pc = .ok (.lastore, 1)) (ha : mK μ a = 35) (hin : vp_in i (mN μ a))
    (kk : ∀ (H1 : Heap) (locs1 : List Loc), Mm G (sL μ a i.toNatClampNeg (x)) H1 → va_S (Ah G) s.heap H1 locs1 → H1.size = H.size → W p l e R s m args below meth c H1 locs1 cells slots Q (F0 m (pc + 1) ls rest)) : W p l e R s m args below meth c H locs cells slots Q (F0 m pc ls (.long x :: .int i :: .ref a :: rest)) := by
  obtain ⟨hj, h1⟩ := mz_arr (j := 3) hM ha
  refine W.last S.1 S.2.1 h1 ((hG.1.2 3 _ (gTy_at hj)).1 _ _) (fun q => by cases q) (by show ¬ (i < 0 ∨ (arrV _ _ _).slots.size ≤ _); rw [arrV_size]; exact hin) rfl rfl hd fun H1 e z oq => ?_
  refine kk H1 _ (mz_astM (j := 3) hM ha e z oq rfl rfl (fun _ _ => rfl) (fun b hb j' => ?_) (fun k => ?_)) (hS.put z oq (hM a (by omega)).1) z
  · funext k
    simp [mmE, mL, sL, u2, hb]
    try rfl
  · by_cases hk : k = i.toNatClampNeg
    · subst hk
      simp [mmE, updV, mL, sL, u2, vp_nar]
      try rfl
    · simp [mmE, updV, mL, sL, u2, hk]
      try rfl
end MROWS
end
section
section MROWS2
variable {p : Program} {l : Launch} {e : Env} {R : Room} {s : State} {m : MethodId} {args : Array Value} {below : List Frame} {meth : Method} {c : Code} {H : Heap} {locs : List Loc} {cells slots : Nat} {Q : State → Prop}
variable {cc : ByteArray} {pc : Nat} {ls : Array Slot} {rest st0 : List Value} {a nL : Nat} {own : String} {G : mgT} {μ : mmT}
theorem mz_aast (S : CallFix p m c cc nL s args TT own) (hG : GK G s s.heap) (hM : Mm G μ H) (hS : va_S (Ah G) s.heap H locs) {i : Int32} {v j ci N : Nat} {C : String} {T : u_T} {ty : Nat → FieldType} (f : mzC ci C T N ty) (hd : decode cc pc = .ok (.aastore, 1)) (hj5 : 5 ≤ j) (hC : mmTy j = .object C) (ha : mK μ a = j + 32) (hv : mK μ v = ci + 1) (hin : vp_in i (mN μ a))
    (kk : ∀ (H1 : Heap) (locs1 : List Loc), Mm G (sB μ a i.toNatClampNeg (some v)) H1 → va_S (Ah G) s.heap H1 locs1 → H1.size = H.size → W p l e R s m args below meth c H1 locs1 cells slots Q (F0 m (pc + 1) ls rest)) : W p l e R s m args below meth c H locs cells slots Q (F0 m pc ls (.ref v :: .int i :: .ref a :: rest)) := by
  obtain ⟨hj, h1⟩ := mz_arr (j := j) hM ha
  have hlt : i.toNatClampNeg < mN μ a := Nat.not_le.mp fun q => hin (Or.inr q)
  have h0 : ¬ i < 0 := fun q => hin (Or.inl q)
  obtain ⟨cellV, g1, g2, g3, -⟩ := mz_obj hM f hv
  have hcls := (hG.1.1 ci _ f.2.1).2
  have hra := (hG.1.2 j _ (gTy_at hj)).2
  have hra : va_RA s (gC G j) (.object C) := by rw [← hC]; exact hra
  obtain ⟨kA, comp, k1, k2, k3, -⟩ := hra
  have hcomp : comp = (gD G).1 ci := Option.some.inj (k3.symm.trans hcls.1)
  subst hcomp
  obtain ⟨kC, hkC, -⟩ := hcls.2
  refine W.aast S.1 S.2.1 h1 (fun q h => by cases h) (fun h => by cases h) k1 k2 rfl hkC ⟨h0, by show _ < (arrV _ _ _).slots.size; rw [arrV_size]; exact hlt⟩ g1 (fun q h => by rw [g3] at h; cases h) (by rw [g2]; exact hkC) (by rw [g2]; exact va_assign hcls) rfl rfl hd fun H1 e z oq => ?_
  refine kk H1 _ (mz_astM (j := j) hM ha e z oq rfl rfl (fun _ _ => rfl) (fun b hb j' => ?_) (fun k => ?_)) (hS.put z oq (hM a (by omega)).1) z
  · funext k
    match j' with
    | 0 => rfl
    | 1 => rfl
    | 2 => rfl
    | 3 => rfl
    | 4 => rfl
    | j' + 5 =>
      simp [mmE, mB, sB, u2, hb]
  · match j, hj5 with
    | j + 5, _ =>
      by_cases hk : k = i.toNatClampNeg
      · subst hk
        simp [mmE, updV, mB, sB, u2]
        try rfl
      · simp [mmE, updV, mB, sB, u2, hk]
/-- System.arraycopy over int arrays, from one of ours into one of ours -/
theorem mz_copy (S : CallFix p m c cc nL s args TT own) (hG : GK G s s.heap) (hM : Mm G μ H) (hS : va_S (Ah G) s.heap H locs) (hl : ls.size = nL) {index a0 : Nat} (w1 : Cond.methodLink own index arraycopyName ∈ TT) (w2 : Cond.native arraycopyName ∈ TT) (w3 : Cond.static arraycopyName ∈ TT) (w4 : Cond.initialized "java/lang/System" ∈ TT)
    {sp dp n : Int32} (ha0 : mK μ a0 = 34) (ha : mK μ a = 34) (h1 : ¬ sp < 0) (h2 : ¬ dp < 0) (h3 : ¬ n < 0) (h4 : sp.toNatClampNeg + n.toNatClampNeg ≤ mN μ a0) (h5 : dp.toNatClampNeg + n.toNatClampNeg ≤ mN μ a)
    (hframes : 1 ≤ R.frames) (hlocals : (rest.map fun v => v.category).sum + (nativeFrameWords "java/lang/System" "arraycopy" 5 + 11) ≤ R.locals) (hd : decode cc pc = .ok (.invokestatic index, 3))
    (kk : ∀ (H1 : Heap) (locs1 : List Loc), Mm G (sC μ a0 sp.toNatClampNeg a dp.toNatClampNeg n.toNatClampNeg) H1 → va_S (Ah G) s.heap H1 locs1 → W p l e R s m args below meth c H1 locs1 cells slots Q (F0 m (pc + 3) ls rest)) : W p l e R s m args below meth c H locs cells slots Q (F0 m pc ls (.int n :: .int dp :: .ref a :: .int sp :: .ref a0 :: rest)) := by
  have nn : ∀ z : Int32, ¬ z < 0 → z.toInt = (z.toNatClampNeg : Int) := by
    intro z hz
    have hz0 : (0 : Int) ≤ z.toInt := by
      have := Int32.not_lt.mp hz
      simpa using Int32.le_iff_toInt_le.mp this
    show z.toInt = ((z.toInt.toNat : Nat) : Int)
    omega
  intro T hT X
  obtain ⟨hj, hc0⟩ := mz_arr (j := 2) hM ha0
  obtain ⟨-, hc1⟩ := mz_arr (j := 2) hM ha
  obtain ⟨-, k0, hk0, cm0, hkk0⟩ := (hG.1.2 2 _ (gTy_at hj)).1 (mN μ a0) (mmE μ 2 a0)
  obtain ⟨-, k1, hk1, cm1, hkk1⟩ := (hG.1.2 2 _ (gTy_at hj)).1 (mN μ a) (mmE μ 2 a)
  obtain ⟨vm', X', step⟩ := X.arraycopy S.1 S.2.2.2.1 (S.2.2.2.2 _ w1) (S.2.2.2.2 _ w2) (S.2.2.2.2 _ w3) (S.2.2.2.2 _ w4) (src := a0) (dst := a) (cs := arrV (gC G 2) (mN μ a0) (mmE μ 2 a0)) (cd := arrV (gC G 2) (mN μ a) (mmE μ 2 a)) (srcPos := sp) (destPos := dp) (n := n) (by rw [hT]; exact hc0) (by rw [hT]; exact hc1)
    (fun _ h => by cases h) (fun _ h => by cases h) (fun h => by cases h) (fun h => by cases h) hk0 hk1 hkk0 hkk1 (by simp [mmTy, refKind]) h1 h2 h3
    (by rw [nn sp h1, nn n h3, arrV_size]; omega)
    (by rw [nn dp h2, nn n h3, arrV_size]; omega)
    (fun vm₁ _ i hi => by
      have e : (arrV (gC G 2) (mN μ a0) (mmE μ 2 a0)).slots.getD (sp.toNatClampNeg + i) .null = .int (mA μ a0 (sp.toNatClampNeg + i)) := by
        rw [Array.getD_eq_getD_getElem?, arrV_read _ _ (by omega)]
        rfl
      refine ⟨?_, ?_⟩
      · rw [e]
        rfl
      · rw [e]
        exact trivial)
    (g := F0 m pc ls (.int n :: .int dp :: .ref a :: .int sp :: .ref a0 :: rest)) rfl (by rw [S.2.2.1]; exact hl) (rest := rest) rfl (by rw [S.2.1]; exact hd) hframes (by show 2 * 0 + _ + _ ≤ _; omega)
  have e1 : copied (arrV (gC G 2) (mN μ a0) (mmE μ 2 a0)) (arrV (gC G 2) (mN μ a) (mmE μ 2 a)) sp dp n = arrV (gC G 2) (mN μ a) (fun j => .int (va_cpy (mA μ a0) (mA μ a) sp.toNatClampNeg dp.toNatClampNeg n.toNatClampNeg j)) := va_copied (fun z => .int z) (gC G 2) (gC G 2) (mA μ a0) (mA μ a) h4
  rw [e1] at X' step
  have hl9 : a < H.size := (Array.getElem?_eq_some_iff.mp hc1).1
  generalize hcell : arrV (gC G 2) (mN μ a) (fun j => .int (va_cpy (mA μ a0) (mA μ a) sp.toNatClampNeg dp.toNatClampNeg n.toNatClampNeg j)) = cN at X' step
  have hheap : ((T.setVm vm').setCell a cN).heap = H.setIfInBounds a cN := by rw [← hT]; rfl
  have oq : ∀ q : Nat, q ≠ a → (H.setIfInBounds a cN)[q]? = H[q]? := fun q hq => by simp [Array.getElem?_setIfInBounds, Ne.symm hq]
  have hA : Ah G a := (hM a (by omega)).1
  have hM2 : Mm G (sC μ a0 sp.toNatClampNeg a dp.toNatClampNeg n.toNatClampNeg) (H.setIfInBounds a cN) := by
    refine hM.upd (by simp) oq rfl rfl (fun _ _ _ => rfl) (fun b hb j' => ?_) ⟨fun c' h hc => ?_, fun j' h => ?_⟩
    · funext k
      simp [mmE, mA, sC, hb]
      try rfl
    · have h : mK μ a = c' + 1 := h
      omega
    · have h : mK μ a = j' + 32 := h
      have e : j' = 2 := by omega
      subst e
      refine ⟨hj, ?_⟩
      show (H.setIfInBounds a cN)[a]? = _
      rw [← hcell]
      simp only [Array.getElem?_setIfInBounds, hl9, if_true]
      congr 2
      funext k
      simp [mmE, mA, sC, va_cpy]
  obtain ⟨t, a1, b1⟩ := kk _ _ hM2 ⟨by simp; exact hS.1, fun q g1 g2 => by
      rw [oq q (fun e => g2 (by rw [e]; exact hA))]
      exact hS.2.1 q g1 g2, fun q hq => by
      rcases List.mem_append.mp hq with h | h
      · exact hS.2.2 q h
      · obtain ⟨z, -, hz⟩ := List.mem_map.mp h
        rw [← hz]
        exact hA⟩ _ hheap X'
  exact ⟨t, step t a1, b1⟩
/-- the memory after a cell more -/
theorem Mm.push {μ' : mmT} {H' : Heap} {z : Nat} (hM : Mm G μ H) (hz : H.size = z) (hg : gh G ≤ z) (z1 : H'.size = z + 1) (oq : ∀ q : Nat, q < z → H'[q]? = H[q]?)
    (hK : ∀ b, b ≠ z → mK μ' b = mK μ b) (hN : ∀ b, b ≠ z → mN μ' b = mN μ b) (h1 : ∀ b, b ≠ z → ∀ ci, mmV μ' ci b = mmV μ ci b) (h2 : ∀ b, b ≠ z → ∀ j, mmE μ' j b = mmE μ j b) (h3 : mmOk G μ' H' z) : Mm G μ' H' := by
  intro b hb
  by_cases e : b = z
  · subst e
    exact ⟨hg, by omega, h3⟩
  · rw [hK b e] at hb
    obtain ⟨k1, k2, k3, k4⟩ := hM b hb
    have hlt : b < z := by omega
    refine ⟨k1, by omega, fun ci h hc => ?_, fun j h => ?_⟩
    · rw [hK b e] at h
      obtain ⟨r, r1, r2⟩ := k3 ci h hc
      refine ⟨r, r1, ?_⟩
      rw [h1 b e ci]
      exact r2.kept (oq b hlt)
    · rw [hK b e] at h
      obtain ⟨r1, r2⟩ := k4 j h
      refine ⟨r1, ?_⟩
      rw [h2 b e j, hN b e, oq b hlt]
      exact r2
theorem va_S.grow {A : Nat → Prop} {H0 H1 : Heap} (h : va_S A H0 H locs) (z : H1.size = H.size + 1) (oq : ∀ q : Nat, q < H.size → H1[q]? = H[q]?) : va_S A H0 H1 locs :=
  ⟨Nat.le_trans h.1 (by omega), fun x h1 h2 => (oq x (Nat.lt_of_lt_of_le h1 h.1)).trans (h.2.1 x h1 h2), h.2.2⟩
theorem mz_new (S : CallFix p m c cc nL s args TT own) (hG : GK G s s.heap) (hM : Mm G μ H) (hS : va_S (Ah G) s.heap H locs) {z : Nat} (hz : H.size = z) (hg : gh G ≤ z) {ci N index : Nat} {C : String} {T : u_T} {ty : Nat → FieldType} (f : mzC ci C T N ty) (hdv : ∀ k, k < N → defaultValue (ty k) = if mmRf ci k = true then .null else .int 0)
    (w1 : Cond.classLink own index C ∈ TT) (w2 : Cond.instantiable C N ∈ TT) (w3 : Cond.initialized C ∈ TT) (hcells : cells + 1 ≤ R.cells) (hslots : slots + N ≤ R.slots) (hd : decode cc pc = .ok (.new index, 3))
    (kk : ∀ (H1 : Heap), Mm G (nO μ z ci) H1 → va_S (Ah G) s.heap H1 locs → H1.size = z + 1 → W p l e R s m args below meth c H1 locs (cells + 1) (slots + N) Q (F0 m (pc + 3) ls (.ref z :: rest))) : W p l e R s m args below meth c H locs cells slots Q (F0 m pc ls rest) := by
  have hKn := hG.1.1 ci _ f.2.1
  subst hz
  refine W.newcK S.1 S.2.1 S.2.2.2.1 (S.2.2.2.2 _ w1) (S.2.2.2.2 _ w2) (S.2.2.2.2 _ w3) rfl hd hcells hslots hKn.2.1 rfl fun H1 kC hkC e1 z1 o1 => ?_
  refine kk H1 (hM.push rfl hg z1 o1 (fun b hb => ?_) (fun _ _ => rfl) (fun b hb c' => ?_) (fun _ _ _ => rfl) ⟨fun c' h hc => ?_, fun j h => ?_⟩) (hS.grow z1 o1) z1
  · simp [mK, nO, hb]
  · funext k
    dsimp only [mmV]
    by_cases h : mmRf c' k = true
    · rw [if_pos h, if_pos h]
      simp [mR, nO, hb]
    · rw [if_neg h, if_neg h]
      simp [mI, nO, hb]
  · have h : ci + 1 = c' + 1 := by simpa [mK, nO] using h
    have e : c' = ci := by omega
    subst e
    refine ⟨_, f.2.1, (u_born ty (fun w h => S.2.2.2.2 w h) f.2.2.1 hKn hkC e1 f.2.2.2.1).to (fun k hk => ?_)⟩
    rw [hdv k hk]
    dsimp only [mmV]
    by_cases h : mmRf c' k = true
    · rw [if_pos h, if_pos h]
      simp [mR, nO, va_rf]
    · rw [if_neg h, if_neg h]
      simp [mI, nO]
  · have h : ci + 1 = j + 32 := by simpa [mK, nO] using h
    have := f.1
    omega
theorem mmV_nA {z j n b : Nat} (ci : Nat) : mmV (nA μ z j n) ci b = mmV μ ci b := rfl
theorem mmE_nA {z j n b : Nat} (hb : b ≠ z) (j' : Nat) : mmE (nA μ z j n) j' b = mmE μ j' b := by
  funext k
  match j' with
  | 0 => simp [mmE, mA, nA, hb]
  | 1 => simp [mmE, mA, nA, hb]
  | 2 => simp [mmE, mA, nA, hb]
  | 3 => simp [mmE, mL, nA, hb]
  | 4 => simp [mmE, mD, nA, hb]
  | j' + 5 => simp [mmE, mB, nA, hb]
theorem mz_newa (S : CallFix p m c cc nL s args TT own) (hG : GK G s s.heap) (hM : Mm G μ H) (hS : va_S (Ah G) s.heap H locs) {z : Nat} (hz : H.size = z) (hg : gh G ≤ z) {j : Nat} (hj : j < 4) {atype : ArrayType} (hty : newarray.typeOf atype = mmTy j) (w1 : Cond.arrayClass (newarray.typeOf atype) ∈ TT) {n : Int32} {N : Nat} (hn : ¬ n < 0) (hN : n.toNatClampNeg = N) (hb : N * componentBytes (newarray.typeOf atype) ≤ 536870912)
    (hcells : cells + 1 ≤ R.cells) (hslots : slots + N ≤ R.slots) (hd : decode cc pc = .ok (.newarray atype, 2))
    (kk : ∀ (H1 : Heap), Mm G (nA μ z j N) H1 → va_S (Ah G) s.heap H1 locs → H1.size = z + 1 → W p l e R s m args below meth c H1 locs (cells + 1) (slots + N) Q (F0 m (pc + 2) ls (.ref z :: rest))) : W p l e R s m args below meth c H locs cells slots Q (F0 m pc ls (.int n :: rest)) := by
  subst hz
  refine va_newaK S.1 S.2.1 (S.2.2.2.2 _ w1) rfl hd rfl hn hN hb hcells hslots rfl fun H1 cA e1 z1 o1 hAr hNm => ?_
  have hra := (hG.1.2 j _ (gTy_at (by omega))).2
  have hcA : cA = gC G j := by
    rw [hty] at hNm
    match j, hj with
    | 0, _ => exact Option.some.inj (hNm.symm.trans hra)
    | 1, _ => exact Option.some.inj (hNm.symm.trans hra)
    | 2, _ => exact Option.some.inj (hNm.symm.trans hra)
    | 3, _ => exact Option.some.inj (hNm.symm.trans hra)
  refine kk H1 (hM.push rfl hg z1 o1 (fun b hb => ?_) (fun b hb => ?_) (fun b hb c' => rfl) (fun b hb j' => mmE_nA hb j') ⟨fun c' h hc => ?_, fun j' h => ?_⟩) (hS.grow z1 o1) z1
  · simp [mK, nA, hb]
  · simp [mN, nA, hb]
  · have h : j + 32 = c' + 1 := by simpa [mK, nA] using h
    omega
  · have h : j + 32 = j' + 32 := by simpa [mK, nA] using h
    have e : j' = j := by omega
    subst e
    refine ⟨by omega, ?_⟩
    rw [e1, hcA, hty]
    have hNN : mN (nA μ H.size j' N) H.size = N := by simp [mN, nA]
    rw [hNN]
    congr 2
    funext k
    match j', hj with
    | 0, _ => simp [mmE, mA, nA, mmTy, defaultValue]
    | 1, _ => simp [mmE, mA, nA, mmTy, defaultValue]
    | 2, _ => simp [mmE, mA, nA, mmTy, defaultValue]
    | 3, _ => simp [mmE, mL, nA, mmTy, defaultValue]
theorem mz_newq (S : CallFix p m c cc nL s args TT own) (hG : GK G s s.heap) (hM : Mm G μ H) (hS : va_S (Ah G) s.heap H locs) {z : Nat} (hz : H.size = z) (hg : gh G ≤ z) {j index : Nat} (hj5 : 5 ≤ j) (hj : j < 10) {C : String} (hC : mmTy j = .object C) (w1 : Cond.classLink own index C ∈ TT) {n : Int32} {N : Nat} (hn : ¬ n < 0) (hN : n.toNatClampNeg = N) (hb : N * 4 ≤ 536870912)
    (hcells : cells + 1 ≤ R.cells) (hslots : slots + N ≤ R.slots) (hd : decode cc pc = .ok (.anewarray index, 3))
    (kk : ∀ (H1 : Heap), Mm G (nA μ z j N) H1 → va_S (Ah G) s.heap H1 locs → H1.size = z + 1 → W p l e R s m args below meth c H1 locs (cells + 1) (slots + N) Q (F0 m (pc + 3) ls (.ref z :: rest))) : W p l e R s m args below meth c H locs cells slots Q (F0 m pc ls (.int n :: rest)) := by
  subst hz
  subst hN
  refine W.anew S.1 S.2.1 S.2.2.2.1 (S.2.2.2.2 _ w1) (va_AO.use (hG.2.2.1 j hj5 hj C hC)) rfl hd rfl hn hb hcells hslots fun cA kA comp f1 f2 f3 f4 => ?_
  generalize hH1 : H.push ({ cls := cA, slots := Array.replicate n.toNatClampNeg .null, vm := .none } : Cell) = H1
  have z1 : H1.size = H.size + 1 := by rw [← hH1, Array.size_push]
  have e1 : H1[H.size]? = some (arrV cA n.toNatClampNeg (fun _ => .null)) := by rw [← hH1, Array.getElem?_push_size, ← arrV_new]
  have o1 : ∀ q : Nat, q < H.size → H1[q]? = H[q]? := fun q hq => by rw [← hH1, Array.getElem?_push, if_neg (Nat.ne_of_lt hq)]
  have hra := (hG.1.2 j _ (gTy_at hj)).2
  have hra : va_RA s (gC G j) (.object C) := by rw [← hC]; exact hra
  obtain ⟨kA', comp', k1, k2, k3, k4⟩ := hra
  have hcA : cA = gC G j := Option.some.inj (f1.symm.trans k4)
  refine kk H1 (hM.push rfl hg z1 o1 (fun b hb => ?_) (fun b hb => ?_) (fun b hb c' => rfl) (fun b hb j' => mmE_nA hb j') ⟨fun c' h hc => ?_, fun j' h => ?_⟩) (hS.grow z1 o1) z1
  · simp [mK, nA, hb]
  · simp [mN, nA, hb]
  · have h : j + 32 = c' + 1 := by simpa [mK, nA] using h
    omega
  · have h : j + 32 = j' + 32 := by simpa [mK, nA] using h
    have e : j' = j := by omega
    subst e
    refine ⟨hj, ?_⟩
    rw [e1, hcA]
    have hNN : mN (nA μ H.size j' n.toNatClampNeg) H.size = n.toNatClampNeg := by simp [mN, nA]
    rw [hNN]
    congr 2
    funext k
    match j', hj5 with
    | j' + 5, _ => simp [mmE, mB, nA, va_rf]
end MROWS2
end
section
/-! CALLS, RETURNS, OPENINGS -/
theorem TT_g {y : MethodName} {bytes : ByteArray} {maxL : Nat} {ret : Option FieldType} (h : Cond.code y bytes maxL ret ∈ TT) : GoodIn TT (Cond.code y bytes maxL ret :: TT) := fun w hw => by
  rcases List.mem_cons.mp hw with e | e
  · rw [e]; exact ⟨h, TT_ok h⟩
  · exact ⟨e, TT_ok e⟩
theorem mz_sigs {y : MethodName} {n : Nat} (h : (parseMethodDescriptor y.desc).map (fun d => d.parameters.length) = some n) : ∀ sig, parseMethodDescriptor y.desc = some sig → n = sig.parameters.length := by
  intro sig hs
  rw [hs] at h
  exact (Option.some.inj h).symm
section MROWS3
variable {p : Program} {l : Launch} {e : Env} {R : Room} {s : State} {m : MethodId} {args : Array Value} {below : List Frame} {meth : Method} {c : Code} {H : Heap} {locs : List Loc} {cells slots : Nat} {Q : State → Prop}
variable {cc : ByteArray} {pc : Nat} {ls : Array Slot} {rest st0 : List Value} {a nL : Nat} {own : String} {G : mgT} {μ : mmT}
variable {y : MethodName} {bytes : ByteArray} {maxL n index : Nat} {ret : Option FieldType} {rm : Room} {av As : List Value} {b : Nat} {post : Option Value → mmT → Prop} {px : String → mmT → Prop}
theorem mz_run {mc ms : Nat} {aa : Array Value} (hr : va_Run p l e R s m args below meth c H locs cells slots mc ms (F0 m pc ls st0) rest (mQ G post aa) (Ah G)) (hS : va_S (Ah G) s.heap H locs)
    (kk : ∀ (v : Option Value) (μ' : mmT) (H1 : Heap) (locs1 : List Loc), post v μ' → Mm G μ' H1 → va_S (Ah G) s.heap H1 locs1 → W p l e R s m args below meth c H1 locs1 (cells + mc) (slots + ms) Q (F0 m (pc + 3) ls (v.toList ++ rest))) : W p l e R s m args below meth c H locs cells slots Q (F0 m pc ls st0) := by
  intro T hT X
  obtain ⟨v, st₀, t, T', L, h0, X', hL, e1, e2, ⟨⟨v', u, hv, hp, hb⟩, hF⟩, st⟩ := hr T hT X
  cases hv
  obtain ⟨k1, k2, k3⟩ := vx_keep (A0 := Ah G) h0 e1 hS (fun _ _ h => h) (fun _ h => h) hL hF
  obtain ⟨t2, a1, b1⟩ := kk v u T'.heap (locs ++ L) hp (by rw [e1]; exact hb) k3 T' rfl X'
  exact ⟨t2, st t2 a1, b1⟩
theorem mz_runz {mc ms : Nat} {aa : Array Value} {pz : mmT → Nat → Prop} (hr : va_Run p l e R s m args below meth c H locs cells slots mc ms (F0 m pc ls st0) rest (mQz G pz aa) (Ah G)) (hS : va_S (Ah G) s.heap H locs)
    (kk : ∀ (μ' : mmT) (z : Nat) (H1 : Heap) (locs1 : List Loc), pz μ' z → Mm G μ' H1 → va_S (Ah G) s.heap H1 locs1 → gh G ≤ z → H1.size = z → W p l e R s m args below meth c H1 locs1 (cells + mc) (slots + ms) Q (F0 m (pc + 3) ls rest)) : W p l e R s m args below meth c H locs cells slots Q (F0 m pc ls st0) := by
  intro T hT X
  obtain ⟨v, st₀, t, T', L, h0, X', hL, e1, e2, ⟨⟨u, z, hv, hp, hb, hg, hz⟩, hF⟩, st⟩ := hr T hT X
  cases hv
  obtain ⟨k1, k2, k3⟩ := vx_keep (A0 := Ah G) h0 e1 hS (fun _ _ h => h) (fun _ h => h) hL hF
  obtain ⟨t2, a1, b1⟩ := kk u z T'.heap (locs ++ L) hp (by rw [e1]; exact hb) k3 hg (by rw [e1]; exact hz) T' rfl X'
  exact ⟨t2, st t2 a1, b1⟩
theorem mz_runX {mc ms : Nat} {aa : Array Value} (hr : vx_Run p l e R s m args below meth c H locs cells slots mc ms (F0 m pc ls st0) rest (mQ G post aa) (mX G px) (Ah G)) (hS : va_S (Ah G) s.heap H locs)
    (kx : ∀ (E : String) (ce : Cell) (q : Addr) (μ' : mmT) (H1 : Heap) (locs1 : List Loc), px E μ' → Mm G μ' H1 → va_S (Ah G) s.heap H1 locs1 → H1[q]? = some ce → ce.vm = .none → s.vm.findClass E = some ce.cls → vx_W p l e R s m args below meth c H1 locs1 (cells + mc) (slots + ms) Q (F0 m pc ls rest) q)
    (kk : ∀ (v : Option Value) (μ' : mmT) (H1 : Heap) (locs1 : List Loc), post v μ' → Mm G μ' H1 → va_S (Ah G) s.heap H1 locs1 → W p l e R s m args below meth c H1 locs1 (cells + mc) (slots + ms) Q (F0 m (pc + 3) ls (v.toList ++ rest))) : W p l e R s m args below meth c H locs cells slots Q (F0 m pc ls st0) := by
  intro T hT X
  rcases hr T hT X with ⟨v, st₀, t, T', L, h0, X', hL, e1, e2, ⟨⟨v', u, hv, hp, hb⟩, hF⟩, st⟩ | ⟨q, st₀, t, T', L, E, ce, h0, X', hL, e1, e2, ⟨u, hp, hb, hF⟩, hce, hcv, hcl, st⟩
  · cases hv
    obtain ⟨k1, k2, k3⟩ := vx_keep (A0 := Ah G) h0 e1 hS (fun _ _ h => h) (fun _ h => h) hL hF
    obtain ⟨t2, a1, b1⟩ := kk v u T'.heap (locs ++ L) hp (by rw [e1]; exact hb) k3 T' rfl X'
    exact ⟨t2, st t2 a1, b1⟩
  · obtain ⟨k1, k2, k3⟩ := vx_keep (A0 := Ah G) h0 e1 hS (fun _ _ h => h) (fun _ h => h) hL hF
    obtain ⟨t2, a1, b1⟩ := kx E ce q u T'.heap (locs ++ L) hp (by rw [e1]; exact hb) k3 (by rw [e1]; exact hce) hcv hcl T' rfl X'
    exact ⟨t2, st.trans a1, b1⟩
theorem mz_recv (hG : GK G s s.heap) (hM : Mm G μ H) {ci N : Nat} {C : String} {T : u_T} {ty : Nat → FieldType} (f : mzC ci C T N ty) (hb : mK μ b = ci + 1) : ∃ cellB : Cell, H[b]? = some cellB ∧ cellB.vm.isStatics = false ∧ s.vm.findClass C = some cellB.cls := by
  obtain ⟨cell, q1, q2, q3, q4⟩ := mz_obj hM f hb
  exact ⟨cell, q1, by rw [q3]; rfl, by rw [q2]; exact (hG.1.1 ci _ f.2.1).2.1⟩
theorem mz_pre (hG : GK G s s.heap) (hM : Mm G μ H) (hS : va_S (Ah G) s.heap H locs) : ∀ U : State, U.heap = H → s.WarmedH U.vm → mP G av μ av.toArray U := fun U hU hW => ⟨rfl, by rw [hU]; exact hG.at hS.1 hS.2.1 hW, by rw [hU]; exact hM⟩
theorem mz_callB (S : CallFix p m c cc nL s args TT own) (yf : mzY y bytes maxL ret n) (w1 : Cond.methodLink own index y ∈ TT) (hR : rm.frames + 1 ≤ R.frames ∧ 8 + (maxL + 11) + rm.locals ≤ R.locals) : CallB R s args own index y bytes maxL ret (Cond.code y bytes maxL ret :: TT) rm rm.cells rm.slots n :=
  ⟨rfl, rfl, hR.1, hR.2, pay_in S.2.2.2.2 (TT_g yf.1), List.mem_cons_self, S.2.2.2.2 _ yf.1, S.2.2.2.2 _ yf.2.1, yf.2.2.1, mz_sigs yf.2.2.2, S.2.2.2.2 _ w1⟩
theorem mz_V (S : CallFix p m c cc nL s args TT own) (hG : GK G s s.heap) (hM : Mm G μ H) (hS : va_S (Ah G) s.heap H locs) {ci N : Nat} {C : String} {T : u_T} {ty : Nat → FieldType} (f : mzC ci C T N ty) (hb : mK μ b = ci + 1) (hc : MC G l y bytes maxL ret rm (.ref b :: As) μ post) (yf : mzY y bytes maxL ret n)
    (w1 : Cond.methodLink own index y ∈ TT) (w2 : Cond.instanceMethod y ∈ TT) (w3 : Cond.selects C y y ∈ TT) (hR : rm.frames + 1 ≤ R.frames ∧ 8 + (maxL + 11) + rm.locals ≤ R.locals) (hf : cells + rm.cells ≤ R.cells ∧ slots + rm.slots ≤ R.slots) (hn : As.length = n) (hsize : ls.size = nL) (hst : st0 = As.reverse ++ .ref b :: rest) (hW : (rest.map fun v => v.category).sum ≤ 8) (hd : decode cc pc = .ok (.invokevirtual index, 3))
    (kk : ∀ (v : Option Value) (μ' : mmT) (H1 : Heap) (locs1 : List Loc), post v μ' → Mm G μ' H1 → va_S (Ah G) s.heap H1 locs1 → W p l e R s m args below meth c H1 locs1 (cells + rm.cells) (slots + rm.slots) Q (F0 m (pc + 3) ls (v.toList ++ rest))) : W p l e R s m args below meth c H locs cells slots Q (F0 m pc ls st0) :=
  mz_run (va_runV S hc ⟨mz_callB S yf w1 hR, S.2.2.2.2 _ w2, S.2.2.2.2 _ w3⟩ ⟨mP_blind, mz_recv hG hM f hb, mz_pre hG hM hS⟩ rfl hn hsize hst (lv_room hW) hd hf) hS kk
theorem mz_VX (S : CallFix p m c cc nL s args TT own) (hG : GK G s s.heap) (hM : Mm G μ H) (hS : va_S (Ah G) s.heap H locs) {ci N : Nat} {C : String} {T : u_T} {ty : Nat → FieldType} (f : mzC ci C T N ty) (hb : mK μ b = ci + 1) (hc : MX G l y bytes maxL ret rm (.ref b :: As) μ post px) (yf : mzY y bytes maxL ret n)
    (w1 : Cond.methodLink own index y ∈ TT) (w2 : Cond.instanceMethod y ∈ TT) (w3 : Cond.selects C y y ∈ TT) (hR : rm.frames + 1 ≤ R.frames ∧ 8 + (maxL + 11) + rm.locals ≤ R.locals) (hf : cells + rm.cells ≤ R.cells ∧ slots + rm.slots ≤ R.slots) (hn : As.length = n) (hsize : ls.size = nL) (hst : st0 = As.reverse ++ .ref b :: rest) (hW : (rest.map fun v => v.category).sum ≤ 8) (hd : decode cc pc = .ok (.invokevirtual index, 3))
    (kx : ∀ (E : String) (ce : Cell) (q : Addr) (μ' : mmT) (H1 : Heap) (locs1 : List Loc), px E μ' → Mm G μ' H1 → va_S (Ah G) s.heap H1 locs1 → H1[q]? = some ce → ce.vm = .none → s.vm.findClass E = some ce.cls → vx_W p l e R s m args below meth c H1 locs1 (cells + rm.cells) (slots + rm.slots) Q (F0 m pc ls rest) q)
    (kk : ∀ (v : Option Value) (μ' : mmT) (H1 : Heap) (locs1 : List Loc), post v μ' → Mm G μ' H1 → va_S (Ah G) s.heap H1 locs1 → W p l e R s m args below meth c H1 locs1 (cells + rm.cells) (slots + rm.slots) Q (F0 m (pc + 3) ls (v.toList ++ rest))) : W p l e R s m args below meth c H locs cells slots Q (F0 m pc ls st0) :=
  mz_runX (vx_runV S hc ⟨mz_callB S yf w1 hR, S.2.2.2.2 _ w2, S.2.2.2.2 _ w3⟩ ⟨mP_blind, mz_recv hG hM f hb, mz_pre hG hM hS⟩ rfl hn hsize hst (lv_room hW) hd hf) hS kx kk
theorem mz_S (S : CallFix p m c cc nL s args TT own) (hG : GK G s s.heap) (hM : Mm G μ H) (hS : va_S (Ah G) s.heap H locs) (hc : MC G l y bytes maxL ret rm As μ post) (yf : mzY y bytes maxL ret n)
    (w1 : Cond.methodLink own index y ∈ TT) (w2 : Cond.static y ∈ TT) (hR : rm.frames + 1 ≤ R.frames ∧ 8 + (maxL + 11) + rm.locals ≤ R.locals) (hf : cells + rm.cells ≤ R.cells ∧ slots + rm.slots ≤ R.slots) (hn : As.length = n) (hsize : ls.size = nL) (hst : st0 = As.reverse ++ rest) (hW : (rest.map fun v => v.category).sum ≤ 8) (hd : decode cc pc = .ok (.invokestatic index, 3))
    (kk : ∀ (v : Option Value) (μ' : mmT) (H1 : Heap) (locs1 : List Loc), post v μ' → Mm G μ' H1 → va_S (Ah G) s.heap H1 locs1 → W p l e R s m args below meth c H1 locs1 (cells + rm.cells) (slots + rm.slots) Q (F0 m (pc + 3) ls (v.toList ++ rest))) : W p l e R s m args below meth c H locs cells slots Q (F0 m pc ls st0) :=
  mz_run (va_runS S hc ⟨mz_callB S yf w1 hR, S.2.2.2.2 _ w2⟩ ⟨mP_blind, mz_pre hG hM hS⟩ rfl hn hsize hst (lv_room hW) hd hf) hS kk
/-- a private static of a nest mate -/
theorem mz_SN (S : CallFix p m c cc nL s args TT own) (hG : GK G s s.heap) (hM : Mm G μ H) (hS : va_S (Ah G) s.heap H locs) {host : String} (hc : MC G l y bytes maxL ret rm As μ post) (yf : mzY y bytes maxL ret n)
    (w1 : Cond.methodLinkNest own index y host ∈ tables_1) (w2 : Cond.static y ∈ TT) (hR : rm.frames + 1 ≤ R.frames ∧ 8 + (maxL + 11) + rm.locals ≤ R.locals) (hf : cells + rm.cells ≤ R.cells ∧ slots + rm.slots ≤ R.slots) (hn : As.length = n) (hsize : ls.size = nL) (hst : st0 = As.reverse ++ rest) (hW : (rest.map fun v => v.category).sum ≤ 8) (hd : decode cc pc = .ok (.invokestatic index, 3))
    (kk : ∀ (v : Option Value) (μ' : mmT) (H1 : Heap) (locs1 : List Loc), post v μ' → Mm G μ' H1 → va_S (Ah G) s.heap H1 locs1 → W p l e R s m args below meth c H1 locs1 (cells + rm.cells) (slots + rm.slots) Q (F0 m (pc + 3) ls (v.toList ++ rest))) : W p l e R s m args below meth c H locs cells slots Q (F0 m pc ls st0) :=
  mz_run (va_runSN S hc ⟨⟨⟨rfl, rfl, hR.1, hR.2, pay_in S.2.2.2.2 (TT_g yf.1), List.mem_cons_self⟩, S.2.2.2.2 _ yf.1, S.2.2.2.2 _ yf.2.1, yf.2.2.1, mz_sigs yf.2.2.2, va_Nw.use rfl (hG.2.1 _ w1 rfl)⟩, S.2.2.2.2 _ w2, trivial⟩ ⟨mP_blind, mz_pre hG hM hS⟩ rfl hn hsize hst (lv_room hW) hd hf) hS kk
theorem mz_prez (hG : GK G s s.heap) (hM : Mm G μ H) (hS : va_S (Ah G) s.heap H locs) {z : Nat} (hz : H.size = z) (hg : gh G ≤ z) : ∀ U : State, U.heap = H → s.WarmedH U.vm → mPz G av μ z av.toArray U := fun U hU hW => ⟨rfl, by rw [hU]; exact hG.at hS.1 hS.2.1 hW, by rw [hU]; exact hM, hg, by rw [hU]; exact hz⟩
/-- constructors that make cells; a nest mate's private one -/
theorem mz_I (S : CallFix p m c cc nL s args TT own) (hG : GK G s s.heap) (hM : Mm G μ H) (hS : va_S (Ah G) s.heap H locs) {z : Nat} (hz : H.size = z) (hg : gh G ≤ z) {pz : mmT → Nat → Prop} (hc : MZ G l y bytes maxL rm (.ref b :: As) μ z pz) (yf : mzY y bytes maxL none n) (hy1 : y.name = "<init>")
    (w1 : Cond.methodLink own index y ∈ TT) (w2 : Cond.instanceMethod y ∈ TT) (hR : rm.frames + 1 ≤ R.frames ∧ 8 + (maxL + 11) + rm.locals ≤ R.locals) (hf : cells + rm.cells ≤ R.cells ∧ slots + rm.slots ≤ R.slots) (hn : As.length = n) (hsize : ls.size = nL) (hst : st0 = As.reverse ++ .ref b :: rest) (hW : (rest.map fun v => v.category).sum ≤ 8) (hd : decode cc pc = .ok (.invokespecial index, 3))
    (kk : ∀ (μ' : mmT) (z : Nat) (H1 : Heap) (locs1 : List Loc), pz μ' z → Mm G μ' H1 → va_S (Ah G) s.heap H1 locs1 → gh G ≤ z → H1.size = z → W p l e R s m args below meth c H1 locs1 (cells + rm.cells) (slots + rm.slots) Q (F0 m (pc + 3) ls rest)) : W p l e R s m args below meth c H locs cells slots Q (F0 m pc ls st0) :=
  mz_runz (va_runI S hc ⟨mz_callB S yf w1 hR, hy1, S.2.2.2.2 _ w2⟩ ⟨mPz_blind, mz_prez hG hM hS hz hg⟩ rfl hn hsize hst (lv_room hW) hd hf) hS kk
theorem mz_IN (S : CallFix p m c cc nL s args TT own) (hG : GK G s s.heap) (hM : Mm G μ H) (hS : va_S (Ah G) s.heap H locs) {z : Nat} (hz : H.size = z) (hg : gh G ≤ z) {pz : mmT → Nat → Prop} {host : String} (hc : MZ G l y bytes maxL rm (.ref b :: As) μ z pz) (yf : mzY y bytes maxL none n) (hy1 : y.name = "<init>")
    (w1 : Cond.methodLinkNest own index y host ∈ tables_1) (w2 : Cond.instanceMethod y ∈ TT) (hR : rm.frames + 1 ≤ R.frames ∧ 8 + (maxL + 11) + rm.locals ≤ R.locals) (hf : cells + rm.cells ≤ R.cells ∧ slots + rm.slots ≤ R.slots) (hn : As.length = n) (hsize : ls.size = nL) (hst : st0 = As.reverse ++ .ref b :: rest) (hW : (rest.map fun v => v.category).sum ≤ 8) (hd : decode cc pc = .ok (.invokespecial index, 3))
    (kk : ∀ (μ' : mmT) (z : Nat) (H1 : Heap) (locs1 : List Loc), pz μ' z → Mm G μ' H1 → va_S (Ah G) s.heap H1 locs1 → gh G ≤ z → H1.size = z → W p l e R s m args below meth c H1 locs1 (cells + rm.cells) (slots + rm.slots) Q (F0 m (pc + 3) ls rest)) : W p l e R s m args below meth c H locs cells slots Q (F0 m pc ls st0) :=
  mz_runz (va_runIN S hc ⟨⟨⟨rfl, rfl, hR.1, hR.2, pay_in S.2.2.2.2 (TT_g yf.1), List.mem_cons_self⟩, S.2.2.2.2 _ yf.1, S.2.2.2.2 _ yf.2.1, yf.2.2.1, mz_sigs yf.2.2.2, va_Nw.use rfl (hG.2.1 _ w1 rfl)⟩, hy1, S.2.2.2.2 _ w2⟩ ⟨mPz_blind, mz_prez hG hM hS hz hg⟩ rfl hn hsize hst (lv_room hW) hd hf) hS kk
/-! ends -/
theorem mz_iret (S : CallFix p m c cc nL s args TT own) {ty : FieldType} (hr : meth.sig.returnType = some ty) (hlk : meth.locks = false) (hM : Mm G μ H) (hS : va_S (Ah G) s.heap H locs) {x : Int32} {mc ms : Nat} (hn : narrow ty (.int x) = .int x) (hc : cells ≤ mc) (hs : slots ≤ ms) (hd : decode cc pc = .ok (.ireturn, 1)) (hp : post (some (.int x)) μ) : W p l e R s m args below meth c H locs cells slots (MQ below (mQ G post) args s mc ms (Ah G)) (F0 m pc ls [.int x]) :=
  W.widen hc hs (W.zret S.1 S.2.1 hr hn (fun t ht hW => ⟨⟨_, μ, rfl, hp, by rw [ht]; exact hM⟩, hS.F ht⟩) hS.2.2 hd hlk)
theorem mz_lret (S : CallFix p m c cc nL s args TT own) (hr : meth.sig.returnType = some .long) (hlk : meth.locks = false) (hM : Mm G μ H) (hS : va_S (Ah G) s.heap H locs) {x : Int64} {mc ms : Nat} (hc : cells ≤ mc) (hs : slots ≤ ms) (hd : decode cc pc = .ok (.lreturn, 1)) (hp : post (some (.long x)) μ) : W p l e R s m args below meth c H locs cells slots (MQ below (mQ G post) args s mc ms (Ah G)) (F0 m pc ls [.long x]) :=
  W.widen hc hs (W.lret S.1 S.2.1 hr (fun t ht hW => ⟨⟨_, μ, rfl, hp, by rw [ht]; exact hM⟩, hS.F ht⟩) hS.2.2 hd hlk)
theorem mz_fret (S : CallFix p m c cc nL s args TT own) (hr : meth.sig.returnType = some .float) (hlk : meth.locks = false) (hM : Mm G μ H) (hS : va_S (Ah G) s.heap H locs) {x : UInt32} {mc ms : Nat} (hc : cells ≤ mc) (hs : slots ≤ ms) (hd : decode cc pc = .ok (.freturn, 1)) (hp : post (some (.float x)) μ) : W p l e R s m args below meth c H locs cells slots (MQ below (mQ G post) args s mc ms (Ah G)) (F0 m pc ls [.float x]) :=
  W.widen hc hs (W.fret S.1 S.2.1 hr (fun t ht hW => ⟨⟨_, μ, rfl, hp, by rw [ht]; exact hM⟩, hS.F ht⟩) hS.2.2 hd hlk)
theorem mz_dret (S : CallFix p m c cc nL s args TT own) (hr : meth.sig.returnType = some .double) (hlk : meth.locks = false) (hM : Mm G μ H) (hS : va_S (Ah G) s.heap H locs) {x : UInt64} {mc ms : Nat} (hc : cells ≤ mc) (hs : slots ≤ ms) (hd : decode cc pc = .ok (.dreturn, 1)) (hp : post (some (.double x)) μ) : W p l e R s m args below meth c H locs cells slots (MQ below (mQ G post) args s mc ms (Ah G)) (F0 m pc ls [.double x]) :=
  W.widen hc hs (W.dret S.1 S.2.1 hr (fun t ht hW => ⟨⟨_, μ, rfl, hp, by rw [ht]; exact hM⟩, hS.F ht⟩) hS.2.2 hd hlk)
theorem mz_aret (S : CallFix p m c cc nL s args TT own) {rt : FieldType} (hr : meth.sig.returnType = some rt) (hrt : (∃ n, rt = .object n) ∨ ∃ t, rt = .array t) (hlk : meth.locks = false) (hM : Mm G μ H) (hS : va_S (Ah G) s.heap H locs) {x : Option Nat} {mc ms : Nat} (hc : cells ≤ mc) (hs : slots ≤ ms) (hd : decode cc pc = .ok (.areturn, 1)) (hp : post (some (va_rf x)) μ) : W p l e R s m args below meth c H locs cells slots (MQ below (mQ G post) args s mc ms (Ah G)) (F0 m pc ls [va_rf x]) :=
  W.widen hc hs (W.aret S.1 S.2.1 hr hrt (va_rf_or x) (fun t ht hW => ⟨⟨_, μ, rfl, hp, by rw [ht]; exact hM⟩, hS.F ht⟩) hS.2.2 hd hlk)
theorem mz_vret (S : CallFix p m c cc nL s args TT own) (hr : meth.sig.returnType = none) (hlk : meth.locks = false) (hM : Mm G μ H) (hS : va_S (Ah G) s.heap H locs) {mc ms : Nat} (hc : cells ≤ mc) (hs : slots ≤ ms) (hd : decode cc pc = .ok (.return_, 1)) (hp : post none μ) : W p l e R s m args below meth c H locs cells slots (MQ below (mQ G post) args s mc ms (Ah G)) (F0 m pc ls []) :=
  W.widen hc hs (W.vret S.1 S.2.1 hr (fun t ht hW => ⟨⟨_, μ, rfl, hp, by rw [ht]; exact hM⟩, hS.F ht⟩) hS.2.2 hd hlk)
theorem mz_zret (S : CallFix p m c cc nL s args TT own) (hr : meth.sig.returnType = none) (hlk : meth.locks = false) (hM : Mm G μ H) (hS : va_S (Ah G) s.heap H locs) {z : Nat} (hz : H.size = z) (hg : gh G ≤ z) {pz : mmT → Nat → Prop} {mc ms : Nat} (hc : cells ≤ mc) (hs : slots ≤ ms) (hd : decode cc pc = .ok (.return_, 1)) (hp : pz μ z) : W p l e R s m args below meth c H locs cells slots (MQ below (mQz G pz) args s mc ms (Ah G)) (F0 m pc ls []) :=
  W.widen hc hs (W.vret S.1 S.2.1 hr (fun t ht hW => ⟨⟨μ, z, rfl, hp, by rw [ht]; exact hM, hg, by rw [ht]; exact hz⟩, hS.F ht⟩) hS.2.2 hd hlk)
/-! openings -/
theorem mz_MC (hy : plainName y.cls = true) (hav : (lg_sl av).length ≤ maxL)
    (body : ∀ (p : Program) (e : Env) (s : State) (m : MethodId) (args : Array Value) (below : List Frame) (meth : Method) (c : Code), CallFix p m c cc maxL s args TT y.cls → GK G s s.heap → meth.sig.returnType = ret → meth.locks = false → meth.name = y.name →
      ∀ (H : Heap) (locs : List Loc) (ls : Array Slot), Mm G μ H → va_S (Ah G) s.heap H locs → lv_has ls maxL (lv_args 0 av) → W p l e rm s m args below meth c H locs 0 0 (MQ below (mQ G post) args s rm.cells rm.slots (Ah G)) (F0 m 0 ls [])) : MC G l y cc maxL ret rm av μ post := by
  refine Met.ofW (cc := cc) (maxL := maxL) (ret := ret) hy rfl ?_
  intro p e s m args below meth c s₁ B hml hv
  obtain ⟨rfl, hG, hM⟩ := hv
  have hts := atoms_spec (ws := Cond.code y cc maxL ret :: TT) B.pre
  have hown : s.vm.findClass y.cls = some m.cls := findClass_of_methodNamed B.named
  have hl := lv_entry av (n := maxL) hav
  rw [lg_entry_eq]
  exact body p e s m _ below meth c ⟨B.exec, B.bytes, hml, hown, fun w h => hts w (List.mem_cons_of_mem _ h)⟩ hG B.returns B.notSynchronized (name_of_methodNamed B.named B.method).1 s.heap [] _ hM va_S.rf hl
theorem mz_MZ {z : Nat} {pz : mmT → Nat → Prop} (hy : plainName y.cls = true) (hav : (lg_sl av).length ≤ maxL)
    (body : ∀ (p : Program) (e : Env) (s : State) (m : MethodId) (args : Array Value) (below : List Frame) (meth : Method) (c : Code), CallFix p m c cc maxL s args TT y.cls → GK G s s.heap → meth.sig.returnType = none → meth.locks = false → meth.name = y.name →
      ∀ (H : Heap) (locs : List Loc) (ls : Array Slot), Mm G μ H → va_S (Ah G) s.heap H locs → gh G ≤ z → H.size = z → lv_has ls maxL (lv_args 0 av) → W p l e rm s m args below meth c H locs 0 0 (MQ below (mQz G pz) args s rm.cells rm.slots (Ah G)) (F0 m 0 ls [])) : MZ G l y cc maxL rm av μ z pz := by
  refine Met.ofW (cc := cc) (maxL := maxL) (ret := none) hy rfl ?_
  intro p e s m args below meth c s₁ B hml hv
  obtain ⟨rfl, hG, hM, hg, hz⟩ := hv
  have hts := atoms_spec (ws := Cond.code y cc maxL none :: TT) B.pre
  have hown : s.vm.findClass y.cls = some m.cls := findClass_of_methodNamed B.named
  have hl := lv_entry av (n := maxL) hav
  rw [lg_entry_eq]
  exact body p e s m _ below meth c ⟨B.exec, B.bytes, hml, hown, fun w h => hts w (List.mem_cons_of_mem _ h)⟩ hG B.returns B.notSynchronized (name_of_methodNamed B.named B.method).1 s.heap [] _ hM va_S.rf hg hz hl
theorem mz_MX (hy : plainName y.cls = true) (hav : (lg_sl av).length ≤ maxL)
    (body : ∀ (p : Program) (e : Env) (s : State) (m : MethodId) (args : Array Value) (below : List Frame) (meth : Method) (c : Code), CallFix p m c cc maxL s args TT y.cls → GK G s s.heap → meth.sig.returnType = ret → meth.locks = false → meth.name = y.name → (∀ x ∈ c.exceptionTable.toList, False) →
      ∀ (H : Heap) (locs : List Loc) (ls : Array Slot), Mm G μ H → va_S (Ah G) s.heap H locs → lv_has ls maxL (lv_args 0 av) → W p l e rm s m args below meth c H locs 0 0 (vx_MQ below (mQ G post) (mX G px) args s rm.cells rm.slots (Ah G)) (F0 m 0 ls [])) : MX G l y cc maxL ret rm av μ post px := by
  refine vx_ofW (cc := cc) (maxL := maxL) (ret := ret) hy rfl ?_
  intro p e s m args below meth c s₁ B hml hex hv
  obtain ⟨rfl, hG, hM⟩ := hv
  have hts := atoms_spec (ws := Cond.code y cc maxL ret :: TT) B.pre
  have hown : s.vm.findClass y.cls = some m.cls := findClass_of_methodNamed B.named
  have hl := lv_entry av (n := maxL) hav
  rw [lg_entry_eq]
  exact body p e s m _ below meth c ⟨B.exec, B.bytes, hml, hown, fun w h => hts w (List.mem_cons_of_mem _ h)⟩ hG B.returns B.notSynchronized (name_of_methodNamed B.named B.method).1 hex s.heap [] _ hM va_S.rf hl
/-- it goes on to the caller -/
theorem mz_out {mc ms : Nat} {E : String} {ce : Cell} {q : Addr} (hex : ∀ x ∈ c.exceptionTable.toList, False) (hlk : meth.locks = false) (hM : Mm G μ H) (hS : va_S (Ah G) s.heap H locs) (hcell : H[q]? = some ce) (hv : ce.vm = .none) (hcl : s.vm.findClass E = some ce.cls) (hc : cells ≤ mc) (hs : slots ≤ ms) (hp : px E μ) :
    vx_W p l e R s m args below meth c H locs cells slots (vx_MQ below (mQ G post) (mX G px) args s mc ms (Ah G)) (F0 m pc ls rest) q :=
  vx_out (fun x hx => (hex x hx).elim) hlk hcell hv hcl (fun t ht _ => ⟨μ, hp, by rw [ht]; exact hM, hS.F ht⟩) hS.2.2 hc hs
end MROWS3
end
section
/-! 'throw new E("text")' -/
theorem Mm.keep {G : mgT} {μ : mmT} {H H1 : Heap} (hM : Mm G μ H) (z : H.size ≤ H1.size) (oq : ∀ q : Nat, q < H.size → H1[q]? = H[q]?) : Mm G μ H1 := by
  intro a ha
  obtain ⟨k1, k2, k3, k4⟩ := hM a ha
  refine ⟨k1, by omega, fun ci h hc => ?_, fun j h => ?_⟩
  · obtain ⟨r, r1, r2⟩ := k3 ci h hc
    exact ⟨r, r1, r2.kept (oq a k2)⟩
  · obtain ⟨r1, r2⟩ := k4 j h
    exact ⟨r1, by rw [oq a k2]; exact r2⟩
abbrev mzNm : List String := ["java/lang/RuntimeException", "java/lang/Exception"]
def mzX (own : String) (ik ic : Nat) (cls : String) : Prop := Bundle.fit cls = true ∧ (∀ n ∈ mzNm, Bundle.fit n = true) ∧ Cond.classLink own ik cls ∈ TT ∧ Cond.initialized cls ∈ TT ∧ (∀ w ∈ vx_atS own ic cls mzNm, w ∈ TT ∨ (w ∈ tables_1 ∧ isOt w = true)) ∧ (∀ w ∈ vx_atS own ic cls mzNm, vx_ot w = true)
theorem mz_atS {L : List Cond} (h : L.all (fun w => (goodWord w || isOt w) && decide (w ∈ lw_tbl)) = true) : ∀ w ∈ L, w ∈ TT ∨ (w ∈ lw_tbl ∧ isOt w = true) := by
  intro w hw
  have h1 := List.all_eq_true.mp h w hw
  simp only [Bool.and_eq_true, Bool.or_eq_true, decide_eq_true_eq] at h1
  rcases h1.1 with g | g
  · exact Or.inl (List.mem_filter.mpr ⟨List.mem_append_right _ h1.2, g⟩)
  · exact Or.inr ⟨h1.2, g⟩
theorem isOt_tbl {w : Cond} (h : isOt w = true) (hm : w ∈ lw_tbl) : w ∈ tables_1 := by
  rcases List.mem_append.mp hm with q | q
  · obtain ⟨x, -, rfl⟩ := List.mem_map.mp q
    cases h
  · exact q
theorem mz_mkX {own cls : String} {ik ic : Nat} (h1 : Bundle.fit cls = true) (h2 : ∀ n ∈ mzNm, Bundle.fit n = true) (h3 : Cond.classLink own ik cls ∈ TT) (h4 : Cond.initialized cls ∈ TT) (h5 : (vx_atS own ic cls mzNm).all (fun w => (goodWord w || isOt w) && decide (w ∈ lw_tbl)) = true) (h6 : (vx_atS own ic cls mzNm).all vx_ot = true) : mzX own ik ic cls :=
  ⟨h1, h2, h3, h4, fun w hw => (mz_atS h5 w hw).imp id (fun q => ⟨isOt_tbl q.2 q.1, q.2⟩), List.all_eq_true.mp h6⟩
section MROWS4
variable {p : Program} {l : Launch} {e : Env} {R : Room} {s : State} {m : MethodId} {args : Array Value} {below : List Frame} {meth : Method} {c : Code} {H : Heap} {locs : List Loc} {cells slots : Nat} {Q : State → Prop}
variable {cc : ByteArray} {pc : Nat} {ls : Array Slot} {rest st0 : List Value} {a nL : Nat} {own : String} {G : mgT} {μ : mmT} {post : Option Value → mmT → Prop} {px : String → mmT → Prop}
theorem mz_throw (S : CallFix p m c cc nL s args TT own) (hl : l.stackTraces = false) (hG : GK G s s.heap) (hM : Mm G μ H) (hS : va_S (Ah G) s.heap H locs) (hex : ∀ x ∈ c.exceptionTable.toList, False) (hlk : meth.locks = false) (hsz : ls.size = nL) {ik ic is j mc ms : Nat} {cls text : String} (x : mzX own ik ic cls) (hj : gStr[j]? = some (own, is, text))
    (d0 : decode cc pc = .ok (.new ik, 3)) (d3 : decode cc (pc + 3) = .ok (.dup, 1)) (d4 : decode cc (pc + 4) = .ok (.ldc is, 2)) (d6 : decode cc (pc + 6) = .ok (.invokespecial ic, 3)) (d9 : decode cc (pc + 9) = .ok (.athrow, 1))
    (hRf : 5 < R.frames) (hRl : (rest.map fun v => v.category).sum + 82 ≤ R.locals) (hRc : cells + 1 ≤ R.cells) (hRs : slots + 6 ≤ R.slots) (hc : cells + 1 ≤ mc) (hs : slots + 6 ≤ ms) (hp : px cls μ) :
    W p l e R s m args below meth c H locs cells slots (vx_MQ below (mQ G post) (mX G px) args s mc ms (Ah G)) (F0 m pc ls rest) := by
  obtain ⟨x1, x2, x3, x4, x5, x6⟩ := x
  have hts : ∀ w ∈ TT, w.before args s = true := fun w h => S.2.2.2.2 w h
  refine vx_throwS (names := mzNm) (A := Ah G) (sa := gS G j) S.1 S.2.1 hl S.2.2.2.1 x1 x2 (hts _ x3) (hts _ x4) (hG.2.2.2.2.2.1 j _ hj) (fun w hw => ?_) (fun w hw => ?_) hG.2.2.2.2.1.1 hG.2.2.2.2.1.2 hS (hsz.trans S.2.2.1.symm) d0 d3 d4 d6 d9 (fun x hx => (hex x hx).elim) hRf hRl hRc hRs hlk (fun t hvm hsz hq => ?_) hS.2.2 hc hs
  · rcases x5 w hw with h | ⟨h, ho⟩
    · exact hts _ h
    · have hz := hG.2.1 w h ho
      cases w with
      | declares x => exact va_Nw.use rfl hz
      | castable a b => exact va_Nw.use rfl hz
      | methodLinkNest a i x h => exact va_Nw.use rfl hz
      | fieldLinkNest a i b n d h => exact va_Nw.use rfl hz
      | _ => cases ho
  · rcases List.mem_cons.mp hw with h | h
    · rw [h]; rfl
    · rcases List.mem_cons.mp h with h | h
      · rw [h]; rfl
      · exact x6 w h
  · exact ⟨μ, hp, hM.keep hsz hq, ⟨Nat.le_trans hS.1 hsz, fun q h1 h2 => (hq q (Nat.lt_of_lt_of_le h1 hS.1)).trans (hS.2.1 q h1 h2)⟩⟩
end MROWS4
end
section
/-! values that may be null -/
theorem mz_cat (r : Option Nat) : (va_rf r).category = 1 := by cases r <;> rfl
theorem mz_cr (a : Nat) : (Value.ref a).category = 1 := rfl
theorem mz_ci (x : Int32) : (Value.int x).category = 1 := rfl
theorem mz_cl (x : Int64) : (Value.long x).category = 2 := rfl
theorem mz_cf (x : UInt32) : (Value.float x).category = 1 := rfl
theorem mz_cd (x : UInt64) : (Value.double x).category = 2 := rfl
theorem mz_cn : (Value.null).category = 1 := rfl
section MROWS5
variable {p : Program} {l : Launch} {e : Env} {R : Room} {s : State} {m : MethodId} {args : Array Value} {below : List Frame} {meth : Method} {c : Code} {H : Heap} {locs : List Loc} {cells slots : Nat} {Q : State → Prop}
variable {cc : ByteArray} {pc : Nat} {ls : Array Slot} {rest st0 : List Value}
theorem mz_o0 {x : Option Nat} {a : Nat} (q : x = some a) (k : W p l e R s m args below meth c H locs cells slots Q (F0 m pc ls (.ref a :: rest))) : W p l e R s m args below meth c H locs cells slots Q (F0 m pc ls (va_rf x :: rest)) := by subst q; exact k
theorem mz_o1 {x : Option Nat} {a : Nat} {v1 : Value} (q : x = some a) (k : W p l e R s m args below meth c H locs cells slots Q (F0 m pc ls (v1 :: .ref a :: rest))) : W p l e R s m args below meth c H locs cells slots Q (F0 m pc ls (v1 :: va_rf x :: rest)) := by subst q; exact k
theorem mz_o2 {x : Option Nat} {a : Nat} {v1 v2 : Value} (q : x = some a) (k : W p l e R s m args below meth c H locs cells slots Q (F0 m pc ls (v1 :: v2 :: .ref a :: rest))) : W p l e R s m args below meth c H locs cells slots Q (F0 m pc ls (v1 :: v2 :: va_rf x :: rest)) := by subst q; exact k
theorem mz_o3 {x : Option Nat} {a : Nat} {v1 v2 v3 : Value} (q : x = some a) (k : W p l e R s m args below meth c H locs cells slots Q (F0 m pc ls (v1 :: v2 :: v3 :: .ref a :: rest))) : W p l e R s m args below meth c H locs cells slots Q (F0 m pc ls (v1 :: v2 :: v3 :: va_rf x :: rest)) := by subst q; exact k
theorem mz_o4 {x : Option Nat} {a : Nat} {v1 v2 v3 v4 : Value} (q : x = some a) (k : W p l e R s m args below meth c H locs cells slots Q (F0 m pc ls (v1 :: v2 :: v3 :: v4 :: .ref a :: rest))) : W p l e R s m args below meth c H locs cells slots Q (F0 m pc ls (v1 :: v2 :: v3 :: v4 :: va_rf x :: rest)) := by subst q; exact k
theorem mz_ifnull (hexec : p.tables.exec = Jvm.exec) (hb : c.code = cc) {x : Option Nat} {off : Int} {tgt : Nat} (hdg : decode cc pc = .ok (.ifnull off, 3)) (ht : (pc : Int) + off = (tgt : Int)) (kt : x = none → W p l e R s m args below meth c H locs cells slots Q (F0 m tgt ls rest)) (kf : ∀ a, x = some a → W p l e R s m args below meth c H locs cells slots Q (F0 m (pc + 3) ls rest)) : W p l e R s m args below meth c H locs cells slots Q (F0 m pc ls (va_rf x :: rest)) := by
  cases x with
  | none => exact lv_ifnullN hexec hb hdg ht (kt rfl)
  | some a => exact lv_ifnull hexec hb hdg (kf a rfl)
theorem mz_ifnonnull (hexec : p.tables.exec = Jvm.exec) (hb : c.code = cc) {x : Option Nat} {off : Int} {tgt : Nat} (hdg : decode cc pc = .ok (.ifnonnull off, 3)) (ht : (pc : Int) + off = (tgt : Int)) (kt : ∀ a, x = some a → W p l e R s m args below meth c H locs cells slots Q (F0 m tgt ls rest)) (kf : x = none → W p l e R s m args below meth c H locs cells slots Q (F0 m (pc + 3) ls rest)) : W p l e R s m args below meth c H locs cells slots Q (F0 m pc ls (va_rf x :: rest)) := by
  cases x with
  | none => exact lv_ifnonnullN hexec hb hdg (kf rfl)
  | some a => exact lv_ifnonnull hexec hb hdg ht (kt a rfl)
theorem mz_aload_n (hexec : p.tables.exec = Jvm.exec) (hb : c.code = cc) {k : Fin 4} {i : Nat} {x : Option Nat} (hdg : decode cc pc = .ok (.aload_n k, 1)) (hi : (k : Nat) = i) (hl : ls[i]? = some (.val (va_rf x)))
    (kk : W p l e R s m args below meth c H locs cells slots Q (F0 m (pc + 1) ls (va_rf x :: rest))) : W p l e R s m args below meth c H locs cells slots Q (F0 m pc ls rest) := by
  cases x with
  | none => exact lv_aload_nN hexec hb hdg hi hl kk
  | some a => exact lv_aload_n hexec hb hdg hi hl kk
theorem mz_aload (hexec : p.tables.exec = Jvm.exec) (hb : c.code = cc) {i : Nat} {x : Option Nat} (hdg : decode cc pc = .ok (.aload i, 2)) (hl : ls[i]? = some (.val (va_rf x)))
    (kk : W p l e R s m args below meth c H locs cells slots Q (F0 m (pc + 2) ls (va_rf x :: rest))) : W p l e R s m args below meth c H locs cells slots Q (F0 m pc ls rest) := by
  cases x with
  | none => exact lv_aloadN hexec hb hdg hl kk
  | some a => exact lv_aload hexec hb hdg hl kk
theorem mz_astore_n (hexec : p.tables.exec = Jvm.exec) (hb : c.code = cc) {k : Fin 4} {i nL : Nat} {x : Option Nat} {lv lv' : List (Nat × Value)} (hdg : decode cc pc = .ok (.astore_n k, 1)) (hi : (k : Nat) = i) (h : lv_has ls nL lv) (hn : i < nL) (hl : (i, va_rf x) :: lv.filter (fun q => !(q.1 == i) && !(q.1 + 1 == i && q.2.category == 2)) = lv')
    (kk : ∀ ls' : Array Slot, lv_has ls' nL lv' → W p l e R s m args below meth c H locs cells slots Q (F0 m (pc + 1) ls' rest)) : W p l e R s m args below meth c H locs cells slots Q (F0 m pc ls (va_rf x :: rest)) := by
  cases x with
  | none => exact lv_astore_nN hexec hb hdg hi h hn hl kk
  | some a => exact lv_astore_n hexec hb hdg hi h hn hl kk
theorem mz_astore (hexec : p.tables.exec = Jvm.exec) (hb : c.code = cc) {i nL : Nat} {x : Option Nat} {lv lv' : List (Nat × Value)} (hdg : decode cc pc = .ok (.astore i, 2)) (h : lv_has ls nL lv) (hn : i < nL) (hl : (i, va_rf x) :: lv.filter (fun q => !(q.1 == i) && !(q.1 + 1 == i && q.2.category == 2)) = lv')
    (kk : ∀ ls' : Array Slot, lv_has ls' nL lv' → W p l e R s m args below meth c H locs cells slots Q (F0 m (pc + 2) ls' rest)) : W p l e R s m args below meth c H locs cells slots Q (F0 m pc ls (va_rf x :: rest)) := by
  cases x with
  | none => exact lv_astoreN hexec hb hdg h hn hl kk
  | some a => exact lv_astore hexec hb hdg h hn hl kk
theorem mz_tops {v w : Value} (q : v = w) (k : W p l e R s m args below meth c H locs cells slots Q (F0 m pc ls (w :: rest))) : W p l e R s m args below meth c H locs cells slots Q (F0 m pc ls (v :: rest)) := by subst q; exact k
end MROWS5
end
section
section MROWS6
variable {p : Program} {l : Launch} {e : Env} {R : Room} {s : State} {m : MethodId} {args : Array Value} {below : List Frame} {meth : Method} {c : Code} {H : Heap} {locs : List Loc} {cells slots : Nat} {Q : State → Prop}
variable {cc : ByteArray} {pc : Nat} {ls : Array Slot} {rest st0 : List Value} {a nL : Nat} {own : String} {G : mgT} {μ : mmT} {post : Option Value → mmT → Prop} {px : String → mmT → Prop}
theorem mz_throwW (S : CallFix p m c cc nL s args TT own) (hl : l.stackTraces = false) (hG : GK G s s.heap) (hM : Mm G μ H) (hS : va_S (Ah G) s.heap H locs) (hex : ∀ x ∈ c.exceptionTable.toList, False) (hlk : meth.locks = false) (hsz : ls.size = nL) {ik ic is j mc ms : Nat} {cls text : String} (x : mzX own ik ic cls) (hj : gStr[j]? = some (own, is, text))
    (d0 : decode cc pc = .ok (.new ik, 3)) (d3 : decode cc (pc + 3) = .ok (.dup, 1)) (d4 : decode cc (pc + 4) = .ok (.ldc_w is, 3)) (d6 : decode cc (pc + 7) = .ok (.invokespecial ic, 3)) (d9 : decode cc (pc + 10) = .ok (.athrow, 1))
    (hRf : 5 < R.frames) (hRl : (rest.map fun v => v.category).sum + 82 ≤ R.locals) (hRc : cells + 1 ≤ R.cells) (hRs : slots + 6 ≤ R.slots) (hc : cells + 1 ≤ mc) (hs : slots + 6 ≤ ms) (hp : px cls μ) :
    W p l e R s m args below meth c H locs cells slots (vx_MQ below (mQ G post) (mX G px) args s mc ms (Ah G)) (F0 m pc ls rest) := by
  obtain ⟨x1, x2, x3, x4, x5, x6⟩ := x
  have hts : ∀ w ∈ TT, w.before args s = true := fun w h => S.2.2.2.2 w h
  refine vx_throwSW (names := mzNm) (A := Ah G) (sa := gS G j) S.1 S.2.1 hl S.2.2.2.1 x1 x2 (hts _ x3) (hts _ x4) (hG.2.2.2.2.2.1 j _ hj) (fun w hw => ?_) (fun w hw => ?_) hG.2.2.2.2.1.1 hG.2.2.2.2.1.2 hS (hsz.trans S.2.2.1.symm) d0 d3 d4 d6 d9 (fun x hx => (hex x hx).elim) hRf hRl hRc hRs hlk (fun t hvm hsz hq => ?_) hS.2.2 hc hs
  · rcases x5 w hw with h | ⟨h, ho⟩
    · exact hts _ h
    · have hz := hG.2.1 w h ho
      cases w with
      | declares x => exact va_Nw.use rfl hz
      | castable a b => exact va_Nw.use rfl hz
      | methodLinkNest a i x h => exact va_Nw.use rfl hz
      | fieldLinkNest a i b n d h => exact va_Nw.use rfl hz
      | _ => cases ho
  · rcases List.mem_cons.mp hw with h | h
    · rw [h]; rfl
    · rcases List.mem_cons.mp h with h | h
      · rw [h]; rfl
      · exact x6 w h
  · exact ⟨μ, hp, hM.keep hsz hq, ⟨Nat.le_trans hS.1 hsz, fun q h1 h2 => (hq q (Nat.lt_of_lt_of_le h1 hS.1)).trans (hS.2.1 q h1 h2)⟩⟩
theorem mz_nZ {x : Int32} (h : x = 0 ∨ x = 1) : narrow .boolean (.int x) = .int x := by rcases h with rfl | rfl <;> rfl
theorem mz_fZ {x : Int32} (h : x = 0 ∨ x = 1) : fits .boolean (.int x) = true := by rcases h with rfl | rfl <;> rfl
def isCh (x : Int32) : Prop := ∃ n : Nat, n < 65536 ∧ x = nI n
theorem mz_nC {x : Int32} (h : isCh x) : narrow .char (.int x) = .int x := by obtain ⟨n, hn, rfl⟩ := h; exact (pk_charN hn).1
theorem mz_fC {x : Int32} (h : isCh x) : fits .char (.int x) = true := by obtain ⟨n, hn, rfl⟩ := h; exact (pk_charN hn).2
theorem mz_table (hexec : p.tables.exec = Jvm.exec) (hb : c.code = cc) {dflt lo hi : Int} {offs : Array Int} {len : Nat} {x : Int32} {tgt : Nat} (hdg : decode cc pc = .ok (.tableswitch dflt lo hi offs, len)) (hsz : (hi - lo).toNat < offs.size) (ht : (pc : Int) + (if x.toInt < lo ∨ hi < x.toInt then dflt else (offs[(x.toInt - lo).toNat]?).getD dflt) = (tgt : Int))
    (k : W p l e R s m args below meth c H locs cells slots Q (F0 m tgt ls rest)) : W p l e R s m args below meth c H locs cells slots Q (F0 m pc ls (.int x :: rest)) := by
  by_cases h : x.toInt < lo ∨ hi < x.toInt
  · rw [if_pos h] at ht
    exact lv_tableOut hexec hb hdg h ht k
  · rw [if_neg h] at ht
    have hj : (x.toInt - lo).toNat < offs.size := by omega
    refine lv_tableIn hexec hb hdg (fun q => h (Or.inl q)) (fun q => h (Or.inr q)) (off := (offs[(x.toInt - lo).toNat]?).getD dflt) ?_ ht k
    rw [Array.getElem?_eq_getElem hj]
    rfl
/-- none of the keys: the default -/
theorem mz_dflt {dflt lo hi : Int} {offs : Array Int} {x : Int32} (ks : List Nat) (n : Nat) (h1 : hi < lo + n) (h2 : ∀ j, j < n → (lo + (j : Int)).toNat ∉ ks → (offs[j]?).getD dflt = dflt) (h0 : 0 ≤ lo) (hk : hi < 2 ^ 31) (hx : ∀ k ∈ ks, ¬ x = nI k) : (if x.toInt < lo ∨ hi < x.toInt then dflt else (offs[(x.toInt - lo).toNat]?).getD dflt) = dflt := by
  by_cases h : x.toInt < lo ∨ hi < x.toInt
  · rw [if_pos h]
  · rw [if_neg h]
    refine h2 _ (by omega) (fun hm => hx _ hm ?_)
    have e : lo + ((x.toInt - lo).toNat : Int) = x.toInt := by omega
    rw [e]
    apply Int32.toInt_inj.mp
    rw [nI_toInt (by omega)]
    omega
end MROWS6
end
section
/-! THE GIVEN THINGS, CALLS OF OTHER KINDS -/
theorem gPat_lt (j : Nat) : gPat j < 37 := by
  unfold gPat
  match j with
  | 0 => decide
  | 1 => decide
  | 2 => decide
  | 3 => decide
  | 4 => decide
  | 5 => decide
  | 6 => decide
  | 7 => decide
  | 8 => decide
  | j + 9 => exact (by decide : (0 : Nat) < 37)
section MGK
variable {G : mgT} {s : State} {args : Array Value}
theorem GK.cast (hG : GK G s s.heap) {i : Nat} {a b : String} (h : tables_1[i]? = some (Cond.castable a b)) : (Cond.castable a b).before args s = true := va_Nw.use rfl (hG.2.1 _ (List.mem_of_getElem? h) rfl)
theorem GK.nc (hG : GK G s s.heap) {a b : String} (h : (a, b) ∈ gNc) : va_Nc a b s := hG.2.2.2.1 (a, b) h
theorem GK.txt (hG : GK G s s.heap) (j : Nat) (h : j < 37) : mzS G j s s.heap := hG.2.2.2.2.2.2.1 j h
theorem GK.pat (hG : GK G s s.heap) (j : Nat) (h : j < 9) : va_OF "CrowMail$Form" "pattern" "Ljava/lang/String;" (.ref (gS G (gPat j))) (gE G j) (Ah G) s s.heap := hG.2.2.2.2.2.2.2.1.2 j h
theorem GK.enz (hG : GK G s s.heap) (j : Nat) (h : j < 9) : va_Z "CrowMail$Form" (gNm.getD j "") "LCrowMail$Form;" (.ref (gE G j)) (Ah G) s s.heap := (hG.2.2.2.2.2.2.2.1.1.1 j h).1
theorem GK.eno (hG : GK G s s.heap) (j : Nat) (h : j < 9) : va_O "CrowMail$Form" (gE G j) (Ah G) s s.heap := (hG.2.2.2.2.2.2.2.1.1.1 j h).2.1
theorem GK.ord (hG : GK G s s.heap) (j : Nat) (h : j < 9) : va_OF "java/lang/Enum" "ordinal" "I" (.int (gOrd.getD j 0)) (gE G j) (Ah G) s s.heap := (hG.2.2.2.2.2.2.2.1.1.1 j h).2.2 _ List.mem_cons_self
theorem GK.forms (hG : GK G s s.heap) : va_Z "CrowMail" "FORMS" "[LCrowMail$Form;" (.ref (gX G 0)) (Ah G) s s.heap ∧ va_T (.object "CrowMail$Form") (gX G 0) 9 (fun i => .ref (gE G i)) (Ah G) s s.heap := hG.2.2.2.2.2.2.2.2.1
theorem GK.sw (hG : GK G s s.heap) : va_Z "CrowMail$1" "$SwitchMap$CrowMail$Form" "[I" (.ref (gX G 1)) (Ah G) s s.heap ∧ va_T .int (gX G 1) 9 (fun i => .int (gSw i)) (Ah G) s s.heap := hG.2.2.2.2.2.2.2.2.2.1
theorem GK.one (hG : GK G s s.heap) : va_Z "java/lang/Integer" "DigitOnes" "[B" (.ref (gX G 2)) (Ah G) s s.heap ∧ va_T .byte (gX G 2) 100 (fun i => .int (gOne i)) (Ah G) s s.heap := hG.2.2.2.2.2.2.2.2.2.2.2.1
theorem GK.ten (hG : GK G s s.heap) : va_Z "java/lang/Integer" "DigitTens" "[B" (.ref (gX G 3)) (Ah G) s s.heap ∧ va_T .byte (gX G 3) 100 (fun i => .int (gTen i)) (Ah G) s s.heap := hG.2.2.2.2.2.2.2.2.2.2.2.2.1
theorem GK.sio (hG : GK G s s.heap) : va_Z "jdk/internal/util/Preconditions" "SIOOBE_FORMATTER" "Ljava/util/function/BiFunction;" (va_rf (gF G)) (Ah G) s s.heap := hG.2.2.2.2.2.2.2.2.2.2.2.2.2.1
theorem GK.scr (hG : GK G s s.heap) : va_T .int (gX G 5) (gX G 6) (fun i => .int (gQ G i)) (Ah G) s s.heap := hG.2.2.2.2.2.2.2.2.2.2.2.2.2.2.1
theorem GK.low (hG : GK G s s.heap) : gh G ≤ s.heap.size := hG.2.2.2.2.2.2.2.2.2.2.2.2.2.2.2
theorem GK.at0 (hG : GK G s s.heap) (ci : Nat) (h : ci < 11) : ∃ r, mmCl[ci]? = some r ∧ ClassAt s r.1 ((gD G).1 ci) := by
  obtain ⟨r, hr⟩ : ∃ r, mmCl[ci]? = some r := ⟨_, List.getElem?_eq_getElem (by exact h)⟩
  exact ⟨r, hr, (hG.1.1 ci _ hr).2⟩
end MGK
theorem mz_recvO {G : mgT} {s : State} {H : Heap} {locs : List Loc} {E : String} {t : Nat} (hO : va_O E t (Ah G) s s.heap) (hS : va_S (Ah G) s.heap H locs) : ∃ cellB : Cell, H[t]? = some cellB ∧ cellB.vm.isStatics = false ∧ s.vm.findClass E = some cellB.cls := by
  obtain ⟨cell, h1, h2, h3, h4⟩ := hO
  exact ⟨cell, by rw [hS.2.1 t (Array.getElem?_eq_some_iff.mp h1).1 h4]; exact h1, h2, h3⟩
/-- a private method is selected for an object of a class below, whatever it is -/
theorem mz_selP {s : State} {args : Array Value} {C : String} {y0 y : MethodName} (h0 : (Cond.selects C y0 y0).before args s = true) (hc : y.cls = y0.cls) (hy : y.cls ≠ "java/lang/invoke/MethodHandle" ∧ y.cls ≠ "java/lang/invoke/VarHandle") (hpriv : (Cond.privateMethod y).before args s = true) (hinst : (Cond.instanceMethod y).before args s = true) : (Cond.selects C y y).before args s = true := by
  obtain ⟨mk, methM, hnamed, hmethM, -, -⟩ := Cond.instanceMethod_spec hinst
  have hfound : s.methodFound? y.cls y.name y.desc = some mk := State.methodFound?_of_named hnamed hy
  have hcls : s.vm.findClass y.cls = some mk.cls := findClass_of_methodNamed hnamed
  simp only [Cond.before, Cond.holds, Cond.value] at h0 ⊢
  cases hC : s.vm.findClass C with
  | none => simp [hC] at h0
  | some c =>
    cases hF : s.methodFound? y0.cls y0.name y0.desc with
    | none => simp [hC, hF] at h0
    | some r =>
      cases hN : s.methodNamed? y0 with
      | none => simp [hC, hF, hN] at h0
      | some m0 =>
        have hc0 : s.vm.findClass y0.cls = some m0.cls := findClass_of_methodNamed hN
        have e : mk.cls = m0.cls := Option.some.inj ((hcls.symm.trans (by rw [hc])).trans hc0)
        have hsel : selectMethod {} s.vm c mk = .method mk := selectMethod_private hmethM (Cond.privateMethod_at hpriv mk methM hnamed hmethM)
        simp only [hC, hF, hN] at h0
        simp only [hfound, hnamed, hsel, e]
        cases hq : selectMethod {} s.vm c r with
        | method m' =>
          simp only [hq] at h0
          have h9 : (s.vm.classes[m0.cls]?).any (!·.isInterface) = true := by
            revert h0
            cases (s.vm.classes[m0.cls]?).any (!·.isInterface) <;> simp
          simp [h9]
        | _ => simp [hq] at h0
section MROWS7
variable {p : Program} {l : Launch} {e : Env} {R : Room} {s : State} {m : MethodId} {args : Array Value} {below : List Frame} {meth : Method} {c : Code} {H : Heap} {locs : List Loc} {cells slots : Nat} {Q : State → Prop}
variable {cc : ByteArray} {pc : Nat} {ls : Array Slot} {rest st0 : List Value} {a nL : Nat} {own : String} {G : mgT} {μ : mmT}
variable {y : MethodName} {bytes : ByteArray} {maxL n index : Nat} {ret : Option FieldType} {rm : Room} {av As : List Value} {b : Nat} {post : Option Value → mmT → Prop} {px : String → mmT → Prop}
theorem mz_formsA (S : CallFix p m c cc nL s args TT own) (hG : GK G s s.heap) (hS : va_S (Ah G) s.heap H locs) {i : Int32} (e0 : a = gX G 0) (hin : vp_in i 9) (hd : decode cc pc = .ok (.aaload, 1))
    (kk : W p l e R s m args below meth c H locs cells slots Q (F0 m (pc + 1) ls (.ref (gE G i.toNatClampNeg) :: rest))) : W p l e R s m args below meth c H locs cells slots Q (F0 m pc ls (.int i :: .ref a :: rest)) := by
  subst e0
  exact vb_tq S.1 S.2.1 hG.forms.2 hS hin rfl hd kk
theorem mz_formsL (S : CallFix p m c cc nL s args TT own) (hG : GK G s s.heap) (hS : va_S (Ah G) s.heap H locs) (e0 : a = gX G 0) (hd : decode cc pc = .ok (.arraylength, 1))
    (kk : W p l e R s m args below meth c H locs cells slots Q (F0 m (pc + 1) ls (.int (nI 9) :: rest))) : W p l e R s m args below meth c H locs cells slots Q (F0 m pc ls (.ref a :: rest)) := by
  subst e0
  exact va_tlen S.1 S.2.1 hG.forms.2 hS rfl hd kk
/-- the bytes of a text -/
theorem mz_txtL (S : CallFix p m c cc nL s args TT own) (hG : GK G s s.heap) (hS : va_S (Ah G) s.heap H locs) {j : Nat} (hj : j < 37) (e0 : a = gV G j) (hd : decode cc pc = .ok (.arraylength, 1))
    (kk : W p l e R s m args below meth c H locs cells slots Q (F0 m (pc + 1) ls (.int (nI (gLen.getD j 0)) :: rest))) : W p l e R s m args below meth c H locs cells slots Q (F0 m pc ls (.ref a :: rest)) := by
  subst e0
  exact va_tlen S.1 S.2.1 (hG.txt j hj).2.2.2 hS rfl hd kk
theorem mz_txtA (S : CallFix p m c cc nL s args TT own) (hG : GK G s s.heap) (hS : va_S (Ah G) s.heap H locs) {j : Nat} (hj : j < 37) (e0 : a = gV G j) {i : Int32} (hin : vp_in i (gLen.getD j 0)) (hd : decode cc pc = .ok (.baload, 1))
    (kk : W p l e R s m args below meth c H locs cells slots Q (F0 m (pc + 1) ls (.int ((gByt.getD j []).getD i.toNatClampNeg 0) :: rest))) : W p l e R s m args below meth c H locs cells slots Q (F0 m pc ls (.int i :: .ref a :: rest)) := by
  subst e0
  exact va_tb S.1 S.2.1 (hG.txt j hj).2.2.2 hS hin rfl hd kk
/-- a constructor that makes no cell, and a nest mate's -/
theorem mz_IC (S : CallFix p m c cc nL s args TT own) (hG : GK G s s.heap) (hM : Mm G μ H) (hS : va_S (Ah G) s.heap H locs) (hc : MC G l y bytes maxL none rm (.ref b :: As) μ post) (yf : mzY y bytes maxL none n) (hy1 : y.name = "<init>")
    (w1 : Cond.methodLink own index y ∈ TT) (w2 : Cond.instanceMethod y ∈ TT) (hR : rm.frames + 1 ≤ R.frames ∧ 8 + (maxL + 11) + rm.locals ≤ R.locals) (hf : cells + rm.cells ≤ R.cells ∧ slots + rm.slots ≤ R.slots) (hn : As.length = n) (hsize : ls.size = nL) (hst : st0 = As.reverse ++ .ref b :: rest) (hW : (rest.map fun v => v.category).sum ≤ 8) (hd : decode cc pc = .ok (.invokespecial index, 3))
    (kk : ∀ (v : Option Value) (μ' : mmT) (H1 : Heap) (locs1 : List Loc), post v μ' → Mm G μ' H1 → va_S (Ah G) s.heap H1 locs1 → W p l e R s m args below meth c H1 locs1 (cells + rm.cells) (slots + rm.slots) Q (F0 m (pc + 3) ls (v.toList ++ rest))) : W p l e R s m args below meth c H locs cells slots Q (F0 m pc ls st0) :=
  mz_run (va_runI S hc ⟨mz_callB S yf w1 hR, hy1, S.2.2.2.2 _ w2⟩ ⟨mP_blind, mz_pre hG hM hS⟩ rfl hn hsize hst (lv_room hW) hd hf) hS kk
theorem mz_ICN (S : CallFix p m c cc nL s args TT own) (hG : GK G s s.heap) (hM : Mm G μ H) (hS : va_S (Ah G) s.heap H locs) {host : String} (hc : MC G l y bytes maxL none rm (.ref b :: As) μ post) (yf : mzY y bytes maxL none n) (hy1 : y.name = "<init>")
    (w1 : Cond.methodLinkNest own index y host ∈ tables_1) (w2 : Cond.instanceMethod y ∈ TT) (hR : rm.frames + 1 ≤ R.frames ∧ 8 + (maxL + 11) + rm.locals ≤ R.locals) (hf : cells + rm.cells ≤ R.cells ∧ slots + rm.slots ≤ R.slots) (hn : As.length = n) (hsize : ls.size = nL) (hst : st0 = As.reverse ++ .ref b :: rest) (hW : (rest.map fun v => v.category).sum ≤ 8) (hd : decode cc pc = .ok (.invokespecial index, 3))
    (kk : ∀ (v : Option Value) (μ' : mmT) (H1 : Heap) (locs1 : List Loc), post v μ' → Mm G μ' H1 → va_S (Ah G) s.heap H1 locs1 → W p l e R s m args below meth c H1 locs1 (cells + rm.cells) (slots + rm.slots) Q (F0 m (pc + 3) ls (v.toList ++ rest))) : W p l e R s m args below meth c H locs cells slots Q (F0 m pc ls st0) :=
  mz_run (va_runIN S hc ⟨⟨⟨rfl, rfl, hR.1, hR.2, pay_in S.2.2.2.2 (TT_g yf.1), List.mem_cons_self⟩, S.2.2.2.2 _ yf.1, S.2.2.2.2 _ yf.2.1, yf.2.2.1, mz_sigs yf.2.2.2, va_Nw.use rfl (hG.2.1 _ w1 rfl)⟩, hy1, S.2.2.2.2 _ w2⟩ ⟨mP_blind, mz_pre hG hM hS⟩ rfl hn hsize hst (lv_room hW) hd hf) hS kk
/-- super.m(..) -/
theorem mz_SU (S : CallFix p m c cc nL s args TT own) (hG : GK G s s.heap) (hM : Mm G μ H) (hS : va_S (Ah G) s.heap H locs) {ci N : Nat} {C : String} {T : u_T} {ty : Nat → FieldType} (f : mzC ci C T N ty) (hb : mK μ b = ci + 1) (hc : MC G l y bytes maxL ret rm (.ref b :: As) μ post) (yf : mzY y bytes maxL ret n)
    (w1 : Cond.methodLink own index y ∈ TT) (w2 : Cond.sameMethod y.cls y.cls y.name y.desc ∈ TT) (w3 : Cond.superclass own y.cls ∈ TT) (w4 : Cond.instanceMethod y ∈ TT) (hno : y.name ≠ "<init>") (hR : rm.frames + 1 ≤ R.frames ∧ 8 + (maxL + 11) + rm.locals ≤ R.locals) (hf : cells + rm.cells ≤ R.cells ∧ slots + rm.slots ≤ R.slots) (hn : As.length = n) (hsize : ls.size = nL) (hst : st0 = As.reverse ++ .ref b :: rest) (hW : (rest.map fun v => v.category).sum ≤ 8) (hd : decode cc pc = .ok (.invokespecial index, 3))
    (kk : ∀ (v : Option Value) (μ' : mmT) (H1 : Heap) (locs1 : List Loc), post v μ' → Mm G μ' H1 → va_S (Ah G) s.heap H1 locs1 → W p l e R s m args below meth c H1 locs1 (cells + rm.cells) (slots + rm.slots) Q (F0 m (pc + 3) ls (v.toList ++ rest))) : W p l e R s m args below meth c H locs cells slots Q (F0 m pc ls st0) :=
  mz_run (va_runSU (hG.1.1 ci _ f.2.1).2 S hc ⟨⟨rfl, rfl, hR.1, hR.2, pay_in S.2.2.2.2 (TT_g yf.1), List.mem_cons_self⟩, S.2.2.2.2 _ w1, S.2.2.2.2 _ w2, S.2.2.2.2 _ w3, S.2.2.2.2 _ w4, S.2.2.2.2 _ yf.2.1, S.2.2.2.2 _ yf.1, hno, mz_sigs yf.2.2.2⟩ ⟨mP_blind, mz_recv hG hM f hb, mz_pre hG hM hS⟩ rfl hn hsize hst (lv_room hW) hd hf) hS kk
/-- a virtual call on a receiver of a known class -/
theorem mz_V0 (S : CallFix p m c cc nL s args TT own) (hG : GK G s s.heap) (hM : Mm G μ H) (hS : va_S (Ah G) s.heap H locs) {C : String} (hO : ∃ cellB : Cell, H[b]? = some cellB ∧ cellB.vm.isStatics = false ∧ s.vm.findClass C = some cellB.cls) (hc : MC G l y bytes maxL ret rm (.ref b :: As) μ post) (yf : mzY y bytes maxL ret n)
    (w1 : Cond.methodLink own index y ∈ TT) (w2 : Cond.instanceMethod y ∈ TT) (w3 : (Cond.selects C y y).before args s = true) (hR : rm.frames + 1 ≤ R.frames ∧ 8 + (maxL + 11) + rm.locals ≤ R.locals) (hf : cells + rm.cells ≤ R.cells ∧ slots + rm.slots ≤ R.slots) (hn : As.length = n) (hsize : ls.size = nL) (hst : st0 = As.reverse ++ .ref b :: rest) (hW : (rest.map fun v => v.category).sum ≤ 8) (hd : decode cc pc = .ok (.invokevirtual index, 3))
    (kk : ∀ (v : Option Value) (μ' : mmT) (H1 : Heap) (locs1 : List Loc), post v μ' → Mm G μ' H1 → va_S (Ah G) s.heap H1 locs1 → W p l e R s m args below meth c H1 locs1 (cells + rm.cells) (slots + rm.slots) Q (F0 m (pc + 3) ls (v.toList ++ rest))) : W p l e R s m args below meth c H locs cells slots Q (F0 m pc ls st0) :=
  mz_run (va_runV S hc ⟨mz_callB S yf w1 hR, S.2.2.2.2 _ w2, w3⟩ ⟨mP_blind, hO, mz_pre hG hM hS⟩ rfl hn hsize hst (lv_room hW) hd hf) hS kk
/-- an inherited method, called by the name of the class below -/
theorem mz_U (S : CallFix p m c cc nL s args TT own) (hG : GK G s s.heap) (hM : Mm G μ H) (hS : va_S (Ah G) s.heap H locs) {C : String} {x : MethodName} (hO : ∃ cellB : Cell, H[b]? = some cellB ∧ cellB.vm.isStatics = false ∧ s.vm.findClass C = some cellB.cls) (hc : MC G l y bytes maxL ret rm (.ref b :: As) μ post) (yf : mzY y bytes maxL ret n) (hxy : y = ⟨y.cls, x.name, x.desc⟩)
    (w1 : Cond.methodLink own index x ∈ TT) (w4 : Cond.sameMethod x.cls y.cls x.name x.desc ∈ TT) (w2 : Cond.instanceMethod y ∈ TT) (w3 : Cond.selects C x y ∈ TT) (hR : rm.frames + 1 ≤ R.frames ∧ 8 + (maxL + 11) + rm.locals ≤ R.locals) (hf : cells + rm.cells ≤ R.cells ∧ slots + rm.slots ≤ R.slots) (hn : As.length = n) (hsize : ls.size = nL) (hst : st0 = As.reverse ++ .ref b :: rest) (hW : (rest.map fun v => v.category).sum ≤ 8) (hd : decode cc pc = .ok (.invokevirtual index, 3))
    (kk : ∀ (v : Option Value) (μ' : mmT) (H1 : Heap) (locs1 : List Loc), post v μ' → Mm G μ' H1 → va_S (Ah G) s.heap H1 locs1 → W p l e R s m args below meth c H1 locs1 (cells + rm.cells) (slots + rm.slots) Q (F0 m (pc + 3) ls (v.toList ++ rest))) : W p l e R s m args below meth c H locs cells slots Q (F0 m pc ls st0) := by
  have hdesc : y.desc = x.desc := by
    have h9 := congrArg MethodName.desc hxy
    exact h9
  refine mz_run (va_runU (C := C) (owner := y.cls) (x := x) S hc ⟨⟨rfl, rfl, hR.1, hR.2, pay_in S.2.2.2.2 (TT_g yf.1), List.mem_cons_self⟩, S.2.2.2.2 _ yf.1, S.2.2.2.2 _ yf.2.1, yf.2.2.1, mz_sigs (by rw [← hdesc]; exact yf.2.2.2), S.2.2.2.2 _ w1, S.2.2.2.2 _ w4, ?_, S.2.2.2.2 _ w3, S.2.2.2.2 _ w2⟩ ⟨mP_blind, hO, mz_pre hG hM hS⟩ rfl hn hsize hst (lv_room hW) hd hf) hS kk
  rw [← hxy]
  exact va_Decl.of (S.2.2.2.2 _ w2) (S.2.2.2.2 _ yf.1)
/-! methods that catch -/
def mzYH (y : MethodName) (cc : ByteArray) (maxL : Nat) (ret : Option FieldType) (hh : List (Nat × Nat × Nat × Nat)) (n : Nat) : Prop :=
  Cond.codeWith y cc maxL ret hh ∈ TT ∧ Cond.initialized y.cls ∈ TT ∧ (y.cls ≠ "java/lang/invoke/MethodHandle" ∧ y.cls ≠ "java/lang/invoke/VarHandle") ∧ (parseMethodDescriptor y.desc).map (fun d => d.parameters.length) = some n
def MH (G : mgT) (l : Launch) (y : MethodName) (cc : ByteArray) (maxL : Nat) (ret : Option FieldType) (hh : List (Nat × Nat × Nat × Nat)) (rm : Room) (av : List Value) (μ : mmT) (post : Option Value → mmT → Prop) : Prop :=
  Met l y (Cond.codeWith y cc maxL ret hh :: TT) rm (mP G av μ) (mQ G post) rm.cells rm.slots (Ah G)
theorem TT_gH {hh : List (Nat × Nat × Nat × Nat)} (h : Cond.codeWith y bytes maxL ret hh ∈ TT) : GoodIn TT (Cond.codeWith y bytes maxL ret hh :: TT) := fun w hw => by
  rcases List.mem_cons.mp hw with e | e
  · rw [e]; exact ⟨h, TT_ok h⟩
  · exact ⟨e, TT_ok e⟩
theorem mz_SH {hh : List (Nat × Nat × Nat × Nat)} (S : CallFix p m c cc nL s args TT own) (hG : GK G s s.heap) (hM : Mm G μ H) (hS : va_S (Ah G) s.heap H locs) (hc : MH G l y bytes maxL ret hh rm As μ post) (yf : mzYH y bytes maxL ret hh n)
    (w1 : Cond.methodLink own index y ∈ TT) (w2 : Cond.static y ∈ TT) (hR : rm.frames + 1 ≤ R.frames ∧ 8 + (maxL + 11) + rm.locals ≤ R.locals) (hf : cells + rm.cells ≤ R.cells ∧ slots + rm.slots ≤ R.slots) (hn : As.length = n) (hsize : ls.size = nL) (hst : st0 = As.reverse ++ rest) (hW : (rest.map fun v => v.category).sum ≤ 8) (hd : decode cc pc = .ok (.invokestatic index, 3))
    (kk : ∀ (v : Option Value) (μ' : mmT) (H1 : Heap) (locs1 : List Loc), post v μ' → Mm G μ' H1 → va_S (Ah G) s.heap H1 locs1 → W p l e R s m args below meth c H1 locs1 (cells + rm.cells) (slots + rm.slots) Q (F0 m (pc + 3) ls (v.toList ++ rest))) : W p l e R s m args below meth c H locs cells slots Q (F0 m pc ls st0) :=
  mz_run (vx_runSW S hc ⟨⟨rfl, rfl, hR.1, hR.2, pay_in S.2.2.2.2 (TT_gH yf.1), List.mem_cons_self⟩, S.2.2.2.2 _ yf.1, S.2.2.2.2 _ yf.2.1, yf.2.2.1, mz_sigs yf.2.2.2, S.2.2.2.2 _ w1, S.2.2.2.2 _ w2⟩ ⟨mP_blind, mz_pre hG hM hS⟩ rfl hn hsize hst (lv_room hW) hd hf) hS kk
theorem mz_MH {hh : List (Nat × Nat × Nat × Nat)} (hy : plainName y.cls = true) (hav : (lg_sl av).length ≤ maxL)
    (body : ∀ (p : Program) (e : Env) (s : State) (m : MethodId) (args : Array Value) (below : List Frame) (meth : Method) (c : Code), CallFix p m c cc maxL s args TT y.cls → GK G s s.heap → meth.sig.returnType = ret → meth.locks = false → meth.name = y.name → c.exceptionTable.toList = tableOf hh →
      ∀ (H : Heap) (locs : List Loc) (ls : Array Slot), Mm G μ H → va_S (Ah G) s.heap H locs → lv_has ls maxL (lv_args 0 av) → W p l e rm s m args below meth c H locs 0 0 (MQ below (mQ G post) args s rm.cells rm.slots (Ah G)) (F0 m 0 ls [])) : MH G l y cc maxL ret hh rm av μ post := by
  refine va_MetW (hh := hh) (cc := cc) (maxL := maxL) (ret := ret) hy rfl ?_
  intro p e s m args below meth c s₁ B hml hv
  obtain ⟨rfl, hG, hM⟩ := hv
  have hts := atoms_spec (ws := Cond.codeWith y cc maxL ret hh :: TT) B.pre
  have hown : s.vm.findClass y.cls = some m.cls := findClass_of_methodNamed B.named
  have hl := lv_entry av (n := maxL) hav
  have htab : c.exceptionTable.toList = tableOf hh := vx_table (x := y) B (hts _ List.mem_cons_self)
  rw [lg_entry_eq]
  exact body p e s m _ below meth c ⟨B.exec, B.bytes, hml, hown, fun w h => hts w (List.mem_cons_of_mem _ h)⟩ hG B.returns B.notSynchronized (name_of_methodNamed B.named B.method).1 htab s.heap [] _ hM va_S.rf hl
/-- the law's own end -/
theorem mz_lawret {Z : State → Prop} (hgh : gh G = s.heap.size) (hS : va_S (Ah G) s.heap H locs) (hend : ∀ (pc : Nat) (H : Heap) (ls : Array Slot), decode cL_law pc = .ok (.ireturn, 1) → W p l e room_1 s m args below meth c H [] 752906 6831448 Z (F0 m pc ls [.int 1])) (hc : cells ≤ 752906) (hs : slots ≤ 6831448) (hd : decode cL_law pc = .ok (.ireturn, 1)) : W p l e room_1 s m args below meth c H locs cells slots Z (F0 m pc ls [.int (nI 1)]) :=
  W.widen hc hs (va_forget (fun q hq => by
    have h9 : gh G ≤ q.base := hS.2.2 q hq
    rw [hgh] at h9
    exact h9) (hend _ _ _ hd))
end MROWS7
end
section
/-! 'throw new NoSuchElementException("text")': its constructor's link to the class above bears another number than the bundle's; the law follows the library's (BundleOwnThrow: ctorThrowS), with that link apart -/
def nx_atoms (own : String) (ic : Nat) (X Y : String) (i1 : Nat) (b1 : ByteArray) (names : List String) : List Cond :=
  (Bundle.throwableAtoms ++ Bundle.throwableSAtoms) ++ (Bundle.passSAtoms X Y i1 b1 ++ Bundle.chainSAtoms Y names) ++
  [.methodLink own ic (Bundle.initS X), .instantiable X 6, .castable X X, .selects X Bundle.tFill0 Bundle.tFill0, .selects X Bundle.tFill Bundle.tFill,
   .lays X Bundle.tN "cause" "Ljava/lang/Throwable;", .lays X Bundle.tN "stackTrace" Bundle.steD, .lays X Bundle.tN "suppressedExceptions" Bundle.listD, .lays X Bundle.tN "detailMessage" "Ljava/lang/String;",
   .isRef (.static Bundle.tN "UNASSIGNED_STACK" Bundle.steD), .isRef (.static Bundle.tN "SUPPRESSED_SENTINEL" Bundle.listD),
   .fieldLink Bundle.tN 198 Bundle.tN "backtrace" "Ljava/lang/Object;", .lays Bundle.tN Bundle.tN "backtrace" "Ljava/lang/Object;", .lays X Bundle.tN "backtrace" "Ljava/lang/Object;"]
section NSE1
variable {p : Program} {l : Launch} {e : Env} {R : Room} {s : State} {m₀ : MethodId} {args : Array Value} {below : List Frame} {meth : Method} {c : Code} {W : State} {locs : List Loc} {cells slots : Nat}
set_option maxHeartbeats 1000000 in
theorem nx_ctor (X : Stand p l e R s m₀ args below meth c W locs cells slots) (hexec : p.tables.exec = Jvm.exec) (htr : e.platform.stackTraces = false) {own cls sup : String} {names : List String} {ic i1 : Nat} {b1 : ByteArray} (b0 : decode b1 0 = .ok (.aload_n 0, 1)) (b01 : decode b1 1 = .ok (.aload_n 1, 1)) (b02 : decode b1 2 = .ok (.invokespecial i1, 3)) (b05 : decode b1 5 = .ok (.return_, 1))
    (hown : s.vm.findClass own = some m₀.cls) (hcls : Bundle.fit cls = true) (hsup : Bundle.fit sup = true) (hnames : ∀ n ∈ names, Bundle.fit n = true)
    (h : ∀ a ∈ nx_atoms own ic cls sup i1 b1 names, a.before args s = true)
    (hlocs : ∀ x ∈ locs, ∀ cell, s.heap[x.base]? = some cell → cell.vm.isStatics = false)
    {a : Addr} {cX : ClassId} {kX : Class} (hfoundX : s.vm.findClass cls = some cX) (hkX : s.vm.classes[cX]? = some kX) (hcell : W.heap[a]? = some (freshCell cX kX)) (hnew : s.heap.size ≤ a)
    {msg : Value} (hmsg : msg.isRef = true)
    {g : JFrame} (hg : g.method = m₀) (hsize : g.locals.size = c.maxLocals) (hlocked : g.locked = none) (hentered : g.entered = []) {rest : List Value} (hstack : g.stack = msg :: .ref a :: .ref a :: rest)
    (hd6 : decode c.code g.pc = .ok (.invokespecial ic, 3)) (hd9 : decode c.code (g.pc + 3) = .ok (.athrow, 1)) (hout : ∀ x ∈ c.exceptionTable.toList, covers x (g.pc + 3) = false)
    (hRframes : names.length + 4 < R.frames) (hRlocals : 2 * g.monitorRoom + ((Value.ref a :: rest).map fun v => v.category).sum + (13 * (names.length + 2) + 42) ≤ R.locals) (hlocks : meth.locks = false := by first | assumption | exact BodyLoose.notSynchronized (by assumption) | exact Body.notSynchronized (by assumption)) :
    ∃ U : State, Steps p.tables e below (W.setTop g) U ∧ U.status = .running ∧ Ended U below (.threw a) ∧ s.WarmedH U.vm ∧ s.sameButNew ({ U with vm := s.vm } : State) locs cells slots ∧
      ∃ ce, U.heap[a]? = some ce ∧ ce.vm = .none ∧ s.vm.findClass cls = some ce.cls := by
  have howns : e.platform.frameOwnsMonitors = true := by rw [X.admits.platform]
  have hfin : e.platform.finalization = false := by rw [X.admits.platform]
  have hpl : e.platform.magicAccessors = ({} : Platform).magicAccessors := by rw [X.admits.platform]
  have a' : ∀ x, x ∈ nx_atoms own ic cls sup i1 b1 names → x.holds args s none s [] = true := fun x hx => h x hx
  obtain ⟨T, Z0, L, -, Y⟩ := ThrowableC.of_atoms (args := args) howns hfin hpl (fun x hx => h x (by simp [nx_atoms, hx]))
  obtain ⟨Z, M, LZ, LM, hnZ⟩ := Init0T.ofS_atoms (args := args) hpl L Y (fun x hx => h x (by simp [nx_atoms, hx]))
  obtain ⟨P1, L1, hP1m, hsup1⟩ := PassC.ofS_atoms (args := args) (s := s) hpl (X := cls) (Y := sup) (Bundle.fit_spec hcls).1 (Bundle.fit_spec hsup).2 b0 b01 b02 b05 (fun x hx => h x (by simp only [nx_atoms, List.mem_append]; exact Or.inl (Or.inr (Or.inl hx))))
  obtain ⟨P2, Ps2, hlen2, L2, hL2, hP2m, hlink2, hlinkR⟩ := Bundle.chainS (args := args) hpl hnZ names sup hsup hnames (fun x hx => h x (by simp only [nx_atoms, List.mem_append]; exact Or.inl (Or.inr (Or.inr hx))))
  obtain ⟨Ps, hPs⟩ : ∃ z, z = P2 :: Ps2 := ⟨_, rfl⟩
  have hlen : Ps.length = names.length + 1 := by rw [hPs, List.length_cons, hlen2]
  have hL : ∀ P, P ∈ Ps → P.LinksS e.platform s := fun P hP => by
    rw [hPs] at hP
    rcases List.mem_cons.mp hP with rfl | hP
    · exact L2
    · exact hL2 P hP
  have hlink1 : P1.sup = firstOf (Z.m T.toThrowableT) (Ps.map (·.toPassT)) := by
    rw [hPs]
    exact Option.some.inj (hsup1.symm.trans hP2m)
  have hlink : PassesOn (Z.m T.toThrowableT) (Ps.map (·.toPassT)) := by
    rw [hPs]
    exact ⟨hlink2, hlinkR⟩
  have hfound : s.vm.findClass cls = some P1.m.cls := findClass_of_methodNamed hP1m
  cases Option.some.inj (hfoundX.symm.trans hfound)
  obtain ⟨c1, kX', hc1, hk, hord, -, -, hn6⟩ := Cond.instantiable_spec (a' (.instantiable cls 6) (by simp [nx_atoms]))
  cases Option.some.inj (hc1.symm.trans hfound)
  cases Option.some.inj (hkX.symm.trans hk)
  have hsel0 : selectMethod e.platform s.vm P1.m.cls T.fill0 = .method T.fill0 := by
    obtain ⟨c2, r2, m2, q1, q2, q3, q4, -⟩ := Cond.selects_spec (a' (.selects cls Bundle.tFill0 Bundle.tFill0) (by simp [nx_atoms]))
    cases Option.some.inj (q1.symm.trans hfound)
    cases Option.some.inj (q2.symm.trans (State.methodFound?_of_named Y.fill0 (by decide)))
    cases Option.some.inj (q3.symm.trans Y.fill0)
    rw [Launch.admits_selectMethod X.admits]; exact q4
  have hselF : selectMethod e.platform s.vm P1.m.cls T.fill = .method T.fill := by
    obtain ⟨c2, r2, m2, q1, q2, q3, q4, -⟩ := Cond.selects_spec (a' (.selects cls Bundle.tFill Bundle.tFill) (by simp [nx_atoms]))
    cases Option.some.inj (q1.symm.trans hfound)
    cases Option.some.inj (q2.symm.trans (State.methodFound?_of_named Y.fill (by decide)))
    cases Option.some.inj (q3.symm.trans Y.fill)
    rw [Launch.admits_selectMethod X.admits]; exact q4
  obtain ⟨cellS0, hcS0, hiss⟩ := Y.statics
  obtain ⟨u0, hu0⟩ := Cond.staticRefV Y.unassigned L.unassignedStatic L.statics hcS0 hiss (a' (.isRef (.static Bundle.tN "UNASSIGNED_STACK" Bundle.steD)) (by simp [nx_atoms]))
  obtain ⟨sen, hsen⟩ := Cond.staticRefV Y.sentinel L.sentinelStatic L.statics hcS0 hiss (a' (.isRef (.static Bundle.tN "SUPPRESSED_SENTINEL" Bundle.listD)) (by simp [nx_atoms]))
  obtain ⟨ci198, i198, fB, hk198, hg198, ha198, hsB, -, hnB, htB, hffB⟩ := Cond.ownField (t := .object "java/lang/Object") Y.found L.cls (by decide +kernel) (a' (.fieldLink Bundle.tN 198 Bundle.tN "backtrace" "Ljava/lang/Object;") (by simp [nx_atoms])) (a' (.lays Bundle.tN Bundle.tN "backtrace" "Ljava/lang/Object;") (by simp [nx_atoms])) e.platform hpl
  obtain ⟨cellS, hcS', heS, -, hkeep⟩ := X.same.2.2.2.2.2 T.aS cellS0 hcS0
  have hcellS : W.heap[T.aS]? = some cellS := hcS'
  have hout' : ∀ i, (⟨T.aS, i⟩ : Loc) ∉ locs := fun i hmem => by
    have := hlocs _ hmem cellS0 hcS0
    rw [hiss] at this; cases this
  have hknownS : cellS.vm ≠ .unknown := by
    rw [heS]; intro hu
    rw [show cellS0.vm = .unknown from hu] at hiss
    cases hiss
  have hneS : T.aS ≠ a := Nat.ne_of_lt (Nat.lt_of_lt_of_le (Array.getElem?_eq_some_iff.mp hcS0).1 hnew)
  obtain ⟨iM, hffM⟩ := Y.msg
  obtain ⟨tyC, dC, hdC, hdnC⟩ := Cond.laysAt hfound hk Y.cause (a' (.lays cls Bundle.tN "cause" "Ljava/lang/Throwable;") (by simp [nx_atoms]))
  obtain ⟨tyS, dS, hdS, hdnS⟩ := Cond.laysAt hfound hk Y.stack (a' (.lays cls Bundle.tN "stackTrace" Bundle.steD) (by simp [nx_atoms]))
  obtain ⟨tyP, dP, hdP, hdnP⟩ := Cond.laysAt hfound hk Y.supp (a' (.lays cls Bundle.tN "suppressedExceptions" Bundle.listD) (by simp [nx_atoms]))
  obtain ⟨tyM, dM, hdM, hdnM⟩ := Cond.laysAt hfound hk hffM (a' (.lays cls Bundle.tN "detailMessage" "Ljava/lang/String;") (by simp [nx_atoms]))
  obtain ⟨tyB, dB, hdB, hdnB⟩ := Cond.laysAt hfound hk hffB (a' (.lays cls Bundle.tN "backtrace" "Ljava/lang/Object;") (by simp [nx_atoms]))
  have bC := Cond.laysApart hdB hdC hdnB hdnC (by rw [hnB, Y.causeName]; decide)
  have bS := Cond.laysApart hdB hdS hdnB hdnS (by rw [hnB, Y.stackName]; decide)
  have bP := Cond.laysApart hdB hdP hdnB hdnP (by rw [hnB, Y.suppName]; decide)
  have hskip : SkipFacts T e.platform s (fun u => u) u0 ((preparedCellV T.toThrowableT (freshCell P1.m.cls kX) a u0 sen).withEntry W.cur) :=
    ⟨{ ci198 := ci198, i198 := i198, fBack := fB }, ⟨hk198, hg198, ha198, hsB⟩, by
      have := fresh_default (c := P1.m.cls) tyB
      rw [htB] at this
      simpa [preparedCellV, Cell.setSlot, Cell.withEntry, Array.getElem?_setIfInBounds, bC, bS, bP, bC.symm, bS.symm, bP.symm, defaultValue] using this, fun _ _ => rfl⟩
  obtain ⟨tm, methC, cdC, kC, vm₁, hnC, -, -, -, -, -, -, -, hW₁, st1⟩ := Steps.initColdS (tb := p.tables) (e := e) (below := below) (s := s) (U := W) X.here hexec X.warmed hpl hown (t := Bundle.initS cls) rfl rfl (Bundle.fit_spec hcls).2
    (a' (.methodLink own ic (Bundle.initS cls)) (by simp [nx_atoms])) (h (.instanceMethod (Bundle.initS cls)) (by simp [nx_atoms, Bundle.passSAtoms])) (bytes := b1) (maxL := 2) (h (.code (Bundle.initS cls) b1 2 none) (by simp [nx_atoms, Bundle.passSAtoms]))
    (f := g) hg (a := a) (msg := msg) (rest := .ref a :: rest) hstack hd6
  cases Option.some.inj (hnC.symm.trans hP1m)
  have X₁ := X.noted hW₁
  obtain ⟨vm₂, X₂, st2⟩ := X₁.ctorMessageOffV hexec (g := { g with stack := .ref a :: rest }) hg hsize T L Z LZ M LM (P1 :: Ps)
    (fun P hP => by rcases List.mem_cons.mp hP with rfl | hP; exact L1; exact hL P hP) ⟨hlink1, hlink⟩ (u0 := u0) (sen := sen) (self := a) hmsg (cell := freshCell P1.m.cls kX) (cellS := cellS)
    hcell (fun _ => by simp) (by simp) rfl rfl hsel0 hselF hcellS hneS hknownS (by rw [hkeep _ (hout' _)]; exact hu0) (by rw [hkeep _ (hout' _)]; exact hsen)
    (Takes.of_laid hk hord tyC (by rw [Y.causeType]; rfl)) (Takes.of_laid hk hord tyS (by rw [Y.stackType]; exact fits_refV_array _ u0)) (Takes.of_laid hk hord tyP (by rw [Y.suppType]; exact fits_refV_object _ sen))
    (Takes.of_laid hk hord tyM (by rw [Y.msgType]; exact fits_refV_object _ ⟨msg, hmsg⟩)) Y.objLocals hskip htr [] hd6
    (by simp only [List.length_cons, hlen]; omega) (by simp only [List.length_cons, hlen]; exact hRlocals)
  obtain ⟨hwalk, hrun, hended, hWU, hsame⟩ := X₂.athrowLeaves hexec (g := { g with stack := .ref a :: rest, pc := g.pc + 3 }) hg hlocked hentered hout (a := a) (rest := rest) rfl hd9
  obtain ⟨c3, c4, hc3, hc4, hasg⟩ := Cond.castable_spec (a' (.castable cls cls) (by simp [nx_atoms]))
  cases Option.some.inj (hc3.symm.trans hfound)
  cases Option.some.inj (hc4.symm.trans hfound)
  have hlt : a < ((W.setVm vm₁).setVm vm₂).heap.size := (Array.getElem?_eq_some_iff.mp hcell).1
  have hU := heapAt_setCell_self (s := (W.setVm vm₁).setVm vm₂) (plainBareV T.toThrowableT (freshCell P1.m.cls kX) a u0 sen msg) hlt
  refine ⟨_, st1 _ (fun acts => ?_), hrun, hended, hWU, hsame.weaken (fun y hy hlt' => ?_) (Nat.le_refl _) (Nat.le_refl _), _, hU, ?_⟩
  · rw [doInvoke_state]
    exact st2 _ hwalk
  · rcases List.mem_append.mp hy with h1 | h1
    · exact h1
    · exfalso
      have hb : y.base = a := by
        simp only [List.mem_cons, List.not_mem_nil, or_false] at h1
        rcases h1 with rfl | rfl | rfl | rfl | rfl <;> rfl
      rw [hb] at hlt'
      exact Nat.not_lt.mpr hnew hlt'
  · exact ⟨rfl, hfound⟩
end NSE1
def nx_atS (own : String) (ic : Nat) (X Y : String) (i1 : Nat) (b1 : ByteArray) (names : List String) : List Cond := (nx_atoms own ic X Y i1 b1 names).filter vx_no
section NSE2
variable {p : Program} {l : Launch} {e : Env} {R : Room} {s : State} {m : MethodId} {args : Array Value} {below : List Frame} {meth : Method} {c : Code} {H : Heap} {locs : List Loc} {cells slots : Nat} {Q : State → Prop}
variable {mc ms : Nat} {free : Addr → Prop} {A0 A1 : Nat → Prop} {H0 : Heap} {a : Array Value} {ls : Array Slot} {st0 rest : List Value}
variable {Qc : Array Value → State → Outcome → State → Prop} {XC : String → State → State → Prop}
theorem nx_throwS {cc : ByteArray} {pc : Nat} (hexec : p.tables.exec = Jvm.exec) (hb : c.code = cc) (hl : l.stackTraces = false) {own cls sup text : String} {names : List String} {ik is ic i1 mc ms sa : Nat} {b1 : ByteArray} (b0 : decode b1 0 = .ok (.aload_n 0, 1)) (b01 : decode b1 1 = .ok (.aload_n 1, 1)) (b02 : decode b1 2 = .ok (.invokespecial i1, 3)) (b05 : decode b1 5 = .ok (.return_, 1)) {A : Nat → Prop}
    (hown : s.vm.findClass own = some m.cls) (hcls : Bundle.fit cls = true) (hsup : Bundle.fit sup = true) (hnames : ∀ n ∈ names, Bundle.fit n = true)
    (hk : (Cond.classLink own ik cls).before args s = true) (hini : (Cond.initialized cls).before args s = true) (hstr : vk_R own is text sa s) (hat : ∀ w ∈ nx_atS own ic cls sup i1 b1 names, w.before args s = true)
    (hgood : ∀ w ∈ Cond.classLink own ik cls :: Cond.initialized cls :: nx_atS own ic cls sup i1 b1 names, vx_ot w = true)
    (hU : vx_Zq Bundle.tN "UNASSIGNED_STACK" Bundle.steD A s s.heap) (hN : vx_Zq Bundle.tN "SUPPRESSED_SENTINEL" Bundle.listD A s s.heap) (hS : va_S A s.heap H locs) (hsize : ls.size = c.maxLocals)
    (d0 : decode cc pc = .ok (.new ik, 3)) (d3 : decode cc (pc + 3) = .ok (.dup, 1)) (d4 : decode cc (pc + 4) = .ok (.ldc is, 2)) (d6 : decode cc (pc + 6) = .ok (.invokespecial ic, 3)) (d9 : decode cc (pc + 9) = .ok (.athrow, 1))
    (hout : ∀ x ∈ c.exceptionTable.toList, covers x (pc + 9) = false)
    (hRframes : names.length + 4 < R.frames) (hRlocals : (rest.map fun v => v.category).sum + (13 * (names.length + 2) + 43) ≤ R.locals) (hRcells : cells + 1 ≤ R.cells) (hRslots : slots + 6 ≤ R.slots) (hlocks : meth.locks = false)
    (hx : ∀ t : State, s.vm.Alike t.vm → H.size ≤ t.heap.size → (∀ q : Nat, q < H.size → t.heap[q]? = H[q]?) → XC cls s t)
    (hf : ∀ z ∈ locs, free z.base) (hc : cells + 1 ≤ mc) (hs : slots + 6 ≤ ms) :
    W p l e R s m args below meth c H locs cells slots (vx_MQ below Qc XC args s mc ms free) (F0 m pc ls rest) := by
  intro T hT X
  have htr : e.platform.stackTraces = false := (show e.platform.stackTraces = l.stackTraces by rw [X.admits.platform]).trans hl
  have Y := vx_rebase X (R' := { frames := R.frames, locals := R.locals, cells := 1, slots := 6 }) (Nat.le_refl _) (Nat.le_refl _) hRcells hRslots
  obtain ⟨s', hA⟩ : ∃ z, z = (T.setVm s.vm).setFrames (.invoking m args :: below) := ⟨_, rfl⟩
  rw [← hA] at Y
  have hvm : s'.vm = s.vm := by rw [hA]; rfl
  have hhp : s'.heap = H := by rw [hA]; exact hT
  have hW0 : s.WarmedH s'.vm := by rw [hvm]; exact State.WarmedH.refl s
  have hat' : ∀ w ∈ nx_atS own ic cls sup i1 b1 names, w.before args s' = true := fun w hw => vx_ot_at hW0 hvm.symm (hgood w (List.mem_cons_of_mem _ (List.mem_cons_of_mem _ hw))) (hat w hw)
  have hk' : (Cond.classLink own ik cls).before args s' = true := vx_ot_at hW0 hvm.symm (hgood _ List.mem_cons_self) hk
  have hini' : (Cond.initialized cls).before args s' = true := vx_ot_at hW0 hvm.symm (hgood _ (List.mem_cons_of_mem _ List.mem_cons_self)) hini
  have hU' : vx_Zq Bundle.tN "UNASSIGNED_STACK" Bundle.steD A s' s'.heap := by rw [hhp]; exact vx_Zq.moved hW0.alike (hU.kept hS.2.1)
  have hN' : vx_Zq Bundle.tN "SUPPRESSED_SENTINEL" Bundle.listD A s' s'.heap := by rw [hhp]; exact vx_Zq.moved hW0.alike (hN.kept hS.2.1)
  have h : ∀ w ∈ nx_atoms own ic cls sup i1 b1 names, w.before args s' = true := vx_own hat' (vx_isRefq hU'.1) (vx_isRefq hN'.1) hU'.2.word hN'.2.word
  have hown' : s'.vm.findClass own = some m.cls := by rw [hvm]; exact hown
  have hins : (Cond.instantiable cls 6).before args s' = true := h _ (by simp [nx_atoms])
  obtain ⟨vm₁, cX, kX, hfX, hkX, -, -, X₁, st1⟩ := Y.newCold hexec (own := own) (C := cls) (index := ik) (n := 6) hown' hk' hins hini'
    (g := F0 m pc ls rest) rfl (by rw [hb]; exact d0) (Nat.le_refl _) (Nat.le_refl _)
  generalize hT1 : (T.setVm vm₁).pushCell { cls := cX, slots := kX.instanceTypes.map defaultValue, vm := .none } = T1 at X₁ st1
  have hcat : (Value.ref T.heap.size).category = 1 := rfl
  have hcellA : T1.heap[T.heap.size]? = some (freshCell cX kX) := by rw [← hT1]; exact State.heap_pushCell_size _ _
  have d3' : decode c.code (pc + 3) = .ok (.dup, 1) := by rw [hb]; exact d3
  have d4' : decode c.code (pc + 4) = .ok (.ldc is, 2) := by rw [hb]; exact d4
  have hstr' : vk_R own is text sa s' := vk_R.warm hW0 hstr
  obtain ⟨U, hsteps, hrun, hend, hW, hsame, ce, hce, hOv, hOc⟩ := nx_ctor X₁ hexec htr (own := own) (cls := cls) (sup := sup) (names := names) (ic := ic) b0 b01 b02 b05 hown' hcls hsup hnames h (fun x hx => nomatch hx) hfX hkX hcellA (by rw [hhp, hT]; exact Nat.le_refl _) (msg := .ref sa) rfl
    (g := { method := m, pc := pc + 6, locals := ls, stack := .ref sa :: .ref T.heap.size :: .ref T.heap.size :: rest, locked := none }) rfl hsize rfl rfl (rest := rest) rfl
    (by rw [hb]; exact d6) (by rw [hb]; exact d9) hout hRframes (by simp only [List.map_cons, List.sum_cons, hcat]; omega) hlocks
  obtain ⟨f1, f2⟩ := vx_frame hsame
  rw [hhp] at f1 f2
  have hWs : s.WarmedH U.vm := State.WarmedH.trans hW0 hW
  have hcl : s.vm.findClass cls = some ce.cls := by
    have h9 := hOc
    rw [hvm] at h9
    exact h9
  have hall : s.sameButNew ({ U with vm := s.vm } : State) locs mc ms := by
    subst hA
    obtain ⟨e1, e2⟩ := hsame
    rw [State.setFrames_setFrames] at e1
    have h2 : (T.setVm s.vm).sameButNew ({ U with vm := s.vm } : State) [] (0 + 1) (0 + 6) := ⟨e1, e2⟩
    have h3 := X.same.trans h2
    rw [List.append_nil] at h3
    exact h3.mono hc hs
  refine ⟨U, ?_, .threw T.heap.size, hrun, hend, Or.inr ⟨T.heap.size, rfl, cls, ce, locs, hx U hWs.alike f1 (fun q hq => f2 q hq (fun z hz => nomatch hz)), hce, hOv, hcl, hWs, hall, hf⟩⟩
  refine st1 _ ?_
  show Steps p.tables e below (T1.setTop { method := m, pc := pc + 3, locals := ls, stack := .ref T.heap.size :: rest, locked := none }) _
  jvm_step X₁.here [X₁.here.top, hexec, d3', Value.category]
  exact X₁.ldcString hexec (own := own) (text := text) (index := is) (a := sa) hown' hstr'.1 hstr'.2
    (g := { method := m, pc := pc + 4, locals := ls, stack := .ref T.heap.size :: .ref T.heap.size :: rest, locked := none }) rfl d4' _ hsteps
theorem nx_throwSW {cc : ByteArray} {pc : Nat} (hexec : p.tables.exec = Jvm.exec) (hb : c.code = cc) (hl : l.stackTraces = false) {own cls sup text : String} {names : List String} {ik is ic i1 mc ms sa : Nat} {b1 : ByteArray} (b0 : decode b1 0 = .ok (.aload_n 0, 1)) (b01 : decode b1 1 = .ok (.aload_n 1, 1)) (b02 : decode b1 2 = .ok (.invokespecial i1, 3)) (b05 : decode b1 5 = .ok (.return_, 1)) {A : Nat → Prop}
    (hown : s.vm.findClass own = some m.cls) (hcls : Bundle.fit cls = true) (hsup : Bundle.fit sup = true) (hnames : ∀ n ∈ names, Bundle.fit n = true)
    (hk : (Cond.classLink own ik cls).before args s = true) (hini : (Cond.initialized cls).before args s = true) (hstr : vk_R own is text sa s) (hat : ∀ w ∈ nx_atS own ic cls sup i1 b1 names, w.before args s = true)
    (hgood : ∀ w ∈ Cond.classLink own ik cls :: Cond.initialized cls :: nx_atS own ic cls sup i1 b1 names, vx_ot w = true)
    (hU : vx_Zq Bundle.tN "UNASSIGNED_STACK" Bundle.steD A s s.heap) (hN : vx_Zq Bundle.tN "SUPPRESSED_SENTINEL" Bundle.listD A s s.heap) (hS : va_S A s.heap H locs) (hsize : ls.size = c.maxLocals)
    (d0 : decode cc pc = .ok (.new ik, 3)) (d3 : decode cc (pc + 3) = .ok (.dup, 1)) (d4 : decode cc (pc + 4) = .ok (.ldc_w is, 3)) (d6 : decode cc (pc + 7) = .ok (.invokespecial ic, 3)) (d9 : decode cc (pc + 10) = .ok (.athrow, 1))
    (hout : ∀ x ∈ c.exceptionTable.toList, covers x (pc + 10) = false)
    (hRframes : names.length + 4 < R.frames) (hRlocals : (rest.map fun v => v.category).sum + (13 * (names.length + 2) + 43) ≤ R.locals) (hRcells : cells + 1 ≤ R.cells) (hRslots : slots + 6 ≤ R.slots) (hlocks : meth.locks = false)
    (hx : ∀ t : State, s.vm.Alike t.vm → H.size ≤ t.heap.size → (∀ q : Nat, q < H.size → t.heap[q]? = H[q]?) → XC cls s t)
    (hf : ∀ z ∈ locs, free z.base) (hc : cells + 1 ≤ mc) (hs : slots + 6 ≤ ms) :
    W p l e R s m args below meth c H locs cells slots (vx_MQ below Qc XC args s mc ms free) (F0 m pc ls rest) := by
  intro T hT X
  have htr : e.platform.stackTraces = false := (show e.platform.stackTraces = l.stackTraces by rw [X.admits.platform]).trans hl
  have Y := vx_rebase X (R' := { frames := R.frames, locals := R.locals, cells := 1, slots := 6 }) (Nat.le_refl _) (Nat.le_refl _) hRcells hRslots
  obtain ⟨s', hA⟩ : ∃ z, z = (T.setVm s.vm).setFrames (.invoking m args :: below) := ⟨_, rfl⟩
  rw [← hA] at Y
  have hvm : s'.vm = s.vm := by rw [hA]; rfl
  have hhp : s'.heap = H := by rw [hA]; exact hT
  have hW0 : s.WarmedH s'.vm := by rw [hvm]; exact State.WarmedH.refl s
  have hat' : ∀ w ∈ nx_atS own ic cls sup i1 b1 names, w.before args s' = true := fun w hw => vx_ot_at hW0 hvm.symm (hgood w (List.mem_cons_of_mem _ (List.mem_cons_of_mem _ hw))) (hat w hw)
  have hk' : (Cond.classLink own ik cls).before args s' = true := vx_ot_at hW0 hvm.symm (hgood _ List.mem_cons_self) hk
  have hini' : (Cond.initialized cls).before args s' = true := vx_ot_at hW0 hvm.symm (hgood _ (List.mem_cons_of_mem _ List.mem_cons_self)) hini
  have hU' : vx_Zq Bundle.tN "UNASSIGNED_STACK" Bundle.steD A s' s'.heap := by rw [hhp]; exact vx_Zq.moved hW0.alike (hU.kept hS.2.1)
  have hN' : vx_Zq Bundle.tN "SUPPRESSED_SENTINEL" Bundle.listD A s' s'.heap := by rw [hhp]; exact vx_Zq.moved hW0.alike (hN.kept hS.2.1)
  have h : ∀ w ∈ nx_atoms own ic cls sup i1 b1 names, w.before args s' = true := vx_own hat' (vx_isRefq hU'.1) (vx_isRefq hN'.1) hU'.2.word hN'.2.word
  have hown' : s'.vm.findClass own = some m.cls := by rw [hvm]; exact hown
  have hins : (Cond.instantiable cls 6).before args s' = true := h _ (by simp [nx_atoms])
  obtain ⟨vm₁, cX, kX, hfX, hkX, -, -, X₁, st1⟩ := Y.newCold hexec (own := own) (C := cls) (index := ik) (n := 6) hown' hk' hins hini'
    (g := F0 m pc ls rest) rfl (by rw [hb]; exact d0) (Nat.le_refl _) (Nat.le_refl _)
  generalize hT1 : (T.setVm vm₁).pushCell { cls := cX, slots := kX.instanceTypes.map defaultValue, vm := .none } = T1 at X₁ st1
  have hcat : (Value.ref T.heap.size).category = 1 := rfl
  have hcellA : T1.heap[T.heap.size]? = some (freshCell cX kX) := by rw [← hT1]; exact State.heap_pushCell_size _ _
  have d3' : decode c.code (pc + 3) = .ok (.dup, 1) := by rw [hb]; exact d3
  have d4' : decode c.code (pc + 4) = .ok (.ldc_w is, 3) := by rw [hb]; exact d4
  have hstr' : vk_R own is text sa s' := vk_R.warm hW0 hstr
  obtain ⟨U, hsteps, hrun, hend, hW, hsame, ce, hce, hOv, hOc⟩ := nx_ctor X₁ hexec htr (own := own) (cls := cls) (sup := sup) (names := names) (ic := ic) b0 b01 b02 b05 hown' hcls hsup hnames h (fun x hx => nomatch hx) hfX hkX hcellA (by rw [hhp, hT]; exact Nat.le_refl _) (msg := .ref sa) rfl
    (g := { method := m, pc := pc + 7, locals := ls, stack := .ref sa :: .ref T.heap.size :: .ref T.heap.size :: rest, locked := none }) rfl hsize rfl rfl (rest := rest) rfl
    (by rw [hb]; exact d6) (by rw [hb]; exact d9) hout hRframes (by simp only [List.map_cons, List.sum_cons, hcat]; omega) hlocks
  obtain ⟨f1, f2⟩ := vx_frame hsame
  rw [hhp] at f1 f2
  have hWs : s.WarmedH U.vm := State.WarmedH.trans hW0 hW
  have hcl : s.vm.findClass cls = some ce.cls := by
    have h9 := hOc
    rw [hvm] at h9
    exact h9
  have hall : s.sameButNew ({ U with vm := s.vm } : State) locs mc ms := by
    subst hA
    obtain ⟨e1, e2⟩ := hsame
    rw [State.setFrames_setFrames] at e1
    have h2 : (T.setVm s.vm).sameButNew ({ U with vm := s.vm } : State) [] (0 + 1) (0 + 6) := ⟨e1, e2⟩
    have h3 := X.same.trans h2
    rw [List.append_nil] at h3
    exact h3.mono hc hs
  refine ⟨U, ?_, .threw T.heap.size, hrun, hend, Or.inr ⟨T.heap.size, rfl, cls, ce, locs, hx U hWs.alike f1 (fun q hq => f2 q hq (fun z hz => nomatch hz)), hce, hOv, hcl, hWs, hall, hf⟩⟩
  refine st1 _ ?_
  show Steps p.tables e below (T1.setTop { method := m, pc := pc + 3, locals := ls, stack := .ref T.heap.size :: rest, locked := none }) _
  jvm_step X₁.here [X₁.here.top, hexec, d3', Value.category]
  exact X₁.ldcStringW hexec (own := own) (text := text) (index := is) (a := sa) hown' hstr'.1 hstr'.2
    (g := { method := m, pc := pc + 4, locals := ls, stack := .ref T.heap.size :: .ref T.heap.size :: rest, locked := none }) rfl d4' _ hsteps
end NSE2
def n13 : ByteArray := ⟨#[0x2a, 0x2b, 0xb7, 0x00, 0x0d, 0xb1]⟩
theorem n13_0 : decode n13 0 = .ok (.aload_n 0, 1) := by decide +kernel
theorem n13_1 : decode n13 1 = .ok (.aload_n 1, 1) := by decide +kernel
theorem n13_2 : decode n13 2 = .ok (.invokespecial 13, 3) := by decide +kernel
theorem n13_5 : decode n13 5 = .ok (.return_, 1) := by decide +kernel
def mzXN (own : String) (ik ic : Nat) (cls : String) : Prop := Bundle.fit cls = true ∧ Bundle.fit "java/lang/RuntimeException" = true ∧ (∀ n ∈ ["java/lang/Exception"], Bundle.fit n = true) ∧ Cond.classLink own ik cls ∈ TT ∧ Cond.initialized cls ∈ TT ∧ (∀ w ∈ nx_atS own ic cls "java/lang/RuntimeException" 13 n13 ["java/lang/Exception"], w ∈ TT ∨ (w ∈ tables_1 ∧ isOt w = true)) ∧ (∀ w ∈ nx_atS own ic cls "java/lang/RuntimeException" 13 n13 ["java/lang/Exception"], vx_ot w = true)
theorem mz_mkXN {own cls : String} {ik ic : Nat} (h1 : Bundle.fit cls = true) (h7 : Bundle.fit "java/lang/RuntimeException" = true) (h2 : ∀ n ∈ ["java/lang/Exception"], Bundle.fit n = true) (h3 : Cond.classLink own ik cls ∈ TT) (h4 : Cond.initialized cls ∈ TT) (h5 : (nx_atS own ic cls "java/lang/RuntimeException" 13 n13 ["java/lang/Exception"]).all (fun w => (goodWord w || isOt w) && decide (w ∈ lw_tbl)) = true) (h6 : (nx_atS own ic cls "java/lang/RuntimeException" 13 n13 ["java/lang/Exception"]).all vx_ot = true) : mzXN own ik ic cls :=
  ⟨h1, h7, h2, h3, h4, fun w hw => (mz_atS h5 w hw).imp id (fun q => ⟨isOt_tbl q.2 q.1, q.2⟩), List.all_eq_true.mp h6⟩
section NSE3
variable {p : Program} {l : Launch} {e : Env} {R : Room} {s : State} {m : MethodId} {args : Array Value} {below : List Frame} {meth : Method} {c : Code} {H : Heap} {locs : List Loc} {cells slots : Nat} {Q : State → Prop}
variable {cc : ByteArray} {pc : Nat} {ls : Array Slot} {rest st0 : List Value} {a nL : Nat} {own : String} {G : mgT} {μ : mmT} {post : Option Value → mmT → Prop} {px : String → mmT → Prop}
theorem mz_throwN (S : CallFix p m c cc nL s args TT own) (hl : l.stackTraces = false) (hG : GK G s s.heap) (hM : Mm G μ H) (hS : va_S (Ah G) s.heap H locs) (hex : ∀ x ∈ c.exceptionTable.toList, False) (hlk : meth.locks = false) (hsz : ls.size = nL) {ik ic is j mc ms : Nat} {cls text : String} (x : mzXN own ik ic cls) (hj : gStr[j]? = some (own, is, text))
    (d0 : decode cc pc = .ok (.new ik, 3)) (d3 : decode cc (pc + 3) = .ok (.dup, 1)) (d4 : decode cc (pc + 4) = .ok (.ldc is, 2)) (d6 : decode cc (pc + 6) = .ok (.invokespecial ic, 3)) (d9 : decode cc (pc + 9) = .ok (.athrow, 1))
    (hRf : 5 < R.frames) (hRl : (rest.map fun v => v.category).sum + 82 ≤ R.locals) (hRc : cells + 1 ≤ R.cells) (hRs : slots + 6 ≤ R.slots) (hc : cells + 1 ≤ mc) (hs : slots + 6 ≤ ms) (hp : px cls μ) :
    W p l e R s m args below meth c H locs cells slots (vx_MQ below (mQ G post) (mX G px) args s mc ms (Ah G)) (F0 m pc ls rest) := by
  obtain ⟨x1, x7, x2, x3, x4, x5, x6⟩ := x
  have hts : ∀ w ∈ TT, w.before args s = true := fun w h => S.2.2.2.2 w h
  refine nx_throwS (names := ["java/lang/Exception"]) (sup := "java/lang/RuntimeException") (A := Ah G) (sa := gS G j) S.1 S.2.1 hl n13_0 n13_1 n13_2 n13_5 S.2.2.2.1 x1 x7 x2 (hts _ x3) (hts _ x4) (hG.2.2.2.2.2.1 j _ hj) (fun w hw => ?_) (fun w hw => ?_) hG.2.2.2.2.1.1 hG.2.2.2.2.1.2 hS (hsz.trans S.2.2.1.symm) d0 d3 d4 d6 d9 (fun x hx => (hex x hx).elim) hRf hRl hRc hRs hlk (fun t hvm hsz hq => ?_) hS.2.2 hc hs
  · rcases x5 w hw with h | ⟨h, ho⟩
    · exact hts _ h
    · have hz := hG.2.1 w h ho
      cases w with
      | declares x => exact va_Nw.use rfl hz
      | castable a b => exact va_Nw.use rfl hz
      | methodLinkNest a i x h => exact va_Nw.use rfl hz
      | fieldLinkNest a i b n d h => exact va_Nw.use rfl hz
      | _ => cases ho
  · rcases List.mem_cons.mp hw with h | h
    · rw [h]; rfl
    · rcases List.mem_cons.mp h with h | h
      · rw [h]; rfl
      · exact x6 w h
  · exact ⟨μ, hp, hM.keep hsz hq, ⟨Nat.le_trans hS.1 hsz, fun q h1 h2 => (hq q (Nat.lt_of_lt_of_le h1 hS.1)).trans (hS.2.1 q h1 h2)⟩⟩
theorem mz_throwNW (S : CallFix p m c cc nL s args TT own) (hl : l.stackTraces = false) (hG : GK G s s.heap) (hM : Mm G μ H) (hS : va_S (Ah G) s.heap H locs) (hex : ∀ x ∈ c.exceptionTable.toList, False) (hlk : meth.locks = false) (hsz : ls.size = nL) {ik ic is j mc ms : Nat} {cls text : String} (x : mzXN own ik ic cls) (hj : gStr[j]? = some (own, is, text))
    (d0 : decode cc pc = .ok (.new ik, 3)) (d3 : decode cc (pc + 3) = .ok (.dup, 1)) (d4 : decode cc (pc + 4) = .ok (.ldc_w is, 3)) (d6 : decode cc (pc + 7) = .ok (.invokespecial ic, 3)) (d9 : decode cc (pc + 10) = .ok (.athrow, 1))
    (hRf : 5 < R.frames) (hRl : (rest.map fun v => v.category).sum + 82 ≤ R.locals) (hRc : cells + 1 ≤ R.cells) (hRs : slots + 6 ≤ R.slots) (hc : cells + 1 ≤ mc) (hs : slots + 6 ≤ ms) (hp : px cls μ) :
    W p l e R s m args below meth c H locs cells slots (vx_MQ below (mQ G post) (mX G px) args s mc ms (Ah G)) (F0 m pc ls rest) := by
  obtain ⟨x1, x7, x2, x3, x4, x5, x6⟩ := x
  have hts : ∀ w ∈ TT, w.before args s = true := fun w h => S.2.2.2.2 w h
  refine nx_throwSW (names := ["java/lang/Exception"]) (sup := "java/lang/RuntimeException") (A := Ah G) (sa := gS G j) S.1 S.2.1 hl n13_0 n13_1 n13_2 n13_5 S.2.2.2.1 x1 x7 x2 (hts _ x3) (hts _ x4) (hG.2.2.2.2.2.1 j _ hj) (fun w hw => ?_) (fun w hw => ?_) hG.2.2.2.2.1.1 hG.2.2.2.2.1.2 hS (hsz.trans S.2.2.1.symm) d0 d3 d4 d6 d9 (fun x hx => (hex x hx).elim) hRf hRl hRc hRs hlk (fun t hvm hsz hq => ?_) hS.2.2 hc hs
  · rcases x5 w hw with h | ⟨h, ho⟩
    · exact hts _ h
    · have hz := hG.2.1 w h ho
      cases w with
      | declares x => exact va_Nw.use rfl hz
      | castable a b => exact va_Nw.use rfl hz
      | methodLinkNest a i x h => exact va_Nw.use rfl hz
      | fieldLinkNest a i b n d h => exact va_Nw.use rfl hz
      | _ => cases ho
  · rcases List.mem_cons.mp hw with h | h
    · rw [h]; rfl
    · rcases List.mem_cons.mp h with h | h
      · rw [h]; rfl
      · exact x6 w h
  · exact ⟨μ, hp, hM.keep hsz hq, ⟨Nat.le_trans hS.1 hsz, fun q h1 h2 => (hq q (Nat.lt_of_lt_of_le h1 hS.1)).trans (hS.2.1 q h1 h2)⟩⟩
end NSE3
end
section
/-! ROWS OF TEXTS MADE AT RUN TIME: bytes copied from one of ours or from a text of the class files, an array of a length that is computed, a clone, the law's script -/
/-- dp.. of the array a take f 0 .. f (n - 1) -/
def sX (μ : mmT) (f : Nat → Int32) (a dp n : Nat) : mmT := (mK μ, mN μ, mI μ, mR μ, fun b k => if b = a ∧ dp ≤ k ∧ k < dp + n then f (k - dp) else mA μ b k, mB μ, mL μ, mD μ)
/-- a copy of the array a at z -/
def nB (μ : mmT) (z a : Nat) : mmT := (fun b => if b = z then mK μ a else mK μ b, fun b => if b = z then mN μ a else mN μ b, mI μ, mR μ, fun b i => if b = z then mA μ a i else mA μ b i, fun b i => if b = z then none else mB μ b i, fun b i => if b = z then 0 else mL μ b i, fun b i => if b = z then 0 else mD μ b i)
theorem gByt_fit (j i : Nat) : fits .byte (.int ((gByt.getD j []).getD i 0)) = true := by
  have h : gByt.all (fun l => l.all (fun x => fits .byte (.int x))) = true := by decide +kernel
  by_cases hj : j < gByt.length
  · have h1 := List.all_eq_true.mp h (gByt.getD j []) (by rw [List.getD_eq_getElem?_getD, List.getElem?_eq_getElem hj]; exact List.getElem_mem hj)
    generalize gByt.getD j [] = q at h1 ⊢
    by_cases hi : i < q.length
    · exact List.all_eq_true.mp h1 (q.getD i 0) (by rw [List.getD_eq_getElem?_getD, List.getElem?_eq_getElem hi]; exact List.getElem_mem hi)
    · rw [List.getD_eq_getElem?_getD, List.getElem?_eq_none (by omega)]
      rfl
  · rw [List.getD_eq_getElem?_getD (l := gByt), List.getElem?_eq_none (by omega)]
    rfl
section MROWS8
variable {p : Program} {l : Launch} {e : Env} {R : Room} {s : State} {m : MethodId} {args : Array Value} {below : List Frame} {meth : Method} {c : Code} {H : Heap} {locs : List Loc} {cells slots : Nat} {Q : State → Prop}
variable {cc : ByteArray} {pc : Nat} {ls : Array Slot} {rest st0 : List Value} {a nL : Nat} {own : String} {G : mgT} {μ : mmT}
variable {y : MethodName} {bytes : ByteArray} {maxL n index : Nat} {ret : Option FieldType} {rm : Room} {av As : List Value} {b : Nat} {post : Option Value → mmT → Prop} {px : String → mmT → Prop}
theorem mz_scrA (S : CallFix p m c cc nL s args TT own) (hG : GK G s s.heap) (hS : va_S (Ah G) s.heap H locs) {i : Int32} (hin : vp_in i (gX G 6)) (hd : decode cc pc = .ok (.iaload, 1))
    (kk : W p l e R s m args below meth c H locs cells slots Q (F0 m (pc + 1) ls (.int (gQ G i.toNatClampNeg) :: rest))) : W p l e R s m args below meth c H locs cells slots Q (F0 m pc ls (.int i :: .ref (gX G 5) :: rest)) :=
  va_ti S.1 S.2.1 hG.scr hS hin rfl hd kk
theorem mz_scrL (S : CallFix p m c cc nL s args TT own) (hG : GK G s s.heap) (hS : va_S (Ah G) s.heap H locs) (hd : decode cc pc = .ok (.arraylength, 1))
    (kk : W p l e R s m args below meth c H locs cells slots Q (F0 m (pc + 1) ls (.int (nI (gX G 6)) :: rest))) : W p l e R s m args below meth c H locs cells slots Q (F0 m pc ls (.ref (gX G 5) :: rest)) :=
  va_tlen S.1 S.2.1 hG.scr hS rfl hd kk
theorem nn_int {z : Int32} (hz : ¬ z < 0) : z.toInt = (z.toNatClampNeg : Int) := by
  have hz0 : (0 : Int) ≤ z.toInt := by
    have := Int32.not_lt.mp hz
    simpa using Int32.le_iff_toInt_le.mp this
  show z.toInt = ((z.toInt.toNat : Nat) : Int)
  omega
/-- System.arraycopy of bytes into one of ours, out of any cell of bytes -/
theorem mz_copyC (S : CallFix p m c cc nL s args TT own) (hG : GK G s s.heap) (hM : Mm G μ H) (hS : va_S (Ah G) s.heap H locs) (hl : ls.size = nL) {index a0 n0 : Nat} (w1 : Cond.methodLink own index arraycopyName ∈ TT) (w2 : Cond.native arraycopyName ∈ TT) (w3 : Cond.static arraycopyName ∈ TT) (w4 : Cond.initialized "java/lang/System" ∈ TT)
    {sp dp n : Int32} {cs : Cell} {f : Nat → Int32} (hc0 : H[a0]? = some cs) (hv1 : ∀ k, cs.vm ≠ .statics k) (hv2 : cs.vm ≠ .unknown) (hA0 : s.isArrayOf cs .byte) (hn0 : n0 ≤ cs.slots.size) (hf : ∀ j, j < n0 → cs.slots[j]? = some (.int (f j))) (hfit : ∀ i, i < n.toNatClampNeg → fits .byte (.int (f (sp.toNatClampNeg + i))) = true)
    (ha : mK μ a = 32) (h1 : ¬ sp < 0) (h2 : ¬ dp < 0) (h3 : ¬ n < 0) (h4 : sp.toNatClampNeg + n.toNatClampNeg ≤ n0) (h5 : dp.toNatClampNeg + n.toNatClampNeg ≤ mN μ a)
    (hframes : 1 ≤ R.frames) (hlocals : (rest.map fun v => v.category).sum + (nativeFrameWords "java/lang/System" "arraycopy" 5 + 11) ≤ R.locals) (hd : decode cc pc = .ok (.invokestatic index, 3))
    (kk : ∀ (H1 : Heap) (locs1 : List Loc), Mm G (sX μ (fun i => f (sp.toNatClampNeg + i)) a dp.toNatClampNeg n.toNatClampNeg) H1 → va_S (Ah G) s.heap H1 locs1 → H1.size = H.size → W p l e R s m args below meth c H1 locs1 cells slots Q (F0 m (pc + 3) ls rest)) : W p l e R s m args below meth c H locs cells slots Q (F0 m pc ls (.int n :: .int dp :: .ref a :: .int sp :: .ref a0 :: rest)) := by
  intro T hT X
  obtain ⟨hj, hc1⟩ := mz_arr (j := 0) hM ha
  obtain ⟨-, k0, hk0, cm0, hkk0⟩ := hA0
  obtain ⟨-, k1, hk1, cm1, hkk1⟩ := (hG.1.2 0 _ (gTy_at hj)).1 (mN μ a) (mmE μ 0 a)
  obtain ⟨vm', X', step⟩ := X.arraycopy S.1 S.2.2.2.1 (S.2.2.2.2 _ w1) (S.2.2.2.2 _ w2) (S.2.2.2.2 _ w3) (S.2.2.2.2 _ w4) (src := a0) (dst := a) (cs := cs) (cd := arrV (gC G 0) (mN μ a) (mmE μ 0 a)) (srcPos := sp) (destPos := dp) (n := n) (by rw [hT]; exact hc0) (by rw [hT]; exact hc1)
    hv1 (fun _ h => by cases h) hv2 (fun h => by cases h) hk0 hk1 hkk0 hkk1 (by simp [mmTy, refKind]) h1 h2 h3
    (by rw [nn_int h1, nn_int h3]; omega)
    (by rw [nn_int h2, nn_int h3, arrV_size]; omega)
    (fun vm₁ _ i hi => by
      have e : cs.slots.getD (sp.toNatClampNeg + i) .null = .int (f (sp.toNatClampNeg + i)) := by
        rw [Array.getD_eq_getD_getElem?, hf _ (by omega)]
        rfl
      refine ⟨?_, ?_⟩
      · rw [e]
        exact hfit i hi
      · rw [e]
        exact trivial)
    (g := F0 m pc ls (.int n :: .int dp :: .ref a :: .int sp :: .ref a0 :: rest)) rfl (by rw [S.2.2.1]; exact hl) (rest := rest) rfl (by rw [S.2.1]; exact hd) hframes (by show 2 * 0 + _ + _ ≤ _; omega)
  have e1 : copied cs (arrV (gC G 0) (mN μ a) (mmE μ 0 a)) sp dp n = arrV (gC G 0) (mN μ a) (fun j => .int (va_cpy f (mA μ a) sp.toNatClampNeg dp.toNatClampNeg n.toNatClampNeg j)) := va_copiedX (fun z => .int z) cs (gC G 0) f (mA μ a) hf h4
  rw [e1] at X' step
  have hl9 : a < H.size := (Array.getElem?_eq_some_iff.mp hc1).1
  generalize hcell : arrV (gC G 0) (mN μ a) (fun j => .int (va_cpy f (mA μ a) sp.toNatClampNeg dp.toNatClampNeg n.toNatClampNeg j)) = cN at X' step
  have hheap : ((T.setVm vm').setCell a cN).heap = H.setIfInBounds a cN := by rw [← hT]; rfl
  have oq : ∀ q : Nat, q ≠ a → (H.setIfInBounds a cN)[q]? = H[q]? := fun q hq => by simp [Array.getElem?_setIfInBounds, Ne.symm hq]
  have hA : Ah G a := (hM a (by omega)).1
  have hM2 : Mm G (sX μ (fun i => f (sp.toNatClampNeg + i)) a dp.toNatClampNeg n.toNatClampNeg) (H.setIfInBounds a cN) := by
    refine hM.upd (by simp) oq rfl rfl (fun _ _ _ => rfl) (fun b hb j' => ?_) ⟨fun c' h hc => ?_, fun j' h => ?_⟩
    · funext k
      match j' with
      | 0 => simp [mmE, mA, sX, hb]
      | 1 => simp [mmE, mA, sX, hb]
      | 2 => simp [mmE, mA, sX, hb]
      | 3 => rfl
      | 4 => rfl
      | j' + 5 => rfl
    · have h : mK μ a = c' + 1 := h
      omega
    · have h : mK μ a = j' + 32 := h
      have e : j' = 0 := by omega
      subst e
      refine ⟨hj, ?_⟩
      show (H.setIfInBounds a cN)[a]? = _
      rw [← hcell]
      simp only [Array.getElem?_setIfInBounds, hl9, if_true]
      congr 2
      funext k
      simp [mmE, mA, sX, va_cpy]
  obtain ⟨t, a1, b1⟩ := kk _ _ hM2 ⟨by simp; exact hS.1, fun q g1 g2 => by
      rw [oq q (fun e => g2 (by rw [e]; exact hA))]
      exact hS.2.1 q g1 g2, fun q hq => by
      rcases List.mem_append.mp hq with h | h
      · exact hS.2.2 q h
      · obtain ⟨z, -, hz⟩ := List.mem_map.mp h
        rw [← hz]
        exact hA⟩ (by simp) _ hheap X'
  exact ⟨t, step t a1, b1⟩
/-- .. out of one of ours -/
theorem mz_copyB (S : CallFix p m c cc nL s args TT own) (hG : GK G s s.heap) (hM : Mm G μ H) (hS : va_S (Ah G) s.heap H locs) (hl : ls.size = nL) {index a0 : Nat} (w1 : Cond.methodLink own index arraycopyName ∈ TT) (w2 : Cond.native arraycopyName ∈ TT) (w3 : Cond.static arraycopyName ∈ TT) (w4 : Cond.initialized "java/lang/System" ∈ TT)
    {sp dp n : Int32} (ha0 : mK μ a0 = 32) (ha : mK μ a = 32) (h1 : ¬ sp < 0) (h2 : ¬ dp < 0) (h3 : ¬ n < 0) (h4 : sp.toNatClampNeg + n.toNatClampNeg ≤ mN μ a0) (h5 : dp.toNatClampNeg + n.toNatClampNeg ≤ mN μ a) (hfit : ∀ i, i < n.toNatClampNeg → fits .byte (.int (mA μ a0 (sp.toNatClampNeg + i))) = true)
    (hframes : 1 ≤ R.frames) (hlocals : (rest.map fun v => v.category).sum + (nativeFrameWords "java/lang/System" "arraycopy" 5 + 11) ≤ R.locals) (hd : decode cc pc = .ok (.invokestatic index, 3))
    (kk : ∀ (H1 : Heap) (locs1 : List Loc), Mm G (sX μ (fun i => mA μ a0 (sp.toNatClampNeg + i)) a dp.toNatClampNeg n.toNatClampNeg) H1 → va_S (Ah G) s.heap H1 locs1 → H1.size = H.size → W p l e R s m args below meth c H1 locs1 cells slots Q (F0 m (pc + 3) ls rest)) : W p l e R s m args below meth c H locs cells slots Q (F0 m pc ls (.int n :: .int dp :: .ref a :: .int sp :: .ref a0 :: rest)) := by
  obtain ⟨hj, hc0⟩ := mz_arr (j := 0) hM ha0
  exact mz_copyC S hG hM hS hl w1 w2 w3 w4 (n0 := mN μ a0) hc0 (fun _ h => by cases h) (fun h => by cases h) ((hG.1.2 0 _ (gTy_at hj)).1 (mN μ a0) (mmE μ 0 a0)) (by rw [arrV_size]; exact Nat.le_refl _) (fun j hj => arrV_read _ _ hj) hfit ha h1 h2 h3 h4 h5 hframes hlocals hd kk
/-- .. out of a text of the class files -/
theorem mz_copyT (S : CallFix p m c cc nL s args TT own) (hG : GK G s s.heap) (hM : Mm G μ H) (hS : va_S (Ah G) s.heap H locs) (hl : ls.size = nL) {index a0 j : Nat} (w1 : Cond.methodLink own index arraycopyName ∈ TT) (w2 : Cond.native arraycopyName ∈ TT) (w3 : Cond.static arraycopyName ∈ TT) (w4 : Cond.initialized "java/lang/System" ∈ TT)
    {sp dp n : Int32} (hj : j < 37) (ha0 : a0 = gV G j) (ha : mK μ a = 32) (h1 : ¬ sp < 0) (h2 : ¬ dp < 0) (h3 : ¬ n < 0) (h4 : sp.toNatClampNeg + n.toNatClampNeg ≤ gLen.getD j 0) (h5 : dp.toNatClampNeg + n.toNatClampNeg ≤ mN μ a)
    (hframes : 1 ≤ R.frames) (hlocals : (rest.map fun v => v.category).sum + (nativeFrameWords "java/lang/System" "arraycopy" 5 + 11) ≤ R.locals) (hd : decode cc pc = .ok (.invokestatic index, 3))
    (kk : ∀ (H1 : Heap) (locs1 : List Loc), Mm G (sX μ (fun i => (gByt.getD j []).getD (sp.toNatClampNeg + i) 0) a dp.toNatClampNeg n.toNatClampNeg) H1 → va_S (Ah G) s.heap H1 locs1 → H1.size = H.size → W p l e R s m args below meth c H1 locs1 cells slots Q (F0 m (pc + 3) ls rest)) : W p l e R s m args below meth c H locs cells slots Q (F0 m pc ls (.int n :: .int dp :: .ref a :: .int sp :: .ref a0 :: rest)) := by
  subst ha0
  obtain ⟨cell, q1, q2, q3, q4, q5, q6, q7⟩ := (hG.txt j hj).2.2.2
  have hc : H[gV G j]? = some cell := by
    rw [hS.2.1 _ (Array.getElem?_eq_some_iff.mp q1).1 q7]
    exact q1
  exact mz_copyC S hG hM hS hl w1 w2 w3 w4 (n0 := gLen.getD j 0) hc (fun k h => q2.1 k h) q3 q2 q4 q6 (fun i _ => gByt_fit j _) ha h1 h2 h3 h4 h5 hframes hlocals hd kk
/-- an array of bytes whose length is computed, at most B -/
theorem mz_newb (S : CallFix p m c cc nL s args TT own) (hG : GK G s s.heap) (hM : Mm G μ H) (hS : va_S (Ah G) s.heap H locs) {z : Nat} (hz : H.size = z) (hg : gh G ≤ z) (w1 : Cond.arrayClass .byte ∈ TT) {n : Int32} (hn : ¬ n < 0) (hB : n.toNatClampNeg ≤ 16)
    (hcells : cells + 1 ≤ R.cells) (hslots : slots + 16 ≤ R.slots) (hd : decode cc pc = .ok (.newarray .byte, 2))
    (kk : ∀ (H1 : Heap), Mm G (nA μ z 0 n.toNatClampNeg) H1 → va_S (Ah G) s.heap H1 locs → H1.size = z + 1 → W p l e R s m args below meth c H1 locs (cells + 1) (slots + 16) Q (F0 m (pc + 2) ls (.ref z :: rest))) : W p l e R s m args below meth c H locs cells slots Q (F0 m pc ls (.int n :: rest)) := by
  refine mz_newa (j := 0) (atype := .byte) S hG hM hS hz hg (by decide) rfl w1 hn rfl ?_ hcells (by omega) hd (fun H1 h1 h2 h3 => W.widen (k := cells + 1) (n := slots + 16) (by omega) (by omega) (kk H1 h1 h2 h3))
  have : componentBytes (newarray.typeOf .byte) = 1 := rfl
  rw [this]
  omega
theorem mmE_nB {z b a : Nat} (hb : b ≠ z) (j' : Nat) : mmE (nB μ z a) j' b = mmE μ j' b := by
  funext k
  match j' with
  | 0 => simp [mmE, mA, nB, hb]
  | 1 => simp [mmE, mA, nB, hb]
  | 2 => simp [mmE, mA, nB, hb]
  | 3 => simp [mmE, mL, nB, hb]
  | 4 => simp [mmE, mD, nB, hb]
  | j' + 5 => simp [mmE, mB, nB, hb]
/-- a clone of an array of bytes -/
theorem mz_clone (S : CallFix p m c cc nL s args TT own) (hG : GK G s s.heap) (hM : Mm G μ H) (hS : va_S (Ah G) s.heap H locs) (hl : ls.size = nL) {z : Nat} (hz : H.size = z) (hg : gh G ≤ z) {index : Nat}
    (w1 : Cond.methodLink own index ⟨"[B", "clone", "()Ljava/lang/Object;"⟩ ∈ TT) (w2 : Cond.sameMethod "[B" "java/lang/Object" "clone" "()Ljava/lang/Object;" ∈ TT) (w3 : Cond.native ⟨"java/lang/Object", "clone", "()Ljava/lang/Object;"⟩ ∈ TT) (w4 : Cond.instanceMethod ⟨"java/lang/Object", "clone", "()Ljava/lang/Object;"⟩ ∈ TT)
    (w5 : Cond.selects "[B" ⟨"[B", "clone", "()Ljava/lang/Object;"⟩ ⟨"java/lang/Object", "clone", "()Ljava/lang/Object;"⟩ ∈ TT) (w6 : (Cond.castable "[B" "java/lang/Cloneable").before args s = true)
    (ha : mK μ a = 32) (hfit : ∀ i, i < mN μ a → fits .byte (.int (mA μ a i)) = true) (hB : mN μ a ≤ 16)
    (hframes : 1 ≤ R.frames) (hlocals : (rest.map fun v => v.category).sum + 14 ≤ R.locals) (hcells : cells + 1 ≤ R.cells) (hslots : slots + 16 ≤ R.slots) (hd : decode cc pc = .ok (.invokevirtual index, 3))
    (kk : ∀ (H1 : Heap), Mm G (nB μ z a) H1 → va_S (Ah G) s.heap H1 locs → H1.size = z + 1 → W p l e R s m args below meth c H1 locs (cells + 1) (slots + 16) Q (F0 m (pc + 3) ls (.ref z :: rest))) : W p l e R s m args below meth c H locs cells slots Q (F0 m pc ls (.ref a :: rest)) := by
  subst hz
  obtain ⟨hj, hcell⟩ := mz_arr (j := 0) hM ha
  have hra := (hG.1.2 0 _ (gTy_at hj)).2
  have hnm : s.vm.findClass "[B" = some (gC G 0) := hra
  obtain ⟨c0, t0', f1, f2, f3⟩ := Cond.castable_spec w6
  cases hnm.symm.trans f1
  have hvm0 : (arrV (gC G 0) (mN μ a) (mmE μ 0 a)).vm = .none := rfl
  have hcl0 : (arrV (gC G 0) (mN μ a) (mmE μ 0 a)).cls = gC G 0 := rfl
  have hsz : (arrV (gC G 0) (mN μ a) (mmE μ 0 a)).slots.size = mN μ a := arrV_size _ _ _
  have hcellE : ({ cls := (arrV (gC G 0) (mN μ a) (mmE μ 0 a)).cls, slots := (arrV (gC G 0) (mN μ a) (mmE μ 0 a)).slots } : Cell) = arrV (gC G 0) (mN μ a) (mmE μ 0 a) := rfl
  intro T hT X
  have hcellT : T.heap[a]? = some (arrV (gC G 0) (mN μ a) (mmE μ 0 a)) := by rw [hT]; exact hcell
  obtain ⟨-, kA, hkA, comp, hkind⟩ := State.isArrayOf_alike X.warmed.alike ((hG.1.2 0 _ (gTy_at hj)).1 0 (fun _ => .null))
  obtain ⟨-, kS, hkS, compS, hkindS⟩ := (hG.1.2 0 _ (gTy_at hj)).1 0 (fun _ => .null)
  obtain ⟨vm', X', st⟩ := X.cloneArray S.1 S.2.2.2.1 (S.2.2.2.2 _ w1) (S.2.2.2.2 _ w2) (S.2.2.2.2 _ w3) (S.2.2.2.2 _ w4) (S.2.2.2.2 _ w5) (a := a) (cell := arrV (gC G 0) (mN μ a) (mmE μ 0 a)) hcellT (fun k h => by rw [hvm0] at h; cases h) (by rw [hvm0]; exact fun h => by cases h) (by rw [hcl0]; exact hnm) f2 (by rw [hcl0]; exact f3)
    (fun i v hv => by
      rw [hcl0]
      have hk' : T.vm.classes[gC G 0]? = some kA := hkA
      have hi : i < mN μ a := by rw [← hsz]; exact (Array.getElem?_eq_some_iff.mp hv).1
      rw [arrV_read _ _ hi] at hv
      cases hv
      have h9 : fits (mmTy 0) (mmE μ 0 a i) = true := hfit i hi
      simpa [State.fitsSlot, State.slotType?, hk', hkind] using h9)
    (g := F0 m pc ls (.ref a :: rest)) rfl (by rw [S.2.2.1]; exact hl) rfl (by rw [S.2.1]; exact hd) hframes (by show 2 * 0 + _ + 14 ≤ _; omega) hcells (by rw [hsz]; omega) (hloader := by rw [hcl0]; exact Vm.clonesLoader_of_array hkS hkindS)
  rw [hcellE, hsz] at X'
  generalize hH1 : H.push (arrV (gC G 0) (mN μ a) (mmE μ 0 a)) = H1
  have z1 : H1.size = H.size + 1 := by rw [← hH1, Array.size_push]
  have e1 : H1[H.size]? = some (arrV (gC G 0) (mN μ a) (mmE μ 0 a)) := by rw [← hH1, Array.getElem?_push_size]
  have o1 : ∀ q : Nat, q < H.size → H1[q]? = H[q]? := fun q hq => by rw [← hH1, Array.getElem?_push, if_neg (Nat.ne_of_lt hq)]
  have hM1 : Mm G (nB μ H.size a) H1 := by
    refine hM.push rfl hg z1 o1 (fun b hb => by simp [mK, nB, hb]) (fun b hb => by simp [mN, nB, hb]) (fun b hb c' => rfl) (fun b hb j' => mmE_nB hb j') ⟨fun c' h hc => ?_, fun j' h => ?_⟩
    · have h : mK μ a = c' + 1 := by simpa [mK, nB] using h
      omega
    · have h : mK μ a = j' + 32 := by simpa [mK, nB] using h
      have e : j' = 0 := by omega
      subst e
      refine ⟨hj, ?_⟩
      rw [e1]
      have hNN : mN (nB μ H.size a) H.size = mN μ a := by simp [mN, nB]
      rw [hNN]
      congr 2
      funext k
      simp [mmE, mA, nB]
  obtain ⟨t, b1, b2⟩ := (W.widen (k := cells + 1) (n := slots + 16) (Nat.le_refl _) (by omega) (kk H1 hM1 (hS.grow z1 o1) z1) : W p l e R s m args below meth c H1 locs (cells + 1) (slots + mN μ a) Q (F0 m (pc + 3) ls (.ref H.size :: rest)))
    ((T.setVm vm').pushCell (arrV (gC G 0) (mN μ a) (mmE μ 0 a))) (by rw [← hH1, ← hT]; rfl) X'
  refine ⟨t, st t ?_, b2⟩
  rw [hcellE, hT]
  exact b1
/-- a cast that holds: an array of bytes is one -/
theorem mz_castB (S : CallFix p m c cc nL s args TT own) (hG : GK G s s.heap) (hM : Mm G μ H) {index : Nat} (w1 : Cond.classLink own index "[B" ∈ TT) (ha : mK μ a = 32) (hd : decode cc pc = .ok (.checkcast index, 3))
    (k : W p l e R s m args below meth c H locs cells slots Q (F0 m (pc + 3) ls (.ref a :: rest))) : W p l e R s m args below meth c H locs cells slots Q (F0 m pc ls (.ref a :: rest)) := by
  obtain ⟨hj, hcell⟩ := mz_arr (j := 0) hM ha
  have hnm : s.vm.findClass "[B" = some (gC G 0) := (hG.1.2 0 _ (gTy_at hj)).2
  intro T hT X
  obtain ⟨vm', X', st⟩ := X.checkcastYes S.1 S.2.2.2.1 (S.2.2.2.2 _ w1) (by rw [hT]; exact hcell) rfl hnm (va_asg _ _) (g := F0 m pc ls (.ref a :: rest)) rfl rfl (by rw [S.2.1]; exact hd)
  obtain ⟨t, a1, b1⟩ := k (T.setVm vm') hT X'
  exact ⟨t, st t a1, b1⟩
/-- a method called by the name of the class above, that the receiver's class overrides -/
theorem mz_O (S : CallFix p m c cc nL s args TT own) (hG : GK G s s.heap) (hM : Mm G μ H) (hS : va_S (Ah G) s.heap H locs) {C : String} {x : MethodName} {b0 : ByteArray} {m0 : Nat} {r0 : Option FieldType} (hO : ∃ cellB : Cell, H[b]? = some cellB ∧ cellB.vm.isStatics = false ∧ s.vm.findClass C = some cellB.cls) (hc : MC G l y bytes maxL ret rm (.ref b :: As) μ post) (yf : mzY y bytes maxL ret n)
    (w1 : Cond.methodLink own index x ∈ TT) (w4 : Cond.sameMethod x.cls x.cls x.name x.desc ∈ TT) (w0 : Cond.instanceMethod x ∈ TT) (w5 : Cond.code x b0 m0 r0 ∈ TT) (w2 : Cond.instanceMethod y ∈ TT) (w3 : Cond.selects C x y ∈ TT) (hx : x.cls ≠ "java/lang/invoke/MethodHandle" ∧ x.cls ≠ "java/lang/invoke/VarHandle") (hdx : (parseMethodDescriptor x.desc).map (fun d => d.parameters.length) = some n)
    (hR : rm.frames + 1 ≤ R.frames ∧ 8 + (maxL + 11) + rm.locals ≤ R.locals) (hf : cells + rm.cells ≤ R.cells ∧ slots + rm.slots ≤ R.slots) (hn : As.length = n) (hsize : ls.size = nL) (hst : st0 = As.reverse ++ .ref b :: rest) (hW : (rest.map fun v => v.category).sum ≤ 8) (hd : decode cc pc = .ok (.invokevirtual index, 3))
    (kk : ∀ (v : Option Value) (μ' : mmT) (H1 : Heap) (locs1 : List Loc), post v μ' → Mm G μ' H1 → va_S (Ah G) s.heap H1 locs1 → W p l e R s m args below meth c H1 locs1 (cells + rm.cells) (slots + rm.slots) Q (F0 m (pc + 3) ls (v.toList ++ rest))) : W p l e R s m args below meth c H locs cells slots Q (F0 m pc ls st0) :=
  mz_run (va_runU (C := C) (owner := x.cls) (x := x) S hc ⟨⟨rfl, rfl, hR.1, hR.2, pay_in S.2.2.2.2 (TT_g yf.1), List.mem_cons_self⟩, S.2.2.2.2 _ yf.1, S.2.2.2.2 _ yf.2.1, hx, mz_sigs hdx, S.2.2.2.2 _ w1, S.2.2.2.2 _ w4, va_Decl.of (S.2.2.2.2 _ w0) (S.2.2.2.2 _ w5), S.2.2.2.2 _ w3, S.2.2.2.2 _ w2⟩ ⟨mP_blind, hO, mz_pre hG hM hS⟩ rfl hn hsize hst (lv_room hW) hd hf) hS kk
theorem mz_putFi (S : CallFix p m c cc nL s args TT own) (hG : GK G s s.heap) (hM : Mm G μ H) (hS0 : va_S (Ah G) s.heap H locs) {ci k F N index : Nat} {C : String} {T : u_T} {ty : Nat → FieldType} {n d : String} {x : Int32} (f : mzC ci C T N ty) (q : mzF F ci k T N false own n d true) (hl : Cond.fieldLink own index own n d ∈ TT)
    (hd : decode cc pc = .ok (.putfield index, 3)) (hin : meth.name = "<init>") (ha : mK μ a = ci + 1) (hn : narrow (ty k) (.int x) = .int x) (hfit : fits (ty k) (.int x) = true)
    (kk : ∀ (H1 : Heap) (locs1 : List Loc), Mm G (sI μ F a x) H1 → va_S (Ah G) s.heap H1 locs1 → H1.size = H.size → W p l e R s m args below meth c H1 locs1 cells slots Q (F0 m (pc + 3) ls rest)) : W p l e R s m args below meth c H locs cells slots Q (F0 m pc ls (.int x :: .ref a :: rest)) :=
  mz_putF (μ' := sI μ F a x) S hG hM hS0 f q hl hd hin ha hn hfit rfl rfl (fun b hb ci => mmV_sIo hb ci) (fun _ _ => rfl) (fun j => mmV_sI q.2.1 q.2.2.1 j) kk
theorem mz_nB {x : Int32} (h : x = 0) : narrow .byte (.int x) = .int x := by subst h; rfl
theorem mz_fB {x : Int32} (h : x = 0) : fits .byte (.int x) = true := by subst h; rfl
end MROWS8
end
section
theorem zz_1 : True := trivial
end
