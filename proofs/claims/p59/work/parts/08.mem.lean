/-! MEMORY AS PLAIN FUNCTIONS: what the cells of the claim's own objects and arrays hold. mK: an address's kind (0: not ours; ci+1: an object of class ci of mmCl; 32+j: an array of type j of gTy), mN an array's length, mI/mR a field's number/reference (field F = 32*ci+slot), mA/mB/mL/mD an array's entries. -/
abbrev mmT : Type := (Nat → Nat) × (Nat → Nat) × (Nat → Nat → Int32) × (Nat → Nat → Option Nat) × (Nat → Nat → Int32) × (Nat → Nat → Option Nat) × (Nat → Nat → Int64) × (Nat → Nat → UInt64)
def mK (μ : mmT) : Nat → Nat := μ.1
def mN (μ : mmT) : Nat → Nat := μ.2.1
def mI (μ : mmT) : Nat → Nat → Int32 := μ.2.2.1
def mR (μ : mmT) : Nat → Nat → Option Nat := μ.2.2.2.1
def mA (μ : mmT) : Nat → Nat → Int32 := μ.2.2.2.2.1
def mB (μ : mmT) : Nat → Nat → Option Nat := μ.2.2.2.2.2.1
def mL (μ : mmT) : Nat → Nat → Int64 := μ.2.2.2.2.2.2.1
def mD (μ : mmT) : Nat → Nat → UInt64 := μ.2.2.2.2.2.2.2
def u2 {α : Type} (f : Nat → Nat → α) (F a : Nat) (v : α) : Nat → Nat → α := fun G b => if G = F ∧ b = a then v else f G b
def sI (μ : mmT) (F a : Nat) (v : Int32) : mmT := (mK μ, mN μ, u2 (mI μ) F a v, mR μ, mA μ, mB μ, mL μ, mD μ)
def sR (μ : mmT) (F a : Nat) (v : Option Nat) : mmT := (mK μ, mN μ, mI μ, u2 (mR μ) F a v, mA μ, mB μ, mL μ, mD μ)
def sA (μ : mmT) (a i : Nat) (v : Int32) : mmT := (mK μ, mN μ, mI μ, mR μ, u2 (mA μ) a i v, mB μ, mL μ, mD μ)
def sB (μ : mmT) (a i : Nat) (v : Option Nat) : mmT := (mK μ, mN μ, mI μ, mR μ, mA μ, u2 (mB μ) a i v, mL μ, mD μ)
def sL (μ : mmT) (a i : Nat) (v : Int64) : mmT := (mK μ, mN μ, mI μ, mR μ, mA μ, mB μ, u2 (mL μ) a i v, mD μ)
def sD (μ : mmT) (a i : Nat) (v : UInt64) : mmT := (mK μ, mN μ, mI μ, mR μ, mA μ, mB μ, mL μ, u2 (mD μ) a i v)
/-- System.arraycopy of ints -/
def sC (μ : mmT) (src sp dst dp n : Nat) : mmT := (mK μ, mN μ, mI μ, mR μ, fun a k => if a = dst ∧ dp ≤ k ∧ k < dp + n then mA μ src (sp + (k - dp)) else mA μ a k, mB μ, mL μ, mD μ)
/-- a new object, a new array -/
def nO (μ : mmT) (a ci : Nat) : mmT := (fun b => if b = a then ci + 1 else mK μ b, mN μ, fun F b => if b = a then 0 else mI μ F b, fun F b => if b = a then none else mR μ F b, mA μ, mB μ, mL μ, mD μ)
def nA (μ : mmT) (a j n : Nat) : mmT := (fun b => if b = a then j + 32 else mK μ b, fun b => if b = a then n else mN μ b, mI μ, mR μ, fun b i => if b = a then 0 else mA μ b i, fun b i => if b = a then none else mB μ b i, fun b i => if b = a then 0 else mL μ b i, fun b i => if b = a then 0 else mD μ b i)
/-- the words that a method's walk may use, and hand on (TT); a private method of the class above, on an object of the class below: 'selects' isn't in the tables, but follows from them -/
def xtraW : List Cond := [Cond.selects RJ4 yJ5_ensureCapacityInternal_d00df yJ5_ensureCapacityInternal_d00df, Cond.selects RJ4 yJ5_putStringAt_47b60 yJ5_putStringAt_47b60, Cond.selects RJ4 yJ5_inflateIfNeededFor_a7421 yJ5_inflateIfNeededFor_a7421]
def TT : List Cond := (xtraW ++ lw_tbl).filter goodWord
theorem TT_x {i : Nat} {w : Cond} (h : xtraW[i]? = some w) (g : goodWord w = true) : w ∈ TT := List.mem_filter.mpr ⟨List.mem_append_left _ (List.mem_of_getElem? h), g⟩
theorem TT_t {i : Nat} {w : Cond} (h : tables_1[i]? = some w) (g : goodWord w = true) : w ∈ TT := List.mem_filter.mpr ⟨List.mem_append_right _ (List.mem_append_right _ (List.mem_of_getElem? h)), g⟩
theorem TT_s {i : Nat} {w : Cond} (h : (k2_sels lw_privs)[i]? = some w) (g : goodWord w = true) : w ∈ TT := List.mem_filter.mpr ⟨List.mem_append_right _ (List.mem_append_left _ (List.mem_of_getElem? h)), g⟩
theorem TT_ok {w : Cond} (h : w ∈ TT) : (w.onTables && w.keeps) = true ∨ ∃ ty, w = .arrayClass ty := good_of_word (List.mem_filter.mp h).2
theorem TT_all {c : Cond} {ws : List Cond} (h : ∀ w ∈ ws, w ∈ TT) : GoodIn (c :: TT) ws := fun w hw => ⟨List.mem_cons_of_mem _ (h w hw), TT_ok (h w hw)⟩
abbrev mmCl : List vw_C := [(RJ4, TJ4, 4), (RX1, TX1, 3), (RX2, TX2, 3), (RX4, TX4, 3), (RX5, TX5, 6), (RX6, TX6, 7), (RX7, TX7, 9), (RX8, TX8, 9), (RX9, TX9, 7), (RX10, TX10, 10), (RJ0, TJ0, 4)]
/-- which fields hold references -/
def mmRf : Nat → Nat → Bool := fun ci k => match ci, k with
  | 0, 0 => true
  | 1, 0 => true
  | 3, 0 => true
  | 5, 0 => true
  | 5, 1 => true
  | 6, 0 => true
  | 6, 1 => true
  | 7, 0 => true
  | 7, 1 => true
  | 7, 2 => true
  | 7, 3 => true
  | 9, 0 => true
  | 9, 1 => true
  | 9, 2 => true
  | 9, 3 => true
  | 9, 4 => true
  | 9, 5 => true
  | 9, 6 => true
  | 10, 0 => true
  | _, _ => false
/-- what a field, an array's entry holds -/
def mmV (μ : mmT) (ci a : Nat) : Nat → Value := fun k => if mmRf ci k = true then va_rf (mR μ (32 * ci + k) a) else .int (mI μ (32 * ci + k) a)
def mmE (μ : mmT) (j a : Nat) : Nat → Value := fun i => match j with
  | 0 => .int (mA μ a i)
  | 1 => .int (mA μ a i)
  | 2 => .int (mA μ a i)
  | 3 => .long (mL μ a i)
  | 4 => .double (mD μ a i)
  | _ => va_rf (mB μ a i)
def mmTy : Nat → FieldType := fun j => match j with
  | 0 => .byte
  | 1 => .char
  | 2 => .int
  | 3 => .long
  | 4 => .long
  | 5 => .object RX1
  | 6 => .object RX2
  | 7 => .object RX5
  | 8 => .object RX6
  | _ => .object RX8
/-- the given things: classes' numbers and slots, array classes' numbers, the first address that is ours, the addresses of the texts, of their bytes, of the enum's constants, of static arrays -/
abbrev mgT : Type := va_G × (Nat → ClassId) × Nat × (Nat → Nat) × (Nat → Nat) × (Nat → Nat) × (Nat → Nat) × (Nat → Int32)
def gD (G : mgT) : va_G := G.1
def gC (G : mgT) : Nat → ClassId := G.2.1
def gh (G : mgT) : Nat := G.2.2.1
def gS (G : mgT) : Nat → Nat := G.2.2.2.1
def gV (G : mgT) : Nat → Nat := G.2.2.2.2.1
def gE (G : mgT) : Nat → Nat := G.2.2.2.2.2.1
def gX (G : mgT) : Nat → Nat := G.2.2.2.2.2.2.1
/-- the script's ints (its address: gX 5, its length: gX 6) -/
def gQ (G : mgT) : Nat → Int32 := G.2.2.2.2.2.2.2
/-- a static of the JDK that may be null: it is only carried -/
def gF (G : mgT) : Option Nat := if gX G 4 = 0 then none else some (gX G 4 - 1)
def Ah (G : mgT) : Nat → Prop := fun q => gh G ≤ q
def gTy (G : mgT) : List (ClassId × FieldType) := (List.range 10).map (fun j => (gC G j, mmTy j))
theorem gTy_at {G : mgT} {j : Nat} (h : j < 10) : (gTy G)[j]? = some (gC G j, mmTy j) := by
  unfold gTy
  rw [List.getElem?_map, List.getElem?_range h]
  rfl
def mmOk (G : mgT) (μ : mmT) (H : Heap) (a : Nat) : Prop :=
  (∀ ci, mK μ a = ci + 1 → ci < 31 → ∃ r, mmCl[ci]? = some r ∧ t_OB a ((gD G).1 ci) r.2.2 ((gD G).2 ci) H (mmV μ ci a)) ∧
  (∀ j, mK μ a = j + 32 → j < 10 ∧ H[a]? = some (arrV (gC G j) (mN μ a) (mmE μ j a)))
def Mm (G : mgT) (μ : mmT) (H : Heap) : Prop := ∀ a, mK μ a ≠ 0 → gh G ≤ a ∧ a < H.size ∧ mmOk G μ H a
/-! the words that the tables alone decide and that a call doesn't hand on by itself -/
def isOt : Cond → Bool
  | .declares _ => true
  | .castable _ _ => true
  | .methodLinkNest _ _ _ _ => true
  | .fieldLinkNest _ _ _ _ _ _ => true
  | _ => false
theorem isOt_moved {w : Cond} (h : isOt w = true) {s U : State} (hW : s.WarmedH U.vm) (hZ : va_Nw w s) : va_Nw w U := by
  cases w with
  | declares x => exact va_Nw.warmD hW hZ
  | castable a b => exact va_tabs rfl (rfl : (s.setVm U.vm).vm = U.vm) (by rw [Cond.castable_setVm hW.alike]; exact hZ)
  | methodLinkNest a i x h => exact va_Nw.warmM hW hZ
  | fieldLinkNest a i b n d h => exact va_Nw.warmF hW hZ
  | _ => cases h
theorem isOt_same {w : Cond} (h : isOt w = true) {u U : State} (hv : u.vm = U.vm) (hZ : va_Nw w u) : va_Nw w U := by
  cases w with
  | declares x => exact va_Nw.same rfl hv hZ
  | castable a b => exact va_Nw.same rfl hv hZ
  | methodLinkNest a i x h => exact va_Nw.same rfl hv hZ
  | fieldLinkNest a i b n d h => exact va_Nw.same rfl hv hZ
  | _ => cases h
/-- the texts: own class, pool number, the text -/
def gStr : List (String × Nat × String) := [("CrowMail", 134, "there is no such position"), ("CrowMail", 110, "there is no such message"), ("CrowMail", 212, "the message is not napping"), ("CrowMail", 235, "the message is delivered now"), ("CrowMail", 240, "the message would not be delivered within 100 minutes"), ("CrowMail", 93, "the argument is out of its range"), ("CrowMail", 100, "the state does not allow this change"), ("CrowMail", 105, "there is no such nest"), ("CrowMailLaw", 254, "wait "), ("CrowMailLaw", 263, ";send "), ("CrowMailLaw", 265, " "), ("java/util/Arrays", 337, " > "), ("CrowMailLaw", 271, ";drop "), ("CrowMailLaw", 273, ";read "), ("CrowMailLaw", 275, ";"), ("CrowMail", 337, "character codes are 32 to 126"), ("CrowMail", 341, "the script buffer is full"), ("CrowMail", 351, "the script does not have the form"), ("CrowMail", 364, "a command of the script failed"), ("CrowMail", 181, "there is no such crow"), ("CrowMail", 167, "the crow is free"), ("CrowMail", 150, "there is no such rank"), ("CrowMail", 226, "attempts are 0 to 40"), ("CrowMail", 220, "the message is delivered"), ("CrowMail", 277, "there are no messages"), ("CrowMail", 288, "there were no arrivals"), ("CrowMail", 373, "there is nothing to undo"), ("CrowMail", 378, "there is no snapshot"), ("CrowMail$Form", 79, "wait"), ("CrowMail$Form", 55, "nest # #"), ("CrowMail$Form", 61, "crow"), ("CrowMail$Form", 64, "send # %"), ("CrowMail$Form", 67, "read #"), ("CrowMail$Form", 70, "drop %"), ("CrowMail$Form", 73, "wind #"), ("CrowMail$Form", 76, "forget #"), ("CrowMail$Form", 82, "wait %")]
def gLen : List Nat := [25, 24, 26, 28, 53, 32, 36, 21, 5, 6, 1, 3, 6, 6, 1, 29, 25, 33, 30, 21, 16, 21, 20, 24, 21, 22, 24, 20, 4, 8, 4, 8, 6, 6, 6, 8, 6]
def gByt : List (List Int32) := [[116, 104, 101, 114, 101, 32, 105, 115, 32, 110, 111, 32, 115, 117, 99, 104, 32, 112, 111, 115, 105, 116, 105, 111, 110], [116, 104, 101, 114, 101, 32, 105, 115, 32, 110, 111, 32, 115, 117, 99, 104, 32, 109, 101, 115, 115, 97, 103, 101], [116, 104, 101, 32, 109, 101, 115, 115, 97, 103, 101, 32, 105, 115, 32, 110, 111, 116, 32, 110, 97, 112, 112, 105, 110, 103], [116, 104, 101, 32, 109, 101, 115, 115, 97, 103, 101, 32, 105, 115, 32, 100, 101, 108, 105, 118, 101, 114, 101, 100, 32, 110, 111, 119], [116, 104, 101, 32, 109, 101, 115, 115, 97, 103, 101, 32, 119, 111, 117, 108, 100, 32, 110, 111, 116, 32, 98, 101, 32, 100, 101, 108, 105, 118, 101, 114, 101, 100, 32, 119, 105, 116, 104, 105, 110, 32, 49, 48, 48, 32, 109, 105, 110, 117, 116, 101, 115], [116, 104, 101, 32, 97, 114, 103, 117, 109, 101, 110, 116, 32, 105, 115, 32, 111, 117, 116, 32, 111, 102, 32, 105, 116, 115, 32, 114, 97, 110, 103, 101], [116, 104, 101, 32, 115, 116, 97, 116, 101, 32, 100, 111, 101, 115, 32, 110, 111, 116, 32, 97, 108, 108, 111, 119, 32, 116, 104, 105, 115, 32, 99, 104, 97, 110, 103, 101], [116, 104, 101, 114, 101, 32, 105, 115, 32, 110, 111, 32, 115, 117, 99, 104, 32, 110, 101, 115, 116], [119, 97, 105, 116, 32], [59, 115, 101, 110, 100, 32], [32], [32, 62, 32], [59, 100, 114, 111, 112, 32], [59, 114, 101, 97, 100, 32], [59], [99, 104, 97, 114, 97, 99, 116, 101, 114, 32, 99, 111, 100, 101, 115, 32, 97, 114, 101, 32, 51, 50, 32, 116, 111, 32, 49, 50, 54], [116, 104, 101, 32, 115, 99, 114, 105, 112, 116, 32, 98, 117, 102, 102, 101, 114, 32, 105, 115, 32, 102, 117, 108, 108], [116, 104, 101, 32, 115, 99, 114, 105, 112, 116, 32, 100, 111, 101, 115, 32, 110, 111, 116, 32, 104, 97, 118, 101, 32, 116, 104, 101, 32, 102, 111, 114, 109], [97, 32, 99, 111, 109, 109, 97, 110, 100, 32, 111, 102, 32, 116, 104, 101, 32, 115, 99, 114, 105, 112, 116, 32, 102, 97, 105, 108, 101, 100], [116, 104, 101, 114, 101, 32, 105, 115, 32, 110, 111, 32, 115, 117, 99, 104, 32, 99, 114, 111, 119], [116, 104, 101, 32, 99, 114, 111, 119, 32, 105, 115, 32, 102, 114, 101, 101], [116, 104, 101, 114, 101, 32, 105, 115, 32, 110, 111, 32, 115, 117, 99, 104, 32, 114, 97, 110, 107], [97, 116, 116, 101, 109, 112, 116, 115, 32, 97, 114, 101, 32, 48, 32, 116, 111, 32, 52, 48], [116, 104, 101, 32, 109, 101, 115, 115, 97, 103, 101, 32, 105, 115, 32, 100, 101, 108, 105, 118, 101, 114, 101, 100], [116, 104, 101, 114, 101, 32, 97, 114, 101, 32, 110, 111, 32, 109, 101, 115, 115, 97, 103, 101, 115], [116, 104, 101, 114, 101, 32, 119, 101, 114, 101, 32, 110, 111, 32, 97, 114, 114, 105, 118, 97, 108, 115], [116, 104, 101, 114, 101, 32, 105, 115, 32, 110, 111, 116, 104, 105, 110, 103, 32, 116, 111, 32, 117, 110, 100, 111], [116, 104, 101, 114, 101, 32, 105, 115, 32, 110, 111, 32, 115, 110, 97, 112, 115, 104, 111, 116], [119, 97, 105, 116], [110, 101, 115, 116, 32, 35, 32, 35], [99, 114, 111, 119], [115, 101, 110, 100, 32, 35, 32, 37], [114, 101, 97, 100, 32, 35], [100, 114, 111, 112, 32, 37], [119, 105, 110, 100, 32, 35], [102, 111, 114, 103, 101, 116, 32, 35], [119, 97, 105, 116, 32, 37]]
def gNm : List String := ["NEST", "CROW", "SEND", "READ", "DROP", "WIND", "FORGET", "WAIT", "WAIT_LONG"]
def gOrd : List Int32 := [0, 1, 2, 3, 4, 5, 6, 7, 8]
/-- the text of an enum constant's pattern, by its place in gStr -/
def gPat (i : Nat) : Nat := ([29, 30, 31, 32, 33, 34, 35, 28, 36] : List Nat).getD i 0
def gSw (i : Nat) : Int32 := ([1, 2, 3, 4, 5, 6, 7, 0, 8] : List Int32).getD i 0
def gOne (i : Nat) : Int32 := ([48, 49, 50, 51, 52, 53, 54, 55, 56, 57, 48, 49, 50, 51, 52, 53, 54, 55, 56, 57, 48, 49, 50, 51, 52, 53, 54, 55, 56, 57, 48, 49, 50, 51, 52, 53, 54, 55, 56, 57, 48, 49, 50, 51, 52, 53, 54, 55, 56, 57, 48, 49, 50, 51, 52, 53, 54, 55, 56, 57, 48, 49, 50, 51, 52, 53, 54, 55, 56, 57, 48, 49, 50, 51, 52, 53, 54, 55, 56, 57, 48, 49, 50, 51, 52, 53, 54, 55, 56, 57, 48, 49, 50, 51, 52, 53, 54, 55, 56, 57] : List Int32).getD i 0
def gTen (i : Nat) : Int32 := ([48, 48, 48, 48, 48, 48, 48, 48, 48, 48, 49, 49, 49, 49, 49, 49, 49, 49, 49, 49, 50, 50, 50, 50, 50, 50, 50, 50, 50, 50, 51, 51, 51, 51, 51, 51, 51, 51, 51, 51, 52, 52, 52, 52, 52, 52, 52, 52, 52, 52, 53, 53, 53, 53, 53, 53, 53, 53, 53, 53, 54, 54, 54, 54, 54, 54, 54, 54, 54, 54, 55, 55, 55, 55, 55, 55, 55, 55, 55, 55, 56, 56, 56, 56, 56, 56, 56, 56, 56, 56, 57, 57, 57, 57, 57, 57, 57, 57, 57, 57] : List Int32).getD i 0
def gNc : List (String × String) := [("java/lang/IndexOutOfBoundsException", "java/util/NoSuchElementException"), ("java/lang/IllegalStateException", "java/util/NoSuchElementException"), ("java/lang/IllegalArgumentException", "java/util/NoSuchElementException"), ("java/lang/ArithmeticException", "java/util/NoSuchElementException"), ("java/lang/IndexOutOfBoundsException", "java/lang/IllegalStateException"), ("java/util/NoSuchElementException", "java/lang/IllegalStateException"), ("java/lang/IllegalArgumentException", "java/lang/IllegalStateException"), ("java/lang/ArithmeticException", "java/lang/IllegalStateException"), ("java/lang/IndexOutOfBoundsException", "java/lang/IllegalArgumentException"), ("java/util/NoSuchElementException", "java/lang/IllegalArgumentException"), ("java/lang/IllegalStateException", "java/lang/IllegalArgumentException"), ("java/lang/ArithmeticException", "java/lang/IllegalArgumentException"), ("java/util/NoSuchElementException", "java/lang/IndexOutOfBoundsException"), ("java/lang/IllegalStateException", "java/lang/IndexOutOfBoundsException"), ("java/lang/IllegalArgumentException", "java/lang/IndexOutOfBoundsException"), ("java/lang/ArithmeticException", "java/lang/IndexOutOfBoundsException"), ("java/lang/IndexOutOfBoundsException", "java/lang/ArithmeticException"), ("java/util/NoSuchElementException", "java/lang/ArithmeticException"), ("java/lang/IllegalStateException", "java/lang/ArithmeticException"), ("java/lang/IllegalArgumentException", "java/lang/ArithmeticException")]
/-- a text of the class files: its object, its bytes -/
def mzS (G : mgT) (i : Nat) (U : State) (H : Heap) : Prop := va_O "java/lang/String" (gS G i) (Ah G) U H ∧ va_OF "java/lang/String" "coder" "B" (.int 0) (gS G i) (Ah G) U H ∧ va_OF "java/lang/String" "value" "[B" (.ref (gV G i)) (gS G i) (Ah G) U H ∧ va_T .byte (gV G i) (gLen.getD i 0) (fun j => .int ((gByt.getD i []).getD j 0)) (Ah G) U H
theorem mzS.moved {G : mgT} {i : Nat} {u U : State} {H : Heap} (hvm : u.vm.Alike U.vm) (h : mzS G i u H) : mzS G i U H := ⟨h.1.moved hvm, h.2.1.moved hvm, h.2.2.1.moved hvm, h.2.2.2.moved hvm⟩
theorem mzS.kept {G : mgT} {i : Nat} {U : State} {H H1 : Heap} (h : mzS G i U H) (hq : ∀ a : Nat, a < H.size → ¬ Ah G a → H1[a]? = H[a]?) : mzS G i U H1 := ⟨h.1.kept hq, h.2.1.kept hq, h.2.2.1.kept hq, h.2.2.2.kept hq⟩
/-- what the Statement gives of the start, and every call keeps: classes, array classes, links, texts, the enum and its tables -/
def GK (G : mgT) (U : State) (H : Heap) : Prop :=
  va_K (gD G) mmCl (gTy G) U ∧
  (∀ w ∈ tables_1, isOt w = true → va_Nw w U) ∧
  (∀ j, 5 ≤ j → j < 10 → ∀ C, mmTy j = .object C → va_AO C U) ∧
  (∀ q ∈ gNc, va_Nc q.1 q.2 U) ∧
  (vx_Zq Bundle.tN "UNASSIGNED_STACK" Bundle.steD (Ah G) U H ∧ vx_Zq Bundle.tN "SUPPRESSED_SENTINEL" Bundle.listD (Ah G) U H) ∧
  (∀ j q, gStr[j]? = some q → vk_R q.1 q.2.1 q.2.2 (gS G j) U) ∧
  (∀ i : Nat, i < 37 → mzS G i U H) ∧
  (va_En "CrowMail$Form" "LCrowMail$Form;" gNm [("java/lang/Enum", "ordinal", "I", gOrd)] (gE G) (Ah G) U H ∧ va_Ef 9 "CrowMail$Form" "pattern" "Ljava/lang/String;" (fun i => .ref (gS G (gPat i))) (gE G) (Ah G) U H) ∧
  (va_Z "CrowMail" "FORMS" "[LCrowMail$Form;" (.ref (gX G 0)) (Ah G) U H ∧ va_T (.object "CrowMail$Form") (gX G 0) 9 (fun i => .ref (gE G i)) (Ah G) U H) ∧
  (va_Z "CrowMail$1" "$SwitchMap$CrowMail$Form" "[I" (.ref (gX G 1)) (Ah G) U H ∧ va_T .int (gX G 1) 9 (fun i => .int (gSw i)) (Ah G) U H) ∧
  va_Z "java/lang/String" "COMPACT_STRINGS" "Z" (.int 1) (Ah G) U H ∧
  (va_Z "java/lang/Integer" "DigitOnes" "[B" (.ref (gX G 2)) (Ah G) U H ∧ va_T .byte (gX G 2) 100 (fun i => .int (gOne i)) (Ah G) U H) ∧
  (va_Z "java/lang/Integer" "DigitTens" "[B" (.ref (gX G 3)) (Ah G) U H ∧ va_T .byte (gX G 3) 100 (fun i => .int (gTen i)) (Ah G) U H) ∧
  va_Z "jdk/internal/util/Preconditions" "SIOOBE_FORMATTER" "Ljava/util/function/BiFunction;" (va_rf (gF G)) (Ah G) U H ∧
  (va_T .int (gX G 5) (gX G 6) (fun i => .int (gQ G i)) (Ah G) U H ∧ gh G ≤ H.size)
theorem GK.at {G : mgT} {s U : State} {H0 H : Heap} (h : GK G s H0) (hz : H0.size ≤ H.size) (hq : ∀ a : Nat, a < H0.size → ¬ Ah G a → H[a]? = H0[a]?) (hW : s.WarmedH U.vm) : GK G U H := by
  obtain ⟨a1, a2, a3, a4, ⟨a5, a6⟩, a7, a8, ⟨a9, a10⟩, ⟨b1, b2⟩, ⟨b3, b4⟩, b5, ⟨b6, b7⟩, ⟨b8, b9⟩, c1, c2, c3⟩ := h
  have m := hW.alike
  exact ⟨va_K.moved m a1, fun w hw ho => isOt_moved ho hW (a2 w hw ho), fun j h1 h2 C hC => va_AO.moved m (a3 j h1 h2 C hC), fun q hq => va_Nc.moved m (a4 q hq), ⟨(a5.kept hq).moved m, (a6.kept hq).moved m⟩, fun j q hj => vk_R.warm hW (a7 j q hj),
    fun i hi => ((a8 i hi).kept hq).moved m, ⟨(a9.kept hq).moved m, (a10.kept hq).moved m⟩, ⟨(b1.kept hq).moved m, (b2.kept hq).moved m⟩, ⟨(b3.kept hq).moved m, (b4.kept hq).moved m⟩, (b5.kept hq).moved m, ⟨(b6.kept hq).moved m, (b7.kept hq).moved m⟩, ⟨(b8.kept hq).moved m, (b9.kept hq).moved m⟩, (c1.kept hq).moved m, (c2.kept hq).moved m, Nat.le_trans c3 hz⟩
theorem GK.same {G : mgT} {u U : State} {H : Heap} (h : GK G u H) (hv : u.vm = U.vm) : GK G U H := by
  obtain ⟨a1, a2, a3, a4, ⟨a5, a6⟩, a7, a8, ⟨a9, a10⟩, ⟨b1, b2⟩, ⟨b3, b4⟩, b5, ⟨b6, b7⟩, ⟨b8, b9⟩, c1, c2, c3⟩ := h
  have m : u.vm.Alike U.vm := by rw [hv]; exact Vm.Alike.refl _
  exact ⟨va_K.moved m a1, fun w hw ho => isOt_same ho hv (a2 w hw ho), fun j h1 h2 C hC => va_AO.moved m (a3 j h1 h2 C hC), fun q hq => va_Nc.moved m (a4 q hq), ⟨a5.moved m, a6.moved m⟩, fun j q hj => vk_R.same hv.symm (a7 j q hj),
    fun i hi => (a8 i hi).moved m, ⟨a9.moved m, a10.moved m⟩, ⟨b1.moved m, b2.moved m⟩, ⟨b3.moved m, b4.moved m⟩, b5.moved m, ⟨b6.moved m, b7.moved m⟩, ⟨b8.moved m, b9.moved m⟩, c1.moved m, c2.moved m, c3⟩
/-- a method's start and end, for every method alike -/
def mP (G : mgT) (av : List Value) (μ : mmT) : Array Value → State → Prop := va_Pc av (fun U => GK G U U.heap ∧ Mm G μ U.heap)
theorem mP_blind {G : mgT} {av : List Value} {μ : mmT} : FrameBlind (mP G av μ) := fun _ _ _ _ h => ⟨h.1, h.2.1.same rfl, h.2.2⟩
def mQ (G : mgT) (post : Option Value → mmT → Prop) : Array Value → State → Outcome → State → Prop := fun _ st oc t => (∃ (v : Option Value) (μ : mmT), oc = .returned v ∧ post v μ ∧ Mm G μ t.heap) ∧ va_F (Ah G) st t
def mX (G : mgT) (px : String → mmT → Prop) : String → State → State → Prop := fun E st t => ∃ μ : mmT, px E μ ∧ Mm G μ t.heap ∧ va_F (Ah G) st t
def pI (Q : Int32 → mmT → Prop) : Option Value → mmT → Prop := fun v μ => ∃ r : Int32, v = some (.int r) ∧ Q r μ
def pL (Q : Int64 → mmT → Prop) : Option Value → mmT → Prop := fun v μ => ∃ r : Int64, v = some (.long r) ∧ Q r μ
def pF (Q : UInt32 → mmT → Prop) : Option Value → mmT → Prop := fun v μ => ∃ r : UInt32, v = some (.float r) ∧ Q r μ
def pD (Q : UInt64 → mmT → Prop) : Option Value → mmT → Prop := fun v μ => ∃ r : UInt64, v = some (.double r) ∧ Q r μ
def pR (Q : Option Nat → mmT → Prop) : Option Value → mmT → Prop := fun v μ => ∃ r : Option Nat, v = some (va_rf r) ∧ Q r μ
def pV (Q : mmT → Prop) : Option Value → mmT → Prop := fun v μ => v = none ∧ Q μ
/-- a contract: MC returns, MX returns or throws, MZ a constructor that makes cells (z: the heap's size) -/
def MC (G : mgT) (l : Launch) (y : MethodName) (cc : ByteArray) (maxL : Nat) (ret : Option FieldType) (rm : Room) (av : List Value) (μ : mmT) (post : Option Value → mmT → Prop) : Prop :=
  Met l y (Cond.code y cc maxL ret :: TT) rm (mP G av μ) (mQ G post) rm.cells rm.slots (Ah G)
def MX (G : mgT) (l : Launch) (y : MethodName) (cc : ByteArray) (maxL : Nat) (ret : Option FieldType) (rm : Room) (av : List Value) (μ : mmT) (post : Option Value → mmT → Prop) (px : String → mmT → Prop) : Prop :=
  vx_Met l y (Cond.code y cc maxL ret :: TT) rm (mP G av μ) (mQ G post) (mX G px) rm.cells rm.slots (Ah G)
def mPz (G : mgT) (av : List Value) (μ : mmT) (z : Nat) : Array Value → State → Prop := va_Pc av (fun U => GK G U U.heap ∧ Mm G μ U.heap ∧ gh G ≤ z ∧ U.heap.size = z)
theorem mPz_blind {G : mgT} {av : List Value} {μ : mmT} {z : Nat} : FrameBlind (mPz G av μ z) := fun _ _ _ _ h => ⟨h.1, h.2.1.same rfl, h.2.2⟩
def mQz (G : mgT) (post : mmT → Nat → Prop) : Array Value → State → Outcome → State → Prop := fun _ st oc t => (∃ (μ : mmT) (z : Nat), oc = .returned none ∧ post μ z ∧ Mm G μ t.heap ∧ gh G ≤ z ∧ t.heap.size = z) ∧ va_F (Ah G) st t
def MZ (G : mgT) (l : Launch) (y : MethodName) (cc : ByteArray) (maxL : Nat) (rm : Room) (av : List Value) (μ : mmT) (z : Nat) (post : mmT → Nat → Prop) : Prop :=
  Met l y (Cond.code y cc maxL none :: TT) rm (mPz G av μ z) (mQz G post) rm.cells rm.slots (Ah G)
/-- facts of a class, of a field, of a method -/
def mzC (ci : Nat) (C : String) (T : u_T) (N : Nat) (ty : Nat → FieldType) : Prop :=
  ci < 31 ∧ mmCl[ci]? = some (C, T, N) ∧ (∀ w ∈ u_ws C T N, w ∈ TT) ∧ (∀ k, k < N → parseFieldDescriptor (T k).2.2.1 = some (ty k)) ∧ (∀ a, a < N → ∀ b, b < N → a ≠ b → (T a).2.1 ≠ (T b).2.1)
theorem mzC_ws {C : String} {T : u_T} {N : Nat} (h : ∀ k, k < N → u_lay C T k ∈ TT) : ∀ w ∈ u_ws C T N, w ∈ TT := by
  intro w hw
  obtain ⟨k, hk, rfl⟩ := List.mem_map.mp hw
  exact h k (List.mem_range.mp hk)
def mzF (F ci k : Nat) (T : u_T) (N : Nat) (r : Bool) (o n d : String) (fin : Bool) : Prop :=
  k < N ∧ F = 32 * ci + k ∧ mmRf ci k = r ∧ T k = (o, n, d, fin)
def mzY (y : MethodName) (cc : ByteArray) (maxL : Nat) (ret : Option FieldType) (n : Nat) : Prop :=
  Cond.code y cc maxL ret ∈ TT ∧ Cond.initialized y.cls ∈ TT ∧ (y.cls ≠ "java/lang/invoke/MethodHandle" ∧ y.cls ≠ "java/lang/invoke/VarHandle") ∧ (parseMethodDescriptor y.desc).map (fun d => d.parameters.length) = some n
