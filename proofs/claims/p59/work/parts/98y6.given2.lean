/-! THE START: what the Statement gives of texts, constants and tables, by their places in the list of its parts (printed by wip/p59/gen/given.py) -/
def zs_fl : List Cond := flatC (Jvm.Cond.and given_1 narrow_1)
abbrev zs_S (i : Nat) : Term := .string (gStr.getD i ("", 0, "")).1 (gStr.getD i ("", 0, "")).2.1
abbrev zs_V (i : Nat) : Term := .field (zs_S i) "java/lang/String" "value" "[B"
abbrev zs_E (i : Nat) : Term := .static "CrowMail$Form" (gNm.getD i "") "LCrowMail$Form;"
abbrev zs_F : Term := .static "CrowMail" "FORMS" "[LCrowMail$Form;"
abbrev zs_W : Term := .static "CrowMail$1" "$SwitchMap$CrowMail$Form" "[I"
abbrev zs_1 : Term := .static "java/lang/Integer" "DigitOnes" "[B"
abbrev zs_2 : Term := .static "java/lang/Integer" "DigitTens" "[B"
def zs_xS : List Nat := [480, 509, 537, 567, 599, 656, 692, 732, 757, 766, 776, 781, 788, 798, 808, 813, 846, 875, 912, 946, 971, 991, 1016, 1040, 1068, 1093, 1119, 1147, 1171, 1179, 1191, 1199, 1211, 1221, 1231, 1241, 1253]
def zs_xR : List Nat := [457, 502, 520, 534, 623, 660, 667, 677, 793, 937, 938, 978, 1002, 1003, 1004, 1040, 1041, 1082, 1103, 1182, 1183, 1227, 1235, 1245, 1310, 1350, 1415, 1427, 1460, 1469, 1470, 1471, 1472, 1473, 1474, 1475, 1476]
def zs_xE : List Nat := [246, 250, 255, 261, 268, 276, 285, 4, 295]
def zs_xL : List Nat := [1461, 1462, 1463, 1464, 1465, 1466, 1467, 261, 1468]
def zs_xD : List (List Nat) := [[0, 254, 259, 265, 272, 280, 289, 249, 299], [254, 0, 260, 266, 273, 281, 290, 253, 300], [259, 260, 0, 267, 274, 282, 291, 258, 301], [265, 266, 267, 0, 275, 283, 292, 264, 302], [272, 273, 274, 275, 0, 284, 293, 271, 303], [280, 281, 282, 283, 284, 0, 294, 279, 304], [289, 290, 291, 292, 293, 294, 0, 288, 305], [249, 253, 258, 264, 271, 279, 288, 0, 298], [299, 300, 301, 302, 303, 304, 305, 298, 0]]
def zs_xN : List Nat := [318, 319, 320, 322, 335, 336, 337, 339, 352, 353, 354, 356, 368, 369, 370, 372, 385, 386, 387, 388]
def zs_blk (i : Nat) : List Cond := Cond.exactly (zs_S i) "java/lang/String" :: Cond.eq (.field (zs_S i) "java/lang/String" "coder" "B") (.int 0) :: Cond.arrayOf (zs_V i) .byte :: Cond.eq (.length (zs_V i)) (.int (Int32.ofNat (gLen.getD i 0))) :: (List.range (gLen.getD i 0)).map (fun j => Cond.eq (.elem (zs_V i) (.int (Int32.ofNat j))) (.int ((gByt.getD i []).getD j 0)))
theorem zs_fc : ∀ i, i < 37 → (zs_fl.drop (zs_xS.getD i 0)).take (gLen.getD i 0 + 4) = zs_blk i := by decide +kernel
theorem zs_tk {l b : List Cond} {k n j : Nat} {w : Cond} (h : (l.drop k).take n = b) (hj : j < n) (hb : b[j]? = some w) : l[k + j]? = some w := by
  rw [← h, List.getElem?_take, if_pos hj, List.getElem?_drop] at hb
  exact hb
theorem zs_fs (i : Nat) (hi : i < 37) : zs_fl[zs_xS.getD i 0]? = some (Cond.exactly (zs_S i) "java/lang/String") ∧ zs_fl[zs_xS.getD i 0 + 1]? = some (Cond.eq (.field (zs_S i) "java/lang/String" "coder" "B") (.int 0)) ∧ zs_fl[zs_xS.getD i 0 + 2]? = some (Cond.arrayOf (zs_V i) .byte) ∧ zs_fl[zs_xS.getD i 0 + 3]? = some (Cond.eq (.length (zs_V i)) (.int (Int32.ofNat (gLen.getD i 0)))) :=
  ⟨zs_tk (j := 0) (zs_fc i hi) (by omega) rfl, zs_tk (j := 1) (zs_fc i hi) (by omega) rfl, zs_tk (j := 2) (zs_fc i hi) (by omega) rfl, zs_tk (j := 3) (zs_fc i hi) (by omega) rfl⟩
theorem zs_fb (i : Nat) (hi : i < 37) (j : Nat) (hj : j < gLen.getD i 0) : zs_fl[zs_xS.getD i 0 + (j + 4)]? = some (Cond.eq (.elem (zs_V i) (.int (Int32.ofNat j))) (.int ((gByt.getD i []).getD j 0))) := by
  refine zs_tk (j := j + 4) (zs_fc i hi) (by omega) ?_
  show ((List.range (gLen.getD i 0)).map (fun j => Cond.eq (.elem (zs_V i) (.int (Int32.ofNat j))) (.int ((gByt.getD i []).getD j 0))))[j]? = _
  rw [List.getElem?_map, List.getElem?_range hj]
  rfl
theorem zs_len : ∀ i, i < 37 → gLen.getD i 0 < 2 ^ 31 := by decide +kernel
theorem zs_fr : ∀ i, i < 37 → tables_1[zs_xR.getD i 0]? = some (Cond.stringRef (gStr.getD i ("", 0, "")).1 (gStr.getD i ("", 0, "")).2.1 (gStr.getD i ("", 0, "")).2.2) := by decide +kernel
theorem zs_fe : ∀ i, i < 9 → (zs_fl[zs_xE.getD i 0]? = some (Cond.exactly (zs_E i) "CrowMail$Form") ∧ zs_fl[zs_xE.getD i 0 + 1]? = some (Cond.eq (.field (zs_E i) "java/lang/Enum" "ordinal" "I") (.int (gOrd.getD i 0))) ∧ zs_fl[zs_xE.getD i 0 + 2]? = some (Cond.eq (.field (zs_E i) "CrowMail$Form" "pattern" "Ljava/lang/String;") (zs_S (gPat i)))) := by decide +kernel
theorem zs_fl9 : ∀ i, i < 9 → tables_1[zs_xL.getD i 0]? = some (Cond.laysStatic "CrowMail$Form" (gNm.getD i "") "LCrowMail$Form;") := by decide +kernel
theorem zs_fd : ∀ i, i < 9 → ∀ j, j < 9 → i ≠ j → (zs_fl[(zs_xD.getD i []).getD j 0]? = some (Cond.not (Cond.eq (zs_E i) (zs_E j))) ∨ zs_fl[(zs_xD.getD i []).getD j 0]? = some (Cond.not (Cond.eq (zs_E j) (zs_E i)))) := by decide +kernel
theorem zs_fp : ∀ i, i < 9 → gPat i < 37 := by decide +kernel
theorem zs_fn : ∀ i, i < 20 → zs_fl[zs_xN.getD i 0]? = some (Cond.not (Cond.castable (gNc.getD i ("", "")).1 (gNc.getD i ("", "")).2)) := by decide +kernel
theorem zs_f0 : zs_fl[222]? = some (Cond.arrayOf zs_F (.object "CrowMail$Form")) ∧ zs_fl[223]? = some (Cond.eq (.length zs_F) (.int (Int32.ofNat 9))) ∧ ∀ j, j < 9 → zs_fl[225 + j]? = some (Cond.eq (.elem zs_F (.int (Int32.ofNat j))) (zs_E j)) := by decide +kernel
theorem zs_f1 : zs_fl[235]? = some (Cond.arrayOf zs_W .int) ∧ zs_fl[236]? = some (Cond.eq (.length zs_W) (.int (Int32.ofNat 9))) ∧ ∀ j, j < 9 → zs_fl[237 + j]? = some (Cond.eq (.elem zs_W (.int (Int32.ofNat j))) (.int (gSw j))) := by decide +kernel
theorem zs_f2 : zs_fl[15]? = some (Cond.arrayOf zs_1 .byte) ∧ zs_fl[16]? = some (Cond.eq (.length zs_1) (.int (Int32.ofNat 100))) ∧ ∀ j, j < 100 → zs_fl[17 + j]? = some (Cond.eq (.elem zs_1 (.int (Int32.ofNat j))) (.int (gOne j))) := by decide +kernel
theorem zs_f3 : zs_fl[118]? = some (Cond.arrayOf zs_2 .byte) ∧ zs_fl[119]? = some (Cond.eq (.length zs_2) (.int (Int32.ofNat 100))) ∧ ∀ j, j < 100 → zs_fl[120 + j]? = some (Cond.eq (.elem zs_2 (.int (Int32.ofNat j))) (.int (gTen j))) := by decide +kernel
theorem zs_f4 : zs_fl[7]? = some (Cond.eq (.static "java/lang/String" "COMPACT_STRINGS" "Z") (.int 1)) ∧ zs_fl[10]? = some (Cond.isRef (.static "jdk/internal/util/Preconditions" "SIOOBE_FORMATTER" "Ljava/util/function/BiFunction;")) ∧ zs_fl[8]? = some (Cond.isRef (.static "java/lang/Throwable" "UNASSIGNED_STACK" "[Ljava/lang/StackTraceElement;")) ∧ zs_fl[9]? = some (Cond.isRef (.static "java/lang/Throwable" "SUPPRESSED_SENTINEL" "Ljava/util/List;")) := by decide +kernel
