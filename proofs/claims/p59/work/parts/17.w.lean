def w_X1_init (G : mgT) (μ : mmT) (z : Nat) (o : Nat) (Q : mmT → Nat → Prop) : Prop :=
  (mK μ o = 2 ∧ (mK (sR μ 32 o (some (gE G 7))) o = 2 ∧ (mK (sI (sR μ 32 o (some (gE G 7))) 33 o (nI 0)) o = 2 ∧ (Q (sI (sI (sR μ 32 o (some (gE G 7))) 33 o (nI 0)) 34 o (nI 0)) z))))
def w_X2_init (G : mgT) (μ : mmT) (z : Nat) (o : Nat) (Q : mmT → Nat → Prop) : Prop :=
  (mK μ o = 3 ∧ (mK (sI μ 64 o (nI 0)) o = 3 ∧ (mK (sI (sI μ 64 o (nI 0)) 65 o (nI 0)) o = 3 ∧ (Q (sI (sI (sI μ 64 o (nI 0)) 65 o (nI 0)) 66 o (nI 0)) z))))
def w_X2_copyFrom (G : mgT) (μ : mmT) (o : Nat) (r1 : Option Nat) (Q : mmT → Prop) : Prop :=
  (∃ a1, r1 = some a1 ∧ (mK μ a1 = 3 ∧ (mK μ o = 3 ∧ (((mI μ 64 a1) = 0 ∨ (mI μ 64 a1) = 1) ∧ (Q (sI (sI (sI μ 64 o (mI μ 64 a1)) 65 o (mI (sI μ 64 o (mI μ 64 a1)) 65 a1)) 66 o (mI (sI (sI μ 64 o (mI μ 64 a1)) 65 o (mI (sI μ 64 o (mI μ 64 a1)) 65 a1)) 66 a1)))))))
def w_X9_init (G : mgT) (μ : mmT) (z : Nat) (o : Nat) (Q : mmT → Nat → Prop) : Prop :=
  (mK μ o = 9 ∧ (mK (sI μ 256 o (nI 0)) o = 9 ∧ (mK (sI (sI μ 256 o (nI 0)) 257 o (nI 0)) o = 9 ∧ (mK (sI (sI (sI μ 256 o (nI 0)) 257 o (nI 0)) 258 o (nI 0)) o = 9 ∧ (mK (sI (sI (sI (sI μ 256 o (nI 0)) 257 o (nI 0)) 258 o (nI 0)) 259 o (nI 0)) o = 9 ∧ (mK (sI (sI (sI (sI (sI μ 256 o (nI 0)) 257 o (nI 0)) 258 o (nI 0)) 259 o (nI 0)) 260 o (nI 0)) o = 9 ∧ (mK (sI (sI (sI (sI (sI (sI μ 256 o (nI 0)) 257 o (nI 0)) 258 o (nI 0)) 259 o (nI 0)) 260 o (nI 0)) 261 o (nI 0)) o = 9 ∧ (Q (sI (sI (sI (sI (sI (sI (sI μ 256 o (nI 0)) 257 o (nI 0)) 258 o (nI 0)) 259 o (nI 0)) 260 o (nI 0)) 261 o (nI 0)) 262 o (nI 0)) z))))))))
def w_X5_init (G : mgT) (μ : mmT) (z : Nat) (o : Nat) (Q : mmT → Nat → Prop) : Prop :=
  (mK μ o = 5 ∧ (mK (sI μ 128 o (nI 0)) o = 5 ∧ (mK (sI (sI μ 128 o (nI 0)) 129 o (nI 0)) o = 5 ∧ (mK (sI (sI (sI μ 128 o (nI 0)) 129 o (nI 0)) 130 o (nI 0)) o = 5 ∧ (mK (sI (sI (sI (sI μ 128 o (nI 0)) 129 o (nI 0)) 130 o (nI 0)) 131 o (nI 0)) o = 5 ∧ (mK (sI (sI (sI (sI (sI μ 128 o (nI 0)) 129 o (nI 0)) 130 o (nI 0)) 131 o (nI 0)) 132 o (nI 119)) o = 5 ∧ (Q (sI (sI (sI (sI (sI (sI μ 128 o (nI 0)) 129 o (nI 0)) 130 o (nI 0)) 131 o (nI 0)) 132 o (nI 119)) 133 o (nI 0)) z)))))))
def w_X6_init (G : mgT) (μ : mmT) (z : Nat) (o : Nat) (Q : mmT → Nat → Prop) : Prop :=
  (mK (nA μ z 2 8) o = 6 ∧ (mK (nA (sR (nA μ z 2 8) 160 o (some z)) (z + 1) 2 8) o = 6 ∧ (mK (sR (nA (sR (nA μ z 2 8) 160 o (some z)) (z + 1) 2 8) 161 o (some (z + 1))) o = 6 ∧ (mK (sI (sR (nA (sR (nA μ z 2 8) 160 o (some z)) (z + 1) 2 8) 161 o (some (z + 1))) 162 o (nI 0)) o = 6 ∧ (mK (sI (sI (sR (nA (sR (nA μ z 2 8) 160 o (some z)) (z + 1) 2 8) 161 o (some (z + 1))) 162 o (nI 0)) 163 o (nI 0)) o = 6 ∧ (mK (sI (sI (sI (sR (nA (sR (nA μ z 2 8) 160 o (some z)) (z + 1) 2 8) 161 o (some (z + 1))) 162 o (nI 0)) 163 o (nI 0)) 164 o (nI 0)) o = 6 ∧ (mK (sI (sI (sI (sI (sR (nA (sR (nA μ z 2 8) 160 o (some z)) (z + 1) 2 8) 161 o (some (z + 1))) 162 o (nI 0)) 163 o (nI 0)) 164 o (nI 0)) 165 o (nI 0)) o = 6 ∧ (Q (sI (sI (sI (sI (sI (sR (nA (sR (nA μ z 2 8) 160 o (some z)) (z + 1) 2 8) 161 o (some (z + 1))) 162 o (nI 0)) 163 o (nI 0)) 164 o (nI 0)) 165 o (nI 0)) 166 o (nI 0)) ((z + 1) + 1)))))))))
def w_X8_init_b121 (G : mgT) (o : Nat) (Q : mmT → Nat → Prop) (K121 : Int32 → Nat → mmT → Nat → Prop) (x1 : Int32) (t121 : Nat) (μ : mmT) (z : Nat) : Prop :=
  (t121 ≤ 16 ∧ (((nI 16) ≤ x1 → (Q μ z)) ∧ (¬ (nI 16) ≤ x1 → (mK μ o = 8 ∧ (mK (nO μ z 4) z = 5 ∧ (w_X5_init G (nO μ z 4) (z + 1) z (fun μ18 z19 => (∃ a20, (mR μ 226 o) = some a20 ∧ (mK μ18 a20 = 39 ∧ (mK μ18 z = 5 ∧ (vp_in x1 (mN μ18 a20) ∧ (K121 (x1 + nI 1) (t121 + 1) (sB μ18 a20 x1.toNatClampNeg (some z)) z19))))))))))))
def w_X8_init_l121 (G : mgT) (o : Nat) (Q : mmT → Nat → Prop) : Nat → Int32 → Nat → mmT → Nat → Prop
  | 0 => fun _ _ _ _ => False
  | n + 1 => fun x1 t121 μ z => w_X8_init_b121 G o Q  (w_X8_init_l121 G o Q  n) x1 t121 μ z
def w_X8_init_b95 (G : mgT) (o : Nat) (Q : mmT → Nat → Prop) (K95 : Int32 → Nat → mmT → Nat → Prop) (x1 : Int32) (t95 : Nat) (μ : mmT) (z : Nat) : Prop :=
  (t95 ≤ 4 ∧ (((nI 4) ≤ x1 → (∃ n, w_X8_init_l121 G o Q  n (nI 0) 0 μ z)) ∧ (¬ (nI 4) ≤ x1 → (mK μ o = 8 ∧ (mK (nO μ z 2) z = 3 ∧ (w_X2_init G (nO μ z 2) (z + 1) z (fun μ27 z28 => (∃ a29, (mR μ 225 o) = some a29 ∧ (mK μ27 a29 = 38 ∧ (mK μ27 z = 3 ∧ (vp_in x1 (mN μ27 a29) ∧ (K95 (x1 + nI 1) (t95 + 1) (sB μ27 a29 x1.toNatClampNeg (some z)) z28))))))))))))
def w_X8_init_l95 (G : mgT) (o : Nat) (Q : mmT → Nat → Prop) : Nat → Int32 → Nat → mmT → Nat → Prop
  | 0 => fun _ _ _ _ => False
  | n + 1 => fun x1 t95 μ z => w_X8_init_b95 G o Q  (w_X8_init_l95 G o Q  n) x1 t95 μ z
def w_X8_init_b68 (G : mgT) (o : Nat) (Q : mmT → Nat → Prop) (K68 : Int32 → Nat → mmT → Nat → Prop) (x1 : Int32) (t68 : Nat) (μ : mmT) (z : Nat) : Prop :=
  (t68 ≤ 6 ∧ (((nI 6) ≤ x1 → (∃ n, w_X8_init_l95 G o Q  n (nI 0) 0 μ z)) ∧ (¬ (nI 6) ≤ x1 → (mK μ o = 8 ∧ (mK (nO μ z 5) z = 6 ∧ (w_X6_init G (nO μ z 5) (z + 1) z (fun μ36 z37 => (∃ a38, (mR μ 224 o) = some a38 ∧ (mK μ36 a38 = 40 ∧ (mK μ36 z = 6 ∧ (vp_in x1 (mN μ36 a38) ∧ (K68 (x1 + nI 1) (t68 + 1) (sB μ36 a38 x1.toNatClampNeg (some z)) z37))))))))))))
def w_X8_init_l68 (G : mgT) (o : Nat) (Q : mmT → Nat → Prop) : Nat → Int32 → Nat → mmT → Nat → Prop
  | 0 => fun _ _ _ _ => False
  | n + 1 => fun x1 t68 μ z => w_X8_init_b68 G o Q  (w_X8_init_l68 G o Q  n) x1 t68 μ z
def w_X8_init (G : mgT) (μ : mmT) (z : Nat) (o : Nat) (Q : mmT → Nat → Prop) : Prop :=
  (mK (nA μ z 8 6) o = 8 ∧ (mK (nA (sR (nA μ z 8 6) 224 o (some z)) (z + 1) 6 4) o = 8 ∧ (mK (nA (sR (nA (sR (nA μ z 8 6) 224 o (some z)) (z + 1) 6 4) 225 o (some (z + 1))) ((z + 1) + 1) 7 16) o = 8 ∧ (mK (nO (sR (nA (sR (nA (sR (nA μ z 8 6) 224 o (some z)) (z + 1) 6 4) 225 o (some (z + 1))) ((z + 1) + 1) 7 16) 226 o (some ((z + 1) + 1))) (((z + 1) + 1) + 1) 8) (((z + 1) + 1) + 1) = 9 ∧ (w_X9_init G (nO (sR (nA (sR (nA (sR (nA μ z 8 6) 224 o (some z)) (z + 1) 6 4) 225 o (some (z + 1))) ((z + 1) + 1) 7 16) 226 o (some ((z + 1) + 1))) (((z + 1) + 1) + 1) 8) ((((z + 1) + 1) + 1) + 1) (((z + 1) + 1) + 1) (fun μ5 z6 => (mK μ5 o = 8 ∧ (mK (sR μ5 227 o (some (((z + 1) + 1) + 1))) o = 8 ∧ (mK (sI (sR μ5 227 o (some (((z + 1) + 1) + 1))) 228 o (nI 0)) o = 8 ∧ (mK (sI (sI (sR μ5 227 o (some (((z + 1) + 1) + 1))) 228 o (nI 0)) 229 o (nI 0)) o = 8 ∧ (mK (sI (sI (sI (sR μ5 227 o (some (((z + 1) + 1) + 1))) 228 o (nI 0)) 229 o (nI 0)) 230 o (nI 0)) o = 8 ∧ (mK (sI (sI (sI (sI (sR μ5 227 o (some (((z + 1) + 1) + 1))) 228 o (nI 0)) 229 o (nI 0)) 230 o (nI 0)) 231 o (nI 0)) o = 8 ∧ (∃ n, w_X8_init_l68 G o Q  n (nI 0) 0 (sI (sI (sI (sI (sI (sR μ5 227 o (some (((z + 1) + 1) + 1))) 228 o (nI 0)) 229 o (nI 0)) 230 o (nI 0)) 231 o (nI 0)) 232 o (nI 0)) z6)))))))))))))
def w_X4_init_b25 (G : mgT) (o : Nat) (Q : mmT → Nat → Prop) (K25 : Int32 → Nat → mmT → Nat → Prop) (x1 : Int32) (t25 : Nat) (μ : mmT) (z : Nat) : Prop :=
  (t25 ≤ 8 ∧ (((nI 8) ≤ x1 → (Q μ z)) ∧ (¬ (nI 8) ≤ x1 → (mK μ o = 4 ∧ (mK (nO μ z 7) z = 8 ∧ (w_X8_init G (nO μ z 7) (z + 1) z (fun μ7 z8 => (∃ a9, (mR μ 96 o) = some a9 ∧ (mK μ7 a9 = 41 ∧ (mK μ7 z = 8 ∧ (vp_in x1 (mN μ7 a9) ∧ (K25 (x1 + nI 1) (t25 + 1) (sB μ7 a9 x1.toNatClampNeg (some z)) z8))))))))))))
def w_X4_init_l25 (G : mgT) (o : Nat) (Q : mmT → Nat → Prop) : Nat → Int32 → Nat → mmT → Nat → Prop
  | 0 => fun _ _ _ _ => False
  | n + 1 => fun x1 t25 μ z => w_X4_init_b25 G o Q  (w_X4_init_l25 G o Q  n) x1 t25 μ z
def w_X4_init (G : mgT) (μ : mmT) (z : Nat) (o : Nat) (Q : mmT → Nat → Prop) : Prop :=
  (mK (nA μ z 9 8) o = 4 ∧ (mK (sR (nA μ z 9 8) 96 o (some z)) o = 4 ∧ (mK (sI (sR (nA μ z 9 8) 96 o (some z)) 97 o (nI 0)) o = 4 ∧ (∃ n, w_X4_init_l25 G o Q  n (nI 0) 0 (sI (sI (sR (nA μ z 9 8) 96 o (some z)) 97 o (nI 0)) 98 o (nI 0)) (z + 1)))))
def w_X9_copyFrom (G : mgT) (μ : mmT) (o : Nat) (r1 : Option Nat) (Q : mmT → Prop) : Prop :=
  (∃ a1, r1 = some a1 ∧ (mK μ a1 = 9 ∧ (mK μ o = 9 ∧ (Q (sI (sI (sI (sI (sI (sI (sI μ 256 o (mI μ 256 a1)) 257 o (mI (sI μ 256 o (mI μ 256 a1)) 257 a1)) 258 o (mI (sI (sI μ 256 o (mI μ 256 a1)) 257 o (mI (sI μ 256 o (mI μ 256 a1)) 257 a1)) 258 a1)) 259 o (mI (sI (sI (sI μ 256 o (mI μ 256 a1)) 257 o (mI (sI μ 256 o (mI μ 256 a1)) 257 a1)) 258 o (mI (sI (sI μ 256 o (mI μ 256 a1)) 257 o (mI (sI μ 256 o (mI μ 256 a1)) 257 a1)) 258 a1)) 259 a1)) 260 o (mI (sI (sI (sI (sI μ 256 o (mI μ 256 a1)) 257 o (mI (sI μ 256 o (mI μ 256 a1)) 257 a1)) 258 o (mI (sI (sI μ 256 o (mI μ 256 a1)) 257 o (mI (sI μ 256 o (mI μ 256 a1)) 257 a1)) 258 a1)) 259 o (mI (sI (sI (sI μ 256 o (mI μ 256 a1)) 257 o (mI (sI μ 256 o (mI μ 256 a1)) 257 a1)) 258 o (mI (sI (sI μ 256 o (mI μ 256 a1)) 257 o (mI (sI μ 256 o (mI μ 256 a1)) 257 a1)) 258 a1)) 259 a1)) 260 a1)) 261 o (mI (sI (sI (sI (sI (sI μ 256 o (mI μ 256 a1)) 257 o (mI (sI μ 256 o (mI μ 256 a1)) 257 a1)) 258 o (mI (sI (sI μ 256 o (mI μ 256 a1)) 257 o (mI (sI μ 256 o (mI μ 256 a1)) 257 a1)) 258 a1)) 259 o (mI (sI (sI (sI μ 256 o (mI μ 256 a1)) 257 o (mI (sI μ 256 o (mI μ 256 a1)) 257 a1)) 258 o (mI (sI (sI μ 256 o (mI μ 256 a1)) 257 o (mI (sI μ 256 o (mI μ 256 a1)) 257 a1)) 258 a1)) 259 a1)) 260 o (mI (sI (sI (sI (sI μ 256 o (mI μ 256 a1)) 257 o (mI (sI μ 256 o (mI μ 256 a1)) 257 a1)) 258 o (mI (sI (sI μ 256 o (mI μ 256 a1)) 257 o (mI (sI μ 256 o (mI μ 256 a1)) 257 a1)) 258 a1)) 259 o (mI (sI (sI (sI μ 256 o (mI μ 256 a1)) 257 o (mI (sI μ 256 o (mI μ 256 a1)) 257 a1)) 258 o (mI (sI (sI μ 256 o (mI μ 256 a1)) 257 o (mI (sI μ 256 o (mI μ 256 a1)) 257 a1)) 258 a1)) 259 a1)) 260 a1)) 261 a1)) 262 o (mI (sI (sI (sI (sI (sI (sI μ 256 o (mI μ 256 a1)) 257 o (mI (sI μ 256 o (mI μ 256 a1)) 257 a1)) 258 o (mI (sI (sI μ 256 o (mI μ 256 a1)) 257 o (mI (sI μ 256 o (mI μ 256 a1)) 257 a1)) 258 a1)) 259 o (mI (sI (sI (sI μ 256 o (mI μ 256 a1)) 257 o (mI (sI μ 256 o (mI μ 256 a1)) 257 a1)) 258 o (mI (sI (sI μ 256 o (mI μ 256 a1)) 257 o (mI (sI μ 256 o (mI μ 256 a1)) 257 a1)) 258 a1)) 259 a1)) 260 o (mI (sI (sI (sI (sI μ 256 o (mI μ 256 a1)) 257 o (mI (sI μ 256 o (mI μ 256 a1)) 257 a1)) 258 o (mI (sI (sI μ 256 o (mI μ 256 a1)) 257 o (mI (sI μ 256 o (mI μ 256 a1)) 257 a1)) 258 a1)) 259 o (mI (sI (sI (sI μ 256 o (mI μ 256 a1)) 257 o (mI (sI μ 256 o (mI μ 256 a1)) 257 a1)) 258 o (mI (sI (sI μ 256 o (mI μ 256 a1)) 257 o (mI (sI μ 256 o (mI μ 256 a1)) 257 a1)) 258 a1)) 259 a1)) 260 a1)) 261 o (mI (sI (sI (sI (sI (sI μ 256 o (mI μ 256 a1)) 257 o (mI (sI μ 256 o (mI μ 256 a1)) 257 a1)) 258 o (mI (sI (sI μ 256 o (mI μ 256 a1)) 257 o (mI (sI μ 256 o (mI μ 256 a1)) 257 a1)) 258 a1)) 259 o (mI (sI (sI (sI μ 256 o (mI μ 256 a1)) 257 o (mI (sI μ 256 o (mI μ 256 a1)) 257 a1)) 258 o (mI (sI (sI μ 256 o (mI μ 256 a1)) 257 o (mI (sI μ 256 o (mI μ 256 a1)) 257 a1)) 258 a1)) 259 a1)) 260 o (mI (sI (sI (sI (sI μ 256 o (mI μ 256 a1)) 257 o (mI (sI μ 256 o (mI μ 256 a1)) 257 a1)) 258 o (mI (sI (sI μ 256 o (mI μ 256 a1)) 257 o (mI (sI μ 256 o (mI μ 256 a1)) 257 a1)) 258 a1)) 259 o (mI (sI (sI (sI μ 256 o (mI μ 256 a1)) 257 o (mI (sI μ 256 o (mI μ 256 a1)) 257 a1)) 258 o (mI (sI (sI μ 256 o (mI μ 256 a1)) 257 o (mI (sI μ 256 o (mI μ 256 a1)) 257 a1)) 258 a1)) 259 a1)) 260 a1)) 261 a1)) 262 a1))))))
def w_X5_copyFrom (G : mgT) (μ : mmT) (o : Nat) (r1 : Option Nat) (Q : mmT → Prop) : Prop :=
  (∃ a1, r1 = some a1 ∧ (mK μ a1 = 5 ∧ (mK μ o = 5 ∧ (isCh (mI (sI (sI (sI (sI μ 128 o (mI μ 128 a1)) 129 o (mI (sI μ 128 o (mI μ 128 a1)) 129 a1)) 130 o (mI (sI (sI μ 128 o (mI μ 128 a1)) 129 o (mI (sI μ 128 o (mI μ 128 a1)) 129 a1)) 130 a1)) 131 o (mI (sI (sI (sI μ 128 o (mI μ 128 a1)) 129 o (mI (sI μ 128 o (mI μ 128 a1)) 129 a1)) 130 o (mI (sI (sI μ 128 o (mI μ 128 a1)) 129 o (mI (sI μ 128 o (mI μ 128 a1)) 129 a1)) 130 a1)) 131 a1)) 132 a1) ∧ (Q (sI (sI (sI (sI (sI (sI μ 128 o (mI μ 128 a1)) 129 o (mI (sI μ 128 o (mI μ 128 a1)) 129 a1)) 130 o (mI (sI (sI μ 128 o (mI μ 128 a1)) 129 o (mI (sI μ 128 o (mI μ 128 a1)) 129 a1)) 130 a1)) 131 o (mI (sI (sI (sI μ 128 o (mI μ 128 a1)) 129 o (mI (sI μ 128 o (mI μ 128 a1)) 129 a1)) 130 o (mI (sI (sI μ 128 o (mI μ 128 a1)) 129 o (mI (sI μ 128 o (mI μ 128 a1)) 129 a1)) 130 a1)) 131 a1)) 132 o (mI (sI (sI (sI (sI μ 128 o (mI μ 128 a1)) 129 o (mI (sI μ 128 o (mI μ 128 a1)) 129 a1)) 130 o (mI (sI (sI μ 128 o (mI μ 128 a1)) 129 o (mI (sI μ 128 o (mI μ 128 a1)) 129 a1)) 130 a1)) 131 o (mI (sI (sI (sI μ 128 o (mI μ 128 a1)) 129 o (mI (sI μ 128 o (mI μ 128 a1)) 129 a1)) 130 o (mI (sI (sI μ 128 o (mI μ 128 a1)) 129 o (mI (sI μ 128 o (mI μ 128 a1)) 129 a1)) 130 a1)) 131 a1)) 132 a1)) 133 o (mI (sI (sI (sI (sI (sI μ 128 o (mI μ 128 a1)) 129 o (mI (sI μ 128 o (mI μ 128 a1)) 129 a1)) 130 o (mI (sI (sI μ 128 o (mI μ 128 a1)) 129 o (mI (sI μ 128 o (mI μ 128 a1)) 129 a1)) 130 a1)) 131 o (mI (sI (sI (sI μ 128 o (mI μ 128 a1)) 129 o (mI (sI μ 128 o (mI μ 128 a1)) 129 a1)) 130 o (mI (sI (sI μ 128 o (mI μ 128 a1)) 129 o (mI (sI μ 128 o (mI μ 128 a1)) 129 a1)) 130 a1)) 131 a1)) 132 o (mI (sI (sI (sI (sI μ 128 o (mI μ 128 a1)) 129 o (mI (sI μ 128 o (mI μ 128 a1)) 129 a1)) 130 o (mI (sI (sI μ 128 o (mI μ 128 a1)) 129 o (mI (sI μ 128 o (mI μ 128 a1)) 129 a1)) 130 a1)) 131 o (mI (sI (sI (sI μ 128 o (mI μ 128 a1)) 129 o (mI (sI μ 128 o (mI μ 128 a1)) 129 a1)) 130 o (mI (sI (sI μ 128 o (mI μ 128 a1)) 129 o (mI (sI μ 128 o (mI μ 128 a1)) 129 a1)) 130 a1)) 131 a1)) 132 a1)) 133 a1)))))))
def w_X6_copyFrom (G : mgT) (μ : mmT) (o : Nat) (r1 : Option Nat) (Q : mmT → Prop) : Prop :=
  (∃ a1, r1 = some a1 ∧ (mK μ a1 = 6 ∧ (mK μ o = 6 ∧ (∃ a5, (mR μ 160 a1) = some a5 ∧ (mK μ a5 = 34 ∧ (∃ a8, (mR μ 160 o) = some a8 ∧ (mK μ a8 = 34 ∧ ((nI 0).toNatClampNeg + (nI 8).toNatClampNeg ≤ mN μ a5 ∧ ((nI 0).toNatClampNeg + (nI 8).toNatClampNeg ≤ mN μ a8 ∧ (∃ a13, (mR (sC μ a5 (nI 0).toNatClampNeg a8 (nI 0).toNatClampNeg (nI 8).toNatClampNeg) 161 a1) = some a13 ∧ (mK (sC μ a5 (nI 0).toNatClampNeg a8 (nI 0).toNatClampNeg (nI 8).toNatClampNeg) a13 = 34 ∧ (∃ a16, (mR (sC μ a5 (nI 0).toNatClampNeg a8 (nI 0).toNatClampNeg (nI 8).toNatClampNeg) 161 o) = some a16 ∧ (mK (sC μ a5 (nI 0).toNatClampNeg a8 (nI 0).toNatClampNeg (nI 8).toNatClampNeg) a16 = 34 ∧ ((nI 0).toNatClampNeg + (nI 8).toNatClampNeg ≤ mN (sC μ a5 (nI 0).toNatClampNeg a8 (nI 0).toNatClampNeg (nI 8).toNatClampNeg) a13 ∧ ((nI 0).toNatClampNeg + (nI 8).toNatClampNeg ≤ mN (sC μ a5 (nI 0).toNatClampNeg a8 (nI 0).toNatClampNeg (nI 8).toNatClampNeg) a16 ∧ (Q (sI (sI (sI (sI (sI (sC (sC μ a5 (nI 0).toNatClampNeg a8 (nI 0).toNatClampNeg (nI 8).toNatClampNeg) a13 (nI 0).toNatClampNeg a16 (nI 0).toNatClampNeg (nI 8).toNatClampNeg) 162 o (mI (sC (sC μ a5 (nI 0).toNatClampNeg a8 (nI 0).toNatClampNeg (nI 8).toNatClampNeg) a13 (nI 0).toNatClampNeg a16 (nI 0).toNatClampNeg (nI 8).toNatClampNeg) 162 a1)) 163 o (mI (sI (sC (sC μ a5 (nI 0).toNatClampNeg a8 (nI 0).toNatClampNeg (nI 8).toNatClampNeg) a13 (nI 0).toNatClampNeg a16 (nI 0).toNatClampNeg (nI 8).toNatClampNeg) 162 o (mI (sC (sC μ a5 (nI 0).toNatClampNeg a8 (nI 0).toNatClampNeg (nI 8).toNatClampNeg) a13 (nI 0).toNatClampNeg a16 (nI 0).toNatClampNeg (nI 8).toNatClampNeg) 162 a1)) 163 a1)) 164 o (mI (sI (sI (sC (sC μ a5 (nI 0).toNatClampNeg a8 (nI 0).toNatClampNeg (nI 8).toNatClampNeg) a13 (nI 0).toNatClampNeg a16 (nI 0).toNatClampNeg (nI 8).toNatClampNeg) 162 o (mI (sC (sC μ a5 (nI 0).toNatClampNeg a8 (nI 0).toNatClampNeg (nI 8).toNatClampNeg) a13 (nI 0).toNatClampNeg a16 (nI 0).toNatClampNeg (nI 8).toNatClampNeg) 162 a1)) 163 o (mI (sI (sC (sC μ a5 (nI 0).toNatClampNeg a8 (nI 0).toNatClampNeg (nI 8).toNatClampNeg) a13 (nI 0).toNatClampNeg a16 (nI 0).toNatClampNeg (nI 8).toNatClampNeg) 162 o (mI (sC (sC μ a5 (nI 0).toNatClampNeg a8 (nI 0).toNatClampNeg (nI 8).toNatClampNeg) a13 (nI 0).toNatClampNeg a16 (nI 0).toNatClampNeg (nI 8).toNatClampNeg) 162 a1)) 163 a1)) 164 a1)) 165 o (mI (sI (sI (sI (sC (sC μ a5 (nI 0).toNatClampNeg a8 (nI 0).toNatClampNeg (nI 8).toNatClampNeg) a13 (nI 0).toNatClampNeg a16 (nI 0).toNatClampNeg (nI 8).toNatClampNeg) 162 o (mI (sC (sC μ a5 (nI 0).toNatClampNeg a8 (nI 0).toNatClampNeg (nI 8).toNatClampNeg) a13 (nI 0).toNatClampNeg a16 (nI 0).toNatClampNeg (nI 8).toNatClampNeg) 162 a1)) 163 o (mI (sI (sC (sC μ a5 (nI 0).toNatClampNeg a8 (nI 0).toNatClampNeg (nI 8).toNatClampNeg) a13 (nI 0).toNatClampNeg a16 (nI 0).toNatClampNeg (nI 8).toNatClampNeg) 162 o (mI (sC (sC μ a5 (nI 0).toNatClampNeg a8 (nI 0).toNatClampNeg (nI 8).toNatClampNeg) a13 (nI 0).toNatClampNeg a16 (nI 0).toNatClampNeg (nI 8).toNatClampNeg) 162 a1)) 163 a1)) 164 o (mI (sI (sI (sC (sC μ a5 (nI 0).toNatClampNeg a8 (nI 0).toNatClampNeg (nI 8).toNatClampNeg) a13 (nI 0).toNatClampNeg a16 (nI 0).toNatClampNeg (nI 8).toNatClampNeg) 162 o (mI (sC (sC μ a5 (nI 0).toNatClampNeg a8 (nI 0).toNatClampNeg (nI 8).toNatClampNeg) a13 (nI 0).toNatClampNeg a16 (nI 0).toNatClampNeg (nI 8).toNatClampNeg) 162 a1)) 163 o (mI (sI (sC (sC μ a5 (nI 0).toNatClampNeg a8 (nI 0).toNatClampNeg (nI 8).toNatClampNeg) a13 (nI 0).toNatClampNeg a16 (nI 0).toNatClampNeg (nI 8).toNatClampNeg) 162 o (mI (sC (sC μ a5 (nI 0).toNatClampNeg a8 (nI 0).toNatClampNeg (nI 8).toNatClampNeg) a13 (nI 0).toNatClampNeg a16 (nI 0).toNatClampNeg (nI 8).toNatClampNeg) 162 a1)) 163 a1)) 164 a1)) 165 a1)) 166 o (mI (sI (sI (sI (sI (sC (sC μ a5 (nI 0).toNatClampNeg a8 (nI 0).toNatClampNeg (nI 8).toNatClampNeg) a13 (nI 0).toNatClampNeg a16 (nI 0).toNatClampNeg (nI 8).toNatClampNeg) 162 o (mI (sC (sC μ a5 (nI 0).toNatClampNeg a8 (nI 0).toNatClampNeg (nI 8).toNatClampNeg) a13 (nI 0).toNatClampNeg a16 (nI 0).toNatClampNeg (nI 8).toNatClampNeg) 162 a1)) 163 o (mI (sI (sC (sC μ a5 (nI 0).toNatClampNeg a8 (nI 0).toNatClampNeg (nI 8).toNatClampNeg) a13 (nI 0).toNatClampNeg a16 (nI 0).toNatClampNeg (nI 8).toNatClampNeg) 162 o (mI (sC (sC μ a5 (nI 0).toNatClampNeg a8 (nI 0).toNatClampNeg (nI 8).toNatClampNeg) a13 (nI 0).toNatClampNeg a16 (nI 0).toNatClampNeg (nI 8).toNatClampNeg) 162 a1)) 163 a1)) 164 o (mI (sI (sI (sC (sC μ a5 (nI 0).toNatClampNeg a8 (nI 0).toNatClampNeg (nI 8).toNatClampNeg) a13 (nI 0).toNatClampNeg a16 (nI 0).toNatClampNeg (nI 8).toNatClampNeg) 162 o (mI (sC (sC μ a5 (nI 0).toNatClampNeg a8 (nI 0).toNatClampNeg (nI 8).toNatClampNeg) a13 (nI 0).toNatClampNeg a16 (nI 0).toNatClampNeg (nI 8).toNatClampNeg) 162 a1)) 163 o (mI (sI (sC (sC μ a5 (nI 0).toNatClampNeg a8 (nI 0).toNatClampNeg (nI 8).toNatClampNeg) a13 (nI 0).toNatClampNeg a16 (nI 0).toNatClampNeg (nI 8).toNatClampNeg) 162 o (mI (sC (sC μ a5 (nI 0).toNatClampNeg a8 (nI 0).toNatClampNeg (nI 8).toNatClampNeg) a13 (nI 0).toNatClampNeg a16 (nI 0).toNatClampNeg (nI 8).toNatClampNeg) 162 a1)) 163 a1)) 164 a1)) 165 o (mI (sI (sI (sI (sC (sC μ a5 (nI 0).toNatClampNeg a8 (nI 0).toNatClampNeg (nI 8).toNatClampNeg) a13 (nI 0).toNatClampNeg a16 (nI 0).toNatClampNeg (nI 8).toNatClampNeg) 162 o (mI (sC (sC μ a5 (nI 0).toNatClampNeg a8 (nI 0).toNatClampNeg (nI 8).toNatClampNeg) a13 (nI 0).toNatClampNeg a16 (nI 0).toNatClampNeg (nI 8).toNatClampNeg) 162 a1)) 163 o (mI (sI (sC (sC μ a5 (nI 0).toNatClampNeg a8 (nI 0).toNatClampNeg (nI 8).toNatClampNeg) a13 (nI 0).toNatClampNeg a16 (nI 0).toNatClampNeg (nI 8).toNatClampNeg) 162 o (mI (sC (sC μ a5 (nI 0).toNatClampNeg a8 (nI 0).toNatClampNeg (nI 8).toNatClampNeg) a13 (nI 0).toNatClampNeg a16 (nI 0).toNatClampNeg (nI 8).toNatClampNeg) 162 a1)) 163 a1)) 164 o (mI (sI (sI (sC (sC μ a5 (nI 0).toNatClampNeg a8 (nI 0).toNatClampNeg (nI 8).toNatClampNeg) a13 (nI 0).toNatClampNeg a16 (nI 0).toNatClampNeg (nI 8).toNatClampNeg) 162 o (mI (sC (sC μ a5 (nI 0).toNatClampNeg a8 (nI 0).toNatClampNeg (nI 8).toNatClampNeg) a13 (nI 0).toNatClampNeg a16 (nI 0).toNatClampNeg (nI 8).toNatClampNeg) 162 a1)) 163 o (mI (sI (sC (sC μ a5 (nI 0).toNatClampNeg a8 (nI 0).toNatClampNeg (nI 8).toNatClampNeg) a13 (nI 0).toNatClampNeg a16 (nI 0).toNatClampNeg (nI 8).toNatClampNeg) 162 o (mI (sC (sC μ a5 (nI 0).toNatClampNeg a8 (nI 0).toNatClampNeg (nI 8).toNatClampNeg) a13 (nI 0).toNatClampNeg a16 (nI 0).toNatClampNeg (nI 8).toNatClampNeg) 162 a1)) 163 a1)) 164 a1)) 165 a1)) 166 a1))))))))))))))))))
def w_X8_copyFrom_b59 (G : mgT) (o : Nat) (Q : mmT → Prop) (K59 : Option Nat → Int32 → mmT → Prop) (r1 : Option Nat) (x2 : Int32) (μ : mmT) : Prop :=
  (((nI 16) ≤ x2 → (mK μ o = 8 ∧ (∃ a5, r1 = some a5 ∧ (mK μ a5 = 8 ∧ (∃ a8, (mR μ 227 o) = some a8 ∧ (mK μ a8 = 9 ∧ (w_X9_copyFrom G μ a8 (mR μ 227 a5) (fun μ11 => (mK μ11 a5 = 8 ∧ (mK μ11 o = 8 ∧ (Q (sI (sI (sI (sI (sI μ11 228 o (mI μ11 228 a5)) 229 o (mI (sI μ11 228 o (mI μ11 228 a5)) 229 a5)) 230 o (mI (sI (sI μ11 228 o (mI μ11 228 a5)) 229 o (mI (sI μ11 228 o (mI μ11 228 a5)) 229 a5)) 230 a5)) 231 o (mI (sI (sI (sI μ11 228 o (mI μ11 228 a5)) 229 o (mI (sI μ11 228 o (mI μ11 228 a5)) 229 a5)) 230 o (mI (sI (sI μ11 228 o (mI μ11 228 a5)) 229 o (mI (sI μ11 228 o (mI μ11 228 a5)) 229 a5)) 230 a5)) 231 a5)) 232 o (mI (sI (sI (sI (sI μ11 228 o (mI μ11 228 a5)) 229 o (mI (sI μ11 228 o (mI μ11 228 a5)) 229 a5)) 230 o (mI (sI (sI μ11 228 o (mI μ11 228 a5)) 229 o (mI (sI μ11 228 o (mI μ11 228 a5)) 229 a5)) 230 a5)) 231 o (mI (sI (sI (sI μ11 228 o (mI μ11 228 a5)) 229 o (mI (sI μ11 228 o (mI μ11 228 a5)) 229 a5)) 230 o (mI (sI (sI μ11 228 o (mI μ11 228 a5)) 229 o (mI (sI μ11 228 o (mI μ11 228 a5)) 229 a5)) 230 a5)) 231 a5)) 232 a5))))))))))))) ∧ (¬ (nI 16) ≤ x2 → (mK μ o = 8 ∧ (∃ a15, (mR μ 226 o) = some a15 ∧ (mK μ a15 = 39 ∧ (vp_in x2 (mN μ a15) ∧ (∃ a19, r1 = some a19 ∧ (mK μ a19 = 8 ∧ (∃ a22, (mR μ 226 a19) = some a22 ∧ (mK μ a22 = 39 ∧ (vp_in x2 (mN μ a22) ∧ (∃ a26, (mB μ a15 x2.toNatClampNeg) = some a26 ∧ (mK μ a26 = 5 ∧ (w_X5_copyFrom G μ a26 (mB μ a22 x2.toNatClampNeg) (fun μ29 => (K59 r1 (x2 + nI 1) μ29))))))))))))))))
def w_X8_copyFrom_l59 (G : mgT) (o : Nat) (Q : mmT → Prop) : Nat → Option Nat → Int32 → mmT → Prop
  | 0 => fun _ _ _ => False
  | n + 1 => fun r1 x2 μ => w_X8_copyFrom_b59 G o Q  (w_X8_copyFrom_l59 G o Q  n) r1 x2 μ
def w_X8_copyFrom_b31 (G : mgT) (o : Nat) (Q : mmT → Prop) (K31 : Option Nat → Int32 → mmT → Prop) (r1 : Option Nat) (x2 : Int32) (μ : mmT) : Prop :=
  (((nI 4) ≤ x2 → (∃ n, w_X8_copyFrom_l59 G o Q  n r1 (nI 0) μ)) ∧ (¬ (nI 4) ≤ x2 → (mK μ o = 8 ∧ (∃ a31, (mR μ 225 o) = some a31 ∧ (mK μ a31 = 38 ∧ (vp_in x2 (mN μ a31) ∧ (∃ a35, r1 = some a35 ∧ (mK μ a35 = 8 ∧ (∃ a38, (mR μ 225 a35) = some a38 ∧ (mK μ a38 = 38 ∧ (vp_in x2 (mN μ a38) ∧ (∃ a42, (mB μ a31 x2.toNatClampNeg) = some a42 ∧ (mK μ a42 = 3 ∧ (w_X2_copyFrom G μ a42 (mB μ a38 x2.toNatClampNeg) (fun μ45 => (K31 r1 (x2 + nI 1) μ45))))))))))))))))
def w_X8_copyFrom_l31 (G : mgT) (o : Nat) (Q : mmT → Prop) : Nat → Option Nat → Int32 → mmT → Prop
  | 0 => fun _ _ _ => False
  | n + 1 => fun r1 x2 μ => w_X8_copyFrom_b31 G o Q  (w_X8_copyFrom_l31 G o Q  n) r1 x2 μ
def w_X8_copyFrom_b2 (G : mgT) (o : Nat) (Q : mmT → Prop) (K2 : Option Nat → Int32 → mmT → Prop) (r1 : Option Nat) (x2 : Int32) (μ : mmT) : Prop :=
  (((nI 6) ≤ x2 → (∃ n, w_X8_copyFrom_l31 G o Q  n r1 (nI 0) μ)) ∧ (¬ (nI 6) ≤ x2 → (mK μ o = 8 ∧ (∃ a47, (mR μ 224 o) = some a47 ∧ (mK μ a47 = 40 ∧ (vp_in x2 (mN μ a47) ∧ (∃ a51, r1 = some a51 ∧ (mK μ a51 = 8 ∧ (∃ a54, (mR μ 224 a51) = some a54 ∧ (mK μ a54 = 40 ∧ (vp_in x2 (mN μ a54) ∧ (∃ a58, (mB μ a47 x2.toNatClampNeg) = some a58 ∧ (mK μ a58 = 6 ∧ (w_X6_copyFrom G μ a58 (mB μ a54 x2.toNatClampNeg) (fun μ61 => (K2 r1 (x2 + nI 1) μ61))))))))))))))))
def w_X8_copyFrom_l2 (G : mgT) (o : Nat) (Q : mmT → Prop) : Nat → Option Nat → Int32 → mmT → Prop
  | 0 => fun _ _ _ => False
  | n + 1 => fun r1 x2 μ => w_X8_copyFrom_b2 G o Q  (w_X8_copyFrom_l2 G o Q  n) r1 x2 μ
def w_X8_copyFrom (G : mgT) (μ : mmT) (o : Nat) (r1 : Option Nat) (Q : mmT → Prop) : Prop :=
  (∃ n, w_X8_copyFrom_l2 G o Q  n r1 (nI 0) μ)
def w_X4_remember_b45 (G : mgT) (o : Nat) (Q : mmT → Prop) (μ : mmT) : Prop :=
  (Q μ)
def w_X4_remember (G : mgT) (μ : mmT) (o : Nat) (r1 : Option Nat) (Q : mmT → Prop) : Prop :=
  (mK μ o = 4 ∧ (∃ a2, (mR μ 96 o) = some a2 ∧ (mK μ a2 = 41 ∧ (vp_in (mI μ 97 o) (mN μ a2) ∧ (∃ a6, (mB μ a2 (mI μ 97 o).toNatClampNeg) = some a6 ∧ (mK μ a6 = 8 ∧ (w_X8_copyFrom G μ a6 r1 (fun μ9 => (mK μ9 o = 4 ∧ (((nI 8) ≤ (mI (sI μ9 97 o (((mI μ9 97 o) + (nI 1)) - ((mI μ9 97 o) + (nI 1)) / (nI 8) * (nI 8))) 98 o) → (w_X4_remember_b45 G o Q  (sI μ9 97 o (((mI μ9 97 o) + (nI 1)) - ((mI μ9 97 o) + (nI 1)) / (nI 8) * (nI 8))))) ∧ (¬ (nI 8) ≤ (mI (sI μ9 97 o (((mI μ9 97 o) + (nI 1)) - ((mI μ9 97 o) + (nI 1)) / (nI 8) * (nI 8))) 98 o) → (w_X4_remember_b45 G o Q  (sI (sI μ9 97 o (((mI μ9 97 o) + (nI 1)) - ((mI μ9 97 o) + (nI 1)) / (nI 8) * (nI 8))) 98 o ((mI (sI μ9 97 o (((mI μ9 97 o) + (nI 1)) - ((mI μ9 97 o) + (nI 1)) / (nI 8) * (nI 8))) 98 o) + (nI 1)))))))))))))))
def w_X4_takeBackInto (G : mgT) (μ : mmT) (o : Nat) (r1 : Option Nat) (Q : mmT → Prop) : Prop :=
  (mK μ o = 4 ∧ (∃ a3, (mR (sI (sI μ 97 o ((((mI μ 97 o) + (nI 8)) - (nI 1)) - (((mI μ 97 o) + (nI 8)) - (nI 1)) / (nI 8) * (nI 8))) 98 o ((mI (sI μ 97 o ((((mI μ 97 o) + (nI 8)) - (nI 1)) - (((mI μ 97 o) + (nI 8)) - (nI 1)) / (nI 8) * (nI 8))) 98 o) - (nI 1))) 96 o) = some a3 ∧ (mK (sI (sI μ 97 o ((((mI μ 97 o) + (nI 8)) - (nI 1)) - (((mI μ 97 o) + (nI 8)) - (nI 1)) / (nI 8) * (nI 8))) 98 o ((mI (sI μ 97 o ((((mI μ 97 o) + (nI 8)) - (nI 1)) - (((mI μ 97 o) + (nI 8)) - (nI 1)) / (nI 8) * (nI 8))) 98 o) - (nI 1))) a3 = 41 ∧ (vp_in (mI (sI (sI μ 97 o ((((mI μ 97 o) + (nI 8)) - (nI 1)) - (((mI μ 97 o) + (nI 8)) - (nI 1)) / (nI 8) * (nI 8))) 98 o ((mI (sI μ 97 o ((((mI μ 97 o) + (nI 8)) - (nI 1)) - (((mI μ 97 o) + (nI 8)) - (nI 1)) / (nI 8) * (nI 8))) 98 o) - (nI 1))) 97 o) (mN (sI (sI μ 97 o ((((mI μ 97 o) + (nI 8)) - (nI 1)) - (((mI μ 97 o) + (nI 8)) - (nI 1)) / (nI 8) * (nI 8))) 98 o ((mI (sI μ 97 o ((((mI μ 97 o) + (nI 8)) - (nI 1)) - (((mI μ 97 o) + (nI 8)) - (nI 1)) / (nI 8) * (nI 8))) 98 o) - (nI 1))) a3) ∧ (∃ a7, r1 = some a7 ∧ (mK (sI (sI μ 97 o ((((mI μ 97 o) + (nI 8)) - (nI 1)) - (((mI μ 97 o) + (nI 8)) - (nI 1)) / (nI 8) * (nI 8))) 98 o ((mI (sI μ 97 o ((((mI μ 97 o) + (nI 8)) - (nI 1)) - (((mI μ 97 o) + (nI 8)) - (nI 1)) / (nI 8) * (nI 8))) 98 o) - (nI 1))) a7 = 8 ∧ (w_X8_copyFrom G (sI (sI μ 97 o ((((mI μ 97 o) + (nI 8)) - (nI 1)) - (((mI μ 97 o) + (nI 8)) - (nI 1)) / (nI 8) * (nI 8))) 98 o ((mI (sI μ 97 o ((((mI μ 97 o) + (nI 8)) - (nI 1)) - (((mI μ 97 o) + (nI 8)) - (nI 1)) / (nI 8) * (nI 8))) 98 o) - (nI 1))) a7 (mB (sI (sI μ 97 o ((((mI μ 97 o) + (nI 8)) - (nI 1)) - (((mI μ 97 o) + (nI 8)) - (nI 1)) / (nI 8) * (nI 8))) 98 o ((mI (sI μ 97 o ((((mI μ 97 o) + (nI 8)) - (nI 1)) - (((mI μ 97 o) + (nI 8)) - (nI 1)) / (nI 8) * (nI 8))) 98 o) - (nI 1))) a3 (mI (sI (sI μ 97 o ((((mI μ 97 o) + (nI 8)) - (nI 1)) - (((mI μ 97 o) + (nI 8)) - (nI 1)) / (nI 8) * (nI 8))) 98 o ((mI (sI μ 97 o ((((mI μ 97 o) + (nI 8)) - (nI 1)) - (((mI μ 97 o) + (nI 8)) - (nI 1)) / (nI 8) * (nI 8))) 98 o) - (nI 1))) 97 o).toNatClampNeg) (fun μ10 => (Q μ10)))))))))
def w_X5_write (G : mgT) (μ : mmT) (o : Nat) (x1 : Int32) (x2 : Int32) (x3 : Int32) (Q : mmT → Prop) : Prop :=
  (mK μ o = 5 ∧ (Q (sI (sI (sI (sI (sI (sI μ 128 o x1) 129 o x2) 130 o x3) 131 o (nI 0)) 132 o (nI 119)) 133 o (nI 0))))
def w_X6_open (G : mgT) (μ : mmT) (o : Nat) (x1 : Int32) (x2 : Int32) (Q : mmT → Prop) : Prop :=
  (mK μ o = 6 ∧ (Q (sI (sI (sI (sI (sI μ 162 o x1) 163 o x2) 164 o (nI 0)) 165 o (nI 0)) 166 o (nI 0))))
def w_X6_hasRoom_b14 (G : mgT) (μ : mmT) (o : Nat) (Q : Int32 → Prop) (s0 : Int32) : Prop :=
  ((s0 = 0 ∨ s0 = 1) ∧ (Q s0))
def w_X6_hasRoom (G : mgT) (μ : mmT) (o : Nat) (Q : Int32 → Prop) : Prop :=
  (mK μ o = 6 ∧ (((nI 8) ≤ (mI μ 165 o) → (w_X6_hasRoom_b14 G μ o Q  (nI 0))) ∧ (¬ (nI 8) ≤ (mI μ 165 o) → (w_X6_hasRoom_b14 G μ o Q  (nI 1)))))
def w_X6_knows_b2 (G : mgT) (μ : mmT) (o : Nat) (Q : Int32 → Prop) (K2 : Int32 → Int32 → Prop) (x1 : Int32) (x2 : Int32) : Prop :=
  (mK μ o = 6 ∧ (((mI μ 166 o) ≤ x2 → (Q (nI 0))) ∧ (¬ (mI μ 166 o) ≤ x2 → (∃ a3, (mR μ 161 o) = some a3 ∧ (mK μ a3 = 34 ∧ (vp_in x2 (mN μ a3) ∧ ((¬ (mA μ a3 x2.toNatClampNeg) = x1 → (K2 x1 (x2 + nI 1))) ∧ ((mA μ a3 x2.toNatClampNeg) = x1 → (Q (nI 1))))))))))
def w_X6_knows_l2 (G : mgT) (μ : mmT) (o : Nat) (Q : Int32 → Prop) : Nat → Int32 → Int32 → Prop
  | 0 => fun _ _ => False
  | n + 1 => fun x1 x2 => w_X6_knows_b2 G μ o Q  (w_X6_knows_l2 G μ o Q  n) x1 x2
def w_X6_knows (G : mgT) (μ : mmT) (o : Nat) (x1 : Int32) (Q : Int32 → Prop) : Prop :=
  (∃ n, w_X6_knows_l2 G μ o Q  n x1 (nI 0))
def w_X6_learn_b30 (G : mgT) (o : Nat) (Q : mmT → Prop) (x1 : Int32) (μ : mmT) : Prop :=
  (mK μ o = 6 ∧ (∃ a4, (mR μ 161 o) = some a4 ∧ (mK μ a4 = 34 ∧ (vp_in (mI μ 166 o) (mN μ a4) ∧ (Q (sI (sA μ a4 (mI μ 166 o).toNatClampNeg x1) 166 o ((mI (sA μ a4 (mI μ 166 o).toNatClampNeg x1) 166 o) + (nI 1))))))))
def w_X6_learn (G : mgT) (μ : mmT) (o : Nat) (x1 : Int32) (Q : mmT → Prop) : Prop :=
  (mK μ o = 6 ∧ (((mI μ 166 o) < (nI 8) → (w_X6_learn_b30 G o Q  x1 μ)) ∧ (¬ (mI μ 166 o) < (nI 8) → (∃ a8, (mR μ 161 o) = some a8 ∧ (mK μ a8 = 34 ∧ ((nI 1).toNatClampNeg + (nI 7).toNatClampNeg ≤ mN μ a8 ∧ ((nI 0).toNatClampNeg + (nI 7).toNatClampNeg ≤ mN μ a8 ∧ (w_X6_learn_b30 G o Q  x1 (sI (sC μ a8 (nI 1).toNatClampNeg a8 (nI 0).toNatClampNeg (nI 7).toNatClampNeg) 166 o (nI 7))))))))))
def w_X6_accept (G : mgT) (μ : mmT) (o : Nat) (x1 : Int32) (x2 : Int32) (Q : mmT → Prop) : Prop :=
  (mK μ o = 6 ∧ (w_X6_hasRoom G μ o (fun u2 => ((¬ u2 = 0 → (∃ a4, (mR μ 160 o) = some a4 ∧ (mK μ a4 = 34 ∧ (vp_in (mI μ 165 o) (mN μ a4) ∧ (w_X6_learn G (sI (sI (sA μ a4 (mI μ 165 o).toNatClampNeg x1) 165 o ((mI (sA μ a4 (mI μ 165 o).toNatClampNeg x1) 165 o) + (nI 1))) 164 o ((mI (sI (sA μ a4 (mI μ 165 o).toNatClampNeg x1) 165 o ((mI (sA μ a4 (mI μ 165 o).toNatClampNeg x1) 165 o) + (nI 1))) 164 o) + (nI 1))) o x2 (fun μ8 => (Q μ8))))))) ∧ (u2 = 0 → (Q μ))))))
def w_X6_takeFirst (G : mgT) (μ : mmT) (o : Nat) (Q : Int32 → mmT → Prop) : Prop :=
  (mK μ o = 6 ∧ ((0 < (mI μ 165 o) → (∃ a3, (mR μ 160 o) = some a3 ∧ (mK μ a3 = 34 ∧ (vp_in (nI 0) (mN μ a3) ∧ ((nI 1).toNatClampNeg + (nI 7).toNatClampNeg ≤ mN μ a3 ∧ ((nI 0).toNatClampNeg + (nI 7).toNatClampNeg ≤ mN μ a3 ∧ (Q (mA μ a3 (nI 0).toNatClampNeg) (sI (sC μ a3 (nI 1).toNatClampNeg a3 (nI 0).toNatClampNeg (nI 7).toNatClampNeg) 165 o ((mI (sC μ a3 (nI 1).toNatClampNeg a3 (nI 0).toNatClampNeg (nI 7).toNatClampNeg) 165 o) - (nI 1)))))))))) ∧ (¬ 0 < (mI μ 165 o) → (Q (-1) μ))))
def w_X7_init_b58 (G : mgT) (o : Nat) (Q : mmT → Nat → Prop) (K58 : Int32 → Nat → mmT → Nat → Prop) (x1 : Int32) (t58 : Nat) (μ : mmT) (z : Nat) : Prop :=
  (t58 ≤ 60 ∧ (((nI 60) ≤ x1 → (Q μ z)) ∧ (¬ (nI 60) ≤ x1 → (mK μ o = 7 ∧ (mK (nO μ z 1) z = 2 ∧ (w_X1_init G (nO μ z 1) (z + 1) z (fun μ13 z14 => (∃ a15, (mR μ 193 o) = some a15 ∧ (mK μ13 a15 = 37 ∧ (mK μ13 z = 2 ∧ (vp_in x1 (mN μ13 a15) ∧ (K58 (x1 + nI 1) (t58 + 1) (sB μ13 a15 x1.toNatClampNeg (some z)) z14))))))))))))
def w_X7_init_l58 (G : mgT) (o : Nat) (Q : mmT → Nat → Prop) : Nat → Int32 → Nat → mmT → Nat → Prop
  | 0 => fun _ _ _ _ => False
  | n + 1 => fun x1 t58 μ z => w_X7_init_b58 G o Q  (w_X7_init_l58 G o Q  n) x1 t58 μ z
def w_X7_init (G : mgT) (μ : mmT) (z : Nat) (o : Nat) (Q : mmT → Nat → Prop) : Prop :=
  (mK (nA μ z 1 60) o = 7 ∧ (mK (nA (sR (nA μ z 1 60) 192 o (some z)) (z + 1) 5 60) o = 7 ∧ (mK (sR (nA (sR (nA μ z 1 60) 192 o (some z)) (z + 1) 5 60) 193 o (some (z + 1))) o = 7 ∧ (mK (sI (sR (nA (sR (nA μ z 1 60) 192 o (some z)) (z + 1) 5 60) 193 o (some (z + 1))) 194 o (nI 0)) o = 7 ∧ (mK (sI (sI (sR (nA (sR (nA μ z 1 60) 192 o (some z)) (z + 1) 5 60) 193 o (some (z + 1))) 194 o (nI 0)) 195 o (nI 0)) o = 7 ∧ (mK (sI (sI (sI (sR (nA (sR (nA μ z 1 60) 192 o (some z)) (z + 1) 5 60) 193 o (some (z + 1))) 194 o (nI 0)) 195 o (nI 0)) 196 o (nI 0)) o = 7 ∧ (mK (sI (sI (sI (sI (sR (nA (sR (nA μ z 1 60) 192 o (some z)) (z + 1) 5 60) 193 o (some (z + 1))) 194 o (nI 0)) 195 o (nI 0)) 196 o (nI 0)) 197 o (nI 0)) o = 7 ∧ (mK (sI (sI (sI (sI (sI (sR (nA (sR (nA μ z 1 60) 192 o (some z)) (z + 1) 5 60) 193 o (some (z + 1))) 194 o (nI 0)) 195 o (nI 0)) 196 o (nI 0)) 197 o (nI 0)) 198 o (nI 0)) o = 7 ∧ (mK (sI (sI (sI (sI (sI (sI (sR (nA (sR (nA μ z 1 60) 192 o (some z)) (z + 1) 5 60) 193 o (some (z + 1))) 194 o (nI 0)) 195 o (nI 0)) 196 o (nI 0)) 197 o (nI 0)) 198 o (nI 0)) 199 o (nI 0)) o = 7 ∧ (∃ n, w_X7_init_l58 G o Q  n (nI 0) 0 (sI (sI (sI (sI (sI (sI (sI (sR (nA (sR (nA μ z 1 60) 192 o (some z)) (z + 1) 5 60) 193 o (some (z + 1))) 194 o (nI 0)) 195 o (nI 0)) 196 o (nI 0)) 197 o (nI 0)) 198 o (nI 0)) 199 o (nI 0)) 200 o (nI 0)) ((z + 1) + 1)))))))))))
def w_X7_append_b29 (G : mgT) (o : Nat) (Q : Int32 → mmT → Prop) (μ : mmT) : Prop :=
  (mK μ o = 7 ∧ (Q (mI μ 194 o) μ))
def w_X7_append (G : mgT) (μ : mmT) (o : Nat) (x1 : Int32) (Q : Int32 → mmT → Prop) : Prop :=
  (mK μ o = 7 ∧ (((nI 60) ≤ (mI μ 194 o) → (w_X7_append_b29 G o Q  μ)) ∧ (¬ (nI 60) ≤ (mI μ 194 o) → (∃ a4, (mR μ 192 o) = some a4 ∧ (mK μ a4 = 33 ∧ (vp_in (mI μ 194 o) (mN μ a4) ∧ (w_X7_append_b29 G o Q  (sI (sA μ a4 (mI μ 194 o).toNatClampNeg (vp_nar .char x1)) 194 o ((mI (sA μ a4 (mI μ 194 o).toNatClampNeg (vp_nar .char x1)) 194 o) + (nI 1))))))))))
def w_J0_coder_7d493 (G : mgT) (μ : mmT) (o : Nat) (Q : Int32 → Prop) : Prop :=
  (¬ (1 : Int32) = 0 ∧ (∃ j2, o = gS G j2 ∧ j2 < 37 ∧ (Q (0 : Int32))))
def w_J0_length_8abf5 (G : mgT) (μ : mmT) (o : Nat) (Q : Int32 → Prop) : Prop :=
  (∃ j1, o = gS G j1 ∧ j1 < 37 ∧ (∃ j4, (gV G j1) = gV G j4 ∧ j4 < 37 ∧ (w_J0_coder_7d493 G μ o (fun u7 => (Q ((nI (gLen.getD j4 0)) >>> (u7 &&& 31)))))))
def w_J0_isLatin1_aae02 (G : mgT) (μ : mmT) (o : Nat) (Q : Int32 → Prop) : Prop :=
  (¬ (1 : Int32) = 0 ∧ (∃ j2, o = gS G j2 ∧ j2 < 37 ∧ ((0 : Int32) = 0 ∧ (Q (nI 1)))))
def w_J3_checkIndex_8e157 (G : mgT) (μ : mmT) (x0 : Int32) (x1 : Int32) (r2 : Option Nat) (Q : Int32 → Prop) : Prop :=
  (¬ x0 < 0 ∧ (x0 < x1 ∧ (Q x0)))
def w_J0_checkIndex_df160 (G : mgT) (μ : mmT) (x0 : Int32) (x1 : Int32) (Q : Prop) : Prop :=
  (w_J3_checkIndex_8e157 G μ x0 x1 (gF G) (fun u1 => Q))
def w_J1_charAt_3b067 (G : mgT) (μ : mmT) (r0 : Option Nat) (x1 : Int32) (Q : Int32 → Prop) : Prop :=
  (∃ a1, r0 = some a1 ∧ (∃ j3, a1 = gV G j3 ∧ j3 < 37 ∧ (w_J0_checkIndex_df160 G μ x1 (nI (gLen.getD j3 0)) ((vp_in x1 (gLen.getD j3 0) ∧ (isCh (((((gByt.getD j3 []).getD x1.toNatClampNeg 0) &&& (nI 255)).toUInt32 % 65536).toInt32) ∧ (Q (((((gByt.getD j3 []).getD x1.toNatClampNeg 0) &&& (nI 255)).toUInt32 % 65536).toInt32))))))))
def w_J0_charAt_5068e (G : mgT) (μ : mmT) (o : Nat) (x1 : Int32) (Q : Int32 → Prop) : Prop :=
  (∃ j1, o = gS G j1 ∧ j1 < 37 ∧ (w_J0_isLatin1_aae02 G μ o (fun u4 => (¬ u4 = 0 ∧ (w_J1_charAt_3b067 G μ (some (gV G j1)) x1 (fun u6 => (isCh u6 ∧ (Q u6))))))))
def w_X7_isDigitAt_b39 (G : mgT) (μ : mmT) (o : Nat) (Q : Int32 → Prop) (s0 : Int32) : Prop :=
  ((s0 = 0 ∨ s0 = 1) ∧ (Q s0))
def w_X7_isDigitAt_b38 (G : mgT) (μ : mmT) (o : Nat) (Q : Int32 → Prop) : Prop :=
  (w_X7_isDigitAt_b39 G μ o Q  (nI 0))
def w_X7_isDigitAt (G : mgT) (μ : mmT) (o : Nat) (x1 : Int32) (Q : Int32 → Prop) : Prop :=
  ((x1 < 0 → (w_X7_isDigitAt_b38 G μ o Q  )) ∧ (¬ x1 < 0 → (mK μ o = 7 ∧ (((mI μ 194 o) ≤ x1 → (w_X7_isDigitAt_b38 G μ o Q  )) ∧ (¬ (mI μ 194 o) ≤ x1 → (∃ a5, (mR μ 192 o) = some a5 ∧ (mK μ a5 = 33 ∧ (vp_in x1 (mN μ a5) ∧ (((mA μ a5 x1.toNatClampNeg) < (nI 48) → (w_X7_isDigitAt_b38 G μ o Q  )) ∧ (¬ (mA μ a5 x1.toNatClampNeg) < (nI 48) → (vp_in x1 (mN μ a5) ∧ (((nI 57) < (mA μ a5 x1.toNatClampNeg) → (w_X7_isDigitAt_b38 G μ o Q  )) ∧ (¬ (nI 57) < (mA μ a5 x1.toNatClampNeg) → (w_X7_isDigitAt_b39 G μ o Q  (nI 1)))))))))))))))
def w_X7_readNumber_b71 (G : mgT) (o : Nat) (Q : Int32 → mmT → Prop) (x3 : Int32) (μ : mmT) : Prop :=
  (mK μ o = 7 ∧ (Q x3 (sI μ 197 o ((mI μ 197 o) + (nI 1)))))
def w_X7_readNumber_b49 (G : mgT) (o : Nat) (Q : Int32 → mmT → Prop) (x3 : Int32) (x4 : Int32) (μ : mmT) : Prop :=
  (mK μ o = 7 ∧ ((¬ (mI μ 197 o) = 0 → (w_X7_readNumber_b71 G o Q  x3 (sI μ 199 o x4))) ∧ ((mI μ 197 o) = 0 → (w_X7_readNumber_b71 G o Q  x3 (sI μ 198 o x4)))))
def w_X7_readNumber_b8 (G : mgT) (o : Nat) (Q : Int32 → mmT → Prop) (K8 : Int32 → Int32 → Int32 → Int32 → mmT → Prop) (x2 : Int32) (x3 : Int32) (x4 : Int32) (x5 : Int32) (μ : mmT) : Prop :=
  ((x2 ≤ x3 → (w_X7_readNumber_b49 G o Q  x3 x4 μ)) ∧ (¬ x2 ≤ x3 → (mK μ o = 7 ∧ (w_X7_isDigitAt G μ o x5 (fun u6 => ((u6 = 0 → (w_X7_readNumber_b49 G o Q  x3 x4 μ)) ∧ (¬ u6 = 0 → (∃ a8, (mR μ 192 o) = some a8 ∧ (mK μ a8 = 33 ∧ (vp_in x5 (mN μ a8) ∧ (K8 x2 (x3 + nI 1) (((x4 * (nI 10)) + (mA μ a8 x5.toNatClampNeg)) - (nI 48)) (x5 + nI 1) μ)))))))))))
def w_X7_readNumber_l8 (G : mgT) (o : Nat) (Q : Int32 → mmT → Prop) : Nat → Int32 → Int32 → Int32 → Int32 → mmT → Prop
  | 0 => fun _ _ _ _ _ => False
  | n + 1 => fun x2 x3 x4 x5 μ => w_X7_readNumber_b8 G o Q  (w_X7_readNumber_l8 G o Q  n) x2 x3 x4 x5 μ
def w_X7_readNumber (G : mgT) (μ : mmT) (o : Nat) (x1 : Int32) (x2 : Int32) (Q : Int32 → mmT → Prop) : Prop :=
  (∃ n, w_X7_readNumber_l8 G o Q  n x2 (nI 0) (nI 0) x1 μ)
def w_X7_widthOf_b53 (G : mgT) (o : Nat) (Q : Int32 → mmT → Prop) (s0 : Int32) (μ : mmT) : Prop :=
  (Q s0 μ)
def w_X7_widthOf_b52 (G : mgT) (o : Nat) (Q : Int32 → mmT → Prop) (μ : mmT) : Prop :=
  (w_X7_widthOf_b53 G o Q  (nI 0) μ)
def w_X7_widthOf (G : mgT) (μ : mmT) (o : Nat) (x1 : Int32) (x2 : Int32) (Q : Int32 → mmT → Prop) : Prop :=
  ((¬ x1 = (nI 35) → ((¬ x1 = (nI 37) → ((x2 < 0 → (w_X7_widthOf_b52 G o Q  μ)) ∧ (¬ x2 < 0 → (mK μ o = 7 ∧ (((mI μ 194 o) ≤ x2 → (w_X7_widthOf_b52 G o Q  μ)) ∧ (¬ (mI μ 194 o) ≤ x2 → (∃ a6, (mR μ 192 o) = some a6 ∧ (mK μ a6 = 33 ∧ (vp_in x2 (mN μ a6) ∧ ((¬ (mA μ a6 x2.toNatClampNeg) = x1 → (w_X7_widthOf_b52 G o Q  μ)) ∧ ((mA μ a6 x2.toNatClampNeg) = x1 → (w_X7_widthOf_b53 G o Q  (nI 1) μ)))))))))))) ∧ (x1 = (nI 37) → (mK μ o = 7 ∧ (w_X7_readNumber G μ o x2 (nI 3) (fun u12 μ13 => (Q u12 μ13))))))) ∧ (x1 = (nI 35) → (mK μ o = 7 ∧ (w_X7_readNumber G μ o x2 (nI 1) (fun u15 μ16 => (Q u15 μ16))))))
def w_X7_match_b15 (G : mgT) (o : Nat) (Q : Int32 → mmT → Prop) (K15 : Option Nat → Int32 → Int32 → mmT → Prop) (r1 : Option Nat) (x3 : Int32) (x4 : Int32) (μ : mmT) : Prop :=
  (∃ a2, r1 = some a2 ∧ (∃ j4, a2 = gS G j4 ∧ j4 < 37 ∧ (w_J0_length_8abf5 G μ a2 (fun u7 => ((u7 ≤ x4 → (mK μ o = 7 ∧ (Q x3 (sI μ 200 o (nI 1))))) ∧ (¬ u7 ≤ x4 → (w_J0_charAt_5068e G μ a2 x4 (fun u10 => (mK μ o = 7 ∧ (w_X7_widthOf G μ o u10 x3 (fun u12 μ13 => ((¬ u12 = 0 → (K15 r1 (x3 + u12) (x4 + nI 1) μ13)) ∧ (u12 = 0 → (Q x3 μ13))))))))))))))
def w_X7_match_l15 (G : mgT) (o : Nat) (Q : Int32 → mmT → Prop) : Nat → Option Nat → Int32 → Int32 → mmT → Prop
  | 0 => fun _ _ _ _ => False
  | n + 1 => fun r1 x3 x4 μ => w_X7_match_b15 G o Q  (w_X7_match_l15 G o Q  n) r1 x3 x4 μ
def w_X7_match (G : mgT) (μ : mmT) (o : Nat) (r1 : Option Nat) (x2 : Int32) (Q : Int32 → mmT → Prop) : Prop :=
  (mK μ o = 7 ∧ (∃ n, w_X7_match_l15 G o Q  n r1 x2 (nI 0) (sI (sI μ 197 o (nI 0)) 200 o (nI 0))))
def w_X7_readCommand_b110 (G : mgT) (o : Nat) (Q : Int32 → mmT → Prop) (s0 : Int32) (μ : mmT) : Prop :=
  ((s0 = 0 ∨ s0 = 1) ∧ (Q s0 μ))
def w_X7_readCommand_b78 (G : mgT) (o : Nat) (Q : Int32 → mmT → Prop) (K20 : Option Nat → Int32 → Int32 → Option Nat → Int32 → Int32 → mmT → Prop) (r1 : Option Nat) (x2 : Int32) (x3 : Int32) (r4 : Option Nat) (x5 : Int32) (x6 : Int32) (x8 : Int32) (μ : mmT) : Prop :=
  (mK μ o = 7 ∧ (K20 r1 x2 x3 r4 x5 (x6 + nI 1) (sI μ 196 o (if (mI μ 196 o) < x8 then x8 else (mI μ 196 o)))))
def w_X7_readCommand_b20 (G : mgT) (o : Nat) (Q : Int32 → mmT → Prop) (K20 : Option Nat → Int32 → Int32 → Option Nat → Int32 → Int32 → mmT → Prop) (r1 : Option Nat) (x2 : Int32) (x3 : Int32) (r4 : Option Nat) (x5 : Int32) (x6 : Int32) (μ : mmT) : Prop :=
  ((x5 ≤ x6 → (mK μ o = 7 ∧ ((¬ x3 = (mI μ 196 o) → (w_X7_readCommand_b110 G o Q  (nI 0) μ)) ∧ (x3 = (mI μ 196 o) → (w_X7_readCommand_b110 G o Q  (nI 1) μ))))) ∧ (¬ x5 ≤ x6 → (∃ a7, r4 = some a7 ∧ (a7 = gX G 0 ∧ (vp_in x6 9 ∧ (∃ j11, (gE G x6.toNatClampNeg) = gE G j11 ∧ j11 < 9 ∧ (mK μ o = 7 ∧ (w_X7_match G μ o (some (gS G (gPat j11))) x2 (fun u15 μ16 => (mK μ16 o = 7 ∧ (((mI μ16 200 o) = 0 → (w_X7_readCommand_b78 G o Q K20 r1 x2 x3 r4 x5 x6 u15 μ16)) ∧ (¬ (mI μ16 200 o) = 0 → (∃ a20, r1 = some a20 ∧ (mK μ16 a20 = 2 ∧ (w_X7_readCommand_b78 G o Q K20 r1 x2 u15 r4 x5 x6 u15 (sI (sI (sR μ16 32 a20 (some (gE G x6.toNatClampNeg))) 33 a20 (mI (sR μ16 32 a20 (some (gE G x6.toNatClampNeg))) 198 o)) 34 a20 (mI (sI (sR μ16 32 a20 (some (gE G x6.toNatClampNeg))) 33 a20 (mI (sR μ16 32 a20 (some (gE G x6.toNatClampNeg))) 198 o)) 199 o)))))))))))))))))
def w_X7_readCommand_l20 (G : mgT) (o : Nat) (Q : Int32 → mmT → Prop) : Nat → Option Nat → Int32 → Int32 → Option Nat → Int32 → Int32 → mmT → Prop
  | 0 => fun _ _ _ _ _ _ _ => False
  | n + 1 => fun r1 x2 x3 r4 x5 x6 μ => w_X7_readCommand_b20 G o Q  (w_X7_readCommand_l20 G o Q  n) r1 x2 x3 r4 x5 x6 μ
def w_X7_readCommand (G : mgT) (μ : mmT) (o : Nat) (r1 : Option Nat) (x2 : Int32) (Q : Int32 → mmT → Prop) : Prop :=
  (mK μ o = 7 ∧ (∃ n, w_X7_readCommand_l20 G o Q  n r1 x2 (-1) (some (gX G 0)) (nI 9) (nI 0) (sI μ 196 o x2)))
def w_X7_split_b4 (G : mgT) (o : Nat) (Q : Int32 → mmT → Prop) (K4 : Int32 → Int32 → mmT → Prop) (x1 : Int32) (x2 : Int32) (μ : mmT) : Prop :=
  (((nI 60) ≤ x2 → (Q (nI 0) μ)) ∧ (¬ (nI 60) ≤ x2 → (mK μ o = 7 ∧ (∃ a3, (mR μ 193 o) = some a3 ∧ (mK μ a3 = 37 ∧ (vp_in x2 (mN μ a3) ∧ (w_X7_readCommand G μ o (mB μ a3 x2.toNatClampNeg) x1 (fun u7 μ8 => ((¬ u7 = 0 → (mK μ8 o = 7 ∧ (((mI (sI μ8 195 o (x2 + (nI 1))) 196 o) < (mI (sI μ8 195 o (x2 + (nI 1))) 194 o) → (∃ a12, (mR (sI μ8 195 o (x2 + (nI 1))) 192 o) = some a12 ∧ (mK (sI μ8 195 o (x2 + (nI 1))) a12 = 33 ∧ (vp_in (mI (sI μ8 195 o (x2 + (nI 1))) 196 o) (mN (sI μ8 195 o (x2 + (nI 1))) a12) ∧ (((mA (sI μ8 195 o (x2 + (nI 1))) a12 (mI (sI μ8 195 o (x2 + (nI 1))) 196 o).toNatClampNeg) = (nI 59) → (K4 ((mI (sI μ8 195 o (x2 + (nI 1))) 196 o) + (nI 1)) (x2 + nI 1) (sI μ8 195 o (x2 + (nI 1))))) ∧ (¬ (mA (sI μ8 195 o (x2 + (nI 1))) a12 (mI (sI μ8 195 o (x2 + (nI 1))) 196 o).toNatClampNeg) = (nI 59) → (Q (nI 0) (sI μ8 195 o (x2 + (nI 1)))))))))) ∧ (¬ (mI (sI μ8 195 o (x2 + (nI 1))) 196 o) < (mI (sI μ8 195 o (x2 + (nI 1))) 194 o) → (Q (nI 1) (sI μ8 195 o (x2 + (nI 1)))))))) ∧ (u7 = 0 → (Q (nI 0) μ8)))))))))))
def w_X7_split_l4 (G : mgT) (o : Nat) (Q : Int32 → mmT → Prop) : Nat → Int32 → Int32 → mmT → Prop
  | 0 => fun _ _ _ => False
  | n + 1 => fun x1 x2 μ => w_X7_split_b4 G o Q  (w_X7_split_l4 G o Q  n) x1 x2 μ
def w_X7_split (G : mgT) (μ : mmT) (o : Nat) (Q : Int32 → mmT → Prop) : Prop :=
  (∃ n, w_X7_split_l4 G o Q  n (nI 0) (nI 0) μ)
def w_Jx29ce0_ordinal_8abf5 (G : mgT) (μ : mmT) (o : Nat) (Q : Int32 → Prop) : Prop :=
  (∃ j1, o = gE G j1 ∧ j1 < 9 ∧ (Q (gOrd.getD j1 0)))
def w_X8_rowOf_b2 (G : mgT) (μ : mmT) (o : Nat) (Q : Int32 → Prop) (K2 : Int32 → Int32 → Prop) (x1 : Int32) (x2 : Int32) : Prop :=
  (mK μ o = 8 ∧ (((mI μ 230 o) ≤ x2 → (Q (-1))) ∧ (¬ (mI μ 230 o) ≤ x2 → (∃ a3, (mR μ 226 o) = some a3 ∧ (mK μ a3 = 39 ∧ (vp_in x2 (mN μ a3) ∧ (∃ a7, (mB μ a3 x2.toNatClampNeg) = some a7 ∧ (mK μ a7 = 5 ∧ ((¬ (mI μ 128 a7) = x1 → (K2 x1 (x2 + nI 1))) ∧ ((mI μ 128 a7) = x1 → (Q x2)))))))))))
def w_X8_rowOf_l2 (G : mgT) (μ : mmT) (o : Nat) (Q : Int32 → Prop) : Nat → Int32 → Int32 → Prop
  | 0 => fun _ _ => False
  | n + 1 => fun x1 x2 => w_X8_rowOf_b2 G μ o Q  (w_X8_rowOf_l2 G μ o Q  n) x1 x2
def w_X8_rowOf (G : mgT) (μ : mmT) (o : Nat) (x1 : Int32) (Q : Int32 → Prop) : Prop :=
  (∃ n, w_X8_rowOf_l2 G μ o Q  n x1 (nI 0))
def w_X8_messageWith_b21 (G : mgT) (μ : mmT) (o : Nat) (Q : Option Nat → Prop) (s0 : Option Nat) : Prop :=
  (Q s0)
def w_X8_messageWith (G : mgT) (μ : mmT) (o : Nat) (x1 : Int32) (Q : Option Nat → Prop) : Prop :=
  (mK μ o = 8 ∧ (w_X8_rowOf G μ o x1 (fun u2 => ((¬ u2 = (-1) → (∃ a4, (mR μ 226 o) = some a4 ∧ (mK μ a4 = 39 ∧ (vp_in u2 (mN μ a4) ∧ (w_X8_messageWith_b21 G μ o Q  (mB μ a4 u2.toNatClampNeg)))))) ∧ (u2 = (-1) → (w_X8_messageWith_b21 G μ o Q  none))))))
def w_X8_nestAt_b22 (G : mgT) (μ : mmT) (o : Nat) (Q : Option Nat → Prop) (s0 : Option Nat) : Prop :=
  (Q s0)
def w_X8_nestAt_b12 (G : mgT) (μ : mmT) (o : Nat) (Q : Option Nat → Prop) : Prop :=
  (w_X8_nestAt_b22 G μ o Q  none)
def w_X8_nestAt (G : mgT) (μ : mmT) (o : Nat) (x1 : Int32) (Q : Option Nat → Prop) : Prop :=
  ((x1 < 0 → (w_X8_nestAt_b12 G μ o Q  )) ∧ (¬ x1 < 0 → (mK μ o = 8 ∧ ((x1 < (mI μ 228 o) → (∃ a4, (mR μ 224 o) = some a4 ∧ (mK μ a4 = 40 ∧ (vp_in x1 (mN μ a4) ∧ (w_X8_nestAt_b22 G μ o Q  (mB μ a4 x1.toNatClampNeg)))))) ∧ (¬ x1 < (mI μ 228 o) → (w_X8_nestAt_b12 G μ o Q  ))))))
def w_X8_isLost_b38 (G : mgT) (μ : mmT) (o : Nat) (Q : Int32 → Prop) (s0 : Int32) : Prop :=
  ((s0 = 0 ∨ s0 = 1) ∧ (Q s0))
def w_X8_isLost_b37 (G : mgT) (μ : mmT) (o : Nat) (Q : Int32 → Prop) : Prop :=
  (w_X8_isLost_b38 G μ o Q  (nI 0))
def w_X8_isLost (G : mgT) (μ : mmT) (o : Nat) (r1 : Option Nat) (x2 : Int32) (Q : Int32 → Prop) : Prop :=
  (∃ a1, r1 = some a1 ∧ (mK μ a1 = 5 ∧ (mK μ o = 8 ∧ (w_X8_nestAt G μ o (mI μ 129 a1) (fun ru5 => ((ru5 = none → (w_X8_isLost_b37 G μ o Q  )) ∧ (∀ a6, ru5 = some a6 → (mK μ a6 = 6 ∧ (((mI μ 163 a6) ≤ ((((mI μ 128 a1) + x2) + (mI μ 232 o)) - (((mI μ 128 a1) + x2) + (mI μ 232 o)) / (nI 5) * (nI 5)) → (w_X8_isLost_b37 G μ o Q  )) ∧ (¬ (mI μ 163 a6) ≤ ((((mI μ 128 a1) + x2) + (mI μ 232 o)) - (((mI μ 128 a1) + x2) + (mI μ 232 o)) / (nI 5) * (nI 5)) → (w_X8_isLost_b38 G μ o Q  (nI 1))))))))))))
def w_X10_shiftedNap (G : mgT) (μ : mmT) (x0 : Int32) (Q : Int64 → Prop) : Prop :=
  (Q ((lN 1) <<< (x0.toInt64 &&& 63)))
def w_X8_remove_b22 (G : mgT) (o : Nat) (Q : mmT → Prop) (K22 : Option Nat → Int32 → mmT → Prop) (r3 : Option Nat) (x4 : Int32) (μ : mmT) : Prop :=
  (mK μ o = 8 ∧ (((mI μ 230 o) ≤ (x4 + (nI 1)) → (∃ a10, (mR (sI μ 230 o ((mI μ 230 o) - (nI 1))) 226 o) = some a10 ∧ (mK (sI μ 230 o ((mI μ 230 o) - (nI 1))) a10 = 39 ∧ (∃ a13, r3 = some a13 ∧ (mK (sI μ 230 o ((mI μ 230 o) - (nI 1))) a13 = 5 ∧ (vp_in (mI (sI μ 230 o ((mI μ 230 o) - (nI 1))) 230 o) (mN (sI μ 230 o ((mI μ 230 o) - (nI 1))) a10) ∧ (Q (sB (sI μ 230 o ((mI μ 230 o) - (nI 1))) a10 (mI (sI μ 230 o ((mI μ 230 o) - (nI 1))) 230 o).toNatClampNeg (some a13))))))))) ∧ (¬ (mI μ 230 o) ≤ (x4 + (nI 1)) → (∃ a17, (mR μ 226 o) = some a17 ∧ (mK μ a17 = 39 ∧ (vp_in (x4 + (nI 1)) (mN μ a17) ∧ (∃ a21, (mB μ a17 (x4 + (nI 1)).toNatClampNeg) = some a21 ∧ (mK μ a21 = 5 ∧ (vp_in x4 (mN μ a17) ∧ (K22 r3 (x4 + nI 1) (sB μ a17 x4.toNatClampNeg (some a21))))))))))))
def w_X8_remove_l22 (G : mgT) (o : Nat) (Q : mmT → Prop) : Nat → Option Nat → Int32 → mmT → Prop
  | 0 => fun _ _ _ => False
  | n + 1 => fun r3 x4 μ => w_X8_remove_b22 G o Q  (w_X8_remove_l22 G o Q  n) r3 x4 μ
def w_X8_remove (G : mgT) (μ : mmT) (o : Nat) (x1 : Int32) (Q : mmT → Prop) : Prop :=
  (mK μ o = 8 ∧ (w_X8_rowOf G μ o x1 (fun u2 => ((¬ u2 = (-1) → (∃ a4, (mR μ 226 o) = some a4 ∧ (mK μ a4 = 39 ∧ (vp_in u2 (mN μ a4) ∧ (∃ n, w_X8_remove_l22 G o Q  n (mB μ a4 u2.toNatClampNeg) u2 μ))))) ∧ (u2 = (-1) → (Q μ))))))
def w_X8_arrive_b191 (G : mgT) (o : Nat) (Q : mmT → Prop) (μ : mmT) : Prop :=
  (Q μ)
def w_X8_arrive_b139 (G : mgT) (o : Nat) (Q : mmT → Prop) (x1 : Int32) (r2 : Option Nat) (μ : mmT) : Prop :=
  (∃ a15, r2 = some a15 ∧ (mK μ a15 = 5 ∧ (((mI μ 131 a15) < (nI 5) → (mK (sI μ 132 a15 (nI 110)) o = 8 ∧ (w_X10_shiftedNap G (sI μ 132 a15 (nI 110)) (mI (sI μ 132 a15 (nI 110)) 131 a15) (fun u20 => (w_X8_arrive_b191 G o Q  (sI (sI μ 132 a15 (nI 110)) 133 a15 ((mI (sI μ 132 a15 (nI 110)) 231 o) + u20.toInt32))))))) ∧ (¬ (mI μ 131 a15) < (nI 5) → (mK μ o = 8 ∧ (w_X8_remove G μ o x1 (fun μ22 => (mK μ22 o = 8 ∧ (∃ a24, (mR μ22 227 o) = some a24 ∧ (mK μ22 a24 = 9 ∧ (w_X8_arrive_b191 G o Q  (sI μ22 260 a24 ((mI μ22 260 a24) + (nI 1))))))))))))))
def w_X8_arrive_b96 (G : mgT) (o : Nat) (Q : mmT → Prop) (x1 : Int32) (r2 : Option Nat) (r3 : Option Nat) (x4 : Int32) (μ : mmT) : Prop :=
  ((¬ x4 = 0 → (w_X8_arrive_b139 G o Q  x1 r2 μ)) ∧ (x4 = 0 → (∃ a27, r3 = some a27 ∧ (mK μ a27 = 6 ∧ (w_X6_hasRoom G μ a27 (fun u30 => ((u30 = 0 → (w_X8_arrive_b139 G o Q  x1 r2 μ)) ∧ (¬ u30 = 0 → (∃ a32, r2 = some a32 ∧ (mK μ a32 = 5 ∧ (w_X6_accept G μ a27 x1 (mI μ 130 a32) (fun μ35 => (mK μ35 a32 = 5 ∧ (mK (sI μ35 132 a32 (nI 100)) o = 8 ∧ (∃ a38, (mR (sI μ35 132 a32 (nI 100)) 227 o) = some a38 ∧ (mK (sI μ35 132 a32 (nI 100)) a38 = 9 ∧ (w_X8_arrive_b191 G o Q  (sI (sI μ35 132 a32 (nI 100)) 257 a38 ((mI (sI μ35 132 a32 (nI 100)) 257 a38) + (nI 1))))))))))))))))))))
def w_X8_arrive (G : mgT) (μ : mmT) (o : Nat) (x1 : Int32) (Q : mmT → Prop) : Prop :=
  (mK μ o = 8 ∧ (w_X8_messageWith G μ o x1 (fun ru2 => ((ru2 = none → (Q μ)) ∧ (∀ a3, ru2 = some a3 → (mK μ a3 = 5 ∧ (w_X8_nestAt G μ o (mI μ 129 a3) (fun ru6 => ((ru6 = none → (Q μ)) ∧ (∀ a7, ru6 = some a7 → (∃ a9, (mR (sI μ 131 a3 ((mI μ 131 a3) + (nI 1))) 227 o) = some a9 ∧ (mK (sI μ 131 a3 ((mI μ 131 a3) + (nI 1))) a9 = 9 ∧ (w_X8_isLost G (sI (sI μ 131 a3 ((mI μ 131 a3) + (nI 1))) 262 a9 ((mI (sI μ 131 a3 ((mI μ 131 a3) + (nI 1))) 262 a9) + (nI 1))) o ru2 (mI (sI (sI μ 131 a3 ((mI μ 131 a3) + (nI 1))) 262 a9 ((mI (sI μ 131 a3 ((mI μ 131 a3) + (nI 1))) 262 a9) + (nI 1))) 131 a3) (fun u12 => ((¬ u12 = 0 → (w_X8_arrive_b96 G o Q  x1 ru2 ru6 u12 (sI (sI μ 131 a3 ((mI μ 131 a3) + (nI 1))) 262 a9 ((mI (sI μ 131 a3 ((mI μ 131 a3) + (nI 1))) 262 a9) + (nI 1))))) ∧ (u12 = 0 → (mK (sI (sI μ 131 a3 ((mI μ 131 a3) + (nI 1))) 262 a9 ((mI (sI μ 131 a3 ((mI μ 131 a3) + (nI 1))) 262 a9) + (nI 1))) a7 = 6 ∧ (w_X6_knows G (sI (sI μ 131 a3 ((mI μ 131 a3) + (nI 1))) 262 a9 ((mI (sI μ 131 a3 ((mI μ 131 a3) + (nI 1))) 262 a9) + (nI 1))) a7 (mI (sI (sI μ 131 a3 ((mI μ 131 a3) + (nI 1))) 262 a9 ((mI (sI μ 131 a3 ((mI μ 131 a3) + (nI 1))) 262 a9) + (nI 1))) 130 a3) (fun u42 => ((u42 = 0 → (w_X8_arrive_b96 G o Q  x1 ru2 ru6 u12 (sI (sI μ 131 a3 ((mI μ 131 a3) + (nI 1))) 262 a9 ((mI (sI μ 131 a3 ((mI μ 131 a3) + (nI 1))) 262 a9) + (nI 1))))) ∧ (¬ u42 = 0 → (w_X8_remove G (sI (sI μ 131 a3 ((mI μ 131 a3) + (nI 1))) 262 a9 ((mI (sI μ 131 a3 ((mI μ 131 a3) + (nI 1))) 262 a9) + (nI 1))) o x1 (fun μ44 => (mK μ44 o = 8 ∧ (∃ a46, (mR μ44 227 o) = some a46 ∧ (mK μ44 a46 = 9 ∧ (w_X8_arrive_b191 G o Q  (sI μ44 259 a46 ((mI μ44 259 a46) + (nI 1))))))))))))))))))))))))))))))
def w_X8_landCrows_b48 (G : mgT) (o : Nat) (Q : mmT → Prop) (K2 : Int32 → mmT → Prop) (x1 : Int32) (μ : mmT) : Prop :=
  (K2 (x1 + nI 1) μ)
def w_X8_landCrows_b2 (G : mgT) (o : Nat) (Q : mmT → Prop) (K2 : Int32 → mmT → Prop) (x1 : Int32) (μ : mmT) : Prop :=
  (mK μ o = 8 ∧ (((mI μ 229 o) ≤ x1 → (Q μ)) ∧ (¬ (mI μ 229 o) ≤ x1 → (∃ a3, (mR μ 225 o) = some a3 ∧ (mK μ a3 = 38 ∧ (vp_in x1 (mN μ a3) ∧ (∃ a7, (mB μ a3 x1.toNatClampNeg) = some a7 ∧ (mK μ a7 = 3 ∧ (((mI μ 64 a7) = 0 → (w_X8_landCrows_b48 G o Q K2 x1 μ)) ∧ (¬ (mI μ 64 a7) = 0 → ((¬ (mI μ 66 a7) = (mI μ 231 o) → (w_X8_landCrows_b48 G o Q K2 x1 μ)) ∧ ((mI μ 66 a7) = (mI μ 231 o) → (w_X8_arrive G (sI μ 64 a7 (nI 0)) o (mI (sI μ 64 a7 (nI 0)) 65 a7) (fun μ12 => (w_X8_landCrows_b48 G o Q K2 x1 μ12)))))))))))))))
def w_X8_landCrows_l2 (G : mgT) (o : Nat) (Q : mmT → Prop) : Nat → Int32 → mmT → Prop
  | 0 => fun _ _ => False
  | n + 1 => fun x1 μ => w_X8_landCrows_b2 G o Q  (w_X8_landCrows_l2 G o Q  n) x1 μ
def w_X8_landCrows (G : mgT) (μ : mmT) (o : Nat) (Q : mmT → Prop) : Prop :=
  (∃ n, w_X8_landCrows_l2 G o Q  n (nI 0) μ)
def w_X8_wakeMessages_b43 (G : mgT) (o : Nat) (Q : mmT → Prop) (K2 : Int32 → mmT → Prop) (x1 : Int32) (μ : mmT) : Prop :=
  (K2 (x1 + nI 1) μ)
def w_X8_wakeMessages_b2 (G : mgT) (o : Nat) (Q : mmT → Prop) (K2 : Int32 → mmT → Prop) (x1 : Int32) (μ : mmT) : Prop :=
  (mK μ o = 8 ∧ (((mI μ 230 o) ≤ x1 → (Q μ)) ∧ (¬ (mI μ 230 o) ≤ x1 → (∃ a3, (mR μ 226 o) = some a3 ∧ (mK μ a3 = 39 ∧ (vp_in x1 (mN μ a3) ∧ (∃ a7, (mB μ a3 x1.toNatClampNeg) = some a7 ∧ (mK μ a7 = 5 ∧ ((¬ (mI μ 132 a7) = (nI 110) → (w_X8_wakeMessages_b43 G o Q K2 x1 μ)) ∧ ((mI μ 132 a7) = (nI 110) → ((¬ (mI μ 133 a7) = (mI μ 231 o) → (w_X8_wakeMessages_b43 G o Q K2 x1 μ)) ∧ ((mI μ 133 a7) = (mI μ 231 o) → (w_X8_wakeMessages_b43 G o Q K2 x1 (sI μ 132 a7 (nI 119)))))))))))))))
def w_X8_wakeMessages_l2 (G : mgT) (o : Nat) (Q : mmT → Prop) : Nat → Int32 → mmT → Prop
  | 0 => fun _ _ => False
  | n + 1 => fun x1 μ => w_X8_wakeMessages_b2 G o Q  (w_X8_wakeMessages_l2 G o Q  n) x1 μ
def w_X8_wakeMessages (G : mgT) (μ : mmT) (o : Nat) (Q : mmT → Prop) : Prop :=
  (∃ n, w_X8_wakeMessages_l2 G o Q  n (nI 0) μ)
def w_X8_waitingAtRank_b60 (G : mgT) (μ : mmT) (o : Nat) (Q : Option Nat → Prop) (K4 : Int32 → Int32 → Int32 → Prop) (K12 : Int32 → Int32 → Int32 → Int32 → Prop) (x1 : Int32) (x2 : Int32) (x3 : Int32) (x4 : Int32) : Prop :=
  (K12 x1 x2 x3 (x4 + nI 1))
def w_X8_waitingAtRank_b12 (G : mgT) (μ : mmT) (o : Nat) (Q : Option Nat → Prop) (K4 : Int32 → Int32 → Int32 → Prop) (K12 : Int32 → Int32 → Int32 → Int32 → Prop) (x1 : Int32) (x2 : Int32) (x3 : Int32) (x4 : Int32) : Prop :=
  (mK μ o = 8 ∧ (((mI μ 230 o) ≤ x4 → (K4 x1 x2 (x3 + nI 1))) ∧ (¬ (mI μ 230 o) ≤ x4 → (∃ a4, (mR μ 226 o) = some a4 ∧ (mK μ a4 = 39 ∧ (vp_in x4 (mN μ a4) ∧ (∃ a8, (mB μ a4 x4.toNatClampNeg) = some a8 ∧ (mK μ a8 = 5 ∧ ((¬ (mI μ 132 a8) = (nI 119) → (w_X8_waitingAtRank_b60 G μ o Q K4 K12 x1 x2 x3 x4)) ∧ ((mI μ 132 a8) = (nI 119) → ((¬ (mI μ 131 a8) = x3 → (w_X8_waitingAtRank_b60 G μ o Q K4 K12 x1 x2 x3 x4)) ∧ ((mI μ 131 a8) = x3 → ((¬ x2 = x1 → (w_X8_waitingAtRank_b60 G μ o Q K4 K12 x1 (x2 + nI 1) x3 x4)) ∧ (x2 = x1 → (Q (mB μ a4 x4.toNatClampNeg))))))))))))))))
def w_X8_waitingAtRank_l12 (G : mgT) (μ : mmT) (o : Nat) (Q : Option Nat → Prop) (K4 : Int32 → Int32 → Int32 → Prop) : Nat → Int32 → Int32 → Int32 → Int32 → Prop
  | 0 => fun _ _ _ _ => False
  | n + 1 => fun x1 x2 x3 x4 => w_X8_waitingAtRank_b12 G μ o Q K4 (w_X8_waitingAtRank_l12 G μ o Q K4 n) x1 x2 x3 x4
def w_X8_waitingAtRank_b4 (G : mgT) (μ : mmT) (o : Nat) (Q : Option Nat → Prop) (K4 : Int32 → Int32 → Int32 → Prop) (x1 : Int32) (x2 : Int32) (x3 : Int32) : Prop :=
  (((nI 5) ≤ x3 → (Q none)) ∧ (¬ (nI 5) ≤ x3 → (∃ n, w_X8_waitingAtRank_l12 G μ o Q K4 n x1 x2 x3 (nI 0))))
def w_X8_waitingAtRank_l4 (G : mgT) (μ : mmT) (o : Nat) (Q : Option Nat → Prop) : Nat → Int32 → Int32 → Int32 → Prop
  | 0 => fun _ _ _ => False
  | n + 1 => fun x1 x2 x3 => w_X8_waitingAtRank_b4 G μ o Q  (w_X8_waitingAtRank_l4 G μ o Q  n) x1 x2 x3
def w_X8_waitingAtRank (G : mgT) (μ : mmT) (o : Nat) (x1 : Int32) (Q : Option Nat → Prop) : Prop :=
  (∃ n, w_X8_waitingAtRank_l4 G μ o Q  n x1 (nI 0) (nI 0))
def w_X8_flightLength_b37 (G : mgT) (μ : mmT) (o : Nat) (Q : Int32 → Prop) (s0 : Int32) : Prop :=
  (Q s0)
def w_X8_flightLength_b21 (G : mgT) (μ : mmT) (o : Nat) (Q : Int32 → Prop) (s0 : Int32) : Prop :=
  (mK μ o = 8 ∧ (((mI μ 232 o) ≤ (nI 5) → (w_X8_flightLength_b37 G μ o Q  s0)) ∧ (¬ (mI μ 232 o) ≤ (nI 5) → (w_X8_flightLength_b37 G μ o Q  (s0 + (nI 1))))))
def w_X8_flightLength (G : mgT) (μ : mmT) (o : Nat) (r1 : Option Nat) (Q : Int32 → Prop) : Prop :=
  (∃ a1, r1 = some a1 ∧ (mK μ a1 = 5 ∧ (mK μ o = 8 ∧ (w_X8_nestAt G μ o (mI μ 129 a1) (fun ru5 => ((ru5 = none → (w_X8_flightLength_b21 G μ o Q  (nI 1))) ∧ (∀ a6, ru5 = some a6 → (mK μ a6 = 6 ∧ (w_X8_flightLength_b21 G μ o Q  (mI μ 162 a6))))))))))
def w_X8_sendCrows_b84 (G : mgT) (o : Nat) (Q : mmT → Prop) (K2 : Int32 → mmT → Prop) (x1 : Int32) (μ : mmT) : Prop :=
  (K2 (x1 + nI 1) μ)
def w_X8_sendCrows_b31 (G : mgT) (o : Nat) (Q : mmT → Prop) (K2 : Int32 → mmT → Prop) (x1 : Int32) (s0 : Option Nat) (μ : mmT) : Prop :=
  ((s0 = none → (w_X8_sendCrows_b84 G o Q K2 x1 μ)) ∧ (∀ a12, s0 = some a12 → (mK μ a12 = 5 ∧ (mK (sI μ 132 a12 (nI 102)) o = 8 ∧ (∃ a16, (mR (sI μ 132 a12 (nI 102)) 225 o) = some a16 ∧ (mK (sI μ 132 a12 (nI 102)) a16 = 38 ∧ (vp_in x1 (mN (sI μ 132 a12 (nI 102)) a16) ∧ (∃ a20, (mB (sI μ 132 a12 (nI 102)) a16 x1.toNatClampNeg) = some a20 ∧ (mK (sI μ 132 a12 (nI 102)) a20 = 3 ∧ (∃ a23, (mR (sI (sI μ 132 a12 (nI 102)) 64 a20 (nI 1)) 225 o) = some a23 ∧ (mK (sI (sI μ 132 a12 (nI 102)) 64 a20 (nI 1)) a23 = 38 ∧ (vp_in x1 (mN (sI (sI μ 132 a12 (nI 102)) 64 a20 (nI 1)) a23) ∧ (∃ a27, (mB (sI (sI μ 132 a12 (nI 102)) 64 a20 (nI 1)) a23 x1.toNatClampNeg) = some a27 ∧ (mK (sI (sI μ 132 a12 (nI 102)) 64 a20 (nI 1)) a27 = 3 ∧ (∃ a30, (mR (sI (sI (sI μ 132 a12 (nI 102)) 64 a20 (nI 1)) 65 a27 (mI (sI (sI μ 132 a12 (nI 102)) 64 a20 (nI 1)) 128 a12)) 225 o) = some a30 ∧ (mK (sI (sI (sI μ 132 a12 (nI 102)) 64 a20 (nI 1)) 65 a27 (mI (sI (sI μ 132 a12 (nI 102)) 64 a20 (nI 1)) 128 a12)) a30 = 38 ∧ (vp_in x1 (mN (sI (sI (sI μ 132 a12 (nI 102)) 64 a20 (nI 1)) 65 a27 (mI (sI (sI μ 132 a12 (nI 102)) 64 a20 (nI 1)) 128 a12)) a30) ∧ (w_X8_flightLength G (sI (sI (sI μ 132 a12 (nI 102)) 64 a20 (nI 1)) 65 a27 (mI (sI (sI μ 132 a12 (nI 102)) 64 a20 (nI 1)) 128 a12)) o s0 (fun u34 => (∃ a35, (mB (sI (sI (sI μ 132 a12 (nI 102)) 64 a20 (nI 1)) 65 a27 (mI (sI (sI μ 132 a12 (nI 102)) 64 a20 (nI 1)) 128 a12)) a30 x1.toNatClampNeg) = some a35 ∧ (mK (sI (sI (sI μ 132 a12 (nI 102)) 64 a20 (nI 1)) 65 a27 (mI (sI (sI μ 132 a12 (nI 102)) 64 a20 (nI 1)) 128 a12)) a35 = 3 ∧ (w_X8_sendCrows_b84 G o Q K2 x1 (sI (sI (sI (sI μ 132 a12 (nI 102)) 64 a20 (nI 1)) 65 a27 (mI (sI (sI μ 132 a12 (nI 102)) 64 a20 (nI 1)) 128 a12)) 66 a35 ((mI (sI (sI (sI μ 132 a12 (nI 102)) 64 a20 (nI 1)) 65 a27 (mI (sI (sI μ 132 a12 (nI 102)) 64 a20 (nI 1)) 128 a12)) 231 o) + u34))))))))))))))))))))))))
def w_X8_sendCrows_b2 (G : mgT) (o : Nat) (Q : mmT → Prop) (K2 : Int32 → mmT → Prop) (x1 : Int32) (μ : mmT) : Prop :=
  (mK μ o = 8 ∧ (((mI μ 229 o) ≤ x1 → (Q μ)) ∧ (¬ (mI μ 229 o) ≤ x1 → (∃ a3, (mR μ 225 o) = some a3 ∧ (mK μ a3 = 38 ∧ (vp_in x1 (mN μ a3) ∧ (∃ a7, (mB μ a3 x1.toNatClampNeg) = some a7 ∧ (mK μ a7 = 3 ∧ (((mI μ 64 a7) = 0 → (w_X8_waitingAtRank G μ o (nI 0) (fun ru11 => (w_X8_sendCrows_b31 G o Q K2 x1 ru11 μ)))) ∧ (¬ (mI μ 64 a7) = 0 → (w_X8_sendCrows_b31 G o Q K2 x1 none μ)))))))))))
def w_X8_sendCrows_l2 (G : mgT) (o : Nat) (Q : mmT → Prop) : Nat → Int32 → mmT → Prop
  | 0 => fun _ _ => False
  | n + 1 => fun x1 μ => w_X8_sendCrows_b2 G o Q  (w_X8_sendCrows_l2 G o Q  n) x1 μ
def w_X8_sendCrows (G : mgT) (μ : mmT) (o : Nat) (Q : mmT → Prop) : Prop :=
  (∃ n, w_X8_sendCrows_l2 G o Q  n (nI 0) μ)
def w_X8_pass_b11 (G : mgT) (o : Nat) (Q : Int32 → mmT → Prop) (μ : mmT) : Prop :=
  (Q (-1) μ)
def w_X8_pass_b23 (G : mgT) (o : Nat) (Q : Int32 → mmT → Prop) (K23 : Int32 → Int32 → Int32 → mmT → Prop) (x1 : Int32) (x2 : Int32) (x3 : Int32) (μ : mmT) : Prop :=
  ((x1 ≤ x3 → (mK μ o = 8 ∧ (∃ a9, (mR μ 227 o) = some a9 ∧ (mK μ a9 = 9 ∧ (Q ((mI μ 257 a9) - x2) μ))))) ∧ (¬ x1 ≤ x3 → (mK μ o = 8 ∧ (w_X8_landCrows G (sI μ 231 o ((mI μ 231 o) + (nI 1))) o (fun μ13 => (mK μ13 o = 8 ∧ (w_X8_wakeMessages G μ13 o (fun μ15 => (mK μ15 o = 8 ∧ (w_X8_sendCrows G μ15 o (fun μ17 => (K23 x1 x2 (x3 + nI 1) μ17))))))))))))
def w_X8_pass_l23 (G : mgT) (o : Nat) (Q : Int32 → mmT → Prop) : Nat → Int32 → Int32 → Int32 → mmT → Prop
  | 0 => fun _ _ _ _ => False
  | n + 1 => fun x1 x2 x3 μ => w_X8_pass_b23 G o Q  (w_X8_pass_l23 G o Q  n) x1 x2 x3 μ
def w_X8_pass (G : mgT) (μ : mmT) (o : Nat) (x1 : Int32) (Q : Int32 → mmT → Prop) : Prop :=
  ((x1 < (nI 1) → (w_X8_pass_b11 G o Q  μ)) ∧ (¬ x1 < (nI 1) → ((x1 ≤ (nI 100) → (mK μ o = 8 ∧ (∃ a4, (mR μ 227 o) = some a4 ∧ (mK μ a4 = 9 ∧ (∃ n, w_X8_pass_l23 G o Q  n x1 (mI μ 257 a4) (nI 0) μ))))) ∧ (¬ x1 ≤ (nI 100) → (w_X8_pass_b11 G o Q  μ)))))
def w_X8_openNest_b20 (G : mgT) (o : Nat) (Q : Int32 → mmT → Prop) (μ : mmT) : Prop :=
  (Q (-1) μ)
def w_X8_openNest (G : mgT) (μ : mmT) (o : Nat) (x1 : Int32) (x2 : Int32) (Q : Int32 → mmT → Prop) : Prop :=
  ((x1 < (nI 1) → (w_X8_openNest_b20 G o Q  μ)) ∧ (¬ x1 < (nI 1) → (((nI 9) < x1 → (w_X8_openNest_b20 G o Q  μ)) ∧ (¬ (nI 9) < x1 → ((x2 < 0 → (w_X8_openNest_b20 G o Q  μ)) ∧ (¬ x2 < 0 → ((x2 ≤ (nI 4) → (mK μ o = 8 ∧ (((mI μ 228 o) < (nI 6) → (∃ a7, (mR μ 224 o) = some a7 ∧ (mK μ a7 = 40 ∧ (vp_in (mI μ 228 o) (mN μ a7) ∧ (∃ a11, (mB μ a7 (mI μ 228 o).toNatClampNeg) = some a11 ∧ (mK μ a11 = 6 ∧ (w_X6_open G μ a11 x1 x2 (fun μ14 => (mK μ14 o = 8 ∧ (Q (mI μ 228 o) (sI μ14 228 o ((mI μ14 228 o) + (nI 1))))))))))))) ∧ (¬ (mI μ 228 o) < (nI 6) → (Q (-2) μ))))) ∧ (¬ x2 ≤ (nI 4) → (w_X8_openNest_b20 G o Q  μ)))))))))
def w_X8_hireCrow (G : mgT) (μ : mmT) (o : Nat) (Q : Int32 → mmT → Prop) : Prop :=
  (mK μ o = 8 ∧ (((mI μ 229 o) < (nI 4) → (∃ a3, (mR μ 225 o) = some a3 ∧ (mK μ a3 = 38 ∧ (vp_in (mI μ 229 o) (mN μ a3) ∧ (∃ a7, (mB μ a3 (mI μ 229 o).toNatClampNeg) = some a7 ∧ (mK μ a7 = 3 ∧ (Q (mI μ 229 o) (sI (sI μ 64 a7 (nI 0)) 229 o ((mI (sI μ 64 a7 (nI 0)) 229 o) + (nI 1)))))))))) ∧ (¬ (mI μ 229 o) < (nI 4) → (Q (-2) μ))))
def w_X8_post_b21 (G : mgT) (o : Nat) (Q : Int32 → mmT → Prop) (μ : mmT) : Prop :=
  (Q (-1) μ)
def w_X8_post (G : mgT) (μ : mmT) (o : Nat) (x1 : Int32) (x2 : Int32) (Q : Int32 → mmT → Prop) : Prop :=
  (mK μ o = 8 ∧ (w_X8_nestAt G μ o x1 (fun ru2 => ((ru2 = none → (Q (-3) μ)) ∧ (∀ a3, ru2 = some a3 → ((x2 < 0 → (w_X8_post_b21 G o Q  μ)) ∧ (¬ x2 < 0 → ((x2 ≤ (nI 99) → (((mI μ 230 o) < (nI 16) → (∃ a8, (mR μ 227 o) = some a8 ∧ (mK μ a8 = 9 ∧ (∃ a11, (mR μ 226 o) = some a11 ∧ (mK μ a11 = 39 ∧ (vp_in (mI μ 230 o) (mN μ a11) ∧ (∃ a15, (mB μ a11 (mI μ 230 o).toNatClampNeg) = some a15 ∧ (mK μ a15 = 5 ∧ (w_X5_write G μ a15 (mI μ 256 a8) x1 x2 (fun μ18 => (mK μ18 o = 8 ∧ (∃ a20, (mR (sI μ18 230 o ((mI μ18 230 o) + (nI 1))) 227 o) = some a20 ∧ (mK (sI μ18 230 o ((mI μ18 230 o) + (nI 1))) a20 = 9 ∧ (Q (mI μ 256 a8) (sI (sI μ18 230 o ((mI μ18 230 o) + (nI 1))) 256 a20 ((mI (sI μ18 230 o ((mI μ18 230 o) + (nI 1))) 256 a20) + (nI 1))))))))))))))))) ∧ (¬ (mI μ 230 o) < (nI 16) → (Q (-2) μ)))) ∧ (¬ x2 ≤ (nI 99) → (w_X8_post_b21 G o Q  μ))))))))))
def w_X8_handOver (G : mgT) (μ : mmT) (o : Nat) (x1 : Int32) (Q : Int32 → mmT → Prop) : Prop :=
  (mK μ o = 8 ∧ (w_X8_nestAt G μ o x1 (fun ru2 => ((ru2 = none → (Q (-3) μ)) ∧ (∀ a3, ru2 = some a3 → (mK μ a3 = 6 ∧ ((¬ (mI μ 165 a3) = 0 → (w_X6_takeFirst G μ a3 (fun u7 μ8 => (mK μ8 o = 8 ∧ (w_X8_remove G μ8 o u7 (fun μ10 => (mK μ10 o = 8 ∧ (∃ a12, (mR μ10 227 o) = some a12 ∧ (mK μ10 a12 = 9 ∧ (Q u7 (sI μ10 258 a12 ((mI μ10 258 a12) + (nI 1))))))))))))) ∧ ((mI μ 165 a3) = 0 → (Q (-4) μ)))))))))
def w_X8_withdraw_b31 (G : mgT) (o : Nat) (Q : Int32 → mmT → Prop) (μ : mmT) : Prop :=
  (Q (-2) μ)
def w_X8_withdraw (G : mgT) (μ : mmT) (o : Nat) (x1 : Int32) (Q : Int32 → mmT → Prop) : Prop :=
  (mK μ o = 8 ∧ (w_X8_messageWith G μ o x1 (fun ru2 => ((ru2 = none → (Q (-4) μ)) ∧ (∀ a3, ru2 = some a3 → (mK μ a3 = 5 ∧ (((mI μ 132 a3) = (nI 102) → (w_X8_withdraw_b31 G o Q  μ)) ∧ (¬ (mI μ 132 a3) = (nI 102) → ((¬ (mI μ 132 a3) = (nI 100) → (w_X8_remove G μ o x1 (fun μ8 => (mK μ8 o = 8 ∧ (∃ a10, (mR μ8 227 o) = some a10 ∧ (mK μ8 a10 = 9 ∧ (Q (mI (sI μ8 261 a10 ((mI μ8 261 a10) + (nI 1))) 230 o) (sI μ8 261 a10 ((mI μ8 261 a10) + (nI 1)))))))))) ∧ ((mI μ 132 a3) = (nI 100) → (w_X8_withdraw_b31 G o Q  μ)))))))))))
def w_X8_turnWind_b10 (G : mgT) (o : Nat) (Q : Int32 → mmT → Prop) (μ : mmT) : Prop :=
  (Q (-1) μ)
def w_X8_turnWind (G : mgT) (μ : mmT) (o : Nat) (x1 : Int32) (Q : Int32 → mmT → Prop) : Prop :=
  ((x1 < 0 → (w_X8_turnWind_b10 G o Q  μ)) ∧ (¬ x1 < 0 → ((x1 ≤ (nI 9) → (mK μ o = 8 ∧ (Q (mI μ 232 o) (sI μ 232 o x1)))) ∧ (¬ x1 ≤ (nI 9) → (w_X8_turnWind_b10 G o Q  μ)))))
def w_X8_clearKeys (G : mgT) (μ : mmT) (o : Nat) (x1 : Int32) (Q : Int32 → mmT → Prop) : Prop :=
  (mK μ o = 8 ∧ (w_X8_nestAt G μ o x1 (fun ru2 => ((ru2 = none → (Q (-3) μ)) ∧ (∀ a3, ru2 = some a3 → (mK μ a3 = 6 ∧ (Q (mI μ 166 a3) (sI μ 166 a3 (nI 0)))))))))
def w_X8_perform (G : mgT) (μ : mmT) (o : Nat) (r1 : Option Nat) (Q : Int32 → mmT → Prop) : Prop :=
  (∃ a1, r1 = some a1 ∧ (mK μ a1 = 2 ∧ (∃ a4, (mR μ 32 a1) = some a4 ∧ (∃ j6, a4 = gE G j6 ∧ j6 < 9 ∧ (w_Jx29ce0_ordinal_8abf5 G μ a4 (fun u9 => (vp_in u9 9 ∧ (((∀ k ∈ ([1, 2, 3, 4, 5, 6, 7, 8] : List Nat), ¬ (gSw u9.toNatClampNeg) = nI k) → (mK μ o = 8 ∧ (w_X8_pass G μ o (nI 1) (fun u12 μ13 => (Q u12 μ13))))) ∧ ((gSw u9.toNatClampNeg) = nI 1 → (mK μ o = 8 ∧ (w_X8_openNest G μ o (mI μ 33 a1) (mI μ 34 a1) (fun u15 μ16 => (Q u15 μ16))))) ∧ ((gSw u9.toNatClampNeg) = nI 2 → (mK μ o = 8 ∧ (w_X8_hireCrow G μ o (fun u18 μ19 => (Q u18 μ19))))) ∧ ((gSw u9.toNatClampNeg) = nI 3 → (mK μ o = 8 ∧ (w_X8_post G μ o (mI μ 33 a1) (mI μ 34 a1) (fun u21 μ22 => (Q u21 μ22))))) ∧ ((gSw u9.toNatClampNeg) = nI 4 → (mK μ o = 8 ∧ (w_X8_handOver G μ o (mI μ 33 a1) (fun u24 μ25 => (Q u24 μ25))))) ∧ ((gSw u9.toNatClampNeg) = nI 5 → (mK μ o = 8 ∧ (w_X8_withdraw G μ o (mI μ 33 a1) (fun u27 μ28 => (Q u27 μ28))))) ∧ ((gSw u9.toNatClampNeg) = nI 6 → (mK μ o = 8 ∧ (w_X8_turnWind G μ o (mI μ 33 a1) (fun u30 μ31 => (Q u30 μ31))))) ∧ ((gSw u9.toNatClampNeg) = nI 7 → (mK μ o = 8 ∧ (w_X8_clearKeys G μ o (mI μ 33 a1) (fun u33 μ34 => (Q u33 μ34))))) ∧ ((gSw u9.toNatClampNeg) = nI 8 → (mK μ o = 8 ∧ (w_X8_pass G μ o (mI μ 33 a1) (fun u36 μ37 => (Q u36 μ37)))))))))))))
def w_X8_crowAt_b22 (G : mgT) (μ : mmT) (o : Nat) (Q : Option Nat → Prop) (s0 : Option Nat) : Prop :=
  (Q s0)
def w_X8_crowAt_b12 (G : mgT) (μ : mmT) (o : Nat) (Q : Option Nat → Prop) : Prop :=
  (w_X8_crowAt_b22 G μ o Q  none)
def w_X8_crowAt (G : mgT) (μ : mmT) (o : Nat) (x1 : Int32) (Q : Option Nat → Prop) : Prop :=
  ((x1 < 0 → (w_X8_crowAt_b12 G μ o Q  )) ∧ (¬ x1 < 0 → (mK μ o = 8 ∧ ((x1 < (mI μ 229 o) → (∃ a4, (mR μ 225 o) = some a4 ∧ (mK μ a4 = 38 ∧ (vp_in x1 (mN μ a4) ∧ (w_X8_crowAt_b22 G μ o Q  (mB μ a4 x1.toNatClampNeg)))))) ∧ (¬ x1 < (mI μ 229 o) → (w_X8_crowAt_b12 G μ o Q  ))))))
def w_X8_ranksBefore_b106 (G : mgT) (μ : mmT) (o : Nat) (Q : Int32 → Prop) (s0 : Int32) : Prop :=
  ((s0 = 0 ∨ s0 = 1) ∧ (Q s0))
def w_X8_ranksBefore_b95 (G : mgT) (μ : mmT) (o : Nat) (Q : Int32 → Prop) (s0 : Int32) : Prop :=
  ((s0 = 0 ∨ s0 = 1) ∧ (Q s0))
def w_X8_ranksBefore_b47 (G : mgT) (μ : mmT) (o : Nat) (Q : Int32 → Prop) (s0 : Int32) : Prop :=
  ((s0 = 0 ∨ s0 = 1) ∧ (Q s0))
def w_X8_ranksBefore (G : mgT) (μ : mmT) (o : Nat) (x1 : Int32) (x2 : Int32) (Q : Int32 → Prop) : Prop :=
  (mK μ o = 8 ∧ (∃ a2, (mR μ 224 o) = some a2 ∧ (mK μ a2 = 40 ∧ (vp_in x1 (mN μ a2) ∧ (∃ a6, (mB μ a2 x1.toNatClampNeg) = some a6 ∧ (mK μ a6 = 6 ∧ (vp_in x2 (mN μ a2) ∧ (∃ a10, (mB μ a2 x2.toNatClampNeg) = some a10 ∧ (mK μ a10 = 6 ∧ (((mI μ 164 a6) = (mI μ 164 a10) → (vp_in x1 (mN μ a2) ∧ (vp_in x2 (mN μ a2) ∧ (((mI μ 162 a6) = (mI μ 162 a10) → ((x2 ≤ x1 → (w_X8_ranksBefore_b106 G μ o Q  (nI 0))) ∧ (¬ x2 ≤ x1 → (w_X8_ranksBefore_b106 G μ o Q  (nI 1))))) ∧ (¬ (mI μ 162 a6) = (mI μ 162 a10) → (vp_in x1 (mN μ a2) ∧ (vp_in x2 (mN μ a2) ∧ (((mI μ 162 a10) ≤ (mI μ 162 a6) → (w_X8_ranksBefore_b95 G μ o Q  (nI 0))) ∧ (¬ (mI μ 162 a10) ≤ (mI μ 162 a6) → (w_X8_ranksBefore_b95 G μ o Q  (nI 1))))))))))) ∧ (¬ (mI μ 164 a6) = (mI μ 164 a10) → (vp_in x1 (mN μ a2) ∧ (vp_in x2 (mN μ a2) ∧ (((mI μ 164 a6) ≤ (mI μ 164 a10) → (w_X8_ranksBefore_b47 G μ o Q  (nI 0))) ∧ (¬ (mI μ 164 a6) ≤ (mI μ 164 a10) → (w_X8_ranksBefore_b47 G μ o Q  (nI 1)))))))))))))))))
def w_X8_nestAtRank_b37 (G : mgT) (μ : mmT) (o : Nat) (Q : Int32 → Prop) (K2 : Int32 → Int32 → Prop) (K15 : Int32 → Int32 → Int32 → Int32 → Prop) (x1 : Int32) (x2 : Int32) (x3 : Int32) (x4 : Int32) : Prop :=
  (K15 x1 x2 x3 (x4 + nI 1))
def w_X8_nestAtRank_b15 (G : mgT) (μ : mmT) (o : Nat) (Q : Int32 → Prop) (K2 : Int32 → Int32 → Prop) (K15 : Int32 → Int32 → Int32 → Int32 → Prop) (x1 : Int32) (x2 : Int32) (x3 : Int32) (x4 : Int32) : Prop :=
  (mK μ o = 8 ∧ (((mI μ 228 o) ≤ x4 → ((¬ x3 = x1 → (K2 x1 (x2 + nI 1))) ∧ (x3 = x1 → (Q x2)))) ∧ (¬ (mI μ 228 o) ≤ x4 → (w_X8_ranksBefore G μ o x4 x2 (fun u6 => ((u6 = 0 → (w_X8_nestAtRank_b37 G μ o Q K2 K15 x1 x2 x3 x4)) ∧ (¬ u6 = 0 → (w_X8_nestAtRank_b37 G μ o Q K2 K15 x1 x2 (x3 + nI 1) x4))))))))
def w_X8_nestAtRank_l15 (G : mgT) (μ : mmT) (o : Nat) (Q : Int32 → Prop) (K2 : Int32 → Int32 → Prop) : Nat → Int32 → Int32 → Int32 → Int32 → Prop
  | 0 => fun _ _ _ _ => False
  | n + 1 => fun x1 x2 x3 x4 => w_X8_nestAtRank_b15 G μ o Q K2 (w_X8_nestAtRank_l15 G μ o Q K2 n) x1 x2 x3 x4
def w_X8_nestAtRank_b2 (G : mgT) (μ : mmT) (o : Nat) (Q : Int32 → Prop) (K2 : Int32 → Int32 → Prop) (x1 : Int32) (x2 : Int32) : Prop :=
  (mK μ o = 8 ∧ (((mI μ 228 o) ≤ x2 → (Q (-1))) ∧ (¬ (mI μ 228 o) ≤ x2 → (∃ n, w_X8_nestAtRank_l15 G μ o Q K2 n x1 x2 (nI 0) (nI 0)))))
def w_X8_nestAtRank_l2 (G : mgT) (μ : mmT) (o : Nat) (Q : Int32 → Prop) : Nat → Int32 → Int32 → Prop
  | 0 => fun _ _ => False
  | n + 1 => fun x1 x2 => w_X8_nestAtRank_b2 G μ o Q  (w_X8_nestAtRank_l2 G μ o Q  n) x1 x2
def w_X8_nestAtRank (G : mgT) (μ : mmT) (o : Nat) (x1 : Int32) (Q : Int32 → Prop) : Prop :=
  (∃ n, w_X8_nestAtRank_l2 G μ o Q  n x1 (nI 0))
def w_X8_sumOfAttempts_b4 (G : mgT) (μ : mmT) (o : Nat) (Q : Int32 → Prop) (K4 : Int32 → Int32 → Prop) (x1 : Int32) (x2 : Int32) : Prop :=
  (mK μ o = 8 ∧ (((mI μ 230 o) ≤ x2 → (Q x1)) ∧ (¬ (mI μ 230 o) ≤ x2 → (∃ a3, (mR μ 226 o) = some a3 ∧ (mK μ a3 = 39 ∧ (vp_in x2 (mN μ a3) ∧ (∃ a7, (mB μ a3 x2.toNatClampNeg) = some a7 ∧ (mK μ a7 = 5 ∧ (K4 (x1 + (mI μ 131 a7)) (x2 + nI 1))))))))))
def w_X8_sumOfAttempts_l4 (G : mgT) (μ : mmT) (o : Nat) (Q : Int32 → Prop) : Nat → Int32 → Int32 → Prop
  | 0 => fun _ _ => False
  | n + 1 => fun x1 x2 => w_X8_sumOfAttempts_b4 G μ o Q  (w_X8_sumOfAttempts_l4 G μ o Q  n) x1 x2
def w_X8_sumOfAttempts (G : mgT) (μ : mmT) (o : Nat) (Q : Int32 → Prop) : Prop :=
  (∃ n, w_X8_sumOfAttempts_l4 G μ o Q  n (nI 0) (nI 0))
def w_X8_messagesWithStatus_b28 (G : mgT) (μ : mmT) (o : Nat) (Q : Int32 → Prop) (K4 : Int32 → Int32 → Int32 → Prop) (x1 : Int32) (x2 : Int32) (x3 : Int32) : Prop :=
  (K4 x1 x2 (x3 + nI 1))
def w_X8_messagesWithStatus_b4 (G : mgT) (μ : mmT) (o : Nat) (Q : Int32 → Prop) (K4 : Int32 → Int32 → Int32 → Prop) (x1 : Int32) (x2 : Int32) (x3 : Int32) : Prop :=
  (mK μ o = 8 ∧ (((mI μ 230 o) ≤ x3 → (Q x2)) ∧ (¬ (mI μ 230 o) ≤ x3 → (∃ a3, (mR μ 226 o) = some a3 ∧ (mK μ a3 = 39 ∧ (vp_in x3 (mN μ a3) ∧ (∃ a7, (mB μ a3 x3.toNatClampNeg) = some a7 ∧ (mK μ a7 = 5 ∧ ((¬ (mI μ 132 a7) = x1 → (w_X8_messagesWithStatus_b28 G μ o Q K4 x1 x2 x3)) ∧ ((mI μ 132 a7) = x1 → (w_X8_messagesWithStatus_b28 G μ o Q K4 x1 (x2 + nI 1) x3)))))))))))
def w_X8_messagesWithStatus_l4 (G : mgT) (μ : mmT) (o : Nat) (Q : Int32 → Prop) : Nat → Int32 → Int32 → Int32 → Prop
  | 0 => fun _ _ _ => False
  | n + 1 => fun x1 x2 x3 => w_X8_messagesWithStatus_b4 G μ o Q  (w_X8_messagesWithStatus_l4 G μ o Q  n) x1 x2 x3
def w_X8_messagesWithStatus (G : mgT) (μ : mmT) (o : Nat) (x1 : Int32) (Q : Int32 → Prop) : Prop :=
  (∃ n, w_X8_messagesWithStatus_l4 G μ o Q  n x1 (nI 0) (nI 0))
def w_X8_flyingCrows_b27 (G : mgT) (μ : mmT) (o : Nat) (Q : Int32 → Prop) (K4 : Int32 → Int32 → Prop) (x1 : Int32) (x2 : Int32) : Prop :=
  (K4 x1 (x2 + nI 1))
def w_X8_flyingCrows_b4 (G : mgT) (μ : mmT) (o : Nat) (Q : Int32 → Prop) (K4 : Int32 → Int32 → Prop) (x1 : Int32) (x2 : Int32) : Prop :=
  (mK μ o = 8 ∧ (((mI μ 229 o) ≤ x2 → (Q x1)) ∧ (¬ (mI μ 229 o) ≤ x2 → (∃ a3, (mR μ 225 o) = some a3 ∧ (mK μ a3 = 38 ∧ (vp_in x2 (mN μ a3) ∧ (∃ a7, (mB μ a3 x2.toNatClampNeg) = some a7 ∧ (mK μ a7 = 3 ∧ (((mI μ 64 a7) = 0 → (w_X8_flyingCrows_b27 G μ o Q K4 x1 x2)) ∧ (¬ (mI μ 64 a7) = 0 → (w_X8_flyingCrows_b27 G μ o Q K4 (x1 + nI 1) x2)))))))))))
def w_X8_flyingCrows_l4 (G : mgT) (μ : mmT) (o : Nat) (Q : Int32 → Prop) : Nat → Int32 → Int32 → Prop
  | 0 => fun _ _ => False
  | n + 1 => fun x1 x2 => w_X8_flyingCrows_b4 G μ o Q  (w_X8_flyingCrows_l4 G μ o Q  n) x1 x2
def w_X8_flyingCrows (G : mgT) (μ : mmT) (o : Nat) (Q : Int32 → Prop) : Prop :=
  (∃ n, w_X8_flyingCrows_l4 G μ o Q  n (nI 0) (nI 0))
def w_X8_messagesInInboxes_b4 (G : mgT) (μ : mmT) (o : Nat) (Q : Int32 → Prop) (K4 : Int32 → Int32 → Prop) (x1 : Int32) (x2 : Int32) : Prop :=
  (mK μ o = 8 ∧ (((mI μ 228 o) ≤ x2 → (Q x1)) ∧ (¬ (mI μ 228 o) ≤ x2 → (∃ a3, (mR μ 224 o) = some a3 ∧ (mK μ a3 = 40 ∧ (vp_in x2 (mN μ a3) ∧ (∃ a7, (mB μ a3 x2.toNatClampNeg) = some a7 ∧ (mK μ a7 = 6 ∧ (K4 (x1 + (mI μ 165 a7)) (x2 + nI 1))))))))))
def w_X8_messagesInInboxes_l4 (G : mgT) (μ : mmT) (o : Nat) (Q : Int32 → Prop) : Nat → Int32 → Int32 → Prop
  | 0 => fun _ _ => False
  | n + 1 => fun x1 x2 => w_X8_messagesInInboxes_b4 G μ o Q  (w_X8_messagesInInboxes_l4 G μ o Q  n) x1 x2
def w_X8_messagesInInboxes (G : mgT) (μ : mmT) (o : Nat) (Q : Int32 → Prop) : Prop :=
  (∃ n, w_X8_messagesInInboxes_l4 G μ o Q  n (nI 0) (nI 0))
def w_X9_existing (G : mgT) (μ : mmT) (o : Nat) (Q : Int32 → Prop) : Prop :=
  (mK μ o = 9 ∧ (Q (((((mI μ 256 o) - (mI μ 258 o)) - (mI μ 259 o)) - (mI μ 260 o)) - (mI μ 261 o))))
def w_J5_init_d00df (G : mgT) (μ : mmT) (z : Nat) (o : Nat) (Q : mmT → Nat → Prop) : Prop :=
  (¬ (1 : Int32) = 0 ∧ (mK (nA μ z 0 16) o = 1 ∧ (mK (sR (nA μ z 0 16) 0 o (some z)) o = 1 ∧ (Q (sI (sR (nA μ z 0 16) 0 o (some z)) 1 o (nI 0)) (z + 1)))))
def w_J4_init_da8c8 (G : mgT) (μ : mmT) (z : Nat) (o : Nat) (Q : mmT → Nat → Prop) : Prop :=
  (mK μ o = 1 ∧ (w_J5_init_d00df G μ z o (fun μ2 z3 => (Q μ2 z3))))
def w_X10_init (G : mgT) (μ : mmT) (z : Nat) (o : Nat) (Q : mmT → Nat → Prop) : Prop :=
  (mK (nO μ z 7) z = 8 ∧ (w_X8_init G (nO μ z 7) (z + 1) z (fun μ2 z3 => (mK μ2 o = 10 ∧ (mK (nO (sR μ2 288 o (some z)) z3 7) z3 = 8 ∧ (w_X8_init G (nO (sR μ2 288 o (some z)) z3 7) (z3 + 1) z3 (fun μ6 z7 => (mK μ6 o = 10 ∧ (mK (nO (sR μ6 289 o (some z3)) z7 7) z7 = 8 ∧ (w_X8_init G (nO (sR μ6 289 o (some z3)) z7 7) (z7 + 1) z7 (fun μ10 z11 => (mK μ10 o = 10 ∧ (mK (nO (sR μ10 290 o (some z7)) z11 7) z11 = 8 ∧ (w_X8_init G (nO (sR μ10 290 o (some z7)) z11 7) (z11 + 1) z11 (fun μ14 z15 => (mK μ14 o = 10 ∧ (mK (nO (sR μ14 291 o (some z11)) z15 3) z15 = 4 ∧ (w_X4_init G (nO (sR μ14 291 o (some z11)) z15 3) (z15 + 1) z15 (fun μ18 z19 => (mK μ18 o = 10 ∧ (mK (nO (sR μ18 292 o (some z15)) z19 6) z19 = 7 ∧ (w_X7_init G (nO (sR μ18 292 o (some z15)) z19 6) (z19 + 1) z19 (fun μ22 z23 => (mK μ22 o = 10 ∧ (mK (nO (sR μ22 293 o (some z19)) z23 0) z23 = 1 ∧ (w_J4_init_da8c8 G (nO (sR μ22 293 o (some z19)) z23 0) (z23 + 1) z23 (fun μ26 z27 => (mK μ26 o = 10 ∧ (mK (sR μ26 294 o (some z23)) o = 10 ∧ (mK (sI (sR μ26 294 o (some z23)) 295 o (nI 0)) o = 10 ∧ (mK (sI (sI (sR μ26 294 o (some z23)) 295 o (nI 0)) 296 o (-1)) o = 10 ∧ (Q (sI (sI (sI (sR μ26 294 o (some z23)) 295 o (nI 0)) 296 o (-1)) 297 o (-1)) z27))))))))))))))))))))))))))))))))
def w_X10_settle (G : mgT) (μ : mmT) (o : Nat) (x1 : Int32) (Q : Int32 → mmT → Prop) (X : String → mmT → Prop) : Prop :=
  ((¬ x1 = (-1) → ((¬ x1 = (-2) → ((¬ x1 = (-3) → ((¬ x1 = (-4) → (mK μ o = 10 ∧ (∃ a6, (mR μ 292 o) = some a6 ∧ (mK μ a6 = 4 ∧ (w_X4_remember G μ a6 (mR μ 289 o) (fun μ9 => (Q x1 μ9))))))) ∧ (x1 = (-4) → (X "java/util/NoSuchElementException" μ)))) ∧ (x1 = (-3) → (X "java/lang/IndexOutOfBoundsException" μ)))) ∧ (x1 = (-2) → (X "java/lang/IllegalStateException" μ)))) ∧ (x1 = (-1) → (X "java/lang/IllegalArgumentException" μ)))
def w_X10_addNest (G : mgT) (μ : mmT) (o : Nat) (x1 : Int32) (x2 : Int32) (Q : Int32 → mmT → Prop) (X : String → mmT → Prop) : Prop :=
  (mK μ o = 10 ∧ (∃ a2, (mR μ 289 o) = some a2 ∧ (mK μ a2 = 8 ∧ (w_X8_copyFrom G μ a2 (mR μ 288 o) (fun μ5 => (mK μ5 o = 10 ∧ (∃ a7, (mR μ5 288 o) = some a7 ∧ (mK μ5 a7 = 8 ∧ (w_X8_openNest G μ5 a7 x1 x2 (fun u10 μ11 => (mK μ11 o = 10 ∧ (w_X10_settle G μ11 o u10 (fun u13 μ14 => (Q u13 μ14)) X))))))))))))
def w_X10_addCrow (G : mgT) (μ : mmT) (o : Nat) (Q : Int32 → mmT → Prop) (X : String → mmT → Prop) : Prop :=
  (mK μ o = 10 ∧ (∃ a2, (mR μ 289 o) = some a2 ∧ (mK μ a2 = 8 ∧ (w_X8_copyFrom G μ a2 (mR μ 288 o) (fun μ5 => (mK μ5 o = 10 ∧ (∃ a7, (mR μ5 288 o) = some a7 ∧ (mK μ5 a7 = 8 ∧ (w_X8_hireCrow G μ5 a7 (fun u10 μ11 => (mK μ11 o = 10 ∧ (w_X10_settle G μ11 o u10 (fun u13 μ14 => (Q u13 μ14)) X))))))))))))
def w_X10_publish (G : mgT) (μ : mmT) (o : Nat) (x1 : Int32) (x2 : Int32) (Q : Int32 → mmT → Prop) (X : String → mmT → Prop) : Prop :=
  (mK μ o = 10 ∧ (∃ a2, (mR μ 289 o) = some a2 ∧ (mK μ a2 = 8 ∧ (w_X8_copyFrom G μ a2 (mR μ 288 o) (fun μ5 => (mK μ5 o = 10 ∧ (∃ a7, (mR μ5 288 o) = some a7 ∧ (mK μ5 a7 = 8 ∧ (w_X8_post G μ5 a7 x1 x2 (fun u10 μ11 => (mK μ11 o = 10 ∧ (w_X10_settle G μ11 o u10 (fun u13 μ14 => (Q u13 μ14)) X))))))))))))
def w_X10_read (G : mgT) (μ : mmT) (o : Nat) (x1 : Int32) (Q : Int32 → mmT → Prop) (X : String → mmT → Prop) : Prop :=
  (mK μ o = 10 ∧ (∃ a2, (mR μ 289 o) = some a2 ∧ (mK μ a2 = 8 ∧ (w_X8_copyFrom G μ a2 (mR μ 288 o) (fun μ5 => (mK μ5 o = 10 ∧ (∃ a7, (mR μ5 288 o) = some a7 ∧ (mK μ5 a7 = 8 ∧ (w_X8_handOver G μ5 a7 x1 (fun u10 μ11 => (mK μ11 o = 10 ∧ (w_X10_settle G μ11 o u10 (fun u13 μ14 => (Q u13 μ14)) X))))))))))))
def w_X10_cancel (G : mgT) (μ : mmT) (o : Nat) (x1 : Int32) (Q : Int32 → mmT → Prop) (X : String → mmT → Prop) : Prop :=
  (mK μ o = 10 ∧ (∃ a2, (mR μ 289 o) = some a2 ∧ (mK μ a2 = 8 ∧ (w_X8_copyFrom G μ a2 (mR μ 288 o) (fun μ5 => (mK μ5 o = 10 ∧ (∃ a7, (mR μ5 288 o) = some a7 ∧ (mK μ5 a7 = 8 ∧ (w_X8_withdraw G μ5 a7 x1 (fun u10 μ11 => (mK μ11 o = 10 ∧ (w_X10_settle G μ11 o u10 (fun u13 μ14 => (Q u13 μ14)) X))))))))))))
def w_X10_setWind (G : mgT) (μ : mmT) (o : Nat) (x1 : Int32) (Q : Int32 → mmT → Prop) (X : String → mmT → Prop) : Prop :=
  (mK μ o = 10 ∧ (∃ a2, (mR μ 289 o) = some a2 ∧ (mK μ a2 = 8 ∧ (w_X8_copyFrom G μ a2 (mR μ 288 o) (fun μ5 => (mK μ5 o = 10 ∧ (∃ a7, (mR μ5 288 o) = some a7 ∧ (mK μ5 a7 = 8 ∧ (w_X8_turnWind G μ5 a7 x1 (fun u10 μ11 => (mK μ11 o = 10 ∧ (w_X10_settle G μ11 o u10 (fun u13 μ14 => (Q u13 μ14)) X))))))))))))
def w_X10_forget (G : mgT) (μ : mmT) (o : Nat) (x1 : Int32) (Q : Int32 → mmT → Prop) (X : String → mmT → Prop) : Prop :=
  (mK μ o = 10 ∧ (∃ a2, (mR μ 289 o) = some a2 ∧ (mK μ a2 = 8 ∧ (w_X8_copyFrom G μ a2 (mR μ 288 o) (fun μ5 => (mK μ5 o = 10 ∧ (∃ a7, (mR μ5 288 o) = some a7 ∧ (mK μ5 a7 = 8 ∧ (w_X8_clearKeys G μ5 a7 x1 (fun u10 μ11 => (mK μ11 o = 10 ∧ (w_X10_settle G μ11 o u10 (fun u13 μ14 => (Q u13 μ14)) X))))))))))))
def w_X10_advance (G : mgT) (μ : mmT) (o : Nat) (x1 : Int32) (Q : Int32 → mmT → Prop) (X : String → mmT → Prop) : Prop :=
  (mK μ o = 10 ∧ (∃ a2, (mR μ 289 o) = some a2 ∧ (mK μ a2 = 8 ∧ (w_X8_copyFrom G μ a2 (mR μ 288 o) (fun μ5 => (mK μ5 o = 10 ∧ (∃ a7, (mR μ5 288 o) = some a7 ∧ (mK μ5 a7 = 8 ∧ (w_X8_pass G μ5 a7 x1 (fun u10 μ11 => (mK μ11 o = 10 ∧ (w_X10_settle G μ11 o u10 (fun u13 μ14 => (Q u13 μ14)) X))))))))))))
def w_X10_nestCount (G : mgT) (μ : mmT) (o : Nat) (Q : Int32 → Prop) : Prop :=
  (mK μ o = 10 ∧ (∃ a2, (mR μ 288 o) = some a2 ∧ (mK μ a2 = 8 ∧ (Q (mI μ 228 a2)))))
def w_X10_existingNest (G : mgT) (μ : mmT) (o : Nat) (x1 : Int32) (Q : Option Nat → Prop) (X : String → Prop) : Prop :=
  (mK μ o = 10 ∧ (∃ a2, (mR μ 288 o) = some a2 ∧ (mK μ a2 = 8 ∧ (w_X8_nestAt G μ a2 x1 (fun ru5 => ((ru5 = none → (X "java/lang/IndexOutOfBoundsException")) ∧ (∀ a6, ru5 = some a6 → (Q ru5))))))))
def w_X10_distance (G : mgT) (μ : mmT) (o : Nat) (x1 : Int32) (Q : Int32 → Prop) (X : String → Prop) : Prop :=
  (mK μ o = 10 ∧ (w_X10_existingNest G μ o x1 (fun ru2 => (∃ a3, ru2 = some a3 ∧ (mK μ a3 = 6 ∧ (Q (mI μ 162 a3))))) X))
def w_X10_loss (G : mgT) (μ : mmT) (o : Nat) (x1 : Int32) (Q : Int32 → Prop) (X : String → Prop) : Prop :=
  (mK μ o = 10 ∧ (w_X10_existingNest G μ o x1 (fun ru2 => (∃ a3, ru2 = some a3 ∧ (mK μ a3 = 6 ∧ (Q (mI μ 163 a3))))) X))
def w_X10_inboxSize (G : mgT) (μ : mmT) (o : Nat) (x1 : Int32) (Q : Int32 → Prop) (X : String → Prop) : Prop :=
  (mK μ o = 10 ∧ (w_X10_existingNest G μ o x1 (fun ru2 => (∃ a3, ru2 = some a3 ∧ (mK μ a3 = 6 ∧ (Q (mI μ 165 a3))))) X))
def w_X10_inboxMessage_b18 (G : mgT) (μ : mmT) (o : Nat) (Q : Int32 → Prop) (X : String → Prop) : Prop :=
  (X "java/util/NoSuchElementException")
def w_X10_inboxMessage (G : mgT) (μ : mmT) (o : Nat) (x1 : Int32) (x2 : Int32) (Q : Int32 → Prop) (X : String → Prop) : Prop :=
  (mK μ o = 10 ∧ (w_X10_existingNest G μ o x1 (fun ru2 => ((x2 < 0 → (w_X10_inboxMessage_b18 G μ o Q X  )) ∧ (¬ x2 < 0 → (∃ a4, ru2 = some a4 ∧ (mK μ a4 = 6 ∧ ((x2 < (mI μ 165 a4) → (∃ a8, (mR μ 160 a4) = some a8 ∧ (mK μ a8 = 34 ∧ (vp_in x2 (mN μ a8) ∧ (Q (mA μ a8 x2.toNatClampNeg)))))) ∧ (¬ x2 < (mI μ 165 a4) → (w_X10_inboxMessage_b18 G μ o Q X  )))))))) X))
def w_X10_remembers (G : mgT) (μ : mmT) (o : Nat) (x1 : Int32) (x2 : Int32) (Q : Int32 → Prop) (X : String → Prop) : Prop :=
  (mK μ o = 10 ∧ (w_X10_existingNest G μ o x1 (fun ru2 => (∃ a3, ru2 = some a3 ∧ (mK μ a3 = 6 ∧ (w_X6_knows G μ a3 x2 (fun u6 => ((u6 = 0 ∨ u6 = 1) ∧ (Q u6))))))) X))
def w_X10_rememberedCount (G : mgT) (μ : mmT) (o : Nat) (x1 : Int32) (Q : Int32 → Prop) (X : String → Prop) : Prop :=
  (mK μ o = 10 ∧ (w_X10_existingNest G μ o x1 (fun ru2 => (∃ a3, ru2 = some a3 ∧ (mK μ a3 = 6 ∧ (Q (mI μ 166 a3))))) X))
def w_X10_nestByDeliveries (G : mgT) (μ : mmT) (o : Nat) (x1 : Int32) (Q : Int32 → Prop) (X : String → Prop) : Prop :=
  (mK μ o = 10 ∧ (∃ a2, (mR μ 288 o) = some a2 ∧ (mK μ a2 = 8 ∧ (w_X8_nestAtRank G μ a2 x1 (fun u5 => ((¬ u5 = (-1) → (Q u5)) ∧ (u5 = (-1) → (X "java/util/NoSuchElementException"))))))))
def w_X10_crowCount (G : mgT) (μ : mmT) (o : Nat) (Q : Int32 → Prop) : Prop :=
  (mK μ o = 10 ∧ (∃ a2, (mR μ 288 o) = some a2 ∧ (mK μ a2 = 8 ∧ (Q (mI μ 229 a2)))))
def w_X10_existingCrow (G : mgT) (μ : mmT) (o : Nat) (x1 : Int32) (Q : Option Nat → Prop) (X : String → Prop) : Prop :=
  (mK μ o = 10 ∧ (∃ a2, (mR μ 288 o) = some a2 ∧ (mK μ a2 = 8 ∧ (w_X8_crowAt G μ a2 x1 (fun ru5 => ((ru5 = none → (X "java/lang/IndexOutOfBoundsException")) ∧ (∀ a6, ru5 = some a6 → (Q ru5))))))))
def w_X10_isFlying (G : mgT) (μ : mmT) (o : Nat) (x1 : Int32) (Q : Int32 → Prop) (X : String → Prop) : Prop :=
  (mK μ o = 10 ∧ (w_X10_existingCrow G μ o x1 (fun ru2 => (∃ a3, ru2 = some a3 ∧ (mK μ a3 = 3 ∧ (((mI μ 64 a3) = 0 ∨ (mI μ 64 a3) = 1) ∧ (Q (mI μ 64 a3)))))) X))
def w_X10_carriedMessage (G : mgT) (μ : mmT) (o : Nat) (x1 : Int32) (Q : Int32 → Prop) (X : String → Prop) : Prop :=
  (mK μ o = 10 ∧ (w_X10_existingCrow G μ o x1 (fun ru2 => (∃ a3, ru2 = some a3 ∧ (mK μ a3 = 3 ∧ ((¬ (mI μ 64 a3) = 0 → (Q (mI μ 65 a3))) ∧ ((mI μ 64 a3) = 0 → (X "java/util/NoSuchElementException")))))) X))
def w_X10_flightMinutes_b29 (G : mgT) (μ : mmT) (o : Nat) (Q : Int32 → Prop) (X : String → Prop) (s0 : Int32) : Prop :=
  (Q s0)
def w_X10_flightMinutes (G : mgT) (μ : mmT) (o : Nat) (x1 : Int32) (Q : Int32 → Prop) (X : String → Prop) : Prop :=
  (mK μ o = 10 ∧ (w_X10_existingCrow G μ o x1 (fun ru2 => (∃ a3, ru2 = some a3 ∧ (mK μ a3 = 3 ∧ (((mI μ 64 a3) = 0 → (w_X10_flightMinutes_b29 G μ o Q X  (nI 0))) ∧ (¬ (mI μ 64 a3) = 0 → (∃ a7, (mR μ 288 o) = some a7 ∧ (mK μ a7 = 8 ∧ (w_X10_flightMinutes_b29 G μ o Q X  ((mI μ 66 a3) - (mI μ 231 a7)))))))))) X))
def w_X10_messageCount (G : mgT) (μ : mmT) (o : Nat) (Q : Int32 → Prop) : Prop :=
  (mK μ o = 10 ∧ (∃ a2, (mR μ 288 o) = some a2 ∧ (mK μ a2 = 8 ∧ (Q (mI μ 230 a2)))))
def w_X10_messageAt_b15 (G : mgT) (μ : mmT) (o : Nat) (Q : Int32 → Prop) (X : String → Prop) : Prop :=
  (X "java/util/NoSuchElementException")
def w_X10_messageAt (G : mgT) (μ : mmT) (o : Nat) (x1 : Int32) (Q : Int32 → Prop) (X : String → Prop) : Prop :=
  ((x1 < 0 → (w_X10_messageAt_b15 G μ o Q X  )) ∧ (¬ x1 < 0 → (mK μ o = 10 ∧ (∃ a3, (mR μ 288 o) = some a3 ∧ (mK μ a3 = 8 ∧ ((x1 < (mI μ 230 a3) → (∃ a7, (mR μ 226 a3) = some a7 ∧ (mK μ a7 = 39 ∧ (vp_in x1 (mN μ a7) ∧ (∃ a11, (mB μ a7 x1.toNatClampNeg) = some a11 ∧ (mK μ a11 = 5 ∧ (Q (mI μ 128 a11)))))))) ∧ (¬ x1 < (mI μ 230 a3) → (w_X10_messageAt_b15 G μ o Q X  ))))))))
def w_X10_existingMessage (G : mgT) (μ : mmT) (o : Nat) (x1 : Int32) (Q : Option Nat → Prop) (X : String → Prop) : Prop :=
  (mK μ o = 10 ∧ (∃ a2, (mR μ 288 o) = some a2 ∧ (mK μ a2 = 8 ∧ (w_X8_messageWith G μ a2 x1 (fun ru5 => ((ru5 = none → (X "java/util/NoSuchElementException")) ∧ (∀ a6, ru5 = some a6 → (Q ru5))))))))
def w_X10_nestOf (G : mgT) (μ : mmT) (o : Nat) (x1 : Int32) (Q : Int32 → Prop) (X : String → Prop) : Prop :=
  (mK μ o = 10 ∧ (w_X10_existingMessage G μ o x1 (fun ru2 => (∃ a3, ru2 = some a3 ∧ (mK μ a3 = 5 ∧ (Q (mI μ 129 a3))))) X))
def w_X10_keyOf (G : mgT) (μ : mmT) (o : Nat) (x1 : Int32) (Q : Int32 → Prop) (X : String → Prop) : Prop :=
  (mK μ o = 10 ∧ (w_X10_existingMessage G μ o x1 (fun ru2 => (∃ a3, ru2 = some a3 ∧ (mK μ a3 = 5 ∧ (Q (mI μ 130 a3))))) X))
def w_X10_attempts (G : mgT) (μ : mmT) (o : Nat) (x1 : Int32) (Q : Int32 → Prop) (X : String → Prop) : Prop :=
  (mK μ o = 10 ∧ (w_X10_existingMessage G μ o x1 (fun ru2 => (∃ a3, ru2 = some a3 ∧ (mK μ a3 = 5 ∧ (Q (mI μ 131 a3))))) X))
def w_X10_status (G : mgT) (μ : mmT) (o : Nat) (x1 : Int32) (Q : Int32 → Prop) (X : String → Prop) : Prop :=
  (mK μ o = 10 ∧ (w_X10_existingMessage G μ o x1 (fun ru2 => (∃ a3, ru2 = some a3 ∧ (mK μ a3 = 5 ∧ (isCh (mI μ 132 a3) ∧ (Q (mI μ 132 a3)))))) X))
def w_X10_napMinutes (G : mgT) (μ : mmT) (o : Nat) (x1 : Int32) (Q : Int32 → Prop) (X : String → Prop) : Prop :=
  (mK μ o = 10 ∧ (w_X10_existingMessage G μ o x1 (fun ru2 => (∃ a3, ru2 = some a3 ∧ (mK μ a3 = 5 ∧ (((mI μ 132 a3) = (nI 110) → (∃ a7, (mR μ 288 o) = some a7 ∧ (mK μ a7 = 8 ∧ (Q ((mI μ 133 a3) - (mI μ 231 a7)))))) ∧ (¬ (mI μ 132 a3) = (nI 110) → (X "java/lang/IllegalStateException")))))) X))
def w_X10_waitingMessage (G : mgT) (μ : mmT) (o : Nat) (x1 : Int32) (Q : Int32 → Prop) (X : String → Prop) : Prop :=
  (mK μ o = 10 ∧ (∃ a2, (mR μ 288 o) = some a2 ∧ (mK μ a2 = 8 ∧ (w_X8_waitingAtRank G μ a2 x1 (fun ru5 => ((ru5 = none → (X "java/util/NoSuchElementException")) ∧ (∀ a6, ru5 = some a6 → (mK μ a6 = 5 ∧ (Q (mI μ 128 a6))))))))))
def w_X10_wouldBeLost (G : mgT) (μ : mmT) (o : Nat) (x1 : Int32) (Q : Int32 → Prop) (X : String → Prop) : Prop :=
  (mK μ o = 10 ∧ (w_X10_existingMessage G μ o x1 (fun ru2 => (∃ a3, ru2 = some a3 ∧ (mK μ a3 = 5 ∧ ((¬ (mI μ 132 a3) = (nI 100) → (∃ a7, (mR μ 288 o) = some a7 ∧ (mK μ a7 = 8 ∧ (w_X8_isLost G μ a7 ru2 ((mI μ 131 a3) + (nI 1)) (fun u10 => ((u10 = 0 ∨ u10 = 1) ∧ (Q u10))))))) ∧ ((mI μ 132 a3) = (nI 100) → (X "java/lang/IllegalStateException")))))) X))
def w_X10_napLength_b10 (G : mgT) (μ : mmT) (o : Nat) (Q : Int64 → Prop) (X : String → Prop) : Prop :=
  (X "java/lang/IllegalArgumentException")
def w_X10_napLength (G : mgT) (μ : mmT) (o : Nat) (x1 : Int32) (Q : Int64 → Prop) (X : String → Prop) : Prop :=
  ((x1 < 0 → (w_X10_napLength_b10 G μ o Q X  )) ∧ (¬ x1 < 0 → ((x1 ≤ (nI 40) → (w_X10_shiftedNap G μ x1 (fun u3 => (Q u3)))) ∧ (¬ x1 ≤ (nI 40) → (w_X10_napLength_b10 G μ o Q X  )))))
def w_X10_doubledNap_b4 (G : mgT) (μ : mmT) (Q : Int64 → Prop) (K4 : Int32 → Int64 → Int32 → Prop) (x0 : Int32) (x1 : Int64) (x3 : Int32) : Prop :=
  ((x0 ≤ x3 → (Q x1)) ∧ (¬ x0 ≤ x3 → (K4 x0 (x1 + x1) (x3 + nI 1))))
def w_X10_doubledNap_l4 (G : mgT) (μ : mmT) (Q : Int64 → Prop) : Nat → Int32 → Int64 → Int32 → Prop
  | 0 => fun _ _ _ => False
  | n + 1 => fun x0 x1 x3 => w_X10_doubledNap_b4 G μ Q  (w_X10_doubledNap_l4 G μ Q  n) x0 x1 x3
def w_X10_doubledNap (G : mgT) (μ : mmT) (x0 : Int32) (Q : Int64 → Prop) : Prop :=
  (∃ n, w_X10_doubledNap_l4 G μ Q  n x0 (lN 1) (nI 0))
def w_X10_napLengthByDoubling_b10 (G : mgT) (μ : mmT) (o : Nat) (Q : Int64 → Prop) (X : String → Prop) : Prop :=
  (X "java/lang/IllegalArgumentException")
def w_X10_napLengthByDoubling (G : mgT) (μ : mmT) (o : Nat) (x1 : Int32) (Q : Int64 → Prop) (X : String → Prop) : Prop :=
  ((x1 < 0 → (w_X10_napLengthByDoubling_b10 G μ o Q X  )) ∧ (¬ x1 < 0 → ((x1 ≤ (nI 40) → (w_X10_doubledNap G μ x1 (fun u3 => (Q u3)))) ∧ (¬ x1 ≤ (nI 40) → (w_X10_napLengthByDoubling_b10 G μ o Q X  )))))
def w_X10_foreseenMinutes_b13 (G : mgT) (o : Nat) (Q : Int32 → mmT → Prop) (K13 : Int32 → Int32 → mmT → Prop) (x1 : Int32) (x2 : Int32) (μ : mmT) : Prop :=
  (((nI 100) < x2 → (Q (-1) μ)) ∧ (¬ (nI 100) < x2 → (mK μ o = 10 ∧ (∃ a8, (mR μ 290 o) = some a8 ∧ (mK μ a8 = 8 ∧ (w_X8_pass G μ a8 (nI 1) (fun u11 μ12 => (mK μ12 o = 10 ∧ (∃ a14, (mR μ12 290 o) = some a14 ∧ (mK μ12 a14 = 8 ∧ (w_X8_messageWith G μ12 a14 x1 (fun ru17 => ((ru17 = none → (Q (-1) μ12)) ∧ (∀ a18, ru17 = some a18 → (mK μ12 a18 = 5 ∧ ((¬ (mI μ12 132 a18) = (nI 100) → (K13 x1 (x2 + nI 1) μ12)) ∧ ((mI μ12 132 a18) = (nI 100) → (Q x2 μ12))))))))))))))))))
def w_X10_foreseenMinutes_l13 (G : mgT) (o : Nat) (Q : Int32 → mmT → Prop) : Nat → Int32 → Int32 → mmT → Prop
  | 0 => fun _ _ _ => False
  | n + 1 => fun x1 x2 μ => w_X10_foreseenMinutes_b13 G o Q  (w_X10_foreseenMinutes_l13 G o Q  n) x1 x2 μ
def w_X10_foreseenMinutes (G : mgT) (μ : mmT) (o : Nat) (x1 : Int32) (Q : Int32 → mmT → Prop) : Prop :=
  (mK μ o = 10 ∧ (∃ a2, (mR μ 290 o) = some a2 ∧ (mK μ a2 = 8 ∧ (w_X8_copyFrom G μ a2 (mR μ 288 o) (fun μ5 => (∃ n, w_X10_foreseenMinutes_l13 G o Q  n x1 (nI 1) μ5))))))
def w_X10_minutesUntilDelivered (G : mgT) (μ : mmT) (o : Nat) (x1 : Int32) (Q : Int32 → mmT → Prop) (X : String → mmT → Prop) : Prop :=
  (mK μ o = 10 ∧ (w_X10_existingMessage G μ o x1 (fun ru2 => (∃ a3, ru2 = some a3 ∧ (mK μ a3 = 5 ∧ ((¬ (mI μ 132 a3) = (nI 100) → (w_X10_foreseenMinutes G μ o x1 (fun u7 μ8 => ((¬ u7 = (-1) → (Q u7 μ8)) ∧ (u7 = (-1) → (X "java/lang/IllegalStateException" μ8)))))) ∧ ((mI μ 132 a3) = (nI 100) → (X "java/lang/IllegalStateException" μ)))))) (fun E => X E μ)))
def w_X10_time (G : mgT) (μ : mmT) (o : Nat) (Q : Int32 → Prop) : Prop :=
  (mK μ o = 10 ∧ (∃ a2, (mR μ 288 o) = some a2 ∧ (mK μ a2 = 8 ∧ (Q (mI μ 231 a2)))))
def w_X10_wind (G : mgT) (μ : mmT) (o : Nat) (Q : Int32 → Prop) : Prop :=
  (mK μ o = 10 ∧ (∃ a2, (mR μ 288 o) = some a2 ∧ (mK μ a2 = 8 ∧ (Q (mI μ 232 a2)))))
def w_X10_publishedTotal (G : mgT) (μ : mmT) (o : Nat) (Q : Int32 → Prop) : Prop :=
  (mK μ o = 10 ∧ (∃ a2, (mR μ 288 o) = some a2 ∧ (mK μ a2 = 8 ∧ (∃ a5, (mR μ 227 a2) = some a5 ∧ (mK μ a5 = 9 ∧ (Q (mI μ 256 a5)))))))
def w_X10_deliveredTotal (G : mgT) (μ : mmT) (o : Nat) (Q : Int32 → Prop) : Prop :=
  (mK μ o = 10 ∧ (∃ a2, (mR μ 288 o) = some a2 ∧ (mK μ a2 = 8 ∧ (∃ a5, (mR μ 227 a2) = some a5 ∧ (mK μ a5 = 9 ∧ (Q (mI μ 257 a5)))))))
def w_X10_readTotal (G : mgT) (μ : mmT) (o : Nat) (Q : Int32 → Prop) : Prop :=
  (mK μ o = 10 ∧ (∃ a2, (mR μ 288 o) = some a2 ∧ (mK μ a2 = 8 ∧ (∃ a5, (mR μ 227 a2) = some a5 ∧ (mK μ a5 = 9 ∧ (Q (mI μ 258 a5)))))))
def w_X10_duplicateTotal (G : mgT) (μ : mmT) (o : Nat) (Q : Int32 → Prop) : Prop :=
  (mK μ o = 10 ∧ (∃ a2, (mR μ 288 o) = some a2 ∧ (mK μ a2 = 8 ∧ (∃ a5, (mR μ 227 a2) = some a5 ∧ (mK μ a5 = 9 ∧ (Q (mI μ 259 a5)))))))
def w_X10_failedTotal (G : mgT) (μ : mmT) (o : Nat) (Q : Int32 → Prop) : Prop :=
  (mK μ o = 10 ∧ (∃ a2, (mR μ 288 o) = some a2 ∧ (mK μ a2 = 8 ∧ (∃ a5, (mR μ 227 a2) = some a5 ∧ (mK μ a5 = 9 ∧ (Q (mI μ 260 a5)))))))
def w_X10_arrivalTotal (G : mgT) (μ : mmT) (o : Nat) (Q : Int32 → Prop) : Prop :=
  (mK μ o = 10 ∧ (∃ a2, (mR μ 288 o) = some a2 ∧ (mK μ a2 = 8 ∧ (∃ a5, (mR μ 227 a2) = some a5 ∧ (mK μ a5 = 9 ∧ (Q (mI μ 262 a5)))))))
def w_X10_messageCountByTotals (G : mgT) (μ : mmT) (o : Nat) (Q : Int32 → Prop) : Prop :=
  (mK μ o = 10 ∧ (∃ a2, (mR μ 288 o) = some a2 ∧ (mK μ a2 = 8 ∧ (∃ a5, (mR μ 227 a2) = some a5 ∧ (mK μ a5 = 9 ∧ (w_X9_existing G μ a5 (fun u8 => (Q u8))))))))
def w_X10_meanOfAttempts (G : mgT) (μ : mmT) (o : Nat) (Q : UInt64 → Prop) : Prop :=
  (mK μ o = 10 ∧ (∃ a2, (mR μ 288 o) = some a2 ∧ (mK μ a2 = 8 ∧ (w_X8_sumOfAttempts G μ a2 (fun u5 => (vf_n64 (FP.ddiv (FP.i2d u5) (FP.i2d (mI μ 230 a2))) ∧ (Q (FP.ddiv (FP.i2d u5) (FP.i2d (mI μ 230 a2))))))))))
def w_X10_meanAttempts (G : mgT) (μ : mmT) (o : Nat) (Q : UInt64 → Prop) (X : String → Prop) : Prop :=
  (mK μ o = 10 ∧ (∃ a2, (mR μ 288 o) = some a2 ∧ (mK μ a2 = 8 ∧ ((¬ (mI μ 230 a2) = 0 → (w_X10_meanOfAttempts G μ o (fun u6 => (Q u6)))) ∧ ((mI μ 230 a2) = 0 → (X "java/lang/ArithmeticException"))))))
def w_X10_bitsOf_b86 (G : mgT) (μ : mmT) (Q : Int64 → Prop) (x2 : Int32) (x3 : Int32) (x4 : UInt64) (x6 : Int32) : Prop :=
  (vf_n64 (FP.dsub x4 FP.dconst1) ∧ (vf_n64 (FP.dmul (FP.dsub x4 FP.dconst1) (FP.l2d ((lN 1) <<< (x2.toInt64 &&& 63)))) ∧ (Q (((x6 + x3).toInt64 <<< (x2.toInt64 &&& 63)) + (FP.d2l (FP.dmul (FP.dsub x4 FP.dconst1) (FP.l2d ((lN 1) <<< (x2.toInt64 &&& 63)))))))))
def w_X10_bitsOf_b54 (G : mgT) (μ : mmT) (Q : Int64 → Prop) (K54 : Int32 → Int32 → UInt64 → Int32 → Int32 → Prop) (x2 : Int32) (x3 : Int32) (x4 : UInt64) (x6 : Int32) (x7 : Int32) : Prop :=
  (((nI 1100) ≤ x7 → (w_X10_bitsOf_b86 G μ Q  x2 x3 x4 x6)) ∧ (¬ (nI 1100) ≤ x7 → ((0 ≤ (Op.cmpValue (FP.dcmp x4 FP.dconst1) .g) → (w_X10_bitsOf_b86 G μ Q  x2 x3 x4 x6)) ∧ (¬ 0 ≤ (Op.cmpValue (FP.dcmp x4 FP.dconst1) .g) → (vf_n64 (FP.dmul x4 (4611686018427387904 : UInt64)) ∧ (K54 x2 x3 (FP.dmul x4 (4611686018427387904 : UInt64)) (x6 + (-1)) (x7 + nI 1)))))))
def w_X10_litsOf_l54 (G : mgT) (μ : mmT) (Q : Int64 → Prop) : Nat → Int32 → Int32 → UInt64 → Int32 → Int32 → Prop
  | 0 => fun _ _ _ _ _ => False
  | n + 1 => fun x2 x3 x4 x6 x7 => w_X10_bitsOf_b54 G μ Q  (w_X10_litsOf_l54 G μ Q  n) x2 x3 x4 x6 x7
def w_X10_bitsOf_b51 (G : mgT) (μ : mmT) (Q : Int64 → Prop) (x2 : Int32) (x3 : Int32) (x4 : UInt64) (x6 : Int32) : Prop :=
  (∃ n, w_X10_litsOf_l54 G μ Q  n x2 x3 x4 x6 (nI 0))
def w_X10_bitsOf_b17 (G : mgT) (μ : mmT) (Q : Int64 → Prop) (K17 : Int32 → Int32 → UInt64 → Int32 → Int32 → Prop) (x2 : Int32) (x3 : Int32) (x4 : UInt64) (x6 : Int32) (x7 : Int32) : Prop :=
  (((nI 1100) ≤ x7 → (w_X10_bitsOf_b51 G μ Q  x2 x3 x4 x6)) ∧ (¬ (nI 1100) ≤ x7 → (((Op.cmpValue (FP.dcmp x4 (4611686018427387904 : UInt64)) .l) < 0 → (w_X10_bitsOf_b51 G μ Q  x2 x3 x4 x6)) ∧ (¬ (Op.cmpValue (FP.dcmp x4 (4611686018427387904 : UInt64)) .l) < 0 → (vf_n64 (FP.ddiv x4 (4611686018427387904 : UInt64)) ∧ (K17 x2 x3 (FP.ddiv x4 (4611686018427387904 : UInt64)) (x6 + nI 1) (x7 + nI 1)))))))
def w_X10_litsOf_l17 (G : mgT) (μ : mmT) (Q : Int64 → Prop) : Nat → Int32 → Int32 → UInt64 → Int32 → Int32 → Prop
  | 0 => fun _ _ _ _ _ => False
  | n + 1 => fun x2 x3 x4 x6 x7 => w_X10_bitsOf_b17 G μ Q  (w_X10_litsOf_l17 G μ Q  n) x2 x3 x4 x6 x7
def w_X10_bitsOf (G : mgT) (μ : mmT) (x0 : UInt64) (x2 : Int32) (x3 : Int32) (Q : Int64 → Prop) : Prop :=
  ((0 < (Op.cmpValue (FP.dcmp x0 FP.dconst0) .g) → (∃ n, w_X10_litsOf_l17 G μ Q  n x2 x3 x0 (nI 0) (nI 0))) ∧ (¬ 0 < (Op.cmpValue (FP.dcmp x0 FP.dconst0) .g) → (Q (lN 0))))
def w_X10_meanAttemptsBits (G : mgT) (μ : mmT) (o : Nat) (Q : Int64 → Prop) (X : String → Prop) : Prop :=
  (mK μ o = 10 ∧ (∃ a2, (mR μ 288 o) = some a2 ∧ (mK μ a2 = 8 ∧ ((¬ (mI μ 230 a2) = 0 → (w_X10_meanOfAttempts G μ o (fun u6 => (w_X10_bitsOf G μ u6 (nI 52) (nI 1023) (fun u7 => (Q u7)))))) ∧ ((mI μ 230 a2) = 0 → (X "java/lang/ArithmeticException"))))))
def w_X10_rateOfDeliveries (G : mgT) (μ : mmT) (o : Nat) (Q : UInt32 → Prop) : Prop :=
  (mK μ o = 10 ∧ (∃ a2, (mR μ 288 o) = some a2 ∧ (mK μ a2 = 8 ∧ (∃ a5, (mR μ 227 a2) = some a5 ∧ (mK μ a5 = 9 ∧ (vf_n32 (FP.fdiv (FP.i2f (mI μ 257 a5)) (FP.i2f (mI μ 262 a5))) ∧ (Q (FP.fdiv (FP.i2f (mI μ 257 a5)) (FP.i2f (mI μ 262 a5))))))))))
def w_X10_deliveryRate (G : mgT) (μ : mmT) (o : Nat) (Q : UInt32 → Prop) (X : String → Prop) : Prop :=
  (mK μ o = 10 ∧ (∃ a2, (mR μ 288 o) = some a2 ∧ (mK μ a2 = 8 ∧ (∃ a5, (mR μ 227 a2) = some a5 ∧ (mK μ a5 = 9 ∧ ((¬ (mI μ 262 a5) = 0 → (w_X10_rateOfDeliveries G μ o (fun u9 => (Q u9)))) ∧ ((mI μ 262 a5) = 0 → (X "java/lang/ArithmeticException"))))))))
def w_X10_deliveryRateBits (G : mgT) (μ : mmT) (o : Nat) (Q : Int32 → Prop) (X : String → Prop) : Prop :=
  (mK μ o = 10 ∧ (∃ a2, (mR μ 288 o) = some a2 ∧ (mK μ a2 = 8 ∧ (∃ a5, (mR μ 227 a2) = some a5 ∧ (mK μ a5 = 9 ∧ ((¬ (mI μ 262 a5) = 0 → (w_X10_rateOfDeliveries G μ o (fun u9 => (vf_n64 (FP.f2d u9) ∧ (w_X10_bitsOf G μ (FP.f2d u9) (nI 23) (nI 127) (fun u11 => (Q u11.toInt32))))))) ∧ ((mI μ 262 a5) = 0 → (X "java/lang/ArithmeticException"))))))))
def w_X10_napLengthsAgree_b2 (G : mgT) (μ : mmT) (Q : Int32 → Prop) (K2 : Int32 → Prop) (x0 : Int32) : Prop :=
  (((nI 40) < x0 → (Q (nI 1))) ∧ (¬ (nI 40) < x0 → (w_X10_shiftedNap G μ x0 (fun u2 => (w_X10_doubledNap G μ x0 (fun u3 => (((lg_cmp u2 u3) = 0 → (K2 (x0 + nI 1))) ∧ (¬ (lg_cmp u2 u3) = 0 → (Q (nI 0))))))))))
def w_X10_napLengthsAgree_l2 (G : mgT) (μ : mmT) (Q : Int32 → Prop) : Nat → Int32 → Prop
  | 0 => fun _ => False
  | n + 1 => fun x0 => w_X10_napLengthsAgree_b2 G μ Q  (w_X10_napLengthsAgree_l2 G μ Q  n) x0
def w_X10_napLengthsAgree (G : mgT) (μ : mmT) (Q : Int32 → Prop) : Prop :=
  (∃ n, w_X10_napLengthsAgree_l2 G μ Q  n (nI 0))
def w_X10_isConsistent_b69 (G : mgT) (μ : mmT) (o : Nat) (Q : Int32 → Prop) (s0 : Int32) : Prop :=
  ((s0 = 0 ∨ s0 = 1) ∧ (Q s0))
def w_X10_isConsistent_b68 (G : mgT) (μ : mmT) (o : Nat) (Q : Int32 → Prop) : Prop :=
  (w_X10_isConsistent_b69 G μ o Q  (nI 0))
def w_X10_isConsistent (G : mgT) (μ : mmT) (o : Nat) (Q : Int32 → Prop) : Prop :=
  (w_X10_napLengthsAgree G μ (fun u1 => ((u1 = 0 → (w_X10_isConsistent_b68 G μ o Q  )) ∧ (¬ u1 = 0 → (mK μ o = 10 ∧ (∃ a5, (mR μ 288 o) = some a5 ∧ (mK μ a5 = 8 ∧ (∃ a8, (mR μ 227 a5) = some a8 ∧ (mK μ a8 = 9 ∧ (w_X9_existing G μ a8 (fun u11 => ((¬ (mI μ 230 a5) = u11 → (w_X10_isConsistent_b68 G μ o Q  )) ∧ ((mI μ 230 a5) = u11 → (w_X8_messagesWithStatus G μ a5 (nI 102) (fun u13 => (w_X8_flyingCrows G μ a5 (fun u14 => ((¬ u13 = u14 → (w_X10_isConsistent_b68 G μ o Q  )) ∧ (u13 = u14 → (w_X8_messagesWithStatus G μ a5 (nI 100) (fun u16 => (w_X8_messagesInInboxes G μ a5 (fun u17 => ((¬ u16 = u17 → (w_X10_isConsistent_b68 G μ o Q  )) ∧ (u16 = u17 → (w_X10_isConsistent_b69 G μ o Q  (nI 1)))))))))))))))))))))))))))
def w_X10_type_b12 (G : mgT) (o : Nat) (Q : Int32 → mmT → Prop) (X : String → mmT → Prop) (μ : mmT) : Prop :=
  (X "java/lang/IllegalArgumentException" μ)
def w_X10_type (G : mgT) (μ : mmT) (o : Nat) (x1 : Int32) (Q : Int32 → mmT → Prop) (X : String → mmT → Prop) : Prop :=
  ((x1 < (nI 32) → (w_X10_type_b12 G o Q X  μ)) ∧ (¬ x1 < (nI 32) → ((x1 ≤ (nI 126) → (mK μ o = 10 ∧ (∃ a4, (mR μ 293 o) = some a4 ∧ (mK μ a4 = 7 ∧ (((mI μ 194 a4) < (nI 60) → (w_X7_append G μ a4 x1 (fun u8 μ9 => (Q u8 μ9)))) ∧ (¬ (mI μ 194 a4) < (nI 60) → (X "java/lang/IllegalStateException" μ))))))) ∧ (¬ x1 ≤ (nI 126) → (w_X10_type_b12 G o Q X  μ)))))
def w_X10_runScript_b55 (G : mgT) (o : Nat) (Q : Int32 → mmT → Prop) (X : String → mmT → Prop) (K55 : Int32 → mmT → Prop) (x2 : Int32) (μ : mmT) : Prop :=
  (mK μ o = 10 ∧ (∃ a17, (mR μ 293 o) = some a17 ∧ (mK μ a17 = 7 ∧ (((mI μ 195 a17) ≤ x2 → (∃ a21, (mR μ 292 o) = some a21 ∧ (mK μ a21 = 4 ∧ (w_X4_remember G μ a21 (mR μ 289 o) (fun μ24 => (mK μ24 o = 10 ∧ (∃ a26, (mR μ24 293 o) = some a26 ∧ (mK μ24 a26 = 7 ∧ (Q (mI μ24 195 a26) μ24))))))))) ∧ (¬ (mI μ 195 a17) ≤ x2 → (∃ a29, (mR μ 193 a17) = some a29 ∧ (mK μ a29 = 37 ∧ (vp_in x2 (mN μ a29) ∧ (∃ a33, (mR μ 288 o) = some a33 ∧ (mK μ a33 = 8 ∧ (w_X8_perform G μ a33 (mB μ a29 x2.toNatClampNeg) (fun u36 μ37 => ((0 ≤ u36 → (K55 (x2 + nI 1) μ37)) ∧ (¬ 0 ≤ u36 → (mK μ37 o = 10 ∧ (∃ a40, (mR μ37 288 o) = some a40 ∧ (mK μ37 a40 = 8 ∧ (w_X8_copyFrom G μ37 a40 (mR μ37 289 o) (fun μ43 => (mK μ43 o = 10 ∧ (X "java/lang/IllegalStateException" (sI μ43 297 o x2))))))))))))))))))))))
def w_X10_runScript_l55 (G : mgT) (o : Nat) (Q : Int32 → mmT → Prop) (X : String → mmT → Prop) : Nat → Int32 → mmT → Prop
  | 0 => fun _ _ => False
  | n + 1 => fun x2 μ => w_X10_runScript_b55 G o Q X  (w_X10_runScript_l55 G o Q X  n) x2 μ
def w_X10_runScript (G : mgT) (μ : mmT) (o : Nat) (Q : Int32 → mmT → Prop) (X : String → mmT → Prop) : Prop :=
  (mK μ o = 10 ∧ (∃ a2, (mR μ 293 o) = some a2 ∧ (mK μ a2 = 7 ∧ (w_X7_split G μ a2 (fun u5 μ6 => (mK μ6 o = 10 ∧ (∃ a8, (mR μ6 293 o) = some a8 ∧ (mK μ6 a8 = 7 ∧ ((¬ u5 = 0 → (∃ a12, (mR (sI μ6 194 a8 (nI 0)) 289 o) = some a12 ∧ (mK (sI μ6 194 a8 (nI 0)) a12 = 8 ∧ (w_X8_copyFrom G (sI μ6 194 a8 (nI 0)) a12 (mR (sI μ6 194 a8 (nI 0)) 288 o) (fun μ15 => (∃ n, w_X10_runScript_l55 G o Q X  n (nI 0) μ15)))))) ∧ (u5 = 0 → (∃ a45, (mR (sI μ6 194 a8 (nI 0)) 293 o) = some a45 ∧ (mK (sI μ6 194 a8 (nI 0)) a45 = 7 ∧ (X "java/lang/IllegalArgumentException" (sI (sI μ6 194 a8 (nI 0)) 296 o (mI (sI μ6 194 a8 (nI 0)) 196 a45)))))))))))))))
def w_X10_undo (G : mgT) (μ : mmT) (o : Nat) (Q : Int32 → mmT → Prop) (X : String → mmT → Prop) : Prop :=
  (mK μ o = 10 ∧ (∃ a2, (mR μ 292 o) = some a2 ∧ (mK μ a2 = 4 ∧ ((¬ (mI μ 98 a2) = 0 → (w_X4_takeBackInto G μ a2 (mR μ 288 o) (fun μ6 => (mK μ6 o = 10 ∧ (∃ a8, (mR μ6 292 o) = some a8 ∧ (mK μ6 a8 = 4 ∧ (Q (mI μ6 98 a8) μ6))))))) ∧ ((mI μ 98 a2) = 0 → (X "java/util/NoSuchElementException" μ))))))
def w_X10_save (G : mgT) (μ : mmT) (o : Nat) (Q : Int32 → mmT → Prop) : Prop :=
  (mK μ o = 10 ∧ (∃ a2, (mR μ 291 o) = some a2 ∧ (mK μ a2 = 8 ∧ (w_X8_copyFrom G μ a2 (mR μ 288 o) (fun μ5 => (mK μ5 o = 10 ∧ (∃ a7, (mR (sI μ5 295 o (nI 1)) 288 o) = some a7 ∧ (mK (sI μ5 295 o (nI 1)) a7 = 8 ∧ (Q (mI (sI μ5 295 o (nI 1)) 230 a7) (sI μ5 295 o (nI 1)))))))))))
def w_X10_restore (G : mgT) (μ : mmT) (o : Nat) (Q : Int32 → mmT → Prop) (X : String → mmT → Prop) : Prop :=
  (mK μ o = 10 ∧ ((¬ (mI μ 295 o) = 0 → (∃ a3, (mR μ 288 o) = some a3 ∧ (mK μ a3 = 8 ∧ (w_X8_copyFrom G μ a3 (mR μ 291 o) (fun μ6 => (mK μ6 o = 10 ∧ (∃ a8, (mR μ6 292 o) = some a8 ∧ (mK μ6 a8 = 4 ∧ (∃ a11, (mR (sI μ6 98 a8 (nI 0)) 288 o) = some a11 ∧ (mK (sI μ6 98 a8 (nI 0)) a11 = 8 ∧ (Q (mI (sI μ6 98 a8 (nI 0)) 230 a11) (sI μ6 98 a8 (nI 0))))))))))))) ∧ ((mI μ 295 o) = 0 → (X "java/lang/IllegalStateException" μ))))
def w_L_cell_b16 (G : mgT) (μ : mmT) (Q : Int32 → Prop) (s0 : Int32) : Prop :=
  (Q s0)
def w_L_cell (G : mgT) (μ : mmT) (x1 : Int32) (Q : Int32 → Prop) : Prop :=
  (((nI (gX G 6)) ≤ x1 → (w_L_cell_b16 G μ Q  ((40503 : Int32) * x1))) ∧ (¬ (nI (gX G 6)) ≤ x1 → (vp_in x1 (gX G 6) ∧ (w_L_cell_b16 G μ Q  (gQ G x1.toNatClampNeg)))))
def w_L_pick (G : mgT) (μ : mmT) (x1 : Int32) (x2 : Int32) (Q : Int32 → Prop) : Prop :=
  (w_L_cell G μ x1 (fun u1 => (¬ x2 = 0 ∧ (Q ((u1.toUInt32 >>> ((nI 1).toUInt32 &&& Int32.toUInt32 31)).toInt32 - (u1.toUInt32 >>> ((nI 1).toUInt32 &&& Int32.toUInt32 31)).toInt32 / x2 * x2)))))
def w_L_addNest (G : mgT) (μ : mmT) (r0 : Option Nat) (x1 : Int32) (x2 : Int32) (Q : Int32 → mmT → Prop) : Prop :=
  (∃ a1, r0 = some a1 ∧ (mK μ a1 = 10 ∧ (w_X10_addNest G μ a1 x1 x2 (fun u4 μ5 => (Q u4 μ5)) (fun E μ9 => (E = "java/lang/IllegalArgumentException" ∧ (Q (-78) μ9)) ∨ (E = "java/lang/IllegalStateException" ∧ (Q (-79) μ9))))))
def w_L_addCrow (G : mgT) (μ : mmT) (r0 : Option Nat) (Q : Int32 → mmT → Prop) : Prop :=
  (∃ a1, r0 = some a1 ∧ (mK μ a1 = 10 ∧ (w_X10_addCrow G μ a1 (fun u4 μ5 => (Q u4 μ5)) (fun E μ9 => (E = "java/lang/IllegalStateException" ∧ (Q (-79) μ9))))))
def w_L_publish (G : mgT) (μ : mmT) (r0 : Option Nat) (x1 : Int32) (x2 : Int32) (Q : Int32 → mmT → Prop) : Prop :=
  (∃ a1, r0 = some a1 ∧ (mK μ a1 = 10 ∧ (w_X10_publish G μ a1 x1 x2 (fun u4 μ5 => (Q u4 μ5)) (fun E μ9 => (E = "java/lang/IndexOutOfBoundsException" ∧ (Q (-77) μ9)) ∨ (E = "java/lang/IllegalArgumentException" ∧ (Q (-78) μ9)) ∨ (E = "java/lang/IllegalStateException" ∧ (Q (-79) μ9))))))
def w_L_read (G : mgT) (μ : mmT) (r0 : Option Nat) (x1 : Int32) (Q : Int32 → mmT → Prop) : Prop :=
  (∃ a1, r0 = some a1 ∧ (mK μ a1 = 10 ∧ (w_X10_read G μ a1 x1 (fun u4 μ5 => (Q u4 μ5)) (fun E μ9 => (E = "java/lang/IndexOutOfBoundsException" ∧ (Q (-77) μ9)) ∨ (E = "java/util/NoSuchElementException" ∧ (Q (-75) μ9))))))
def w_L_cancel (G : mgT) (μ : mmT) (r0 : Option Nat) (x1 : Int32) (Q : Int32 → mmT → Prop) : Prop :=
  (∃ a1, r0 = some a1 ∧ (mK μ a1 = 10 ∧ (w_X10_cancel G μ a1 x1 (fun u4 μ5 => (Q u4 μ5)) (fun E μ9 => (E = "java/util/NoSuchElementException" ∧ (Q (-75) μ9)) ∨ (E = "java/lang/IllegalStateException" ∧ (Q (-79) μ9))))))
def w_L_setWind (G : mgT) (μ : mmT) (r0 : Option Nat) (x1 : Int32) (Q : Int32 → mmT → Prop) : Prop :=
  (∃ a1, r0 = some a1 ∧ (mK μ a1 = 10 ∧ (w_X10_setWind G μ a1 x1 (fun u4 μ5 => (Q u4 μ5)) (fun E μ9 => (E = "java/lang/IllegalArgumentException" ∧ (Q (-78) μ9))))))
def w_L_forget (G : mgT) (μ : mmT) (r0 : Option Nat) (x1 : Int32) (Q : Int32 → mmT → Prop) : Prop :=
  (∃ a1, r0 = some a1 ∧ (mK μ a1 = 10 ∧ (w_X10_forget G μ a1 x1 (fun u4 μ5 => (Q u4 μ5)) (fun E μ9 => (E = "java/lang/IndexOutOfBoundsException" ∧ (Q (-77) μ9))))))
def w_L_advance (G : mgT) (μ : mmT) (r0 : Option Nat) (x1 : Int32) (Q : Int32 → mmT → Prop) : Prop :=
  (∃ a1, r0 = some a1 ∧ (mK μ a1 = 10 ∧ (w_X10_advance G μ a1 x1 (fun u4 μ5 => (Q u4 μ5)) (fun E μ9 => (E = "java/lang/IllegalArgumentException" ∧ (Q (-78) μ9))))))
def w_L_distance (G : mgT) (μ : mmT) (r0 : Option Nat) (x1 : Int32) (Q : Int32 → Prop) : Prop :=
  (∃ a1, r0 = some a1 ∧ (mK μ a1 = 10 ∧ (w_X10_distance G μ a1 x1 (fun u4 => (Q u4)) (fun E => (E = "java/lang/IndexOutOfBoundsException" ∧ (Q (-77)))))))
def w_L_loss (G : mgT) (μ : mmT) (r0 : Option Nat) (x1 : Int32) (Q : Int32 → Prop) : Prop :=
  (∃ a1, r0 = some a1 ∧ (mK μ a1 = 10 ∧ (w_X10_loss G μ a1 x1 (fun u4 => (Q u4)) (fun E => (E = "java/lang/IndexOutOfBoundsException" ∧ (Q (-77)))))))
def w_L_inboxSize (G : mgT) (μ : mmT) (r0 : Option Nat) (x1 : Int32) (Q : Int32 → Prop) : Prop :=
  (∃ a1, r0 = some a1 ∧ (mK μ a1 = 10 ∧ (w_X10_inboxSize G μ a1 x1 (fun u4 => (Q u4)) (fun E => (E = "java/lang/IndexOutOfBoundsException" ∧ (Q (-77)))))))
def w_L_inboxMessage (G : mgT) (μ : mmT) (r0 : Option Nat) (x1 : Int32) (x2 : Int32) (Q : Int32 → Prop) : Prop :=
  (∃ a1, r0 = some a1 ∧ (mK μ a1 = 10 ∧ (w_X10_inboxMessage G μ a1 x1 x2 (fun u4 => (Q u4)) (fun E => (E = "java/lang/IndexOutOfBoundsException" ∧ (Q (-77))) ∨ (E = "java/util/NoSuchElementException" ∧ (Q (-75)))))))
def w_L_remembers_b14 (G : mgT) (μ : mmT) (Q : Int32 → Prop) (s0 : Int32) : Prop :=
  (Q s0)
def w_L_remembers (G : mgT) (μ : mmT) (r0 : Option Nat) (x1 : Int32) (x2 : Int32) (Q : Int32 → Prop) : Prop :=
  (∃ a1, r0 = some a1 ∧ (mK μ a1 = 10 ∧ (w_X10_remembers G μ a1 x1 x2 (fun u4 => ((u4 = 0 → (w_L_remembers_b14 G μ Q  (nI 0))) ∧ (¬ u4 = 0 → (w_L_remembers_b14 G μ Q  (nI 1))))) (fun E => (E = "java/lang/IndexOutOfBoundsException" ∧ (Q (-77)))))))
def w_L_rememberedCount (G : mgT) (μ : mmT) (r0 : Option Nat) (x1 : Int32) (Q : Int32 → Prop) : Prop :=
  (∃ a1, r0 = some a1 ∧ (mK μ a1 = 10 ∧ (w_X10_rememberedCount G μ a1 x1 (fun u4 => (Q u4)) (fun E => (E = "java/lang/IndexOutOfBoundsException" ∧ (Q (-77)))))))
def w_L_nestByDeliveries (G : mgT) (μ : mmT) (r0 : Option Nat) (x1 : Int32) (Q : Int32 → Prop) : Prop :=
  (∃ a1, r0 = some a1 ∧ (mK μ a1 = 10 ∧ (w_X10_nestByDeliveries G μ a1 x1 (fun u4 => (Q u4)) (fun E => (E = "java/util/NoSuchElementException" ∧ (Q (-75)))))))
def w_L_isFlying_b13 (G : mgT) (μ : mmT) (Q : Int32 → Prop) (s0 : Int32) : Prop :=
  (Q s0)
def w_L_isFlying (G : mgT) (μ : mmT) (r0 : Option Nat) (x1 : Int32) (Q : Int32 → Prop) : Prop :=
  (∃ a1, r0 = some a1 ∧ (mK μ a1 = 10 ∧ (w_X10_isFlying G μ a1 x1 (fun u4 => ((u4 = 0 → (w_L_isFlying_b13 G μ Q  (nI 0))) ∧ (¬ u4 = 0 → (w_L_isFlying_b13 G μ Q  (nI 1))))) (fun E => (E = "java/lang/IndexOutOfBoundsException" ∧ (Q (-77)))))))
def w_L_carriedMessage (G : mgT) (μ : mmT) (r0 : Option Nat) (x1 : Int32) (Q : Int32 → Prop) : Prop :=
  (∃ a1, r0 = some a1 ∧ (mK μ a1 = 10 ∧ (w_X10_carriedMessage G μ a1 x1 (fun u4 => (Q u4)) (fun E => (E = "java/lang/IndexOutOfBoundsException" ∧ (Q (-77))) ∨ (E = "java/util/NoSuchElementException" ∧ (Q (-75)))))))
def w_L_flightMinutes (G : mgT) (μ : mmT) (r0 : Option Nat) (x1 : Int32) (Q : Int32 → Prop) : Prop :=
  (∃ a1, r0 = some a1 ∧ (mK μ a1 = 10 ∧ (w_X10_flightMinutes G μ a1 x1 (fun u4 => (Q u4)) (fun E => (E = "java/lang/IndexOutOfBoundsException" ∧ (Q (-77)))))))
def w_L_messageAt (G : mgT) (μ : mmT) (r0 : Option Nat) (x1 : Int32) (Q : Int32 → Prop) : Prop :=
  (∃ a1, r0 = some a1 ∧ (mK μ a1 = 10 ∧ (w_X10_messageAt G μ a1 x1 (fun u4 => (Q u4)) (fun E => (E = "java/util/NoSuchElementException" ∧ (Q (-75)))))))
def w_L_nestOf (G : mgT) (μ : mmT) (r0 : Option Nat) (x1 : Int32) (Q : Int32 → Prop) : Prop :=
  (∃ a1, r0 = some a1 ∧ (mK μ a1 = 10 ∧ (w_X10_nestOf G μ a1 x1 (fun u4 => (Q u4)) (fun E => (E = "java/util/NoSuchElementException" ∧ (Q (-75)))))))
def w_L_keyOf (G : mgT) (μ : mmT) (r0 : Option Nat) (x1 : Int32) (Q : Int32 → Prop) : Prop :=
  (∃ a1, r0 = some a1 ∧ (mK μ a1 = 10 ∧ (w_X10_keyOf G μ a1 x1 (fun u4 => (Q u4)) (fun E => (E = "java/util/NoSuchElementException" ∧ (Q (-75)))))))
def w_L_attempts (G : mgT) (μ : mmT) (r0 : Option Nat) (x1 : Int32) (Q : Int32 → Prop) : Prop :=
  (∃ a1, r0 = some a1 ∧ (mK μ a1 = 10 ∧ (w_X10_attempts G μ a1 x1 (fun u4 => (Q u4)) (fun E => (E = "java/util/NoSuchElementException" ∧ (Q (-75)))))))
def w_L_status (G : mgT) (μ : mmT) (r0 : Option Nat) (x1 : Int32) (Q : Int32 → Prop) : Prop :=
  (∃ a1, r0 = some a1 ∧ (mK μ a1 = 10 ∧ (w_X10_status G μ a1 x1 (fun u4 => (Q u4)) (fun E => (E = "java/util/NoSuchElementException" ∧ (Q (-75)))))))
def w_L_napMinutes (G : mgT) (μ : mmT) (r0 : Option Nat) (x1 : Int32) (Q : Int32 → Prop) : Prop :=
  (∃ a1, r0 = some a1 ∧ (mK μ a1 = 10 ∧ (w_X10_napMinutes G μ a1 x1 (fun u4 => (Q u4)) (fun E => (E = "java/util/NoSuchElementException" ∧ (Q (-75))) ∨ (E = "java/lang/IllegalStateException" ∧ (Q (-79)))))))
def w_L_waitingMessage (G : mgT) (μ : mmT) (r0 : Option Nat) (x1 : Int32) (Q : Int32 → Prop) : Prop :=
  (∃ a1, r0 = some a1 ∧ (mK μ a1 = 10 ∧ (w_X10_waitingMessage G μ a1 x1 (fun u4 => (Q u4)) (fun E => (E = "java/util/NoSuchElementException" ∧ (Q (-75)))))))
def w_L_wouldBeLost_b13 (G : mgT) (μ : mmT) (Q : Int32 → Prop) (s0 : Int32) : Prop :=
  (Q s0)
def w_L_wouldBeLost (G : mgT) (μ : mmT) (r0 : Option Nat) (x1 : Int32) (Q : Int32 → Prop) : Prop :=
  (∃ a1, r0 = some a1 ∧ (mK μ a1 = 10 ∧ (w_X10_wouldBeLost G μ a1 x1 (fun u4 => ((u4 = 0 → (w_L_wouldBeLost_b13 G μ Q  (nI 0))) ∧ (¬ u4 = 0 → (w_L_wouldBeLost_b13 G μ Q  (nI 1))))) (fun E => (E = "java/util/NoSuchElementException" ∧ (Q (-75))) ∨ (E = "java/lang/IllegalStateException" ∧ (Q (-79)))))))
def w_L_napLength (G : mgT) (μ : mmT) (r0 : Option Nat) (x1 : Int32) (Q : Int64 → Prop) : Prop :=
  (∃ a1, r0 = some a1 ∧ (mK μ a1 = 10 ∧ (w_X10_napLength G μ a1 x1 (fun u4 => (Q u4)) (fun E => (E = "java/lang/IllegalArgumentException" ∧ (Q (-78 : Int64)))))))
def w_L_napLengthByDoubling (G : mgT) (μ : mmT) (r0 : Option Nat) (x1 : Int32) (Q : Int64 → Prop) : Prop :=
  (∃ a1, r0 = some a1 ∧ (mK μ a1 = 10 ∧ (w_X10_napLengthByDoubling G μ a1 x1 (fun u4 => (Q u4)) (fun E => (E = "java/lang/IllegalArgumentException" ∧ (Q (-78 : Int64)))))))
def w_L_minutesUntilDelivered (G : mgT) (μ : mmT) (r0 : Option Nat) (x1 : Int32) (Q : Int32 → mmT → Prop) : Prop :=
  (∃ a1, r0 = some a1 ∧ (mK μ a1 = 10 ∧ (w_X10_minutesUntilDelivered G μ a1 x1 (fun u4 μ5 => (Q u4 μ5)) (fun E μ9 => (E = "java/util/NoSuchElementException" ∧ (Q (-75) μ9)) ∨ (E = "java/lang/IllegalStateException" ∧ (Q (-79) μ9))))))
def w_L_meanAttempts (G : mgT) (μ : mmT) (r0 : Option Nat) (Q : UInt64 → Prop) : Prop :=
  (∃ a1, r0 = some a1 ∧ (mK μ a1 = 10 ∧ (w_X10_meanAttempts G μ a1 (fun u4 => (Q u4)) (fun E => (E = "java/lang/ArithmeticException" ∧ (Q (13858279740860792832 : UInt64)))))))
def w_L_meanAttemptsBits (G : mgT) (μ : mmT) (r0 : Option Nat) (Q : Int64 → Prop) : Prop :=
  (∃ a1, r0 = some a1 ∧ (mK μ a1 = 10 ∧ (w_X10_meanAttemptsBits G μ a1 (fun u4 => (Q u4)) (fun E => (E = "java/lang/ArithmeticException" ∧ (Q (-74 : Int64)))))))
def w_L_deliveryRate (G : mgT) (μ : mmT) (r0 : Option Nat) (Q : UInt32 → Prop) : Prop :=
  (∃ a1, r0 = some a1 ∧ (mK μ a1 = 10 ∧ (w_X10_deliveryRate G μ a1 (fun u4 => (Q u4)) (fun E => (E = "java/lang/ArithmeticException" ∧ (Q (3264479232 : UInt32)))))))
def w_L_deliveryRateBits (G : mgT) (μ : mmT) (r0 : Option Nat) (Q : Int32 → Prop) : Prop :=
  (∃ a1, r0 = some a1 ∧ (mK μ a1 = 10 ∧ (w_X10_deliveryRateBits G μ a1 (fun u4 => (Q u4)) (fun E => (E = "java/lang/ArithmeticException" ∧ (Q (-74)))))))
def w_L_type (G : mgT) (μ : mmT) (r0 : Option Nat) (x1 : Int32) (Q : Int32 → mmT → Prop) : Prop :=
  (∃ a1, r0 = some a1 ∧ (mK μ a1 = 10 ∧ (w_X10_type G μ a1 x1 (fun u4 μ5 => (Q u4 μ5)) (fun E μ9 => (E = "java/lang/IllegalArgumentException" ∧ (Q (-78) μ9)) ∨ (E = "java/lang/IllegalStateException" ∧ (Q (-79) μ9))))))
def w_L_runScript (G : mgT) (μ : mmT) (r0 : Option Nat) (Q : Int32 → mmT → Prop) : Prop :=
  (∃ a1, r0 = some a1 ∧ (mK μ a1 = 10 ∧ (w_X10_runScript G μ a1 (fun u4 μ5 => (Q u4 μ5)) (fun E μ9 => (E = "java/lang/IllegalArgumentException" ∧ (Q (-78) μ9)) ∨ (E = "java/lang/IllegalStateException" ∧ (Q (-79) μ9))))))
def w_L_undo (G : mgT) (μ : mmT) (r0 : Option Nat) (Q : Int32 → mmT → Prop) : Prop :=
  (∃ a1, r0 = some a1 ∧ (mK μ a1 = 10 ∧ (w_X10_undo G μ a1 (fun u4 μ5 => (Q u4 μ5)) (fun E μ9 => (E = "java/util/NoSuchElementException" ∧ (Q (-75) μ9))))))
def w_L_restore (G : mgT) (μ : mmT) (r0 : Option Nat) (Q : Int32 → mmT → Prop) : Prop :=
  (∃ a1, r0 = some a1 ∧ (mK μ a1 = 10 ∧ (w_X10_restore G μ a1 (fun u4 μ5 => (Q u4 μ5)) (fun E μ9 => (E = "java/lang/IllegalStateException" ∧ (Q (-79) μ9))))))
def w_J0_coder_7d493_D (G : mgT) (μ : mmT) (o : Nat) (Q : Int32 → Prop) : Prop :=
  (¬ (1 : Int32) = 0 ∧ (mK μ o = 11 ∧ ((mI μ 321 o) = 0 ∧ (Q (mI μ 321 o)))))
def w_J0_length_8abf5_D (G : mgT) (μ : mmT) (o : Nat) (Q : Int32 → Prop) : Prop :=
  (mK μ o = 11 ∧ (∃ a2, (mR μ 320 o) = some a2 ∧ (mK μ a2 = 32 ∧ (w_J0_coder_7d493_D G μ o (fun u5 => (Q ((nI (mN μ a2)) >>> (u5 &&& 31))))))))
def w_J0_isLatin1_aae02_D (G : mgT) (μ : mmT) (o : Nat) (Q : Int32 → Prop) : Prop :=
  (¬ (1 : Int32) = 0 ∧ (mK μ o = 11 ∧ ((mI μ 321 o) = 0 ∧ (Q (nI 1)))))
def w_J1_charAt_3b067_D (G : mgT) (μ : mmT) (r0 : Option Nat) (x1 : Int32) (Q : Int32 → Prop) : Prop :=
  (∃ a1, r0 = some a1 ∧ (mK μ a1 = 32 ∧ (w_J0_checkIndex_df160 G μ x1 (nI (mN μ a1)) ((vp_in x1 (mN μ a1) ∧ (isCh ((((mA μ a1 x1.toNatClampNeg) &&& (nI 255)).toUInt32 % 65536).toInt32) ∧ (Q ((((mA μ a1 x1.toNatClampNeg) &&& (nI 255)).toUInt32 % 65536).toInt32))))))))
def w_J0_charAt_5068e_D (G : mgT) (μ : mmT) (o : Nat) (x1 : Int32) (Q : Int32 → Prop) : Prop :=
  (mK μ o = 11 ∧ (w_J0_isLatin1_aae02_D G μ o (fun u2 => (¬ u2 = 0 ∧ (w_J1_charAt_3b067_D G μ (mR μ 320 o) x1 (fun u4 => (isCh u4 ∧ (Q u4))))))))
def w_L_runs_b2 (G : mgT) (Q : Int32 → mmT → Prop) (K2 : Option Nat → Option Nat → Int32 → Nat → mmT → Prop) (r0 : Option Nat) (r1 : Option Nat) (x2 : Int32) (t2 : Nat) (μ : mmT) : Prop :=
  (t2 ≤ 16 ∧ (∃ a1, r1 = some a1 ∧ (mK μ a1 = 11 ∧ (w_J0_length_8abf5_D G μ a1 (fun u4 => ((u4 ≤ x2 → (w_L_runScript G μ r0 (fun u6 μ7 => (Q u6 μ7)))) ∧ (¬ u4 ≤ x2 → (w_J0_charAt_5068e_D G μ a1 x2 (fun u8 => (w_L_type G μ r0 u8 (fun u9 μ10 => (K2 r0 r1 (x2 + nI 1) (t2 + 1) μ10))))))))))))
def w_L_runs_l2 (G : mgT) (Q : Int32 → mmT → Prop) : Nat → Option Nat → Option Nat → Int32 → Nat → mmT → Prop
  | 0 => fun _ _ _ _ _ => False
  | n + 1 => fun r0 r1 x2 t2 μ => w_L_runs_b2 G Q  (w_L_runs_l2 G Q  n) r0 r1 x2 t2 μ
def w_L_runs (G : mgT) (μ : mmT) (r0 : Option Nat) (r1 : Option Nat) (Q : Int32 → mmT → Prop) : Prop :=
  (∃ n, w_L_runs_l2 G Q  n r0 r1 (nI 0) 0 μ)
def w_L_sum_b209 (G : mgT) (μ : mmT) (Q : Int64 → Prop) (K209 : Option Nat → Int64 → Int32 → Nat → Prop) (r0 : Option Nat) (x1 : Int64) (x3 : Int32) (t209 : Nat) : Prop :=
  (t209 ≤ 16 ∧ (∃ a22, r0 = some a22 ∧ (mK μ a22 = 10 ∧ (w_X10_messageCount G μ a22 (fun u25 => ((u25 ≤ x3 → (Q x1)) ∧ (¬ u25 ≤ x3 → (w_L_messageAt G μ r0 x3 (fun u27 => (w_L_nestOf G μ r0 u27 (fun u28 => (w_L_keyOf G μ r0 u27 (fun u29 => (w_L_attempts G μ r0 u27 (fun u30 => (w_L_status G μ r0 u27 (fun u31 => (w_L_napMinutes G μ r0 u27 (fun u32 => (K209 r0 (((((31 : Int64) * (((((31 : Int64) * x1) + ((1009 : Int64) * u27.toInt64)) + ((101 : Int64) * u28.toInt64)) + u29.toInt64)) + ((101 : Int64) * u30.toInt64)) + u31.toInt64) + ((7 : Int64) * u32.toInt64)) (x3 + nI 1) (t209 + 1)))))))))))))))))))))
def w_L_sum_l209 (G : mgT) (μ : mmT) (Q : Int64 → Prop) : Nat → Option Nat → Int64 → Int32 → Nat → Prop
  | 0 => fun _ _ _ _ => False
  | n + 1 => fun r0 x1 x3 t209 => w_L_sum_b209 G μ Q  (w_L_sum_l209 G μ Q  n) r0 x1 x3 t209
def w_L_sum_b169 (G : mgT) (μ : mmT) (Q : Int64 → Prop) (K169 : Option Nat → Int64 → Int32 → Nat → Prop) (r0 : Option Nat) (x1 : Int64) (x3 : Int32) (t169 : Nat) : Prop :=
  (t169 ≤ 4 ∧ (∃ a17, r0 = some a17 ∧ (mK μ a17 = 10 ∧ (w_X10_crowCount G μ a17 (fun u20 => ((u20 ≤ x3 → (∃ n, w_L_sum_l209 G μ Q  n r0 x1 (nI 0) 0)) ∧ (¬ u20 ≤ x3 → (w_L_carriedMessage G μ r0 x3 (fun u33 => (w_L_flightMinutes G μ r0 x3 (fun u34 => (K169 r0 ((((31 : Int64) * x1) + ((101 : Int64) * u33.toInt64)) + u34.toInt64) (x3 + nI 1) (t169 + 1)))))))))))))
def w_L_sum_l169 (G : mgT) (μ : mmT) (Q : Int64 → Prop) : Nat → Option Nat → Int64 → Int32 → Nat → Prop
  | 0 => fun _ _ _ _ => False
  | n + 1 => fun r0 x1 x3 t169 => w_L_sum_b169 G μ Q  (w_L_sum_l169 G μ Q  n) r0 x1 x3 t169
def w_L_sum_b130 (G : mgT) (μ : mmT) (Q : Int64 → Prop) (K82 : Option Nat → Int64 → Int32 → Nat → Prop) (K130 : Option Nat → Int64 → Int32 → Int32 → Nat → Nat → Prop) (r0 : Option Nat) (x1 : Int64) (x3 : Int32) (x4 : Int32) (t82 : Nat) (t130 : Nat) : Prop :=
  (t82 ≤ 6 ∧ (t130 ≤ 8 ∧ (w_L_inboxSize G μ r0 x3 (fun u38 => ((u38 ≤ x4 → (K82 r0 x1 (x3 + nI 1) (t82 + 1))) ∧ (¬ u38 ≤ x4 → (w_L_inboxMessage G μ r0 x3 x4 (fun u40 => (K130 r0 (((31 : Int64) * x1) + u40.toInt64) x3 (x4 + nI 1) t82 (t130 + 1))))))))))
def w_L_sum_l130 (G : mgT) (μ : mmT) (Q : Int64 → Prop) (K82 : Option Nat → Int64 → Int32 → Nat → Prop) : Nat → Option Nat → Int64 → Int32 → Int32 → Nat → Nat → Prop
  | 0 => fun _ _ _ _ _ _ => False
  | n + 1 => fun r0 x1 x3 x4 t82 t130 => w_L_sum_b130 G μ Q K82 (w_L_sum_l130 G μ Q K82 n) r0 x1 x3 x4 t82 t130
def w_L_sum_b82 (G : mgT) (μ : mmT) (Q : Int64 → Prop) (K82 : Option Nat → Int64 → Int32 → Nat → Prop) (r0 : Option Nat) (x1 : Int64) (x3 : Int32) (t82 : Nat) : Prop :=
  (t82 ≤ 6 ∧ (∃ a12, r0 = some a12 ∧ (mK μ a12 = 10 ∧ (w_X10_nestCount G μ a12 (fun u15 => ((u15 ≤ x3 → (∃ n, w_L_sum_l169 G μ Q  n r0 x1 (nI 0) 0)) ∧ (¬ u15 ≤ x3 → (w_L_distance G μ r0 x3 (fun u35 => (w_L_loss G μ r0 x3 (fun u36 => (w_L_rememberedCount G μ r0 x3 (fun u37 => (∃ n, w_L_sum_l130 G μ Q K82 n r0 (((31 : Int64) * ((((31 : Int64) * x1) + ((101 : Int64) * u35.toInt64)) + u36.toInt64)) + u37.toInt64) x3 (nI 0) t82 0))))))))))))))
def w_L_sum_l82 (G : mgT) (μ : mmT) (Q : Int64 → Prop) : Nat → Option Nat → Int64 → Int32 → Nat → Prop
  | 0 => fun _ _ _ _ => False
  | n + 1 => fun r0 x1 x3 t82 => w_L_sum_b82 G μ Q  (w_L_sum_l82 G μ Q  n) r0 x1 x3 t82
def w_L_sum (G : mgT) (μ : mmT) (r0 : Option Nat) (Q : Int64 → Prop) : Prop :=
  (∃ a1, r0 = some a1 ∧ (mK μ a1 = 10 ∧ (w_X10_time G μ a1 (fun u4 => (w_X10_wind G μ a1 (fun u5 => (w_X10_publishedTotal G μ a1 (fun u6 => (w_X10_readTotal G μ a1 (fun u7 => (w_X10_duplicateTotal G μ a1 (fun u8 => (w_X10_failedTotal G μ a1 (fun u9 => (w_X10_deliveredTotal G μ a1 (fun u10 => (w_X10_arrivalTotal G μ a1 (fun u11 => (∃ n, w_L_sum_l82 G μ Q  n r0 ((((31 : Int64) * ((((((31 : Int64) * (((31 : Int64) * u4.toInt64) + u5.toInt64)) + ((100003 : Int64) * u6.toInt64)) + ((1009 : Int64) * u7.toInt64)) + ((101 : Int64) * u8.toInt64)) + u9.toInt64)) + ((101 : Int64) * u10.toInt64)) + u11.toInt64) (nI 0) 0)))))))))))))))))))
def w_L_isKept_b97 (G : mgT) (Q : Int32 → mmT → Prop) (s0 : Int32) (μ : mmT) : Prop :=
  ((s0 = 0 ∨ s0 = 1) ∧ (Q s0 μ))
def w_L_isKept_b96 (G : mgT) (Q : Int32 → mmT → Prop) (μ : mmT) : Prop :=
  (w_L_isKept_b97 G Q  (nI 0) μ)
def w_L_isKept_b47 (G : mgT) (Q : Int32 → mmT → Prop) (μ : mmT) : Prop :=
  (Q (nI 0) μ)
def w_L_isKept_b18 (G : mgT) (Q : Int32 → mmT → Prop) (K18 : Option Nat → Option Nat → Int32 → Int32 → Int32 → Int32 → Nat → mmT → Prop) (r0 : Option Nat) (r1 : Option Nat) (x2 : Int32) (x3 : Int32) (x4 : Int32) (x5 : Int32) (t18 : Nat) (μ : mmT) : Prop :=
  (t18 ≤ 8 ∧ ((x4 ≤ 0 → (w_L_undo G μ r0 (fun u7 μ8 => ((¬ u7 = (-75) → (w_L_isKept_b96 G Q  μ8)) ∧ (u7 = (-75) → (w_L_restore G μ8 r0 (fun u11 μ12 => ((¬ u11 = x3 → (w_L_isKept_b96 G Q  μ12)) ∧ (u11 = x3 → (w_L_sum G μ12 r0 (fun u14 => (∃ a15, r1 = some a15 ∧ (mK μ12 a15 = 35 ∧ (vp_in x2 (mN μ12 a15) ∧ ((¬ (lg_cmp u14 (mL μ12 a15 x2.toNatClampNeg)) = 0 → (w_L_isKept_b96 G Q  μ12)) ∧ ((lg_cmp u14 (mL μ12 a15 x2.toNatClampNeg)) = 0 → (w_L_undo G μ12 r0 (fun u20 μ21 => ((¬ u20 = (-75) → (w_L_isKept_b96 G Q  μ21)) ∧ (u20 = (-75) → (w_L_isKept_b97 G Q  (nI 1) μ21))))))))))))))))))))) ∧ (¬ x4 ≤ 0 → (w_L_undo G μ r0 (fun u23 μ24 => ((¬ u23 = (x4 + (-1)) → (w_L_isKept_b47 G Q  μ24)) ∧ (u23 = (x4 + (-1)) → (w_L_sum G μ24 r0 (fun u26 => (∃ a27, r1 = some a27 ∧ (mK μ24 a27 = 35 ∧ (vp_in x5 (mN μ24 a27) ∧ (((lg_cmp u26 (mL μ24 a27 x5.toNatClampNeg)) = 0 → (K18 r0 r1 x2 x3 (x4 + (-1)) (x5 + (-1)) (t18 + 1) μ24)) ∧ (¬ (lg_cmp u26 (mL μ24 a27 x5.toNatClampNeg)) = 0 → (w_L_isKept_b47 G Q  μ24)))))))))))))))
def w_L_isKept_l18 (G : mgT) (Q : Int32 → mmT → Prop) : Nat → Option Nat → Option Nat → Int32 → Int32 → Int32 → Int32 → Nat → mmT → Prop
  | 0 => fun _ _ _ _ _ _ _ _ => False
  | n + 1 => fun r0 r1 x2 x3 x4 x5 t18 μ => w_L_isKept_b18 G Q  (w_L_isKept_l18 G Q  n) r0 r1 x2 x3 x4 x5 t18 μ
def w_L_isKept (G : mgT) (μ : mmT) (r0 : Option Nat) (r1 : Option Nat) (x2 : Int32) (Q : Int32 → mmT → Prop) : Prop :=
  (∃ a1, r0 = some a1 ∧ (mK μ a1 = 10 ∧ (w_X10_save G μ a1 (fun u4 μ5 => (∃ n, w_L_isKept_l18 G Q  n r0 r1 x2 u4 (if x2 < (nI 8) then x2 else (nI 8)) (x2 - (nI 1)) 0 μ5)))))
def w_J5_ensureCapacityInternal_d00df (G : mgT) (μ : mmT) (o : Nat) (x1 : Int32) (Q : Prop) : Prop :=
  (mK μ o = 1 ∧ (∃ a2, (mR μ 0 o) = some a2 ∧ (mK μ a2 = 32 ∧ ((x1 - ((nI (mN μ a2)) >>> ((mI μ 1 o) &&& 31))) ≤ 0 ∧ Q))))
def w_J5_inflateIfNeededFor_a7421 (G : mgT) (μ : mmT) (o : Nat) (r1 : Option Nat) (Q : Prop) : Prop :=
  (¬ (1 : Int32) = 0 ∧ (mK μ o = 1 ∧ (∃ a3, r1 = some a3 ∧ (∃ j5, a3 = gS G j5 ∧ j5 < 37 ∧ (w_J0_coder_7d493 G μ a3 (fun u8 => ((mI μ 1 o) = u8 ∧ Q)))))))
def w_J0_getBytes_840e7 (G : mgT) (μ : mmT) (o : Nat) (r1 : Option Nat) (x2 : Int32) (x3 : Int32) (Q : mmT → Prop) : Prop :=
  (∃ j1, o = gS G j1 ∧ j1 < 37 ∧ (w_J0_coder_7d493 G μ o (fun u4 => (u4 = x3 ∧ (∃ j6, (gV G j1) = gV G j6 ∧ j6 < 37 ∧ (∃ a9, r1 = some a9 ∧ (mK μ a9 = 32 ∧ (¬ (x2 <<< (x3 &&& 31)) < 0 ∧ (¬ (nI (gLen.getD j6 0)) < 0 ∧ ((nI 0).toNatClampNeg + (nI (gLen.getD j6 0)).toNatClampNeg ≤ gLen.getD j6 0 ∧ ((x2 <<< (x3 &&& 31)).toNatClampNeg + (nI (gLen.getD j6 0)).toNatClampNeg ≤ mN μ a9 ∧ (Q (sX μ (fun i9 => (gByt.getD j6 []).getD ((nI 0).toNatClampNeg + i9) 0) a9 (x2 <<< (x3 &&& 31)).toNatClampNeg (nI (gLen.getD j6 0)).toNatClampNeg)))))))))))))
def w_J5_putStringAt_47b60 (G : mgT) (μ : mmT) (o : Nat) (x1 : Int32) (r2 : Option Nat) (Q : mmT → Prop) : Prop :=
  (mK μ o = 1 ∧ (w_J5_inflateIfNeededFor_a7421 G μ o r2 ((∃ a2, r2 = some a2 ∧ (∃ j4, a2 = gS G j4 ∧ j4 < 37 ∧ (w_J0_getBytes_840e7 G μ a2 (mR μ 0 o) x1 (mI μ 1 o) (fun μ7 => (Q μ7))))))))
def w_J5_append_cf1ce (G : mgT) (μ : mmT) (o : Nat) (r1 : Option Nat) (Q : Option Nat → mmT → Prop) : Prop :=
  (∃ a1, r1 = some a1 ∧ (∃ j3, a1 = gS G j3 ∧ j3 < 37 ∧ (w_J0_length_8abf5 G μ a1 (fun u6 => (mK μ o = 1 ∧ (w_J5_ensureCapacityInternal_d00df G μ o ((mI μ 3 o) + u6) ((w_J5_putStringAt_47b60 G μ o (mI μ 3 o) r1 (fun μ8 => (mK μ8 o = 1 ∧ (Q (some o) (sI μ8 3 o ((mI μ8 3 o) + u6)))))))))))))
def w_J4_append_15ec4 (G : mgT) (μ : mmT) (o : Nat) (r1 : Option Nat) (Q : Option Nat → mmT → Prop) : Prop :=
  (mK μ o = 1 ∧ (w_J5_append_cf1ce G μ o r1 (fun ru2 μ3 => (Q (some o) μ3))))
def w_J6_stringSize_0f7a4_b16 (G : mgT) (μ : mmT) (Q : Int32 → Prop) (K16 : Int32 → Int32 → Int32 → Int32 → Prop) (x0 : Int32) (x1 : Int32) (x2 : Int32) (x3 : Int32) : Prop :=
  (((nI 10) ≤ x3 → (Q ((nI 10) + x1))) ∧ (¬ (nI 10) ≤ x3 → ((x0 ≤ x2 → (K16 x0 x1 ((nI 10) * x2) (x3 + nI 1))) ∧ (¬ x0 ≤ x2 → (Q (x3 + x1))))))
def w_J6_stringSize_0f7a4_l16 (G : mgT) (μ : mmT) (Q : Int32 → Prop) : Nat → Int32 → Int32 → Int32 → Int32 → Prop
  | 0 => fun _ _ _ _ => False
  | n + 1 => fun x0 x1 x2 x3 => w_J6_stringSize_0f7a4_b16 G μ Q  (w_J6_stringSize_0f7a4_l16 G μ Q  n) x0 x1 x2 x3
def w_J6_stringSize_0f7a4_b11 (G : mgT) (μ : mmT) (Q : Int32 → Prop) (x0 : Int32) (x1 : Int32) : Prop :=
  (∃ n, w_J6_stringSize_0f7a4_l16 G μ Q  n x0 x1 (-10) (nI 1))
def w_J6_stringSize_0f7a4 (G : mgT) (μ : mmT) (x0 : Int32) (Q : Int32 → Prop) : Prop :=
  ((x0 < 0 → (w_J6_stringSize_0f7a4_b11 G μ Q  x0 (nI 1))) ∧ (¬ x0 < 0 → (w_J6_stringSize_0f7a4_b11 G μ Q  (-x0) (nI 0))))
def w_J5_isLatin1_aae02 (G : mgT) (μ : mmT) (o : Nat) (Q : Int32 → Prop) : Prop :=
  (¬ (1 : Int32) = 0 ∧ (mK μ o = 1 ∧ ((mI μ 1 o) = 0 ∧ (Q (nI 1)))))
def w_J6_getChars_ba4f3_b118 (G : mgT) (Q : Int32 → mmT → Prop) (x5 : Int32) (μ : mmT) : Prop :=
  (Q x5 μ)
def w_J6_getChars_ba4f3_b104 (G : mgT) (Q : Int32 → mmT → Prop) (r2 : Option Nat) (x5 : Int32) (x6 : Int32) (μ : mmT) : Prop :=
  ((x6 = 0 → (w_J6_getChars_ba4f3_b118 G Q  x5 μ)) ∧ (¬ x6 = 0 → (∃ a11, r2 = some a11 ∧ (mK μ a11 = 32 ∧ (vp_in (x5 + (-1)) (mN μ a11) ∧ (w_J6_getChars_ba4f3_b118 G Q  (x5 + (-1)) (sA μ a11 (x5 + (-1)).toNatClampNeg (vp_nar .byte (nI 45)))))))))
def w_J6_getChars_ba4f3_b22 (G : mgT) (Q : Int32 → mmT → Prop) (K22 : Int32 → Option Nat → Int32 → Int32 → mmT → Prop) (x0 : Int32) (r2 : Option Nat) (x5 : Int32) (x6 : Int32) (μ : mmT) : Prop :=
  (((-100) < x0 → (vp_in (-x0) 100 ∧ (∃ a5, r2 = some a5 ∧ (mK μ a5 = 32 ∧ (vp_in (x5 + (-1)) (mN μ a5) ∧ (((-9) ≤ x0 → (w_J6_getChars_ba4f3_b104 G Q  r2 (x5 + (-1)) x6 (sA μ a5 (x5 + (-1)).toNatClampNeg (vp_nar .byte (gOne (-x0).toNatClampNeg))))) ∧ (¬ (-9) ≤ x0 → (vp_in (-x0) 100 ∧ (vp_in ((x5 + (-1)) + (-1)) (mN (sA μ a5 (x5 + (-1)).toNatClampNeg (vp_nar .byte (gOne (-x0).toNatClampNeg))) a5) ∧ (w_J6_getChars_ba4f3_b104 G Q  r2 ((x5 + (-1)) + (-1)) x6 (sA (sA μ a5 (x5 + (-1)).toNatClampNeg (vp_nar .byte (gOne (-x0).toNatClampNeg))) a5 ((x5 + (-1)) + (-1)).toNatClampNeg (vp_nar .byte (gTen (-x0).toNatClampNeg))))))))))))) ∧ (¬ (-100) < x0 → (vp_in (((x0 / (nI 100)) * (nI 100)) - x0) 100 ∧ (∃ a19, r2 = some a19 ∧ (mK μ a19 = 32 ∧ (vp_in (x5 + (-1)) (mN μ a19) ∧ (vp_in (((x0 / (nI 100)) * (nI 100)) - x0) 100 ∧ (vp_in ((x5 + (-1)) + (-1)) (mN (sA μ a19 (x5 + (-1)).toNatClampNeg (vp_nar .byte (gOne (((x0 / (nI 100)) * (nI 100)) - x0).toNatClampNeg))) a19) ∧ (K22 (x0 / (nI 100)) r2 ((x5 + (-1)) + (-1)) x6 (sA (sA μ a19 (x5 + (-1)).toNatClampNeg (vp_nar .byte (gOne (((x0 / (nI 100)) * (nI 100)) - x0).toNatClampNeg))) a19 ((x5 + (-1)) + (-1)).toNatClampNeg (vp_nar .byte (gTen (((x0 / (nI 100)) * (nI 100)) - x0).toNatClampNeg))))))))))))
def w_J6_getChars_la4f3_l22 (G : mgT) (Q : Int32 → mmT → Prop) : Nat → Int32 → Option Nat → Int32 → Int32 → mmT → Prop
  | 0 => fun _ _ _ _ _ => False
  | n + 1 => fun x0 r2 x5 x6 μ => w_J6_getChars_ba4f3_b22 G Q  (w_J6_getChars_la4f3_l22 G Q  n) x0 r2 x5 x6 μ
def w_J6_getChars_ba4f3_b12 (G : mgT) (Q : Int32 → mmT → Prop) (x0 : Int32) (r2 : Option Nat) (x5 : Int32) (s0 : Int32) (μ : mmT) : Prop :=
  ((¬ s0 = 0 → (∃ n, w_J6_getChars_la4f3_l22 G Q  n x0 r2 x5 s0 μ)) ∧ (s0 = 0 → (∃ n, w_J6_getChars_la4f3_l22 G Q  n (-x0) r2 x5 s0 μ)))
def w_J6_getChars_ba4f3 (G : mgT) (μ : mmT) (x0 : Int32) (x1 : Int32) (r2 : Option Nat) (Q : Int32 → mmT → Prop) : Prop :=
  ((0 ≤ x0 → (w_J6_getChars_ba4f3_b12 G Q  x0 r2 x1 (nI 0) μ)) ∧ (¬ 0 ≤ x0 → (w_J6_getChars_ba4f3_b12 G Q  x0 r2 x1 (nI 1) μ)))
def w_J5_append_c97b9 (G : mgT) (μ : mmT) (o : Nat) (x1 : Int32) (Q : Option Nat → mmT → Prop) : Prop :=
  (mK μ o = 1 ∧ (w_J6_stringSize_0f7a4 G μ x1 (fun u2 => (w_J5_ensureCapacityInternal_d00df G μ o ((mI μ 3 o) + u2) ((w_J5_isLatin1_aae02 G μ o (fun u3 => (¬ u3 = 0 ∧ (w_J6_getChars_ba4f3 G μ x1 ((mI μ 3 o) + u2) (mR μ 0 o) (fun u5 μ6 => (mK μ6 o = 1 ∧ (Q (some o) (sI μ6 3 o ((mI μ 3 o) + u2))))))))))))))
def w_J4_append_bf812 (G : mgT) (μ : mmT) (o : Nat) (x1 : Int32) (Q : Option Nat → mmT → Prop) : Prop :=
  (mK μ o = 1 ∧ (w_J5_append_c97b9 G μ o x1 (fun ru2 μ3 => (Q (some o) μ3))))
def w_J5_getValue_6d5f1 (G : mgT) (μ : mmT) (o : Nat) (Q : Option Nat → Prop) : Prop :=
  (mK μ o = 1 ∧ (Q (mR μ 0 o)))
def w_J5_length_8abf5 (G : mgT) (μ : mmT) (o : Nat) (Q : Int32 → Prop) : Prop :=
  (mK μ o = 1 ∧ (Q (mI μ 3 o)))
def w_J4_length_8abf5 (G : mgT) (μ : mmT) (o : Nat) (Q : Int32 → Prop) : Prop :=
  (mK μ o = 1 ∧ (w_J5_length_8abf5 G μ o (fun u2 => (Q u2))))
def w_J7_checkLength_df160 (G : mgT) (μ : mmT) (x0 : Int32) (x1 : Int32) (Q : Prop) : Prop :=
  (x0 ≤ x1 ∧ Q)
def w_J7_copyOfRangeByte_39247 (G : mgT) (μ : mmT) (r0 : Option Nat) (x1 : Int32) (x2 : Int32) (Q : Option Nat → mmT → Prop) : Prop :=
  (w_J7_checkLength_df160 G μ x1 x2 ((∀ zz1 : Nat, (∀ a9 : Nat, mK μ a9 ≠ 0 → a9 < zz1) → (¬ (x2 - x1) < 0 ∧ ((x2 - x1).toNatClampNeg ≤ 16 ∧ (∃ a4, r0 = some a4 ∧ (mK (nA μ zz1 0 ((x2 - x1).toNatClampNeg)) a4 = 32 ∧ (mK (nA μ zz1 0 ((x2 - x1).toNatClampNeg)) zz1 = 32 ∧ (¬ x1 < 0 ∧ (¬ (if (x2 - x1) < ((nI (mN (nA μ zz1 0 ((x2 - x1).toNatClampNeg)) a4)) - x1) then (x2 - x1) else ((nI (mN (nA μ zz1 0 ((x2 - x1).toNatClampNeg)) a4)) - x1)) < 0 ∧ (x1.toNatClampNeg + (if (x2 - x1) < ((nI (mN (nA μ zz1 0 ((x2 - x1).toNatClampNeg)) a4)) - x1) then (x2 - x1) else ((nI (mN (nA μ zz1 0 ((x2 - x1).toNatClampNeg)) a4)) - x1)).toNatClampNeg ≤ mN (nA μ zz1 0 ((x2 - x1).toNatClampNeg)) a4 ∧ ((nI 0).toNatClampNeg + (if (x2 - x1) < ((nI (mN (nA μ zz1 0 ((x2 - x1).toNatClampNeg)) a4)) - x1) then (x2 - x1) else ((nI (mN (nA μ zz1 0 ((x2 - x1).toNatClampNeg)) a4)) - x1)).toNatClampNeg ≤ mN (nA μ zz1 0 ((x2 - x1).toNatClampNeg)) zz1 ∧ ((∀ i9, i9 < (if (x2 - x1) < ((nI (mN (nA μ zz1 0 ((x2 - x1).toNatClampNeg)) a4)) - x1) then (x2 - x1) else ((nI (mN (nA μ zz1 0 ((x2 - x1).toNatClampNeg)) a4)) - x1)).toNatClampNeg → fits .byte (.int (mA (nA μ zz1 0 ((x2 - x1).toNatClampNeg)) a4 (x1.toNatClampNeg + i9))) = true) ∧ (Q (some zz1) (sX (nA μ zz1 0 ((x2 - x1).toNatClampNeg)) (fun i9 => mA (nA μ zz1 0 ((x2 - x1).toNatClampNeg)) a4 (x1.toNatClampNeg + i9)) zz1 (nI 0).toNatClampNeg (if (x2 - x1) < ((nI (mN (nA μ zz1 0 ((x2 - x1).toNatClampNeg)) a4)) - x1) then (x2 - x1) else ((nI (mN (nA μ zz1 0 ((x2 - x1).toNatClampNeg)) a4)) - x1)).toNatClampNeg)))))))))))))))
def w_J7_copyOfRange_39247_b10 (G : mgT) (Q : Option Nat → mmT → Prop) (r0 : Option Nat) (x1 : Int32) (x2 : Int32) (μ : mmT) : Prop :=
  (w_J7_copyOfRangeByte_39247 G μ r0 x1 x2 (fun ru2 μ3 => (Q ru2 μ3)))
def w_J7_copyOfRange_39247 (G : mgT) (μ : mmT) (r0 : Option Nat) (x1 : Int32) (x2 : Int32) (Q : Option Nat → mmT → Prop) : Prop :=
  ((¬ x1 = 0 → (w_J7_copyOfRange_39247_b10 G Q  r0 x1 x2 μ)) ∧ (x1 = 0 → (∃ a4, r0 = some a4 ∧ (mK μ a4 = 32 ∧ ((x2 = (nI (mN μ a4)) → ((∀ i9, i9 < mN μ a4 → fits .byte (.int (mA μ a4 i9)) = true) ∧ (mN μ a4 ≤ 16 ∧ (∀ zz10 : Nat, (∀ a9 : Nat, mK μ a9 ≠ 0 → a9 < zz10) → (mK (nB μ zz10 a4) zz10 = 32 ∧ (Q (some zz10) (nB μ zz10 a4))))))) ∧ (¬ x2 = (nI (mN μ a4)) → (w_J7_copyOfRange_39247_b10 G Q  r0 x1 x2 μ)))))))
def w_J0_init_db425 (G : mgT) (μ : mmT) (o : Nat) (r1 : Option Nat) (r2 : Option Nat) (Q : mmT → Prop) : Prop :=
  (∃ a1, r1 = some a1 ∧ (mK μ a1 = 1 ∧ (w_J5_getValue_6d5f1 G μ a1 (fun ru4 => (w_J4_length_8abf5 G μ a1 (fun u5 => (w_J5_isLatin1_aae02 G μ a1 (fun u6 => (¬ u6 = 0 ∧ (mK μ o = 11 ∧ (w_J7_copyOfRange_39247 G (sI μ 321 o (nI 0)) ru4 (nI 0) u5 (fun ru9 μ10 => (mK μ10 o = 11 ∧ (Q (sR μ10 320 o ru9)))))))))))))))
def w_J0_init_81219 (G : mgT) (μ : mmT) (o : Nat) (r1 : Option Nat) (Q : mmT → Prop) : Prop :=
  (mK μ o = 11 ∧ (w_J0_init_db425 G μ o r1 none (fun μ2 => (Q μ2))))
def w_J4_toString_0e30d (G : mgT) (μ : mmT) (o : Nat) (Q : Option Nat → mmT → Prop) : Prop :=
  (∀ zz1 : Nat, (∀ a9 : Nat, mK μ a9 ≠ 0 → a9 < zz1) → (mK (nO μ zz1 10) zz1 = 11 ∧ (w_J0_init_81219 G (nO μ zz1 10) zz1 (some o) (fun μ3 => (Q (some zz1) μ3)))))
def w_J5_inflateIfNeededFor_a7421_D (G : mgT) (μ : mmT) (o : Nat) (r1 : Option Nat) (Q : Prop) : Prop :=
  (¬ (1 : Int32) = 0 ∧ (mK μ o = 1 ∧ (∃ a3, r1 = some a3 ∧ (mK μ a3 = 11 ∧ (w_J0_coder_7d493_D G μ a3 (fun u6 => ((mI μ 1 o) = u6 ∧ Q)))))))
def w_J0_getBytes_840e7_D (G : mgT) (μ : mmT) (o : Nat) (r1 : Option Nat) (x2 : Int32) (x3 : Int32) (Q : mmT → Prop) : Prop :=
  (mK μ o = 11 ∧ (w_J0_coder_7d493_D G μ o (fun u2 => (u2 = x3 ∧ (∃ a4, (mR μ 320 o) = some a4 ∧ (mK μ a4 = 32 ∧ (∃ a7, r1 = some a7 ∧ (mK μ a7 = 32 ∧ (¬ (x2 <<< (x3 &&& 31)) < 0 ∧ (¬ (nI (mN μ a4)) < 0 ∧ ((nI 0).toNatClampNeg + (nI (mN μ a4)).toNatClampNeg ≤ mN μ a4 ∧ ((x2 <<< (x3 &&& 31)).toNatClampNeg + (nI (mN μ a4)).toNatClampNeg ≤ mN μ a7 ∧ ((∀ i9, i9 < (nI (mN μ a4)).toNatClampNeg → fits .byte (.int (mA μ a4 ((nI 0).toNatClampNeg + i9))) = true) ∧ (Q (sX μ (fun i9 => mA μ a4 ((nI 0).toNatClampNeg + i9)) a7 (x2 <<< (x3 &&& 31)).toNatClampNeg (nI (mN μ a4)).toNatClampNeg)))))))))))))))
def w_J5_putStringAt_47b60_D (G : mgT) (μ : mmT) (o : Nat) (x1 : Int32) (r2 : Option Nat) (Q : mmT → Prop) : Prop :=
  (mK μ o = 1 ∧ (w_J5_inflateIfNeededFor_a7421_D G μ o r2 ((∃ a2, r2 = some a2 ∧ (mK μ a2 = 11 ∧ (w_J0_getBytes_840e7_D G μ a2 (mR μ 0 o) x1 (mI μ 1 o) (fun μ5 => (Q μ5))))))))
def w_J5_append_cf1ce_D (G : mgT) (μ : mmT) (o : Nat) (r1 : Option Nat) (Q : Option Nat → mmT → Prop) : Prop :=
  (∃ a1, r1 = some a1 ∧ (mK μ a1 = 11 ∧ (w_J0_length_8abf5_D G μ a1 (fun u4 => (mK μ o = 1 ∧ (w_J5_ensureCapacityInternal_d00df G μ o ((mI μ 3 o) + u4) ((w_J5_putStringAt_47b60_D G μ o (mI μ 3 o) r1 (fun μ6 => (mK μ6 o = 1 ∧ (Q (some o) (sI μ6 3 o ((mI μ6 3 o) + u4)))))))))))))
def w_J4_append_15ec4_D (G : mgT) (μ : mmT) (o : Nat) (r1 : Option Nat) (Q : Option Nat → mmT → Prop) : Prop :=
  (mK μ o = 1 ∧ (w_J5_append_cf1ce_D G μ o r1 (fun ru2 μ3 => (Q (some o) μ3))))
def w_L_does_b324 (G : mgT) (Q : Int32 → mmT → Prop) (r3 : Option Nat) (x4 : Int32) (x6 : Int32) (x8 : Int32) (μ : mmT) : Prop :=
  (∀ zz10 : Nat, (∀ a9 : Nat, mK μ a9 ≠ 0 → a9 < zz10) → (mK (nO μ zz10 0) zz10 = 1 ∧ (w_J4_init_da8c8 G (nO μ zz10 0) (zz10 + 1) zz10 (fun μ12 z13 => (mK μ12 zz10 = 1 ∧ (w_J4_append_15ec4 G μ12 zz10 (some (gS G 8)) (fun ru15 μ16 => (∃ a18, ru15 = some a18 ∧ (mK μ16 a18 = 1 ∧ (w_J4_append_bf812 G μ16 a18 ((nI 1) + (x6 - x6 / (nI 9) * (nI 9))) (fun ru21 μ22 => ((¬ (x6 - x6 / (nI 4) * (nI 4)) = 0 → ((¬ (x6 - x6 / (nI 4) * (nI 4)) = (nI 1) → ((¬ (x6 - x6 / (nI 4) * (nI 4)) = (nI 2) → (∃ a29, ru21 = some a29 ∧ (mK μ22 a29 = 1 ∧ (w_J4_append_15ec4 G μ22 a29 (some (gS G 14)) (fun ru32 μ33 => (∃ a34, ru32 = some a34 ∧ (mK μ33 a34 = 1 ∧ (w_J4_toString_0e30d G μ33 a34 (fun ru37 μ38 => (w_L_runs G μ38 r3 ru37 (fun u39 μ40 => (Q u39 μ40)))))))))))) ∧ ((x6 - x6 / (nI 4) * (nI 4)) = (nI 2) → (∀ zz41 : Nat, (∀ a9 : Nat, mK μ22 a9 ≠ 0 → a9 < zz41) → (mK (nO μ22 zz41 0) zz41 = 1 ∧ (w_J4_init_da8c8 G (nO μ22 zz41 0) (zz41 + 1) zz41 (fun μ43 z44 => (mK μ43 zz41 = 1 ∧ (w_J4_append_15ec4 G μ43 zz41 (some (gS G 13)) (fun ru46 μ47 => (∃ a48, ru46 = some a48 ∧ (mK μ47 a48 = 1 ∧ (w_J4_append_bf812 G μ47 a48 x8 (fun ru51 μ52 => (∃ a53, ru51 = some a53 ∧ (mK μ52 a53 = 1 ∧ (w_J4_toString_0e30d G μ52 a53 (fun ru56 μ57 => (∃ a58, ru21 = some a58 ∧ (mK μ57 a58 = 1 ∧ (w_J4_append_15ec4_D G μ57 a58 ru56 (fun ru61 μ62 => (∃ a63, ru61 = some a63 ∧ (mK μ62 a63 = 1 ∧ (w_J4_toString_0e30d G μ62 a63 (fun ru66 μ67 => (w_L_runs G μ67 r3 ru66 (fun u68 μ69 => (Q u68 μ69))))))))))))))))))))))))))))) ∧ ((x6 - x6 / (nI 4) * (nI 4)) = (nI 1) → (∀ zz70 : Nat, (∀ a9 : Nat, mK μ22 a9 ≠ 0 → a9 < zz70) → (mK (nO μ22 zz70 0) zz70 = 1 ∧ (w_J4_init_da8c8 G (nO μ22 zz70 0) (zz70 + 1) zz70 (fun μ72 z73 => (mK μ72 zz70 = 1 ∧ (w_J4_append_15ec4 G μ72 zz70 (some (gS G 12)) (fun ru75 μ76 => (∃ a77, ru75 = some a77 ∧ (mK μ76 a77 = 1 ∧ (w_J4_append_bf812 G μ76 a77 x4 (fun ru80 μ81 => (∃ a82, ru80 = some a82 ∧ (mK μ81 a82 = 1 ∧ (w_J4_toString_0e30d G μ81 a82 (fun ru85 μ86 => (∃ a87, ru21 = some a87 ∧ (mK μ86 a87 = 1 ∧ (w_J4_append_15ec4_D G μ86 a87 ru85 (fun ru90 μ91 => (∃ a92, ru90 = some a92 ∧ (mK μ91 a92 = 1 ∧ (w_J4_toString_0e30d G μ91 a92 (fun ru95 μ96 => (w_L_runs G μ96 r3 ru95 (fun u97 μ98 => (Q u97 μ98))))))))))))))))))))))))))))) ∧ ((x6 - x6 / (nI 4) * (nI 4)) = 0 → (∀ zz99 : Nat, (∀ a9 : Nat, mK μ22 a9 ≠ 0 → a9 < zz99) → (mK (nO μ22 zz99 0) zz99 = 1 ∧ (w_J4_init_da8c8 G (nO μ22 zz99 0) (zz99 + 1) zz99 (fun μ101 z102 => (mK μ101 zz99 = 1 ∧ (w_J4_append_15ec4 G μ101 zz99 (some (gS G 9)) (fun ru104 μ105 => (∃ a106, ru104 = some a106 ∧ (mK μ105 a106 = 1 ∧ (w_J4_append_bf812 G μ105 a106 x8 (fun ru109 μ110 => (∃ a111, ru109 = some a111 ∧ (mK μ110 a111 = 1 ∧ (w_J4_append_15ec4 G μ110 a111 (some (gS G 10)) (fun ru114 μ115 => (∃ a117, ru114 = some a117 ∧ (mK μ115 a117 = 1 ∧ (w_J4_append_bf812 G μ115 a117 (x6 - x6 / (nI 20) * (nI 20)) (fun ru120 μ121 => (∃ a122, ru120 = some a122 ∧ (mK μ121 a122 = 1 ∧ (w_J4_toString_0e30d G μ121 a122 (fun ru125 μ126 => (∃ a127, ru21 = some a127 ∧ (mK μ126 a127 = 1 ∧ (w_J4_append_15ec4_D G μ126 a127 ru125 (fun ru130 μ131 => (∃ a132, ru130 = some a132 ∧ (mK μ131 a132 = 1 ∧ (w_J4_toString_0e30d G μ131 a132 (fun ru135 μ136 => (w_L_runs G μ136 r3 ru135 (fun u137 μ138 => (Q u137 μ138)))))))))))))))))))))))))))))))))))))))))))))))
def w_L_does_b242 (G : mgT) (Q : Int32 → mmT → Prop) (x7 : Int32) (s0 : Option Nat) (s1 : Int32) (μ : mmT) : Prop :=
  (w_L_addNest G μ s0 s1 ((x7 / (nI 11)) - (x7 / (nI 11)) / (nI 6) * (nI 6)) (fun u144 μ145 => (Q u144 μ145)))
def w_L_does_b220 (G : mgT) (Q : Int32 → mmT → Prop) (r3 : Option Nat) (x6 : Int32) (x7 : Int32) (μ : mmT) : Prop :=
  ((¬ (x6 - x6 / (nI 3) * (nI 3)) = 0 → (w_L_does_b242 G Q  x7 r3 ((nI 1) + (x7 - x7 / (nI 3) * (nI 3))) μ)) ∧ ((x6 - x6 / (nI 3) * (nI 3)) = 0 → (w_L_does_b242 G Q  x7 r3 (x7 - x7 / (nI 11) * (nI 11)) μ)))
def w_L_does_b254 (G : mgT) (Q : Int32 → mmT → Prop) (r3 : Option Nat) (μ : mmT) : Prop :=
  (w_L_addCrow G μ r3 (fun u147 μ148 => (Q u147 μ148)))
def w_L_does_b259 (G : mgT) (Q : Int32 → mmT → Prop) (r3 : Option Nat) (x7 : Int32) (μ : mmT) : Prop :=
  (w_L_setWind G μ r3 (x7 - x7 / (nI 11) * (nI 11)) (fun u150 μ151 => (Q u150 μ151)))
def w_L_does_b292 (G : mgT) (Q : Int32 → mmT → Prop) (s0 : Option Nat) (s1 : Int32) (s2 : Int32) (μ : mmT) : Prop :=
  (w_L_publish G μ s0 s1 s2 (fun u155 μ156 => (Q u155 μ156)))
def w_L_does_b269 (G : mgT) (Q : Int32 → mmT → Prop) (r3 : Option Nat) (x6 : Int32) (x8 : Int32) (μ : mmT) : Prop :=
  ((¬ (x6 - x6 / (nI 3) * (nI 3)) = 0 → (w_L_does_b292 G Q  r3 x8 (x6 - x6 / (nI 12) * (nI 12)) μ)) ∧ ((x6 - x6 / (nI 3) * (nI 3)) = 0 → (w_L_does_b292 G Q  r3 x8 (x6 - x6 / (nI 101) * (nI 101)) μ)))
def w_L_does_b296 (G : mgT) (Q : Int32 → mmT → Prop) (r3 : Option Nat) (x8 : Int32) (μ : mmT) : Prop :=
  (w_L_read G μ r3 x8 (fun u158 μ159 => (Q u158 μ159)))
def w_L_does_b303 (G : mgT) (Q : Int32 → mmT → Prop) (r3 : Option Nat) (x8 : Int32) (μ : mmT) : Prop :=
  (w_L_forget G μ r3 x8 (fun u160 μ161 => (Q u160 μ161)))
def w_L_does_b310 (G : mgT) (Q : Int32 → mmT → Prop) (r3 : Option Nat) (x4 : Int32) (μ : mmT) : Prop :=
  (w_L_cancel G μ r3 x4 (fun u162 μ163 => (Q u162 μ163)))
def w_L_does_b317 (G : mgT) (Q : Int32 → mmT → Prop) (r3 : Option Nat) (x5 : Int32) (μ : mmT) : Prop :=
  (w_L_advance G μ r3 x5 (fun u164 μ165 => (Q u164 μ165)))
def w_L_does_b50 (G : mgT) (Q : Int32 → mmT → Prop) (x2 : Int32) (r3 : Option Nat) (x4 : Int32) (x5 : Int32) (x6 : Int32) (x7 : Int32) (s0 : Int32) (s1 : Int32) (s2 : Int32) (μ : mmT) : Prop :=
  (¬ (s1 + s2) = 0 ∧ (((∀ k ∈ ([0, 1, 2, 3, 4, 5, 6, 7, 8, 9, 10, 11, 12, 13, 14, 15, 16, 17, 18, 19, 20, 21, 22, 23, 24, 25, 26, 27, 28, 29, 30, 31, 32, 33, 34, 35, 36, 37] : List Nat), ¬ x2 = nI k) → (w_L_does_b324 G Q  r3 x4 x6 (s0 - s0 / (s1 + s2) * (s1 + s2)) μ)) ∧ (x2 = nI 0 → (w_L_does_b220 G Q  r3 x6 x7 μ)) ∧ (x2 = nI 1 → (w_L_does_b220 G Q  r3 x6 x7 μ)) ∧ (x2 = nI 2 → (w_L_does_b254 G Q  r3 μ)) ∧ (x2 = nI 3 → (w_L_does_b254 G Q  r3 μ)) ∧ (x2 = nI 4 → (w_L_does_b259 G Q  r3 x7 μ)) ∧ (x2 = nI 5 → (w_L_does_b259 G Q  r3 x7 μ)) ∧ (x2 = nI 6 → (w_L_does_b269 G Q  r3 x6 (s0 - s0 / (s1 + s2) * (s1 + s2)) μ)) ∧ (x2 = nI 7 → (w_L_does_b269 G Q  r3 x6 (s0 - s0 / (s1 + s2) * (s1 + s2)) μ)) ∧ (x2 = nI 8 → (w_L_does_b269 G Q  r3 x6 (s0 - s0 / (s1 + s2) * (s1 + s2)) μ)) ∧ (x2 = nI 9 → (w_L_does_b269 G Q  r3 x6 (s0 - s0 / (s1 + s2) * (s1 + s2)) μ)) ∧ (x2 = nI 10 → (w_L_does_b269 G Q  r3 x6 (s0 - s0 / (s1 + s2) * (s1 + s2)) μ)) ∧ (x2 = nI 11 → (w_L_does_b269 G Q  r3 x6 (s0 - s0 / (s1 + s2) * (s1 + s2)) μ)) ∧ (x2 = nI 12 → (w_L_does_b269 G Q  r3 x6 (s0 - s0 / (s1 + s2) * (s1 + s2)) μ)) ∧ (x2 = nI 13 → (w_L_does_b269 G Q  r3 x6 (s0 - s0 / (s1 + s2) * (s1 + s2)) μ)) ∧ (x2 = nI 14 → (w_L_does_b269 G Q  r3 x6 (s0 - s0 / (s1 + s2) * (s1 + s2)) μ)) ∧ (x2 = nI 15 → (w_L_does_b269 G Q  r3 x6 (s0 - s0 / (s1 + s2) * (s1 + s2)) μ)) ∧ (x2 = nI 16 → (w_L_does_b269 G Q  r3 x6 (s0 - s0 / (s1 + s2) * (s1 + s2)) μ)) ∧ (x2 = nI 17 → (w_L_does_b269 G Q  r3 x6 (s0 - s0 / (s1 + s2) * (s1 + s2)) μ)) ∧ (x2 = nI 18 → (w_L_does_b269 G Q  r3 x6 (s0 - s0 / (s1 + s2) * (s1 + s2)) μ)) ∧ (x2 = nI 19 → (w_L_does_b269 G Q  r3 x6 (s0 - s0 / (s1 + s2) * (s1 + s2)) μ)) ∧ (x2 = nI 20 → (w_L_does_b296 G Q  r3 (s0 - s0 / (s1 + s2) * (s1 + s2)) μ)) ∧ (x2 = nI 21 → (w_L_does_b296 G Q  r3 (s0 - s0 / (s1 + s2) * (s1 + s2)) μ)) ∧ (x2 = nI 22 → (w_L_does_b296 G Q  r3 (s0 - s0 / (s1 + s2) * (s1 + s2)) μ)) ∧ (x2 = nI 23 → (w_L_does_b296 G Q  r3 (s0 - s0 / (s1 + s2) * (s1 + s2)) μ)) ∧ (x2 = nI 24 → (w_L_does_b296 G Q  r3 (s0 - s0 / (s1 + s2) * (s1 + s2)) μ)) ∧ (x2 = nI 25 → (w_L_does_b303 G Q  r3 (s0 - s0 / (s1 + s2) * (s1 + s2)) μ)) ∧ (x2 = nI 26 → (w_L_does_b303 G Q  r3 (s0 - s0 / (s1 + s2) * (s1 + s2)) μ)) ∧ (x2 = nI 27 → (w_L_does_b310 G Q  r3 x4 μ)) ∧ (x2 = nI 28 → (w_L_does_b310 G Q  r3 x4 μ)) ∧ (x2 = nI 29 → (w_L_does_b310 G Q  r3 x4 μ)) ∧ (x2 = nI 30 → (w_L_does_b317 G Q  r3 x5 μ)) ∧ (x2 = nI 31 → (w_L_does_b317 G Q  r3 x5 μ)) ∧ (x2 = nI 32 → (w_L_does_b317 G Q  r3 x5 μ)) ∧ (x2 = nI 33 → (w_L_does_b317 G Q  r3 x5 μ)) ∧ (x2 = nI 34 → (w_L_does_b317 G Q  r3 x5 μ)) ∧ (x2 = nI 35 → (w_L_does_b317 G Q  r3 x5 μ)) ∧ (x2 = nI 36 → (w_L_does_b317 G Q  r3 x5 μ)) ∧ (x2 = nI 37 → (w_L_does_b317 G Q  r3 x5 μ))))
def w_L_does_b45 (G : mgT) (Q : Int32 → mmT → Prop) (x2 : Int32) (r3 : Option Nat) (x4 : Int32) (x5 : Int32) (x6 : Int32) (x7 : Int32) (s0 : Int32) (s1 : Int32) (μ : mmT) : Prop :=
  (w_L_does_b50 G Q  x2 r3 x4 x5 x6 x7 s0 s1 (nI 1) μ)
def w_L_does (G : mgT) (μ : mmT) (x1 : Int32) (x2 : Int32) (r3 : Option Nat) (x4 : Int32) (x5 : Int32) (Q : Int32 → mmT → Prop) : Prop :=
  (w_L_pick G μ (x1 + (nI 3)) (nI 1000) (fun u1 => (w_L_pick G μ (x1 + (nI 4)) (nI 1000) (fun u2 => (∃ a3, r3 = some a3 ∧ (mK μ a3 = 10 ∧ (w_X10_nestCount G μ a3 (fun u6 => (((u1 - u1 / (nI 19) * (nI 19)) = 0 → (w_L_does_b45 G Q  x2 r3 x4 x5 u1 u2 u2 u6 μ)) ∧ (¬ (u1 - u1 / (nI 19) * (nI 19)) = 0 → (w_X10_nestCount G μ a3 (fun u166 => ((¬ u166 = 0 → (w_L_does_b50 G Q  x2 r3 x4 x5 u1 u2 u2 u6 (nI 0) μ)) ∧ (u166 = 0 → (w_L_does_b45 G Q  x2 r3 x4 x5 u1 u2 u2 u6 μ)))))))))))))))
def w_Jxf58ca_isNaN_12338_b11 (G : mgT) (μ : mmT) (Q : Int32 → Prop) (s0 : Int32) : Prop :=
  ((s0 = 0 ∨ s0 = 1) ∧ (Q s0))
def w_Jxf58ca_isNaN_12338 (G : mgT) (μ : mmT) (x0 : UInt32) (Q : Int32 → Prop) : Prop :=
  (((Op.cmpValue (FP.fcmp x0 x0) .l) = 0 → (w_Jxf58ca_isNaN_12338_b11 G μ Q  (nI 0))) ∧ (¬ (Op.cmpValue (FP.fcmp x0 x0) .l) = 0 → (w_Jxf58ca_isNaN_12338_b11 G μ Q  (nI 1))))
def w_Jxf58ca_floatToIntBits_5c35a (G : mgT) (μ : mmT) (x0 : UInt32) (Q : Int32 → Prop) : Prop :=
  (w_Jxf58ca_isNaN_12338 G μ x0 (fun u1 => (u1 = 0 ∧ (Q x0.toInt32))))
def w_Jxe99ae_isNaN_b9ae7_b11 (G : mgT) (μ : mmT) (Q : Int32 → Prop) (s0 : Int32) : Prop :=
  ((s0 = 0 ∨ s0 = 1) ∧ (Q s0))
def w_Jxe99ae_isNaN_b9ae7 (G : mgT) (μ : mmT) (x0 : UInt64) (Q : Int32 → Prop) : Prop :=
  (((Op.cmpValue (FP.dcmp x0 x0) .l) = 0 → (w_Jxe99ae_isNaN_b9ae7_b11 G μ Q  (nI 0))) ∧ (¬ (Op.cmpValue (FP.dcmp x0 x0) .l) = 0 → (w_Jxe99ae_isNaN_b9ae7_b11 G μ Q  (nI 1))))
def w_Jxe99ae_doubleToLongBits_ccdee (G : mgT) (μ : mmT) (x0 : UInt64) (Q : Int64 → Prop) : Prop :=
  (w_Jxe99ae_isNaN_b9ae7 G μ x0 (fun u1 => (u1 = 0 ∧ (Q x0.toInt64))))
def w_L_isMessage_b511 (G : mgT) (Q : Int32 → mmT → Prop) (s0 : Int32) (μ : mmT) : Prop :=
  ((s0 = 0 ∨ s0 = 1) ∧ (Q s0 μ))
def w_L_isMessage_b510 (G : mgT) (Q : Int32 → mmT → Prop) (μ : mmT) : Prop :=
  (w_L_isMessage_b511 G Q  (nI 0) μ)
def w_L_isMessage_b506 (G : mgT) (Q : Int32 → mmT → Prop) (μ : mmT) : Prop :=
  (w_L_isMessage_b511 G Q  (nI 1) μ)
def w_L_isMessage_b463 (G : mgT) (Q : Int32 → mmT → Prop) (r0 : Option Nat) (x2 : Int32) (x4 : Int32) (μ : mmT) : Prop :=
  (∃ a38, r0 = some a38 ∧ (mK μ a38 = 10 ∧ (w_X10_publishedTotal G μ a38 (fun u41 => ((u41 ≤ x2 → (w_L_isMessage_b510 G Q  μ)) ∧ (¬ u41 ≤ x2 → (w_L_keyOf G μ r0 x2 (fun u43 => ((u43 < 0 → (w_L_isMessage_b510 G Q  μ)) ∧ (¬ u43 < 0 → (w_L_keyOf G μ r0 x2 (fun u45 => (((nI 99) < u45 → (w_L_isMessage_b510 G Q  μ)) ∧ (¬ (nI 99) < u45 → ((¬ x4 = (nI 100) → (w_L_isMessage_b506 G Q  μ)) ∧ (x4 = (nI 100) → (w_L_minutesUntilDelivered G μ r0 x2 (fun u48 μ49 => ((¬ u48 = (-79) → (w_L_isMessage_b510 G Q  μ49)) ∧ (u48 = (-79) → (w_L_isMessage_b506 G Q  μ49)))))))))))))))))))))
def w_L_isMessage_b439 (G : mgT) (Q : Int32 → mmT → Prop) (r0 : Option Nat) (x1 : Int32) (x2 : Int32) (x4 : Int32) (x5 : Int32) (s0 : Int32) (s1 : Int32) (μ : mmT) : Prop :=
  ((s0 < s1 → (w_L_isMessage_b510 G Q  μ)) ∧ (¬ s0 < s1 → (((nI 5) < x5 → (w_L_isMessage_b510 G Q  μ)) ∧ (¬ (nI 5) < x5 → ((x1 = 0 → (w_L_isMessage_b463 G Q  r0 x2 x4 μ)) ∧ (¬ x1 = 0 → (w_L_messageAt G μ r0 (x1 - (nI 1)) (fun u51 => ((x2 ≤ u51 → (w_L_isMessage_b510 G Q  μ)) ∧ (¬ x2 ≤ u51 → (w_L_isMessage_b463 G Q  r0 x2 x4 μ)))))))))))
def w_L_isMessage_b403 (G : mgT) (Q : Int32 → mmT → Prop) (r0 : Option Nat) (x1 : Int32) (x2 : Int32) (x4 : Int32) (x5 : Int32) (x9 : Int32) (x10 : Int32) (x12 : Int32) (s0 : Int32) (μ : mmT) : Prop :=
  ((x9 = 0 → (w_L_isMessage_b510 G Q  μ)) ∧ (¬ x9 = 0 → ((x10 = 0 → (w_L_isMessage_b510 G Q  μ)) ∧ (¬ x10 = 0 → ((x12 = 0 → (w_L_isMessage_b510 G Q  μ)) ∧ (¬ x12 = 0 → ((s0 = 0 → (w_L_isMessage_b510 G Q  μ)) ∧ (¬ s0 = 0 → ((¬ x4 = (nI 100) → (w_L_isMessage_b439 G Q  r0 x1 x2 x4 x5 x5 (nI 0) μ)) ∧ (x4 = (nI 100) → (w_L_isMessage_b439 G Q  r0 x1 x2 x4 x5 x5 (nI 1) μ)))))))))))
def w_L_isMessage_b398 (G : mgT) (Q : Int32 → mmT → Prop) (r0 : Option Nat) (x1 : Int32) (x2 : Int32) (x4 : Int32) (x5 : Int32) (x9 : Int32) (x10 : Int32) (x12 : Int32) (μ : mmT) : Prop :=
  (w_L_isMessage_b403 G Q  r0 x1 x2 x4 x5 x9 x10 x12 (nI 1) μ)
def w_L_isMessage_b402 (G : mgT) (Q : Int32 → mmT → Prop) (r0 : Option Nat) (x1 : Int32) (x2 : Int32) (x4 : Int32) (x5 : Int32) (x9 : Int32) (x10 : Int32) (x12 : Int32) (μ : mmT) : Prop :=
  (w_L_isMessage_b403 G Q  r0 x1 x2 x4 x5 x9 x10 x12 (nI 0) μ)
def w_L_isMessage_b365 (G : mgT) (Q : Int32 → mmT → Prop) (r0 : Option Nat) (x1 : Int32) (x2 : Int32) (x3 : Int32) (x4 : Int32) (x5 : Int32) (x7 : Int32) (x9 : Int32) (x10 : Int32) (s0 : Int32) (μ : mmT) : Prop :=
  ((x7 < 0 → (w_L_isMessage_b398 G Q  r0 x1 x2 x4 x5 x9 x10 s0 μ)) ∧ (¬ x7 < 0 → (w_L_flightMinutes G μ r0 x7 (fun u53 => ((u53 < (nI 1) → (w_L_isMessage_b402 G Q  r0 x1 x2 x4 x5 x9 x10 s0 μ)) ∧ (¬ u53 < (nI 1) → (w_L_flightMinutes G μ r0 x7 (fun u55 => (w_L_distance G μ r0 x3 (fun u56 => (((u56 + (nI 1)) < u55 → (w_L_isMessage_b402 G Q  r0 x1 x2 x4 x5 x9 x10 s0 μ)) ∧ (¬ (u56 + (nI 1)) < u55 → (w_L_isMessage_b398 G Q  r0 x1 x2 x4 x5 x9 x10 s0 μ)))))))))))))
def w_L_isMessage_b357 (G : mgT) (Q : Int32 → mmT → Prop) (r0 : Option Nat) (x1 : Int32) (x2 : Int32) (x3 : Int32) (x4 : Int32) (x5 : Int32) (x7 : Int32) (x9 : Int32) (x10 : Int32) (s0 : Int32) (s1 : Int32) (μ : mmT) : Prop :=
  ((¬ s0 = s1 → (w_L_isMessage_b365 G Q  r0 x1 x2 x3 x4 x5 x7 x9 x10 (nI 0) μ)) ∧ (s0 = s1 → (w_L_isMessage_b365 G Q  r0 x1 x2 x3 x4 x5 x7 x9 x10 (nI 1) μ)))
def w_L_isMessage_b298 (G : mgT) (Q : Int32 → mmT → Prop) (r0 : Option Nat) (x1 : Int32) (x2 : Int32) (x3 : Int32) (x4 : Int32) (x5 : Int32) (x7 : Int32) (x9 : Int32) (s0 : Int32) (μ : mmT) : Prop :=
  (w_L_wouldBeLost G μ r0 x2 (fun u18 => ((¬ x4 = (nI 100) → (∃ a20, r0 = some a20 ∧ (mK μ a20 = 10 ∧ (w_X10_wind G μ a20 (fun u23 => (w_L_loss G μ r0 x3 (fun u25 => ((u25 ≤ ((((x2 + x5) + (nI 1)) + u23) - (((x2 + x5) + (nI 1)) + u23) / (nI 5) * (nI 5)) → (w_L_isMessage_b357 G Q  r0 x1 x2 x3 x4 x5 x7 x9 s0 u18 (nI 0) μ)) ∧ (¬ u25 ≤ ((((x2 + x5) + (nI 1)) + u23) - (((x2 + x5) + (nI 1)) + u23) / (nI 5) * (nI 5)) → (w_L_isMessage_b357 G Q  r0 x1 x2 x3 x4 x5 x7 x9 s0 u18 (nI 1) μ)))))))))) ∧ (x4 = (nI 100) → ((¬ u18 = (-79) → (w_L_isMessage_b365 G Q  r0 x1 x2 x3 x4 x5 x7 x9 s0 (nI 0) μ)) ∧ (u18 = (-79) → (w_L_isMessage_b365 G Q  r0 x1 x2 x3 x4 x5 x7 x9 s0 (nI 1) μ)))))))
def w_L_isMessage_b293 (G : mgT) (Q : Int32 → mmT → Prop) (r0 : Option Nat) (x1 : Int32) (x2 : Int32) (x3 : Int32) (x4 : Int32) (x5 : Int32) (x7 : Int32) (x9 : Int32) (μ : mmT) : Prop :=
  (w_L_isMessage_b298 G Q  r0 x1 x2 x3 x4 x5 x7 x9 (nI 1) μ)
def w_L_isMessage_b297 (G : mgT) (Q : Int32 → mmT → Prop) (r0 : Option Nat) (x1 : Int32) (x2 : Int32) (x3 : Int32) (x4 : Int32) (x5 : Int32) (x7 : Int32) (x9 : Int32) (μ : mmT) : Prop :=
  (w_L_isMessage_b298 G Q  r0 x1 x2 x3 x4 x5 x7 x9 (nI 0) μ)
def w_L_isMessage_b256 (G : mgT) (Q : Int32 → mmT → Prop) (r0 : Option Nat) (x1 : Int32) (x2 : Int32) (x3 : Int32) (x4 : Int32) (x5 : Int32) (x7 : Int32) (s0 : Int32) (μ : mmT) : Prop :=
  ((¬ x4 = (nI 110) → (w_L_isMessage_b293 G Q  r0 x1 x2 x3 x4 x5 x7 s0 μ)) ∧ (x4 = (nI 110) → ((x5 < (nI 1) → (w_L_isMessage_b297 G Q  r0 x1 x2 x3 x4 x5 x7 s0 μ)) ∧ (¬ x5 < (nI 1) → (((nI 5) ≤ x5 → (w_L_isMessage_b297 G Q  r0 x1 x2 x3 x4 x5 x7 s0 μ)) ∧ (¬ (nI 5) ≤ x5 → (w_L_napMinutes G μ r0 x2 (fun u61 => (w_L_napLength G μ r0 x5 (fun u62 => ((0 < (lg_cmp u61.toInt64 u62) → (w_L_isMessage_b297 G Q  r0 x1 x2 x3 x4 x5 x7 s0 μ)) ∧ (¬ 0 < (lg_cmp u61.toInt64 u62) → (w_L_isMessage_b293 G Q  r0 x1 x2 x3 x4 x5 x7 s0 μ)))))))))))))
def w_L_isMessage_b255 (G : mgT) (Q : Int32 → mmT → Prop) (r0 : Option Nat) (x1 : Int32) (x2 : Int32) (x3 : Int32) (x4 : Int32) (x5 : Int32) (x7 : Int32) (μ : mmT) : Prop :=
  (w_L_isMessage_b256 G Q  r0 x1 x2 x3 x4 x5 x7 (nI 0) μ)
def w_L_isMessage_b248 (G : mgT) (Q : Int32 → mmT → Prop) (r0 : Option Nat) (x1 : Int32) (x2 : Int32) (x3 : Int32) (x4 : Int32) (x5 : Int32) (x7 : Int32) (s0 : Int32) (s1 : Int32) (μ : mmT) : Prop :=
  ((¬ s0 = s1 → (w_L_isMessage_b255 G Q  r0 x1 x2 x3 x4 x5 x7 μ)) ∧ (s0 = s1 → (w_L_isMessage_b256 G Q  r0 x1 x2 x3 x4 x5 x7 (nI 1) μ)))
def w_L_isMessage_b235 (G : mgT) (Q : Int32 → mmT → Prop) (r0 : Option Nat) (x1 : Int32) (x2 : Int32) (x3 : Int32) (x4 : Int32) (x5 : Int32) (x7 : Int32) (s0 : Int32) (μ : mmT) : Prop :=
  (w_L_napMinutes G μ r0 x2 (fun u71 => ((u71 ≤ 0 → (w_L_isMessage_b248 G Q  r0 x1 x2 x3 x4 x5 x7 s0 (nI 0) μ)) ∧ (¬ u71 ≤ 0 → (w_L_isMessage_b248 G Q  r0 x1 x2 x3 x4 x5 x7 s0 (nI 1) μ)))))
def w_L_isMessage_b220 (G : mgT) (Q : Int32 → mmT → Prop) (r0 : Option Nat) (x1 : Int32) (x2 : Int32) (x3 : Int32) (x4 : Int32) (x5 : Int32) (x7 : Int32) (s0 : Int32) (s1 : Int32) (μ : mmT) : Prop :=
  ((¬ s0 = s1 → (w_L_isMessage_b255 G Q  r0 x1 x2 x3 x4 x5 x7 μ)) ∧ (s0 = s1 → ((¬ x4 = (nI 110) → (w_L_isMessage_b235 G Q  r0 x1 x2 x3 x4 x5 x7 (nI 0) μ)) ∧ (x4 = (nI 110) → (w_L_isMessage_b235 G Q  r0 x1 x2 x3 x4 x5 x7 (nI 1) μ)))))
def w_L_isMessage_b210 (G : mgT) (Q : Int32 → mmT → Prop) (r0 : Option Nat) (x1 : Int32) (x2 : Int32) (x3 : Int32) (x4 : Int32) (x5 : Int32) (x7 : Int32) (x8 : Int32) (s0 : Int32) (μ : mmT) : Prop :=
  ((x8 < 0 → (w_L_isMessage_b220 G Q  r0 x1 x2 x3 x4 x5 x7 s0 (nI 0) μ)) ∧ (¬ x8 < 0 → (w_L_isMessage_b220 G Q  r0 x1 x2 x3 x4 x5 x7 s0 (nI 1) μ)))
def w_L_isMessage_b195 (G : mgT) (Q : Int32 → mmT → Prop) (r0 : Option Nat) (x1 : Int32) (x2 : Int32) (x3 : Int32) (x4 : Int32) (x5 : Int32) (x7 : Int32) (x8 : Int32) (s0 : Int32) (s1 : Int32) (μ : mmT) : Prop :=
  ((¬ s0 = s1 → (w_L_isMessage_b255 G Q  r0 x1 x2 x3 x4 x5 x7 μ)) ∧ (s0 = s1 → ((¬ x4 = (nI 119) → (w_L_isMessage_b210 G Q  r0 x1 x2 x3 x4 x5 x7 x8 (nI 0) μ)) ∧ (x4 = (nI 119) → (w_L_isMessage_b210 G Q  r0 x1 x2 x3 x4 x5 x7 x8 (nI 1) μ)))))
def w_L_isMessage_b185 (G : mgT) (Q : Int32 → mmT → Prop) (r0 : Option Nat) (x1 : Int32) (x2 : Int32) (x3 : Int32) (x4 : Int32) (x5 : Int32) (x7 : Int32) (x8 : Int32) (s0 : Int32) (μ : mmT) : Prop :=
  ((x7 < 0 → (w_L_isMessage_b195 G Q  r0 x1 x2 x3 x4 x5 x7 x8 s0 (nI 0) μ)) ∧ (¬ x7 < 0 → (w_L_isMessage_b195 G Q  r0 x1 x2 x3 x4 x5 x7 x8 s0 (nI 1) μ)))
def w_L_isMessage_b170 (G : mgT) (Q : Int32 → mmT → Prop) (r0 : Option Nat) (x1 : Int32) (x2 : Int32) (x3 : Int32) (x4 : Int32) (x5 : Int32) (x7 : Int32) (x8 : Int32) (s0 : Int32) (s1 : Int32) (μ : mmT) : Prop :=
  ((¬ s0 = s1 → (w_L_isMessage_b255 G Q  r0 x1 x2 x3 x4 x5 x7 μ)) ∧ (s0 = s1 → ((¬ x4 = (nI 102) → (w_L_isMessage_b185 G Q  r0 x1 x2 x3 x4 x5 x7 x8 (nI 0) μ)) ∧ (x4 = (nI 102) → (w_L_isMessage_b185 G Q  r0 x1 x2 x3 x4 x5 x7 x8 (nI 1) μ)))))
def w_L_isMessage_b160 (G : mgT) (Q : Int32 → mmT → Prop) (r0 : Option Nat) (x1 : Int32) (x2 : Int32) (x3 : Int32) (x4 : Int32) (x5 : Int32) (x6 : Int32) (x7 : Int32) (x8 : Int32) (s0 : Int32) (μ : mmT) : Prop :=
  ((x6 < 0 → (w_L_isMessage_b170 G Q  r0 x1 x2 x3 x4 x5 x7 x8 s0 (nI 0) μ)) ∧ (¬ x6 < 0 → (w_L_isMessage_b170 G Q  r0 x1 x2 x3 x4 x5 x7 x8 s0 (nI 1) μ)))
def w_L_isMessage_b140 (G : mgT) (Q : Int32 → mmT → Prop) (K114 : Option Nat → Int32 → Int32 → Int32 → Int32 → Int32 → Int32 → Int32 → Int32 → Int32 → Nat → mmT → Prop) (r0 : Option Nat) (x1 : Int32) (x2 : Int32) (x3 : Int32) (x4 : Int32) (x5 : Int32) (x6 : Int32) (x7 : Int32) (x9 : Int32) (s0 : Int32) (t114 : Nat) (μ : mmT) : Prop :=
  (t114 ≤ 16 ∧ (K114 r0 x1 x2 x3 x4 x5 x6 x7 s0 (x9 + nI 1) (t114 + 1) μ))
def w_L_isMessage_b114 (G : mgT) (Q : Int32 → mmT → Prop) (K114 : Option Nat → Int32 → Int32 → Int32 → Int32 → Int32 → Int32 → Int32 → Int32 → Int32 → Nat → mmT → Prop) (r0 : Option Nat) (x1 : Int32) (x2 : Int32) (x3 : Int32) (x4 : Int32) (x5 : Int32) (x6 : Int32) (x7 : Int32) (x8 : Int32) (x9 : Int32) (t114 : Nat) (μ : mmT) : Prop :=
  (t114 ≤ 16 ∧ (w_L_waitingMessage G μ r0 x9 (fun u12 => ((u12 < 0 → ((¬ x4 = (nI 100) → (w_L_isMessage_b160 G Q  r0 x1 x2 x3 x4 x5 x6 x7 x8 (nI 0) μ)) ∧ (x4 = (nI 100) → (w_L_isMessage_b160 G Q  r0 x1 x2 x3 x4 x5 x6 x7 x8 (nI 1) μ)))) ∧ (¬ u12 < 0 → (w_L_waitingMessage G μ r0 x9 (fun u74 => ((¬ u74 = x2 → (w_L_isMessage_b140 G Q K114 r0 x1 x2 x3 x4 x5 x6 x7 x9 x8 t114 μ)) ∧ (u74 = x2 → (w_L_isMessage_b140 G Q K114 r0 x1 x2 x3 x4 x5 x6 x7 x9 x9 t114 μ))))))))))
def w_L_isMessage_l114 (G : mgT) (Q : Int32 → mmT → Prop) : Nat → Option Nat → Int32 → Int32 → Int32 → Int32 → Int32 → Int32 → Int32 → Int32 → Int32 → Nat → mmT → Prop
  | 0 => fun _ _ _ _ _ _ _ _ _ _ _ _ => False
  | n + 1 => fun r0 x1 x2 x3 x4 x5 x6 x7 x8 x9 t114 μ => w_L_isMessage_b114 G Q  (w_L_isMessage_l114 G Q  n) r0 x1 x2 x3 x4 x5 x6 x7 x8 x9 t114 μ
def w_L_isMessage_b100 (G : mgT) (Q : Int32 → mmT → Prop) (K74 : Option Nat → Int32 → Int32 → Int32 → Int32 → Int32 → Int32 → Int32 → Int32 → Nat → mmT → Prop) (r0 : Option Nat) (x1 : Int32) (x2 : Int32) (x3 : Int32) (x4 : Int32) (x5 : Int32) (x6 : Int32) (x8 : Int32) (s0 : Int32) (t74 : Nat) (μ : mmT) : Prop :=
  (t74 ≤ 4 ∧ (K74 r0 x1 x2 x3 x4 x5 x6 s0 (x8 + nI 1) (t74 + 1) μ))
def w_L_isMessage_b74 (G : mgT) (Q : Int32 → mmT → Prop) (K74 : Option Nat → Int32 → Int32 → Int32 → Int32 → Int32 → Int32 → Int32 → Int32 → Nat → mmT → Prop) (r0 : Option Nat) (x1 : Int32) (x2 : Int32) (x3 : Int32) (x4 : Int32) (x5 : Int32) (x6 : Int32) (x7 : Int32) (x8 : Int32) (t74 : Nat) (μ : mmT) : Prop :=
  (t74 ≤ 4 ∧ (∃ a7, r0 = some a7 ∧ (mK μ a7 = 10 ∧ (w_X10_crowCount G μ a7 (fun u10 => ((u10 ≤ x8 → (∃ n, w_L_isMessage_l114 G Q  n r0 x1 x2 x3 x4 x5 x6 x7 (-1) (nI 0) 0 μ)) ∧ (¬ u10 ≤ x8 → (w_L_carriedMessage G μ r0 x8 (fun u76 => ((¬ u76 = x2 → (w_L_isMessage_b100 G Q K74 r0 x1 x2 x3 x4 x5 x6 x8 x7 t74 μ)) ∧ (u76 = x2 → (w_L_isMessage_b100 G Q K74 r0 x1 x2 x3 x4 x5 x6 x8 x8 t74 μ))))))))))))
def w_L_isMessage_l74 (G : mgT) (Q : Int32 → mmT → Prop) : Nat → Option Nat → Int32 → Int32 → Int32 → Int32 → Int32 → Int32 → Int32 → Int32 → Nat → mmT → Prop
  | 0 => fun _ _ _ _ _ _ _ _ _ _ _ => False
  | n + 1 => fun r0 x1 x2 x3 x4 x5 x6 x7 x8 t74 μ => w_L_isMessage_b74 G Q  (w_L_isMessage_l74 G Q  n) r0 x1 x2 x3 x4 x5 x6 x7 x8 t74 μ
def w_L_isMessage_b63 (G : mgT) (Q : Int32 → mmT → Prop) (K35 : Option Nat → Int32 → Int32 → Int32 → Int32 → Int32 → Int32 → Int32 → Int32 → Nat → mmT → Prop) (r0 : Option Nat) (x1 : Int32) (x2 : Int32) (x3 : Int32) (x4 : Int32) (x5 : Int32) (x7 : Int32) (x8 : Int32) (s0 : Int32) (t35 : Nat) (μ : mmT) : Prop :=
  (t35 ≤ 8 ∧ (K35 r0 x1 x2 x3 x4 x5 s0 x7 (x8 + nI 1) (t35 + 1) μ))
def w_L_isMessage_b35 (G : mgT) (Q : Int32 → mmT → Prop) (K35 : Option Nat → Int32 → Int32 → Int32 → Int32 → Int32 → Int32 → Int32 → Int32 → Nat → mmT → Prop) (r0 : Option Nat) (x1 : Int32) (x2 : Int32) (x3 : Int32) (x4 : Int32) (x5 : Int32) (x6 : Int32) (x7 : Int32) (x8 : Int32) (t35 : Nat) (μ : mmT) : Prop :=
  (t35 ≤ 8 ∧ (w_L_inboxSize G μ r0 x3 (fun u5 => ((u5 ≤ x8 → (∃ n, w_L_isMessage_l74 G Q  n r0 x1 x2 x3 x4 x5 x6 x7 (nI 0) 0 μ)) ∧ (¬ u5 ≤ x8 → (w_L_inboxMessage G μ r0 x3 x8 (fun u78 => ((¬ u78 = x2 → (w_L_isMessage_b63 G Q K35 r0 x1 x2 x3 x4 x5 x7 x8 x6 t35 μ)) ∧ (u78 = x2 → (w_L_isMessage_b63 G Q K35 r0 x1 x2 x3 x4 x5 x7 x8 x8 t35 μ))))))))))
def w_L_isMessage_l35 (G : mgT) (Q : Int32 → mmT → Prop) : Nat → Option Nat → Int32 → Int32 → Int32 → Int32 → Int32 → Int32 → Int32 → Int32 → Nat → mmT → Prop
  | 0 => fun _ _ _ _ _ _ _ _ _ _ _ => False
  | n + 1 => fun r0 x1 x2 x3 x4 x5 x6 x7 x8 t35 μ => w_L_isMessage_b35 G Q  (w_L_isMessage_l35 G Q  n) r0 x1 x2 x3 x4 x5 x6 x7 x8 t35 μ
def w_L_isMessage (G : mgT) (μ : mmT) (r0 : Option Nat) (x1 : Int32) (Q : Int32 → mmT → Prop) : Prop :=
  (w_L_messageAt G μ r0 x1 (fun u1 => (w_L_nestOf G μ r0 u1 (fun u2 => (w_L_status G μ r0 u1 (fun u3 => (w_L_attempts G μ r0 u1 (fun u4 => (∃ n, w_L_isMessage_l35 G Q  n r0 x1 u1 u2 u3 u4 (-1) (-1) (nI 0) 0 μ)))))))))
def w_L_isWhole_b793 (G : mgT) (Q : Int32 → mmT → Prop) (s0 : Int32) (μ : mmT) : Prop :=
  ((s0 = 0 ∨ s0 = 1) ∧ (Q s0 μ))
def w_L_isWhole_b792 (G : mgT) (Q : Int32 → mmT → Prop) (μ : mmT) : Prop :=
  (w_L_isWhole_b793 G Q  (nI 0) μ)
def w_L_isWhole_b788 (G : mgT) (Q : Int32 → mmT → Prop) (μ : mmT) : Prop :=
  (w_L_isWhole_b793 G Q  (nI 1) μ)
def w_L_isWhole_b742 (G : mgT) (Q : Int32 → mmT → Prop) (r0 : Option Nat) (x3 : Int32) (x11 : Int32) (x12 : Int32) (x13 : Int32) (s0 : Int32) (μ : mmT) : Prop :=
  ((x11 = 0 → (w_L_isWhole_b792 G Q  μ)) ∧ (¬ x11 = 0 → ((x12 = 0 → (w_L_isWhole_b792 G Q  μ)) ∧ (¬ x12 = 0 → ((x13 = 0 → (w_L_isWhole_b792 G Q  μ)) ∧ (¬ x13 = 0 → ((s0 = 0 → (w_L_isWhole_b792 G Q  μ)) ∧ (¬ s0 = 0 → (∃ a46, r0 = some a46 ∧ (mK μ a46 = 10 ∧ (w_X10_nestCount G μ a46 (fun u49 => (w_L_nestByDeliveries G μ r0 u49 (fun u50 => ((¬ u50 = (-75) → (w_L_isWhole_b792 G Q  μ)) ∧ (u50 = (-75) → ((x3 = 0 → (w_L_isWhole_b788 G Q  μ)) ∧ (¬ x3 = 0 → (w_X10_isConsistent G μ a46 (fun u53 => ((u53 = 0 → (w_L_isWhole_b792 G Q  μ)) ∧ (¬ u53 = 0 → (w_L_isWhole_b788 G Q  μ)))))))))))))))))))))))
def w_L_isWhole_b741 (G : mgT) (Q : Int32 → mmT → Prop) (r0 : Option Nat) (x3 : Int32) (x11 : Int32) (x12 : Int32) (x13 : Int32) (μ : mmT) : Prop :=
  (w_L_isWhole_b742 G Q  r0 x3 x11 x12 x13 (nI 0) μ)
def w_L_isWhole_b670 (G : mgT) (Q : Int32 → mmT → Prop) (r0 : Option Nat) (x3 : Int32) (x4 : Int32) (x6 : Int32) (x7 : Int32) (x8 : Int32) (x9 : Int32) (x11 : Int32) (x12 : Int32) (s0 : Int32) (μ : mmT) : Prop :=
  (∃ a36, r0 = some a36 ∧ (mK μ a36 = 10 ∧ (w_X10_messageCountByTotals G μ a36 (fun u39 => ((¬ u39 = x4 → (w_L_isWhole_b741 G Q  r0 x3 x11 x12 s0 μ)) ∧ (u39 = x4 → ((¬ x8 = x6 → (w_L_isWhole_b741 G Q  r0 x3 x11 x12 s0 μ)) ∧ (x8 = x6 → ((¬ x9 = x7 → (w_L_isWhole_b741 G Q  r0 x3 x11 x12 s0 μ)) ∧ (x9 = x7 → (w_X10_deliveredTotal G μ a36 (fun u57 => (w_X10_readTotal G μ a36 (fun u58 => ((¬ u57 = (u58 + x7) → (w_L_isWhole_b741 G Q  r0 x3 x11 x12 s0 μ)) ∧ (u57 = (u58 + x7) → (w_X10_arrivalTotal G μ a36 (fun u60 => (w_X10_deliveredTotal G μ a36 (fun u61 => (w_X10_duplicateTotal G μ a36 (fun u62 => (w_X10_failedTotal G μ a36 (fun u63 => ((u60 < ((u61 + u62) + u63) → (w_L_isWhole_b741 G Q  r0 x3 x11 x12 s0 μ)) ∧ (¬ u60 < ((u61 + u62) + u63) → (((nI 16) < x4 → (w_L_isWhole_b741 G Q  r0 x3 x11 x12 s0 μ)) ∧ (¬ (nI 16) < x4 → (w_L_isWhole_b742 G Q  r0 x3 x11 x12 s0 (nI 1) μ)))))))))))))))))))))))))))))
def w_L_isWhole_b669 (G : mgT) (Q : Int32 → mmT → Prop) (r0 : Option Nat) (x3 : Int32) (x4 : Int32) (x6 : Int32) (x7 : Int32) (x8 : Int32) (x9 : Int32) (x11 : Int32) (x12 : Int32) (μ : mmT) : Prop :=
  (w_L_isWhole_b670 G Q  r0 x3 x4 x6 x7 x8 x9 x11 x12 (nI 0) μ)
def w_L_isWhole_b628 (G : mgT) (Q : Int32 → mmT → Prop) (r0 : Option Nat) (x3 : Int32) (x4 : Int32) (x6 : Int32) (x7 : Int32) (x8 : Int32) (x9 : Int32) (x11 : Int32) (x12 : Int32) (μ : mmT) : Prop :=
  (w_L_isWhole_b670 G Q  r0 x3 x4 x6 x7 x8 x9 x11 x12 (nI 0) μ)
def w_L_isWhole_b596 (G : mgT) (Q : Int32 → mmT → Prop) (r0 : Option Nat) (x3 : Int32) (x4 : Int32) (x6 : Int32) (x7 : Int32) (x8 : Int32) (x9 : Int32) (x11 : Int32) (s0 : Int32) (μ : mmT) : Prop :=
  (∃ a26, r0 = some a26 ∧ (mK μ a26 = 10 ∧ (w_X10_arrivalTotal G μ a26 (fun u29 => ((¬ u29 = 0 → (w_L_deliveryRate G μ r0 (fun u31 => (w_X10_deliveredTotal G μ a26 (fun u32 => (w_X10_arrivalTotal G μ a26 (fun u33 => (vf_n32 (FP.fdiv (FP.i2f u32) (FP.i2f u33)) ∧ ((¬ (Op.cmpValue (FP.fcmp u31 (FP.fdiv (FP.i2f u32) (FP.i2f u33))) .l) = 0 → (w_L_isWhole_b669 G Q  r0 x3 x4 x6 x7 x8 x9 x11 s0 μ)) ∧ ((Op.cmpValue (FP.fcmp u31 (FP.fdiv (FP.i2f u32) (FP.i2f u33))) .l) = 0 → (w_L_deliveryRateBits G μ r0 (fun u66 => (w_L_deliveryRate G μ r0 (fun u67 => (w_Jxf58ca_floatToIntBits_5c35a G μ u67 (fun u68 => ((¬ u66 = u68 → (w_L_isWhole_b669 G Q  r0 x3 x4 x6 x7 x8 x9 x11 s0 μ)) ∧ (u66 = u68 → (w_L_isWhole_b670 G Q  r0 x3 x4 x6 x7 x8 x9 x11 s0 (nI 1) μ))))))))))))))))))) ∧ (u29 = 0 → (w_L_deliveryRate G μ r0 (fun u70 => ((¬ (Op.cmpValue (FP.fcmp u70 (3264479232 : UInt32)) .l) = 0 → (w_L_isWhole_b628 G Q  r0 x3 x4 x6 x7 x8 x9 x11 s0 μ)) ∧ ((Op.cmpValue (FP.fcmp u70 (3264479232 : UInt32)) .l) = 0 → (w_L_deliveryRateBits G μ r0 (fun u72 => ((¬ u72 = (-74) → (w_L_isWhole_b628 G Q  r0 x3 x4 x6 x7 x8 x9 x11 s0 μ)) ∧ (u72 = (-74) → (w_L_isWhole_b670 G Q  r0 x3 x4 x6 x7 x8 x9 x11 s0 (nI 1) μ)))))))))))))))
def w_L_isWhole_b595 (G : mgT) (Q : Int32 → mmT → Prop) (r0 : Option Nat) (x3 : Int32) (x4 : Int32) (x6 : Int32) (x7 : Int32) (x8 : Int32) (x9 : Int32) (x11 : Int32) (μ : mmT) : Prop :=
  (w_L_isWhole_b596 G Q  r0 x3 x4 x6 x7 x8 x9 x11 (nI 0) μ)
def w_L_isWhole_b557 (G : mgT) (Q : Int32 → mmT → Prop) (r0 : Option Nat) (x3 : Int32) (x4 : Int32) (x6 : Int32) (x7 : Int32) (x8 : Int32) (x9 : Int32) (x11 : Int32) (μ : mmT) : Prop :=
  (w_L_isWhole_b596 G Q  r0 x3 x4 x6 x7 x8 x9 x11 (nI 0) μ)
def w_L_isWhole_b524 (G : mgT) (Q : Int32 → mmT → Prop) (r0 : Option Nat) (x3 : Int32) (x4 : Int32) (x5 : Int32) (x6 : Int32) (x7 : Int32) (x8 : Int32) (x9 : Int32) (s0 : Int32) (μ : mmT) : Prop :=
  ((¬ x4 = 0 → (w_L_meanAttempts G μ r0 (fun u23 => (vf_n64 (FP.ddiv (FP.i2d x5) (FP.i2d x4)) ∧ ((¬ (Op.cmpValue (FP.dcmp u23 (FP.ddiv (FP.i2d x5) (FP.i2d x4))) .l) = 0 → (w_L_isWhole_b595 G Q  r0 x3 x4 x6 x7 x8 x9 s0 μ)) ∧ ((Op.cmpValue (FP.dcmp u23 (FP.ddiv (FP.i2d x5) (FP.i2d x4))) .l) = 0 → (w_L_meanAttemptsBits G μ r0 (fun u74 => (w_L_meanAttempts G μ r0 (fun u75 => (w_Jxe99ae_doubleToLongBits_ccdee G μ u75 (fun u76 => ((¬ (lg_cmp u74 u76) = 0 → (w_L_isWhole_b595 G Q  r0 x3 x4 x6 x7 x8 x9 s0 μ)) ∧ ((lg_cmp u74 u76) = 0 → (w_L_isWhole_b596 G Q  r0 x3 x4 x6 x7 x8 x9 s0 (nI 1) μ))))))))))))))) ∧ (x4 = 0 → (w_L_meanAttempts G μ r0 (fun u78 => ((¬ (Op.cmpValue (FP.dcmp u78 (13858279740860792832 : UInt64)) .l) = 0 → (w_L_isWhole_b557 G Q  r0 x3 x4 x6 x7 x8 x9 s0 μ)) ∧ ((Op.cmpValue (FP.dcmp u78 (13858279740860792832 : UInt64)) .l) = 0 → (w_L_meanAttemptsBits G μ r0 (fun u80 => ((¬ (lg_cmp u80 (-74 : Int64)) = 0 → (w_L_isWhole_b557 G Q  r0 x3 x4 x6 x7 x8 x9 s0 μ)) ∧ ((lg_cmp u80 (-74 : Int64)) = 0 → (w_L_isWhole_b596 G Q  r0 x3 x4 x6 x7 x8 x9 s0 (nI 1) μ)))))))))))
def w_L_isWhole_b523 (G : mgT) (Q : Int32 → mmT → Prop) (r0 : Option Nat) (x3 : Int32) (x4 : Int32) (x5 : Int32) (x6 : Int32) (x7 : Int32) (x8 : Int32) (x9 : Int32) (μ : mmT) : Prop :=
  (w_L_isWhole_b524 G Q  r0 x3 x4 x5 x6 x7 x8 x9 (nI 0) μ)
def w_L_isWhole_b519 (G : mgT) (Q : Int32 → mmT → Prop) (r0 : Option Nat) (x3 : Int32) (x4 : Int32) (x5 : Int32) (x6 : Int32) (x7 : Int32) (x8 : Int32) (x9 : Int32) (μ : mmT) : Prop :=
  (w_L_isWhole_b524 G Q  r0 x3 x4 x5 x6 x7 x8 x9 (nI 1) μ)
def w_L_isWhole_b396 (G : mgT) (Q : Int32 → mmT → Prop) (μ : mmT) : Prop :=
  (Q (nI 0) μ)
def w_L_isWhole_b443 (G : mgT) (Q : Int32 → mmT → Prop) (μ : mmT) : Prop :=
  (Q (nI 0) μ)
def w_L_isWhole_b445 (G : mgT) (Q : Int32 → mmT → Prop) (K300 : Option Nat → Int32 → Int32 → Int32 → Int32 → Int32 → Int32 → Int32 → Int32 → Int32 → Nat → mmT → Prop) (r0 : Option Nat) (x2 : Int32) (x3 : Int32) (x4 : Int32) (x5 : Int32) (x6 : Int32) (x7 : Int32) (x8 : Int32) (x9 : Int32) (x10 : Int32) (t300 : Nat) (μ : mmT) : Prop :=
  (t300 ≤ 6 ∧ (K300 r0 x2 x3 x4 x5 x6 x7 x8 x9 (x10 + nI 1) (t300 + 1) μ))
def w_L_isWhole_b424 (G : mgT) (Q : Int32 → mmT → Prop) (K300 : Option Nat → Int32 → Int32 → Int32 → Int32 → Int32 → Int32 → Int32 → Int32 → Int32 → Nat → mmT → Prop) (r0 : Option Nat) (x2 : Int32) (x3 : Int32) (x4 : Int32) (x5 : Int32) (x6 : Int32) (x7 : Int32) (x8 : Int32) (x9 : Int32) (x10 : Int32) (x12 : Int32) (s0 : Int32) (t300 : Nat) (μ : mmT) : Prop :=
  (t300 ≤ 6 ∧ ((x12 < 0 → (w_L_isWhole_b443 G Q  μ)) ∧ (¬ x12 < 0 → ((x10 ≤ 0 → (w_L_isWhole_b445 G Q K300 r0 x2 x3 x4 x5 x6 x7 x8 x9 x10 t300 μ)) ∧ (¬ x10 ≤ 0 → ((¬ x12 = s0 → (w_L_isWhole_b445 G Q K300 r0 x2 x3 x4 x5 x6 x7 x8 x9 x10 t300 μ)) ∧ (x12 = s0 → (w_L_isWhole_b443 G Q  μ))))))))
def w_L_isWhole_b326 (G : mgT) (Q : Int32 → mmT → Prop) (K300 : Option Nat → Int32 → Int32 → Int32 → Int32 → Int32 → Int32 → Int32 → Int32 → Int32 → Nat → mmT → Prop) (K326 : Option Nat → Int32 → Int32 → Int32 → Int32 → Int32 → Int32 → Int32 → Int32 → Int32 → Int32 → Int32 → Nat → Nat → mmT → Prop) (r0 : Option Nat) (x2 : Int32) (x3 : Int32) (x4 : Int32) (x5 : Int32) (x6 : Int32) (x7 : Int32) (x8 : Int32) (x9 : Int32) (x10 : Int32) (x11 : Int32) (x12 : Int32) (t300 : Nat) (t326 : Nat) (μ : mmT) : Prop :=
  (t300 ≤ 6 ∧ (t326 ≤ 100 ∧ (((nI 100) ≤ x12 → (w_L_inboxSize G μ r0 x10 (fun u90 => (((nI 8) < u90 → (w_L_isWhole_b396 G Q  μ)) ∧ (¬ (nI 8) < u90 → (w_L_rememberedCount G μ r0 x10 (fun u92 => (((nI 8) < u92 → (w_L_isWhole_b396 G Q  μ)) ∧ (¬ (nI 8) < u92 → (w_L_rememberedCount G μ r0 x10 (fun u94 => ((¬ x11 = u94 → (w_L_isWhole_b396 G Q  μ)) ∧ (x11 = u94 → (w_L_remembers G μ r0 x10 (nI 100) (fun u96 => ((u96 = 0 → (w_L_nestByDeliveries G μ r0 x10 (fun u98 => ((¬ x10 = 0 → (w_L_nestByDeliveries G μ r0 (x10 - (nI 1)) (fun u100 => (w_L_isWhole_b424 G Q K300 r0 x2 x3 x4 x5 x6 x7 x8 x9 x10 u98 u100 t300 μ)))) ∧ (x10 = 0 → (w_L_isWhole_b424 G Q K300 r0 x2 x3 x4 x5 x6 x7 x8 x9 x10 u98 u98 t300 μ)))))) ∧ (¬ u96 = 0 → (w_L_isWhole_b396 G Q  μ)))))))))))))))))) ∧ (¬ (nI 100) ≤ x12 → (w_L_remembers G μ r0 x10 x12 (fun u104 => (K326 r0 x2 x3 x4 x5 x6 x7 x8 x9 x10 (x11 + u104) (x12 + nI 1) t300 (t326 + 1) μ)))))))
def w_L_isWhole_l326 (G : mgT) (Q : Int32 → mmT → Prop) (K300 : Option Nat → Int32 → Int32 → Int32 → Int32 → Int32 → Int32 → Int32 → Int32 → Int32 → Nat → mmT → Prop) : Nat → Option Nat → Int32 → Int32 → Int32 → Int32 → Int32 → Int32 → Int32 → Int32 → Int32 → Int32 → Int32 → Nat → Nat → mmT → Prop
  | 0 => fun _ _ _ _ _ _ _ _ _ _ _ _ _ _ _ => False
  | n + 1 => fun r0 x2 x3 x4 x5 x6 x7 x8 x9 x10 x11 x12 t300 t326 μ => w_L_isWhole_b326 G Q K300 (w_L_isWhole_l326 G Q K300 n) r0 x2 x3 x4 x5 x6 x7 x8 x9 x10 x11 x12 t300 t326 μ
def w_L_isWhole_b300 (G : mgT) (Q : Int32 → mmT → Prop) (K300 : Option Nat → Int32 → Int32 → Int32 → Int32 → Int32 → Int32 → Int32 → Int32 → Int32 → Nat → mmT → Prop) (r0 : Option Nat) (x2 : Int32) (x3 : Int32) (x4 : Int32) (x5 : Int32) (x6 : Int32) (x7 : Int32) (x8 : Int32) (x9 : Int32) (x10 : Int32) (t300 : Nat) (μ : mmT) : Prop :=
  (t300 ≤ 6 ∧ (∃ a13, r0 = some a13 ∧ (mK μ a13 = 10 ∧ (w_X10_nestCount G μ a13 (fun u16 => ((u16 ≤ x10 → (w_L_pick G μ (x2 + (nI 2)) (nI 41) (fun u18 => (w_L_napLength G μ r0 u18 (fun u19 => (w_L_napLengthByDoubling G μ r0 u18 (fun u20 => ((¬ (lg_cmp u19 u20) = 0 → (w_L_isWhole_b523 G Q  r0 x3 x4 x5 x6 x7 x8 x9 μ)) ∧ ((lg_cmp u19 u20) = 0 → ((¬ u18 = 0 → (w_L_napLength G μ r0 u18 (fun u83 => (w_L_napLength G μ r0 (u18 - (nI 1)) (fun u84 => ((¬ (lg_cmp u83 ((2 : Int64) * u84)) = 0 → (w_L_isWhole_b523 G Q  r0 x3 x4 x5 x6 x7 x8 x9 μ)) ∧ ((lg_cmp u83 ((2 : Int64) * u84)) = 0 → (w_L_isWhole_b519 G Q  r0 x3 x4 x5 x6 x7 x8 x9 μ)))))))) ∧ (u18 = 0 → (w_L_napLength G μ r0 u18 (fun u86 => ((¬ (lg_cmp u86 (lN 1)) = 0 → (w_L_isWhole_b523 G Q  r0 x3 x4 x5 x6 x7 x8 x9 μ)) ∧ ((lg_cmp u86 (lN 1)) = 0 → (w_L_isWhole_b519 G Q  r0 x3 x4 x5 x6 x7 x8 x9 μ)))))))))))))))) ∧ (¬ u16 ≤ x10 → (w_L_inboxSize G μ r0 x10 (fun u88 => (∃ n, w_L_isWhole_l326 G Q K300 n r0 x2 x3 x4 x5 x6 x7 x8 (x9 + u88) x10 (nI 0) (nI 0) t300 0 μ))))))))))
def w_L_isWhole_l300 (G : mgT) (Q : Int32 → mmT → Prop) : Nat → Option Nat → Int32 → Int32 → Int32 → Int32 → Int32 → Int32 → Int32 → Int32 → Int32 → Nat → mmT → Prop
  | 0 => fun _ _ _ _ _ _ _ _ _ _ _ _ => False
  | n + 1 => fun r0 x2 x3 x4 x5 x6 x7 x8 x9 x10 t300 μ => w_L_isWhole_b300 G Q  (w_L_isWhole_l300 G Q  n) r0 x2 x3 x4 x5 x6 x7 x8 x9 x10 t300 μ
def w_L_isWhole_b286 (G : mgT) (Q : Int32 → mmT → Prop) (μ : mmT) : Prop :=
  (Q (nI 0) μ)
def w_L_isWhole_b288 (G : mgT) (Q : Int32 → mmT → Prop) (K222 : Option Nat → Int32 → Int32 → Int32 → Int32 → Int32 → Int32 → Int32 → Int32 → Nat → mmT → Prop) (r0 : Option Nat) (x2 : Int32) (x3 : Int32) (x4 : Int32) (x5 : Int32) (x6 : Int32) (x7 : Int32) (x8 : Int32) (x9 : Int32) (t222 : Nat) (μ : mmT) : Prop :=
  (t222 ≤ 16 ∧ (K222 r0 x2 x3 x4 x5 x6 x7 x8 (x9 + nI 1) (t222 + 1) μ))
def w_L_isWhole_b222 (G : mgT) (Q : Int32 → mmT → Prop) (K222 : Option Nat → Int32 → Int32 → Int32 → Int32 → Int32 → Int32 → Int32 → Int32 → Nat → mmT → Prop) (r0 : Option Nat) (x2 : Int32) (x3 : Int32) (x4 : Int32) (x5 : Int32) (x6 : Int32) (x7 : Int32) (x8 : Int32) (x9 : Int32) (t222 : Nat) (μ : mmT) : Prop :=
  (t222 ≤ 16 ∧ (w_L_waitingMessage G μ r0 x9 (fun u11 => ((u11 < 0 → (∃ n, w_L_isWhole_l300 G Q  n r0 x2 x3 x4 x5 x6 x7 x8 (nI 0) (nI 0) 0 μ)) ∧ (¬ u11 < 0 → (w_L_waitingMessage G μ r0 (x9 - (nI 1)) (fun u105 => (w_L_waitingMessage G μ r0 x9 (fun u106 => (w_L_attempts G μ r0 u105 (fun u107 => (w_L_attempts G μ r0 u106 (fun u108 => ((u108 < u107 → (w_L_isWhole_b286 G Q  μ)) ∧ (¬ u108 < u107 → (w_L_attempts G μ r0 u105 (fun u110 => (w_L_attempts G μ r0 u106 (fun u111 => ((¬ u110 = u111 → (w_L_isWhole_b288 G Q K222 r0 x2 x3 x4 x5 x6 x7 x8 x9 t222 μ)) ∧ (u110 = u111 → ((u105 ≤ u106 → (w_L_isWhole_b288 G Q K222 r0 x2 x3 x4 x5 x6 x7 x8 x9 t222 μ)) ∧ (¬ u105 ≤ u106 → (w_L_isWhole_b286 G Q  μ))))))))))))))))))))))))
def w_L_isWhole_l222 (G : mgT) (Q : Int32 → mmT → Prop) : Nat → Option Nat → Int32 → Int32 → Int32 → Int32 → Int32 → Int32 → Int32 → Int32 → Nat → mmT → Prop
  | 0 => fun _ _ _ _ _ _ _ _ _ _ _ => False
  | n + 1 => fun r0 x2 x3 x4 x5 x6 x7 x8 x9 t222 μ => w_L_isWhole_b222 G Q  (w_L_isWhole_l222 G Q  n) r0 x2 x3 x4 x5 x6 x7 x8 x9 t222 μ
def w_L_isWhole_b211 (G : mgT) (Q : Int32 → mmT → Prop) (μ : mmT) : Prop :=
  (Q (nI 0) μ)
def w_L_isWhole_b208 (G : mgT) (Q : Int32 → mmT → Prop) (K127 : Option Nat → Int32 → Int32 → Int32 → Int32 → Int32 → Int32 → Int32 → Int32 → Nat → mmT → Prop) (r0 : Option Nat) (x2 : Int32) (x3 : Int32) (x4 : Int32) (x5 : Int32) (x6 : Int32) (x7 : Int32) (x8 : Int32) (x9 : Int32) (s0 : Int32) (s1 : Int32) (t127 : Nat) (μ : mmT) : Prop :=
  (t127 ≤ 4 ∧ ((s0 = s1 → (K127 r0 x2 x3 x4 x5 x6 x7 x8 (x9 + nI 1) (t127 + 1) μ)) ∧ (¬ s0 = s1 → (w_L_isWhole_b211 G Q  μ))))
def w_L_isWhole_b193 (G : mgT) (Q : Int32 → mmT → Prop) (K127 : Option Nat → Int32 → Int32 → Int32 → Int32 → Int32 → Int32 → Int32 → Int32 → Nat → mmT → Prop) (r0 : Option Nat) (x2 : Int32) (x3 : Int32) (x4 : Int32) (x5 : Int32) (x6 : Int32) (x7 : Int32) (x8 : Int32) (x9 : Int32) (s0 : Int32) (t127 : Nat) (μ : mmT) : Prop :=
  (t127 ≤ 4 ∧ (w_L_isFlying G μ r0 x9 (fun u122 => ((¬ u122 = (nI 1) → (w_L_isWhole_b208 G Q K127 r0 x2 x3 x4 x5 x6 x7 x8 x9 s0 (nI 0) t127 μ)) ∧ (u122 = (nI 1) → (w_L_isWhole_b208 G Q K127 r0 x2 x3 x4 x5 x6 x7 x8 x9 s0 (nI 1) t127 μ))))))
def w_L_isWhole_b176 (G : mgT) (Q : Int32 → mmT → Prop) (K127 : Option Nat → Int32 → Int32 → Int32 → Int32 → Int32 → Int32 → Int32 → Int32 → Nat → mmT → Prop) (r0 : Option Nat) (x2 : Int32) (x3 : Int32) (x4 : Int32) (x5 : Int32) (x6 : Int32) (x7 : Int32) (x8 : Int32) (x9 : Int32) (s0 : Int32) (s1 : Int32) (t127 : Nat) (μ : mmT) : Prop :=
  (t127 ≤ 4 ∧ ((¬ s0 = s1 → (w_L_isWhole_b211 G Q  μ)) ∧ (s0 = s1 → (w_L_carriedMessage G μ r0 x9 (fun u120 => ((u120 < 0 → (w_L_isWhole_b193 G Q K127 r0 x2 x3 x4 x5 x6 x7 x8 x9 (nI 0) t127 μ)) ∧ (¬ u120 < 0 → (w_L_isWhole_b193 G Q K127 r0 x2 x3 x4 x5 x6 x7 x8 x9 (nI 1) t127 μ))))))))
def w_L_isWhole_b161 (G : mgT) (Q : Int32 → mmT → Prop) (K127 : Option Nat → Int32 → Int32 → Int32 → Int32 → Int32 → Int32 → Int32 → Int32 → Nat → mmT → Prop) (r0 : Option Nat) (x2 : Int32) (x3 : Int32) (x4 : Int32) (x5 : Int32) (x6 : Int32) (x7 : Int32) (x8 : Int32) (x9 : Int32) (s0 : Int32) (t127 : Nat) (μ : mmT) : Prop :=
  (t127 ≤ 4 ∧ (w_L_isFlying G μ r0 x9 (fun u117 => ((¬ u117 = (nI 1) → (w_L_isWhole_b176 G Q K127 r0 x2 x3 x4 x5 x6 x7 x8 x9 s0 (nI 0) t127 μ)) ∧ (u117 = (nI 1) → (w_L_isWhole_b176 G Q K127 r0 x2 x3 x4 x5 x6 x7 x8 x9 s0 (nI 1) t127 μ))))))
def w_L_isWhole_b127 (G : mgT) (Q : Int32 → mmT → Prop) (K127 : Option Nat → Int32 → Int32 → Int32 → Int32 → Int32 → Int32 → Int32 → Int32 → Nat → mmT → Prop) (r0 : Option Nat) (x2 : Int32) (x3 : Int32) (x4 : Int32) (x5 : Int32) (x6 : Int32) (x7 : Int32) (x8 : Int32) (x9 : Int32) (t127 : Nat) (μ : mmT) : Prop :=
  (t127 ≤ 4 ∧ (∃ a6, r0 = some a6 ∧ (mK μ a6 = 10 ∧ (w_X10_crowCount G μ a6 (fun u9 => ((u9 ≤ x9 → (∃ n, w_L_isWhole_l222 G Q  n r0 x2 x3 x4 x5 x6 x7 x8 (nI 1) 0 μ)) ∧ (¬ u9 ≤ x9 → (w_L_isFlying G μ r0 x9 (fun u114 => (w_L_flightMinutes G μ r0 x9 (fun u115 => ((u115 ≤ 0 → (w_L_isWhole_b161 G Q K127 r0 x2 x3 x4 x5 x6 x7 (x8 + u114) x9 (nI 0) t127 μ)) ∧ (¬ u115 ≤ 0 → (w_L_isWhole_b161 G Q K127 r0 x2 x3 x4 x5 x6 x7 (x8 + u114) x9 (nI 1) t127 μ))))))))))))))
def w_L_isWhole_l127 (G : mgT) (Q : Int32 → mmT → Prop) : Nat → Option Nat → Int32 → Int32 → Int32 → Int32 → Int32 → Int32 → Int32 → Int32 → Nat → mmT → Prop
  | 0 => fun _ _ _ _ _ _ _ _ _ _ _ => False
  | n + 1 => fun r0 x2 x3 x4 x5 x6 x7 x8 x9 t127 μ => w_L_isWhole_b127 G Q  (w_L_isWhole_l127 G Q  n) r0 x2 x3 x4 x5 x6 x7 x8 x9 t127 μ
def w_L_isWhole_b112 (G : mgT) (Q : Int32 → mmT → Prop) (K18 : Option Nat → Int32 → Int32 → Int32 → Int32 → Int32 → Int32 → Int32 → Nat → mmT → Prop) (r0 : Option Nat) (x2 : Int32) (x3 : Int32) (x4 : Int32) (x5 : Int32) (x6 : Int32) (x8 : Int32) (s0 : Int32) (s1 : Int32) (t18 : Nat) (μ : mmT) : Prop :=
  (t18 ≤ 16 ∧ (K18 r0 x2 x3 x4 x5 x6 (s0 + s1) (x8 + nI 1) (t18 + 1) μ))
def w_L_isWhole_b91 (G : mgT) (Q : Int32 → mmT → Prop) (K18 : Option Nat → Int32 → Int32 → Int32 → Int32 → Int32 → Int32 → Int32 → Nat → mmT → Prop) (r0 : Option Nat) (x2 : Int32) (x3 : Int32) (x4 : Int32) (x5 : Int32) (x7 : Int32) (x8 : Int32) (x9 : Int32) (s0 : Int32) (s1 : Int32) (t18 : Nat) (μ : mmT) : Prop :=
  (t18 ≤ 16 ∧ (w_L_status G μ r0 x9 (fun u133 => ((¬ u133 = (nI 100) → (w_L_isWhole_b112 G Q K18 r0 x2 x3 x4 x5 (s0 + s1) x8 x7 (nI 0) t18 μ)) ∧ (u133 = (nI 100) → (w_L_isWhole_b112 G Q K18 r0 x2 x3 x4 x5 (s0 + s1) x8 x7 (nI 1) t18 μ))))))
def w_L_isWhole_b54 (G : mgT) (Q : Int32 → mmT → Prop) (K18 : Option Nat → Int32 → Int32 → Int32 → Int32 → Int32 → Int32 → Int32 → Nat → mmT → Prop) (r0 : Option Nat) (x2 : Int32) (x3 : Int32) (x4 : Int32) (x5 : Int32) (x6 : Int32) (x7 : Int32) (x8 : Int32) (t18 : Nat) (μ : mmT) : Prop :=
  (t18 ≤ 16 ∧ (w_L_messageAt G μ r0 x8 (fun u129 => (w_L_attempts G μ r0 u129 (fun u130 => (w_L_status G μ r0 u129 (fun u131 => ((¬ u131 = (nI 102) → (w_L_isWhole_b91 G Q K18 r0 x2 x3 x4 (x5 + u130) x7 x8 u129 x6 (nI 0) t18 μ)) ∧ (u131 = (nI 102) → (w_L_isWhole_b91 G Q K18 r0 x2 x3 x4 (x5 + u130) x7 x8 u129 x6 (nI 1) t18 μ))))))))))
def w_L_isWhole_b43 (G : mgT) (Q : Int32 → mmT → Prop) (K18 : Option Nat → Int32 → Int32 → Int32 → Int32 → Int32 → Int32 → Int32 → Nat → mmT → Prop) (r0 : Option Nat) (x2 : Int32) (x3 : Int32) (x4 : Int32) (x5 : Int32) (x6 : Int32) (x7 : Int32) (x8 : Int32) (t18 : Nat) (μ : mmT) : Prop :=
  (t18 ≤ 16 ∧ (w_L_isMessage G μ r0 x8 (fun u126 μ127 => ((¬ u126 = 0 → (w_L_isWhole_b54 G Q K18 r0 x2 x3 x4 x5 x6 x7 x8 t18 μ127)) ∧ (u126 = 0 → (Q (nI 0) μ127))))))
def w_L_isWhole_b18 (G : mgT) (Q : Int32 → mmT → Prop) (K18 : Option Nat → Int32 → Int32 → Int32 → Int32 → Int32 → Int32 → Int32 → Nat → mmT → Prop) (r0 : Option Nat) (x2 : Int32) (x3 : Int32) (x4 : Int32) (x5 : Int32) (x6 : Int32) (x7 : Int32) (x8 : Int32) (t18 : Nat) (μ : mmT) : Prop :=
  (t18 ≤ 16 ∧ ((x4 ≤ x8 → (∃ n, w_L_isWhole_l127 G Q  n r0 x2 x3 x4 x5 x6 x7 (nI 0) (nI 0) 0 μ)) ∧ (¬ x4 ≤ x8 → ((¬ x3 = 0 → (w_L_isWhole_b43 G Q K18 r0 x2 x3 x4 x5 x6 x7 x8 t18 μ)) ∧ (x3 = 0 → (w_L_pick G μ (x2 + (nI 1)) (nI 16) (fun u135 => ((¬ x8 = u135 → (w_L_isWhole_b54 G Q K18 r0 x2 x3 x4 x5 x6 x7 x8 t18 μ)) ∧ (x8 = u135 → (w_L_isWhole_b43 G Q K18 r0 x2 x3 x4 x5 x6 x7 x8 t18 μ))))))))))
def w_L_isWhole_l18 (G : mgT) (Q : Int32 → mmT → Prop) : Nat → Option Nat → Int32 → Int32 → Int32 → Int32 → Int32 → Int32 → Int32 → Nat → mmT → Prop
  | 0 => fun _ _ _ _ _ _ _ _ _ _ => False
  | n + 1 => fun r0 x2 x3 x4 x5 x6 x7 x8 t18 μ => w_L_isWhole_b18 G Q  (w_L_isWhole_l18 G Q  n) r0 x2 x3 x4 x5 x6 x7 x8 t18 μ
def w_L_isWhole (G : mgT) (μ : mmT) (r0 : Option Nat) (x2 : Int32) (x3 : Int32) (Q : Int32 → mmT → Prop) : Prop :=
  (∃ a1, r0 = some a1 ∧ (mK μ a1 = 10 ∧ (w_X10_messageCount G μ a1 (fun u4 => (∃ n, w_L_isWhole_l18 G Q  n r0 x2 x3 u4 (nI 0) (nI 0) (nI 0) (nI 0) 0 μ)))))
def w_L_law_b451 (G : mgT) (μ : mmT) : Prop :=
  False
def w_L_law_b482 (G : mgT) (K28 : Option Nat → Option Nat → Int32 → Int32 → Int32 → Nat → mmT → Prop) (r1 : Option Nat) (r2 : Option Nat) (x3 : Int32) (x4 : Int32) (x5 : Int32) (t28 : Nat) (μ : mmT) : Prop :=
  (t28 ≤ 60 ∧ (K28 r1 r2 x3 x4 (x5 + nI 1) (t28 + 1) μ))
def w_L_law_b417 (G : mgT) (K28 : Option Nat → Option Nat → Int32 → Int32 → Int32 → Nat → mmT → Prop) (r1 : Option Nat) (r2 : Option Nat) (x3 : Int32) (x4 : Int32) (x5 : Int32) (x6 : Int64) (x19 : Int32) (s0 : Int32) (s1 : Int32) (t28 : Nat) (μ : mmT) : Prop :=
  (t28 ≤ 60 ∧ (((s0 &&& s1) = 0 → (w_L_law_b451 G  μ)) ∧ (¬ (s0 &&& s1) = 0 → ((¬ (x5 - x5 / (nI 4) * (nI 4)) = (nI 3) → (w_L_isWhole G μ r1 (x4 + nI 5) (nI 0) (fun u43 μ44 => ((¬ u43 = 0 → (((-74) < x19 → (w_L_sum G μ44 r1 (fun u47 => (∃ a48, r2 = some a48 ∧ (mK μ44 a48 = 35 ∧ (vp_in (x3 + nI 1) (mN μ44 a48) ∧ (w_L_law_b482 G K28 r1 r2 (x3 + nI 1) (x4 + nI 5) x5 t28 (sL μ44 a48 (x3 + nI 1).toNatClampNeg u47)))))))) ∧ (¬ (-74) < x19 → (w_L_sum G μ44 r1 (fun u52 => (((lg_cmp u52 x6) = 0 → (w_L_law_b482 G K28 r1 r2 x3 (x4 + nI 5) x5 t28 μ44)) ∧ (¬ (lg_cmp u52 x6) = 0 → False))))))) ∧ (u43 = 0 → (w_L_law_b451 G  μ44)))))) ∧ ((x5 - x5 / (nI 4) * (nI 4)) = (nI 3) → (w_L_isWhole G μ r1 (x4 + nI 5) (nI 1) (fun u54 μ55 => ((¬ u54 = 0 → (((-74) < x19 → (w_L_sum G μ55 r1 (fun u58 => (∃ a59, r2 = some a59 ∧ (mK μ55 a59 = 35 ∧ (vp_in (x3 + nI 1) (mN μ55 a59) ∧ (w_L_law_b482 G K28 r1 r2 (x3 + nI 1) (x4 + nI 5) x5 t28 (sL μ55 a59 (x3 + nI 1).toNatClampNeg u58)))))))) ∧ (¬ (-74) < x19 → (w_L_sum G μ55 r1 (fun u63 => (((lg_cmp u63 x6) = 0 → (w_L_law_b482 G K28 r1 r2 x3 (x4 + nI 5) x5 t28 μ55)) ∧ (¬ (lg_cmp u63 x6) = 0 → False))))))) ∧ (u54 = 0 → (w_L_law_b451 G  μ55))))))))))
def w_L_law_b412 (G : mgT) (K28 : Option Nat → Option Nat → Int32 → Int32 → Int32 → Nat → mmT → Prop) (r1 : Option Nat) (r2 : Option Nat) (x3 : Int32) (x4 : Int32) (x5 : Int32) (x6 : Int64) (x19 : Int32) (s0 : Int32) (t28 : Nat) (μ : mmT) : Prop :=
  (t28 ≤ 60 ∧ (w_L_law_b417 G K28 r1 r2 x3 x4 x5 x6 x19 s0 (nI 1) t28 μ))
def w_L_law_b374 (G : mgT) (K28 : Option Nat → Option Nat → Int32 → Int32 → Int32 → Nat → mmT → Prop) (r1 : Option Nat) (r2 : Option Nat) (x3 : Int32) (x4 : Int32) (x5 : Int32) (x6 : Int64) (x10 : Int32) (x11 : Int32) (x13 : Int32) (x14 : Int32) (x19 : Int32) (x20 : Int32) (s0 : Int32) (s1 : Int32) (t28 : Nat) (μ : mmT) : Prop :=
  (t28 ≤ 60 ∧ ((x20 = 0 → (w_L_law_b412 G K28 r1 r2 x3 x4 x5 x6 x19 (s0 &&& s1) t28 μ)) ∧ (¬ x20 = 0 → ((¬ x13 = (nI 110) → (w_L_law_b412 G K28 r1 r2 x3 x4 x5 x6 x19 (s0 &&& s1) t28 μ)) ∧ (x13 = (nI 110) → ((x14 ≤ x11 → (w_L_law_b412 G K28 r1 r2 x3 x4 x5 x6 x19 (s0 &&& s1) t28 μ)) ∧ (¬ x14 ≤ x11 → (w_L_napMinutes G μ r1 x10 (fun u67 => ((¬ u67 = (x14 - x11) → (w_L_law_b417 G K28 r1 r2 x3 x4 x5 x6 x19 (s0 &&& s1) (nI 0) t28 μ)) ∧ (u67 = (x14 - x11) → (w_L_law_b412 G K28 r1 r2 x3 x4 x5 x6 x19 (s0 &&& s1) t28 μ))))))))))))
def w_L_law_b369 (G : mgT) (K28 : Option Nat → Option Nat → Int32 → Int32 → Int32 → Nat → mmT → Prop) (r1 : Option Nat) (r2 : Option Nat) (x3 : Int32) (x4 : Int32) (x5 : Int32) (x6 : Int64) (x10 : Int32) (x11 : Int32) (x13 : Int32) (x14 : Int32) (x19 : Int32) (x20 : Int32) (s0 : Int32) (t28 : Nat) (μ : mmT) : Prop :=
  (t28 ≤ 60 ∧ (w_L_law_b374 G K28 r1 r2 x3 x4 x5 x6 x10 x11 x13 x14 x19 x20 s0 (nI 1) t28 μ))
def w_L_law_b373 (G : mgT) (K28 : Option Nat → Option Nat → Int32 → Int32 → Int32 → Nat → mmT → Prop) (r1 : Option Nat) (r2 : Option Nat) (x3 : Int32) (x4 : Int32) (x5 : Int32) (x6 : Int64) (x10 : Int32) (x11 : Int32) (x13 : Int32) (x14 : Int32) (x19 : Int32) (x20 : Int32) (s0 : Int32) (t28 : Nat) (μ : mmT) : Prop :=
  (t28 ≤ 60 ∧ (w_L_law_b374 G K28 r1 r2 x3 x4 x5 x6 x10 x11 x13 x14 x19 x20 s0 (nI 0) t28 μ))
def w_L_law_b309 (G : mgT) (K28 : Option Nat → Option Nat → Int32 → Int32 → Int32 → Nat → mmT → Prop) (r1 : Option Nat) (r2 : Option Nat) (x3 : Int32) (x4 : Int32) (x5 : Int32) (x6 : Int64) (x10 : Int32) (x11 : Int32) (x12 : Int32) (x13 : Int32) (x14 : Int32) (x19 : Int32) (x20 : Int32) (s0 : Int32) (t28 : Nat) (μ : mmT) : Prop :=
  (t28 ≤ 60 ∧ ((x20 = 0 → (w_L_law_b369 G K28 r1 r2 x3 x4 x5 x6 x10 x11 x13 x14 x19 x20 s0 t28 μ)) ∧ (¬ x20 = 0 → ((x12 < 0 → (w_L_law_b369 G K28 r1 r2 x3 x4 x5 x6 x10 x11 x13 x14 x19 x20 s0 t28 μ)) ∧ (¬ x12 < 0 → ((x11 < x12 → (w_L_status G μ r1 x10 (fun u71 => ((u71 = (nI 100) → (w_L_law_b373 G K28 r1 r2 x3 x4 x5 x6 x10 x11 x13 x14 x19 x20 s0 t28 μ)) ∧ (¬ u71 = (nI 100) → (w_L_minutesUntilDelivered G μ r1 x10 (fun u73 μ74 => ((¬ u73 = (x12 - x11) → (w_L_law_b373 G K28 r1 r2 x3 x4 x5 x6 x10 x11 x13 x14 x19 x20 s0 t28 μ74)) ∧ (u73 = (x12 - x11) → (w_L_law_b369 G K28 r1 r2 x3 x4 x5 x6 x10 x11 x13 x14 x19 x20 s0 t28 μ74)))))))))) ∧ (¬ x11 < x12 → (w_L_status G μ r1 x10 (fun u76 => ((¬ u76 = (nI 100) → (w_L_law_b373 G K28 r1 r2 x3 x4 x5 x6 x10 x11 x13 x14 x19 x20 s0 t28 μ)) ∧ (u76 = (nI 100) → (w_L_law_b369 G K28 r1 r2 x3 x4 x5 x6 x10 x11 x13 x14 x19 x20 s0 t28 μ))))))))))))
def w_L_law_b304 (G : mgT) (K28 : Option Nat → Option Nat → Int32 → Int32 → Int32 → Nat → mmT → Prop) (r1 : Option Nat) (r2 : Option Nat) (x3 : Int32) (x4 : Int32) (x5 : Int32) (x6 : Int64) (x10 : Int32) (x11 : Int32) (x12 : Int32) (x13 : Int32) (x14 : Int32) (x19 : Int32) (x20 : Int32) (t28 : Nat) (μ : mmT) : Prop :=
  (t28 ≤ 60 ∧ (w_L_law_b309 G K28 r1 r2 x3 x4 x5 x6 x10 x11 x12 x13 x14 x19 x20 (nI 1) t28 μ))
def w_L_law_b308 (G : mgT) (K28 : Option Nat → Option Nat → Int32 → Int32 → Int32 → Nat → mmT → Prop) (r1 : Option Nat) (r2 : Option Nat) (x3 : Int32) (x4 : Int32) (x5 : Int32) (x6 : Int64) (x10 : Int32) (x11 : Int32) (x12 : Int32) (x13 : Int32) (x14 : Int32) (x19 : Int32) (x20 : Int32) (t28 : Nat) (μ : mmT) : Prop :=
  (t28 ≤ 60 ∧ (w_L_law_b309 G K28 r1 r2 x3 x4 x5 x6 x10 x11 x12 x13 x14 x19 x20 (nI 0) t28 μ))
def w_L_law_b239 (G : mgT) (K28 : Option Nat → Option Nat → Int32 → Int32 → Int32 → Nat → mmT → Prop) (r1 : Option Nat) (r2 : Option Nat) (x3 : Int32) (x4 : Int32) (x5 : Int32) (x6 : Int64) (x9 : Int32) (x10 : Int32) (x11 : Int32) (x12 : Int32) (x13 : Int32) (x14 : Int32) (x15 : Int32) (x16 : Int32) (x17 : Int32) (x18 : Int32) (x19 : Int32) (s0 : Int32) (t28 : Nat) (μ : mmT) : Prop :=
  (t28 ≤ 60 ∧ ((s0 = 0 → (w_L_law_b304 G K28 r1 r2 x3 x4 x5 x6 x10 x11 x12 x13 x14 x19 s0 t28 μ)) ∧ (¬ s0 = 0 → (∃ a78, r1 = some a78 ∧ (mK μ a78 = 10 ∧ (w_X10_time G μ a78 (fun u81 => ((¬ u81 = (x16 + x11) → (w_L_law_b308 G K28 r1 r2 x3 x4 x5 x6 x10 x11 x12 x13 x14 x19 s0 t28 μ)) ∧ (u81 = (x16 + x11) → (w_X10_deliveredTotal G μ a78 (fun u83 => ((¬ u83 = (x15 + x19) → (w_L_law_b308 G K28 r1 r2 x3 x4 x5 x6 x10 x11 x12 x13 x14 x19 s0 t28 μ)) ∧ (u83 = (x15 + x19) → (w_X10_messageCount G μ a78 (fun u85 => (w_X10_duplicateTotal G μ a78 (fun u86 => (w_X10_failedTotal G μ a78 (fun u87 => ((¬ u85 = (x9 - ((u86 + u87) - x18)) → (w_L_law_b308 G K28 r1 r2 x3 x4 x5 x6 x10 x11 x12 x13 x14 x19 s0 t28 μ)) ∧ (u85 = (x9 - ((u86 + u87) - x18)) → (w_X10_arrivalTotal G μ a78 (fun u89 => ((u89 < (x17 + x19) → (w_L_law_b308 G K28 r1 r2 x3 x4 x5 x6 x10 x11 x12 x13 x14 x19 s0 t28 μ)) ∧ (¬ u89 < (x17 + x19) → (w_L_law_b304 G K28 r1 r2 x3 x4 x5 x6 x10 x11 x12 x13 x14 x19 s0 t28 μ))))))))))))))))))))))))))
def w_L_law_b238 (G : mgT) (K28 : Option Nat → Option Nat → Int32 → Int32 → Int32 → Nat → mmT → Prop) (r1 : Option Nat) (r2 : Option Nat) (x3 : Int32) (x4 : Int32) (x5 : Int32) (x6 : Int64) (x9 : Int32) (x10 : Int32) (x11 : Int32) (x12 : Int32) (x13 : Int32) (x14 : Int32) (x15 : Int32) (x16 : Int32) (x17 : Int32) (x18 : Int32) (x19 : Int32) (t28 : Nat) (μ : mmT) : Prop :=
  (t28 ≤ 60 ∧ (w_L_law_b239 G K28 r1 r2 x3 x4 x5 x6 x9 x10 x11 x12 x13 x14 x15 x16 x17 x18 x19 (nI 0) t28 μ))
def w_L_law_b131 (G : mgT) (K28 : Option Nat → Option Nat → Int32 → Int32 → Int32 → Nat → mmT → Prop) (r1 : Option Nat) (r2 : Option Nat) (x3 : Int32) (x4 : Int32) (x5 : Int32) (x6 : Int64) (x8 : Int32) (x9 : Int32) (s0 : Int32) (t28 : Nat) (μ : mmT) : Prop :=
  (t28 ≤ 60 ∧ (w_L_pick G μ (x4 + (nI 1)) (nI 8) (fun u21 => (w_L_minutesUntilDelivered G μ r1 s0 (fun u22 μ23 => (w_L_status G μ23 r1 s0 (fun u24 => (w_L_napMinutes G μ23 r1 s0 (fun u25 => (∃ a26, r1 = some a26 ∧ (mK μ23 a26 = 10 ∧ (w_X10_deliveredTotal G μ23 a26 (fun u29 => (w_X10_time G μ23 a26 (fun u30 => (w_X10_arrivalTotal G μ23 a26 (fun u31 => (w_X10_duplicateTotal G μ23 a26 (fun u32 => (w_X10_failedTotal G μ23 a26 (fun u33 => (w_L_does G μ23 x4 x8 r1 s0 u21 (fun u34 μ35 => ((x8 ≤ (nI 29) → (w_L_law_b238 G K28 r1 r2 x3 x4 x5 x6 x9 s0 u21 u22 u24 u25 u29 u30 u31 (u32 + u33) u34 t28 μ35)) ∧ (¬ x8 ≤ (nI 29) → (((nI 38) ≤ x8 → (w_L_law_b238 G K28 r1 r2 x3 x4 x5 x6 x9 s0 u21 u22 u24 u25 u29 u30 u31 (u32 + u33) u34 t28 μ35)) ∧ (¬ (nI 38) ≤ x8 → ((u34 ≤ (-70) → (w_L_law_b238 G K28 r1 r2 x3 x4 x5 x6 x9 s0 u21 u22 u24 u25 u29 u30 u31 (u32 + u33) u34 t28 μ35)) ∧ (¬ u34 ≤ (-70) → (w_L_law_b239 G K28 r1 r2 x3 x4 x5 x6 x9 s0 u21 u22 u24 u25 u29 u30 u31 (u32 + u33) u34 (nI 1) t28 μ35))))))))))))))))))))))))))))))
def w_L_law_b104 (G : mgT) (K28 : Option Nat → Option Nat → Int32 → Int32 → Int32 → Nat → mmT → Prop) (r1 : Option Nat) (r2 : Option Nat) (x3 : Int32) (x4 : Int32) (x5 : Int32) (x6 : Int64) (x8 : Int32) (x9 : Int32) (t28 : Nat) (μ : mmT) : Prop :=
  (t28 ≤ 60 ∧ (w_L_pick G μ (x4 + (nI 2)) (nI 40) (fun u20 => (w_L_law_b131 G K28 r1 r2 x3 x4 x5 x6 x8 x9 u20 t28 μ))))
def w_L_law_b81 (G : mgT) (K28 : Option Nat → Option Nat → Int32 → Int32 → Int32 → Nat → mmT → Prop) (r1 : Option Nat) (r2 : Option Nat) (x3 : Int32) (x4 : Int32) (x5 : Int32) (x6 : Int64) (s0 : Int32) (t28 : Nat) (μ : mmT) : Prop :=
  (t28 ≤ 60 ∧ (∃ a15, r1 = some a15 ∧ (mK μ a15 = 10 ∧ (w_X10_messageCount G μ a15 (fun u18 => ((u18 = 0 → (w_L_law_b104 G K28 r1 r2 x3 x4 x5 x6 s0 u18 t28 μ)) ∧ (¬ u18 = 0 → ((¬ (x5 - x5 / (nI 13) * (nI 13)) = (nI 12) → (w_L_pick G μ (x4 + (nI 2)) u18 (fun u95 => (w_L_messageAt G μ r1 u95 (fun u96 => (w_L_law_b131 G K28 r1 r2 x3 x4 x5 x6 s0 u18 u96 t28 μ)))))) ∧ ((x5 - x5 / (nI 13) * (nI 13)) = (nI 12) → (w_L_law_b104 G K28 r1 r2 x3 x4 x5 x6 s0 u18 t28 μ))))))))))
def w_L_law_b28 (G : mgT) (K28 : Option Nat → Option Nat → Int32 → Int32 → Int32 → Nat → mmT → Prop) (r1 : Option Nat) (r2 : Option Nat) (x3 : Int32) (x4 : Int32) (x5 : Int32) (t28 : Nat) (μ : mmT) : Prop :=
  (t28 ≤ 60 ∧ (((nI 60) ≤ x5 → (w_L_isKept G μ r1 r2 x3 (fun u8 μ9 => (u8 = nI 1)))) ∧ (¬ (nI 60) ≤ x5 → (w_L_sum G μ r1 (fun u10 => (((nI 2) ≤ x5 → (((nI 4) ≤ x5 → (((nI 10) ≤ x5 → (w_L_pick G μ x4 (nI 44) (fun u14 => (w_L_law_b81 G K28 r1 r2 x3 x4 x5 u10 u14 t28 μ)))) ∧ (¬ (nI 10) ≤ x5 → (w_L_law_b81 G K28 r1 r2 x3 x4 x5 u10 (nI 8) t28 μ)))) ∧ (¬ (nI 4) ≤ x5 → (w_L_law_b81 G K28 r1 r2 x3 x4 x5 u10 (nI 3) t28 μ)))) ∧ (¬ (nI 2) ≤ x5 → (w_L_law_b81 G K28 r1 r2 x3 x4 x5 u10 (nI 0) t28 μ))))))))
def w_L_law_l28 (G : mgT) : Nat → Option Nat → Option Nat → Int32 → Int32 → Int32 → Nat → mmT → Prop
  | 0 => fun _ _ _ _ _ _ _ => False
  | n + 1 => fun r1 r2 x3 x4 x5 t28 μ => w_L_law_b28 G  (w_L_law_l28 G  n) r1 r2 x3 x4 x5 t28 μ
def w_L_law (G : mgT) (μ : mmT) (z : Nat) : Prop :=
  (mK (nO μ z 9) z = 10 ∧ (w_X10_init G (nO μ z 9) (z + 1) z (fun μ2 z3 => (w_L_sum G (nA μ2 z3 3 80) (some z) (fun u4 => (mK (nA μ2 z3 3 80) z3 = 35 ∧ (vp_in (nI 0) (mN (nA μ2 z3 3 80) z3) ∧ (∃ n, w_L_law_l28 G  n (some z) (some z3) (nI 0) (nI 0) (nI 0) 0 (sL (nA μ2 z3 3 80) z3 (nI 0).toNatClampNeg u4)))))))))
