/-! THE LAW'S SUM -/
section SUM
variable {G : mgT} {μ ν ρ : mmT} {z a b c m i F n k p ct : Nat} {v w : Nat → Nat} {B : Nat} {x y : Int32}
def car (v : Nat → Nat) (c : Nat) : Int32 := if v (138 + 2 * c) = 0 then -75 else nI (v (138 + 2 * c) - 1)
def npP (v : Nat → Nat) (p : Nat) : Int32 := if v (146 + 7 * p + 4) = 110 then nI (v (146 + 7 * p + 5)) else -79
theorem a_car {Q : Int32 → Prop} (h : Ak μ z B v) (hn : n < v 1) (hq : Q (car v n)) : w_L_carriedMessage G μ (some z) (nI n) Q := by
  unfold car at hq
  exact a_carried h hn (fun e => by rwa [if_pos e] at hq) (fun e => by rwa [if_neg e] at hq)
theorem a_np {Q : Int32 → Prop} (h : Ak μ z B v) (hp : p < v 2) (hq : Q (npP v p)) : w_L_napMinutes G μ (some z) (nI (v (146 + 7 * p))) Q := by
  unfold npP at hq
  exact a_napP h hp (fun e => by rwa [if_pos e] at hq) (fun e => by rwa [if_neg e] at hq)
def s3 (v : Nat → Nat) : Nat → Nat → Int64 → Int64
  | 0, _, x => x
  | d + 1, p, x => s3 v d (p + 1) (((((31 : Int64) * (((((31 : Int64) * x) + ((1009 : Int64) * (nI (v (146 + 7 * p))).toInt64)) + ((101 : Int64) * (nI (v (146 + 7 * p + 1))).toInt64)) + (nI (v (146 + 7 * p + 2))).toInt64)) + ((101 : Int64) * (nI (v (146 + 7 * p + 3))).toInt64)) + (nI (v (146 + 7 * p + 4))).toInt64) + ((7 : Int64) * (npP v p).toInt64))
def s2 (v : Nat → Nat) : Nat → Nat → Int64 → Int64
  | 0, _, x => s3 v (v 2) 0 x
  | d + 1, c, x => s2 v d (c + 1) ((((31 : Int64) * x) + ((101 : Int64) * (car v c).toInt64)) + (nI (v (138 + 2 * c + 1))).toInt64)
def s1b (v : Nat → Nat) (n : Nat) : Nat → Nat → Int64 → Int64
  | 0, _, x => x
  | d + 1, k, x => s1b v n d (k + 1) (((31 : Int64) * x) + (nI (v (12 + 21 * n + 3 + k))).toInt64)
def s1 (v : Nat → Nat) : Nat → Nat → Int64 → Int64
  | 0, _, x => s2 v (v 1) 0 x
  | d + 1, n, x => s1 v d (n + 1) (s1b v n (v (12 + 21 * n + 2)) 0 (((31 : Int64) * ((((31 : Int64) * x) + ((101 : Int64) * (nI (v (12 + 21 * n))).toInt64)) + (nI (v (12 + 21 * n + 1))).toInt64)) + (nI (v (12 + 21 * n + 11))).toInt64))
def sumV (v : Nat → Nat) : Int64 := s1 v (v 0) 0 ((((31 : Int64) * ((((((31 : Int64) * (((31 : Int64) * (nI (v 4)).toInt64) + (nI (v 5)).toInt64)) + ((100003 : Int64) * (nI (v 3)).toInt64)) + ((1009 : Int64) * (nI (v 7)).toInt64)) + ((101 : Int64) * (nI (v 8)).toInt64)) + (nI (v 9)).toInt64)) + ((101 : Int64) * (nI (v 6)).toInt64)) + (nI (v 10)).toInt64)
theorem t_s3 {Q : Int64 → Prop} (h : Ak μ z B v) : ∀ d p x, p + d = v 2 → Q (s3 v d p x) → w_L_sum_l209 G μ Q (d + 1) (some z) x (nI p) p := by
  intro d
  have l2 := h.l.1.2.2
  induction d with
  | zero =>
    intro p x hp hq
    show w_L_sum_b209 G μ Q _ _ _ _ _
    unfold w_L_sum_b209
    exact ⟨by omega, z, rfl, h.1.kz, a_messageCount h (pk_le (v 2) p (fun _ => hq) (fun c => by omega))⟩
  | succ d ih =>
    intro p x hp hq
    show w_L_sum_b209 G μ Q _ _ _ _ _
    unfold w_L_sum_b209
    have hp2 : p < v 2 := by omega
    refine ⟨by omega, z, rfl, h.1.kz, a_messageCount h (pk_le (v 2) p (fun c => by omega) (fun _ => ?_))⟩
    refine a_messageAt h hp2 (a_nestOf h hp2 (a_keyOf h hp2 (a_attempts h hp2 (a_statusP h hp2 (a_np h hp2 ?_)))))
    rw [nI_add]
    exact ih (p + 1) _ (by omega) hq
theorem t_s2 {Q : Int64 → Prop} (h : Ak μ z B v) : ∀ d c x, c + d = v 1 → Q (s2 v d c x) → w_L_sum_l169 G μ Q (d + 1) (some z) x (nI c) c := by
  intro d
  have l1 := h.l.1.2.1
  induction d with
  | zero =>
    intro c x hp hq
    show w_L_sum_b169 G μ Q _ _ _ _ _
    unfold w_L_sum_b169
    exact ⟨by omega, z, rfl, h.1.kz, a_crowCount h (pk_le (v 1) c (fun _ => ⟨v 2 + 1, t_s3 h (v 2) 0 x (Nat.zero_add _) hq⟩) (fun c => by omega))⟩
  | succ d ih =>
    intro c x hp hq
    show w_L_sum_b169 G μ Q _ _ _ _ _
    unfold w_L_sum_b169
    have hp2 : c < v 1 := by omega
    refine ⟨by omega, z, rfl, h.1.kz, a_crowCount h (pk_le (v 1) c (fun c => by omega) (fun _ => ?_))⟩
    refine a_car h hp2 (a_flightMinutes h hp2 ?_)
    rw [nI_add]
    exact ih (c + 1) _ (by omega) hq
theorem t_s1b {Q : Int64 → Prop} {K : Option Nat → Int64 → Int32 → Nat → Prop} (h : Ak μ z B v) (hn : n < v 0) (h6 : n ≤ 6) : ∀ d k x, k + d = v (12 + 21 * n + 2) → K (some z) (s1b v n d k x) (nI (n + 1)) (n + 1) → w_L_sum_l130 G μ Q K (d + 1) (some z) x (nI n) (nI k) n k := by
  intro d
  have l8 := (h.l.2.1 n hn).1
  induction d with
  | zero =>
    intro k x hp hq
    show w_L_sum_b130 G μ Q _ _ _ _ _ _ _ _
    unfold w_L_sum_b130
    exact ⟨by omega, by omega, a_inboxSize h hn (pk_le (v (12 + 21 * n + 2)) k (fun _ => by rw [nI_add]; exact hq) (fun c => by omega))⟩
  | succ d ih =>
    intro k x hp hq
    show w_L_sum_b130 G μ Q _ _ _ _ _ _ _ _
    unfold w_L_sum_b130
    have hk : k < v (12 + 21 * n + 2) := by omega
    refine ⟨by omega, by omega, a_inboxSize h hn (pk_le (v (12 + 21 * n + 2)) k (fun c => by omega) (fun _ => a_inboxMessage h hn hk ?_))⟩
    rw [nI_add]
    exact ih (k + 1) _ (by omega) hq
theorem t_s1 {Q : Int64 → Prop} (h : Ak μ z B v) : ∀ d n x, n + d = v 0 → Q (s1 v d n x) → w_L_sum_l82 G μ Q (d + 1) (some z) x (nI n) n := by
  intro d
  have l0 := h.l.1.1
  induction d with
  | zero =>
    intro n x hp hq
    show w_L_sum_b82 G μ Q _ _ _ _ _
    unfold w_L_sum_b82
    exact ⟨by omega, z, rfl, h.1.kz, a_nestCount h (pk_le (v 0) n (fun _ => ⟨v 1 + 1, t_s2 h (v 1) 0 x (Nat.zero_add _) hq⟩) (fun c => by omega))⟩
  | succ d ih =>
    intro n x hp hq
    show w_L_sum_b82 G μ Q _ _ _ _ _
    unfold w_L_sum_b82
    have hn : n < v 0 := by omega
    refine ⟨by omega, z, rfl, h.1.kz, a_nestCount h (pk_le (v 0) n (fun c => by omega) (fun _ => ?_))⟩
    refine a_distance h hn (a_loss h hn (a_rememberedCount h hn ⟨v (12 + 21 * n + 2) + 1, t_s1b h hn (by omega) _ 0 _ (Nat.zero_add _) ?_⟩))
    exact ih (n + 1) _ (by omega) hq
theorem t_sumV {Q : Int64 → Prop} (h : Ak μ z B v) (hq : Q (sumV v)) : w_L_sum G μ (some z) Q := by
  unfold w_L_sum
  exact ⟨z, rfl, h.1.kz, a_time h (a_wind h (a_publishedTotal h (a_readTotal h (a_duplicateTotal h (a_failedTotal h (a_deliveredTotal h (a_arrivalTotal h ⟨v 0 + 1, t_s1 h (v 0) 0 _ (Nat.zero_add _) hq⟩)))))))⟩
end SUM
