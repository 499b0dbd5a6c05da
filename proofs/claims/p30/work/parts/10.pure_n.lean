def F_L_told_L84  : Nat → Int64 → Int32 → Hp → (Int64 → Hp → Prop) → Prop
  | 0, _, _, _, _ => False
  | n + 1, y1, y3, h0, Q => (((32 : Int32) ≤ y3 → (Q y1 h0)) ∧ (¬ (32 : Int32) ≤ y3 → (F_X7_log (y3 / (4 : Int32)) (y3 - y3 / (4 : Int32) * (4 : Int32)) h0 (fun r_5 h_6 => ∀ x_7 : Int64, x_7 = (((31 : Int64) * y1) + r_5.toInt64) → (∀ x_8 : Int32, x_8 = y3 + 1 → (F_L_told_L84  n x_7 x_8 h_6 Q))))))
def F_L_told_L33  : Nat → Int64 → Int32 → Hp → (Int64 → Hp → Prop) → Prop
  | 0, _, _, _, _ => False
  | n + 1, y1, y3, h0, Q => (((56 : Int32) ≤ y3 → (∃ n_9, F_L_told_L84  n_9 y1 (0 : Int32) h0 Q)) ∧ (¬ (56 : Int32) ≤ y3 → (F_X7_of (y3 / (8 : Int32)) (y3 - y3 / (8 : Int32) * (8 : Int32)) h0 (fun r_10 h_11 => F_X7_ofStar (y3 / (8 : Int32)) (y3 - y3 / (4 : Int32) * (4 : Int32)) h_11 (fun r_12 h_13 => ∀ x_14 : Int64, x_14 = (((31 : Int64) * (((31 : Int64) * y1) + r_10.toInt64)) + r_12.toInt64) → (∀ x_15 : Int32, x_15 = y3 + 1 → (F_L_told_L33  n x_14 x_15 h_13 Q)))))))
def F_L_told_L6  : Nat → Int64 → Int32 → Hp → (Int64 → Hp → Prop) → Prop
  | 0, _, _, _, _ => False
  | n + 1, y1, y3, h0, Q => (((15 : Int32) ≤ y3 → (∃ n_16, F_L_told_L33  n_16 y1 (0 : Int32) h0 Q)) ∧ (¬ (15 : Int32) ≤ y3 → (F_X7_count y3 h0 (fun r_17 h_18 => ∀ x_19 : Int64, x_19 = (((31 : Int64) * y1) + r_17.toInt64) → (∀ x_20 : Int32, x_20 = y3 + 1 → (F_L_told_L6  n x_19 x_20 h_18 Q))))))
def F_L_told  (h0 : Hp) (Q : Int64 → Hp → Prop) : Prop := ∀ x_1 : Int64, x_1 = (223 : Int64) → (∃ n_21, F_L_told_L6  n_21 x_1 (0 : Int32) h0 Q)
