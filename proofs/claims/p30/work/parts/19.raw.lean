/-! The law's rows q, d, v, l (cells 158 .. 161) as one row of numbers. -/
def dcl (y : Int32) : Int32 := if 9000 < y then y - 20000 else y
def cld (y : Int32) : Int32 := if 9000 < y then 1 else 0
def hs9 (y : Int32) : Int32 := if y = 9999 then 0 else 1
def vl9 (y : Int32) : Int32 := if y = 9999 then 0 else y
def rwA (q d v l : Nat → Int32) (k : Nat) : Int32 := if k < 5 then q k else if k = 5 then hs9 (q 5) else if k = 6 then vl9 (q 5) else if k < 15 then q (k - 1) else if k < 23 then dcl (d (k - 15)) else if k < 31 then cld (d (k - 23)) else if k < 87 then (if (k - 31) % 8 < 5 then v (7 * ((k - 31) / 8) + (k - 31) % 8) else if (k - 31) % 8 = 5 then hs9 (v (7 * ((k - 31) / 8) + 5)) else if (k - 31) % 8 = 6 then vl9 (v (7 * ((k - 31) / 8) + 5)) else v (7 * ((k - 31) / 8) + 6)) else l (k - 87)
def lrow (g : Hp) : Nat → Int32 := rwA (g 158) (g 159) (g 160) (g 161)
section RAW
variable {q d v l q' d' v' l' : Nat → Int32}
theorem qz_q {k : Nat} (h : k < 5) : rwA q d v l k = q k := by
  unfold rwA
  rw [if_pos h]
theorem qz_5 : rwA q d v l 5 = hs9 (q 5) := by
  unfold rwA
  rw [if_neg (by decide), if_pos rfl]
theorem qz_6 : rwA q d v l 6 = vl9 (q 5) := by
  unfold rwA
  rw [if_neg (by decide), if_neg (by decide), if_pos rfl]
theorem qz_p {k : Nat} (h : 6 ≤ k) (h2 : k < 14) : rwA q d v l (k + 1) = q k := by
  unfold rwA
  rw [if_neg (by omega), if_neg (by omega), if_neg (by omega), if_pos (by omega), Nat.add_sub_cancel]
theorem qz_d {s : Nat} (h : s < 8) : rwA q d v l (15 + s) = dcl (d s) := by
  unfold rwA
  rw [if_neg (by omega), if_neg (by omega), if_neg (by omega), if_neg (by omega), if_pos (by omega), Nat.add_sub_cancel_left]
theorem qz_c {s : Nat} (h : s < 8) : rwA q d v l (23 + s) = cld (d s) := by
  unfold rwA
  rw [if_neg (by omega), if_neg (by omega), if_neg (by omega), if_neg (by omega), if_neg (by omega), if_pos (by omega), Nat.add_sub_cancel_left]
theorem qz_v {n f : Nat} (hn : n < 7) (hf : f < 5) : rwA q d v l (31 + 8 * n + f) = v (7 * n + f) := by
  have e1 : (31 + 8 * n + f - 31) % 8 = f := by omega
  have e2 : (31 + 8 * n + f - 31) / 8 = n := by omega
  unfold rwA
  rw [if_neg (by omega), if_neg (by omega), if_neg (by omega), if_neg (by omega), if_neg (by omega), if_neg (by omega), if_pos (by omega), e1, e2, if_pos hf]
theorem qz_v5 {n : Nat} (hn : n < 7) : rwA q d v l (31 + 8 * n + 5) = hs9 (v (7 * n + 5)) := by
  have e1 : (31 + 8 * n + 5 - 31) % 8 = 5 := by omega
  have e2 : (31 + 8 * n + 5 - 31) / 8 = n := by omega
  unfold rwA
  rw [if_neg (by omega), if_neg (by omega), if_neg (by omega), if_neg (by omega), if_neg (by omega), if_neg (by omega), if_pos (by omega), e1, e2, if_neg (by decide), if_pos rfl]
theorem qz_v6 {n : Nat} (hn : n < 7) : rwA q d v l (31 + 8 * n + 6) = vl9 (v (7 * n + 5)) := by
  have e1 : (31 + 8 * n + 6 - 31) % 8 = 6 := by omega
  have e2 : (31 + 8 * n + 6 - 31) / 8 = n := by omega
  unfold rwA
  rw [if_neg (by omega), if_neg (by omega), if_neg (by omega), if_neg (by omega), if_neg (by omega), if_neg (by omega), if_pos (by omega), e1, e2, if_neg (by decide), if_neg (by decide), if_pos rfl]
theorem qz_v7 {n : Nat} (hn : n < 7) : rwA q d v l (31 + 8 * n + 7) = v (7 * n + 6) := by
  have e1 : (31 + 8 * n + 7 - 31) % 8 = 7 := by omega
  have e2 : (31 + 8 * n + 7 - 31) / 8 = n := by omega
  unfold rwA
  rw [if_neg (by omega), if_neg (by omega), if_neg (by omega), if_neg (by omega), if_neg (by omega), if_neg (by omega), if_pos (by omega), e1, e2, if_neg (by decide), if_neg (by decide), if_neg (by decide)]
theorem qz_l {k : Nat} : rwA q d v l (87 + k) = l k := by
  unfold rwA
  rw [if_neg (by omega), if_neg (by omega), if_neg (by omega), if_neg (by omega), if_neg (by omega), if_neg (by omega), if_neg (by omega), Nat.add_sub_cancel_left]
/-- where a place of the row comes from -/
theorem qz_cases (k : Nat) : k < 5 ∨ k = 5 ∨ k = 6 ∨ (∃ j, 6 ≤ j ∧ j < 14 ∧ k = j + 1) ∨ (∃ s, s < 8 ∧ k = 15 + s) ∨ (∃ s, s < 8 ∧ k = 23 + s) ∨ (∃ n f, n < 7 ∧ f < 5 ∧ k = 31 + 8 * n + f) ∨ (∃ n, n < 7 ∧ k = 31 + 8 * n + 5) ∨ (∃ n, n < 7 ∧ k = 31 + 8 * n + 6) ∨ (∃ n, n < 7 ∧ k = 31 + 8 * n + 7) ∨ ∃ j, k = 87 + j := by
  by_cases h1 : k < 5
  · exact Or.inl h1
  by_cases h2 : k = 5
  · exact Or.inr (Or.inl h2)
  by_cases h3 : k = 6
  · exact Or.inr (Or.inr (Or.inl h3))
  by_cases h4 : k < 15
  · exact Or.inr (Or.inr (Or.inr (Or.inl ⟨k - 1, by omega, by omega, by omega⟩)))
  by_cases h5 : k < 23
  · exact Or.inr (Or.inr (Or.inr (Or.inr (Or.inl ⟨k - 15, by omega, by omega⟩))))
  by_cases h6 : k < 31
  · exact Or.inr (Or.inr (Or.inr (Or.inr (Or.inr (Or.inl ⟨k - 23, by omega, by omega⟩)))))
  by_cases h7 : k < 87
  · by_cases g1 : (k - 31) % 8 < 5
    · exact Or.inr (Or.inr (Or.inr (Or.inr (Or.inr (Or.inr (Or.inl ⟨(k - 31) / 8, (k - 31) % 8, by omega, g1, by omega⟩))))))
    by_cases g2 : (k - 31) % 8 = 5
    · exact Or.inr (Or.inr (Or.inr (Or.inr (Or.inr (Or.inr (Or.inr (Or.inl ⟨(k - 31) / 8, by omega, by omega⟩)))))))
    by_cases g3 : (k - 31) % 8 = 6
    · exact Or.inr (Or.inr (Or.inr (Or.inr (Or.inr (Or.inr (Or.inr (Or.inr (Or.inl ⟨(k - 31) / 8, by omega, by omega⟩))))))))
    · exact Or.inr (Or.inr (Or.inr (Or.inr (Or.inr (Or.inr (Or.inr (Or.inr (Or.inr (Or.inl ⟨(k - 31) / 8, by omega, by omega⟩)))))))))
  · exact Or.inr (Or.inr (Or.inr (Or.inr (Or.inr (Or.inr (Or.inr (Or.inr (Or.inr (Or.inr ⟨k - 87, by omega⟩)))))))))
theorem ra_ext {r : Nat → Int32} (hq : ∀ k, k < 5 → r k = q k) (h5 : r 5 = hs9 (q 5)) (h6 : r 6 = vl9 (q 5)) (hp : ∀ k, 6 ≤ k → k < 14 → r (k + 1) = q k) (hd : ∀ s, s < 8 → r (15 + s) = dcl (d s)) (hc : ∀ s, s < 8 → r (23 + s) = cld (d s)) (hv : ∀ n f, n < 7 → f < 5 → r (31 + 8 * n + f) = v (7 * n + f)) (hv5 : ∀ n, n < 7 → r (31 + 8 * n + 5) = hs9 (v (7 * n + 5))) (hv6 : ∀ n, n < 7 → r (31 + 8 * n + 6) = vl9 (v (7 * n + 5))) (hv7 : ∀ n, n < 7 → r (31 + 8 * n + 7) = v (7 * n + 6)) (hl : ∀ k, r (87 + k) = l k) : rwA q d v l = r := by
  funext k
  rcases qz_cases k with h | rfl | rfl | ⟨j, a, b, rfl⟩ | ⟨s, a, rfl⟩ | ⟨s, a, rfl⟩ | ⟨n, f, a, b, rfl⟩ | ⟨n, a, rfl⟩ | ⟨n, a, rfl⟩ | ⟨n, a, rfl⟩ | ⟨j, rfl⟩
  · rw [qz_q h, hq k h]
  · rw [qz_5, h5]
  · rw [qz_6, h6]
  · rw [qz_p a b, hp j a b]
  · rw [qz_d a, hd s a]
  · rw [qz_c a, hc s a]
  · rw [qz_v a b, hv n f a b]
  · rw [qz_v5 a, hv5 n a]
  · rw [qz_v6 a, hv6 n a]
  · rw [qz_v7 a, hv7 n a]
  · rw [qz_l, hl j]
end RAW
theorem lr_q {g : Hp} {k : Nat} (h : k < 5) : lrow g k = g 158 k := qz_q h
theorem lr_5 {g : Hp} : lrow g 5 = hs9 (g 158 5) := qz_5
theorem lr_6 {g : Hp} : lrow g 6 = vl9 (g 158 5) := qz_6
theorem lr_p {g : Hp} {k : Nat} (h : 6 ≤ k) (h2 : k < 14) : lrow g (k + 1) = g 158 k := qz_p h h2
theorem lr_d {g : Hp} {s : Nat} (h : s < 8) : lrow g (15 + s) = dcl (g 159 s) := qz_d h
theorem lr_c {g : Hp} {s : Nat} (h : s < 8) : lrow g (23 + s) = cld (g 159 s) := qz_c h
theorem lr_v {g : Hp} {n f : Nat} (hn : n < 7) (hf : f < 5) : nv (lrow g) n f = g 160 (7 * n + f) := qz_v hn hf
theorem lr_v5 {g : Hp} {n : Nat} (hn : n < 7) : nv (lrow g) n 5 = hs9 (g 160 (7 * n + 5)) := qz_v5 hn
theorem lr_v6 {g : Hp} {n : Nat} (hn : n < 7) : nv (lrow g) n 6 = vl9 (g 160 (7 * n + 5)) := qz_v6 hn
theorem lr_v7 {g : Hp} {n : Nat} (hn : n < 7) : nv (lrow g) n 7 = g 160 (7 * n + 6) := qz_v7 hn
theorem lr_l {g : Hp} {k : Nat} : lrow g (87 + k) = g 161 k := qz_l
theorem ra_q {q d v l : Nat → Int32} {j : Nat} {x : Int32} (h : j < 5) : rwA (upd q j x) d v l = upd (rwA q d v l) j x := by
  refine ra_ext ?_ (by rw [upd_n' (by omega), qz_5, upd_n' (by omega)]) (by rw [upd_n' (by omega), qz_6, upd_n' (by omega)]) (fun k h1 h2 => by rw [upd_n' (by omega), qz_p h1 h2, upd_n' (by omega)]) (fun s hs => by rw [upd_n' (by omega), qz_d hs]) (fun s hs => by rw [upd_n' (by omega), qz_c hs]) (fun m e hm he => by rw [upd_n' (by omega), qz_v hm he]) (fun m hm => by rw [upd_n' (by omega), qz_v5 hm]) (fun m hm => by rw [upd_n' (by omega), qz_v6 hm]) (fun m hm => by rw [upd_n' (by omega), qz_v7 hm]) (fun k => by rw [upd_n' (by omega), qz_l])
  · intro k hk
    by_cases hh : k = j
    · rw [hh, upd_s', upd_s']
    · rw [upd_n' hh, upd_n' hh, qz_q hk]
theorem ra_5 {q d v l : Nat → Int32} {x : Int32}  : rwA (upd q 5 x) d v l = upd (upd (rwA q d v l) 5 (hs9 x)) 6 (vl9 x) := by
  refine ra_ext (fun k hk => by rw [upd_n' (by omega), upd_n' (by omega), qz_q hk, upd_n' (by omega)]) ?_ ?_ (fun k h1 h2 => by rw [upd_n' (by omega), upd_n' (by omega), qz_p h1 h2, upd_n' (by omega)]) (fun s hs => by rw [upd_n' (by omega), upd_n' (by omega), qz_d hs]) (fun s hs => by rw [upd_n' (by omega), upd_n' (by omega), qz_c hs]) (fun m e hm he => by rw [upd_n' (by omega), upd_n' (by omega), qz_v hm he]) (fun m hm => by rw [upd_n' (by omega), upd_n' (by omega), qz_v5 hm]) (fun m hm => by rw [upd_n' (by omega), upd_n' (by omega), qz_v6 hm]) (fun m hm => by rw [upd_n' (by omega), upd_n' (by omega), qz_v7 hm]) (fun k => by rw [upd_n' (by omega), upd_n' (by omega), qz_l])
  · rw [upd_n' (by decide), upd_s', upd_s']
  · rw [upd_s', upd_s']
theorem ra_p {q d v l : Nat → Int32} {j : Nat} {x : Int32} (h : 6 ≤ j) (h2 : j < 14) : rwA (upd q j x) d v l = upd (rwA q d v l) (j + 1) x := by
  refine ra_ext (fun k hk => by rw [upd_n' (by omega), qz_q hk, upd_n' (by omega)]) (by rw [upd_n' (by omega), qz_5, upd_n' (by omega)]) (by rw [upd_n' (by omega), qz_6, upd_n' (by omega)]) ?_ (fun s hs => by rw [upd_n' (by omega), qz_d hs]) (fun s hs => by rw [upd_n' (by omega), qz_c hs]) (fun m e hm he => by rw [upd_n' (by omega), qz_v hm he]) (fun m hm => by rw [upd_n' (by omega), qz_v5 hm]) (fun m hm => by rw [upd_n' (by omega), qz_v6 hm]) (fun m hm => by rw [upd_n' (by omega), qz_v7 hm]) (fun k => by rw [upd_n' (by omega), qz_l])
  · intro k h3 h4
    by_cases hh : k = j
    · rw [hh, upd_s', upd_s']
    · rw [upd_n' (by omega), upd_n' hh, qz_p h3 h4]
theorem ra_d {q d v l : Nat → Int32} {s : Nat} {x : Int32} (h : s < 8) : rwA q (upd d s x) v l = upd (upd (rwA q d v l) (15 + s) (dcl x)) (23 + s) (cld x) := by
  refine ra_ext (fun k hk => by rw [upd_n' (by omega), upd_n' (by omega), qz_q hk]) (by rw [upd_n' (by omega), upd_n' (by omega), qz_5]) (by rw [upd_n' (by omega), upd_n' (by omega), qz_6]) (fun k h1 h2 => by rw [upd_n' (by omega), upd_n' (by omega), qz_p h1 h2]) ?_ ?_ (fun m e hm he => by rw [upd_n' (by omega), upd_n' (by omega), qz_v hm he]) (fun m hm => by rw [upd_n' (by omega), upd_n' (by omega), qz_v5 hm]) (fun m hm => by rw [upd_n' (by omega), upd_n' (by omega), qz_v6 hm]) (fun m hm => by rw [upd_n' (by omega), upd_n' (by omega), qz_v7 hm]) (fun k => by rw [upd_n' (by omega), upd_n' (by omega), qz_l])
  · intro t ht
    by_cases hh : t = s
    · rw [hh, upd_n' (by omega), upd_s', upd_s']
    · rw [upd_n' (by omega), upd_n' (by omega), upd_n' hh, qz_d ht]
  · intro t ht
    by_cases hh : t = s
    · rw [hh, upd_s', upd_s']
    · rw [upd_n' (by omega), upd_n' (by omega), upd_n' hh, qz_c ht]
theorem ra_v {q d v l : Nat → Int32} {n f : Nat} {x : Int32} (hn : n < 7) (hf : f < 5) : rwA q d (upd v (7 * n + f) x) l = upd (rwA q d v l) (31 + 8 * n + f) x := by
  refine ra_ext (fun k hk => by rw [upd_n' (by omega), qz_q hk]) (by rw [upd_n' (by omega), qz_5]) (by rw [upd_n' (by omega), qz_6]) (fun k h1 h2 => by rw [upd_n' (by omega), qz_p h1 h2]) (fun s hs => by rw [upd_n' (by omega), qz_d hs]) (fun s hs => by rw [upd_n' (by omega), qz_c hs]) ?_ (fun m hm => by rw [upd_n' (by omega), qz_v5 hm, upd_n' (by omega)]) (fun m hm => by rw [upd_n' (by omega), qz_v6 hm, upd_n' (by omega)]) (fun m hm => by rw [upd_n' (by omega), qz_v7 hm, upd_n' (by omega)]) (fun k => by rw [upd_n' (by omega), qz_l])
  · intro m e hm he
    by_cases hh : m = n ∧ e = f
    · rw [hh.1, hh.2, upd_s', upd_s']
    · rw [upd_n' (by omega), upd_n' (by omega), qz_v hm he]
theorem ra_v5 {q d v l : Nat → Int32} {n : Nat} {x : Int32} (hn : n < 7) : rwA q d (upd v (7 * n + 5) x) l = upd (upd (rwA q d v l) (31 + 8 * n + 5) (hs9 x)) (31 + 8 * n + 6) (vl9 x) := by
  refine ra_ext (fun k hk => by rw [upd_n' (by omega), upd_n' (by omega), qz_q hk]) (by rw [upd_n' (by omega), upd_n' (by omega), qz_5]) (by rw [upd_n' (by omega), upd_n' (by omega), qz_6]) (fun k h1 h2 => by rw [upd_n' (by omega), upd_n' (by omega), qz_p h1 h2]) (fun s hs => by rw [upd_n' (by omega), upd_n' (by omega), qz_d hs]) (fun s hs => by rw [upd_n' (by omega), upd_n' (by omega), qz_c hs]) (fun m e hm he => by rw [upd_n' (by omega), upd_n' (by omega), qz_v hm he, upd_n' (by omega)]) ?_ ?_ (fun m hm => by rw [upd_n' (by omega), upd_n' (by omega), qz_v7 hm, upd_n' (by omega)]) (fun k => by rw [upd_n' (by omega), upd_n' (by omega), qz_l])
  · intro m hm
    by_cases hh : m = n
    · rw [hh, upd_n' (by omega), upd_s', upd_s']
    · rw [upd_n' (by omega), upd_n' (by omega), upd_n' (by omega), qz_v5 hm]
  · intro m hm
    by_cases hh : m = n
    · rw [hh, upd_s', upd_s']
    · rw [upd_n' (by omega), upd_n' (by omega), upd_n' (by omega), qz_v6 hm]
theorem ra_v6 {q d v l : Nat → Int32} {n : Nat} {x : Int32} (hn : n < 7) : rwA q d (upd v (7 * n + 6) x) l = upd (rwA q d v l) (31 + 8 * n + 7) x := by
  refine ra_ext (fun k hk => by rw [upd_n' (by omega), qz_q hk]) (by rw [upd_n' (by omega), qz_5]) (by rw [upd_n' (by omega), qz_6]) (fun k h1 h2 => by rw [upd_n' (by omega), qz_p h1 h2]) (fun s hs => by rw [upd_n' (by omega), qz_d hs]) (fun s hs => by rw [upd_n' (by omega), qz_c hs]) (fun m e hm he => by rw [upd_n' (by omega), qz_v hm he, upd_n' (by omega)]) (fun m hm => by rw [upd_n' (by omega), qz_v5 hm, upd_n' (by omega)]) (fun m hm => by rw [upd_n' (by omega), qz_v6 hm, upd_n' (by omega)]) ?_ (fun k => by rw [upd_n' (by omega), qz_l])
  · intro m hm
    by_cases hh : m = n
    · rw [hh, upd_s', upd_s']
    · rw [upd_n' (by omega), upd_n' (by omega), qz_v7 hm]
theorem ra_l {q d v l : Nat → Int32} {j : Nat} {x : Int32}  : rwA q d v (upd l j x) = upd (rwA q d v l) (87 + j) x := by
  refine ra_ext (fun k hk => by rw [upd_n' (by omega), qz_q hk]) (by rw [upd_n' (by omega), qz_5]) (by rw [upd_n' (by omega), qz_6]) (fun k h1 h2 => by rw [upd_n' (by omega), qz_p h1 h2]) (fun s hs => by rw [upd_n' (by omega), qz_d hs]) (fun s hs => by rw [upd_n' (by omega), qz_c hs]) (fun m e hm he => by rw [upd_n' (by omega), qz_v hm he]) (fun m hm => by rw [upd_n' (by omega), qz_v5 hm]) (fun m hm => by rw [upd_n' (by omega), qz_v6 hm]) (fun m hm => by rw [upd_n' (by omega), qz_v7 hm]) ?_
  · intro k
    by_cases hh : k = j
    · rw [hh, upd_s', upd_s']
    · rw [upd_n' (by omega), upd_n' hh, qz_l]
theorem lu_q {g : Hp} {j : Nat} {x : Int32} (h : j < 5) : lrow (up1 g 158 (upd (g 158) j x)) = upd (lrow g) j x := ra_q h
theorem lu_5 {g : Hp} {x : Int32} : lrow (up1 g 158 (upd (g 158) 5 x)) = upd (upd (lrow g) 5 (hs9 x)) 6 (vl9 x) := ra_5
theorem lu_p {g : Hp} {j : Nat} {x : Int32} (h : 6 ≤ j) (h2 : j < 14) : lrow (up1 g 158 (upd (g 158) j x)) = upd (lrow g) (j + 1) x := ra_p h h2
theorem lu_d {g : Hp} {s : Nat} {x : Int32} (h : s < 8) : lrow (up1 g 159 (upd (g 159) s x)) = upd (upd (lrow g) (15 + s) (dcl x)) (23 + s) (cld x) := ra_d h
theorem lu_v {g : Hp} {n f : Nat} {x : Int32} (hn : n < 7) (hf : f < 5) : lrow (up1 g 160 (upd (g 160) (7 * n + f) x)) = upd (lrow g) (31 + 8 * n + f) x := ra_v hn hf
theorem lu_v5 {g : Hp} {n : Nat} {x : Int32} (hn : n < 7) : lrow (up1 g 160 (upd (g 160) (7 * n + 5) x)) = upd (upd (lrow g) (31 + 8 * n + 5) (hs9 x)) (31 + 8 * n + 6) (vl9 x) := ra_v5 hn
theorem lu_v6 {g : Hp} {n : Nat} {x : Int32} (hn : n < 7) : lrow (up1 g 160 (upd (g 160) (7 * n + 6) x)) = upd (lrow g) (31 + 8 * n + 7) x := ra_v6 hn
theorem lu_l {g : Hp} {j : Nat} {x : Int32} : lrow (up1 g 161 (upd (g 161) j x)) = upd (lrow g) (87 + j) x := ra_l
theorem lrow_c {g g' : Hp} (h : ∀ c, 158 ≤ c → g' c = g c) : lrow g' = lrow g := by
  unfold lrow
  rw [h 158 (by decide), h 159 (by decide), h 160 (by decide), h 161 (by decide)]
theorem hs9_9 : hs9 9999 = 0 := by decide
theorem vl9_9 : vl9 9999 = 0 := by decide
theorem hs9_n {x : Int32} (h : ¬ x = 9999) : hs9 x = 1 := if_neg h
theorem vl9_n {x : Int32} (h : ¬ x = 9999) : vl9 x = x := if_neg h
theorem hs9_1 {x : Int32} : hs9 x = 1 ↔ ¬ x = 9999 := by
  unfold hs9
  by_cases h : x = 9999
  · rw [if_pos h]; exact ⟨fun z => absurd z (by decide), fun z => absurd h z⟩
  · rw [if_neg h]; exact ⟨fun _ => h, fun _ => rfl⟩
/-- what the law's rows d hold where no star is yet -/
def DI (g : Hp) : Prop := ∀ s, (g 158 12).toNatClampNeg ≤ s → s < 8 → g 159 s = 0
/-! The law's own small functions. -/
theorem sizeL {x : Int32} {h : Hp} {Q : Int32 → Hp → Prop} : F_L_size x h Q ↔ Q (jabs x) h := by
  unfold F_L_size
  rw [← jabs_neg]
  by_cases h1 : 0 ≤ x
  · simp only [h1, not_true, true_imp_iff, false_imp_iff, and_true, if_true]
  · simp only [h1, not_false_iff, true_imp_iff, false_imp_iff, true_and, if_false]
theorem boundL {x : Int32} {h : Hp} {Q : Int32 → Hp → Prop} : F_L_bound x h Q ↔ Q (bd x) h := by
  unfold F_L_bound bd
  by_cases h1 : x ≤ 5400
  · have h4 : ¬ 5400 < x := nlt.mpr h1
    by_cases h2 : -5400 ≤ x
    · have h3 : ¬ x < -5400 := nlt.mpr h2
      simp only [h1, h2, h3, h4, not_true, true_imp_iff, false_imp_iff, and_true, if_false]
    · have h3 : x < -5400 := nle.mp h2
      simp only [h1, h2, h3, not_true, not_false_iff, true_imp_iff, false_imp_iff, and_true, true_and, if_true]
  · have h4 : 5400 < x := nle.mp h1
    have h3 : ¬ x < -5400 := by rw [fa_lt] at h4 ⊢; rw [show (5400 : Int32).toInt = 5400 by decide] at h4; rw [show (-5400 : Int32).toInt = -5400 by decide]; omega
    simp only [h1, h3, h4, not_false_iff, true_imp_iff, false_imp_iff, true_and, if_false, if_true]
theorem iv7 (n f : Nat) : ((7 : Int32) * nI n + nI f) = nI (7 * n + f) := by
  rw [show (7 : Int32) = nI 7 from rfl, pk_mul, nI_add]
theorem iv70 (n : Nat) : ((7 : Int32) * nI n) = nI (7 * n) := by
  rw [show (7 : Int32) = nI 7 from rfl, pk_mul]
theorem iv71 (n : Nat) : ((7 : Int32) * nI n + 1) = nI (7 * n + 1) := iv7 n 1
theorem iv72 (n : Nat) : ((7 : Int32) * nI n + 2) = nI (7 * n + 2) := iv7 n 2
theorem iv73 (n : Nat) : ((7 : Int32) * nI n + 3) = nI (7 * n + 3) := iv7 n 3
theorem iv74 (n : Nat) : ((7 : Int32) * nI n + 4) = nI (7 * n + 4) := iv7 n 4
theorem iv75 (n : Nat) : ((7 : Int32) * nI n + 5) = nI (7 * n + 5) := iv7 n 5
theorem iv76 (n : Nat) : ((7 : Int32) * nI n + 6) = nI (7 * n + 6) := iv7 n 6
theorem iw1 (n : Nat) : nI (7 * n) + 1 = nI (7 * n + 1) := nI_add _ 1
theorem iw4 (n : Nat) : nI (7 * n) + 4 = nI (7 * n + 4) := nI_add _ 4
theorem le9000 {y : Int32} : y ≤ 9000 ↔ ¬ 9000 < y := nlt.symm
theorem declL {s : Nat} {g : Hp} (hs : s < 8) {Q : Int32 → Hp → Prop} (q : Q (lrow g (15 + s)) g) : F_L_declination (nI s) g Q := by
  rw [lr_d hs] at q
  unfold dcl at q
  unfold F_L_declination
  rw [clN (by omega)]
  refine ⟨vpn (by omega) (by decide), bc _ (fun h1 => ⟨vpn (by omega) (by decide), ?_⟩) (fun h1 => ⟨vpn (by omega) (by decide), ?_⟩)⟩
  · rw [if_neg (nlt.mpr h1)] at q; exact q
  · rw [if_pos (nle.mp h1)] at q; exact q
theorem heightL {s : Nat} {g : Hp} (hs : s < 8) {Q : Int32 → Hp → Prop} (q : Q (hgt (lrow g) s) g) : F_L_height (nI s) g Q := by
  refine declL hs (sizeL.mpr ?_)
  have e4 : g 158 4 = lrow g 4 := (lr_q (by decide)).symm
  rw [e4]
  exact q
theorem errL {n : Nat} {g : Hp} (hn : n < 7) {Q : Int32 → Hp → Prop} (q : Q (errv (lrow g) n) g) : F_L_error (nI n) g Q := by
  unfold F_L_error
  unfold errv at q
  rw [lr_v hn (show 1 < 5 by decide), lr_v hn (show 0 < 5 by decide), lr_v hn (show 4 < 5 by decide)] at q
  simp only [iv70, iw1, iw4, clN (show 7 * n + 4 < 2 ^ 31 by omega), clN (show 7 * n + 1 < 2 ^ 31 by omega), clN (show 7 * n < 2 ^ 31 by omega)]
  exact ⟨vpn (by omega) (by decide), nm' ⟨vpn (by omega) (by decide), vpn (by omega) (by decide), q⟩⟩
theorem cld_1 {y : Int32} : cld y = 1 ↔ 9000 < y := by
  unfold cld
  by_cases h : 9000 < y
  · rw [if_pos h]; exact ⟨fun _ => h, fun _ => rfl⟩
  · rw [if_neg h]; exact ⟨fun z => absurd z (by decide), fun z => absurd z h⟩
theorem whyL {n s : Nat} {g : Hp} (hI : IV (lrow g)) (hn : n < 7) (hs : s < 8) {Q : Int32 → Hp → Prop} (q : Q (rsn (lrow g) n s) g) : F_L_why (nI n) (nI s) g Q := by
  have h7 := (hI.2.2.2.1 n hn).2.2.2.2.2
  have e7 : g 160 (7 * n + 6) = nv (lrow g) n 7 := (lr_v7 hn).symm
  have e3 : g 158 3 = lrow g 3 := (lr_q (by decide)).symm
  have ec := lr_c (g := g) hs
  unfold F_L_why
  simp only [iv76, clN (show 7 * n + 6 < 2 ^ 31 by omega), clN (show s < 2 ^ 31 by omega), e7]
  unfold rsn at q
  refine ⟨vpn (by omega) (by decide), bc _ (fun h1 => ⟨vpn (by omega) (by decide), bc _ (fun h2 => heightL hs ?_) (fun h2 => ?_)⟩) (fun h1 => ⟨vpn (by omega) (by decide), ?_⟩)⟩
  · have e0 : nv (lrow g) n 7 = 0 := by rw [fa_eq]; have := (fa_le _ _).mp h1; have := h7.1; rw [show (0 : Int32).toInt = 0 by decide] at *; omega
    rw [if_pos e0, if_neg (by rw [ec, cld_1]; exact nlt.mpr h2)] at q
    rw [e3]
    refine bc _ (fun h3 => ?_) (fun h3 => ?_)
    · rw [if_pos h3] at q; exact q
    · rw [if_neg h3] at q; exact q
  · have e0 : nv (lrow g) n 7 = 0 := by rw [fa_eq]; have := (fa_le _ _).mp h1; have := h7.1; rw [show (0 : Int32).toInt = 0 by decide] at *; omega
    rw [if_pos e0, if_pos (by rw [ec, cld_1]; exact nle.mp h2)] at q
    exact q
  · rw [if_neg (fun e => h1 (by rw [e]; decide))] at q
    exact q
theorem wouldL {n s : Nat} {g : Hp} (hn : n < 7) (hs : s < 8) {Q : Int32 → Hp → Prop} (q : Q (est (lrow g) n s) g) : F_L_would (nI n) (nI s) g Q := by
  refine heightL hs (errL hn (sizeL.mpr (declL hs ?_)))
  rw [iv72, clN (by omega)]
  refine ⟨vpn (by omega) (by decide), ?_⟩
  unfold est awy at q
  rw [lr_v hn (show 2 < 5 by decide)] at q
  refine bc _ (fun h1 => boundL.mpr ?_) (fun h1 => boundL.mpr ?_)
  · rw [if_pos h1] at q; exact q
  · rw [if_neg h1, Int32.sub_eq_add_neg] at q; exact q
theorem takesL {n : Nat} {w : Int32} {g : Hp} (hn : n < 7) {Q : Int32 → Hp → Prop} (q : Q (b01 (PB (lrow g) w n = true)) g) : F_L_takes (nI n) w g Q := by
  have e7 : g 160 (7 * n + 6) = nv (lrow g) n 7 := (lr_v7 hn).symm
  have e5 : nv (lrow g) n 5 = 1 ↔ ¬ g 160 (7 * n + 5) = 9999 := by rw [lr_v5 hn]; exact hs9_1
  unfold F_L_takes
  simp only [iv76, iv75, clN (show 7 * n + 6 < 2 ^ 31 by omega), clN (show 7 * n + 5 < 2 ^ 31 by omega), e7]
  refine bc _ (fun h1 => ?_) (fun h1 => ⟨vpn (by omega) (by decide), bc _ (fun h2 => ⟨vpn (by omega) (by decide), bc _ (fun h3 => ?_) (fun h3 => ?_)⟩) (fun h2 => ?_)⟩)
  · rw [(b01_0 _).mpr (fun z => (PB_i.mp z).1 h1)] at q; exact q
  · rw [(b01_0 _).mpr (fun z => e5.mp (PB_i.mp z).2.2 h3)] at q; exact q
  · rw [(b01_1 _).mpr (PB_i.mpr ⟨h1, h2, e5.mpr h3⟩)] at q; exact q
  · rw [(b01_0 _).mpr (fun z => h2 (PB_i.mp z).2.1)] at q; exact q
