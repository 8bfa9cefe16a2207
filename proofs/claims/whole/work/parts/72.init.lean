def x_gm (o : Option (Option xPV × xMem)) : xMem := match o with
  | some (_, m) => m
  | none => x_m0
def x_isn (o : Option (Option xPV × xMem)) : Bool := match o with
  | some (none, _) => true
  | _ => false
theorem x_gm_of : ∀ {o : Option (Option xPV × xMem)}, x_isn o = true → o = some (none, x_gm o)
  | some (none, _), _ => rfl
  | some (some _, _), h => by cases h
  | none, h => by cases h
def x_m1 : xMem := x_gm (x_calC 6 3000 xN_G_new [xr 0] (x_nw x_m0 (8, (x_defR 8).length, x_defR 8)))
def x_m2 : xMem := x_gm (x_calC 6 3000 xN_m_new [xr 143] (x_nw x_m1 (9, (x_defR 9).length, x_defR 9)))
theorem x_h1 : x_calC 6 3000 xN_G_new [xr 0] (x_nw x_m0 (8, (x_defR 8).length, x_defR 8)) = some (none, x_m1) := by unfold x_m1; exact x_gm_of (by decide +kernel)
theorem x_h2 : x_calC 6 3000 xN_m_new [xr 143] (x_nw x_m1 (9, (x_defR 9).length, x_defR 9)) = some (none, x_m2) := by unfold x_m2; exact x_gm_of (by decide +kernel)
theorem x_h3 : x_m1.1.length = 143 := by decide +kernel
theorem x_h4 : x_m2.1 = xSH := by decide +kernel
set_option maxRecDepth 100000 in
set_option maxHeartbeats 4000000 in
theorem x_iall1 : (x_m2.2.1 1 1 = x_m2.2.1 143 0 ∧ 0 ≤ x_m2.2.1 143 0 ∧ x_m2.2.1 143 0 ≤ 6 ∧ x_m2.2.1 1 5 = x_m2.2.1 143 3 ∧ 0 ≤ x_m2.2.1 143 3 ∧ x_m2.2.1 143 3 ≤ 9 ∧ x_m2.2.1 1 6 = x_m2.2.1 143 4 ∧ 0 ≤ x_m2.2.1 143 4 ∧ x_m2.2.1 143 4 ≤ 9999 ∧ x_m2.2.1 1 7 = x_m2.2.1 143 13 ∧ -1 ≤ x_m2.2.1 143 13 ∧ x_m2.2.1 143 13 < x_m2.2.1 143 12) ∧ (x_m2.2.1 29 1 = x_m2.2.1 143 52 ∧ 0 ≤ x_m2.2.1 143 52 ∧ x_m2.2.1 143 52 ≤ 6 ∧ x_m2.2.1 29 5 = x_m2.2.1 143 55 ∧ 0 ≤ x_m2.2.1 143 55 ∧ x_m2.2.1 143 55 ≤ 9 ∧ x_m2.2.1 29 6 = x_m2.2.1 143 56 ∧ 0 ≤ x_m2.2.1 143 56 ∧ x_m2.2.1 143 56 ≤ 9999 ∧ x_m2.2.1 29 7 = x_m2.2.1 143 51 ∧ -1 ≤ x_m2.2.1 143 51 ∧ x_m2.2.1 143 51 < x_m2.2.1 143 12) := by decide +kernel
set_option maxRecDepth 100000 in
set_option maxHeartbeats 4000000 in
theorem x_iall2 : (∀ p, p < 6 → x_m2.2.1 (11 + 3 * p) 0 = x_m2.2.1 144 p ∧ 0 ≤ x_m2.2.1 144 p ∧ x_m2.2.1 144 p ≤ 6 ∧ x_m2.2.1 (11 + 3 * p) 1 = x_m2.2.1 145 p ∧ 0 ≤ x_m2.2.1 145 p ∧ x_m2.2.1 145 p ≤ 9 ∧ x_m2.2.1 (11 + 3 * p) 2 = x_m2.2.1 146 p ∧ 0 ≤ x_m2.2.1 146 p ∧ x_m2.2.1 146 p ≤ 9) ∧ (∀ p, p < 6 → x_m2.2.1 (39 + 3 * p) 0 = x_m2.2.1 174 p ∧ 0 ≤ x_m2.2.1 174 p ∧ x_m2.2.1 174 p ≤ 6 ∧ x_m2.2.1 (39 + 3 * p) 1 = x_m2.2.1 175 p ∧ 0 ≤ x_m2.2.1 175 p ∧ x_m2.2.1 175 p ≤ 9 ∧ x_m2.2.1 (39 + 3 * p) 2 = x_m2.2.1 176 p ∧ 0 ≤ x_m2.2.1 176 p ∧ x_m2.2.1 176 p ≤ 9) ∧ (∀ p, p < 6 → x_m2.2.1 (11 + 3 * p) 3 = 0 ∧ x_m2.2.1 (39 + 3 * p) 3 = 0) ∧ (∀ p, p < 6 → ∀ x, x < 5 → x_m2.2.1 (11 + 3 * p + 1) x = x_m2.2.1 147 (5 * p + x) ∧ 0 ≤ x_m2.2.1 147 (5 * p + x) ∧ x_m2.2.1 147 (5 * p + x) ≤ 9) ∧ (∀ p, p < 6 → ∀ x, x < 5 → x_m2.2.1 (39 + 3 * p + 1) x = x_m2.2.1 177 (5 * p + x) ∧ 0 ≤ x_m2.2.1 177 (5 * p + x) ∧ x_m2.2.1 177 (5 * p + x) ≤ 9) := by decide +kernel
set_option maxRecDepth 100000 in
set_option maxHeartbeats 4000000 in
theorem x_iall3 : (∀ p, p < 6 → ∀ x, x < 4 → x_m2.2.1 (11 + 3 * p + 2) x = x_m2.2.1 148 (4 * p + x) ∧ 0 ≤ x_m2.2.1 148 (4 * p + x) ∧ x_m2.2.1 148 (4 * p + x) ≤ 9) ∧ (∀ p, p < 6 → ∀ x, x < 4 → x_m2.2.1 (39 + 3 * p + 2) x = x_m2.2.1 178 (4 * p + x) ∧ 0 ≤ x_m2.2.1 178 (4 * p + x) ∧ x_m2.2.1 178 (4 * p + x) ≤ 9) ∧ (∀ x, x < 5 → x_m2.2.1 3 x = x_m2.2.1 149 x ∧ 0 ≤ x_m2.2.1 149 x ∧ x_m2.2.1 149 x ≤ x_m2.2.1 143 4) ∧ (∀ x, x < 5 → x_m2.2.1 31 x = x_m2.2.1 179 x ∧ 0 ≤ x_m2.2.1 179 x ∧ x_m2.2.1 179 x ≤ x_m2.2.1 143 56) ∧ (x_m2.2.1 1 4 = 0 ∧ x_m2.2.1 29 4 = 0 ∧ (∀ x, x < 5 → x_m2.2.1 4 x = x_m2.2.1 150 x) ∧ (∀ x, x < 5 → x_m2.2.1 32 x = x_m2.2.1 180 x)) ∧ (x_m2.2.1 143 1 = 0 ∧ x_m2.2.1 143 53 = 0 ∧ x_m2.2.1 143 2 = 0 ∧ x_m2.2.1 143 54 = 0 ∧ x_m2.2.1 143 38 = 0 ∧ x_m2.2.1 143 57 = 0 ∧ x_m2.2.1 143 43 = 0 ∧ x_m2.2.1 143 58 = 0 ∧ x_m2.2.1 143 44 = 0 ∧ x_m2.2.1 143 59 = 0 ∧ x_m2.2.1 143 12 = 0 ∧ x_m2.2.1 143 14 = 0 ∧ x_m2.2.1 143 76 = 0) := by decide +kernel
set_option maxRecDepth 100000 in
set_option maxHeartbeats 4000000 in
theorem x_iall4 : (x_m2.2.1 5 2 = 0 ∧ x_m2.2.1 5 0 = 5 ∧ x_m2.2.1 33 2 = 0 ∧ x_m2.2.1 33 0 = 5 ∧ x_m2.2.1 7 2 = 0 ∧ x_m2.2.1 7 0 = 10 ∧ x_m2.2.1 35 2 = 0 ∧ x_m2.2.1 35 0 = 10 ∧ x_m2.2.1 9 2 = 0 ∧ x_m2.2.1 9 0 = 8 ∧ x_m2.2.1 37 2 = 0 ∧ x_m2.2.1 37 0 = 8) ∧ (x_m2.2.1 0 7 = 0 ∧ x_m2.2.1 87 0 = 0 ∧ x_m2.2.1 87 1 = 0 ∧ x_m2.2.1 85 1 = 0 ∧ x_m2.2.1 104 1 = 0) ∧ (x_m2.2.1 0 3 = x_m2.2.1 143 50 ∧ (x_m2.2.1 143 50 = 0 ∨ x_m2.2.1 143 50 = 1) ∧ x_m2.2.1 143 32 = 9999 ∧ (∀ x, x < 15 → x_m2.2.1 159 x = (([108, 105, 107, 101, 108, 111, 97, 116, 104, 101, 113, 117, 111, 116, 97] : List Int)[x]?).getD 0) ∧ ∀ x, x < 5 → (x_m2.2.1 168 x = 0 ∨ x_m2.2.1 168 x = 1) ∧ (x_m2.2.1 189 x = 0 ∨ x_m2.2.1 189 x = 1)) ∧ (∀ t, t < 6 → x_m2.2.1 (131 + 2 * t) 0 = x_m2.2.1 191 t ∧ -1 ≤ x_m2.2.1 191 t ∧ x_m2.2.1 191 t ≤ 4 ∧ x_m2.2.1 (131 + 2 * t) 1 = x_m2.2.1 192 t ∧ 0 ≤ x_m2.2.1 192 t ∧ x_m2.2.1 192 t ≤ 60 ∧ (x_m2.2.1 191 t = -1 → x_m2.2.1 192 t = 0) ∧ ∀ j, j < 60 → x_m2.2.2 (131 + 2 * t + 1) j = x_m2.2.2 193 (60 * t + j)) := by decide +kernel

