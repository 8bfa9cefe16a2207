/-! the relation of the class's cells to the reference's: RN the world that is, RI the image -/
theorem x_up_at (I : Nat → Nat → Int) (k j : Nat) (v : Int) : x_up I k j v k j = v := by simp [x_up]
theorem x_up_at2 {I : Nat → Nat → Int} {k j k0 j0 : Nat} {v : Int} (h1 : k = k0) (h2 : j = j0) : x_up I k0 j0 v k j = v := by subst h1 h2; simp [x_up]
theorem x_up_far {I : Nat → Nat → Int} {k j k0 j0 : Nat} {v : Int} (h : ¬ (k = k0 ∧ j = j0)) : x_up I k0 j0 v k j = I k j := by
  unfold x_up
  by_cases h1 : k = k0
  · rw [if_pos h1, if_neg (fun h2 => h ⟨h1, h2⟩)]
  · rw [if_neg h1]
theorem x_req {a b : Int} (h : a = b) : (some (xi a) : Option xPV) = some (xi b) := by rw [h]
theorem x_reql {a b : Int64} (h : a = b) : (some (xl a) : Option xPV) = some (xl b) := by rw [h]
section EX2
variable {sc : List Int} {D : Nat} {M : xMt} {pc : Nat} {ls : xLc} {r : List xPV} {m : xMem} {Q : Option xPV → xMem → Prop}
theorem ex_top {x v : Int} (h : x = v) (k : x_Ex sc D M pc ls (xi v :: r) m Q) : x_Ex sc D M pc ls (xi x :: r) m Q := by rw [h]; exact k
theorem ex_tsd {d lo hi x : Int} {offs : Array Int} {len a b : Nat} {z : Int} (he : x_lk M.2.2 pc = some (.tableswitch d lo hi offs, len, a, b, z)) (hx : x_R x) (h : x < lo ∨ hi < x) (kk : x_Ex sc D M (((pc : Int) + d).toNat) ls r m Q) : x_Ex sc D M pc ls (xi x :: r) m Q := by
  refine ex_sm he rfl ?_ kk
  simp only [x_sm, hx.wr]
  rw [if_pos h]
theorem ex_lswd {d x : Int} {ps : Array (Int × Int)} {len a b : Nat} {z : Int} (he : x_lk M.2.2 pc = some (.lookupswitch d ps, len, a, b, z)) (hx : x_R x) (h : Op.lookupswitch.offset ps.toList d x = d) (kk : x_Ex sc D M (((pc : Int) + d).toNat) ls r m Q) : x_Ex sc D M pc ls (xi x :: r) m Q := by
  refine ex_sm he rfl ?_ kk
  simp only [x_sm, hx.wr]
  rw [h]
end EX2
/-- the clauses' quota -/
def sp_mq (w nu : Nat → Int) : Nat → Int
  | 0 => 0
  | n + 1 => if w n = 2 then nu n else sp_mq w nu n
/-- how many clauses are no quota -/
def sp_mc (w : Nat → Int) : Nat → Nat
  | 0 => 0
  | n + 1 => sp_mc w n + (if w n = 2 then 0 else 1)
/-- a step of the class's code beside the reference's -/
def TC (a b : Int) : Prop := (a = -1 ∧ b = -33) ∨ (a = -2 ∧ b = -38) ∨ (a = -3 ∧ b = -124) ∨ ∃ l r m : Nat, l < 6 ∧ r < 3 ∧ m < 100 ∧ a = (((l * 3 + r) * 100 + m : Nat) : Int) ∧ b = ((1000 * l + 100 * r + m : Nat) : Int)
/-- how many truths lie on the stack behind a step; at most 11 -/
def sp_sz (a : Int) (s : Nat) : Option Nat := if a = -1 then (if 1 ≤ s then some s else none) else if a = -2 ∨ a = -3 then (if 2 ≤ s then some (s - 1) else none) else (if s < 11 then some (s + 1) else none)
def sp_szs (cd : Nat → Int) : Nat → Nat → Nat → Option Nat
  | 0, _, s => some s
  | n + 1, i, s => match sp_sz (cd i) s with
    | some s' => sp_szs cd n (i + 1) s'
    | none => none
/-- one clause of the treaty f: it is the i-th that is no quota; its code is laid from e on, b steps; the reference's from a on -/
def RTc (I : Nat → Nat → Int) (f c i : Nat) : Prop := ∃ a b e : Nat, I 155 (10 * f + c) = (a : Int) ∧ I 156 (10 * f + c) = ((a + b : Nat) : Int) ∧ 100 * f ≤ a ∧ a + b ≤ 100 * f + 100 ∧ (i = 0 → e = 0) ∧ (0 < i → I (107 + 4 * f + 2) (i - 1) = (e : Int)) ∧ I (107 + 4 * f + 2) i = ((e + b : Nat) : Int) ∧ e + b ≤ 100 ∧ I (107 + 4 * f + 1) i = (if I 153 (10 * f + c) = 0 then I 154 (10 * f + c) else - I 154 (10 * f + c)) ∧ sp_szs (fun j => I (107 + 4 * f + 3) (e + j)) b 0 0 = some 1 ∧ ∀ t, t < b → TC (I (107 + 4 * f + 3) (e + t)) (I 157 (a + t))
/-- the treaty f has n clauses -/
def RTn (I : Nat → Nat → Int) (f n : Nat) : Prop := n ≤ 10 ∧ I (107 + 4 * f) 0 = sp_mq (fun c => I 153 (10 * f + c)) (fun c => I 154 (10 * f + c)) n ∧ I (107 + 4 * f) 1 = ((sp_mc (fun c => I 153 (10 * f + c)) n : Nat) : Int) ∧ ∀ c, c < n → 0 ≤ I 154 (10 * f + c) ∧ I 154 (10 * f + c) ≤ 99 ∧ 0 ≤ I 153 (10 * f + c) ∧ I 153 (10 * f + c) ≤ 2 ∧ (I 153 (10 * f + c) ≠ 2 → RTc I f c (sp_mc (fun c => I 153 (10 * f + c)) c))
def RTf (I : Nat → Nat → Int) (f : Nat) : Prop := ∃ n : Nat, I 152 f = (n : Int) ∧ RTn I f n
def RT (I : Nat → Nat → Int) : Prop := I 0 7 = I 143 12 ∧ 0 ≤ I 143 12 ∧ I 143 12 ≤ 6 ∧ I 87 0 = 0 ∧ I 87 1 = 0 ∧ ∀ f : Nat, (f : Int) < I 143 12 → RTf I f
theorem RTf.fr {I I' : Nat → Nat → Int} {f : Nat} (h : RTf I f) (f1 : ∀ k j, 107 + 4 * f ≤ k → k ≤ 107 + 4 * f + 3 → I' k j = I k j) (f2 : I' 152 f = I 152 f) (f3 : ∀ k c, 153 ≤ k → k ≤ 156 → c < 10 → I' k (10 * f + c) = I k (10 * f + c)) (f4 : ∀ j, 100 * f ≤ j → j < 100 * f + 100 → I' 157 j = I 157 j) : RTf I' f := by
  obtain ⟨n, h0, h1, h2, h3, h4⟩ := h
  have hmc : ∀ c, c ≤ 10 → sp_mc (fun c => I' 153 (10 * f + c)) c = sp_mc (fun c => I 153 (10 * f + c)) c := fun c => by
    induction c with
    | zero => intro _; rfl
    | succ c ih => intro hc; simp only [sp_mc, ih (by omega), f3 153 c (by decide) (by decide) (by omega)]
  have hmq : ∀ c, c ≤ 10 → sp_mq (fun c => I' 153 (10 * f + c)) (fun c => I' 154 (10 * f + c)) c = sp_mq (fun c => I 153 (10 * f + c)) (fun c => I 154 (10 * f + c)) c := fun c => by
    induction c with
    | zero => intro _; rfl
    | succ c ih => intro hc; simp only [sp_mq, ih (by omega), f3 153 c (by decide) (by decide) (by omega), f3 154 c (by decide) (by decide) (by omega)]
  have hf : ∀ j, I' (107 + 4 * f + 3) j = I (107 + 4 * f + 3) j := fun j => f1 _ _ (by omega) (by omega)
  refine ⟨n, by rw [f2]; exact h0, h1, by rw [f1 _ _ (by omega) (by omega), hmq n h1]; exact h2, by rw [f1 _ _ (by omega) (by omega), hmc n h1]; exact h3, fun c hc => ?_⟩
  rw [f3 153 c (by decide) (by decide) (by omega), f3 154 c (by decide) (by decide) (by omega), hmc c (by omega)]
  obtain ⟨g1, g2, g3, g4, g5⟩ := h4 c hc
  refine ⟨g1, g2, g3, g4, fun hne => ?_⟩
  obtain ⟨a, b, e, q1, q2, q3, q4, q5, q6, q7, q8, q9, q10, q11⟩ := g5 hne
  refine ⟨a, b, e, by rw [f3 155 c (by decide) (by decide) (by omega)]; exact q1, by rw [f3 156 c (by decide) (by decide) (by omega)]; exact q2, q3, q4, q5, fun hi => by rw [f1 _ _ (by omega) (by omega)]; exact q6 hi, by rw [f1 _ _ (by omega) (by omega)]; exact q7, q8, by rw [f1 _ _ (by omega) (by omega), f3 153 c (by decide) (by decide) (by omega), f3 154 c (by decide) (by decide) (by omega)]; exact q9, ?_, fun t ht => ?_⟩
  · rw [show (fun j => I' (107 + 4 * f + 3) (e + j)) = (fun j => I (107 + 4 * f + 3) (e + j)) from funext (fun j => hf _)]; exact q10
  · rw [hf, f4 _ (by omega) (by omega)]; exact q11 t ht
theorem RT.fr {I I' : Nat → Nat → Int} (h : RT I) (f1 : I' 0 7 = I 0 7 ∧ I' 143 12 = I 143 12) (f2 : ∀ k j, 87 ≤ k → k ≤ 90 → I' k j = I k j) (f3 : ∀ k j, 107 ≤ k → k ≤ 130 → I' k j = I k j) (f4 : ∀ k j, 152 ≤ k → k ≤ 157 → I' k j = I k j) : RT I' := by
  obtain ⟨h1, h2, h3, h4, h5, h6⟩ := h
  refine ⟨by rw [f1.1, f1.2]; exact h1, by rw [f1.2]; exact h2, by rw [f1.2]; exact h3, by rw [f2 _ _ (by decide) (by decide)]; exact h4, by rw [f2 _ _ (by decide) (by decide)]; exact h5, fun f hf => ?_⟩
  rw [f1.2] at hf
  exact (h6 f hf).fr (fun k j a b => f3 k j (by omega) (by omega)) (f4 _ _ (by decide) (by decide)) (fun k c a b _ => f4 _ _ (by omega) (by omega)) (fun j _ _ => f4 _ _ (by decide) (by decide))
def RQ (I : Nat → Nat → Int) (L : Nat → Nat → Int64) : Prop := ∀ t, t < 6 → I (131 + 2 * t) 0 = I 191 t ∧ -1 ≤ I 191 t ∧ I 191 t ≤ 4 ∧ I (131 + 2 * t) 1 = I 192 t ∧ 0 ≤ I 192 t ∧ I 192 t ≤ 60 ∧ (I 191 t = -1 → I 192 t = 0) ∧ ∀ j, j < 60 → L (131 + 2 * t + 1) j = L 193 (60 * t + j)
theorem RQ.fr {I I' : Nat → Nat → Int} {L L' : Nat → Nat → Int64} (h : RQ I L) (f1 : ∀ t j, t < 6 → j < 2 → I' (131 + 2 * t) j = I (131 + 2 * t) j) (f2 : ∀ k t, (k = 191 ∨ k = 192) → t < 6 → I' k t = I k t) (f3 : ∀ t j, t < 6 → j < 60 → L' (131 + 2 * t + 1) j = L (131 + 2 * t + 1) j) (f4 : ∀ j, j < 360 → L' 193 j = L 193 j) : RQ I' L' := by
  intro t ht
  rw [f1 t 0 ht (by decide), f1 t 1 ht (by decide), f2 191 t (by decide) ht, f2 192 t (by decide) ht]
  obtain ⟨h1, h2, h3, h4, h5, h6, h7, h8⟩ := h t ht
  exact ⟨h1, h2, h3, h4, h5, h6, h7, fun j hj => by rw [f3 t j ht hj, f4 _ (by omega)]; exact h8 j hj⟩

def RNs (I : Nat → Nat → Int) : Prop := I 1 1 = I 143 0 ∧ 0 ≤ I 143 0 ∧ I 143 0 ≤ 6 ∧ I 1 5 = I 143 3 ∧ 0 ≤ I 143 3 ∧ I 143 3 ≤ 9 ∧ I 1 6 = I 143 4 ∧ 0 ≤ I 143 4 ∧ I 143 4 ≤ 9999 ∧ I 1 7 = I 143 13 ∧ -1 ≤ I 143 13 ∧ I 143 13 < I 143 12
theorem RNs.fr {I I' : Nat → Nat → Int} (h : RNs I) (f1 : I' 1 1 = I 1 1 ∧ I' 1 5 = I 1 5 ∧ I' 1 6 = I 1 6 ∧ I' 1 7 = I 1 7 ∧ I' 143 0 = I 143 0 ∧ I' 143 3 = I 143 3 ∧ I' 143 4 = I 143 4 ∧ I' 143 13 = I 143 13 ∧ I' 143 12 = I 143 12) : RNs I' := by
  unfold RNs at *
  obtain ⟨e1, e2, e3, e4, e5, e6, e7, e8, e9⟩ := f1; obtain ⟨h1, h2, h3, h4, h5, h6, h7, h8, h9, h10, h11, h12⟩ := h; refine ⟨?_, ?_, ?_, ?_, ?_, ?_, ?_, ?_, ?_, ?_, ?_, ?_⟩ <;> omega

def RNo (I : Nat → Nat → Int) : Prop := ∀ p, p < 6 → I (11 + 3 * p) 0 = I 144 p ∧ 0 ≤ I 144 p ∧ I 144 p ≤ 6 ∧ I (11 + 3 * p) 1 = I 145 p ∧ 0 ≤ I 145 p ∧ I 145 p ≤ 9 ∧ I (11 + 3 * p) 2 = I 146 p ∧ 0 ≤ I 146 p ∧ I 146 p ≤ 9
theorem RNo.fr {I I' : Nat → Nat → Int} (h : RNo I) (f1 : ∀ p j, p < 6 → j < 3 → I' (11 + 3 * p) j = I (11 + 3 * p) j) (f2 : ∀ k p, (k = 144 ∨ k = 145 ∨ k = 146) → p < 6 → I' k p = I k p) : RNo I' := by
  unfold RNo at *
  intro p hp; rw [f1 p 0 hp (by decide), f1 p 1 hp (by decide), f1 p 2 hp (by decide), f2 144 p (by decide) hp, f2 145 p (by decide) hp, f2 146 p (by decide) hp]; exact h p hp

def RNa (I : Nat → Nat → Int) : Prop := (∀ p, p < 6 → I (11 + 3 * p) 3 = x_b ((I 143 1).toNat.testBit p = true)) ∧ 0 ≤ I 143 1 ∧ I 143 1 < 64
theorem RNa.fr {I I' : Nat → Nat → Int} (h : RNa I) (f1 : ∀ p, p < 6 → I' (11 + 3 * p) 3 = I (11 + 3 * p) 3) (f2 : I' 143 1 = I 143 1) : RNa I' := by
  unfold RNa at *
  refine ⟨fun p hp => ?_, by rw [f2]; exact h.2.1, by rw [f2]; exact h.2.2⟩; rw [f1 p hp, f2]; exact h.1 p hp

def RNb (I : Nat → Nat → Int) : Prop := ∀ p x, p < 6 → x < 5 → I (11 + 3 * p + 1) x = I 147 (5 * p + x) ∧ 0 ≤ I 147 (5 * p + x) ∧ I 147 (5 * p + x) ≤ 9
theorem RNb.fr {I I' : Nat → Nat → Int} (h : RNb I) (f1 : ∀ p x, p < 6 → x < 5 → I' (11 + 3 * p + 1) x = I (11 + 3 * p + 1) x) (f2 : ∀ j, j < 30 → I' 147 j = I 147 j) : RNb I' := by
  unfold RNb at *
  intro p x hp hx; rw [f1 p x hp hx, f2 (5 * p + x) (by omega)]; exact h p x hp hx

def RNr (I : Nat → Nat → Int) : Prop := ∀ p x, p < 6 → x < 4 → I (11 + 3 * p + 2) x = I 148 (4 * p + x) ∧ 0 ≤ I 148 (4 * p + x) ∧ I 148 (4 * p + x) ≤ 9
theorem RNr.fr {I I' : Nat → Nat → Int} (h : RNr I) (f1 : ∀ p x, p < 6 → x < 4 → I' (11 + 3 * p + 2) x = I (11 + 3 * p + 2) x) (f2 : ∀ j, j < 24 → I' 148 j = I 148 j) : RNr I' := by
  unfold RNr at *
  intro p x hp hx; rw [f1 p x hp hx, f2 (4 * p + x) (by omega)]; exact h p x hp hx

def RNd (I : Nat → Nat → Int) : Prop := ∀ x, x < 5 → I 3 x = I 149 x ∧ 0 ≤ I 149 x ∧ I 149 x ≤ I 143 4
theorem RNd.fr {I I' : Nat → Nat → Int} (h : RNd I) (f1 : ∀ x, x < 5 → I' 3 x = I 3 x) (f2 : ∀ x, x < 5 → I' 149 x = I 149 x) (f3 : I' 143 4 = I 143 4) : RNd I' := by
  unfold RNd at *
  intro x hx; rw [f1 x hx, f2 x hx, f3]; exact h x hx

def RNg (I : Nat → Nat → Int) : Prop := I 1 4 = I 143 2 ∧ 0 ≤ I 143 2 ∧ I 143 2 ≤ 5 ∧ (∀ x, x < 5 → I 4 x = I 150 x) ∧ (∀ x : Nat, (x : Int) < I 143 2 → 0 ≤ I 150 x ∧ I 150 x ≤ 4) ∧ ∀ x y : Nat, x < y → (y : Int) < I 143 2 → I 150 x ≠ I 150 y
theorem RNg.fr {I I' : Nat → Nat → Int} (h : RNg I) (f1 : I' 1 4 = I 1 4 ∧ I' 143 2 = I 143 2) (f2 : ∀ x, x < 5 → I' 4 x = I 4 x) (f3 : ∀ x, x < 5 → I' 150 x = I 150 x) : RNg I' := by
  unfold RNg at *
  obtain ⟨h1, h2, h3, h4, h5, h6⟩ := h; refine ⟨by rw [f1.1, f1.2]; exact h1, by rw [f1.2]; exact h2, by rw [f1.2]; exact h3, fun x hx => by rw [f2 x hx, f3 x hx]; exact h4 x hx, fun x hx => ?_, fun x y hx hy => ?_⟩ 
  · rw [f1.2] at hx; rw [f3 x (by omega)]; exact h5 x hx
  · rw [f1.2] at hy; rw [f3 x (by omega), f3 y (by omega)]; exact h6 x y hx hy

def RNe (I : Nat → Nat → Int) : Prop := I 5 2 = I 143 38 ∧ 0 ≤ I 143 38 ∧ I 143 38 ≤ 5 ∧ I 5 0 = 5 ∧ ∀ x : Nat, (x : Int) < I 143 38 → I 6 (x * 4) = I 165 x ∧ 0 ≤ I 165 x ∧ I 165 x ≤ 5 ∧ I 6 (x * 4 + 1) = I 166 x ∧ 0 ≤ I 166 x ∧ I 166 x ≤ 4 ∧ I 6 (x * 4 + 2) = I 167 x ∧ 0 ≤ I 167 x ∧ I 167 x ≤ 4 ∧ I 6 (x * 4 + 3) = I 168 x ∧ (I 168 x = 0 ∨ I 168 x = 1)
theorem RNe.fr {I I' : Nat → Nat → Int} (h : RNe I) (f1 : I' 5 2 = I 5 2 ∧ I' 5 0 = I 5 0 ∧ I' 143 38 = I 143 38) (f2 : ∀ j, j < 20 → I' 6 j = I 6 j) (f3 : ∀ k x, (k = 165 ∨ k = 166 ∨ k = 167 ∨ k = 168) → x < 5 → I' k x = I k x) : RNe I' := by
  unfold RNe at *
  obtain ⟨h1, h2, h3, h4, h5⟩ := h; refine ⟨by rw [f1.1, f1.2.2]; exact h1, by rw [f1.2.2]; exact h2, by rw [f1.2.2]; exact h3, by rw [f1.2.1]; exact h4, fun x hx => ?_⟩
  rw [f1.2.2] at hx; rw [f2 _ (by omega), f2 _ (by omega), f2 _ (by omega), f2 _ (by omega), f3 165 x (by decide) (by omega), f3 166 x (by decide) (by omega), f3 167 x (by decide) (by omega), f3 168 x (by decide) (by omega)]; exact h5 x hx

def RNp (I : Nat → Nat → Int) : Prop := I 7 2 = I 143 43 ∧ 0 ≤ I 143 43 ∧ I 143 43 ≤ 10 ∧ I 7 0 = 10 ∧ ∀ x : Nat, (x : Int) < I 143 43 → I 8 (x * 4) = I 169 x ∧ 0 ≤ I 169 x ∧ I 169 x ≤ 3 ∧ (I 169 x ≠ 0 → I 8 (x * 4 + 1) = I 170 x ∧ 0 ≤ I 170 x ∧ I 170 x ≤ 9 ∧ (I 169 x ≠ 3 → I 170 x ≤ 5))
theorem RNp.fr {I I' : Nat → Nat → Int} (h : RNp I) (f1 : I' 7 2 = I 7 2 ∧ I' 7 0 = I 7 0 ∧ I' 143 43 = I 143 43) (f2 : ∀ j, j < 40 → I' 8 j = I 8 j) (f3 : ∀ k x, (k = 169 ∨ k = 170) → x < 10 → I' k x = I k x) : RNp I' := by
  unfold RNp at *
  obtain ⟨h1, h2, h3, h4, h5⟩ := h; refine ⟨by rw [f1.1, f1.2.2]; exact h1, by rw [f1.2.2]; exact h2, by rw [f1.2.2]; exact h3, by rw [f1.2.1]; exact h4, fun x hx => ?_⟩
  rw [f1.2.2] at hx; rw [f2 _ (by omega), f2 _ (by omega), f3 169 x (by decide) (by omega), f3 170 x (by decide) (by omega)]; exact h5 x hx

def RNk (I : Nat → Nat → Int) : Prop := I 9 2 = I 143 44 ∧ 0 ≤ I 143 44 ∧ I 143 44 ≤ 8 ∧ I 9 0 = 8 ∧ ∀ x : Nat, (x : Int) < I 143 44 → I 10 (x * 4) = I 171 x ∧ 0 ≤ I 171 x ∧ I 171 x ≤ 5 ∧ I 10 (x * 4 + 1) = I 172 x ∧ 0 ≤ I 172 x ∧ I 172 x ≤ 4 ∧ I 10 (x * 4 + 2) = I 173 x ∧ 0 ≤ I 173 x ∧ I 173 x ≤ 9
theorem RNk.fr {I I' : Nat → Nat → Int} (h : RNk I) (f1 : I' 9 2 = I 9 2 ∧ I' 9 0 = I 9 0 ∧ I' 143 44 = I 143 44) (f2 : ∀ j, j < 32 → I' 10 j = I 10 j) (f3 : ∀ k x, (k = 171 ∨ k = 172 ∨ k = 173) → x < 8 → I' k x = I k x) : RNk I' := by
  unfold RNk at *
  obtain ⟨h1, h2, h3, h4, h5⟩ := h; refine ⟨by rw [f1.1, f1.2.2]; exact h1, by rw [f1.2.2]; exact h2, by rw [f1.2.2]; exact h3, by rw [f1.2.1]; exact h4, fun x hx => ?_⟩
  rw [f1.2.2] at hx; rw [f2 _ (by omega), f2 _ (by omega), f2 _ (by omega), f3 171 x (by decide) (by omega), f3 172 x (by decide) (by omega), f3 173 x (by decide) (by omega)]; exact h5 x hx

def RNw (I : Nat → Nat → Int) : Prop := RNs I ∧ RNo I ∧ RNa I ∧ RNb I ∧ RNr I ∧ RNd I ∧ RNg I ∧ RNe I ∧ RNp I ∧ RNk I

def RIs (I : Nat → Nat → Int) : Prop := I 29 1 = I 143 52 ∧ 0 ≤ I 143 52 ∧ I 143 52 ≤ 6 ∧ I 29 5 = I 143 55 ∧ 0 ≤ I 143 55 ∧ I 143 55 ≤ 9 ∧ I 29 6 = I 143 56 ∧ 0 ≤ I 143 56 ∧ I 143 56 ≤ 9999 ∧ I 29 7 = I 143 51 ∧ -1 ≤ I 143 51 ∧ I 143 51 < I 143 12
theorem RIs.fr {I I' : Nat → Nat → Int} (h : RIs I) (f1 : I' 29 1 = I 29 1 ∧ I' 29 5 = I 29 5 ∧ I' 29 6 = I 29 6 ∧ I' 29 7 = I 29 7 ∧ I' 143 52 = I 143 52 ∧ I' 143 55 = I 143 55 ∧ I' 143 56 = I 143 56 ∧ I' 143 51 = I 143 51 ∧ I' 143 12 = I 143 12) : RIs I' := by
  unfold RIs at *
  obtain ⟨e1, e2, e3, e4, e5, e6, e7, e8, e9⟩ := f1; obtain ⟨h1, h2, h3, h4, h5, h6, h7, h8, h9, h10, h11, h12⟩ := h; refine ⟨?_, ?_, ?_, ?_, ?_, ?_, ?_, ?_, ?_, ?_, ?_, ?_⟩ <;> omega

def RIo (I : Nat → Nat → Int) : Prop := ∀ p, p < 6 → I (39 + 3 * p) 0 = I 174 p ∧ 0 ≤ I 174 p ∧ I 174 p ≤ 6 ∧ I (39 + 3 * p) 1 = I 175 p ∧ 0 ≤ I 175 p ∧ I 175 p ≤ 9 ∧ I (39 + 3 * p) 2 = I 176 p ∧ 0 ≤ I 176 p ∧ I 176 p ≤ 9
theorem RIo.fr {I I' : Nat → Nat → Int} (h : RIo I) (f1 : ∀ p j, p < 6 → j < 3 → I' (39 + 3 * p) j = I (39 + 3 * p) j) (f2 : ∀ k p, (k = 174 ∨ k = 175 ∨ k = 176) → p < 6 → I' k p = I k p) : RIo I' := by
  unfold RIo at *
  intro p hp; rw [f1 p 0 hp (by decide), f1 p 1 hp (by decide), f1 p 2 hp (by decide), f2 174 p (by decide) hp, f2 175 p (by decide) hp, f2 176 p (by decide) hp]; exact h p hp

def RIa (I : Nat → Nat → Int) : Prop := (∀ p, p < 6 → I (39 + 3 * p) 3 = x_b ((I 143 53).toNat.testBit p = true)) ∧ 0 ≤ I 143 53 ∧ I 143 53 < 64
theorem RIa.fr {I I' : Nat → Nat → Int} (h : RIa I) (f1 : ∀ p, p < 6 → I' (39 + 3 * p) 3 = I (39 + 3 * p) 3) (f2 : I' 143 53 = I 143 53) : RIa I' := by
  unfold RIa at *
  refine ⟨fun p hp => ?_, by rw [f2]; exact h.2.1, by rw [f2]; exact h.2.2⟩; rw [f1 p hp, f2]; exact h.1 p hp

def RIb (I : Nat → Nat → Int) : Prop := ∀ p x, p < 6 → x < 5 → I (39 + 3 * p + 1) x = I 177 (5 * p + x) ∧ 0 ≤ I 177 (5 * p + x) ∧ I 177 (5 * p + x) ≤ 9
theorem RIb.fr {I I' : Nat → Nat → Int} (h : RIb I) (f1 : ∀ p x, p < 6 → x < 5 → I' (39 + 3 * p + 1) x = I (39 + 3 * p + 1) x) (f2 : ∀ j, j < 30 → I' 177 j = I 177 j) : RIb I' := by
  unfold RIb at *
  intro p x hp hx; rw [f1 p x hp hx, f2 (5 * p + x) (by omega)]; exact h p x hp hx

def RIr (I : Nat → Nat → Int) : Prop := ∀ p x, p < 6 → x < 4 → I (39 + 3 * p + 2) x = I 178 (4 * p + x) ∧ 0 ≤ I 178 (4 * p + x) ∧ I 178 (4 * p + x) ≤ 9
theorem RIr.fr {I I' : Nat → Nat → Int} (h : RIr I) (f1 : ∀ p x, p < 6 → x < 4 → I' (39 + 3 * p + 2) x = I (39 + 3 * p + 2) x) (f2 : ∀ j, j < 24 → I' 178 j = I 178 j) : RIr I' := by
  unfold RIr at *
  intro p x hp hx; rw [f1 p x hp hx, f2 (4 * p + x) (by omega)]; exact h p x hp hx

def RId (I : Nat → Nat → Int) : Prop := ∀ x, x < 5 → I 31 x = I 179 x ∧ 0 ≤ I 179 x ∧ I 179 x ≤ I 143 56
theorem RId.fr {I I' : Nat → Nat → Int} (h : RId I) (f1 : ∀ x, x < 5 → I' 31 x = I 31 x) (f2 : ∀ x, x < 5 → I' 179 x = I 179 x) (f3 : I' 143 56 = I 143 56) : RId I' := by
  unfold RId at *
  intro x hx; rw [f1 x hx, f2 x hx, f3]; exact h x hx

def RIg (I : Nat → Nat → Int) : Prop := I 29 4 = I 143 54 ∧ 0 ≤ I 143 54 ∧ I 143 54 ≤ 5 ∧ (∀ x, x < 5 → I 32 x = I 180 x) ∧ (∀ x : Nat, (x : Int) < I 143 54 → 0 ≤ I 180 x ∧ I 180 x ≤ 4) ∧ ∀ x y : Nat, x < y → (y : Int) < I 143 54 → I 180 x ≠ I 180 y
theorem RIg.fr {I I' : Nat → Nat → Int} (h : RIg I) (f1 : I' 29 4 = I 29 4 ∧ I' 143 54 = I 143 54) (f2 : ∀ x, x < 5 → I' 32 x = I 32 x) (f3 : ∀ x, x < 5 → I' 180 x = I 180 x) : RIg I' := by
  unfold RIg at *
  obtain ⟨h1, h2, h3, h4, h5, h6⟩ := h; refine ⟨by rw [f1.1, f1.2]; exact h1, by rw [f1.2]; exact h2, by rw [f1.2]; exact h3, fun x hx => by rw [f2 x hx, f3 x hx]; exact h4 x hx, fun x hx => ?_, fun x y hx hy => ?_⟩ 
  · rw [f1.2] at hx; rw [f3 x (by omega)]; exact h5 x hx
  · rw [f1.2] at hy; rw [f3 x (by omega), f3 y (by omega)]; exact h6 x y hx hy

def RIe (I : Nat → Nat → Int) : Prop := I 33 2 = I 143 57 ∧ 0 ≤ I 143 57 ∧ I 143 57 ≤ 5 ∧ I 33 0 = 5 ∧ ∀ x : Nat, (x : Int) < I 143 57 → I 34 (x * 4) = I 181 x ∧ 0 ≤ I 181 x ∧ I 181 x ≤ 5 ∧ I 34 (x * 4 + 1) = I 182 x ∧ 0 ≤ I 182 x ∧ I 182 x ≤ 4 ∧ I 34 (x * 4 + 2) = I 183 x ∧ 0 ≤ I 183 x ∧ I 183 x ≤ 4 ∧ I 34 (x * 4 + 3) = I 189 x ∧ (I 189 x = 0 ∨ I 189 x = 1)
theorem RIe.fr {I I' : Nat → Nat → Int} (h : RIe I) (f1 : I' 33 2 = I 33 2 ∧ I' 33 0 = I 33 0 ∧ I' 143 57 = I 143 57) (f2 : ∀ j, j < 20 → I' 34 j = I 34 j) (f3 : ∀ k x, (k = 181 ∨ k = 182 ∨ k = 183 ∨ k = 189) → x < 5 → I' k x = I k x) : RIe I' := by
  unfold RIe at *
  obtain ⟨h1, h2, h3, h4, h5⟩ := h; refine ⟨by rw [f1.1, f1.2.2]; exact h1, by rw [f1.2.2]; exact h2, by rw [f1.2.2]; exact h3, by rw [f1.2.1]; exact h4, fun x hx => ?_⟩
  rw [f1.2.2] at hx; rw [f2 _ (by omega), f2 _ (by omega), f2 _ (by omega), f2 _ (by omega), f3 181 x (by decide) (by omega), f3 182 x (by decide) (by omega), f3 183 x (by decide) (by omega), f3 189 x (by decide) (by omega)]; exact h5 x hx

def RIp (I : Nat → Nat → Int) : Prop := I 35 2 = I 143 58 ∧ 0 ≤ I 143 58 ∧ I 143 58 ≤ 10 ∧ I 35 0 = 10 ∧ ∀ x : Nat, (x : Int) < I 143 58 → I 36 (x * 4) = I 184 x ∧ 0 ≤ I 184 x ∧ I 184 x ≤ 3 ∧ (I 184 x ≠ 0 → I 36 (x * 4 + 1) = I 185 x ∧ 0 ≤ I 185 x ∧ I 185 x ≤ 9 ∧ (I 184 x ≠ 3 → I 185 x ≤ 5))
theorem RIp.fr {I I' : Nat → Nat → Int} (h : RIp I) (f1 : I' 35 2 = I 35 2 ∧ I' 35 0 = I 35 0 ∧ I' 143 58 = I 143 58) (f2 : ∀ j, j < 40 → I' 36 j = I 36 j) (f3 : ∀ k x, (k = 184 ∨ k = 185) → x < 10 → I' k x = I k x) : RIp I' := by
  unfold RIp at *
  obtain ⟨h1, h2, h3, h4, h5⟩ := h; refine ⟨by rw [f1.1, f1.2.2]; exact h1, by rw [f1.2.2]; exact h2, by rw [f1.2.2]; exact h3, by rw [f1.2.1]; exact h4, fun x hx => ?_⟩
  rw [f1.2.2] at hx; rw [f2 _ (by omega), f2 _ (by omega), f3 184 x (by decide) (by omega), f3 185 x (by decide) (by omega)]; exact h5 x hx

def RIk (I : Nat → Nat → Int) : Prop := I 37 2 = I 143 59 ∧ 0 ≤ I 143 59 ∧ I 143 59 ≤ 8 ∧ I 37 0 = 8 ∧ ∀ x : Nat, (x : Int) < I 143 59 → I 38 (x * 4) = I 186 x ∧ 0 ≤ I 186 x ∧ I 186 x ≤ 5 ∧ I 38 (x * 4 + 1) = I 187 x ∧ 0 ≤ I 187 x ∧ I 187 x ≤ 4 ∧ I 38 (x * 4 + 2) = I 188 x ∧ 0 ≤ I 188 x ∧ I 188 x ≤ 9
theorem RIk.fr {I I' : Nat → Nat → Int} (h : RIk I) (f1 : I' 37 2 = I 37 2 ∧ I' 37 0 = I 37 0 ∧ I' 143 59 = I 143 59) (f2 : ∀ j, j < 32 → I' 38 j = I 38 j) (f3 : ∀ k x, (k = 186 ∨ k = 187 ∨ k = 188) → x < 8 → I' k x = I k x) : RIk I' := by
  unfold RIk at *
  obtain ⟨h1, h2, h3, h4, h5⟩ := h; refine ⟨by rw [f1.1, f1.2.2]; exact h1, by rw [f1.2.2]; exact h2, by rw [f1.2.2]; exact h3, by rw [f1.2.1]; exact h4, fun x hx => ?_⟩
  rw [f1.2.2] at hx; rw [f2 _ (by omega), f2 _ (by omega), f2 _ (by omega), f3 186 x (by decide) (by omega), f3 187 x (by decide) (by omega), f3 188 x (by decide) (by omega)]; exact h5 x hx

def RIw (I : Nat → Nat → Int) : Prop := RIs I ∧ RIo I ∧ RIa I ∧ RIb I ∧ RIr I ∧ RId I ∧ RIg I ∧ RIe I ∧ RIp I ∧ RIk I

def RX (I : Nat → Nat → Int) : Prop := I 85 1 = I 143 14 ∧ 0 ≤ I 143 14 ∧ I 143 14 ≤ 100 ∧ ∀ x : Nat, (x : Int) < I 143 14 → I 86 x = I 151 x ∧ 0 ≤ I 151 x ∧ I 151 x ≤ 127
theorem RX.fr {I I' : Nat → Nat → Int} (h : RX I) (f1 : I' 85 1 = I 85 1 ∧ I' 143 14 = I 143 14) (f2 : ∀ k x, (k = 86 ∨ k = 151) → x < 100 → I' k x = I k x) : RX I' := by
  unfold RX at *
  obtain ⟨h1, h2, h3, h4⟩ := h; refine ⟨by rw [f1.1, f1.2]; exact h1, by rw [f1.2]; exact h2, by rw [f1.2]; exact h3, fun x hx => ?_⟩
  rw [f1.2] at hx; rw [f2 86 x (by decide) (by omega), f2 151 x (by decide) (by omega)]; exact h4 x hx

def RC (I : Nat → Nat → Int) : Prop := I 104 1 = I 143 76 ∧ 0 ≤ I 143 76 ∧ I 143 76 ≤ 20 ∧ ∀ x : Nat, x < 20 → (x : Int) < I 143 76 → I 105 x = I 190 x
theorem RC.fr {I I' : Nat → Nat → Int} (h : RC I) (f1 : I' 104 1 = I 104 1 ∧ I' 143 76 = I 143 76) (f2 : ∀ k x, (k = 105 ∨ k = 190) → x < 20 → I' k x = I k x) : RC I' := by
  unfold RC at *
  obtain ⟨h1, h2, h3, h4⟩ := h; refine ⟨by rw [f1.1, f1.2]; exact h1, by rw [f1.2]; exact h2, by rw [f1.2]; exact h3, fun x hx1 hx => ?_⟩
  rw [f1.2] at hx; rw [f2 105 x (by decide) (by omega), f2 190 x (by decide) (by omega)]; exact h4 x hx1 hx

def RH (I : Nat → Nat → Int) : Prop := I 0 3 = I 143 50 ∧ (I 143 50 = 0 ∨ I 143 50 = 1) ∧ I 143 32 = 9999 ∧ (∀ x, x < 15 → I 159 x = (([108, 105, 107, 101, 108, 111, 97, 116, 104, 101, 113, 117, 111, 116, 97] : List Int)[x]?).getD 0) ∧ ∀ x, x < 5 → (I 168 x = 0 ∨ I 168 x = 1) ∧ (I 189 x = 0 ∨ I 189 x = 1)
theorem RH.fr {I I' : Nat → Nat → Int} (h : RH I) (f1 : I' 0 3 = I 0 3 ∧ I' 143 50 = I 143 50 ∧ I' 143 32 = I 143 32) (f2 : ∀ x, x < 15 → I' 159 x = I 159 x) (f3 : ∀ k x, (k = 168 ∨ k = 189) → x < 5 → I' k x = I k x) : RH I' := by
  unfold RH at *
  obtain ⟨h1, h2, h3, h4, h5⟩ := h; refine ⟨by rw [f1.1, f1.2.1]; exact h1, by rw [f1.2.1]; exact h2, by rw [f1.2.2]; exact h3, fun x hx => ?_, fun x hx => ?_⟩
  · rw [f2 x hx]; exact h4 x hx
  · rw [f3 168 x (by decide) hx, f3 189 x (by decide) hx]; exact h5 x hx

def Rl (I : Nat → Nat → Int) (L : Nat → Nat → Int64) : Prop := RNw I ∧ RIw I ∧ RT I ∧ RX I ∧ RC I ∧ RH I ∧ RQ I L

/-- cells that no relation reads -/
def x_scr (k j : Nat) : Prop := (57 ≤ k ∧ k ≤ 84) ∨ (92 ≤ k ∧ k ≤ 103) ∨ k = 158 ∨ (160 ≤ k ∧ k ≤ 164) ∨ (k = 85 ∧ j = 2) ∨ (k = 104 ∧ 2 ≤ j) ∨ (k = 143 ∧ (j = 15 ∨ j = 16 ∨ j = 25 ∨ j = 26 ∨ j = 27 ∨ j = 33 ∨ j = 34 ∨ j = 35))

theorem Rl.fr {I I' : Nat → Nat → Int} {L L' : Nat → Nat → Int64} (h : Rl I L) (hf : ∀ k j, ¬ x_scr k j → I' k j = I k j) (hfL : ∀ k j, L' k j = L k j) : Rl I' L' := by
  obtain ⟨⟨hRNs, hRNo, hRNa, hRNb, hRNr, hRNd, hRNg, hRNe, hRNp, hRNk⟩, ⟨hRIs, hRIo, hRIa, hRIb, hRIr, hRId, hRIg, hRIe, hRIp, hRIk⟩, hT, hX, hC, hH, hQ⟩ := h
  exact ⟨⟨hRNs.fr ⟨hf _ _ (by unfold x_scr; omega), hf _ _ (by unfold x_scr; omega), hf _ _ (by unfold x_scr; omega), hf _ _ (by unfold x_scr; omega), hf _ _ (by unfold x_scr; omega), hf _ _ (by unfold x_scr; omega), hf _ _ (by unfold x_scr; omega), hf _ _ (by unfold x_scr; omega), hf _ _ (by unfold x_scr; omega)⟩,
    hRNo.fr (by intros; exact hf _ _ (by unfold x_scr; omega)) (by intros; exact hf _ _ (by unfold x_scr; omega)),
    hRNa.fr (by intros; exact hf _ _ (by unfold x_scr; omega)) (hf _ _ (by unfold x_scr; omega)),
    hRNb.fr (by intros; exact hf _ _ (by unfold x_scr; omega)) (by intros; exact hf _ _ (by unfold x_scr; omega)),
    hRNr.fr (by intros; exact hf _ _ (by unfold x_scr; omega)) (by intros; exact hf _ _ (by unfold x_scr; omega)),
    hRNd.fr (by intros; exact hf _ _ (by unfold x_scr; omega)) (by intros; exact hf _ _ (by unfold x_scr; omega)) (hf _ _ (by unfold x_scr; omega)),
    hRNg.fr ⟨hf _ _ (by unfold x_scr; omega), hf _ _ (by unfold x_scr; omega)⟩ (by intros; exact hf _ _ (by unfold x_scr; omega)) (by intros; exact hf _ _ (by unfold x_scr; omega)),
    hRNe.fr ⟨hf _ _ (by unfold x_scr; omega), hf _ _ (by unfold x_scr; omega), hf _ _ (by unfold x_scr; omega)⟩ (by intros; exact hf _ _ (by unfold x_scr; omega)) (by intros; exact hf _ _ (by unfold x_scr; omega)),
    hRNp.fr ⟨hf _ _ (by unfold x_scr; omega), hf _ _ (by unfold x_scr; omega), hf _ _ (by unfold x_scr; omega)⟩ (by intros; exact hf _ _ (by unfold x_scr; omega)) (by intros; exact hf _ _ (by unfold x_scr; omega)),
    hRNk.fr ⟨hf _ _ (by unfold x_scr; omega), hf _ _ (by unfold x_scr; omega), hf _ _ (by unfold x_scr; omega)⟩ (by intros; exact hf _ _ (by unfold x_scr; omega)) (by intros; exact hf _ _ (by unfold x_scr; omega))⟩,
   ⟨hRIs.fr ⟨hf _ _ (by unfold x_scr; omega), hf _ _ (by unfold x_scr; omega), hf _ _ (by unfold x_scr; omega), hf _ _ (by unfold x_scr; omega), hf _ _ (by unfold x_scr; omega), hf _ _ (by unfold x_scr; omega), hf _ _ (by unfold x_scr; omega), hf _ _ (by unfold x_scr; omega), hf _ _ (by unfold x_scr; omega)⟩,
    hRIo.fr (by intros; exact hf _ _ (by unfold x_scr; omega)) (by intros; exact hf _ _ (by unfold x_scr; omega)),
    hRIa.fr (by intros; exact hf _ _ (by unfold x_scr; omega)) (hf _ _ (by unfold x_scr; omega)),
    hRIb.fr (by intros; exact hf _ _ (by unfold x_scr; omega)) (by intros; exact hf _ _ (by unfold x_scr; omega)),
    hRIr.fr (by intros; exact hf _ _ (by unfold x_scr; omega)) (by intros; exact hf _ _ (by unfold x_scr; omega)),
    hRId.fr (by intros; exact hf _ _ (by unfold x_scr; omega)) (by intros; exact hf _ _ (by unfold x_scr; omega)) (hf _ _ (by unfold x_scr; omega)),
    hRIg.fr ⟨hf _ _ (by unfold x_scr; omega), hf _ _ (by unfold x_scr; omega)⟩ (by intros; exact hf _ _ (by unfold x_scr; omega)) (by intros; exact hf _ _ (by unfold x_scr; omega)),
    hRIe.fr ⟨hf _ _ (by unfold x_scr; omega), hf _ _ (by unfold x_scr; omega), hf _ _ (by unfold x_scr; omega)⟩ (by intros; exact hf _ _ (by unfold x_scr; omega)) (by intros; exact hf _ _ (by unfold x_scr; omega)),
    hRIp.fr ⟨hf _ _ (by unfold x_scr; omega), hf _ _ (by unfold x_scr; omega), hf _ _ (by unfold x_scr; omega)⟩ (by intros; exact hf _ _ (by unfold x_scr; omega)) (by intros; exact hf _ _ (by unfold x_scr; omega)),
    hRIk.fr ⟨hf _ _ (by unfold x_scr; omega), hf _ _ (by unfold x_scr; omega), hf _ _ (by unfold x_scr; omega)⟩ (by intros; exact hf _ _ (by unfold x_scr; omega)) (by intros; exact hf _ _ (by unfold x_scr; omega))⟩,
   hT.fr ⟨hf _ _ (by unfold x_scr; omega), hf _ _ (by unfold x_scr; omega)⟩ (by intros; exact hf _ _ (by unfold x_scr; omega)) (by intros; exact hf _ _ (by unfold x_scr; omega)) (by intros; exact hf _ _ (by unfold x_scr; omega)),
   hX.fr ⟨hf _ _ (by unfold x_scr; omega), hf _ _ (by unfold x_scr; omega)⟩ (by intros; exact hf _ _ (by unfold x_scr; omega)),
   hC.fr ⟨hf _ _ (by unfold x_scr; omega), hf _ _ (by unfold x_scr; omega)⟩ (by intros; exact hf _ _ (by unfold x_scr; omega)),
   hH.fr ⟨hf _ _ (by unfold x_scr; omega), hf _ _ (by unfold x_scr; omega), hf _ _ (by unfold x_scr; omega)⟩ (by intros; exact hf _ _ (by unfold x_scr; omega)) (by intros; exact hf _ _ (by unfold x_scr; omega)),
   hQ.fr (by intros; exact hf _ _ (by unfold x_scr; omega)) (by intros; exact hf _ _ (by unfold x_scr; omega)) (by intros; exact hfL _ _) (by intros; exact hfL _ _)⟩
theorem x_so1 (p : Nat) (hp : p < 6) : xSH[11 + 3 * p]? = some (2, 6, [none, none, none, none, some (11 + 3 * p + 1), some (11 + 3 * p + 2)]) ∧ xSH[11 + 3 * p + 1]? = some (20, 5, []) ∧ xSH[11 + 3 * p + 2]? = some (20, 4, []) := by
  rcases (show p = 0 ∨ p = 1 ∨ p = 2 ∨ p = 3 ∨ p = 4 ∨ p = 5 by omega) with rfl | rfl | rfl | rfl | rfl | rfl <;> exact ⟨rfl, rfl, rfl⟩
theorem x_aa2 (p : Nat) (hp : p < 6) : ([some 11, some 14, some 17, some 20, some 23, some 26] : List (Option Nat))[p]? = some (some (11 + 3 * p)) := by
  rcases (show p = 0 ∨ p = 1 ∨ p = 2 ∨ p = 3 ∨ p = 4 ∨ p = 5 by omega) with rfl | rfl | rfl | rfl | rfl | rfl <;> rfl
theorem ex_inl {sc : List Int} {D D' : Nat} {M M' : xMt} {pc : Nat} {ls : xLc} {st rest as : List xPV} {m : xMem} {Q : Option xPV → xMem → Prop} {e : xEnt} {μ : Nat} (hM : x_mts[μ]? = some M') (hw : x_words as ≤ M'.2.1) (hD : D' + 1 ≤ D) (he : x_lk M.2.2 pc = some e) (hi : x_isRet e.1 = false ∧ x_isInv e.1 e.2.2.1 = true ∧ e.2.2.1 = μ)
    (hk : x_cnt e.1 e.2.2.2.1 ≤ st.length ∧ (st.take (x_cnt e.1 e.2.2.2.1)).reverse = as ∧ st.drop (x_cnt e.1 e.2.2.2.1) = rest) (hs : (rest.map x_cat).sum ≤ 8) (hrc : x_recv e.1 e.2.2.2.2 m as = true)
    (h : x_Ex sc D' M' 0 (x_args 0 as) [] m (fun a m' => x_Ex sc D M (pc + e.2.1) ls (a.toList ++ rest) m' Q)) : x_Ex sc D M pc ls st m Q :=
  ex_callQ (x_CQ.of hM hw h) hD he hi hk hs hrc (fun _ _ h => h)
theorem z_i2b_id {z : Int} (h0 : 0 ≤ z) (h1 : z < 128) : z_i2b z = z := by
  have h : ∀ n : Nat, n < 128 → z_i2b (n : Int) = (n : Int) := by decide +kernel
  obtain ⟨n, rfl⟩ := Int.eq_ofNat_of_zero_le h0
  exact h n (by omega)
theorem z_set0 : ∀ s : Nat, s < 64 → ∀ k : Nat, k < 6 → 0 ≤ z_and (↑s) (z_xor (z_shl 1 (↑k)) (-1)) ∧ z_and (↑s) (z_xor (z_shl 1 (↑k)) (-1)) < 64 ∧ ∀ p, p < 6 → (z_and (↑s) (z_xor (z_shl 1 (↑k)) (-1))).toNat.testBit p = if p = k then false else s.testBit p := by decide +kernel
theorem z_set1 : ∀ s : Nat, s < 64 → ∀ k : Nat, k < 6 → 0 ≤ z_or (↑s) (z_shl 1 (↑k)) ∧ z_or (↑s) (z_shl 1 (↑k)) < 64 ∧ ∀ p, p < 6 → (z_or (↑s) (z_shl 1 (↑k))).toNat.testBit p = if p = k then true else s.testBit p := by decide +kernel
theorem ct_G_isOfficial2 {sc : List Int} {I : Nat → Nat → Int} {L : Nat → Nat → Int64} {t c : Int} (ht : x_R t) (hI : I 1 1 = c) (hc : 0 ≤ c ∧ c ≤ 6) : x_CE sc 1 xN_G_isOfficial [xr 0, xi t] (xSH, I, L) (some (xi (x_b (0 ≤ t ∧ t < c)))) (xSH, I, L) := by subst hI; exact ct_G_isOfficial ht hc
theorem ct_m_isOfficial2 {sc : List Int} {I : Nat → Nat → Int} {L : Nat → Nat → Int64} {t c : Int} (ht : x_R t) (hI : I 143 0 = c) (hc : 0 ≤ c ∧ c ≤ 6) : x_CE sc 2 xN_m_isOfficial [xr 143, xi t] (xSH, I, L) (some (xi (x_b (0 ≤ t ∧ t ≤ c - 1)))) (xSH, I, L) := by subst hI; exact ct_m_isOfficial ht hc
/-- the class's call answers, then the reference's in the state that it leaves, alike, and the relation holds again -/
def x_PQ (sc : List Int) (μ1 : Nat) (as1 : List xPV) (μ2 : Nat) (as2 : List xPV) (m : xMem) : Prop := x_CQ sc 30 μ1 as1 m (fun r m1 => x_CQ sc 30 μ2 as2 m1 (fun r2 m2 => r2 = r ∧ ∃ I2 L2, m2 = (xSH, I2, L2) ∧ Rl I2 L2))
theorem x_CQ.le {sc : List Int} {D D' : Nat} {μ : Nat} {as : List xPV} {m : xMem} {Q : Option xPV → xMem → Prop} (h : x_CQ sc D μ as m Q) (hD : D ≤ D') : x_CQ sc D' μ as m Q := by
  obtain ⟨r, m', hq, N, hN⟩ := h
  exact ⟨r, m', hq, N, fun f hf d hd => hN f hf d (by omega)⟩
