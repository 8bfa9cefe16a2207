/-! the reading of a treaty as plain functions -/
abbrev PR := Nat × List Int × Bool
/-- the sign at a place, 0 beyond the end -/
def pg (n : Nat) (tx : Nat → Nat) (a : Nat) : Nat := if a < n then tx a else 0
theorem pg_lt {n : Nat} {tx : Nat → Nat} {a : Nat} (h : pg n tx a ≠ 0) : a < n := by
  unfold pg at h
  split at h
  · assumption
  · exact absurd rfl h
def p_dg (s : Nat) : Bool := decide (48 ≤ s ∧ s ≤ 57)
def p_nm (n : Nat) (tx : Nat → Nat) (a : Nat) : Int := if p_dg (pg n tx a) = true then (if p_dg (pg n tx (a + 1)) = true then 10 * ((pg n tx a : Int) - 48) + ((pg n tx (a + 1) : Int) - 48) else (pg n tx a : Int) - 48) else -1
def p_na (n : Nat) (tx : Nat → Nat) (a : Nat) : Nat := if p_dg (pg n tx a) = true then (if p_dg (pg n tx (a + 1)) = true then a + 2 else a + 1) else a
def p_lt (s : Nat) : Int := if s = 112 then 0 else if s = 107 then 1 else if s = 118 then 2 else if s = 120 then 3 else if s = 103 then 4 else if s = 115 then 5 else -1
def p_test (n : Nat) (tx : Nat → Nat) (a : Nat) : PR := if p_lt (pg n tx a) < 0 then (a, [], false) else if ¬ (60 ≤ pg n tx (a + 1) ∧ pg n tx (a + 1) ≤ 62) then (a + 1, [], false) else if p_nm n tx (a + 2) < 0 then (a + 2, [], false) else (p_na n tx (a + 2), [(p_lt (pg n tx a) * 3 + ((pg n tx (a + 1) : Int) - 60)) * 100 + p_nm n tx (a + 2)], true)
def p_T (n : Nat) (tx : Nat → Nat) (S : Nat → PR) : Nat → Nat → List Int → PR
  | 0, a, c => (a, c, true)
  | f + 1, a, c => if pg n tx a = 38 then (if (S (a + 1)).2.2 = true then p_T n tx S f (S (a + 1)).1 (c ++ (S (a + 1)).2.1 ++ [-2]) else ((S (a + 1)).1, [], false)) else (a, c, true)
def p_or (o : Bool) (c : List Int) : List Int := if o = true then c ++ [-3] else c
def p_E (n : Nat) (tx : Nat → Nat) (S : Nat → PR) : Nat → Bool → Nat → List Int → PR
  | 0, _, a, _ => (a, [], false)
  | f + 1, o, a, c => if (S a).2.2 = true then
      (if (p_T n tx S 100 (S a).1 (c ++ (S a).2.1)).2.2 = true then
        (if pg n tx (p_T n tx S 100 (S a).1 (c ++ (S a).2.1)).1 = 124 then p_E n tx S f true ((p_T n tx S 100 (S a).1 (c ++ (S a).2.1)).1 + 1) (p_or o (p_T n tx S 100 (S a).1 (c ++ (S a).2.1)).2.1)
         else ((p_T n tx S 100 (S a).1 (c ++ (S a).2.1)).1, p_or o (p_T n tx S 100 (S a).1 (c ++ (S a).2.1)).2.1, true))
       else ((p_T n tx S 100 (S a).1 (c ++ (S a).2.1)).1, [], false))
    else ((S a).1, [], false)
def p_S (n : Nat) (tx : Nat → Nat) : Nat → Nat → PR
  | 0, a => if pg n tx a = 33 ∨ pg n tx a = 40 then (a, [], false) else p_test n tx a
  | k + 1, a => if pg n tx a = 40 then
      (if (p_E n tx (p_S n tx k) 101 false (a + 1) []).2.2 = true then (if pg n tx (p_E n tx (p_S n tx k) 101 false (a + 1) []).1 = 41 then ((p_E n tx (p_S n tx k) 101 false (a + 1) []).1 + 1, (p_E n tx (p_S n tx k) 101 false (a + 1) []).2.1, true) else ((p_E n tx (p_S n tx k) 101 false (a + 1) []).1, [], false))
       else ((p_E n tx (p_S n tx k) 101 false (a + 1) []).1, [], false))
    else if pg n tx a = 33 then (if (p_S n tx k (a + 1)).2.2 = true then ((p_S n tx k (a + 1)).1, (p_S n tx k (a + 1)).2.1 ++ [-1], true) else ((p_S n tx k (a + 1)).1, [], false))
    else p_test n tx a
/-- where it stops -/
def PB (n a : Nat) (r : PR) : Prop := a ≤ r.1 ∧ r.1 ≤ n ∧ (r.2.2 = true → a < r.1 ∧ r.2.1.length + a ≤ r.1)
theorem p_lt_pg {s : Nat} (h : ¬ p_lt s < 0) : s ≠ 0 := by
  intro e; subst e; exact h (by decide)
theorem p_lt_bd (s : Nat) : -1 ≤ p_lt s ∧ p_lt s ≤ 5 := by
  unfold p_lt
  repeat' split
  all_goals omega
theorem p_dg_bd {s : Nat} (h : p_dg s = true) : 48 ≤ s ∧ s ≤ 57 := by unfold p_dg at h; simpa using h
theorem p_nm_bd (n : Nat) (tx : Nat → Nat) (a : Nat) : -1 ≤ p_nm n tx a ∧ p_nm n tx a ≤ 99 := by
  unfold p_nm
  split
  · next h1 =>
    have := p_dg_bd h1
    split
    · next h2 => have := p_dg_bd h2; omega
    · omega
  · omega
theorem p_na_bd {n : Nat} {tx : Nat → Nat} {a : Nat} (h : a ≤ n) : a ≤ p_na n tx a ∧ p_na n tx a ≤ n ∧ (0 ≤ p_nm n tx a → a < p_na n tx a) := by
  unfold p_na p_nm
  split
  · next h1 =>
    have g1 := p_dg_bd h1
    have k1 := pg_lt (n := n) (tx := tx) (a := a) (by omega)
    split
    · next h2 =>
      have g2 := p_dg_bd h2
      have k2 := pg_lt (n := n) (tx := tx) (a := a + 1) (by omega)
      omega
    · omega
  · omega
theorem p_test_bd {n : Nat} {tx : Nat → Nat} {a : Nat} (h : a ≤ n) : PB n a (p_test n tx a) := by
  unfold p_test
  split
  · exact ⟨Nat.le_refl _, h, fun q => by cases q⟩
  · next h1 =>
    have k1 := pg_lt (p_lt_pg h1)
    split
    · exact ⟨Nat.le_succ _, k1, fun q => by cases q⟩
    · next h2 =>
      have k2 := pg_lt (n := n) (tx := tx) (a := a + 1) (by omega)
      split
      · exact ⟨by show a ≤ a + 2; omega, k2, fun q => by cases q⟩
      · next h3 =>
        have k3 := p_na_bd (n := n) (tx := tx) (a := a + 2) (by omega)
        have k4 := k3.2.2 (by omega)
        exact ⟨by show a ≤ p_na n tx (a + 2); omega, k3.2.1, fun _ => ⟨by show a < p_na n tx (a + 2); omega, by show 1 + a ≤ p_na n tx (a + 2); omega⟩⟩
theorem p_T_bd {n : Nat} {tx : Nat → Nat} {S : Nat → PR} (hS : ∀ a, a ≤ n → PB n a (S a)) : ∀ f a c, a ≤ n → a ≤ (p_T n tx S f a c).1 ∧ (p_T n tx S f a c).1 ≤ n ∧ ((p_T n tx S f a c).2.2 = true → (p_T n tx S f a c).2.1.length + a ≤ (p_T n tx S f a c).1 + c.length ∧ (pg n tx (p_T n tx S f a c).1 ≠ 38 ∨ a + f ≤ (p_T n tx S f a c).1))
  | 0, a, c, h => ⟨Nat.le_refl _, h, fun _ => ⟨by show c.length + a ≤ a + c.length; omega, Or.inr (Nat.le_refl _)⟩⟩
  | f + 1, a, c, h => by
    simp only [p_T]
    split
    · next h1 =>
      have k1 := pg_lt (n := n) (tx := tx) (a := a) (by omega)
      have g := hS (a + 1) k1
      split
      · next h2 =>
        have g2 := g.2.2 h2
        have ih := p_T_bd (tx := tx) hS f (S (a + 1)).1 (c ++ (S (a + 1)).2.1 ++ [-2]) g.2.1
        have hl : (c ++ (S (a + 1)).2.1 ++ [-2]).length = c.length + (S (a + 1)).2.1.length + 1 := by simp [Nat.add_assoc]
        refine ⟨by omega, ih.2.1, fun q => ?_⟩
        have := ih.2.2 q
        refine ⟨by omega, ?_⟩
        rcases this.2 with h | h
        · exact Or.inl h
        · exact Or.inr (by omega)
      · exact ⟨by show a ≤ (S (a + 1)).1; have := g.1; omega, g.2.1, fun q => by cases q⟩
    · next h1 => exact ⟨Nat.le_refl _, h, fun _ => ⟨by show c.length + a ≤ a + c.length; omega, Or.inl h1⟩⟩
theorem p_or_len (o : Bool) (c : List Int) : (p_or o c).length = c.length + (if o = true then 1 else 0) := by
  unfold p_or; split <;> simp
theorem p_E_bd {n : Nat} {tx : Nat → Nat} {S : Nat → PR} (hS : ∀ a, a ≤ n → PB n a (S a)) : ∀ f o a c, a ≤ n → a ≤ (p_E n tx S f o a c).1 ∧ (p_E n tx S f o a c).1 ≤ n ∧ ((p_E n tx S f o a c).2.2 = true → a < (p_E n tx S f o a c).1 ∧ (p_E n tx S f o a c).2.1.length + a ≤ (p_E n tx S f o a c).1 + c.length + (if o = true then 1 else 0))
  | 0, o, a, c, h => ⟨Nat.le_refl _, h, fun q => by cases q⟩
  | f + 1, o, a, c, h => by
    have g := hS a h
    simp only [p_E]
    split
    · next h1 =>
      have g1 := g.2.2 h1
      have ht := p_T_bd (tx := tx) hS 100 (S a).1 (c ++ (S a).2.1) g.2.1
      have hl : (c ++ (S a).2.1).length = c.length + (S a).2.1.length := by simp
      generalize p_T n tx S 100 (S a).1 (c ++ (S a).2.1) = t at ht ⊢
      split
      · next h2 =>
        have ht2 := ht.2.2 h2
        have ho := p_or_len o t.2.1
        split
        · next h3 =>
          have k1 := pg_lt (n := n) (tx := tx) (a := t.1) (by omega)
          have ih := p_E_bd (tx := tx) hS f true (t.1 + 1) (p_or o t.2.1) k1
          refine ⟨by omega, ih.2.1, fun q => ?_⟩
          have := ih.2.2 q
          rw [if_pos rfl] at this
          refine ⟨by omega, by omega⟩
        · exact ⟨by show a ≤ t.1; omega, ht.2.1, fun _ => ⟨by show a < t.1; omega, by show (p_or o t.2.1).length + a ≤ t.1 + c.length + _; omega⟩⟩
      · exact ⟨by show a ≤ t.1; omega, ht.2.1, fun q => by cases q⟩
    · exact ⟨g.1, g.2.1, fun q => by cases q⟩
theorem p_S_bd {n : Nat} {tx : Nat → Nat} : ∀ k a, a ≤ n → PB n a (p_S n tx k a)
  | 0, a, h => by
    simp only [p_S]
    split
    · exact ⟨Nat.le_refl _, h, fun q => by cases q⟩
    · exact p_test_bd h
  | k + 1, a, h => by
    simp only [p_S]
    split
    · next h1 =>
      have k1 := pg_lt (n := n) (tx := tx) (a := a) (by omega)
      have e := p_E_bd (tx := tx) (p_S_bd (n := n) (tx := tx) k) 101 false (a + 1) [] k1
      generalize p_E n tx (p_S n tx k) 101 false (a + 1) [] = t at e ⊢
      split
      · next h2 =>
        have e2 := e.2.2 h2
        rw [if_neg (by decide)] at e2
        have e3 : t.2.1.length + (a + 1) ≤ t.1 := by have := e2.2; simp only [List.length_nil] at this; omega
        split
        · next h3 =>
          have k2 := pg_lt (n := n) (tx := tx) (a := t.1) (by omega)
          exact ⟨by show a ≤ t.1 + 1; omega, k2, fun _ => ⟨by show a < t.1 + 1; omega, by show t.2.1.length + a ≤ t.1 + 1; omega⟩⟩
        · exact ⟨by show a ≤ t.1; omega, e.2.1, fun q => by cases q⟩
      · exact ⟨by show a ≤ t.1; omega, e.2.1, fun q => by cases q⟩
    · split
      · next h1 =>
        have k1 := pg_lt (n := n) (tx := tx) (a := a) (by omega)
        have e := p_S_bd (n := n) (tx := tx) k (a + 1) k1
        generalize p_S n tx k (a + 1) = t at e ⊢
        obtain ⟨e1, e2, e3⟩ := e
        split
        · next h2 =>
          have e4 := e3 h2
          exact ⟨by show a ≤ t.1; omega, e2, fun _ => ⟨by show a < t.1; omega, by show (t.2.1 ++ [-1]).length + a ≤ t.1; rw [List.length_append]; show t.2.1.length + 1 + a ≤ _; omega⟩⟩
        · exact ⟨by show a ≤ t.1; omega, e2, fun q => by cases q⟩
      · exact p_test_bd h
/-- the codes are codes, and leave one truth more on the stack -/
def VC (x : Int) : Prop := x = -1 ∨ x = -2 ∨ x = -3 ∨ ∃ l r m : Nat, l < 6 ∧ r < 3 ∧ m < 100 ∧ x = (((l * 3 + r) * 100 + m : Nat) : Int)
def szl : List Int → Nat → Option Nat
  | [], s => some s
  | c :: l, s => match sp_sz c s with
    | some t => szl l t
    | none => none
theorem szl_app : ∀ (a b : List Int) (s t : Nat), szl a s = some t → szl (a ++ b) s = szl b t
  | [], b, s, t, h => by
    have : s = t := by simpa [szl] using h
    subst this; rfl
  | c :: l, b, s, t, h => by
    have e : szl (c :: l) s = match sp_sz c s with | some t => szl l t | none => none := rfl
    have e2 : szl (c :: (l ++ b)) s = match sp_sz c s with | some t => szl (l ++ b) t | none => none := rfl
    rw [e] at h
    show szl (c :: (l ++ b)) s = _
    rw [e2]
    cases hu : sp_sz c s with
    | some u => rw [hu] at h; exact szl_app l b u t h
    | none => rw [hu] at h; cases h
theorem sp_sz_op {t : Nat} {c : Int} (h : 2 ≤ t) (hc : c = -2 ∨ c = -3) : szl [c] t = some (t - 1) := by
  unfold szl
  have : sp_sz c t = some (t - 1) := by
    unfold sp_sz
    rw [if_neg (by omega), if_pos (by omega), if_pos h]
  rw [this]; rfl
theorem sp_sz_not {t : Nat} (h : 1 ≤ t) : szl [-1] t = some t := by
  unfold szl
  have : sp_sz (-1) t = some t := by
    unfold sp_sz
    rw [if_pos rfl, if_pos h]
  rw [this]; rfl
def PV (r : PR) (h : Nat) : Prop := r.2.2 = true → (∀ x, x ∈ r.2.1 → VC x) ∧ ∀ s, s + h ≤ 11 → szl r.2.1 s = some (s + 1)
theorem PV.test {n : Nat} {tx : Nat → Nat} {a : Nat} : PV (p_test n tx a) 1 := by
  unfold p_test
  split
  · intro q; cases q
  · next h1 =>
    split
    · intro q; cases q
    · next h2 =>
      split
      · intro q; cases q
      · next h3 =>
        intro _
        have b1 := p_lt_bd (pg n tx a)
        have b2 := p_nm_bd n tx (a + 2)
        obtain ⟨l, hl⟩ := Int.eq_ofNat_of_zero_le (show 0 ≤ p_lt (pg n tx a) by omega)
        obtain ⟨m, hm⟩ := Int.eq_ofNat_of_zero_le (show 0 ≤ p_nm n tx (a + 2) by omega)
        have h4 : 60 ≤ pg n tx (a + 1) ∧ pg n tx (a + 1) ≤ 62 := by omega
        obtain ⟨r, hr⟩ : ∃ r : Nat, pg n tx (a + 1) = 60 + r := ⟨pg n tx (a + 1) - 60, by omega⟩
        have he : (p_lt (pg n tx a) * 3 + ((pg n tx (a + 1) : Int) - 60)) * 100 + p_nm n tx (a + 2) = (((l * 3 + r) * 100 + m : Nat) : Int) := by rw [hl, hm, hr]; omega
        have hv : VC ((p_lt (pg n tx a) * 3 + ((pg n tx (a + 1) : Int) - 60)) * 100 + p_nm n tx (a + 2)) := Or.inr (Or.inr (Or.inr ⟨l, r, m, by omega, by omega, by omega, he⟩))
        refine ⟨fun x hx => ?_, fun s hs => ?_⟩
        · rw [show x = _ from by simpa using hx]; exact hv
        · show szl [_] s = _
          rw [he]
          unfold szl
          have : sp_sz (((l * 3 + r) * 100 + m : Nat) : Int) s = some (s + 1) := by
            unfold sp_sz
            rw [if_neg (by omega), if_neg (by omega), if_pos (by omega)]
          rw [this]; rfl
theorem PV.T {n : Nat} {tx : Nat → Nat} {S : Nat → PR} {h : Nat} (hS : ∀ a, PV (S a) h) : ∀ f a c, (∀ x, x ∈ c → VC x) → ∀ s t, szl c s = some t → 1 ≤ t → t + h ≤ 11 → (p_T n tx S f a c).2.2 = true → (∀ x, x ∈ (p_T n tx S f a c).2.1 → VC x) ∧ szl (p_T n tx S f a c).2.1 s = some t
  | 0, a, c, hc, s, t, h1, h2, h3, _ => ⟨hc, h1⟩
  | f + 1, a, c, hc, s, t, h1, h2, h3, hq => by
    simp only [p_T] at hq ⊢
    split at hq
    · next g1 =>
      rw [if_pos g1]
      split at hq
      · next g2 =>
        rw [if_pos g2]
        obtain ⟨v1, v2⟩ := hS (a + 1) g2
        refine PV.T hS f _ _ (fun x hx => ?_) s t ?_ h2 h3 hq
        · simp only [List.mem_append, List.mem_singleton] at hx
          rcases hx with (hx | hx) | hx
          · exact hc x hx
          · exact v1 x hx
          · exact Or.inr (Or.inl hx)
        · rw [szl_app _ _ s (t + 1) (by rw [szl_app _ _ s t h1]; exact v2 t h3), sp_sz_op (by omega) (Or.inl rfl)]
          rfl
      · cases hq
    · next g1 =>
      rw [if_neg g1]
      exact ⟨hc, h1⟩
theorem PV.E {n : Nat} {tx : Nat → Nat} {S : Nat → PR} {h : Nat} (hS : ∀ a, PV (S a) h) : ∀ f o a c, (∀ x, x ∈ c → VC x) → ∀ s, (o = false → c = []) → (o = true → szl c s = some (s + 1)) → s + h + 2 ≤ 11 → (p_E n tx S f o a c).2.2 = true → (∀ x, x ∈ (p_E n tx S f o a c).2.1 → VC x) ∧ szl (p_E n tx S f o a c).2.1 s = some (s + 1)
  | 0, o, a, c, hc, s, h1, h2, h3, hq => by cases hq
  | f + 1, o, a, c, hc, s, h1, h2, h3, hq => by
    simp only [p_E] at hq ⊢
    split at hq
    · next g1 =>
      rw [if_pos g1]
      obtain ⟨v1, v2⟩ := hS a g1
      have hc2 : ∀ x, x ∈ c ++ (S a).2.1 → VC x := fun x hx => by
        rcases List.mem_append.mp hx with hx | hx
        · exact hc x hx
        · exact v1 x hx
      obtain ⟨t, ht, ht1, ht2, ht3⟩ : ∃ t, szl (c ++ (S a).2.1) s = some t ∧ 1 ≤ t ∧ t + h ≤ 11 ∧ t = s + 1 + (if o = true then 1 else 0) := by
        cases o with
        | false => rw [h1 rfl]; exact ⟨s + 1, v2 s (by omega), by omega, by omega, rfl⟩
        | true => exact ⟨s + 2, by rw [szl_app _ _ s (s + 1) (h2 rfl)]; exact v2 (s + 1) (by omega), by omega, by omega, rfl⟩
      have hT := PV.T (n := n) (tx := tx) hS 100 (S a).1 (c ++ (S a).2.1) hc2 s t ht ht1 ht2
      generalize p_T n tx S 100 (S a).1 (c ++ (S a).2.1) = r at hT hq ⊢
      split at hq
      · next g2 =>
        rw [if_pos g2]
        obtain ⟨w1, w2⟩ := hT g2
        have ho : (∀ x, x ∈ p_or o r.2.1 → VC x) ∧ szl (p_or o r.2.1) s = some (s + 1) := by
          unfold p_or
          cases o with
          | false => rw [if_neg (by decide)]; refine ⟨w1, ?_⟩; rw [w2, ht3]; rfl
          | true =>
            rw [if_pos rfl]
            refine ⟨fun x hx => ?_, ?_⟩
            · rcases List.mem_append.mp hx with hx | hx
              · exact w1 x hx
              · exact Or.inr (Or.inr (Or.inl (by simpa using hx)))
            · rw [szl_app _ _ s t w2, sp_sz_op (by rw [ht3]; rw [if_pos rfl]; omega) (Or.inr rfl), ht3]
              rfl
        split at hq
        · next g3 =>
          rw [if_pos g3]
          exact PV.E hS f true _ _ ho.1 s (fun q => by cases q) (fun _ => ho.2) h3 hq
        · next g3 =>
          rw [if_neg g3]
          exact ho
      · cases hq
    · cases hq
theorem PV.S {n : Nat} {tx : Nat → Nat} : ∀ k, k ≤ 4 → ∀ a, PV (p_S n tx k a) (2 * k + 1)
  | 0, _, a => by
    simp only [p_S]
    split
    · intro q; cases q
    · exact PV.test
  | k + 1, hk, a => by
    simp only [p_S]
    split
    · have e := fun s hs => PV.E (n := n) (tx := tx) (PV.S (n := n) (tx := tx) k (by omega)) 101 false (a + 1) [] (fun x hx => by cases hx) s (fun _ => rfl) (fun q => by cases q) hs
      generalize p_E n tx (p_S n tx k) 101 false (a + 1) [] = t at e ⊢
      split
      · next h2 =>
        split
        · exact fun _ => ⟨(e 0 (by omega) h2).1, fun s hs => (e s (by omega) h2).2⟩
        · intro q; cases q
      · intro q; cases q
    · split
      · have e := PV.S (n := n) (tx := tx) k (by omega) (a + 1)
        generalize p_S n tx k (a + 1) = t at e ⊢
        split
        · next h2 =>
          obtain ⟨e1, e2⟩ := e h2
          refine fun _ => ⟨fun x hx => ?_, fun s hs => ?_⟩
          · rcases List.mem_append.mp hx with hx | hx
            · exact e1 x hx
            · exact Or.inl (by simpa using hx)
          · show szl (_ ++ _) s = _
            rw [szl_app _ _ s (s + 1) (e2 s (by omega)), sp_sz_not (by omega)]
        · intro q; cases q
      · intro q
        obtain ⟨e1, e2⟩ := PV.test q
        exact ⟨e1, fun s hs => e2 s (by omega)⟩

