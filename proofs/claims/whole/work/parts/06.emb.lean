/-! the small memory inside the machine's heap -/
theorem i3_add (a b : Int) : i3 (a + b) = i3 a + i3 b := Int32.ofInt_add _ _
theorem i3_sub (a b : Int) : i3 (a - b) = i3 a - i3 b := Int32.ofInt_sub _ _
theorem i3_mul (a b : Int) : i3 (a * b) = i3 a * i3 b := Int32.ofInt_mul _ _
theorem i3_neg (a : Int) : i3 (-a) = -i3 a := Int32.ofInt_neg _
theorem i3_toInt (z : Int) : (i3 z).toInt = wr z := by
  unfold i3 wr
  rw [Int32.toInt_ofInt]
  simp only [Int.bmod_def, show ((Int32.size : Nat) : Int) = 4294967296 from rfl]
  split <;> omega
theorem i3_of (x : Int32) : i3 x.toInt = x := Int32.ofInt_toInt x
theorem wr_wr (z : Int) : wr (wr z) = wr z := by unfold wr; omega
theorem i3_wr (z : Int) : i3 (wr z) = i3 z := by
  apply Int32.toInt_inj.mp
  rw [i3_toInt, i3_toInt, wr_wr]
theorem i3_inj {a b : Int} : i3 a = i3 b ↔ wr a = wr b := by
  rw [← Int32.toInt_inj, i3_toInt, i3_toInt]
theorem i3_lt {a b : Int} : i3 a < i3 b ↔ wr a < wr b := by
  rw [Int32.lt_iff_toInt_lt, i3_toInt, i3_toInt]
theorem i3_le {a b : Int} : i3 a ≤ i3 b ↔ wr a ≤ wr b := by
  rw [Int32.le_iff_toInt_le, i3_toInt, i3_toInt]
theorem i3_0 : i3 0 = 0 := by decide
theorem wr_0 : wr 0 = 0 := by decide
theorem i3_div (a b : Int) : i3 ((wr a).tdiv (wr b)) = i3 a / i3 b := by
  apply Int32.toInt_inj.mp
  rw [Int32.toInt_div, i3_toInt, i3_toInt, i3_toInt]
  unfold wr
  simp only [Int.bmod_def]
  split <;> omega
theorem i3_rem (a b : Int) : i3 ((wr a).tmod (wr b)) = i3 a - i3 a / i3 b * i3 b := by
  rw [← i3_div, ← i3_wr a, ← i3_wr b, ← i3_mul, ← i3_sub]
  congr 1
  rw [Int.tmod_def, Int.mul_comm]
theorem i3_clamp (z : Int) : (i3 z).toNatClampNeg = (wr z).toNat := by
  show (i3 z).toInt.toNat = _
  rw [i3_toInt]
theorem i3_in {i : Int} {n : Nat} (h0 : 0 ≤ wr i) (h1 : wr i < n) : vp_in (i3 i) n := by
  intro h
  rcases h with h | h
  · rw [show (0 : Int32) = i3 0 from i3_0.symm, i3_lt, wr_0] at h
    omega
  · rw [i3_clamp] at h
    omega
theorem i3_nn {i : Int} (h0 : 0 ≤ wr i) : ¬ i3 i < 0 := by
  rw [show (0 : Int32) = i3 0 from i3_0.symm, i3_lt, wr_0]
  omega
theorem wr_id {z : Int} (h0 : -2147483648 ≤ z) (h1 : z < 2147483648) : wr z = z := by unfold wr; omega
abbrev xG : Type := Nat × (Nat → Nat) × Value × va_G × (Nat → ClassId)
def x_em (g : xG) : xPV → Value
  | .inl z => .int (i3 z)
  | .inr (.inl x) => .long x
  | .inr (.inr k) => if k < 1000 then .ref (g.1 + k) else if k = 1030 then g.2.2.1 else if k = 1031 then .null else .ref (g.2.1 k)
def x_fv (g : xG) (I : Nat → Nat → Int) (k b : Nat) (rs : List (Option Nat)) : Value := match rs[b]? with
  | some (some q) => x_em g (xr q)
  | _ => .int (i3 (I k b))
def x_rq (g : xG) (rs : List (Option Nat)) (j : Nat) : Option Nat := match rs[j]? with
  | some (some q) => if q < 1000 then some (g.1 + q) else none
  | _ => none
def x_ce (g : xG) (m : xMem) (k : Nat) (t : xShp) : va_E :=
  if t.1 < 10 then .inr (t.1, (List.range t.2.1).map (fun b => x_fv g m.2.1 k b t.2.2))
  else if t.1 < 23 then .inl (g.2.2.2.2 t.1, t.2.1, .inl (fun j => i3 (m.2.1 k j)))
  else if t.1 = 23 then .inl (g.2.2.2.2 23, t.2.1, .inr (.inl (fun j => m.2.2 k j)))
  else .inl (g.2.2.2.2 t.1, t.2.1, .inr (.inr (.inr (.inr (x_rq g t.2.2)))))
def x_at (g : xG) (m : xMem) (k : Nat) (t : xShp) (H : Heap) : Prop := va_at g.2.2.2.1 vwCl (g.1 + k, x_ce g m k t) H
def x_E (g : xG) (m : xMem) (H : Heap) : Prop := H.size = g.1 + m.1.length ∧ (∀ k t, m.1[k]? = some t → x_at g m k t H) ∧ ∀ k j, m.1.length ≤ k → m.2.1 k j = 0 ∧ m.2.2 k j = 0
theorem x_P1 {g : xG} {m : xMem} {k : Nat} {t : xShp} {H : Heap} {e : va_E} (h : x_at g m k t H) (he : x_ce g m k t = e) : va_P g.2.2.2.1 vwCl [(g.1 + k, e)] H := by
  intro j q hj
  subst he
  match j, hj with
  | 0, hj => cases hj; exact h
  | j + 1, hj => simp at hj
theorem x_ce_obj {g : xG} {m : xMem} {k : Nat} {t : xShp} (h : t.1 < 10) : x_ce g m k t = .inr (t.1, (List.range t.2.1).map (fun b => x_fv g m.2.1 k b t.2.2)) := by
  unfold x_ce; rw [if_pos h]
theorem x_ce_int {g : xG} {m : xMem} {k : Nat} {t : xShp} (h0 : 10 ≤ t.1) (h : t.1 < 23) : x_ce g m k t = .inl (g.2.2.2.2 t.1, t.2.1, .inl (fun j => i3 (m.2.1 k j))) := by
  unfold x_ce; rw [if_neg (by omega), if_pos h]
theorem x_ce_long {g : xG} {m : xMem} {k : Nat} {t : xShp} (h : t.1 = 23) : x_ce g m k t = .inl (g.2.2.2.2 23, t.2.1, .inr (.inl (fun j => m.2.2 k j))) := by
  unfold x_ce; rw [if_neg (by omega), if_neg (by omega), if_pos h]
theorem x_ce_ref {g : xG} {m : xMem} {k : Nat} {t : xShp} (h : 23 < t.1) : x_ce g m k t = .inl (g.2.2.2.2 t.1, t.2.1, .inr (.inr (.inr (.inr (x_rq g t.2.2))))) := by
  unfold x_ce; rw [if_neg (by omega), if_neg (by omega), if_neg (by omega)]
theorem x_ce_same {g : xG} {m m' : xMem} {k : Nat} {t : xShp} (h : ∀ j, m'.2.1 k j = m.2.1 k j) (h2 : ∀ j, m'.2.2 k j = m.2.2 k j) : x_ce g m' k t = x_ce g m k t := by
  unfold x_ce x_fv
  simp only [h, h2]
theorem x_E_upd {g : xG} {m m' : xMem} {H H1 : Heap} (h : x_E g m H) (hl : m'.1.length = m.1.length) (k : Nat) (ho : ∀ j t, j ≠ k → m'.1[j]? = some t → m.1[j]? = some t ∧ x_ce g m' j t = x_ce g m j t)
    (hn : ∀ t, m'.1[k]? = some t → x_at g m' k t H1) (hf : ∀ a j, m.1.length ≤ a → m'.2.1 a j = m.2.1 a j ∧ m'.2.2 a j = m.2.2 a j) (z : H1.size = H.size) (oq : ∀ q, q ≠ g.1 + k → H1[q]? = H[q]?) : x_E g m' H1 := by
  refine ⟨by rw [z, hl]; exact h.1, fun j t hj => ?_, fun a j ha => ?_⟩
  · by_cases e : j = k
    · subst e; exact hn t hj
    · obtain ⟨h1, h2⟩ := ho j t e hj
      unfold x_at
      rw [h2]
      exact (h.2.1 j t h1).kept (oq _ (by show g.1 + j ≠ g.1 + k; omega))
  · rw [hl] at ha
    rw [(hf a j ha).1, (hf a j ha).2]
    exact h.2.2 a j ha
theorem x_up_ne {I : Nat → Nat → Int} {k j a b : Nat} {v : Int} (h : a ≠ k) : x_up I k j v a b = I a b := by unfold x_up; rw [if_neg h]
theorem x_upL_ne {I : Nat → Nat → Int64} {k j a b : Nat} {v : Int64} (h : a ≠ k) : x_upL I k j v a b = I a b := by unfold x_upL; rw [if_neg h]
theorem x_cp_ne {I : Nat → Nat → Int} {a sp b dp n k j : Nat} (h : k ≠ b) : x_cp I a sp b dp n k j = I k j := by unfold x_cp; rw [if_neg h]
theorem x_cpL_ne {I : Nat → Nat → Int64} {a sp b dp n k j : Nat} (h : k ≠ b) : x_cpL I a sp b dp n k j = I k j := by unfold x_cpL; rw [if_neg h]
theorem x_E_lt {g : xG} {m : xMem} {H : Heap} (h : x_E g m H) {k : Nat} {t : xShp} (hk : m.1[k]? = some t) : g.1 + k < H.size := by
  have := (List.getElem?_eq_some_iff.mp hk).1
  rw [h.1]; omega
/-- an int of one cell written -/
theorem x_E_upI {g : xG} {m : xMem} {H H1 : Heap} (h : x_E g m H) {k b : Nat} {v : Int} {t : xShp} (hk : m.1[k]? = some t)
    (hn : x_at g (m.1, x_up m.2.1 k b v, m.2.2) k t H1) (z : H1.size = H.size) (oq : ∀ q, q ≠ g.1 + k → H1[q]? = H[q]?) : x_E g (m.1, x_up m.2.1 k b v, m.2.2) H1 :=
  x_E_upd h rfl k (fun _ _ hj ht => ⟨ht, x_ce_same (fun _ => x_up_ne hj) (fun _ => rfl)⟩) (fun t' ht' => by cases hk.symm.trans ht'; exact hn)
    (fun a _ ha => ⟨x_up_ne (fun e => by have := (List.getElem?_eq_some_iff.mp hk).1; omega), rfl⟩) z oq
theorem x_E_upL {g : xG} {m : xMem} {H H1 : Heap} (h : x_E g m H) {k b : Nat} {v : Int64} {t : xShp} (hk : m.1[k]? = some t)
    (hn : x_at g (m.1, m.2.1, x_upL m.2.2 k b v) k t H1) (z : H1.size = H.size) (oq : ∀ q, q ≠ g.1 + k → H1[q]? = H[q]?) : x_E g (m.1, m.2.1, x_upL m.2.2 k b v) H1 :=
  x_E_upd h rfl k (fun _ _ hj ht => ⟨ht, x_ce_same (fun _ => rfl) (fun _ => x_upL_ne hj)⟩) (fun t' ht' => by cases hk.symm.trans ht'; exact hn)
    (fun a _ ha => ⟨rfl, x_upL_ne (fun e => by have := (List.getElem?_eq_some_iff.mp hk).1; omega)⟩) z oq
/-- a reference of one cell written: its shape -/
theorem x_E_upR {g : xG} {m : xMem} {H H1 : Heap} (h : x_E g m H) {k : Nat} {t t' : xShp} (hk : m.1[k]? = some t)
    (hn : x_at g m k t' H1) (z : H1.size = H.size) (oq : ∀ q, q ≠ g.1 + k → H1[q]? = H[q]?) : x_E g (m.1.set k t', m.2) H1 := by
  refine x_E_upd h (by simp) k (fun j t2 hj ht => ⟨?_, x_ce_same (fun _ => rfl) (fun _ => rfl)⟩) (fun t2 ht => ?_) (fun a _ ha => ⟨rfl, rfl⟩) z oq
  · have : (m.1.set k t')[j]? = some t2 := ht
    rw [List.getElem?_set_ne (Ne.symm hj)] at this
    exact this
  · have h1 : (m.1.set k t')[k]? = some t2 := ht
    rw [List.getElem?_set_self (List.getElem?_eq_some_iff.mp hk).1] at h1
    cases h1
    exact (show x_at g (m.1.set k t', m.2) k t' H1 from by unfold x_at; rw [x_ce_same (m := m) (m' := (m.1.set k t', m.2)) (fun _ => rfl) (fun _ => rfl)]; exact hn)
/-- cells made behind the others -/
theorem x_E_app {g : xG} {m : xMem} {H H1 : Heap} (h : x_E g m H) (ns : List xShp) (z : H1.size = H.size + ns.length) (oq : ∀ q, q < H.size → H1[q]? = H[q]?)
    (hn : ∀ i t, ns[i]? = some t → x_at g m (m.1.length + i) t H1) : x_E g (m.1 ++ ns, m.2) H1 := by
  refine ⟨by rw [z, h.1]; simp; omega, fun j t hj => ?_, fun a j ha => h.2.2 a j (by simp at ha; omega)⟩
  have hj : (m.1 ++ ns)[j]? = some t := hj
  show va_at _ _ (g.1 + j, x_ce g (m.1 ++ ns, m.2) j t) H1
  rw [x_ce_same (m := m) (m' := (m.1 ++ ns, m.2)) (fun _ => rfl) (fun _ => rfl)]
  by_cases hl : j < m.1.length
  · rw [List.getElem?_append_left hl] at hj
    exact (h.2.1 j t hj).kept (oq _ (by show g.1 + j < H.size; rw [h.1]; omega))
  · rw [List.getElem?_append_right (by omega)] at hj
    have := hn _ t hj
    rw [show m.1.length + (j - m.1.length) = j by omega] at this
    exact this
theorem x_cat_em (g : xG) (hfv : g.2.2.1.category = 1) (v : xPV) : (x_em g v).category = x_cat v := by
  rcases v with z | x | k
  · rfl
  · rfl
  · show (if k < 1000 then Value.ref (g.1 + k) else if k = 1030 then g.2.2.1 else if k = 1031 then .null else .ref (g.2.1 k)).category = 1
    split
    · rfl
    · split
      · exact hfv
      · split <;> rfl
