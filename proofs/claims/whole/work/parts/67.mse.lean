/-! the reference's E beside the plain functions -/
def EXm (sc : List Int) (L : Nat → Nat → Int64) (c : Nat) (w : Int) (I : Nat → Nat → Int) (Q : Option xPV → xMem → Prop) : Prop := x_Ex sc 8 xM_m_takesE 22 [(2, xi w), (0, xr 143), (1, xi (↑c))] [] (xSH, I, L) Q
def pT (t : Bool) : List Nat := if t = true then [38] else []
def pO (o : Bool) : List Nat := if o = true then [124] else []
def eT (t : Bool) : List Int := if t = true then [-38] else []
def eO (o : Bool) : List Int := if o = true then [-124] else []
def ZC (Z : List Nat) : Prop := p_wr Z = Z ∧ p_wc Z = [] ∧ (∀ s, p_sr s Z = Z ∧ p_sc s Z = []) ∧ (∀ x, x ∈ Z → x < 128) ∧ ∀ d w, Z = d :: w → d = 40
theorem ZC.nil : ZC [] := ⟨rfl, rfl, fun _ => ⟨rfl, rfl⟩, (fun x hx => by cases hx), (fun d w h => by cases h)⟩
theorem ZC.op {W : List Nat} (h : ∀ x, x ∈ W → x < 128) : ZC (40 :: W) := by
  have hg : ∀ s, p_go s 40 = false := fun s => by unfold p_go; exact decide_eq_false (by omega)
  refine ⟨by simp only [p_wr]; rw [if_neg (by decide)], by simp only [p_wc]; rw [if_neg (by decide)], fun s => ⟨by simp only [p_sr]; rw [if_neg (by rw [hg]; decide)], by simp only [p_sc]; rw [if_neg (by rw [hg]; decide)]⟩, fun x hx => ?_, fun d w e => by cases e; rfl⟩
  rcases List.mem_cons.mp hx with rfl | hx
  · decide
  · exact h x hx
theorem ZC.wr {Z : List Nat} (h : ZC Z) (t o : Bool) : p_wr (pT t ++ (pO o ++ Z)) = pT t ++ (pO o ++ Z) ∧ p_wc (pT t ++ (pO o ++ Z)) = [] := by
  cases t <;> cases o
  · exact ⟨h.1, h.2.1⟩
  · exact ⟨rfl, rfl⟩
  · exact ⟨rfl, rfl⟩
  · exact ⟨rfl, rfl⟩
theorem ZC.lt {Z : List Nat} (h : ZC Z) (t o : Bool) : ∀ x, x ∈ pT t ++ (pO o ++ Z) → x < 128 := by
  intro x hx
  cases t <;> cases o <;> simp [pT, pO] at hx
  · exact h.2.2.2.1 x hx
  · rcases hx with rfl | hx
    · decide
    · exact h.2.2.2.1 x hx
  · rcases hx with rfl | hx
    · decide
    · exact h.2.2.2.1 x hx
  · rcases hx with rfl | rfl | hx
    · decide
    · decide
    · exact h.2.2.2.1 x hx
theorem ZC.on {Z : List Nat} (t o : Bool) : opn (pT t ++ (pO o ++ Z)) = opn Z := by
  cases t <;> cases o <;> simp [pT, pO, opn]
theorem ZC.s38 {Z : List Nat} (h : ZC Z) (t o : Bool) : p_sr 38 (pT t ++ (pO o ++ Z)) = pO o ++ Z ∧ p_sc 38 (pT t ++ (pO o ++ Z)) = eT t := by
  have h1 := (h.2.2.1 38).1
  have h2 := (h.2.2.1 38).2
  cases t <;> cases o
  · exact ⟨h1, h2⟩
  · exact ⟨rfl, rfl⟩
  · exact ⟨h1, by show -((38 : Nat) : Int) :: p_sc 38 Z = _; rw [h2]; rfl⟩
  · exact ⟨rfl, rfl⟩
theorem ZC.s124 {Z : List Nat} (h : ZC Z) (t o : Bool) : p_sr 124 (pT t ++ (pO o ++ Z)) = Z ∧ p_sc 124 (pT t ++ (pO o ++ Z)) = eT t ++ eO o := by
  have h1 := (h.2.2.1 124).1
  have h2 := (h.2.2.1 124).2
  cases t <;> cases o
  · exact ⟨h1, h2⟩
  · exact ⟨h1, by show -((124 : Nat) : Int) :: p_sc 124 Z = _; rw [h2]; rfl⟩
  · exact ⟨h1, by show -((38 : Nat) : Int) :: p_sc 124 Z = _; rw [h2]; rfl⟩
  · exact ⟨h1, by show -((38 : Nat) : Int) :: -((124 : Nat) : Int) :: p_sc 124 Z = _; rw [h2]; rfl⟩
theorem FRe.refl {b c : Nat} {I : Nat → Nat → Int} : FRe b c I I := fun _ _ _ => rfl
theorem p_or_map (o : Bool) (c : List Int) : (p_or o c).map mcd = c.map mcd ++ eO o := by
  cases o
  · show c.map mcd = _ ++ []; rw [List.append_nil]
  · show (c ++ [-3]).map mcd = _; rw [List.map_append]; rfl
/-- S as the reference goes through it -/
def SSim (sc : List Int) (L : Nat → Nat → Int64) (n : Nat) (tx : Nat → Nat) (b c k : Nat) : Prop := ∀ (a : Nat) (W : List Nat) (rc : List Int) (I : Nat → Nat → Int) (Q : Option xPV → xMem → Prop), RSt I n tx b a rc W → (∀ x, x ∈ W → x < 128) → opn W + k = 4 →
  ((p_S n tx k a).2.2 = true → ∀ I' : Nat → Nat → Int, RSt I' n tx b (p_S n tx k a).1 (rc ++ (p_S n tx k a).2.1.map mcd ++ p_wc W) (p_wr W) → FRe b c I I' → EXm sc L c 0 I' Q) →
  ((p_S n tx k a).2.2 = false → ∀ I' : Nat → Nat → Int, I' 143 15 = (((p_S n tx k a).1 : Nat) : Int) → FRe b c I I' → Q (some (xi 0)) (xSH, I', L)) → EXm sc L c 1 I Q
theorem sim_T {sc : List Int} {L : Nat → Nat → Int64} {n : Nat} {tx : Nat → Nat} {b c k : Nat} (hc : c < 60) (hS : SSim sc L n tx b c k) {Z : List Nat} (hZ : ZC Z) (hk : opn Z + k = 4) (o : Bool) (rc0 : List Int) {Q : Option xPV → xMem → Prop} : ∀ (f a : Nat) (cc : List Int) (t : Bool) (r : List Int) (I : Nat → Nat → Int), RSt I n tx b a (rc0 ++ r) (pT t ++ (pO o ++ Z)) → r ++ eT t = cc.map mcd →
    ((p_T n tx (p_S n tx k) f a cc).2.2 = true → ∀ (I' : Nat → Nat → Int) (t2 : Bool) (r2 : List Int), RSt I' n tx b (p_T n tx (p_S n tx k) f a cc).1 (rc0 ++ r2) (pT t2 ++ (pO o ++ Z)) → r2 ++ eT t2 = (p_T n tx (p_S n tx k) f a cc).2.1.map mcd → FRe b c I I' → EXm sc L c 0 I' Q) →
    ((p_T n tx (p_S n tx k) f a cc).2.2 = false → ∀ I' : Nat → Nat → Int, I' 143 15 = (((p_T n tx (p_S n tx k) f a cc).1 : Nat) : Int) → FRe b c I I' → Q (some (xi 0)) (xSH, I', L)) → EXm sc L c 0 I Q
  | 0, a, cc, t, r, I, hR, hr, kk, kf => kk rfl I t r hR hr FRe.refl
  | f + 1, a, cc, t, r, I, hR, hr, kk, kf => by
    by_cases h1 : pg n tx a = 38
    · have e : p_T n tx (p_S n tx k) (f + 1) a cc = if (p_S n tx k (a + 1)).2.2 = true then p_T n tx (p_S n tx k) f (p_S n tx k (a + 1)).1 (cc ++ (p_S n tx k (a + 1)).2.1 ++ [-2]) else ((p_S n tx k (a + 1)).1, [], false) := by
        simp only [p_T]; rw [if_pos h1]
      refine st_E0 hc hR (hZ.lt t o) (fun d w q => hZ.2.2.2.2 d w (by rw [← q, (hZ.s124 t o).1])) (fun _ I1 R1 f1 => ?_) (fun q => absurd (Or.inl h1) q) (fun q => absurd (Or.inl h1) q) (fun q => absurd (Or.inl h1) q)
      rw [h1, (hZ.s38 t o).1, (hZ.s38 t o).2] at R1
      have hw38 : p_wr (38 :: (pO o ++ Z)) = 38 :: (pO o ++ Z) ∧ p_wc (38 :: (pO o ++ Z)) = [] := hZ.wr true o
      refine hS (a + 1) (38 :: (pO o ++ Z)) (rc0 ++ r ++ eT t) I1 Q R1 (hZ.lt true o) (by rw [show opn (38 :: (pO o ++ Z)) = opn Z from ZC.on true o]; exact hk) (fun h2 I2 R2 f2 => ?_) (fun h2 I2 a2 f2 => ?_)
      · rw [if_pos h2] at e
        rw [hw38.1, hw38.2, List.append_nil] at R2
        have hr2 : (r ++ eT t ++ (p_S n tx k (a + 1)).2.1.map mcd) ++ eT true = (cc ++ (p_S n tx k (a + 1)).2.1 ++ [-2]).map mcd := by
          rw [List.map_append, List.map_append, ← hr]; rfl
        refine sim_T hc hS hZ hk o rc0 f (p_S n tx k (a + 1)).1 (cc ++ (p_S n tx k (a + 1)).2.1 ++ [-2]) true (r ++ eT t ++ (p_S n tx k (a + 1)).2.1.map mcd) I2 (by rw [← List.append_assoc, ← List.append_assoc]; exact R2) hr2 (fun q I3 t3 r3 R3 q3 f3 => ?_) (fun q I3 a3 f3 => ?_)
        · rw [← e] at q R3 q3
          exact kk q I3 t3 r3 R3 q3 ((f1.e.trans f2).trans f3)
        · rw [← e] at q a3
          exact kf q I3 a3 ((f1.e.trans f2).trans f3)
      · rw [if_neg (by rw [h2]; decide)] at e
        exact kf (by rw [e]) I2 (by rw [e]; exact a2) (f1.e.trans f2)
    · have e : p_T n tx (p_S n tx k) (f + 1) a cc = (a, cc, true) := by simp only [p_T]; rw [if_neg h1]
      exact kk (by rw [e]) I t r (by rw [e]; exact hR) (by rw [e]; exact hr) FRe.refl
theorem sim_E {sc : List Int} {L : Nat → Nat → Int64} {n : Nat} {tx : Nat → Nat} {b c k : Nat} (hc : c < 60) (hS : SSim sc L n tx b c k) {Z : List Nat} (hZ : ZC Z) (hk : opn Z + k = 4) (rc0 : List Int) {Q : Option xPV → xMem → Prop} : ∀ (f : Nat) (o : Bool) (a : Nat) (cc : List Int) (I : Nat → Nat → Int), 101 ≤ f + a → RSt I n tx b a (rc0 ++ cc.map mcd) (pO o ++ Z) →
    ((p_E n tx (p_S n tx k) f o a cc).2.2 = true → ∀ (I' : Nat → Nat → Int) (t2 o2 : Bool) (r2 : List Int), RSt I' n tx b (p_E n tx (p_S n tx k) f o a cc).1 (rc0 ++ r2) (pT t2 ++ (pO o2 ++ Z)) → r2 ++ eT t2 ++ eO o2 = (p_E n tx (p_S n tx k) f o a cc).2.1.map mcd → ¬ (pg n tx (p_E n tx (p_S n tx k) f o a cc).1 = 38 ∨ pg n tx (p_E n tx (p_S n tx k) f o a cc).1 = 124) → FRe b c I I' → EXm sc L c 0 I' Q) →
    ((p_E n tx (p_S n tx k) f o a cc).2.2 = false → ∀ I' : Nat → Nat → Int, I' 143 15 = (((p_E n tx (p_S n tx k) f o a cc).1 : Nat) : Int) → FRe b c I I' → Q (some (xi 0)) (xSH, I', L)) → EXm sc L c 1 I Q
  | 0, o, a, cc, I, hf, hR, kk, kf => by
    have h1 := hR.1.2.1
    have h2 := hR.2.2.1
    exfalso; omega
  | f + 1, o, a, cc, I, hf, hR, kk, kf => by
    have hn := hR.1.2.1
    have han := hR.2.2.1
    have hSb : ∀ a, a ≤ n → PB n a (p_S n tx k a) := p_S_bd k
    have hb := hSb a han
    have e : p_E n tx (p_S n tx k) (f + 1) o a cc = p_E n tx (p_S n tx k) (f + 1) o a cc := rfl
    conv at e => rhs; simp only [p_E]
    have hwz := hZ.wr false o
    rw [show pT false ++ (pO o ++ Z) = pO o ++ Z from rfl] at hwz
    refine hS a (pO o ++ Z) (rc0 ++ cc.map mcd) I Q hR (hZ.lt false o) (by rw [show opn (pO o ++ Z) = opn Z from ZC.on false o]; exact hk) (fun h1 I1 R1 f1 => ?_) (fun h1 I1 a1 f1 => ?_)
    · rw [if_pos h1] at e
      rw [hwz.1, hwz.2, List.append_nil, List.append_assoc, ← List.map_append] at R1
      have hb2 := hb.2.2 h1
      have ht := p_T_bd (tx := tx) hSb 100 (p_S n tx k a).1 (cc ++ (p_S n tx k a).2.1) hb.2.1
      refine sim_T hc hS hZ hk o rc0 100 (p_S n tx k a).1 (cc ++ (p_S n tx k a).2.1) false ((cc ++ (p_S n tx k a).2.1).map mcd) I1 R1 (List.append_nil _) (fun h2 I2 t2 r2 R2 q2 f2 => ?_) (fun h2 I2 a2 f2 => ?_)
      · generalize p_T n tx (p_S n tx k) 100 (p_S n tx k a).1 (cc ++ (p_S n tx k a).2.1) = t at e h2 R2 q2 ht
        rw [if_pos h2] at e
        have ht2 := ht.2.2 h2
        have h38 : pg n tx t.1 ≠ 38 := by
          rcases ht2.2 with q | q
          · exact q
          · exfalso; have := ht.2.1; omega
        by_cases h3 : pg n tx t.1 = 124
        · rw [if_pos h3] at e
          refine st_E0 hc R2 (hZ.lt t2 o) (fun d w q => hZ.2.2.2.2 d w (by rw [← q, (hZ.s124 t2 o).1])) (fun _ I3 R3 f3 => ?_) (fun q => absurd (Or.inr h3) q) (fun q => absurd (Or.inr h3) q) (fun q => absurd (Or.inr h3) q)
          rw [h3, (hZ.s124 t2 o).1, (hZ.s124 t2 o).2] at R3
          have hcc : rc0 ++ r2 ++ (eT t2 ++ eO o) = rc0 ++ (p_or o t.2.1).map mcd := by
            rw [p_or_map, ← q2, List.append_assoc, ← List.append_assoc r2]
          rw [hcc] at R3
          refine sim_E hc hS hZ hk rc0 f true (t.1 + 1) (p_or o t.2.1) I3 (by have := ht.1; omega) R3 (fun q I4 t4 o4 r4 R4 q4 g4 f4 => ?_) (fun q I4 a4 f4 => ?_)
          · rw [← e] at q R4 q4 g4
            exact kk q I4 t4 o4 r4 R4 q4 g4 (((f1.trans f2).trans f3.e).trans f4)
          · rw [← e] at q a4
            exact kf q I4 a4 (((f1.trans f2).trans f3.e).trans f4)
        · rw [if_neg h3] at e
          exact kk (by rw [e]) I2 t2 o r2 (by rw [e]; exact R2) (by rw [e, q2]; exact (p_or_map o t.2.1).symm) (by rw [e]; intro q; rcases q with q | q; exact h38 q; exact h3 q) (f1.trans f2)
      · rw [if_neg (by rw [h2]; decide)] at e
        exact kf (by rw [e]) I2 (by rw [e]; exact a2) (f1.trans f2)
    · rw [if_neg (by rw [h1]; decide)] at e
      exact kf (by rw [e]) I1 (by rw [e]; exact a1) f1
theorem SSim.zero {sc : List Int} {L : Nat → Nat → Int64} {n : Nat} {tx : Nat → Nat} {b c : Nat} : SSim sc L n tx b c 0 := by
  intro a W rc I Q hR hcW hop kk kf
  refine st_E1 hR hcW (fun _ q => absurd (by omega) q) (fun q _ => ?_) (fun q h2 I1 R1 f1 => ?_) (fun q h2 I1 a1 f1 => ?_)
  · have e : p_S n tx 0 a = (a, [], false) := by simp only [p_S]; rw [if_pos q]
    exact kf (by rw [e]) I (by rw [e]; exact hR.2.1) FRe.refl
  · have e : p_S n tx 0 a = p_test n tx a := by simp only [p_S]; rw [if_neg q]
    exact kk (by rw [e]; exact h2) I1 (by rw [e]; exact R1) f1.e
  · have e : p_S n tx 0 a = p_test n tx a := by simp only [p_S]; rw [if_neg q]
    exact kf (by rw [e]; exact h2) I1 (by rw [e]; exact a1) f1.e
theorem SSim.succ {sc : List Int} {L : Nat → Nat → Int64} {n : Nat} {tx : Nat → Nat} {b c k : Nat} (hc : c < 60) (hS : SSim sc L n tx b c k) : SSim sc L n tx b c (k + 1) := by
  intro a W rc I Q hR hcW hop kk kf
  have hn := hR.1.2.1
  refine st_E1 hR hcW (fun hor hne I1 R1 f1 => ?_) (fun _ q => by exfalso; omega) (fun q h2 I1 R1 f1 => ?_) (fun q h2 I1 a1 f1 => ?_)
  · by_cases h40 : pg n tx a = 40
    · have e : p_S n tx (k + 1) a = (if (p_E n tx (p_S n tx k) 101 false (a + 1) []).2.2 = true then (if pg n tx (p_E n tx (p_S n tx k) 101 false (a + 1) []).1 = 41 then ((p_E n tx (p_S n tx k) 101 false (a + 1) []).1 + 1, (p_E n tx (p_S n tx k) 101 false (a + 1) []).2.1, true) else ((p_E n tx (p_S n tx k) 101 false (a + 1) []).1, [], false)) else ((p_E n tx (p_S n tx k) 101 false (a + 1) []).1, [], false)) := by
        rw [p_S]; rw [if_pos h40]
      rw [h40] at R1
      have hZ := ZC.op hcW
      have hO1 : opn (40 :: W) = opn W + 1 := by show (if (40 : Nat) = 33 ∨ (40 : Nat) = 40 then 1 else 0) + opn W = _; rw [if_pos (Or.inr rfl)]; omega
      refine sim_E hc hS hZ (by omega) rc 101 false (a + 1) [] I1 (by omega) (by rw [show ([] : List Int).map mcd = [] from rfl, List.append_nil]; exact R1) (fun h2 I2 t2 o2 r2 R2 q2 g2 f2 => ?_) (fun h2 I2 a2 f2 => ?_)
      · generalize p_E n tx (p_S n tx k) 101 false (a + 1) [] = t at e h2 R2 q2 g2
        rw [if_pos h2] at e
        refine st_E0 hc R2 (hZ.lt t2 o2) (fun d w q => hZ.2.2.2.2 d w (by rw [← q, (hZ.s124 t2 o2).1])) (fun q => absurd q g2) (fun _ q => by rw [(hZ.s124 t2 o2).1] at q; cases q) (fun _ _ h41 I3 a3 f3 => ?_) (fun _ w hw h41 I3 R3 f3 => ?_)
        · rw [if_neg h41] at e
          exact kf (by rw [e]) I3 (by rw [e]; exact a3) ((f1.e.trans f2).trans f3)
        · rw [if_pos h41] at e
          have hwW : w = W := by rw [(hZ.s124 t2 o2).1] at hw; cases hw; rfl
          subst hwW
          rw [(hZ.s124 t2 o2).2] at R3
          refine kk (by rw [e]) I3 ?_ ((f1.e.trans f2).trans f3)
          rw [e]
          show RSt I3 n tx b (t.1 + 1) (rc ++ t.2.1.map mcd ++ p_wc w) (p_wr w)
          rw [← q2]
          rw [List.append_assoc rc, List.append_assoc r2, ← List.append_assoc rc] at *
          rw [← List.append_assoc rc]
          exact R3
      · rw [if_neg (by rw [h2]; decide)] at e
        exact kf (by rw [e]) I2 (by rw [e]; exact a2) (f1.e.trans f2)
    · have h33 : pg n tx a = 33 := by omega
      have e : p_S n tx (k + 1) a = (if (p_S n tx k (a + 1)).2.2 = true then ((p_S n tx k (a + 1)).1, (p_S n tx k (a + 1)).2.1 ++ [-1], true) else ((p_S n tx k (a + 1)).1, [], false)) := by
        rw [p_S]; rw [if_neg h40, if_pos h33]
      rw [h33] at R1
      have hO1 : opn (33 :: W) = opn W + 1 := by show (if (33 : Nat) = 33 ∨ (33 : Nat) = 40 then 1 else 0) + opn W = _; rw [if_pos (Or.inl rfl)]; omega
      refine hS (a + 1) (33 :: W) rc I1 Q R1 (fun x hx => by rcases List.mem_cons.mp hx with rfl | hx; decide; exact hcW x hx) (by omega) (fun h2 I2 R2 f2 => ?_) (fun h2 I2 a2 f2 => ?_)
      · rw [if_pos h2] at e
        refine kk (by rw [e]) I2 ?_ (f1.e.trans f2)
        rw [e]
        show RSt I2 n tx b (p_S n tx k (a + 1)).1 (rc ++ ((p_S n tx k (a + 1)).2.1 ++ [-1]).map mcd ++ p_wc W) (p_wr W)
        have hw1 : p_wr (33 :: W) = p_wr W := by simp only [p_wr]; rw [if_pos trivial]
        have hw2 : p_wc (33 :: W) = -33 :: p_wc W := by simp only [p_wc]; rw [if_pos trivial]
        rw [hw1, hw2] at R2
        rw [List.map_append, show [(-1 : Int)].map mcd = [-33] from rfl, ← List.append_assoc rc, List.append_assoc _ [-33]]
        exact R2
      · rw [if_neg (by rw [h2]; decide)] at e
        exact kf (by rw [e]) I2 (by rw [e]; exact a2) (f1.e.trans f2)
  · have e : p_S n tx (k + 1) a = p_test n tx a := by rw [p_S]; rw [if_neg (by omega), if_neg (by omega)]
    exact kk (by rw [e]; exact h2) I1 (by rw [e]; exact R1) f1.e
  · have e : p_S n tx (k + 1) a = p_test n tx a := by rw [p_S]; rw [if_neg (by omega), if_neg (by omega)]
    exact kf (by rw [e]; exact h2) I1 (by rw [e]; exact a1) f1.e
theorem SSim.four {sc : List Int} {L : Nat → Nat → Int64} {n : Nat} {tx : Nat → Nat} {b c : Nat} (hc : c < 60) : SSim sc L n tx b c 4 := SSim.succ hc (SSim.succ hc (SSim.succ hc (SSim.succ hc SSim.zero)))
theorem ct_m_takesE {sc : List Int} {L : Nat → Nat → Int64} {n : Nat} {tx : Nat → Nat} {b a c : Nat} (hc : c < 60) {rc : List Int} {I : Nat → Nat → Int} (hT : TXm I n tx) (ha : I 143 15 = (a : Int)) (han : a ≤ n) (hC : RDm I b rc) (hb : b ≤ 500) (hl : rc.length ≤ a) : x_CQ sc 9 xN_m_takesE [xr 143, xi (↑c)] (xSH, I, L) (fun r m' => r = some (xi (x_b ((p_E n tx (p_S n tx 4) 101 false a []).2.2 = true))) ∧ ∃ I', m' = (xSH, I', L) ∧ I' 143 15 = (((p_E n tx (p_S n tx 4) 101 false a []).1 : Nat) : Int) ∧ (∀ k j, ¬ ((k = 143 ∧ (j = 15 ∨ j = 16 ∨ j = 25 ∨ j = 26 ∨ j = 27)) ∨ (k = 157 ∧ b ≤ j ∧ j < b + 100) ∨ k = 158 ∨ ((k = 155 ∨ k = 156) ∧ j = c)) → I' k j = I k j) ∧ ((p_E n tx (p_S n tx 4) 101 false a []).2.2 = true → RDm I' b (rc ++ (p_E n tx (p_S n tx 4) 101 false a []).2.1.map mcd) ∧ I' 155 c = ((b + rc.length : Nat) : Int) ∧ I' 156 c = ((b + (rc ++ (p_E n tx (p_S n tx 4) 101 false a []).2.1.map mcd).length : Nat) : Int))) := by
  have hn := hT.2.1
  refine x_CQ.of (M := xM_m_takesE) rfl (Nat.le_of_ble_eq_true rfl) ?_
  refine ex_st 2 (pc' := 2) (ls' := [(0, xr 143), (1, xi (↑c))]) (st' := [xi 0, xr 143]) rfl ?_
  refine ex_pfi rfl (by decide) (rfl : xSH[143]? = some _) (by decide) rfl (by decide) (fun h => by cases h) ?_
  refine ex_st 2 (pc' := 7) (ls' := [(0, xr 143), (1, xi (↑c))]) (st' := [xi 0, xr 143]) rfl ?_
  refine ex_pfi rfl (by decide) (rfl : xSH[143]? = some _) (by decide) rfl (by decide) (fun h => by cases h) ?_
  refine ex_st 5 (pc' := 19) (ls' := [(0, xr 143), (1, xi (↑c))]) (st' := [xi ((x_up (x_up I 143 26 0) 143 27 0) 143 25), xi (↑c), xr 155]) rfl ?_
  rw [x_up_far (k := 143) (j := 25) (by decide), x_up_far (k := 143) (j := 25) (by decide), hC.1]
  refine ex_iast (j := c) rfl (by decide) (rfl : xSH[155]? = some _) rfl (by omega) (by decide) ?_
  generalize hM : x_up (x_up (x_up I 143 26 0) 143 27 0) 155 c (((b + rc.length : Nat)) : Int) = I1
  have g1 : ∀ k j, ¬ ((k = 143 ∧ (j = 26 ∨ j = 27)) ∨ (k = 155 ∧ j = c)) → I1 k j = I k j := fun k j hk => by rw [← hM, x_up_far (by omega), x_up_far (by omega), x_up_far (by omega)]
  have v1 : I1 155 c = ((b + rc.length : Nat) : Int) := by rw [← hM, x_up_at]
  refine ex_st 2 (pc' := 22) (ls' := [(2, xi 1), (0, xr 143), (1, xi (↑c))]) (st' := []) rfl ?_
  have R1 : RSt I1 n tx b a rc [] := ⟨hT.fr (g1 _ _ (by omega)) (fun j => g1 _ _ (by omega)), by rw [g1 _ _ (by omega)]; exact ha, han, hC.fr (g1 _ _ (by omega)) (fun j => g1 _ _ (by omega)), hb, by rw [← hM, x_up_far (by omega), x_up_far (by decide), x_up_at]; rfl, trivial, by rw [← hM, x_up_far (by omega), x_up_at]; rfl, by show 0 + rc.length ≤ a; omega⟩
  have fin : ∀ I', FRe b c I1 I' → ∀ k j, ¬ ((k = 143 ∧ (j = 15 ∨ j = 16 ∨ j = 25 ∨ j = 26 ∨ j = 27)) ∨ (k = 157 ∧ b ≤ j ∧ j < b + 100) ∨ k = 158 ∨ ((k = 155 ∨ k = 156) ∧ j = c)) → I' k j = I k j := fun I' f k j hk => by rw [f k j (by omega), g1 k j (by omega)]
  refine sim_E hc (SSim.four hc) ZC.nil (by rfl) rc 101 false a [] I1 (by omega) (by rw [show ([] : List Int).map mcd = [] from rfl, List.append_nil]; exact R1) (fun h2 I2 t2 o2 r2 R2 q2 g2 f2 => ?_) (fun h2 I2 a2 f2 => ?_)
  · have hs := ZC.nil.s124 t2 o2
    refine st_E0 hc R2 (ZC.nil.lt t2 o2) (fun d w q => by rw [hs.1] at q; cases q) (fun q => absurd q g2) (fun _ _ I3 R3 v3 f3 => ?_) (fun _ q => absurd hs.1 q) (fun _ w q => by rw [hs.1] at q; cases q)
    rw [hs.2] at R3 v3
    have hcc : rc ++ r2 ++ (eT t2 ++ eO o2) = rc ++ (p_E n tx (p_S n tx 4) 101 false a []).2.1.map mcd := by rw [← q2]; simp [List.append_assoc]
    rw [hcc] at R3 v3
    have f13 := f2.trans f3
    exact ⟨by unfold x_b; rw [if_pos h2], I3, rfl, R3.2.1, fin I3 f13, fun _ => ⟨R3.2.2.2.1, by rw [f13 _ _ (by omega)]; exact v1, v3⟩⟩
  · exact ⟨by unfold x_b; rw [if_neg (by rw [h2]; decide)], I2, rfl, a2, fin I2 f2, fun q => by rw [h2] at q; cases q⟩

