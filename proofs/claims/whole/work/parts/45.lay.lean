/-! the reference's ballot -/
theorem MT.fr {I I' : Nat → Nat → Int} {cc : Nat} {cd we : Nat → Int} {en : Nat → Nat} {qv : Int} (h : MT I cc cd we en qv) (hf : ∀ k j, ¬ x_ms k j → I' k j = I k j) : MT I' cc cd we en qv := by
  have e13 : I' 143 13 = I 143 13 := hf _ _ (by unfold x_ms; omega)
  have e152 : ∀ j, I' 152 j = I 152 j := fun j => hf _ _ (by unfold x_ms; omega)
  have e153 : ∀ j, I' 153 j = I 153 j := fun j => hf _ _ (by unfold x_ms; omega)
  have e154 : ∀ j, I' 154 j = I 154 j := fun j => hf _ _ (by unfold x_ms; omega)
  have e155 : ∀ j, I' 155 j = I 155 j := fun j => hf _ _ (by unfold x_ms; omega)
  have e156 : ∀ j, I' 156 j = I 156 j := fun j => hf _ _ (by unfold x_ms; omega)
  have e157 : ∀ j, I' 157 j = I 157 j := fun j => hf _ _ (by unfold x_ms; omega)
  unfold MT MC at *
  simp only [e13, e152, e153, e154, e155, e156, e157]
  exact h
def LKm (I : Nat → Nat → Int) (c : Nat) (lk : Nat → Nat → Int) : Prop := ∀ p x, p < c → x < 5 → I 161 (5 * p + x) = lk p x ∧ x_R (lk p x)
def BMm (I : Nat → Nat → Int) (B : Nat → Nat → Bool) : Prop := ∀ x y, x < 5 → y < 5 → I 162 (5 * x + y) = x_b (B x y = true)
theorem LKm.fr {I I' : Nat → Nat → Int} {c : Nat} {lk : Nat → Nat → Int} (h : LKm I c lk) (hf : ∀ j, I' 161 j = I 161 j) : LKm I' c lk := fun p x hp hx => by rw [hf]; exact h p x hp hx
theorem BMm.fr {I I' : Nat → Nat → Int} {B : Nat → Nat → Bool} (h : BMm I B) (hf : ∀ j, I' 162 j = I 162 j) : BMm I' B := fun x y hx hy => by rw [hf]; exact h x y hx hy
theorem sp_lead_self {lk : Nat → Nat → Int} {vt : Nat → Int} {q : Int} {c s x : Nat} (hq : 0 ≤ q) : sp_lead lk vt q c s x x = false := by
  unfold sp_lead
  rw [decide_eq_false_iff_not]
  omega

theorem lp_layI {sc : List Int} {I : Nat → Nat → Int} {L : Nat → Nat → Int64} {c : Nat} {kd : Nat → Nat} {vv vo aw : Nat → Int} {ba ro : Nat → Nat → Int} {egg : Int} {se : Nat} (hM : MW I c kd vv vo aw ba ro egg se) {cc : Nat} {cd we : Nat → Int} {en : Nat → Nat} {qv : Int} (hT : MT I cc cd we en qv) {Q : Option xPV → xMem → Prop} {p : Nat} (hp : p < c) (x : Nat) (hx : x ≤ 5) (kk : ∀ I' : Nat → Nat → Int, (∀ y, x ≤ y → y < 5 → I' 161 (5 * p + y) = (sp_lk kd vv ba ro egg se cd we en cc) p y) → (∀ k j, ¬ (k = 160 ∨ (k = 161 ∧ 5 * p + x ≤ j ∧ j < 5 * p + 5)) → I' k j = I k j) → x_Ex sc 4 xM_m_layLikes 39 [(2, xi 5), (1, xi (↑p)), (0, xr 143)] [] (xSH, I', L) Q) : x_Ex sc 4 xM_m_layLikes 12 [(2, xi (↑x)), (1, xi (↑p)), (0, xr 143)] [] (xSH, I, L) Q := by
  obtain ⟨hc, hc6, hegg, hegb, hse, hse5, hab, hp8⟩ := id hM
  refine ex_st 2 (pc' := 14) (ls' := [(2, xi (↑x)), (1, xi (↑p)), (0, xr 143)]) (st' := [xi 5, xi (↑x)]) rfl ?_
  refine ex_ic rfl (by first | omega | (constructor <;> omega) | assumption | exact x_bR _) (by decide) (fun (h0 : ((5 : Int)) ≤ (↑x : Int)) => ?_) (fun (h0 : ¬ ((5 : Int)) ≤ (↑x : Int)) => ?_)
  · obtain rfl : x = 5 := by omega
    exact kk I (fun y a b => by omega) (fun _ _ _ => rfl)
  · refine ex_st 10 (pc' := 29) (ls' := [(2, xi (↑x)), (1, xi (↑p)), (0, xr 143)]) (st' := [xi (↑x), xi (↑p), xr 143, xi ((5 * (↑p)) + (↑x)), xr 161]) rfl ?_
    refine ex_callQ (ct_m_likes (L := L) hM hT hp (by omega) (fun _ _ _ => rfl)) (by decide) rfl ⟨rfl, rfl, rfl⟩ ⟨Nat.le_of_ble_eq_true rfl, rfl, rfl⟩ (Nat.le_of_ble_eq_true rfl) rfl (fun ra m2 hQ => ?_)
    obtain ⟨rfl, I1, rfl, h9⟩ := hQ
    refine ex_iast (j := ((5 * (p)) + (x))) rfl (by decide) (rfl : xSH[161]? = some _) (by omega) (by omega) (by decide) ?_
    refine ex_st 2 (pc' := 12) (ls' := [(2, xi ((↑x) + 1)), (1, xi (↑p)), (0, xr 143)]) (st' := []) rfl ?_
    refine lp_layI (hM.fr (fun k j hk => ?_)) (hT.fr (fun k j hk => ?_)) hp (x + 1) (by omega) (fun I' g1 g2 => kk I' (fun y hy1 hy2 => ?_) (fun k j hk => ?_))
    · unfold x_ms at hk; rw [x_up_far (by omega), h9 _ _ (by omega)]
    · unfold x_ms at hk; rw [x_up_far (by omega), h9 _ _ (by omega)]
    · by_cases e : y = x
      · subst e; rw [g2 _ _ (by omega), x_up_at]
      · exact g1 y (by omega) hy2
    · rw [g2 _ _ (by omega), x_up_far (by omega), h9 _ _ (by omega)]
termination_by 5 - x
decreasing_by all_goals omega
theorem lp_layO {sc : List Int} {I : Nat → Nat → Int} {L : Nat → Nat → Int64} {c : Nat} {kd : Nat → Nat} {vv vo aw : Nat → Int} {ba ro : Nat → Nat → Int} {egg : Int} {se : Nat} (hM : MW I c kd vv vo aw ba ro egg se) {cc : Nat} {cd we : Nat → Int} {en : Nat → Nat} {qv : Int} (hT : MT I cc cd we en qv) {Q : Option xPV → xMem → Prop} (p : Nat) (hp : p ≤ c) (hL : ∀ q x, q < p → x < 5 → I 161 (5 * q + x) = (sp_lk kd vv ba ro egg se cd we en cc) q x) (kk : ∀ I' : Nat → Nat → Int, (∀ q x, q < c → x < 5 → I' 161 (5 * q + x) = (sp_lk kd vv ba ro egg se cd we en cc) q x) → (∀ k j, ¬ (k = 160 ∨ k = 161) → I' k j = I k j) → Q none (xSH, I', L)) : x_Ex sc 4 xM_m_layLikes 2 [(1, xi (↑p)), (0, xr 143)] [] (xSH, I, L) Q := by
  obtain ⟨hc, hc6, hegg, hegb, hse, hse5, hab, hp8⟩ := id hM
  refine ex_st 3 (pc' := 7) (ls' := [(1, xi (↑p)), (0, xr 143)]) (st' := [xi (I 143 0), xi (↑p)]) rfl ?_
  rw [hc]
  refine ex_ic rfl (by first | omega | (constructor <;> omega) | assumption | exact x_bR _) (by first | omega | (constructor <;> omega) | assumption | exact x_bR _) (fun (h0 : (↑c : Int) ≤ (↑p : Int)) => ?_) (fun (h0 : ¬ (↑c : Int) ≤ (↑p : Int)) => ?_)
  · refine ex_retv rfl rfl ?_
    exact kk I (fun q x hq hx => hL q x (by omega) hx) (fun _ _ _ => rfl)
  · refine ex_st 2 (pc' := 12) (ls' := [(2, xi 0), (1, xi (↑p)), (0, xr 143)]) (st' := []) rfl ?_
    refine ex_pm [(2, xi 0), (1, xi (↑p)), (0, xr 143)] (fun i => by rcases i with _ | _ | _ | _ | _ | _ | _ | _ | _ | i <;> first | (right; rfl) | (left; rfl)) ?_
    refine lp_layI hM hT (by omega) 0 (by decide) (fun I1 u1 u2 => ?_)
    refine ex_st 2 (pc' := 2) (ls' := [(1, xi ((↑p) + 1)), (2, xi 5), (0, xr 143)]) (st' := []) rfl ?_
    refine ex_pm [(1, xi (↑p + 1)), (0, xr 143)] (fun i => by rcases i with _ | _ | _ | _ | _ | _ | _ | _ | _ | i <;> first | (right; rfl) | (left; rfl)) ?_
    refine lp_layO (hM.fr (fun k j hk => ?_)) (hT.fr (fun k j hk => ?_)) (p + 1) (by omega) (fun q x hq hx => ?_) (fun I' g1 g2 => kk I' g1 (fun k j hk => ?_))
    · unfold x_ms at hk; exact u2 _ _ (by omega)
    · unfold x_ms at hk; exact u2 _ _ (by omega)
    · by_cases e : q = p
      · subst e; exact u1 x (by omega) hx
      · rw [u2 _ _ (by omega)]; exact hL q x (by omega) hx
    · rw [g2 _ _ hk]; exact u2 _ _ (by omega)
termination_by c - p
decreasing_by all_goals omega
theorem ct_m_layLikes {sc : List Int} {I : Nat → Nat → Int} {L : Nat → Nat → Int64} {c : Nat} {kd : Nat → Nat} {vv vo aw : Nat → Int} {ba ro : Nat → Nat → Int} {egg : Int} {se : Nat} (hM : MW I c kd vv vo aw ba ro egg se) {cc : Nat} {cd we : Nat → Int} {en : Nat → Nat} {qv : Int} (hT : MT I cc cd we en qv) : x_CQ sc 5 xN_m_layLikes [xr 143] (xSH, I, L) (fun r m' => r = none ∧ ∃ I', m' = (xSH, I', L) ∧ LKm I' c (sp_lk kd vv ba ro egg se cd we en cc) ∧ ∀ k j, ¬ (k = 160 ∨ k = 161) → I' k j = I k j) := by
  refine x_CQ.of (M := xM_m_layLikes) rfl (Nat.le_of_ble_eq_true rfl) ?_
  refine ex_st 2 (pc' := 2) (ls' := [(1, xi 0), (0, xr 143)]) (st' := []) rfl ?_
  exact lp_layO hM hT 0 (by omega) (fun q x hq hx => by omega) (fun I' g1 g2 => ⟨rfl, I', rfl, fun p x hp hx => ⟨g1 p x hp hx, sp_lk_R2 hM hT hp hx⟩, g2⟩)
theorem lp_mvf {sc : List Int} {I : Nat → Nat → Int} {L : Nat → Nat → Int64} {c : Nat} {kd : Nat → Nat} {vv vo aw : Nat → Int} {ba ro : Nat → Nat → Int} {egg : Int} {se : Nat} (hM : MW I c kd vv vo aw ba ro egg se) {lk : Nat → Nat → Int} (hL : LKm I c lk) {s g : Nat} (hg : g < 64) (hs : ∀ p, p < c → s.testBit p = !g.testBit p) {x y : Nat} (hx : x < 5) (hy : y < 5) (p : Nat) (hp : p ≤ c) : x_Ex sc 1 xM_m_votesFor 6 [(5, xi (↑p)), (4, xi (sp_for lk vo s x y p)), (0, xr 143), (1, xi (↑x)), (2, xi (↑y)), (3, xi (↑g))] [] (xSH, I, L) (fun r m' => r = some (xi (sp_for lk vo s x y c)) ∧ m' = (xSH, I, L)) := by
  obtain ⟨hc, hc6, hegg, hegb, hse, hse5, hab, hp8⟩ := id hM
  refine ex_st 3 (pc' := 12) (ls' := [(5, xi (↑p)), (4, xi (sp_for lk vo s x y p)), (0, xr 143), (1, xi (↑x)), (2, xi (↑y)), (3, xi (↑g))]) (st' := [xi (I 143 0), xi (↑p)]) rfl ?_
  rw [hc]
  refine ex_ic rfl (by first | omega | (constructor <;> omega) | exact (hL p _ (by omega) (by assumption)).2) (by first | omega | (constructor <;> omega) | exact (hL p _ (by omega) (by assumption)).2) (fun (h0 : (↑c : Int) ≤ (↑p : Int)) => ?_) (fun (h0 : ¬ (↑c : Int) ≤ (↑p : Int)) => ?_)
  · refine ex_st 1 (pc' := 74) (ls' := [(5, xi (↑p)), (4, xi (sp_for lk vo s x y p)), (0, xr 143), (1, xi (↑x)), (2, xi (↑y)), (3, xi (↑g))]) (st' := [xi (sp_for lk vo s x y p)]) rfl ?_
    refine ex_reti rfl rfl ?_
    obtain rfl : p = c := by omega
    exact ⟨rfl, rfl⟩
  · refine ex_st 4 (pc' := 21) (ls' := [(5, xi (↑p)), (4, xi (sp_for lk vo s x y p)), (0, xr 143), (1, xi (↑x)), (2, xi (↑y)), (3, xi (↑g))]) (st' := [xi (↑p), xi (↑g), xr 143, xi (sp_for lk vo s x y p)]) rfl ?_
    refine ex_call (ct_m_has hg (by omega)) (by decide) rfl ⟨rfl, rfl, rfl⟩ ⟨Nat.le_of_ble_eq_true rfl, rfl, rfl⟩ (Nat.le_of_ble_eq_true rfl) rfl ?_
    refine ex_bne rfl (fun h1 => ?_) (fun h1 => ?_)
    · refine ex_st 5 (pc' := 6) (ls' := [(5, xi ((↑p) + 1)), (4, xi ((sp_for lk vo s x y p) + 0)), (0, xr 143), (1, xi (↑x)), (2, xi (↑y)), (3, xi (↑g))]) (st' := []) rfl ?_
      have h9 := lp_mvf (sc := sc) (L := L) hM hL hg hs hx hy (p + 1) (by omega)
      rw [show sp_for lk vo s x y (p + 1) = sp_for lk vo s x y p + 0 from by show _ + _ = _; rw [if_neg (by rw [hs p (by omega)]; simp_all <;> omega)]] at h9
      exact h9
    · refine ex_st 7 (pc' := 37) (ls' := [(5, xi (↑p)), (4, xi (sp_for lk vo s x y p)), (0, xr 143), (1, xi (↑x)), (2, xi (↑y)), (3, xi (↑g))]) (st' := [xi ((5 * (↑p)) + (↑x)), xr 161, xi (sp_for lk vo s x y p)]) rfl ?_
      refine ex_iald (j := ((5 * (p)) + (x))) rfl (by decide) (rfl : xSH[161]? = some _) (by omega) (by omega) (by decide) ?_
      rw [(hL p x (by omega) hx).1]
      refine ex_st 7 (pc' := 48) (ls' := [(5, xi (↑p)), (4, xi (sp_for lk vo s x y p)), (0, xr 143), (1, xi (↑x)), (2, xi (↑y)), (3, xi (↑g))]) (st' := [xi ((5 * (↑p)) + (↑y)), xr 161, xi (lk p x), xi (sp_for lk vo s x y p)]) rfl ?_
      refine ex_iald (j := ((5 * (p)) + (y))) rfl (by decide) (rfl : xSH[161]? = some _) (by omega) (by omega) (by decide) ?_
      rw [(hL p y (by omega) hy).1]
      refine ex_ic rfl (by first | omega | (constructor <;> omega) | exact (hL p _ (by omega) (by assumption)).2) (by first | omega | (constructor <;> omega) | exact (hL p _ (by omega) (by assumption)).2) (fun (h2 : (lk p x) ≤ (lk p y)) => ?_) (fun (h2 : ¬ (lk p x) ≤ (lk p y)) => ?_)
      · refine ex_st 5 (pc' := 6) (ls' := [(5, xi ((↑p) + 1)), (4, xi ((sp_for lk vo s x y p) + 0)), (0, xr 143), (1, xi (↑x)), (2, xi (↑y)), (3, xi (↑g))]) (st' := []) rfl ?_
        have h9 := lp_mvf (sc := sc) (L := L) hM hL hg hs hx hy (p + 1) (by omega)
        rw [show sp_for lk vo s x y (p + 1) = sp_for lk vo s x y p + 0 from by show _ + _ = _; rw [if_neg (by rw [hs p (by omega)]; simp_all <;> omega)]] at h9
        exact h9
      · refine ex_st 3 (pc' := 58) (ls' := [(5, xi (↑p)), (4, xi (sp_for lk vo s x y p)), (0, xr 143), (1, xi (↑x)), (2, xi (↑y)), (3, xi (↑g))]) (st' := [xi (↑p), xr 146, xi (sp_for lk vo s x y p)]) rfl ?_
        refine ex_iald (j := p) rfl (by decide) (rfl : xSH[146]? = some _) (by omega) (by omega) (by decide) ?_
        rw [(hp8 p (by omega)).2.2.2.2.1]
        refine ex_st 5 (pc' := 6) (ls' := [(5, xi ((↑p) + 1)), (4, xi ((sp_for lk vo s x y p) + (vo p))), (0, xr 143), (1, xi (↑x)), (2, xi (↑y)), (3, xi (↑g))]) (st' := []) rfl ?_
        have h9 := lp_mvf (sc := sc) (L := L) hM hL hg hs hx hy (p + 1) (by omega)
        rw [show sp_for lk vo s x y (p + 1) = sp_for lk vo s x y p + vo p from by show _ + _ = _; rw [if_pos ⟨by rw [hs p (by omega)]; simp_all, by omega⟩]] at h9
        exact h9
termination_by c - p
decreasing_by all_goals omega
theorem ct_m_votesFor {sc : List Int} {I : Nat → Nat → Int} {L : Nat → Nat → Int64} {c : Nat} {kd : Nat → Nat} {vv vo aw : Nat → Int} {ba ro : Nat → Nat → Int} {egg : Int} {se : Nat} (hM : MW I c kd vv vo aw ba ro egg se) {lk : Nat → Nat → Int} (hL : LKm I c lk) {s g : Nat} (hg : g < 64) (hs : ∀ p, p < c → s.testBit p = !g.testBit p) {x y : Nat} (hx : x < 5) (hy : y < 5) : x_CE sc 2 xN_m_votesFor [xr 143, xi (↑x), xi (↑y), xi (↑g)] (xSH, I, L) (some (xi (sp_for lk vo s x y c))) (xSH, I, L) := by
  refine x_CE.of (M := xM_m_votesFor) rfl (Nat.le_of_ble_eq_true rfl) ?_
  refine ex_st 4 (pc' := 6) (ls' := [(5, xi 0), (4, xi 0), (0, xr 143), (1, xi (↑x)), (2, xi (↑y)), (3, xi (↑g))]) (st' := []) rfl ?_
  exact lp_mvf hM hL hg hs hx hy 0 (by omega)
theorem ct_m_beats {sc : List Int} {I : Nat → Nat → Int} {L : Nat → Nat → Int64} {c : Nat} {kd : Nat → Nat} {vv vo aw : Nat → Int} {ba ro : Nat → Nat → Int} {egg : Int} {se : Nat} (hM : MW I c kd vv vo aw ba ro egg se) {cc : Nat} {cd we : Nat → Int} {en : Nat → Nat} {qv : Int} (hT : MT I cc cd we en qv) {lk : Nat → Nat → Int} (hL : LKm I c lk) {s g : Nat} (hg : g < 64) (hs : ∀ p, p < c → s.testBit p = !g.testBit p) {x y : Nat} (hx : x < 5) (hy : y < 5) : x_CE sc 3 xN_m_beats [xr 143, xi (↑x), xi (↑y), xi (↑g)] (xSH, I, L) (some (xi (x_b (sp_lead lk vo qv c s x y = true)))) (xSH, I, L) := by
  obtain ⟨hc, hc6, hegg, hegb, hse, hse5, hab, hp8⟩ := id hM
  have hvb : ∀ p, p < c → 0 ≤ vo p ∧ vo p ≤ 9 := fun p hp => (hp8 p hp).2.2.2.2.2.1
  have b1 := sp_for_bd (lk := lk) (s := s) (x := x) (y := y) hvb
  have b2 := sp_for_bd (lk := lk) (s := s) (x := y) (y := x) hvb
  have hqb := hT.2.2.1
  refine x_CE.of (M := xM_m_beats) rfl (Nat.le_of_ble_eq_true rfl) ?_
  refine ex_st 4 (pc' := 4) (ls' := [(0, xr 143), (1, xi (↑x)), (2, xi (↑y)), (3, xi (↑g))]) (st' := [xi (↑g), xi (↑y), xi (↑x), xr 143]) rfl ?_
  refine ex_call (ct_m_votesFor hM hL hg hs hx hy) (by decide) rfl ⟨rfl, rfl, rfl⟩ ⟨Nat.le_of_ble_eq_true rfl, rfl, rfl⟩ (Nat.le_of_ble_eq_true rfl) rfl ?_
  refine ex_st 4 (pc' := 11) (ls' := [(0, xr 143), (1, xi (↑x)), (2, xi (↑y)), (3, xi (↑g))]) (st' := [xi (↑g), xi (↑x), xi (↑y), xr 143, xi (sp_for lk vo s x y c)]) rfl ?_
  refine ex_call (ct_m_votesFor hM hL hg hs hy hx) (by decide) rfl ⟨rfl, rfl, rfl⟩ ⟨Nat.le_of_ble_eq_true rfl, rfl, rfl⟩ (Nat.le_of_ble_eq_true rfl) rfl ?_
  refine ex_st 2 (pc' := 16) (ls' := [(0, xr 143), (1, xi (↑x)), (2, xi (↑y)), (3, xi (↑g))]) (st' := [xr 143, xi ((sp_for lk vo s x y c) - (sp_for lk vo s y x c))]) rfl ?_
  refine ex_call (ct_m_quota hT) (by decide) rfl ⟨rfl, rfl, rfl⟩ ⟨Nat.le_of_ble_eq_true rfl, rfl, rfl⟩ (Nat.le_of_ble_eq_true rfl) rfl ?_
  refine ex_ic rfl (by first | omega | (constructor <;> omega) | assumption | exact x_bR _) (by first | omega | (constructor <;> omega) | assumption | exact x_bR _) (fun (h0 : ((sp_for lk vo s x y c) - (sp_for lk vo s y x c)) ≤ qv) => ?_) (fun (h0 : ¬ ((sp_for lk vo s x y c) - (sp_for lk vo s y x c)) ≤ qv) => ?_)
  · refine ex_st 1 (pc' := 27) (ls' := [(0, xr 143), (1, xi (↑x)), (2, xi (↑y)), (3, xi (↑g))]) (st' := [xi 0]) rfl ?_
    refine ex_retz rfl (Or.inl rfl) rfl ?_
    refine ⟨?_, rfl⟩
    unfold x_b sp_lead; rw [if_neg (by rw [decide_eq_true_eq]; omega)]
  · refine ex_st 2 (pc' := 27) (ls' := [(0, xr 143), (1, xi (↑x)), (2, xi (↑y)), (3, xi (↑g))]) (st' := [xi 1]) rfl ?_
    refine ex_retz rfl (Or.inr rfl) rfl ?_
    refine ⟨?_, rfl⟩
    unfold x_b sp_lead; rw [if_pos (by rw [decide_eq_true_eq]; omega)]
theorem lp_mba {sc : List Int} {I : Nat → Nat → Int} {L : Nat → Nat → Int64} {c : Nat} {kd : Nat → Nat} {vv vo aw : Nat → Int} {ba ro : Nat → Nat → Int} {egg : Int} {se : Nat} (hM : MW I c kd vv vo aw ba ro egg se) {cc : Nat} {cd we : Nat → Int} {en : Nat → Nat} {qv : Int} (hT : MT I cc cd we en qv) {lk : Nat → Nat → Int} (hL : LKm I c lk) {s g : Nat} (hg : g < 64) (hs : ∀ p, p < c → s.testBit p = !g.testBit p) {x : Nat} (hx : x < 5) (y : Nat) (hy : y ≤ 5) (hac : sp_all lk vo qv c s x y = true) : x_Ex sc 3 xM_m_beatsAll 2 [(3, xi (↑y)), (0, xr 143), (1, xi (↑x)), (2, xi (↑g))] [] (xSH, I, L) (fun r m' => r = some (xi (x_b (sp_all lk vo qv c s x 5 = true))) ∧ m' = (xSH, I, L)) := by
  refine ex_st 2 (pc' := 4) (ls' := [(3, xi (↑y)), (0, xr 143), (1, xi (↑x)), (2, xi (↑g))]) (st' := [xi 5, xi (↑y)]) rfl ?_
  refine ex_ic rfl (by first | omega | (constructor <;> omega) | assumption | exact x_bR _) (by decide) (fun (h0 : ((5 : Int)) ≤ (↑y : Int)) => ?_) (fun (h0 : ¬ ((5 : Int)) ≤ (↑y : Int)) => ?_)
  · refine ex_st 1 (pc' := 31) (ls' := [(3, xi (↑y)), (0, xr 143), (1, xi (↑x)), (2, xi (↑g))]) (st' := [xi 1]) rfl ?_
    refine ex_retz rfl (Or.inr rfl) rfl ?_
    obtain rfl : y = 5 := by omega
    exact ⟨by unfold x_b; rw [if_pos hac], rfl⟩
  · refine ex_st 2 (pc' := 9) (ls' := [(3, xi (↑y)), (0, xr 143), (1, xi (↑x)), (2, xi (↑g))]) (st' := [xi (↑x), xi (↑y)]) rfl ?_
    refine ex_ic rfl (by first | omega | (constructor <;> omega) | assumption | exact x_bR _) (by first | omega | (constructor <;> omega) | assumption | exact x_bR _) (fun (h1 : (↑y : Int) = (↑x : Int)) => ?_) (fun (h1 : ¬ (↑y : Int) = (↑x : Int)) => ?_)
    · refine ex_st 2 (pc' := 2) (ls' := [(3, xi ((↑y) + 1)), (0, xr 143), (1, xi (↑x)), (2, xi (↑g))]) (st' := []) rfl ?_
      exact lp_mba hM hT hL hg hs hx (y + 1) (by omega) (sp_all_yes hac (by first | (left; omega) | (right; assumption)))
    · refine ex_st 4 (pc' := 16) (ls' := [(3, xi (↑y)), (0, xr 143), (1, xi (↑x)), (2, xi (↑g))]) (st' := [xi (↑g), xi (↑y), xi (↑x), xr 143]) rfl ?_
      refine ex_call (ct_m_beats hM hT hL hg hs hx (by omega)) (by decide) rfl ⟨rfl, rfl, rfl⟩ ⟨Nat.le_of_ble_eq_true rfl, rfl, rfl⟩ (Nat.le_of_ble_eq_true rfl) rfl ?_
      refine ex_bne rfl (fun h2 => ?_) (fun h2 => ?_)
      · refine ex_st 2 (pc' := 2) (ls' := [(3, xi ((↑y) + 1)), (0, xr 143), (1, xi (↑x)), (2, xi (↑g))]) (st' := []) rfl ?_
        exact lp_mba hM hT hL hg hs hx (y + 1) (by omega) (sp_all_yes hac (by first | (left; omega) | (right; assumption)))
      · refine ex_st 1 (pc' := 23) (ls' := [(3, xi (↑y)), (0, xr 143), (1, xi (↑x)), (2, xi (↑g))]) (st' := [xi 0]) rfl ?_
        refine ex_retz rfl (Or.inl rfl) rfl ?_
        exact ⟨by unfold x_b; rw [if_neg (by rw [sp_all_no (n := y) (by omega) (by omega) (Bool.eq_false_iff.mpr (by assumption))]; decide)], rfl⟩
termination_by 5 - y
decreasing_by all_goals omega
theorem ct_m_beatsAll {sc : List Int} {I : Nat → Nat → Int} {L : Nat → Nat → Int64} {c : Nat} {kd : Nat → Nat} {vv vo aw : Nat → Int} {ba ro : Nat → Nat → Int} {egg : Int} {se : Nat} (hM : MW I c kd vv vo aw ba ro egg se) {cc : Nat} {cd we : Nat → Int} {en : Nat → Nat} {qv : Int} (hT : MT I cc cd we en qv) {lk : Nat → Nat → Int} (hL : LKm I c lk) {s g : Nat} (hg : g < 64) (hs : ∀ p, p < c → s.testBit p = !g.testBit p) {x : Nat} (hx : x < 5) : x_CE sc 4 xN_m_beatsAll [xr 143, xi (↑x), xi (↑g)] (xSH, I, L) (some (xi (x_b (sp_all lk vo qv c s x 5 = true)))) (xSH, I, L) := by
  refine x_CE.of (M := xM_m_beatsAll) rfl (Nat.le_of_ble_eq_true rfl) ?_
  refine ex_st 2 (pc' := 2) (ls' := [(3, xi 0), (0, xr 143), (1, xi (↑x)), (2, xi (↑g))]) (st' := []) rfl ?_
  exact lp_mba hM hT hL hg hs hx 0 (by omega) rfl
theorem lp_mfirst {sc : List Int} {I : Nat → Nat → Int} {L : Nat → Nat → Int64} {c : Nat} {kd : Nat → Nat} {vv vo aw : Nat → Int} {ba ro : Nat → Nat → Int} {egg : Int} {se : Nat} (hM : MW I c kd vv vo aw ba ro egg se) {cc : Nat} {cd we : Nat → Int} {en : Nat → Nat} {qv : Int} (hT : MT I cc cd we en qv) {lk : Nat → Nat → Int} (hL : LKm I c lk) {s g : Nat} (hg : g < 64) (hs : ∀ p, p < c → s.testBit p = !g.testBit p) (hab1 : I 143 1 = (g : Int)) (x : Nat) (hx : x ≤ 5) : x_Ex sc 5 xM_m_first 6 [(1, xi (↑x)), (0, xr 143)] [] (xSH, I, L) (fun r m' => r = some (xi (sp_win lk vo qv c s (5 - x) x)) ∧ m' = (xSH, I, L)) := by
  refine ex_st 2 (pc' := 8) (ls' := [(1, xi (↑x)), (0, xr 143)]) (st' := [xi 5, xi (↑x)]) rfl ?_
  refine ex_ic rfl (by first | omega | (constructor <;> omega) | assumption | exact x_bR _) (by decide) (fun (h0 : ((5 : Int)) ≤ (↑x : Int)) => ?_) (fun (h0 : ¬ ((5 : Int)) ≤ (↑x : Int)) => ?_)
  · refine ex_st 1 (pc' := 33) (ls' := [(1, xi (↑x)), (0, xr 143)]) (st' := [xi (-5)]) rfl ?_
    refine ex_reti rfl rfl ?_
    exact ⟨by rw [show 5 - x = 0 by omega]; rfl, rfl⟩
  · refine ex_st 4 (pc' := 17) (ls' := [(1, xi (↑x)), (0, xr 143)]) (st' := [xi (I 143 1), xi (↑x), xr 143]) rfl ?_
    rw [hab1]
    refine ex_call (ct_m_beatsAll hM hT hL hg hs (by omega)) (by decide) rfl ⟨rfl, rfl, rfl⟩ ⟨Nat.le_of_ble_eq_true rfl, rfl, rfl⟩ (Nat.le_of_ble_eq_true rfl) rfl ?_
    refine ex_beq rfl (fun h1 => ?_) (fun h1 => ?_)
    · refine ex_st 2 (pc' := 6) (ls' := [(1, xi ((↑x) + 1)), (0, xr 143)]) (st' := []) rfl ?_
      have h9 := lp_mfirst (sc := sc) (L := L) hM hT hL hg hs hab1 (x + 1) (by omega)
      rw [show sp_win lk vo qv c s (5 - x) x = sp_win lk vo qv c s (5 - (x + 1)) (x + 1) from by rw [show 5 - x = (4 - x) + 1 by omega, show 5 - (x + 1) = 4 - x by omega]; show (if _ then _ else _) = _; rw [if_neg (by assumption)]]
      exact h9
    · refine ex_st 1 (pc' := 24) (ls' := [(1, xi (↑x)), (0, xr 143)]) (st' := [xi (↑x)]) rfl ?_
      refine ex_reti rfl rfl ?_
      exact ⟨by rw [show 5 - x = (4 - x) + 1 by omega]; unfold sp_win; rw [if_pos (by assumption)], rfl⟩
termination_by 5 - x
decreasing_by all_goals omega
theorem ct_m_first {sc : List Int} {I : Nat → Nat → Int} {L : Nat → Nat → Int64} {c : Nat} {kd : Nat → Nat} {vv vo aw : Nat → Int} {ba ro : Nat → Nat → Int} {egg : Int} {se : Nat} (hM : MW I c kd vv vo aw ba ro egg se) {cc : Nat} {cd we : Nat → Int} {en : Nat → Nat} {qv : Int} (hT : MT I cc cd we en qv) {g s : Nat} (hg1 : I 143 1 = (g : Int)) (hg : g < 64) (hs : ∀ p, p < c → s.testBit p = !g.testBit p) : x_CQ sc 6 xN_m_first [xr 143] (xSH, I, L) (fun r m' => r = some (xi (sp_win (sp_lk kd vv ba ro egg se cd we en cc) vo qv c s 5 0)) ∧ ∃ I', m' = (xSH, I', L) ∧ ∀ k j, ¬ x_ms k j → I' k j = I k j) := by
  refine x_CQ.of (M := xM_m_first) rfl (Nat.le_of_ble_eq_true rfl) ?_
  refine ex_st 1 (pc' := 1) (ls' := [(0, xr 143)]) (st' := [xr 143]) rfl ?_
  refine ex_callQ (ct_m_layLikes hM hT) (by decide) rfl ⟨rfl, rfl, rfl⟩ ⟨Nat.le_of_ble_eq_true rfl, rfl, rfl⟩ (Nat.le_of_ble_eq_true rfl) rfl (fun ra m2 hQ => ?_)
  obtain ⟨rfl, I1, rfl, hL, hF⟩ := hQ
  have hF2 : ∀ k j, ¬ x_ms k j → I1 k j = I k j := fun k j hk => hF k j (by unfold x_ms at hk; omega)
  refine ex_st 2 (pc' := 6) (ls' := [(1, xi 0), (0, xr 143)]) (st' := []) rfl ?_
  refine x_Ex.mono (lp_mfirst (hM.fr hF2) (hT.fr hF2) hL hg hs (by rw [hF _ _ (by omega)]; exact hg1) 0 (by omega)) (fun r m' h => ?_)
  exact ⟨h.1, I1, h.2, hF2⟩
theorem lp_mlbI {sc : List Int} {I : Nat → Nat → Int} {L : Nat → Nat → Int64} {c : Nat} {kd : Nat → Nat} {vv vo aw : Nat → Int} {ba ro : Nat → Nat → Int} {egg : Int} {se : Nat} (hM : MW I c kd vv vo aw ba ro egg se) {cc : Nat} {cd we : Nat → Int} {en : Nat → Nat} {qv : Int} (hT : MT I cc cd we en qv) {lk : Nat → Nat → Int} (hL : LKm I c lk) {s g : Nat} (hg : g < 64) (hs : ∀ p, p < c → s.testBit p = !g.testBit p) (hab1 : I 143 1 = (g : Int)) {Q : Option xPV → xMem → Prop} {x : Nat} (hx : x < 5) (y : Nat) (hy : y ≤ 5) (kk : ∀ I' : Nat → Nat → Int, (∀ z, y ≤ z → z < 5 → I' 162 (5 * x + z) = x_b ((sp_bt lk vo qv c s) x z = true)) → (∀ k j, ¬ (k = 162 ∧ 5 * x + y ≤ j ∧ j < 5 * x + 5) → I' k j = I k j) → x_Ex sc 5 xM_m_layBeats 57 [(2, xi 5), (1, xi (↑x)), (0, xr 143)] [] (xSH, I', L) Q) : x_Ex sc 5 xM_m_layBeats 13 [(2, xi (↑y)), (1, xi (↑x)), (0, xr 143)] [] (xSH, I, L) Q := by
  refine ex_st 2 (pc' := 15) (ls' := [(2, xi (↑y)), (1, xi (↑x)), (0, xr 143)]) (st' := [xi 5, xi (↑y)]) rfl ?_
  refine ex_ic rfl (by first | omega | (constructor <;> omega) | assumption | exact x_bR _) (by decide) (fun (h0 : ((5 : Int)) ≤ (↑y : Int)) => ?_) (fun (h0 : ¬ ((5 : Int)) ≤ (↑y : Int)) => ?_)
  · obtain rfl : y = 5 := by omega
    exact kk I (fun z a b => by omega) (fun _ _ _ => rfl)
  · refine ex_st 9 (pc' := 29) (ls' := [(2, xi (↑y)), (1, xi (↑x)), (0, xr 143)]) (st' := [xi (↑y), xi (↑x), xi ((5 * (↑x)) + (↑y)), xr 162]) rfl ?_
    refine ex_ic rfl (by first | omega | (constructor <;> omega) | assumption | exact x_bR _) (by first | omega | (constructor <;> omega) | assumption | exact x_bR _) (fun (h1 : (↑x : Int) = (↑y : Int)) => ?_) (fun (h1 : ¬ (↑x : Int) = (↑y : Int)) => ?_)
    · refine ex_st 1 (pc' := 50) (ls' := [(2, xi (↑y)), (1, xi (↑x)), (0, xr 143)]) (st' := [xi 0, xi ((5 * (↑x)) + (↑y)), xr 162]) rfl ?_
      refine ex_bast (j := ((5 * (x)) + (y))) rfl (by decide) (rfl : xSH[162]? = some _) (by omega) (by omega) (by decide) (by first | (right; exact ⟨rfl, x_b01 _⟩) | (right; simp; done) | (right; refine ⟨rfl, ?_⟩; omega) | (left; refine ⟨rfl, ?_, ?_⟩ <;> omega)) ?_
      refine ex_st 2 (pc' := 13) (ls' := [(2, xi ((↑y) + 1)), (1, xi (↑x)), (0, xr 143)]) (st' := []) rfl ?_
      refine lp_mlbI (hM.fr (fun k j hk => ?_)) (hT.fr (fun k j hk => ?_)) (hL.fr (fun j => x_up_far (by omega))) hg hs (by rw [x_up_far (by omega)]; exact hab1) hx (y + 1) (by omega) (fun I' g1 g2 => kk I' (fun z hz1 hz2 => ?_) (fun k j hk => ?_))
      · unfold x_ms at hk; rw [x_up_far (by omega)]
      · unfold x_ms at hk; rw [x_up_far (by omega)]
      · by_cases e : z = y
        · subst e; rw [g2 _ _ (by omega), x_up_at]; unfold sp_bt x_b; first | (rw [if_neg (by assumption)]; done) | (obtain rfl : x = z := by omega); rw [sp_lead_self hT.2.2.1.1]; rfl
        · exact g1 z (by omega) hz2
      · rw [g2 _ _ (by omega), x_up_far (by omega)]
    · refine ex_st 5 (pc' := 39) (ls' := [(2, xi (↑y)), (1, xi (↑x)), (0, xr 143)]) (st' := [xi (I 143 1), xi (↑y), xi (↑x), xr 143, xi ((5 * (↑x)) + (↑y)), xr 162]) rfl ?_
      rw [hab1]
      refine ex_call (ct_m_beats hM hT hL hg hs hx (by omega)) (by decide) rfl ⟨rfl, rfl, rfl⟩ ⟨Nat.le_of_ble_eq_true rfl, rfl, rfl⟩ (Nat.le_of_ble_eq_true rfl) rfl ?_
      refine ex_beq rfl (fun h2 => ?_) (fun h2 => ?_)
      · refine ex_st 1 (pc' := 50) (ls' := [(2, xi (↑y)), (1, xi (↑x)), (0, xr 143)]) (st' := [xi 0, xi ((5 * (↑x)) + (↑y)), xr 162]) rfl ?_
        refine ex_bast (j := ((5 * (x)) + (y))) rfl (by decide) (rfl : xSH[162]? = some _) (by omega) (by omega) (by decide) (by first | (right; exact ⟨rfl, x_b01 _⟩) | (right; simp; done) | (right; refine ⟨rfl, ?_⟩; omega) | (left; refine ⟨rfl, ?_, ?_⟩ <;> omega)) ?_
        refine ex_st 2 (pc' := 13) (ls' := [(2, xi ((↑y) + 1)), (1, xi (↑x)), (0, xr 143)]) (st' := []) rfl ?_
        refine lp_mlbI (hM.fr (fun k j hk => ?_)) (hT.fr (fun k j hk => ?_)) (hL.fr (fun j => x_up_far (by omega))) hg hs (by rw [x_up_far (by omega)]; exact hab1) hx (y + 1) (by omega) (fun I' g1 g2 => kk I' (fun z hz1 hz2 => ?_) (fun k j hk => ?_))
        · unfold x_ms at hk; rw [x_up_far (by omega)]
        · unfold x_ms at hk; rw [x_up_far (by omega)]
        · by_cases e : z = y
          · subst e; rw [g2 _ _ (by omega), x_up_at]; unfold sp_bt x_b; first | (rw [if_neg (by assumption)]; done) | (obtain rfl : x = z := by omega); rw [sp_lead_self hT.2.2.1.1]; rfl
          · exact g1 z (by omega) hz2
        · rw [g2 _ _ (by omega), x_up_far (by omega)]
      · refine ex_st 2 (pc' := 50) (ls' := [(2, xi (↑y)), (1, xi (↑x)), (0, xr 143)]) (st' := [xi 1, xi ((5 * (↑x)) + (↑y)), xr 162]) rfl ?_
        refine ex_bast (j := ((5 * (x)) + (y))) rfl (by decide) (rfl : xSH[162]? = some _) (by omega) (by omega) (by decide) (by first | (right; exact ⟨rfl, x_b01 _⟩) | (right; simp; done) | (right; refine ⟨rfl, ?_⟩; omega) | (left; refine ⟨rfl, ?_, ?_⟩ <;> omega)) ?_
        refine ex_st 2 (pc' := 13) (ls' := [(2, xi ((↑y) + 1)), (1, xi (↑x)), (0, xr 143)]) (st' := []) rfl ?_
        refine lp_mlbI (hM.fr (fun k j hk => ?_)) (hT.fr (fun k j hk => ?_)) (hL.fr (fun j => x_up_far (by omega))) hg hs (by rw [x_up_far (by omega)]; exact hab1) hx (y + 1) (by omega) (fun I' g1 g2 => kk I' (fun z hz1 hz2 => ?_) (fun k j hk => ?_))
        · unfold x_ms at hk; rw [x_up_far (by omega)]
        · unfold x_ms at hk; rw [x_up_far (by omega)]
        · by_cases e : z = y
          · subst e; rw [g2 _ _ (by omega), x_up_at]; unfold sp_bt x_b; rw [if_pos (by assumption)]
          · exact g1 z (by omega) hz2
        · rw [g2 _ _ (by omega), x_up_far (by omega)]
termination_by 5 - y
decreasing_by all_goals omega
theorem lp_mlbO {sc : List Int} {I : Nat → Nat → Int} {L : Nat → Nat → Int64} {c : Nat} {kd : Nat → Nat} {vv vo aw : Nat → Int} {ba ro : Nat → Nat → Int} {egg : Int} {se : Nat} (hM : MW I c kd vv vo aw ba ro egg se) {cc : Nat} {cd we : Nat → Int} {en : Nat → Nat} {qv : Int} (hT : MT I cc cd we en qv) {lk : Nat → Nat → Int} (hL : LKm I c lk) {s g : Nat} (hg : g < 64) (hs : ∀ p, p < c → s.testBit p = !g.testBit p) (hab1 : I 143 1 = (g : Int)) {Q : Option xPV → xMem → Prop} (x : Nat) (hx : x ≤ 5) (hB : ∀ w z, w < x → z < 5 → I 162 (5 * w + z) = x_b ((sp_bt lk vo qv c s) w z = true)) (kk : ∀ I' : Nat → Nat → Int, BMm I' (sp_bt lk vo qv c s) → (∀ k j, k ≠ 162 → I' k j = I k j) → Q none (xSH, I', L)) : x_Ex sc 5 xM_m_layBeats 6 [(1, xi (↑x)), (0, xr 143)] [] (xSH, I, L) Q := by
  refine ex_st 2 (pc' := 8) (ls' := [(1, xi (↑x)), (0, xr 143)]) (st' := [xi 5, xi (↑x)]) rfl ?_
  refine ex_ic rfl (by first | omega | (constructor <;> omega) | assumption | exact x_bR _) (by decide) (fun (h0 : ((5 : Int)) ≤ (↑x : Int)) => ?_) (fun (h0 : ¬ ((5 : Int)) ≤ (↑x : Int)) => ?_)
  · refine ex_retv rfl rfl ?_
    exact kk I (fun w z hw hz => hB w z (by omega) hz) (fun _ _ _ => rfl)
  · refine ex_st 2 (pc' := 13) (ls' := [(2, xi 0), (1, xi (↑x)), (0, xr 143)]) (st' := []) rfl ?_
    refine ex_pm [(2, xi 0), (1, xi (↑x)), (0, xr 143)] (fun i => by rcases i with _ | _ | _ | _ | _ | _ | _ | _ | _ | i <;> first | (right; rfl) | (left; rfl)) ?_
    refine lp_mlbI hM hT hL hg hs hab1 (by omega) 0 (by decide) (fun I1 u1 u2 => ?_)
    refine ex_st 2 (pc' := 6) (ls' := [(1, xi ((↑x) + 1)), (2, xi 5), (0, xr 143)]) (st' := []) rfl ?_
    refine ex_pm [(1, xi (↑x + 1)), (0, xr 143)] (fun i => by rcases i with _ | _ | _ | _ | _ | _ | _ | _ | _ | i <;> first | (right; rfl) | (left; rfl)) ?_
    refine lp_mlbO (hM.fr (fun k j hk => ?_)) (hT.fr (fun k j hk => ?_)) (hL.fr (fun j => u2 _ _ (by omega))) hg hs (by rw [u2 _ _ (by omega)]; exact hab1) (x + 1) (by omega) (fun w z hw hz => ?_) (fun I' g1 g2 => kk I' g1 (fun k j hk => ?_))
    · unfold x_ms at hk; exact u2 _ _ (by omega)
    · unfold x_ms at hk; exact u2 _ _ (by omega)
    · by_cases e : w = x
      · subst e; exact u1 z (by omega) hz
      · rw [u2 _ _ (by omega)]; exact hB w z (by omega) hz
    · rw [g2 _ _ hk]; exact u2 _ _ (by omega)
termination_by 5 - x
decreasing_by all_goals omega
theorem ct_m_layBeats {sc : List Int} {I : Nat → Nat → Int} {L : Nat → Nat → Int64} {c : Nat} {kd : Nat → Nat} {vv vo aw : Nat → Int} {ba ro : Nat → Nat → Int} {egg : Int} {se : Nat} (hM : MW I c kd vv vo aw ba ro egg se) {cc : Nat} {cd we : Nat → Int} {en : Nat → Nat} {qv : Int} (hT : MT I cc cd we en qv) {g s : Nat} (hg1 : I 143 1 = (g : Int)) (hg : g < 64) (hs : ∀ p, p < c → s.testBit p = !g.testBit p) : x_CQ sc 6 xN_m_layBeats [xr 143] (xSH, I, L) (fun r m' => r = none ∧ ∃ I', m' = (xSH, I', L) ∧ BMm I' (sp_bt (sp_lk kd vv ba ro egg se cd we en cc) vo qv c s) ∧ LKm I' c (sp_lk kd vv ba ro egg se cd we en cc) ∧ ∀ k j, ¬ (160 ≤ k ∧ k ≤ 162) → I' k j = I k j) := by
  refine x_CQ.of (M := xM_m_layBeats) rfl (Nat.le_of_ble_eq_true rfl) ?_
  refine ex_st 1 (pc' := 1) (ls' := [(0, xr 143)]) (st' := [xr 143]) rfl ?_
  refine ex_callQ (ct_m_layLikes hM hT) (by decide) rfl ⟨rfl, rfl, rfl⟩ ⟨Nat.le_of_ble_eq_true rfl, rfl, rfl⟩ (Nat.le_of_ble_eq_true rfl) rfl (fun ra m2 hQ => ?_)
  obtain ⟨rfl, I1, rfl, hL, hF⟩ := hQ
  have hF2 : ∀ k j, ¬ x_ms k j → I1 k j = I k j := fun k j hk => hF k j (by unfold x_ms at hk; omega)
  refine ex_st 2 (pc' := 6) (ls' := [(1, xi 0), (0, xr 143)]) (st' := []) rfl ?_
  exact lp_mlbO (hM.fr hF2) (hT.fr hF2) hL hg hs (by rw [hF _ _ (by omega)]; exact hg1) 0 (by omega) (fun w z hw hz => by omega) (fun I' g1 g2 => ⟨rfl, I', rfl, g1, hL.fr (fun j => g2 _ _ (by decide)), fun k j hk => by rw [g2 _ _ (by omega), hF _ _ (by omega)]⟩)
theorem lp_mdn {sc : List Int} {I : Nat → Nat → Int} {L : Nat → Nat → Int64} {B : Nat → Nat → Bool} (hB : BMm I B) {n : Nat} {ag : Nat → Nat} (hn : I 143 2 = (n : Int)) (hn5 : n ≤ 5) (hag : ∀ k, k < n → I 150 k = (ag k : Int) ∧ ag k < 5) (k : Nat) (hk : k < n) : x_Ex sc 6 xM_m_doneNow 23 [(2, xi (↑(k + 1))), (1, xi (↑(sp_dn B ag k))), (0, xr 143)] [] (xSH, I, L) (fun r m' => r = some (xi ((sp_dn B ag (n - 1) : Nat) : Int)) ∧ m' = (xSH, I, L)) := by
  refine ex_st 3 (pc' := 28) (ls' := [(2, xi (↑(k + 1))), (1, xi (↑(sp_dn B ag k))), (0, xr 143)]) (st' := [xi (I 143 2), xi (↑(k + 1))]) rfl ?_
  rw [hn]
  refine ex_ic rfl (by first | omega | (constructor <;> omega) | assumption | exact x_bR _) (by first | omega | (constructor <;> omega) | assumption | exact x_bR _) (fun (h0 : (↑n : Int) ≤ (↑(k + 1) : Int)) => ?_) (fun (h0 : ¬ (↑n : Int) ≤ (↑(k + 1) : Int)) => ?_)
  · refine ex_st 1 (pc' := 67) (ls' := [(2, xi (↑(k + 1))), (1, xi (↑(sp_dn B ag k))), (0, xr 143)]) (st' := [xi (↑(sp_dn B ag k))]) rfl ?_
    refine ex_reti rfl rfl ?_
    obtain rfl : n = k + 1 := by omega
    exact ⟨rfl, rfl⟩
  · have hd1 := (hag (k + 1) (by omega)).2
    have hd2 := sp_dn_lt (B := B) (fun i hi => (hag i hi).2) k hk
    refine ex_st 6 (pc' := 41) (ls' := [(2, xi (↑(k + 1))), (1, xi (↑(sp_dn B ag k))), (0, xr 143)]) (st' := [xi (↑(k + 1)), xr 150, xi 5, xr 162]) rfl ?_
    refine ex_iald (j := ((k + 1))) rfl (by decide) (rfl : xSH[150]? = some _) (by omega) (by omega) (by decide) ?_
    rw [(hag (k + 1) (by omega)).1]
    refine ex_st 3 (pc' := 45) (ls' := [(2, xi (↑(k + 1))), (1, xi (↑(sp_dn B ag k))), (0, xr 143)]) (st' := [xi ((5 * (↑(ag (k + 1)))) + (↑(sp_dn B ag k))), xr 162]) rfl ?_
    refine ex_bald (j := ((5 * ((ag (k + 1)))) + ((sp_dn B ag k)))) rfl (by decide) (rfl : xSH[162]? = some _) (by omega) (by omega) (by decide) ?_
    rw [(hB (ag (k + 1)) (sp_dn B ag k) (by omega) (by omega))]
    refine ex_beq rfl (fun h1 => ?_) (fun h1 => ?_)
    · refine ex_st 4 (pc' := 23) (ls' := [(2, xi ((↑(k + 1)) + 1)), (1, xi (↑(sp_dn B ag k))), (0, xr 143)]) (st' := []) rfl ?_
      have h9 := lp_mdn (sc := sc) (L := L) hB hn hn5 hag (k + 1) (by omega)
      rw [show sp_dn B ag (k + 1) = sp_dn B ag k from by show (if _ then _ else _) = _; rw [if_neg (by assumption)]] at h9
      exact h9
    · refine ex_st 3 (pc' := 54) (ls' := [(2, xi (↑(k + 1))), (1, xi (↑(sp_dn B ag k))), (0, xr 143)]) (st' := [xi (↑(k + 1)), xr 150]) rfl ?_
      refine ex_iald (j := ((k + 1))) rfl (by decide) (rfl : xSH[150]? = some _) (by omega) (by omega) (by decide) ?_
      rw [(hag (k + 1) (by omega)).1]
      refine ex_st 4 (pc' := 23) (ls' := [(2, xi ((↑(k + 1)) + 1)), (1, xi (↑(ag (k + 1)))), (0, xr 143)]) (st' := []) rfl ?_
      have h9 := lp_mdn (sc := sc) (L := L) hB hn hn5 hag (k + 1) (by omega)
      rw [show sp_dn B ag (k + 1) = ag (k + 1) from by show (if _ then _ else _) = _; rw [if_pos (by assumption)]] at h9
      exact h9
termination_by n - k
decreasing_by all_goals omega
theorem ct_m_doneNow {sc : List Int} {I : Nat → Nat → Int} {L : Nat → Nat → Int64} {c : Nat} {kd : Nat → Nat} {vv vo aw : Nat → Int} {ba ro : Nat → Nat → Int} {egg : Int} {se : Nat} (hM : MW I c kd vv vo aw ba ro egg se) {cc : Nat} {cd we : Nat → Int} {en : Nat → Nat} {qv : Int} (hT : MT I cc cd we en qv) {g s : Nat} (hg1 : I 143 1 = (g : Int)) (hg : g < 64) (hs : ∀ p, p < c → s.testBit p = !g.testBit p) {n : Nat} {ag : Nat → Nat} (hn : I 143 2 = (n : Int)) (hn5 : n ≤ 5) (hag : ∀ k, k < n → I 150 k = (ag k : Int) ∧ ag k < 5) : x_CQ sc 7 xN_m_doneNow [xr 143] (xSH, I, L) (fun r m' => r = some (xi (if n = 0 then -5 else ((sp_dn (sp_bt (sp_lk kd vv ba ro egg se cd we en cc) vo qv c s) ag (n - 1) : Nat) : Int))) ∧ ∃ I', m' = (xSH, I', L) ∧ ∀ k j, ¬ (160 ≤ k ∧ k ≤ 162) → I' k j = I k j) := by
  refine x_CQ.of (M := xM_m_doneNow) rfl (Nat.le_of_ble_eq_true rfl) ?_
  refine ex_st 2 (pc' := 4) (ls' := [(0, xr 143)]) (st' := [xi (I 143 2)]) rfl ?_
  rw [hn]
  refine ex_if rfl (by constructor <;> omega) (fun (h0 : ¬ (↑n : Int) = 0) => ?_) (fun (h0 : ¬ ¬ (↑n : Int) = 0) => ?_)
  · refine ex_st 1 (pc' := 11) (ls' := [(0, xr 143)]) (st' := [xr 143]) rfl ?_
    refine ex_callQ (ct_m_layBeats hM hT hg1 hg hs) (by decide) rfl ⟨rfl, rfl, rfl⟩ ⟨Nat.le_of_ble_eq_true rfl, rfl, rfl⟩ (Nat.le_of_ble_eq_true rfl) rfl (fun ra m2 hQ => ?_)
    obtain ⟨rfl, I1, rfl, hB, hL, hF⟩ := hQ
    refine ex_st 3 (pc' := 19) (ls' := [(0, xr 143)]) (st' := [xi 0, xr 150]) rfl ?_
    refine ex_iald (j := 0) rfl (by decide) (rfl : xSH[150]? = some _) rfl (by decide) (by decide) ?_
    rw [hF _ _ (by omega), (hag 0 (by omega)).1]
    refine ex_st 3 (pc' := 23) (ls' := [(2, xi 1), (1, xi (↑(ag 0))), (0, xr 143)]) (st' := []) rfl ?_
    rw [if_neg (by omega)]
    refine x_Ex.mono (lp_mdn hB (by rw [hF _ _ (by omega)]; exact hn) hn5 (fun k hk => by rw [hF _ _ (by omega)]; exact hag k hk) 0 (by omega)) (fun r m' h => ?_)
    exact ⟨h.1, I1, h.2, hF⟩
  · refine ex_st 1 (pc' := 9) (ls' := [(0, xr 143)]) (st' := [xi (-5)]) rfl ?_
    refine ex_reti rfl rfl ?_
    exact ⟨by rw [if_pos (by omega)], I, rfl, fun _ _ _ => rfl⟩
