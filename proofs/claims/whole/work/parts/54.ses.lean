/-! sessions -/
/-- what sessions change: who is away, the egg, the session, what is done -/
abbrev St4 := (Nat → Int) × Int × Nat × (Nat → Int)
/-- what is done by the agenda -/
def sp_D (kd : Nat → Nat) (vv vo : Nat → Int) (ba ro : Nat → Nat → Int) (cd we : Nat → Int) (en : Nat → Nat) (cc : Nat) (qv : Int) (c n : Nat) (ag : Nat → Nat) (aw : Nat → Int) (egg : Int) (se : Nat) : Int := if n = 0 then -5 else ((sp_dn (sp_bt (sp_lk kd vv ba ro egg se cd we en cc) vo qv c (sp_mask (sp_nz aw) c).toNat) ag (n - 1) : Nat) : Int)
theorem sp_D_bd {kd : Nat → Nat} {vv vo : Nat → Int} {ba ro : Nat → Nat → Int} {cd we : Nat → Int} {en : Nat → Nat} {cc : Nat} {qv : Int} {c n : Nat} {ag : Nat → Nat} {aw : Nat → Int} {egg : Int} {se : Nat} (hag : ∀ k, k < n → ag k < 5) : sp_D kd vv vo ba ro cd we en cc qv c n ag aw egg se = -5 ∨ (0 ≤ sp_D kd vv vo ba ro cd we en cc qv c n ag aw egg se ∧ sp_D kd vv vo ba ro cd we en cc qv c n ag aw egg se < 5) := by
  unfold sp_D
  by_cases h : n = 0
  · left; rw [if_pos h]
  · right
    rw [if_neg h]
    have := sp_dn_lt (B := sp_bt (sp_lk kd vv ba ro egg se cd we en cc) vo qv c (sp_mask (sp_nz aw) c).toNat) (g := ag) (N := n) hag (n - 1) (by omega)
    omega
/-- a session -/
def sp_go (D : (Nat → Int) → Int → Nat → Int) (s : St4) : St4 := (s.1, (if 0 ≤ D s.1 s.2.1 s.2.2.1 then (D s.1 s.2.1 s.2.2.1 + 3 + s.2.1).tmod 10 else s.2.1), s.2.2.1 + 1, fun x => if 0 ≤ D s.1 s.2.1 s.2.2.1 ∧ (x : Int) = D s.1 s.2.1 s.2.2.1 then s.2.2.2 x + 1 else s.2.2.2 x)
def sp_it (D : (Nat → Int) → Int → Nat → Int) : Nat → St4 → St4
  | 0, s => s
  | k + 1, s => sp_it D k (sp_go D s)
theorem sp_it_se (D : (Nat → Int) → Int → Nat → Int) : ∀ k s, (sp_it D k s).2.2.1 = s.2.2.1 + k
  | 0, s => rfl
  | k + 1, s => by
    show (sp_it D k (sp_go D s)).2.2.1 = _
    rw [sp_it_se D k]
    show s.2.2.1 + 1 + k = _
    omega
theorem sp_it_aw (D : (Nat → Int) → Int → Nat → Int) : ∀ k s, (sp_it D k s).1 = s.1
  | 0, _ => rfl
  | k + 1, s => by
    show (sp_it D k (sp_go D s)).1 = _
    rw [sp_it_aw D k]
    rfl
/-- what is always so -/
def SI (s : St4) : Prop := (∀ x, x < 5 → 0 ≤ s.2.2.2 x ∧ s.2.2.2 x ≤ s.2.2.1) ∧ 0 ≤ s.2.1 ∧ s.2.1 ≤ 9
theorem SI.go {D : (Nat → Int) → Int → Nat → Int} {s : St4} (h : SI s) : SI (sp_go D s) := by
  obtain ⟨h1, h2, h3⟩ := h
  have e2 : (sp_go D s).2.2.1 = s.2.2.1 + 1 := rfl
  have e3 : (sp_go D s).2.1 = if 0 ≤ D s.1 s.2.1 s.2.2.1 then (D s.1 s.2.1 s.2.2.1 + 3 + s.2.1).tmod 10 else s.2.1 := rfl
  refine ⟨fun x hx => ?_, ?_, ?_⟩
  · have e1 : (sp_go D s).2.2.2 x = if 0 ≤ D s.1 s.2.1 s.2.2.1 ∧ (x : Int) = D s.1 s.2.1 s.2.2.1 then s.2.2.2 x + 1 else s.2.2.2 x := rfl
    have := h1 x hx
    rw [e1, e2]
    split <;> omega
  · rw [e3]
    split
    · rw [Int.tmod_eq_emod_of_nonneg (by omega)]; omega
    · exact h2
  · rw [e3]
    split
    · rw [Int.tmod_eq_emod_of_nonneg (by omega)]; omega
    · exact h3
theorem SI.it {D : (Nat → Int) → Int → Nat → Int} : ∀ k {s : St4}, SI s → SI (sp_it D k s)
  | 0, _, h => h
  | k + 1, _, h => SI.it k h.go
theorem WW.gen {I I' : Nat → Nat → Int} {W c : Nat} {kd : Nat → Nat} {vv vo aw : Nat → Int} {ba ro : Nat → Nat → Int} {egg : Int} {se : Nat} (h : WW I W c kd vv vo aw ba ro egg se) {vv' aw' : Nat → Int} {ba' : Nat → Nat → Int} {egg' : Int} {se' : Nat} (h1 : I' W 1 = I W 1) (h5 : I' W 5 = egg' ∧ 0 ≤ egg' ∧ egg' ≤ 99) (h6 : I' W 6 = (se' : Int) ∧ se' < 100000) (hk : ∀ p, p < c → I' (W + 10 + 3 * p) 0 = I (W + 10 + 3 * p) 0 ∧ I' (W + 10 + 3 * p) 2 = I (W + 10 + 3 * p) 2 ∧ ∀ j, j < 4 → I' (W + 10 + 3 * p + 2) j = I (W + 10 + 3 * p + 2) j) (hv : ∀ p, p < c → I' (W + 10 + 3 * p) 1 = vv' p ∧ -1000 ≤ vv' p ∧ vv' p ≤ 1000) (ha : ∀ p, p < c → I' (W + 10 + 3 * p) 3 = aw' p ∧ x_R (aw' p)) (hb : ∀ p, p < c → ∀ x, x < 5 → I' (W + 10 + 3 * p + 1) x = ba' p x ∧ 0 ≤ ba' p x ∧ ba' p x ≤ 9) : WW I' W c kd vv' vo aw' ba' ro egg' se' := by
  obtain ⟨g1, g2, g3, g4, g5, g6, g7⟩ := h
  refine ⟨by rw [h1]; exact g1, g2, h5.1, h5.2, h6.1, h6.2, fun p hp => ?_⟩
  obtain ⟨⟨q1, q2, q3, q4, q5⟩, k2, k3, k4, k5, k6, k7, k8⟩ := g7 p hp
  obtain ⟨a1, a2, a3⟩ := hk p hp
  obtain ⟨b1, b2, b3⟩ := hv p hp
  exact ⟨⟨by rw [a1]; exact q1, q2, b1, by constructor <;> omega, fun j hj => by rw [a3 j hj]; exact q5 j hj⟩, by rw [a2]; exact k2, k3, (ha p hp).1, (ha p hp).2, fun x hx => hb p hp x hx, ⟨b2, b3⟩, k8⟩
theorem WW.set {I I' : Nat → Nat → Int} {W c : Nat} {kd : Nat → Nat} {vv vo aw : Nat → Int} {ba ro : Nat → Nat → Int} {egg : Int} {se : Nat} (h : WW I W c kd vv vo aw ba ro egg se) {egg' : Int} {se' : Nat} (hf : ∀ k j, W + 10 ≤ k → k ≤ W + 10 + 3 * c → I' k j = I k j) (h1 : I' W 1 = I W 1) (h5 : I' W 5 = egg' ∧ 0 ≤ egg' ∧ egg' ≤ 99) (h6 : I' W 6 = (se' : Int) ∧ se' < 100000) : WW I' W c kd vv vo aw ba ro egg' se' := by
  have g7 := h.2.2.2.2.2.2
  refine h.gen h1 h5 h6 (fun p hp => ⟨hf _ _ (by omega) (by omega), hf _ _ (by omega) (by omega), fun j hj => hf _ _ (by omega) (by omega)⟩) (fun p hp => ?_) (fun p hp => ?_) (fun p hp x hx => ?_)
  · rw [hf _ _ (by omega) (by omega)]; exact ⟨(g7 p hp).1.2.2.1, (g7 p hp).2.2.2.2.2.2.1⟩
  · rw [hf _ _ (by omega) (by omega)]; exact ⟨(g7 p hp).2.2.2.1, (g7 p hp).2.2.2.2.1⟩
  · rw [hf _ _ (by omega) (by omega)]; exact (g7 p hp).2.2.2.2.2.1 x hx
theorem MW.gen {I I' : Nat → Nat → Int} {c : Nat} {kd : Nat → Nat} {vv vo aw : Nat → Int} {ba ro : Nat → Nat → Int} {egg : Int} {se : Nat} (h : MW I c kd vv vo aw ba ro egg se) {vv' aw' : Nat → Int} {ba' : Nat → Nat → Int} {egg' : Int} {se' : Nat} (h0 : I' 143 0 = I 143 0) (h3 : I' 143 3 = egg' ∧ 0 ≤ egg' ∧ egg' ≤ 99) (h4 : I' 143 4 = (se' : Int) ∧ se' < 100000) (hab : ∃ ab : Nat, I' 143 1 = (ab : Int) ∧ ab < 64 ∧ ∀ p, p < c → (aw' p = 0 ∧ ab.testBit p = false) ∨ (aw' p = 1 ∧ ab.testBit p = true)) (hk : ∀ p, p < c → I' 144 p = I 144 p ∧ I' 146 p = I 146 p ∧ ∀ j, j < 4 → I' 148 (4 * p + j) = I 148 (4 * p + j)) (hv : ∀ p, p < c → I' 145 p = vv' p ∧ -1000 ≤ vv' p ∧ vv' p ≤ 1000) (hb : ∀ p, p < c → ∀ x, x < 5 → I' 147 (5 * p + x) = ba' p x ∧ 0 ≤ ba' p x ∧ ba' p x ≤ 9) : MW I' c kd vv' vo aw' ba' ro egg' se' := by
  obtain ⟨g1, g2, g3, g4, g5, g6, g7, g8⟩ := h
  refine ⟨by rw [h0]; exact g1, g2, h3.1, h3.2, h4.1, h4.2, hab, fun p hp => ?_⟩
  obtain ⟨k1, k2, k3, k4, k5, k6, k7, k8⟩ := g8 p hp
  obtain ⟨a1, a2, a3⟩ := hk p hp
  exact ⟨by rw [a1]; exact k1, k2, (hv p hp).1, (hv p hp).2, by rw [a2]; exact k5, k6, fun x hx => hb p hp x hx, fun j hj => by rw [a3 j hj]; exact k8 j hj⟩
theorem MW.set {I I' : Nat → Nat → Int} {c : Nat} {kd : Nat → Nat} {vv vo aw : Nat → Int} {ba ro : Nat → Nat → Int} {egg : Int} {se : Nat} (h : MW I c kd vv vo aw ba ro egg se) {egg' : Int} {se' : Nat} (hf : ∀ k j, 144 ≤ k → k ≤ 148 → I' k j = I k j) (h0 : I' 143 0 = I 143 0) (h1 : I' 143 1 = I 143 1) (h3 : I' 143 3 = egg' ∧ 0 ≤ egg' ∧ egg' ≤ 99) (h4 : I' 143 4 = (se' : Int) ∧ se' < 100000) : MW I' c kd vv vo aw ba ro egg' se' := by
  have g8 := h.2.2.2.2.2.2.2
  refine h.gen h0 h3 h4 (by rw [h1]; exact h.2.2.2.2.2.2.1) (fun p hp => ⟨hf _ _ (by decide) (by decide), hf _ _ (by decide) (by decide), fun j hj => hf _ _ (by decide) (by decide)⟩) (fun p hp => ?_) (fun p hp x hx => ?_)
  · rw [hf _ _ (by decide) (by decide)]; exact ⟨(g8 p hp).2.2.1, (g8 p hp).2.2.2.1⟩
  · rw [hf _ _ (by decide) (by decide)]; exact (g8 p hp).2.2.2.2.2.2.1 x hx
theorem MT.fr3 {I I' : Nat → Nat → Int} {cc : Nat} {cd we : Nat → Int} {en : Nat → Nat} {qv : Int} (h : MT I cc cd we en qv) (e13 : I' 143 13 = I 143 13) (e : ∀ k j, 152 ≤ k → k ≤ 157 → I' k j = I k j) : MT I' cc cd we en qv := by
  have e152 : ∀ j, I' 152 j = I 152 j := fun j => e _ _ (by decide) (by decide)
  have e153 : ∀ j, I' 153 j = I 153 j := fun j => e _ _ (by decide) (by decide)
  have e154 : ∀ j, I' 154 j = I 154 j := fun j => e _ _ (by decide) (by decide)
  have e155 : ∀ j, I' 155 j = I 155 j := fun j => e _ _ (by decide) (by decide)
  have e156 : ∀ j, I' 156 j = I 156 j := fun j => e _ _ (by decide) (by decide)
  have e157 : ∀ j, I' 157 j = I 157 j := fun j => e _ _ (by decide) (by decide)
  unfold MT MC at *
  simp only [e13, e152, e153, e154, e155, e156, e157]
  exact h
theorem TRx.fr {I I' : Nat → Nat → Int} {t : Int} {T nn cc : Nat} {cd we : Nat → Int} {en : Nat → Nat} {qv : Int} (h : TRx I t T nn cc cd we en qv) (e : ∀ k j, 85 ≤ k → ¬ (92 ≤ k ∧ k ≤ 103) → I' k j = I k j) : TRx I' t T nn cc cd we en qv := by
  obtain ⟨h1, h2, h3, h4, h5, h6, h7, h8, h9, h10⟩ := h
  have hT : 87 ≤ T := by
    have := h1
    unfold sp_trOf at this
    split at this <;> omega
  refine ⟨h1, h2, h3.fr (fun j => e _ _ (by omega) (by omega)), h4.fr (fun k j a b => e _ _ (by omega) (by omega)), h5, h6, by rw [e _ _ (by omega) (by omega)]; exact h7, h8, h9, fun h13 => ?_⟩
  rw [e _ _ (by decide) (by decide)] at h13
  exact (h10 h13).fr3 (e _ _ (by decide) (by decide)) (fun k j a b => e _ _ (by omega) (by omega))
def SW (I : Nat → Nat → Int) (W c : Nat) (kd : Nat → Nat) (vv vo : Nat → Int) (ba ro : Nat → Nat → Int) (s : St4) : Prop := WW I W c kd vv vo s.1 ba ro s.2.1 s.2.2.1 ∧ ∀ x, x < 5 → I (W + 2) x = s.2.2.2 x
def SM (I : Nat → Nat → Int) (c : Nat) (kd : Nat → Nat) (vv vo : Nat → Int) (ba ro : Nat → Nat → Int) (s : St4) : Prop := MW I c kd vv vo s.1 ba ro s.2.1 s.2.2.1 ∧ ∀ x, x < 5 → I 149 x = s.2.2.2 x
/-- the cells that a session of the class's world W, or of the reference's, may change -/
def GFW (W k j : Nat) : Prop := (92 ≤ k ∧ k ≤ 102) ∨ (k = W ∧ (j = 5 ∨ j = 6)) ∨ (k = W + 2 ∧ j < 5)
def GFM (k j : Nat) : Prop := (160 ≤ k ∧ k ≤ 162) ∨ (k = 143 ∧ (j = 3 ∨ j = 4)) ∨ (k = 149 ∧ j < 5)
theorem sp_end_no {J : Nat → Nat → Int} {W : Nat} {x : Int} (h : ¬ (0 ≤ x ∧ x < 5)) : sp_end J W x = x_up J W 6 (J W 6 + 1) := by
  have h2 : sp_en2 J W x = J := by unfold sp_en2; rw [if_neg h]
  unfold sp_end; rw [h2]
theorem sp_end_yes {J : Nat → Nat → Int} {W : Nat} {x : Int} (h : 0 ≤ x ∧ x < 5) : sp_end J W x = x_up (x_up (x_up J (W + 2) x.toNat (J (W + 2) x.toNat + 1)) W 5 ((x + 3 + J W 5).tmod 10)) W 6 (J W 6 + 1) := by
  have h2 : sp_en2 J W x = x_up (x_up J (W + 2) x.toNat (J (W + 2) x.toNat + 1)) W 5 ((x + 3 + J W 5).tmod 10) := by
    unfold sp_en2; rw [if_pos h]; unfold sp_en1; rw [x_up_far (k := W) (j := 5) (by omega)]
  unfold sp_end; rw [h2, x_up_far (k := W) (j := 6) (by omega), x_up_far (k := W) (j := 6) (by omega)]

theorem ct_G_goOne {sc : List Int} {I : Nat → Nat → Int} {L : Nat → Nat → Int64} {W c : Nat} {kd : Nat → Nat} {vv vo : Nat → Int} {ba ro : Nat → Nat → Int} {s : St4} (hWS : WS W) (hW2 : xSH[W + 2]? = some (20, 5, [])) (hW3 : xSH[W + 3]? = some (20, 5, [])) (hS : SW I W c kd vv vo ba ro s) (hI : SI s) (hse : s.2.2.1 < 50000) {t : Int} {T nn cc : Nat} {cd we : Nat → Int} {en : Nat → Nat} {qv : Int} (hX : TRx I t T nn cc cd we en qv) (ht : I W 7 = t) {n : Nat} {ag : Nat → Nat} (hn : I W 4 = (n : Int)) (hn5 : n ≤ 5) (hag : ∀ k, k < n → I (W + 3) k = (ag k : Int) ∧ ag k < 5) : x_CQ sc 7 xN_G_goOneSession [xr 0, xr W] (xSH, I, L) (fun r m' => r = none ∧ ∃ I', m' = (xSH, I', L) ∧ SW I' W c kd vv vo ba ro (sp_go (sp_D kd vv vo ba ro cd we en cc qv c n ag) s) ∧ ∀ k j, ¬ GFW W k j → I' k j = I k j) := by
  have hlt := hWS.2.2.2
  have hDb := sp_D_bd (kd := kd) (vv := vv) (vo := vo) (ba := ba) (ro := ro) (cd := cd) (we := we) (en := en) (cc := cc) (qv := qv) (c := c) (n := n) (ag := ag) (aw := s.1) (egg := s.2.1) (se := s.2.2.1) (fun k hk => (hag k hk).2)
  have hct := ct_G_doneByAgendaOf (sc := sc) (L := L) hWS hS.1 hX ht hW3 hn hn5 hag
  change x_CQ sc 6 xN_G_doneByAgendaOf [xr 0, xr W] (xSH, I, L) (fun r m' => r = some (xi ((sp_D kd vv vo ba ro cd we en cc qv c n ag) s.1 s.2.1 s.2.2.1)) ∧ ∃ J, m' = (xSH, J, L) ∧ ∀ k j, k < 92 ∨ 102 < k → J k j = I k j) at hct
  have hgo : sp_go (sp_D kd vv vo ba ro cd we en cc qv c n ag) s = (s.1, (if 0 ≤ (sp_D kd vv vo ba ro cd we en cc qv c n ag) s.1 s.2.1 s.2.2.1 then ((sp_D kd vv vo ba ro cd we en cc qv c n ag) s.1 s.2.1 s.2.2.1 + 3 + s.2.1).tmod 10 else s.2.1), s.2.2.1 + 1, fun (x : Nat) => if 0 ≤ (sp_D kd vv vo ba ro cd we en cc qv c n ag) s.1 s.2.1 s.2.2.1 ∧ (x : Int) = (sp_D kd vv vo ba ro cd we en cc qv c n ag) s.1 s.2.1 s.2.2.1 then s.2.2.2 x + 1 else s.2.2.2 x) := rfl
  generalize (sp_D kd vv vo ba ro cd we en cc qv c n ag) s.1 s.2.1 s.2.2.1 = D at hDb hct hgo
  rw [hgo]
  refine x_CQ.of (M := xM_G_goOneSession) rfl (Nat.le_of_ble_eq_true rfl) ?_
  refine ex_st 3 (pc' := 3) (ls' := [(0, xr 0), (1, xr W)]) (st' := [xr W, xr 0, xr W]) rfl ?_
  refine ex_callQ hct (by decide) rfl ⟨rfl, rfl, rfl⟩ ⟨Nat.le_of_ble_eq_true rfl, rfl, rfl⟩ (Nat.le_of_ble_eq_true rfl) rfl (fun ra m2 hQ => ?_)
  obtain ⟨rfl, J, rfl, hJ⟩ := hQ
  obtain ⟨hSW, hSd⟩ := hS
  have w5 := hSW.2.2.1
  have w6 := hSW.2.2.2.2.1
  have j5 : J W 5 = s.2.1 := by rw [hJ _ _ (by omega)]; exact w5
  have j6 : J W 6 = (s.2.2.1 : Int) := by rw [hJ _ _ (by omega)]; exact w6
  have hI2 := hI.2
  refine ex_callQ (ct_W_endSession (I := J) (L := L) hWS hW2 (x := D) (by constructor <;> omega) (by omega)) (by decide) rfl ⟨rfl, rfl, rfl⟩ ⟨Nat.le_of_ble_eq_true rfl, rfl, rfl⟩ (Nat.le_of_ble_eq_true rfl) (x_recv_v (by omega) hWS.1 (by decide)) (fun ra m2 hQ => ?_)
  obtain ⟨rfl, rfl⟩ := hQ
  refine ex_retv rfl rfl ?_
  refine ⟨rfl, _, rfl, ?_, ?_⟩
  · by_cases hD : 0 ≤ D
    · rw [sp_end_yes (by omega), if_pos hD, j5, j6, hJ _ _ (by omega), hSd _ (by omega)]
      refine ⟨hSW.set (fun k j a b => ?_) ?_ ⟨?_, ?_, ?_⟩ ⟨?_, by show s.2.2.1 + 1 < 100000; omega⟩, fun x hx => ?_⟩
      · rw [x_up_far (by omega), x_up_far (by omega), x_up_far (by omega), hJ _ _ (by have := hSW.2.1; omega)]
      · rw [x_up_far (by omega), x_up_far (by omega), x_up_far (by omega), hJ _ _ (by omega)]
      · rw [x_up_far (by omega), x_up_at]
      · show 0 ≤ (_ : Int).tmod 10; rw [Int.tmod_eq_emod_of_nonneg (by omega)]; omega
      · show (_ : Int).tmod 10 ≤ _; rw [Int.tmod_eq_emod_of_nonneg (by omega)]; omega
      · rw [x_up_at]; show _ = ((s.2.2.1 + 1 : Nat) : Int); omega
      · rw [x_up_far (by omega), x_up_far (by omega)]
        by_cases hx2 : (x : Int) = D
        · dsimp only
          rw [if_pos ⟨hD, hx2⟩, x_up_at2 rfl (by omega), show D.toNat = x by omega]
        · dsimp only
          rw [if_neg (fun q => hx2 q.2), x_up_far (by omega), hJ _ _ (by omega)]; exact hSd x hx
    · rw [sp_end_no (by omega), if_neg hD, j6]
      refine ⟨hSW.set (fun k j a b => ?_) ?_ ⟨?_, by show 0 ≤ s.2.1; omega, by show s.2.1 ≤ _; omega⟩ ⟨?_, by show s.2.2.1 + 1 < 100000; omega⟩, fun x hx => ?_⟩
      · rw [x_up_far (by omega), hJ _ _ (by have := hSW.2.1; omega)]
      · rw [x_up_far (by omega), hJ _ _ (by omega)]
      · rw [x_up_far (by omega)]; exact j5
      · rw [x_up_at]; show _ = ((s.2.2.1 + 1 : Nat) : Int); omega
      · dsimp only
        rw [if_neg (fun q => hD q.1), x_up_far (by omega), hJ _ _ (by omega)]; exact hSd x hx
  · intro k j hk
    unfold GFW at hk
    by_cases hD : 0 ≤ D
    · rw [sp_end_yes (by omega), x_up_far (by omega), x_up_far (by omega), x_up_far (by omega), hJ _ _ (by omega)]
    · rw [sp_end_no (by omega), x_up_far (by omega), hJ _ _ (by omega)]
theorem ct_m_least {sc : List Int} {m : xMem} {a b : Int} (ha : x_R a) (hb : x_R b) (h : a ≤ b) : x_CE sc 1 xN_m_least [xr 143, xi a, xi b] m (some (xi a)) m := by
  refine x_CE.of (M := xM_m_least) rfl (Nat.le_of_ble_eq_true rfl) ?_
  refine ex_st 2 (pc' := 2) (ls' := [(0, xr 143), (1, xi a), (2, xi b)]) (st' := [xi b, xi a]) rfl ?_
  refine ex_ic rfl ha hb (fun (h0 : b ≤ a) => ?_) (fun (h0 : ¬ b ≤ a) => ?_)
  · obtain rfl : a = b := by omega
    refine ex_st 1 (pc' := 10) (ls' := [(0, xr 143), (1, xi a), (2, xi a)]) (st' := [xi a]) rfl ?_
    refine ex_reti rfl rfl ?_
    exact ⟨rfl, rfl⟩
  · refine ex_st 2 (pc' := 10) (ls' := [(0, xr 143), (1, xi a), (2, xi b)]) (st' := [xi a]) rfl ?_
    refine ex_reti rfl rfl ?_
    exact ⟨rfl, rfl⟩
theorem SM.go {I J K : Nat → Nat → Int} {c : Nat} {kd : Nat → Nat} {vv vo : Nat → Int} {ba ro : Nat → Nat → Int} {s : St4} (hS : SM I c kd vv vo ba ro s) (hse : s.2.2.1 < 50000) {DF : (Nat → Int) → Int → Nat → Int} (hI : SI s) (hK : ∀ k j, ¬ GFM k j → K k j = I k j) (h3 : K 143 3 = (sp_go DF s).2.1) (h4 : K 143 4 = ((s.2.2.1 + 1 : Nat) : Int)) (hd : ∀ x, x < 5 → K 149 x = (sp_go DF s).2.2.2 x) : SM K c kd vv vo ba ro (sp_go DF s) := by
  have h2 := (SI.go (D := DF) hI).2
  exact ⟨hS.1.set (fun k j a b => hK k j (by unfold GFM; omega)) (hK _ _ (by unfold GFM; omega)) (hK _ _ (by unfold GFM; omega)) ⟨h3, by omega, by omega⟩ ⟨h4, by show s.2.2.1 + 1 < 100000; omega⟩, hd⟩

set_option maxRecDepth 8000 in
set_option maxHeartbeats 1000000 in
theorem ct_m_goSession {sc : List Int} {I : Nat → Nat → Int} {L : Nat → Nat → Int64} {c : Nat} {kd : Nat → Nat} {vv vo : Nat → Int} {ba ro : Nat → Nat → Int} {s : St4} (hS : SM I c kd vv vo ba ro s) (hI : SI s) (hse : s.2.2.1 < 50000) {cc : Nat} {cd we : Nat → Int} {en : Nat → Nat} {qv : Int} (hT : MT I cc cd we en qv) {n : Nat} {ag : Nat → Nat} (hn : I 143 2 = (n : Int)) (hn5 : n ≤ 5) (hag : ∀ k, k < n → I 150 k = (ag k : Int) ∧ ag k < 5) {md : Int} (hmd : I 143 32 = md) (hmr : x_R md) (hms : (s.2.2.1 : Int) + 1 ≤ md) : x_CQ sc 27 xN_m_goSession [xr 143] (xSH, I, L) (fun r m' => r = none ∧ ∃ I', m' = (xSH, I', L) ∧ SM I' c kd vv vo ba ro (sp_go (sp_D kd vv vo ba ro cd we en cc qv c n ag) s) ∧ ∀ k j, ¬ GFM k j → I' k j = I k j) := by
  obtain ⟨g, hg1, hg, hgs, hgp⟩ := hS.1.pres
  have hDb := sp_D_bd (kd := kd) (vv := vv) (vo := vo) (ba := ba) (ro := ro) (cd := cd) (we := we) (en := en) (cc := cc) (qv := qv) (c := c) (n := n) (ag := ag) (aw := s.1) (egg := s.2.1) (se := s.2.2.1) (fun k hk => (hag k hk).2)
  have hct := ct_m_doneNow (sc := sc) (L := L) hS.1 hT hg1 hg hgs hn hn5 hag
  change x_CQ sc 7 xN_m_doneNow [xr 143] (xSH, I, L) (fun r m' => r = some (xi ((sp_D kd vv vo ba ro cd we en cc qv c n ag) s.1 s.2.1 s.2.2.1)) ∧ ∃ I', m' = (xSH, I', L) ∧ ∀ k j, ¬ (160 ≤ k ∧ k ≤ 162) → I' k j = I k j) at hct
  have hgo : sp_go (sp_D kd vv vo ba ro cd we en cc qv c n ag) s = (s.1, (if 0 ≤ (sp_D kd vv vo ba ro cd we en cc qv c n ag) s.1 s.2.1 s.2.2.1 then ((sp_D kd vv vo ba ro cd we en cc qv c n ag) s.1 s.2.1 s.2.2.1 + 3 + s.2.1).tmod 10 else s.2.1), s.2.2.1 + 1, fun (x : Nat) => if 0 ≤ (sp_D kd vv vo ba ro cd we en cc qv c n ag) s.1 s.2.1 s.2.2.1 ∧ (x : Int) = (sp_D kd vv vo ba ro cd we en cc qv c n ag) s.1 s.2.1 s.2.2.1 then s.2.2.2 x + 1 else s.2.2.2 x) := rfl
  generalize (sp_D kd vv vo ba ro cd we en cc qv c n ag) s.1 s.2.1 s.2.2.1 = D at hDb hct hgo
  obtain ⟨hSM, hSd⟩ := id hS
  have hI2 := hI.2
  refine x_CQ.of (M := xM_m_goSession) rfl (Nat.le_of_ble_eq_true rfl) ?_
  refine ex_st 1 (pc' := 1) (ls' := [(0, xr 143)]) (st' := [xr 143]) rfl ?_
  refine ex_callQ hct (by decide) rfl ⟨rfl, rfl, rfl⟩ ⟨Nat.le_of_ble_eq_true rfl, rfl, rfl⟩ (Nat.le_of_ble_eq_true rfl) rfl (fun ra m2 hQ => ?_)
  obtain ⟨rfl, J, rfl, hJ⟩ := hQ
  have hdn : ∀ x, x < 5 → J 149 x = s.2.2.2 x := fun x hx => by rw [hJ _ _ (by omega)]; exact hSd x hx
  have hj32 : J 143 32 = md := by rw [hJ _ _ (by omega)]; exact hmd
  have hj3 : J 143 3 = s.2.1 := by rw [hJ _ _ (by omega)]; exact hSM.2.2.1
  have hj4 : J 143 4 = (s.2.2.1 : Int) := by rw [hJ _ _ (by omega)]; exact hSM.2.2.2.2.1
  have hDI : 0 ≤ D → 0 ≤ s.2.2.2 D.toNat ∧ s.2.2.2 D.toNat ≤ s.2.2.1 := fun h => hI.1 _ (by omega)
  refine ex_st 2 (pc' := 6) (ls' := [(1, xi D), (0, xr 143)]) (st' := [xi D]) rfl ?_
  refine ex_if rfl (by first | omega | (constructor <;> omega) | assumption) (fun (h0 : D < 0) => ?_) (fun (h0 : ¬ D < 0) => ?_)
  · refine ex_st 3 (pc' := 51) (ls' := [(1, xi D), (0, xr 143)]) (st' := [xi (J 143 4), xr 143]) rfl ?_
    rw [hj4]
    refine ex_st 2 (pc' := 53) (ls' := [(1, xi D), (0, xr 143)]) (st' := [xi (((s.2.2.1 : Int)) + 1), xr 143]) rfl ?_
    refine ex_pfi rfl (by decide) (rfl : xSH[143]? = some _) (by decide) rfl (by decide) (fun h => by cases h) ?_
    refine ex_retv rfl rfl ?_
    generalize hM : (x_up J 143 4 (((s.2.2.1 : Int)) + 1)) = K
    have hK : ∀ k j, ¬ GFM k j → K k j = I k j := fun k j hk => by unfold GFM at hk; rw [← hM]; (repeat rw [x_up_far (by omega)]); exact hJ _ _ (by omega)
    have h3 : K 143 3 = (sp_go (sp_D kd vv vo ba ro cd we en cc qv c n ag) s).2.1 := by rw [hgo]; dsimp only; rw [if_neg (by omega), ← hM]; (repeat (first | rw [x_up_far (by omega)] | rw [x_up_at2 (by omega) (by omega)])); exact hj3
    have h4 : K 143 4 = ((s.2.2.1 + 1 : Nat) : Int) := by rw [← hM]; (repeat (first | rw [x_up_far (by omega)] | rw [x_up_at2 (by omega) (by omega)])); omega
    have hd : ∀ x, x < 5 → K 149 x = (sp_go (sp_D kd vv vo ba ro cd we en cc qv c n ag) s).2.2.2 x := fun x hx => by
      rw [hgo, ← hM]
      dsimp only
      rw [if_neg (fun q => by omega), x_up_far (by omega)]; exact hdn x hx
    exact ⟨rfl, K, rfl, SM.go (J := I) hS hse hI hK h3 h4 hd, hK⟩
  · refine ex_st 7 (pc' := 20) (ls' := [(1, xi D), (0, xr 143)]) (st' := [xi D, xr 149, xr 143, xi D, xr 149]) rfl ?_
    refine ex_iald (j := D.toNat) rfl (by decide) (rfl : xSH[149]? = some _) (by omega) (by omega) (by decide) ?_
    rw [hdn D.toNat (by omega)]
    refine ex_st 4 (pc' := 27) (ls' := [(1, xi D), (0, xr 143)]) (st' := [xi (J 143 32), xi ((s.2.2.2 D.toNat) + 1), xr 143, xi D, xr 149]) rfl ?_
    rw [hj32]
    have hDI2 := hDI (by omega)
    refine ex_call (ct_m_least (a := (s.2.2.2 D.toNat) + 1) (b := md) (by constructor <;> omega) hmr (by omega)) (by decide) rfl ⟨rfl, rfl, rfl⟩ ⟨Nat.le_of_ble_eq_true rfl, rfl, rfl⟩ (Nat.le_of_ble_eq_true rfl) rfl ?_
    refine ex_iast (j := D.toNat) rfl (by decide) (rfl : xSH[149]? = some _) (by omega) (by omega) (by decide) ?_
    refine ex_st 5 (pc' := 36) (ls' := [(1, xi D), (0, xr 143)]) (st' := [xr 143, xi (D + 3), xr 143]) rfl ?_
    refine ex_gfi rfl (by decide) (rfl : xSH[143]? = some _) (by decide) (by decide) rfl ?_
    rw [x_up_far (k := 143) (j := 3) (k0 := 149) (j0 := D.toNat) (by first | decide | omega), hj3]
    refine ex_st 2 (pc' := 42) (ls' := [(1, xi D), (0, xr 143)]) (st' := [xi 10, xi ((D + 3) + s.2.1), xr 143]) rfl ?_
    refine ex_irem rfl (by first | omega | (constructor <;> omega) | assumption) (by first | omega | (constructor <;> omega) | assumption) (by decide) ?_
    refine ex_pfi rfl (by decide) (rfl : xSH[143]? = some _) (by decide) rfl (by decide) (fun h => by cases h) ?_
    refine ex_st 2 (pc' := 48) (ls' := [(1, xi D), (0, xr 143)]) (st' := [xr 143, xr 143]) rfl ?_
    refine ex_gfi rfl (by decide) (rfl : xSH[143]? = some _) (by decide) (by decide) rfl ?_
    rw [x_up_far (k := 143) (j := 4) (k0 := 143) (j0 := 3) (by decide), x_up_far (k := 143) (j := 4) (k0 := 149) (j0 := D.toNat) (by first | decide | omega), hj4]
    refine ex_st 2 (pc' := 53) (ls' := [(1, xi D), (0, xr 143)]) (st' := [xi (((s.2.2.1 : Int)) + 1), xr 143]) rfl ?_
    refine ex_pfi rfl (by decide) (rfl : xSH[143]? = some _) (by decide) rfl (by decide) (fun h => by cases h) ?_
    refine ex_retv rfl rfl ?_
    generalize hM : (x_up (x_up (x_up J 149 D.toNat ((s.2.2.2 D.toNat) + 1)) 143 3 (((D + 3) + s.2.1).tmod 10)) 143 4 (((s.2.2.1 : Int)) + 1)) = K
    have hK : ∀ k j, ¬ GFM k j → K k j = I k j := fun k j hk => by unfold GFM at hk; rw [← hM]; (repeat rw [x_up_far (by omega)]); exact hJ _ _ (by omega)
    have h3 : K 143 3 = (sp_go (sp_D kd vv vo ba ro cd we en cc qv c n ag) s).2.1 := by rw [hgo]; dsimp only; rw [if_pos (by omega), ← hM]; (repeat (first | rw [x_up_far (by omega)] | rw [x_up_at2 (by omega) (by omega)]))
    have h4 : K 143 4 = ((s.2.2.1 + 1 : Nat) : Int) := by rw [← hM]; (repeat (first | rw [x_up_far (by omega)] | rw [x_up_at2 (by omega) (by omega)])); omega
    have hd : ∀ x, x < 5 → K 149 x = (sp_go (sp_D kd vv vo ba ro cd we en cc qv c n ag) s).2.2.2 x := fun x hx => by
      rw [hgo, ← hM]
      dsimp only
      by_cases hx2 : (x : Int) = D
      · rw [if_pos ⟨by omega, hx2⟩, x_up_far (by omega), x_up_far (by omega), x_up_at2 rfl (by omega), show D.toNat = x by omega]
      · rw [if_neg (fun q => hx2 q.2), x_up_far (by omega), x_up_far (by omega), x_up_far (by omega)]; exact hdn x hx
    exact ⟨rfl, K, rfl, SM.go (J := I) hS hse hI hK h3 h4 hd, hK⟩
theorem lp_Gpass {sc : List Int} {L : Nat → Nat → Int64} {c : Nat} {kd : Nat → Nat} {vv vo : Nat → Int} {ba ro : Nat → Nat → Int} {t : Int} {T nn cc : Nat} {cd we : Nat → Int} {en : Nat → Nat} {qv : Int} {n : Nat} {ag : Nat → Nat} {Q : Option xPV → xMem → Prop} {u : Nat} (hu : u ≤ 60) (i : Nat) (hi : i ≤ u) (s : St4) (I : Nat → Nat → Int) (hS : SW I 1 c kd vv vo ba ro s) (hI : SI s) (hse : s.2.2.1 + (u - i) < 50000) (hX : TRx I t T nn cc cd we en qv) (ht : I 1 7 = t) (hn : I 1 4 = (n : Int)) (hn5 : n ≤ 5) (hag : ∀ k, k < n → I 4 k = (ag k : Int) ∧ ag k < 5) (kk : ∀ I' : Nat → Nat → Int, SW I' 1 c kd vv vo ba ro (sp_it (sp_D kd vv vo ba ro cd we en cc qv c n ag) (u - i) s) → (∀ k j, ¬ GFW 1 k j → I' k j = I k j) → x_Ex sc 29 xM_G_pass 52 [(2, xi (↑u)), (0, xr 0), (1, xi (↑u))] [] (xSH, I', L) Q) : x_Ex sc 29 xM_G_pass 33 [(2, xi (↑i)), (0, xr 0), (1, xi (↑u))] [] (xSH, I, L) Q := by
  refine ex_st 2 (pc' := 35) (ls' := [(2, xi (↑i)), (0, xr 0), (1, xi (↑u))]) (st' := [xi (↑u), xi (↑i)]) rfl ?_
  refine ex_ic rfl (by constructor <;> omega) (by constructor <;> omega) (fun (h0 : (↑u : Int) ≤ (↑i : Int)) => ?_) (fun (h0 : ¬ (↑u : Int) ≤ (↑i : Int)) => ?_)
  · obtain rfl : i = u := by omega
    rw [show i - i = 0 by omega] at kk
    exact kk I hS (fun _ _ _ => rfl)
  · refine ex_st 3 (pc' := 43) (ls' := [(2, xi (↑i)), (0, xr 0), (1, xi (↑u))]) (st' := [xr 1, xr 0]) rfl ?_
    refine ex_callQ (ct_G_goOne (L := L) (W := 1) WS.mk1 rfl rfl hS hI (by omega) hX ht hn hn5 hag) (by decide) rfl ⟨rfl, rfl, rfl⟩ ⟨Nat.le_of_ble_eq_true rfl, rfl, rfl⟩ (Nat.le_of_ble_eq_true rfl) rfl (fun ra m2 hQ => ?_)
    obtain ⟨rfl, I1, rfl, hS1, hF1⟩ := hQ
    refine ex_st 2 (pc' := 33) (ls' := [(2, xi ((↑i) + 1)), (0, xr 0), (1, xi (↑u))]) (st' := []) rfl ?_
    have hsu : sp_it (sp_D kd vv vo ba ro cd we en cc qv c n ag) (u - i) s = sp_it (sp_D kd vv vo ba ro cd we en cc qv c n ag) (u - (i + 1)) (sp_go (sp_D kd vv vo ba ro cd we en cc qv c n ag) s) := by rw [show u - i = (u - (i + 1)) + 1 by omega]; rfl
    have hse1 : (sp_go (sp_D kd vv vo ba ro cd we en cc qv c n ag) s).2.2.1 = s.2.2.1 + 1 := rfl
    refine ex_pm _ (fun i => by rcases i with _ | _ | _ | _ | _ | _ | _ | _ | _ | i <;> first | (right; rfl) | (left; rfl)) (lp_Gpass hu (i + 1) (by omega) (sp_go (sp_D kd vv vo ba ro cd we en cc qv c n ag) s) I1 hS1 hI.go (by rw [hse1]; omega) (hX.fr (fun k j a b => hF1 _ _ (by unfold GFW; omega))) (by rw [hF1 _ _ (by unfold GFW; omega)]; exact ht) (by rw [hF1 _ _ (by unfold GFW; omega)]; exact hn) hn5 (fun k hk => by rw [hF1 _ _ (by unfold GFW; omega)]; exact hag k hk) (fun I' g1 g2 => ?_))
    rw [← hsu] at g1
    exact kk I' g1 (fun k j hk => by rw [g2 k j hk, hF1 k j hk])
termination_by u - i
decreasing_by all_goals omega
theorem lp_Gon {sc : List Int} {L : Nat → Nat → Int64} {c : Nat} {kd : Nat → Nat} {vv vo : Nat → Int} {ba ro : Nat → Nat → Int} {t : Int} {T nn cc : Nat} {cd we : Nat → Int} {en : Nat → Nat} {qv : Int} {n : Nat} {ag : Nat → Nat} {Q : Option xPV → xMem → Prop} {w1 : Int} {u : Nat} (hu : u ≤ 60) (i : Nat) (hi : i ≤ u) (s : St4) (I : Nat → Nat → Int) (hS : SW I 57 c kd vv vo ba ro s) (hI : SI s) (hse : s.2.2.1 + (u - i) < 50000) (hX : TRx I t T nn cc cd we en qv) (ht : I 57 7 = t) (hn : I 57 4 = (n : Int)) (hn5 : n ≤ 5) (hag : ∀ k, k < n → I 60 k = (ag k : Int) ∧ ag k < 5) (kk : ∀ I' : Nat → Nat → Int, SW I' 57 c kd vv vo ba ro (sp_it (sp_D kd vv vo ba ro cd we en cc qv c n ag) (u - i) s) → (∀ k j, ¬ GFW 57 k j → I' k j = I k j) → x_Ex sc 29 xM_G_on 64 [(3, xi (↑u)), (0, xr 0), (1, xi (↑u)), (2, xi w1)] [] (xSH, I', L) Q) : x_Ex sc 29 xM_G_on 45 [(3, xi (↑i)), (0, xr 0), (1, xi (↑u)), (2, xi w1)] [] (xSH, I, L) Q := by
  refine ex_st 2 (pc' := 47) (ls' := [(3, xi (↑i)), (0, xr 0), (1, xi (↑u)), (2, xi w1)]) (st' := [xi (↑u), xi (↑i)]) rfl ?_
  refine ex_ic rfl (by constructor <;> omega) (by constructor <;> omega) (fun (h0 : (↑u : Int) ≤ (↑i : Int)) => ?_) (fun (h0 : ¬ (↑u : Int) ≤ (↑i : Int)) => ?_)
  · obtain rfl : i = u := by omega
    rw [show i - i = 0 by omega] at kk
    exact kk I hS (fun _ _ _ => rfl)
  · refine ex_st 3 (pc' := 55) (ls' := [(3, xi (↑i)), (0, xr 0), (1, xi (↑u)), (2, xi w1)]) (st' := [xr 57, xr 0]) rfl ?_
    refine ex_callQ (ct_G_goOne (L := L) (W := 57) WS.mk57 rfl rfl hS hI (by omega) hX ht hn hn5 hag) (by decide) rfl ⟨rfl, rfl, rfl⟩ ⟨Nat.le_of_ble_eq_true rfl, rfl, rfl⟩ (Nat.le_of_ble_eq_true rfl) rfl (fun ra m2 hQ => ?_)
    obtain ⟨rfl, I1, rfl, hS1, hF1⟩ := hQ
    refine ex_st 2 (pc' := 45) (ls' := [(3, xi ((↑i) + 1)), (0, xr 0), (1, xi (↑u)), (2, xi w1)]) (st' := []) rfl ?_
    have hsu : sp_it (sp_D kd vv vo ba ro cd we en cc qv c n ag) (u - i) s = sp_it (sp_D kd vv vo ba ro cd we en cc qv c n ag) (u - (i + 1)) (sp_go (sp_D kd vv vo ba ro cd we en cc qv c n ag) s) := by rw [show u - i = (u - (i + 1)) + 1 by omega]; rfl
    have hse1 : (sp_go (sp_D kd vv vo ba ro cd we en cc qv c n ag) s).2.2.1 = s.2.2.1 + 1 := rfl
    refine ex_pm _ (fun i => by rcases i with _ | _ | _ | _ | _ | _ | _ | _ | _ | i <;> first | (right; rfl) | (left; rfl)) (lp_Gon hu (i + 1) (by omega) (sp_go (sp_D kd vv vo ba ro cd we en cc qv c n ag) s) I1 hS1 hI.go (by rw [hse1]; omega) (hX.fr (fun k j a b => hF1 _ _ (by unfold GFW; omega))) (by rw [hF1 _ _ (by unfold GFW; omega)]; exact ht) (by rw [hF1 _ _ (by unfold GFW; omega)]; exact hn) hn5 (fun k hk => by rw [hF1 _ _ (by unfold GFW; omega)]; exact hag k hk) (fun I' g1 g2 => ?_))
    rw [← hsu] at g1
    exact kk I' g1 (fun k j hk => by rw [g2 k j hk, hF1 k j hk])
termination_by u - i
decreasing_by all_goals omega
theorem lp_mgo {sc : List Int} {L : Nat → Nat → Int64} {c : Nat} {kd : Nat → Nat} {vv vo : Nat → Int} {ba ro : Nat → Nat → Int} {cc : Nat} {cd we : Nat → Int} {en : Nat → Nat} {qv : Int} {n : Nat} {ag : Nat → Nat} {Q : Option xPV → xMem → Prop} {u : Nat} (hu : u ≤ 60) (i : Nat) (hi : i ≤ u) (s : St4) (I : Nat → Nat → Int) (hS : SM I c kd vv vo ba ro s) (hI : SI s) (hse : s.2.2.1 + (u - i) < 50000) (hT : MT I cc cd we en qv) (hn : I 143 2 = (n : Int)) (hn5 : n ≤ 5) (hag : ∀ k, k < n → I 150 k = (ag k : Int) ∧ ag k < 5) {md : Int} (hmd : I 143 32 = md) (hmr : x_R md) (hms : (s.2.2.1 : Int) + (u - i : Nat) ≤ md) (kk : ∀ I' : Nat → Nat → Int, SM I' c kd vv vo ba ro (sp_it (sp_D kd vv vo ba ro cd we en cc qv c n ag) (u - i) s) → (∀ k j, ¬ GFM k j → I' k j = I k j) → x_Ex sc 27 xM_m_goSessions 17 [(2, xi (↑u)), (0, xr 143), (1, xi (↑u))] [] (xSH, I', L) Q) : x_Ex sc 27 xM_m_goSessions 2 [(2, xi (↑i)), (0, xr 143), (1, xi (↑u))] [] (xSH, I, L) Q := by
  refine ex_st 2 (pc' := 4) (ls' := [(2, xi (↑i)), (0, xr 143), (1, xi (↑u))]) (st' := [xi (↑u), xi (↑i)]) rfl ?_
  refine ex_ic rfl (by constructor <;> omega) (by constructor <;> omega) (fun (h0 : (↑u : Int) ≤ (↑i : Int)) => ?_) (fun (h0 : ¬ (↑u : Int) ≤ (↑i : Int)) => ?_)
  · obtain rfl : i = u := by omega
    rw [show i - i = 0 by omega] at kk
    exact kk I hS (fun _ _ _ => rfl)
  · refine ex_st 1 (pc' := 8) (ls' := [(2, xi (↑i)), (0, xr 143), (1, xi (↑u))]) (st' := [xr 143]) rfl ?_
    refine ex_callQ (ct_m_goSession (L := L) hS hI (by omega) hT hn hn5 hag hmd hmr (by omega)) (by decide) rfl ⟨rfl, rfl, rfl⟩ ⟨Nat.le_of_ble_eq_true rfl, rfl, rfl⟩ (Nat.le_of_ble_eq_true rfl) rfl (fun ra m2 hQ => ?_)
    obtain ⟨rfl, I1, rfl, hS1, hF1⟩ := hQ
    refine ex_st 2 (pc' := 2) (ls' := [(2, xi ((↑i) + 1)), (0, xr 143), (1, xi (↑u))]) (st' := []) rfl ?_
    have hsu : sp_it (sp_D kd vv vo ba ro cd we en cc qv c n ag) (u - i) s = sp_it (sp_D kd vv vo ba ro cd we en cc qv c n ag) (u - (i + 1)) (sp_go (sp_D kd vv vo ba ro cd we en cc qv c n ag) s) := by rw [show u - i = (u - (i + 1)) + 1 by omega]; rfl
    have hse1 : (sp_go (sp_D kd vv vo ba ro cd we en cc qv c n ag) s).2.2.1 = s.2.2.1 + 1 := rfl
    refine ex_pm _ (fun i => by rcases i with _ | _ | _ | _ | _ | _ | _ | _ | _ | i <;> first | (right; rfl) | (left; rfl)) (lp_mgo hu (i + 1) (by omega) (sp_go (sp_D kd vv vo ba ro cd we en cc qv c n ag) s) I1 hS1 hI.go (by rw [hse1]; omega) (hT.fr3 (hF1 _ _ (by unfold GFM; omega)) (fun k j a b => hF1 _ _ (by unfold GFM; omega))) (by rw [hF1 _ _ (by unfold GFM; omega)]; exact hn) hn5 (fun k hk => by rw [hF1 _ _ (by unfold GFM; omega)]; exact hag k hk) (by rw [hF1 _ _ (by unfold GFM; omega)]; exact hmd) hmr (by rw [hse1]; omega) (fun I' g1 g2 => ?_))
    rw [← hsu] at g1
    exact kk I' g1 (fun k j hk => by rw [g2 k j hk, hF1 k j hk])
termination_by u - i
decreasing_by all_goals omega
theorem ct_m_goSessions {sc : List Int} {I : Nat → Nat → Int} {L : Nat → Nat → Int64} {c : Nat} {kd : Nat → Nat} {vv vo : Nat → Int} {ba ro : Nat → Nat → Int} {s : St4} (hS : SM I c kd vv vo ba ro s) (hI : SI s) {u : Nat} (hu : u ≤ 60) (hse : s.2.2.1 + u < 50000) {cc : Nat} {cd we : Nat → Int} {en : Nat → Nat} {qv : Int} (hT : MT I cc cd we en qv) {n : Nat} {ag : Nat → Nat} (hn : I 143 2 = (n : Int)) (hn5 : n ≤ 5) (hag : ∀ k, k < n → I 150 k = (ag k : Int) ∧ ag k < 5) {md : Int} (hmd : I 143 32 = md) (hmr : x_R md) (hms : (s.2.2.1 : Int) + u ≤ md) : x_CQ sc 28 xN_m_goSessions [xr 143, xi (↑u)] (xSH, I, L) (fun r m' => r = none ∧ ∃ I', m' = (xSH, I', L) ∧ SM I' c kd vv vo ba ro (sp_it (sp_D kd vv vo ba ro cd we en cc qv c n ag) u s) ∧ ∀ k j, ¬ GFM k j → I' k j = I k j) := by
  refine x_CQ.of (M := xM_m_goSessions) rfl (Nat.le_of_ble_eq_true rfl) ?_
  refine ex_st 2 (pc' := 2) (ls' := [(2, xi 0), (0, xr 143), (1, xi (↑u))]) (st' := []) rfl ?_
  refine lp_mgo hu 0 (Nat.zero_le _) s I hS hI (by omega) hT hn hn5 hag hmd hmr (by omega) (fun I' g1 g2 => ?_)
  refine ex_retv rfl rfl ?_
  exact ⟨rfl, I', rfl, g1, g2⟩
theorem Rl.setS {I K : Nat → Nat → Int} {L : Nat → Nat → Int64} (h : Rl I L) (hf : ∀ k j, ¬ (x_scr k j ∨ (k = 1 ∧ (j = 5 ∨ j = 6)) ∨ (k = 3 ∧ j < 5) ∨ (k = 143 ∧ (j = 3 ∨ j = 4)) ∨ (k = 149 ∧ j < 5)) → K k j = I k j) (h5 : K 1 5 = K 143 3 ∧ 0 ≤ K 143 3 ∧ K 143 3 ≤ 9) (h6 : K 1 6 = K 143 4 ∧ 0 ≤ K 143 4 ∧ K 143 4 ≤ 9999) (hd : ∀ x, x < 5 → K 3 x = K 149 x ∧ 0 ≤ K 149 x ∧ K 149 x ≤ K 143 4) : Rl K L := by
  have hf : ∀ k j, ¬ ((57 ≤ k ∧ k ≤ 84) ∨ (92 ≤ k ∧ k ≤ 103) ∨ k = 158 ∨ (160 ≤ k ∧ k ≤ 164) ∨ (k = 85 ∧ j = 2) ∨ (k = 104 ∧ 2 ≤ j) ∨ (k = 143 ∧ (j = 15 ∨ j = 16 ∨ j = 25 ∨ j = 26 ∨ j = 27 ∨ j = 33 ∨ j = 34 ∨ j = 35)) ∨ (k = 1 ∧ (j = 5 ∨ j = 6)) ∨ (k = 3 ∧ j < 5) ∨ (k = 143 ∧ (j = 3 ∨ j = 4)) ∨ (k = 149 ∧ j < 5)) → K k j = I k j := fun k j hk => hf k j (by unfold x_scr; omega)
  obtain ⟨⟨hNs, hNo, hNa, hNb, hNr, hNd, hNg, hNe, hNp, hNk⟩, ⟨gs, go, ga, gb, gr, gd, gg, ge, gp, gk⟩, hT, hX, hC, hH, hQ⟩ := h
  refine ⟨⟨?_, hNo.fr (by intros; (repeat rw [hf _ _ (by omega)]); try rfl) (by intros; (repeat rw [hf _ _ (by omega)]); try rfl), hNa.fr (by intros; (repeat rw [hf _ _ (by omega)]); try rfl) (by (repeat rw [hf _ _ (by omega)]); try rfl), hNb.fr (by intros; (repeat rw [hf _ _ (by omega)]); try rfl) (by intros; (repeat rw [hf _ _ (by omega)]); try rfl), hNr.fr (by intros; (repeat rw [hf _ _ (by omega)]); try rfl) (by intros; (repeat rw [hf _ _ (by omega)]); try rfl), hd, hNg.fr ⟨by (repeat rw [hf _ _ (by omega)]); try rfl, by (repeat rw [hf _ _ (by omega)]); try rfl⟩ (by intros; (repeat rw [hf _ _ (by omega)]); try rfl) (by intros; (repeat rw [hf _ _ (by omega)]); try rfl), hNe.fr ⟨by (repeat rw [hf _ _ (by omega)]); try rfl, by (repeat rw [hf _ _ (by omega)]); try rfl, by (repeat rw [hf _ _ (by omega)]); try rfl⟩ (by intros; (repeat rw [hf _ _ (by omega)]); try rfl) (by intros; (repeat rw [hf _ _ (by omega)]); try rfl), hNp.fr ⟨by (repeat rw [hf _ _ (by omega)]); try rfl, by (repeat rw [hf _ _ (by omega)]); try rfl, by (repeat rw [hf _ _ (by omega)]); try rfl⟩ (by intros; (repeat rw [hf _ _ (by omega)]); try rfl) (by intros; (repeat rw [hf _ _ (by omega)]); try rfl), hNk.fr ⟨by (repeat rw [hf _ _ (by omega)]); try rfl, by (repeat rw [hf _ _ (by omega)]); try rfl, by (repeat rw [hf _ _ (by omega)]); try rfl⟩ (by intros; (repeat rw [hf _ _ (by omega)]); try rfl) (by intros; (repeat rw [hf _ _ (by omega)]); try rfl)⟩, ⟨gs.fr ⟨by (repeat rw [hf _ _ (by omega)]); try rfl, by (repeat rw [hf _ _ (by omega)]); try rfl, by (repeat rw [hf _ _ (by omega)]); try rfl, by (repeat rw [hf _ _ (by omega)]); try rfl, by (repeat rw [hf _ _ (by omega)]); try rfl, by (repeat rw [hf _ _ (by omega)]); try rfl, by (repeat rw [hf _ _ (by omega)]); try rfl, by (repeat rw [hf _ _ (by omega)]); try rfl, by (repeat rw [hf _ _ (by omega)]); try rfl⟩, go.fr (by intros; (repeat rw [hf _ _ (by omega)]); try rfl) (by intros; (repeat rw [hf _ _ (by omega)]); try rfl), ga.fr (by intros; (repeat rw [hf _ _ (by omega)]); try rfl) (by (repeat rw [hf _ _ (by omega)]); try rfl), gb.fr (by intros; (repeat rw [hf _ _ (by omega)]); try rfl) (by intros; (repeat rw [hf _ _ (by omega)]); try rfl), gr.fr (by intros; (repeat rw [hf _ _ (by omega)]); try rfl) (by intros; (repeat rw [hf _ _ (by omega)]); try rfl), gd.fr (by intros; (repeat rw [hf _ _ (by omega)]); try rfl) (by intros; (repeat rw [hf _ _ (by omega)]); try rfl) (by (repeat rw [hf _ _ (by omega)]); try rfl), gg.fr ⟨by (repeat rw [hf _ _ (by omega)]); try rfl, by (repeat rw [hf _ _ (by omega)]); try rfl⟩ (by intros; (repeat rw [hf _ _ (by omega)]); try rfl) (by intros; (repeat rw [hf _ _ (by omega)]); try rfl), ge.fr ⟨by (repeat rw [hf _ _ (by omega)]); try rfl, by (repeat rw [hf _ _ (by omega)]); try rfl, by (repeat rw [hf _ _ (by omega)]); try rfl⟩ (by intros; (repeat rw [hf _ _ (by omega)]); try rfl) (by intros; (repeat rw [hf _ _ (by omega)]); try rfl), gp.fr ⟨by (repeat rw [hf _ _ (by omega)]); try rfl, by (repeat rw [hf _ _ (by omega)]); try rfl, by (repeat rw [hf _ _ (by omega)]); try rfl⟩ (by intros; (repeat rw [hf _ _ (by omega)]); try rfl) (by intros; (repeat rw [hf _ _ (by omega)]); try rfl), gk.fr ⟨by (repeat rw [hf _ _ (by omega)]); try rfl, by (repeat rw [hf _ _ (by omega)]); try rfl, by (repeat rw [hf _ _ (by omega)]); try rfl⟩ (by intros; (repeat rw [hf _ _ (by omega)]); try rfl) (by intros; (repeat rw [hf _ _ (by omega)]); try rfl)⟩, hT.fr ⟨by (repeat rw [hf _ _ (by omega)]); try rfl, by (repeat rw [hf _ _ (by omega)]); try rfl⟩ (by intros; (repeat rw [hf _ _ (by omega)]); try rfl) (by intros; (repeat rw [hf _ _ (by omega)]); try rfl) (by intros; (repeat rw [hf _ _ (by omega)]); try rfl), hX.fr ⟨by (repeat rw [hf _ _ (by omega)]); try rfl, by (repeat rw [hf _ _ (by omega)]); try rfl⟩ (by intros; (repeat rw [hf _ _ (by omega)]); try rfl), hC.fr ⟨by (repeat rw [hf _ _ (by omega)]); try rfl, by (repeat rw [hf _ _ (by omega)]); try rfl⟩ (by intros; (repeat rw [hf _ _ (by omega)]); try rfl), hH.fr ⟨by (repeat rw [hf _ _ (by omega)]); try rfl, by (repeat rw [hf _ _ (by omega)]); try rfl, by (repeat rw [hf _ _ (by omega)]); try rfl⟩ (by intros; (repeat rw [hf _ _ (by omega)]); try rfl) (by intros; (repeat rw [hf _ _ (by omega)]); try rfl), hQ.fr (by intros; (repeat rw [hf _ _ (by omega)]); try rfl) (by intros; (repeat rw [hf _ _ (by omega)]); try rfl) (by intros; (repeat rw [hf _ _ (by omega)]); try rfl) (by intros; (repeat rw [hf _ _ (by omega)]); try rfl)⟩
  unfold RNs at *
  rw [hf 1 1 (by omega), hf 143 0 (by omega), hf 1 7 (by omega), hf 143 13 (by omega), hf 143 12 (by omega)]
  omega
