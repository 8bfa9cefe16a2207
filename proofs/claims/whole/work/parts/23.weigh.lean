/-! Ballot: weigh -/
/-- the shapes of a world -/
def WS (W : Nat) : Prop := xSH[W]? = some (7, 11, [some (W + 1), none, some (W + 2), some (W + 3), none, none, none, none, some (W + 4), some (W + 6), some (W + 8)]) ∧ xSH[W + 1]? = some (32, 6, [some (W + 10), some (W + 13), some (W + 16), some (W + 19), some (W + 22), some (W + 25)]) ∧ (∀ i, i < 6 → xSH[W + 10 + 3 * i]? = some (2, 6, [none, none, none, none, some (W + 10 + 3 * i + 1), some (W + 10 + 3 * i + 2)]) ∧ xSH[W + 10 + 3 * i + 1]? = some (20, 5, []) ∧ xSH[W + 10 + 3 * i + 2]? = some (20, 4, [])) ∧ W + 28 ≤ 85
theorem WS.mk1 : WS 1 := ⟨rfl, rfl, fun i hi => by rcases (show i = 0 ∨ i = 1 ∨ i = 2 ∨ i = 3 ∨ i = 4 ∨ i = 5 by omega) with rfl | rfl | rfl | rfl | rfl | rfl <;> exact ⟨rfl, rfl, rfl⟩, by decide⟩
theorem WS.mk29 : WS 29 := ⟨rfl, rfl, fun i hi => by rcases (show i = 0 ∨ i = 1 ∨ i = 2 ∨ i = 3 ∨ i = 4 ∨ i = 5 by omega) with rfl | rfl | rfl | rfl | rfl | rfl <;> exact ⟨rfl, rfl, rfl⟩, by decide⟩
theorem WS.mk57 : WS 57 := ⟨rfl, rfl, fun i hi => by rcases (show i = 0 ∨ i = 1 ∨ i = 2 ∨ i = 3 ∨ i = 4 ∨ i = 5 by omega) with rfl | rfl | rfl | rfl | rfl | rfl <;> exact ⟨rfl, rfl, rfl⟩, by decide⟩
theorem x_aaW (W : Nat) {i : Nat} (hi : i < 6) : ([some (W + 10), some (W + 13), some (W + 16), some (W + 19), some (W + 22), some (W + 25)] : List (Option Nat))[i]? = some (some (W + 10 + 3 * i)) := by
  rcases (show i = 0 ∨ i = 1 ∨ i = 2 ∨ i = 3 ∨ i = 4 ∨ i = 5 by omega) with rfl | rfl | rfl | rfl | rfl | rfl <;> rfl
/-- a world's officials, egg and session -/
def WW (I : Nat → Nat → Int) (W c : Nat) (kd : Nat → Nat) (vv vo aw : Nat → Int) (ba ro : Nat → Nat → Int) (egg : Int) (se : Nat) : Prop :=
  I W 1 = (c : Int) ∧ c ≤ 6 ∧ I W 5 = egg ∧ (0 ≤ egg ∧ egg ≤ 99) ∧ I W 6 = (se : Int) ∧ se < 100000 ∧ ∀ p, p < c → OW I (W + 10 + 3 * p) (kd p) (vv p) (ro p) ∧ I (W + 10 + 3 * p) 2 = vo p ∧ (0 ≤ vo p ∧ vo p ≤ 9) ∧ I (W + 10 + 3 * p) 3 = aw p ∧ x_R (aw p) ∧ (∀ x, x < 5 → I (W + 10 + 3 * p + 1) x = ba p x ∧ 0 ≤ ba p x ∧ ba p x ≤ 9) ∧ (-1000 ≤ vv p ∧ vv p ≤ 1000) ∧ ∀ j, j < 4 → -1000 ≤ ro p j ∧ ro p j ≤ 1000
/-- the facts of an official and a thing -/
def sp_facts (p k : Nat) (v : Int) (x : Nat) (egg : Int) (se : Nat) (j : Nat) : Int := if j = 0 then (p : Int) else if j = 1 then (k : Int) else if j = 2 then v else if j = 3 then (x : Int) else if j = 4 then egg else ((se % 10 : Nat) : Int)
/-- what the p-th likes -/
def sp_lk (kd : Nat → Nat) (vv : Nat → Int) (ba ro : Nat → Nat → Int) (egg : Int) (se : Nat) (cd we : Nat → Int) (en : Nat → Nat) (cc : Nat) (p x : Nat) : Int :=
  sp_like (kd p) (vv p) (ro p) (ba p x + sp_sw (sp_facts p (kd p) (vv p) x egg se) cd we en cc 0 0) x egg se
theorem sp_sw_bd {fa cd we : Nat → Int} {en : Nat → Nat} : ∀ (n i fr : Nat), (∀ j, j < i + n → -99 ≤ we j ∧ we j ≤ 99) → -99 * (n : Int) ≤ sp_sw fa cd we en n i fr ∧ sp_sw fa cd we en n i fr ≤ 99 * n
  | 0, _, _, _ => by simp [sp_sw]
  | n + 1, i, fr, h => by
    have h1 := sp_sw_bd n (i + 1) (en i) (fun j hj => h j (by omega)) (fa := fa) (cd := cd) (en := en)
    have h2 := h i (by omega)
    unfold sp_sw
    split <;> omega
theorem CW.fr {I I' : Nat → Nat → Int} {T n : Nat} {cd : Nat → Int} (h : CW I T n cd) (hf : ∀ j, I' (T + 3) j = I (T + 3) j) : CW I' T n cd := ⟨h.1, fun j hj => by rw [hf]; exact h.2 j hj⟩
theorem TW.fr {I I' : Nat → Nat → Int} {T c n : Nat} {we : Nat → Int} {en : Nat → Nat} (h : TW I T c n we en) (hf : ∀ k j, T ≤ k → k < T + 3 → I' k j = I k j) : TW I' T c n we en := by
  obtain ⟨h1, h2, h3, h4⟩ := h
  exact ⟨by rw [hf _ _ (by omega) (by omega)]; exact h1, h2, fun j hj => by rw [hf _ _ (by omega) (by omega)]; exact h3 j hj, fun j hj => by rw [hf _ _ (by omega) (by omega)]; exact h4 j hj⟩
theorem OW.fr {I I' : Nat → Nat → Int} {O k : Nat} {v : Int} {row : Nat → Int} (h : OW I O k v row) (hf : ∀ k j, O ≤ k → k < O + 3 → I' k j = I k j) : OW I' O k v row := by
  obtain ⟨h1, h2, h3, h4, h5⟩ := h
  exact ⟨by rw [hf _ _ (by omega) (by omega)]; exact h1, h2, by rw [hf _ _ (by omega) (by omega)]; exact h3, h4, fun j hj => by rw [hf _ _ (by omega) (by omega)]; exact h5 j hj⟩
theorem sp_like_R {k : Nat} {v : Int} {row : Nat → Int} {sum : Int} {a : Nat} {egg : Int} {se : Nat} (hv : -1000 ≤ v ∧ v ≤ 1000) (hr : ∀ j, j < 4 → -1000 ≤ row j ∧ row j ≤ 1000) (hs : -1000 ≤ sum ∧ sum ≤ 1000) (he : 0 ≤ egg ∧ egg ≤ 99) : x_R (sp_like k v row sum a egg se) := by
  have h1 := hr (se % 4) (by omega)
  have h2 : sum.tdiv 2 = if 0 ≤ sum then sum / 2 else -((-sum) / 2) := by
    split
    · rw [Int.tdiv_eq_ediv_of_nonneg (by assumption)]
    · have h3 : sum = -(-sum) := by omega
      rw [h3, Int.neg_tdiv, Int.tdiv_eq_ediv_of_nonneg (by omega), Int.neg_neg]
  have h4 : -1000 ≤ sp_ev v a ∧ sp_ev v a ≤ 1000 := by unfold sp_ev; split <;> omega
  unfold sp_like
  rw [h2]
  repeat' split
  all_goals constructor <;> omega

theorem lp_wgI {sc : List Int} {I : Nat → Nat → Int} {L : Nat → Nat → Int64} {W c : Nat} {kd : Nat → Nat} {vv vo aw : Nat → Int} {ba ro : Nat → Nat → Int} {egg : Int} {se : Nat} (hWS : WS W) (hWW : WW I W c kd vv vo aw ba ro egg se) {T n cc : Nat} {cd we : Nat → Int} {en : Nat → Nat} (hTS : TS T) (hC : CW I T n cd) (hTW : TW I T cc n we en) (hm : ∀ a b, a ≤ b → b < cc → en a ≤ en b) (hTr : T + 3 < 92 ∨ 104 ≤ T) {Q : Option xPV → xMem → Prop} {I1 : Nat → Nat → Int} (hA : ∀ k j, k < 92 ∨ 102 < k → I1 k j = I k j) {i : Nat} (hi : i < c) (hf0 : I1 102 0 = (i : Int)) (hf1 : I1 102 1 = (kd i : Int)) (hf2_ : I1 102 2 = vv i) (hf4 : I1 102 4 = egg) (hf5 : I1 102 5 = ((se % 10 : Nat) : Int)) (x : Nat) (hx : x ≤ 5) (hd : ∀ y, y < x → I1 (94 + i) y = sp_lk kd vv ba ro egg se cd we en cc i y) (hk : ∀ I2 : Nat → Nat → Int, (∀ k j, k ≠ 94 + i → k ≠ 102 → I2 k j = I1 k j) → (I2 102 4 = egg ∧ I2 102 5 = ((se % 10 : Nat) : Int)) → (∀ y, y < 5 → I2 (94 + i) y = sp_lk kd vv ba ro egg se cd we en cc i y) → x_Ex sc 3 xM_B_weigh 46 [(3, xi ((i + 1 : Nat) : Int)), (0, xr 92), (1, xr W), (2, xr T)] [] (xSH, I2, L) Q) : x_Ex sc 3 xM_B_weigh 125 [(5, xi (↑x)), (3, xi (↑i)), (4, xr (W + 10 + 3 * i)), (0, xr 92), (1, xr W), (2, xr T)] [] (xSH, I1, L) Q := by
  obtain ⟨hW0, hW1, hWo, hWl⟩ := id hWS
  obtain ⟨hT, hT1, hT2, hT3, hlt⟩ := id hTS
  obtain ⟨hc, hc6, hegg, hegb, hse, hse5, hp⟩ := id hWW
  refine ex_st 2 (pc' := 128) (ls' := [(5, xi (↑x)), (3, xi (↑i)), (4, xr (W + 10 + 3 * i)), (0, xr 92), (1, xr W), (2, xr T)]) (st' := [xi 5, xi (↑x)]) rfl ?_
  refine ex_ic rfl (by constructor <;> omega) (by decide) (fun (h0 : (5 : Int) ≤ (↑x : Int)) => ?_) (fun (h0 : ¬ (5 : Int) ≤ (↑x : Int)) => ?_)
  · refine ex_st 2 (pc' := 46) (ls' := [(3, xi ((↑i) + 1)), (5, xi (↑x)), (4, xr (W + 10 + 3 * i)), (0, xr 92), (1, xr W), (2, xr T)]) (st' := []) rfl ?_
    exact ex_pm _ (fun i => by rcases i with _ | _ | _ | _ | _ | _ | _ | _ | _ | i <;> first | (right; rfl) | (left; rfl)) (hk I1 (fun _ _ _ _ => rfl) ⟨hf4, hf5⟩ (fun y hy => hd y (by omega)))
  · refine ex_st 4 (pc' := 138) (ls' := [(5, xi (↑x)), (3, xi (↑i)), (4, xr (W + 10 + 3 * i)), (0, xr 92), (1, xr W), (2, xr T)]) (st' := [xi (↑x), xi 3, xr 102]) rfl ?_
    refine ex_iast (j := 3) rfl (by decide) (rfl : xSH[102]? = some _) (by decide) (by decide) (by decide) ?_
    obtain ⟨I2, hI2⟩ : ∃ I2, I2 = x_up I1 102 3 (↑x) := ⟨_, rfl⟩
    rw [← hI2]
    have hf2 : ∀ k j, k ≠ 102 → I2 k j = I1 k j := fun k j hk => by rw [hI2, x_up_ne hk]
    have hA2 : ∀ k j, k < 92 ∨ 102 < k → I2 k j = I k j := fun k j hk => by rw [hf2 k j (by omega)]; exact hA k j hk
    obtain ⟨ho, hvo, -, -, -, hba, -, -⟩ := hp i hi
    have hF2 : FW I2 (sp_facts i (kd i) (vv i) x egg se) := fun j hj => by
      have hvR := ho.2.2.2.1
      have hk6 := ho.2.1
      rcases (show j = 0 ∨ j = 1 ∨ j = 2 ∨ j = 3 ∨ j = 4 ∨ j = 5 by omega) with rfl | rfl | rfl | rfl | rfl | rfl <;> refine ⟨by rw [hI2]; simp [x_up, sp_facts, hf0, hf1, hf2_, hf4, hf5], ?_⟩ <;> simp only [sp_facts] <;> first | (constructor <;> omega) | assumption | exact hvR
    have hb2 : I2 (W + 10 + 3 * i + 1) x = ba i x := by rw [hA2 _ _ (by omega)]; exact (hba x (by omega)).1
    have hbb := (hba x (by omega)).2
    have hs9 := sp_sw_bd (fa := sp_facts i (kd i) (vv i) x egg se) (cd := cd) (we := we) (en := en) cc 0 0 (fun j hj => (hTW.2.2.1 j (by omega)).2)
    have hcc := hTW.2.1
    have he2 : I2 W 5 = egg := by rw [hA2 _ _ (by omega)]; exact hegg
    have hs2 : I2 W 6 = (se : Int) := by rw [hA2 _ _ (by omega)]; exact hse
    refine ex_st 1 (pc' := 141) (ls' := [(5, xi (↑x)), (3, xi (↑i)), (4, xr (W + 10 + 3 * i)), (0, xr 92), (1, xr W), (2, xr T)]) (st' := [xr (W + 10 + 3 * i)]) rfl ?_
    refine ex_gfr rfl (by omega) (hWo i (by omega)).1 (by decide) (by decide) rfl ?_
    refine ex_st 1 (pc' := 146) (ls' := [(5, xi (↑x)), (3, xi (↑i)), (4, xr (W + 10 + 3 * i)), (0, xr 92), (1, xr W), (2, xr T)]) (st' := [xi (↑x), xr (W + 10 + 3 * i + 1)]) rfl ?_
    refine ex_iald (j := x) rfl (by omega) (hWo i (by omega)).2.1 (by omega) (by omega) (by decide) ?_
    refine ex_st 3 (pc' := 152) (ls' := [(5, xi (↑x)), (3, xi (↑i)), (4, xr (W + 10 + 3 * i)), (0, xr 92), (1, xr W), (2, xr T)]) (st' := [xr 102, xr T, xi (I2 (W + 10 + 3 * i + 1) x)]) rfl ?_
    rw [hb2]
    refine ex_call (ct_Tr_swing hTS hF2 (hC.fr (fun j => hA2 _ _ (by omega))) (hTW.fr (fun k j h1 h2 => hA2 _ _ (by omega))) hm) (by decide) rfl ⟨rfl, rfl, rfl⟩ ⟨Nat.le_of_ble_eq_true rfl, rfl, rfl⟩ (Nat.le_of_ble_eq_true rfl) (x_recv_v (by omega) hT (by decide)) ?_
    refine ex_st 5 (pc' := 163) (ls' := [(6, xi ((ba i x) + (sp_sw (sp_facts i (kd i) (vv i) x egg se) cd we en cc 0 0))), (5, xi (↑x)), (3, xi (↑i)), (4, xr (W + 10 + 3 * i)), (0, xr 92), (1, xr W), (2, xr T)]) (st' := [xi (↑i), xr 93]) rfl ?_
    refine ex_aald (q := 94 + i) (j := i) rfl (by decide) (rfl : xSH[93]? = some _) (by decide) (by omega) (by omega) (by decide) (x_aa93 i (by omega)) (by omega) ?_
    refine ex_st 5 (pc' := 173) (ls' := [(6, xi ((ba i x) + (sp_sw (sp_facts i (kd i) (vv i) x egg se) cd we en cc 0 0))), (5, xi (↑x)), (3, xi (↑i)), (4, xr (W + 10 + 3 * i)), (0, xr 92), (1, xr W), (2, xr T)]) (st' := [xr W, xi (↑x), xi ((ba i x) + (sp_sw (sp_facts i (kd i) (vv i) x egg se) cd we en cc 0 0)), xr (W + 10 + 3 * i), xi (↑x), xr (94 + i)]) rfl ?_
    refine ex_gfi rfl (by omega) hW0 (by decide) (by decide) rfl ?_
    refine ex_st 1 (pc' := 177) (ls' := [(6, xi ((ba i x) + (sp_sw (sp_facts i (kd i) (vv i) x egg se) cd we en cc 0 0))), (5, xi (↑x)), (3, xi (↑i)), (4, xr (W + 10 + 3 * i)), (0, xr 92), (1, xr W), (2, xr T)]) (st' := [xr W, xi (I2 W 5), xi (↑x), xi ((ba i x) + (sp_sw (sp_facts i (kd i) (vv i) x egg se) cd we en cc 0 0)), xr (W + 10 + 3 * i), xi (↑x), xr (94 + i)]) rfl ?_
    refine ex_gfi rfl (by omega) hW0 (by decide) (by decide) rfl ?_
    rw [he2, hs2]
    refine ex_call (ct_O_likesBySum (hWo i (by omega)).1 (hWo i (by omega)).2.1 (hWo i (by omega)).2.2 (by omega) (ho.fr (fun k j h1 h2 => hA2 _ _ (by omega))) (by constructor <;> omega) (by constructor <;> omega) (by omega) hse5) (by decide) rfl ⟨rfl, rfl, rfl⟩ ⟨Nat.le_of_ble_eq_true rfl, rfl, rfl⟩ (Nat.le_of_ble_eq_true rfl) (x_recv_v (by omega) (hWo i (by omega)).1 (by decide)) ?_
    refine ex_iast (j := x) rfl (by omega) (x_sh94 i (by omega)) (by omega) (by omega) (by decide) ?_
    refine ex_st 2 (pc' := 125) (ls' := [(5, xi ((↑x) + 1)), (6, xi ((ba i x) + (sp_sw (sp_facts i (kd i) (vv i) x egg se) cd we en cc 0 0))), (3, xi (↑i)), (4, xr (W + 10 + 3 * i)), (0, xr 92), (1, xr W), (2, xr T)]) (st' := []) rfl ?_
    refine ex_pm _ (fun i => by rcases i with _ | _ | _ | _ | _ | _ | _ | _ | _ | i <;> first | (right; rfl) | (left; rfl)) (lp_wgI hWS hWW hTS hC hTW hm hTr (I1 := x_up I2 (94 + i) x (sp_lk kd vv ba ro egg se cd we en cc i x)) ?_ hi ?_ ?_ ?_ ?_ ?_ (x + 1) (by omega) ?_ ?_)
    · intro k j hk1; rw [x_up_ne (by omega)]; exact hA2 k j hk1
    · rw [x_up_ne (by omega), hI2]; simp [x_up]; assumption
    · rw [x_up_ne (by omega), hI2]; simp [x_up]; assumption
    · rw [x_up_ne (by omega), hI2]; simp [x_up]; assumption
    · rw [x_up_ne (by omega), hI2]; simp [x_up]; assumption
    · rw [x_up_ne (by omega), hI2]; simp [x_up]; assumption
    · intro y hy; by_cases e : y = x
      · subst e; simp [x_up]
      · rw [show (x_up I2 (94 + i) x (sp_lk kd vv ba ro egg se cd we en cc i x)) (94 + i) y = I2 (94 + i) y by simp [x_up, e], hf2 _ _ (by omega)]; exact hd y (by omega)
    · intro I3 h1 h2 h3; exact hk I3 (fun k j k1 k2 => by rw [h1 k j k1 k2, x_up_ne k1, hf2 _ _ k2]) h2 h3
termination_by 5 - x
decreasing_by all_goals omega
def sp_nz (aw : Nat → Int) (p : Nat) : Bool := decide (aw p = 0)
theorem sp_lk_R {I : Nat → Nat → Int} {W c : Nat} {kd : Nat → Nat} {vv vo aw : Nat → Int} {ba ro : Nat → Nat → Int} {egg : Int} {se : Nat} (hWS : WS W) (hWW : WW I W c kd vv vo aw ba ro egg se) {T n cc : Nat} {cd we : Nat → Int} {en : Nat → Nat} (hTW : TW I T cc n we en) {p x : Nat} (hp1 : p < c) (hx : x < 5) : x_R (sp_lk kd vv ba ro egg se cd we en cc p x) := by
  obtain ⟨hc, hc6, hegg, hegb, hse, hse5, hp⟩ := id hWW
  obtain ⟨-, -, -, -, -, hba, hv, hr⟩ := hp p hp1
  have hbb := (hba x hx).2
  have hcc := hTW.2.1
  have hs9 := sp_sw_bd (fa := sp_facts p (kd p) (vv p) x egg se) (cd := cd) (we := we) (en := en) cc 0 0 (fun j hj => (hTW.2.2.1 j (by omega)).2)
  exact sp_like_R hv hr (by constructor <;> omega) hegb

theorem lp_wgO {sc : List Int} {I : Nat → Nat → Int} {L : Nat → Nat → Int64} {W c : Nat} {kd : Nat → Nat} {vv vo aw : Nat → Int} {ba ro : Nat → Nat → Int} {egg : Int} {se : Nat} (hWS : WS W) (hWW : WW I W c kd vv vo aw ba ro egg se) {T n cc : Nat} {cd we : Nat → Int} {en : Nat → Nat} (hTS : TS T) (hC : CW I T n cd) (hTW : TW I T cc n we en) (hm : ∀ a b, a ≤ b → b < cc → en a ≤ en b) (hTr : T + 3 < 92 ∨ 104 ≤ T) {qv : Int} (hq : I T 0 = qv) (hqb : 0 ≤ qv ∧ qv ≤ 99) {I1 : Nat → Nat → Int} (hA : ∀ k j, k < 92 ∨ 102 < k → I1 k j = I k j) (i : Nat) (hi : i ≤ c) (hb2 : I1 92 2 = (c : Int)) (hb3 : I1 92 3 = qv) (hb1 : I1 92 1 = sp_mask (sp_nz aw) i) (h4 : I1 102 4 = egg) (h5 : I1 102 5 = ((se % 10 : Nat) : Int)) (hl : ∀ p, p < i → ∀ x, x < 5 → I1 (94 + p) x = sp_lk kd vv ba ro egg se cd we en cc p x) (hv : ∀ p, p < i → I1 100 p = vo p) : x_Ex sc 3 xM_B_weigh 46 [(3, xi (↑i)), (0, xr 92), (1, xr W), (2, xr T)] [] (xSH, I1, L) (fun r m' => r = none ∧ ∃ I', m' = (xSH, I', L) ∧ (∀ k j, k < 92 ∨ 102 < k → I' k j = I k j) ∧ BW I' c (sp_lk kd vv ba ro egg se cd we en cc) vo qv ∧ I' 92 1 = sp_mask (sp_nz aw) c ∧ BM I' (sp_bt (sp_lk kd vv ba ro egg se cd we en cc) vo qv c (sp_mask (sp_nz aw) c).toNat)) := by
  obtain ⟨hW0, hW1, hWo, hWl⟩ := id hWS
  obtain ⟨hT, hT1, hT2, hT3, hlt⟩ := id hTS
  obtain ⟨hc, hc6, hegg, hegb, hse, hse5, hp⟩ := id hWW
  refine ex_st 3 (pc' := 51) (ls' := [(3, xi (↑i)), (0, xr 92), (1, xr W), (2, xr T)]) (st' := [xi (I1 92 2), xi (↑i)]) rfl ?_
  refine ex_ic rfl (by first | (constructor <;> omega) | (rw [hb2]; constructor <;> omega) | (rw [x_up_ne (by omega), hA _ _ (by omega), (hp i (by omega)).2.2.2.1]; exact (hp i (by omega)).2.2.2.2.1)) (by first | (constructor <;> omega) | (rw [hb2]; constructor <;> omega) | (rw [x_up_ne (by omega), hA _ _ (by omega), (hp i (by omega)).2.2.2.1]; exact (hp i (by omega)).2.2.2.2.1)) (fun (h0 : (I1 92 2) ≤ (↑i : Int)) => ?_) (fun (h0 : ¬ (I1 92 2) ≤ (↑i : Int)) => ?_)
  · refine ex_st 1 (pc' := 197) (ls' := [(3, xi (↑i)), (0, xr 92), (1, xr W), (2, xr T)]) (st' := [xr 92]) rfl ?_
    have hic : i = c := by omega
    subst hic
    obtain ⟨hm0, hm1⟩ := sp_mask_bd (sp_nz aw) i
    have hm64 : (sp_mask (sp_nz aw) i).toNat < 64 := by
      rcases (show i = 0 ∨ i = 1 ∨ i = 2 ∨ i = 3 ∨ i = 4 ∨ i = 5 ∨ i = 6 by omega) with rfl | rfl | rfl | rfl | rfl | rfl | rfl <;> simp only [Int.pow_succ, Int.pow_zero] at hm1 <;> omega
    have hBW : BW I1 i (sp_lk kd vv ba ro egg se cd we en cc) vo qv := ⟨hb2, hc6, fun p x hp1 hx => ⟨hl p hp1 x hx, sp_lk_R hWS hWW hTW hp1 hx⟩, fun p hp1 => ⟨hv p hp1, (hp p hp1).2.2.1⟩, hb3, hqb⟩
    refine ex_callQ (ct_B_weighThings hBW (s := (sp_mask (sp_nz aw) i).toNat) hm64 (by rw [hb1]; omega)) (by decide) rfl ⟨rfl, rfl, rfl⟩ ⟨Nat.le_of_ble_eq_true rfl, rfl, rfl⟩ (Nat.le_of_ble_eq_true rfl) rfl (fun ra m2 hQ => ?_)
    obtain ⟨rfl, I2, rfl, hF2, hM2⟩ := hQ
    refine ex_retv rfl rfl ?_
    exact ⟨rfl, I2, rfl, fun k j hk => by rw [hF2 k j (by omega)]; exact hA k j hk, hBW.fr (fun k j h1 h2 => hF2 k j h1), by rw [hF2 _ _ (by decide)]; exact hb1, hM2⟩
  · refine ex_st 1 (pc' := 55) (ls' := [(3, xi (↑i)), (0, xr 92), (1, xr W), (2, xr T)]) (st' := [xr W]) rfl ?_
    refine ex_gfr rfl (by omega) hW0 (by decide) (by decide) rfl ?_
    refine ex_st 1 (pc' := 59) (ls' := [(3, xi (↑i)), (0, xr 92), (1, xr W), (2, xr T)]) (st' := [xi (↑i), xr (W + 1)]) rfl ?_
    refine ex_aald (q := W + 10 + 3 * i) (j := i) rfl (by omega) hW1 (by decide) (by omega) (by omega) (by decide) (x_aaW W (by omega)) (by omega) ?_
    refine ex_st 5 (pc' := 69) (ls' := [(4, xr (W + 10 + 3 * i)), (3, xi (↑i)), (0, xr 92), (1, xr W), (2, xr T)]) (st' := [xr (W + 10 + 3 * i), xi (↑i), xr 100]) rfl ?_
    refine ex_gfi rfl (by omega) (hWo i (by omega)).1 (by decide) (by decide) rfl ?_
    refine ex_iast (j := i) rfl (by decide) (rfl : xSH[100]? = some _) (by omega) (by omega) (by decide) ?_
    refine ex_st 1 (pc' := 75) (ls' := [(4, xr (W + 10 + 3 * i)), (3, xi (↑i)), (0, xr 92), (1, xr W), (2, xr T)]) (st' := [xr (W + 10 + 3 * i)]) rfl ?_
    refine ex_gfi rfl (by omega) (hWo i (by omega)).1 (by decide) (by decide) rfl ?_
    refine ex_if rfl (by first | (constructor <;> omega) | (rw [hb2]; constructor <;> omega) | (rw [x_up_ne (by omega), hA _ _ (by omega), (hp i (by omega)).2.2.2.1]; exact (hp i (by omega)).2.2.2.2.1)) (fun (h1 : ¬ (x_up I1 100 i (I1 (W + 10 + 3 * i) 2)) (W + 10 + 3 * i) 3 = 0) => ?_) (fun (h1 : ¬ ¬ (x_up I1 100 i (I1 (W + 10 + 3 * i) 2)) (W + 10 + 3 * i) 3 = 0) => ?_)
    · refine ex_st 4 (pc' := 99) (ls' := [(4, xr (W + 10 + 3 * i)), (3, xi (↑i)), (0, xr 92), (1, xr W), (2, xr T)]) (st' := [xi (↑i), xi 0, xr 102]) rfl ?_
      refine ex_iast (j := 0) rfl (by decide) (rfl : xSH[102]? = some _) (by decide) (by decide) (by decide) ?_
      refine ex_st 4 (pc' := 107) (ls' := [(4, xr (W + 10 + 3 * i)), (3, xi (↑i)), (0, xr 92), (1, xr W), (2, xr T)]) (st' := [xr (W + 10 + 3 * i), xi 1, xr 102]) rfl ?_
      refine ex_gfi rfl (by omega) (hWo i (by omega)).1 (by decide) (by decide) rfl ?_
      refine ex_iast (j := 1) rfl (by decide) (rfl : xSH[102]? = some _) (by decide) (by decide) (by decide) ?_
      refine ex_st 4 (pc' := 118) (ls' := [(4, xr (W + 10 + 3 * i)), (3, xi (↑i)), (0, xr 92), (1, xr W), (2, xr T)]) (st' := [xr (W + 10 + 3 * i), xi 2, xr 102]) rfl ?_
      refine ex_gfi rfl (by omega) (hWo i (by omega)).1 (by decide) (by decide) rfl ?_
      refine ex_iast (j := 2) rfl (by decide) (rfl : xSH[102]? = some _) (by decide) (by decide) (by decide) ?_
      refine ex_st 2 (pc' := 125) (ls' := [(5, xi 0), (4, xr (W + 10 + 3 * i)), (3, xi (↑i)), (0, xr 92), (1, xr W), (2, xr T)]) (st' := []) rfl ?_
      have hi6 : i < c := by omega
      have e0 : I1 (W + 10 + 3 * i) 0 = (kd i : Int) := by rw [hA _ _ (by omega)]; exact (hp i hi6).1.1
      have e1 : I1 (W + 10 + 3 * i) 1 = vv i := by rw [hA _ _ (by omega)]; exact (hp i hi6).1.2.2.1
      have e2 : I1 (W + 10 + 3 * i) 2 = vo i := by rw [hA _ _ (by omega)]; exact (hp i hi6).2.1
      have e3 : I1 (W + 10 + 3 * i) 3 = aw i := by rw [hA _ _ (by omega)]; exact (hp i hi6).2.2.2.1
      have n1 : W + 10 + 3 * i ≠ 100 := by omega
      have n2 : W + 10 + 3 * i ≠ 92 := by omega
      have n3 : W + 10 + 3 * i ≠ 102 := by omega
      rw [x_up_ne n1, e3] at h1
      obtain ⟨I2, hI2⟩ : ∃ I2, I2 = x_up (x_up (x_up (x_up I1 100 i (I1 (W + 10 + 3 * i) 2)) 102 0 (↑i)) 102 1 ((x_up (x_up I1 100 i (I1 (W + 10 + 3 * i) 2)) 102 0 (↑i)) (W + 10 + 3 * i) 0)) 102 2 ((x_up (x_up (x_up I1 100 i (I1 (W + 10 + 3 * i) 2)) 102 0 (↑i)) 102 1 ((x_up (x_up I1 100 i (I1 (W + 10 + 3 * i) 2)) 102 0 (↑i)) (W + 10 + 3 * i) 0)) (W + 10 + 3 * i) 1) := ⟨_, rfl⟩
      rw [← hI2]
      have f1 : ∀ k j, k ≠ 100 → k ≠ 92 → k ≠ 102 → I2 k j = I1 k j := fun k j k1 k2 k3 => by rw [hI2]; simp [x_up, k1, k2, k3]
      have f2 : ∀ j, I2 100 j = if j = i then vo i else I1 100 j := fun j => by rw [hI2]; simp [x_up, e2]
      have f3 : I2 92 2 = c := by rw [hI2]; simp [x_up]; exact hb2
      have f4 : I2 92 3 = qv := by rw [hI2]; simp [x_up]; exact hb3
      have f5 : I2 92 1 = sp_mask (sp_nz aw) (i + 1) := by
        rw [hI2]
        simp [x_up]
        rw [hb1]; show _ = sp_mask _ i + _; rw [if_neg (by simp only [sp_nz, decide_eq_true_eq]; omega), Int.add_zero]
      have g0 : I2 102 0 = (i : Int) := by rw [hI2]; simp [x_up]
      have g1 : I2 102 1 = (kd i : Int) := by rw [hI2]; simp [x_up, n1, n2, n3, e0]
      have g2 : I2 102 2 = vv i := by rw [hI2]; simp [x_up, n1, n2, n3, e1]
      have g4 : I2 102 4 = egg := by rw [hI2]; simp [x_up]; exact h4
      have g5 : I2 102 5 = ((se % 10 : Nat) : Int) := by rw [hI2]; simp [x_up]; exact h5
      refine ex_pm _ (fun i => by rcases i with _ | _ | _ | _ | _ | _ | _ | _ | _ | i <;> first | (right; rfl) | (left; rfl)) (lp_wgI hWS hWW hTS hC hTW hm hTr (I1 := I2) (fun k j hk => by rw [f1 k j (by omega) (by omega) (by omega)]; exact hA k j hk) hi6 g0 g1 g2 g4 g5 0 (by omega) (fun y hy => by omega) ?_)
      intro I3 r1 r2 r3
      refine lp_wgO hWS hWW hTS hC hTW hm hTr hq hqb (I1 := I3) ?_ (i + 1) (by omega) ?_ ?_ ?_ r2.1 r2.2 ?_ ?_
      · intro k j hk; rw [r1 k j (by omega) (by omega), f1 k j (by omega) (by omega) (by omega)]; exact hA k j hk
      · rw [r1 _ _ (by omega) (by omega)]; exact f3
      · rw [r1 _ _ (by omega) (by omega)]; exact f4
      · rw [r1 _ _ (by omega) (by omega)]; exact f5
      · intro p hp1 x hx
        by_cases e : p = i
        · subst e; exact r3 x hx
        · rw [r1 _ _ (by omega) (by omega), f1 _ _ (by omega) (by omega) (by omega)]; exact hl p (by omega) x hx
      · intro p hp1
        rw [r1 _ _ (by omega) (by omega), f2]
        by_cases e : p = i
        · rw [if_pos e, e]
        · rw [if_neg e]; exact hv p (by omega)
    · refine ex_st 7 (pc' := 90) (ls' := [(4, xr (W + 10 + 3 * i)), (3, xi (↑i)), (0, xr 92), (1, xr W), (2, xr T)]) (st' := [xi (z_or ((x_up I1 100 i (I1 (W + 10 + 3 * i) 2)) 92 1) (z_shl 1 (↑i))), xr 92]) rfl ?_
      refine ex_pfi rfl (by decide) (rfl : xSH[92]? = some _) (by decide) rfl (by decide) (fun h => by cases h) ?_
      refine ex_st 4 (pc' := 99) (ls' := [(4, xr (W + 10 + 3 * i)), (3, xi (↑i)), (0, xr 92), (1, xr W), (2, xr T)]) (st' := [xi (↑i), xi 0, xr 102]) rfl ?_
      refine ex_iast (j := 0) rfl (by decide) (rfl : xSH[102]? = some _) (by decide) (by decide) (by decide) ?_
      refine ex_st 4 (pc' := 107) (ls' := [(4, xr (W + 10 + 3 * i)), (3, xi (↑i)), (0, xr 92), (1, xr W), (2, xr T)]) (st' := [xr (W + 10 + 3 * i), xi 1, xr 102]) rfl ?_
      refine ex_gfi rfl (by omega) (hWo i (by omega)).1 (by decide) (by decide) rfl ?_
      refine ex_iast (j := 1) rfl (by decide) (rfl : xSH[102]? = some _) (by decide) (by decide) (by decide) ?_
      refine ex_st 4 (pc' := 118) (ls' := [(4, xr (W + 10 + 3 * i)), (3, xi (↑i)), (0, xr 92), (1, xr W), (2, xr T)]) (st' := [xr (W + 10 + 3 * i), xi 2, xr 102]) rfl ?_
      refine ex_gfi rfl (by omega) (hWo i (by omega)).1 (by decide) (by decide) rfl ?_
      refine ex_iast (j := 2) rfl (by decide) (rfl : xSH[102]? = some _) (by decide) (by decide) (by decide) ?_
      refine ex_st 2 (pc' := 125) (ls' := [(5, xi 0), (4, xr (W + 10 + 3 * i)), (3, xi (↑i)), (0, xr 92), (1, xr W), (2, xr T)]) (st' := []) rfl ?_
      have hi6 : i < c := by omega
      have e0 : I1 (W + 10 + 3 * i) 0 = (kd i : Int) := by rw [hA _ _ (by omega)]; exact (hp i hi6).1.1
      have e1 : I1 (W + 10 + 3 * i) 1 = vv i := by rw [hA _ _ (by omega)]; exact (hp i hi6).1.2.2.1
      have e2 : I1 (W + 10 + 3 * i) 2 = vo i := by rw [hA _ _ (by omega)]; exact (hp i hi6).2.1
      have e3 : I1 (W + 10 + 3 * i) 3 = aw i := by rw [hA _ _ (by omega)]; exact (hp i hi6).2.2.2.1
      have n1 : W + 10 + 3 * i ≠ 100 := by omega
      have n2 : W + 10 + 3 * i ≠ 92 := by omega
      have n3 : W + 10 + 3 * i ≠ 102 := by omega
      rw [x_up_ne n1, e3] at h1
      obtain ⟨I2, hI2⟩ : ∃ I2, I2 = x_up (x_up (x_up (x_up (x_up I1 100 i (I1 (W + 10 + 3 * i) 2)) 92 1 (z_or ((x_up I1 100 i (I1 (W + 10 + 3 * i) 2)) 92 1) (z_shl 1 (↑i)))) 102 0 (↑i)) 102 1 ((x_up (x_up (x_up I1 100 i (I1 (W + 10 + 3 * i) 2)) 92 1 (z_or ((x_up I1 100 i (I1 (W + 10 + 3 * i) 2)) 92 1) (z_shl 1 (↑i)))) 102 0 (↑i)) (W + 10 + 3 * i) 0)) 102 2 ((x_up (x_up (x_up (x_up I1 100 i (I1 (W + 10 + 3 * i) 2)) 92 1 (z_or ((x_up I1 100 i (I1 (W + 10 + 3 * i) 2)) 92 1) (z_shl 1 (↑i)))) 102 0 (↑i)) 102 1 ((x_up (x_up (x_up I1 100 i (I1 (W + 10 + 3 * i) 2)) 92 1 (z_or ((x_up I1 100 i (I1 (W + 10 + 3 * i) 2)) 92 1) (z_shl 1 (↑i)))) 102 0 (↑i)) (W + 10 + 3 * i) 0)) (W + 10 + 3 * i) 1) := ⟨_, rfl⟩
      rw [← hI2]
      have f1 : ∀ k j, k ≠ 100 → k ≠ 92 → k ≠ 102 → I2 k j = I1 k j := fun k j k1 k2 k3 => by rw [hI2]; simp [x_up, k1, k2, k3]
      have f2 : ∀ j, I2 100 j = if j = i then vo i else I1 100 j := fun j => by rw [hI2]; simp [x_up, e2]
      have f3 : I2 92 2 = c := by rw [hI2]; simp [x_up]; exact hb2
      have f4 : I2 92 3 = qv := by rw [hI2]; simp [x_up]; exact hb3
      have f5 : I2 92 1 = sp_mask (sp_nz aw) (i + 1) := by
        rw [hI2]
        simp [x_up]
        rw [hb1, sp_mask_or _ (by omega)]; show _ = sp_mask _ i + _; rw [if_pos (by simp only [sp_nz, decide_eq_true_eq]; omega)]
      have g0 : I2 102 0 = (i : Int) := by rw [hI2]; simp [x_up]
      have g1 : I2 102 1 = (kd i : Int) := by rw [hI2]; simp [x_up, n1, n2, n3, e0]
      have g2 : I2 102 2 = vv i := by rw [hI2]; simp [x_up, n1, n2, n3, e1]
      have g4 : I2 102 4 = egg := by rw [hI2]; simp [x_up]; exact h4
      have g5 : I2 102 5 = ((se % 10 : Nat) : Int) := by rw [hI2]; simp [x_up]; exact h5
      refine ex_pm _ (fun i => by rcases i with _ | _ | _ | _ | _ | _ | _ | _ | _ | i <;> first | (right; rfl) | (left; rfl)) (lp_wgI hWS hWW hTS hC hTW hm hTr (I1 := I2) (fun k j hk => by rw [f1 k j (by omega) (by omega) (by omega)]; exact hA k j hk) hi6 g0 g1 g2 g4 g5 0 (by omega) (fun y hy => by omega) ?_)
      intro I3 r1 r2 r3
      refine lp_wgO hWS hWW hTS hC hTW hm hTr hq hqb (I1 := I3) ?_ (i + 1) (by omega) ?_ ?_ ?_ r2.1 r2.2 ?_ ?_
      · intro k j hk; rw [r1 k j (by omega) (by omega), f1 k j (by omega) (by omega) (by omega)]; exact hA k j hk
      · rw [r1 _ _ (by omega) (by omega)]; exact f3
      · rw [r1 _ _ (by omega) (by omega)]; exact f4
      · rw [r1 _ _ (by omega) (by omega)]; exact f5
      · intro p hp1 x hx
        by_cases e : p = i
        · subst e; exact r3 x hx
        · rw [r1 _ _ (by omega) (by omega), f1 _ _ (by omega) (by omega) (by omega)]; exact hl p (by omega) x hx
      · intro p hp1
        rw [r1 _ _ (by omega) (by omega), f2]
        by_cases e : p = i
        · rw [if_pos e, e]
        · rw [if_neg e]; exact hv p (by omega)
termination_by c - i
decreasing_by all_goals omega
theorem ct_B_weigh {sc : List Int} {I : Nat → Nat → Int} {L : Nat → Nat → Int64} {W c : Nat} {kd : Nat → Nat} {vv vo aw : Nat → Int} {ba ro : Nat → Nat → Int} {egg : Int} {se : Nat} (hWS : WS W) (hWW : WW I W c kd vv vo aw ba ro egg se) {T n cc : Nat} {cd we : Nat → Int} {en : Nat → Nat} (hTS : TS T) (hC : CW I T n cd) (hTW : TW I T cc n we en) (hm : ∀ a b, a ≤ b → b < cc → en a ≤ en b) (hTr : T + 3 < 92 ∨ 104 ≤ T) {qv : Int} (hq : I T 0 = qv) (hqb : 0 ≤ qv ∧ qv ≤ 99) : x_CQ sc 4 xN_B_weigh [xr 92, xr W, xr T] (xSH, I, L) (fun r m' => r = none ∧ ∃ I', m' = (xSH, I', L) ∧ (∀ k j, k < 92 ∨ 102 < k → I' k j = I k j) ∧ BW I' c (sp_lk kd vv ba ro egg se cd we en cc) vo qv ∧ I' 92 1 = sp_mask (sp_nz aw) c ∧ BM I' (sp_bt (sp_lk kd vv ba ro egg se cd we en cc) vo qv c (sp_mask (sp_nz aw) c).toNat)) := by
  obtain ⟨hW0, hW1, hWo, hWl⟩ := id hWS
  obtain ⟨hT, hT1, hT2, hT3, hlt⟩ := id hTS
  obtain ⟨hc, hc6, hegg, hegb, hse, hse5, hp⟩ := id hWW
  refine x_CQ.of (M := xM_B_weigh) rfl (Nat.le_of_ble_eq_true rfl) ?_
  refine ex_st 2 (pc' := 2) (ls' := [(0, xr 92), (1, xr W), (2, xr T)]) (st' := [xr W, xr 92]) rfl ?_
  refine ex_gfi rfl (by omega) hW0 (by decide) (by decide) rfl ?_
  refine ex_pfi rfl (by decide) (rfl : xSH[92]? = some _) (by decide) rfl (by decide) (fun h => by cases h) ?_
  refine ex_st 2 (pc' := 10) (ls' := [(0, xr 92), (1, xr W), (2, xr T)]) (st' := [xr T, xr 92]) rfl ?_
  refine ex_gfi rfl (by omega) hT (by decide) (by decide) rfl ?_
  refine ex_pfi rfl (by decide) (rfl : xSH[92]? = some _) (by decide) rfl (by decide) (fun h => by cases h) ?_
  refine ex_st 2 (pc' := 18) (ls' := [(0, xr 92), (1, xr W), (2, xr T)]) (st' := [xi 0, xr 92]) rfl ?_
  refine ex_pfi rfl (by decide) (rfl : xSH[92]? = some _) (by decide) rfl (by decide) (fun h => by cases h) ?_
  refine ex_st 4 (pc' := 27) (ls' := [(0, xr 92), (1, xr W), (2, xr T)]) (st' := [xr W, xi 4, xr 102]) rfl ?_
  refine ex_gfi rfl (by omega) hW0 (by decide) (by decide) rfl ?_
  refine ex_iast (j := 4) rfl (by decide) (rfl : xSH[102]? = some _) (by decide) (by decide) (by decide) ?_
  refine ex_st 4 (pc' := 37) (ls' := [(0, xr 92), (1, xr W), (2, xr T)]) (st' := [xr W, xi 5, xr 102]) rfl ?_
  refine ex_gfi rfl (by omega) hW0 (by decide) (by decide) rfl ?_
  refine ex_st 1 (pc' := 42) (ls' := [(0, xr 92), (1, xr W), (2, xr T)]) (st' := [xi 10, xi ((x_up (x_up (x_up (x_up I 92 2 (I W 1)) 92 3 ((x_up I 92 2 (I W 1)) T 0)) 92 1 0) 102 4 ((x_up (x_up (x_up I 92 2 (I W 1)) 92 3 ((x_up I 92 2 (I W 1)) T 0)) 92 1 0) W 5)) W 6), xi 5, xr 102]) rfl ?_
  rw [show (x_up (x_up (x_up (x_up I 92 2 (I W 1)) 92 3 ((x_up I 92 2 (I W 1)) T 0)) 92 1 0) 102 4 ((x_up (x_up (x_up I 92 2 (I W 1)) 92 3 ((x_up I 92 2 (I W 1)) T 0)) 92 1 0) W 5)) W 6 = (se : Int) from by rw [x_up_ne (by omega), x_up_ne (by omega), x_up_ne (by omega), x_up_ne (by omega)]; exact hse]
  refine ex_iremN (a := se) (b := 10) rfl (by omega) (by decide) (by decide) ?_
  refine ex_iast (j := 5) rfl (by decide) (rfl : xSH[102]? = some _) (by decide) (by decide) (by decide) ?_
  refine ex_st 2 (pc' := 46) (ls' := [(3, xi 0), (0, xr 92), (1, xr W), (2, xr T)]) (st' := []) rfl ?_
  obtain ⟨I2, hI2⟩ : ∃ I2, I2 = x_up (x_up (x_up (x_up (x_up I 92 2 (I W 1)) 92 3 ((x_up I 92 2 (I W 1)) T 0)) 92 1 0) 102 4 ((x_up (x_up (x_up I 92 2 (I W 1)) 92 3 ((x_up I 92 2 (I W 1)) T 0)) 92 1 0) W 5)) 102 5 (↑(se % 10)) := ⟨_, rfl⟩
  rw [← hI2]
  have n2 : W ≠ 92 := by omega
  have n3 : W ≠ 102 := by omega
  have m2 : T ≠ 92 := by omega
  have m3 : T ≠ 102 := by omega
  refine ex_pm _ (fun i => by rcases i with _ | _ | _ | _ | _ | _ | _ | _ | _ | i <;> first | (right; rfl) | (left; rfl)) (lp_wgO hWS hWW hTS hC hTW hm hTr hq hqb (I1 := I2) ?_ 0 (by omega) ?_ ?_ ?_ ?_ ?_ (fun p hp1 => by omega) (fun p hp1 => by omega))
  · intro k j hk; rw [hI2]; simp [x_up, show k ≠ 92 by omega, show k ≠ 102 by omega]
  · rw [hI2]; simp [x_up, n2, n3, m2, m3]; exact hc
  · rw [hI2]; simp [x_up, n2, n3, m2, m3]; exact hq
  · rw [hI2]; simp [x_up, sp_mask]
  · rw [hI2]; simp [x_up, n2, n3]; exact hegg
  · rw [hI2]; simp [x_up, n2, n3, hse]
