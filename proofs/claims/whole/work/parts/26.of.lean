/-! treatyOf, ballotOf -/
theorem x_aa91 {i : Nat} (hi : i < 6) : ([some 107, some 111, some 115, some 119, some 123, some 127] : List (Option Nat))[i]? = some (some (107 + 4 * i)) := by
  rcases (show i = 0 ∨ i = 1 ∨ i = 2 ∨ i = 3 ∨ i = 4 ∨ i = 5 by omega) with rfl | rfl | rfl | rfl | rfl | rfl <;> rfl
def sp_trOf (t : Int) : Nat := if 0 ≤ t ∧ t < 6 then 107 + 4 * t.toNat else 87

theorem ct_G_treatyOf {sc : List Int} {I : Nat → Nat → Int} {L : Nat → Nat → Int64} {W : Nat} (hWS : WS W) {t : Int} (ht : I W 7 = t) (hR : x_R t) : x_CE sc 1 xN_G_treatyOf [xr 0, xr W] (xSH, I, L) (some (xr (sp_trOf t))) (xSH, I, L) := by
  refine x_CE.of (M := xM_G_treatyOf) rfl (Nat.le_of_ble_eq_true rfl) ?_
  refine ex_st 1 (pc' := 1) (ls' := [(0, xr 0), (1, xr W)]) (st' := [xr W]) rfl ?_
  refine ex_gfi rfl (by have := hWS.2.2.2; omega) hWS.1 (by decide) (by decide) rfl ?_
  rw [ht]
  refine ex_if rfl (by first | exact hR | (constructor <;> omega)) (fun (h0 : t < 0) => ?_) (fun (h0 : ¬ t < 0) => ?_)
  · refine ex_st 2 (pc' := 32) (ls' := [(0, xr 0), (1, xr W)]) (st' := [xr 87]) rfl ?_
    refine ex_retr rfl (by first | decide | omega) rfl ?_
    exact ⟨by unfold sp_trOf; rw [if_neg (by omega)], rfl⟩
  · refine ex_st 1 (pc' := 8) (ls' := [(0, xr 0), (1, xr W)]) (st' := [xr W]) rfl ?_
    refine ex_gfi rfl (by have := hWS.2.2.2; omega) hWS.1 (by decide) (by decide) rfl ?_
    rw [ht]
    refine ex_st 1 (pc' := 13) (ls' := [(0, xr 0), (1, xr W)]) (st' := [xi 6, xi t]) rfl ?_
    refine ex_ic rfl (by first | exact hR | (constructor <;> omega)) (by decide) (fun (h1 : (6 : Int) ≤ t) => ?_) (fun (h1 : ¬ (6 : Int) ≤ t) => ?_)
    · refine ex_st 2 (pc' := 32) (ls' := [(0, xr 0), (1, xr W)]) (st' := [xr 87]) rfl ?_
      refine ex_retr rfl (by first | decide | omega) rfl ?_
      exact ⟨by unfold sp_trOf; rw [if_neg (by omega)], rfl⟩
    · refine ex_st 3 (pc' := 21) (ls' := [(0, xr 0), (1, xr W)]) (st' := [xr W, xr 91]) rfl ?_
      refine ex_gfi rfl (by have := hWS.2.2.2; omega) hWS.1 (by decide) (by decide) rfl ?_
      rw [ht]
      refine ex_aald (q := 107 + 4 * (t.toNat)) (j := t.toNat) rfl (by decide) (rfl : xSH[91]? = some _) (by decide) (by omega) (by omega) (by decide) (x_aa91 (by omega)) (by have := hWS.2.2.2; omega) ?_
      refine ex_st 1 (pc' := 32) (ls' := [(0, xr 0), (1, xr W)]) (st' := [xr (107 + 4 * (t.toNat))]) rfl ?_
      refine ex_retr rfl (by first | decide | omega) rfl ?_
      exact ⟨by unfold sp_trOf; rw [if_pos (by omega)], rfl⟩
theorem ct_G_ballotOf {sc : List Int} {I : Nat → Nat → Int} {L : Nat → Nat → Int64} {W c : Nat} {kd : Nat → Nat} {vv vo aw : Nat → Int} {ba ro : Nat → Nat → Int} {egg : Int} {se : Nat} (hWS : WS W) (hWW : WW I W c kd vv vo aw ba ro egg se) {T n cc : Nat} {cd we : Nat → Int} {en : Nat → Nat} (hTS : TS T) (hC : CW I T n cd) (hTW : TW I T cc n we en) (hm : ∀ a b, a ≤ b → b < cc → en a ≤ en b) (hTr : T + 3 < 92 ∨ 104 ≤ T) {qv : Int} (hq : I T 0 = qv) (hqb : 0 ≤ qv ∧ qv ≤ 99) {t : Int} (ht : I W 7 = t) (hR : x_R t) (hTq : sp_trOf t = T) : x_CQ sc 5 xN_G_ballotOf [xr 0, xr W] (xSH, I, L) (fun r m' => r = some (xr 92) ∧ ∃ I', m' = (xSH, I', L) ∧ (∀ k j, k < 92 ∨ 102 < k → I' k j = I k j) ∧ BW I' c (sp_lk kd vv ba ro egg se cd we en cc) vo qv ∧ I' 92 1 = sp_mask (sp_nz aw) c ∧ BM I' (sp_bt (sp_lk kd vv ba ro egg se cd we en cc) vo qv c (sp_mask (sp_nz aw) c).toNat)) := by
  refine x_CQ.of (M := xM_G_ballotOf) rfl (Nat.le_of_ble_eq_true rfl) ?_
  refine ex_st 5 (pc' := 7) (ls' := [(0, xr 0), (1, xr W)]) (st' := [xr W, xr 0, xr W, xr 92]) rfl ?_
  refine ex_call (ct_G_treatyOf hWS ht hR) (by decide) rfl ⟨rfl, rfl, rfl⟩ ⟨Nat.le_of_ble_eq_true rfl, rfl, rfl⟩ (Nat.le_of_ble_eq_true rfl) rfl ?_
  rw [hTq]
  refine ex_callQ (ct_B_weigh hWS hWW hTS hC hTW hm hTr hq hqb) (by decide) rfl ⟨rfl, rfl, rfl⟩ ⟨Nat.le_of_ble_eq_true rfl, rfl, rfl⟩ (Nat.le_of_ble_eq_true rfl) rfl (fun ra m2 hQ => ?_)
  obtain ⟨rfl, I', rfl, hQ2⟩ := hQ
  refine ex_st 2 (pc' := 17) (ls' := [(0, xr 0), (1, xr W)]) (st' := [xr 92]) rfl ?_
  refine ex_retr rfl (by first | decide | omega) rfl ?_
  exact ⟨rfl, I', rfl, hQ2⟩
