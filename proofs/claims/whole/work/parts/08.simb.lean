section SXB
variable {p : Program} {l : Launch} {en : Env} {R : Room} {s : State} {mm : MethodId} {args : Array Value} {below : List Frame} {meth : Method} {c : Code} {Q : State → Prop} {g : xG} {sc : List Int} {own : String} {bts : ByteArray} {nL : Nat}
theorem inX0 : ∀ w ∈ u_ws RX0 TX0 5, w ∈ lw_tbl := by decide +kernel
theorem inX1 : ∀ w ∈ u_ws RX1 TX1 8, w ∈ lw_tbl := by decide +kernel
theorem inX2 : ∀ w ∈ u_ws RX2 TX2 6, w ∈ lw_tbl := by decide +kernel
theorem inX3 : ∀ w ∈ u_ws RX3 TX3 3, w ∈ lw_tbl := by decide +kernel
theorem inX4 : ∀ w ∈ u_ws RX4 TX4 3, w ∈ lw_tbl := by decide +kernel
theorem inX5 : ∀ w ∈ u_ws RX5 TX5 3, w ∈ lw_tbl := by decide +kernel
theorem inX6 : ∀ w ∈ u_ws RX6 TX6 6, w ∈ lw_tbl := by decide +kernel
theorem inX7 : ∀ w ∈ u_ws RX7 TX7 11, w ∈ lw_tbl := by decide +kernel
theorem inX8 : ∀ w ∈ u_ws RX8 TX8 11, w ∈ lw_tbl := by decide +kernel
theorem inX9 : ∀ w ∈ u_ws RX9 TX9 82, w ∈ lw_tbl := by decide +kernel
/-- the classes' tables -/
theorem x_cl (a : Nat) (C : String) (T : u_T) (N : Nat) (h : vwCl[a]? = some (C, T, N)) : (∀ w ∈ u_ws C T N, w ∈ lw_use) ∧ (∃ ty : Nat → FieldType, ∀ k, k < N → parseFieldDescriptor (T k).2.2.1 = some (ty k)) ∧ ∀ a, a < N → ∀ b, b < N → a ≠ b → (T a).2.1 ≠ (T b).2.1 := by
  match a, h with
  | 0, h => cases h; exact ⟨x_in_use inX0, ⟨tyX0, tyX0_ok⟩, nmX0⟩
  | 1, h => cases h; exact ⟨x_in_use inX1, ⟨tyX1, tyX1_ok⟩, nmX1⟩
  | 2, h => cases h; exact ⟨x_in_use inX2, ⟨tyX2, tyX2_ok⟩, nmX2⟩
  | 3, h => cases h; exact ⟨x_in_use inX3, ⟨tyX3, tyX3_ok⟩, nmX3⟩
  | 4, h => cases h; exact ⟨x_in_use inX4, ⟨tyX4, tyX4_ok⟩, nmX4⟩
  | 5, h => cases h; exact ⟨x_in_use inX5, ⟨tyX5, tyX5_ok⟩, nmX5⟩
  | 6, h => cases h; exact ⟨x_in_use inX6, ⟨tyX6, tyX6_ok⟩, nmX6⟩
  | 7, h => cases h; exact ⟨x_in_use inX7, ⟨tyX7, tyX7_ok⟩, nmX7⟩
  | 8, h => cases h; exact ⟨x_in_use inX8, ⟨tyX8, tyX8_ok⟩, nmX8⟩
  | 9, h => cases h; exact ⟨x_in_use inX9, ⟨tyX9, tyX9_ok⟩, nmX9⟩
  | n + 10, h => simp [vwCl] at h
theorem x_em_c {g : xG} {k : Nat} (h0 : 1000 ≤ k) (h1 : k ≠ 1030) (h2 : k ≠ 1031) : x_em g (xr k) = .ref (g.2.1 k) := by
  show (if k < 1000 then Value.ref (g.1 + k) else if k = 1030 then g.2.2.1 else if k = 1031 then .null else .ref (g.2.1 k)) = _
  rw [if_neg (by omega), if_neg h1, if_neg h2]
theorem x_em_r {g : xG} {k : Nat} (h0 : k < 1000) : x_em g (xr k) = .ref (g.1 + k) := by
  show (if k < 1000 then Value.ref (g.1 + k) else if k = 1030 then g.2.2.1 else if k = 1031 then .null else .ref (g.2.1 k)) = _
  rw [if_pos h0]
theorem x_cArr_ne {sc : List Int} {k : Nat} {q : Nat × List Int} (h : x_cArr sc k = some q) : k ≠ 1030 ∧ k ≠ 1031 ∧ (q.1 = 20 ∨ q.1 = 21) := by
  refine ⟨fun e => ?_, fun e => ?_, ?_⟩
  · subst e; cases h
  · subst e; cases h
  · unfold x_cArr at h
    split at h <;> first | (cases h; simp; done) | cases h
theorem x_flds_get {g : xG} {m : xMem} {k n b : Nat} {rs : List (Option Nat)} (hb : b < n) : ((List.range n).map (fun b => x_fv g m.2.1 k b rs))[b]? = some (x_fv g m.2.1 k b rs) := by
  rw [List.getElem?_map, List.getElem?_range hb]; rfl
theorem x_fv_r {g : xG} {I : Nat → Nat → Int} {k b q : Nat} {rs : List (Option Nat)} (h : rs[b]? = some (some q)) : x_fv g I k b rs = x_em g (xr q) := by unfold x_fv; rw [h]
theorem x_fv_n {g : xG} {I : Nat → Nat → Int} {k b : Nat} {rs : List (Option Nat)} (h : rs[b]? = some none) : x_fv g I k b rs = .int (i3 (I k b)) := by unfold x_fv; rw [h]
set_option maxHeartbeats 1000000 in
theorem sx_getstatic (C0 : x_Cx g sc p s mm args c own bts nL) {i len a b : Nat} {z : Int} : x_Step p l en R s mm args below meth c Q g sc own bts nL (.getstatic i, len, a, b, z) := by
  intro w pc ls st m pc' ls' st' m' H locs lsA cells slots hv hd hst hE hS hl kk
  obtain ⟨⟨hx, hb, hml, hown, hts⟩, hK, hSF, hfv, hz0⟩ := C0
  simp only [x_val, decide_eq_true_eq, Bool.and_eq_true, Bool.or_eq_true] at hv
  simp only [x_sm] at hst
  simp only [Option.some.injEq, Prod.mk.injEq] at hst; obtain ⟨rfl, rfl, rfl, rfl⟩ := hst
  obtain ⟨rfl, hv⟩ := hv
  rcases hv with (((⟨rfl, rfl, hw⟩ | ⟨rfl, hw⟩) | ⟨rfl, hw⟩) | ⟨rfl, hw⟩) | ⟨rfl, hw⟩
  · exact va_gets hx hb hSF.2.2.2.1 hS hown (hts _ (x_mu hw rfl)) (fun _ h => h) hd (kk _ _ _ hE hS hl)
  · exact va_gets hx hb hSF.1 hS hown (hts _ (x_mu hw rfl)) (fun _ h => h) hd (kk _ _ _ hE hS hl)
  · rcases hw with hw | hw
    · exact va_gets hx hb hSF.2.1 hS hown (hts _ (x_mu hw rfl)) (fun _ h => h) hd (kk _ _ _ hE hS hl)
    · exact va_getsN hx hb hSF.2.1 hS hown (hts _ (x_mu hw rfl)) (fun _ h => h) hd (kk _ _ _ hE hS hl)
  · exact va_gets hx hb hSF.2.2.1 hS hown (hts _ (x_mu hw rfl)) (fun _ h => h) hd (kk _ _ _ hE hS hl)
  · exact va_gets hx hb hSF.2.2.2.2.1 hS hown (hts _ (x_mu hw rfl)) (fun _ h => h) hd (kk _ _ _ hE hS hl)
set_option maxHeartbeats 1000000 in
theorem sx_getfield (C0 : x_Cx g sc p s mm args c own bts nL) {i len a b : Nat} {z : Int} : x_Step p l en R s mm args below meth c Q g sc own bts nL (.getfield i, len, a, b, z) := by
  intro w pc ls st m pc' ls' st' m' H locs lsA cells slots hv hd hst hE hS hl kk
  obtain ⟨⟨hx, hb, hml, hown, hts⟩, hK, hSF, hfv, hz0⟩ := C0
  simp only [x_val, decide_eq_true_eq, Bool.and_eq_true, Bool.or_eq_true] at hv
  obtain ⟨rfl, hv⟩ := hv
  simp only [x_sm] at hst
  split at hst
  · next k r =>
    split at hst
    · next hk =>
      split at hst
      · next t n rs hg =>
        split at hst
        · next ht =>
          obtain ⟨rfl, ha, hbn⟩ := ht
          rcases hv with (hv | hv) | hv
          · split at hv
            · next C T N hc =>
              simp only [decide_eq_true_eq] at hv
              obtain ⟨-, hbN, hw⟩ := hv
              have hat := hE.2.1 k _ hg
              have hP := x_P1 hat (x_ce_obj (t := (t, n, rs)) ha)
              rw [List.map_cons, show x_em g (Sum.inr (Sum.inr k)) = .ref (g.1 + k) from x_em_r hk]
              split at hst
              · next q hr =>
                simp only [Option.some.injEq, Prod.mk.injEq] at hst; obtain ⟨rfl, rfl, rfl, rfl⟩ := hst
                refine va_get hx hb hts (x_cl _ _ _ _ hc).1 hown hK hP 0 rfl hc b hbN (hts _ (x_mu hw rfl)) (fun _ h => h) (x_flds_get hbn) hd ?_
                rw [x_fv_r hr]
                exact kk _ _ _ hE hS hl
              · next hr =>
                simp only [Option.some.injEq, Prod.mk.injEq] at hst; obtain ⟨rfl, rfl, rfl, rfl⟩ := hst
                refine va_get hx hb hts (x_cl _ _ _ _ hc).1 hown hK hP 0 rfl hc b hbN (hts _ (x_mu hw rfl)) (fun _ h => h) (x_flds_get hbn) hd ?_
                rw [x_fv_n hr]
                exact kk _ _ _ hE hS hl
              · cases hst
            · cases hv
          · omega
          · omega
        · cases hst
      · cases hst
    · next hk =>
      split at hst
      · next ha =>
        subst ha
        split at hst
        · next v hf =>
          simp only [Option.some.injEq, Prod.mk.injEq] at hst; obtain ⟨rfl, rfl, rfl, rfl⟩ := hst
          unfold x_cFld at hf
          split at hf
          · next hs =>
            have hs2 : 1010 ≤ k ∧ k < 1015 := by simpa [x_isStr] using hs
            rw [List.map_cons, show x_em g (Sum.inr (Sum.inr k)) = .ref (g.2.1 k) from x_em_c (by omega) (by omega) (by omega)]
            have h4 := hSF.2.2.2.2.2.2.1.1 (k - 1010) (by omega)
            have e1 : 1010 + (k - 1010) = k := by omega
            have e2 : 1020 + (k - 1010) = k + 10 := by omega
            simp only [e1, e2] at h4
            rcases hv with (hv | hv) | hv
            · exact absurd hv (by simp [vwCl])
            · obtain ⟨-, rfl, hw⟩ := hv
              cases hf
              refine vk_getf hx hb h4.2.2.1 hS hown (hts _ (x_mu hw rfl)) (fun _ h => h) hd ?_
              rw [← x_em_c (g := g) (k := k + 10) (by omega) (by omega) (by omega)]
              exact kk _ _ _ hE hS hl
            · obtain ⟨-, rfl, hw⟩ := hv
              cases hf
              exact vk_getf hx hb h4.2.1 hS hown (hts _ (x_mu hw rfl)) (fun _ h => h) hd (kk _ _ _ hE hS hl)
          · cases hf
        · cases hst
      · cases hst
  · cases hst
theorem x_ald_at {tag : Nat} {m : xMem} {k : Nat} {i v : Int} (h : x_ald sc tag m k i = some v) : (k < 1000 ∧ ∃ n rs, m.1[k]? = some (tag, n, rs) ∧ 0 ≤ wr i ∧ wr i < n ∧ v = m.2.1 k (wr i).toNat) ∨ (1000 ≤ k ∧ ∃ ct, x_cArr sc k = some (tag, ct) ∧ 0 ≤ wr i ∧ wr i < ct.length ∧ ct[(wr i).toNat]? = some v) := by
  unfold x_ald at h
  split at h
  · next hk =>
    split at h
    · next t n rs hg =>
      split at h
      · next hc => cases h; obtain ⟨rfl, h0, h1⟩ := hc; exact Or.inl ⟨hk, n, rs, hg, h0, h1, rfl⟩
      · cases h
    · cases h
  · next hk =>
    split at h
    · next t ct hg =>
      split at h
      · next hc => obtain ⟨rfl, h0, h1⟩ := hc; exact Or.inr ⟨by omega, ct, hg, h0, h1, h⟩
      · cases h
    · cases h
set_option maxHeartbeats 1000000 in
theorem sx_iaload (C0 : x_Cx g sc p s mm args c own bts nL) {len a b : Nat} {z : Int} : x_Step p l en R s mm args below meth c Q g sc own bts nL (.iaload, len, a, b, z) := by
  intro w pc ls st m pc' ls' st' m' H locs lsA cells slots hv hd hst hE hS hl kk
  obtain ⟨⟨hx, hb, hml, hown, hts⟩, hK, hSF, hfv, hz0⟩ := C0
  simp only [x_val, decide_eq_true_eq] at hv
  subst hv
  simp only [x_sm] at hst
  split at hst
  · next i k r =>
    split at hst
    · next v ha =>
      simp only [Option.some.injEq, Prod.mk.injEq] at hst; obtain ⟨rfl, rfl, rfl, rfl⟩ := hst
      rw [List.map_cons, List.map_cons]
      rcases x_ald_at ha with ⟨hk, n, rs, hg, h0, h1, rfl⟩ | ⟨hk, ct, hg, h0, h1, h2⟩
      · rw [show x_em g (Sum.inr (Sum.inr k)) = .ref (g.1 + k) from x_em_r hk]
        refine va_iald hx hb hK (x_P1 (hE.2.1 k _ hg) (x_ce_int (by dsimp only; decide) (by dsimp only; decide))) 0 0 rfl rfl (i3_in h0 h1) hd ?_
        rw [i3_clamp]
        exact kk _ _ _ hE hS hl
      · obtain ⟨n1, n2, -⟩ := x_cArr_ne hg
        rw [show x_em g (Sum.inr (Sum.inr k)) = .ref (g.2.1 k) from x_em_c hk n1 n2]
        refine va_ti hx hb (hSF.2.2.2.2.2.1 k _ _ hg).2 hS (i3_in h0 h1) (v := .int (i3 v)) ?_ hd (kk _ _ _ hE hS hl)
        rw [i3_clamp, List.getD_eq_getElem?_getD, h2]; rfl
    · cases hst
  · cases hst
set_option maxHeartbeats 1000000 in
theorem sx_baload (C0 : x_Cx g sc p s mm args c own bts nL) {len a b : Nat} {z : Int} : x_Step p l en R s mm args below meth c Q g sc own bts nL (.baload, len, a, b, z) := by
  intro w pc ls st m pc' ls' st' m' H locs lsA cells slots hv hd hst hE hS hl kk
  obtain ⟨⟨hx, hb, hml, hown, hts⟩, hK, hSF, hfv, hz0⟩ := C0
  simp only [x_val, decide_eq_true_eq] at hv
  obtain ⟨rfl, hv⟩ := hv
  simp only [x_sm] at hst
  split at hst
  · next i k r =>
    split at hst
    · next v ha =>
      simp only [Option.some.injEq, Prod.mk.injEq] at hst; obtain ⟨rfl, rfl, rfl, rfl⟩ := hst
      rw [List.map_cons, List.map_cons]
      rcases x_ald_at ha with ⟨hk, n, rs, hg, h0, h1, rfl⟩ | ⟨hk, ct, hg, h0, h1, h2⟩
      · rw [show x_em g (Sum.inr (Sum.inr k)) = .ref (g.1 + k) from x_em_r hk]
        rcases hv with rfl | rfl
        · refine va_bald hx hb hK (x_P1 (hE.2.1 k _ hg) (x_ce_int (by dsimp only; decide) (by dsimp only; decide))) 0 1 rfl rfl (i3_in h0 h1) hd ?_
          rw [i3_clamp]
          exact kk _ _ _ hE hS hl
        · refine va_zald hx hb hK (x_P1 (hE.2.1 k _ hg) (x_ce_int (by dsimp only; decide) (by dsimp only; decide))) 0 2 rfl rfl (i3_in h0 h1) hd ?_
          rw [i3_clamp]
          exact kk _ _ _ hE hS hl
      · obtain ⟨n1, n2, n3⟩ := x_cArr_ne hg
        rw [show x_em g (Sum.inr (Sum.inr k)) = .ref (g.2.1 k) from x_em_c hk n1 n2]
        rcases hv with rfl | rfl
        · refine va_tb hx hb (hSF.2.2.2.2.2.1 k _ _ hg).2 hS (i3_in h0 h1) (v := .int (i3 v)) ?_ hd (kk _ _ _ hE hS hl)
          rw [i3_clamp, List.getD_eq_getElem?_getD, h2]; rfl
        · simp at n3
    · cases hst
  · cases hst
set_option maxHeartbeats 1000000 in
theorem sx_laload (C0 : x_Cx g sc p s mm args c own bts nL) {len a b : Nat} {z : Int} : x_Step p l en R s mm args below meth c Q g sc own bts nL (.laload, len, a, b, z) := by
  intro w pc ls st m pc' ls' st' m' H locs lsA cells slots hv hd hst hE hS hl kk
  obtain ⟨⟨hx, hb, hml, hown, hts⟩, hK, hSF, hfv, hz0⟩ := C0
  simp only [x_val, decide_eq_true_eq] at hv
  subst hv
  simp only [x_sm] at hst
  split at hst
  · next i k r =>
    split at hst
    · next hk =>
      split at hst
      · next t n rs hg =>
        split at hst
        · next ht =>
          obtain ⟨rfl, h0, h1⟩ := ht
          simp only [Option.some.injEq, Prod.mk.injEq] at hst; obtain ⟨rfl, rfl, rfl, rfl⟩ := hst
          rw [List.map_cons, List.map_cons, show x_em g (Sum.inr (Sum.inr k)) = .ref (g.1 + k) from x_em_r hk]
          refine va_lald hx hb hK (x_P1 (hE.2.1 k _ hg) (x_ce_long rfl)) 0 3 rfl rfl (i3_in h0 h1) hd ?_
          rw [i3_clamp]
          exact kk _ _ _ hE hS hl
        · cases hst
      · cases hst
    · cases hst
  · cases hst
set_option maxHeartbeats 1000000 in
theorem sx_aaload (C0 : x_Cx g sc p s mm args c own bts nL) {len a b : Nat} {z : Int} : x_Step p l en R s mm args below meth c Q g sc own bts nL (.aaload, len, a, b, z) := by
  intro w pc ls st m pc' ls' st' m' H locs lsA cells slots hv hd hst hE hS hl kk
  obtain ⟨⟨hx, hb, hml, hown, hts⟩, hK, hSF, hfv, hz0⟩ := C0
  simp only [x_val, decide_eq_true_eq] at hv
  subst hv
  simp only [x_sm] at hst
  split at hst
  · next i k r =>
    split at hst
    · next hk =>
      split at hst
      · next t n rs hg =>
        split at hst
        · next ht =>
          obtain ⟨ht, h0, h1⟩ := ht
          split at hst
          · next q hr =>
            split at hst
            · next hq =>
              simp only [Option.some.injEq, Prod.mk.injEq] at hst; obtain ⟨rfl, rfl, rfl, rfl⟩ := hst
              rw [List.map_cons, List.map_cons, show x_em g (Sum.inr (Sum.inr k)) = .ref (g.1 + k) from x_em_r hk]
              have e0 : x_rq g rs (i3 i).toNatClampNeg = some (g.1 + q) := by
                rw [i3_clamp]; unfold x_rq; rw [hr]; exact if_pos hq
              have hlt : (i3 i).toNatClampNeg < n := by rw [i3_clamp]; omega
              have key : ∀ (t0 : Nat) (ty : FieldType), (x_tys g)[t0]? = some (g.2.2.2.2 t, ty) → ty.isReference = true → W p l en R s mm args below meth c H locs cells slots Q (F0 mm pc lsA (.int (i3 i) :: .ref (g.1 + k) :: List.map (x_em g) r)) := by
                intro t0 ty h3 hty
                have hP := x_P1 (hE.2.1 k _ hg) (x_ce_ref (t := (t, n, rs)) (by show 23 < t; omega))
                refine W.aald (v := va_rf (x_rq g rs (i3 i).toNatClampNeg)) (ty := ty) hx hb (hP 0 _ rfl) ((hK.2 t0 _ h3).1 n (fun j => va_rf (x_rq g rs j))) hty (fun q => by cases q) (by show ¬ (i3 i < 0 ∨ (arrV _ _ _).slots.size ≤ _); rw [arrV_size]; exact i3_in h0 h1) (by show (arrV _ _ _).slots[_]? = _; rw [arrV_read _ _ hlt]) rfl rfl hd ?_
                rw [e0]
                have h5 := kk _ _ _ hE hS hl
                rw [List.map_cons, show x_em g (xr q) = .ref (g.1 + q) from x_em_r hq] at h5
                exact h5
              rcases ht with rfl | rfl | rfl | rfl
              · exact key 4 _ rfl rfl
              · exact key 5 _ rfl rfl
              · exact key 6 _ rfl rfl
              · exact key 7 _ rfl rfl
            · cases hst
          · cases hst
        · cases hst
      · cases hst
    · cases hst
  · cases hst
set_option maxHeartbeats 1000000 in
theorem sx_arraylength (C0 : x_Cx g sc p s mm args c own bts nL) {len a b : Nat} {z : Int} : x_Step p l en R s mm args below meth c Q g sc own bts nL (.arraylength, len, a, b, z) := by
  intro w pc ls st m pc' ls' st' m' H locs lsA cells slots hv hd hst hE hS hl kk
  obtain ⟨⟨hx, hb, hml, hown, hts⟩, hK, hSF, hfv, hz0⟩ := C0
  simp only [x_val, decide_eq_true_eq] at hv
  subst hv
  simp only [x_sm] at hst
  split at hst
  · next k r =>
    split at hst
    · cases hst
    · next hk =>
      split at hst
      · next t ct hg =>
        simp only [Option.some.injEq, Prod.mk.injEq] at hst; obtain ⟨rfl, rfl, rfl, rfl⟩ := hst
        obtain ⟨n1, n2, -⟩ := x_cArr_ne hg
        rw [List.map_cons, show x_em g (Sum.inr (Sum.inr k)) = .ref (g.2.1 k) from x_em_c (by omega) n1 n2]
        exact va_tlen hx hb (hSF.2.2.2.2.2.1 k _ _ hg).2 hS (v := i3 ct.length) Int32.ofInt_eq_ofNat.symm hd (kk _ _ _ hE hS hl)
      · cases hst
  · cases hst
end SXB
