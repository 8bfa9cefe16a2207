section SXA
variable {p : Program} {l : Launch} {en : Env} {R : Room} {s : State} {mm : MethodId} {args : Array Value} {below : List Frame} {meth : Method} {c : Code} {Q : State → Prop} {g : xG} {sc : List Int} {own : String} {bts : ByteArray} {nL : Nat}
set_option maxHeartbeats 1000000 in
theorem sx_iconst (C0 : x_Cx g sc p s mm args c own bts nL) {n : Int} {len a b : Nat} {z : Int} : x_Step p l en R s mm args below meth c Q g sc own bts nL (.iconst n, len, a, b, z) := by
  intro w pc ls st m pc' ls' st' m' H locs lsA cells slots hv hd hst hE hS hl kk
  obtain ⟨⟨hx, hb, hml, hown, hts⟩, hK, hSF, hfv, hz0⟩ := C0
  simp only [x_val, decide_eq_true_eq] at hv
  obtain ⟨rfl, hz⟩ := hv
  simp only [x_sm] at hst
  simp only [Option.some.injEq, Prod.mk.injEq] at hst; obtain ⟨rfl, rfl, rfl, rfl⟩ := hst
  exact lv_iconst hx hb hd hz (kk _ _ _ hE hS hl)

set_option maxHeartbeats 1000000 in
theorem sx_bipush (C0 : x_Cx g sc p s mm args c own bts nL) {n : Int} {len a b : Nat} {z : Int} : x_Step p l en R s mm args below meth c Q g sc own bts nL (.bipush n, len, a, b, z) := by
  intro w pc ls st m pc' ls' st' m' H locs lsA cells slots hv hd hst hE hS hl kk
  obtain ⟨⟨hx, hb, hml, hown, hts⟩, hK, hSF, hfv, hz0⟩ := C0
  simp only [x_val, decide_eq_true_eq] at hv
  obtain ⟨rfl, hz⟩ := hv
  simp only [x_sm] at hst
  simp only [Option.some.injEq, Prod.mk.injEq] at hst; obtain ⟨rfl, rfl, rfl, rfl⟩ := hst
  exact lv_bipush hx hb hd hz (kk _ _ _ hE hS hl)

set_option maxHeartbeats 1000000 in
theorem sx_sipush (C0 : x_Cx g sc p s mm args c own bts nL) {n : Int} {len a b : Nat} {z : Int} : x_Step p l en R s mm args below meth c Q g sc own bts nL (.sipush n, len, a, b, z) := by
  intro w pc ls st m pc' ls' st' m' H locs lsA cells slots hv hd hst hE hS hl kk
  obtain ⟨⟨hx, hb, hml, hown, hts⟩, hK, hSF, hfv, hz0⟩ := C0
  simp only [x_val, decide_eq_true_eq] at hv
  obtain ⟨rfl, hz⟩ := hv
  simp only [x_sm] at hst
  simp only [Option.some.injEq, Prod.mk.injEq] at hst; obtain ⟨rfl, rfl, rfl, rfl⟩ := hst
  exact lv_sipush hx hb hd hz (kk _ _ _ hE hS hl)

set_option maxHeartbeats 1000000 in
theorem sx_lconst (C0 : x_Cx g sc p s mm args c own bts nL) {n : Fin 2} {len a b : Nat} {z : Int} : x_Step p l en R s mm args below meth c Q g sc own bts nL (.lconst n, len, a, b, z) := by
  intro w pc ls st m pc' ls' st' m' H locs lsA cells slots hv hd hst hE hS hl kk
  obtain ⟨⟨hx, hb, hml, hown, hts⟩, hK, hSF, hfv, hz0⟩ := C0
  simp only [x_val, decide_eq_true_eq] at hv
  obtain ⟨rfl, hz⟩ := hv
  simp only [x_sm] at hst
  simp only [Option.some.injEq, Prod.mk.injEq] at hst; obtain ⟨rfl, rfl, rfl, rfl⟩ := hst
  exact lv_lconst hx hb hd hz (kk _ _ _ hE hS hl)

set_option maxHeartbeats 1000000 in
theorem sx_ldc_w (C0 : x_Cx g sc p s mm args c own bts nL) {i : Nat} {len a b : Nat} {z : Int} : x_Step p l en R s mm args below meth c Q g sc own bts nL (.ldc_w i, len, a, b, z) := by
  intro w pc ls st m pc' ls' st' m' H locs lsA cells slots hv hd hst hE hS hl kk
  obtain ⟨⟨hx, hb, hml, hown, hts⟩, hK, hSF, hfv, hz0⟩ := C0
  simp only [x_val, decide_eq_true_eq] at hv
  obtain ⟨rfl, hw⟩ := hv
  simp only [x_sm] at hst
  simp only [Option.some.injEq, Prod.mk.injEq] at hst; obtain ⟨rfl, rfl, rfl, rfl⟩ := hst
  exact lv_ldcw hx hb hown (hts _ (x_mu hw rfl)) hd (kk _ _ _ hE hS hl)

set_option maxHeartbeats 1000000 in
theorem sx_ldc2_w (C0 : x_Cx g sc p s mm args c own bts nL) {i : Nat} {len a b : Nat} {z : Int} : x_Step p l en R s mm args below meth c Q g sc own bts nL (.ldc2_w i, len, a, b, z) := by
  intro w pc ls st m pc' ls' st' m' H locs lsA cells slots hv hd hst hE hS hl kk
  obtain ⟨⟨hx, hb, hml, hown, hts⟩, hK, hSF, hfv, hz0⟩ := C0
  simp only [x_val, decide_eq_true_eq] at hv
  obtain ⟨rfl, hw⟩ := hv
  simp only [x_sm] at hst
  simp only [Option.some.injEq, Prod.mk.injEq] at hst; obtain ⟨rfl, rfl, rfl, rfl⟩ := hst
  exact lv_ldc2 hx hb hown (hts _ (x_mu hw rfl)) hd (kk _ _ _ hE hS hl)

set_option maxHeartbeats 1000000 in
theorem sx_ldc (C0 : x_Cx g sc p s mm args c own bts nL) {i : Nat} {len a b : Nat} {z : Int} : x_Step p l en R s mm args below meth c Q g sc own bts nL (.ldc i, len, a, b, z) := by
  intro w pc ls st m pc' ls' st' m' H locs lsA cells slots hv hd hst hE hS hl kk
  obtain ⟨⟨hx, hb, hml, hown, hts⟩, hK, hSF, hfv, hz0⟩ := C0
  simp only [x_val, decide_eq_true_eq, Bool.and_eq_true, Bool.or_eq_true] at hv
  obtain ⟨rfl, hv⟩ := hv
  simp only [x_sm] at hst
  simp only [Option.some.injEq, Prod.mk.injEq] at hst; obtain ⟨rfl, rfl, rfl, rfl⟩ := hst
  rcases hv with ⟨rfl, hw⟩ | ⟨rfl, hv⟩
  · exact lv_ldc hx hb hown (hts _ (x_mu hw rfl)) hd (kk _ _ _ hE hS hl)
  · have hR := hSF.2.2.2.2.2.2.2
    rcases hv with ⟨rfl, rfl⟩ | ⟨rfl, rfl⟩ | ⟨rfl, rfl⟩ | ⟨rfl, rfl⟩ | ⟨rfl, rfl⟩
    · exact va_ldcS hx hb hown (hR 0 (by omega)) hd (kk _ _ _ hE hS hl)
    · exact va_ldcS hx hb hown (hR 1 (by omega)) hd (kk _ _ _ hE hS hl)
    · exact va_ldcS hx hb hown (hR 2 (by omega)) hd (kk _ _ _ hE hS hl)
    · exact va_ldcS hx hb hown (hR 3 (by omega)) hd (kk _ _ _ hE hS hl)
    · exact va_ldcS hx hb hown (hR 4 (by omega)) hd (kk _ _ _ hE hS hl)

set_option maxHeartbeats 1000000 in
theorem sx_iload_n (C0 : x_Cx g sc p s mm args c own bts nL) {k : Fin 4} {len a b : Nat} {z : Int} : x_Step p l en R s mm args below meth c Q g sc own bts nL (.iload_n k, len, a, b, z) := by
  intro w pc ls st m pc' ls' st' m' H locs lsA cells slots hv hd hst hE hS hl kk
  obtain ⟨⟨hx, hb, hml, hown, hts⟩, hK, hSF, hfv, hz0⟩ := C0
  simp only [x_val, decide_eq_true_eq] at hv
  obtain ⟨rfl, rfl⟩ := hv
  simp only [x_sm] at hst
  split at hst
  · next v hg =>
    simp only [Option.some.injEq, Prod.mk.injEq] at hst; obtain ⟨rfl, rfl, rfl, rfl⟩ := hst
    exact lv_iload_n hx hb hd rfl (x_get_at hl hg) (kk _ _ _ hE hS hl)
  · cases hst

set_option maxHeartbeats 1000000 in
theorem sx_iload (C0 : x_Cx g sc p s mm args c own bts nL) {k : Nat} {len a b : Nat} {z : Int} : x_Step p l en R s mm args below meth c Q g sc own bts nL (.iload k, len, a, b, z) := by
  intro w pc ls st m pc' ls' st' m' H locs lsA cells slots hv hd hst hE hS hl kk
  obtain ⟨⟨hx, hb, hml, hown, hts⟩, hK, hSF, hfv, hz0⟩ := C0
  simp only [x_val, decide_eq_true_eq] at hv
  obtain ⟨rfl, rfl⟩ := hv
  simp only [x_sm] at hst
  split at hst
  · next v hg =>
    simp only [Option.some.injEq, Prod.mk.injEq] at hst; obtain ⟨rfl, rfl, rfl, rfl⟩ := hst
    exact lv_iload hx hb hd (x_get_at hl hg) (kk _ _ _ hE hS hl)
  · cases hst

set_option maxHeartbeats 1000000 in
theorem sx_lload_n (C0 : x_Cx g sc p s mm args c own bts nL) {k : Fin 4} {len a b : Nat} {z : Int} : x_Step p l en R s mm args below meth c Q g sc own bts nL (.lload_n k, len, a, b, z) := by
  intro w pc ls st m pc' ls' st' m' H locs lsA cells slots hv hd hst hE hS hl kk
  obtain ⟨⟨hx, hb, hml, hown, hts⟩, hK, hSF, hfv, hz0⟩ := C0
  simp only [x_val, decide_eq_true_eq] at hv
  obtain ⟨rfl, rfl⟩ := hv
  simp only [x_sm] at hst
  split at hst
  · next v hg =>
    simp only [Option.some.injEq, Prod.mk.injEq] at hst; obtain ⟨rfl, rfl, rfl, rfl⟩ := hst
    exact lv_lload_n hx hb hd rfl (x_get_at hl hg) (kk _ _ _ hE hS hl)
  · cases hst

set_option maxHeartbeats 1000000 in
theorem sx_aload_n (C0 : x_Cx g sc p s mm args c own bts nL) (hfr : g.2.2.1 = .null ∨ ∃ a, g.2.2.1 = .ref a) {k : Fin 4} {len a b : Nat} {z : Int} : x_Step p l en R s mm args below meth c Q g sc own bts nL (.aload_n k, len, a, b, z) := by
  intro w pc ls st m pc' ls' st' m' H locs lsA cells slots hv hd hst hE hS hl kk
  obtain ⟨⟨hx, hb, hml, hown, hts⟩, hK, hSF, hfv, hz0⟩ := C0
  simp only [x_val, decide_eq_true_eq] at hv
  obtain ⟨rfl, rfl⟩ := hv
  simp only [x_sm] at hst
  split at hst
  · next v hg =>
    simp only [Option.some.injEq, Prod.mk.injEq] at hst; obtain ⟨rfl, rfl, rfl, rfl⟩ := hst
    have h1 := x_get_at hl hg
    have h2 := kk _ _ _ hE hS hl
    rw [List.map_cons] at h2
    rcases x_em_ref hfr v with h | ⟨q, h⟩
    · rw [h] at h1 h2
      exact lv_aload_nN hx hb hd rfl h1 h2
    · rw [h] at h1 h2
      exact lv_aload_n hx hb hd rfl h1 h2
  · cases hst

set_option maxHeartbeats 1000000 in
theorem sx_aload (C0 : x_Cx g sc p s mm args c own bts nL) (hfr : g.2.2.1 = .null ∨ ∃ a, g.2.2.1 = .ref a) {k : Nat} {len a b : Nat} {z : Int} : x_Step p l en R s mm args below meth c Q g sc own bts nL (.aload k, len, a, b, z) := by
  intro w pc ls st m pc' ls' st' m' H locs lsA cells slots hv hd hst hE hS hl kk
  obtain ⟨⟨hx, hb, hml, hown, hts⟩, hK, hSF, hfv, hz0⟩ := C0
  simp only [x_val, decide_eq_true_eq] at hv
  obtain ⟨rfl, rfl⟩ := hv
  simp only [x_sm] at hst
  split at hst
  · next v hg =>
    simp only [Option.some.injEq, Prod.mk.injEq] at hst; obtain ⟨rfl, rfl, rfl, rfl⟩ := hst
    have h1 := x_get_at hl hg
    have h2 := kk _ _ _ hE hS hl
    rw [List.map_cons] at h2
    rcases x_em_ref hfr v with h | ⟨q, h⟩
    · rw [h] at h1 h2
      exact lv_aloadN hx hb hd h1 h2
    · rw [h] at h1 h2
      exact lv_aload hx hb hd h1 h2
  · cases hst

set_option maxHeartbeats 1000000 in
theorem sx_istore_n (C0 : x_Cx g sc p s mm args c own bts nL) {k : Fin 4} {len a b : Nat} {z : Int} : x_Step p l en R s mm args below meth c Q g sc own bts nL (.istore_n k, len, a, b, z) := by
  intro w pc ls st m pc' ls' st' m' H locs lsA cells slots hv hd hst hE hS hl kk
  obtain ⟨⟨hx, hb, hml, hown, hts⟩, hK, hSF, hfv, hz0⟩ := C0
  simp only [x_val, decide_eq_true_eq] at hv
  obtain ⟨rfl, rfl⟩ := hv
  simp only [x_sm] at hst
  split at hst
  · next v r =>
    split at hst
    · next hn =>
      simp only [Option.some.injEq, Prod.mk.injEq] at hst; obtain ⟨rfl, rfl, rfl, rfl⟩ := hst
      exact lv_istore_n hx hb hd rfl hl hn (x_ml_st1 hfv ls _ (xi v)) (fun lsA2 hl2 => kk _ _ _ hE hS hl2)
    · cases hst
  · cases hst

set_option maxHeartbeats 1000000 in
theorem sx_istore (C0 : x_Cx g sc p s mm args c own bts nL) {k : Nat} {len a b : Nat} {z : Int} : x_Step p l en R s mm args below meth c Q g sc own bts nL (.istore k, len, a, b, z) := by
  intro w pc ls st m pc' ls' st' m' H locs lsA cells slots hv hd hst hE hS hl kk
  obtain ⟨⟨hx, hb, hml, hown, hts⟩, hK, hSF, hfv, hz0⟩ := C0
  simp only [x_val, decide_eq_true_eq] at hv
  obtain ⟨rfl, rfl⟩ := hv
  simp only [x_sm] at hst
  split at hst
  · next v r =>
    split at hst
    · next hn =>
      simp only [Option.some.injEq, Prod.mk.injEq] at hst; obtain ⟨rfl, rfl, rfl, rfl⟩ := hst
      exact lv_istore hx hb hd hl hn (x_ml_st1 hfv ls _ (xi v)) (fun lsA2 hl2 => kk _ _ _ hE hS hl2)
    · cases hst
  · cases hst

set_option maxHeartbeats 1000000 in
theorem sx_astore_n (C0 : x_Cx g sc p s mm args c own bts nL) (hfr : g.2.2.1 = .null ∨ ∃ a, g.2.2.1 = .ref a) {k : Fin 4} {len a b : Nat} {z : Int} : x_Step p l en R s mm args below meth c Q g sc own bts nL (.astore_n k, len, a, b, z) := by
  intro w pc ls st m pc' ls' st' m' H locs lsA cells slots hv hd hst hE hS hl kk
  obtain ⟨⟨hx, hb, hml, hown, hts⟩, hK, hSF, hfv, hz0⟩ := C0
  simp only [x_val, decide_eq_true_eq] at hv
  obtain ⟨rfl, rfl⟩ := hv
  simp only [x_sm] at hst
  split at hst
  · next v r =>
    split at hst
    · next hn =>
      simp only [Option.some.injEq, Prod.mk.injEq] at hst; obtain ⟨rfl, rfl, rfl, rfl⟩ := hst
      have h1 := x_ml_st1 hfv ls (k : Nat) (xr v)
      rw [List.map_cons]
      rcases x_em_ref hfr v with h | ⟨q, h⟩
      · rw [h] at h1 ⊢
        exact lv_astore_nN hx hb hd rfl hl hn h1 (fun lsA2 hl2 => kk _ _ _ hE hS hl2)
      · rw [h] at h1 ⊢
        exact lv_astore_n hx hb hd rfl hl hn h1 (fun lsA2 hl2 => kk _ _ _ hE hS hl2)
    · cases hst
  · cases hst

set_option maxHeartbeats 1000000 in
theorem sx_astore (C0 : x_Cx g sc p s mm args c own bts nL) (hfr : g.2.2.1 = .null ∨ ∃ a, g.2.2.1 = .ref a) {k : Nat} {len a b : Nat} {z : Int} : x_Step p l en R s mm args below meth c Q g sc own bts nL (.astore k, len, a, b, z) := by
  intro w pc ls st m pc' ls' st' m' H locs lsA cells slots hv hd hst hE hS hl kk
  obtain ⟨⟨hx, hb, hml, hown, hts⟩, hK, hSF, hfv, hz0⟩ := C0
  simp only [x_val, decide_eq_true_eq] at hv
  obtain ⟨rfl, rfl⟩ := hv
  simp only [x_sm] at hst
  split at hst
  · next v r =>
    split at hst
    · next hn =>
      simp only [Option.some.injEq, Prod.mk.injEq] at hst; obtain ⟨rfl, rfl, rfl, rfl⟩ := hst
      have h1 := x_ml_st1 hfv ls (k : Nat) (xr v)
      rw [List.map_cons]
      rcases x_em_ref hfr v with h | ⟨q, h⟩
      · rw [h] at h1 ⊢
        exact lv_astoreN hx hb hd hl hn h1 (fun lsA2 hl2 => kk _ _ _ hE hS hl2)
      · rw [h] at h1 ⊢
        exact lv_astore hx hb hd hl hn h1 (fun lsA2 hl2 => kk _ _ _ hE hS hl2)
    · cases hst
  · cases hst

set_option maxHeartbeats 1000000 in
theorem sx_iinc (C0 : x_Cx g sc p s mm args c own bts nL) {k : Nat} {n : Int} {len a b : Nat} {z : Int} : x_Step p l en R s mm args below meth c Q g sc own bts nL (.iinc k n, len, a, b, z) := by
  intro w pc ls st m pc' ls' st' m' H locs lsA cells slots hv hd hst hE hS hl kk
  obtain ⟨⟨hx, hb, hml, hown, hts⟩, hK, hSF, hfv, hz0⟩ := C0
  simp only [x_val, decide_eq_true_eq] at hv
  obtain ⟨rfl, rfl, hz⟩ := hv
  simp only [x_sm] at hst
  split at hst
  · next v hg =>
    split at hst
    · next hn =>
      simp only [Option.some.injEq, Prod.mk.injEq] at hst; obtain ⟨rfl, rfl, rfl, rfl⟩ := hst
      obtain ⟨j, hj⟩ := x_get_ix (g := g) hg
      exact lv_iinc hx hb hd hl hj (v := i3 (v + z)) (by rw [hz, i3_add]) hn (x_ml_st1 hfv ls _ (xi (v + z))) (fun lsA2 hl2 => kk _ _ _ hE hS hl2)
    · cases hst
  · cases hst

set_option maxHeartbeats 1000000 in
theorem sx_iadd (C0 : x_Cx g sc p s mm args c own bts nL) {len a b : Nat} {z : Int} : x_Step p l en R s mm args below meth c Q g sc own bts nL (.iadd, len, a, b, z) := by
  intro w pc ls st m pc' ls' st' m' H locs lsA cells slots hv hd hst hE hS hl kk
  obtain ⟨⟨hx, hb, hml, hown, hts⟩, hK, hSF, hfv, hz0⟩ := C0
  simp only [x_val, decide_eq_true_eq] at hv
  subst hv
  simp only [x_sm] at hst
  split at hst
  · next y x r =>
    simp only [Option.some.injEq, Prod.mk.injEq] at hst; obtain ⟨rfl, rfl, rfl, rfl⟩ := hst
    refine lv_iadd hx hb hd ?_
    rw [← i3_add]
    exact kk _ _ _ hE hS hl
  · cases hst

set_option maxHeartbeats 1000000 in
theorem sx_isub (C0 : x_Cx g sc p s mm args c own bts nL) {len a b : Nat} {z : Int} : x_Step p l en R s mm args below meth c Q g sc own bts nL (.isub, len, a, b, z) := by
  intro w pc ls st m pc' ls' st' m' H locs lsA cells slots hv hd hst hE hS hl kk
  obtain ⟨⟨hx, hb, hml, hown, hts⟩, hK, hSF, hfv, hz0⟩ := C0
  simp only [x_val, decide_eq_true_eq] at hv
  subst hv
  simp only [x_sm] at hst
  split at hst
  · next y x r =>
    simp only [Option.some.injEq, Prod.mk.injEq] at hst; obtain ⟨rfl, rfl, rfl, rfl⟩ := hst
    refine lv_isub hx hb hd ?_
    rw [← i3_sub]
    exact kk _ _ _ hE hS hl
  · cases hst

set_option maxHeartbeats 1000000 in
theorem sx_imul (C0 : x_Cx g sc p s mm args c own bts nL) {len a b : Nat} {z : Int} : x_Step p l en R s mm args below meth c Q g sc own bts nL (.imul, len, a, b, z) := by
  intro w pc ls st m pc' ls' st' m' H locs lsA cells slots hv hd hst hE hS hl kk
  obtain ⟨⟨hx, hb, hml, hown, hts⟩, hK, hSF, hfv, hz0⟩ := C0
  simp only [x_val, decide_eq_true_eq] at hv
  subst hv
  simp only [x_sm] at hst
  split at hst
  · next y x r =>
    simp only [Option.some.injEq, Prod.mk.injEq] at hst; obtain ⟨rfl, rfl, rfl, rfl⟩ := hst
    refine lv_imul hx hb hd ?_
    rw [← i3_mul]
    exact kk _ _ _ hE hS hl
  · cases hst

set_option maxHeartbeats 1000000 in
theorem sx_iand (C0 : x_Cx g sc p s mm args c own bts nL) {len a b : Nat} {z : Int} : x_Step p l en R s mm args below meth c Q g sc own bts nL (.iand, len, a, b, z) := by
  intro w pc ls st m pc' ls' st' m' H locs lsA cells slots hv hd hst hE hS hl kk
  obtain ⟨⟨hx, hb, hml, hown, hts⟩, hK, hSF, hfv, hz0⟩ := C0
  simp only [x_val, decide_eq_true_eq] at hv
  subst hv
  simp only [x_sm] at hst
  split at hst
  · next y x r =>
    simp only [Option.some.injEq, Prod.mk.injEq] at hst; obtain ⟨rfl, rfl, rfl, rfl⟩ := hst
    refine lv_iand hx hb hd ?_
    rw [← z_and_i3]
    exact kk _ _ _ hE hS hl
  · cases hst

set_option maxHeartbeats 1000000 in
theorem sx_ior (C0 : x_Cx g sc p s mm args c own bts nL) {len a b : Nat} {z : Int} : x_Step p l en R s mm args below meth c Q g sc own bts nL (.ior, len, a, b, z) := by
  intro w pc ls st m pc' ls' st' m' H locs lsA cells slots hv hd hst hE hS hl kk
  obtain ⟨⟨hx, hb, hml, hown, hts⟩, hK, hSF, hfv, hz0⟩ := C0
  simp only [x_val, decide_eq_true_eq] at hv
  subst hv
  simp only [x_sm] at hst
  split at hst
  · next y x r =>
    simp only [Option.some.injEq, Prod.mk.injEq] at hst; obtain ⟨rfl, rfl, rfl, rfl⟩ := hst
    refine lv_ior hx hb hd ?_
    rw [← z_or_i3]
    exact kk _ _ _ hE hS hl
  · cases hst

set_option maxHeartbeats 1000000 in
theorem sx_ixor (C0 : x_Cx g sc p s mm args c own bts nL) {len a b : Nat} {z : Int} : x_Step p l en R s mm args below meth c Q g sc own bts nL (.ixor, len, a, b, z) := by
  intro w pc ls st m pc' ls' st' m' H locs lsA cells slots hv hd hst hE hS hl kk
  obtain ⟨⟨hx, hb, hml, hown, hts⟩, hK, hSF, hfv, hz0⟩ := C0
  simp only [x_val, decide_eq_true_eq] at hv
  subst hv
  simp only [x_sm] at hst
  split at hst
  · next y x r =>
    simp only [Option.some.injEq, Prod.mk.injEq] at hst; obtain ⟨rfl, rfl, rfl, rfl⟩ := hst
    refine lv_ixor hx hb hd ?_
    rw [← z_xor_i3]
    exact kk _ _ _ hE hS hl
  · cases hst

set_option maxHeartbeats 1000000 in
theorem sx_ishl (C0 : x_Cx g sc p s mm args c own bts nL) {len a b : Nat} {z : Int} : x_Step p l en R s mm args below meth c Q g sc own bts nL (.ishl, len, a, b, z) := by
  intro w pc ls st m pc' ls' st' m' H locs lsA cells slots hv hd hst hE hS hl kk
  obtain ⟨⟨hx, hb, hml, hown, hts⟩, hK, hSF, hfv, hz0⟩ := C0
  simp only [x_val, decide_eq_true_eq] at hv
  subst hv
  simp only [x_sm] at hst
  split at hst
  · next y x r =>
    simp only [Option.some.injEq, Prod.mk.injEq] at hst; obtain ⟨rfl, rfl, rfl, rfl⟩ := hst
    refine lv_ishl hx hb hd ?_
    rw [← z_shl_i3]
    exact kk _ _ _ hE hS hl
  · cases hst

set_option maxHeartbeats 1000000 in
theorem sx_ishr (C0 : x_Cx g sc p s mm args c own bts nL) {len a b : Nat} {z : Int} : x_Step p l en R s mm args below meth c Q g sc own bts nL (.ishr, len, a, b, z) := by
  intro w pc ls st m pc' ls' st' m' H locs lsA cells slots hv hd hst hE hS hl kk
  obtain ⟨⟨hx, hb, hml, hown, hts⟩, hK, hSF, hfv, hz0⟩ := C0
  simp only [x_val, decide_eq_true_eq] at hv
  subst hv
  simp only [x_sm] at hst
  split at hst
  · next y x r =>
    simp only [Option.some.injEq, Prod.mk.injEq] at hst; obtain ⟨rfl, rfl, rfl, rfl⟩ := hst
    refine lv_ishr hx hb hd ?_
    rw [← z_shr_i3]
    exact kk _ _ _ hE hS hl
  · cases hst

set_option maxHeartbeats 1000000 in
theorem sx_iushr (C0 : x_Cx g sc p s mm args c own bts nL) {len a b : Nat} {z : Int} : x_Step p l en R s mm args below meth c Q g sc own bts nL (.iushr, len, a, b, z) := by
  intro w pc ls st m pc' ls' st' m' H locs lsA cells slots hv hd hst hE hS hl kk
  obtain ⟨⟨hx, hb, hml, hown, hts⟩, hK, hSF, hfv, hz0⟩ := C0
  simp only [x_val, decide_eq_true_eq] at hv
  subst hv
  simp only [x_sm] at hst
  split at hst
  · next y x r =>
    simp only [Option.some.injEq, Prod.mk.injEq] at hst; obtain ⟨rfl, rfl, rfl, rfl⟩ := hst
    exact lv_iushr hx hb hd (i3_of _).symm (kk _ _ _ hE hS hl)
  · cases hst

set_option maxHeartbeats 1000000 in
theorem sx_idiv (C0 : x_Cx g sc p s mm args c own bts nL) {len a b : Nat} {z : Int} : x_Step p l en R s mm args below meth c Q g sc own bts nL (.idiv, len, a, b, z) := by
  intro w pc ls st m pc' ls' st' m' H locs lsA cells slots hv hd hst hE hS hl kk
  obtain ⟨⟨hx, hb, hml, hown, hts⟩, hK, hSF, hfv, hz0⟩ := C0
  simp only [x_val, decide_eq_true_eq] at hv
  subst hv
  simp only [x_sm] at hst
  split at hst
  · next y x r =>
    split at hst
    · cases hst
    · next hn =>
      simp only [Option.some.injEq, Prod.mk.injEq] at hst; obtain ⟨rfl, rfl, rfl, rfl⟩ := hst
      refine lv_idiv hx hb hd (fun q => hn (i3_eq0.mp q)) ?_
      rw [← i3_div]
      exact kk _ _ _ hE hS hl
  · cases hst

set_option maxHeartbeats 1000000 in
theorem sx_irem (C0 : x_Cx g sc p s mm args c own bts nL) {len a b : Nat} {z : Int} : x_Step p l en R s mm args below meth c Q g sc own bts nL (.irem, len, a, b, z) := by
  intro w pc ls st m pc' ls' st' m' H locs lsA cells slots hv hd hst hE hS hl kk
  obtain ⟨⟨hx, hb, hml, hown, hts⟩, hK, hSF, hfv, hz0⟩ := C0
  simp only [x_val, decide_eq_true_eq] at hv
  subst hv
  simp only [x_sm] at hst
  split at hst
  · next y x r =>
    split at hst
    · cases hst
    · next hn =>
      simp only [Option.some.injEq, Prod.mk.injEq] at hst; obtain ⟨rfl, rfl, rfl, rfl⟩ := hst
      refine lv_irem hx hb hd (fun q => hn (i3_eq0.mp q)) ?_
      rw [← i3_rem]
      exact kk _ _ _ hE hS hl
  · cases hst

set_option maxHeartbeats 1000000 in
theorem sx_ineg (C0 : x_Cx g sc p s mm args c own bts nL) {len a b : Nat} {z : Int} : x_Step p l en R s mm args below meth c Q g sc own bts nL (.ineg, len, a, b, z) := by
  intro w pc ls st m pc' ls' st' m' H locs lsA cells slots hv hd hst hE hS hl kk
  obtain ⟨⟨hx, hb, hml, hown, hts⟩, hK, hSF, hfv, hz0⟩ := C0
  simp only [x_val, decide_eq_true_eq] at hv
  subst hv
  simp only [x_sm] at hst
  split at hst
  · next x r =>
    simp only [Option.some.injEq, Prod.mk.injEq] at hst; obtain ⟨rfl, rfl, rfl, rfl⟩ := hst
    refine lv_ineg hx hb hd ?_
    rw [← i3_neg]
    exact kk _ _ _ hE hS hl
  · cases hst

set_option maxHeartbeats 1000000 in
theorem sx_i2b (C0 : x_Cx g sc p s mm args c own bts nL) {len a b : Nat} {z : Int} : x_Step p l en R s mm args below meth c Q g sc own bts nL (.i2b, len, a, b, z) := by
  intro w pc ls st m pc' ls' st' m' H locs lsA cells slots hv hd hst hE hS hl kk
  obtain ⟨⟨hx, hb, hml, hown, hts⟩, hK, hSF, hfv, hz0⟩ := C0
  simp only [x_val, decide_eq_true_eq] at hv
  subst hv
  simp only [x_sm] at hst
  split at hst
  · next x r =>
    simp only [Option.some.injEq, Prod.mk.injEq] at hst; obtain ⟨rfl, rfl, rfl, rfl⟩ := hst
    exact lv_i2b hx hb hd (i3_of _).symm (kk _ _ _ hE hS hl)
  · cases hst

set_option maxHeartbeats 1000000 in
theorem sx_i2s (C0 : x_Cx g sc p s mm args c own bts nL) {len a b : Nat} {z : Int} : x_Step p l en R s mm args below meth c Q g sc own bts nL (.i2s, len, a, b, z) := by
  intro w pc ls st m pc' ls' st' m' H locs lsA cells slots hv hd hst hE hS hl kk
  obtain ⟨⟨hx, hb, hml, hown, hts⟩, hK, hSF, hfv, hz0⟩ := C0
  simp only [x_val, decide_eq_true_eq] at hv
  subst hv
  simp only [x_sm] at hst
  split at hst
  · next x r =>
    simp only [Option.some.injEq, Prod.mk.injEq] at hst; obtain ⟨rfl, rfl, rfl, rfl⟩ := hst
    exact lv_i2s hx hb hd (i3_of _).symm (kk _ _ _ hE hS hl)
  · cases hst

set_option maxHeartbeats 1000000 in
theorem sx_i2c (C0 : x_Cx g sc p s mm args c own bts nL) {len a b : Nat} {z : Int} : x_Step p l en R s mm args below meth c Q g sc own bts nL (.i2c, len, a, b, z) := by
  intro w pc ls st m pc' ls' st' m' H locs lsA cells slots hv hd hst hE hS hl kk
  obtain ⟨⟨hx, hb, hml, hown, hts⟩, hK, hSF, hfv, hz0⟩ := C0
  simp only [x_val, decide_eq_true_eq] at hv
  subst hv
  simp only [x_sm] at hst
  split at hst
  · next x r =>
    simp only [Option.some.injEq, Prod.mk.injEq] at hst; obtain ⟨rfl, rfl, rfl, rfl⟩ := hst
    exact lv_i2c hx hb hd (i3_of _).symm (kk _ _ _ hE hS hl)
  · cases hst

set_option maxHeartbeats 1000000 in
theorem sx_l2i (C0 : x_Cx g sc p s mm args c own bts nL) {len a b : Nat} {z : Int} : x_Step p l en R s mm args below meth c Q g sc own bts nL (.l2i, len, a, b, z) := by
  intro w pc ls st m pc' ls' st' m' H locs lsA cells slots hv hd hst hE hS hl kk
  obtain ⟨⟨hx, hb, hml, hown, hts⟩, hK, hSF, hfv, hz0⟩ := C0
  simp only [x_val, decide_eq_true_eq] at hv
  subst hv
  simp only [x_sm] at hst
  split at hst
  · next x r =>
    simp only [Option.some.injEq, Prod.mk.injEq] at hst; obtain ⟨rfl, rfl, rfl, rfl⟩ := hst
    exact lv_l2i hx hb hd (i3_of _).symm (kk _ _ _ hE hS hl)
  · cases hst

set_option maxHeartbeats 1000000 in
theorem sx_i2l (C0 : x_Cx g sc p s mm args c own bts nL) {len a b : Nat} {z : Int} : x_Step p l en R s mm args below meth c Q g sc own bts nL (.i2l, len, a, b, z) := by
  intro w pc ls st m pc' ls' st' m' H locs lsA cells slots hv hd hst hE hS hl kk
  obtain ⟨⟨hx, hb, hml, hown, hts⟩, hK, hSF, hfv, hz0⟩ := C0
  simp only [x_val, decide_eq_true_eq] at hv
  subst hv
  simp only [x_sm] at hst
  split at hst
  · next x r =>
    simp only [Option.some.injEq, Prod.mk.injEq] at hst; obtain ⟨rfl, rfl, rfl, rfl⟩ := hst
    exact lv_i2l hx hb hd rfl (kk _ _ _ hE hS hl)
  · cases hst

set_option maxHeartbeats 1000000 in
theorem sx_lshl (C0 : x_Cx g sc p s mm args c own bts nL) {len a b : Nat} {z : Int} : x_Step p l en R s mm args below meth c Q g sc own bts nL (.lshl, len, a, b, z) := by
  intro w pc ls st m pc' ls' st' m' H locs lsA cells slots hv hd hst hE hS hl kk
  obtain ⟨⟨hx, hb, hml, hown, hts⟩, hK, hSF, hfv, hz0⟩ := C0
  simp only [x_val, decide_eq_true_eq] at hv
  subst hv
  simp only [x_sm] at hst
  split at hst
  · next y x r =>
    simp only [Option.some.injEq, Prod.mk.injEq] at hst; obtain ⟨rfl, rfl, rfl, rfl⟩ := hst
    exact lv_lshl hx hb hd rfl (kk _ _ _ hE hS hl)
  · cases hst

set_option maxHeartbeats 1000000 in
theorem sx_land (C0 : x_Cx g sc p s mm args c own bts nL) {len a b : Nat} {z : Int} : x_Step p l en R s mm args below meth c Q g sc own bts nL (.land, len, a, b, z) := by
  intro w pc ls st m pc' ls' st' m' H locs lsA cells slots hv hd hst hE hS hl kk
  obtain ⟨⟨hx, hb, hml, hown, hts⟩, hK, hSF, hfv, hz0⟩ := C0
  simp only [x_val, decide_eq_true_eq] at hv
  subst hv
  simp only [x_sm] at hst
  split at hst
  · next y x r =>
    simp only [Option.some.injEq, Prod.mk.injEq] at hst; obtain ⟨rfl, rfl, rfl, rfl⟩ := hst
    exact lv_land hx hb hd (kk _ _ _ hE hS hl)
  · cases hst

set_option maxHeartbeats 1000000 in
theorem sx_lor (C0 : x_Cx g sc p s mm args c own bts nL) {len a b : Nat} {z : Int} : x_Step p l en R s mm args below meth c Q g sc own bts nL (.lor, len, a, b, z) := by
  intro w pc ls st m pc' ls' st' m' H locs lsA cells slots hv hd hst hE hS hl kk
  obtain ⟨⟨hx, hb, hml, hown, hts⟩, hK, hSF, hfv, hz0⟩ := C0
  simp only [x_val, decide_eq_true_eq] at hv
  subst hv
  simp only [x_sm] at hst
  split at hst
  · next y x r =>
    simp only [Option.some.injEq, Prod.mk.injEq] at hst; obtain ⟨rfl, rfl, rfl, rfl⟩ := hst
    exact lv_lor hx hb hd (kk _ _ _ hE hS hl)
  · cases hst

set_option maxHeartbeats 1000000 in
theorem sx_lcmp (C0 : x_Cx g sc p s mm args c own bts nL) {len a b : Nat} {z : Int} : x_Step p l en R s mm args below meth c Q g sc own bts nL (.lcmp, len, a, b, z) := by
  intro w pc ls st m pc' ls' st' m' H locs lsA cells slots hv hd hst hE hS hl kk
  obtain ⟨⟨hx, hb, hml, hown, hts⟩, hK, hSF, hfv, hz0⟩ := C0
  simp only [x_val, decide_eq_true_eq] at hv
  subst hv
  simp only [x_sm] at hst
  split at hst
  · next y x r =>
    simp only [Option.some.injEq, Prod.mk.injEq] at hst; obtain ⟨rfl, rfl, rfl, rfl⟩ := hst
    refine W.lcmp hx hb hd ?_
    rw [← i3_of (lg_cmp x y)]
    exact kk _ _ _ hE hS hl
  · cases hst

set_option maxHeartbeats 1000000 in
theorem sx_dup (C0 : x_Cx g sc p s mm args c own bts nL) {len a b : Nat} {z : Int} : x_Step p l en R s mm args below meth c Q g sc own bts nL (.dup, len, a, b, z) := by
  intro w pc ls st m pc' ls' st' m' H locs lsA cells slots hv hd hst hE hS hl kk
  obtain ⟨⟨hx, hb, hml, hown, hts⟩, hK, hSF, hfv, hz0⟩ := C0
  simp only [x_val, decide_eq_true_eq] at hv
  subst hv
  simp only [x_sm] at hst
  split at hst
  · next v r =>
    split at hst
    · next h1 =>
      simp only [Option.some.injEq, Prod.mk.injEq] at hst; obtain ⟨rfl, rfl, rfl, rfl⟩ := hst
      exact lv_dup hx hb hd (by rw [x_cat_em g hfv]; exact h1) (kk _ _ _ hE hS hl)
    · cases hst
  · cases hst

set_option maxHeartbeats 1000000 in
theorem sx_dup2 (C0 : x_Cx g sc p s mm args c own bts nL) {len a b : Nat} {z : Int} : x_Step p l en R s mm args below meth c Q g sc own bts nL (.dup2, len, a, b, z) := by
  intro w pc ls st m pc' ls' st' m' H locs lsA cells slots hv hd hst hE hS hl kk
  obtain ⟨⟨hx, hb, hml, hown, hts⟩, hK, hSF, hfv, hz0⟩ := C0
  simp only [x_val, decide_eq_true_eq] at hv
  subst hv
  simp only [x_sm] at hst
  split at hst
  · next v u r =>
    split at hst
    · next h1 =>
      simp only [Option.some.injEq, Prod.mk.injEq] at hst; obtain ⟨rfl, rfl, rfl, rfl⟩ := hst
      exact lv_dup2_11 hx hb hd (by rw [x_cat_em g hfv]; exact h1.1) (by rw [x_cat_em g hfv]; exact h1.2) (kk _ _ _ hE hS hl)
    · cases hst
  · cases hst

set_option maxHeartbeats 1000000 in
theorem sx_pop (C0 : x_Cx g sc p s mm args c own bts nL) {len a b : Nat} {z : Int} : x_Step p l en R s mm args below meth c Q g sc own bts nL (.pop, len, a, b, z) := by
  intro w pc ls st m pc' ls' st' m' H locs lsA cells slots hv hd hst hE hS hl kk
  obtain ⟨⟨hx, hb, hml, hown, hts⟩, hK, hSF, hfv, hz0⟩ := C0
  simp only [x_val, decide_eq_true_eq] at hv
  subst hv
  simp only [x_sm] at hst
  split at hst
  · next v r =>
    simp only [Option.some.injEq, Prod.mk.injEq] at hst; obtain ⟨rfl, rfl, rfl, rfl⟩ := hst
    exact lv_pop hx hb hd rfl (kk _ _ _ hE hS hl)
  · cases hst

set_option maxHeartbeats 1000000 in
theorem sx_goto (C0 : x_Cx g sc p s mm args c own bts nL) {off : Int} {len a b : Nat} {z : Int} : x_Step p l en R s mm args below meth c Q g sc own bts nL (.goto off, len, a, b, z) := by
  intro w pc ls st m pc' ls' st' m' H locs lsA cells slots hv hd hst hE hS hl kk
  obtain ⟨⟨hx, hb, hml, hown, hts⟩, hK, hSF, hfv, hz0⟩ := C0
  simp only [x_val, decide_eq_true_eq] at hv
  obtain ⟨rfl, ht⟩ := hv
  simp only [x_sm] at hst
  simp only [Option.some.injEq, Prod.mk.injEq] at hst; obtain ⟨rfl, rfl, rfl, rfl⟩ := hst
  exact lv_goto hx hb hd ht (kk _ _ _ hE hS hl)

set_option maxHeartbeats 1000000 in
theorem sx_ifCond (C0 : x_Cx g sc p s mm args c own bts nL) {cd : Jvm.ClassFile.Cond} {off : Int} {len a b : Nat} {z : Int} : x_Step p l en R s mm args below meth c Q g sc own bts nL (.ifCond cd off, len, a, b, z) := by
  intro w pc ls st m pc' ls' st' m' H locs lsA cells slots hv hd hst hE hS hl kk
  obtain ⟨⟨hx, hb, hml, hown, hts⟩, hK, hSF, hfv, hz0⟩ := C0
  simp only [x_val, decide_eq_true_eq] at hv
  obtain ⟨rfl, ht⟩ := hv
  simp only [x_sm] at hst
  split at hst
  · next x r =>
    simp only [Option.some.injEq, Prod.mk.injEq] at hst; obtain ⟨rfl, rfl, rfl, rfl⟩ := hst
    cases cd
    · refine lv_if_eq hx hb hd ht (fun h => ?_) (fun h => ?_)
      · simp only [x_cnd, decide_eq_true_eq, i3_eq0] at h kk
        rw [if_pos h] at kk
        exact kk _ _ _ hE hS hl
      · simp only [x_cnd, decide_eq_true_eq, i3_eq0] at h kk
        rw [if_neg (by first | exact h | exact not_not_intro h)] at kk
        exact kk _ _ _ hE hS hl
    · refine lv_if_ne hx hb hd ht (fun h => ?_) (fun h => ?_)
      · simp only [x_cnd, decide_eq_true_eq, i3_eq0] at h kk
        rw [if_pos h] at kk
        exact kk _ _ _ hE hS hl
      · simp only [x_cnd, decide_eq_true_eq, i3_eq0] at h kk
        rw [if_neg (by first | exact h | exact not_not_intro h)] at kk
        exact kk _ _ _ hE hS hl
    · refine lv_if_lt hx hb hd ht (fun h => ?_) (fun h => ?_)
      · simp only [x_cnd, decide_eq_true_eq, i3_lt0] at h kk
        rw [if_pos h] at kk
        exact kk _ _ _ hE hS hl
      · simp only [x_cnd, decide_eq_true_eq, i3_lt0] at h kk
        rw [if_neg (by first | exact h | exact not_not_intro h)] at kk
        exact kk _ _ _ hE hS hl
    · refine lv_if_ge hx hb hd ht (fun h => ?_) (fun h => ?_)
      · simp only [x_cnd, decide_eq_true_eq, i3_ge0] at h kk
        rw [if_pos h] at kk
        exact kk _ _ _ hE hS hl
      · simp only [x_cnd, decide_eq_true_eq, i3_ge0] at h kk
        rw [if_neg (by first | exact h | exact not_not_intro h)] at kk
        exact kk _ _ _ hE hS hl
    · refine lv_if_gt hx hb hd ht (fun h => ?_) (fun h => ?_)
      · simp only [x_cnd, decide_eq_true_eq, i3_gt0] at h kk
        rw [if_pos h] at kk
        exact kk _ _ _ hE hS hl
      · simp only [x_cnd, decide_eq_true_eq, i3_gt0] at h kk
        rw [if_neg (by first | exact h | exact not_not_intro h)] at kk
        exact kk _ _ _ hE hS hl
    · refine lv_if_le hx hb hd ht (fun h => ?_) (fun h => ?_)
      · simp only [x_cnd, decide_eq_true_eq, i3_le0] at h kk
        rw [if_pos h] at kk
        exact kk _ _ _ hE hS hl
      · simp only [x_cnd, decide_eq_true_eq, i3_le0] at h kk
        rw [if_neg (by first | exact h | exact not_not_intro h)] at kk
        exact kk _ _ _ hE hS hl
  · cases hst

set_option maxHeartbeats 1000000 in
theorem sx_if_icmp (C0 : x_Cx g sc p s mm args c own bts nL) {cd : Jvm.ClassFile.Cond} {off : Int} {len a b : Nat} {z : Int} : x_Step p l en R s mm args below meth c Q g sc own bts nL (.if_icmp cd off, len, a, b, z) := by
  intro w pc ls st m pc' ls' st' m' H locs lsA cells slots hv hd hst hE hS hl kk
  obtain ⟨⟨hx, hb, hml, hown, hts⟩, hK, hSF, hfv, hz0⟩ := C0
  simp only [x_val, decide_eq_true_eq] at hv
  obtain ⟨rfl, ht⟩ := hv
  simp only [x_sm] at hst
  split at hst
  · next y x r =>
    simp only [Option.some.injEq, Prod.mk.injEq] at hst; obtain ⟨rfl, rfl, rfl, rfl⟩ := hst
    cases cd
    · refine lv_icmp_eq hx hb hd ht (fun h => ?_) (fun h => ?_)
      · simp only [x_cnd, decide_eq_true_eq, i3_inj] at h kk
        rw [if_pos h] at kk
        exact kk _ _ _ hE hS hl
      · simp only [x_cnd, decide_eq_true_eq, i3_inj] at h kk
        rw [if_neg (by first | exact h | exact not_not_intro h)] at kk
        exact kk _ _ _ hE hS hl
    · refine lv_icmp_ne hx hb hd ht (fun h => ?_) (fun h => ?_)
      · simp only [x_cnd, decide_eq_true_eq, i3_inj] at h kk
        rw [if_pos h] at kk
        exact kk _ _ _ hE hS hl
      · simp only [x_cnd, decide_eq_true_eq, i3_inj] at h kk
        rw [if_neg (by first | exact h | exact not_not_intro h)] at kk
        exact kk _ _ _ hE hS hl
    · refine lv_icmp_lt hx hb hd ht (fun h => ?_) (fun h => ?_)
      · simp only [x_cnd, decide_eq_true_eq, i3_lt] at h kk
        rw [if_pos h] at kk
        exact kk _ _ _ hE hS hl
      · simp only [x_cnd, decide_eq_true_eq, i3_lt] at h kk
        rw [if_neg (by first | exact h | exact not_not_intro h)] at kk
        exact kk _ _ _ hE hS hl
    · refine lv_icmp_ge hx hb hd ht (fun h => ?_) (fun h => ?_)
      · simp only [x_cnd, decide_eq_true_eq, i3_le] at h kk
        rw [if_pos h] at kk
        exact kk _ _ _ hE hS hl
      · simp only [x_cnd, decide_eq_true_eq, i3_le] at h kk
        rw [if_neg (by first | exact h | exact not_not_intro h)] at kk
        exact kk _ _ _ hE hS hl
    · refine lv_icmp_gt hx hb hd ht (fun h => ?_) (fun h => ?_)
      · simp only [x_cnd, decide_eq_true_eq, i3_lt] at h kk
        rw [if_pos h] at kk
        exact kk _ _ _ hE hS hl
      · simp only [x_cnd, decide_eq_true_eq, i3_lt] at h kk
        rw [if_neg (by first | exact h | exact not_not_intro h)] at kk
        exact kk _ _ _ hE hS hl
    · refine lv_icmp_le hx hb hd ht (fun h => ?_) (fun h => ?_)
      · simp only [x_cnd, decide_eq_true_eq, i3_le] at h kk
        rw [if_pos h] at kk
        exact kk _ _ _ hE hS hl
      · simp only [x_cnd, decide_eq_true_eq, i3_le] at h kk
        rw [if_neg (by first | exact h | exact not_not_intro h)] at kk
        exact kk _ _ _ hE hS hl
  · cases hst

set_option maxHeartbeats 1000000 in
theorem sx_tableswitch (C0 : x_Cx g sc p s mm args c own bts nL) {d lo hi : Int} {offs : Array Int} {len a b : Nat} {z : Int} : x_Step p l en R s mm args below meth c Q g sc own bts nL (.tableswitch d lo hi offs, len, a, b, z) := by
  intro w pc ls st m pc' ls' st' m' H locs lsA cells slots hv hd hst hE hS hl kk
  obtain ⟨⟨hx, hb, hml, hown, hts⟩, hK, hSF, hfv, hz0⟩ := C0
  simp only [x_val, decide_eq_true_eq, Bool.and_eq_true, List.all_eq_true] at hv
  obtain ⟨h0, h1⟩ := hv
  simp only [x_sm] at hst
  split at hst
  · next x r =>
    split at hst
    · next h2 =>
      simp only [Option.some.injEq, Prod.mk.injEq] at hst; obtain ⟨rfl, rfl, rfl, rfl⟩ := hst
      exact lv_tableOut hx hb hd (by rw [i3_toInt]; exact h2) (by rw [Int.toNat_of_nonneg h0]) (kk _ _ _ hE hS hl)
    · next h2 =>
      split at hst
      · next o ho =>
        simp only [Option.some.injEq, Prod.mk.injEq] at hst; obtain ⟨rfl, rfl, rfl, rfl⟩ := hst
        refine lv_tableIn hx hb hd (by rw [i3_toInt]; omega) (by rw [i3_toInt]; omega) (by rw [i3_toInt]; exact ho) ?_ (kk _ _ _ hE hS hl)
        have := h1 o (by
          have h3 := List.mem_of_getElem? (by rw [← Array.getElem?_toList] at ho; exact ho)
          exact h3)
        rw [Int.toNat_of_nonneg this]
      · cases hst
  · cases hst

set_option maxHeartbeats 1000000 in
theorem sx_lookupswitch (C0 : x_Cx g sc p s mm args c own bts nL) {d : Int} {ps : Array (Int × Int)} {len a b : Nat} {z : Int} : x_Step p l en R s mm args below meth c Q g sc own bts nL (.lookupswitch d ps, len, a, b, z) := by
  intro w pc ls st m pc' ls' st' m' H locs lsA cells slots hv hd hst hE hS hl kk
  obtain ⟨⟨hx, hb, hml, hown, hts⟩, hK, hSF, hfv, hz0⟩ := C0
  simp only [x_val, decide_eq_true_eq, Bool.and_eq_true] at hv
  obtain ⟨⟨h0, h1⟩, h2⟩ := hv
  simp only [x_sm] at hst
  split at hst
  · next x r =>
    simp only [Option.some.injEq, Prod.mk.injEq] at hst; obtain ⟨rfl, rfl, rfl, rfl⟩ := hst
    refine lv_lookup hx hb hd h2 rfl ?_ (kk _ _ _ hE hS hl)
    rw [i3_toInt]
    rw [Int.toNat_of_nonneg]
    exact x_lks pc d (wr x) ps.toList h0 h1
  · cases hst
end SXA
