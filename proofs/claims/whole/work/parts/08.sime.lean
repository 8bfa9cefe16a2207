def x_sz (sh : List xShp) : Nat := (sh.map (fun t => t.2.1)).sum
/-- an instruction that makes cells -/
def x_StepN (p : Program) (l : Launch) (en : Env) (R : Room) (s : State) (mm : MethodId) (args : Array Value) (below : List Frame) (meth : Method) (c : Code) (Q : State → Prop) (g : xG) (sc : List Int) (own : String) (bts : ByteArray) (nL : Nat) (e : xEnt) : Prop :=
  ∀ (w pc : Nat) (ls : xLc) (st : List xPV) (m : xMem) (pc' : Nat) (ls' : xLc) (st' : List xPV) (m' : xMem) (H : Heap) (locs : List Loc) (lsA : Array Slot) (cells slots : Nat), x_val own pc e w = true → decode bts pc = .ok (e.1, e.2.1) → x_sm sc nL e pc ls st m = some (pc', ls', st', m') →
    x_E g m H → va_S (x_A g) s.heap H locs → lv_has lsA nL (x_ml g ls) → cells + (m'.1.length - m.1.length) ≤ R.cells → slots + (x_sz m'.1 - x_sz m.1) ≤ R.slots → m'.1.length ≤ 1000 →
    (∀ (H' : Heap) (lsA' : Array Slot), x_E g m' H' → va_S (x_A g) s.heap H' locs → lv_has lsA' nL (x_ml g ls') → W p l en R s mm args below meth c H' locs (cells + (m'.1.length - m.1.length)) (slots + (x_sz m'.1 - x_sz m.1)) Q (F0 mm pc' lsA' (st'.map (x_em g)))) →
    W p l en R s mm args below meth c H locs cells slots Q (F0 mm pc lsA (st.map (x_em g)))
section SXE
variable {p : Program} {l : Launch} {en : Env} {R : Room} {s : State} {mm : MethodId} {args : Array Value} {below : List Frame} {meth : Method} {c : Code} {Q : State → Prop} {g : xG} {sc : List Int} {own : String} {bts : ByteArray} {nL : Nat}
theorem x_sz_app (a b : List xShp) : x_sz (a ++ b) = x_sz a + x_sz b := by simp [x_sz]
theorem x_szd1 (a : List xShp) (t : xShp) : x_sz (a ++ [t]) - x_sz a = t.2.1 := by rw [x_sz_app]; simp [x_sz]
theorem x_lnd1 (a : List xShp) (t : xShp) : (a ++ [t]).length - a.length = 1 := by simp
theorem x_Snew {H0 H H1 : Heap} {locs : List Loc} (h : va_S (x_A g) H0 H locs) (z : H.size ≤ H1.size) (o1 : ∀ q, q < H.size → H1[q]? = H[q]?) : va_S (x_A g) H0 H1 locs :=
  ⟨Nat.le_trans h.1 z, fun q h1 h2 => (o1 q (Nat.lt_of_lt_of_le h1 h.1)).trans (h.2.1 q h1 h2), h.2.2⟩
theorem x_wcl : ∀ a, a < 10 → ∃ C T N, vwCl[a]? = some (C, T, N) ∧ (Cond.instantiable C N) ∈ lw_use ∧ (Cond.initialized C) ∈ lw_use ∧ (x_defR a).length = N ∧ ∀ ty : Nat → FieldType, (∀ k, k < N → parseFieldDescriptor (T k).2.2.1 = some (ty k)) → ∀ j, j < N → (((x_defR a)[j]? = some none ∧ defaultValue (ty j) = .int 0) ∨ ((x_defR a)[j]? = some (some 1031) ∧ defaultValue (ty j) = .null)) := by
  have key : ∀ (C : String) (T : u_T) (N : Nat) (R : List (Option Nat)), (∀ j, j < N → (R[j]? = some none ∧ (parseFieldDescriptor (T j).2.2.1 = some .int ∨ parseFieldDescriptor (T j).2.2.1 = some .boolean)) ∨ (R[j]? = some (some 1031) ∧ x_isRef (parseFieldDescriptor (T j).2.2.1) = true)) →
      ∀ ty : Nat → FieldType, (∀ k, k < N → parseFieldDescriptor (T k).2.2.1 = some (ty k)) → ∀ j, j < N → ((R[j]? = some none ∧ defaultValue (ty j) = .int 0) ∨ (R[j]? = some (some 1031) ∧ defaultValue (ty j) = .null)) := by
    intro C T N R h ty hty j hj
    rcases h j hj with ⟨h1, h2⟩ | ⟨h1, h2⟩
    · refine Or.inl ⟨h1, ?_⟩
      rw [hty j hj] at h2
      rcases h2 with h2 | h2 <;> (rw [Option.some.inj h2]; rfl)
    · refine Or.inr ⟨h1, ?_⟩
      rw [hty j hj] at h2
      cases hq : ty j <;> rw [hq] at h2 <;> first | rfl | simp [x_isRef] at h2
  intro a ha
  match a, ha with
  | 0, _ => exact ⟨_, _, _, rfl, by decide +kernel, by decide +kernel, rfl, key RX0 TX0 _ _ (by decide +kernel)⟩
  | 1, _ => exact ⟨_, _, _, rfl, by decide +kernel, by decide +kernel, rfl, key RX1 TX1 _ _ (by decide +kernel)⟩
  | 2, _ => exact ⟨_, _, _, rfl, by decide +kernel, by decide +kernel, rfl, key RX2 TX2 _ _ (by decide +kernel)⟩
  | 3, _ => exact ⟨_, _, _, rfl, by decide +kernel, by decide +kernel, rfl, key RX3 TX3 _ _ (by decide +kernel)⟩
  | 4, _ => exact ⟨_, _, _, rfl, by decide +kernel, by decide +kernel, rfl, key RX4 TX4 _ _ (by decide +kernel)⟩
  | 5, _ => exact ⟨_, _, _, rfl, by decide +kernel, by decide +kernel, rfl, key RX5 TX5 _ _ (by decide +kernel)⟩
  | 6, _ => exact ⟨_, _, _, rfl, by decide +kernel, by decide +kernel, rfl, key RX6 TX6 _ _ (by decide +kernel)⟩
  | 7, _ => exact ⟨_, _, _, rfl, by decide +kernel, by decide +kernel, rfl, key RX7 TX7 _ _ (by decide +kernel)⟩
  | 8, _ => exact ⟨_, _, _, rfl, by decide +kernel, by decide +kernel, rfl, key RX8 TX8 _ _ (by decide +kernel)⟩
  | 9, _ => exact ⟨_, _, _, rfl, by decide +kernel, by decide +kernel, rfl, key RX9 TX9 _ _ (by decide +kernel)⟩
  | n + 10, h => omega
theorem x_vp_flds {m : xMem} {k n : Nat} {rs : List (Option Nat)} {j : Nat} (hj : j < n) : vp_V ((List.range n).map (fun b => x_fv g m.2.1 k b rs)) j = x_fv g m.2.1 k j rs := by
  unfold vp_V
  rw [List.getD_eq_getElem?_getD, List.getElem?_map, List.getElem?_range hj]
  rfl
set_option maxHeartbeats 1000000 in
theorem sx_new (C0 : x_Cx g sc p s mm args c own bts nL) {i len a b : Nat} {z : Int} : x_StepN p l en R s mm args below meth c Q g sc own bts nL (.new i, len, a, b, z) := by
  intro w pc ls st m pc' ls' st' m' H locs lsA cells slots hv hd hst hE hS hl hcl hsl hbd kk
  obtain ⟨⟨hx, hb, hml, hown, hts⟩, hK, hSF, hfv, hz0⟩ := C0
  simp only [x_val, decide_eq_true_eq, Bool.and_eq_true] at hv
  obtain ⟨rfl, hv⟩ := hv
  simp only [x_sm] at hst
  split at hst
  · next ha =>
    simp only [Option.some.injEq, Prod.mk.injEq] at hst; obtain ⟨rfl, rfl, rfl, rfl⟩ := hst
    obtain ⟨C, T, N, hc, hwi, hwn, hlen, hdf⟩ := x_wcl a ha
    rw [hc] at hv
    simp only [decide_eq_true_eq] at hv
    obtain ⟨-, hw, -⟩ := hv
    obtain ⟨hin, ⟨ty, hty⟩, hnm⟩ := x_cl _ _ _ _ hc
    have hKn := hK.1 a _ hc
    have hlt : m.1.length < 1000 := by have : (m.1 ++ [(a, (x_defR a).length, x_defR a)]).length ≤ 1000 := hbd; simp at this; omega
    simp only [x_nw, x_lnd1, x_szd1] at hcl hsl kk
    refine W.newcK hx hb hown (hts _ (x_mu hw rfl)) (hts _ hwi) (hts _ hwn) rfl hd hcl (by rw [← hlen]; exact hsl) hKn.2.1 rfl fun H1 kC hkC e1 z1 o1 => ?_
    have h1 : x_E g (m.1 ++ [(a, (x_defR a).length, x_defR a)], m.2) H1 := by
      refine x_E_app hE [(a, (x_defR a).length, x_defR a)] z1 o1 fun j t ht => ?_
      match j, ht with
      | 0, ht =>
        cases ht
        unfold x_at
        rw [x_ce_obj (t := (a, (x_defR a).length, x_defR a)) ha]
        refine ⟨_, hc, ?_⟩
        have h2 := u_born ty hts hin hKn hkC e1 hty
        rw [hE.1] at h2
        refine h2.to fun j hj => ?_
        rw [x_vp_flds (by rw [hlen]; exact hj)]
        rcases hdf ty hty j hj with ⟨h3, h4⟩ | ⟨h3, h4⟩
        · rw [x_fv_n h3, (hE.2.2 _ j (Nat.le_add_right _ _)).1]; exact h4
        · rw [x_fv_r h3]; exact h4
      | j + 1, ht => simp at ht
    have h3 := kk H1 lsA h1 (x_Snew hS (by omega) o1) hl
    rw [List.map_cons, show x_em g (xr m.1.length) = .ref (g.1 + m.1.length) from x_em_r hlt] at h3
    rw [← hlen, hE.1]
    exact h3
  · cases hst
theorem x_wac : ∀ t : ArrayType, t = .int ∨ t = .boolean ∨ t = .byte ∨ t = .long → (Cond.arrayClass (newarray.typeOf t)) ∈ lw_use := by
  intro t h
  rcases h with rfl | rfl | rfl | rfl
  · exact x_mu (i := 147) (by decide +kernel) rfl
  · exact x_mu (i := 1233) (by decide +kernel) rfl
  · exact x_mu (i := 252) (by decide +kernel) rfl
  · exact x_mu (i := 361) (by decide +kernel) rfl
set_option maxHeartbeats 1000000 in
theorem sx_newarray (C0 : x_Cx g sc p s mm args c own bts nL) {i : ArrayType} {len a b : Nat} {z : Int} : x_StepN p l en R s mm args below meth c Q g sc own bts nL (.newarray i, len, a, b, z) := by
  intro w pc ls st m pc' ls' st' m' H locs lsA cells slots hv hd hst hE hS hl hcl hsl hbd kk
  obtain ⟨⟨hx, hb, hml, hown, hts⟩, hK, hSF, hfv, hz0⟩ := C0
  simp only [x_val, decide_eq_true_eq] at hv
  obtain ⟨rfl, hv⟩ := hv
  simp only [x_sm] at hst
  split at hst
  · next n r =>
    split at hst
    · next hn =>
      simp only [Option.some.injEq, Prod.mk.injEq] at hst; obtain ⟨rfl, rfl, rfl, rfl⟩ := hst
      have hlt : m.1.length < 1000 := by have : (m.1 ++ [((a, n.toNat, []) : xShp)]).length ≤ 1000 := hbd; simp at this; omega
      simp only [x_nw, x_lnd1, x_szd1] at hcl hsl kk
      have hcn : (i3 n).toNatClampNeg = n.toNat := by rw [i3_clamp, wr_id (by omega) (by omega)]
      have hac := hts _ (x_wac i (by rcases hv with ⟨h, -⟩ | ⟨h, -⟩ | ⟨h, -⟩ | ⟨h, -⟩ <;> simp [h]))
      have hcb : componentBytes (newarray.typeOf i) ≤ 8 := by cases i <;> decide
      refine va_newaK hx hb hac (g := F0 mm pc lsA (.int (i3 n) :: List.map (x_em g) r)) rfl hd rfl (i3_nn (by rw [wr_id (by omega) (by omega)]; omega)) hcn (Nat.le_trans (Nat.mul_le_mul_left _ hcb) (by omega)) hcl hsl rfl fun H1 cA e1 z1 o1 hAr hNm => ?_
      have hcA : ∀ (t0 : Nat) (q : ClassId), (x_tys g)[t0]? = some (q, newarray.typeOf i) → cA = q := by
        intro t0 q h
        have h2 := (hK.2 t0 _ h).2
        have h3 : s.vm.findClass ("[" ++ (newarray.typeOf i).toString) = some q := by
          rcases hv with ⟨rfl, -⟩ | ⟨rfl, -⟩ | ⟨rfl, -⟩ | ⟨rfl, -⟩ <;> exact h2
        exact Option.some.inj (hNm.symm.trans h3)
      have h1 : x_E g (m.1 ++ [(a, n.toNat, [])], m.2) H1 := by
        refine x_E_app hE [(a, n.toNat, [])] z1 o1 fun j t ht => ?_
        match j, ht with
        | 0, ht =>
          cases ht
          unfold x_at
          rw [hE.1] at e1
          have z0 : ∀ j, m.2.1 (m.1.length + 0) j = 0 ∧ m.2.2 (m.1.length + 0) j = 0 := fun j => hE.2.2 _ j (Nat.le_add_right _ _)
          rcases hv with ⟨rfl, rfl⟩ | ⟨rfl, rfl⟩ | ⟨rfl, rfl⟩ | ⟨rfl, rfl⟩
          · rw [x_ce_int (t := (20, n.toNat, [])) (by dsimp only; decide) (by dsimp only; decide), ← hcA 0 _ rfl]
            simp only [z0]
            exact e1
          · rw [x_ce_int (t := (22, n.toNat, [])) (by dsimp only; decide) (by dsimp only; decide), ← hcA 2 _ rfl]
            simp only [z0]
            exact e1
          · rw [x_ce_int (t := (21, n.toNat, [])) (by dsimp only; decide) (by dsimp only; decide), ← hcA 1 _ rfl]
            simp only [z0]
            exact e1
          · rw [x_ce_long (t := (23, n.toNat, [])) rfl, ← hcA 3 _ rfl]
            simp only [z0]
            exact e1
        | j + 1, ht => simp at ht
      have h3 := kk H1 lsA h1 (x_Snew hS (by omega) o1) hl
      rw [List.map_cons, show x_em g (xr m.1.length) = .ref (g.1 + m.1.length) from x_em_r hlt] at h3
      rw [hE.1]
      exact h3
    · cases hst
  · cases hst
set_option maxHeartbeats 1000000 in
theorem sx_anewarray (hAO : (Cond.arrayOver (.object RX2)).before args s = true ∧ (Cond.arrayOver (.object RX5)).before args s = true ∧ (Cond.arrayOver (.object RX6)).before args s = true) (C0 : x_Cx g sc p s mm args c own bts nL) {i : Nat} {len a b : Nat} {z : Int} : x_StepN p l en R s mm args below meth c Q g sc own bts nL (.anewarray i, len, a, b, z) := by
  intro w pc ls st m pc' ls' st' m' H locs lsA cells slots hv hd hst hE hS hl hcl hsl hbd kk
  obtain ⟨⟨hx, hb, hml, hown, hts⟩, hK, hSF, hfv, hz0⟩ := C0
  simp only [x_val, decide_eq_true_eq, Bool.and_eq_true] at hv
  obtain ⟨rfl, hv⟩ := hv
  split at hv
  · next C T N hc =>
    simp only [decide_eq_true_eq] at hv
    obtain ⟨ha, hw⟩ := hv
    simp only [x_sm] at hst
    split at hst
    · next n r =>
      split at hst
      · next hn =>
        simp only [Option.some.injEq, Prod.mk.injEq] at hst; obtain ⟨rfl, rfl, rfl, rfl⟩ := hst
        have hlt : m.1.length < 1000 := by have : (m.1 ++ [((a, n.toNat, List.replicate n.toNat (some 1031)) : xShp)]).length ≤ 1000 := hbd; simp at this; omega
        simp only [x_nw, x_lnd1, x_szd1] at hcl hsl kk
        have hcn : (i3 n).toNatClampNeg = n.toNat := by rw [i3_clamp, wr_id (by omega) (by omega)]
        have key : ∀ t0 : Nat, (Cond.arrayOver (.object C)).before args s = true → (x_tys g)[t0]? = some (g.2.2.2.2 a, .object C) → W p l en R s mm args below meth c H locs cells slots Q (F0 mm pc lsA (.int (i3 n) :: List.map (x_em g) r)) := by
          intro t0 hover ht0
          refine W.anew (g := F0 mm pc lsA (.int (i3 n) :: List.map (x_em g) r)) hx hb hown (hts _ (x_mu hw rfl)) hover rfl hd rfl (i3_nn (by rw [wr_id (by omega) (by omega)]; omega)) (by rw [hcn]; omega) hcl (by rw [hcn]; exact hsl) fun cA kA comp f1 f2 f3 f4 => ?_
          rw [hcn]
          have hcA : cA = g.2.2.2.2 a := by
            obtain ⟨_, _, -, -, -, h4⟩ := (hK.2 t0 _ ht0).2
            exact Option.some.inj (f1.symm.trans h4)
          subst hcA
          generalize hH1 : H.push ({ cls := g.2.2.2.2 a, slots := Array.replicate n.toNat .null, vm := .none } : Cell) = H1
          have z1 : H1.size = H.size + 1 := by rw [← hH1, Array.size_push]
          have e1 : H1[H.size]? = some (arrV (g.2.2.2.2 a) n.toNat (fun _ => .null)) := by rw [← hH1, Array.getElem?_push_size, ← arrV_new]
          have o1 : ∀ q : Nat, q < H.size → H1[q]? = H[q]? := fun q hq => by rw [← hH1, Array.getElem?_push, if_neg (Nat.ne_of_lt hq)]
          have h1 : x_E g (m.1 ++ [(a, n.toNat, List.replicate n.toNat (some 1031))], m.2) H1 := by
            refine x_E_app hE [(a, n.toNat, List.replicate n.toNat (some 1031))] z1 o1 fun j t ht => ?_
            match j, ht with
            | 0, ht =>
              cases ht
              unfold x_at
              rw [x_ce_ref (t := (a, n.toNat, List.replicate n.toNat (some 1031))) (by show 23 < a; omega)]
              rw [hE.1] at e1
              have e2 : x_rq g (List.replicate n.toNat (some 1031)) = fun _ => none := by
                funext j
                unfold x_rq
                rw [List.getElem?_replicate]
                by_cases hj : j < n.toNat
                · rw [if_pos hj]; rfl
                · rw [if_neg hj]
              show H1[_]? = some (vp_cell _ (n.toNat, .inr (.inr (.inr (.inr (x_rq g (List.replicate n.toNat (some 1031))))))))
              rw [e2, vp_cell_q]
              exact e1
            | j + 1, ht => simp at ht
          have h3 := kk H1 lsA h1 (x_Snew hS (by omega) o1) hl
          rw [List.map_cons, show x_em g (xr m.1.length) = .ref (g.1 + m.1.length) from x_em_r hlt] at h3
          rw [hE.1]
          exact h3
        rcases ha with rfl | rfl | rfl
        · cases hc; exact key 4 hAO.1 rfl
        · cases hc; exact key 5 hAO.2.1 rfl
        · cases hc; exact key 6 hAO.2.2 rfl
      · cases hst
    · cases hst
  · cases hv
end SXE
