section SXC
variable {p : Program} {l : Launch} {en : Env} {R : Room} {s : State} {mm : MethodId} {args : Array Value} {below : List Frame} {meth : Method} {c : Code} {Q : State → Prop} {g : xG} {sc : List Int} {own : String} {bts : ByteArray} {nL : Nat}
theorem x_Sput {g : xG} {H0 H H1 : Heap} {locs : List Loc} {k j : Nat} (h : va_S (x_A g) H0 H locs) (z : H1.size = H.size) (oq : ∀ q : Nat, q ≠ g.1 + k → H1[q]? = H[q]?) : va_S (x_A g) H0 H1 (locs ++ [⟨g.1 + k, j⟩]) :=
  h.put z oq (Nat.le_add_right _ _)
/-- a field written, with what the heap is then -/
theorem x_put {own C : String} {T : u_T} {N ci index b k : Nat} {fs : List Value} {H : Heap} {locs : List Loc} {lsA : Array Slot} {cells slots pc : Nat} {rest : List Value} {ty : FieldType} {v : Value}
    (hx : p.tables.exec = Jvm.exec) (hb : c.code = bts) (hts : ∀ w ∈ lw_use, w.before args s = true) (hown : s.vm.findClass own = some mm.cls) (hK : va_K g.2.2.2.1 vwCl (x_tys g) s) (hc : vwCl[ci]? = some (C, T, N)) (hbN : b < N)
    (hat : va_at g.2.2.2.1 vwCl (g.1 + k, .inr (ci, fs)) H) (hlink : (Cond.fieldLink own index (T b).1 (T b).2.1 (T b).2.2.1).before args s = true) (hfin : (T b).2.2.2 = true → (T b).1 = own ∧ meth.name = "<init>")
    (hd : parseFieldDescriptor (T b).2.2.1 = some ty) (hn : narrow ty v = v) (hfit : fits ty v = true) (hbn : b < fs.length) (hdg : decode bts pc = .ok (.putfield index, 3)) (hS : va_S (x_A g) s.heap H locs)
    (kk : ∀ (H1 : Heap) (locs1 : List Loc), va_at g.2.2.2.1 vwCl (g.1 + k, .inr (ci, fs.set b v)) H1 → H1.size = H.size → (∀ q : Nat, q ≠ g.1 + k → H1[q]? = H[q]?) → va_S (x_A g) s.heap H1 locs1 → W p l en R s mm args below meth c H1 locs1 cells slots Q (F0 mm (pc + 3) lsA rest)) :
    W p l en R s mm args below meth c H locs cells slots Q (F0 mm pc lsA (v :: .ref (g.1 + k) :: rest)) := by
  obtain ⟨hin, ⟨ty0, hty⟩, hnm⟩ := x_cl _ _ _ _ hc
  have hap := va_apart (own := own) hts hin ty0 hty hnm hK hc
  obtain ⟨r, h1, cell, q1, q2, q3, q4⟩ := hat
  have hr : r = (C, T, N) := Option.some.inj (h1.symm.trans hc)
  subst hr
  obtain ⟨hSl, hfc, kC, hkC, hkind⟩ := hK.1 ci _ hc
  obtain ⟨cf, kf, fi, f, hi, hsl⟩ := hSl b hbN
  have hlay := hts _ (hin _ (u_in_lay hbN))
  unfold u_lay at hlay
  have hst := (u_facts hfc hkC (u_lays hts hin hbN) hi).1
  have fin : ∀ (H' : Heap), H'[g.1 + k]? = some (cell.setSlot (g.2.2.2.1.2 ci b) v) → H'.size = H.size → (∀ q, q ≠ g.1 + k → H'[q]? = H[q]?) → W p l en R s mm args below meth c H' (locs ++ [⟨g.1 + k, f.slot⟩]) cells slots Q (F0 mm (pc + 3) lsA rest) := by
    intro H' e1 e2 e3
    exact kk H' _ ⟨_, hc, t_OB.to (V := updV (vp_V fs) b v) ⟨_, e1, q2, q3, t_set q4 hap hbN v⟩ (fun j _ => vp_updV_set hbn v j)⟩ e2 e3 (x_Sput hS e2 e3)
  by_cases hf : (T b).2.2.2 = true
  · rw [if_pos hf] at hlay
    obtain ⟨hdecl, hin2⟩ := hfin hf
    have hcf : mm.cls = cf := by
      obtain ⟨_, _, c', _, _, _, -, -, hf', -, -, -, hown2, -⟩ := Cond.laysFinal_spec hlay
      have e1 : c' = cf := by have := hi.symm.trans hf'; simp at this; exact this.1.symm
      rw [hdecl] at hown2
      rw [← e1]; exact Option.some.inj (hown.symm.trans hown2)
    have h6 := u_fits hfc hkC hkind (Or.inr hlay) hi hd hn hfit
    refine W.putFinK hx hb hown hlink hi hst hcf hin2 (by rw [q2]; exact h6) q1 q3 (by rw [hsl]; exact k2_hasslot (q4 b hbN)) rfl rfl hdg fun H' e1 e2 e3 => ?_
    rw [hsl] at e1
    exact fin H' e1 e2 e3
  · rw [if_neg hf] at hlay
    have h6 := u_store hfc hkC hkind hlay hi hd hn hfit
    refine W.putK hx hb (f := f) ⟨hown, hlink, ⟨_, _, _, hi⟩, hst⟩ (by rw [q2]; exact h6) q1 q3 (by rw [hsl]; exact k2_hasslot (q4 b hbN)) rfl rfl hdg fun H' e1 e2 e3 => ?_
    rw [hsl] at e1
    exact fin H' e1 e2 e3
theorem x_flds_set {I I' : Nat → Nat → Int} {k n b : Nat} {rs rs' : List (Option Nat)} {v : Value} (hbn : b < n) (h1 : x_fv g I' k b rs' = v) (h2 : ∀ j, j ≠ b → x_fv g I' k j rs' = x_fv g I k j rs) :
    ((List.range n).map (fun b => x_fv g I k b rs)).set b v = (List.range n).map (fun b => x_fv g I' k b rs') := by
  apply List.ext_getElem?
  intro j
  by_cases hj : j = b
  · subst hj
    rw [List.getElem?_set_self (by simpa using hbn), List.getElem?_map, List.getElem?_range hbn]
    exact congrArg some h1.symm
  · rw [List.getElem?_set_ne (Ne.symm hj), List.getElem?_map, List.getElem?_map]
    by_cases hn : j < n
    · rw [List.getElem?_range hn]; exact congrArg some (h2 j hj).symm
    · rw [List.getElem?_eq_none (by simpa using hn)]; rfl
theorem x_nar_b : ∀ v : Fin 256, narrow .byte (.int (i3 ((v : Nat) - 128 : Int))) = .int (i3 ((v : Nat) - 128 : Int)) := by decide +kernel
theorem x_nar_byte {v : Int} (h0 : -128 ≤ v) (h1 : v < 128) : narrow .byte (.int (i3 v)) = .int (i3 v) := by
  have h := x_nar_b ⟨(v + 128).toNat, by omega⟩
  have e : (((v + 128).toNat : Nat) : Int) - 128 = v := by omega
  simp only [e] at h
  exact h
theorem x_nar_z {v : Int} (h : v = 0 ∨ v = 1) : narrow .boolean (.int (i3 v)) = .int (i3 v) ∧ fits .boolean (.int (i3 v)) = true := by
  rcases h with rfl | rfl <;> decide
set_option maxHeartbeats 1000000 in
theorem sx_putfield {i len a b : Nat} {z : Int} (hinit : ∀ C T N, vwCl[a]? = some (C, T, N) → (T b).2.2.2 = true → meth.name = "<init>") (C0 : x_Cx g sc p s mm args c own bts nL) : x_Step p l en R s mm args below meth c Q g sc own bts nL (.putfield i, len, a, b, z) := by
  intro w pc ls st m pc' ls' st' m' H locs lsA cells slots hv hd hst hE hS hl kk
  obtain ⟨⟨hx, hb, hml, hown, hts⟩, hK, hSF, hfv, hz0⟩ := C0
  have hv0 := hv
  simp only [x_val, decide_eq_true_eq, Bool.and_eq_true] at hv
  obtain ⟨rfl, hv⟩ := hv
  split at hv
  · next C T N hc =>
    simp only [decide_eq_true_eq] at hv
    obtain ⟨ha, hbN, hw, hty, hfi⟩ := hv
    have hfin : (T b).2.2.2 = true → (T b).1 = own ∧ meth.name = "<init>" := fun h => ⟨hfi h, hinit C T N hc h⟩
    simp only [x_sm] at hst
    split at hst
    · next v k r =>
      split at hst
      · next hk =>
        split at hst
        · next t n rs hg =>
          split at hst
          · next ht =>
            obtain ⟨rfl, hbn, hr, hz, hz2⟩ := ht
            simp only [Option.some.injEq, Prod.mk.injEq] at hst; obtain ⟨rfl, rfl, rfl, rfl⟩ := hst
            rw [List.map_cons, List.map_cons, show x_em g (Sum.inr (Sum.inr k)) = .ref (g.1 + k) from x_em_r hk]
            have hat := hE.2.1 k _ hg
            unfold x_at at hat
            rw [x_ce_obj (t := (t, n, rs)) ha] at hat
            have fin : ∀ ty, parseFieldDescriptor (T b).2.2.1 = some ty → narrow ty (.int (i3 v)) = .int (i3 v) → fits ty (.int (i3 v)) = true → W p l en R s mm args below meth c H locs cells slots Q (F0 mm pc lsA (.int (i3 v) :: .ref (g.1 + k) :: List.map (x_em g) r)) := by
              intro ty h1 h2 h3
              refine x_put hx hb hts hown hK hc hbN hat (hts _ (x_mu hw rfl)) hfin h1 h2 h3 (by simpa using hbn) hd hS fun H1 locs1 e1 e2 e3 e4 => ?_
              refine kk H1 locs1 lsA (x_E_upI hE hg ?_ e2 e3) e4 hl
              unfold x_at
              rw [x_ce_obj (t := (t, n, rs)) ha]
              rw [x_flds_set (I' := x_up m.2.1 k b v) (rs' := rs) hbn (by rw [x_fv_n hr]; simp [x_up]) (fun j hj => by simp [x_fv, x_up, hj])] at e1
              exact e1
            rcases hty with ⟨rfl, h1⟩ | ⟨rfl, h1⟩ | ⟨rfl, h1⟩
            · exact fin _ h1 rfl rfl
            · exact fin _ h1 (x_nar_z (hz rfl)).1 (x_nar_z (hz rfl)).2
            · omega
          · cases hst
        · cases hst
      · cases hst
    · next v k r =>
      split at hst
      · next hk =>
        obtain ⟨hk, hvk, rfl⟩ := hk
        split at hst
        · next t n rs hg =>
          split at hst
          · next ht =>
            obtain ⟨rfl, hbn, hbr, hr⟩ := ht
            simp only [Option.some.injEq, Prod.mk.injEq] at hst; obtain ⟨rfl, rfl, rfl, rfl⟩ := hst
            rw [List.map_cons, List.map_cons, show x_em g (Sum.inr (Sum.inr k)) = .ref (g.1 + k) from x_em_r hk, show x_em g (Sum.inr (Sum.inr v)) = .ref (g.1 + v) from x_em_r hvk]
            have hat := hE.2.1 k _ hg
            unfold x_at at hat
            rw [x_ce_obj (t := (t, n, rs)) ha] at hat
            have fin : ∀ ty, parseFieldDescriptor (T b).2.2.1 = some ty → x_isRef (some ty) = true → W p l en R s mm args below meth c H locs cells slots Q (F0 mm pc lsA (.ref (g.1 + v) :: .ref (g.1 + k) :: List.map (x_em g) r)) := by
              intro ty h1 h2
              have h3 : narrow ty (.ref (g.1 + v)) = .ref (g.1 + v) ∧ fits ty (.ref (g.1 + v)) = true := by
                cases ty <;> first | exact ⟨rfl, rfl⟩ | simp [x_isRef] at h2
              refine x_put hx hb hts hown hK hc hbN hat (hts _ (x_mu hw rfl)) hfin h1 h3.1 h3.2 (by simpa using hbn) hd hS fun H1 locs1 e1 e2 e3 e4 => ?_
              refine kk H1 locs1 lsA (x_E_upR hE hg ?_ e2 e3) e4 hl
              unfold x_at
              rw [x_ce_obj (t := (t, n, rs.set b (some v))) ha]
              rw [x_flds_set (I' := m.2.1) (rs' := rs.set b (some v)) hbn (by rw [x_fv_r (List.getElem?_set_self hbr)]; exact x_em_r hvk) (fun j hj => by unfold x_fv; rw [List.getElem?_set_ne (Ne.symm hj)])] at e1
              exact e1
            rcases hty with ⟨h0, h1⟩ | ⟨h0, h1⟩ | ⟨-, h1⟩
            · omega
            · omega
            · cases h5 : parseFieldDescriptor (T b).2.2.1 with
              | none => rw [h5] at h1; simp [x_isRef] at h1
              | some ty => rw [h5] at h1; exact fin ty h5 h1
          · cases hst
        · cases hst
      · cases hst
    · cases hst
  · cases hv
theorem x_arr_i {cA : ClassId} {n k : Nat} {f f' : Nat → Int32} {x : Int32} (h1 : f' k = x) (h2 : ∀ j, j ≠ k → f' j = f j) : (vp_cell cA (n, .inl f)).setSlot k (.int x) = vp_cell cA (n, .inl f') := by
  rw [vp_cell_i, vp_cell_i, arrV_store]
  congr 2
  funext q
  by_cases hq : q = k
  · subst hq; simp [updV, h1]
  · simp [updV, hq, h2 q hq]
theorem x_arr_l {cA : ClassId} {n k : Nat} {f f' : Nat → Int64} {x : Int64} (h1 : f' k = x) (h2 : ∀ j, j ≠ k → f' j = f j) : (vp_cell cA (n, .inr (.inl f))).setSlot k (.long x) = vp_cell cA (n, .inr (.inl f')) := by
  rw [vp_cell_l, vp_cell_l, arrV_store]
  congr 2
  funext q
  by_cases hq : q = k
  · subst hq; simp [updV, h1]
  · simp [updV, hq, h2 q hq]
theorem x_inA {i : Int} {n : Nat} {cA : ClassId} {f : Nat → Value} (h0 : 0 ≤ wr i) (h1 : wr i < n) : ¬ (i3 i < 0 ∨ (arrV cA n f).slots.size ≤ (i3 i).toNatClampNeg) := by rw [arrV_size]; exact i3_in h0 h1
set_option maxHeartbeats 1000000 in
theorem sx_iastore (C0 : x_Cx g sc p s mm args c own bts nL) {len a b : Nat} {z : Int} : x_Step p l en R s mm args below meth c Q g sc own bts nL (.iastore, len, a, b, z) := by
  intro w pc ls st m pc' ls' st' m' H locs lsA cells slots hv hd hst hE hS hl kk
  obtain ⟨⟨hx, hb, hml, hown, hts⟩, hK, hSF, hfv, hz0⟩ := C0
  simp only [x_val, decide_eq_true_eq] at hv
  subst hv
  simp only [x_sm] at hst
  split at hst
  · next v i k r =>
    split at hst
    · next hk =>
      split at hst
      · next t n rs hg =>
        split at hst
        · next ht =>
          obtain ⟨rfl, h0, h1⟩ := ht
          simp only [Option.some.injEq, Prod.mk.injEq] at hst; obtain ⟨rfl, rfl, rfl, rfl⟩ := hst
          rw [List.map_cons, List.map_cons, List.map_cons, show x_em g (Sum.inr (Sum.inr k)) = .ref (g.1 + k) from x_em_r hk]
          have hat := hE.2.1 k _ hg
          unfold x_at at hat
          rw [x_ce_int (t := (20, n, rs)) (by dsimp only; decide) (by dsimp only; decide)] at hat
          refine W.iast (a := g.1 + k) (j := i3 i) (x := i3 v) hx hb hat ((hK.2 0 _ rfl).1 n (fun j => .int (i3 (m.2.1 k j)))) (fun q => by cases q) (x_inA h0 h1) rfl rfl hd fun H1 e z oq => ?_
          refine kk H1 _ lsA (x_E_upI hE hg ?_ z oq) (x_Sput hS z oq) hl
          unfold x_at
          rw [x_ce_int (t := (20, n, rs)) (by dsimp only; decide) (by dsimp only; decide)]
          refine e.trans (congrArg some (x_arr_i ?_ ?_))
          · rw [i3_clamp]; simp [x_up]
          · intro j hj; rw [i3_clamp] at hj; simp [x_up, hj]
        · cases hst
      · cases hst
    · cases hst
  · cases hst
set_option maxHeartbeats 1000000 in
theorem sx_lastore (C0 : x_Cx g sc p s mm args c own bts nL) {len a b : Nat} {z : Int} : x_Step p l en R s mm args below meth c Q g sc own bts nL (.lastore, len, a, b, z) := by
  intro w pc ls st m pc' ls' st' m' H locs lsA cells slots hv hd hst hE hS hl kk
  obtain ⟨⟨hx, hb, hml, hown, hts⟩, hK, hSF, hfv, hz0⟩ := C0
  simp only [x_val, decide_eq_true_eq] at hv
  subst hv
  simp only [x_sm] at hst
  split at hst
  · next v i k r =>
    split at hst
    · next hk =>
      split at hst
      · next t n rs hg =>
        split at hst
        · next ht =>
          obtain ⟨rfl, h0, h1⟩ := ht
          simp only [Option.some.injEq, Prod.mk.injEq] at hst; obtain ⟨rfl, rfl, rfl, rfl⟩ := hst
          rw [List.map_cons, List.map_cons, List.map_cons, show x_em g (Sum.inr (Sum.inr k)) = .ref (g.1 + k) from x_em_r hk]
          have hat := hE.2.1 k _ hg
          unfold x_at at hat
          rw [x_ce_long (t := (23, n, rs)) rfl] at hat
          refine W.last (a := g.1 + k) (j := i3 i) (x := v) hx hb hat ((hK.2 3 _ rfl).1 n (fun j => .long (m.2.2 k j))) (fun q => by cases q) (x_inA h0 h1) rfl rfl hd fun H1 e z oq => ?_
          refine kk H1 _ lsA (x_E_upL hE hg ?_ z oq) (x_Sput hS z oq) hl
          unfold x_at
          rw [x_ce_long (t := (23, n, rs)) rfl]
          refine e.trans (congrArg some (x_arr_l ?_ ?_))
          · rw [i3_clamp]; simp [x_upL]
          · intro j hj; rw [i3_clamp] at hj; simp [x_upL, hj]
        · cases hst
      · cases hst
    · cases hst
  · cases hst
set_option maxHeartbeats 1000000 in
theorem sx_bastore (C0 : x_Cx g sc p s mm args c own bts nL) {len a b : Nat} {z : Int} : x_Step p l en R s mm args below meth c Q g sc own bts nL (.bastore, len, a, b, z) := by
  intro w pc ls st m pc' ls' st' m' H locs lsA cells slots hv hd hst hE hS hl kk
  obtain ⟨⟨hx, hb, hml, hown, hts⟩, hK, hSF, hfv, hz0⟩ := C0
  simp only [x_val, decide_eq_true_eq] at hv
  obtain ⟨rfl, hv⟩ := hv
  simp only [x_sm] at hst
  split at hst
  · next v i k r =>
    split at hst
    · next hk =>
      split at hst
      · next t n rs hg =>
        split at hst
        · next ht =>
          obtain ⟨rfl, h0, h1, h2⟩ := ht
          simp only [Option.some.injEq, Prod.mk.injEq] at hst; obtain ⟨rfl, rfl, rfl, rfl⟩ := hst
          rw [List.map_cons, List.map_cons, List.map_cons, show x_em g (Sum.inr (Sum.inr k)) = .ref (g.1 + k) from x_em_r hk]
          have hat := hE.2.1 k _ hg
          unfold x_at at hat
          rw [x_ce_int (t := (t, n, rs)) (by show 10 ≤ t; omega) (by show t < 23; omega)] at hat
          have fin : ∀ H1 : Heap, H1[g.1 + k]? = some ((vp_cell (g.2.2.2.2 t) (n, .inl (fun j => i3 (m.2.1 k j)))).setSlot (i3 i).toNatClampNeg (.int (i3 v))) → H1.size = H.size → (∀ q, q ≠ g.1 + k → H1[q]? = H[q]?) → W p l en R s mm args below meth c H1 (locs ++ [⟨g.1 + k, (i3 i).toNatClampNeg⟩]) cells slots Q (F0 mm (pc + 1) lsA (List.map (x_em g) r)) := by
            intro H1 e z oq
            refine kk H1 _ lsA (x_E_upI hE hg ?_ z oq) (x_Sput hS z oq) hl
            unfold x_at
            rw [x_ce_int (t := (t, n, rs)) (by show 10 ≤ t; omega) (by show t < 23; omega)]
            refine e.trans (congrArg some (x_arr_i ?_ ?_))
            · rw [i3_clamp]; simp [x_up]
            · intro j hj; rw [i3_clamp] at hj; simp [x_up, hj]
          rcases h2 with ⟨rfl, h2, h3⟩ | ⟨rfl, h2⟩
          · refine W.bast (a := g.1 + k) (j := i3 i) (x := i3 v) hx hb hat ((hK.2 1 _ rfl).1 n (fun j => .int (i3 (m.2.1 k j)))) (fun q => by cases q) (x_inA h0 h1) rfl rfl hd fun H1 e z oq => ?_
            rw [x_nar_byte h2 h3] at e
            exact fin H1 e z oq
          · refine W.zast (a := g.1 + k) (j := i3 i) (x := i3 v) hx hb hat ((hK.2 2 _ rfl).1 n (fun j => .int (i3 (m.2.1 k j)))) (fun q => by cases q) (x_inA h0 h1) rfl rfl hd fun H1 e z oq => ?_
            rw [(x_nar_z h2).1] at e
            exact fin H1 e z oq
        · cases hst
      · cases hst
    · cases hst
  · cases hst
end SXC
