section SXD
variable {p : Program} {l : Launch} {en : Env} {R : Room} {s : State} {mm : MethodId} {args : Array Value} {below : List Frame} {meth : Method} {c : Code} {Q : State → Prop} {g : xG} {sc : List Int} {own : String} {bts : ByteArray} {nL : Nat}
theorem x_w117 : lw_tbl[117]? = some (.instanceMethod Lib.objectInit) := by decide +kernel
theorem x_w118 : lw_tbl[118]? = some (.code Lib.objectInit ⟨#[0xb1]⟩ 1 none) := by decide +kernel
theorem x_w756 : lw_tbl[756]? = some (.native arraycopyName) := by decide +kernel
theorem x_w755 : lw_tbl[755]? = some (.static arraycopyName) := by decide +kernel
theorem x_w109 : lw_tbl[109]? = some (.initialized "java/lang/System") := by decide +kernel
theorem x_nfw : nativeFrameWords "java/lang/System" "arraycopy" 5 ≤ 60 := by decide +kernel
theorem x_infl : x_inf.length ≤ 900 := by decide +kernel
theorem x_sum_em (hfv : g.2.2.1.category = 1) (r : List xPV) : ((r.map (x_em g)).map fun v => v.category).sum = (r.map x_cat).sum := by
  rw [List.map_map]
  congr 1
  apply List.map_congr_left
  intro v _
  exact x_cat_em g hfv v
set_option maxHeartbeats 1000000 in
theorem sx_invokespecial (hR : 1 ≤ R.frames ∧ 100 ≤ R.locals) (C0 : x_Cx g sc p s mm args c own bts nL) {i len a b : Nat} {z : Int} : x_Step p l en R s mm args below meth c Q g sc own bts nL (.invokespecial i, len, a, b, z) := by
  intro w pc ls st m pc' ls' st' m' H locs lsA cells slots hv hd hst hE hS hl kk
  obtain ⟨⟨hx, hb, hml, hown, hts⟩, hK, hSF, hfv, hz0⟩ := C0
  simp only [x_val, decide_eq_true_eq, Bool.and_eq_true, Bool.or_eq_true] at hv
  obtain ⟨rfl, hv⟩ := hv
  simp only [x_sm] at hst
  split at hst
  · next k r =>
    split at hst
    · next ht =>
      obtain ⟨rfl, hk, hsum⟩ := ht
      simp only [Option.some.injEq, Prod.mk.injEq] at hst; obtain ⟨rfl, rfl, rfl, rfl⟩ := hst
      rcases hv with (⟨-, hw⟩ | hv) | hv
      · rw [List.map_cons, show x_em g (Sum.inr (Sum.inr k)) = .ref (g.1 + k) from x_em_r hk]
        refine W.objInit (g := F0 mm pc lsA (.ref (g.1 + k) :: List.map (x_em g) r)) hx hb hown (hts _ (x_mu hw rfl)) (hts _ (x_mu x_w117 rfl)) (hts _ (x_mu x_w118 rfl)) rfl (hl.1.trans hml.symm) rfl hd hR.1 ?_ (kk _ _ _ hE hS hl)
        rw [x_sum_em hfv]
        show 2 * 0 + _ + 12 ≤ _
        omega
      · omega
      · have : x_inf[901]? = none := List.getElem?_eq_none (by have := x_infl; omega)
        rw [this] at hv
        cases hv
    · cases hst
  · cases hst
set_option maxHeartbeats 1000000 in
theorem sx_aastore (C0 : x_Cx g sc p s mm args c own bts nL) {len a b : Nat} {z : Int} : x_Step p l en R s mm args below meth c Q g sc own bts nL (.aastore, len, a, b, z) := by
  intro w pc ls st m pc' ls' st' m' H locs lsA cells slots hv hd hst hE hS hl kk
  obtain ⟨⟨hx, hb, hml, hown, hts⟩, hK, hSF, hfv, hz0⟩ := C0
  simp only [x_val, decide_eq_true_eq] at hv
  subst hv
  simp only [x_sm] at hst
  split at hst
  · next v i k r =>
    split at hst
    · next hk =>
      obtain ⟨hk, hvk⟩ := hk
      split at hst
      · next t n rs tv nv rv hg hgv =>
        split at hst
        · next ht =>
          obtain ⟨rfl, htv, h0, h1, hlen⟩ := ht
          simp only [Option.some.injEq, Prod.mk.injEq] at hst; obtain ⟨rfl, rfl, rfl, rfl⟩ := hst
          rw [List.map_cons, List.map_cons, List.map_cons, show x_em g (Sum.inr (Sum.inr k)) = .ref (g.1 + k) from x_em_r hk, show x_em g (Sum.inr (Sum.inr v)) = .ref (g.1 + v) from x_em_r hvk]
          have hat := hE.2.1 k _ hg
          unfold x_at at hat
          rw [x_ce_ref (t := (30 + tv, n, rs)) (by show 23 < 30 + tv; omega)] at hat
          have hatv := hE.2.1 v _ hgv
          unfold x_at at hatv
          rw [x_ce_obj (t := (tv, nv, rv)) (by show tv < 10; omega)] at hatv
          have hlt : (i3 i).toNatClampNeg < n := by rw [i3_clamp]; omega
          have key : ∀ (t0 : Nat) (q : vw_C), vwCl[tv]? = some q → (x_tys g)[t0]? = some (g.2.2.2.2 (30 + tv), .object q.1) → W p l en R s mm args below meth c H locs cells slots Q (F0 mm pc lsA (.ref (g.1 + v) :: x_em g (Sum.inl i) :: .ref (g.1 + k) :: List.map (x_em g) r)) := by
            intro t0 q hc ht0
            obtain ⟨r', hr', cellV, g1, g2, g3, -⟩ := hatv
            have hcls := (hK.1 tv q hc).2
            obtain ⟨kA, comp, k1, k2, k3, -⟩ := (hK.2 t0 _ ht0).2
            have hcomp : comp = g.2.2.2.1.1 tv := Option.some.inj (k3.symm.trans hcls.1)
            subst hcomp
            obtain ⟨kC, hkC, -⟩ := hcls.2
            refine W.aast (a := g.1 + k) (v := g.1 + v) (j := i3 i) hx hb hat (fun q h => by cases h) (fun h => by cases h) k1 k2 rfl hkC ⟨i3_nn h0, by show _ < (arrV _ _ _).slots.size; rw [arrV_size]; exact hlt⟩ g1 (fun q h => by rw [g3] at h; cases h) (by rw [g2]; exact hkC) (by rw [g2]; exact va_assign hcls) rfl rfl hd fun H1 e z oq => ?_
            refine kk H1 _ lsA (x_E_upR hE hg ?_ z oq) (x_Sput hS z oq) hl
            unfold x_at
            rw [x_ce_ref (t := (30 + tv, n, rs.set (wr i).toNat (some v))) (by show 23 < 30 + tv; omega)]
            refine e.trans (congrArg some ?_)
            rw [vp_cell_q, vp_cell_q, arrV_store]
            congr 2
            funext q
            rw [i3_clamp]
            by_cases hq : q = (wr i).toNat
            · subst hq
              simp [updV, x_rq, List.getElem?_set_self hlen, hvk, va_rf]
            · simp only [updV, hq, if_false, x_rq]
              rw [List.getElem?_set_ne (Ne.symm hq)]
          rcases htv with rfl | rfl | rfl
          · exact key 4 _ rfl rfl
          · exact key 5 _ rfl rfl
          · exact key 6 _ rfl rfl
        · cases hst
      · cases hst
    · cases hst
  · cases hst
theorem x_E_cp {m : xMem} {H H1 : Heap} {ka kb sp dp n : Nat} {t : xShp} (h : x_E g m H) (hk : m.1[kb]? = some t)
    (hn : x_at g (m.1, x_cp m.2.1 ka sp kb dp n, m.2.2) kb t H1) (z : H1.size = H.size) (oq : ∀ q, q ≠ g.1 + kb → H1[q]? = H[q]?) : x_E g (m.1, x_cp m.2.1 ka sp kb dp n, m.2.2) H1 :=
  x_E_upd h rfl kb (fun _ _ hj ht => ⟨ht, x_ce_same (fun _ => x_cp_ne hj) (fun _ => rfl)⟩) (fun t' ht' => by cases hk.symm.trans ht'; exact hn)
    (fun a _ ha => ⟨x_cp_ne (fun e => by have := (List.getElem?_eq_some_iff.mp hk).1; omega), rfl⟩) z oq
theorem x_E_cpL {m : xMem} {H H1 : Heap} {ka kb sp dp n : Nat} {t : xShp} (h : x_E g m H) (hk : m.1[kb]? = some t)
    (hn : x_at g (m.1, m.2.1, x_cpL m.2.2 ka sp kb dp n) kb t H1) (z : H1.size = H.size) (oq : ∀ q, q ≠ g.1 + kb → H1[q]? = H[q]?) : x_E g (m.1, m.2.1, x_cpL m.2.2 ka sp kb dp n) H1 :=
  x_E_upd h rfl kb (fun _ _ hj ht => ⟨ht, x_ce_same (fun _ => rfl) (fun _ => x_cpL_ne hj)⟩) (fun t' ht' => by cases hk.symm.trans ht'; exact hn)
    (fun a _ ha => ⟨rfl, x_cpL_ne (fun e => by have := (List.getElem?_eq_some_iff.mp hk).1; omega)⟩) z oq
/-- arraycopy between two cells of numbers, with what the heap is then -/
theorem x_acopy {H : Heap} {locs : List Loc} {lsA : Array Slot} {cells slots pc i ka kb na nb : Nat} {rest : List Value} {ty : FieldType} {t0 : Nat} {cA : ClassId} {α : Type} (mk : α → Value) (f f' : Nat → α) {n sp dp : Int}
    (hR : 1 ≤ R.frames ∧ 100 ≤ R.locals) (hx : p.tables.exec = Jvm.exec) (hb : c.code = bts) (hml : c.maxLocals = lsA.size) (hts : ∀ w ∈ lw_use, w.before args s = true) (hown : s.vm.findClass own = some mm.cls) (hK : va_K g.2.2.2.1 vwCl (x_tys g) s)
    (hlink : (Cond.methodLink own i arraycopyName).before args s = true) (ht0 : (x_tys g)[t0]? = some (cA, ty)) (hprim : refKind ty = false) (hfit : ∀ x, fits ty (mk x) = true) (htk : ∀ (U : State) (d : ClassId) x, U.takes d (mk x))
    (ha : H[g.1 + ka]? = some (arrV cA na (fun j => mk (f j)))) (hbb : H[g.1 + kb]? = some (arrV cA nb (fun j => mk (f' j))))
    (h0 : 0 ≤ n ∧ n < 100000) (h1 : 0 ≤ sp ∧ sp < 100000) (h2 : 0 ≤ dp ∧ dp < 100000) (h4 : sp + n ≤ na) (h5 : dp + n ≤ nb) (hsum : (rest.map fun v => v.category).sum ≤ 8) (hdg : decode bts pc = .ok (.invokestatic i, 3)) (hS : va_S (x_A g) s.heap H locs)
    (kk : ∀ (H1 : Heap) (locs1 : List Loc), H1[g.1 + kb]? = some (arrV cA nb (fun j => mk (if dp.toNat ≤ j ∧ j < dp.toNat + n.toNat then f (sp.toNat + (j - dp.toNat)) else f' j))) → H1.size = H.size → (∀ q, q ≠ g.1 + kb → H1[q]? = H[q]?) → va_S (x_A g) s.heap H1 locs1 → W p l en R s mm args below meth c H1 locs1 cells slots Q (F0 mm (pc + 3) lsA rest)) :
    W p l en R s mm args below meth c H locs cells slots Q (F0 mm pc lsA (.int (i3 n) :: .int (i3 dp) :: .ref (g.1 + kb) :: .int (i3 sp) :: .ref (g.1 + ka) :: rest)) := by
  have wn : wr n = n := wr_id (by omega) (by omega)
  have wsp : wr sp = sp := wr_id (by omega) (by omega)
  have wdp : wr dp = dp := wr_id (by omega) (by omega)
  have hcn : (i3 n).toNatClampNeg = n.toNat := by rw [i3_clamp, wn]
  have hcs : (i3 sp).toNatClampNeg = sp.toNat := by rw [i3_clamp, wsp]
  have hcd : (i3 dp).toNatClampNeg = dp.toNat := by rw [i3_clamp, wdp]
  intro T hT X
  obtain ⟨-, k0, hk0, cm0, hkk0⟩ := (hK.2 t0 _ ht0).1 na (fun j => mk (f j))
  obtain ⟨vm', X', step⟩ := X.arraycopy hx hown hlink (hts _ (x_mu x_w756 rfl)) (hts _ (x_mu x_w755 rfl)) (hts _ (x_mu x_w109 rfl)) (src := g.1 + ka) (dst := g.1 + kb) (cs := arrV cA na (fun j => mk (f j))) (cd := arrV cA nb (fun j => mk (f' j))) (srcPos := i3 sp) (destPos := i3 dp) (n := i3 n) (by rw [hT]; exact ha) (by rw [hT]; exact hbb)
    (fun _ h => by cases h) (fun _ h => by cases h) (fun h => by cases h) (fun h => by cases h) hk0 hk0 hkk0 hkk0 (by simp [hprim]) (i3_nn (by omega)) (i3_nn (by omega)) (i3_nn (by omega))
    (by rw [i3_toInt, i3_toInt, wn, wsp, arrV_size]; omega)
    (by rw [i3_toInt, i3_toInt, wn, wdp, arrV_size]; omega)
    (fun vm₁ _ j hj => by
      rw [hcn] at hj
      have e : (arrV cA na (fun j => mk (f j))).slots.getD ((i3 sp).toNatClampNeg + j) .null = mk (f ((i3 sp).toNatClampNeg + j)) := by
        rw [Array.getD_eq_getD_getElem?, arrV_read _ _ (by rw [hcs]; omega)]
        rfl
      rw [e]
      exact ⟨hfit _, htk _ _ _⟩)
    (g := F0 mm pc lsA (.int (i3 n) :: .int (i3 dp) :: .ref (g.1 + kb) :: .int (i3 sp) :: .ref (g.1 + ka) :: rest)) rfl (by rw [hml]) (rest := rest) rfl (by rw [hb]; exact hdg) hR.1 (by have := x_nfw; show 2 * 0 + _ + _ ≤ _; omega)
  have e1 : copied (arrV cA na (fun j => mk (f j))) (arrV cA nb (fun j => mk (f' j))) (i3 sp) (i3 dp) (i3 n) = arrV cA nb (fun j => mk (va_cpy f f' (i3 sp).toNatClampNeg (i3 dp).toNatClampNeg (i3 n).toNatClampNeg j)) := va_copied mk cA cA f f' (by rw [hcs, hcn]; omega)
  rw [e1] at X' step
  rw [hcs, hcd, hcn] at X' step
  have hl : g.1 + kb < H.size := (Array.getElem?_eq_some_iff.mp hbb).1
  have hheap : ((T.setVm vm').setCell (g.1 + kb) (arrV cA nb (fun j => mk (va_cpy f f' sp.toNat dp.toNat n.toNat j)))).heap = H.setIfInBounds (g.1 + kb) (arrV cA nb (fun j => mk (va_cpy f f' sp.toNat dp.toNat n.toNat j))) := by rw [← hT]; rfl
  have oq : ∀ q : Nat, q ≠ g.1 + kb → (H.setIfInBounds (g.1 + kb) (arrV cA nb (fun j => mk (va_cpy f f' sp.toNat dp.toNat n.toNat j))))[q]? = H[q]? := fun q hq => by simp [Array.getElem?_setIfInBounds, Ne.symm hq]
  have hself : (H.setIfInBounds (g.1 + kb) (arrV cA nb (fun j => mk (va_cpy f f' sp.toNat dp.toNat n.toNat j))))[g.1 + kb]? = some (arrV cA nb (fun j => mk (va_cpy f f' sp.toNat dp.toNat n.toNat j))) := by simp [Array.getElem?_setIfInBounds, hl]
  obtain ⟨t, a1, b1⟩ := kk _ _ hself (by simp) oq ⟨by simp; exact hS.1, fun q g1 g2 => by
      rw [oq q (fun e => g2 (by rw [e]; exact Nat.le_add_right _ _))]
      exact hS.2.1 q g1 g2, fun q hq => by
      rcases List.mem_append.mp hq with h | h
      · exact hS.2.2 q h
      · obtain ⟨z, -, hz⟩ := List.mem_map.mp h
        rw [← hz]
        exact Nat.le_add_right _ _⟩ _ hheap X'
  exact ⟨t, step t a1, b1⟩
set_option maxHeartbeats 1000000 in
theorem sx_invokestatic (hR : 1 ≤ R.frames ∧ 100 ≤ R.locals) {i len a b : Nat} {z : Int} (hna : ¬ (a = 902 ∨ a = 903 ∨ a = 904)) (C0 : x_Cx g sc p s mm args c own bts nL) : x_Step p l en R s mm args below meth c Q g sc own bts nL (.invokestatic i, len, a, b, z) := by
  intro w pc ls st m pc' ls' st' m' H locs lsA cells slots hv hd hst hE hS hl kk
  obtain ⟨⟨hx, hb, hml, hown, hts⟩, hK, hSF, hfv, hz0⟩ := C0
  simp only [x_val, decide_eq_true_eq, Bool.and_eq_true, Bool.or_eq_true] at hv
  obtain ⟨rfl, hv⟩ := hv
  simp only [x_sm] at hst
  rw [if_neg hna] at hst
  split at hst
  · next n dp kb sp ka r =>
    split at hst
    · next ht =>
      obtain ⟨rfl, hka, hkb, h0, h1, h2, h3, h4, h5, hsum⟩ := ht
      have hw : lw_tbl[w]? = some (.methodLink own i arraycopyName) := by
        rcases hv with ((((⟨-, hw⟩ | hv) | hv) | hv) | hv) | hv
        · exact hw
        · omega
        · omega
        · omega
        · omega
        · have : x_inf[900]? = none := List.getElem?_eq_none (by have := x_infl; omega)
          rw [this] at hv
          cases hv
      have hsum2 : ((r.map (x_em g)).map fun v => v.category).sum ≤ 8 := by rw [x_sum_em hfv]; exact hsum
      split at hst
      · next ta na ra tb nb rb hga hgb =>
        split at hst
        · next hle =>
          rw [List.map_cons, List.map_cons, List.map_cons, List.map_cons, List.map_cons, show x_em g (Sum.inr (Sum.inr ka)) = .ref (g.1 + ka) from x_em_r hka, show x_em g (Sum.inr (Sum.inr kb)) = .ref (g.1 + kb) from x_em_r hkb]
          have hata := hE.2.1 ka _ hga
          have hatb := hE.2.1 kb _ hgb
          unfold x_at at hata hatb
          split at hst
          · next htt =>
            obtain ⟨rfl, rfl⟩ := htt
            simp only [Option.some.injEq, Prod.mk.injEq] at hst; obtain ⟨rfl, rfl, rfl, rfl⟩ := hst
            rw [x_ce_int (t := (20, na, ra)) (by dsimp only; decide) (by dsimp only; decide)] at hata
            rw [x_ce_int (t := (20, nb, rb)) (by dsimp only; decide) (by dsimp only; decide)] at hatb
            refine x_acopy (t0 := 0) (ty := .int) (fun x : Int32 => .int x) (fun j => i3 (m.2.1 ka j)) (fun j => i3 (m.2.1 kb j)) hR hx hb (hml.trans hl.1.symm) hts hown hK (hts _ (x_mu hw rfl)) rfl rfl (fun _ => rfl) (fun _ _ _ => trivial) hata hatb ⟨h0, h3⟩ ⟨h1, h4⟩ ⟨h2, h5⟩ hle.1 hle.2 hsum2 hd hS fun H1 locs1 e1 e2 e3 e4 => ?_
            refine kk H1 locs1 lsA (x_E_cp hE hgb ?_ e2 e3) e4 hl
            unfold x_at
            rw [x_ce_int (t := (20, nb, rb)) (by dsimp only; decide) (by dsimp only; decide)]
            have e9 : arrV (g.2.2.2.2 20) nb (fun j => .int (if dp.toNat ≤ j ∧ j < dp.toNat + n.toNat then i3 (m.2.1 ka (sp.toNat + (j - dp.toNat))) else i3 (m.2.1 kb j))) = vp_cell (g.2.2.2.2 20) (nb, .inl (fun j => i3 (x_cp m.2.1 ka sp.toNat kb dp.toNat n.toNat kb j))) := by
              rw [vp_cell_i]
              congr 1
              funext j
              simp only [x_cp, if_true]
              split <;> rfl
            exact e1.trans (congrArg some e9)
          · split at hst
            · next htt =>
              obtain ⟨rfl, rfl⟩ := htt
              simp only [Option.some.injEq, Prod.mk.injEq] at hst; obtain ⟨rfl, rfl, rfl, rfl⟩ := hst
              rw [x_ce_long (t := (23, na, ra)) rfl] at hata
              rw [x_ce_long (t := (23, nb, rb)) rfl] at hatb
              refine x_acopy (t0 := 3) (ty := .long) (fun x : Int64 => .long x) (fun j => m.2.2 ka j) (fun j => m.2.2 kb j) hR hx hb (hml.trans hl.1.symm) hts hown hK (hts _ (x_mu hw rfl)) rfl rfl (fun _ => rfl) (fun _ _ _ => trivial) hata hatb ⟨h0, h3⟩ ⟨h1, h4⟩ ⟨h2, h5⟩ hle.1 hle.2 hsum2 hd hS fun H1 locs1 e1 e2 e3 e4 => ?_
              refine kk H1 locs1 lsA (x_E_cpL hE hgb ?_ e2 e3) e4 hl
              unfold x_at
              rw [x_ce_long (t := (23, nb, rb)) rfl]
              have e9 : arrV (g.2.2.2.2 23) nb (fun j => .long (if dp.toNat ≤ j ∧ j < dp.toNat + n.toNat then m.2.2 ka (sp.toNat + (j - dp.toNat)) else m.2.2 kb j)) = vp_cell (g.2.2.2.2 23) (nb, .inr (.inl (fun j => x_cpL m.2.2 ka sp.toNat kb dp.toNat n.toNat kb j))) := by
                rw [vp_cell_l]
                congr 1
                funext j
                simp only [x_cpL, if_true]
              exact e1.trans (congrArg some e9)
            · cases hst
        · cases hst
      · cases hst
    · cases hst
  · cases hst
end SXD
