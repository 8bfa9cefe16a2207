/-! multianewarray: an array of arrays of ints -/
theorem x_sz_rep (n w : Nat) : x_sz (List.replicate n ((20, w, []) : xShp)) = n * w := by
  unfold x_sz
  rw [List.map_replicate, List.sum_replicate_nat]
theorem x_aao : Cond.arrayOver (.array .int) ∈ lw_use := by
  have h : Cond.arrayOver (.array .int) ∈ lw_use.filter (fun w => !goodWord w) := by
    rw [x_bad]
    exact List.mem_of_getElem? (i := 6) rfl
  exact (List.mem_filter.mp h).1
/-- what the step of multianewarray gives for an array of arrays of ints (closed in the last part by the library's multianewarray2F) -/
def x_MA : Prop := ∀ {p : Program} {l : Launch} {en : Env} {R : Room} {s : State} {mm : MethodId} {args : Array Value} {below : List Frame} {meth : Method} {c : Code} {T : State} {locs : List Loc} {cells slots : Nat}, Stand p l en R s mm args below meth c T locs cells slots → p.tables.exec = Jvm.exec → ∀ (own : String) (ix : Nat), s.vm.findClass own = some mm.cls → (Cond.classLink own ix "[[I").before args s = true → (Cond.arrayOver (.array .int)).before args s = true → (Cond.arrayClass .int).before args s = true →
  ∀ (pc : Nat) (ls : Array Slot) (n k : Int32) (rest : List Value) (N K : Nat), decode c.code pc = .ok (.multianewarray ix 2, 4) → ¬ n < 0 → ¬ k < 0 → n.toNatClampNeg = N → k.toNatClampNeg = K → N < 1000 → K < 1000 → cells + (1 + N) ≤ R.cells → slots + (N + N * K) ≤ R.slots →
  ∃ (F : State) (cA comp : ClassId), s.vm.findClass ("[" ++ (FieldType.array FieldType.int).toString) = some cA ∧ s.vm.findClass (FieldType.array FieldType.int).toString = some comp ∧ F.heap.size = T.heap.size + 1 + N ∧ F.heap[T.heap.size]? = some (arrV cA N (fun j => va_rf (if j < N then some (T.heap.size + 1 + j) else none))) ∧ (∀ x : Nat, x < T.heap.size → F.heap[x]? = T.heap[x]?) ∧ (∀ j : Nat, j < N → F.heap[T.heap.size + 1 + j]? = some (arrV comp K (fun _ => .int 0))) ∧
    Stand p l en R s mm args below meth c F locs (cells + 1 + N) (slots + N + N * K) ∧ ∀ target, Steps p.tables en below (F.setTop (F0 mm (pc + 4) ls (.ref T.heap.size :: rest))) target → Steps p.tables en below (T.setTop (F0 mm pc ls (.int k :: .int n :: rest))) target
set_option maxHeartbeats 1000000 in
theorem x_multiH (hMA : x_MA) : x_MultiOK := by
  intro p l en R s mm args below meth c Q g sc own bts nL C0 ix d len a b z
  intro w pc ls st m pc' ls' st' m' H locs lsA cells slots hv hd hst hE hS hl hcl hsl hbd kk
  obtain ⟨⟨hx, hb, hml, hown, hts⟩, hK, hSF, hfv, hz0⟩ := C0
  simp only [x_val, decide_eq_true_eq] at hv
  obtain ⟨rfl, rfl, hw⟩ := hv
  simp only [x_sm] at hst
  split at hst
  · next k n r =>
    split at hst
    · next hn =>
      simp only [Option.some.injEq, Prod.mk.injEq] at hst; obtain ⟨rfl, rfl, rfl, rfl⟩ := hst
      obtain ⟨n0, n1, k0, k1⟩ := hn
      have hN : (i3 n).toNatClampNeg = n.toNat := by rw [i3_clamp, wr_id (by omega) (by omega)]
      have hM : (i3 k).toNatClampNeg = k.toNat := by rw [i3_clamp, wr_id (by omega) (by omega)]
      have hn0 : ¬ i3 n < 0 := i3_nn (by rw [wr_id (by omega) (by omega)]; omega)
      have hk0 : ¬ i3 k < 0 := i3_nn (by rw [wr_id (by omega) (by omega)]; omega)
      have hn2 : n.toNat < 1000 := by omega
      have hk2 : k.toNat < 1000 := by omega
      generalize n.toNat = N at *
      generalize k.toNat = K at *
      have hlen : (x_multi N K m).1.length = m.1.length + (1 + N) := by
        show (m.1 ++ (_ :: List.replicate N _)).length = _
        rw [List.length_append, List.length_cons, List.length_replicate]
        omega
      have hsz : x_sz (x_multi N K m).1 = x_sz m.1 + (N + N * K) := by
        show x_sz (m.1 ++ (_ :: List.replicate N _)) = _
        rw [x_sz_app, ← List.singleton_append, x_sz_app, x_sz_rep]
        simp [x_sz]
      rw [hlen] at hcl hbd
      rw [hsz] at hsl
      rw [hlen, hsz] at kk
      rw [Nat.add_sub_cancel_left] at hcl hsl
      rw [Nat.add_sub_cancel_left, Nat.add_sub_cancel_left] at kk
      have hlt : m.1.length < 1000 := by omega
      intro T hT Xs
      obtain ⟨F, cA, comp, fA, fC, f1, f2, hold, hrow, X', step⟩ := hMA Xs hx own ix hown (hts _ (x_mu hw rfl)) (hts _ x_aao) (hts _ (x_wac .int (Or.inl rfl))) pc lsA (i3 n) (i3 k) (List.map (x_em g) r) N K (by rw [hb]; exact hd) hn0 hk0 hN hM hn2 hk2 (by omega) (by omega)
      have hcA : cA = g.2.2.2.2 40 := Option.some.inj (fA.symm.trans (hK.2 7 _ rfl).2)
      have hcC : comp = g.2.2.2.2 20 := Option.some.inj (fC.symm.trans (hK.2 0 _ rfl).2)
      subst hcA
      subst hcC
      rw [hT] at f1 f2 hold hrow
      have h1 : x_E g (x_multi N K m) F.heap := by
        refine x_E_app hE ((40, N, (List.range N).map (fun i => some (m.1.length + 1 + i))) :: List.replicate N (20, K, [])) (by rw [f1, List.length_cons, List.length_replicate]; omega) hold fun j t ht => ?_
        match j, ht with
        | 0, ht =>
          cases ht
          unfold x_at
          rw [x_ce_ref (t := (40, N, (List.range N).map (fun i => some (m.1.length + 1 + i)))) (by show 23 < 40; decide)]
          have e2 : x_rq g ((List.range N).map (fun i => some (m.1.length + 1 + i))) = fun j => if j < N then some (H.size + 1 + j) else none := by
            funext j
            unfold x_rq
            by_cases hj : j < N
            · rw [if_pos hj, List.getElem?_map, List.getElem?_range hj]
              show (if m.1.length + 1 + j < 1000 then some (g.1 + (m.1.length + 1 + j)) else none) = _
              rw [if_pos (by omega), hE.1]
              exact congrArg some (by omega)
            · rw [if_neg hj, List.getElem?_map, List.getElem?_eq_none (by rw [List.length_range]; omega)]
              rfl
          show F.heap[_]? = some (vp_cell _ (N, .inr (.inr (.inr (.inr (x_rq g ((List.range N).map (fun i => some (m.1.length + 1 + i)))))))))
          rw [e2, vp_cell_q]
          rw [hE.1] at f2 ⊢
          exact f2
        | j + 1, ht =>
          have ht : (List.replicate N ((20, K, []) : xShp))[j]? = some t := ht
          rw [List.getElem?_replicate] at ht
          split at ht
          · next hj =>
            cases ht
            unfold x_at
            rw [x_ce_int (t := (20, K, [])) (by show 10 ≤ 20; decide) (by show 20 < 23; decide)]
            have z1 : ∀ q, m.2.1 (m.1.length + (j + 1)) q = 0 := fun q => (hE.2.2 _ q (Nat.le_add_right _ _)).1
            simp only [z1, i3_0]
            show F.heap[_]? = some (vp_cell _ (K, .inl (fun _ => 0)))
            rw [vp_cell_i]
            have := hrow j hj
            rw [hE.1, show g.1 + m.1.length + 1 + j = g.1 + (m.1.length + (j + 1)) by omega] at this
            exact this
          · cases ht
      obtain ⟨t, a1, b1⟩ := kk F.heap lsA h1 (x_Snew hS (by rw [f1]; omega) hold) hl F rfl (by rw [← Nat.add_assoc, ← Nat.add_assoc]; exact X')
      refine ⟨t, step t ?_, b1⟩
      rw [List.map_cons, show x_em g (xr m.1.length) = .ref (g.1 + m.1.length) from x_em_r hlt, ← hE.1, ← hT] at a1
      exact a1
    · cases hst
  · cases hst
