/-! the run of the law's body on the machine -/
def x_npf (e : xEnt) : Bool := match e.1 with
  | .putfield _ => false
  | _ => true
theorem x_eb_nm {nm nm' : String} {e : xEnt} (h : x_npf e = true) : x_eb nm e = x_eb nm' e := by
  obtain ⟨ins, len, a, b, z⟩ := e
  cases ins <;> first | rfl | cases h
theorem x_eb_law (nm : String) {pc : Nat} {e : xEnt} (h : x_lk xM_law.2.2 pc = some e) : x_eb nm e = true := by
  have h1 : x_npf e = true := List.all_eq_true.mp (show xT_law.all (fun q => x_npf q.2) = true by decide +kernel) (pc, e) (x_lk_mem h)
  rw [x_eb_nm (nm' := "law") h1]
  exact x_ebs_of (nm := "law") (T := xT_law) (by decide +kernel) pc e h
theorem x_wholeG (hMu : x_MultiOK) {p : Program} {l : Launch} {en : Env} {s : State} {mm : MethodId} {args : Array Value} {below : List Frame} {meth : Method} {c : Code} {Q : State → Prop} {g : xG} {sc : List Int} (CX : x_Cx g sc p s mm args c "GooseVotesLaw" code 4) (hfr : g.2.2.1 = .null ∨ ∃ a, g.2.2.1 = .ref a) (hB : x_BW s) (hg : g.1 = s.heap.size) (hv : ∀ v, v ∈ sc → x_R v) (hl : sc.length < 100000)
    (hend : ∀ (pc : Nat) (ls : Array Slot) (H : Heap), decode code pc = .ok (.ireturn, 1) → W p l en room_1 s mm args below meth c H [] 600000 7302249 Q (F0 mm pc ls [.int 1])) : W p l en room_1 s mm args below meth c s.heap [] 0 0 Q (entryFrame mm (([xr 1000] : List xPV).map (x_em g)).toArray 4) := by
  obtain ⟨f, m', hrun, hm⟩ := law_run hv hl
  have hfv : g.2.2.1.category = 1 := CX.2.2.2.1
  have hl0 := lv_entry (([xr 1000] : List xPV).map (x_em g)) (n := 4) (by rw [x_lgw hfv]; decide)
  rw [lg_entry_eq]
  generalize (lg_sl (([xr 1000] : List xPV).map (x_em g)) ++ List.replicate (4 - (lg_sl (([xr 1000] : List xPV).map (x_em g))).length) Slot.unset).toArray = lsA at hl0 ⊢
  rw [x_lva hfv] at hl0
  have hz : x_sz xSH ≤ 7302249 := by decide +kernel
  have hn : xSH.length ≤ 600000 := by decide +kernel
  have hcc : 0 + x_dc x_m0 m' ≤ 600000 := by unfold x_dc; rw [hm]; omega
  have hss : 0 + x_ds x_m0 m' ≤ 7302249 := by unfold x_ds; rw [hm]; omega
  refine x_runW (M := xM_law) (st := []) hMu (x_callOK hMu (sc := sc) 60 f) CX hfr hB xv_law rfl ⟨by decide, by decide⟩ (fun pc e he => ?_) f 0 [(0, xr 1000)] x_m0 (some (xi 1)) m' s.heap [] lsA 0 0 hrun ⟨by rw [hg]; rfl, fun k t h => by simp [x_m0] at h, fun _ _ _ => ⟨rfl, rfl⟩⟩ va_S.rf hl0 hcc hss (by rw [hm]; decide +kernel) ?_
  · exact x_eb_law meth.name he
  · intro pcE lsE H' locs' insE stE hE' hS' hdE hrt
    unfold x_ret at hrt
    split at hrt
    · next v =>
      split at hrt
      · have h1 : v = 1 := by
          simp only [Option.some.injEq, Prod.mk.injEq] at hrt
          simpa using hrt.1
        subst h1
        rw [← List.nil_append locs']
        refine W.forget (fun q hq => by have := hS'.2.2 q hq; unfold x_A at this; omega) ?_
        exact W.widen hcc hss (hend pcE lsE H' hdE)
      · cases hrt
    · split at hrt <;> cases hrt
    · split at hrt <;> cases hrt
    · split at hrt <;> cases hrt
    · cases hrt

