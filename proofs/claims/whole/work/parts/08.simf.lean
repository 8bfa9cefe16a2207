section SXF
variable {p : Program} {l : Launch} {en : Env} {R : Room} {s : State} {mm : MethodId} {args : Array Value} {below : List Frame} {meth : Method} {c : Code} {Q : State → Prop} {g : xG} {sc : List Int} {own : String} {bts : ByteArray} {nL : Nat}
theorem x_w96 : lw_tbl[96]? = some (.initialized "java/lang/Math") := by decide +kernel
theorem x_w134 : lw_tbl[134]? = some (.static Lib.Math.max.name) := by decide +kernel
theorem x_w135 : lw_tbl[135]? = some (.code Lib.Math.max.name Lib.Math.max.code 2 (some .int)) := by decide +kernel
theorem x_w618 : lw_tbl[618]? = some (.static Lib.Math.min.name) := by decide +kernel
theorem x_w619 : lw_tbl[619]? = some (.code Lib.Math.min.name Lib.Math.min.code 2 (some .int)) := by decide +kernel
theorem x_w796 : lw_tbl[796]? = some (.static Lib.Math.abs.name) := by decide +kernel
theorem x_w797 : lw_tbl[797]? = some (.code Lib.Math.abs.name Lib.Math.abs.code 1 (some .int)) := by decide +kernel
set_option maxHeartbeats 1000000 in
theorem sx_math (hR : 1 ≤ R.frames ∧ 100 ≤ R.locals) {i len a b : Nat} {z : Int} (ha : a = 902 ∨ a = 903 ∨ a = 904) (C0 : x_Cx g sc p s mm args c own bts nL) : x_StepN p l en R s mm args below meth c Q g sc own bts nL (.invokestatic i, len, a, b, z) := by
  intro w pc ls st m pc' ls' st' m' H locs lsA cells slots hv hd hst hE hS hl hcl hsl hbd kk
  obtain ⟨⟨hx, hb, hml, hown, hts⟩, hK, hSF, hfv, hz0⟩ := C0
  simp only [x_val, decide_eq_true_eq, Bool.and_eq_true, Bool.or_eq_true] at hv
  obtain ⟨rfl, hv⟩ := hv
  have hinf : x_inf[a]? = none := List.getElem?_eq_none (by have := x_infl; omega)
  rw [hinf] at hv
  simp only [x_sm] at hst
  rw [if_pos ha] at hst
  unfold x_math at hst
  split at hst
  · next y r =>
    split at hst
    · next hsum =>
      split at hst
      · next h4 =>
        subst h4
        simp only [Option.some.injEq, Prod.mk.injEq] at hst; obtain ⟨rfl, rfl, rfl, rfl⟩ := hst
        simp only [Nat.sub_self, Nat.add_zero] at kk hcl hsl
        have hw : lw_tbl[w]? = some (.methodLink own i Lib.Math.abs.name) := by
          rcases hv with ((((hv | hv) | hv) | ⟨-, hv⟩) | hv) | hv
          · omega
          · omega
          · omega
          · exact hv
          · omega
          · cases hv
        refine va_mabs hx hb (hml.trans hl.1.symm) hown (hts _ (x_mu hw rfl)) (hts _ (x_mu x_w796 rfl)) (hts _ (x_mu x_w96 rfl)) (hts _ (x_mu x_w797 rfl)) hR.1 (by rw [x_sum_em hfv]; omega) hcl hsl hd ?_
        have e : (if 0 ≤ i3 y then i3 y else 0 - i3 y) = i3 (if 0 ≤ wr y then y else 0 - y) := by
          simp only [i3_ge0]
          split
          · rfl
          · rw [i3_sub, i3_0]
        rw [e]
        exact kk _ _ hE hS hl
      · next h4 =>
        split at hst
        · next x r' =>
          have hsum2 : ((r'.map (x_em g)).map fun v => v.category).sum ≤ 8 := by
            rw [x_sum_em hfv]
            simp only [List.map_cons, List.sum_cons] at hsum
            omega
          split at hst
          · next h2 =>
            subst h2
            simp only [Option.some.injEq, Prod.mk.injEq] at hst; obtain ⟨rfl, rfl, rfl, rfl⟩ := hst
            simp only [Nat.sub_self, Nat.add_zero] at kk hcl hsl
            have hw : lw_tbl[w]? = some (.methodLink own i Lib.Math.max.name) := by
              rcases hv with ((((hv | ⟨-, hv⟩) | hv) | hv) | hv) | hv
              · omega
              · exact hv
              · omega
              · omega
              · omega
              · cases hv
            refine va_mmax hx hb (hml.trans hl.1.symm) hown (hts _ (x_mu hw rfl)) (hts _ (x_mu x_w134 rfl)) (hts _ (x_mu x_w96 rfl)) (hts _ (x_mu x_w135 rfl)) hR.1 (by omega) hcl hsl hd ?_
            have e : (if i3 x < i3 y then i3 y else i3 x) = i3 (if wr x < wr y then y else x) := by
              simp only [i3_lt]
              split <;> rfl
            rw [e]
            exact kk _ _ hE hS hl
          · next h2 =>
            have h3 : a = 903 := by omega
            subst h3
            simp only [Option.some.injEq, Prod.mk.injEq] at hst; obtain ⟨rfl, rfl, rfl, rfl⟩ := hst
            simp only [Nat.sub_self, Nat.add_zero] at kk hcl hsl
            have hw : lw_tbl[w]? = some (.methodLink own i Lib.Math.min.name) := by
              rcases hv with ((((hv | hv) | ⟨-, hv⟩) | hv) | hv) | hv
              · omega
              · omega
              · exact hv
              · omega
              · omega
              · cases hv
            refine va_mmin hx hb (hml.trans hl.1.symm) hown (hts _ (x_mu hw rfl)) (hts _ (x_mu x_w618 rfl)) (hts _ (x_mu x_w96 rfl)) (hts _ (x_mu x_w619 rfl)) hR.1 (by omega) hcl hsl hd ?_
            have e : (if i3 y < i3 x then i3 y else i3 x) = i3 (if wr y < wr x then y else x) := by
              simp only [i3_lt]
              split <;> rfl
            rw [e]
            exact kk _ _ hE hS hl
        · cases hst
    · cases hst
  · cases hst
end SXF
