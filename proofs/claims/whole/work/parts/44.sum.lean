/-! the reference: sums, quota, likes -/
/-- a clause of the reference's, that is the class's i-th -/
def MC (I : Nat → Nat → Int) (f z : Nat) (cd we : Nat → Int) (en : Nat → Nat) : Prop := 0 ≤ I 154 (10 * f + z) ∧ I 154 (10 * f + z) ≤ 99 ∧ 0 ≤ I 153 (10 * f + z) ∧ I 153 (10 * f + z) ≤ 2 ∧ (I 153 (10 * f + z) ≠ 2 → ∃ a b e : Nat, I 155 (10 * f + z) = (a : Int) ∧ I 156 (10 * f + z) = ((a + b : Nat) : Int) ∧ a + b ≤ 600 ∧ (if sp_mc (fun c => I 153 (10 * f + c)) z = 0 then 0 else en (sp_mc (fun c => I 153 (10 * f + c)) z - 1)) = e ∧ en (sp_mc (fun c => I 153 (10 * f + c)) z) = e + b ∧ we (sp_mc (fun c => I 153 (10 * f + c)) z) = (if I 153 (10 * f + z) = 0 then I 154 (10 * f + z) else - I 154 (10 * f + z)) ∧ sp_szs cd b e 0 = some 1 ∧ ∀ t, t < b → TC (cd (e + t)) (I 157 (a + t)))
/-- the treaty that the reference goes by -/
def MT (I : Nat → Nat → Int) (cc : Nat) (cd we : Nat → Int) (en : Nat → Nat) (qv : Int) : Prop := cc ≤ 10 ∧ (∀ j, j < cc → -99 ≤ we j ∧ we j ≤ 99) ∧ (0 ≤ qv ∧ qv ≤ 99) ∧ ((I 143 13 = -1 ∧ cc = 0 ∧ qv = 0) ∨ ∃ f n : Nat, I 143 13 = (f : Int) ∧ f < 6 ∧ I 152 f = (n : Int) ∧ n ≤ 10 ∧ cc = sp_mc (fun c => I 153 (10 * f + c)) n ∧ qv = sp_mq (fun c => I 153 (10 * f + c)) (fun c => I 154 (10 * f + c)) n ∧ ∀ z, z < n → MC I f z cd we en)
theorem sp_mc_mono (w : Nat → Int) {a b : Nat} (h : a ≤ b) : sp_mc w a ≤ sp_mc w b := by
  induction b with
  | zero => rw [show a = 0 by omega]; exact Nat.le_refl _
  | succ b ih =>
    by_cases e : a = b + 1
    · rw [e]; exact Nat.le_refl _
    · have := ih (by omega)
      simp only [sp_mc]
      omega
theorem TC.ge {a b : Int} (h : TC a b) : -3 ≤ a := by
  rcases h with ⟨h1, h2⟩ | ⟨h1, h2⟩ | ⟨h1, h2⟩ | ⟨l, r, m, hl, hr, hm, h1, h2⟩ <;> omega
theorem ct_m_holds {sc : List Int} {I0 I : Nat → Nat → Int} {L : Nat → Nat → Int64} {c : Nat} {kd : Nat → Nat} {vv vo aw : Nat → Int} {ba ro : Nat → Nat → Int} {egg : Int} {se : Nat} (hM : MW I0 c kd vv vo aw ba ro egg se) {p x : Nat} (hp : p < c) (hx : x < 5) {q a e len : Nat} (hq : q < 60) (hfr : I0 155 q = (a : Int)) (hto : I0 156 q = ((a + len : Nat) : Int)) (hal : a + len ≤ 600) {cd : Nat → Int} (hTC : ∀ t, t < len → TC (cd (e + t)) (I0 157 (a + t))) (hz : sp_szs cd len e 0 = some 1) (hF : ∀ k j, k ≠ 160 → I k j = I0 k j) : x_CQ sc 2 xN_m_holds [xr 143, xi (↑q), xi (↑p), xi (↑x)] (xSH, I, L) (fun r m' => r = some (xi (x_b (sp_true (sp_facts p (kd p) (vv p) x egg se) cd e (e + len) = true))) ∧ ∃ I', m' = (xSH, I', L) ∧ ∀ k j, k ≠ 160 → I' k j = I0 k j) := by
  refine x_CQ.of (M := xM_m_holds) rfl (Nat.le_of_ble_eq_true rfl) ?_
  refine ex_st 5 (pc' := 8) (ls' := [(4, xi 0), (0, xr 143), (1, xi (↑q)), (2, xi (↑p)), (3, xi (↑x))]) (st' := [xi (↑q), xr 155]) rfl ?_
  refine ex_iald (j := q) rfl (by decide) (rfl : xSH[155]? = some _) rfl (by omega) (by decide) ?_
  rw [hF 155 q (by decide), hfr]
  refine ex_st 1 (pc' := 11) (ls' := [(5, xi (↑a)), (4, xi 0), (0, xr 143), (1, xi (↑q)), (2, xi (↑p)), (3, xi (↑x))]) (st' := []) rfl ?_
  refine lp_holds hM hp hx hq hfr hto hal hTC hF 0 (by omega) [] 0 rfl (by decide) trivial hz (fun I' h1 b hb => ?_)
  rw [Nat.sub_zero, Nat.add_zero, sp_true_run (fun t ht => (hTC t ht).ge) hz] at hb
  cases hb
  exact ⟨rfl, I', rfl, h1⟩

set_option maxHeartbeats 4000000 in
theorem lp_sum {sc : List Int} {I0 I : Nat → Nat → Int} {L : Nat → Nat → Int64} {c : Nat} {kd : Nat → Nat} {vv vo aw : Nat → Int} {ba ro : Nat → Nat → Int} {egg : Int} {se : Nat} (hM : MW I0 c kd vv vo aw ba ro egg se) {p x : Nat} (hp : p < c) (hx : x < 5) {cd we : Nat → Int} {en : Nat → Nat} {f n : Nat} (hf : I0 143 13 = (f : Int)) (hf6 : f < 6) (hn : I0 152 f = (n : Int)) (hn10 : n ≤ 10) (hC : (∀ z, z < n → MC I0 f z cd we en)) (hF : ∀ k j, k ≠ 160 → I k j = I0 k j) {Q : Option xPV → xMem → Prop} (j : Nat) (hj : j ≤ n) (acc : Int) (kk : ∀ I' : Nat → Nat → Int, (∀ k j, k ≠ 160 → I' k j = I0 k j) → Q (some (xi (acc + sp_sw (sp_facts p (kd p) (vv p) x egg se) cd we en (sp_mc (fun c => I0 153 (10 * f + c)) n - sp_mc (fun c => I0 153 (10 * f + c)) j) (sp_mc (fun c => I0 153 (10 * f + c)) j) (if sp_mc (fun c => I0 153 (10 * f + c)) j = 0 then 0 else en (sp_mc (fun c => I0 153 (10 * f + c)) j - 1))))) (xSH, I', L)) : x_Ex sc 2 xM_m_sum 17 [(4, xi (↑(10 * f + j))), (3, xi acc), (0, xr 143), (1, xi (↑p)), (2, xi (↑x))] [] (xSH, I, L) Q := by
  refine ex_st 2 (pc' := 20) (ls' := [(4, xi (↑(10 * f + j))), (3, xi acc), (0, xr 143), (1, xi (↑p)), (2, xi (↑x))]) (st' := [xr 143, xi (↑(10 * f + j))]) rfl ?_
  refine ex_inl (M' := xM_m_behind) (as := [xr 143]) (rest := [xi (↑(10 * f + j))]) (D' := 1) rfl (Nat.le_of_ble_eq_true rfl) (by decide) rfl ⟨rfl, rfl, rfl⟩ ⟨Nat.le_of_ble_eq_true rfl, rfl, rfl⟩ (Nat.le_of_ble_eq_true rfl) rfl ?_
  refine ex_st 2 (pc' := 4) (ls' := [(0, xr 143)]) (st' := [xi (I 143 13)]) rfl ?_
  rw [(hF _ _ (by decide) : I 143 13 = I0 143 13), hf]
  refine ex_if rfl (by first | omega | (constructor <;> omega) | assumption | exact x_bR _) (fun (h0 : ((0 : Int)) ≤ (↑f : Int)) => ?_) (fun (h0 : ¬ ((0 : Int)) ≤ (↑f : Int)) => ?_)
  · refine ex_st 3 (pc' := 17) (ls' := [(0, xr 143)]) (st' := [xi (I 143 13), xi 10]) rfl ?_
    rw [(hF _ _ (by decide) : I 143 13 = I0 143 13), hf]
    refine ex_st 5 (pc' := 26) (ls' := [(0, xr 143)]) (st' := [xi (I 143 13), xr 152, xi (10 * (↑f))]) rfl ?_
    rw [(hF _ _ (by decide) : I 143 13 = I0 143 13), hf]
    refine ex_iald (j := f) rfl (by decide) (rfl : xSH[152]? = some _) (by omega) (by omega) (by decide) ?_
    rw [(hF _ _ (by decide) : I 152 f = I0 152 f), hn]
    refine ex_st 1 (pc' := 28) (ls' := [(0, xr 143)]) (st' := [xi ((10 * (↑f)) + (↑n))]) rfl ?_
    refine ex_reti rfl rfl ?_
    refine ex_ic rfl (by first | omega | (constructor <;> omega) | assumption | exact x_bR _) (by first | omega | (constructor <;> omega) | assumption | exact x_bR _) (fun (h1 : ((10 * (↑f)) + (↑n)) ≤ (↑(10 * f + j) : Int)) => ?_) (fun (h1 : ¬ ((10 * (↑f)) + (↑n)) ≤ (↑(10 * f + j) : Int)) => ?_)
    · obtain rfl : j = n := by omega
      refine ex_st 1 (pc' := 89) (ls' := [(4, xi (↑(10 * f + j))), (3, xi acc), (0, xr 143), (1, xi (↑p)), (2, xi (↑x))]) (st' := [xi acc]) rfl ?_
      refine ex_reti rfl rfl ?_
      have kk := kk I hF
      rw [Nat.sub_self] at kk; simp only [sp_sw, Int.add_zero] at kk; exact kk
    · obtain ⟨r1, r2, r3, r4, hcl⟩ := hC j (by omega)
      refine ex_st 3 (pc' := 32) (ls' := [(4, xi (↑(10 * f + j))), (3, xi acc), (0, xr 143), (1, xi (↑p)), (2, xi (↑x))]) (st' := [xi (↑(10 * f + j)), xr 153]) rfl ?_
      refine ex_iald (j := ((10 * f + j))) rfl (by decide) (rfl : xSH[153]? = some _) (by omega) (by omega) (by decide) ?_
      rw [(hF _ _ (by decide) : I 153 ((10 * f + j)) = I0 153 ((10 * f + j)))]
      refine ex_st 1 (pc' := 34) (ls' := [(4, xi (↑(10 * f + j))), (3, xi acc), (0, xr 143), (1, xi (↑p)), (2, xi (↑x))]) (st' := [xi 1, xi (I0 153 ((10 * f + j)))]) rfl ?_
      refine ex_ic rfl (by first | omega | (constructor <;> omega) | assumption | exact x_bR _) (by decide) (fun (h2 : ((1 : Int)) < (I0 153 ((10 * f + j)))) => ?_) (fun (h2 : ¬ ((1 : Int)) < (I0 153 ((10 * f + j)))) => ?_)
      · refine ex_st 2 (pc' := 17) (ls' := [(4, xi ((↑(10 * f + j)) + 1)), (3, xi acc), (0, xr 143), (1, xi (↑p)), (2, xi (↑x))]) (st' := []) rfl ?_
        have hmc : sp_mc (fun c => I0 153 (10 * f + c)) (j + 1) = sp_mc (fun c => I0 153 (10 * f + c)) j := by simp only [sp_mc]; rw [if_pos (by omega)]; rfl
        exact lp_sum hM hp hx hf hf6 hn hn10 hC hF (j + 1) (by omega) acc (by rw [hmc]; exact kk)
      · refine ex_st 4 (pc' := 42) (ls' := [(4, xi (↑(10 * f + j))), (3, xi acc), (0, xr 143), (1, xi (↑p)), (2, xi (↑x))]) (st' := [xi (↑x), xi (↑p), xi (↑(10 * f + j)), xr 143]) rfl ?_
        have hw2 : I0 153 (10 * f + j) ≠ 2 := by omega
        obtain ⟨a, b, e, q1, q2, q3, q4, q5, q6, q7, q8⟩ := hcl hw2
        refine ex_callQ (ct_m_holds (L := L) hM hp hx (by omega) q1 q2 q3 q8 q7 hF) (by decide) rfl ⟨rfl, rfl, rfl⟩ ⟨Nat.le_of_ble_eq_true rfl, rfl, rfl⟩ (Nat.le_of_ble_eq_true rfl) rfl (fun ra m2 hQ => ?_)
        obtain ⟨rfl, I1, rfl, hF1⟩ := hQ
        refine ex_bne rfl (fun h3 => ?_) (fun h3 => ?_)
        · refine ex_st 4 (pc' := 58) (ls' := [(4, xi (↑(10 * f + j))), (3, xi acc), (0, xr 143), (1, xi (↑p)), (2, xi (↑x))]) (st' := [xi (↑(10 * f + j)), xr 153, xi acc]) rfl ?_
          refine ex_iald (j := ((10 * f + j))) rfl (by decide) (rfl : xSH[153]? = some _) (by omega) (by omega) (by decide) ?_
          rw [(hF1 _ _ (by decide) : I1 153 ((10 * f + j)) = I0 153 ((10 * f + j)))]
          refine ex_if rfl (by first | omega | (constructor <;> omega) | assumption | exact x_bR _) (fun (h4 : ¬ (I0 153 ((10 * f + j))) = 0) => ?_) (fun (h4 : ¬ ¬ (I0 153 ((10 * f + j))) = 0) => ?_)
          · refine ex_st 3 (pc' := 78) (ls' := [(4, xi (↑(10 * f + j))), (3, xi acc), (0, xr 143), (1, xi (↑p)), (2, xi (↑x))]) (st' := [xi (↑(10 * f + j)), xr 154, xi acc]) rfl ?_
            refine ex_iald (j := ((10 * f + j))) rfl (by decide) (rfl : xSH[154]? = some _) (by omega) (by omega) (by decide) ?_
            rw [(hF1 _ _ (by decide) : I1 154 ((10 * f + j)) = I0 154 ((10 * f + j)))]
            refine ex_st 5 (pc' := 17) (ls' := [(4, xi ((↑(10 * f + j)) + 1)), (3, xi (acc + (-(I0 154 ((10 * f + j)))))), (0, xr 143), (1, xi (↑p)), (2, xi (↑x))]) (st' := []) rfl ?_
            have hmc : sp_mc (fun c => I0 153 (10 * f + c)) (j + 1) = sp_mc (fun c => I0 153 (10 * f + c)) j + 1 := by simp only [sp_mc]; rw [if_neg hw2]
            have hmn := sp_mc_mono (fun c => I0 153 (10 * f + c)) (show j + 1 ≤ n by omega)
            rw [show sp_mc (fun c => I0 153 (10 * f + c)) n - sp_mc (fun c => I0 153 (10 * f + c)) j = (sp_mc (fun c => I0 153 (10 * f + c)) n - (sp_mc (fun c => I0 153 (10 * f + c)) j + 1)) + 1 by omega] at kk
            simp only [sp_sw, q4, q5] at kk
            refine lp_sum hM hp hx hf hf6 hn hn10 hC hF1 (j + 1) (by omega) _ (fun I' hI' => ?_)
            rw [hmc, if_neg (by omega), Nat.add_sub_cancel, q5]
            have kk := kk I' hI'
            rw [if_pos (by assumption), q6, if_neg (by omega), ← Int.add_assoc] at kk; exact kk
          · refine ex_st 3 (pc' := 68) (ls' := [(4, xi (↑(10 * f + j))), (3, xi acc), (0, xr 143), (1, xi (↑p)), (2, xi (↑x))]) (st' := [xi (↑(10 * f + j)), xr 154, xi acc]) rfl ?_
            refine ex_iald (j := ((10 * f + j))) rfl (by decide) (rfl : xSH[154]? = some _) (by omega) (by omega) (by decide) ?_
            rw [(hF1 _ _ (by decide) : I1 154 ((10 * f + j)) = I0 154 ((10 * f + j)))]
            refine ex_st 5 (pc' := 17) (ls' := [(4, xi ((↑(10 * f + j)) + 1)), (3, xi (acc + (I0 154 ((10 * f + j))))), (0, xr 143), (1, xi (↑p)), (2, xi (↑x))]) (st' := []) rfl ?_
            have hmc : sp_mc (fun c => I0 153 (10 * f + c)) (j + 1) = sp_mc (fun c => I0 153 (10 * f + c)) j + 1 := by simp only [sp_mc]; rw [if_neg hw2]
            have hmn := sp_mc_mono (fun c => I0 153 (10 * f + c)) (show j + 1 ≤ n by omega)
            rw [show sp_mc (fun c => I0 153 (10 * f + c)) n - sp_mc (fun c => I0 153 (10 * f + c)) j = (sp_mc (fun c => I0 153 (10 * f + c)) n - (sp_mc (fun c => I0 153 (10 * f + c)) j + 1)) + 1 by omega] at kk
            simp only [sp_sw, q4, q5] at kk
            refine lp_sum hM hp hx hf hf6 hn hn10 hC hF1 (j + 1) (by omega) _ (fun I' hI' => ?_)
            rw [hmc, if_neg (by omega), Nat.add_sub_cancel, q5]
            have kk := kk I' hI'
            rw [if_pos (by assumption), q6, if_pos (by omega), ← Int.add_assoc] at kk; exact kk
        · refine ex_st 3 (pc' := 17) (ls' := [(4, xi ((↑(10 * f + j)) + 1)), (3, xi acc), (0, xr 143), (1, xi (↑p)), (2, xi (↑x))]) (st' := []) rfl ?_
          have hmc : sp_mc (fun c => I0 153 (10 * f + c)) (j + 1) = sp_mc (fun c => I0 153 (10 * f + c)) j + 1 := by simp only [sp_mc]; rw [if_neg hw2]
          have hmn := sp_mc_mono (fun c => I0 153 (10 * f + c)) (show j + 1 ≤ n by omega)
          rw [show sp_mc (fun c => I0 153 (10 * f + c)) n - sp_mc (fun c => I0 153 (10 * f + c)) j = (sp_mc (fun c => I0 153 (10 * f + c)) n - (sp_mc (fun c => I0 153 (10 * f + c)) j + 1)) + 1 by omega] at kk
          simp only [sp_sw, q4, q5] at kk
          refine lp_sum hM hp hx hf hf6 hn hn10 hC hF1 (j + 1) (by omega) _ (fun I' hI' => ?_)
          rw [hmc, if_neg (by omega), Nat.add_sub_cancel, q5]
          have kk := kk I' hI'
          rw [if_neg (by assumption), Int.zero_add] at kk; exact kk
  · exfalso; omega
termination_by n - j
decreasing_by all_goals omega
set_option maxHeartbeats 4000000 in
theorem ct_m_sum {sc : List Int} {I0 I : Nat → Nat → Int} {L : Nat → Nat → Int64} {c : Nat} {kd : Nat → Nat} {vv vo aw : Nat → Int} {ba ro : Nat → Nat → Int} {egg : Int} {se : Nat} (hM : MW I0 c kd vv vo aw ba ro egg se) {cc : Nat} {cd we : Nat → Int} {en : Nat → Nat} {qv : Int} (hT : MT I0 cc cd we en qv) {p x : Nat} (hp : p < c) (hx : x < 5) (hF : ∀ k j, k ≠ 160 → I k j = I0 k j) : x_CQ sc 3 xN_m_sum [xr 143, xi (↑p), xi (↑x)] (xSH, I, L) (fun r m' => r = some (xi (ba p x + sp_sw (sp_facts p (kd p) (vv p) x egg se) cd we en cc 0 0)) ∧ ∃ I', m' = (xSH, I', L) ∧ ∀ k j, k ≠ 160 → I' k j = I0 k j) := by
  obtain ⟨hc, hc6, hegg, hegb, hse, hse5, hab, hp8⟩ := id hM
  obtain ⟨g1, g2, g3, g4, g5, g6, g7, g8⟩ := hp8 p hp
  have h7 := (g7 x hx).1
  obtain ⟨hcc, hwe, hqv, hT | ⟨f, n, hf, hf6, hn, hn10, hcc2, hqv2, hC⟩⟩ := hT
  · obtain ⟨ht, rfl, rfl⟩ := hT
    refine x_CQ.of (M := xM_m_sum) rfl (Nat.le_of_ble_eq_true rfl) ?_
    refine ex_st 7 (pc' := 9) (ls' := [(0, xr 143), (1, xi (↑p)), (2, xi (↑x))]) (st' := [xi ((5 * (↑p)) + (↑x)), xr 147]) rfl ?_
    refine ex_iald (j := ((5 * (p)) + (x))) rfl (by decide) (rfl : xSH[147]? = some _) (by omega) (by omega) (by decide) ?_
    rw [(hF _ _ (by decide) : I 147 ((5 * (p)) + (x)) = I0 147 ((5 * (p)) + (x))), h7]
    refine ex_st 2 (pc' := 12) (ls' := [(3, xi (ba p x)), (0, xr 143), (1, xi (↑p)), (2, xi (↑x))]) (st' := [xr 143]) rfl ?_
    refine ex_inl (M' := xM_m_begin) (as := [xr 143]) (rest := []) (D' := 1) rfl (Nat.le_of_ble_eq_true rfl) (by decide) rfl ⟨rfl, rfl, rfl⟩ ⟨Nat.le_of_ble_eq_true rfl, rfl, rfl⟩ (Nat.le_of_ble_eq_true rfl) rfl ?_
    refine ex_st 2 (pc' := 4) (ls' := [(0, xr 143)]) (st' := [xi (I 143 13)]) rfl ?_
    rw [(hF _ _ (by decide) : I 143 13 = I0 143 13), ht]
    refine ex_st 1 (pc' := 7) (ls' := [(0, xr 143)]) (st' := []) rfl ?_
    refine ex_st 2 (pc' := 18) (ls' := [(0, xr 143)]) (st' := [xi 0]) rfl ?_
    refine ex_reti rfl rfl ?_
    refine ex_st 1 (pc' := 17) (ls' := [(4, xi 0), (3, xi (ba p x)), (0, xr 143), (1, xi (↑p)), (2, xi (↑x))]) (st' := []) rfl ?_
    refine ex_st 2 (pc' := 20) (ls' := [(4, xi 0), (3, xi (ba p x)), (0, xr 143), (1, xi (↑p)), (2, xi (↑x))]) (st' := [xr 143, xi 0]) rfl ?_
    refine ex_inl (M' := xM_m_behind) (as := [xr 143]) (rest := [xi 0]) (D' := 1) rfl (Nat.le_of_ble_eq_true rfl) (by decide) rfl ⟨rfl, rfl, rfl⟩ ⟨Nat.le_of_ble_eq_true rfl, rfl, rfl⟩ (Nat.le_of_ble_eq_true rfl) rfl ?_
    refine ex_st 2 (pc' := 4) (ls' := [(0, xr 143)]) (st' := [xi (I 143 13)]) rfl ?_
    rw [(hF _ _ (by decide) : I 143 13 = I0 143 13), ht]
    refine ex_st 1 (pc' := 7) (ls' := [(0, xr 143)]) (st' := []) rfl ?_
    refine ex_st 2 (pc' := 28) (ls' := [(0, xr 143)]) (st' := [xi 0]) rfl ?_
    refine ex_reti rfl rfl ?_
    refine ex_st 1 (pc' := 88) (ls' := [(4, xi 0), (3, xi (ba p x)), (0, xr 143), (1, xi (↑p)), (2, xi (↑x))]) (st' := []) rfl ?_
    refine ex_st 1 (pc' := 89) (ls' := [(4, xi 0), (3, xi (ba p x)), (0, xr 143), (1, xi (↑p)), (2, xi (↑x))]) (st' := [xi (ba p x)]) rfl ?_
    refine ex_reti rfl rfl ?_
    exact ⟨by rw [show sp_sw (sp_facts p (kd p) (vv p) x egg se) cd we en 0 0 0 = 0 from rfl, Int.add_zero], _, rfl, hF⟩
  · subst hcc2
    refine x_CQ.of (M := xM_m_sum) rfl (Nat.le_of_ble_eq_true rfl) ?_
    refine ex_st 7 (pc' := 9) (ls' := [(0, xr 143), (1, xi (↑p)), (2, xi (↑x))]) (st' := [xi ((5 * (↑p)) + (↑x)), xr 147]) rfl ?_
    refine ex_iald (j := ((5 * (p)) + (x))) rfl (by decide) (rfl : xSH[147]? = some _) (by omega) (by omega) (by decide) ?_
    rw [(hF _ _ (by decide) : I 147 ((5 * (p)) + (x)) = I0 147 ((5 * (p)) + (x))), h7]
    refine ex_st 2 (pc' := 12) (ls' := [(3, xi (ba p x)), (0, xr 143), (1, xi (↑p)), (2, xi (↑x))]) (st' := [xr 143]) rfl ?_
    refine ex_inl (M' := xM_m_begin) (as := [xr 143]) (rest := []) (D' := 1) rfl (Nat.le_of_ble_eq_true rfl) (by decide) rfl ⟨rfl, rfl, rfl⟩ ⟨Nat.le_of_ble_eq_true rfl, rfl, rfl⟩ (Nat.le_of_ble_eq_true rfl) rfl ?_
    refine ex_st 2 (pc' := 4) (ls' := [(0, xr 143)]) (st' := [xi (I 143 13)]) rfl ?_
    rw [(hF _ _ (by decide) : I 143 13 = I0 143 13), hf]
    refine ex_if rfl (by first | omega | (constructor <;> omega) | assumption) (fun (h0 : ((0 : Int)) ≤ (↑f : Int)) => ?_) (fun (h0 : ¬ ((0 : Int)) ≤ (↑f : Int)) => ?_)
    · refine ex_st 3 (pc' := 17) (ls' := [(0, xr 143)]) (st' := [xi (I 143 13), xi 10]) rfl ?_
      rw [(hF _ _ (by decide) : I 143 13 = I0 143 13), hf]
      refine ex_st 1 (pc' := 18) (ls' := [(0, xr 143)]) (st' := [xi (10 * (↑f))]) rfl ?_
      refine ex_reti rfl rfl ?_
      refine ex_st 1 (pc' := 17) (ls' := [(4, xi (10 * (↑f))), (3, xi (ba p x)), (0, xr 143), (1, xi (↑p)), (2, xi (↑x))]) (st' := []) rfl ?_
      rw [show (10 * (f : Int)) = ((10 * f + 0 : Nat) : Int) by omega]
      refine lp_sum hM hp hx hf hf6 hn hn10 hC hF 0 (by omega) _ (fun I' h1 => ?_)
      exact ⟨rfl, I', rfl, h1⟩
    · exfalso; omega
theorem lp_quota {sc : List Int} {I : Nat → Nat → Int} {L : Nat → Nat → Int64} {f n : Nat} (hf : I 143 13 = (f : Int)) (hf6 : f < 6) (hn : I 152 f = (n : Int)) (hn10 : n ≤ 10) (hw : ∀ z, z < n → x_R (I 153 (10 * f + z))) (j : Nat) (hj : j ≤ n) : x_Ex sc 1 xM_m_quota 7 [(2, xi (↑(10 * f + j))), (1, xi (sp_mq (fun c => I 153 (10 * f + c)) (fun c => I 154 (10 * f + c)) j)), (0, xr 143)] [] (xSH, I, L) (fun r m' => r = some (xi (sp_mq (fun c => I 153 (10 * f + c)) (fun c => I 154 (10 * f + c)) n)) ∧ m' = (xSH, I, L)) := by
  refine ex_st 2 (pc' := 9) (ls' := [(2, xi (↑(10 * f + j))), (1, xi (sp_mq (fun c => I 153 (10 * f + c)) (fun c => I 154 (10 * f + c)) j)), (0, xr 143)]) (st' := [xr 143, xi (↑(10 * f + j))]) rfl ?_
  refine ex_inl (M' := xM_m_behind) (as := [xr 143]) (rest := [xi (↑(10 * f + j))]) (D' := 0) rfl (Nat.le_of_ble_eq_true rfl) (by decide) rfl ⟨rfl, rfl, rfl⟩ ⟨Nat.le_of_ble_eq_true rfl, rfl, rfl⟩ (Nat.le_of_ble_eq_true rfl) rfl ?_
  refine ex_st 2 (pc' := 4) (ls' := [(0, xr 143)]) (st' := [xi (I 143 13)]) rfl ?_
  rw [hf]
  refine ex_if rfl (by first | omega | (constructor <;> omega) | exact hw _ (by omega)) (fun (h0 : ((0 : Int)) ≤ (↑f : Int)) => ?_) (fun (h0 : ¬ ((0 : Int)) ≤ (↑f : Int)) => ?_)
  · refine ex_st 3 (pc' := 17) (ls' := [(0, xr 143)]) (st' := [xi (I 143 13), xi 10]) rfl ?_
    rw [hf]
    refine ex_st 5 (pc' := 26) (ls' := [(0, xr 143)]) (st' := [xi (I 143 13), xr 152, xi (10 * (↑f))]) rfl ?_
    rw [hf]
    refine ex_iald (j := f) rfl (by decide) (rfl : xSH[152]? = some _) (by omega) (by omega) (by decide) ?_
    rw [hn]
    refine ex_st 1 (pc' := 28) (ls' := [(0, xr 143)]) (st' := [xi ((10 * (↑f)) + (↑n))]) rfl ?_
    refine ex_reti rfl rfl ?_
    refine ex_ic rfl (by first | omega | (constructor <;> omega) | exact hw _ (by omega)) (by first | omega | (constructor <;> omega) | exact hw _ (by omega)) (fun (h1 : ((10 * (↑f)) + (↑n)) ≤ (↑(10 * f + j) : Int)) => ?_) (fun (h1 : ¬ ((10 * (↑f)) + (↑n)) ≤ (↑(10 * f + j) : Int)) => ?_)
    · refine ex_st 1 (pc' := 43) (ls' := [(2, xi (↑(10 * f + j))), (1, xi (sp_mq (fun c => I 153 (10 * f + c)) (fun c => I 154 (10 * f + c)) j)), (0, xr 143)]) (st' := [xi (sp_mq (fun c => I 153 (10 * f + c)) (fun c => I 154 (10 * f + c)) j)]) rfl ?_
      refine ex_reti rfl rfl ?_
      obtain rfl : j = n := by omega
      exact ⟨rfl, rfl⟩
    · refine ex_st 3 (pc' := 20) (ls' := [(2, xi (↑(10 * f + j))), (1, xi (sp_mq (fun c => I 153 (10 * f + c)) (fun c => I 154 (10 * f + c)) j)), (0, xr 143)]) (st' := [xi (↑(10 * f + j)), xr 153]) rfl ?_
      refine ex_iald (j := ((10 * f + j))) rfl (by decide) (rfl : xSH[153]? = some _) (by omega) (by omega) (by decide) ?_
      refine ex_st 1 (pc' := 22) (ls' := [(2, xi (↑(10 * f + j))), (1, xi (sp_mq (fun c => I 153 (10 * f + c)) (fun c => I 154 (10 * f + c)) j)), (0, xr 143)]) (st' := [xi 2, xi (I 153 ((10 * f + j)))]) rfl ?_
      refine ex_ic rfl (by first | omega | (constructor <;> omega) | exact hw _ (by omega)) (by decide) (fun (h2 : ¬ (I 153 ((10 * f + j))) = 2) => ?_) (fun (h2 : ¬ ¬ (I 153 ((10 * f + j))) = 2) => ?_)
      · refine ex_st 4 (pc' := 7) (ls' := [(2, xi ((↑(10 * f + j)) + 1)), (1, xi (sp_mq (fun c => I 153 (10 * f + c)) (fun c => I 154 (10 * f + c)) j)), (0, xr 143)]) (st' := []) rfl ?_
        have h9 := lp_quota (sc := sc) (L := L) hf hf6 hn hn10 hw (j + 1) (by omega)
        rw [show sp_mq (fun c => I 153 (10 * f + c)) (fun c => I 154 (10 * f + c)) (j + 1) = sp_mq (fun c => I 153 (10 * f + c)) (fun c => I 154 (10 * f + c)) j from by simp only [sp_mq]; rw [if_neg (by omega)]] at h9
        exact h9
      · refine ex_st 3 (pc' := 30) (ls' := [(2, xi (↑(10 * f + j))), (1, xi (sp_mq (fun c => I 153 (10 * f + c)) (fun c => I 154 (10 * f + c)) j)), (0, xr 143)]) (st' := [xi (↑(10 * f + j)), xr 154]) rfl ?_
        refine ex_iald (j := ((10 * f + j))) rfl (by decide) (rfl : xSH[154]? = some _) (by omega) (by omega) (by decide) ?_
        refine ex_st 4 (pc' := 7) (ls' := [(2, xi ((↑(10 * f + j)) + 1)), (1, xi (I 154 ((10 * f + j)))), (0, xr 143)]) (st' := []) rfl ?_
        have h9 := lp_quota (sc := sc) (L := L) hf hf6 hn hn10 hw (j + 1) (by omega)
        rw [show sp_mq (fun c => I 153 (10 * f + c)) (fun c => I 154 (10 * f + c)) (j + 1) = I 154 (10 * f + j) from by simp only [sp_mq]; rw [if_pos (by omega)]] at h9
        exact h9
  · exfalso; omega
termination_by n - j
decreasing_by all_goals omega
theorem ct_m_quota {sc : List Int} {I : Nat → Nat → Int} {L : Nat → Nat → Int64} {cc : Nat} {cd we : Nat → Int} {en : Nat → Nat} {qv : Int} (hT : MT I cc cd we en qv) : x_CE sc 2 xN_m_quota [xr 143] (xSH, I, L) (some (xi qv)) (xSH, I, L) := by
  refine x_CE.of (M := xM_m_quota) rfl (Nat.le_of_ble_eq_true rfl) ?_
  obtain ⟨hcc, hwe, hqv, hT | ⟨f, n, hf, hf6, hn, hn10, hcc2, hqv2, hC⟩⟩ := hT
  · obtain ⟨ht, rfl, rfl⟩ := hT
    refine ex_st 3 (pc' := 3) (ls' := [(1, xi 0), (0, xr 143)]) (st' := [xr 143]) rfl ?_
    refine ex_inl (M' := xM_m_begin) (as := [xr 143]) (rest := []) (D' := 0) rfl (Nat.le_of_ble_eq_true rfl) (by decide) rfl ⟨rfl, rfl, rfl⟩ ⟨Nat.le_of_ble_eq_true rfl, rfl, rfl⟩ (Nat.le_of_ble_eq_true rfl) rfl ?_
    refine ex_st 2 (pc' := 4) (ls' := [(0, xr 143)]) (st' := [xi (I 143 13)]) rfl ?_
    rw [ht]
    refine ex_st 1 (pc' := 7) (ls' := [(0, xr 143)]) (st' := []) rfl ?_
    refine ex_st 2 (pc' := 18) (ls' := [(0, xr 143)]) (st' := [xi 0]) rfl ?_
    refine ex_reti rfl rfl ?_
    refine ex_st 1 (pc' := 7) (ls' := [(2, xi 0), (1, xi 0), (0, xr 143)]) (st' := []) rfl ?_
    refine ex_st 2 (pc' := 9) (ls' := [(2, xi 0), (1, xi 0), (0, xr 143)]) (st' := [xr 143, xi 0]) rfl ?_
    refine ex_inl (M' := xM_m_behind) (as := [xr 143]) (rest := [xi 0]) (D' := 0) rfl (Nat.le_of_ble_eq_true rfl) (by decide) rfl ⟨rfl, rfl, rfl⟩ ⟨Nat.le_of_ble_eq_true rfl, rfl, rfl⟩ (Nat.le_of_ble_eq_true rfl) rfl ?_
    refine ex_st 2 (pc' := 4) (ls' := [(0, xr 143)]) (st' := [xi (I 143 13)]) rfl ?_
    rw [ht]
    refine ex_st 1 (pc' := 7) (ls' := [(0, xr 143)]) (st' := []) rfl ?_
    refine ex_st 2 (pc' := 28) (ls' := [(0, xr 143)]) (st' := [xi 0]) rfl ?_
    refine ex_reti rfl rfl ?_
    refine ex_st 1 (pc' := 42) (ls' := [(2, xi 0), (1, xi 0), (0, xr 143)]) (st' := []) rfl ?_
    refine ex_st 1 (pc' := 43) (ls' := [(2, xi 0), (1, xi 0), (0, xr 143)]) (st' := [xi 0]) rfl ?_
    refine ex_reti rfl rfl ?_
    exact ⟨rfl, rfl⟩
  · subst hqv2
    refine ex_st 3 (pc' := 3) (ls' := [(1, xi 0), (0, xr 143)]) (st' := [xr 143]) rfl ?_
    refine ex_inl (M' := xM_m_begin) (as := [xr 143]) (rest := []) (D' := 0) rfl (Nat.le_of_ble_eq_true rfl) (by decide) rfl ⟨rfl, rfl, rfl⟩ ⟨Nat.le_of_ble_eq_true rfl, rfl, rfl⟩ (Nat.le_of_ble_eq_true rfl) rfl ?_
    refine ex_st 2 (pc' := 4) (ls' := [(0, xr 143)]) (st' := [xi (I 143 13)]) rfl ?_
    rw [hf]
    refine ex_if rfl (by first | omega | (constructor <;> omega) | assumption) (fun (h0 : ((0 : Int)) ≤ (↑f : Int)) => ?_) (fun (h0 : ¬ ((0 : Int)) ≤ (↑f : Int)) => ?_)
    · refine ex_st 3 (pc' := 17) (ls' := [(0, xr 143)]) (st' := [xi (I 143 13), xi 10]) rfl ?_
      rw [hf]
      refine ex_st 1 (pc' := 18) (ls' := [(0, xr 143)]) (st' := [xi (10 * (↑f))]) rfl ?_
      refine ex_reti rfl rfl ?_
      refine ex_st 1 (pc' := 7) (ls' := [(2, xi (10 * (↑f))), (1, xi 0), (0, xr 143)]) (st' := []) rfl ?_
      rw [show (10 * (f : Int)) = ((10 * f + 0 : Nat) : Int) by omega]
      exact lp_quota hf hf6 hn hn10 (fun z hz => by have h := hC z hz; constructor <;> (unfold MC at h; omega)) 0 (by omega)
    · exfalso; omega
set_option maxRecDepth 8000 in
set_option maxHeartbeats 4000000 in
theorem ct_m_likes {sc : List Int} {I0 I : Nat → Nat → Int} {L : Nat → Nat → Int64} {c : Nat} {kd : Nat → Nat} {vv vo aw : Nat → Int} {ba ro : Nat → Nat → Int} {egg : Int} {se : Nat} (hM : MW I0 c kd vv vo aw ba ro egg se) {cc : Nat} {cd we : Nat → Int} {en : Nat → Nat} {qv : Int} (hT : MT I0 cc cd we en qv) {p x : Nat} (hp : p < c) (hx : x < 5) (hF : ∀ k j, k ≠ 160 → I k j = I0 k j) : x_CQ sc 4 xN_m_likes [xr 143, xi (↑p), xi (↑x)] (xSH, I, L) (fun r m' => r = some (xi (sp_lk kd vv ba ro egg se cd we en cc p x)) ∧ ∃ I', m' = (xSH, I', L) ∧ ∀ k j, k ≠ 160 → I' k j = I0 k j) := by
  obtain ⟨hc, hc6, hegg, hegb, hse, hse5, hab, hp8⟩ := id hM
  obtain ⟨g1, g2, g3, g4, g5, g6, g7, g8⟩ := hp8 p hp
  have h7 := (g7 x hx).2
  refine x_CQ.of (M := xM_m_likes) rfl (Nat.le_of_ble_eq_true rfl) ?_
  refine ex_st 3 (pc' := 3) (ls' := [(0, xr 143), (1, xi (↑p)), (2, xi (↑x))]) (st' := [xi (↑x), xi (↑p), xr 143]) rfl ?_
  refine ex_callQ (ct_m_sum (L := L) hM hT hp hx hF) (by decide) rfl ⟨rfl, rfl, rfl⟩ ⟨Nat.le_of_ble_eq_true rfl, rfl, rfl⟩ (Nat.le_of_ble_eq_true rfl) rfl (fun ra m2 hQ => ?_)
  obtain ⟨rfl, I1, rfl, hF1⟩ := hQ
  have hsw := sp_sw_bd (fa := (sp_facts p (kd p) (vv p) x egg se)) (cd := cd) (we := we) (en := en) cc 0 0 (fun j hj => hT.2.1 j (by omega))
  have hcc := hT.1
  generalize hsm : ba p x + sp_sw (sp_facts p (kd p) (vv p) x egg se) cd we en cc 0 0 = sm
  refine ex_st 3 (pc' := 9) (ls' := [(3, xi sm), (0, xr 143), (1, xi (↑p)), (2, xi (↑x))]) (st' := [xi 2, xi (↑x)]) rfl ?_
  refine ex_iremN (a := x) (b := 2) rfl (by omega) (by decide) (by decide) ?_
  refine ex_if rfl (by first | omega | (constructor <;> omega) | assumption) (fun (h0 : ¬ (↑(x % 2) : Int) = 0) => ?_) (fun (h0 : ¬ ¬ (↑(x % 2) : Int) = 0) => ?_)
  · refine ex_st 5 (pc' := 32) (ls' := [(4, xi sm), (3, xi sm), (0, xr 143), (1, xi (↑p)), (2, xi (↑x))]) (st' := [xi (↑p), xr 144]) rfl ?_
    refine ex_iald (j := p) rfl (by decide) (rfl : xSH[144]? = some _) (by omega) (by omega) (by decide) ?_
    rw [(hF1 _ _ (by decide) : I1 144 p = I0 144 p), g1]
    by_cases h1 : (↑(kd p) : Int) = 1
    · refine ex_top h1 ?_
      refine ex_st 1 (pc' := 72) (ls' := [(4, xi sm), (3, xi sm), (0, xr 143), (1, xi (↑p)), (2, xi (↑x))]) (st' := []) rfl ?_
      refine ex_st 1 (pc' := 74) (ls' := [(4, xi sm), (3, xi sm), (0, xr 143), (1, xi (↑p)), (2, xi (↑x))]) (st' := [xi sm]) rfl ?_
      refine ex_reti rfl rfl ?_
      refine ⟨?_, I1, rfl, hF1⟩
      unfold sp_lk
      rw [hsm]
      unfold sp_like sp_ev
      refine x_req ?_
      repeat (first | rw [if_pos (by omega)] | rw [if_neg (by omega)])
      try omega
    by_cases h2 : (↑(kd p) : Int) = 2
    · refine ex_top h2 ?_
      refine ex_st 1 (pc' := 75) (ls' := [(4, xi sm), (3, xi sm), (0, xr 143), (1, xi (↑p)), (2, xi (↑x))]) (st' := []) rfl ?_
      refine ex_st 2 (pc' := 77) (ls' := [(4, xi sm), (3, xi sm), (0, xr 143), (1, xi (↑p)), (2, xi (↑x))]) (st' := [xi 2, xi sm]) rfl ?_
      refine ex_idiv rfl (by first | omega | (constructor <;> omega) | assumption) (by first | omega | (constructor <;> omega) | assumption) (by decide) ?_
      refine ex_reti rfl rfl ?_
      refine ⟨?_, I1, rfl, hF1⟩
      unfold sp_lk
      rw [hsm]
      unfold sp_like sp_ev
      refine x_req ?_
      repeat (first | rw [if_pos (by omega)] | rw [if_neg (by omega)])
      try omega
    by_cases h3 : (↑(kd p) : Int) = 3
    · refine ex_top h3 ?_
      refine ex_st 1 (pc' := 79) (ls' := [(4, xi sm), (3, xi sm), (0, xr 143), (1, xi (↑p)), (2, xi (↑x))]) (st' := []) rfl ?_
      refine ex_st 2 (pc' := 81) (ls' := [(4, xi sm), (3, xi sm), (0, xr 143), (1, xi (↑p)), (2, xi (↑x))]) (st' := [xi (-sm)]) rfl ?_
      refine ex_reti rfl rfl ?_
      refine ⟨?_, I1, rfl, hF1⟩
      unfold sp_lk
      rw [hsm]
      unfold sp_like sp_ev
      refine x_req ?_
      repeat (first | rw [if_pos (by omega)] | rw [if_neg (by omega)])
      try omega
    by_cases h4 : (↑(kd p) : Int) = 4
    · refine ex_top h4 ?_
      refine ex_st 1 (pc' := 82) (ls' := [(4, xi sm), (3, xi sm), (0, xr 143), (1, xi (↑p)), (2, xi (↑x))]) (st' := []) rfl ?_
      refine ex_st 2 (pc' := 86) (ls' := [(4, xi sm), (3, xi sm), (0, xr 143), (1, xi (↑p)), (2, xi (↑x))]) (st' := [xi (I1 143 3)]) rfl ?_
      rw [(hF1 _ _ (by decide) : I1 143 3 = I0 143 3), hegg]
      refine ex_st 3 (pc' := 91) (ls' := [(4, xi sm), (3, xi sm), (0, xr 143), (1, xi (↑p)), (2, xi (↑x))]) (st' := [xi (↑p), xr 145, xi egg]) rfl ?_
      refine ex_iald (j := p) rfl (by decide) (rfl : xSH[145]? = some _) (by omega) (by omega) (by decide) ?_
      rw [(hF1 _ _ (by decide) : I1 145 p = I0 145 p), g3]
      refine ex_ic rfl (by first | omega | (constructor <;> omega) | assumption) (by first | omega | (constructor <;> omega) | assumption) (fun (h5 : egg ≤ (vv p)) => ?_) (fun (h5 : ¬ egg ≤ (vv p)) => ?_)
      · refine ex_st 1 (pc' := 101) (ls' := [(4, xi sm), (3, xi sm), (0, xr 143), (1, xi (↑p)), (2, xi (↑x))]) (st' := [xi sm]) rfl ?_
        refine ex_reti rfl rfl ?_
        refine ⟨?_, I1, rfl, hF1⟩
        unfold sp_lk
        rw [hsm]
        unfold sp_like sp_ev
        refine x_req ?_
        repeat (first | rw [if_pos (by omega)] | rw [if_neg (by omega)])
        try omega
      · refine ex_st 2 (pc' := 101) (ls' := [(4, xi sm), (3, xi sm), (0, xr 143), (1, xi (↑p)), (2, xi (↑x))]) (st' := [xi 0]) rfl ?_
        refine ex_reti rfl rfl ?_
        refine ⟨?_, I1, rfl, hF1⟩
        unfold sp_lk
        rw [hsm]
        unfold sp_like sp_ev
        refine x_req ?_
        repeat (first | rw [if_pos (by omega)] | rw [if_neg (by omega)])
        try omega
    by_cases h6 : (↑(kd p) : Int) = 5
    · refine ex_top h6 ?_
      refine ex_st 1 (pc' := 102) (ls' := [(4, xi sm), (3, xi sm), (0, xr 143), (1, xi (↑p)), (2, xi (↑x))]) (st' := []) rfl ?_
      refine ex_st 1 (pc' := 103) (ls' := [(4, xi sm), (3, xi sm), (0, xr 143), (1, xi (↑p)), (2, xi (↑x))]) (st' := [xi (↑x)]) rfl ?_
      refine ex_if rfl (by first | omega | (constructor <;> omega) | assumption) (fun (h7 : ¬ (↑x : Int) = 0) => ?_) (fun (h7 : ¬ ¬ (↑x : Int) = 0) => ?_)
      · refine ex_st 2 (pc' := 119) (ls' := [(4, xi sm), (3, xi sm), (0, xr 143), (1, xi (↑p)), (2, xi (↑x))]) (st' := [xi 2, xi sm]) rfl ?_
        refine ex_idiv rfl (by first | omega | (constructor <;> omega) | assumption) (by first | omega | (constructor <;> omega) | assumption) (by decide) ?_
        refine ex_reti rfl rfl ?_
        refine ⟨?_, I1, rfl, hF1⟩
        unfold sp_lk
        rw [hsm]
        unfold sp_like sp_ev
        refine x_req ?_
        repeat (first | rw [if_pos (by omega)] | rw [if_neg (by omega)])
        try omega
      · exfalso; omega
    by_cases h8 : (↑(kd p) : Int) = 6
    · refine ex_top h8 ?_
      refine ex_st 1 (pc' := 121) (ls' := [(4, xi sm), (3, xi sm), (0, xr 143), (1, xi (↑p)), (2, xi (↑x))]) (st' := []) rfl ?_
      refine ex_st 7 (pc' := 132) (ls' := [(4, xi sm), (3, xi sm), (0, xr 143), (1, xi (↑p)), (2, xi (↑x))]) (st' := [xi (I1 143 4), xi (4 * (↑p)), xr 148]) rfl ?_
      rw [(hF1 _ _ (by decide) : I1 143 4 = I0 143 4), hse]
      refine ex_st 1 (pc' := 133) (ls' := [(4, xi sm), (3, xi sm), (0, xr 143), (1, xi (↑p)), (2, xi (↑x))]) (st' := [xi 4, xi (↑se), xi (4 * (↑p)), xr 148]) rfl ?_
      refine ex_iremN (a := se) (b := 4) rfl (by omega) (by decide) (by decide) ?_
      refine ex_st 1 (pc' := 135) (ls' := [(4, xi sm), (3, xi sm), (0, xr 143), (1, xi (↑p)), (2, xi (↑x))]) (st' := [xi ((4 * (↑p)) + (↑(se % 4))), xr 148]) rfl ?_
      refine ex_iald (j := ((4 * (p)) + ((se % 4)))) rfl (by decide) (rfl : xSH[148]? = some _) (by omega) (by omega) (by decide) ?_
      rw [(hF1 _ _ (by decide) : I1 148 ((4 * (p)) + ((se % 4))) = I0 148 ((4 * (p)) + ((se % 4)))), (g8 (se % 4) (by omega)).1]
      refine ex_st 2 (pc' := 138) (ls' := [(4, xi sm), (3, xi sm), (0, xr 143), (1, xi (↑p)), (2, xi (↑x))]) (st' := [xi ((ro p (se % 4)) - sm)]) rfl ?_
      refine ex_reti rfl rfl ?_
      refine ⟨?_, I1, rfl, hF1⟩
      unfold sp_lk
      rw [hsm]
      unfold sp_like sp_ev
      refine x_req ?_
      repeat (first | rw [if_pos (by omega)] | rw [if_neg (by omega)])
      try omega
    refine ex_tsd rfl (by first | omega | (constructor <;> omega) | assumption) (by omega) ?_
    refine ex_st 1 (pc' := 140) (ls' := [(4, xi sm), (3, xi sm), (0, xr 143), (1, xi (↑p)), (2, xi (↑x))]) (st' := [xi sm]) rfl ?_
    refine ex_reti rfl rfl ?_
    refine ⟨?_, I1, rfl, hF1⟩
    unfold sp_lk
    rw [hsm]
    unfold sp_like sp_ev
    refine x_req ?_
    repeat (first | rw [if_pos (by omega)] | rw [if_neg (by omega)])
    try omega
  · refine ex_st 4 (pc' := 19) (ls' := [(3, xi sm), (0, xr 143), (1, xi (↑p)), (2, xi (↑x))]) (st' := [xi (↑p), xr 145, xi sm]) rfl ?_
    refine ex_iald (j := p) rfl (by decide) (rfl : xSH[145]? = some _) (by omega) (by omega) (by decide) ?_
    rw [(hF1 _ _ (by decide) : I1 145 p = I0 145 p), g3]
    refine ex_st 6 (pc' := 32) (ls' := [(4, xi (sm + (vv p))), (3, xi sm), (0, xr 143), (1, xi (↑p)), (2, xi (↑x))]) (st' := [xi (↑p), xr 144]) rfl ?_
    refine ex_iald (j := p) rfl (by decide) (rfl : xSH[144]? = some _) (by omega) (by omega) (by decide) ?_
    rw [(hF1 _ _ (by decide) : I1 144 p = I0 144 p), g1]
    by_cases h9 : (↑(kd p) : Int) = 1
    · refine ex_top h9 ?_
      refine ex_st 1 (pc' := 72) (ls' := [(4, xi (sm + (vv p))), (3, xi sm), (0, xr 143), (1, xi (↑p)), (2, xi (↑x))]) (st' := []) rfl ?_
      refine ex_st 1 (pc' := 74) (ls' := [(4, xi (sm + (vv p))), (3, xi sm), (0, xr 143), (1, xi (↑p)), (2, xi (↑x))]) (st' := [xi (sm + (vv p))]) rfl ?_
      refine ex_reti rfl rfl ?_
      refine ⟨?_, I1, rfl, hF1⟩
      unfold sp_lk
      rw [hsm]
      unfold sp_like sp_ev
      refine x_req ?_
      repeat (first | rw [if_pos (by omega)] | rw [if_neg (by omega)])
      try omega
    by_cases h10 : (↑(kd p) : Int) = 2
    · refine ex_top h10 ?_
      refine ex_st 1 (pc' := 75) (ls' := [(4, xi (sm + (vv p))), (3, xi sm), (0, xr 143), (1, xi (↑p)), (2, xi (↑x))]) (st' := []) rfl ?_
      refine ex_st 2 (pc' := 77) (ls' := [(4, xi (sm + (vv p))), (3, xi sm), (0, xr 143), (1, xi (↑p)), (2, xi (↑x))]) (st' := [xi 2, xi sm]) rfl ?_
      refine ex_idiv rfl (by first | omega | (constructor <;> omega) | assumption) (by first | omega | (constructor <;> omega) | assumption) (by decide) ?_
      refine ex_reti rfl rfl ?_
      refine ⟨?_, I1, rfl, hF1⟩
      unfold sp_lk
      rw [hsm]
      unfold sp_like sp_ev
      refine x_req ?_
      repeat (first | rw [if_pos (by omega)] | rw [if_neg (by omega)])
      try omega
    by_cases h11 : (↑(kd p) : Int) = 3
    · refine ex_top h11 ?_
      refine ex_st 1 (pc' := 79) (ls' := [(4, xi (sm + (vv p))), (3, xi sm), (0, xr 143), (1, xi (↑p)), (2, xi (↑x))]) (st' := []) rfl ?_
      refine ex_st 2 (pc' := 81) (ls' := [(4, xi (sm + (vv p))), (3, xi sm), (0, xr 143), (1, xi (↑p)), (2, xi (↑x))]) (st' := [xi (-sm)]) rfl ?_
      refine ex_reti rfl rfl ?_
      refine ⟨?_, I1, rfl, hF1⟩
      unfold sp_lk
      rw [hsm]
      unfold sp_like sp_ev
      refine x_req ?_
      repeat (first | rw [if_pos (by omega)] | rw [if_neg (by omega)])
      try omega
    by_cases h12 : (↑(kd p) : Int) = 4
    · refine ex_top h12 ?_
      refine ex_st 1 (pc' := 82) (ls' := [(4, xi (sm + (vv p))), (3, xi sm), (0, xr 143), (1, xi (↑p)), (2, xi (↑x))]) (st' := []) rfl ?_
      refine ex_st 2 (pc' := 86) (ls' := [(4, xi (sm + (vv p))), (3, xi sm), (0, xr 143), (1, xi (↑p)), (2, xi (↑x))]) (st' := [xi (I1 143 3)]) rfl ?_
      rw [(hF1 _ _ (by decide) : I1 143 3 = I0 143 3), hegg]
      refine ex_st 3 (pc' := 91) (ls' := [(4, xi (sm + (vv p))), (3, xi sm), (0, xr 143), (1, xi (↑p)), (2, xi (↑x))]) (st' := [xi (↑p), xr 145, xi egg]) rfl ?_
      refine ex_iald (j := p) rfl (by decide) (rfl : xSH[145]? = some _) (by omega) (by omega) (by decide) ?_
      rw [(hF1 _ _ (by decide) : I1 145 p = I0 145 p), g3]
      refine ex_ic rfl (by first | omega | (constructor <;> omega) | assumption) (by first | omega | (constructor <;> omega) | assumption) (fun (h13 : egg ≤ (vv p)) => ?_) (fun (h13 : ¬ egg ≤ (vv p)) => ?_)
      · refine ex_st 1 (pc' := 101) (ls' := [(4, xi (sm + (vv p))), (3, xi sm), (0, xr 143), (1, xi (↑p)), (2, xi (↑x))]) (st' := [xi (sm + (vv p))]) rfl ?_
        refine ex_reti rfl rfl ?_
        refine ⟨?_, I1, rfl, hF1⟩
        unfold sp_lk
        rw [hsm]
        unfold sp_like sp_ev
        refine x_req ?_
        repeat (first | rw [if_pos (by omega)] | rw [if_neg (by omega)])
        try omega
      · refine ex_st 2 (pc' := 101) (ls' := [(4, xi (sm + (vv p))), (3, xi sm), (0, xr 143), (1, xi (↑p)), (2, xi (↑x))]) (st' := [xi 0]) rfl ?_
        refine ex_reti rfl rfl ?_
        refine ⟨?_, I1, rfl, hF1⟩
        unfold sp_lk
        rw [hsm]
        unfold sp_like sp_ev
        refine x_req ?_
        repeat (first | rw [if_pos (by omega)] | rw [if_neg (by omega)])
        try omega
    by_cases h14 : (↑(kd p) : Int) = 5
    · refine ex_top h14 ?_
      refine ex_st 1 (pc' := 102) (ls' := [(4, xi (sm + (vv p))), (3, xi sm), (0, xr 143), (1, xi (↑p)), (2, xi (↑x))]) (st' := []) rfl ?_
      refine ex_st 1 (pc' := 103) (ls' := [(4, xi (sm + (vv p))), (3, xi sm), (0, xr 143), (1, xi (↑p)), (2, xi (↑x))]) (st' := [xi (↑x)]) rfl ?_
      refine ex_if rfl (by first | omega | (constructor <;> omega) | assumption) (fun (h15 : ¬ (↑x : Int) = 0) => ?_) (fun (h15 : ¬ ¬ (↑x : Int) = 0) => ?_)
      · refine ex_st 2 (pc' := 119) (ls' := [(4, xi (sm + (vv p))), (3, xi sm), (0, xr 143), (1, xi (↑p)), (2, xi (↑x))]) (st' := [xi 2, xi sm]) rfl ?_
        refine ex_idiv rfl (by first | omega | (constructor <;> omega) | assumption) (by first | omega | (constructor <;> omega) | assumption) (by decide) ?_
        refine ex_reti rfl rfl ?_
        refine ⟨?_, I1, rfl, hF1⟩
        unfold sp_lk
        rw [hsm]
        unfold sp_like sp_ev
        refine x_req ?_
        repeat (first | rw [if_pos (by omega)] | rw [if_neg (by omega)])
        try omega
      · refine ex_st 2 (pc' := 108) (ls' := [(4, xi (sm + (vv p))), (3, xi sm), (0, xr 143), (1, xi (↑p)), (2, xi (↑x))]) (st' := [xi 2, xi sm]) rfl ?_
        refine ex_idiv rfl (by first | omega | (constructor <;> omega) | assumption) (by first | omega | (constructor <;> omega) | assumption) (by decide) ?_
        refine ex_st 2 (pc' := 113) (ls' := [(4, xi (sm + (vv p))), (3, xi sm), (0, xr 143), (1, xi (↑p)), (2, xi (↑x))]) (st' := [xi (I1 143 3), xi (sm.tdiv 2)]) rfl ?_
        rw [(hF1 _ _ (by decide) : I1 143 3 = I0 143 3), hegg]
        refine ex_st 2 (pc' := 120) (ls' := [(4, xi (sm + (vv p))), (3, xi sm), (0, xr 143), (1, xi (↑p)), (2, xi (↑x))]) (st' := [xi ((sm.tdiv 2) + egg)]) rfl ?_
        refine ex_reti rfl rfl ?_
        refine ⟨?_, I1, rfl, hF1⟩
        unfold sp_lk
        rw [hsm]
        unfold sp_like sp_ev
        refine x_req ?_
        repeat (first | rw [if_pos (by omega)] | rw [if_neg (by omega)])
        try omega
    by_cases h16 : (↑(kd p) : Int) = 6
    · refine ex_top h16 ?_
      refine ex_st 1 (pc' := 121) (ls' := [(4, xi (sm + (vv p))), (3, xi sm), (0, xr 143), (1, xi (↑p)), (2, xi (↑x))]) (st' := []) rfl ?_
      refine ex_st 7 (pc' := 132) (ls' := [(4, xi (sm + (vv p))), (3, xi sm), (0, xr 143), (1, xi (↑p)), (2, xi (↑x))]) (st' := [xi (I1 143 4), xi (4 * (↑p)), xr 148]) rfl ?_
      rw [(hF1 _ _ (by decide) : I1 143 4 = I0 143 4), hse]
      refine ex_st 1 (pc' := 133) (ls' := [(4, xi (sm + (vv p))), (3, xi sm), (0, xr 143), (1, xi (↑p)), (2, xi (↑x))]) (st' := [xi 4, xi (↑se), xi (4 * (↑p)), xr 148]) rfl ?_
      refine ex_iremN (a := se) (b := 4) rfl (by omega) (by decide) (by decide) ?_
      refine ex_st 1 (pc' := 135) (ls' := [(4, xi (sm + (vv p))), (3, xi sm), (0, xr 143), (1, xi (↑p)), (2, xi (↑x))]) (st' := [xi ((4 * (↑p)) + (↑(se % 4))), xr 148]) rfl ?_
      refine ex_iald (j := ((4 * (p)) + ((se % 4)))) rfl (by decide) (rfl : xSH[148]? = some _) (by omega) (by omega) (by decide) ?_
      rw [(hF1 _ _ (by decide) : I1 148 ((4 * (p)) + ((se % 4))) = I0 148 ((4 * (p)) + ((se % 4)))), (g8 (se % 4) (by omega)).1]
      refine ex_st 2 (pc' := 138) (ls' := [(4, xi (sm + (vv p))), (3, xi sm), (0, xr 143), (1, xi (↑p)), (2, xi (↑x))]) (st' := [xi ((ro p (se % 4)) - sm)]) rfl ?_
      refine ex_reti rfl rfl ?_
      refine ⟨?_, I1, rfl, hF1⟩
      unfold sp_lk
      rw [hsm]
      unfold sp_like sp_ev
      refine x_req ?_
      repeat (first | rw [if_pos (by omega)] | rw [if_neg (by omega)])
      try omega
    refine ex_tsd rfl (by first | omega | (constructor <;> omega) | assumption) (by omega) ?_
    refine ex_st 1 (pc' := 140) (ls' := [(4, xi (sm + (vv p))), (3, xi sm), (0, xr 143), (1, xi (↑p)), (2, xi (↑x))]) (st' := [xi sm]) rfl ?_
    refine ex_reti rfl rfl ?_
    refine ⟨?_, I1, rfl, hF1⟩
    unfold sp_lk
    rw [hsm]
    unfold sp_like sp_ev
    refine x_req ?_
    repeat (first | rw [if_pos (by omega)] | rw [if_neg (by omega)])
    try omega
theorem sp_lk_R2 {I0 : Nat → Nat → Int} {c : Nat} {kd : Nat → Nat} {vv vo aw : Nat → Int} {ba ro : Nat → Nat → Int} {egg : Int} {se : Nat} (hM : MW I0 c kd vv vo aw ba ro egg se) {cc : Nat} {cd we : Nat → Int} {en : Nat → Nat} {qv : Int} (hT : MT I0 cc cd we en qv) {p x : Nat} (hp : p < c) (hx : x < 5) : x_R (sp_lk kd vv ba ro egg se cd we en cc p x) := by
  obtain ⟨hc, hc6, hegg, hegb, hse, hse5, hab, hp8⟩ := id hM
  obtain ⟨g1, g2, g3, g4, g5, g6, g7, g8⟩ := hp8 p hp
  have hsw := sp_sw_bd (fa := (sp_facts p (kd p) (vv p) x egg se)) (cd := cd) (we := we) (en := en) cc 0 0 (fun j hj => hT.2.1 j (by omega))
  have hcc := hT.1
  have h7 := (g7 x hx).2
  exact sp_like_R g4 (fun j hj => (g8 j hj).2) (by constructor <;> omega) hegb
