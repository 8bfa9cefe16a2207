/-! a stack of truths; the reference's clauses -/
def sp_st1 (fa : Nat → Int) (a : Int) (s : List Bool) : List Bool :=
  if a = -1 then (match s with | b :: r => (!b) :: r | [] => []) else if a = -2 then (match s with | b :: d :: r => (d && b) :: r | s => s) else if a = -3 then (match s with | b :: d :: r => (d || b) :: r | s => s) else sp_test fa a.toNat :: s
def sp_run (fa : Nat → Int) (cd : Nat → Int) : Nat → Nat → List Bool → List Bool
  | 0, _, s => s
  | n + 1, i, s => sp_run fa cd n (i + 1) (sp_st1 fa (cd i) s)
def sp_enc : List Bool → Nat
  | [] => 0
  | b :: r => 2 * sp_enc r + (if b = true then 1 else 0)
theorem sp_enc_lt : ∀ s : List Bool, sp_enc s < 2 ^ s.length
  | [] => by decide
  | b :: r => by
    have := sp_enc_lt r
    simp only [sp_enc, List.length_cons, Nat.pow_succ]
    split <;> omega
theorem z_e1 : ∀ n : Nat, n < 2048 → ∀ b : Nat, b < 2 → z_xor ((2 * n + b : Nat) : Int) 1 = ((2 * n + (1 - b) : Nat) : Int) := by decide +kernel
theorem z_e2 : ∀ n : Nat, n < 1024 → ∀ b : Nat, b < 2 → ∀ d : Nat, d < 2 → z_and (z_shr ((2 * (2 * n + d) + b : Nat) : Int) 1) (z_or ((2 * (2 * n + d) + b : Nat) : Int) (-2)) = ((2 * n + d * b : Nat) : Int) := by decide +kernel
theorem z_e3 : ∀ n : Nat, n < 1024 → ∀ b : Nat, b < 2 → ∀ d : Nat, d < 2 → z_or (z_shr ((2 * (2 * n + d) + b : Nat) : Int) 1) (z_and ((2 * (2 * n + d) + b : Nat) : Int) 1) = ((2 * n + (d + b - d * b) : Nat) : Int) := by decide +kernel
theorem z_e4 : ∀ n : Nat, n < 2048 → ∀ b : Nat, b < 2 → z_or (z_shl ((n : Nat) : Int) 1) ((b : Nat) : Int) = ((2 * n + b : Nat) : Int) := by decide +kernel
theorem sp_bn (b : Bool) : ∃ n : Nat, n < 2 ∧ (if b = true then 1 else 0) = n := by cases b <;> simp
theorem sp_step_enc {fa : Nat → Int} {a : Int} {s : List Bool} {k : Nat} (hs : s.length ≤ 11) (ha : -3 ≤ a) (hz : sp_sz a s.length = some k) : sp_step fa (sp_enc s : Int) a = (sp_enc (sp_st1 fa a s) : Int) ∧ (sp_st1 fa a s).length = k ∧ k ≤ 11 := by
  unfold sp_sz at hz
  by_cases h1 : a = -1
  · rw [if_pos h1] at hz
    subst h1
    match s, hs, hz with
    | [], hs, hz => simp at hz
    | b :: r, hs, hz =>
      have hl := sp_enc_lt r
      have hp : 2 ^ r.length ≤ 2 ^ 10 := Nat.pow_le_pow_right (by decide) (by simp only [List.length_cons] at hs; omega)
      simp only [List.length_cons] at hs hz
      rw [if_pos (by omega)] at hz
      cases hz
      have h := z_e1 (sp_enc r) (by omega)
      refine ⟨?_, rfl, by omega⟩
      cases b
      · exact h 0 (by decide)
      · exact h 1 (by decide)
  · rw [if_neg h1] at hz
    by_cases h2 : a = -2 ∨ a = -3
    · rw [if_pos h2] at hz
      match s, hs, hz with
      | [], hs, hz => simp at hz
      | [b], hs, hz => simp at hz
      | b :: d :: r, hs, hz =>
        have hl := sp_enc_lt r
        have hp : 2 ^ r.length ≤ 2 ^ 9 := Nat.pow_le_pow_right (by decide) (by simp only [List.length_cons] at hs; omega)
        simp only [List.length_cons] at hs hz
        rw [if_pos (by omega)] at hz
        cases hz
        rcases h2 with h2 | h2 <;> subst h2
        · have h := z_e2 (sp_enc r) (by omega)
          refine ⟨?_, rfl, by omega⟩
          cases b <;> cases d
          · exact h 0 (by decide) 0 (by decide)
          · exact h 0 (by decide) 1 (by decide)
          · exact h 1 (by decide) 0 (by decide)
          · exact h 1 (by decide) 1 (by decide)
        · have h := z_e3 (sp_enc r) (by omega)
          refine ⟨?_, rfl, by omega⟩
          cases b <;> cases d
          · exact h 0 (by decide) 0 (by decide)
          · exact h 0 (by decide) 1 (by decide)
          · exact h 1 (by decide) 0 (by decide)
          · exact h 1 (by decide) 1 (by decide)
    · rw [if_neg h2] at hz
      have hlt : s.length < 11 := by
        by_cases h : s.length < 11
        · exact h
        · rw [if_neg h] at hz; cases hz
      rw [if_pos hlt] at hz
      cases hz
      have hl := sp_enc_lt s
      have hp : 2 ^ s.length ≤ 2 ^ 10 := Nat.pow_le_pow_right (by decide) (by omega)
      have h := z_e4 (sp_enc s) (by omega)
      have e2 : ¬ a = -2 := fun h => h2 (Or.inl h)
      have e3 : ¬ a = -3 := fun h => h2 (Or.inr h)
      unfold sp_step sp_st1
      rw [if_neg h1, if_neg e2, if_neg e3, if_neg h1, if_neg e2, if_neg e3]
      refine ⟨?_, rfl, by omega⟩
      simp only [sp_enc]
      cases sp_test fa a.toNat
      · exact h 0 (by decide)
      · exact h 1 (by decide)
theorem sp_exec_enc {fa : Nat → Int} {cd : Nat → Int} : ∀ (n i : Nat) (s : List Bool), s.length ≤ 11 → (∀ t, t < n → -3 ≤ cd (i + t)) → sp_szs cd n i s.length = some 1 → sp_exec fa cd n i (sp_enc s : Int) = (sp_enc (sp_run fa cd n i s) : Int) ∧ (sp_run fa cd n i s).length = 1
  | 0, i, s, _, _, hz => by
    simp only [sp_szs, Option.some.injEq] at hz
    exact ⟨rfl, hz⟩
  | n + 1, i, s, hs, hc, hz => by
    simp only [sp_szs] at hz
    split at hz
    · next k hk =>
      obtain ⟨h1, h2, h3⟩ := sp_step_enc (fa := fa) (a := cd i) hs (hc 0 (by omega)) hk
      simp only [sp_exec, sp_run]
      rw [h1]
      exact sp_exec_enc n (i + 1) _ (by omega) (fun t ht => by have := hc (t + 1) (by omega); rwa [show i + (t + 1) = i + 1 + t by omega] at this) (by rw [h2]; exact hz)
    · cases hz
theorem z_a1 : z_and 0 1 = 0 ∧ z_and 1 1 = 1 := by decide
/-- a clause's truth, by both stacks -/
theorem sp_true_run {fa : Nat → Int} {cd : Nat → Int} {i n : Nat} (hc : ∀ t, t < n → -3 ≤ cd (i + t)) (hz : sp_szs cd n i 0 = some 1) : sp_run fa cd n i [] = [sp_true fa cd i (i + n)] := by
  obtain ⟨h1, h2⟩ := sp_exec_enc (fa := fa) n i [] (by decide) hc hz
  have h0 : ((sp_enc [] : Nat) : Int) = 0 := rfl
  rw [h0] at h1
  unfold sp_true
  rw [show i + n - i = n by omega, h1]
  match sp_run fa cd n i [], h2 with
  | [b], _ => cases b <;> simp [sp_enc, z_a1.1, z_a1.2]
theorem sp_szs_shift {cd cd' : Nat → Int} : ∀ (n i j s : Nat), (∀ t, t < n → cd (i + t) = cd' (j + t)) → sp_szs cd n i s = sp_szs cd' n j s
  | 0, _, _, _, _ => rfl
  | n + 1, i, j, s, h => by
    have h0 := h 0 (by omega)
    simp only [Nat.add_zero] at h0
    simp only [sp_szs, h0]
    split
    · exact sp_szs_shift n (i + 1) (j + 1) _ (fun t ht => by have := h (t + 1) (by omega); rwa [show i + (t + 1) = i + 1 + t by omega, show j + (t + 1) = j + 1 + t by omega] at this)
    · rfl
/-- the reference's officials, egg and session -/
def MW (I : Nat → Nat → Int) (c : Nat) (kd : Nat → Nat) (vv vo aw : Nat → Int) (ba ro : Nat → Nat → Int) (egg : Int) (se : Nat) : Prop :=
  I 143 0 = (c : Int) ∧ c ≤ 6 ∧ I 143 3 = egg ∧ (0 ≤ egg ∧ egg ≤ 99) ∧ I 143 4 = (se : Int) ∧ se < 100000 ∧ (∃ ab : Nat, I 143 1 = (ab : Int) ∧ ab < 64 ∧ ∀ p, p < c → (aw p = 0 ∧ ab.testBit p = false) ∨ (aw p = 1 ∧ ab.testBit p = true)) ∧ ∀ p, p < c → I 144 p = (kd p : Int) ∧ kd p ≤ 6 ∧ I 145 p = vv p ∧ (-1000 ≤ vv p ∧ vv p ≤ 1000) ∧ I 146 p = vo p ∧ (0 ≤ vo p ∧ vo p ≤ 9) ∧ (∀ x, x < 5 → I 147 (5 * p + x) = ba p x ∧ 0 ≤ ba p x ∧ ba p x ≤ 9) ∧ ∀ j, j < 4 → I 148 (4 * p + j) = ro p j ∧ -1000 ≤ ro p j ∧ ro p j ≤ 1000
/-- cells that the reference's questions write -/
def x_ms (k j : Nat) : Prop := (160 ≤ k ∧ k ≤ 162) ∨ k = 164
theorem MW.fr {I I' : Nat → Nat → Int} {c : Nat} {kd : Nat → Nat} {vv vo aw : Nat → Int} {ba ro : Nat → Nat → Int} {egg : Int} {se : Nat} (h : MW I c kd vv vo aw ba ro egg se) (hf : ∀ k j, ¬ x_ms k j → I' k j = I k j) : MW I' c kd vv vo aw ba ro egg se := by
  obtain ⟨h1, h2, h3, h4, h5, h6, h7, h8⟩ := h
  have e : ∀ k j, 143 ≤ k → k ≤ 148 → I' k j = I k j := fun k j a b => hf k j (by unfold x_ms; omega)
  refine ⟨by rw [e _ _ (by decide) (by decide)]; exact h1, h2, by rw [e _ _ (by decide) (by decide)]; exact h3, h4, by rw [e _ _ (by decide) (by decide)]; exact h5, h6, by rw [e _ _ (by decide) (by decide)]; exact h7, fun p hp => ?_⟩
  obtain ⟨g1, g2, g3, g4, g5, g6, g7, g8⟩ := h8 p hp
  exact ⟨by rw [e _ _ (by decide) (by decide)]; exact g1, g2, by rw [e _ _ (by decide) (by decide)]; exact g3, g4, by rw [e _ _ (by decide) (by decide)]; exact g5, g6, fun x hx => by rw [e _ _ (by decide) (by decide)]; exact g7 x hx, fun j hj => by rw [e _ _ (by decide) (by decide)]; exact g8 j hj⟩
/-- the pile holds the truths -/
def PL (I : Nat → Nat → Int) : List Bool → Prop
  | [] => True
  | b :: r => I 160 r.length = x_b (b = true) ∧ PL I r
theorem PL.fr {I I' : Nat → Nat → Int} : ∀ {s : List Bool}, PL I s → (∀ j, j < s.length → I' 160 j = I 160 j) → PL I' s
  | [], _, _ => trivial
  | b :: r, h, hf => ⟨by rw [hf _ (by simp)]; exact h.1, h.2.fr (fun j hj => hf j (by simp only [List.length_cons]; omega))⟩

theorem ct_m_factOf0 {sc : List Int} {I : Nat → Nat → Int} {L : Nat → Nat → Int64} {c : Nat} {kd : Nat → Nat} {vv vo aw : Nat → Int} {ba ro : Nat → Nat → Int} {egg : Int} {se : Nat} (hM : MW I c kd vv vo aw ba ro egg se) {p x : Nat} (hp : p < c) (hx : x < 5) : x_CE sc 1 xN_m_factOf [xr 143, xi 0, xi (↑p), xi (↑x)] (xSH, I, L) (some (xi (sp_facts p (kd p) (vv p) x egg se 0))) (xSH, I, L) := by
  obtain ⟨hc, hc6, hegg, hegb, hse, hse5, hab, hp8⟩ := id hM
  obtain ⟨g1, g2, g3, g4, g5, g6, g7, g8⟩ := hp8 p hp
  refine x_CE.of (M := xM_m_factOf) rfl (Nat.le_of_ble_eq_true rfl) ?_
  refine ex_st 1 (pc' := 1) (ls' := [(0, xr 143), (1, xi 0), (2, xi (↑p)), (3, xi (↑x))]) (st' := [xi 0]) rfl ?_
  refine ex_st 1 (pc' := 36) (ls' := [(0, xr 143), (1, xi 0), (2, xi (↑p)), (3, xi (↑x))]) (st' := []) rfl ?_
  refine ex_st 1 (pc' := 37) (ls' := [(0, xr 143), (1, xi 0), (2, xi (↑p)), (3, xi (↑x))]) (st' := [xi (↑p)]) rfl ?_
  refine ex_reti rfl rfl ?_
  exact ⟨rfl, rfl⟩
theorem ct_m_factOf1 {sc : List Int} {I : Nat → Nat → Int} {L : Nat → Nat → Int64} {c : Nat} {kd : Nat → Nat} {vv vo aw : Nat → Int} {ba ro : Nat → Nat → Int} {egg : Int} {se : Nat} (hM : MW I c kd vv vo aw ba ro egg se) {p x : Nat} (hp : p < c) (hx : x < 5) : x_CE sc 1 xN_m_factOf [xr 143, xi 1, xi (↑p), xi (↑x)] (xSH, I, L) (some (xi (sp_facts p (kd p) (vv p) x egg se 1))) (xSH, I, L) := by
  obtain ⟨hc, hc6, hegg, hegb, hse, hse5, hab, hp8⟩ := id hM
  obtain ⟨g1, g2, g3, g4, g5, g6, g7, g8⟩ := hp8 p hp
  refine x_CE.of (M := xM_m_factOf) rfl (Nat.le_of_ble_eq_true rfl) ?_
  refine ex_st 1 (pc' := 1) (ls' := [(0, xr 143), (1, xi 1), (2, xi (↑p)), (3, xi (↑x))]) (st' := [xi 1]) rfl ?_
  refine ex_st 1 (pc' := 38) (ls' := [(0, xr 143), (1, xi 1), (2, xi (↑p)), (3, xi (↑x))]) (st' := []) rfl ?_
  refine ex_st 3 (pc' := 43) (ls' := [(0, xr 143), (1, xi 1), (2, xi (↑p)), (3, xi (↑x))]) (st' := [xi (↑p), xr 144]) rfl ?_
  refine ex_iald (j := p) rfl (by decide) (rfl : xSH[144]? = some _) (by omega) (by omega) (by decide) ?_
  rw [g1]
  refine ex_reti rfl rfl ?_
  exact ⟨rfl, rfl⟩
theorem ct_m_factOf2 {sc : List Int} {I : Nat → Nat → Int} {L : Nat → Nat → Int64} {c : Nat} {kd : Nat → Nat} {vv vo aw : Nat → Int} {ba ro : Nat → Nat → Int} {egg : Int} {se : Nat} (hM : MW I c kd vv vo aw ba ro egg se) {p x : Nat} (hp : p < c) (hx : x < 5) : x_CE sc 1 xN_m_factOf [xr 143, xi 2, xi (↑p), xi (↑x)] (xSH, I, L) (some (xi (sp_facts p (kd p) (vv p) x egg se 2))) (xSH, I, L) := by
  obtain ⟨hc, hc6, hegg, hegb, hse, hse5, hab, hp8⟩ := id hM
  obtain ⟨g1, g2, g3, g4, g5, g6, g7, g8⟩ := hp8 p hp
  refine x_CE.of (M := xM_m_factOf) rfl (Nat.le_of_ble_eq_true rfl) ?_
  refine ex_st 1 (pc' := 1) (ls' := [(0, xr 143), (1, xi 2), (2, xi (↑p)), (3, xi (↑x))]) (st' := [xi 2]) rfl ?_
  refine ex_st 1 (pc' := 45) (ls' := [(0, xr 143), (1, xi 2), (2, xi (↑p)), (3, xi (↑x))]) (st' := []) rfl ?_
  refine ex_st 3 (pc' := 50) (ls' := [(0, xr 143), (1, xi 2), (2, xi (↑p)), (3, xi (↑x))]) (st' := [xi (↑p), xr 145]) rfl ?_
  refine ex_iald (j := p) rfl (by decide) (rfl : xSH[145]? = some _) (by omega) (by omega) (by decide) ?_
  rw [g3]
  refine ex_reti rfl rfl ?_
  exact ⟨rfl, rfl⟩
theorem ct_m_factOf3 {sc : List Int} {I : Nat → Nat → Int} {L : Nat → Nat → Int64} {c : Nat} {kd : Nat → Nat} {vv vo aw : Nat → Int} {ba ro : Nat → Nat → Int} {egg : Int} {se : Nat} (hM : MW I c kd vv vo aw ba ro egg se) {p x : Nat} (hp : p < c) (hx : x < 5) : x_CE sc 1 xN_m_factOf [xr 143, xi 3, xi (↑p), xi (↑x)] (xSH, I, L) (some (xi (sp_facts p (kd p) (vv p) x egg se 3))) (xSH, I, L) := by
  obtain ⟨hc, hc6, hegg, hegb, hse, hse5, hab, hp8⟩ := id hM
  obtain ⟨g1, g2, g3, g4, g5, g6, g7, g8⟩ := hp8 p hp
  refine x_CE.of (M := xM_m_factOf) rfl (Nat.le_of_ble_eq_true rfl) ?_
  refine ex_st 1 (pc' := 1) (ls' := [(0, xr 143), (1, xi 3), (2, xi (↑p)), (3, xi (↑x))]) (st' := [xi 3]) rfl ?_
  refine ex_st 1 (pc' := 52) (ls' := [(0, xr 143), (1, xi 3), (2, xi (↑p)), (3, xi (↑x))]) (st' := []) rfl ?_
  refine ex_st 1 (pc' := 53) (ls' := [(0, xr 143), (1, xi 3), (2, xi (↑p)), (3, xi (↑x))]) (st' := [xi (↑x)]) rfl ?_
  refine ex_reti rfl rfl ?_
  exact ⟨rfl, rfl⟩
theorem ct_m_factOf4 {sc : List Int} {I : Nat → Nat → Int} {L : Nat → Nat → Int64} {c : Nat} {kd : Nat → Nat} {vv vo aw : Nat → Int} {ba ro : Nat → Nat → Int} {egg : Int} {se : Nat} (hM : MW I c kd vv vo aw ba ro egg se) {p x : Nat} (hp : p < c) (hx : x < 5) : x_CE sc 1 xN_m_factOf [xr 143, xi 4, xi (↑p), xi (↑x)] (xSH, I, L) (some (xi (sp_facts p (kd p) (vv p) x egg se 4))) (xSH, I, L) := by
  obtain ⟨hc, hc6, hegg, hegb, hse, hse5, hab, hp8⟩ := id hM
  obtain ⟨g1, g2, g3, g4, g5, g6, g7, g8⟩ := hp8 p hp
  refine x_CE.of (M := xM_m_factOf) rfl (Nat.le_of_ble_eq_true rfl) ?_
  refine ex_st 1 (pc' := 1) (ls' := [(0, xr 143), (1, xi 4), (2, xi (↑p)), (3, xi (↑x))]) (st' := [xi 4]) rfl ?_
  refine ex_st 1 (pc' := 54) (ls' := [(0, xr 143), (1, xi 4), (2, xi (↑p)), (3, xi (↑x))]) (st' := []) rfl ?_
  refine ex_st 2 (pc' := 58) (ls' := [(0, xr 143), (1, xi 4), (2, xi (↑p)), (3, xi (↑x))]) (st' := [xi (I 143 3)]) rfl ?_
  rw [hegg]
  refine ex_reti rfl rfl ?_
  exact ⟨rfl, rfl⟩
theorem ct_m_factOf5 {sc : List Int} {I : Nat → Nat → Int} {L : Nat → Nat → Int64} {c : Nat} {kd : Nat → Nat} {vv vo aw : Nat → Int} {ba ro : Nat → Nat → Int} {egg : Int} {se : Nat} (hM : MW I c kd vv vo aw ba ro egg se) {p x : Nat} (hp : p < c) (hx : x < 5) : x_CE sc 1 xN_m_factOf [xr 143, xi 5, xi (↑p), xi (↑x)] (xSH, I, L) (some (xi (sp_facts p (kd p) (vv p) x egg se 5))) (xSH, I, L) := by
  obtain ⟨hc, hc6, hegg, hegb, hse, hse5, hab, hp8⟩ := id hM
  obtain ⟨g1, g2, g3, g4, g5, g6, g7, g8⟩ := hp8 p hp
  refine x_CE.of (M := xM_m_factOf) rfl (Nat.le_of_ble_eq_true rfl) ?_
  refine ex_st 1 (pc' := 1) (ls' := [(0, xr 143), (1, xi 5), (2, xi (↑p)), (3, xi (↑x))]) (st' := [xi 5]) rfl ?_
  refine ex_st 1 (pc' := 59) (ls' := [(0, xr 143), (1, xi 5), (2, xi (↑p)), (3, xi (↑x))]) (st' := []) rfl ?_
  refine ex_st 2 (pc' := 63) (ls' := [(0, xr 143), (1, xi 5), (2, xi (↑p)), (3, xi (↑x))]) (st' := [xi (I 143 4)]) rfl ?_
  rw [hse]
  refine ex_st 1 (pc' := 65) (ls' := [(0, xr 143), (1, xi 5), (2, xi (↑p)), (3, xi (↑x))]) (st' := [xi 10, xi (↑se)]) rfl ?_
  refine ex_iremN (a := se) (b := 10) rfl (by omega) (by decide) (by decide) ?_
  refine ex_reti rfl rfl ?_
  exact ⟨rfl, rfl⟩
theorem ct_m_factOf {sc : List Int} {I : Nat → Nat → Int} {L : Nat → Nat → Int64} {c : Nat} {kd : Nat → Nat} {vv vo aw : Nat → Int} {ba ro : Nat → Nat → Int} {egg : Int} {se : Nat} (hM : MW I c kd vv vo aw ba ro egg se) {p x : Nat} (hp : p < c) (hx : x < 5) {l : Nat} (hl : l < 6) : x_CE sc 1 xN_m_factOf [xr 143, xi (↑l), xi (↑p), xi (↑x)] (xSH, I, L) (some (xi (sp_facts p (kd p) (vv p) x egg se l))) (xSH, I, L) := by
  rcases (show l = 0 ∨ l = 1 ∨ l = 2 ∨ l = 3 ∨ l = 4 ∨ l = 5 by omega) with rfl | rfl | rfl | rfl | rfl | rfl
  · exact ct_m_factOf0 hM hp hx
  · exact ct_m_factOf1 hM hp hx
  · exact ct_m_factOf2 hM hp hx
  · exact ct_m_factOf3 hM hp hx
  · exact ct_m_factOf4 hM hp hx
  · exact ct_m_factOf5 hM hp hx
theorem sp_facts_R {I : Nat → Nat → Int} {c : Nat} {kd : Nat → Nat} {vv vo aw : Nat → Int} {ba ro : Nat → Nat → Int} {egg : Int} {se : Nat} (hM : MW I c kd vv vo aw ba ro egg se) {p x : Nat} (hp : p < c) (hx : x < 5) (l : Nat) : x_R (sp_facts p (kd p) (vv p) x egg se l) := by
  obtain ⟨hc, hc6, hegg, hegb, hse, hse5, hab, hp8⟩ := id hM
  obtain ⟨g1, g2, g3, g4, g5, g6, g7, g8⟩ := hp8 p hp
  unfold sp_facts
  repeat' split
  all_goals (constructor <;> omega)
set_option maxRecDepth 8000 in
set_option maxHeartbeats 4000000 in
theorem lp_holds {sc : List Int} {I0 I : Nat → Nat → Int} {L : Nat → Nat → Int64} {c : Nat} {kd : Nat → Nat} {vv vo aw : Nat → Int} {ba ro : Nat → Nat → Int} {egg : Int} {se : Nat} (hM : MW I0 c kd vv vo aw ba ro egg se) {p x : Nat} (hp : p < c) (hx : x < 5) {q a e len : Nat} (hq : q < 60) (hfr : I0 155 q = (a : Int)) (hto : I0 156 q = ((a + len : Nat) : Int)) (hal : a + len ≤ 600) {cd : Nat → Int} (hTC : ∀ t, t < len → TC (cd (e + t)) (I0 157 (a + t))) (hF : ∀ k j, k ≠ 160 → I k j = I0 k j) {Q : Option xPV → xMem → Prop} (t : Nat) (ht : t ≤ len) (s : List Bool) (n : Nat) (hn : s.length = n) (hn11 : n ≤ 11) (hPL : PL I s) (hz : sp_szs cd (len - t) (e + t) n = some 1) (kk : ∀ I' : Nat → Nat → Int, (∀ k j, k ≠ 160 → I' k j = I0 k j) → ∀ b, sp_run (sp_facts p (kd p) (vv p) x egg se) cd (len - t) (e + t) s = [b] → Q (some (xi (x_b (b = true)))) (xSH, I', L)) : x_Ex sc 1 xM_m_holds 11 [(5, xi (↑(a + t))), (4, xi (↑n)), (0, xr 143), (1, xi (↑q)), (2, xi (↑p)), (3, xi (↑x))] [] (xSH, I, L) Q := by
  refine ex_st 4 (pc' := 18) (ls' := [(5, xi (↑(a + t))), (4, xi (↑n)), (0, xr 143), (1, xi (↑q)), (2, xi (↑p)), (3, xi (↑x))]) (st' := [xi (↑q), xr 156, xi (↑(a + t))]) rfl ?_
  refine ex_iald (j := q) rfl (by decide) (rfl : xSH[156]? = some _) (by omega) (by omega) (by decide) ?_
  rw [(hF _ _ (by omega) : I 156 q = I0 156 q), hto]
  refine ex_ic rfl (by first | omega | (constructor <;> omega) | assumption | exact x_bR _ | exact sp_facts_R hM hp hx _) (by first | omega | (constructor <;> omega) | assumption | exact x_bR _ | exact sp_facts_R hM hp hx _) (fun (h0 : (↑(a + len) : Int) ≤ (↑(a + t) : Int)) => ?_) (fun (h0 : ¬ (↑(a + len) : Int) ≤ (↑(a + t) : Int)) => ?_)
  · obtain rfl : t = len := by omega
    rw [Nat.sub_self] at hz kk
    simp only [sp_szs, Option.some.injEq] at hz
    obtain ⟨b, rfl⟩ : ∃ b, s = [b] := by match s, hn with | [], hn => simp at hn; omega | [b], _ => exact ⟨b, rfl⟩ | b :: d :: r, hn => simp only [List.length_cons] at hn; omega
    refine ex_st 3 (pc' := 258) (ls' := [(5, xi (↑(a + t))), (4, xi (↑n)), (0, xr 143), (1, xi (↑q)), (2, xi (↑p)), (3, xi (↑x))]) (st' := [xi 0, xr 160]) rfl ?_
    refine ex_bald (j := 0) rfl (by decide) (rfl : xSH[160]? = some _) rfl (by decide) (by decide) ?_
    rw [show I 160 0 = x_b (b = true) from hPL.1]
    refine ex_retz rfl (x_b01 _) rfl ?_
    exact kk I hF b rfl
  · refine ex_st 3 (pc' := 28) (ls' := [(5, xi (↑(a + t))), (4, xi (↑n)), (0, xr 143), (1, xi (↑q)), (2, xi (↑p)), (3, xi (↑x))]) (st' := [xi (↑(a + t)), xr 157]) rfl ?_
    refine ex_iald (j := ((a + t))) rfl (by decide) (rfl : xSH[157]? = some _) (by omega) (by omega) (by decide) ?_
    rw [(hF _ _ (by omega) : I 157 ((a + t)) = I0 157 ((a + t)))]
    rw [show len - t = (len - (t + 1)) + 1 by omega] at hz kk
    simp only [sp_szs] at hz
    simp only [sp_run] at kk
    rcases hTC t (by omega) with ⟨tc1, tc2⟩ | ⟨tc1, tc2⟩ | ⟨tc1, tc2⟩ | ⟨l, rr, mm, hl, hr, hm, tc1, tc2⟩
    · rw [tc1] at hz
      unfold sp_sz at hz; rw [if_pos rfl] at hz
      by_cases hn1 : 1 ≤ n
      · rw [if_pos hn1] at hz
        obtain ⟨b, r, rfl⟩ : ∃ b r, s = b :: r := by cases s with | nil => simp at hn; omega | cons b r => exact ⟨b, r, rfl⟩
        simp only [List.length_cons] at hn
        have hb : I 160 (n - 1) = x_b (b = true) := by rw [show n - 1 = r.length by omega]; exact hPL.1
        refine ex_top tc2 ?_
        refine ex_st 3 (pc' := 35) (ls' := [(6, xi (-33)), (5, xi (↑(a + t))), (4, xi (↑n)), (0, xr 143), (1, xi (↑q)), (2, xi (↑p)), (3, xi (↑x))]) (st' := [xi (-33), xi (-33)]) rfl ?_
        refine ex_st 1 (pc' := 38) (ls' := [(6, xi (-33)), (5, xi (↑(a + t))), (4, xi (↑n)), (0, xr 143), (1, xi (↑q)), (2, xi (↑p)), (3, xi (↑x))]) (st' := []) rfl ?_
        refine ex_st 10 (pc' := 54) (ls' := [(6, xi (-33)), (5, xi (↑(a + t))), (4, xi (↑n)), (0, xr 143), (1, xi (↑q)), (2, xi (↑p)), (3, xi (↑x))]) (st' := [xi ((↑n) - 1), xr 160, xi ((↑n) - 1), xr 160]) rfl ?_
        refine ex_bald (j := ((n) - 1)) rfl (by decide) (rfl : xSH[160]? = some _) (by omega) (by omega) (by decide) ?_
        rw [hb]
        refine ex_bne rfl (fun h1 => ?_) (fun h1 => ?_)
        · refine ex_st 1 (pc' := 63) (ls' := [(6, xi (-33)), (5, xi (↑(a + t))), (4, xi (↑n)), (0, xr 143), (1, xi (↑q)), (2, xi (↑p)), (3, xi (↑x))]) (st' := [xi 0, xi ((↑n) - 1), xr 160]) rfl ?_
          refine ex_bast (j := ((n) - 1)) rfl (by decide) (rfl : xSH[160]? = some _) (by omega) (by omega) (by decide) (by first | (right; exact ⟨rfl, x_b01 _⟩) | (right; simp; done) | (right; refine ⟨rfl, ?_⟩; omega) | (left; refine ⟨rfl, ?_, ?_⟩ <;> omega)) ?_
          refine ex_st 3 (pc' := 11) (ls' := [(5, xi ((↑(a + t)) + 1)), (6, xi (-33)), (4, xi (↑n)), (0, xr 143), (1, xi (↑q)), (2, xi (↑p)), (3, xi (↑x))]) (st' := []) rfl ?_
          have hbv : b = true := by first | assumption | (simp only [Bool.not_eq_true] at *; assumption)
          refine ex_pm [(5, xi (↑(a + t) + 1)), (4, xi (↑n)), (0, xr 143), (1, xi (↑q)), (2, xi (↑p)), (3, xi (↑x))] (fun i => by rcases i with _ | _ | _ | _ | _ | _ | _ | _ | _ | i <;> first | (right; rfl) | (left; rfl)) ?_
          have hst : sp_st1 (sp_facts p (kd p) (vv p) x egg se) (cd (e + t)) (b :: r) = (!b) :: r := by unfold sp_st1; rw [tc1, if_pos rfl]
          refine lp_holds hM hp hx hq hfr hto hal hTC (fun k j hk => by (repeat rw [x_up_far (by omega)]); exact hF k j hk) (t + 1) (by omega) ((!b) :: r) (n) (by simp only [List.length_cons]; omega) (by omega) ?_ (by rw [show e + (t + 1) = e + t + 1 by omega]; exact hz) (fun I' hh1 bb hh2 => kk I' hh1 bb ?_)
          · refine ⟨?_, hPL.2.fr (fun j hj => x_up_far (by omega))⟩
            rw [show n - 1 = r.length by omega, x_up_at, hbv]; rfl
          · rw [hst]; rw [show e + t + 1 = e + (t + 1) by omega]; exact hh2
        · refine ex_st 2 (pc' := 63) (ls' := [(6, xi (-33)), (5, xi (↑(a + t))), (4, xi (↑n)), (0, xr 143), (1, xi (↑q)), (2, xi (↑p)), (3, xi (↑x))]) (st' := [xi 1, xi ((↑n) - 1), xr 160]) rfl ?_
          refine ex_bast (j := ((n) - 1)) rfl (by decide) (rfl : xSH[160]? = some _) (by omega) (by omega) (by decide) (by first | (right; exact ⟨rfl, x_b01 _⟩) | (right; simp; done) | (right; refine ⟨rfl, ?_⟩; omega) | (left; refine ⟨rfl, ?_, ?_⟩ <;> omega)) ?_
          refine ex_st 3 (pc' := 11) (ls' := [(5, xi ((↑(a + t)) + 1)), (6, xi (-33)), (4, xi (↑n)), (0, xr 143), (1, xi (↑q)), (2, xi (↑p)), (3, xi (↑x))]) (st' := []) rfl ?_
          have hbv : b = false := by first | assumption | (simp only [Bool.not_eq_true] at *; assumption)
          refine ex_pm [(5, xi (↑(a + t) + 1)), (4, xi (↑n)), (0, xr 143), (1, xi (↑q)), (2, xi (↑p)), (3, xi (↑x))] (fun i => by rcases i with _ | _ | _ | _ | _ | _ | _ | _ | _ | i <;> first | (right; rfl) | (left; rfl)) ?_
          have hst : sp_st1 (sp_facts p (kd p) (vv p) x egg se) (cd (e + t)) (b :: r) = (!b) :: r := by unfold sp_st1; rw [tc1, if_pos rfl]
          refine lp_holds hM hp hx hq hfr hto hal hTC (fun k j hk => by (repeat rw [x_up_far (by omega)]); exact hF k j hk) (t + 1) (by omega) ((!b) :: r) (n) (by simp only [List.length_cons]; omega) (by omega) ?_ (by rw [show e + (t + 1) = e + t + 1 by omega]; exact hz) (fun I' hh1 bb hh2 => kk I' hh1 bb ?_)
          · refine ⟨?_, hPL.2.fr (fun j hj => x_up_far (by omega))⟩
            rw [show n - 1 = r.length by omega, x_up_at, hbv]; rfl
          · rw [hst]; rw [show e + t + 1 = e + (t + 1) by omega]; exact hh2
      · rw [if_neg hn1] at hz; cases hz
    · rw [tc1] at hz
      unfold sp_sz at hz; rw [if_neg (by decide), if_pos (by decide)] at hz
      by_cases hn1 : 2 ≤ n
      · rw [if_pos hn1] at hz
        obtain ⟨b, d, r, rfl⟩ : ∃ b d r, s = b :: d :: r := by match s, hn with | [], hn => simp at hn; omega | [b], hn => simp at hn; omega | b :: d :: r, _ => exact ⟨b, d, r, rfl⟩
        simp only [List.length_cons] at hn
        obtain ⟨m, rfl⟩ : ∃ m, n = m + 2 := ⟨n - 2, by omega⟩
        have hb : I 160 (m + 1) = x_b (b = true) := by rw [show m + 1 = (d :: r).length by simp only [List.length_cons]; omega]; exact hPL.1
        have hd : I 160 ((m + 1) - 1) = x_b (d = true) := by rw [show m + 1 - 1 = r.length by omega]; exact hPL.2.1
        refine ex_top tc2 ?_
        refine ex_st 3 (pc' := 35) (ls' := [(6, xi (-38)), (5, xi (↑(a + t))), (4, xi (↑(m + 2))), (0, xr 143), (1, xi (↑q)), (2, xi (↑p)), (3, xi (↑x))]) (st' := [xi (-33), xi (-38)]) rfl ?_
        refine ex_st 1 (pc' := 67) (ls' := [(6, xi (-38)), (5, xi (↑(a + t))), (4, xi (↑(m + 2))), (0, xr 143), (1, xi (↑q)), (2, xi (↑p)), (3, xi (↑x))]) (st' := []) rfl ?_
        refine ex_st 1 (pc' := 69) (ls' := [(6, xi (-38)), (5, xi (↑(a + t))), (4, xi (↑(m + 2))), (0, xr 143), (1, xi (↑q)), (2, xi (↑p)), (3, xi (↑x))]) (st' := [xi (-38)]) rfl ?_
        refine ex_st 1 (pc' := 72) (ls' := [(6, xi (-38)), (5, xi (↑(a + t))), (4, xi (↑(m + 2))), (0, xr 143), (1, xi (↑q)), (2, xi (↑p)), (3, xi (↑x))]) (st' := []) rfl ?_
        refine ex_st 1 (pc' := 75) (ls' := [(4, xi ((↑(m + 2)) + (-1))), (6, xi (-38)), (5, xi (↑(a + t))), (0, xr 143), (1, xi (↑q)), (2, xi (↑p)), (3, xi (↑x))]) (st' := []) rfl ?_
        rw [show ((↑(m + 2) : Int) + (-1)) = ((m + 1 : Nat) : Int) by omega]
        refine ex_st 7 (pc' := 87) (ls' := [(4, xi (↑(m + 1))), (6, xi (-38)), (5, xi (↑(a + t))), (0, xr 143), (1, xi (↑q)), (2, xi (↑p)), (3, xi (↑x))]) (st' := [xi (-38), xi (-38), xi ((↑(m + 1)) - 1), xr 160]) rfl ?_
        refine ex_st 1 (pc' := 90) (ls' := [(4, xi (↑(m + 1))), (6, xi (-38)), (5, xi (↑(a + t))), (0, xr 143), (1, xi (↑q)), (2, xi (↑p)), (3, xi (↑x))]) (st' := [xi ((↑(m + 1)) - 1), xr 160]) rfl ?_
        refine ex_st 5 (pc' := 98) (ls' := [(4, xi (↑(m + 1))), (6, xi (-38)), (5, xi (↑(a + t))), (0, xr 143), (1, xi (↑q)), (2, xi (↑p)), (3, xi (↑x))]) (st' := [xi ((↑(m + 1)) - 1), xr 160, xi ((↑(m + 1)) - 1), xr 160]) rfl ?_
        refine ex_bald (j := (((m + 1)) - 1)) rfl (by decide) (rfl : xSH[160]? = some _) (by omega) (by omega) (by decide) ?_
        rw [hd]
        refine ex_beq rfl (fun h2 => ?_) (fun h2 => ?_)
        · refine ex_st 2 (pc' := 147) (ls' := [(4, xi (↑(m + 1))), (6, xi (-38)), (5, xi (↑(a + t))), (0, xr 143), (1, xi (↑q)), (2, xi (↑p)), (3, xi (↑x))]) (st' := [xi 0, xi ((↑(m + 1)) - 1), xr 160]) rfl ?_
          refine ex_bast (j := (((m + 1)) - 1)) rfl (by decide) (rfl : xSH[160]? = some _) (by omega) (by omega) (by decide) (by first | (right; exact ⟨rfl, x_b01 _⟩) | (right; simp; done) | (right; refine ⟨rfl, ?_⟩; omega) | (left; refine ⟨rfl, ?_, ?_⟩ <;> omega)) ?_
          refine ex_st 3 (pc' := 11) (ls' := [(5, xi ((↑(a + t)) + 1)), (4, xi (↑(m + 1))), (6, xi (-38)), (0, xr 143), (1, xi (↑q)), (2, xi (↑p)), (3, xi (↑x))]) (st' := []) rfl ?_
          have hbv : (d && b) = false := by simp_all
          refine ex_pm [(5, xi (↑(a + t) + 1)), (4, xi (↑(m + 1))), (0, xr 143), (1, xi (↑q)), (2, xi (↑p)), (3, xi (↑x))] (fun i => by rcases i with _ | _ | _ | _ | _ | _ | _ | _ | _ | i <;> first | (right; rfl) | (left; rfl)) ?_
          have hst : sp_st1 (sp_facts p (kd p) (vv p) x egg se) (cd (e + t)) (b :: d :: r) = (d && b) :: r := by unfold sp_st1; rw [tc1]; rfl
          refine lp_holds hM hp hx hq hfr hto hal hTC (fun k j hk => by (repeat rw [x_up_far (by omega)]); exact hF k j hk) (t + 1) (by omega) ((d && b) :: r) (m + 1) (by simp only [List.length_cons]; omega) (by omega) ?_ (by rw [show e + (t + 1) = e + t + 1 by omega]; exact hz) (fun I' hh1 bb hh2 => kk I' hh1 bb ?_)
          · refine ⟨?_, hPL.2.2.fr (fun j hj => x_up_far (by omega))⟩
            rw [show m + 1 - 1 = r.length by omega, x_up_at, hbv]; rfl
          · rw [hst]; rw [show e + t + 1 = e + (t + 1) by omega]; exact hh2
        · refine ex_st 3 (pc' := 108) (ls' := [(4, xi (↑(m + 1))), (6, xi (-38)), (5, xi (↑(a + t))), (0, xr 143), (1, xi (↑q)), (2, xi (↑p)), (3, xi (↑x))]) (st' := [xi (↑(m + 1)), xr 160, xi ((↑(m + 1)) - 1), xr 160]) rfl ?_
          refine ex_bald (j := ((m + 1))) rfl (by decide) (rfl : xSH[160]? = some _) (by omega) (by omega) (by decide) ?_
          rw [hb]
          refine ex_beq rfl (fun h3 => ?_) (fun h3 => ?_)
          · refine ex_st 2 (pc' := 147) (ls' := [(4, xi (↑(m + 1))), (6, xi (-38)), (5, xi (↑(a + t))), (0, xr 143), (1, xi (↑q)), (2, xi (↑p)), (3, xi (↑x))]) (st' := [xi 0, xi ((↑(m + 1)) - 1), xr 160]) rfl ?_
            refine ex_bast (j := (((m + 1)) - 1)) rfl (by decide) (rfl : xSH[160]? = some _) (by omega) (by omega) (by decide) (by first | (right; exact ⟨rfl, x_b01 _⟩) | (right; simp; done) | (right; refine ⟨rfl, ?_⟩; omega) | (left; refine ⟨rfl, ?_, ?_⟩ <;> omega)) ?_
            refine ex_st 3 (pc' := 11) (ls' := [(5, xi ((↑(a + t)) + 1)), (4, xi (↑(m + 1))), (6, xi (-38)), (0, xr 143), (1, xi (↑q)), (2, xi (↑p)), (3, xi (↑x))]) (st' := []) rfl ?_
            have hbv : (d && b) = false := by simp_all
            refine ex_pm [(5, xi (↑(a + t) + 1)), (4, xi (↑(m + 1))), (0, xr 143), (1, xi (↑q)), (2, xi (↑p)), (3, xi (↑x))] (fun i => by rcases i with _ | _ | _ | _ | _ | _ | _ | _ | _ | i <;> first | (right; rfl) | (left; rfl)) ?_
            have hst : sp_st1 (sp_facts p (kd p) (vv p) x egg se) (cd (e + t)) (b :: d :: r) = (d && b) :: r := by unfold sp_st1; rw [tc1]; rfl
            refine lp_holds hM hp hx hq hfr hto hal hTC (fun k j hk => by (repeat rw [x_up_far (by omega)]); exact hF k j hk) (t + 1) (by omega) ((d && b) :: r) (m + 1) (by simp only [List.length_cons]; omega) (by omega) ?_ (by rw [show e + (t + 1) = e + t + 1 by omega]; exact hz) (fun I' hh1 bb hh2 => kk I' hh1 bb ?_)
            · refine ⟨?_, hPL.2.2.fr (fun j hj => x_up_far (by omega))⟩
              rw [show m + 1 - 1 = r.length by omega, x_up_at, hbv]; rfl
            · rw [hst]; rw [show e + t + 1 = e + (t + 1) by omega]; exact hh2
          · refine ex_st 2 (pc' := 147) (ls' := [(4, xi (↑(m + 1))), (6, xi (-38)), (5, xi (↑(a + t))), (0, xr 143), (1, xi (↑q)), (2, xi (↑p)), (3, xi (↑x))]) (st' := [xi 1, xi ((↑(m + 1)) - 1), xr 160]) rfl ?_
            refine ex_bast (j := (((m + 1)) - 1)) rfl (by decide) (rfl : xSH[160]? = some _) (by omega) (by omega) (by decide) (by first | (right; exact ⟨rfl, x_b01 _⟩) | (right; simp; done) | (right; refine ⟨rfl, ?_⟩; omega) | (left; refine ⟨rfl, ?_, ?_⟩ <;> omega)) ?_
            refine ex_st 3 (pc' := 11) (ls' := [(5, xi ((↑(a + t)) + 1)), (4, xi (↑(m + 1))), (6, xi (-38)), (0, xr 143), (1, xi (↑q)), (2, xi (↑p)), (3, xi (↑x))]) (st' := []) rfl ?_
            have hbv : (d && b) = true := by simp_all
            refine ex_pm [(5, xi (↑(a + t) + 1)), (4, xi (↑(m + 1))), (0, xr 143), (1, xi (↑q)), (2, xi (↑p)), (3, xi (↑x))] (fun i => by rcases i with _ | _ | _ | _ | _ | _ | _ | _ | _ | i <;> first | (right; rfl) | (left; rfl)) ?_
            have hst : sp_st1 (sp_facts p (kd p) (vv p) x egg se) (cd (e + t)) (b :: d :: r) = (d && b) :: r := by unfold sp_st1; rw [tc1]; rfl
            refine lp_holds hM hp hx hq hfr hto hal hTC (fun k j hk => by (repeat rw [x_up_far (by omega)]); exact hF k j hk) (t + 1) (by omega) ((d && b) :: r) (m + 1) (by simp only [List.length_cons]; omega) (by omega) ?_ (by rw [show e + (t + 1) = e + t + 1 by omega]; exact hz) (fun I' hh1 bb hh2 => kk I' hh1 bb ?_)
            · refine ⟨?_, hPL.2.2.fr (fun j hj => x_up_far (by omega))⟩
              rw [show m + 1 - 1 = r.length by omega, x_up_at, hbv]; rfl
            · rw [hst]; rw [show e + t + 1 = e + (t + 1) by omega]; exact hh2
      · rw [if_neg hn1] at hz; cases hz
    · rw [tc1] at hz
      unfold sp_sz at hz; rw [if_neg (by decide), if_pos (by decide)] at hz
      by_cases hn1 : 2 ≤ n
      · rw [if_pos hn1] at hz
        obtain ⟨b, d, r, rfl⟩ : ∃ b d r, s = b :: d :: r := by match s, hn with | [], hn => simp at hn; omega | [b], hn => simp at hn; omega | b :: d :: r, _ => exact ⟨b, d, r, rfl⟩
        simp only [List.length_cons] at hn
        obtain ⟨m, rfl⟩ : ∃ m, n = m + 2 := ⟨n - 2, by omega⟩
        have hb : I 160 (m + 1) = x_b (b = true) := by rw [show m + 1 = (d :: r).length by simp only [List.length_cons]; omega]; exact hPL.1
        have hd : I 160 ((m + 1) - 1) = x_b (d = true) := by rw [show m + 1 - 1 = r.length by omega]; exact hPL.2.1
        refine ex_top tc2 ?_
        refine ex_st 3 (pc' := 35) (ls' := [(6, xi (-124)), (5, xi (↑(a + t))), (4, xi (↑(m + 2))), (0, xr 143), (1, xi (↑q)), (2, xi (↑p)), (3, xi (↑x))]) (st' := [xi (-33), xi (-124)]) rfl ?_
        refine ex_st 1 (pc' := 67) (ls' := [(6, xi (-124)), (5, xi (↑(a + t))), (4, xi (↑(m + 2))), (0, xr 143), (1, xi (↑q)), (2, xi (↑p)), (3, xi (↑x))]) (st' := []) rfl ?_
        refine ex_st 1 (pc' := 69) (ls' := [(6, xi (-124)), (5, xi (↑(a + t))), (4, xi (↑(m + 2))), (0, xr 143), (1, xi (↑q)), (2, xi (↑p)), (3, xi (↑x))]) (st' := [xi (-124)]) rfl ?_
        refine ex_st 1 (pc' := 72) (ls' := [(6, xi (-124)), (5, xi (↑(a + t))), (4, xi (↑(m + 2))), (0, xr 143), (1, xi (↑q)), (2, xi (↑p)), (3, xi (↑x))]) (st' := []) rfl ?_
        refine ex_st 1 (pc' := 75) (ls' := [(4, xi ((↑(m + 2)) + (-1))), (6, xi (-124)), (5, xi (↑(a + t))), (0, xr 143), (1, xi (↑q)), (2, xi (↑p)), (3, xi (↑x))]) (st' := []) rfl ?_
        rw [show ((↑(m + 2) : Int) + (-1)) = ((m + 1 : Nat) : Int) by omega]
        refine ex_st 7 (pc' := 87) (ls' := [(4, xi (↑(m + 1))), (6, xi (-124)), (5, xi (↑(a + t))), (0, xr 143), (1, xi (↑q)), (2, xi (↑p)), (3, xi (↑x))]) (st' := [xi (-38), xi (-124), xi ((↑(m + 1)) - 1), xr 160]) rfl ?_
        refine ex_st 1 (pc' := 120) (ls' := [(4, xi (↑(m + 1))), (6, xi (-124)), (5, xi (↑(a + t))), (0, xr 143), (1, xi (↑q)), (2, xi (↑p)), (3, xi (↑x))]) (st' := [xi ((↑(m + 1)) - 1), xr 160]) rfl ?_
        refine ex_st 5 (pc' := 128) (ls' := [(4, xi (↑(m + 1))), (6, xi (-124)), (5, xi (↑(a + t))), (0, xr 143), (1, xi (↑q)), (2, xi (↑p)), (3, xi (↑x))]) (st' := [xi ((↑(m + 1)) - 1), xr 160, xi ((↑(m + 1)) - 1), xr 160]) rfl ?_
        refine ex_bald (j := (((m + 1)) - 1)) rfl (by decide) (rfl : xSH[160]? = some _) (by omega) (by omega) (by decide) ?_
        rw [hd]
        refine ex_bne rfl (fun h4 => ?_) (fun h4 => ?_)
        · refine ex_st 2 (pc' := 147) (ls' := [(4, xi (↑(m + 1))), (6, xi (-124)), (5, xi (↑(a + t))), (0, xr 143), (1, xi (↑q)), (2, xi (↑p)), (3, xi (↑x))]) (st' := [xi 1, xi ((↑(m + 1)) - 1), xr 160]) rfl ?_
          refine ex_bast (j := (((m + 1)) - 1)) rfl (by decide) (rfl : xSH[160]? = some _) (by omega) (by omega) (by decide) (by first | (right; exact ⟨rfl, x_b01 _⟩) | (right; simp; done) | (right; refine ⟨rfl, ?_⟩; omega) | (left; refine ⟨rfl, ?_, ?_⟩ <;> omega)) ?_
          refine ex_st 3 (pc' := 11) (ls' := [(5, xi ((↑(a + t)) + 1)), (4, xi (↑(m + 1))), (6, xi (-124)), (0, xr 143), (1, xi (↑q)), (2, xi (↑p)), (3, xi (↑x))]) (st' := []) rfl ?_
          have hbv : (d || b) = true := by simp_all
          refine ex_pm [(5, xi (↑(a + t) + 1)), (4, xi (↑(m + 1))), (0, xr 143), (1, xi (↑q)), (2, xi (↑p)), (3, xi (↑x))] (fun i => by rcases i with _ | _ | _ | _ | _ | _ | _ | _ | _ | i <;> first | (right; rfl) | (left; rfl)) ?_
          have hst : sp_st1 (sp_facts p (kd p) (vv p) x egg se) (cd (e + t)) (b :: d :: r) = (d || b) :: r := by unfold sp_st1; rw [tc1]; rfl
          refine lp_holds hM hp hx hq hfr hto hal hTC (fun k j hk => by (repeat rw [x_up_far (by omega)]); exact hF k j hk) (t + 1) (by omega) ((d || b) :: r) (m + 1) (by simp only [List.length_cons]; omega) (by omega) ?_ (by rw [show e + (t + 1) = e + t + 1 by omega]; exact hz) (fun I' hh1 bb hh2 => kk I' hh1 bb ?_)
          · refine ⟨?_, hPL.2.2.fr (fun j hj => x_up_far (by omega))⟩
            rw [show m + 1 - 1 = r.length by omega, x_up_at, hbv]; rfl
          · rw [hst]; rw [show e + t + 1 = e + (t + 1) by omega]; exact hh2
        · refine ex_st 3 (pc' := 138) (ls' := [(4, xi (↑(m + 1))), (6, xi (-124)), (5, xi (↑(a + t))), (0, xr 143), (1, xi (↑q)), (2, xi (↑p)), (3, xi (↑x))]) (st' := [xi (↑(m + 1)), xr 160, xi ((↑(m + 1)) - 1), xr 160]) rfl ?_
          refine ex_bald (j := ((m + 1))) rfl (by decide) (rfl : xSH[160]? = some _) (by omega) (by omega) (by decide) ?_
          rw [hb]
          refine ex_beq rfl (fun h5 => ?_) (fun h5 => ?_)
          · refine ex_st 1 (pc' := 147) (ls' := [(4, xi (↑(m + 1))), (6, xi (-124)), (5, xi (↑(a + t))), (0, xr 143), (1, xi (↑q)), (2, xi (↑p)), (3, xi (↑x))]) (st' := [xi 0, xi ((↑(m + 1)) - 1), xr 160]) rfl ?_
            refine ex_bast (j := (((m + 1)) - 1)) rfl (by decide) (rfl : xSH[160]? = some _) (by omega) (by omega) (by decide) (by first | (right; exact ⟨rfl, x_b01 _⟩) | (right; simp; done) | (right; refine ⟨rfl, ?_⟩; omega) | (left; refine ⟨rfl, ?_, ?_⟩ <;> omega)) ?_
            refine ex_st 3 (pc' := 11) (ls' := [(5, xi ((↑(a + t)) + 1)), (4, xi (↑(m + 1))), (6, xi (-124)), (0, xr 143), (1, xi (↑q)), (2, xi (↑p)), (3, xi (↑x))]) (st' := []) rfl ?_
            have hbv : (d || b) = false := by simp_all
            refine ex_pm [(5, xi (↑(a + t) + 1)), (4, xi (↑(m + 1))), (0, xr 143), (1, xi (↑q)), (2, xi (↑p)), (3, xi (↑x))] (fun i => by rcases i with _ | _ | _ | _ | _ | _ | _ | _ | _ | i <;> first | (right; rfl) | (left; rfl)) ?_
            have hst : sp_st1 (sp_facts p (kd p) (vv p) x egg se) (cd (e + t)) (b :: d :: r) = (d || b) :: r := by unfold sp_st1; rw [tc1]; rfl
            refine lp_holds hM hp hx hq hfr hto hal hTC (fun k j hk => by (repeat rw [x_up_far (by omega)]); exact hF k j hk) (t + 1) (by omega) ((d || b) :: r) (m + 1) (by simp only [List.length_cons]; omega) (by omega) ?_ (by rw [show e + (t + 1) = e + t + 1 by omega]; exact hz) (fun I' hh1 bb hh2 => kk I' hh1 bb ?_)
            · refine ⟨?_, hPL.2.2.fr (fun j hj => x_up_far (by omega))⟩
              rw [show m + 1 - 1 = r.length by omega, x_up_at, hbv]; rfl
            · rw [hst]; rw [show e + t + 1 = e + (t + 1) by omega]; exact hh2
          · refine ex_st 2 (pc' := 147) (ls' := [(4, xi (↑(m + 1))), (6, xi (-124)), (5, xi (↑(a + t))), (0, xr 143), (1, xi (↑q)), (2, xi (↑p)), (3, xi (↑x))]) (st' := [xi 1, xi ((↑(m + 1)) - 1), xr 160]) rfl ?_
            refine ex_bast (j := (((m + 1)) - 1)) rfl (by decide) (rfl : xSH[160]? = some _) (by omega) (by omega) (by decide) (by first | (right; exact ⟨rfl, x_b01 _⟩) | (right; simp; done) | (right; refine ⟨rfl, ?_⟩; omega) | (left; refine ⟨rfl, ?_, ?_⟩ <;> omega)) ?_
            refine ex_st 3 (pc' := 11) (ls' := [(5, xi ((↑(a + t)) + 1)), (4, xi (↑(m + 1))), (6, xi (-124)), (0, xr 143), (1, xi (↑q)), (2, xi (↑p)), (3, xi (↑x))]) (st' := []) rfl ?_
            have hbv : (d || b) = true := by simp_all
            refine ex_pm [(5, xi (↑(a + t) + 1)), (4, xi (↑(m + 1))), (0, xr 143), (1, xi (↑q)), (2, xi (↑p)), (3, xi (↑x))] (fun i => by rcases i with _ | _ | _ | _ | _ | _ | _ | _ | _ | i <;> first | (right; rfl) | (left; rfl)) ?_
            have hst : sp_st1 (sp_facts p (kd p) (vv p) x egg se) (cd (e + t)) (b :: d :: r) = (d || b) :: r := by unfold sp_st1; rw [tc1]; rfl
            refine lp_holds hM hp hx hq hfr hto hal hTC (fun k j hk => by (repeat rw [x_up_far (by omega)]); exact hF k j hk) (t + 1) (by omega) ((d || b) :: r) (m + 1) (by simp only [List.length_cons]; omega) (by omega) ?_ (by rw [show e + (t + 1) = e + t + 1 by omega]; exact hz) (fun I' hh1 bb hh2 => kk I' hh1 bb ?_)
            · refine ⟨?_, hPL.2.2.fr (fun j hj => x_up_far (by omega))⟩
              rw [show m + 1 - 1 = r.length by omega, x_up_at, hbv]; rfl
            · rw [hst]; rw [show e + t + 1 = e + (t + 1) by omega]; exact hh2
      · rw [if_neg hn1] at hz; cases hz
    · rw [tc1] at hz
      have hlt : n < 11 := by
        by_cases h : n < 11
        · exact h
        · unfold sp_sz at hz; rw [if_neg (by omega), if_neg (by omega), if_neg h] at hz; cases hz
      unfold sp_sz at hz; rw [if_neg (by omega), if_neg (by omega), if_pos hlt] at hz
      refine ex_top tc2 ?_
      refine ex_st 3 (pc' := 35) (ls' := [(6, xi (↑(1000 * l + 100 * rr + mm))), (5, xi (↑(a + t))), (4, xi (↑n)), (0, xr 143), (1, xi (↑q)), (2, xi (↑p)), (3, xi (↑x))]) (st' := [xi (-33), xi (↑(1000 * l + 100 * rr + mm))]) rfl ?_
      refine ex_ic rfl (by first | omega | (constructor <;> omega) | assumption | exact x_bR _ | exact sp_facts_R hM hp hx _) (by decide) (fun (h6 : ¬ (↑(1000 * l + 100 * rr + mm) : Int) = (-33)) => ?_) (fun (h6 : ¬ ¬ (↑(1000 * l + 100 * rr + mm) : Int) = (-33)) => ?_)
      · refine ex_st 1 (pc' := 69) (ls' := [(6, xi (↑(1000 * l + 100 * rr + mm))), (5, xi (↑(a + t))), (4, xi (↑n)), (0, xr 143), (1, xi (↑q)), (2, xi (↑p)), (3, xi (↑x))]) (st' := [xi (↑(1000 * l + 100 * rr + mm))]) rfl ?_
        refine ex_if rfl (by first | omega | (constructor <;> omega) | assumption | exact x_bR _ | exact sp_facts_R hM hp hx _) (fun (h7 : ((0 : Int)) ≤ (↑(1000 * l + 100 * rr + mm) : Int)) => ?_) (fun (h7 : ¬ ((0 : Int)) ≤ (↑(1000 * l + 100 * rr + mm) : Int)) => ?_)
        · refine ex_st 3 (pc' := 157) (ls' := [(6, xi (↑(1000 * l + 100 * rr + mm))), (5, xi (↑(a + t))), (4, xi (↑n)), (0, xr 143), (1, xi (↑q)), (2, xi (↑p)), (3, xi (↑x))]) (st' := [xi 1000, xi (↑(1000 * l + 100 * rr + mm)), xr 143]) rfl ?_
          refine ex_idivN (a := ((1000 * l + 100 * rr + mm))) (b := 1000) rfl (by omega) (by decide) (by decide) ?_
          refine ex_st 2 (pc' := 160) (ls' := [(6, xi (↑(1000 * l + 100 * rr + mm))), (5, xi (↑(a + t))), (4, xi (↑n)), (0, xr 143), (1, xi (↑q)), (2, xi (↑p)), (3, xi (↑x))]) (st' := [xi (↑x), xi (↑p), xi (↑(((1000 * l + 100 * rr + mm)) / 1000)), xr 143]) rfl ?_
          rw [show (1000 * l + 100 * rr + mm) / 1000 = l by omega]
          refine ex_call (ct_m_factOf (hM.fr (I' := I) (fun k j hk => hF k j (by unfold x_ms at hk; omega))) hp hx hl) (by decide) rfl ⟨rfl, rfl, rfl⟩ ⟨Nat.le_of_ble_eq_true rfl, rfl, rfl⟩ (Nat.le_of_ble_eq_true rfl) rfl ?_
          refine ex_st 3 (pc' := 169) (ls' := [(7, xi ((sp_facts p (kd p) (vv p) x egg se l))), (6, xi (↑(1000 * l + 100 * rr + mm))), (5, xi (↑(a + t))), (4, xi (↑n)), (0, xr 143), (1, xi (↑q)), (2, xi (↑p)), (3, xi (↑x))]) (st' := [xi 100, xi (↑(1000 * l + 100 * rr + mm))]) rfl ?_
          refine ex_idivN (a := ((1000 * l + 100 * rr + mm))) (b := 100) rfl (by omega) (by decide) (by decide) ?_
          refine ex_st 1 (pc' := 172) (ls' := [(7, xi ((sp_facts p (kd p) (vv p) x egg se l))), (6, xi (↑(1000 * l + 100 * rr + mm))), (5, xi (↑(a + t))), (4, xi (↑n)), (0, xr 143), (1, xi (↑q)), (2, xi (↑p)), (3, xi (↑x))]) (st' := [xi 10, xi (↑(((1000 * l + 100 * rr + mm)) / 100))]) rfl ?_
          refine ex_iremN (a := ((((1000 * l + 100 * rr + mm)) / 100))) (b := 10) rfl (by omega) (by decide) (by decide) ?_
          refine ex_st 5 (pc' := 183) (ls' := [(8, xi (↑(((((1000 * l + 100 * rr + mm)) / 100)) % 10))), (7, xi ((sp_facts p (kd p) (vv p) x egg se l))), (6, xi (↑(1000 * l + 100 * rr + mm))), (5, xi (↑(a + t))), (4, xi (↑n)), (0, xr 143), (1, xi (↑q)), (2, xi (↑p)), (3, xi (↑x))]) (st' := [xi (↑(((((1000 * l + 100 * rr + mm)) / 100)) % 10)), xi (↑n), xr 160]) rfl ?_
          rw [show (1000 * l + 100 * rr + mm) / 100 % 10 = rr by omega]
          refine ex_if rfl (by first | omega | (constructor <;> omega) | assumption | exact x_bR _ | exact sp_facts_R hM hp hx _) (fun (h8 : ¬ (↑rr : Int) = 0) => ?_) (fun (h8 : ¬ ¬ (↑rr : Int) = 0) => ?_)
          · refine ex_st 2 (pc' := 207) (ls' := [(8, xi (↑rr)), (7, xi ((sp_facts p (kd p) (vv p) x egg se l))), (6, xi (↑(1000 * l + 100 * rr + mm))), (5, xi (↑(a + t))), (4, xi (↑n)), (0, xr 143), (1, xi (↑q)), (2, xi (↑p)), (3, xi (↑x))]) (st' := [xi 1, xi (↑rr), xi (↑n), xr 160]) rfl ?_
            refine ex_ic rfl (by first | omega | (constructor <;> omega) | assumption | exact x_bR _ | exact sp_facts_R hM hp hx _) (by decide) (fun (h9 : ¬ (↑rr : Int) = 1) => ?_) (fun (h9 : ¬ ¬ (↑rr : Int) = 1) => ?_)
            · refine ex_st 3 (pc' := 234) (ls' := [(8, xi (↑rr)), (7, xi ((sp_facts p (kd p) (vv p) x egg se l))), (6, xi (↑(1000 * l + 100 * rr + mm))), (5, xi (↑(a + t))), (4, xi (↑n)), (0, xr 143), (1, xi (↑q)), (2, xi (↑p)), (3, xi (↑x))]) (st' := [xi 100, xi (↑(1000 * l + 100 * rr + mm)), xi ((sp_facts p (kd p) (vv p) x egg se l)), xi (↑n), xr 160]) rfl ?_
              refine ex_iremN (a := ((1000 * l + 100 * rr + mm))) (b := 100) rfl (by omega) (by decide) (by decide) ?_
              rw [show (1000 * l + 100 * rr + mm) % 100 = mm by omega]
              refine ex_ic rfl (by first | omega | (constructor <;> omega) | assumption | exact x_bR _ | exact sp_facts_R hM hp hx _) (by first | omega | (constructor <;> omega) | assumption | exact x_bR _ | exact sp_facts_R hM hp hx _) (fun (h10 : ((sp_facts p (kd p) (vv p) x egg se l)) ≤ (↑mm : Int)) => ?_) (fun (h10 : ¬ ((sp_facts p (kd p) (vv p) x egg se l)) ≤ (↑mm : Int)) => ?_)
              · refine ex_st 1 (pc' := 243) (ls' := [(8, xi (↑rr)), (7, xi ((sp_facts p (kd p) (vv p) x egg se l))), (6, xi (↑(1000 * l + 100 * rr + mm))), (5, xi (↑(a + t))), (4, xi (↑n)), (0, xr 143), (1, xi (↑q)), (2, xi (↑p)), (3, xi (↑x))]) (st' := [xi 0, xi (↑n), xr 160]) rfl ?_
                refine ex_bast (j := n) rfl (by decide) (rfl : xSH[160]? = some _) (by omega) (by omega) (by decide) (by first | (right; exact ⟨rfl, x_b01 _⟩) | (right; simp; done) | (right; refine ⟨rfl, ?_⟩; omega) | (left; refine ⟨rfl, ?_, ?_⟩ <;> omega)) ?_
                refine ex_st 3 (pc' := 11) (ls' := [(5, xi ((↑(a + t)) + 1)), (4, xi ((↑n) + 1)), (8, xi (↑rr)), (7, xi ((sp_facts p (kd p) (vv p) x egg se l))), (6, xi (↑(1000 * l + 100 * rr + mm))), (0, xr 143), (1, xi (↑q)), (2, xi (↑p)), (3, xi (↑x))]) (st' := []) rfl ?_
                have hbv : sp_test (sp_facts p (kd p) (vv p) x egg se) (cd (e + t)).toNat = false := by
                  rw [tc1, Int.toNat_natCast]; unfold sp_test; rw [show ((l * 3 + rr) * 100 + mm) / 100 % 3 = rr by omega, show ((l * 3 + rr) * 100 + mm) / 300 = l by omega, show ((l * 3 + rr) * 100 + mm) % 100 = mm by omega];  (first | (rw [if_pos (by omega)]) | (rw [if_neg (by omega), if_pos (by omega)]) | (rw [if_neg (by omega), if_neg (by omega)])); simp only [decide_eq_true_eq, decide_eq_false_iff_not]; omega
                refine ex_pm [(5, xi (↑(a + t) + 1)), (4, xi (↑n + 1)), (0, xr 143), (1, xi (↑q)), (2, xi (↑p)), (3, xi (↑x))] (fun i => by rcases i with _ | _ | _ | _ | _ | _ | _ | _ | _ | i <;> first | (right; rfl) | (left; rfl)) ?_
                have hst : sp_st1 (sp_facts p (kd p) (vv p) x egg se) (cd (e + t)) s = sp_test (sp_facts p (kd p) (vv p) x egg se) (cd (e + t)).toNat :: s := by unfold sp_st1; rw [if_neg (by omega), if_neg (by omega), if_neg (by omega)]
                refine lp_holds hM hp hx hq hfr hto hal hTC (fun k j hk => by (repeat rw [x_up_far (by omega)]); exact hF k j hk) (t + 1) (by omega) (sp_test (sp_facts p (kd p) (vv p) x egg se) (cd (e + t)).toNat :: s) (n + 1) (by simp only [List.length_cons]; omega) (by omega) ?_ (by rw [show e + (t + 1) = e + t + 1 by omega]; exact hz) (fun I' hh1 bb hh2 => kk I' hh1 bb ?_)
                · refine ⟨?_, hPL.fr (fun j hj => x_up_far (by omega))⟩
                  rw [hn, x_up_at, hbv]; rfl
                · rw [hst]; rw [show e + t + 1 = e + (t + 1) by omega]; exact hh2
              · refine ex_st 2 (pc' := 243) (ls' := [(8, xi (↑rr)), (7, xi ((sp_facts p (kd p) (vv p) x egg se l))), (6, xi (↑(1000 * l + 100 * rr + mm))), (5, xi (↑(a + t))), (4, xi (↑n)), (0, xr 143), (1, xi (↑q)), (2, xi (↑p)), (3, xi (↑x))]) (st' := [xi 1, xi (↑n), xr 160]) rfl ?_
                refine ex_bast (j := n) rfl (by decide) (rfl : xSH[160]? = some _) (by omega) (by omega) (by decide) (by first | (right; exact ⟨rfl, x_b01 _⟩) | (right; simp; done) | (right; refine ⟨rfl, ?_⟩; omega) | (left; refine ⟨rfl, ?_, ?_⟩ <;> omega)) ?_
                refine ex_st 3 (pc' := 11) (ls' := [(5, xi ((↑(a + t)) + 1)), (4, xi ((↑n) + 1)), (8, xi (↑rr)), (7, xi ((sp_facts p (kd p) (vv p) x egg se l))), (6, xi (↑(1000 * l + 100 * rr + mm))), (0, xr 143), (1, xi (↑q)), (2, xi (↑p)), (3, xi (↑x))]) (st' := []) rfl ?_
                have hbv : sp_test (sp_facts p (kd p) (vv p) x egg se) (cd (e + t)).toNat = true := by
                  rw [tc1, Int.toNat_natCast]; unfold sp_test; rw [show ((l * 3 + rr) * 100 + mm) / 100 % 3 = rr by omega, show ((l * 3 + rr) * 100 + mm) / 300 = l by omega, show ((l * 3 + rr) * 100 + mm) % 100 = mm by omega];  (first | (rw [if_pos (by omega)]) | (rw [if_neg (by omega), if_pos (by omega)]) | (rw [if_neg (by omega), if_neg (by omega)])); simp only [decide_eq_true_eq, decide_eq_false_iff_not]; omega
                refine ex_pm [(5, xi (↑(a + t) + 1)), (4, xi (↑n + 1)), (0, xr 143), (1, xi (↑q)), (2, xi (↑p)), (3, xi (↑x))] (fun i => by rcases i with _ | _ | _ | _ | _ | _ | _ | _ | _ | i <;> first | (right; rfl) | (left; rfl)) ?_
                have hst : sp_st1 (sp_facts p (kd p) (vv p) x egg se) (cd (e + t)) s = sp_test (sp_facts p (kd p) (vv p) x egg se) (cd (e + t)).toNat :: s := by unfold sp_st1; rw [if_neg (by omega), if_neg (by omega), if_neg (by omega)]
                refine lp_holds hM hp hx hq hfr hto hal hTC (fun k j hk => by (repeat rw [x_up_far (by omega)]); exact hF k j hk) (t + 1) (by omega) (sp_test (sp_facts p (kd p) (vv p) x egg se) (cd (e + t)).toNat :: s) (n + 1) (by simp only [List.length_cons]; omega) (by omega) ?_ (by rw [show e + (t + 1) = e + t + 1 by omega]; exact hz) (fun I' hh1 bb hh2 => kk I' hh1 bb ?_)
                · refine ⟨?_, hPL.fr (fun j hj => x_up_far (by omega))⟩
                  rw [hn, x_up_at, hbv]; rfl
                · rw [hst]; rw [show e + t + 1 = e + (t + 1) by omega]; exact hh2
            · refine ex_st 3 (pc' := 216) (ls' := [(8, xi (↑rr)), (7, xi ((sp_facts p (kd p) (vv p) x egg se l))), (6, xi (↑(1000 * l + 100 * rr + mm))), (5, xi (↑(a + t))), (4, xi (↑n)), (0, xr 143), (1, xi (↑q)), (2, xi (↑p)), (3, xi (↑x))]) (st' := [xi 100, xi (↑(1000 * l + 100 * rr + mm)), xi ((sp_facts p (kd p) (vv p) x egg se l)), xi (↑n), xr 160]) rfl ?_
              refine ex_iremN (a := ((1000 * l + 100 * rr + mm))) (b := 100) rfl (by omega) (by decide) (by decide) ?_
              rw [show (1000 * l + 100 * rr + mm) % 100 = mm by omega]
              refine ex_ic rfl (by first | omega | (constructor <;> omega) | assumption | exact x_bR _ | exact sp_facts_R hM hp hx _) (by first | omega | (constructor <;> omega) | assumption | exact x_bR _ | exact sp_facts_R hM hp hx _) (fun (h11 : ¬ ((sp_facts p (kd p) (vv p) x egg se l)) = (↑mm : Int)) => ?_) (fun (h11 : ¬ ¬ ((sp_facts p (kd p) (vv p) x egg se l)) = (↑mm : Int)) => ?_)
              · refine ex_st 2 (pc' := 243) (ls' := [(8, xi (↑rr)), (7, xi ((sp_facts p (kd p) (vv p) x egg se l))), (6, xi (↑(1000 * l + 100 * rr + mm))), (5, xi (↑(a + t))), (4, xi (↑n)), (0, xr 143), (1, xi (↑q)), (2, xi (↑p)), (3, xi (↑x))]) (st' := [xi 0, xi (↑n), xr 160]) rfl ?_
                refine ex_bast (j := n) rfl (by decide) (rfl : xSH[160]? = some _) (by omega) (by omega) (by decide) (by first | (right; exact ⟨rfl, x_b01 _⟩) | (right; simp; done) | (right; refine ⟨rfl, ?_⟩; omega) | (left; refine ⟨rfl, ?_, ?_⟩ <;> omega)) ?_
                refine ex_st 3 (pc' := 11) (ls' := [(5, xi ((↑(a + t)) + 1)), (4, xi ((↑n) + 1)), (8, xi (↑rr)), (7, xi ((sp_facts p (kd p) (vv p) x egg se l))), (6, xi (↑(1000 * l + 100 * rr + mm))), (0, xr 143), (1, xi (↑q)), (2, xi (↑p)), (3, xi (↑x))]) (st' := []) rfl ?_
                have hbv : sp_test (sp_facts p (kd p) (vv p) x egg se) (cd (e + t)).toNat = false := by
                  rw [tc1, Int.toNat_natCast]; unfold sp_test; rw [show ((l * 3 + rr) * 100 + mm) / 100 % 3 = rr by omega, show ((l * 3 + rr) * 100 + mm) / 300 = l by omega, show ((l * 3 + rr) * 100 + mm) % 100 = mm by omega];  (first | (rw [if_pos (by omega)]) | (rw [if_neg (by omega), if_pos (by omega)]) | (rw [if_neg (by omega), if_neg (by omega)])); simp only [decide_eq_true_eq, decide_eq_false_iff_not]; omega
                refine ex_pm [(5, xi (↑(a + t) + 1)), (4, xi (↑n + 1)), (0, xr 143), (1, xi (↑q)), (2, xi (↑p)), (3, xi (↑x))] (fun i => by rcases i with _ | _ | _ | _ | _ | _ | _ | _ | _ | i <;> first | (right; rfl) | (left; rfl)) ?_
                have hst : sp_st1 (sp_facts p (kd p) (vv p) x egg se) (cd (e + t)) s = sp_test (sp_facts p (kd p) (vv p) x egg se) (cd (e + t)).toNat :: s := by unfold sp_st1; rw [if_neg (by omega), if_neg (by omega), if_neg (by omega)]
                refine lp_holds hM hp hx hq hfr hto hal hTC (fun k j hk => by (repeat rw [x_up_far (by omega)]); exact hF k j hk) (t + 1) (by omega) (sp_test (sp_facts p (kd p) (vv p) x egg se) (cd (e + t)).toNat :: s) (n + 1) (by simp only [List.length_cons]; omega) (by omega) ?_ (by rw [show e + (t + 1) = e + t + 1 by omega]; exact hz) (fun I' hh1 bb hh2 => kk I' hh1 bb ?_)
                · refine ⟨?_, hPL.fr (fun j hj => x_up_far (by omega))⟩
                  rw [hn, x_up_at, hbv]; rfl
                · rw [hst]; rw [show e + t + 1 = e + (t + 1) by omega]; exact hh2
              · refine ex_st 2 (pc' := 243) (ls' := [(8, xi (↑rr)), (7, xi ((sp_facts p (kd p) (vv p) x egg se l))), (6, xi (↑(1000 * l + 100 * rr + mm))), (5, xi (↑(a + t))), (4, xi (↑n)), (0, xr 143), (1, xi (↑q)), (2, xi (↑p)), (3, xi (↑x))]) (st' := [xi 1, xi (↑n), xr 160]) rfl ?_
                refine ex_bast (j := n) rfl (by decide) (rfl : xSH[160]? = some _) (by omega) (by omega) (by decide) (by first | (right; exact ⟨rfl, x_b01 _⟩) | (right; simp; done) | (right; refine ⟨rfl, ?_⟩; omega) | (left; refine ⟨rfl, ?_, ?_⟩ <;> omega)) ?_
                refine ex_st 3 (pc' := 11) (ls' := [(5, xi ((↑(a + t)) + 1)), (4, xi ((↑n) + 1)), (8, xi (↑rr)), (7, xi ((sp_facts p (kd p) (vv p) x egg se l))), (6, xi (↑(1000 * l + 100 * rr + mm))), (0, xr 143), (1, xi (↑q)), (2, xi (↑p)), (3, xi (↑x))]) (st' := []) rfl ?_
                have hbv : sp_test (sp_facts p (kd p) (vv p) x egg se) (cd (e + t)).toNat = true := by
                  rw [tc1, Int.toNat_natCast]; unfold sp_test; rw [show ((l * 3 + rr) * 100 + mm) / 100 % 3 = rr by omega, show ((l * 3 + rr) * 100 + mm) / 300 = l by omega, show ((l * 3 + rr) * 100 + mm) % 100 = mm by omega];  (first | (rw [if_pos (by omega)]) | (rw [if_neg (by omega), if_pos (by omega)]) | (rw [if_neg (by omega), if_neg (by omega)])); simp only [decide_eq_true_eq, decide_eq_false_iff_not]; omega
                refine ex_pm [(5, xi (↑(a + t) + 1)), (4, xi (↑n + 1)), (0, xr 143), (1, xi (↑q)), (2, xi (↑p)), (3, xi (↑x))] (fun i => by rcases i with _ | _ | _ | _ | _ | _ | _ | _ | _ | i <;> first | (right; rfl) | (left; rfl)) ?_
                have hst : sp_st1 (sp_facts p (kd p) (vv p) x egg se) (cd (e + t)) s = sp_test (sp_facts p (kd p) (vv p) x egg se) (cd (e + t)).toNat :: s := by unfold sp_st1; rw [if_neg (by omega), if_neg (by omega), if_neg (by omega)]
                refine lp_holds hM hp hx hq hfr hto hal hTC (fun k j hk => by (repeat rw [x_up_far (by omega)]); exact hF k j hk) (t + 1) (by omega) (sp_test (sp_facts p (kd p) (vv p) x egg se) (cd (e + t)).toNat :: s) (n + 1) (by simp only [List.length_cons]; omega) (by omega) ?_ (by rw [show e + (t + 1) = e + t + 1 by omega]; exact hz) (fun I' hh1 bb hh2 => kk I' hh1 bb ?_)
                · refine ⟨?_, hPL.fr (fun j hj => x_up_far (by omega))⟩
                  rw [hn, x_up_at, hbv]; rfl
                · rw [hst]; rw [show e + t + 1 = e + (t + 1) by omega]; exact hh2
          · refine ex_st 3 (pc' := 192) (ls' := [(8, xi (↑rr)), (7, xi ((sp_facts p (kd p) (vv p) x egg se l))), (6, xi (↑(1000 * l + 100 * rr + mm))), (5, xi (↑(a + t))), (4, xi (↑n)), (0, xr 143), (1, xi (↑q)), (2, xi (↑p)), (3, xi (↑x))]) (st' := [xi 100, xi (↑(1000 * l + 100 * rr + mm)), xi ((sp_facts p (kd p) (vv p) x egg se l)), xi (↑n), xr 160]) rfl ?_
            refine ex_iremN (a := ((1000 * l + 100 * rr + mm))) (b := 100) rfl (by omega) (by decide) (by decide) ?_
            rw [show (1000 * l + 100 * rr + mm) % 100 = mm by omega]
            refine ex_ic rfl (by first | omega | (constructor <;> omega) | assumption | exact x_bR _ | exact sp_facts_R hM hp hx _) (by first | omega | (constructor <;> omega) | assumption | exact x_bR _ | exact sp_facts_R hM hp hx _) (fun (h12 : (↑mm : Int) ≤ ((sp_facts p (kd p) (vv p) x egg se l))) => ?_) (fun (h12 : ¬ (↑mm : Int) ≤ ((sp_facts p (kd p) (vv p) x egg se l))) => ?_)
            · refine ex_st 2 (pc' := 243) (ls' := [(8, xi (↑rr)), (7, xi ((sp_facts p (kd p) (vv p) x egg se l))), (6, xi (↑(1000 * l + 100 * rr + mm))), (5, xi (↑(a + t))), (4, xi (↑n)), (0, xr 143), (1, xi (↑q)), (2, xi (↑p)), (3, xi (↑x))]) (st' := [xi 0, xi (↑n), xr 160]) rfl ?_
              refine ex_bast (j := n) rfl (by decide) (rfl : xSH[160]? = some _) (by omega) (by omega) (by decide) (by first | (right; exact ⟨rfl, x_b01 _⟩) | (right; simp; done) | (right; refine ⟨rfl, ?_⟩; omega) | (left; refine ⟨rfl, ?_, ?_⟩ <;> omega)) ?_
              refine ex_st 3 (pc' := 11) (ls' := [(5, xi ((↑(a + t)) + 1)), (4, xi ((↑n) + 1)), (8, xi (↑rr)), (7, xi ((sp_facts p (kd p) (vv p) x egg se l))), (6, xi (↑(1000 * l + 100 * rr + mm))), (0, xr 143), (1, xi (↑q)), (2, xi (↑p)), (3, xi (↑x))]) (st' := []) rfl ?_
              have hbv : sp_test (sp_facts p (kd p) (vv p) x egg se) (cd (e + t)).toNat = false := by
                rw [tc1, Int.toNat_natCast]; unfold sp_test; rw [show ((l * 3 + rr) * 100 + mm) / 100 % 3 = rr by omega, show ((l * 3 + rr) * 100 + mm) / 300 = l by omega, show ((l * 3 + rr) * 100 + mm) % 100 = mm by omega];  (first | (rw [if_pos (by omega)]) | (rw [if_neg (by omega), if_pos (by omega)]) | (rw [if_neg (by omega), if_neg (by omega)])); simp only [decide_eq_true_eq, decide_eq_false_iff_not]; omega
              refine ex_pm [(5, xi (↑(a + t) + 1)), (4, xi (↑n + 1)), (0, xr 143), (1, xi (↑q)), (2, xi (↑p)), (3, xi (↑x))] (fun i => by rcases i with _ | _ | _ | _ | _ | _ | _ | _ | _ | i <;> first | (right; rfl) | (left; rfl)) ?_
              have hst : sp_st1 (sp_facts p (kd p) (vv p) x egg se) (cd (e + t)) s = sp_test (sp_facts p (kd p) (vv p) x egg se) (cd (e + t)).toNat :: s := by unfold sp_st1; rw [if_neg (by omega), if_neg (by omega), if_neg (by omega)]
              refine lp_holds hM hp hx hq hfr hto hal hTC (fun k j hk => by (repeat rw [x_up_far (by omega)]); exact hF k j hk) (t + 1) (by omega) (sp_test (sp_facts p (kd p) (vv p) x egg se) (cd (e + t)).toNat :: s) (n + 1) (by simp only [List.length_cons]; omega) (by omega) ?_ (by rw [show e + (t + 1) = e + t + 1 by omega]; exact hz) (fun I' hh1 bb hh2 => kk I' hh1 bb ?_)
              · refine ⟨?_, hPL.fr (fun j hj => x_up_far (by omega))⟩
                rw [hn, x_up_at, hbv]; rfl
              · rw [hst]; rw [show e + t + 1 = e + (t + 1) by omega]; exact hh2
            · refine ex_st 2 (pc' := 243) (ls' := [(8, xi (↑rr)), (7, xi ((sp_facts p (kd p) (vv p) x egg se l))), (6, xi (↑(1000 * l + 100 * rr + mm))), (5, xi (↑(a + t))), (4, xi (↑n)), (0, xr 143), (1, xi (↑q)), (2, xi (↑p)), (3, xi (↑x))]) (st' := [xi 1, xi (↑n), xr 160]) rfl ?_
              refine ex_bast (j := n) rfl (by decide) (rfl : xSH[160]? = some _) (by omega) (by omega) (by decide) (by first | (right; exact ⟨rfl, x_b01 _⟩) | (right; simp; done) | (right; refine ⟨rfl, ?_⟩; omega) | (left; refine ⟨rfl, ?_, ?_⟩ <;> omega)) ?_
              refine ex_st 3 (pc' := 11) (ls' := [(5, xi ((↑(a + t)) + 1)), (4, xi ((↑n) + 1)), (8, xi (↑rr)), (7, xi ((sp_facts p (kd p) (vv p) x egg se l))), (6, xi (↑(1000 * l + 100 * rr + mm))), (0, xr 143), (1, xi (↑q)), (2, xi (↑p)), (3, xi (↑x))]) (st' := []) rfl ?_
              have hbv : sp_test (sp_facts p (kd p) (vv p) x egg se) (cd (e + t)).toNat = true := by
                rw [tc1, Int.toNat_natCast]; unfold sp_test; rw [show ((l * 3 + rr) * 100 + mm) / 100 % 3 = rr by omega, show ((l * 3 + rr) * 100 + mm) / 300 = l by omega, show ((l * 3 + rr) * 100 + mm) % 100 = mm by omega];  (first | (rw [if_pos (by omega)]) | (rw [if_neg (by omega), if_pos (by omega)]) | (rw [if_neg (by omega), if_neg (by omega)])); simp only [decide_eq_true_eq, decide_eq_false_iff_not]; omega
              refine ex_pm [(5, xi (↑(a + t) + 1)), (4, xi (↑n + 1)), (0, xr 143), (1, xi (↑q)), (2, xi (↑p)), (3, xi (↑x))] (fun i => by rcases i with _ | _ | _ | _ | _ | _ | _ | _ | _ | i <;> first | (right; rfl) | (left; rfl)) ?_
              have hst : sp_st1 (sp_facts p (kd p) (vv p) x egg se) (cd (e + t)) s = sp_test (sp_facts p (kd p) (vv p) x egg se) (cd (e + t)).toNat :: s := by unfold sp_st1; rw [if_neg (by omega), if_neg (by omega), if_neg (by omega)]
              refine lp_holds hM hp hx hq hfr hto hal hTC (fun k j hk => by (repeat rw [x_up_far (by omega)]); exact hF k j hk) (t + 1) (by omega) (sp_test (sp_facts p (kd p) (vv p) x egg se) (cd (e + t)).toNat :: s) (n + 1) (by simp only [List.length_cons]; omega) (by omega) ?_ (by rw [show e + (t + 1) = e + t + 1 by omega]; exact hz) (fun I' hh1 bb hh2 => kk I' hh1 bb ?_)
              · refine ⟨?_, hPL.fr (fun j hj => x_up_far (by omega))⟩
                rw [hn, x_up_at, hbv]; rfl
              · rw [hst]; rw [show e + t + 1 = e + (t + 1) by omega]; exact hh2
        · exfalso; omega
      · exfalso; omega
termination_by len - t
decreasing_by all_goals omega
