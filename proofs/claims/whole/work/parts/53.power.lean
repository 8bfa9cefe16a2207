/-! pairs of calls: power, pivot, mean -/
theorem x_nb1 {a b : Bool} (h : a = !b) (hb : ¬ b = true) : a = true := by cases b <;> simp_all
theorem x_nb0 {a b : Bool} (h : a = !b) (hb : b = true) : a = false := by cases b <;> simp_all
theorem z_ob : ∀ s : Nat, s < 64 → ∀ a : Nat, a < 6 → ∀ p : Nat, p < 6 → (s ||| 2 ^ a).testBit p = (s.testBit p || decide (p = a)) := by decide +kernel
theorem z_ta : ∀ p : Nat, p < 64 → ∀ a : Nat, a < 6 → decide (p &&& 2 ^ a = 0) = !p.testBit a := by decide +kernel
theorem z_off : ∀ s : Nat, s < 64 → ∀ k : Nat, k < 6 → z_and (↑s) (z_xor (z_shl 1 (↑k)) (-1)) = ((sp_wo s (2 ^ k) : Nat) : Int) ∧ sp_wo s (2 ^ k) < 64 ∧ (s.testBit k = true → sp_bc s = sp_bc (sp_wo s (2 ^ k)) + 1) := by decide +kernel
theorem z_pwp : ∀ c : Nat, c < 7 → 0 < sp_pw c ∧ sp_pw c ≤ 64 := by decide +kernel
theorem z_fa2 : ∀ k : Nat, k < 7 → ∀ x : Nat, x < 7 → sp_fa x * sp_fa (k - 1 - x) ≤ 720 := by decide
theorem z_fap : ∀ c : Nat, c < 7 → 0 < sp_fa c ∧ sp_fa c ≤ 720 := by decide
theorem sp_vo_or {vt : Nat → Int} {s a : Nat} (hs : s < 64) (ha : a < 6) (h : s.testBit a = false) : ∀ n, n ≤ 6 → sp_vo vt (s ||| 2 ^ a) n = sp_vo vt s n + (if a < n then vt a else 0)
  | 0, _ => by simp [sp_vo]
  | n + 1, hn => by
    have ih := sp_vo_or (vt := vt) hs ha h n (by omega)
    have hb := z_ob s hs a ha n (by omega)
    by_cases e : n = a
    · subst e
      rw [h, decide_eq_true rfl, Bool.false_or] at hb
      rw [if_neg (by omega)] at ih
      simp only [sp_vo]
      rw [ih, if_pos hb, if_neg (by rw [h]; decide), if_pos (by omega)]
    · rw [decide_eq_false e, Bool.or_false] at hb
      simp only [sp_vo]
      rw [ih, hb]
      by_cases h2 : a < n
      · rw [if_pos h2, if_pos (show a < n + 1 by omega), Int.add_right_comm]
      · rw [if_neg h2, if_neg (show ¬ a < n + 1 by omega), Int.add_zero, Int.add_zero]
theorem sp_turn_eq {vt : Nat → Int} {c p a s : Nat} (hp : p < 64) (hs : s < 64) (hac : a < c) (hc : c ≤ 6) : sp_turn vt c p a s = decide (p.testBit a = true ∧ sp_wo s p = 0 ∧ s.testBit a = false ∧ ¬ sp_vo vt p c < 2 * sp_vo vt s c ∧ sp_vo vt p c < 2 * (sp_vo vt s c + vt a)) := by
  have h1 := z_ta p hp a (by omega)
  have h2 := z_ta s hs a (by omega)
  rw [Bool.eq_iff_iff]
  simp only [sp_turn, sp_most, Bool.and_eq_true, decide_eq_true_eq, Bool.not_eq_true', decide_eq_false_iff_not]
  constructor
  · rintro ⟨⟨g1, g2, g3⟩, g4, g5⟩
    have k1 : p.testBit a = true := by
      cases hpt : p.testBit a with
      | true => rfl
      | false => rw [hpt] at h1; exact absurd (by simpa using h1) g1
    have k2 : s.testBit a = false := by
      cases hst : s.testBit a with
      | false => rfl
      | true => rw [hst, g2] at h2; simp at h2
    rw [sp_vo_or hs (by omega) k2 c hc, if_pos hac] at g5
    exact ⟨k1, g3, k2, g4, g5⟩
  · rintro ⟨k1, g3, k2, g4, g5⟩
    refine ⟨⟨fun e => ?_, ?_, g3⟩, g4, ?_⟩
    · rw [e, k1] at h1; simp at h1
    · rw [k2] at h2; simpa using h2
    · rw [sp_vo_or hs (by omega) k2 c hc, if_pos hac]; exact g5
theorem sp_cnt_0 {f : Nat → Bool} : ∀ n, (∀ s, s < n → f s = false) → sp_cnt f n = 0
  | 0, _ => rfl
  | n + 1, h => by
    simp only [sp_cnt]
    rw [sp_cnt_0 n (fun s hs => h s (by omega)), h n (by omega)]
    rfl
theorem sp_rt_0 {vt : Nat → Int} {c p a : Nat} : ∀ n, (∀ s, s < n → sp_turn vt c p a s = false) → sp_rt vt c p a n = 0
  | 0, _ => rfl
  | n + 1, h => by
    simp only [sp_rt]
    rw [sp_rt_0 n (fun s hs => h s (by omega)), h n (by omega)]
    rfl
theorem sp_rt_bd {vt : Nat → Int} {c p a : Nat} : ∀ n : Nat, 0 ≤ sp_rt vt c p a n ∧ sp_rt vt c p a n ≤ 720 * n
  | 0 => by simp [sp_rt]
  | n + 1 => by
    have ih := sp_rt_bd (vt := vt) (c := c) (p := p) (a := a) n
    have h1 := z_fa2 (sp_bc p) (by have := sp_bc_le p; omega) (sp_bc n) (by have := sp_bc_le n; omega)
    have h2 : ((sp_fa (sp_bc n) : Nat) : Int) * ((sp_fa (sp_bc p - 1 - sp_bc n) : Nat) : Int) = ((sp_fa (sp_bc n) * sp_fa (sp_bc p - 1 - sp_bc n) : Nat) : Int) := by simp
    simp only [sp_rt]
    split
    · rw [h2]; omega
    · omega
theorem sp_away {vt : Nat → Int} {c p a s : Nat} (hp : p < 64) (ha : a < 6) (h : p.testBit a = false) : sp_turn vt c p a s = false := by
  have h1 := z_ta p hp a ha
  rw [h] at h1
  have h2 : p &&& 2 ^ a = 0 := by simpa using h1
  unfold sp_turn
  rw [decide_eq_false (fun q => q.1 h2)]
  rfl
theorem sp_frac_00 {b : Nat} : sp_frac 0 b 0 = z_i2l 0 := by unfold sp_frac; rw [if_pos rfl, Int.zero_tdiv]
theorem sp_frac_01 {b : Nat} (hb : 0 < b) : sp_frac 0 b 1 = z_i2l 1 := by
  unfold sp_frac
  rw [if_neg (by decide), show (0 : Int).natAbs = 0 from rfl, Nat.gcd_zero_right, Int.tdiv_self (by omega)]
theorem sp_like_bd {k : Nat} {v : Int} {row : Nat → Int} {sum : Int} {a : Nat} {egg : Int} {se : Nat} (hv : 0 ≤ v ∧ v ≤ 9) (hr : ∀ j, j < 4 → 0 ≤ row j ∧ row j ≤ 9) (hs : -1000 ≤ sum ∧ sum ≤ 1000) (he : 0 ≤ egg ∧ egg ≤ 99) : -1100 ≤ sp_like k v row sum a egg se ∧ sp_like k v row sum a egg se ≤ 1100 := by
  have h1 := hr (se % 4) (by omega)
  have h2 : sum.tdiv 2 = if 0 ≤ sum then sum / 2 else -((-sum) / 2) := by
    split
    · rw [Int.tdiv_eq_ediv_of_nonneg (by assumption)]
    · have h3 : sum = -(-sum) := by omega
      rw [h3, Int.neg_tdiv, Int.tdiv_eq_ediv_of_nonneg (by omega), Int.neg_neg]
  have h4 : 0 ≤ sp_ev v a ∧ sp_ev v a ≤ 9 := by unfold sp_ev; split <;> omega
  unfold sp_like
  rw [h2]
  repeat' split
  all_goals constructor <;> omega
theorem sp_lk_bd {I0 : Nat → Nat → Int} {c : Nat} {kd : Nat → Nat} {vv vo aw : Nat → Int} {ba ro : Nat → Nat → Int} {egg : Int} {se : Nat} (hM : MW I0 c kd vv vo aw ba ro egg se) {cc : Nat} {cd we : Nat → Int} {en : Nat → Nat} {qv : Int} (hT : MT I0 cc cd we en qv) {p x : Nat} (hp : p < c) (hx : x < 5) (hv9 : 0 ≤ vv p ∧ vv p ≤ 9) (hr9 : ∀ j, j < 4 → 0 ≤ ro p j ∧ ro p j ≤ 9) : -1100 ≤ sp_lk kd vv ba ro egg se cd we en cc p x ∧ sp_lk kd vv ba ro egg se cd we en cc p x ≤ 1100 := by
  obtain ⟨hc, hc6, hegg, hegb, hse, hse5, hab, hp8⟩ := id hM
  obtain ⟨g1, g2, g3, g4, g5, g6, g7, g8⟩ := hp8 p hp
  have hsw := sp_sw_bd (fa := (sp_facts p (kd p) (vv p) x egg se)) (cd := cd) (we := we) (en := en) cc 0 0 (fun j hj => hT.2.1 j (by omega))
  have hcc := hT.1
  have h7 := (g7 x hx).2
  exact sp_like_bd hv9 hr9 (by constructor <;> omega) hegb
theorem sp_mulbd {a b : Int} (ha : 0 ≤ a ∧ a ≤ 9) (hb : -1100 ≤ b ∧ b ≤ 1100) : -9900 ≤ a * b ∧ a * b ≤ 9900 := by
  rcases (show a = 0 ∨ a = 1 ∨ a = 2 ∨ a = 3 ∨ a = 4 ∨ a = 5 ∨ a = 6 ∨ a = 7 ∨ a = 8 ∨ a = 9 by omega) with rfl | rfl | rfl | rfl | rfl | rfl | rfl | rfl | rfl | rfl <;> constructor <;> omega
theorem sp_lb_bd {lk : Nat → Nat → Int} {vt : Nat → Int} {s a : Nat} : ∀ n : Nat, (∀ p, p < n → 0 ≤ vt p ∧ vt p ≤ 9) → (∀ p, p < n → -1100 ≤ lk p a ∧ lk p a ≤ 1100) → -9900 * (n : Int) ≤ sp_lb lk vt s a n ∧ sp_lb lk vt s a n ≤ 9900 * n
  | 0, _, _ => by simp [sp_lb]
  | n + 1, h1, h2 => by
    have ih := sp_lb_bd (s := s) n (fun p hp => h1 p (by omega)) (fun p hp => h2 p (by omega))
    have h3 := sp_mulbd (h1 n (by omega)) (h2 n (by omega))
    simp only [sp_lb]
    split <;> omega

set_option maxRecDepth 8000 in
set_option maxHeartbeats 1000000 in
theorem lp_mt0 {sc : List Int} {I : Nat → Nat → Int} {L : Nat → Nat → Int64} {c : Nat} {kd : Nat → Nat} {vv vo aw : Nat → Int} {ba ro : Nat → Nat → Int} {egg : Int} {se : Nat} (hM : MW I c kd vv vo aw ba ro egg se) {p a : Nat} (hp6 : p < 64) (ha : a < c) (hpa : p.testBit a = true) (i : Nat) (hi : i ≤ sp_pw c) : x_Ex sc 27 xM_m_turned 27 [(7, xi (↑i)), (6, xi (↑(sp_cnt (sp_turn vo c p a) i))), (5, xi (sp_vo vo p c)), (4, xi ((↑(sp_bc p) - 1))), (3, xi (↑p)), (0, xr 143), (1, xi (↑a)), (2, xi 0)] [] (xSH, I, L) (fun r m' => r = some (xi (((sp_cnt (sp_turn vo c p a) (sp_pw c) : Nat) : Int))) ∧ m' = (xSH, I, L)) := by
  obtain ⟨hc, hc6, hegg, hegb, hse, hse5, hab, hp8⟩ := id hM
  have hpw := z_pw c (by omega)
  have hva := (hp8 a ha).2.2.2.2
  have g1 := sp_vo_bd (vt := vo) (s := p) (n := c) (fun q hq => (hp8 q hq).2.2.2.2.2.1)
  have hbl := sp_bc_le i
  refine ex_st 4 (pc' := 34) (ls' := [(7, xi (↑i)), (6, xi (↑(sp_cnt (sp_turn vo c p a) i))), (5, xi (sp_vo vo p c)), (4, xi ((↑(sp_bc p) - 1))), (3, xi (↑p)), (0, xr 143), (1, xi (↑a)), (2, xi 0)]) (st' := [xi (I 143 0), xi 1, xi (↑i)]) rfl ?_
  rw [hc]
  refine ex_st 1 (pc' := 35) (ls' := [(7, xi (↑i)), (6, xi (↑(sp_cnt (sp_turn vo c p a) i))), (5, xi (sp_vo vo p c)), (4, xi ((↑(sp_bc p) - 1))), (3, xi (↑p)), (0, xr 143), (1, xi (↑a)), (2, xi 0)]) (st' := [xi (z_shl 1 (↑c)), xi (↑i)]) rfl ?_
  rw [hpw.1]
  refine ex_ic rfl (by first | omega | (constructor <;> omega) | assumption | exact x_bR _ | (constructor <;> (have := hva.2.1; omega))) (by first | omega | (constructor <;> omega) | assumption | exact x_bR _ | (constructor <;> (have := hva.2.1; omega))) (fun (h0 : (↑(sp_pw c) : Int) ≤ (↑i : Int)) => ?_) (fun (h0 : ¬ (↑(sp_pw c) : Int) ≤ (↑i : Int)) => ?_)
  · refine ex_st 1 (pc' := 141) (ls' := [(7, xi (↑i)), (6, xi (↑(sp_cnt (sp_turn vo c p a) i))), (5, xi (sp_vo vo p c)), (4, xi ((↑(sp_bc p) - 1))), (3, xi (↑p)), (0, xr 143), (1, xi (↑a)), (2, xi 0)]) (st' := [xi (↑(sp_cnt (sp_turn vo c p a) i))]) rfl ?_
    refine ex_reti rfl rfl ?_
    obtain rfl : i = sp_pw c := by omega
    exact ⟨rfl, rfl⟩
  · refine ex_st 5 (pc' := 44) (ls' := [(7, xi (↑i)), (6, xi (↑(sp_cnt (sp_turn vo c p a) i))), (5, xi (sp_vo vo p c)), (4, xi ((↑(sp_bc p) - 1))), (3, xi (↑p)), (0, xr 143), (1, xi (↑a)), (2, xi 0)]) (st' := [xi (z_and (↑i) (z_xor (↑p) (-1)))]) rfl ?_
    have hwo := (z_nt i (by omega) p hp6).2
    rw [(z_nt i (by omega) p hp6).1]
    refine ex_if rfl (by first | omega | (constructor <;> omega) | assumption | exact x_bR _ | (constructor <;> (have := hva.2.1; omega))) (fun (h1 : ¬ (↑(sp_wo i p) : Int) = 0) => ?_) (fun (h1 : ¬ ¬ (↑(sp_wo i p) : Int) = 0) => ?_)
    · refine ex_st 2 (pc' := 27) (ls' := [(7, xi ((↑i) + 1)), (6, xi (↑(sp_cnt (sp_turn vo c p a) i))), (5, xi (sp_vo vo p c)), (4, xi ((↑(sp_bc p) - 1))), (3, xi (↑p)), (0, xr 143), (1, xi (↑a)), (2, xi 0)]) (st' := []) rfl ?_
      have e9 : sp_turn vo c p a i = false := by
        rw [sp_turn_eq hp6 (by omega) ha (by omega)]
        exact decide_eq_false (fun q => by obtain ⟨q1, q2, q3, q4, q5⟩ := q; first | omega | exact absurd (q3.symm.trans (show i.testBit a = true by assumption)) (by decide))
      have h9 := lp_mt0 (sc := sc) (L := L) hM hp6 ha hpa (i + 1) (by omega)
      rw [show sp_cnt (sp_turn vo c p a) (i + 1) = sp_cnt (sp_turn vo c p a) i from by show _ + _ = _; rw [e9]; rfl] at h9
      exact ex_pm _ (fun i => by rcases i with _ | _ | _ | _ | _ | _ | _ | _ | _ | i <;> first | (right; rfl) | (left; rfl)) h9
    · refine ex_st 3 (pc' := 51) (ls' := [(7, xi (↑i)), (6, xi (↑(sp_cnt (sp_turn vo c p a) i))), (5, xi (sp_vo vo p c)), (4, xi ((↑(sp_bc p) - 1))), (3, xi (↑p)), (0, xr 143), (1, xi (↑a)), (2, xi 0)]) (st' := [xi (↑a), xi (↑i), xr 143]) rfl ?_
      refine ex_call (ct_m_has (s := i) (k := a) (by omega) (by omega)) (by decide) rfl ⟨rfl, rfl, rfl⟩ ⟨Nat.le_of_ble_eq_true rfl, rfl, rfl⟩ (Nat.le_of_ble_eq_true rfl) rfl ?_
      refine ex_beq rfl (fun h2 => ?_) (fun h2 => ?_)
      · refine ex_st 2 (pc' := 63) (ls' := [(7, xi (↑i)), (6, xi (↑(sp_cnt (sp_turn vo c p a) i))), (5, xi (sp_vo vo p c)), (4, xi ((↑(sp_bc p) - 1))), (3, xi (↑p)), (0, xr 143), (1, xi (↑a)), (2, xi 0)]) (st' := [xi (↑i), xr 143]) rfl ?_
        have g2 := sp_vo_bd (vt := vo) (s := i) (n := c) (fun q hq => (hp8 q hq).2.2.2.2.2.1)
        refine ex_call (ct_m_votesOf hM (s := i) (by omega)) (by decide) rfl ⟨rfl, rfl, rfl⟩ ⟨Nat.le_of_ble_eq_true rfl, rfl, rfl⟩ (Nat.le_of_ble_eq_true rfl) rfl ?_
        refine ex_st 5 (pc' := 74) (ls' := [(8, xi (sp_vo vo i c)), (7, xi (↑i)), (6, xi (↑(sp_cnt (sp_turn vo c p a) i))), (5, xi (sp_vo vo p c)), (4, xi ((↑(sp_bc p) - 1))), (3, xi (↑p)), (0, xr 143), (1, xi (↑a)), (2, xi 0)]) (st' := [xi (sp_vo vo p c), xi (2 * (sp_vo vo i c))]) rfl ?_
        refine ex_ic rfl (by first | omega | (constructor <;> omega) | assumption | exact x_bR _ | (constructor <;> (have := hva.2.1; omega))) (by first | omega | (constructor <;> omega) | assumption | exact x_bR _ | (constructor <;> (have := hva.2.1; omega))) (fun (h3 : (sp_vo vo p c) < (2 * (sp_vo vo i c))) => ?_) (fun (h3 : ¬ (sp_vo vo p c) < (2 * (sp_vo vo i c))) => ?_)
        · refine ex_st 2 (pc' := 27) (ls' := [(7, xi ((↑i) + 1)), (8, xi (sp_vo vo i c)), (6, xi (↑(sp_cnt (sp_turn vo c p a) i))), (5, xi (sp_vo vo p c)), (4, xi ((↑(sp_bc p) - 1))), (3, xi (↑p)), (0, xr 143), (1, xi (↑a)), (2, xi 0)]) (st' := []) rfl ?_
          have e9 : sp_turn vo c p a i = false := by
            rw [sp_turn_eq hp6 (by omega) ha (by omega)]
            exact decide_eq_false (fun q => by obtain ⟨q1, q2, q3, q4, q5⟩ := q; first | omega | exact absurd (q3.symm.trans (show i.testBit a = true by assumption)) (by decide))
          have h9 := lp_mt0 (sc := sc) (L := L) hM hp6 ha hpa (i + 1) (by omega)
          rw [show sp_cnt (sp_turn vo c p a) (i + 1) = sp_cnt (sp_turn vo c p a) i from by show _ + _ = _; rw [e9]; rfl] at h9
          exact ex_pm _ (fun i => by rcases i with _ | _ | _ | _ | _ | _ | _ | _ | _ | i <;> first | (right; rfl) | (left; rfl)) h9
        · refine ex_st 5 (pc' := 85) (ls' := [(8, xi (sp_vo vo i c)), (7, xi (↑i)), (6, xi (↑(sp_cnt (sp_turn vo c p a) i))), (5, xi (sp_vo vo p c)), (4, xi ((↑(sp_bc p) - 1))), (3, xi (↑p)), (0, xr 143), (1, xi (↑a)), (2, xi 0)]) (st' := [xi (↑a), xr 146, xi (sp_vo vo i c), xi 2]) rfl ?_
          refine ex_iald (j := a) rfl (by decide) (rfl : xSH[146]? = some _) (by omega) (by omega) (by decide) ?_
          rw [hva.1]
          refine ex_st 3 (pc' := 90) (ls' := [(8, xi (sp_vo vo i c)), (7, xi (↑i)), (6, xi (↑(sp_cnt (sp_turn vo c p a) i))), (5, xi (sp_vo vo p c)), (4, xi ((↑(sp_bc p) - 1))), (3, xi (↑p)), (0, xr 143), (1, xi (↑a)), (2, xi 0)]) (st' := [xi (sp_vo vo p c), xi (2 * ((sp_vo vo i c) + (vo a)))]) rfl ?_
          refine ex_ic rfl (by first | omega | (constructor <;> omega) | assumption | exact x_bR _ | (constructor <;> (have := hva.2.1; omega))) (by first | omega | (constructor <;> omega) | assumption | exact x_bR _ | (constructor <;> (have := hva.2.1; omega))) (fun (h4 : (sp_vo vo p c) < (2 * ((sp_vo vo i c) + (vo a)))) => ?_) (fun (h4 : ¬ (sp_vo vo p c) < (2 * ((sp_vo vo i c) + (vo a)))) => ?_)
          · refine ex_st 2 (pc' := 99) (ls' := [(8, xi (sp_vo vo i c)), (7, xi (↑i)), (6, xi (↑(sp_cnt (sp_turn vo c p a) i))), (5, xi (sp_vo vo p c)), (4, xi ((↑(sp_bc p) - 1))), (3, xi (↑p)), (0, xr 143), (1, xi (↑a)), (2, xi 0)]) (st' := [xi 0, xi (↑(sp_cnt (sp_turn vo c p a) i))]) rfl ?_
            refine ex_st 1 (pc' := 129) (ls' := [(8, xi (sp_vo vo i c)), (7, xi (↑i)), (6, xi (↑(sp_cnt (sp_turn vo c p a) i))), (5, xi (sp_vo vo p c)), (4, xi ((↑(sp_bc p) - 1))), (3, xi (↑p)), (0, xr 143), (1, xi (↑a)), (2, xi 0)]) (st' := [xi (↑(sp_cnt (sp_turn vo c p a) i))]) rfl ?_
            refine ex_st 5 (pc' := 27) (ls' := [(7, xi ((↑i) + 1)), (6, xi ((↑(sp_cnt (sp_turn vo c p a) i)) + 1)), (8, xi (sp_vo vo i c)), (5, xi (sp_vo vo p c)), (4, xi ((↑(sp_bc p) - 1))), (3, xi (↑p)), (0, xr 143), (1, xi (↑a)), (2, xi 0)]) (st' := []) rfl ?_
            have e9 : sp_turn vo c p a i = true := by
              rw [sp_turn_eq hp6 (by omega) ha (by omega)]
              exact decide_eq_true ⟨hpa, by omega, by simpa using (show ¬ i.testBit a = true by assumption), by omega, by omega⟩
            have h9 := lp_mt0 (sc := sc) (L := L) hM hp6 ha hpa (i + 1) (by omega)
            rw [show sp_cnt (sp_turn vo c p a) (i + 1) = sp_cnt (sp_turn vo c p a) i + 1 from by show _ + _ = _; rw [e9]; rfl] at h9
            exact ex_pm _ (fun i => by rcases i with _ | _ | _ | _ | _ | _ | _ | _ | _ | i <;> first | (right; rfl) | (left; rfl)) h9
          · refine ex_st 3 (pc' := 27) (ls' := [(7, xi ((↑i) + 1)), (8, xi (sp_vo vo i c)), (6, xi (↑(sp_cnt (sp_turn vo c p a) i))), (5, xi (sp_vo vo p c)), (4, xi ((↑(sp_bc p) - 1))), (3, xi (↑p)), (0, xr 143), (1, xi (↑a)), (2, xi 0)]) (st' := []) rfl ?_
            have e9 : sp_turn vo c p a i = false := by
              rw [sp_turn_eq hp6 (by omega) ha (by omega)]
              exact decide_eq_false (fun q => by obtain ⟨q1, q2, q3, q4, q5⟩ := q; first | omega | exact absurd (q3.symm.trans (show i.testBit a = true by assumption)) (by decide))
            have h9 := lp_mt0 (sc := sc) (L := L) hM hp6 ha hpa (i + 1) (by omega)
            rw [show sp_cnt (sp_turn vo c p a) (i + 1) = sp_cnt (sp_turn vo c p a) i from by show _ + _ = _; rw [e9]; rfl] at h9
            exact ex_pm _ (fun i => by rcases i with _ | _ | _ | _ | _ | _ | _ | _ | _ | i <;> first | (right; rfl) | (left; rfl)) h9
      · refine ex_st 3 (pc' := 27) (ls' := [(7, xi ((↑i) + 1)), (6, xi (↑(sp_cnt (sp_turn vo c p a) i))), (5, xi (sp_vo vo p c)), (4, xi ((↑(sp_bc p) - 1))), (3, xi (↑p)), (0, xr 143), (1, xi (↑a)), (2, xi 0)]) (st' := []) rfl ?_
        have e9 : sp_turn vo c p a i = false := by
          rw [sp_turn_eq hp6 (by omega) ha (by omega)]
          exact decide_eq_false (fun q => by obtain ⟨q1, q2, q3, q4, q5⟩ := q; first | omega | exact absurd (q3.symm.trans (show i.testBit a = true by assumption)) (by decide))
        have h9 := lp_mt0 (sc := sc) (L := L) hM hp6 ha hpa (i + 1) (by omega)
        rw [show sp_cnt (sp_turn vo c p a) (i + 1) = sp_cnt (sp_turn vo c p a) i from by show _ + _ = _; rw [e9]; rfl] at h9
        exact ex_pm _ (fun i => by rcases i with _ | _ | _ | _ | _ | _ | _ | _ | _ | i <;> first | (right; rfl) | (left; rfl)) h9
termination_by sp_pw c - i
decreasing_by all_goals (omega)
theorem ct_m_turned0 {sc : List Int} {I : Nat → Nat → Int} {L : Nat → Nat → Int64} {c : Nat} {kd : Nat → Nat} {vv vo aw : Nat → Int} {ba ro : Nat → Nat → Int} {egg : Int} {se : Nat} (hM : MW I c kd vv vo aw ba ro egg se) {p a g : Nat} (hg1 : I 143 1 = (g : Int)) (hg : g < 64) (hpr : sp_pr c g = p) (ha : a < c) (hpa : p.testBit a = true) : x_CE sc 28 xN_m_turned [xr 143, xi (↑a), xi 0] (xSH, I, L) (some (xi (((sp_cnt (sp_turn vo c p a) (sp_pw c) : Nat) : Int)))) (xSH, I, L) := by
  obtain ⟨hc, hc6, hegg, hegb, hse, hse5, hab, hp8⟩ := id hM
  have hp6 : p < 64 := by rw [← hpr]; exact (z_pr c (by omega) g hg).2.1
  have hct := ct_m_present (sc := sc) (L := L) hc (by omega) hg1 hg
  rw [hpr] at hct
  refine x_CE.of (M := xM_m_turned) rfl (Nat.le_of_ble_eq_true rfl) ?_
  refine ex_st 1 (pc' := 1) (ls' := [(0, xr 143), (1, xi (↑a)), (2, xi 0)]) (st' := [xr 143]) rfl ?_
  refine ex_call hct (by decide) rfl ⟨rfl, rfl, rfl⟩ ⟨Nat.le_of_ble_eq_true rfl, rfl, rfl⟩ (Nat.le_of_ble_eq_true rfl) rfl ?_
  refine ex_st 3 (pc' := 7) (ls' := [(3, xi (↑p)), (0, xr 143), (1, xi (↑a)), (2, xi 0)]) (st' := [xi (↑p), xr 143]) rfl ?_
  refine ex_call (ct_m_bits hp6) (by decide) rfl ⟨rfl, rfl, rfl⟩ ⟨Nat.le_of_ble_eq_true rfl, rfl, rfl⟩ (Nat.le_of_ble_eq_true rfl) rfl ?_
  refine ex_st 5 (pc' := 16) (ls' := [(4, xi (↑(sp_bc p) - 1)), (3, xi (↑p)), (0, xr 143), (1, xi (↑a)), (2, xi 0)]) (st' := [xi (↑p), xr 143]) rfl ?_
  refine ex_call (ct_m_votesOf hM hp6) (by decide) rfl ⟨rfl, rfl, rfl⟩ ⟨Nat.le_of_ble_eq_true rfl, rfl, rfl⟩ (Nat.le_of_ble_eq_true rfl) rfl ?_
  refine ex_st 5 (pc' := 27) (ls' := [(7, xi 0), (6, xi 0), (5, xi (sp_vo vo p c)), (4, xi (↑(sp_bc p) - 1)), (3, xi (↑p)), (0, xr 143), (1, xi (↑a)), (2, xi 0)]) (st' := []) rfl ?_
  exact lp_mt0 hM hp6 ha hpa 0 (Nat.zero_le _)
set_option maxRecDepth 8000 in
set_option maxHeartbeats 1000000 in
theorem lp_mt1 {sc : List Int} {I : Nat → Nat → Int} {L : Nat → Nat → Int64} {c : Nat} {kd : Nat → Nat} {vv vo aw : Nat → Int} {ba ro : Nat → Nat → Int} {egg : Int} {se : Nat} (hM : MW I c kd vv vo aw ba ro egg se) {p a : Nat} (hp6 : p < 64) (ha : a < c) (hpa : p.testBit a = true) (i : Nat) (hi : i ≤ sp_pw c) (acc : Int) (hacc : acc = sp_rt vo c p a i) : x_Ex sc 27 xM_m_turned 27 [(7, xi (↑i)), (6, xi acc), (5, xi (sp_vo vo p c)), (4, xi ((↑(sp_bc p) - 1))), (3, xi (↑p)), (0, xr 143), (1, xi (↑a)), (2, xi 1)] [] (xSH, I, L) (fun r m' => r = some (xi (sp_rt vo c p a (sp_pw c))) ∧ m' = (xSH, I, L)) := by
  obtain ⟨hc, hc6, hegg, hegb, hse, hse5, hab, hp8⟩ := id hM
  have hpw := z_pw c (by omega)
  have hva := (hp8 a ha).2.2.2.2
  have g1 := sp_vo_bd (vt := vo) (s := p) (n := c) (fun q hq => (hp8 q hq).2.2.2.2.2.1)
  have hbl := sp_bc_le i
  refine ex_st 4 (pc' := 34) (ls' := [(7, xi (↑i)), (6, xi acc), (5, xi (sp_vo vo p c)), (4, xi ((↑(sp_bc p) - 1))), (3, xi (↑p)), (0, xr 143), (1, xi (↑a)), (2, xi 1)]) (st' := [xi (I 143 0), xi 1, xi (↑i)]) rfl ?_
  rw [hc]
  refine ex_st 1 (pc' := 35) (ls' := [(7, xi (↑i)), (6, xi acc), (5, xi (sp_vo vo p c)), (4, xi ((↑(sp_bc p) - 1))), (3, xi (↑p)), (0, xr 143), (1, xi (↑a)), (2, xi 1)]) (st' := [xi (z_shl 1 (↑c)), xi (↑i)]) rfl ?_
  rw [hpw.1]
  refine ex_ic rfl (by first | omega | (constructor <;> omega) | assumption | exact x_bR _ | (constructor <;> (have := hva.2.1; omega))) (by first | omega | (constructor <;> omega) | assumption | exact x_bR _ | (constructor <;> (have := hva.2.1; omega))) (fun (h0 : (↑(sp_pw c) : Int) ≤ (↑i : Int)) => ?_) (fun (h0 : ¬ (↑(sp_pw c) : Int) ≤ (↑i : Int)) => ?_)
  · refine ex_st 1 (pc' := 141) (ls' := [(7, xi (↑i)), (6, xi acc), (5, xi (sp_vo vo p c)), (4, xi ((↑(sp_bc p) - 1))), (3, xi (↑p)), (0, xr 143), (1, xi (↑a)), (2, xi 1)]) (st' := [xi acc]) rfl ?_
    refine ex_reti rfl rfl ?_
    obtain rfl : i = sp_pw c := by omega
    exact ⟨by rw [hacc], rfl⟩
  · refine ex_st 5 (pc' := 44) (ls' := [(7, xi (↑i)), (6, xi acc), (5, xi (sp_vo vo p c)), (4, xi ((↑(sp_bc p) - 1))), (3, xi (↑p)), (0, xr 143), (1, xi (↑a)), (2, xi 1)]) (st' := [xi (z_and (↑i) (z_xor (↑p) (-1)))]) rfl ?_
    have hwo := (z_nt i (by omega) p hp6).2
    rw [(z_nt i (by omega) p hp6).1]
    refine ex_if rfl (by first | omega | (constructor <;> omega) | assumption | exact x_bR _ | (constructor <;> (have := hva.2.1; omega))) (fun (h1 : ¬ (↑(sp_wo i p) : Int) = 0) => ?_) (fun (h1 : ¬ ¬ (↑(sp_wo i p) : Int) = 0) => ?_)
    · refine ex_st 2 (pc' := 27) (ls' := [(7, xi ((↑i) + 1)), (6, xi acc), (5, xi (sp_vo vo p c)), (4, xi ((↑(sp_bc p) - 1))), (3, xi (↑p)), (0, xr 143), (1, xi (↑a)), (2, xi 1)]) (st' := []) rfl ?_
      have e9 : sp_turn vo c p a i = false := by
        rw [sp_turn_eq hp6 (by omega) ha (by omega)]
        exact decide_eq_false (fun q => by obtain ⟨q1, q2, q3, q4, q5⟩ := q; first | omega | exact absurd (q3.symm.trans (show i.testBit a = true by assumption)) (by decide))
      have h9 := lp_mt1 (sc := sc) (L := L) hM hp6 ha hpa (i + 1) (by omega) (acc) (by unfold sp_rt; rw [e9, hacc]; exact (Int.add_zero _).symm)
      exact ex_pm _ (fun i => by rcases i with _ | _ | _ | _ | _ | _ | _ | _ | _ | i <;> first | (right; rfl) | (left; rfl)) h9
    · refine ex_st 3 (pc' := 51) (ls' := [(7, xi (↑i)), (6, xi acc), (5, xi (sp_vo vo p c)), (4, xi ((↑(sp_bc p) - 1))), (3, xi (↑p)), (0, xr 143), (1, xi (↑a)), (2, xi 1)]) (st' := [xi (↑a), xi (↑i), xr 143]) rfl ?_
      refine ex_call (ct_m_has (s := i) (k := a) (by omega) (by omega)) (by decide) rfl ⟨rfl, rfl, rfl⟩ ⟨Nat.le_of_ble_eq_true rfl, rfl, rfl⟩ (Nat.le_of_ble_eq_true rfl) rfl ?_
      refine ex_beq rfl (fun h2 => ?_) (fun h2 => ?_)
      · refine ex_st 2 (pc' := 63) (ls' := [(7, xi (↑i)), (6, xi acc), (5, xi (sp_vo vo p c)), (4, xi ((↑(sp_bc p) - 1))), (3, xi (↑p)), (0, xr 143), (1, xi (↑a)), (2, xi 1)]) (st' := [xi (↑i), xr 143]) rfl ?_
        have g2 := sp_vo_bd (vt := vo) (s := i) (n := c) (fun q hq => (hp8 q hq).2.2.2.2.2.1)
        refine ex_call (ct_m_votesOf hM (s := i) (by omega)) (by decide) rfl ⟨rfl, rfl, rfl⟩ ⟨Nat.le_of_ble_eq_true rfl, rfl, rfl⟩ (Nat.le_of_ble_eq_true rfl) rfl ?_
        refine ex_st 5 (pc' := 74) (ls' := [(8, xi (sp_vo vo i c)), (7, xi (↑i)), (6, xi acc), (5, xi (sp_vo vo p c)), (4, xi ((↑(sp_bc p) - 1))), (3, xi (↑p)), (0, xr 143), (1, xi (↑a)), (2, xi 1)]) (st' := [xi (sp_vo vo p c), xi (2 * (sp_vo vo i c))]) rfl ?_
        refine ex_ic rfl (by first | omega | (constructor <;> omega) | assumption | exact x_bR _ | (constructor <;> (have := hva.2.1; omega))) (by first | omega | (constructor <;> omega) | assumption | exact x_bR _ | (constructor <;> (have := hva.2.1; omega))) (fun (h3 : (sp_vo vo p c) < (2 * (sp_vo vo i c))) => ?_) (fun (h3 : ¬ (sp_vo vo p c) < (2 * (sp_vo vo i c))) => ?_)
        · refine ex_st 2 (pc' := 27) (ls' := [(7, xi ((↑i) + 1)), (8, xi (sp_vo vo i c)), (6, xi acc), (5, xi (sp_vo vo p c)), (4, xi ((↑(sp_bc p) - 1))), (3, xi (↑p)), (0, xr 143), (1, xi (↑a)), (2, xi 1)]) (st' := []) rfl ?_
          have e9 : sp_turn vo c p a i = false := by
            rw [sp_turn_eq hp6 (by omega) ha (by omega)]
            exact decide_eq_false (fun q => by obtain ⟨q1, q2, q3, q4, q5⟩ := q; first | omega | exact absurd (q3.symm.trans (show i.testBit a = true by assumption)) (by decide))
          have h9 := lp_mt1 (sc := sc) (L := L) hM hp6 ha hpa (i + 1) (by omega) (acc) (by unfold sp_rt; rw [e9, hacc]; exact (Int.add_zero _).symm)
          exact ex_pm _ (fun i => by rcases i with _ | _ | _ | _ | _ | _ | _ | _ | _ | i <;> first | (right; rfl) | (left; rfl)) h9
        · refine ex_st 5 (pc' := 85) (ls' := [(8, xi (sp_vo vo i c)), (7, xi (↑i)), (6, xi acc), (5, xi (sp_vo vo p c)), (4, xi ((↑(sp_bc p) - 1))), (3, xi (↑p)), (0, xr 143), (1, xi (↑a)), (2, xi 1)]) (st' := [xi (↑a), xr 146, xi (sp_vo vo i c), xi 2]) rfl ?_
          refine ex_iald (j := a) rfl (by decide) (rfl : xSH[146]? = some _) (by omega) (by omega) (by decide) ?_
          rw [hva.1]
          refine ex_st 3 (pc' := 90) (ls' := [(8, xi (sp_vo vo i c)), (7, xi (↑i)), (6, xi acc), (5, xi (sp_vo vo p c)), (4, xi ((↑(sp_bc p) - 1))), (3, xi (↑p)), (0, xr 143), (1, xi (↑a)), (2, xi 1)]) (st' := [xi (sp_vo vo p c), xi (2 * ((sp_vo vo i c) + (vo a)))]) rfl ?_
          refine ex_ic rfl (by first | omega | (constructor <;> omega) | assumption | exact x_bR _ | (constructor <;> (have := hva.2.1; omega))) (by first | omega | (constructor <;> omega) | assumption | exact x_bR _ | (constructor <;> (have := hva.2.1; omega))) (fun (h4 : (sp_vo vo p c) < (2 * ((sp_vo vo i c) + (vo a)))) => ?_) (fun (h4 : ¬ (sp_vo vo p c) < (2 * ((sp_vo vo i c) + (vo a)))) => ?_)
          · refine ex_st 2 (pc' := 99) (ls' := [(8, xi (sp_vo vo i c)), (7, xi (↑i)), (6, xi acc), (5, xi (sp_vo vo p c)), (4, xi ((↑(sp_bc p) - 1))), (3, xi (↑p)), (0, xr 143), (1, xi (↑a)), (2, xi 1)]) (st' := [xi 1, xi acc]) rfl ?_
            refine ex_st 1 (pc' := 102) (ls' := [(8, xi (sp_vo vo i c)), (7, xi (↑i)), (6, xi acc), (5, xi (sp_vo vo p c)), (4, xi ((↑(sp_bc p) - 1))), (3, xi (↑p)), (0, xr 143), (1, xi (↑a)), (2, xi 1)]) (st' := [xi acc]) rfl ?_
            refine ex_st 3 (pc' := 106) (ls' := [(8, xi (sp_vo vo i c)), (7, xi (↑i)), (6, xi acc), (5, xi (sp_vo vo p c)), (4, xi ((↑(sp_bc p) - 1))), (3, xi (↑p)), (0, xr 143), (1, xi (↑a)), (2, xi 1)]) (st' := [xi (↑i), xr 143, xr 143, xi acc]) rfl ?_
            refine ex_call (ct_m_bits (s := i) (by omega)) (by decide) rfl ⟨rfl, rfl, rfl⟩ ⟨Nat.le_of_ble_eq_true rfl, rfl, rfl⟩ (Nat.le_of_ble_eq_true rfl) rfl ?_
            refine ex_call (ct_m_manyRows (n := ((sp_bc i))) (by omega)) (by decide) rfl ⟨rfl, rfl, rfl⟩ ⟨Nat.le_of_ble_eq_true rfl, rfl, rfl⟩ (Nat.le_of_ble_eq_true rfl) rfl ?_
            refine ex_st 4 (pc' := 118) (ls' := [(8, xi (sp_vo vo i c)), (7, xi (↑i)), (6, xi acc), (5, xi (sp_vo vo p c)), (4, xi ((↑(sp_bc p) - 1))), (3, xi (↑p)), (0, xr 143), (1, xi (↑a)), (2, xi 1)]) (st' := [xi (↑i), xr 143, xi ((↑(sp_bc p) - 1)), xr 143, xi (↑(sp_fa ((sp_bc i)))), xi acc]) rfl ?_
            refine ex_call (ct_m_bits (s := i) (by omega)) (by decide) rfl ⟨rfl, rfl, rfl⟩ ⟨Nat.le_of_ble_eq_true rfl, rfl, rfl⟩ (Nat.le_of_ble_eq_true rfl) rfl ?_
            refine ex_st 1 (pc' := 122) (ls' := [(8, xi (sp_vo vo i c)), (7, xi (↑i)), (6, xi acc), (5, xi (sp_vo vo p c)), (4, xi ((↑(sp_bc p) - 1))), (3, xi (↑p)), (0, xr 143), (1, xi (↑a)), (2, xi 1)]) (st' := [xi (((↑(sp_bc p) - 1)) - (↑(sp_bc i))), xr 143, xi (↑(sp_fa ((sp_bc i)))), xi acc]) rfl ?_
            have hlt : sp_bc i < sp_bc p := sp_bc_lt i (by omega) p hp6 (by omega) (fun e => by subst e; contradiction)
            have hle := sp_bc_le p
            rw [show (((↑(sp_bc p) - 1)) - (↑(sp_bc i)) : Int) = ((sp_bc p - 1 - sp_bc i : Nat) : Int) by omega]
            refine ex_call (ct_m_manyRows (n := sp_bc p - 1 - sp_bc i) (by omega)) (by decide) rfl ⟨rfl, rfl, rfl⟩ ⟨Nat.le_of_ble_eq_true rfl, rfl, rfl⟩ (Nat.le_of_ble_eq_true rfl) rfl ?_
            refine ex_st 6 (pc' := 27) (ls' := [(7, xi ((↑i) + 1)), (6, xi (acc + ((↑(sp_fa ((sp_bc i)))) * (↑(sp_fa (sp_bc p - 1 - sp_bc i)))))), (8, xi (sp_vo vo i c)), (5, xi (sp_vo vo p c)), (4, xi ((↑(sp_bc p) - 1))), (3, xi (↑p)), (0, xr 143), (1, xi (↑a)), (2, xi 1)]) (st' := []) rfl ?_
            have e9 : sp_turn vo c p a i = true := by
              rw [sp_turn_eq hp6 (by omega) ha (by omega)]
              exact decide_eq_true ⟨hpa, by omega, by simpa using (show ¬ i.testBit a = true by assumption), by omega, by omega⟩
            have h9 := lp_mt1 (sc := sc) (L := L) hM hp6 ha hpa (i + 1) (by omega) (acc + ((↑(sp_fa ((sp_bc i)))) * (↑(sp_fa (sp_bc p - 1 - sp_bc i))))) (by unfold sp_rt; rw [e9, hacc]; rfl)
            exact ex_pm _ (fun i => by rcases i with _ | _ | _ | _ | _ | _ | _ | _ | _ | i <;> first | (right; rfl) | (left; rfl)) h9
          · refine ex_st 3 (pc' := 27) (ls' := [(7, xi ((↑i) + 1)), (8, xi (sp_vo vo i c)), (6, xi acc), (5, xi (sp_vo vo p c)), (4, xi ((↑(sp_bc p) - 1))), (3, xi (↑p)), (0, xr 143), (1, xi (↑a)), (2, xi 1)]) (st' := []) rfl ?_
            have e9 : sp_turn vo c p a i = false := by
              rw [sp_turn_eq hp6 (by omega) ha (by omega)]
              exact decide_eq_false (fun q => by obtain ⟨q1, q2, q3, q4, q5⟩ := q; first | omega | exact absurd (q3.symm.trans (show i.testBit a = true by assumption)) (by decide))
            have h9 := lp_mt1 (sc := sc) (L := L) hM hp6 ha hpa (i + 1) (by omega) (acc) (by unfold sp_rt; rw [e9, hacc]; exact (Int.add_zero _).symm)
            exact ex_pm _ (fun i => by rcases i with _ | _ | _ | _ | _ | _ | _ | _ | _ | i <;> first | (right; rfl) | (left; rfl)) h9
      · refine ex_st 3 (pc' := 27) (ls' := [(7, xi ((↑i) + 1)), (6, xi acc), (5, xi (sp_vo vo p c)), (4, xi ((↑(sp_bc p) - 1))), (3, xi (↑p)), (0, xr 143), (1, xi (↑a)), (2, xi 1)]) (st' := []) rfl ?_
        have e9 : sp_turn vo c p a i = false := by
          rw [sp_turn_eq hp6 (by omega) ha (by omega)]
          exact decide_eq_false (fun q => by obtain ⟨q1, q2, q3, q4, q5⟩ := q; first | omega | exact absurd (q3.symm.trans (show i.testBit a = true by assumption)) (by decide))
        have h9 := lp_mt1 (sc := sc) (L := L) hM hp6 ha hpa (i + 1) (by omega) (acc) (by unfold sp_rt; rw [e9, hacc]; exact (Int.add_zero _).symm)
        exact ex_pm _ (fun i => by rcases i with _ | _ | _ | _ | _ | _ | _ | _ | _ | i <;> first | (right; rfl) | (left; rfl)) h9
termination_by sp_pw c - i
decreasing_by all_goals (omega)
theorem ct_m_turned1 {sc : List Int} {I : Nat → Nat → Int} {L : Nat → Nat → Int64} {c : Nat} {kd : Nat → Nat} {vv vo aw : Nat → Int} {ba ro : Nat → Nat → Int} {egg : Int} {se : Nat} (hM : MW I c kd vv vo aw ba ro egg se) {p a g : Nat} (hg1 : I 143 1 = (g : Int)) (hg : g < 64) (hpr : sp_pr c g = p) (ha : a < c) (hpa : p.testBit a = true) : x_CE sc 28 xN_m_turned [xr 143, xi (↑a), xi 1] (xSH, I, L) (some (xi (sp_rt vo c p a (sp_pw c)))) (xSH, I, L) := by
  obtain ⟨hc, hc6, hegg, hegb, hse, hse5, hab, hp8⟩ := id hM
  have hp6 : p < 64 := by rw [← hpr]; exact (z_pr c (by omega) g hg).2.1
  have hct := ct_m_present (sc := sc) (L := L) hc (by omega) hg1 hg
  rw [hpr] at hct
  refine x_CE.of (M := xM_m_turned) rfl (Nat.le_of_ble_eq_true rfl) ?_
  refine ex_st 1 (pc' := 1) (ls' := [(0, xr 143), (1, xi (↑a)), (2, xi 1)]) (st' := [xr 143]) rfl ?_
  refine ex_call hct (by decide) rfl ⟨rfl, rfl, rfl⟩ ⟨Nat.le_of_ble_eq_true rfl, rfl, rfl⟩ (Nat.le_of_ble_eq_true rfl) rfl ?_
  refine ex_st 3 (pc' := 7) (ls' := [(3, xi (↑p)), (0, xr 143), (1, xi (↑a)), (2, xi 1)]) (st' := [xi (↑p), xr 143]) rfl ?_
  refine ex_call (ct_m_bits hp6) (by decide) rfl ⟨rfl, rfl, rfl⟩ ⟨Nat.le_of_ble_eq_true rfl, rfl, rfl⟩ (Nat.le_of_ble_eq_true rfl) rfl ?_
  refine ex_st 5 (pc' := 16) (ls' := [(4, xi (↑(sp_bc p) - 1)), (3, xi (↑p)), (0, xr 143), (1, xi (↑a)), (2, xi 1)]) (st' := [xi (↑p), xr 143]) rfl ?_
  refine ex_call (ct_m_votesOf hM hp6) (by decide) rfl ⟨rfl, rfl, rfl⟩ ⟨Nat.le_of_ble_eq_true rfl, rfl, rfl⟩ (Nat.le_of_ble_eq_true rfl) rfl ?_
  refine ex_st 5 (pc' := 27) (ls' := [(7, xi 0), (6, xi 0), (5, xi (sp_vo vo p c)), (4, xi (↑(sp_bc p) - 1)), (3, xi (↑p)), (0, xr 143), (1, xi (↑a)), (2, xi 1)]) (st' := []) rfl ?_
  exact lp_mt1 hM hp6 ha hpa 0 (Nat.zero_le _) 0 rfl
set_option maxRecDepth 8000 in
set_option maxHeartbeats 2000000 in
theorem op_power_0 {sc : List Int} {I : Nat → Nat → Int} {L : Nat → Nat → Int64} (hR : Rl I L) {n2 : Nat} (hv : (n2 : Int) < I 1 1) : x_PQ sc xN_G_power [xr 0, xi (↑n2), xi 0] xN_m_power [xr 143, xi (↑n2), xi 0] (xSH, I, L) := by
  obtain ⟨⟨hNs, hNo, hNa, hNb, hNr, hNd, hNg, hNe, hNp, hNk⟩, hI, hT, hX, hC, hH, hQ⟩ := id hR
  have hs := hNs
  unfold RNs at hs
  obtain ⟨c, kd, vv, vo, aw, ba, ro, egg, se, hWW, hM⟩ := hR.vw
  have hT2 := hT
  unfold RT at hT2
  obtain ⟨T, nn, cc, cd, we, en, qv, hXt⟩ := RT.tr hT (t := I 143 13) (by omega) (by omega)
  have hX2 := id hXt
  obtain ⟨u1, u2, u3, u4, u5, u6, u7, u8, u9, u10⟩ := hX2
  have hMT := u10 rfl
  obtain ⟨g, hg1, hg, hgs, hgp⟩ := hM.pres
  have hI17 : I 1 7 = I 143 13 := by omega
  have hs64 := sp_mask64 (sp_nz aw) (n := c) (by have := hWW.2.1; omega)
  have hsN : sp_mask (sp_nz aw) c = (((sp_mask (sp_nz aw) c).toNat : Nat) : Int) := by have := (sp_mask_bd (sp_nz aw) c).1; omega
  obtain ⟨hg_1, hg_2, hg_3, hg_4, hg_5, hg_6⟩ := id hNg
  obtain ⟨n, hn⟩ := Int.eq_ofNat_of_zero_le hg_2
  obtain ⟨ag, hag0⟩ : ∃ ag : Nat → Nat, ∀ k, ag k = (I 150 k).toNat := ⟨_, fun _ => rfl⟩
  have hag : ∀ k, k < n → I 150 k = (ag k : Int) ∧ ag k < 5 := fun k hk => by have h1 := hg_5 k (by omega); have h2 := hag0 k; omega
  have hvo : ∀ p, p < c → 0 ≤ vo p ∧ vo p ≤ 9 := fun p hp => (hM.2.2.2.2.2.2.2 p hp).2.2.2.2.2.1
  have hc1 := hWW.1
  have hn2c : n2 < c := x_natC hc1 hv
  have hc6 : c ≤ 6 := by have := hWW.2.1; omega
  have hzo := z_off (sp_mask (sp_nz aw) c).toNat hs64 n2 (by omega)
  have hbl := sp_bc_le (sp_wo (sp_mask (sp_nz aw) c).toNat (2 ^ n2))
  have hbl2 := sp_bc_le (sp_mask (sp_nz aw) c).toNat
  have hgb := hgs n2 hn2c
  have hpwc := z_pwp c (by omega)
  refine x_CQ.of (M := xM_G_power) rfl (Nat.le_of_ble_eq_true rfl) ?_
  refine ex_st 2 (pc' := 2) (ls' := [(0, xr 0), (1, xi (↑n2)), (2, xi 0)]) (st' := [xi (↑n2), xr 0]) rfl ?_
  refine ex_call (ct_G_isOfficial2 (c := I 1 1) (by first | omega | (constructor <;> omega) | assumption | ((repeat rw [x_up_far (by omega)]); first | rfl | omega | (constructor <;> omega))) (by (repeat rw [x_up_far (by omega)]); try rfl) (by first | omega | (constructor <;> omega) | assumption | ((repeat rw [x_up_far (by omega)]); first | rfl | omega | (constructor <;> omega)))) (by decide) rfl ⟨rfl, rfl, rfl⟩ ⟨Nat.le_of_ble_eq_true rfl, rfl, rfl⟩ (Nat.le_of_ble_eq_true rfl) rfl ?_
  refine ex_beq rfl (fun h0 => ?_) (fun h0 => ?_)
  · exfalso; omega
  · refine ex_st 1 (pc' := 9) (ls' := [(0, xr 0), (1, xi (↑n2)), (2, xi 0)]) (st' := [xi 0]) rfl ?_
    refine ex_call (ct_G_isZeroOrOne (by first | omega | (constructor <;> omega) | assumption)) (by decide) rfl ⟨rfl, rfl, rfl⟩ ⟨Nat.le_of_ble_eq_true rfl, rfl, rfl⟩ (Nat.le_of_ble_eq_true rfl) rfl ?_
    refine ex_bne rfl (fun h1 => ?_) (fun h1 => ?_)
    · refine ex_st 3 (pc' := 24) (ls' := [(0, xr 0), (1, xi (↑n2)), (2, xi 0)]) (st' := [xr 1, xr 0]) rfl ?_
      refine ex_callQ (ct_G_ballotOf (L := L) WS.mk1 hWW u2 u3 u4 u5 u6 u7 u8 hI17 u9 u1) (by decide) rfl ⟨rfl, rfl, rfl⟩ ⟨Nat.le_of_ble_eq_true rfl, rfl, rfl⟩ (Nat.le_of_ble_eq_true rfl) rfl (fun ra m2 hQ => ?_)
      obtain ⟨rfl, J, rfl, hJ, hBW, hP, hBM⟩ := hQ
      rw [hsN] at hP
      refine ex_st 3 (pc' := 32) (ls' := [(3, xr 92), (0, xr 0), (1, xi (↑n2)), (2, xi 0)]) (st' := [xi (J 92 1)]) rfl ?_
      rw [hP]
      refine ex_st 6 (pc' := 38) (ls' := [(3, xr 92), (0, xr 0), (1, xi (↑n2)), (2, xi 0)]) (st' := [xi (z_and (↑((sp_mask (sp_nz aw) c).toNat)) (z_xor (z_shl 1 (↑n2)) (-1)))]) rfl ?_
      rw [hzo.1]
      refine ex_call (ct_In_bitCount (s := sp_wo (sp_mask (sp_nz aw) c).toNat (2 ^ n2)) hzo.2.1) (by decide) rfl ⟨rfl, rfl, rfl⟩ ⟨Nat.le_of_ble_eq_true rfl, rfl, rfl⟩ (Nat.le_of_ble_eq_true rfl) rfl ?_
      refine ex_st 3 (pc' := 45) (ls' := [(4, xi (↑(sp_bc (sp_wo (sp_mask (sp_nz aw) c).toNat (2 ^ n2))))), (3, xr 92), (0, xr 0), (1, xi (↑n2)), (2, xi 0)]) (st' := [xi (↑n2), xr 92]) rfl ?_
      refine ex_call (ct_B_setsTurnedBy hBW hs64 hP (a := n2) (by omega)) (by decide) rfl ⟨rfl, rfl, rfl⟩ ⟨Nat.le_of_ble_eq_true rfl, rfl, rfl⟩ (Nat.le_of_ble_eq_true rfl) rfl ?_
      refine ex_st 3 (pc' := 52) (ls' := [(4, xi (↑(sp_bc (sp_wo (sp_mask (sp_nz aw) c).toNat (2 ^ n2))))), (3, xr 92), (0, xr 0), (1, xi (↑n2)), (2, xi 0)]) (st' := [xi (z_shl 1 (↑(sp_bc (sp_wo (sp_mask (sp_nz aw) c).toNat (2 ^ n2))))), xi (((sp_cnt (sp_turn vo c (sp_mask (sp_nz aw) c).toNat n2) (sp_pw c) : Nat) : Int))]) rfl ?_
      rw [(z_pw (sp_bc (sp_wo (sp_mask (sp_nz aw) c).toNat (2 ^ n2))) (by omega)).1]
      refine ex_st 1 (pc' := 53) (ls' := [(4, xi (↑(sp_bc (sp_wo (sp_mask (sp_nz aw) c).toNat (2 ^ n2))))), (3, xr 92), (0, xr 0), (1, xi (↑n2)), (2, xi 0)]) (st' := [xi 0, xi (↑(sp_pw (sp_bc (sp_wo (sp_mask (sp_nz aw) c).toNat (2 ^ n2))))), xi (((sp_cnt (sp_turn vo c (sp_mask (sp_nz aw) c).toNat n2) (sp_pw c) : Nat) : Int))]) rfl ?_
      refine ex_call (ct_G_fraction0 (x := ((sp_cnt (sp_turn vo c (sp_mask (sp_nz aw) c).toNat n2) (sp_pw c) : Nat) : Int)) (b := (sp_pw (sp_bc (sp_wo (sp_mask (sp_nz aw) c).toNat (2 ^ n2))))) (by have := sp_cnt_le (sp_turn vo c (sp_mask (sp_nz aw) c).toNat n2) (sp_pw c); omega) (by have := z_pwp (sp_bc (sp_wo (sp_mask (sp_nz aw) c).toNat (2 ^ n2))) (by omega); omega) (by have := z_pwp (sp_bc (sp_wo (sp_mask (sp_nz aw) c).toNat (2 ^ n2))) (by omega); omega)) (by decide) rfl ⟨rfl, rfl, rfl⟩ ⟨Nat.le_of_ble_eq_true rfl, rfl, rfl⟩ (Nat.le_of_ble_eq_true rfl) rfl ?_
      refine ex_retl rfl rfl ?_
      refine x_CQ.of (M := xM_m_power) rfl (Nat.le_of_ble_eq_true rfl) ?_
      refine ex_st 2 (pc' := 2) (ls' := [(0, xr 143), (1, xi (↑n2)), (2, xi 0)]) (st' := [xi (↑n2), xr 143]) rfl ?_
      refine ex_call (ct_m_isOfficial2 (c := I 143 0) (by constructor <;> omega) (hJ _ _ (by omega)) (by omega)) (by decide) rfl ⟨rfl, rfl, rfl⟩ ⟨Nat.le_of_ble_eq_true rfl, rfl, rfl⟩ (Nat.le_of_ble_eq_true rfl) rfl ?_
      refine ex_beq rfl (fun h2 => ?_) (fun h2 => ?_)
      · exfalso; omega
      · refine ex_st 4 (pc' := 12) (ls' := [(0, xr 143), (1, xi (↑n2)), (2, xi 0)]) (st' := [xi 1, xi 0, xi 0, xr 143]) rfl ?_
        refine ex_call (ct_m_in (by first | omega | (constructor <;> omega) | assumption) (by first | omega | (constructor <;> omega) | assumption) (by first | omega | (constructor <;> omega) | assumption)) (by decide) rfl ⟨rfl, rfl, rfl⟩ ⟨Nat.le_of_ble_eq_true rfl, rfl, rfl⟩ (Nat.le_of_ble_eq_true rfl) rfl ?_
        refine ex_bne rfl (fun h3 => ?_) (fun h3 => ?_)
        · refine ex_st 3 (pc' := 27) (ls' := [(0, xr 143), (1, xi (↑n2)), (2, xi 0)]) (st' := [xi (J 143 1), xr 143]) rfl ?_
          rw [(hJ _ _ (by omega) : J 143 1 = I 143 1), hg1]
          refine ex_st 1 (pc' := 28) (ls' := [(0, xr 143), (1, xi (↑n2)), (2, xi 0)]) (st' := [xi (↑n2), xi (↑g), xr 143]) rfl ?_
          refine ex_call (ct_m_has (s := g) (k := n2) hg (by omega)) (by decide) rfl ⟨rfl, rfl, rfl⟩ ⟨Nat.le_of_ble_eq_true rfl, rfl, rfl⟩ (Nat.le_of_ble_eq_true rfl) rfl ?_
          refine ex_beq rfl (fun h4 => ?_) (fun h4 => ?_)
          · refine ex_st 4 (pc' := 41) (ls' := [(0, xr 143), (1, xi (↑n2)), (2, xi 0)]) (st' := [xi 0, xi (↑n2), xr 143, xr 143]) rfl ?_
            have hMx := hM.fr2 (I' := J) (fun k j a b => hJ k j (by omega))
            have hTx := hMT.fr2 (I' := J) (fun k j a b => hJ k j (by omega))
            have hgx : J 143 1 = (g : Int) := by rw [hJ _ _ (by omega)]; exact hg1
            have hnx : J 143 2 = (n : Int) := by rw [hJ _ _ (by omega)]; exact hn
            have hagx : ∀ k, k < n → J 150 k = (ag k : Int) ∧ ag k < 5 := fun k hk => by rw [hJ _ _ (by omega)]; exact hag k hk
            refine ex_call (ct_m_turned0 (L := L) hMx (p := (sp_mask (sp_nz aw) c).toNat) (a := n2) hgx hg hgp hn2c (x_nb1 hgb (by assumption))) (by decide) rfl ⟨rfl, rfl, rfl⟩ ⟨Nat.le_of_ble_eq_true rfl, rfl, rfl⟩ (Nat.le_of_ble_eq_true rfl) rfl ?_
            refine ex_st 3 (pc' := 47) (ls' := [(0, xr 143), (1, xi (↑n2)), (2, xi 0)]) (st' := [xr 143, xr 143, xi 1, xi (((sp_cnt (sp_turn vo c (sp_mask (sp_nz aw) c).toNat n2) (sp_pw c) : Nat) : Int)), xr 143]) rfl ?_
            have hMx := hM.fr2 (I' := J) (fun k j a b => hJ k j (by omega))
            have hTx := hMT.fr2 (I' := J) (fun k j a b => hJ k j (by omega))
            have hgx : J 143 1 = (g : Int) := by rw [hJ _ _ (by omega)]; exact hg1
            have hnx : J 143 2 = (n : Int) := by rw [hJ _ _ (by omega)]; exact hn
            have hagx : ∀ k, k < n → J 150 k = (ag k : Int) ∧ ag k < 5 := fun k hk => by rw [hJ _ _ (by omega)]; exact hag k hk
            have hcp := ct_m_present (sc := sc) (I := J) (L := L) (by rw [hJ _ _ (by omega)]; exact hM.1) hc6 hgx hg
            rw [hgp] at hcp
            refine ex_call hcp (by decide) rfl ⟨rfl, rfl, rfl⟩ ⟨Nat.le_of_ble_eq_true rfl, rfl, rfl⟩ (Nat.le_of_ble_eq_true rfl) rfl ?_
            refine ex_call (ct_m_bits (s := (sp_mask (sp_nz aw) c).toNat) hs64) (by decide) rfl ⟨rfl, rfl, rfl⟩ ⟨Nat.le_of_ble_eq_true rfl, rfl, rfl⟩ (Nat.le_of_ble_eq_true rfl) rfl ?_
            refine ex_st 2 (pc' := 55) (ls' := [(0, xr 143), (1, xi (↑n2)), (2, xi 0)]) (st' := [xi ((↑(sp_bc (sp_mask (sp_nz aw) c).toNat)) - 1), xi 1, xi (((sp_cnt (sp_turn vo c (sp_mask (sp_nz aw) c).toNat n2) (sp_pw c) : Nat) : Int)), xr 143]) rfl ?_
            have hsb : (sp_mask (sp_nz aw) c).toNat.testBit n2 = true := x_nb1 hgb (by assumption)
            rw [show ((sp_bc (sp_mask (sp_nz aw) c).toNat : Nat) : Int) - 1 = ((sp_bc (sp_wo (sp_mask (sp_nz aw) c).toNat (2 ^ n2)) : Nat) : Int) by have := hzo.2.2 hsb; omega]
            refine ex_st 1 (pc' := 56) (ls' := [(0, xr 143), (1, xi (↑n2)), (2, xi 0)]) (st' := [xi (z_shl 1 (↑(sp_bc (sp_wo (sp_mask (sp_nz aw) c).toNat (2 ^ n2))))), xi (((sp_cnt (sp_turn vo c (sp_mask (sp_nz aw) c).toNat n2) (sp_pw c) : Nat) : Int)), xr 143]) rfl ?_
            rw [(z_pw (sp_bc (sp_wo (sp_mask (sp_nz aw) c).toNat (2 ^ n2))) (by omega)).1]
            refine ex_st 1 (pc' := 57) (ls' := [(0, xr 143), (1, xi (↑n2)), (2, xi 0)]) (st' := [xi 0, xi (↑(sp_pw (sp_bc (sp_wo (sp_mask (sp_nz aw) c).toNat (2 ^ n2))))), xi (((sp_cnt (sp_turn vo c (sp_mask (sp_nz aw) c).toNat n2) (sp_pw c) : Nat) : Int)), xr 143]) rfl ?_
            refine ex_call (ct_m_lowest0 (x := ((sp_cnt (sp_turn vo c (sp_mask (sp_nz aw) c).toNat n2) (sp_pw c) : Nat) : Int)) (b := (sp_pw (sp_bc (sp_wo (sp_mask (sp_nz aw) c).toNat (2 ^ n2))))) (by have := sp_cnt_le (sp_turn vo c (sp_mask (sp_nz aw) c).toNat n2) (sp_pw c); omega) (by have := z_pwp (sp_bc (sp_wo (sp_mask (sp_nz aw) c).toNat (2 ^ n2))) (by omega); omega) (by have := z_pwp (sp_bc (sp_wo (sp_mask (sp_nz aw) c).toNat (2 ^ n2))) (by omega); omega)) (by decide) rfl ⟨rfl, rfl, rfl⟩ ⟨Nat.le_of_ble_eq_true rfl, rfl, rfl⟩ (Nat.le_of_ble_eq_true rfl) rfl ?_
            refine ex_retl rfl rfl ?_
            exact ⟨rfl, _, _, rfl, hR.fr (fun k j hk => hJ k j (by unfold x_scr at hk; omega)) (fun _ _ => rfl)⟩
          · refine ex_st 2 (pc' := 36) (ls' := [(0, xr 143), (1, xi (↑n2)), (2, xi 0)]) (st' := [xl (z_i2l 0)]) rfl ?_
            refine ex_retl rfl rfl ?_
            have hsb : (sp_mask (sp_nz aw) c).toNat.testBit n2 = false := x_nb0 hgb (by assumption)
            have h0 : sp_cnt (sp_turn vo c (sp_mask (sp_nz aw) c).toNat n2) (sp_pw c) = 0 := sp_cnt_0 _ (fun s _ => sp_away hs64 (by omega) hsb)
            have h00 : sp_frac ((sp_cnt (sp_turn vo c (sp_mask (sp_nz aw) c).toNat n2) (sp_pw c) : Nat) : Int) (sp_pw (sp_bc (sp_wo (sp_mask (sp_nz aw) c).toNat (2 ^ n2)))) 0 = z_i2l 0 := by rw [h0]; exact sp_frac_00
            exact ⟨(x_reql h00.symm), _, _, rfl, hR.fr (fun k j hk => hJ k j (by unfold x_scr at hk; omega)) (fun _ _ => rfl)⟩
        · exfalso; omega
    · exfalso; omega
set_option maxRecDepth 8000 in
set_option maxHeartbeats 2000000 in
theorem op_power_1 {sc : List Int} {I : Nat → Nat → Int} {L : Nat → Nat → Int64} (hR : Rl I L) {n2 : Nat} (hv : (n2 : Int) < I 1 1) : x_PQ sc xN_G_power [xr 0, xi (↑n2), xi 1] xN_m_power [xr 143, xi (↑n2), xi 1] (xSH, I, L) := by
  obtain ⟨⟨hNs, hNo, hNa, hNb, hNr, hNd, hNg, hNe, hNp, hNk⟩, hI, hT, hX, hC, hH, hQ⟩ := id hR
  have hs := hNs
  unfold RNs at hs
  obtain ⟨c, kd, vv, vo, aw, ba, ro, egg, se, hWW, hM⟩ := hR.vw
  have hT2 := hT
  unfold RT at hT2
  obtain ⟨T, nn, cc, cd, we, en, qv, hXt⟩ := RT.tr hT (t := I 143 13) (by omega) (by omega)
  have hX2 := id hXt
  obtain ⟨u1, u2, u3, u4, u5, u6, u7, u8, u9, u10⟩ := hX2
  have hMT := u10 rfl
  obtain ⟨g, hg1, hg, hgs, hgp⟩ := hM.pres
  have hI17 : I 1 7 = I 143 13 := by omega
  have hs64 := sp_mask64 (sp_nz aw) (n := c) (by have := hWW.2.1; omega)
  have hsN : sp_mask (sp_nz aw) c = (((sp_mask (sp_nz aw) c).toNat : Nat) : Int) := by have := (sp_mask_bd (sp_nz aw) c).1; omega
  obtain ⟨hg_1, hg_2, hg_3, hg_4, hg_5, hg_6⟩ := id hNg
  obtain ⟨n, hn⟩ := Int.eq_ofNat_of_zero_le hg_2
  obtain ⟨ag, hag0⟩ : ∃ ag : Nat → Nat, ∀ k, ag k = (I 150 k).toNat := ⟨_, fun _ => rfl⟩
  have hag : ∀ k, k < n → I 150 k = (ag k : Int) ∧ ag k < 5 := fun k hk => by have h1 := hg_5 k (by omega); have h2 := hag0 k; omega
  have hvo : ∀ p, p < c → 0 ≤ vo p ∧ vo p ≤ 9 := fun p hp => (hM.2.2.2.2.2.2.2 p hp).2.2.2.2.2.1
  have hc1 := hWW.1
  have hn2c : n2 < c := x_natC hc1 hv
  have hc6 : c ≤ 6 := by have := hWW.2.1; omega
  have hzo := z_off (sp_mask (sp_nz aw) c).toNat hs64 n2 (by omega)
  have hbl := sp_bc_le (sp_wo (sp_mask (sp_nz aw) c).toNat (2 ^ n2))
  have hbl2 := sp_bc_le (sp_mask (sp_nz aw) c).toNat
  have hgb := hgs n2 hn2c
  have hpwc := z_pwp c (by omega)
  refine x_CQ.of (M := xM_G_power) rfl (Nat.le_of_ble_eq_true rfl) ?_
  refine ex_st 2 (pc' := 2) (ls' := [(0, xr 0), (1, xi (↑n2)), (2, xi 1)]) (st' := [xi (↑n2), xr 0]) rfl ?_
  refine ex_call (ct_G_isOfficial2 (c := I 1 1) (by first | omega | (constructor <;> omega) | assumption | ((repeat rw [x_up_far (by omega)]); first | rfl | omega | (constructor <;> omega))) (by (repeat rw [x_up_far (by omega)]); try rfl) (by first | omega | (constructor <;> omega) | assumption | ((repeat rw [x_up_far (by omega)]); first | rfl | omega | (constructor <;> omega)))) (by decide) rfl ⟨rfl, rfl, rfl⟩ ⟨Nat.le_of_ble_eq_true rfl, rfl, rfl⟩ (Nat.le_of_ble_eq_true rfl) rfl ?_
  refine ex_beq rfl (fun h0 => ?_) (fun h0 => ?_)
  · exfalso; omega
  · refine ex_st 1 (pc' := 9) (ls' := [(0, xr 0), (1, xi (↑n2)), (2, xi 1)]) (st' := [xi 1]) rfl ?_
    refine ex_call (ct_G_isZeroOrOne (by first | omega | (constructor <;> omega) | assumption)) (by decide) rfl ⟨rfl, rfl, rfl⟩ ⟨Nat.le_of_ble_eq_true rfl, rfl, rfl⟩ (Nat.le_of_ble_eq_true rfl) rfl ?_
    refine ex_bne rfl (fun h1 => ?_) (fun h1 => ?_)
    · refine ex_st 3 (pc' := 24) (ls' := [(0, xr 0), (1, xi (↑n2)), (2, xi 1)]) (st' := [xr 1, xr 0]) rfl ?_
      refine ex_callQ (ct_G_ballotOf (L := L) WS.mk1 hWW u2 u3 u4 u5 u6 u7 u8 hI17 u9 u1) (by decide) rfl ⟨rfl, rfl, rfl⟩ ⟨Nat.le_of_ble_eq_true rfl, rfl, rfl⟩ (Nat.le_of_ble_eq_true rfl) rfl (fun ra m2 hQ => ?_)
      obtain ⟨rfl, J, rfl, hJ, hBW, hP, hBM⟩ := hQ
      rw [hsN] at hP
      refine ex_st 3 (pc' := 32) (ls' := [(3, xr 92), (0, xr 0), (1, xi (↑n2)), (2, xi 1)]) (st' := [xi (J 92 1)]) rfl ?_
      rw [hP]
      refine ex_st 6 (pc' := 38) (ls' := [(3, xr 92), (0, xr 0), (1, xi (↑n2)), (2, xi 1)]) (st' := [xi (z_and (↑((sp_mask (sp_nz aw) c).toNat)) (z_xor (z_shl 1 (↑n2)) (-1)))]) rfl ?_
      rw [hzo.1]
      refine ex_call (ct_In_bitCount (s := sp_wo (sp_mask (sp_nz aw) c).toNat (2 ^ n2)) hzo.2.1) (by decide) rfl ⟨rfl, rfl, rfl⟩ ⟨Nat.le_of_ble_eq_true rfl, rfl, rfl⟩ (Nat.le_of_ble_eq_true rfl) rfl ?_
      refine ex_st 3 (pc' := 45) (ls' := [(4, xi (↑(sp_bc (sp_wo (sp_mask (sp_nz aw) c).toNat (2 ^ n2))))), (3, xr 92), (0, xr 0), (1, xi (↑n2)), (2, xi 1)]) (st' := [xi (↑n2), xr 92]) rfl ?_
      refine ex_call (ct_B_setsTurnedBy hBW hs64 hP (a := n2) (by omega)) (by decide) rfl ⟨rfl, rfl, rfl⟩ ⟨Nat.le_of_ble_eq_true rfl, rfl, rfl⟩ (Nat.le_of_ble_eq_true rfl) rfl ?_
      refine ex_st 3 (pc' := 52) (ls' := [(4, xi (↑(sp_bc (sp_wo (sp_mask (sp_nz aw) c).toNat (2 ^ n2))))), (3, xr 92), (0, xr 0), (1, xi (↑n2)), (2, xi 1)]) (st' := [xi (z_shl 1 (↑(sp_bc (sp_wo (sp_mask (sp_nz aw) c).toNat (2 ^ n2))))), xi (((sp_cnt (sp_turn vo c (sp_mask (sp_nz aw) c).toNat n2) (sp_pw c) : Nat) : Int))]) rfl ?_
      rw [(z_pw (sp_bc (sp_wo (sp_mask (sp_nz aw) c).toNat (2 ^ n2))) (by omega)).1]
      refine ex_st 1 (pc' := 53) (ls' := [(4, xi (↑(sp_bc (sp_wo (sp_mask (sp_nz aw) c).toNat (2 ^ n2))))), (3, xr 92), (0, xr 0), (1, xi (↑n2)), (2, xi 1)]) (st' := [xi 1, xi (↑(sp_pw (sp_bc (sp_wo (sp_mask (sp_nz aw) c).toNat (2 ^ n2))))), xi (((sp_cnt (sp_turn vo c (sp_mask (sp_nz aw) c).toNat n2) (sp_pw c) : Nat) : Int))]) rfl ?_
      refine ex_call (ct_G_fraction1 (x := ((sp_cnt (sp_turn vo c (sp_mask (sp_nz aw) c).toNat n2) (sp_pw c) : Nat) : Int)) (b := (sp_pw (sp_bc (sp_wo (sp_mask (sp_nz aw) c).toNat (2 ^ n2))))) (by have := sp_cnt_le (sp_turn vo c (sp_mask (sp_nz aw) c).toNat n2) (sp_pw c); omega) (by have := z_pwp (sp_bc (sp_wo (sp_mask (sp_nz aw) c).toNat (2 ^ n2))) (by omega); omega) (by have := z_pwp (sp_bc (sp_wo (sp_mask (sp_nz aw) c).toNat (2 ^ n2))) (by omega); omega)) (by decide) rfl ⟨rfl, rfl, rfl⟩ ⟨Nat.le_of_ble_eq_true rfl, rfl, rfl⟩ (Nat.le_of_ble_eq_true rfl) rfl ?_
      refine ex_retl rfl rfl ?_
      refine x_CQ.of (M := xM_m_power) rfl (Nat.le_of_ble_eq_true rfl) ?_
      refine ex_st 2 (pc' := 2) (ls' := [(0, xr 143), (1, xi (↑n2)), (2, xi 1)]) (st' := [xi (↑n2), xr 143]) rfl ?_
      refine ex_call (ct_m_isOfficial2 (c := I 143 0) (by constructor <;> omega) (hJ _ _ (by omega)) (by omega)) (by decide) rfl ⟨rfl, rfl, rfl⟩ ⟨Nat.le_of_ble_eq_true rfl, rfl, rfl⟩ (Nat.le_of_ble_eq_true rfl) rfl ?_
      refine ex_beq rfl (fun h2 => ?_) (fun h2 => ?_)
      · exfalso; omega
      · refine ex_st 4 (pc' := 12) (ls' := [(0, xr 143), (1, xi (↑n2)), (2, xi 1)]) (st' := [xi 1, xi 0, xi 1, xr 143]) rfl ?_
        refine ex_call (ct_m_in (by first | omega | (constructor <;> omega) | assumption) (by first | omega | (constructor <;> omega) | assumption) (by first | omega | (constructor <;> omega) | assumption)) (by decide) rfl ⟨rfl, rfl, rfl⟩ ⟨Nat.le_of_ble_eq_true rfl, rfl, rfl⟩ (Nat.le_of_ble_eq_true rfl) rfl ?_
        refine ex_bne rfl (fun h3 => ?_) (fun h3 => ?_)
        · refine ex_st 3 (pc' := 27) (ls' := [(0, xr 143), (1, xi (↑n2)), (2, xi 1)]) (st' := [xi (J 143 1), xr 143]) rfl ?_
          rw [(hJ _ _ (by omega) : J 143 1 = I 143 1), hg1]
          refine ex_st 1 (pc' := 28) (ls' := [(0, xr 143), (1, xi (↑n2)), (2, xi 1)]) (st' := [xi (↑n2), xi (↑g), xr 143]) rfl ?_
          refine ex_call (ct_m_has (s := g) (k := n2) hg (by omega)) (by decide) rfl ⟨rfl, rfl, rfl⟩ ⟨Nat.le_of_ble_eq_true rfl, rfl, rfl⟩ (Nat.le_of_ble_eq_true rfl) rfl ?_
          refine ex_beq rfl (fun h4 => ?_) (fun h4 => ?_)
          · refine ex_st 4 (pc' := 41) (ls' := [(0, xr 143), (1, xi (↑n2)), (2, xi 1)]) (st' := [xi 0, xi (↑n2), xr 143, xr 143]) rfl ?_
            have hMx := hM.fr2 (I' := J) (fun k j a b => hJ k j (by omega))
            have hTx := hMT.fr2 (I' := J) (fun k j a b => hJ k j (by omega))
            have hgx : J 143 1 = (g : Int) := by rw [hJ _ _ (by omega)]; exact hg1
            have hnx : J 143 2 = (n : Int) := by rw [hJ _ _ (by omega)]; exact hn
            have hagx : ∀ k, k < n → J 150 k = (ag k : Int) ∧ ag k < 5 := fun k hk => by rw [hJ _ _ (by omega)]; exact hag k hk
            refine ex_call (ct_m_turned0 (L := L) hMx (p := (sp_mask (sp_nz aw) c).toNat) (a := n2) hgx hg hgp hn2c (x_nb1 hgb (by assumption))) (by decide) rfl ⟨rfl, rfl, rfl⟩ ⟨Nat.le_of_ble_eq_true rfl, rfl, rfl⟩ (Nat.le_of_ble_eq_true rfl) rfl ?_
            refine ex_st 3 (pc' := 47) (ls' := [(0, xr 143), (1, xi (↑n2)), (2, xi 1)]) (st' := [xr 143, xr 143, xi 1, xi (((sp_cnt (sp_turn vo c (sp_mask (sp_nz aw) c).toNat n2) (sp_pw c) : Nat) : Int)), xr 143]) rfl ?_
            have hMx := hM.fr2 (I' := J) (fun k j a b => hJ k j (by omega))
            have hTx := hMT.fr2 (I' := J) (fun k j a b => hJ k j (by omega))
            have hgx : J 143 1 = (g : Int) := by rw [hJ _ _ (by omega)]; exact hg1
            have hnx : J 143 2 = (n : Int) := by rw [hJ _ _ (by omega)]; exact hn
            have hagx : ∀ k, k < n → J 150 k = (ag k : Int) ∧ ag k < 5 := fun k hk => by rw [hJ _ _ (by omega)]; exact hag k hk
            have hcp := ct_m_present (sc := sc) (I := J) (L := L) (by rw [hJ _ _ (by omega)]; exact hM.1) hc6 hgx hg
            rw [hgp] at hcp
            refine ex_call hcp (by decide) rfl ⟨rfl, rfl, rfl⟩ ⟨Nat.le_of_ble_eq_true rfl, rfl, rfl⟩ (Nat.le_of_ble_eq_true rfl) rfl ?_
            refine ex_call (ct_m_bits (s := (sp_mask (sp_nz aw) c).toNat) hs64) (by decide) rfl ⟨rfl, rfl, rfl⟩ ⟨Nat.le_of_ble_eq_true rfl, rfl, rfl⟩ (Nat.le_of_ble_eq_true rfl) rfl ?_
            refine ex_st 2 (pc' := 55) (ls' := [(0, xr 143), (1, xi (↑n2)), (2, xi 1)]) (st' := [xi ((↑(sp_bc (sp_mask (sp_nz aw) c).toNat)) - 1), xi 1, xi (((sp_cnt (sp_turn vo c (sp_mask (sp_nz aw) c).toNat n2) (sp_pw c) : Nat) : Int)), xr 143]) rfl ?_
            have hsb : (sp_mask (sp_nz aw) c).toNat.testBit n2 = true := x_nb1 hgb (by assumption)
            rw [show ((sp_bc (sp_mask (sp_nz aw) c).toNat : Nat) : Int) - 1 = ((sp_bc (sp_wo (sp_mask (sp_nz aw) c).toNat (2 ^ n2)) : Nat) : Int) by have := hzo.2.2 hsb; omega]
            refine ex_st 1 (pc' := 56) (ls' := [(0, xr 143), (1, xi (↑n2)), (2, xi 1)]) (st' := [xi (z_shl 1 (↑(sp_bc (sp_wo (sp_mask (sp_nz aw) c).toNat (2 ^ n2))))), xi (((sp_cnt (sp_turn vo c (sp_mask (sp_nz aw) c).toNat n2) (sp_pw c) : Nat) : Int)), xr 143]) rfl ?_
            rw [(z_pw (sp_bc (sp_wo (sp_mask (sp_nz aw) c).toNat (2 ^ n2))) (by omega)).1]
            refine ex_st 1 (pc' := 57) (ls' := [(0, xr 143), (1, xi (↑n2)), (2, xi 1)]) (st' := [xi 1, xi (↑(sp_pw (sp_bc (sp_wo (sp_mask (sp_nz aw) c).toNat (2 ^ n2))))), xi (((sp_cnt (sp_turn vo c (sp_mask (sp_nz aw) c).toNat n2) (sp_pw c) : Nat) : Int)), xr 143]) rfl ?_
            refine ex_call (ct_m_lowest1 (x := ((sp_cnt (sp_turn vo c (sp_mask (sp_nz aw) c).toNat n2) (sp_pw c) : Nat) : Int)) (b := (sp_pw (sp_bc (sp_wo (sp_mask (sp_nz aw) c).toNat (2 ^ n2))))) (by have := sp_cnt_le (sp_turn vo c (sp_mask (sp_nz aw) c).toNat n2) (sp_pw c); omega) (by have := z_pwp (sp_bc (sp_wo (sp_mask (sp_nz aw) c).toNat (2 ^ n2))) (by omega); omega) (by have := z_pwp (sp_bc (sp_wo (sp_mask (sp_nz aw) c).toNat (2 ^ n2))) (by omega); omega)) (by decide) rfl ⟨rfl, rfl, rfl⟩ ⟨Nat.le_of_ble_eq_true rfl, rfl, rfl⟩ (Nat.le_of_ble_eq_true rfl) rfl ?_
            refine ex_retl rfl rfl ?_
            exact ⟨rfl, _, _, rfl, hR.fr (fun k j hk => hJ k j (by unfold x_scr at hk; omega)) (fun _ _ => rfl)⟩
          · refine ex_st 2 (pc' := 36) (ls' := [(0, xr 143), (1, xi (↑n2)), (2, xi 1)]) (st' := [xl (z_i2l 1)]) rfl ?_
            refine ex_retl rfl rfl ?_
            have hsb : (sp_mask (sp_nz aw) c).toNat.testBit n2 = false := x_nb0 hgb (by assumption)
            have h0 : sp_cnt (sp_turn vo c (sp_mask (sp_nz aw) c).toNat n2) (sp_pw c) = 0 := sp_cnt_0 _ (fun s _ => sp_away hs64 (by omega) hsb)
            have h00 : sp_frac ((sp_cnt (sp_turn vo c (sp_mask (sp_nz aw) c).toNat n2) (sp_pw c) : Nat) : Int) (sp_pw (sp_bc (sp_wo (sp_mask (sp_nz aw) c).toNat (2 ^ n2)))) 1 = z_i2l 1 := by rw [h0]; exact sp_frac_01 (by have := z_pwp (sp_bc (sp_wo (sp_mask (sp_nz aw) c).toNat (2 ^ n2))) (by omega); omega)
            exact ⟨(x_reql h00.symm), _, _, rfl, hR.fr (fun k j hk => hJ k j (by unfold x_scr at hk; omega)) (fun _ _ => rfl)⟩
        · exfalso; omega
    · exfalso; omega
theorem op_power_x {sc : List Int} {I : Nat → Nat → Int} {L : Nat → Nat → Int64} (hR : Rl I L) {x w : Int} (hx : x_R x) (hw : x_R w) (h : ¬ ((0 ≤ x ∧ x < I 1 1) ∧ (w = 0 ∨ w = 1))) : x_PQ sc xN_G_power [xr 0, xi x, xi w] xN_m_power [xr 143, xi x, xi w] (xSH, I, L) := by
  obtain ⟨⟨hNs, hNo, hNa, hNb, hNr, hNd, hNg, hNe, hNp, hNk⟩, hI, hT, hX, hC, hH, hQ⟩ := id hR
  have hs := hNs
  unfold RNs at hs
  refine x_CQ.of (M := xM_G_power) rfl (Nat.le_of_ble_eq_true rfl) ?_
  refine ex_st 2 (pc' := 2) (ls' := [(0, xr 0), (1, xi x), (2, xi w)]) (st' := [xi x, xr 0]) rfl ?_
  refine ex_call (ct_G_isOfficial2 (c := I 1 1) (by first | omega | (constructor <;> omega) | assumption | ((repeat rw [x_up_far (by omega)]); first | rfl | omega | (constructor <;> omega))) (by (repeat rw [x_up_far (by omega)]); try rfl) (by first | omega | (constructor <;> omega) | assumption | ((repeat rw [x_up_far (by omega)]); first | rfl | omega | (constructor <;> omega)))) (by decide) rfl ⟨rfl, rfl, rfl⟩ ⟨Nat.le_of_ble_eq_true rfl, rfl, rfl⟩ (Nat.le_of_ble_eq_true rfl) rfl ?_
  refine ex_beq rfl (fun h0 => ?_) (fun h0 => ?_)
  · refine ex_st 1 (pc' := 18) (ls' := [(0, xr 0), (1, xi x), (2, xi w)]) (st' := [xl (Int64.ofInt (-9223372036854775808))]) rfl ?_
    refine ex_retl rfl rfl ?_
    refine x_CQ.of (M := xM_m_power) rfl (Nat.le_of_ble_eq_true rfl) ?_
    refine ex_st 2 (pc' := 2) (ls' := [(0, xr 143), (1, xi x), (2, xi w)]) (st' := [xi x, xr 143]) rfl ?_
    refine ex_call (ct_m_isOfficial2 (c := I 143 0) (by first | omega | (constructor <;> omega) | assumption | ((repeat rw [x_up_far (by omega)]); first | rfl | omega | (constructor <;> omega))) (by (repeat rw [x_up_far (by omega)]); try rfl) (by first | omega | (constructor <;> omega) | assumption | ((repeat rw [x_up_far (by omega)]); first | rfl | omega | (constructor <;> omega)))) (by decide) rfl ⟨rfl, rfl, rfl⟩ ⟨Nat.le_of_ble_eq_true rfl, rfl, rfl⟩ (Nat.le_of_ble_eq_true rfl) rfl ?_
    refine ex_beq rfl (fun h1 => ?_) (fun h1 => ?_)
    · refine ex_st 1 (pc' := 21) (ls' := [(0, xr 143), (1, xi x), (2, xi w)]) (st' := [xl (Int64.ofInt (-9223372036854775808))]) rfl ?_
      refine ex_retl rfl rfl ?_
      exact ⟨rfl, _, _, rfl, hR⟩
    · exfalso; omega
  · refine ex_st 1 (pc' := 9) (ls' := [(0, xr 0), (1, xi x), (2, xi w)]) (st' := [xi w]) rfl ?_
    refine ex_call (ct_G_isZeroOrOne (by first | omega | (constructor <;> omega) | assumption)) (by decide) rfl ⟨rfl, rfl, rfl⟩ ⟨Nat.le_of_ble_eq_true rfl, rfl, rfl⟩ (Nat.le_of_ble_eq_true rfl) rfl ?_
    refine ex_bne rfl (fun h2 => ?_) (fun h2 => ?_)
    · exfalso; omega
    · refine ex_st 1 (pc' := 18) (ls' := [(0, xr 0), (1, xi x), (2, xi w)]) (st' := [xl (Int64.ofInt (-9223372036854775808))]) rfl ?_
      refine ex_retl rfl rfl ?_
      refine x_CQ.of (M := xM_m_power) rfl (Nat.le_of_ble_eq_true rfl) ?_
      refine ex_st 2 (pc' := 2) (ls' := [(0, xr 143), (1, xi x), (2, xi w)]) (st' := [xi x, xr 143]) rfl ?_
      refine ex_call (ct_m_isOfficial2 (c := I 143 0) (by first | omega | (constructor <;> omega) | assumption | ((repeat rw [x_up_far (by omega)]); first | rfl | omega | (constructor <;> omega))) (by (repeat rw [x_up_far (by omega)]); try rfl) (by first | omega | (constructor <;> omega) | assumption | ((repeat rw [x_up_far (by omega)]); first | rfl | omega | (constructor <;> omega)))) (by decide) rfl ⟨rfl, rfl, rfl⟩ ⟨Nat.le_of_ble_eq_true rfl, rfl, rfl⟩ (Nat.le_of_ble_eq_true rfl) rfl ?_
      refine ex_beq rfl (fun h3 => ?_) (fun h3 => ?_)
      · exfalso; omega
      · refine ex_st 4 (pc' := 12) (ls' := [(0, xr 143), (1, xi x), (2, xi w)]) (st' := [xi 1, xi 0, xi w, xr 143]) rfl ?_
        refine ex_call (ct_m_in (by first | omega | (constructor <;> omega) | assumption) (by first | omega | (constructor <;> omega) | assumption) (by first | omega | (constructor <;> omega) | assumption)) (by decide) rfl ⟨rfl, rfl, rfl⟩ ⟨Nat.le_of_ble_eq_true rfl, rfl, rfl⟩ (Nat.le_of_ble_eq_true rfl) rfl ?_
        refine ex_bne rfl (fun h4 => ?_) (fun h4 => ?_)
        · exfalso; omega
        · refine ex_st 1 (pc' := 21) (ls' := [(0, xr 143), (1, xi x), (2, xi w)]) (st' := [xl (Int64.ofInt (-9223372036854775808))]) rfl ?_
          refine ex_retl rfl rfl ?_
          exact ⟨rfl, _, _, rfl, hR⟩
theorem op_power {sc : List Int} {I : Nat → Nat → Int} {L : Nat → Nat → Int64} (hR : Rl I L) {x w : Int} (hx : x_R x) (hw : x_R w) : x_PQ sc xN_G_power [xr 0, xi x, xi w] xN_m_power [xr 143, xi x, xi w] (xSH, I, L) := by
  by_cases h : (0 ≤ x ∧ x < I 1 1) ∧ (w = 0 ∨ w = 1)
  · obtain ⟨⟨h1, h2⟩, h3⟩ := h
    obtain ⟨p, rfl⟩ := Int.eq_ofNat_of_zero_le h1
    rcases h3 with rfl | rfl
    · exact op_power_0 hR h2
    · exact op_power_1 hR h2
  · exact op_power_x hR hx hw h
set_option maxRecDepth 8000 in
set_option maxHeartbeats 2000000 in
theorem op_pivot_0 {sc : List Int} {I : Nat → Nat → Int} {L : Nat → Nat → Int64} (hR : Rl I L) {n2 : Nat} (hv : (n2 : Int) < I 1 1) : x_PQ sc xN_G_pivot [xr 0, xi (↑n2), xi 0] xN_m_pivot [xr 143, xi (↑n2), xi 0] (xSH, I, L) := by
  obtain ⟨⟨hNs, hNo, hNa, hNb, hNr, hNd, hNg, hNe, hNp, hNk⟩, hI, hT, hX, hC, hH, hQ⟩ := id hR
  have hs := hNs
  unfold RNs at hs
  obtain ⟨c, kd, vv, vo, aw, ba, ro, egg, se, hWW, hM⟩ := hR.vw
  have hT2 := hT
  unfold RT at hT2
  obtain ⟨T, nn, cc, cd, we, en, qv, hXt⟩ := RT.tr hT (t := I 143 13) (by omega) (by omega)
  have hX2 := id hXt
  obtain ⟨u1, u2, u3, u4, u5, u6, u7, u8, u9, u10⟩ := hX2
  have hMT := u10 rfl
  obtain ⟨g, hg1, hg, hgs, hgp⟩ := hM.pres
  have hI17 : I 1 7 = I 143 13 := by omega
  have hs64 := sp_mask64 (sp_nz aw) (n := c) (by have := hWW.2.1; omega)
  have hsN : sp_mask (sp_nz aw) c = (((sp_mask (sp_nz aw) c).toNat : Nat) : Int) := by have := (sp_mask_bd (sp_nz aw) c).1; omega
  obtain ⟨hg_1, hg_2, hg_3, hg_4, hg_5, hg_6⟩ := id hNg
  obtain ⟨n, hn⟩ := Int.eq_ofNat_of_zero_le hg_2
  obtain ⟨ag, hag0⟩ : ∃ ag : Nat → Nat, ∀ k, ag k = (I 150 k).toNat := ⟨_, fun _ => rfl⟩
  have hag : ∀ k, k < n → I 150 k = (ag k : Int) ∧ ag k < 5 := fun k hk => by have h1 := hg_5 k (by omega); have h2 := hag0 k; omega
  have hvo : ∀ p, p < c → 0 ≤ vo p ∧ vo p ≤ 9 := fun p hp => (hM.2.2.2.2.2.2.2 p hp).2.2.2.2.2.1
  have hc1 := hWW.1
  have hn2c : n2 < c := x_natC hc1 hv
  have hc6 : c ≤ 6 := by have := hWW.2.1; omega
  have hzo := z_off (sp_mask (sp_nz aw) c).toNat hs64 n2 (by omega)
  have hbl := sp_bc_le (sp_wo (sp_mask (sp_nz aw) c).toNat (2 ^ n2))
  have hbl2 := sp_bc_le (sp_mask (sp_nz aw) c).toNat
  have hgb := hgs n2 hn2c
  have hpwc := z_pwp c (by omega)
  refine x_CQ.of (M := xM_G_pivot) rfl (Nat.le_of_ble_eq_true rfl) ?_
  refine ex_st 2 (pc' := 2) (ls' := [(0, xr 0), (1, xi (↑n2)), (2, xi 0)]) (st' := [xi (↑n2), xr 0]) rfl ?_
  refine ex_call (ct_G_isOfficial2 (c := I 1 1) (by first | omega | (constructor <;> omega) | assumption | ((repeat rw [x_up_far (by omega)]); first | rfl | omega | (constructor <;> omega))) (by (repeat rw [x_up_far (by omega)]); try rfl) (by first | omega | (constructor <;> omega) | assumption | ((repeat rw [x_up_far (by omega)]); first | rfl | omega | (constructor <;> omega)))) (by decide) rfl ⟨rfl, rfl, rfl⟩ ⟨Nat.le_of_ble_eq_true rfl, rfl, rfl⟩ (Nat.le_of_ble_eq_true rfl) rfl ?_
  refine ex_beq rfl (fun h0 => ?_) (fun h0 => ?_)
  · exfalso; omega
  · refine ex_st 1 (pc' := 9) (ls' := [(0, xr 0), (1, xi (↑n2)), (2, xi 0)]) (st' := [xi 0]) rfl ?_
    refine ex_call (ct_G_isZeroOrOne (by first | omega | (constructor <;> omega) | assumption)) (by decide) rfl ⟨rfl, rfl, rfl⟩ ⟨Nat.le_of_ble_eq_true rfl, rfl, rfl⟩ (Nat.le_of_ble_eq_true rfl) rfl ?_
    refine ex_bne rfl (fun h1 => ?_) (fun h1 => ?_)
    · refine ex_st 3 (pc' := 24) (ls' := [(0, xr 0), (1, xi (↑n2)), (2, xi 0)]) (st' := [xr 1, xr 0]) rfl ?_
      refine ex_callQ (ct_G_ballotOf (L := L) WS.mk1 hWW u2 u3 u4 u5 u6 u7 u8 hI17 u9 u1) (by decide) rfl ⟨rfl, rfl, rfl⟩ ⟨Nat.le_of_ble_eq_true rfl, rfl, rfl⟩ (Nat.le_of_ble_eq_true rfl) rfl (fun ra m2 hQ => ?_)
      obtain ⟨rfl, J, rfl, hJ, hBW, hP, hBM⟩ := hQ
      rw [hsN] at hP
      refine ex_st 3 (pc' := 32) (ls' := [(3, xr 92), (0, xr 0), (1, xi (↑n2)), (2, xi 0)]) (st' := [xi (J 92 1)]) rfl ?_
      rw [hP]
      refine ex_call (ct_In_bitCount (s := (sp_mask (sp_nz aw) c).toNat) hs64) (by decide) rfl ⟨rfl, rfl, rfl⟩ ⟨Nat.le_of_ble_eq_true rfl, rfl, rfl⟩ (Nat.le_of_ble_eq_true rfl) rfl ?_
      refine ex_st 3 (pc' := 39) (ls' := [(4, xi (↑(sp_bc (sp_mask (sp_nz aw) c).toNat))), (3, xr 92), (0, xr 0), (1, xi (↑n2)), (2, xi 0)]) (st' := [xi (↑n2), xr 92]) rfl ?_
      refine ex_call (ct_B_rowsTurnedBy hBW hs64 hP (a := n2) (by omega)) (by decide) rfl ⟨rfl, rfl, rfl⟩ ⟨Nat.le_of_ble_eq_true rfl, rfl, rfl⟩ (Nat.le_of_ble_eq_true rfl) rfl ?_
      refine ex_st 2 (pc' := 47) (ls' := [(4, xi (↑(sp_bc (sp_mask (sp_nz aw) c).toNat))), (3, xr 92), (0, xr 0), (1, xi (↑n2)), (2, xi 0)]) (st' := [xi (↑(sp_bc (sp_mask (sp_nz aw) c).toNat)), xr 1002, xi ((sp_rt vo c (sp_mask (sp_nz aw) c).toNat n2 (sp_pw c)))]) rfl ?_
      refine ex_cald (v := ↑(sp_fa (sp_bc (sp_mask (sp_nz aw) c).toNat))) (j := ((sp_bc (sp_mask (sp_nz aw) c).toNat))) rfl (by decide) rfl (by first | omega | (show _ < 7; omega)) (by first | omega | (show _ < 7; omega)) (by decide) (x_fa (sp_bc (sp_mask (sp_nz aw) c).toNat) (by omega)) ?_
      refine ex_st 1 (pc' := 49) (ls' := [(4, xi (↑(sp_bc (sp_mask (sp_nz aw) c).toNat))), (3, xr 92), (0, xr 0), (1, xi (↑n2)), (2, xi 0)]) (st' := [xi 0, xi (↑(sp_fa (sp_bc (sp_mask (sp_nz aw) c).toNat))), xi ((sp_rt vo c (sp_mask (sp_nz aw) c).toNat n2 (sp_pw c)))]) rfl ?_
      refine ex_call (ct_G_fraction0 (x := (sp_rt vo c (sp_mask (sp_nz aw) c).toNat n2 (sp_pw c))) (b := (sp_fa (sp_bc (sp_mask (sp_nz aw) c).toNat))) (by have := sp_rt_bd (vt := vo) (c := c) (p := (sp_mask (sp_nz aw) c).toNat) (a := n2) (sp_pw c); omega) (by have := z_fap (sp_bc (sp_mask (sp_nz aw) c).toNat) (by omega); omega) (by have := z_fap (sp_bc (sp_mask (sp_nz aw) c).toNat) (by omega); omega)) (by decide) rfl ⟨rfl, rfl, rfl⟩ ⟨Nat.le_of_ble_eq_true rfl, rfl, rfl⟩ (Nat.le_of_ble_eq_true rfl) rfl ?_
      refine ex_retl rfl rfl ?_
      refine x_CQ.of (M := xM_m_pivot) rfl (Nat.le_of_ble_eq_true rfl) ?_
      refine ex_st 2 (pc' := 2) (ls' := [(0, xr 143), (1, xi (↑n2)), (2, xi 0)]) (st' := [xi (↑n2), xr 143]) rfl ?_
      refine ex_call (ct_m_isOfficial2 (c := I 143 0) (by constructor <;> omega) (hJ _ _ (by omega)) (by omega)) (by decide) rfl ⟨rfl, rfl, rfl⟩ ⟨Nat.le_of_ble_eq_true rfl, rfl, rfl⟩ (Nat.le_of_ble_eq_true rfl) rfl ?_
      refine ex_beq rfl (fun h2 => ?_) (fun h2 => ?_)
      · exfalso; omega
      · refine ex_st 4 (pc' := 12) (ls' := [(0, xr 143), (1, xi (↑n2)), (2, xi 0)]) (st' := [xi 1, xi 0, xi 0, xr 143]) rfl ?_
        refine ex_call (ct_m_in (by first | omega | (constructor <;> omega) | assumption) (by first | omega | (constructor <;> omega) | assumption) (by first | omega | (constructor <;> omega) | assumption)) (by decide) rfl ⟨rfl, rfl, rfl⟩ ⟨Nat.le_of_ble_eq_true rfl, rfl, rfl⟩ (Nat.le_of_ble_eq_true rfl) rfl ?_
        refine ex_bne rfl (fun h3 => ?_) (fun h3 => ?_)
        · refine ex_st 3 (pc' := 27) (ls' := [(0, xr 143), (1, xi (↑n2)), (2, xi 0)]) (st' := [xi (J 143 1), xr 143]) rfl ?_
          rw [(hJ _ _ (by omega) : J 143 1 = I 143 1), hg1]
          refine ex_st 1 (pc' := 28) (ls' := [(0, xr 143), (1, xi (↑n2)), (2, xi 0)]) (st' := [xi (↑n2), xi (↑g), xr 143]) rfl ?_
          refine ex_call (ct_m_has (s := g) (k := n2) hg (by omega)) (by decide) rfl ⟨rfl, rfl, rfl⟩ ⟨Nat.le_of_ble_eq_true rfl, rfl, rfl⟩ (Nat.le_of_ble_eq_true rfl) rfl ?_
          refine ex_beq rfl (fun h4 => ?_) (fun h4 => ?_)
          · refine ex_st 4 (pc' := 41) (ls' := [(0, xr 143), (1, xi (↑n2)), (2, xi 0)]) (st' := [xi 1, xi (↑n2), xr 143, xr 143]) rfl ?_
            have hMx := hM.fr2 (I' := J) (fun k j a b => hJ k j (by omega))
            have hTx := hMT.fr2 (I' := J) (fun k j a b => hJ k j (by omega))
            have hgx : J 143 1 = (g : Int) := by rw [hJ _ _ (by omega)]; exact hg1
            have hnx : J 143 2 = (n : Int) := by rw [hJ _ _ (by omega)]; exact hn
            have hagx : ∀ k, k < n → J 150 k = (ag k : Int) ∧ ag k < 5 := fun k hk => by rw [hJ _ _ (by omega)]; exact hag k hk
            refine ex_call (ct_m_turned1 (L := L) hMx (p := (sp_mask (sp_nz aw) c).toNat) (a := n2) hgx hg hgp hn2c (x_nb1 hgb (by assumption))) (by decide) rfl ⟨rfl, rfl, rfl⟩ ⟨Nat.le_of_ble_eq_true rfl, rfl, rfl⟩ (Nat.le_of_ble_eq_true rfl) rfl ?_
            refine ex_st 3 (pc' := 47) (ls' := [(0, xr 143), (1, xi (↑n2)), (2, xi 0)]) (st' := [xr 143, xr 143, xr 143, xi ((sp_rt vo c (sp_mask (sp_nz aw) c).toNat n2 (sp_pw c))), xr 143]) rfl ?_
            have hMx := hM.fr2 (I' := J) (fun k j a b => hJ k j (by omega))
            have hTx := hMT.fr2 (I' := J) (fun k j a b => hJ k j (by omega))
            have hgx : J 143 1 = (g : Int) := by rw [hJ _ _ (by omega)]; exact hg1
            have hnx : J 143 2 = (n : Int) := by rw [hJ _ _ (by omega)]; exact hn
            have hagx : ∀ k, k < n → J 150 k = (ag k : Int) ∧ ag k < 5 := fun k hk => by rw [hJ _ _ (by omega)]; exact hag k hk
            have hcp := ct_m_present (sc := sc) (I := J) (L := L) (by rw [hJ _ _ (by omega)]; exact hM.1) hc6 hgx hg
            rw [hgp] at hcp
            refine ex_call hcp (by decide) rfl ⟨rfl, rfl, rfl⟩ ⟨Nat.le_of_ble_eq_true rfl, rfl, rfl⟩ (Nat.le_of_ble_eq_true rfl) rfl ?_
            refine ex_call (ct_m_bits (s := (sp_mask (sp_nz aw) c).toNat) hs64) (by decide) rfl ⟨rfl, rfl, rfl⟩ ⟨Nat.le_of_ble_eq_true rfl, rfl, rfl⟩ (Nat.le_of_ble_eq_true rfl) rfl ?_
            refine ex_call (ct_m_manyRows (n := sp_bc (sp_mask (sp_nz aw) c).toNat) (by omega)) (by decide) rfl ⟨rfl, rfl, rfl⟩ ⟨Nat.le_of_ble_eq_true rfl, rfl, rfl⟩ (Nat.le_of_ble_eq_true rfl) rfl ?_
            refine ex_st 1 (pc' := 57) (ls' := [(0, xr 143), (1, xi (↑n2)), (2, xi 0)]) (st' := [xi 0, xi (↑(sp_fa (sp_bc (sp_mask (sp_nz aw) c).toNat))), xi ((sp_rt vo c (sp_mask (sp_nz aw) c).toNat n2 (sp_pw c))), xr 143]) rfl ?_
            refine ex_call (ct_m_lowest0 (x := (sp_rt vo c (sp_mask (sp_nz aw) c).toNat n2 (sp_pw c))) (b := (sp_fa (sp_bc (sp_mask (sp_nz aw) c).toNat))) (by have := sp_rt_bd (vt := vo) (c := c) (p := (sp_mask (sp_nz aw) c).toNat) (a := n2) (sp_pw c); omega) (by have := z_fap (sp_bc (sp_mask (sp_nz aw) c).toNat) (by omega); omega) (by have := z_fap (sp_bc (sp_mask (sp_nz aw) c).toNat) (by omega); omega)) (by decide) rfl ⟨rfl, rfl, rfl⟩ ⟨Nat.le_of_ble_eq_true rfl, rfl, rfl⟩ (Nat.le_of_ble_eq_true rfl) rfl ?_
            refine ex_retl rfl rfl ?_
            exact ⟨rfl, _, _, rfl, hR.fr (fun k j hk => hJ k j (by unfold x_scr at hk; omega)) (fun _ _ => rfl)⟩
          · refine ex_st 2 (pc' := 36) (ls' := [(0, xr 143), (1, xi (↑n2)), (2, xi 0)]) (st' := [xl (z_i2l 0)]) rfl ?_
            refine ex_retl rfl rfl ?_
            have hsb : (sp_mask (sp_nz aw) c).toNat.testBit n2 = false := x_nb0 hgb (by assumption)
            have h0 : sp_rt vo c (sp_mask (sp_nz aw) c).toNat n2 (sp_pw c) = 0 := sp_rt_0 _ (fun s _ => sp_away hs64 (by omega) hsb)
            have h00 : sp_frac (sp_rt vo c (sp_mask (sp_nz aw) c).toNat n2 (sp_pw c)) (sp_fa (sp_bc (sp_mask (sp_nz aw) c).toNat)) 0 = z_i2l 0 := by rw [h0]; exact sp_frac_00
            exact ⟨(x_reql h00.symm), _, _, rfl, hR.fr (fun k j hk => hJ k j (by unfold x_scr at hk; omega)) (fun _ _ => rfl)⟩
        · exfalso; omega
    · exfalso; omega
set_option maxRecDepth 8000 in
set_option maxHeartbeats 2000000 in
theorem op_pivot_1 {sc : List Int} {I : Nat → Nat → Int} {L : Nat → Nat → Int64} (hR : Rl I L) {n2 : Nat} (hv : (n2 : Int) < I 1 1) : x_PQ sc xN_G_pivot [xr 0, xi (↑n2), xi 1] xN_m_pivot [xr 143, xi (↑n2), xi 1] (xSH, I, L) := by
  obtain ⟨⟨hNs, hNo, hNa, hNb, hNr, hNd, hNg, hNe, hNp, hNk⟩, hI, hT, hX, hC, hH, hQ⟩ := id hR
  have hs := hNs
  unfold RNs at hs
  obtain ⟨c, kd, vv, vo, aw, ba, ro, egg, se, hWW, hM⟩ := hR.vw
  have hT2 := hT
  unfold RT at hT2
  obtain ⟨T, nn, cc, cd, we, en, qv, hXt⟩ := RT.tr hT (t := I 143 13) (by omega) (by omega)
  have hX2 := id hXt
  obtain ⟨u1, u2, u3, u4, u5, u6, u7, u8, u9, u10⟩ := hX2
  have hMT := u10 rfl
  obtain ⟨g, hg1, hg, hgs, hgp⟩ := hM.pres
  have hI17 : I 1 7 = I 143 13 := by omega
  have hs64 := sp_mask64 (sp_nz aw) (n := c) (by have := hWW.2.1; omega)
  have hsN : sp_mask (sp_nz aw) c = (((sp_mask (sp_nz aw) c).toNat : Nat) : Int) := by have := (sp_mask_bd (sp_nz aw) c).1; omega
  obtain ⟨hg_1, hg_2, hg_3, hg_4, hg_5, hg_6⟩ := id hNg
  obtain ⟨n, hn⟩ := Int.eq_ofNat_of_zero_le hg_2
  obtain ⟨ag, hag0⟩ : ∃ ag : Nat → Nat, ∀ k, ag k = (I 150 k).toNat := ⟨_, fun _ => rfl⟩
  have hag : ∀ k, k < n → I 150 k = (ag k : Int) ∧ ag k < 5 := fun k hk => by have h1 := hg_5 k (by omega); have h2 := hag0 k; omega
  have hvo : ∀ p, p < c → 0 ≤ vo p ∧ vo p ≤ 9 := fun p hp => (hM.2.2.2.2.2.2.2 p hp).2.2.2.2.2.1
  have hc1 := hWW.1
  have hn2c : n2 < c := x_natC hc1 hv
  have hc6 : c ≤ 6 := by have := hWW.2.1; omega
  have hzo := z_off (sp_mask (sp_nz aw) c).toNat hs64 n2 (by omega)
  have hbl := sp_bc_le (sp_wo (sp_mask (sp_nz aw) c).toNat (2 ^ n2))
  have hbl2 := sp_bc_le (sp_mask (sp_nz aw) c).toNat
  have hgb := hgs n2 hn2c
  have hpwc := z_pwp c (by omega)
  refine x_CQ.of (M := xM_G_pivot) rfl (Nat.le_of_ble_eq_true rfl) ?_
  refine ex_st 2 (pc' := 2) (ls' := [(0, xr 0), (1, xi (↑n2)), (2, xi 1)]) (st' := [xi (↑n2), xr 0]) rfl ?_
  refine ex_call (ct_G_isOfficial2 (c := I 1 1) (by first | omega | (constructor <;> omega) | assumption | ((repeat rw [x_up_far (by omega)]); first | rfl | omega | (constructor <;> omega))) (by (repeat rw [x_up_far (by omega)]); try rfl) (by first | omega | (constructor <;> omega) | assumption | ((repeat rw [x_up_far (by omega)]); first | rfl | omega | (constructor <;> omega)))) (by decide) rfl ⟨rfl, rfl, rfl⟩ ⟨Nat.le_of_ble_eq_true rfl, rfl, rfl⟩ (Nat.le_of_ble_eq_true rfl) rfl ?_
  refine ex_beq rfl (fun h0 => ?_) (fun h0 => ?_)
  · exfalso; omega
  · refine ex_st 1 (pc' := 9) (ls' := [(0, xr 0), (1, xi (↑n2)), (2, xi 1)]) (st' := [xi 1]) rfl ?_
    refine ex_call (ct_G_isZeroOrOne (by first | omega | (constructor <;> omega) | assumption)) (by decide) rfl ⟨rfl, rfl, rfl⟩ ⟨Nat.le_of_ble_eq_true rfl, rfl, rfl⟩ (Nat.le_of_ble_eq_true rfl) rfl ?_
    refine ex_bne rfl (fun h1 => ?_) (fun h1 => ?_)
    · refine ex_st 3 (pc' := 24) (ls' := [(0, xr 0), (1, xi (↑n2)), (2, xi 1)]) (st' := [xr 1, xr 0]) rfl ?_
      refine ex_callQ (ct_G_ballotOf (L := L) WS.mk1 hWW u2 u3 u4 u5 u6 u7 u8 hI17 u9 u1) (by decide) rfl ⟨rfl, rfl, rfl⟩ ⟨Nat.le_of_ble_eq_true rfl, rfl, rfl⟩ (Nat.le_of_ble_eq_true rfl) rfl (fun ra m2 hQ => ?_)
      obtain ⟨rfl, J, rfl, hJ, hBW, hP, hBM⟩ := hQ
      rw [hsN] at hP
      refine ex_st 3 (pc' := 32) (ls' := [(3, xr 92), (0, xr 0), (1, xi (↑n2)), (2, xi 1)]) (st' := [xi (J 92 1)]) rfl ?_
      rw [hP]
      refine ex_call (ct_In_bitCount (s := (sp_mask (sp_nz aw) c).toNat) hs64) (by decide) rfl ⟨rfl, rfl, rfl⟩ ⟨Nat.le_of_ble_eq_true rfl, rfl, rfl⟩ (Nat.le_of_ble_eq_true rfl) rfl ?_
      refine ex_st 3 (pc' := 39) (ls' := [(4, xi (↑(sp_bc (sp_mask (sp_nz aw) c).toNat))), (3, xr 92), (0, xr 0), (1, xi (↑n2)), (2, xi 1)]) (st' := [xi (↑n2), xr 92]) rfl ?_
      refine ex_call (ct_B_rowsTurnedBy hBW hs64 hP (a := n2) (by omega)) (by decide) rfl ⟨rfl, rfl, rfl⟩ ⟨Nat.le_of_ble_eq_true rfl, rfl, rfl⟩ (Nat.le_of_ble_eq_true rfl) rfl ?_
      refine ex_st 2 (pc' := 47) (ls' := [(4, xi (↑(sp_bc (sp_mask (sp_nz aw) c).toNat))), (3, xr 92), (0, xr 0), (1, xi (↑n2)), (2, xi 1)]) (st' := [xi (↑(sp_bc (sp_mask (sp_nz aw) c).toNat)), xr 1002, xi ((sp_rt vo c (sp_mask (sp_nz aw) c).toNat n2 (sp_pw c)))]) rfl ?_
      refine ex_cald (v := ↑(sp_fa (sp_bc (sp_mask (sp_nz aw) c).toNat))) (j := ((sp_bc (sp_mask (sp_nz aw) c).toNat))) rfl (by decide) rfl (by first | omega | (show _ < 7; omega)) (by first | omega | (show _ < 7; omega)) (by decide) (x_fa (sp_bc (sp_mask (sp_nz aw) c).toNat) (by omega)) ?_
      refine ex_st 1 (pc' := 49) (ls' := [(4, xi (↑(sp_bc (sp_mask (sp_nz aw) c).toNat))), (3, xr 92), (0, xr 0), (1, xi (↑n2)), (2, xi 1)]) (st' := [xi 1, xi (↑(sp_fa (sp_bc (sp_mask (sp_nz aw) c).toNat))), xi ((sp_rt vo c (sp_mask (sp_nz aw) c).toNat n2 (sp_pw c)))]) rfl ?_
      refine ex_call (ct_G_fraction1 (x := (sp_rt vo c (sp_mask (sp_nz aw) c).toNat n2 (sp_pw c))) (b := (sp_fa (sp_bc (sp_mask (sp_nz aw) c).toNat))) (by have := sp_rt_bd (vt := vo) (c := c) (p := (sp_mask (sp_nz aw) c).toNat) (a := n2) (sp_pw c); omega) (by have := z_fap (sp_bc (sp_mask (sp_nz aw) c).toNat) (by omega); omega) (by have := z_fap (sp_bc (sp_mask (sp_nz aw) c).toNat) (by omega); omega)) (by decide) rfl ⟨rfl, rfl, rfl⟩ ⟨Nat.le_of_ble_eq_true rfl, rfl, rfl⟩ (Nat.le_of_ble_eq_true rfl) rfl ?_
      refine ex_retl rfl rfl ?_
      refine x_CQ.of (M := xM_m_pivot) rfl (Nat.le_of_ble_eq_true rfl) ?_
      refine ex_st 2 (pc' := 2) (ls' := [(0, xr 143), (1, xi (↑n2)), (2, xi 1)]) (st' := [xi (↑n2), xr 143]) rfl ?_
      refine ex_call (ct_m_isOfficial2 (c := I 143 0) (by constructor <;> omega) (hJ _ _ (by omega)) (by omega)) (by decide) rfl ⟨rfl, rfl, rfl⟩ ⟨Nat.le_of_ble_eq_true rfl, rfl, rfl⟩ (Nat.le_of_ble_eq_true rfl) rfl ?_
      refine ex_beq rfl (fun h2 => ?_) (fun h2 => ?_)
      · exfalso; omega
      · refine ex_st 4 (pc' := 12) (ls' := [(0, xr 143), (1, xi (↑n2)), (2, xi 1)]) (st' := [xi 1, xi 0, xi 1, xr 143]) rfl ?_
        refine ex_call (ct_m_in (by first | omega | (constructor <;> omega) | assumption) (by first | omega | (constructor <;> omega) | assumption) (by first | omega | (constructor <;> omega) | assumption)) (by decide) rfl ⟨rfl, rfl, rfl⟩ ⟨Nat.le_of_ble_eq_true rfl, rfl, rfl⟩ (Nat.le_of_ble_eq_true rfl) rfl ?_
        refine ex_bne rfl (fun h3 => ?_) (fun h3 => ?_)
        · refine ex_st 3 (pc' := 27) (ls' := [(0, xr 143), (1, xi (↑n2)), (2, xi 1)]) (st' := [xi (J 143 1), xr 143]) rfl ?_
          rw [(hJ _ _ (by omega) : J 143 1 = I 143 1), hg1]
          refine ex_st 1 (pc' := 28) (ls' := [(0, xr 143), (1, xi (↑n2)), (2, xi 1)]) (st' := [xi (↑n2), xi (↑g), xr 143]) rfl ?_
          refine ex_call (ct_m_has (s := g) (k := n2) hg (by omega)) (by decide) rfl ⟨rfl, rfl, rfl⟩ ⟨Nat.le_of_ble_eq_true rfl, rfl, rfl⟩ (Nat.le_of_ble_eq_true rfl) rfl ?_
          refine ex_beq rfl (fun h4 => ?_) (fun h4 => ?_)
          · refine ex_st 4 (pc' := 41) (ls' := [(0, xr 143), (1, xi (↑n2)), (2, xi 1)]) (st' := [xi 1, xi (↑n2), xr 143, xr 143]) rfl ?_
            have hMx := hM.fr2 (I' := J) (fun k j a b => hJ k j (by omega))
            have hTx := hMT.fr2 (I' := J) (fun k j a b => hJ k j (by omega))
            have hgx : J 143 1 = (g : Int) := by rw [hJ _ _ (by omega)]; exact hg1
            have hnx : J 143 2 = (n : Int) := by rw [hJ _ _ (by omega)]; exact hn
            have hagx : ∀ k, k < n → J 150 k = (ag k : Int) ∧ ag k < 5 := fun k hk => by rw [hJ _ _ (by omega)]; exact hag k hk
            refine ex_call (ct_m_turned1 (L := L) hMx (p := (sp_mask (sp_nz aw) c).toNat) (a := n2) hgx hg hgp hn2c (x_nb1 hgb (by assumption))) (by decide) rfl ⟨rfl, rfl, rfl⟩ ⟨Nat.le_of_ble_eq_true rfl, rfl, rfl⟩ (Nat.le_of_ble_eq_true rfl) rfl ?_
            refine ex_st 3 (pc' := 47) (ls' := [(0, xr 143), (1, xi (↑n2)), (2, xi 1)]) (st' := [xr 143, xr 143, xr 143, xi ((sp_rt vo c (sp_mask (sp_nz aw) c).toNat n2 (sp_pw c))), xr 143]) rfl ?_
            have hMx := hM.fr2 (I' := J) (fun k j a b => hJ k j (by omega))
            have hTx := hMT.fr2 (I' := J) (fun k j a b => hJ k j (by omega))
            have hgx : J 143 1 = (g : Int) := by rw [hJ _ _ (by omega)]; exact hg1
            have hnx : J 143 2 = (n : Int) := by rw [hJ _ _ (by omega)]; exact hn
            have hagx : ∀ k, k < n → J 150 k = (ag k : Int) ∧ ag k < 5 := fun k hk => by rw [hJ _ _ (by omega)]; exact hag k hk
            have hcp := ct_m_present (sc := sc) (I := J) (L := L) (by rw [hJ _ _ (by omega)]; exact hM.1) hc6 hgx hg
            rw [hgp] at hcp
            refine ex_call hcp (by decide) rfl ⟨rfl, rfl, rfl⟩ ⟨Nat.le_of_ble_eq_true rfl, rfl, rfl⟩ (Nat.le_of_ble_eq_true rfl) rfl ?_
            refine ex_call (ct_m_bits (s := (sp_mask (sp_nz aw) c).toNat) hs64) (by decide) rfl ⟨rfl, rfl, rfl⟩ ⟨Nat.le_of_ble_eq_true rfl, rfl, rfl⟩ (Nat.le_of_ble_eq_true rfl) rfl ?_
            refine ex_call (ct_m_manyRows (n := sp_bc (sp_mask (sp_nz aw) c).toNat) (by omega)) (by decide) rfl ⟨rfl, rfl, rfl⟩ ⟨Nat.le_of_ble_eq_true rfl, rfl, rfl⟩ (Nat.le_of_ble_eq_true rfl) rfl ?_
            refine ex_st 1 (pc' := 57) (ls' := [(0, xr 143), (1, xi (↑n2)), (2, xi 1)]) (st' := [xi 1, xi (↑(sp_fa (sp_bc (sp_mask (sp_nz aw) c).toNat))), xi ((sp_rt vo c (sp_mask (sp_nz aw) c).toNat n2 (sp_pw c))), xr 143]) rfl ?_
            refine ex_call (ct_m_lowest1 (x := (sp_rt vo c (sp_mask (sp_nz aw) c).toNat n2 (sp_pw c))) (b := (sp_fa (sp_bc (sp_mask (sp_nz aw) c).toNat))) (by have := sp_rt_bd (vt := vo) (c := c) (p := (sp_mask (sp_nz aw) c).toNat) (a := n2) (sp_pw c); omega) (by have := z_fap (sp_bc (sp_mask (sp_nz aw) c).toNat) (by omega); omega) (by have := z_fap (sp_bc (sp_mask (sp_nz aw) c).toNat) (by omega); omega)) (by decide) rfl ⟨rfl, rfl, rfl⟩ ⟨Nat.le_of_ble_eq_true rfl, rfl, rfl⟩ (Nat.le_of_ble_eq_true rfl) rfl ?_
            refine ex_retl rfl rfl ?_
            exact ⟨rfl, _, _, rfl, hR.fr (fun k j hk => hJ k j (by unfold x_scr at hk; omega)) (fun _ _ => rfl)⟩
          · refine ex_st 2 (pc' := 36) (ls' := [(0, xr 143), (1, xi (↑n2)), (2, xi 1)]) (st' := [xl (z_i2l 1)]) rfl ?_
            refine ex_retl rfl rfl ?_
            have hsb : (sp_mask (sp_nz aw) c).toNat.testBit n2 = false := x_nb0 hgb (by assumption)
            have h0 : sp_rt vo c (sp_mask (sp_nz aw) c).toNat n2 (sp_pw c) = 0 := sp_rt_0 _ (fun s _ => sp_away hs64 (by omega) hsb)
            have h00 : sp_frac (sp_rt vo c (sp_mask (sp_nz aw) c).toNat n2 (sp_pw c)) (sp_fa (sp_bc (sp_mask (sp_nz aw) c).toNat)) 1 = z_i2l 1 := by rw [h0]; exact sp_frac_01 (by have := z_fap (sp_bc (sp_mask (sp_nz aw) c).toNat) (by omega); omega)
            exact ⟨(x_reql h00.symm), _, _, rfl, hR.fr (fun k j hk => hJ k j (by unfold x_scr at hk; omega)) (fun _ _ => rfl)⟩
        · exfalso; omega
    · exfalso; omega
theorem op_pivot_x {sc : List Int} {I : Nat → Nat → Int} {L : Nat → Nat → Int64} (hR : Rl I L) {x w : Int} (hx : x_R x) (hw : x_R w) (h : ¬ ((0 ≤ x ∧ x < I 1 1) ∧ (w = 0 ∨ w = 1))) : x_PQ sc xN_G_pivot [xr 0, xi x, xi w] xN_m_pivot [xr 143, xi x, xi w] (xSH, I, L) := by
  obtain ⟨⟨hNs, hNo, hNa, hNb, hNr, hNd, hNg, hNe, hNp, hNk⟩, hI, hT, hX, hC, hH, hQ⟩ := id hR
  have hs := hNs
  unfold RNs at hs
  refine x_CQ.of (M := xM_G_pivot) rfl (Nat.le_of_ble_eq_true rfl) ?_
  refine ex_st 2 (pc' := 2) (ls' := [(0, xr 0), (1, xi x), (2, xi w)]) (st' := [xi x, xr 0]) rfl ?_
  refine ex_call (ct_G_isOfficial2 (c := I 1 1) (by first | omega | (constructor <;> omega) | assumption | ((repeat rw [x_up_far (by omega)]); first | rfl | omega | (constructor <;> omega))) (by (repeat rw [x_up_far (by omega)]); try rfl) (by first | omega | (constructor <;> omega) | assumption | ((repeat rw [x_up_far (by omega)]); first | rfl | omega | (constructor <;> omega)))) (by decide) rfl ⟨rfl, rfl, rfl⟩ ⟨Nat.le_of_ble_eq_true rfl, rfl, rfl⟩ (Nat.le_of_ble_eq_true rfl) rfl ?_
  refine ex_beq rfl (fun h0 => ?_) (fun h0 => ?_)
  · refine ex_st 1 (pc' := 18) (ls' := [(0, xr 0), (1, xi x), (2, xi w)]) (st' := [xl (Int64.ofInt (-9223372036854775808))]) rfl ?_
    refine ex_retl rfl rfl ?_
    refine x_CQ.of (M := xM_m_pivot) rfl (Nat.le_of_ble_eq_true rfl) ?_
    refine ex_st 2 (pc' := 2) (ls' := [(0, xr 143), (1, xi x), (2, xi w)]) (st' := [xi x, xr 143]) rfl ?_
    refine ex_call (ct_m_isOfficial2 (c := I 143 0) (by first | omega | (constructor <;> omega) | assumption | ((repeat rw [x_up_far (by omega)]); first | rfl | omega | (constructor <;> omega))) (by (repeat rw [x_up_far (by omega)]); try rfl) (by first | omega | (constructor <;> omega) | assumption | ((repeat rw [x_up_far (by omega)]); first | rfl | omega | (constructor <;> omega)))) (by decide) rfl ⟨rfl, rfl, rfl⟩ ⟨Nat.le_of_ble_eq_true rfl, rfl, rfl⟩ (Nat.le_of_ble_eq_true rfl) rfl ?_
    refine ex_beq rfl (fun h1 => ?_) (fun h1 => ?_)
    · refine ex_st 1 (pc' := 21) (ls' := [(0, xr 143), (1, xi x), (2, xi w)]) (st' := [xl (Int64.ofInt (-9223372036854775808))]) rfl ?_
      refine ex_retl rfl rfl ?_
      exact ⟨rfl, _, _, rfl, hR⟩
    · exfalso; omega
  · refine ex_st 1 (pc' := 9) (ls' := [(0, xr 0), (1, xi x), (2, xi w)]) (st' := [xi w]) rfl ?_
    refine ex_call (ct_G_isZeroOrOne (by first | omega | (constructor <;> omega) | assumption)) (by decide) rfl ⟨rfl, rfl, rfl⟩ ⟨Nat.le_of_ble_eq_true rfl, rfl, rfl⟩ (Nat.le_of_ble_eq_true rfl) rfl ?_
    refine ex_bne rfl (fun h2 => ?_) (fun h2 => ?_)
    · exfalso; omega
    · refine ex_st 1 (pc' := 18) (ls' := [(0, xr 0), (1, xi x), (2, xi w)]) (st' := [xl (Int64.ofInt (-9223372036854775808))]) rfl ?_
      refine ex_retl rfl rfl ?_
      refine x_CQ.of (M := xM_m_pivot) rfl (Nat.le_of_ble_eq_true rfl) ?_
      refine ex_st 2 (pc' := 2) (ls' := [(0, xr 143), (1, xi x), (2, xi w)]) (st' := [xi x, xr 143]) rfl ?_
      refine ex_call (ct_m_isOfficial2 (c := I 143 0) (by first | omega | (constructor <;> omega) | assumption | ((repeat rw [x_up_far (by omega)]); first | rfl | omega | (constructor <;> omega))) (by (repeat rw [x_up_far (by omega)]); try rfl) (by first | omega | (constructor <;> omega) | assumption | ((repeat rw [x_up_far (by omega)]); first | rfl | omega | (constructor <;> omega)))) (by decide) rfl ⟨rfl, rfl, rfl⟩ ⟨Nat.le_of_ble_eq_true rfl, rfl, rfl⟩ (Nat.le_of_ble_eq_true rfl) rfl ?_
      refine ex_beq rfl (fun h3 => ?_) (fun h3 => ?_)
      · exfalso; omega
      · refine ex_st 4 (pc' := 12) (ls' := [(0, xr 143), (1, xi x), (2, xi w)]) (st' := [xi 1, xi 0, xi w, xr 143]) rfl ?_
        refine ex_call (ct_m_in (by first | omega | (constructor <;> omega) | assumption) (by first | omega | (constructor <;> omega) | assumption) (by first | omega | (constructor <;> omega) | assumption)) (by decide) rfl ⟨rfl, rfl, rfl⟩ ⟨Nat.le_of_ble_eq_true rfl, rfl, rfl⟩ (Nat.le_of_ble_eq_true rfl) rfl ?_
        refine ex_bne rfl (fun h4 => ?_) (fun h4 => ?_)
        · exfalso; omega
        · refine ex_st 1 (pc' := 21) (ls' := [(0, xr 143), (1, xi x), (2, xi w)]) (st' := [xl (Int64.ofInt (-9223372036854775808))]) rfl ?_
          refine ex_retl rfl rfl ?_
          exact ⟨rfl, _, _, rfl, hR⟩
theorem op_pivot {sc : List Int} {I : Nat → Nat → Int} {L : Nat → Nat → Int64} (hR : Rl I L) {x w : Int} (hx : x_R x) (hw : x_R w) : x_PQ sc xN_G_pivot [xr 0, xi x, xi w] xN_m_pivot [xr 143, xi x, xi w] (xSH, I, L) := by
  by_cases h : (0 ≤ x ∧ x < I 1 1) ∧ (w = 0 ∨ w = 1)
  · obtain ⟨⟨h1, h2⟩, h3⟩ := h
    obtain ⟨p, rfl⟩ := Int.eq_ofNat_of_zero_le h1
    rcases h3 with rfl | rfl
    · exact op_pivot_0 hR h2
    · exact op_pivot_1 hR h2
  · exact op_pivot_x hR hx hw h
set_option maxRecDepth 8000 in
set_option maxHeartbeats 1000000 in
theorem lp_mmean {sc : List Int} {I : Nat → Nat → Int} {L : Nat → Nat → Int64} {c : Nat} {kd : Nat → Nat} {vv vo aw : Nat → Int} {ba ro : Nat → Nat → Int} {egg : Int} {se : Nat} (hM : MW I c kd vv vo aw ba ro egg se) {cc : Nat} {cd we : Nat → Int} {en : Nat → Nat} {qv : Int} (hT : MT I cc cd we en qv) {g s : Nat} (hg1 : I 143 1 = (g : Int)) (hg : g < 64) (hs : ∀ p, p < c → s.testBit p = !g.testBit p) {x : Nat} (hx : x < 5) {I1 : Nat → Nat → Int} (hF : ∀ k j, k ≠ 160 → I1 k j = I k j) (p : Nat) (hp : p ≤ c) {Q : Option xPV → xMem → Prop} {b w : Int} (kk : ∀ I2 : Nat → Nat → Int, (∀ k j, k ≠ 160 → I2 k j = I k j) → x_Ex sc 29 xM_m_mean 93 [(5, xi (↑c)), (4, xi (sp_lb (sp_lk kd vv ba ro egg se cd we en cc) vo s x c)), (3, xi b), (0, xr 143), (1, xi (↑x)), (2, xi w)] [] (xSH, I2, L) Q) : x_Ex sc 29 xM_m_mean 41 [(5, xi (↑p)), (4, xi (sp_lb (sp_lk kd vv ba ro egg se cd we en cc) vo s x p)), (3, xi b), (0, xr 143), (1, xi (↑x)), (2, xi w)] [] (xSH, I1, L) Q := by
  obtain ⟨hc, hc6, hegg, hegb, hse, hse5, hab, hp8⟩ := id hM
  refine ex_st 3 (pc' := 47) (ls' := [(5, xi (↑p)), (4, xi (sp_lb (sp_lk kd vv ba ro egg se cd we en cc) vo s x p)), (3, xi b), (0, xr 143), (1, xi (↑x)), (2, xi w)]) (st' := [xi (I1 143 0), xi (↑p)]) rfl ?_
  rw [hF _ _ (by decide), hc]
  refine ex_ic rfl (by first | omega | (constructor <;> omega) | assumption | exact x_bR _) (by first | omega | (constructor <;> omega) | assumption | exact x_bR _) (fun (h0 : (↑c : Int) ≤ (↑p : Int)) => ?_) (fun (h0 : ¬ (↑c : Int) ≤ (↑p : Int)) => ?_)
  · obtain rfl : p = c := by omega
    exact kk I1 hF
  · refine ex_st 4 (pc' := 57) (ls' := [(5, xi (↑p)), (4, xi (sp_lb (sp_lk kd vv ba ro egg se cd we en cc) vo s x p)), (3, xi b), (0, xr 143), (1, xi (↑x)), (2, xi w)]) (st' := [xi (I1 143 1), xr 143, xi (sp_lb (sp_lk kd vv ba ro egg se cd we en cc) vo s x p)]) rfl ?_
    rw [hF _ _ (by decide), hg1]
    refine ex_st 1 (pc' := 59) (ls' := [(5, xi (↑p)), (4, xi (sp_lb (sp_lk kd vv ba ro egg se cd we en cc) vo s x p)), (3, xi b), (0, xr 143), (1, xi (↑x)), (2, xi w)]) (st' := [xi (↑p), xi (↑g), xr 143, xi (sp_lb (sp_lk kd vv ba ro egg se cd we en cc) vo s x p)]) rfl ?_
    refine ex_call (ct_m_has (s := g) (k := p) hg (by omega)) (by decide) rfl ⟨rfl, rfl, rfl⟩ ⟨Nat.le_of_ble_eq_true rfl, rfl, rfl⟩ (Nat.le_of_ble_eq_true rfl) rfl ?_
    refine ex_beq rfl (fun h1 => ?_) (fun h1 => ?_)
    · refine ex_st 3 (pc' := 75) (ls' := [(5, xi (↑p)), (4, xi (sp_lb (sp_lk kd vv ba ro egg se cd we en cc) vo s x p)), (3, xi b), (0, xr 143), (1, xi (↑x)), (2, xi w)]) (st' := [xi (↑p), xr 146, xi (sp_lb (sp_lk kd vv ba ro egg se cd we en cc) vo s x p)]) rfl ?_
      refine ex_iald (j := p) rfl (by decide) (rfl : xSH[146]? = some _) (by omega) (by omega) (by decide) ?_
      rw [hF _ _ (by decide), (hp8 p (by omega)).2.2.2.2.1]
      refine ex_st 3 (pc' := 80) (ls' := [(5, xi (↑p)), (4, xi (sp_lb (sp_lk kd vv ba ro egg se cd we en cc) vo s x p)), (3, xi b), (0, xr 143), (1, xi (↑x)), (2, xi w)]) (st' := [xi (↑x), xi (↑p), xr 143, xi (vo p), xi (sp_lb (sp_lk kd vv ba ro egg se cd we en cc) vo s x p)]) rfl ?_
      refine ex_callQ (ct_m_likes (L := L) hM hT (p := p) (x := x) (by omega) hx hF) (by decide) rfl ⟨rfl, rfl, rfl⟩ ⟨Nat.le_of_ble_eq_true rfl, rfl, rfl⟩ (Nat.le_of_ble_eq_true rfl) rfl (fun ra m2 hQ => ?_)
      obtain ⟨rfl, I2, rfl, hF2⟩ := hQ
      refine ex_st 5 (pc' := 41) (ls' := [(5, xi ((↑p) + 1)), (4, xi ((sp_lb (sp_lk kd vv ba ro egg se cd we en cc) vo s x p) + ((vo p) * ((sp_lk kd vv ba ro egg se cd we en cc) p x)))), (3, xi b), (0, xr 143), (1, xi (↑x)), (2, xi w)]) (st' := []) rfl ?_
      have hsp : s.testBit p = true := x_nb1 (hs p (by omega)) (by assumption)
      have h9 := lp_mmean (sc := sc) (L := L) hM hT hg1 hg hs hx hF2 (p + 1) (by omega) kk
      rw [show sp_lb (sp_lk kd vv ba ro egg se cd we en cc) vo s x (p + 1) = sp_lb (sp_lk kd vv ba ro egg se cd we en cc) vo s x p + vo p * (sp_lk kd vv ba ro egg se cd we en cc) p x from by show _ + _ = _; rw [hsp]; rfl] at h9
      exact ex_pm _ (fun i => by rcases i with _ | _ | _ | _ | _ | _ | _ | _ | _ | i <;> first | (right; rfl) | (left; rfl)) h9
    · refine ex_st 6 (pc' := 41) (ls' := [(5, xi ((↑p) + 1)), (4, xi ((sp_lb (sp_lk kd vv ba ro egg se cd we en cc) vo s x p) + 0)), (3, xi b), (0, xr 143), (1, xi (↑x)), (2, xi w)]) (st' := []) rfl ?_
      have hsp : s.testBit p = false := x_nb0 (hs p (by omega)) (by assumption)
      have h9 := lp_mmean (sc := sc) (L := L) hM hT hg1 hg hs hx hF (p + 1) (by omega) kk
      rw [show sp_lb (sp_lk kd vv ba ro egg se cd we en cc) vo s x (p + 1) = sp_lb (sp_lk kd vv ba ro egg se cd we en cc) vo s x p + 0 from by show _ + _ = _; rw [hsp]; rfl] at h9
      exact ex_pm _ (fun i => by rcases i with _ | _ | _ | _ | _ | _ | _ | _ | _ | i <;> first | (right; rfl) | (left; rfl)) h9
termination_by c - p
decreasing_by all_goals (omega)
/-- all votes of those that are not away -/
def sp_zv (I : Nat → Nat → Int) (_L : Nat → Nat → Int64) (b : Nat) : Prop := ∃ (c : Nat) (kd : Nat → Nat) (vv vo aw : Nat → Int) (ba ro : Nat → Nat → Int) (egg : Int) (se g : Nat), MW I c kd vv vo aw ba ro egg se ∧ I 143 1 = (g : Int) ∧ g < 64 ∧ sp_vo vo (sp_pr c g) c = (b : Int)
theorem sp_vo_congr {vt vt' : Nat → Int} {s : Nat} : ∀ n, (∀ p, p < n → vt p = vt' p) → sp_vo vt s n = sp_vo vt' s n
  | 0, _ => rfl
  | n + 1, h => by simp only [sp_vo]; rw [sp_vo_congr n (fun p hp => h p (by omega)), h n (by omega)]
theorem sp_zv_un {I : Nat → Nat → Int} {L : Nat → Nat → Int64} {a b : Nat} (h1 : sp_zv I L a) (h2 : sp_zv I L b) : a = b := by
  obtain ⟨c, kd, vv, vo, aw, ba, ro, egg, se, g, hM, hg, hg6, hb⟩ := h1
  obtain ⟨c', kd', vv', vo', aw', ba', ro', egg', se', g', hM', hg', hg6', hb'⟩ := h2
  have e1 : c = c' := by have := hM.1; have := hM'.1; omega
  subst e1
  have e2 : g = g' := by omega
  subst e2
  rw [sp_vo_congr c (fun p hp => by rw [← (hM.2.2.2.2.2.2.2 p hp).2.2.2.2.1, (hM'.2.2.2.2.2.2.2 p hp).2.2.2.2.1])] at hb
  omega
theorem sp_zv_ex {I : Nat → Nat → Int} {L : Nat → Nat → Int64} (hR : Rl I L) : ∃ b, sp_zv I L b := by
  obtain ⟨c, kd, vv, vo, aw, ba, ro, egg, se, hWW, hM⟩ := hR.vw
  obtain ⟨g, hg1, hg, hgs, hgp⟩ := hM.pres
  have hvb := sp_vo_bd (vt := vo) (s := sp_pr c g) (n := c) (fun p hp => (hM.2.2.2.2.2.2.2 p hp).2.2.2.2.2.1)
  obtain ⟨b, hb⟩ := Int.eq_ofNat_of_zero_le hvb.1
  exact ⟨b, c, kd, vv, vo, aw, ba, ro, egg, se, g, hM, hg1, hg, hb⟩
set_option maxRecDepth 8000 in
set_option maxHeartbeats 2000000 in
theorem op_mean_0 {sc : List Int} {I : Nat → Nat → Int} {L : Nat → Nat → Int64} (hR : Rl I L) {p : Nat} (hp : p < 5) (hzz : ∀ b : Nat, sp_zv I L b → b ≠ 0) : x_PQ sc xN_G_mean [xr 0, xi (↑p), xi 0] xN_m_mean [xr 143, xi (↑p), xi 0] (xSH, I, L) := by
  obtain ⟨⟨hNs, hNo, hNa, hNb, hNr, hNd, hNg, hNe, hNp, hNk⟩, hI, hT, hX, hC, hH, hQ⟩ := id hR
  have hs := hNs
  unfold RNs at hs
  obtain ⟨c, kd, vv, vo, aw, ba, ro, egg, se, hWW, hM⟩ := hR.vw
  have hT2 := hT
  unfold RT at hT2
  obtain ⟨T, nn, cc, cd, we, en, qv, hXt⟩ := RT.tr hT (t := I 143 13) (by omega) (by omega)
  have hX2 := id hXt
  obtain ⟨u1, u2, u3, u4, u5, u6, u7, u8, u9, u10⟩ := hX2
  have hMT := u10 rfl
  obtain ⟨g, hg1, hg, hgs, hgp⟩ := hM.pres
  have hI17 : I 1 7 = I 143 13 := by omega
  have hs64 := sp_mask64 (sp_nz aw) (n := c) (by have := hWW.2.1; omega)
  have hsN : sp_mask (sp_nz aw) c = (((sp_mask (sp_nz aw) c).toNat : Nat) : Int) := by have := (sp_mask_bd (sp_nz aw) c).1; omega
  obtain ⟨hg_1, hg_2, hg_3, hg_4, hg_5, hg_6⟩ := id hNg
  obtain ⟨n, hn⟩ := Int.eq_ofNat_of_zero_le hg_2
  obtain ⟨ag, hag0⟩ : ∃ ag : Nat → Nat, ∀ k, ag k = (I 150 k).toNat := ⟨_, fun _ => rfl⟩
  have hag : ∀ k, k < n → I 150 k = (ag k : Int) ∧ ag k < 5 := fun k hk => by have h1 := hg_5 k (by omega); have h2 := hag0 k; omega
  have hvo : ∀ p, p < c → 0 ≤ vo p ∧ vo p ≤ 9 := fun p hp => (hM.2.2.2.2.2.2.2 p hp).2.2.2.2.2.1
  have hc6 : c ≤ 6 := by have := hWW.2.1; omega
  have hvb := sp_vo_bd (vt := vo) (s := (sp_mask (sp_nz aw) c).toNat) (n := c) hvo
  obtain ⟨b, hb⟩ := Int.eq_ofNat_of_zero_le hvb.1
  have hlb := sp_lb_bd (lk := (sp_lk kd vv ba ro egg se cd we en cc)) (vt := vo) (s := (sp_mask (sp_nz aw) c).toNat) (a := p) c hvo (fun q hq => sp_lk_bd hM hMT hq hp (by have h1 := hNo q (by omega); have h2 := (hM.2.2.2.2.2.2.2 q hq).2.2.1; omega) (fun j hj => by have h1 := hNr q j (by omega) hj; have h2 := ((hM.2.2.2.2.2.2.2 q hq).2.2.2.2.2.2.2 j hj).1; omega))
  have hz := hzz b ⟨c, kd, vv, vo, aw, ba, ro, egg, se, g, hM, hg1, hg, by rw [hgp]; exact hb⟩
  refine x_CQ.of (M := xM_G_mean) rfl (Nat.le_of_ble_eq_true rfl) ?_
  refine ex_st 1 (pc' := 1) (ls' := [(0, xr 0), (1, xi (↑p)), (2, xi 0)]) (st' := [xi (↑p)]) rfl ?_
  refine ex_call (ct_G_isThing (by first | omega | (constructor <;> omega) | assumption)) (by decide) rfl ⟨rfl, rfl, rfl⟩ ⟨Nat.le_of_ble_eq_true rfl, rfl, rfl⟩ (Nat.le_of_ble_eq_true rfl) rfl ?_
  refine ex_beq rfl (fun h0 => ?_) (fun h0 => ?_)
  · exfalso; omega
  · refine ex_st 1 (pc' := 8) (ls' := [(0, xr 0), (1, xi (↑p)), (2, xi 0)]) (st' := [xi 0]) rfl ?_
    refine ex_call (ct_G_isZeroOrOne (by first | omega | (constructor <;> omega) | assumption)) (by decide) rfl ⟨rfl, rfl, rfl⟩ ⟨Nat.le_of_ble_eq_true rfl, rfl, rfl⟩ (Nat.le_of_ble_eq_true rfl) rfl ?_
    refine ex_bne rfl (fun h1 => ?_) (fun h1 => ?_)
    · refine ex_st 3 (pc' := 23) (ls' := [(0, xr 0), (1, xi (↑p)), (2, xi 0)]) (st' := [xr 1, xr 0]) rfl ?_
      refine ex_callQ (ct_G_ballotOf (L := L) WS.mk1 hWW u2 u3 u4 u5 u6 u7 u8 hI17 u9 u1) (by decide) rfl ⟨rfl, rfl, rfl⟩ ⟨Nat.le_of_ble_eq_true rfl, rfl, rfl⟩ (Nat.le_of_ble_eq_true rfl) rfl (fun ra m2 hQ => ?_)
      obtain ⟨rfl, J, rfl, hJ, hBW, hP, hBM⟩ := hQ
      rw [hsN] at hP
      refine ex_st 3 (pc' := 29) (ls' := [(3, xr 92), (0, xr 0), (1, xi (↑p)), (2, xi 0)]) (st' := [xi (↑p), xr 92]) rfl ?_
      refine ex_call (ct_B_likedByVotes hBW hs64 hP (a := p) hp) (by decide) rfl ⟨rfl, rfl, rfl⟩ ⟨Nat.le_of_ble_eq_true rfl, rfl, rfl⟩ (Nat.le_of_ble_eq_true rfl) rfl ?_
      refine ex_st 3 (pc' := 37) (ls' := [(3, xr 92), (0, xr 0), (1, xi (↑p)), (2, xi 0)]) (st' := [xi (J 92 1), xr 92, xi ((sp_lb (sp_lk kd vv ba ro egg se cd we en cc) vo (sp_mask (sp_nz aw) c).toNat p c))]) rfl ?_
      rw [hP]
      have hcv := ct_B_votesOf (sc := sc) (L := L) hBW (s := (sp_mask (sp_nz aw) c).toNat) hs64
      rw [hb] at hcv
      refine ex_call hcv (by decide) rfl ⟨rfl, rfl, rfl⟩ ⟨Nat.le_of_ble_eq_true rfl, rfl, rfl⟩ (Nat.le_of_ble_eq_true rfl) rfl ?_
      refine ex_st 1 (pc' := 41) (ls' := [(3, xr 92), (0, xr 0), (1, xi (↑p)), (2, xi 0)]) (st' := [xi 0, xi (↑b), xi ((sp_lb (sp_lk kd vv ba ro egg se cd we en cc) vo (sp_mask (sp_nz aw) c).toNat p c))]) rfl ?_
      refine ex_call (ct_G_fraction0 (x := (sp_lb (sp_lk kd vv ba ro egg se cd we en cc) vo (sp_mask (sp_nz aw) c).toNat p c)) (b := b) (by omega) (by omega) (by omega)) (by decide) rfl ⟨rfl, rfl, rfl⟩ ⟨Nat.le_of_ble_eq_true rfl, rfl, rfl⟩ (Nat.le_of_ble_eq_true rfl) rfl ?_
      refine ex_retl rfl rfl ?_
      refine x_CQ.of (M := xM_m_mean) rfl (Nat.le_of_ble_eq_true rfl) ?_
      refine ex_st 2 (pc' := 2) (ls' := [(0, xr 143), (1, xi (↑p)), (2, xi 0)]) (st' := [xr 143, xr 143]) rfl ?_
      have hMx := hM.fr2 (I' := J) (fun k j a b => hJ k j (by omega))
      have hTx := hMT.fr2 (I' := J) (fun k j a b => hJ k j (by omega))
      have hgx : J 143 1 = (g : Int) := by rw [hJ _ _ (by omega)]; exact hg1
      have hnx : J 143 2 = (n : Int) := by rw [hJ _ _ (by omega)]; exact hn
      have hagx : ∀ k, k < n → J 150 k = (ag k : Int) ∧ ag k < 5 := fun k hk => by rw [hJ _ _ (by omega)]; exact hag k hk
      have hcp := ct_m_present (sc := sc) (I := J) (L := L) (by rw [hJ _ _ (by omega)]; exact hM.1) hc6 hgx hg
      rw [hgp] at hcp
      refine ex_call hcp (by decide) rfl ⟨rfl, rfl, rfl⟩ ⟨Nat.le_of_ble_eq_true rfl, rfl, rfl⟩ (Nat.le_of_ble_eq_true rfl) rfl ?_
      have hcw := ct_m_votesOf (sc := sc) (L := L) hMx (s := (sp_mask (sp_nz aw) c).toNat) hs64
      rw [hb] at hcw
      refine ex_call hcw (by decide) rfl ⟨rfl, rfl, rfl⟩ ⟨Nat.le_of_ble_eq_true rfl, rfl, rfl⟩ (Nat.le_of_ble_eq_true rfl) rfl ?_
      refine ex_st 3 (pc' := 11) (ls' := [(3, xi (↑b)), (0, xr 143), (1, xi (↑p)), (2, xi 0)]) (st' := [xi (↑p), xr 143]) rfl ?_
      refine ex_call (ct_m_isThing (by first | omega | (constructor <;> omega) | assumption)) (by decide) rfl ⟨rfl, rfl, rfl⟩ ⟨Nat.le_of_ble_eq_true rfl, rfl, rfl⟩ (Nat.le_of_ble_eq_true rfl) rfl ?_
      refine ex_beq rfl (fun h2 => ?_) (fun h2 => ?_)
      · exfalso; omega
      · refine ex_st 4 (pc' := 21) (ls' := [(3, xi (↑b)), (0, xr 143), (1, xi (↑p)), (2, xi 0)]) (st' := [xi 1, xi 0, xi 0, xr 143]) rfl ?_
        refine ex_call (ct_m_in (by first | omega | (constructor <;> omega) | assumption) (by first | omega | (constructor <;> omega) | assumption) (by first | omega | (constructor <;> omega) | assumption)) (by decide) rfl ⟨rfl, rfl, rfl⟩ ⟨Nat.le_of_ble_eq_true rfl, rfl, rfl⟩ (Nat.le_of_ble_eq_true rfl) rfl ?_
        refine ex_beq rfl (fun h3 => ?_) (fun h3 => ?_)
        · exfalso; omega
        · refine ex_st 1 (pc' := 28) (ls' := [(3, xi (↑b)), (0, xr 143), (1, xi (↑p)), (2, xi 0)]) (st' := [xi (↑b)]) rfl ?_
          refine ex_if rfl (by first | omega | (constructor <;> omega) | assumption) (fun (h4 : ¬ (↑b : Int) = 0) => ?_) (fun (h4 : ¬ ¬ (↑b : Int) = 0) => ?_)
          · refine ex_st 4 (pc' := 41) (ls' := [(5, xi 0), (4, xi 0), (3, xi (↑b)), (0, xr 143), (1, xi (↑p)), (2, xi 0)]) (st' := []) rfl ?_
            have hMx := hM.fr2 (I' := J) (fun k j a b => hJ k j (by omega))
            have hTx := hMT.fr2 (I' := J) (fun k j a b => hJ k j (by omega))
            have hgx : J 143 1 = (g : Int) := by rw [hJ _ _ (by omega)]; exact hg1
            have hnx : J 143 2 = (n : Int) := by rw [hJ _ _ (by omega)]; exact hn
            have hagx : ∀ k, k < n → J 150 k = (ag k : Int) ∧ ag k < 5 := fun k hk => by rw [hJ _ _ (by omega)]; exact hag k hk
            refine lp_mmean (L := L) hMx hTx hgx hg hgs hp (fun _ _ _ => rfl) 0 (Nat.zero_le _) (fun K hK => ?_)
            have hKI : ∀ k j, ¬ (92 ≤ k ∧ k ≤ 103) → ¬ x_ms k j → K k j = I k j := fun k j h1 h2 => by rw [hK _ _ (by unfold x_ms at h2; omega), hJ _ _ (by omega)]
            refine ex_st 4 (pc' := 98) (ls' := [(5, xi (↑c)), (4, xi ((sp_lb (sp_lk kd vv ba ro egg se cd we en cc) vo (sp_mask (sp_nz aw) c).toNat p c))), (3, xi (↑b)), (0, xr 143), (1, xi (↑p)), (2, xi 0)]) (st' := [xi 0, xi (↑b), xi ((sp_lb (sp_lk kd vv ba ro egg se cd we en cc) vo (sp_mask (sp_nz aw) c).toNat p c)), xr 143]) rfl ?_
            refine ex_call (ct_m_lowest0 (x := (sp_lb (sp_lk kd vv ba ro egg se cd we en cc) vo (sp_mask (sp_nz aw) c).toNat p c)) (b := b) (by omega) (by omega) (by omega)) (by decide) rfl ⟨rfl, rfl, rfl⟩ ⟨Nat.le_of_ble_eq_true rfl, rfl, rfl⟩ (Nat.le_of_ble_eq_true rfl) rfl ?_
            refine ex_retl rfl rfl ?_
            exact ⟨rfl, _, _, rfl, hR.fr (fun k j hk => hKI k j (by unfold x_scr at hk; omega) (by unfold x_scr at hk; unfold x_ms; omega)) (fun _ _ => rfl)⟩
          · exfalso; omega
    · exfalso; omega
set_option maxRecDepth 8000 in
set_option maxHeartbeats 2000000 in
theorem op_mean_0z {sc : List Int} {I : Nat → Nat → Int} {L : Nat → Nat → Int64} (hR : Rl I L) {p : Nat} (hp : p < 5) (hzz : ∀ b : Nat, sp_zv I L b → b = 0) : x_PQ sc xN_G_mean [xr 0, xi (↑p), xi 0] xN_m_mean [xr 143, xi (↑p), xi 0] (xSH, I, L) := by
  obtain ⟨⟨hNs, hNo, hNa, hNb, hNr, hNd, hNg, hNe, hNp, hNk⟩, hI, hT, hX, hC, hH, hQ⟩ := id hR
  have hs := hNs
  unfold RNs at hs
  obtain ⟨c, kd, vv, vo, aw, ba, ro, egg, se, hWW, hM⟩ := hR.vw
  have hT2 := hT
  unfold RT at hT2
  obtain ⟨T, nn, cc, cd, we, en, qv, hXt⟩ := RT.tr hT (t := I 143 13) (by omega) (by omega)
  have hX2 := id hXt
  obtain ⟨u1, u2, u3, u4, u5, u6, u7, u8, u9, u10⟩ := hX2
  have hMT := u10 rfl
  obtain ⟨g, hg1, hg, hgs, hgp⟩ := hM.pres
  have hI17 : I 1 7 = I 143 13 := by omega
  have hs64 := sp_mask64 (sp_nz aw) (n := c) (by have := hWW.2.1; omega)
  have hsN : sp_mask (sp_nz aw) c = (((sp_mask (sp_nz aw) c).toNat : Nat) : Int) := by have := (sp_mask_bd (sp_nz aw) c).1; omega
  obtain ⟨hg_1, hg_2, hg_3, hg_4, hg_5, hg_6⟩ := id hNg
  obtain ⟨n, hn⟩ := Int.eq_ofNat_of_zero_le hg_2
  obtain ⟨ag, hag0⟩ : ∃ ag : Nat → Nat, ∀ k, ag k = (I 150 k).toNat := ⟨_, fun _ => rfl⟩
  have hag : ∀ k, k < n → I 150 k = (ag k : Int) ∧ ag k < 5 := fun k hk => by have h1 := hg_5 k (by omega); have h2 := hag0 k; omega
  have hvo : ∀ p, p < c → 0 ≤ vo p ∧ vo p ≤ 9 := fun p hp => (hM.2.2.2.2.2.2.2 p hp).2.2.2.2.2.1
  have hc6 : c ≤ 6 := by have := hWW.2.1; omega
  have hvb := sp_vo_bd (vt := vo) (s := (sp_mask (sp_nz aw) c).toNat) (n := c) hvo
  obtain ⟨b, hb⟩ := Int.eq_ofNat_of_zero_le hvb.1
  have hlb := sp_lb_bd (lk := (sp_lk kd vv ba ro egg se cd we en cc)) (vt := vo) (s := (sp_mask (sp_nz aw) c).toNat) (a := p) c hvo (fun q hq => sp_lk_bd hM hMT hq hp (by have h1 := hNo q (by omega); have h2 := (hM.2.2.2.2.2.2.2 q hq).2.2.1; omega) (fun j hj => by have h1 := hNr q j (by omega) hj; have h2 := ((hM.2.2.2.2.2.2.2 q hq).2.2.2.2.2.2.2 j hj).1; omega))
  have hz := hzz b ⟨c, kd, vv, vo, aw, ba, ro, egg, se, g, hM, hg1, hg, by rw [hgp]; exact hb⟩
  refine x_CQ.of (M := xM_G_mean) rfl (Nat.le_of_ble_eq_true rfl) ?_
  refine ex_st 1 (pc' := 1) (ls' := [(0, xr 0), (1, xi (↑p)), (2, xi 0)]) (st' := [xi (↑p)]) rfl ?_
  refine ex_call (ct_G_isThing (by first | omega | (constructor <;> omega) | assumption)) (by decide) rfl ⟨rfl, rfl, rfl⟩ ⟨Nat.le_of_ble_eq_true rfl, rfl, rfl⟩ (Nat.le_of_ble_eq_true rfl) rfl ?_
  refine ex_beq rfl (fun h0 => ?_) (fun h0 => ?_)
  · exfalso; omega
  · refine ex_st 1 (pc' := 8) (ls' := [(0, xr 0), (1, xi (↑p)), (2, xi 0)]) (st' := [xi 0]) rfl ?_
    refine ex_call (ct_G_isZeroOrOne (by first | omega | (constructor <;> omega) | assumption)) (by decide) rfl ⟨rfl, rfl, rfl⟩ ⟨Nat.le_of_ble_eq_true rfl, rfl, rfl⟩ (Nat.le_of_ble_eq_true rfl) rfl ?_
    refine ex_bne rfl (fun h1 => ?_) (fun h1 => ?_)
    · refine ex_st 3 (pc' := 23) (ls' := [(0, xr 0), (1, xi (↑p)), (2, xi 0)]) (st' := [xr 1, xr 0]) rfl ?_
      refine ex_callQ (ct_G_ballotOf (L := L) WS.mk1 hWW u2 u3 u4 u5 u6 u7 u8 hI17 u9 u1) (by decide) rfl ⟨rfl, rfl, rfl⟩ ⟨Nat.le_of_ble_eq_true rfl, rfl, rfl⟩ (Nat.le_of_ble_eq_true rfl) rfl (fun ra m2 hQ => ?_)
      obtain ⟨rfl, J, rfl, hJ, hBW, hP, hBM⟩ := hQ
      rw [hsN] at hP
      refine ex_st 3 (pc' := 29) (ls' := [(3, xr 92), (0, xr 0), (1, xi (↑p)), (2, xi 0)]) (st' := [xi (↑p), xr 92]) rfl ?_
      refine ex_call (ct_B_likedByVotes hBW hs64 hP (a := p) hp) (by decide) rfl ⟨rfl, rfl, rfl⟩ ⟨Nat.le_of_ble_eq_true rfl, rfl, rfl⟩ (Nat.le_of_ble_eq_true rfl) rfl ?_
      refine ex_st 3 (pc' := 37) (ls' := [(3, xr 92), (0, xr 0), (1, xi (↑p)), (2, xi 0)]) (st' := [xi (J 92 1), xr 92, xi ((sp_lb (sp_lk kd vv ba ro egg se cd we en cc) vo (sp_mask (sp_nz aw) c).toNat p c))]) rfl ?_
      rw [hP]
      have hcv := ct_B_votesOf (sc := sc) (L := L) hBW (s := (sp_mask (sp_nz aw) c).toNat) hs64
      rw [hb, hz] at hcv
      refine ex_call hcv (by decide) rfl ⟨rfl, rfl, rfl⟩ ⟨Nat.le_of_ble_eq_true rfl, rfl, rfl⟩ (Nat.le_of_ble_eq_true rfl) rfl ?_
      refine ex_st 1 (pc' := 41) (ls' := [(3, xr 92), (0, xr 0), (1, xi (↑p)), (2, xi 0)]) (st' := [xi 0, xi 0, xi ((sp_lb (sp_lk kd vv ba ro egg se cd we en cc) vo (sp_mask (sp_nz aw) c).toNat p c))]) rfl ?_
      refine ex_call ct_G_fractionN (by decide) rfl ⟨rfl, rfl, rfl⟩ ⟨Nat.le_of_ble_eq_true rfl, rfl, rfl⟩ (Nat.le_of_ble_eq_true rfl) rfl ?_
      refine ex_retl rfl rfl ?_
      refine x_CQ.of (M := xM_m_mean) rfl (Nat.le_of_ble_eq_true rfl) ?_
      refine ex_st 2 (pc' := 2) (ls' := [(0, xr 143), (1, xi (↑p)), (2, xi 0)]) (st' := [xr 143, xr 143]) rfl ?_
      have hMx := hM.fr2 (I' := J) (fun k j a b => hJ k j (by omega))
      have hTx := hMT.fr2 (I' := J) (fun k j a b => hJ k j (by omega))
      have hgx : J 143 1 = (g : Int) := by rw [hJ _ _ (by omega)]; exact hg1
      have hnx : J 143 2 = (n : Int) := by rw [hJ _ _ (by omega)]; exact hn
      have hagx : ∀ k, k < n → J 150 k = (ag k : Int) ∧ ag k < 5 := fun k hk => by rw [hJ _ _ (by omega)]; exact hag k hk
      have hcp := ct_m_present (sc := sc) (I := J) (L := L) (by rw [hJ _ _ (by omega)]; exact hM.1) hc6 hgx hg
      rw [hgp] at hcp
      refine ex_call hcp (by decide) rfl ⟨rfl, rfl, rfl⟩ ⟨Nat.le_of_ble_eq_true rfl, rfl, rfl⟩ (Nat.le_of_ble_eq_true rfl) rfl ?_
      have hcw := ct_m_votesOf (sc := sc) (L := L) hMx (s := (sp_mask (sp_nz aw) c).toNat) hs64
      rw [hb, hz] at hcw
      refine ex_call hcw (by decide) rfl ⟨rfl, rfl, rfl⟩ ⟨Nat.le_of_ble_eq_true rfl, rfl, rfl⟩ (Nat.le_of_ble_eq_true rfl) rfl ?_
      refine ex_st 3 (pc' := 11) (ls' := [(3, xi 0), (0, xr 143), (1, xi (↑p)), (2, xi 0)]) (st' := [xi (↑p), xr 143]) rfl ?_
      refine ex_call (ct_m_isThing (by first | omega | (constructor <;> omega) | assumption)) (by decide) rfl ⟨rfl, rfl, rfl⟩ ⟨Nat.le_of_ble_eq_true rfl, rfl, rfl⟩ (Nat.le_of_ble_eq_true rfl) rfl ?_
      refine ex_beq rfl (fun h2 => ?_) (fun h2 => ?_)
      · exfalso; omega
      · refine ex_st 4 (pc' := 21) (ls' := [(3, xi 0), (0, xr 143), (1, xi (↑p)), (2, xi 0)]) (st' := [xi 1, xi 0, xi 0, xr 143]) rfl ?_
        refine ex_call (ct_m_in (by first | omega | (constructor <;> omega) | assumption) (by first | omega | (constructor <;> omega) | assumption) (by first | omega | (constructor <;> omega) | assumption)) (by decide) rfl ⟨rfl, rfl, rfl⟩ ⟨Nat.le_of_ble_eq_true rfl, rfl, rfl⟩ (Nat.le_of_ble_eq_true rfl) rfl ?_
        refine ex_beq rfl (fun h3 => ?_) (fun h3 => ?_)
        · exfalso; omega
        · refine ex_st 1 (pc' := 28) (ls' := [(3, xi 0), (0, xr 143), (1, xi (↑p)), (2, xi 0)]) (st' := [xi 0]) rfl ?_
          refine ex_st 1 (pc' := 31) (ls' := [(3, xi 0), (0, xr 143), (1, xi (↑p)), (2, xi 0)]) (st' := []) rfl ?_
          refine ex_st 1 (pc' := 34) (ls' := [(3, xi 0), (0, xr 143), (1, xi (↑p)), (2, xi 0)]) (st' := [xl (Int64.ofInt (-9223372036854775808))]) rfl ?_
          refine ex_retl rfl rfl ?_
          exact ⟨rfl, _, _, rfl, hR.fr (fun k j hk => hJ k j (by unfold x_scr at hk; omega)) (fun _ _ => rfl)⟩
    · exfalso; omega
set_option maxRecDepth 8000 in
set_option maxHeartbeats 2000000 in
theorem op_mean_1 {sc : List Int} {I : Nat → Nat → Int} {L : Nat → Nat → Int64} (hR : Rl I L) {p : Nat} (hp : p < 5) (hzz : ∀ b : Nat, sp_zv I L b → b ≠ 0) : x_PQ sc xN_G_mean [xr 0, xi (↑p), xi 1] xN_m_mean [xr 143, xi (↑p), xi 1] (xSH, I, L) := by
  obtain ⟨⟨hNs, hNo, hNa, hNb, hNr, hNd, hNg, hNe, hNp, hNk⟩, hI, hT, hX, hC, hH, hQ⟩ := id hR
  have hs := hNs
  unfold RNs at hs
  obtain ⟨c, kd, vv, vo, aw, ba, ro, egg, se, hWW, hM⟩ := hR.vw
  have hT2 := hT
  unfold RT at hT2
  obtain ⟨T, nn, cc, cd, we, en, qv, hXt⟩ := RT.tr hT (t := I 143 13) (by omega) (by omega)
  have hX2 := id hXt
  obtain ⟨u1, u2, u3, u4, u5, u6, u7, u8, u9, u10⟩ := hX2
  have hMT := u10 rfl
  obtain ⟨g, hg1, hg, hgs, hgp⟩ := hM.pres
  have hI17 : I 1 7 = I 143 13 := by omega
  have hs64 := sp_mask64 (sp_nz aw) (n := c) (by have := hWW.2.1; omega)
  have hsN : sp_mask (sp_nz aw) c = (((sp_mask (sp_nz aw) c).toNat : Nat) : Int) := by have := (sp_mask_bd (sp_nz aw) c).1; omega
  obtain ⟨hg_1, hg_2, hg_3, hg_4, hg_5, hg_6⟩ := id hNg
  obtain ⟨n, hn⟩ := Int.eq_ofNat_of_zero_le hg_2
  obtain ⟨ag, hag0⟩ : ∃ ag : Nat → Nat, ∀ k, ag k = (I 150 k).toNat := ⟨_, fun _ => rfl⟩
  have hag : ∀ k, k < n → I 150 k = (ag k : Int) ∧ ag k < 5 := fun k hk => by have h1 := hg_5 k (by omega); have h2 := hag0 k; omega
  have hvo : ∀ p, p < c → 0 ≤ vo p ∧ vo p ≤ 9 := fun p hp => (hM.2.2.2.2.2.2.2 p hp).2.2.2.2.2.1
  have hc6 : c ≤ 6 := by have := hWW.2.1; omega
  have hvb := sp_vo_bd (vt := vo) (s := (sp_mask (sp_nz aw) c).toNat) (n := c) hvo
  obtain ⟨b, hb⟩ := Int.eq_ofNat_of_zero_le hvb.1
  have hlb := sp_lb_bd (lk := (sp_lk kd vv ba ro egg se cd we en cc)) (vt := vo) (s := (sp_mask (sp_nz aw) c).toNat) (a := p) c hvo (fun q hq => sp_lk_bd hM hMT hq hp (by have h1 := hNo q (by omega); have h2 := (hM.2.2.2.2.2.2.2 q hq).2.2.1; omega) (fun j hj => by have h1 := hNr q j (by omega) hj; have h2 := ((hM.2.2.2.2.2.2.2 q hq).2.2.2.2.2.2.2 j hj).1; omega))
  have hz := hzz b ⟨c, kd, vv, vo, aw, ba, ro, egg, se, g, hM, hg1, hg, by rw [hgp]; exact hb⟩
  refine x_CQ.of (M := xM_G_mean) rfl (Nat.le_of_ble_eq_true rfl) ?_
  refine ex_st 1 (pc' := 1) (ls' := [(0, xr 0), (1, xi (↑p)), (2, xi 1)]) (st' := [xi (↑p)]) rfl ?_
  refine ex_call (ct_G_isThing (by first | omega | (constructor <;> omega) | assumption)) (by decide) rfl ⟨rfl, rfl, rfl⟩ ⟨Nat.le_of_ble_eq_true rfl, rfl, rfl⟩ (Nat.le_of_ble_eq_true rfl) rfl ?_
  refine ex_beq rfl (fun h0 => ?_) (fun h0 => ?_)
  · exfalso; omega
  · refine ex_st 1 (pc' := 8) (ls' := [(0, xr 0), (1, xi (↑p)), (2, xi 1)]) (st' := [xi 1]) rfl ?_
    refine ex_call (ct_G_isZeroOrOne (by first | omega | (constructor <;> omega) | assumption)) (by decide) rfl ⟨rfl, rfl, rfl⟩ ⟨Nat.le_of_ble_eq_true rfl, rfl, rfl⟩ (Nat.le_of_ble_eq_true rfl) rfl ?_
    refine ex_bne rfl (fun h1 => ?_) (fun h1 => ?_)
    · refine ex_st 3 (pc' := 23) (ls' := [(0, xr 0), (1, xi (↑p)), (2, xi 1)]) (st' := [xr 1, xr 0]) rfl ?_
      refine ex_callQ (ct_G_ballotOf (L := L) WS.mk1 hWW u2 u3 u4 u5 u6 u7 u8 hI17 u9 u1) (by decide) rfl ⟨rfl, rfl, rfl⟩ ⟨Nat.le_of_ble_eq_true rfl, rfl, rfl⟩ (Nat.le_of_ble_eq_true rfl) rfl (fun ra m2 hQ => ?_)
      obtain ⟨rfl, J, rfl, hJ, hBW, hP, hBM⟩ := hQ
      rw [hsN] at hP
      refine ex_st 3 (pc' := 29) (ls' := [(3, xr 92), (0, xr 0), (1, xi (↑p)), (2, xi 1)]) (st' := [xi (↑p), xr 92]) rfl ?_
      refine ex_call (ct_B_likedByVotes hBW hs64 hP (a := p) hp) (by decide) rfl ⟨rfl, rfl, rfl⟩ ⟨Nat.le_of_ble_eq_true rfl, rfl, rfl⟩ (Nat.le_of_ble_eq_true rfl) rfl ?_
      refine ex_st 3 (pc' := 37) (ls' := [(3, xr 92), (0, xr 0), (1, xi (↑p)), (2, xi 1)]) (st' := [xi (J 92 1), xr 92, xi ((sp_lb (sp_lk kd vv ba ro egg se cd we en cc) vo (sp_mask (sp_nz aw) c).toNat p c))]) rfl ?_
      rw [hP]
      have hcv := ct_B_votesOf (sc := sc) (L := L) hBW (s := (sp_mask (sp_nz aw) c).toNat) hs64
      rw [hb] at hcv
      refine ex_call hcv (by decide) rfl ⟨rfl, rfl, rfl⟩ ⟨Nat.le_of_ble_eq_true rfl, rfl, rfl⟩ (Nat.le_of_ble_eq_true rfl) rfl ?_
      refine ex_st 1 (pc' := 41) (ls' := [(3, xr 92), (0, xr 0), (1, xi (↑p)), (2, xi 1)]) (st' := [xi 1, xi (↑b), xi ((sp_lb (sp_lk kd vv ba ro egg se cd we en cc) vo (sp_mask (sp_nz aw) c).toNat p c))]) rfl ?_
      refine ex_call (ct_G_fraction1 (x := (sp_lb (sp_lk kd vv ba ro egg se cd we en cc) vo (sp_mask (sp_nz aw) c).toNat p c)) (b := b) (by omega) (by omega) (by omega)) (by decide) rfl ⟨rfl, rfl, rfl⟩ ⟨Nat.le_of_ble_eq_true rfl, rfl, rfl⟩ (Nat.le_of_ble_eq_true rfl) rfl ?_
      refine ex_retl rfl rfl ?_
      refine x_CQ.of (M := xM_m_mean) rfl (Nat.le_of_ble_eq_true rfl) ?_
      refine ex_st 2 (pc' := 2) (ls' := [(0, xr 143), (1, xi (↑p)), (2, xi 1)]) (st' := [xr 143, xr 143]) rfl ?_
      have hMx := hM.fr2 (I' := J) (fun k j a b => hJ k j (by omega))
      have hTx := hMT.fr2 (I' := J) (fun k j a b => hJ k j (by omega))
      have hgx : J 143 1 = (g : Int) := by rw [hJ _ _ (by omega)]; exact hg1
      have hnx : J 143 2 = (n : Int) := by rw [hJ _ _ (by omega)]; exact hn
      have hagx : ∀ k, k < n → J 150 k = (ag k : Int) ∧ ag k < 5 := fun k hk => by rw [hJ _ _ (by omega)]; exact hag k hk
      have hcp := ct_m_present (sc := sc) (I := J) (L := L) (by rw [hJ _ _ (by omega)]; exact hM.1) hc6 hgx hg
      rw [hgp] at hcp
      refine ex_call hcp (by decide) rfl ⟨rfl, rfl, rfl⟩ ⟨Nat.le_of_ble_eq_true rfl, rfl, rfl⟩ (Nat.le_of_ble_eq_true rfl) rfl ?_
      have hcw := ct_m_votesOf (sc := sc) (L := L) hMx (s := (sp_mask (sp_nz aw) c).toNat) hs64
      rw [hb] at hcw
      refine ex_call hcw (by decide) rfl ⟨rfl, rfl, rfl⟩ ⟨Nat.le_of_ble_eq_true rfl, rfl, rfl⟩ (Nat.le_of_ble_eq_true rfl) rfl ?_
      refine ex_st 3 (pc' := 11) (ls' := [(3, xi (↑b)), (0, xr 143), (1, xi (↑p)), (2, xi 1)]) (st' := [xi (↑p), xr 143]) rfl ?_
      refine ex_call (ct_m_isThing (by first | omega | (constructor <;> omega) | assumption)) (by decide) rfl ⟨rfl, rfl, rfl⟩ ⟨Nat.le_of_ble_eq_true rfl, rfl, rfl⟩ (Nat.le_of_ble_eq_true rfl) rfl ?_
      refine ex_beq rfl (fun h2 => ?_) (fun h2 => ?_)
      · exfalso; omega
      · refine ex_st 4 (pc' := 21) (ls' := [(3, xi (↑b)), (0, xr 143), (1, xi (↑p)), (2, xi 1)]) (st' := [xi 1, xi 0, xi 1, xr 143]) rfl ?_
        refine ex_call (ct_m_in (by first | omega | (constructor <;> omega) | assumption) (by first | omega | (constructor <;> omega) | assumption) (by first | omega | (constructor <;> omega) | assumption)) (by decide) rfl ⟨rfl, rfl, rfl⟩ ⟨Nat.le_of_ble_eq_true rfl, rfl, rfl⟩ (Nat.le_of_ble_eq_true rfl) rfl ?_
        refine ex_beq rfl (fun h3 => ?_) (fun h3 => ?_)
        · exfalso; omega
        · refine ex_st 1 (pc' := 28) (ls' := [(3, xi (↑b)), (0, xr 143), (1, xi (↑p)), (2, xi 1)]) (st' := [xi (↑b)]) rfl ?_
          refine ex_if rfl (by first | omega | (constructor <;> omega) | assumption) (fun (h4 : ¬ (↑b : Int) = 0) => ?_) (fun (h4 : ¬ ¬ (↑b : Int) = 0) => ?_)
          · refine ex_st 4 (pc' := 41) (ls' := [(5, xi 0), (4, xi 0), (3, xi (↑b)), (0, xr 143), (1, xi (↑p)), (2, xi 1)]) (st' := []) rfl ?_
            have hMx := hM.fr2 (I' := J) (fun k j a b => hJ k j (by omega))
            have hTx := hMT.fr2 (I' := J) (fun k j a b => hJ k j (by omega))
            have hgx : J 143 1 = (g : Int) := by rw [hJ _ _ (by omega)]; exact hg1
            have hnx : J 143 2 = (n : Int) := by rw [hJ _ _ (by omega)]; exact hn
            have hagx : ∀ k, k < n → J 150 k = (ag k : Int) ∧ ag k < 5 := fun k hk => by rw [hJ _ _ (by omega)]; exact hag k hk
            refine lp_mmean (L := L) hMx hTx hgx hg hgs hp (fun _ _ _ => rfl) 0 (Nat.zero_le _) (fun K hK => ?_)
            have hKI : ∀ k j, ¬ (92 ≤ k ∧ k ≤ 103) → ¬ x_ms k j → K k j = I k j := fun k j h1 h2 => by rw [hK _ _ (by unfold x_ms at h2; omega), hJ _ _ (by omega)]
            refine ex_st 4 (pc' := 98) (ls' := [(5, xi (↑c)), (4, xi ((sp_lb (sp_lk kd vv ba ro egg se cd we en cc) vo (sp_mask (sp_nz aw) c).toNat p c))), (3, xi (↑b)), (0, xr 143), (1, xi (↑p)), (2, xi 1)]) (st' := [xi 1, xi (↑b), xi ((sp_lb (sp_lk kd vv ba ro egg se cd we en cc) vo (sp_mask (sp_nz aw) c).toNat p c)), xr 143]) rfl ?_
            refine ex_call (ct_m_lowest1 (x := (sp_lb (sp_lk kd vv ba ro egg se cd we en cc) vo (sp_mask (sp_nz aw) c).toNat p c)) (b := b) (by omega) (by omega) (by omega)) (by decide) rfl ⟨rfl, rfl, rfl⟩ ⟨Nat.le_of_ble_eq_true rfl, rfl, rfl⟩ (Nat.le_of_ble_eq_true rfl) rfl ?_
            refine ex_retl rfl rfl ?_
            exact ⟨rfl, _, _, rfl, hR.fr (fun k j hk => hKI k j (by unfold x_scr at hk; omega) (by unfold x_scr at hk; unfold x_ms; omega)) (fun _ _ => rfl)⟩
          · exfalso; omega
    · exfalso; omega
set_option maxRecDepth 8000 in
set_option maxHeartbeats 2000000 in
theorem op_mean_1z {sc : List Int} {I : Nat → Nat → Int} {L : Nat → Nat → Int64} (hR : Rl I L) {p : Nat} (hp : p < 5) (hzz : ∀ b : Nat, sp_zv I L b → b = 0) : x_PQ sc xN_G_mean [xr 0, xi (↑p), xi 1] xN_m_mean [xr 143, xi (↑p), xi 1] (xSH, I, L) := by
  obtain ⟨⟨hNs, hNo, hNa, hNb, hNr, hNd, hNg, hNe, hNp, hNk⟩, hI, hT, hX, hC, hH, hQ⟩ := id hR
  have hs := hNs
  unfold RNs at hs
  obtain ⟨c, kd, vv, vo, aw, ba, ro, egg, se, hWW, hM⟩ := hR.vw
  have hT2 := hT
  unfold RT at hT2
  obtain ⟨T, nn, cc, cd, we, en, qv, hXt⟩ := RT.tr hT (t := I 143 13) (by omega) (by omega)
  have hX2 := id hXt
  obtain ⟨u1, u2, u3, u4, u5, u6, u7, u8, u9, u10⟩ := hX2
  have hMT := u10 rfl
  obtain ⟨g, hg1, hg, hgs, hgp⟩ := hM.pres
  have hI17 : I 1 7 = I 143 13 := by omega
  have hs64 := sp_mask64 (sp_nz aw) (n := c) (by have := hWW.2.1; omega)
  have hsN : sp_mask (sp_nz aw) c = (((sp_mask (sp_nz aw) c).toNat : Nat) : Int) := by have := (sp_mask_bd (sp_nz aw) c).1; omega
  obtain ⟨hg_1, hg_2, hg_3, hg_4, hg_5, hg_6⟩ := id hNg
  obtain ⟨n, hn⟩ := Int.eq_ofNat_of_zero_le hg_2
  obtain ⟨ag, hag0⟩ : ∃ ag : Nat → Nat, ∀ k, ag k = (I 150 k).toNat := ⟨_, fun _ => rfl⟩
  have hag : ∀ k, k < n → I 150 k = (ag k : Int) ∧ ag k < 5 := fun k hk => by have h1 := hg_5 k (by omega); have h2 := hag0 k; omega
  have hvo : ∀ p, p < c → 0 ≤ vo p ∧ vo p ≤ 9 := fun p hp => (hM.2.2.2.2.2.2.2 p hp).2.2.2.2.2.1
  have hc6 : c ≤ 6 := by have := hWW.2.1; omega
  have hvb := sp_vo_bd (vt := vo) (s := (sp_mask (sp_nz aw) c).toNat) (n := c) hvo
  obtain ⟨b, hb⟩ := Int.eq_ofNat_of_zero_le hvb.1
  have hlb := sp_lb_bd (lk := (sp_lk kd vv ba ro egg se cd we en cc)) (vt := vo) (s := (sp_mask (sp_nz aw) c).toNat) (a := p) c hvo (fun q hq => sp_lk_bd hM hMT hq hp (by have h1 := hNo q (by omega); have h2 := (hM.2.2.2.2.2.2.2 q hq).2.2.1; omega) (fun j hj => by have h1 := hNr q j (by omega) hj; have h2 := ((hM.2.2.2.2.2.2.2 q hq).2.2.2.2.2.2.2 j hj).1; omega))
  have hz := hzz b ⟨c, kd, vv, vo, aw, ba, ro, egg, se, g, hM, hg1, hg, by rw [hgp]; exact hb⟩
  refine x_CQ.of (M := xM_G_mean) rfl (Nat.le_of_ble_eq_true rfl) ?_
  refine ex_st 1 (pc' := 1) (ls' := [(0, xr 0), (1, xi (↑p)), (2, xi 1)]) (st' := [xi (↑p)]) rfl ?_
  refine ex_call (ct_G_isThing (by first | omega | (constructor <;> omega) | assumption)) (by decide) rfl ⟨rfl, rfl, rfl⟩ ⟨Nat.le_of_ble_eq_true rfl, rfl, rfl⟩ (Nat.le_of_ble_eq_true rfl) rfl ?_
  refine ex_beq rfl (fun h0 => ?_) (fun h0 => ?_)
  · exfalso; omega
  · refine ex_st 1 (pc' := 8) (ls' := [(0, xr 0), (1, xi (↑p)), (2, xi 1)]) (st' := [xi 1]) rfl ?_
    refine ex_call (ct_G_isZeroOrOne (by first | omega | (constructor <;> omega) | assumption)) (by decide) rfl ⟨rfl, rfl, rfl⟩ ⟨Nat.le_of_ble_eq_true rfl, rfl, rfl⟩ (Nat.le_of_ble_eq_true rfl) rfl ?_
    refine ex_bne rfl (fun h1 => ?_) (fun h1 => ?_)
    · refine ex_st 3 (pc' := 23) (ls' := [(0, xr 0), (1, xi (↑p)), (2, xi 1)]) (st' := [xr 1, xr 0]) rfl ?_
      refine ex_callQ (ct_G_ballotOf (L := L) WS.mk1 hWW u2 u3 u4 u5 u6 u7 u8 hI17 u9 u1) (by decide) rfl ⟨rfl, rfl, rfl⟩ ⟨Nat.le_of_ble_eq_true rfl, rfl, rfl⟩ (Nat.le_of_ble_eq_true rfl) rfl (fun ra m2 hQ => ?_)
      obtain ⟨rfl, J, rfl, hJ, hBW, hP, hBM⟩ := hQ
      rw [hsN] at hP
      refine ex_st 3 (pc' := 29) (ls' := [(3, xr 92), (0, xr 0), (1, xi (↑p)), (2, xi 1)]) (st' := [xi (↑p), xr 92]) rfl ?_
      refine ex_call (ct_B_likedByVotes hBW hs64 hP (a := p) hp) (by decide) rfl ⟨rfl, rfl, rfl⟩ ⟨Nat.le_of_ble_eq_true rfl, rfl, rfl⟩ (Nat.le_of_ble_eq_true rfl) rfl ?_
      refine ex_st 3 (pc' := 37) (ls' := [(3, xr 92), (0, xr 0), (1, xi (↑p)), (2, xi 1)]) (st' := [xi (J 92 1), xr 92, xi ((sp_lb (sp_lk kd vv ba ro egg se cd we en cc) vo (sp_mask (sp_nz aw) c).toNat p c))]) rfl ?_
      rw [hP]
      have hcv := ct_B_votesOf (sc := sc) (L := L) hBW (s := (sp_mask (sp_nz aw) c).toNat) hs64
      rw [hb, hz] at hcv
      refine ex_call hcv (by decide) rfl ⟨rfl, rfl, rfl⟩ ⟨Nat.le_of_ble_eq_true rfl, rfl, rfl⟩ (Nat.le_of_ble_eq_true rfl) rfl ?_
      refine ex_st 1 (pc' := 41) (ls' := [(3, xr 92), (0, xr 0), (1, xi (↑p)), (2, xi 1)]) (st' := [xi 1, xi 0, xi ((sp_lb (sp_lk kd vv ba ro egg se cd we en cc) vo (sp_mask (sp_nz aw) c).toNat p c))]) rfl ?_
      refine ex_call ct_G_fractionN (by decide) rfl ⟨rfl, rfl, rfl⟩ ⟨Nat.le_of_ble_eq_true rfl, rfl, rfl⟩ (Nat.le_of_ble_eq_true rfl) rfl ?_
      refine ex_retl rfl rfl ?_
      refine x_CQ.of (M := xM_m_mean) rfl (Nat.le_of_ble_eq_true rfl) ?_
      refine ex_st 2 (pc' := 2) (ls' := [(0, xr 143), (1, xi (↑p)), (2, xi 1)]) (st' := [xr 143, xr 143]) rfl ?_
      have hMx := hM.fr2 (I' := J) (fun k j a b => hJ k j (by omega))
      have hTx := hMT.fr2 (I' := J) (fun k j a b => hJ k j (by omega))
      have hgx : J 143 1 = (g : Int) := by rw [hJ _ _ (by omega)]; exact hg1
      have hnx : J 143 2 = (n : Int) := by rw [hJ _ _ (by omega)]; exact hn
      have hagx : ∀ k, k < n → J 150 k = (ag k : Int) ∧ ag k < 5 := fun k hk => by rw [hJ _ _ (by omega)]; exact hag k hk
      have hcp := ct_m_present (sc := sc) (I := J) (L := L) (by rw [hJ _ _ (by omega)]; exact hM.1) hc6 hgx hg
      rw [hgp] at hcp
      refine ex_call hcp (by decide) rfl ⟨rfl, rfl, rfl⟩ ⟨Nat.le_of_ble_eq_true rfl, rfl, rfl⟩ (Nat.le_of_ble_eq_true rfl) rfl ?_
      have hcw := ct_m_votesOf (sc := sc) (L := L) hMx (s := (sp_mask (sp_nz aw) c).toNat) hs64
      rw [hb, hz] at hcw
      refine ex_call hcw (by decide) rfl ⟨rfl, rfl, rfl⟩ ⟨Nat.le_of_ble_eq_true rfl, rfl, rfl⟩ (Nat.le_of_ble_eq_true rfl) rfl ?_
      refine ex_st 3 (pc' := 11) (ls' := [(3, xi 0), (0, xr 143), (1, xi (↑p)), (2, xi 1)]) (st' := [xi (↑p), xr 143]) rfl ?_
      refine ex_call (ct_m_isThing (by first | omega | (constructor <;> omega) | assumption)) (by decide) rfl ⟨rfl, rfl, rfl⟩ ⟨Nat.le_of_ble_eq_true rfl, rfl, rfl⟩ (Nat.le_of_ble_eq_true rfl) rfl ?_
      refine ex_beq rfl (fun h2 => ?_) (fun h2 => ?_)
      · exfalso; omega
      · refine ex_st 4 (pc' := 21) (ls' := [(3, xi 0), (0, xr 143), (1, xi (↑p)), (2, xi 1)]) (st' := [xi 1, xi 0, xi 1, xr 143]) rfl ?_
        refine ex_call (ct_m_in (by first | omega | (constructor <;> omega) | assumption) (by first | omega | (constructor <;> omega) | assumption) (by first | omega | (constructor <;> omega) | assumption)) (by decide) rfl ⟨rfl, rfl, rfl⟩ ⟨Nat.le_of_ble_eq_true rfl, rfl, rfl⟩ (Nat.le_of_ble_eq_true rfl) rfl ?_
        refine ex_beq rfl (fun h3 => ?_) (fun h3 => ?_)
        · exfalso; omega
        · refine ex_st 1 (pc' := 28) (ls' := [(3, xi 0), (0, xr 143), (1, xi (↑p)), (2, xi 1)]) (st' := [xi 0]) rfl ?_
          refine ex_st 1 (pc' := 31) (ls' := [(3, xi 0), (0, xr 143), (1, xi (↑p)), (2, xi 1)]) (st' := []) rfl ?_
          refine ex_st 1 (pc' := 34) (ls' := [(3, xi 0), (0, xr 143), (1, xi (↑p)), (2, xi 1)]) (st' := [xl (Int64.ofInt (-9223372036854775808))]) rfl ?_
          refine ex_retl rfl rfl ?_
          exact ⟨rfl, _, _, rfl, hR.fr (fun k j hk => hJ k j (by unfold x_scr at hk; omega)) (fun _ _ => rfl)⟩
    · exfalso; omega
theorem op_mean_x {sc : List Int} {I : Nat → Nat → Int} {L : Nat → Nat → Int64} (hR : Rl I L) {x w : Int} (hx : x_R x) (hw : x_R w) (h : ¬ ((0 ≤ x ∧ x < 5) ∧ (w = 0 ∨ w = 1))) : x_PQ sc xN_G_mean [xr 0, xi x, xi w] xN_m_mean [xr 143, xi x, xi w] (xSH, I, L) := by
  obtain ⟨⟨hNs, hNo, hNa, hNb, hNr, hNd, hNg, hNe, hNp, hNk⟩, hI, hT, hX, hC, hH, hQ⟩ := id hR
  have hs := hNs
  unfold RNs at hs
  obtain ⟨c, kd, vv, vo, aw, ba, ro, egg, se, hWW, hM⟩ := hR.vw
  obtain ⟨g, hg1, hg, hgs, hgp⟩ := hM.pres
  have hc6 : c ≤ 6 := by have := hWW.2.1; omega
  refine x_CQ.of (M := xM_G_mean) rfl (Nat.le_of_ble_eq_true rfl) ?_
  refine ex_st 1 (pc' := 1) (ls' := [(0, xr 0), (1, xi x), (2, xi w)]) (st' := [xi x]) rfl ?_
  refine ex_call (ct_G_isThing (by first | omega | (constructor <;> omega) | assumption)) (by decide) rfl ⟨rfl, rfl, rfl⟩ ⟨Nat.le_of_ble_eq_true rfl, rfl, rfl⟩ (Nat.le_of_ble_eq_true rfl) rfl ?_
  refine ex_beq rfl (fun h0 => ?_) (fun h0 => ?_)
  · refine ex_st 1 (pc' := 17) (ls' := [(0, xr 0), (1, xi x), (2, xi w)]) (st' := [xl (Int64.ofInt (-9223372036854775808))]) rfl ?_
    refine ex_retl rfl rfl ?_
    refine x_CQ.of (M := xM_m_mean) rfl (Nat.le_of_ble_eq_true rfl) ?_
    refine ex_st 2 (pc' := 2) (ls' := [(0, xr 143), (1, xi x), (2, xi w)]) (st' := [xr 143, xr 143]) rfl ?_
    have hcp := ct_m_present (sc := sc) (I := I) (L := L) hM.1 hc6 hg1 hg
    refine ex_call hcp (by decide) rfl ⟨rfl, rfl, rfl⟩ ⟨Nat.le_of_ble_eq_true rfl, rfl, rfl⟩ (Nat.le_of_ble_eq_true rfl) rfl ?_
    refine ex_call (ct_m_votesOf (L := L) hM (s := sp_pr c g) (z_pr c (by omega) g hg).2.1) (by decide) rfl ⟨rfl, rfl, rfl⟩ ⟨Nat.le_of_ble_eq_true rfl, rfl, rfl⟩ (Nat.le_of_ble_eq_true rfl) rfl ?_
    refine ex_st 3 (pc' := 11) (ls' := [(3, xi (sp_vo vo (sp_pr c g) c)), (0, xr 143), (1, xi x), (2, xi w)]) (st' := [xi x, xr 143]) rfl ?_
    refine ex_call (ct_m_isThing (by first | omega | (constructor <;> omega) | assumption)) (by decide) rfl ⟨rfl, rfl, rfl⟩ ⟨Nat.le_of_ble_eq_true rfl, rfl, rfl⟩ (Nat.le_of_ble_eq_true rfl) rfl ?_
    refine ex_beq rfl (fun h1 => ?_) (fun h1 => ?_)
    · refine ex_st 1 (pc' := 34) (ls' := [(3, xi (sp_vo vo (sp_pr c g) c)), (0, xr 143), (1, xi x), (2, xi w)]) (st' := [xl (Int64.ofInt (-9223372036854775808))]) rfl ?_
      refine ex_retl rfl rfl ?_
      exact ⟨rfl, _, _, rfl, hR⟩
    · exfalso; omega
  · refine ex_st 1 (pc' := 8) (ls' := [(0, xr 0), (1, xi x), (2, xi w)]) (st' := [xi w]) rfl ?_
    refine ex_call (ct_G_isZeroOrOne (by first | omega | (constructor <;> omega) | assumption)) (by decide) rfl ⟨rfl, rfl, rfl⟩ ⟨Nat.le_of_ble_eq_true rfl, rfl, rfl⟩ (Nat.le_of_ble_eq_true rfl) rfl ?_
    refine ex_bne rfl (fun h2 => ?_) (fun h2 => ?_)
    · exfalso; omega
    · refine ex_st 1 (pc' := 17) (ls' := [(0, xr 0), (1, xi x), (2, xi w)]) (st' := [xl (Int64.ofInt (-9223372036854775808))]) rfl ?_
      refine ex_retl rfl rfl ?_
      refine x_CQ.of (M := xM_m_mean) rfl (Nat.le_of_ble_eq_true rfl) ?_
      refine ex_st 2 (pc' := 2) (ls' := [(0, xr 143), (1, xi x), (2, xi w)]) (st' := [xr 143, xr 143]) rfl ?_
      have hcp := ct_m_present (sc := sc) (I := I) (L := L) hM.1 hc6 hg1 hg
      refine ex_call hcp (by decide) rfl ⟨rfl, rfl, rfl⟩ ⟨Nat.le_of_ble_eq_true rfl, rfl, rfl⟩ (Nat.le_of_ble_eq_true rfl) rfl ?_
      refine ex_call (ct_m_votesOf (L := L) hM (s := sp_pr c g) (z_pr c (by omega) g hg).2.1) (by decide) rfl ⟨rfl, rfl, rfl⟩ ⟨Nat.le_of_ble_eq_true rfl, rfl, rfl⟩ (Nat.le_of_ble_eq_true rfl) rfl ?_
      refine ex_st 3 (pc' := 11) (ls' := [(3, xi (sp_vo vo (sp_pr c g) c)), (0, xr 143), (1, xi x), (2, xi w)]) (st' := [xi x, xr 143]) rfl ?_
      refine ex_call (ct_m_isThing (by first | omega | (constructor <;> omega) | assumption)) (by decide) rfl ⟨rfl, rfl, rfl⟩ ⟨Nat.le_of_ble_eq_true rfl, rfl, rfl⟩ (Nat.le_of_ble_eq_true rfl) rfl ?_
      refine ex_beq rfl (fun h3 => ?_) (fun h3 => ?_)
      · exfalso; omega
      · refine ex_st 4 (pc' := 21) (ls' := [(3, xi (sp_vo vo (sp_pr c g) c)), (0, xr 143), (1, xi x), (2, xi w)]) (st' := [xi 1, xi 0, xi w, xr 143]) rfl ?_
        refine ex_call (ct_m_in (by first | omega | (constructor <;> omega) | assumption) (by first | omega | (constructor <;> omega) | assumption) (by first | omega | (constructor <;> omega) | assumption)) (by decide) rfl ⟨rfl, rfl, rfl⟩ ⟨Nat.le_of_ble_eq_true rfl, rfl, rfl⟩ (Nat.le_of_ble_eq_true rfl) rfl ?_
        refine ex_beq rfl (fun h4 => ?_) (fun h4 => ?_)
        · refine ex_st 1 (pc' := 34) (ls' := [(3, xi (sp_vo vo (sp_pr c g) c)), (0, xr 143), (1, xi x), (2, xi w)]) (st' := [xl (Int64.ofInt (-9223372036854775808))]) rfl ?_
          refine ex_retl rfl rfl ?_
          exact ⟨rfl, _, _, rfl, hR⟩
        · exfalso; omega
theorem op_mean {sc : List Int} {I : Nat → Nat → Int} {L : Nat → Nat → Int64} (hR : Rl I L) {x w : Int} (hx : x_R x) (hw : x_R w) : x_PQ sc xN_G_mean [xr 0, xi x, xi w] xN_m_mean [xr 143, xi x, xi w] (xSH, I, L) := by
  by_cases h : (0 ≤ x ∧ x < 5) ∧ (w = 0 ∨ w = 1)
  · obtain ⟨⟨h1, h2⟩, h3⟩ := h
    obtain ⟨p, rfl⟩ := Int.eq_ofNat_of_zero_le h1
    obtain ⟨b, hb⟩ := sp_zv_ex hR
    by_cases hz : b = 0
    · have hzz : ∀ b2 : Nat, sp_zv I L b2 → b2 = 0 := fun b2 h2 => by rw [sp_zv_un h2 hb]; exact hz
      rcases h3 with rfl | rfl
      · exact op_mean_0z hR (by omega) hzz
      · exact op_mean_1z hR (by omega) hzz
    · have hzz : ∀ b2 : Nat, sp_zv I L b2 → b2 ≠ 0 := fun b2 h2 => by rw [sp_zv_un h2 hb]; exact hz
      rcases h3 with rfl | rfl
      · exact op_mean_0 hR (by omega) hzz
      · exact op_mean_1 hR (by omega) hzz
  · exact op_mean_x hR hx hw h
