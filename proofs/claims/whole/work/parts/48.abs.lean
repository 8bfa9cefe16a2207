/-! from the relation to abstract worlds and treaties -/
theorem sp_mc_le (w : Nat → Int) : ∀ n, sp_mc w n ≤ n
  | 0 => Nat.le_refl _
  | n + 1 => by
    have := sp_mc_le w n
    simp only [sp_mc]
    split <;> omega
theorem sp_mq_bd {w nu : Nat → Int} : ∀ n, (∀ z, z < n → 0 ≤ nu z ∧ nu z ≤ 99) → 0 ≤ sp_mq w nu n ∧ sp_mq w nu n ≤ 99
  | 0, _ => by simp [sp_mq]
  | n + 1, h => by
    simp only [sp_mq]
    split
    · exact h n (by omega)
    · exact sp_mq_bd n (fun z hz => h z (by omega))
theorem TC.bd {a b : Int} (h : TC a b) : -3 ≤ a ∧ a < 1800 := by
  rcases h with ⟨h1, h2⟩ | ⟨h1, h2⟩ | ⟨h1, h2⟩ | ⟨l, r, m, hl, hr, hm, h1, h2⟩ <;> omega
/-- all that is known of the treaty of the number t -/
def TRx (I : Nat → Nat → Int) (t : Int) (T n cc : Nat) (cd we : Nat → Int) (en : Nat → Nat) (qv : Int) : Prop := sp_trOf t = T ∧ TS T ∧ CW I T n cd ∧ TW I T cc n we en ∧ (∀ a b, a ≤ b → b < cc → en a ≤ en b) ∧ (T + 3 < 92 ∨ 104 ≤ T) ∧ I T 0 = qv ∧ (0 ≤ qv ∧ qv ≤ 99) ∧ x_R t ∧ (I 143 13 = t → MT I cc cd we en qv)
theorem RTn.all {I : Nat → Nat → Int} {f n : Nat} (h : RTn I f n) : ∀ z, z ≤ n → (∀ j, j < sp_mc (fun c => I 153 (10 * f + c)) z → -99 ≤ I (107 + 4 * f + 1) j ∧ I (107 + 4 * f + 1) j ≤ 99 ∧ I (107 + 4 * f + 2) j = ((I (107 + 4 * f + 2) j).toNat : Int)) ∧ (∀ i j, i ≤ j → j < sp_mc (fun c => I 153 (10 * f + c)) z → (I (107 + 4 * f + 2) i).toNat ≤ (I (107 + 4 * f + 2) j).toNat) ∧ (∀ j, j < (if sp_mc (fun c => I 153 (10 * f + c)) z = 0 then 0 else (I (107 + 4 * f + 2) (sp_mc (fun c => I 153 (10 * f + c)) z - 1)).toNat) → -3 ≤ I (107 + 4 * f + 3) j ∧ I (107 + 4 * f + 3) j < 1800) ∧ (if sp_mc (fun c => I 153 (10 * f + c)) z = 0 then 0 else (I (107 + 4 * f + 2) (sp_mc (fun c => I 153 (10 * f + c)) z - 1)).toNat) ≤ 100
  | 0, _ => ⟨fun j hj => by simp [sp_mc] at hj, fun i j _ hj => by simp [sp_mc] at hj, fun j hj => by simp [sp_mc] at hj, by simp [sp_mc]⟩
  | z + 1, hz => by
    obtain ⟨hA, hB, hC, hD⟩ := RTn.all h z (by omega)
    obtain ⟨q1, q2, q3, q4, q5⟩ := h.2.2.2 z (by omega)
    by_cases hw : I 153 (10 * f + z) = 2
    · have em : sp_mc (fun c => I 153 (10 * f + c)) (z + 1) = sp_mc (fun c => I 153 (10 * f + c)) z := by simp only [sp_mc]; rw [if_pos hw]; rfl
      rw [em]
      exact ⟨hA, hB, hC, hD⟩
    · have em : sp_mc (fun c => I 153 (10 * f + c)) (z + 1) = sp_mc (fun c => I 153 (10 * f + c)) z + 1 := by simp only [sp_mc]; rw [if_neg hw]
      rw [em]
      obtain ⟨a, b, e, r1, r2, r3, r4, r5, r6, r7, r8, r9, r10, r11⟩ := q5 hw
      generalize hk : sp_mc (fun c => I 153 (10 * f + c)) z = k at *
      have he : (if k = 0 then 0 else (I (107 + 4 * f + 2) (k - 1)).toNat) = e := by
        split
        · next h0 => exact (r5 h0).symm
        · next h0 => rw [r6 (by omega)]; rfl
      rw [he] at hC hD
      have hk1 : (I (107 + 4 * f + 2) k).toNat = e + b := by rw [r7]; rfl
      refine ⟨fun j hj => ?_, fun i j hij hj => ?_, fun j hj => ?_, ?_⟩
      · by_cases hjk : j = k
        · subst hjk
          refine ⟨?_, ?_, by rw [r7]; rfl⟩ <;> (rw [r9]; split <;> omega)
        · exact hA j (by omega)
      · by_cases hjk : j = k
        · subst hjk
          by_cases hij2 : i = j
          · rw [hij2]; exact Nat.le_refl _
          · have h1 := hB i (j - 1) (by omega) (by omega)
            rw [if_neg (by omega)] at he
            omega
        · exact hB i j hij (by omega)
      · rw [if_neg (by omega), Nat.add_sub_cancel, hk1] at hj
        by_cases hje : j < e
        · exact hC j hje
        · have := (r11 (j - e) (by omega)).bd
          rwa [show e + (j - e) = j by omega] at this
      · rw [if_neg (by omega), Nat.add_sub_cancel, hk1]; omega
theorem RT.tr {I : Nat → Nat → Int} (h : RT I) {t : Int} (h0 : -1 ≤ t) (h1 : t < I 143 12) : ∃ T n cc cd we en qv, TRx I t T n cc cd we en qv := by
  obtain ⟨g1, g2, g3, g4, g5, g6⟩ := h
  by_cases ht : t = -1
  · subst ht
    refine ⟨87, 0, 0, fun _ => 0, fun _ => 0, fun _ => 0, 0, rfl, TS.mk87, ⟨by decide, fun j hj => by omega⟩, ⟨g5, by decide, fun j hj => by omega, fun j hj => by omega⟩, fun a b _ hb => by omega, by omega, g4, by decide, by decide, fun h13 => ⟨by decide, fun j hj => by omega, by decide, Or.inl ⟨h13, rfl, rfl⟩⟩⟩
  · obtain ⟨f, rfl⟩ := Int.eq_ofNat_of_zero_le (show 0 ≤ t by omega)
    obtain ⟨n, hn, hRn⟩ := g6 f h1
    obtain ⟨hA, hB, hC, hD⟩ := hRn.all n (Nat.le_refl _)
    obtain ⟨hn10, hq, hcc, hcl⟩ := id hRn
    have hmle := sp_mc_le (fun c => I 153 (10 * f + c)) n
    have hqb := sp_mq_bd (w := fun c => I 153 (10 * f + c)) (nu := fun c => I 154 (10 * f + c)) n (fun z hz => ⟨(hcl z hz).1, (hcl z hz).2.1⟩)
    have hen : ∀ j, j < sp_mc (fun c => I 153 (10 * f + c)) n → (I (107 + 4 * f + 2) j).toNat ≤ (if sp_mc (fun c => I 153 (10 * f + c)) n = 0 then 0 else (I (107 + 4 * f + 2) (sp_mc (fun c => I 153 (10 * f + c)) n - 1)).toNat) := fun j hj => by
      rw [if_neg (by omega)]
      exact hB j _ (by omega) (by omega)
    refine ⟨107 + 4 * f, (if sp_mc (fun c => I 153 (10 * f + c)) n = 0 then 0 else (I (107 + 4 * f + 2) (sp_mc (fun c => I 153 (10 * f + c)) n - 1)).toNat), sp_mc (fun c => I 153 (10 * f + c)) n, fun j => I (107 + 4 * f + 3) j, fun j => I (107 + 4 * f + 1) j, fun j => (I (107 + 4 * f + 2) j).toNat, sp_mq (fun c => I 153 (10 * f + c)) (fun c => I 154 (10 * f + c)) n, ?_, TS.mk f (by omega), ⟨hD, fun j hj => ⟨rfl, (hC j hj).1, (hC j hj).2⟩⟩, ⟨hcc, by omega, fun j hj => ⟨rfl, (hA j hj).1, (hA j hj).2.1⟩, fun j hj => ⟨(hA j hj).2.2, hen j hj⟩⟩, fun a b hab hb => hB a b hab hb, by omega, hq, hqb, by constructor <;> omega, fun h13 => ?_⟩
    · unfold sp_trOf; rw [if_pos (by omega)]; rfl
    · refine ⟨by omega, fun j hj => ⟨(hA j hj).1, (hA j hj).2.1⟩, hqb, Or.inr ⟨f, n, h13, by omega, hn, hn10, rfl, rfl, fun z hz => ?_⟩⟩
      obtain ⟨q1, q2, q3, q4, q5⟩ := hcl z hz
      refine ⟨q1, q2, q3, q4, fun hw => ?_⟩
      obtain ⟨a, b, e, r1, r2, r3, r4, r5, r6, r7, r8, r9, r10, r11⟩ := q5 hw
      refine ⟨a, b, e, r1, r2, by omega, ?_, by show (I (107 + 4 * f + 2) _).toNat = _; rw [r7]; rfl, r9, ?_, r11⟩
      · split
        · next h0 => exact (r5 h0).symm
        · next h0 => show (I (107 + 4 * f + 2) _).toNat = _; rw [r6 (by omega)]; rfl
      · rw [← r10]
        exact sp_szs_shift b e 0 0 (fun t ht => by rw [Nat.zero_add])
/-- both worlds by one picture -/
theorem Rl.vw {I : Nat → Nat → Int} {L : Nat → Nat → Int64} (h : Rl I L) : ∃ c kd vv vo aw ba ro egg se, WW I 1 c kd vv vo aw ba ro egg se ∧ MW I c kd vv vo aw ba ro egg se := by
  obtain ⟨⟨hs, ho, ha, hb, hr, hd, hg, he, hp, hk⟩, hI, hT, hX, hC, hH, hQ⟩ := h
  unfold RNs at hs
  obtain ⟨ha1, ha2, ha3⟩ := ha
  obtain ⟨c, hc⟩ := Int.eq_ofNat_of_zero_le hs.2.1
  obtain ⟨se, hse⟩ := Int.eq_ofNat_of_zero_le hs.2.2.2.2.2.2.2.1
  obtain ⟨g, hg1⟩ := Int.eq_ofNat_of_zero_le ha2
  obtain ⟨kd, hkd⟩ : ∃ kd : Nat → Nat, ∀ p, kd p = (I 144 p).toNat := ⟨_, fun _ => rfl⟩
  obtain ⟨aw, haw⟩ : ∃ aw : Nat → Int, ∀ p, aw p = I (11 + 3 * p) 3 := ⟨_, fun _ => rfl⟩
  obtain ⟨ba, hba⟩ : ∃ ba : Nat → Nat → Int, ∀ p x, ba p x = I 147 (5 * p + x) := ⟨fun p x => I 147 (5 * p + x), fun _ _ => rfl⟩
  obtain ⟨ro, hro⟩ : ∃ ro : Nat → Nat → Int, ∀ p x, ro p x = I 148 (4 * p + x) := ⟨fun p x => I 148 (4 * p + x), fun _ _ => rfl⟩
  refine ⟨c, kd, I 145, I 146, aw, ba, ro, I 143 3, se, ?_, ?_⟩
  · refine ⟨by omega, by omega, by omega, by omega, by omega, by omega, fun p hp => ?_⟩
    have o1 := ho p (by omega)
    have a1 := ha1 p (by omega)
    have k1 := hkd p
    refine ⟨⟨?_, by omega, ?_, by constructor <;> omega, fun j hj => by rw [hro]; exact (hr p j (by omega) hj).1⟩, ?_, by omega, (haw p).symm, ?_, fun x hx => by rw [hba]; exact hb p x (by omega) hx, by omega, fun j hj => by rw [hro]; have := hr p j (by omega) hj; omega⟩
    · show I (11 + 3 * p) 0 = _; omega
    · show I (11 + 3 * p) 1 = _; omega
    · show I (11 + 3 * p) 2 = _; omega
    · rw [haw, a1]; exact x_bR _
  · refine ⟨hc, by omega, rfl, by omega, hse, by omega, ⟨g, hg1, by omega, fun p hp => ?_⟩, fun p hp => ?_⟩
    · rw [haw, ha1 p (by omega), hg1]
      simp only [Int.toNat_natCast]
      unfold x_b
      by_cases hb : g.testBit p = true
      · right; exact ⟨if_pos hb, hb⟩
      · left; exact ⟨if_neg hb, by simpa using hb⟩
    · have o1 := ho p (by omega)
      have k1 := hkd p
      exact ⟨by omega, by omega, rfl, by omega, rfl, by omega, fun x hx => by rw [hba]; exact ⟨rfl, (hb p x (by omega) hx).2⟩, fun j hj => by rw [hro]; exact ⟨rfl, by have := hr p j (by omega) hj; omega⟩⟩
theorem sp_mask_bit (f : Nat → Bool) : ∀ n p, (sp_mask f n).toNat.testBit p = (decide (p < n) && f p)
  | 0, p => by simp [sp_mask]
  | n + 1, p => by
    have hb := sp_mask_bd f n
    have ih := sp_mask_bit f n p
    have hp2 : ((2 : Int) ^ n) = ((2 ^ n : Nat) : Int) := by simp
    simp only [sp_mask]
    by_cases hf : f n = true
    · have hs : (sp_mask f n + 2 ^ n).toNat = 2 ^ n + (sp_mask f n).toNat := by
        rw [hp2] at hb ⊢
        generalize 2 ^ n = q at *
        omega
      rw [if_pos hf, hs]
      by_cases h1 : p = n
      · subst h1
        rw [Nat.testBit_two_pow_add_eq, ih]
        simp [hf]
      · by_cases h2 : p < n
        · rw [Nat.testBit_two_pow_add_gt h2, ih]
          simp [h2, show p < n + 1 by omega]
        · have h3 : 2 ^ n + (sp_mask f n).toNat < 2 ^ p := by
            have h4 : 2 ^ (n + 1) ≤ 2 ^ p := Nat.pow_le_pow_right (by decide) (by omega)
            rw [Nat.pow_succ] at h4
            rw [hp2] at hb
            generalize 2 ^ n = q at *
            generalize 2 ^ p = q2 at *
            omega
          rw [Nat.testBit_lt_two_pow h3]
          simp [show ¬ p < n + 1 by omega]
    · rw [if_neg hf, Int.add_zero, ih]
      by_cases h1 : p = n
      · subst h1; simp [hf]
      · simp only [show (p < n + 1) = (p < n) from propext ⟨fun h => by omega, fun h => by omega⟩]
theorem sp_mask64 (f : Nat → Bool) {n : Nat} (hn : n ≤ 6) : (sp_mask f n).toNat < 64 := by
  have hb := sp_mask_bd f n
  have hp2 : ((2 : Int) ^ n) = ((2 ^ n : Nat) : Int) := by simp
  have : 2 ^ n ≤ 2 ^ 6 := Nat.pow_le_pow_right (by decide) hn
  rw [hp2] at hb
  omega
/-- the sets of those present, on both sides -/
theorem MW.pres {I : Nat → Nat → Int} {c : Nat} {kd : Nat → Nat} {vv vo aw : Nat → Int} {ba ro : Nat → Nat → Int} {egg : Int} {se : Nat} (hM : MW I c kd vv vo aw ba ro egg se) : ∃ g : Nat, I 143 1 = (g : Int) ∧ g < 64 ∧ (∀ p, p < c → (sp_mask (sp_nz aw) c).toNat.testBit p = !g.testBit p) ∧ sp_pr c g = (sp_mask (sp_nz aw) c).toNat := by
  obtain ⟨hc, hc6, hegg, hegb, hse, hse5, ⟨g, hg1, hg2, hg3⟩, hp8⟩ := id hM
  have hb : ∀ p, p < c → sp_nz aw p = !g.testBit p := fun p hp => by
    unfold sp_nz
    rcases hg3 p hp with ⟨h1, h2⟩ | ⟨h1, h2⟩ <;> rw [h1, h2] <;> rfl
  refine ⟨g, hg1, hg2, fun p hp => ?_, ?_⟩
  · rw [sp_mask_bit, hb p hp]; simp [hp]
  · obtain ⟨z1, z2, z3⟩ := z_pr c (by omega) g hg2
    apply Nat.eq_of_testBit_eq
    intro p
    by_cases hp6 : p < 6
    · rw [z3 p hp6, sp_mask_bit]
      by_cases hpc : p < c
      · rw [hb p hpc]
      · simp [hpc]
    · rw [Nat.testBit_lt_two_pow (Nat.lt_of_lt_of_le z2 (show 2 ^ 6 ≤ 2 ^ p from Nat.pow_le_pow_right (by decide) (by omega))), Nat.testBit_lt_two_pow (Nat.lt_of_lt_of_le (sp_mask64 (sp_nz aw) hc6) (show 2 ^ 6 ≤ 2 ^ p from Nat.pow_le_pow_right (by decide) (by omega)))]

