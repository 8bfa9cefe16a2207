theorem op_act {sc : List Int} {I : Nat → Nat → Int} {L : Nat → Nat → Int64} (hR : Rl I L) {t a x : Int} (ht : x_R t) (ha0 : x_R a) : x_PQ sc xN_G_act [xr 0, xi t, xi a, xi x] xN_m_act [xr 143, xi t, xi a, xi x] (xSH, I, L) := by
  by_cases hv : 0 ≤ t ∧ t < I 1 1
  · obtain ⟨n, rfl⟩ := Int.eq_ofNat_of_zero_le hv.1
    by_cases ha : 0 ≤ a ∧ a < 3
    · have hs := hR.1.1
      unfold RNs at hs
      have ho := hR.1.2.1 n (by omega)
      obtain ⟨q, hq⟩ := Int.eq_ofNat_of_zero_le ho.2.1
      rcases (show q = 0 ∨ q = 1 ∨ q = 2 ∨ q = 3 ∨ q = 4 ∨ q = 5 ∨ q = 6 by omega) with rfl | rfl | rfl | rfl | rfl | rfl | rfl
      · rcases (show a = 0 ∨ a = 1 ∨ a = 2 by omega) with rfl | rfl | rfl
        · exact op_act_0_0 hR hv.2 hq
        · exact op_act_0_1 hR hv.2 hq
        · exact op_act_0_2 hR hv.2 hq
      · rcases (show a = 0 ∨ a = 1 ∨ a = 2 by omega) with rfl | rfl | rfl
        · exact op_act_1_0 hR hv.2 hq
        · exact op_act_1_1 hR hv.2 hq
        · exact op_act_1_2 hR hv.2 hq
      · rcases (show a = 0 ∨ a = 1 ∨ a = 2 by omega) with rfl | rfl | rfl
        · exact op_act_2_0 hR hv.2 hq
        · exact op_act_2_1 hR hv.2 hq
        · exact op_act_2_2 hR hv.2 hq
      · rcases (show a = 0 ∨ a = 1 ∨ a = 2 by omega) with rfl | rfl | rfl
        · exact op_act_3_0 hR hv.2 hq
        · exact op_act_3_1 hR hv.2 hq
        · exact op_act_3_2 hR hv.2 hq
      · rcases (show a = 0 ∨ a = 1 ∨ a = 2 by omega) with rfl | rfl | rfl
        · exact op_act_4_0 hR hv.2 hq
        · exact op_act_4_1 hR hv.2 hq
        · exact op_act_4_2 hR hv.2 hq
      · rcases (show a = 0 ∨ a = 1 ∨ a = 2 by omega) with rfl | rfl | rfl
        · exact op_act_5_0 hR hv.2 hq
        · exact op_act_5_1 hR hv.2 hq
        · exact op_act_5_2 hR hv.2 hq
      · rcases (show a = 0 ∨ a = 1 ∨ a = 2 by omega) with rfl | rfl | rfl
        · exact op_act_6_0 hR hv.2 hq
        · exact op_act_6_1 hR hv.2 hq
        · exact op_act_6_2 hR hv.2 hq
    · exact op_act_n hR hv.2 ha0 ha
  · exact op_act_b hR ht ha0 hv
