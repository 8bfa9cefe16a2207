/-! pairs of calls: image, undo -/
set_option maxRecDepth 8000 in
set_option maxHeartbeats 1000000 in
theorem lp_m_image0 {sc : List Int} {I : Nat → Nat → Int} {L : Nat → Nat → Int64} {Q : Option xPV → xMem → Prop} (i : Nat) (hi : i ≤ 6) (kk : ∀ I' : Nat → Nat → Int, (∀ j, i ≤ j → j < 6 → I' 174 j = I 144 j ∧ I' 175 j = I 145 j ∧ I' 176 j = I 146 j) → (∀ k j, ¬ ((k = 174 ∨ k = 175 ∨ k = 176) ∧ i ≤ j ∧ j < 6) → I' k j = I k j) → x_Ex sc 29 xM_m_image 127 [(1, xi 6), (0, xr 143)] [] (xSH, I', L) Q) : x_Ex sc 29 xM_m_image 79 [(1, xi (↑i)), (0, xr 143)] [] (xSH, I, L) Q := by
  refine ex_st 2 (pc' := 82) (ls' := [(1, xi (↑i)), (0, xr 143)]) (st' := [xi 6, xi (↑i)]) rfl ?_
  refine ex_ic rfl (by constructor <;> omega) (by decide) (fun (h0 : ((6 : Int)) ≤ (↑i : Int)) => ?_) (fun (h0 : ¬ ((6 : Int)) ≤ (↑i : Int)) => ?_)
  · obtain rfl : i = 6 := by omega
    exact kk I (fun j a b => by omega) (fun _ _ _ => rfl)
  · refine ex_st 6 (pc' := 95) (ls' := [(1, xi (↑i)), (0, xr 143)]) (st' := [xi (↑i), xr 144, xi (↑i), xr 174]) rfl ?_
    refine ex_iald (j := i) rfl (by decide) (rfl : xSH[144]? = some _) (by omega) (by omega) (by decide) ?_
    refine ex_iast (j := i) rfl (by decide) (rfl : xSH[174]? = some _) (by omega) (by omega) (by decide) ?_
    refine ex_st 6 (pc' := 107) (ls' := [(1, xi (↑i)), (0, xr 143)]) (st' := [xi (↑i), xr 145, xi (↑i), xr 175]) rfl ?_
    refine ex_iald (j := i) rfl (by decide) (rfl : xSH[145]? = some _) (by omega) (by omega) (by decide) ?_
    rw [(x_up_far (by first | decide | omega) : (x_up I 174 i (I 144 i)) 145 i = I 145 i)]
    refine ex_iast (j := i) rfl (by decide) (rfl : xSH[175]? = some _) (by omega) (by omega) (by decide) ?_
    refine ex_st 6 (pc' := 119) (ls' := [(1, xi (↑i)), (0, xr 143)]) (st' := [xi (↑i), xr 146, xi (↑i), xr 176]) rfl ?_
    refine ex_iald (j := i) rfl (by decide) (rfl : xSH[146]? = some _) (by omega) (by omega) (by decide) ?_
    rw [(x_up_far (by first | decide | omega) : (x_up (x_up I 174 i (I 144 i)) 175 i (I 145 i)) 146 i = (x_up I 174 i (I 144 i)) 146 i)]
    rw [(x_up_far (by first | decide | omega) : (x_up I 174 i (I 144 i)) 146 i = I 146 i)]
    refine ex_iast (j := i) rfl (by decide) (rfl : xSH[176]? = some _) (by omega) (by omega) (by decide) ?_
    refine ex_st 2 (pc' := 79) (ls' := [(1, xi ((↑i) + 1)), (0, xr 143)]) (st' := []) rfl ?_
    refine lp_m_image0 (i + 1) (by omega) (fun I' h1 h2 => kk I' (fun j a b => ?_) (fun k j hk => ?_))
    · by_cases e : j = i
      · subst e; refine ⟨?_, ?_, ?_⟩ <;> (rw [h2 _ _ (by omega)]; (repeat (first | rw [x_up_far (by omega)] | rw [x_up_at2 (by omega) (by omega)])))
      · have z := h1 j (by omega) b; refine ⟨?_, ?_, ?_⟩
        · rw [z.1]; (repeat (first | rw [x_up_far (by omega)] | rw [x_up_at2 (by omega) (by omega)]))
        · rw [z.2.1]; (repeat (first | rw [x_up_far (by omega)] | rw [x_up_at2 (by omega) (by omega)]))
        · rw [z.2.2]; (repeat (first | rw [x_up_far (by omega)] | rw [x_up_at2 (by omega) (by omega)]))
    · rw [h2 _ _ (by omega)]; (repeat rw [x_up_far (by omega)])
termination_by 6 - i
decreasing_by all_goals omega
set_option maxRecDepth 8000 in
set_option maxHeartbeats 1000000 in
theorem lp_m_image1 {sc : List Int} {I : Nat → Nat → Int} {L : Nat → Nat → Int64} {Q : Option xPV → xMem → Prop} (i : Nat) (hi : i ≤ 30) (kk : ∀ I' : Nat → Nat → Int, (∀ j, i ≤ j → j < 30 → I' 177 j = I 147 j) → (∀ k j, ¬ ((k = 177) ∧ i ≤ j ∧ j < 30) → I' k j = I k j) → x_Ex sc 29 xM_m_image 153 [(1, xi 30), (0, xr 143)] [] (xSH, I', L) Q) : x_Ex sc 29 xM_m_image 129 [(1, xi (↑i)), (0, xr 143)] [] (xSH, I, L) Q := by
  refine ex_st 2 (pc' := 132) (ls' := [(1, xi (↑i)), (0, xr 143)]) (st' := [xi 30, xi (↑i)]) rfl ?_
  refine ex_ic rfl (by constructor <;> omega) (by decide) (fun (h0 : ((30 : Int)) ≤ (↑i : Int)) => ?_) (fun (h0 : ¬ ((30 : Int)) ≤ (↑i : Int)) => ?_)
  · obtain rfl : i = 30 := by omega
    exact kk I (fun j a b => by omega) (fun _ _ _ => rfl)
  · refine ex_st 6 (pc' := 145) (ls' := [(1, xi (↑i)), (0, xr 143)]) (st' := [xi (↑i), xr 147, xi (↑i), xr 177]) rfl ?_
    refine ex_iald (j := i) rfl (by decide) (rfl : xSH[147]? = some _) (by omega) (by omega) (by decide) ?_
    refine ex_iast (j := i) rfl (by decide) (rfl : xSH[177]? = some _) (by omega) (by omega) (by decide) ?_
    refine ex_st 2 (pc' := 129) (ls' := [(1, xi ((↑i) + 1)), (0, xr 143)]) (st' := []) rfl ?_
    refine lp_m_image1 (i + 1) (by omega) (fun I' h1 h2 => kk I' (fun j a b => ?_) (fun k j hk => ?_))
    · by_cases e : j = i
      · subst e; rw [h2 _ _ (by omega)]; (repeat (first | rw [x_up_far (by omega)] | rw [x_up_at2 (by omega) (by omega)]))
      · rw [h1 j (by omega) b]; (repeat (first | rw [x_up_far (by omega)] | rw [x_up_at2 (by omega) (by omega)]))
    · rw [h2 _ _ (by omega)]; (repeat rw [x_up_far (by omega)])
termination_by 30 - i
decreasing_by all_goals omega
set_option maxRecDepth 8000 in
set_option maxHeartbeats 1000000 in
theorem lp_m_image2 {sc : List Int} {I : Nat → Nat → Int} {L : Nat → Nat → Int64} {Q : Option xPV → xMem → Prop} (i : Nat) (hi : i ≤ 24) (kk : ∀ I' : Nat → Nat → Int, (∀ j, i ≤ j → j < 24 → I' 178 j = I 148 j) → (∀ k j, ¬ ((k = 178) ∧ i ≤ j ∧ j < 24) → I' k j = I k j) → x_Ex sc 29 xM_m_image 179 [(1, xi 24), (0, xr 143)] [] (xSH, I', L) Q) : x_Ex sc 29 xM_m_image 155 [(1, xi (↑i)), (0, xr 143)] [] (xSH, I, L) Q := by
  refine ex_st 2 (pc' := 158) (ls' := [(1, xi (↑i)), (0, xr 143)]) (st' := [xi 24, xi (↑i)]) rfl ?_
  refine ex_ic rfl (by constructor <;> omega) (by decide) (fun (h0 : ((24 : Int)) ≤ (↑i : Int)) => ?_) (fun (h0 : ¬ ((24 : Int)) ≤ (↑i : Int)) => ?_)
  · obtain rfl : i = 24 := by omega
    exact kk I (fun j a b => by omega) (fun _ _ _ => rfl)
  · refine ex_st 6 (pc' := 171) (ls' := [(1, xi (↑i)), (0, xr 143)]) (st' := [xi (↑i), xr 148, xi (↑i), xr 178]) rfl ?_
    refine ex_iald (j := i) rfl (by decide) (rfl : xSH[148]? = some _) (by omega) (by omega) (by decide) ?_
    refine ex_iast (j := i) rfl (by decide) (rfl : xSH[178]? = some _) (by omega) (by omega) (by decide) ?_
    refine ex_st 2 (pc' := 155) (ls' := [(1, xi ((↑i) + 1)), (0, xr 143)]) (st' := []) rfl ?_
    refine lp_m_image2 (i + 1) (by omega) (fun I' h1 h2 => kk I' (fun j a b => ?_) (fun k j hk => ?_))
    · by_cases e : j = i
      · subst e; rw [h2 _ _ (by omega)]; (repeat (first | rw [x_up_far (by omega)] | rw [x_up_at2 (by omega) (by omega)]))
      · rw [h1 j (by omega) b]; (repeat (first | rw [x_up_far (by omega)] | rw [x_up_at2 (by omega) (by omega)]))
    · rw [h2 _ _ (by omega)]; (repeat rw [x_up_far (by omega)])
termination_by 24 - i
decreasing_by all_goals omega
set_option maxRecDepth 8000 in
set_option maxHeartbeats 1000000 in
theorem lp_m_image3 {sc : List Int} {I : Nat → Nat → Int} {L : Nat → Nat → Int64} {Q : Option xPV → xMem → Prop} (hb : ∀ j, j < 5 → I 168 j = 0 ∨ I 168 j = 1) (i : Nat) (hi : i ≤ 5) (kk : ∀ I' : Nat → Nat → Int, (∀ j, i ≤ j → j < 5 → I' 179 j = I 149 j ∧ I' 180 j = I 150 j ∧ I' 181 j = I 165 j ∧ I' 182 j = I 166 j ∧ I' 183 j = I 167 j ∧ I' 189 j = I 168 j) → (∀ k j, ¬ ((k = 179 ∨ k = 180 ∨ k = 181 ∨ k = 182 ∨ k = 183 ∨ k = 189) ∧ i ≤ j ∧ j < 5) → I' k j = I k j) → x_Ex sc 29 xM_m_image 264 [(1, xi 5), (0, xr 143)] [] (xSH, I', L) Q) : x_Ex sc 29 xM_m_image 181 [(1, xi (↑i)), (0, xr 143)] [] (xSH, I, L) Q := by
  refine ex_st 2 (pc' := 183) (ls' := [(1, xi (↑i)), (0, xr 143)]) (st' := [xi 5, xi (↑i)]) rfl ?_
  refine ex_ic rfl (by constructor <;> omega) (by decide) (fun (h0 : ((5 : Int)) ≤ (↑i : Int)) => ?_) (fun (h0 : ¬ ((5 : Int)) ≤ (↑i : Int)) => ?_)
  · obtain rfl : i = 5 := by omega
    exact kk I (fun j a b => by omega) (fun _ _ _ => rfl)
  · refine ex_st 6 (pc' := 196) (ls' := [(1, xi (↑i)), (0, xr 143)]) (st' := [xi (↑i), xr 149, xi (↑i), xr 179]) rfl ?_
    refine ex_iald (j := i) rfl (by decide) (rfl : xSH[149]? = some _) (by omega) (by omega) (by decide) ?_
    refine ex_iast (j := i) rfl (by decide) (rfl : xSH[179]? = some _) (by omega) (by omega) (by decide) ?_
    refine ex_st 6 (pc' := 208) (ls' := [(1, xi (↑i)), (0, xr 143)]) (st' := [xi (↑i), xr 150, xi (↑i), xr 180]) rfl ?_
    refine ex_iald (j := i) rfl (by decide) (rfl : xSH[150]? = some _) (by omega) (by omega) (by decide) ?_
    rw [(x_up_far (by first | decide | omega) : (x_up I 179 i (I 149 i)) 150 i = I 150 i)]
    refine ex_iast (j := i) rfl (by decide) (rfl : xSH[180]? = some _) (by omega) (by omega) (by decide) ?_
    refine ex_st 6 (pc' := 220) (ls' := [(1, xi (↑i)), (0, xr 143)]) (st' := [xi (↑i), xr 165, xi (↑i), xr 181]) rfl ?_
    refine ex_iald (j := i) rfl (by decide) (rfl : xSH[165]? = some _) (by omega) (by omega) (by decide) ?_
    rw [(x_up_far (by first | decide | omega) : (x_up (x_up I 179 i (I 149 i)) 180 i (I 150 i)) 165 i = (x_up I 179 i (I 149 i)) 165 i)]
    rw [(x_up_far (by first | decide | omega) : (x_up I 179 i (I 149 i)) 165 i = I 165 i)]
    refine ex_iast (j := i) rfl (by decide) (rfl : xSH[181]? = some _) (by omega) (by omega) (by decide) ?_
    refine ex_st 6 (pc' := 232) (ls' := [(1, xi (↑i)), (0, xr 143)]) (st' := [xi (↑i), xr 166, xi (↑i), xr 182]) rfl ?_
    refine ex_iald (j := i) rfl (by decide) (rfl : xSH[166]? = some _) (by omega) (by omega) (by decide) ?_
    rw [(x_up_far (by first | decide | omega) : (x_up (x_up (x_up I 179 i (I 149 i)) 180 i (I 150 i)) 181 i (I 165 i)) 166 i = (x_up (x_up I 179 i (I 149 i)) 180 i (I 150 i)) 166 i)]
    rw [(x_up_far (by first | decide | omega) : (x_up (x_up I 179 i (I 149 i)) 180 i (I 150 i)) 166 i = (x_up I 179 i (I 149 i)) 166 i)]
    rw [(x_up_far (by first | decide | omega) : (x_up I 179 i (I 149 i)) 166 i = I 166 i)]
    refine ex_iast (j := i) rfl (by decide) (rfl : xSH[182]? = some _) (by omega) (by omega) (by decide) ?_
    refine ex_st 6 (pc' := 244) (ls' := [(1, xi (↑i)), (0, xr 143)]) (st' := [xi (↑i), xr 167, xi (↑i), xr 183]) rfl ?_
    refine ex_iald (j := i) rfl (by decide) (rfl : xSH[167]? = some _) (by omega) (by omega) (by decide) ?_
    rw [(x_up_far (by first | decide | omega) : (x_up (x_up (x_up (x_up I 179 i (I 149 i)) 180 i (I 150 i)) 181 i (I 165 i)) 182 i (I 166 i)) 167 i = (x_up (x_up (x_up I 179 i (I 149 i)) 180 i (I 150 i)) 181 i (I 165 i)) 167 i)]
    rw [(x_up_far (by first | decide | omega) : (x_up (x_up (x_up I 179 i (I 149 i)) 180 i (I 150 i)) 181 i (I 165 i)) 167 i = (x_up (x_up I 179 i (I 149 i)) 180 i (I 150 i)) 167 i)]
    rw [(x_up_far (by first | decide | omega) : (x_up (x_up I 179 i (I 149 i)) 180 i (I 150 i)) 167 i = (x_up I 179 i (I 149 i)) 167 i)]
    rw [(x_up_far (by first | decide | omega) : (x_up I 179 i (I 149 i)) 167 i = I 167 i)]
    refine ex_iast (j := i) rfl (by decide) (rfl : xSH[183]? = some _) (by omega) (by omega) (by decide) ?_
    refine ex_st 6 (pc' := 256) (ls' := [(1, xi (↑i)), (0, xr 143)]) (st' := [xi (↑i), xr 168, xi (↑i), xr 189]) rfl ?_
    refine ex_bald (j := i) rfl (by decide) (rfl : xSH[168]? = some _) (by omega) (by omega) (by decide) ?_
    rw [(x_up_far (by first | decide | omega) : (x_up (x_up (x_up (x_up (x_up I 179 i (I 149 i)) 180 i (I 150 i)) 181 i (I 165 i)) 182 i (I 166 i)) 183 i (I 167 i)) 168 i = (x_up (x_up (x_up (x_up I 179 i (I 149 i)) 180 i (I 150 i)) 181 i (I 165 i)) 182 i (I 166 i)) 168 i)]
    rw [(x_up_far (by first | decide | omega) : (x_up (x_up (x_up (x_up I 179 i (I 149 i)) 180 i (I 150 i)) 181 i (I 165 i)) 182 i (I 166 i)) 168 i = (x_up (x_up (x_up I 179 i (I 149 i)) 180 i (I 150 i)) 181 i (I 165 i)) 168 i)]
    rw [(x_up_far (by first | decide | omega) : (x_up (x_up (x_up I 179 i (I 149 i)) 180 i (I 150 i)) 181 i (I 165 i)) 168 i = (x_up (x_up I 179 i (I 149 i)) 180 i (I 150 i)) 168 i)]
    rw [(x_up_far (by first | decide | omega) : (x_up (x_up I 179 i (I 149 i)) 180 i (I 150 i)) 168 i = (x_up I 179 i (I 149 i)) 168 i)]
    rw [(x_up_far (by first | decide | omega) : (x_up I 179 i (I 149 i)) 168 i = I 168 i)]
    refine ex_bast (j := i) rfl (by decide) (rfl : xSH[189]? = some _) (by omega) (by omega) (by decide) (by right; refine ⟨rfl, ?_⟩; (repeat rw [x_up_far (by omega)]); exact hb i (by omega)) ?_
    refine ex_st 2 (pc' := 181) (ls' := [(1, xi ((↑i) + 1)), (0, xr 143)]) (st' := []) rfl ?_
    refine lp_m_image3 (fun j hj => by (repeat rw [x_up_far (by omega)]); exact hb j hj) (i + 1) (by omega) (fun I' h1 h2 => kk I' (fun j a b => ?_) (fun k j hk => ?_))
    · by_cases e : j = i
      · subst e; refine ⟨?_, ?_, ?_, ?_, ?_, ?_⟩ <;> (rw [h2 _ _ (by omega)]; (repeat (first | rw [x_up_far (by omega)] | rw [x_up_at2 (by omega) (by omega)])))
      · have z := h1 j (by omega) b; refine ⟨?_, ?_, ?_, ?_, ?_, ?_⟩
        · rw [z.1]; (repeat (first | rw [x_up_far (by omega)] | rw [x_up_at2 (by omega) (by omega)]))
        · rw [z.2.1]; (repeat (first | rw [x_up_far (by omega)] | rw [x_up_at2 (by omega) (by omega)]))
        · rw [z.2.2.1]; (repeat (first | rw [x_up_far (by omega)] | rw [x_up_at2 (by omega) (by omega)]))
        · rw [z.2.2.2.1]; (repeat (first | rw [x_up_far (by omega)] | rw [x_up_at2 (by omega) (by omega)]))
        · rw [z.2.2.2.2.1]; (repeat (first | rw [x_up_far (by omega)] | rw [x_up_at2 (by omega) (by omega)]))
        · rw [z.2.2.2.2.2]; (repeat (first | rw [x_up_far (by omega)] | rw [x_up_at2 (by omega) (by omega)]))
    · rw [h2 _ _ (by omega)]; (repeat rw [x_up_far (by omega)])
termination_by 5 - i
decreasing_by all_goals omega
set_option maxRecDepth 8000 in
set_option maxHeartbeats 1000000 in
theorem lp_m_image4 {sc : List Int} {I : Nat → Nat → Int} {L : Nat → Nat → Int64} {Q : Option xPV → xMem → Prop} (i : Nat) (hi : i ≤ 10) (kk : ∀ I' : Nat → Nat → Int, (∀ j, i ≤ j → j < 10 → I' 184 j = I 169 j ∧ I' 185 j = I 170 j) → (∀ k j, ¬ ((k = 184 ∨ k = 185) ∧ i ≤ j ∧ j < 10) → I' k j = I k j) → x_Ex sc 29 xM_m_image 302 [(1, xi 10), (0, xr 143)] [] (xSH, I', L) Q) : x_Ex sc 29 xM_m_image 266 [(1, xi (↑i)), (0, xr 143)] [] (xSH, I, L) Q := by
  refine ex_st 2 (pc' := 269) (ls' := [(1, xi (↑i)), (0, xr 143)]) (st' := [xi 10, xi (↑i)]) rfl ?_
  refine ex_ic rfl (by constructor <;> omega) (by decide) (fun (h0 : ((10 : Int)) ≤ (↑i : Int)) => ?_) (fun (h0 : ¬ ((10 : Int)) ≤ (↑i : Int)) => ?_)
  · obtain rfl : i = 10 := by omega
    exact kk I (fun j a b => by omega) (fun _ _ _ => rfl)
  · refine ex_st 6 (pc' := 282) (ls' := [(1, xi (↑i)), (0, xr 143)]) (st' := [xi (↑i), xr 169, xi (↑i), xr 184]) rfl ?_
    refine ex_iald (j := i) rfl (by decide) (rfl : xSH[169]? = some _) (by omega) (by omega) (by decide) ?_
    refine ex_iast (j := i) rfl (by decide) (rfl : xSH[184]? = some _) (by omega) (by omega) (by decide) ?_
    refine ex_st 6 (pc' := 294) (ls' := [(1, xi (↑i)), (0, xr 143)]) (st' := [xi (↑i), xr 170, xi (↑i), xr 185]) rfl ?_
    refine ex_iald (j := i) rfl (by decide) (rfl : xSH[170]? = some _) (by omega) (by omega) (by decide) ?_
    rw [(x_up_far (by first | decide | omega) : (x_up I 184 i (I 169 i)) 170 i = I 170 i)]
    refine ex_iast (j := i) rfl (by decide) (rfl : xSH[185]? = some _) (by omega) (by omega) (by decide) ?_
    refine ex_st 2 (pc' := 266) (ls' := [(1, xi ((↑i) + 1)), (0, xr 143)]) (st' := []) rfl ?_
    refine lp_m_image4 (i + 1) (by omega) (fun I' h1 h2 => kk I' (fun j a b => ?_) (fun k j hk => ?_))
    · by_cases e : j = i
      · subst e; refine ⟨?_, ?_⟩ <;> (rw [h2 _ _ (by omega)]; (repeat (first | rw [x_up_far (by omega)] | rw [x_up_at2 (by omega) (by omega)])))
      · have z := h1 j (by omega) b; refine ⟨?_, ?_⟩
        · rw [z.1]; (repeat (first | rw [x_up_far (by omega)] | rw [x_up_at2 (by omega) (by omega)]))
        · rw [z.2]; (repeat (first | rw [x_up_far (by omega)] | rw [x_up_at2 (by omega) (by omega)]))
    · rw [h2 _ _ (by omega)]; (repeat rw [x_up_far (by omega)])
termination_by 10 - i
decreasing_by all_goals omega
set_option maxRecDepth 8000 in
set_option maxHeartbeats 1000000 in
theorem lp_m_image5 {sc : List Int} {I : Nat → Nat → Int} {L : Nat → Nat → Int64} {Q : Option xPV → xMem → Prop} (i : Nat) (hi : i ≤ 8) (kk : ∀ I' : Nat → Nat → Int, (∀ j, i ≤ j → j < 8 → I' 186 j = I 171 j ∧ I' 187 j = I 172 j ∧ I' 188 j = I 173 j) → (∀ k j, ¬ ((k = 186 ∨ k = 187 ∨ k = 188) ∧ i ≤ j ∧ j < 8) → I' k j = I k j) → x_Ex sc 29 xM_m_image 352 [(1, xi 8), (0, xr 143)] [] (xSH, I', L) Q) : x_Ex sc 29 xM_m_image 304 [(1, xi (↑i)), (0, xr 143)] [] (xSH, I, L) Q := by
  refine ex_st 2 (pc' := 307) (ls' := [(1, xi (↑i)), (0, xr 143)]) (st' := [xi 8, xi (↑i)]) rfl ?_
  refine ex_ic rfl (by constructor <;> omega) (by decide) (fun (h0 : ((8 : Int)) ≤ (↑i : Int)) => ?_) (fun (h0 : ¬ ((8 : Int)) ≤ (↑i : Int)) => ?_)
  · obtain rfl : i = 8 := by omega
    exact kk I (fun j a b => by omega) (fun _ _ _ => rfl)
  · refine ex_st 6 (pc' := 320) (ls' := [(1, xi (↑i)), (0, xr 143)]) (st' := [xi (↑i), xr 171, xi (↑i), xr 186]) rfl ?_
    refine ex_iald (j := i) rfl (by decide) (rfl : xSH[171]? = some _) (by omega) (by omega) (by decide) ?_
    refine ex_iast (j := i) rfl (by decide) (rfl : xSH[186]? = some _) (by omega) (by omega) (by decide) ?_
    refine ex_st 6 (pc' := 332) (ls' := [(1, xi (↑i)), (0, xr 143)]) (st' := [xi (↑i), xr 172, xi (↑i), xr 187]) rfl ?_
    refine ex_iald (j := i) rfl (by decide) (rfl : xSH[172]? = some _) (by omega) (by omega) (by decide) ?_
    rw [(x_up_far (by first | decide | omega) : (x_up I 186 i (I 171 i)) 172 i = I 172 i)]
    refine ex_iast (j := i) rfl (by decide) (rfl : xSH[187]? = some _) (by omega) (by omega) (by decide) ?_
    refine ex_st 6 (pc' := 344) (ls' := [(1, xi (↑i)), (0, xr 143)]) (st' := [xi (↑i), xr 173, xi (↑i), xr 188]) rfl ?_
    refine ex_iald (j := i) rfl (by decide) (rfl : xSH[173]? = some _) (by omega) (by omega) (by decide) ?_
    rw [(x_up_far (by first | decide | omega) : (x_up (x_up I 186 i (I 171 i)) 187 i (I 172 i)) 173 i = (x_up I 186 i (I 171 i)) 173 i)]
    rw [(x_up_far (by first | decide | omega) : (x_up I 186 i (I 171 i)) 173 i = I 173 i)]
    refine ex_iast (j := i) rfl (by decide) (rfl : xSH[188]? = some _) (by omega) (by omega) (by decide) ?_
    refine ex_st 2 (pc' := 304) (ls' := [(1, xi ((↑i) + 1)), (0, xr 143)]) (st' := []) rfl ?_
    refine lp_m_image5 (i + 1) (by omega) (fun I' h1 h2 => kk I' (fun j a b => ?_) (fun k j hk => ?_))
    · by_cases e : j = i
      · subst e; refine ⟨?_, ?_, ?_⟩ <;> (rw [h2 _ _ (by omega)]; (repeat (first | rw [x_up_far (by omega)] | rw [x_up_at2 (by omega) (by omega)])))
      · have z := h1 j (by omega) b; refine ⟨?_, ?_, ?_⟩
        · rw [z.1]; (repeat (first | rw [x_up_far (by omega)] | rw [x_up_at2 (by omega) (by omega)]))
        · rw [z.2.1]; (repeat (first | rw [x_up_far (by omega)] | rw [x_up_at2 (by omega) (by omega)]))
        · rw [z.2.2]; (repeat (first | rw [x_up_far (by omega)] | rw [x_up_at2 (by omega) (by omega)]))
    · rw [h2 _ _ (by omega)]; (repeat rw [x_up_far (by omega)])
termination_by 8 - i
decreasing_by all_goals omega
set_option maxRecDepth 8000 in
set_option maxHeartbeats 1000000 in
theorem lp_m_undo0 {sc : List Int} {I : Nat → Nat → Int} {L : Nat → Nat → Int64} {Q : Option xPV → xMem → Prop} (i : Nat) (hi : i ≤ 6) (kk : ∀ I' : Nat → Nat → Int, (∀ j, i ≤ j → j < 6 → I' 144 j = I 174 j ∧ I' 145 j = I 175 j ∧ I' 146 j = I 176 j) → (∀ k j, ¬ ((k = 144 ∨ k = 145 ∨ k = 146) ∧ i ≤ j ∧ j < 6) → I' k j = I k j) → x_Ex sc 29 xM_m_undo 132 [(1, xi 6), (0, xr 143)] [] (xSH, I', L) Q) : x_Ex sc 29 xM_m_undo 84 [(1, xi (↑i)), (0, xr 143)] [] (xSH, I, L) Q := by
  refine ex_st 2 (pc' := 87) (ls' := [(1, xi (↑i)), (0, xr 143)]) (st' := [xi 6, xi (↑i)]) rfl ?_
  refine ex_ic rfl (by constructor <;> omega) (by decide) (fun (h0 : ((6 : Int)) ≤ (↑i : Int)) => ?_) (fun (h0 : ¬ ((6 : Int)) ≤ (↑i : Int)) => ?_)
  · obtain rfl : i = 6 := by omega
    exact kk I (fun j a b => by omega) (fun _ _ _ => rfl)
  · refine ex_st 6 (pc' := 100) (ls' := [(1, xi (↑i)), (0, xr 143)]) (st' := [xi (↑i), xr 174, xi (↑i), xr 144]) rfl ?_
    refine ex_iald (j := i) rfl (by decide) (rfl : xSH[174]? = some _) (by omega) (by omega) (by decide) ?_
    refine ex_iast (j := i) rfl (by decide) (rfl : xSH[144]? = some _) (by omega) (by omega) (by decide) ?_
    refine ex_st 6 (pc' := 112) (ls' := [(1, xi (↑i)), (0, xr 143)]) (st' := [xi (↑i), xr 175, xi (↑i), xr 145]) rfl ?_
    refine ex_iald (j := i) rfl (by decide) (rfl : xSH[175]? = some _) (by omega) (by omega) (by decide) ?_
    rw [(x_up_far (by first | decide | omega) : (x_up I 144 i (I 174 i)) 175 i = I 175 i)]
    refine ex_iast (j := i) rfl (by decide) (rfl : xSH[145]? = some _) (by omega) (by omega) (by decide) ?_
    refine ex_st 6 (pc' := 124) (ls' := [(1, xi (↑i)), (0, xr 143)]) (st' := [xi (↑i), xr 176, xi (↑i), xr 146]) rfl ?_
    refine ex_iald (j := i) rfl (by decide) (rfl : xSH[176]? = some _) (by omega) (by omega) (by decide) ?_
    rw [(x_up_far (by first | decide | omega) : (x_up (x_up I 144 i (I 174 i)) 145 i (I 175 i)) 176 i = (x_up I 144 i (I 174 i)) 176 i)]
    rw [(x_up_far (by first | decide | omega) : (x_up I 144 i (I 174 i)) 176 i = I 176 i)]
    refine ex_iast (j := i) rfl (by decide) (rfl : xSH[146]? = some _) (by omega) (by omega) (by decide) ?_
    refine ex_st 2 (pc' := 84) (ls' := [(1, xi ((↑i) + 1)), (0, xr 143)]) (st' := []) rfl ?_
    refine lp_m_undo0 (i + 1) (by omega) (fun I' h1 h2 => kk I' (fun j a b => ?_) (fun k j hk => ?_))
    · by_cases e : j = i
      · subst e; refine ⟨?_, ?_, ?_⟩ <;> (rw [h2 _ _ (by omega)]; (repeat (first | rw [x_up_far (by omega)] | rw [x_up_at2 (by omega) (by omega)])))
      · have z := h1 j (by omega) b; refine ⟨?_, ?_, ?_⟩
        · rw [z.1]; (repeat (first | rw [x_up_far (by omega)] | rw [x_up_at2 (by omega) (by omega)]))
        · rw [z.2.1]; (repeat (first | rw [x_up_far (by omega)] | rw [x_up_at2 (by omega) (by omega)]))
        · rw [z.2.2]; (repeat (first | rw [x_up_far (by omega)] | rw [x_up_at2 (by omega) (by omega)]))
    · rw [h2 _ _ (by omega)]; (repeat rw [x_up_far (by omega)])
termination_by 6 - i
decreasing_by all_goals omega
set_option maxRecDepth 8000 in
set_option maxHeartbeats 1000000 in
theorem lp_m_undo1 {sc : List Int} {I : Nat → Nat → Int} {L : Nat → Nat → Int64} {Q : Option xPV → xMem → Prop} (i : Nat) (hi : i ≤ 30) (kk : ∀ I' : Nat → Nat → Int, (∀ j, i ≤ j → j < 30 → I' 147 j = I 177 j) → (∀ k j, ¬ ((k = 147) ∧ i ≤ j ∧ j < 30) → I' k j = I k j) → x_Ex sc 29 xM_m_undo 158 [(1, xi 30), (0, xr 143)] [] (xSH, I', L) Q) : x_Ex sc 29 xM_m_undo 134 [(1, xi (↑i)), (0, xr 143)] [] (xSH, I, L) Q := by
  refine ex_st 2 (pc' := 137) (ls' := [(1, xi (↑i)), (0, xr 143)]) (st' := [xi 30, xi (↑i)]) rfl ?_
  refine ex_ic rfl (by constructor <;> omega) (by decide) (fun (h0 : ((30 : Int)) ≤ (↑i : Int)) => ?_) (fun (h0 : ¬ ((30 : Int)) ≤ (↑i : Int)) => ?_)
  · obtain rfl : i = 30 := by omega
    exact kk I (fun j a b => by omega) (fun _ _ _ => rfl)
  · refine ex_st 6 (pc' := 150) (ls' := [(1, xi (↑i)), (0, xr 143)]) (st' := [xi (↑i), xr 177, xi (↑i), xr 147]) rfl ?_
    refine ex_iald (j := i) rfl (by decide) (rfl : xSH[177]? = some _) (by omega) (by omega) (by decide) ?_
    refine ex_iast (j := i) rfl (by decide) (rfl : xSH[147]? = some _) (by omega) (by omega) (by decide) ?_
    refine ex_st 2 (pc' := 134) (ls' := [(1, xi ((↑i) + 1)), (0, xr 143)]) (st' := []) rfl ?_
    refine lp_m_undo1 (i + 1) (by omega) (fun I' h1 h2 => kk I' (fun j a b => ?_) (fun k j hk => ?_))
    · by_cases e : j = i
      · subst e; rw [h2 _ _ (by omega)]; (repeat (first | rw [x_up_far (by omega)] | rw [x_up_at2 (by omega) (by omega)]))
      · rw [h1 j (by omega) b]; (repeat (first | rw [x_up_far (by omega)] | rw [x_up_at2 (by omega) (by omega)]))
    · rw [h2 _ _ (by omega)]; (repeat rw [x_up_far (by omega)])
termination_by 30 - i
decreasing_by all_goals omega
set_option maxRecDepth 8000 in
set_option maxHeartbeats 1000000 in
theorem lp_m_undo2 {sc : List Int} {I : Nat → Nat → Int} {L : Nat → Nat → Int64} {Q : Option xPV → xMem → Prop} (i : Nat) (hi : i ≤ 24) (kk : ∀ I' : Nat → Nat → Int, (∀ j, i ≤ j → j < 24 → I' 148 j = I 178 j) → (∀ k j, ¬ ((k = 148) ∧ i ≤ j ∧ j < 24) → I' k j = I k j) → x_Ex sc 29 xM_m_undo 184 [(1, xi 24), (0, xr 143)] [] (xSH, I', L) Q) : x_Ex sc 29 xM_m_undo 160 [(1, xi (↑i)), (0, xr 143)] [] (xSH, I, L) Q := by
  refine ex_st 2 (pc' := 163) (ls' := [(1, xi (↑i)), (0, xr 143)]) (st' := [xi 24, xi (↑i)]) rfl ?_
  refine ex_ic rfl (by constructor <;> omega) (by decide) (fun (h0 : ((24 : Int)) ≤ (↑i : Int)) => ?_) (fun (h0 : ¬ ((24 : Int)) ≤ (↑i : Int)) => ?_)
  · obtain rfl : i = 24 := by omega
    exact kk I (fun j a b => by omega) (fun _ _ _ => rfl)
  · refine ex_st 6 (pc' := 176) (ls' := [(1, xi (↑i)), (0, xr 143)]) (st' := [xi (↑i), xr 178, xi (↑i), xr 148]) rfl ?_
    refine ex_iald (j := i) rfl (by decide) (rfl : xSH[178]? = some _) (by omega) (by omega) (by decide) ?_
    refine ex_iast (j := i) rfl (by decide) (rfl : xSH[148]? = some _) (by omega) (by omega) (by decide) ?_
    refine ex_st 2 (pc' := 160) (ls' := [(1, xi ((↑i) + 1)), (0, xr 143)]) (st' := []) rfl ?_
    refine lp_m_undo2 (i + 1) (by omega) (fun I' h1 h2 => kk I' (fun j a b => ?_) (fun k j hk => ?_))
    · by_cases e : j = i
      · subst e; rw [h2 _ _ (by omega)]; (repeat (first | rw [x_up_far (by omega)] | rw [x_up_at2 (by omega) (by omega)]))
      · rw [h1 j (by omega) b]; (repeat (first | rw [x_up_far (by omega)] | rw [x_up_at2 (by omega) (by omega)]))
    · rw [h2 _ _ (by omega)]; (repeat rw [x_up_far (by omega)])
termination_by 24 - i
decreasing_by all_goals omega
set_option maxRecDepth 8000 in
set_option maxHeartbeats 1000000 in
theorem lp_m_undo3 {sc : List Int} {I : Nat → Nat → Int} {L : Nat → Nat → Int64} {Q : Option xPV → xMem → Prop} (hb : ∀ j, j < 5 → I 189 j = 0 ∨ I 189 j = 1) (i : Nat) (hi : i ≤ 5) (kk : ∀ I' : Nat → Nat → Int, (∀ j, i ≤ j → j < 5 → I' 149 j = I 179 j ∧ I' 150 j = I 180 j ∧ I' 165 j = I 181 j ∧ I' 166 j = I 182 j ∧ I' 167 j = I 183 j ∧ I' 168 j = I 189 j) → (∀ k j, ¬ ((k = 149 ∨ k = 150 ∨ k = 165 ∨ k = 166 ∨ k = 167 ∨ k = 168) ∧ i ≤ j ∧ j < 5) → I' k j = I k j) → x_Ex sc 29 xM_m_undo 269 [(1, xi 5), (0, xr 143)] [] (xSH, I', L) Q) : x_Ex sc 29 xM_m_undo 186 [(1, xi (↑i)), (0, xr 143)] [] (xSH, I, L) Q := by
  refine ex_st 2 (pc' := 188) (ls' := [(1, xi (↑i)), (0, xr 143)]) (st' := [xi 5, xi (↑i)]) rfl ?_
  refine ex_ic rfl (by constructor <;> omega) (by decide) (fun (h0 : ((5 : Int)) ≤ (↑i : Int)) => ?_) (fun (h0 : ¬ ((5 : Int)) ≤ (↑i : Int)) => ?_)
  · obtain rfl : i = 5 := by omega
    exact kk I (fun j a b => by omega) (fun _ _ _ => rfl)
  · refine ex_st 6 (pc' := 201) (ls' := [(1, xi (↑i)), (0, xr 143)]) (st' := [xi (↑i), xr 179, xi (↑i), xr 149]) rfl ?_
    refine ex_iald (j := i) rfl (by decide) (rfl : xSH[179]? = some _) (by omega) (by omega) (by decide) ?_
    refine ex_iast (j := i) rfl (by decide) (rfl : xSH[149]? = some _) (by omega) (by omega) (by decide) ?_
    refine ex_st 6 (pc' := 213) (ls' := [(1, xi (↑i)), (0, xr 143)]) (st' := [xi (↑i), xr 180, xi (↑i), xr 150]) rfl ?_
    refine ex_iald (j := i) rfl (by decide) (rfl : xSH[180]? = some _) (by omega) (by omega) (by decide) ?_
    rw [(x_up_far (by first | decide | omega) : (x_up I 149 i (I 179 i)) 180 i = I 180 i)]
    refine ex_iast (j := i) rfl (by decide) (rfl : xSH[150]? = some _) (by omega) (by omega) (by decide) ?_
    refine ex_st 6 (pc' := 225) (ls' := [(1, xi (↑i)), (0, xr 143)]) (st' := [xi (↑i), xr 181, xi (↑i), xr 165]) rfl ?_
    refine ex_iald (j := i) rfl (by decide) (rfl : xSH[181]? = some _) (by omega) (by omega) (by decide) ?_
    rw [(x_up_far (by first | decide | omega) : (x_up (x_up I 149 i (I 179 i)) 150 i (I 180 i)) 181 i = (x_up I 149 i (I 179 i)) 181 i)]
    rw [(x_up_far (by first | decide | omega) : (x_up I 149 i (I 179 i)) 181 i = I 181 i)]
    refine ex_iast (j := i) rfl (by decide) (rfl : xSH[165]? = some _) (by omega) (by omega) (by decide) ?_
    refine ex_st 6 (pc' := 237) (ls' := [(1, xi (↑i)), (0, xr 143)]) (st' := [xi (↑i), xr 182, xi (↑i), xr 166]) rfl ?_
    refine ex_iald (j := i) rfl (by decide) (rfl : xSH[182]? = some _) (by omega) (by omega) (by decide) ?_
    rw [(x_up_far (by first | decide | omega) : (x_up (x_up (x_up I 149 i (I 179 i)) 150 i (I 180 i)) 165 i (I 181 i)) 182 i = (x_up (x_up I 149 i (I 179 i)) 150 i (I 180 i)) 182 i)]
    rw [(x_up_far (by first | decide | omega) : (x_up (x_up I 149 i (I 179 i)) 150 i (I 180 i)) 182 i = (x_up I 149 i (I 179 i)) 182 i)]
    rw [(x_up_far (by first | decide | omega) : (x_up I 149 i (I 179 i)) 182 i = I 182 i)]
    refine ex_iast (j := i) rfl (by decide) (rfl : xSH[166]? = some _) (by omega) (by omega) (by decide) ?_
    refine ex_st 6 (pc' := 249) (ls' := [(1, xi (↑i)), (0, xr 143)]) (st' := [xi (↑i), xr 183, xi (↑i), xr 167]) rfl ?_
    refine ex_iald (j := i) rfl (by decide) (rfl : xSH[183]? = some _) (by omega) (by omega) (by decide) ?_
    rw [(x_up_far (by first | decide | omega) : (x_up (x_up (x_up (x_up I 149 i (I 179 i)) 150 i (I 180 i)) 165 i (I 181 i)) 166 i (I 182 i)) 183 i = (x_up (x_up (x_up I 149 i (I 179 i)) 150 i (I 180 i)) 165 i (I 181 i)) 183 i)]
    rw [(x_up_far (by first | decide | omega) : (x_up (x_up (x_up I 149 i (I 179 i)) 150 i (I 180 i)) 165 i (I 181 i)) 183 i = (x_up (x_up I 149 i (I 179 i)) 150 i (I 180 i)) 183 i)]
    rw [(x_up_far (by first | decide | omega) : (x_up (x_up I 149 i (I 179 i)) 150 i (I 180 i)) 183 i = (x_up I 149 i (I 179 i)) 183 i)]
    rw [(x_up_far (by first | decide | omega) : (x_up I 149 i (I 179 i)) 183 i = I 183 i)]
    refine ex_iast (j := i) rfl (by decide) (rfl : xSH[167]? = some _) (by omega) (by omega) (by decide) ?_
    refine ex_st 6 (pc' := 261) (ls' := [(1, xi (↑i)), (0, xr 143)]) (st' := [xi (↑i), xr 189, xi (↑i), xr 168]) rfl ?_
    refine ex_bald (j := i) rfl (by decide) (rfl : xSH[189]? = some _) (by omega) (by omega) (by decide) ?_
    rw [(x_up_far (by first | decide | omega) : (x_up (x_up (x_up (x_up (x_up I 149 i (I 179 i)) 150 i (I 180 i)) 165 i (I 181 i)) 166 i (I 182 i)) 167 i (I 183 i)) 189 i = (x_up (x_up (x_up (x_up I 149 i (I 179 i)) 150 i (I 180 i)) 165 i (I 181 i)) 166 i (I 182 i)) 189 i)]
    rw [(x_up_far (by first | decide | omega) : (x_up (x_up (x_up (x_up I 149 i (I 179 i)) 150 i (I 180 i)) 165 i (I 181 i)) 166 i (I 182 i)) 189 i = (x_up (x_up (x_up I 149 i (I 179 i)) 150 i (I 180 i)) 165 i (I 181 i)) 189 i)]
    rw [(x_up_far (by first | decide | omega) : (x_up (x_up (x_up I 149 i (I 179 i)) 150 i (I 180 i)) 165 i (I 181 i)) 189 i = (x_up (x_up I 149 i (I 179 i)) 150 i (I 180 i)) 189 i)]
    rw [(x_up_far (by first | decide | omega) : (x_up (x_up I 149 i (I 179 i)) 150 i (I 180 i)) 189 i = (x_up I 149 i (I 179 i)) 189 i)]
    rw [(x_up_far (by first | decide | omega) : (x_up I 149 i (I 179 i)) 189 i = I 189 i)]
    refine ex_bast (j := i) rfl (by decide) (rfl : xSH[168]? = some _) (by omega) (by omega) (by decide) (by right; refine ⟨rfl, ?_⟩; (repeat rw [x_up_far (by omega)]); exact hb i (by omega)) ?_
    refine ex_st 2 (pc' := 186) (ls' := [(1, xi ((↑i) + 1)), (0, xr 143)]) (st' := []) rfl ?_
    refine lp_m_undo3 (fun j hj => by (repeat rw [x_up_far (by omega)]); exact hb j hj) (i + 1) (by omega) (fun I' h1 h2 => kk I' (fun j a b => ?_) (fun k j hk => ?_))
    · by_cases e : j = i
      · subst e; refine ⟨?_, ?_, ?_, ?_, ?_, ?_⟩ <;> (rw [h2 _ _ (by omega)]; (repeat (first | rw [x_up_far (by omega)] | rw [x_up_at2 (by omega) (by omega)])))
      · have z := h1 j (by omega) b; refine ⟨?_, ?_, ?_, ?_, ?_, ?_⟩
        · rw [z.1]; (repeat (first | rw [x_up_far (by omega)] | rw [x_up_at2 (by omega) (by omega)]))
        · rw [z.2.1]; (repeat (first | rw [x_up_far (by omega)] | rw [x_up_at2 (by omega) (by omega)]))
        · rw [z.2.2.1]; (repeat (first | rw [x_up_far (by omega)] | rw [x_up_at2 (by omega) (by omega)]))
        · rw [z.2.2.2.1]; (repeat (first | rw [x_up_far (by omega)] | rw [x_up_at2 (by omega) (by omega)]))
        · rw [z.2.2.2.2.1]; (repeat (first | rw [x_up_far (by omega)] | rw [x_up_at2 (by omega) (by omega)]))
        · rw [z.2.2.2.2.2]; (repeat (first | rw [x_up_far (by omega)] | rw [x_up_at2 (by omega) (by omega)]))
    · rw [h2 _ _ (by omega)]; (repeat rw [x_up_far (by omega)])
termination_by 5 - i
decreasing_by all_goals omega
set_option maxRecDepth 8000 in
set_option maxHeartbeats 1000000 in
theorem lp_m_undo4 {sc : List Int} {I : Nat → Nat → Int} {L : Nat → Nat → Int64} {Q : Option xPV → xMem → Prop} (i : Nat) (hi : i ≤ 10) (kk : ∀ I' : Nat → Nat → Int, (∀ j, i ≤ j → j < 10 → I' 169 j = I 184 j ∧ I' 170 j = I 185 j) → (∀ k j, ¬ ((k = 169 ∨ k = 170) ∧ i ≤ j ∧ j < 10) → I' k j = I k j) → x_Ex sc 29 xM_m_undo 307 [(1, xi 10), (0, xr 143)] [] (xSH, I', L) Q) : x_Ex sc 29 xM_m_undo 271 [(1, xi (↑i)), (0, xr 143)] [] (xSH, I, L) Q := by
  refine ex_st 2 (pc' := 274) (ls' := [(1, xi (↑i)), (0, xr 143)]) (st' := [xi 10, xi (↑i)]) rfl ?_
  refine ex_ic rfl (by constructor <;> omega) (by decide) (fun (h0 : ((10 : Int)) ≤ (↑i : Int)) => ?_) (fun (h0 : ¬ ((10 : Int)) ≤ (↑i : Int)) => ?_)
  · obtain rfl : i = 10 := by omega
    exact kk I (fun j a b => by omega) (fun _ _ _ => rfl)
  · refine ex_st 6 (pc' := 287) (ls' := [(1, xi (↑i)), (0, xr 143)]) (st' := [xi (↑i), xr 184, xi (↑i), xr 169]) rfl ?_
    refine ex_iald (j := i) rfl (by decide) (rfl : xSH[184]? = some _) (by omega) (by omega) (by decide) ?_
    refine ex_iast (j := i) rfl (by decide) (rfl : xSH[169]? = some _) (by omega) (by omega) (by decide) ?_
    refine ex_st 6 (pc' := 299) (ls' := [(1, xi (↑i)), (0, xr 143)]) (st' := [xi (↑i), xr 185, xi (↑i), xr 170]) rfl ?_
    refine ex_iald (j := i) rfl (by decide) (rfl : xSH[185]? = some _) (by omega) (by omega) (by decide) ?_
    rw [(x_up_far (by first | decide | omega) : (x_up I 169 i (I 184 i)) 185 i = I 185 i)]
    refine ex_iast (j := i) rfl (by decide) (rfl : xSH[170]? = some _) (by omega) (by omega) (by decide) ?_
    refine ex_st 2 (pc' := 271) (ls' := [(1, xi ((↑i) + 1)), (0, xr 143)]) (st' := []) rfl ?_
    refine lp_m_undo4 (i + 1) (by omega) (fun I' h1 h2 => kk I' (fun j a b => ?_) (fun k j hk => ?_))
    · by_cases e : j = i
      · subst e; refine ⟨?_, ?_⟩ <;> (rw [h2 _ _ (by omega)]; (repeat (first | rw [x_up_far (by omega)] | rw [x_up_at2 (by omega) (by omega)])))
      · have z := h1 j (by omega) b; refine ⟨?_, ?_⟩
        · rw [z.1]; (repeat (first | rw [x_up_far (by omega)] | rw [x_up_at2 (by omega) (by omega)]))
        · rw [z.2]; (repeat (first | rw [x_up_far (by omega)] | rw [x_up_at2 (by omega) (by omega)]))
    · rw [h2 _ _ (by omega)]; (repeat rw [x_up_far (by omega)])
termination_by 10 - i
decreasing_by all_goals omega
set_option maxRecDepth 8000 in
set_option maxHeartbeats 1000000 in
theorem lp_m_undo5 {sc : List Int} {I : Nat → Nat → Int} {L : Nat → Nat → Int64} {Q : Option xPV → xMem → Prop} (i : Nat) (hi : i ≤ 8) (kk : ∀ I' : Nat → Nat → Int, (∀ j, i ≤ j → j < 8 → I' 171 j = I 186 j ∧ I' 172 j = I 187 j ∧ I' 173 j = I 188 j) → (∀ k j, ¬ ((k = 171 ∨ k = 172 ∨ k = 173) ∧ i ≤ j ∧ j < 8) → I' k j = I k j) → x_Ex sc 29 xM_m_undo 357 [(1, xi 8), (0, xr 143)] [] (xSH, I', L) Q) : x_Ex sc 29 xM_m_undo 309 [(1, xi (↑i)), (0, xr 143)] [] (xSH, I, L) Q := by
  refine ex_st 2 (pc' := 312) (ls' := [(1, xi (↑i)), (0, xr 143)]) (st' := [xi 8, xi (↑i)]) rfl ?_
  refine ex_ic rfl (by constructor <;> omega) (by decide) (fun (h0 : ((8 : Int)) ≤ (↑i : Int)) => ?_) (fun (h0 : ¬ ((8 : Int)) ≤ (↑i : Int)) => ?_)
  · obtain rfl : i = 8 := by omega
    exact kk I (fun j a b => by omega) (fun _ _ _ => rfl)
  · refine ex_st 6 (pc' := 325) (ls' := [(1, xi (↑i)), (0, xr 143)]) (st' := [xi (↑i), xr 186, xi (↑i), xr 171]) rfl ?_
    refine ex_iald (j := i) rfl (by decide) (rfl : xSH[186]? = some _) (by omega) (by omega) (by decide) ?_
    refine ex_iast (j := i) rfl (by decide) (rfl : xSH[171]? = some _) (by omega) (by omega) (by decide) ?_
    refine ex_st 6 (pc' := 337) (ls' := [(1, xi (↑i)), (0, xr 143)]) (st' := [xi (↑i), xr 187, xi (↑i), xr 172]) rfl ?_
    refine ex_iald (j := i) rfl (by decide) (rfl : xSH[187]? = some _) (by omega) (by omega) (by decide) ?_
    rw [(x_up_far (by first | decide | omega) : (x_up I 171 i (I 186 i)) 187 i = I 187 i)]
    refine ex_iast (j := i) rfl (by decide) (rfl : xSH[172]? = some _) (by omega) (by omega) (by decide) ?_
    refine ex_st 6 (pc' := 349) (ls' := [(1, xi (↑i)), (0, xr 143)]) (st' := [xi (↑i), xr 188, xi (↑i), xr 173]) rfl ?_
    refine ex_iald (j := i) rfl (by decide) (rfl : xSH[188]? = some _) (by omega) (by omega) (by decide) ?_
    rw [(x_up_far (by first | decide | omega) : (x_up (x_up I 171 i (I 186 i)) 172 i (I 187 i)) 188 i = (x_up I 171 i (I 186 i)) 188 i)]
    rw [(x_up_far (by first | decide | omega) : (x_up I 171 i (I 186 i)) 188 i = I 188 i)]
    refine ex_iast (j := i) rfl (by decide) (rfl : xSH[173]? = some _) (by omega) (by omega) (by decide) ?_
    refine ex_st 2 (pc' := 309) (ls' := [(1, xi ((↑i) + 1)), (0, xr 143)]) (st' := []) rfl ?_
    refine lp_m_undo5 (i + 1) (by omega) (fun I' h1 h2 => kk I' (fun j a b => ?_) (fun k j hk => ?_))
    · by_cases e : j = i
      · subst e; refine ⟨?_, ?_, ?_⟩ <;> (rw [h2 _ _ (by omega)]; (repeat (first | rw [x_up_far (by omega)] | rw [x_up_at2 (by omega) (by omega)])))
      · have z := h1 j (by omega) b; refine ⟨?_, ?_, ?_⟩
        · rw [z.1]; (repeat (first | rw [x_up_far (by omega)] | rw [x_up_at2 (by omega) (by omega)]))
        · rw [z.2.1]; (repeat (first | rw [x_up_far (by omega)] | rw [x_up_at2 (by omega) (by omega)]))
        · rw [z.2.2]; (repeat (first | rw [x_up_far (by omega)] | rw [x_up_at2 (by omega) (by omega)]))
    · rw [h2 _ _ (by omega)]; (repeat rw [x_up_far (by omega)])
termination_by 8 - i
decreasing_by all_goals omega
set_option maxRecDepth 8000 in
set_option maxHeartbeats 4000000 in
theorem op_image {sc : List Int} {I : Nat → Nat → Int} {L : Nat → Nat → Int64} (hR : Rl I L) : x_PQ sc xN_G_image [xr 0] xN_m_image [xr 143] (xSH, I, L) := by
  obtain ⟨⟨hNs, hNo, hNa, hNb, hNr, hNd, hNg, hNe, hNp, hNk⟩, hI, hT, hX, hC, hH, hQ⟩ := id hR
  have hs := hNs
  unfold RNs at hs
  obtain ⟨hIs, hIo, hIa, hIb, hIr, hId, hIg, hIe, hIp, hIk⟩ := id hI
  have hb01 : ∀ p, p < 6 → I (11 + 3 * p) 3 = 0 ∨ I (11 + 3 * p) 3 = 1 := fun p hp => by rw [hNa.1 p hp]; exact x_b01 _
  have hBo : ∀ j, j < 5 → I 168 j = 0 ∨ I 168 j = 1 := fun j hj => (hH.2.2.2.2 j hj).1
  have hsI := hIs
  unfold RIs at hsI
  have hh := hH
  unfold RH at hh
  have hNez : True ∧ 0 ≤ I 5 2 ∧ I 5 2 ≤ 5 := ⟨trivial, by have h := hNe.1; have h2 := hNe.2.1; omega, by have h := hNe.1; have h2 := hNe.2.2.1; omega⟩
  have hNpz : True ∧ 0 ≤ I 7 2 ∧ I 7 2 ≤ 10 := ⟨trivial, by have h := hNp.1; have h2 := hNp.2.1; omega, by have h := hNp.1; have h2 := hNp.2.2.1; omega⟩
  have hNkz : True ∧ 0 ≤ I 9 2 ∧ I 9 2 ≤ 8 := ⟨trivial, by have h := hNk.1; have h2 := hNk.2.1; omega, by have h := hNk.1; have h2 := hNk.2.2.1; omega⟩
  have qg := hNg.1
  have qe := hNe.1
  have qp := hNp.1
  have qk := hNk.1
  have qg2 := hNg.2.1
  have qg3 := hNg.2.2.1
  refine x_CQ.of (M := xM_G_image) rfl (Nat.le_of_ble_eq_true rfl) ?_
  refine ex_st 4 (pc' := 8) (ls' := [(0, xr 0)]) (st' := [xr 1, xr 29]) rfl ?_
  refine ex_callQ (ct_W_become29_1 hb01 hNez.2 hNpz.2 hNkz.2) (by decide) rfl ⟨rfl, rfl, rfl⟩ ⟨Nat.le_of_ble_eq_true rfl, rfl, rfl⟩ (Nat.le_of_ble_eq_true rfl) rfl (fun ra m2 hQ => ?_)
  obtain ⟨rfl, I1, rfl, w1, w2, w3, w4, w5, w6, w7, w8, w9⟩ := hQ
  refine ex_st 2 (pc' := 13) (ls' := [(0, xr 0)]) (st' := [xi 1, xr 0]) rfl ?_
  refine ex_pfi rfl (by decide) (rfl : xSH[0]? = some _) (by decide) rfl (by decide) (fun _ => by first | exact x_b01 _ | simp | omega) ?_
  refine ex_st 3 (pc' := 23) (ls' := [(0, xr 0)]) (st' := [xi ((x_up I1 0 3 1) 1 1)]) rfl ?_
  rw [(x_up_far (by first | decide | omega) : (x_up I1 0 3 1) 1 1 = I1 1 1)]
  rw [(w9 _ _ (by omega))]
  refine ex_reti rfl rfl ?_
  refine x_CQ.of (M := xM_m_image) rfl (Nat.le_of_ble_eq_true rfl) ?_
  refine ex_st 2 (pc' := 2) (ls' := [(0, xr 143)]) (st' := [xi 1, xr 143]) rfl ?_
  refine ex_pfi rfl (by decide) (rfl : xSH[143]? = some _) (by decide) rfl (by decide) (fun _ => by first | exact x_b01 _ | simp | omega) ?_
  refine ex_st 3 (pc' := 10) (ls' := [(0, xr 143)]) (st' := [xi ((x_up (x_up I1 0 3 1) 143 50 1) 143 13), xr 143]) rfl ?_
  rw [(x_up_far (by first | decide | omega) : (x_up (x_up I1 0 3 1) 143 50 1) 143 13 = (x_up I1 0 3 1) 143 13)]
  rw [(x_up_far (by first | decide | omega) : (x_up I1 0 3 1) 143 13 = I1 143 13)]
  rw [(w9 _ _ (by omega))]
  refine ex_pfi rfl (by decide) (rfl : xSH[143]? = some _) (by decide) rfl (by decide) (fun h => by cases h) ?_
  refine ex_st 3 (pc' := 18) (ls' := [(0, xr 143)]) (st' := [xi ((x_up (x_up (x_up I1 0 3 1) 143 50 1) 143 51 (I 143 13)) 143 0), xr 143]) rfl ?_
  rw [(x_up_far (by first | decide | omega) : (x_up (x_up (x_up I1 0 3 1) 143 50 1) 143 51 (I 143 13)) 143 0 = (x_up (x_up I1 0 3 1) 143 50 1) 143 0)]
  rw [(x_up_far (by first | decide | omega) : (x_up (x_up I1 0 3 1) 143 50 1) 143 0 = (x_up I1 0 3 1) 143 0)]
  rw [(x_up_far (by first | decide | omega) : (x_up I1 0 3 1) 143 0 = I1 143 0)]
  rw [(w9 _ _ (by omega))]
  refine ex_pfi rfl (by decide) (rfl : xSH[143]? = some _) (by decide) rfl (by decide) (fun h => by cases h) ?_
  refine ex_st 3 (pc' := 26) (ls' := [(0, xr 143)]) (st' := [xi ((x_up (x_up (x_up (x_up I1 0 3 1) 143 50 1) 143 51 (I 143 13)) 143 52 (I 143 0)) 143 1), xr 143]) rfl ?_
  rw [(x_up_far (by first | decide | omega) : (x_up (x_up (x_up (x_up I1 0 3 1) 143 50 1) 143 51 (I 143 13)) 143 52 (I 143 0)) 143 1 = (x_up (x_up (x_up I1 0 3 1) 143 50 1) 143 51 (I 143 13)) 143 1)]
  rw [(x_up_far (by first | decide | omega) : (x_up (x_up (x_up I1 0 3 1) 143 50 1) 143 51 (I 143 13)) 143 1 = (x_up (x_up I1 0 3 1) 143 50 1) 143 1)]
  rw [(x_up_far (by first | decide | omega) : (x_up (x_up I1 0 3 1) 143 50 1) 143 1 = (x_up I1 0 3 1) 143 1)]
  rw [(x_up_far (by first | decide | omega) : (x_up I1 0 3 1) 143 1 = I1 143 1)]
  rw [(w9 _ _ (by omega))]
  refine ex_pfi rfl (by decide) (rfl : xSH[143]? = some _) (by decide) rfl (by decide) (fun h => by cases h) ?_
  refine ex_st 3 (pc' := 34) (ls' := [(0, xr 143)]) (st' := [xi ((x_up (x_up (x_up (x_up (x_up I1 0 3 1) 143 50 1) 143 51 (I 143 13)) 143 52 (I 143 0)) 143 53 (I 143 1)) 143 2), xr 143]) rfl ?_
  rw [(x_up_far (by first | decide | omega) : (x_up (x_up (x_up (x_up (x_up I1 0 3 1) 143 50 1) 143 51 (I 143 13)) 143 52 (I 143 0)) 143 53 (I 143 1)) 143 2 = (x_up (x_up (x_up (x_up I1 0 3 1) 143 50 1) 143 51 (I 143 13)) 143 52 (I 143 0)) 143 2)]
  rw [(x_up_far (by first | decide | omega) : (x_up (x_up (x_up (x_up I1 0 3 1) 143 50 1) 143 51 (I 143 13)) 143 52 (I 143 0)) 143 2 = (x_up (x_up (x_up I1 0 3 1) 143 50 1) 143 51 (I 143 13)) 143 2)]
  rw [(x_up_far (by first | decide | omega) : (x_up (x_up (x_up I1 0 3 1) 143 50 1) 143 51 (I 143 13)) 143 2 = (x_up (x_up I1 0 3 1) 143 50 1) 143 2)]
  rw [(x_up_far (by first | decide | omega) : (x_up (x_up I1 0 3 1) 143 50 1) 143 2 = (x_up I1 0 3 1) 143 2)]
  rw [(x_up_far (by first | decide | omega) : (x_up I1 0 3 1) 143 2 = I1 143 2)]
  rw [(w9 _ _ (by omega))]
  refine ex_pfi rfl (by decide) (rfl : xSH[143]? = some _) (by decide) rfl (by decide) (fun h => by cases h) ?_
  refine ex_st 3 (pc' := 42) (ls' := [(0, xr 143)]) (st' := [xi ((x_up (x_up (x_up (x_up (x_up (x_up I1 0 3 1) 143 50 1) 143 51 (I 143 13)) 143 52 (I 143 0)) 143 53 (I 143 1)) 143 54 (I 143 2)) 143 3), xr 143]) rfl ?_
  rw [(x_up_far (by first | decide | omega) : (x_up (x_up (x_up (x_up (x_up (x_up I1 0 3 1) 143 50 1) 143 51 (I 143 13)) 143 52 (I 143 0)) 143 53 (I 143 1)) 143 54 (I 143 2)) 143 3 = (x_up (x_up (x_up (x_up (x_up I1 0 3 1) 143 50 1) 143 51 (I 143 13)) 143 52 (I 143 0)) 143 53 (I 143 1)) 143 3)]
  rw [(x_up_far (by first | decide | omega) : (x_up (x_up (x_up (x_up (x_up I1 0 3 1) 143 50 1) 143 51 (I 143 13)) 143 52 (I 143 0)) 143 53 (I 143 1)) 143 3 = (x_up (x_up (x_up (x_up I1 0 3 1) 143 50 1) 143 51 (I 143 13)) 143 52 (I 143 0)) 143 3)]
  rw [(x_up_far (by first | decide | omega) : (x_up (x_up (x_up (x_up I1 0 3 1) 143 50 1) 143 51 (I 143 13)) 143 52 (I 143 0)) 143 3 = (x_up (x_up (x_up I1 0 3 1) 143 50 1) 143 51 (I 143 13)) 143 3)]
  rw [(x_up_far (by first | decide | omega) : (x_up (x_up (x_up I1 0 3 1) 143 50 1) 143 51 (I 143 13)) 143 3 = (x_up (x_up I1 0 3 1) 143 50 1) 143 3)]
  rw [(x_up_far (by first | decide | omega) : (x_up (x_up I1 0 3 1) 143 50 1) 143 3 = (x_up I1 0 3 1) 143 3)]
  rw [(x_up_far (by first | decide | omega) : (x_up I1 0 3 1) 143 3 = I1 143 3)]
  rw [(w9 _ _ (by omega))]
  refine ex_pfi rfl (by decide) (rfl : xSH[143]? = some _) (by decide) rfl (by decide) (fun h => by cases h) ?_
  refine ex_st 3 (pc' := 50) (ls' := [(0, xr 143)]) (st' := [xi ((x_up (x_up (x_up (x_up (x_up (x_up (x_up I1 0 3 1) 143 50 1) 143 51 (I 143 13)) 143 52 (I 143 0)) 143 53 (I 143 1)) 143 54 (I 143 2)) 143 55 (I 143 3)) 143 4), xr 143]) rfl ?_
  rw [(x_up_far (by first | decide | omega) : (x_up (x_up (x_up (x_up (x_up (x_up (x_up I1 0 3 1) 143 50 1) 143 51 (I 143 13)) 143 52 (I 143 0)) 143 53 (I 143 1)) 143 54 (I 143 2)) 143 55 (I 143 3)) 143 4 = (x_up (x_up (x_up (x_up (x_up (x_up I1 0 3 1) 143 50 1) 143 51 (I 143 13)) 143 52 (I 143 0)) 143 53 (I 143 1)) 143 54 (I 143 2)) 143 4)]
  rw [(x_up_far (by first | decide | omega) : (x_up (x_up (x_up (x_up (x_up (x_up I1 0 3 1) 143 50 1) 143 51 (I 143 13)) 143 52 (I 143 0)) 143 53 (I 143 1)) 143 54 (I 143 2)) 143 4 = (x_up (x_up (x_up (x_up (x_up I1 0 3 1) 143 50 1) 143 51 (I 143 13)) 143 52 (I 143 0)) 143 53 (I 143 1)) 143 4)]
  rw [(x_up_far (by first | decide | omega) : (x_up (x_up (x_up (x_up (x_up I1 0 3 1) 143 50 1) 143 51 (I 143 13)) 143 52 (I 143 0)) 143 53 (I 143 1)) 143 4 = (x_up (x_up (x_up (x_up I1 0 3 1) 143 50 1) 143 51 (I 143 13)) 143 52 (I 143 0)) 143 4)]
  rw [(x_up_far (by first | decide | omega) : (x_up (x_up (x_up (x_up I1 0 3 1) 143 50 1) 143 51 (I 143 13)) 143 52 (I 143 0)) 143 4 = (x_up (x_up (x_up I1 0 3 1) 143 50 1) 143 51 (I 143 13)) 143 4)]
  rw [(x_up_far (by first | decide | omega) : (x_up (x_up (x_up I1 0 3 1) 143 50 1) 143 51 (I 143 13)) 143 4 = (x_up (x_up I1 0 3 1) 143 50 1) 143 4)]
  rw [(x_up_far (by first | decide | omega) : (x_up (x_up I1 0 3 1) 143 50 1) 143 4 = (x_up I1 0 3 1) 143 4)]
  rw [(x_up_far (by first | decide | omega) : (x_up I1 0 3 1) 143 4 = I1 143 4)]
  rw [(w9 _ _ (by omega))]
  refine ex_pfi rfl (by decide) (rfl : xSH[143]? = some _) (by decide) rfl (by decide) (fun h => by cases h) ?_
  refine ex_st 3 (pc' := 58) (ls' := [(0, xr 143)]) (st' := [xi ((x_up (x_up (x_up (x_up (x_up (x_up (x_up (x_up I1 0 3 1) 143 50 1) 143 51 (I 143 13)) 143 52 (I 143 0)) 143 53 (I 143 1)) 143 54 (I 143 2)) 143 55 (I 143 3)) 143 56 (I 143 4)) 143 38), xr 143]) rfl ?_
  rw [(x_up_far (by first | decide | omega) : (x_up (x_up (x_up (x_up (x_up (x_up (x_up (x_up I1 0 3 1) 143 50 1) 143 51 (I 143 13)) 143 52 (I 143 0)) 143 53 (I 143 1)) 143 54 (I 143 2)) 143 55 (I 143 3)) 143 56 (I 143 4)) 143 38 = (x_up (x_up (x_up (x_up (x_up (x_up (x_up I1 0 3 1) 143 50 1) 143 51 (I 143 13)) 143 52 (I 143 0)) 143 53 (I 143 1)) 143 54 (I 143 2)) 143 55 (I 143 3)) 143 38)]
  rw [(x_up_far (by first | decide | omega) : (x_up (x_up (x_up (x_up (x_up (x_up (x_up I1 0 3 1) 143 50 1) 143 51 (I 143 13)) 143 52 (I 143 0)) 143 53 (I 143 1)) 143 54 (I 143 2)) 143 55 (I 143 3)) 143 38 = (x_up (x_up (x_up (x_up (x_up (x_up I1 0 3 1) 143 50 1) 143 51 (I 143 13)) 143 52 (I 143 0)) 143 53 (I 143 1)) 143 54 (I 143 2)) 143 38)]
  rw [(x_up_far (by first | decide | omega) : (x_up (x_up (x_up (x_up (x_up (x_up I1 0 3 1) 143 50 1) 143 51 (I 143 13)) 143 52 (I 143 0)) 143 53 (I 143 1)) 143 54 (I 143 2)) 143 38 = (x_up (x_up (x_up (x_up (x_up I1 0 3 1) 143 50 1) 143 51 (I 143 13)) 143 52 (I 143 0)) 143 53 (I 143 1)) 143 38)]
  rw [(x_up_far (by first | decide | omega) : (x_up (x_up (x_up (x_up (x_up I1 0 3 1) 143 50 1) 143 51 (I 143 13)) 143 52 (I 143 0)) 143 53 (I 143 1)) 143 38 = (x_up (x_up (x_up (x_up I1 0 3 1) 143 50 1) 143 51 (I 143 13)) 143 52 (I 143 0)) 143 38)]
  rw [(x_up_far (by first | decide | omega) : (x_up (x_up (x_up (x_up I1 0 3 1) 143 50 1) 143 51 (I 143 13)) 143 52 (I 143 0)) 143 38 = (x_up (x_up (x_up I1 0 3 1) 143 50 1) 143 51 (I 143 13)) 143 38)]
  rw [(x_up_far (by first | decide | omega) : (x_up (x_up (x_up I1 0 3 1) 143 50 1) 143 51 (I 143 13)) 143 38 = (x_up (x_up I1 0 3 1) 143 50 1) 143 38)]
  rw [(x_up_far (by first | decide | omega) : (x_up (x_up I1 0 3 1) 143 50 1) 143 38 = (x_up I1 0 3 1) 143 38)]
  rw [(x_up_far (by first | decide | omega) : (x_up I1 0 3 1) 143 38 = I1 143 38)]
  rw [(w9 _ _ (by omega))]
  refine ex_pfi rfl (by decide) (rfl : xSH[143]? = some _) (by decide) rfl (by decide) (fun h => by cases h) ?_
  refine ex_st 3 (pc' := 66) (ls' := [(0, xr 143)]) (st' := [xi ((x_up (x_up (x_up (x_up (x_up (x_up (x_up (x_up (x_up I1 0 3 1) 143 50 1) 143 51 (I 143 13)) 143 52 (I 143 0)) 143 53 (I 143 1)) 143 54 (I 143 2)) 143 55 (I 143 3)) 143 56 (I 143 4)) 143 57 (I 143 38)) 143 43), xr 143]) rfl ?_
  rw [(x_up_far (by first | decide | omega) : (x_up (x_up (x_up (x_up (x_up (x_up (x_up (x_up (x_up I1 0 3 1) 143 50 1) 143 51 (I 143 13)) 143 52 (I 143 0)) 143 53 (I 143 1)) 143 54 (I 143 2)) 143 55 (I 143 3)) 143 56 (I 143 4)) 143 57 (I 143 38)) 143 43 = (x_up (x_up (x_up (x_up (x_up (x_up (x_up (x_up I1 0 3 1) 143 50 1) 143 51 (I 143 13)) 143 52 (I 143 0)) 143 53 (I 143 1)) 143 54 (I 143 2)) 143 55 (I 143 3)) 143 56 (I 143 4)) 143 43)]
  rw [(x_up_far (by first | decide | omega) : (x_up (x_up (x_up (x_up (x_up (x_up (x_up (x_up I1 0 3 1) 143 50 1) 143 51 (I 143 13)) 143 52 (I 143 0)) 143 53 (I 143 1)) 143 54 (I 143 2)) 143 55 (I 143 3)) 143 56 (I 143 4)) 143 43 = (x_up (x_up (x_up (x_up (x_up (x_up (x_up I1 0 3 1) 143 50 1) 143 51 (I 143 13)) 143 52 (I 143 0)) 143 53 (I 143 1)) 143 54 (I 143 2)) 143 55 (I 143 3)) 143 43)]
  rw [(x_up_far (by first | decide | omega) : (x_up (x_up (x_up (x_up (x_up (x_up (x_up I1 0 3 1) 143 50 1) 143 51 (I 143 13)) 143 52 (I 143 0)) 143 53 (I 143 1)) 143 54 (I 143 2)) 143 55 (I 143 3)) 143 43 = (x_up (x_up (x_up (x_up (x_up (x_up I1 0 3 1) 143 50 1) 143 51 (I 143 13)) 143 52 (I 143 0)) 143 53 (I 143 1)) 143 54 (I 143 2)) 143 43)]
  rw [(x_up_far (by first | decide | omega) : (x_up (x_up (x_up (x_up (x_up (x_up I1 0 3 1) 143 50 1) 143 51 (I 143 13)) 143 52 (I 143 0)) 143 53 (I 143 1)) 143 54 (I 143 2)) 143 43 = (x_up (x_up (x_up (x_up (x_up I1 0 3 1) 143 50 1) 143 51 (I 143 13)) 143 52 (I 143 0)) 143 53 (I 143 1)) 143 43)]
  rw [(x_up_far (by first | decide | omega) : (x_up (x_up (x_up (x_up (x_up I1 0 3 1) 143 50 1) 143 51 (I 143 13)) 143 52 (I 143 0)) 143 53 (I 143 1)) 143 43 = (x_up (x_up (x_up (x_up I1 0 3 1) 143 50 1) 143 51 (I 143 13)) 143 52 (I 143 0)) 143 43)]
  rw [(x_up_far (by first | decide | omega) : (x_up (x_up (x_up (x_up I1 0 3 1) 143 50 1) 143 51 (I 143 13)) 143 52 (I 143 0)) 143 43 = (x_up (x_up (x_up I1 0 3 1) 143 50 1) 143 51 (I 143 13)) 143 43)]
  rw [(x_up_far (by first | decide | omega) : (x_up (x_up (x_up I1 0 3 1) 143 50 1) 143 51 (I 143 13)) 143 43 = (x_up (x_up I1 0 3 1) 143 50 1) 143 43)]
  rw [(x_up_far (by first | decide | omega) : (x_up (x_up I1 0 3 1) 143 50 1) 143 43 = (x_up I1 0 3 1) 143 43)]
  rw [(x_up_far (by first | decide | omega) : (x_up I1 0 3 1) 143 43 = I1 143 43)]
  rw [(w9 _ _ (by omega))]
  refine ex_pfi rfl (by decide) (rfl : xSH[143]? = some _) (by decide) rfl (by decide) (fun h => by cases h) ?_
  refine ex_st 3 (pc' := 74) (ls' := [(0, xr 143)]) (st' := [xi ((x_up (x_up (x_up (x_up (x_up (x_up (x_up (x_up (x_up (x_up I1 0 3 1) 143 50 1) 143 51 (I 143 13)) 143 52 (I 143 0)) 143 53 (I 143 1)) 143 54 (I 143 2)) 143 55 (I 143 3)) 143 56 (I 143 4)) 143 57 (I 143 38)) 143 58 (I 143 43)) 143 44), xr 143]) rfl ?_
  rw [(x_up_far (by first | decide | omega) : (x_up (x_up (x_up (x_up (x_up (x_up (x_up (x_up (x_up (x_up I1 0 3 1) 143 50 1) 143 51 (I 143 13)) 143 52 (I 143 0)) 143 53 (I 143 1)) 143 54 (I 143 2)) 143 55 (I 143 3)) 143 56 (I 143 4)) 143 57 (I 143 38)) 143 58 (I 143 43)) 143 44 = (x_up (x_up (x_up (x_up (x_up (x_up (x_up (x_up (x_up I1 0 3 1) 143 50 1) 143 51 (I 143 13)) 143 52 (I 143 0)) 143 53 (I 143 1)) 143 54 (I 143 2)) 143 55 (I 143 3)) 143 56 (I 143 4)) 143 57 (I 143 38)) 143 44)]
  rw [(x_up_far (by first | decide | omega) : (x_up (x_up (x_up (x_up (x_up (x_up (x_up (x_up (x_up I1 0 3 1) 143 50 1) 143 51 (I 143 13)) 143 52 (I 143 0)) 143 53 (I 143 1)) 143 54 (I 143 2)) 143 55 (I 143 3)) 143 56 (I 143 4)) 143 57 (I 143 38)) 143 44 = (x_up (x_up (x_up (x_up (x_up (x_up (x_up (x_up I1 0 3 1) 143 50 1) 143 51 (I 143 13)) 143 52 (I 143 0)) 143 53 (I 143 1)) 143 54 (I 143 2)) 143 55 (I 143 3)) 143 56 (I 143 4)) 143 44)]
  rw [(x_up_far (by first | decide | omega) : (x_up (x_up (x_up (x_up (x_up (x_up (x_up (x_up I1 0 3 1) 143 50 1) 143 51 (I 143 13)) 143 52 (I 143 0)) 143 53 (I 143 1)) 143 54 (I 143 2)) 143 55 (I 143 3)) 143 56 (I 143 4)) 143 44 = (x_up (x_up (x_up (x_up (x_up (x_up (x_up I1 0 3 1) 143 50 1) 143 51 (I 143 13)) 143 52 (I 143 0)) 143 53 (I 143 1)) 143 54 (I 143 2)) 143 55 (I 143 3)) 143 44)]
  rw [(x_up_far (by first | decide | omega) : (x_up (x_up (x_up (x_up (x_up (x_up (x_up I1 0 3 1) 143 50 1) 143 51 (I 143 13)) 143 52 (I 143 0)) 143 53 (I 143 1)) 143 54 (I 143 2)) 143 55 (I 143 3)) 143 44 = (x_up (x_up (x_up (x_up (x_up (x_up I1 0 3 1) 143 50 1) 143 51 (I 143 13)) 143 52 (I 143 0)) 143 53 (I 143 1)) 143 54 (I 143 2)) 143 44)]
  rw [(x_up_far (by first | decide | omega) : (x_up (x_up (x_up (x_up (x_up (x_up I1 0 3 1) 143 50 1) 143 51 (I 143 13)) 143 52 (I 143 0)) 143 53 (I 143 1)) 143 54 (I 143 2)) 143 44 = (x_up (x_up (x_up (x_up (x_up I1 0 3 1) 143 50 1) 143 51 (I 143 13)) 143 52 (I 143 0)) 143 53 (I 143 1)) 143 44)]
  rw [(x_up_far (by first | decide | omega) : (x_up (x_up (x_up (x_up (x_up I1 0 3 1) 143 50 1) 143 51 (I 143 13)) 143 52 (I 143 0)) 143 53 (I 143 1)) 143 44 = (x_up (x_up (x_up (x_up I1 0 3 1) 143 50 1) 143 51 (I 143 13)) 143 52 (I 143 0)) 143 44)]
  rw [(x_up_far (by first | decide | omega) : (x_up (x_up (x_up (x_up I1 0 3 1) 143 50 1) 143 51 (I 143 13)) 143 52 (I 143 0)) 143 44 = (x_up (x_up (x_up I1 0 3 1) 143 50 1) 143 51 (I 143 13)) 143 44)]
  rw [(x_up_far (by first | decide | omega) : (x_up (x_up (x_up I1 0 3 1) 143 50 1) 143 51 (I 143 13)) 143 44 = (x_up (x_up I1 0 3 1) 143 50 1) 143 44)]
  rw [(x_up_far (by first | decide | omega) : (x_up (x_up I1 0 3 1) 143 50 1) 143 44 = (x_up I1 0 3 1) 143 44)]
  rw [(x_up_far (by first | decide | omega) : (x_up I1 0 3 1) 143 44 = I1 143 44)]
  rw [(w9 _ _ (by omega))]
  refine ex_pfi rfl (by decide) (rfl : xSH[143]? = some _) (by decide) rfl (by decide) (fun h => by cases h) ?_
  refine ex_st 2 (pc' := 79) (ls' := [(1, xi 0), (0, xr 143)]) (st' := []) rfl ?_
  generalize hM0 : (x_up (x_up (x_up (x_up (x_up (x_up (x_up (x_up (x_up (x_up (x_up I1 0 3 1) 143 50 1) 143 51 (I 143 13)) 143 52 (I 143 0)) 143 53 (I 143 1)) 143 54 (I 143 2)) 143 55 (I 143 3)) 143 56 (I 143 4)) 143 57 (I 143 38)) 143 58 (I 143 43)) 143 59 (I 143 44)) = M0
  have m0 : ∀ k j, ¬ ((k = 143 ∧ j = 59) ∨ (k = 143 ∧ j = 58) ∨ (k = 143 ∧ j = 57) ∨ (k = 143 ∧ j = 56) ∨ (k = 143 ∧ j = 55) ∨ (k = 143 ∧ j = 54) ∨ (k = 143 ∧ j = 53) ∨ (k = 143 ∧ j = 52) ∨ (k = 143 ∧ j = 51) ∨ (k = 143 ∧ j = 50) ∨ (k = 0 ∧ j = 3)) → M0 k j = I1 k j := by intro k j hk; rw [← hM0]; (repeat rw [x_up_far (by omega)])
  have s143_59 : M0 143 59 = (I 143 44) := by rw [← hM0]; (repeat (first | rw [x_up_far (by omega)] | rw [x_up_at2 (by omega) (by omega)]))
  have s143_58 : M0 143 58 = (I 143 43) := by rw [← hM0]; (repeat (first | rw [x_up_far (by omega)] | rw [x_up_at2 (by omega) (by omega)]))
  have s143_57 : M0 143 57 = (I 143 38) := by rw [← hM0]; (repeat (first | rw [x_up_far (by omega)] | rw [x_up_at2 (by omega) (by omega)]))
  have s143_56 : M0 143 56 = (I 143 4) := by rw [← hM0]; (repeat (first | rw [x_up_far (by omega)] | rw [x_up_at2 (by omega) (by omega)]))
  have s143_55 : M0 143 55 = (I 143 3) := by rw [← hM0]; (repeat (first | rw [x_up_far (by omega)] | rw [x_up_at2 (by omega) (by omega)]))
  have s143_54 : M0 143 54 = (I 143 2) := by rw [← hM0]; (repeat (first | rw [x_up_far (by omega)] | rw [x_up_at2 (by omega) (by omega)]))
  have s143_53 : M0 143 53 = (I 143 1) := by rw [← hM0]; (repeat (first | rw [x_up_far (by omega)] | rw [x_up_at2 (by omega) (by omega)]))
  have s143_52 : M0 143 52 = (I 143 0) := by rw [← hM0]; (repeat (first | rw [x_up_far (by omega)] | rw [x_up_at2 (by omega) (by omega)]))
  have s143_51 : M0 143 51 = (I 143 13) := by rw [← hM0]; (repeat (first | rw [x_up_far (by omega)] | rw [x_up_at2 (by omega) (by omega)]))
  have s143_50 : M0 143 50 = 1 := by rw [← hM0]; (repeat (first | rw [x_up_far (by omega)] | rw [x_up_at2 (by omega) (by omega)]))
  have s0_3 : M0 0 3 = 1 := by rw [← hM0]; (repeat (first | rw [x_up_far (by omega)] | rw [x_up_at2 (by omega) (by omega)]))
  clear hM0
  refine lp_m_image0 0 (by decide) (fun M1 r0 t0 => ?_)
  refine ex_st 2 (pc' := 129) (ls' := [(1, xi 0), (0, xr 143)]) (st' := []) rfl ?_
  refine lp_m_image1 0 (by decide) (fun M2 r1 t1 => ?_)
  refine ex_st 2 (pc' := 155) (ls' := [(1, xi 0), (0, xr 143)]) (st' := []) rfl ?_
  refine lp_m_image2 0 (by decide) (fun M3 r2 t2 => ?_)
  refine ex_st 2 (pc' := 181) (ls' := [(1, xi 0), (0, xr 143)]) (st' := []) rfl ?_
  refine lp_m_image3 (fun j hj => by rw [t2 _ _ (by omega), t1 _ _ (by omega), t0 _ _ (by omega), m0 _ _ (by omega), w9 _ _ (by omega)]; exact hBo j hj) 0 (by decide) (fun M4 r3 t3 => ?_)
  refine ex_st 2 (pc' := 266) (ls' := [(1, xi 0), (0, xr 143)]) (st' := []) rfl ?_
  refine lp_m_image4 0 (by decide) (fun M5 r4 t4 => ?_)
  refine ex_st 2 (pc' := 304) (ls' := [(1, xi 0), (0, xr 143)]) (st' := []) rfl ?_
  refine lp_m_image5 0 (by decide) (fun M6 r5 t5 => ?_)
  refine ex_st 2 (pc' := 356) (ls' := [(1, xi 8), (0, xr 143)]) (st' := [xi (M6 143 0)]) rfl ?_
  rw [(show M6 143 0 = I 143 0 from by rw [t5 _ _ (by omega), t4 _ _ (by omega), t3 _ _ (by omega), t2 _ _ (by omega), t1 _ _ (by omega), t0 _ _ (by omega), m0 _ _ (by omega), w9 _ _ (by omega)])]
  refine ex_reti rfl rfl ?_
  refine ⟨x_req (by omega), _, _, rfl, ?_⟩
  have hF : ∀ k j, ¬ ((k = 143 ∧ j = 59) ∨ (k = 143 ∧ j = 58) ∨ (k = 143 ∧ j = 57) ∨ (k = 143 ∧ j = 56) ∨ (k = 143 ∧ j = 55) ∨ (k = 143 ∧ j = 54) ∨ (k = 143 ∧ j = 53) ∨ (k = 143 ∧ j = 52) ∨ (k = 143 ∧ j = 51) ∨ (k = 143 ∧ j = 50) ∨ (k = 0 ∧ j = 3) ∨ k = 174 ∨ k = 175 ∨ k = 176 ∨ k = 177 ∨ k = 178 ∨ k = 179 ∨ k = 180 ∨ k = 181 ∨ k = 182 ∨ k = 183 ∨ k = 189 ∨ k = 184 ∨ k = 185 ∨ k = 186 ∨ k = 187 ∨ k = 188 ∨ (29 ≤ k ∧ k ≤ 56)) → M6 k j = I k j := fun k j hk => by rw [t5 _ _ (by omega), t4 _ _ (by omega), t3 _ _ (by omega), t2 _ _ (by omega), t1 _ _ (by omega), t0 _ _ (by omega), m0 _ _ (by omega), w9 _ _ (by omega)]
  have hD : ∀ k j, 29 ≤ k → k ≤ 56 → M6 k j = I1 k j := fun k j hk1 hk2 => by rw [t5 _ _ (by omega), t4 _ _ (by omega), t3 _ _ (by omega), t2 _ _ (by omega), t1 _ _ (by omega), t0 _ _ (by omega), m0 _ _ (by omega)]
  have S143_59 : M6 143 59 = (I 143 44) := by rw [t5 _ _ (by omega), t4 _ _ (by omega), t3 _ _ (by omega), t2 _ _ (by omega), t1 _ _ (by omega), t0 _ _ (by omega), s143_59]
  have S143_58 : M6 143 58 = (I 143 43) := by rw [t5 _ _ (by omega), t4 _ _ (by omega), t3 _ _ (by omega), t2 _ _ (by omega), t1 _ _ (by omega), t0 _ _ (by omega), s143_58]
  have S143_57 : M6 143 57 = (I 143 38) := by rw [t5 _ _ (by omega), t4 _ _ (by omega), t3 _ _ (by omega), t2 _ _ (by omega), t1 _ _ (by omega), t0 _ _ (by omega), s143_57]
  have S143_56 : M6 143 56 = (I 143 4) := by rw [t5 _ _ (by omega), t4 _ _ (by omega), t3 _ _ (by omega), t2 _ _ (by omega), t1 _ _ (by omega), t0 _ _ (by omega), s143_56]
  have S143_55 : M6 143 55 = (I 143 3) := by rw [t5 _ _ (by omega), t4 _ _ (by omega), t3 _ _ (by omega), t2 _ _ (by omega), t1 _ _ (by omega), t0 _ _ (by omega), s143_55]
  have S143_54 : M6 143 54 = (I 143 2) := by rw [t5 _ _ (by omega), t4 _ _ (by omega), t3 _ _ (by omega), t2 _ _ (by omega), t1 _ _ (by omega), t0 _ _ (by omega), s143_54]
  have S143_53 : M6 143 53 = (I 143 1) := by rw [t5 _ _ (by omega), t4 _ _ (by omega), t3 _ _ (by omega), t2 _ _ (by omega), t1 _ _ (by omega), t0 _ _ (by omega), s143_53]
  have S143_52 : M6 143 52 = (I 143 0) := by rw [t5 _ _ (by omega), t4 _ _ (by omega), t3 _ _ (by omega), t2 _ _ (by omega), t1 _ _ (by omega), t0 _ _ (by omega), s143_52]
  have S143_51 : M6 143 51 = (I 143 13) := by rw [t5 _ _ (by omega), t4 _ _ (by omega), t3 _ _ (by omega), t2 _ _ (by omega), t1 _ _ (by omega), t0 _ _ (by omega), s143_51]
  have S143_50 : M6 143 50 = 1 := by rw [t5 _ _ (by omega), t4 _ _ (by omega), t3 _ _ (by omega), t2 _ _ (by omega), t1 _ _ (by omega), t0 _ _ (by omega), s143_50]
  have S0_3 : M6 0 3 = 1 := by rw [t5 _ _ (by omega), t4 _ _ (by omega), t3 _ _ (by omega), t2 _ _ (by omega), t1 _ _ (by omega), t0 _ _ (by omega), s0_3]
  have cK : ∀ j, j < 6 → M6 174 j = I 144 j := fun j hj => by rw [t5 _ _ (by omega), t4 _ _ (by omega), t3 _ _ (by omega), t2 _ _ (by omega), t1 _ _ (by omega), (r0 j (Nat.zero_le j) hj).1, m0 _ _ (by omega), w9 _ _ (by omega)]
  have cV : ∀ j, j < 6 → M6 175 j = I 145 j := fun j hj => by rw [t5 _ _ (by omega), t4 _ _ (by omega), t3 _ _ (by omega), t2 _ _ (by omega), t1 _ _ (by omega), (r0 j (Nat.zero_le j) hj).2.1, m0 _ _ (by omega), w9 _ _ (by omega)]
  have cVo : ∀ j, j < 6 → M6 176 j = I 146 j := fun j hj => by rw [t5 _ _ (by omega), t4 _ _ (by omega), t3 _ _ (by omega), t2 _ _ (by omega), t1 _ _ (by omega), (r0 j (Nat.zero_le j) hj).2.2, m0 _ _ (by omega), w9 _ _ (by omega)]
  have cB : ∀ j, j < 30 → M6 177 j = I 147 j := fun j hj => by rw [t5 _ _ (by omega), t4 _ _ (by omega), t3 _ _ (by omega), t2 _ _ (by omega), (r1 j (Nat.zero_le j) hj), t0 _ _ (by omega), m0 _ _ (by omega), w9 _ _ (by omega)]
  have cR : ∀ j, j < 24 → M6 178 j = I 148 j := fun j hj => by rw [t5 _ _ (by omega), t4 _ _ (by omega), t3 _ _ (by omega), (r2 j (Nat.zero_le j) hj), t1 _ _ (by omega), t0 _ _ (by omega), m0 _ _ (by omega), w9 _ _ (by omega)]
  have cD : ∀ j, j < 5 → M6 179 j = I 149 j := fun j hj => by rw [t5 _ _ (by omega), t4 _ _ (by omega), (r3 j (Nat.zero_le j) hj).1, t2 _ _ (by omega), t1 _ _ (by omega), t0 _ _ (by omega), m0 _ _ (by omega), w9 _ _ (by omega)]
  have cL : ∀ j, j < 5 → M6 180 j = I 150 j := fun j hj => by rw [t5 _ _ (by omega), t4 _ _ (by omega), (r3 j (Nat.zero_le j) hj).2.1, t2 _ _ (by omega), t1 _ _ (by omega), t0 _ _ (by omega), m0 _ _ (by omega), w9 _ _ (by omega)]
  have cWho : ∀ j, j < 5 → M6 181 j = I 165 j := fun j hj => by rw [t5 _ _ (by omega), t4 _ _ (by omega), (r3 j (Nat.zero_le j) hj).2.2.1, t2 _ _ (by omega), t1 _ _ (by omega), t0 _ _ (by omega), m0 _ _ (by omega), w9 _ _ (by omega)]
  have cOne : ∀ j, j < 5 → M6 182 j = I 166 j := fun j hj => by rw [t5 _ _ (by omega), t4 _ _ (by omega), (r3 j (Nat.zero_le j) hj).2.2.2.1, t2 _ _ (by omega), t1 _ _ (by omega), t0 _ _ (by omega), m0 _ _ (by omega), w9 _ _ (by omega)]
  have cOth : ∀ j, j < 5 → M6 183 j = I 167 j := fun j hj => by rw [t5 _ _ (by omega), t4 _ _ (by omega), (r3 j (Nat.zero_le j) hj).2.2.2.2.1, t2 _ _ (by omega), t1 _ _ (by omega), t0 _ _ (by omega), m0 _ _ (by omega), w9 _ _ (by omega)]
  have cMore : ∀ j, j < 5 → M6 189 j = I 168 j := fun j hj => by rw [t5 _ _ (by omega), t4 _ _ (by omega), (r3 j (Nat.zero_le j) hj).2.2.2.2.2, t2 _ _ (by omega), t1 _ _ (by omega), t0 _ _ (by omega), m0 _ _ (by omega), w9 _ _ (by omega)]
  have cWh : ∀ j, j < 10 → M6 184 j = I 169 j := fun j hj => by rw [t5 _ _ (by omega), (r4 j (Nat.zero_le j) hj).1, t3 _ _ (by omega), t2 _ _ (by omega), t1 _ _ (by omega), t0 _ _ (by omega), m0 _ _ (by omega), w9 _ _ (by omega)]
  have cNu : ∀ j, j < 10 → M6 185 j = I 170 j := fun j hj => by rw [t5 _ _ (by omega), (r4 j (Nat.zero_le j) hj).2, t3 _ _ (by omega), t2 _ _ (by omega), t1 _ _ (by omega), t0 _ _ (by omega), m0 _ _ (by omega), w9 _ _ (by omega)]
  have cBW : ∀ j, j < 8 → M6 186 j = I 171 j := fun j hj => by rw [(r5 j (Nat.zero_le j) hj).1, t4 _ _ (by omega), t3 _ _ (by omega), t2 _ _ (by omega), t1 _ _ (by omega), t0 _ _ (by omega), m0 _ _ (by omega), w9 _ _ (by omega)]
  have cBT : ∀ j, j < 8 → M6 187 j = I 172 j := fun j hj => by rw [(r5 j (Nat.zero_le j) hj).2.1, t4 _ _ (by omega), t3 _ _ (by omega), t2 _ _ (by omega), t1 _ _ (by omega), t0 _ _ (by omega), m0 _ _ (by omega), w9 _ _ (by omega)]
  have cBB : ∀ j, j < 8 → M6 188 j = I 173 j := fun j hj => by rw [(r5 j (Nat.zero_le j) hj).2.2, t4 _ _ (by omega), t3 _ _ (by omega), t2 _ _ (by omega), t1 _ _ (by omega), t0 _ _ (by omega), m0 _ _ (by omega), w9 _ _ (by omega)]
  have hd1 : ∀ p, p < 6 → ∀ j, j < 4 → M6 (39 + 3 * p) j = I (11 + 3 * p) j := fun p hp j hj => by rw [hD _ _ (by omega) (by omega)]; exact (w1 p hp).1 j hj
  have hd2 : ∀ p, p < 6 → ∀ j, j < 5 → M6 (39 + 3 * p + 1) j = I (11 + 3 * p + 1) j := fun p hp j hj => by rw [hD _ _ (by omega) (by omega)]; exact (w1 p hp).2.1 j hj
  have hd3 : ∀ p, p < 6 → ∀ j, j < 4 → M6 (39 + 3 * p + 2) j = I (11 + 3 * p + 2) j := fun p hp j hj => by rw [hD _ _ (by omega) (by omega)]; exact (w1 p hp).2.2 j hj
  have hdd : ∀ j, j < 5 → M6 31 j = I 3 j := fun j hj => by rw [hD _ _ (by decide) (by decide)]; exact w3 j hj
  have hda : ∀ j, j < 5 → M6 32 j = I 4 j := fun j hj => by rw [hD _ _ (by decide) (by decide)]; exact w4 j hj
  have hde : ∀ j : Nat, (j : Int) < 4 * I 5 2 → M6 34 j = I 6 j := fun j hj => by rw [hD _ _ (by decide) (by decide)]; exact w5.2 j hj
  have hdp : ∀ j : Nat, (j : Int) < 4 * I 7 2 → M6 36 j = I 8 j := fun j hj => by rw [hD _ _ (by decide) (by decide)]; exact w6.2 j hj
  have hdk : ∀ j : Nat, (j : Int) < 4 * I 9 2 → M6 38 j = I 10 j := fun j hj => by rw [hD _ _ (by decide) (by decide)]; exact w7.2 j hj
  have f1 : M6 29 1 = I 1 1 := by rw [hD _ _ (by decide) (by decide)]; exact w2.1
  have f4 : M6 29 4 = I 1 4 := by rw [hD _ _ (by decide) (by decide)]; exact w2.2.1
  have f5 : M6 29 5 = I 1 5 := by rw [hD _ _ (by decide) (by decide)]; exact w2.2.2.1
  have f6 : M6 29 6 = I 1 6 := by rw [hD _ _ (by decide) (by decide)]; exact w2.2.2.2.1
  have f7 : M6 29 7 = I 1 7 := by rw [hD _ _ (by decide) (by decide)]; exact w2.2.2.2.2
  have z4 : M6 33 2 = I 5 2 := by rw [hD _ _ (by decide) (by decide)]; exact w5.1
  have y4 : M6 33 0 = I 33 0 := by rw [hD _ _ (by decide) (by decide)]; exact w8.1
  have z6 : M6 35 2 = I 7 2 := by rw [hD _ _ (by decide) (by decide)]; exact w6.1
  have y6 : M6 35 0 = I 35 0 := by rw [hD _ _ (by decide) (by decide)]; exact w8.2.1
  have z8 : M6 37 2 = I 9 2 := by rw [hD _ _ (by decide) (by decide)]; exact w7.1
  have y8 : M6 37 0 = I 37 0 := by rw [hD _ _ (by decide) (by decide)]; exact w8.2.2
  have f12 : M6 143 12 = I 143 12 := hF _ _ (by omega)
  have ca : M6 143 53 = I 143 1 := S143_53
  have oe := hIe.2.2.2.1
  have op := hIp.2.2.2.1
  have ok := hIk.2.2.2.1
  have hI2 : RIw M6 := by
    refine ⟨?_, ?_, ?_, ?_, ?_, ?_, ?_, ?_, ?_, ?_⟩
    · unfold RIs; unfold RNs at hNs; refine ⟨?_, ?_, ?_, ?_, ?_, ?_, ?_, ?_, ?_, ?_, ?_, ?_⟩ <;> omega
    · intro p hp
      have h := hNo p hp
      have a0 := hd1 p hp 0 (by decide)
      have a1 := hd1 p hp 1 (by decide)
      have a2 := hd1 p hp 2 (by decide)
      have b0 := cK p hp
      have b1 := cV p hp
      have b2 := cVo p hp
      refine ⟨?_, ?_, ?_, ?_, ?_, ?_, ?_, ?_, ?_⟩ <;> omega
    · refine ⟨fun p hp => ?_, by rw [ca]; exact hNa.2.1, by rw [ca]; exact hNa.2.2⟩
      rw [hd1 p hp 3 (by decide), ca]; exact hNa.1 p hp
    · intro p x hp hx
      have h := hNb p x hp hx
      have a0 := hd2 p hp x hx
      have b0 := cB (5 * p + x) (by omega)
      refine ⟨?_, ?_, ?_⟩ <;> omega
    · intro p x hp hx
      have h := hNr p x hp hx
      have a0 := hd3 p hp x hx
      have b0 := cR (4 * p + x) (by omega)
      refine ⟨?_, ?_, ?_⟩ <;> omega
    · intro x hx
      have h := hNd x hx
      have a0 := hdd x hx
      have b0 := cD x hx
      refine ⟨?_, ?_, ?_⟩ <;> omega
    · obtain ⟨g1, g2, g3, g4, g5, g6⟩ := hNg
      refine ⟨by omega, by omega, by omega, fun x hx => ?_, fun x hx => ?_, fun x y hxy hy => ?_⟩
      · rw [hda x hx, cL x hx]; exact g4 x hx
      · rw [cL x (by omega)]; exact g5 x (by omega)
      · rw [cL x (by omega), cL y (by omega)]; exact g6 x y hxy (by omega)
    · obtain ⟨g1, g2, g3, g4, g5⟩ := hNe
      refine ⟨by omega, by omega, by omega, by omega, fun x hx => ?_⟩
      have h := g5 x (by omega)
      rw [hde _ (by omega), hde _ (by omega), hde _ (by omega), hde _ (by omega), cWho x (by omega), cOne x (by omega), cOth x (by omega), cMore x (by omega)]
      exact h
    · obtain ⟨g1, g2, g3, g4, g5⟩ := hNp
      refine ⟨by omega, by omega, by omega, by omega, fun x hx => ?_⟩
      have h := g5 x (by omega)
      rw [hdp _ (by omega), hdp _ (by omega), cWh x (by omega), cNu x (by omega)]
      exact h
    · obtain ⟨g1, g2, g3, g4, g5⟩ := hNk
      refine ⟨by omega, by omega, by omega, by omega, fun x hx => ?_⟩
      have h := g5 x (by omega)
      rw [hdk _ (by omega), hdk _ (by omega), hdk _ (by omega), cBW x (by omega), cBT x (by omega), cBB x (by omega)]
      exact h
  refine ⟨⟨hNs.fr ⟨by (repeat rw [hF _ _ (by omega)]); try rfl, by (repeat rw [hF _ _ (by omega)]); try rfl, by (repeat rw [hF _ _ (by omega)]); try rfl, by (repeat rw [hF _ _ (by omega)]); try rfl, by (repeat rw [hF _ _ (by omega)]); try rfl, by (repeat rw [hF _ _ (by omega)]); try rfl, by (repeat rw [hF _ _ (by omega)]); try rfl, by (repeat rw [hF _ _ (by omega)]); try rfl, by (repeat rw [hF _ _ (by omega)]); try rfl⟩, hNo.fr (by intros; (repeat rw [hF _ _ (by omega)]); try rfl) (by intros; (repeat rw [hF _ _ (by omega)]); try rfl), hNa.fr (by intros; (repeat rw [hF _ _ (by omega)]); try rfl) (by (repeat rw [hF _ _ (by omega)]); try rfl), hNb.fr (by intros; (repeat rw [hF _ _ (by omega)]); try rfl) (by intros; (repeat rw [hF _ _ (by omega)]); try rfl), hNr.fr (by intros; (repeat rw [hF _ _ (by omega)]); try rfl) (by intros; (repeat rw [hF _ _ (by omega)]); try rfl), hNd.fr (by intros; (repeat rw [hF _ _ (by omega)]); try rfl) (by intros; (repeat rw [hF _ _ (by omega)]); try rfl) (by (repeat rw [hF _ _ (by omega)]); try rfl), hNg.fr ⟨by (repeat rw [hF _ _ (by omega)]); try rfl, by (repeat rw [hF _ _ (by omega)]); try rfl⟩ (by intros; (repeat rw [hF _ _ (by omega)]); try rfl) (by intros; (repeat rw [hF _ _ (by omega)]); try rfl), hNe.fr ⟨by (repeat rw [hF _ _ (by omega)]); try rfl, by (repeat rw [hF _ _ (by omega)]); try rfl, by (repeat rw [hF _ _ (by omega)]); try rfl⟩ (by intros; (repeat rw [hF _ _ (by omega)]); try rfl) (by intros; (repeat rw [hF _ _ (by omega)]); try rfl), hNp.fr ⟨by (repeat rw [hF _ _ (by omega)]); try rfl, by (repeat rw [hF _ _ (by omega)]); try rfl, by (repeat rw [hF _ _ (by omega)]); try rfl⟩ (by intros; (repeat rw [hF _ _ (by omega)]); try rfl) (by intros; (repeat rw [hF _ _ (by omega)]); try rfl), hNk.fr ⟨by (repeat rw [hF _ _ (by omega)]); try rfl, by (repeat rw [hF _ _ (by omega)]); try rfl, by (repeat rw [hF _ _ (by omega)]); try rfl⟩ (by intros; (repeat rw [hF _ _ (by omega)]); try rfl) (by intros; (repeat rw [hF _ _ (by omega)]); try rfl)⟩, hI2, hT.fr ⟨by (repeat rw [hF _ _ (by omega)]); try rfl, by (repeat rw [hF _ _ (by omega)]); try rfl⟩ (by intros; (repeat rw [hF _ _ (by omega)]); try rfl) (by intros; (repeat rw [hF _ _ (by omega)]); try rfl) (by intros; (repeat rw [hF _ _ (by omega)]); try rfl), hX.fr ⟨by (repeat rw [hF _ _ (by omega)]); try rfl, by (repeat rw [hF _ _ (by omega)]); try rfl⟩ (by intros; (repeat rw [hF _ _ (by omega)]); try rfl), hC.fr ⟨by (repeat rw [hF _ _ (by omega)]); try rfl, by (repeat rw [hF _ _ (by omega)]); try rfl⟩ (by intros; (repeat rw [hF _ _ (by omega)]); try rfl), ?_, hQ.fr (by intros; (repeat rw [hF _ _ (by omega)]); try rfl) (by intros; (repeat rw [hF _ _ (by omega)]); try rfl) (by intros; (repeat rw [hF _ _ (by omega)]); try rfl) (by intros; (repeat rw [hF _ _ (by omega)]); try rfl)⟩
  · obtain ⟨h1, h2, h3, h4, h5⟩ := hH
    refine ⟨by omega, by omega, by rw [hF _ _ (by omega)]; exact h3, fun x hx => by rw [hF _ _ (by omega)]; exact h4 x hx, fun x hx => ?_⟩
    rw [cMore x hx, hF 168 x (by omega)]; exact ⟨(h5 x hx).1, (h5 x hx).1⟩
set_option maxRecDepth 8000 in
set_option maxHeartbeats 4000000 in
theorem op_undo {sc : List Int} {I : Nat → Nat → Int} {L : Nat → Nat → Int64} (hR : Rl I L) : x_PQ sc xN_G_undo [xr 0] xN_m_undo [xr 143] (xSH, I, L) := by
  obtain ⟨⟨hNs, hNo, hNa, hNb, hNr, hNd, hNg, hNe, hNp, hNk⟩, hI, hT, hX, hC, hH, hQ⟩ := id hR
  have hs := hNs
  unfold RNs at hs
  obtain ⟨hIs, hIo, hIa, hIb, hIr, hId, hIg, hIe, hIp, hIk⟩ := id hI
  have hb01 : ∀ p, p < 6 → I (39 + 3 * p) 3 = 0 ∨ I (39 + 3 * p) 3 = 1 := fun p hp => by rw [hIa.1 p hp]; exact x_b01 _
  have hBo : ∀ j, j < 5 → I 189 j = 0 ∨ I 189 j = 1 := fun j hj => (hH.2.2.2.2 j hj).2
  have hsI := hIs
  unfold RIs at hsI
  have hh := hH
  unfold RH at hh
  have hIez : True ∧ 0 ≤ I 33 2 ∧ I 33 2 ≤ 5 := ⟨trivial, by have h := hIe.1; have h2 := hIe.2.1; omega, by have h := hIe.1; have h2 := hIe.2.2.1; omega⟩
  have hIpz : True ∧ 0 ≤ I 35 2 ∧ I 35 2 ≤ 10 := ⟨trivial, by have h := hIp.1; have h2 := hIp.2.1; omega, by have h := hIp.1; have h2 := hIp.2.2.1; omega⟩
  have hIkz : True ∧ 0 ≤ I 37 2 ∧ I 37 2 ≤ 8 := ⟨trivial, by have h := hIk.1; have h2 := hIk.2.1; omega, by have h := hIk.1; have h2 := hIk.2.2.1; omega⟩
  have qg := hIg.1
  have qe := hIe.1
  have qp := hIp.1
  have qk := hIk.1
  have qg2 := hIg.2.1
  have qg3 := hIg.2.2.1
  refine x_CQ.of (M := xM_G_undo) rfl (Nat.le_of_ble_eq_true rfl) ?_
  refine ex_st 2 (pc' := 4) (ls' := [(0, xr 0)]) (st' := [xi (I 0 3)]) rfl ?_
  refine ex_if rfl (by first | omega | (constructor <;> omega) | assumption) (fun (h0 : ¬ (I 0 3) = 0) => ?_) (fun (h0 : ¬ ¬ (I 0 3) = 0) => ?_)
  · refine ex_st 4 (pc' := 18) (ls' := [(0, xr 0)]) (st' := [xr 29, xr 1]) rfl ?_
    refine ex_callQ (ct_W_become1_29 hb01 hIez.2 hIpz.2 hIkz.2) (by decide) rfl ⟨rfl, rfl, rfl⟩ ⟨Nat.le_of_ble_eq_true rfl, rfl, rfl⟩ (Nat.le_of_ble_eq_true rfl) rfl (fun ra m2 hQ => ?_)
    obtain ⟨rfl, I1, rfl, w1, w2, w3, w4, w5, w6, w7, w8, w9⟩ := hQ
    refine ex_st 3 (pc' := 28) (ls' := [(0, xr 0)]) (st' := [xi (I1 1 1)]) rfl ?_
    rw [w2.1]
    refine ex_reti rfl rfl ?_
    refine x_CQ.of (M := xM_m_undo) rfl (Nat.le_of_ble_eq_true rfl) ?_
    refine ex_st 2 (pc' := 4) (ls' := [(0, xr 143)]) (st' := [xi (I1 143 50)]) rfl ?_
    rw [(w9 _ _ (by omega))]
    refine ex_if rfl (by first | omega | (constructor <;> omega) | assumption) (fun (h1 : ¬ (I 143 50) = 0) => ?_) (fun (h1 : ¬ ¬ (I 143 50) = 0) => ?_)
    · refine ex_st 3 (pc' := 15) (ls' := [(0, xr 143)]) (st' := [xi (I1 143 51), xr 143]) rfl ?_
      rw [(w9 _ _ (by omega))]
      refine ex_pfi rfl (by decide) (rfl : xSH[143]? = some _) (by decide) rfl (by decide) (fun h => by cases h) ?_
      refine ex_st 3 (pc' := 23) (ls' := [(0, xr 143)]) (st' := [xi ((x_up I1 143 13 (I 143 51)) 143 52), xr 143]) rfl ?_
      rw [(x_up_far (by first | decide | omega) : (x_up I1 143 13 (I 143 51)) 143 52 = I1 143 52)]
      rw [(w9 _ _ (by omega))]
      refine ex_pfi rfl (by decide) (rfl : xSH[143]? = some _) (by decide) rfl (by decide) (fun h => by cases h) ?_
      refine ex_st 3 (pc' := 31) (ls' := [(0, xr 143)]) (st' := [xi ((x_up (x_up I1 143 13 (I 143 51)) 143 0 (I 143 52)) 143 53), xr 143]) rfl ?_
      rw [(x_up_far (by first | decide | omega) : (x_up (x_up I1 143 13 (I 143 51)) 143 0 (I 143 52)) 143 53 = (x_up I1 143 13 (I 143 51)) 143 53)]
      rw [(x_up_far (by first | decide | omega) : (x_up I1 143 13 (I 143 51)) 143 53 = I1 143 53)]
      rw [(w9 _ _ (by omega))]
      refine ex_pfi rfl (by decide) (rfl : xSH[143]? = some _) (by decide) rfl (by decide) (fun h => by cases h) ?_
      refine ex_st 3 (pc' := 39) (ls' := [(0, xr 143)]) (st' := [xi ((x_up (x_up (x_up I1 143 13 (I 143 51)) 143 0 (I 143 52)) 143 1 (I 143 53)) 143 54), xr 143]) rfl ?_
      rw [(x_up_far (by first | decide | omega) : (x_up (x_up (x_up I1 143 13 (I 143 51)) 143 0 (I 143 52)) 143 1 (I 143 53)) 143 54 = (x_up (x_up I1 143 13 (I 143 51)) 143 0 (I 143 52)) 143 54)]
      rw [(x_up_far (by first | decide | omega) : (x_up (x_up I1 143 13 (I 143 51)) 143 0 (I 143 52)) 143 54 = (x_up I1 143 13 (I 143 51)) 143 54)]
      rw [(x_up_far (by first | decide | omega) : (x_up I1 143 13 (I 143 51)) 143 54 = I1 143 54)]
      rw [(w9 _ _ (by omega))]
      refine ex_pfi rfl (by decide) (rfl : xSH[143]? = some _) (by decide) rfl (by decide) (fun h => by cases h) ?_
      refine ex_st 3 (pc' := 47) (ls' := [(0, xr 143)]) (st' := [xi ((x_up (x_up (x_up (x_up I1 143 13 (I 143 51)) 143 0 (I 143 52)) 143 1 (I 143 53)) 143 2 (I 143 54)) 143 55), xr 143]) rfl ?_
      rw [(x_up_far (by first | decide | omega) : (x_up (x_up (x_up (x_up I1 143 13 (I 143 51)) 143 0 (I 143 52)) 143 1 (I 143 53)) 143 2 (I 143 54)) 143 55 = (x_up (x_up (x_up I1 143 13 (I 143 51)) 143 0 (I 143 52)) 143 1 (I 143 53)) 143 55)]
      rw [(x_up_far (by first | decide | omega) : (x_up (x_up (x_up I1 143 13 (I 143 51)) 143 0 (I 143 52)) 143 1 (I 143 53)) 143 55 = (x_up (x_up I1 143 13 (I 143 51)) 143 0 (I 143 52)) 143 55)]
      rw [(x_up_far (by first | decide | omega) : (x_up (x_up I1 143 13 (I 143 51)) 143 0 (I 143 52)) 143 55 = (x_up I1 143 13 (I 143 51)) 143 55)]
      rw [(x_up_far (by first | decide | omega) : (x_up I1 143 13 (I 143 51)) 143 55 = I1 143 55)]
      rw [(w9 _ _ (by omega))]
      refine ex_pfi rfl (by decide) (rfl : xSH[143]? = some _) (by decide) rfl (by decide) (fun h => by cases h) ?_
      refine ex_st 3 (pc' := 55) (ls' := [(0, xr 143)]) (st' := [xi ((x_up (x_up (x_up (x_up (x_up I1 143 13 (I 143 51)) 143 0 (I 143 52)) 143 1 (I 143 53)) 143 2 (I 143 54)) 143 3 (I 143 55)) 143 56), xr 143]) rfl ?_
      rw [(x_up_far (by first | decide | omega) : (x_up (x_up (x_up (x_up (x_up I1 143 13 (I 143 51)) 143 0 (I 143 52)) 143 1 (I 143 53)) 143 2 (I 143 54)) 143 3 (I 143 55)) 143 56 = (x_up (x_up (x_up (x_up I1 143 13 (I 143 51)) 143 0 (I 143 52)) 143 1 (I 143 53)) 143 2 (I 143 54)) 143 56)]
      rw [(x_up_far (by first | decide | omega) : (x_up (x_up (x_up (x_up I1 143 13 (I 143 51)) 143 0 (I 143 52)) 143 1 (I 143 53)) 143 2 (I 143 54)) 143 56 = (x_up (x_up (x_up I1 143 13 (I 143 51)) 143 0 (I 143 52)) 143 1 (I 143 53)) 143 56)]
      rw [(x_up_far (by first | decide | omega) : (x_up (x_up (x_up I1 143 13 (I 143 51)) 143 0 (I 143 52)) 143 1 (I 143 53)) 143 56 = (x_up (x_up I1 143 13 (I 143 51)) 143 0 (I 143 52)) 143 56)]
      rw [(x_up_far (by first | decide | omega) : (x_up (x_up I1 143 13 (I 143 51)) 143 0 (I 143 52)) 143 56 = (x_up I1 143 13 (I 143 51)) 143 56)]
      rw [(x_up_far (by first | decide | omega) : (x_up I1 143 13 (I 143 51)) 143 56 = I1 143 56)]
      rw [(w9 _ _ (by omega))]
      refine ex_pfi rfl (by decide) (rfl : xSH[143]? = some _) (by decide) rfl (by decide) (fun h => by cases h) ?_
      refine ex_st 3 (pc' := 63) (ls' := [(0, xr 143)]) (st' := [xi ((x_up (x_up (x_up (x_up (x_up (x_up I1 143 13 (I 143 51)) 143 0 (I 143 52)) 143 1 (I 143 53)) 143 2 (I 143 54)) 143 3 (I 143 55)) 143 4 (I 143 56)) 143 57), xr 143]) rfl ?_
      rw [(x_up_far (by first | decide | omega) : (x_up (x_up (x_up (x_up (x_up (x_up I1 143 13 (I 143 51)) 143 0 (I 143 52)) 143 1 (I 143 53)) 143 2 (I 143 54)) 143 3 (I 143 55)) 143 4 (I 143 56)) 143 57 = (x_up (x_up (x_up (x_up (x_up I1 143 13 (I 143 51)) 143 0 (I 143 52)) 143 1 (I 143 53)) 143 2 (I 143 54)) 143 3 (I 143 55)) 143 57)]
      rw [(x_up_far (by first | decide | omega) : (x_up (x_up (x_up (x_up (x_up I1 143 13 (I 143 51)) 143 0 (I 143 52)) 143 1 (I 143 53)) 143 2 (I 143 54)) 143 3 (I 143 55)) 143 57 = (x_up (x_up (x_up (x_up I1 143 13 (I 143 51)) 143 0 (I 143 52)) 143 1 (I 143 53)) 143 2 (I 143 54)) 143 57)]
      rw [(x_up_far (by first | decide | omega) : (x_up (x_up (x_up (x_up I1 143 13 (I 143 51)) 143 0 (I 143 52)) 143 1 (I 143 53)) 143 2 (I 143 54)) 143 57 = (x_up (x_up (x_up I1 143 13 (I 143 51)) 143 0 (I 143 52)) 143 1 (I 143 53)) 143 57)]
      rw [(x_up_far (by first | decide | omega) : (x_up (x_up (x_up I1 143 13 (I 143 51)) 143 0 (I 143 52)) 143 1 (I 143 53)) 143 57 = (x_up (x_up I1 143 13 (I 143 51)) 143 0 (I 143 52)) 143 57)]
      rw [(x_up_far (by first | decide | omega) : (x_up (x_up I1 143 13 (I 143 51)) 143 0 (I 143 52)) 143 57 = (x_up I1 143 13 (I 143 51)) 143 57)]
      rw [(x_up_far (by first | decide | omega) : (x_up I1 143 13 (I 143 51)) 143 57 = I1 143 57)]
      rw [(w9 _ _ (by omega))]
      refine ex_pfi rfl (by decide) (rfl : xSH[143]? = some _) (by decide) rfl (by decide) (fun h => by cases h) ?_
      refine ex_st 3 (pc' := 71) (ls' := [(0, xr 143)]) (st' := [xi ((x_up (x_up (x_up (x_up (x_up (x_up (x_up I1 143 13 (I 143 51)) 143 0 (I 143 52)) 143 1 (I 143 53)) 143 2 (I 143 54)) 143 3 (I 143 55)) 143 4 (I 143 56)) 143 38 (I 143 57)) 143 58), xr 143]) rfl ?_
      rw [(x_up_far (by first | decide | omega) : (x_up (x_up (x_up (x_up (x_up (x_up (x_up I1 143 13 (I 143 51)) 143 0 (I 143 52)) 143 1 (I 143 53)) 143 2 (I 143 54)) 143 3 (I 143 55)) 143 4 (I 143 56)) 143 38 (I 143 57)) 143 58 = (x_up (x_up (x_up (x_up (x_up (x_up I1 143 13 (I 143 51)) 143 0 (I 143 52)) 143 1 (I 143 53)) 143 2 (I 143 54)) 143 3 (I 143 55)) 143 4 (I 143 56)) 143 58)]
      rw [(x_up_far (by first | decide | omega) : (x_up (x_up (x_up (x_up (x_up (x_up I1 143 13 (I 143 51)) 143 0 (I 143 52)) 143 1 (I 143 53)) 143 2 (I 143 54)) 143 3 (I 143 55)) 143 4 (I 143 56)) 143 58 = (x_up (x_up (x_up (x_up (x_up I1 143 13 (I 143 51)) 143 0 (I 143 52)) 143 1 (I 143 53)) 143 2 (I 143 54)) 143 3 (I 143 55)) 143 58)]
      rw [(x_up_far (by first | decide | omega) : (x_up (x_up (x_up (x_up (x_up I1 143 13 (I 143 51)) 143 0 (I 143 52)) 143 1 (I 143 53)) 143 2 (I 143 54)) 143 3 (I 143 55)) 143 58 = (x_up (x_up (x_up (x_up I1 143 13 (I 143 51)) 143 0 (I 143 52)) 143 1 (I 143 53)) 143 2 (I 143 54)) 143 58)]
      rw [(x_up_far (by first | decide | omega) : (x_up (x_up (x_up (x_up I1 143 13 (I 143 51)) 143 0 (I 143 52)) 143 1 (I 143 53)) 143 2 (I 143 54)) 143 58 = (x_up (x_up (x_up I1 143 13 (I 143 51)) 143 0 (I 143 52)) 143 1 (I 143 53)) 143 58)]
      rw [(x_up_far (by first | decide | omega) : (x_up (x_up (x_up I1 143 13 (I 143 51)) 143 0 (I 143 52)) 143 1 (I 143 53)) 143 58 = (x_up (x_up I1 143 13 (I 143 51)) 143 0 (I 143 52)) 143 58)]
      rw [(x_up_far (by first | decide | omega) : (x_up (x_up I1 143 13 (I 143 51)) 143 0 (I 143 52)) 143 58 = (x_up I1 143 13 (I 143 51)) 143 58)]
      rw [(x_up_far (by first | decide | omega) : (x_up I1 143 13 (I 143 51)) 143 58 = I1 143 58)]
      rw [(w9 _ _ (by omega))]
      refine ex_pfi rfl (by decide) (rfl : xSH[143]? = some _) (by decide) rfl (by decide) (fun h => by cases h) ?_
      refine ex_st 3 (pc' := 79) (ls' := [(0, xr 143)]) (st' := [xi ((x_up (x_up (x_up (x_up (x_up (x_up (x_up (x_up I1 143 13 (I 143 51)) 143 0 (I 143 52)) 143 1 (I 143 53)) 143 2 (I 143 54)) 143 3 (I 143 55)) 143 4 (I 143 56)) 143 38 (I 143 57)) 143 43 (I 143 58)) 143 59), xr 143]) rfl ?_
      rw [(x_up_far (by first | decide | omega) : (x_up (x_up (x_up (x_up (x_up (x_up (x_up (x_up I1 143 13 (I 143 51)) 143 0 (I 143 52)) 143 1 (I 143 53)) 143 2 (I 143 54)) 143 3 (I 143 55)) 143 4 (I 143 56)) 143 38 (I 143 57)) 143 43 (I 143 58)) 143 59 = (x_up (x_up (x_up (x_up (x_up (x_up (x_up I1 143 13 (I 143 51)) 143 0 (I 143 52)) 143 1 (I 143 53)) 143 2 (I 143 54)) 143 3 (I 143 55)) 143 4 (I 143 56)) 143 38 (I 143 57)) 143 59)]
      rw [(x_up_far (by first | decide | omega) : (x_up (x_up (x_up (x_up (x_up (x_up (x_up I1 143 13 (I 143 51)) 143 0 (I 143 52)) 143 1 (I 143 53)) 143 2 (I 143 54)) 143 3 (I 143 55)) 143 4 (I 143 56)) 143 38 (I 143 57)) 143 59 = (x_up (x_up (x_up (x_up (x_up (x_up I1 143 13 (I 143 51)) 143 0 (I 143 52)) 143 1 (I 143 53)) 143 2 (I 143 54)) 143 3 (I 143 55)) 143 4 (I 143 56)) 143 59)]
      rw [(x_up_far (by first | decide | omega) : (x_up (x_up (x_up (x_up (x_up (x_up I1 143 13 (I 143 51)) 143 0 (I 143 52)) 143 1 (I 143 53)) 143 2 (I 143 54)) 143 3 (I 143 55)) 143 4 (I 143 56)) 143 59 = (x_up (x_up (x_up (x_up (x_up I1 143 13 (I 143 51)) 143 0 (I 143 52)) 143 1 (I 143 53)) 143 2 (I 143 54)) 143 3 (I 143 55)) 143 59)]
      rw [(x_up_far (by first | decide | omega) : (x_up (x_up (x_up (x_up (x_up I1 143 13 (I 143 51)) 143 0 (I 143 52)) 143 1 (I 143 53)) 143 2 (I 143 54)) 143 3 (I 143 55)) 143 59 = (x_up (x_up (x_up (x_up I1 143 13 (I 143 51)) 143 0 (I 143 52)) 143 1 (I 143 53)) 143 2 (I 143 54)) 143 59)]
      rw [(x_up_far (by first | decide | omega) : (x_up (x_up (x_up (x_up I1 143 13 (I 143 51)) 143 0 (I 143 52)) 143 1 (I 143 53)) 143 2 (I 143 54)) 143 59 = (x_up (x_up (x_up I1 143 13 (I 143 51)) 143 0 (I 143 52)) 143 1 (I 143 53)) 143 59)]
      rw [(x_up_far (by first | decide | omega) : (x_up (x_up (x_up I1 143 13 (I 143 51)) 143 0 (I 143 52)) 143 1 (I 143 53)) 143 59 = (x_up (x_up I1 143 13 (I 143 51)) 143 0 (I 143 52)) 143 59)]
      rw [(x_up_far (by first | decide | omega) : (x_up (x_up I1 143 13 (I 143 51)) 143 0 (I 143 52)) 143 59 = (x_up I1 143 13 (I 143 51)) 143 59)]
      rw [(x_up_far (by first | decide | omega) : (x_up I1 143 13 (I 143 51)) 143 59 = I1 143 59)]
      rw [(w9 _ _ (by omega))]
      refine ex_pfi rfl (by decide) (rfl : xSH[143]? = some _) (by decide) rfl (by decide) (fun h => by cases h) ?_
      refine ex_st 2 (pc' := 84) (ls' := [(1, xi 0), (0, xr 143)]) (st' := []) rfl ?_
      generalize hM0 : (x_up (x_up (x_up (x_up (x_up (x_up (x_up (x_up (x_up I1 143 13 (I 143 51)) 143 0 (I 143 52)) 143 1 (I 143 53)) 143 2 (I 143 54)) 143 3 (I 143 55)) 143 4 (I 143 56)) 143 38 (I 143 57)) 143 43 (I 143 58)) 143 44 (I 143 59)) = M0
      have m0 : ∀ k j, ¬ ((k = 143 ∧ j = 44) ∨ (k = 143 ∧ j = 43) ∨ (k = 143 ∧ j = 38) ∨ (k = 143 ∧ j = 4) ∨ (k = 143 ∧ j = 3) ∨ (k = 143 ∧ j = 2) ∨ (k = 143 ∧ j = 1) ∨ (k = 143 ∧ j = 0) ∨ (k = 143 ∧ j = 13)) → M0 k j = I1 k j := by intro k j hk; rw [← hM0]; (repeat rw [x_up_far (by omega)])
      have s143_44 : M0 143 44 = (I 143 59) := by rw [← hM0]; (repeat (first | rw [x_up_far (by omega)] | rw [x_up_at2 (by omega) (by omega)]))
      have s143_43 : M0 143 43 = (I 143 58) := by rw [← hM0]; (repeat (first | rw [x_up_far (by omega)] | rw [x_up_at2 (by omega) (by omega)]))
      have s143_38 : M0 143 38 = (I 143 57) := by rw [← hM0]; (repeat (first | rw [x_up_far (by omega)] | rw [x_up_at2 (by omega) (by omega)]))
      have s143_4 : M0 143 4 = (I 143 56) := by rw [← hM0]; (repeat (first | rw [x_up_far (by omega)] | rw [x_up_at2 (by omega) (by omega)]))
      have s143_3 : M0 143 3 = (I 143 55) := by rw [← hM0]; (repeat (first | rw [x_up_far (by omega)] | rw [x_up_at2 (by omega) (by omega)]))
      have s143_2 : M0 143 2 = (I 143 54) := by rw [← hM0]; (repeat (first | rw [x_up_far (by omega)] | rw [x_up_at2 (by omega) (by omega)]))
      have s143_1 : M0 143 1 = (I 143 53) := by rw [← hM0]; (repeat (first | rw [x_up_far (by omega)] | rw [x_up_at2 (by omega) (by omega)]))
      have s143_0 : M0 143 0 = (I 143 52) := by rw [← hM0]; (repeat (first | rw [x_up_far (by omega)] | rw [x_up_at2 (by omega) (by omega)]))
      have s143_13 : M0 143 13 = (I 143 51) := by rw [← hM0]; (repeat (first | rw [x_up_far (by omega)] | rw [x_up_at2 (by omega) (by omega)]))
      clear hM0
      refine lp_m_undo0 0 (by decide) (fun M1 r0 t0 => ?_)
      refine ex_st 2 (pc' := 134) (ls' := [(1, xi 0), (0, xr 143)]) (st' := []) rfl ?_
      refine lp_m_undo1 0 (by decide) (fun M2 r1 t1 => ?_)
      refine ex_st 2 (pc' := 160) (ls' := [(1, xi 0), (0, xr 143)]) (st' := []) rfl ?_
      refine lp_m_undo2 0 (by decide) (fun M3 r2 t2 => ?_)
      refine ex_st 2 (pc' := 186) (ls' := [(1, xi 0), (0, xr 143)]) (st' := []) rfl ?_
      refine lp_m_undo3 (fun j hj => by rw [t2 _ _ (by omega), t1 _ _ (by omega), t0 _ _ (by omega), m0 _ _ (by omega), w9 _ _ (by omega)]; exact hBo j hj) 0 (by decide) (fun M4 r3 t3 => ?_)
      refine ex_st 2 (pc' := 271) (ls' := [(1, xi 0), (0, xr 143)]) (st' := []) rfl ?_
      refine lp_m_undo4 0 (by decide) (fun M5 r4 t4 => ?_)
      refine ex_st 2 (pc' := 309) (ls' := [(1, xi 0), (0, xr 143)]) (st' := []) rfl ?_
      refine lp_m_undo5 0 (by decide) (fun M6 r5 t5 => ?_)
      refine ex_st 2 (pc' := 361) (ls' := [(1, xi 8), (0, xr 143)]) (st' := [xi (M6 143 0)]) rfl ?_
      rw [(show M6 143 0 = I 143 52 from by rw [t5 _ _ (by omega), t4 _ _ (by omega), t3 _ _ (by omega), t2 _ _ (by omega), t1 _ _ (by omega), t0 _ _ (by omega), s143_0])]
      refine ex_reti rfl rfl ?_
      refine ⟨x_req (by omega), _, _, rfl, ?_⟩
      have hF : ∀ k j, ¬ ((k = 143 ∧ j = 44) ∨ (k = 143 ∧ j = 43) ∨ (k = 143 ∧ j = 38) ∨ (k = 143 ∧ j = 4) ∨ (k = 143 ∧ j = 3) ∨ (k = 143 ∧ j = 2) ∨ (k = 143 ∧ j = 1) ∨ (k = 143 ∧ j = 0) ∨ (k = 143 ∧ j = 13) ∨ k = 144 ∨ k = 145 ∨ k = 146 ∨ k = 147 ∨ k = 148 ∨ k = 149 ∨ k = 150 ∨ k = 165 ∨ k = 166 ∨ k = 167 ∨ k = 168 ∨ k = 169 ∨ k = 170 ∨ k = 171 ∨ k = 172 ∨ k = 173 ∨ (1 ≤ k ∧ k ≤ 28)) → M6 k j = I k j := fun k j hk => by rw [t5 _ _ (by omega), t4 _ _ (by omega), t3 _ _ (by omega), t2 _ _ (by omega), t1 _ _ (by omega), t0 _ _ (by omega), m0 _ _ (by omega), w9 _ _ (by omega)]
      have hD : ∀ k j, 1 ≤ k → k ≤ 28 → M6 k j = I1 k j := fun k j hk1 hk2 => by rw [t5 _ _ (by omega), t4 _ _ (by omega), t3 _ _ (by omega), t2 _ _ (by omega), t1 _ _ (by omega), t0 _ _ (by omega), m0 _ _ (by omega)]
      have S143_44 : M6 143 44 = (I 143 59) := by rw [t5 _ _ (by omega), t4 _ _ (by omega), t3 _ _ (by omega), t2 _ _ (by omega), t1 _ _ (by omega), t0 _ _ (by omega), s143_44]
      have S143_43 : M6 143 43 = (I 143 58) := by rw [t5 _ _ (by omega), t4 _ _ (by omega), t3 _ _ (by omega), t2 _ _ (by omega), t1 _ _ (by omega), t0 _ _ (by omega), s143_43]
      have S143_38 : M6 143 38 = (I 143 57) := by rw [t5 _ _ (by omega), t4 _ _ (by omega), t3 _ _ (by omega), t2 _ _ (by omega), t1 _ _ (by omega), t0 _ _ (by omega), s143_38]
      have S143_4 : M6 143 4 = (I 143 56) := by rw [t5 _ _ (by omega), t4 _ _ (by omega), t3 _ _ (by omega), t2 _ _ (by omega), t1 _ _ (by omega), t0 _ _ (by omega), s143_4]
      have S143_3 : M6 143 3 = (I 143 55) := by rw [t5 _ _ (by omega), t4 _ _ (by omega), t3 _ _ (by omega), t2 _ _ (by omega), t1 _ _ (by omega), t0 _ _ (by omega), s143_3]
      have S143_2 : M6 143 2 = (I 143 54) := by rw [t5 _ _ (by omega), t4 _ _ (by omega), t3 _ _ (by omega), t2 _ _ (by omega), t1 _ _ (by omega), t0 _ _ (by omega), s143_2]
      have S143_1 : M6 143 1 = (I 143 53) := by rw [t5 _ _ (by omega), t4 _ _ (by omega), t3 _ _ (by omega), t2 _ _ (by omega), t1 _ _ (by omega), t0 _ _ (by omega), s143_1]
      have S143_0 : M6 143 0 = (I 143 52) := by rw [t5 _ _ (by omega), t4 _ _ (by omega), t3 _ _ (by omega), t2 _ _ (by omega), t1 _ _ (by omega), t0 _ _ (by omega), s143_0]
      have S143_13 : M6 143 13 = (I 143 51) := by rw [t5 _ _ (by omega), t4 _ _ (by omega), t3 _ _ (by omega), t2 _ _ (by omega), t1 _ _ (by omega), t0 _ _ (by omega), s143_13]
      have cK : ∀ j, j < 6 → M6 144 j = I 174 j := fun j hj => by rw [t5 _ _ (by omega), t4 _ _ (by omega), t3 _ _ (by omega), t2 _ _ (by omega), t1 _ _ (by omega), (r0 j (Nat.zero_le j) hj).1, m0 _ _ (by omega), w9 _ _ (by omega)]
      have cV : ∀ j, j < 6 → M6 145 j = I 175 j := fun j hj => by rw [t5 _ _ (by omega), t4 _ _ (by omega), t3 _ _ (by omega), t2 _ _ (by omega), t1 _ _ (by omega), (r0 j (Nat.zero_le j) hj).2.1, m0 _ _ (by omega), w9 _ _ (by omega)]
      have cVo : ∀ j, j < 6 → M6 146 j = I 176 j := fun j hj => by rw [t5 _ _ (by omega), t4 _ _ (by omega), t3 _ _ (by omega), t2 _ _ (by omega), t1 _ _ (by omega), (r0 j (Nat.zero_le j) hj).2.2, m0 _ _ (by omega), w9 _ _ (by omega)]
      have cB : ∀ j, j < 30 → M6 147 j = I 177 j := fun j hj => by rw [t5 _ _ (by omega), t4 _ _ (by omega), t3 _ _ (by omega), t2 _ _ (by omega), (r1 j (Nat.zero_le j) hj), t0 _ _ (by omega), m0 _ _ (by omega), w9 _ _ (by omega)]
      have cR : ∀ j, j < 24 → M6 148 j = I 178 j := fun j hj => by rw [t5 _ _ (by omega), t4 _ _ (by omega), t3 _ _ (by omega), (r2 j (Nat.zero_le j) hj), t1 _ _ (by omega), t0 _ _ (by omega), m0 _ _ (by omega), w9 _ _ (by omega)]
      have cD : ∀ j, j < 5 → M6 149 j = I 179 j := fun j hj => by rw [t5 _ _ (by omega), t4 _ _ (by omega), (r3 j (Nat.zero_le j) hj).1, t2 _ _ (by omega), t1 _ _ (by omega), t0 _ _ (by omega), m0 _ _ (by omega), w9 _ _ (by omega)]
      have cL : ∀ j, j < 5 → M6 150 j = I 180 j := fun j hj => by rw [t5 _ _ (by omega), t4 _ _ (by omega), (r3 j (Nat.zero_le j) hj).2.1, t2 _ _ (by omega), t1 _ _ (by omega), t0 _ _ (by omega), m0 _ _ (by omega), w9 _ _ (by omega)]
      have cWho : ∀ j, j < 5 → M6 165 j = I 181 j := fun j hj => by rw [t5 _ _ (by omega), t4 _ _ (by omega), (r3 j (Nat.zero_le j) hj).2.2.1, t2 _ _ (by omega), t1 _ _ (by omega), t0 _ _ (by omega), m0 _ _ (by omega), w9 _ _ (by omega)]
      have cOne : ∀ j, j < 5 → M6 166 j = I 182 j := fun j hj => by rw [t5 _ _ (by omega), t4 _ _ (by omega), (r3 j (Nat.zero_le j) hj).2.2.2.1, t2 _ _ (by omega), t1 _ _ (by omega), t0 _ _ (by omega), m0 _ _ (by omega), w9 _ _ (by omega)]
      have cOth : ∀ j, j < 5 → M6 167 j = I 183 j := fun j hj => by rw [t5 _ _ (by omega), t4 _ _ (by omega), (r3 j (Nat.zero_le j) hj).2.2.2.2.1, t2 _ _ (by omega), t1 _ _ (by omega), t0 _ _ (by omega), m0 _ _ (by omega), w9 _ _ (by omega)]
      have cMore : ∀ j, j < 5 → M6 168 j = I 189 j := fun j hj => by rw [t5 _ _ (by omega), t4 _ _ (by omega), (r3 j (Nat.zero_le j) hj).2.2.2.2.2, t2 _ _ (by omega), t1 _ _ (by omega), t0 _ _ (by omega), m0 _ _ (by omega), w9 _ _ (by omega)]
      have cWh : ∀ j, j < 10 → M6 169 j = I 184 j := fun j hj => by rw [t5 _ _ (by omega), (r4 j (Nat.zero_le j) hj).1, t3 _ _ (by omega), t2 _ _ (by omega), t1 _ _ (by omega), t0 _ _ (by omega), m0 _ _ (by omega), w9 _ _ (by omega)]
      have cNu : ∀ j, j < 10 → M6 170 j = I 185 j := fun j hj => by rw [t5 _ _ (by omega), (r4 j (Nat.zero_le j) hj).2, t3 _ _ (by omega), t2 _ _ (by omega), t1 _ _ (by omega), t0 _ _ (by omega), m0 _ _ (by omega), w9 _ _ (by omega)]
      have cBW : ∀ j, j < 8 → M6 171 j = I 186 j := fun j hj => by rw [(r5 j (Nat.zero_le j) hj).1, t4 _ _ (by omega), t3 _ _ (by omega), t2 _ _ (by omega), t1 _ _ (by omega), t0 _ _ (by omega), m0 _ _ (by omega), w9 _ _ (by omega)]
      have cBT : ∀ j, j < 8 → M6 172 j = I 187 j := fun j hj => by rw [(r5 j (Nat.zero_le j) hj).2.1, t4 _ _ (by omega), t3 _ _ (by omega), t2 _ _ (by omega), t1 _ _ (by omega), t0 _ _ (by omega), m0 _ _ (by omega), w9 _ _ (by omega)]
      have cBB : ∀ j, j < 8 → M6 173 j = I 188 j := fun j hj => by rw [(r5 j (Nat.zero_le j) hj).2.2, t4 _ _ (by omega), t3 _ _ (by omega), t2 _ _ (by omega), t1 _ _ (by omega), t0 _ _ (by omega), m0 _ _ (by omega), w9 _ _ (by omega)]
      have hd1 : ∀ p, p < 6 → ∀ j, j < 4 → M6 (11 + 3 * p) j = I (39 + 3 * p) j := fun p hp j hj => by rw [hD _ _ (by omega) (by omega)]; exact (w1 p hp).1 j hj
      have hd2 : ∀ p, p < 6 → ∀ j, j < 5 → M6 (11 + 3 * p + 1) j = I (39 + 3 * p + 1) j := fun p hp j hj => by rw [hD _ _ (by omega) (by omega)]; exact (w1 p hp).2.1 j hj
      have hd3 : ∀ p, p < 6 → ∀ j, j < 4 → M6 (11 + 3 * p + 2) j = I (39 + 3 * p + 2) j := fun p hp j hj => by rw [hD _ _ (by omega) (by omega)]; exact (w1 p hp).2.2 j hj
      have hdd : ∀ j, j < 5 → M6 3 j = I 31 j := fun j hj => by rw [hD _ _ (by decide) (by decide)]; exact w3 j hj
      have hda : ∀ j, j < 5 → M6 4 j = I 32 j := fun j hj => by rw [hD _ _ (by decide) (by decide)]; exact w4 j hj
      have hde : ∀ j : Nat, (j : Int) < 4 * I 33 2 → M6 6 j = I 34 j := fun j hj => by rw [hD _ _ (by decide) (by decide)]; exact w5.2 j hj
      have hdp : ∀ j : Nat, (j : Int) < 4 * I 35 2 → M6 8 j = I 36 j := fun j hj => by rw [hD _ _ (by decide) (by decide)]; exact w6.2 j hj
      have hdk : ∀ j : Nat, (j : Int) < 4 * I 37 2 → M6 10 j = I 38 j := fun j hj => by rw [hD _ _ (by decide) (by decide)]; exact w7.2 j hj
      have f1 : M6 1 1 = I 29 1 := by rw [hD _ _ (by decide) (by decide)]; exact w2.1
      have f4 : M6 1 4 = I 29 4 := by rw [hD _ _ (by decide) (by decide)]; exact w2.2.1
      have f5 : M6 1 5 = I 29 5 := by rw [hD _ _ (by decide) (by decide)]; exact w2.2.2.1
      have f6 : M6 1 6 = I 29 6 := by rw [hD _ _ (by decide) (by decide)]; exact w2.2.2.2.1
      have f7 : M6 1 7 = I 29 7 := by rw [hD _ _ (by decide) (by decide)]; exact w2.2.2.2.2
      have z4 : M6 5 2 = I 33 2 := by rw [hD _ _ (by decide) (by decide)]; exact w5.1
      have y4 : M6 5 0 = I 5 0 := by rw [hD _ _ (by decide) (by decide)]; exact w8.1
      have z6 : M6 7 2 = I 35 2 := by rw [hD _ _ (by decide) (by decide)]; exact w6.1
      have y6 : M6 7 0 = I 7 0 := by rw [hD _ _ (by decide) (by decide)]; exact w8.2.1
      have z8 : M6 9 2 = I 37 2 := by rw [hD _ _ (by decide) (by decide)]; exact w7.1
      have y8 : M6 9 0 = I 9 0 := by rw [hD _ _ (by decide) (by decide)]; exact w8.2.2
      have f12 : M6 143 12 = I 143 12 := hF _ _ (by omega)
      have ca : M6 143 1 = I 143 53 := S143_1
      have oe := hNe.2.2.2.1
      have op := hNp.2.2.2.1
      have ok := hNk.2.2.2.1
      have hI2 : RIw M6 := by
        exact ⟨hIs.fr ⟨by (repeat rw [hF _ _ (by omega)]); try rfl, by (repeat rw [hF _ _ (by omega)]); try rfl, by (repeat rw [hF _ _ (by omega)]); try rfl, by (repeat rw [hF _ _ (by omega)]); try rfl, by (repeat rw [hF _ _ (by omega)]); try rfl, by (repeat rw [hF _ _ (by omega)]); try rfl, by (repeat rw [hF _ _ (by omega)]); try rfl, by (repeat rw [hF _ _ (by omega)]); try rfl, by (repeat rw [hF _ _ (by omega)]); try rfl⟩, hIo.fr (by intros; (repeat rw [hF _ _ (by omega)]); try rfl) (by intros; (repeat rw [hF _ _ (by omega)]); try rfl), hIa.fr (by intros; (repeat rw [hF _ _ (by omega)]); try rfl) (by (repeat rw [hF _ _ (by omega)]); try rfl), hIb.fr (by intros; (repeat rw [hF _ _ (by omega)]); try rfl) (by intros; (repeat rw [hF _ _ (by omega)]); try rfl), hIr.fr (by intros; (repeat rw [hF _ _ (by omega)]); try rfl) (by intros; (repeat rw [hF _ _ (by omega)]); try rfl), hId.fr (by intros; (repeat rw [hF _ _ (by omega)]); try rfl) (by intros; (repeat rw [hF _ _ (by omega)]); try rfl) (by (repeat rw [hF _ _ (by omega)]); try rfl), hIg.fr ⟨by (repeat rw [hF _ _ (by omega)]); try rfl, by (repeat rw [hF _ _ (by omega)]); try rfl⟩ (by intros; (repeat rw [hF _ _ (by omega)]); try rfl) (by intros; (repeat rw [hF _ _ (by omega)]); try rfl), hIe.fr ⟨by (repeat rw [hF _ _ (by omega)]); try rfl, by (repeat rw [hF _ _ (by omega)]); try rfl, by (repeat rw [hF _ _ (by omega)]); try rfl⟩ (by intros; (repeat rw [hF _ _ (by omega)]); try rfl) (by intros; (repeat rw [hF _ _ (by omega)]); try rfl), hIp.fr ⟨by (repeat rw [hF _ _ (by omega)]); try rfl, by (repeat rw [hF _ _ (by omega)]); try rfl, by (repeat rw [hF _ _ (by omega)]); try rfl⟩ (by intros; (repeat rw [hF _ _ (by omega)]); try rfl) (by intros; (repeat rw [hF _ _ (by omega)]); try rfl), hIk.fr ⟨by (repeat rw [hF _ _ (by omega)]); try rfl, by (repeat rw [hF _ _ (by omega)]); try rfl, by (repeat rw [hF _ _ (by omega)]); try rfl⟩ (by intros; (repeat rw [hF _ _ (by omega)]); try rfl) (by intros; (repeat rw [hF _ _ (by omega)]); try rfl)⟩
      refine ⟨⟨?_, ?_, ?_, ?_, ?_, ?_, ?_, ?_, ?_, ?_⟩, hI2, hT.fr ⟨by (repeat rw [hF _ _ (by omega)]); try rfl, by (repeat rw [hF _ _ (by omega)]); try rfl⟩ (by intros; (repeat rw [hF _ _ (by omega)]); try rfl) (by intros; (repeat rw [hF _ _ (by omega)]); try rfl) (by intros; (repeat rw [hF _ _ (by omega)]); try rfl), hX.fr ⟨by (repeat rw [hF _ _ (by omega)]); try rfl, by (repeat rw [hF _ _ (by omega)]); try rfl⟩ (by intros; (repeat rw [hF _ _ (by omega)]); try rfl), hC.fr ⟨by (repeat rw [hF _ _ (by omega)]); try rfl, by (repeat rw [hF _ _ (by omega)]); try rfl⟩ (by intros; (repeat rw [hF _ _ (by omega)]); try rfl), ?_, hQ.fr (by intros; (repeat rw [hF _ _ (by omega)]); try rfl) (by intros; (repeat rw [hF _ _ (by omega)]); try rfl) (by intros; (repeat rw [hF _ _ (by omega)]); try rfl) (by intros; (repeat rw [hF _ _ (by omega)]); try rfl)⟩
      · unfold RNs; unfold RIs at hIs; refine ⟨?_, ?_, ?_, ?_, ?_, ?_, ?_, ?_, ?_, ?_, ?_, ?_⟩ <;> omega
      · intro p hp
        have h := hIo p hp
        have a0 := hd1 p hp 0 (by decide)
        have a1 := hd1 p hp 1 (by decide)
        have a2 := hd1 p hp 2 (by decide)
        have b0 := cK p hp
        have b1 := cV p hp
        have b2 := cVo p hp
        refine ⟨?_, ?_, ?_, ?_, ?_, ?_, ?_, ?_, ?_⟩ <;> omega
      · refine ⟨fun p hp => ?_, by rw [ca]; exact hIa.2.1, by rw [ca]; exact hIa.2.2⟩
        rw [hd1 p hp 3 (by decide), ca]; exact hIa.1 p hp
      · intro p x hp hx
        have h := hIb p x hp hx
        have a0 := hd2 p hp x hx
        have b0 := cB (5 * p + x) (by omega)
        refine ⟨?_, ?_, ?_⟩ <;> omega
      · intro p x hp hx
        have h := hIr p x hp hx
        have a0 := hd3 p hp x hx
        have b0 := cR (4 * p + x) (by omega)
        refine ⟨?_, ?_, ?_⟩ <;> omega
      · intro x hx
        have h := hId x hx
        have a0 := hdd x hx
        have b0 := cD x hx
        refine ⟨?_, ?_, ?_⟩ <;> omega
      · obtain ⟨g1, g2, g3, g4, g5, g6⟩ := hIg
        refine ⟨by omega, by omega, by omega, fun x hx => ?_, fun x hx => ?_, fun x y hxy hy => ?_⟩
        · rw [hda x hx, cL x hx]; exact g4 x hx
        · rw [cL x (by omega)]; exact g5 x (by omega)
        · rw [cL x (by omega), cL y (by omega)]; exact g6 x y hxy (by omega)
      · obtain ⟨g1, g2, g3, g4, g5⟩ := hIe
        refine ⟨by omega, by omega, by omega, by omega, fun x hx => ?_⟩
        have h := g5 x (by omega)
        rw [hde _ (by omega), hde _ (by omega), hde _ (by omega), hde _ (by omega), cWho x (by omega), cOne x (by omega), cOth x (by omega), cMore x (by omega)]
        exact h
      · obtain ⟨g1, g2, g3, g4, g5⟩ := hIp
        refine ⟨by omega, by omega, by omega, by omega, fun x hx => ?_⟩
        have h := g5 x (by omega)
        rw [hdp _ (by omega), hdp _ (by omega), cWh x (by omega), cNu x (by omega)]
        exact h
      · obtain ⟨g1, g2, g3, g4, g5⟩ := hIk
        refine ⟨by omega, by omega, by omega, by omega, fun x hx => ?_⟩
        have h := g5 x (by omega)
        rw [hdk _ (by omega), hdk _ (by omega), hdk _ (by omega), cBW x (by omega), cBT x (by omega), cBB x (by omega)]
        exact h
      · obtain ⟨h1, h2, h3, h4, h5⟩ := hH
        refine ⟨by rw [hF _ _ (by omega), hF _ _ (by omega)]; exact h1, by rw [hF _ _ (by omega)]; exact h2, by rw [hF _ _ (by omega)]; exact h3, fun x hx => by rw [hF _ _ (by omega)]; exact h4 x hx, fun x hx => ?_⟩
        rw [cMore x hx, hF 189 x (by omega)]; exact ⟨(h5 x hx).2, (h5 x hx).2⟩
    · exfalso; omega
  · refine ex_st 1 (pc' := 9) (ls' := [(0, xr 0)]) (st' := [xi (-3)]) rfl ?_
    refine ex_reti rfl rfl ?_
    refine x_CQ.of (M := xM_m_undo) rfl (Nat.le_of_ble_eq_true rfl) ?_
    refine ex_st 2 (pc' := 4) (ls' := [(0, xr 143)]) (st' := [xi (I 143 50)]) rfl ?_
    refine ex_if rfl (by first | omega | (constructor <;> omega) | assumption) (fun (h2 : ¬ (I 143 50) = 0) => ?_) (fun (h2 : ¬ ¬ (I 143 50) = 0) => ?_)
    · exfalso; omega
    · refine ex_st 1 (pc' := 9) (ls' := [(0, xr 143)]) (st' := [xi (-3)]) rfl ?_
      refine ex_reti rfl rfl ?_
      exact ⟨x_req (by first | rfl | omega), _, _, rfl, hR⟩
