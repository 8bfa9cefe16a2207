/-! pair of calls: treaty -/
theorem sp_mq_congr {w w' nu nu' : Nat → Int} : ∀ n, (∀ y, y < n → w y = w' y ∧ nu y = nu' y) → sp_mq w nu n = sp_mq w' nu' n
  | 0, _ => rfl
  | n + 1, h => by
    simp only [sp_mq]
    rw [(h n (by omega)).1, (h n (by omega)).2, sp_mq_congr n (fun y hy => h y (by omega))]
theorem sp_mc_congr {w w' : Nat → Int} : ∀ n, (∀ y, y < n → w y = w' y) → sp_mc w n = sp_mc w' n
  | 0, _ => rfl
  | n + 1, h => by
    simp only [sp_mc]
    rw [h n (by omega), sp_mc_congr n (fun y hy => h y (by omega))]
theorem szs_l {cd : Nat → Int} : ∀ (l : List Int) (i s : Nat), (∀ t, t < l.length → cd (i + t) = (l[t]?).getD 0) → sp_szs cd l.length i s = szl l s
  | [], _, _, _ => rfl
  | c :: l, i, s, h => by
    have h0 : cd i = c := by have := h 0 (by simp); simpa using this
    have e1 : sp_szs cd (c :: l).length i s = match sp_sz (cd i) s with | some s' => sp_szs cd l.length (i + 1) s' | none => none := rfl
    have e2 : szl (c :: l) s = match sp_sz c s with | some t => szl l t | none => none := rfl
    rw [e1, e2, h0]
    cases hu : sp_sz c s with
    | none => rfl
    | some u =>
      exact szs_l l (i + 1) u (fun t ht => by
        have := h (t + 1) (by simp; omega)
        rw [show i + 1 + t = i + (t + 1) by omega, this]
        simp)
theorem p_C_v {n : Nat} {tx : Nat → Nat} {a : Nat} (h : (p_C n tx a).2.2 = true) : 0 ≤ p_cn n tx a ∧ p_cn n tx a ≤ 99 ∧ (∀ x, x ∈ (p_C n tx a).2.1 → VC x) ∧ (p_ck n tx a ≠ 2 → szl (p_C n tx a).2.1 0 = some 1) := by
  have hb := p_nm_bd n tx (p_cb n tx a)
  have hb' : -1 ≤ p_cn n tx a ∧ p_cn n tx a ≤ 99 := hb
  unfold p_C at h ⊢
  split at h
  · next h1 =>
    rw [if_pos h1]
    split at h
    · cases h
    · next h2 =>
      rw [if_neg h2]
      split at h
      · next h3 =>
        rw [if_pos h3]
        exact ⟨by omega, by omega, (fun x hx => by cases hx), (fun q => absurd h3 q)⟩
      · next h3 =>
        rw [if_neg h3]
        split at h
        · next h4 =>
          rw [if_pos h4]
          have := PV.E (n := n) (tx := tx) (PV.S (n := n) (tx := tx) 4 (by decide)) 101 false (p_na n tx (p_cb n tx a) + 1) [] (fun x hx => by cases hx) 0 (fun _ => rfl) (fun q => by cases q) (by decide) h
          exact ⟨by omega, by omega, this.1, fun _ => this.2⟩
        · cases h
  · cases h
theorem p_out_inv {n : Nat} {tx : Nat → Nat} : ∀ f z, p_q n tx z ≤ n → (p_A n tx z).length ≤ p_q n tx z → (p_out n tx f z).2.2 = true → z ≤ (p_out n tx f z).2.1 ∧ ∀ y, z ≤ y → y < (p_out n tx f z).2.1 → (p_C n tx (p_q n tx y)).2.2 = true ∧ p_q n tx y ≤ n ∧ (p_A n tx y).length ≤ p_q n tx y
  | 0, z, _, _, h => by cases h
  | f + 1, z, hq, hA, h => by
    have hb := p_C_bd (n := n) (tx := tx) hq
    have hA1 : (p_A n tx (z + 1)).length = (p_A n tx z).length + (p_C n tx (p_q n tx z)).2.1.length := List.length_append
    simp only [p_out] at h ⊢
    split at h
    · next h1 =>
      rw [if_pos h1]
      have hb2 := hb.2.2 h1
      split at h
      · next h2 =>
        rw [if_pos h2]
        refine ⟨Nat.le_succ _, fun y hy1 hy2 => ?_⟩
        obtain rfl : y = z := by have : y < z + 1 := hy2; omega
        exact ⟨h1, hq, hA⟩
      · next h2 =>
        rw [if_neg h2]
        split at h
        · cases h
        · next h3 =>
          rw [if_neg h3]
          have hag := pg_lt (n := n) (tx := tx) (a := (p_C n tx (p_q n tx z)).1) (by omega)
          have hq1 : p_q n tx (z + 1) = (p_C n tx (p_q n tx z)).1 + 1 := rfl
          obtain ⟨i1, i2⟩ := p_out_inv (n := n) (tx := tx) f (z + 1) hag (by omega) h
          refine ⟨by omega, fun y hy1 hy2 => ?_⟩
          by_cases hyz : y = z
          · subst hyz; exact ⟨h1, hq, hA⟩
          · exact i2 y (by omega) hy2
    · cases h
theorem p_A_get {n : Nat} {tx : Nat → Nat} {y : Nat} : ∀ N, y < N → ∀ j, j < (p_C n tx (p_q n tx y)).2.1.length → (p_A n tx N)[(p_A n tx y).length + j]? = (p_C n tx (p_q n tx y)).2.1[j]? ∧ (p_A n tx y).length + j < (p_A n tx N).length
  | 0, h, _, _ => absurd h (Nat.not_lt_zero _)
  | N + 1, h, j, hj => by
    by_cases e : y = N
    · subst e
      show (p_A n tx y ++ (p_C n tx (p_q n tx y)).2.1)[(p_A n tx y).length + j]? = _ ∧ _ < (p_A n tx y ++ (p_C n tx (p_q n tx y)).2.1).length
      refine ⟨?_, by rw [List.length_append]; omega⟩
      rw [List.getElem?_append_right (by omega), show (p_A n tx y).length + j - (p_A n tx y).length = j by omega]
    · obtain ⟨i1, i2⟩ := p_A_get (n := n) (tx := tx) N (by omega) j hj
      show (p_A n tx N ++ (p_C n tx (p_q n tx N)).2.1)[(p_A n tx y).length + j]? = _ ∧ _ < (p_A n tx N ++ (p_C n tx (p_q n tx N)).2.1).length
      refine ⟨?_, by rw [List.length_append]; omega⟩
      rw [List.getElem?_append_left i2]
      exact i1
/-- the new treaty, from what both keep -/
theorem RTf.new {K : Nat → Nat → Int} {f n : Nat} {tx : Nat → Nat} (hn : n ≤ 100) (hok : (p_out n tx 10 0).2.2 = true) (h152 : K 152 f = (((p_out n tx 10 0).2.1 : Nat) : Int)) (hCI : CI K (107 + 4 * f) n tx (p_out n tx 10 0).2.1) (hCD : CD K (107 + 4 * f) (p_A n tx (p_out n tx 10 0).2.1)) (hMI : MI K f n tx (p_out n tx 10 0).2.1) (hRD : RDm K (100 * f) ((p_A n tx (p_out n tx 10 0).2.1).map mcd)) : RTf K f := by
  have hN := (p_out_at (n := n) (tx := tx) 10 0 (Nat.zero_le _)).2
  obtain ⟨-, hinv⟩ := p_out_inv (n := n) (tx := tx) 10 0 (Nat.zero_le _) (Nat.le_refl _) hok
  generalize (p_out n tx 10 0).2.1 = N at *
  obtain ⟨c1, c2, c3⟩ := hCI
  have hw : ∀ y, y < N → K 153 (10 * f + y) = p_ks n tx y ∧ K 154 (10 * f + y) = p_ns n tx y := fun y hy => ⟨(hMI y hy).1, (hMI y hy).2.1⟩
  have emc : ∀ z, z ≤ N → sp_mc (fun c => K 153 (10 * f + c)) z = sp_mc (p_ks n tx) z := fun z hz => sp_mc_congr z (fun y hy => (hw y (by omega)).1)
  refine ⟨N, h152, by omega, ?_, ?_, fun c hc => ?_⟩
  · rw [c1]; exact (sp_mq_congr N (fun y hy => hw y hy)).symm
  · rw [c2, emc N (Nat.le_refl _)]
  · obtain ⟨k1, k2, k3⟩ := hinv c (Nat.zero_le _) hc
    obtain ⟨v1, v2, v3, v4⟩ := p_C_v k1
    obtain ⟨m1, m2, m3⟩ := hMI c hc
    have hck := p_ck_bd n tx (p_q n tx c)
    have hck' : p_ks n tx c = 0 ∨ p_ks n tx c = 1 ∨ p_ks n tx c = 2 := hck
    have hb := p_C_bd (n := n) (tx := tx) k2
    have hb2 := hb.2.2 k1
    have hb3 := hb.2.1
    have hA1 : (p_A n tx (c + 1)).length = (p_A n tx c).length + (p_C n tx (p_q n tx c)).2.1.length := List.length_append
    have hns : 0 ≤ p_ns n tx c ∧ p_ns n tx c ≤ 99 := ⟨v1, v2⟩
    refine ⟨by omega, by omega, by omega, by omega, fun hne => ?_⟩
    rw [m1] at hne
    rw [emc c (by omega)]
    obtain ⟨q1, q2, q3⟩ := c3 c (by omega)
    obtain ⟨q4, q5⟩ := q3 hc hne
    obtain ⟨m4, m5⟩ := m3 hne
    refine ⟨100 * f + (p_A n tx c).length, (p_C n tx (p_q n tx c)).2.1.length, (p_A n tx c).length, m4, by rw [m5, hA1]; congr 1; omega, by omega, by omega, q1, q2, by rw [q5, hA1], by omega, by rw [q4, m1, m2], ?_, fun t ht => ?_⟩
    · have := szs_l (cd := fun j => K (107 + 4 * f + 3) ((p_A n tx c).length + j)) (p_C n tx (p_q n tx c)).2.1 0 0 (fun t ht => by
        obtain ⟨g1, g2⟩ := p_A_get (n := n) (tx := tx) N hc t ht
        show K (107 + 4 * f + 3) ((p_A n tx c).length + (0 + t)) = _
        rw [Nat.zero_add, hCD.2 _ g2, g1])
      rw [this]
      exact v4 hne
    · obtain ⟨g1, g2⟩ := p_A_get (n := n) (tx := tx) N hc t ht
      have h3 := hRD.2 ((p_A n tx c).length + t) (by rw [List.length_map]; exact g2)
      rw [show 100 * f + (p_A n tx c).length + t = 100 * f + ((p_A n tx c).length + t) by omega, h3, hCD.2 _ g2, List.getElem?_map, g1]
      rw [List.getElem?_eq_getElem ht]
      exact (v3 _ (List.getElem_mem ht)).tc
theorem Rl.setT {I K : Nat → Nat → Int} {L : Nat → Nat → Int64} (h : Rl I L) (hf : ∀ k j, ¬ ((k = 85 ∧ (j = 1 ∨ j = 2)) ∨ (107 ≤ k ∧ k ≤ 130) ∨ (k = 1 ∧ j = 7) ∨ (k = 0 ∧ j = 7) ∨ (k = 143 ∧ (j = 12 ∨ j = 13 ∨ j = 14 ∨ j = 15 ∨ j = 16 ∨ j = 25 ∨ j = 26 ∨ j = 27)) ∨ (152 ≤ k ∧ k ≤ 158)) → K k j = I k j) (h7 : K 1 7 = K 143 13 ∧ -1 ≤ K 143 13 ∧ K 143 13 < K 143 12) (h12 : I 143 12 ≤ K 143 12) (hT : RT K) (h14 : K 85 1 = 0 ∧ K 143 14 = 0) : Rl K L := by
  obtain ⟨⟨hNs, hNo, hNa, hNb, hNr, hNd, hNg, hNe, hNp, hNk⟩, ⟨gs, go, ga, gb, gr, gd, gg, ge, gp, gk⟩, hT0, hX, hC, hH, hQ⟩ := h
  refine ⟨⟨?_, hNo.fr (by intros; (repeat rw [hf _ _ (by omega)]); try rfl) (by intros; (repeat rw [hf _ _ (by omega)]); try rfl), hNa.fr (by intros; (repeat rw [hf _ _ (by omega)]); try rfl) (by (repeat rw [hf _ _ (by omega)]); try rfl), hNb.fr (by intros; (repeat rw [hf _ _ (by omega)]); try rfl) (by intros; (repeat rw [hf _ _ (by omega)]); try rfl), hNr.fr (by intros; (repeat rw [hf _ _ (by omega)]); try rfl) (by intros; (repeat rw [hf _ _ (by omega)]); try rfl), hNd.fr (by intros; (repeat rw [hf _ _ (by omega)]); try rfl) (by intros; (repeat rw [hf _ _ (by omega)]); try rfl) (by (repeat rw [hf _ _ (by omega)]); try rfl), hNg.fr ⟨by (repeat rw [hf _ _ (by omega)]); try rfl, by (repeat rw [hf _ _ (by omega)]); try rfl⟩ (by intros; (repeat rw [hf _ _ (by omega)]); try rfl) (by intros; (repeat rw [hf _ _ (by omega)]); try rfl), hNe.fr ⟨by (repeat rw [hf _ _ (by omega)]); try rfl, by (repeat rw [hf _ _ (by omega)]); try rfl, by (repeat rw [hf _ _ (by omega)]); try rfl⟩ (by intros; (repeat rw [hf _ _ (by omega)]); try rfl) (by intros; (repeat rw [hf _ _ (by omega)]); try rfl), hNp.fr ⟨by (repeat rw [hf _ _ (by omega)]); try rfl, by (repeat rw [hf _ _ (by omega)]); try rfl, by (repeat rw [hf _ _ (by omega)]); try rfl⟩ (by intros; (repeat rw [hf _ _ (by omega)]); try rfl) (by intros; (repeat rw [hf _ _ (by omega)]); try rfl), hNk.fr ⟨by (repeat rw [hf _ _ (by omega)]); try rfl, by (repeat rw [hf _ _ (by omega)]); try rfl, by (repeat rw [hf _ _ (by omega)]); try rfl⟩ (by intros; (repeat rw [hf _ _ (by omega)]); try rfl) (by intros; (repeat rw [hf _ _ (by omega)]); try rfl)⟩, ⟨?_, go.fr (by intros; (repeat rw [hf _ _ (by omega)]); try rfl) (by intros; (repeat rw [hf _ _ (by omega)]); try rfl), ga.fr (by intros; (repeat rw [hf _ _ (by omega)]); try rfl) (by (repeat rw [hf _ _ (by omega)]); try rfl), gb.fr (by intros; (repeat rw [hf _ _ (by omega)]); try rfl) (by intros; (repeat rw [hf _ _ (by omega)]); try rfl), gr.fr (by intros; (repeat rw [hf _ _ (by omega)]); try rfl) (by intros; (repeat rw [hf _ _ (by omega)]); try rfl), gd.fr (by intros; (repeat rw [hf _ _ (by omega)]); try rfl) (by intros; (repeat rw [hf _ _ (by omega)]); try rfl) (by (repeat rw [hf _ _ (by omega)]); try rfl), gg.fr ⟨by (repeat rw [hf _ _ (by omega)]); try rfl, by (repeat rw [hf _ _ (by omega)]); try rfl⟩ (by intros; (repeat rw [hf _ _ (by omega)]); try rfl) (by intros; (repeat rw [hf _ _ (by omega)]); try rfl), ge.fr ⟨by (repeat rw [hf _ _ (by omega)]); try rfl, by (repeat rw [hf _ _ (by omega)]); try rfl, by (repeat rw [hf _ _ (by omega)]); try rfl⟩ (by intros; (repeat rw [hf _ _ (by omega)]); try rfl) (by intros; (repeat rw [hf _ _ (by omega)]); try rfl), gp.fr ⟨by (repeat rw [hf _ _ (by omega)]); try rfl, by (repeat rw [hf _ _ (by omega)]); try rfl, by (repeat rw [hf _ _ (by omega)]); try rfl⟩ (by intros; (repeat rw [hf _ _ (by omega)]); try rfl) (by intros; (repeat rw [hf _ _ (by omega)]); try rfl), gk.fr ⟨by (repeat rw [hf _ _ (by omega)]); try rfl, by (repeat rw [hf _ _ (by omega)]); try rfl, by (repeat rw [hf _ _ (by omega)]); try rfl⟩ (by intros; (repeat rw [hf _ _ (by omega)]); try rfl) (by intros; (repeat rw [hf _ _ (by omega)]); try rfl)⟩, hT, ?_, hC.fr ⟨by (repeat rw [hf _ _ (by omega)]); try rfl, by (repeat rw [hf _ _ (by omega)]); try rfl⟩ (by intros; (repeat rw [hf _ _ (by omega)]); try rfl), hH.fr ⟨by (repeat rw [hf _ _ (by omega)]); try rfl, by (repeat rw [hf _ _ (by omega)]); try rfl, by (repeat rw [hf _ _ (by omega)]); try rfl⟩ (by intros; (repeat rw [hf _ _ (by omega)]); try rfl) (by intros; (repeat rw [hf _ _ (by omega)]); try rfl), hQ.fr (by intros; (repeat rw [hf _ _ (by omega)]); try rfl) (by intros; (repeat rw [hf _ _ (by omega)]); try rfl) (by intros; (repeat rw [hf _ _ (by omega)]); try rfl) (by intros; (repeat rw [hf _ _ (by omega)]); try rfl)⟩
  · unfold RNs at *
    rw [hf 1 1 (by omega), hf 1 5 (by omega), hf 1 6 (by omega), hf 143 0 (by omega), hf 143 3 (by omega), hf 143 4 (by omega)]
    omega
  · unfold RIs at *
    rw [hf 29 1 (by omega), hf 29 5 (by omega), hf 29 6 (by omega), hf 29 7 (by omega), hf 143 52 (by omega), hf 143 55 (by omega), hf 143 56 (by omega), hf 143 51 (by omega)]
    omega
  · exact ⟨by rw [h14.1, h14.2], by rw [h14.2]; decide, by rw [h14.2]; decide, fun x hx => by rw [h14.2] at hx; omega⟩
def fA (f k j : Nat) : Prop := ((k = 85 ∧ (j = 1 ∨ j = 2)) ∨ (107 + 4 * f ≤ k ∧ k ≤ 107 + 4 * f + 3) ∨ (k = 1 ∧ j = 7) ∨ (k = 0 ∧ j = 7))
def fB (f k j : Nat) : Prop := ((k = 143 ∧ (j = 15 ∨ j = 16 ∨ j = 25 ∨ j = 26 ∨ j = 27)) ∨ (k = 157 ∧ 100 * f ≤ j ∧ j < 100 * f + 100) ∨ k = 158 ∨ (153 ≤ k ∧ k ≤ 156 ∧ 10 * f ≤ j ∧ j < 10 * f + 10) ∨ (k = 152 ∧ j = f))
def fC (k j : Nat) : Prop := (k = 143 ∧ (j = 12 ∨ j = 13 ∨ j = 14))
theorem fABC {f k j : Nat} (hf : f < 6) (h : fA f k j ∨ fB f k j ∨ fC k j) : ((k = 85 ∧ (j = 1 ∨ j = 2)) ∨ (107 ≤ k ∧ k ≤ 130) ∨ (k = 1 ∧ j = 7) ∨ (k = 0 ∧ j = 7) ∨ (k = 143 ∧ (j = 12 ∨ j = 13 ∨ j = 14 ∨ j = 15 ∨ j = 16 ∨ j = 25 ∨ j = 26 ∨ j = 27)) ∨ (152 ≤ k ∧ k ≤ 158)) := by
  unfold fA fB fC at h
  rcases h with (h | h | h | h) | (h | h | h | h | h) | h
  · exact Or.inl h
  · exact Or.inr (Or.inl ⟨by omega, by omega⟩)
  · exact Or.inr (Or.inr (Or.inl h))
  · exact Or.inr (Or.inr (Or.inr (Or.inl h)))
  · exact Or.inr (Or.inr (Or.inr (Or.inr (Or.inl ⟨h.1, by omega⟩))))
  · exact Or.inr (Or.inr (Or.inr (Or.inr (Or.inr ⟨by omega, by omega⟩))))
  · exact Or.inr (Or.inr (Or.inr (Or.inr (Or.inr ⟨by omega, by omega⟩))))
  · exact Or.inr (Or.inr (Or.inr (Or.inr (Or.inr ⟨by omega, by omega⟩))))
  · exact Or.inr (Or.inr (Or.inr (Or.inr (Or.inr ⟨by omega, by omega⟩))))
  · exact Or.inr (Or.inr (Or.inr (Or.inr (Or.inl ⟨h.1, by omega⟩))))
theorem op_treaty {sc : List Int} {I : Nat → Nat → Int} {L : Nat → Nat → Int64} (hR : Rl I L) : x_PQ sc xN_G_treaty [xr 0] xN_m_treaty [xr 143] (xSH, I, L) := by
  obtain ⟨⟨hNs, hNo, hNa, hNb, hNr, hNd, hNg, hNe, hNp, hNk⟩, hI, hT, hX, hC, hH, hQ⟩ := id hR
  have hs := hNs
  unfold RNs at hs
  obtain ⟨t1, t2, t3, t4, t5, t6⟩ := id hT
  obtain ⟨x1, x2, x3, x4⟩ := id hX
  obtain ⟨f, hf⟩ := Int.eq_ofNat_of_zero_le t2
  by_cases hf6 : f < 6
  · obtain ⟨n, hn⟩ := Int.eq_ofNat_of_zero_le x2
    obtain ⟨tx, htx⟩ : ∃ tx : Nat → Nat, ∀ j, tx j = (I 151 j).toNat := ⟨_, fun _ => rfl⟩
    have hTc : TXc I n tx := ⟨by omega, by omega, fun j hj => by have h1 := x4 j (by omega); have h2 := htx j; omega⟩
    have hTS := TS.mk f hf6
    obtain ⟨r, m', ⟨I1, rfl, l1, gF, gT⟩, hE⟩ := ct_G_treaty (sc := sc) (L := L) hTc (show I 0 7 = (f : Int) by omega) hf6
    refine ⟨r, _, ?_, hE⟩
    have F1 : ∀ k j, ¬ fA f k j → I1 k j = I k j := fun k j hk => by
      by_cases hok : (p_out n tx 10 0).2.2 = true
      · exact (gT hok).2.2.2.2.2 k j hk
      · exact (gF (by simpa using hok)).2 k j (fun h => hk (by unfold fA; rcases h with h | h; exact Or.inl h; exact Or.inr (Or.inl h)))
    have hTm : TXm I1 n tx := ⟨by rw [F1 _ _ (by unfold fA; omega)]; exact hn, by omega, fun j hj => by rw [F1 _ _ (by unfold fA; omega)]; have h1 := x4 j (by omega); have h2 := htx j; omega⟩
    have hLt : LTs I1 := fun x hx => by rw [F1 _ _ (by unfold fA; omega)]; exact hH.2.2.2.1 x hx
    have e12 : I1 143 12 = (f : Int) := by rw [F1 _ _ (by unfold fA; omega)]; exact hf
    refine x_CQ.of (M := xM_m_treaty) rfl (Nat.le_of_ble_eq_true rfl) ?_
    refine ex_st 3 (pc' := 6) (ls' := [(0, xr 143)]) (st' := [xi 6, xi (I1 143 12)]) rfl ?_
    rw [e12]
    refine ex_ic rfl (by constructor <;> omega) (by decide) (fun (h0 : ¬ (↑f : Int) = 6) => ?_) (fun (h0 : ¬ ¬ (↑f : Int) = 6) => by exfalso; omega)
    refine ex_st 3 (pc' := 17) (ls' := [(0, xr 143)]) (st' := [xi (I1 143 12), xr 143]) rfl ?_
    rw [e12]
    refine ex_callQ (ct_m_goesText (L := L) hf6 hTm hLt) (by decide) rfl ⟨rfl, rfl, rfl⟩ ⟨Nat.le_of_ble_eq_true rfl, rfl, rfl⟩ (Nat.le_of_ble_eq_true rfl) rfl (fun ra m2 hQ => ?_)
    obtain ⟨rfl, I2, rfl, F2, gF2, gT2⟩ := hQ
    refine ex_st 3 (pc' := 23) (ls' := [(1, xi (x_b ((p_out n tx 10 0).2.2 = true))), (0, xr 143)]) (st' := [xi 0, xr 143]) rfl ?_
    refine ex_pfi rfl (by decide) (rfl : xSH[143]? = some _) (by decide) rfl (by decide) (fun h => by cases h) ?_
    refine ex_st 1 (pc' := 27) (ls' := [(1, xi (x_b ((p_out n tx 10 0).2.2 = true))), (0, xr 143)]) (st' := [xi (x_b ((p_out n tx 10 0).2.2 = true))]) rfl ?_
    refine ex_bne rfl (fun hok => ?_) (fun hok => ?_)
    · obtain ⟨rfl, q1, q2, q3, q4, q5⟩ := gT hok
      obtain ⟨w1, w2, w3⟩ := gT2 hok
      refine ex_st 3 (pc' := 43) (ls' := [(1, xi (x_b ((p_out n tx 10 0).2.2 = true))), (0, xr 143)]) (st' := [xi ((x_up I2 143 14 0) 143 12), xr 143]) rfl ?_
      rw [x_up_far (k := 143) (j := 12) (by decide), F2 143 12 (by omega), e12]
      refine ex_pfi rfl (by decide) (rfl : xSH[143]? = some _) (by decide) rfl (by decide) (fun h => by cases h) ?_
      refine ex_st 3 (pc' := 51) (ls' := [(1, xi (x_b ((p_out n tx 10 0).2.2 = true))), (0, xr 143)]) (st' := [xi ((x_up (x_up I2 143 14 0) 143 13 (↑f)) 143 12), xr 143]) rfl ?_
      rw [x_up_far (k := 143) (j := 12) (by decide), x_up_far (k := 143) (j := 12) (by decide), F2 143 12 (by omega), e12]
      refine ex_st 2 (pc' := 53) (ls' := [(1, xi (x_b ((p_out n tx 10 0).2.2 = true))), (0, xr 143)]) (st' := [xi (↑f + 1), xr 143]) rfl ?_
      refine ex_pfi rfl (by decide) (rfl : xSH[143]? = some _) (by decide) rfl (by decide) (fun h => by cases h) ?_
      refine ex_st 2 (pc' := 60) (ls' := [(1, xi (x_b ((p_out n tx 10 0).2.2 = true))), (0, xr 143)]) (st' := [xi ((x_up (x_up (x_up I2 143 14 0) 143 13 (↑f)) 143 12 (↑f + 1)) 143 13)]) rfl ?_
      rw [x_up_far (k := 143) (j := 13) (by decide), x_up_at]
      refine ex_reti rfl rfl ?_
      generalize hM : x_up (x_up (x_up I2 143 14 0) 143 13 (↑f)) 143 12 (↑f + 1) = K
      have g3 : ∀ k j, ¬ (k = 143 ∧ (j = 12 ∨ j = 13 ∨ j = 14)) → K k j = I2 k j := fun k j hk => by rw [← hM, x_up_far (by omega), x_up_far (by omega), x_up_far (by omega)]
      have v12 : K 143 12 = ((f + 1 : Nat) : Int) := by rw [← hM, x_up_at]; rfl
      have v13 : K 143 13 = (f : Int) := by rw [← hM, x_up_far (by decide), x_up_at]
      have v14 : K 143 14 = 0 := by rw [← hM, x_up_far (by decide), x_up_far (by decide), x_up_at]
      have KC : ∀ k j, k ≤ 142 → K k j = I1 k j := fun k j hk => by rw [g3 k j (by omega), F2 k j (by omega)]
      have v7 : K 1 7 = (f : Int) := by rw [KC _ _ (by decide)]; exact q1
      have v07 : K 0 7 = ((f + 1 : Nat) : Int) := by rw [KC _ _ (by decide)]; exact q2
      have KF : ∀ k j, ¬ (fA f k j ∨ fB f k j ∨ fC k j) → K k j = I k j := fun k j hk => by rw [g3 k j (fun h => hk (Or.inr (Or.inr h))), F2 k j (fun h => hk (Or.inr (Or.inl h))), F1 k j (fun h => hk (Or.inl h))]
      have hnew : RTf K f := RTf.new (n := n) (tx := tx) (by omega) hok (by rw [g3 _ _ (by omega)]; exact w1)
        (by obtain ⟨k1, k2, k3⟩ := q3
            refine ⟨by rw [KC _ _ (by omega)]; exact k1, by rw [KC _ _ (by omega)]; exact k2, fun y hy => ?_⟩
            rw [KC _ _ (by omega), KC _ _ (by omega), KC _ _ (by omega)]
            exact k3 y hy)
        (q4.fr (KC _ _ (by omega)) (fun j => KC _ _ (by omega)))
        (fun y hy => by rw [g3 _ _ (by omega), g3 _ _ (by omega), g3 _ _ (by omega), g3 _ _ (by omega)]; exact w2 y hy)
        (w3.fr (g3 _ _ (by omega)) (fun j => g3 _ _ (by omega)))
      have hRT : RT K := ⟨by omega, by omega, by omega, by rw [KF _ _ (by unfold fA fB fC; omega)]; exact t4, by rw [KF _ _ (by unfold fA fB fC; omega)]; exact t5, fun g hg => by
        by_cases hgf : g = f
        · subst hgf; exact hnew
        · exact (t6 g (by omega)).fr (fun k j a b => KF k j (by unfold fA fB fC; omega)) (KF _ _ (by unfold fA fB fC; omega)) (fun k c a b hc => KF _ _ (by unfold fA fB fC; omega)) (fun j a b => KF _ _ (by unfold fA fB fC; omega))⟩
      exact ⟨rfl, K, L, rfl, hR.setT (fun k j hk => KF k j (fun h => hk (fABC hf6 h))) ⟨by omega, by omega, by omega⟩ (by omega) hRT ⟨by rw [KC _ _ (by decide)]; exact l1, v14⟩⟩
    · have hok' : (p_out n tx 10 0).2.2 = false := by simpa using hok
      obtain ⟨rfl, q5⟩ := gF hok'
      have w1 := gF2 hok'
      refine ex_st 3 (pc' := 36) (ls' := [(1, xi (x_b ((p_out n tx 10 0).2.2 = true))), (0, xr 143)]) (st' := [xi ((x_up I2 143 14 0) 143 15), xi (-10)]) rfl ?_
      rw [x_up_far (k := 143) (j := 15) (by decide), w1]
      refine ex_st 1 (pc' := 37) (ls' := [(1, xi (x_b ((p_out n tx 10 0).2.2 = true))), (0, xr 143)]) (st' := [xi (-10 - (((p_out n tx 10 0).1 : Nat) : Int))]) rfl ?_
      refine ex_reti rfl rfl ?_
      generalize hM : x_up I2 143 14 0 = K
      have g3 : ∀ k j, ¬ (k = 143 ∧ j = 14) → K k j = I2 k j := fun k j hk => by rw [← hM, x_up_far hk]
      have v14 : K 143 14 = 0 := by rw [← hM, x_up_at]
      have KF : ∀ k j, ¬ (fA f k j ∨ fB f k j ∨ (k = 143 ∧ j = 14)) → K k j = I k j := fun k j hk => by rw [g3 k j (fun h => hk (Or.inr (Or.inr h))), F2 k j (fun h => hk (Or.inr (Or.inl h))), F1 k j (fun h => hk (Or.inl h))]
      have e3 : K 1 7 = I 1 7 := by rw [g3 1 7 (by decide), F2 1 7 (by omega), q5 1 7 (by omega)]
      have e4 : K 0 7 = I 0 7 := by rw [g3 0 7 (by decide), F2 0 7 (by omega), q5 0 7 (by omega)]
      have e1 := KF 143 12 (by unfold fA fB; omega)
      have e2 := KF 143 13 (by unfold fA fB; omega)
      have hRT : RT K := ⟨by omega, by omega, by omega, by rw [KF _ _ (by unfold fA fB; omega)]; exact t4, by rw [KF _ _ (by unfold fA fB; omega)]; exact t5, fun g hg => (t6 g (by omega)).fr (fun k j a b => KF k j (by unfold fA fB; omega)) (KF _ _ (by unfold fA fB; omega)) (fun k c a b hc => KF _ _ (by unfold fA fB; omega)) (fun j a b => KF _ _ (by unfold fA fB; omega))⟩
      exact ⟨rfl, K, L, rfl, hR.setT (fun k j hk => KF k j (fun h => hk (fABC hf6 (h.imp id (Or.imp id (fun q => ⟨q.1, Or.inr (Or.inr q.2)⟩)))))) ⟨by omega, by omega, by omega⟩ (by omega) hRT ⟨by rw [g3 _ _ (by omega), F2 _ _ (by omega)]; exact l1, v14⟩⟩
  · obtain rfl : f = 6 := by omega
    refine x_CQ.of (M := xM_G_treaty) rfl (Nat.le_of_ble_eq_true rfl) ?_
    refine ex_st 3 (pc' := 6) (ls' := [(0, xr 0)]) (st' := [xi 6, xi (I 0 7)]) rfl ?_
    refine ex_ic rfl (by constructor <;> omega) (by decide) (fun (h0 : I 0 7 < 6) => by exfalso; omega) (fun (h0 : ¬ I 0 7 < 6) => ?_)
    refine ex_st 1 (pc' := 11) (ls' := [(0, xr 0)]) (st' := [xi (-4)]) rfl ?_
    refine ex_reti rfl rfl ?_
    refine x_CQ.of (M := xM_m_treaty) rfl (Nat.le_of_ble_eq_true rfl) ?_
    refine ex_st 3 (pc' := 6) (ls' := [(0, xr 143)]) (st' := [xi 6, xi (I 143 12)]) rfl ?_
    refine ex_ic rfl (by constructor <;> omega) (by decide) (fun (h0 : ¬ I 143 12 = 6) => by exfalso; omega) (fun (h0 : ¬ ¬ I 143 12 = 6) => ?_)
    refine ex_st 1 (pc' := 11) (ls' := [(0, xr 143)]) (st' := [xi (-4)]) rfl ?_
    refine ex_reti rfl rfl ?_
    exact ⟨rfl, I, L, rfl, hR⟩

