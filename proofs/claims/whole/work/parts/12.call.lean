theorem x_rk1 {rt : Option FieldType} (h : x_rkok 1 rt = true) : rt = some .int := by
  cases rt with
  | none => simp [x_rkok] at h
  | some t => cases t <;> first | rfl | simp [x_rkok] at h
theorem x_rk2 {rt : Option FieldType} (h : x_rkok 2 rt = true) : rt = some .boolean := by
  cases rt with
  | none => simp [x_rkok] at h
  | some t => cases t <;> first | rfl | simp [x_rkok] at h
theorem x_rk3 {rt : Option FieldType} (h : x_rkok 3 rt = true) : rt = some .char := by
  cases rt with
  | none => simp [x_rkok] at h
  | some t => cases t <;> first | rfl | simp [x_rkok] at h
theorem x_rk4 {rt : Option FieldType} (h : x_rkok 4 rt = true) : rt = some .long := by
  cases rt with
  | none => simp [x_rkok] at h
  | some t => cases t <;> first | rfl | simp [x_rkok] at h
theorem x_rk5 {rt : Option FieldType} (h : x_rkok 5 rt = true) : ∃ n, rt = some (.object n) := by
  cases rt with
  | none => simp [x_rkok] at h
  | some t => cases t <;> first | exact ⟨_, rfl⟩ | simp [x_rkok] at h
theorem x_rk6 {rt : Option FieldType} (h : x_rkok 6 rt = true) : rt = some .byte := by
  cases rt with
  | none => simp [x_rkok] at h
  | some t => cases t <;> first | rfl | simp [x_rkok] at h
theorem x_rk0 {rt : Option FieldType} (h : x_rkok 0 rt = true) : rt = none := by
  cases rt with
  | none => rfl
  | some t => cases t <;> simp [x_rkok] at h
theorem x_nar_char {v : Int} (h0 : 0 ≤ v) (h1 : v < 65536) : narrow .char (.int (i3 v)) = .int (i3 v) := by
  show Value.int ((i3 v).toUInt32.toUInt16.toUInt32.toInt32) = _
  congr 1
  apply Int32.toBitVec_inj.mp
  show BitVec.setWidth 32 (BitVec.setWidth 16 (i3 v).toBitVec) = (i3 v).toBitVec
  apply BitVec.eq_of_toNat_eq
  have e : (i3 v).toBitVec.toNat = v.toNat := by
    show (BitVec.ofInt 32 v).toNat = _
    rw [BitVec.toNat_ofInt]
    omega
  rw [BitVec.toNat_setWidth, BitVec.toNat_setWidth, e]
  omega
theorem x_lgw {g : xG} (hfv : g.2.2.1.category = 1) : ∀ as : List xPV, (lg_sl (as.map (x_em g))).length = x_words as
  | [] => rfl
  | v :: as => by
    have ih := x_lgw hfv as
    have hc := x_cat_em g hfv v
    unfold lg_sl at ih ⊢
    rw [List.map_cons, List.flatMap_cons, List.length_append, ih, hc]
    show _ = x_cat v + x_words as
    rcases v with z | x | k <;> rfl
theorem x_lva {g : xG} (hfv : g.2.2.1.category = 1) : ∀ (as : List xPV) (i : Nat), lv_args i (as.map (x_em g)) = x_ml g (x_args i as)
  | [], _ => rfl
  | v :: as, i => by
    rw [List.map_cons]
    unfold lv_args x_args
    rw [x_lva hfv as, x_cat_em g hfv v]
    rfl
set_option maxHeartbeats 4000000 in
theorem x_callOK (hMu : x_MultiOK) {sc : List Int} : ∀ d f, x_CallOK sc d f
  | 0, f => fun g l μ as m r m' M q h => by simp [x_cal] at h
  | d + 1, f => fun g l μ as m r m' M q h hlen hfv hfr hM hq => by
    have ihd := x_callOK hMu (sc := sc) d f
    unfold x_cal at h
    rw [hM] at h
    dsimp only at h
    split at h
    · next hwd =>
      obtain ⟨q', hq', hok, hgb, g9, g1⟩ := x_good hM
      cases hq.symm.trans hq'
      simp only [x_gb, Bool.and_eq_true, decide_eq_true_eq] at hgb
      obtain ⟨⟨⟨⟨⟨⟨g2, g3⟩, g4⟩, g5⟩, g6⟩, g7⟩, g8⟩ := hgb
      refine Met.ofW (cc := q.2.1) (maxL := M.2.1) (ret := q.2.2.1) g4 rfl ?_
      intro p en s mm args below meth c s₁ B hml hv
      obtain ⟨rfl, hE, hK, hSF, hBW⟩ := hv
      have hx := B.exec
      have hb := B.bytes
      have hr := B.returns
      have hown : s.vm.findClass q.1.cls = some mm.cls := findClass_of_methodNamed B.named
      have hw0 := atoms_spec (ws := .code q.1 q.2.1 M.2.1 q.2.2.1 :: lw_good) B.pre
      have hts : ∀ w ∈ lw_use, w.before _ s = true := x_hts (fun w hw => hw0 w (List.mem_cons_of_mem _ hw)) hBW hSF
      have hnm : meth.name = q.1.name := (name_of_methodNamed B.named B.method).1
      have C0 : x_Cx g sc p s mm _ c q.1.cls q.2.1 M.2.1 := ⟨⟨hx, hb, hml, hown, hts⟩, hK, hSF, hfv, by rw [hE.1]; omega⟩
      have hl := lv_entry (as.map (x_em g)) (n := M.2.1) (by rw [x_lgw hfv]; exact hwd)
      rw [lg_entry_eq]
      generalize (lg_sl (as.map (x_em g)) ++ List.replicate (M.2.1 - (lg_sl (as.map (x_em g))).length) Slot.unset).toArray = lsA at hl ⊢
      rw [x_lva hfv] at hl
      refine x_runW (st := []) hMu ihd C0 hfr hBW hok rfl ⟨Nat.le_refl _, by show 100 * d + 200 ≤ 100 * (d + 1) + 100; omega⟩ (fun pc e he => ?_) f 0 (x_args 0 as) m r m' s.heap [] lsA 0 0 h hE va_S.rf hl (by rw [Nat.zero_add]; exact Nat.le_refl _) (by rw [Nat.zero_add]; exact Nat.le_refl _) hlen ?_
      · rw [hnm]
        exact g9 pc e he
      · intro pcE lsE H' locs' insE stE hE' hS' hdE hrt
        rw [Nat.zero_add, Nat.zero_add]
        have hf : ∀ z ∈ locs', x_A g z.base := hS'.2.2
        have fin : ∀ (t : State) (o : Option xPV), t.heap = H' → o = r → x_Qc g r m' (as.map (x_em g)).toArray s (.returned (o.map (x_em g))) t := by
          intro t o ht ho
          subst ho
          exact ⟨rfl, by rw [ht]; exact hE', hS'.F ht⟩
        unfold x_ret at hrt
        split at hrt
        · next v =>
          split at hrt
          · next hrk =>
            have hrv : some (xi v) = r := by cases hrt; rfl
            have done : ∀ ty, q.2.2.1 = some ty → narrow ty (.int (i3 v)) = .int (i3 v) → W p l en (headSpec (.code q.1 q.2.1 M.2.1 q.2.2.1 :: lw_good) (x_rm (d + 1) (x_dc m m') (x_ds m m'))).room s mm (as.map (x_em g)).toArray below meth c H' locs' (x_dc m m') (x_ds m m') (MQ below (x_Qc g r m') (as.map (x_em g)).toArray s (x_dc m m') (x_ds m m') (x_A g)) (F0 mm pcE lsE [.int (i3 v)]) := by
              intro ty hty hn
              exact W.zret hx hb (hr.trans hty) hn (fun t ht hW => fin t (some (xi v)) ht hrv) hf hdE
            rcases hrk with h1 | ⟨h1, h2⟩ | ⟨h1, h2, h3⟩ | ⟨h1, h2, h3⟩
            · exact done _ (x_rk1 (h1 ▸ g6)) rfl
            · exact done _ (x_rk2 (h1 ▸ g6)) (x_nar_z h2).1
            · exact done _ (x_rk3 (h1 ▸ g6)) (x_nar_char h2 h3)
            · exact done _ (x_rk6 (h1 ▸ g6)) (x_nar_byte h2 h3)
          · cases hrt
        · next v =>
          split at hrt
          · next hrk =>
            have hrv : some (xl v) = r := by cases hrt; rfl
            exact W.lret hx hb (hr.trans (x_rk4 (hrk ▸ g6))) (fun t ht hW => fin t (some (xl v)) ht hrv) hf hdE
          · cases hrt
        · next v =>
          split at hrt
          · next hrk =>
            have hrv : some (xr v) = r := by cases hrt; rfl
            obtain ⟨n, hn⟩ := x_rk5 (hrk.1 ▸ g6)
            have h5 := fun (t : State) (ht : t.heap = H') (hW : s.WarmedH t.vm) => fin t (some (xr v)) ht hrv
            have e5 : x_em g (xr v) = .ref (g.1 + v) := x_em_r hrk.2
            exact W.aret hx hb (hr.trans hn) (Or.inl ⟨n, rfl⟩) (Or.inr ⟨_, e5⟩) h5 hf hdE
          · cases hrt
        · split at hrt
          · next hrk =>
            have hrv : none = r := by cases hrt; rfl
            exact W.vret hx hb (hr.trans (x_rk0 (hrk ▸ g6))) (fun t ht hW => fin t none ht hrv) hf hdE
          · cases hrt
        · cases hrt
    · cases h
