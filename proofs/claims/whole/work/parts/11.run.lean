/-! a run of the mini machine is a run of the machine -/
def x_nestw : List Cond := [Cond.methodLinkNest "GooseVotes$World" (43 : Nat) ({ cls := "GooseVotes$Official", name := "<init>", desc := "()V" } : Jvm.MethodName) "GooseVotes",
  Cond.methodLinkNest "GooseVotes" (26 : Nat) ({ cls := "GooseVotes$Reader", name := "<init>", desc := "()V" } : Jvm.MethodName) "GooseVotes",
  Cond.methodLinkNest "GooseVotes" (33 : Nat) ({ cls := "GooseVotes$Treaty", name := "<init>", desc := "()V" } : Jvm.MethodName) "GooseVotes",
  Cond.methodLinkNest "GooseVotes" (44 : Nat) ({ cls := "GooseVotes$Ballot", name := "<init>", desc := "()V" } : Jvm.MethodName) "GooseVotes",
  Cond.methodLinkNest "GooseVotes" (51 : Nat) ({ cls := "GooseVotes$Acts", name := "<init>", desc := "()V" } : Jvm.MethodName) "GooseVotes",
  Cond.methodLinkNest "GooseVotes" (62 : Nat) ({ cls := "GooseVotes$Tape", name := "<init>", desc := "()V" } : Jvm.MethodName) "GooseVotes",
  Cond.fieldLinkNest "GooseVotes$Ballot" (101 : Nat) "GooseVotes" "FACTORIALS" "[I" "GooseVotes",
  Cond.methodLinkNest "GooseVotes$World" (69 : Nat) ({ cls := "GooseVotes", name := "isThing", desc := "(I)Z" } : Jvm.MethodName) "GooseVotes",
  Cond.methodLinkNest "GooseVotes$Acts" (44 : Nat) ({ cls := "GooseVotes", name := "isKind", desc := "(I)Z" } : Jvm.MethodName) "GooseVotes"]
def x_badl : List Cond := [Cond.arrayOver (Jvm.ClassFile.FieldType.object "GooseVotes$Official"),
  Cond.methodLinkNest "GooseVotes$World" (43 : Nat) ({ cls := "GooseVotes$Official", name := "<init>", desc := "()V" } : Jvm.MethodName) "GooseVotes",
  Cond.methodLinkNest "GooseVotes" (26 : Nat) ({ cls := "GooseVotes$Reader", name := "<init>", desc := "()V" } : Jvm.MethodName) "GooseVotes",
  Cond.methodLinkNest "GooseVotes" (33 : Nat) ({ cls := "GooseVotes$Treaty", name := "<init>", desc := "()V" } : Jvm.MethodName) "GooseVotes",
  Cond.arrayOver (Jvm.ClassFile.FieldType.object "GooseVotes$Treaty"),
  Cond.methodLinkNest "GooseVotes" (44 : Nat) ({ cls := "GooseVotes$Ballot", name := "<init>", desc := "()V" } : Jvm.MethodName) "GooseVotes",
  Cond.arrayOver (Jvm.ClassFile.FieldType.array Jvm.ClassFile.FieldType.int),
  Cond.methodLinkNest "GooseVotes" (51 : Nat) ({ cls := "GooseVotes$Acts", name := "<init>", desc := "()V" } : Jvm.MethodName) "GooseVotes",
  Cond.arrayOver (Jvm.ClassFile.FieldType.object "GooseVotes$Tape"),
  Cond.methodLinkNest "GooseVotes" (62 : Nat) ({ cls := "GooseVotes$Tape", name := "<init>", desc := "()V" } : Jvm.MethodName) "GooseVotes",
  Cond.stringRef "GooseVotes$Reader" (39 : Nat) "quota ",
  Cond.stringRef "GooseVotes$Reader" (48 : Nat) "loathe ",
  Cond.stringRef "GooseVotes$Reader" (50 : Nat) "like ",
  Cond.stringRef "GooseVotes$Reader" (76 : Nat) "pkvxgs",
  Cond.stringRef "GooseVotes$Reader" (84 : Nat) "<=>",
  Cond.fieldLinkNest "GooseVotes$Ballot" (101 : Nat) "GooseVotes" "FACTORIALS" "[I" "GooseVotes",
  Cond.methodLinkNest "GooseVotes$World" (69 : Nat) ({ cls := "GooseVotes", name := "isThing", desc := "(I)Z" } : Jvm.MethodName) "GooseVotes",
  Cond.methodLinkNest "GooseVotes$Acts" (44 : Nat) ({ cls := "GooseVotes", name := "isKind", desc := "(I)Z" } : Jvm.MethodName) "GooseVotes"]
theorem x_bad : lw_use.filter (fun w => !goodWord w) = x_badl := by decide +kernel
def lw_good : List Cond := lw_tbl.filter goodWord
def x_BW (U : State) : Prop := (∀ w ∈ x_nestw, va_Nw w U) ∧ va_AO RX2 U ∧ va_AO RX5 U ∧ va_AO RX6 U ∧ (Cond.arrayOver (.array .int)).before #[] U = true
theorem x_AOA_moved {u U : State} (hvm : u.vm.Alike U.vm) (h : (Cond.arrayOver (.array .int)).before #[] u = true) : (Cond.arrayOver (.array .int)).before #[] U = true := by
  simp only [Cond.before, Cond.holds, Cond.value, beq_iff_eq, Option.bind_eq_some_iff, Option.map_eq_some_iff] at h ⊢
  obtain ⟨comp, h1, c, h2, k, h3, h4⟩ := h
  obtain ⟨k', hk', he⟩ := hvm.2.2 _ _ h3
  refine ⟨comp, by rw [hvm.findClass]; exact h1, c, ?_, k', hk', ?_⟩
  · have b1 := va_idx_bare U.vm comp
    have b2 := va_idx_bare u.vm comp
    have e : U.vm.bare = u.vm.bare := by first | exact hvm.bare_eq | exact hvm.bare_eq.symm
    rw [e] at b1
    exact (b1.symm.trans b2).trans h2
  · rw [he]
    simp only [hvm.findClass]
    exact h4
theorem x_BW.to {s U : State} (hW : s.WarmedH U.vm) (h : x_BW s) : x_BW U := by
  refine ⟨?_, h.2.1.moved hW.alike, h.2.2.1.moved hW.alike, h.2.2.2.1.moved hW.alike, x_AOA_moved hW.alike h.2.2.2.2⟩
  have h1 := h.1
  simp only [x_nestw, List.forall_mem_cons] at h1 ⊢
  obtain ⟨a0, a1, a2, a3, a4, a5, a6, a7, a8, -⟩ := h1
  exact ⟨va_Nw.warmM hW a0, va_Nw.warmM hW a1, va_Nw.warmM hW a2, va_Nw.warmM hW a3, va_Nw.warmM hW a4, va_Nw.warmM hW a5, va_Nw.warmF hW a6, va_Nw.warmM hW a7, va_Nw.warmM hW a8, fun _ h => absurd h List.not_mem_nil⟩
theorem x_BW.same {s U : State} (hv : s.vm = U.vm) (h : x_BW s) : x_BW U := by
  have hal : s.vm.Alike U.vm := hv ▸ Vm.Alike.refl s.vm
  refine ⟨fun w hw => ?_, h.2.1.moved hal, h.2.2.1.moved hal, h.2.2.2.1.moved hal, x_AOA_moved hal h.2.2.2.2⟩
  have ho : ∀ w ∈ x_nestw, w.onTables = true := by decide +kernel
  exact va_Nw.same (ho w hw) hv (h.1 w hw)
theorem x_hts {args : Array Value} {s : State} {g : xG} {sc : List Int} {H : Heap} (h : ∀ w ∈ lw_good, w.before args s = true) (hB : x_BW s) (hF : x_SF g sc s H) : ∀ w ∈ lw_use, w.before args s = true := by
  intro w hw
  obtain ⟨h1, h2⟩ := List.mem_filter.mp hw
  by_cases hg : goodWord w = true
  · exact h w (List.mem_filter.mpr ⟨h1, hg⟩)
  · have hm : w ∈ x_badl := by
      rw [← x_bad]
      exact List.mem_filter.mpr ⟨hw, by simp [hg]⟩
    have hR := hF.2.2.2.2.2.2.2
    have key : ∀ w ∈ x_badl, w.before args s = true := by
      have n := hB.1
      simp only [x_nestw, List.forall_mem_cons] at n
      obtain ⟨a0, a1, a2, a3, a4, a5, a6, a7, a8, -⟩ := n
      simp only [x_badl, List.forall_mem_cons]
      refine ⟨hB.2.1, va_Nw.use rfl a0, va_Nw.use rfl a1, va_Nw.use rfl a2, hB.2.2.2.1, va_Nw.use rfl a3, hB.2.2.2.2, va_Nw.use rfl a4, hB.2.2.1, va_Nw.use rfl a5, (hR 2 (by omega)).1, (hR 1 (by omega)).1, (hR 0 (by omega)).1, (hR 3 (by omega)).1, (hR 4 (by omega)).1, va_Nw.use rfl a6, va_Nw.use rfl a7, va_Nw.use rfl a8, fun _ h => absurd h List.not_mem_nil⟩
    exact key w hm
theorem x_SF.to {g : xG} {sc : List Int} {s U : State} {H : Heap} {locs : List Loc} (hW : s.WarmedH U.vm) (hU : U.heap = H) (hS : va_S (x_A g) s.heap H locs) (h : x_SF g sc s s.heap) : x_SF g sc U U.heap := by
  rw [hU]
  have hq := hS.2.1
  refine ⟨(va_Z.moved hW.alike h.1).kept hq, (va_Z.moved hW.alike h.2.1).kept hq, (va_Z.moved hW.alike h.2.2.1).kept hq, (va_Z.moved hW.alike h.2.2.2.1).kept hq, (va_Z.moved hW.alike h.2.2.2.2.1).kept hq, fun k tag ct hk => ⟨(h.2.2.2.2.2.1 k tag ct hk).1, (va_T.moved hW.alike (h.2.2.2.2.2.1 k tag ct hk).2).kept hq⟩, (vk_S.moved hW.alike h.2.2.2.2.2.2.1).kept hq, fun i hi => vk_R.warm hW (h.2.2.2.2.2.2.2 i hi)⟩
theorem x_SF.same {g : xG} {sc : List Int} {s U : State} (hv : U.vm = s.vm) (hU : U.heap = s.heap) (h : x_SF g sc s s.heap) : x_SF g sc U U.heap := by
  have hal : s.vm.Alike U.vm := hv ▸ Vm.Alike.refl U.vm
  rw [hU]
  exact ⟨va_Z.moved hal h.1, va_Z.moved hal h.2.1, va_Z.moved hal h.2.2.1, va_Z.moved hal h.2.2.2.1, va_Z.moved hal h.2.2.2.2.1, fun k tag ct hk => ⟨(h.2.2.2.2.2.1 k tag ct hk).1, va_T.moved hal (h.2.2.2.2.2.1 k tag ct hk).2⟩, vk_S.moved hal h.2.2.2.2.2.2.1, fun i hi => vk_R.same hv (h.2.2.2.2.2.2.2 i hi)⟩
def x_Pc (g : xG) (sc : List Int) (as : List xPV) (m : xMem) : Array Value → State → Prop :=
  va_Pc (as.map (x_em g)) (fun U => x_E g m U.heap ∧ va_K g.2.2.2.1 vwCl (x_tys g) U ∧ x_SF g sc U U.heap ∧ x_BW U)
def x_Qc (g : xG) (r : Option xPV) (m' : xMem) : Array Value → State → Outcome → State → Prop := fun _ st oc t =>
  oc = .returned (r.map (x_em g)) ∧ x_E g m' t.heap ∧ va_F (x_A g) st t
theorem x_blind {g : xG} {sc : List Int} {as : List xPV} {m : xMem} : FrameBlind (x_Pc g sc as m) := fun a U fr mk q => by
  obtain ⟨h0, h1, h2, h3, h4⟩ := q
  exact ⟨h0, h1, va_K.moved (u := U) (U := U.calling fr mk a) (Vm.Alike.refl U.vm) h2, x_SF.same (s := U) (U := U.calling fr mk a) rfl rfl h3, x_BW.same (s := U) (U := U.calling fr mk a) rfl h4⟩
def x_rm (d dc ds : Nat) : Room := { frames := d, cells := dc, slots := ds, locals := 100 * d + 100 }
abbrev x_dc (m m' : xMem) : Nat := m'.1.length - m.1.length
abbrev x_ds (m m' : xMem) : Nat := x_sz m'.1 - x_sz m.1
def x_CallOK (sc : List Int) (d f : Nat) : Prop := ∀ (g : xG) (l : Launch) (μ : Nat) (as : List xPV) (m : xMem) (r : Option xPV) (m' : xMem) (M : xMt) (q : xInf), x_cal sc d f μ as m = some (r, m') → m'.1.length ≤ 1000 → g.2.2.1.category = 1 → (g.2.2.1 = .null ∨ ∃ a, g.2.2.1 = .ref a) → x_mts[μ]? = some M → x_inf[μ]? = some q →
  Met l q.1 (.code q.1 q.2.1 M.2.1 q.2.2.1 :: lw_good) (x_rm d (x_dc m m') (x_ds m m')) (x_Pc g sc as m) (x_Qc g r m') (x_dc m m') (x_ds m m') (x_A g)
def x_MultiOK : Prop := ∀ {p : Program} {l : Launch} {en : Env} {R : Room} {s : State} {mm : MethodId} {args : Array Value} {below : List Frame} {meth : Method} {c : Code} {Q : State → Prop} {g : xG} {sc : List Int} {own : String} {bts : ByteArray} {nL : Nat}, x_Cx g sc p s mm args c own bts nL → ∀ (i d len a b : Nat) (z : Int), x_StepN p l en R s mm args below meth c Q g sc own bts nL (.multianewarray i d, len, a, b, z)
theorem x_goodIn (y : MethodName) (b : ByteArray) (n : Nat) (rt : Option FieldType) {i : Nat} (h : lw_tbl[i]? = some (.code y b n rt)) : GoodIn lw_use (.code y b n rt :: lw_good) := by
  intro w hw
  rcases List.mem_cons.mp hw with rfl | hw
  · exact ⟨x_mu h rfl, Or.inl rfl⟩
  · obtain ⟨h1, h2⟩ := List.mem_filter.mp hw
    exact ⟨List.mem_filter.mpr ⟨h1, by unfold x_use; rw [h2]; rfl⟩, good_of_word h2⟩
theorem x_cal_some {sc : List Int} {d f μ : Nat} {as : List xPV} {m : xMem} {q : Option xPV × xMem} (h : x_cal sc d f μ as m = some q) : ∃ M, x_mts[μ]? = some M := by
  cases d with
  | zero => simp [x_cal] at h
  | succ d =>
    unfold x_cal at h
    split at h
    · next M hM => exact ⟨M, hM⟩
    · cases h
def x_isNew : Instr → Bool
  | .new _ | .newarray _ | .anewarray _ | .multianewarray _ _ => true
  | _ => false
set_option maxHeartbeats 4000000 in
theorem x_sm_same {sc : List Int} {nL : Nat} {e : xEnt} {pc pc' : Nat} {ls ls' : xLc} {st st' : List xPV} {m m' : xMem} (hn : x_isNew e.1 = false) (h : x_sm sc nL e pc ls st m = some (pc', ls', st', m')) : m'.1.length = m.1.length ∧ x_sz m'.1 = x_sz m.1 := by
  obtain ⟨ins, len, a, b, z⟩ := e
  cases ins <;> simp only [x_isNew] at hn <;> (try (cases hn; done)) <;> simp only [x_sm, x_math] at h <;> (repeat' split at h) <;> first
    | (cases h; done)
    | (simp only [Option.some.injEq, Prod.mk.injEq] at h; obtain ⟨-, -, -, rfl⟩ := h; first
        | exact ⟨rfl, rfl⟩
        | (refine ⟨by simp, ?_⟩; rw [x_sz_set (by assumption)]))
section RUN0
variable {p : Program} {l : Launch} {en : Env} {R : Room} {s : State} {mm : MethodId} {args : Array Value} {below : List Frame} {meth : Method} {c : Code} {Q : State → Prop} {g : xG} {sc : List Int} {own : String} {bts : ByteArray} {nL : Nat}
/-- as x_StepN, the places written may grow -/
def x_StepM (p : Program) (l : Launch) (en : Env) (R : Room) (s : State) (mm : MethodId) (args : Array Value) (below : List Frame) (meth : Method) (c : Code) (Q : State → Prop) (g : xG) (sc : List Int) (own : String) (bts : ByteArray) (nL : Nat) (e : xEnt) : Prop :=
  ∀ (w pc : Nat) (ls : xLc) (st : List xPV) (m : xMem) (pc' : Nat) (ls' : xLc) (st' : List xPV) (m' : xMem) (H : Heap) (locs : List Loc) (lsA : Array Slot) (cells slots : Nat), x_val own pc e w = true → decode bts pc = .ok (e.1, e.2.1) → x_sm sc nL e pc ls st m = some (pc', ls', st', m') →
    x_E g m H → va_S (x_A g) s.heap H locs → lv_has lsA nL (x_ml g ls) → cells + (m'.1.length - m.1.length) ≤ R.cells → slots + (x_sz m'.1 - x_sz m.1) ≤ R.slots → m'.1.length ≤ 1000 →
    (∀ (H' : Heap) (locs' : List Loc) (lsA' : Array Slot), x_E g m' H' → va_S (x_A g) s.heap H' locs' → lv_has lsA' nL (x_ml g ls') → W p l en R s mm args below meth c H' locs' (cells + (m'.1.length - m.1.length)) (slots + (x_sz m'.1 - x_sz m.1)) Q (F0 mm pc' lsA' (st'.map (x_em g)))) →
    W p l en R s mm args below meth c H locs cells slots Q (F0 mm pc lsA (st.map (x_em g)))
theorem x_SofN {e : xEnt} (h : x_StepN p l en R s mm args below meth c Q g sc own bts nL e) : x_StepM p l en R s mm args below meth c Q g sc own bts nL e :=
  fun w pc ls st m pc' ls' st' m' H locs lsA cells slots hv hd hst hE hS hl hc hs hb kk => h w pc ls st m pc' ls' st' m' H locs lsA cells slots hv hd hst hE hS hl hc hs hb (fun H' lsA' h1 h2 h3 => kk H' locs lsA' h1 h2 h3)
theorem x_SofS {e : xEnt} (hn : x_isNew e.1 = false) (h : x_Step p l en R s mm args below meth c Q g sc own bts nL e) : x_StepM p l en R s mm args below meth c Q g sc own bts nL e :=
  fun w pc ls st m pc' ls' st' m' H locs lsA cells slots hv hd hst hE hS hl hc hs hb kk => h w pc ls st m pc' ls' st' m' H locs lsA cells slots hv hd hst hE hS hl (fun H' locs' lsA' h1 h2 h3 => by
    obtain ⟨q1, q2⟩ := x_sm_same hn hst
    have h4 := kk H' locs' lsA' h1 h2 h3
    rw [q1, q2, Nat.sub_self, Nat.sub_self, Nat.add_zero, Nat.add_zero] at h4
    exact h4)
set_option maxHeartbeats 4000000 in
theorem x_stepAll (hMu : x_MultiOK) (C0 : x_Cx g sc p s mm args c own bts nL) (hfr : g.2.2.1 = .null ∨ ∃ a, g.2.2.1 = .ref a) (hB : x_BW s) (hR1 : 1 ≤ R.frames ∧ 100 ≤ R.locals) (e : xEnt)
    (hfin : ∀ i, e.1 = .putfield i → ∀ C T N, vwCl[e.2.2.1]? = some (C, T, N) → (T e.2.2.2.1).2.2.2 = true → meth.name = "<init>") : x_StepM p l en R s mm args below meth c Q g sc own bts nL e := by
  obtain ⟨ins, len, a, b, z⟩ := e
  cases ins
  case iconst n => exact x_SofS rfl (sx_iconst C0)
  case bipush n => exact x_SofS rfl (sx_bipush C0)
  case sipush n => exact x_SofS rfl (sx_sipush C0)
  case lconst n => exact x_SofS rfl (sx_lconst C0)
  case ldc_w i => exact x_SofS rfl (sx_ldc_w C0)
  case ldc2_w i => exact x_SofS rfl (sx_ldc2_w C0)
  case ldc i => exact x_SofS rfl (sx_ldc C0)
  case iload_n k => exact x_SofS rfl (sx_iload_n C0)
  case iload k => exact x_SofS rfl (sx_iload C0)
  case lload_n k => exact x_SofS rfl (sx_lload_n C0)
  case istore_n k => exact x_SofS rfl (sx_istore_n C0)
  case istore k => exact x_SofS rfl (sx_istore C0)
  case iinc k n => exact x_SofS rfl (sx_iinc C0)
  case iadd  => exact x_SofS rfl (sx_iadd C0)
  case isub  => exact x_SofS rfl (sx_isub C0)
  case imul  => exact x_SofS rfl (sx_imul C0)
  case iand  => exact x_SofS rfl (sx_iand C0)
  case ior  => exact x_SofS rfl (sx_ior C0)
  case ixor  => exact x_SofS rfl (sx_ixor C0)
  case ishl  => exact x_SofS rfl (sx_ishl C0)
  case ishr  => exact x_SofS rfl (sx_ishr C0)
  case iushr  => exact x_SofS rfl (sx_iushr C0)
  case idiv  => exact x_SofS rfl (sx_idiv C0)
  case irem  => exact x_SofS rfl (sx_irem C0)
  case ineg  => exact x_SofS rfl (sx_ineg C0)
  case i2b  => exact x_SofS rfl (sx_i2b C0)
  case i2s  => exact x_SofS rfl (sx_i2s C0)
  case i2c  => exact x_SofS rfl (sx_i2c C0)
  case l2i  => exact x_SofS rfl (sx_l2i C0)
  case i2l  => exact x_SofS rfl (sx_i2l C0)
  case lshl  => exact x_SofS rfl (sx_lshl C0)
  case land  => exact x_SofS rfl (sx_land C0)
  case lor  => exact x_SofS rfl (sx_lor C0)
  case lcmp  => exact x_SofS rfl (sx_lcmp C0)
  case dup  => exact x_SofS rfl (sx_dup C0)
  case dup2  => exact x_SofS rfl (sx_dup2 C0)
  case pop  => exact x_SofS rfl (sx_pop C0)
  case goto o => exact x_SofS rfl (sx_goto C0)
  case ifCond c o => exact x_SofS rfl (sx_ifCond C0)
  case if_icmp c o => exact x_SofS rfl (sx_if_icmp C0)
  case tableswitch d lo hi of => exact x_SofS rfl (sx_tableswitch C0)
  case lookupswitch d ps => exact x_SofS rfl (sx_lookupswitch C0)
  case getstatic i => exact x_SofS rfl (sx_getstatic C0)
  case getfield i => exact x_SofS rfl (sx_getfield C0)
  case iaload  => exact x_SofS rfl (sx_iaload C0)
  case baload  => exact x_SofS rfl (sx_baload C0)
  case laload  => exact x_SofS rfl (sx_laload C0)
  case aaload  => exact x_SofS rfl (sx_aaload C0)
  case arraylength  => exact x_SofS rfl (sx_arraylength C0)
  case iastore  => exact x_SofS rfl (sx_iastore C0)
  case bastore  => exact x_SofS rfl (sx_bastore C0)
  case lastore  => exact x_SofS rfl (sx_lastore C0)
  case aastore  => exact x_SofS rfl (sx_aastore C0)
  case aload_n k => exact x_SofS rfl (sx_aload_n C0 hfr)
  case aload k => exact x_SofS rfl (sx_aload C0 hfr)
  case astore_n k => exact x_SofS rfl (sx_astore_n C0 hfr)
  case astore k => exact x_SofS rfl (sx_astore C0 hfr)
  case putfield i => exact x_SofS rfl (sx_putfield (hfin i rfl) C0)
  case invokespecial i => exact x_SofS rfl (sx_invokespecial hR1 C0)
  case invokestatic i =>
    by_cases ha : a = 902 ∨ a = 903 ∨ a = 904
    · exact x_SofN (sx_math hR1 ha C0)
    · exact x_SofS rfl (sx_invokestatic hR1 ha C0)
  case new i => exact x_SofN (sx_new C0)
  case newarray i => exact x_SofN (sx_newarray C0)
  case anewarray i => exact x_SofN (sx_anewarray ⟨va_AO.use hB.2.1, va_AO.use hB.2.2.1, va_AO.use hB.2.2.2.1⟩ C0)
  case multianewarray i d => exact x_SofN (hMu C0 i d len a b z)
  all_goals (intro w pc ls st m pc' ls' st' m' H locs lsA cells slots hv hd hst; cases hst)
end RUN0
section RUN
variable {p : Program} {l : Launch} {en : Env} {R : Room} {s : State} {mm : MethodId} {args : Array Value} {below : List Frame} {meth : Method} {c : Code} {Q : State → Prop} {g : xG} {sc : List Int} {own : String} {bts : ByteArray} {nL : Nat}
theorem x_callA {H : Heap} {locs : List Loc} {cells slots mc ms pc : Nat} {ls : Array Slot} {st0 rest : List Value} {r : Option xPV} {m' : xMem} {av : Array Value} (hr : va_Run p l en R s mm args below meth c H locs cells slots mc ms (F0 mm pc ls st0) rest (x_Qc g r m' av) (x_A g)) (hS : va_S (x_A g) s.heap H locs)
    (kk : ∀ (H1 : Heap) (locs1 : List Loc), x_E g m' H1 → va_S (x_A g) s.heap H1 locs1 → W p l en R s mm args below meth c H1 locs1 (cells + mc) (slots + ms) Q (F0 mm (pc + 3) ls ((r.map (x_em g)).toList ++ rest))) : W p l en R s mm args below meth c H locs cells slots Q (F0 mm pc ls st0) := by
  intro T hT X
  obtain ⟨v, st₀, t, T', L, h0, X', hL, e1, e2, ⟨hv, hE, hz, hk⟩, st⟩ := hr T hT X
  have hv' : v = r.map (x_em g) := by cases hv; rfl
  subst hv'
  rw [h0] at hz hk
  obtain ⟨t2, a1, b1⟩ := kk T'.heap (locs ++ L) (by rw [e1]; exact hE)
    ⟨Nat.le_trans hS.1 (by rw [e1]; exact hz), fun q h1 h2 => by rw [e1, hk q (Nat.lt_of_lt_of_le h1 hS.1) h2]; exact hS.2.1 q h1 h2, fun q hq => by
      rcases List.mem_append.mp hq with h | h
      · exact hS.2.2 q h
      · exact hL q h⟩ T' rfl X'
  exact ⟨t2, st t2 a1, b1⟩
theorem x_PcAt {as : List xPV} {m : xMem} {U : State} {H : Heap} {locs : List Loc} {av : Array Value} (hav : av = (as.map (x_em g)).toArray) (hK : va_K g.2.2.2.1 vwCl (x_tys g) s) (hSF : x_SF g sc s s.heap) (hB : x_BW s) (hE : x_E g m H) (hS : va_S (x_A g) s.heap H locs) (hU : U.heap = H) (hW : s.WarmedH U.vm) : x_Pc g sc as m av U :=
  ⟨hav, by rw [hU]; exact hE, va_K.moved hW.alike hK, x_SF.to hW hU hS hSF, x_BW.to hW hB⟩
set_option maxHeartbeats 4000000 in
theorem x_runW (hMu : x_MultiOK) {M : xMt} {d f : Nat} (hC : x_CallOK sc d f) (C0 : x_Cx g sc p s mm args c own bts nL) (hfr : g.2.2.1 = .null ∨ ∃ a, g.2.2.1 = .ref a) (hB : x_BW s) (hok : x_ok own bts M.2.2) (hnL : M.2.1 = nL) (hR : d + 1 ≤ R.frames ∧ 100 * d + 200 ≤ R.locals)
    (heb : ∀ pc e, x_lk M.2.2 pc = some e → x_eb meth.name e = true) :
    ∀ (n pc : Nat) (ls : xLc) (st : List xPV) (m : xMem) (r : Option xPV) (m' : xMem) (H : Heap) (locs : List Loc) (lsA : Array Slot) (cells slots : Nat), x_run (x_cal sc d f) sc M n pc ls st m = some (r, m') → x_E g m H → va_S (x_A g) s.heap H locs → lv_has lsA nL (x_ml g ls) → cells + x_dc m m' ≤ R.cells → slots + x_ds m m' ≤ R.slots → m'.1.length ≤ 1000 →
      (∀ (pcE : Nat) (lsE : Array Slot) (H' : Heap) (locs' : List Loc) (insE : Instr) (stE : List xPV), x_E g m' H' → va_S (x_A g) s.heap H' locs' → decode bts pcE = .ok (insE, 1) → x_ret M.1 insE stE m' = some (r, m') → W p l en R s mm args below meth c H' locs' (cells + x_dc m m') (slots + x_ds m m') Q (F0 mm pcE lsE (stE.map (x_em g)))) →
      W p l en R s mm args below meth c H locs cells slots Q (F0 mm pc lsA (st.map (x_em g))) := by
  intro n
  induction n with
  | zero => intro pc ls st m r m' H locs lsA cells slots h; simp [x_run] at h
  | succ n ih =>
    intro pc ls st m r m' H locs lsA cells slots h hE hS hl hc hs hb2 K
    have hR1 : 1 ≤ R.frames ∧ 100 ≤ R.locals := ⟨by omega, by omega⟩
    obtain ⟨⟨hx, hb, hml, hown, hts⟩, hK, hSF, hfv, hz0⟩ := id C0
    unfold x_run at h
    split at h
    · cases h
    · next e he =>
      obtain ⟨hd, w, hv⟩ := hok pc e he
      split at h
      · next hret =>
        have e1 := x_ret_same h
        subst e1
        have h1 := K pc lsA H locs e.1 st hE hS (by
          rw [hd]
          obtain ⟨ins, len, a, b, z⟩ := e
          have : len = 1 := by
            cases ins <;> simp [x_isRet] at hret <;> simpa [x_val] using hv
          subst this; rfl) h
        simp only [x_dc, x_ds, Nat.sub_self, Nat.add_zero] at h1
        exact h1
      · split at h
        · next hinv =>
          split at h
          · next hcond =>
            obtain ⟨hcnt, hsum, hrecv⟩ := hcond
            split at h
            · next r1 m1 h1 =>
              have hm1 := x_cal_mono d f _ _ _ _ _ h1
              have hm2 := x_run_mono (fun μ as m r m' h => x_cal_mono d f μ as m r m' h) _ _ _ _ _ _ _ h
              obtain ⟨ins, len, a, b, z⟩ := e
              dsimp only at *
              obtain ⟨M1, hM1⟩ := x_cal_some h1
              obtain ⟨q, hq, hok1, hgb, -, g1⟩ := x_good hM1
              have hlen1 : m1.1.length ≤ 1000 := Nat.le_trans hm2.1 hb2
              have hMet := hC g l a _ m r1 m1 M1 q h1 hlen1 hfv hfr hM1 hq
              simp only [x_gb, Bool.and_eq_true, decide_eq_true_eq] at hgb
              obtain ⟨⟨⟨⟨⟨⟨g2, g3⟩, g4⟩, g5⟩, g6⟩, g7⟩, g8⟩ := hgb
              have hst : st.map (x_em g) = (((st.take (x_cnt ins b)).reverse).map (x_em g)).reverse ++ (st.drop (x_cnt ins b)).map (x_em g) := by
                rw [← List.map_reverse, List.reverse_reverse, ← List.map_append, List.take_append_drop]
              have hlA : ((st.take (x_cnt ins b)).reverse).length = x_cnt ins b := by simp; omega
              have hsum2 : 2 * (F0 mm pc lsA (st.map (x_em g))).monitorRoom + (((st.drop (x_cnt ins b)).map (x_em g)).map fun v => v.category).sum ≤ 8 := by
                rw [x_sum_em hfv]; show 2 * 0 + _ ≤ 8; omega
              have hroom : (x_rm d (x_dc m m1) (x_ds m m1)).frames + 1 ≤ R.frames ∧ 8 + (M1.2.1 + 11) + (x_rm d (x_dc m m1) (x_ds m m1)).locals ≤ R.locals := ⟨hR.1, by show 8 + (M1.2.1 + 11) + (100 * d + 100) ≤ _; omega⟩
              have hfit : cells + x_dc m m1 ≤ R.cells ∧ slots + x_ds m m1 ≤ R.slots := by
                have := hm1.1; have := hm1.2; have := hm2.1; have := hm2.2
                simp only [x_dc, x_ds] at hc hs ⊢
                omega
              have hgo : len = 3 → ∀ (H1 : Heap) (locs1 : List Loc), x_E g m1 H1 → va_S (x_A g) s.heap H1 locs1 → W p l en R s mm args below meth c H1 locs1 (cells + x_dc m m1) (slots + x_ds m m1) Q (F0 mm (pc + 3) lsA ((r1.map (x_em g)).toList ++ (st.drop (x_cnt ins b)).map (x_em g))) := by
                intro hlen H1 locs1 hE1 hS1
                subst hlen
                have e3 : ∀ q : xMem, x_le m1 q → (cells + x_dc m m1) + x_dc m1 q = cells + x_dc m q ∧ (slots + x_ds m m1) + x_ds m1 q = slots + x_ds m q := by
                  intro q hq
                  have := hm1.1; have := hm1.2; have := hq.1; have := hq.2
                  simp only [x_dc, x_ds]
                  omega
                obtain ⟨e4, e5⟩ := e3 m' hm2
                have h5 := ih (pc + 3) ls (r1.toList ++ st.drop (x_cnt ins b)) m1 r m' H1 locs1 lsA (cells + x_dc m m1) (slots + x_ds m m1) h hE1 hS1 hl (by rw [e4]; exact hc) (by rw [e5]; exact hs) hb2 (by rw [e4, e5]; exact K)
                have e6 : (r1.toList ++ st.drop (x_cnt ins b)).map (x_em g) = (r1.map (x_em g)).toList ++ (st.drop (x_cnt ins b)).map (x_em g) := by
                  rw [List.map_append]; cases r1 <;> rfl
                rw [e6] at h5
                exact h5
              have hb3 := heb pc _ he
              have hini : (Cond.initialized q.1.cls).before args s = true := hts _ (x_mu g2 rfl)
              have hG := x_goodIn _ _ _ _ g1
              have has0 : ∃ v0 As, x_cnt ins b = b + 1 → (st.take (x_cnt ins b)).reverse = v0 :: As ∧ As.length = b := by
                cases hq9 : (st.take (x_cnt ins b)).reverse with
                | nil => exact ⟨xi 0, [], fun h9 => by rw [hq9] at hlA; simp at hlA; omega⟩
                | cons v0 As => exact ⟨v0, As, fun h9 => ⟨rfl, by rw [hq9] at hlA; simp at hlA; omega⟩⟩
              obtain ⟨v0, As, has⟩ := has0
              cases ins
              case invokespecial i hnr =>
                simp only [x_isInv, decide_eq_true_eq] at hinv
                simp only [x_val, decide_eq_true_eq, Bool.and_eq_true, Bool.or_eq_true] at hv
                obtain ⟨rfl, hv⟩ := hv
                rcases hv with (hv | hv) | hv
                · omega
                · omega
                rw [hq] at hv
                simp only [x_eb, hq] at hb3
                obtain ⟨y, yb, yr, yst, p1, p2, p3, p4⟩ := q
                simp only [decide_eq_true_eq] at hv
                obtain ⟨-, hyn, hw, hdn⟩ := hv
                obtain ⟨has1, hAl⟩ := has rfl
                have hyst : yst = false := by simpa using hb3
                subst hyst
                simp only [Bool.false_eq_true, if_false, Bool.and_eq_true, decide_eq_true_eq] at g3
                have hin : (Cond.instanceMethod y).before args s = true := hts _ (x_mu g3.1 rfl)
                have hyr : yr = none := g8 hyn
                subst hyr
                rw [has1] at hrecv hMet hst
                rcases v0 with v0 | v0 | k
                · simp [x_recv] at hrecv
                · simp [x_recv] at hrecv
                have hk : k < 1000 := by simpa [x_recv] using hrecv
                have hst2 : st.map (x_em g) = (As.map (x_em g)).reverse ++ .ref (g.1 + k) :: (st.drop (x_cnt (.invokespecial i) b)).map (x_em g) := by
                  rw [hst, List.map_cons, show x_em g (Sum.inr (Sum.inr k)) = .ref (g.1 + k) from x_em_r hk]; simp
                have hp : PreS s H (x_Pc g sc (Sum.inr (Sum.inr k) :: As) m) (.ref (g.1 + k) :: As.map (x_em g)) := ⟨x_blind, fun U hU hW => x_PcAt (by rw [List.map_cons, show x_em g (Sum.inr (Sum.inr k)) = .ref (g.1 + k) from x_em_r hk]) hK hSF hB hE hS hU hW⟩
                rcases hw with hw | hw
                · exact x_callA (va_runI (As := As.map (x_em g)) ⟨hx, hb, hml, hown, hts⟩ hMet (cwI b hts hG rfl rfl rfl hini (hts _ (x_mu hw rfl)) hin hyn ⟨g5.1, g5.2, hdn⟩ hroom) hp rfl (by simpa using hAl) hl.1 hst2 hsum2 hd hfit) hS (hgo rfl)
                · exact x_callA (va_runIN (As := As.map (x_em g)) ⟨hx, hb, hml, hown, hts⟩ hMet ⟨va_cnB b hts hG rfl rfl rfl (va_Nw.of rfl (hts _ (x_mu hw rfl))) hini ⟨g5.1, g5.2, hdn⟩ hroom, hyn, hin⟩ hp rfl (by simpa using hAl) hl.1 hst2 hsum2 hd hfit) hS (hgo rfl)
              case invokestatic i hnr =>
                simp only [x_isInv, decide_eq_true_eq] at hinv
                simp only [x_val, decide_eq_true_eq, Bool.and_eq_true, Bool.or_eq_true] at hv
                obtain ⟨rfl, hv⟩ := hv
                rcases hv with ((((hv | hv) | hv) | hv) | hv) | hv
                · omega
                · omega
                · omega
                · omega
                · omega
                rw [hq] at hv
                simp only [x_eb, hq] at hb3
                obtain ⟨y, yb, yr, yst, p1, p2, p3, p4⟩ := q
                simp only [decide_eq_true_eq] at hv
                obtain ⟨hw, hdn⟩ := hv
                have hyst : yst = true := by simpa using hb3
                subst hyst
                simp only [if_true, decide_eq_true_eq] at g3
                have hstt : (Cond.static y).before args s = true := hts _ (x_mu g3 rfl)
                have hp : PreS s H (x_Pc g sc (st.take (x_cnt (.invokestatic i) b)).reverse m) ((st.take (x_cnt (.invokestatic i) b)).reverse.map (x_em g)) := ⟨x_blind, fun U hU hW => x_PcAt rfl hK hSF hB hE hS hU hW⟩
                rcases hw with hw | hw
                · exact x_callA (va_runS (As := (st.take (x_cnt (.invokestatic i) b)).reverse.map (x_em g)) ⟨hx, hb, hml, hown, hts⟩ hMet ⟨callB_of b hts hG rfl rfl rfl hini (hts _ (x_mu hw rfl)) ⟨g5.1, g5.2, hdn⟩ hroom, hstt⟩ hp rfl (by rw [List.length_map]; exact hlA) hl.1 hst hsum2 hd hfit) hS (hgo rfl)
                · exact x_callA (va_runSN (As := (st.take (x_cnt (.invokestatic i) b)).reverse.map (x_em g)) ⟨hx, hb, hml, hown, hts⟩ hMet ⟨va_cnB b hts hG rfl rfl rfl (va_Nw.of rfl (hts _ (x_mu hw rfl))) hini ⟨g5.1, g5.2, hdn⟩ hroom, hstt, trivial⟩ hp rfl (by rw [List.length_map]; exact hlA) hl.1 hst hsum2 hd hfit) hS (hgo rfl)
              case invokevirtual i hnr =>
                simp only [x_isInv, decide_eq_true_eq] at hinv
                simp only [x_val, decide_eq_true_eq, Bool.and_eq_true, Bool.or_eq_true] at hv
                obtain ⟨rfl, hv⟩ := hv
                rcases hv with hv | hv
                · omega
                rw [hq] at hv
                simp only [x_eb, hq] at hb3
                obtain ⟨y, yb, yr, yst, p1, p2, p3, p4⟩ := q
                simp only [decide_eq_true_eq] at hv
                obtain ⟨hw, hcls, hdn⟩ := hv
                obtain ⟨has1, hAl⟩ := has rfl
                simp only [Bool.and_eq_true, Bool.not_eq_true', decide_eq_true_eq] at hb3
                obtain ⟨rfl, hyn⟩ := hb3
                simp only [Bool.false_eq_true, if_false, Bool.and_eq_true, Bool.or_eq_true, decide_eq_true_eq] at g3
                have hin : (Cond.instanceMethod y).before args s = true := hts _ (x_mu g3.1 rfl)
                have hsel : (Cond.selects y.cls y y).before args s = true := by
                  rcases g3.2 with h9 | h9
                  · exact absurd h9 hyn
                  · exact hts _ (x_mu h9 rfl)
                rw [has1] at hrecv hMet hst
                rcases v0 with v0 | v0 | k
                · simp [x_recv] at hrecv
                · simp [x_recv] at hrecv
                have hcell : ∃ b0, x_em g (Sum.inr (Sum.inr k)) = .ref b0 ∧ ∃ cellB : Cell, H[b0]? = some cellB ∧ cellB.vm.isStatics = false ∧ s.vm.findClass y.cls = some cellB.cls := by
                  simp only [x_recv] at hrecv
                  split at hrecv
                  · next hk =>
                    split at hrecv
                    · next t nf rs hg =>
                      simp only [decide_eq_true_eq] at hrecv
                      obtain ⟨hz, ht⟩ := hrecv
                      rcases hcls with ⟨hc1, -⟩ | ⟨-, -, hc1⟩
                      · omega
                      · have hzt : z.toNat = t := by omega
                        rw [hzt] at hc1
                        cases hvc : vwCl[t]? with
                        | none => rw [hvc] at hc1; cases hc1
                        | some qc =>
                          rw [hvc] at hc1
                          have hcc : qc.1 = y.cls := Option.some.inj hc1
                          refine ⟨g.1 + k, x_em_r hk, ?_⟩
                          rw [← hcc]
                          exact va_recv hK (x_P1 (hE.2.1 k _ hg) (x_ce_obj (t := (t, nf, rs)) ht)) hvc (q0 := 0) rfl
                    · cases hrecv
                  · next hk =>
                    simp only [Bool.and_eq_true, decide_eq_true_eq] at hrecv
                    obtain ⟨hz, hstr⟩ := hrecv
                    have hs2 : 1010 ≤ k ∧ k < 1015 := by simpa [x_isStr] using hstr
                    rcases hcls with ⟨-, hc1⟩ | ⟨h8, h9, -⟩
                    · refine ⟨g.2.1 k, x_em_c (by omega) (by omega) (by omega), ?_⟩
                      rw [hc1]
                      have h7 := vk_recv hSF.2.2.2.2.2.2.1 (i := k - 1010) (by omega) hS
                      have e9 : 1010 + (k - 1010) = k := by omega
                      simp only [e9] at h7
                      exact h7
                    · omega
                obtain ⟨b0, hb0, hcell⟩ := hcell
                have hst2 : st.map (x_em g) = (As.map (x_em g)).reverse ++ .ref b0 :: (st.drop (x_cnt (.invokevirtual i) b)).map (x_em g) := by
                  rw [hst, List.map_cons, hb0]; simp
                have hp : PreV s H y.cls b0 (x_Pc g sc (Sum.inr (Sum.inr k) :: As) m) (As.map (x_em g)) := ⟨x_blind, hcell, fun U hU hW => x_PcAt (by rw [List.map_cons, hb0]) hK hSF hB hE hS hU hW⟩
                exact x_callA (va_runV (As := As.map (x_em g)) ⟨hx, hb, hml, hown, hts⟩ hMet ⟨callB_of b hts hG rfl rfl rfl hini (hts _ (x_mu hw rfl)) ⟨g5.1, g5.2, hdn⟩ hroom, hin, hsel⟩ hp rfl (by simpa using hAl) hl.1 hst2 hsum2 hd hfit) hS (hgo rfl)
              all_goals (simp [x_isInv] at hinv)
            · cases h
          · cases h
        · next hinv =>
          split at h
          · next pc1 ls1 st1 m1 h1 =>
            have hm1 := x_sm_mono h1
            have hm2 := x_run_mono (fun μ as m r m' h => x_cal_mono d f μ as m r m' h) _ _ _ _ _ _ _ h
            rw [hnL] at h1
            have e45 : (cells + x_dc m m1) + x_dc m1 m' = cells + x_dc m m' ∧ (slots + x_ds m m1) + x_ds m1 m' = slots + x_ds m m' := by
              have := hm1.1; have := hm1.2; have := hm2.1; have := hm2.2
              simp only [x_dc, x_ds]
              omega
            obtain ⟨e4, e5⟩ := e45
            have hN : x_StepM p l en R s mm args below meth c Q g sc own bts nL e := x_stepAll hMu C0 hfr hB hR1 e (by
              intro i hi C T N hc hf
              have h9 := heb pc e he
              obtain ⟨ins, len, a, b, z⟩ := e
              dsimp only at hi
              subst hi
              dsimp only at hc hf
              simp only [x_eb, hc, hf] at h9
              simpa using h9)
            refine hN w pc ls st m pc1 ls1 st1 m1 H locs lsA cells slots hv hd h1 hE hS hl (by simp only [x_dc] at hc ⊢ e4; omega) (by simp only [x_ds] at hs ⊢ e5; omega) (Nat.le_trans hm2.1 hb2) fun H' locs' lsA' hE' hS' hl' => ?_
            exact ih pc1 ls1 st1 m1 r m' H' locs' lsA' (cells + x_dc m m1) (slots + x_ds m m1) h hE' hS' hl' (by rw [e4]; exact hc) (by rw [e5]; exact hs) hb2 (by rw [e4, e5]; exact K)
          · cases h
end RUN
