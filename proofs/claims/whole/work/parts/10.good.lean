/-! each method of the tables is the claim's, with its words -/
def x_rkok : Nat → Option FieldType → Bool
  | 0, none => true
  | 1, some .int => true
  | 2, some .boolean => true
  | 3, some .char => true
  | 4, some .long => true
  | 5, some (.object _) => true
  | 6, some .byte => true
  | _, _ => false
def x_eb (nm : String) (e : xEnt) : Bool := match e with
  | (ins, _, a, b, _) => match ins with
    | .invokevirtual _ => (match x_inf[a]? with
      | some q => !q.2.2.2.1 && decide (q.1.name ≠ "<init>")
      | none => true)
    | .invokestatic _ => (match x_inf[a]? with
      | some q => q.2.2.2.1
      | none => true)
    | .invokespecial _ => (match x_inf[a]? with
      | some q => !q.2.2.2.1
      | none => true)
    | .putfield _ => (match vwCl[a]? with
      | some (_, T, _) => !(T b).2.2.2 || decide (nm = "<init>")
      | none => true)
    | _ => true
def x_gb (M : xMt) (q : xInf) : Bool :=
  decide (lw_tbl[q.2.2.2.2.2.2.1]? = some (.initialized q.1.cls)) &&
  (if q.2.2.2.1 = true then decide (lw_tbl[q.2.2.2.2.2.1]? = some (.static q.1)) else (decide (lw_tbl[q.2.2.2.2.2.1]? = some (.instanceMethod q.1)) && (decide (q.1.name = "<init>") || decide (lw_tbl[q.2.2.2.2.2.2.2]? = some (.selects q.1.cls q.1 q.1))))) &&
  decide (plainName q.1.cls = true) && decide (q.1.cls ≠ "java/lang/invoke/MethodHandle" ∧ q.1.cls ≠ "java/lang/invoke/VarHandle") && x_rkok M.1 q.2.2.1 && decide (M.2.1 ≤ 60) && decide (q.1.name = "<init>" → q.2.2.1 = none)
def x_ebs (nm : String) (T : List (Nat × xEnt)) : Prop := ∀ pc e, x_lk T pc = some e → x_eb nm e = true
theorem x_lk_mem {T : List (Nat × xEnt)} {pc : Nat} {e : xEnt} (h : x_lk T pc = some e) : (pc, e) ∈ T := by
  induction T with
  | nil => simp [x_lk] at h
  | cons q T ih =>
    unfold x_lk at h
    split at h
    · next hq => cases h; subst hq; exact List.mem_cons_self
    · exact List.mem_cons_of_mem _ (ih h)
theorem x_ebs_of {nm : String} {T : List (Nat × xEnt)} (h : T.all (fun e => x_eb nm e.2) = true) : x_ebs nm T := fun pc e he => List.all_eq_true.mp h (pc, e) (x_lk_mem he)
theorem x_ebs_app {nm : String} {T T' : List (Nat × xEnt)} (h : x_ebs nm T) (h' : x_ebs nm T') : x_ebs nm (T ++ T') := fun pc e he => (x_lk_app he).elim (h pc e) (h' pc e)
def x_all2 : List xMt → List xInf → Prop
  | [], _ => True
  | M :: Ms, q :: qs => (x_ok q.1.cls q.2.1 M.2.2 ∧ x_gb M q = true ∧ x_ebs q.1.name M.2.2 ∧ lw_tbl[q.2.2.2.2.1]? = some (.code q.1 q.2.1 M.2.1 q.2.2.1)) ∧ x_all2 Ms qs
  | _ :: _, [] => False
theorem x_all2_app : ∀ {a b : List xMt} {a' b' : List xInf}, a.length = a'.length → x_all2 a a' → x_all2 b b' → x_all2 (a ++ b) (a' ++ b')
  | [], _, [], _, _, _, h => h
  | _ :: a, _, _ :: a', _, hl, h, h' => ⟨h.1, x_all2_app (Nat.succ.inj hl) h.2 h'⟩
  | [], _, _ :: _, _, hl, _, _ => by simp at hl
  | _ :: _, _, [], _, hl, _, _ => by simp at hl
theorem x_all2_get : ∀ {a : List xMt} {a' : List xInf} {μ : Nat} {M : xMt}, x_all2 a a' → a[μ]? = some M → ∃ q, a'[μ]? = some q ∧ x_ok q.1.cls q.2.1 M.2.2 ∧ x_gb M q = true ∧ x_ebs q.1.name M.2.2 ∧ lw_tbl[q.2.2.2.2.1]? = some (.code q.1 q.2.1 M.2.1 q.2.2.1)
  | _ :: a, q :: a', 0, M, h, hm => by cases hm; exact ⟨q, rfl, h.1⟩
  | _ :: a, q :: a', μ + 1, M, h, hm => x_all2_get (a := a) (a' := a') h.2 hm
  | _ :: _, [], _, _, h, _ => h.elim
  | [], _, _, _, _, hm => by simp at hm
set_option maxRecDepth 200000 in
theorem xc_Rw_new : lw_tbl[(x_inf_0[0]).2.2.2.2.1]? = some (.code (x_inf_0[0]).1 (x_inf_0[0]).2.1 xM_Rw_new.2.1 (x_inf_0[0]).2.2.1) := rfl
theorem xg_Rw_new : x_gb xM_Rw_new (x_inf_0[0]) = true := by decide +kernel
set_option maxRecDepth 200000 in
theorem xc_O_new : lw_tbl[(x_inf_0[1]).2.2.2.2.1]? = some (.code (x_inf_0[1]).1 (x_inf_0[1]).2.1 xM_O_new.2.1 (x_inf_0[1]).2.2.1) := rfl
theorem xg_O_new : x_gb xM_O_new (x_inf_0[1]) = true := by decide +kernel
set_option maxRecDepth 200000 in
theorem xc_W_new : lw_tbl[(x_inf_0[2]).2.2.2.2.1]? = some (.code (x_inf_0[2]).1 (x_inf_0[2]).2.1 xM_W_new.2.1 (x_inf_0[2]).2.2.1) := rfl
theorem xg_W_new : x_gb xM_W_new (x_inf_0[2]) = true := by decide +kernel
set_option maxRecDepth 200000 in
theorem xc_R_new : lw_tbl[(x_inf_0[3]).2.2.2.2.1]? = some (.code (x_inf_0[3]).1 (x_inf_0[3]).2.1 xM_R_new.2.1 (x_inf_0[3]).2.2.1) := rfl
theorem xg_R_new : x_gb xM_R_new (x_inf_0[3]) = true := by decide +kernel
set_option maxRecDepth 200000 in
theorem xc_Tr_new : lw_tbl[(x_inf_0[4]).2.2.2.2.1]? = some (.code (x_inf_0[4]).1 (x_inf_0[4]).2.1 xM_Tr_new.2.1 (x_inf_0[4]).2.2.1) := rfl
theorem xg_Tr_new : x_gb xM_Tr_new (x_inf_0[4]) = true := by decide +kernel
set_option maxRecDepth 200000 in
theorem xc_B_new : lw_tbl[(x_inf_0[5]).2.2.2.2.1]? = some (.code (x_inf_0[5]).1 (x_inf_0[5]).2.1 xM_B_new.2.1 (x_inf_0[5]).2.2.1) := rfl
theorem xg_B_new : x_gb xM_B_new (x_inf_0[5]) = true := by decide +kernel
set_option maxRecDepth 200000 in
theorem xc_A_new : lw_tbl[(x_inf_0[6]).2.2.2.2.1]? = some (.code (x_inf_0[6]).1 (x_inf_0[6]).2.1 xM_A_new.2.1 (x_inf_0[6]).2.2.1) := rfl
theorem xg_A_new : x_gb xM_A_new (x_inf_0[6]) = true := by decide +kernel
set_option maxRecDepth 200000 in
theorem xc_Tp_new : lw_tbl[(x_inf_0[7]).2.2.2.2.1]? = some (.code (x_inf_0[7]).1 (x_inf_0[7]).2.1 xM_Tp_new.2.1 (x_inf_0[7]).2.2.1) := rfl
theorem xg_Tp_new : x_gb xM_Tp_new (x_inf_0[7]) = true := by decide +kernel
set_option maxRecDepth 200000 in
theorem xc_G_new : lw_tbl[(x_inf_0[8]).2.2.2.2.1]? = some (.code (x_inf_0[8]).1 (x_inf_0[8]).2.1 xM_G_new.2.1 (x_inf_0[8]).2.2.1) := rfl
theorem xg_G_new : x_gb xM_G_new (x_inf_0[8]) = true := by decide +kernel
set_option maxRecDepth 200000 in
theorem xc_m_new : lw_tbl[(x_inf_0[9]).2.2.2.2.1]? = some (.code (x_inf_0[9]).1 (x_inf_0[9]).2.1 xM_m_new.2.1 (x_inf_0[9]).2.2.1) := rfl
theorem xg_m_new : x_gb xM_m_new (x_inf_0[9]) = true := by decide +kernel
set_option maxRecDepth 200000 in
theorem xc_G_isKind : lw_tbl[(x_inf_0[10]).2.2.2.2.1]? = some (.code (x_inf_0[10]).1 (x_inf_0[10]).2.1 xM_G_isKind.2.1 (x_inf_0[10]).2.2.1) := rfl
theorem xg_G_isKind : x_gb xM_G_isKind (x_inf_0[10]) = true := by decide +kernel
set_option maxRecDepth 200000 in
theorem xc_G_isDigit : lw_tbl[(x_inf_0[11]).2.2.2.2.1]? = some (.code (x_inf_0[11]).1 (x_inf_0[11]).2.1 xM_G_isDigit.2.1 (x_inf_0[11]).2.2.1) := rfl
theorem xg_G_isDigit : x_gb xM_G_isDigit (x_inf_0[11]) = true := by decide +kernel
set_option maxRecDepth 200000 in
theorem xc_O_start : lw_tbl[(x_inf_0[12]).2.2.2.2.1]? = some (.code (x_inf_0[12]).1 (x_inf_0[12]).2.1 xM_O_start.2.1 (x_inf_0[12]).2.2.1) := rfl
theorem xg_O_start : x_gb xM_O_start (x_inf_0[12]) = true := by decide +kernel
set_option maxRecDepth 200000 in
theorem xc_G_official : lw_tbl[(x_inf_0[13]).2.2.2.2.1]? = some (.code (x_inf_0[13]).1 (x_inf_0[13]).2.1 xM_G_official.2.1 (x_inf_0[13]).2.2.1) := rfl
theorem xg_G_official : x_gb xM_G_official (x_inf_0[13]) = true := by decide +kernel
set_option maxRecDepth 200000 in
theorem xc_m_in : lw_tbl[(x_inf_0[14]).2.2.2.2.1]? = some (.code (x_inf_0[14]).1 (x_inf_0[14]).2.1 xM_m_in.2.1 (x_inf_0[14]).2.2.1) := rfl
theorem xg_m_in : x_gb xM_m_in (x_inf_0[14]) = true := by decide +kernel
set_option maxRecDepth 200000 in
theorem xc_m_isDigitNumber : lw_tbl[(x_inf_0[15]).2.2.2.2.1]? = some (.code (x_inf_0[15]).1 (x_inf_0[15]).2.1 xM_m_isDigitNumber.2.1 (x_inf_0[15]).2.2.1) := rfl
theorem xg_m_isDigitNumber : x_gb xM_m_isDigitNumber (x_inf_0[15]) = true := by decide +kernel
set_option maxRecDepth 200000 in
theorem xc_m_official : lw_tbl[(x_inf_1[0]).2.2.2.2.1]? = some (.code (x_inf_1[0]).1 (x_inf_1[0]).2.1 xM_m_official.2.1 (x_inf_1[0]).2.2.1) := rfl
theorem xg_m_official : x_gb xM_m_official (x_inf_1[0]) = true := by decide +kernel
set_option maxRecDepth 200000 in
theorem xc_G_isOfficial : lw_tbl[(x_inf_1[1]).2.2.2.2.1]? = some (.code (x_inf_1[1]).1 (x_inf_1[1]).2.1 xM_G_isOfficial.2.1 (x_inf_1[1]).2.2.1) := rfl
theorem xg_G_isOfficial : x_gb xM_G_isOfficial (x_inf_1[1]) = true := by decide +kernel
set_option maxRecDepth 200000 in
theorem xc_G_isThing : lw_tbl[(x_inf_1[2]).2.2.2.2.1]? = some (.code (x_inf_1[2]).1 (x_inf_1[2]).2.1 xM_G_isThing.2.1 (x_inf_1[2]).2.2.1) := rfl
theorem xg_G_isThing : x_gb xM_G_isThing (x_inf_1[2]) = true := by decide +kernel
set_option maxRecDepth 200000 in
theorem xc_G_treatyOf : lw_tbl[(x_inf_1[3]).2.2.2.2.1]? = some (.code (x_inf_1[3]).1 (x_inf_1[3]).2.1 xM_G_treatyOf.2.1 (x_inf_1[3]).2.2.1) := rfl
theorem xg_G_treatyOf : x_gb xM_G_treatyOf (x_inf_1[3]) = true := by decide +kernel
set_option maxRecDepth 200000 in
theorem xc_Tr_passes : lw_tbl[(x_inf_1[4]).2.2.2.2.1]? = some (.code (x_inf_1[4]).1 (x_inf_1[4]).2.1 xM_Tr_passes.2.1 (x_inf_1[4]).2.2.1) := rfl
theorem xg_Tr_passes : x_gb xM_Tr_passes (x_inf_1[4]) = true := by decide +kernel
set_option maxRecDepth 200000 in
theorem xc_Tr_isTrue : lw_tbl[(x_inf_1[5]).2.2.2.2.1]? = some (.code (x_inf_1[5]).1 (x_inf_1[5]).2.1 xM_Tr_isTrue.2.1 (x_inf_1[5]).2.2.1) := rfl
theorem xg_Tr_isTrue : x_gb xM_Tr_isTrue (x_inf_1[5]) = true := by decide +kernel
set_option maxRecDepth 200000 in
theorem xc_Tr_swing : lw_tbl[(x_inf_1[6]).2.2.2.2.1]? = some (.code (x_inf_1[6]).1 (x_inf_1[6]).2.1 xM_Tr_swing.2.1 (x_inf_1[6]).2.2.1) := rfl
theorem xg_Tr_swing : x_gb xM_Tr_swing (x_inf_1[6]) = true := by decide +kernel
set_option maxRecDepth 200000 in
theorem xc_O_vIfEven : lw_tbl[(x_inf_1[7]).2.2.2.2.1]? = some (.code (x_inf_1[7]).1 (x_inf_1[7]).2.1 xM_O_vIfEven.2.1 (x_inf_1[7]).2.2.1) := rfl
theorem xg_O_vIfEven : x_gb xM_O_vIfEven (x_inf_1[7]) = true := by decide +kernel
set_option maxRecDepth 200000 in
theorem xc_O_likesBySum : lw_tbl[(x_inf_1[8]).2.2.2.2.1]? = some (.code (x_inf_1[8]).1 (x_inf_1[8]).2.1 xM_O_likesBySum.2.1 (x_inf_1[8]).2.2.1) := rfl
theorem xg_O_likesBySum : x_gb xM_O_likesBySum (x_inf_1[8]) = true := by decide +kernel
set_option maxRecDepth 200000 in
theorem xc_B_votesFor : lw_tbl[(x_inf_1[9]).2.2.2.2.1]? = some (.code (x_inf_1[9]).1 (x_inf_1[9]).2.1 xM_B_votesFor.2.1 (x_inf_1[9]).2.2.1) := rfl
theorem xg_B_votesFor : x_gb xM_B_votesFor (x_inf_1[9]) = true := by decide +kernel
set_option maxRecDepth 200000 in
theorem xc_B_leads : lw_tbl[(x_inf_1[10]).2.2.2.2.1]? = some (.code (x_inf_1[10]).1 (x_inf_1[10]).2.1 xM_B_leads.2.1 (x_inf_1[10]).2.2.1) := rfl
theorem xg_B_leads : x_gb xM_B_leads (x_inf_1[10]) = true := by decide +kernel
set_option maxRecDepth 200000 in
theorem xc_B_weighThings : lw_tbl[(x_inf_1[11]).2.2.2.2.1]? = some (.code (x_inf_1[11]).1 (x_inf_1[11]).2.1 xM_B_weighThings.2.1 (x_inf_1[11]).2.2.1) := rfl
theorem xg_B_weighThings : x_gb xM_B_weighThings (x_inf_1[11]) = true := by decide +kernel
set_option maxRecDepth 200000 in
theorem xc_B_weigh : lw_tbl[(x_inf_1[12]).2.2.2.2.1]? = some (.code (x_inf_1[12]).1 (x_inf_1[12]).2.1 xM_B_weigh.2.1 (x_inf_1[12]).2.2.1) := rfl
theorem xg_B_weigh : x_gb xM_B_weigh (x_inf_1[12]) = true := by decide +kernel
set_option maxRecDepth 200000 in
theorem xc_G_ballotOf : lw_tbl[(x_inf_1[13]).2.2.2.2.1]? = some (.code (x_inf_1[13]).1 (x_inf_1[13]).2.1 xM_G_ballotOf.2.1 (x_inf_1[13]).2.2.1) := rfl
theorem xg_G_ballotOf : x_gb xM_G_ballotOf (x_inf_1[13]) = true := by decide +kernel
set_option maxRecDepth 200000 in
theorem xc_G_of : lw_tbl[(x_inf_1[14]).2.2.2.2.1]? = some (.code (x_inf_1[14]).1 (x_inf_1[14]).2.1 xM_G_of.2.1 (x_inf_1[14]).2.2.1) := rfl
theorem xg_G_of : x_gb xM_G_of (x_inf_1[14]) = true := by decide +kernel
set_option maxRecDepth 200000 in
theorem xc_m_isOfficial : lw_tbl[(x_inf_1[15]).2.2.2.2.1]? = some (.code (x_inf_1[15]).1 (x_inf_1[15]).2.1 xM_m_isOfficial.2.1 (x_inf_1[15]).2.2.1) := rfl
theorem xg_m_isOfficial : x_gb xM_m_isOfficial (x_inf_1[15]) = true := by decide +kernel
set_option maxRecDepth 200000 in
theorem xc_m_begin : lw_tbl[(x_inf_2[0]).2.2.2.2.1]? = some (.code (x_inf_2[0]).1 (x_inf_2[0]).2.1 xM_m_begin.2.1 (x_inf_2[0]).2.2.1) := rfl
theorem xg_m_begin : x_gb xM_m_begin (x_inf_2[0]) = true := by decide +kernel
set_option maxRecDepth 200000 in
theorem xc_m_behind : lw_tbl[(x_inf_2[1]).2.2.2.2.1]? = some (.code (x_inf_2[1]).1 (x_inf_2[1]).2.1 xM_m_behind.2.1 (x_inf_2[1]).2.2.1) := rfl
theorem xg_m_behind : x_gb xM_m_behind (x_inf_2[1]) = true := by decide +kernel
set_option maxRecDepth 200000 in
theorem xc_m_factOf : lw_tbl[(x_inf_2[2]).2.2.2.2.1]? = some (.code (x_inf_2[2]).1 (x_inf_2[2]).2.1 xM_m_factOf.2.1 (x_inf_2[2]).2.2.1) := rfl
theorem xg_m_factOf : x_gb xM_m_factOf (x_inf_2[2]) = true := by decide +kernel
set_option maxRecDepth 200000 in
theorem xc_m_holds : lw_tbl[(x_inf_2[3]).2.2.2.2.1]? = some (.code (x_inf_2[3]).1 (x_inf_2[3]).2.1 xM_m_holds.2.1 (x_inf_2[3]).2.2.1) := rfl
theorem xg_m_holds : x_gb xM_m_holds (x_inf_2[3]) = true := by decide +kernel
set_option maxRecDepth 200000 in
theorem xc_m_sum : lw_tbl[(x_inf_2[4]).2.2.2.2.1]? = some (.code (x_inf_2[4]).1 (x_inf_2[4]).2.1 xM_m_sum.2.1 (x_inf_2[4]).2.2.1) := rfl
theorem xg_m_sum : x_gb xM_m_sum (x_inf_2[4]) = true := by decide +kernel
set_option maxRecDepth 200000 in
theorem xc_m_likes : lw_tbl[(x_inf_2[5]).2.2.2.2.1]? = some (.code (x_inf_2[5]).1 (x_inf_2[5]).2.1 xM_m_likes.2.1 (x_inf_2[5]).2.2.1) := rfl
theorem xg_m_likes : x_gb xM_m_likes (x_inf_2[5]) = true := by decide +kernel
set_option maxRecDepth 200000 in
theorem xc_m_has : lw_tbl[(x_inf_2[6]).2.2.2.2.1]? = some (.code (x_inf_2[6]).1 (x_inf_2[6]).2.1 xM_m_has.2.1 (x_inf_2[6]).2.2.1) := rfl
theorem xg_m_has : x_gb xM_m_has (x_inf_2[6]) = true := by decide +kernel
set_option maxRecDepth 200000 in
theorem xc_m_of : lw_tbl[(x_inf_2[7]).2.2.2.2.1]? = some (.code (x_inf_2[7]).1 (x_inf_2[7]).2.1 xM_m_of.2.1 (x_inf_2[7]).2.2.1) := rfl
theorem xg_m_of : x_gb xM_m_of (x_inf_2[7]) = true := by decide +kernel
set_option maxRecDepth 200000 in
theorem xc_G_base : lw_tbl[(x_inf_2[8]).2.2.2.2.1]? = some (.code (x_inf_2[8]).1 (x_inf_2[8]).2.1 xM_G_base.2.1 (x_inf_2[8]).2.2.1) := rfl
theorem xg_G_base : x_gb xM_G_base (x_inf_2[8]) = true := by decide +kernel
set_option maxRecDepth 200000 in
theorem xc_m_isThing : lw_tbl[(x_inf_2[9]).2.2.2.2.1]? = some (.code (x_inf_2[9]).1 (x_inf_2[9]).2.1 xM_m_isThing.2.1 (x_inf_2[9]).2.2.1) := rfl
theorem xg_m_isThing : x_gb xM_m_isThing (x_inf_2[9]) = true := by decide +kernel
set_option maxRecDepth 200000 in
theorem xc_m_base : lw_tbl[(x_inf_2[10]).2.2.2.2.1]? = some (.code (x_inf_2[10]).1 (x_inf_2[10]).2.1 xM_m_base.2.1 (x_inf_2[10]).2.2.1) := rfl
theorem xg_m_base : x_gb xM_m_base (x_inf_2[10]) = true := by decide +kernel
set_option maxRecDepth 200000 in
theorem xc_G_votes : lw_tbl[(x_inf_2[11]).2.2.2.2.1]? = some (.code (x_inf_2[11]).1 (x_inf_2[11]).2.1 xM_G_votes.2.1 (x_inf_2[11]).2.2.1) := rfl
theorem xg_G_votes : x_gb xM_G_votes (x_inf_2[11]) = true := by decide +kernel
set_option maxRecDepth 200000 in
theorem xc_m_votes : lw_tbl[(x_inf_2[12]).2.2.2.2.1]? = some (.code (x_inf_2[12]).1 (x_inf_2[12]).2.1 xM_m_votes.2.1 (x_inf_2[12]).2.2.1) := rfl
theorem xg_m_votes : x_gb xM_m_votes (x_inf_2[12]) = true := by decide +kernel
set_option maxRecDepth 200000 in
theorem xc_G_away : lw_tbl[(x_inf_2[13]).2.2.2.2.1]? = some (.code (x_inf_2[13]).1 (x_inf_2[13]).2.1 xM_G_away.2.1 (x_inf_2[13]).2.2.1) := rfl
theorem xg_G_away : x_gb xM_G_away (x_inf_2[13]) = true := by decide +kernel
set_option maxRecDepth 200000 in
theorem xc_m_goes : lw_tbl[(x_inf_2[14]).2.2.2.2.1]? = some (.code (x_inf_2[14]).1 (x_inf_2[14]).2.1 xM_m_goes.2.1 (x_inf_2[14]).2.2.1) := rfl
theorem xg_m_goes : x_gb xM_m_goes (x_inf_2[14]) = true := by decide +kernel
set_option maxRecDepth 200000 in
theorem xc_m_away : lw_tbl[(x_inf_2[15]).2.2.2.2.1]? = some (.code (x_inf_2[15]).1 (x_inf_2[15]).2.1 xM_m_away.2.1 (x_inf_2[15]).2.2.1) := rfl
theorem xg_m_away : x_gb xM_m_away (x_inf_2[15]) = true := by decide +kernel
set_option maxRecDepth 200000 in
theorem xc_W_putOnAgenda : lw_tbl[(x_inf_3[0]).2.2.2.2.1]? = some (.code (x_inf_3[0]).1 (x_inf_3[0]).2.1 xM_W_putOnAgenda.2.1 (x_inf_3[0]).2.2.1) := rfl
theorem xg_W_putOnAgenda : x_gb xM_W_putOnAgenda (x_inf_3[0]) = true := by decide +kernel
set_option maxRecDepth 200000 in
theorem xc_G_put : lw_tbl[(x_inf_3[1]).2.2.2.2.1]? = some (.code (x_inf_3[1]).1 (x_inf_3[1]).2.1 xM_G_put.2.1 (x_inf_3[1]).2.2.1) := rfl
theorem xg_G_put : x_gb xM_G_put (x_inf_3[1]) = true := by decide +kernel
set_option maxRecDepth 200000 in
theorem xc_m_put : lw_tbl[(x_inf_3[2]).2.2.2.2.1]? = some (.code (x_inf_3[2]).1 (x_inf_3[2]).2.1 xM_m_put.2.1 (x_inf_3[2]).2.2.1) := rfl
theorem xg_m_put : x_gb xM_m_put (x_inf_3[2]) = true := by decide +kernel
set_option maxRecDepth 200000 in
theorem xc_G_egg : lw_tbl[(x_inf_3[3]).2.2.2.2.1]? = some (.code (x_inf_3[3]).1 (x_inf_3[3]).2.1 xM_G_egg.2.1 (x_inf_3[3]).2.2.1) := rfl
theorem xg_G_egg : x_gb xM_G_egg (x_inf_3[3]) = true := by decide +kernel
set_option maxRecDepth 200000 in
theorem xc_m_egg : lw_tbl[(x_inf_3[4]).2.2.2.2.1]? = some (.code (x_inf_3[4]).1 (x_inf_3[4]).2.1 xM_m_egg.2.1 (x_inf_3[4]).2.2.1) := rfl
theorem xg_m_egg : x_gb xM_m_egg (x_inf_3[4]) = true := by decide +kernel
set_option maxRecDepth 200000 in
theorem xc_G_row : lw_tbl[(x_inf_3[5]).2.2.2.2.1]? = some (.code (x_inf_3[5]).1 (x_inf_3[5]).2.1 xM_G_row.2.1 (x_inf_3[5]).2.2.1) := rfl
theorem xg_G_row : x_gb xM_G_row (x_inf_3[5]) = true := by decide +kernel
set_option maxRecDepth 200000 in
theorem xc_m_row : lw_tbl[(x_inf_3[6]).2.2.2.2.1]? = some (.code (x_inf_3[6]).1 (x_inf_3[6]).2.1 xM_m_row.2.1 (x_inf_3[6]).2.2.1) := rfl
theorem xg_m_row : x_gb xM_m_row (x_inf_3[6]) = true := by decide +kernel
set_option maxRecDepth 200000 in
theorem xc_R_append : lw_tbl[(x_inf_3[7]).2.2.2.2.1]? = some (.code (x_inf_3[7]).1 (x_inf_3[7]).2.1 xM_R_append.2.1 (x_inf_3[7]).2.2.1) := rfl
theorem xg_R_append : x_gb xM_R_append (x_inf_3[7]) = true := by decide +kernel
set_option maxRecDepth 200000 in
theorem xc_G_feed : lw_tbl[(x_inf_3[8]).2.2.2.2.1]? = some (.code (x_inf_3[8]).1 (x_inf_3[8]).2.1 xM_G_feed.2.1 (x_inf_3[8]).2.2.1) := rfl
theorem xg_G_feed : x_gb xM_G_feed (x_inf_3[8]) = true := by decide +kernel
set_option maxRecDepth 200000 in
theorem xc_m_feed : lw_tbl[(x_inf_3[9]).2.2.2.2.1]? = some (.code (x_inf_3[9]).1 (x_inf_3[9]).2.1 xM_m_feed.2.1 (x_inf_3[9]).2.2.1) := rfl
theorem xg_m_feed : x_gb xM_m_feed (x_inf_3[9]) = true := by decide +kernel
set_option maxRecDepth 200000 in
theorem xc_Tr_clear : lw_tbl[(x_inf_3[10]).2.2.2.2.1]? = some (.code (x_inf_3[10]).1 (x_inf_3[10]).2.1 xM_Tr_clear.2.1 (x_inf_3[10]).2.2.1) := rfl
theorem xg_Tr_clear : x_gb xM_Tr_clear (x_inf_3[10]) = true := by decide +kernel
set_option maxRecDepth 200000 in
theorem xc_R_signAt : lw_tbl[(x_inf_3[11]).2.2.2.2.1]? = some (.code (x_inf_3[11]).1 (x_inf_3[11]).2.1 xM_R_signAt.2.1 (x_inf_3[11]).2.2.1) := rfl
theorem xg_R_signAt : x_gb xM_R_signAt (x_inf_3[11]) = true := by decide +kernel
set_option maxRecDepth 200000 in
theorem xc_S_coder : lw_tbl[(x_inf_3[12]).2.2.2.2.1]? = some (.code (x_inf_3[12]).1 (x_inf_3[12]).2.1 xM_S_coder.2.1 (x_inf_3[12]).2.2.1) := rfl
theorem xg_S_coder : x_gb xM_S_coder (x_inf_3[12]) = true := by decide +kernel
set_option maxRecDepth 200000 in
theorem xc_S_length : lw_tbl[(x_inf_3[13]).2.2.2.2.1]? = some (.code (x_inf_3[13]).1 (x_inf_3[13]).2.1 xM_S_length.2.1 (x_inf_3[13]).2.2.1) := rfl
theorem xg_S_length : x_gb xM_S_length (x_inf_3[13]) = true := by decide +kernel
set_option maxRecDepth 200000 in
theorem xc_S_isLatin1 : lw_tbl[(x_inf_3[14]).2.2.2.2.1]? = some (.code (x_inf_3[14]).1 (x_inf_3[14]).2.1 xM_S_isLatin1.2.1 (x_inf_3[14]).2.2.1) := rfl
theorem xg_S_isLatin1 : x_gb xM_S_isLatin1 (x_inf_3[14]) = true := by decide +kernel
set_option maxRecDepth 200000 in
theorem xc_Pc_checkIndex : lw_tbl[(x_inf_3[15]).2.2.2.2.1]? = some (.code (x_inf_3[15]).1 (x_inf_3[15]).2.1 xM_Pc_checkIndex.2.1 (x_inf_3[15]).2.2.1) := rfl
theorem xg_Pc_checkIndex : x_gb xM_Pc_checkIndex (x_inf_3[15]) = true := by decide +kernel
set_option maxRecDepth 200000 in
theorem xc_S_checkIndex : lw_tbl[(x_inf_4[0]).2.2.2.2.1]? = some (.code (x_inf_4[0]).1 (x_inf_4[0]).2.1 xM_S_checkIndex.2.1 (x_inf_4[0]).2.2.1) := rfl
theorem xg_S_checkIndex : x_gb xM_S_checkIndex (x_inf_4[0]) = true := by decide +kernel
set_option maxRecDepth 200000 in
theorem xc_L1_charAt : lw_tbl[(x_inf_4[1]).2.2.2.2.1]? = some (.code (x_inf_4[1]).1 (x_inf_4[1]).2.1 xM_L1_charAt.2.1 (x_inf_4[1]).2.2.1) := rfl
theorem xg_L1_charAt : x_gb xM_L1_charAt (x_inf_4[1]) = true := by decide +kernel
set_option maxRecDepth 200000 in
theorem xc_S_charAt : lw_tbl[(x_inf_4[2]).2.2.2.2.1]? = some (.code (x_inf_4[2]).1 (x_inf_4[2]).2.1 xM_S_charAt.2.1 (x_inf_4[2]).2.2.1) := rfl
theorem xg_S_charAt : x_gb xM_S_charAt (x_inf_4[2]) = true := by decide +kernel
set_option maxRecDepth 200000 in
theorem xc_R_skip : lw_tbl[(x_inf_4[3]).2.2.2.2.1]? = some (.code (x_inf_4[3]).1 (x_inf_4[3]).2.1 xM_R_skip.2.1 (x_inf_4[3]).2.2.1) := rfl
theorem xg_R_skip : x_gb xM_R_skip (x_inf_4[3]) = true := by decide +kernel
set_option maxRecDepth 200000 in
theorem xc_R_skipWord : lw_tbl[(x_inf_4[4]).2.2.2.2.1]? = some (.code (x_inf_4[4]).1 (x_inf_4[4]).2.1 xM_R_skipWord.2.1 (x_inf_4[4]).2.2.1) := rfl
theorem xg_R_skipWord : x_gb xM_R_skipWord (x_inf_4[4]) = true := by decide +kernel
set_option maxRecDepth 200000 in
theorem xc_R_readNumber : lw_tbl[(x_inf_4[5]).2.2.2.2.1]? = some (.code (x_inf_4[5]).1 (x_inf_4[5]).2.1 xM_R_readNumber.2.1 (x_inf_4[5]).2.2.1) := rfl
theorem xg_R_readNumber : x_gb xM_R_readNumber (x_inf_4[5]) = true := by decide +kernel
set_option maxRecDepth 200000 in
theorem xc_R_readQuota : lw_tbl[(x_inf_4[6]).2.2.2.2.1]? = some (.code (x_inf_4[6]).1 (x_inf_4[6]).2.1 xM_R_readQuota.2.1 (x_inf_4[6]).2.2.1) := rfl
theorem xg_R_readQuota : x_gb xM_R_readQuota (x_inf_4[6]) = true := by decide +kernel
set_option maxRecDepth 200000 in
theorem xc_L1_canEncode : lw_tbl[(x_inf_4[7]).2.2.2.2.1]? = some (.code (x_inf_4[7]).1 (x_inf_4[7]).2.1 xM_L1_canEncode.2.1 (x_inf_4[7]).2.2.1) := rfl
theorem xg_L1_canEncode : x_gb xM_L1_canEncode (x_inf_4[7]) = true := by decide +kernel
set_option maxRecDepth 200000 in
theorem xc_L1_indexOfChar : lw_tbl[(x_inf_4[8]).2.2.2.2.1]? = some (.code (x_inf_4[8]).1 (x_inf_4[8]).2.1 xM_L1_indexOfChar.2.1 (x_inf_4[8]).2.2.1) := rfl
theorem xg_L1_indexOfChar : x_gb xM_L1_indexOfChar (x_inf_4[8]) = true := by decide +kernel
set_option maxRecDepth 200000 in
theorem xc_L1_indexOf : lw_tbl[(x_inf_4[9]).2.2.2.2.1]? = some (.code (x_inf_4[9]).1 (x_inf_4[9]).2.1 xM_L1_indexOf.2.1 (x_inf_4[9]).2.2.1) := rfl
theorem xg_L1_indexOf : x_gb xM_L1_indexOf (x_inf_4[9]) = true := by decide +kernel
set_option maxRecDepth 200000 in
theorem xc_S_indexOf2 : lw_tbl[(x_inf_4[10]).2.2.2.2.1]? = some (.code (x_inf_4[10]).1 (x_inf_4[10]).2.1 xM_S_indexOf2.2.1 (x_inf_4[10]).2.2.1) := rfl
theorem xg_S_indexOf2 : x_gb xM_S_indexOf2 (x_inf_4[10]) = true := by decide +kernel
set_option maxRecDepth 200000 in
theorem xc_S_indexOf1 : lw_tbl[(x_inf_4[11]).2.2.2.2.1]? = some (.code (x_inf_4[11]).1 (x_inf_4[11]).2.1 xM_S_indexOf1.2.1 (x_inf_4[11]).2.2.1) := rfl
theorem xg_S_indexOf1 : x_gb xM_S_indexOf1 (x_inf_4[11]) = true := by decide +kernel
set_option maxRecDepth 200000 in
theorem xc_Tr_testCode : lw_tbl[(x_inf_4[12]).2.2.2.2.1]? = some (.code (x_inf_4[12]).1 (x_inf_4[12]).2.1 xM_Tr_testCode.2.1 (x_inf_4[12]).2.2.1) := rfl
theorem xg_Tr_testCode : x_gb xM_Tr_testCode (x_inf_4[12]) = true := by decide +kernel
set_option maxRecDepth 200000 in
theorem xc_Tr_addCode : lw_tbl[(x_inf_4[13]).2.2.2.2.1]? = some (.code (x_inf_4[13]).1 (x_inf_4[13]).2.1 xM_Tr_addCode.2.1 (x_inf_4[13]).2.2.1) := rfl
theorem xg_Tr_addCode : x_gb xM_Tr_addCode (x_inf_4[13]) = true := by decide +kernel
set_option maxRecDepth 200000 in
theorem xc_R_readTest : lw_tbl[(x_inf_4[14]).2.2.2.2.1]? = some (.code (x_inf_4[14]).1 (x_inf_4[14]).2.1 xM_R_readTest.2.1 (x_inf_4[14]).2.2.1) := rfl
theorem xg_R_readTest : x_gb xM_R_readTest (x_inf_4[14]) = true := by decide +kernel
set_option maxRecDepth 200000 in
theorem xc_R_readSingle : lw_tbl[(x_inf_4[15]).2.2.2.2.1]? = some (.code (x_inf_4[15]).1 (x_inf_4[15]).2.1 xM_R_readSingle.2.1 (x_inf_4[15]).2.2.1) := rfl
theorem xg_R_readSingle : x_gb xM_R_readSingle (x_inf_4[15]) = true := by decide +kernel
set_option maxRecDepth 200000 in
theorem xc_R_readEither : lw_tbl[(x_inf_5[0]).2.2.2.2.1]? = some (.code (x_inf_5[0]).1 (x_inf_5[0]).2.1 xM_R_readEither.2.1 (x_inf_5[0]).2.2.1) := rfl
theorem xg_R_readEither : x_gb xM_R_readEither (x_inf_5[0]) = true := by decide +kernel
set_option maxRecDepth 200000 in
theorem xc_Tr_endClause : lw_tbl[(x_inf_5[1]).2.2.2.2.1]? = some (.code (x_inf_5[1]).1 (x_inf_5[1]).2.1 xM_Tr_endClause.2.1 (x_inf_5[1]).2.2.1) := rfl
theorem xg_Tr_endClause : x_gb xM_Tr_endClause (x_inf_5[1]) = true := by decide +kernel
set_option maxRecDepth 200000 in
theorem xc_R_readClause : lw_tbl[(x_inf_5[2]).2.2.2.2.1]? = some (.code (x_inf_5[2]).1 (x_inf_5[2]).2.1 xM_R_readClause.2.1 (x_inf_5[2]).2.2.1) := rfl
theorem xg_R_readClause : x_gb xM_R_readClause (x_inf_5[2]) = true := by decide +kernel
set_option maxRecDepth 200000 in
theorem xc_R_readInto : lw_tbl[(x_inf_5[3]).2.2.2.2.1]? = some (.code (x_inf_5[3]).1 (x_inf_5[3]).2.1 xM_R_readInto.2.1 (x_inf_5[3]).2.2.1) := rfl
theorem xg_R_readInto : x_gb xM_R_readInto (x_inf_5[3]) = true := by decide +kernel
set_option maxRecDepth 200000 in
theorem xc_G_treaty : lw_tbl[(x_inf_5[4]).2.2.2.2.1]? = some (.code (x_inf_5[4]).1 (x_inf_5[4]).2.1 xM_G_treaty.2.1 (x_inf_5[4]).2.2.1) := rfl
theorem xg_G_treaty : x_gb xM_G_treaty (x_inf_5[4]) = true := by decide +kernel
set_option maxRecDepth 200000 in
theorem xc_m_next : lw_tbl[(x_inf_5[5]).2.2.2.2.1]? = some (.code (x_inf_5[5]).1 (x_inf_5[5]).2.1 xM_m_next.2.1 (x_inf_5[5]).2.2.1) := rfl
theorem xg_m_next : x_gb xM_m_next (x_inf_5[5]) = true := by decide +kernel
set_option maxRecDepth 200000 in
theorem xc_m_takes : lw_tbl[(x_inf_5[6]).2.2.2.2.1]? = some (.code (x_inf_5[6]).1 (x_inf_5[6]).2.1 xM_m_takes.2.1 (x_inf_5[6]).2.2.1) := rfl
theorem xg_m_takes : x_gb xM_m_takes (x_inf_5[6]) = true := by decide +kernel
set_option maxRecDepth 200000 in
theorem xc_m_takesWord : lw_tbl[(x_inf_5[7]).2.2.2.2.1]? = some (.code (x_inf_5[7]).1 (x_inf_5[7]).2.1 xM_m_takesWord.2.1 (x_inf_5[7]).2.2.1) := rfl
theorem xg_m_takesWord : x_gb xM_m_takesWord (x_inf_5[7]) = true := by decide +kernel
set_option maxRecDepth 200000 in
theorem xc_m_second : lw_tbl[(x_inf_5[8]).2.2.2.2.1]? = some (.code (x_inf_5[8]).1 (x_inf_5[8]).2.1 xM_m_second.2.1 (x_inf_5[8]).2.2.1) := rfl
theorem xg_m_second : x_gb xM_m_second (x_inf_5[8]) = true := by decide +kernel
set_option maxRecDepth 200000 in
theorem xc_m_takesHead : lw_tbl[(x_inf_5[9]).2.2.2.2.1]? = some (.code (x_inf_5[9]).1 (x_inf_5[9]).2.1 xM_m_takesHead.2.1 (x_inf_5[9]).2.2.1) := rfl
theorem xg_m_takesHead : x_gb xM_m_takesHead (x_inf_5[9]) = true := by decide +kernel
set_option maxRecDepth 200000 in
theorem xc_m_isDigit : lw_tbl[(x_inf_5[10]).2.2.2.2.1]? = some (.code (x_inf_5[10]).1 (x_inf_5[10]).2.1 xM_m_isDigit.2.1 (x_inf_5[10]).2.2.1) := rfl
theorem xg_m_isDigit : x_gb xM_m_isDigit (x_inf_5[10]) = true := by decide +kernel
set_option maxRecDepth 200000 in
theorem xc_m_takesNumber : lw_tbl[(x_inf_5[11]).2.2.2.2.1]? = some (.code (x_inf_5[11]).1 (x_inf_5[11]).2.1 xM_m_takesNumber.2.1 (x_inf_5[11]).2.2.1) := rfl
theorem xg_m_takesNumber : x_gb xM_m_takesNumber (x_inf_5[11]) = true := by decide +kernel
set_option maxRecDepth 200000 in
theorem xc_m_place : lw_tbl[(x_inf_5[12]).2.2.2.2.1]? = some (.code (x_inf_5[12]).1 (x_inf_5[12]).2.1 xM_m_place.2.1 (x_inf_5[12]).2.2.1) := rfl
theorem xg_m_place : x_gb xM_m_place (x_inf_5[12]) = true := by decide +kernel
set_option maxRecDepth 200000 in
theorem xc_m_emits : lw_tbl[(x_inf_5[13]).2.2.2.2.1]? = some (.code (x_inf_5[13]).1 (x_inf_5[13]).2.1 xM_m_emits.2.1 (x_inf_5[13]).2.2.1) := rfl
theorem xg_m_emits : x_gb xM_m_emits (x_inf_5[13]) = true := by decide +kernel
set_option maxRecDepth 200000 in
theorem xc_m_whole : lw_tbl[(x_inf_5[14]).2.2.2.2.1]? = some (.code (x_inf_5[14]).1 (x_inf_5[14]).2.1 xM_m_whole.2.1 (x_inf_5[14]).2.2.1) := rfl
theorem xg_m_whole : x_gb xM_m_whole (x_inf_5[14]) = true := by decide +kernel
set_option maxRecDepth 200000 in
theorem xc_m_takesTest : lw_tbl[(x_inf_5[15]).2.2.2.2.1]? = some (.code (x_inf_5[15]).1 (x_inf_5[15]).2.1 xM_m_takesTest.2.1 (x_inf_5[15]).2.2.1) := rfl
theorem xg_m_takesTest : x_gb xM_m_takesTest (x_inf_5[15]) = true := by decide +kernel
set_option maxRecDepth 200000 in
theorem xc_m_settle : lw_tbl[(x_inf_6[0]).2.2.2.2.1]? = some (.code (x_inf_6[0]).1 (x_inf_6[0]).2.1 xM_m_settle.2.1 (x_inf_6[0]).2.2.1) := rfl
theorem xg_m_settle : x_gb xM_m_settle (x_inf_6[0]) = true := by decide +kernel
set_option maxRecDepth 200000 in
theorem xc_m_takesE : lw_tbl[(x_inf_6[1]).2.2.2.2.1]? = some (.code (x_inf_6[1]).1 (x_inf_6[1]).2.1 xM_m_takesE.2.1 (x_inf_6[1]).2.2.1) := rfl
theorem xg_m_takesE : x_gb xM_m_takesE (x_inf_6[1]) = true := by decide +kernel
set_option maxRecDepth 200000 in
theorem xc_m_takesClause : lw_tbl[(x_inf_6[2]).2.2.2.2.1]? = some (.code (x_inf_6[2]).1 (x_inf_6[2]).2.1 xM_m_takesClause.2.1 (x_inf_6[2]).2.2.1) := rfl
theorem xg_m_takesClause : x_gb xM_m_takesClause (x_inf_6[2]) = true := by decide +kernel
set_option maxRecDepth 200000 in
theorem xc_m_goesText : lw_tbl[(x_inf_6[3]).2.2.2.2.1]? = some (.code (x_inf_6[3]).1 (x_inf_6[3]).2.1 xM_m_goesText.2.1 (x_inf_6[3]).2.2.1) := rfl
theorem xg_m_goesText : x_gb xM_m_goesText (x_inf_6[3]) = true := by decide +kernel
set_option maxRecDepth 200000 in
theorem xc_m_treaty : lw_tbl[(x_inf_6[4]).2.2.2.2.1]? = some (.code (x_inf_6[4]).1 (x_inf_6[4]).2.1 xM_m_treaty.2.1 (x_inf_6[4]).2.2.1) := rfl
theorem xg_m_treaty : x_gb xM_m_treaty (x_inf_6[4]) = true := by decide +kernel
set_option maxRecDepth 200000 in
theorem xc_B_beats : lw_tbl[(x_inf_6[5]).2.2.2.2.1]? = some (.code (x_inf_6[5]).1 (x_inf_6[5]).2.1 xM_B_beats.2.1 (x_inf_6[5]).2.2.1) := rfl
theorem xg_B_beats : x_gb xM_B_beats (x_inf_6[5]) = true := by decide +kernel
set_option maxRecDepth 200000 in
theorem xc_B_doneBy : lw_tbl[(x_inf_6[6]).2.2.2.2.1]? = some (.code (x_inf_6[6]).1 (x_inf_6[6]).2.1 xM_B_doneBy.2.1 (x_inf_6[6]).2.2.1) := rfl
theorem xg_B_doneBy : x_gb xM_B_doneBy (x_inf_6[6]) = true := by decide +kernel
set_option maxRecDepth 200000 in
theorem xc_G_doneByAgendaOf : lw_tbl[(x_inf_6[7]).2.2.2.2.1]? = some (.code (x_inf_6[7]).1 (x_inf_6[7]).2.1 xM_G_doneByAgendaOf.2.1 (x_inf_6[7]).2.2.1) := rfl
theorem xg_G_doneByAgendaOf : x_gb xM_G_doneByAgendaOf (x_inf_6[7]) = true := by decide +kernel
set_option maxRecDepth 200000 in
theorem xc_B_leadsAll : lw_tbl[(x_inf_6[8]).2.2.2.2.1]? = some (.code (x_inf_6[8]).1 (x_inf_6[8]).2.1 xM_B_leadsAll.2.1 (x_inf_6[8]).2.2.1) := rfl
theorem xg_B_leadsAll : x_gb xM_B_leadsAll (x_inf_6[8]) = true := by decide +kernel
set_option maxRecDepth 200000 in
theorem xc_B_winner : lw_tbl[(x_inf_6[9]).2.2.2.2.1]? = some (.code (x_inf_6[9]).1 (x_inf_6[9]).2.1 xM_B_winner.2.1 (x_inf_6[9]).2.2.1) := rfl
theorem xg_B_winner : x_gb xM_B_winner (x_inf_6[9]) = true := by decide +kernel
set_option maxRecDepth 200000 in
theorem xc_B_isRing : lw_tbl[(x_inf_6[10]).2.2.2.2.1]? = some (.code (x_inf_6[10]).1 (x_inf_6[10]).2.1 xM_B_isRing.2.1 (x_inf_6[10]).2.2.1) := rfl
theorem xg_B_isRing : x_gb xM_B_isRing (x_inf_6[10]) = true := by decide +kernel
set_option maxRecDepth 200000 in
theorem xc_B_rings : lw_tbl[(x_inf_6[11]).2.2.2.2.1]? = some (.code (x_inf_6[11]).1 (x_inf_6[11]).2.1 xM_B_rings.2.1 (x_inf_6[11]).2.2.1) := rfl
theorem xg_B_rings : x_gb xM_B_rings (x_inf_6[11]) = true := by decide +kernel
set_option maxRecDepth 200000 in
theorem xc_B_bitBehind : lw_tbl[(x_inf_6[12]).2.2.2.2.1]? = some (.code (x_inf_6[12]).1 (x_inf_6[12]).2.1 xM_B_bitBehind.2.1 (x_inf_6[12]).2.2.1) := rfl
theorem xg_B_bitBehind : x_gb xM_B_bitBehind (x_inf_6[12]) = true := by decide +kernel
set_option maxRecDepth 200000 in
theorem xc_B_layRow : lw_tbl[(x_inf_6[13]).2.2.2.2.1]? = some (.code (x_inf_6[13]).1 (x_inf_6[13]).2.1 xM_B_layRow.2.1 (x_inf_6[13]).2.2.1) := rfl
theorem xg_B_layRow : x_gb xM_B_layRow (x_inf_6[13]) = true := by decide +kernel
set_option maxRecDepth 200000 in
theorem xc_B_rowsFor : lw_tbl[(x_inf_6[14]).2.2.2.2.1]? = some (.code (x_inf_6[14]).1 (x_inf_6[14]).2.1 xM_B_rowsFor.2.1 (x_inf_6[14]).2.2.1) := rfl
theorem xg_B_rowsFor : x_gb xM_B_rowsFor (x_inf_6[14]) = true := by decide +kernel
set_option maxRecDepth 200000 in
theorem xc_B_neverDone : lw_tbl[(x_inf_6[15]).2.2.2.2.1]? = some (.code (x_inf_6[15]).1 (x_inf_6[15]).2.1 xM_B_neverDone.2.1 (x_inf_6[15]).2.2.1) := rfl
theorem xg_B_neverDone : x_gb xM_B_neverDone (x_inf_6[15]) = true := by decide +kernel
set_option maxRecDepth 200000 in
theorem xc_G_told : lw_tbl[(x_inf_7[0]).2.2.2.2.1]? = some (.code (x_inf_7[0]).1 (x_inf_7[0]).2.1 xM_G_told.2.1 (x_inf_7[0]).2.2.1) := rfl
theorem xg_G_told : x_gb xM_G_told (x_inf_7[0]) = true := by decide +kernel
set_option maxRecDepth 200000 in
theorem xc_m_quota : lw_tbl[(x_inf_7[1]).2.2.2.2.1]? = some (.code (x_inf_7[1]).1 (x_inf_7[1]).2.1 xM_m_quota.2.1 (x_inf_7[1]).2.2.1) := rfl
theorem xg_m_quota : x_gb xM_m_quota (x_inf_7[1]) = true := by decide +kernel
set_option maxRecDepth 200000 in
theorem xc_m_layLikes : lw_tbl[(x_inf_7[2]).2.2.2.2.1]? = some (.code (x_inf_7[2]).1 (x_inf_7[2]).2.1 xM_m_layLikes.2.1 (x_inf_7[2]).2.2.1) := rfl
theorem xg_m_layLikes : x_gb xM_m_layLikes (x_inf_7[2]) = true := by decide +kernel
set_option maxRecDepth 200000 in
theorem xc_m_votesFor : lw_tbl[(x_inf_7[3]).2.2.2.2.1]? = some (.code (x_inf_7[3]).1 (x_inf_7[3]).2.1 xM_m_votesFor.2.1 (x_inf_7[3]).2.2.1) := rfl
theorem xg_m_votesFor : x_gb xM_m_votesFor (x_inf_7[3]) = true := by decide +kernel
set_option maxRecDepth 200000 in
theorem xc_m_beats : lw_tbl[(x_inf_7[4]).2.2.2.2.1]? = some (.code (x_inf_7[4]).1 (x_inf_7[4]).2.1 xM_m_beats.2.1 (x_inf_7[4]).2.2.1) := rfl
theorem xg_m_beats : x_gb xM_m_beats (x_inf_7[4]) = true := by decide +kernel
set_option maxRecDepth 200000 in
theorem xc_m_layBeats : lw_tbl[(x_inf_7[5]).2.2.2.2.1]? = some (.code (x_inf_7[5]).1 (x_inf_7[5]).2.1 xM_m_layBeats.2.1 (x_inf_7[5]).2.2.1) := rfl
theorem xg_m_layBeats : x_gb xM_m_layBeats (x_inf_7[5]) = true := by decide +kernel
set_option maxRecDepth 200000 in
theorem xc_m_doneNow : lw_tbl[(x_inf_7[6]).2.2.2.2.1]? = some (.code (x_inf_7[6]).1 (x_inf_7[6]).2.1 xM_m_doneNow.2.1 (x_inf_7[6]).2.2.1) := rfl
theorem xg_m_doneNow : x_gb xM_m_doneNow (x_inf_7[6]) = true := by decide +kernel
set_option maxRecDepth 200000 in
theorem xc_m_beatsAll : lw_tbl[(x_inf_7[7]).2.2.2.2.1]? = some (.code (x_inf_7[7]).1 (x_inf_7[7]).2.1 xM_m_beatsAll.2.1 (x_inf_7[7]).2.2.1) := rfl
theorem xg_m_beatsAll : x_gb xM_m_beatsAll (x_inf_7[7]) = true := by decide +kernel
set_option maxRecDepth 200000 in
theorem xc_m_first : lw_tbl[(x_inf_7[8]).2.2.2.2.1]? = some (.code (x_inf_7[8]).1 (x_inf_7[8]).2.1 xM_m_first.2.1 (x_inf_7[8]).2.2.1) := rfl
theorem xg_m_first : x_gb xM_m_first (x_inf_7[8]) = true := by decide +kernel
set_option maxRecDepth 200000 in
theorem xc_m_goesRound : lw_tbl[(x_inf_7[9]).2.2.2.2.1]? = some (.code (x_inf_7[9]).1 (x_inf_7[9]).2.1 xM_m_goesRound.2.1 (x_inf_7[9]).2.2.1) := rfl
theorem xg_m_goesRound : x_gb xM_m_goesRound (x_inf_7[9]) = true := by decide +kernel
set_option maxRecDepth 200000 in
theorem xc_m_rings : lw_tbl[(x_inf_7[10]).2.2.2.2.1]? = some (.code (x_inf_7[10]).1 (x_inf_7[10]).2.1 xM_m_rings.2.1 (x_inf_7[10]).2.2.1) := rfl
theorem xg_m_rings : x_gb xM_m_rings (x_inf_7[10]) = true := by decide +kernel
set_option maxRecDepth 200000 in
theorem xc_m_layTurn : lw_tbl[(x_inf_7[11]).2.2.2.2.1]? = some (.code (x_inf_7[11]).1 (x_inf_7[11]).2.1 xM_m_layTurn.2.1 (x_inf_7[11]).2.2.1) := rfl
theorem xg_m_layTurn : x_gb xM_m_layTurn (x_inf_7[11]) = true := by decide +kernel
set_option maxRecDepth 200000 in
theorem xc_m_doneByTurn : lw_tbl[(x_inf_7[12]).2.2.2.2.1]? = some (.code (x_inf_7[12]).1 (x_inf_7[12]).2.1 xM_m_doneByTurn.2.1 (x_inf_7[12]).2.2.1) := rfl
theorem xg_m_doneByTurn : x_gb xM_m_doneByTurn (x_inf_7[12]) = true := by decide +kernel
set_option maxRecDepth 200000 in
theorem xc_m_rowsFor : lw_tbl[(x_inf_7[13]).2.2.2.2.1]? = some (.code (x_inf_7[13]).1 (x_inf_7[13]).2.1 xM_m_rowsFor.2.1 (x_inf_7[13]).2.2.1) := rfl
theorem xg_m_rowsFor : x_gb xM_m_rowsFor (x_inf_7[13]) = true := by decide +kernel
set_option maxRecDepth 200000 in
theorem xc_m_lastSet : lw_tbl[(x_inf_7[14]).2.2.2.2.1]? = some (.code (x_inf_7[14]).1 (x_inf_7[14]).2.1 xM_m_lastSet.2.1 (x_inf_7[14]).2.2.1) := rfl
theorem xg_m_lastSet : x_gb xM_m_lastSet (x_inf_7[14]) = true := by decide +kernel
set_option maxRecDepth 200000 in
theorem xc_m_told : lw_tbl[(x_inf_7[15]).2.2.2.2.1]? = some (.code (x_inf_7[15]).1 (x_inf_7[15]).2.1 xM_m_told.2.1 (x_inf_7[15]).2.2.1) := rfl
theorem xg_m_told : x_gb xM_m_told (x_inf_7[15]) = true := by decide +kernel
set_option maxRecDepth 200000 in
theorem xc_G_isZeroOrOne : lw_tbl[(x_inf_8[0]).2.2.2.2.1]? = some (.code (x_inf_8[0]).1 (x_inf_8[0]).2.1 xM_G_isZeroOrOne.2.1 (x_inf_8[0]).2.2.1) := rfl
theorem xg_G_isZeroOrOne : x_gb xM_G_isZeroOrOne (x_inf_8[0]) = true := by decide +kernel
set_option maxRecDepth 200000 in
theorem xc_G_against : lw_tbl[(x_inf_8[1]).2.2.2.2.1]? = some (.code (x_inf_8[1]).1 (x_inf_8[1]).2.1 xM_G_against.2.1 (x_inf_8[1]).2.2.1) := rfl
theorem xg_G_against : x_gb xM_G_against (x_inf_8[1]) = true := by decide +kernel
set_option maxRecDepth 200000 in
theorem xc_m_against : lw_tbl[(x_inf_8[2]).2.2.2.2.1]? = some (.code (x_inf_8[2]).1 (x_inf_8[2]).2.1 xM_m_against.2.1 (x_inf_8[2]).2.2.1) := rfl
theorem xg_m_against : x_gb xM_m_against (x_inf_8[2]) = true := by decide +kernel
set_option maxRecDepth 200000 in
theorem xc_W_endSession : lw_tbl[(x_inf_8[3]).2.2.2.2.1]? = some (.code (x_inf_8[3]).1 (x_inf_8[3]).2.1 xM_W_endSession.2.1 (x_inf_8[3]).2.2.1) := rfl
theorem xg_W_endSession : x_gb xM_W_endSession (x_inf_8[3]) = true := by decide +kernel
set_option maxRecDepth 200000 in
theorem xc_G_goOneSession : lw_tbl[(x_inf_8[4]).2.2.2.2.1]? = some (.code (x_inf_8[4]).1 (x_inf_8[4]).2.1 xM_G_goOneSession.2.1 (x_inf_8[4]).2.2.1) := rfl
theorem xg_G_goOneSession : x_gb xM_G_goOneSession (x_inf_8[4]) = true := by decide +kernel
set_option maxRecDepth 200000 in
theorem xc_G_pass : lw_tbl[(x_inf_8[5]).2.2.2.2.1]? = some (.code (x_inf_8[5]).1 (x_inf_8[5]).2.1 xM_G_pass.2.1 (x_inf_8[5]).2.2.1) := rfl
theorem xg_G_pass : x_gb xM_G_pass (x_inf_8[5]) = true := by decide +kernel
set_option maxRecDepth 200000 in
theorem xc_m_isSessions : lw_tbl[(x_inf_8[6]).2.2.2.2.1]? = some (.code (x_inf_8[6]).1 (x_inf_8[6]).2.1 xM_m_isSessions.2.1 (x_inf_8[6]).2.2.1) := rfl
theorem xg_m_isSessions : x_gb xM_m_isSessions (x_inf_8[6]) = true := by decide +kernel
set_option maxRecDepth 200000 in
theorem xc_m_least : lw_tbl[(x_inf_8[7]).2.2.2.2.1]? = some (.code (x_inf_8[7]).1 (x_inf_8[7]).2.1 xM_m_least.2.1 (x_inf_8[7]).2.2.1) := rfl
theorem xg_m_least : x_gb xM_m_least (x_inf_8[7]) = true := by decide +kernel
set_option maxRecDepth 200000 in
theorem xc_m_goSession : lw_tbl[(x_inf_8[8]).2.2.2.2.1]? = some (.code (x_inf_8[8]).1 (x_inf_8[8]).2.1 xM_m_goSession.2.1 (x_inf_8[8]).2.2.1) := rfl
theorem xg_m_goSession : x_gb xM_m_goSession (x_inf_8[8]) = true := by decide +kernel
set_option maxRecDepth 200000 in
theorem xc_m_goSessions : lw_tbl[(x_inf_8[9]).2.2.2.2.1]? = some (.code (x_inf_8[9]).1 (x_inf_8[9]).2.1 xM_m_goSessions.2.1 (x_inf_8[9]).2.2.1) := rfl
theorem xg_m_goSessions : x_gb xM_m_goSessions (x_inf_8[9]) = true := by decide +kernel
set_option maxRecDepth 200000 in
theorem xc_m_pass : lw_tbl[(x_inf_8[10]).2.2.2.2.1]? = some (.code (x_inf_8[10]).1 (x_inf_8[10]).2.1 xM_m_pass.2.1 (x_inf_8[10]).2.2.1) := rfl
theorem xg_m_pass : x_gb xM_m_pass (x_inf_8[10]) = true := by decide +kernel
set_option maxRecDepth 200000 in
theorem xc_O_become : lw_tbl[(x_inf_8[11]).2.2.2.2.1]? = some (.code (x_inf_8[11]).1 (x_inf_8[11]).2.1 xM_O_become.2.1 (x_inf_8[11]).2.2.1) := rfl
theorem xg_O_become : x_gb xM_O_become (x_inf_8[11]) = true := by decide +kernel
set_option maxRecDepth 200000 in
theorem xc_Rw_become : lw_tbl[(x_inf_8[12]).2.2.2.2.1]? = some (.code (x_inf_8[12]).1 (x_inf_8[12]).2.1 xM_Rw_become.2.1 (x_inf_8[12]).2.2.1) := rfl
theorem xg_Rw_become : x_gb xM_Rw_become (x_inf_8[12]) = true := by decide +kernel
set_option maxRecDepth 200000 in
theorem xc_W_become : lw_tbl[(x_inf_8[13]).2.2.2.2.1]? = some (.code (x_inf_8[13]).1 (x_inf_8[13]).2.1 xM_W_become.2.1 (x_inf_8[13]).2.2.1) := rfl
theorem xg_W_become : x_gb xM_W_become (x_inf_8[13]) = true := by decide +kernel
set_option maxRecDepth 200000 in
theorem xc_G_on : lw_tbl[(x_inf_8[14]).2.2.2.2.1]? = some (.code (x_inf_8[14]).1 (x_inf_8[14]).2.1 xM_G_on.2.1 (x_inf_8[14]).2.2.1) := rfl
theorem xg_G_on : x_gb xM_G_on (x_inf_8[14]) = true := by decide +kernel
set_option maxRecDepth 200000 in
theorem xc_m_save : lw_tbl[(x_inf_8[15]).2.2.2.2.1]? = some (.code (x_inf_8[15]).1 (x_inf_8[15]).2.1 xM_m_save.2.1 (x_inf_8[15]).2.2.1) := rfl
theorem xg_m_save : x_gb xM_m_save (x_inf_8[15]) = true := by decide +kernel
set_option maxRecDepth 200000 in
theorem xc_m_putBack : lw_tbl[(x_inf_9[0]).2.2.2.2.1]? = some (.code (x_inf_9[0]).1 (x_inf_9[0]).2.1 xM_m_putBack.2.1 (x_inf_9[0]).2.2.1) := rfl
theorem xg_m_putBack : x_gb xM_m_putBack (x_inf_9[0]) = true := by decide +kernel
set_option maxRecDepth 200000 in
theorem xc_m_on : lw_tbl[(x_inf_9[1]).2.2.2.2.1]? = some (.code (x_inf_9[1]).1 (x_inf_9[1]).2.1 xM_m_on.2.1 (x_inf_9[1]).2.2.1) := rfl
theorem xg_m_on : x_gb xM_m_on (x_inf_9[1]) = true := by decide +kernel
set_option maxRecDepth 200000 in
theorem xc_B_placeInFirstRowFor : lw_tbl[(x_inf_9[2]).2.2.2.2.1]? = some (.code (x_inf_9[2]).1 (x_inf_9[2]).2.1 xM_B_placeInFirstRowFor.2.1 (x_inf_9[2]).2.2.1) := rfl
theorem xg_B_placeInFirstRowFor : x_gb xM_B_placeInFirstRowFor (x_inf_9[2]) = true := by decide +kernel
set_option maxRecDepth 200000 in
theorem xc_G_agenda : lw_tbl[(x_inf_9[3]).2.2.2.2.1]? = some (.code (x_inf_9[3]).1 (x_inf_9[3]).2.1 xM_G_agenda.2.1 (x_inf_9[3]).2.2.1) := rfl
theorem xg_G_agenda : x_gb xM_G_agenda (x_inf_9[3]) = true := by decide +kernel
set_option maxRecDepth 200000 in
theorem xc_m_agenda : lw_tbl[(x_inf_9[4]).2.2.2.2.1]? = some (.code (x_inf_9[4]).1 (x_inf_9[4]).2.1 xM_m_agenda.2.1 (x_inf_9[4]).2.2.1) := rfl
theorem xg_m_agenda : x_gb xM_m_agenda (x_inf_9[4]) = true := by decide +kernel
set_option maxRecDepth 200000 in
theorem xc_In_bitCount : lw_tbl[(x_inf_9[5]).2.2.2.2.1]? = some (.code (x_inf_9[5]).1 (x_inf_9[5]).2.1 xM_In_bitCount.2.1 (x_inf_9[5]).2.2.1) := rfl
theorem xg_In_bitCount : x_gb xM_In_bitCount (x_inf_9[5]) = true := by decide +kernel
set_option maxRecDepth 200000 in
theorem xc_B_fewestToSendAway : lw_tbl[(x_inf_9[6]).2.2.2.2.1]? = some (.code (x_inf_9[6]).1 (x_inf_9[6]).2.1 xM_B_fewestToSendAway.2.1 (x_inf_9[6]).2.2.1) := rfl
theorem xg_B_fewestToSendAway : x_gb xM_B_fewestToSendAway (x_inf_9[6]) = true := by decide +kernel
set_option maxRecDepth 200000 in
theorem xc_G_bribe : lw_tbl[(x_inf_9[7]).2.2.2.2.1]? = some (.code (x_inf_9[7]).1 (x_inf_9[7]).2.1 xM_G_bribe.2.1 (x_inf_9[7]).2.2.1) := rfl
theorem xg_G_bribe : x_gb xM_G_bribe (x_inf_9[7]) = true := by decide +kernel
set_option maxRecDepth 200000 in
theorem xc_m_bits : lw_tbl[(x_inf_9[8]).2.2.2.2.1]? = some (.code (x_inf_9[8]).1 (x_inf_9[8]).2.1 xM_m_bits.2.1 (x_inf_9[8]).2.2.1) := rfl
theorem xg_m_bits : x_gb xM_m_bits (x_inf_9[8]) = true := by decide +kernel
set_option maxRecDepth 200000 in
theorem xc_m_bribe : lw_tbl[(x_inf_9[9]).2.2.2.2.1]? = some (.code (x_inf_9[9]).1 (x_inf_9[9]).2.1 xM_m_bribe.2.1 (x_inf_9[9]).2.2.1) := rfl
theorem xg_m_bribe : x_gb xM_m_bribe (x_inf_9[9]) = true := by decide +kernel
set_option maxRecDepth 200000 in
theorem xc_G_commonDivisor : lw_tbl[(x_inf_9[10]).2.2.2.2.1]? = some (.code (x_inf_9[10]).1 (x_inf_9[10]).2.1 xM_G_commonDivisor.2.1 (x_inf_9[10]).2.2.1) := rfl
theorem xg_G_commonDivisor : x_gb xM_G_commonDivisor (x_inf_9[10]) = true := by decide +kernel
set_option maxRecDepth 200000 in
theorem xc_G_fraction : lw_tbl[(x_inf_9[11]).2.2.2.2.1]? = some (.code (x_inf_9[11]).1 (x_inf_9[11]).2.1 xM_G_fraction.2.1 (x_inf_9[11]).2.2.1) := rfl
theorem xg_G_fraction : x_gb xM_G_fraction (x_inf_9[11]) = true := by decide +kernel
set_option maxRecDepth 200000 in
theorem xc_G_odds : lw_tbl[(x_inf_9[12]).2.2.2.2.1]? = some (.code (x_inf_9[12]).1 (x_inf_9[12]).2.1 xM_G_odds.2.1 (x_inf_9[12]).2.2.1) := rfl
theorem xg_G_odds : x_gb xM_G_odds (x_inf_9[12]) = true := by decide +kernel
set_option maxRecDepth 200000 in
theorem xc_m_divisor : lw_tbl[(x_inf_9[13]).2.2.2.2.1]? = some (.code (x_inf_9[13]).1 (x_inf_9[13]).2.1 xM_m_divisor.2.1 (x_inf_9[13]).2.2.1) := rfl
theorem xg_m_divisor : x_gb xM_m_divisor (x_inf_9[13]) = true := by decide +kernel
set_option maxRecDepth 200000 in
theorem xc_m_lowest : lw_tbl[(x_inf_9[14]).2.2.2.2.1]? = some (.code (x_inf_9[14]).1 (x_inf_9[14]).2.1 xM_m_lowest.2.1 (x_inf_9[14]).2.2.1) := rfl
theorem xg_m_lowest : x_gb xM_m_lowest (x_inf_9[14]) = true := by decide +kernel
set_option maxRecDepth 200000 in
theorem xc_m_odds : lw_tbl[(x_inf_9[15]).2.2.2.2.1]? = some (.code (x_inf_9[15]).1 (x_inf_9[15]).2.1 xM_m_odds.2.1 (x_inf_9[15]).2.2.1) := rfl
theorem xg_m_odds : x_gb xM_m_odds (x_inf_9[15]) = true := by decide +kernel
set_option maxRecDepth 200000 in
theorem xc_B_votesOf : lw_tbl[(x_inf_10[0]).2.2.2.2.1]? = some (.code (x_inf_10[0]).1 (x_inf_10[0]).2.1 xM_B_votesOf.2.1 (x_inf_10[0]).2.2.1) := rfl
theorem xg_B_votesOf : x_gb xM_B_votesOf (x_inf_10[0]) = true := by decide +kernel
set_option maxRecDepth 200000 in
theorem xc_B_isMost : lw_tbl[(x_inf_10[1]).2.2.2.2.1]? = some (.code (x_inf_10[1]).1 (x_inf_10[1]).2.1 xM_B_isMost.2.1 (x_inf_10[1]).2.2.1) := rfl
theorem xg_B_isMost : x_gb xM_B_isMost (x_inf_10[1]) = true := by decide +kernel
set_option maxRecDepth 200000 in
theorem xc_B_turns : lw_tbl[(x_inf_10[2]).2.2.2.2.1]? = some (.code (x_inf_10[2]).1 (x_inf_10[2]).2.1 xM_B_turns.2.1 (x_inf_10[2]).2.2.1) := rfl
theorem xg_B_turns : x_gb xM_B_turns (x_inf_10[2]) = true := by decide +kernel
set_option maxRecDepth 200000 in
theorem xc_B_setsTurnedBy : lw_tbl[(x_inf_10[3]).2.2.2.2.1]? = some (.code (x_inf_10[3]).1 (x_inf_10[3]).2.1 xM_B_setsTurnedBy.2.1 (x_inf_10[3]).2.2.1) := rfl
theorem xg_B_setsTurnedBy : x_gb xM_B_setsTurnedBy (x_inf_10[3]) = true := by decide +kernel
set_option maxRecDepth 200000 in
theorem xc_G_power : lw_tbl[(x_inf_10[4]).2.2.2.2.1]? = some (.code (x_inf_10[4]).1 (x_inf_10[4]).2.1 xM_G_power.2.1 (x_inf_10[4]).2.2.1) := rfl
theorem xg_G_power : x_gb xM_G_power (x_inf_10[4]) = true := by decide +kernel
set_option maxRecDepth 200000 in
theorem xc_m_present : lw_tbl[(x_inf_10[5]).2.2.2.2.1]? = some (.code (x_inf_10[5]).1 (x_inf_10[5]).2.1 xM_m_present.2.1 (x_inf_10[5]).2.2.1) := rfl
theorem xg_m_present : x_gb xM_m_present (x_inf_10[5]) = true := by decide +kernel
set_option maxRecDepth 200000 in
theorem xc_m_votesOf : lw_tbl[(x_inf_10[6]).2.2.2.2.1]? = some (.code (x_inf_10[6]).1 (x_inf_10[6]).2.1 xM_m_votesOf.2.1 (x_inf_10[6]).2.2.1) := rfl
theorem xg_m_votesOf : x_gb xM_m_votesOf (x_inf_10[6]) = true := by decide +kernel
set_option maxRecDepth 200000 in
theorem xc_m_manyRows : lw_tbl[(x_inf_10[7]).2.2.2.2.1]? = some (.code (x_inf_10[7]).1 (x_inf_10[7]).2.1 xM_m_manyRows.2.1 (x_inf_10[7]).2.2.1) := rfl
theorem xg_m_manyRows : x_gb xM_m_manyRows (x_inf_10[7]) = true := by decide +kernel
set_option maxRecDepth 200000 in
theorem xc_m_turned : lw_tbl[(x_inf_10[8]).2.2.2.2.1]? = some (.code (x_inf_10[8]).1 (x_inf_10[8]).2.1 xM_m_turned.2.1 (x_inf_10[8]).2.2.1) := rfl
theorem xg_m_turned : x_gb xM_m_turned (x_inf_10[8]) = true := by decide +kernel
set_option maxRecDepth 200000 in
theorem xc_m_power : lw_tbl[(x_inf_10[9]).2.2.2.2.1]? = some (.code (x_inf_10[9]).1 (x_inf_10[9]).2.1 xM_m_power.2.1 (x_inf_10[9]).2.2.1) := rfl
theorem xg_m_power : x_gb xM_m_power (x_inf_10[9]) = true := by decide +kernel
set_option maxRecDepth 200000 in
theorem xc_B_rowsTurnedBy : lw_tbl[(x_inf_10[10]).2.2.2.2.1]? = some (.code (x_inf_10[10]).1 (x_inf_10[10]).2.1 xM_B_rowsTurnedBy.2.1 (x_inf_10[10]).2.2.1) := rfl
theorem xg_B_rowsTurnedBy : x_gb xM_B_rowsTurnedBy (x_inf_10[10]) = true := by decide +kernel
set_option maxRecDepth 200000 in
theorem xc_G_pivot : lw_tbl[(x_inf_10[11]).2.2.2.2.1]? = some (.code (x_inf_10[11]).1 (x_inf_10[11]).2.1 xM_G_pivot.2.1 (x_inf_10[11]).2.2.1) := rfl
theorem xg_G_pivot : x_gb xM_G_pivot (x_inf_10[11]) = true := by decide +kernel
set_option maxRecDepth 200000 in
theorem xc_m_pivot : lw_tbl[(x_inf_10[12]).2.2.2.2.1]? = some (.code (x_inf_10[12]).1 (x_inf_10[12]).2.1 xM_m_pivot.2.1 (x_inf_10[12]).2.2.1) := rfl
theorem xg_m_pivot : x_gb xM_m_pivot (x_inf_10[12]) = true := by decide +kernel
set_option maxRecDepth 200000 in
theorem xc_B_likedByVotes : lw_tbl[(x_inf_10[13]).2.2.2.2.1]? = some (.code (x_inf_10[13]).1 (x_inf_10[13]).2.1 xM_B_likedByVotes.2.1 (x_inf_10[13]).2.2.1) := rfl
theorem xg_B_likedByVotes : x_gb xM_B_likedByVotes (x_inf_10[13]) = true := by decide +kernel
set_option maxRecDepth 200000 in
theorem xc_G_mean : lw_tbl[(x_inf_10[14]).2.2.2.2.1]? = some (.code (x_inf_10[14]).1 (x_inf_10[14]).2.1 xM_G_mean.2.1 (x_inf_10[14]).2.2.1) := rfl
theorem xg_G_mean : x_gb xM_G_mean (x_inf_10[14]) = true := by decide +kernel
set_option maxRecDepth 200000 in
theorem xc_m_mean : lw_tbl[(x_inf_10[15]).2.2.2.2.1]? = some (.code (x_inf_10[15]).1 (x_inf_10[15]).2.1 xM_m_mean.2.1 (x_inf_10[15]).2.2.1) := rfl
theorem xg_m_mean : x_gb xM_m_mean (x_inf_10[15]) = true := by decide +kernel
set_option maxRecDepth 200000 in
theorem xc_Rw_add : lw_tbl[(x_inf_11[0]).2.2.2.2.1]? = some (.code (x_inf_11[0]).1 (x_inf_11[0]).2.1 xM_Rw_add.2.1 (x_inf_11[0]).2.2.1) := rfl
theorem xg_Rw_add : x_gb xM_Rw_add (x_inf_11[0]) = true := by decide +kernel
set_option maxRecDepth 200000 in
theorem xc_G_see : lw_tbl[(x_inf_11[1]).2.2.2.2.1]? = some (.code (x_inf_11[1]).1 (x_inf_11[1]).2.1 xM_G_see.2.1 (x_inf_11[1]).2.2.1) := rfl
theorem xg_G_see : x_gb xM_G_see (x_inf_11[1]) = true := by decide +kernel
set_option maxRecDepth 200000 in
theorem xc_m_see : lw_tbl[(x_inf_11[2]).2.2.2.2.1]? = some (.code (x_inf_11[2]).1 (x_inf_11[2]).2.1 xM_m_see.2.1 (x_inf_11[2]).2.2.1) := rfl
theorem xg_m_see : x_gb xM_m_see (x_inf_11[2]) = true := by decide +kernel
set_option maxRecDepth 200000 in
theorem xc_Rw_at : lw_tbl[(x_inf_11[3]).2.2.2.2.1]? = some (.code (x_inf_11[3]).1 (x_inf_11[3]).2.1 xM_Rw_at.2.1 (x_inf_11[3]).2.2.1) := rfl
theorem xg_Rw_at : x_gb xM_Rw_at (x_inf_11[3]) = true := by decide +kernel
set_option maxRecDepth 200000 in
theorem xc_G_isAsSeen : lw_tbl[(x_inf_11[4]).2.2.2.2.1]? = some (.code (x_inf_11[4]).1 (x_inf_11[4]).2.1 xM_G_isAsSeen.2.1 (x_inf_11[4]).2.2.1) := rfl
theorem xg_G_isAsSeen : x_gb xM_G_isAsSeen (x_inf_11[4]) = true := by decide +kernel
set_option maxRecDepth 200000 in
theorem xc_G_can : lw_tbl[(x_inf_11[5]).2.2.2.2.1]? = some (.code (x_inf_11[5]).1 (x_inf_11[5]).2.1 xM_G_can.2.1 (x_inf_11[5]).2.2.1) := rfl
theorem xg_G_can : x_gb xM_G_can (x_inf_11[5]) = true := by decide +kernel
set_option maxRecDepth 200000 in
theorem xc_m_isSeen : lw_tbl[(x_inf_11[6]).2.2.2.2.1]? = some (.code (x_inf_11[6]).1 (x_inf_11[6]).2.1 xM_m_isSeen.2.1 (x_inf_11[6]).2.2.1) := rfl
theorem xg_m_isSeen : x_gb xM_m_isSeen (x_inf_11[6]) = true := by decide +kernel
set_option maxRecDepth 200000 in
theorem xc_m_can : lw_tbl[(x_inf_11[7]).2.2.2.2.1]? = some (.code (x_inf_11[7]).1 (x_inf_11[7]).2.1 xM_m_can.2.1 (x_inf_11[7]).2.2.1) := rfl
theorem xg_m_can : x_gb xM_m_can (x_inf_11[7]) = true := by decide +kernel
set_option maxRecDepth 200000 in
theorem xc_G_bases : lw_tbl[(x_inf_11[8]).2.2.2.2.1]? = some (.code (x_inf_11[8]).1 (x_inf_11[8]).2.1 xM_G_bases.2.1 (x_inf_11[8]).2.2.1) := rfl
theorem xg_G_bases : x_gb xM_G_bases (x_inf_11[8]) = true := by decide +kernel
set_option maxRecDepth 200000 in
theorem xc_m_bases : lw_tbl[(x_inf_11[9]).2.2.2.2.1]? = some (.code (x_inf_11[9]).1 (x_inf_11[9]).2.1 xM_m_bases.2.1 (x_inf_11[9]).2.2.1) := rfl
theorem xg_m_bases : x_gb xM_m_bases (x_inf_11[9]) = true := by decide +kernel
set_option maxRecDepth 200000 in
theorem xc_G_plan : lw_tbl[(x_inf_11[10]).2.2.2.2.1]? = some (.code (x_inf_11[10]).1 (x_inf_11[10]).2.1 xM_G_plan.2.1 (x_inf_11[10]).2.2.1) := rfl
theorem xg_G_plan : x_gb xM_G_plan (x_inf_11[10]) = true := by decide +kernel
set_option maxRecDepth 200000 in
theorem xc_m_plan : lw_tbl[(x_inf_11[11]).2.2.2.2.1]? = some (.code (x_inf_11[11]).1 (x_inf_11[11]).2.1 xM_m_plan.2.1 (x_inf_11[11]).2.2.1) := rfl
theorem xg_m_plan : x_gb xM_m_plan (x_inf_11[11]) = true := by decide +kernel
set_option maxRecDepth 200000 in
theorem xc_W_follow : lw_tbl[(x_inf_11[12]).2.2.2.2.1]? = some (.code (x_inf_11[12]).1 (x_inf_11[12]).2.1 xM_W_follow.2.1 (x_inf_11[12]).2.2.1) := rfl
theorem xg_W_follow : x_gb xM_W_follow (x_inf_11[12]) = true := by decide +kernel
set_option maxRecDepth 200000 in
theorem xc_W_thingsDone : lw_tbl[(x_inf_11[13]).2.2.2.2.1]? = some (.code (x_inf_11[13]).1 (x_inf_11[13]).2.1 xM_W_thingsDone.2.1 (x_inf_11[13]).2.2.1) := rfl
theorem xg_W_thingsDone : x_gb xM_W_thingsDone (x_inf_11[13]) = true := by decide +kernel
set_option maxRecDepth 200000 in
theorem xc_G_ends : lw_tbl[(x_inf_11[14]).2.2.2.2.1]? = some (.code (x_inf_11[14]).1 (x_inf_11[14]).2.1 xM_G_ends.2.1 (x_inf_11[14]).2.2.1) := rfl
theorem xg_G_ends : x_gb xM_G_ends (x_inf_11[14]) = true := by decide +kernel
set_option maxRecDepth 200000 in
theorem xc_m_goPlan : lw_tbl[(x_inf_11[15]).2.2.2.2.1]? = some (.code (x_inf_11[15]).1 (x_inf_11[15]).2.1 xM_m_goPlan.2.1 (x_inf_11[15]).2.2.1) := rfl
theorem xg_m_goPlan : x_gb xM_m_goPlan (x_inf_11[15]) = true := by decide +kernel
set_option maxRecDepth 200000 in
theorem xc_m_ends : lw_tbl[(x_inf_12[0]).2.2.2.2.1]? = some (.code (x_inf_12[0]).1 (x_inf_12[0]).2.1 xM_m_ends.2.1 (x_inf_12[0]).2.2.1) := rfl
theorem xg_m_ends : x_gb xM_m_ends (x_inf_12[0]) = true := by decide +kernel
set_option maxRecDepth 200000 in
theorem xc_G_book : lw_tbl[(x_inf_12[1]).2.2.2.2.1]? = some (.code (x_inf_12[1]).1 (x_inf_12[1]).2.1 xM_G_book.2.1 (x_inf_12[1]).2.2.1) := rfl
theorem xg_G_book : x_gb xM_G_book (x_inf_12[1]) = true := by decide +kernel
set_option maxRecDepth 200000 in
theorem xc_m_book : lw_tbl[(x_inf_12[2]).2.2.2.2.1]? = some (.code (x_inf_12[2]).1 (x_inf_12[2]).2.1 xM_m_book.2.1 (x_inf_12[2]).2.2.1) := rfl
theorem xg_m_book : x_gb xM_m_book (x_inf_12[2]) = true := by decide +kernel
set_option maxRecDepth 200000 in
theorem xc_G_looked : lw_tbl[(x_inf_12[3]).2.2.2.2.1]? = some (.code (x_inf_12[3]).1 (x_inf_12[3]).2.1 xM_G_looked.2.1 (x_inf_12[3]).2.2.1) := rfl
theorem xg_G_looked : x_gb xM_G_looked (x_inf_12[3]) = true := by decide +kernel
set_option maxRecDepth 200000 in
theorem xc_m_looked : lw_tbl[(x_inf_12[4]).2.2.2.2.1]? = some (.code (x_inf_12[4]).1 (x_inf_12[4]).2.1 xM_m_looked.2.1 (x_inf_12[4]).2.2.1) := rfl
theorem xg_m_looked : x_gb xM_m_looked (x_inf_12[4]) = true := by decide +kernel
set_option maxRecDepth 200000 in
theorem xc_G_isTape : lw_tbl[(x_inf_12[5]).2.2.2.2.1]? = some (.code (x_inf_12[5]).1 (x_inf_12[5]).2.1 xM_G_isTape.2.1 (x_inf_12[5]).2.2.1) := rfl
theorem xg_G_isTape : x_gb xM_G_isTape (x_inf_12[5]) = true := by decide +kernel
set_option maxRecDepth 200000 in
theorem xc_Tp_holds : lw_tbl[(x_inf_12[6]).2.2.2.2.1]? = some (.code (x_inf_12[6]).1 (x_inf_12[6]).2.1 xM_Tp_holds.2.1 (x_inf_12[6]).2.2.1) := rfl
theorem xg_Tp_holds : x_gb xM_Tp_holds (x_inf_12[6]) = true := by decide +kernel
set_option maxRecDepth 200000 in
theorem xc_G_judge : lw_tbl[(x_inf_12[7]).2.2.2.2.1]? = some (.code (x_inf_12[7]).1 (x_inf_12[7]).2.1 xM_G_judge.2.1 (x_inf_12[7]).2.2.1) := rfl
theorem xg_G_judge : x_gb xM_G_judge (x_inf_12[7]) = true := by decide +kernel
set_option maxRecDepth 200000 in
theorem xc_m_isTape : lw_tbl[(x_inf_12[8]).2.2.2.2.1]? = some (.code (x_inf_12[8]).1 (x_inf_12[8]).2.1 xM_m_isTape.2.1 (x_inf_12[8]).2.2.1) := rfl
theorem xg_m_isTape : x_gb xM_m_isTape (x_inf_12[8]) = true := by decide +kernel
set_option maxRecDepth 200000 in
theorem xc_m_judge : lw_tbl[(x_inf_12[9]).2.2.2.2.1]? = some (.code (x_inf_12[9]).1 (x_inf_12[9]).2.1 xM_m_judge.2.1 (x_inf_12[9]).2.2.1) := rfl
theorem xg_m_judge : x_gb xM_m_judge (x_inf_12[9]) = true := by decide +kernel
set_option maxRecDepth 200000 in
theorem xc_G_image : lw_tbl[(x_inf_12[10]).2.2.2.2.1]? = some (.code (x_inf_12[10]).1 (x_inf_12[10]).2.1 xM_G_image.2.1 (x_inf_12[10]).2.2.1) := rfl
theorem xg_G_image : x_gb xM_G_image (x_inf_12[10]) = true := by decide +kernel
set_option maxRecDepth 200000 in
theorem xc_m_image : lw_tbl[(x_inf_12[11]).2.2.2.2.1]? = some (.code (x_inf_12[11]).1 (x_inf_12[11]).2.1 xM_m_image.2.1 (x_inf_12[11]).2.2.1) := rfl
theorem xg_m_image : x_gb xM_m_image (x_inf_12[11]) = true := by decide +kernel
set_option maxRecDepth 200000 in
theorem xc_G_undo : lw_tbl[(x_inf_12[12]).2.2.2.2.1]? = some (.code (x_inf_12[12]).1 (x_inf_12[12]).2.1 xM_G_undo.2.1 (x_inf_12[12]).2.2.1) := rfl
theorem xg_G_undo : x_gb xM_G_undo (x_inf_12[12]) = true := by decide +kernel
set_option maxRecDepth 200000 in
theorem xc_m_undo : lw_tbl[(x_inf_12[13]).2.2.2.2.1]? = some (.code (x_inf_12[13]).1 (x_inf_12[13]).2.1 xM_m_undo.2.1 (x_inf_12[13]).2.2.1) := rfl
theorem xg_m_undo : x_gb xM_m_undo (x_inf_12[13]) = true := by decide +kernel
set_option maxRecDepth 200000 in
theorem xc_A_note : lw_tbl[(x_inf_12[14]).2.2.2.2.1]? = some (.code (x_inf_12[14]).1 (x_inf_12[14]).2.1 xM_A_note.2.1 (x_inf_12[14]).2.2.1) := rfl
theorem xg_A_note : x_gb xM_A_note (x_inf_12[14]) = true := by decide +kernel
set_option maxRecDepth 200000 in
theorem xc_A_run : lw_tbl[(x_inf_12[15]).2.2.2.2.1]? = some (.code (x_inf_12[15]).1 (x_inf_12[15]).2.1 xM_A_run.2.1 (x_inf_12[15]).2.2.1) := rfl
theorem xg_A_run : x_gb xM_A_run (x_inf_12[15]) = true := by decide +kernel
set_option maxRecDepth 200000 in
theorem xc_A_begin : lw_tbl[(x_inf_13[0]).2.2.2.2.1]? = some (.code (x_inf_13[0]).1 (x_inf_13[0]).2.1 xM_A_begin.2.1 (x_inf_13[0]).2.2.1) := rfl
theorem xg_A_begin : x_gb xM_A_begin (x_inf_13[0]) = true := by decide +kernel
set_option maxRecDepth 200000 in
theorem xc_G_act : lw_tbl[(x_inf_13[1]).2.2.2.2.1]? = some (.code (x_inf_13[1]).1 (x_inf_13[1]).2.1 xM_G_act.2.1 (x_inf_13[1]).2.2.1) := rfl
theorem xg_G_act : x_gb xM_G_act (x_inf_13[1]) = true := by decide +kernel
set_option maxRecDepth 200000 in
theorem xc_m_body : lw_tbl[(x_inf_13[2]).2.2.2.2.1]? = some (.code (x_inf_13[2]).1 (x_inf_13[2]).2.1 xM_m_body.2.1 (x_inf_13[2]).2.2.1) := rfl
theorem xg_m_body : x_gb xM_m_body (x_inf_13[2]) = true := by decide +kernel
set_option maxRecDepth 200000 in
theorem xc_m_officialClucks : lw_tbl[(x_inf_13[3]).2.2.2.2.1]? = some (.code (x_inf_13[3]).1 (x_inf_13[3]).2.1 xM_m_officialClucks.2.1 (x_inf_13[3]).2.2.1) := rfl
theorem xg_m_officialClucks : x_gb xM_m_officialClucks (x_inf_13[3]) = true := by decide +kernel
set_option maxRecDepth 200000 in
theorem xc_m_clucksAct : lw_tbl[(x_inf_13[4]).2.2.2.2.1]? = some (.code (x_inf_13[4]).1 (x_inf_13[4]).2.1 xM_m_clucksAct.2.1 (x_inf_13[4]).2.2.1) := rfl
theorem xg_m_clucksAct : x_gb xM_m_clucksAct (x_inf_13[4]) = true := by decide +kernel
set_option maxRecDepth 200000 in
theorem xc_m_officialLooks : lw_tbl[(x_inf_13[5]).2.2.2.2.1]? = some (.code (x_inf_13[5]).1 (x_inf_13[5]).2.1 xM_m_officialLooks.2.1 (x_inf_13[5]).2.2.1) := rfl
theorem xg_m_officialLooks : x_gb xM_m_officialLooks (x_inf_13[5]) = true := by decide +kernel
set_option maxRecDepth 200000 in
theorem xc_m_clerkLooks : lw_tbl[(x_inf_13[6]).2.2.2.2.1]? = some (.code (x_inf_13[6]).1 (x_inf_13[6]).2.1 xM_m_clerkLooks.2.1 (x_inf_13[6]).2.2.1) := rfl
theorem xg_m_clerkLooks : x_gb xM_m_clerkLooks (x_inf_13[6]) = true := by decide +kernel
set_option maxRecDepth 200000 in
theorem xc_m_looksAct : lw_tbl[(x_inf_13[7]).2.2.2.2.1]? = some (.code (x_inf_13[7]).1 (x_inf_13[7]).2.1 xM_m_looksAct.2.1 (x_inf_13[7]).2.2.1) := rfl
theorem xg_m_looksAct : x_gb xM_m_looksAct (x_inf_13[7]) = true := by decide +kernel
set_option maxRecDepth 200000 in
theorem xc_m_officialTells : lw_tbl[(x_inf_13[8]).2.2.2.2.1]? = some (.code (x_inf_13[8]).1 (x_inf_13[8]).2.1 xM_m_officialTells.2.1 (x_inf_13[8]).2.2.1) := rfl
theorem xg_m_officialTells : x_gb xM_m_officialTells (x_inf_13[8]) = true := by decide +kernel
set_option maxRecDepth 200000 in
theorem xc_m_tellsAct : lw_tbl[(x_inf_13[9]).2.2.2.2.1]? = some (.code (x_inf_13[9]).1 (x_inf_13[9]).2.1 xM_m_tellsAct.2.1 (x_inf_13[9]).2.2.1) := rfl
theorem xg_m_tellsAct : x_gb xM_m_tellsAct (x_inf_13[9]) = true := by decide +kernel
set_option maxRecDepth 200000 in
theorem xc_m_act : lw_tbl[(x_inf_13[10]).2.2.2.2.1]? = some (.code (x_inf_13[10]).1 (x_inf_13[10]).2.1 xM_m_act.2.1 (x_inf_13[10]).2.2.1) := rfl
theorem xg_m_act : x_gb xM_m_act (x_inf_13[10]) = true := by decide +kernel
set_option maxRecDepth 200000 in
theorem xc_A_kept : lw_tbl[(x_inf_13[11]).2.2.2.2.1]? = some (.code (x_inf_13[11]).1 (x_inf_13[11]).2.1 xM_A_kept.2.1 (x_inf_13[11]).2.2.1) := rfl
theorem xg_A_kept : x_gb xM_A_kept (x_inf_13[11]) = true := by decide +kernel
set_option maxRecDepth 200000 in
theorem xc_G_trace : lw_tbl[(x_inf_13[12]).2.2.2.2.1]? = some (.code (x_inf_13[12]).1 (x_inf_13[12]).2.1 xM_G_trace.2.1 (x_inf_13[12]).2.2.1) := rfl
theorem xg_G_trace : x_gb xM_G_trace (x_inf_13[12]) = true := by decide +kernel
set_option maxRecDepth 200000 in
theorem xc_m_trace : lw_tbl[(x_inf_13[13]).2.2.2.2.1]? = some (.code (x_inf_13[13]).1 (x_inf_13[13]).2.1 xM_m_trace.2.1 (x_inf_13[13]).2.2.1) := rfl
theorem xg_m_trace : x_gb xM_m_trace (x_inf_13[13]) = true := by decide +kernel
set_option maxRecDepth 200000 in
theorem xc_G_isKindUnder : lw_tbl[(x_inf_13[14]).2.2.2.2.1]? = some (.code (x_inf_13[14]).1 (x_inf_13[14]).2.1 xM_G_isKindUnder.2.1 (x_inf_13[14]).2.2.1) := rfl
theorem xg_G_isKindUnder : x_gb xM_G_isKindUnder (x_inf_13[14]) = true := by decide +kernel
set_option maxRecDepth 200000 in
theorem xc_G_taken : lw_tbl[(x_inf_13[15]).2.2.2.2.1]? = some (.code (x_inf_13[15]).1 (x_inf_13[15]).2.1 xM_G_taken.2.1 (x_inf_13[15]).2.2.1) := rfl
theorem xg_G_taken : x_gb xM_G_taken (x_inf_13[15]) = true := by decide +kernel
set_option maxRecDepth 200000 in
theorem xc_m_taken : lw_tbl[(x_inf_14[0]).2.2.2.2.1]? = some (.code (x_inf_14[0]).1 (x_inf_14[0]).2.1 xM_m_taken.2.1 (x_inf_14[0]).2.2.1) := rfl
theorem xg_m_taken : x_gb xM_m_taken (x_inf_14[0]) = true := by decide +kernel
set_option maxRecDepth 200000 in
theorem xc_G_count : lw_tbl[(x_inf_14[1]).2.2.2.2.1]? = some (.code (x_inf_14[1]).1 (x_inf_14[1]).2.1 xM_G_count.2.1 (x_inf_14[1]).2.2.1) := rfl
theorem xg_G_count : x_gb xM_G_count (x_inf_14[1]) = true := by decide +kernel
set_option maxRecDepth 200000 in
theorem xc_m_count : lw_tbl[(x_inf_14[2]).2.2.2.2.1]? = some (.code (x_inf_14[2]).1 (x_inf_14[2]).2.1 xM_m_count.2.1 (x_inf_14[2]).2.2.1) := rfl
theorem xg_m_count : x_gb xM_m_count (x_inf_14[2]) = true := by decide +kernel
set_option maxRecDepth 200000 in
theorem xc_Tp_start : lw_tbl[(x_inf_14[3]).2.2.2.2.1]? = some (.code (x_inf_14[3]).1 (x_inf_14[3]).2.1 xM_Tp_start.2.1 (x_inf_14[3]).2.2.1) := rfl
theorem xg_Tp_start : x_gb xM_Tp_start (x_inf_14[3]) = true := by decide +kernel
set_option maxRecDepth 200000 in
theorem xc_G_tape : lw_tbl[(x_inf_14[4]).2.2.2.2.1]? = some (.code (x_inf_14[4]).1 (x_inf_14[4]).2.1 xM_G_tape.2.1 (x_inf_14[4]).2.2.1) := rfl
theorem xg_G_tape : x_gb xM_G_tape (x_inf_14[4]) = true := by decide +kernel
set_option maxRecDepth 200000 in
theorem xc_m_tape : lw_tbl[(x_inf_14[5]).2.2.2.2.1]? = some (.code (x_inf_14[5]).1 (x_inf_14[5]).2.1 xM_m_tape.2.1 (x_inf_14[5]).2.2.1) := rfl
theorem xg_m_tape : x_gb xM_m_tape (x_inf_14[5]) = true := by decide +kernel
set_option maxRecDepth 200000 in
theorem xc_Tp_hasPlace : lw_tbl[(x_inf_14[6]).2.2.2.2.1]? = some (.code (x_inf_14[6]).1 (x_inf_14[6]).2.1 xM_Tp_hasPlace.2.1 (x_inf_14[6]).2.2.1) := rfl
theorem xg_Tp_hasPlace : x_gb xM_Tp_hasPlace (x_inf_14[6]) = true := by decide +kernel
set_option maxRecDepth 200000 in
theorem xc_Tp_cut : lw_tbl[(x_inf_14[7]).2.2.2.2.1]? = some (.code (x_inf_14[7]).1 (x_inf_14[7]).2.1 xM_Tp_cut.2.1 (x_inf_14[7]).2.2.1) := rfl
theorem xg_Tp_cut : x_gb xM_Tp_cut (x_inf_14[7]) = true := by decide +kernel
set_option maxRecDepth 200000 in
theorem xc_G_item : lw_tbl[(x_inf_14[8]).2.2.2.2.1]? = some (.code (x_inf_14[8]).1 (x_inf_14[8]).2.1 xM_G_item.2.1 (x_inf_14[8]).2.2.1) := rfl
theorem xg_G_item : x_gb xM_G_item (x_inf_14[8]) = true := by decide +kernel
set_option maxRecDepth 200000 in
theorem xc_m_narrow : lw_tbl[(x_inf_14[9]).2.2.2.2.1]? = some (.code (x_inf_14[9]).1 (x_inf_14[9]).2.1 xM_m_narrow.2.1 (x_inf_14[9]).2.2.1) := rfl
theorem xg_m_narrow : x_gb xM_m_narrow (x_inf_14[9]) = true := by decide +kernel
set_option maxRecDepth 200000 in
theorem xc_m_item : lw_tbl[(x_inf_14[10]).2.2.2.2.1]? = some (.code (x_inf_14[10]).1 (x_inf_14[10]).2.1 xM_m_item.2.1 (x_inf_14[10]).2.2.1) := rfl
theorem xg_m_item : x_gb xM_m_item (x_inf_14[10]) = true := by decide +kernel
set_option maxRecDepth 200000 in
theorem xc_G_read : lw_tbl[(x_inf_14[11]).2.2.2.2.1]? = some (.code (x_inf_14[11]).1 (x_inf_14[11]).2.1 xM_G_read.2.1 (x_inf_14[11]).2.2.1) := rfl
theorem xg_G_read : x_gb xM_G_read (x_inf_14[11]) = true := by decide +kernel
set_option maxRecDepth 200000 in
theorem xc_m_read : lw_tbl[(x_inf_14[12]).2.2.2.2.1]? = some (.code (x_inf_14[12]).1 (x_inf_14[12]).2.1 xM_m_read.2.1 (x_inf_14[12]).2.2.1) := rfl
theorem xg_m_read : x_gb xM_m_read (x_inf_14[12]) = true := by decide +kernel
set_option maxRecDepth 200000 in
theorem xc_Tp_hasPlaces : lw_tbl[(x_inf_14[13]).2.2.2.2.1]? = some (.code (x_inf_14[13]).1 (x_inf_14[13]).2.1 xM_Tp_hasPlaces.2.1 (x_inf_14[13]).2.2.1) := rfl
theorem xg_Tp_hasPlaces : x_gb xM_Tp_hasPlaces (x_inf_14[13]) = true := by decide +kernel
set_option maxRecDepth 200000 in
theorem xc_G_shift : lw_tbl[(x_inf_14[14]).2.2.2.2.1]? = some (.code (x_inf_14[14]).1 (x_inf_14[14]).2.1 xM_G_shift.2.1 (x_inf_14[14]).2.2.1) := rfl
theorem xg_G_shift : x_gb xM_G_shift (x_inf_14[14]) = true := by decide +kernel
set_option maxRecDepth 200000 in
theorem xc_m_shift : lw_tbl[(x_inf_14[15]).2.2.2.2.1]? = some (.code (x_inf_14[15]).1 (x_inf_14[15]).2.1 xM_m_shift.2.1 (x_inf_14[15]).2.2.1) := rfl
theorem xg_m_shift : x_gb xM_m_shift (x_inf_14[15]) = true := by decide +kernel
theorem xe_Rw_new : x_ebs "<init>" xT_Rw_new := x_ebs_of (by decide +kernel)
theorem xe_O_new : x_ebs "<init>" xT_O_new := x_ebs_of (by decide +kernel)
theorem xe_W_new : x_ebs "<init>" xT_W_new := x_ebs_of (by decide +kernel)
theorem xe_R_new : x_ebs "<init>" xT_R_new := x_ebs_of (by decide +kernel)
theorem xe_Tr_new : x_ebs "<init>" xT_Tr_new := x_ebs_of (by decide +kernel)
theorem xe_B_new : x_ebs "<init>" xT_B_new := x_ebs_of (by decide +kernel)
theorem xe_A_new : x_ebs "<init>" xT_A_new := x_ebs_of (by decide +kernel)
theorem xe_Tp_new : x_ebs "<init>" xT_Tp_new := x_ebs_of (by decide +kernel)
theorem xe_G_new_0 : x_ebs "<init>" xT_G_new_0 := x_ebs_of (by decide +kernel)
theorem xe_G_new_1 : x_ebs "<init>" xT_G_new_1 := x_ebs_of (by decide +kernel)
theorem xe_G_new : x_ebs "<init>" xT_G_new := x_ebs_app xe_G_new_0 (xe_G_new_1)
theorem xe_m_new_0 : x_ebs "<init>" xT_m_new_0 := x_ebs_of (by decide +kernel)
theorem xe_m_new_1 : x_ebs "<init>" xT_m_new_1 := x_ebs_of (by decide +kernel)
theorem xe_m_new_2 : x_ebs "<init>" xT_m_new_2 := x_ebs_of (by decide +kernel)
theorem xe_m_new_3 : x_ebs "<init>" xT_m_new_3 := x_ebs_of (by decide +kernel)
theorem xe_m_new_4 : x_ebs "<init>" xT_m_new_4 := x_ebs_of (by decide +kernel)
theorem xe_m_new_5 : x_ebs "<init>" xT_m_new_5 := x_ebs_of (by decide +kernel)
theorem xe_m_new_6 : x_ebs "<init>" xT_m_new_6 := x_ebs_of (by decide +kernel)
theorem xe_m_new : x_ebs "<init>" xT_m_new := x_ebs_app xe_m_new_0 (x_ebs_app xe_m_new_1 (x_ebs_app xe_m_new_2 (x_ebs_app xe_m_new_3 (x_ebs_app xe_m_new_4 (x_ebs_app xe_m_new_5 (xe_m_new_6))))))
theorem xe_G_isKind : x_ebs "isKind" xT_G_isKind := x_ebs_of (by decide +kernel)
theorem xe_G_isDigit : x_ebs "isDigit" xT_G_isDigit := x_ebs_of (by decide +kernel)
theorem xe_O_start : x_ebs "start" xT_O_start := x_ebs_of (by decide +kernel)
theorem xe_G_official : x_ebs "official" xT_G_official := x_ebs_of (by decide +kernel)
theorem xe_m_in : x_ebs "in" xT_m_in := x_ebs_of (by decide +kernel)
theorem xe_m_isDigitNumber : x_ebs "isDigitNumber" xT_m_isDigitNumber := x_ebs_of (by decide +kernel)
theorem xe_m_official_0 : x_ebs "official" xT_m_official_0 := x_ebs_of (by decide +kernel)
theorem xe_m_official_1 : x_ebs "official" xT_m_official_1 := x_ebs_of (by decide +kernel)
theorem xe_m_official : x_ebs "official" xT_m_official := x_ebs_app xe_m_official_0 (xe_m_official_1)
theorem xe_G_isOfficial : x_ebs "isOfficial" xT_G_isOfficial := x_ebs_of (by decide +kernel)
theorem xe_G_isThing : x_ebs "isThing" xT_G_isThing := x_ebs_of (by decide +kernel)
theorem xe_G_treatyOf : x_ebs "treatyOf" xT_G_treatyOf := x_ebs_of (by decide +kernel)
theorem xe_Tr_passes : x_ebs "passes" xT_Tr_passes := x_ebs_of (by decide +kernel)
theorem xe_Tr_isTrue_0 : x_ebs "isTrue" xT_Tr_isTrue_0 := x_ebs_of (by decide +kernel)
theorem xe_Tr_isTrue_1 : x_ebs "isTrue" xT_Tr_isTrue_1 := x_ebs_of (by decide +kernel)
theorem xe_Tr_isTrue : x_ebs "isTrue" xT_Tr_isTrue := x_ebs_app xe_Tr_isTrue_0 (xe_Tr_isTrue_1)
theorem xe_Tr_swing : x_ebs "swing" xT_Tr_swing := x_ebs_of (by decide +kernel)
theorem xe_O_vIfEven : x_ebs "vIfEven" xT_O_vIfEven := x_ebs_of (by decide +kernel)
theorem xe_O_likesBySum : x_ebs "likesBySum" xT_O_likesBySum := x_ebs_of (by decide +kernel)
theorem xe_B_votesFor : x_ebs "votesFor" xT_B_votesFor := x_ebs_of (by decide +kernel)
theorem xe_B_leads : x_ebs "leads" xT_B_leads := x_ebs_of (by decide +kernel)
theorem xe_B_weighThings : x_ebs "weighThings" xT_B_weighThings := x_ebs_of (by decide +kernel)
theorem xe_B_weigh_0 : x_ebs "weigh" xT_B_weigh_0 := x_ebs_of (by decide +kernel)
theorem xe_B_weigh_1 : x_ebs "weigh" xT_B_weigh_1 := x_ebs_of (by decide +kernel)
theorem xe_B_weigh : x_ebs "weigh" xT_B_weigh := x_ebs_app xe_B_weigh_0 (xe_B_weigh_1)
theorem xe_G_ballotOf : x_ebs "ballotOf" xT_G_ballotOf := x_ebs_of (by decide +kernel)
theorem xe_G_of_0 : x_ebs "of" xT_G_of_0 := x_ebs_of (by decide +kernel)
theorem xe_G_of_1 : x_ebs "of" xT_G_of_1 := x_ebs_of (by decide +kernel)
theorem xe_G_of : x_ebs "of" xT_G_of := x_ebs_app xe_G_of_0 (xe_G_of_1)
theorem xe_m_isOfficial : x_ebs "isOfficial" xT_m_isOfficial := x_ebs_of (by decide +kernel)
theorem xe_m_begin : x_ebs "begin" xT_m_begin := x_ebs_of (by decide +kernel)
theorem xe_m_behind : x_ebs "behind" xT_m_behind := x_ebs_of (by decide +kernel)
theorem xe_m_factOf : x_ebs "factOf" xT_m_factOf := x_ebs_of (by decide +kernel)
theorem xe_m_holds_0 : x_ebs "holds" xT_m_holds_0 := x_ebs_of (by decide +kernel)
theorem xe_m_holds_1 : x_ebs "holds" xT_m_holds_1 := x_ebs_of (by decide +kernel)
theorem xe_m_holds_2 : x_ebs "holds" xT_m_holds_2 := x_ebs_of (by decide +kernel)
theorem xe_m_holds : x_ebs "holds" xT_m_holds := x_ebs_app xe_m_holds_0 (x_ebs_app xe_m_holds_1 (xe_m_holds_2))
theorem xe_m_sum : x_ebs "sum" xT_m_sum := x_ebs_of (by decide +kernel)
theorem xe_m_likes_0 : x_ebs "likes" xT_m_likes_0 := x_ebs_of (by decide +kernel)
theorem xe_m_likes_1 : x_ebs "likes" xT_m_likes_1 := x_ebs_of (by decide +kernel)
theorem xe_m_likes : x_ebs "likes" xT_m_likes := x_ebs_app xe_m_likes_0 (xe_m_likes_1)
theorem xe_m_has : x_ebs "has" xT_m_has := x_ebs_of (by decide +kernel)
theorem xe_m_of_0 : x_ebs "of" xT_m_of_0 := x_ebs_of (by decide +kernel)
theorem xe_m_of_1 : x_ebs "of" xT_m_of_1 := x_ebs_of (by decide +kernel)
theorem xe_m_of : x_ebs "of" xT_m_of := x_ebs_app xe_m_of_0 (xe_m_of_1)
theorem xe_G_base : x_ebs "base" xT_G_base := x_ebs_of (by decide +kernel)
theorem xe_m_isThing : x_ebs "isThing" xT_m_isThing := x_ebs_of (by decide +kernel)
theorem xe_m_base : x_ebs "base" xT_m_base := x_ebs_of (by decide +kernel)
theorem xe_G_votes : x_ebs "votes" xT_G_votes := x_ebs_of (by decide +kernel)
theorem xe_m_votes : x_ebs "votes" xT_m_votes := x_ebs_of (by decide +kernel)
theorem xe_G_away : x_ebs "away" xT_G_away := x_ebs_of (by decide +kernel)
theorem xe_m_goes : x_ebs "goes" xT_m_goes := x_ebs_of (by decide +kernel)
theorem xe_m_away : x_ebs "away" xT_m_away := x_ebs_of (by decide +kernel)
theorem xe_W_putOnAgenda : x_ebs "putOnAgenda" xT_W_putOnAgenda := x_ebs_of (by decide +kernel)
theorem xe_G_put : x_ebs "put" xT_G_put := x_ebs_of (by decide +kernel)
theorem xe_m_put : x_ebs "put" xT_m_put := x_ebs_of (by decide +kernel)
theorem xe_G_egg : x_ebs "egg" xT_G_egg := x_ebs_of (by decide +kernel)
theorem xe_m_egg : x_ebs "egg" xT_m_egg := x_ebs_of (by decide +kernel)
theorem xe_G_row : x_ebs "row" xT_G_row := x_ebs_of (by decide +kernel)
theorem xe_m_row : x_ebs "row" xT_m_row := x_ebs_of (by decide +kernel)
theorem xe_R_append : x_ebs "append" xT_R_append := x_ebs_of (by decide +kernel)
theorem xe_G_feed : x_ebs "feed" xT_G_feed := x_ebs_of (by decide +kernel)
theorem xe_m_feed : x_ebs "feed" xT_m_feed := x_ebs_of (by decide +kernel)
theorem xe_Tr_clear : x_ebs "clear" xT_Tr_clear := x_ebs_of (by decide +kernel)
theorem xe_R_signAt : x_ebs "signAt" xT_R_signAt := x_ebs_of (by decide +kernel)
theorem xe_S_coder : x_ebs "coder" xT_S_coder := x_ebs_of (by decide +kernel)
theorem xe_S_length : x_ebs "length" xT_S_length := x_ebs_of (by decide +kernel)
theorem xe_S_isLatin1 : x_ebs "isLatin1" xT_S_isLatin1 := x_ebs_of (by decide +kernel)
theorem xe_Pc_checkIndex : x_ebs "checkIndex" xT_Pc_checkIndex := x_ebs_of (by decide +kernel)
theorem xe_S_checkIndex : x_ebs "checkIndex" xT_S_checkIndex := x_ebs_of (by decide +kernel)
theorem xe_L1_charAt : x_ebs "charAt" xT_L1_charAt := x_ebs_of (by decide +kernel)
theorem xe_S_charAt : x_ebs "charAt" xT_S_charAt := x_ebs_of (by decide +kernel)
theorem xe_R_skip : x_ebs "skip" xT_R_skip := x_ebs_of (by decide +kernel)
theorem xe_R_skipWord : x_ebs "skipWord" xT_R_skipWord := x_ebs_of (by decide +kernel)
theorem xe_R_readNumber : x_ebs "readNumber" xT_R_readNumber := x_ebs_of (by decide +kernel)
theorem xe_R_readQuota : x_ebs "readQuota" xT_R_readQuota := x_ebs_of (by decide +kernel)
theorem xe_L1_canEncode : x_ebs "canEncode" xT_L1_canEncode := x_ebs_of (by decide +kernel)
theorem xe_L1_indexOfChar : x_ebs "indexOfChar" xT_L1_indexOfChar := x_ebs_of (by decide +kernel)
theorem xe_L1_indexOf : x_ebs "indexOf" xT_L1_indexOf := x_ebs_of (by decide +kernel)
theorem xe_S_indexOf2 : x_ebs "indexOf" xT_S_indexOf2 := x_ebs_of (by decide +kernel)
theorem xe_S_indexOf1 : x_ebs "indexOf" xT_S_indexOf1 := x_ebs_of (by decide +kernel)
theorem xe_Tr_testCode : x_ebs "testCode" xT_Tr_testCode := x_ebs_of (by decide +kernel)
theorem xe_Tr_addCode : x_ebs "addCode" xT_Tr_addCode := x_ebs_of (by decide +kernel)
theorem xe_R_readTest : x_ebs "readTest" xT_R_readTest := x_ebs_of (by decide +kernel)
theorem xe_R_readSingle : x_ebs "readSingle" xT_R_readSingle := x_ebs_of (by decide +kernel)
theorem xe_R_readEither : x_ebs "readEither" xT_R_readEither := x_ebs_of (by decide +kernel)
theorem xe_Tr_endClause : x_ebs "endClause" xT_Tr_endClause := x_ebs_of (by decide +kernel)
theorem xe_R_readClause_0 : x_ebs "readClause" xT_R_readClause_0 := x_ebs_of (by decide +kernel)
theorem xe_R_readClause_1 : x_ebs "readClause" xT_R_readClause_1 := x_ebs_of (by decide +kernel)
theorem xe_R_readClause : x_ebs "readClause" xT_R_readClause := x_ebs_app xe_R_readClause_0 (xe_R_readClause_1)
theorem xe_R_readInto : x_ebs "readInto" xT_R_readInto := x_ebs_of (by decide +kernel)
theorem xe_G_treaty : x_ebs "treaty" xT_G_treaty := x_ebs_of (by decide +kernel)
theorem xe_m_next : x_ebs "next" xT_m_next := x_ebs_of (by decide +kernel)
theorem xe_m_takes : x_ebs "takes" xT_m_takes := x_ebs_of (by decide +kernel)
theorem xe_m_takesWord : x_ebs "takesWord" xT_m_takesWord := x_ebs_of (by decide +kernel)
theorem xe_m_second : x_ebs "second" xT_m_second := x_ebs_of (by decide +kernel)
theorem xe_m_takesHead : x_ebs "takesHead" xT_m_takesHead := x_ebs_of (by decide +kernel)
theorem xe_m_isDigit : x_ebs "isDigit" xT_m_isDigit := x_ebs_of (by decide +kernel)
theorem xe_m_takesNumber : x_ebs "takesNumber" xT_m_takesNumber := x_ebs_of (by decide +kernel)
theorem xe_m_place : x_ebs "place" xT_m_place := x_ebs_of (by decide +kernel)
theorem xe_m_emits : x_ebs "emits" xT_m_emits := x_ebs_of (by decide +kernel)
theorem xe_m_whole : x_ebs "whole" xT_m_whole := x_ebs_of (by decide +kernel)
theorem xe_m_takesTest : x_ebs "takesTest" xT_m_takesTest := x_ebs_of (by decide +kernel)
theorem xe_m_settle : x_ebs "settle" xT_m_settle := x_ebs_of (by decide +kernel)
theorem xe_m_takesE_0 : x_ebs "takesE" xT_m_takesE_0 := x_ebs_of (by decide +kernel)
theorem xe_m_takesE_1 : x_ebs "takesE" xT_m_takesE_1 := x_ebs_of (by decide +kernel)
theorem xe_m_takesE_2 : x_ebs "takesE" xT_m_takesE_2 := x_ebs_of (by decide +kernel)
theorem xe_m_takesE : x_ebs "takesE" xT_m_takesE := x_ebs_app xe_m_takesE_0 (x_ebs_app xe_m_takesE_1 (xe_m_takesE_2))
theorem xe_m_takesClause : x_ebs "takesClause" xT_m_takesClause := x_ebs_of (by decide +kernel)
theorem xe_m_goesText : x_ebs "goesText" xT_m_goesText := x_ebs_of (by decide +kernel)
theorem xe_m_treaty : x_ebs "treaty" xT_m_treaty := x_ebs_of (by decide +kernel)
theorem xe_B_beats : x_ebs "beats" xT_B_beats := x_ebs_of (by decide +kernel)
theorem xe_B_doneBy : x_ebs "doneBy" xT_B_doneBy := x_ebs_of (by decide +kernel)
theorem xe_G_doneByAgendaOf : x_ebs "doneByAgendaOf" xT_G_doneByAgendaOf := x_ebs_of (by decide +kernel)
theorem xe_B_leadsAll : x_ebs "leadsAll" xT_B_leadsAll := x_ebs_of (by decide +kernel)
theorem xe_B_winner : x_ebs "winner" xT_B_winner := x_ebs_of (by decide +kernel)
theorem xe_B_isRing : x_ebs "isRing" xT_B_isRing := x_ebs_of (by decide +kernel)
theorem xe_B_rings : x_ebs "rings" xT_B_rings := x_ebs_of (by decide +kernel)
theorem xe_B_bitBehind : x_ebs "bitBehind" xT_B_bitBehind := x_ebs_of (by decide +kernel)
theorem xe_B_layRow : x_ebs "layRow" xT_B_layRow := x_ebs_of (by decide +kernel)
theorem xe_B_rowsFor : x_ebs "rowsFor" xT_B_rowsFor := x_ebs_of (by decide +kernel)
theorem xe_B_neverDone : x_ebs "neverDone" xT_B_neverDone := x_ebs_of (by decide +kernel)
theorem xe_G_told : x_ebs "told" xT_G_told := x_ebs_of (by decide +kernel)
theorem xe_m_quota : x_ebs "quota" xT_m_quota := x_ebs_of (by decide +kernel)
theorem xe_m_layLikes : x_ebs "layLikes" xT_m_layLikes := x_ebs_of (by decide +kernel)
theorem xe_m_votesFor : x_ebs "votesFor" xT_m_votesFor := x_ebs_of (by decide +kernel)
theorem xe_m_beats : x_ebs "beats" xT_m_beats := x_ebs_of (by decide +kernel)
theorem xe_m_layBeats : x_ebs "layBeats" xT_m_layBeats := x_ebs_of (by decide +kernel)
theorem xe_m_doneNow : x_ebs "doneNow" xT_m_doneNow := x_ebs_of (by decide +kernel)
theorem xe_m_beatsAll : x_ebs "beatsAll" xT_m_beatsAll := x_ebs_of (by decide +kernel)
theorem xe_m_first : x_ebs "first" xT_m_first := x_ebs_of (by decide +kernel)
theorem xe_m_goesRound : x_ebs "goesRound" xT_m_goesRound := x_ebs_of (by decide +kernel)
theorem xe_m_rings : x_ebs "rings" xT_m_rings := x_ebs_of (by decide +kernel)
theorem xe_m_layTurn : x_ebs "layTurn" xT_m_layTurn := x_ebs_of (by decide +kernel)
theorem xe_m_doneByTurn : x_ebs "doneByTurn" xT_m_doneByTurn := x_ebs_of (by decide +kernel)
theorem xe_m_rowsFor : x_ebs "rowsFor" xT_m_rowsFor := x_ebs_of (by decide +kernel)
theorem xe_m_lastSet : x_ebs "lastSet" xT_m_lastSet := x_ebs_of (by decide +kernel)
theorem xe_m_told : x_ebs "told" xT_m_told := x_ebs_of (by decide +kernel)
theorem xe_G_isZeroOrOne : x_ebs "isZeroOrOne" xT_G_isZeroOrOne := x_ebs_of (by decide +kernel)
theorem xe_G_against : x_ebs "against" xT_G_against := x_ebs_of (by decide +kernel)
theorem xe_m_against : x_ebs "against" xT_m_against := x_ebs_of (by decide +kernel)
theorem xe_W_endSession : x_ebs "endSession" xT_W_endSession := x_ebs_of (by decide +kernel)
theorem xe_G_goOneSession : x_ebs "goOneSession" xT_G_goOneSession := x_ebs_of (by decide +kernel)
theorem xe_G_pass : x_ebs "pass" xT_G_pass := x_ebs_of (by decide +kernel)
theorem xe_m_isSessions : x_ebs "isSessions" xT_m_isSessions := x_ebs_of (by decide +kernel)
theorem xe_m_least : x_ebs "least" xT_m_least := x_ebs_of (by decide +kernel)
theorem xe_m_goSession : x_ebs "goSession" xT_m_goSession := x_ebs_of (by decide +kernel)
theorem xe_m_goSessions : x_ebs "goSessions" xT_m_goSessions := x_ebs_of (by decide +kernel)
theorem xe_m_pass : x_ebs "pass" xT_m_pass := x_ebs_of (by decide +kernel)
theorem xe_O_become : x_ebs "become" xT_O_become := x_ebs_of (by decide +kernel)
theorem xe_Rw_become : x_ebs "become" xT_Rw_become := x_ebs_of (by decide +kernel)
theorem xe_W_become_0 : x_ebs "become" xT_W_become_0 := x_ebs_of (by decide +kernel)
theorem xe_W_become_1 : x_ebs "become" xT_W_become_1 := x_ebs_of (by decide +kernel)
theorem xe_W_become : x_ebs "become" xT_W_become := x_ebs_app xe_W_become_0 (xe_W_become_1)
theorem xe_G_on : x_ebs "on" xT_G_on := x_ebs_of (by decide +kernel)
theorem xe_m_save : x_ebs "save" xT_m_save := x_ebs_of (by decide +kernel)
theorem xe_m_putBack : x_ebs "putBack" xT_m_putBack := x_ebs_of (by decide +kernel)
theorem xe_m_on : x_ebs "on" xT_m_on := x_ebs_of (by decide +kernel)
theorem xe_B_placeInFirstRowFor : x_ebs "placeInFirstRowFor" xT_B_placeInFirstRowFor := x_ebs_of (by decide +kernel)
theorem xe_G_agenda : x_ebs "agenda" xT_G_agenda := x_ebs_of (by decide +kernel)
theorem xe_m_agenda : x_ebs "agenda" xT_m_agenda := x_ebs_of (by decide +kernel)
theorem xe_In_bitCount : x_ebs "bitCount" xT_In_bitCount := x_ebs_of (by decide +kernel)
theorem xe_B_fewestToSendAway : x_ebs "fewestToSendAway" xT_B_fewestToSendAway := x_ebs_of (by decide +kernel)
theorem xe_G_bribe : x_ebs "bribe" xT_G_bribe := x_ebs_of (by decide +kernel)
theorem xe_m_bits : x_ebs "bits" xT_m_bits := x_ebs_of (by decide +kernel)
theorem xe_m_bribe : x_ebs "bribe" xT_m_bribe := x_ebs_of (by decide +kernel)
theorem xe_G_commonDivisor : x_ebs "commonDivisor" xT_G_commonDivisor := x_ebs_of (by decide +kernel)
theorem xe_G_fraction : x_ebs "fraction" xT_G_fraction := x_ebs_of (by decide +kernel)
theorem xe_G_odds : x_ebs "odds" xT_G_odds := x_ebs_of (by decide +kernel)
theorem xe_m_divisor : x_ebs "divisor" xT_m_divisor := x_ebs_of (by decide +kernel)
theorem xe_m_lowest : x_ebs "lowest" xT_m_lowest := x_ebs_of (by decide +kernel)
theorem xe_m_odds : x_ebs "odds" xT_m_odds := x_ebs_of (by decide +kernel)
theorem xe_B_votesOf : x_ebs "votesOf" xT_B_votesOf := x_ebs_of (by decide +kernel)
theorem xe_B_isMost : x_ebs "isMost" xT_B_isMost := x_ebs_of (by decide +kernel)
theorem xe_B_turns : x_ebs "turns" xT_B_turns := x_ebs_of (by decide +kernel)
theorem xe_B_setsTurnedBy : x_ebs "setsTurnedBy" xT_B_setsTurnedBy := x_ebs_of (by decide +kernel)
theorem xe_G_power : x_ebs "power" xT_G_power := x_ebs_of (by decide +kernel)
theorem xe_m_present : x_ebs "present" xT_m_present := x_ebs_of (by decide +kernel)
theorem xe_m_votesOf : x_ebs "votesOf" xT_m_votesOf := x_ebs_of (by decide +kernel)
theorem xe_m_manyRows : x_ebs "manyRows" xT_m_manyRows := x_ebs_of (by decide +kernel)
theorem xe_m_turned_0 : x_ebs "turned" xT_m_turned_0 := x_ebs_of (by decide +kernel)
theorem xe_m_turned_1 : x_ebs "turned" xT_m_turned_1 := x_ebs_of (by decide +kernel)
theorem xe_m_turned : x_ebs "turned" xT_m_turned := x_ebs_app xe_m_turned_0 (xe_m_turned_1)
theorem xe_m_power : x_ebs "power" xT_m_power := x_ebs_of (by decide +kernel)
theorem xe_B_rowsTurnedBy : x_ebs "rowsTurnedBy" xT_B_rowsTurnedBy := x_ebs_of (by decide +kernel)
theorem xe_G_pivot : x_ebs "pivot" xT_G_pivot := x_ebs_of (by decide +kernel)
theorem xe_m_pivot : x_ebs "pivot" xT_m_pivot := x_ebs_of (by decide +kernel)
theorem xe_B_likedByVotes : x_ebs "likedByVotes" xT_B_likedByVotes := x_ebs_of (by decide +kernel)
theorem xe_G_mean : x_ebs "mean" xT_G_mean := x_ebs_of (by decide +kernel)
theorem xe_m_mean : x_ebs "mean" xT_m_mean := x_ebs_of (by decide +kernel)
theorem xe_Rw_add : x_ebs "add" xT_Rw_add := x_ebs_of (by decide +kernel)
theorem xe_G_see : x_ebs "see" xT_G_see := x_ebs_of (by decide +kernel)
theorem xe_m_see_0 : x_ebs "see" xT_m_see_0 := x_ebs_of (by decide +kernel)
theorem xe_m_see_1 : x_ebs "see" xT_m_see_1 := x_ebs_of (by decide +kernel)
theorem xe_m_see : x_ebs "see" xT_m_see := x_ebs_app xe_m_see_0 (xe_m_see_1)
theorem xe_Rw_at : x_ebs "at" xT_Rw_at := x_ebs_of (by decide +kernel)
theorem xe_G_isAsSeen : x_ebs "isAsSeen" xT_G_isAsSeen := x_ebs_of (by decide +kernel)
theorem xe_G_can : x_ebs "can" xT_G_can := x_ebs_of (by decide +kernel)
theorem xe_m_isSeen : x_ebs "isSeen" xT_m_isSeen := x_ebs_of (by decide +kernel)
theorem xe_m_can : x_ebs "can" xT_m_can := x_ebs_of (by decide +kernel)
theorem xe_G_bases : x_ebs "bases" xT_G_bases := x_ebs_of (by decide +kernel)
theorem xe_m_bases_0 : x_ebs "bases" xT_m_bases_0 := x_ebs_of (by decide +kernel)
theorem xe_m_bases_1 : x_ebs "bases" xT_m_bases_1 := x_ebs_of (by decide +kernel)
theorem xe_m_bases : x_ebs "bases" xT_m_bases := x_ebs_app xe_m_bases_0 (xe_m_bases_1)
theorem xe_G_plan : x_ebs "plan" xT_G_plan := x_ebs_of (by decide +kernel)
theorem xe_m_plan_0 : x_ebs "plan" xT_m_plan_0 := x_ebs_of (by decide +kernel)
theorem xe_m_plan_1 : x_ebs "plan" xT_m_plan_1 := x_ebs_of (by decide +kernel)
theorem xe_m_plan : x_ebs "plan" xT_m_plan := x_ebs_app xe_m_plan_0 (xe_m_plan_1)
theorem xe_W_follow : x_ebs "follow" xT_W_follow := x_ebs_of (by decide +kernel)
theorem xe_W_thingsDone : x_ebs "thingsDone" xT_W_thingsDone := x_ebs_of (by decide +kernel)
theorem xe_G_ends : x_ebs "ends" xT_G_ends := x_ebs_of (by decide +kernel)
theorem xe_m_goPlan : x_ebs "goPlan" xT_m_goPlan := x_ebs_of (by decide +kernel)
theorem xe_m_ends_0 : x_ebs "ends" xT_m_ends_0 := x_ebs_of (by decide +kernel)
theorem xe_m_ends_1 : x_ebs "ends" xT_m_ends_1 := x_ebs_of (by decide +kernel)
theorem xe_m_ends : x_ebs "ends" xT_m_ends := x_ebs_app xe_m_ends_0 (xe_m_ends_1)
theorem xe_G_book : x_ebs "book" xT_G_book := x_ebs_of (by decide +kernel)
theorem xe_m_book : x_ebs "book" xT_m_book := x_ebs_of (by decide +kernel)
theorem xe_G_looked : x_ebs "looked" xT_G_looked := x_ebs_of (by decide +kernel)
theorem xe_m_looked : x_ebs "looked" xT_m_looked := x_ebs_of (by decide +kernel)
theorem xe_G_isTape : x_ebs "isTape" xT_G_isTape := x_ebs_of (by decide +kernel)
theorem xe_Tp_holds : x_ebs "holds" xT_Tp_holds := x_ebs_of (by decide +kernel)
theorem xe_G_judge : x_ebs "judge" xT_G_judge := x_ebs_of (by decide +kernel)
theorem xe_m_isTape : x_ebs "isTape" xT_m_isTape := x_ebs_of (by decide +kernel)
theorem xe_m_judge_0 : x_ebs "judge" xT_m_judge_0 := x_ebs_of (by decide +kernel)
theorem xe_m_judge_1 : x_ebs "judge" xT_m_judge_1 := x_ebs_of (by decide +kernel)
theorem xe_m_judge : x_ebs "judge" xT_m_judge := x_ebs_app xe_m_judge_0 (xe_m_judge_1)
theorem xe_G_image : x_ebs "image" xT_G_image := x_ebs_of (by decide +kernel)
theorem xe_m_image_0 : x_ebs "image" xT_m_image_0 := x_ebs_of (by decide +kernel)
theorem xe_m_image_1 : x_ebs "image" xT_m_image_1 := x_ebs_of (by decide +kernel)
theorem xe_m_image_2 : x_ebs "image" xT_m_image_2 := x_ebs_of (by decide +kernel)
theorem xe_m_image_3 : x_ebs "image" xT_m_image_3 := x_ebs_of (by decide +kernel)
theorem xe_m_image : x_ebs "image" xT_m_image := x_ebs_app xe_m_image_0 (x_ebs_app xe_m_image_1 (x_ebs_app xe_m_image_2 (xe_m_image_3)))
theorem xe_G_undo : x_ebs "undo" xT_G_undo := x_ebs_of (by decide +kernel)
theorem xe_m_undo_0 : x_ebs "undo" xT_m_undo_0 := x_ebs_of (by decide +kernel)
theorem xe_m_undo_1 : x_ebs "undo" xT_m_undo_1 := x_ebs_of (by decide +kernel)
theorem xe_m_undo_2 : x_ebs "undo" xT_m_undo_2 := x_ebs_of (by decide +kernel)
theorem xe_m_undo_3 : x_ebs "undo" xT_m_undo_3 := x_ebs_of (by decide +kernel)
theorem xe_m_undo : x_ebs "undo" xT_m_undo := x_ebs_app xe_m_undo_0 (x_ebs_app xe_m_undo_1 (x_ebs_app xe_m_undo_2 (xe_m_undo_3)))
theorem xe_A_note : x_ebs "note" xT_A_note := x_ebs_of (by decide +kernel)
theorem xe_A_run_0 : x_ebs "run" xT_A_run_0 := x_ebs_of (by decide +kernel)
theorem xe_A_run_1 : x_ebs "run" xT_A_run_1 := x_ebs_of (by decide +kernel)
theorem xe_A_run_2 : x_ebs "run" xT_A_run_2 := x_ebs_of (by decide +kernel)
theorem xe_A_run : x_ebs "run" xT_A_run := x_ebs_app xe_A_run_0 (x_ebs_app xe_A_run_1 (xe_A_run_2))
theorem xe_A_begin : x_ebs "begin" xT_A_begin := x_ebs_of (by decide +kernel)
theorem xe_G_act : x_ebs "act" xT_G_act := x_ebs_of (by decide +kernel)
theorem xe_m_body : x_ebs "body" xT_m_body := x_ebs_of (by decide +kernel)
theorem xe_m_officialClucks : x_ebs "officialClucks" xT_m_officialClucks := x_ebs_of (by decide +kernel)
theorem xe_m_clucksAct : x_ebs "clucksAct" xT_m_clucksAct := x_ebs_of (by decide +kernel)
theorem xe_m_officialLooks : x_ebs "officialLooks" xT_m_officialLooks := x_ebs_of (by decide +kernel)
theorem xe_m_clerkLooks : x_ebs "clerkLooks" xT_m_clerkLooks := x_ebs_of (by decide +kernel)
theorem xe_m_looksAct : x_ebs "looksAct" xT_m_looksAct := x_ebs_of (by decide +kernel)
theorem xe_m_officialTells : x_ebs "officialTells" xT_m_officialTells := x_ebs_of (by decide +kernel)
theorem xe_m_tellsAct : x_ebs "tellsAct" xT_m_tellsAct := x_ebs_of (by decide +kernel)
theorem xe_m_act : x_ebs "act" xT_m_act := x_ebs_of (by decide +kernel)
theorem xe_A_kept : x_ebs "kept" xT_A_kept := x_ebs_of (by decide +kernel)
theorem xe_G_trace : x_ebs "trace" xT_G_trace := x_ebs_of (by decide +kernel)
theorem xe_m_trace : x_ebs "trace" xT_m_trace := x_ebs_of (by decide +kernel)
theorem xe_G_isKindUnder : x_ebs "isKindUnder" xT_G_isKindUnder := x_ebs_of (by decide +kernel)
theorem xe_G_taken : x_ebs "taken" xT_G_taken := x_ebs_of (by decide +kernel)
theorem xe_m_taken : x_ebs "taken" xT_m_taken := x_ebs_of (by decide +kernel)
theorem xe_G_count : x_ebs "count" xT_G_count := x_ebs_of (by decide +kernel)
theorem xe_m_count : x_ebs "count" xT_m_count := x_ebs_of (by decide +kernel)
theorem xe_Tp_start : x_ebs "start" xT_Tp_start := x_ebs_of (by decide +kernel)
theorem xe_G_tape : x_ebs "tape" xT_G_tape := x_ebs_of (by decide +kernel)
theorem xe_m_tape : x_ebs "tape" xT_m_tape := x_ebs_of (by decide +kernel)
theorem xe_Tp_hasPlace : x_ebs "hasPlace" xT_Tp_hasPlace := x_ebs_of (by decide +kernel)
theorem xe_Tp_cut : x_ebs "cut" xT_Tp_cut := x_ebs_of (by decide +kernel)
theorem xe_G_item : x_ebs "item" xT_G_item := x_ebs_of (by decide +kernel)
theorem xe_m_narrow : x_ebs "narrow" xT_m_narrow := x_ebs_of (by decide +kernel)
theorem xe_m_item : x_ebs "item" xT_m_item := x_ebs_of (by decide +kernel)
theorem xe_G_read : x_ebs "read" xT_G_read := x_ebs_of (by decide +kernel)
theorem xe_m_read : x_ebs "read" xT_m_read := x_ebs_of (by decide +kernel)
theorem xe_Tp_hasPlaces : x_ebs "hasPlaces" xT_Tp_hasPlaces := x_ebs_of (by decide +kernel)
theorem xe_G_shift : x_ebs "shift" xT_G_shift := x_ebs_of (by decide +kernel)
theorem xe_m_shift_0 : x_ebs "shift" xT_m_shift_0 := x_ebs_of (by decide +kernel)
theorem xe_m_shift_1 : x_ebs "shift" xT_m_shift_1 := x_ebs_of (by decide +kernel)
theorem xe_m_shift : x_ebs "shift" xT_m_shift := x_ebs_app xe_m_shift_0 (xe_m_shift_1)
theorem xe_law_0 : x_ebs "law" xT_law_0 := x_ebs_of (by decide +kernel)
theorem xe_law_1 : x_ebs "law" xT_law_1 := x_ebs_of (by decide +kernel)
theorem xe_law_2 : x_ebs "law" xT_law_2 := x_ebs_of (by decide +kernel)
theorem xe_law_3 : x_ebs "law" xT_law_3 := x_ebs_of (by decide +kernel)
theorem xe_law_4 : x_ebs "law" xT_law_4 := x_ebs_of (by decide +kernel)
theorem xe_law_5 : x_ebs "law" xT_law_5 := x_ebs_of (by decide +kernel)
theorem xe_law_6 : x_ebs "law" xT_law_6 := x_ebs_of (by decide +kernel)
theorem xe_law_7 : x_ebs "law" xT_law_7 := x_ebs_of (by decide +kernel)
theorem xe_law_8 : x_ebs "law" xT_law_8 := x_ebs_of (by decide +kernel)
theorem xe_law_9 : x_ebs "law" xT_law_9 := x_ebs_of (by decide +kernel)
theorem xe_law_10 : x_ebs "law" xT_law_10 := x_ebs_of (by decide +kernel)
theorem xe_law_11 : x_ebs "law" xT_law_11 := x_ebs_of (by decide +kernel)
theorem xe_law_12 : x_ebs "law" xT_law_12 := x_ebs_of (by decide +kernel)
theorem xe_law_13 : x_ebs "law" xT_law_13 := x_ebs_of (by decide +kernel)
theorem xe_law_14 : x_ebs "law" xT_law_14 := x_ebs_of (by decide +kernel)
theorem xe_law_15 : x_ebs "law" xT_law_15 := x_ebs_of (by decide +kernel)
theorem xe_law_16 : x_ebs "law" xT_law_16 := x_ebs_of (by decide +kernel)
theorem xe_law_17 : x_ebs "law" xT_law_17 := x_ebs_of (by decide +kernel)
theorem xe_law : x_ebs "law" xT_law := x_ebs_app xe_law_0 (x_ebs_app xe_law_1 (x_ebs_app xe_law_2 (x_ebs_app xe_law_3 (x_ebs_app xe_law_4 (x_ebs_app xe_law_5 (x_ebs_app xe_law_6 (x_ebs_app xe_law_7 (x_ebs_app xe_law_8 (x_ebs_app xe_law_9 (x_ebs_app xe_law_10 (x_ebs_app xe_law_11 (x_ebs_app xe_law_12 (x_ebs_app xe_law_13 (x_ebs_app xe_law_14 (x_ebs_app xe_law_15 (x_ebs_app xe_law_16 (xe_law_17)))))))))))))))))
theorem x_all2_0 : x_all2 x_mts_0 x_inf_0 := ⟨⟨xv_Rw_new, xg_Rw_new, xe_Rw_new, xc_Rw_new⟩, ⟨⟨xv_O_new, xg_O_new, xe_O_new, xc_O_new⟩, ⟨⟨xv_W_new, xg_W_new, xe_W_new, xc_W_new⟩, ⟨⟨xv_R_new, xg_R_new, xe_R_new, xc_R_new⟩, ⟨⟨xv_Tr_new, xg_Tr_new, xe_Tr_new, xc_Tr_new⟩, ⟨⟨xv_B_new, xg_B_new, xe_B_new, xc_B_new⟩, ⟨⟨xv_A_new, xg_A_new, xe_A_new, xc_A_new⟩, ⟨⟨xv_Tp_new, xg_Tp_new, xe_Tp_new, xc_Tp_new⟩, ⟨⟨xv_G_new, xg_G_new, xe_G_new, xc_G_new⟩, ⟨⟨xv_m_new, xg_m_new, xe_m_new, xc_m_new⟩, ⟨⟨xv_G_isKind, xg_G_isKind, xe_G_isKind, xc_G_isKind⟩, ⟨⟨xv_G_isDigit, xg_G_isDigit, xe_G_isDigit, xc_G_isDigit⟩, ⟨⟨xv_O_start, xg_O_start, xe_O_start, xc_O_start⟩, ⟨⟨xv_G_official, xg_G_official, xe_G_official, xc_G_official⟩, ⟨⟨xv_m_in, xg_m_in, xe_m_in, xc_m_in⟩, ⟨⟨xv_m_isDigitNumber, xg_m_isDigitNumber, xe_m_isDigitNumber, xc_m_isDigitNumber⟩, trivial⟩⟩⟩⟩⟩⟩⟩⟩⟩⟩⟩⟩⟩⟩⟩⟩
theorem x_all2_1 : x_all2 x_mts_1 x_inf_1 := ⟨⟨xv_m_official, xg_m_official, xe_m_official, xc_m_official⟩, ⟨⟨xv_G_isOfficial, xg_G_isOfficial, xe_G_isOfficial, xc_G_isOfficial⟩, ⟨⟨xv_G_isThing, xg_G_isThing, xe_G_isThing, xc_G_isThing⟩, ⟨⟨xv_G_treatyOf, xg_G_treatyOf, xe_G_treatyOf, xc_G_treatyOf⟩, ⟨⟨xv_Tr_passes, xg_Tr_passes, xe_Tr_passes, xc_Tr_passes⟩, ⟨⟨xv_Tr_isTrue, xg_Tr_isTrue, xe_Tr_isTrue, xc_Tr_isTrue⟩, ⟨⟨xv_Tr_swing, xg_Tr_swing, xe_Tr_swing, xc_Tr_swing⟩, ⟨⟨xv_O_vIfEven, xg_O_vIfEven, xe_O_vIfEven, xc_O_vIfEven⟩, ⟨⟨xv_O_likesBySum, xg_O_likesBySum, xe_O_likesBySum, xc_O_likesBySum⟩, ⟨⟨xv_B_votesFor, xg_B_votesFor, xe_B_votesFor, xc_B_votesFor⟩, ⟨⟨xv_B_leads, xg_B_leads, xe_B_leads, xc_B_leads⟩, ⟨⟨xv_B_weighThings, xg_B_weighThings, xe_B_weighThings, xc_B_weighThings⟩, ⟨⟨xv_B_weigh, xg_B_weigh, xe_B_weigh, xc_B_weigh⟩, ⟨⟨xv_G_ballotOf, xg_G_ballotOf, xe_G_ballotOf, xc_G_ballotOf⟩, ⟨⟨xv_G_of, xg_G_of, xe_G_of, xc_G_of⟩, ⟨⟨xv_m_isOfficial, xg_m_isOfficial, xe_m_isOfficial, xc_m_isOfficial⟩, trivial⟩⟩⟩⟩⟩⟩⟩⟩⟩⟩⟩⟩⟩⟩⟩⟩
theorem x_all2_2 : x_all2 x_mts_2 x_inf_2 := ⟨⟨xv_m_begin, xg_m_begin, xe_m_begin, xc_m_begin⟩, ⟨⟨xv_m_behind, xg_m_behind, xe_m_behind, xc_m_behind⟩, ⟨⟨xv_m_factOf, xg_m_factOf, xe_m_factOf, xc_m_factOf⟩, ⟨⟨xv_m_holds, xg_m_holds, xe_m_holds, xc_m_holds⟩, ⟨⟨xv_m_sum, xg_m_sum, xe_m_sum, xc_m_sum⟩, ⟨⟨xv_m_likes, xg_m_likes, xe_m_likes, xc_m_likes⟩, ⟨⟨xv_m_has, xg_m_has, xe_m_has, xc_m_has⟩, ⟨⟨xv_m_of, xg_m_of, xe_m_of, xc_m_of⟩, ⟨⟨xv_G_base, xg_G_base, xe_G_base, xc_G_base⟩, ⟨⟨xv_m_isThing, xg_m_isThing, xe_m_isThing, xc_m_isThing⟩, ⟨⟨xv_m_base, xg_m_base, xe_m_base, xc_m_base⟩, ⟨⟨xv_G_votes, xg_G_votes, xe_G_votes, xc_G_votes⟩, ⟨⟨xv_m_votes, xg_m_votes, xe_m_votes, xc_m_votes⟩, ⟨⟨xv_G_away, xg_G_away, xe_G_away, xc_G_away⟩, ⟨⟨xv_m_goes, xg_m_goes, xe_m_goes, xc_m_goes⟩, ⟨⟨xv_m_away, xg_m_away, xe_m_away, xc_m_away⟩, trivial⟩⟩⟩⟩⟩⟩⟩⟩⟩⟩⟩⟩⟩⟩⟩⟩
theorem x_all2_3 : x_all2 x_mts_3 x_inf_3 := ⟨⟨xv_W_putOnAgenda, xg_W_putOnAgenda, xe_W_putOnAgenda, xc_W_putOnAgenda⟩, ⟨⟨xv_G_put, xg_G_put, xe_G_put, xc_G_put⟩, ⟨⟨xv_m_put, xg_m_put, xe_m_put, xc_m_put⟩, ⟨⟨xv_G_egg, xg_G_egg, xe_G_egg, xc_G_egg⟩, ⟨⟨xv_m_egg, xg_m_egg, xe_m_egg, xc_m_egg⟩, ⟨⟨xv_G_row, xg_G_row, xe_G_row, xc_G_row⟩, ⟨⟨xv_m_row, xg_m_row, xe_m_row, xc_m_row⟩, ⟨⟨xv_R_append, xg_R_append, xe_R_append, xc_R_append⟩, ⟨⟨xv_G_feed, xg_G_feed, xe_G_feed, xc_G_feed⟩, ⟨⟨xv_m_feed, xg_m_feed, xe_m_feed, xc_m_feed⟩, ⟨⟨xv_Tr_clear, xg_Tr_clear, xe_Tr_clear, xc_Tr_clear⟩, ⟨⟨xv_R_signAt, xg_R_signAt, xe_R_signAt, xc_R_signAt⟩, ⟨⟨xv_S_coder, xg_S_coder, xe_S_coder, xc_S_coder⟩, ⟨⟨xv_S_length, xg_S_length, xe_S_length, xc_S_length⟩, ⟨⟨xv_S_isLatin1, xg_S_isLatin1, xe_S_isLatin1, xc_S_isLatin1⟩, ⟨⟨xv_Pc_checkIndex, xg_Pc_checkIndex, xe_Pc_checkIndex, xc_Pc_checkIndex⟩, trivial⟩⟩⟩⟩⟩⟩⟩⟩⟩⟩⟩⟩⟩⟩⟩⟩
theorem x_all2_4 : x_all2 x_mts_4 x_inf_4 := ⟨⟨xv_S_checkIndex, xg_S_checkIndex, xe_S_checkIndex, xc_S_checkIndex⟩, ⟨⟨xv_L1_charAt, xg_L1_charAt, xe_L1_charAt, xc_L1_charAt⟩, ⟨⟨xv_S_charAt, xg_S_charAt, xe_S_charAt, xc_S_charAt⟩, ⟨⟨xv_R_skip, xg_R_skip, xe_R_skip, xc_R_skip⟩, ⟨⟨xv_R_skipWord, xg_R_skipWord, xe_R_skipWord, xc_R_skipWord⟩, ⟨⟨xv_R_readNumber, xg_R_readNumber, xe_R_readNumber, xc_R_readNumber⟩, ⟨⟨xv_R_readQuota, xg_R_readQuota, xe_R_readQuota, xc_R_readQuota⟩, ⟨⟨xv_L1_canEncode, xg_L1_canEncode, xe_L1_canEncode, xc_L1_canEncode⟩, ⟨⟨xv_L1_indexOfChar, xg_L1_indexOfChar, xe_L1_indexOfChar, xc_L1_indexOfChar⟩, ⟨⟨xv_L1_indexOf, xg_L1_indexOf, xe_L1_indexOf, xc_L1_indexOf⟩, ⟨⟨xv_S_indexOf2, xg_S_indexOf2, xe_S_indexOf2, xc_S_indexOf2⟩, ⟨⟨xv_S_indexOf1, xg_S_indexOf1, xe_S_indexOf1, xc_S_indexOf1⟩, ⟨⟨xv_Tr_testCode, xg_Tr_testCode, xe_Tr_testCode, xc_Tr_testCode⟩, ⟨⟨xv_Tr_addCode, xg_Tr_addCode, xe_Tr_addCode, xc_Tr_addCode⟩, ⟨⟨xv_R_readTest, xg_R_readTest, xe_R_readTest, xc_R_readTest⟩, ⟨⟨xv_R_readSingle, xg_R_readSingle, xe_R_readSingle, xc_R_readSingle⟩, trivial⟩⟩⟩⟩⟩⟩⟩⟩⟩⟩⟩⟩⟩⟩⟩⟩
theorem x_all2_5 : x_all2 x_mts_5 x_inf_5 := ⟨⟨xv_R_readEither, xg_R_readEither, xe_R_readEither, xc_R_readEither⟩, ⟨⟨xv_Tr_endClause, xg_Tr_endClause, xe_Tr_endClause, xc_Tr_endClause⟩, ⟨⟨xv_R_readClause, xg_R_readClause, xe_R_readClause, xc_R_readClause⟩, ⟨⟨xv_R_readInto, xg_R_readInto, xe_R_readInto, xc_R_readInto⟩, ⟨⟨xv_G_treaty, xg_G_treaty, xe_G_treaty, xc_G_treaty⟩, ⟨⟨xv_m_next, xg_m_next, xe_m_next, xc_m_next⟩, ⟨⟨xv_m_takes, xg_m_takes, xe_m_takes, xc_m_takes⟩, ⟨⟨xv_m_takesWord, xg_m_takesWord, xe_m_takesWord, xc_m_takesWord⟩, ⟨⟨xv_m_second, xg_m_second, xe_m_second, xc_m_second⟩, ⟨⟨xv_m_takesHead, xg_m_takesHead, xe_m_takesHead, xc_m_takesHead⟩, ⟨⟨xv_m_isDigit, xg_m_isDigit, xe_m_isDigit, xc_m_isDigit⟩, ⟨⟨xv_m_takesNumber, xg_m_takesNumber, xe_m_takesNumber, xc_m_takesNumber⟩, ⟨⟨xv_m_place, xg_m_place, xe_m_place, xc_m_place⟩, ⟨⟨xv_m_emits, xg_m_emits, xe_m_emits, xc_m_emits⟩, ⟨⟨xv_m_whole, xg_m_whole, xe_m_whole, xc_m_whole⟩, ⟨⟨xv_m_takesTest, xg_m_takesTest, xe_m_takesTest, xc_m_takesTest⟩, trivial⟩⟩⟩⟩⟩⟩⟩⟩⟩⟩⟩⟩⟩⟩⟩⟩
theorem x_all2_6 : x_all2 x_mts_6 x_inf_6 := ⟨⟨xv_m_settle, xg_m_settle, xe_m_settle, xc_m_settle⟩, ⟨⟨xv_m_takesE, xg_m_takesE, xe_m_takesE, xc_m_takesE⟩, ⟨⟨xv_m_takesClause, xg_m_takesClause, xe_m_takesClause, xc_m_takesClause⟩, ⟨⟨xv_m_goesText, xg_m_goesText, xe_m_goesText, xc_m_goesText⟩, ⟨⟨xv_m_treaty, xg_m_treaty, xe_m_treaty, xc_m_treaty⟩, ⟨⟨xv_B_beats, xg_B_beats, xe_B_beats, xc_B_beats⟩, ⟨⟨xv_B_doneBy, xg_B_doneBy, xe_B_doneBy, xc_B_doneBy⟩, ⟨⟨xv_G_doneByAgendaOf, xg_G_doneByAgendaOf, xe_G_doneByAgendaOf, xc_G_doneByAgendaOf⟩, ⟨⟨xv_B_leadsAll, xg_B_leadsAll, xe_B_leadsAll, xc_B_leadsAll⟩, ⟨⟨xv_B_winner, xg_B_winner, xe_B_winner, xc_B_winner⟩, ⟨⟨xv_B_isRing, xg_B_isRing, xe_B_isRing, xc_B_isRing⟩, ⟨⟨xv_B_rings, xg_B_rings, xe_B_rings, xc_B_rings⟩, ⟨⟨xv_B_bitBehind, xg_B_bitBehind, xe_B_bitBehind, xc_B_bitBehind⟩, ⟨⟨xv_B_layRow, xg_B_layRow, xe_B_layRow, xc_B_layRow⟩, ⟨⟨xv_B_rowsFor, xg_B_rowsFor, xe_B_rowsFor, xc_B_rowsFor⟩, ⟨⟨xv_B_neverDone, xg_B_neverDone, xe_B_neverDone, xc_B_neverDone⟩, trivial⟩⟩⟩⟩⟩⟩⟩⟩⟩⟩⟩⟩⟩⟩⟩⟩
theorem x_all2_7 : x_all2 x_mts_7 x_inf_7 := ⟨⟨xv_G_told, xg_G_told, xe_G_told, xc_G_told⟩, ⟨⟨xv_m_quota, xg_m_quota, xe_m_quota, xc_m_quota⟩, ⟨⟨xv_m_layLikes, xg_m_layLikes, xe_m_layLikes, xc_m_layLikes⟩, ⟨⟨xv_m_votesFor, xg_m_votesFor, xe_m_votesFor, xc_m_votesFor⟩, ⟨⟨xv_m_beats, xg_m_beats, xe_m_beats, xc_m_beats⟩, ⟨⟨xv_m_layBeats, xg_m_layBeats, xe_m_layBeats, xc_m_layBeats⟩, ⟨⟨xv_m_doneNow, xg_m_doneNow, xe_m_doneNow, xc_m_doneNow⟩, ⟨⟨xv_m_beatsAll, xg_m_beatsAll, xe_m_beatsAll, xc_m_beatsAll⟩, ⟨⟨xv_m_first, xg_m_first, xe_m_first, xc_m_first⟩, ⟨⟨xv_m_goesRound, xg_m_goesRound, xe_m_goesRound, xc_m_goesRound⟩, ⟨⟨xv_m_rings, xg_m_rings, xe_m_rings, xc_m_rings⟩, ⟨⟨xv_m_layTurn, xg_m_layTurn, xe_m_layTurn, xc_m_layTurn⟩, ⟨⟨xv_m_doneByTurn, xg_m_doneByTurn, xe_m_doneByTurn, xc_m_doneByTurn⟩, ⟨⟨xv_m_rowsFor, xg_m_rowsFor, xe_m_rowsFor, xc_m_rowsFor⟩, ⟨⟨xv_m_lastSet, xg_m_lastSet, xe_m_lastSet, xc_m_lastSet⟩, ⟨⟨xv_m_told, xg_m_told, xe_m_told, xc_m_told⟩, trivial⟩⟩⟩⟩⟩⟩⟩⟩⟩⟩⟩⟩⟩⟩⟩⟩
theorem x_all2_8 : x_all2 x_mts_8 x_inf_8 := ⟨⟨xv_G_isZeroOrOne, xg_G_isZeroOrOne, xe_G_isZeroOrOne, xc_G_isZeroOrOne⟩, ⟨⟨xv_G_against, xg_G_against, xe_G_against, xc_G_against⟩, ⟨⟨xv_m_against, xg_m_against, xe_m_against, xc_m_against⟩, ⟨⟨xv_W_endSession, xg_W_endSession, xe_W_endSession, xc_W_endSession⟩, ⟨⟨xv_G_goOneSession, xg_G_goOneSession, xe_G_goOneSession, xc_G_goOneSession⟩, ⟨⟨xv_G_pass, xg_G_pass, xe_G_pass, xc_G_pass⟩, ⟨⟨xv_m_isSessions, xg_m_isSessions, xe_m_isSessions, xc_m_isSessions⟩, ⟨⟨xv_m_least, xg_m_least, xe_m_least, xc_m_least⟩, ⟨⟨xv_m_goSession, xg_m_goSession, xe_m_goSession, xc_m_goSession⟩, ⟨⟨xv_m_goSessions, xg_m_goSessions, xe_m_goSessions, xc_m_goSessions⟩, ⟨⟨xv_m_pass, xg_m_pass, xe_m_pass, xc_m_pass⟩, ⟨⟨xv_O_become, xg_O_become, xe_O_become, xc_O_become⟩, ⟨⟨xv_Rw_become, xg_Rw_become, xe_Rw_become, xc_Rw_become⟩, ⟨⟨xv_W_become, xg_W_become, xe_W_become, xc_W_become⟩, ⟨⟨xv_G_on, xg_G_on, xe_G_on, xc_G_on⟩, ⟨⟨xv_m_save, xg_m_save, xe_m_save, xc_m_save⟩, trivial⟩⟩⟩⟩⟩⟩⟩⟩⟩⟩⟩⟩⟩⟩⟩⟩
theorem x_all2_9 : x_all2 x_mts_9 x_inf_9 := ⟨⟨xv_m_putBack, xg_m_putBack, xe_m_putBack, xc_m_putBack⟩, ⟨⟨xv_m_on, xg_m_on, xe_m_on, xc_m_on⟩, ⟨⟨xv_B_placeInFirstRowFor, xg_B_placeInFirstRowFor, xe_B_placeInFirstRowFor, xc_B_placeInFirstRowFor⟩, ⟨⟨xv_G_agenda, xg_G_agenda, xe_G_agenda, xc_G_agenda⟩, ⟨⟨xv_m_agenda, xg_m_agenda, xe_m_agenda, xc_m_agenda⟩, ⟨⟨xv_In_bitCount, xg_In_bitCount, xe_In_bitCount, xc_In_bitCount⟩, ⟨⟨xv_B_fewestToSendAway, xg_B_fewestToSendAway, xe_B_fewestToSendAway, xc_B_fewestToSendAway⟩, ⟨⟨xv_G_bribe, xg_G_bribe, xe_G_bribe, xc_G_bribe⟩, ⟨⟨xv_m_bits, xg_m_bits, xe_m_bits, xc_m_bits⟩, ⟨⟨xv_m_bribe, xg_m_bribe, xe_m_bribe, xc_m_bribe⟩, ⟨⟨xv_G_commonDivisor, xg_G_commonDivisor, xe_G_commonDivisor, xc_G_commonDivisor⟩, ⟨⟨xv_G_fraction, xg_G_fraction, xe_G_fraction, xc_G_fraction⟩, ⟨⟨xv_G_odds, xg_G_odds, xe_G_odds, xc_G_odds⟩, ⟨⟨xv_m_divisor, xg_m_divisor, xe_m_divisor, xc_m_divisor⟩, ⟨⟨xv_m_lowest, xg_m_lowest, xe_m_lowest, xc_m_lowest⟩, ⟨⟨xv_m_odds, xg_m_odds, xe_m_odds, xc_m_odds⟩, trivial⟩⟩⟩⟩⟩⟩⟩⟩⟩⟩⟩⟩⟩⟩⟩⟩
theorem x_all2_10 : x_all2 x_mts_10 x_inf_10 := ⟨⟨xv_B_votesOf, xg_B_votesOf, xe_B_votesOf, xc_B_votesOf⟩, ⟨⟨xv_B_isMost, xg_B_isMost, xe_B_isMost, xc_B_isMost⟩, ⟨⟨xv_B_turns, xg_B_turns, xe_B_turns, xc_B_turns⟩, ⟨⟨xv_B_setsTurnedBy, xg_B_setsTurnedBy, xe_B_setsTurnedBy, xc_B_setsTurnedBy⟩, ⟨⟨xv_G_power, xg_G_power, xe_G_power, xc_G_power⟩, ⟨⟨xv_m_present, xg_m_present, xe_m_present, xc_m_present⟩, ⟨⟨xv_m_votesOf, xg_m_votesOf, xe_m_votesOf, xc_m_votesOf⟩, ⟨⟨xv_m_manyRows, xg_m_manyRows, xe_m_manyRows, xc_m_manyRows⟩, ⟨⟨xv_m_turned, xg_m_turned, xe_m_turned, xc_m_turned⟩, ⟨⟨xv_m_power, xg_m_power, xe_m_power, xc_m_power⟩, ⟨⟨xv_B_rowsTurnedBy, xg_B_rowsTurnedBy, xe_B_rowsTurnedBy, xc_B_rowsTurnedBy⟩, ⟨⟨xv_G_pivot, xg_G_pivot, xe_G_pivot, xc_G_pivot⟩, ⟨⟨xv_m_pivot, xg_m_pivot, xe_m_pivot, xc_m_pivot⟩, ⟨⟨xv_B_likedByVotes, xg_B_likedByVotes, xe_B_likedByVotes, xc_B_likedByVotes⟩, ⟨⟨xv_G_mean, xg_G_mean, xe_G_mean, xc_G_mean⟩, ⟨⟨xv_m_mean, xg_m_mean, xe_m_mean, xc_m_mean⟩, trivial⟩⟩⟩⟩⟩⟩⟩⟩⟩⟩⟩⟩⟩⟩⟩⟩
theorem x_all2_11 : x_all2 x_mts_11 x_inf_11 := ⟨⟨xv_Rw_add, xg_Rw_add, xe_Rw_add, xc_Rw_add⟩, ⟨⟨xv_G_see, xg_G_see, xe_G_see, xc_G_see⟩, ⟨⟨xv_m_see, xg_m_see, xe_m_see, xc_m_see⟩, ⟨⟨xv_Rw_at, xg_Rw_at, xe_Rw_at, xc_Rw_at⟩, ⟨⟨xv_G_isAsSeen, xg_G_isAsSeen, xe_G_isAsSeen, xc_G_isAsSeen⟩, ⟨⟨xv_G_can, xg_G_can, xe_G_can, xc_G_can⟩, ⟨⟨xv_m_isSeen, xg_m_isSeen, xe_m_isSeen, xc_m_isSeen⟩, ⟨⟨xv_m_can, xg_m_can, xe_m_can, xc_m_can⟩, ⟨⟨xv_G_bases, xg_G_bases, xe_G_bases, xc_G_bases⟩, ⟨⟨xv_m_bases, xg_m_bases, xe_m_bases, xc_m_bases⟩, ⟨⟨xv_G_plan, xg_G_plan, xe_G_plan, xc_G_plan⟩, ⟨⟨xv_m_plan, xg_m_plan, xe_m_plan, xc_m_plan⟩, ⟨⟨xv_W_follow, xg_W_follow, xe_W_follow, xc_W_follow⟩, ⟨⟨xv_W_thingsDone, xg_W_thingsDone, xe_W_thingsDone, xc_W_thingsDone⟩, ⟨⟨xv_G_ends, xg_G_ends, xe_G_ends, xc_G_ends⟩, ⟨⟨xv_m_goPlan, xg_m_goPlan, xe_m_goPlan, xc_m_goPlan⟩, trivial⟩⟩⟩⟩⟩⟩⟩⟩⟩⟩⟩⟩⟩⟩⟩⟩
theorem x_all2_12 : x_all2 x_mts_12 x_inf_12 := ⟨⟨xv_m_ends, xg_m_ends, xe_m_ends, xc_m_ends⟩, ⟨⟨xv_G_book, xg_G_book, xe_G_book, xc_G_book⟩, ⟨⟨xv_m_book, xg_m_book, xe_m_book, xc_m_book⟩, ⟨⟨xv_G_looked, xg_G_looked, xe_G_looked, xc_G_looked⟩, ⟨⟨xv_m_looked, xg_m_looked, xe_m_looked, xc_m_looked⟩, ⟨⟨xv_G_isTape, xg_G_isTape, xe_G_isTape, xc_G_isTape⟩, ⟨⟨xv_Tp_holds, xg_Tp_holds, xe_Tp_holds, xc_Tp_holds⟩, ⟨⟨xv_G_judge, xg_G_judge, xe_G_judge, xc_G_judge⟩, ⟨⟨xv_m_isTape, xg_m_isTape, xe_m_isTape, xc_m_isTape⟩, ⟨⟨xv_m_judge, xg_m_judge, xe_m_judge, xc_m_judge⟩, ⟨⟨xv_G_image, xg_G_image, xe_G_image, xc_G_image⟩, ⟨⟨xv_m_image, xg_m_image, xe_m_image, xc_m_image⟩, ⟨⟨xv_G_undo, xg_G_undo, xe_G_undo, xc_G_undo⟩, ⟨⟨xv_m_undo, xg_m_undo, xe_m_undo, xc_m_undo⟩, ⟨⟨xv_A_note, xg_A_note, xe_A_note, xc_A_note⟩, ⟨⟨xv_A_run, xg_A_run, xe_A_run, xc_A_run⟩, trivial⟩⟩⟩⟩⟩⟩⟩⟩⟩⟩⟩⟩⟩⟩⟩⟩
theorem x_all2_13 : x_all2 x_mts_13 x_inf_13 := ⟨⟨xv_A_begin, xg_A_begin, xe_A_begin, xc_A_begin⟩, ⟨⟨xv_G_act, xg_G_act, xe_G_act, xc_G_act⟩, ⟨⟨xv_m_body, xg_m_body, xe_m_body, xc_m_body⟩, ⟨⟨xv_m_officialClucks, xg_m_officialClucks, xe_m_officialClucks, xc_m_officialClucks⟩, ⟨⟨xv_m_clucksAct, xg_m_clucksAct, xe_m_clucksAct, xc_m_clucksAct⟩, ⟨⟨xv_m_officialLooks, xg_m_officialLooks, xe_m_officialLooks, xc_m_officialLooks⟩, ⟨⟨xv_m_clerkLooks, xg_m_clerkLooks, xe_m_clerkLooks, xc_m_clerkLooks⟩, ⟨⟨xv_m_looksAct, xg_m_looksAct, xe_m_looksAct, xc_m_looksAct⟩, ⟨⟨xv_m_officialTells, xg_m_officialTells, xe_m_officialTells, xc_m_officialTells⟩, ⟨⟨xv_m_tellsAct, xg_m_tellsAct, xe_m_tellsAct, xc_m_tellsAct⟩, ⟨⟨xv_m_act, xg_m_act, xe_m_act, xc_m_act⟩, ⟨⟨xv_A_kept, xg_A_kept, xe_A_kept, xc_A_kept⟩, ⟨⟨xv_G_trace, xg_G_trace, xe_G_trace, xc_G_trace⟩, ⟨⟨xv_m_trace, xg_m_trace, xe_m_trace, xc_m_trace⟩, ⟨⟨xv_G_isKindUnder, xg_G_isKindUnder, xe_G_isKindUnder, xc_G_isKindUnder⟩, ⟨⟨xv_G_taken, xg_G_taken, xe_G_taken, xc_G_taken⟩, trivial⟩⟩⟩⟩⟩⟩⟩⟩⟩⟩⟩⟩⟩⟩⟩⟩
theorem x_all2_14 : x_all2 x_mts_14 x_inf_14 := ⟨⟨xv_m_taken, xg_m_taken, xe_m_taken, xc_m_taken⟩, ⟨⟨xv_G_count, xg_G_count, xe_G_count, xc_G_count⟩, ⟨⟨xv_m_count, xg_m_count, xe_m_count, xc_m_count⟩, ⟨⟨xv_Tp_start, xg_Tp_start, xe_Tp_start, xc_Tp_start⟩, ⟨⟨xv_G_tape, xg_G_tape, xe_G_tape, xc_G_tape⟩, ⟨⟨xv_m_tape, xg_m_tape, xe_m_tape, xc_m_tape⟩, ⟨⟨xv_Tp_hasPlace, xg_Tp_hasPlace, xe_Tp_hasPlace, xc_Tp_hasPlace⟩, ⟨⟨xv_Tp_cut, xg_Tp_cut, xe_Tp_cut, xc_Tp_cut⟩, ⟨⟨xv_G_item, xg_G_item, xe_G_item, xc_G_item⟩, ⟨⟨xv_m_narrow, xg_m_narrow, xe_m_narrow, xc_m_narrow⟩, ⟨⟨xv_m_item, xg_m_item, xe_m_item, xc_m_item⟩, ⟨⟨xv_G_read, xg_G_read, xe_G_read, xc_G_read⟩, ⟨⟨xv_m_read, xg_m_read, xe_m_read, xc_m_read⟩, ⟨⟨xv_Tp_hasPlaces, xg_Tp_hasPlaces, xe_Tp_hasPlaces, xc_Tp_hasPlaces⟩, ⟨⟨xv_G_shift, xg_G_shift, xe_G_shift, xc_G_shift⟩, ⟨⟨xv_m_shift, xg_m_shift, xe_m_shift, xc_m_shift⟩, trivial⟩⟩⟩⟩⟩⟩⟩⟩⟩⟩⟩⟩⟩⟩⟩⟩
theorem x_all2_all : x_all2 x_mts x_inf := x_all2_app rfl x_all2_0 (x_all2_app rfl x_all2_1 (x_all2_app rfl x_all2_2 (x_all2_app rfl x_all2_3 (x_all2_app rfl x_all2_4 (x_all2_app rfl x_all2_5 (x_all2_app rfl x_all2_6 (x_all2_app rfl x_all2_7 (x_all2_app rfl x_all2_8 (x_all2_app rfl x_all2_9 (x_all2_app rfl x_all2_10 (x_all2_app rfl x_all2_11 (x_all2_app rfl x_all2_12 (x_all2_app rfl x_all2_13 (x_all2_14))))))))))))))
theorem x_good {μ : Nat} {M : xMt} (h : x_mts[μ]? = some M) : ∃ q, x_inf[μ]? = some q ∧ x_ok q.1.cls q.2.1 M.2.2 ∧ x_gb M q = true ∧ x_ebs q.1.name M.2.2 ∧ lw_tbl[q.2.2.2.2.1]? = some (.code q.1 q.2.1 M.2.1 q.2.2.1) := x_all2_get x_all2_all h
