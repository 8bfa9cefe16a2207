/-! one instruction of the mini machine, on the machine -/
def x_A (g : xG) : Nat → Prop := fun q => g.1 ≤ q
def x_tys (g : xG) : List (ClassId × FieldType) := [(g.2.2.2.2 20, .int), (g.2.2.2.2 21, .byte), (g.2.2.2.2 22, .boolean), (g.2.2.2.2 23, .long), (g.2.2.2.2 32, .object RX2), (g.2.2.2.2 35, .object RX5), (g.2.2.2.2 36, .object RX6), (g.2.2.2.2 40, .array .int)]
def x_lens : List Nat := [5, 7, 6, 6, 3]
def x_byts : List (List Int32) := [[108, 105, 107, 101, 32], [108, 111, 97, 116, 104, 101, 32], [113, 117, 111, 116, 97, 32], [112, 107, 118, 120, 103, 115], [60, 61, 62]]
def x_txt (i : Nat) : String := ["like ", "loathe ", "quota ", "pkvxgs", "<=>"].getD i ""
def x_tix (i : Nat) : Nat := [50, 48, 39, 76, 84].getD i 0
def x_SF (g : xG) (sc : List Int) (U : State) (H : Heap) : Prop :=
  va_Z "GooseVotes" "KIND_ABOVE" "[I" (.ref (g.2.1 1001)) (x_A g) U H ∧ va_Z "GooseVotes" "FACTORIALS" "[I" (.ref (g.2.1 1002)) (x_A g) U H ∧ va_Z "GooseVotes$Acts" "BODY" "[I" (.ref (g.2.1 1003)) (x_A g) U H ∧
  va_Z "java/lang/String" "COMPACT_STRINGS" "Z" (.int 1) (x_A g) U H ∧ va_Z "jdk/internal/util/Preconditions" "SIOOBE_FORMATTER" "Ljava/util/function/BiFunction;" g.2.2.1 (x_A g) U H ∧
  (∀ k tag ct, x_cArr sc k = some (tag, ct) → ct.length < 2147483648 ∧ va_T (if tag = 20 then .int else .byte) (g.2.1 k) ct.length (fun j => .int (i3 (ct.getD j 0))) (x_A g) U H) ∧
  vk_S 5 x_lens x_byts (fun i => g.2.1 (1010 + i)) (fun i => g.2.1 (1020 + i)) (x_A g) U H ∧ ∀ i, i < 5 → vk_R "GooseVotes$Reader" (x_tix i) (x_txt i) (g.2.1 (1010 + i)) U
/-- the words that are used -/
def x_use (w : Cond) : Bool := goodWord w || (match w with
  | .methodLinkNest .. | .fieldLinkNest .. | .arrayOver _ | .stringRef .. => true
  | _ => false)
def lw_use : List Cond := lw_tbl.filter x_use
theorem x_mu {i : Nat} {w : Cond} (h : lw_tbl[i]? = some w) (hu : x_use w = true) : w ∈ lw_use := List.mem_filter.mpr ⟨List.mem_of_getElem? h, hu⟩
theorem x_in_use {C : String} {T : u_T} {N : Nat} (h : ∀ w ∈ u_ws C T N, w ∈ lw_tbl) : ∀ w ∈ u_ws C T N, w ∈ lw_use := fun w hw => List.mem_filter.mpr ⟨h w hw, by
  obtain ⟨k, -, rfl⟩ := List.mem_map.mp hw
  unfold u_lay
  split <;> rfl⟩
def x_ml (g : xG) (ls : xLc) : List (Nat × Value) := ls.map (fun q => (q.1, x_em g q.2))
abbrev x_Cx (g : xG) (sc : List Int) (p : Program) (s : State) (mm : MethodId) (args : Array Value) (c : Code) (own : String) (bts : ByteArray) (nL : Nat) : Prop :=
  CallFix p mm c bts nL s args lw_use own ∧ va_K g.2.2.2.1 vwCl (x_tys g) s ∧ x_SF g sc s s.heap ∧ g.2.2.1.category = 1 ∧ g.1 ≤ s.heap.size
def x_Step (p : Program) (l : Launch) (en : Env) (R : Room) (s : State) (mm : MethodId) (args : Array Value) (below : List Frame) (meth : Method) (c : Code) (Q : State → Prop) (g : xG) (sc : List Int) (own : String) (bts : ByteArray) (nL : Nat) (e : xEnt) : Prop :=
  ∀ (w pc : Nat) (ls : xLc) (st : List xPV) (m : xMem) (pc' : Nat) (ls' : xLc) (st' : List xPV) (m' : xMem) (H : Heap) (locs : List Loc) (lsA : Array Slot) (cells slots : Nat), x_val own pc e w = true → decode bts pc = .ok (e.1, e.2.1) → x_sm sc nL e pc ls st m = some (pc', ls', st', m') →
    x_E g m H → va_S (x_A g) s.heap H locs → lv_has lsA nL (x_ml g ls) →
    (∀ (H' : Heap) (locs' : List Loc) (lsA' : Array Slot), x_E g m' H' → va_S (x_A g) s.heap H' locs' → lv_has lsA' nL (x_ml g ls') → W p l en R s mm args below meth c H' locs' cells slots Q (F0 mm pc' lsA' (st'.map (x_em g)))) →
    W p l en R s mm args below meth c H locs cells slots Q (F0 mm pc lsA (st.map (x_em g)))
theorem x_get_at {g : xG} {lsA : Array Slot} {nL a : Nat} {ls : xLc} {v : xPV} (h : lv_has lsA nL (x_ml g ls)) (hv : x_get ls a = some v) : lsA[a]? = some (.val (x_em g v)) := by
  have hm : (a, x_em g v) ∈ x_ml g ls := by
    clear h
    induction ls with
    | nil => simp [x_get] at hv
    | cons q ls ih =>
      unfold x_get at hv
      split at hv
      · next hq => cases hv; subst hq; exact List.mem_cons_self
      · exact List.mem_cons_of_mem _ (ih hv)
  exact h.2.2 (a, x_em g v) hm
theorem x_get_ix {g : xG} {a : Nat} {ls : xLc} {v : xPV} (hv : x_get ls a = some v) : ∃ k : Nat, (x_ml g ls)[k]? = some (a, x_em g v) := by
  induction ls with
  | nil => simp [x_get] at hv
  | cons q ls ih =>
    unfold x_get at hv
    split at hv
    · next hq => cases hv; subst hq; exact ⟨0, rfl⟩
    · obtain ⟨k, hk⟩ := ih hv
      exact ⟨k + 1, hk⟩
theorem x_ml_st1 {g : xG} (hfv : g.2.2.1.category = 1) (ls : xLc) (i : Nat) (v : xPV) : (i, x_em g v) :: (x_ml g ls).filter (fun q => !(q.1 == i) && !(q.1 + 1 == i && q.2.category == 2)) = x_ml g (x_st1 ls i v) := by
  unfold x_st1 x_ml
  rw [List.map_cons, List.filter_map]
  congr 3
  funext q
  simp only [Function.comp, x_cat_em g hfv]
theorem z_and_i3 (a b : Int) : i3 (z_and a b) = i3 a &&& i3 b := i3_of _
theorem z_or_i3 (a b : Int) : i3 (z_or a b) = i3 a ||| i3 b := i3_of _
theorem z_xor_i3 (a b : Int) : i3 (z_xor a b) = i3 a ^^^ i3 b := i3_of _
theorem z_shl_i3 (a b : Int) : i3 (z_shl a b) = i3 a <<< (i3 b &&& 31) := i3_of _
theorem z_shr_i3 (a b : Int) : i3 (z_shr a b) = i3 a >>> (i3 b &&& 31) := i3_of _
theorem i3_eq0 {z : Int} : i3 z = 0 ↔ wr z = 0 := by rw [← i3_0, i3_inj, wr_0]
theorem i3_lt0 {z : Int} : i3 z < 0 ↔ wr z < 0 := by rw [show (0 : Int32) = i3 0 from i3_0.symm, i3_lt, wr_0]
theorem i3_gt0 {z : Int} : 0 < i3 z ↔ 0 < wr z := by rw [show (0 : Int32) = i3 0 from i3_0.symm, i3_lt, wr_0]
theorem i3_ge0 {z : Int} : 0 ≤ i3 z ↔ 0 ≤ wr z := by rw [show (0 : Int32) = i3 0 from i3_0.symm, i3_le, wr_0]
theorem i3_le0 {z : Int} : i3 z ≤ 0 ↔ wr z ≤ 0 := by rw [show (0 : Int32) = i3 0 from i3_0.symm, i3_le, wr_0]
theorem x_em_ref {g : xG} (hfr : g.2.2.1 = .null ∨ ∃ a, g.2.2.1 = .ref a) (v : Nat) : x_em g (.inr (.inr v)) = .null ∨ ∃ a, x_em g (.inr (.inr v)) = .ref a := by
  show (if v < 1000 then Value.ref (g.1 + v) else if v = 1030 then g.2.2.1 else if v = 1031 then .null else .ref (g.2.1 v)) = .null ∨ ∃ a, (if v < 1000 then Value.ref (g.1 + v) else if v = 1030 then g.2.2.1 else if v = 1031 then .null else .ref (g.2.1 v)) = .ref a
  split
  · exact Or.inr ⟨_, rfl⟩
  · split
    · exact hfr
    · split
      · exact Or.inl rfl
      · exact Or.inr ⟨_, rfl⟩
theorem x_lks (pc : Nat) (d x : Int) (ps : List (Int × Int)) (h0 : 0 ≤ (pc : Int) + d) (h1 : ps.all (fun o => decide (0 ≤ (pc : Int) + o.2)) = true) : 0 ≤ (pc : Int) + Op.lookupswitch.offset ps d x := by
  induction ps with
  | nil => exact h0
  | cons q ps ih =>
    simp only [List.all_cons, Bool.and_eq_true, decide_eq_true_eq] at h1
    obtain ⟨qa, qo⟩ := q
    rw [Op.lookupswitch.offset_cons]
    split
    · exact h1.1
    · exact ih h1.2
