/-! the constants at the law's entry -/
def x_FL : List Cond := flatC (Jvm.Cond.and given_1 narrow_1)
def x_tS (i : Nat) : Term := .string "GooseVotes$Reader" (x_tix i)
def x_tV (i : Nat) : Term := .field (x_tS i) "java/lang/String" "value" "[B"
def x_tK : Term := .static "GooseVotes" "KIND_ABOVE" "[I"
def x_tF : Term := .static "GooseVotes" "FACTORIALS" "[I"
def x_tB : Term := .static "GooseVotes$Acts" "BODY" "[I"
def x_cK : List Int := [-1, 0, 0, 0, 1, 2, 3]
def x_cF : List Int := [1, 1, 2, 6, 24, 120, 720]
def x_cB : List Int := [10, 11, 12, 10, 20, 12, 30, 11, 12, 10, 11, 40, 50, 51, 12, 30, 11, 60, 71, 70, 40]
theorem x_fl1 : ∀ i, i < 5 → Cond.exactly (x_tS i) "java/lang/String" ∈ x_FL ∧ Cond.eq (.field (x_tS i) "java/lang/String" "coder" "B") (.int 0) ∈ x_FL ∧ Cond.arrayOf (x_tV i) .byte ∈ x_FL ∧ Cond.eq (.length (x_tV i)) (.int (Int32.ofNat (x_lens.getD i 0))) ∈ x_FL ∧ ∀ j, j < x_lens.getD i 0 → Cond.eq (.elem (x_tV i) (.int (Int32.ofNat j))) (.int ((x_byts.getD i []).getD j 0)) ∈ x_FL := by decide +kernel
theorem x_fl2 : ∀ i, i < 5 → ∀ j, j < 5 → i ≠ j → Cond.not (Cond.eq (x_tS i) (x_tS j)) ∈ x_FL ∨ Cond.not (Cond.eq (x_tS j) (x_tS i)) ∈ x_FL := by decide +kernel
theorem x_fl3 : (Cond.arrayOf x_tK .int ∈ x_FL ∧ Cond.eq (.length x_tK) (.int (Int32.ofNat 7)) ∈ x_FL ∧ ∀ j, j < 7 → Cond.eq (.elem x_tK (.int (Int32.ofNat j))) (.int (i3 (x_cK.getD j 0))) ∈ x_FL) ∧ (Cond.arrayOf x_tF .int ∈ x_FL ∧ Cond.eq (.length x_tF) (.int (Int32.ofNat 7)) ∈ x_FL ∧ ∀ j, j < 7 → Cond.eq (.elem x_tF (.int (Int32.ofNat j))) (.int (i3 (x_cF.getD j 0))) ∈ x_FL) ∧
    (Cond.arrayOf x_tB .int ∈ x_FL ∧ Cond.eq (.length x_tB) (.int (Int32.ofNat 21)) ∈ x_FL ∧ ∀ j, j < 21 → Cond.eq (.elem x_tB (.int (Int32.ofNat j))) (.int (i3 (x_cB.getD j 0))) ∈ x_FL) ∧ Cond.eq (.static "java/lang/String" "COMPACT_STRINGS" "Z") (.int 1) ∈ x_FL ∧ Cond.isRef (.static "jdk/internal/util/Preconditions" "SIOOBE_FORMATTER" "Ljava/util/function/BiFunction;") ∈ x_FL := by decide +kernel
theorem x_fl4 : (Cond.laysStatic "GooseVotes" "KIND_ABOVE" "[I" ∈ lw_tbl ∧ Cond.laysStatic "GooseVotes" "FACTORIALS" "[I" ∈ lw_tbl ∧ Cond.laysStatic "GooseVotes$Acts" "BODY" "[I" ∈ lw_tbl ∧ Cond.laysStatic "java/lang/String" "COMPACT_STRINGS" "Z" ∈ lw_tbl ∧ Cond.laysStatic "jdk/internal/util/Preconditions" "SIOOBE_FORMATTER" "Ljava/util/function/BiFunction;" ∈ lw_tbl) ∧
    (Cond.initialized "GooseVotes" ∈ lw_tbl ∧ Cond.initialized "GooseVotes$Acts" ∈ lw_tbl ∧ Cond.initialized "java/lang/String" ∈ lw_tbl ∧ Cond.initialized "jdk/internal/util/Preconditions" ∈ lw_tbl) ∧ ∀ i, i < 5 → Cond.stringRef "GooseVotes$Reader" (x_tix i) (x_txt i) ∈ lw_tbl := by decide +kernel
theorem x_getDm (f : Int → Int32) : ∀ (l : List Int) (j : Nat), (l.map f).getD j (f 0) = f (l.getD j 0)
  | [], _ => rfl
  | _ :: _, 0 => rfl
  | _ :: l, j + 1 => x_getDm f l j
theorem x_getD0 (l : List Int) (j : Nat) : (l.map i3).getD j 0 = i3 (l.getD j 0) := by
  have h := x_getDm i3 l j
  rw [i3_0] at h
  exact h
theorem x_ads (b t1 t2 t3 : Nat) (k v : Nat → Nat) : ∃ ad : Nat → Nat, ad 1000 = b ∧ ad 1001 = t1 ∧ ad 1002 = t2 ∧ ad 1003 = t3 ∧ (∀ i, i < 5 → ad (1010 + i) = k i) ∧ ∀ i, i < 5 → ad (1020 + i) = v i := by
  refine ⟨fun q => if q = 1000 then b else if q = 1001 then t1 else if q = 1002 then t2 else if q = 1003 then t3 else if q < 1020 then k (q - 1010) else v (q - 1020), rfl, rfl, rfl, rfl, fun i hi => ?_, fun i hi => ?_⟩
  · dsimp only
    rw [if_neg (by omega), if_neg (by omega), if_neg (by omega), if_neg (by omega), if_pos (by omega)]
    exact congrArg k (by omega)
  · dsimp only
    rw [if_neg (by omega), if_neg (by omega), if_neg (by omega), if_neg (by omega), if_neg (by omega)]
    exact congrArg v (by omega)
theorem x_stat {args : Array Value} {s : State} {l : List Int} {tm : Term} {A : Nat → Prop} (hs : ∀ w ∈ x_FL, w.before args s = true) (hl : l.length < 2 ^ 31) (h1 : Cond.arrayOf tm .int ∈ x_FL) (h2 : Cond.eq (.length tm) (.int (Int32.ofNat l.length)) ∈ x_FL) (h3 : ∀ j, j < l.length → Cond.eq (.elem tm (.int (Int32.ofNat j))) (.int (i3 (l.getD j 0))) ∈ x_FL) (hA : ∀ a : Nat, a < s.heap.size → ¬ A a) : ∃ t : Nat, tm.eval args s none [] s = some (.ref t) ∧ va_T .int t l.length (fun j => .int (i3 (l.getD j 0))) A s s.heap :=
  va_Tof hl (hs _ h1) (va_eqt (hs _ h2)) (fun j hj => va_eqt (hs _ (h3 j hj))) hA
def x_AH (s : State) : Nat → Prop := fun q => s.heap.size ≤ q
theorem x_sf {args : Array Value} {s : State} {b L : Nat} {xs : Nat → Int32} (hL : L ≤ 3072) (hts : ∀ w ∈ lw_tbl, w.before args s = true) (hs : ∀ w ∈ x_FL, w.before args s = true) (hX : va_X b L xs s s.heap) (hb : b < s.heap.size) :
    ∃ (ad : Nat → Nat) (fv : Value), (fv = .null ∨ ∃ a, fv = .ref a) ∧ ad 1000 = b ∧ ∀ (D : va_G) (T : Nat → ClassId), x_SF (s.heap.size, ad, fv, D, T) ((List.range L).map (fun j => (xs j).toInt)) s s.heap := by
  obtain ⟨⟨k1, k2, k3⟩, ⟨f1, f2, f3⟩, ⟨b1, b2, b3⟩, c1, c2⟩ := x_fl3
  obtain ⟨⟨l1, l2, l3, l4, l5⟩, ⟨i1, i2, i4, i5⟩, st⟩ := x_fl4
  have hA : ∀ a : Nat, a < s.heap.size → ¬ x_AH s a := fun a h h' => Nat.lt_irrefl _ (Nat.lt_of_lt_of_le h h')
  obtain ⟨tK, eK, TK⟩ := x_stat (A := x_AH s) (l := x_cK) hs (by decide) k1 k2 k3 hA
  obtain ⟨tF, eF, TF⟩ := x_stat (A := x_AH s) (l := x_cF) hs (by decide) f1 f2 f3 hA
  obtain ⟨tB, eB, TB⟩ := x_stat (A := x_AH s) (l := x_cB) hs (by decide) b1 b2 b3 hA
  obtain ⟨adK, adV, hS, hSe⟩ := vk_Sof (args := args) (s := s) (N := 5) (tm := x_tS) (len := x_lens) (byt := x_byts) (A := x_AH s) (by decide) (fun i hi => hs _ (x_fl1 i hi).1) (fun i hi => hs _ (x_fl1 i hi).2.1) (fun i hi => hs _ (x_fl1 i hi).2.2.1) (fun i hi => hs _ (x_fl1 i hi).2.2.2.1) (fun i hi j hj => hs _ ((x_fl1 i hi).2.2.2.2 j hj)) (fun i j hi hj hij => (x_fl2 i hi j hj hij).imp (hs _) (hs _)) hA
  obtain ⟨fv, hf, hZ⟩ : ∃ fv : Value, (fv = .null ∨ ∃ a, fv = .ref a) ∧ va_Z "jdk/internal/util/Preconditions" "SIOOBE_FORMATTER" "Ljava/util/function/BiFunction;" fv (x_AH s) s s.heap := by
    rcases va_Zqof (A := x_AH s) (hts _ l5) (hts _ i5) (hs _ c2) hA with h | ⟨t, h⟩
    · exact ⟨_, Or.inl rfl, h⟩
    · exact ⟨_, Or.inr ⟨t, rfl⟩, h⟩
  obtain ⟨ad, a0, a1, a2, a3, aK, aV⟩ := x_ads b tK tF tB adK adV
  have hBy : ∀ i, i < 5 → ∀ l : List Int, x_byts.getD i [] = l.map i3 → x_lens.getD i 0 = l.length → va_T .byte (ad (1020 + i)) l.length (fun j => .int (i3 (l.getD j 0))) (x_AH s) s s.heap := by
    intro i hi l h1 h2
    have h := (hS.1 i hi).2.2.2
    rw [h1, h2, ← aV i hi, show (fun j => Value.int ((l.map i3).getD j 0)) = fun j => Value.int (i3 (l.getD j 0)) from funext fun j => congrArg Value.int (x_getD0 l j)] at h
    exact h
  refine ⟨ad, fv, hf, a0, fun D T => ⟨?_, ?_, ?_, va_Zof (hts _ l4) (hts _ i4) (va_eqi (hs _ c1)) hA, hZ, ?_, ?_, ?_⟩⟩
  · show va_Z "GooseVotes" "KIND_ABOVE" "[I" (.ref (ad 1001)) (x_AH s) s s.heap
    rw [a1]
    exact va_Zof (hts _ l1) (hts _ i1) eK hA
  · show va_Z "GooseVotes" "FACTORIALS" "[I" (.ref (ad 1002)) (x_AH s) s s.heap
    rw [a2]
    exact va_Zof (hts _ l2) (hts _ i1) eF hA
  · show va_Z "GooseVotes$Acts" "BODY" "[I" (.ref (ad 1003)) (x_AH s) s s.heap
    rw [a3]
    exact va_Zof (hts _ l3) (hts _ i2) eB hA
  · intro k tag ct hk
    show _ ∧ va_T (if tag = 20 then .int else .byte) (ad k) ct.length (fun j => .int (i3 (ct.getD j 0))) (x_AH s) s s.heap
    unfold x_cArr at hk
    split at hk
    · cases hk
      obtain ⟨scr, q1, q2, q3, q4, q5⟩ := hX
      have hlen : ((List.range L).map (fun j => (xs j).toInt)).length = L := by rw [List.length_map, List.length_range]
      rw [hlen]
      refine ⟨by omega, ?_⟩
      rw [if_pos rfl, a0]
      refine ⟨scr, q1, q2, q3, by omega, by rw [q4], fun j hj => ?_, fun h => ?_⟩
      · rw [q5 j hj]
        show _ = some (Value.int (i3 (((List.range L).map (fun j => (xs j).toInt)).getD j 0)))
        rw [List.getD_eq_getElem?_getD, List.getElem?_map, List.getElem?_range hj]
        show _ = some (Value.int (i3 ((xs j).toInt)))
        rw [i3_of]
      · exact Nat.lt_irrefl _ (Nat.lt_of_lt_of_le hb h)
    · cases hk
      exact ⟨by decide, by rw [if_pos rfl, a1]; exact TK⟩
    · cases hk
      exact ⟨by decide, by rw [if_pos rfl, a2]; exact TF⟩
    · cases hk
      exact ⟨by decide, by rw [if_pos rfl, a3]; exact TB⟩
    · cases hk
      exact ⟨by decide, by rw [if_neg (by decide)]; exact hBy 0 (by decide) _ (by decide +kernel) rfl⟩
    · cases hk
      exact ⟨by decide, by rw [if_neg (by decide)]; exact hBy 1 (by decide) _ (by decide +kernel) rfl⟩
    · cases hk
      exact ⟨by decide, by rw [if_neg (by decide)]; exact hBy 2 (by decide) _ (by decide +kernel) rfl⟩
    · cases hk
      exact ⟨by decide, by rw [if_neg (by decide)]; exact hBy 3 (by decide) _ (by decide +kernel) rfl⟩
    · cases hk
      exact ⟨by decide, by rw [if_neg (by decide)]; exact hBy 4 (by decide) _ (by decide +kernel) rfl⟩
    · cases hk
  · refine ⟨fun i hi => ?_, fun i j hi hj e => hS.2 i j hi hj ?_⟩
    · show va_O "java/lang/String" (ad (1010 + i)) (x_AH s) s s.heap ∧ va_OF "java/lang/String" "coder" "B" (.int 0) (ad (1010 + i)) (x_AH s) s s.heap ∧ va_OF "java/lang/String" "value" "[B" (.ref (ad (1020 + i))) (ad (1010 + i)) (x_AH s) s s.heap ∧ va_T .byte (ad (1020 + i)) (x_lens.getD i 0) (fun j => .int ((x_byts.getD i []).getD j 0)) (x_AH s) s s.heap
      rw [aK i hi, aV i hi]
      exact hS.1 i hi
    · rw [← aK i hi, ← aK j hj]
      exact e
  · intro i hi
    show vk_R "GooseVotes$Reader" (x_tix i) (x_txt i) (ad (1010 + i)) s
    rw [aK i hi]
    exact vk_R.of (hts _ (st i hi)) (hSe i hi)
