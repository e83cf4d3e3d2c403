/-! the texts: rows of zJ over them -/
def zTx (i : Nat) (k : Int) : Int := ((zByt.getD i []).getD k.toNat 0).toInt
def zLn (i : Nat) : Int := ((zLen.getD i 0 : Nat) : Int)
theorem zLn_b : ∀ i : Nat, i < 6 → 0 ≤ zLn i ∧ zLn i ≤ 6 := by
  intro i hi
  rcases (by omega : i = 0 ∨ i = 1 ∨ i = 2 ∨ i = 3 ∨ i = 4 ∨ i = 5) with h | h | h | h | h | h <;> subst h <;> decide
theorem zTx_b {i : Nat} (hi : i < 6) (k : Int) : 0 ≤ zTx i k ∧ zTx i k < 128 := by
  have key : ∀ l ∈ zByt, ∀ b ∈ l, 0 ≤ b.toInt ∧ b.toInt < 128 := by decide
  unfold zTx
  have hm : zByt.getD i [] ∈ zByt := by
    rw [List.getD_eq_getElem?_getD, List.getElem?_eq_getElem (show i < zByt.length from hi)]
    exact List.getElem_mem _
  have key2 := key _ hm
  generalize zByt.getD i [] = l at key2 ⊢
  by_cases h : k.toNat < l.length
  · refine key2 _ ?_
    rw [List.getD_eq_getElem?_getD, List.getElem?_eq_getElem h]
    exact List.getElem_mem _
  · rw [List.getD_eq_getElem?_getD, List.getElem?_eq_none (by omega)]
    decide
def zI2b (a : Int) : Int := (iI a).toInt8.toInt32.toInt
theorem zI2b_eq : ∀ a : Int, 0 ≤ a → a < 256 → ∀ b : Int, 0 ≤ b → b < 128 → (zR (zI2b a) ∧ (b = zI2b a ↔ b = a)) := by
  have key : ((List.range 256).all fun i => (List.range 128).all fun j => decide (zR (zI2b (i : Int)) ∧ ((j : Int) = zI2b (i : Int) ↔ (j : Int) = (i : Int)))) = true := by decide +kernel
  intro s h1 h2 p h3 h4
  have h5 := List.all_eq_true.mp key s.toNat (List.mem_range.mpr (by omega))
  have h6 := List.all_eq_true.mp h5 p.toNat (List.mem_range.mpr (by omega))
  rw [Int.toNat_of_nonneg h1, Int.toNat_of_nonneg h3] at h6
  exact of_decide_eq_true h6
theorem zand255 : ∀ b : Int, 0 ≤ b → b < 128 → zand b 255 = b := by
  have key : ((List.range 128).all fun j => decide (zand (j : Int) 255 = (j : Int))) = true := by decide +kernel
  intro p h3 h4
  have h6 := List.all_eq_true.mp key p.toNat (List.mem_range.mpr (by omega))
  rw [Int.toNat_of_nonneg h3] at h6
  exact of_decide_eq_true h6
theorem ws_val : Cond.fieldLink RJ0 9 "java/lang/String" "value" "[B" ∈ zBIG := zB_t 1098 (by decide +kernel) rfl
theorem ws_cod : Cond.fieldLink RJ0 15 "java/lang/String" "coder" "B" ∈ zBIG := zB_t 1099 (by decide +kernel) rfl
theorem ws_cmp : Cond.fieldLink RJ0 38 "java/lang/String" "COMPACT_STRINGS" "Z" ∈ zBIG := zB_t 221 (by decide +kernel) rfl
theorem ws_sio : Cond.fieldLink RJ0 1053 "jdk/internal/util/Preconditions" "SIOOBE_FORMATTER" "Ljava/util/function/BiFunction;" ∈ zBIG := zB_t 237 (by decide +kernel) rfl
section ZS
variable {X : zX} {nL : Nat} {cc : ByteArray} {own : String} {Ts : List Cond} {f nw : Nat} {μ : zM} {pc : Nat} {L L' : List (Nat × zV)} {st : List zV}
theorem z_ldcS (C : zC X nL cc RX3 Ts f nw) {k i : Nat} {tx : String} (d : decode cc pc = .ok (.ldc k, 2)) (hw : (k, tx, i) ∈ zSL) (K : zJ X nL μ (pc + 2) L (.inr (70 + i) :: st)) : zJ X nL μ pc L st := by
  obtain ⟨p, l, e, R, s, m, args, below, meth, c, Q, A, G, cells, slots⟩ := X
  obtain ⟨hx, hb, -, hown, hts, hbig, -, -, hE, -⟩ := C
  intro hr H locs ls hP hS hl
  exact va_ldcS hx hb hown (hE.2.2.1 _ hw) d (K hr H locs ls hP hS hl)
theorem z_strV (C : zC X nL cc RJ0 Ts f nw) {i : Nat} (hi : i < 6) (d : decode cc pc = .ok (.getfield 9, 3)) (K : zJ X nL μ (pc + 3) L (.inr (80 + i) :: st)) : zJ X nL μ pc L (.inr (70 + i) :: st) := by
  obtain ⟨p, l, e, R, s, m, args, below, meth, c, Q, A, G, cells, slots⟩ := X
  obtain ⟨hx, hb, -, hown, hts, hbig, -, -, hE, -⟩ := C
  intro hr H locs ls hP hS hl
  exact vk_getf hx hb (hE.2.2.2.1.1 i hi).2.2.1 hS hown (hts _ (hbig _ ws_val)) (fun _ h => h) d (K hr H locs ls hP hS hl)
theorem z_strC (C : zC X nL cc RJ0 Ts f nw) {i : Nat} (hi : i < 6) (d : decode cc pc = .ok (.getfield 15, 3)) (K : zJ X nL μ (pc + 3) L (.inl 0 :: st)) : zJ X nL μ pc L (.inr (70 + i) :: st) := by
  obtain ⟨p, l, e, R, s, m, args, below, meth, c, Q, A, G, cells, slots⟩ := X
  obtain ⟨hx, hb, -, hown, hts, hbig, -, -, hE, -⟩ := C
  intro hr H locs ls hP hS hl
  exact vk_getf hx hb (hE.2.2.2.1.1 i hi).2.1 hS hown (hts _ (hbig _ ws_cod)) (fun _ h => h) d (K hr H locs ls hP hS hl)
theorem z_gets (C : zC X nL cc RJ0 Ts f nw) (d : decode cc pc = .ok (.getstatic 38, 3)) (K : zJ X nL μ (pc + 3) L (.inl 1 :: st)) : zJ X nL μ pc L st := by
  obtain ⟨p, l, e, R, s, m, args, below, meth, c, Q, A, G, cells, slots⟩ := X
  obtain ⟨hx, hb, -, hown, hts, hbig, -, -, hE, -⟩ := C
  intro hr H locs ls hP hS hl
  exact va_gets hx hb hE.2.2.2.2.1 hS hown (hts _ (hbig _ ws_cmp)) (fun _ h => h) d (K hr H locs ls hP hS hl)
theorem z_alenT (C : zC X nL cc own Ts f nw) {i : Nat} (hi : i < 6) (d : decode cc pc = .ok (.arraylength, 1)) (K : zJ X nL μ (pc + 1) L (.inl (zLn i) :: st)) : zJ X nL μ pc L (.inr (80 + i) :: st) := by
  obtain ⟨p, l, e, R, s, m, args, below, meth, c, Q, A, G, cells, slots⟩ := X
  obtain ⟨hx, hb, -, hown, hts, hbig, -, -, hE, -⟩ := C
  intro hr H locs ls hP hS hl
  exact va_tlen hx hb (hE.2.2.2.1.1 i hi).2.2.2 hS (v := iI (zLn i)) Int32.ofInt_eq_ofNat.symm d (K hr H locs ls hP hS hl)
theorem z_baldT (C : zC X nL cc own Ts f nw) {i : Nat} (hi : i < 6) {x : Int} (d : decode cc pc = .ok (.baload, 1)) (h : 0 ≤ x ∧ x < zLn i) (K : zJ X nL μ (pc + 1) L (.inl (zTx i x) :: st)) : zJ X nL μ pc L (.inl x :: .inr (80 + i) :: st) := by
  obtain ⟨p, l, e, R, s, m, args, below, meth, c, Q, A, G, cells, slots⟩ := X
  obtain ⟨hx, hb, -, hown, hts, hbig, -, -, hE, -⟩ := C
  intro hr H locs ls hP hS hl
  have hlb := zLn_b i hi
  have h1 : x < ((zLen.getD i 0 : Nat) : Int) := h.2
  refine va_tb (i := iI x) hx hb (hE.2.2.2.1.1 i hi).2.2.2 hS (iI_in h.1 h1 (by unfold zLn at hlb; omega)) (v := .int (iI (zTx i x))) ?_ d (K hr H locs ls hP hS hl)
  rw [iI_clamp h.1 h1 (by unfold zLn at hlb; omega)]
  show Value.int ((zByt.getD i []).getD x.toNat 0) = Value.int (iI (zTx i x))
  unfold zTx
  rw [iI_of]
theorem z_i2b (C : zC X nL cc own Ts f nw) {a : Int} (d : decode cc pc = .ok (.i2b, 1)) (K : zJ X nL μ (pc + 1) L (.inl (zI2b a) :: st)) : zJ X nL μ pc L (.inl a :: st) := by
  obtain ⟨p, l, e, R, s, m, args, below, meth, c, Q, A, G, cells, slots⟩ := X
  obtain ⟨hx, hb, -⟩ := C
  intro hr H locs ls hP hS hl
  exact lv_i2b (x := iI a) (v := iI (zI2b a)) hx hb d (iI_of _).symm (K hr H locs ls hP hS hl)
end ZS
/-- a void method, a reference, of a class of the JDK that has entries -/
theorem zMv_ofF {l : Launch} {y : MethodName} {cc : ByteArray} {nL f nw : Nat} {as : List zV} {μ : zM} {post : zM → Prop} {own : String} (hy : plainFor y = true) (hown : y.cls = own) (hn : as.length ≤ nL)
    (body : ∀ X : zX, zl X = l → zC X nL cc own (zws y cc nL none) f nw → zRM μ → (∀ {pc : Nat} {μ' : zM} {L : List (Nat × zV)}, decode cc pc = .ok (.return_, 1) → post μ' → zJ X nL μ' pc L []) → zJ X nL μ 0 (zent 0 as) []) : zMv l y cc nL f nw as μ post := by
  intro G sz hr
  refine va_MetF (cc := cc) (maxL := nL) (ret := none) hy rfl ?_
  intro p e s m args below meth c s₁ B hml hv
  obtain ⟨rfl, hsz, hP, hD0, hE⟩ := hv
  subst hsz
  have hx := B.exec
  have hb := B.bytes
  have hrt := B.returns
  have hlocks := B.notSynchronized
  have hts := atoms_spec (ws := zws y cc nL none) B.pre
  have hcls : s.vm.findClass own = some m.cls := hown ▸ findClass_of_methodNamed B.named
  have hl := lv_entry (as.map (zv G)) (n := nL) (by rw [zsl_len]; exact hn)
  rw [lg_entry_eq]
  rw [zent_args] at hl
  have hA : ∀ q : Nat, s.heap.size ≤ q → zA G s.heap.size q := fun q h => Or.inr h
  have hD : va_D (zA G s.heap.size) (zW G (fun _ _ => 0)) := zD_weak (zD_any _ hD0) (fun i hi => Or.inl ⟨i, hi, rfl⟩)
  have J := body (p, l, e, (headSpec (zws y cc nL none) (zrm f nw)).room, s, m, (as.map (zv G)).toArray, below, meth, c, MQ below (va_Qv (fun (u : zM) => zRM u ∧ post u) (fun u t => va_P G.1 vwCl (zW G u) t.heap) (zA G s.heap.size)) (as.map (zv G)).toArray s 0 0 (zA G s.heap.size), zA G s.heap.size, G, 0, 0) rfl ⟨hx, hb, hml, hcls, hts, fun w hw => List.mem_cons_of_mem _ hw, hA, hD, hE, Nat.le_refl _, Nat.le_refl _, Nat.zero_le _, Nat.zero_le _⟩ hr (by
    intro pc μ' L d hp hrm H locs ls hP hS hl
    exact W.vret hx hb hrt (fun t ht hW => ⟨⟨μ', rfl, ⟨hrm, hp⟩, by show va_P G.1 vwCl (zW G μ') t.heap; rw [ht]; exact hP⟩, hS.F ht⟩) hS.2.2 d)
  exact J hr s.heap [] _ hP va_S.rf hl
/-- Preconditions.checkIndex of an index within: it is the answer; the third argument is never looked at -/
theorem c_J3_checkIndex (l : Launch) (G : zG) (sz : Nat) (μ : zM) (x n : Int) (w : Value) (hw : w = .null ∨ ∃ a, w = .ref a) (h : 0 ≤ x ∧ x < n ∧ n ≤ 100) : Met l yJ3_checkIndex_8e157 (zws yJ3_checkIndex_8e157 cJ3_checkIndex_8e157 3 (some .int)) (zrm 0 0) (va_Pc [.int (iI x), .int (iI n), w] (fun U => U.heap.size = sz ∧ va_P G.1 vwCl (zW G μ) U.heap)) (va_Qi (fun (r : Int32) (u : Unit) => r = iI x) (fun u t => va_P G.1 vwCl (zW G μ) t.heap) (zA G sz)) 0 0 (zA G sz) := by
  have hwc : w.category = 1 := by rcases hw with rfl | ⟨a, rfl⟩ <;> rfl
  refine va_MetF (cc := cJ3_checkIndex_8e157) (maxL := 3) (ret := some .int) (by decide +kernel) rfl ?_
  intro p e s m args below meth c s₁ B hml hv
  obtain ⟨rfl, hsz, hP⟩ := hv
  subst hsz
  have hx := B.exec
  have hb := B.bytes
  have hrt := B.returns
  have hlocks := B.notSynchronized
  have hl := lv_entry [.int (iI x), .int (iI n), w] (n := 3) (by rcases hw with rfl | ⟨a, rfl⟩ <;> exact Nat.le_of_ble_eq_true rfl)
  rw [lg_entry_eq]
  have hl' : lv_args 0 [.int (iI x), .int (iI n), w] = [(0, .int (iI x)), (1, .int (iI n)), (2, w)] := by simp [lv_args, Value.category]
  rw [hl'] at hl
  refine lv_iload_n hx hb dJ3_checkIndex_8e157_0 rfl (lv_at hl 0 rfl) ?_
  refine lv_if_lt (tgt := 9) hx hb dJ3_checkIndex_8e157_1 (by decide) (fun q => ?_) (fun _ => ?_)
  · rw [← iI_0, iI_lt ⟨by omega, by omega⟩ ⟨by omega, by omega⟩] at q
    omega
  refine lv_iload_n hx hb dJ3_checkIndex_8e157_4 rfl (lv_at hl 0 rfl) ?_
  refine lv_iload_n hx hb dJ3_checkIndex_8e157_5 rfl (lv_at hl 1 rfl) ?_
  refine lv_icmp_lt (tgt := 16) hx hb dJ3_checkIndex_8e157_6 (by decide) (fun _ => ?_) (fun q => ?_)
  · refine lv_iload_n hx hb dJ3_checkIndex_8e157_16 rfl (lv_at hl 0 rfl) ?_
    exact W.iret (v := iI x) hx hb hrt (fun t ht hW => ⟨⟨iI x, (), rfl, rfl, by show va_P G.1 vwCl (zW G μ) t.heap; rw [ht]; exact hP⟩, va_S.rf.F ht⟩) (fun _ h => by cases h) dJ3_checkIndex_8e157_17
  · rw [iI_lt ⟨by omega, by omega⟩ ⟨by omega, by omega⟩] at q
    omega
theorem zr_pre : Cond.initialized RJ3 ∈ zBIG := yyJ3_checkIndex_8e157.1.2.1
/-- String.checkIndex of an index within -/
theorem c_J0_checkIndex_df160 (l : Launch) (μ : zM) (x n : Int) (h : 0 ≤ x ∧ x < n ∧ n ≤ 100) : zMv l yJ0_checkIndex_df160 cJ0_checkIndex_df160 2 1 22 [.inl x, .inl n] μ (fun (m : zM) => μ = m) := by
  refine zMv_ofF (own := RJ0) (by decide +kernel) rfl (Nat.le_of_ble_eq_true rfl) ?_
  intro X hX C hrm E
  subst hX
  show zJ X 2 μ 0 [(0, .inl x), (1, .inl n)] []
  refine z_iload_n C dJ0_checkIndex_df160_0 0 rfl ?_
  refine z_iload_n C dJ0_checkIndex_df160_1 1 rfl ?_
  have hend : zJ X 2 μ 9 [(0, .inl x), (1, .inl n)] [] := E dJ0_checkIndex_df160_9 rfl
  obtain ⟨p, l, e, R, s, m, args, below, meth, c, Q, A, G, cells, slots⟩ := X
  obtain ⟨hx, hb, hml, hown, hts, hbig, hA, hD, hE, hr1, hr2, hr3, hr4⟩ := C
  intro hr H locs ls hP hS hl
  have step : ∀ w : Value, (w = .null ∨ ∃ a, w = .ref a) → va_Z "jdk/internal/util/Preconditions" "SIOOBE_FORMATTER" "Ljava/util/function/BiFunction;" w A s s.heap → W p l e R s m args below meth c H locs cells slots Q (F0 m 2 ls [.int (iI n), .int (iI x)]) := by
    intro w hw hZ
    have hwc : w.category = 1 := by rcases hw with rfl | ⟨a, rfl⟩ <;> rfl
    refine va_gets hx hb hZ hS hown (hts _ (hbig _ ws_sio)) (fun _ h => h) dJ0_checkIndex_df160_2 ?_
    have hle : ∀ q, zA G H.size q → A q := by
      rintro q (⟨j, hj, rfl⟩ | hq)
      · exact zD_A hD hj
      · exact hA q (Nat.le_trans hS.1 hq)
    obtain ⟨⟨y1, y2, y3, y4, y5⟩, y6⟩ := yyJ3_checkIndex_8e157
    have hcw : CallB R s args RJ0 1059 yJ3_checkIndex_8e157 cJ3_checkIndex_8e157 3 (some .int) (zws yJ3_checkIndex_8e157 cJ3_checkIndex_8e157 3 (some .int)) (zrm 0 0) 0 0 3 ∧ (Cond.static yJ3_checkIndex_8e157).before args s = true := ⟨callB_of 3 hts (zGood hbig y1) rfl rfl rfl (hts _ (hbig _ y2)) (hts _ (hbig _ mlJ0_1059)) ⟨y3, y4, y5⟩ ⟨Nat.le_trans (by decide) hr1, Nat.le_trans (by decide) hr2⟩, hts _ (hbig _ y6)⟩
    refine va_calli (va_runS (As := [.int (iI x), .int (iI n), w]) (rest := []) (g := F0 m (2 + 3) ls _) ⟨hx, hb, hml, hown, hts⟩ (c_J3_checkIndex l G H.size μ x n w hw h) hcw ⟨fun a U g mk q => q, fun U hU hW => ⟨rfl, by rw [hU], by rw [hU]; exact hP⟩⟩ rfl rfl hl.1 rfl (lv_room (Nat.le_of_ble_eq_true rfl)) dJ0_checkIndex_df160_5 ⟨hr3, hr4⟩) hS (fun q _ h => hle q h) hle (fun r u t H1 locs1 ht hvm hw1 hB hz1 hk1 hS1 => ?_)
    refine lv_pop (va := .int r) hx hb dJ0_checkIndex_df160_8 rfl ?_
    have hP1 : va_P G.1 vwCl (zW G μ) H1 := by rw [← ht]; exact hB
    exact hend hr H1 locs1 ls hP1 hS1 hl
  rcases hE.2.2.2.2.2 with hZ | ⟨t, hZ⟩
  · exact step .null (Or.inl rfl) hZ
  · exact step (.ref t) (Or.inr ⟨t, rfl⟩) hZ
