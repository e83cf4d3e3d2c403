/-! calls, entries and ends -/
def zent : Nat → List zV → List (Nat × zV)
  | _, [] => []
  | i, v :: vs => (i, v) :: zent (i + 1) vs
theorem zent_args (G : zG) : ∀ (as : List zV) (i : Nat), lv_args i (as.map (zv G)) = (zent i as).map (zlv G)
  | [], _ => rfl
  | v :: vs, i => by
    show (i, zv G v) :: lv_args (if (zv G v).category = 2 then i + 2 else i + 1) (vs.map (zv G)) = (i, zv G v) :: (zent (i + 1) vs).map (zlv G)
    rw [zv_cat, if_neg (by decide), zent_args G vs (i + 1)]
theorem zsl_len (G : zG) : ∀ (as : List zV), (lg_sl (as.map (zv G))).length = as.length
  | [] => rfl
  | v :: vs => by
    have h := zsl_len G vs
    simp only [lg_sl, List.map_cons, List.flatMap_cons, List.length_append, List.length_cons, zv_cat] at h ⊢
    rw [h]
    simp
    omega
theorem zsum (G : zG) : ∀ (st : List zV), ((st.map (zv G)).map fun v => v.category).sum = st.length
  | [] => rfl
  | v :: vs => by rw [List.map_cons, List.map_cons, List.sum_cons, zv_cat, zsum G vs, List.length_cons, Nat.add_comm]
theorem zGood {y : MethodName} {cc : ByteArray} {n : Nat} {ret : Option FieldType} {Ts : List Cond} (hbig : ∀ w ∈ zBIG, w ∈ Ts) (hc : Cond.code y cc n ret ∈ zBIG) : GoodIn Ts (zws y cc n ret) := fun w hw => by
  have h : w ∈ zBIG := by
    rcases List.mem_cons.mp hw with rfl | h
    · exact hc
    · exact h
  exact ⟨hbig w h, good_of_word (zB_good h)⟩
theorem zPc_blind (G : zG) (sz : Nat) (as : List zV) (μ : zM) : FrameBlind (zPc G sz as μ) := fun a U g mk q => by
  obtain ⟨q0, q1, qP, qD, qE⟩ := q
  exact ⟨q0, q1, qP, qD, zE_calling qE⟩
/-- what a call's tables say: the method, its class; how it is linked -/
def zY (y : MethodName) (cc : ByteArray) (n : Nat) (ret : Option FieldType) (k : Nat) : Prop := Cond.code y cc n ret ∈ zBIG ∧ Cond.initialized y.cls ∈ zBIG ∧ y.cls ≠ "java/lang/invoke/MethodHandle" ∧ y.cls ≠ "java/lang/invoke/VarHandle" ∧ (parseMethodDescriptor y.desc).map (fun d => d.parameters.length) = some k
def zYv (y : MethodName) (cc : ByteArray) (n : Nat) (ret : Option FieldType) (k : Nat) : Prop := zY y cc n ret k ∧ Cond.instanceMethod y ∈ zBIG ∧ Cond.selects y.cls y y ∈ zBIG
def zYs (y : MethodName) (cc : ByteArray) (n : Nat) (ret : Option FieldType) (k : Nat) : Prop := zY y cc n ret k ∧ Cond.static y ∈ zBIG
section ZR3
variable {X : zX} {nL : Nat} {cc : ByteArray} {own : String} {Ts : List Cond} {f nw : Nat} {μ : zM} {pc : Nat} {L L' : List (Nat × zV)} {st st0 : List zV}
/-- a receiver -/
def zRc (X : zX) (μ : zM) (i : Nat) (Cn : String) : Prop := match X with
  | (_, _, _, _, s, _, _, _, _, _, _, A, G, _, _) => ∀ (H : Heap) (locs : List Loc), va_P G.1 vwCl (zW G μ) H → va_S A s.heap H locs → ∃ cell : Cell, H[G.2.2.2 i]? = some cell ∧ cell.vm.isStatics = false ∧ s.vm.findClass Cn = some cell.cls
theorem zRc_of (C : zC X nL cc own Ts f nw) {i ci : Nat} {ks : List (Option Nat)} {q : vw_C} (hi : i < 68) (hd : zd i = .inl (ci, ks)) (hc : vwCl[ci]? = some q) : zRc X μ i q.1 := by
  obtain ⟨p, l, e, R, s, m, args, below, meth, c, Q, A, G, cells, slots⟩ := X
  obtain ⟨hx, hb, -, hown, hts, hbig, -, -, hE, -⟩ := C
  intro H locs hP hS
  have hg := zW_get G μ hi
  rw [hd] at hg
  exact va_recv hE.1 hP hc hg
theorem zRc_str (C : zC X nL cc own Ts f nw) {i : Nat} (hi : i < 6) : zRc X μ (70 + i) "java/lang/String" := by
  obtain ⟨p, l, e, R, s, m, args, below, meth, c, Q, A, G, cells, slots⟩ := X
  obtain ⟨hx, hb, -, hown, hts, hbig, -, -, hE, -⟩ := C
  intro H locs hP hS
  exact vk_recv (adK := fun i => G.2.2.2 (70 + i)) (i := i) hE.2.2.2.1 hi hS
theorem z_callVi (C : zC X nL cc own Ts f nw) {y : MethodName} {bytes : ByteArray} {n2 k f2 nw2 idx i : Nat} {ty : FieldType} {as : List zV} {post : Int → zM → Prop} (M : zMi (zl X) y bytes n2 ty f2 nw2 (.inr i :: as) μ post) (Y : zYv y bytes n2 (some ty) k) (hl0 : Cond.methodLink own idx y ∈ zBIG) (hrc : zRc X μ i y.cls) (d : decode cc pc = .ok (.invokevirtual idx, 3)) (hst : st0 = as.reverse ++ .inr i :: st) (hk : as.length = k) (hlen : st.length ≤ 8) (hR : f2 + 1 ≤ f ∧ 8 + (n2 + 11) + nw2 ≤ nw) (K : ∀ (r : Int) (μ' : zM), zR r → post r μ' → zJ X nL μ' (pc + 3) L (.inl r :: st)) : zJ X nL μ pc L st0 := by
  obtain ⟨p, l, e, R, s, m, args, below, meth, c, Q, A, G, cells, slots⟩ := X
  obtain ⟨hx, hb, hml, hown, hts, hbig, hA, hD, hE, hr1, hr2, hr3, hr4⟩ := C
  obtain ⟨⟨y1, y2, y3, y4, y5⟩, y6, y7⟩ := Y
  subst hst
  intro hr H locs ls hP hS hl
  have hle : ∀ q, zA G H.size q → A q := by
    rintro q (⟨j, hj, rfl⟩ | hq)
    · exact zD_A hD hj
    · exact hA q (Nat.le_trans hS.1 hq)
  have hcw : CallW R s args own y.cls idx y bytes n2 (some ty) (zws y bytes n2 (some ty)) (zrm f2 nw2) 0 0 k := ⟨callB_of k hts (zGood hbig y1) rfl rfl rfl (hts _ (hbig _ y2)) (hts _ (hbig _ hl0)) ⟨y3, y4, y5⟩ ⟨Nat.le_trans hR.1 hr1, Nat.le_trans hR.2 hr2⟩, hts _ (hbig _ y6), hts _ (hbig _ y7)⟩
  refine va_calli (va_runV (As := as.map (zv G)) (rest := st.map (zv G)) (g := F0 m pc ls _) ⟨hx, hb, hml, hown, hts⟩ (M G H.size hr) hcw ⟨zPc_blind G H.size _ μ, hrc H locs hP hS, fun U hU hW => ⟨rfl, by rw [hU], by rw [hU]; exact hP, zD_weak (zD_any μ hD) (fun _ _ => trivial), zE_call hE hS hle hU hW⟩⟩ rfl (by rw [List.length_map, hk]) hl.1 (by simp [zv]) (lv_room (by rw [zsum]; exact hlen)) d ⟨hr3, hr4⟩) hS (fun q _ h => hle q h) hle (fun r u t H1 locs1 ht hvm hw hB hz1 hk1 hS1 => ?_)
  obtain ⟨r', μ'⟩ := u
  obtain ⟨hre, hrR, hrm, hpost⟩ := hw
  subst hre
  have hP1 : va_P G.1 vwCl (zW G μ') H1 := by rw [← ht]; exact hB
  exact K r' μ' hrR hpost hrm H1 locs1 ls hP1 hS1 hl
theorem z_callVv (C : zC X nL cc own Ts f nw) {y : MethodName} {bytes : ByteArray} {n2 k f2 nw2 idx i : Nat} {as : List zV} {post : zM → Prop} (M : zMv (zl X) y bytes n2 f2 nw2 (.inr i :: as) μ post) (Y : zYv y bytes n2 none k) (hl0 : Cond.methodLink own idx y ∈ zBIG) (hrc : zRc X μ i y.cls) (d : decode cc pc = .ok (.invokevirtual idx, 3)) (hst : st0 = as.reverse ++ .inr i :: st) (hk : as.length = k) (hlen : st.length ≤ 8) (hR : f2 + 1 ≤ f ∧ 8 + (n2 + 11) + nw2 ≤ nw) (K : ∀ (μ' : zM), post μ' → zJ X nL μ' (pc + 3) L st) : zJ X nL μ pc L st0 := by
  obtain ⟨p, l, e, R, s, m, args, below, meth, c, Q, A, G, cells, slots⟩ := X
  obtain ⟨hx, hb, hml, hown, hts, hbig, hA, hD, hE, hr1, hr2, hr3, hr4⟩ := C
  obtain ⟨⟨y1, y2, y3, y4, y5⟩, y6, y7⟩ := Y
  subst hst
  intro hr H locs ls hP hS hl
  have hle : ∀ q, zA G H.size q → A q := by
    rintro q (⟨j, hj, rfl⟩ | hq)
    · exact zD_A hD hj
    · exact hA q (Nat.le_trans hS.1 hq)
  have hcw : CallW R s args own y.cls idx y bytes n2 none (zws y bytes n2 none) (zrm f2 nw2) 0 0 k := ⟨callB_of k hts (zGood hbig y1) rfl rfl rfl (hts _ (hbig _ y2)) (hts _ (hbig _ hl0)) ⟨y3, y4, y5⟩ ⟨Nat.le_trans hR.1 hr1, Nat.le_trans hR.2 hr2⟩, hts _ (hbig _ y6), hts _ (hbig _ y7)⟩
  refine va_callv (va_runV (As := as.map (zv G)) (rest := st.map (zv G)) (g := F0 m pc ls _) ⟨hx, hb, hml, hown, hts⟩ (M G H.size hr) hcw ⟨zPc_blind G H.size _ μ, hrc H locs hP hS, fun U hU hW => ⟨rfl, by rw [hU], by rw [hU]; exact hP, zD_weak (zD_any μ hD) (fun _ _ => trivial), zE_call hE hS hle hU hW⟩⟩ rfl (by rw [List.length_map, hk]) hl.1 (by simp [zv]) (lv_room (by rw [zsum]; exact hlen)) d ⟨hr3, hr4⟩) hS (fun q _ h => hle q h) hle (fun u t H1 locs1 ht hvm hw hB hz1 hk1 hS1 => ?_)
  obtain ⟨hrm, hpost⟩ := hw
  have hP1 : va_P G.1 vwCl (zW G u) H1 := by rw [← ht]; exact hB
  exact K u hpost hrm H1 locs1 ls hP1 hS1 hl
theorem z_callSi (C : zC X nL cc own Ts f nw) {y : MethodName} {bytes : ByteArray} {n2 k f2 nw2 idx : Nat} {ty : FieldType} {as : List zV} {post : Int → zM → Prop} (M : zMi (zl X) y bytes n2 ty f2 nw2 as μ post) (Y : zYs y bytes n2 (some ty) k) (hl0 : Cond.methodLink own idx y ∈ zBIG) (d : decode cc pc = .ok (.invokestatic idx, 3)) (hst : st0 = as.reverse ++ st) (hk : as.length = k) (hlen : st.length ≤ 8) (hR : f2 + 1 ≤ f ∧ 8 + (n2 + 11) + nw2 ≤ nw) (K : ∀ (r : Int) (μ' : zM), zR r → post r μ' → zJ X nL μ' (pc + 3) L (.inl r :: st)) : zJ X nL μ pc L st0 := by
  obtain ⟨p, l, e, R, s, m, args, below, meth, c, Q, A, G, cells, slots⟩ := X
  obtain ⟨hx, hb, hml, hown, hts, hbig, hA, hD, hE, hr1, hr2, hr3, hr4⟩ := C
  obtain ⟨⟨y1, y2, y3, y4, y5⟩, y6⟩ := Y
  subst hst
  intro hr H locs ls hP hS hl
  have hle : ∀ q, zA G H.size q → A q := by
    rintro q (⟨j, hj, rfl⟩ | hq)
    · exact zD_A hD hj
    · exact hA q (Nat.le_trans hS.1 hq)
  have hcw : CallB R s args own idx y bytes n2 (some ty) (zws y bytes n2 (some ty)) (zrm f2 nw2) 0 0 k ∧ (Cond.static y).before args s = true := ⟨callB_of k hts (zGood hbig y1) rfl rfl rfl (hts _ (hbig _ y2)) (hts _ (hbig _ hl0)) ⟨y3, y4, y5⟩ ⟨Nat.le_trans hR.1 hr1, Nat.le_trans hR.2 hr2⟩, hts _ (hbig _ y6)⟩
  refine va_calli (va_runS (As := as.map (zv G)) (rest := st.map (zv G)) (g := F0 m pc ls _) ⟨hx, hb, hml, hown, hts⟩ (M G H.size hr) hcw ⟨zPc_blind G H.size _ μ, fun U hU hW => ⟨rfl, by rw [hU], by rw [hU]; exact hP, zD_weak (zD_any μ hD) (fun _ _ => trivial), zE_call hE hS hle hU hW⟩⟩ rfl (by rw [List.length_map, hk]) hl.1 (by simp [zv]) (lv_room (by rw [zsum]; exact hlen)) d ⟨hr3, hr4⟩) hS (fun q _ h => hle q h) hle (fun r u t H1 locs1 ht hvm hw hB hz1 hk1 hS1 => ?_)
  obtain ⟨r', μ'⟩ := u
  obtain ⟨hre, hrR, hrm, hpost⟩ := hw
  subst hre
  have hP1 : va_P G.1 vwCl (zW G μ') H1 := by rw [← ht]; exact hB
  exact K r' μ' hrR hpost hrm H1 locs1 ls hP1 hS1 hl
theorem z_callSv (C : zC X nL cc own Ts f nw) {y : MethodName} {bytes : ByteArray} {n2 k f2 nw2 idx : Nat} {as : List zV} {post : zM → Prop} (M : zMv (zl X) y bytes n2 f2 nw2 as μ post) (Y : zYs y bytes n2 none k) (hl0 : Cond.methodLink own idx y ∈ zBIG) (d : decode cc pc = .ok (.invokestatic idx, 3)) (hst : st0 = as.reverse ++ st) (hk : as.length = k) (hlen : st.length ≤ 8) (hR : f2 + 1 ≤ f ∧ 8 + (n2 + 11) + nw2 ≤ nw) (K : ∀ (μ' : zM), post μ' → zJ X nL μ' (pc + 3) L st) : zJ X nL μ pc L st0 := by
  obtain ⟨p, l, e, R, s, m, args, below, meth, c, Q, A, G, cells, slots⟩ := X
  obtain ⟨hx, hb, hml, hown, hts, hbig, hA, hD, hE, hr1, hr2, hr3, hr4⟩ := C
  obtain ⟨⟨y1, y2, y3, y4, y5⟩, y6⟩ := Y
  subst hst
  intro hr H locs ls hP hS hl
  have hle : ∀ q, zA G H.size q → A q := by
    rintro q (⟨j, hj, rfl⟩ | hq)
    · exact zD_A hD hj
    · exact hA q (Nat.le_trans hS.1 hq)
  have hcw : CallB R s args own idx y bytes n2 none (zws y bytes n2 none) (zrm f2 nw2) 0 0 k ∧ (Cond.static y).before args s = true := ⟨callB_of k hts (zGood hbig y1) rfl rfl rfl (hts _ (hbig _ y2)) (hts _ (hbig _ hl0)) ⟨y3, y4, y5⟩ ⟨Nat.le_trans hR.1 hr1, Nat.le_trans hR.2 hr2⟩, hts _ (hbig _ y6)⟩
  refine va_callv (va_runS (As := as.map (zv G)) (rest := st.map (zv G)) (g := F0 m pc ls _) ⟨hx, hb, hml, hown, hts⟩ (M G H.size hr) hcw ⟨zPc_blind G H.size _ μ, fun U hU hW => ⟨rfl, by rw [hU], by rw [hU]; exact hP, zD_weak (zD_any μ hD) (fun _ _ => trivial), zE_call hE hS hle hU hW⟩⟩ rfl (by rw [List.length_map, hk]) hl.1 (by simp [zv]) (lv_room (by rw [zsum]; exact hlen)) d ⟨hr3, hr4⟩) hS (fun q _ h => hle q h) hle (fun u t H1 locs1 ht hvm hw hB hz1 hk1 hS1 => ?_)
  obtain ⟨hrm, hpost⟩ := hw
  have hP1 : va_P G.1 vwCl (zW G u) H1 := by rw [← ht]; exact hB
  exact K u hpost hrm H1 locs1 ls hP1 hS1 hl
theorem z_callSr (C : zC X nL cc own Ts f nw) {y : MethodName} {bytes : ByteArray} {n2 k f2 nw2 idx : Nat} {ty : FieldType} {as : List zV} {post : Nat → zM → Prop} (M : zMr (zl X) y bytes n2 ty f2 nw2 as μ post) (Y : zYs y bytes n2 (some ty) k) (hl0 : Cond.methodLink own idx y ∈ zBIG) (d : decode cc pc = .ok (.invokestatic idx, 3)) (hst : st0 = as.reverse ++ st) (hk : as.length = k) (hlen : st.length ≤ 8) (hR : f2 + 1 ≤ f ∧ 8 + (n2 + 11) + nw2 ≤ nw) (K : ∀ (r : Nat) (μ' : zM), post r μ' → zJ X nL μ' (pc + 3) L (.inr r :: st)) : zJ X nL μ pc L st0 := by
  obtain ⟨p, l, e, R, s, m, args, below, meth, c, Q, A, G, cells, slots⟩ := X
  obtain ⟨hx, hb, hml, hown, hts, hbig, hA, hD, hE, hr1, hr2, hr3, hr4⟩ := C
  obtain ⟨⟨y1, y2, y3, y4, y5⟩, y6⟩ := Y
  subst hst
  intro hr H locs ls hP hS hl
  have hle : ∀ q, zA G H.size q → A q := by
    rintro q (⟨j, hj, rfl⟩ | hq)
    · exact zD_A hD hj
    · exact hA q (Nat.le_trans hS.1 hq)
  have hcw : CallB R s args own idx y bytes n2 (some ty) (zws y bytes n2 (some ty)) (zrm f2 nw2) 0 0 k ∧ (Cond.static y).before args s = true := ⟨callB_of k hts (zGood hbig y1) rfl rfl rfl (hts _ (hbig _ y2)) (hts _ (hbig _ hl0)) ⟨y3, y4, y5⟩ ⟨Nat.le_trans hR.1 hr1, Nat.le_trans hR.2 hr2⟩, hts _ (hbig _ y6)⟩
  refine va_callr (va_runS (As := as.map (zv G)) (rest := st.map (zv G)) (g := F0 m pc ls _) ⟨hx, hb, hml, hown, hts⟩ (M G H.size hr) hcw ⟨zPc_blind G H.size _ μ, fun U hU hW => ⟨rfl, by rw [hU], by rw [hU]; exact hP, zD_weak (zD_any μ hD) (fun _ _ => trivial), zE_call hE hS hle hU hW⟩⟩ rfl (by rw [List.length_map, hk]) hl.1 (by simp [zv]) (lv_room (by rw [zsum]; exact hlen)) d ⟨hr3, hr4⟩) hS (fun q _ h => hle q h) hle (fun u ra t H1 locs1 ht hvm hw hB hz1 hk1 hS1 => ?_)
  obtain ⟨r', μ'⟩ := u
  obtain ⟨hrm, hpost⟩ := hw
  obtain ⟨rfl, hB⟩ := hB
  have hP1 : va_P G.1 vwCl (zW G μ') H1 := by rw [← ht]; exact hB
  exact K r' μ' hpost hrm H1 locs1 ls hP1 hS1 hl
/-- a static method of a nest mate -/
theorem z_callNi (C : zC X nL cc own Ts f nw) {y : MethodName} {bytes : ByteArray} {n2 k f2 nw2 idx : Nat} {ty : FieldType} {as : List zV} {post : Int → zM → Prop} (M : zMi (zl X) y bytes n2 ty f2 nw2 as μ post) (Y : zYs y bytes n2 (some ty) k) (hl0 : (own, idx, y, RX5) ∈ zNW) (d : decode cc pc = .ok (.invokestatic idx, 3)) (hst : st0 = as.reverse ++ st) (hk : as.length = k) (hlen : st.length ≤ 8) (hR : f2 + 1 ≤ f ∧ 8 + (n2 + 11) + nw2 ≤ nw) (K : ∀ (r : Int) (μ' : zM), zR r → post r μ' → zJ X nL μ' (pc + 3) L (.inl r :: st)) : zJ X nL μ pc L st0 := by
  obtain ⟨p, l, e, R, s, m, args, below, meth, c, Q, A, G, cells, slots⟩ := X
  obtain ⟨hx, hb, hml, hown, hts, hbig, hA, hD, hE, hr1, hr2, hr3, hr4⟩ := C
  obtain ⟨⟨y1, y2, y3, y4, y5⟩, y6⟩ := Y
  subst hst
  intro hr H locs ls hP hS hl
  have hle : ∀ q, zA G H.size q → A q := by
    rintro q (⟨j, hj, rfl⟩ | hq)
    · exact zD_A hD hj
    · exact hA q (Nat.le_trans hS.1 hq)
  have hcw : va_CN R s args own idx y RX5 bytes n2 (some ty) (zws y bytes n2 (some ty)) (zrm f2 nw2) 0 0 k ∧ (Cond.static y).before args s = true ∧ True := ⟨va_cnB k hts (zGood hbig y1) rfl rfl rfl (hE.2.1 _ hl0) (hts _ (hbig _ y2)) ⟨y3, y4, y5⟩ ⟨Nat.le_trans hR.1 hr1, Nat.le_trans hR.2 hr2⟩, hts _ (hbig _ y6), trivial⟩
  refine va_calli (va_runSN (As := as.map (zv G)) (rest := st.map (zv G)) (g := F0 m pc ls _) ⟨hx, hb, hml, hown, hts⟩ (M G H.size hr) hcw ⟨zPc_blind G H.size _ μ, fun U hU hW => ⟨rfl, by rw [hU], by rw [hU]; exact hP, zD_weak (zD_any μ hD) (fun _ _ => trivial), zE_call hE hS hle hU hW⟩⟩ rfl (by rw [List.length_map, hk]) hl.1 (by simp [zv]) (lv_room (by rw [zsum]; exact hlen)) d ⟨hr3, hr4⟩) hS (fun q _ h => hle q h) hle (fun r u t H1 locs1 ht hvm hw hB hz1 hk1 hS1 => ?_)
  obtain ⟨r', μ'⟩ := u
  obtain ⟨hre, hrR, hrm, hpost⟩ := hw
  subst hre
  have hP1 : va_P G.1 vwCl (zW G μ') H1 := by rw [← ht]; exact hB
  exact K r' μ' hrR hpost hrm H1 locs1 ls hP1 hS1 hl
end ZR3
/-- a method whose answer is an int, a boolean or a char -/
theorem zMi_of {l : Launch} {y : MethodName} {cc : ByteArray} {nL f nw : Nat} {ty : FieldType} {as : List zV} {μ : zM} {post : Int → zM → Prop} {own : String} (hy : plainName y.cls = true) (hown : y.cls = own) (hn : as.length ≤ nL)
    (body : ∀ X : zX, zl X = l → zC X nL cc own (zws y cc nL (some ty)) f nw → zRM μ → (∀ {pc : Nat} {μ' : zM} {L : List (Nat × zV)} {r : Int}, decode cc pc = .ok (.ireturn, 1) → zR r → narrow ty (.int (iI r)) = .int (iI r) → post r μ' → zJ X nL μ' pc L [.inl r]) → zJ X nL μ 0 (zent 0 as) []) : zMi l y cc nL ty f nw as μ post := by
  intro G sz hr
  refine Met.ofW (cc := cc) (maxL := nL) (ret := some ty) hy rfl ?_
  intro p e s m args below meth c s₁ B hml hv
  obtain ⟨rfl, hsz, hP, hD0, hE⟩ := hv
  subst hsz
  have hx := B.exec
  have hb := B.bytes
  have hrt := B.returns
  have hlocks := B.notSynchronized
  have hts := atoms_spec (ws := zws y cc nL (some ty)) B.pre
  have hcls : s.vm.findClass own = some m.cls := hown ▸ findClass_of_methodNamed B.named
  have hl := lv_entry (as.map (zv G)) (n := nL) (by rw [zsl_len]; exact hn)
  rw [lg_entry_eq]
  rw [zent_args] at hl
  have hA : ∀ q : Nat, s.heap.size ≤ q → zA G s.heap.size q := fun q h => Or.inr h
  have hD : va_D (zA G s.heap.size) (zW G (fun _ _ => 0)) := zD_weak (zD_any _ hD0) (fun i hi => Or.inl ⟨i, hi, rfl⟩)
  have J := body (p, l, e, (headSpec (zws y cc nL (some ty)) (zrm f nw)).room, s, m, (as.map (zv G)).toArray, below, meth, c, MQ below (va_Qi (fun (r : Int32) (u : Int × zM) => r = iI u.1 ∧ zR u.1 ∧ zRM u.2 ∧ post u.1 u.2) (fun u t => va_P G.1 vwCl (zW G u.2) t.heap) (zA G s.heap.size)) (as.map (zv G)).toArray s 0 0 (zA G s.heap.size), zA G s.heap.size, G, 0, 0) rfl ⟨hx, hb, hml, hcls, hts, fun w hw => List.mem_cons_of_mem _ hw, hA, hD, hE, Nat.le_refl _, Nat.le_refl _, Nat.zero_le _, Nat.zero_le _⟩ hr (by
    intro pc μ' L r d hR hn hp hrm H locs ls hP hS hl
    exact W.zret (v := iI r) hx hb hrt hn (fun t ht hW => ⟨⟨iI r, (r, μ'), rfl, ⟨rfl, hR, hrm, hp⟩, by show va_P G.1 vwCl (zW G μ') t.heap; rw [ht]; exact hP⟩, hS.F ht⟩) hS.2.2 d)
  exact J hr s.heap [] _ hP va_S.rf hl
theorem zMv_of {l : Launch} {y : MethodName} {cc : ByteArray} {nL f nw : Nat} {as : List zV} {μ : zM} {post : zM → Prop} {own : String} (hy : plainName y.cls = true) (hown : y.cls = own) (hn : as.length ≤ nL)
    (body : ∀ X : zX, zl X = l → zC X nL cc own (zws y cc nL none) f nw → zRM μ → (∀ {pc : Nat} {μ' : zM} {L : List (Nat × zV)}, decode cc pc = .ok (.return_, 1) → post μ' → zJ X nL μ' pc L []) → zJ X nL μ 0 (zent 0 as) []) : zMv l y cc nL f nw as μ post := by
  intro G sz hr
  refine Met.ofW (cc := cc) (maxL := nL) (ret := none) hy rfl ?_
  intro p e s m args below meth c s₁ B hml hv
  obtain ⟨rfl, hsz, hP, hD0, hE⟩ := hv
  subst hsz
  have hx := B.exec
  have hb := B.bytes
  have hrt := B.returns
  have hlocks := B.notSynchronized
  have hts := atoms_spec (ws := zws y cc nL none) B.pre
  have hcls : s.vm.findClass own = some m.cls := hown ▸ findClass_of_methodNamed B.named
  have hl := lv_entry (as.map (zv G)) (n := nL) (by rw [zsl_len]; exact hn)
  rw [lg_entry_eq]
  rw [zent_args] at hl
  have hA : ∀ q : Nat, s.heap.size ≤ q → zA G s.heap.size q := fun q h => Or.inr h
  have hD : va_D (zA G s.heap.size) (zW G (fun _ _ => 0)) := zD_weak (zD_any _ hD0) (fun i hi => Or.inl ⟨i, hi, rfl⟩)
  have J := body (p, l, e, (headSpec (zws y cc nL none) (zrm f nw)).room, s, m, (as.map (zv G)).toArray, below, meth, c, MQ below (va_Qv (fun (u : zM) => zRM u ∧ post u) (fun u t => va_P G.1 vwCl (zW G u) t.heap) (zA G s.heap.size)) (as.map (zv G)).toArray s 0 0 (zA G s.heap.size), zA G s.heap.size, G, 0, 0) rfl ⟨hx, hb, hml, hcls, hts, fun w hw => List.mem_cons_of_mem _ hw, hA, hD, hE, Nat.le_refl _, Nat.le_refl _, Nat.zero_le _, Nat.zero_le _⟩ hr (by
    intro pc μ' L d hp hrm H locs ls hP hS hl
    exact W.vret hx hb hrt (fun t ht hW => ⟨⟨μ', rfl, ⟨hrm, hp⟩, by show va_P G.1 vwCl (zW G μ') t.heap; rw [ht]; exact hP⟩, hS.F ht⟩) hS.2.2 d)
  exact J hr s.heap [] _ hP va_S.rf hl
theorem zMr_of {l : Launch} {y : MethodName} {cc : ByteArray} {nL f nw : Nat} {nm : String} {as : List zV} {μ : zM} {post : Nat → zM → Prop} {own : String} (hy : plainName y.cls = true) (hown : y.cls = own) (hn : as.length ≤ nL)
    (body : ∀ X : zX, zl X = l → zC X nL cc own (zws y cc nL (some (.object nm))) f nw → zRM μ → (∀ {pc : Nat} {μ' : zM} {L : List (Nat × zV)} {r : Nat}, decode cc pc = .ok (.areturn, 1) → post r μ' → zJ X nL μ' pc L [.inr r]) → zJ X nL μ 0 (zent 0 as) []) : zMr l y cc nL (.object nm) f nw as μ post := by
  intro G sz hr
  refine Met.ofW (cc := cc) (maxL := nL) (ret := some (.object nm)) hy rfl ?_
  intro p e s m args below meth c s₁ B hml hv
  obtain ⟨rfl, hsz, hP, hD0, hE⟩ := hv
  subst hsz
  have hx := B.exec
  have hb := B.bytes
  have hrt := B.returns
  have hlocks := B.notSynchronized
  have hts := atoms_spec (ws := zws y cc nL (some (.object nm))) B.pre
  have hcls : s.vm.findClass own = some m.cls := hown ▸ findClass_of_methodNamed B.named
  have hl := lv_entry (as.map (zv G)) (n := nL) (by rw [zsl_len]; exact hn)
  rw [lg_entry_eq]
  rw [zent_args] at hl
  have hA : ∀ q : Nat, s.heap.size ≤ q → zA G s.heap.size q := fun q h => Or.inr h
  have hD : va_D (zA G s.heap.size) (zW G (fun _ _ => 0)) := zD_weak (zD_any _ hD0) (fun i hi => Or.inl ⟨i, hi, rfl⟩)
  have J := body (p, l, e, (headSpec (zws y cc nL (some (.object nm))) (zrm f nw)).room, s, m, (as.map (zv G)).toArray, below, meth, c, MQ below (va_Qr (fun (u : Nat × zM) => zRM u.2 ∧ post u.1 u.2) (fun u a t => a = G.2.2.2 u.1 ∧ va_P G.1 vwCl (zW G u.2) t.heap) (zA G s.heap.size)) (as.map (zv G)).toArray s 0 0 (zA G s.heap.size), zA G s.heap.size, G, 0, 0) rfl ⟨hx, hb, hml, hcls, hts, fun w hw => List.mem_cons_of_mem _ hw, hA, hD, hE, Nat.le_refl _, Nat.le_refl _, Nat.zero_le _, Nat.zero_le _⟩ hr (by
    intro pc μ' L r d hp hrm H locs ls hP hS hl
    exact W.aret (v := .ref (G.2.2.2 r)) hx hb hrt (Or.inl ⟨nm, rfl⟩) (Or.inr ⟨_, rfl⟩) (fun t ht hW => ⟨⟨(r, μ'), G.2.2.2 r, rfl, ⟨hrm, hp⟩, rfl, by show va_P G.1 vwCl (zW G μ') t.heap; rw [ht]; exact hP⟩, hS.F ht⟩) hS.2.2 d)
  exact J hr s.heap [] _ hP va_S.rf hl
theorem z_nb {r : Int} (h : r = 0 ∨ r = 1) : narrow .boolean (.int (iI r)) = .int (iI r) := by
  rcases h with rfl | rfl <;> decide
